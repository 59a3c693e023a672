section
-- ===== PART A: goes FIRST, ahead of the names: the tables' words, and 'selects' of the private methods out of them =====
/-- a private method of a class that the tables say can be made, by its rows of tables_1 -/
def lw_okq (q : MethodName × Nat) : Prop := (q.1.cls ≠ "java/lang/invoke/MethodHandle" ∧ q.1.cls ≠ "java/lang/invoke/VarHandle") ∧ Cond.instantiable q.1.cls q.2 ∈ tables_1 ∧ Cond.privateMethod q.1 ∈ tables_1 ∧ Cond.instanceMethod q.1 ∈ tables_1
theorem lw_p0 : lw_okq (⟨"RevisionStores", "storeAt", "(I)LRevisionStores$Store;"⟩, 3) := ⟨⟨by decide +kernel, by decide +kernel⟩, List.mem_of_getElem? (i := 23) (by decide +kernel), List.mem_of_getElem? (i := 156) (by decide +kernel), List.mem_of_getElem? (i := 157) (by decide +kernel)⟩
theorem lw_p1 : lw_okq (⟨"java/lang/Throwable", "fillInStackTrace", "(I)Ljava/lang/Throwable;"⟩, 6) := ⟨⟨by decide +kernel, by decide +kernel⟩, List.mem_of_getElem? (i := 198) (by decide +kernel), List.mem_of_getElem? (i := 196) (by decide +kernel), List.mem_of_getElem? (i := 197) (by decide +kernel)⟩
theorem lw_p2 : lw_okq (⟨"RevisionStores", "checkDocument", "(I)V"⟩, 3) := ⟨⟨by decide +kernel, by decide +kernel⟩, List.mem_of_getElem? (i := 23) (by decide +kernel), List.mem_of_getElem? (i := 228) (by decide +kernel), List.mem_of_getElem? (i := 229) (by decide +kernel)⟩
theorem lw_p3 : lw_okq (⟨"RevisionStores", "checkRevision", "(I)V"⟩, 3) := ⟨⟨by decide +kernel, by decide +kernel⟩, List.mem_of_getElem? (i := 23) (by decide +kernel), List.mem_of_getElem? (i := 233) (by decide +kernel), List.mem_of_getElem? (i := 234) (by decide +kernel)⟩
theorem lw_p4 : lw_okq (⟨"RevisionStores", "checkLeaf", "(LRevisionStores$Store;II)V"⟩, 3) := ⟨⟨by decide +kernel, by decide +kernel⟩, List.mem_of_getElem? (i := 23) (by decide +kernel), List.mem_of_getElem? (i := 238) (by decide +kernel), List.mem_of_getElem? (i := 239) (by decide +kernel)⟩
theorem lw_p5 : lw_okq (⟨"RevisionStores", "checkRoom", "()V"⟩, 3) := ⟨⟨by decide +kernel, by decide +kernel⟩, List.mem_of_getElem? (i := 23) (by decide +kernel), List.mem_of_getElem? (i := 267) (by decide +kernel), List.mem_of_getElem? (i := 268) (by decide +kernel)⟩
theorem lw_p6 : lw_okq (⟨"RevisionStores", "grow", "(LRevisionStores$Store;IIIZ)I"⟩, 3) := ⟨⟨by decide +kernel, by decide +kernel⟩, List.mem_of_getElem? (i := 23) (by decide +kernel), List.mem_of_getElem? (i := 272) (by decide +kernel), List.mem_of_getElem? (i := 273) (by decide +kernel)⟩
theorem lw_p7 : lw_okq (⟨"RevisionStores$Store", "noteChange", "(LRevisionStores$Tree;I)V"⟩, 5) := ⟨⟨by decide +kernel, by decide +kernel⟩, List.mem_of_getElem? (i := 98) (by decide +kernel), List.mem_of_getElem? (i := 288) (by decide +kernel), List.mem_of_getElem? (i := 289) (by decide +kernel)⟩
theorem lw_p8 : lw_okq (⟨"RevisionStores$Holding", "findLeaves", "(LRevisionStores$Tree;)V"⟩, 3) := ⟨⟨by decide +kernel, by decide +kernel⟩, List.mem_of_getElem? (i := 77) (by decide +kernel), List.mem_of_getElem? (i := 296) (by decide +kernel), List.mem_of_getElem? (i := 297) (by decide +kernel)⟩
theorem lw_p9 : lw_okq (⟨"RevisionStores$Holding", "findWinners", "(LRevisionStores$Tree;)V"⟩, 3) := ⟨⟨by decide +kernel, by decide +kernel⟩, List.mem_of_getElem? (i := 77) (by decide +kernel), List.mem_of_getElem? (i := 304) (by decide +kernel), List.mem_of_getElem? (i := 305) (by decide +kernel)⟩
theorem lw_p10 : lw_okq (⟨"RevisionStores", "checkNotBegun", "(LRevisionStores$Store;I)V"⟩, 3) := ⟨⟨by decide +kernel, by decide +kernel⟩, List.mem_of_getElem? (i := 23) (by decide +kernel), List.mem_of_getElem? (i := 354) (by decide +kernel), List.mem_of_getElem? (i := 355) (by decide +kernel)⟩
theorem lw_p11 : lw_okq (⟨"RevisionStores", "checkDifferent", "(II)V"⟩, 3) := ⟨⟨by decide +kernel, by decide +kernel⟩, List.mem_of_getElem? (i := 23) (by decide +kernel), List.mem_of_getElem? (i := 364) (by decide +kernel), List.mem_of_getElem? (i := 365) (by decide +kernel)⟩
theorem lw_p12 : lw_okq (⟨"RevisionStores", "commonCheckpoint", "(II)I"⟩, 3) := ⟨⟨by decide +kernel, by decide +kernel⟩, List.mem_of_getElem? (i := 23) (by decide +kernel), List.mem_of_getElem? (i := 369) (by decide +kernel), List.mem_of_getElem? (i := 370) (by decide +kernel)⟩
theorem lw_p13 : lw_okq (⟨"RevisionStores$Holding", "addLine", "(LRevisionStores$Tree;LRevisionStores$Holding;I)I"⟩, 3) := ⟨⟨by decide +kernel, by decide +kernel⟩, List.mem_of_getElem? (i := 77) (by decide +kernel), List.mem_of_getElem? (i := 389) (by decide +kernel), List.mem_of_getElem? (i := 390) (by decide +kernel)⟩
def lw_privs_1 : List (MethodName × Nat) := [(⟨"RevisionStores", "storeAt", "(I)LRevisionStores$Store;"⟩, 3), (⟨"java/lang/Throwable", "fillInStackTrace", "(I)Ljava/lang/Throwable;"⟩, 6), (⟨"RevisionStores", "checkDocument", "(I)V"⟩, 3), (⟨"RevisionStores", "checkRevision", "(I)V"⟩, 3), (⟨"RevisionStores", "checkLeaf", "(LRevisionStores$Store;II)V"⟩, 3), (⟨"RevisionStores", "checkRoom", "()V"⟩, 3), (⟨"RevisionStores", "grow", "(LRevisionStores$Store;IIIZ)I"⟩, 3), (⟨"RevisionStores$Store", "noteChange", "(LRevisionStores$Tree;I)V"⟩, 5), (⟨"RevisionStores$Holding", "findLeaves", "(LRevisionStores$Tree;)V"⟩, 3), (⟨"RevisionStores$Holding", "findWinners", "(LRevisionStores$Tree;)V"⟩, 3), (⟨"RevisionStores", "checkNotBegun", "(LRevisionStores$Store;I)V"⟩, 3), (⟨"RevisionStores", "checkDifferent", "(II)V"⟩, 3), (⟨"RevisionStores", "commonCheckpoint", "(II)I"⟩, 3), (⟨"RevisionStores$Holding", "addLine", "(LRevisionStores$Tree;LRevisionStores$Holding;I)I"⟩, 3)]
theorem lw_r1 : ∀ q ∈ lw_privs_1, lw_okq q := List.forall_mem_cons.mpr ⟨lw_p0, List.forall_mem_cons.mpr ⟨lw_p1, List.forall_mem_cons.mpr ⟨lw_p2, List.forall_mem_cons.mpr ⟨lw_p3, List.forall_mem_cons.mpr ⟨lw_p4, List.forall_mem_cons.mpr ⟨lw_p5, List.forall_mem_cons.mpr ⟨lw_p6, List.forall_mem_cons.mpr ⟨lw_p7, List.forall_mem_cons.mpr ⟨lw_p8, List.forall_mem_cons.mpr ⟨lw_p9, List.forall_mem_cons.mpr ⟨lw_p10, List.forall_mem_cons.mpr ⟨lw_p11, List.forall_mem_cons.mpr ⟨lw_p12, List.forall_mem_cons.mpr ⟨lw_p13, fun _ h => absurd h List.not_mem_nil⟩⟩⟩⟩⟩⟩⟩⟩⟩⟩⟩⟩⟩⟩
def lw_privs : List (MethodName × Nat) := lw_privs_1
def lw_tbl : List Cond := k2_sels lw_privs ++ tables_1
theorem lw_privs_ok : ∀ q ∈ lw_privs, lw_okq q := lw_r1
end
section
/-! ===== BEGIN words of one list among another's, by their places ===== -/
theorem goodIn_r {big : List Cond} (ws : List Cond) (ps : List Nat) (hp : ws = ps.filterMap (fun i => big[i]?)) (h : ws.all goodWord = true) : GoodIn big ws := by
  intro w hw
  have h1 := List.all_eq_true.mp h w hw
  rw [hp] at hw
  obtain ⟨i, -, hi⟩ := List.mem_filterMap.mp hw
  have hm : w ∈ big := by first | exact List.mem_of_getElem? hi | exact List.getElem?_mem hi
  exact ⟨hm, good_of_word h1⟩
theorem goodIn_app {big a b : List Cond} (ha : GoodIn big a) (hb : GoodIn big b) : GoodIn big (a ++ b) := fun w h => (List.mem_append.mp h).elim (ha w) (hb w)
theorem goodIn_ca {big a b : List Cond} {c : Cond} (ha : GoodIn big (c :: a)) (hb : GoodIn big b) : GoodIn big (c :: (a ++ b)) := fun w h => (List.mem_cons.mp h).elim (fun e => ha w (List.mem_cons.mpr (Or.inl e))) (fun h => (List.mem_append.mp h).elim (fun h => ha w (List.mem_cons.mpr (Or.inr h))) (hb w))
theorem goodIn_sub {big ws : List Cond} (hm : ∀ w ∈ ws, w ∈ big) (h : ws.all goodWord = true) : GoodIn big ws := fun w hw => ⟨hm w hw, good_of_word (List.all_eq_true.mp h w hw)⟩
/-! ===== END ===== -/

/-! ===== BEGIN exceptions that leave a method, and their catching by the caller (launches without stack traces) ===== -/
section VXA
/-! The laws vx_back, vx_callV, vx_callS, vx_callSW, vx_throw0, vx_throwS follow proofs of the library, with one case more: JvmDerived/Free/Laws.lean (Back.of_free), Shelf42/LK1.lean (callV, callS), Shelf/KitTraced.lean (throwNew0V, throwNewS). -/
/-- where a method has thrown q: the class by its name, the cell, what was written, the world -/
def vx_T (XC : String → State → State → Prop) (st : State) (q : Addr) (t : State) (mc ms : Nat) (free : Addr → Prop) : Prop :=
  ∃ (E : String) (ce : Cell) (L : List Loc), XC E st t ∧ t.heap[q]? = some ce ∧ ce.vm = .none ∧ st.vm.findClass E = some ce.cls ∧ st.WarmedH t.vm ∧ st.sameButNew ({ t with vm := st.vm } : State) L mc ms ∧ ∀ z ∈ L, free z.base
def vx_Q (Qc : Array Value → State → Outcome → State → Prop) (XC : String → State → State → Prop) (mc ms : Nat) (free : Addr → Prop) : Array Value → State → Outcome → State → Prop := fun a st o t =>
  (Qc a st o t ∧ ∃ L, FrameEnd st o t L mc ms ∧ ∀ q ∈ L, free q.base) ∨ ∃ q, o = .threw q ∧ vx_T XC st q t mc ms free
/-- a callee that returns or throws -/
def vx_Met (l : Launch) (y : MethodName) (ws : List Cond) (rm : Room) (Pc : Array Value → State → Prop) (Qc : Array Value → State → Outcome → State → Prop) (XC : String → State → State → Prop) (mc ms : Nat) (free : Addr → Prop) : Prop :=
  MetFree l y (headSpec ws rm) Pc (fun _ _ _ _ _ => True) (vx_Q Qc XC mc ms free)
def vx_Post (XC : String → State → State → Prop) (mc ms : Nat) (free : Addr → Prop) : Pt → Array Value → Addr → Pt → Prop := fun A a q B =>
  ∃ (g : JFrame) (mk : MethodId) (t : State) (L : List Loc) (E : String) (ce : Cell), B.U.heap = t.heap ∧ B.U.vm = t.vm ∧ XC E (A.U.calling g mk a) t ∧ t.heap[q]? = some ce ∧ ce.vm = .none ∧ A.U.vm.findClass E = some ce.cls ∧ B.locs = A.locs ++ L ∧ (∀ z ∈ L, free z.base) ∧ B.cells = A.cells + mc ∧ B.slots = A.slots + ms
def vx_Back (l : Launch) (R : Room) (p : Program) (e : Env) (below : List Frame) (s : State) (sargs : Array Value) (y : MethodName) (len W9 : Nat)
    (Pre : Pt → Array Value → Prop) (Post : Pt → Array Value → Option Value → Pt → Prop) (PostX : Pt → Array Value → Addr → Pt → Prop) : Prop :=
  ∀ (m : MethodId) (meth : Method) (c : Code) (A : Pt) (g : JFrame) (ig : Instr) (mk : MethodId) (a : Array Value),
    Stand p l e R s m sargs below meth c A.U A.locs A.cells A.slots → g.method = m → g.locals.size = c.maxLocals → decode c.code g.pc = .ok (ig, len) →
    2 * g.monitorRoom + (g.stack.map fun v => v.category).sum ≤ W9 → A.U.methodNamed? y = some mk → Pre A a →
    (∃ (v : Option Value) (B : Pt), Stand p l e R s m sargs below meth c B.U B.locs B.cells B.slots ∧ Post A a v B ∧
      Steps p.tables e below (doInvoke e (A.U.setTop g) [] mk a).1 (B.U.setTop { g with pc := g.pc + len, stack := v.toList ++ g.stack })) ∨
    (∃ (q : Addr) (B : Pt), Stand p l e R s m sargs below meth c B.U B.locs B.cells B.slots ∧ PostX A a q B ∧
      Steps p.tables e below (doInvoke e (A.U.setTop g) [] mk a).1 ((B.U.setTop g).pushFrame (.throwing q)))
section Payer
variable {l : Launch} {R : Room} {p : Program} {e : Env} {below : List Frame} {s : State} {sargs : Array Value} {y : MethodName} {len W9 : Nat}
theorem vx_back {ws : List Cond} {rm : Room} {Pc : Array Value → State → Prop} {Qc : Array Value → State → Outcome → State → Prop} {XC : String → State → State → Prop} {mc ms : Nat} {free : Addr → Prop} {bytes : ByteArray} {maxL : Nat} {ret : Option FieldType}
    (hM : vx_Met l y ws rm Pc Qc XC mc ms free) (hblind : FrameBlind Pc) (hrc : rm.cells = mc) (hrs : rm.slots = ms)
    (hframes : rm.frames + 1 ≤ R.frames) (hlocals : W9 + (maxL + 11) + rm.locals ≤ R.locals)
    (hws : ∀ w ∈ ws, ∀ a' U, s.WarmedH U.vm → w.before a' U = true) (hcode : Cond.code y bytes maxL ret ∈ ws) (hinit : ∀ a' U, s.WarmedH U.vm → (Cond.initialized y.cls).before a' U = true) :
    vx_Back l R p e below s sargs y len W9 (PreOf R mc ms Pc) (PostOf Qc mc ms free) (vx_Post XC mc ms free) := by
  intro m meth c A g ig mk a X hg hsize hdg hW hn hp
  have h1 : (headSpec ws rm).pre.before a A.U = true := atoms_intro fun w hw => hws w hw _ _ X.warmed
  have h2 : (Cond.code y bytes maxL ret).before a A.U = true := hws _ hcode _ _ X.warmed
  have h3 : (Cond.initialized y.cls).before a A.U = true := hinit _ _ X.warmed
  have h4 : A.cells + (headSpec ws rm).room.cells ≤ R.cells := by rw [show (headSpec ws rm).room.cells = mc from hrc]; exact hp.1
  have h5 : A.slots + (headSpec ws rm).room.slots ≤ R.slots := by rw [show (headSpec ws rm).room.slots = ms from hrs]; exact hp.2.1
  have hPc : Pc a (A.U.calling g mk a) := hblind _ _ _ _ hp.2.2
  obtain ⟨U, Ls, c0, s0⟩ := A
  dsimp only [Pt.U, Pt.locs, Pt.cells, Pt.slots] at h1 h2 h3 h4 h5 X hn hPc ⊢
  obtain ⟨methY, cY, hmY, hcY, -, hlY, -, -, -, -⟩ := Cond.code_spec hn h2
  obtain ⟨kY, hkY, -⟩ := className_of_methodNamed hn
  have hinitY : kY.init = .initialized := Cond.initialized_spec (findClass_of_methodNamed hn) hkY h3
  have h : At U g.method c below := by rw [hg]; exact X.here
  have hlocals9 : W9 + (maxL + 11) + (headSpec ws rm).room.locals ≤ R.locals := hlocals
  have happ : (headSpec ws rm).appliesLoose y e.platform (U.calling g mk a) = true :=
    Spec.appliesLoose_calling (g := g) h hdg hn hkY hinitY
      (X.room_calling (g := g) (R' := (headSpec ws rm).room) hsize hmY hcY hframes (by rw [hlY]; omega) h4 h5) h1
  obtain ⟨mid, hmid⟩ := h.above
  have hfr : (U.setTop g).frames = (.java g :: mid) ++ below := by rw [State.frames_setTop' g h.top, hmid]; rfl
  obtain ⟨o, s₂, hsteps, -, hend, hq⟩ := Steps.callFree hM p X.admits X.cas X.clock (acts := []) hfr happ hPc trivial
  have hq' : vx_Q Qc XC mc ms free a (U.calling g mk a) o s₂ := hq
  rw [State.frames_setTop' g h.top] at hend
  obtain ⟨g₀, hg0⟩ := Option.isSome_iff_exists.mp h.top
  obtain ⟨r, hr⟩ := State.topJava?_eq_some.mp hg0
  have hr' : (({ U with heap := s₂.heap, slotsUsed := s₂.slotsUsed } : State).setVm s₂.vm).frames = .java g₀ :: r := hr
  rcases hq' with ⟨hqc, L, hfe, hL⟩ | ⟨q, rfl, E, ce, L, hx, hce, hcv, hcl, hW₂, hsm, hL⟩
  · obtain ⟨⟨v, rfl⟩, hW₂, e2, q2, q3, q4, q5, q6⟩ := id hfe
    have e3 : s₂ = ({ (U.calling g mk a).setFrames s₂.frames with heap := s₂.heap, slotsUsed := s₂.slotsUsed } : State).setVm s₂.vm := by
      have : s₂ = ({ s₂ with vm := (U.calling g mk a).vm } : State).setVm s₂.vm := rfl
      rw [e2] at this
      exact this
    obtain ⟨c₂, i₂, len₂, hc₂, hd₂, hf₂⟩ := hend
    have hW' : U.WarmedH s₂.vm := hW₂
    have hcc : c₂ = c := by
      have h1 : s₂.code? g.method = U.code? g.method := by
        rw [State.code?_eq, State.code?_eq, hW'.alike.method?]
      exact Option.some.inj (hc₂.symm.trans (h1.trans h.code))
    subst hcc
    have hlen : len₂ = len := by rw [hdg] at hd₂; cases hd₂; rfl
    subst hlen
    have hs₂ : s₂ = (({ U with heap := s₂.heap, slotsUsed := s₂.slotsUsed } : State).setVm s₂.vm).setTop { g with pc := g.pc + len₂, stack := v.toList ++ g.stack } := by
      refine e3.trans ?_
      rw [hf₂, State.calling_eq h.top, State.setFrames_setFrames, State.setTop_of_frames _ hr', hr]
      rfl
    have hsame : U.sameButNew ({ U with heap := s₂.heap, slotsUsed := s₂.slotsUsed } : State) L mc ms := by
      refine ⟨?_, q2, q3, q4, q5, q6⟩
      obtain ⟨t, ht, -⟩ := State.frames_cons hr
      show ({ U with heap := s₂.heap, slotsUsed := s₂.slotsUsed } : State) = { U.setFrames U.frames with heap := s₂.heap, slotsUsed := s₂.slotsUsed }
      rw [State.setFrames_self ht]
    subst hg
    refine Or.inl ⟨v, ⟨(({ U with heap := s₂.heap, slotsUsed := s₂.slotsUsed } : State).setVm s₂.vm), Ls ++ L, c0 + mc, s0 + ms⟩,
      ⟨X.admits, X.cas, X.clock, X.frames, X.room, X.hears, X.method, X.code, (X.here.setHeapUsed s₂.heap s₂.slotsUsed).setVm hW'.alike, X.tail, State.WarmedH.trans X.warmed hW', X.limits, X.bytes, X.same.trans (hsame.setVm s.vm)⟩,
      ⟨g, mk, s₂, L, rfl, rfl, hqc, rfl, hL, rfl, rfl⟩, ?_⟩
    show Steps p.tables e below _ ((({ U with heap := s₂.heap, slotsUsed := s₂.slotsUsed } : State).setVm s₂.vm).setTop { g with pc := g.pc + len₂, stack := v.toList ++ g.stack })
    rw [← hs₂]
    exact hsteps
  · obtain ⟨e2, q2, q3, q4, q5, q6⟩ := id hsm
    have e3 : s₂ = ({ (U.calling g mk a).setFrames s₂.frames with heap := s₂.heap, slotsUsed := s₂.slotsUsed } : State).setVm s₂.vm := by
      have : s₂ = ({ s₂ with vm := (U.calling g mk a).vm } : State).setVm s₂.vm := rfl
      rw [e2] at this
      exact this
    have hf₂ : s₂.frames = .throwing q :: .java g :: U.frames.tail := hend
    have hW' : U.WarmedH s₂.vm := hW₂
    have hs₂ : s₂ = ((({ U with heap := s₂.heap, slotsUsed := s₂.slotsUsed } : State).setVm s₂.vm).setTop g).pushFrame (.throwing q) := by
      refine e3.trans ?_
      rw [hf₂, State.calling_eq h.top, State.setFrames_setFrames, State.pushFrame, State.frames_setTop _ hr', State.setTop_of_frames _ hr', State.setFrames_setFrames, hr]
      rfl
    have hsame : U.sameButNew ({ U with heap := s₂.heap, slotsUsed := s₂.slotsUsed } : State) L mc ms := by
      refine ⟨?_, q2, q3, q4, q5, q6⟩
      obtain ⟨t, ht, -⟩ := State.frames_cons hr
      show ({ U with heap := s₂.heap, slotsUsed := s₂.slotsUsed } : State) = { U.setFrames U.frames with heap := s₂.heap, slotsUsed := s₂.slotsUsed }
      rw [State.setFrames_self ht]
    subst hg
    refine Or.inr ⟨q, ⟨(({ U with heap := s₂.heap, slotsUsed := s₂.slotsUsed } : State).setVm s₂.vm), Ls ++ L, c0 + mc, s0 + ms⟩,
      ⟨X.admits, X.cas, X.clock, X.frames, X.room, X.hears, X.method, X.code, (X.here.setHeapUsed s₂.heap s₂.slotsUsed).setVm hW'.alike, X.tail, State.WarmedH.trans X.warmed hW', X.limits, X.bytes, X.same.trans (hsame.setVm s.vm)⟩,
      ⟨g, mk, s₂, L, E, ce, rfl, rfl, hx, hce, hcv, hcl, rfl, hL, rfl, rfl⟩, ?_⟩
    show Steps p.tables e below _ (((({ U with heap := s₂.heap, slotsUsed := s₂.slotsUsed } : State).setVm s₂.vm).setTop g).pushFrame (.throwing q))
    rw [← hs₂]
    exact hsteps
end Payer
section Calls
variable {p : Program} {l : Launch} {e : Env} {R : Room} {s : State} {m : MethodId} {args : Array Value} {below : List Frame} {meth : Method} {c : Code} {T : State} {locs : List Loc} {cells slots : Nat}
theorem vx_callV (X : Stand p l e R s m args below meth c T locs cells slots) (hexec : p.tables.exec = Jvm.exec) {own C : String} {index : Nat} {y : MethodName} {bytes : ByteArray} {maxL : Nat} {ret : Option FieldType}
    (hown : s.vm.findClass own = some m.cls) (hlink : (Cond.methodLink own index y).before args s = true) (hinst : (Cond.instanceMethod y).before args s = true) (hsel : (Cond.selects C y y).before args s = true)
    (hcode : (Cond.code y bytes maxL ret).before args s = true) (hy : y.cls ≠ "java/lang/invoke/MethodHandle" ∧ y.cls ≠ "java/lang/invoke/VarHandle")
    {W9 : Nat} {Pre : Pt → Array Value → Prop} {Post : Pt → Array Value → Option Value → Pt → Prop} {PostX : Pt → Array Value → Addr → Pt → Prop} (hK : vx_Back l R p e below s args y 3 W9 Pre Post PostX)
    {b : Addr} {cellB : Cell} (hcell : T.heap[b]? = some cellB) (hobj : cellB.vm.isStatics = false) (hcls : s.vm.findClass C = some cellB.cls)
    {g : JFrame} (hg : g.method = m) (hsize : g.locals.size = c.maxLocals) {argsL rest : List Value} (hlen : ∀ sig, parseMethodDescriptor y.desc = some sig → argsL.length = sig.parameters.length)
    (hstack : g.stack = argsL.reverse ++ .ref b :: rest) (hW : 2 * g.monitorRoom + (rest.map fun v => v.category).sum ≤ W9) (hdg : decode c.code g.pc = .ok (.invokevirtual index, 3))
    (hpre : ∀ vm₁, s.WarmedH vm₁ → Pre ⟨T.setVm vm₁, locs, cells, slots⟩ (Value.ref b :: argsL).toArray) :
    (∃ (v : Option Value) (vm₁ : Vm) (B : Pt), s.WarmedH vm₁ ∧ Stand p l e R s m args below meth c B.U B.locs B.cells B.slots ∧ Post ⟨T.setVm vm₁, locs, cells, slots⟩ (Value.ref b :: argsL).toArray v B ∧
      ∀ target, Steps p.tables e below (B.U.setTop { g with pc := g.pc + 3, stack := v.toList ++ rest }) target → Steps p.tables e below (T.setTop g) target) ∨
    (∃ (q : Addr) (vm₁ : Vm) (B : Pt), s.WarmedH vm₁ ∧ Stand p l e R s m args below meth c B.U B.locs B.cells B.slots ∧ PostX ⟨T.setVm vm₁, locs, cells, slots⟩ (Value.ref b :: argsL).toArray q B ∧
      Steps p.tables e below (T.setTop g) ((B.U.setTop { g with stack := rest }).pushFrame (.throwing q))) := by
  obtain ⟨mk, methM, hnamed, hmethM, hstM, habM⟩ := Cond.instanceMethod_spec hinst
  obtain ⟨methM', cM, hmethM', -, -, -, -, -, -, hsigM⟩ := Cond.code_spec hnamed hcode
  cases hmethM.symm.trans hmethM'
  obtain ⟨c2, r2, m2, q1, q2, q3, q4, kP, hkP, hkPi⟩ := Cond.selects_spec hsel
  cases hcls.symm.trans q1
  cases (State.methodFound?_of_named hnamed hy).symm.trans q2
  cases hnamed.symm.trans q3
  have hselP : selectMethod e.platform s.vm cellB.cls mk = .method mk := by rw [Launch.admits_selectMethod X.admits]; exact q4
  obtain ⟨vm₁, X₁, hstep₁⟩ := X.invokevirtual hexec hown hlink hnamed hmethM hstM hkP hkPi hy (a := b) (cell := cellB) hcell
    (fun z h => by rw [h] at hobj; cases hobj) hselP hmethM habM hkP hkPi (g := g) hg (argsL := argsL) (rest := rest) (hlen _ hsigM) hstack hdg
  rcases hK m meth c ⟨T.setVm vm₁, locs, cells, slots⟩ { g with stack := rest } (.invokevirtual index) mk (Value.ref b :: argsL).toArray X₁ hg hsize hdg hW (X₁.named hnamed) (hpre vm₁ X₁.warmed) with ⟨v, B, X', hpost, hsteps⟩ | ⟨q, B, X', hpost, hsteps⟩
  · exact Or.inl ⟨v, vm₁, B, X₁.warmed, X', hpost, fun target h => hstep₁ _ fun acts => by rw [doInvoke_state]; exact hsteps.trans h⟩
  · exact Or.inr ⟨q, vm₁, B, X₁.warmed, X', hpost, hstep₁ _ fun acts => by rw [doInvoke_state]; exact hsteps⟩
theorem vx_callS (X : Stand p l e R s m args below meth c T locs cells slots) (hexec : p.tables.exec = Jvm.exec) {own : String} {index : Nat} {y : MethodName} {bytes : ByteArray} {maxL : Nat} {ret : Option FieldType}
    (hown : s.vm.findClass own = some m.cls) (hlink : (Cond.methodLink own index y).before args s = true) (hstat : (Cond.static y).before args s = true) (hinit : (Cond.initialized y.cls).before args s = true)
    (hcode : (Cond.code y bytes maxL ret).before args s = true) (hy : y.cls ≠ "java/lang/invoke/MethodHandle" ∧ y.cls ≠ "java/lang/invoke/VarHandle")
    {W9 : Nat} {Pre : Pt → Array Value → Prop} {Post : Pt → Array Value → Option Value → Pt → Prop} {PostX : Pt → Array Value → Addr → Pt → Prop} (hK : vx_Back l R p e below s args y 3 W9 Pre Post PostX)
    {g : JFrame} (hg : g.method = m) (hsize : g.locals.size = c.maxLocals) {argsL rest : List Value} (hlen : ∀ sig, parseMethodDescriptor y.desc = some sig → argsL.length = sig.parameters.length)
    (hstack : g.stack = argsL.reverse ++ rest) (hW : 2 * g.monitorRoom + (rest.map fun v => v.category).sum ≤ W9) (hdg : decode c.code g.pc = .ok (.invokestatic index, 3))
    (hpre : ∀ vm₁, s.WarmedH vm₁ → Pre ⟨T.setVm vm₁, locs, cells, slots⟩ argsL.toArray) :
    (∃ (v : Option Value) (vm₁ : Vm) (B : Pt), s.WarmedH vm₁ ∧ Stand p l e R s m args below meth c B.U B.locs B.cells B.slots ∧ Post ⟨T.setVm vm₁, locs, cells, slots⟩ argsL.toArray v B ∧
      ∀ target, Steps p.tables e below (B.U.setTop { g with pc := g.pc + 3, stack := v.toList ++ rest }) target → Steps p.tables e below (T.setTop g) target) ∨
    (∃ (q : Addr) (vm₁ : Vm) (B : Pt), s.WarmedH vm₁ ∧ Stand p l e R s m args below meth c B.U B.locs B.cells B.slots ∧ PostX ⟨T.setVm vm₁, locs, cells, slots⟩ argsL.toArray q B ∧
      Steps p.tables e below (T.setTop g) ((B.U.setTop { g with stack := rest }).pushFrame (.throwing q))) := by
  obtain ⟨mk, hnamed⟩ := Cond.code_named hcode
  obtain ⟨methM, cM, hmethM, -, -, -, -, -, -, hsigM⟩ := Cond.code_spec hnamed hcode
  have hstatic : methM.isStatic = true := Cond.static_spec hnamed hmethM hstat
  obtain ⟨kP, hkP, -⟩ := className_of_methodNamed hnamed
  have hinitP : kP.init = .initialized := Cond.initialized_spec (findClass_of_methodNamed hnamed) hkP hinit
  obtain ⟨vm₁, X₁, hstep₁⟩ := X.invokestatic hexec hown hlink hnamed hmethM hstatic hkP hinitP hy (g := g) hg (argsL := argsL) (rest := rest) (hlen _ hsigM) hstack hdg
  rcases hK m meth c ⟨T.setVm vm₁, locs, cells, slots⟩ { g with stack := rest } (.invokestatic index) mk argsL.toArray X₁ hg hsize hdg hW (X₁.named hnamed) (hpre vm₁ X₁.warmed) with ⟨v, B, X', hpost, hsteps⟩ | ⟨q, B, X', hpost, hsteps⟩
  · exact Or.inl ⟨v, vm₁, B, X₁.warmed, X', hpost, fun target h => hstep₁ _ fun acts => by rw [doInvoke_state]; exact hsteps.trans h⟩
  · exact Or.inr ⟨q, vm₁, B, X₁.warmed, X', hpost, hstep₁ _ fun acts => by rw [doInvoke_state]; exact hsteps⟩
end Calls
theorem vx_cls {s : State} {T : State} {vm₁ : Vm} {E : String} {k : ClassId} (hW : s.WarmedH vm₁) (h : (T.setVm vm₁).vm.findClass E = some k) : s.vm.findClass E = some k := by
  have h1 : vm₁.findClass E = some k := h
  rw [hW.alike.findClass] at h1
  exact h1
/-- the method's frame g, with q thrown over it -/
def vx_W (p : Program) (l : Launch) (e : Env) (R : Room) (s : State) (m : MethodId) (args : Array Value) (below : List Frame) (meth : Method) (c : Code) (H : Heap) (locs : List Loc) (cells slots : Nat) (Q : State → Prop) (g : JFrame) (q : Addr) : Prop :=
  ∀ T : State, T.heap = H → Stand p l e R s m args below meth c T locs cells slots → ∃ t, Steps p.tables e below ((T.setTop g).pushFrame (.throwing q)) t ∧ Q t
def vx_Run (p : Program) (l : Launch) (e : Env) (R : Room) (s : State) (m : MethodId) (args : Array Value) (below : List Frame) (meth : Method) (c : Code) (H : Heap) (locs : List Loc) (cells slots mc ms : Nat) (g : JFrame) (rest : List Value) (Qa : State → Outcome → State → Prop) (XC : String → State → State → Prop) (free : Addr → Prop) : Prop :=
  ∀ T : State, T.heap = H → Stand p l e R s m args below meth c T locs cells slots →
    (∃ (v : Option Value) (st₀ t T' : State) (L : List Loc), st₀.heap = H ∧ Stand p l e R s m args below meth c T' (locs ++ L) (cells + mc) (slots + ms) ∧ (∀ q ∈ L, free q.base) ∧ T'.heap = t.heap ∧ T'.vm = t.vm ∧ Qa st₀ (.returned v) t ∧
      Goes p e below T g T' { g with pc := g.pc + 3, stack := v.toList ++ rest }) ∨
    (∃ (q : Addr) (st₀ t T' : State) (L : List Loc) (E : String) (ce : Cell), st₀.heap = H ∧ Stand p l e R s m args below meth c T' (locs ++ L) (cells + mc) (slots + ms) ∧ (∀ z ∈ L, free z.base) ∧ T'.heap = t.heap ∧ T'.vm = t.vm ∧ XC E st₀ t ∧ t.heap[q]? = some ce ∧ ce.vm = .none ∧ s.vm.findClass E = some ce.cls ∧
      Steps p.tables e below (T.setTop g) ((T'.setTop { g with stack := rest }).pushFrame (.throwing q)))
def vx_X {S : Type} (px : S → Prop) (B : String → S → State → Prop) (A : Nat → Prop) : String → State → State → Prop := fun E st t => ∃ u : S, px u ∧ B E u t ∧ va_F A st t
section Runs
variable {p : Program} {l : Launch} {e : Env} {R : Room} {s : State} {m : MethodId} {args : Array Value} {below : List Frame} {meth : Method} {c : Code} {H : Heap} {locs : List Loc} {cells slots : Nat}
variable {y : MethodName} {bytes cc : ByteArray} {maxL nL mc ms n index : Nat} {ret : Option FieldType} {ws : List Cond} {rm : Room} {Pc : Array Value → State → Prop} {Qc : Array Value → State → Outcome → State → Prop} {XC : String → State → State → Prop} {free : Addr → Prop} {Ts : List Cond} {own C : String} {b : Addr} {As rest : List Value} {g : JFrame}
theorem vx_callBack (cb : CallB R s args own index y bytes maxL ret ws rm mc ms n) (hM : vx_Met l y ws rm Pc Qc XC mc ms free) (hbl : FrameBlind Pc) : vx_Back l R p e below s args y 3 8 (PreOf R mc ms Pc) (PostOf Qc mc ms free) (vx_Post XC mc ms free) := by
  obtain ⟨hrc, hrs, hfr, hlo, hws, hcw, -, hini, -⟩ := cb
  exact vx_back (bytes := bytes) (maxL := maxL) (ret := ret) hM hbl hrc hrs hfr hlo hws hcw (fun a' U hW => word_at hW (Or.inl (by first | rfl | simp [Cond.onTables, Cond.keeps, Cond.steady])) hini)
theorem vx_runV (S : CallFix p m c cc nL s args Ts own) (hM : vx_Met l y ws rm Pc Qc XC mc ms free) (cw : CallW R s args own C index y bytes maxL ret ws rm mc ms n) (hp : PreV s H C b Pc As)
    (hg : g.method = m) (hn : As.length = n) (hsize : g.locals.size = nL) (hstack : g.stack = As.reverse ++ .ref b :: rest) (hW : 2 * g.monitorRoom + (rest.map fun v => v.category).sum ≤ 8) (hdg : decode cc g.pc = .ok (.invokevirtual index, 3)) (hf : cells + mc ≤ R.cells ∧ slots + ms ≤ R.slots) :
    vx_Run p l e R s m args below meth c H locs cells slots mc ms g rest (Qc (Value.ref b :: As).toArray) XC free := by
  have hK : vx_Back l R p e below s args y 3 8 (PreOf R mc ms Pc) (PostOf Qc mc ms free) (vx_Post XC mc ms free) := vx_callBack cw.1 hM hp.1
  obtain ⟨⟨-, -, -, -, -, -, hcode, -, hy, hlen, hl⟩, hin, hse⟩ := cw
  obtain ⟨hx, hb, hml, ho, -⟩ := S
  obtain ⟨-, ⟨cellB, hcB, hoB, hclB⟩, hPc⟩ := hp
  intro T hT X
  rcases vx_callV X hx (C := C) (bytes := bytes) (maxL := maxL) (ret := ret) ho hl hin hse hcode hy hK (by rw [hT]; exact hcB) hoB hclB hg (hsize.trans hml.symm) (argsL := As) (rest := rest) (fun sig h => hn.trans (hlen sig h)) hstack hW (by rw [hb]; exact hdg)
    (fun vm₁ hW₁ => ⟨hf.1, hf.2, hPc (T.setVm vm₁) hT hW₁⟩) with ⟨v, vm₁, ⟨U', l2, c2, s2⟩, hW₁, X', ⟨g', mk, t, L, e1, e2, hq, h1, hL, h2, h3⟩, st⟩ | ⟨q, vm₁, ⟨U', l2, c2, s2⟩, hW₁, X', ⟨g', mk, t, L, E, ce, e1, e2, hq, hce, hcv, hcl, h1, hL, h2, h3⟩, st⟩
  · dsimp only [Pt.U, Pt.locs, Pt.cells, Pt.slots] at X' e1 e2 h1 h2 h3 st
    subst h1; subst h2; subst h3
    exact Or.inl ⟨v, (T.setVm vm₁).calling g' mk (Value.ref b :: As).toArray, t, U', L, hT, X', hL, e1, e2, hq, st⟩
  · dsimp only [Pt.U, Pt.locs, Pt.cells, Pt.slots] at X' e1 e2 h1 h2 h3 st hcl
    subst h1; subst h2; subst h3
    exact Or.inr ⟨q, (T.setVm vm₁).calling g' mk (Value.ref b :: As).toArray, t, U', L, E, ce, hT, X', hL, e1, e2, hq, hce, hcv, vx_cls hW₁ hcl, st⟩
theorem vx_runS (S : CallFix p m c cc nL s args Ts own) (hM : vx_Met l y ws rm Pc Qc XC mc ms free) (cw : CallB R s args own index y bytes maxL ret ws rm mc ms n ∧ (Cond.static y).before args s = true) (hp : PreS s H Pc As)
    (hg : g.method = m) (hn : As.length = n) (hsize : g.locals.size = nL) (hstack : g.stack = As.reverse ++ rest) (hW : 2 * g.monitorRoom + (rest.map fun v => v.category).sum ≤ 8) (hdg : decode cc g.pc = .ok (.invokestatic index, 3)) (hf : cells + mc ≤ R.cells ∧ slots + ms ≤ R.slots) :
    vx_Run p l e R s m args below meth c H locs cells slots mc ms g rest (Qc As.toArray) XC free := by
  have hK : vx_Back l R p e below s args y 3 8 (PreOf R mc ms Pc) (PostOf Qc mc ms free) (vx_Post XC mc ms free) := vx_callBack cw.1 hM hp.1
  obtain ⟨⟨-, -, -, -, -, -, hcode, hini, hy, hlen, hl⟩, hstt⟩ := cw
  obtain ⟨hx, hb, hml, ho, -⟩ := S
  intro T hT X
  rcases vx_callS X hx (bytes := bytes) (maxL := maxL) (ret := ret) ho hl hstt hini hcode hy hK hg (hsize.trans hml.symm) (argsL := As) (rest := rest) (fun sig h => hn.trans (hlen sig h)) hstack hW (by rw [hb]; exact hdg)
    (fun vm₁ hW₁ => ⟨hf.1, hf.2, hp.2 (T.setVm vm₁) hT hW₁⟩) with ⟨v, vm₁, ⟨U', l2, c2, s2⟩, hW₁, X', ⟨g', mk, t, L, e1, e2, hq, h1, hL, h2, h3⟩, st⟩ | ⟨q, vm₁, ⟨U', l2, c2, s2⟩, hW₁, X', ⟨g', mk, t, L, E, ce, e1, e2, hq, hce, hcv, hcl, h1, hL, h2, h3⟩, st⟩
  · dsimp only [Pt.U, Pt.locs, Pt.cells, Pt.slots] at X' e1 e2 h1 h2 h3 st
    subst h1; subst h2; subst h3
    exact Or.inl ⟨v, (T.setVm vm₁).calling g' mk As.toArray, t, U', L, hT, X', hL, e1, e2, hq, st⟩
  · dsimp only [Pt.U, Pt.locs, Pt.cells, Pt.slots] at X' e1 e2 h1 h2 h3 st hcl
    subst h1; subst h2; subst h3
    exact Or.inr ⟨q, (T.setVm vm₁).calling g' mk As.toArray, t, U', L, E, ce, hT, X', hL, e1, e2, hq, hce, hcv, vx_cls hW₁ hcl, st⟩
end Runs
section Rows
variable {p : Program} {l : Launch} {e : Env} {R : Room} {s : State} {m : MethodId} {args : Array Value} {below : List Frame} {meth : Method} {c : Code} {H : Heap} {locs : List Loc} {cells slots : Nat} {Q : State → Prop}
variable {mc ms : Nat} {free : Addr → Prop} {A0 A1 : Nat → Prop} {H0 : Heap} {a : Array Value} {pc : Nat} {ls : Array Slot} {st0 rest : List Value}
theorem vx_keep {st₀ t T' : State} {L : List Loc} (h0 : st₀.heap = H) (e1 : T'.heap = t.heap) (hS : va_S A0 H0 H locs) (hA : ∀ q, q < H.size → A1 q → A0 q) (hf : ∀ q, free q → A0 q) (hL : ∀ q ∈ L, free q.base) (hF : va_F A1 st₀ t) :
    H.size ≤ T'.heap.size ∧ (∀ q : Nat, q < H.size → ¬ A1 q → T'.heap[q]? = H[q]?) ∧ va_S A0 H0 T'.heap (locs ++ L) := by
  obtain ⟨hz, hk⟩ := hF
  rw [h0] at hz hk
  exact ⟨by rw [e1]; exact hz, fun q h1 h2 => by rw [e1]; exact hk q h1 h2,
    ⟨Nat.le_trans hS.1 (by rw [e1]; exact hz), fun q h1 h2 => by rw [e1, hk q (Nat.lt_of_lt_of_le h1 hS.1) (fun z => h2 (hA q (Nat.lt_of_lt_of_le h1 hS.1) z))]; exact hS.2.1 q h1 h2, fun q hq => by
      rcases List.mem_append.mp hq with h | h
      · exact hS.2.2 q h
      · exact hf _ (hL q h)⟩⟩
theorem vx_calli {S SX : Type} {post : Int32 → S → Prop} {px : SX → Prop} {B : S → State → Prop} {BX : String → SX → State → Prop} {AX : Nat → Prop} (hr : vx_Run p l e R s m args below meth c H locs cells slots mc ms (F0 m pc ls st0) rest (va_Qi post B A1 a) (vx_X px BX AX) free) (hS : va_S A0 H0 H locs) (hA : ∀ q, q < H.size → A1 q → A0 q) (hf : ∀ q, free q → A0 q) (hAX : ∀ q, q < H.size → AX q → A0 q)
    (kx : ∀ (E : String) (ce : Cell) (q9 : Addr) (u : SX) (t : State) (H1 : Heap) (locs1 : List Loc), t.heap = H1 → s.vm.Alike t.vm → px u → BX E u t → H.size ≤ H1.size → (∀ q : Nat, q < H.size → ¬ AX q → H1[q]? = H[q]?) → va_S A0 H0 H1 locs1 → H1[q9]? = some ce → ce.vm = .none → s.vm.findClass E = some ce.cls → vx_W p l e R s m args below meth c H1 locs1 (cells + mc) (slots + ms) Q (F0 m pc ls rest) q9)
    (kk : ∀ (r : Int32) (u : S) (t : State) (H1 : Heap) (locs1 : List Loc), t.heap = H1 → s.vm.Alike t.vm → post r u → B u t → H.size ≤ H1.size → (∀ q : Nat, q < H.size → ¬ A1 q → H1[q]? = H[q]?) → va_S A0 H0 H1 locs1 → W p l e R s m args below meth c H1 locs1 (cells + mc) (slots + ms) Q (F0 m (pc + 3) ls (.int r :: rest))) : W p l e R s m args below meth c H locs cells slots Q (F0 m pc ls st0) := by
  intro T hT X
  rcases hr T hT X with ⟨v, st₀, t, T', L, h0, X', hL, e1, e2, ⟨⟨r, u, hv, hp, hb⟩, hF⟩, st⟩ | ⟨q, st₀, t, T', L, E, ce, h0, X', hL, e1, e2, ⟨u, hp, hb, hF⟩, hce, hcv, hcl, st⟩
  · cases hv
    obtain ⟨k1, k2, k3⟩ := vx_keep h0 e1 hS hA hf hL hF
    obtain ⟨t2, a1, b1⟩ := kk r u t T'.heap (locs ++ L) e1.symm (by rw [← e2]; exact X'.warmed.alike) hp hb k1 k2 k3 T' rfl X'
    exact ⟨t2, st t2 a1, b1⟩
  · obtain ⟨k1, k2, k3⟩ := vx_keep h0 e1 hS hAX hf hL hF
    obtain ⟨t2, a1, b1⟩ := kx E ce q u t T'.heap (locs ++ L) e1.symm (by rw [← e2]; exact X'.warmed.alike) hp hb k1 k2 k3 (by rw [e1]; exact hce) hcv hcl T' rfl X'
    exact ⟨t2, st.trans a1, b1⟩
theorem vx_calll {S SX : Type} {post : Int64 → S → Prop} {px : SX → Prop} {B : S → State → Prop} {BX : String → SX → State → Prop} {AX : Nat → Prop} (hr : vx_Run p l e R s m args below meth c H locs cells slots mc ms (F0 m pc ls st0) rest (va_Ql post B A1 a) (vx_X px BX AX) free) (hS : va_S A0 H0 H locs) (hA : ∀ q, q < H.size → A1 q → A0 q) (hf : ∀ q, free q → A0 q) (hAX : ∀ q, q < H.size → AX q → A0 q)
    (kx : ∀ (E : String) (ce : Cell) (q9 : Addr) (u : SX) (t : State) (H1 : Heap) (locs1 : List Loc), t.heap = H1 → s.vm.Alike t.vm → px u → BX E u t → H.size ≤ H1.size → (∀ q : Nat, q < H.size → ¬ AX q → H1[q]? = H[q]?) → va_S A0 H0 H1 locs1 → H1[q9]? = some ce → ce.vm = .none → s.vm.findClass E = some ce.cls → vx_W p l e R s m args below meth c H1 locs1 (cells + mc) (slots + ms) Q (F0 m pc ls rest) q9)
    (kk : ∀ (r : Int64) (u : S) (t : State) (H1 : Heap) (locs1 : List Loc), t.heap = H1 → s.vm.Alike t.vm → post r u → B u t → H.size ≤ H1.size → (∀ q : Nat, q < H.size → ¬ A1 q → H1[q]? = H[q]?) → va_S A0 H0 H1 locs1 → W p l e R s m args below meth c H1 locs1 (cells + mc) (slots + ms) Q (F0 m (pc + 3) ls (.long r :: rest))) : W p l e R s m args below meth c H locs cells slots Q (F0 m pc ls st0) := by
  intro T hT X
  rcases hr T hT X with ⟨v, st₀, t, T', L, h0, X', hL, e1, e2, ⟨⟨r, u, hv, hp, hb⟩, hF⟩, st⟩ | ⟨q, st₀, t, T', L, E, ce, h0, X', hL, e1, e2, ⟨u, hp, hb, hF⟩, hce, hcv, hcl, st⟩
  · cases hv
    obtain ⟨k1, k2, k3⟩ := vx_keep h0 e1 hS hA hf hL hF
    obtain ⟨t2, a1, b1⟩ := kk r u t T'.heap (locs ++ L) e1.symm (by rw [← e2]; exact X'.warmed.alike) hp hb k1 k2 k3 T' rfl X'
    exact ⟨t2, st t2 a1, b1⟩
  · obtain ⟨k1, k2, k3⟩ := vx_keep h0 e1 hS hAX hf hL hF
    obtain ⟨t2, a1, b1⟩ := kx E ce q u t T'.heap (locs ++ L) e1.symm (by rw [← e2]; exact X'.warmed.alike) hp hb k1 k2 k3 (by rw [e1]; exact hce) hcv hcl T' rfl X'
    exact ⟨t2, st.trans a1, b1⟩
theorem vx_callf {S SX : Type} {post : UInt32 → S → Prop} {px : SX → Prop} {B : S → State → Prop} {BX : String → SX → State → Prop} {AX : Nat → Prop} (hr : vx_Run p l e R s m args below meth c H locs cells slots mc ms (F0 m pc ls st0) rest (va_Qf post B A1 a) (vx_X px BX AX) free) (hS : va_S A0 H0 H locs) (hA : ∀ q, q < H.size → A1 q → A0 q) (hf : ∀ q, free q → A0 q) (hAX : ∀ q, q < H.size → AX q → A0 q)
    (kx : ∀ (E : String) (ce : Cell) (q9 : Addr) (u : SX) (t : State) (H1 : Heap) (locs1 : List Loc), t.heap = H1 → s.vm.Alike t.vm → px u → BX E u t → H.size ≤ H1.size → (∀ q : Nat, q < H.size → ¬ AX q → H1[q]? = H[q]?) → va_S A0 H0 H1 locs1 → H1[q9]? = some ce → ce.vm = .none → s.vm.findClass E = some ce.cls → vx_W p l e R s m args below meth c H1 locs1 (cells + mc) (slots + ms) Q (F0 m pc ls rest) q9)
    (kk : ∀ (r : UInt32) (u : S) (t : State) (H1 : Heap) (locs1 : List Loc), t.heap = H1 → s.vm.Alike t.vm → post r u → B u t → H.size ≤ H1.size → (∀ q : Nat, q < H.size → ¬ A1 q → H1[q]? = H[q]?) → va_S A0 H0 H1 locs1 → W p l e R s m args below meth c H1 locs1 (cells + mc) (slots + ms) Q (F0 m (pc + 3) ls (.float r :: rest))) : W p l e R s m args below meth c H locs cells slots Q (F0 m pc ls st0) := by
  intro T hT X
  rcases hr T hT X with ⟨v, st₀, t, T', L, h0, X', hL, e1, e2, ⟨⟨r, u, hv, hp, hb⟩, hF⟩, st⟩ | ⟨q, st₀, t, T', L, E, ce, h0, X', hL, e1, e2, ⟨u, hp, hb, hF⟩, hce, hcv, hcl, st⟩
  · cases hv
    obtain ⟨k1, k2, k3⟩ := vx_keep h0 e1 hS hA hf hL hF
    obtain ⟨t2, a1, b1⟩ := kk r u t T'.heap (locs ++ L) e1.symm (by rw [← e2]; exact X'.warmed.alike) hp hb k1 k2 k3 T' rfl X'
    exact ⟨t2, st t2 a1, b1⟩
  · obtain ⟨k1, k2, k3⟩ := vx_keep h0 e1 hS hAX hf hL hF
    obtain ⟨t2, a1, b1⟩ := kx E ce q u t T'.heap (locs ++ L) e1.symm (by rw [← e2]; exact X'.warmed.alike) hp hb k1 k2 k3 (by rw [e1]; exact hce) hcv hcl T' rfl X'
    exact ⟨t2, st.trans a1, b1⟩
theorem vx_calld {S SX : Type} {post : UInt64 → S → Prop} {px : SX → Prop} {B : S → State → Prop} {BX : String → SX → State → Prop} {AX : Nat → Prop} (hr : vx_Run p l e R s m args below meth c H locs cells slots mc ms (F0 m pc ls st0) rest (va_Qd post B A1 a) (vx_X px BX AX) free) (hS : va_S A0 H0 H locs) (hA : ∀ q, q < H.size → A1 q → A0 q) (hf : ∀ q, free q → A0 q) (hAX : ∀ q, q < H.size → AX q → A0 q)
    (kx : ∀ (E : String) (ce : Cell) (q9 : Addr) (u : SX) (t : State) (H1 : Heap) (locs1 : List Loc), t.heap = H1 → s.vm.Alike t.vm → px u → BX E u t → H.size ≤ H1.size → (∀ q : Nat, q < H.size → ¬ AX q → H1[q]? = H[q]?) → va_S A0 H0 H1 locs1 → H1[q9]? = some ce → ce.vm = .none → s.vm.findClass E = some ce.cls → vx_W p l e R s m args below meth c H1 locs1 (cells + mc) (slots + ms) Q (F0 m pc ls rest) q9)
    (kk : ∀ (r : UInt64) (u : S) (t : State) (H1 : Heap) (locs1 : List Loc), t.heap = H1 → s.vm.Alike t.vm → post r u → B u t → H.size ≤ H1.size → (∀ q : Nat, q < H.size → ¬ A1 q → H1[q]? = H[q]?) → va_S A0 H0 H1 locs1 → W p l e R s m args below meth c H1 locs1 (cells + mc) (slots + ms) Q (F0 m (pc + 3) ls (.double r :: rest))) : W p l e R s m args below meth c H locs cells slots Q (F0 m pc ls st0) := by
  intro T hT X
  rcases hr T hT X with ⟨v, st₀, t, T', L, h0, X', hL, e1, e2, ⟨⟨r, u, hv, hp, hb⟩, hF⟩, st⟩ | ⟨q, st₀, t, T', L, E, ce, h0, X', hL, e1, e2, ⟨u, hp, hb, hF⟩, hce, hcv, hcl, st⟩
  · cases hv
    obtain ⟨k1, k2, k3⟩ := vx_keep h0 e1 hS hA hf hL hF
    obtain ⟨t2, a1, b1⟩ := kk r u t T'.heap (locs ++ L) e1.symm (by rw [← e2]; exact X'.warmed.alike) hp hb k1 k2 k3 T' rfl X'
    exact ⟨t2, st t2 a1, b1⟩
  · obtain ⟨k1, k2, k3⟩ := vx_keep h0 e1 hS hAX hf hL hF
    obtain ⟨t2, a1, b1⟩ := kx E ce q u t T'.heap (locs ++ L) e1.symm (by rw [← e2]; exact X'.warmed.alike) hp hb k1 k2 k3 (by rw [e1]; exact hce) hcv hcl T' rfl X'
    exact ⟨t2, st.trans a1, b1⟩
theorem vx_callv {S SX : Type} {post : S → Prop} {px : SX → Prop} {B : S → State → Prop} {BX : String → SX → State → Prop} {AX : Nat → Prop} (hr : vx_Run p l e R s m args below meth c H locs cells slots mc ms (F0 m pc ls st0) rest (va_Qv post B A1 a) (vx_X px BX AX) free) (hS : va_S A0 H0 H locs) (hA : ∀ q, q < H.size → A1 q → A0 q) (hf : ∀ q, free q → A0 q) (hAX : ∀ q, q < H.size → AX q → A0 q)
    (kx : ∀ (E : String) (ce : Cell) (q9 : Addr) (u : SX) (t : State) (H1 : Heap) (locs1 : List Loc), t.heap = H1 → s.vm.Alike t.vm → px u → BX E u t → H.size ≤ H1.size → (∀ q : Nat, q < H.size → ¬ AX q → H1[q]? = H[q]?) → va_S A0 H0 H1 locs1 → H1[q9]? = some ce → ce.vm = .none → s.vm.findClass E = some ce.cls → vx_W p l e R s m args below meth c H1 locs1 (cells + mc) (slots + ms) Q (F0 m pc ls rest) q9)
    (kk : ∀ (u : S) (t : State) (H1 : Heap) (locs1 : List Loc), t.heap = H1 → s.vm.Alike t.vm → post u → B u t → H.size ≤ H1.size → (∀ q : Nat, q < H.size → ¬ A1 q → H1[q]? = H[q]?) → va_S A0 H0 H1 locs1 → W p l e R s m args below meth c H1 locs1 (cells + mc) (slots + ms) Q (F0 m (pc + 3) ls (rest))) : W p l e R s m args below meth c H locs cells slots Q (F0 m pc ls st0) := by
  intro T hT X
  rcases hr T hT X with ⟨v, st₀, t, T', L, h0, X', hL, e1, e2, ⟨⟨u, hv, hp, hb⟩, hF⟩, st⟩ | ⟨q, st₀, t, T', L, E, ce, h0, X', hL, e1, e2, ⟨u, hp, hb, hF⟩, hce, hcv, hcl, st⟩
  · cases hv
    obtain ⟨k1, k2, k3⟩ := vx_keep h0 e1 hS hA hf hL hF
    obtain ⟨t2, a1, b1⟩ := kk u t T'.heap (locs ++ L) e1.symm (by rw [← e2]; exact X'.warmed.alike) hp hb k1 k2 k3 T' rfl X'
    exact ⟨t2, st t2 a1, b1⟩
  · obtain ⟨k1, k2, k3⟩ := vx_keep h0 e1 hS hAX hf hL hF
    obtain ⟨t2, a1, b1⟩ := kx E ce q u t T'.heap (locs ++ L) e1.symm (by rw [← e2]; exact X'.warmed.alike) hp hb k1 k2 k3 (by rw [e1]; exact hce) hcv hcl T' rfl X'
    exact ⟨t2, st.trans a1, b1⟩
/-- caught by the row x of this method's table; the rows ahead don't take it -/
theorem vx_catch {own name : String} {E : String} {ce : Cell} {q : Addr} (hown : s.vm.findClass own = some m.cls) (pre : List ExceptionTableEntry) (x : ExceptionTableEntry) (suf : List ExceptionTableEntry) (hsplit : c.exceptionTable.toList = pre ++ x :: suf)
    (hpass : ∀ z ∈ pre, covers z pc = false ∨ (z.catchType ≠ 0 ∧ ∃ nm : String, (Cond.classLink own z.catchType nm).before args s = true ∧ va_Nc E nm s)) (hx : covers x pc = true) (h0 : x.catchType ≠ 0)
    (hlink : (Cond.classLink own x.catchType name).before args s = true) (hcast : (Cond.castable E name).before args s = true) (hcell : H[q]? = some ce) (hv : ce.vm = .none) (hcl : s.vm.findClass E = some ce.cls)
    (kk : W p l e R s m args below meth c H locs cells slots Q (F0 m x.handlerPc ls [.ref q])) : vx_W p l e R s m args below meth c H locs cells slots Q (F0 m pc ls rest) q := by
  intro T hT X
  have hpl : e.platform.magicAccessors = ({} : Platform).magicAccessors := by rw [X.admits.platform]
  obtain ⟨c3, c4, hc3, hc4, hasg⟩ := Cond.castable_spec hcast
  cases Option.some.inj (hc3.symm.trans hcl)
  obtain ⟨c5, hc5, hcl5⟩ := Cond.classLink_spec hown hlink e.platform hpl
  cases Option.some.inj (hc4.symm.trans hc5)
  obtain ⟨vm', X', st⟩ := X.thenCaughtThrough q (g := F0 m pc ls rest) rfl (Steps.refl _) (by rw [hT]; exact hcell) (by rw [hv]; rfl) (by obtain ⟨k9, h9, -⟩ := Vm.findClass_spec hcl; exact ⟨k9, h9⟩) pre x suf hsplit
    (fun z hz => by
      rcases hpass z hz with h | ⟨hz0, nm, hl1, hn1⟩
      · exact Or.inl h
      · obtain ⟨c6, hc6, hcl6⟩ := Cond.classLink_spec hown hl1 e.platform hpl
        obtain ⟨a8, b8, h1, h2, h3⟩ := hn1
        cases Option.some.inj (h1.symm.trans hcl)
        cases Option.some.inj (h2.symm.trans hc6)
        exact Or.inr ⟨hz0, _, hcl6, h3⟩) hx (Or.inr ⟨h0, c4, hcl5, hasg⟩)
  obtain ⟨t, a1, b1⟩ := kk (T.setVm vm') hT X'
  exact ⟨t, st.trans a1, b1⟩
end Rows
section Ends
variable {p : Program} {l : Launch} {e : Env} {R : Room} {s : State} {m : MethodId} {args : Array Value} {below : List Frame} {meth : Method} {c : Code} {H : Heap} {locs : List Loc} {cells slots : Nat} {Q : State → Prop}
variable {mc ms : Nat} {free : Addr → Prop} {A0 A1 : Nat → Prop} {H0 : Heap} {a : Array Value} {ls : Array Slot} {st0 rest : List Value}
variable {Qc : Array Value → State → Outcome → State → Prop} {XC : String → State → State → Prop}
/-- what a body that may throw owes at its end -/
def vx_MQ (below : List Frame) (Qc : Array Value → State → Outcome → State → Prop) (XC : String → State → State → Prop) (a : Array Value) (s : State) (mc ms : Nat) (free : Addr → Prop) : State → Prop := fun t =>
  ∃ o, t.status = .running ∧ Ended t below o ∧ vx_Q Qc XC mc ms free a s o t
theorem vx_ret {g : JFrame} {mc ms : Nat} (k : W p l e R s m args below meth c H locs cells slots (MQ below Qc args s mc ms free) g) : W p l e R s m args below meth c H locs cells slots (vx_MQ below Qc XC args s mc ms free) g := by
  intro T hT X
  obtain ⟨t, a1, o, b1, b2, b3, b4⟩ := k T hT X
  exact ⟨t, a1, o, b1, b2, Or.inl ⟨b3, b4⟩⟩
/-- not caught here: it goes on to the caller -/
theorem vx_widen {g : JFrame} {q : Addr} {k n : Nat} (h1 : cells ≤ k) (h2 : slots ≤ n) (kk : vx_W p l e R s m args below meth c H locs k n Q g q) : vx_W p l e R s m args below meth c H locs cells slots Q g q := fun T hT X => kk T hT (stand_widen X h1 h2)
theorem vx_out {pc : Nat} {E : String} {ce : Cell} {q : Addr} {mc ms : Nat} (hout : ∀ x ∈ c.exceptionTable.toList, covers x pc = false) (hlocks : meth.locks = false) (hcell : H[q]? = some ce) (hv : ce.vm = .none) (hcl : s.vm.findClass E = some ce.cls)
    (hx : ∀ t : State, t.heap = H → s.vm.Alike t.vm → XC E s t) (hf : ∀ z ∈ locs, free z.base) (hc : cells ≤ mc) (hs : slots ≤ ms) :
    vx_W p l e R s m args below meth c H locs cells slots (vx_MQ below Qc XC args s mc ms free) (F0 m pc ls rest) q := by
  intro T hT X
  obtain ⟨st1, hrun, hend, hW, hsm⟩ := X.leaveThrown q (g := F0 m pc ls rest) rfl rfl rfl hout hlocks
  have hcell9 : (T.setFrames (.throwing q :: below)).heap[q]? = some ce := by
    show T.heap[q]? = some ce
    rw [hT]; exact hcell
  exact ⟨_, st1, .threw q, hrun, hend, Or.inr ⟨q, rfl, E, ce, locs, hx _ hT hW.alike, hcell9, hv, hcl, hW, hsm.mono hc hs, hf⟩⟩
theorem vx_frame {U : State} {k n : Nat} (h : s.sameButNew ({ U with vm := s.vm } : State) locs k n) : s.heap.size ≤ U.heap.size ∧ ∀ q : Nat, q < s.heap.size → (∀ z ∈ locs, z.base ≠ q) → U.heap[q]? = s.heap[q]? := by
  obtain ⟨-, h2, -, -, -, h6⟩ := h
  refine ⟨h2, fun q hq hz => ?_⟩
  obtain ⟨c9, e1, e2, e3, e4⟩ := h6 q _ (Array.getElem?_eq_getElem hq)
  have hs : c9.slots = (s.heap[q]).slots := Array.ext_getElem? fun i => e4 i fun hm => hz _ hm rfl
  have h9 : c9 = s.heap[q] := by
    rw [hs] at e2
    exact e2
  have e5 : U.heap[q]? = some c9 := e1
  rw [e5, h9, Array.getElem?_eq_getElem hq]
/-- the words of a throw but the four that speak of the heap -/
def vx_no (w : Cond) : Bool := decide (w ≠ .isRef (.static Bundle.tN "UNASSIGNED_STACK" Bundle.steD)) && decide (w ≠ .isRef (.static Bundle.tN "SUPPRESSED_SENTINEL" Bundle.listD)) && decide (w ≠ .laysStatic Bundle.tN "UNASSIGNED_STACK" Bundle.steD) && decide (w ≠ .laysStatic Bundle.tN "SUPPRESSED_SENTINEL" Bundle.listD)
def vx_at0 (own : String) (ic : Nat) (X : String) (names : List String) : List Cond := (Bundle.ownAtoms0 own ic X names).filter vx_no
def vx_atS (own : String) (ic : Nat) (X : String) (names : List String) : List Cond := (Bundle.ownAtoms own ic X names).filter vx_no
/-- a word that the tables alone decide, or a good one -/
def vx_ot (w : Cond) : Bool := w.onTables || goodWord w
theorem vx_ot_at {args a' : Array Value} {s U : State} {w : Cond} (hW : s.WarmedH U.vm) (hvm : s.vm = U.vm) (hg : vx_ot w = true) (h : w.before args s = true) : w.before a' U = true := by
  simp only [vx_ot, Bool.or_eq_true] at hg
  rcases hg with hg | hg
  · exact va_tabs hg hvm h
  · exact word_at hW (good_of_word hg) h
/-- a list's words: the good ones out of the method's own list, the others by premises of their own -/
theorem vx_hat {args : Array Value} {s : State} {L B : List Cond} (h1 : ∀ w ∈ L.filter goodWord, w.before args s = true) (h2 : ∀ w ∈ L.filter (fun w => !goodWord w), w ∈ B) (h3 : ∀ w ∈ B, w.before args s = true) : ∀ w ∈ L, w.before args s = true := by
  intro w hw
  by_cases g : goodWord w = true
  · exact h1 w (List.mem_filter.mpr ⟨hw, g⟩)
  · refine h3 w (h2 w (List.mem_filter.mpr ⟨hw, ?_⟩))
    show (!goodWord w) = true
    cases hgw : goodWord w
    · rfl
    · exact absurd hgw g
theorem vx_c {args : Array Value} {s : State} {w : Cond} {B : List Cond} (h : w.before args s = true) (t : ∀ w ∈ B, w.before args s = true) : ∀ w' ∈ w :: B, w'.before args s = true := fun w' h' => (List.mem_cons.mp h').elim (fun e => by rw [e]; exact h) (t w')
theorem vx_n {args : Array Value} {s : State} : ∀ w ∈ ([] : List Cond), w.before args s = true := fun _ h => nomatch h
theorem vx_own {args : Array Value} {s : State} {L : List Cond} (h1 : ∀ w ∈ L.filter vx_no, w.before args s = true)
    (hU : (Cond.isRef (.static Bundle.tN "UNASSIGNED_STACK" Bundle.steD)).before args s = true) (hN : (Cond.isRef (.static Bundle.tN "SUPPRESSED_SENTINEL" Bundle.listD)).before args s = true)
    (lU : (Cond.laysStatic Bundle.tN "UNASSIGNED_STACK" Bundle.steD).before args s = true) (lN : (Cond.laysStatic Bundle.tN "SUPPRESSED_SENTINEL" Bundle.listD).before args s = true) : ∀ w ∈ L, w.before args s = true := by
  intro w hw
  by_cases e1 : w = .isRef (.static Bundle.tN "UNASSIGNED_STACK" Bundle.steD)
  · rw [e1]; exact hU
  · by_cases e2 : w = .isRef (.static Bundle.tN "SUPPRESSED_SENTINEL" Bundle.listD)
    · rw [e2]; exact hN
    · by_cases e3 : w = .laysStatic Bundle.tN "UNASSIGNED_STACK" Bundle.steD
      · rw [e3]; exact lU
      · by_cases e4 : w = .laysStatic Bundle.tN "SUPPRESSED_SENTINEL" Bundle.listD
        · rw [e4]; exact lN
        · exact h1 w (List.mem_filter.mpr ⟨hw, by unfold vx_no; rw [decide_eq_true e1, decide_eq_true e2, decide_eq_true e3, decide_eq_true e4]; rfl⟩)
/-- where a static field lies, its class's statics cell in H -/
def vx_L (C n d : String) (A : Nat → Prop) (U : State) (H : Heap) : Prop := ∃ (c : ClassId) (k : Class) (i : Nat) (f : Field) (a : Nat) (cell : Cell), U.vm.findClass C = some c ∧ U.fieldFound? C n d = some (c, k, i, f) ∧ f.isStatic = true ∧ k.statics = some a ∧ H[a]? = some cell ∧ cell.vm.isStatics = true ∧ cell.cls = c ∧ f.slot < cell.slots.size ∧ k.staticTypes[f.slot]? = some f.type ∧ ¬ A a
theorem vx_L.moved {C n d : String} {A : Nat → Prop} {u U : State} {H : Heap} (hvm : u.vm.Alike U.vm) (h : vx_L C n d A u H) : vx_L C n d A U H := by
  obtain ⟨c, k, i, f, a, cell, h1, h2, h3, h4, h5, h6, h7, h8, h9, h10⟩ := h
  obtain ⟨k', hi', he⟩ := State.fieldFound?_setVm hvm h2
  exact ⟨c, k', i, f, a, cell, by rw [hvm.findClass]; exact h1, hi', h3, by rw [he]; exact h4, h5, h6, h7, h8, by rw [he]; exact h9, h10⟩
theorem vx_L.kept {C n d : String} {A : Nat → Prop} {U : State} {H H1 : Heap} (h : vx_L C n d A U H) (hq : ∀ a : Nat, a < H.size → ¬ A a → H1[a]? = H[a]?) : vx_L C n d A U H1 := by
  obtain ⟨c, k, i, f, a, cell, h1, h2, h3, h4, h5, h6, h7, h8, h9, h10⟩ := h
  exact ⟨c, k, i, f, a, cell, h1, h2, h3, h4, by rw [hq a (Array.getElem?_eq_some_iff.mp h5).1 h10]; exact h5, h6, h7, h8, h9, h10⟩
theorem vx_L.narrow {C n d : String} {A B : Nat → Prop} {U : State} {H : Heap} (h : vx_L C n d A U H) (hAB : ∀ q, B q → A q) : vx_L C n d B U H := by
  obtain ⟨c, k, i, f, a, cell, h1, h2, h3, h4, h5, h6, h7, h8, h9, h10⟩ := h
  exact ⟨c, k, i, f, a, cell, h1, h2, h3, h4, h5, h6, h7, h8, h9, fun z => h10 (hAB _ z)⟩
theorem vx_L.word {C n d : String} {A : Nat → Prop} {s : State} {args : Array Value} (h : vx_L C n d A s s.heap) : (Cond.laysStatic C n d).before args s = true := by
  obtain ⟨c, k, i, f, a, cell, h1, h2, h3, h4, h5, h6, h7, h8, h9, -⟩ := h
  show (Cond.laysStatic C n d).holds args s none s [] = true
  exact Cond.laysStatic_of h1 h2 h3 h4 h5 h6 h7 h8 h9
/-- .. and what it holds: null or some reference -/
def vx_Zq (C n d : String) (A : Nat → Prop) (U : State) (H : Heap) : Prop := va_Zq C n d A U H ∧ vx_L C n d A U H
theorem vx_Zq.moved {C n d : String} {A : Nat → Prop} {u U : State} {H : Heap} (hvm : u.vm.Alike U.vm) (h : vx_Zq C n d A u H) : vx_Zq C n d A U H := ⟨va_Zq.moved hvm h.1, vx_L.moved hvm h.2⟩
theorem vx_Zq.kept {C n d : String} {A : Nat → Prop} {U : State} {H H1 : Heap} (h : vx_Zq C n d A U H) (hq : ∀ a : Nat, a < H.size → ¬ A a → H1[a]? = H[a]?) : vx_Zq C n d A U H1 := ⟨va_Zq.kept h.1 hq, vx_L.kept h.2 hq⟩
theorem vx_Zq.narrow {C n d : String} {A B : Nat → Prop} {U : State} {H : Heap} (h : vx_Zq C n d A U H) (hAB : ∀ q, B q → A q) : vx_Zq C n d B U H := ⟨va_Zq.narrow h.1 hAB, vx_L.narrow h.2 hAB⟩
theorem vx_Zqof {args : Array Value} {s : State} {C n d : String} {A : Nat → Prop} (hl : (Cond.laysStatic C n d).before args s = true) (hini : (Cond.initialized C).before args s = true) (h : (Cond.isRef (.static C n d)).before args s = true) (hA : ∀ a : Nat, a < s.heap.size → ¬ A a) : vx_Zq C n d A s s.heap := by
  refine ⟨va_Zqof hl hini h hA, ?_⟩
  obtain ⟨c, k, i, f, a, cell, h1, h2, h3, h4, h5, h6, h7, h8, h9⟩ := Cond.laysStatic_spec hl
  exact ⟨c, k, i, f, a, cell, h1, h2, h3, h4, h5, h6, h7, h8, h9, hA a (Array.getElem?_eq_some_iff.mp h5).1⟩
theorem vx_isRef {C n d : String} {v : Value} {A : Nat → Prop} {s : State} {args : Array Value} (h : va_Z C n d v A s s.heap) (hv : v.isRef = true) : (Cond.isRef (.static C n d)).before args s = true := by
  obtain ⟨cf, kf, fi, f, a, cell, h1, h2, h3, h4, h5, h6, h7, -⟩ := h
  have he : (Term.static C n d).eval args s none [] s = some v := by
    simp [Term.eval, State.fieldNamed?, h1, h2, h4, h5, h6, h7]
  simp only [Cond.before, Cond.holds, Cond.value, he]
  cases v <;> simp_all [Value.isRef]
theorem vx_isRefq {C n d : String} {A : Nat → Prop} {s : State} {args : Array Value} (h : va_Zq C n d A s s.heap) : (Cond.isRef (.static C n d)).before args s = true := by
  rcases h with h | ⟨t, h⟩
  · exact vx_isRef h rfl
  · exact vx_isRef h rfl
/-- the same frame, seen from here: as if the method were called anew in this heap -/
theorem vx_rebase {T : State} (X : Stand p l e R s m args below meth c T locs cells slots) {R' : Room} (hf : R'.frames ≤ R.frames) (hl : R'.locals ≤ R.locals) (hc : cells + R'.cells ≤ R.cells) (hs : slots + R'.slots ≤ R.slots) :
    Stand p l e R' ((T.setVm s.vm).setFrames (.invoking m args :: below)) m args below meth c T [] 0 0 := by
  have htop : (T.setVm s.vm).topJava?.isSome := X.here.top
  have hF : ((T.setVm s.vm).setFrames (.invoking m args :: below)).frames = .invoking m args :: below := State.frames_setFrames _ (State.cur_lt_of_top htop)
  obtain ⟨g₀, hg0⟩ := Option.isSome_iff_exists.mp htop
  obtain ⟨r, hr⟩ := State.topJava?_eq_some.mp hg0
  have hl9 : e.platform.stackLimits (T.setVm s.vm).me = e.platform.stackLimits s.me := X.limits
  have hb9 : (T.setVm s.vm).me.stackBytes = s.me.stackBytes := X.bytes
  refine ⟨X.admits, X.cas, X.clock, hF, ?_, X.hears, X.method, X.code, X.here, X.tail, X.warmed, ?_, ?_, ?_⟩
  · have h := X.room
    have hU : ((T.setVm s.vm).setFrames (.invoking m args :: below)).localsInUse = s.localsInUse := by
      rw [State.localsInUse_invoking hF (meth := meth) (c := c) X.method X.code, State.localsInUse_invoking X.frames X.method X.code]
    simp only [State.hasRoom, Bool.and_eq_true, decide_eq_true_eq] at h ⊢
    obtain ⟨⟨⟨⟨h1, h2, h3, h4, h5, h6⟩, h7⟩, h8⟩, h9⟩ := h
    rw [X.frames, List.length_cons] at h2 h3
    have q1 := X.heapSize
    have q2 := X.used
    simp only [hF, hU, List.length_cons, State.stackLimits_setFrames, State.stackBytes_setFrames, hl9, hb9]
    refine ⟨⟨⟨⟨by omega, by omega, by omega, by omega, by omega, h6⟩, ?_⟩, ?_⟩, X.book⟩
    · show T.heap.size + R'.cells ≤ e.platform.maxCells
      omega
    · show T.slotsUsed + R'.slots ≤ e.platform.maxSlots
      omega
  · rw [State.stackLimits_setFrames]; rfl
  · rw [State.stackBytes_setFrames]; rfl
  · refine ⟨?_, Nat.le_refl _, Nat.le_refl _, ?_, ?_, fun a c9 h9 => ⟨c9, h9, rfl, rfl, fun _ _ => rfl⟩⟩
    · obtain ⟨t, ht, -⟩ := State.frames_cons hr
      show T.setVm s.vm = { ((T.setVm s.vm).setFrames (.invoking m args :: below)).setFrames (T.setVm s.vm).frames with heap := T.heap, slotsUsed := T.slotsUsed }
      rw [State.setFrames_setFrames, State.setFrames_self ht]
      rfl
    · show T.slotsUsed = T.slotsUsed + ((T.heap.toList.drop T.heap.size).map (·.slots.size)).sum
      rw [List.drop_eq_nil_of_le (Nat.le_of_eq Array.length_toList)]
      rfl
    · show ((T.heap.toList.drop T.heap.size).map (·.slots.size)).sum ≤ 0
      rw [List.drop_eq_nil_of_le (Nat.le_of_eq Array.length_toList)]
      exact Nat.le_refl _
/-- 'throw new E()': new; dup; invokespecial; athrow -/
theorem vx_throw0 {cc : ByteArray} {pc : Nat} (hexec : p.tables.exec = Jvm.exec) (hb : c.code = cc) (hl : l.stackTraces = false) {own cls : String} {names : List String} {ik ic mc ms : Nat} {A : Nat → Prop}
    (hown : s.vm.findClass own = some m.cls) (hcls : Bundle.fit cls = true) (hnames : ∀ n ∈ names, Bundle.fit n = true)
    (hk : (Cond.classLink own ik cls).before args s = true) (hini : (Cond.initialized cls).before args s = true) (hat : ∀ w ∈ vx_at0 own ic cls names, w.before args s = true)
    (hgood : ∀ w ∈ Cond.classLink own ik cls :: Cond.initialized cls :: vx_at0 own ic cls names, vx_ot w = true)
    (hU : vx_Zq Bundle.tN "UNASSIGNED_STACK" Bundle.steD A s s.heap) (hN : vx_Zq Bundle.tN "SUPPRESSED_SENTINEL" Bundle.listD A s s.heap) (hS : va_S A s.heap H locs) (hsize : ls.size = c.maxLocals)
    (d0 : decode cc pc = .ok (.new ik, 3)) (d3 : decode cc (pc + 3) = .ok (.dup, 1)) (d4 : decode cc (pc + 4) = .ok (.invokespecial ic, 3)) (d7 : decode cc (pc + 7) = .ok (.athrow, 1))
    (hout : ∀ x ∈ c.exceptionTable.toList, covers x (pc + 7) = false)
    (hRframes : names.length + 3 < R.frames) (hRlocals : (rest.map fun v => v.category).sum + (13 * (names.length + 1) + 42) ≤ R.locals) (hRcells : cells + 1 ≤ R.cells) (hRslots : slots + 6 ≤ R.slots) (hlocks : meth.locks = false)
    (hx : ∀ t : State, s.vm.Alike t.vm → H.size ≤ t.heap.size → (∀ q : Nat, q < H.size → t.heap[q]? = H[q]?) → XC cls s t)
    (hf : ∀ z ∈ locs, free z.base) (hc : cells + 1 ≤ mc) (hs : slots + 6 ≤ ms) :
    W p l e R s m args below meth c H locs cells slots (vx_MQ below Qc XC args s mc ms free) (F0 m pc ls rest) := by
  intro T hT X
  have htr : e.platform.stackTraces = false := (show e.platform.stackTraces = l.stackTraces by rw [X.admits.platform]).trans hl
  have Y := vx_rebase X (R' := { frames := R.frames, locals := R.locals, cells := 1, slots := 6 }) (Nat.le_refl _) (Nat.le_refl _) hRcells hRslots
  obtain ⟨s', hA⟩ : ∃ z, z = (T.setVm s.vm).setFrames (.invoking m args :: below) := ⟨_, rfl⟩
  rw [← hA] at Y
  have hvm : s'.vm = s.vm := by rw [hA]; rfl
  have hhp : s'.heap = H := by rw [hA]; exact hT
  have hW0 : s.WarmedH s'.vm := by rw [hvm]; exact State.WarmedH.refl s
  have hat' : ∀ w ∈ vx_at0 own ic cls names, w.before args s' = true := fun w hw => vx_ot_at hW0 hvm.symm (hgood w (List.mem_cons_of_mem _ (List.mem_cons_of_mem _ hw))) (hat w hw)
  have hk' : (Cond.classLink own ik cls).before args s' = true := vx_ot_at hW0 hvm.symm (hgood _ List.mem_cons_self) hk
  have hini' : (Cond.initialized cls).before args s' = true := vx_ot_at hW0 hvm.symm (hgood _ (List.mem_cons_of_mem _ List.mem_cons_self)) hini
  have hU' : vx_Zq Bundle.tN "UNASSIGNED_STACK" Bundle.steD A s' s'.heap := by rw [hhp]; exact vx_Zq.moved hW0.alike (hU.kept hS.2.1)
  have hN' : vx_Zq Bundle.tN "SUPPRESSED_SENTINEL" Bundle.listD A s' s'.heap := by rw [hhp]; exact vx_Zq.moved hW0.alike (hN.kept hS.2.1)
  have h : ∀ w ∈ Bundle.ownAtoms0 own ic cls names, w.before args s' = true := vx_own hat' (vx_isRefq hU'.1) (vx_isRefq hN'.1) hU'.2.word hN'.2.word
  have hown' : s'.vm.findClass own = some m.cls := by rw [hvm]; exact hown
  have hins : (Cond.instantiable cls 6).before args s' = true := h _ (by simp [Bundle.ownAtoms0])
  obtain ⟨vm₁, cX, kX, hfX, hkX, -, -, X₁, st1⟩ := Y.newCold hexec (own := own) (C := cls) (index := ik) (n := 6) hown' hk' hins hini'
    (g := F0 m pc ls rest) rfl (by rw [hb]; exact d0) (Nat.le_refl _) (Nat.le_refl _)
  generalize hT1 : (T.setVm vm₁).pushCell { cls := cX, slots := kX.instanceTypes.map defaultValue, vm := .none } = T1 at X₁ st1
  have hcat : (Value.ref T.heap.size).category = 1 := rfl
  have hcellA : T1.heap[T.heap.size]? = some (freshCell cX kX) := by rw [← hT1]; exact State.heap_pushCell_size _ _
  have d3' : decode c.code (pc + 3) = .ok (.dup, 1) := by rw [hb]; exact d3
  obtain ⟨U, hsteps, hrun, hend, hW, hsame, ce, hce, hO⟩ := X₁.ctorThrow0 hexec htr (own := own) (cls := cls) (names := names) (ic := ic) hown' hcls hnames h (fun x hx => nomatch hx) hfX hkX hcellA (by rw [hhp, hT]; exact Nat.le_refl _)
    (g := { method := m, pc := pc + 4, locals := ls, stack := .ref T.heap.size :: .ref T.heap.size :: rest, locked := none }) rfl hsize rfl rfl (rest := rest) rfl
    (by rw [hb]; exact d4) (by rw [hb]; exact d7) hout hRframes (by simp only [List.map_cons, List.sum_cons, hcat]; omega) hlocks
  obtain ⟨f1, f2⟩ := vx_frame hsame
  rw [hhp] at f1 f2
  have hWs : s.WarmedH U.vm := State.WarmedH.trans hW0 hW
  have hcl : s.vm.findClass cls = some ce.cls := by
    have h9 := hO.cls
    rw [hvm] at h9
    exact h9
  have hall : s.sameButNew ({ U with vm := s.vm } : State) locs mc ms := by
    subst hA
    obtain ⟨e1, e2⟩ := hsame
    rw [State.setFrames_setFrames] at e1
    have h2 : (T.setVm s.vm).sameButNew ({ U with vm := s.vm } : State) [] (0 + 1) (0 + 6) := ⟨e1, e2⟩
    have h3 := X.same.trans h2
    rw [List.append_nil] at h3
    exact h3.mono hc hs
  refine ⟨U, ?_, .threw T.heap.size, hrun, hend, Or.inr ⟨T.heap.size, rfl, cls, ce, locs, hx U hWs.alike f1 (fun q hq => f2 q hq (fun z hz => nomatch hz)), hce, hO.vm, hcl, hWs, hall, hf⟩⟩
  refine st1 _ ?_
  show Steps p.tables e below (T1.setTop { method := m, pc := pc + 3, locals := ls, stack := .ref T.heap.size :: rest, locked := none }) _
  jvm_step X₁.here [X₁.here.top, hexec, d3', Value.category]
  exact hsteps
/-- 'throw new E("text")': new; dup; ldc; invokespecial; athrow -/
theorem vx_throwS {cc : ByteArray} {pc : Nat} (hexec : p.tables.exec = Jvm.exec) (hb : c.code = cc) (hl : l.stackTraces = false) {own cls text : String} {names : List String} {ik is ic mc ms sa : Nat} {A : Nat → Prop}
    (hown : s.vm.findClass own = some m.cls) (hcls : Bundle.fit cls = true) (hnames : ∀ n ∈ names, Bundle.fit n = true)
    (hk : (Cond.classLink own ik cls).before args s = true) (hini : (Cond.initialized cls).before args s = true) (hstr : vk_R own is text sa s) (hat : ∀ w ∈ vx_atS own ic cls names, w.before args s = true)
    (hgood : ∀ w ∈ Cond.classLink own ik cls :: Cond.initialized cls :: vx_atS own ic cls names, vx_ot w = true)
    (hU : vx_Zq Bundle.tN "UNASSIGNED_STACK" Bundle.steD A s s.heap) (hN : vx_Zq Bundle.tN "SUPPRESSED_SENTINEL" Bundle.listD A s s.heap) (hS : va_S A s.heap H locs) (hsize : ls.size = c.maxLocals)
    (d0 : decode cc pc = .ok (.new ik, 3)) (d3 : decode cc (pc + 3) = .ok (.dup, 1)) (d4 : decode cc (pc + 4) = .ok (.ldc is, 2)) (d6 : decode cc (pc + 6) = .ok (.invokespecial ic, 3)) (d9 : decode cc (pc + 9) = .ok (.athrow, 1))
    (hout : ∀ x ∈ c.exceptionTable.toList, covers x (pc + 9) = false)
    (hRframes : names.length + 3 < R.frames) (hRlocals : (rest.map fun v => v.category).sum + (13 * (names.length + 1) + 43) ≤ R.locals) (hRcells : cells + 1 ≤ R.cells) (hRslots : slots + 6 ≤ R.slots) (hlocks : meth.locks = false)
    (hx : ∀ t : State, s.vm.Alike t.vm → H.size ≤ t.heap.size → (∀ q : Nat, q < H.size → t.heap[q]? = H[q]?) → XC cls s t)
    (hf : ∀ z ∈ locs, free z.base) (hc : cells + 1 ≤ mc) (hs : slots + 6 ≤ ms) :
    W p l e R s m args below meth c H locs cells slots (vx_MQ below Qc XC args s mc ms free) (F0 m pc ls rest) := by
  intro T hT X
  have htr : e.platform.stackTraces = false := (show e.platform.stackTraces = l.stackTraces by rw [X.admits.platform]).trans hl
  have Y := vx_rebase X (R' := { frames := R.frames, locals := R.locals, cells := 1, slots := 6 }) (Nat.le_refl _) (Nat.le_refl _) hRcells hRslots
  obtain ⟨s', hA⟩ : ∃ z, z = (T.setVm s.vm).setFrames (.invoking m args :: below) := ⟨_, rfl⟩
  rw [← hA] at Y
  have hvm : s'.vm = s.vm := by rw [hA]; rfl
  have hhp : s'.heap = H := by rw [hA]; exact hT
  have hW0 : s.WarmedH s'.vm := by rw [hvm]; exact State.WarmedH.refl s
  have hat' : ∀ w ∈ vx_atS own ic cls names, w.before args s' = true := fun w hw => vx_ot_at hW0 hvm.symm (hgood w (List.mem_cons_of_mem _ (List.mem_cons_of_mem _ hw))) (hat w hw)
  have hk' : (Cond.classLink own ik cls).before args s' = true := vx_ot_at hW0 hvm.symm (hgood _ List.mem_cons_self) hk
  have hini' : (Cond.initialized cls).before args s' = true := vx_ot_at hW0 hvm.symm (hgood _ (List.mem_cons_of_mem _ List.mem_cons_self)) hini
  have hU' : vx_Zq Bundle.tN "UNASSIGNED_STACK" Bundle.steD A s' s'.heap := by rw [hhp]; exact vx_Zq.moved hW0.alike (hU.kept hS.2.1)
  have hN' : vx_Zq Bundle.tN "SUPPRESSED_SENTINEL" Bundle.listD A s' s'.heap := by rw [hhp]; exact vx_Zq.moved hW0.alike (hN.kept hS.2.1)
  have h : ∀ w ∈ Bundle.ownAtoms own ic cls names, w.before args s' = true := vx_own hat' (vx_isRefq hU'.1) (vx_isRefq hN'.1) hU'.2.word hN'.2.word
  have hown' : s'.vm.findClass own = some m.cls := by rw [hvm]; exact hown
  have hins : (Cond.instantiable cls 6).before args s' = true := h _ (by simp [Bundle.ownAtoms])
  obtain ⟨vm₁, cX, kX, hfX, hkX, -, -, X₁, st1⟩ := Y.newCold hexec (own := own) (C := cls) (index := ik) (n := 6) hown' hk' hins hini'
    (g := F0 m pc ls rest) rfl (by rw [hb]; exact d0) (Nat.le_refl _) (Nat.le_refl _)
  generalize hT1 : (T.setVm vm₁).pushCell { cls := cX, slots := kX.instanceTypes.map defaultValue, vm := .none } = T1 at X₁ st1
  have hcat : (Value.ref T.heap.size).category = 1 := rfl
  have hcellA : T1.heap[T.heap.size]? = some (freshCell cX kX) := by rw [← hT1]; exact State.heap_pushCell_size _ _
  have d3' : decode c.code (pc + 3) = .ok (.dup, 1) := by rw [hb]; exact d3
  have d4' : decode c.code (pc + 4) = .ok (.ldc is, 2) := by rw [hb]; exact d4
  have hstr' : vk_R own is text sa s' := vk_R.warm hW0 hstr
  obtain ⟨U, hsteps, hrun, hend, hW, hsame, ce, hce, hO⟩ := X₁.ctorThrowS hexec htr (own := own) (cls := cls) (names := names) (ic := ic) hown' hcls hnames h (fun x hx => nomatch hx) hfX hkX hcellA (by rw [hhp, hT]; exact Nat.le_refl _) (msg := .ref sa) rfl
    (g := { method := m, pc := pc + 6, locals := ls, stack := .ref sa :: .ref T.heap.size :: .ref T.heap.size :: rest, locked := none }) rfl hsize rfl rfl (rest := rest) rfl
    (by rw [hb]; exact d6) (by rw [hb]; exact d9) hout hRframes (by simp only [List.map_cons, List.sum_cons, hcat]; omega) hlocks
  obtain ⟨f1, f2⟩ := vx_frame hsame
  rw [hhp] at f1 f2
  have hWs : s.WarmedH U.vm := State.WarmedH.trans hW0 hW
  have hcl : s.vm.findClass cls = some ce.cls := by
    have h9 := hO.cls
    rw [hvm] at h9
    exact h9
  have hall : s.sameButNew ({ U with vm := s.vm } : State) locs mc ms := by
    subst hA
    obtain ⟨e1, e2⟩ := hsame
    rw [State.setFrames_setFrames] at e1
    have h2 : (T.setVm s.vm).sameButNew ({ U with vm := s.vm } : State) [] (0 + 1) (0 + 6) := ⟨e1, e2⟩
    have h3 := X.same.trans h2
    rw [List.append_nil] at h3
    exact h3.mono hc hs
  refine ⟨U, ?_, .threw T.heap.size, hrun, hend, Or.inr ⟨T.heap.size, rfl, cls, ce, locs, hx U hWs.alike f1 (fun q hq => f2 q hq (fun z hz => nomatch hz)), hce, hO.vm, hcl, hWs, hall, hf⟩⟩
  refine st1 _ ?_
  show Steps p.tables e below (T1.setTop { method := m, pc := pc + 3, locals := ls, stack := .ref T.heap.size :: rest, locked := none }) _
  jvm_step X₁.here [X₁.here.top, hexec, d3', Value.category]
  exact X₁.ldcString hexec (own := own) (text := text) (index := is) (a := sa) hown' hstr'.1 hstr'.2
    (g := { method := m, pc := pc + 4, locals := ls, stack := .ref T.heap.size :: .ref T.heap.size :: rest, locked := none }) rfl d4' _ hsteps
/-- 'throw new E("text")', the text by a wide index -/
theorem vx_throwSW {cc : ByteArray} {pc : Nat} (hexec : p.tables.exec = Jvm.exec) (hb : c.code = cc) (hl : l.stackTraces = false) {own cls text : String} {names : List String} {ik is ic mc ms sa : Nat} {A : Nat → Prop}
    (hown : s.vm.findClass own = some m.cls) (hcls : Bundle.fit cls = true) (hnames : ∀ n ∈ names, Bundle.fit n = true)
    (hk : (Cond.classLink own ik cls).before args s = true) (hini : (Cond.initialized cls).before args s = true) (hstr : vk_R own is text sa s) (hat : ∀ w ∈ vx_atS own ic cls names, w.before args s = true)
    (hgood : ∀ w ∈ Cond.classLink own ik cls :: Cond.initialized cls :: vx_atS own ic cls names, vx_ot w = true)
    (hU : vx_Zq Bundle.tN "UNASSIGNED_STACK" Bundle.steD A s s.heap) (hN : vx_Zq Bundle.tN "SUPPRESSED_SENTINEL" Bundle.listD A s s.heap) (hS : va_S A s.heap H locs) (hsize : ls.size = c.maxLocals)
    (d0 : decode cc pc = .ok (.new ik, 3)) (d3 : decode cc (pc + 3) = .ok (.dup, 1)) (d4 : decode cc (pc + 4) = .ok (.ldc_w is, 3)) (d7 : decode cc (pc + 7) = .ok (.invokespecial ic, 3)) (d10 : decode cc (pc + 10) = .ok (.athrow, 1))
    (hout : ∀ x ∈ c.exceptionTable.toList, covers x (pc + 10) = false)
    (hRframes : names.length + 3 < R.frames) (hRlocals : (rest.map fun v => v.category).sum + (13 * (names.length + 1) + 43) ≤ R.locals) (hRcells : cells + 1 ≤ R.cells) (hRslots : slots + 6 ≤ R.slots) (hlocks : meth.locks = false)
    (hx : ∀ t : State, s.vm.Alike t.vm → H.size ≤ t.heap.size → (∀ q : Nat, q < H.size → t.heap[q]? = H[q]?) → XC cls s t)
    (hf : ∀ z ∈ locs, free z.base) (hc : cells + 1 ≤ mc) (hs : slots + 6 ≤ ms) :
    W p l e R s m args below meth c H locs cells slots (vx_MQ below Qc XC args s mc ms free) (F0 m pc ls rest) := by
  intro T hT X
  have htr : e.platform.stackTraces = false := (show e.platform.stackTraces = l.stackTraces by rw [X.admits.platform]).trans hl
  have Y := vx_rebase X (R' := { frames := R.frames, locals := R.locals, cells := 1, slots := 6 }) (Nat.le_refl _) (Nat.le_refl _) hRcells hRslots
  obtain ⟨s', hA⟩ : ∃ z, z = (T.setVm s.vm).setFrames (.invoking m args :: below) := ⟨_, rfl⟩
  rw [← hA] at Y
  have hvm : s'.vm = s.vm := by rw [hA]; rfl
  have hhp : s'.heap = H := by rw [hA]; exact hT
  have hW0 : s.WarmedH s'.vm := by rw [hvm]; exact State.WarmedH.refl s
  have hat' : ∀ w ∈ vx_atS own ic cls names, w.before args s' = true := fun w hw => vx_ot_at hW0 hvm.symm (hgood w (List.mem_cons_of_mem _ (List.mem_cons_of_mem _ hw))) (hat w hw)
  have hk' : (Cond.classLink own ik cls).before args s' = true := vx_ot_at hW0 hvm.symm (hgood _ List.mem_cons_self) hk
  have hini' : (Cond.initialized cls).before args s' = true := vx_ot_at hW0 hvm.symm (hgood _ (List.mem_cons_of_mem _ List.mem_cons_self)) hini
  have hU' : vx_Zq Bundle.tN "UNASSIGNED_STACK" Bundle.steD A s' s'.heap := by rw [hhp]; exact vx_Zq.moved hW0.alike (hU.kept hS.2.1)
  have hN' : vx_Zq Bundle.tN "SUPPRESSED_SENTINEL" Bundle.listD A s' s'.heap := by rw [hhp]; exact vx_Zq.moved hW0.alike (hN.kept hS.2.1)
  have h : ∀ w ∈ Bundle.ownAtoms own ic cls names, w.before args s' = true := vx_own hat' (vx_isRefq hU'.1) (vx_isRefq hN'.1) hU'.2.word hN'.2.word
  have hown' : s'.vm.findClass own = some m.cls := by rw [hvm]; exact hown
  have hins : (Cond.instantiable cls 6).before args s' = true := h _ (by simp [Bundle.ownAtoms])
  obtain ⟨vm₁, cX, kX, hfX, hkX, -, -, X₁, st1⟩ := Y.newCold hexec (own := own) (C := cls) (index := ik) (n := 6) hown' hk' hins hini'
    (g := F0 m pc ls rest) rfl (by rw [hb]; exact d0) (Nat.le_refl _) (Nat.le_refl _)
  generalize hT1 : (T.setVm vm₁).pushCell { cls := cX, slots := kX.instanceTypes.map defaultValue, vm := .none } = T1 at X₁ st1
  have hcat : (Value.ref T.heap.size).category = 1 := rfl
  have hcellA : T1.heap[T.heap.size]? = some (freshCell cX kX) := by rw [← hT1]; exact State.heap_pushCell_size _ _
  have d3' : decode c.code (pc + 3) = .ok (.dup, 1) := by rw [hb]; exact d3
  have d4' : decode c.code (pc + 4) = .ok (.ldc_w is, 3) := by rw [hb]; exact d4
  have hstr' : vk_R own is text sa s' := vk_R.warm hW0 hstr
  obtain ⟨U, hsteps, hrun, hend, hW, hsame, ce, hce, hO⟩ := X₁.ctorThrowS hexec htr (own := own) (cls := cls) (names := names) (ic := ic) hown' hcls hnames h (fun x hx => nomatch hx) hfX hkX hcellA (by rw [hhp, hT]; exact Nat.le_refl _) (msg := .ref sa) rfl
    (g := { method := m, pc := pc + 7, locals := ls, stack := .ref sa :: .ref T.heap.size :: .ref T.heap.size :: rest, locked := none }) rfl hsize rfl rfl (rest := rest) rfl
    (by rw [hb]; exact d7) (by rw [hb]; exact d10) hout hRframes (by simp only [List.map_cons, List.sum_cons, hcat]; omega) hlocks
  obtain ⟨f1, f2⟩ := vx_frame hsame
  rw [hhp] at f1 f2
  have hWs : s.WarmedH U.vm := State.WarmedH.trans hW0 hW
  have hcl : s.vm.findClass cls = some ce.cls := by
    have h9 := hO.cls
    rw [hvm] at h9
    exact h9
  have hall : s.sameButNew ({ U with vm := s.vm } : State) locs mc ms := by
    subst hA
    obtain ⟨e1, e2⟩ := hsame
    rw [State.setFrames_setFrames] at e1
    have h2 : (T.setVm s.vm).sameButNew ({ U with vm := s.vm } : State) [] (0 + 1) (0 + 6) := ⟨e1, e2⟩
    have h3 := X.same.trans h2
    rw [List.append_nil] at h3
    exact h3.mono hc hs
  refine ⟨U, ?_, .threw T.heap.size, hrun, hend, Or.inr ⟨T.heap.size, rfl, cls, ce, locs, hx U hWs.alike f1 (fun q hq => f2 q hq (fun z hz => nomatch hz)), hce, hO.vm, hcl, hWs, hall, hf⟩⟩
  refine st1 _ ?_
  show Steps p.tables e below (T1.setTop { method := m, pc := pc + 3, locals := ls, stack := .ref T.heap.size :: rest, locked := none }) _
  jvm_step X₁.here [X₁.here.top, hexec, d3', Value.category]
  exact X₁.ldcStringW hexec (own := own) (text := text) (index := is) (a := sa) hown' hstr'.1 hstr'.2
    (g := { method := m, pc := pc + 4, locals := ls, stack := .ref T.heap.size :: .ref T.heap.size :: rest, locked := none }) rfl d4' _ hsteps
end Ends
section Bodies
variable {l : Launch}
theorem vx_ofW {y : MethodName} {ws ws' : List Cond} {rm : Room} {Pc : Array Value → State → Prop} {Qc : Array Value → State → Outcome → State → Prop} {XC : String → State → State → Prop} {mc ms : Nat} {free : Addr → Prop} {cc : ByteArray} {maxL : Nat} {ret : Option FieldType}
    (hy : plainName y.cls = true) (hw : ws = Cond.code y cc maxL ret :: ws')
    (body : ∀ p e s m args below meth c s₁, BodyLoose p l y (headSpec ws rm) cc maxL ret e s m args below meth c s₁ → c.maxLocals = maxL → (∀ x ∈ c.exceptionTable.toList, False) → Pc args s →
      W p l e (headSpec ws rm).room s m args below meth c s.heap [] 0 0 (vx_MQ below Qc XC args s mc ms free) (entryFrame m args maxL)) : vx_Met l y ws rm Pc Qc XC mc ms free := by
  refine MetFree.of_bodyS (code := cc) (maxLocals := maxL) (ret := ret) hy ?_ ?_
  · intro args s m h hn
    obtain ⟨meth, c, h1, h2, h3, h4, h5, h6, -, -⟩ := Cond.code_spec hn (atoms_spec (ws := ws) h _ (by rw [hw]; exact List.mem_cons_self))
    exact ⟨meth, c, h1, h2, h3, h4, h5, h6⟩
  · intro p e s m args below meth c s₁ B hml hP _
    have hh0 : s₁.heap = s.heap := by rw [B.state]; rfl
    have ht : ∀ x ∈ c.exceptionTable.toList, False := by
      obtain ⟨meth9, c9, h1, h2, -, -, -, -, h7, -⟩ := Cond.code_spec B.named (atoms_spec (ws := ws) B.pre _ (by rw [hw]; exact List.mem_cons_self))
      cases Option.some.inj (h1.symm.trans B.method)
      cases Option.some.inj (h2.symm.trans (Stand.of_body B).code)
      intro x hx
      rw [Array.isEmpty_iff.mp h7] at hx
      cases hx
    obtain ⟨t, a1, o, b1, b2, b3⟩ := body p e s m args below meth c s₁ B hml ht hP s₁ hh0 (Stand.of_body B)
    exact ⟨t, o, a1, b1, b2, b3⟩
/-- the table of a body with handlers -/
theorem vx_table {p : Program} {x y : MethodName} {S : Spec} {cc bytes : ByteArray} {maxL maxL' : Nat} {ret ret' : Option FieldType} {e : Env} {s s₁ : State} {m : MethodId} {args : Array Value} {below : List Frame} {meth : Method} {c : Code} {hh : List (Nat × Nat × Nat × Nat)}
    (B : BodyLoose p l y S cc maxL ret e s m args below meth c s₁) (h : (Cond.codeWith y bytes maxL' ret' hh).before args s = true) : c.exceptionTable.toList = tableOf hh := by
  obtain ⟨m9, meth9, c9, hn9, h1, h2, -, -, h6, -⟩ := Cond.codeWith_spec h
  cases Option.some.inj (hn9.symm.trans B.named)
  cases Option.some.inj (h1.symm.trans B.method)
  cases Option.some.inj (h2.symm.trans (Stand.of_body B).code)
  rw [← h6, table_eq]
end Bodies
end VXA
/-! ===== END ===== -/
/-! ===== BEGIN a static call of a method with an exception table ===== -/
section VXS
variable {p : Program} {l : Launch} {e : Env} {R : Room} {s : State} {m : MethodId} {args : Array Value} {below : List Frame} {meth : Method} {c : Code} {T : State} {H : Heap} {locs : List Loc} {cells slots : Nat}
abbrev vx_CSW (R : Room) (s : State) (args : Array Value) (own : String) (index : Nat) (y : MethodName) (bytes : ByteArray) (maxL : Nat) (ret : Option FieldType) (hh : List (Nat × Nat × Nat × Nat)) (ws : List Cond) (rm : Room) (mc ms n : Nat) : Prop :=
  (rm.cells = mc ∧ rm.slots = ms ∧ rm.frames + 1 ≤ R.frames ∧ 8 + (maxL + 11) + rm.locals ≤ R.locals ∧ (∀ w ∈ ws, ∀ (a' : Array Value) (U : State), s.WarmedH U.vm → w.before a' U = true) ∧ Cond.codeWith y bytes maxL ret hh ∈ ws) ∧
  (Cond.codeWith y bytes maxL ret hh).before args s = true ∧ (Cond.initialized y.cls).before args s = true ∧ (y.cls ≠ "java/lang/invoke/MethodHandle" ∧ y.cls ≠ "java/lang/invoke/VarHandle") ∧
  (∀ sig, parseMethodDescriptor y.desc = some sig → n = sig.parameters.length) ∧ (Cond.methodLink own index y).before args s = true ∧ (Cond.static y).before args s = true
theorem vx_cwSW {own : String} {index maxL mc ms : Nat} {y : MethodName} {bytes : ByteArray} {ret : Option FieldType} {hh : List (Nat × Nat × Nat × Nat)} {Ts ws ws' : List Cond} {rm : Room} (n : Nat) (ht : ∀ w ∈ Ts, w.before args s = true) (hT : GoodIn Ts (va_wsS own index y ws)) (hw : ws = Cond.codeWith y bytes maxL ret hh :: ws') (hrc : rm.cells = mc) (hrs : rm.slots = ms)
    (hd : y.cls ≠ "java/lang/invoke/MethodHandle" ∧ y.cls ≠ "java/lang/invoke/VarHandle" ∧ (parseMethodDescriptor y.desc).map (fun d => d.parameters.length) = some n) (hR : rm.frames + 1 ≤ R.frames ∧ 8 + (maxL + 11) + rm.locals ≤ R.locals) :
    vx_CSW R s args own index y bytes maxL ret hh ws rm mc ms n := by
  have ok : ∀ w ∈ va_wsS own index y ws, w.before args s = true := fun w h => ht w (hT w h).1
  have hG : GoodIn Ts ws := fun w h => hT w (by unfold va_wsS; exact List.mem_append_right _ h)
  have hc : Cond.codeWith y bytes maxL ret hh ∈ ws := by rw [hw]; exact List.mem_cons_self
  refine ⟨⟨hrc, hrs, hR.1, hR.2, pay_in ht hG, hc⟩, ht _ (hG _ hc).1, ok _ (by simp [va_wsS]), ⟨hd.1, hd.2.1⟩, fun sig h => ?_, ok _ (by simp [va_wsS]), ok _ (by simp [va_wsS])⟩
  have h2 := hd.2.2
  rw [h] at h2
  exact (Option.some.inj h2).symm
theorem vx_callSW (X : Stand p l e R s m args below meth c T locs cells slots) (hexec : p.tables.exec = Jvm.exec) {own : String} {index : Nat} {y : MethodName} {bytes : ByteArray} {maxL : Nat} {ret : Option FieldType} {hh : List (Nat × Nat × Nat × Nat)}
    (hown : s.vm.findClass own = some m.cls) (hlink : (Cond.methodLink own index y).before args s = true) (hstat : (Cond.static y).before args s = true) (hinit : (Cond.initialized y.cls).before args s = true)
    (hcode : (Cond.codeWith y bytes maxL ret hh).before args s = true) (hy : y.cls ≠ "java/lang/invoke/MethodHandle" ∧ y.cls ≠ "java/lang/invoke/VarHandle")
    {W9 : Nat} {Pre : Pt → Array Value → Prop} {Post : Pt → Array Value → Option Value → Pt → Prop} (hK : Back l R p e below s args y 3 W9 Pre Post)
    {g : JFrame} (hg : g.method = m) (hsize : g.locals.size = c.maxLocals) {argsL rest : List Value} (hlen : ∀ sig, parseMethodDescriptor y.desc = some sig → argsL.length = sig.parameters.length)
    (hstack : g.stack = argsL.reverse ++ rest) (hW : 2 * g.monitorRoom + (rest.map fun v => v.category).sum ≤ W9) (hdg : decode c.code g.pc = .ok (.invokestatic index, 3))
    (hpre : ∀ vm₁, s.WarmedH vm₁ → Pre ⟨T.setVm vm₁, locs, cells, slots⟩ argsL.toArray) :
    ∃ (v : Option Value) (vm₁ : Vm) (B : Pt), s.WarmedH vm₁ ∧ Stand p l e R s m args below meth c B.U B.locs B.cells B.slots ∧ Post ⟨T.setVm vm₁, locs, cells, slots⟩ argsL.toArray v B ∧
      ∀ target, Steps p.tables e below (B.U.setTop { g with pc := g.pc + 3, stack := v.toList ++ rest }) target → Steps p.tables e below (T.setTop g) target := by
  obtain ⟨mk, methM, cM, hnamed, hmethM, -, -, -, -, -, -, hsigM⟩ := Cond.codeWith_spec hcode
  have hstatic : methM.isStatic = true := Cond.static_spec hnamed hmethM hstat
  obtain ⟨kP, hkP, -⟩ := className_of_methodNamed hnamed
  have hinitP : kP.init = .initialized := Cond.initialized_spec (findClass_of_methodNamed hnamed) hkP hinit
  obtain ⟨vm₁, X₁, hstep₁⟩ := X.invokestatic hexec hown hlink hnamed hmethM hstatic hkP hinitP hy (g := g) hg (argsL := argsL) (rest := rest) (hlen _ hsigM) hstack hdg
  obtain ⟨v, B, X', hpost, hsteps⟩ := hK m meth c ⟨T.setVm vm₁, locs, cells, slots⟩ { g with stack := rest } (.invokestatic index) mk argsL.toArray X₁ hg hsize hdg hW (X₁.named hnamed) (hpre vm₁ X₁.warmed)
  exact ⟨v, vm₁, B, X₁.warmed, X', hpost, fun target h => hstep₁ _ fun acts => by rw [doInvoke_state]; exact hsteps.trans h⟩
theorem vx_runSW {y : MethodName} {bytes cc : ByteArray} {maxL nL mc ms n index : Nat} {ret : Option FieldType} {hh : List (Nat × Nat × Nat × Nat)} {ws : List Cond} {rm : Room} {Pc : Array Value → State → Prop} {Qc : Array Value → State → Outcome → State → Prop} {free : Addr → Prop} {Ts : List Cond} {own : String} {As rest : List Value} {g : JFrame}
    (S : CallFix p m c cc nL s args Ts own) (hM : Met l y ws rm Pc Qc mc ms free) (cw : vx_CSW R s args own index y bytes maxL ret hh ws rm mc ms n) (hp : PreS s H Pc As)
    (hg : g.method = m) (hn : As.length = n) (hsize : g.locals.size = nL) (hstack : g.stack = As.reverse ++ rest) (hW : 2 * g.monitorRoom + (rest.map fun v => v.category).sum ≤ 8) (hdg : decode cc g.pc = .ok (.invokestatic index, 3)) (hf : cells + mc ≤ R.cells ∧ slots + ms ≤ R.slots) :
    va_Run p l e R s m args below meth c H locs cells slots mc ms g rest (Qc As.toArray) (free) := by
  obtain ⟨⟨hrc, hrs, hfr, hlo, hws, hcw⟩, hcode, hini, hy, hlen, hl, hstt⟩ := cw
  have hK : Back l R p e below s args y 3 8 (PreOf R mc ms Pc) (PostOf Qc mc ms free) := va_backW (hh := hh) (bytes := bytes) (maxL := maxL) (ret := ret) hM hp.1 hrc hrs hfr hlo hws hcw (fun a' U hW => word_at hW (Or.inl (by first | rfl | simp [Cond.onTables, Cond.keeps, Cond.steady])) hini)
  obtain ⟨hx, hb, hml, ho, -⟩ := S
  intro T hT X
  obtain ⟨v, vm₁, ⟨U', l2, c2, s2⟩, hW₁, X', ⟨g', mk, t, L, e1, e2, hq, h1, hL, h2, h3⟩, st⟩ := vx_callSW X hx (hh := hh) (bytes := bytes) (maxL := maxL) (ret := ret) ho hl hstt hini hcode hy hK hg (hsize.trans hml.symm) (argsL := As) (rest := rest) (fun sig h => hn.trans (hlen sig h)) hstack hW (by rw [hb]; exact hdg)
    (fun vm₁ hW₁ => ⟨hf.1, hf.2, hp.2 (T.setVm vm₁) hT hW₁⟩)
  dsimp only [Pt.U, Pt.locs, Pt.cells, Pt.slots] at X' e1 e2 h1 h2 h3 st
  subst h1; subst h2; subst h3
  exact ⟨v, (T.setVm vm₁).calling g' mk As.toArray, t, U', L, hT, X', hL, e1, e2, hq, st⟩
/-- not caught here, past rows that name other classes: it goes on to the caller -/
theorem vx_outP {p : Program} {l : Launch} {e : Env} {R : Room} {s : State} {m : MethodId} {args : Array Value} {below : List Frame} {meth : Method} {c : Code} {H : Heap} {locs : List Loc} {cells slots : Nat} {free : Addr → Prop} {ls : Array Slot} {rest : List Value} {Qc : Array Value → State → Outcome → State → Prop} {XC : String → State → State → Prop}
    {pc : Nat} {own E : String} {ce : Cell} {q : Addr} {mc ms : Nat} (hown : s.vm.findClass own = some m.cls) (hlocks : meth.locks = false)
    (hpass : ∀ z ∈ c.exceptionTable.toList, covers z pc = false ∨ (z.catchType ≠ 0 ∧ ∃ nm : String, (Cond.classLink own z.catchType nm).before args s = true ∧ va_Nc E nm s)) (hcell : H[q]? = some ce) (hv : ce.vm = .none) (hcl : s.vm.findClass E = some ce.cls)
    (hx : ∀ t : State, t.heap = H → s.vm.Alike t.vm → XC E s t) (hf : ∀ z ∈ locs, free z.base) (hc : cells ≤ mc) (hs : slots ≤ ms) :
    vx_W p l e R s m args below meth c H locs cells slots (vx_MQ below Qc XC args s mc ms free) (F0 m pc ls rest) q := by
  intro T hT X
  have hpl : e.platform.magicAccessors = ({} : Platform).magicAccessors := by rw [X.admits.platform]
  obtain ⟨vm', hW', X', st⟩ := X.outThrough hlocks q (g := F0 m pc ls rest) rfl rfl rfl (cell := ce) (by rw [hT]; exact hcell) (by rw [hv]; rfl)
    (by obtain ⟨k9, h9, -⟩ := Vm.findClass_spec hcl; exact ⟨k9, h9⟩) (fun z hz => by
      rcases hpass z hz with h | ⟨hz0, nm, hl1, hn1⟩
      · exact Or.inl h
      · obtain ⟨c6, hc6, hcl6⟩ := Cond.classLink_spec hown hl1 e.platform hpl
        obtain ⟨a8, b8, h1, h2, h3⟩ := hn1
        cases Option.some.inj (h1.symm.trans hcl)
        cases Option.some.inj (h2.symm.trans hc6)
        exact Or.inr ⟨hz0, _, hcl6, h3⟩)
  obtain ⟨g₀, hfr⟩ := X'.frames_eq
  have hcell9 : ((T.setVm vm').setFrames (.throwing q :: below)).heap[q]? = some ce := by
    show T.heap[q]? = some ce
    rw [hT]; exact hcell
  have hend : Ended ((T.setVm vm').setFrames (.throwing q :: below)) below (.threw q) := State.frames_setFrames _ (State.cur_lt_of_frames hfr)
  refine ⟨(T.setVm vm').setFrames (.throwing q :: below), ?_, .threw q, X'.here.running, hend, Or.inr ⟨q, rfl, E, ce, locs, hx _ hT (X'.ends _).1.alike, hcell9, hv, hcl, (X'.ends _).1, (X'.ends _).2.mono hc hs, hf⟩⟩
  rw [X.pushThrowing_eq]
  exact st
/-- a thing of a world lies in the heap -/
theorem vx_lt {D : va_G} {cl : List vw_C} {ws : va_W} {H1 : Heap} (h : va_P D cl ws H1) {k : Nat} {q : Nat × va_E} (hk : ws[k]? = some q) : q.1 < H1.size := (h k q hk).lt
end VXS
/-! ===== END ===== -/
/-! ===== BEGIN methods with a table of their own: called by a name, returning or throwing ===== -/
section VXH
/-! vx_backW, vx_callVX, vx_callSX, vx_callVW, vx_runVW, vx_runVX, vx_runSX, vx_ofWH follow the same proofs as their sisters above (Free/Laws.lean, Shelf42/LK1.lean); vx_outP calls Shelf42/NT130.lean (outThrough). -/
section
variable {l : Launch} {R : Room} {p : Program} {e : Env} {below : List Frame} {s : State} {sargs : Array Value} {y : MethodName} {len W9 : Nat}
theorem vx_backW {ws : List Cond} {rm : Room} {Pc : Array Value → State → Prop} {Qc : Array Value → State → Outcome → State → Prop} {XC : String → State → State → Prop} {mc ms : Nat} {free : Addr → Prop} {bytes : ByteArray} {maxL : Nat} {ret : Option FieldType} {hh : List (Nat × Nat × Nat × Nat)}
    (hM : vx_Met l y ws rm Pc Qc XC mc ms free) (hblind : FrameBlind Pc) (hrc : rm.cells = mc) (hrs : rm.slots = ms)
    (hframes : rm.frames + 1 ≤ R.frames) (hlocals : W9 + (maxL + 11) + rm.locals ≤ R.locals)
    (hws : ∀ w ∈ ws, ∀ a' U, s.WarmedH U.vm → w.before a' U = true) (hcode : Cond.codeWith y bytes maxL ret hh ∈ ws) (hinit : ∀ a' U, s.WarmedH U.vm → (Cond.initialized y.cls).before a' U = true) :
    vx_Back l R p e below s sargs y len W9 (PreOf R mc ms Pc) (PostOf Qc mc ms free) (vx_Post XC mc ms free) := by
  intro m meth c A g ig mk a X hg hsize hdg hW hn hp
  have h1 : (headSpec ws rm).pre.before a A.U = true := atoms_intro fun w hw => hws w hw _ _ X.warmed
  have h2 : (Cond.codeWith y bytes maxL ret hh).before a A.U = true := hws _ hcode _ _ X.warmed
  have h3 : (Cond.initialized y.cls).before a A.U = true := hinit _ _ X.warmed
  have h4 : A.cells + (headSpec ws rm).room.cells ≤ R.cells := by rw [show (headSpec ws rm).room.cells = mc from hrc]; exact hp.1
  have h5 : A.slots + (headSpec ws rm).room.slots ≤ R.slots := by rw [show (headSpec ws rm).room.slots = ms from hrs]; exact hp.2.1
  have hPc : Pc a (A.U.calling g mk a) := hblind _ _ _ _ hp.2.2
  obtain ⟨U, Ls, c0, s0⟩ := A
  dsimp only [Pt.U, Pt.locs, Pt.cells, Pt.slots] at h1 h2 h3 h4 h5 X hn hPc ⊢
  obtain ⟨m9, methY, cY, hn9, hmY, hcY, -, hlY, -⟩ := Cond.codeWith_spec h2
  cases Option.some.inj (hn9.symm.trans hn)
  obtain ⟨kY, hkY, -⟩ := className_of_methodNamed hn
  have hinitY : kY.init = .initialized := Cond.initialized_spec (findClass_of_methodNamed hn) hkY h3
  have h : At U g.method c below := by rw [hg]; exact X.here
  have hlocals9 : W9 + (maxL + 11) + (headSpec ws rm).room.locals ≤ R.locals := hlocals
  have happ : (headSpec ws rm).appliesLoose y e.platform (U.calling g mk a) = true :=
    Spec.appliesLoose_calling (g := g) h hdg hn hkY hinitY
      (X.room_calling (g := g) (R' := (headSpec ws rm).room) hsize hmY hcY hframes (by rw [hlY]; omega) h4 h5) h1
  obtain ⟨mid, hmid⟩ := h.above
  have hfr : (U.setTop g).frames = (.java g :: mid) ++ below := by rw [State.frames_setTop' g h.top, hmid]; rfl
  obtain ⟨o, s₂, hsteps, -, hend, hq⟩ := Steps.callFree hM p X.admits X.cas X.clock (acts := []) hfr happ hPc trivial
  have hq' : vx_Q Qc XC mc ms free a (U.calling g mk a) o s₂ := hq
  rw [State.frames_setTop' g h.top] at hend
  obtain ⟨g₀, hg0⟩ := Option.isSome_iff_exists.mp h.top
  obtain ⟨r, hr⟩ := State.topJava?_eq_some.mp hg0
  have hr' : (({ U with heap := s₂.heap, slotsUsed := s₂.slotsUsed } : State).setVm s₂.vm).frames = .java g₀ :: r := hr
  rcases hq' with ⟨hqc, L, hfe, hL⟩ | ⟨q, rfl, E, ce, L, hx, hce, hcv, hcl, hW₂, hsm, hL⟩
  · obtain ⟨⟨v, rfl⟩, hW₂, e2, q2, q3, q4, q5, q6⟩ := id hfe
    have e3 : s₂ = ({ (U.calling g mk a).setFrames s₂.frames with heap := s₂.heap, slotsUsed := s₂.slotsUsed } : State).setVm s₂.vm := by
      have : s₂ = ({ s₂ with vm := (U.calling g mk a).vm } : State).setVm s₂.vm := rfl
      rw [e2] at this
      exact this
    obtain ⟨c₂, i₂, len₂, hc₂, hd₂, hf₂⟩ := hend
    have hW' : U.WarmedH s₂.vm := hW₂
    have hcc : c₂ = c := by
      have h1 : s₂.code? g.method = U.code? g.method := by
        rw [State.code?_eq, State.code?_eq, hW'.alike.method?]
      exact Option.some.inj (hc₂.symm.trans (h1.trans h.code))
    subst hcc
    have hlen : len₂ = len := by rw [hdg] at hd₂; cases hd₂; rfl
    subst hlen
    have hs₂ : s₂ = (({ U with heap := s₂.heap, slotsUsed := s₂.slotsUsed } : State).setVm s₂.vm).setTop { g with pc := g.pc + len₂, stack := v.toList ++ g.stack } := by
      refine e3.trans ?_
      rw [hf₂, State.calling_eq h.top, State.setFrames_setFrames, State.setTop_of_frames _ hr', hr]
      rfl
    have hsame : U.sameButNew ({ U with heap := s₂.heap, slotsUsed := s₂.slotsUsed } : State) L mc ms := by
      refine ⟨?_, q2, q3, q4, q5, q6⟩
      obtain ⟨t, ht, -⟩ := State.frames_cons hr
      show ({ U with heap := s₂.heap, slotsUsed := s₂.slotsUsed } : State) = { U.setFrames U.frames with heap := s₂.heap, slotsUsed := s₂.slotsUsed }
      rw [State.setFrames_self ht]
    subst hg
    refine Or.inl ⟨v, ⟨(({ U with heap := s₂.heap, slotsUsed := s₂.slotsUsed } : State).setVm s₂.vm), Ls ++ L, c0 + mc, s0 + ms⟩,
      ⟨X.admits, X.cas, X.clock, X.frames, X.room, X.hears, X.method, X.code, (X.here.setHeapUsed s₂.heap s₂.slotsUsed).setVm hW'.alike, X.tail, State.WarmedH.trans X.warmed hW', X.limits, X.bytes, X.same.trans (hsame.setVm s.vm)⟩,
      ⟨g, mk, s₂, L, rfl, rfl, hqc, rfl, hL, rfl, rfl⟩, ?_⟩
    show Steps p.tables e below _ ((({ U with heap := s₂.heap, slotsUsed := s₂.slotsUsed } : State).setVm s₂.vm).setTop { g with pc := g.pc + len₂, stack := v.toList ++ g.stack })
    rw [← hs₂]
    exact hsteps
  · obtain ⟨e2, q2, q3, q4, q5, q6⟩ := id hsm
    have e3 : s₂ = ({ (U.calling g mk a).setFrames s₂.frames with heap := s₂.heap, slotsUsed := s₂.slotsUsed } : State).setVm s₂.vm := by
      have : s₂ = ({ s₂ with vm := (U.calling g mk a).vm } : State).setVm s₂.vm := rfl
      rw [e2] at this
      exact this
    have hf₂ : s₂.frames = .throwing q :: .java g :: U.frames.tail := hend
    have hW' : U.WarmedH s₂.vm := hW₂
    have hs₂ : s₂ = ((({ U with heap := s₂.heap, slotsUsed := s₂.slotsUsed } : State).setVm s₂.vm).setTop g).pushFrame (.throwing q) := by
      refine e3.trans ?_
      rw [hf₂, State.calling_eq h.top, State.setFrames_setFrames, State.pushFrame, State.frames_setTop _ hr', State.setTop_of_frames _ hr', State.setFrames_setFrames, hr]
      rfl
    have hsame : U.sameButNew ({ U with heap := s₂.heap, slotsUsed := s₂.slotsUsed } : State) L mc ms := by
      refine ⟨?_, q2, q3, q4, q5, q6⟩
      obtain ⟨t, ht, -⟩ := State.frames_cons hr
      show ({ U with heap := s₂.heap, slotsUsed := s₂.slotsUsed } : State) = { U.setFrames U.frames with heap := s₂.heap, slotsUsed := s₂.slotsUsed }
      rw [State.setFrames_self ht]
    subst hg
    refine Or.inr ⟨q, ⟨(({ U with heap := s₂.heap, slotsUsed := s₂.slotsUsed } : State).setVm s₂.vm), Ls ++ L, c0 + mc, s0 + ms⟩,
      ⟨X.admits, X.cas, X.clock, X.frames, X.room, X.hears, X.method, X.code, (X.here.setHeapUsed s₂.heap s₂.slotsUsed).setVm hW'.alike, X.tail, State.WarmedH.trans X.warmed hW', X.limits, X.bytes, X.same.trans (hsame.setVm s.vm)⟩,
      ⟨g, mk, s₂, L, E, ce, rfl, rfl, hx, hce, hcv, hcl, rfl, hL, rfl, rfl⟩, ?_⟩
    show Steps p.tables e below _ (((({ U with heap := s₂.heap, slotsUsed := s₂.slotsUsed } : State).setVm s₂.vm).setTop g).pushFrame (.throwing q))
    rw [← hs₂]
    exact hsteps
end
variable {p : Program} {l : Launch} {e : Env} {R : Room} {s : State} {m : MethodId} {args : Array Value} {below : List Frame} {meth : Method} {c : Code} {T : State} {H : Heap} {locs : List Loc} {cells slots : Nat}
theorem vx_callVX (X : Stand p l e R s m args below meth c T locs cells slots) (hexec : p.tables.exec = Jvm.exec) {own C : String} {index : Nat} {y : MethodName} {bytes : ByteArray} {maxL : Nat} {ret : Option FieldType} {hh : List (Nat × Nat × Nat × Nat)}
    (hown : s.vm.findClass own = some m.cls) (hlink : (Cond.methodLink own index y).before args s = true) (hinst : (Cond.instanceMethod y).before args s = true) (hsel : (Cond.selects C y y).before args s = true)
    (hcode : (Cond.codeWith y bytes maxL ret hh).before args s = true) (hy : y.cls ≠ "java/lang/invoke/MethodHandle" ∧ y.cls ≠ "java/lang/invoke/VarHandle")
    {W9 : Nat} {Pre : Pt → Array Value → Prop} {Post : Pt → Array Value → Option Value → Pt → Prop} {PostX : Pt → Array Value → Addr → Pt → Prop} (hK : vx_Back l R p e below s args y 3 W9 Pre Post PostX)
    {b : Addr} {cellB : Cell} (hcell : T.heap[b]? = some cellB) (hobj : cellB.vm.isStatics = false) (hcls : s.vm.findClass C = some cellB.cls)
    {g : JFrame} (hg : g.method = m) (hsize : g.locals.size = c.maxLocals) {argsL rest : List Value} (hlen : ∀ sig, parseMethodDescriptor y.desc = some sig → argsL.length = sig.parameters.length)
    (hstack : g.stack = argsL.reverse ++ .ref b :: rest) (hW : 2 * g.monitorRoom + (rest.map fun v => v.category).sum ≤ W9) (hdg : decode c.code g.pc = .ok (.invokevirtual index, 3))
    (hpre : ∀ vm₁, s.WarmedH vm₁ → Pre ⟨T.setVm vm₁, locs, cells, slots⟩ (Value.ref b :: argsL).toArray) :
    (∃ (v : Option Value) (vm₁ : Vm) (B : Pt), s.WarmedH vm₁ ∧ Stand p l e R s m args below meth c B.U B.locs B.cells B.slots ∧ Post ⟨T.setVm vm₁, locs, cells, slots⟩ (Value.ref b :: argsL).toArray v B ∧
      ∀ target, Steps p.tables e below (B.U.setTop { g with pc := g.pc + 3, stack := v.toList ++ rest }) target → Steps p.tables e below (T.setTop g) target) ∨
    (∃ (q : Addr) (vm₁ : Vm) (B : Pt), s.WarmedH vm₁ ∧ Stand p l e R s m args below meth c B.U B.locs B.cells B.slots ∧ PostX ⟨T.setVm vm₁, locs, cells, slots⟩ (Value.ref b :: argsL).toArray q B ∧
      Steps p.tables e below (T.setTop g) ((B.U.setTop { g with stack := rest }).pushFrame (.throwing q))) := by
  obtain ⟨mk, methM, hnamed, hmethM, hstM, habM⟩ := Cond.instanceMethod_spec hinst
  obtain ⟨m8, methM', cM, hn8, hmethM', -, -, -, -, -, -, hsigM⟩ := Cond.codeWith_spec hcode
  cases Option.some.inj (hn8.symm.trans hnamed)
  cases hmethM.symm.trans hmethM'
  obtain ⟨c2, r2, m2, q1, q2, q3, q4, kP, hkP, hkPi⟩ := Cond.selects_spec hsel
  cases hcls.symm.trans q1
  cases (State.methodFound?_of_named hnamed hy).symm.trans q2
  cases hnamed.symm.trans q3
  have hselP : selectMethod e.platform s.vm cellB.cls mk = .method mk := by rw [Launch.admits_selectMethod X.admits]; exact q4
  obtain ⟨vm₁, X₁, hstep₁⟩ := X.invokevirtual hexec hown hlink hnamed hmethM hstM hkP hkPi hy (a := b) (cell := cellB) hcell
    (fun z h => by rw [h] at hobj; cases hobj) hselP hmethM habM hkP hkPi (g := g) hg (argsL := argsL) (rest := rest) (hlen _ hsigM) hstack hdg
  rcases hK m meth c ⟨T.setVm vm₁, locs, cells, slots⟩ { g with stack := rest } (.invokevirtual index) mk (Value.ref b :: argsL).toArray X₁ hg hsize hdg hW (X₁.named hnamed) (hpre vm₁ X₁.warmed) with ⟨v, B, X', hpost, hsteps⟩ | ⟨q, B, X', hpost, hsteps⟩
  · exact Or.inl ⟨v, vm₁, B, X₁.warmed, X', hpost, fun target h => hstep₁ _ fun acts => by rw [doInvoke_state]; exact hsteps.trans h⟩
  · exact Or.inr ⟨q, vm₁, B, X₁.warmed, X', hpost, hstep₁ _ fun acts => by rw [doInvoke_state]; exact hsteps⟩
theorem vx_callSX (X : Stand p l e R s m args below meth c T locs cells slots) (hexec : p.tables.exec = Jvm.exec) {own : String} {index : Nat} {y : MethodName} {bytes : ByteArray} {maxL : Nat} {ret : Option FieldType} {hh : List (Nat × Nat × Nat × Nat)}
    (hown : s.vm.findClass own = some m.cls) (hlink : (Cond.methodLink own index y).before args s = true) (hstat : (Cond.static y).before args s = true) (hinit : (Cond.initialized y.cls).before args s = true)
    (hcode : (Cond.codeWith y bytes maxL ret hh).before args s = true) (hy : y.cls ≠ "java/lang/invoke/MethodHandle" ∧ y.cls ≠ "java/lang/invoke/VarHandle")
    {W9 : Nat} {Pre : Pt → Array Value → Prop} {Post : Pt → Array Value → Option Value → Pt → Prop} {PostX : Pt → Array Value → Addr → Pt → Prop} (hK : vx_Back l R p e below s args y 3 W9 Pre Post PostX)
    {g : JFrame} (hg : g.method = m) (hsize : g.locals.size = c.maxLocals) {argsL rest : List Value} (hlen : ∀ sig, parseMethodDescriptor y.desc = some sig → argsL.length = sig.parameters.length)
    (hstack : g.stack = argsL.reverse ++ rest) (hW : 2 * g.monitorRoom + (rest.map fun v => v.category).sum ≤ W9) (hdg : decode c.code g.pc = .ok (.invokestatic index, 3))
    (hpre : ∀ vm₁, s.WarmedH vm₁ → Pre ⟨T.setVm vm₁, locs, cells, slots⟩ argsL.toArray) :
    (∃ (v : Option Value) (vm₁ : Vm) (B : Pt), s.WarmedH vm₁ ∧ Stand p l e R s m args below meth c B.U B.locs B.cells B.slots ∧ Post ⟨T.setVm vm₁, locs, cells, slots⟩ argsL.toArray v B ∧
      ∀ target, Steps p.tables e below (B.U.setTop { g with pc := g.pc + 3, stack := v.toList ++ rest }) target → Steps p.tables e below (T.setTop g) target) ∨
    (∃ (q : Addr) (vm₁ : Vm) (B : Pt), s.WarmedH vm₁ ∧ Stand p l e R s m args below meth c B.U B.locs B.cells B.slots ∧ PostX ⟨T.setVm vm₁, locs, cells, slots⟩ argsL.toArray q B ∧
      Steps p.tables e below (T.setTop g) ((B.U.setTop { g with stack := rest }).pushFrame (.throwing q))) := by
  obtain ⟨mk, methM, cM, hnamed, hmethM, -, -, -, -, -, -, hsigM⟩ := Cond.codeWith_spec hcode
  have hstatic : methM.isStatic = true := Cond.static_spec hnamed hmethM hstat
  obtain ⟨kP, hkP, -⟩ := className_of_methodNamed hnamed
  have hinitP : kP.init = .initialized := Cond.initialized_spec (findClass_of_methodNamed hnamed) hkP hinit
  obtain ⟨vm₁, X₁, hstep₁⟩ := X.invokestatic hexec hown hlink hnamed hmethM hstatic hkP hinitP hy (g := g) hg (argsL := argsL) (rest := rest) (hlen _ hsigM) hstack hdg
  rcases hK m meth c ⟨T.setVm vm₁, locs, cells, slots⟩ { g with stack := rest } (.invokestatic index) mk argsL.toArray X₁ hg hsize hdg hW (X₁.named hnamed) (hpre vm₁ X₁.warmed) with ⟨v, B, X', hpost, hsteps⟩ | ⟨q, B, X', hpost, hsteps⟩
  · exact Or.inl ⟨v, vm₁, B, X₁.warmed, X', hpost, fun target h => hstep₁ _ fun acts => by rw [doInvoke_state]; exact hsteps.trans h⟩
  · exact Or.inr ⟨q, vm₁, B, X₁.warmed, X', hpost, hstep₁ _ fun acts => by rw [doInvoke_state]; exact hsteps⟩
theorem vx_callVW (X : Stand p l e R s m args below meth c T locs cells slots) (hexec : p.tables.exec = Jvm.exec) {own C : String} {index : Nat} {y : MethodName} {bytes : ByteArray} {maxL : Nat} {ret : Option FieldType} {hh : List (Nat × Nat × Nat × Nat)}
    (hown : s.vm.findClass own = some m.cls) (hlink : (Cond.methodLink own index y).before args s = true) (hinst : (Cond.instanceMethod y).before args s = true) (hsel : (Cond.selects C y y).before args s = true)
    (hcode : (Cond.codeWith y bytes maxL ret hh).before args s = true) (hy : y.cls ≠ "java/lang/invoke/MethodHandle" ∧ y.cls ≠ "java/lang/invoke/VarHandle")
    {W9 : Nat} {Pre : Pt → Array Value → Prop} {Post : Pt → Array Value → Option Value → Pt → Prop} (hK : Back l R p e below s args y 3 W9 Pre Post)
    {b : Addr} {cellB : Cell} (hcell : T.heap[b]? = some cellB) (hobj : cellB.vm.isStatics = false) (hcls : s.vm.findClass C = some cellB.cls)
    {g : JFrame} (hg : g.method = m) (hsize : g.locals.size = c.maxLocals) {argsL rest : List Value} (hlen : ∀ sig, parseMethodDescriptor y.desc = some sig → argsL.length = sig.parameters.length)
    (hstack : g.stack = argsL.reverse ++ .ref b :: rest) (hW : 2 * g.monitorRoom + (rest.map fun v => v.category).sum ≤ W9) (hdg : decode c.code g.pc = .ok (.invokevirtual index, 3))
    (hpre : ∀ vm₁, s.WarmedH vm₁ → Pre ⟨T.setVm vm₁, locs, cells, slots⟩ (Value.ref b :: argsL).toArray) :
    ∃ (v : Option Value) (vm₁ : Vm) (B : Pt), s.WarmedH vm₁ ∧ Stand p l e R s m args below meth c B.U B.locs B.cells B.slots ∧ Post ⟨T.setVm vm₁, locs, cells, slots⟩ (Value.ref b :: argsL).toArray v B ∧
      ∀ target, Steps p.tables e below (B.U.setTop { g with pc := g.pc + 3, stack := v.toList ++ rest }) target → Steps p.tables e below (T.setTop g) target := by
  obtain ⟨mk, methM, hnamed, hmethM, hstM, habM⟩ := Cond.instanceMethod_spec hinst
  obtain ⟨m8, methM', cM, hn8, hmethM', -, -, -, -, -, -, hsigM⟩ := Cond.codeWith_spec hcode
  cases Option.some.inj (hn8.symm.trans hnamed)
  cases hmethM.symm.trans hmethM'
  obtain ⟨c2, r2, m2, q1, q2, q3, q4, kP, hkP, hkPi⟩ := Cond.selects_spec hsel
  cases hcls.symm.trans q1
  cases (State.methodFound?_of_named hnamed hy).symm.trans q2
  cases hnamed.symm.trans q3
  have hselP : selectMethod e.platform s.vm cellB.cls mk = .method mk := by rw [Launch.admits_selectMethod X.admits]; exact q4
  obtain ⟨vm₁, X₁, hstep₁⟩ := X.invokevirtual hexec hown hlink hnamed hmethM hstM hkP hkPi hy (a := b) (cell := cellB) hcell
    (fun z h => by rw [h] at hobj; cases hobj) hselP hmethM habM hkP hkPi (g := g) hg (argsL := argsL) (rest := rest) (hlen _ hsigM) hstack hdg
  obtain ⟨v, B, X', hpost, hsteps⟩ := hK m meth c ⟨T.setVm vm₁, locs, cells, slots⟩ { g with stack := rest } (.invokevirtual index) mk (Value.ref b :: argsL).toArray X₁ hg hsize hdg hW (X₁.named hnamed) (hpre vm₁ X₁.warmed)
  exact ⟨v, vm₁, B, X₁.warmed, X', hpost, fun target h => hstep₁ _ fun acts => by rw [doInvoke_state]; exact hsteps.trans h⟩
abbrev vx_CVW (R : Room) (s : State) (args : Array Value) (own C : String) (index : Nat) (y : MethodName) (bytes : ByteArray) (maxL : Nat) (ret : Option FieldType) (hh : List (Nat × Nat × Nat × Nat)) (ws : List Cond) (rm : Room) (mc ms n : Nat) : Prop :=
  (rm.cells = mc ∧ rm.slots = ms ∧ rm.frames + 1 ≤ R.frames ∧ 8 + (maxL + 11) + rm.locals ≤ R.locals ∧ (∀ w ∈ ws, ∀ (a' : Array Value) (U : State), s.WarmedH U.vm → w.before a' U = true) ∧ Cond.codeWith y bytes maxL ret hh ∈ ws) ∧
  (Cond.codeWith y bytes maxL ret hh).before args s = true ∧ (Cond.initialized y.cls).before args s = true ∧ (y.cls ≠ "java/lang/invoke/MethodHandle" ∧ y.cls ≠ "java/lang/invoke/VarHandle") ∧
  (∀ sig, parseMethodDescriptor y.desc = some sig → n = sig.parameters.length) ∧ (Cond.methodLink own index y).before args s = true ∧ (Cond.instanceMethod y).before args s = true ∧ (Cond.selects C y y).before args s = true
theorem vx_cwVW {own C : String} {index maxL mc ms : Nat} {y : MethodName} {bytes : ByteArray} {ret : Option FieldType} {hh : List (Nat × Nat × Nat × Nat)} {Ts ws ws' : List Cond} {rm : Room} (n : Nat) (ht : ∀ w ∈ Ts, w.before args s = true) (hT : GoodIn Ts (wsV own index C y ws)) (hw : ws = Cond.codeWith y bytes maxL ret hh :: ws') (hrc : rm.cells = mc) (hrs : rm.slots = ms)
    (hd : y.cls = C ∧ y.cls ≠ "java/lang/invoke/MethodHandle" ∧ y.cls ≠ "java/lang/invoke/VarHandle" ∧ (parseMethodDescriptor y.desc).map (fun d => d.parameters.length) = some n) (hR : rm.frames + 1 ≤ R.frames ∧ 8 + (maxL + 11) + rm.locals ≤ R.locals) :
    vx_CVW R s args own C index y bytes maxL ret hh ws rm mc ms n := by
  obtain ⟨hC, hd⟩ := hd
  subst hC
  have ok : ∀ w ∈ wsV own index y.cls y ws, w.before args s = true := fun w h => ht w (hT w h).1
  have hG : GoodIn Ts ws := fun w h => hT w (by unfold wsV; exact List.mem_append_right _ h)
  have hc : Cond.codeWith y bytes maxL ret hh ∈ ws := by rw [hw]; exact List.mem_cons_self
  refine ⟨⟨hrc, hrs, hR.1, hR.2, pay_in ht hG, hc⟩, ht _ (hG _ hc).1, ok _ (by simp [wsV]), ⟨hd.1, hd.2.1⟩, fun sig h => ?_, ok _ (by simp [wsV]), ok _ (by simp [wsV]), ok _ (by simp [wsV])⟩
  have h2 := hd.2.2
  rw [h] at h2
  exact (Option.some.inj h2).symm
theorem vx_runVW {y : MethodName} {bytes cc : ByteArray} {maxL nL mc ms n index : Nat} {ret : Option FieldType} {hh : List (Nat × Nat × Nat × Nat)} {ws : List Cond} {rm : Room} {Pc : Array Value → State → Prop} {Qc : Array Value → State → Outcome → State → Prop} {free : Addr → Prop} {Ts : List Cond} {own C : String} {b : Addr} {As rest : List Value} {g : JFrame}
    (S : CallFix p m c cc nL s args Ts own) (hM : Met l y ws rm Pc Qc mc ms free) (cw : vx_CVW R s args own C index y bytes maxL ret hh ws rm mc ms n) (hp : PreV s H C b Pc As)
    (hg : g.method = m) (hn : As.length = n) (hsize : g.locals.size = nL) (hstack : g.stack = As.reverse ++ .ref b :: rest) (hW : 2 * g.monitorRoom + (rest.map fun v => v.category).sum ≤ 8) (hdg : decode cc g.pc = .ok (.invokevirtual index, 3)) (hf : cells + mc ≤ R.cells ∧ slots + ms ≤ R.slots) :
    va_Run p l e R s m args below meth c H locs cells slots mc ms g rest (Qc (Value.ref b :: As).toArray) free := by
  obtain ⟨⟨hrc, hrs, hfr, hlo, hws, hcw⟩, hcode, hini, hy, hlen, hl, hin, hse⟩ := cw
  have hK : Back l R p e below s args y 3 8 (PreOf R mc ms Pc) (PostOf Qc mc ms free) := va_backW (hh := hh) (bytes := bytes) (maxL := maxL) (ret := ret) hM hp.1 hrc hrs hfr hlo hws hcw (fun a' U hW => word_at hW (Or.inl (by first | rfl | simp [Cond.onTables, Cond.keeps, Cond.steady])) hini)
  obtain ⟨hx, hb, hml, ho, -⟩ := S
  obtain ⟨-, ⟨cellB, hcB, hoB, hclB⟩, hPc⟩ := hp
  intro T hT X
  obtain ⟨v, vm₁, ⟨U', l2, c2, s2⟩, hW₁, X', ⟨g', mk, t, L, e1, e2, hq, h1, hL, h2, h3⟩, st⟩ := vx_callVW X hx (C := C) (hh := hh) (bytes := bytes) (maxL := maxL) (ret := ret) ho hl hin hse hcode hy hK (by rw [hT]; exact hcB) hoB hclB hg (hsize.trans hml.symm) (argsL := As) (rest := rest) (fun sig h => hn.trans (hlen sig h)) hstack hW (by rw [hb]; exact hdg)
    (fun vm₁ hW₁ => ⟨hf.1, hf.2, hPc (T.setVm vm₁) hT hW₁⟩)
  dsimp only [Pt.U, Pt.locs, Pt.cells, Pt.slots] at X' e1 e2 h1 h2 h3 st
  subst h1; subst h2; subst h3
  exact ⟨v, (T.setVm vm₁).calling g' mk (Value.ref b :: As).toArray, t, U', L, hT, X', hL, e1, e2, hq, st⟩
section
variable {y : MethodName} {bytes cc : ByteArray} {maxL nL mc ms n index : Nat} {ret : Option FieldType} {ws : List Cond} {rm : Room} {Pc : Array Value → State → Prop} {Qc : Array Value → State → Outcome → State → Prop} {XC : String → State → State → Prop} {free : Addr → Prop} {Ts : List Cond} {own C : String} {b : Addr} {As rest : List Value} {g : JFrame}
theorem vx_runVX {hh : List (Nat × Nat × Nat × Nat)} (S : CallFix p m c cc nL s args Ts own) (hM : vx_Met l y ws rm Pc Qc XC mc ms free) (cw : vx_CVW R s args own C index y bytes maxL ret hh ws rm mc ms n) (hp : PreV s H C b Pc As)
    (hg : g.method = m) (hn : As.length = n) (hsize : g.locals.size = nL) (hstack : g.stack = As.reverse ++ .ref b :: rest) (hW : 2 * g.monitorRoom + (rest.map fun v => v.category).sum ≤ 8) (hdg : decode cc g.pc = .ok (.invokevirtual index, 3)) (hf : cells + mc ≤ R.cells ∧ slots + ms ≤ R.slots) :
    vx_Run p l e R s m args below meth c H locs cells slots mc ms g rest (Qc (Value.ref b :: As).toArray) XC free := by
  obtain ⟨⟨hrc, hrs, hfr, hlo, hws, hcw⟩, hcode, hini, hy, hlen, hl, hin, hse⟩ := cw
  have hK : vx_Back l R p e below s args y 3 8 (PreOf R mc ms Pc) (PostOf Qc mc ms free) (vx_Post XC mc ms free) := vx_backW (hh := hh) (bytes := bytes) (maxL := maxL) (ret := ret) hM hp.1 hrc hrs hfr hlo hws hcw (fun a' U hW => word_at hW (Or.inl (by first | rfl | simp [Cond.onTables, Cond.keeps, Cond.steady])) hini)
  obtain ⟨hx, hb, hml, ho, -⟩ := S
  obtain ⟨-, ⟨cellB, hcB, hoB, hclB⟩, hPc⟩ := hp
  intro T hT X
  rcases vx_callVX X hx (C := C) (hh := hh) (bytes := bytes) (maxL := maxL) (ret := ret) ho hl hin hse hcode hy hK (by rw [hT]; exact hcB) hoB hclB hg (hsize.trans hml.symm) (argsL := As) (rest := rest) (fun sig h => hn.trans (hlen sig h)) hstack hW (by rw [hb]; exact hdg)
    (fun vm₁ hW₁ => ⟨hf.1, hf.2, hPc (T.setVm vm₁) hT hW₁⟩) with ⟨v, vm₁, ⟨U', l2, c2, s2⟩, hW₁, X', ⟨g', mk, t, L, e1, e2, hq, h1, hL, h2, h3⟩, st⟩ | ⟨q, vm₁, ⟨U', l2, c2, s2⟩, hW₁, X', ⟨g', mk, t, L, E, ce, e1, e2, hq, hce, hcv, hcl, h1, hL, h2, h3⟩, st⟩
  · dsimp only [Pt.U, Pt.locs, Pt.cells, Pt.slots] at X' e1 e2 h1 h2 h3 st
    subst h1; subst h2; subst h3
    exact Or.inl ⟨v, (T.setVm vm₁).calling g' mk (Value.ref b :: As).toArray, t, U', L, hT, X', hL, e1, e2, hq, st⟩
  · dsimp only [Pt.U, Pt.locs, Pt.cells, Pt.slots] at X' e1 e2 h1 h2 h3 st hcl
    subst h1; subst h2; subst h3
    exact Or.inr ⟨q, (T.setVm vm₁).calling g' mk (Value.ref b :: As).toArray, t, U', L, E, ce, hT, X', hL, e1, e2, hq, hce, hcv, vx_cls hW₁ hcl, st⟩
theorem vx_runSX {hh : List (Nat × Nat × Nat × Nat)} (S : CallFix p m c cc nL s args Ts own) (hM : vx_Met l y ws rm Pc Qc XC mc ms free) (cw : vx_CSW R s args own index y bytes maxL ret hh ws rm mc ms n) (hp : PreS s H Pc As)
    (hg : g.method = m) (hn : As.length = n) (hsize : g.locals.size = nL) (hstack : g.stack = As.reverse ++ rest) (hW : 2 * g.monitorRoom + (rest.map fun v => v.category).sum ≤ 8) (hdg : decode cc g.pc = .ok (.invokestatic index, 3)) (hf : cells + mc ≤ R.cells ∧ slots + ms ≤ R.slots) :
    vx_Run p l e R s m args below meth c H locs cells slots mc ms g rest (Qc As.toArray) XC free := by
  obtain ⟨⟨hrc, hrs, hfr, hlo, hws, hcw⟩, hcode, hini, hy, hlen, hl, hstt⟩ := cw
  have hK : vx_Back l R p e below s args y 3 8 (PreOf R mc ms Pc) (PostOf Qc mc ms free) (vx_Post XC mc ms free) := vx_backW (hh := hh) (bytes := bytes) (maxL := maxL) (ret := ret) hM hp.1 hrc hrs hfr hlo hws hcw (fun a' U hW => word_at hW (Or.inl (by first | rfl | simp [Cond.onTables, Cond.keeps, Cond.steady])) hini)
  obtain ⟨hx, hb, hml, ho, -⟩ := S
  intro T hT X
  rcases vx_callSX X hx (hh := hh) (bytes := bytes) (maxL := maxL) (ret := ret) ho hl hstt hini hcode hy hK hg (hsize.trans hml.symm) (argsL := As) (rest := rest) (fun sig h => hn.trans (hlen sig h)) hstack hW (by rw [hb]; exact hdg)
    (fun vm₁ hW₁ => ⟨hf.1, hf.2, hp.2 (T.setVm vm₁) hT hW₁⟩) with ⟨v, vm₁, ⟨U', l2, c2, s2⟩, hW₁, X', ⟨g', mk, t, L, e1, e2, hq, h1, hL, h2, h3⟩, st⟩ | ⟨q, vm₁, ⟨U', l2, c2, s2⟩, hW₁, X', ⟨g', mk, t, L, E, ce, e1, e2, hq, hce, hcv, hcl, h1, hL, h2, h3⟩, st⟩
  · dsimp only [Pt.U, Pt.locs, Pt.cells, Pt.slots] at X' e1 e2 h1 h2 h3 st
    subst h1; subst h2; subst h3
    exact Or.inl ⟨v, (T.setVm vm₁).calling g' mk As.toArray, t, U', L, hT, X', hL, e1, e2, hq, st⟩
  · dsimp only [Pt.U, Pt.locs, Pt.cells, Pt.slots] at X' e1 e2 h1 h2 h3 st hcl
    subst h1; subst h2; subst h3
    exact Or.inr ⟨q, (T.setVm vm₁).calling g' mk As.toArray, t, U', L, E, ce, hT, X', hL, e1, e2, hq, hce, hcv, vx_cls hW₁ hcl, st⟩
end
end VXH
theorem vx_ofWH {l : Launch} {y : MethodName} {ws ws' : List Cond} {rm : Room} {Pc : Array Value → State → Prop} {Qc : Array Value → State → Outcome → State → Prop} {XC : String → State → State → Prop} {mc ms : Nat} {free : Addr → Prop} {cc : ByteArray} {maxL : Nat} {ret : Option FieldType} {hh : List (Nat × Nat × Nat × Nat)}
    (hy : plainName y.cls = true) (hw : ws = Cond.codeWith y cc maxL ret hh :: ws')
    (body : ∀ p e s m args below meth c s₁, BodyLoose p l y (headSpec ws rm) cc maxL ret e s m args below meth c s₁ → c.maxLocals = maxL → Pc args s →
      W p l e (headSpec ws rm).room s m args below meth c s.heap [] 0 0 (vx_MQ below Qc XC args s mc ms free) (entryFrame m args maxL)) : vx_Met l y ws rm Pc Qc XC mc ms free := by
  refine MetFree.of_bodyS (code := cc) (maxLocals := maxL) (ret := ret) hy ?_ ?_
  · intro args s m h hn
    obtain ⟨m9, meth, c, hn9, h1, h2, h3, h4, -, h5, h6, -⟩ := Cond.codeWith_spec (atoms_spec (ws := ws) h _ (by rw [hw]; exact List.mem_cons_self))
    cases hn.symm.trans hn9
    exact ⟨meth, c, h1, h2, h3, h4, h5, h6⟩
  · intro p e s m args below meth c s₁ B hml hP _
    have hh0 : s₁.heap = s.heap := by rw [B.state]; rfl
    obtain ⟨t, a1, o, b1, b2, b3⟩ := body p e s m args below meth c s₁ B hml hP s₁ hh0 (Stand.of_body B)
    exact ⟨t, o, a1, b1, b2, b3⟩
/-! ===== END ===== -/
end
section
/-! ===== BEGIN printed: names, fields, word lists, decode rows ===== -/
def RX0 : String := "RevisionStores$Holding"
def TX0 : u_T := fun k => match k with
  | 0 => ("RevisionStores$Holding", "held", "[Z", true)
  | 1 => ("RevisionStores$Holding", "nearestLeaf", "[I", true)
  | _ => ("RevisionStores$Holding", "winners", "[I", true)
def tyX0 : Nat → FieldType := fun k => match k with
  | 0 => .array .boolean
  | 1 => .array .int
  | _ => .array .int
abbrev wsX00 : List Cond := u_ws RX0 TX0 3
theorem nmX0 : ∀ a, a < 3 → ∀ b, b < 3 → a ≠ b → (TX0 a).2.1 ≠ (TX0 b).2.1 := by decide +kernel
theorem tyX0_ok : ∀ k, k < 3 → parseFieldDescriptor (TX0 k).2.2.1 = some (tyX0 k) := by decide +kernel
abbrev cX0_init : ByteArray := prog_2_method_1_code
def yX0_init : MethodName := ⟨RX0, "<init>", "()V"⟩
abbrev cX0_survey : ByteArray := prog_2_method_2_code
def yX0_survey : MethodName := ⟨RX0, "survey", "(LRevisionStores$Tree;)V"⟩
abbrev cX0_findLeaves : ByteArray := prog_2_method_3_code
def yX0_findLeaves : MethodName := ⟨RX0, "findLeaves", "(LRevisionStores$Tree;)V"⟩
abbrev cX0_findWinners : ByteArray := prog_2_method_4_code
def yX0_findWinners : MethodName := ⟨RX0, "findWinners", "(LRevisionStores$Tree;)V"⟩
abbrev cX0_stem : ByteArray := prog_2_method_5_code
def yX0_stem : MethodName := ⟨RX0, "stem", "(LRevisionStores$Tree;I)I"⟩
abbrev cX0_hasDescendantOf : ByteArray := prog_2_method_6_code
def yX0_hasDescendantOf : MethodName := ⟨RX0, "hasDescendantOf", "(I)Z"⟩
abbrev cX0_endsAt : ByteArray := prog_2_method_7_code
def yX0_endsAt : MethodName := ⟨RX0, "endsAt", "(I)Z"⟩
abbrev cX0_removeAll : ByteArray := prog_2_method_8_code
def yX0_removeAll : MethodName := ⟨RX0, "removeAll", "()V"⟩
abbrev cX0_addAll : ByteArray := prog_2_method_9_code
def yX0_addAll : MethodName := ⟨RX0, "addAll", "(LRevisionStores$Tree;LRevisionStores$Holding;)V"⟩
abbrev cX0_addBranches : ByteArray := prog_2_method_10_code
def yX0_addBranches : MethodName := ⟨RX0, "addBranches", "(LRevisionStores$Tree;LRevisionStores$Holding;I)I"⟩
abbrev cX0_addLine : ByteArray := prog_2_method_11_code
def yX0_addLine : MethodName := ⟨RX0, "addLine", "(LRevisionStores$Tree;LRevisionStores$Holding;I)I"⟩
abbrev cX0_countAll : ByteArray := prog_2_method_12_code
def yX0_countAll : MethodName := ⟨RX0, "countAll", "(LRevisionStores$Tree;)I"⟩
abbrev cX0_countLiveLeaves : ByteArray := prog_2_method_13_code
def yX0_countLiveLeaves : MethodName := ⟨RX0, "countLiveLeaves", "(LRevisionStores$Tree;I)I"⟩
abbrev cX0_shownValue : ByteArray := prog_2_method_14_code
def yX0_shownValue : MethodName := ⟨RX0, "shownValue", "(LRevisionStores$Tree;I)I"⟩
abbrev cX0_countShownBefore : ByteArray := prog_2_method_15_code
def yX0_countShownBefore : MethodName := ⟨RX0, "countShownBefore", "(LRevisionStores$Tree;II)I"⟩
def RX1 : String := "RevisionStores$Store"
def TX1 : u_T := fun k => match k with
  | 0 => ("RevisionStores$Store", "holding", "LRevisionStores$Holding;", true)
  | 1 => ("RevisionStores$Store", "depth", "I", false)
  | 2 => ("RevisionStores$Store", "latest", "I", false)
  | 3 => ("RevisionStores$Store", "changes", "[I", true)
  | _ => ("RevisionStores$Store", "checkpoints", "[I", true)
def tyX1 : Nat → FieldType := fun k => match k with
  | 0 => .object "RevisionStores$Holding"
  | 1 => .int
  | 2 => .int
  | 3 => .array .int
  | _ => .array .int
abbrev wsX10 : List Cond := u_ws RX1 TX1 5
theorem nmX1 : ∀ a, a < 5 → ∀ b, b < 5 → a ≠ b → (TX1 a).2.1 ≠ (TX1 b).2.1 := by decide +kernel
theorem tyX1_ok : ∀ k, k < 5 → parseFieldDescriptor (TX1 k).2.2.1 = some (tyX1 k) := by decide +kernel
abbrev cX1_init : ByteArray := prog_3_method_1_code
def yX1_init : MethodName := ⟨RX1, "<init>", "()V"⟩
abbrev cX1_append : ByteArray := prog_3_method_2_code
def yX1_append : MethodName := ⟨RX1, "append", "(LRevisionStores$Tree;I)V"⟩
abbrev cX1_receive : ByteArray := prog_3_method_3_code
def yX1_receive : MethodName := ⟨RX1, "receive", "(LRevisionStores$Tree;LRevisionStores$Holding;I)I"⟩
abbrev cX1_noteChange : ByteArray := prog_3_method_4_code
def yX1_noteChange : MethodName := ⟨RX1, "noteChange", "(LRevisionStores$Tree;I)V"⟩
abbrev cX1_clear : ByteArray := prog_3_method_5_code
def yX1_clear : MethodName := ⟨RX1, "clear", "(LRevisionStores$Tree;)V"⟩
abbrev cX1_nextChanged : ByteArray := prog_3_method_6_code
def yX1_nextChanged : MethodName := ⟨RX1, "nextChanged", "(I)I"⟩
abbrev cX1_countChanged : ByteArray := prog_3_method_7_code
def yX1_countChanged : MethodName := ⟨RX1, "countChanged", "(I)I"⟩
def RX2 : String := "RevisionStores$Tree"
def TX2 : u_T := fun k => match k with
  | 0 => ("RevisionStores$Tree", "documents", "[I", true)
  | 1 => ("RevisionStores$Tree", "parents", "[I", true)
  | 2 => ("RevisionStores$Tree", "values", "[I", true)
  | 3 => ("RevisionStores$Tree", "deletions", "[Z", true)
  | 4 => ("RevisionStores$Tree", "generations", "[I", true)
  | 5 => ("RevisionStores$Tree", "sums", "[I", true)
  | _ => ("RevisionStores$Tree", "made", "I", false)
def tyX2 : Nat → FieldType := fun k => match k with
  | 0 => .array .int
  | 1 => .array .int
  | 2 => .array .int
  | 3 => .array .boolean
  | 4 => .array .int
  | 5 => .array .int
  | _ => .int
abbrev wsX20 : List Cond := u_ws RX2 TX2 7
theorem nmX2 : ∀ a, a < 7 → ∀ b, b < 7 → a ≠ b → (TX2 a).2.1 ≠ (TX2 b).2.1 := by decide +kernel
theorem tyX2_ok : ∀ k, k < 7 → parseFieldDescriptor (TX2 k).2.2.1 = some (tyX2 k) := by decide +kernel
abbrev cX2_init : ByteArray := prog_4_method_1_code
def yX2_init : MethodName := ⟨RX2, "<init>", "()V"⟩
abbrev cX2_find : ByteArray := prog_4_method_2_code
def yX2_find : MethodName := ⟨RX2, "find", "(IIIZ)I"⟩
abbrev cX2_make : ByteArray := prog_4_method_3_code
def yX2_make : MethodName := ⟨RX2, "make", "(IIIZ)I"⟩
abbrev cX2_isBetter : ByteArray := prog_4_method_4_code
def yX2_isBetter : MethodName := ⟨RX2, "isBetter", "(II)Z"⟩
def RX3 : String := "RevisionStores"
def TX3 : u_T := fun k => match k with
  | 0 => ("RevisionStores", "tree", "LRevisionStores$Tree;", true)
  | 1 => ("RevisionStores", "stores", "[LRevisionStores$Store;", true)
  | _ => ("RevisionStores", "union", "LRevisionStores$Holding;", true)
def tyX3 : Nat → FieldType := fun k => match k with
  | 0 => .object "RevisionStores$Tree"
  | 1 => .array (.object "RevisionStores$Store")
  | _ => .object "RevisionStores$Holding"
abbrev wsX30 : List Cond := u_ws RX3 TX3 3
theorem nmX3 : ∀ a, a < 3 → ∀ b, b < 3 → a ≠ b → (TX3 a).2.1 ≠ (TX3 b).2.1 := by decide +kernel
theorem tyX3_ok : ∀ k, k < 3 → parseFieldDescriptor (TX3 k).2.2.1 = some (tyX3 k) := by decide +kernel
abbrev cX3_init : ByteArray := prog_1_method_1_code
def yX3_init : MethodName := ⟨RX3, "<init>", "()V"⟩
abbrev cX3_edit : ByteArray := prog_1_method_2_code
def yX3_edit : MethodName := ⟨RX3, "edit", "(IIII)I"⟩
abbrev cX3_delete : ByteArray := prog_1_method_3_code
def yX3_delete : MethodName := ⟨RX3, "delete", "(III)I"⟩
abbrev cX3_setDepth : ByteArray := prog_1_method_4_code
def yX3_setDepth : MethodName := ⟨RX3, "setDepth", "(II)I"⟩
abbrev cX3_wipe : ByteArray := prog_1_method_5_code
def yX3_wipe : MethodName := ⟨RX3, "wipe", "(I)I"⟩
abbrev cX3_replicate : ByteArray := prog_1_method_6_code
def yX3_replicate : MethodName := ⟨RX3, "replicate", "(III)I"⟩
abbrev cX3_pending : ByteArray := prog_1_method_7_code
def yX3_pending : MethodName := ⟨RX3, "pending", "(II)I"⟩
abbrev cX3_checkpoint : ByteArray := prog_1_method_8_code
def yX3_checkpoint : MethodName := ⟨RX3, "checkpoint", "(II)I"⟩
abbrev cX3_revisions : ByteArray := prog_1_method_9_code
def yX3_revisions : MethodName := ⟨RX3, "revisions", "()I"⟩
abbrev cX3_documentOf : ByteArray := prog_1_method_10_code
def yX3_documentOf : MethodName := ⟨RX3, "documentOf", "(I)I"⟩
abbrev cX3_parentOf : ByteArray := prog_1_method_11_code
def yX3_parentOf : MethodName := ⟨RX3, "parentOf", "(I)I"⟩
abbrev cX3_generation : ByteArray := prog_1_method_12_code
def yX3_generation : MethodName := ⟨RX3, "generation", "(I)I"⟩
abbrev cX3_sum : ByteArray := prog_1_method_13_code
def yX3_sum : MethodName := ⟨RX3, "sum", "(I)I"⟩
abbrev cX3_valueOf : ByteArray := prog_1_method_14_code
def yX3_valueOf : MethodName := ⟨RX3, "valueOf", "(I)I"⟩
abbrev cX3_sequence : ByteArray := prog_1_method_15_code
def yX3_sequence : MethodName := ⟨RX3, "sequence", "(I)I"⟩
abbrev cX3_has : ByteArray := prog_1_method_16_code
def yX3_has : MethodName := ⟨RX3, "has", "(II)Z"⟩
abbrev cX3_isLeaf : ByteArray := prog_1_method_17_code
def yX3_isLeaf : MethodName := ⟨RX3, "isLeaf", "(II)Z"⟩
abbrev cX3_size : ByteArray := prog_1_method_18_code
def yX3_size : MethodName := ⟨RX3, "size", "(I)I"⟩
abbrev cX3_winner : ByteArray := prog_1_method_19_code
def yX3_winner : MethodName := ⟨RX3, "winner", "(II)I"⟩
abbrev cX3_winnerOfAll : ByteArray := prog_1_method_20_code
def yX3_winnerOfAll : MethodName := ⟨RX3, "winnerOfAll", "(I)I"⟩
abbrev cX3_conflicts : ByteArray := prog_1_method_21_code
def yX3_conflicts : MethodName := ⟨RX3, "conflicts", "(II)I"⟩
abbrev cX3_count : ByteArray := prog_1_method_22_code
def yX3_count : MethodName := ⟨RX3, "count", "(III)I"⟩
abbrev cX3_viewAt : ByteArray := prog_1_method_23_code
def yX3_viewAt : MethodName := ⟨RX3, "viewAt", "(II)I"⟩
abbrev cX3_storeAt : ByteArray := prog_1_method_24_code
def yX3_storeAt : MethodName := ⟨RX3, "storeAt", "(I)LRevisionStores$Store;"⟩
abbrev cX3_checkDocument : ByteArray := prog_1_method_25_code
def yX3_checkDocument : MethodName := ⟨RX3, "checkDocument", "(I)V"⟩
abbrev cX3_checkRevision : ByteArray := prog_1_method_26_code
def yX3_checkRevision : MethodName := ⟨RX3, "checkRevision", "(I)V"⟩
abbrev cX3_checkDifferent : ByteArray := prog_1_method_27_code
def yX3_checkDifferent : MethodName := ⟨RX3, "checkDifferent", "(II)V"⟩
abbrev cX3_checkNotBegun : ByteArray := prog_1_method_28_code
def yX3_checkNotBegun : MethodName := ⟨RX3, "checkNotBegun", "(LRevisionStores$Store;I)V"⟩
abbrev cX3_checkLeaf : ByteArray := prog_1_method_29_code
def yX3_checkLeaf : MethodName := ⟨RX3, "checkLeaf", "(LRevisionStores$Store;II)V"⟩
abbrev cX3_checkRoom : ByteArray := prog_1_method_30_code
def yX3_checkRoom : MethodName := ⟨RX3, "checkRoom", "()V"⟩
abbrev cX3_grow : ByteArray := prog_1_method_31_code
def yX3_grow : MethodName := ⟨RX3, "grow", "(LRevisionStores$Store;IIIZ)I"⟩
abbrev cX3_commonCheckpoint : ByteArray := prog_1_method_32_code
def yX3_commonCheckpoint : MethodName := ⟨RX3, "commonCheckpoint", "(II)I"⟩
abbrev cX3_pairOf : ByteArray := prog_1_method_33_code
def yX3_pairOf : MethodName := ⟨RX3, "pairOf", "(II)I"⟩
def RX4 : String := "RevisionStoresModel"
def TX4 : u_T := fun k => match k with
  | _ => ("", "", "", false)
def tyX4 : Nat → FieldType := fun k => match k with
  | _ => .int
abbrev wsX40 : List Cond := u_ws RX4 TX4 0
theorem nmX4 : ∀ a, a < 0 → ∀ b, b < 0 → a ≠ b → (TX4 a).2.1 ≠ (TX4 b).2.1 := by decide +kernel
theorem tyX4_ok : ∀ k, k < 0 → parseFieldDescriptor (TX4 k).2.2.1 = some (tyX4 k) := by decide +kernel
def RJx145de : String := "java/io/Serializable"
def TJx145de : u_T := fun k => match k with
  | _ => ("", "", "", false)
def tyJx145de : Nat → FieldType := fun k => match k with
  | _ => .int
abbrev wsJx145de0 : List Cond := u_ws RJx145de TJx145de 0
theorem nmJx145de : ∀ a, a < 0 → ∀ b, b < 0 → a ≠ b → (TJx145de a).2.1 ≠ (TJx145de b).2.1 := by decide +kernel
theorem tyJx145de_ok : ∀ k, k < 0 → parseFieldDescriptor (TJx145de k).2.2.1 = some (tyJx145de k) := by decide +kernel
def RJ9 : String := "java/lang/Math"
def TJ9 : u_T := fun k => match k with
  | _ => ("", "", "", false)
def tyJ9 : Nat → FieldType := fun k => match k with
  | _ => .int
abbrev wsJ90 : List Cond := u_ws RJ9 TJ9 0
theorem nmJ9 : ∀ a, a < 0 → ∀ b, b < 0 → a ≠ b → (TJ9 a).2.1 ≠ (TJ9 b).2.1 := by decide +kernel
theorem tyJ9_ok : ∀ k, k < 0 → parseFieldDescriptor (TJ9 k).2.2.1 = some (tyJ9 k) := by decide +kernel
abbrev cJ9_max_7cf53 : ByteArray := prog_11_method_65_code
def yJ9_max_7cf53 : MethodName := ⟨RJ9, "max", "(II)I"⟩
abbrev cJ9_min_7cf53 : ByteArray := prog_11_method_69_code
def yJ9_min_7cf53 : MethodName := ⟨RJ9, "min", "(II)I"⟩
def RJ0 : String := "java/lang/String"
def TJ0 : u_T := fun k => match k with
  | _ => ("", "", "", false)
def tyJ0 : Nat → FieldType := fun k => match k with
  | _ => .int
abbrev wsJ00 : List Cond := u_ws RJ0 TJ0 0
theorem nmJ0 : ∀ a, a < 0 → ∀ b, b < 0 → a ≠ b → (TJ0 a).2.1 ≠ (TJ0 b).2.1 := by decide +kernel
theorem tyJ0_ok : ∀ k, k < 0 → parseFieldDescriptor (TJ0 k).2.2.1 = some (tyJ0 k) := by decide +kernel
def RJ7 : String := "java/util/Arrays"
def TJ7 : u_T := fun k => match k with
  | _ => ("", "", "", false)
def tyJ7 : Nat → FieldType := fun k => match k with
  | _ => .int
abbrev wsJ70 : List Cond := u_ws RJ7 TJ7 0
theorem nmJ7 : ∀ a, a < 0 → ∀ b, b < 0 → a ≠ b → (TJ7 a).2.1 ≠ (TJ7 b).2.1 := by decide +kernel
theorem tyJ7_ok : ∀ k, k < 0 → parseFieldDescriptor (TJ7 k).2.2.1 = some (tyJ7 k) := by decide +kernel
abbrev cJ7_fill_53178 : ByteArray := prog_15_method_103_code
def yJ7_fill_53178 : MethodName := ⟨RJ7, "fill", "([II)V"⟩
def RL : String := "RevisionStoresLaw"
abbrev cL_from : ByteArray := method_2_code
def yL_from : MethodName := ⟨RL, "from", "([III)I"⟩
abbrev cL_leaves : ByteArray := method_3_code
def yL_leaves : MethodName := ⟨RL, "leaves", "([I[I[III)I"⟩
abbrev cL_rank : ByteArray := method_4_code
def yL_rank : MethodName := ⟨RL, "rank", "([I[I[II)I"⟩
abbrev cL_winner : ByteArray := method_5_code
def yL_winner : MethodName := ⟨RL, "winner", "([I[I[I[I[I[III)I"⟩
abbrev cL_ones : ByteArray := method_6_code
def yL_ones : MethodName := ⟨RL, "ones", "(I)I"⟩
abbrev cL_deep : ByteArray := method_7_code
def yL_deep : MethodName := ⟨RL, "deep", "([I[I[I[III)I"⟩
abbrev cL_stem : ByteArray := method_8_code
def yL_stem : MethodName := ⟨RL, "stem", "([I[I[I[I[II)I"⟩
abbrev cL_make : ByteArray := method_9_code
def yL_make : MethodName := ⟨RL, "make", "([I[I[I[I[I[I[IIII)I"⟩
abbrev cL_add : ByteArray := method_10_code
def yL_add : MethodName := ⟨RL, "add", "([I[I[I[I[I[I[I[I[IIIII)I"⟩
abbrev cL_start : ByteArray := method_11_code
def yL_start : MethodName := ⟨RL, "start", "([III)I"⟩
abbrev cL_got : ByteArray := method_12_code
def yL_got : MethodName := ⟨RL, "got", "([I[I[I[I[I[IIII)I"⟩
abbrev cL_replicated : ByteArray := method_13_code
def yL_replicated : MethodName := ⟨RL, "replicated", "([I[I[I[I[I[I[IIII)I"⟩
abbrev cL_areStores : ByteArray := method_14_code
def yL_areStores : MethodName := ⟨RL, "areStores", "(LRevisionStores;[I[I[I[I[I[I[I[I[I)Z"⟩
abbrev cL_areRevisions : ByteArray := method_15_code
def yL_areRevisions : MethodName := ⟨RL, "areRevisions", "(LRevisionStores;[I[I[I[I[I[I)Z"⟩
abbrev cL_edited : ByteArray := method_16_code
def yL_edited : MethodName := ⟨RL, "edited", "(LRevisionStores;IIII)I"⟩
abbrev cL_deleted : ByteArray := method_17_code
def yL_deleted : MethodName := ⟨RL, "deleted", "(LRevisionStores;III)I"⟩
abbrev cL_acts : ByteArray := method_18_code
def yL_acts : MethodName := ⟨RL, "acts", "(LRevisionStores;[I[I[I[I[I[I[I[I[I[III)Z"⟩
abbrev cL_holds : ByteArray := method_19_code
def yL_holds : MethodName := ⟨RL, "holds", "([I)Z"⟩
abbrev cL_isHeld : ByteArray := method_20_code
def yL_isHeld : MethodName := ⟨RL, "isHeld", "([I)Z"⟩
abbrev cL_law : ByteArray := code
def yL_law : MethodName := ⟨RL, "law", "([I)Z"⟩
def wsJ7_fill_53178 : List Cond := .code yJ7_fill_53178 cJ7_fill_53178 4 none :: ([])
def wsX0_init : List Cond := .code yX0_init cX0_init 1 none :: ([.methodLink RX0 3 objectInit, .instanceMethod objectInit, .code objectInit ⟨#[0xb1]⟩ 1 none, .arrayClass .boolean, .fieldLink RX0 9 "RevisionStores$Holding" "held" "[Z", .arrayClass .int, .fieldLink RX0 15 "RevisionStores$Holding" "nearestLeaf" "[I", .fieldLink RX0 19 "RevisionStores$Holding" "winners" "[I", .methodLink RX0 22 yJ7_fill_53178, .static yJ7_fill_53178, .initialized RJ7, .code yJ7_fill_53178 cJ7_fill_53178 4 none] ++ wsX00)
def wsX0_hasDescendantOf : List Cond := .code yX0_hasDescendantOf cX0_hasDescendantOf 2 (some .boolean) :: ([.fieldLink RX0 15 "RevisionStores$Holding" "nearestLeaf" "[I"] ++ wsX00)
def wsX0_endsAt : List Cond := .code yX0_endsAt cX0_endsAt 2 (some .boolean) :: ([.fieldLink RX0 9 "RevisionStores$Holding" "held" "[Z", .methodLink RX0 64 yX0_hasDescendantOf, .instanceMethod yX0_hasDescendantOf, .selects RX0 yX0_hasDescendantOf yX0_hasDescendantOf, .initialized RX0, .code yX0_hasDescendantOf cX0_hasDescendantOf 2 (some .boolean), .fieldLink RX0 15 "RevisionStores$Holding" "nearestLeaf" "[I"] ++ wsX00)
def wsX0_findLeaves : List Cond := .code yX0_findLeaves cX0_findLeaves 5 none :: ([.fieldLink RX0 15 "RevisionStores$Holding" "nearestLeaf" "[I", .methodLink RX0 51 Lib.Math.min.name, .static Lib.Math.min.name, .initialized "java/lang/Math", .code Lib.Math.min.name Lib.Math.min.code 2 (some .int), .methodLink RX0 22 yJ7_fill_53178, .static yJ7_fill_53178, .initialized RJ7, .code yJ7_fill_53178 cJ7_fill_53178 4 none, .methodLink RX0 44 yX0_endsAt, .instanceMethod yX0_endsAt, .selects RX0 yX0_endsAt yX0_endsAt, .initialized RX0, .code yX0_endsAt cX0_endsAt 2 (some .boolean), .fieldLink RX0 9 "RevisionStores$Holding" "held" "[Z", .methodLink RX0 64 yX0_hasDescendantOf, .instanceMethod yX0_hasDescendantOf, .selects RX0 yX0_hasDescendantOf yX0_hasDescendantOf, .code yX0_hasDescendantOf cX0_hasDescendantOf 2 (some .boolean)] ++ wsX00 ++ wsX20)
def wsX2_isBetter : List Cond := .code yX2_isBetter cX2_isBetter 3 (some .boolean) :: ([.fieldLink RX2 21 "RevisionStores$Tree" "deletions" "[Z", .fieldLink RX2 25 "RevisionStores$Tree" "generations" "[I", .fieldLink RX2 28 "RevisionStores$Tree" "sums" "[I"] ++ wsX20)
def wsX0_findWinners : List Cond := .code yX0_findWinners cX0_findWinners 5 none :: ([.fieldLink RX0 19 "RevisionStores$Holding" "winners" "[I", .methodLink RX0 22 yJ7_fill_53178, .static yJ7_fill_53178, .initialized RJ7, .code yJ7_fill_53178 cJ7_fill_53178 4 none, .methodLink RX0 44 yX0_endsAt, .instanceMethod yX0_endsAt, .selects RX0 yX0_endsAt yX0_endsAt, .initialized RX0, .code yX0_endsAt cX0_endsAt 2 (some .boolean), .fieldLink RX0 9 "RevisionStores$Holding" "held" "[Z", .methodLink RX0 64 yX0_hasDescendantOf, .instanceMethod yX0_hasDescendantOf, .selects RX0 yX0_hasDescendantOf yX0_hasDescendantOf, .code yX0_hasDescendantOf cX0_hasDescendantOf 2 (some .boolean), .fieldLink RX0 15 "RevisionStores$Holding" "nearestLeaf" "[I", .methodLink RX0 60 yX2_isBetter, .instanceMethod yX2_isBetter, .selects RX2 yX2_isBetter yX2_isBetter, .initialized RX2, .code yX2_isBetter cX2_isBetter 3 (some .boolean), .fieldLink RX2 21 "RevisionStores$Tree" "deletions" "[Z", .fieldLink RX2 25 "RevisionStores$Tree" "generations" "[I", .fieldLink RX2 28 "RevisionStores$Tree" "sums" "[I"] ++ wsX00 ++ wsX20)
def wsX0_survey_r1 : List Cond := [Cond.methodLink RX0 28 yX0_findLeaves, Cond.instanceMethod yX0_findLeaves, Cond.selects RX0 yX0_findLeaves yX0_findLeaves, Cond.initialized RX0, Cond.code yX0_findLeaves cX0_findLeaves 5 none, Cond.fieldLink RX0 15 "RevisionStores$Holding" "nearestLeaf" "[I", Cond.methodLink RX0 51 Lib.Math.min.name, Cond.static Lib.Math.min.name, Cond.initialized "java/lang/Math", Cond.code Lib.Math.min.name Lib.Math.min.code 2 (some .int), Cond.methodLink RX0 22 yJ7_fill_53178, Cond.static yJ7_fill_53178, Cond.initialized RJ7, Cond.code yJ7_fill_53178 cJ7_fill_53178 4 none, Cond.methodLink RX0 44 yX0_endsAt, Cond.instanceMethod yX0_endsAt, Cond.selects RX0 yX0_endsAt yX0_endsAt, Cond.code yX0_endsAt cX0_endsAt 2 (some .boolean), Cond.fieldLink RX0 9 "RevisionStores$Holding" "held" "[Z", Cond.methodLink RX0 64 yX0_hasDescendantOf, Cond.instanceMethod yX0_hasDescendantOf, Cond.selects RX0 yX0_hasDescendantOf yX0_hasDescendantOf, Cond.code yX0_hasDescendantOf cX0_hasDescendantOf 2 (some .boolean), Cond.methodLink RX0 32 yX0_findWinners]
def wsX0_survey_r2 : List Cond := [Cond.instanceMethod yX0_findWinners, Cond.selects RX0 yX0_findWinners yX0_findWinners, Cond.code yX0_findWinners cX0_findWinners 5 none, Cond.fieldLink RX0 19 "RevisionStores$Holding" "winners" "[I", Cond.methodLink RX0 60 yX2_isBetter, Cond.instanceMethod yX2_isBetter, Cond.selects RX2 yX2_isBetter yX2_isBetter, Cond.initialized RX2, Cond.code yX2_isBetter cX2_isBetter 3 (some .boolean), Cond.fieldLink RX2 21 "RevisionStores$Tree" "deletions" "[Z", Cond.fieldLink RX2 25 "RevisionStores$Tree" "generations" "[I", Cond.fieldLink RX2 28 "RevisionStores$Tree" "sums" "[I"]
def wsX0_survey : List Cond := .code yX0_survey cX0_survey 2 none :: ((wsX0_survey_r1 ++ wsX0_survey_r2) ++ wsX00 ++ wsX20)
def wsX0_stem : List Cond := .code yX0_stem cX0_stem 5 (some .int) :: ([.fieldLink RX0 9 "RevisionStores$Holding" "held" "[Z", .fieldLink RX0 15 "RevisionStores$Holding" "nearestLeaf" "[I", .methodLink RX0 64 yX0_hasDescendantOf, .instanceMethod yX0_hasDescendantOf, .selects RX0 yX0_hasDescendantOf yX0_hasDescendantOf, .initialized RX0, .code yX0_hasDescendantOf cX0_hasDescendantOf 2 (some .boolean)] ++ wsX20 ++ wsX00)
def wsX0_removeAll : List Cond := .code yX0_removeAll cX0_removeAll 2 none :: ([.fieldLink RX0 9 "RevisionStores$Holding" "held" "[Z"] ++ wsX00)
def wsX0_addAll : List Cond := .code yX0_addAll cX0_addAll 4 none :: ([.fieldLink RX0 9 "RevisionStores$Holding" "held" "[Z"] ++ wsX20 ++ wsX00)
def wsX0_addLine : List Cond := .code yX0_addLine cX0_addLine 7 (some .int) :: ([.fieldLink RX0 9 "RevisionStores$Holding" "held" "[Z"] ++ wsX00 ++ wsX20)
def wsX0_addBranches : List Cond := .code yX0_addBranches cX0_addBranches 6 (some .int) :: ([.fieldLink RX0 9 "RevisionStores$Holding" "held" "[Z", .methodLink RX0 44 yX0_endsAt, .instanceMethod yX0_endsAt, .selects RX0 yX0_endsAt yX0_endsAt, .initialized RX0, .code yX0_endsAt cX0_endsAt 2 (some .boolean), .methodLink RX0 64 yX0_hasDescendantOf, .instanceMethod yX0_hasDescendantOf, .selects RX0 yX0_hasDescendantOf yX0_hasDescendantOf, .code yX0_hasDescendantOf cX0_hasDescendantOf 2 (some .boolean), .fieldLink RX0 15 "RevisionStores$Holding" "nearestLeaf" "[I", .methodLink RX0 67 yX0_addLine, .instanceMethod yX0_addLine, .selects RX0 yX0_addLine yX0_addLine, .code yX0_addLine cX0_addLine 7 (some .int)] ++ wsX20 ++ wsX00)
def wsX0_countAll : List Cond := .code yX0_countAll cX0_countAll 4 (some .int) :: ([.fieldLink RX0 9 "RevisionStores$Holding" "held" "[Z"] ++ wsX20 ++ wsX00)
def wsX0_countLiveLeaves : List Cond := .code yX0_countLiveLeaves cX0_countLiveLeaves 5 (some .int) :: ([.methodLink RX0 44 yX0_endsAt, .instanceMethod yX0_endsAt, .selects RX0 yX0_endsAt yX0_endsAt, .initialized RX0, .code yX0_endsAt cX0_endsAt 2 (some .boolean), .fieldLink RX0 9 "RevisionStores$Holding" "held" "[Z", .methodLink RX0 64 yX0_hasDescendantOf, .instanceMethod yX0_hasDescendantOf, .selects RX0 yX0_hasDescendantOf yX0_hasDescendantOf, .code yX0_hasDescendantOf cX0_hasDescendantOf 2 (some .boolean), .fieldLink RX0 15 "RevisionStores$Holding" "nearestLeaf" "[I"] ++ wsX20 ++ wsX00)
def wsX0_shownValue : List Cond := .code yX0_shownValue cX0_shownValue 4 (some .int) :: ([.fieldLink RX0 19 "RevisionStores$Holding" "winners" "[I"] ++ wsX00 ++ wsX20)
def wsX0_countShownBefore : List Cond := .code yX0_countShownBefore cX0_countShownBefore 7 (some .int) :: ([.methodLink RX0 77 yX0_shownValue, .instanceMethod yX0_shownValue, .selects RX0 yX0_shownValue yX0_shownValue, .initialized RX0, .code yX0_shownValue cX0_shownValue 4 (some .int), .fieldLink RX0 19 "RevisionStores$Holding" "winners" "[I"] ++ wsX00 ++ wsX20)
def wsX1_init : List Cond := .code yX1_init cX1_init 1 none :: ([.methodLink RX1 3 objectInit, .instanceMethod objectInit, .code objectInit ⟨#[0xb1]⟩ 1 none, .classLink RX1 9 RX0, .instantiable RX0 3, .initialized RX0, .fieldLink RX1 12 "RevisionStores$Store" "holding" "LRevisionStores$Holding;", .fieldLink RX1 18 "RevisionStores$Store" "depth" "I", .fieldLink RX1 22 "RevisionStores$Store" "latest" "I", .arrayClass .int, .fieldLink RX1 25 "RevisionStores$Store" "changes" "[I", .fieldLink RX1 29 "RevisionStores$Store" "checkpoints" "[I", .methodLink RX1 11 yX0_init, .instanceMethod yX0_init, .code yX0_init cX0_init 1 none, .methodLink RX0 3 objectInit, .arrayClass .boolean, .fieldLink RX0 9 "RevisionStores$Holding" "held" "[Z", .fieldLink RX0 15 "RevisionStores$Holding" "nearestLeaf" "[I", .fieldLink RX0 19 "RevisionStores$Holding" "winners" "[I", .methodLink RX0 22 yJ7_fill_53178, .static yJ7_fill_53178, .initialized RJ7, .code yJ7_fill_53178 cJ7_fill_53178 4 none] ++ wsX00 ++ wsX10)
def wsX1_noteChange_r1 : List Cond := [Cond.fieldLink RX1 22 "RevisionStores$Store" "latest" "I", Cond.fieldLink RX1 25 "RevisionStores$Store" "changes" "[I", Cond.fieldLink RX1 12 "RevisionStores$Store" "holding" "LRevisionStores$Holding;", Cond.fieldLink RX1 18 "RevisionStores$Store" "depth" "I", Cond.methodLink RX1 49 yX0_survey, Cond.instanceMethod yX0_survey, Cond.selects RX0 yX0_survey yX0_survey, Cond.initialized RX0, Cond.code yX0_survey cX0_survey 2 none, Cond.methodLink RX0 28 yX0_findLeaves, Cond.instanceMethod yX0_findLeaves, Cond.selects RX0 yX0_findLeaves yX0_findLeaves, Cond.code yX0_findLeaves cX0_findLeaves 5 none, Cond.fieldLink RX0 15 "RevisionStores$Holding" "nearestLeaf" "[I", Cond.methodLink RX0 51 Lib.Math.min.name, Cond.static Lib.Math.min.name, Cond.initialized "java/lang/Math", Cond.code Lib.Math.min.name Lib.Math.min.code 2 (some .int), Cond.methodLink RX0 22 yJ7_fill_53178, Cond.static yJ7_fill_53178, Cond.initialized RJ7, Cond.code yJ7_fill_53178 cJ7_fill_53178 4 none, Cond.methodLink RX0 44 yX0_endsAt, Cond.instanceMethod yX0_endsAt]
def wsX1_noteChange_r2 : List Cond := [Cond.selects RX0 yX0_endsAt yX0_endsAt, Cond.code yX0_endsAt cX0_endsAt 2 (some .boolean), Cond.fieldLink RX0 9 "RevisionStores$Holding" "held" "[Z", Cond.methodLink RX0 64 yX0_hasDescendantOf, Cond.instanceMethod yX0_hasDescendantOf, Cond.selects RX0 yX0_hasDescendantOf yX0_hasDescendantOf, Cond.code yX0_hasDescendantOf cX0_hasDescendantOf 2 (some .boolean), Cond.methodLink RX0 32 yX0_findWinners, Cond.instanceMethod yX0_findWinners, Cond.selects RX0 yX0_findWinners yX0_findWinners, Cond.code yX0_findWinners cX0_findWinners 5 none, Cond.fieldLink RX0 19 "RevisionStores$Holding" "winners" "[I", Cond.methodLink RX0 60 yX2_isBetter, Cond.instanceMethod yX2_isBetter, Cond.selects RX2 yX2_isBetter yX2_isBetter, Cond.initialized RX2, Cond.code yX2_isBetter cX2_isBetter 3 (some .boolean), Cond.fieldLink RX2 21 "RevisionStores$Tree" "deletions" "[Z", Cond.fieldLink RX2 25 "RevisionStores$Tree" "generations" "[I", Cond.fieldLink RX2 28 "RevisionStores$Tree" "sums" "[I", Cond.methodLink RX1 53 yX0_stem, Cond.instanceMethod yX0_stem, Cond.selects RX0 yX0_stem yX0_stem, Cond.code yX0_stem cX0_stem 5 (some .int)]
def wsX1_noteChange : List Cond := .code yX1_noteChange cX1_noteChange 3 none :: ((wsX1_noteChange_r1 ++ wsX1_noteChange_r2) ++ wsX10 ++ wsX00 ++ wsX20)
def wsX1_append_r1 : List Cond := [Cond.fieldLink RX1 12 "RevisionStores$Store" "holding" "LRevisionStores$Holding;", Cond.methodLink RX1 41 yX1_noteChange, Cond.instanceMethod yX1_noteChange, Cond.selects RX1 yX1_noteChange yX1_noteChange, Cond.initialized RX1, Cond.code yX1_noteChange cX1_noteChange 3 none, Cond.fieldLink RX1 22 "RevisionStores$Store" "latest" "I", Cond.fieldLink RX1 25 "RevisionStores$Store" "changes" "[I", Cond.fieldLink RX1 18 "RevisionStores$Store" "depth" "I", Cond.methodLink RX1 49 yX0_survey, Cond.instanceMethod yX0_survey, Cond.selects RX0 yX0_survey yX0_survey, Cond.initialized RX0, Cond.code yX0_survey cX0_survey 2 none, Cond.methodLink RX0 28 yX0_findLeaves, Cond.instanceMethod yX0_findLeaves, Cond.selects RX0 yX0_findLeaves yX0_findLeaves, Cond.code yX0_findLeaves cX0_findLeaves 5 none, Cond.fieldLink RX0 15 "RevisionStores$Holding" "nearestLeaf" "[I", Cond.methodLink RX0 51 Lib.Math.min.name, Cond.static Lib.Math.min.name, Cond.initialized "java/lang/Math", Cond.code Lib.Math.min.name Lib.Math.min.code 2 (some .int), Cond.methodLink RX0 22 yJ7_fill_53178]
def wsX1_append_r2 : List Cond := [Cond.static yJ7_fill_53178, Cond.initialized RJ7, Cond.code yJ7_fill_53178 cJ7_fill_53178 4 none, Cond.methodLink RX0 44 yX0_endsAt, Cond.instanceMethod yX0_endsAt, Cond.selects RX0 yX0_endsAt yX0_endsAt, Cond.code yX0_endsAt cX0_endsAt 2 (some .boolean), Cond.fieldLink RX0 9 "RevisionStores$Holding" "held" "[Z", Cond.methodLink RX0 64 yX0_hasDescendantOf, Cond.instanceMethod yX0_hasDescendantOf, Cond.selects RX0 yX0_hasDescendantOf yX0_hasDescendantOf, Cond.code yX0_hasDescendantOf cX0_hasDescendantOf 2 (some .boolean), Cond.methodLink RX0 32 yX0_findWinners, Cond.instanceMethod yX0_findWinners, Cond.selects RX0 yX0_findWinners yX0_findWinners, Cond.code yX0_findWinners cX0_findWinners 5 none, Cond.fieldLink RX0 19 "RevisionStores$Holding" "winners" "[I", Cond.methodLink RX0 60 yX2_isBetter, Cond.instanceMethod yX2_isBetter, Cond.selects RX2 yX2_isBetter yX2_isBetter, Cond.initialized RX2, Cond.code yX2_isBetter cX2_isBetter 3 (some .boolean), Cond.fieldLink RX2 21 "RevisionStores$Tree" "deletions" "[Z", Cond.fieldLink RX2 25 "RevisionStores$Tree" "generations" "[I"]
def wsX1_append_r3 : List Cond := [Cond.fieldLink RX2 28 "RevisionStores$Tree" "sums" "[I", Cond.methodLink RX1 53 yX0_stem, Cond.instanceMethod yX0_stem, Cond.selects RX0 yX0_stem yX0_stem, Cond.code yX0_stem cX0_stem 5 (some .int)]
def wsX1_append : List Cond := .code yX1_append cX1_append 3 none :: ((wsX1_append_r1 ++ (wsX1_append_r2 ++ wsX1_append_r3)) ++ wsX10 ++ wsX00 ++ wsX20)
def wsX1_receive_r1 : List Cond := [Cond.fieldLink RX1 12 "RevisionStores$Store" "holding" "LRevisionStores$Holding;", Cond.methodLink RX1 45 yX0_addBranches, Cond.instanceMethod yX0_addBranches, Cond.selects RX0 yX0_addBranches yX0_addBranches, Cond.initialized RX0, Cond.code yX0_addBranches cX0_addBranches 6 (some .int), Cond.fieldLink RX0 9 "RevisionStores$Holding" "held" "[Z", Cond.methodLink RX0 44 yX0_endsAt, Cond.instanceMethod yX0_endsAt, Cond.selects RX0 yX0_endsAt yX0_endsAt, Cond.code yX0_endsAt cX0_endsAt 2 (some .boolean), Cond.methodLink RX0 64 yX0_hasDescendantOf, Cond.instanceMethod yX0_hasDescendantOf, Cond.selects RX0 yX0_hasDescendantOf yX0_hasDescendantOf, Cond.code yX0_hasDescendantOf cX0_hasDescendantOf 2 (some .boolean), Cond.fieldLink RX0 15 "RevisionStores$Holding" "nearestLeaf" "[I", Cond.methodLink RX0 67 yX0_addLine, Cond.instanceMethod yX0_addLine, Cond.selects RX0 yX0_addLine yX0_addLine, Cond.code yX0_addLine cX0_addLine 7 (some .int), Cond.methodLink RX1 41 yX1_noteChange, Cond.instanceMethod yX1_noteChange, Cond.selects RX1 yX1_noteChange yX1_noteChange, Cond.initialized RX1]
def wsX1_receive_r2 : List Cond := [Cond.code yX1_noteChange cX1_noteChange 3 none, Cond.fieldLink RX1 22 "RevisionStores$Store" "latest" "I", Cond.fieldLink RX1 25 "RevisionStores$Store" "changes" "[I", Cond.fieldLink RX1 18 "RevisionStores$Store" "depth" "I", Cond.methodLink RX1 49 yX0_survey, Cond.instanceMethod yX0_survey, Cond.selects RX0 yX0_survey yX0_survey, Cond.code yX0_survey cX0_survey 2 none, Cond.methodLink RX0 28 yX0_findLeaves, Cond.instanceMethod yX0_findLeaves, Cond.selects RX0 yX0_findLeaves yX0_findLeaves, Cond.code yX0_findLeaves cX0_findLeaves 5 none, Cond.methodLink RX0 51 Lib.Math.min.name, Cond.static Lib.Math.min.name, Cond.initialized "java/lang/Math", Cond.code Lib.Math.min.name Lib.Math.min.code 2 (some .int), Cond.methodLink RX0 22 yJ7_fill_53178, Cond.static yJ7_fill_53178, Cond.initialized RJ7, Cond.code yJ7_fill_53178 cJ7_fill_53178 4 none, Cond.methodLink RX0 32 yX0_findWinners, Cond.instanceMethod yX0_findWinners, Cond.selects RX0 yX0_findWinners yX0_findWinners, Cond.code yX0_findWinners cX0_findWinners 5 none]
def wsX1_receive_r3 : List Cond := [Cond.fieldLink RX0 19 "RevisionStores$Holding" "winners" "[I", Cond.methodLink RX0 60 yX2_isBetter, Cond.instanceMethod yX2_isBetter, Cond.selects RX2 yX2_isBetter yX2_isBetter, Cond.initialized RX2, Cond.code yX2_isBetter cX2_isBetter 3 (some .boolean), Cond.fieldLink RX2 21 "RevisionStores$Tree" "deletions" "[Z", Cond.fieldLink RX2 25 "RevisionStores$Tree" "generations" "[I", Cond.fieldLink RX2 28 "RevisionStores$Tree" "sums" "[I", Cond.methodLink RX1 53 yX0_stem, Cond.instanceMethod yX0_stem, Cond.selects RX0 yX0_stem yX0_stem, Cond.code yX0_stem cX0_stem 5 (some .int)]
def wsX1_receive : List Cond := .code yX1_receive cX1_receive 5 (some .int) :: ((wsX1_receive_r1 ++ (wsX1_receive_r2 ++ wsX1_receive_r3)) ++ wsX10 ++ wsX20 ++ wsX00)
def wsX1_clear_r1 : List Cond := [Cond.fieldLink RX1 12 "RevisionStores$Store" "holding" "LRevisionStores$Holding;", Cond.fieldLink RX1 22 "RevisionStores$Store" "latest" "I", Cond.fieldLink RX1 25 "RevisionStores$Store" "changes" "[I", Cond.fieldLink RX1 29 "RevisionStores$Store" "checkpoints" "[I", Cond.methodLink RX1 57 yX0_removeAll, Cond.instanceMethod yX0_removeAll, Cond.selects RX0 yX0_removeAll yX0_removeAll, Cond.initialized RX0, Cond.code yX0_removeAll cX0_removeAll 2 none, Cond.fieldLink RX0 9 "RevisionStores$Holding" "held" "[Z", Cond.methodLink RX1 49 yX0_survey, Cond.instanceMethod yX0_survey, Cond.selects RX0 yX0_survey yX0_survey, Cond.code yX0_survey cX0_survey 2 none, Cond.methodLink RX0 28 yX0_findLeaves, Cond.instanceMethod yX0_findLeaves, Cond.selects RX0 yX0_findLeaves yX0_findLeaves, Cond.code yX0_findLeaves cX0_findLeaves 5 none, Cond.fieldLink RX0 15 "RevisionStores$Holding" "nearestLeaf" "[I", Cond.methodLink RX0 51 Lib.Math.min.name, Cond.static Lib.Math.min.name, Cond.initialized "java/lang/Math", Cond.code Lib.Math.min.name Lib.Math.min.code 2 (some .int), Cond.methodLink RX0 22 yJ7_fill_53178]
def wsX1_clear_r2 : List Cond := [Cond.static yJ7_fill_53178, Cond.initialized RJ7, Cond.code yJ7_fill_53178 cJ7_fill_53178 4 none, Cond.methodLink RX0 44 yX0_endsAt, Cond.instanceMethod yX0_endsAt, Cond.selects RX0 yX0_endsAt yX0_endsAt, Cond.code yX0_endsAt cX0_endsAt 2 (some .boolean), Cond.methodLink RX0 64 yX0_hasDescendantOf, Cond.instanceMethod yX0_hasDescendantOf, Cond.selects RX0 yX0_hasDescendantOf yX0_hasDescendantOf, Cond.code yX0_hasDescendantOf cX0_hasDescendantOf 2 (some .boolean), Cond.methodLink RX0 32 yX0_findWinners, Cond.instanceMethod yX0_findWinners, Cond.selects RX0 yX0_findWinners yX0_findWinners, Cond.code yX0_findWinners cX0_findWinners 5 none, Cond.fieldLink RX0 19 "RevisionStores$Holding" "winners" "[I", Cond.methodLink RX0 60 yX2_isBetter, Cond.instanceMethod yX2_isBetter, Cond.selects RX2 yX2_isBetter yX2_isBetter, Cond.initialized RX2, Cond.code yX2_isBetter cX2_isBetter 3 (some .boolean), Cond.fieldLink RX2 21 "RevisionStores$Tree" "deletions" "[Z", Cond.fieldLink RX2 25 "RevisionStores$Tree" "generations" "[I", Cond.fieldLink RX2 28 "RevisionStores$Tree" "sums" "[I"]
def wsX1_clear_r3 : List Cond := [Cond.methodLink RX1 60 yJ7_fill_53178]
def wsX1_clear : List Cond := .code yX1_clear cX1_clear 2 none :: ((wsX1_clear_r1 ++ (wsX1_clear_r2 ++ wsX1_clear_r3)) ++ wsX10 ++ wsX00 ++ wsX20)
def wsX1_nextChanged : List Cond := .code yX1_nextChanged cX1_nextChanged 4 (some .int) :: ([.fieldLink RX1 25 "RevisionStores$Store" "changes" "[I"] ++ wsX10)
def wsX1_countChanged : List Cond := .code yX1_countChanged cX1_countChanged 4 (some .int) :: ([.fieldLink RX1 25 "RevisionStores$Store" "changes" "[I"] ++ wsX10)
def wsX2_init : List Cond := .code yX2_init cX2_init 1 none :: ([.methodLink RX2 3 objectInit, .instanceMethod objectInit, .code objectInit ⟨#[0xb1]⟩ 1 none, .arrayClass .int, .fieldLink RX2 9 "RevisionStores$Tree" "documents" "[I", .fieldLink RX2 15 "RevisionStores$Tree" "parents" "[I", .fieldLink RX2 18 "RevisionStores$Tree" "values" "[I", .arrayClass .boolean, .fieldLink RX2 21 "RevisionStores$Tree" "deletions" "[Z", .fieldLink RX2 25 "RevisionStores$Tree" "generations" "[I", .fieldLink RX2 28 "RevisionStores$Tree" "sums" "[I", .fieldLink RX2 31 "RevisionStores$Tree" "made" "I"] ++ wsX20)
def wsX2_find : List Cond := .code yX2_find cX2_find 6 (some .int) :: ([.fieldLink RX2 31 "RevisionStores$Tree" "made" "I", .fieldLink RX2 9 "RevisionStores$Tree" "documents" "[I", .fieldLink RX2 15 "RevisionStores$Tree" "parents" "[I", .fieldLink RX2 18 "RevisionStores$Tree" "values" "[I", .fieldLink RX2 21 "RevisionStores$Tree" "deletions" "[Z"] ++ wsX20)
def wsX2_make : List Cond := .code yX2_make cX2_make 8 (some .int) :: ([.fieldLink RX2 31 "RevisionStores$Tree" "made" "I", .fieldLink RX2 25 "RevisionStores$Tree" "generations" "[I", .fieldLink RX2 28 "RevisionStores$Tree" "sums" "[I", .fieldLink RX2 9 "RevisionStores$Tree" "documents" "[I", .fieldLink RX2 15 "RevisionStores$Tree" "parents" "[I", .fieldLink RX2 18 "RevisionStores$Tree" "values" "[I", .fieldLink RX2 21 "RevisionStores$Tree" "deletions" "[Z"] ++ wsX20)
def wsX3_init_r1 : List Cond := [Cond.methodLink RX3 1 objectInit, Cond.instanceMethod objectInit, Cond.code objectInit ⟨#[0xb1]⟩ 1 none, Cond.classLink RX3 7 RX2, Cond.instantiable RX2 7, Cond.initialized RX2, Cond.fieldLink RX3 10 "RevisionStores" "tree" "LRevisionStores$Tree;", Cond.classLink RX3 16 RX1, Cond.fieldLink RX3 18 "RevisionStores" "stores" "[LRevisionStores$Store;", Cond.classLink RX3 22 RX0, Cond.instantiable RX0 3, Cond.initialized RX0, Cond.fieldLink RX3 25 "RevisionStores" "union" "LRevisionStores$Holding;", Cond.instantiable RX1 5, Cond.initialized RX1, Cond.instanceMethod yX2_init, Cond.code yX2_init cX2_init 1 none, Cond.methodLink RX2 3 objectInit, Cond.arrayClass .int, Cond.fieldLink RX2 9 "RevisionStores$Tree" "documents" "[I", Cond.fieldLink RX2 15 "RevisionStores$Tree" "parents" "[I", Cond.fieldLink RX2 18 "RevisionStores$Tree" "values" "[I", Cond.arrayClass .boolean, Cond.fieldLink RX2 21 "RevisionStores$Tree" "deletions" "[Z"]
def wsX3_init_r2 : List Cond := [Cond.fieldLink RX2 25 "RevisionStores$Tree" "generations" "[I", Cond.fieldLink RX2 28 "RevisionStores$Tree" "sums" "[I", Cond.fieldLink RX2 31 "RevisionStores$Tree" "made" "I", Cond.methodLink RX3 24 yX0_init, Cond.instanceMethod yX0_init, Cond.code yX0_init cX0_init 1 none, Cond.methodLink RX0 3 objectInit, Cond.fieldLink RX0 9 "RevisionStores$Holding" "held" "[Z", Cond.fieldLink RX0 15 "RevisionStores$Holding" "nearestLeaf" "[I", Cond.fieldLink RX0 19 "RevisionStores$Holding" "winners" "[I", Cond.methodLink RX0 22 yJ7_fill_53178, Cond.static yJ7_fill_53178, Cond.initialized RJ7, Cond.code yJ7_fill_53178 cJ7_fill_53178 4 none, Cond.instanceMethod yX1_init, Cond.code yX1_init cX1_init 1 none, Cond.methodLink RX1 3 objectInit, Cond.classLink RX1 9 RX0, Cond.fieldLink RX1 12 "RevisionStores$Store" "holding" "LRevisionStores$Holding;", Cond.fieldLink RX1 18 "RevisionStores$Store" "depth" "I", Cond.fieldLink RX1 22 "RevisionStores$Store" "latest" "I", Cond.fieldLink RX1 25 "RevisionStores$Store" "changes" "[I", Cond.fieldLink RX1 29 "RevisionStores$Store" "checkpoints" "[I", Cond.methodLink RX1 11 yX0_init]
def wsX3_init : List Cond := .code yX3_init cX3_init 2 none :: ((wsX3_init_r1 ++ wsX3_init_r2) ++ wsX20 ++ wsX30 ++ wsX00 ++ wsX10)
def wsX3_storeAt : List Cond := .code yX3_storeAt cX3_storeAt 2 (some (.object "RevisionStores$Store")) :: ([.classLink RX3 180 "java/lang/IndexOutOfBoundsException", .initialized "java/lang/IndexOutOfBoundsException", .fieldLink RX3 18 "RevisionStores" "stores" "[LRevisionStores$Store;"] ++ wsX30 ++ (vx_atS RX3 184 "java/lang/IndexOutOfBoundsException" ["java/lang/RuntimeException", "java/lang/Exception"]).filter goodWord)
def wsX3_checkDocument : List Cond := .code yX3_checkDocument cX3_checkDocument 2 none :: ([.classLink RX3 180 "java/lang/IndexOutOfBoundsException", .initialized "java/lang/IndexOutOfBoundsException"] ++ (vx_atS RX3 184 "java/lang/IndexOutOfBoundsException" ["java/lang/RuntimeException", "java/lang/Exception"]).filter goodWord)
def wsX3_checkRevision : List Cond := .code yX3_checkRevision cX3_checkRevision 2 none :: ([.classLink RX3 180 "java/lang/IndexOutOfBoundsException", .initialized "java/lang/IndexOutOfBoundsException", .fieldLink RX3 10 "RevisionStores" "tree" "LRevisionStores$Tree;"] ++ wsX30 ++ wsX20 ++ (vx_atS RX3 184 "java/lang/IndexOutOfBoundsException" ["java/lang/RuntimeException", "java/lang/Exception"]).filter goodWord)
def wsX3_checkNotBegun : List Cond := .code yX3_checkNotBegun cX3_checkNotBegun 3 none :: ([.classLink RX3 67 "java/lang/IllegalStateException", .initialized "java/lang/IllegalStateException"] ++ wsX10 ++ wsX00 ++ (vx_atS RX3 71 "java/lang/IllegalStateException" ["java/lang/RuntimeException", "java/lang/Exception"]).filter goodWord)
def wsX3_checkLeaf : List Cond := .code yX3_checkLeaf cX3_checkLeaf 4 none :: ([.classLink RX3 67 "java/lang/IllegalStateException", .initialized "java/lang/IllegalStateException", .fieldLink RX3 10 "RevisionStores" "tree" "LRevisionStores$Tree;", .methodLink RX3 148 yX0_endsAt, .instanceMethod yX0_endsAt, .selects RX0 yX0_endsAt yX0_endsAt, .initialized RX0, .code yX0_endsAt cX0_endsAt 2 (some .boolean), .fieldLink RX0 9 "RevisionStores$Holding" "held" "[Z", .methodLink RX0 64 yX0_hasDescendantOf, .instanceMethod yX0_hasDescendantOf, .selects RX0 yX0_hasDescendantOf yX0_hasDescendantOf, .code yX0_hasDescendantOf cX0_hasDescendantOf 2 (some .boolean), .fieldLink RX0 15 "RevisionStores$Holding" "nearestLeaf" "[I"] ++ wsX30 ++ wsX20 ++ wsX10 ++ wsX00 ++ (vx_atS RX3 71 "java/lang/IllegalStateException" ["java/lang/RuntimeException", "java/lang/Exception"]).filter goodWord)
def wsX3_checkRoom : List Cond := .code yX3_checkRoom cX3_checkRoom 1 none :: ([.classLink RX3 67 "java/lang/IllegalStateException", .initialized "java/lang/IllegalStateException", .fieldLink RX3 10 "RevisionStores" "tree" "LRevisionStores$Tree;"] ++ wsX30 ++ wsX20 ++ (vx_atS RX3 71 "java/lang/IllegalStateException" ["java/lang/RuntimeException", "java/lang/Exception"]).filter goodWord)
def wsX3_grow_r1 : List Cond := [Cond.fieldLink RX3 10 "RevisionStores" "tree" "LRevisionStores$Tree;", Cond.methodLink RX3 199 yX2_find, Cond.instanceMethod yX2_find, Cond.selects RX2 yX2_find yX2_find, Cond.initialized RX2, Cond.code yX2_find cX2_find 6 (some .int), Cond.fieldLink RX2 31 "RevisionStores$Tree" "made" "I", Cond.fieldLink RX2 9 "RevisionStores$Tree" "documents" "[I", Cond.fieldLink RX2 15 "RevisionStores$Tree" "parents" "[I", Cond.fieldLink RX2 18 "RevisionStores$Tree" "values" "[I", Cond.fieldLink RX2 21 "RevisionStores$Tree" "deletions" "[Z", Cond.methodLink RX3 203 yX2_make, Cond.instanceMethod yX2_make, Cond.selects RX2 yX2_make yX2_make, Cond.code yX2_make cX2_make 8 (some .int), Cond.fieldLink RX2 25 "RevisionStores$Tree" "generations" "[I", Cond.fieldLink RX2 28 "RevisionStores$Tree" "sums" "[I", Cond.methodLink RX3 206 yX1_append, Cond.instanceMethod yX1_append, Cond.selects RX1 yX1_append yX1_append, Cond.initialized RX1, Cond.code yX1_append cX1_append 3 none, Cond.fieldLink RX1 12 "RevisionStores$Store" "holding" "LRevisionStores$Holding;", Cond.methodLink RX1 41 yX1_noteChange]
def wsX3_grow_r2 : List Cond := [Cond.instanceMethod yX1_noteChange, Cond.selects RX1 yX1_noteChange yX1_noteChange, Cond.code yX1_noteChange cX1_noteChange 3 none, Cond.fieldLink RX1 22 "RevisionStores$Store" "latest" "I", Cond.fieldLink RX1 25 "RevisionStores$Store" "changes" "[I", Cond.fieldLink RX1 18 "RevisionStores$Store" "depth" "I", Cond.methodLink RX1 49 yX0_survey, Cond.instanceMethod yX0_survey, Cond.selects RX0 yX0_survey yX0_survey, Cond.initialized RX0, Cond.code yX0_survey cX0_survey 2 none, Cond.methodLink RX0 28 yX0_findLeaves, Cond.instanceMethod yX0_findLeaves, Cond.selects RX0 yX0_findLeaves yX0_findLeaves, Cond.code yX0_findLeaves cX0_findLeaves 5 none, Cond.fieldLink RX0 15 "RevisionStores$Holding" "nearestLeaf" "[I", Cond.methodLink RX0 51 Lib.Math.min.name, Cond.static Lib.Math.min.name, Cond.initialized "java/lang/Math", Cond.code Lib.Math.min.name Lib.Math.min.code 2 (some .int), Cond.methodLink RX0 22 yJ7_fill_53178, Cond.static yJ7_fill_53178, Cond.initialized RJ7, Cond.code yJ7_fill_53178 cJ7_fill_53178 4 none]
def wsX3_grow_r3 : List Cond := [Cond.methodLink RX0 44 yX0_endsAt, Cond.instanceMethod yX0_endsAt, Cond.selects RX0 yX0_endsAt yX0_endsAt, Cond.code yX0_endsAt cX0_endsAt 2 (some .boolean), Cond.fieldLink RX0 9 "RevisionStores$Holding" "held" "[Z", Cond.methodLink RX0 64 yX0_hasDescendantOf, Cond.instanceMethod yX0_hasDescendantOf, Cond.selects RX0 yX0_hasDescendantOf yX0_hasDescendantOf, Cond.code yX0_hasDescendantOf cX0_hasDescendantOf 2 (some .boolean), Cond.methodLink RX0 32 yX0_findWinners, Cond.instanceMethod yX0_findWinners, Cond.selects RX0 yX0_findWinners yX0_findWinners, Cond.code yX0_findWinners cX0_findWinners 5 none, Cond.fieldLink RX0 19 "RevisionStores$Holding" "winners" "[I", Cond.methodLink RX0 60 yX2_isBetter, Cond.instanceMethod yX2_isBetter, Cond.selects RX2 yX2_isBetter yX2_isBetter, Cond.code yX2_isBetter cX2_isBetter 3 (some .boolean), Cond.methodLink RX1 53 yX0_stem, Cond.instanceMethod yX0_stem, Cond.selects RX0 yX0_stem yX0_stem, Cond.code yX0_stem cX0_stem 5 (some .int)]
def wsX3_grow : List Cond := .code yX3_grow cX3_grow 7 (some .int) :: ((wsX3_grow_r1 ++ (wsX3_grow_r2 ++ wsX3_grow_r3)) ++ wsX30 ++ wsX20 ++ wsX10 ++ wsX00)
def wsX3_edit_r1 : List Cond := [Cond.classLink RX3 41 "java/lang/IllegalArgumentException", Cond.initialized "java/lang/IllegalArgumentException", Cond.methodLink RX3 30 yX3_storeAt, Cond.instanceMethod yX3_storeAt, Cond.selects RX3 yX3_storeAt yX3_storeAt, Cond.initialized RX3, Cond.code yX3_storeAt cX3_storeAt 2 (some (.object "RevisionStores$Store")), Cond.classLink RX3 180 "java/lang/IndexOutOfBoundsException", Cond.initialized "java/lang/IndexOutOfBoundsException", Cond.fieldLink RX3 18 "RevisionStores" "stores" "[LRevisionStores$Store;", Cond.methodLink RX3 34 yX3_checkDocument, Cond.instanceMethod yX3_checkDocument, Cond.selects RX3 yX3_checkDocument yX3_checkDocument, Cond.code yX3_checkDocument cX3_checkDocument 2 none, Cond.methodLink RX3 38 yX3_checkRevision, Cond.instanceMethod yX3_checkRevision, Cond.selects RX3 yX3_checkRevision yX3_checkRevision, Cond.code yX3_checkRevision cX3_checkRevision 2 none, Cond.fieldLink RX3 10 "RevisionStores" "tree" "LRevisionStores$Tree;", Cond.methodLink RX3 48 yX3_checkNotBegun, Cond.instanceMethod yX3_checkNotBegun, Cond.selects RX3 yX3_checkNotBegun yX3_checkNotBegun, Cond.code yX3_checkNotBegun cX3_checkNotBegun 3 none, Cond.classLink RX3 67 "java/lang/IllegalStateException"]
def wsX3_edit_r2 : List Cond := [Cond.initialized "java/lang/IllegalStateException", Cond.methodLink RX3 52 yX3_checkLeaf, Cond.instanceMethod yX3_checkLeaf, Cond.selects RX3 yX3_checkLeaf yX3_checkLeaf, Cond.code yX3_checkLeaf cX3_checkLeaf 4 none, Cond.methodLink RX3 148 yX0_endsAt, Cond.instanceMethod yX0_endsAt, Cond.selects RX0 yX0_endsAt yX0_endsAt, Cond.initialized RX0, Cond.code yX0_endsAt cX0_endsAt 2 (some .boolean), Cond.fieldLink RX0 9 "RevisionStores$Holding" "held" "[Z", Cond.methodLink RX0 64 yX0_hasDescendantOf, Cond.instanceMethod yX0_hasDescendantOf, Cond.selects RX0 yX0_hasDescendantOf yX0_hasDescendantOf, Cond.code yX0_hasDescendantOf cX0_hasDescendantOf 2 (some .boolean), Cond.fieldLink RX0 15 "RevisionStores$Holding" "nearestLeaf" "[I", Cond.methodLink RX3 56 yX3_checkRoom, Cond.instanceMethod yX3_checkRoom, Cond.selects RX3 yX3_checkRoom yX3_checkRoom, Cond.code yX3_checkRoom cX3_checkRoom 1 none, Cond.methodLink RX3 59 yX3_grow, Cond.instanceMethod yX3_grow, Cond.selects RX3 yX3_grow yX3_grow, Cond.code yX3_grow cX3_grow 7 (some .int)]
def wsX3_edit_r3 : List Cond := [Cond.methodLink RX3 199 yX2_find, Cond.instanceMethod yX2_find, Cond.selects RX2 yX2_find yX2_find, Cond.initialized RX2, Cond.code yX2_find cX2_find 6 (some .int), Cond.fieldLink RX2 31 "RevisionStores$Tree" "made" "I", Cond.fieldLink RX2 9 "RevisionStores$Tree" "documents" "[I", Cond.fieldLink RX2 15 "RevisionStores$Tree" "parents" "[I", Cond.fieldLink RX2 18 "RevisionStores$Tree" "values" "[I", Cond.fieldLink RX2 21 "RevisionStores$Tree" "deletions" "[Z", Cond.methodLink RX3 203 yX2_make, Cond.instanceMethod yX2_make, Cond.selects RX2 yX2_make yX2_make, Cond.code yX2_make cX2_make 8 (some .int), Cond.fieldLink RX2 25 "RevisionStores$Tree" "generations" "[I", Cond.fieldLink RX2 28 "RevisionStores$Tree" "sums" "[I", Cond.methodLink RX3 206 yX1_append, Cond.instanceMethod yX1_append, Cond.selects RX1 yX1_append yX1_append, Cond.initialized RX1, Cond.code yX1_append cX1_append 3 none, Cond.fieldLink RX1 12 "RevisionStores$Store" "holding" "LRevisionStores$Holding;", Cond.methodLink RX1 41 yX1_noteChange, Cond.instanceMethod yX1_noteChange]
def wsX3_edit_r4 : List Cond := [Cond.selects RX1 yX1_noteChange yX1_noteChange, Cond.code yX1_noteChange cX1_noteChange 3 none, Cond.fieldLink RX1 22 "RevisionStores$Store" "latest" "I", Cond.fieldLink RX1 25 "RevisionStores$Store" "changes" "[I", Cond.fieldLink RX1 18 "RevisionStores$Store" "depth" "I", Cond.methodLink RX1 49 yX0_survey, Cond.instanceMethod yX0_survey, Cond.selects RX0 yX0_survey yX0_survey, Cond.code yX0_survey cX0_survey 2 none, Cond.methodLink RX0 28 yX0_findLeaves, Cond.instanceMethod yX0_findLeaves, Cond.selects RX0 yX0_findLeaves yX0_findLeaves, Cond.code yX0_findLeaves cX0_findLeaves 5 none, Cond.methodLink RX0 51 Lib.Math.min.name, Cond.static Lib.Math.min.name, Cond.initialized "java/lang/Math", Cond.code Lib.Math.min.name Lib.Math.min.code 2 (some .int), Cond.methodLink RX0 22 yJ7_fill_53178, Cond.static yJ7_fill_53178, Cond.initialized RJ7, Cond.code yJ7_fill_53178 cJ7_fill_53178 4 none, Cond.methodLink RX0 44 yX0_endsAt, Cond.methodLink RX0 32 yX0_findWinners, Cond.instanceMethod yX0_findWinners]
def wsX3_edit_r5 : List Cond := [Cond.selects RX0 yX0_findWinners yX0_findWinners, Cond.code yX0_findWinners cX0_findWinners 5 none, Cond.fieldLink RX0 19 "RevisionStores$Holding" "winners" "[I", Cond.methodLink RX0 60 yX2_isBetter, Cond.instanceMethod yX2_isBetter, Cond.selects RX2 yX2_isBetter yX2_isBetter, Cond.code yX2_isBetter cX2_isBetter 3 (some .boolean), Cond.methodLink RX1 53 yX0_stem, Cond.instanceMethod yX0_stem, Cond.selects RX0 yX0_stem yX0_stem, Cond.code yX0_stem cX0_stem 5 (some .int)]
def wsX3_edit : List Cond := .code yX3_edit cX3_edit 6 (some .int) :: ((wsX3_edit_r1 ++ (wsX3_edit_r2 ++ (wsX3_edit_r3 ++ (wsX3_edit_r4 ++ wsX3_edit_r5)))) ++ wsX30 ++ wsX20 ++ wsX10 ++ wsX00 ++ (vx_atS RX3 45 "java/lang/IllegalArgumentException" ["java/lang/RuntimeException", "java/lang/Exception"]).filter goodWord ++ (vx_atS RX3 184 "java/lang/IndexOutOfBoundsException" ["java/lang/RuntimeException", "java/lang/Exception"]).filter goodWord ++ (vx_atS RX3 71 "java/lang/IllegalStateException" ["java/lang/RuntimeException", "java/lang/Exception"]).filter goodWord)
def wsX3_delete_r1 : List Cond := [Cond.classLink RX3 67 "java/lang/IllegalStateException", Cond.initialized "java/lang/IllegalStateException", Cond.fieldLink RX3 10 "RevisionStores" "tree" "LRevisionStores$Tree;", Cond.methodLink RX3 30 yX3_storeAt, Cond.instanceMethod yX3_storeAt, Cond.selects RX3 yX3_storeAt yX3_storeAt, Cond.initialized RX3, Cond.code yX3_storeAt cX3_storeAt 2 (some (.object "RevisionStores$Store")), Cond.classLink RX3 180 "java/lang/IndexOutOfBoundsException", Cond.initialized "java/lang/IndexOutOfBoundsException", Cond.fieldLink RX3 18 "RevisionStores" "stores" "[LRevisionStores$Store;", Cond.methodLink RX3 34 yX3_checkDocument, Cond.instanceMethod yX3_checkDocument, Cond.selects RX3 yX3_checkDocument yX3_checkDocument, Cond.code yX3_checkDocument cX3_checkDocument 2 none, Cond.methodLink RX3 38 yX3_checkRevision, Cond.instanceMethod yX3_checkRevision, Cond.selects RX3 yX3_checkRevision yX3_checkRevision, Cond.code yX3_checkRevision cX3_checkRevision 2 none, Cond.methodLink RX3 52 yX3_checkLeaf, Cond.instanceMethod yX3_checkLeaf, Cond.selects RX3 yX3_checkLeaf yX3_checkLeaf, Cond.code yX3_checkLeaf cX3_checkLeaf 4 none, Cond.methodLink RX3 148 yX0_endsAt]
def wsX3_delete_r2 : List Cond := [Cond.instanceMethod yX0_endsAt, Cond.selects RX0 yX0_endsAt yX0_endsAt, Cond.initialized RX0, Cond.code yX0_endsAt cX0_endsAt 2 (some .boolean), Cond.fieldLink RX0 9 "RevisionStores$Holding" "held" "[Z", Cond.methodLink RX0 64 yX0_hasDescendantOf, Cond.instanceMethod yX0_hasDescendantOf, Cond.selects RX0 yX0_hasDescendantOf yX0_hasDescendantOf, Cond.code yX0_hasDescendantOf cX0_hasDescendantOf 2 (some .boolean), Cond.fieldLink RX0 15 "RevisionStores$Holding" "nearestLeaf" "[I", Cond.methodLink RX3 56 yX3_checkRoom, Cond.instanceMethod yX3_checkRoom, Cond.selects RX3 yX3_checkRoom yX3_checkRoom, Cond.code yX3_checkRoom cX3_checkRoom 1 none, Cond.methodLink RX3 59 yX3_grow, Cond.instanceMethod yX3_grow, Cond.selects RX3 yX3_grow yX3_grow, Cond.code yX3_grow cX3_grow 7 (some .int), Cond.methodLink RX3 199 yX2_find, Cond.instanceMethod yX2_find, Cond.selects RX2 yX2_find yX2_find, Cond.initialized RX2, Cond.code yX2_find cX2_find 6 (some .int), Cond.fieldLink RX2 31 "RevisionStores$Tree" "made" "I"]
def wsX3_delete_r3 : List Cond := [Cond.fieldLink RX2 9 "RevisionStores$Tree" "documents" "[I", Cond.fieldLink RX2 15 "RevisionStores$Tree" "parents" "[I", Cond.fieldLink RX2 18 "RevisionStores$Tree" "values" "[I", Cond.fieldLink RX2 21 "RevisionStores$Tree" "deletions" "[Z", Cond.methodLink RX3 203 yX2_make, Cond.instanceMethod yX2_make, Cond.selects RX2 yX2_make yX2_make, Cond.code yX2_make cX2_make 8 (some .int), Cond.fieldLink RX2 25 "RevisionStores$Tree" "generations" "[I", Cond.fieldLink RX2 28 "RevisionStores$Tree" "sums" "[I", Cond.methodLink RX3 206 yX1_append, Cond.instanceMethod yX1_append, Cond.selects RX1 yX1_append yX1_append, Cond.initialized RX1, Cond.code yX1_append cX1_append 3 none, Cond.fieldLink RX1 12 "RevisionStores$Store" "holding" "LRevisionStores$Holding;", Cond.methodLink RX1 41 yX1_noteChange, Cond.instanceMethod yX1_noteChange, Cond.selects RX1 yX1_noteChange yX1_noteChange, Cond.code yX1_noteChange cX1_noteChange 3 none, Cond.fieldLink RX1 22 "RevisionStores$Store" "latest" "I", Cond.fieldLink RX1 25 "RevisionStores$Store" "changes" "[I", Cond.fieldLink RX1 18 "RevisionStores$Store" "depth" "I", Cond.methodLink RX1 49 yX0_survey]
def wsX3_delete_r4 : List Cond := [Cond.instanceMethod yX0_survey, Cond.selects RX0 yX0_survey yX0_survey, Cond.code yX0_survey cX0_survey 2 none, Cond.methodLink RX0 28 yX0_findLeaves, Cond.instanceMethod yX0_findLeaves, Cond.selects RX0 yX0_findLeaves yX0_findLeaves, Cond.code yX0_findLeaves cX0_findLeaves 5 none, Cond.methodLink RX0 51 Lib.Math.min.name, Cond.static Lib.Math.min.name, Cond.initialized "java/lang/Math", Cond.code Lib.Math.min.name Lib.Math.min.code 2 (some .int), Cond.methodLink RX0 22 yJ7_fill_53178, Cond.static yJ7_fill_53178, Cond.initialized RJ7, Cond.code yJ7_fill_53178 cJ7_fill_53178 4 none, Cond.methodLink RX0 44 yX0_endsAt, Cond.methodLink RX0 32 yX0_findWinners, Cond.instanceMethod yX0_findWinners, Cond.selects RX0 yX0_findWinners yX0_findWinners, Cond.code yX0_findWinners cX0_findWinners 5 none, Cond.fieldLink RX0 19 "RevisionStores$Holding" "winners" "[I", Cond.methodLink RX0 60 yX2_isBetter, Cond.instanceMethod yX2_isBetter, Cond.selects RX2 yX2_isBetter yX2_isBetter]
def wsX3_delete_r5 : List Cond := [Cond.code yX2_isBetter cX2_isBetter 3 (some .boolean), Cond.methodLink RX1 53 yX0_stem, Cond.instanceMethod yX0_stem, Cond.selects RX0 yX0_stem yX0_stem, Cond.code yX0_stem cX0_stem 5 (some .int)]
def wsX3_delete : List Cond := .code yX3_delete cX3_delete 5 (some .int) :: ((wsX3_delete_r1 ++ (wsX3_delete_r2 ++ (wsX3_delete_r3 ++ (wsX3_delete_r4 ++ wsX3_delete_r5)))) ++ wsX30 ++ wsX20 ++ wsX10 ++ wsX00 ++ (vx_atS RX3 71 "java/lang/IllegalStateException" ["java/lang/RuntimeException", "java/lang/Exception"]).filter goodWord ++ (vx_atS RX3 184 "java/lang/IndexOutOfBoundsException" ["java/lang/RuntimeException", "java/lang/Exception"]).filter goodWord)
def wsX3_setDepth : List Cond := .code yX3_setDepth cX3_setDepth 4 (some .int) :: ([.classLink RX3 41 "java/lang/IllegalArgumentException", .initialized "java/lang/IllegalArgumentException", .fieldLink RX3 10 "RevisionStores" "tree" "LRevisionStores$Tree;", .methodLink RX3 30 yX3_storeAt, .instanceMethod yX3_storeAt, .selects RX3 yX3_storeAt yX3_storeAt, .initialized RX3, .code yX3_storeAt cX3_storeAt 2 (some (.object "RevisionStores$Store")), .classLink RX3 180 "java/lang/IndexOutOfBoundsException", .initialized "java/lang/IndexOutOfBoundsException", .fieldLink RX3 18 "RevisionStores" "stores" "[LRevisionStores$Store;", .methodLink RX3 81 yX0_stem, .instanceMethod yX0_stem, .selects RX0 yX0_stem yX0_stem, .initialized RX0, .code yX0_stem cX0_stem 5 (some .int), .fieldLink RX0 9 "RevisionStores$Holding" "held" "[Z", .fieldLink RX0 15 "RevisionStores$Holding" "nearestLeaf" "[I", .methodLink RX0 64 yX0_hasDescendantOf, .instanceMethod yX0_hasDescendantOf, .selects RX0 yX0_hasDescendantOf yX0_hasDescendantOf, .code yX0_hasDescendantOf cX0_hasDescendantOf 2 (some .boolean)] ++ wsX10 ++ wsX30 ++ wsX20 ++ wsX00 ++ (vx_atS RX3 45 "java/lang/IllegalArgumentException" ["java/lang/RuntimeException", "java/lang/Exception"]).filter goodWord ++ (vx_atS RX3 184 "java/lang/IndexOutOfBoundsException" ["java/lang/RuntimeException", "java/lang/Exception"]).filter goodWord)
def wsX3_wipe_r1 : List Cond := [Cond.fieldLink RX3 10 "RevisionStores" "tree" "LRevisionStores$Tree;", Cond.methodLink RX3 30 yX3_storeAt, Cond.instanceMethod yX3_storeAt, Cond.selects RX3 yX3_storeAt yX3_storeAt, Cond.initialized RX3, Cond.code yX3_storeAt cX3_storeAt 2 (some (.object "RevisionStores$Store")), Cond.classLink RX3 180 "java/lang/IndexOutOfBoundsException", Cond.initialized "java/lang/IndexOutOfBoundsException", Cond.fieldLink RX3 18 "RevisionStores" "stores" "[LRevisionStores$Store;", Cond.methodLink RX3 85 yX0_countAll, Cond.instanceMethod yX0_countAll, Cond.selects RX0 yX0_countAll yX0_countAll, Cond.initialized RX0, Cond.code yX0_countAll cX0_countAll 4 (some .int), Cond.fieldLink RX0 9 "RevisionStores$Holding" "held" "[Z", Cond.methodLink RX3 89 yX1_clear, Cond.instanceMethod yX1_clear, Cond.selects RX1 yX1_clear yX1_clear, Cond.initialized RX1, Cond.code yX1_clear cX1_clear 2 none, Cond.fieldLink RX1 12 "RevisionStores$Store" "holding" "LRevisionStores$Holding;", Cond.fieldLink RX1 22 "RevisionStores$Store" "latest" "I", Cond.fieldLink RX1 25 "RevisionStores$Store" "changes" "[I", Cond.fieldLink RX1 29 "RevisionStores$Store" "checkpoints" "[I"]
def wsX3_wipe_r2 : List Cond := [Cond.methodLink RX1 57 yX0_removeAll, Cond.instanceMethod yX0_removeAll, Cond.selects RX0 yX0_removeAll yX0_removeAll, Cond.code yX0_removeAll cX0_removeAll 2 none, Cond.methodLink RX1 49 yX0_survey, Cond.instanceMethod yX0_survey, Cond.selects RX0 yX0_survey yX0_survey, Cond.code yX0_survey cX0_survey 2 none, Cond.methodLink RX0 28 yX0_findLeaves, Cond.instanceMethod yX0_findLeaves, Cond.selects RX0 yX0_findLeaves yX0_findLeaves, Cond.code yX0_findLeaves cX0_findLeaves 5 none, Cond.fieldLink RX0 15 "RevisionStores$Holding" "nearestLeaf" "[I", Cond.methodLink RX0 51 Lib.Math.min.name, Cond.static Lib.Math.min.name, Cond.initialized "java/lang/Math", Cond.code Lib.Math.min.name Lib.Math.min.code 2 (some .int), Cond.methodLink RX0 22 yJ7_fill_53178, Cond.static yJ7_fill_53178, Cond.initialized RJ7, Cond.code yJ7_fill_53178 cJ7_fill_53178 4 none, Cond.methodLink RX0 44 yX0_endsAt, Cond.instanceMethod yX0_endsAt, Cond.selects RX0 yX0_endsAt yX0_endsAt]
def wsX3_wipe_r3 : List Cond := [Cond.code yX0_endsAt cX0_endsAt 2 (some .boolean), Cond.methodLink RX0 64 yX0_hasDescendantOf, Cond.instanceMethod yX0_hasDescendantOf, Cond.selects RX0 yX0_hasDescendantOf yX0_hasDescendantOf, Cond.code yX0_hasDescendantOf cX0_hasDescendantOf 2 (some .boolean), Cond.methodLink RX0 32 yX0_findWinners, Cond.instanceMethod yX0_findWinners, Cond.selects RX0 yX0_findWinners yX0_findWinners, Cond.code yX0_findWinners cX0_findWinners 5 none, Cond.fieldLink RX0 19 "RevisionStores$Holding" "winners" "[I", Cond.methodLink RX0 60 yX2_isBetter, Cond.instanceMethod yX2_isBetter, Cond.selects RX2 yX2_isBetter yX2_isBetter, Cond.initialized RX2, Cond.code yX2_isBetter cX2_isBetter 3 (some .boolean), Cond.fieldLink RX2 21 "RevisionStores$Tree" "deletions" "[Z", Cond.fieldLink RX2 25 "RevisionStores$Tree" "generations" "[I", Cond.fieldLink RX2 28 "RevisionStores$Tree" "sums" "[I", Cond.methodLink RX1 60 yJ7_fill_53178]
def wsX3_wipe : List Cond := .code yX3_wipe cX3_wipe 4 (some .int) :: ((wsX3_wipe_r1 ++ (wsX3_wipe_r2 ++ wsX3_wipe_r3)) ++ wsX10 ++ wsX30 ++ wsX20 ++ wsX00 ++ (vx_atS RX3 184 "java/lang/IndexOutOfBoundsException" ["java/lang/RuntimeException", "java/lang/Exception"]).filter goodWord)
def wsX3_checkDifferent : List Cond := .code yX3_checkDifferent cX3_checkDifferent 3 none :: ([.classLink RX3 41 "java/lang/IllegalArgumentException", .initialized "java/lang/IllegalArgumentException"] ++ (vx_atS RX3 45 "java/lang/IllegalArgumentException" ["java/lang/RuntimeException", "java/lang/Exception"]).filter goodWord)
def wsX3_pairOf : List Cond := .code yX3_pairOf cX3_pairOf 2 (some .int) :: ([])
def wsX3_commonCheckpoint : List Cond := .code yX3_commonCheckpoint cX3_commonCheckpoint 4 (some .int) :: ([.fieldLink RX3 18 "RevisionStores" "stores" "[LRevisionStores$Store;", .methodLink RX3 210 Lib.Math.min.name, .static Lib.Math.min.name, .initialized "java/lang/Math", .code Lib.Math.min.name Lib.Math.min.code 2 (some .int), .methodLink RX3 121 yX3_pairOf, .static yX3_pairOf, .initialized RX3, .code yX3_pairOf cX3_pairOf 2 (some .int)] ++ wsX30 ++ wsX10)
def wsX3_replicate_r1 : List Cond := [Cond.classLink RX3 41 "java/lang/IllegalArgumentException", Cond.initialized "java/lang/IllegalArgumentException", Cond.fieldLink RX3 10 "RevisionStores" "tree" "LRevisionStores$Tree;", Cond.methodLink RX3 30 yX3_storeAt, Cond.instanceMethod yX3_storeAt, Cond.selects RX3 yX3_storeAt yX3_storeAt, Cond.initialized RX3, Cond.code yX3_storeAt cX3_storeAt 2 (some (.object "RevisionStores$Store")), Cond.classLink RX3 180 "java/lang/IndexOutOfBoundsException", Cond.initialized "java/lang/IndexOutOfBoundsException", Cond.fieldLink RX3 18 "RevisionStores" "stores" "[LRevisionStores$Store;", Cond.methodLink RX3 95 yX3_checkDifferent, Cond.instanceMethod yX3_checkDifferent, Cond.selects RX3 yX3_checkDifferent yX3_checkDifferent, Cond.code yX3_checkDifferent cX3_checkDifferent 3 none, Cond.methodLink RX3 99 yX3_commonCheckpoint, Cond.instanceMethod yX3_commonCheckpoint, Cond.selects RX3 yX3_commonCheckpoint yX3_commonCheckpoint, Cond.code yX3_commonCheckpoint cX3_commonCheckpoint 4 (some .int), Cond.methodLink RX3 210 Lib.Math.min.name, Cond.static Lib.Math.min.name, Cond.initialized "java/lang/Math", Cond.code Lib.Math.min.name Lib.Math.min.code 2 (some .int), Cond.methodLink RX3 121 yX3_pairOf]
def wsX3_replicate_r2 : List Cond := [Cond.static yX3_pairOf, Cond.code yX3_pairOf cX3_pairOf 2 (some .int), Cond.methodLink RX3 103 yX1_nextChanged, Cond.instanceMethod yX1_nextChanged, Cond.selects RX1 yX1_nextChanged yX1_nextChanged, Cond.initialized RX1, Cond.code yX1_nextChanged cX1_nextChanged 4 (some .int), Cond.fieldLink RX1 25 "RevisionStores$Store" "changes" "[I", Cond.methodLink RX3 107 yX1_receive, Cond.instanceMethod yX1_receive, Cond.selects RX1 yX1_receive yX1_receive, Cond.code yX1_receive cX1_receive 5 (some .int), Cond.fieldLink RX1 12 "RevisionStores$Store" "holding" "LRevisionStores$Holding;", Cond.methodLink RX1 45 yX0_addBranches, Cond.instanceMethod yX0_addBranches, Cond.selects RX0 yX0_addBranches yX0_addBranches, Cond.initialized RX0, Cond.code yX0_addBranches cX0_addBranches 6 (some .int), Cond.fieldLink RX0 9 "RevisionStores$Holding" "held" "[Z", Cond.methodLink RX0 44 yX0_endsAt, Cond.instanceMethod yX0_endsAt, Cond.selects RX0 yX0_endsAt yX0_endsAt, Cond.code yX0_endsAt cX0_endsAt 2 (some .boolean), Cond.methodLink RX0 64 yX0_hasDescendantOf]
def wsX3_replicate_r3 : List Cond := [Cond.instanceMethod yX0_hasDescendantOf, Cond.selects RX0 yX0_hasDescendantOf yX0_hasDescendantOf, Cond.code yX0_hasDescendantOf cX0_hasDescendantOf 2 (some .boolean), Cond.fieldLink RX0 15 "RevisionStores$Holding" "nearestLeaf" "[I", Cond.methodLink RX0 67 yX0_addLine, Cond.instanceMethod yX0_addLine, Cond.selects RX0 yX0_addLine yX0_addLine, Cond.code yX0_addLine cX0_addLine 7 (some .int), Cond.methodLink RX1 41 yX1_noteChange, Cond.instanceMethod yX1_noteChange, Cond.selects RX1 yX1_noteChange yX1_noteChange, Cond.code yX1_noteChange cX1_noteChange 3 none, Cond.fieldLink RX1 22 "RevisionStores$Store" "latest" "I", Cond.fieldLink RX1 18 "RevisionStores$Store" "depth" "I", Cond.methodLink RX1 49 yX0_survey, Cond.instanceMethod yX0_survey, Cond.selects RX0 yX0_survey yX0_survey, Cond.code yX0_survey cX0_survey 2 none, Cond.methodLink RX0 28 yX0_findLeaves, Cond.instanceMethod yX0_findLeaves, Cond.selects RX0 yX0_findLeaves yX0_findLeaves, Cond.code yX0_findLeaves cX0_findLeaves 5 none, Cond.methodLink RX0 51 Lib.Math.min.name, Cond.methodLink RX0 22 yJ7_fill_53178]
def wsX3_replicate_r4 : List Cond := [Cond.static yJ7_fill_53178, Cond.initialized RJ7, Cond.code yJ7_fill_53178 cJ7_fill_53178 4 none, Cond.methodLink RX0 32 yX0_findWinners, Cond.instanceMethod yX0_findWinners, Cond.selects RX0 yX0_findWinners yX0_findWinners, Cond.code yX0_findWinners cX0_findWinners 5 none, Cond.fieldLink RX0 19 "RevisionStores$Holding" "winners" "[I", Cond.methodLink RX0 60 yX2_isBetter, Cond.instanceMethod yX2_isBetter, Cond.selects RX2 yX2_isBetter yX2_isBetter, Cond.initialized RX2, Cond.code yX2_isBetter cX2_isBetter 3 (some .boolean), Cond.fieldLink RX2 21 "RevisionStores$Tree" "deletions" "[Z", Cond.fieldLink RX2 25 "RevisionStores$Tree" "generations" "[I", Cond.fieldLink RX2 28 "RevisionStores$Tree" "sums" "[I", Cond.methodLink RX1 53 yX0_stem, Cond.instanceMethod yX0_stem, Cond.selects RX0 yX0_stem yX0_stem, Cond.code yX0_stem cX0_stem 5 (some .int)]
def wsX3_replicate : List Cond := .code yX3_replicate cX3_replicate 10 (some .int) :: ((wsX3_replicate_r1 ++ (wsX3_replicate_r2 ++ (wsX3_replicate_r3 ++ wsX3_replicate_r4))) ++ wsX30 ++ wsX10 ++ wsX20 ++ wsX00 ++ (vx_atS RX3 45 "java/lang/IllegalArgumentException" ["java/lang/RuntimeException", "java/lang/Exception"]).filter goodWord ++ (vx_atS RX3 184 "java/lang/IndexOutOfBoundsException" ["java/lang/RuntimeException", "java/lang/Exception"]).filter goodWord)
def wsX3_pending_r1 : List Cond := [Cond.methodLink RX3 30 yX3_storeAt, Cond.instanceMethod yX3_storeAt, Cond.selects RX3 yX3_storeAt yX3_storeAt, Cond.initialized RX3, Cond.code yX3_storeAt cX3_storeAt 2 (some (.object "RevisionStores$Store")), Cond.classLink RX3 180 "java/lang/IndexOutOfBoundsException", Cond.initialized "java/lang/IndexOutOfBoundsException", Cond.fieldLink RX3 18 "RevisionStores" "stores" "[LRevisionStores$Store;", Cond.methodLink RX3 95 yX3_checkDifferent, Cond.instanceMethod yX3_checkDifferent, Cond.selects RX3 yX3_checkDifferent yX3_checkDifferent, Cond.code yX3_checkDifferent cX3_checkDifferent 3 none, Cond.classLink RX3 41 "java/lang/IllegalArgumentException", Cond.initialized "java/lang/IllegalArgumentException", Cond.methodLink RX3 99 yX3_commonCheckpoint, Cond.instanceMethod yX3_commonCheckpoint, Cond.selects RX3 yX3_commonCheckpoint yX3_commonCheckpoint, Cond.code yX3_commonCheckpoint cX3_commonCheckpoint 4 (some .int), Cond.methodLink RX3 210 Lib.Math.min.name, Cond.static Lib.Math.min.name, Cond.initialized "java/lang/Math", Cond.code Lib.Math.min.name Lib.Math.min.code 2 (some .int), Cond.methodLink RX3 121 yX3_pairOf, Cond.static yX3_pairOf]
def wsX3_pending_r2 : List Cond := [Cond.code yX3_pairOf cX3_pairOf 2 (some .int), Cond.methodLink RX3 124 yX1_countChanged, Cond.instanceMethod yX1_countChanged, Cond.selects RX1 yX1_countChanged yX1_countChanged, Cond.initialized RX1, Cond.code yX1_countChanged cX1_countChanged 4 (some .int), Cond.fieldLink RX1 25 "RevisionStores$Store" "changes" "[I"]
def wsX3_pending : List Cond := .code yX3_pending cX3_pending 4 (some .int) :: ((wsX3_pending_r1 ++ wsX3_pending_r2) ++ wsX30 ++ wsX10 ++ (vx_atS RX3 184 "java/lang/IndexOutOfBoundsException" ["java/lang/RuntimeException", "java/lang/Exception"]).filter goodWord ++ (vx_atS RX3 45 "java/lang/IllegalArgumentException" ["java/lang/RuntimeException", "java/lang/Exception"]).filter goodWord)
def wsX3_checkpoint_r1 : List Cond := [Cond.methodLink RX3 30 yX3_storeAt, Cond.instanceMethod yX3_storeAt, Cond.selects RX3 yX3_storeAt yX3_storeAt, Cond.initialized RX3, Cond.code yX3_storeAt cX3_storeAt 2 (some (.object "RevisionStores$Store")), Cond.classLink RX3 180 "java/lang/IndexOutOfBoundsException", Cond.initialized "java/lang/IndexOutOfBoundsException", Cond.fieldLink RX3 18 "RevisionStores" "stores" "[LRevisionStores$Store;", Cond.methodLink RX3 95 yX3_checkDifferent, Cond.instanceMethod yX3_checkDifferent, Cond.selects RX3 yX3_checkDifferent yX3_checkDifferent, Cond.code yX3_checkDifferent cX3_checkDifferent 3 none, Cond.classLink RX3 41 "java/lang/IllegalArgumentException", Cond.initialized "java/lang/IllegalArgumentException", Cond.methodLink RX3 99 yX3_commonCheckpoint, Cond.instanceMethod yX3_commonCheckpoint, Cond.selects RX3 yX3_commonCheckpoint yX3_commonCheckpoint, Cond.code yX3_commonCheckpoint cX3_commonCheckpoint 4 (some .int), Cond.methodLink RX3 210 Lib.Math.min.name, Cond.static Lib.Math.min.name, Cond.initialized "java/lang/Math", Cond.code Lib.Math.min.name Lib.Math.min.code 2 (some .int), Cond.methodLink RX3 121 yX3_pairOf, Cond.static yX3_pairOf]
def wsX3_checkpoint_r2 : List Cond := [Cond.code yX3_pairOf cX3_pairOf 2 (some .int)]
def wsX3_checkpoint : List Cond := .code yX3_checkpoint cX3_checkpoint 3 (some .int) :: ((wsX3_checkpoint_r1 ++ wsX3_checkpoint_r2) ++ wsX30 ++ wsX10 ++ (vx_atS RX3 184 "java/lang/IndexOutOfBoundsException" ["java/lang/RuntimeException", "java/lang/Exception"]).filter goodWord ++ (vx_atS RX3 45 "java/lang/IllegalArgumentException" ["java/lang/RuntimeException", "java/lang/Exception"]).filter goodWord)
def wsX3_revisions : List Cond := .code yX3_revisions cX3_revisions 1 (some .int) :: ([.fieldLink RX3 10 "RevisionStores" "tree" "LRevisionStores$Tree;"] ++ wsX30 ++ wsX20)
def wsX3_documentOf : List Cond := .code yX3_documentOf cX3_documentOf 2 (some .int) :: ([.fieldLink RX3 10 "RevisionStores" "tree" "LRevisionStores$Tree;", .methodLink RX3 38 yX3_checkRevision, .instanceMethod yX3_checkRevision, .selects RX3 yX3_checkRevision yX3_checkRevision, .initialized RX3, .code yX3_checkRevision cX3_checkRevision 2 none, .classLink RX3 180 "java/lang/IndexOutOfBoundsException", .initialized "java/lang/IndexOutOfBoundsException"] ++ wsX30 ++ wsX20 ++ (vx_atS RX3 184 "java/lang/IndexOutOfBoundsException" ["java/lang/RuntimeException", "java/lang/Exception"]).filter goodWord)
def wsX3_parentOf : List Cond := .code yX3_parentOf cX3_parentOf 2 (some .int) :: ([.fieldLink RX3 10 "RevisionStores" "tree" "LRevisionStores$Tree;", .methodLink RX3 38 yX3_checkRevision, .instanceMethod yX3_checkRevision, .selects RX3 yX3_checkRevision yX3_checkRevision, .initialized RX3, .code yX3_checkRevision cX3_checkRevision 2 none, .classLink RX3 180 "java/lang/IndexOutOfBoundsException", .initialized "java/lang/IndexOutOfBoundsException"] ++ wsX30 ++ wsX20 ++ (vx_atS RX3 184 "java/lang/IndexOutOfBoundsException" ["java/lang/RuntimeException", "java/lang/Exception"]).filter goodWord)
def wsX3_generation : List Cond := .code yX3_generation cX3_generation 2 (some .int) :: ([.fieldLink RX3 10 "RevisionStores" "tree" "LRevisionStores$Tree;", .methodLink RX3 38 yX3_checkRevision, .instanceMethod yX3_checkRevision, .selects RX3 yX3_checkRevision yX3_checkRevision, .initialized RX3, .code yX3_checkRevision cX3_checkRevision 2 none, .classLink RX3 180 "java/lang/IndexOutOfBoundsException", .initialized "java/lang/IndexOutOfBoundsException"] ++ wsX30 ++ wsX20 ++ (vx_atS RX3 184 "java/lang/IndexOutOfBoundsException" ["java/lang/RuntimeException", "java/lang/Exception"]).filter goodWord)
def wsX3_sum : List Cond := .code yX3_sum cX3_sum 2 (some .int) :: ([.fieldLink RX3 10 "RevisionStores" "tree" "LRevisionStores$Tree;", .methodLink RX3 38 yX3_checkRevision, .instanceMethod yX3_checkRevision, .selects RX3 yX3_checkRevision yX3_checkRevision, .initialized RX3, .code yX3_checkRevision cX3_checkRevision 2 none, .classLink RX3 180 "java/lang/IndexOutOfBoundsException", .initialized "java/lang/IndexOutOfBoundsException"] ++ wsX30 ++ wsX20 ++ (vx_atS RX3 184 "java/lang/IndexOutOfBoundsException" ["java/lang/RuntimeException", "java/lang/Exception"]).filter goodWord)
def wsX3_valueOf : List Cond := .code yX3_valueOf cX3_valueOf 2 (some .int) :: ([.fieldLink RX3 10 "RevisionStores" "tree" "LRevisionStores$Tree;", .methodLink RX3 38 yX3_checkRevision, .instanceMethod yX3_checkRevision, .selects RX3 yX3_checkRevision yX3_checkRevision, .initialized RX3, .code yX3_checkRevision cX3_checkRevision 2 none, .classLink RX3 180 "java/lang/IndexOutOfBoundsException", .initialized "java/lang/IndexOutOfBoundsException"] ++ wsX30 ++ wsX20 ++ (vx_atS RX3 184 "java/lang/IndexOutOfBoundsException" ["java/lang/RuntimeException", "java/lang/Exception"]).filter goodWord)
def wsX3_sequence : List Cond := .code yX3_sequence cX3_sequence 2 (some .int) :: ([.methodLink RX3 30 yX3_storeAt, .instanceMethod yX3_storeAt, .selects RX3 yX3_storeAt yX3_storeAt, .initialized RX3, .code yX3_storeAt cX3_storeAt 2 (some (.object "RevisionStores$Store")), .classLink RX3 180 "java/lang/IndexOutOfBoundsException", .initialized "java/lang/IndexOutOfBoundsException", .fieldLink RX3 18 "RevisionStores" "stores" "[LRevisionStores$Store;"] ++ wsX10 ++ wsX30 ++ (vx_atS RX3 184 "java/lang/IndexOutOfBoundsException" ["java/lang/RuntimeException", "java/lang/Exception"]).filter goodWord)
def wsX3_has : List Cond := .code yX3_has cX3_has 4 (some .boolean) :: ([.methodLink RX3 30 yX3_storeAt, .instanceMethod yX3_storeAt, .selects RX3 yX3_storeAt yX3_storeAt, .initialized RX3, .code yX3_storeAt cX3_storeAt 2 (some (.object "RevisionStores$Store")), .classLink RX3 180 "java/lang/IndexOutOfBoundsException", .initialized "java/lang/IndexOutOfBoundsException", .fieldLink RX3 18 "RevisionStores" "stores" "[LRevisionStores$Store;", .methodLink RX3 38 yX3_checkRevision, .instanceMethod yX3_checkRevision, .selects RX3 yX3_checkRevision yX3_checkRevision, .code yX3_checkRevision cX3_checkRevision 2 none, .fieldLink RX3 10 "RevisionStores" "tree" "LRevisionStores$Tree;"] ++ wsX10 ++ wsX00 ++ wsX30 ++ wsX20 ++ (vx_atS RX3 184 "java/lang/IndexOutOfBoundsException" ["java/lang/RuntimeException", "java/lang/Exception"]).filter goodWord)
def wsX3_isLeaf : List Cond := .code yX3_isLeaf cX3_isLeaf 4 (some .boolean) :: ([.methodLink RX3 30 yX3_storeAt, .instanceMethod yX3_storeAt, .selects RX3 yX3_storeAt yX3_storeAt, .initialized RX3, .code yX3_storeAt cX3_storeAt 2 (some (.object "RevisionStores$Store")), .classLink RX3 180 "java/lang/IndexOutOfBoundsException", .initialized "java/lang/IndexOutOfBoundsException", .fieldLink RX3 18 "RevisionStores" "stores" "[LRevisionStores$Store;", .methodLink RX3 38 yX3_checkRevision, .instanceMethod yX3_checkRevision, .selects RX3 yX3_checkRevision yX3_checkRevision, .code yX3_checkRevision cX3_checkRevision 2 none, .fieldLink RX3 10 "RevisionStores" "tree" "LRevisionStores$Tree;", .methodLink RX3 148 yX0_endsAt, .instanceMethod yX0_endsAt, .selects RX0 yX0_endsAt yX0_endsAt, .initialized RX0, .code yX0_endsAt cX0_endsAt 2 (some .boolean), .fieldLink RX0 9 "RevisionStores$Holding" "held" "[Z", .methodLink RX0 64 yX0_hasDescendantOf, .instanceMethod yX0_hasDescendantOf, .selects RX0 yX0_hasDescendantOf yX0_hasDescendantOf, .code yX0_hasDescendantOf cX0_hasDescendantOf 2 (some .boolean), .fieldLink RX0 15 "RevisionStores$Holding" "nearestLeaf" "[I"] ++ wsX10 ++ wsX30 ++ wsX20 ++ wsX00 ++ (vx_atS RX3 184 "java/lang/IndexOutOfBoundsException" ["java/lang/RuntimeException", "java/lang/Exception"]).filter goodWord)
def wsX3_size : List Cond := .code yX3_size cX3_size 2 (some .int) :: ([.fieldLink RX3 10 "RevisionStores" "tree" "LRevisionStores$Tree;", .methodLink RX3 30 yX3_storeAt, .instanceMethod yX3_storeAt, .selects RX3 yX3_storeAt yX3_storeAt, .initialized RX3, .code yX3_storeAt cX3_storeAt 2 (some (.object "RevisionStores$Store")), .classLink RX3 180 "java/lang/IndexOutOfBoundsException", .initialized "java/lang/IndexOutOfBoundsException", .fieldLink RX3 18 "RevisionStores" "stores" "[LRevisionStores$Store;", .methodLink RX3 85 yX0_countAll, .instanceMethod yX0_countAll, .selects RX0 yX0_countAll yX0_countAll, .initialized RX0, .code yX0_countAll cX0_countAll 4 (some .int), .fieldLink RX0 9 "RevisionStores$Holding" "held" "[Z"] ++ wsX10 ++ wsX30 ++ wsX20 ++ wsX00 ++ (vx_atS RX3 184 "java/lang/IndexOutOfBoundsException" ["java/lang/RuntimeException", "java/lang/Exception"]).filter goodWord)
def wsX3_winner : List Cond := .code yX3_winner cX3_winner 4 (some .int) :: ([.methodLink RX3 30 yX3_storeAt, .instanceMethod yX3_storeAt, .selects RX3 yX3_storeAt yX3_storeAt, .initialized RX3, .code yX3_storeAt cX3_storeAt 2 (some (.object "RevisionStores$Store")), .classLink RX3 180 "java/lang/IndexOutOfBoundsException", .initialized "java/lang/IndexOutOfBoundsException", .fieldLink RX3 18 "RevisionStores" "stores" "[LRevisionStores$Store;", .methodLink RX3 34 yX3_checkDocument, .instanceMethod yX3_checkDocument, .selects RX3 yX3_checkDocument yX3_checkDocument, .code yX3_checkDocument cX3_checkDocument 2 none] ++ wsX10 ++ wsX00 ++ wsX30 ++ (vx_atS RX3 184 "java/lang/IndexOutOfBoundsException" ["java/lang/RuntimeException", "java/lang/Exception"]).filter goodWord)
def wsX3_winnerOfAll_r1 : List Cond := [Cond.fieldLink RX3 25 "RevisionStores" "union" "LRevisionStores$Holding;", Cond.fieldLink RX3 10 "RevisionStores" "tree" "LRevisionStores$Tree;", Cond.fieldLink RX3 18 "RevisionStores" "stores" "[LRevisionStores$Store;", Cond.methodLink RX3 34 yX3_checkDocument, Cond.instanceMethod yX3_checkDocument, Cond.selects RX3 yX3_checkDocument yX3_checkDocument, Cond.initialized RX3, Cond.code yX3_checkDocument cX3_checkDocument 2 none, Cond.classLink RX3 180 "java/lang/IndexOutOfBoundsException", Cond.initialized "java/lang/IndexOutOfBoundsException", Cond.methodLink RX3 155 yX0_removeAll, Cond.instanceMethod yX0_removeAll, Cond.selects RX0 yX0_removeAll yX0_removeAll, Cond.initialized RX0, Cond.code yX0_removeAll cX0_removeAll 2 none, Cond.fieldLink RX0 9 "RevisionStores$Holding" "held" "[Z", Cond.methodLink RX3 158 yX0_addAll, Cond.instanceMethod yX0_addAll, Cond.selects RX0 yX0_addAll yX0_addAll, Cond.code yX0_addAll cX0_addAll 4 none, Cond.methodLink RX3 162 yX0_survey, Cond.instanceMethod yX0_survey, Cond.selects RX0 yX0_survey yX0_survey, Cond.code yX0_survey cX0_survey 2 none]
def wsX3_winnerOfAll_r2 : List Cond := [Cond.methodLink RX0 28 yX0_findLeaves, Cond.instanceMethod yX0_findLeaves, Cond.selects RX0 yX0_findLeaves yX0_findLeaves, Cond.code yX0_findLeaves cX0_findLeaves 5 none, Cond.fieldLink RX0 15 "RevisionStores$Holding" "nearestLeaf" "[I", Cond.methodLink RX0 51 Lib.Math.min.name, Cond.static Lib.Math.min.name, Cond.initialized "java/lang/Math", Cond.code Lib.Math.min.name Lib.Math.min.code 2 (some .int), Cond.methodLink RX0 22 yJ7_fill_53178, Cond.static yJ7_fill_53178, Cond.initialized RJ7, Cond.code yJ7_fill_53178 cJ7_fill_53178 4 none, Cond.methodLink RX0 44 yX0_endsAt, Cond.instanceMethod yX0_endsAt, Cond.selects RX0 yX0_endsAt yX0_endsAt, Cond.code yX0_endsAt cX0_endsAt 2 (some .boolean), Cond.methodLink RX0 64 yX0_hasDescendantOf, Cond.instanceMethod yX0_hasDescendantOf, Cond.selects RX0 yX0_hasDescendantOf yX0_hasDescendantOf, Cond.code yX0_hasDescendantOf cX0_hasDescendantOf 2 (some .boolean), Cond.methodLink RX0 32 yX0_findWinners, Cond.instanceMethod yX0_findWinners, Cond.selects RX0 yX0_findWinners yX0_findWinners]
def wsX3_winnerOfAll_r3 : List Cond := [Cond.code yX0_findWinners cX0_findWinners 5 none, Cond.fieldLink RX0 19 "RevisionStores$Holding" "winners" "[I", Cond.methodLink RX0 60 yX2_isBetter, Cond.instanceMethod yX2_isBetter, Cond.selects RX2 yX2_isBetter yX2_isBetter, Cond.initialized RX2, Cond.code yX2_isBetter cX2_isBetter 3 (some .boolean), Cond.fieldLink RX2 21 "RevisionStores$Tree" "deletions" "[Z", Cond.fieldLink RX2 25 "RevisionStores$Tree" "generations" "[I", Cond.fieldLink RX2 28 "RevisionStores$Tree" "sums" "[I"]
def wsX3_winnerOfAll : List Cond := .code yX3_winnerOfAll cX3_winnerOfAll 3 (some .int) :: ((wsX3_winnerOfAll_r1 ++ (wsX3_winnerOfAll_r2 ++ wsX3_winnerOfAll_r3)) ++ wsX30 ++ wsX10 ++ wsX00 ++ wsX20 ++ (vx_atS RX3 184 "java/lang/IndexOutOfBoundsException" ["java/lang/RuntimeException", "java/lang/Exception"]).filter goodWord)
def wsX3_conflicts_r1 : List Cond := [Cond.fieldLink RX3 10 "RevisionStores" "tree" "LRevisionStores$Tree;", Cond.methodLink RX3 168 Lib.Math.max.name, Cond.static Lib.Math.max.name, Cond.initialized "java/lang/Math", Cond.code Lib.Math.max.name Lib.Math.max.code 2 (some .int), Cond.methodLink RX3 30 yX3_storeAt, Cond.instanceMethod yX3_storeAt, Cond.selects RX3 yX3_storeAt yX3_storeAt, Cond.initialized RX3, Cond.code yX3_storeAt cX3_storeAt 2 (some (.object "RevisionStores$Store")), Cond.classLink RX3 180 "java/lang/IndexOutOfBoundsException", Cond.initialized "java/lang/IndexOutOfBoundsException", Cond.fieldLink RX3 18 "RevisionStores" "stores" "[LRevisionStores$Store;", Cond.methodLink RX3 34 yX3_checkDocument, Cond.instanceMethod yX3_checkDocument, Cond.selects RX3 yX3_checkDocument yX3_checkDocument, Cond.code yX3_checkDocument cX3_checkDocument 2 none, Cond.methodLink RX3 165 yX0_countLiveLeaves, Cond.instanceMethod yX0_countLiveLeaves, Cond.selects RX0 yX0_countLiveLeaves yX0_countLiveLeaves, Cond.initialized RX0, Cond.code yX0_countLiveLeaves cX0_countLiveLeaves 5 (some .int), Cond.methodLink RX0 44 yX0_endsAt, Cond.instanceMethod yX0_endsAt]
def wsX3_conflicts_r2 : List Cond := [Cond.selects RX0 yX0_endsAt yX0_endsAt, Cond.code yX0_endsAt cX0_endsAt 2 (some .boolean), Cond.fieldLink RX0 9 "RevisionStores$Holding" "held" "[Z", Cond.methodLink RX0 64 yX0_hasDescendantOf, Cond.instanceMethod yX0_hasDescendantOf, Cond.selects RX0 yX0_hasDescendantOf yX0_hasDescendantOf, Cond.code yX0_hasDescendantOf cX0_hasDescendantOf 2 (some .boolean), Cond.fieldLink RX0 15 "RevisionStores$Holding" "nearestLeaf" "[I"]
def wsX3_conflicts : List Cond := .code yX3_conflicts cX3_conflicts 4 (some .int) :: ((wsX3_conflicts_r1 ++ wsX3_conflicts_r2) ++ wsX10 ++ wsX30 ++ wsX20 ++ wsX00 ++ (vx_atS RX3 184 "java/lang/IndexOutOfBoundsException" ["java/lang/RuntimeException", "java/lang/Exception"]).filter goodWord)
def wsX3_count : List Cond := .code yX3_count cX3_count 8 (some .int) :: ([.fieldLink RX3 10 "RevisionStores" "tree" "LRevisionStores$Tree;", .methodLink RX3 30 yX3_storeAt, .instanceMethod yX3_storeAt, .selects RX3 yX3_storeAt yX3_storeAt, .initialized RX3, .code yX3_storeAt cX3_storeAt 2 (some (.object "RevisionStores$Store")), .classLink RX3 180 "java/lang/IndexOutOfBoundsException", .initialized "java/lang/IndexOutOfBoundsException", .fieldLink RX3 18 "RevisionStores" "stores" "[LRevisionStores$Store;", .methodLink RX3 173 yX0_shownValue, .instanceMethod yX0_shownValue, .selects RX0 yX0_shownValue yX0_shownValue, .initialized RX0, .code yX0_shownValue cX0_shownValue 4 (some .int), .fieldLink RX0 19 "RevisionStores$Holding" "winners" "[I"] ++ wsX10 ++ wsX30 ++ wsX00 ++ wsX20 ++ (vx_atS RX3 184 "java/lang/IndexOutOfBoundsException" ["java/lang/RuntimeException", "java/lang/Exception"]).filter goodWord)
def wsX3_viewAt : List Cond := .code yX3_viewAt cX3_viewAt 6 (some .int) :: ([.classLink RX3 180 "java/lang/IndexOutOfBoundsException", .initialized "java/lang/IndexOutOfBoundsException", .fieldLink RX3 10 "RevisionStores" "tree" "LRevisionStores$Tree;", .methodLink RX3 30 yX3_storeAt, .instanceMethod yX3_storeAt, .selects RX3 yX3_storeAt yX3_storeAt, .initialized RX3, .code yX3_storeAt cX3_storeAt 2 (some (.object "RevisionStores$Store")), .fieldLink RX3 18 "RevisionStores" "stores" "[LRevisionStores$Store;", .methodLink RX3 173 yX0_shownValue, .instanceMethod yX0_shownValue, .selects RX0 yX0_shownValue yX0_shownValue, .initialized RX0, .code yX0_shownValue cX0_shownValue 4 (some .int), .fieldLink RX0 19 "RevisionStores$Holding" "winners" "[I", .methodLink RX3 176 yX0_countShownBefore, .instanceMethod yX0_countShownBefore, .selects RX0 yX0_countShownBefore yX0_countShownBefore, .code yX0_countShownBefore cX0_countShownBefore 7 (some .int), .methodLink RX0 77 yX0_shownValue] ++ wsX10 ++ wsX30 ++ wsX00 ++ wsX20 ++ (vx_atS RX3 184 "java/lang/IndexOutOfBoundsException" ["java/lang/RuntimeException", "java/lang/Exception"]).filter goodWord)
def wsJ9_max_7cf53 : List Cond := .code yJ9_max_7cf53 cJ9_max_7cf53 2 (some .int) :: ([])
def wsJ9_min_7cf53 : List Cond := .code yJ9_min_7cf53 cJ9_min_7cf53 2 (some .int) :: ([])
def wsL_from : List Cond := .code yL_from cL_from 4 (some .int) :: ([.constant RL 7 (130027), .constant RL 8 (2147483647)])
def wsL_leaves : List Cond := .code yL_leaves cL_leaves 9 (some .int) :: ([])
def wsL_rank : List Cond := .code yL_rank cL_rank 4 (some .int) :: ([])
def wsL_winner : List Cond := .code yL_winner cL_winner 11 (some .int) :: ([.methodLink RL 9 yL_leaves, .static yL_leaves, .initialized RL, .code yL_leaves cL_leaves 9 (some .int), .methodLink RL 15 yL_rank, .static yL_rank, .code yL_rank cL_rank 4 (some .int)])
def wsL_ones : List Cond := .code yL_ones cL_ones 3 (some .int) :: ([])
def wsL_deep : List Cond := .code yL_deep cL_deep 13 (some .int) :: ([.methodLink RL 9 yL_leaves, .static yL_leaves, .initialized RL, .code yL_leaves cL_leaves 9 (some .int)])
def wsL_stem : List Cond := .code yL_stem cL_stem 7 (some .int) :: ([.methodLink RL 19 yL_deep, .static yL_deep, .initialized RL, .code yL_deep cL_deep 13 (some .int), .methodLink RL 9 yL_leaves, .static yL_leaves, .code yL_leaves cL_leaves 9 (some .int), .methodLink RL 23 yL_ones, .static yL_ones, .code yL_ones cL_ones 3 (some .int)])
def wsL_make : List Cond := .code yL_make cL_make 11 (some .int) :: ([])
def wsL_add : List Cond := .code yL_add cL_add 14 (some .int) :: ([.methodLink RL 27 yL_make, .static yL_make, .initialized RL, .code yL_make cL_make 11 (some .int), .methodLink RL 31 yL_stem, .static yL_stem, .code yL_stem cL_stem 7 (some .int), .methodLink RL 19 yL_deep, .static yL_deep, .code yL_deep cL_deep 13 (some .int), .methodLink RL 9 yL_leaves, .static yL_leaves, .code yL_leaves cL_leaves 9 (some .int), .methodLink RL 23 yL_ones, .static yL_ones, .code yL_ones cL_ones 3 (some .int)])
def wsL_start : List Cond := .code yL_start cL_start 5 (some .int) :: ([])
def wsL_got : List Cond := .code yL_got cL_got 14 (some .int) :: ([.methodLink RL 9 yL_leaves, .static yL_leaves, .initialized RL, .code yL_leaves cL_leaves 9 (some .int), .methodLink RL 31 yL_stem, .static yL_stem, .code yL_stem cL_stem 7 (some .int), .methodLink RL 19 yL_deep, .static yL_deep, .code yL_deep cL_deep 13 (some .int), .methodLink RL 23 yL_ones, .static yL_ones, .code yL_ones cL_ones 3 (some .int)])
def wsL_replicated : List Cond := .code yL_replicated cL_replicated 15 (some .int) :: ([.methodLink RL 35 yL_start, .static yL_start, .initialized RL, .code yL_start cL_start 5 (some .int), .methodLink RL 39 yL_got, .static yL_got, .code yL_got cL_got 14 (some .int), .methodLink RL 9 yL_leaves, .static yL_leaves, .code yL_leaves cL_leaves 9 (some .int), .methodLink RL 31 yL_stem, .static yL_stem, .code yL_stem cL_stem 7 (some .int), .methodLink RL 19 yL_deep, .static yL_deep, .code yL_deep cL_deep 13 (some .int), .methodLink RL 23 yL_ones, .static yL_ones, .code yL_ones cL_ones 3 (some .int)])
def wsL_areStores_r1 : List Cond := [Cond.methodLink RL 43 yX3_revisions, Cond.instanceMethod yX3_revisions, Cond.selects RX3 yX3_revisions yX3_revisions, Cond.initialized RX3, Cond.code yX3_revisions cX3_revisions 1 (some .int), Cond.fieldLink RX3 10 "RevisionStores" "tree" "LRevisionStores$Tree;", Cond.methodLink RL 49 yX3_sequence, Cond.instanceMethod yX3_sequence, Cond.selects RX3 yX3_sequence yX3_sequence, Cond.code yX3_sequence cX3_sequence 2 (some .int), Cond.methodLink RX3 30 yX3_storeAt, Cond.instanceMethod yX3_storeAt, Cond.selects RX3 yX3_storeAt yX3_storeAt, Cond.code yX3_storeAt cX3_storeAt 2 (some (.object "RevisionStores$Store")), Cond.classLink RX3 180 "java/lang/IndexOutOfBoundsException", Cond.initialized "java/lang/IndexOutOfBoundsException", Cond.fieldLink RX3 18 "RevisionStores" "stores" "[LRevisionStores$Store;", Cond.methodLink RL 52 yX3_size, Cond.instanceMethod yX3_size, Cond.selects RX3 yX3_size yX3_size, Cond.code yX3_size cX3_size 2 (some .int), Cond.methodLink RX3 85 yX0_countAll, Cond.instanceMethod yX0_countAll, Cond.selects RX0 yX0_countAll yX0_countAll]
def wsL_areStores_r2 : List Cond := [Cond.initialized RX0, Cond.code yX0_countAll cX0_countAll 4 (some .int), Cond.fieldLink RX0 9 "RevisionStores$Holding" "held" "[Z", Cond.methodLink RL 23 yL_ones, Cond.static yL_ones, Cond.initialized RL, Cond.code yL_ones cL_ones 3 (some .int), Cond.methodLink RL 9 yL_leaves, Cond.static yL_leaves, Cond.code yL_leaves cL_leaves 9 (some .int), Cond.methodLink RL 55 yL_winner, Cond.static yL_winner, Cond.code yL_winner cL_winner 11 (some .int), Cond.methodLink RL 15 yL_rank, Cond.static yL_rank, Cond.code yL_rank cL_rank 4 (some .int), Cond.methodLink RL 59 yX3_isLeaf, Cond.instanceMethod yX3_isLeaf, Cond.selects RX3 yX3_isLeaf yX3_isLeaf, Cond.code yX3_isLeaf cX3_isLeaf 4 (some .boolean), Cond.methodLink RX3 38 yX3_checkRevision, Cond.instanceMethod yX3_checkRevision, Cond.selects RX3 yX3_checkRevision yX3_checkRevision, Cond.code yX3_checkRevision cX3_checkRevision 2 none]
def wsL_areStores_r3 : List Cond := [Cond.methodLink RX3 148 yX0_endsAt, Cond.instanceMethod yX0_endsAt, Cond.selects RX0 yX0_endsAt yX0_endsAt, Cond.code yX0_endsAt cX0_endsAt 2 (some .boolean), Cond.methodLink RX0 64 yX0_hasDescendantOf, Cond.instanceMethod yX0_hasDescendantOf, Cond.selects RX0 yX0_hasDescendantOf yX0_hasDescendantOf, Cond.code yX0_hasDescendantOf cX0_hasDescendantOf 2 (some .boolean), Cond.fieldLink RX0 15 "RevisionStores$Holding" "nearestLeaf" "[I", Cond.methodLink RL 63 yX3_has, Cond.instanceMethod yX3_has, Cond.selects RX3 yX3_has yX3_has, Cond.code yX3_has cX3_has 4 (some .boolean), Cond.methodLink RL 66 yX3_winner, Cond.instanceMethod yX3_winner, Cond.selects RX3 yX3_winner yX3_winner, Cond.code yX3_winner cX3_winner 4 (some .int), Cond.methodLink RX3 34 yX3_checkDocument, Cond.instanceMethod yX3_checkDocument, Cond.selects RX3 yX3_checkDocument yX3_checkDocument, Cond.code yX3_checkDocument cX3_checkDocument 2 none, Cond.methodLink RL 69 yX3_conflicts, Cond.instanceMethod yX3_conflicts, Cond.selects RX3 yX3_conflicts yX3_conflicts]
def wsL_areStores_r4 : List Cond := [Cond.code yX3_conflicts cX3_conflicts 4 (some .int), Cond.methodLink RX3 168 Lib.Math.max.name, Cond.static Lib.Math.max.name, Cond.initialized "java/lang/Math", Cond.code Lib.Math.max.name Lib.Math.max.code 2 (some .int), Cond.methodLink RX3 165 yX0_countLiveLeaves, Cond.instanceMethod yX0_countLiveLeaves, Cond.selects RX0 yX0_countLiveLeaves yX0_countLiveLeaves, Cond.code yX0_countLiveLeaves cX0_countLiveLeaves 5 (some .int), Cond.methodLink RX0 44 yX0_endsAt, Cond.methodLink RL 72 yX3_count, Cond.instanceMethod yX3_count, Cond.selects RX3 yX3_count yX3_count, Cond.code yX3_count cX3_count 8 (some .int), Cond.methodLink RX3 173 yX0_shownValue, Cond.instanceMethod yX0_shownValue, Cond.selects RX0 yX0_shownValue yX0_shownValue, Cond.code yX0_shownValue cX0_shownValue 4 (some .int), Cond.fieldLink RX0 19 "RevisionStores$Holding" "winners" "[I", Cond.methodLink RL 76 yX3_winnerOfAll, Cond.instanceMethod yX3_winnerOfAll, Cond.selects RX3 yX3_winnerOfAll yX3_winnerOfAll, Cond.code yX3_winnerOfAll cX3_winnerOfAll 3 (some .int), Cond.fieldLink RX3 25 "RevisionStores" "union" "LRevisionStores$Holding;"]
def wsL_areStores_r5 : List Cond := [Cond.methodLink RX3 155 yX0_removeAll, Cond.instanceMethod yX0_removeAll, Cond.selects RX0 yX0_removeAll yX0_removeAll, Cond.code yX0_removeAll cX0_removeAll 2 none, Cond.methodLink RX3 158 yX0_addAll, Cond.instanceMethod yX0_addAll, Cond.selects RX0 yX0_addAll yX0_addAll, Cond.code yX0_addAll cX0_addAll 4 none, Cond.methodLink RX3 162 yX0_survey, Cond.instanceMethod yX0_survey, Cond.selects RX0 yX0_survey yX0_survey, Cond.code yX0_survey cX0_survey 2 none, Cond.methodLink RX0 28 yX0_findLeaves, Cond.instanceMethod yX0_findLeaves, Cond.selects RX0 yX0_findLeaves yX0_findLeaves, Cond.code yX0_findLeaves cX0_findLeaves 5 none, Cond.methodLink RX0 51 Lib.Math.min.name, Cond.static Lib.Math.min.name, Cond.code Lib.Math.min.name Lib.Math.min.code 2 (some .int), Cond.methodLink RX0 22 yJ7_fill_53178, Cond.static yJ7_fill_53178, Cond.initialized RJ7, Cond.code yJ7_fill_53178 cJ7_fill_53178 4 none, Cond.methodLink RX0 32 yX0_findWinners]
def wsL_areStores_r6 : List Cond := [Cond.instanceMethod yX0_findWinners, Cond.selects RX0 yX0_findWinners yX0_findWinners, Cond.code yX0_findWinners cX0_findWinners 5 none, Cond.methodLink RX0 60 yX2_isBetter, Cond.instanceMethod yX2_isBetter, Cond.selects RX2 yX2_isBetter yX2_isBetter, Cond.initialized RX2, Cond.code yX2_isBetter cX2_isBetter 3 (some .boolean), Cond.fieldLink RX2 21 "RevisionStores$Tree" "deletions" "[Z", Cond.fieldLink RX2 25 "RevisionStores$Tree" "generations" "[I", Cond.fieldLink RX2 28 "RevisionStores$Tree" "sums" "[I", Cond.methodLink RL 79 yX3_viewAt, Cond.instanceMethod yX3_viewAt, Cond.selects RX3 yX3_viewAt yX3_viewAt, Cond.code yX3_viewAt cX3_viewAt 6 (some .int), Cond.methodLink RX3 176 yX0_countShownBefore, Cond.instanceMethod yX0_countShownBefore, Cond.selects RX0 yX0_countShownBefore yX0_countShownBefore, Cond.code yX0_countShownBefore cX0_countShownBefore 7 (some .int), Cond.methodLink RX0 77 yX0_shownValue, Cond.methodLink RL 35 yL_start, Cond.static yL_start, Cond.code yL_start cL_start 5 (some .int), Cond.methodLink RL 82 yX3_checkpoint]
def wsL_areStores_r7 : List Cond := [Cond.instanceMethod yX3_checkpoint, Cond.selects RX3 yX3_checkpoint yX3_checkpoint, Cond.code yX3_checkpoint cX3_checkpoint 3 (some .int), Cond.methodLink RX3 95 yX3_checkDifferent, Cond.instanceMethod yX3_checkDifferent, Cond.selects RX3 yX3_checkDifferent yX3_checkDifferent, Cond.code yX3_checkDifferent cX3_checkDifferent 3 none, Cond.classLink RX3 41 "java/lang/IllegalArgumentException", Cond.initialized "java/lang/IllegalArgumentException", Cond.methodLink RX3 99 yX3_commonCheckpoint, Cond.instanceMethod yX3_commonCheckpoint, Cond.selects RX3 yX3_commonCheckpoint yX3_commonCheckpoint, Cond.code yX3_commonCheckpoint cX3_commonCheckpoint 4 (some .int), Cond.methodLink RX3 210 Lib.Math.min.name, Cond.methodLink RX3 121 yX3_pairOf, Cond.static yX3_pairOf, Cond.code yX3_pairOf cX3_pairOf 2 (some .int), Cond.methodLink RL 85 yX3_pending, Cond.instanceMethod yX3_pending, Cond.selects RX3 yX3_pending yX3_pending, Cond.code yX3_pending cX3_pending 4 (some .int), Cond.methodLink RX3 124 yX1_countChanged, Cond.instanceMethod yX1_countChanged, Cond.selects RX1 yX1_countChanged yX1_countChanged]
def wsL_areStores_r8 : List Cond := [Cond.initialized RX1, Cond.code yX1_countChanged cX1_countChanged 4 (some .int), Cond.fieldLink RX1 25 "RevisionStores$Store" "changes" "[I"]
def wsL_areStores : List Cond := .code yL_areStores cL_areStores 18 (some .boolean) :: ((wsL_areStores_r1 ++ (wsL_areStores_r2 ++ (wsL_areStores_r3 ++ (wsL_areStores_r4 ++ (wsL_areStores_r5 ++ (wsL_areStores_r6 ++ (wsL_areStores_r7 ++ wsL_areStores_r8))))))) ++ wsX30 ++ wsX20 ++ wsX10 ++ wsX00 ++ (vx_atS RX3 184 "java/lang/IndexOutOfBoundsException" ["java/lang/RuntimeException", "java/lang/Exception"]).filter goodWord ++ (vx_atS RX3 45 "java/lang/IllegalArgumentException" ["java/lang/RuntimeException", "java/lang/Exception"]).filter goodWord)
def wsL_areRevisions_r1 : List Cond := [Cond.methodLink RL 88 yX3_documentOf, Cond.instanceMethod yX3_documentOf, Cond.selects RX3 yX3_documentOf yX3_documentOf, Cond.initialized RX3, Cond.code yX3_documentOf cX3_documentOf 2 (some .int), Cond.fieldLink RX3 10 "RevisionStores" "tree" "LRevisionStores$Tree;", Cond.methodLink RX3 38 yX3_checkRevision, Cond.instanceMethod yX3_checkRevision, Cond.selects RX3 yX3_checkRevision yX3_checkRevision, Cond.code yX3_checkRevision cX3_checkRevision 2 none, Cond.classLink RX3 180 "java/lang/IndexOutOfBoundsException", Cond.initialized "java/lang/IndexOutOfBoundsException", Cond.methodLink RL 91 yX3_parentOf, Cond.instanceMethod yX3_parentOf, Cond.selects RX3 yX3_parentOf yX3_parentOf, Cond.code yX3_parentOf cX3_parentOf 2 (some .int), Cond.methodLink RL 94 yX3_generation, Cond.instanceMethod yX3_generation, Cond.selects RX3 yX3_generation yX3_generation, Cond.code yX3_generation cX3_generation 2 (some .int), Cond.methodLink RL 97 yX3_sum, Cond.instanceMethod yX3_sum, Cond.selects RX3 yX3_sum yX3_sum, Cond.code yX3_sum cX3_sum 2 (some .int)]
def wsL_areRevisions_r2 : List Cond := [Cond.methodLink RL 100 yX3_valueOf, Cond.instanceMethod yX3_valueOf, Cond.selects RX3 yX3_valueOf yX3_valueOf, Cond.code yX3_valueOf cX3_valueOf 2 (some .int)]
def wsL_areRevisions : List Cond := .code yL_areRevisions cL_areRevisions 9 (some .boolean) :: ((wsL_areRevisions_r1 ++ wsL_areRevisions_r2) ++ wsX30 ++ wsX20 ++ (vx_atS RX3 184 "java/lang/IndexOutOfBoundsException" ["java/lang/RuntimeException", "java/lang/Exception"]).filter goodWord)
def wsL_edited_r1 : List Cond := [Cond.classLink RL 107 "java/lang/IllegalStateException", Cond.methodLink RL 103 yX3_edit, Cond.instanceMethod yX3_edit, Cond.selects RX3 yX3_edit yX3_edit, Cond.initialized RX3, Cond.code yX3_edit cX3_edit 6 (some .int), Cond.classLink RX3 41 "java/lang/IllegalArgumentException", Cond.initialized "java/lang/IllegalArgumentException", Cond.methodLink RX3 30 yX3_storeAt, Cond.instanceMethod yX3_storeAt, Cond.selects RX3 yX3_storeAt yX3_storeAt, Cond.code yX3_storeAt cX3_storeAt 2 (some (.object "RevisionStores$Store")), Cond.classLink RX3 180 "java/lang/IndexOutOfBoundsException", Cond.initialized "java/lang/IndexOutOfBoundsException", Cond.fieldLink RX3 18 "RevisionStores" "stores" "[LRevisionStores$Store;", Cond.methodLink RX3 34 yX3_checkDocument, Cond.instanceMethod yX3_checkDocument, Cond.selects RX3 yX3_checkDocument yX3_checkDocument, Cond.code yX3_checkDocument cX3_checkDocument 2 none, Cond.methodLink RX3 38 yX3_checkRevision, Cond.instanceMethod yX3_checkRevision, Cond.selects RX3 yX3_checkRevision yX3_checkRevision, Cond.code yX3_checkRevision cX3_checkRevision 2 none, Cond.fieldLink RX3 10 "RevisionStores" "tree" "LRevisionStores$Tree;"]
def wsL_edited_r2 : List Cond := [Cond.methodLink RX3 48 yX3_checkNotBegun, Cond.instanceMethod yX3_checkNotBegun, Cond.selects RX3 yX3_checkNotBegun yX3_checkNotBegun, Cond.code yX3_checkNotBegun cX3_checkNotBegun 3 none, Cond.classLink RX3 67 "java/lang/IllegalStateException", Cond.initialized "java/lang/IllegalStateException", Cond.methodLink RX3 52 yX3_checkLeaf, Cond.instanceMethod yX3_checkLeaf, Cond.selects RX3 yX3_checkLeaf yX3_checkLeaf, Cond.code yX3_checkLeaf cX3_checkLeaf 4 none, Cond.methodLink RX3 148 yX0_endsAt, Cond.instanceMethod yX0_endsAt, Cond.selects RX0 yX0_endsAt yX0_endsAt, Cond.initialized RX0, Cond.code yX0_endsAt cX0_endsAt 2 (some .boolean), Cond.fieldLink RX0 9 "RevisionStores$Holding" "held" "[Z", Cond.methodLink RX0 64 yX0_hasDescendantOf, Cond.instanceMethod yX0_hasDescendantOf, Cond.selects RX0 yX0_hasDescendantOf yX0_hasDescendantOf, Cond.code yX0_hasDescendantOf cX0_hasDescendantOf 2 (some .boolean), Cond.fieldLink RX0 15 "RevisionStores$Holding" "nearestLeaf" "[I", Cond.methodLink RX3 56 yX3_checkRoom, Cond.instanceMethod yX3_checkRoom, Cond.selects RX3 yX3_checkRoom yX3_checkRoom]
def wsL_edited_r3 : List Cond := [Cond.code yX3_checkRoom cX3_checkRoom 1 none, Cond.methodLink RX3 59 yX3_grow, Cond.instanceMethod yX3_grow, Cond.selects RX3 yX3_grow yX3_grow, Cond.code yX3_grow cX3_grow 7 (some .int), Cond.methodLink RX3 199 yX2_find, Cond.instanceMethod yX2_find, Cond.selects RX2 yX2_find yX2_find, Cond.initialized RX2, Cond.code yX2_find cX2_find 6 (some .int), Cond.fieldLink RX2 31 "RevisionStores$Tree" "made" "I", Cond.fieldLink RX2 9 "RevisionStores$Tree" "documents" "[I", Cond.fieldLink RX2 15 "RevisionStores$Tree" "parents" "[I", Cond.fieldLink RX2 18 "RevisionStores$Tree" "values" "[I", Cond.fieldLink RX2 21 "RevisionStores$Tree" "deletions" "[Z", Cond.methodLink RX3 203 yX2_make, Cond.instanceMethod yX2_make, Cond.selects RX2 yX2_make yX2_make, Cond.code yX2_make cX2_make 8 (some .int), Cond.fieldLink RX2 25 "RevisionStores$Tree" "generations" "[I", Cond.fieldLink RX2 28 "RevisionStores$Tree" "sums" "[I", Cond.methodLink RX3 206 yX1_append, Cond.instanceMethod yX1_append, Cond.selects RX1 yX1_append yX1_append]
def wsL_edited_r4 : List Cond := [Cond.initialized RX1, Cond.code yX1_append cX1_append 3 none, Cond.fieldLink RX1 12 "RevisionStores$Store" "holding" "LRevisionStores$Holding;", Cond.methodLink RX1 41 yX1_noteChange, Cond.instanceMethod yX1_noteChange, Cond.selects RX1 yX1_noteChange yX1_noteChange, Cond.code yX1_noteChange cX1_noteChange 3 none, Cond.fieldLink RX1 22 "RevisionStores$Store" "latest" "I", Cond.fieldLink RX1 25 "RevisionStores$Store" "changes" "[I", Cond.fieldLink RX1 18 "RevisionStores$Store" "depth" "I", Cond.methodLink RX1 49 yX0_survey, Cond.instanceMethod yX0_survey, Cond.selects RX0 yX0_survey yX0_survey, Cond.code yX0_survey cX0_survey 2 none, Cond.methodLink RX0 28 yX0_findLeaves, Cond.instanceMethod yX0_findLeaves, Cond.selects RX0 yX0_findLeaves yX0_findLeaves, Cond.code yX0_findLeaves cX0_findLeaves 5 none, Cond.methodLink RX0 51 Lib.Math.min.name, Cond.static Lib.Math.min.name, Cond.initialized "java/lang/Math", Cond.code Lib.Math.min.name Lib.Math.min.code 2 (some .int), Cond.methodLink RX0 22 yJ7_fill_53178, Cond.static yJ7_fill_53178]
def wsL_edited_r5 : List Cond := [Cond.initialized RJ7, Cond.code yJ7_fill_53178 cJ7_fill_53178 4 none, Cond.methodLink RX0 44 yX0_endsAt, Cond.methodLink RX0 32 yX0_findWinners, Cond.instanceMethod yX0_findWinners, Cond.selects RX0 yX0_findWinners yX0_findWinners, Cond.code yX0_findWinners cX0_findWinners 5 none, Cond.fieldLink RX0 19 "RevisionStores$Holding" "winners" "[I", Cond.methodLink RX0 60 yX2_isBetter, Cond.instanceMethod yX2_isBetter, Cond.selects RX2 yX2_isBetter yX2_isBetter, Cond.code yX2_isBetter cX2_isBetter 3 (some .boolean), Cond.methodLink RX1 53 yX0_stem, Cond.instanceMethod yX0_stem, Cond.selects RX0 yX0_stem yX0_stem, Cond.code yX0_stem cX0_stem 5 (some .int)]
def wsL_edited : List Cond := .codeWith yL_edited cL_edited 6 (some .int) [(0, 9, 10, 107)] :: ((wsL_edited_r1 ++ (wsL_edited_r2 ++ (wsL_edited_r3 ++ (wsL_edited_r4 ++ wsL_edited_r5)))) ++ wsX30 ++ wsX20 ++ wsX10 ++ wsX00 ++ (vx_atS RX3 45 "java/lang/IllegalArgumentException" ["java/lang/RuntimeException", "java/lang/Exception"]).filter goodWord ++ (vx_atS RX3 184 "java/lang/IndexOutOfBoundsException" ["java/lang/RuntimeException", "java/lang/Exception"]).filter goodWord ++ (vx_atS RX3 71 "java/lang/IllegalStateException" ["java/lang/RuntimeException", "java/lang/Exception"]).filter goodWord)
def wsL_deleted_r1 : List Cond := [Cond.classLink RL 107 "java/lang/IllegalStateException", Cond.methodLink RL 109 yX3_delete, Cond.instanceMethod yX3_delete, Cond.selects RX3 yX3_delete yX3_delete, Cond.initialized RX3, Cond.code yX3_delete cX3_delete 5 (some .int), Cond.classLink RX3 67 "java/lang/IllegalStateException", Cond.initialized "java/lang/IllegalStateException", Cond.fieldLink RX3 10 "RevisionStores" "tree" "LRevisionStores$Tree;", Cond.methodLink RX3 30 yX3_storeAt, Cond.instanceMethod yX3_storeAt, Cond.selects RX3 yX3_storeAt yX3_storeAt, Cond.code yX3_storeAt cX3_storeAt 2 (some (.object "RevisionStores$Store")), Cond.classLink RX3 180 "java/lang/IndexOutOfBoundsException", Cond.initialized "java/lang/IndexOutOfBoundsException", Cond.fieldLink RX3 18 "RevisionStores" "stores" "[LRevisionStores$Store;", Cond.methodLink RX3 34 yX3_checkDocument, Cond.instanceMethod yX3_checkDocument, Cond.selects RX3 yX3_checkDocument yX3_checkDocument, Cond.code yX3_checkDocument cX3_checkDocument 2 none, Cond.methodLink RX3 38 yX3_checkRevision, Cond.instanceMethod yX3_checkRevision, Cond.selects RX3 yX3_checkRevision yX3_checkRevision, Cond.code yX3_checkRevision cX3_checkRevision 2 none]
def wsL_deleted_r2 : List Cond := [Cond.methodLink RX3 52 yX3_checkLeaf, Cond.instanceMethod yX3_checkLeaf, Cond.selects RX3 yX3_checkLeaf yX3_checkLeaf, Cond.code yX3_checkLeaf cX3_checkLeaf 4 none, Cond.methodLink RX3 148 yX0_endsAt, Cond.instanceMethod yX0_endsAt, Cond.selects RX0 yX0_endsAt yX0_endsAt, Cond.initialized RX0, Cond.code yX0_endsAt cX0_endsAt 2 (some .boolean), Cond.fieldLink RX0 9 "RevisionStores$Holding" "held" "[Z", Cond.methodLink RX0 64 yX0_hasDescendantOf, Cond.instanceMethod yX0_hasDescendantOf, Cond.selects RX0 yX0_hasDescendantOf yX0_hasDescendantOf, Cond.code yX0_hasDescendantOf cX0_hasDescendantOf 2 (some .boolean), Cond.fieldLink RX0 15 "RevisionStores$Holding" "nearestLeaf" "[I", Cond.methodLink RX3 56 yX3_checkRoom, Cond.instanceMethod yX3_checkRoom, Cond.selects RX3 yX3_checkRoom yX3_checkRoom, Cond.code yX3_checkRoom cX3_checkRoom 1 none, Cond.methodLink RX3 59 yX3_grow, Cond.instanceMethod yX3_grow, Cond.selects RX3 yX3_grow yX3_grow, Cond.code yX3_grow cX3_grow 7 (some .int), Cond.methodLink RX3 199 yX2_find]
def wsL_deleted_r3 : List Cond := [Cond.instanceMethod yX2_find, Cond.selects RX2 yX2_find yX2_find, Cond.initialized RX2, Cond.code yX2_find cX2_find 6 (some .int), Cond.fieldLink RX2 31 "RevisionStores$Tree" "made" "I", Cond.fieldLink RX2 9 "RevisionStores$Tree" "documents" "[I", Cond.fieldLink RX2 15 "RevisionStores$Tree" "parents" "[I", Cond.fieldLink RX2 18 "RevisionStores$Tree" "values" "[I", Cond.fieldLink RX2 21 "RevisionStores$Tree" "deletions" "[Z", Cond.methodLink RX3 203 yX2_make, Cond.instanceMethod yX2_make, Cond.selects RX2 yX2_make yX2_make, Cond.code yX2_make cX2_make 8 (some .int), Cond.fieldLink RX2 25 "RevisionStores$Tree" "generations" "[I", Cond.fieldLink RX2 28 "RevisionStores$Tree" "sums" "[I", Cond.methodLink RX3 206 yX1_append, Cond.instanceMethod yX1_append, Cond.selects RX1 yX1_append yX1_append, Cond.initialized RX1, Cond.code yX1_append cX1_append 3 none, Cond.fieldLink RX1 12 "RevisionStores$Store" "holding" "LRevisionStores$Holding;", Cond.methodLink RX1 41 yX1_noteChange, Cond.instanceMethod yX1_noteChange, Cond.selects RX1 yX1_noteChange yX1_noteChange]
def wsL_deleted_r4 : List Cond := [Cond.code yX1_noteChange cX1_noteChange 3 none, Cond.fieldLink RX1 22 "RevisionStores$Store" "latest" "I", Cond.fieldLink RX1 25 "RevisionStores$Store" "changes" "[I", Cond.fieldLink RX1 18 "RevisionStores$Store" "depth" "I", Cond.methodLink RX1 49 yX0_survey, Cond.instanceMethod yX0_survey, Cond.selects RX0 yX0_survey yX0_survey, Cond.code yX0_survey cX0_survey 2 none, Cond.methodLink RX0 28 yX0_findLeaves, Cond.instanceMethod yX0_findLeaves, Cond.selects RX0 yX0_findLeaves yX0_findLeaves, Cond.code yX0_findLeaves cX0_findLeaves 5 none, Cond.methodLink RX0 51 Lib.Math.min.name, Cond.static Lib.Math.min.name, Cond.initialized "java/lang/Math", Cond.code Lib.Math.min.name Lib.Math.min.code 2 (some .int), Cond.methodLink RX0 22 yJ7_fill_53178, Cond.static yJ7_fill_53178, Cond.initialized RJ7, Cond.code yJ7_fill_53178 cJ7_fill_53178 4 none, Cond.methodLink RX0 44 yX0_endsAt, Cond.methodLink RX0 32 yX0_findWinners, Cond.instanceMethod yX0_findWinners, Cond.selects RX0 yX0_findWinners yX0_findWinners]
def wsL_deleted_r5 : List Cond := [Cond.code yX0_findWinners cX0_findWinners 5 none, Cond.fieldLink RX0 19 "RevisionStores$Holding" "winners" "[I", Cond.methodLink RX0 60 yX2_isBetter, Cond.instanceMethod yX2_isBetter, Cond.selects RX2 yX2_isBetter yX2_isBetter, Cond.code yX2_isBetter cX2_isBetter 3 (some .boolean), Cond.methodLink RX1 53 yX0_stem, Cond.instanceMethod yX0_stem, Cond.selects RX0 yX0_stem yX0_stem, Cond.code yX0_stem cX0_stem 5 (some .int)]
def wsL_deleted : List Cond := .codeWith yL_deleted cL_deleted 5 (some .int) [(0, 7, 8, 107)] :: ((wsL_deleted_r1 ++ (wsL_deleted_r2 ++ (wsL_deleted_r3 ++ (wsL_deleted_r4 ++ wsL_deleted_r5)))) ++ wsX30 ++ wsX20 ++ wsX10 ++ wsX00 ++ (vx_atS RX3 71 "java/lang/IllegalStateException" ["java/lang/RuntimeException", "java/lang/Exception"]).filter goodWord ++ (vx_atS RX3 184 "java/lang/IndexOutOfBoundsException" ["java/lang/RuntimeException", "java/lang/Exception"]).filter goodWord)
def wsL_acts_r1 : List Cond := [Cond.methodLink RL 9 yL_leaves, Cond.static yL_leaves, Cond.initialized RL, Cond.code yL_leaves cL_leaves 9 (some .int), Cond.methodLink RL 112 yL_deleted, Cond.static yL_deleted, Cond.codeWith yL_deleted cL_deleted 5 (some .int) [(0, 7, 8, 107)], Cond.classLink RL 107 "java/lang/IllegalStateException", Cond.methodLink RL 109 yX3_delete, Cond.instanceMethod yX3_delete, Cond.selects RX3 yX3_delete yX3_delete, Cond.initialized RX3, Cond.code yX3_delete cX3_delete 5 (some .int), Cond.classLink RX3 67 "java/lang/IllegalStateException", Cond.initialized "java/lang/IllegalStateException", Cond.fieldLink RX3 10 "RevisionStores" "tree" "LRevisionStores$Tree;", Cond.methodLink RX3 30 yX3_storeAt, Cond.instanceMethod yX3_storeAt, Cond.selects RX3 yX3_storeAt yX3_storeAt, Cond.code yX3_storeAt cX3_storeAt 2 (some (.object "RevisionStores$Store")), Cond.classLink RX3 180 "java/lang/IndexOutOfBoundsException", Cond.initialized "java/lang/IndexOutOfBoundsException", Cond.fieldLink RX3 18 "RevisionStores" "stores" "[LRevisionStores$Store;", Cond.methodLink RX3 34 yX3_checkDocument]
def wsL_acts_r2 : List Cond := [Cond.instanceMethod yX3_checkDocument, Cond.selects RX3 yX3_checkDocument yX3_checkDocument, Cond.code yX3_checkDocument cX3_checkDocument 2 none, Cond.methodLink RX3 38 yX3_checkRevision, Cond.instanceMethod yX3_checkRevision, Cond.selects RX3 yX3_checkRevision yX3_checkRevision, Cond.code yX3_checkRevision cX3_checkRevision 2 none, Cond.methodLink RX3 52 yX3_checkLeaf, Cond.instanceMethod yX3_checkLeaf, Cond.selects RX3 yX3_checkLeaf yX3_checkLeaf, Cond.code yX3_checkLeaf cX3_checkLeaf 4 none, Cond.methodLink RX3 148 yX0_endsAt, Cond.instanceMethod yX0_endsAt, Cond.selects RX0 yX0_endsAt yX0_endsAt, Cond.initialized RX0, Cond.code yX0_endsAt cX0_endsAt 2 (some .boolean), Cond.fieldLink RX0 9 "RevisionStores$Holding" "held" "[Z", Cond.methodLink RX0 64 yX0_hasDescendantOf, Cond.instanceMethod yX0_hasDescendantOf, Cond.selects RX0 yX0_hasDescendantOf yX0_hasDescendantOf, Cond.code yX0_hasDescendantOf cX0_hasDescendantOf 2 (some .boolean), Cond.fieldLink RX0 15 "RevisionStores$Holding" "nearestLeaf" "[I", Cond.methodLink RX3 56 yX3_checkRoom, Cond.instanceMethod yX3_checkRoom]
def wsL_acts_r3 : List Cond := [Cond.selects RX3 yX3_checkRoom yX3_checkRoom, Cond.code yX3_checkRoom cX3_checkRoom 1 none, Cond.methodLink RX3 59 yX3_grow, Cond.instanceMethod yX3_grow, Cond.selects RX3 yX3_grow yX3_grow, Cond.code yX3_grow cX3_grow 7 (some .int), Cond.methodLink RX3 199 yX2_find, Cond.instanceMethod yX2_find, Cond.selects RX2 yX2_find yX2_find, Cond.initialized RX2, Cond.code yX2_find cX2_find 6 (some .int), Cond.fieldLink RX2 31 "RevisionStores$Tree" "made" "I", Cond.fieldLink RX2 9 "RevisionStores$Tree" "documents" "[I", Cond.fieldLink RX2 15 "RevisionStores$Tree" "parents" "[I", Cond.fieldLink RX2 18 "RevisionStores$Tree" "values" "[I", Cond.fieldLink RX2 21 "RevisionStores$Tree" "deletions" "[Z", Cond.methodLink RX3 203 yX2_make, Cond.instanceMethod yX2_make, Cond.selects RX2 yX2_make yX2_make, Cond.code yX2_make cX2_make 8 (some .int), Cond.fieldLink RX2 25 "RevisionStores$Tree" "generations" "[I", Cond.fieldLink RX2 28 "RevisionStores$Tree" "sums" "[I", Cond.methodLink RX3 206 yX1_append, Cond.instanceMethod yX1_append]
def wsL_acts_r4 : List Cond := [Cond.selects RX1 yX1_append yX1_append, Cond.initialized RX1, Cond.code yX1_append cX1_append 3 none, Cond.fieldLink RX1 12 "RevisionStores$Store" "holding" "LRevisionStores$Holding;", Cond.methodLink RX1 41 yX1_noteChange, Cond.instanceMethod yX1_noteChange, Cond.selects RX1 yX1_noteChange yX1_noteChange, Cond.code yX1_noteChange cX1_noteChange 3 none, Cond.fieldLink RX1 22 "RevisionStores$Store" "latest" "I", Cond.fieldLink RX1 25 "RevisionStores$Store" "changes" "[I", Cond.fieldLink RX1 18 "RevisionStores$Store" "depth" "I", Cond.methodLink RX1 49 yX0_survey, Cond.instanceMethod yX0_survey, Cond.selects RX0 yX0_survey yX0_survey, Cond.code yX0_survey cX0_survey 2 none, Cond.methodLink RX0 28 yX0_findLeaves, Cond.instanceMethod yX0_findLeaves, Cond.selects RX0 yX0_findLeaves yX0_findLeaves, Cond.code yX0_findLeaves cX0_findLeaves 5 none, Cond.methodLink RX0 51 Lib.Math.min.name, Cond.static Lib.Math.min.name, Cond.initialized "java/lang/Math", Cond.code Lib.Math.min.name Lib.Math.min.code 2 (some .int), Cond.methodLink RX0 22 yJ7_fill_53178]
def wsL_acts_r5 : List Cond := [Cond.static yJ7_fill_53178, Cond.initialized RJ7, Cond.code yJ7_fill_53178 cJ7_fill_53178 4 none, Cond.methodLink RX0 44 yX0_endsAt, Cond.methodLink RX0 32 yX0_findWinners, Cond.instanceMethod yX0_findWinners, Cond.selects RX0 yX0_findWinners yX0_findWinners, Cond.code yX0_findWinners cX0_findWinners 5 none, Cond.fieldLink RX0 19 "RevisionStores$Holding" "winners" "[I", Cond.methodLink RX0 60 yX2_isBetter, Cond.instanceMethod yX2_isBetter, Cond.selects RX2 yX2_isBetter yX2_isBetter, Cond.code yX2_isBetter cX2_isBetter 3 (some .boolean), Cond.methodLink RX1 53 yX0_stem, Cond.instanceMethod yX0_stem, Cond.selects RX0 yX0_stem yX0_stem, Cond.code yX0_stem cX0_stem 5 (some .int), Cond.methodLink RL 116 yL_add, Cond.static yL_add, Cond.code yL_add cL_add 14 (some .int), Cond.methodLink RL 27 yL_make, Cond.static yL_make, Cond.code yL_make cL_make 11 (some .int), Cond.methodLink RL 31 yL_stem]
def wsL_acts_r6 : List Cond := [Cond.static yL_stem, Cond.code yL_stem cL_stem 7 (some .int), Cond.methodLink RL 19 yL_deep, Cond.static yL_deep, Cond.code yL_deep cL_deep 13 (some .int), Cond.methodLink RL 23 yL_ones, Cond.static yL_ones, Cond.code yL_ones cL_ones 3 (some .int), Cond.methodLink RL 120 yL_edited, Cond.static yL_edited, Cond.codeWith yL_edited cL_edited 6 (some .int) [(0, 9, 10, 107)], Cond.methodLink RL 103 yX3_edit, Cond.instanceMethod yX3_edit, Cond.selects RX3 yX3_edit yX3_edit, Cond.code yX3_edit cX3_edit 6 (some .int), Cond.classLink RX3 41 "java/lang/IllegalArgumentException", Cond.initialized "java/lang/IllegalArgumentException", Cond.methodLink RX3 48 yX3_checkNotBegun, Cond.instanceMethod yX3_checkNotBegun, Cond.selects RX3 yX3_checkNotBegun yX3_checkNotBegun, Cond.code yX3_checkNotBegun cX3_checkNotBegun 3 none, Cond.methodLink RL 124 yX3_replicate, Cond.instanceMethod yX3_replicate, Cond.selects RX3 yX3_replicate yX3_replicate]
def wsL_acts_r7 : List Cond := [Cond.code yX3_replicate cX3_replicate 10 (some .int), Cond.methodLink RX3 95 yX3_checkDifferent, Cond.instanceMethod yX3_checkDifferent, Cond.selects RX3 yX3_checkDifferent yX3_checkDifferent, Cond.code yX3_checkDifferent cX3_checkDifferent 3 none, Cond.methodLink RX3 99 yX3_commonCheckpoint, Cond.instanceMethod yX3_commonCheckpoint, Cond.selects RX3 yX3_commonCheckpoint yX3_commonCheckpoint, Cond.code yX3_commonCheckpoint cX3_commonCheckpoint 4 (some .int), Cond.methodLink RX3 210 Lib.Math.min.name, Cond.methodLink RX3 121 yX3_pairOf, Cond.static yX3_pairOf, Cond.code yX3_pairOf cX3_pairOf 2 (some .int), Cond.methodLink RX3 103 yX1_nextChanged, Cond.instanceMethod yX1_nextChanged, Cond.selects RX1 yX1_nextChanged yX1_nextChanged, Cond.code yX1_nextChanged cX1_nextChanged 4 (some .int), Cond.methodLink RX3 107 yX1_receive, Cond.instanceMethod yX1_receive, Cond.selects RX1 yX1_receive yX1_receive, Cond.code yX1_receive cX1_receive 5 (some .int), Cond.methodLink RX1 45 yX0_addBranches, Cond.instanceMethod yX0_addBranches, Cond.selects RX0 yX0_addBranches yX0_addBranches]
def wsL_acts_r8 : List Cond := [Cond.code yX0_addBranches cX0_addBranches 6 (some .int), Cond.methodLink RX0 67 yX0_addLine, Cond.instanceMethod yX0_addLine, Cond.selects RX0 yX0_addLine yX0_addLine, Cond.code yX0_addLine cX0_addLine 7 (some .int), Cond.methodLink RL 127 yL_replicated, Cond.static yL_replicated, Cond.code yL_replicated cL_replicated 15 (some .int), Cond.methodLink RL 35 yL_start, Cond.static yL_start, Cond.code yL_start cL_start 5 (some .int), Cond.methodLink RL 39 yL_got, Cond.static yL_got, Cond.code yL_got cL_got 14 (some .int), Cond.methodLink RL 130 yX3_setDepth, Cond.instanceMethod yX3_setDepth, Cond.selects RX3 yX3_setDepth yX3_setDepth, Cond.code yX3_setDepth cX3_setDepth 4 (some .int), Cond.methodLink RX3 81 yX0_stem, Cond.methodLink RL 133 yX3_wipe, Cond.instanceMethod yX3_wipe, Cond.selects RX3 yX3_wipe yX3_wipe, Cond.code yX3_wipe cX3_wipe 4 (some .int), Cond.methodLink RX3 85 yX0_countAll]
def wsL_acts_r9 : List Cond := [Cond.instanceMethod yX0_countAll, Cond.selects RX0 yX0_countAll yX0_countAll, Cond.code yX0_countAll cX0_countAll 4 (some .int), Cond.methodLink RX3 89 yX1_clear, Cond.instanceMethod yX1_clear, Cond.selects RX1 yX1_clear yX1_clear, Cond.code yX1_clear cX1_clear 2 none, Cond.fieldLink RX1 29 "RevisionStores$Store" "checkpoints" "[I", Cond.methodLink RX1 57 yX0_removeAll, Cond.instanceMethod yX0_removeAll, Cond.selects RX0 yX0_removeAll yX0_removeAll, Cond.code yX0_removeAll cX0_removeAll 2 none, Cond.methodLink RX1 60 yJ7_fill_53178]
def wsL_acts : List Cond := .code yL_acts cL_acts 22 (some .boolean) :: ((wsL_acts_r1 ++ (wsL_acts_r2 ++ (wsL_acts_r3 ++ (wsL_acts_r4 ++ (wsL_acts_r5 ++ (wsL_acts_r6 ++ (wsL_acts_r7 ++ (wsL_acts_r8 ++ wsL_acts_r9)))))))) ++ wsX30 ++ wsX20 ++ wsX10 ++ wsX00 ++ (vx_atS RX3 71 "java/lang/IllegalStateException" ["java/lang/RuntimeException", "java/lang/Exception"]).filter goodWord ++ (vx_atS RX3 184 "java/lang/IndexOutOfBoundsException" ["java/lang/RuntimeException", "java/lang/Exception"]).filter goodWord ++ (vx_atS RX3 45 "java/lang/IllegalArgumentException" ["java/lang/RuntimeException", "java/lang/Exception"]).filter goodWord)
def wsL_holds_r1 : List Cond := [Cond.classLink RL 44 RX3, Cond.instantiable RX3 3, Cond.initialized RX3, Cond.arrayClass .int, Cond.constant RL 140 (1000000), Cond.methodLink RL 136 yX3_init, Cond.instanceMethod yX3_init, Cond.code yX3_init cX3_init 2 none, Cond.methodLink RX3 1 objectInit, Cond.instanceMethod objectInit, Cond.code objectInit ⟨#[0xb1]⟩ 1 none, Cond.classLink RX3 7 RX2, Cond.instantiable RX2 7, Cond.initialized RX2, Cond.fieldLink RX3 10 "RevisionStores" "tree" "LRevisionStores$Tree;", Cond.classLink RX3 16 RX1, Cond.fieldLink RX3 18 "RevisionStores" "stores" "[LRevisionStores$Store;", Cond.classLink RX3 22 RX0, Cond.instantiable RX0 3, Cond.initialized RX0, Cond.fieldLink RX3 25 "RevisionStores" "union" "LRevisionStores$Holding;", Cond.instantiable RX1 5, Cond.initialized RX1, Cond.instanceMethod yX2_init]
def wsL_holds_r2 : List Cond := [Cond.code yX2_init cX2_init 1 none, Cond.methodLink RX2 3 objectInit, Cond.fieldLink RX2 9 "RevisionStores$Tree" "documents" "[I", Cond.fieldLink RX2 15 "RevisionStores$Tree" "parents" "[I", Cond.fieldLink RX2 18 "RevisionStores$Tree" "values" "[I", Cond.arrayClass .boolean, Cond.fieldLink RX2 21 "RevisionStores$Tree" "deletions" "[Z", Cond.fieldLink RX2 25 "RevisionStores$Tree" "generations" "[I", Cond.fieldLink RX2 28 "RevisionStores$Tree" "sums" "[I", Cond.fieldLink RX2 31 "RevisionStores$Tree" "made" "I", Cond.methodLink RX3 24 yX0_init, Cond.instanceMethod yX0_init, Cond.code yX0_init cX0_init 1 none, Cond.methodLink RX0 3 objectInit, Cond.fieldLink RX0 9 "RevisionStores$Holding" "held" "[Z", Cond.fieldLink RX0 15 "RevisionStores$Holding" "nearestLeaf" "[I", Cond.fieldLink RX0 19 "RevisionStores$Holding" "winners" "[I", Cond.methodLink RX0 22 yJ7_fill_53178, Cond.static yJ7_fill_53178, Cond.initialized RJ7, Cond.code yJ7_fill_53178 cJ7_fill_53178 4 none, Cond.instanceMethod yX1_init, Cond.code yX1_init cX1_init 1 none, Cond.methodLink RX1 3 objectInit]
def wsL_holds_r3 : List Cond := [Cond.classLink RX1 9 RX0, Cond.fieldLink RX1 12 "RevisionStores$Store" "holding" "LRevisionStores$Holding;", Cond.fieldLink RX1 18 "RevisionStores$Store" "depth" "I", Cond.fieldLink RX1 22 "RevisionStores$Store" "latest" "I", Cond.fieldLink RX1 25 "RevisionStores$Store" "changes" "[I", Cond.fieldLink RX1 29 "RevisionStores$Store" "checkpoints" "[I", Cond.methodLink RX1 11 yX0_init, Cond.methodLink RL 137 yL_from, Cond.static yL_from, Cond.initialized RL, Cond.code yL_from cL_from 4 (some .int), Cond.constant RL 7 (130027), Cond.constant RL 8 (2147483647), Cond.methodLink RL 141 yL_acts, Cond.static yL_acts, Cond.code yL_acts cL_acts 22 (some .boolean), Cond.methodLink RL 9 yL_leaves, Cond.static yL_leaves, Cond.code yL_leaves cL_leaves 9 (some .int), Cond.methodLink RL 112 yL_deleted, Cond.static yL_deleted, Cond.codeWith yL_deleted cL_deleted 5 (some .int) [(0, 7, 8, 107)], Cond.classLink RL 107 "java/lang/IllegalStateException", Cond.methodLink RL 109 yX3_delete]
def wsL_holds_r4 : List Cond := [Cond.instanceMethod yX3_delete, Cond.selects RX3 yX3_delete yX3_delete, Cond.code yX3_delete cX3_delete 5 (some .int), Cond.classLink RX3 67 "java/lang/IllegalStateException", Cond.initialized "java/lang/IllegalStateException", Cond.methodLink RX3 30 yX3_storeAt, Cond.instanceMethod yX3_storeAt, Cond.selects RX3 yX3_storeAt yX3_storeAt, Cond.code yX3_storeAt cX3_storeAt 2 (some (.object "RevisionStores$Store")), Cond.classLink RX3 180 "java/lang/IndexOutOfBoundsException", Cond.initialized "java/lang/IndexOutOfBoundsException", Cond.methodLink RX3 34 yX3_checkDocument, Cond.instanceMethod yX3_checkDocument, Cond.selects RX3 yX3_checkDocument yX3_checkDocument, Cond.code yX3_checkDocument cX3_checkDocument 2 none, Cond.methodLink RX3 38 yX3_checkRevision, Cond.instanceMethod yX3_checkRevision, Cond.selects RX3 yX3_checkRevision yX3_checkRevision, Cond.code yX3_checkRevision cX3_checkRevision 2 none, Cond.methodLink RX3 52 yX3_checkLeaf, Cond.instanceMethod yX3_checkLeaf, Cond.selects RX3 yX3_checkLeaf yX3_checkLeaf, Cond.code yX3_checkLeaf cX3_checkLeaf 4 none, Cond.methodLink RX3 148 yX0_endsAt]
def wsL_holds_r5 : List Cond := [Cond.instanceMethod yX0_endsAt, Cond.selects RX0 yX0_endsAt yX0_endsAt, Cond.code yX0_endsAt cX0_endsAt 2 (some .boolean), Cond.methodLink RX0 64 yX0_hasDescendantOf, Cond.instanceMethod yX0_hasDescendantOf, Cond.selects RX0 yX0_hasDescendantOf yX0_hasDescendantOf, Cond.code yX0_hasDescendantOf cX0_hasDescendantOf 2 (some .boolean), Cond.methodLink RX3 56 yX3_checkRoom, Cond.instanceMethod yX3_checkRoom, Cond.selects RX3 yX3_checkRoom yX3_checkRoom, Cond.code yX3_checkRoom cX3_checkRoom 1 none, Cond.methodLink RX3 59 yX3_grow, Cond.instanceMethod yX3_grow, Cond.selects RX3 yX3_grow yX3_grow, Cond.code yX3_grow cX3_grow 7 (some .int), Cond.methodLink RX3 199 yX2_find, Cond.instanceMethod yX2_find, Cond.selects RX2 yX2_find yX2_find, Cond.code yX2_find cX2_find 6 (some .int), Cond.methodLink RX3 203 yX2_make, Cond.instanceMethod yX2_make, Cond.selects RX2 yX2_make yX2_make, Cond.code yX2_make cX2_make 8 (some .int), Cond.methodLink RX3 206 yX1_append]
def wsL_holds_r6 : List Cond := [Cond.instanceMethod yX1_append, Cond.selects RX1 yX1_append yX1_append, Cond.code yX1_append cX1_append 3 none, Cond.methodLink RX1 41 yX1_noteChange, Cond.instanceMethod yX1_noteChange, Cond.selects RX1 yX1_noteChange yX1_noteChange, Cond.code yX1_noteChange cX1_noteChange 3 none, Cond.methodLink RX1 49 yX0_survey, Cond.instanceMethod yX0_survey, Cond.selects RX0 yX0_survey yX0_survey, Cond.code yX0_survey cX0_survey 2 none, Cond.methodLink RX0 28 yX0_findLeaves, Cond.instanceMethod yX0_findLeaves, Cond.selects RX0 yX0_findLeaves yX0_findLeaves, Cond.code yX0_findLeaves cX0_findLeaves 5 none, Cond.methodLink RX0 51 Lib.Math.min.name, Cond.static Lib.Math.min.name, Cond.initialized "java/lang/Math", Cond.code Lib.Math.min.name Lib.Math.min.code 2 (some .int), Cond.methodLink RX0 44 yX0_endsAt, Cond.methodLink RX0 32 yX0_findWinners, Cond.instanceMethod yX0_findWinners, Cond.selects RX0 yX0_findWinners yX0_findWinners, Cond.code yX0_findWinners cX0_findWinners 5 none]
def wsL_holds_r7 : List Cond := [Cond.methodLink RX0 60 yX2_isBetter, Cond.instanceMethod yX2_isBetter, Cond.selects RX2 yX2_isBetter yX2_isBetter, Cond.code yX2_isBetter cX2_isBetter 3 (some .boolean), Cond.methodLink RX1 53 yX0_stem, Cond.instanceMethod yX0_stem, Cond.selects RX0 yX0_stem yX0_stem, Cond.code yX0_stem cX0_stem 5 (some .int), Cond.methodLink RL 116 yL_add, Cond.static yL_add, Cond.code yL_add cL_add 14 (some .int), Cond.methodLink RL 27 yL_make, Cond.static yL_make, Cond.code yL_make cL_make 11 (some .int), Cond.methodLink RL 31 yL_stem, Cond.static yL_stem, Cond.code yL_stem cL_stem 7 (some .int), Cond.methodLink RL 19 yL_deep, Cond.static yL_deep, Cond.code yL_deep cL_deep 13 (some .int), Cond.methodLink RL 23 yL_ones, Cond.static yL_ones, Cond.code yL_ones cL_ones 3 (some .int), Cond.methodLink RL 120 yL_edited]
def wsL_holds_r8 : List Cond := [Cond.static yL_edited, Cond.codeWith yL_edited cL_edited 6 (some .int) [(0, 9, 10, 107)], Cond.methodLink RL 103 yX3_edit, Cond.instanceMethod yX3_edit, Cond.selects RX3 yX3_edit yX3_edit, Cond.code yX3_edit cX3_edit 6 (some .int), Cond.classLink RX3 41 "java/lang/IllegalArgumentException", Cond.initialized "java/lang/IllegalArgumentException", Cond.methodLink RX3 48 yX3_checkNotBegun, Cond.instanceMethod yX3_checkNotBegun, Cond.selects RX3 yX3_checkNotBegun yX3_checkNotBegun, Cond.code yX3_checkNotBegun cX3_checkNotBegun 3 none, Cond.methodLink RL 124 yX3_replicate, Cond.instanceMethod yX3_replicate, Cond.selects RX3 yX3_replicate yX3_replicate, Cond.code yX3_replicate cX3_replicate 10 (some .int), Cond.methodLink RX3 95 yX3_checkDifferent, Cond.instanceMethod yX3_checkDifferent, Cond.selects RX3 yX3_checkDifferent yX3_checkDifferent, Cond.code yX3_checkDifferent cX3_checkDifferent 3 none, Cond.methodLink RX3 99 yX3_commonCheckpoint, Cond.instanceMethod yX3_commonCheckpoint, Cond.selects RX3 yX3_commonCheckpoint yX3_commonCheckpoint, Cond.code yX3_commonCheckpoint cX3_commonCheckpoint 4 (some .int)]
def wsL_holds_r9 : List Cond := [Cond.methodLink RX3 210 Lib.Math.min.name, Cond.methodLink RX3 121 yX3_pairOf, Cond.static yX3_pairOf, Cond.code yX3_pairOf cX3_pairOf 2 (some .int), Cond.methodLink RX3 103 yX1_nextChanged, Cond.instanceMethod yX1_nextChanged, Cond.selects RX1 yX1_nextChanged yX1_nextChanged, Cond.code yX1_nextChanged cX1_nextChanged 4 (some .int), Cond.methodLink RX3 107 yX1_receive, Cond.instanceMethod yX1_receive, Cond.selects RX1 yX1_receive yX1_receive, Cond.code yX1_receive cX1_receive 5 (some .int), Cond.methodLink RX1 45 yX0_addBranches, Cond.instanceMethod yX0_addBranches, Cond.selects RX0 yX0_addBranches yX0_addBranches, Cond.code yX0_addBranches cX0_addBranches 6 (some .int), Cond.methodLink RX0 67 yX0_addLine, Cond.instanceMethod yX0_addLine, Cond.selects RX0 yX0_addLine yX0_addLine, Cond.code yX0_addLine cX0_addLine 7 (some .int), Cond.methodLink RL 127 yL_replicated, Cond.static yL_replicated, Cond.code yL_replicated cL_replicated 15 (some .int), Cond.methodLink RL 35 yL_start]
def wsL_holds_r10 : List Cond := [Cond.static yL_start, Cond.code yL_start cL_start 5 (some .int), Cond.methodLink RL 39 yL_got, Cond.static yL_got, Cond.code yL_got cL_got 14 (some .int), Cond.methodLink RL 130 yX3_setDepth, Cond.instanceMethod yX3_setDepth, Cond.selects RX3 yX3_setDepth yX3_setDepth, Cond.code yX3_setDepth cX3_setDepth 4 (some .int), Cond.methodLink RX3 81 yX0_stem, Cond.methodLink RL 133 yX3_wipe, Cond.instanceMethod yX3_wipe, Cond.selects RX3 yX3_wipe yX3_wipe, Cond.code yX3_wipe cX3_wipe 4 (some .int), Cond.methodLink RX3 85 yX0_countAll, Cond.instanceMethod yX0_countAll, Cond.selects RX0 yX0_countAll yX0_countAll, Cond.code yX0_countAll cX0_countAll 4 (some .int), Cond.methodLink RX3 89 yX1_clear, Cond.instanceMethod yX1_clear, Cond.selects RX1 yX1_clear yX1_clear, Cond.code yX1_clear cX1_clear 2 none, Cond.methodLink RX1 57 yX0_removeAll, Cond.instanceMethod yX0_removeAll]
def wsL_holds_r11 : List Cond := [Cond.selects RX0 yX0_removeAll yX0_removeAll, Cond.code yX0_removeAll cX0_removeAll 2 none, Cond.methodLink RX1 60 yJ7_fill_53178, Cond.methodLink RL 145 yL_areRevisions, Cond.static yL_areRevisions, Cond.code yL_areRevisions cL_areRevisions 9 (some .boolean), Cond.methodLink RL 88 yX3_documentOf, Cond.instanceMethod yX3_documentOf, Cond.selects RX3 yX3_documentOf yX3_documentOf, Cond.code yX3_documentOf cX3_documentOf 2 (some .int), Cond.methodLink RL 91 yX3_parentOf, Cond.instanceMethod yX3_parentOf, Cond.selects RX3 yX3_parentOf yX3_parentOf, Cond.code yX3_parentOf cX3_parentOf 2 (some .int), Cond.methodLink RL 94 yX3_generation, Cond.instanceMethod yX3_generation, Cond.selects RX3 yX3_generation yX3_generation, Cond.code yX3_generation cX3_generation 2 (some .int), Cond.methodLink RL 97 yX3_sum, Cond.instanceMethod yX3_sum, Cond.selects RX3 yX3_sum yX3_sum, Cond.code yX3_sum cX3_sum 2 (some .int), Cond.methodLink RL 100 yX3_valueOf, Cond.instanceMethod yX3_valueOf]
def wsL_holds_r12 : List Cond := [Cond.selects RX3 yX3_valueOf yX3_valueOf, Cond.code yX3_valueOf cX3_valueOf 2 (some .int), Cond.methodLink RL 149 yL_areStores, Cond.static yL_areStores, Cond.code yL_areStores cL_areStores 18 (some .boolean), Cond.methodLink RL 43 yX3_revisions, Cond.instanceMethod yX3_revisions, Cond.selects RX3 yX3_revisions yX3_revisions, Cond.code yX3_revisions cX3_revisions 1 (some .int), Cond.methodLink RL 49 yX3_sequence, Cond.instanceMethod yX3_sequence, Cond.selects RX3 yX3_sequence yX3_sequence, Cond.code yX3_sequence cX3_sequence 2 (some .int), Cond.methodLink RL 52 yX3_size, Cond.instanceMethod yX3_size, Cond.selects RX3 yX3_size yX3_size, Cond.code yX3_size cX3_size 2 (some .int), Cond.methodLink RL 55 yL_winner, Cond.static yL_winner, Cond.code yL_winner cL_winner 11 (some .int), Cond.methodLink RL 15 yL_rank, Cond.static yL_rank, Cond.code yL_rank cL_rank 4 (some .int), Cond.methodLink RL 59 yX3_isLeaf]
def wsL_holds_r13 : List Cond := [Cond.instanceMethod yX3_isLeaf, Cond.selects RX3 yX3_isLeaf yX3_isLeaf, Cond.code yX3_isLeaf cX3_isLeaf 4 (some .boolean), Cond.methodLink RL 63 yX3_has, Cond.instanceMethod yX3_has, Cond.selects RX3 yX3_has yX3_has, Cond.code yX3_has cX3_has 4 (some .boolean), Cond.methodLink RL 66 yX3_winner, Cond.instanceMethod yX3_winner, Cond.selects RX3 yX3_winner yX3_winner, Cond.code yX3_winner cX3_winner 4 (some .int), Cond.methodLink RL 69 yX3_conflicts, Cond.instanceMethod yX3_conflicts, Cond.selects RX3 yX3_conflicts yX3_conflicts, Cond.code yX3_conflicts cX3_conflicts 4 (some .int), Cond.methodLink RX3 168 Lib.Math.max.name, Cond.static Lib.Math.max.name, Cond.code Lib.Math.max.name Lib.Math.max.code 2 (some .int), Cond.methodLink RX3 165 yX0_countLiveLeaves, Cond.instanceMethod yX0_countLiveLeaves, Cond.selects RX0 yX0_countLiveLeaves yX0_countLiveLeaves, Cond.code yX0_countLiveLeaves cX0_countLiveLeaves 5 (some .int), Cond.methodLink RL 72 yX3_count, Cond.instanceMethod yX3_count]
def wsL_holds_r14 : List Cond := [Cond.selects RX3 yX3_count yX3_count, Cond.code yX3_count cX3_count 8 (some .int), Cond.methodLink RX3 173 yX0_shownValue, Cond.instanceMethod yX0_shownValue, Cond.selects RX0 yX0_shownValue yX0_shownValue, Cond.code yX0_shownValue cX0_shownValue 4 (some .int), Cond.methodLink RL 76 yX3_winnerOfAll, Cond.instanceMethod yX3_winnerOfAll, Cond.selects RX3 yX3_winnerOfAll yX3_winnerOfAll, Cond.code yX3_winnerOfAll cX3_winnerOfAll 3 (some .int), Cond.methodLink RX3 155 yX0_removeAll, Cond.methodLink RX3 158 yX0_addAll, Cond.instanceMethod yX0_addAll, Cond.selects RX0 yX0_addAll yX0_addAll, Cond.code yX0_addAll cX0_addAll 4 none, Cond.methodLink RX3 162 yX0_survey, Cond.methodLink RL 79 yX3_viewAt, Cond.instanceMethod yX3_viewAt, Cond.selects RX3 yX3_viewAt yX3_viewAt, Cond.code yX3_viewAt cX3_viewAt 6 (some .int), Cond.methodLink RX3 176 yX0_countShownBefore, Cond.instanceMethod yX0_countShownBefore, Cond.selects RX0 yX0_countShownBefore yX0_countShownBefore, Cond.code yX0_countShownBefore cX0_countShownBefore 7 (some .int)]
def wsL_holds_r15 : List Cond := [Cond.methodLink RX0 77 yX0_shownValue, Cond.methodLink RL 82 yX3_checkpoint, Cond.instanceMethod yX3_checkpoint, Cond.selects RX3 yX3_checkpoint yX3_checkpoint, Cond.code yX3_checkpoint cX3_checkpoint 3 (some .int), Cond.methodLink RL 85 yX3_pending, Cond.instanceMethod yX3_pending, Cond.selects RX3 yX3_pending yX3_pending, Cond.code yX3_pending cX3_pending 4 (some .int), Cond.methodLink RX3 124 yX1_countChanged, Cond.instanceMethod yX1_countChanged, Cond.selects RX1 yX1_countChanged yX1_countChanged, Cond.code yX1_countChanged cX1_countChanged 4 (some .int)]
def wsL_holds : List Cond := .code yL_holds cL_holds 14 (some .boolean) :: ((wsL_holds_r1 ++ (wsL_holds_r2 ++ (wsL_holds_r3 ++ (wsL_holds_r4 ++ (wsL_holds_r5 ++ (wsL_holds_r6 ++ (wsL_holds_r7 ++ (wsL_holds_r8 ++ (wsL_holds_r9 ++ (wsL_holds_r10 ++ (wsL_holds_r11 ++ (wsL_holds_r12 ++ (wsL_holds_r13 ++ (wsL_holds_r14 ++ wsL_holds_r15)))))))))))))) ++ wsX30 ++ wsX20 ++ wsX00 ++ wsX10 ++ (vx_atS RX3 71 "java/lang/IllegalStateException" ["java/lang/RuntimeException", "java/lang/Exception"]).filter goodWord ++ (vx_atS RX3 184 "java/lang/IndexOutOfBoundsException" ["java/lang/RuntimeException", "java/lang/Exception"]).filter goodWord ++ (vx_atS RX3 45 "java/lang/IllegalArgumentException" ["java/lang/RuntimeException", "java/lang/Exception"]).filter goodWord)
def wsL_isHeld_r1 : List Cond := [Cond.classLink RL 157 "java/lang/IndexOutOfBoundsException", Cond.classLink RL 159 "java/lang/IllegalArgumentException", Cond.methodLink RL 153 yL_holds, Cond.static yL_holds, Cond.initialized RL, Cond.code yL_holds cL_holds 14 (some .boolean), Cond.classLink RL 44 RX3, Cond.instantiable RX3 3, Cond.initialized RX3, Cond.arrayClass .int, Cond.constant RL 140 (1000000), Cond.methodLink RL 136 yX3_init, Cond.instanceMethod yX3_init, Cond.code yX3_init cX3_init 2 none, Cond.methodLink RX3 1 objectInit, Cond.instanceMethod objectInit, Cond.code objectInit ⟨#[0xb1]⟩ 1 none, Cond.classLink RX3 7 RX2, Cond.instantiable RX2 7, Cond.initialized RX2, Cond.fieldLink RX3 10 "RevisionStores" "tree" "LRevisionStores$Tree;", Cond.classLink RX3 16 RX1, Cond.fieldLink RX3 18 "RevisionStores" "stores" "[LRevisionStores$Store;", Cond.classLink RX3 22 RX0]
def wsL_isHeld_r2 : List Cond := [Cond.instantiable RX0 3, Cond.initialized RX0, Cond.fieldLink RX3 25 "RevisionStores" "union" "LRevisionStores$Holding;", Cond.instantiable RX1 5, Cond.initialized RX1, Cond.instanceMethod yX2_init, Cond.code yX2_init cX2_init 1 none, Cond.methodLink RX2 3 objectInit, Cond.fieldLink RX2 9 "RevisionStores$Tree" "documents" "[I", Cond.fieldLink RX2 15 "RevisionStores$Tree" "parents" "[I", Cond.fieldLink RX2 18 "RevisionStores$Tree" "values" "[I", Cond.arrayClass .boolean, Cond.fieldLink RX2 21 "RevisionStores$Tree" "deletions" "[Z", Cond.fieldLink RX2 25 "RevisionStores$Tree" "generations" "[I", Cond.fieldLink RX2 28 "RevisionStores$Tree" "sums" "[I", Cond.fieldLink RX2 31 "RevisionStores$Tree" "made" "I", Cond.methodLink RX3 24 yX0_init, Cond.instanceMethod yX0_init, Cond.code yX0_init cX0_init 1 none, Cond.methodLink RX0 3 objectInit, Cond.fieldLink RX0 9 "RevisionStores$Holding" "held" "[Z", Cond.fieldLink RX0 15 "RevisionStores$Holding" "nearestLeaf" "[I", Cond.fieldLink RX0 19 "RevisionStores$Holding" "winners" "[I", Cond.methodLink RX0 22 yJ7_fill_53178]
def wsL_isHeld_r3 : List Cond := [Cond.static yJ7_fill_53178, Cond.initialized RJ7, Cond.code yJ7_fill_53178 cJ7_fill_53178 4 none, Cond.instanceMethod yX1_init, Cond.code yX1_init cX1_init 1 none, Cond.methodLink RX1 3 objectInit, Cond.classLink RX1 9 RX0, Cond.fieldLink RX1 12 "RevisionStores$Store" "holding" "LRevisionStores$Holding;", Cond.fieldLink RX1 18 "RevisionStores$Store" "depth" "I", Cond.fieldLink RX1 22 "RevisionStores$Store" "latest" "I", Cond.fieldLink RX1 25 "RevisionStores$Store" "changes" "[I", Cond.fieldLink RX1 29 "RevisionStores$Store" "checkpoints" "[I", Cond.methodLink RX1 11 yX0_init, Cond.methodLink RL 137 yL_from, Cond.static yL_from, Cond.code yL_from cL_from 4 (some .int), Cond.constant RL 7 (130027), Cond.constant RL 8 (2147483647), Cond.methodLink RL 141 yL_acts, Cond.static yL_acts, Cond.code yL_acts cL_acts 22 (some .boolean), Cond.methodLink RL 9 yL_leaves, Cond.static yL_leaves, Cond.code yL_leaves cL_leaves 9 (some .int)]
def wsL_isHeld_r4 : List Cond := [Cond.methodLink RL 112 yL_deleted, Cond.static yL_deleted, Cond.codeWith yL_deleted cL_deleted 5 (some .int) [(0, 7, 8, 107)], Cond.classLink RL 107 "java/lang/IllegalStateException", Cond.methodLink RL 109 yX3_delete, Cond.instanceMethod yX3_delete, Cond.selects RX3 yX3_delete yX3_delete, Cond.code yX3_delete cX3_delete 5 (some .int), Cond.classLink RX3 67 "java/lang/IllegalStateException", Cond.initialized "java/lang/IllegalStateException", Cond.methodLink RX3 30 yX3_storeAt, Cond.instanceMethod yX3_storeAt, Cond.selects RX3 yX3_storeAt yX3_storeAt, Cond.code yX3_storeAt cX3_storeAt 2 (some (.object "RevisionStores$Store")), Cond.classLink RX3 180 "java/lang/IndexOutOfBoundsException", Cond.initialized "java/lang/IndexOutOfBoundsException", Cond.methodLink RX3 34 yX3_checkDocument, Cond.instanceMethod yX3_checkDocument, Cond.selects RX3 yX3_checkDocument yX3_checkDocument, Cond.code yX3_checkDocument cX3_checkDocument 2 none, Cond.methodLink RX3 38 yX3_checkRevision, Cond.instanceMethod yX3_checkRevision, Cond.selects RX3 yX3_checkRevision yX3_checkRevision, Cond.code yX3_checkRevision cX3_checkRevision 2 none]
def wsL_isHeld_r5 : List Cond := [Cond.methodLink RX3 52 yX3_checkLeaf, Cond.instanceMethod yX3_checkLeaf, Cond.selects RX3 yX3_checkLeaf yX3_checkLeaf, Cond.code yX3_checkLeaf cX3_checkLeaf 4 none, Cond.methodLink RX3 148 yX0_endsAt, Cond.instanceMethod yX0_endsAt, Cond.selects RX0 yX0_endsAt yX0_endsAt, Cond.code yX0_endsAt cX0_endsAt 2 (some .boolean), Cond.methodLink RX0 64 yX0_hasDescendantOf, Cond.instanceMethod yX0_hasDescendantOf, Cond.selects RX0 yX0_hasDescendantOf yX0_hasDescendantOf, Cond.code yX0_hasDescendantOf cX0_hasDescendantOf 2 (some .boolean), Cond.methodLink RX3 56 yX3_checkRoom, Cond.instanceMethod yX3_checkRoom, Cond.selects RX3 yX3_checkRoom yX3_checkRoom, Cond.code yX3_checkRoom cX3_checkRoom 1 none, Cond.methodLink RX3 59 yX3_grow, Cond.instanceMethod yX3_grow, Cond.selects RX3 yX3_grow yX3_grow, Cond.code yX3_grow cX3_grow 7 (some .int), Cond.methodLink RX3 199 yX2_find, Cond.instanceMethod yX2_find, Cond.selects RX2 yX2_find yX2_find, Cond.code yX2_find cX2_find 6 (some .int)]
def wsL_isHeld_r6 : List Cond := [Cond.methodLink RX3 203 yX2_make, Cond.instanceMethod yX2_make, Cond.selects RX2 yX2_make yX2_make, Cond.code yX2_make cX2_make 8 (some .int), Cond.methodLink RX3 206 yX1_append, Cond.instanceMethod yX1_append, Cond.selects RX1 yX1_append yX1_append, Cond.code yX1_append cX1_append 3 none, Cond.methodLink RX1 41 yX1_noteChange, Cond.instanceMethod yX1_noteChange, Cond.selects RX1 yX1_noteChange yX1_noteChange, Cond.code yX1_noteChange cX1_noteChange 3 none, Cond.methodLink RX1 49 yX0_survey, Cond.instanceMethod yX0_survey, Cond.selects RX0 yX0_survey yX0_survey, Cond.code yX0_survey cX0_survey 2 none, Cond.methodLink RX0 28 yX0_findLeaves, Cond.instanceMethod yX0_findLeaves, Cond.selects RX0 yX0_findLeaves yX0_findLeaves, Cond.code yX0_findLeaves cX0_findLeaves 5 none, Cond.methodLink RX0 51 Lib.Math.min.name, Cond.static Lib.Math.min.name, Cond.initialized "java/lang/Math", Cond.code Lib.Math.min.name Lib.Math.min.code 2 (some .int)]
def wsL_isHeld_r7 : List Cond := [Cond.methodLink RX0 44 yX0_endsAt, Cond.methodLink RX0 32 yX0_findWinners, Cond.instanceMethod yX0_findWinners, Cond.selects RX0 yX0_findWinners yX0_findWinners, Cond.code yX0_findWinners cX0_findWinners 5 none, Cond.methodLink RX0 60 yX2_isBetter, Cond.instanceMethod yX2_isBetter, Cond.selects RX2 yX2_isBetter yX2_isBetter, Cond.code yX2_isBetter cX2_isBetter 3 (some .boolean), Cond.methodLink RX1 53 yX0_stem, Cond.instanceMethod yX0_stem, Cond.selects RX0 yX0_stem yX0_stem, Cond.code yX0_stem cX0_stem 5 (some .int), Cond.methodLink RL 116 yL_add, Cond.static yL_add, Cond.code yL_add cL_add 14 (some .int), Cond.methodLink RL 27 yL_make, Cond.static yL_make, Cond.code yL_make cL_make 11 (some .int), Cond.methodLink RL 31 yL_stem, Cond.static yL_stem, Cond.code yL_stem cL_stem 7 (some .int), Cond.methodLink RL 19 yL_deep, Cond.static yL_deep]
def wsL_isHeld_r8 : List Cond := [Cond.code yL_deep cL_deep 13 (some .int), Cond.methodLink RL 23 yL_ones, Cond.static yL_ones, Cond.code yL_ones cL_ones 3 (some .int), Cond.methodLink RL 120 yL_edited, Cond.static yL_edited, Cond.codeWith yL_edited cL_edited 6 (some .int) [(0, 9, 10, 107)], Cond.methodLink RL 103 yX3_edit, Cond.instanceMethod yX3_edit, Cond.selects RX3 yX3_edit yX3_edit, Cond.code yX3_edit cX3_edit 6 (some .int), Cond.classLink RX3 41 "java/lang/IllegalArgumentException", Cond.initialized "java/lang/IllegalArgumentException", Cond.methodLink RX3 48 yX3_checkNotBegun, Cond.instanceMethod yX3_checkNotBegun, Cond.selects RX3 yX3_checkNotBegun yX3_checkNotBegun, Cond.code yX3_checkNotBegun cX3_checkNotBegun 3 none, Cond.methodLink RL 124 yX3_replicate, Cond.instanceMethod yX3_replicate, Cond.selects RX3 yX3_replicate yX3_replicate, Cond.code yX3_replicate cX3_replicate 10 (some .int), Cond.methodLink RX3 95 yX3_checkDifferent, Cond.instanceMethod yX3_checkDifferent, Cond.selects RX3 yX3_checkDifferent yX3_checkDifferent]
def wsL_isHeld_r9 : List Cond := [Cond.code yX3_checkDifferent cX3_checkDifferent 3 none, Cond.methodLink RX3 99 yX3_commonCheckpoint, Cond.instanceMethod yX3_commonCheckpoint, Cond.selects RX3 yX3_commonCheckpoint yX3_commonCheckpoint, Cond.code yX3_commonCheckpoint cX3_commonCheckpoint 4 (some .int), Cond.methodLink RX3 210 Lib.Math.min.name, Cond.methodLink RX3 121 yX3_pairOf, Cond.static yX3_pairOf, Cond.code yX3_pairOf cX3_pairOf 2 (some .int), Cond.methodLink RX3 103 yX1_nextChanged, Cond.instanceMethod yX1_nextChanged, Cond.selects RX1 yX1_nextChanged yX1_nextChanged, Cond.code yX1_nextChanged cX1_nextChanged 4 (some .int), Cond.methodLink RX3 107 yX1_receive, Cond.instanceMethod yX1_receive, Cond.selects RX1 yX1_receive yX1_receive, Cond.code yX1_receive cX1_receive 5 (some .int), Cond.methodLink RX1 45 yX0_addBranches, Cond.instanceMethod yX0_addBranches, Cond.selects RX0 yX0_addBranches yX0_addBranches, Cond.code yX0_addBranches cX0_addBranches 6 (some .int), Cond.methodLink RX0 67 yX0_addLine, Cond.instanceMethod yX0_addLine, Cond.selects RX0 yX0_addLine yX0_addLine]
def wsL_isHeld_r10 : List Cond := [Cond.code yX0_addLine cX0_addLine 7 (some .int), Cond.methodLink RL 127 yL_replicated, Cond.static yL_replicated, Cond.code yL_replicated cL_replicated 15 (some .int), Cond.methodLink RL 35 yL_start, Cond.static yL_start, Cond.code yL_start cL_start 5 (some .int), Cond.methodLink RL 39 yL_got, Cond.static yL_got, Cond.code yL_got cL_got 14 (some .int), Cond.methodLink RL 130 yX3_setDepth, Cond.instanceMethod yX3_setDepth, Cond.selects RX3 yX3_setDepth yX3_setDepth, Cond.code yX3_setDepth cX3_setDepth 4 (some .int), Cond.methodLink RX3 81 yX0_stem, Cond.methodLink RL 133 yX3_wipe, Cond.instanceMethod yX3_wipe, Cond.selects RX3 yX3_wipe yX3_wipe, Cond.code yX3_wipe cX3_wipe 4 (some .int), Cond.methodLink RX3 85 yX0_countAll, Cond.instanceMethod yX0_countAll, Cond.selects RX0 yX0_countAll yX0_countAll, Cond.code yX0_countAll cX0_countAll 4 (some .int), Cond.methodLink RX3 89 yX1_clear]
def wsL_isHeld_r11 : List Cond := [Cond.instanceMethod yX1_clear, Cond.selects RX1 yX1_clear yX1_clear, Cond.code yX1_clear cX1_clear 2 none, Cond.methodLink RX1 57 yX0_removeAll, Cond.instanceMethod yX0_removeAll, Cond.selects RX0 yX0_removeAll yX0_removeAll, Cond.code yX0_removeAll cX0_removeAll 2 none, Cond.methodLink RX1 60 yJ7_fill_53178, Cond.methodLink RL 145 yL_areRevisions, Cond.static yL_areRevisions, Cond.code yL_areRevisions cL_areRevisions 9 (some .boolean), Cond.methodLink RL 88 yX3_documentOf, Cond.instanceMethod yX3_documentOf, Cond.selects RX3 yX3_documentOf yX3_documentOf, Cond.code yX3_documentOf cX3_documentOf 2 (some .int), Cond.methodLink RL 91 yX3_parentOf, Cond.instanceMethod yX3_parentOf, Cond.selects RX3 yX3_parentOf yX3_parentOf, Cond.code yX3_parentOf cX3_parentOf 2 (some .int), Cond.methodLink RL 94 yX3_generation, Cond.instanceMethod yX3_generation, Cond.selects RX3 yX3_generation yX3_generation, Cond.code yX3_generation cX3_generation 2 (some .int), Cond.methodLink RL 97 yX3_sum]
def wsL_isHeld_r12 : List Cond := [Cond.instanceMethod yX3_sum, Cond.selects RX3 yX3_sum yX3_sum, Cond.code yX3_sum cX3_sum 2 (some .int), Cond.methodLink RL 100 yX3_valueOf, Cond.instanceMethod yX3_valueOf, Cond.selects RX3 yX3_valueOf yX3_valueOf, Cond.code yX3_valueOf cX3_valueOf 2 (some .int), Cond.methodLink RL 149 yL_areStores, Cond.static yL_areStores, Cond.code yL_areStores cL_areStores 18 (some .boolean), Cond.methodLink RL 43 yX3_revisions, Cond.instanceMethod yX3_revisions, Cond.selects RX3 yX3_revisions yX3_revisions, Cond.code yX3_revisions cX3_revisions 1 (some .int), Cond.methodLink RL 49 yX3_sequence, Cond.instanceMethod yX3_sequence, Cond.selects RX3 yX3_sequence yX3_sequence, Cond.code yX3_sequence cX3_sequence 2 (some .int), Cond.methodLink RL 52 yX3_size, Cond.instanceMethod yX3_size, Cond.selects RX3 yX3_size yX3_size, Cond.code yX3_size cX3_size 2 (some .int), Cond.methodLink RL 55 yL_winner, Cond.static yL_winner]
def wsL_isHeld_r13 : List Cond := [Cond.code yL_winner cL_winner 11 (some .int), Cond.methodLink RL 15 yL_rank, Cond.static yL_rank, Cond.code yL_rank cL_rank 4 (some .int), Cond.methodLink RL 59 yX3_isLeaf, Cond.instanceMethod yX3_isLeaf, Cond.selects RX3 yX3_isLeaf yX3_isLeaf, Cond.code yX3_isLeaf cX3_isLeaf 4 (some .boolean), Cond.methodLink RL 63 yX3_has, Cond.instanceMethod yX3_has, Cond.selects RX3 yX3_has yX3_has, Cond.code yX3_has cX3_has 4 (some .boolean), Cond.methodLink RL 66 yX3_winner, Cond.instanceMethod yX3_winner, Cond.selects RX3 yX3_winner yX3_winner, Cond.code yX3_winner cX3_winner 4 (some .int), Cond.methodLink RL 69 yX3_conflicts, Cond.instanceMethod yX3_conflicts, Cond.selects RX3 yX3_conflicts yX3_conflicts, Cond.code yX3_conflicts cX3_conflicts 4 (some .int), Cond.methodLink RX3 168 Lib.Math.max.name, Cond.static Lib.Math.max.name, Cond.code Lib.Math.max.name Lib.Math.max.code 2 (some .int), Cond.methodLink RX3 165 yX0_countLiveLeaves]
def wsL_isHeld_r14 : List Cond := [Cond.instanceMethod yX0_countLiveLeaves, Cond.selects RX0 yX0_countLiveLeaves yX0_countLiveLeaves, Cond.code yX0_countLiveLeaves cX0_countLiveLeaves 5 (some .int), Cond.methodLink RL 72 yX3_count, Cond.instanceMethod yX3_count, Cond.selects RX3 yX3_count yX3_count, Cond.code yX3_count cX3_count 8 (some .int), Cond.methodLink RX3 173 yX0_shownValue, Cond.instanceMethod yX0_shownValue, Cond.selects RX0 yX0_shownValue yX0_shownValue, Cond.code yX0_shownValue cX0_shownValue 4 (some .int), Cond.methodLink RL 76 yX3_winnerOfAll, Cond.instanceMethod yX3_winnerOfAll, Cond.selects RX3 yX3_winnerOfAll yX3_winnerOfAll, Cond.code yX3_winnerOfAll cX3_winnerOfAll 3 (some .int), Cond.methodLink RX3 155 yX0_removeAll, Cond.methodLink RX3 158 yX0_addAll, Cond.instanceMethod yX0_addAll, Cond.selects RX0 yX0_addAll yX0_addAll, Cond.code yX0_addAll cX0_addAll 4 none, Cond.methodLink RX3 162 yX0_survey, Cond.methodLink RL 79 yX3_viewAt, Cond.instanceMethod yX3_viewAt, Cond.selects RX3 yX3_viewAt yX3_viewAt]
def wsL_isHeld_r15 : List Cond := [Cond.code yX3_viewAt cX3_viewAt 6 (some .int), Cond.methodLink RX3 176 yX0_countShownBefore, Cond.instanceMethod yX0_countShownBefore, Cond.selects RX0 yX0_countShownBefore yX0_countShownBefore, Cond.code yX0_countShownBefore cX0_countShownBefore 7 (some .int), Cond.methodLink RX0 77 yX0_shownValue, Cond.methodLink RL 82 yX3_checkpoint, Cond.instanceMethod yX3_checkpoint, Cond.selects RX3 yX3_checkpoint yX3_checkpoint, Cond.code yX3_checkpoint cX3_checkpoint 3 (some .int), Cond.methodLink RL 85 yX3_pending, Cond.instanceMethod yX3_pending, Cond.selects RX3 yX3_pending yX3_pending, Cond.code yX3_pending cX3_pending 4 (some .int), Cond.methodLink RX3 124 yX1_countChanged, Cond.instanceMethod yX1_countChanged, Cond.selects RX1 yX1_countChanged yX1_countChanged, Cond.code yX1_countChanged cX1_countChanged 4 (some .int)]
def wsL_isHeld : List Cond := .codeWith yL_isHeld cL_isHeld 2 (some .boolean) [(0, 4, 5, 157), (0, 4, 8, 159), (0, 4, 11, 107)] :: ((wsL_isHeld_r1 ++ (wsL_isHeld_r2 ++ (wsL_isHeld_r3 ++ (wsL_isHeld_r4 ++ (wsL_isHeld_r5 ++ (wsL_isHeld_r6 ++ (wsL_isHeld_r7 ++ (wsL_isHeld_r8 ++ (wsL_isHeld_r9 ++ (wsL_isHeld_r10 ++ (wsL_isHeld_r11 ++ (wsL_isHeld_r12 ++ (wsL_isHeld_r13 ++ (wsL_isHeld_r14 ++ wsL_isHeld_r15)))))))))))))) ++ wsX30 ++ wsX20 ++ wsX00 ++ wsX10 ++ (vx_atS RX3 71 "java/lang/IllegalStateException" ["java/lang/RuntimeException", "java/lang/Exception"]).filter goodWord ++ (vx_atS RX3 184 "java/lang/IndexOutOfBoundsException" ["java/lang/RuntimeException", "java/lang/Exception"]).filter goodWord ++ (vx_atS RX3 45 "java/lang/IllegalArgumentException" ["java/lang/RuntimeException", "java/lang/Exception"]).filter goodWord)
def wsL_law0_r1 : List Cond := [Cond.methodLink RL 161 yL_isHeld, Cond.static yL_isHeld, Cond.initialized RL, Cond.codeWith yL_isHeld cL_isHeld 2 (some .boolean) [(0, 4, 5, 157), (0, 4, 8, 159), (0, 4, 11, 107)], Cond.classLink RL 157 "java/lang/IndexOutOfBoundsException", Cond.classLink RL 159 "java/lang/IllegalArgumentException", Cond.methodLink RL 153 yL_holds, Cond.static yL_holds, Cond.code yL_holds cL_holds 14 (some .boolean), Cond.classLink RL 44 RX3, Cond.instantiable RX3 3, Cond.initialized RX3, Cond.arrayClass .int, Cond.constant RL 140 (1000000), Cond.methodLink RL 136 yX3_init, Cond.instanceMethod yX3_init, Cond.code yX3_init cX3_init 2 none, Cond.methodLink RX3 1 objectInit, Cond.instanceMethod objectInit, Cond.code objectInit ⟨#[0xb1]⟩ 1 none, Cond.classLink RX3 7 RX2, Cond.instantiable RX2 7, Cond.initialized RX2, Cond.fieldLink RX3 10 "RevisionStores" "tree" "LRevisionStores$Tree;"]
def wsL_law0_r2 : List Cond := [Cond.classLink RX3 16 RX1, Cond.fieldLink RX3 18 "RevisionStores" "stores" "[LRevisionStores$Store;", Cond.classLink RX3 22 RX0, Cond.instantiable RX0 3, Cond.initialized RX0, Cond.fieldLink RX3 25 "RevisionStores" "union" "LRevisionStores$Holding;", Cond.instantiable RX1 5, Cond.initialized RX1, Cond.instanceMethod yX2_init, Cond.code yX2_init cX2_init 1 none, Cond.methodLink RX2 3 objectInit, Cond.fieldLink RX2 9 "RevisionStores$Tree" "documents" "[I", Cond.fieldLink RX2 15 "RevisionStores$Tree" "parents" "[I", Cond.fieldLink RX2 18 "RevisionStores$Tree" "values" "[I", Cond.arrayClass .boolean, Cond.fieldLink RX2 21 "RevisionStores$Tree" "deletions" "[Z", Cond.fieldLink RX2 25 "RevisionStores$Tree" "generations" "[I", Cond.fieldLink RX2 28 "RevisionStores$Tree" "sums" "[I", Cond.fieldLink RX2 31 "RevisionStores$Tree" "made" "I", Cond.methodLink RX3 24 yX0_init, Cond.instanceMethod yX0_init, Cond.code yX0_init cX0_init 1 none, Cond.methodLink RX0 3 objectInit, Cond.fieldLink RX0 9 "RevisionStores$Holding" "held" "[Z"]
def wsL_law0_r3 : List Cond := [Cond.fieldLink RX0 15 "RevisionStores$Holding" "nearestLeaf" "[I", Cond.fieldLink RX0 19 "RevisionStores$Holding" "winners" "[I", Cond.methodLink RX0 22 yJ7_fill_53178, Cond.static yJ7_fill_53178, Cond.initialized RJ7, Cond.code yJ7_fill_53178 cJ7_fill_53178 4 none, Cond.instanceMethod yX1_init, Cond.code yX1_init cX1_init 1 none, Cond.methodLink RX1 3 objectInit, Cond.classLink RX1 9 RX0, Cond.fieldLink RX1 12 "RevisionStores$Store" "holding" "LRevisionStores$Holding;", Cond.fieldLink RX1 18 "RevisionStores$Store" "depth" "I", Cond.fieldLink RX1 22 "RevisionStores$Store" "latest" "I", Cond.fieldLink RX1 25 "RevisionStores$Store" "changes" "[I", Cond.fieldLink RX1 29 "RevisionStores$Store" "checkpoints" "[I", Cond.methodLink RX1 11 yX0_init, Cond.methodLink RL 137 yL_from, Cond.static yL_from, Cond.code yL_from cL_from 4 (some .int), Cond.constant RL 7 (130027), Cond.constant RL 8 (2147483647), Cond.methodLink RL 141 yL_acts, Cond.static yL_acts, Cond.code yL_acts cL_acts 22 (some .boolean)]
def wsL_law0_r4 : List Cond := [Cond.methodLink RL 9 yL_leaves, Cond.static yL_leaves, Cond.code yL_leaves cL_leaves 9 (some .int), Cond.methodLink RL 112 yL_deleted, Cond.static yL_deleted, Cond.codeWith yL_deleted cL_deleted 5 (some .int) [(0, 7, 8, 107)], Cond.classLink RL 107 "java/lang/IllegalStateException", Cond.methodLink RL 109 yX3_delete, Cond.instanceMethod yX3_delete, Cond.selects RX3 yX3_delete yX3_delete, Cond.code yX3_delete cX3_delete 5 (some .int), Cond.classLink RX3 67 "java/lang/IllegalStateException", Cond.initialized "java/lang/IllegalStateException", Cond.methodLink RX3 30 yX3_storeAt, Cond.instanceMethod yX3_storeAt, Cond.selects RX3 yX3_storeAt yX3_storeAt, Cond.code yX3_storeAt cX3_storeAt 2 (some (.object "RevisionStores$Store")), Cond.classLink RX3 180 "java/lang/IndexOutOfBoundsException", Cond.initialized "java/lang/IndexOutOfBoundsException", Cond.methodLink RX3 34 yX3_checkDocument, Cond.instanceMethod yX3_checkDocument, Cond.selects RX3 yX3_checkDocument yX3_checkDocument, Cond.code yX3_checkDocument cX3_checkDocument 2 none, Cond.methodLink RX3 38 yX3_checkRevision]
def wsL_law0_r5 : List Cond := [Cond.instanceMethod yX3_checkRevision, Cond.selects RX3 yX3_checkRevision yX3_checkRevision, Cond.code yX3_checkRevision cX3_checkRevision 2 none, Cond.methodLink RX3 52 yX3_checkLeaf, Cond.instanceMethod yX3_checkLeaf, Cond.selects RX3 yX3_checkLeaf yX3_checkLeaf, Cond.code yX3_checkLeaf cX3_checkLeaf 4 none, Cond.methodLink RX3 148 yX0_endsAt, Cond.instanceMethod yX0_endsAt, Cond.selects RX0 yX0_endsAt yX0_endsAt, Cond.code yX0_endsAt cX0_endsAt 2 (some .boolean), Cond.methodLink RX0 64 yX0_hasDescendantOf, Cond.instanceMethod yX0_hasDescendantOf, Cond.selects RX0 yX0_hasDescendantOf yX0_hasDescendantOf, Cond.code yX0_hasDescendantOf cX0_hasDescendantOf 2 (some .boolean), Cond.methodLink RX3 56 yX3_checkRoom, Cond.instanceMethod yX3_checkRoom, Cond.selects RX3 yX3_checkRoom yX3_checkRoom, Cond.code yX3_checkRoom cX3_checkRoom 1 none, Cond.methodLink RX3 59 yX3_grow, Cond.instanceMethod yX3_grow, Cond.selects RX3 yX3_grow yX3_grow, Cond.code yX3_grow cX3_grow 7 (some .int), Cond.methodLink RX3 199 yX2_find]
def wsL_law0_r6 : List Cond := [Cond.instanceMethod yX2_find, Cond.selects RX2 yX2_find yX2_find, Cond.code yX2_find cX2_find 6 (some .int), Cond.methodLink RX3 203 yX2_make, Cond.instanceMethod yX2_make, Cond.selects RX2 yX2_make yX2_make, Cond.code yX2_make cX2_make 8 (some .int), Cond.methodLink RX3 206 yX1_append, Cond.instanceMethod yX1_append, Cond.selects RX1 yX1_append yX1_append, Cond.code yX1_append cX1_append 3 none, Cond.methodLink RX1 41 yX1_noteChange, Cond.instanceMethod yX1_noteChange, Cond.selects RX1 yX1_noteChange yX1_noteChange, Cond.code yX1_noteChange cX1_noteChange 3 none, Cond.methodLink RX1 49 yX0_survey, Cond.instanceMethod yX0_survey, Cond.selects RX0 yX0_survey yX0_survey, Cond.code yX0_survey cX0_survey 2 none, Cond.methodLink RX0 28 yX0_findLeaves, Cond.instanceMethod yX0_findLeaves, Cond.selects RX0 yX0_findLeaves yX0_findLeaves, Cond.code yX0_findLeaves cX0_findLeaves 5 none, Cond.methodLink RX0 51 Lib.Math.min.name]
def wsL_law0_r7 : List Cond := [Cond.static Lib.Math.min.name, Cond.initialized "java/lang/Math", Cond.code Lib.Math.min.name Lib.Math.min.code 2 (some .int), Cond.methodLink RX0 44 yX0_endsAt, Cond.methodLink RX0 32 yX0_findWinners, Cond.instanceMethod yX0_findWinners, Cond.selects RX0 yX0_findWinners yX0_findWinners, Cond.code yX0_findWinners cX0_findWinners 5 none, Cond.methodLink RX0 60 yX2_isBetter, Cond.instanceMethod yX2_isBetter, Cond.selects RX2 yX2_isBetter yX2_isBetter, Cond.code yX2_isBetter cX2_isBetter 3 (some .boolean), Cond.methodLink RX1 53 yX0_stem, Cond.instanceMethod yX0_stem, Cond.selects RX0 yX0_stem yX0_stem, Cond.code yX0_stem cX0_stem 5 (some .int), Cond.methodLink RL 116 yL_add, Cond.static yL_add, Cond.code yL_add cL_add 14 (some .int), Cond.methodLink RL 27 yL_make, Cond.static yL_make, Cond.code yL_make cL_make 11 (some .int), Cond.methodLink RL 31 yL_stem, Cond.static yL_stem]
def wsL_law0_r8 : List Cond := [Cond.code yL_stem cL_stem 7 (some .int), Cond.methodLink RL 19 yL_deep, Cond.static yL_deep, Cond.code yL_deep cL_deep 13 (some .int), Cond.methodLink RL 23 yL_ones, Cond.static yL_ones, Cond.code yL_ones cL_ones 3 (some .int), Cond.methodLink RL 120 yL_edited, Cond.static yL_edited, Cond.codeWith yL_edited cL_edited 6 (some .int) [(0, 9, 10, 107)], Cond.methodLink RL 103 yX3_edit, Cond.instanceMethod yX3_edit, Cond.selects RX3 yX3_edit yX3_edit, Cond.code yX3_edit cX3_edit 6 (some .int), Cond.classLink RX3 41 "java/lang/IllegalArgumentException", Cond.initialized "java/lang/IllegalArgumentException", Cond.methodLink RX3 48 yX3_checkNotBegun, Cond.instanceMethod yX3_checkNotBegun, Cond.selects RX3 yX3_checkNotBegun yX3_checkNotBegun, Cond.code yX3_checkNotBegun cX3_checkNotBegun 3 none, Cond.methodLink RL 124 yX3_replicate, Cond.instanceMethod yX3_replicate, Cond.selects RX3 yX3_replicate yX3_replicate, Cond.code yX3_replicate cX3_replicate 10 (some .int)]
def wsL_law0_r9 : List Cond := [Cond.methodLink RX3 95 yX3_checkDifferent, Cond.instanceMethod yX3_checkDifferent, Cond.selects RX3 yX3_checkDifferent yX3_checkDifferent, Cond.code yX3_checkDifferent cX3_checkDifferent 3 none, Cond.methodLink RX3 99 yX3_commonCheckpoint, Cond.instanceMethod yX3_commonCheckpoint, Cond.selects RX3 yX3_commonCheckpoint yX3_commonCheckpoint, Cond.code yX3_commonCheckpoint cX3_commonCheckpoint 4 (some .int), Cond.methodLink RX3 210 Lib.Math.min.name, Cond.methodLink RX3 121 yX3_pairOf, Cond.static yX3_pairOf, Cond.code yX3_pairOf cX3_pairOf 2 (some .int), Cond.methodLink RX3 103 yX1_nextChanged, Cond.instanceMethod yX1_nextChanged, Cond.selects RX1 yX1_nextChanged yX1_nextChanged, Cond.code yX1_nextChanged cX1_nextChanged 4 (some .int), Cond.methodLink RX3 107 yX1_receive, Cond.instanceMethod yX1_receive, Cond.selects RX1 yX1_receive yX1_receive, Cond.code yX1_receive cX1_receive 5 (some .int), Cond.methodLink RX1 45 yX0_addBranches, Cond.instanceMethod yX0_addBranches, Cond.selects RX0 yX0_addBranches yX0_addBranches, Cond.code yX0_addBranches cX0_addBranches 6 (some .int)]
def wsL_law0_r10 : List Cond := [Cond.methodLink RX0 67 yX0_addLine, Cond.instanceMethod yX0_addLine, Cond.selects RX0 yX0_addLine yX0_addLine, Cond.code yX0_addLine cX0_addLine 7 (some .int), Cond.methodLink RL 127 yL_replicated, Cond.static yL_replicated, Cond.code yL_replicated cL_replicated 15 (some .int), Cond.methodLink RL 35 yL_start, Cond.static yL_start, Cond.code yL_start cL_start 5 (some .int), Cond.methodLink RL 39 yL_got, Cond.static yL_got, Cond.code yL_got cL_got 14 (some .int), Cond.methodLink RL 130 yX3_setDepth, Cond.instanceMethod yX3_setDepth, Cond.selects RX3 yX3_setDepth yX3_setDepth, Cond.code yX3_setDepth cX3_setDepth 4 (some .int), Cond.methodLink RX3 81 yX0_stem, Cond.methodLink RL 133 yX3_wipe, Cond.instanceMethod yX3_wipe, Cond.selects RX3 yX3_wipe yX3_wipe, Cond.code yX3_wipe cX3_wipe 4 (some .int), Cond.methodLink RX3 85 yX0_countAll, Cond.instanceMethod yX0_countAll]
def wsL_law0_r11 : List Cond := [Cond.selects RX0 yX0_countAll yX0_countAll, Cond.code yX0_countAll cX0_countAll 4 (some .int), Cond.methodLink RX3 89 yX1_clear, Cond.instanceMethod yX1_clear, Cond.selects RX1 yX1_clear yX1_clear, Cond.code yX1_clear cX1_clear 2 none, Cond.methodLink RX1 57 yX0_removeAll, Cond.instanceMethod yX0_removeAll, Cond.selects RX0 yX0_removeAll yX0_removeAll, Cond.code yX0_removeAll cX0_removeAll 2 none, Cond.methodLink RX1 60 yJ7_fill_53178, Cond.methodLink RL 145 yL_areRevisions, Cond.static yL_areRevisions, Cond.code yL_areRevisions cL_areRevisions 9 (some .boolean), Cond.methodLink RL 88 yX3_documentOf, Cond.instanceMethod yX3_documentOf, Cond.selects RX3 yX3_documentOf yX3_documentOf, Cond.code yX3_documentOf cX3_documentOf 2 (some .int), Cond.methodLink RL 91 yX3_parentOf, Cond.instanceMethod yX3_parentOf, Cond.selects RX3 yX3_parentOf yX3_parentOf, Cond.code yX3_parentOf cX3_parentOf 2 (some .int), Cond.methodLink RL 94 yX3_generation, Cond.instanceMethod yX3_generation]
def wsL_law0_r12 : List Cond := [Cond.selects RX3 yX3_generation yX3_generation, Cond.code yX3_generation cX3_generation 2 (some .int), Cond.methodLink RL 97 yX3_sum, Cond.instanceMethod yX3_sum, Cond.selects RX3 yX3_sum yX3_sum, Cond.code yX3_sum cX3_sum 2 (some .int), Cond.methodLink RL 100 yX3_valueOf, Cond.instanceMethod yX3_valueOf, Cond.selects RX3 yX3_valueOf yX3_valueOf, Cond.code yX3_valueOf cX3_valueOf 2 (some .int), Cond.methodLink RL 149 yL_areStores, Cond.static yL_areStores, Cond.code yL_areStores cL_areStores 18 (some .boolean), Cond.methodLink RL 43 yX3_revisions, Cond.instanceMethod yX3_revisions, Cond.selects RX3 yX3_revisions yX3_revisions, Cond.code yX3_revisions cX3_revisions 1 (some .int), Cond.methodLink RL 49 yX3_sequence, Cond.instanceMethod yX3_sequence, Cond.selects RX3 yX3_sequence yX3_sequence, Cond.code yX3_sequence cX3_sequence 2 (some .int), Cond.methodLink RL 52 yX3_size, Cond.instanceMethod yX3_size, Cond.selects RX3 yX3_size yX3_size]
def wsL_law0_r13 : List Cond := [Cond.code yX3_size cX3_size 2 (some .int), Cond.methodLink RL 55 yL_winner, Cond.static yL_winner, Cond.code yL_winner cL_winner 11 (some .int), Cond.methodLink RL 15 yL_rank, Cond.static yL_rank, Cond.code yL_rank cL_rank 4 (some .int), Cond.methodLink RL 59 yX3_isLeaf, Cond.instanceMethod yX3_isLeaf, Cond.selects RX3 yX3_isLeaf yX3_isLeaf, Cond.code yX3_isLeaf cX3_isLeaf 4 (some .boolean), Cond.methodLink RL 63 yX3_has, Cond.instanceMethod yX3_has, Cond.selects RX3 yX3_has yX3_has, Cond.code yX3_has cX3_has 4 (some .boolean), Cond.methodLink RL 66 yX3_winner, Cond.instanceMethod yX3_winner, Cond.selects RX3 yX3_winner yX3_winner, Cond.code yX3_winner cX3_winner 4 (some .int), Cond.methodLink RL 69 yX3_conflicts, Cond.instanceMethod yX3_conflicts, Cond.selects RX3 yX3_conflicts yX3_conflicts, Cond.code yX3_conflicts cX3_conflicts 4 (some .int), Cond.methodLink RX3 168 Lib.Math.max.name]
def wsL_law0_r14 : List Cond := [Cond.static Lib.Math.max.name, Cond.code Lib.Math.max.name Lib.Math.max.code 2 (some .int), Cond.methodLink RX3 165 yX0_countLiveLeaves, Cond.instanceMethod yX0_countLiveLeaves, Cond.selects RX0 yX0_countLiveLeaves yX0_countLiveLeaves, Cond.code yX0_countLiveLeaves cX0_countLiveLeaves 5 (some .int), Cond.methodLink RL 72 yX3_count, Cond.instanceMethod yX3_count, Cond.selects RX3 yX3_count yX3_count, Cond.code yX3_count cX3_count 8 (some .int), Cond.methodLink RX3 173 yX0_shownValue, Cond.instanceMethod yX0_shownValue, Cond.selects RX0 yX0_shownValue yX0_shownValue, Cond.code yX0_shownValue cX0_shownValue 4 (some .int), Cond.methodLink RL 76 yX3_winnerOfAll, Cond.instanceMethod yX3_winnerOfAll, Cond.selects RX3 yX3_winnerOfAll yX3_winnerOfAll, Cond.code yX3_winnerOfAll cX3_winnerOfAll 3 (some .int), Cond.methodLink RX3 155 yX0_removeAll, Cond.methodLink RX3 158 yX0_addAll, Cond.instanceMethod yX0_addAll, Cond.selects RX0 yX0_addAll yX0_addAll, Cond.code yX0_addAll cX0_addAll 4 none, Cond.methodLink RX3 162 yX0_survey]
def wsL_law0_r15 : List Cond := [Cond.methodLink RL 79 yX3_viewAt, Cond.instanceMethod yX3_viewAt, Cond.selects RX3 yX3_viewAt yX3_viewAt, Cond.code yX3_viewAt cX3_viewAt 6 (some .int), Cond.methodLink RX3 176 yX0_countShownBefore, Cond.instanceMethod yX0_countShownBefore, Cond.selects RX0 yX0_countShownBefore yX0_countShownBefore, Cond.code yX0_countShownBefore cX0_countShownBefore 7 (some .int), Cond.methodLink RX0 77 yX0_shownValue, Cond.methodLink RL 82 yX3_checkpoint, Cond.instanceMethod yX3_checkpoint, Cond.selects RX3 yX3_checkpoint yX3_checkpoint, Cond.code yX3_checkpoint cX3_checkpoint 3 (some .int), Cond.methodLink RL 85 yX3_pending, Cond.instanceMethod yX3_pending, Cond.selects RX3 yX3_pending yX3_pending, Cond.code yX3_pending cX3_pending 4 (some .int), Cond.methodLink RX3 124 yX1_countChanged, Cond.instanceMethod yX1_countChanged, Cond.selects RX1 yX1_countChanged yX1_countChanged, Cond.code yX1_countChanged cX1_countChanged 4 (some .int)]
def wsL_law0 : List Cond := (wsL_law0_r1 ++ (wsL_law0_r2 ++ (wsL_law0_r3 ++ (wsL_law0_r4 ++ (wsL_law0_r5 ++ (wsL_law0_r6 ++ (wsL_law0_r7 ++ (wsL_law0_r8 ++ (wsL_law0_r9 ++ (wsL_law0_r10 ++ (wsL_law0_r11 ++ (wsL_law0_r12 ++ (wsL_law0_r13 ++ (wsL_law0_r14 ++ wsL_law0_r15)))))))))))))) ++ wsX30 ++ wsX20 ++ wsX00 ++ wsX10 ++ ([] : List Cond)
def wsL_law : List Cond := wsL_law0 ++ (vx_atS RX3 71 "java/lang/IllegalStateException" ["java/lang/RuntimeException", "java/lang/Exception"]).filter goodWord ++ (vx_atS RX3 184 "java/lang/IndexOutOfBoundsException" ["java/lang/RuntimeException", "java/lang/Exception"]).filter goodWord ++ (vx_atS RX3 45 "java/lang/IllegalArgumentException" ["java/lang/RuntimeException", "java/lang/Exception"]).filter goodWord
end
section
theorem mem_r {big : List Cond} (ws : List Cond) (ps : List Nat) (hp : ws = ps.filterMap (fun i => big[i]?)) : ∀ w ∈ ws, w ∈ big := by
  intro w hw
  rw [hp] at hw
  obtain ⟨i, -, hi⟩ := List.mem_filterMap.mp hw
  exact List.mem_of_getElem? hi
theorem mem_app {big a b : List Cond} (ha : ∀ w ∈ a, w ∈ big) (hb : ∀ w ∈ b, w ∈ big) : ∀ w ∈ a ++ b, w ∈ big := fun w h => (List.mem_append.mp h).elim (ha w) (hb w)
theorem mem_td {big ws : List Cond} (k : Nat) (h1 : ∀ w ∈ ws.take k, w ∈ big) (h2 : ∀ w ∈ ws.drop k, w ∈ big) : ∀ w ∈ ws, w ∈ big := by
  intro w hw
  rw [← List.take_append_drop k ws] at hw
  exact (List.mem_append.mp hw).elim (h1 w) (h2 w)
set_option maxRecDepth 20000 in
theorem wsL_law0_p1 : ∀ w ∈ wsL_law0_r1, w ∈ lw_tbl := mem_r _ [27, 28, 14, 29, 30, 31, 33, 34, 35, 36, 37, 15, 86, 155, 38, 39, 40, 41, 42, 43, 44, 45, 16, 140] (by decide +kernel)
set_option maxRecDepth 20000 in
theorem wsL_law0_p2 : ∀ w ∈ wsL_law0_r2, w ∈ lw_tbl := mem_r _ [88, 141, 90, 91, 17, 142, 112, 19, 47, 48, 49, 50, 54, 57, 87, 60, 63, 66, 68, 92, 93, 94, 95, 99] (by decide +kernel)
set_option maxRecDepth 20000 in
theorem wsL_law0_p3a : ∀ w ∈ (wsL_law0_r3).take 23, w ∈ lw_tbl := mem_r _ [102, 103, 96, 97, 18, 98, 114, 115, 116, 117, 119, 121, 123, 125, 127, 118, 150, 151, 152, 153, 154, 156, 157] (by decide +kernel)
set_option maxRecDepth 100000 in
theorem wsL_law0_p3b : ∀ w ∈ ((wsL_law0_r3).drop 23).take 1, w ∈ lw_tbl := by
  show ∀ w ∈ [Cond.code yL_acts cL_acts 22 (some .boolean)], w ∈ lw_tbl
  intro w hw
  rw [List.mem_singleton.mp hw]
  exact List.mem_append_right _ (List.mem_of_getElem? (l := tables_1) (i := 144) rfl)
set_option maxRecDepth 20000 in
theorem wsL_law0_p3c : ∀ w ∈ ((wsL_law0_r3).drop 23).drop 1, w ∈ lw_tbl := mem_r _ [] (by decide +kernel)
theorem wsL_law0_p3 : ∀ w ∈ wsL_law0_r3, w ∈ lw_tbl := mem_td 23 wsL_law0_p3a (mem_td 1 wsL_law0_p3b wsL_law0_p3c)
set_option maxRecDepth 20000 in
theorem wsL_law0_p4 : ∀ w ∈ wsL_law0_r4, w ∈ lw_tbl := mem_r _ [159, 160, 161, 162, 163, 164, 32, 165, 166, 167, 168, 263, 24, 169, 171, 0, 172, 173, 23, 241, 243, 2, 244, 246] (by decide +kernel)
set_option maxRecDepth 20000 in
theorem wsL_law0_p5 : ∀ w ∈ wsL_law0_r5, w ∈ lw_tbl := mem_r _ [248, 3, 249, 251, 253, 4, 254, 255, 256, 257, 258, 259, 260, 261, 262, 280, 282, 5, 283, 285, 287, 6, 288, 289] (by decide +kernel)
set_option maxRecDepth 20000 in
theorem wsL_law0_p6 : ∀ w ∈ wsL_law0_r6, w ∈ lw_tbl := mem_r _ [290, 291, 292, 293, 294, 295, 296, 297, 298, 299, 300, 301, 303, 7, 304, 305, 306, 307, 308, 309, 311, 8, 312, 314] (by decide +kernel)
set_option maxRecDepth 20000 in
theorem wsL_law0_p7 : ∀ w ∈ wsL_law0_r7, w ∈ lw_tbl := mem_r _ [315, 25, 316, 313, 317, 319, 9, 320, 321, 322, 323, 324, 325, 326, 327, 328, 329, 330, 331, 332, 333, 334, 335, 336] (by decide +kernel)
set_option maxRecDepth 20000 in
theorem wsL_law0_p8 : ∀ w ∈ wsL_law0_r8, w ∈ lw_tbl := mem_r _ [337, 338, 339, 340, 341, 342, 343, 344, 345, 346, 347, 348, 349, 350, 351, 26, 367, 369, 10, 370, 372, 373, 374, 375] (by decide +kernel)
set_option maxRecDepth 20000 in
theorem wsL_law0_p9 : ∀ w ∈ wsL_law0_r9, w ∈ lw_tbl := mem_r _ [377, 379, 11, 380, 382, 384, 12, 385, 389, 386, 387, 388, 390, 391, 392, 393, 394, 395, 396, 397, 398, 399, 400, 401] (by decide +kernel)
set_option maxRecDepth 20000 in
theorem wsL_law0_p10 : ∀ w ∈ wsL_law0_r10, w ∈ lw_tbl := mem_r _ [402, 404, 13, 405, 406, 407, 408, 409, 410, 411, 412, 413, 414, 415, 416, 417, 418, 420, 421, 422, 423, 424, 425, 426] (by decide +kernel)
set_option maxRecDepth 20000 in
theorem wsL_law0_p11 : ∀ w ∈ wsL_law0_r11, w ∈ lw_tbl := mem_r _ [427, 428, 429, 430, 431, 432, 433, 434, 435, 436, 437, 438, 439, 440, 441, 442, 443, 444, 445, 446, 447, 448, 449, 450] (by decide +kernel)
set_option maxRecDepth 20000 in
theorem wsL_law0_p12a : ∀ w ∈ (wsL_law0_r12).take 12, w ∈ lw_tbl := mem_r _ [451, 452, 453, 454, 455, 456, 457, 458, 459, 460, 461, 462] (by decide +kernel)
set_option maxRecDepth 100000 in
theorem wsL_law0_p12b : ∀ w ∈ ((wsL_law0_r12).drop 12).take 1, w ∈ lw_tbl := by
  show ∀ w ∈ [Cond.code yL_areStores cL_areStores 18 (some .boolean)], w ∈ lw_tbl
  intro w hw
  rw [List.mem_singleton.mp hw]
  exact List.mem_append_right _ (List.mem_of_getElem? (l := tables_1) (i := 449) rfl)
set_option maxRecDepth 20000 in
theorem wsL_law0_p12c : ∀ w ∈ ((wsL_law0_r12).drop 12).drop 1, w ∈ lw_tbl := mem_r _ [464, 465, 466, 467, 468, 469, 470, 471, 472, 473, 474] (by decide +kernel)
theorem wsL_law0_p12 : ∀ w ∈ wsL_law0_r12, w ∈ lw_tbl := mem_td 12 wsL_law0_p12a (mem_td 1 wsL_law0_p12b wsL_law0_p12c)
set_option maxRecDepth 20000 in
theorem wsL_law0_p13 : ∀ w ∈ wsL_law0_r13, w ∈ lw_tbl := mem_r _ [475, 476, 477, 478, 479, 480, 481, 482, 483, 484, 485, 486, 487, 488, 489, 490, 491, 492, 493, 494, 495, 496, 497, 502] (by decide +kernel)
set_option maxRecDepth 20000 in
theorem wsL_law0_p14 : ∀ w ∈ wsL_law0_r14, w ∈ lw_tbl := mem_r _ [503, 504, 498, 499, 500, 501, 505, 506, 507, 508, 509, 510, 511, 512, 513, 514, 515, 516, 517, 518, 519, 520, 521, 522] (by decide +kernel)
set_option maxRecDepth 20000 in
theorem wsL_law0_p15 : ∀ w ∈ wsL_law0_r15, w ∈ lw_tbl := mem_r _ [523, 524, 525, 526, 527, 528, 529, 530, 531, 533, 534, 535, 536, 537, 538, 539, 540, 541, 542, 543, 544] (by decide +kernel)
theorem wsL_law0_wsX30 : ∀ w ∈ wsX30, w ∈ lw_tbl := by decide +kernel
theorem wsL_law0_wsX20 : ∀ w ∈ wsX20, w ∈ lw_tbl := by decide +kernel
theorem wsL_law0_wsX00 : ∀ w ∈ wsX00, w ∈ lw_tbl := by decide +kernel
theorem wsL_law0_wsX10 : ∀ w ∈ wsX10, w ∈ lw_tbl := by decide +kernel
theorem wsL_law_in0 : ∀ w ∈ wsL_law0, w ∈ lw_tbl := by
  unfold wsL_law0
  exact mem_app (mem_app (mem_app (mem_app (mem_app (mem_app wsL_law0_p1 (mem_app wsL_law0_p2 (mem_app wsL_law0_p3 (mem_app wsL_law0_p4 (mem_app wsL_law0_p5 (mem_app wsL_law0_p6 (mem_app wsL_law0_p7 (mem_app wsL_law0_p8 (mem_app wsL_law0_p9 (mem_app wsL_law0_p10 (mem_app wsL_law0_p11 (mem_app wsL_law0_p12 (mem_app wsL_law0_p13 (mem_app wsL_law0_p14 (wsL_law0_p15))))))))))))))) wsL_law0_wsX30) wsL_law0_wsX20) wsL_law0_wsX00) wsL_law0_wsX10) (fun _ h => absurd h List.not_mem_nil)
theorem wsL_law_x0 : ∀ w ∈ (vx_atS RX3 71 "java/lang/IllegalStateException" ["java/lang/RuntimeException", "java/lang/Exception"]).filter goodWord, w ∈ lw_tbl := by decide +kernel
theorem wsL_law_x1 : ∀ w ∈ (vx_atS RX3 184 "java/lang/IndexOutOfBoundsException" ["java/lang/RuntimeException", "java/lang/Exception"]).filter goodWord, w ∈ lw_tbl := by decide +kernel
theorem wsL_law_x2 : ∀ w ∈ (vx_atS RX3 45 "java/lang/IllegalArgumentException" ["java/lang/RuntimeException", "java/lang/Exception"]).filter goodWord, w ∈ lw_tbl := by decide +kernel
theorem wsL_law_in : ∀ w ∈ wsL_law, w ∈ lw_tbl := fun w h => (List.mem_append.mp h).elim (fun h => (List.mem_append.mp h).elim (fun h => (List.mem_append.mp h).elim (fun h => wsL_law_in0 w h) (fun h => wsL_law_x0 w h)) (fun h => wsL_law_x1 w h)) (fun h => wsL_law_x2 w h)
theorem inlX0 : ∀ w ∈ wsX00, w ∈ wsL_law := fun _ h => List.mem_append_left _ (List.mem_append_left _ (List.mem_append_left _ (List.mem_append_left _ (List.mem_append_left _ (List.mem_append_right _ h)))))
theorem inX0 : ∀ w ∈ wsX00, w ∈ lw_tbl := fun w h => wsL_law_in w (inlX0 w h)
theorem inlX1 : ∀ w ∈ wsX10, w ∈ wsL_law := fun _ h => List.mem_append_left _ (List.mem_append_left _ (List.mem_append_left _ (List.mem_append_left _ (List.mem_append_right _ h))))
theorem inX1 : ∀ w ∈ wsX10, w ∈ lw_tbl := fun w h => wsL_law_in w (inlX1 w h)
theorem inlX2 : ∀ w ∈ wsX20, w ∈ wsL_law := fun _ h => List.mem_append_left _ (List.mem_append_left _ (List.mem_append_left _ (List.mem_append_left _ (List.mem_append_left _ (List.mem_append_left _ (List.mem_append_right _ h))))))
theorem inX2 : ∀ w ∈ wsX20, w ∈ lw_tbl := fun w h => wsL_law_in w (inlX2 w h)
theorem inlX3 : ∀ w ∈ wsX30, w ∈ wsL_law := fun _ h => List.mem_append_left _ (List.mem_append_left _ (List.mem_append_left _ (List.mem_append_left _ (List.mem_append_left _ (List.mem_append_left _ (List.mem_append_left _ (List.mem_append_right _ h)))))))
theorem inX3 : ∀ w ∈ wsX30, w ∈ lw_tbl := fun w h => wsL_law_in w (inlX3 w h)
theorem inX4 : ∀ w ∈ wsX40, w ∈ lw_tbl := by decide +kernel
theorem inJx145de : ∀ w ∈ wsJx145de0, w ∈ lw_tbl := by decide +kernel
theorem inJ9 : ∀ w ∈ wsJ90, w ∈ lw_tbl := by decide +kernel
theorem inJ0 : ∀ w ∈ wsJ00, w ∈ lw_tbl := by decide +kernel
theorem inJ7 : ∀ w ∈ wsJ70, w ∈ lw_tbl := by decide +kernel
end
section
set_option maxRecDepth 20000 in
theorem ggX0_init_J7_fill_53178 : GoodIn wsX0_init wsJ7_fill_53178 := goodIn_r _ [12] (by decide +kernel) (by decide +kernel)
set_option maxRecDepth 20000 in
theorem gX0_init_J7_fill_53178 : GoodIn wsX0_init (va_wsS RX0 22 yJ7_fill_53178 wsJ7_fill_53178) := goodIn_app (goodIn_of _ (by decide +kernel)) ggX0_init_J7_fill_53178
theorem dX0_init_0 : decode cX0_init 0 = .ok (.aload_n 0, 1) := by decide +kernel
theorem dX0_init_1 : decode cX0_init 1 = .ok (.invokespecial 3, 3) := by decide +kernel
theorem dX0_init_4 : decode cX0_init 4 = .ok (.aload_n 0, 1) := by decide +kernel
theorem dX0_init_5 : decode cX0_init 5 = .ok (.sipush 150, 3) := by decide +kernel
theorem dX0_init_8 : decode cX0_init 8 = .ok (.newarray .boolean, 2) := by decide +kernel
theorem dX0_init_10 : decode cX0_init 10 = .ok (.putfield 9, 3) := by decide +kernel
theorem dX0_init_13 : decode cX0_init 13 = .ok (.aload_n 0, 1) := by decide +kernel
theorem dX0_init_14 : decode cX0_init 14 = .ok (.sipush 150, 3) := by decide +kernel
theorem dX0_init_17 : decode cX0_init 17 = .ok (.newarray .int, 2) := by decide +kernel
theorem dX0_init_19 : decode cX0_init 19 = .ok (.putfield 15, 3) := by decide +kernel
theorem dX0_init_22 : decode cX0_init 22 = .ok (.aload_n 0, 1) := by decide +kernel
theorem dX0_init_23 : decode cX0_init 23 = .ok (.iconst 4, 1) := by decide +kernel
theorem dX0_init_24 : decode cX0_init 24 = .ok (.newarray .int, 2) := by decide +kernel
theorem dX0_init_26 : decode cX0_init 26 = .ok (.putfield 19, 3) := by decide +kernel
theorem dX0_init_29 : decode cX0_init 29 = .ok (.aload_n 0, 1) := by decide +kernel
theorem dX0_init_30 : decode cX0_init 30 = .ok (.getfield 15, 3) := by decide +kernel
theorem dX0_init_33 : decode cX0_init 33 = .ok (.sipush 151, 3) := by decide +kernel
theorem dX0_init_36 : decode cX0_init 36 = .ok (.invokestatic 22, 3) := by decide +kernel
theorem dX0_init_39 : decode cX0_init 39 = .ok (.aload_n 0, 1) := by decide +kernel
theorem dX0_init_40 : decode cX0_init 40 = .ok (.getfield 19, 3) := by decide +kernel
theorem dX0_init_43 : decode cX0_init 43 = .ok (.iconst (-1), 1) := by decide +kernel
theorem dX0_init_44 : decode cX0_init 44 = .ok (.invokestatic 22, 3) := by decide +kernel
theorem dX0_init_47 : decode cX0_init 47 = .ok (.return_, 1) := by decide +kernel
set_option maxRecDepth 20000 in
theorem ggX0_survey_X0_findLeaves : GoodIn wsX0_survey wsX0_findLeaves := goodIn_r _ [5, 6, 7, 8, 9, 10, 11, 12, 13, 14, 15, 16, 17, 4, 18, 19, 20, 21, 22, 23, 37, 38, 39, 40, 41, 42, 43, 44, 45, 46] (by decide +kernel) (by decide +kernel)
set_option maxRecDepth 20000 in
theorem gX0_survey_X0_findLeaves : GoodIn wsX0_survey (wsV RX0 28 RX0 yX0_findLeaves wsX0_findLeaves) := goodIn_app (goodIn_of _ (by decide +kernel)) ggX0_survey_X0_findLeaves
set_option maxRecDepth 20000 in
theorem ggX0_survey_X0_findWinners : GoodIn wsX0_survey wsX0_findWinners := goodIn_r _ [27, 28, 11, 12, 13, 14, 15, 16, 17, 4, 18, 19, 20, 21, 22, 23, 6, 29, 30, 31, 32, 33, 34, 35, 36, 37, 38, 39, 40, 41, 42, 43, 44, 45, 46] (by decide +kernel) (by decide +kernel)
set_option maxRecDepth 20000 in
theorem gX0_survey_X0_findWinners : GoodIn wsX0_survey (wsV RX0 32 RX0 yX0_findWinners wsX0_findWinners) := goodIn_app (goodIn_of _ (by decide +kernel)) ggX0_survey_X0_findWinners
theorem dX0_survey_0 : decode cX0_survey 0 = .ok (.aload_n 0, 1) := by decide +kernel
theorem dX0_survey_1 : decode cX0_survey 1 = .ok (.aload_n 1, 1) := by decide +kernel
theorem dX0_survey_2 : decode cX0_survey 2 = .ok (.invokevirtual 28, 3) := by decide +kernel
theorem dX0_survey_5 : decode cX0_survey 5 = .ok (.aload_n 0, 1) := by decide +kernel
theorem dX0_survey_6 : decode cX0_survey 6 = .ok (.aload_n 1, 1) := by decide +kernel
theorem dX0_survey_7 : decode cX0_survey 7 = .ok (.invokevirtual 32, 3) := by decide +kernel
theorem dX0_survey_10 : decode cX0_survey 10 = .ok (.return_, 1) := by decide +kernel
set_option maxRecDepth 20000 in
theorem ggX0_findLeaves_J7_fill_53178 : GoodIn wsX0_findLeaves wsJ7_fill_53178 := goodIn_r _ [9] (by decide +kernel) (by decide +kernel)
set_option maxRecDepth 20000 in
theorem gX0_findLeaves_J7_fill_53178 : GoodIn wsX0_findLeaves (va_wsS RX0 22 yJ7_fill_53178 wsJ7_fill_53178) := goodIn_app (goodIn_of _ (by decide +kernel)) ggX0_findLeaves_J7_fill_53178
set_option maxRecDepth 20000 in
theorem ggX0_findLeaves_X0_endsAt : GoodIn wsX0_findLeaves wsX0_endsAt := goodIn_r _ [14, 15, 16, 17, 18, 13, 19, 1, 20, 21, 22] (by decide +kernel) (by decide +kernel)
set_option maxRecDepth 20000 in
theorem gX0_findLeaves_X0_endsAt : GoodIn wsX0_findLeaves (wsV RX0 44 RX0 yX0_endsAt wsX0_endsAt) := goodIn_app (goodIn_of _ (by decide +kernel)) ggX0_findLeaves_X0_endsAt
theorem dX0_findLeaves_0 : decode cX0_findLeaves 0 = .ok (.aload_n 0, 1) := by decide +kernel
theorem dX0_findLeaves_1 : decode cX0_findLeaves 1 = .ok (.getfield 15, 3) := by decide +kernel
theorem dX0_findLeaves_4 : decode cX0_findLeaves 4 = .ok (.sipush 151, 3) := by decide +kernel
theorem dX0_findLeaves_7 : decode cX0_findLeaves 7 = .ok (.invokestatic 22, 3) := by decide +kernel
theorem dX0_findLeaves_10 : decode cX0_findLeaves 10 = .ok (.aload_n 1, 1) := by decide +kernel
theorem dX0_findLeaves_11 : decode cX0_findLeaves 11 = .ok (.getfield 35, 3) := by decide +kernel
theorem dX0_findLeaves_14 : decode cX0_findLeaves 14 = .ok (.iconst 1, 1) := by decide +kernel
theorem dX0_findLeaves_15 : decode cX0_findLeaves 15 = .ok (.isub, 1) := by decide +kernel
theorem dX0_findLeaves_16 : decode cX0_findLeaves 16 = .ok (.istore_n 2, 1) := by decide +kernel
theorem dX0_findLeaves_17 : decode cX0_findLeaves 17 = .ok (.iload_n 2, 1) := by decide +kernel
theorem dX0_findLeaves_18 : decode cX0_findLeaves 18 = .ok (.ifCond .lt 63, 3) := by decide +kernel
theorem dX0_findLeaves_21 : decode cX0_findLeaves 21 = .ok (.aload_n 1, 1) := by decide +kernel
theorem dX0_findLeaves_22 : decode cX0_findLeaves 22 = .ok (.getfield 41, 3) := by decide +kernel
theorem dX0_findLeaves_25 : decode cX0_findLeaves 25 = .ok (.iload_n 2, 1) := by decide +kernel
theorem dX0_findLeaves_26 : decode cX0_findLeaves 26 = .ok (.iaload, 1) := by decide +kernel
theorem dX0_findLeaves_27 : decode cX0_findLeaves 27 = .ok (.istore_n 3, 1) := by decide +kernel
theorem dX0_findLeaves_28 : decode cX0_findLeaves 28 = .ok (.iload_n 3, 1) := by decide +kernel
theorem dX0_findLeaves_29 : decode cX0_findLeaves 29 = .ok (.iconst (-1), 1) := by decide +kernel
theorem dX0_findLeaves_30 : decode cX0_findLeaves 30 = .ok (.if_icmp .eq 45, 3) := by decide +kernel
theorem dX0_findLeaves_33 : decode cX0_findLeaves 33 = .ok (.aload_n 0, 1) := by decide +kernel
theorem dX0_findLeaves_34 : decode cX0_findLeaves 34 = .ok (.iload_n 2, 1) := by decide +kernel
theorem dX0_findLeaves_35 : decode cX0_findLeaves 35 = .ok (.invokevirtual 44, 3) := by decide +kernel
theorem dX0_findLeaves_38 : decode cX0_findLeaves 38 = .ok (.ifCond .eq 12, 3) := by decide +kernel
theorem dX0_findLeaves_41 : decode cX0_findLeaves 41 = .ok (.aload_n 1, 1) := by decide +kernel
theorem dX0_findLeaves_42 : decode cX0_findLeaves 42 = .ok (.getfield 48, 3) := by decide +kernel
theorem dX0_findLeaves_45 : decode cX0_findLeaves 45 = .ok (.iload_n 2, 1) := by decide +kernel
theorem dX0_findLeaves_46 : decode cX0_findLeaves 46 = .ok (.iaload, 1) := by decide +kernel
theorem dX0_findLeaves_47 : decode cX0_findLeaves 47 = .ok (.goto 9, 3) := by decide +kernel
theorem dX0_findLeaves_50 : decode cX0_findLeaves 50 = .ok (.aload_n 0, 1) := by decide +kernel
theorem dX0_findLeaves_51 : decode cX0_findLeaves 51 = .ok (.getfield 15, 3) := by decide +kernel
theorem dX0_findLeaves_54 : decode cX0_findLeaves 54 = .ok (.iload_n 2, 1) := by decide +kernel
theorem dX0_findLeaves_55 : decode cX0_findLeaves 55 = .ok (.iaload, 1) := by decide +kernel
theorem dX0_findLeaves_56 : decode cX0_findLeaves 56 = .ok (.istore 4, 2) := by decide +kernel
theorem dX0_findLeaves_58 : decode cX0_findLeaves 58 = .ok (.aload_n 0, 1) := by decide +kernel
theorem dX0_findLeaves_59 : decode cX0_findLeaves 59 = .ok (.getfield 15, 3) := by decide +kernel
theorem dX0_findLeaves_62 : decode cX0_findLeaves 62 = .ok (.iload_n 3, 1) := by decide +kernel
theorem dX0_findLeaves_63 : decode cX0_findLeaves 63 = .ok (.aload_n 0, 1) := by decide +kernel
theorem dX0_findLeaves_64 : decode cX0_findLeaves 64 = .ok (.getfield 15, 3) := by decide +kernel
theorem dX0_findLeaves_67 : decode cX0_findLeaves 67 = .ok (.iload_n 3, 1) := by decide +kernel
theorem dX0_findLeaves_68 : decode cX0_findLeaves 68 = .ok (.iaload, 1) := by decide +kernel
theorem dX0_findLeaves_69 : decode cX0_findLeaves 69 = .ok (.iload 4, 2) := by decide +kernel
theorem dX0_findLeaves_71 : decode cX0_findLeaves 71 = .ok (.invokestatic 51, 3) := by decide +kernel
theorem dX0_findLeaves_74 : decode cX0_findLeaves 74 = .ok (.iastore, 1) := by decide +kernel
theorem dX0_findLeaves_75 : decode cX0_findLeaves 75 = .ok (.iinc 2 (-1), 3) := by decide +kernel
theorem dX0_findLeaves_78 : decode cX0_findLeaves 78 = .ok (.goto (-61), 3) := by decide +kernel
theorem dX0_findLeaves_81 : decode cX0_findLeaves 81 = .ok (.return_, 1) := by decide +kernel
set_option maxRecDepth 20000 in
theorem ggX0_findWinners_J7_fill_53178 : GoodIn wsX0_findWinners wsJ7_fill_53178 := goodIn_r _ [5] (by decide +kernel) (by decide +kernel)
set_option maxRecDepth 20000 in
theorem gX0_findWinners_J7_fill_53178 : GoodIn wsX0_findWinners (va_wsS RX0 22 yJ7_fill_53178 wsJ7_fill_53178) := goodIn_app (goodIn_of _ (by decide +kernel)) ggX0_findWinners_J7_fill_53178
set_option maxRecDepth 20000 in
theorem ggX0_findWinners_X0_endsAt : GoodIn wsX0_findWinners wsX0_endsAt := goodIn_r _ [10, 11, 12, 13, 14, 9, 15, 16, 25, 26, 27] (by decide +kernel) (by decide +kernel)
set_option maxRecDepth 20000 in
theorem gX0_findWinners_X0_endsAt : GoodIn wsX0_findWinners (wsV RX0 44 RX0 yX0_endsAt wsX0_endsAt) := goodIn_app (goodIn_of _ (by decide +kernel)) ggX0_findWinners_X0_endsAt
set_option maxRecDepth 20000 in
theorem ggX0_findWinners_X2_isBetter : GoodIn wsX0_findWinners wsX2_isBetter := goodIn_r _ [21, 22, 23, 24, 28, 29, 30, 31, 32, 33, 34] (by decide +kernel) (by decide +kernel)
set_option maxRecDepth 20000 in
theorem gX0_findWinners_X2_isBetter : GoodIn wsX0_findWinners (wsV RX0 60 RX2 yX2_isBetter wsX2_isBetter) := goodIn_app (goodIn_of _ (by decide +kernel)) ggX0_findWinners_X2_isBetter
theorem dX0_findWinners_0 : decode cX0_findWinners 0 = .ok (.aload_n 0, 1) := by decide +kernel
theorem dX0_findWinners_1 : decode cX0_findWinners 1 = .ok (.getfield 19, 3) := by decide +kernel
theorem dX0_findWinners_4 : decode cX0_findWinners 4 = .ok (.iconst (-1), 1) := by decide +kernel
theorem dX0_findWinners_5 : decode cX0_findWinners 5 = .ok (.invokestatic 22, 3) := by decide +kernel
theorem dX0_findWinners_8 : decode cX0_findWinners 8 = .ok (.iconst 0, 1) := by decide +kernel
theorem dX0_findWinners_9 : decode cX0_findWinners 9 = .ok (.istore_n 2, 1) := by decide +kernel
theorem dX0_findWinners_10 : decode cX0_findWinners 10 = .ok (.iload_n 2, 1) := by decide +kernel
theorem dX0_findWinners_11 : decode cX0_findWinners 11 = .ok (.aload_n 1, 1) := by decide +kernel
theorem dX0_findWinners_12 : decode cX0_findWinners 12 = .ok (.getfield 35, 3) := by decide +kernel
theorem dX0_findWinners_15 : decode cX0_findWinners 15 = .ok (.if_icmp .ge 55, 3) := by decide +kernel
theorem dX0_findWinners_18 : decode cX0_findWinners 18 = .ok (.aload_n 0, 1) := by decide +kernel
theorem dX0_findWinners_19 : decode cX0_findWinners 19 = .ok (.iload_n 2, 1) := by decide +kernel
theorem dX0_findWinners_20 : decode cX0_findWinners 20 = .ok (.invokevirtual 44, 3) := by decide +kernel
theorem dX0_findWinners_23 : decode cX0_findWinners 23 = .ok (.ifCond .eq 41, 3) := by decide +kernel
theorem dX0_findWinners_26 : decode cX0_findWinners 26 = .ok (.aload_n 1, 1) := by decide +kernel
theorem dX0_findWinners_27 : decode cX0_findWinners 27 = .ok (.getfield 57, 3) := by decide +kernel
theorem dX0_findWinners_30 : decode cX0_findWinners 30 = .ok (.iload_n 2, 1) := by decide +kernel
theorem dX0_findWinners_31 : decode cX0_findWinners 31 = .ok (.iaload, 1) := by decide +kernel
theorem dX0_findWinners_32 : decode cX0_findWinners 32 = .ok (.istore_n 3, 1) := by decide +kernel
theorem dX0_findWinners_33 : decode cX0_findWinners 33 = .ok (.aload_n 0, 1) := by decide +kernel
theorem dX0_findWinners_34 : decode cX0_findWinners 34 = .ok (.getfield 19, 3) := by decide +kernel
theorem dX0_findWinners_37 : decode cX0_findWinners 37 = .ok (.iload_n 3, 1) := by decide +kernel
theorem dX0_findWinners_38 : decode cX0_findWinners 38 = .ok (.iaload, 1) := by decide +kernel
theorem dX0_findWinners_39 : decode cX0_findWinners 39 = .ok (.istore 4, 2) := by decide +kernel
theorem dX0_findWinners_41 : decode cX0_findWinners 41 = .ok (.iload 4, 2) := by decide +kernel
theorem dX0_findWinners_43 : decode cX0_findWinners 43 = .ok (.iconst (-1), 1) := by decide +kernel
theorem dX0_findWinners_44 : decode cX0_findWinners 44 = .ok (.if_icmp .eq 13, 3) := by decide +kernel
theorem dX0_findWinners_47 : decode cX0_findWinners 47 = .ok (.aload_n 1, 1) := by decide +kernel
theorem dX0_findWinners_48 : decode cX0_findWinners 48 = .ok (.iload_n 2, 1) := by decide +kernel
theorem dX0_findWinners_49 : decode cX0_findWinners 49 = .ok (.iload 4, 2) := by decide +kernel
theorem dX0_findWinners_51 : decode cX0_findWinners 51 = .ok (.invokevirtual 60, 3) := by decide +kernel
theorem dX0_findWinners_54 : decode cX0_findWinners 54 = .ok (.ifCond .eq 10, 3) := by decide +kernel
theorem dX0_findWinners_57 : decode cX0_findWinners 57 = .ok (.aload_n 0, 1) := by decide +kernel
theorem dX0_findWinners_58 : decode cX0_findWinners 58 = .ok (.getfield 19, 3) := by decide +kernel
theorem dX0_findWinners_61 : decode cX0_findWinners 61 = .ok (.iload_n 3, 1) := by decide +kernel
theorem dX0_findWinners_62 : decode cX0_findWinners 62 = .ok (.iload_n 2, 1) := by decide +kernel
theorem dX0_findWinners_63 : decode cX0_findWinners 63 = .ok (.iastore, 1) := by decide +kernel
theorem dX0_findWinners_64 : decode cX0_findWinners 64 = .ok (.iinc 2 1, 3) := by decide +kernel
theorem dX0_findWinners_67 : decode cX0_findWinners 67 = .ok (.goto (-57), 3) := by decide +kernel
theorem dX0_findWinners_70 : decode cX0_findWinners 70 = .ok (.return_, 1) := by decide +kernel
set_option maxRecDepth 20000 in
theorem ggX0_stem_X0_hasDescendantOf : GoodIn wsX0_stem wsX0_hasDescendantOf := goodIn_r _ [7, 2, 15, 16, 17] (by decide +kernel) (by decide +kernel)
set_option maxRecDepth 20000 in
theorem gX0_stem_X0_hasDescendantOf : GoodIn wsX0_stem (wsV RX0 64 RX0 yX0_hasDescendantOf wsX0_hasDescendantOf) := goodIn_app (goodIn_of _ (by decide +kernel)) ggX0_stem_X0_hasDescendantOf
theorem dX0_stem_0 : decode cX0_stem 0 = .ok (.iconst 0, 1) := by decide +kernel
theorem dX0_stem_1 : decode cX0_stem 1 = .ok (.istore_n 3, 1) := by decide +kernel
theorem dX0_stem_2 : decode cX0_stem 2 = .ok (.iconst 0, 1) := by decide +kernel
theorem dX0_stem_3 : decode cX0_stem 3 = .ok (.istore 4, 2) := by decide +kernel
theorem dX0_stem_5 : decode cX0_stem 5 = .ok (.iload 4, 2) := by decide +kernel
theorem dX0_stem_7 : decode cX0_stem 7 = .ok (.aload_n 1, 1) := by decide +kernel
theorem dX0_stem_8 : decode cX0_stem 8 = .ok (.getfield 35, 3) := by decide +kernel
theorem dX0_stem_11 : decode cX0_stem 11 = .ok (.if_icmp .ge 58, 3) := by decide +kernel
theorem dX0_stem_14 : decode cX0_stem 14 = .ok (.aload_n 0, 1) := by decide +kernel
theorem dX0_stem_15 : decode cX0_stem 15 = .ok (.getfield 9, 3) := by decide +kernel
theorem dX0_stem_18 : decode cX0_stem 18 = .ok (.iload 4, 2) := by decide +kernel
theorem dX0_stem_20 : decode cX0_stem 20 = .ok (.baload, 1) := by decide +kernel
theorem dX0_stem_21 : decode cX0_stem 21 = .ok (.ifCond .eq 42, 3) := by decide +kernel
theorem dX0_stem_24 : decode cX0_stem 24 = .ok (.aload_n 0, 1) := by decide +kernel
theorem dX0_stem_25 : decode cX0_stem 25 = .ok (.iload 4, 2) := by decide +kernel
theorem dX0_stem_27 : decode cX0_stem 27 = .ok (.invokevirtual 64, 3) := by decide +kernel
theorem dX0_stem_30 : decode cX0_stem 30 = .ok (.ifCond .eq 33, 3) := by decide +kernel
theorem dX0_stem_33 : decode cX0_stem 33 = .ok (.aload_n 0, 1) := by decide +kernel
theorem dX0_stem_34 : decode cX0_stem 34 = .ok (.getfield 15, 3) := by decide +kernel
theorem dX0_stem_37 : decode cX0_stem 37 = .ok (.iload 4, 2) := by decide +kernel
theorem dX0_stem_39 : decode cX0_stem 39 = .ok (.iaload, 1) := by decide +kernel
theorem dX0_stem_40 : decode cX0_stem 40 = .ok (.aload_n 1, 1) := by decide +kernel
theorem dX0_stem_41 : decode cX0_stem 41 = .ok (.getfield 48, 3) := by decide +kernel
theorem dX0_stem_44 : decode cX0_stem 44 = .ok (.iload 4, 2) := by decide +kernel
theorem dX0_stem_46 : decode cX0_stem 46 = .ok (.iaload, 1) := by decide +kernel
theorem dX0_stem_47 : decode cX0_stem 47 = .ok (.isub, 1) := by decide +kernel
theorem dX0_stem_48 : decode cX0_stem 48 = .ok (.iload_n 2, 1) := by decide +kernel
theorem dX0_stem_49 : decode cX0_stem 49 = .ok (.if_icmp .lt 14, 3) := by decide +kernel
theorem dX0_stem_52 : decode cX0_stem 52 = .ok (.aload_n 0, 1) := by decide +kernel
theorem dX0_stem_53 : decode cX0_stem 53 = .ok (.getfield 9, 3) := by decide +kernel
theorem dX0_stem_56 : decode cX0_stem 56 = .ok (.iload 4, 2) := by decide +kernel
theorem dX0_stem_58 : decode cX0_stem 58 = .ok (.iconst 0, 1) := by decide +kernel
theorem dX0_stem_59 : decode cX0_stem 59 = .ok (.bastore, 1) := by decide +kernel
theorem dX0_stem_60 : decode cX0_stem 60 = .ok (.iinc 3 1, 3) := by decide +kernel
theorem dX0_stem_63 : decode cX0_stem 63 = .ok (.iinc 4 1, 3) := by decide +kernel
theorem dX0_stem_66 : decode cX0_stem 66 = .ok (.goto (-61), 3) := by decide +kernel
theorem dX0_stem_69 : decode cX0_stem 69 = .ok (.iload_n 3, 1) := by decide +kernel
theorem dX0_stem_70 : decode cX0_stem 70 = .ok (.ireturn, 1) := by decide +kernel
theorem dX0_hasDescendantOf_0 : decode cX0_hasDescendantOf 0 = .ok (.aload_n 0, 1) := by decide +kernel
theorem dX0_hasDescendantOf_1 : decode cX0_hasDescendantOf 1 = .ok (.getfield 15, 3) := by decide +kernel
theorem dX0_hasDescendantOf_4 : decode cX0_hasDescendantOf 4 = .ok (.iload_n 1, 1) := by decide +kernel
theorem dX0_hasDescendantOf_5 : decode cX0_hasDescendantOf 5 = .ok (.iaload, 1) := by decide +kernel
theorem dX0_hasDescendantOf_6 : decode cX0_hasDescendantOf 6 = .ok (.sipush 151, 3) := by decide +kernel
theorem dX0_hasDescendantOf_9 : decode cX0_hasDescendantOf 9 = .ok (.if_icmp .eq 7, 3) := by decide +kernel
theorem dX0_hasDescendantOf_12 : decode cX0_hasDescendantOf 12 = .ok (.iconst 1, 1) := by decide +kernel
theorem dX0_hasDescendantOf_13 : decode cX0_hasDescendantOf 13 = .ok (.goto 4, 3) := by decide +kernel
theorem dX0_hasDescendantOf_16 : decode cX0_hasDescendantOf 16 = .ok (.iconst 0, 1) := by decide +kernel
theorem dX0_hasDescendantOf_17 : decode cX0_hasDescendantOf 17 = .ok (.ireturn, 1) := by decide +kernel
set_option maxRecDepth 20000 in
theorem ggX0_endsAt_X0_hasDescendantOf : GoodIn wsX0_endsAt wsX0_hasDescendantOf := goodIn_r _ [6, 7, 8, 9, 10] (by decide +kernel) (by decide +kernel)
set_option maxRecDepth 20000 in
theorem gX0_endsAt_X0_hasDescendantOf : GoodIn wsX0_endsAt (wsV RX0 64 RX0 yX0_hasDescendantOf wsX0_hasDescendantOf) := goodIn_app (goodIn_of _ (by decide +kernel)) ggX0_endsAt_X0_hasDescendantOf
theorem dX0_endsAt_0 : decode cX0_endsAt 0 = .ok (.aload_n 0, 1) := by decide +kernel
theorem dX0_endsAt_1 : decode cX0_endsAt 1 = .ok (.getfield 9, 3) := by decide +kernel
theorem dX0_endsAt_4 : decode cX0_endsAt 4 = .ok (.iload_n 1, 1) := by decide +kernel
theorem dX0_endsAt_5 : decode cX0_endsAt 5 = .ok (.baload, 1) := by decide +kernel
theorem dX0_endsAt_6 : decode cX0_endsAt 6 = .ok (.ifCond .eq 15, 3) := by decide +kernel
theorem dX0_endsAt_9 : decode cX0_endsAt 9 = .ok (.aload_n 0, 1) := by decide +kernel
theorem dX0_endsAt_10 : decode cX0_endsAt 10 = .ok (.iload_n 1, 1) := by decide +kernel
theorem dX0_endsAt_11 : decode cX0_endsAt 11 = .ok (.invokevirtual 64, 3) := by decide +kernel
theorem dX0_endsAt_14 : decode cX0_endsAt 14 = .ok (.ifCond .ne 7, 3) := by decide +kernel
theorem dX0_endsAt_17 : decode cX0_endsAt 17 = .ok (.iconst 1, 1) := by decide +kernel
theorem dX0_endsAt_18 : decode cX0_endsAt 18 = .ok (.goto 4, 3) := by decide +kernel
theorem dX0_endsAt_21 : decode cX0_endsAt 21 = .ok (.iconst 0, 1) := by decide +kernel
theorem dX0_endsAt_22 : decode cX0_endsAt 22 = .ok (.ireturn, 1) := by decide +kernel
theorem dX0_removeAll_0 : decode cX0_removeAll 0 = .ok (.iconst 0, 1) := by decide +kernel
theorem dX0_removeAll_1 : decode cX0_removeAll 1 = .ok (.istore_n 1, 1) := by decide +kernel
theorem dX0_removeAll_2 : decode cX0_removeAll 2 = .ok (.iload_n 1, 1) := by decide +kernel
theorem dX0_removeAll_3 : decode cX0_removeAll 3 = .ok (.sipush 150, 3) := by decide +kernel
theorem dX0_removeAll_6 : decode cX0_removeAll 6 = .ok (.if_icmp .ge 16, 3) := by decide +kernel
theorem dX0_removeAll_9 : decode cX0_removeAll 9 = .ok (.aload_n 0, 1) := by decide +kernel
theorem dX0_removeAll_10 : decode cX0_removeAll 10 = .ok (.getfield 9, 3) := by decide +kernel
theorem dX0_removeAll_13 : decode cX0_removeAll 13 = .ok (.iload_n 1, 1) := by decide +kernel
theorem dX0_removeAll_14 : decode cX0_removeAll 14 = .ok (.iconst 0, 1) := by decide +kernel
theorem dX0_removeAll_15 : decode cX0_removeAll 15 = .ok (.bastore, 1) := by decide +kernel
theorem dX0_removeAll_16 : decode cX0_removeAll 16 = .ok (.iinc 1 1, 3) := by decide +kernel
theorem dX0_removeAll_19 : decode cX0_removeAll 19 = .ok (.goto (-17), 3) := by decide +kernel
theorem dX0_removeAll_22 : decode cX0_removeAll 22 = .ok (.return_, 1) := by decide +kernel
theorem dX0_addAll_0 : decode cX0_addAll 0 = .ok (.iconst 0, 1) := by decide +kernel
theorem dX0_addAll_1 : decode cX0_addAll 1 = .ok (.istore_n 3, 1) := by decide +kernel
theorem dX0_addAll_2 : decode cX0_addAll 2 = .ok (.iload_n 3, 1) := by decide +kernel
theorem dX0_addAll_3 : decode cX0_addAll 3 = .ok (.aload_n 1, 1) := by decide +kernel
theorem dX0_addAll_4 : decode cX0_addAll 4 = .ok (.getfield 35, 3) := by decide +kernel
theorem dX0_addAll_7 : decode cX0_addAll 7 = .ok (.if_icmp .ge 38, 3) := by decide +kernel
theorem dX0_addAll_10 : decode cX0_addAll 10 = .ok (.aload_n 0, 1) := by decide +kernel
theorem dX0_addAll_11 : decode cX0_addAll 11 = .ok (.getfield 9, 3) := by decide +kernel
theorem dX0_addAll_14 : decode cX0_addAll 14 = .ok (.iload_n 3, 1) := by decide +kernel
theorem dX0_addAll_15 : decode cX0_addAll 15 = .ok (.aload_n 0, 1) := by decide +kernel
theorem dX0_addAll_16 : decode cX0_addAll 16 = .ok (.getfield 9, 3) := by decide +kernel
theorem dX0_addAll_19 : decode cX0_addAll 19 = .ok (.iload_n 3, 1) := by decide +kernel
theorem dX0_addAll_20 : decode cX0_addAll 20 = .ok (.baload, 1) := by decide +kernel
theorem dX0_addAll_21 : decode cX0_addAll 21 = .ok (.ifCond .ne 12, 3) := by decide +kernel
theorem dX0_addAll_24 : decode cX0_addAll 24 = .ok (.aload_n 2, 1) := by decide +kernel
theorem dX0_addAll_25 : decode cX0_addAll 25 = .ok (.getfield 9, 3) := by decide +kernel
theorem dX0_addAll_28 : decode cX0_addAll 28 = .ok (.iload_n 3, 1) := by decide +kernel
theorem dX0_addAll_29 : decode cX0_addAll 29 = .ok (.baload, 1) := by decide +kernel
theorem dX0_addAll_30 : decode cX0_addAll 30 = .ok (.ifCond .eq 7, 3) := by decide +kernel
theorem dX0_addAll_33 : decode cX0_addAll 33 = .ok (.iconst 1, 1) := by decide +kernel
theorem dX0_addAll_34 : decode cX0_addAll 34 = .ok (.goto 4, 3) := by decide +kernel
theorem dX0_addAll_37 : decode cX0_addAll 37 = .ok (.iconst 0, 1) := by decide +kernel
theorem dX0_addAll_38 : decode cX0_addAll 38 = .ok (.bastore, 1) := by decide +kernel
theorem dX0_addAll_39 : decode cX0_addAll 39 = .ok (.iinc 3 1, 3) := by decide +kernel
theorem dX0_addAll_42 : decode cX0_addAll 42 = .ok (.goto (-40), 3) := by decide +kernel
theorem dX0_addAll_45 : decode cX0_addAll 45 = .ok (.return_, 1) := by decide +kernel
set_option maxRecDepth 20000 in
theorem ggX0_addBranches_X0_endsAt : GoodIn wsX0_addBranches wsX0_endsAt := goodIn_r _ [6, 1, 7, 8, 9, 5, 10, 11, 23, 24, 25] (by decide +kernel) (by decide +kernel)
set_option maxRecDepth 20000 in
theorem gX0_addBranches_X0_endsAt : GoodIn wsX0_addBranches (wsV RX0 44 RX0 yX0_endsAt wsX0_endsAt) := goodIn_app (goodIn_of _ (by decide +kernel)) ggX0_addBranches_X0_endsAt
set_option maxRecDepth 20000 in
theorem ggX0_addBranches_X0_hasDescendantOf : GoodIn wsX0_addBranches wsX0_hasDescendantOf := goodIn_r _ [10, 11, 23, 24, 25] (by decide +kernel) (by decide +kernel)
set_option maxRecDepth 20000 in
theorem gX0_addBranches_X0_hasDescendantOf : GoodIn wsX0_addBranches (wsV RX0 64 RX0 yX0_hasDescendantOf wsX0_hasDescendantOf) := goodIn_app (goodIn_of _ (by decide +kernel)) ggX0_addBranches_X0_hasDescendantOf
set_option maxRecDepth 20000 in
theorem ggX0_addBranches_X0_addLine : GoodIn wsX0_addBranches wsX0_addLine := goodIn_r _ [15, 1, 23, 24, 25, 16, 17, 18, 19, 20, 21, 22] (by decide +kernel) (by decide +kernel)
set_option maxRecDepth 20000 in
theorem gX0_addBranches_X0_addLine : GoodIn wsX0_addBranches (wsV RX0 67 RX0 yX0_addLine wsX0_addLine) := goodIn_app (goodIn_of _ (by decide +kernel)) ggX0_addBranches_X0_addLine
theorem dX0_addBranches_0 : decode cX0_addBranches 0 = .ok (.iconst 0, 1) := by decide +kernel
theorem dX0_addBranches_1 : decode cX0_addBranches 1 = .ok (.istore 4, 2) := by decide +kernel
theorem dX0_addBranches_3 : decode cX0_addBranches 3 = .ok (.iconst 0, 1) := by decide +kernel
theorem dX0_addBranches_4 : decode cX0_addBranches 4 = .ok (.istore 5, 2) := by decide +kernel
theorem dX0_addBranches_6 : decode cX0_addBranches 6 = .ok (.iload 5, 2) := by decide +kernel
theorem dX0_addBranches_8 : decode cX0_addBranches 8 = .ok (.aload_n 1, 1) := by decide +kernel
theorem dX0_addBranches_9 : decode cX0_addBranches 9 = .ok (.getfield 35, 3) := by decide +kernel
theorem dX0_addBranches_12 : decode cX0_addBranches 12 = .ok (.if_icmp .ge 61, 3) := by decide +kernel
theorem dX0_addBranches_15 : decode cX0_addBranches 15 = .ok (.aload_n 1, 1) := by decide +kernel
theorem dX0_addBranches_16 : decode cX0_addBranches 16 = .ok (.getfield 57, 3) := by decide +kernel
theorem dX0_addBranches_19 : decode cX0_addBranches 19 = .ok (.iload 5, 2) := by decide +kernel
theorem dX0_addBranches_21 : decode cX0_addBranches 21 = .ok (.iaload, 1) := by decide +kernel
theorem dX0_addBranches_22 : decode cX0_addBranches 22 = .ok (.iload_n 3, 1) := by decide +kernel
theorem dX0_addBranches_23 : decode cX0_addBranches 23 = .ok (.if_icmp .ne 44, 3) := by decide +kernel
theorem dX0_addBranches_26 : decode cX0_addBranches 26 = .ok (.aload_n 2, 1) := by decide +kernel
theorem dX0_addBranches_27 : decode cX0_addBranches 27 = .ok (.iload 5, 2) := by decide +kernel
theorem dX0_addBranches_29 : decode cX0_addBranches 29 = .ok (.invokevirtual 44, 3) := by decide +kernel
theorem dX0_addBranches_32 : decode cX0_addBranches 32 = .ok (.ifCond .eq 35, 3) := by decide +kernel
theorem dX0_addBranches_35 : decode cX0_addBranches 35 = .ok (.aload_n 0, 1) := by decide +kernel
theorem dX0_addBranches_36 : decode cX0_addBranches 36 = .ok (.getfield 9, 3) := by decide +kernel
theorem dX0_addBranches_39 : decode cX0_addBranches 39 = .ok (.iload 5, 2) := by decide +kernel
theorem dX0_addBranches_41 : decode cX0_addBranches 41 = .ok (.baload, 1) := by decide +kernel
theorem dX0_addBranches_42 : decode cX0_addBranches 42 = .ok (.ifCond .ne 25, 3) := by decide +kernel
theorem dX0_addBranches_45 : decode cX0_addBranches 45 = .ok (.aload_n 0, 1) := by decide +kernel
theorem dX0_addBranches_46 : decode cX0_addBranches 46 = .ok (.iload 5, 2) := by decide +kernel
theorem dX0_addBranches_48 : decode cX0_addBranches 48 = .ok (.invokevirtual 64, 3) := by decide +kernel
theorem dX0_addBranches_51 : decode cX0_addBranches 51 = .ok (.ifCond .ne 16, 3) := by decide +kernel
theorem dX0_addBranches_54 : decode cX0_addBranches 54 = .ok (.iload 4, 2) := by decide +kernel
theorem dX0_addBranches_56 : decode cX0_addBranches 56 = .ok (.aload_n 0, 1) := by decide +kernel
theorem dX0_addBranches_57 : decode cX0_addBranches 57 = .ok (.aload_n 1, 1) := by decide +kernel
theorem dX0_addBranches_58 : decode cX0_addBranches 58 = .ok (.aload_n 2, 1) := by decide +kernel
theorem dX0_addBranches_59 : decode cX0_addBranches 59 = .ok (.iload 5, 2) := by decide +kernel
theorem dX0_addBranches_61 : decode cX0_addBranches 61 = .ok (.invokevirtual 67, 3) := by decide +kernel
theorem dX0_addBranches_64 : decode cX0_addBranches 64 = .ok (.iadd, 1) := by decide +kernel
theorem dX0_addBranches_65 : decode cX0_addBranches 65 = .ok (.istore 4, 2) := by decide +kernel
theorem dX0_addBranches_67 : decode cX0_addBranches 67 = .ok (.iinc 5 1, 3) := by decide +kernel
theorem dX0_addBranches_70 : decode cX0_addBranches 70 = .ok (.goto (-64), 3) := by decide +kernel
theorem dX0_addBranches_73 : decode cX0_addBranches 73 = .ok (.iload 4, 2) := by decide +kernel
theorem dX0_addBranches_75 : decode cX0_addBranches 75 = .ok (.ireturn, 1) := by decide +kernel
theorem dX0_addLine_0 : decode cX0_addLine 0 = .ok (.iconst 0, 1) := by decide +kernel
theorem dX0_addLine_1 : decode cX0_addLine 1 = .ok (.istore 4, 2) := by decide +kernel
theorem dX0_addLine_3 : decode cX0_addLine 3 = .ok (.iload_n 3, 1) := by decide +kernel
theorem dX0_addLine_4 : decode cX0_addLine 4 = .ok (.istore 5, 2) := by decide +kernel
theorem dX0_addLine_6 : decode cX0_addLine 6 = .ok (.iconst 0, 1) := by decide +kernel
theorem dX0_addLine_7 : decode cX0_addLine 7 = .ok (.istore 6, 2) := by decide +kernel
theorem dX0_addLine_9 : decode cX0_addLine 9 = .ok (.iload 6, 2) := by decide +kernel
theorem dX0_addLine_11 : decode cX0_addLine 11 = .ok (.sipush 150, 3) := by decide +kernel
theorem dX0_addLine_14 : decode cX0_addLine 14 = .ok (.if_icmp .ge 55, 3) := by decide +kernel
theorem dX0_addLine_17 : decode cX0_addLine 17 = .ok (.iload 5, 2) := by decide +kernel
theorem dX0_addLine_19 : decode cX0_addLine 19 = .ok (.iconst (-1), 1) := by decide +kernel
theorem dX0_addLine_20 : decode cX0_addLine 20 = .ok (.if_icmp .eq 49, 3) := by decide +kernel
theorem dX0_addLine_23 : decode cX0_addLine 23 = .ok (.aload_n 2, 1) := by decide +kernel
theorem dX0_addLine_24 : decode cX0_addLine 24 = .ok (.getfield 9, 3) := by decide +kernel
theorem dX0_addLine_27 : decode cX0_addLine 27 = .ok (.iload 5, 2) := by decide +kernel
theorem dX0_addLine_29 : decode cX0_addLine 29 = .ok (.baload, 1) := by decide +kernel
theorem dX0_addLine_30 : decode cX0_addLine 30 = .ok (.ifCond .eq 24, 3) := by decide +kernel
theorem dX0_addLine_33 : decode cX0_addLine 33 = .ok (.aload_n 0, 1) := by decide +kernel
theorem dX0_addLine_34 : decode cX0_addLine 34 = .ok (.getfield 9, 3) := by decide +kernel
theorem dX0_addLine_37 : decode cX0_addLine 37 = .ok (.iload 5, 2) := by decide +kernel
theorem dX0_addLine_39 : decode cX0_addLine 39 = .ok (.baload, 1) := by decide +kernel
theorem dX0_addLine_40 : decode cX0_addLine 40 = .ok (.ifCond .ne 14, 3) := by decide +kernel
theorem dX0_addLine_43 : decode cX0_addLine 43 = .ok (.aload_n 0, 1) := by decide +kernel
theorem dX0_addLine_44 : decode cX0_addLine 44 = .ok (.getfield 9, 3) := by decide +kernel
theorem dX0_addLine_47 : decode cX0_addLine 47 = .ok (.iload 5, 2) := by decide +kernel
theorem dX0_addLine_49 : decode cX0_addLine 49 = .ok (.iconst 1, 1) := by decide +kernel
theorem dX0_addLine_50 : decode cX0_addLine 50 = .ok (.bastore, 1) := by decide +kernel
theorem dX0_addLine_51 : decode cX0_addLine 51 = .ok (.iinc 4 1, 3) := by decide +kernel
theorem dX0_addLine_54 : decode cX0_addLine 54 = .ok (.aload_n 1, 1) := by decide +kernel
theorem dX0_addLine_55 : decode cX0_addLine 55 = .ok (.getfield 41, 3) := by decide +kernel
theorem dX0_addLine_58 : decode cX0_addLine 58 = .ok (.iload 5, 2) := by decide +kernel
theorem dX0_addLine_60 : decode cX0_addLine 60 = .ok (.iaload, 1) := by decide +kernel
theorem dX0_addLine_61 : decode cX0_addLine 61 = .ok (.istore 5, 2) := by decide +kernel
theorem dX0_addLine_63 : decode cX0_addLine 63 = .ok (.iinc 6 1, 3) := by decide +kernel
theorem dX0_addLine_66 : decode cX0_addLine 66 = .ok (.goto (-57), 3) := by decide +kernel
theorem dX0_addLine_69 : decode cX0_addLine 69 = .ok (.iload 4, 2) := by decide +kernel
theorem dX0_addLine_71 : decode cX0_addLine 71 = .ok (.ireturn, 1) := by decide +kernel
theorem dX0_countAll_0 : decode cX0_countAll 0 = .ok (.iconst 0, 1) := by decide +kernel
theorem dX0_countAll_1 : decode cX0_countAll 1 = .ok (.istore_n 2, 1) := by decide +kernel
theorem dX0_countAll_2 : decode cX0_countAll 2 = .ok (.iconst 0, 1) := by decide +kernel
theorem dX0_countAll_3 : decode cX0_countAll 3 = .ok (.istore_n 3, 1) := by decide +kernel
theorem dX0_countAll_4 : decode cX0_countAll 4 = .ok (.iload_n 3, 1) := by decide +kernel
theorem dX0_countAll_5 : decode cX0_countAll 5 = .ok (.aload_n 1, 1) := by decide +kernel
theorem dX0_countAll_6 : decode cX0_countAll 6 = .ok (.getfield 35, 3) := by decide +kernel
theorem dX0_countAll_9 : decode cX0_countAll 9 = .ok (.if_icmp .ge 21, 3) := by decide +kernel
theorem dX0_countAll_12 : decode cX0_countAll 12 = .ok (.aload_n 0, 1) := by decide +kernel
theorem dX0_countAll_13 : decode cX0_countAll 13 = .ok (.getfield 9, 3) := by decide +kernel
theorem dX0_countAll_16 : decode cX0_countAll 16 = .ok (.iload_n 3, 1) := by decide +kernel
theorem dX0_countAll_17 : decode cX0_countAll 17 = .ok (.baload, 1) := by decide +kernel
theorem dX0_countAll_18 : decode cX0_countAll 18 = .ok (.ifCond .eq 6, 3) := by decide +kernel
theorem dX0_countAll_21 : decode cX0_countAll 21 = .ok (.iinc 2 1, 3) := by decide +kernel
theorem dX0_countAll_24 : decode cX0_countAll 24 = .ok (.iinc 3 1, 3) := by decide +kernel
theorem dX0_countAll_27 : decode cX0_countAll 27 = .ok (.goto (-23), 3) := by decide +kernel
theorem dX0_countAll_30 : decode cX0_countAll 30 = .ok (.iload_n 2, 1) := by decide +kernel
theorem dX0_countAll_31 : decode cX0_countAll 31 = .ok (.ireturn, 1) := by decide +kernel
set_option maxRecDepth 20000 in
theorem ggX0_countLiveLeaves_X0_endsAt : GoodIn wsX0_countLiveLeaves wsX0_endsAt := goodIn_r _ [5, 6, 7, 8, 9, 4, 10, 11, 19, 20, 21] (by decide +kernel) (by decide +kernel)
set_option maxRecDepth 20000 in
theorem gX0_countLiveLeaves_X0_endsAt : GoodIn wsX0_countLiveLeaves (wsV RX0 44 RX0 yX0_endsAt wsX0_endsAt) := goodIn_app (goodIn_of _ (by decide +kernel)) ggX0_countLiveLeaves_X0_endsAt
theorem dX0_countLiveLeaves_0 : decode cX0_countLiveLeaves 0 = .ok (.iconst 0, 1) := by decide +kernel
theorem dX0_countLiveLeaves_1 : decode cX0_countLiveLeaves 1 = .ok (.istore_n 3, 1) := by decide +kernel
theorem dX0_countLiveLeaves_2 : decode cX0_countLiveLeaves 2 = .ok (.iconst 0, 1) := by decide +kernel
theorem dX0_countLiveLeaves_3 : decode cX0_countLiveLeaves 3 = .ok (.istore 4, 2) := by decide +kernel
theorem dX0_countLiveLeaves_5 : decode cX0_countLiveLeaves 5 = .ok (.iload 4, 2) := by decide +kernel
theorem dX0_countLiveLeaves_7 : decode cX0_countLiveLeaves 7 = .ok (.aload_n 1, 1) := by decide +kernel
theorem dX0_countLiveLeaves_8 : decode cX0_countLiveLeaves 8 = .ok (.getfield 35, 3) := by decide +kernel
theorem dX0_countLiveLeaves_11 : decode cX0_countLiveLeaves 11 = .ok (.if_icmp .ge 42, 3) := by decide +kernel
theorem dX0_countLiveLeaves_14 : decode cX0_countLiveLeaves 14 = .ok (.aload_n 1, 1) := by decide +kernel
theorem dX0_countLiveLeaves_15 : decode cX0_countLiveLeaves 15 = .ok (.getfield 57, 3) := by decide +kernel
theorem dX0_countLiveLeaves_18 : decode cX0_countLiveLeaves 18 = .ok (.iload 4, 2) := by decide +kernel
theorem dX0_countLiveLeaves_20 : decode cX0_countLiveLeaves 20 = .ok (.iaload, 1) := by decide +kernel
theorem dX0_countLiveLeaves_21 : decode cX0_countLiveLeaves 21 = .ok (.iload_n 2, 1) := by decide +kernel
theorem dX0_countLiveLeaves_22 : decode cX0_countLiveLeaves 22 = .ok (.if_icmp .ne 25, 3) := by decide +kernel
theorem dX0_countLiveLeaves_25 : decode cX0_countLiveLeaves 25 = .ok (.aload_n 0, 1) := by decide +kernel
theorem dX0_countLiveLeaves_26 : decode cX0_countLiveLeaves 26 = .ok (.iload 4, 2) := by decide +kernel
theorem dX0_countLiveLeaves_28 : decode cX0_countLiveLeaves 28 = .ok (.invokevirtual 44, 3) := by decide +kernel
theorem dX0_countLiveLeaves_31 : decode cX0_countLiveLeaves 31 = .ok (.ifCond .eq 16, 3) := by decide +kernel
theorem dX0_countLiveLeaves_34 : decode cX0_countLiveLeaves 34 = .ok (.aload_n 1, 1) := by decide +kernel
theorem dX0_countLiveLeaves_35 : decode cX0_countLiveLeaves 35 = .ok (.getfield 71, 3) := by decide +kernel
theorem dX0_countLiveLeaves_38 : decode cX0_countLiveLeaves 38 = .ok (.iload 4, 2) := by decide +kernel
theorem dX0_countLiveLeaves_40 : decode cX0_countLiveLeaves 40 = .ok (.baload, 1) := by decide +kernel
theorem dX0_countLiveLeaves_41 : decode cX0_countLiveLeaves 41 = .ok (.ifCond .ne 6, 3) := by decide +kernel
theorem dX0_countLiveLeaves_44 : decode cX0_countLiveLeaves 44 = .ok (.iinc 3 1, 3) := by decide +kernel
theorem dX0_countLiveLeaves_47 : decode cX0_countLiveLeaves 47 = .ok (.iinc 4 1, 3) := by decide +kernel
theorem dX0_countLiveLeaves_50 : decode cX0_countLiveLeaves 50 = .ok (.goto (-45), 3) := by decide +kernel
theorem dX0_countLiveLeaves_53 : decode cX0_countLiveLeaves 53 = .ok (.iload_n 3, 1) := by decide +kernel
theorem dX0_countLiveLeaves_54 : decode cX0_countLiveLeaves 54 = .ok (.ireturn, 1) := by decide +kernel
theorem dX0_shownValue_0 : decode cX0_shownValue 0 = .ok (.aload_n 0, 1) := by decide +kernel
theorem dX0_shownValue_1 : decode cX0_shownValue 1 = .ok (.getfield 19, 3) := by decide +kernel
theorem dX0_shownValue_4 : decode cX0_shownValue 4 = .ok (.iload_n 2, 1) := by decide +kernel
theorem dX0_shownValue_5 : decode cX0_shownValue 5 = .ok (.iaload, 1) := by decide +kernel
theorem dX0_shownValue_6 : decode cX0_shownValue 6 = .ok (.istore_n 3, 1) := by decide +kernel
theorem dX0_shownValue_7 : decode cX0_shownValue 7 = .ok (.iload_n 3, 1) := by decide +kernel
theorem dX0_shownValue_8 : decode cX0_shownValue 8 = .ok (.iconst (-1), 1) := by decide +kernel
theorem dX0_shownValue_9 : decode cX0_shownValue 9 = .ok (.if_icmp .eq 12, 3) := by decide +kernel
theorem dX0_shownValue_12 : decode cX0_shownValue 12 = .ok (.aload_n 1, 1) := by decide +kernel
theorem dX0_shownValue_13 : decode cX0_shownValue 13 = .ok (.getfield 71, 3) := by decide +kernel
theorem dX0_shownValue_16 : decode cX0_shownValue 16 = .ok (.iload_n 3, 1) := by decide +kernel
theorem dX0_shownValue_17 : decode cX0_shownValue 17 = .ok (.baload, 1) := by decide +kernel
theorem dX0_shownValue_18 : decode cX0_shownValue 18 = .ok (.ifCond .eq 7, 3) := by decide +kernel
theorem dX0_shownValue_21 : decode cX0_shownValue 21 = .ok (.iconst (-1), 1) := by decide +kernel
theorem dX0_shownValue_22 : decode cX0_shownValue 22 = .ok (.goto 9, 3) := by decide +kernel
theorem dX0_shownValue_25 : decode cX0_shownValue 25 = .ok (.aload_n 1, 1) := by decide +kernel
theorem dX0_shownValue_26 : decode cX0_shownValue 26 = .ok (.getfield 74, 3) := by decide +kernel
theorem dX0_shownValue_29 : decode cX0_shownValue 29 = .ok (.iload_n 3, 1) := by decide +kernel
theorem dX0_shownValue_30 : decode cX0_shownValue 30 = .ok (.iaload, 1) := by decide +kernel
theorem dX0_shownValue_31 : decode cX0_shownValue 31 = .ok (.ireturn, 1) := by decide +kernel
set_option maxRecDepth 20000 in
theorem ggX0_countShownBefore_X0_shownValue : GoodIn wsX0_countShownBefore wsX0_shownValue := goodIn_r _ [5, 6, 7, 8, 9, 10, 11, 12, 13, 14, 15, 16] (by decide +kernel) (by decide +kernel)
set_option maxRecDepth 20000 in
theorem gX0_countShownBefore_X0_shownValue : GoodIn wsX0_countShownBefore (wsV RX0 77 RX0 yX0_shownValue wsX0_shownValue) := goodIn_app (goodIn_of _ (by decide +kernel)) ggX0_countShownBefore_X0_shownValue
theorem dX0_countShownBefore_0 : decode cX0_countShownBefore 0 = .ok (.iconst 0, 1) := by decide +kernel
theorem dX0_countShownBefore_1 : decode cX0_countShownBefore 1 = .ok (.istore 4, 2) := by decide +kernel
theorem dX0_countShownBefore_3 : decode cX0_countShownBefore 3 = .ok (.iconst 0, 1) := by decide +kernel
theorem dX0_countShownBefore_4 : decode cX0_countShownBefore 4 = .ok (.istore 5, 2) := by decide +kernel
theorem dX0_countShownBefore_6 : decode cX0_countShownBefore 6 = .ok (.iload 5, 2) := by decide +kernel
theorem dX0_countShownBefore_8 : decode cX0_countShownBefore 8 = .ok (.iconst 4, 1) := by decide +kernel
theorem dX0_countShownBefore_9 : decode cX0_countShownBefore 9 = .ok (.if_icmp .ge 45, 3) := by decide +kernel
theorem dX0_countShownBefore_12 : decode cX0_countShownBefore 12 = .ok (.aload_n 0, 1) := by decide +kernel
theorem dX0_countShownBefore_13 : decode cX0_countShownBefore 13 = .ok (.aload_n 1, 1) := by decide +kernel
theorem dX0_countShownBefore_14 : decode cX0_countShownBefore 14 = .ok (.iload 5, 2) := by decide +kernel
theorem dX0_countShownBefore_16 : decode cX0_countShownBefore 16 = .ok (.invokevirtual 77, 3) := by decide +kernel
theorem dX0_countShownBefore_19 : decode cX0_countShownBefore 19 = .ok (.istore 6, 2) := by decide +kernel
theorem dX0_countShownBefore_21 : decode cX0_countShownBefore 21 = .ok (.iload 6, 2) := by decide +kernel
theorem dX0_countShownBefore_23 : decode cX0_countShownBefore 23 = .ok (.iconst (-1), 1) := by decide +kernel
theorem dX0_countShownBefore_24 : decode cX0_countShownBefore 24 = .ok (.if_icmp .eq 24, 3) := by decide +kernel
theorem dX0_countShownBefore_27 : decode cX0_countShownBefore 27 = .ok (.iload 6, 2) := by decide +kernel
theorem dX0_countShownBefore_29 : decode cX0_countShownBefore 29 = .ok (.iload_n 2, 1) := by decide +kernel
theorem dX0_countShownBefore_30 : decode cX0_countShownBefore 30 = .ok (.if_icmp .lt 15, 3) := by decide +kernel
theorem dX0_countShownBefore_33 : decode cX0_countShownBefore 33 = .ok (.iload 6, 2) := by decide +kernel
theorem dX0_countShownBefore_35 : decode cX0_countShownBefore 35 = .ok (.iload_n 2, 1) := by decide +kernel
theorem dX0_countShownBefore_36 : decode cX0_countShownBefore 36 = .ok (.if_icmp .ne 12, 3) := by decide +kernel
theorem dX0_countShownBefore_39 : decode cX0_countShownBefore 39 = .ok (.iload 5, 2) := by decide +kernel
theorem dX0_countShownBefore_41 : decode cX0_countShownBefore 41 = .ok (.iload_n 3, 1) := by decide +kernel
theorem dX0_countShownBefore_42 : decode cX0_countShownBefore 42 = .ok (.if_icmp .ge 6, 3) := by decide +kernel
theorem dX0_countShownBefore_45 : decode cX0_countShownBefore 45 = .ok (.iinc 4 1, 3) := by decide +kernel
theorem dX0_countShownBefore_48 : decode cX0_countShownBefore 48 = .ok (.iinc 5 1, 3) := by decide +kernel
theorem dX0_countShownBefore_51 : decode cX0_countShownBefore 51 = .ok (.goto (-45), 3) := by decide +kernel
theorem dX0_countShownBefore_54 : decode cX0_countShownBefore 54 = .ok (.iload 4, 2) := by decide +kernel
theorem dX0_countShownBefore_56 : decode cX0_countShownBefore 56 = .ok (.ireturn, 1) := by decide +kernel
set_option maxRecDepth 20000 in
theorem ggX1_init_X0_init : GoodIn wsX1_init wsX0_init := goodIn_r _ [15, 16, 2, 3, 17, 18, 10, 19, 20, 21, 22, 23, 24, 25, 26, 27] (by decide +kernel) (by decide +kernel)
set_option maxRecDepth 20000 in
theorem gX1_init_X0_init : GoodIn wsX1_init (wsX0_init) := ggX1_init_X0_init
theorem dX1_init_0 : decode cX1_init 0 = .ok (.aload_n 0, 1) := by decide +kernel
theorem dX1_init_1 : decode cX1_init 1 = .ok (.invokespecial 3, 3) := by decide +kernel
theorem dX1_init_4 : decode cX1_init 4 = .ok (.aload_n 0, 1) := by decide +kernel
theorem dX1_init_5 : decode cX1_init 5 = .ok (.new 9, 3) := by decide +kernel
theorem dX1_init_8 : decode cX1_init 8 = .ok (.dup, 1) := by decide +kernel
theorem dX1_init_9 : decode cX1_init 9 = .ok (.invokespecial 11, 3) := by decide +kernel
theorem dX1_init_12 : decode cX1_init 12 = .ok (.putfield 12, 3) := by decide +kernel
theorem dX1_init_15 : decode cX1_init 15 = .ok (.aload_n 0, 1) := by decide +kernel
theorem dX1_init_16 : decode cX1_init 16 = .ok (.bipush 20, 2) := by decide +kernel
theorem dX1_init_18 : decode cX1_init 18 = .ok (.putfield 18, 3) := by decide +kernel
theorem dX1_init_21 : decode cX1_init 21 = .ok (.aload_n 0, 1) := by decide +kernel
theorem dX1_init_22 : decode cX1_init 22 = .ok (.iconst 0, 1) := by decide +kernel
theorem dX1_init_23 : decode cX1_init 23 = .ok (.putfield 22, 3) := by decide +kernel
theorem dX1_init_26 : decode cX1_init 26 = .ok (.aload_n 0, 1) := by decide +kernel
theorem dX1_init_27 : decode cX1_init 27 = .ok (.iconst 4, 1) := by decide +kernel
theorem dX1_init_28 : decode cX1_init 28 = .ok (.newarray .int, 2) := by decide +kernel
theorem dX1_init_30 : decode cX1_init 30 = .ok (.putfield 25, 3) := by decide +kernel
theorem dX1_init_33 : decode cX1_init 33 = .ok (.aload_n 0, 1) := by decide +kernel
theorem dX1_init_34 : decode cX1_init 34 = .ok (.bipush 9, 2) := by decide +kernel
theorem dX1_init_36 : decode cX1_init 36 = .ok (.newarray .int, 2) := by decide +kernel
theorem dX1_init_38 : decode cX1_init 38 = .ok (.putfield 29, 3) := by decide +kernel
theorem dX1_init_41 : decode cX1_init 41 = .ok (.return_, 1) := by decide +kernel
set_option maxRecDepth 20000 in
theorem ggX1_append_X1_noteChange : GoodIn wsX1_append wsX1_noteChange := goodIn_r _ [6, 7, 8, 1, 9, 10, 11, 12, 13, 14, 15, 16, 17, 18, 19, 20, 21, 22, 23, 24, 25, 26, 27, 28, 29, 30, 31, 32, 33, 34, 35, 36, 37, 38, 39, 40, 41, 42, 43, 44, 45, 46, 47, 48, 49, 50, 51, 52, 53, 54, 55, 56, 57, 58, 59, 60, 61, 62, 63, 64, 65, 66, 67, 68] (by decide +kernel) (by decide +kernel)
set_option maxRecDepth 20000 in
theorem gX1_append_X1_noteChange : GoodIn wsX1_append (wsV RX1 41 RX1 yX1_noteChange wsX1_noteChange) := goodIn_app (goodIn_of _ (by decide +kernel)) ggX1_append_X1_noteChange
theorem dX1_append_0 : decode cX1_append 0 = .ok (.aload_n 0, 1) := by decide +kernel
theorem dX1_append_1 : decode cX1_append 1 = .ok (.getfield 12, 3) := by decide +kernel
theorem dX1_append_4 : decode cX1_append 4 = .ok (.getfield 32, 3) := by decide +kernel
theorem dX1_append_7 : decode cX1_append 7 = .ok (.iload_n 2, 1) := by decide +kernel
theorem dX1_append_8 : decode cX1_append 8 = .ok (.iconst 1, 1) := by decide +kernel
theorem dX1_append_9 : decode cX1_append 9 = .ok (.bastore, 1) := by decide +kernel
theorem dX1_append_10 : decode cX1_append 10 = .ok (.aload_n 0, 1) := by decide +kernel
theorem dX1_append_11 : decode cX1_append 11 = .ok (.aload_n 1, 1) := by decide +kernel
theorem dX1_append_12 : decode cX1_append 12 = .ok (.aload_n 1, 1) := by decide +kernel
theorem dX1_append_13 : decode cX1_append 13 = .ok (.getfield 36, 3) := by decide +kernel
theorem dX1_append_16 : decode cX1_append 16 = .ok (.iload_n 2, 1) := by decide +kernel
theorem dX1_append_17 : decode cX1_append 17 = .ok (.iaload, 1) := by decide +kernel
theorem dX1_append_18 : decode cX1_append 18 = .ok (.invokevirtual 41, 3) := by decide +kernel
theorem dX1_append_21 : decode cX1_append 21 = .ok (.return_, 1) := by decide +kernel
set_option maxRecDepth 20000 in
theorem ggX1_receive_X0_addBranches : GoodIn wsX1_receive wsX0_addBranches := goodIn_r _ [6, 7, 8, 9, 10, 5, 11, 12, 13, 14, 15, 16, 17, 18, 19, 20, 67, 68, 69, 70, 71, 72, 73, 74, 75, 76] (by decide +kernel) (by decide +kernel)
set_option maxRecDepth 20000 in
theorem gX1_receive_X0_addBranches : GoodIn wsX1_receive (wsV RX1 45 RX0 yX0_addBranches wsX0_addBranches) := goodIn_app (goodIn_of _ (by decide +kernel)) ggX1_receive_X0_addBranches
set_option maxRecDepth 20000 in
theorem ggX1_receive_X1_noteChange : GoodIn wsX1_receive wsX1_noteChange := goodIn_r _ [25, 26, 27, 1, 28, 29, 30, 31, 5, 32, 33, 34, 35, 36, 16, 37, 38, 39, 40, 41, 42, 43, 44, 8, 9, 10, 11, 7, 12, 13, 14, 15, 45, 46, 47, 48, 49, 50, 51, 52, 53, 54, 55, 56, 57, 58, 59, 60, 61, 62, 63, 64, 65, 66, 74, 75, 76, 67, 68, 69, 70, 71, 72, 73] (by decide +kernel) (by decide +kernel)
set_option maxRecDepth 20000 in
theorem gX1_receive_X1_noteChange : GoodIn wsX1_receive (wsV RX1 41 RX1 yX1_noteChange wsX1_noteChange) := goodIn_app (goodIn_of _ (by decide +kernel)) ggX1_receive_X1_noteChange
theorem dX1_receive_0 : decode cX1_receive 0 = .ok (.aload_n 0, 1) := by decide +kernel
theorem dX1_receive_1 : decode cX1_receive 1 = .ok (.getfield 12, 3) := by decide +kernel
theorem dX1_receive_4 : decode cX1_receive 4 = .ok (.aload_n 1, 1) := by decide +kernel
theorem dX1_receive_5 : decode cX1_receive 5 = .ok (.aload_n 2, 1) := by decide +kernel
theorem dX1_receive_6 : decode cX1_receive 6 = .ok (.iload_n 3, 1) := by decide +kernel
theorem dX1_receive_7 : decode cX1_receive 7 = .ok (.invokevirtual 45, 3) := by decide +kernel
theorem dX1_receive_10 : decode cX1_receive 10 = .ok (.istore 4, 2) := by decide +kernel
theorem dX1_receive_12 : decode cX1_receive 12 = .ok (.iload 4, 2) := by decide +kernel
theorem dX1_receive_14 : decode cX1_receive 14 = .ok (.ifCond .le 9, 3) := by decide +kernel
theorem dX1_receive_17 : decode cX1_receive 17 = .ok (.aload_n 0, 1) := by decide +kernel
theorem dX1_receive_18 : decode cX1_receive 18 = .ok (.aload_n 1, 1) := by decide +kernel
theorem dX1_receive_19 : decode cX1_receive 19 = .ok (.iload_n 3, 1) := by decide +kernel
theorem dX1_receive_20 : decode cX1_receive 20 = .ok (.invokevirtual 41, 3) := by decide +kernel
theorem dX1_receive_23 : decode cX1_receive 23 = .ok (.iload 4, 2) := by decide +kernel
theorem dX1_receive_25 : decode cX1_receive 25 = .ok (.ireturn, 1) := by decide +kernel
set_option maxRecDepth 20000 in
theorem ggX1_noteChange_X0_survey : GoodIn wsX1_noteChange wsX0_survey := goodIn_r _ [9, 10, 11, 12, 8, 13, 14, 15, 16, 17, 18, 19, 20, 21, 22, 23, 24, 25, 26, 27, 28, 29, 30, 31, 32, 33, 34, 35, 36, 37, 38, 39, 40, 41, 42, 43, 44, 54, 55, 56, 57, 58, 59, 60, 61, 62, 63] (by decide +kernel) (by decide +kernel)
set_option maxRecDepth 20000 in
theorem gX1_noteChange_X0_survey : GoodIn wsX1_noteChange (wsV RX1 49 RX0 yX0_survey wsX0_survey) := goodIn_app (goodIn_of _ (by decide +kernel)) ggX1_noteChange_X0_survey
set_option maxRecDepth 20000 in
theorem ggX1_noteChange_X0_stem : GoodIn wsX1_noteChange wsX0_stem := goodIn_r _ [48, 27, 14, 28, 29, 30, 8, 31, 57, 58, 59, 60, 61, 62, 63, 54, 55, 56] (by decide +kernel) (by decide +kernel)
set_option maxRecDepth 20000 in
theorem gX1_noteChange_X0_stem : GoodIn wsX1_noteChange (wsV RX1 53 RX0 yX0_stem wsX0_stem) := goodIn_app (goodIn_of _ (by decide +kernel)) ggX1_noteChange_X0_stem
theorem dX1_noteChange_0 : decode cX1_noteChange 0 = .ok (.aload_n 0, 1) := by decide +kernel
theorem dX1_noteChange_1 : decode cX1_noteChange 1 = .ok (.dup, 1) := by decide +kernel
theorem dX1_noteChange_2 : decode cX1_noteChange 2 = .ok (.getfield 22, 3) := by decide +kernel
theorem dX1_noteChange_5 : decode cX1_noteChange 5 = .ok (.iconst 1, 1) := by decide +kernel
theorem dX1_noteChange_6 : decode cX1_noteChange 6 = .ok (.iadd, 1) := by decide +kernel
theorem dX1_noteChange_7 : decode cX1_noteChange 7 = .ok (.putfield 22, 3) := by decide +kernel
theorem dX1_noteChange_10 : decode cX1_noteChange 10 = .ok (.aload_n 0, 1) := by decide +kernel
theorem dX1_noteChange_11 : decode cX1_noteChange 11 = .ok (.getfield 25, 3) := by decide +kernel
theorem dX1_noteChange_14 : decode cX1_noteChange 14 = .ok (.iload_n 2, 1) := by decide +kernel
theorem dX1_noteChange_15 : decode cX1_noteChange 15 = .ok (.aload_n 0, 1) := by decide +kernel
theorem dX1_noteChange_16 : decode cX1_noteChange 16 = .ok (.getfield 22, 3) := by decide +kernel
theorem dX1_noteChange_19 : decode cX1_noteChange 19 = .ok (.iastore, 1) := by decide +kernel
theorem dX1_noteChange_20 : decode cX1_noteChange 20 = .ok (.aload_n 0, 1) := by decide +kernel
theorem dX1_noteChange_21 : decode cX1_noteChange 21 = .ok (.getfield 12, 3) := by decide +kernel
theorem dX1_noteChange_24 : decode cX1_noteChange 24 = .ok (.aload_n 1, 1) := by decide +kernel
theorem dX1_noteChange_25 : decode cX1_noteChange 25 = .ok (.invokevirtual 49, 3) := by decide +kernel
theorem dX1_noteChange_28 : decode cX1_noteChange 28 = .ok (.aload_n 0, 1) := by decide +kernel
theorem dX1_noteChange_29 : decode cX1_noteChange 29 = .ok (.getfield 12, 3) := by decide +kernel
theorem dX1_noteChange_32 : decode cX1_noteChange 32 = .ok (.aload_n 1, 1) := by decide +kernel
theorem dX1_noteChange_33 : decode cX1_noteChange 33 = .ok (.aload_n 0, 1) := by decide +kernel
theorem dX1_noteChange_34 : decode cX1_noteChange 34 = .ok (.getfield 18, 3) := by decide +kernel
theorem dX1_noteChange_37 : decode cX1_noteChange 37 = .ok (.invokevirtual 53, 3) := by decide +kernel
theorem dX1_noteChange_40 : decode cX1_noteChange 40 = .ok (.pop, 1) := by decide +kernel
theorem dX1_noteChange_41 : decode cX1_noteChange 41 = .ok (.return_, 1) := by decide +kernel
set_option maxRecDepth 20000 in
theorem ggX1_clear_X0_removeAll : GoodIn wsX1_clear wsX0_removeAll := goodIn_r _ [9, 10, 55, 56, 57] (by decide +kernel) (by decide +kernel)
set_option maxRecDepth 20000 in
theorem gX1_clear_X0_removeAll : GoodIn wsX1_clear (wsV RX1 57 RX0 yX0_removeAll wsX0_removeAll) := goodIn_app (goodIn_of _ (by decide +kernel)) ggX1_clear_X0_removeAll
set_option maxRecDepth 20000 in
theorem ggX1_clear_X0_survey : GoodIn wsX1_clear wsX0_survey := goodIn_r _ [14, 15, 16, 17, 8, 18, 19, 20, 21, 22, 23, 24, 25, 26, 27, 28, 29, 30, 31, 10, 32, 33, 34, 35, 36, 37, 38, 39, 40, 41, 42, 43, 44, 45, 46, 47, 48, 55, 56, 57, 58, 59, 60, 61, 62, 63, 64] (by decide +kernel) (by decide +kernel)
set_option maxRecDepth 20000 in
theorem gX1_clear_X0_survey : GoodIn wsX1_clear (wsV RX1 49 RX0 yX0_survey wsX0_survey) := goodIn_app (goodIn_of _ (by decide +kernel)) ggX1_clear_X0_survey
set_option maxRecDepth 20000 in
theorem ggX1_clear_J7_fill_53178 : GoodIn wsX1_clear wsJ7_fill_53178 := goodIn_r _ [27] (by decide +kernel) (by decide +kernel)
set_option maxRecDepth 20000 in
theorem gX1_clear_J7_fill_53178 : GoodIn wsX1_clear (va_wsS RX1 60 yJ7_fill_53178 wsJ7_fill_53178) := goodIn_app (goodIn_of _ (by decide +kernel)) ggX1_clear_J7_fill_53178
theorem dX1_clear_0 : decode cX1_clear 0 = .ok (.aload_n 0, 1) := by decide +kernel
theorem dX1_clear_1 : decode cX1_clear 1 = .ok (.getfield 12, 3) := by decide +kernel
theorem dX1_clear_4 : decode cX1_clear 4 = .ok (.invokevirtual 57, 3) := by decide +kernel
theorem dX1_clear_7 : decode cX1_clear 7 = .ok (.aload_n 0, 1) := by decide +kernel
theorem dX1_clear_8 : decode cX1_clear 8 = .ok (.getfield 12, 3) := by decide +kernel
theorem dX1_clear_11 : decode cX1_clear 11 = .ok (.aload_n 1, 1) := by decide +kernel
theorem dX1_clear_12 : decode cX1_clear 12 = .ok (.invokevirtual 49, 3) := by decide +kernel
theorem dX1_clear_15 : decode cX1_clear 15 = .ok (.aload_n 0, 1) := by decide +kernel
theorem dX1_clear_16 : decode cX1_clear 16 = .ok (.iconst 0, 1) := by decide +kernel
theorem dX1_clear_17 : decode cX1_clear 17 = .ok (.putfield 22, 3) := by decide +kernel
theorem dX1_clear_20 : decode cX1_clear 20 = .ok (.aload_n 0, 1) := by decide +kernel
theorem dX1_clear_21 : decode cX1_clear 21 = .ok (.getfield 25, 3) := by decide +kernel
theorem dX1_clear_24 : decode cX1_clear 24 = .ok (.iconst 0, 1) := by decide +kernel
theorem dX1_clear_25 : decode cX1_clear 25 = .ok (.invokestatic 60, 3) := by decide +kernel
theorem dX1_clear_28 : decode cX1_clear 28 = .ok (.aload_n 0, 1) := by decide +kernel
theorem dX1_clear_29 : decode cX1_clear 29 = .ok (.getfield 29, 3) := by decide +kernel
theorem dX1_clear_32 : decode cX1_clear 32 = .ok (.iconst 0, 1) := by decide +kernel
theorem dX1_clear_33 : decode cX1_clear 33 = .ok (.invokestatic 60, 3) := by decide +kernel
theorem dX1_clear_36 : decode cX1_clear 36 = .ok (.return_, 1) := by decide +kernel
theorem dX1_nextChanged_0 : decode cX1_nextChanged 0 = .ok (.iconst (-1), 1) := by decide +kernel
theorem dX1_nextChanged_1 : decode cX1_nextChanged 1 = .ok (.istore_n 2, 1) := by decide +kernel
theorem dX1_nextChanged_2 : decode cX1_nextChanged 2 = .ok (.iconst 0, 1) := by decide +kernel
theorem dX1_nextChanged_3 : decode cX1_nextChanged 3 = .ok (.istore_n 3, 1) := by decide +kernel
theorem dX1_nextChanged_4 : decode cX1_nextChanged 4 = .ok (.iload_n 3, 1) := by decide +kernel
theorem dX1_nextChanged_5 : decode cX1_nextChanged 5 = .ok (.iconst 4, 1) := by decide +kernel
theorem dX1_nextChanged_6 : decode cX1_nextChanged 6 = .ok (.if_icmp .ge 41, 3) := by decide +kernel
theorem dX1_nextChanged_9 : decode cX1_nextChanged 9 = .ok (.aload_n 0, 1) := by decide +kernel
theorem dX1_nextChanged_10 : decode cX1_nextChanged 10 = .ok (.getfield 25, 3) := by decide +kernel
theorem dX1_nextChanged_13 : decode cX1_nextChanged 13 = .ok (.iload_n 3, 1) := by decide +kernel
theorem dX1_nextChanged_14 : decode cX1_nextChanged 14 = .ok (.iaload, 1) := by decide +kernel
theorem dX1_nextChanged_15 : decode cX1_nextChanged 15 = .ok (.iload_n 1, 1) := by decide +kernel
theorem dX1_nextChanged_16 : decode cX1_nextChanged 16 = .ok (.if_icmp .le 25, 3) := by decide +kernel
theorem dX1_nextChanged_19 : decode cX1_nextChanged 19 = .ok (.iload_n 2, 1) := by decide +kernel
theorem dX1_nextChanged_20 : decode cX1_nextChanged 20 = .ok (.iconst (-1), 1) := by decide +kernel
theorem dX1_nextChanged_21 : decode cX1_nextChanged 21 = .ok (.if_icmp .eq 18, 3) := by decide +kernel
theorem dX1_nextChanged_24 : decode cX1_nextChanged 24 = .ok (.aload_n 0, 1) := by decide +kernel
theorem dX1_nextChanged_25 : decode cX1_nextChanged 25 = .ok (.getfield 25, 3) := by decide +kernel
theorem dX1_nextChanged_28 : decode cX1_nextChanged 28 = .ok (.iload_n 3, 1) := by decide +kernel
theorem dX1_nextChanged_29 : decode cX1_nextChanged 29 = .ok (.iaload, 1) := by decide +kernel
theorem dX1_nextChanged_30 : decode cX1_nextChanged 30 = .ok (.aload_n 0, 1) := by decide +kernel
theorem dX1_nextChanged_31 : decode cX1_nextChanged 31 = .ok (.getfield 25, 3) := by decide +kernel
theorem dX1_nextChanged_34 : decode cX1_nextChanged 34 = .ok (.iload_n 2, 1) := by decide +kernel
theorem dX1_nextChanged_35 : decode cX1_nextChanged 35 = .ok (.iaload, 1) := by decide +kernel
theorem dX1_nextChanged_36 : decode cX1_nextChanged 36 = .ok (.if_icmp .ge 5, 3) := by decide +kernel
theorem dX1_nextChanged_39 : decode cX1_nextChanged 39 = .ok (.iload_n 3, 1) := by decide +kernel
theorem dX1_nextChanged_40 : decode cX1_nextChanged 40 = .ok (.istore_n 2, 1) := by decide +kernel
theorem dX1_nextChanged_41 : decode cX1_nextChanged 41 = .ok (.iinc 3 1, 3) := by decide +kernel
theorem dX1_nextChanged_44 : decode cX1_nextChanged 44 = .ok (.goto (-40), 3) := by decide +kernel
theorem dX1_nextChanged_47 : decode cX1_nextChanged 47 = .ok (.iload_n 2, 1) := by decide +kernel
theorem dX1_nextChanged_48 : decode cX1_nextChanged 48 = .ok (.ireturn, 1) := by decide +kernel
theorem dX1_countChanged_0 : decode cX1_countChanged 0 = .ok (.iconst 0, 1) := by decide +kernel
theorem dX1_countChanged_1 : decode cX1_countChanged 1 = .ok (.istore_n 2, 1) := by decide +kernel
theorem dX1_countChanged_2 : decode cX1_countChanged 2 = .ok (.iconst 0, 1) := by decide +kernel
theorem dX1_countChanged_3 : decode cX1_countChanged 3 = .ok (.istore_n 3, 1) := by decide +kernel
theorem dX1_countChanged_4 : decode cX1_countChanged 4 = .ok (.iload_n 3, 1) := by decide +kernel
theorem dX1_countChanged_5 : decode cX1_countChanged 5 = .ok (.iconst 4, 1) := by decide +kernel
theorem dX1_countChanged_6 : decode cX1_countChanged 6 = .ok (.if_icmp .ge 22, 3) := by decide +kernel
theorem dX1_countChanged_9 : decode cX1_countChanged 9 = .ok (.aload_n 0, 1) := by decide +kernel
theorem dX1_countChanged_10 : decode cX1_countChanged 10 = .ok (.getfield 25, 3) := by decide +kernel
theorem dX1_countChanged_13 : decode cX1_countChanged 13 = .ok (.iload_n 3, 1) := by decide +kernel
theorem dX1_countChanged_14 : decode cX1_countChanged 14 = .ok (.iaload, 1) := by decide +kernel
theorem dX1_countChanged_15 : decode cX1_countChanged 15 = .ok (.iload_n 1, 1) := by decide +kernel
theorem dX1_countChanged_16 : decode cX1_countChanged 16 = .ok (.if_icmp .le 6, 3) := by decide +kernel
theorem dX1_countChanged_19 : decode cX1_countChanged 19 = .ok (.iinc 2 1, 3) := by decide +kernel
theorem dX1_countChanged_22 : decode cX1_countChanged 22 = .ok (.iinc 3 1, 3) := by decide +kernel
theorem dX1_countChanged_25 : decode cX1_countChanged 25 = .ok (.goto (-21), 3) := by decide +kernel
theorem dX1_countChanged_28 : decode cX1_countChanged 28 = .ok (.iload_n 2, 1) := by decide +kernel
theorem dX1_countChanged_29 : decode cX1_countChanged 29 = .ok (.ireturn, 1) := by decide +kernel
theorem dX2_init_0 : decode cX2_init 0 = .ok (.aload_n 0, 1) := by decide +kernel
theorem dX2_init_1 : decode cX2_init 1 = .ok (.invokespecial 3, 3) := by decide +kernel
theorem dX2_init_4 : decode cX2_init 4 = .ok (.aload_n 0, 1) := by decide +kernel
theorem dX2_init_5 : decode cX2_init 5 = .ok (.sipush 150, 3) := by decide +kernel
theorem dX2_init_8 : decode cX2_init 8 = .ok (.newarray .int, 2) := by decide +kernel
theorem dX2_init_10 : decode cX2_init 10 = .ok (.putfield 9, 3) := by decide +kernel
theorem dX2_init_13 : decode cX2_init 13 = .ok (.aload_n 0, 1) := by decide +kernel
theorem dX2_init_14 : decode cX2_init 14 = .ok (.sipush 150, 3) := by decide +kernel
theorem dX2_init_17 : decode cX2_init 17 = .ok (.newarray .int, 2) := by decide +kernel
theorem dX2_init_19 : decode cX2_init 19 = .ok (.putfield 15, 3) := by decide +kernel
theorem dX2_init_22 : decode cX2_init 22 = .ok (.aload_n 0, 1) := by decide +kernel
theorem dX2_init_23 : decode cX2_init 23 = .ok (.sipush 150, 3) := by decide +kernel
theorem dX2_init_26 : decode cX2_init 26 = .ok (.newarray .int, 2) := by decide +kernel
theorem dX2_init_28 : decode cX2_init 28 = .ok (.putfield 18, 3) := by decide +kernel
theorem dX2_init_31 : decode cX2_init 31 = .ok (.aload_n 0, 1) := by decide +kernel
theorem dX2_init_32 : decode cX2_init 32 = .ok (.sipush 150, 3) := by decide +kernel
theorem dX2_init_35 : decode cX2_init 35 = .ok (.newarray .boolean, 2) := by decide +kernel
theorem dX2_init_37 : decode cX2_init 37 = .ok (.putfield 21, 3) := by decide +kernel
theorem dX2_init_40 : decode cX2_init 40 = .ok (.aload_n 0, 1) := by decide +kernel
theorem dX2_init_41 : decode cX2_init 41 = .ok (.sipush 150, 3) := by decide +kernel
theorem dX2_init_44 : decode cX2_init 44 = .ok (.newarray .int, 2) := by decide +kernel
theorem dX2_init_46 : decode cX2_init 46 = .ok (.putfield 25, 3) := by decide +kernel
theorem dX2_init_49 : decode cX2_init 49 = .ok (.aload_n 0, 1) := by decide +kernel
theorem dX2_init_50 : decode cX2_init 50 = .ok (.sipush 150, 3) := by decide +kernel
theorem dX2_init_53 : decode cX2_init 53 = .ok (.newarray .int, 2) := by decide +kernel
theorem dX2_init_55 : decode cX2_init 55 = .ok (.putfield 28, 3) := by decide +kernel
theorem dX2_init_58 : decode cX2_init 58 = .ok (.aload_n 0, 1) := by decide +kernel
theorem dX2_init_59 : decode cX2_init 59 = .ok (.iconst 0, 1) := by decide +kernel
theorem dX2_init_60 : decode cX2_init 60 = .ok (.putfield 31, 3) := by decide +kernel
theorem dX2_init_63 : decode cX2_init 63 = .ok (.return_, 1) := by decide +kernel
theorem dX2_find_0 : decode cX2_find 0 = .ok (.iconst 0, 1) := by decide +kernel
theorem dX2_find_1 : decode cX2_find 1 = .ok (.istore 5, 2) := by decide +kernel
theorem dX2_find_3 : decode cX2_find 3 = .ok (.iload 5, 2) := by decide +kernel
theorem dX2_find_5 : decode cX2_find 5 = .ok (.aload_n 0, 1) := by decide +kernel
theorem dX2_find_6 : decode cX2_find 6 = .ok (.getfield 31, 3) := by decide +kernel
theorem dX2_find_9 : decode cX2_find 9 = .ok (.if_icmp .ge 57, 3) := by decide +kernel
theorem dX2_find_12 : decode cX2_find 12 = .ok (.aload_n 0, 1) := by decide +kernel
theorem dX2_find_13 : decode cX2_find 13 = .ok (.getfield 9, 3) := by decide +kernel
theorem dX2_find_16 : decode cX2_find 16 = .ok (.iload 5, 2) := by decide +kernel
theorem dX2_find_18 : decode cX2_find 18 = .ok (.iaload, 1) := by decide +kernel
theorem dX2_find_19 : decode cX2_find 19 = .ok (.iload_n 1, 1) := by decide +kernel
theorem dX2_find_20 : decode cX2_find 20 = .ok (.if_icmp .ne 40, 3) := by decide +kernel
theorem dX2_find_23 : decode cX2_find 23 = .ok (.aload_n 0, 1) := by decide +kernel
theorem dX2_find_24 : decode cX2_find 24 = .ok (.getfield 15, 3) := by decide +kernel
theorem dX2_find_27 : decode cX2_find 27 = .ok (.iload 5, 2) := by decide +kernel
theorem dX2_find_29 : decode cX2_find 29 = .ok (.iaload, 1) := by decide +kernel
theorem dX2_find_30 : decode cX2_find 30 = .ok (.iload_n 2, 1) := by decide +kernel
theorem dX2_find_31 : decode cX2_find 31 = .ok (.if_icmp .ne 29, 3) := by decide +kernel
theorem dX2_find_34 : decode cX2_find 34 = .ok (.aload_n 0, 1) := by decide +kernel
theorem dX2_find_35 : decode cX2_find 35 = .ok (.getfield 18, 3) := by decide +kernel
theorem dX2_find_38 : decode cX2_find 38 = .ok (.iload 5, 2) := by decide +kernel
theorem dX2_find_40 : decode cX2_find 40 = .ok (.iaload, 1) := by decide +kernel
theorem dX2_find_41 : decode cX2_find 41 = .ok (.iload_n 3, 1) := by decide +kernel
theorem dX2_find_42 : decode cX2_find 42 = .ok (.if_icmp .ne 18, 3) := by decide +kernel
theorem dX2_find_45 : decode cX2_find 45 = .ok (.aload_n 0, 1) := by decide +kernel
theorem dX2_find_46 : decode cX2_find 46 = .ok (.getfield 21, 3) := by decide +kernel
theorem dX2_find_49 : decode cX2_find 49 = .ok (.iload 5, 2) := by decide +kernel
theorem dX2_find_51 : decode cX2_find 51 = .ok (.baload, 1) := by decide +kernel
theorem dX2_find_52 : decode cX2_find 52 = .ok (.iload 4, 2) := by decide +kernel
theorem dX2_find_54 : decode cX2_find 54 = .ok (.if_icmp .ne 6, 3) := by decide +kernel
theorem dX2_find_57 : decode cX2_find 57 = .ok (.iload 5, 2) := by decide +kernel
theorem dX2_find_59 : decode cX2_find 59 = .ok (.ireturn, 1) := by decide +kernel
theorem dX2_find_60 : decode cX2_find 60 = .ok (.iinc 5 1, 3) := by decide +kernel
theorem dX2_find_63 : decode cX2_find 63 = .ok (.goto (-60), 3) := by decide +kernel
theorem dX2_find_66 : decode cX2_find 66 = .ok (.iconst (-1), 1) := by decide +kernel
theorem dX2_find_67 : decode cX2_find 67 = .ok (.ireturn, 1) := by decide +kernel
theorem dX2_make_0 : decode cX2_make 0 = .ok (.aload_n 0, 1) := by decide +kernel
theorem dX2_make_1 : decode cX2_make 1 = .ok (.getfield 31, 3) := by decide +kernel
theorem dX2_make_4 : decode cX2_make 4 = .ok (.istore 5, 2) := by decide +kernel
theorem dX2_make_6 : decode cX2_make 6 = .ok (.iload_n 2, 1) := by decide +kernel
theorem dX2_make_7 : decode cX2_make 7 = .ok (.iconst (-1), 1) := by decide +kernel
theorem dX2_make_8 : decode cX2_make 8 = .ok (.if_icmp .ne 7, 3) := by decide +kernel
theorem dX2_make_11 : decode cX2_make 11 = .ok (.iconst 1, 1) := by decide +kernel
theorem dX2_make_12 : decode cX2_make 12 = .ok (.goto 11, 3) := by decide +kernel
theorem dX2_make_15 : decode cX2_make 15 = .ok (.aload_n 0, 1) := by decide +kernel
theorem dX2_make_16 : decode cX2_make 16 = .ok (.getfield 25, 3) := by decide +kernel
theorem dX2_make_19 : decode cX2_make 19 = .ok (.iload_n 2, 1) := by decide +kernel
theorem dX2_make_20 : decode cX2_make 20 = .ok (.iaload, 1) := by decide +kernel
theorem dX2_make_21 : decode cX2_make 21 = .ok (.iconst 1, 1) := by decide +kernel
theorem dX2_make_22 : decode cX2_make 22 = .ok (.iadd, 1) := by decide +kernel
theorem dX2_make_23 : decode cX2_make 23 = .ok (.istore 6, 2) := by decide +kernel
theorem dX2_make_25 : decode cX2_make 25 = .ok (.iload_n 2, 1) := by decide +kernel
theorem dX2_make_26 : decode cX2_make 26 = .ok (.iconst (-1), 1) := by decide +kernel
theorem dX2_make_27 : decode cX2_make 27 = .ok (.if_icmp .ne 8, 3) := by decide +kernel
theorem dX2_make_30 : decode cX2_make 30 = .ok (.bipush 31, 2) := by decide +kernel
theorem dX2_make_32 : decode cX2_make 32 = .ok (.goto 12, 3) := by decide +kernel
theorem dX2_make_35 : decode cX2_make 35 = .ok (.bipush 31, 2) := by decide +kernel
theorem dX2_make_37 : decode cX2_make 37 = .ok (.aload_n 0, 1) := by decide +kernel
theorem dX2_make_38 : decode cX2_make 38 = .ok (.getfield 28, 3) := by decide +kernel
theorem dX2_make_41 : decode cX2_make 41 = .ok (.iload_n 2, 1) := by decide +kernel
theorem dX2_make_42 : decode cX2_make 42 = .ok (.iaload, 1) := by decide +kernel
theorem dX2_make_43 : decode cX2_make 43 = .ok (.imul, 1) := by decide +kernel
theorem dX2_make_44 : decode cX2_make 44 = .ok (.istore 7, 2) := by decide +kernel
theorem dX2_make_46 : decode cX2_make 46 = .ok (.aload_n 0, 1) := by decide +kernel
theorem dX2_make_47 : decode cX2_make 47 = .ok (.getfield 9, 3) := by decide +kernel
theorem dX2_make_50 : decode cX2_make 50 = .ok (.iload 5, 2) := by decide +kernel
theorem dX2_make_52 : decode cX2_make 52 = .ok (.iload_n 1, 1) := by decide +kernel
theorem dX2_make_53 : decode cX2_make 53 = .ok (.iastore, 1) := by decide +kernel
theorem dX2_make_54 : decode cX2_make 54 = .ok (.aload_n 0, 1) := by decide +kernel
theorem dX2_make_55 : decode cX2_make 55 = .ok (.getfield 15, 3) := by decide +kernel
theorem dX2_make_58 : decode cX2_make 58 = .ok (.iload 5, 2) := by decide +kernel
theorem dX2_make_60 : decode cX2_make 60 = .ok (.iload_n 2, 1) := by decide +kernel
theorem dX2_make_61 : decode cX2_make 61 = .ok (.iastore, 1) := by decide +kernel
theorem dX2_make_62 : decode cX2_make 62 = .ok (.aload_n 0, 1) := by decide +kernel
theorem dX2_make_63 : decode cX2_make 63 = .ok (.getfield 18, 3) := by decide +kernel
theorem dX2_make_66 : decode cX2_make 66 = .ok (.iload 5, 2) := by decide +kernel
theorem dX2_make_68 : decode cX2_make 68 = .ok (.iload_n 3, 1) := by decide +kernel
theorem dX2_make_69 : decode cX2_make 69 = .ok (.iastore, 1) := by decide +kernel
theorem dX2_make_70 : decode cX2_make 70 = .ok (.aload_n 0, 1) := by decide +kernel
theorem dX2_make_71 : decode cX2_make 71 = .ok (.getfield 21, 3) := by decide +kernel
theorem dX2_make_74 : decode cX2_make 74 = .ok (.iload 5, 2) := by decide +kernel
theorem dX2_make_76 : decode cX2_make 76 = .ok (.iload 4, 2) := by decide +kernel
theorem dX2_make_78 : decode cX2_make 78 = .ok (.bastore, 1) := by decide +kernel
theorem dX2_make_79 : decode cX2_make 79 = .ok (.aload_n 0, 1) := by decide +kernel
theorem dX2_make_80 : decode cX2_make 80 = .ok (.getfield 25, 3) := by decide +kernel
theorem dX2_make_83 : decode cX2_make 83 = .ok (.iload 5, 2) := by decide +kernel
theorem dX2_make_85 : decode cX2_make 85 = .ok (.iload 6, 2) := by decide +kernel
theorem dX2_make_87 : decode cX2_make 87 = .ok (.iastore, 1) := by decide +kernel
theorem dX2_make_88 : decode cX2_make 88 = .ok (.aload_n 0, 1) := by decide +kernel
theorem dX2_make_89 : decode cX2_make 89 = .ok (.getfield 28, 3) := by decide +kernel
theorem dX2_make_92 : decode cX2_make 92 = .ok (.iload 5, 2) := by decide +kernel
theorem dX2_make_94 : decode cX2_make 94 = .ok (.iload 7, 2) := by decide +kernel
theorem dX2_make_96 : decode cX2_make 96 = .ok (.bipush 7, 2) := by decide +kernel
theorem dX2_make_98 : decode cX2_make 98 = .ok (.iload_n 3, 1) := by decide +kernel
theorem dX2_make_99 : decode cX2_make 99 = .ok (.imul, 1) := by decide +kernel
theorem dX2_make_100 : decode cX2_make 100 = .ok (.iadd, 1) := by decide +kernel
theorem dX2_make_101 : decode cX2_make 101 = .ok (.iload 6, 2) := by decide +kernel
theorem dX2_make_103 : decode cX2_make 103 = .ok (.iadd, 1) := by decide +kernel
theorem dX2_make_104 : decode cX2_make 104 = .ok (.iload 4, 2) := by decide +kernel
theorem dX2_make_106 : decode cX2_make 106 = .ok (.ifCond .eq 7, 3) := by decide +kernel
theorem dX2_make_109 : decode cX2_make 109 = .ok (.iconst 3, 1) := by decide +kernel
theorem dX2_make_110 : decode cX2_make 110 = .ok (.goto 4, 3) := by decide +kernel
theorem dX2_make_113 : decode cX2_make 113 = .ok (.iconst 0, 1) := by decide +kernel
theorem dX2_make_114 : decode cX2_make 114 = .ok (.iadd, 1) := by decide +kernel
theorem dX2_make_115 : decode cX2_make 115 = .ok (.sipush 997, 3) := by decide +kernel
theorem dX2_make_118 : decode cX2_make 118 = .ok (.irem, 1) := by decide +kernel
theorem dX2_make_119 : decode cX2_make 119 = .ok (.iastore, 1) := by decide +kernel
theorem dX2_make_120 : decode cX2_make 120 = .ok (.aload_n 0, 1) := by decide +kernel
theorem dX2_make_121 : decode cX2_make 121 = .ok (.dup, 1) := by decide +kernel
theorem dX2_make_122 : decode cX2_make 122 = .ok (.getfield 31, 3) := by decide +kernel
theorem dX2_make_125 : decode cX2_make 125 = .ok (.iconst 1, 1) := by decide +kernel
theorem dX2_make_126 : decode cX2_make 126 = .ok (.iadd, 1) := by decide +kernel
theorem dX2_make_127 : decode cX2_make 127 = .ok (.putfield 31, 3) := by decide +kernel
theorem dX2_make_130 : decode cX2_make 130 = .ok (.iload 5, 2) := by decide +kernel
theorem dX2_make_132 : decode cX2_make 132 = .ok (.ireturn, 1) := by decide +kernel
theorem dX2_isBetter_0 : decode cX2_isBetter 0 = .ok (.aload_n 0, 1) := by decide +kernel
theorem dX2_isBetter_1 : decode cX2_isBetter 1 = .ok (.getfield 21, 3) := by decide +kernel
theorem dX2_isBetter_4 : decode cX2_isBetter 4 = .ok (.iload_n 1, 1) := by decide +kernel
theorem dX2_isBetter_5 : decode cX2_isBetter 5 = .ok (.baload, 1) := by decide +kernel
theorem dX2_isBetter_6 : decode cX2_isBetter 6 = .ok (.aload_n 0, 1) := by decide +kernel
theorem dX2_isBetter_7 : decode cX2_isBetter 7 = .ok (.getfield 21, 3) := by decide +kernel
theorem dX2_isBetter_10 : decode cX2_isBetter 10 = .ok (.iload_n 2, 1) := by decide +kernel
theorem dX2_isBetter_11 : decode cX2_isBetter 11 = .ok (.baload, 1) := by decide +kernel
theorem dX2_isBetter_12 : decode cX2_isBetter 12 = .ok (.if_icmp .eq 10, 3) := by decide +kernel
theorem dX2_isBetter_15 : decode cX2_isBetter 15 = .ok (.aload_n 0, 1) := by decide +kernel
theorem dX2_isBetter_16 : decode cX2_isBetter 16 = .ok (.getfield 21, 3) := by decide +kernel
theorem dX2_isBetter_19 : decode cX2_isBetter 19 = .ok (.iload_n 2, 1) := by decide +kernel
theorem dX2_isBetter_20 : decode cX2_isBetter 20 = .ok (.baload, 1) := by decide +kernel
theorem dX2_isBetter_21 : decode cX2_isBetter 21 = .ok (.ireturn, 1) := by decide +kernel
theorem dX2_isBetter_22 : decode cX2_isBetter 22 = .ok (.aload_n 0, 1) := by decide +kernel
theorem dX2_isBetter_23 : decode cX2_isBetter 23 = .ok (.getfield 25, 3) := by decide +kernel
theorem dX2_isBetter_26 : decode cX2_isBetter 26 = .ok (.iload_n 1, 1) := by decide +kernel
theorem dX2_isBetter_27 : decode cX2_isBetter 27 = .ok (.iaload, 1) := by decide +kernel
theorem dX2_isBetter_28 : decode cX2_isBetter 28 = .ok (.aload_n 0, 1) := by decide +kernel
theorem dX2_isBetter_29 : decode cX2_isBetter 29 = .ok (.getfield 25, 3) := by decide +kernel
theorem dX2_isBetter_32 : decode cX2_isBetter 32 = .ok (.iload_n 2, 1) := by decide +kernel
theorem dX2_isBetter_33 : decode cX2_isBetter 33 = .ok (.iaload, 1) := by decide +kernel
theorem dX2_isBetter_34 : decode cX2_isBetter 34 = .ok (.if_icmp .eq 24, 3) := by decide +kernel
theorem dX2_isBetter_37 : decode cX2_isBetter 37 = .ok (.aload_n 0, 1) := by decide +kernel
theorem dX2_isBetter_38 : decode cX2_isBetter 38 = .ok (.getfield 25, 3) := by decide +kernel
theorem dX2_isBetter_41 : decode cX2_isBetter 41 = .ok (.iload_n 1, 1) := by decide +kernel
theorem dX2_isBetter_42 : decode cX2_isBetter 42 = .ok (.iaload, 1) := by decide +kernel
theorem dX2_isBetter_43 : decode cX2_isBetter 43 = .ok (.aload_n 0, 1) := by decide +kernel
theorem dX2_isBetter_44 : decode cX2_isBetter 44 = .ok (.getfield 25, 3) := by decide +kernel
theorem dX2_isBetter_47 : decode cX2_isBetter 47 = .ok (.iload_n 2, 1) := by decide +kernel
theorem dX2_isBetter_48 : decode cX2_isBetter 48 = .ok (.iaload, 1) := by decide +kernel
theorem dX2_isBetter_49 : decode cX2_isBetter 49 = .ok (.if_icmp .le 7, 3) := by decide +kernel
theorem dX2_isBetter_52 : decode cX2_isBetter 52 = .ok (.iconst 1, 1) := by decide +kernel
theorem dX2_isBetter_53 : decode cX2_isBetter 53 = .ok (.goto 4, 3) := by decide +kernel
theorem dX2_isBetter_56 : decode cX2_isBetter 56 = .ok (.iconst 0, 1) := by decide +kernel
theorem dX2_isBetter_57 : decode cX2_isBetter 57 = .ok (.ireturn, 1) := by decide +kernel
theorem dX2_isBetter_58 : decode cX2_isBetter 58 = .ok (.aload_n 0, 1) := by decide +kernel
theorem dX2_isBetter_59 : decode cX2_isBetter 59 = .ok (.getfield 28, 3) := by decide +kernel
theorem dX2_isBetter_62 : decode cX2_isBetter 62 = .ok (.iload_n 1, 1) := by decide +kernel
theorem dX2_isBetter_63 : decode cX2_isBetter 63 = .ok (.iaload, 1) := by decide +kernel
theorem dX2_isBetter_64 : decode cX2_isBetter 64 = .ok (.aload_n 0, 1) := by decide +kernel
theorem dX2_isBetter_65 : decode cX2_isBetter 65 = .ok (.getfield 28, 3) := by decide +kernel
theorem dX2_isBetter_68 : decode cX2_isBetter 68 = .ok (.iload_n 2, 1) := by decide +kernel
theorem dX2_isBetter_69 : decode cX2_isBetter 69 = .ok (.iaload, 1) := by decide +kernel
theorem dX2_isBetter_70 : decode cX2_isBetter 70 = .ok (.if_icmp .eq 24, 3) := by decide +kernel
theorem dX2_isBetter_73 : decode cX2_isBetter 73 = .ok (.aload_n 0, 1) := by decide +kernel
theorem dX2_isBetter_74 : decode cX2_isBetter 74 = .ok (.getfield 28, 3) := by decide +kernel
theorem dX2_isBetter_77 : decode cX2_isBetter 77 = .ok (.iload_n 1, 1) := by decide +kernel
theorem dX2_isBetter_78 : decode cX2_isBetter 78 = .ok (.iaload, 1) := by decide +kernel
theorem dX2_isBetter_79 : decode cX2_isBetter 79 = .ok (.aload_n 0, 1) := by decide +kernel
theorem dX2_isBetter_80 : decode cX2_isBetter 80 = .ok (.getfield 28, 3) := by decide +kernel
theorem dX2_isBetter_83 : decode cX2_isBetter 83 = .ok (.iload_n 2, 1) := by decide +kernel
theorem dX2_isBetter_84 : decode cX2_isBetter 84 = .ok (.iaload, 1) := by decide +kernel
theorem dX2_isBetter_85 : decode cX2_isBetter 85 = .ok (.if_icmp .le 7, 3) := by decide +kernel
theorem dX2_isBetter_88 : decode cX2_isBetter 88 = .ok (.iconst 1, 1) := by decide +kernel
theorem dX2_isBetter_89 : decode cX2_isBetter 89 = .ok (.goto 4, 3) := by decide +kernel
theorem dX2_isBetter_92 : decode cX2_isBetter 92 = .ok (.iconst 0, 1) := by decide +kernel
theorem dX2_isBetter_93 : decode cX2_isBetter 93 = .ok (.ireturn, 1) := by decide +kernel
theorem dX2_isBetter_94 : decode cX2_isBetter 94 = .ok (.iload_n 1, 1) := by decide +kernel
theorem dX2_isBetter_95 : decode cX2_isBetter 95 = .ok (.iload_n 2, 1) := by decide +kernel
theorem dX2_isBetter_96 : decode cX2_isBetter 96 = .ok (.if_icmp .ge 7, 3) := by decide +kernel
theorem dX2_isBetter_99 : decode cX2_isBetter 99 = .ok (.iconst 1, 1) := by decide +kernel
theorem dX2_isBetter_100 : decode cX2_isBetter 100 = .ok (.goto 4, 3) := by decide +kernel
theorem dX2_isBetter_103 : decode cX2_isBetter 103 = .ok (.iconst 0, 1) := by decide +kernel
theorem dX2_isBetter_104 : decode cX2_isBetter 104 = .ok (.ireturn, 1) := by decide +kernel
end
section
set_option maxRecDepth 20000 in
theorem ggX3_init_X2_init : GoodIn wsX3_init wsX2_init := goodIn_r _ [17, 18, 2, 3, 19, 20, 21, 22, 23, 24, 25, 26, 27, 49, 50, 51, 52, 53, 54, 55] (by decide +kernel) (by decide +kernel)
set_option maxRecDepth 20000 in
theorem gX3_init_X2_init_n9 : GoodIn wsX3_init (wsX2_init) := ggX3_init_X2_init
set_option maxRecDepth 20000 in
theorem ggX3_init_X0_init : GoodIn wsX3_init wsX0_init := goodIn_r _ [30, 31, 2, 3, 23, 32, 19, 33, 34, 35, 36, 37, 38, 59, 60, 61] (by decide +kernel) (by decide +kernel)
set_option maxRecDepth 20000 in
theorem gX3_init_X0_init : GoodIn wsX3_init (wsX0_init) := ggX3_init_X0_init
set_option maxRecDepth 20000 in
theorem ggX3_init_X1_init : GoodIn wsX3_init wsX1_init := goodIn_r _ [40, 41, 2, 3, 42, 11, 12, 43, 44, 45, 19, 46, 47, 48, 29, 30, 31, 23, 32, 33, 34, 35, 36, 37, 38, 59, 60, 61, 62, 63, 64, 65, 66] (by decide +kernel) (by decide +kernel)
set_option maxRecDepth 20000 in
theorem gX3_init_X1_init_n29 : GoodIn wsX3_init (wsX1_init) := ggX3_init_X1_init
theorem dX3_init_0 : decode cX3_init 0 = .ok (.aload_n 0, 1) := by decide +kernel
theorem dX3_init_1 : decode cX3_init 1 = .ok (.invokespecial 1, 3) := by decide +kernel
theorem dX3_init_4 : decode cX3_init 4 = .ok (.aload_n 0, 1) := by decide +kernel
theorem dX3_init_5 : decode cX3_init 5 = .ok (.new 7, 3) := by decide +kernel
theorem dX3_init_8 : decode cX3_init 8 = .ok (.dup, 1) := by decide +kernel
theorem dX3_init_9 : decode cX3_init 9 = .ok (.invokespecial 9, 3) := by decide +kernel
theorem dX3_init_12 : decode cX3_init 12 = .ok (.putfield 10, 3) := by decide +kernel
theorem dX3_init_15 : decode cX3_init 15 = .ok (.aload_n 0, 1) := by decide +kernel
theorem dX3_init_16 : decode cX3_init 16 = .ok (.iconst 3, 1) := by decide +kernel
theorem dX3_init_17 : decode cX3_init 17 = .ok (.anewarray 16, 3) := by decide +kernel
theorem dX3_init_20 : decode cX3_init 20 = .ok (.putfield 18, 3) := by decide +kernel
theorem dX3_init_23 : decode cX3_init 23 = .ok (.aload_n 0, 1) := by decide +kernel
theorem dX3_init_24 : decode cX3_init 24 = .ok (.new 22, 3) := by decide +kernel
theorem dX3_init_27 : decode cX3_init 27 = .ok (.dup, 1) := by decide +kernel
theorem dX3_init_28 : decode cX3_init 28 = .ok (.invokespecial 24, 3) := by decide +kernel
theorem dX3_init_31 : decode cX3_init 31 = .ok (.putfield 25, 3) := by decide +kernel
theorem dX3_init_34 : decode cX3_init 34 = .ok (.iconst 0, 1) := by decide +kernel
theorem dX3_init_35 : decode cX3_init 35 = .ok (.istore_n 1, 1) := by decide +kernel
theorem dX3_init_36 : decode cX3_init 36 = .ok (.iload_n 1, 1) := by decide +kernel
theorem dX3_init_37 : decode cX3_init 37 = .ok (.iconst 3, 1) := by decide +kernel
theorem dX3_init_38 : decode cX3_init 38 = .ok (.if_icmp .ge 22, 3) := by decide +kernel
theorem dX3_init_41 : decode cX3_init 41 = .ok (.aload_n 0, 1) := by decide +kernel
theorem dX3_init_42 : decode cX3_init 42 = .ok (.getfield 18, 3) := by decide +kernel
theorem dX3_init_45 : decode cX3_init 45 = .ok (.iload_n 1, 1) := by decide +kernel
theorem dX3_init_46 : decode cX3_init 46 = .ok (.new 16, 3) := by decide +kernel
theorem dX3_init_49 : decode cX3_init 49 = .ok (.dup, 1) := by decide +kernel
theorem dX3_init_50 : decode cX3_init 50 = .ok (.invokespecial 29, 3) := by decide +kernel
theorem dX3_init_53 : decode cX3_init 53 = .ok (.aastore, 1) := by decide +kernel
theorem dX3_init_54 : decode cX3_init 54 = .ok (.iinc 1 1, 3) := by decide +kernel
theorem dX3_init_57 : decode cX3_init 57 = .ok (.goto (-21), 3) := by decide +kernel
theorem dX3_init_60 : decode cX3_init 60 = .ok (.return_, 1) := by decide +kernel
set_option maxRecDepth 20000 in
theorem ggX3_edit_X3_storeAt : GoodIn wsX3_edit wsX3_storeAt := goodIn_ca (goodIn_r _ [7, 8, 9, 10, 108, 109, 110] (by decide +kernel) (by decide +kernel)) (goodIn_sub (fun _ h => List.mem_cons_of_mem _ (List.mem_append_left _ (List.mem_append_right _ h))) (by decide +kernel))
set_option maxRecDepth 20000 in
theorem gX3_edit_X3_storeAt : GoodIn wsX3_edit (wsV RX3 30 RX3 yX3_storeAt wsX3_storeAt) := goodIn_app (goodIn_of _ (by decide +kernel)) ggX3_edit_X3_storeAt
set_option maxRecDepth 20000 in
theorem ggX3_edit_X3_checkDocument : GoodIn wsX3_edit wsX3_checkDocument := goodIn_ca (goodIn_r _ [14, 8, 9] (by decide +kernel) (by decide +kernel)) (goodIn_sub (fun _ h => List.mem_cons_of_mem _ (List.mem_append_left _ (List.mem_append_right _ h))) (by decide +kernel))
set_option maxRecDepth 20000 in
theorem gX3_edit_X3_checkDocument : GoodIn wsX3_edit (wsV RX3 34 RX3 yX3_checkDocument wsX3_checkDocument) := goodIn_app (goodIn_of _ (by decide +kernel)) ggX3_edit_X3_checkDocument
set_option maxRecDepth 20000 in
theorem ggX3_edit_X3_checkRevision : GoodIn wsX3_edit wsX3_checkRevision := goodIn_ca (goodIn_r _ [18, 8, 9, 19, 108, 109, 110, 111, 112, 113, 114, 115, 116, 117] (by decide +kernel) (by decide +kernel)) (goodIn_sub (fun _ h => List.mem_cons_of_mem _ (List.mem_append_left _ (List.mem_append_right _ h))) (by decide +kernel))
set_option maxRecDepth 20000 in
theorem gX3_edit_X3_checkRevision : GoodIn wsX3_edit (wsV RX3 38 RX3 yX3_checkRevision wsX3_checkRevision) := goodIn_app (goodIn_of _ (by decide +kernel)) ggX3_edit_X3_checkRevision
set_option maxRecDepth 20000 in
theorem ggX3_edit_X3_checkNotBegun : GoodIn wsX3_edit wsX3_checkNotBegun := goodIn_ca (goodIn_r _ [23, 24, 25, 118, 119, 120, 121, 122, 123, 124, 125] (by decide +kernel) (by decide +kernel)) (goodIn_sub (fun _ h => List.mem_cons_of_mem _ (List.mem_append_right _ h)) (by decide +kernel))
set_option maxRecDepth 20000 in
theorem gX3_edit_X3_checkNotBegun : GoodIn wsX3_edit (wsV RX3 48 RX3 yX3_checkNotBegun wsX3_checkNotBegun) := goodIn_app (goodIn_of _ (by decide +kernel)) ggX3_edit_X3_checkNotBegun
set_option maxRecDepth 20000 in
theorem ggX3_edit_X3_checkLeaf : GoodIn wsX3_edit wsX3_checkLeaf := goodIn_ca (goodIn_r _ [29, 24, 25, 19, 30, 31, 32, 33, 34, 35, 36, 37, 38, 39, 40, 108, 109, 110, 111, 112, 113, 114, 115, 116, 117, 118, 119, 120, 121, 122, 123, 124, 125] (by decide +kernel) (by decide +kernel)) (goodIn_sub (fun _ h => List.mem_cons_of_mem _ (List.mem_append_right _ h)) (by decide +kernel))
set_option maxRecDepth 20000 in
theorem gX3_edit_X3_checkLeaf : GoodIn wsX3_edit (wsV RX3 52 RX3 yX3_checkLeaf wsX3_checkLeaf) := goodIn_app (goodIn_of _ (by decide +kernel)) ggX3_edit_X3_checkLeaf
set_option maxRecDepth 20000 in
theorem ggX3_edit_X3_checkRoom : GoodIn wsX3_edit wsX3_checkRoom := goodIn_ca (goodIn_r _ [44, 24, 25, 19, 108, 109, 110, 111, 112, 113, 114, 115, 116, 117] (by decide +kernel) (by decide +kernel)) (goodIn_sub (fun _ h => List.mem_cons_of_mem _ (List.mem_append_right _ h)) (by decide +kernel))
set_option maxRecDepth 20000 in
theorem gX3_edit_X3_checkRoom : GoodIn wsX3_edit (wsV RX3 56 RX3 yX3_checkRoom wsX3_checkRoom) := goodIn_app (goodIn_of _ (by decide +kernel)) ggX3_edit_X3_checkRoom
set_option maxRecDepth 20000 in
theorem ggX3_edit_X3_grow : GoodIn wsX3_edit wsX3_grow := goodIn_r _ [48, 19, 49, 50, 51, 52, 53, 54, 55, 56, 57, 58, 59, 60, 61, 62, 63, 64, 65, 66, 67, 68, 69, 70, 71, 72, 73, 74, 75, 76, 77, 78, 79, 80, 33, 81, 82, 83, 84, 85, 40, 86, 87, 88, 89, 90, 91, 92, 93, 94, 31, 32, 34, 35, 36, 37, 38, 39, 95, 96, 97, 98, 99, 100, 101, 102, 103, 104, 105, 106, 107, 108, 109, 110, 111, 112, 113, 114, 115, 116, 117, 118, 119, 120, 121, 122, 123, 124, 125] (by decide +kernel) (by decide +kernel)
set_option maxRecDepth 20000 in
theorem gX3_edit_X3_grow : GoodIn wsX3_edit (wsV RX3 59 RX3 yX3_grow wsX3_grow) := goodIn_app (goodIn_of _ (by decide +kernel)) ggX3_edit_X3_grow
theorem dX3_edit_0 : decode cX3_edit 0 = .ok (.aload_n 0, 1) := by decide +kernel
theorem dX3_edit_1 : decode cX3_edit 1 = .ok (.iload_n 1, 1) := by decide +kernel
theorem dX3_edit_2 : decode cX3_edit 2 = .ok (.invokevirtual 30, 3) := by decide +kernel
theorem dX3_edit_5 : decode cX3_edit 5 = .ok (.astore 5, 2) := by decide +kernel
theorem dX3_edit_7 : decode cX3_edit 7 = .ok (.aload_n 0, 1) := by decide +kernel
theorem dX3_edit_8 : decode cX3_edit 8 = .ok (.iload_n 2, 1) := by decide +kernel
theorem dX3_edit_9 : decode cX3_edit 9 = .ok (.invokevirtual 34, 3) := by decide +kernel
theorem dX3_edit_12 : decode cX3_edit 12 = .ok (.iload_n 3, 1) := by decide +kernel
theorem dX3_edit_13 : decode cX3_edit 13 = .ok (.iconst (-1), 1) := by decide +kernel
theorem dX3_edit_14 : decode cX3_edit 14 = .ok (.if_icmp .eq 8, 3) := by decide +kernel
theorem dX3_edit_17 : decode cX3_edit 17 = .ok (.aload_n 0, 1) := by decide +kernel
theorem dX3_edit_18 : decode cX3_edit 18 = .ok (.iload_n 3, 1) := by decide +kernel
theorem dX3_edit_19 : decode cX3_edit 19 = .ok (.invokevirtual 38, 3) := by decide +kernel
theorem dX3_edit_22 : decode cX3_edit 22 = .ok (.iload 4, 2) := by decide +kernel
theorem dX3_edit_24 : decode cX3_edit 24 = .ok (.ifCond .lt 10, 3) := by decide +kernel
theorem dX3_edit_27 : decode cX3_edit 27 = .ok (.iload 4, 2) := by decide +kernel
theorem dX3_edit_29 : decode cX3_edit 29 = .ok (.bipush 99, 2) := by decide +kernel
theorem dX3_edit_31 : decode cX3_edit 31 = .ok (.if_icmp .le 13, 3) := by decide +kernel
theorem dX3_edit_34 : decode cX3_edit 34 = .ok (.new 41, 3) := by decide +kernel
theorem dX3_edit_37 : decode cX3_edit 37 = .ok (.dup, 1) := by decide +kernel
theorem dX3_edit_38 : decode cX3_edit 38 = .ok (.ldc 43, 2) := by decide +kernel
theorem dX3_edit_40 : decode cX3_edit 40 = .ok (.invokespecial 45, 3) := by decide +kernel
theorem dX3_edit_43 : decode cX3_edit 43 = .ok (.athrow, 1) := by decide +kernel
theorem dX3_edit_44 : decode cX3_edit 44 = .ok (.iload_n 3, 1) := by decide +kernel
theorem dX3_edit_45 : decode cX3_edit 45 = .ok (.iconst (-1), 1) := by decide +kernel
theorem dX3_edit_46 : decode cX3_edit 46 = .ok (.if_icmp .ne 13, 3) := by decide +kernel
theorem dX3_edit_49 : decode cX3_edit 49 = .ok (.aload_n 0, 1) := by decide +kernel
theorem dX3_edit_50 : decode cX3_edit 50 = .ok (.aload 5, 2) := by decide +kernel
theorem dX3_edit_52 : decode cX3_edit 52 = .ok (.iload_n 2, 1) := by decide +kernel
theorem dX3_edit_53 : decode cX3_edit 53 = .ok (.invokevirtual 48, 3) := by decide +kernel
theorem dX3_edit_56 : decode cX3_edit 56 = .ok (.goto 11, 3) := by decide +kernel
theorem dX3_edit_59 : decode cX3_edit 59 = .ok (.aload_n 0, 1) := by decide +kernel
theorem dX3_edit_60 : decode cX3_edit 60 = .ok (.aload 5, 2) := by decide +kernel
theorem dX3_edit_62 : decode cX3_edit 62 = .ok (.iload_n 2, 1) := by decide +kernel
theorem dX3_edit_63 : decode cX3_edit 63 = .ok (.iload_n 3, 1) := by decide +kernel
theorem dX3_edit_64 : decode cX3_edit 64 = .ok (.invokevirtual 52, 3) := by decide +kernel
theorem dX3_edit_67 : decode cX3_edit 67 = .ok (.aload_n 0, 1) := by decide +kernel
theorem dX3_edit_68 : decode cX3_edit 68 = .ok (.invokevirtual 56, 3) := by decide +kernel
theorem dX3_edit_71 : decode cX3_edit 71 = .ok (.aload_n 0, 1) := by decide +kernel
theorem dX3_edit_72 : decode cX3_edit 72 = .ok (.aload 5, 2) := by decide +kernel
theorem dX3_edit_74 : decode cX3_edit 74 = .ok (.iload_n 2, 1) := by decide +kernel
theorem dX3_edit_75 : decode cX3_edit 75 = .ok (.iload_n 3, 1) := by decide +kernel
theorem dX3_edit_76 : decode cX3_edit 76 = .ok (.iload 4, 2) := by decide +kernel
theorem dX3_edit_78 : decode cX3_edit 78 = .ok (.iconst 0, 1) := by decide +kernel
theorem dX3_edit_79 : decode cX3_edit 79 = .ok (.invokevirtual 59, 3) := by decide +kernel
theorem dX3_edit_82 : decode cX3_edit 82 = .ok (.ireturn, 1) := by decide +kernel
set_option maxRecDepth 20000 in
theorem ggX3_delete_X3_storeAt : GoodIn wsX3_delete wsX3_storeAt := goodIn_ca (goodIn_r _ [8, 9, 10, 11, 102, 103, 104] (by decide +kernel) (by decide +kernel)) (goodIn_sub (fun _ h => List.mem_cons_of_mem _ (List.mem_append_right _ h)) (by decide +kernel))
set_option maxRecDepth 20000 in
theorem gX3_delete_X3_storeAt : GoodIn wsX3_delete (wsV RX3 30 RX3 yX3_storeAt wsX3_storeAt) := goodIn_app (goodIn_of _ (by decide +kernel)) ggX3_delete_X3_storeAt
set_option maxRecDepth 20000 in
theorem ggX3_delete_X3_checkDocument : GoodIn wsX3_delete wsX3_checkDocument := goodIn_ca (goodIn_r _ [15, 9, 10] (by decide +kernel) (by decide +kernel)) (goodIn_sub (fun _ h => List.mem_cons_of_mem _ (List.mem_append_right _ h)) (by decide +kernel))
set_option maxRecDepth 20000 in
theorem gX3_delete_X3_checkDocument : GoodIn wsX3_delete (wsV RX3 34 RX3 yX3_checkDocument wsX3_checkDocument) := goodIn_app (goodIn_of _ (by decide +kernel)) ggX3_delete_X3_checkDocument
set_option maxRecDepth 20000 in
theorem ggX3_delete_X3_checkRevision : GoodIn wsX3_delete wsX3_checkRevision := goodIn_ca (goodIn_r _ [19, 9, 10, 3, 102, 103, 104, 105, 106, 107, 108, 109, 110, 111] (by decide +kernel) (by decide +kernel)) (goodIn_sub (fun _ h => List.mem_cons_of_mem _ (List.mem_append_right _ h)) (by decide +kernel))
set_option maxRecDepth 20000 in
theorem gX3_delete_X3_checkRevision : GoodIn wsX3_delete (wsV RX3 38 RX3 yX3_checkRevision wsX3_checkRevision) := goodIn_app (goodIn_of _ (by decide +kernel)) ggX3_delete_X3_checkRevision
set_option maxRecDepth 20000 in
theorem ggX3_delete_X3_checkLeaf : GoodIn wsX3_delete wsX3_checkLeaf := goodIn_ca (goodIn_r _ [23, 1, 2, 3, 24, 25, 26, 27, 28, 29, 30, 31, 32, 33, 34, 102, 103, 104, 105, 106, 107, 108, 109, 110, 111, 112, 113, 114, 115, 116, 117, 118, 119] (by decide +kernel) (by decide +kernel)) (goodIn_sub (fun _ h => List.mem_cons_of_mem _ (List.mem_append_left _ (List.mem_append_right _ h))) (by decide +kernel))
set_option maxRecDepth 20000 in
theorem gX3_delete_X3_checkLeaf : GoodIn wsX3_delete (wsV RX3 52 RX3 yX3_checkLeaf wsX3_checkLeaf) := goodIn_app (goodIn_of _ (by decide +kernel)) ggX3_delete_X3_checkLeaf
set_option maxRecDepth 20000 in
theorem ggX3_delete_X3_checkRoom : GoodIn wsX3_delete wsX3_checkRoom := goodIn_ca (goodIn_r _ [38, 1, 2, 3, 102, 103, 104, 105, 106, 107, 108, 109, 110, 111] (by decide +kernel) (by decide +kernel)) (goodIn_sub (fun _ h => List.mem_cons_of_mem _ (List.mem_append_left _ (List.mem_append_right _ h))) (by decide +kernel))
set_option maxRecDepth 20000 in
theorem gX3_delete_X3_checkRoom : GoodIn wsX3_delete (wsV RX3 56 RX3 yX3_checkRoom wsX3_checkRoom) := goodIn_app (goodIn_of _ (by decide +kernel)) ggX3_delete_X3_checkRoom
set_option maxRecDepth 20000 in
theorem ggX3_delete_X3_grow : GoodIn wsX3_delete wsX3_grow := goodIn_r _ [42, 3, 43, 44, 45, 46, 47, 48, 49, 50, 51, 52, 53, 54, 55, 56, 57, 58, 59, 60, 61, 62, 63, 64, 65, 66, 67, 68, 69, 70, 71, 72, 73, 74, 27, 75, 76, 77, 78, 79, 34, 80, 81, 82, 83, 84, 85, 86, 87, 88, 25, 26, 28, 29, 30, 31, 32, 33, 89, 90, 91, 92, 93, 94, 95, 96, 97, 98, 99, 100, 101, 102, 103, 104, 105, 106, 107, 108, 109, 110, 111, 112, 113, 114, 115, 116, 117, 118, 119] (by decide +kernel) (by decide +kernel)
set_option maxRecDepth 20000 in
theorem gX3_delete_X3_grow : GoodIn wsX3_delete (wsV RX3 59 RX3 yX3_grow wsX3_grow) := goodIn_app (goodIn_of _ (by decide +kernel)) ggX3_delete_X3_grow
theorem dX3_delete_0 : decode cX3_delete 0 = .ok (.aload_n 0, 1) := by decide +kernel
theorem dX3_delete_1 : decode cX3_delete 1 = .ok (.iload_n 1, 1) := by decide +kernel
theorem dX3_delete_2 : decode cX3_delete 2 = .ok (.invokevirtual 30, 3) := by decide +kernel
theorem dX3_delete_5 : decode cX3_delete 5 = .ok (.astore 4, 2) := by decide +kernel
theorem dX3_delete_7 : decode cX3_delete 7 = .ok (.aload_n 0, 1) := by decide +kernel
theorem dX3_delete_8 : decode cX3_delete 8 = .ok (.iload_n 2, 1) := by decide +kernel
theorem dX3_delete_9 : decode cX3_delete 9 = .ok (.invokevirtual 34, 3) := by decide +kernel
theorem dX3_delete_12 : decode cX3_delete 12 = .ok (.aload_n 0, 1) := by decide +kernel
theorem dX3_delete_13 : decode cX3_delete 13 = .ok (.iload_n 3, 1) := by decide +kernel
theorem dX3_delete_14 : decode cX3_delete 14 = .ok (.invokevirtual 38, 3) := by decide +kernel
theorem dX3_delete_17 : decode cX3_delete 17 = .ok (.aload_n 0, 1) := by decide +kernel
theorem dX3_delete_18 : decode cX3_delete 18 = .ok (.aload 4, 2) := by decide +kernel
theorem dX3_delete_20 : decode cX3_delete 20 = .ok (.iload_n 2, 1) := by decide +kernel
theorem dX3_delete_21 : decode cX3_delete 21 = .ok (.iload_n 3, 1) := by decide +kernel
theorem dX3_delete_22 : decode cX3_delete 22 = .ok (.invokevirtual 52, 3) := by decide +kernel
theorem dX3_delete_25 : decode cX3_delete 25 = .ok (.aload_n 0, 1) := by decide +kernel
theorem dX3_delete_26 : decode cX3_delete 26 = .ok (.getfield 10, 3) := by decide +kernel
theorem dX3_delete_29 : decode cX3_delete 29 = .ok (.getfield 63, 3) := by decide +kernel
theorem dX3_delete_32 : decode cX3_delete 32 = .ok (.iload_n 3, 1) := by decide +kernel
theorem dX3_delete_33 : decode cX3_delete 33 = .ok (.baload, 1) := by decide +kernel
theorem dX3_delete_34 : decode cX3_delete 34 = .ok (.ifCond .eq 13, 3) := by decide +kernel
theorem dX3_delete_37 : decode cX3_delete 37 = .ok (.new 67, 3) := by decide +kernel
theorem dX3_delete_40 : decode cX3_delete 40 = .ok (.dup, 1) := by decide +kernel
theorem dX3_delete_41 : decode cX3_delete 41 = .ok (.ldc 69, 2) := by decide +kernel
theorem dX3_delete_43 : decode cX3_delete 43 = .ok (.invokespecial 71, 3) := by decide +kernel
theorem dX3_delete_46 : decode cX3_delete 46 = .ok (.athrow, 1) := by decide +kernel
theorem dX3_delete_47 : decode cX3_delete 47 = .ok (.aload_n 0, 1) := by decide +kernel
theorem dX3_delete_48 : decode cX3_delete 48 = .ok (.invokevirtual 56, 3) := by decide +kernel
theorem dX3_delete_51 : decode cX3_delete 51 = .ok (.aload_n 0, 1) := by decide +kernel
theorem dX3_delete_52 : decode cX3_delete 52 = .ok (.aload 4, 2) := by decide +kernel
theorem dX3_delete_54 : decode cX3_delete 54 = .ok (.iload_n 2, 1) := by decide +kernel
theorem dX3_delete_55 : decode cX3_delete 55 = .ok (.iload_n 3, 1) := by decide +kernel
theorem dX3_delete_56 : decode cX3_delete 56 = .ok (.iconst 0, 1) := by decide +kernel
theorem dX3_delete_57 : decode cX3_delete 57 = .ok (.iconst 1, 1) := by decide +kernel
theorem dX3_delete_58 : decode cX3_delete 58 = .ok (.invokevirtual 59, 3) := by decide +kernel
theorem dX3_delete_61 : decode cX3_delete 61 = .ok (.ireturn, 1) := by decide +kernel
set_option maxRecDepth 20000 in
theorem ggX3_setDepth_X3_storeAt : GoodIn wsX3_setDepth wsX3_storeAt := goodIn_ca (goodIn_r _ [8, 9, 10, 11, 28, 29, 30] (by decide +kernel) (by decide +kernel)) (goodIn_sub (fun _ h => List.mem_cons_of_mem _ (List.mem_append_right _ h)) (by decide +kernel))
set_option maxRecDepth 20000 in
theorem gX3_setDepth_X3_storeAt : GoodIn wsX3_setDepth (wsV RX3 30 RX3 yX3_storeAt wsX3_storeAt) := goodIn_app (goodIn_of _ (by decide +kernel)) ggX3_setDepth_X3_storeAt
set_option maxRecDepth 20000 in
theorem ggX3_setDepth_X0_stem : GoodIn wsX3_setDepth wsX0_stem := goodIn_r _ [16, 17, 18, 19, 20, 21, 15, 22, 31, 32, 33, 34, 35, 36, 37, 38, 39, 40] (by decide +kernel) (by decide +kernel)
set_option maxRecDepth 20000 in
theorem gX3_setDepth_X0_stem : GoodIn wsX3_setDepth (wsV RX3 81 RX0 yX0_stem wsX0_stem) := goodIn_app (goodIn_of _ (by decide +kernel)) ggX3_setDepth_X0_stem
theorem dX3_setDepth_0 : decode cX3_setDepth 0 = .ok (.aload_n 0, 1) := by decide +kernel
theorem dX3_setDepth_1 : decode cX3_setDepth 1 = .ok (.iload_n 1, 1) := by decide +kernel
theorem dX3_setDepth_2 : decode cX3_setDepth 2 = .ok (.invokevirtual 30, 3) := by decide +kernel
theorem dX3_setDepth_5 : decode cX3_setDepth 5 = .ok (.astore_n 3, 1) := by decide +kernel
theorem dX3_setDepth_6 : decode cX3_setDepth 6 = .ok (.iload_n 2, 1) := by decide +kernel
theorem dX3_setDepth_7 : decode cX3_setDepth 7 = .ok (.iconst 1, 1) := by decide +kernel
theorem dX3_setDepth_8 : decode cX3_setDepth 8 = .ok (.if_icmp .lt 9, 3) := by decide +kernel
theorem dX3_setDepth_11 : decode cX3_setDepth 11 = .ok (.iload_n 2, 1) := by decide +kernel
theorem dX3_setDepth_12 : decode cX3_setDepth 12 = .ok (.bipush 20, 2) := by decide +kernel
theorem dX3_setDepth_14 : decode cX3_setDepth 14 = .ok (.if_icmp .le 13, 3) := by decide +kernel
theorem dX3_setDepth_17 : decode cX3_setDepth 17 = .ok (.new 41, 3) := by decide +kernel
theorem dX3_setDepth_20 : decode cX3_setDepth 20 = .ok (.dup, 1) := by decide +kernel
theorem dX3_setDepth_21 : decode cX3_setDepth 21 = .ok (.ldc 72, 2) := by decide +kernel
theorem dX3_setDepth_23 : decode cX3_setDepth 23 = .ok (.invokespecial 45, 3) := by decide +kernel
theorem dX3_setDepth_26 : decode cX3_setDepth 26 = .ok (.athrow, 1) := by decide +kernel
theorem dX3_setDepth_27 : decode cX3_setDepth 27 = .ok (.aload_n 3, 1) := by decide +kernel
theorem dX3_setDepth_28 : decode cX3_setDepth 28 = .ok (.iload_n 2, 1) := by decide +kernel
theorem dX3_setDepth_29 : decode cX3_setDepth 29 = .ok (.putfield 74, 3) := by decide +kernel
theorem dX3_setDepth_32 : decode cX3_setDepth 32 = .ok (.aload_n 3, 1) := by decide +kernel
theorem dX3_setDepth_33 : decode cX3_setDepth 33 = .ok (.getfield 78, 3) := by decide +kernel
theorem dX3_setDepth_36 : decode cX3_setDepth 36 = .ok (.aload_n 0, 1) := by decide +kernel
theorem dX3_setDepth_37 : decode cX3_setDepth 37 = .ok (.getfield 10, 3) := by decide +kernel
theorem dX3_setDepth_40 : decode cX3_setDepth 40 = .ok (.iload_n 2, 1) := by decide +kernel
theorem dX3_setDepth_41 : decode cX3_setDepth 41 = .ok (.invokevirtual 81, 3) := by decide +kernel
theorem dX3_setDepth_44 : decode cX3_setDepth 44 = .ok (.ireturn, 1) := by decide +kernel
set_option maxRecDepth 20000 in
theorem ggX3_wipe_X3_storeAt : GoodIn wsX3_wipe wsX3_storeAt := goodIn_ca (goodIn_r _ [6, 7, 8, 9, 73, 74, 75] (by decide +kernel) (by decide +kernel)) (goodIn_sub (fun _ h => List.mem_cons_of_mem _ (List.mem_append_right _ h)) (by decide +kernel))
set_option maxRecDepth 20000 in
theorem gX3_wipe_X3_storeAt : GoodIn wsX3_wipe (wsV RX3 30 RX3 yX3_storeAt wsX3_storeAt) := goodIn_app (goodIn_of _ (by decide +kernel)) ggX3_wipe_X3_storeAt
set_option maxRecDepth 20000 in
theorem ggX3_wipe_X0_countAll : GoodIn wsX3_wipe wsX0_countAll := goodIn_r _ [14, 15, 76, 77, 78, 79, 80, 81, 82, 83, 84, 85] (by decide +kernel) (by decide +kernel)
set_option maxRecDepth 20000 in
theorem gX3_wipe_X0_countAll : GoodIn wsX3_wipe (wsV RX3 85 RX0 yX0_countAll wsX0_countAll) := goodIn_app (goodIn_of _ (by decide +kernel)) ggX3_wipe_X0_countAll
set_option maxRecDepth 20000 in
theorem ggX3_wipe_X1_clear : GoodIn wsX3_wipe wsX1_clear := goodIn_r _ [20, 21, 22, 23, 24, 25, 26, 27, 13, 28, 15, 29, 30, 31, 32, 33, 34, 35, 36, 37, 38, 39, 40, 41, 42, 43, 44, 45, 46, 47, 48, 49, 50, 51, 52, 53, 54, 55, 56, 57, 58, 59, 60, 61, 62, 63, 64, 65, 66, 67, 68, 69, 70, 71, 72, 83, 84, 85, 76, 77, 78, 79, 80, 81, 82] (by decide +kernel) (by decide +kernel)
set_option maxRecDepth 20000 in
theorem gX3_wipe_X1_clear : GoodIn wsX3_wipe (wsV RX3 89 RX1 yX1_clear wsX1_clear) := goodIn_app (goodIn_of _ (by decide +kernel)) ggX3_wipe_X1_clear
theorem dX3_wipe_0 : decode cX3_wipe 0 = .ok (.aload_n 0, 1) := by decide +kernel
theorem dX3_wipe_1 : decode cX3_wipe 1 = .ok (.iload_n 1, 1) := by decide +kernel
theorem dX3_wipe_2 : decode cX3_wipe 2 = .ok (.invokevirtual 30, 3) := by decide +kernel
theorem dX3_wipe_5 : decode cX3_wipe 5 = .ok (.astore_n 2, 1) := by decide +kernel
theorem dX3_wipe_6 : decode cX3_wipe 6 = .ok (.aload_n 2, 1) := by decide +kernel
theorem dX3_wipe_7 : decode cX3_wipe 7 = .ok (.getfield 78, 3) := by decide +kernel
theorem dX3_wipe_10 : decode cX3_wipe 10 = .ok (.aload_n 0, 1) := by decide +kernel
theorem dX3_wipe_11 : decode cX3_wipe 11 = .ok (.getfield 10, 3) := by decide +kernel
theorem dX3_wipe_14 : decode cX3_wipe 14 = .ok (.invokevirtual 85, 3) := by decide +kernel
theorem dX3_wipe_17 : decode cX3_wipe 17 = .ok (.istore_n 3, 1) := by decide +kernel
theorem dX3_wipe_18 : decode cX3_wipe 18 = .ok (.aload_n 2, 1) := by decide +kernel
theorem dX3_wipe_19 : decode cX3_wipe 19 = .ok (.aload_n 0, 1) := by decide +kernel
theorem dX3_wipe_20 : decode cX3_wipe 20 = .ok (.getfield 10, 3) := by decide +kernel
theorem dX3_wipe_23 : decode cX3_wipe 23 = .ok (.invokevirtual 89, 3) := by decide +kernel
theorem dX3_wipe_26 : decode cX3_wipe 26 = .ok (.iload_n 3, 1) := by decide +kernel
theorem dX3_wipe_27 : decode cX3_wipe 27 = .ok (.ireturn, 1) := by decide +kernel
set_option maxRecDepth 20000 in
theorem ggX3_replicate_X3_storeAt : GoodIn wsX3_replicate wsX3_storeAt := goodIn_ca (goodIn_r _ [8, 9, 10, 11, 93, 94, 95] (by decide +kernel) (by decide +kernel)) (goodIn_sub (fun _ h => List.mem_cons_of_mem _ (List.mem_append_right _ h)) (by decide +kernel))
set_option maxRecDepth 20000 in
theorem gX3_replicate_X3_storeAt : GoodIn wsX3_replicate (wsV RX3 30 RX3 yX3_storeAt wsX3_storeAt) := goodIn_app (goodIn_of _ (by decide +kernel)) ggX3_replicate_X3_storeAt
set_option maxRecDepth 20000 in
theorem ggX3_replicate_X3_checkDifferent : GoodIn wsX3_replicate wsX3_checkDifferent := goodIn_ca (goodIn_r _ [15, 1, 2] (by decide +kernel) (by decide +kernel)) (goodIn_sub (fun _ h => List.mem_cons_of_mem _ (List.mem_append_left _ (List.mem_append_right _ h))) (by decide +kernel))
set_option maxRecDepth 20000 in
theorem gX3_replicate_X3_checkDifferent : GoodIn wsX3_replicate (wsV RX3 95 RX3 yX3_checkDifferent wsX3_checkDifferent) := goodIn_app (goodIn_of _ (by decide +kernel)) ggX3_replicate_X3_checkDifferent
set_option maxRecDepth 20000 in
theorem ggX3_replicate_X3_commonCheckpoint : GoodIn wsX3_replicate wsX3_commonCheckpoint := goodIn_r _ [19, 11, 20, 21, 22, 23, 24, 25, 7, 26, 93, 94, 95, 96, 97, 98, 99, 100] (by decide +kernel) (by decide +kernel)
set_option maxRecDepth 20000 in
theorem gX3_replicate_X3_commonCheckpoint : GoodIn wsX3_replicate (wsV RX3 99 RX3 yX3_commonCheckpoint wsX3_commonCheckpoint) := goodIn_app (goodIn_of _ (by decide +kernel)) ggX3_replicate_X3_commonCheckpoint
set_option maxRecDepth 20000 in
theorem ggX3_replicate_X1_nextChanged : GoodIn wsX3_replicate wsX1_nextChanged := goodIn_r _ [31, 32, 96, 97, 98, 99, 100] (by decide +kernel) (by decide +kernel)
set_option maxRecDepth 20000 in
theorem gX3_replicate_X1_nextChanged : GoodIn wsX3_replicate (wsV RX3 103 RX1 yX1_nextChanged wsX1_nextChanged) := goodIn_app (goodIn_of _ (by decide +kernel)) ggX3_replicate_X1_nextChanged
set_option maxRecDepth 20000 in
theorem ggX3_replicate_X1_receive : GoodIn wsX3_replicate wsX1_receive := goodIn_r _ [36, 37, 38, 39, 40, 41, 42, 43, 44, 45, 46, 47, 48, 49, 50, 51, 52, 53, 54, 55, 56, 57, 58, 59, 30, 60, 61, 32, 62, 63, 64, 65, 66, 67, 68, 69, 70, 71, 21, 22, 23, 72, 73, 74, 75, 76, 77, 78, 79, 80, 81, 82, 83, 84, 85, 86, 87, 88, 89, 90, 91, 92, 96, 97, 98, 99, 100, 101, 102, 103, 104, 105, 106, 107, 108, 109, 110] (by decide +kernel) (by decide +kernel)
set_option maxRecDepth 20000 in
theorem gX3_replicate_X1_receive : GoodIn wsX3_replicate (wsV RX3 107 RX1 yX1_receive wsX1_receive) := goodIn_app (goodIn_of _ (by decide +kernel)) ggX3_replicate_X1_receive
set_option maxRecDepth 20000 in
theorem ggX3_replicate_X3_pairOf : GoodIn wsX3_replicate wsX3_pairOf := goodIn_r _ [26] (by decide +kernel) (by decide +kernel)
set_option maxRecDepth 20000 in
theorem gX3_replicate_X3_pairOf : GoodIn wsX3_replicate (va_wsS RX3 121 yX3_pairOf wsX3_pairOf) := goodIn_app (goodIn_of _ (by decide +kernel)) ggX3_replicate_X3_pairOf
theorem dX3_replicate_0 : decode cX3_replicate 0 = .ok (.aload_n 0, 1) := by decide +kernel
theorem dX3_replicate_1 : decode cX3_replicate 1 = .ok (.iload_n 1, 1) := by decide +kernel
theorem dX3_replicate_2 : decode cX3_replicate 2 = .ok (.invokevirtual 30, 3) := by decide +kernel
theorem dX3_replicate_5 : decode cX3_replicate 5 = .ok (.astore 4, 2) := by decide +kernel
theorem dX3_replicate_7 : decode cX3_replicate 7 = .ok (.aload_n 0, 1) := by decide +kernel
theorem dX3_replicate_8 : decode cX3_replicate 8 = .ok (.iload_n 2, 1) := by decide +kernel
theorem dX3_replicate_9 : decode cX3_replicate 9 = .ok (.invokevirtual 30, 3) := by decide +kernel
theorem dX3_replicate_12 : decode cX3_replicate 12 = .ok (.astore 5, 2) := by decide +kernel
theorem dX3_replicate_14 : decode cX3_replicate 14 = .ok (.iload_n 3, 1) := by decide +kernel
theorem dX3_replicate_15 : decode cX3_replicate 15 = .ok (.iconst 1, 1) := by decide +kernel
theorem dX3_replicate_16 : decode cX3_replicate 16 = .ok (.if_icmp .lt 8, 3) := by decide +kernel
theorem dX3_replicate_19 : decode cX3_replicate 19 = .ok (.iload_n 3, 1) := by decide +kernel
theorem dX3_replicate_20 : decode cX3_replicate 20 = .ok (.iconst 4, 1) := by decide +kernel
theorem dX3_replicate_21 : decode cX3_replicate 21 = .ok (.if_icmp .le 13, 3) := by decide +kernel
theorem dX3_replicate_24 : decode cX3_replicate 24 = .ok (.new 41, 3) := by decide +kernel
theorem dX3_replicate_27 : decode cX3_replicate 27 = .ok (.dup, 1) := by decide +kernel
theorem dX3_replicate_28 : decode cX3_replicate 28 = .ok (.ldc 93, 2) := by decide +kernel
theorem dX3_replicate_30 : decode cX3_replicate 30 = .ok (.invokespecial 45, 3) := by decide +kernel
theorem dX3_replicate_33 : decode cX3_replicate 33 = .ok (.athrow, 1) := by decide +kernel
theorem dX3_replicate_34 : decode cX3_replicate 34 = .ok (.aload_n 0, 1) := by decide +kernel
theorem dX3_replicate_35 : decode cX3_replicate 35 = .ok (.iload_n 1, 1) := by decide +kernel
theorem dX3_replicate_36 : decode cX3_replicate 36 = .ok (.iload_n 2, 1) := by decide +kernel
theorem dX3_replicate_37 : decode cX3_replicate 37 = .ok (.invokevirtual 95, 3) := by decide +kernel
theorem dX3_replicate_40 : decode cX3_replicate 40 = .ok (.aload_n 0, 1) := by decide +kernel
theorem dX3_replicate_41 : decode cX3_replicate 41 = .ok (.iload_n 1, 1) := by decide +kernel
theorem dX3_replicate_42 : decode cX3_replicate 42 = .ok (.iload_n 2, 1) := by decide +kernel
theorem dX3_replicate_43 : decode cX3_replicate 43 = .ok (.invokevirtual 99, 3) := by decide +kernel
theorem dX3_replicate_46 : decode cX3_replicate 46 = .ok (.istore 6, 2) := by decide +kernel
theorem dX3_replicate_48 : decode cX3_replicate 48 = .ok (.iconst 0, 1) := by decide +kernel
theorem dX3_replicate_49 : decode cX3_replicate 49 = .ok (.istore 7, 2) := by decide +kernel
theorem dX3_replicate_51 : decode cX3_replicate 51 = .ok (.iconst 0, 1) := by decide +kernel
theorem dX3_replicate_52 : decode cX3_replicate 52 = .ok (.istore 8, 2) := by decide +kernel
theorem dX3_replicate_54 : decode cX3_replicate 54 = .ok (.iload 8, 2) := by decide +kernel
theorem dX3_replicate_56 : decode cX3_replicate 56 = .ok (.iload_n 3, 1) := by decide +kernel
theorem dX3_replicate_57 : decode cX3_replicate 57 = .ok (.if_icmp .ge 55, 3) := by decide +kernel
theorem dX3_replicate_60 : decode cX3_replicate 60 = .ok (.aload 4, 2) := by decide +kernel
theorem dX3_replicate_62 : decode cX3_replicate 62 = .ok (.iload 6, 2) := by decide +kernel
theorem dX3_replicate_64 : decode cX3_replicate 64 = .ok (.invokevirtual 103, 3) := by decide +kernel
theorem dX3_replicate_67 : decode cX3_replicate 67 = .ok (.istore 9, 2) := by decide +kernel
theorem dX3_replicate_69 : decode cX3_replicate 69 = .ok (.iload 9, 2) := by decide +kernel
theorem dX3_replicate_71 : decode cX3_replicate 71 = .ok (.iconst (-1), 1) := by decide +kernel
theorem dX3_replicate_72 : decode cX3_replicate 72 = .ok (.if_icmp .eq 34, 3) := by decide +kernel
theorem dX3_replicate_75 : decode cX3_replicate 75 = .ok (.iload 7, 2) := by decide +kernel
theorem dX3_replicate_77 : decode cX3_replicate 77 = .ok (.aload 5, 2) := by decide +kernel
theorem dX3_replicate_79 : decode cX3_replicate 79 = .ok (.aload_n 0, 1) := by decide +kernel
theorem dX3_replicate_80 : decode cX3_replicate 80 = .ok (.getfield 10, 3) := by decide +kernel
theorem dX3_replicate_83 : decode cX3_replicate 83 = .ok (.aload 4, 2) := by decide +kernel
theorem dX3_replicate_85 : decode cX3_replicate 85 = .ok (.getfield 78, 3) := by decide +kernel
theorem dX3_replicate_88 : decode cX3_replicate 88 = .ok (.iload 9, 2) := by decide +kernel
theorem dX3_replicate_90 : decode cX3_replicate 90 = .ok (.invokevirtual 107, 3) := by decide +kernel
theorem dX3_replicate_93 : decode cX3_replicate 93 = .ok (.iadd, 1) := by decide +kernel
theorem dX3_replicate_94 : decode cX3_replicate 94 = .ok (.istore 7, 2) := by decide +kernel
theorem dX3_replicate_96 : decode cX3_replicate 96 = .ok (.aload 4, 2) := by decide +kernel
theorem dX3_replicate_98 : decode cX3_replicate 98 = .ok (.getfield 111, 3) := by decide +kernel
theorem dX3_replicate_101 : decode cX3_replicate 101 = .ok (.iload 9, 2) := by decide +kernel
theorem dX3_replicate_103 : decode cX3_replicate 103 = .ok (.iaload, 1) := by decide +kernel
theorem dX3_replicate_104 : decode cX3_replicate 104 = .ok (.istore 6, 2) := by decide +kernel
theorem dX3_replicate_106 : decode cX3_replicate 106 = .ok (.iinc 8 1, 3) := by decide +kernel
theorem dX3_replicate_109 : decode cX3_replicate 109 = .ok (.goto (-55), 3) := by decide +kernel
theorem dX3_replicate_112 : decode cX3_replicate 112 = .ok (.aload 4, 2) := by decide +kernel
theorem dX3_replicate_114 : decode cX3_replicate 114 = .ok (.iload 6, 2) := by decide +kernel
theorem dX3_replicate_116 : decode cX3_replicate 116 = .ok (.invokevirtual 103, 3) := by decide +kernel
theorem dX3_replicate_119 : decode cX3_replicate 119 = .ok (.iconst (-1), 1) := by decide +kernel
theorem dX3_replicate_120 : decode cX3_replicate 120 = .ok (.if_icmp .ne 10, 3) := by decide +kernel
theorem dX3_replicate_123 : decode cX3_replicate 123 = .ok (.aload 4, 2) := by decide +kernel
theorem dX3_replicate_125 : decode cX3_replicate 125 = .ok (.getfield 115, 3) := by decide +kernel
theorem dX3_replicate_128 : decode cX3_replicate 128 = .ok (.istore 6, 2) := by decide +kernel
theorem dX3_replicate_130 : decode cX3_replicate 130 = .ok (.aload 4, 2) := by decide +kernel
theorem dX3_replicate_132 : decode cX3_replicate 132 = .ok (.getfield 118, 3) := by decide +kernel
theorem dX3_replicate_135 : decode cX3_replicate 135 = .ok (.iload_n 1, 1) := by decide +kernel
theorem dX3_replicate_136 : decode cX3_replicate 136 = .ok (.iload_n 2, 1) := by decide +kernel
theorem dX3_replicate_137 : decode cX3_replicate 137 = .ok (.invokestatic 121, 3) := by decide +kernel
theorem dX3_replicate_140 : decode cX3_replicate 140 = .ok (.iload 6, 2) := by decide +kernel
theorem dX3_replicate_142 : decode cX3_replicate 142 = .ok (.iastore, 1) := by decide +kernel
theorem dX3_replicate_143 : decode cX3_replicate 143 = .ok (.aload 5, 2) := by decide +kernel
theorem dX3_replicate_145 : decode cX3_replicate 145 = .ok (.getfield 118, 3) := by decide +kernel
theorem dX3_replicate_148 : decode cX3_replicate 148 = .ok (.iload_n 1, 1) := by decide +kernel
theorem dX3_replicate_149 : decode cX3_replicate 149 = .ok (.iload_n 2, 1) := by decide +kernel
theorem dX3_replicate_150 : decode cX3_replicate 150 = .ok (.invokestatic 121, 3) := by decide +kernel
theorem dX3_replicate_153 : decode cX3_replicate 153 = .ok (.iload 6, 2) := by decide +kernel
theorem dX3_replicate_155 : decode cX3_replicate 155 = .ok (.iastore, 1) := by decide +kernel
theorem dX3_replicate_156 : decode cX3_replicate 156 = .ok (.iload 7, 2) := by decide +kernel
theorem dX3_replicate_158 : decode cX3_replicate 158 = .ok (.ireturn, 1) := by decide +kernel
set_option maxRecDepth 20000 in
theorem ggX3_pending_X3_storeAt : GoodIn wsX3_pending wsX3_storeAt := goodIn_ca (goodIn_r _ [5, 6, 7, 8, 32, 33, 34] (by decide +kernel) (by decide +kernel)) (goodIn_sub (fun _ h => List.mem_cons_of_mem _ (List.mem_append_left _ (List.mem_append_right _ h))) (by decide +kernel))
set_option maxRecDepth 20000 in
theorem gX3_pending_X3_storeAt : GoodIn wsX3_pending (wsV RX3 30 RX3 yX3_storeAt wsX3_storeAt) := goodIn_app (goodIn_of _ (by decide +kernel)) ggX3_pending_X3_storeAt
set_option maxRecDepth 20000 in
theorem ggX3_pending_X3_checkDifferent : GoodIn wsX3_pending wsX3_checkDifferent := goodIn_ca (goodIn_r _ [12, 13, 14] (by decide +kernel) (by decide +kernel)) (goodIn_sub (fun _ h => List.mem_cons_of_mem _ (List.mem_append_right _ h)) (by decide +kernel))
set_option maxRecDepth 20000 in
theorem gX3_pending_X3_checkDifferent : GoodIn wsX3_pending (wsV RX3 95 RX3 yX3_checkDifferent wsX3_checkDifferent) := goodIn_app (goodIn_of _ (by decide +kernel)) ggX3_pending_X3_checkDifferent
set_option maxRecDepth 20000 in
theorem ggX3_pending_X3_commonCheckpoint : GoodIn wsX3_pending wsX3_commonCheckpoint := goodIn_r _ [18, 8, 19, 20, 21, 22, 23, 24, 4, 25, 32, 33, 34, 35, 36, 37, 38, 39] (by decide +kernel) (by decide +kernel)
set_option maxRecDepth 20000 in
theorem gX3_pending_X3_commonCheckpoint : GoodIn wsX3_pending (wsV RX3 99 RX3 yX3_commonCheckpoint wsX3_commonCheckpoint) := goodIn_app (goodIn_of _ (by decide +kernel)) ggX3_pending_X3_commonCheckpoint
set_option maxRecDepth 20000 in
theorem ggX3_pending_X1_countChanged : GoodIn wsX3_pending wsX1_countChanged := goodIn_r _ [30, 31, 35, 36, 37, 38, 39] (by decide +kernel) (by decide +kernel)
set_option maxRecDepth 20000 in
theorem gX3_pending_X1_countChanged : GoodIn wsX3_pending (wsV RX3 124 RX1 yX1_countChanged wsX1_countChanged) := goodIn_app (goodIn_of _ (by decide +kernel)) ggX3_pending_X1_countChanged
theorem dX3_pending_0 : decode cX3_pending 0 = .ok (.aload_n 0, 1) := by decide +kernel
theorem dX3_pending_1 : decode cX3_pending 1 = .ok (.iload_n 1, 1) := by decide +kernel
theorem dX3_pending_2 : decode cX3_pending 2 = .ok (.invokevirtual 30, 3) := by decide +kernel
theorem dX3_pending_5 : decode cX3_pending 5 = .ok (.astore_n 3, 1) := by decide +kernel
theorem dX3_pending_6 : decode cX3_pending 6 = .ok (.aload_n 0, 1) := by decide +kernel
theorem dX3_pending_7 : decode cX3_pending 7 = .ok (.iload_n 2, 1) := by decide +kernel
theorem dX3_pending_8 : decode cX3_pending 8 = .ok (.invokevirtual 30, 3) := by decide +kernel
theorem dX3_pending_11 : decode cX3_pending 11 = .ok (.pop, 1) := by decide +kernel
theorem dX3_pending_12 : decode cX3_pending 12 = .ok (.aload_n 0, 1) := by decide +kernel
theorem dX3_pending_13 : decode cX3_pending 13 = .ok (.iload_n 1, 1) := by decide +kernel
theorem dX3_pending_14 : decode cX3_pending 14 = .ok (.iload_n 2, 1) := by decide +kernel
theorem dX3_pending_15 : decode cX3_pending 15 = .ok (.invokevirtual 95, 3) := by decide +kernel
theorem dX3_pending_18 : decode cX3_pending 18 = .ok (.aload_n 3, 1) := by decide +kernel
theorem dX3_pending_19 : decode cX3_pending 19 = .ok (.aload_n 0, 1) := by decide +kernel
theorem dX3_pending_20 : decode cX3_pending 20 = .ok (.iload_n 1, 1) := by decide +kernel
theorem dX3_pending_21 : decode cX3_pending 21 = .ok (.iload_n 2, 1) := by decide +kernel
theorem dX3_pending_22 : decode cX3_pending 22 = .ok (.invokevirtual 99, 3) := by decide +kernel
theorem dX3_pending_25 : decode cX3_pending 25 = .ok (.invokevirtual 124, 3) := by decide +kernel
theorem dX3_pending_28 : decode cX3_pending 28 = .ok (.ireturn, 1) := by decide +kernel
set_option maxRecDepth 20000 in
theorem ggX3_checkpoint_X3_storeAt : GoodIn wsX3_checkpoint wsX3_storeAt := goodIn_ca (goodIn_r _ [5, 6, 7, 8, 26, 27, 28] (by decide +kernel) (by decide +kernel)) (goodIn_sub (fun _ h => List.mem_cons_of_mem _ (List.mem_append_left _ (List.mem_append_right _ h))) (by decide +kernel))
set_option maxRecDepth 20000 in
theorem gX3_checkpoint_X3_storeAt : GoodIn wsX3_checkpoint (wsV RX3 30 RX3 yX3_storeAt wsX3_storeAt) := goodIn_app (goodIn_of _ (by decide +kernel)) ggX3_checkpoint_X3_storeAt
set_option maxRecDepth 20000 in
theorem ggX3_checkpoint_X3_checkDifferent : GoodIn wsX3_checkpoint wsX3_checkDifferent := goodIn_ca (goodIn_r _ [12, 13, 14] (by decide +kernel) (by decide +kernel)) (goodIn_sub (fun _ h => List.mem_cons_of_mem _ (List.mem_append_right _ h)) (by decide +kernel))
set_option maxRecDepth 20000 in
theorem gX3_checkpoint_X3_checkDifferent : GoodIn wsX3_checkpoint (wsV RX3 95 RX3 yX3_checkDifferent wsX3_checkDifferent) := goodIn_app (goodIn_of _ (by decide +kernel)) ggX3_checkpoint_X3_checkDifferent
set_option maxRecDepth 20000 in
theorem ggX3_checkpoint_X3_commonCheckpoint : GoodIn wsX3_checkpoint wsX3_commonCheckpoint := goodIn_r _ [18, 8, 19, 20, 21, 22, 23, 24, 4, 25, 26, 27, 28, 29, 30, 31, 32, 33] (by decide +kernel) (by decide +kernel)
set_option maxRecDepth 20000 in
theorem gX3_checkpoint_X3_commonCheckpoint : GoodIn wsX3_checkpoint (wsV RX3 99 RX3 yX3_commonCheckpoint wsX3_commonCheckpoint) := goodIn_app (goodIn_of _ (by decide +kernel)) ggX3_checkpoint_X3_commonCheckpoint
theorem dX3_checkpoint_0 : decode cX3_checkpoint 0 = .ok (.aload_n 0, 1) := by decide +kernel
theorem dX3_checkpoint_1 : decode cX3_checkpoint 1 = .ok (.iload_n 1, 1) := by decide +kernel
theorem dX3_checkpoint_2 : decode cX3_checkpoint 2 = .ok (.invokevirtual 30, 3) := by decide +kernel
theorem dX3_checkpoint_5 : decode cX3_checkpoint 5 = .ok (.pop, 1) := by decide +kernel
theorem dX3_checkpoint_6 : decode cX3_checkpoint 6 = .ok (.aload_n 0, 1) := by decide +kernel
theorem dX3_checkpoint_7 : decode cX3_checkpoint 7 = .ok (.iload_n 2, 1) := by decide +kernel
theorem dX3_checkpoint_8 : decode cX3_checkpoint 8 = .ok (.invokevirtual 30, 3) := by decide +kernel
theorem dX3_checkpoint_11 : decode cX3_checkpoint 11 = .ok (.pop, 1) := by decide +kernel
theorem dX3_checkpoint_12 : decode cX3_checkpoint 12 = .ok (.aload_n 0, 1) := by decide +kernel
theorem dX3_checkpoint_13 : decode cX3_checkpoint 13 = .ok (.iload_n 1, 1) := by decide +kernel
theorem dX3_checkpoint_14 : decode cX3_checkpoint 14 = .ok (.iload_n 2, 1) := by decide +kernel
theorem dX3_checkpoint_15 : decode cX3_checkpoint 15 = .ok (.invokevirtual 95, 3) := by decide +kernel
theorem dX3_checkpoint_18 : decode cX3_checkpoint 18 = .ok (.aload_n 0, 1) := by decide +kernel
theorem dX3_checkpoint_19 : decode cX3_checkpoint 19 = .ok (.iload_n 1, 1) := by decide +kernel
theorem dX3_checkpoint_20 : decode cX3_checkpoint 20 = .ok (.iload_n 2, 1) := by decide +kernel
theorem dX3_checkpoint_21 : decode cX3_checkpoint 21 = .ok (.invokevirtual 99, 3) := by decide +kernel
theorem dX3_checkpoint_24 : decode cX3_checkpoint 24 = .ok (.ireturn, 1) := by decide +kernel
theorem dX3_revisions_0 : decode cX3_revisions 0 = .ok (.aload_n 0, 1) := by decide +kernel
theorem dX3_revisions_1 : decode cX3_revisions 1 = .ok (.getfield 10, 3) := by decide +kernel
theorem dX3_revisions_4 : decode cX3_revisions 4 = .ok (.getfield 127, 3) := by decide +kernel
theorem dX3_revisions_7 : decode cX3_revisions 7 = .ok (.ireturn, 1) := by decide +kernel
set_option maxRecDepth 20000 in
theorem ggX3_documentOf_X3_checkRevision : GoodIn wsX3_documentOf wsX3_checkRevision := goodIn_ca (goodIn_r _ [6, 7, 8, 1, 9, 10, 11, 12, 13, 14, 15, 16, 17, 18] (by decide +kernel) (by decide +kernel)) (goodIn_sub (fun _ h => List.mem_cons_of_mem _ (List.mem_append_right _ h)) (by decide +kernel))
set_option maxRecDepth 20000 in
theorem gX3_documentOf_X3_checkRevision : GoodIn wsX3_documentOf (wsV RX3 38 RX3 yX3_checkRevision wsX3_checkRevision) := goodIn_app (goodIn_of _ (by decide +kernel)) ggX3_documentOf_X3_checkRevision
theorem dX3_documentOf_0 : decode cX3_documentOf 0 = .ok (.aload_n 0, 1) := by decide +kernel
theorem dX3_documentOf_1 : decode cX3_documentOf 1 = .ok (.iload_n 1, 1) := by decide +kernel
theorem dX3_documentOf_2 : decode cX3_documentOf 2 = .ok (.invokevirtual 38, 3) := by decide +kernel
theorem dX3_documentOf_5 : decode cX3_documentOf 5 = .ok (.aload_n 0, 1) := by decide +kernel
theorem dX3_documentOf_6 : decode cX3_documentOf 6 = .ok (.getfield 10, 3) := by decide +kernel
theorem dX3_documentOf_9 : decode cX3_documentOf 9 = .ok (.getfield 130, 3) := by decide +kernel
theorem dX3_documentOf_12 : decode cX3_documentOf 12 = .ok (.iload_n 1, 1) := by decide +kernel
theorem dX3_documentOf_13 : decode cX3_documentOf 13 = .ok (.iaload, 1) := by decide +kernel
theorem dX3_documentOf_14 : decode cX3_documentOf 14 = .ok (.ireturn, 1) := by decide +kernel
set_option maxRecDepth 20000 in
theorem ggX3_parentOf_X3_checkRevision : GoodIn wsX3_parentOf wsX3_checkRevision := goodIn_ca (goodIn_r _ [6, 7, 8, 1, 9, 10, 11, 12, 13, 14, 15, 16, 17, 18] (by decide +kernel) (by decide +kernel)) (goodIn_sub (fun _ h => List.mem_cons_of_mem _ (List.mem_append_right _ h)) (by decide +kernel))
set_option maxRecDepth 20000 in
theorem gX3_parentOf_X3_checkRevision : GoodIn wsX3_parentOf (wsV RX3 38 RX3 yX3_checkRevision wsX3_checkRevision) := goodIn_app (goodIn_of _ (by decide +kernel)) ggX3_parentOf_X3_checkRevision
theorem dX3_parentOf_0 : decode cX3_parentOf 0 = .ok (.aload_n 0, 1) := by decide +kernel
theorem dX3_parentOf_1 : decode cX3_parentOf 1 = .ok (.iload_n 1, 1) := by decide +kernel
theorem dX3_parentOf_2 : decode cX3_parentOf 2 = .ok (.invokevirtual 38, 3) := by decide +kernel
theorem dX3_parentOf_5 : decode cX3_parentOf 5 = .ok (.aload_n 0, 1) := by decide +kernel
theorem dX3_parentOf_6 : decode cX3_parentOf 6 = .ok (.getfield 10, 3) := by decide +kernel
theorem dX3_parentOf_9 : decode cX3_parentOf 9 = .ok (.getfield 133, 3) := by decide +kernel
theorem dX3_parentOf_12 : decode cX3_parentOf 12 = .ok (.iload_n 1, 1) := by decide +kernel
theorem dX3_parentOf_13 : decode cX3_parentOf 13 = .ok (.iaload, 1) := by decide +kernel
theorem dX3_parentOf_14 : decode cX3_parentOf 14 = .ok (.ireturn, 1) := by decide +kernel
set_option maxRecDepth 20000 in
theorem ggX3_generation_X3_checkRevision : GoodIn wsX3_generation wsX3_checkRevision := goodIn_ca (goodIn_r _ [6, 7, 8, 1, 9, 10, 11, 12, 13, 14, 15, 16, 17, 18] (by decide +kernel) (by decide +kernel)) (goodIn_sub (fun _ h => List.mem_cons_of_mem _ (List.mem_append_right _ h)) (by decide +kernel))
set_option maxRecDepth 20000 in
theorem gX3_generation_X3_checkRevision : GoodIn wsX3_generation (wsV RX3 38 RX3 yX3_checkRevision wsX3_checkRevision) := goodIn_app (goodIn_of _ (by decide +kernel)) ggX3_generation_X3_checkRevision
theorem dX3_generation_0 : decode cX3_generation 0 = .ok (.aload_n 0, 1) := by decide +kernel
theorem dX3_generation_1 : decode cX3_generation 1 = .ok (.iload_n 1, 1) := by decide +kernel
theorem dX3_generation_2 : decode cX3_generation 2 = .ok (.invokevirtual 38, 3) := by decide +kernel
theorem dX3_generation_5 : decode cX3_generation 5 = .ok (.aload_n 0, 1) := by decide +kernel
theorem dX3_generation_6 : decode cX3_generation 6 = .ok (.getfield 10, 3) := by decide +kernel
theorem dX3_generation_9 : decode cX3_generation 9 = .ok (.getfield 136, 3) := by decide +kernel
theorem dX3_generation_12 : decode cX3_generation 12 = .ok (.iload_n 1, 1) := by decide +kernel
theorem dX3_generation_13 : decode cX3_generation 13 = .ok (.iaload, 1) := by decide +kernel
theorem dX3_generation_14 : decode cX3_generation 14 = .ok (.ireturn, 1) := by decide +kernel
set_option maxRecDepth 20000 in
theorem ggX3_sum_X3_checkRevision : GoodIn wsX3_sum wsX3_checkRevision := goodIn_ca (goodIn_r _ [6, 7, 8, 1, 9, 10, 11, 12, 13, 14, 15, 16, 17, 18] (by decide +kernel) (by decide +kernel)) (goodIn_sub (fun _ h => List.mem_cons_of_mem _ (List.mem_append_right _ h)) (by decide +kernel))
set_option maxRecDepth 20000 in
theorem gX3_sum_X3_checkRevision : GoodIn wsX3_sum (wsV RX3 38 RX3 yX3_checkRevision wsX3_checkRevision) := goodIn_app (goodIn_of _ (by decide +kernel)) ggX3_sum_X3_checkRevision
theorem dX3_sum_0 : decode cX3_sum 0 = .ok (.aload_n 0, 1) := by decide +kernel
theorem dX3_sum_1 : decode cX3_sum 1 = .ok (.iload_n 1, 1) := by decide +kernel
theorem dX3_sum_2 : decode cX3_sum 2 = .ok (.invokevirtual 38, 3) := by decide +kernel
theorem dX3_sum_5 : decode cX3_sum 5 = .ok (.aload_n 0, 1) := by decide +kernel
theorem dX3_sum_6 : decode cX3_sum 6 = .ok (.getfield 10, 3) := by decide +kernel
theorem dX3_sum_9 : decode cX3_sum 9 = .ok (.getfield 139, 3) := by decide +kernel
theorem dX3_sum_12 : decode cX3_sum 12 = .ok (.iload_n 1, 1) := by decide +kernel
theorem dX3_sum_13 : decode cX3_sum 13 = .ok (.iaload, 1) := by decide +kernel
theorem dX3_sum_14 : decode cX3_sum 14 = .ok (.ireturn, 1) := by decide +kernel
set_option maxRecDepth 20000 in
theorem ggX3_valueOf_X3_checkRevision : GoodIn wsX3_valueOf wsX3_checkRevision := goodIn_ca (goodIn_r _ [6, 7, 8, 1, 9, 10, 11, 12, 13, 14, 15, 16, 17, 18] (by decide +kernel) (by decide +kernel)) (goodIn_sub (fun _ h => List.mem_cons_of_mem _ (List.mem_append_right _ h)) (by decide +kernel))
set_option maxRecDepth 20000 in
theorem gX3_valueOf_X3_checkRevision : GoodIn wsX3_valueOf (wsV RX3 38 RX3 yX3_checkRevision wsX3_checkRevision) := goodIn_app (goodIn_of _ (by decide +kernel)) ggX3_valueOf_X3_checkRevision
theorem dX3_valueOf_0 : decode cX3_valueOf 0 = .ok (.aload_n 0, 1) := by decide +kernel
theorem dX3_valueOf_1 : decode cX3_valueOf 1 = .ok (.iload_n 1, 1) := by decide +kernel
theorem dX3_valueOf_2 : decode cX3_valueOf 2 = .ok (.invokevirtual 38, 3) := by decide +kernel
theorem dX3_valueOf_5 : decode cX3_valueOf 5 = .ok (.aload_n 0, 1) := by decide +kernel
theorem dX3_valueOf_6 : decode cX3_valueOf 6 = .ok (.getfield 10, 3) := by decide +kernel
theorem dX3_valueOf_9 : decode cX3_valueOf 9 = .ok (.getfield 63, 3) := by decide +kernel
theorem dX3_valueOf_12 : decode cX3_valueOf 12 = .ok (.iload_n 1, 1) := by decide +kernel
theorem dX3_valueOf_13 : decode cX3_valueOf 13 = .ok (.baload, 1) := by decide +kernel
theorem dX3_valueOf_14 : decode cX3_valueOf 14 = .ok (.ifCond .eq 7, 3) := by decide +kernel
theorem dX3_valueOf_17 : decode cX3_valueOf 17 = .ok (.iconst (-1), 1) := by decide +kernel
theorem dX3_valueOf_18 : decode cX3_valueOf 18 = .ok (.goto 12, 3) := by decide +kernel
theorem dX3_valueOf_21 : decode cX3_valueOf 21 = .ok (.aload_n 0, 1) := by decide +kernel
theorem dX3_valueOf_22 : decode cX3_valueOf 22 = .ok (.getfield 10, 3) := by decide +kernel
theorem dX3_valueOf_25 : decode cX3_valueOf 25 = .ok (.getfield 142, 3) := by decide +kernel
theorem dX3_valueOf_28 : decode cX3_valueOf 28 = .ok (.iload_n 1, 1) := by decide +kernel
theorem dX3_valueOf_29 : decode cX3_valueOf 29 = .ok (.iaload, 1) := by decide +kernel
theorem dX3_valueOf_30 : decode cX3_valueOf 30 = .ok (.ireturn, 1) := by decide +kernel
set_option maxRecDepth 20000 in
theorem ggX3_sequence_X3_storeAt : GoodIn wsX3_sequence wsX3_storeAt := goodIn_ca (goodIn_r _ [5, 6, 7, 8, 14, 15, 16] (by decide +kernel) (by decide +kernel)) (goodIn_sub (fun _ h => List.mem_cons_of_mem _ (List.mem_append_right _ h)) (by decide +kernel))
set_option maxRecDepth 20000 in
theorem gX3_sequence_X3_storeAt : GoodIn wsX3_sequence (wsV RX3 30 RX3 yX3_storeAt wsX3_storeAt) := goodIn_app (goodIn_of _ (by decide +kernel)) ggX3_sequence_X3_storeAt
theorem dX3_sequence_0 : decode cX3_sequence 0 = .ok (.aload_n 0, 1) := by decide +kernel
theorem dX3_sequence_1 : decode cX3_sequence 1 = .ok (.iload_n 1, 1) := by decide +kernel
theorem dX3_sequence_2 : decode cX3_sequence 2 = .ok (.invokevirtual 30, 3) := by decide +kernel
theorem dX3_sequence_5 : decode cX3_sequence 5 = .ok (.getfield 115, 3) := by decide +kernel
theorem dX3_sequence_8 : decode cX3_sequence 8 = .ok (.ireturn, 1) := by decide +kernel
set_option maxRecDepth 20000 in
theorem ggX3_has_X3_storeAt : GoodIn wsX3_has wsX3_storeAt := goodIn_ca (goodIn_r _ [5, 6, 7, 8, 22, 23, 24] (by decide +kernel) (by decide +kernel)) (goodIn_sub (fun _ h => List.mem_cons_of_mem _ (List.mem_append_right _ h)) (by decide +kernel))
set_option maxRecDepth 20000 in
theorem gX3_has_X3_storeAt : GoodIn wsX3_has (wsV RX3 30 RX3 yX3_storeAt wsX3_storeAt) := goodIn_app (goodIn_of _ (by decide +kernel)) ggX3_has_X3_storeAt
set_option maxRecDepth 20000 in
theorem ggX3_has_X3_checkRevision : GoodIn wsX3_has wsX3_checkRevision := goodIn_ca (goodIn_r _ [12, 6, 7, 13, 22, 23, 24, 25, 26, 27, 28, 29, 30, 31] (by decide +kernel) (by decide +kernel)) (goodIn_sub (fun _ h => List.mem_cons_of_mem _ (List.mem_append_right _ h)) (by decide +kernel))
set_option maxRecDepth 20000 in
theorem gX3_has_X3_checkRevision : GoodIn wsX3_has (wsV RX3 38 RX3 yX3_checkRevision wsX3_checkRevision) := goodIn_app (goodIn_of _ (by decide +kernel)) ggX3_has_X3_checkRevision
theorem dX3_has_0 : decode cX3_has 0 = .ok (.aload_n 0, 1) := by decide +kernel
theorem dX3_has_1 : decode cX3_has 1 = .ok (.iload_n 1, 1) := by decide +kernel
theorem dX3_has_2 : decode cX3_has 2 = .ok (.invokevirtual 30, 3) := by decide +kernel
theorem dX3_has_5 : decode cX3_has 5 = .ok (.astore_n 3, 1) := by decide +kernel
theorem dX3_has_6 : decode cX3_has 6 = .ok (.aload_n 0, 1) := by decide +kernel
theorem dX3_has_7 : decode cX3_has 7 = .ok (.iload_n 2, 1) := by decide +kernel
theorem dX3_has_8 : decode cX3_has 8 = .ok (.invokevirtual 38, 3) := by decide +kernel
theorem dX3_has_11 : decode cX3_has 11 = .ok (.aload_n 3, 1) := by decide +kernel
theorem dX3_has_12 : decode cX3_has 12 = .ok (.getfield 78, 3) := by decide +kernel
theorem dX3_has_15 : decode cX3_has 15 = .ok (.getfield 145, 3) := by decide +kernel
theorem dX3_has_18 : decode cX3_has 18 = .ok (.iload_n 2, 1) := by decide +kernel
theorem dX3_has_19 : decode cX3_has 19 = .ok (.baload, 1) := by decide +kernel
theorem dX3_has_20 : decode cX3_has 20 = .ok (.ireturn, 1) := by decide +kernel
set_option maxRecDepth 20000 in
theorem ggX3_isLeaf_X3_storeAt : GoodIn wsX3_isLeaf wsX3_storeAt := goodIn_ca (goodIn_r _ [5, 6, 7, 8, 30, 31, 32] (by decide +kernel) (by decide +kernel)) (goodIn_sub (fun _ h => List.mem_cons_of_mem _ (List.mem_append_right _ h)) (by decide +kernel))
set_option maxRecDepth 20000 in
theorem gX3_isLeaf_X3_storeAt : GoodIn wsX3_isLeaf (wsV RX3 30 RX3 yX3_storeAt wsX3_storeAt) := goodIn_app (goodIn_of _ (by decide +kernel)) ggX3_isLeaf_X3_storeAt
set_option maxRecDepth 20000 in
theorem ggX3_isLeaf_X3_checkRevision : GoodIn wsX3_isLeaf wsX3_checkRevision := goodIn_ca (goodIn_r _ [12, 6, 7, 13, 30, 31, 32, 33, 34, 35, 36, 37, 38, 39] (by decide +kernel) (by decide +kernel)) (goodIn_sub (fun _ h => List.mem_cons_of_mem _ (List.mem_append_right _ h)) (by decide +kernel))
set_option maxRecDepth 20000 in
theorem gX3_isLeaf_X3_checkRevision : GoodIn wsX3_isLeaf (wsV RX3 38 RX3 yX3_checkRevision wsX3_checkRevision) := goodIn_app (goodIn_of _ (by decide +kernel)) ggX3_isLeaf_X3_checkRevision
set_option maxRecDepth 20000 in
theorem ggX3_isLeaf_X0_endsAt : GoodIn wsX3_isLeaf wsX0_endsAt := goodIn_r _ [18, 19, 20, 21, 22, 17, 23, 24, 40, 41, 42] (by decide +kernel) (by decide +kernel)
set_option maxRecDepth 20000 in
theorem gX3_isLeaf_X0_endsAt : GoodIn wsX3_isLeaf (wsV RX3 148 RX0 yX0_endsAt wsX0_endsAt) := goodIn_app (goodIn_of _ (by decide +kernel)) ggX3_isLeaf_X0_endsAt
theorem dX3_isLeaf_0 : decode cX3_isLeaf 0 = .ok (.aload_n 0, 1) := by decide +kernel
theorem dX3_isLeaf_1 : decode cX3_isLeaf 1 = .ok (.iload_n 1, 1) := by decide +kernel
theorem dX3_isLeaf_2 : decode cX3_isLeaf 2 = .ok (.invokevirtual 30, 3) := by decide +kernel
theorem dX3_isLeaf_5 : decode cX3_isLeaf 5 = .ok (.astore_n 3, 1) := by decide +kernel
theorem dX3_isLeaf_6 : decode cX3_isLeaf 6 = .ok (.aload_n 0, 1) := by decide +kernel
theorem dX3_isLeaf_7 : decode cX3_isLeaf 7 = .ok (.iload_n 2, 1) := by decide +kernel
theorem dX3_isLeaf_8 : decode cX3_isLeaf 8 = .ok (.invokevirtual 38, 3) := by decide +kernel
theorem dX3_isLeaf_11 : decode cX3_isLeaf 11 = .ok (.aload_n 3, 1) := by decide +kernel
theorem dX3_isLeaf_12 : decode cX3_isLeaf 12 = .ok (.getfield 78, 3) := by decide +kernel
theorem dX3_isLeaf_15 : decode cX3_isLeaf 15 = .ok (.iload_n 2, 1) := by decide +kernel
theorem dX3_isLeaf_16 : decode cX3_isLeaf 16 = .ok (.invokevirtual 148, 3) := by decide +kernel
theorem dX3_isLeaf_19 : decode cX3_isLeaf 19 = .ok (.ireturn, 1) := by decide +kernel
set_option maxRecDepth 20000 in
theorem ggX3_size_X3_storeAt : GoodIn wsX3_size wsX3_storeAt := goodIn_ca (goodIn_r _ [6, 7, 8, 9, 21, 22, 23] (by decide +kernel) (by decide +kernel)) (goodIn_sub (fun _ h => List.mem_cons_of_mem _ (List.mem_append_right _ h)) (by decide +kernel))
set_option maxRecDepth 20000 in
theorem gX3_size_X3_storeAt : GoodIn wsX3_size (wsV RX3 30 RX3 yX3_storeAt wsX3_storeAt) := goodIn_app (goodIn_of _ (by decide +kernel)) ggX3_size_X3_storeAt
set_option maxRecDepth 20000 in
theorem ggX3_size_X0_countAll : GoodIn wsX3_size wsX0_countAll := goodIn_r _ [14, 15, 24, 25, 26, 27, 28, 29, 30, 31, 32, 33] (by decide +kernel) (by decide +kernel)
set_option maxRecDepth 20000 in
theorem gX3_size_X0_countAll : GoodIn wsX3_size (wsV RX3 85 RX0 yX0_countAll wsX0_countAll) := goodIn_app (goodIn_of _ (by decide +kernel)) ggX3_size_X0_countAll
theorem dX3_size_0 : decode cX3_size 0 = .ok (.aload_n 0, 1) := by decide +kernel
theorem dX3_size_1 : decode cX3_size 1 = .ok (.iload_n 1, 1) := by decide +kernel
theorem dX3_size_2 : decode cX3_size 2 = .ok (.invokevirtual 30, 3) := by decide +kernel
theorem dX3_size_5 : decode cX3_size 5 = .ok (.getfield 78, 3) := by decide +kernel
theorem dX3_size_8 : decode cX3_size 8 = .ok (.aload_n 0, 1) := by decide +kernel
theorem dX3_size_9 : decode cX3_size 9 = .ok (.getfield 10, 3) := by decide +kernel
theorem dX3_size_12 : decode cX3_size 12 = .ok (.invokevirtual 85, 3) := by decide +kernel
theorem dX3_size_15 : decode cX3_size 15 = .ok (.ireturn, 1) := by decide +kernel
set_option maxRecDepth 20000 in
theorem ggX3_winner_X3_storeAt : GoodIn wsX3_winner wsX3_storeAt := goodIn_ca (goodIn_r _ [5, 6, 7, 8, 21, 22, 23] (by decide +kernel) (by decide +kernel)) (goodIn_sub (fun _ h => List.mem_cons_of_mem _ (List.mem_append_right _ h)) (by decide +kernel))
set_option maxRecDepth 20000 in
theorem gX3_winner_X3_storeAt : GoodIn wsX3_winner (wsV RX3 30 RX3 yX3_storeAt wsX3_storeAt) := goodIn_app (goodIn_of _ (by decide +kernel)) ggX3_winner_X3_storeAt
set_option maxRecDepth 20000 in
theorem ggX3_winner_X3_checkDocument : GoodIn wsX3_winner wsX3_checkDocument := goodIn_ca (goodIn_r _ [12, 6, 7] (by decide +kernel) (by decide +kernel)) (goodIn_sub (fun _ h => List.mem_cons_of_mem _ (List.mem_append_right _ h)) (by decide +kernel))
set_option maxRecDepth 20000 in
theorem gX3_winner_X3_checkDocument : GoodIn wsX3_winner (wsV RX3 34 RX3 yX3_checkDocument wsX3_checkDocument) := goodIn_app (goodIn_of _ (by decide +kernel)) ggX3_winner_X3_checkDocument
theorem dX3_winner_0 : decode cX3_winner 0 = .ok (.aload_n 0, 1) := by decide +kernel
theorem dX3_winner_1 : decode cX3_winner 1 = .ok (.iload_n 1, 1) := by decide +kernel
theorem dX3_winner_2 : decode cX3_winner 2 = .ok (.invokevirtual 30, 3) := by decide +kernel
theorem dX3_winner_5 : decode cX3_winner 5 = .ok (.astore_n 3, 1) := by decide +kernel
theorem dX3_winner_6 : decode cX3_winner 6 = .ok (.aload_n 0, 1) := by decide +kernel
theorem dX3_winner_7 : decode cX3_winner 7 = .ok (.iload_n 2, 1) := by decide +kernel
theorem dX3_winner_8 : decode cX3_winner 8 = .ok (.invokevirtual 34, 3) := by decide +kernel
theorem dX3_winner_11 : decode cX3_winner 11 = .ok (.aload_n 3, 1) := by decide +kernel
theorem dX3_winner_12 : decode cX3_winner 12 = .ok (.getfield 78, 3) := by decide +kernel
theorem dX3_winner_15 : decode cX3_winner 15 = .ok (.getfield 152, 3) := by decide +kernel
theorem dX3_winner_18 : decode cX3_winner 18 = .ok (.iload_n 2, 1) := by decide +kernel
theorem dX3_winner_19 : decode cX3_winner 19 = .ok (.iaload, 1) := by decide +kernel
theorem dX3_winner_20 : decode cX3_winner 20 = .ok (.ireturn, 1) := by decide +kernel
set_option maxRecDepth 20000 in
theorem ggX3_winnerOfAll_X3_checkDocument : GoodIn wsX3_winnerOfAll wsX3_checkDocument := goodIn_ca (goodIn_r _ [8, 9, 10] (by decide +kernel) (by decide +kernel)) (goodIn_sub (fun _ h => List.mem_cons_of_mem _ (List.mem_append_right _ h)) (by decide +kernel))
set_option maxRecDepth 20000 in
theorem gX3_winnerOfAll_X3_checkDocument : GoodIn wsX3_winnerOfAll (wsV RX3 34 RX3 yX3_checkDocument wsX3_checkDocument) := goodIn_app (goodIn_of _ (by decide +kernel)) ggX3_winnerOfAll_X3_checkDocument
set_option maxRecDepth 20000 in
theorem ggX3_winnerOfAll_X0_removeAll : GoodIn wsX3_winnerOfAll wsX0_removeAll := goodIn_r _ [15, 16, 67, 68, 69] (by decide +kernel) (by decide +kernel)
set_option maxRecDepth 20000 in
theorem gX3_winnerOfAll_X0_removeAll : GoodIn wsX3_winnerOfAll (wsV RX3 155 RX0 yX0_removeAll wsX0_removeAll) := goodIn_app (goodIn_of _ (by decide +kernel)) ggX3_winnerOfAll_X0_removeAll
set_option maxRecDepth 20000 in
theorem ggX3_winnerOfAll_X0_addAll : GoodIn wsX3_winnerOfAll wsX0_addAll := goodIn_r _ [20, 16, 70, 71, 72, 73, 74, 75, 76, 67, 68, 69] (by decide +kernel) (by decide +kernel)
set_option maxRecDepth 20000 in
theorem gX3_winnerOfAll_X0_addAll : GoodIn wsX3_winnerOfAll (wsV RX3 158 RX0 yX0_addAll wsX0_addAll) := goodIn_app (goodIn_of _ (by decide +kernel)) ggX3_winnerOfAll_X0_addAll
set_option maxRecDepth 20000 in
theorem ggX3_winnerOfAll_X0_survey : GoodIn wsX3_winnerOfAll wsX0_survey := goodIn_r _ [24, 25, 26, 27, 14, 28, 29, 30, 31, 32, 33, 34, 35, 36, 37, 38, 39, 40, 41, 16, 42, 43, 44, 45, 46, 47, 48, 49, 50, 51, 52, 53, 54, 55, 56, 57, 58, 67, 68, 69, 70, 71, 72, 73, 74, 75, 76] (by decide +kernel) (by decide +kernel)
set_option maxRecDepth 20000 in
theorem gX3_winnerOfAll_X0_survey : GoodIn wsX3_winnerOfAll (wsV RX3 162 RX0 yX0_survey wsX0_survey) := goodIn_app (goodIn_of _ (by decide +kernel)) ggX3_winnerOfAll_X0_survey
theorem dX3_winnerOfAll_0 : decode cX3_winnerOfAll 0 = .ok (.aload_n 0, 1) := by decide +kernel
theorem dX3_winnerOfAll_1 : decode cX3_winnerOfAll 1 = .ok (.iload_n 1, 1) := by decide +kernel
theorem dX3_winnerOfAll_2 : decode cX3_winnerOfAll 2 = .ok (.invokevirtual 34, 3) := by decide +kernel
theorem dX3_winnerOfAll_5 : decode cX3_winnerOfAll 5 = .ok (.aload_n 0, 1) := by decide +kernel
theorem dX3_winnerOfAll_6 : decode cX3_winnerOfAll 6 = .ok (.getfield 25, 3) := by decide +kernel
theorem dX3_winnerOfAll_9 : decode cX3_winnerOfAll 9 = .ok (.invokevirtual 155, 3) := by decide +kernel
theorem dX3_winnerOfAll_12 : decode cX3_winnerOfAll 12 = .ok (.iconst 0, 1) := by decide +kernel
theorem dX3_winnerOfAll_13 : decode cX3_winnerOfAll 13 = .ok (.istore_n 2, 1) := by decide +kernel
theorem dX3_winnerOfAll_14 : decode cX3_winnerOfAll 14 = .ok (.iload_n 2, 1) := by decide +kernel
theorem dX3_winnerOfAll_15 : decode cX3_winnerOfAll 15 = .ok (.iconst 3, 1) := by decide +kernel
theorem dX3_winnerOfAll_16 : decode cX3_winnerOfAll 16 = .ok (.if_icmp .ge 29, 3) := by decide +kernel
theorem dX3_winnerOfAll_19 : decode cX3_winnerOfAll 19 = .ok (.aload_n 0, 1) := by decide +kernel
theorem dX3_winnerOfAll_20 : decode cX3_winnerOfAll 20 = .ok (.getfield 25, 3) := by decide +kernel
theorem dX3_winnerOfAll_23 : decode cX3_winnerOfAll 23 = .ok (.aload_n 0, 1) := by decide +kernel
theorem dX3_winnerOfAll_24 : decode cX3_winnerOfAll 24 = .ok (.getfield 10, 3) := by decide +kernel
theorem dX3_winnerOfAll_27 : decode cX3_winnerOfAll 27 = .ok (.aload_n 0, 1) := by decide +kernel
theorem dX3_winnerOfAll_28 : decode cX3_winnerOfAll 28 = .ok (.getfield 18, 3) := by decide +kernel
theorem dX3_winnerOfAll_31 : decode cX3_winnerOfAll 31 = .ok (.iload_n 2, 1) := by decide +kernel
theorem dX3_winnerOfAll_32 : decode cX3_winnerOfAll 32 = .ok (.aaload, 1) := by decide +kernel
theorem dX3_winnerOfAll_33 : decode cX3_winnerOfAll 33 = .ok (.getfield 78, 3) := by decide +kernel
theorem dX3_winnerOfAll_36 : decode cX3_winnerOfAll 36 = .ok (.invokevirtual 158, 3) := by decide +kernel
theorem dX3_winnerOfAll_39 : decode cX3_winnerOfAll 39 = .ok (.iinc 2 1, 3) := by decide +kernel
theorem dX3_winnerOfAll_42 : decode cX3_winnerOfAll 42 = .ok (.goto (-28), 3) := by decide +kernel
theorem dX3_winnerOfAll_45 : decode cX3_winnerOfAll 45 = .ok (.aload_n 0, 1) := by decide +kernel
theorem dX3_winnerOfAll_46 : decode cX3_winnerOfAll 46 = .ok (.getfield 25, 3) := by decide +kernel
theorem dX3_winnerOfAll_49 : decode cX3_winnerOfAll 49 = .ok (.aload_n 0, 1) := by decide +kernel
theorem dX3_winnerOfAll_50 : decode cX3_winnerOfAll 50 = .ok (.getfield 10, 3) := by decide +kernel
theorem dX3_winnerOfAll_53 : decode cX3_winnerOfAll 53 = .ok (.invokevirtual 162, 3) := by decide +kernel
theorem dX3_winnerOfAll_56 : decode cX3_winnerOfAll 56 = .ok (.aload_n 0, 1) := by decide +kernel
theorem dX3_winnerOfAll_57 : decode cX3_winnerOfAll 57 = .ok (.getfield 25, 3) := by decide +kernel
theorem dX3_winnerOfAll_60 : decode cX3_winnerOfAll 60 = .ok (.getfield 152, 3) := by decide +kernel
theorem dX3_winnerOfAll_63 : decode cX3_winnerOfAll 63 = .ok (.iload_n 1, 1) := by decide +kernel
theorem dX3_winnerOfAll_64 : decode cX3_winnerOfAll 64 = .ok (.iaload, 1) := by decide +kernel
theorem dX3_winnerOfAll_65 : decode cX3_winnerOfAll 65 = .ok (.ireturn, 1) := by decide +kernel
set_option maxRecDepth 20000 in
theorem ggX3_conflicts_X3_storeAt : GoodIn wsX3_conflicts wsX3_storeAt := goodIn_ca (goodIn_r _ [10, 11, 12, 13, 38, 39, 40] (by decide +kernel) (by decide +kernel)) (goodIn_sub (fun _ h => List.mem_cons_of_mem _ (List.mem_append_right _ h)) (by decide +kernel))
set_option maxRecDepth 20000 in
theorem gX3_conflicts_X3_storeAt : GoodIn wsX3_conflicts (wsV RX3 30 RX3 yX3_storeAt wsX3_storeAt) := goodIn_app (goodIn_of _ (by decide +kernel)) ggX3_conflicts_X3_storeAt
set_option maxRecDepth 20000 in
theorem ggX3_conflicts_X3_checkDocument : GoodIn wsX3_conflicts wsX3_checkDocument := goodIn_ca (goodIn_r _ [17, 11, 12] (by decide +kernel) (by decide +kernel)) (goodIn_sub (fun _ h => List.mem_cons_of_mem _ (List.mem_append_right _ h)) (by decide +kernel))
set_option maxRecDepth 20000 in
theorem gX3_conflicts_X3_checkDocument : GoodIn wsX3_conflicts (wsV RX3 34 RX3 yX3_checkDocument wsX3_checkDocument) := goodIn_app (goodIn_of _ (by decide +kernel)) ggX3_conflicts_X3_checkDocument
set_option maxRecDepth 20000 in
theorem ggX3_conflicts_X0_countLiveLeaves : GoodIn wsX3_conflicts wsX0_countLiveLeaves := goodIn_r _ [22, 23, 24, 25, 21, 26, 27, 28, 29, 30, 31, 32, 41, 42, 43, 44, 45, 46, 47, 48, 49, 50] (by decide +kernel) (by decide +kernel)
set_option maxRecDepth 20000 in
theorem gX3_conflicts_X0_countLiveLeaves : GoodIn wsX3_conflicts (wsV RX3 165 RX0 yX0_countLiveLeaves wsX0_countLiveLeaves) := goodIn_app (goodIn_of _ (by decide +kernel)) ggX3_conflicts_X0_countLiveLeaves
theorem dX3_conflicts_0 : decode cX3_conflicts 0 = .ok (.aload_n 0, 1) := by decide +kernel
theorem dX3_conflicts_1 : decode cX3_conflicts 1 = .ok (.iload_n 1, 1) := by decide +kernel
theorem dX3_conflicts_2 : decode cX3_conflicts 2 = .ok (.invokevirtual 30, 3) := by decide +kernel
theorem dX3_conflicts_5 : decode cX3_conflicts 5 = .ok (.astore_n 3, 1) := by decide +kernel
theorem dX3_conflicts_6 : decode cX3_conflicts 6 = .ok (.aload_n 0, 1) := by decide +kernel
theorem dX3_conflicts_7 : decode cX3_conflicts 7 = .ok (.iload_n 2, 1) := by decide +kernel
theorem dX3_conflicts_8 : decode cX3_conflicts 8 = .ok (.invokevirtual 34, 3) := by decide +kernel
theorem dX3_conflicts_11 : decode cX3_conflicts 11 = .ok (.iconst 0, 1) := by decide +kernel
theorem dX3_conflicts_12 : decode cX3_conflicts 12 = .ok (.aload_n 3, 1) := by decide +kernel
theorem dX3_conflicts_13 : decode cX3_conflicts 13 = .ok (.getfield 78, 3) := by decide +kernel
theorem dX3_conflicts_16 : decode cX3_conflicts 16 = .ok (.aload_n 0, 1) := by decide +kernel
theorem dX3_conflicts_17 : decode cX3_conflicts 17 = .ok (.getfield 10, 3) := by decide +kernel
theorem dX3_conflicts_20 : decode cX3_conflicts 20 = .ok (.iload_n 2, 1) := by decide +kernel
theorem dX3_conflicts_21 : decode cX3_conflicts 21 = .ok (.invokevirtual 165, 3) := by decide +kernel
theorem dX3_conflicts_24 : decode cX3_conflicts 24 = .ok (.iconst 1, 1) := by decide +kernel
theorem dX3_conflicts_25 : decode cX3_conflicts 25 = .ok (.isub, 1) := by decide +kernel
theorem dX3_conflicts_26 : decode cX3_conflicts 26 = .ok (.invokestatic 168, 3) := by decide +kernel
theorem dX3_conflicts_29 : decode cX3_conflicts 29 = .ok (.ireturn, 1) := by decide +kernel
set_option maxRecDepth 20000 in
theorem ggX3_count_X3_storeAt : GoodIn wsX3_count wsX3_storeAt := goodIn_ca (goodIn_r _ [6, 7, 8, 9, 21, 22, 23] (by decide +kernel) (by decide +kernel)) (goodIn_sub (fun _ h => List.mem_cons_of_mem _ (List.mem_append_right _ h)) (by decide +kernel))
set_option maxRecDepth 20000 in
theorem gX3_count_X3_storeAt : GoodIn wsX3_count (wsV RX3 30 RX3 yX3_storeAt wsX3_storeAt) := goodIn_app (goodIn_of _ (by decide +kernel)) ggX3_count_X3_storeAt
set_option maxRecDepth 20000 in
theorem ggX3_count_X0_shownValue : GoodIn wsX3_count wsX0_shownValue := goodIn_r _ [14, 15, 24, 25, 26, 27, 28, 29, 30, 31, 32, 33] (by decide +kernel) (by decide +kernel)
set_option maxRecDepth 20000 in
theorem gX3_count_X0_shownValue : GoodIn wsX3_count (wsV RX3 173 RX0 yX0_shownValue wsX0_shownValue) := goodIn_app (goodIn_of _ (by decide +kernel)) ggX3_count_X0_shownValue
theorem dX3_count_0 : decode cX3_count 0 = .ok (.aload_n 0, 1) := by decide +kernel
theorem dX3_count_1 : decode cX3_count 1 = .ok (.iload_n 1, 1) := by decide +kernel
theorem dX3_count_2 : decode cX3_count 2 = .ok (.invokevirtual 30, 3) := by decide +kernel
theorem dX3_count_5 : decode cX3_count 5 = .ok (.getfield 78, 3) := by decide +kernel
theorem dX3_count_8 : decode cX3_count 8 = .ok (.astore 4, 2) := by decide +kernel
theorem dX3_count_10 : decode cX3_count 10 = .ok (.iconst 0, 1) := by decide +kernel
theorem dX3_count_11 : decode cX3_count 11 = .ok (.istore 5, 2) := by decide +kernel
theorem dX3_count_13 : decode cX3_count 13 = .ok (.iconst 0, 1) := by decide +kernel
theorem dX3_count_14 : decode cX3_count 14 = .ok (.istore 6, 2) := by decide +kernel
theorem dX3_count_16 : decode cX3_count 16 = .ok (.iload 6, 2) := by decide +kernel
theorem dX3_count_18 : decode cX3_count 18 = .ok (.iconst 4, 1) := by decide +kernel
theorem dX3_count_19 : decode cX3_count 19 = .ok (.if_icmp .ge 43, 3) := by decide +kernel
theorem dX3_count_22 : decode cX3_count 22 = .ok (.aload 4, 2) := by decide +kernel
theorem dX3_count_24 : decode cX3_count 24 = .ok (.aload_n 0, 1) := by decide +kernel
theorem dX3_count_25 : decode cX3_count 25 = .ok (.getfield 10, 3) := by decide +kernel
theorem dX3_count_28 : decode cX3_count 28 = .ok (.iload 6, 2) := by decide +kernel
theorem dX3_count_30 : decode cX3_count 30 = .ok (.invokevirtual 173, 3) := by decide +kernel
theorem dX3_count_33 : decode cX3_count 33 = .ok (.istore 7, 2) := by decide +kernel
theorem dX3_count_35 : decode cX3_count 35 = .ok (.iload 7, 2) := by decide +kernel
theorem dX3_count_37 : decode cX3_count 37 = .ok (.iconst (-1), 1) := by decide +kernel
theorem dX3_count_38 : decode cX3_count 38 = .ok (.if_icmp .eq 18, 3) := by decide +kernel
theorem dX3_count_41 : decode cX3_count 41 = .ok (.iload_n 2, 1) := by decide +kernel
theorem dX3_count_42 : decode cX3_count 42 = .ok (.iload 7, 2) := by decide +kernel
theorem dX3_count_44 : decode cX3_count 44 = .ok (.if_icmp .gt 12, 3) := by decide +kernel
theorem dX3_count_47 : decode cX3_count 47 = .ok (.iload 7, 2) := by decide +kernel
theorem dX3_count_49 : decode cX3_count 49 = .ok (.iload_n 3, 1) := by decide +kernel
theorem dX3_count_50 : decode cX3_count 50 = .ok (.if_icmp .gt 6, 3) := by decide +kernel
theorem dX3_count_53 : decode cX3_count 53 = .ok (.iinc 5 1, 3) := by decide +kernel
theorem dX3_count_56 : decode cX3_count 56 = .ok (.iinc 6 1, 3) := by decide +kernel
theorem dX3_count_59 : decode cX3_count 59 = .ok (.goto (-43), 3) := by decide +kernel
theorem dX3_count_62 : decode cX3_count 62 = .ok (.iload 5, 2) := by decide +kernel
theorem dX3_count_64 : decode cX3_count 64 = .ok (.ireturn, 1) := by decide +kernel
set_option maxRecDepth 20000 in
theorem ggX3_viewAt_X3_storeAt : GoodIn wsX3_viewAt wsX3_storeAt := goodIn_ca (goodIn_r _ [8, 1, 2, 9, 26, 27, 28] (by decide +kernel) (by decide +kernel)) (goodIn_sub (fun _ h => List.mem_cons_of_mem _ (List.mem_append_right _ h)) (by decide +kernel))
set_option maxRecDepth 20000 in
theorem gX3_viewAt_X3_storeAt : GoodIn wsX3_viewAt (wsV RX3 30 RX3 yX3_storeAt wsX3_storeAt) := goodIn_app (goodIn_of _ (by decide +kernel)) ggX3_viewAt_X3_storeAt
set_option maxRecDepth 20000 in
theorem ggX3_viewAt_X0_shownValue : GoodIn wsX3_viewAt wsX0_shownValue := goodIn_r _ [14, 15, 29, 30, 31, 32, 33, 34, 35, 36, 37, 38] (by decide +kernel) (by decide +kernel)
set_option maxRecDepth 20000 in
theorem gX3_viewAt_X0_shownValue : GoodIn wsX3_viewAt (wsV RX3 173 RX0 yX0_shownValue wsX0_shownValue) := goodIn_app (goodIn_of _ (by decide +kernel)) ggX3_viewAt_X0_shownValue
set_option maxRecDepth 20000 in
theorem ggX3_viewAt_X0_countShownBefore : GoodIn wsX3_viewAt wsX0_countShownBefore := goodIn_r _ [19, 20, 11, 12, 13, 14, 15, 29, 30, 31, 32, 33, 34, 35, 36, 37, 38] (by decide +kernel) (by decide +kernel)
set_option maxRecDepth 20000 in
theorem gX3_viewAt_X0_countShownBefore : GoodIn wsX3_viewAt (wsV RX3 176 RX0 yX0_countShownBefore wsX0_countShownBefore) := goodIn_app (goodIn_of _ (by decide +kernel)) ggX3_viewAt_X0_countShownBefore
theorem dX3_viewAt_0 : decode cX3_viewAt 0 = .ok (.aload_n 0, 1) := by decide +kernel
theorem dX3_viewAt_1 : decode cX3_viewAt 1 = .ok (.iload_n 1, 1) := by decide +kernel
theorem dX3_viewAt_2 : decode cX3_viewAt 2 = .ok (.invokevirtual 30, 3) := by decide +kernel
theorem dX3_viewAt_5 : decode cX3_viewAt 5 = .ok (.getfield 78, 3) := by decide +kernel
theorem dX3_viewAt_8 : decode cX3_viewAt 8 = .ok (.astore_n 3, 1) := by decide +kernel
theorem dX3_viewAt_9 : decode cX3_viewAt 9 = .ok (.iconst 0, 1) := by decide +kernel
theorem dX3_viewAt_10 : decode cX3_viewAt 10 = .ok (.istore 4, 2) := by decide +kernel
theorem dX3_viewAt_12 : decode cX3_viewAt 12 = .ok (.iload 4, 2) := by decide +kernel
theorem dX3_viewAt_14 : decode cX3_viewAt 14 = .ok (.iconst 4, 1) := by decide +kernel
theorem dX3_viewAt_15 : decode cX3_viewAt 15 = .ok (.if_icmp .ge 46, 3) := by decide +kernel
theorem dX3_viewAt_18 : decode cX3_viewAt 18 = .ok (.aload_n 3, 1) := by decide +kernel
theorem dX3_viewAt_19 : decode cX3_viewAt 19 = .ok (.aload_n 0, 1) := by decide +kernel
theorem dX3_viewAt_20 : decode cX3_viewAt 20 = .ok (.getfield 10, 3) := by decide +kernel
theorem dX3_viewAt_23 : decode cX3_viewAt 23 = .ok (.iload 4, 2) := by decide +kernel
theorem dX3_viewAt_25 : decode cX3_viewAt 25 = .ok (.invokevirtual 173, 3) := by decide +kernel
theorem dX3_viewAt_28 : decode cX3_viewAt 28 = .ok (.istore 5, 2) := by decide +kernel
theorem dX3_viewAt_30 : decode cX3_viewAt 30 = .ok (.iload 5, 2) := by decide +kernel
theorem dX3_viewAt_32 : decode cX3_viewAt 32 = .ok (.iconst (-1), 1) := by decide +kernel
theorem dX3_viewAt_33 : decode cX3_viewAt 33 = .ok (.if_icmp .eq 22, 3) := by decide +kernel
theorem dX3_viewAt_36 : decode cX3_viewAt 36 = .ok (.aload_n 3, 1) := by decide +kernel
theorem dX3_viewAt_37 : decode cX3_viewAt 37 = .ok (.aload_n 0, 1) := by decide +kernel
theorem dX3_viewAt_38 : decode cX3_viewAt 38 = .ok (.getfield 10, 3) := by decide +kernel
theorem dX3_viewAt_41 : decode cX3_viewAt 41 = .ok (.iload 5, 2) := by decide +kernel
theorem dX3_viewAt_43 : decode cX3_viewAt 43 = .ok (.iload 4, 2) := by decide +kernel
theorem dX3_viewAt_45 : decode cX3_viewAt 45 = .ok (.invokevirtual 176, 3) := by decide +kernel
theorem dX3_viewAt_48 : decode cX3_viewAt 48 = .ok (.iload_n 2, 1) := by decide +kernel
theorem dX3_viewAt_49 : decode cX3_viewAt 49 = .ok (.if_icmp .ne 6, 3) := by decide +kernel
theorem dX3_viewAt_52 : decode cX3_viewAt 52 = .ok (.iload 4, 2) := by decide +kernel
theorem dX3_viewAt_54 : decode cX3_viewAt 54 = .ok (.ireturn, 1) := by decide +kernel
theorem dX3_viewAt_55 : decode cX3_viewAt 55 = .ok (.iinc 4 1, 3) := by decide +kernel
theorem dX3_viewAt_58 : decode cX3_viewAt 58 = .ok (.goto (-46), 3) := by decide +kernel
theorem dX3_viewAt_61 : decode cX3_viewAt 61 = .ok (.new 180, 3) := by decide +kernel
theorem dX3_viewAt_64 : decode cX3_viewAt 64 = .ok (.dup, 1) := by decide +kernel
theorem dX3_viewAt_65 : decode cX3_viewAt 65 = .ok (.ldc 182, 2) := by decide +kernel
theorem dX3_viewAt_67 : decode cX3_viewAt 67 = .ok (.invokespecial 184, 3) := by decide +kernel
theorem dX3_viewAt_70 : decode cX3_viewAt 70 = .ok (.athrow, 1) := by decide +kernel
theorem dX3_storeAt_0 : decode cX3_storeAt 0 = .ok (.iload_n 1, 1) := by decide +kernel
theorem dX3_storeAt_1 : decode cX3_storeAt 1 = .ok (.ifCond .lt 8, 3) := by decide +kernel
theorem dX3_storeAt_4 : decode cX3_storeAt 4 = .ok (.iload_n 1, 1) := by decide +kernel
theorem dX3_storeAt_5 : decode cX3_storeAt 5 = .ok (.iconst 3, 1) := by decide +kernel
theorem dX3_storeAt_6 : decode cX3_storeAt 6 = .ok (.if_icmp .lt 13, 3) := by decide +kernel
theorem dX3_storeAt_9 : decode cX3_storeAt 9 = .ok (.new 180, 3) := by decide +kernel
theorem dX3_storeAt_12 : decode cX3_storeAt 12 = .ok (.dup, 1) := by decide +kernel
theorem dX3_storeAt_13 : decode cX3_storeAt 13 = .ok (.ldc 185, 2) := by decide +kernel
theorem dX3_storeAt_15 : decode cX3_storeAt 15 = .ok (.invokespecial 184, 3) := by decide +kernel
theorem dX3_storeAt_18 : decode cX3_storeAt 18 = .ok (.athrow, 1) := by decide +kernel
theorem dX3_storeAt_19 : decode cX3_storeAt 19 = .ok (.aload_n 0, 1) := by decide +kernel
theorem dX3_storeAt_20 : decode cX3_storeAt 20 = .ok (.getfield 18, 3) := by decide +kernel
theorem dX3_storeAt_23 : decode cX3_storeAt 23 = .ok (.iload_n 1, 1) := by decide +kernel
theorem dX3_storeAt_24 : decode cX3_storeAt 24 = .ok (.aaload, 1) := by decide +kernel
theorem dX3_storeAt_25 : decode cX3_storeAt 25 = .ok (.areturn, 1) := by decide +kernel
theorem dX3_checkDocument_0 : decode cX3_checkDocument 0 = .ok (.iload_n 1, 1) := by decide +kernel
theorem dX3_checkDocument_1 : decode cX3_checkDocument 1 = .ok (.ifCond .lt 8, 3) := by decide +kernel
theorem dX3_checkDocument_4 : decode cX3_checkDocument 4 = .ok (.iload_n 1, 1) := by decide +kernel
theorem dX3_checkDocument_5 : decode cX3_checkDocument 5 = .ok (.iconst 4, 1) := by decide +kernel
theorem dX3_checkDocument_6 : decode cX3_checkDocument 6 = .ok (.if_icmp .lt 13, 3) := by decide +kernel
theorem dX3_checkDocument_9 : decode cX3_checkDocument 9 = .ok (.new 180, 3) := by decide +kernel
theorem dX3_checkDocument_12 : decode cX3_checkDocument 12 = .ok (.dup, 1) := by decide +kernel
theorem dX3_checkDocument_13 : decode cX3_checkDocument 13 = .ok (.ldc 187, 2) := by decide +kernel
theorem dX3_checkDocument_15 : decode cX3_checkDocument 15 = .ok (.invokespecial 184, 3) := by decide +kernel
theorem dX3_checkDocument_18 : decode cX3_checkDocument 18 = .ok (.athrow, 1) := by decide +kernel
theorem dX3_checkDocument_19 : decode cX3_checkDocument 19 = .ok (.return_, 1) := by decide +kernel
theorem dX3_checkRevision_0 : decode cX3_checkRevision 0 = .ok (.iload_n 1, 1) := by decide +kernel
theorem dX3_checkRevision_1 : decode cX3_checkRevision 1 = .ok (.ifCond .lt 14, 3) := by decide +kernel
theorem dX3_checkRevision_4 : decode cX3_checkRevision 4 = .ok (.iload_n 1, 1) := by decide +kernel
theorem dX3_checkRevision_5 : decode cX3_checkRevision 5 = .ok (.aload_n 0, 1) := by decide +kernel
theorem dX3_checkRevision_6 : decode cX3_checkRevision 6 = .ok (.getfield 10, 3) := by decide +kernel
theorem dX3_checkRevision_9 : decode cX3_checkRevision 9 = .ok (.getfield 127, 3) := by decide +kernel
theorem dX3_checkRevision_12 : decode cX3_checkRevision 12 = .ok (.if_icmp .lt 13, 3) := by decide +kernel
theorem dX3_checkRevision_15 : decode cX3_checkRevision 15 = .ok (.new 180, 3) := by decide +kernel
theorem dX3_checkRevision_18 : decode cX3_checkRevision 18 = .ok (.dup, 1) := by decide +kernel
theorem dX3_checkRevision_19 : decode cX3_checkRevision 19 = .ok (.ldc 189, 2) := by decide +kernel
theorem dX3_checkRevision_21 : decode cX3_checkRevision 21 = .ok (.invokespecial 184, 3) := by decide +kernel
theorem dX3_checkRevision_24 : decode cX3_checkRevision 24 = .ok (.athrow, 1) := by decide +kernel
theorem dX3_checkRevision_25 : decode cX3_checkRevision 25 = .ok (.return_, 1) := by decide +kernel
theorem dX3_checkDifferent_0 : decode cX3_checkDifferent 0 = .ok (.iload_n 1, 1) := by decide +kernel
theorem dX3_checkDifferent_1 : decode cX3_checkDifferent 1 = .ok (.iload_n 2, 1) := by decide +kernel
theorem dX3_checkDifferent_2 : decode cX3_checkDifferent 2 = .ok (.if_icmp .ne 13, 3) := by decide +kernel
theorem dX3_checkDifferent_5 : decode cX3_checkDifferent 5 = .ok (.new 41, 3) := by decide +kernel
theorem dX3_checkDifferent_8 : decode cX3_checkDifferent 8 = .ok (.dup, 1) := by decide +kernel
theorem dX3_checkDifferent_9 : decode cX3_checkDifferent 9 = .ok (.ldc 191, 2) := by decide +kernel
theorem dX3_checkDifferent_11 : decode cX3_checkDifferent 11 = .ok (.invokespecial 45, 3) := by decide +kernel
theorem dX3_checkDifferent_14 : decode cX3_checkDifferent 14 = .ok (.athrow, 1) := by decide +kernel
theorem dX3_checkDifferent_15 : decode cX3_checkDifferent 15 = .ok (.return_, 1) := by decide +kernel
theorem dX3_checkNotBegun_0 : decode cX3_checkNotBegun 0 = .ok (.aload_n 1, 1) := by decide +kernel
theorem dX3_checkNotBegun_1 : decode cX3_checkNotBegun 1 = .ok (.getfield 78, 3) := by decide +kernel
theorem dX3_checkNotBegun_4 : decode cX3_checkNotBegun 4 = .ok (.getfield 152, 3) := by decide +kernel
theorem dX3_checkNotBegun_7 : decode cX3_checkNotBegun 7 = .ok (.iload_n 2, 1) := by decide +kernel
theorem dX3_checkNotBegun_8 : decode cX3_checkNotBegun 8 = .ok (.iaload, 1) := by decide +kernel
theorem dX3_checkNotBegun_9 : decode cX3_checkNotBegun 9 = .ok (.iconst (-1), 1) := by decide +kernel
theorem dX3_checkNotBegun_10 : decode cX3_checkNotBegun 10 = .ok (.if_icmp .eq 13, 3) := by decide +kernel
theorem dX3_checkNotBegun_13 : decode cX3_checkNotBegun 13 = .ok (.new 67, 3) := by decide +kernel
theorem dX3_checkNotBegun_16 : decode cX3_checkNotBegun 16 = .ok (.dup, 1) := by decide +kernel
theorem dX3_checkNotBegun_17 : decode cX3_checkNotBegun 17 = .ok (.ldc 193, 2) := by decide +kernel
theorem dX3_checkNotBegun_19 : decode cX3_checkNotBegun 19 = .ok (.invokespecial 71, 3) := by decide +kernel
theorem dX3_checkNotBegun_22 : decode cX3_checkNotBegun 22 = .ok (.athrow, 1) := by decide +kernel
theorem dX3_checkNotBegun_23 : decode cX3_checkNotBegun 23 = .ok (.return_, 1) := by decide +kernel
set_option maxRecDepth 20000 in
theorem ggX3_checkLeaf_X0_endsAt : GoodIn wsX3_checkLeaf wsX0_endsAt := goodIn_r _ [8, 9, 10, 11, 12, 7, 13, 14, 30, 31, 32] (by decide +kernel) (by decide +kernel)
set_option maxRecDepth 20000 in
theorem gX3_checkLeaf_X0_endsAt : GoodIn wsX3_checkLeaf (wsV RX3 148 RX0 yX0_endsAt wsX0_endsAt) := goodIn_app (goodIn_of _ (by decide +kernel)) ggX3_checkLeaf_X0_endsAt
theorem dX3_checkLeaf_0 : decode cX3_checkLeaf 0 = .ok (.aload_n 0, 1) := by decide +kernel
theorem dX3_checkLeaf_1 : decode cX3_checkLeaf 1 = .ok (.getfield 10, 3) := by decide +kernel
theorem dX3_checkLeaf_4 : decode cX3_checkLeaf 4 = .ok (.getfield 130, 3) := by decide +kernel
theorem dX3_checkLeaf_7 : decode cX3_checkLeaf 7 = .ok (.iload_n 3, 1) := by decide +kernel
theorem dX3_checkLeaf_8 : decode cX3_checkLeaf 8 = .ok (.iaload, 1) := by decide +kernel
theorem dX3_checkLeaf_9 : decode cX3_checkLeaf 9 = .ok (.iload_n 2, 1) := by decide +kernel
theorem dX3_checkLeaf_10 : decode cX3_checkLeaf 10 = .ok (.if_icmp .ne 14, 3) := by decide +kernel
theorem dX3_checkLeaf_13 : decode cX3_checkLeaf 13 = .ok (.aload_n 1, 1) := by decide +kernel
theorem dX3_checkLeaf_14 : decode cX3_checkLeaf 14 = .ok (.getfield 78, 3) := by decide +kernel
theorem dX3_checkLeaf_17 : decode cX3_checkLeaf 17 = .ok (.iload_n 3, 1) := by decide +kernel
theorem dX3_checkLeaf_18 : decode cX3_checkLeaf 18 = .ok (.invokevirtual 148, 3) := by decide +kernel
theorem dX3_checkLeaf_21 : decode cX3_checkLeaf 21 = .ok (.ifCond .ne 13, 3) := by decide +kernel
theorem dX3_checkLeaf_24 : decode cX3_checkLeaf 24 = .ok (.new 67, 3) := by decide +kernel
theorem dX3_checkLeaf_27 : decode cX3_checkLeaf 27 = .ok (.dup, 1) := by decide +kernel
theorem dX3_checkLeaf_28 : decode cX3_checkLeaf 28 = .ok (.ldc 195, 2) := by decide +kernel
theorem dX3_checkLeaf_30 : decode cX3_checkLeaf 30 = .ok (.invokespecial 71, 3) := by decide +kernel
theorem dX3_checkLeaf_33 : decode cX3_checkLeaf 33 = .ok (.athrow, 1) := by decide +kernel
theorem dX3_checkLeaf_34 : decode cX3_checkLeaf 34 = .ok (.return_, 1) := by decide +kernel
theorem dX3_checkRoom_0 : decode cX3_checkRoom 0 = .ok (.aload_n 0, 1) := by decide +kernel
theorem dX3_checkRoom_1 : decode cX3_checkRoom 1 = .ok (.getfield 10, 3) := by decide +kernel
theorem dX3_checkRoom_4 : decode cX3_checkRoom 4 = .ok (.getfield 127, 3) := by decide +kernel
theorem dX3_checkRoom_7 : decode cX3_checkRoom 7 = .ok (.sipush 150, 3) := by decide +kernel
theorem dX3_checkRoom_10 : decode cX3_checkRoom 10 = .ok (.if_icmp .lt 13, 3) := by decide +kernel
theorem dX3_checkRoom_13 : decode cX3_checkRoom 13 = .ok (.new 67, 3) := by decide +kernel
theorem dX3_checkRoom_16 : decode cX3_checkRoom 16 = .ok (.dup, 1) := by decide +kernel
theorem dX3_checkRoom_17 : decode cX3_checkRoom 17 = .ok (.ldc 197, 2) := by decide +kernel
theorem dX3_checkRoom_19 : decode cX3_checkRoom 19 = .ok (.invokespecial 71, 3) := by decide +kernel
theorem dX3_checkRoom_22 : decode cX3_checkRoom 22 = .ok (.athrow, 1) := by decide +kernel
theorem dX3_checkRoom_23 : decode cX3_checkRoom 23 = .ok (.return_, 1) := by decide +kernel
set_option maxRecDepth 20000 in
theorem ggX3_grow_X2_find : GoodIn wsX3_grow wsX2_find := goodIn_r _ [6, 7, 8, 9, 10, 11, 74, 75, 76, 77, 78, 79, 80] (by decide +kernel) (by decide +kernel)
set_option maxRecDepth 20000 in
theorem gX3_grow_X2_find : GoodIn wsX3_grow (wsV RX3 199 RX2 yX2_find wsX2_find) := goodIn_app (goodIn_of _ (by decide +kernel)) ggX3_grow_X2_find
set_option maxRecDepth 20000 in
theorem ggX3_grow_X2_make : GoodIn wsX3_grow wsX2_make := goodIn_r _ [15, 7, 16, 17, 8, 9, 10, 11, 74, 75, 76, 77, 78, 79, 80] (by decide +kernel) (by decide +kernel)
set_option maxRecDepth 20000 in
theorem gX3_grow_X2_make : GoodIn wsX3_grow (wsV RX3 203 RX2 yX2_make wsX2_make) := goodIn_app (goodIn_of _ (by decide +kernel)) ggX3_grow_X2_make
set_option maxRecDepth 20000 in
theorem ggX3_grow_X1_append : GoodIn wsX3_grow wsX1_append := goodIn_r _ [22, 23, 24, 25, 26, 21, 27, 28, 29, 30, 31, 32, 33, 34, 35, 36, 37, 38, 39, 40, 41, 42, 43, 44, 45, 46, 47, 48, 49, 50, 51, 52, 53, 54, 55, 56, 57, 58, 59, 60, 61, 62, 63, 64, 65, 5, 66, 11, 16, 17, 67, 68, 69, 70, 81, 82, 83, 84, 85, 86, 87, 88, 74, 75, 76, 77, 78, 79, 80] (by decide +kernel) (by decide +kernel)
set_option maxRecDepth 20000 in
theorem gX3_grow_X1_append : GoodIn wsX3_grow (wsV RX3 206 RX1 yX1_append wsX1_append) := goodIn_app (goodIn_of _ (by decide +kernel)) ggX3_grow_X1_append
theorem dX3_grow_0 : decode cX3_grow 0 = .ok (.aload_n 0, 1) := by decide +kernel
theorem dX3_grow_1 : decode cX3_grow 1 = .ok (.getfield 10, 3) := by decide +kernel
theorem dX3_grow_4 : decode cX3_grow 4 = .ok (.iload_n 2, 1) := by decide +kernel
theorem dX3_grow_5 : decode cX3_grow 5 = .ok (.iload_n 3, 1) := by decide +kernel
theorem dX3_grow_6 : decode cX3_grow 6 = .ok (.iload 4, 2) := by decide +kernel
theorem dX3_grow_8 : decode cX3_grow 8 = .ok (.iload 5, 2) := by decide +kernel
theorem dX3_grow_10 : decode cX3_grow 10 = .ok (.invokevirtual 199, 3) := by decide +kernel
theorem dX3_grow_13 : decode cX3_grow 13 = .ok (.istore 6, 2) := by decide +kernel
theorem dX3_grow_15 : decode cX3_grow 15 = .ok (.iload 6, 2) := by decide +kernel
theorem dX3_grow_17 : decode cX3_grow 17 = .ok (.iconst (-1), 1) := by decide +kernel
theorem dX3_grow_18 : decode cX3_grow 18 = .ok (.if_icmp .ne 18, 3) := by decide +kernel
theorem dX3_grow_21 : decode cX3_grow 21 = .ok (.aload_n 0, 1) := by decide +kernel
theorem dX3_grow_22 : decode cX3_grow 22 = .ok (.getfield 10, 3) := by decide +kernel
theorem dX3_grow_25 : decode cX3_grow 25 = .ok (.iload_n 2, 1) := by decide +kernel
theorem dX3_grow_26 : decode cX3_grow 26 = .ok (.iload_n 3, 1) := by decide +kernel
theorem dX3_grow_27 : decode cX3_grow 27 = .ok (.iload 4, 2) := by decide +kernel
theorem dX3_grow_29 : decode cX3_grow 29 = .ok (.iload 5, 2) := by decide +kernel
theorem dX3_grow_31 : decode cX3_grow 31 = .ok (.invokevirtual 203, 3) := by decide +kernel
theorem dX3_grow_34 : decode cX3_grow 34 = .ok (.istore 6, 2) := by decide +kernel
theorem dX3_grow_36 : decode cX3_grow 36 = .ok (.aload_n 1, 1) := by decide +kernel
theorem dX3_grow_37 : decode cX3_grow 37 = .ok (.aload_n 0, 1) := by decide +kernel
theorem dX3_grow_38 : decode cX3_grow 38 = .ok (.getfield 10, 3) := by decide +kernel
theorem dX3_grow_41 : decode cX3_grow 41 = .ok (.iload 6, 2) := by decide +kernel
theorem dX3_grow_43 : decode cX3_grow 43 = .ok (.invokevirtual 206, 3) := by decide +kernel
theorem dX3_grow_46 : decode cX3_grow 46 = .ok (.iload 6, 2) := by decide +kernel
theorem dX3_grow_48 : decode cX3_grow 48 = .ok (.ireturn, 1) := by decide +kernel
set_option maxRecDepth 20000 in
theorem ggX3_commonCheckpoint_X3_pairOf : GoodIn wsX3_commonCheckpoint wsX3_pairOf := goodIn_r _ [9] (by decide +kernel) (by decide +kernel)
set_option maxRecDepth 20000 in
theorem gX3_commonCheckpoint_X3_pairOf : GoodIn wsX3_commonCheckpoint (va_wsS RX3 121 yX3_pairOf wsX3_pairOf) := goodIn_app (goodIn_of _ (by decide +kernel)) ggX3_commonCheckpoint_X3_pairOf
theorem dX3_commonCheckpoint_0 : decode cX3_commonCheckpoint 0 = .ok (.iload_n 1, 1) := by decide +kernel
theorem dX3_commonCheckpoint_1 : decode cX3_commonCheckpoint 1 = .ok (.iload_n 2, 1) := by decide +kernel
theorem dX3_commonCheckpoint_2 : decode cX3_commonCheckpoint 2 = .ok (.invokestatic 121, 3) := by decide +kernel
theorem dX3_commonCheckpoint_5 : decode cX3_commonCheckpoint 5 = .ok (.istore_n 3, 1) := by decide +kernel
theorem dX3_commonCheckpoint_6 : decode cX3_commonCheckpoint 6 = .ok (.aload_n 0, 1) := by decide +kernel
theorem dX3_commonCheckpoint_7 : decode cX3_commonCheckpoint 7 = .ok (.getfield 18, 3) := by decide +kernel
theorem dX3_commonCheckpoint_10 : decode cX3_commonCheckpoint 10 = .ok (.iload_n 1, 1) := by decide +kernel
theorem dX3_commonCheckpoint_11 : decode cX3_commonCheckpoint 11 = .ok (.aaload, 1) := by decide +kernel
theorem dX3_commonCheckpoint_12 : decode cX3_commonCheckpoint 12 = .ok (.getfield 118, 3) := by decide +kernel
theorem dX3_commonCheckpoint_15 : decode cX3_commonCheckpoint 15 = .ok (.iload_n 3, 1) := by decide +kernel
theorem dX3_commonCheckpoint_16 : decode cX3_commonCheckpoint 16 = .ok (.iaload, 1) := by decide +kernel
theorem dX3_commonCheckpoint_17 : decode cX3_commonCheckpoint 17 = .ok (.aload_n 0, 1) := by decide +kernel
theorem dX3_commonCheckpoint_18 : decode cX3_commonCheckpoint 18 = .ok (.getfield 18, 3) := by decide +kernel
theorem dX3_commonCheckpoint_21 : decode cX3_commonCheckpoint 21 = .ok (.iload_n 2, 1) := by decide +kernel
theorem dX3_commonCheckpoint_22 : decode cX3_commonCheckpoint 22 = .ok (.aaload, 1) := by decide +kernel
theorem dX3_commonCheckpoint_23 : decode cX3_commonCheckpoint 23 = .ok (.getfield 118, 3) := by decide +kernel
theorem dX3_commonCheckpoint_26 : decode cX3_commonCheckpoint 26 = .ok (.iload_n 3, 1) := by decide +kernel
theorem dX3_commonCheckpoint_27 : decode cX3_commonCheckpoint 27 = .ok (.iaload, 1) := by decide +kernel
theorem dX3_commonCheckpoint_28 : decode cX3_commonCheckpoint 28 = .ok (.invokestatic 210, 3) := by decide +kernel
theorem dX3_commonCheckpoint_31 : decode cX3_commonCheckpoint 31 = .ok (.ireturn, 1) := by decide +kernel
theorem dX3_pairOf_0 : decode cX3_pairOf 0 = .ok (.iload_n 0, 1) := by decide +kernel
theorem dX3_pairOf_1 : decode cX3_pairOf 1 = .ok (.iconst 3, 1) := by decide +kernel
theorem dX3_pairOf_2 : decode cX3_pairOf 2 = .ok (.imul, 1) := by decide +kernel
theorem dX3_pairOf_3 : decode cX3_pairOf 3 = .ok (.iload_n 1, 1) := by decide +kernel
theorem dX3_pairOf_4 : decode cX3_pairOf 4 = .ok (.iadd, 1) := by decide +kernel
theorem dX3_pairOf_5 : decode cX3_pairOf 5 = .ok (.ireturn, 1) := by decide +kernel
theorem dJ9_max_7cf53_0 : decode cJ9_max_7cf53 0 = .ok (.iload_n 0, 1) := by decide +kernel
theorem dJ9_max_7cf53_1 : decode cJ9_max_7cf53 1 = .ok (.iload_n 1, 1) := by decide +kernel
theorem dJ9_max_7cf53_2 : decode cJ9_max_7cf53 2 = .ok (.if_icmp .lt 7, 3) := by decide +kernel
theorem dJ9_max_7cf53_5 : decode cJ9_max_7cf53 5 = .ok (.iload_n 0, 1) := by decide +kernel
theorem dJ9_max_7cf53_6 : decode cJ9_max_7cf53 6 = .ok (.goto 4, 3) := by decide +kernel
theorem dJ9_max_7cf53_9 : decode cJ9_max_7cf53 9 = .ok (.iload_n 1, 1) := by decide +kernel
theorem dJ9_max_7cf53_10 : decode cJ9_max_7cf53 10 = .ok (.ireturn, 1) := by decide +kernel
theorem dJ9_min_7cf53_0 : decode cJ9_min_7cf53 0 = .ok (.iload_n 0, 1) := by decide +kernel
theorem dJ9_min_7cf53_1 : decode cJ9_min_7cf53 1 = .ok (.iload_n 1, 1) := by decide +kernel
theorem dJ9_min_7cf53_2 : decode cJ9_min_7cf53 2 = .ok (.if_icmp .gt 7, 3) := by decide +kernel
theorem dJ9_min_7cf53_5 : decode cJ9_min_7cf53 5 = .ok (.iload_n 0, 1) := by decide +kernel
theorem dJ9_min_7cf53_6 : decode cJ9_min_7cf53 6 = .ok (.goto 4, 3) := by decide +kernel
theorem dJ9_min_7cf53_9 : decode cJ9_min_7cf53 9 = .ok (.iload_n 1, 1) := by decide +kernel
theorem dJ9_min_7cf53_10 : decode cJ9_min_7cf53 10 = .ok (.ireturn, 1) := by decide +kernel
theorem dJ7_fill_53178_0 : decode cJ7_fill_53178 0 = .ok (.iconst 0, 1) := by decide +kernel
theorem dJ7_fill_53178_1 : decode cJ7_fill_53178 1 = .ok (.istore_n 2, 1) := by decide +kernel
theorem dJ7_fill_53178_2 : decode cJ7_fill_53178 2 = .ok (.aload_n 0, 1) := by decide +kernel
theorem dJ7_fill_53178_3 : decode cJ7_fill_53178 3 = .ok (.arraylength, 1) := by decide +kernel
theorem dJ7_fill_53178_4 : decode cJ7_fill_53178 4 = .ok (.istore_n 3, 1) := by decide +kernel
theorem dJ7_fill_53178_5 : decode cJ7_fill_53178 5 = .ok (.iload_n 2, 1) := by decide +kernel
theorem dJ7_fill_53178_6 : decode cJ7_fill_53178 6 = .ok (.iload_n 3, 1) := by decide +kernel
theorem dJ7_fill_53178_7 : decode cJ7_fill_53178 7 = .ok (.if_icmp .ge 13, 3) := by decide +kernel
theorem dJ7_fill_53178_10 : decode cJ7_fill_53178 10 = .ok (.aload_n 0, 1) := by decide +kernel
theorem dJ7_fill_53178_11 : decode cJ7_fill_53178 11 = .ok (.iload_n 2, 1) := by decide +kernel
theorem dJ7_fill_53178_12 : decode cJ7_fill_53178 12 = .ok (.iload_n 1, 1) := by decide +kernel
theorem dJ7_fill_53178_13 : decode cJ7_fill_53178 13 = .ok (.iastore, 1) := by decide +kernel
theorem dJ7_fill_53178_14 : decode cJ7_fill_53178 14 = .ok (.iinc 2 1, 3) := by decide +kernel
theorem dJ7_fill_53178_17 : decode cJ7_fill_53178 17 = .ok (.goto (-12), 3) := by decide +kernel
theorem dJ7_fill_53178_20 : decode cJ7_fill_53178 20 = .ok (.return_, 1) := by decide +kernel
end
section
theorem goodIn_td {big ws : List Cond} (k : Nat) (h1 : GoodIn big (ws.take k)) (h2 : GoodIn big (ws.drop k)) : GoodIn big ws := by
  intro w hw
  rw [← List.take_append_drop k ws] at hw
  exact (List.mem_append.mp hw).elim (h1 w) (h2 w)
theorem goodIn_1 {big ws : List Cond} {w : Cond} (i : Nat) (hw : ws = [w]) (h : big[i]? = some w) (hg : goodWord w = true) : GoodIn big ws := by
  intro v hv
  rw [hw] at hv
  rw [List.mem_singleton.mp hv]
  exact ⟨List.mem_of_getElem? h, good_of_word hg⟩
theorem dL_from_0 : decode cL_from 0 = .ok (.aload_n 0, 1) := by decide +kernel
theorem dL_from_1 : decode cL_from 1 = .ok (.arraylength, 1) := by decide +kernel
theorem dL_from_2 : decode cL_from 2 = .ok (.ifCond .ne 14, 3) := by decide +kernel
theorem dL_from_5 : decode cL_from 5 = .ok (.sipush 137, 3) := by decide +kernel
theorem dL_from_8 : decode cL_from 8 = .ok (.iload_n 1, 1) := by decide +kernel
theorem dL_from_9 : decode cL_from 9 = .ok (.imul, 1) := by decide +kernel
theorem dL_from_10 : decode cL_from 10 = .ok (.bipush 107, 2) := by decide +kernel
theorem dL_from_12 : decode cL_from 12 = .ok (.iadd, 1) := by decide +kernel
theorem dL_from_13 : decode cL_from 13 = .ok (.goto 14, 3) := by decide +kernel
theorem dL_from_16 : decode cL_from 16 = .ok (.aload_n 0, 1) := by decide +kernel
theorem dL_from_17 : decode cL_from 17 = .ok (.iload_n 1, 1) := by decide +kernel
theorem dL_from_18 : decode cL_from 18 = .ok (.aload_n 0, 1) := by decide +kernel
theorem dL_from_19 : decode cL_from 19 = .ok (.arraylength, 1) := by decide +kernel
theorem dL_from_20 : decode cL_from 20 = .ok (.irem, 1) := by decide +kernel
theorem dL_from_21 : decode cL_from 21 = .ok (.iaload, 1) := by decide +kernel
theorem dL_from_22 : decode cL_from 22 = .ok (.ldc 7, 2) := by decide +kernel
theorem dL_from_24 : decode cL_from 24 = .ok (.iload_n 1, 1) := by decide +kernel
theorem dL_from_25 : decode cL_from 25 = .ok (.imul, 1) := by decide +kernel
theorem dL_from_26 : decode cL_from 26 = .ok (.ixor, 1) := by decide +kernel
theorem dL_from_27 : decode cL_from 27 = .ok (.istore_n 3, 1) := by decide +kernel
theorem dL_from_28 : decode cL_from 28 = .ok (.iload_n 3, 1) := by decide +kernel
theorem dL_from_29 : decode cL_from 29 = .ok (.ldc 8, 2) := by decide +kernel
theorem dL_from_31 : decode cL_from 31 = .ok (.iand, 1) := by decide +kernel
theorem dL_from_32 : decode cL_from 32 = .ok (.iload_n 2, 1) := by decide +kernel
theorem dL_from_33 : decode cL_from 33 = .ok (.irem, 1) := by decide +kernel
theorem dL_from_34 : decode cL_from 34 = .ok (.ireturn, 1) := by decide +kernel
theorem dL_leaves_0 : decode cL_leaves 0 = .ok (.iconst 0, 1) := by decide +kernel
theorem dL_leaves_1 : decode cL_leaves 1 = .ok (.istore 5, 2) := by decide +kernel
theorem dL_leaves_3 : decode cL_leaves 3 = .ok (.aload_n 2, 1) := by decide +kernel
theorem dL_leaves_4 : decode cL_leaves 4 = .ok (.iconst 0, 1) := by decide +kernel
theorem dL_leaves_5 : decode cL_leaves 5 = .ok (.iaload, 1) := by decide +kernel
theorem dL_leaves_6 : decode cL_leaves 6 = .ok (.iconst 1, 1) := by decide +kernel
theorem dL_leaves_7 : decode cL_leaves 7 = .ok (.isub, 1) := by decide +kernel
theorem dL_leaves_8 : decode cL_leaves 8 = .ok (.istore 6, 2) := by decide +kernel
theorem dL_leaves_10 : decode cL_leaves 10 = .ok (.iload 6, 2) := by decide +kernel
theorem dL_leaves_12 : decode cL_leaves 12 = .ok (.ifCond .lt 88, 3) := by decide +kernel
theorem dL_leaves_15 : decode cL_leaves 15 = .ok (.iconst 0, 1) := by decide +kernel
theorem dL_leaves_16 : decode cL_leaves 16 = .ok (.istore 7, 2) := by decide +kernel
theorem dL_leaves_18 : decode cL_leaves 18 = .ok (.iload 6, 2) := by decide +kernel
theorem dL_leaves_20 : decode cL_leaves 20 = .ok (.iconst 1, 1) := by decide +kernel
theorem dL_leaves_21 : decode cL_leaves 21 = .ok (.iadd, 1) := by decide +kernel
theorem dL_leaves_22 : decode cL_leaves 22 = .ok (.istore 8, 2) := by decide +kernel
theorem dL_leaves_24 : decode cL_leaves 24 = .ok (.iload 8, 2) := by decide +kernel
theorem dL_leaves_26 : decode cL_leaves 26 = .ok (.aload_n 2, 1) := by decide +kernel
theorem dL_leaves_27 : decode cL_leaves 27 = .ok (.iconst 0, 1) := by decide +kernel
theorem dL_leaves_28 : decode cL_leaves 28 = .ok (.iaload, 1) := by decide +kernel
theorem dL_leaves_29 : decode cL_leaves 29 = .ok (.if_icmp .ge 26, 3) := by decide +kernel
theorem dL_leaves_32 : decode cL_leaves 32 = .ok (.iload 7, 2) := by decide +kernel
theorem dL_leaves_34 : decode cL_leaves 34 = .ok (.aload_n 1, 1) := by decide +kernel
theorem dL_leaves_35 : decode cL_leaves 35 = .ok (.iload 8, 2) := by decide +kernel
theorem dL_leaves_37 : decode cL_leaves 37 = .ok (.iaload, 1) := by decide +kernel
theorem dL_leaves_38 : decode cL_leaves 38 = .ok (.iload 6, 2) := by decide +kernel
theorem dL_leaves_40 : decode cL_leaves 40 = .ok (.ishr, 1) := by decide +kernel
theorem dL_leaves_41 : decode cL_leaves 41 = .ok (.iconst 1, 1) := by decide +kernel
theorem dL_leaves_42 : decode cL_leaves 42 = .ok (.iand, 1) := by decide +kernel
theorem dL_leaves_43 : decode cL_leaves 43 = .ok (.iload 8, 2) := by decide +kernel
theorem dL_leaves_45 : decode cL_leaves 45 = .ok (.ishl, 1) := by decide +kernel
theorem dL_leaves_46 : decode cL_leaves 46 = .ok (.ior, 1) := by decide +kernel
theorem dL_leaves_47 : decode cL_leaves 47 = .ok (.istore 7, 2) := by decide +kernel
theorem dL_leaves_49 : decode cL_leaves 49 = .ok (.iinc 8 1, 3) := by decide +kernel
theorem dL_leaves_52 : decode cL_leaves 52 = .ok (.goto (-28), 3) := by decide +kernel
theorem dL_leaves_55 : decode cL_leaves 55 = .ok (.iload 5, 2) := by decide +kernel
theorem dL_leaves_57 : decode cL_leaves 57 = .ok (.iload_n 3, 1) := by decide +kernel
theorem dL_leaves_58 : decode cL_leaves 58 = .ok (.iload 6, 2) := by decide +kernel
theorem dL_leaves_60 : decode cL_leaves 60 = .ok (.ishr, 1) := by decide +kernel
theorem dL_leaves_61 : decode cL_leaves 61 = .ok (.iconst 1, 1) := by decide +kernel
theorem dL_leaves_62 : decode cL_leaves 62 = .ok (.iand, 1) := by decide +kernel
theorem dL_leaves_63 : decode cL_leaves 63 = .ok (.iconst 1, 1) := by decide +kernel
theorem dL_leaves_64 : decode cL_leaves 64 = .ok (.if_icmp .ne 26, 3) := by decide +kernel
theorem dL_leaves_67 : decode cL_leaves 67 = .ok (.aload_n 0, 1) := by decide +kernel
theorem dL_leaves_68 : decode cL_leaves 68 = .ok (.iload 6, 2) := by decide +kernel
theorem dL_leaves_70 : decode cL_leaves 70 = .ok (.iaload, 1) := by decide +kernel
theorem dL_leaves_71 : decode cL_leaves 71 = .ok (.iload 4, 2) := by decide +kernel
theorem dL_leaves_73 : decode cL_leaves 73 = .ok (.if_icmp .ne 17, 3) := by decide +kernel
theorem dL_leaves_76 : decode cL_leaves 76 = .ok (.iload 7, 2) := by decide +kernel
theorem dL_leaves_78 : decode cL_leaves 78 = .ok (.iload_n 3, 1) := by decide +kernel
theorem dL_leaves_79 : decode cL_leaves 79 = .ok (.iand, 1) := by decide +kernel
theorem dL_leaves_80 : decode cL_leaves 80 = .ok (.ifCond .ne 10, 3) := by decide +kernel
theorem dL_leaves_83 : decode cL_leaves 83 = .ok (.iconst 1, 1) := by decide +kernel
theorem dL_leaves_84 : decode cL_leaves 84 = .ok (.iload 6, 2) := by decide +kernel
theorem dL_leaves_86 : decode cL_leaves 86 = .ok (.ishl, 1) := by decide +kernel
theorem dL_leaves_87 : decode cL_leaves 87 = .ok (.goto 4, 3) := by decide +kernel
theorem dL_leaves_90 : decode cL_leaves 90 = .ok (.iconst 0, 1) := by decide +kernel
theorem dL_leaves_91 : decode cL_leaves 91 = .ok (.ior, 1) := by decide +kernel
theorem dL_leaves_92 : decode cL_leaves 92 = .ok (.istore 5, 2) := by decide +kernel
theorem dL_leaves_94 : decode cL_leaves 94 = .ok (.iinc 6 (-1), 3) := by decide +kernel
theorem dL_leaves_97 : decode cL_leaves 97 = .ok (.goto (-87), 3) := by decide +kernel
theorem dL_leaves_100 : decode cL_leaves 100 = .ok (.iload 5, 2) := by decide +kernel
theorem dL_leaves_102 : decode cL_leaves 102 = .ok (.ireturn, 1) := by decide +kernel
theorem dL_rank_0 : decode cL_rank 0 = .ok (.aload_n 0, 1) := by decide +kernel
theorem dL_rank_1 : decode cL_rank 1 = .ok (.iload_n 3, 1) := by decide +kernel
theorem dL_rank_2 : decode cL_rank 2 = .ok (.iaload, 1) := by decide +kernel
theorem dL_rank_3 : decode cL_rank 3 = .ok (.ifCond .lt 8, 3) := by decide +kernel
theorem dL_rank_6 : decode cL_rank 6 = .ok (.bipush 64, 2) := by decide +kernel
theorem dL_rank_8 : decode cL_rank 8 = .ok (.goto 4, 3) := by decide +kernel
theorem dL_rank_11 : decode cL_rank 11 = .ok (.iconst 0, 1) := by decide +kernel
theorem dL_rank_12 : decode cL_rank 12 = .ok (.aload_n 1, 1) := by decide +kernel
theorem dL_rank_13 : decode cL_rank 13 = .ok (.iload_n 3, 1) := by decide +kernel
theorem dL_rank_14 : decode cL_rank 14 = .ok (.iaload, 1) := by decide +kernel
theorem dL_rank_15 : decode cL_rank 15 = .ok (.iadd, 1) := by decide +kernel
theorem dL_rank_16 : decode cL_rank 16 = .ok (.sipush 1000, 3) := by decide +kernel
theorem dL_rank_19 : decode cL_rank 19 = .ok (.imul, 1) := by decide +kernel
theorem dL_rank_20 : decode cL_rank 20 = .ok (.aload_n 2, 1) := by decide +kernel
theorem dL_rank_21 : decode cL_rank 21 = .ok (.iload_n 3, 1) := by decide +kernel
theorem dL_rank_22 : decode cL_rank 22 = .ok (.iaload, 1) := by decide +kernel
theorem dL_rank_23 : decode cL_rank 23 = .ok (.iadd, 1) := by decide +kernel
theorem dL_rank_24 : decode cL_rank 24 = .ok (.ireturn, 1) := by decide +kernel
set_option maxRecDepth 20000 in
theorem ggL_winner_L_leaves : GoodIn wsL_winner wsL_leaves := goodIn_r _ [4] (by decide +kernel) (by decide +kernel)
set_option maxRecDepth 20000 in
theorem gL_winner_L_leaves : GoodIn wsL_winner (va_wsS RL 9 yL_leaves wsL_leaves) := goodIn_app (goodIn_of _ (by decide +kernel)) ggL_winner_L_leaves
set_option maxRecDepth 20000 in
theorem ggL_winner_L_rank : GoodIn wsL_winner wsL_rank := goodIn_r _ [7] (by decide +kernel) (by decide +kernel)
set_option maxRecDepth 20000 in
theorem gL_winner_L_rank : GoodIn wsL_winner (va_wsS RL 15 yL_rank wsL_rank) := goodIn_app (goodIn_of _ (by decide +kernel)) ggL_winner_L_rank
theorem dL_winner_0 : decode cL_winner 0 = .ok (.aload_n 0, 1) := by decide +kernel
theorem dL_winner_1 : decode cL_winner 1 = .ok (.aload 4, 2) := by decide +kernel
theorem dL_winner_3 : decode cL_winner 3 = .ok (.aload 5, 2) := by decide +kernel
theorem dL_winner_5 : decode cL_winner 5 = .ok (.iload 6, 2) := by decide +kernel
theorem dL_winner_7 : decode cL_winner 7 = .ok (.iload 7, 2) := by decide +kernel
theorem dL_winner_9 : decode cL_winner 9 = .ok (.invokestatic 9, 3) := by decide +kernel
theorem dL_winner_12 : decode cL_winner 12 = .ok (.istore 8, 2) := by decide +kernel
theorem dL_winner_14 : decode cL_winner 14 = .ok (.iconst (-1), 1) := by decide +kernel
theorem dL_winner_15 : decode cL_winner 15 = .ok (.istore 9, 2) := by decide +kernel
theorem dL_winner_17 : decode cL_winner 17 = .ok (.iconst 0, 1) := by decide +kernel
theorem dL_winner_18 : decode cL_winner 18 = .ok (.istore 10, 2) := by decide +kernel
theorem dL_winner_20 : decode cL_winner 20 = .ok (.iload 10, 2) := by decide +kernel
theorem dL_winner_22 : decode cL_winner 22 = .ok (.aload 5, 2) := by decide +kernel
theorem dL_winner_24 : decode cL_winner 24 = .ok (.iconst 0, 1) := by decide +kernel
theorem dL_winner_25 : decode cL_winner 25 = .ok (.iaload, 1) := by decide +kernel
theorem dL_winner_26 : decode cL_winner 26 = .ok (.if_icmp .ge 53, 3) := by decide +kernel
theorem dL_winner_29 : decode cL_winner 29 = .ok (.iload 8, 2) := by decide +kernel
theorem dL_winner_31 : decode cL_winner 31 = .ok (.iload 10, 2) := by decide +kernel
theorem dL_winner_33 : decode cL_winner 33 = .ok (.ishr, 1) := by decide +kernel
theorem dL_winner_34 : decode cL_winner 34 = .ok (.iconst 1, 1) := by decide +kernel
theorem dL_winner_35 : decode cL_winner 35 = .ok (.iand, 1) := by decide +kernel
theorem dL_winner_36 : decode cL_winner 36 = .ok (.iconst 1, 1) := by decide +kernel
theorem dL_winner_37 : decode cL_winner 37 = .ok (.if_icmp .ne 32, 3) := by decide +kernel
theorem dL_winner_40 : decode cL_winner 40 = .ok (.iload 9, 2) := by decide +kernel
theorem dL_winner_42 : decode cL_winner 42 = .ok (.ifCond .lt 22, 3) := by decide +kernel
theorem dL_winner_45 : decode cL_winner 45 = .ok (.aload_n 1, 1) := by decide +kernel
theorem dL_winner_46 : decode cL_winner 46 = .ok (.aload_n 2, 1) := by decide +kernel
theorem dL_winner_47 : decode cL_winner 47 = .ok (.aload_n 3, 1) := by decide +kernel
theorem dL_winner_48 : decode cL_winner 48 = .ok (.iload 10, 2) := by decide +kernel
theorem dL_winner_50 : decode cL_winner 50 = .ok (.invokestatic 15, 3) := by decide +kernel
theorem dL_winner_53 : decode cL_winner 53 = .ok (.aload_n 1, 1) := by decide +kernel
theorem dL_winner_54 : decode cL_winner 54 = .ok (.aload_n 2, 1) := by decide +kernel
theorem dL_winner_55 : decode cL_winner 55 = .ok (.aload_n 3, 1) := by decide +kernel
theorem dL_winner_56 : decode cL_winner 56 = .ok (.iload 9, 2) := by decide +kernel
theorem dL_winner_58 : decode cL_winner 58 = .ok (.invokestatic 15, 3) := by decide +kernel
theorem dL_winner_61 : decode cL_winner 61 = .ok (.if_icmp .le 8, 3) := by decide +kernel
theorem dL_winner_64 : decode cL_winner 64 = .ok (.iload 10, 2) := by decide +kernel
theorem dL_winner_66 : decode cL_winner 66 = .ok (.goto 5, 3) := by decide +kernel
theorem dL_winner_69 : decode cL_winner 69 = .ok (.iload 9, 2) := by decide +kernel
theorem dL_winner_71 : decode cL_winner 71 = .ok (.istore 9, 2) := by decide +kernel
theorem dL_winner_73 : decode cL_winner 73 = .ok (.iinc 10 1, 3) := by decide +kernel
theorem dL_winner_76 : decode cL_winner 76 = .ok (.goto (-56), 3) := by decide +kernel
theorem dL_winner_79 : decode cL_winner 79 = .ok (.iload 9, 2) := by decide +kernel
theorem dL_winner_81 : decode cL_winner 81 = .ok (.ireturn, 1) := by decide +kernel
theorem dL_ones_0 : decode cL_ones 0 = .ok (.iconst 0, 1) := by decide +kernel
theorem dL_ones_1 : decode cL_ones 1 = .ok (.istore_n 1, 1) := by decide +kernel
theorem dL_ones_2 : decode cL_ones 2 = .ok (.iload_n 0, 1) := by decide +kernel
theorem dL_ones_3 : decode cL_ones 3 = .ok (.istore_n 2, 1) := by decide +kernel
theorem dL_ones_4 : decode cL_ones 4 = .ok (.iload_n 2, 1) := by decide +kernel
theorem dL_ones_5 : decode cL_ones 5 = .ok (.ifCond .eq 15, 3) := by decide +kernel
theorem dL_ones_8 : decode cL_ones 8 = .ok (.iinc 1 1, 3) := by decide +kernel
theorem dL_ones_11 : decode cL_ones 11 = .ok (.iload_n 2, 1) := by decide +kernel
theorem dL_ones_12 : decode cL_ones 12 = .ok (.iload_n 2, 1) := by decide +kernel
theorem dL_ones_13 : decode cL_ones 13 = .ok (.iconst 1, 1) := by decide +kernel
theorem dL_ones_14 : decode cL_ones 14 = .ok (.isub, 1) := by decide +kernel
theorem dL_ones_15 : decode cL_ones 15 = .ok (.iand, 1) := by decide +kernel
theorem dL_ones_16 : decode cL_ones 16 = .ok (.istore_n 2, 1) := by decide +kernel
theorem dL_ones_17 : decode cL_ones 17 = .ok (.goto (-13), 3) := by decide +kernel
theorem dL_ones_20 : decode cL_ones 20 = .ok (.iload_n 1, 1) := by decide +kernel
theorem dL_ones_21 : decode cL_ones 21 = .ok (.ireturn, 1) := by decide +kernel
set_option maxRecDepth 20000 in
theorem ggL_deep_L_leaves : GoodIn wsL_deep wsL_leaves := goodIn_r _ [4] (by decide +kernel) (by decide +kernel)
set_option maxRecDepth 20000 in
theorem gL_deep_L_leaves : GoodIn wsL_deep (va_wsS RL 9 yL_leaves wsL_leaves) := goodIn_app (goodIn_of _ (by decide +kernel)) ggL_deep_L_leaves
theorem dL_deep_0 : decode cL_deep 0 = .ok (.iconst 0, 1) := by decide +kernel
theorem dL_deep_1 : decode cL_deep 1 = .ok (.istore 6, 2) := by decide +kernel
theorem dL_deep_3 : decode cL_deep 3 = .ok (.iconst 0, 1) := by decide +kernel
theorem dL_deep_4 : decode cL_deep 4 = .ok (.istore 7, 2) := by decide +kernel
theorem dL_deep_6 : decode cL_deep 6 = .ok (.iload 7, 2) := by decide +kernel
theorem dL_deep_8 : decode cL_deep 8 = .ok (.aload_n 3, 1) := by decide +kernel
theorem dL_deep_9 : decode cL_deep 9 = .ok (.iconst 0, 1) := by decide +kernel
theorem dL_deep_10 : decode cL_deep 10 = .ok (.iaload, 1) := by decide +kernel
theorem dL_deep_11 : decode cL_deep 11 = .ok (.if_icmp .ge 155, 3) := by decide +kernel
theorem dL_deep_14 : decode cL_deep 14 = .ok (.aload_n 0, 1) := by decide +kernel
theorem dL_deep_15 : decode cL_deep 15 = .ok (.aload_n 2, 1) := by decide +kernel
theorem dL_deep_16 : decode cL_deep 16 = .ok (.aload_n 3, 1) := by decide +kernel
theorem dL_deep_17 : decode cL_deep 17 = .ok (.iload 4, 2) := by decide +kernel
theorem dL_deep_19 : decode cL_deep 19 = .ok (.aload_n 0, 1) := by decide +kernel
theorem dL_deep_20 : decode cL_deep 20 = .ok (.iload 7, 2) := by decide +kernel
theorem dL_deep_22 : decode cL_deep 22 = .ok (.iaload, 1) := by decide +kernel
theorem dL_deep_23 : decode cL_deep 23 = .ok (.invokestatic 9, 3) := by decide +kernel
theorem dL_deep_26 : decode cL_deep 26 = .ok (.istore 8, 2) := by decide +kernel
theorem dL_deep_28 : decode cL_deep 28 = .ok (.iconst 0, 1) := by decide +kernel
theorem dL_deep_29 : decode cL_deep 29 = .ok (.istore 9, 2) := by decide +kernel
theorem dL_deep_31 : decode cL_deep 31 = .ok (.iconst 0, 1) := by decide +kernel
theorem dL_deep_32 : decode cL_deep 32 = .ok (.istore 10, 2) := by decide +kernel
theorem dL_deep_34 : decode cL_deep 34 = .ok (.iconst 0, 1) := by decide +kernel
theorem dL_deep_35 : decode cL_deep 35 = .ok (.istore 11, 2) := by decide +kernel
theorem dL_deep_37 : decode cL_deep 37 = .ok (.iload 11, 2) := by decide +kernel
theorem dL_deep_39 : decode cL_deep 39 = .ok (.aload_n 3, 1) := by decide +kernel
theorem dL_deep_40 : decode cL_deep 40 = .ok (.iconst 0, 1) := by decide +kernel
theorem dL_deep_41 : decode cL_deep 41 = .ok (.iaload, 1) := by decide +kernel
theorem dL_deep_42 : decode cL_deep 42 = .ok (.if_icmp .ge 84, 3) := by decide +kernel
theorem dL_deep_45 : decode cL_deep 45 = .ok (.iload 8, 2) := by decide +kernel
theorem dL_deep_47 : decode cL_deep 47 = .ok (.iload 11, 2) := by decide +kernel
theorem dL_deep_49 : decode cL_deep 49 = .ok (.ishr, 1) := by decide +kernel
theorem dL_deep_50 : decode cL_deep 50 = .ok (.iconst 1, 1) := by decide +kernel
theorem dL_deep_51 : decode cL_deep 51 = .ok (.iand, 1) := by decide +kernel
theorem dL_deep_52 : decode cL_deep 52 = .ok (.iconst 1, 1) := by decide +kernel
theorem dL_deep_53 : decode cL_deep 53 = .ok (.if_icmp .ne 20, 3) := by decide +kernel
theorem dL_deep_56 : decode cL_deep 56 = .ok (.aload_n 2, 1) := by decide +kernel
theorem dL_deep_57 : decode cL_deep 57 = .ok (.iload 11, 2) := by decide +kernel
theorem dL_deep_59 : decode cL_deep 59 = .ok (.iaload, 1) := by decide +kernel
theorem dL_deep_60 : decode cL_deep 60 = .ok (.iload 7, 2) := by decide +kernel
theorem dL_deep_62 : decode cL_deep 62 = .ok (.ishr, 1) := by decide +kernel
theorem dL_deep_63 : decode cL_deep 63 = .ok (.iconst 1, 1) := by decide +kernel
theorem dL_deep_64 : decode cL_deep 64 = .ok (.iand, 1) := by decide +kernel
theorem dL_deep_65 : decode cL_deep 65 = .ok (.iconst 1, 1) := by decide +kernel
theorem dL_deep_66 : decode cL_deep 66 = .ok (.if_icmp .ne 7, 3) := by decide +kernel
theorem dL_deep_69 : decode cL_deep 69 = .ok (.iconst 1, 1) := by decide +kernel
theorem dL_deep_70 : decode cL_deep 70 = .ok (.goto 4, 3) := by decide +kernel
theorem dL_deep_73 : decode cL_deep 73 = .ok (.iconst 0, 1) := by decide +kernel
theorem dL_deep_74 : decode cL_deep 74 = .ok (.istore 12, 2) := by decide +kernel
theorem dL_deep_76 : decode cL_deep 76 = .ok (.iload 9, 2) := by decide +kernel
theorem dL_deep_78 : decode cL_deep 78 = .ok (.iload 12, 2) := by decide +kernel
theorem dL_deep_80 : decode cL_deep 80 = .ok (.ifCond .eq 7, 3) := by decide +kernel
theorem dL_deep_83 : decode cL_deep 83 = .ok (.iconst 1, 1) := by decide +kernel
theorem dL_deep_84 : decode cL_deep 84 = .ok (.goto 4, 3) := by decide +kernel
theorem dL_deep_87 : decode cL_deep 87 = .ok (.iconst 0, 1) := by decide +kernel
theorem dL_deep_88 : decode cL_deep 88 = .ok (.iadd, 1) := by decide +kernel
theorem dL_deep_89 : decode cL_deep 89 = .ok (.istore 9, 2) := by decide +kernel
theorem dL_deep_91 : decode cL_deep 91 = .ok (.iload 10, 2) := by decide +kernel
theorem dL_deep_93 : decode cL_deep 93 = .ok (.iload 12, 2) := by decide +kernel
theorem dL_deep_95 : decode cL_deep 95 = .ok (.ifCond .eq 21, 3) := by decide +kernel
theorem dL_deep_98 : decode cL_deep 98 = .ok (.aload_n 1, 1) := by decide +kernel
theorem dL_deep_99 : decode cL_deep 99 = .ok (.iload 11, 2) := by decide +kernel
theorem dL_deep_101 : decode cL_deep 101 = .ok (.iaload, 1) := by decide +kernel
theorem dL_deep_102 : decode cL_deep 102 = .ok (.aload_n 1, 1) := by decide +kernel
theorem dL_deep_103 : decode cL_deep 103 = .ok (.iload 7, 2) := by decide +kernel
theorem dL_deep_105 : decode cL_deep 105 = .ok (.iaload, 1) := by decide +kernel
theorem dL_deep_106 : decode cL_deep 106 = .ok (.isub, 1) := by decide +kernel
theorem dL_deep_107 : decode cL_deep 107 = .ok (.iload 5, 2) := by decide +kernel
theorem dL_deep_109 : decode cL_deep 109 = .ok (.if_icmp .ge 7, 3) := by decide +kernel
theorem dL_deep_112 : decode cL_deep 112 = .ok (.iconst 1, 1) := by decide +kernel
theorem dL_deep_113 : decode cL_deep 113 = .ok (.goto 4, 3) := by decide +kernel
theorem dL_deep_116 : decode cL_deep 116 = .ok (.iconst 0, 1) := by decide +kernel
theorem dL_deep_117 : decode cL_deep 117 = .ok (.iadd, 1) := by decide +kernel
theorem dL_deep_118 : decode cL_deep 118 = .ok (.istore 10, 2) := by decide +kernel
theorem dL_deep_120 : decode cL_deep 120 = .ok (.iinc 11 1, 3) := by decide +kernel
theorem dL_deep_123 : decode cL_deep 123 = .ok (.goto (-86), 3) := by decide +kernel
theorem dL_deep_126 : decode cL_deep 126 = .ok (.iload 6, 2) := by decide +kernel
theorem dL_deep_128 : decode cL_deep 128 = .ok (.iload 4, 2) := by decide +kernel
theorem dL_deep_130 : decode cL_deep 130 = .ok (.iload 7, 2) := by decide +kernel
theorem dL_deep_132 : decode cL_deep 132 = .ok (.ishr, 1) := by decide +kernel
theorem dL_deep_133 : decode cL_deep 133 = .ok (.iconst 1, 1) := by decide +kernel
theorem dL_deep_134 : decode cL_deep 134 = .ok (.iand, 1) := by decide +kernel
theorem dL_deep_135 : decode cL_deep 135 = .ok (.iconst 1, 1) := by decide +kernel
theorem dL_deep_136 : decode cL_deep 136 = .ok (.if_icmp .ne 20, 3) := by decide +kernel
theorem dL_deep_139 : decode cL_deep 139 = .ok (.iload 9, 2) := by decide +kernel
theorem dL_deep_141 : decode cL_deep 141 = .ok (.ifCond .le 15, 3) := by decide +kernel
theorem dL_deep_144 : decode cL_deep 144 = .ok (.iload 10, 2) := by decide +kernel
theorem dL_deep_146 : decode cL_deep 146 = .ok (.ifCond .ne 10, 3) := by decide +kernel
theorem dL_deep_149 : decode cL_deep 149 = .ok (.iconst 1, 1) := by decide +kernel
theorem dL_deep_150 : decode cL_deep 150 = .ok (.iload 7, 2) := by decide +kernel
theorem dL_deep_152 : decode cL_deep 152 = .ok (.ishl, 1) := by decide +kernel
theorem dL_deep_153 : decode cL_deep 153 = .ok (.goto 4, 3) := by decide +kernel
theorem dL_deep_156 : decode cL_deep 156 = .ok (.iconst 0, 1) := by decide +kernel
theorem dL_deep_157 : decode cL_deep 157 = .ok (.ior, 1) := by decide +kernel
theorem dL_deep_158 : decode cL_deep 158 = .ok (.istore 6, 2) := by decide +kernel
theorem dL_deep_160 : decode cL_deep 160 = .ok (.iinc 7 1, 3) := by decide +kernel
theorem dL_deep_163 : decode cL_deep 163 = .ok (.goto (-157), 3) := by decide +kernel
theorem dL_deep_166 : decode cL_deep 166 = .ok (.iload 6, 2) := by decide +kernel
theorem dL_deep_168 : decode cL_deep 168 = .ok (.ireturn, 1) := by decide +kernel
set_option maxRecDepth 20000 in
theorem ggL_stem_L_deep : GoodIn wsL_stem wsL_deep := goodIn_r _ [4, 5, 6, 3, 7] (by decide +kernel) (by decide +kernel)
set_option maxRecDepth 20000 in
theorem gL_stem_L_deep : GoodIn wsL_stem (va_wsS RL 19 yL_deep wsL_deep) := goodIn_app (goodIn_of _ (by decide +kernel)) ggL_stem_L_deep
set_option maxRecDepth 20000 in
theorem ggL_stem_L_ones : GoodIn wsL_stem wsL_ones := goodIn_r _ [10] (by decide +kernel) (by decide +kernel)
set_option maxRecDepth 20000 in
theorem gL_stem_L_ones : GoodIn wsL_stem (va_wsS RL 23 yL_ones wsL_ones) := goodIn_app (goodIn_of _ (by decide +kernel)) ggL_stem_L_ones
theorem dL_stem_0 : decode cL_stem 0 = .ok (.aload_n 0, 1) := by decide +kernel
theorem dL_stem_1 : decode cL_stem 1 = .ok (.aload_n 1, 1) := by decide +kernel
theorem dL_stem_2 : decode cL_stem 2 = .ok (.aload_n 2, 1) := by decide +kernel
theorem dL_stem_3 : decode cL_stem 3 = .ok (.aload 4, 2) := by decide +kernel
theorem dL_stem_5 : decode cL_stem 5 = .ok (.aload_n 3, 1) := by decide +kernel
theorem dL_stem_6 : decode cL_stem 6 = .ok (.iload 5, 2) := by decide +kernel
theorem dL_stem_8 : decode cL_stem 8 = .ok (.iaload, 1) := by decide +kernel
theorem dL_stem_9 : decode cL_stem 9 = .ok (.aload_n 3, 1) := by decide +kernel
theorem dL_stem_10 : decode cL_stem 10 = .ok (.iconst 4, 1) := by decide +kernel
theorem dL_stem_11 : decode cL_stem 11 = .ok (.iload 5, 2) := by decide +kernel
theorem dL_stem_13 : decode cL_stem 13 = .ok (.iadd, 1) := by decide +kernel
theorem dL_stem_14 : decode cL_stem 14 = .ok (.iaload, 1) := by decide +kernel
theorem dL_stem_15 : decode cL_stem 15 = .ok (.invokestatic 19, 3) := by decide +kernel
theorem dL_stem_18 : decode cL_stem 18 = .ok (.istore 6, 2) := by decide +kernel
theorem dL_stem_20 : decode cL_stem 20 = .ok (.aload_n 3, 1) := by decide +kernel
theorem dL_stem_21 : decode cL_stem 21 = .ok (.iload 5, 2) := by decide +kernel
theorem dL_stem_23 : decode cL_stem 23 = .ok (.dup2, 1) := by decide +kernel
theorem dL_stem_24 : decode cL_stem 24 = .ok (.iaload, 1) := by decide +kernel
theorem dL_stem_25 : decode cL_stem 25 = .ok (.iload 6, 2) := by decide +kernel
theorem dL_stem_27 : decode cL_stem 27 = .ok (.iconst (-1), 1) := by decide +kernel
theorem dL_stem_28 : decode cL_stem 28 = .ok (.ixor, 1) := by decide +kernel
theorem dL_stem_29 : decode cL_stem 29 = .ok (.iand, 1) := by decide +kernel
theorem dL_stem_30 : decode cL_stem 30 = .ok (.iastore, 1) := by decide +kernel
theorem dL_stem_31 : decode cL_stem 31 = .ok (.iload 6, 2) := by decide +kernel
theorem dL_stem_33 : decode cL_stem 33 = .ok (.invokestatic 23, 3) := by decide +kernel
theorem dL_stem_36 : decode cL_stem 36 = .ok (.ireturn, 1) := by decide +kernel
theorem dL_make_0 : decode cL_make 0 = .ok (.iconst 0, 1) := by decide +kernel
theorem dL_make_1 : decode cL_make 1 = .ok (.istore 10, 2) := by decide +kernel
theorem dL_make_3 : decode cL_make 3 = .ok (.iload 10, 2) := by decide +kernel
theorem dL_make_5 : decode cL_make 5 = .ok (.aload 6, 2) := by decide +kernel
theorem dL_make_7 : decode cL_make 7 = .ok (.iconst 0, 1) := by decide +kernel
theorem dL_make_8 : decode cL_make 8 = .ok (.iaload, 1) := by decide +kernel
theorem dL_make_9 : decode cL_make 9 = .ok (.if_icmp .ge 39, 3) := by decide +kernel
theorem dL_make_12 : decode cL_make 12 = .ok (.aload_n 0, 1) := by decide +kernel
theorem dL_make_13 : decode cL_make 13 = .ok (.iload 10, 2) := by decide +kernel
theorem dL_make_15 : decode cL_make 15 = .ok (.iaload, 1) := by decide +kernel
theorem dL_make_16 : decode cL_make 16 = .ok (.iload 7, 2) := by decide +kernel
theorem dL_make_18 : decode cL_make 18 = .ok (.if_icmp .ne 24, 3) := by decide +kernel
theorem dL_make_21 : decode cL_make 21 = .ok (.aload_n 2, 1) := by decide +kernel
theorem dL_make_22 : decode cL_make 22 = .ok (.iload 10, 2) := by decide +kernel
theorem dL_make_24 : decode cL_make 24 = .ok (.iaload, 1) := by decide +kernel
theorem dL_make_25 : decode cL_make 25 = .ok (.iload 8, 2) := by decide +kernel
theorem dL_make_27 : decode cL_make 27 = .ok (.if_icmp .ne 15, 3) := by decide +kernel
theorem dL_make_30 : decode cL_make 30 = .ok (.aload_n 1, 1) := by decide +kernel
theorem dL_make_31 : decode cL_make 31 = .ok (.iload 10, 2) := by decide +kernel
theorem dL_make_33 : decode cL_make 33 = .ok (.iaload, 1) := by decide +kernel
theorem dL_make_34 : decode cL_make 34 = .ok (.iload 9, 2) := by decide +kernel
theorem dL_make_36 : decode cL_make 36 = .ok (.if_icmp .ne 6, 3) := by decide +kernel
theorem dL_make_39 : decode cL_make 39 = .ok (.iload 10, 2) := by decide +kernel
theorem dL_make_41 : decode cL_make 41 = .ok (.ireturn, 1) := by decide +kernel
theorem dL_make_42 : decode cL_make 42 = .ok (.iinc 10 1, 3) := by decide +kernel
theorem dL_make_45 : decode cL_make 45 = .ok (.goto (-42), 3) := by decide +kernel
theorem dL_make_48 : decode cL_make 48 = .ok (.aload 6, 2) := by decide +kernel
theorem dL_make_50 : decode cL_make 50 = .ok (.iconst 0, 1) := by decide +kernel
theorem dL_make_51 : decode cL_make 51 = .ok (.iaload, 1) := by decide +kernel
theorem dL_make_52 : decode cL_make 52 = .ok (.istore 10, 2) := by decide +kernel
theorem dL_make_54 : decode cL_make 54 = .ok (.aload_n 0, 1) := by decide +kernel
theorem dL_make_55 : decode cL_make 55 = .ok (.iload 10, 2) := by decide +kernel
theorem dL_make_57 : decode cL_make 57 = .ok (.iload 7, 2) := by decide +kernel
theorem dL_make_59 : decode cL_make 59 = .ok (.iastore, 1) := by decide +kernel
theorem dL_make_60 : decode cL_make 60 = .ok (.aload_n 2, 1) := by decide +kernel
theorem dL_make_61 : decode cL_make 61 = .ok (.iload 10, 2) := by decide +kernel
theorem dL_make_63 : decode cL_make 63 = .ok (.iload 8, 2) := by decide +kernel
theorem dL_make_65 : decode cL_make 65 = .ok (.iastore, 1) := by decide +kernel
theorem dL_make_66 : decode cL_make 66 = .ok (.aload_n 1, 1) := by decide +kernel
theorem dL_make_67 : decode cL_make 67 = .ok (.iload 10, 2) := by decide +kernel
theorem dL_make_69 : decode cL_make 69 = .ok (.iload 9, 2) := by decide +kernel
theorem dL_make_71 : decode cL_make 71 = .ok (.iastore, 1) := by decide +kernel
theorem dL_make_72 : decode cL_make 72 = .ok (.aload_n 3, 1) := by decide +kernel
theorem dL_make_73 : decode cL_make 73 = .ok (.iload 10, 2) := by decide +kernel
theorem dL_make_75 : decode cL_make 75 = .ok (.iload 8, 2) := by decide +kernel
theorem dL_make_77 : decode cL_make 77 = .ok (.ifCond .ge 7, 3) := by decide +kernel
theorem dL_make_80 : decode cL_make 80 = .ok (.iconst 1, 1) := by decide +kernel
theorem dL_make_81 : decode cL_make 81 = .ok (.goto 9, 3) := by decide +kernel
theorem dL_make_84 : decode cL_make 84 = .ok (.iconst 1, 1) := by decide +kernel
theorem dL_make_85 : decode cL_make 85 = .ok (.aload_n 3, 1) := by decide +kernel
theorem dL_make_86 : decode cL_make 86 = .ok (.iload 8, 2) := by decide +kernel
theorem dL_make_88 : decode cL_make 88 = .ok (.iaload, 1) := by decide +kernel
theorem dL_make_89 : decode cL_make 89 = .ok (.iadd, 1) := by decide +kernel
theorem dL_make_90 : decode cL_make 90 = .ok (.iastore, 1) := by decide +kernel
theorem dL_make_91 : decode cL_make 91 = .ok (.aload 5, 2) := by decide +kernel
theorem dL_make_93 : decode cL_make 93 = .ok (.iload 10, 2) := by decide +kernel
theorem dL_make_95 : decode cL_make 95 = .ok (.iload 8, 2) := by decide +kernel
theorem dL_make_97 : decode cL_make 97 = .ok (.ifCond .ge 7, 3) := by decide +kernel
theorem dL_make_100 : decode cL_make 100 = .ok (.iconst 0, 1) := by decide +kernel
theorem dL_make_101 : decode cL_make 101 = .ok (.goto 13, 3) := by decide +kernel
theorem dL_make_104 : decode cL_make 104 = .ok (.aload 5, 2) := by decide +kernel
theorem dL_make_106 : decode cL_make 106 = .ok (.iload 8, 2) := by decide +kernel
theorem dL_make_108 : decode cL_make 108 = .ok (.iaload, 1) := by decide +kernel
theorem dL_make_109 : decode cL_make 109 = .ok (.iconst 1, 1) := by decide +kernel
theorem dL_make_110 : decode cL_make 110 = .ok (.iload 8, 2) := by decide +kernel
theorem dL_make_112 : decode cL_make 112 = .ok (.ishl, 1) := by decide +kernel
theorem dL_make_113 : decode cL_make 113 = .ok (.ior, 1) := by decide +kernel
theorem dL_make_114 : decode cL_make 114 = .ok (.iastore, 1) := by decide +kernel
theorem dL_make_115 : decode cL_make 115 = .ok (.aload 4, 2) := by decide +kernel
theorem dL_make_117 : decode cL_make 117 = .ok (.iload 10, 2) := by decide +kernel
theorem dL_make_119 : decode cL_make 119 = .ok (.iload 8, 2) := by decide +kernel
theorem dL_make_121 : decode cL_make 121 = .ok (.ifCond .ge 8, 3) := by decide +kernel
theorem dL_make_124 : decode cL_make 124 = .ok (.bipush 31, 2) := by decide +kernel
theorem dL_make_126 : decode cL_make 126 = .ok (.goto 11, 3) := by decide +kernel
theorem dL_make_129 : decode cL_make 129 = .ok (.bipush 31, 2) := by decide +kernel
theorem dL_make_131 : decode cL_make 131 = .ok (.aload 4, 2) := by decide +kernel
theorem dL_make_133 : decode cL_make 133 = .ok (.iload 8, 2) := by decide +kernel
theorem dL_make_135 : decode cL_make 135 = .ok (.iaload, 1) := by decide +kernel
theorem dL_make_136 : decode cL_make 136 = .ok (.imul, 1) := by decide +kernel
theorem dL_make_137 : decode cL_make 137 = .ok (.iload 9, 2) := by decide +kernel
theorem dL_make_139 : decode cL_make 139 = .ok (.ifCond .ge 7, 3) := by decide +kernel
theorem dL_make_142 : decode cL_make 142 = .ok (.iconst 3, 1) := by decide +kernel
theorem dL_make_143 : decode cL_make 143 = .ok (.goto 8, 3) := by decide +kernel
theorem dL_make_146 : decode cL_make 146 = .ok (.bipush 7, 2) := by decide +kernel
theorem dL_make_148 : decode cL_make 148 = .ok (.iload 9, 2) := by decide +kernel
theorem dL_make_150 : decode cL_make 150 = .ok (.imul, 1) := by decide +kernel
theorem dL_make_151 : decode cL_make 151 = .ok (.iadd, 1) := by decide +kernel
theorem dL_make_152 : decode cL_make 152 = .ok (.aload_n 3, 1) := by decide +kernel
theorem dL_make_153 : decode cL_make 153 = .ok (.iload 10, 2) := by decide +kernel
theorem dL_make_155 : decode cL_make 155 = .ok (.iaload, 1) := by decide +kernel
theorem dL_make_156 : decode cL_make 156 = .ok (.iadd, 1) := by decide +kernel
theorem dL_make_157 : decode cL_make 157 = .ok (.sipush 997, 3) := by decide +kernel
theorem dL_make_160 : decode cL_make 160 = .ok (.irem, 1) := by decide +kernel
theorem dL_make_161 : decode cL_make 161 = .ok (.iastore, 1) := by decide +kernel
theorem dL_make_162 : decode cL_make 162 = .ok (.aload 6, 2) := by decide +kernel
theorem dL_make_164 : decode cL_make 164 = .ok (.iconst 0, 1) := by decide +kernel
theorem dL_make_165 : decode cL_make 165 = .ok (.dup2, 1) := by decide +kernel
theorem dL_make_166 : decode cL_make 166 = .ok (.iaload, 1) := by decide +kernel
theorem dL_make_167 : decode cL_make 167 = .ok (.iconst 1, 1) := by decide +kernel
theorem dL_make_168 : decode cL_make 168 = .ok (.iadd, 1) := by decide +kernel
theorem dL_make_169 : decode cL_make 169 = .ok (.iastore, 1) := by decide +kernel
theorem dL_make_170 : decode cL_make 170 = .ok (.iload 10, 2) := by decide +kernel
theorem dL_make_172 : decode cL_make 172 = .ok (.ireturn, 1) := by decide +kernel
set_option maxRecDepth 20000 in
theorem ggL_add_L_make : GoodIn wsL_add wsL_make := goodIn_r _ [4] (by decide +kernel) (by decide +kernel)
set_option maxRecDepth 20000 in
theorem gL_add_L_make : GoodIn wsL_add (va_wsS RL 27 yL_make wsL_make) := goodIn_app (goodIn_of _ (by decide +kernel)) ggL_add_L_make
set_option maxRecDepth 20000 in
theorem ggL_add_L_stem : GoodIn wsL_add wsL_stem := goodIn_r _ [7, 8, 9, 3, 10, 11, 12, 13, 14, 15, 16] (by decide +kernel) (by decide +kernel)
set_option maxRecDepth 20000 in
theorem gL_add_L_stem : GoodIn wsL_add (va_wsS RL 31 yL_stem wsL_stem) := goodIn_app (goodIn_of _ (by decide +kernel)) ggL_add_L_stem
theorem dL_add_0 : decode cL_add 0 = .ok (.aload_n 0, 1) := by decide +kernel
theorem dL_add_1 : decode cL_add 1 = .ok (.aload_n 1, 1) := by decide +kernel
theorem dL_add_2 : decode cL_add 2 = .ok (.aload_n 2, 1) := by decide +kernel
theorem dL_add_3 : decode cL_add 3 = .ok (.aload_n 3, 1) := by decide +kernel
theorem dL_add_4 : decode cL_add 4 = .ok (.aload 4, 2) := by decide +kernel
theorem dL_add_6 : decode cL_add 6 = .ok (.aload 5, 2) := by decide +kernel
theorem dL_add_8 : decode cL_add 8 = .ok (.aload 8, 2) := by decide +kernel
theorem dL_add_10 : decode cL_add 10 = .ok (.iload 10, 2) := by decide +kernel
theorem dL_add_12 : decode cL_add 12 = .ok (.iload 11, 2) := by decide +kernel
theorem dL_add_14 : decode cL_add 14 = .ok (.iload 12, 2) := by decide +kernel
theorem dL_add_16 : decode cL_add 16 = .ok (.invokestatic 27, 3) := by decide +kernel
theorem dL_add_19 : decode cL_add 19 = .ok (.istore 13, 2) := by decide +kernel
theorem dL_add_21 : decode cL_add 21 = .ok (.aload 6, 2) := by decide +kernel
theorem dL_add_23 : decode cL_add 23 = .ok (.iload 9, 2) := by decide +kernel
theorem dL_add_25 : decode cL_add 25 = .ok (.dup2, 1) := by decide +kernel
theorem dL_add_26 : decode cL_add 26 = .ok (.iaload, 1) := by decide +kernel
theorem dL_add_27 : decode cL_add 27 = .ok (.iconst 1, 1) := by decide +kernel
theorem dL_add_28 : decode cL_add 28 = .ok (.iload 13, 2) := by decide +kernel
theorem dL_add_30 : decode cL_add 30 = .ok (.ishl, 1) := by decide +kernel
theorem dL_add_31 : decode cL_add 31 = .ok (.ior, 1) := by decide +kernel
theorem dL_add_32 : decode cL_add 32 = .ok (.iastore, 1) := by decide +kernel
theorem dL_add_33 : decode cL_add 33 = .ok (.aload 6, 2) := by decide +kernel
theorem dL_add_35 : decode cL_add 35 = .ok (.bipush 8, 2) := by decide +kernel
theorem dL_add_37 : decode cL_add 37 = .ok (.iload 9, 2) := by decide +kernel
theorem dL_add_39 : decode cL_add 39 = .ok (.iadd, 1) := by decide +kernel
theorem dL_add_40 : decode cL_add 40 = .ok (.dup2, 1) := by decide +kernel
theorem dL_add_41 : decode cL_add 41 = .ok (.iaload, 1) := by decide +kernel
theorem dL_add_42 : decode cL_add 42 = .ok (.iconst 1, 1) := by decide +kernel
theorem dL_add_43 : decode cL_add 43 = .ok (.iadd, 1) := by decide +kernel
theorem dL_add_44 : decode cL_add 44 = .ok (.iastore, 1) := by decide +kernel
theorem dL_add_45 : decode cL_add 45 = .ok (.aload 7, 2) := by decide +kernel
theorem dL_add_47 : decode cL_add 47 = .ok (.iconst 4, 1) := by decide +kernel
theorem dL_add_48 : decode cL_add 48 = .ok (.iload 9, 2) := by decide +kernel
theorem dL_add_50 : decode cL_add 50 = .ok (.imul, 1) := by decide +kernel
theorem dL_add_51 : decode cL_add 51 = .ok (.iload 10, 2) := by decide +kernel
theorem dL_add_53 : decode cL_add 53 = .ok (.iadd, 1) := by decide +kernel
theorem dL_add_54 : decode cL_add 54 = .ok (.aload 6, 2) := by decide +kernel
theorem dL_add_56 : decode cL_add 56 = .ok (.bipush 8, 2) := by decide +kernel
theorem dL_add_58 : decode cL_add 58 = .ok (.iload 9, 2) := by decide +kernel
theorem dL_add_60 : decode cL_add 60 = .ok (.iadd, 1) := by decide +kernel
theorem dL_add_61 : decode cL_add 61 = .ok (.iaload, 1) := by decide +kernel
theorem dL_add_62 : decode cL_add 62 = .ok (.iastore, 1) := by decide +kernel
theorem dL_add_63 : decode cL_add 63 = .ok (.aload_n 0, 1) := by decide +kernel
theorem dL_add_64 : decode cL_add 64 = .ok (.aload_n 3, 1) := by decide +kernel
theorem dL_add_65 : decode cL_add 65 = .ok (.aload 5, 2) := by decide +kernel
theorem dL_add_67 : decode cL_add 67 = .ok (.aload 6, 2) := by decide +kernel
theorem dL_add_69 : decode cL_add 69 = .ok (.aload 8, 2) := by decide +kernel
theorem dL_add_71 : decode cL_add 71 = .ok (.iload 9, 2) := by decide +kernel
theorem dL_add_73 : decode cL_add 73 = .ok (.invokestatic 31, 3) := by decide +kernel
theorem dL_add_76 : decode cL_add 76 = .ok (.ifCond .ge 7, 3) := by decide +kernel
theorem dL_add_79 : decode cL_add 79 = .ok (.iconst (-1), 1) := by decide +kernel
theorem dL_add_80 : decode cL_add 80 = .ok (.goto 5, 3) := by decide +kernel
theorem dL_add_83 : decode cL_add 83 = .ok (.iload 13, 2) := by decide +kernel
theorem dL_add_85 : decode cL_add 85 = .ok (.ireturn, 1) := by decide +kernel
theorem dL_start_0 : decode cL_start 0 = .ok (.aload_n 0, 1) := by decide +kernel
theorem dL_start_1 : decode cL_start 1 = .ok (.bipush 9, 2) := by decide +kernel
theorem dL_start_3 : decode cL_start 3 = .ok (.iload_n 1, 1) := by decide +kernel
theorem dL_start_4 : decode cL_start 4 = .ok (.imul, 1) := by decide +kernel
theorem dL_start_5 : decode cL_start 5 = .ok (.iconst 3, 1) := by decide +kernel
theorem dL_start_6 : decode cL_start 6 = .ok (.iload_n 1, 1) := by decide +kernel
theorem dL_start_7 : decode cL_start 7 = .ok (.imul, 1) := by decide +kernel
theorem dL_start_8 : decode cL_start 8 = .ok (.iadd, 1) := by decide +kernel
theorem dL_start_9 : decode cL_start 9 = .ok (.iload_n 2, 1) := by decide +kernel
theorem dL_start_10 : decode cL_start 10 = .ok (.iadd, 1) := by decide +kernel
theorem dL_start_11 : decode cL_start 11 = .ok (.iaload, 1) := by decide +kernel
theorem dL_start_12 : decode cL_start 12 = .ok (.istore_n 3, 1) := by decide +kernel
theorem dL_start_13 : decode cL_start 13 = .ok (.aload_n 0, 1) := by decide +kernel
theorem dL_start_14 : decode cL_start 14 = .ok (.bipush 9, 2) := by decide +kernel
theorem dL_start_16 : decode cL_start 16 = .ok (.iload_n 2, 1) := by decide +kernel
theorem dL_start_17 : decode cL_start 17 = .ok (.imul, 1) := by decide +kernel
theorem dL_start_18 : decode cL_start 18 = .ok (.iconst 3, 1) := by decide +kernel
theorem dL_start_19 : decode cL_start 19 = .ok (.iload_n 1, 1) := by decide +kernel
theorem dL_start_20 : decode cL_start 20 = .ok (.imul, 1) := by decide +kernel
theorem dL_start_21 : decode cL_start 21 = .ok (.iadd, 1) := by decide +kernel
theorem dL_start_22 : decode cL_start 22 = .ok (.iload_n 2, 1) := by decide +kernel
theorem dL_start_23 : decode cL_start 23 = .ok (.iadd, 1) := by decide +kernel
theorem dL_start_24 : decode cL_start 24 = .ok (.iaload, 1) := by decide +kernel
theorem dL_start_25 : decode cL_start 25 = .ok (.istore 4, 2) := by decide +kernel
theorem dL_start_27 : decode cL_start 27 = .ok (.iload_n 3, 1) := by decide +kernel
theorem dL_start_28 : decode cL_start 28 = .ok (.iload 4, 2) := by decide +kernel
theorem dL_start_30 : decode cL_start 30 = .ok (.if_icmp .le 8, 3) := by decide +kernel
theorem dL_start_33 : decode cL_start 33 = .ok (.iload 4, 2) := by decide +kernel
theorem dL_start_35 : decode cL_start 35 = .ok (.goto 4, 3) := by decide +kernel
theorem dL_start_38 : decode cL_start 38 = .ok (.iload_n 3, 1) := by decide +kernel
theorem dL_start_39 : decode cL_start 39 = .ok (.ireturn, 1) := by decide +kernel
set_option maxRecDepth 20000 in
theorem ggL_got_L_leaves : GoodIn wsL_got wsL_leaves := goodIn_r _ [4] (by decide +kernel) (by decide +kernel)
set_option maxRecDepth 20000 in
theorem gL_got_L_leaves : GoodIn wsL_got (va_wsS RL 9 yL_leaves wsL_leaves) := goodIn_app (goodIn_of _ (by decide +kernel)) ggL_got_L_leaves
set_option maxRecDepth 20000 in
theorem ggL_got_L_stem : GoodIn wsL_got wsL_stem := goodIn_r _ [7, 8, 9, 3, 10, 1, 2, 4, 11, 12, 13] (by decide +kernel) (by decide +kernel)
set_option maxRecDepth 20000 in
theorem gL_got_L_stem : GoodIn wsL_got (va_wsS RL 31 yL_stem wsL_stem) := goodIn_app (goodIn_of _ (by decide +kernel)) ggL_got_L_stem
set_option maxRecDepth 20000 in
theorem ggL_got_L_ones : GoodIn wsL_got wsL_ones := goodIn_r _ [13] (by decide +kernel) (by decide +kernel)
set_option maxRecDepth 20000 in
theorem gL_got_L_ones : GoodIn wsL_got (va_wsS RL 23 yL_ones wsL_ones) := goodIn_app (goodIn_of _ (by decide +kernel)) ggL_got_L_ones
theorem dL_got_0 : decode cL_got 0 = .ok (.aload_n 0, 1) := by decide +kernel
theorem dL_got_1 : decode cL_got 1 = .ok (.aload_n 2, 1) := by decide +kernel
theorem dL_got_2 : decode cL_got 2 = .ok (.aload 5, 2) := by decide +kernel
theorem dL_got_4 : decode cL_got 4 = .ok (.aload_n 3, 1) := by decide +kernel
theorem dL_got_5 : decode cL_got 5 = .ok (.iload 6, 2) := by decide +kernel
theorem dL_got_7 : decode cL_got 7 = .ok (.iaload, 1) := by decide +kernel
theorem dL_got_8 : decode cL_got 8 = .ok (.iload 8, 2) := by decide +kernel
theorem dL_got_10 : decode cL_got 10 = .ok (.invokestatic 9, 3) := by decide +kernel
theorem dL_got_13 : decode cL_got 13 = .ok (.istore 9, 2) := by decide +kernel
theorem dL_got_15 : decode cL_got 15 = .ok (.iconst 0, 1) := by decide +kernel
theorem dL_got_16 : decode cL_got 16 = .ok (.istore 10, 2) := by decide +kernel
theorem dL_got_18 : decode cL_got 18 = .ok (.iconst 0, 1) := by decide +kernel
theorem dL_got_19 : decode cL_got 19 = .ok (.istore 11, 2) := by decide +kernel
theorem dL_got_21 : decode cL_got 21 = .ok (.iload 11, 2) := by decide +kernel
theorem dL_got_23 : decode cL_got 23 = .ok (.aload 5, 2) := by decide +kernel
theorem dL_got_25 : decode cL_got 25 = .ok (.iconst 0, 1) := by decide +kernel
theorem dL_got_26 : decode cL_got 26 = .ok (.iaload, 1) := by decide +kernel
theorem dL_got_27 : decode cL_got 27 = .ok (.if_icmp .ge 136, 3) := by decide +kernel
theorem dL_got_30 : decode cL_got 30 = .ok (.iconst 0, 1) := by decide +kernel
theorem dL_got_31 : decode cL_got 31 = .ok (.istore 12, 2) := by decide +kernel
theorem dL_got_33 : decode cL_got 33 = .ok (.iconst 0, 1) := by decide +kernel
theorem dL_got_34 : decode cL_got 34 = .ok (.istore 13, 2) := by decide +kernel
theorem dL_got_36 : decode cL_got 36 = .ok (.iload 13, 2) := by decide +kernel
theorem dL_got_38 : decode cL_got 38 = .ok (.aload 5, 2) := by decide +kernel
theorem dL_got_40 : decode cL_got 40 = .ok (.iconst 0, 1) := by decide +kernel
theorem dL_got_41 : decode cL_got 41 = .ok (.iaload, 1) := by decide +kernel
theorem dL_got_42 : decode cL_got 42 = .ok (.if_icmp .ge 45, 3) := by decide +kernel
theorem dL_got_45 : decode cL_got 45 = .ok (.iload 12, 2) := by decide +kernel
theorem dL_got_47 : decode cL_got 47 = .ok (.aload_n 3, 1) := by decide +kernel
theorem dL_got_48 : decode cL_got 48 = .ok (.iload 7, 2) := by decide +kernel
theorem dL_got_50 : decode cL_got 50 = .ok (.iaload, 1) := by decide +kernel
theorem dL_got_51 : decode cL_got 51 = .ok (.iload 13, 2) := by decide +kernel
theorem dL_got_53 : decode cL_got 53 = .ok (.ishr, 1) := by decide +kernel
theorem dL_got_54 : decode cL_got 54 = .ok (.iconst 1, 1) := by decide +kernel
theorem dL_got_55 : decode cL_got 55 = .ok (.iand, 1) := by decide +kernel
theorem dL_got_56 : decode cL_got 56 = .ok (.iconst 1, 1) := by decide +kernel
theorem dL_got_57 : decode cL_got 57 = .ok (.if_icmp .ne 20, 3) := by decide +kernel
theorem dL_got_60 : decode cL_got 60 = .ok (.aload_n 2, 1) := by decide +kernel
theorem dL_got_61 : decode cL_got 61 = .ok (.iload 13, 2) := by decide +kernel
theorem dL_got_63 : decode cL_got 63 = .ok (.iaload, 1) := by decide +kernel
theorem dL_got_64 : decode cL_got 64 = .ok (.iload 11, 2) := by decide +kernel
theorem dL_got_66 : decode cL_got 66 = .ok (.ishr, 1) := by decide +kernel
theorem dL_got_67 : decode cL_got 67 = .ok (.iconst 1, 1) := by decide +kernel
theorem dL_got_68 : decode cL_got 68 = .ok (.iand, 1) := by decide +kernel
theorem dL_got_69 : decode cL_got 69 = .ok (.iconst 1, 1) := by decide +kernel
theorem dL_got_70 : decode cL_got 70 = .ok (.if_icmp .ne 7, 3) := by decide +kernel
theorem dL_got_73 : decode cL_got 73 = .ok (.iconst 1, 1) := by decide +kernel
theorem dL_got_74 : decode cL_got 74 = .ok (.goto 4, 3) := by decide +kernel
theorem dL_got_77 : decode cL_got 77 = .ok (.iconst 0, 1) := by decide +kernel
theorem dL_got_78 : decode cL_got 78 = .ok (.ior, 1) := by decide +kernel
theorem dL_got_79 : decode cL_got 79 = .ok (.istore 12, 2) := by decide +kernel
theorem dL_got_81 : decode cL_got 81 = .ok (.iinc 13 1, 3) := by decide +kernel
theorem dL_got_84 : decode cL_got 84 = .ok (.goto (-48), 3) := by decide +kernel
theorem dL_got_87 : decode cL_got 87 = .ok (.iload 9, 2) := by decide +kernel
theorem dL_got_89 : decode cL_got 89 = .ok (.iload 11, 2) := by decide +kernel
theorem dL_got_91 : decode cL_got 91 = .ok (.ishr, 1) := by decide +kernel
theorem dL_got_92 : decode cL_got 92 = .ok (.iconst 1, 1) := by decide +kernel
theorem dL_got_93 : decode cL_got 93 = .ok (.iand, 1) := by decide +kernel
theorem dL_got_94 : decode cL_got 94 = .ok (.iconst 1, 1) := by decide +kernel
theorem dL_got_95 : decode cL_got 95 = .ok (.if_icmp .ne 24, 3) := by decide +kernel
theorem dL_got_98 : decode cL_got 98 = .ok (.aload_n 3, 1) := by decide +kernel
theorem dL_got_99 : decode cL_got 99 = .ok (.iload 7, 2) := by decide +kernel
theorem dL_got_101 : decode cL_got 101 = .ok (.iaload, 1) := by decide +kernel
theorem dL_got_102 : decode cL_got 102 = .ok (.iload 11, 2) := by decide +kernel
theorem dL_got_104 : decode cL_got 104 = .ok (.ishr, 1) := by decide +kernel
theorem dL_got_105 : decode cL_got 105 = .ok (.iconst 1, 1) := by decide +kernel
theorem dL_got_106 : decode cL_got 106 = .ok (.iand, 1) := by decide +kernel
theorem dL_got_107 : decode cL_got 107 = .ok (.ifCond .ne 12, 3) := by decide +kernel
theorem dL_got_110 : decode cL_got 110 = .ok (.iload 12, 2) := by decide +kernel
theorem dL_got_112 : decode cL_got 112 = .ok (.ifCond .ne 7, 3) := by decide +kernel
theorem dL_got_115 : decode cL_got 115 = .ok (.iconst 1, 1) := by decide +kernel
theorem dL_got_116 : decode cL_got 116 = .ok (.goto 4, 3) := by decide +kernel
theorem dL_got_119 : decode cL_got 119 = .ok (.iconst 0, 1) := by decide +kernel
theorem dL_got_120 : decode cL_got 120 = .ok (.istore 13, 2) := by decide +kernel
theorem dL_got_122 : decode cL_got 122 = .ok (.iload 10, 2) := by decide +kernel
theorem dL_got_124 : decode cL_got 124 = .ok (.iload 13, 2) := by decide +kernel
theorem dL_got_126 : decode cL_got 126 = .ok (.ifCond .eq 27, 3) := by decide +kernel
theorem dL_got_129 : decode cL_got 129 = .ok (.iconst 1, 1) := by decide +kernel
theorem dL_got_130 : decode cL_got 130 = .ok (.iload 11, 2) := by decide +kernel
theorem dL_got_132 : decode cL_got 132 = .ok (.ishl, 1) := by decide +kernel
theorem dL_got_133 : decode cL_got 133 = .ok (.aload_n 2, 1) := by decide +kernel
theorem dL_got_134 : decode cL_got 134 = .ok (.iload 11, 2) := by decide +kernel
theorem dL_got_136 : decode cL_got 136 = .ok (.iaload, 1) := by decide +kernel
theorem dL_got_137 : decode cL_got 137 = .ok (.ior, 1) := by decide +kernel
theorem dL_got_138 : decode cL_got 138 = .ok (.aload_n 3, 1) := by decide +kernel
theorem dL_got_139 : decode cL_got 139 = .ok (.iload 6, 2) := by decide +kernel
theorem dL_got_141 : decode cL_got 141 = .ok (.iaload, 1) := by decide +kernel
theorem dL_got_142 : decode cL_got 142 = .ok (.iand, 1) := by decide +kernel
theorem dL_got_143 : decode cL_got 143 = .ok (.aload_n 3, 1) := by decide +kernel
theorem dL_got_144 : decode cL_got 144 = .ok (.iload 7, 2) := by decide +kernel
theorem dL_got_146 : decode cL_got 146 = .ok (.iaload, 1) := by decide +kernel
theorem dL_got_147 : decode cL_got 147 = .ok (.iconst (-1), 1) := by decide +kernel
theorem dL_got_148 : decode cL_got 148 = .ok (.ixor, 1) := by decide +kernel
theorem dL_got_149 : decode cL_got 149 = .ok (.iand, 1) := by decide +kernel
theorem dL_got_150 : decode cL_got 150 = .ok (.goto 4, 3) := by decide +kernel
theorem dL_got_153 : decode cL_got 153 = .ok (.iconst 0, 1) := by decide +kernel
theorem dL_got_154 : decode cL_got 154 = .ok (.ior, 1) := by decide +kernel
theorem dL_got_155 : decode cL_got 155 = .ok (.istore 10, 2) := by decide +kernel
theorem dL_got_157 : decode cL_got 157 = .ok (.iinc 11 1, 3) := by decide +kernel
theorem dL_got_160 : decode cL_got 160 = .ok (.goto (-139), 3) := by decide +kernel
theorem dL_got_163 : decode cL_got 163 = .ok (.aload_n 3, 1) := by decide +kernel
theorem dL_got_164 : decode cL_got 164 = .ok (.iload 7, 2) := by decide +kernel
theorem dL_got_166 : decode cL_got 166 = .ok (.dup2, 1) := by decide +kernel
theorem dL_got_167 : decode cL_got 167 = .ok (.iaload, 1) := by decide +kernel
theorem dL_got_168 : decode cL_got 168 = .ok (.iload 10, 2) := by decide +kernel
theorem dL_got_170 : decode cL_got 170 = .ok (.ior, 1) := by decide +kernel
theorem dL_got_171 : decode cL_got 171 = .ok (.iastore, 1) := by decide +kernel
theorem dL_got_172 : decode cL_got 172 = .ok (.aload_n 3, 1) := by decide +kernel
theorem dL_got_173 : decode cL_got 173 = .ok (.bipush 8, 2) := by decide +kernel
theorem dL_got_175 : decode cL_got 175 = .ok (.iload 7, 2) := by decide +kernel
theorem dL_got_177 : decode cL_got 177 = .ok (.iadd, 1) := by decide +kernel
theorem dL_got_178 : decode cL_got 178 = .ok (.dup2, 1) := by decide +kernel
theorem dL_got_179 : decode cL_got 179 = .ok (.iaload, 1) := by decide +kernel
theorem dL_got_180 : decode cL_got 180 = .ok (.iload 10, 2) := by decide +kernel
theorem dL_got_182 : decode cL_got 182 = .ok (.ifCond .ne 7, 3) := by decide +kernel
theorem dL_got_185 : decode cL_got 185 = .ok (.iconst 0, 1) := by decide +kernel
theorem dL_got_186 : decode cL_got 186 = .ok (.goto 4, 3) := by decide +kernel
theorem dL_got_189 : decode cL_got 189 = .ok (.iconst 1, 1) := by decide +kernel
theorem dL_got_190 : decode cL_got 190 = .ok (.iadd, 1) := by decide +kernel
theorem dL_got_191 : decode cL_got 191 = .ok (.iastore, 1) := by decide +kernel
theorem dL_got_192 : decode cL_got 192 = .ok (.aload 4, 2) := by decide +kernel
theorem dL_got_194 : decode cL_got 194 = .ok (.iconst 4, 1) := by decide +kernel
theorem dL_got_195 : decode cL_got 195 = .ok (.iload 7, 2) := by decide +kernel
theorem dL_got_197 : decode cL_got 197 = .ok (.imul, 1) := by decide +kernel
theorem dL_got_198 : decode cL_got 198 = .ok (.iload 8, 2) := by decide +kernel
theorem dL_got_200 : decode cL_got 200 = .ok (.iadd, 1) := by decide +kernel
theorem dL_got_201 : decode cL_got 201 = .ok (.iload 10, 2) := by decide +kernel
theorem dL_got_203 : decode cL_got 203 = .ok (.ifCond .ne 16, 3) := by decide +kernel
theorem dL_got_206 : decode cL_got 206 = .ok (.aload 4, 2) := by decide +kernel
theorem dL_got_208 : decode cL_got 208 = .ok (.iconst 4, 1) := by decide +kernel
theorem dL_got_209 : decode cL_got 209 = .ok (.iload 7, 2) := by decide +kernel
theorem dL_got_211 : decode cL_got 211 = .ok (.imul, 1) := by decide +kernel
theorem dL_got_212 : decode cL_got 212 = .ok (.iload 8, 2) := by decide +kernel
theorem dL_got_214 : decode cL_got 214 = .ok (.iadd, 1) := by decide +kernel
theorem dL_got_215 : decode cL_got 215 = .ok (.iaload, 1) := by decide +kernel
theorem dL_got_216 : decode cL_got 216 = .ok (.goto 10, 3) := by decide +kernel
theorem dL_got_219 : decode cL_got 219 = .ok (.aload_n 3, 1) := by decide +kernel
theorem dL_got_220 : decode cL_got 220 = .ok (.bipush 8, 2) := by decide +kernel
theorem dL_got_222 : decode cL_got 222 = .ok (.iload 7, 2) := by decide +kernel
theorem dL_got_224 : decode cL_got 224 = .ok (.iadd, 1) := by decide +kernel
theorem dL_got_225 : decode cL_got 225 = .ok (.iaload, 1) := by decide +kernel
theorem dL_got_226 : decode cL_got 226 = .ok (.iastore, 1) := by decide +kernel
theorem dL_got_227 : decode cL_got 227 = .ok (.aload_n 0, 1) := by decide +kernel
theorem dL_got_228 : decode cL_got 228 = .ok (.aload_n 1, 1) := by decide +kernel
theorem dL_got_229 : decode cL_got 229 = .ok (.aload_n 2, 1) := by decide +kernel
theorem dL_got_230 : decode cL_got 230 = .ok (.aload_n 3, 1) := by decide +kernel
theorem dL_got_231 : decode cL_got 231 = .ok (.aload 5, 2) := by decide +kernel
theorem dL_got_233 : decode cL_got 233 = .ok (.iload 7, 2) := by decide +kernel
theorem dL_got_235 : decode cL_got 235 = .ok (.invokestatic 31, 3) := by decide +kernel
theorem dL_got_238 : decode cL_got 238 = .ok (.ifCond .ge 7, 3) := by decide +kernel
theorem dL_got_241 : decode cL_got 241 = .ok (.iconst (-1), 1) := by decide +kernel
theorem dL_got_242 : decode cL_got 242 = .ok (.goto 8, 3) := by decide +kernel
theorem dL_got_245 : decode cL_got 245 = .ok (.iload 10, 2) := by decide +kernel
theorem dL_got_247 : decode cL_got 247 = .ok (.invokestatic 23, 3) := by decide +kernel
theorem dL_got_250 : decode cL_got 250 = .ok (.ireturn, 1) := by decide +kernel
set_option maxRecDepth 20000 in
theorem ggL_replicated_L_start : GoodIn wsL_replicated wsL_start := goodIn_r _ [4] (by decide +kernel) (by decide +kernel)
set_option maxRecDepth 20000 in
theorem gL_replicated_L_start : GoodIn wsL_replicated (va_wsS RL 35 yL_start wsL_start) := goodIn_app (goodIn_of _ (by decide +kernel)) ggL_replicated_L_start
set_option maxRecDepth 20000 in
theorem ggL_replicated_L_got : GoodIn wsL_replicated wsL_got := goodIn_r _ [7, 8, 9, 3, 10, 11, 12, 13, 14, 15, 16, 17, 18, 19] (by decide +kernel) (by decide +kernel)
set_option maxRecDepth 20000 in
theorem gL_replicated_L_got : GoodIn wsL_replicated (va_wsS RL 39 yL_got wsL_got) := goodIn_app (goodIn_of _ (by decide +kernel)) ggL_replicated_L_got
theorem dL_replicated_0 : decode cL_replicated 0 = .ok (.aload 5, 2) := by decide +kernel
theorem dL_replicated_2 : decode cL_replicated 2 = .ok (.iload 7, 2) := by decide +kernel
theorem dL_replicated_4 : decode cL_replicated 4 = .ok (.iload 8, 2) := by decide +kernel
theorem dL_replicated_6 : decode cL_replicated 6 = .ok (.invokestatic 35, 3) := by decide +kernel
theorem dL_replicated_9 : decode cL_replicated 9 = .ok (.istore 10, 2) := by decide +kernel
theorem dL_replicated_11 : decode cL_replicated 11 = .ok (.iconst 0, 1) := by decide +kernel
theorem dL_replicated_12 : decode cL_replicated 12 = .ok (.istore 11, 2) := by decide +kernel
theorem dL_replicated_14 : decode cL_replicated 14 = .ok (.iconst 0, 1) := by decide +kernel
theorem dL_replicated_15 : decode cL_replicated 15 = .ok (.istore 12, 2) := by decide +kernel
theorem dL_replicated_17 : decode cL_replicated 17 = .ok (.iload 10, 2) := by decide +kernel
theorem dL_replicated_19 : decode cL_replicated 19 = .ok (.iconst 1, 1) := by decide +kernel
theorem dL_replicated_20 : decode cL_replicated 20 = .ok (.iadd, 1) := by decide +kernel
theorem dL_replicated_21 : decode cL_replicated 21 = .ok (.istore 13, 2) := by decide +kernel
theorem dL_replicated_23 : decode cL_replicated 23 = .ok (.iload 13, 2) := by decide +kernel
theorem dL_replicated_25 : decode cL_replicated 25 = .ok (.aload_n 3, 1) := by decide +kernel
theorem dL_replicated_26 : decode cL_replicated 26 = .ok (.bipush 8, 2) := by decide +kernel
theorem dL_replicated_28 : decode cL_replicated 28 = .ok (.iload 7, 2) := by decide +kernel
theorem dL_replicated_30 : decode cL_replicated 30 = .ok (.iadd, 1) := by decide +kernel
theorem dL_replicated_31 : decode cL_replicated 31 = .ok (.iaload, 1) := by decide +kernel
theorem dL_replicated_32 : decode cL_replicated 32 = .ok (.if_icmp .gt 75, 3) := by decide +kernel
theorem dL_replicated_35 : decode cL_replicated 35 = .ok (.iload 12, 2) := by decide +kernel
theorem dL_replicated_37 : decode cL_replicated 37 = .ok (.iload 9, 2) := by decide +kernel
theorem dL_replicated_39 : decode cL_replicated 39 = .ok (.if_icmp .ge 68, 3) := by decide +kernel
theorem dL_replicated_42 : decode cL_replicated 42 = .ok (.iconst 0, 1) := by decide +kernel
theorem dL_replicated_43 : decode cL_replicated 43 = .ok (.istore 14, 2) := by decide +kernel
theorem dL_replicated_45 : decode cL_replicated 45 = .ok (.iload 14, 2) := by decide +kernel
theorem dL_replicated_47 : decode cL_replicated 47 = .ok (.iconst 4, 1) := by decide +kernel
theorem dL_replicated_48 : decode cL_replicated 48 = .ok (.if_icmp .ge 53, 3) := by decide +kernel
theorem dL_replicated_51 : decode cL_replicated 51 = .ok (.aload 4, 2) := by decide +kernel
theorem dL_replicated_53 : decode cL_replicated 53 = .ok (.iconst 4, 1) := by decide +kernel
theorem dL_replicated_54 : decode cL_replicated 54 = .ok (.iload 7, 2) := by decide +kernel
theorem dL_replicated_56 : decode cL_replicated 56 = .ok (.imul, 1) := by decide +kernel
theorem dL_replicated_57 : decode cL_replicated 57 = .ok (.iload 14, 2) := by decide +kernel
theorem dL_replicated_59 : decode cL_replicated 59 = .ok (.iadd, 1) := by decide +kernel
theorem dL_replicated_60 : decode cL_replicated 60 = .ok (.iaload, 1) := by decide +kernel
theorem dL_replicated_61 : decode cL_replicated 61 = .ok (.iload 13, 2) := by decide +kernel
theorem dL_replicated_63 : decode cL_replicated 63 = .ok (.if_icmp .ne 32, 3) := by decide +kernel
theorem dL_replicated_66 : decode cL_replicated 66 = .ok (.iload 11, 2) := by decide +kernel
theorem dL_replicated_68 : decode cL_replicated 68 = .ok (.aload_n 0, 1) := by decide +kernel
theorem dL_replicated_69 : decode cL_replicated 69 = .ok (.aload_n 1, 1) := by decide +kernel
theorem dL_replicated_70 : decode cL_replicated 70 = .ok (.aload_n 2, 1) := by decide +kernel
theorem dL_replicated_71 : decode cL_replicated 71 = .ok (.aload_n 3, 1) := by decide +kernel
theorem dL_replicated_72 : decode cL_replicated 72 = .ok (.aload 4, 2) := by decide +kernel
theorem dL_replicated_74 : decode cL_replicated 74 = .ok (.aload 6, 2) := by decide +kernel
theorem dL_replicated_76 : decode cL_replicated 76 = .ok (.iload 7, 2) := by decide +kernel
theorem dL_replicated_78 : decode cL_replicated 78 = .ok (.iload 8, 2) := by decide +kernel
theorem dL_replicated_80 : decode cL_replicated 80 = .ok (.iload 14, 2) := by decide +kernel
theorem dL_replicated_82 : decode cL_replicated 82 = .ok (.invokestatic 39, 3) := by decide +kernel
theorem dL_replicated_85 : decode cL_replicated 85 = .ok (.iadd, 1) := by decide +kernel
theorem dL_replicated_86 : decode cL_replicated 86 = .ok (.istore 11, 2) := by decide +kernel
theorem dL_replicated_88 : decode cL_replicated 88 = .ok (.iinc 12 1, 3) := by decide +kernel
theorem dL_replicated_91 : decode cL_replicated 91 = .ok (.iload 13, 2) := by decide +kernel
theorem dL_replicated_93 : decode cL_replicated 93 = .ok (.istore 10, 2) := by decide +kernel
theorem dL_replicated_95 : decode cL_replicated 95 = .ok (.iinc 14 1, 3) := by decide +kernel
theorem dL_replicated_98 : decode cL_replicated 98 = .ok (.goto (-53), 3) := by decide +kernel
theorem dL_replicated_101 : decode cL_replicated 101 = .ok (.iinc 13 1, 3) := by decide +kernel
theorem dL_replicated_104 : decode cL_replicated 104 = .ok (.goto (-81), 3) := by decide +kernel
theorem dL_replicated_107 : decode cL_replicated 107 = .ok (.iconst 0, 1) := by decide +kernel
theorem dL_replicated_108 : decode cL_replicated 108 = .ok (.istore 13, 2) := by decide +kernel
theorem dL_replicated_110 : decode cL_replicated 110 = .ok (.iconst 0, 1) := by decide +kernel
theorem dL_replicated_111 : decode cL_replicated 111 = .ok (.istore 14, 2) := by decide +kernel
theorem dL_replicated_113 : decode cL_replicated 113 = .ok (.iload 14, 2) := by decide +kernel
theorem dL_replicated_115 : decode cL_replicated 115 = .ok (.iconst 4, 1) := by decide +kernel
theorem dL_replicated_116 : decode cL_replicated 116 = .ok (.if_icmp .ge 34, 3) := by decide +kernel
theorem dL_replicated_119 : decode cL_replicated 119 = .ok (.iload 13, 2) := by decide +kernel
theorem dL_replicated_121 : decode cL_replicated 121 = .ok (.aload 4, 2) := by decide +kernel
theorem dL_replicated_123 : decode cL_replicated 123 = .ok (.iconst 4, 1) := by decide +kernel
theorem dL_replicated_124 : decode cL_replicated 124 = .ok (.iload 7, 2) := by decide +kernel
theorem dL_replicated_126 : decode cL_replicated 126 = .ok (.imul, 1) := by decide +kernel
theorem dL_replicated_127 : decode cL_replicated 127 = .ok (.iload 14, 2) := by decide +kernel
theorem dL_replicated_129 : decode cL_replicated 129 = .ok (.iadd, 1) := by decide +kernel
theorem dL_replicated_130 : decode cL_replicated 130 = .ok (.iaload, 1) := by decide +kernel
theorem dL_replicated_131 : decode cL_replicated 131 = .ok (.iload 10, 2) := by decide +kernel
theorem dL_replicated_133 : decode cL_replicated 133 = .ok (.if_icmp .le 7, 3) := by decide +kernel
theorem dL_replicated_136 : decode cL_replicated 136 = .ok (.iconst 1, 1) := by decide +kernel
theorem dL_replicated_137 : decode cL_replicated 137 = .ok (.goto 4, 3) := by decide +kernel
theorem dL_replicated_140 : decode cL_replicated 140 = .ok (.iconst 0, 1) := by decide +kernel
theorem dL_replicated_141 : decode cL_replicated 141 = .ok (.iadd, 1) := by decide +kernel
theorem dL_replicated_142 : decode cL_replicated 142 = .ok (.istore 13, 2) := by decide +kernel
theorem dL_replicated_144 : decode cL_replicated 144 = .ok (.iinc 14 1, 3) := by decide +kernel
theorem dL_replicated_147 : decode cL_replicated 147 = .ok (.goto (-34), 3) := by decide +kernel
theorem dL_replicated_150 : decode cL_replicated 150 = .ok (.iload 13, 2) := by decide +kernel
theorem dL_replicated_152 : decode cL_replicated 152 = .ok (.ifCond .ne 13, 3) := by decide +kernel
theorem dL_replicated_155 : decode cL_replicated 155 = .ok (.aload_n 3, 1) := by decide +kernel
theorem dL_replicated_156 : decode cL_replicated 156 = .ok (.bipush 8, 2) := by decide +kernel
theorem dL_replicated_158 : decode cL_replicated 158 = .ok (.iload 7, 2) := by decide +kernel
theorem dL_replicated_160 : decode cL_replicated 160 = .ok (.iadd, 1) := by decide +kernel
theorem dL_replicated_161 : decode cL_replicated 161 = .ok (.iaload, 1) := by decide +kernel
theorem dL_replicated_162 : decode cL_replicated 162 = .ok (.goto 5, 3) := by decide +kernel
theorem dL_replicated_165 : decode cL_replicated 165 = .ok (.iload 10, 2) := by decide +kernel
theorem dL_replicated_167 : decode cL_replicated 167 = .ok (.istore 10, 2) := by decide +kernel
theorem dL_replicated_169 : decode cL_replicated 169 = .ok (.aload 5, 2) := by decide +kernel
theorem dL_replicated_171 : decode cL_replicated 171 = .ok (.bipush 9, 2) := by decide +kernel
theorem dL_replicated_173 : decode cL_replicated 173 = .ok (.iload 7, 2) := by decide +kernel
theorem dL_replicated_175 : decode cL_replicated 175 = .ok (.imul, 1) := by decide +kernel
theorem dL_replicated_176 : decode cL_replicated 176 = .ok (.iconst 3, 1) := by decide +kernel
theorem dL_replicated_177 : decode cL_replicated 177 = .ok (.iload 7, 2) := by decide +kernel
theorem dL_replicated_179 : decode cL_replicated 179 = .ok (.imul, 1) := by decide +kernel
theorem dL_replicated_180 : decode cL_replicated 180 = .ok (.iadd, 1) := by decide +kernel
theorem dL_replicated_181 : decode cL_replicated 181 = .ok (.iload 8, 2) := by decide +kernel
theorem dL_replicated_183 : decode cL_replicated 183 = .ok (.iadd, 1) := by decide +kernel
theorem dL_replicated_184 : decode cL_replicated 184 = .ok (.iload 10, 2) := by decide +kernel
theorem dL_replicated_186 : decode cL_replicated 186 = .ok (.iastore, 1) := by decide +kernel
theorem dL_replicated_187 : decode cL_replicated 187 = .ok (.aload 5, 2) := by decide +kernel
theorem dL_replicated_189 : decode cL_replicated 189 = .ok (.bipush 9, 2) := by decide +kernel
theorem dL_replicated_191 : decode cL_replicated 191 = .ok (.iload 8, 2) := by decide +kernel
theorem dL_replicated_193 : decode cL_replicated 193 = .ok (.imul, 1) := by decide +kernel
theorem dL_replicated_194 : decode cL_replicated 194 = .ok (.iconst 3, 1) := by decide +kernel
theorem dL_replicated_195 : decode cL_replicated 195 = .ok (.iload 7, 2) := by decide +kernel
theorem dL_replicated_197 : decode cL_replicated 197 = .ok (.imul, 1) := by decide +kernel
theorem dL_replicated_198 : decode cL_replicated 198 = .ok (.iadd, 1) := by decide +kernel
theorem dL_replicated_199 : decode cL_replicated 199 = .ok (.iload 8, 2) := by decide +kernel
theorem dL_replicated_201 : decode cL_replicated 201 = .ok (.iadd, 1) := by decide +kernel
theorem dL_replicated_202 : decode cL_replicated 202 = .ok (.iload 10, 2) := by decide +kernel
theorem dL_replicated_204 : decode cL_replicated 204 = .ok (.iastore, 1) := by decide +kernel
theorem dL_replicated_205 : decode cL_replicated 205 = .ok (.iload 11, 2) := by decide +kernel
theorem dL_replicated_207 : decode cL_replicated 207 = .ok (.ireturn, 1) := by decide +kernel
set_option maxRecDepth 20000 in
theorem ggL_areStores_X3_revisions : GoodIn wsL_areStores wsX3_revisions := goodIn_r _ [5, 6, 172, 173, 174, 175, 176, 177, 178, 179, 180, 181] (by decide +kernel) (by decide +kernel)
set_option maxRecDepth 20000 in
theorem gL_areStores_X3_revisions : GoodIn wsL_areStores (wsV RL 43 RX3 yX3_revisions wsX3_revisions) := goodIn_app (goodIn_of _ (by decide +kernel)) ggL_areStores_X3_revisions
set_option maxRecDepth 20000 in
theorem ggL_areStores_X3_sequence : GoodIn wsL_areStores wsX3_sequence := goodIn_ca (goodIn_r _ [10, 11, 12, 13, 4, 14, 15, 16, 17, 182, 183, 184, 185, 186, 172, 173, 174] (by decide +kernel) (by decide +kernel)) (goodIn_sub (fun _ h => List.mem_cons_of_mem _ (List.mem_append_left _ (List.mem_append_right _ h))) (by decide +kernel))
set_option maxRecDepth 20000 in
theorem gL_areStores_X3_sequence : GoodIn wsL_areStores (wsV RL 49 RX3 yX3_sequence wsX3_sequence) := goodIn_app (goodIn_of _ (by decide +kernel)) ggL_areStores_X3_sequence
set_option maxRecDepth 20000 in
theorem ggL_areStores_X3_size : GoodIn wsL_areStores wsX3_size := goodIn_ca (goodIn_r _ [21, 6, 11, 12, 13, 4, 14, 15, 16, 17, 22, 23, 24, 25, 26, 27, 182, 183, 184, 185, 186, 172, 173, 174, 175, 176, 177, 178, 179, 180, 181, 187, 188, 189] (by decide +kernel) (by decide +kernel)) (goodIn_sub (fun _ h => List.mem_cons_of_mem _ (List.mem_append_left _ (List.mem_append_right _ h))) (by decide +kernel))
set_option maxRecDepth 20000 in
theorem gL_areStores_X3_size : GoodIn wsL_areStores (wsV RL 52 RX3 yX3_size wsX3_size) := goodIn_app (goodIn_of _ (by decide +kernel)) ggL_areStores_X3_size
set_option maxRecDepth 20000 in
theorem ggL_areStores_L_ones : GoodIn wsL_areStores wsL_ones := goodIn_r _ [31] (by decide +kernel) (by decide +kernel)
set_option maxRecDepth 20000 in
theorem gL_areStores_L_ones : GoodIn wsL_areStores (va_wsS RL 23 yL_ones wsL_ones) := goodIn_app (goodIn_of _ (by decide +kernel)) ggL_areStores_L_ones
set_option maxRecDepth 20000 in
theorem ggL_areStores_L_leaves : GoodIn wsL_areStores wsL_leaves := goodIn_r _ [34] (by decide +kernel) (by decide +kernel)
set_option maxRecDepth 20000 in
theorem gL_areStores_L_leaves : GoodIn wsL_areStores (va_wsS RL 9 yL_leaves wsL_leaves) := goodIn_app (goodIn_of _ (by decide +kernel)) ggL_areStores_L_leaves
set_option maxRecDepth 20000 in
theorem ggL_areStores_L_winner : GoodIn wsL_areStores wsL_winner := goodIn_r _ [37, 32, 33, 30, 34, 38, 39, 40] (by decide +kernel) (by decide +kernel)
set_option maxRecDepth 20000 in
theorem gL_areStores_L_winner : GoodIn wsL_areStores (va_wsS RL 55 yL_winner wsL_winner) := goodIn_app (goodIn_of _ (by decide +kernel)) ggL_areStores_L_winner
set_option maxRecDepth 20000 in
theorem ggL_areStores_X3_isLeaf : GoodIn wsL_areStores wsX3_isLeaf := goodIn_ca (goodIn_r _ [44, 11, 12, 13, 4, 14, 15, 16, 17, 45, 46, 47, 48, 6, 49, 50, 51, 25, 52, 27, 53, 54, 55, 56, 57, 182, 183, 184, 185, 186, 172, 173, 174, 175, 176, 177, 178, 179, 180, 181, 187, 188, 189] (by decide +kernel) (by decide +kernel)) (goodIn_sub (fun _ h => List.mem_cons_of_mem _ (List.mem_append_left _ (List.mem_append_right _ h))) (by decide +kernel))
set_option maxRecDepth 20000 in
theorem gL_areStores_X3_isLeaf : GoodIn wsL_areStores (wsV RL 59 RX3 yX3_isLeaf wsX3_isLeaf) := goodIn_app (goodIn_of _ (by decide +kernel)) ggL_areStores_X3_isLeaf
set_option maxRecDepth 20000 in
theorem ggL_areStores_X3_has : GoodIn wsL_areStores wsX3_has := goodIn_ca (goodIn_r _ [61, 11, 12, 13, 4, 14, 15, 16, 17, 45, 46, 47, 48, 6, 182, 183, 184, 185, 186, 187, 188, 189, 172, 173, 174, 175, 176, 177, 178, 179, 180, 181] (by decide +kernel) (by decide +kernel)) (goodIn_sub (fun _ h => List.mem_cons_of_mem _ (List.mem_append_left _ (List.mem_append_right _ h))) (by decide +kernel))
set_option maxRecDepth 20000 in
theorem gL_areStores_X3_has : GoodIn wsL_areStores (wsV RL 63 RX3 yX3_has wsX3_has) := goodIn_app (goodIn_of _ (by decide +kernel)) ggL_areStores_X3_has
set_option maxRecDepth 20000 in
theorem ggL_areStores_X3_winner : GoodIn wsL_areStores wsX3_winner := goodIn_ca (goodIn_r _ [65, 11, 12, 13, 4, 14, 15, 16, 17, 66, 67, 68, 69, 182, 183, 184, 185, 186, 187, 188, 189, 172, 173, 174] (by decide +kernel) (by decide +kernel)) (goodIn_sub (fun _ h => List.mem_cons_of_mem _ (List.mem_append_left _ (List.mem_append_right _ h))) (by decide +kernel))
set_option maxRecDepth 20000 in
theorem gL_areStores_X3_winner : GoodIn wsL_areStores (wsV RL 66 RX3 yX3_winner wsX3_winner) := goodIn_app (goodIn_of _ (by decide +kernel)) ggL_areStores_X3_winner
set_option maxRecDepth 20000 in
theorem ggL_areStores_X3_conflicts : GoodIn wsL_areStores wsX3_conflicts := goodIn_ca (goodIn_r _ [73, 6, 74, 75, 76, 77, 11, 12, 13, 4, 14, 15, 16, 17, 66, 67, 68, 69, 78, 79, 80, 25, 81, 82, 50, 51, 52, 27, 53, 54, 55, 56, 57, 182, 183, 184, 185, 186, 172, 173, 174, 175, 176, 177, 178, 179, 180, 181, 187, 188, 189] (by decide +kernel) (by decide +kernel)) (goodIn_sub (fun _ h => List.mem_cons_of_mem _ (List.mem_append_left _ (List.mem_append_right _ h))) (by decide +kernel))
set_option maxRecDepth 20000 in
theorem gL_areStores_X3_conflicts : GoodIn wsL_areStores (wsV RL 69 RX3 yX3_conflicts wsX3_conflicts) := goodIn_app (goodIn_of _ (by decide +kernel)) ggL_areStores_X3_conflicts
set_option maxRecDepth 20000 in
theorem ggL_areStores_X3_count : GoodIn wsL_areStores wsX3_count := goodIn_ca (goodIn_r _ [86, 6, 11, 12, 13, 4, 14, 15, 16, 17, 87, 88, 89, 25, 90, 91, 182, 183, 184, 185, 186, 172, 173, 174, 187, 188, 189, 175, 176, 177, 178, 179, 180, 181] (by decide +kernel) (by decide +kernel)) (goodIn_sub (fun _ h => List.mem_cons_of_mem _ (List.mem_append_left _ (List.mem_append_right _ h))) (by decide +kernel))
set_option maxRecDepth 20000 in
theorem gL_areStores_X3_count : GoodIn wsL_areStores (wsV RL 72 RX3 yX3_count wsX3_count) := goodIn_app (goodIn_of _ (by decide +kernel)) ggL_areStores_X3_count
set_option maxRecDepth 20000 in
theorem ggL_areStores_X3_winnerOfAll : GoodIn wsL_areStores wsX3_winnerOfAll := goodIn_ca (goodIn_r _ [95, 96, 6, 17, 66, 67, 68, 4, 69, 15, 16, 97, 98, 99, 25, 100, 27, 101, 102, 103, 104, 105, 106, 107, 108, 109, 110, 111, 112, 57, 113, 114, 76, 115, 116, 117, 118, 119, 82, 50, 51, 52, 53, 54, 55, 56, 120, 121, 122, 123, 91, 124, 125, 126, 127, 128, 129, 130, 131, 172, 173, 174, 182, 183, 184, 185, 186, 187, 188, 189, 175, 176, 177, 178, 179, 180, 181] (by decide +kernel) (by decide +kernel)) (goodIn_sub (fun _ h => List.mem_cons_of_mem _ (List.mem_append_left _ (List.mem_append_right _ h))) (by decide +kernel))
set_option maxRecDepth 20000 in
theorem gL_areStores_X3_winnerOfAll : GoodIn wsL_areStores (wsV RL 76 RX3 yX3_winnerOfAll wsX3_winnerOfAll) := goodIn_app (goodIn_of _ (by decide +kernel)) ggL_areStores_X3_winnerOfAll
set_option maxRecDepth 20000 in
theorem ggL_areStores_X3_viewAt : GoodIn wsL_areStores wsX3_viewAt := goodIn_ca (goodIn_r _ [135, 15, 16, 6, 11, 12, 13, 4, 14, 17, 87, 88, 89, 25, 90, 91, 136, 137, 138, 139, 140, 182, 183, 184, 185, 186, 172, 173, 174, 187, 188, 189, 175, 176, 177, 178, 179, 180, 181] (by decide +kernel) (by decide +kernel)) (goodIn_sub (fun _ h => List.mem_cons_of_mem _ (List.mem_append_left _ (List.mem_append_right _ h))) (by decide +kernel))
set_option maxRecDepth 20000 in
theorem gL_areStores_X3_viewAt : GoodIn wsL_areStores (wsV RL 79 RX3 yX3_viewAt wsX3_viewAt) := goodIn_app (goodIn_of _ (by decide +kernel)) ggL_areStores_X3_viewAt
set_option maxRecDepth 20000 in
theorem ggL_areStores_L_start : GoodIn wsL_areStores wsL_start := goodIn_r _ [143] (by decide +kernel) (by decide +kernel)
set_option maxRecDepth 20000 in
theorem gL_areStores_L_start : GoodIn wsL_areStores (va_wsS RL 35 yL_start wsL_start) := goodIn_app (goodIn_of _ (by decide +kernel)) ggL_areStores_L_start
set_option maxRecDepth 20000 in
theorem ggL_areStores_X3_checkpoint : GoodIn wsL_areStores wsX3_checkpoint := goodIn_ca (goodIn_ca (goodIn_r _ [147, 11, 12, 13, 4, 14, 15, 16, 17, 148, 149, 150, 151, 152, 153, 154, 155, 156, 157, 158, 114, 76, 115, 159, 160, 161, 172, 173, 174, 182, 183, 184, 185, 186] (by decide +kernel) (by decide +kernel)) (goodIn_sub (fun _ h => List.mem_cons_of_mem _ (List.mem_append_left _ (List.mem_append_right _ h))) (by decide +kernel))) (goodIn_sub (fun _ h => List.mem_cons_of_mem _ (List.mem_append_right _ h)) (by decide +kernel))
set_option maxRecDepth 20000 in
theorem gL_areStores_X3_checkpoint : GoodIn wsL_areStores (wsV RL 82 RX3 yX3_checkpoint wsX3_checkpoint) := goodIn_app (goodIn_of _ (by decide +kernel)) ggL_areStores_X3_checkpoint
set_option maxRecDepth 20000 in
theorem ggL_areStores_X3_pending : GoodIn wsL_areStores wsX3_pending := goodIn_ca (goodIn_ca (goodIn_r _ [165, 11, 12, 13, 4, 14, 15, 16, 17, 148, 149, 150, 151, 152, 153, 154, 155, 156, 157, 158, 114, 76, 115, 159, 160, 161, 166, 167, 168, 169, 170, 171, 172, 173, 174, 182, 183, 184, 185, 186] (by decide +kernel) (by decide +kernel)) (goodIn_sub (fun _ h => List.mem_cons_of_mem _ (List.mem_append_left _ (List.mem_append_right _ h))) (by decide +kernel))) (goodIn_sub (fun _ h => List.mem_cons_of_mem _ (List.mem_append_right _ h)) (by decide +kernel))
set_option maxRecDepth 20000 in
theorem gL_areStores_X3_pending : GoodIn wsL_areStores (wsV RL 85 RX3 yX3_pending wsX3_pending) := goodIn_app (goodIn_of _ (by decide +kernel)) ggL_areStores_X3_pending
end
section
theorem dL_areStores_0 : decode cL_areStores 0 = .ok (.aload_n 0, 1) := by decide +kernel
theorem dL_areStores_1 : decode cL_areStores 1 = .ok (.invokevirtual 43, 3) := by decide +kernel
theorem dL_areStores_4 : decode cL_areStores 4 = .ok (.aload 9, 2) := by decide +kernel
theorem dL_areStores_6 : decode cL_areStores 6 = .ok (.iconst 0, 1) := by decide +kernel
theorem dL_areStores_7 : decode cL_areStores 7 = .ok (.iaload, 1) := by decide +kernel
theorem dL_areStores_8 : decode cL_areStores 8 = .ok (.if_icmp .ne 7, 3) := by decide +kernel
theorem dL_areStores_11 : decode cL_areStores 11 = .ok (.iconst 1, 1) := by decide +kernel
theorem dL_areStores_12 : decode cL_areStores 12 = .ok (.goto 4, 3) := by decide +kernel
theorem dL_areStores_15 : decode cL_areStores 15 = .ok (.iconst 0, 1) := by decide +kernel
theorem dL_areStores_16 : decode cL_areStores 16 = .ok (.istore 10, 2) := by decide +kernel
theorem dL_areStores_18 : decode cL_areStores 18 = .ok (.iconst 0, 1) := by decide +kernel
theorem dL_areStores_19 : decode cL_areStores 19 = .ok (.istore 11, 2) := by decide +kernel
theorem dL_areStores_21 : decode cL_areStores 21 = .ok (.iload 11, 2) := by decide +kernel
theorem dL_areStores_23 : decode cL_areStores 23 = .ok (.iconst 3, 1) := by decide +kernel
theorem dL_areStores_24 : decode cL_areStores 24 = .ok (.if_icmp .ge 616, 3) := by decide +kernel
theorem dL_areStores_27 : decode cL_areStores 27 = .ok (.iload 10, 2) := by decide +kernel
theorem dL_areStores_29 : decode cL_areStores 29 = .ok (.ifCond .eq 611, 3) := by decide +kernel
theorem dL_areStores_32 : decode cL_areStores 32 = .ok (.iconst 0, 1) := by decide +kernel
theorem dL_areStores_33 : decode cL_areStores 33 = .ok (.istore 12, 2) := by decide +kernel
theorem dL_areStores_35 : decode cL_areStores 35 = .ok (.aload_n 0, 1) := by decide +kernel
theorem dL_areStores_36 : decode cL_areStores 36 = .ok (.iload 11, 2) := by decide +kernel
theorem dL_areStores_38 : decode cL_areStores 38 = .ok (.invokevirtual 49, 3) := by decide +kernel
theorem dL_areStores_41 : decode cL_areStores 41 = .ok (.aload 6, 2) := by decide +kernel
theorem dL_areStores_43 : decode cL_areStores 43 = .ok (.bipush 8, 2) := by decide +kernel
theorem dL_areStores_45 : decode cL_areStores 45 = .ok (.iload 11, 2) := by decide +kernel
theorem dL_areStores_47 : decode cL_areStores 47 = .ok (.iadd, 1) := by decide +kernel
theorem dL_areStores_48 : decode cL_areStores 48 = .ok (.iaload, 1) := by decide +kernel
theorem dL_areStores_49 : decode cL_areStores 49 = .ok (.if_icmp .ne 24, 3) := by decide +kernel
theorem dL_areStores_52 : decode cL_areStores 52 = .ok (.aload_n 0, 1) := by decide +kernel
theorem dL_areStores_53 : decode cL_areStores 53 = .ok (.iload 11, 2) := by decide +kernel
theorem dL_areStores_55 : decode cL_areStores 55 = .ok (.invokevirtual 52, 3) := by decide +kernel
theorem dL_areStores_58 : decode cL_areStores 58 = .ok (.aload 6, 2) := by decide +kernel
theorem dL_areStores_60 : decode cL_areStores 60 = .ok (.iload 11, 2) := by decide +kernel
theorem dL_areStores_62 : decode cL_areStores 62 = .ok (.iaload, 1) := by decide +kernel
theorem dL_areStores_63 : decode cL_areStores 63 = .ok (.invokestatic 23, 3) := by decide +kernel
theorem dL_areStores_66 : decode cL_areStores 66 = .ok (.if_icmp .ne 7, 3) := by decide +kernel
theorem dL_areStores_69 : decode cL_areStores 69 = .ok (.iconst 1, 1) := by decide +kernel
theorem dL_areStores_70 : decode cL_areStores 70 = .ok (.goto 4, 3) := by decide +kernel
theorem dL_areStores_73 : decode cL_areStores 73 = .ok (.iconst 0, 1) := by decide +kernel
theorem dL_areStores_74 : decode cL_areStores 74 = .ok (.istore 10, 2) := by decide +kernel
theorem dL_areStores_76 : decode cL_areStores 76 = .ok (.iconst 0, 1) := by decide +kernel
theorem dL_areStores_77 : decode cL_areStores 77 = .ok (.istore 13, 2) := by decide +kernel
theorem dL_areStores_79 : decode cL_areStores 79 = .ok (.iload 13, 2) := by decide +kernel
theorem dL_areStores_81 : decode cL_areStores 81 = .ok (.iconst 4, 1) := by decide +kernel
theorem dL_areStores_82 : decode cL_areStores 82 = .ok (.if_icmp .ge 329, 3) := by decide +kernel
theorem dL_areStores_85 : decode cL_areStores 85 = .ok (.iload 10, 2) := by decide +kernel
theorem dL_areStores_87 : decode cL_areStores 87 = .ok (.ifCond .eq 324, 3) := by decide +kernel
theorem dL_areStores_90 : decode cL_areStores 90 = .ok (.aload_n 1, 1) := by decide +kernel
theorem dL_areStores_91 : decode cL_areStores 91 = .ok (.aload 5, 2) := by decide +kernel
theorem dL_areStores_93 : decode cL_areStores 93 = .ok (.aload 9, 2) := by decide +kernel
theorem dL_areStores_95 : decode cL_areStores 95 = .ok (.aload 6, 2) := by decide +kernel
theorem dL_areStores_97 : decode cL_areStores 97 = .ok (.iload 11, 2) := by decide +kernel
theorem dL_areStores_99 : decode cL_areStores 99 = .ok (.iaload, 1) := by decide +kernel
theorem dL_areStores_100 : decode cL_areStores 100 = .ok (.iload 13, 2) := by decide +kernel
theorem dL_areStores_102 : decode cL_areStores 102 = .ok (.invokestatic 9, 3) := by decide +kernel
theorem dL_areStores_105 : decode cL_areStores 105 = .ok (.istore 14, 2) := by decide +kernel
theorem dL_areStores_107 : decode cL_areStores 107 = .ok (.aload_n 1, 1) := by decide +kernel
theorem dL_areStores_108 : decode cL_areStores 108 = .ok (.aload_n 2, 1) := by decide +kernel
theorem dL_areStores_109 : decode cL_areStores 109 = .ok (.aload_n 3, 1) := by decide +kernel
theorem dL_areStores_110 : decode cL_areStores 110 = .ok (.aload 4, 2) := by decide +kernel
theorem dL_areStores_112 : decode cL_areStores 112 = .ok (.aload 5, 2) := by decide +kernel
theorem dL_areStores_114 : decode cL_areStores 114 = .ok (.aload 9, 2) := by decide +kernel
theorem dL_areStores_116 : decode cL_areStores 116 = .ok (.aload 6, 2) := by decide +kernel
theorem dL_areStores_118 : decode cL_areStores 118 = .ok (.iload 11, 2) := by decide +kernel
theorem dL_areStores_120 : decode cL_areStores 120 = .ok (.iaload, 1) := by decide +kernel
theorem dL_areStores_121 : decode cL_areStores 121 = .ok (.iload 13, 2) := by decide +kernel
theorem dL_areStores_123 : decode cL_areStores 123 = .ok (.invokestatic 55, 3) := by decide +kernel
theorem dL_areStores_126 : decode cL_areStores 126 = .ok (.istore 15, 2) := by decide +kernel
theorem dL_areStores_128 : decode cL_areStores 128 = .ok (.iconst 0, 1) := by decide +kernel
theorem dL_areStores_129 : decode cL_areStores 129 = .ok (.istore 16, 2) := by decide +kernel
theorem dL_areStores_131 : decode cL_areStores 131 = .ok (.iconst 0, 1) := by decide +kernel
theorem dL_areStores_132 : decode cL_areStores 132 = .ok (.istore 17, 2) := by decide +kernel
theorem dL_areStores_134 : decode cL_areStores 134 = .ok (.iload 17, 2) := by decide +kernel
theorem dL_areStores_136 : decode cL_areStores 136 = .ok (.aload 9, 2) := by decide +kernel
theorem dL_areStores_138 : decode cL_areStores 138 = .ok (.iconst 0, 1) := by decide +kernel
theorem dL_areStores_139 : decode cL_areStores 139 = .ok (.iaload, 1) := by decide +kernel
theorem dL_areStores_140 : decode cL_areStores 140 = .ok (.if_icmp .ge 115, 3) := by decide +kernel
theorem dL_areStores_143 : decode cL_areStores 143 = .ok (.iload 10, 2) := by decide +kernel
theorem dL_areStores_145 : decode cL_areStores 145 = .ok (.ifCond .eq 110, 3) := by decide +kernel
theorem dL_areStores_148 : decode cL_areStores 148 = .ok (.iload 16, 2) := by decide +kernel
theorem dL_areStores_150 : decode cL_areStores 150 = .ok (.iload 14, 2) := by decide +kernel
theorem dL_areStores_152 : decode cL_areStores 152 = .ok (.iload 17, 2) := by decide +kernel
theorem dL_areStores_154 : decode cL_areStores 154 = .ok (.ishr, 1) := by decide +kernel
theorem dL_areStores_155 : decode cL_areStores 155 = .ok (.iconst 1, 1) := by decide +kernel
theorem dL_areStores_156 : decode cL_areStores 156 = .ok (.iand, 1) := by decide +kernel
theorem dL_areStores_157 : decode cL_areStores 157 = .ok (.iconst 1, 1) := by decide +kernel
theorem dL_areStores_158 : decode cL_areStores 158 = .ok (.if_icmp .ne 14, 3) := by decide +kernel
theorem dL_areStores_161 : decode cL_areStores 161 = .ok (.aload_n 2, 1) := by decide +kernel
theorem dL_areStores_162 : decode cL_areStores 162 = .ok (.iload 17, 2) := by decide +kernel
theorem dL_areStores_164 : decode cL_areStores 164 = .ok (.iaload, 1) := by decide +kernel
theorem dL_areStores_165 : decode cL_areStores 165 = .ok (.ifCond .lt 7, 3) := by decide +kernel
theorem dL_areStores_168 : decode cL_areStores 168 = .ok (.iconst 1, 1) := by decide +kernel
theorem dL_areStores_169 : decode cL_areStores 169 = .ok (.goto 4, 3) := by decide +kernel
theorem dL_areStores_172 : decode cL_areStores 172 = .ok (.iconst 0, 1) := by decide +kernel
theorem dL_areStores_173 : decode cL_areStores 173 = .ok (.iadd, 1) := by decide +kernel
theorem dL_areStores_174 : decode cL_areStores 174 = .ok (.istore 16, 2) := by decide +kernel
theorem dL_areStores_176 : decode cL_areStores 176 = .ok (.aload_n 1, 1) := by decide +kernel
theorem dL_areStores_177 : decode cL_areStores 177 = .ok (.iload 17, 2) := by decide +kernel
theorem dL_areStores_179 : decode cL_areStores 179 = .ok (.iaload, 1) := by decide +kernel
theorem dL_areStores_180 : decode cL_areStores 180 = .ok (.iload 13, 2) := by decide +kernel
theorem dL_areStores_182 : decode cL_areStores 182 = .ok (.if_icmp .ne 60, 3) := by decide +kernel
theorem dL_areStores_185 : decode cL_areStores 185 = .ok (.aload_n 0, 1) := by decide +kernel
theorem dL_areStores_186 : decode cL_areStores 186 = .ok (.iload 11, 2) := by decide +kernel
theorem dL_areStores_188 : decode cL_areStores 188 = .ok (.iload 17, 2) := by decide +kernel
theorem dL_areStores_190 : decode cL_areStores 190 = .ok (.invokevirtual 59, 3) := by decide +kernel
theorem dL_areStores_193 : decode cL_areStores 193 = .ok (.iload 14, 2) := by decide +kernel
theorem dL_areStores_195 : decode cL_areStores 195 = .ok (.iload 17, 2) := by decide +kernel
theorem dL_areStores_197 : decode cL_areStores 197 = .ok (.ishr, 1) := by decide +kernel
theorem dL_areStores_198 : decode cL_areStores 198 = .ok (.iconst 1, 1) := by decide +kernel
theorem dL_areStores_199 : decode cL_areStores 199 = .ok (.iand, 1) := by decide +kernel
theorem dL_areStores_200 : decode cL_areStores 200 = .ok (.iconst 1, 1) := by decide +kernel
theorem dL_areStores_201 : decode cL_areStores 201 = .ok (.if_icmp .ne 7, 3) := by decide +kernel
theorem dL_areStores_204 : decode cL_areStores 204 = .ok (.iconst 1, 1) := by decide +kernel
theorem dL_areStores_205 : decode cL_areStores 205 = .ok (.goto 4, 3) := by decide +kernel
theorem dL_areStores_208 : decode cL_areStores 208 = .ok (.iconst 0, 1) := by decide +kernel
theorem dL_areStores_209 : decode cL_areStores 209 = .ok (.if_icmp .ne 37, 3) := by decide +kernel
theorem dL_areStores_212 : decode cL_areStores 212 = .ok (.aload_n 0, 1) := by decide +kernel
theorem dL_areStores_213 : decode cL_areStores 213 = .ok (.iload 11, 2) := by decide +kernel
theorem dL_areStores_215 : decode cL_areStores 215 = .ok (.iload 17, 2) := by decide +kernel
theorem dL_areStores_217 : decode cL_areStores 217 = .ok (.invokevirtual 63, 3) := by decide +kernel
theorem dL_areStores_220 : decode cL_areStores 220 = .ok (.aload 6, 2) := by decide +kernel
theorem dL_areStores_222 : decode cL_areStores 222 = .ok (.iload 11, 2) := by decide +kernel
theorem dL_areStores_224 : decode cL_areStores 224 = .ok (.iaload, 1) := by decide +kernel
theorem dL_areStores_225 : decode cL_areStores 225 = .ok (.iload 17, 2) := by decide +kernel
theorem dL_areStores_227 : decode cL_areStores 227 = .ok (.ishr, 1) := by decide +kernel
theorem dL_areStores_228 : decode cL_areStores 228 = .ok (.iconst 1, 1) := by decide +kernel
theorem dL_areStores_229 : decode cL_areStores 229 = .ok (.iand, 1) := by decide +kernel
theorem dL_areStores_230 : decode cL_areStores 230 = .ok (.iconst 1, 1) := by decide +kernel
theorem dL_areStores_231 : decode cL_areStores 231 = .ok (.if_icmp .ne 7, 3) := by decide +kernel
theorem dL_areStores_234 : decode cL_areStores 234 = .ok (.iconst 1, 1) := by decide +kernel
theorem dL_areStores_235 : decode cL_areStores 235 = .ok (.goto 4, 3) := by decide +kernel
theorem dL_areStores_238 : decode cL_areStores 238 = .ok (.iconst 0, 1) := by decide +kernel
theorem dL_areStores_239 : decode cL_areStores 239 = .ok (.if_icmp .ne 7, 3) := by decide +kernel
theorem dL_areStores_242 : decode cL_areStores 242 = .ok (.iconst 1, 1) := by decide +kernel
theorem dL_areStores_243 : decode cL_areStores 243 = .ok (.goto 4, 3) := by decide +kernel
theorem dL_areStores_246 : decode cL_areStores 246 = .ok (.iconst 0, 1) := by decide +kernel
theorem dL_areStores_247 : decode cL_areStores 247 = .ok (.istore 10, 2) := by decide +kernel
theorem dL_areStores_249 : decode cL_areStores 249 = .ok (.iinc 17 1, 3) := by decide +kernel
theorem dL_areStores_252 : decode cL_areStores 252 = .ok (.goto (-118), 3) := by decide +kernel
theorem dL_areStores_255 : decode cL_areStores 255 = .ok (.iload 12, 2) := by decide +kernel
theorem dL_areStores_257 : decode cL_areStores 257 = .ok (.iload 15, 2) := by decide +kernel
theorem dL_areStores_259 : decode cL_areStores 259 = .ok (.ifCond .lt 14, 3) := by decide +kernel
theorem dL_areStores_262 : decode cL_areStores 262 = .ok (.aload_n 2, 1) := by decide +kernel
theorem dL_areStores_263 : decode cL_areStores 263 = .ok (.iload 15, 2) := by decide +kernel
theorem dL_areStores_265 : decode cL_areStores 265 = .ok (.iaload, 1) := by decide +kernel
theorem dL_areStores_266 : decode cL_areStores 266 = .ok (.ifCond .lt 7, 3) := by decide +kernel
theorem dL_areStores_269 : decode cL_areStores 269 = .ok (.iconst 1, 1) := by decide +kernel
theorem dL_areStores_270 : decode cL_areStores 270 = .ok (.goto 4, 3) := by decide +kernel
theorem dL_areStores_273 : decode cL_areStores 273 = .ok (.iconst 0, 1) := by decide +kernel
theorem dL_areStores_274 : decode cL_areStores 274 = .ok (.iadd, 1) := by decide +kernel
theorem dL_areStores_275 : decode cL_areStores 275 = .ok (.istore 12, 2) := by decide +kernel
theorem dL_areStores_277 : decode cL_areStores 277 = .ok (.iload 10, 2) := by decide +kernel
theorem dL_areStores_279 : decode cL_areStores 279 = .ok (.ifCond .eq 44, 3) := by decide +kernel
theorem dL_areStores_282 : decode cL_areStores 282 = .ok (.aload_n 0, 1) := by decide +kernel
theorem dL_areStores_283 : decode cL_areStores 283 = .ok (.iload 11, 2) := by decide +kernel
theorem dL_areStores_285 : decode cL_areStores 285 = .ok (.iload 13, 2) := by decide +kernel
theorem dL_areStores_287 : decode cL_areStores 287 = .ok (.invokevirtual 66, 3) := by decide +kernel
theorem dL_areStores_290 : decode cL_areStores 290 = .ok (.iload 15, 2) := by decide +kernel
theorem dL_areStores_292 : decode cL_areStores 292 = .ok (.if_icmp .ne 31, 3) := by decide +kernel
theorem dL_areStores_295 : decode cL_areStores 295 = .ok (.aload_n 0, 1) := by decide +kernel
theorem dL_areStores_296 : decode cL_areStores 296 = .ok (.iload 11, 2) := by decide +kernel
theorem dL_areStores_298 : decode cL_areStores 298 = .ok (.iload 13, 2) := by decide +kernel
theorem dL_areStores_300 : decode cL_areStores 300 = .ok (.invokevirtual 69, 3) := by decide +kernel
theorem dL_areStores_303 : decode cL_areStores 303 = .ok (.iload 16, 2) := by decide +kernel
theorem dL_areStores_305 : decode cL_areStores 305 = .ok (.ifCond .ne 7, 3) := by decide +kernel
theorem dL_areStores_308 : decode cL_areStores 308 = .ok (.iconst 0, 1) := by decide +kernel
theorem dL_areStores_309 : decode cL_areStores 309 = .ok (.goto 7, 3) := by decide +kernel
theorem dL_areStores_312 : decode cL_areStores 312 = .ok (.iload 16, 2) := by decide +kernel
theorem dL_areStores_314 : decode cL_areStores 314 = .ok (.iconst 1, 1) := by decide +kernel
theorem dL_areStores_315 : decode cL_areStores 315 = .ok (.isub, 1) := by decide +kernel
theorem dL_areStores_316 : decode cL_areStores 316 = .ok (.if_icmp .ne 7, 3) := by decide +kernel
theorem dL_areStores_319 : decode cL_areStores 319 = .ok (.iconst 1, 1) := by decide +kernel
theorem dL_areStores_320 : decode cL_areStores 320 = .ok (.goto 4, 3) := by decide +kernel
theorem dL_areStores_323 : decode cL_areStores 323 = .ok (.iconst 0, 1) := by decide +kernel
theorem dL_areStores_324 : decode cL_areStores 324 = .ok (.istore 10, 2) := by decide +kernel
theorem dL_areStores_326 : decode cL_areStores 326 = .ok (.iload 10, 2) := by decide +kernel
theorem dL_areStores_328 : decode cL_areStores 328 = .ok (.ifCond .eq 74, 3) := by decide +kernel
theorem dL_areStores_331 : decode cL_areStores 331 = .ok (.iload 15, 2) := by decide +kernel
theorem dL_areStores_333 : decode cL_areStores 333 = .ok (.ifCond .lt 28, 3) := by decide +kernel
theorem dL_areStores_336 : decode cL_areStores 336 = .ok (.aload_n 2, 1) := by decide +kernel
theorem dL_areStores_337 : decode cL_areStores 337 = .ok (.iload 15, 2) := by decide +kernel
theorem dL_areStores_339 : decode cL_areStores 339 = .ok (.iaload, 1) := by decide +kernel
theorem dL_areStores_340 : decode cL_areStores 340 = .ok (.ifCond .lt 21, 3) := by decide +kernel
theorem dL_areStores_343 : decode cL_areStores 343 = .ok (.aload_n 0, 1) := by decide +kernel
theorem dL_areStores_344 : decode cL_areStores 344 = .ok (.iload 11, 2) := by decide +kernel
theorem dL_areStores_346 : decode cL_areStores 346 = .ok (.aload_n 2, 1) := by decide +kernel
theorem dL_areStores_347 : decode cL_areStores 347 = .ok (.iload 15, 2) := by decide +kernel
theorem dL_areStores_349 : decode cL_areStores 349 = .ok (.iaload, 1) := by decide +kernel
theorem dL_areStores_350 : decode cL_areStores 350 = .ok (.aload_n 2, 1) := by decide +kernel
theorem dL_areStores_351 : decode cL_areStores 351 = .ok (.iload 15, 2) := by decide +kernel
theorem dL_areStores_353 : decode cL_areStores 353 = .ok (.iaload, 1) := by decide +kernel
theorem dL_areStores_354 : decode cL_areStores 354 = .ok (.invokevirtual 72, 3) := by decide +kernel
theorem dL_areStores_357 : decode cL_areStores 357 = .ok (.iconst 1, 1) := by decide +kernel
theorem dL_areStores_358 : decode cL_areStores 358 = .ok (.if_icmp .lt 44, 3) := by decide +kernel
theorem dL_areStores_361 : decode cL_areStores 361 = .ok (.aload_n 0, 1) := by decide +kernel
theorem dL_areStores_362 : decode cL_areStores 362 = .ok (.iload 13, 2) := by decide +kernel
theorem dL_areStores_364 : decode cL_areStores 364 = .ok (.invokevirtual 76, 3) := by decide +kernel
theorem dL_areStores_367 : decode cL_areStores 367 = .ok (.aload_n 1, 1) := by decide +kernel
theorem dL_areStores_368 : decode cL_areStores 368 = .ok (.aload_n 2, 1) := by decide +kernel
theorem dL_areStores_369 : decode cL_areStores 369 = .ok (.aload_n 3, 1) := by decide +kernel
theorem dL_areStores_370 : decode cL_areStores 370 = .ok (.aload 4, 2) := by decide +kernel
theorem dL_areStores_372 : decode cL_areStores 372 = .ok (.aload 5, 2) := by decide +kernel
theorem dL_areStores_374 : decode cL_areStores 374 = .ok (.aload 9, 2) := by decide +kernel
theorem dL_areStores_376 : decode cL_areStores 376 = .ok (.aload 6, 2) := by decide +kernel
theorem dL_areStores_378 : decode cL_areStores 378 = .ok (.iconst 0, 1) := by decide +kernel
theorem dL_areStores_379 : decode cL_areStores 379 = .ok (.iaload, 1) := by decide +kernel
theorem dL_areStores_380 : decode cL_areStores 380 = .ok (.aload 6, 2) := by decide +kernel
theorem dL_areStores_382 : decode cL_areStores 382 = .ok (.iconst 1, 1) := by decide +kernel
theorem dL_areStores_383 : decode cL_areStores 383 = .ok (.iaload, 1) := by decide +kernel
theorem dL_areStores_384 : decode cL_areStores 384 = .ok (.ior, 1) := by decide +kernel
theorem dL_areStores_385 : decode cL_areStores 385 = .ok (.aload 6, 2) := by decide +kernel
theorem dL_areStores_387 : decode cL_areStores 387 = .ok (.iconst 2, 1) := by decide +kernel
theorem dL_areStores_388 : decode cL_areStores 388 = .ok (.iaload, 1) := by decide +kernel
theorem dL_areStores_389 : decode cL_areStores 389 = .ok (.ior, 1) := by decide +kernel
theorem dL_areStores_390 : decode cL_areStores 390 = .ok (.iload 13, 2) := by decide +kernel
theorem dL_areStores_392 : decode cL_areStores 392 = .ok (.invokestatic 55, 3) := by decide +kernel
theorem dL_areStores_395 : decode cL_areStores 395 = .ok (.if_icmp .ne 7, 3) := by decide +kernel
theorem dL_areStores_398 : decode cL_areStores 398 = .ok (.iconst 1, 1) := by decide +kernel
theorem dL_areStores_399 : decode cL_areStores 399 = .ok (.goto 4, 3) := by decide +kernel
theorem dL_areStores_402 : decode cL_areStores 402 = .ok (.iconst 0, 1) := by decide +kernel
theorem dL_areStores_403 : decode cL_areStores 403 = .ok (.istore 10, 2) := by decide +kernel
theorem dL_areStores_405 : decode cL_areStores 405 = .ok (.iinc 13 1, 3) := by decide +kernel
theorem dL_areStores_408 : decode cL_areStores 408 = .ok (.goto (-329), 3) := by decide +kernel
theorem dL_areStores_411 : decode cL_areStores 411 = .ok (.iload 10, 2) := by decide +kernel
theorem dL_areStores_413 : decode cL_areStores 413 = .ok (.ifCond .eq 21, 3) := by decide +kernel
theorem dL_areStores_416 : decode cL_areStores 416 = .ok (.aload_n 0, 1) := by decide +kernel
theorem dL_areStores_417 : decode cL_areStores 417 = .ok (.iload 11, 2) := by decide +kernel
theorem dL_areStores_419 : decode cL_areStores 419 = .ok (.iconst 0, 1) := by decide +kernel
theorem dL_areStores_420 : decode cL_areStores 420 = .ok (.bipush 99, 2) := by decide +kernel
theorem dL_areStores_422 : decode cL_areStores 422 = .ok (.invokevirtual 72, 3) := by decide +kernel
theorem dL_areStores_425 : decode cL_areStores 425 = .ok (.iload 12, 2) := by decide +kernel
theorem dL_areStores_427 : decode cL_areStores 427 = .ok (.if_icmp .ne 7, 3) := by decide +kernel
theorem dL_areStores_430 : decode cL_areStores 430 = .ok (.iconst 1, 1) := by decide +kernel
theorem dL_areStores_431 : decode cL_areStores 431 = .ok (.goto 4, 3) := by decide +kernel
theorem dL_areStores_434 : decode cL_areStores 434 = .ok (.iconst 0, 1) := by decide +kernel
theorem dL_areStores_435 : decode cL_areStores 435 = .ok (.istore 10, 2) := by decide +kernel
theorem dL_areStores_437 : decode cL_areStores 437 = .ok (.iconst (-1), 1) := by decide +kernel
theorem dL_areStores_438 : decode cL_areStores 438 = .ok (.istore 13, 2) := by decide +kernel
theorem dL_areStores_440 : decode cL_areStores 440 = .ok (.iconst 0, 1) := by decide +kernel
theorem dL_areStores_441 : decode cL_areStores 441 = .ok (.istore 14, 2) := by decide +kernel
theorem dL_areStores_443 : decode cL_areStores 443 = .ok (.iload 14, 2) := by decide +kernel
theorem dL_areStores_445 : decode cL_areStores 445 = .ok (.iload 12, 2) := by decide +kernel
theorem dL_areStores_447 : decode cL_areStores 447 = .ok (.if_icmp .ge 70, 3) := by decide +kernel
theorem dL_areStores_450 : decode cL_areStores 450 = .ok (.iload 10, 2) := by decide +kernel
theorem dL_areStores_452 : decode cL_areStores 452 = .ok (.ifCond .eq 65, 3) := by decide +kernel
theorem dL_areStores_455 : decode cL_areStores 455 = .ok (.aload_n 0, 1) := by decide +kernel
theorem dL_areStores_456 : decode cL_areStores 456 = .ok (.iload 11, 2) := by decide +kernel
theorem dL_areStores_458 : decode cL_areStores 458 = .ok (.iload 14, 2) := by decide +kernel
theorem dL_areStores_460 : decode cL_areStores 460 = .ok (.invokevirtual 79, 3) := by decide +kernel
theorem dL_areStores_463 : decode cL_areStores 463 = .ok (.istore 15, 2) := by decide +kernel
theorem dL_areStores_465 : decode cL_areStores 465 = .ok (.iconst 4, 1) := by decide +kernel
theorem dL_areStores_466 : decode cL_areStores 466 = .ok (.aload_n 2, 1) := by decide +kernel
theorem dL_areStores_467 : decode cL_areStores 467 = .ok (.aload_n 1, 1) := by decide +kernel
theorem dL_areStores_468 : decode cL_areStores 468 = .ok (.aload_n 2, 1) := by decide +kernel
theorem dL_areStores_469 : decode cL_areStores 469 = .ok (.aload_n 3, 1) := by decide +kernel
theorem dL_areStores_470 : decode cL_areStores 470 = .ok (.aload 4, 2) := by decide +kernel
theorem dL_areStores_472 : decode cL_areStores 472 = .ok (.aload 5, 2) := by decide +kernel
theorem dL_areStores_474 : decode cL_areStores 474 = .ok (.aload 9, 2) := by decide +kernel
theorem dL_areStores_476 : decode cL_areStores 476 = .ok (.aload 6, 2) := by decide +kernel
theorem dL_areStores_478 : decode cL_areStores 478 = .ok (.iload 11, 2) := by decide +kernel
theorem dL_areStores_480 : decode cL_areStores 480 = .ok (.iaload, 1) := by decide +kernel
theorem dL_areStores_481 : decode cL_areStores 481 = .ok (.iload 15, 2) := by decide +kernel
theorem dL_areStores_483 : decode cL_areStores 483 = .ok (.invokestatic 55, 3) := by decide +kernel
theorem dL_areStores_486 : decode cL_areStores 486 = .ok (.iaload, 1) := by decide +kernel
theorem dL_areStores_487 : decode cL_areStores 487 = .ok (.imul, 1) := by decide +kernel
theorem dL_areStores_488 : decode cL_areStores 488 = .ok (.iload 15, 2) := by decide +kernel
theorem dL_areStores_490 : decode cL_areStores 490 = .ok (.iadd, 1) := by decide +kernel
theorem dL_areStores_491 : decode cL_areStores 491 = .ok (.istore 16, 2) := by decide +kernel
theorem dL_areStores_493 : decode cL_areStores 493 = .ok (.iload 16, 2) := by decide +kernel
theorem dL_areStores_495 : decode cL_areStores 495 = .ok (.iload 13, 2) := by decide +kernel
theorem dL_areStores_497 : decode cL_areStores 497 = .ok (.if_icmp .le 7, 3) := by decide +kernel
theorem dL_areStores_500 : decode cL_areStores 500 = .ok (.iconst 1, 1) := by decide +kernel
theorem dL_areStores_501 : decode cL_areStores 501 = .ok (.goto 4, 3) := by decide +kernel
theorem dL_areStores_504 : decode cL_areStores 504 = .ok (.iconst 0, 1) := by decide +kernel
theorem dL_areStores_505 : decode cL_areStores 505 = .ok (.istore 10, 2) := by decide +kernel
theorem dL_areStores_507 : decode cL_areStores 507 = .ok (.iload 16, 2) := by decide +kernel
theorem dL_areStores_509 : decode cL_areStores 509 = .ok (.istore 13, 2) := by decide +kernel
theorem dL_areStores_511 : decode cL_areStores 511 = .ok (.iinc 14 1, 3) := by decide +kernel
theorem dL_areStores_514 : decode cL_areStores 514 = .ok (.goto (-71), 3) := by decide +kernel
theorem dL_areStores_517 : decode cL_areStores 517 = .ok (.iconst 0, 1) := by decide +kernel
theorem dL_areStores_518 : decode cL_areStores 518 = .ok (.istore 14, 2) := by decide +kernel
theorem dL_areStores_520 : decode cL_areStores 520 = .ok (.iload 14, 2) := by decide +kernel
theorem dL_areStores_522 : decode cL_areStores 522 = .ok (.iconst 3, 1) := by decide +kernel
theorem dL_areStores_523 : decode cL_areStores 523 = .ok (.if_icmp .ge 111, 3) := by decide +kernel
theorem dL_areStores_526 : decode cL_areStores 526 = .ok (.iload 10, 2) := by decide +kernel
theorem dL_areStores_528 : decode cL_areStores 528 = .ok (.ifCond .eq 106, 3) := by decide +kernel
theorem dL_areStores_531 : decode cL_areStores 531 = .ok (.iconst 0, 1) := by decide +kernel
theorem dL_areStores_532 : decode cL_areStores 532 = .ok (.istore 15, 2) := by decide +kernel
theorem dL_areStores_534 : decode cL_areStores 534 = .ok (.iconst 0, 1) := by decide +kernel
theorem dL_areStores_535 : decode cL_areStores 535 = .ok (.istore 16, 2) := by decide +kernel
theorem dL_areStores_537 : decode cL_areStores 537 = .ok (.iload 16, 2) := by decide +kernel
theorem dL_areStores_539 : decode cL_areStores 539 = .ok (.iconst 4, 1) := by decide +kernel
theorem dL_areStores_540 : decode cL_areStores 540 = .ok (.if_icmp .ge 41, 3) := by decide +kernel
theorem dL_areStores_543 : decode cL_areStores 543 = .ok (.iload 15, 2) := by decide +kernel
theorem dL_areStores_545 : decode cL_areStores 545 = .ok (.aload 7, 2) := by decide +kernel
theorem dL_areStores_547 : decode cL_areStores 547 = .ok (.iconst 4, 1) := by decide +kernel
theorem dL_areStores_548 : decode cL_areStores 548 = .ok (.iload 11, 2) := by decide +kernel
theorem dL_areStores_550 : decode cL_areStores 550 = .ok (.imul, 1) := by decide +kernel
theorem dL_areStores_551 : decode cL_areStores 551 = .ok (.iload 16, 2) := by decide +kernel
theorem dL_areStores_553 : decode cL_areStores 553 = .ok (.iadd, 1) := by decide +kernel
theorem dL_areStores_554 : decode cL_areStores 554 = .ok (.iaload, 1) := by decide +kernel
theorem dL_areStores_555 : decode cL_areStores 555 = .ok (.aload 8, 2) := by decide +kernel
theorem dL_areStores_557 : decode cL_areStores 557 = .ok (.iload 11, 2) := by decide +kernel
theorem dL_areStores_559 : decode cL_areStores 559 = .ok (.iload 14, 2) := by decide +kernel
theorem dL_areStores_561 : decode cL_areStores 561 = .ok (.invokestatic 35, 3) := by decide +kernel
theorem dL_areStores_564 : decode cL_areStores 564 = .ok (.if_icmp .le 7, 3) := by decide +kernel
theorem dL_areStores_567 : decode cL_areStores 567 = .ok (.iconst 1, 1) := by decide +kernel
theorem dL_areStores_568 : decode cL_areStores 568 = .ok (.goto 4, 3) := by decide +kernel
theorem dL_areStores_571 : decode cL_areStores 571 = .ok (.iconst 0, 1) := by decide +kernel
theorem dL_areStores_572 : decode cL_areStores 572 = .ok (.iadd, 1) := by decide +kernel
theorem dL_areStores_573 : decode cL_areStores 573 = .ok (.istore 15, 2) := by decide +kernel
theorem dL_areStores_575 : decode cL_areStores 575 = .ok (.iinc 16 1, 3) := by decide +kernel
theorem dL_areStores_578 : decode cL_areStores 578 = .ok (.goto (-41), 3) := by decide +kernel
theorem dL_areStores_581 : decode cL_areStores 581 = .ok (.iload 14, 2) := by decide +kernel
theorem dL_areStores_583 : decode cL_areStores 583 = .ok (.iload 11, 2) := by decide +kernel
theorem dL_areStores_585 : decode cL_areStores 585 = .ok (.if_icmp .eq 36, 3) := by decide +kernel
theorem dL_areStores_588 : decode cL_areStores 588 = .ok (.aload_n 0, 1) := by decide +kernel
theorem dL_areStores_589 : decode cL_areStores 589 = .ok (.iload 11, 2) := by decide +kernel
theorem dL_areStores_591 : decode cL_areStores 591 = .ok (.iload 14, 2) := by decide +kernel
theorem dL_areStores_593 : decode cL_areStores 593 = .ok (.invokevirtual 82, 3) := by decide +kernel
theorem dL_areStores_596 : decode cL_areStores 596 = .ok (.aload 8, 2) := by decide +kernel
theorem dL_areStores_598 : decode cL_areStores 598 = .ok (.iload 11, 2) := by decide +kernel
theorem dL_areStores_600 : decode cL_areStores 600 = .ok (.iload 14, 2) := by decide +kernel
theorem dL_areStores_602 : decode cL_areStores 602 = .ok (.invokestatic 35, 3) := by decide +kernel
theorem dL_areStores_605 : decode cL_areStores 605 = .ok (.if_icmp .ne 20, 3) := by decide +kernel
theorem dL_areStores_608 : decode cL_areStores 608 = .ok (.aload_n 0, 1) := by decide +kernel
theorem dL_areStores_609 : decode cL_areStores 609 = .ok (.iload 11, 2) := by decide +kernel
theorem dL_areStores_611 : decode cL_areStores 611 = .ok (.iload 14, 2) := by decide +kernel
theorem dL_areStores_613 : decode cL_areStores 613 = .ok (.invokevirtual 85, 3) := by decide +kernel
theorem dL_areStores_616 : decode cL_areStores 616 = .ok (.iload 15, 2) := by decide +kernel
theorem dL_areStores_618 : decode cL_areStores 618 = .ok (.if_icmp .ne 7, 3) := by decide +kernel
theorem dL_areStores_621 : decode cL_areStores 621 = .ok (.iconst 1, 1) := by decide +kernel
theorem dL_areStores_622 : decode cL_areStores 622 = .ok (.goto 4, 3) := by decide +kernel
theorem dL_areStores_625 : decode cL_areStores 625 = .ok (.iconst 0, 1) := by decide +kernel
theorem dL_areStores_626 : decode cL_areStores 626 = .ok (.istore 10, 2) := by decide +kernel
theorem dL_areStores_628 : decode cL_areStores 628 = .ok (.iinc 14 1, 3) := by decide +kernel
theorem dL_areStores_631 : decode cL_areStores 631 = .ok (.goto (-111), 3) := by decide +kernel
theorem dL_areStores_634 : decode cL_areStores 634 = .ok (.iinc 11 1, 3) := by decide +kernel
theorem dL_areStores_637 : decode cL_areStores 637 = .ok (.goto (-616), 3) := by decide +kernel
theorem dL_areStores_640 : decode cL_areStores 640 = .ok (.iload 10, 2) := by decide +kernel
theorem dL_areStores_642 : decode cL_areStores 642 = .ok (.ireturn, 1) := by decide +kernel
set_option maxRecDepth 20000 in
theorem ggL_areRevisions_X3_documentOf : GoodIn wsL_areRevisions wsX3_documentOf := goodIn_ca (goodIn_r _ [5, 6, 7, 8, 9, 4, 10, 11, 12, 29, 30, 31, 32, 33, 34, 35, 36, 37, 38] (by decide +kernel) (by decide +kernel)) (goodIn_sub (fun _ h => List.mem_cons_of_mem _ (List.mem_append_right _ h)) (by decide +kernel))
set_option maxRecDepth 20000 in
theorem gL_areRevisions_X3_documentOf : GoodIn wsL_areRevisions (wsV RL 88 RX3 yX3_documentOf wsX3_documentOf) := goodIn_app (goodIn_of _ (by decide +kernel)) ggL_areRevisions_X3_documentOf
set_option maxRecDepth 20000 in
theorem ggL_areRevisions_X3_parentOf : GoodIn wsL_areRevisions wsX3_parentOf := goodIn_ca (goodIn_r _ [16, 6, 7, 8, 9, 4, 10, 11, 12, 29, 30, 31, 32, 33, 34, 35, 36, 37, 38] (by decide +kernel) (by decide +kernel)) (goodIn_sub (fun _ h => List.mem_cons_of_mem _ (List.mem_append_right _ h)) (by decide +kernel))
set_option maxRecDepth 20000 in
theorem gL_areRevisions_X3_parentOf : GoodIn wsL_areRevisions (wsV RL 91 RX3 yX3_parentOf wsX3_parentOf) := goodIn_app (goodIn_of _ (by decide +kernel)) ggL_areRevisions_X3_parentOf
set_option maxRecDepth 20000 in
theorem ggL_areRevisions_X3_generation : GoodIn wsL_areRevisions wsX3_generation := goodIn_ca (goodIn_r _ [20, 6, 7, 8, 9, 4, 10, 11, 12, 29, 30, 31, 32, 33, 34, 35, 36, 37, 38] (by decide +kernel) (by decide +kernel)) (goodIn_sub (fun _ h => List.mem_cons_of_mem _ (List.mem_append_right _ h)) (by decide +kernel))
set_option maxRecDepth 20000 in
theorem gL_areRevisions_X3_generation : GoodIn wsL_areRevisions (wsV RL 94 RX3 yX3_generation wsX3_generation) := goodIn_app (goodIn_of _ (by decide +kernel)) ggL_areRevisions_X3_generation
set_option maxRecDepth 20000 in
theorem ggL_areRevisions_X3_sum : GoodIn wsL_areRevisions wsX3_sum := goodIn_ca (goodIn_r _ [24, 6, 7, 8, 9, 4, 10, 11, 12, 29, 30, 31, 32, 33, 34, 35, 36, 37, 38] (by decide +kernel) (by decide +kernel)) (goodIn_sub (fun _ h => List.mem_cons_of_mem _ (List.mem_append_right _ h)) (by decide +kernel))
set_option maxRecDepth 20000 in
theorem gL_areRevisions_X3_sum : GoodIn wsL_areRevisions (wsV RL 97 RX3 yX3_sum wsX3_sum) := goodIn_app (goodIn_of _ (by decide +kernel)) ggL_areRevisions_X3_sum
set_option maxRecDepth 20000 in
theorem ggL_areRevisions_X3_valueOf : GoodIn wsL_areRevisions wsX3_valueOf := goodIn_ca (goodIn_r _ [28, 6, 7, 8, 9, 4, 10, 11, 12, 29, 30, 31, 32, 33, 34, 35, 36, 37, 38] (by decide +kernel) (by decide +kernel)) (goodIn_sub (fun _ h => List.mem_cons_of_mem _ (List.mem_append_right _ h)) (by decide +kernel))
set_option maxRecDepth 20000 in
theorem gL_areRevisions_X3_valueOf : GoodIn wsL_areRevisions (wsV RL 100 RX3 yX3_valueOf wsX3_valueOf) := goodIn_app (goodIn_of _ (by decide +kernel)) ggL_areRevisions_X3_valueOf
end
section
theorem dL_areRevisions_0 : decode cL_areRevisions 0 = .ok (.iconst 1, 1) := by decide +kernel
theorem dL_areRevisions_1 : decode cL_areRevisions 1 = .ok (.istore 7, 2) := by decide +kernel
theorem dL_areRevisions_3 : decode cL_areRevisions 3 = .ok (.iconst 0, 1) := by decide +kernel
theorem dL_areRevisions_4 : decode cL_areRevisions 4 = .ok (.istore 8, 2) := by decide +kernel
theorem dL_areRevisions_6 : decode cL_areRevisions 6 = .ok (.iload 8, 2) := by decide +kernel
theorem dL_areRevisions_8 : decode cL_areRevisions 8 = .ok (.aload 6, 2) := by decide +kernel
theorem dL_areRevisions_10 : decode cL_areRevisions 10 = .ok (.iconst 0, 1) := by decide +kernel
theorem dL_areRevisions_11 : decode cL_areRevisions 11 = .ok (.iaload, 1) := by decide +kernel
theorem dL_areRevisions_12 : decode cL_areRevisions 12 = .ok (.if_icmp .ge 88, 3) := by decide +kernel
theorem dL_areRevisions_15 : decode cL_areRevisions 15 = .ok (.iload 7, 2) := by decide +kernel
theorem dL_areRevisions_17 : decode cL_areRevisions 17 = .ok (.ifCond .eq 83, 3) := by decide +kernel
theorem dL_areRevisions_20 : decode cL_areRevisions 20 = .ok (.aload_n 0, 1) := by decide +kernel
theorem dL_areRevisions_21 : decode cL_areRevisions 21 = .ok (.iload 8, 2) := by decide +kernel
theorem dL_areRevisions_23 : decode cL_areRevisions 23 = .ok (.invokevirtual 88, 3) := by decide +kernel
theorem dL_areRevisions_26 : decode cL_areRevisions 26 = .ok (.aload_n 1, 1) := by decide +kernel
theorem dL_areRevisions_27 : decode cL_areRevisions 27 = .ok (.iload 8, 2) := by decide +kernel
theorem dL_areRevisions_29 : decode cL_areRevisions 29 = .ok (.iaload, 1) := by decide +kernel
theorem dL_areRevisions_30 : decode cL_areRevisions 30 = .ok (.if_icmp .ne 61, 3) := by decide +kernel
theorem dL_areRevisions_33 : decode cL_areRevisions 33 = .ok (.aload_n 0, 1) := by decide +kernel
theorem dL_areRevisions_34 : decode cL_areRevisions 34 = .ok (.iload 8, 2) := by decide +kernel
theorem dL_areRevisions_36 : decode cL_areRevisions 36 = .ok (.invokevirtual 91, 3) := by decide +kernel
theorem dL_areRevisions_39 : decode cL_areRevisions 39 = .ok (.aload_n 3, 1) := by decide +kernel
theorem dL_areRevisions_40 : decode cL_areRevisions 40 = .ok (.iload 8, 2) := by decide +kernel
theorem dL_areRevisions_42 : decode cL_areRevisions 42 = .ok (.iaload, 1) := by decide +kernel
theorem dL_areRevisions_43 : decode cL_areRevisions 43 = .ok (.if_icmp .ne 48, 3) := by decide +kernel
theorem dL_areRevisions_46 : decode cL_areRevisions 46 = .ok (.aload_n 0, 1) := by decide +kernel
theorem dL_areRevisions_47 : decode cL_areRevisions 47 = .ok (.iload 8, 2) := by decide +kernel
theorem dL_areRevisions_49 : decode cL_areRevisions 49 = .ok (.invokevirtual 94, 3) := by decide +kernel
theorem dL_areRevisions_52 : decode cL_areRevisions 52 = .ok (.aload 4, 2) := by decide +kernel
theorem dL_areRevisions_54 : decode cL_areRevisions 54 = .ok (.iload 8, 2) := by decide +kernel
theorem dL_areRevisions_56 : decode cL_areRevisions 56 = .ok (.iaload, 1) := by decide +kernel
theorem dL_areRevisions_57 : decode cL_areRevisions 57 = .ok (.if_icmp .ne 34, 3) := by decide +kernel
theorem dL_areRevisions_60 : decode cL_areRevisions 60 = .ok (.aload_n 0, 1) := by decide +kernel
theorem dL_areRevisions_61 : decode cL_areRevisions 61 = .ok (.iload 8, 2) := by decide +kernel
theorem dL_areRevisions_63 : decode cL_areRevisions 63 = .ok (.invokevirtual 97, 3) := by decide +kernel
theorem dL_areRevisions_66 : decode cL_areRevisions 66 = .ok (.aload 5, 2) := by decide +kernel
theorem dL_areRevisions_68 : decode cL_areRevisions 68 = .ok (.iload 8, 2) := by decide +kernel
theorem dL_areRevisions_70 : decode cL_areRevisions 70 = .ok (.iaload, 1) := by decide +kernel
theorem dL_areRevisions_71 : decode cL_areRevisions 71 = .ok (.if_icmp .ne 20, 3) := by decide +kernel
theorem dL_areRevisions_74 : decode cL_areRevisions 74 = .ok (.aload_n 0, 1) := by decide +kernel
theorem dL_areRevisions_75 : decode cL_areRevisions 75 = .ok (.iload 8, 2) := by decide +kernel
theorem dL_areRevisions_77 : decode cL_areRevisions 77 = .ok (.invokevirtual 100, 3) := by decide +kernel
theorem dL_areRevisions_80 : decode cL_areRevisions 80 = .ok (.aload_n 2, 1) := by decide +kernel
theorem dL_areRevisions_81 : decode cL_areRevisions 81 = .ok (.iload 8, 2) := by decide +kernel
theorem dL_areRevisions_83 : decode cL_areRevisions 83 = .ok (.iaload, 1) := by decide +kernel
theorem dL_areRevisions_84 : decode cL_areRevisions 84 = .ok (.if_icmp .ne 7, 3) := by decide +kernel
theorem dL_areRevisions_87 : decode cL_areRevisions 87 = .ok (.iconst 1, 1) := by decide +kernel
theorem dL_areRevisions_88 : decode cL_areRevisions 88 = .ok (.goto 4, 3) := by decide +kernel
theorem dL_areRevisions_91 : decode cL_areRevisions 91 = .ok (.iconst 0, 1) := by decide +kernel
theorem dL_areRevisions_92 : decode cL_areRevisions 92 = .ok (.istore 7, 2) := by decide +kernel
theorem dL_areRevisions_94 : decode cL_areRevisions 94 = .ok (.iinc 8 1, 3) := by decide +kernel
theorem dL_areRevisions_97 : decode cL_areRevisions 97 = .ok (.goto (-91), 3) := by decide +kernel
theorem dL_areRevisions_100 : decode cL_areRevisions 100 = .ok (.iload 7, 2) := by decide +kernel
theorem dL_areRevisions_102 : decode cL_areRevisions 102 = .ok (.ireturn, 1) := by decide +kernel
set_option maxRecDepth 20000 in
theorem ggL_edited_X3_edit : GoodIn wsL_edited wsX3_edit := goodIn_ca (goodIn_ca (goodIn_ca (goodIn_r _ [6, 7, 8, 9, 10, 11, 5, 12, 13, 14, 15, 16, 17, 18, 19, 20, 21, 22, 23, 24, 25, 26, 27, 28, 29, 30, 31, 32, 33, 34, 35, 36, 37, 38, 39, 40, 41, 42, 43, 44, 45, 46, 47, 48, 49, 50, 51, 52, 53, 54, 55, 56, 57, 58, 59, 60, 61, 62, 63, 64, 65, 66, 67, 68, 69, 70, 71, 72, 73, 74, 75, 76, 77, 78, 79, 80, 81, 82, 83, 84, 85, 86, 87, 88, 89, 90, 91, 92, 93, 94, 95, 96, 97, 98, 99, 100, 101, 102, 103, 104, 105, 106, 107, 108, 109, 110, 111, 112, 113, 114, 115, 116, 117, 118, 119, 120, 121, 122, 123, 124, 125, 126, 127, 128, 129, 130] (by decide +kernel) (by decide +kernel)) (goodIn_sub (fun _ h => List.mem_cons_of_mem _ (List.mem_append_left _ (List.mem_append_left _ (List.mem_append_right _ h)))) (by decide +kernel))) (goodIn_sub (fun _ h => List.mem_cons_of_mem _ (List.mem_append_left _ (List.mem_append_right _ h))) (by decide +kernel))) (goodIn_sub (fun _ h => List.mem_cons_of_mem _ (List.mem_append_right _ h)) (by decide +kernel))
set_option maxRecDepth 20000 in
theorem gL_edited_X3_edit : GoodIn wsL_edited (wsV RL 103 RX3 yX3_edit wsX3_edit) := goodIn_app (goodIn_of _ (by decide +kernel)) ggL_edited_X3_edit
theorem dL_edited_0 : decode cL_edited 0 = .ok (.aload_n 0, 1) := by decide +kernel
theorem dL_edited_1 : decode cL_edited 1 = .ok (.iload_n 1, 1) := by decide +kernel
theorem dL_edited_2 : decode cL_edited 2 = .ok (.iload_n 2, 1) := by decide +kernel
theorem dL_edited_3 : decode cL_edited 3 = .ok (.iload_n 3, 1) := by decide +kernel
theorem dL_edited_4 : decode cL_edited 4 = .ok (.iload 4, 2) := by decide +kernel
theorem dL_edited_6 : decode cL_edited 6 = .ok (.invokevirtual 103, 3) := by decide +kernel
theorem dL_edited_9 : decode cL_edited 9 = .ok (.ireturn, 1) := by decide +kernel
theorem dL_edited_10 : decode cL_edited 10 = .ok (.astore 5, 2) := by decide +kernel
theorem dL_edited_12 : decode cL_edited 12 = .ok (.bipush (-2), 2) := by decide +kernel
theorem dL_edited_14 : decode cL_edited 14 = .ok (.ireturn, 1) := by decide +kernel
set_option maxRecDepth 20000 in
theorem ggL_deleted_X3_delete : GoodIn wsL_deleted wsX3_delete := goodIn_ca (goodIn_ca (goodIn_r _ [6, 7, 8, 9, 10, 11, 12, 5, 13, 14, 15, 16, 17, 18, 19, 20, 21, 22, 23, 24, 25, 26, 27, 28, 29, 30, 31, 32, 33, 34, 35, 36, 37, 38, 39, 40, 41, 42, 43, 44, 45, 46, 47, 48, 49, 50, 51, 52, 53, 54, 55, 56, 57, 58, 59, 60, 61, 62, 63, 64, 65, 66, 67, 68, 69, 70, 71, 72, 73, 74, 75, 76, 77, 78, 79, 80, 81, 82, 83, 84, 85, 86, 87, 88, 89, 90, 91, 92, 93, 94, 95, 96, 97, 98, 99, 100, 101, 102, 103, 104, 105, 106, 107, 108, 109, 110, 111, 112, 113, 114, 115, 116, 117, 118, 119, 120, 121, 122, 123, 124] (by decide +kernel) (by decide +kernel)) (goodIn_sub (fun _ h => List.mem_cons_of_mem _ (List.mem_append_left _ (List.mem_append_right _ h))) (by decide +kernel))) (goodIn_sub (fun _ h => List.mem_cons_of_mem _ (List.mem_append_right _ h)) (by decide +kernel))
set_option maxRecDepth 20000 in
theorem gL_deleted_X3_delete : GoodIn wsL_deleted (wsV RL 109 RX3 yX3_delete wsX3_delete) := goodIn_app (goodIn_of _ (by decide +kernel)) ggL_deleted_X3_delete
theorem dL_deleted_0 : decode cL_deleted 0 = .ok (.aload_n 0, 1) := by decide +kernel
theorem dL_deleted_1 : decode cL_deleted 1 = .ok (.iload_n 1, 1) := by decide +kernel
theorem dL_deleted_2 : decode cL_deleted 2 = .ok (.iload_n 2, 1) := by decide +kernel
theorem dL_deleted_3 : decode cL_deleted 3 = .ok (.iload_n 3, 1) := by decide +kernel
theorem dL_deleted_4 : decode cL_deleted 4 = .ok (.invokevirtual 109, 3) := by decide +kernel
theorem dL_deleted_7 : decode cL_deleted 7 = .ok (.ireturn, 1) := by decide +kernel
theorem dL_deleted_8 : decode cL_deleted 8 = .ok (.astore 4, 2) := by decide +kernel
theorem dL_deleted_10 : decode cL_deleted 10 = .ok (.bipush (-2), 2) := by decide +kernel
theorem dL_deleted_12 : decode cL_deleted 12 = .ok (.ireturn, 1) := by decide +kernel
set_option maxRecDepth 20000 in
theorem ggL_acts_L_leaves : GoodIn wsL_acts wsL_leaves := goodIn_r _ [4] (by decide +kernel) (by decide +kernel)
set_option maxRecDepth 20000 in
theorem gL_acts_L_leaves : GoodIn wsL_acts (va_wsS RL 9 yL_leaves wsL_leaves) := goodIn_app (goodIn_of _ (by decide +kernel)) ggL_acts_L_leaves
set_option maxRecDepth 20000 in
theorem ggL_acts_L_deleted : GoodIn wsL_acts wsL_deleted := goodIn_ca (goodIn_ca (goodIn_r _ [7, 8, 9, 10, 11, 12, 13, 14, 15, 16, 17, 18, 19, 20, 21, 22, 23, 24, 25, 26, 27, 28, 29, 30, 31, 32, 33, 34, 35, 36, 37, 38, 39, 40, 41, 42, 43, 44, 45, 46, 47, 48, 49, 50, 51, 52, 53, 54, 55, 56, 57, 58, 59, 60, 61, 62, 63, 64, 65, 66, 67, 68, 69, 70, 71, 72, 73, 74, 75, 76, 77, 78, 79, 80, 81, 82, 83, 84, 85, 86, 87, 88, 89, 90, 91, 92, 93, 94, 95, 96, 97, 98, 99, 100, 101, 102, 103, 104, 105, 106, 107, 108, 109, 110, 111, 112, 113, 206, 207, 208, 209, 210, 211, 212, 213, 214, 215, 216, 217, 218, 219, 220, 221, 222, 223] (by decide +kernel) (by decide +kernel)) (goodIn_sub (fun _ h => List.mem_cons_of_mem _ (List.mem_append_left _ (List.mem_append_left _ (List.mem_append_right _ h)))) (by decide +kernel))) (goodIn_sub (fun _ h => List.mem_cons_of_mem _ (List.mem_append_left _ (List.mem_append_right _ h))) (by decide +kernel))
set_option maxRecDepth 20000 in
theorem gL_acts_L_deleted : GoodIn wsL_acts (va_wsS RL 112 yL_deleted wsL_deleted) := goodIn_app (goodIn_of _ (by decide +kernel)) ggL_acts_L_deleted
set_option maxRecDepth 20000 in
theorem ggL_acts_L_add : GoodIn wsL_acts wsL_add := goodIn_r _ [116, 117, 118, 3, 119, 120, 121, 122, 123, 124, 125, 1, 2, 4, 126, 127, 128] (by decide +kernel) (by decide +kernel)
set_option maxRecDepth 20000 in
theorem gL_acts_L_add : GoodIn wsL_acts (va_wsS RL 116 yL_add wsL_add) := goodIn_app (goodIn_of _ (by decide +kernel)) ggL_acts_L_add
set_option maxRecDepth 20000 in
theorem ggL_acts_L_edited : GoodIn wsL_acts wsL_edited := goodIn_ca (goodIn_ca (goodIn_ca (goodIn_r _ [131, 8, 132, 133, 134, 12, 135, 136, 137, 17, 18, 19, 20, 21, 22, 23, 24, 25, 26, 27, 28, 29, 30, 31, 16, 138, 139, 140, 141, 14, 15, 32, 33, 34, 35, 36, 37, 38, 39, 40, 41, 42, 43, 44, 45, 46, 47, 48, 49, 50, 51, 52, 53, 54, 55, 56, 57, 58, 59, 60, 61, 62, 63, 64, 65, 66, 67, 68, 69, 70, 71, 72, 73, 74, 75, 76, 77, 78, 79, 80, 81, 82, 83, 84, 85, 86, 87, 88, 89, 90, 91, 92, 93, 94, 95, 96, 97, 98, 99, 100, 101, 102, 103, 104, 105, 106, 107, 108, 109, 110, 111, 112, 113, 206, 207, 208, 209, 210, 211, 212, 213, 214, 215, 216, 217, 218, 219, 220, 221, 222, 223] (by decide +kernel) (by decide +kernel)) (goodIn_sub (fun _ h => List.mem_cons_of_mem _ (List.mem_append_right _ h)) (by decide +kernel))) (goodIn_sub (fun _ h => List.mem_cons_of_mem _ (List.mem_append_left _ (List.mem_append_right _ h))) (by decide +kernel))) (goodIn_sub (fun _ h => List.mem_cons_of_mem _ (List.mem_append_left _ (List.mem_append_left _ (List.mem_append_right _ h)))) (by decide +kernel))
set_option maxRecDepth 20000 in
theorem gL_acts_L_edited : GoodIn wsL_acts (va_wsS RL 120 yL_edited wsL_edited) := goodIn_app (goodIn_of _ (by decide +kernel)) ggL_acts_L_edited
set_option maxRecDepth 20000 in
theorem ggL_acts_X3_replicate : GoodIn wsL_acts wsX3_replicate := goodIn_ca (goodIn_ca (goodIn_r _ [145, 136, 137, 16, 17, 18, 19, 12, 20, 21, 22, 23, 146, 147, 148, 149, 150, 151, 152, 153, 154, 93, 94, 95, 155, 156, 157, 158, 159, 160, 74, 161, 82, 162, 163, 164, 165, 76, 166, 167, 168, 39, 169, 41, 100, 37, 38, 40, 42, 43, 44, 45, 46, 170, 171, 172, 173, 77, 78, 79, 80, 81, 83, 84, 85, 86, 87, 88, 89, 90, 91, 92, 96, 97, 98, 99, 101, 102, 103, 104, 105, 106, 107, 108, 58, 109, 64, 69, 70, 110, 111, 112, 113, 206, 207, 208, 216, 217, 218, 219, 220, 209, 210, 211, 212, 213, 214, 215, 221, 222, 223] (by decide +kernel) (by decide +kernel)) (goodIn_sub (fun _ h => List.mem_cons_of_mem _ (List.mem_append_right _ h)) (by decide +kernel))) (goodIn_sub (fun _ h => List.mem_cons_of_mem _ (List.mem_append_left _ (List.mem_append_right _ h))) (by decide +kernel))
set_option maxRecDepth 20000 in
theorem gL_acts_X3_replicate : GoodIn wsL_acts (wsV RL 124 RX3 yX3_replicate wsX3_replicate) := goodIn_app (goodIn_of _ (by decide +kernel)) ggL_acts_X3_replicate
set_option maxRecDepth 20000 in
theorem ggL_acts_L_replicated : GoodIn wsL_acts wsL_replicated := goodIn_r _ [176, 177, 178, 3, 179, 180, 181, 182, 1, 2, 4, 120, 121, 122, 123, 124, 125, 126, 127, 128] (by decide +kernel) (by decide +kernel)
set_option maxRecDepth 20000 in
theorem gL_acts_L_replicated : GoodIn wsL_acts (va_wsS RL 127 yL_replicated wsL_replicated) := goodIn_app (goodIn_of _ (by decide +kernel)) ggL_acts_L_replicated
set_option maxRecDepth 20000 in
theorem ggL_acts_X3_setDepth : GoodIn wsL_acts wsX3_setDepth := goodIn_ca (goodIn_ca (goodIn_r _ [186, 136, 137, 16, 17, 18, 19, 12, 20, 21, 22, 23, 187, 111, 112, 39, 113, 41, 46, 42, 43, 44, 45, 216, 217, 218, 219, 220, 206, 207, 208, 209, 210, 211, 212, 213, 214, 215, 221, 222, 223] (by decide +kernel) (by decide +kernel)) (goodIn_sub (fun _ h => List.mem_cons_of_mem _ (List.mem_append_right _ h)) (by decide +kernel))) (goodIn_sub (fun _ h => List.mem_cons_of_mem _ (List.mem_append_left _ (List.mem_append_right _ h))) (by decide +kernel))
set_option maxRecDepth 20000 in
theorem gL_acts_X3_setDepth : GoodIn wsL_acts (wsV RL 130 RX3 yX3_setDepth wsX3_setDepth) := goodIn_app (goodIn_of _ (by decide +kernel)) ggL_acts_X3_setDepth
set_option maxRecDepth 20000 in
theorem ggL_acts_L_stem : GoodIn wsL_acts wsL_stem := goodIn_r _ [122, 123, 124, 3, 125, 1, 2, 4, 126, 127, 128] (by decide +kernel) (by decide +kernel)
set_option maxRecDepth 20000 in
theorem gL_acts_L_stem : GoodIn wsL_acts (va_wsS RL 31 yL_stem wsL_stem) := goodIn_app (goodIn_of _ (by decide +kernel)) ggL_acts_L_stem
set_option maxRecDepth 20000 in
theorem ggL_acts_L_ones : GoodIn wsL_acts wsL_ones := goodIn_r _ [128] (by decide +kernel) (by decide +kernel)
set_option maxRecDepth 20000 in
theorem gL_acts_L_ones : GoodIn wsL_acts (va_wsS RL 23 yL_ones wsL_ones) := goodIn_app (goodIn_of _ (by decide +kernel)) ggL_acts_L_ones
set_option maxRecDepth 20000 in
theorem ggL_acts_X3_wipe : GoodIn wsL_acts wsX3_wipe := goodIn_ca (goodIn_r _ [191, 16, 17, 18, 19, 12, 20, 21, 22, 23, 192, 193, 194, 39, 195, 41, 196, 197, 198, 74, 199, 76, 81, 82, 200, 201, 202, 203, 204, 84, 85, 86, 87, 88, 89, 90, 91, 46, 92, 93, 94, 95, 96, 97, 98, 99, 100, 37, 38, 40, 42, 43, 44, 45, 101, 102, 103, 104, 105, 106, 107, 108, 58, 109, 64, 69, 70, 205, 216, 217, 218, 219, 220, 206, 207, 208, 209, 210, 211, 212, 213, 214, 215, 221, 222, 223] (by decide +kernel) (by decide +kernel)) (goodIn_sub (fun _ h => List.mem_cons_of_mem _ (List.mem_append_left _ (List.mem_append_right _ h))) (by decide +kernel))
set_option maxRecDepth 20000 in
theorem gL_acts_X3_wipe : GoodIn wsL_acts (wsV RL 133 RX3 yX3_wipe wsX3_wipe) := goodIn_app (goodIn_of _ (by decide +kernel)) ggL_acts_X3_wipe
theorem dL_acts_0 : decode cL_acts 0 = .ok (.iload 12, 2) := by decide +kernel
theorem dL_acts_2 : decode cL_acts 2 = .ok (.iconst 3, 1) := by decide +kernel
theorem dL_acts_3 : decode cL_acts 3 = .ok (.irem, 1) := by decide +kernel
theorem dL_acts_4 : decode cL_acts 4 = .ok (.istore 13, 2) := by decide +kernel
theorem dL_acts_6 : decode cL_acts 6 = .ok (.iload 12, 2) := by decide +kernel
theorem dL_acts_8 : decode cL_acts 8 = .ok (.iconst 3, 1) := by decide +kernel
theorem dL_acts_9 : decode cL_acts 9 = .ok (.idiv, 1) := by decide +kernel
theorem dL_acts_10 : decode cL_acts 10 = .ok (.iconst 5, 1) := by decide +kernel
theorem dL_acts_11 : decode cL_acts 11 = .ok (.irem, 1) := by decide +kernel
theorem dL_acts_12 : decode cL_acts 12 = .ok (.iconst 4, 1) := by decide +kernel
theorem dL_acts_13 : decode cL_acts 13 = .ok (.irem, 1) := by decide +kernel
theorem dL_acts_14 : decode cL_acts 14 = .ok (.istore 14, 2) := by decide +kernel
theorem dL_acts_16 : decode cL_acts 16 = .ok (.iload 13, 2) := by decide +kernel
theorem dL_acts_18 : decode cL_acts 18 = .ok (.iconst 1, 1) := by decide +kernel
theorem dL_acts_19 : decode cL_acts 19 = .ok (.iadd, 1) := by decide +kernel
theorem dL_acts_20 : decode cL_acts 20 = .ok (.iload 12, 2) := by decide +kernel
theorem dL_acts_22 : decode cL_acts 22 = .ok (.bipush 15, 2) := by decide +kernel
theorem dL_acts_24 : decode cL_acts 24 = .ok (.idiv, 1) := by decide +kernel
theorem dL_acts_25 : decode cL_acts 25 = .ok (.iconst 2, 1) := by decide +kernel
theorem dL_acts_26 : decode cL_acts 26 = .ok (.irem, 1) := by decide +kernel
theorem dL_acts_27 : decode cL_acts 27 = .ok (.iadd, 1) := by decide +kernel
theorem dL_acts_28 : decode cL_acts 28 = .ok (.iconst 3, 1) := by decide +kernel
theorem dL_acts_29 : decode cL_acts 29 = .ok (.irem, 1) := by decide +kernel
theorem dL_acts_30 : decode cL_acts 30 = .ok (.istore 15, 2) := by decide +kernel
theorem dL_acts_32 : decode cL_acts 32 = .ok (.aload_n 1, 1) := by decide +kernel
theorem dL_acts_33 : decode cL_acts 33 = .ok (.aload 6, 2) := by decide +kernel
theorem dL_acts_35 : decode cL_acts 35 = .ok (.aload 10, 2) := by decide +kernel
theorem dL_acts_37 : decode cL_acts 37 = .ok (.aload 7, 2) := by decide +kernel
theorem dL_acts_39 : decode cL_acts 39 = .ok (.iload 13, 2) := by decide +kernel
theorem dL_acts_41 : decode cL_acts 41 = .ok (.iaload, 1) := by decide +kernel
theorem dL_acts_42 : decode cL_acts 42 = .ok (.iload 14, 2) := by decide +kernel
theorem dL_acts_44 : decode cL_acts 44 = .ok (.invokestatic 9, 3) := by decide +kernel
theorem dL_acts_47 : decode cL_acts 47 = .ok (.istore 16, 2) := by decide +kernel
theorem dL_acts_49 : decode cL_acts 49 = .ok (.aload 10, 2) := by decide +kernel
theorem dL_acts_51 : decode cL_acts 51 = .ok (.iconst 0, 1) := by decide +kernel
theorem dL_acts_52 : decode cL_acts 52 = .ok (.iaload, 1) := by decide +kernel
theorem dL_acts_53 : decode cL_acts 53 = .ok (.ifCond .ne 7, 3) := by decide +kernel
theorem dL_acts_56 : decode cL_acts 56 = .ok (.iconst 0, 1) := by decide +kernel
theorem dL_acts_57 : decode cL_acts 57 = .ok (.goto 13, 3) := by decide +kernel
theorem dL_acts_60 : decode cL_acts 60 = .ok (.iload 12, 2) := by decide +kernel
theorem dL_acts_62 : decode cL_acts 62 = .ok (.bipush 30, 2) := by decide +kernel
theorem dL_acts_64 : decode cL_acts 64 = .ok (.idiv, 1) := by decide +kernel
theorem dL_acts_65 : decode cL_acts 65 = .ok (.aload 10, 2) := by decide +kernel
theorem dL_acts_67 : decode cL_acts 67 = .ok (.iconst 0, 1) := by decide +kernel
theorem dL_acts_68 : decode cL_acts 68 = .ok (.iaload, 1) := by decide +kernel
theorem dL_acts_69 : decode cL_acts 69 = .ok (.irem, 1) := by decide +kernel
theorem dL_acts_70 : decode cL_acts 70 = .ok (.istore 17, 2) := by decide +kernel
theorem dL_acts_72 : decode cL_acts 72 = .ok (.iconst 0, 1) := by decide +kernel
theorem dL_acts_73 : decode cL_acts 73 = .ok (.istore 18, 2) := by decide +kernel
theorem dL_acts_75 : decode cL_acts 75 = .ok (.iload 18, 2) := by decide +kernel
theorem dL_acts_77 : decode cL_acts 77 = .ok (.aload 10, 2) := by decide +kernel
theorem dL_acts_79 : decode cL_acts 79 = .ok (.iconst 0, 1) := by decide +kernel
theorem dL_acts_80 : decode cL_acts 80 = .ok (.iaload, 1) := by decide +kernel
theorem dL_acts_81 : decode cL_acts 81 = .ok (.if_icmp .ge 57, 3) := by decide +kernel
theorem dL_acts_84 : decode cL_acts 84 = .ok (.iload 12, 2) := by decide +kernel
theorem dL_acts_86 : decode cL_acts 86 = .ok (.iconst 5, 1) := by decide +kernel
theorem dL_acts_87 : decode cL_acts 87 = .ok (.irem, 1) := by decide +kernel
theorem dL_acts_88 : decode cL_acts 88 = .ok (.ifCond .le 50, 3) := by decide +kernel
theorem dL_acts_91 : decode cL_acts 91 = .ok (.iload 16, 2) := by decide +kernel
theorem dL_acts_93 : decode cL_acts 93 = .ok (.iload 18, 2) := by decide +kernel
theorem dL_acts_95 : decode cL_acts 95 = .ok (.ishr, 1) := by decide +kernel
theorem dL_acts_96 : decode cL_acts 96 = .ok (.iconst 1, 1) := by decide +kernel
theorem dL_acts_97 : decode cL_acts 97 = .ok (.iand, 1) := by decide +kernel
theorem dL_acts_98 : decode cL_acts 98 = .ok (.iconst 1, 1) := by decide +kernel
theorem dL_acts_99 : decode cL_acts 99 = .ok (.if_icmp .ne 29, 3) := by decide +kernel
theorem dL_acts_102 : decode cL_acts 102 = .ok (.iload 16, 2) := by decide +kernel
theorem dL_acts_104 : decode cL_acts 104 = .ok (.iload 17, 2) := by decide +kernel
theorem dL_acts_106 : decode cL_acts 106 = .ok (.ishr, 1) := by decide +kernel
theorem dL_acts_107 : decode cL_acts 107 = .ok (.iconst 1, 1) := by decide +kernel
theorem dL_acts_108 : decode cL_acts 108 = .ok (.iand, 1) := by decide +kernel
theorem dL_acts_109 : decode cL_acts 109 = .ok (.ifCond .eq 14, 3) := by decide +kernel
theorem dL_acts_112 : decode cL_acts 112 = .ok (.iload 18, 2) := by decide +kernel
theorem dL_acts_114 : decode cL_acts 114 = .ok (.iconst 3, 1) := by decide +kernel
theorem dL_acts_115 : decode cL_acts 115 = .ok (.irem, 1) := by decide +kernel
theorem dL_acts_116 : decode cL_acts 116 = .ok (.iload 12, 2) := by decide +kernel
theorem dL_acts_118 : decode cL_acts 118 = .ok (.iconst 3, 1) := by decide +kernel
theorem dL_acts_119 : decode cL_acts 119 = .ok (.irem, 1) := by decide +kernel
theorem dL_acts_120 : decode cL_acts 120 = .ok (.if_icmp .ne 8, 3) := by decide +kernel
theorem dL_acts_123 : decode cL_acts 123 = .ok (.iload 18, 2) := by decide +kernel
theorem dL_acts_125 : decode cL_acts 125 = .ok (.goto 5, 3) := by decide +kernel
theorem dL_acts_128 : decode cL_acts 128 = .ok (.iload 17, 2) := by decide +kernel
theorem dL_acts_130 : decode cL_acts 130 = .ok (.istore 17, 2) := by decide +kernel
theorem dL_acts_132 : decode cL_acts 132 = .ok (.iinc 18 1, 3) := by decide +kernel
theorem dL_acts_135 : decode cL_acts 135 = .ok (.goto (-60), 3) := by decide +kernel
theorem dL_acts_138 : decode cL_acts 138 = .ok (.iload 11, 2) := by decide +kernel
theorem dL_acts_140 : decode cL_acts 140 = .ok (.bipush 6, 2) := by decide +kernel
theorem dL_acts_142 : decode cL_acts 142 = .ok (.if_icmp .ge 271, 3) := by decide +kernel
theorem dL_acts_145 : decode cL_acts 145 = .ok (.aload 10, 2) := by decide +kernel
theorem dL_acts_147 : decode cL_acts 147 = .ok (.iconst 0, 1) := by decide +kernel
theorem dL_acts_148 : decode cL_acts 148 = .ok (.iaload, 1) := by decide +kernel
theorem dL_acts_149 : decode cL_acts 149 = .ok (.bipush 24, 2) := by decide +kernel
theorem dL_acts_151 : decode cL_acts 151 = .ok (.if_icmp .ge 262, 3) := by decide +kernel
theorem dL_acts_154 : decode cL_acts 154 = .ok (.iload 12, 2) := by decide +kernel
theorem dL_acts_156 : decode cL_acts 156 = .ok (.sipush 900, 3) := by decide +kernel
theorem dL_acts_159 : decode cL_acts 159 = .ok (.idiv, 1) := by decide +kernel
theorem dL_acts_160 : decode cL_acts 160 = .ok (.bipush 6, 2) := by decide +kernel
theorem dL_acts_162 : decode cL_acts 162 = .ok (.irem, 1) := by decide +kernel
theorem dL_acts_163 : decode cL_acts 163 = .ok (.istore 18, 2) := by decide +kernel
theorem dL_acts_165 : decode cL_acts 165 = .ok (.iload 16, 2) := by decide +kernel
theorem dL_acts_167 : decode cL_acts 167 = .ok (.ifCond .ne 15, 3) := by decide +kernel
theorem dL_acts_170 : decode cL_acts 170 = .ok (.iload 12, 2) := by decide +kernel
theorem dL_acts_172 : decode cL_acts 172 = .ok (.bipush 7, 2) := by decide +kernel
theorem dL_acts_174 : decode cL_acts 174 = .ok (.irem, 1) := by decide +kernel
theorem dL_acts_175 : decode cL_acts 175 = .ok (.ifCond .le 7, 3) := by decide +kernel
theorem dL_acts_178 : decode cL_acts 178 = .ok (.iconst 1, 1) := by decide +kernel
theorem dL_acts_179 : decode cL_acts 179 = .ok (.goto 4, 3) := by decide +kernel
theorem dL_acts_182 : decode cL_acts 182 = .ok (.iconst 0, 1) := by decide +kernel
theorem dL_acts_183 : decode cL_acts 183 = .ok (.istore 19, 2) := by decide +kernel
theorem dL_acts_185 : decode cL_acts 185 = .ok (.iload 19, 2) := by decide +kernel
theorem dL_acts_187 : decode cL_acts 187 = .ok (.ifCond .ne 21, 3) := by decide +kernel
theorem dL_acts_190 : decode cL_acts 190 = .ok (.aload 10, 2) := by decide +kernel
theorem dL_acts_192 : decode cL_acts 192 = .ok (.iconst 0, 1) := by decide +kernel
theorem dL_acts_193 : decode cL_acts 193 = .ok (.iaload, 1) := by decide +kernel
theorem dL_acts_194 : decode cL_acts 194 = .ok (.ifCond .le 18, 3) := by decide +kernel
theorem dL_acts_197 : decode cL_acts 197 = .ok (.iload 16, 2) := by decide +kernel
theorem dL_acts_199 : decode cL_acts 199 = .ok (.iload 17, 2) := by decide +kernel
theorem dL_acts_201 : decode cL_acts 201 = .ok (.ishr, 1) := by decide +kernel
theorem dL_acts_202 : decode cL_acts 202 = .ok (.iconst 1, 1) := by decide +kernel
theorem dL_acts_203 : decode cL_acts 203 = .ok (.iand, 1) := by decide +kernel
theorem dL_acts_204 : decode cL_acts 204 = .ok (.iconst 1, 1) := by decide +kernel
theorem dL_acts_205 : decode cL_acts 205 = .ok (.if_icmp .ne 7, 3) := by decide +kernel
theorem dL_acts_208 : decode cL_acts 208 = .ok (.iconst 1, 1) := by decide +kernel
theorem dL_acts_209 : decode cL_acts 209 = .ok (.goto 4, 3) := by decide +kernel
theorem dL_acts_212 : decode cL_acts 212 = .ok (.iconst 0, 1) := by decide +kernel
theorem dL_acts_213 : decode cL_acts 213 = .ok (.istore 20, 2) := by decide +kernel
theorem dL_acts_215 : decode cL_acts 215 = .ok (.aload 10, 2) := by decide +kernel
theorem dL_acts_217 : decode cL_acts 217 = .ok (.iconst 0, 1) := by decide +kernel
theorem dL_acts_218 : decode cL_acts 218 = .ok (.iaload, 1) := by decide +kernel
theorem dL_acts_219 : decode cL_acts 219 = .ok (.ifCond .ne 10, 3) := by decide +kernel
theorem dL_acts_222 : decode cL_acts 222 = .ok (.iload 19, 2) := by decide +kernel
theorem dL_acts_224 : decode cL_acts 224 = .ok (.ifCond .ne 5, 3) := by decide +kernel
theorem dL_acts_227 : decode cL_acts 227 = .ok (.iconst 1, 1) := by decide +kernel
theorem dL_acts_228 : decode cL_acts 228 = .ok (.ireturn, 1) := by decide +kernel
theorem dL_acts_229 : decode cL_acts 229 = .ok (.iload 11, 2) := by decide +kernel
theorem dL_acts_231 : decode cL_acts 231 = .ok (.iconst 5, 1) := by decide +kernel
theorem dL_acts_232 : decode cL_acts 232 = .ok (.if_icmp .ne 81, 3) := by decide +kernel
theorem dL_acts_235 : decode cL_acts 235 = .ok (.iload 19, 2) := by decide +kernel
theorem dL_acts_237 : decode cL_acts 237 = .ok (.ifCond .ne 76, 3) := by decide +kernel
theorem dL_acts_240 : decode cL_acts 240 = .ok (.iload 20, 2) := by decide +kernel
theorem dL_acts_242 : decode cL_acts 242 = .ok (.ifCond .eq 14, 3) := by decide +kernel
theorem dL_acts_245 : decode cL_acts 245 = .ok (.aload_n 2, 1) := by decide +kernel
theorem dL_acts_246 : decode cL_acts 246 = .ok (.iload 17, 2) := by decide +kernel
theorem dL_acts_248 : decode cL_acts 248 = .ok (.iaload, 1) := by decide +kernel
theorem dL_acts_249 : decode cL_acts 249 = .ok (.ifCond .lt 7, 3) := by decide +kernel
theorem dL_acts_252 : decode cL_acts 252 = .ok (.iconst 1, 1) := by decide +kernel
theorem dL_acts_253 : decode cL_acts 253 = .ok (.goto 4, 3) := by decide +kernel
theorem dL_acts_256 : decode cL_acts 256 = .ok (.iconst 0, 1) := by decide +kernel
theorem dL_acts_257 : decode cL_acts 257 = .ok (.istore 20, 2) := by decide +kernel
theorem dL_acts_259 : decode cL_acts 259 = .ok (.aload_n 0, 1) := by decide +kernel
theorem dL_acts_260 : decode cL_acts 260 = .ok (.iload 13, 2) := by decide +kernel
theorem dL_acts_262 : decode cL_acts 262 = .ok (.iload 14, 2) := by decide +kernel
theorem dL_acts_264 : decode cL_acts 264 = .ok (.iload 17, 2) := by decide +kernel
theorem dL_acts_266 : decode cL_acts 266 = .ok (.invokestatic 112, 3) := by decide +kernel
theorem dL_acts_269 : decode cL_acts 269 = .ok (.iload 20, 2) := by decide +kernel
theorem dL_acts_271 : decode cL_acts 271 = .ok (.ifCond .eq 31, 3) := by decide +kernel
theorem dL_acts_274 : decode cL_acts 274 = .ok (.aload_n 1, 1) := by decide +kernel
theorem dL_acts_275 : decode cL_acts 275 = .ok (.aload_n 2, 1) := by decide +kernel
theorem dL_acts_276 : decode cL_acts 276 = .ok (.aload_n 3, 1) := by decide +kernel
theorem dL_acts_277 : decode cL_acts 277 = .ok (.aload 4, 2) := by decide +kernel
theorem dL_acts_279 : decode cL_acts 279 = .ok (.aload 5, 2) := by decide +kernel
theorem dL_acts_281 : decode cL_acts 281 = .ok (.aload 6, 2) := by decide +kernel
theorem dL_acts_283 : decode cL_acts 283 = .ok (.aload 7, 2) := by decide +kernel
theorem dL_acts_285 : decode cL_acts 285 = .ok (.aload 8, 2) := by decide +kernel
theorem dL_acts_287 : decode cL_acts 287 = .ok (.aload 10, 2) := by decide +kernel
theorem dL_acts_289 : decode cL_acts 289 = .ok (.iload 13, 2) := by decide +kernel
theorem dL_acts_291 : decode cL_acts 291 = .ok (.iload 14, 2) := by decide +kernel
theorem dL_acts_293 : decode cL_acts 293 = .ok (.iload 17, 2) := by decide +kernel
theorem dL_acts_295 : decode cL_acts 295 = .ok (.iconst (-1), 1) := by decide +kernel
theorem dL_acts_296 : decode cL_acts 296 = .ok (.invokestatic 116, 3) := by decide +kernel
theorem dL_acts_299 : decode cL_acts 299 = .ok (.goto 5, 3) := by decide +kernel
theorem dL_acts_302 : decode cL_acts 302 = .ok (.bipush (-2), 2) := by decide +kernel
theorem dL_acts_304 : decode cL_acts 304 = .ok (.if_icmp .ne 7, 3) := by decide +kernel
theorem dL_acts_307 : decode cL_acts 307 = .ok (.iconst 1, 1) := by decide +kernel
theorem dL_acts_308 : decode cL_acts 308 = .ok (.goto 4, 3) := by decide +kernel
theorem dL_acts_311 : decode cL_acts 311 = .ok (.iconst 0, 1) := by decide +kernel
theorem dL_acts_312 : decode cL_acts 312 = .ok (.ireturn, 1) := by decide +kernel
theorem dL_acts_313 : decode cL_acts 313 = .ok (.aload_n 0, 1) := by decide +kernel
theorem dL_acts_314 : decode cL_acts 314 = .ok (.iload 13, 2) := by decide +kernel
theorem dL_acts_316 : decode cL_acts 316 = .ok (.iload 14, 2) := by decide +kernel
theorem dL_acts_318 : decode cL_acts 318 = .ok (.iload 19, 2) := by decide +kernel
theorem dL_acts_320 : decode cL_acts 320 = .ok (.ifCond .eq 7, 3) := by decide +kernel
theorem dL_acts_323 : decode cL_acts 323 = .ok (.iconst (-1), 1) := by decide +kernel
theorem dL_acts_324 : decode cL_acts 324 = .ok (.goto 5, 3) := by decide +kernel
theorem dL_acts_327 : decode cL_acts 327 = .ok (.iload 17, 2) := by decide +kernel
theorem dL_acts_329 : decode cL_acts 329 = .ok (.iload 18, 2) := by decide +kernel
theorem dL_acts_331 : decode cL_acts 331 = .ok (.invokestatic 120, 3) := by decide +kernel
theorem dL_acts_334 : decode cL_acts 334 = .ok (.istore 21, 2) := by decide +kernel
theorem dL_acts_336 : decode cL_acts 336 = .ok (.iload 21, 2) := by decide +kernel
theorem dL_acts_338 : decode cL_acts 338 = .ok (.iload 20, 2) := by decide +kernel
theorem dL_acts_340 : decode cL_acts 340 = .ok (.ifCond .eq 41, 3) := by decide +kernel
theorem dL_acts_343 : decode cL_acts 343 = .ok (.aload_n 1, 1) := by decide +kernel
theorem dL_acts_344 : decode cL_acts 344 = .ok (.aload_n 2, 1) := by decide +kernel
theorem dL_acts_345 : decode cL_acts 345 = .ok (.aload_n 3, 1) := by decide +kernel
theorem dL_acts_346 : decode cL_acts 346 = .ok (.aload 4, 2) := by decide +kernel
theorem dL_acts_348 : decode cL_acts 348 = .ok (.aload 5, 2) := by decide +kernel
theorem dL_acts_350 : decode cL_acts 350 = .ok (.aload 6, 2) := by decide +kernel
theorem dL_acts_352 : decode cL_acts 352 = .ok (.aload 7, 2) := by decide +kernel
theorem dL_acts_354 : decode cL_acts 354 = .ok (.aload 8, 2) := by decide +kernel
theorem dL_acts_356 : decode cL_acts 356 = .ok (.aload 10, 2) := by decide +kernel
theorem dL_acts_358 : decode cL_acts 358 = .ok (.iload 13, 2) := by decide +kernel
theorem dL_acts_360 : decode cL_acts 360 = .ok (.iload 14, 2) := by decide +kernel
theorem dL_acts_362 : decode cL_acts 362 = .ok (.iload 19, 2) := by decide +kernel
theorem dL_acts_364 : decode cL_acts 364 = .ok (.ifCond .eq 7, 3) := by decide +kernel
theorem dL_acts_367 : decode cL_acts 367 = .ok (.iconst (-1), 1) := by decide +kernel
theorem dL_acts_368 : decode cL_acts 368 = .ok (.goto 5, 3) := by decide +kernel
theorem dL_acts_371 : decode cL_acts 371 = .ok (.iload 17, 2) := by decide +kernel
theorem dL_acts_373 : decode cL_acts 373 = .ok (.iload 18, 2) := by decide +kernel
theorem dL_acts_375 : decode cL_acts 375 = .ok (.invokestatic 116, 3) := by decide +kernel
theorem dL_acts_378 : decode cL_acts 378 = .ok (.goto 5, 3) := by decide +kernel
theorem dL_acts_381 : decode cL_acts 381 = .ok (.bipush (-2), 2) := by decide +kernel
theorem dL_acts_383 : decode cL_acts 383 = .ok (.if_icmp .ne 28, 3) := by decide +kernel
theorem dL_acts_386 : decode cL_acts 386 = .ok (.iload 16, 2) := by decide +kernel
theorem dL_acts_388 : decode cL_acts 388 = .ok (.ifCond .eq 19, 3) := by decide +kernel
theorem dL_acts_391 : decode cL_acts 391 = .ok (.aload_n 0, 1) := by decide +kernel
theorem dL_acts_392 : decode cL_acts 392 = .ok (.iload 13, 2) := by decide +kernel
theorem dL_acts_394 : decode cL_acts 394 = .ok (.iload 14, 2) := by decide +kernel
theorem dL_acts_396 : decode cL_acts 396 = .ok (.iconst (-1), 1) := by decide +kernel
theorem dL_acts_397 : decode cL_acts 397 = .ok (.iload 18, 2) := by decide +kernel
theorem dL_acts_399 : decode cL_acts 399 = .ok (.invokestatic 120, 3) := by decide +kernel
theorem dL_acts_402 : decode cL_acts 402 = .ok (.bipush (-2), 2) := by decide +kernel
theorem dL_acts_404 : decode cL_acts 404 = .ok (.if_icmp .ne 7, 3) := by decide +kernel
theorem dL_acts_407 : decode cL_acts 407 = .ok (.iconst 1, 1) := by decide +kernel
theorem dL_acts_408 : decode cL_acts 408 = .ok (.goto 4, 3) := by decide +kernel
theorem dL_acts_411 : decode cL_acts 411 = .ok (.iconst 0, 1) := by decide +kernel
theorem dL_acts_412 : decode cL_acts 412 = .ok (.ireturn, 1) := by decide +kernel
theorem dL_acts_413 : decode cL_acts 413 = .ok (.iload 11, 2) := by decide +kernel
theorem dL_acts_415 : decode cL_acts 415 = .ok (.bipush 10, 2) := by decide +kernel
theorem dL_acts_417 : decode cL_acts 417 = .ok (.if_icmp .ge 55, 3) := by decide +kernel
theorem dL_acts_420 : decode cL_acts 420 = .ok (.iconst 1, 1) := by decide +kernel
theorem dL_acts_421 : decode cL_acts 421 = .ok (.iload 12, 2) := by decide +kernel
theorem dL_acts_423 : decode cL_acts 423 = .ok (.bipush 30, 2) := by decide +kernel
theorem dL_acts_425 : decode cL_acts 425 = .ok (.idiv, 1) := by decide +kernel
theorem dL_acts_426 : decode cL_acts 426 = .ok (.iconst 4, 1) := by decide +kernel
theorem dL_acts_427 : decode cL_acts 427 = .ok (.irem, 1) := by decide +kernel
theorem dL_acts_428 : decode cL_acts 428 = .ok (.iadd, 1) := by decide +kernel
theorem dL_acts_429 : decode cL_acts 429 = .ok (.istore 18, 2) := by decide +kernel
theorem dL_acts_431 : decode cL_acts 431 = .ok (.aload_n 0, 1) := by decide +kernel
theorem dL_acts_432 : decode cL_acts 432 = .ok (.iload 13, 2) := by decide +kernel
theorem dL_acts_434 : decode cL_acts 434 = .ok (.iload 15, 2) := by decide +kernel
theorem dL_acts_436 : decode cL_acts 436 = .ok (.iload 18, 2) := by decide +kernel
theorem dL_acts_438 : decode cL_acts 438 = .ok (.invokevirtual 124, 3) := by decide +kernel
theorem dL_acts_441 : decode cL_acts 441 = .ok (.aload_n 1, 1) := by decide +kernel
theorem dL_acts_442 : decode cL_acts 442 = .ok (.aload 4, 2) := by decide +kernel
theorem dL_acts_444 : decode cL_acts 444 = .ok (.aload 6, 2) := by decide +kernel
theorem dL_acts_446 : decode cL_acts 446 = .ok (.aload 7, 2) := by decide +kernel
theorem dL_acts_448 : decode cL_acts 448 = .ok (.aload 8, 2) := by decide +kernel
theorem dL_acts_450 : decode cL_acts 450 = .ok (.aload 9, 2) := by decide +kernel
theorem dL_acts_452 : decode cL_acts 452 = .ok (.aload 10, 2) := by decide +kernel
theorem dL_acts_454 : decode cL_acts 454 = .ok (.iload 13, 2) := by decide +kernel
theorem dL_acts_456 : decode cL_acts 456 = .ok (.iload 15, 2) := by decide +kernel
theorem dL_acts_458 : decode cL_acts 458 = .ok (.iload 18, 2) := by decide +kernel
theorem dL_acts_460 : decode cL_acts 460 = .ok (.invokestatic 127, 3) := by decide +kernel
theorem dL_acts_463 : decode cL_acts 463 = .ok (.if_icmp .ne 7, 3) := by decide +kernel
theorem dL_acts_466 : decode cL_acts 466 = .ok (.iconst 1, 1) := by decide +kernel
theorem dL_acts_467 : decode cL_acts 467 = .ok (.goto 4, 3) := by decide +kernel
theorem dL_acts_470 : decode cL_acts 470 = .ok (.iconst 0, 1) := by decide +kernel
theorem dL_acts_471 : decode cL_acts 471 = .ok (.ireturn, 1) := by decide +kernel
theorem dL_acts_472 : decode cL_acts 472 = .ok (.iload 11, 2) := by decide +kernel
theorem dL_acts_474 : decode cL_acts 474 = .ok (.bipush 10, 2) := by decide +kernel
theorem dL_acts_476 : decode cL_acts 476 = .ok (.if_icmp .ne 54, 3) := by decide +kernel
theorem dL_acts_479 : decode cL_acts 479 = .ok (.aload 7, 2) := by decide +kernel
theorem dL_acts_481 : decode cL_acts 481 = .ok (.iconst 4, 1) := by decide +kernel
theorem dL_acts_482 : decode cL_acts 482 = .ok (.iload 13, 2) := by decide +kernel
theorem dL_acts_484 : decode cL_acts 484 = .ok (.iadd, 1) := by decide +kernel
theorem dL_acts_485 : decode cL_acts 485 = .ok (.iconst 1, 1) := by decide +kernel
theorem dL_acts_486 : decode cL_acts 486 = .ok (.iload 12, 2) := by decide +kernel
theorem dL_acts_488 : decode cL_acts 488 = .ok (.iconst 3, 1) := by decide +kernel
theorem dL_acts_489 : decode cL_acts 489 = .ok (.idiv, 1) := by decide +kernel
theorem dL_acts_490 : decode cL_acts 490 = .ok (.iconst 5, 1) := by decide +kernel
theorem dL_acts_491 : decode cL_acts 491 = .ok (.irem, 1) := by decide +kernel
theorem dL_acts_492 : decode cL_acts 492 = .ok (.iadd, 1) := by decide +kernel
theorem dL_acts_493 : decode cL_acts 493 = .ok (.iastore, 1) := by decide +kernel
theorem dL_acts_494 : decode cL_acts 494 = .ok (.aload_n 0, 1) := by decide +kernel
theorem dL_acts_495 : decode cL_acts 495 = .ok (.iload 13, 2) := by decide +kernel
theorem dL_acts_497 : decode cL_acts 497 = .ok (.aload 7, 2) := by decide +kernel
theorem dL_acts_499 : decode cL_acts 499 = .ok (.iconst 4, 1) := by decide +kernel
theorem dL_acts_500 : decode cL_acts 500 = .ok (.iload 13, 2) := by decide +kernel
theorem dL_acts_502 : decode cL_acts 502 = .ok (.iadd, 1) := by decide +kernel
theorem dL_acts_503 : decode cL_acts 503 = .ok (.iaload, 1) := by decide +kernel
theorem dL_acts_504 : decode cL_acts 504 = .ok (.invokevirtual 130, 3) := by decide +kernel
theorem dL_acts_507 : decode cL_acts 507 = .ok (.aload_n 1, 1) := by decide +kernel
theorem dL_acts_508 : decode cL_acts 508 = .ok (.aload 4, 2) := by decide +kernel
theorem dL_acts_510 : decode cL_acts 510 = .ok (.aload 6, 2) := by decide +kernel
theorem dL_acts_512 : decode cL_acts 512 = .ok (.aload 7, 2) := by decide +kernel
theorem dL_acts_514 : decode cL_acts 514 = .ok (.aload 10, 2) := by decide +kernel
theorem dL_acts_516 : decode cL_acts 516 = .ok (.iload 13, 2) := by decide +kernel
theorem dL_acts_518 : decode cL_acts 518 = .ok (.invokestatic 31, 3) := by decide +kernel
theorem dL_acts_521 : decode cL_acts 521 = .ok (.if_icmp .ne 7, 3) := by decide +kernel
theorem dL_acts_524 : decode cL_acts 524 = .ok (.iconst 1, 1) := by decide +kernel
theorem dL_acts_525 : decode cL_acts 525 = .ok (.goto 4, 3) := by decide +kernel
theorem dL_acts_528 : decode cL_acts 528 = .ok (.iconst 0, 1) := by decide +kernel
theorem dL_acts_529 : decode cL_acts 529 = .ok (.ireturn, 1) := by decide +kernel
theorem dL_acts_530 : decode cL_acts 530 = .ok (.iload 11, 2) := by decide +kernel
theorem dL_acts_532 : decode cL_acts 532 = .ok (.bipush 11, 2) := by decide +kernel
theorem dL_acts_534 : decode cL_acts 534 = .ok (.if_icmp .ne 93, 3) := by decide +kernel
theorem dL_acts_537 : decode cL_acts 537 = .ok (.iload 12, 2) := by decide +kernel
theorem dL_acts_539 : decode cL_acts 539 = .ok (.iconst 4, 1) := by decide +kernel
theorem dL_acts_540 : decode cL_acts 540 = .ok (.irem, 1) := by decide +kernel
theorem dL_acts_541 : decode cL_acts 541 = .ok (.ifCond .ne 86, 3) := by decide +kernel
theorem dL_acts_544 : decode cL_acts 544 = .ok (.aload 7, 2) := by decide +kernel
theorem dL_acts_546 : decode cL_acts 546 = .ok (.iload 13, 2) := by decide +kernel
theorem dL_acts_548 : decode cL_acts 548 = .ok (.iaload, 1) := by decide +kernel
theorem dL_acts_549 : decode cL_acts 549 = .ok (.invokestatic 23, 3) := by decide +kernel
theorem dL_acts_552 : decode cL_acts 552 = .ok (.istore 18, 2) := by decide +kernel
theorem dL_acts_554 : decode cL_acts 554 = .ok (.aload 7, 2) := by decide +kernel
theorem dL_acts_556 : decode cL_acts 556 = .ok (.iload 13, 2) := by decide +kernel
theorem dL_acts_558 : decode cL_acts 558 = .ok (.iconst 0, 1) := by decide +kernel
theorem dL_acts_559 : decode cL_acts 559 = .ok (.iastore, 1) := by decide +kernel
theorem dL_acts_560 : decode cL_acts 560 = .ok (.aload 7, 2) := by decide +kernel
theorem dL_acts_562 : decode cL_acts 562 = .ok (.bipush 8, 2) := by decide +kernel
theorem dL_acts_564 : decode cL_acts 564 = .ok (.iload 13, 2) := by decide +kernel
theorem dL_acts_566 : decode cL_acts 566 = .ok (.iadd, 1) := by decide +kernel
theorem dL_acts_567 : decode cL_acts 567 = .ok (.iconst 0, 1) := by decide +kernel
theorem dL_acts_568 : decode cL_acts 568 = .ok (.iastore, 1) := by decide +kernel
theorem dL_acts_569 : decode cL_acts 569 = .ok (.iconst 0, 1) := by decide +kernel
theorem dL_acts_570 : decode cL_acts 570 = .ok (.istore 19, 2) := by decide +kernel
theorem dL_acts_572 : decode cL_acts 572 = .ok (.iload 19, 2) := by decide +kernel
theorem dL_acts_574 : decode cL_acts 574 = .ok (.bipush 9, 2) := by decide +kernel
theorem dL_acts_576 : decode cL_acts 576 = .ok (.if_icmp .ge 34, 3) := by decide +kernel
theorem dL_acts_579 : decode cL_acts 579 = .ok (.aload 9, 2) := by decide +kernel
theorem dL_acts_581 : decode cL_acts 581 = .ok (.bipush 9, 2) := by decide +kernel
theorem dL_acts_583 : decode cL_acts 583 = .ok (.iload 13, 2) := by decide +kernel
theorem dL_acts_585 : decode cL_acts 585 = .ok (.imul, 1) := by decide +kernel
theorem dL_acts_586 : decode cL_acts 586 = .ok (.iload 19, 2) := by decide +kernel
theorem dL_acts_588 : decode cL_acts 588 = .ok (.iadd, 1) := by decide +kernel
theorem dL_acts_589 : decode cL_acts 589 = .ok (.iconst 0, 1) := by decide +kernel
theorem dL_acts_590 : decode cL_acts 590 = .ok (.iastore, 1) := by decide +kernel
theorem dL_acts_591 : decode cL_acts 591 = .ok (.aload 8, 2) := by decide +kernel
theorem dL_acts_593 : decode cL_acts 593 = .ok (.iconst 4, 1) := by decide +kernel
theorem dL_acts_594 : decode cL_acts 594 = .ok (.iload 13, 2) := by decide +kernel
theorem dL_acts_596 : decode cL_acts 596 = .ok (.imul, 1) := by decide +kernel
theorem dL_acts_597 : decode cL_acts 597 = .ok (.iload 19, 2) := by decide +kernel
theorem dL_acts_599 : decode cL_acts 599 = .ok (.iconst 4, 1) := by decide +kernel
theorem dL_acts_600 : decode cL_acts 600 = .ok (.irem, 1) := by decide +kernel
theorem dL_acts_601 : decode cL_acts 601 = .ok (.iadd, 1) := by decide +kernel
theorem dL_acts_602 : decode cL_acts 602 = .ok (.iconst 0, 1) := by decide +kernel
theorem dL_acts_603 : decode cL_acts 603 = .ok (.iastore, 1) := by decide +kernel
theorem dL_acts_604 : decode cL_acts 604 = .ok (.iinc 19 1, 3) := by decide +kernel
theorem dL_acts_607 : decode cL_acts 607 = .ok (.goto (-35), 3) := by decide +kernel
theorem dL_acts_610 : decode cL_acts 610 = .ok (.aload_n 0, 1) := by decide +kernel
theorem dL_acts_611 : decode cL_acts 611 = .ok (.iload 13, 2) := by decide +kernel
theorem dL_acts_613 : decode cL_acts 613 = .ok (.invokevirtual 133, 3) := by decide +kernel
theorem dL_acts_616 : decode cL_acts 616 = .ok (.iload 18, 2) := by decide +kernel
theorem dL_acts_618 : decode cL_acts 618 = .ok (.if_icmp .ne 7, 3) := by decide +kernel
theorem dL_acts_621 : decode cL_acts 621 = .ok (.iconst 1, 1) := by decide +kernel
theorem dL_acts_622 : decode cL_acts 622 = .ok (.goto 4, 3) := by decide +kernel
theorem dL_acts_625 : decode cL_acts 625 = .ok (.iconst 0, 1) := by decide +kernel
theorem dL_acts_626 : decode cL_acts 626 = .ok (.ireturn, 1) := by decide +kernel
theorem dL_acts_627 : decode cL_acts 627 = .ok (.iconst 1, 1) := by decide +kernel
theorem dL_acts_628 : decode cL_acts 628 = .ok (.ireturn, 1) := by decide +kernel
set_option maxRecDepth 20000 in
theorem ggL_holds_X3_init : GoodIn wsL_holds wsX3_init := goodIn_r _ [8, 9, 10, 11, 12, 13, 14, 15, 16, 17, 18, 19, 20, 21, 22, 23, 24, 25, 26, 4, 27, 28, 29, 30, 31, 32, 33, 34, 35, 36, 37, 38, 39, 40, 41, 42, 43, 44, 45, 46, 47, 48, 49, 50, 51, 52, 53, 54, 55, 353, 354, 355, 356, 357, 358, 359, 350, 351, 352, 360, 361, 362, 363, 364, 365, 366, 367] (by decide +kernel) (by decide +kernel)
set_option maxRecDepth 20000 in
theorem gL_holds_X3_init : GoodIn wsL_holds (wsX3_init) := ggL_holds_X3_init
set_option maxRecDepth 20000 in
theorem ggL_holds_L_from : GoodIn wsL_holds wsL_from := goodIn_r _ [59, 60, 61] (by decide +kernel) (by decide +kernel)
set_option maxRecDepth 20000 in
theorem gL_holds_L_from : GoodIn wsL_holds (va_wsS RL 137 yL_from wsL_from) := goodIn_app (goodIn_of _ (by decide +kernel)) ggL_holds_L_from
set_option maxRecDepth 20000 in
theorem ggxL_holds_L_acts : GoodIn wsL_holds wsL_acts := goodIn_ca (goodIn_ca (goodIn_ca (goodIn_td 1 (goodIn_1 64 rfl rfl (by decide +kernel)) (goodIn_td 40 (goodIn_r _ [65, 66, 58, 67, 68, 69, 70, 71, 72, 73, 74, 3, 75, 76, 77, 15, 78, 79, 80, 81, 82, 83, 17, 84, 85, 86, 87, 88, 89, 90, 91, 92, 93, 94, 95, 96, 97, 98, 20, 99] (by decide +kernel) (by decide +kernel)) (goodIn_td 40 (goodIn_r _ [39, 100, 101, 102, 103, 40, 104, 105, 106, 107, 108, 109, 110, 111, 112, 113, 114, 14, 115, 34, 27, 28, 29, 31, 116, 117, 118, 119, 32, 33, 120, 121, 122, 23, 123, 50, 124, 125, 126, 127] (by decide +kernel) (by decide +kernel)) (goodIn_td 40 (goodIn_r _ [52, 53, 51, 128, 129, 130, 131, 132, 133, 134, 135, 136, 137, 138, 139, 42, 43, 44, 45, 140, 141, 142, 143, 144, 41, 145, 146, 147, 148, 149, 150, 151, 152, 153, 154, 155, 156, 157, 158, 159] (by decide +kernel) (by decide +kernel)) (goodIn_td 40 (goodIn_r _ [160, 161, 162, 163, 164, 165, 166, 167, 168, 169, 170, 171, 172, 173, 174, 175, 176, 177, 178, 179, 180, 181, 182, 183, 184, 185, 186, 187, 188, 189, 190, 191, 192, 193, 194, 195, 196, 197, 198, 199] (by decide +kernel) (by decide +kernel)) (goodIn_td 40 (goodIn_r _ [200, 201, 202, 203, 204, 205, 206, 207, 208, 209, 210, 211, 212, 213, 214, 215, 216, 217, 218, 219, 220, 221, 222, 223, 224, 225, 226, 227, 228, 229, 230, 231, 232, 233, 234, 235, 236, 237, 238, 54] (by decide +kernel) (by decide +kernel)) (goodIn_r _ [239, 240, 241, 242, 243, 350, 351, 352, 353, 354, 355, 356, 357, 358, 359, 363, 364, 365, 366, 367, 360, 361, 362] (by decide +kernel) (by decide +kernel)))))))) (goodIn_sub (fun _ h => List.mem_cons_of_mem _ (List.mem_append_left _ (List.mem_append_left _ (List.mem_append_right _ h)))) (by decide +kernel))) (goodIn_sub (fun _ h => List.mem_cons_of_mem _ (List.mem_append_left _ (List.mem_append_right _ h))) (by decide +kernel))) (goodIn_sub (fun _ h => List.mem_cons_of_mem _ (List.mem_append_right _ h)) (by decide +kernel))
theorem ggL_holds_L_acts : GoodIn wsL_holds wsL_acts := ggxL_holds_L_acts
set_option maxRecDepth 20000 in
theorem gL_holds_L_acts : GoodIn wsL_holds (va_wsS RL 141 yL_acts wsL_acts) := goodIn_app (goodIn_of _ (by decide +kernel)) ggL_holds_L_acts
set_option maxRecDepth 20000 in
theorem ggL_holds_L_areRevisions : GoodIn wsL_holds wsL_areRevisions := goodIn_ca (goodIn_r _ [246, 247, 248, 249, 3, 250, 15, 88, 89, 90, 91, 82, 83, 251, 252, 253, 254, 255, 256, 257, 258, 259, 260, 261, 262, 263, 264, 265, 266, 350, 351, 352, 353, 354, 355, 356, 357, 358, 359] (by decide +kernel) (by decide +kernel)) (goodIn_sub (fun _ h => List.mem_cons_of_mem _ (List.mem_append_left _ (List.mem_append_right _ h))) (by decide +kernel))
set_option maxRecDepth 20000 in
theorem gL_holds_L_areRevisions : GoodIn wsL_holds (va_wsS RL 145 yL_areRevisions wsL_areRevisions) := goodIn_app (goodIn_of _ (by decide +kernel)) ggL_holds_L_areRevisions
set_option maxRecDepth 20000 in
theorem ggxL_holds_L_areStores : GoodIn wsL_holds wsL_areStores := goodIn_ca (goodIn_ca (goodIn_td 1 (goodIn_1 269 rfl rfl (by decide +kernel)) (goodIn_td 20 (goodIn_r _ [270, 271, 272, 3, 273, 15, 274, 275, 276, 277, 78, 79, 80, 81, 82, 83, 17, 278, 279, 280] (by decide +kernel) (by decide +kernel)) (goodIn_td 1 (goodIn_1 281 rfl rfl (by decide +kernel)) (goodIn_td 40 (goodIn_r _ [231, 232, 233, 20, 234, 39, 165, 166, 58, 167, 65, 66, 67, 282, 283, 284, 285, 286, 287, 288, 289, 290, 291, 88, 89, 90, 91, 96, 97, 98, 99, 100, 101, 102, 103, 40, 292, 293, 294, 295] (by decide +kernel) (by decide +kernel)) (goodIn_td 28 (goodIn_r _ [296, 297, 298, 299, 84, 85, 86, 87, 300, 301, 302, 303, 304, 305, 138, 306, 307, 308, 309, 310, 140, 311, 312, 313, 314, 315, 316, 317] (by decide +kernel) (by decide +kernel)) (goodIn_td 1 (goodIn_1 318 rfl rfl (by decide +kernel)) (goodIn_td 40 (goodIn_r _ [41, 319, 320, 321, 322, 21, 323, 240, 241, 242, 324, 325, 326, 327, 328, 129, 130, 131, 132, 133, 134, 135, 136, 137, 139, 42, 43, 44, 45, 141, 142, 143, 144, 145, 146, 147, 14, 148, 31, 32] (by decide +kernel) (by decide +kernel)) (goodIn_td 40 (goodIn_r _ [33, 329, 330, 331, 332, 333, 334, 335, 336, 337, 216, 217, 218, 338, 339, 340, 341, 185, 186, 187, 188, 175, 176, 189, 190, 191, 192, 193, 194, 195, 196, 342, 343, 344, 345, 346, 347, 348, 23, 349] (by decide +kernel) (by decide +kernel)) (goodIn_r _ [53, 350, 351, 352, 353, 354, 355, 356, 357, 358, 359, 363, 364, 365, 366, 367, 360, 361, 362] (by decide +kernel) (by decide +kernel)))))))))) (goodIn_sub (fun _ h => List.mem_cons_of_mem _ (List.mem_append_left _ (List.mem_append_right _ h))) (by decide +kernel))) (goodIn_sub (fun _ h => List.mem_cons_of_mem _ (List.mem_append_right _ h)) (by decide +kernel))
theorem ggL_holds_L_areStores : GoodIn wsL_holds wsL_areStores := ggxL_holds_L_areStores
set_option maxRecDepth 20000 in
theorem gL_holds_L_areStores : GoodIn wsL_holds (va_wsS RL 149 yL_areStores wsL_areStores) := goodIn_app (goodIn_of _ (by decide +kernel)) ggL_holds_L_areStores
end
section
theorem dL_holds_0 : decode cL_holds 0 = .ok (.new 44, 3) := by decide +kernel
theorem dL_holds_3 : decode cL_holds 3 = .ok (.dup, 1) := by decide +kernel
theorem dL_holds_4 : decode cL_holds 4 = .ok (.invokespecial 136, 3) := by decide +kernel
theorem dL_holds_7 : decode cL_holds 7 = .ok (.astore_n 1, 1) := by decide +kernel
theorem dL_holds_8 : decode cL_holds 8 = .ok (.bipush 24, 2) := by decide +kernel
theorem dL_holds_10 : decode cL_holds 10 = .ok (.newarray .int, 2) := by decide +kernel
theorem dL_holds_12 : decode cL_holds 12 = .ok (.astore_n 2, 1) := by decide +kernel
theorem dL_holds_13 : decode cL_holds 13 = .ok (.bipush 24, 2) := by decide +kernel
theorem dL_holds_15 : decode cL_holds 15 = .ok (.newarray .int, 2) := by decide +kernel
theorem dL_holds_17 : decode cL_holds 17 = .ok (.astore_n 3, 1) := by decide +kernel
theorem dL_holds_18 : decode cL_holds 18 = .ok (.bipush 24, 2) := by decide +kernel
theorem dL_holds_20 : decode cL_holds 20 = .ok (.newarray .int, 2) := by decide +kernel
theorem dL_holds_22 : decode cL_holds 22 = .ok (.astore 4, 2) := by decide +kernel
theorem dL_holds_24 : decode cL_holds 24 = .ok (.bipush 24, 2) := by decide +kernel
theorem dL_holds_26 : decode cL_holds 26 = .ok (.newarray .int, 2) := by decide +kernel
theorem dL_holds_28 : decode cL_holds 28 = .ok (.astore 5, 2) := by decide +kernel
theorem dL_holds_30 : decode cL_holds 30 = .ok (.bipush 24, 2) := by decide +kernel
theorem dL_holds_32 : decode cL_holds 32 = .ok (.newarray .int, 2) := by decide +kernel
theorem dL_holds_34 : decode cL_holds 34 = .ok (.astore 6, 2) := by decide +kernel
theorem dL_holds_36 : decode cL_holds 36 = .ok (.bipush 24, 2) := by decide +kernel
theorem dL_holds_38 : decode cL_holds 38 = .ok (.newarray .int, 2) := by decide +kernel
theorem dL_holds_40 : decode cL_holds 40 = .ok (.astore 7, 2) := by decide +kernel
theorem dL_holds_42 : decode cL_holds 42 = .ok (.bipush 11, 2) := by decide +kernel
theorem dL_holds_44 : decode cL_holds 44 = .ok (.newarray .int, 2) := by decide +kernel
theorem dL_holds_46 : decode cL_holds 46 = .ok (.astore 8, 2) := by decide +kernel
theorem dL_holds_48 : decode cL_holds 48 = .ok (.bipush 12, 2) := by decide +kernel
theorem dL_holds_50 : decode cL_holds 50 = .ok (.newarray .int, 2) := by decide +kernel
theorem dL_holds_52 : decode cL_holds 52 = .ok (.astore 9, 2) := by decide +kernel
theorem dL_holds_54 : decode cL_holds 54 = .ok (.bipush 27, 2) := by decide +kernel
theorem dL_holds_56 : decode cL_holds 56 = .ok (.newarray .int, 2) := by decide +kernel
theorem dL_holds_58 : decode cL_holds 58 = .ok (.astore 10, 2) := by decide +kernel
theorem dL_holds_60 : decode cL_holds 60 = .ok (.iconst 1, 1) := by decide +kernel
theorem dL_holds_61 : decode cL_holds 61 = .ok (.newarray .int, 2) := by decide +kernel
theorem dL_holds_63 : decode cL_holds 63 = .ok (.astore 11, 2) := by decide +kernel
theorem dL_holds_65 : decode cL_holds 65 = .ok (.aload 8, 2) := by decide +kernel
theorem dL_holds_67 : decode cL_holds 67 = .ok (.iconst 4, 1) := by decide +kernel
theorem dL_holds_68 : decode cL_holds 68 = .ok (.bipush 20, 2) := by decide +kernel
theorem dL_holds_70 : decode cL_holds 70 = .ok (.iastore, 1) := by decide +kernel
theorem dL_holds_71 : decode cL_holds 71 = .ok (.aload 8, 2) := by decide +kernel
theorem dL_holds_73 : decode cL_holds 73 = .ok (.iconst 5, 1) := by decide +kernel
theorem dL_holds_74 : decode cL_holds 74 = .ok (.bipush 20, 2) := by decide +kernel
theorem dL_holds_76 : decode cL_holds 76 = .ok (.iastore, 1) := by decide +kernel
theorem dL_holds_77 : decode cL_holds 77 = .ok (.aload 8, 2) := by decide +kernel
theorem dL_holds_79 : decode cL_holds 79 = .ok (.bipush 6, 2) := by decide +kernel
theorem dL_holds_81 : decode cL_holds 81 = .ok (.bipush 20, 2) := by decide +kernel
theorem dL_holds_83 : decode cL_holds 83 = .ok (.iastore, 1) := by decide +kernel
theorem dL_holds_84 : decode cL_holds 84 = .ok (.iconst 1, 1) := by decide +kernel
theorem dL_holds_85 : decode cL_holds 85 = .ok (.istore 12, 2) := by decide +kernel
theorem dL_holds_87 : decode cL_holds 87 = .ok (.iconst 0, 1) := by decide +kernel
theorem dL_holds_88 : decode cL_holds 88 = .ok (.istore 13, 2) := by decide +kernel
theorem dL_holds_90 : decode cL_holds 90 = .ok (.iload 13, 2) := by decide +kernel
theorem dL_holds_92 : decode cL_holds 92 = .ok (.bipush 70, 2) := by decide +kernel
theorem dL_holds_94 : decode cL_holds 94 = .ok (.if_icmp .ge 115, 3) := by decide +kernel
theorem dL_holds_97 : decode cL_holds 97 = .ok (.iload 12, 2) := by decide +kernel
theorem dL_holds_99 : decode cL_holds 99 = .ok (.ifCond .eq 110, 3) := by decide +kernel
theorem dL_holds_102 : decode cL_holds 102 = .ok (.aload_n 1, 1) := by decide +kernel
theorem dL_holds_103 : decode cL_holds 103 = .ok (.aload_n 2, 1) := by decide +kernel
theorem dL_holds_104 : decode cL_holds 104 = .ok (.aload_n 3, 1) := by decide +kernel
theorem dL_holds_105 : decode cL_holds 105 = .ok (.aload 4, 2) := by decide +kernel
theorem dL_holds_107 : decode cL_holds 107 = .ok (.aload 5, 2) := by decide +kernel
theorem dL_holds_109 : decode cL_holds 109 = .ok (.aload 6, 2) := by decide +kernel
theorem dL_holds_111 : decode cL_holds 111 = .ok (.aload 7, 2) := by decide +kernel
theorem dL_holds_113 : decode cL_holds 113 = .ok (.aload 8, 2) := by decide +kernel
theorem dL_holds_115 : decode cL_holds 115 = .ok (.aload 9, 2) := by decide +kernel
theorem dL_holds_117 : decode cL_holds 117 = .ok (.aload 10, 2) := by decide +kernel
theorem dL_holds_119 : decode cL_holds 119 = .ok (.aload 11, 2) := by decide +kernel
theorem dL_holds_121 : decode cL_holds 121 = .ok (.aload_n 0, 1) := by decide +kernel
theorem dL_holds_122 : decode cL_holds 122 = .ok (.iconst 2, 1) := by decide +kernel
theorem dL_holds_123 : decode cL_holds 123 = .ok (.iload 13, 2) := by decide +kernel
theorem dL_holds_125 : decode cL_holds 125 = .ok (.imul, 1) := by decide +kernel
theorem dL_holds_126 : decode cL_holds 126 = .ok (.bipush 12, 2) := by decide +kernel
theorem dL_holds_128 : decode cL_holds 128 = .ok (.invokestatic 137, 3) := by decide +kernel
theorem dL_holds_131 : decode cL_holds 131 = .ok (.aload_n 0, 1) := by decide +kernel
theorem dL_holds_132 : decode cL_holds 132 = .ok (.iconst 2, 1) := by decide +kernel
theorem dL_holds_133 : decode cL_holds 133 = .ok (.iload 13, 2) := by decide +kernel
theorem dL_holds_135 : decode cL_holds 135 = .ok (.imul, 1) := by decide +kernel
theorem dL_holds_136 : decode cL_holds 136 = .ok (.iconst 1, 1) := by decide +kernel
theorem dL_holds_137 : decode cL_holds 137 = .ok (.iadd, 1) := by decide +kernel
theorem dL_holds_138 : decode cL_holds 138 = .ok (.ldc 140, 2) := by decide +kernel
theorem dL_holds_140 : decode cL_holds 140 = .ok (.invokestatic 137, 3) := by decide +kernel
theorem dL_holds_143 : decode cL_holds 143 = .ok (.invokestatic 141, 3) := by decide +kernel
theorem dL_holds_146 : decode cL_holds 146 = .ok (.ifCond .eq 54, 3) := by decide +kernel
theorem dL_holds_149 : decode cL_holds 149 = .ok (.aload_n 1, 1) := by decide +kernel
theorem dL_holds_150 : decode cL_holds 150 = .ok (.aload_n 2, 1) := by decide +kernel
theorem dL_holds_151 : decode cL_holds 151 = .ok (.aload_n 3, 1) := by decide +kernel
theorem dL_holds_152 : decode cL_holds 152 = .ok (.aload 4, 2) := by decide +kernel
theorem dL_holds_154 : decode cL_holds 154 = .ok (.aload 5, 2) := by decide +kernel
theorem dL_holds_156 : decode cL_holds 156 = .ok (.aload 6, 2) := by decide +kernel
theorem dL_holds_158 : decode cL_holds 158 = .ok (.aload 11, 2) := by decide +kernel
theorem dL_holds_160 : decode cL_holds 160 = .ok (.invokestatic 145, 3) := by decide +kernel
theorem dL_holds_163 : decode cL_holds 163 = .ok (.ifCond .eq 37, 3) := by decide +kernel
theorem dL_holds_166 : decode cL_holds 166 = .ok (.iload 13, 2) := by decide +kernel
theorem dL_holds_168 : decode cL_holds 168 = .ok (.iconst 2, 1) := by decide +kernel
theorem dL_holds_169 : decode cL_holds 169 = .ok (.irem, 1) := by decide +kernel
theorem dL_holds_170 : decode cL_holds 170 = .ok (.ifCond .eq 26, 3) := by decide +kernel
theorem dL_holds_173 : decode cL_holds 173 = .ok (.aload_n 1, 1) := by decide +kernel
theorem dL_holds_174 : decode cL_holds 174 = .ok (.aload_n 2, 1) := by decide +kernel
theorem dL_holds_175 : decode cL_holds 175 = .ok (.aload_n 3, 1) := by decide +kernel
theorem dL_holds_176 : decode cL_holds 176 = .ok (.aload 5, 2) := by decide +kernel
theorem dL_holds_178 : decode cL_holds 178 = .ok (.aload 6, 2) := by decide +kernel
theorem dL_holds_180 : decode cL_holds 180 = .ok (.aload 7, 2) := by decide +kernel
theorem dL_holds_182 : decode cL_holds 182 = .ok (.aload 8, 2) := by decide +kernel
theorem dL_holds_184 : decode cL_holds 184 = .ok (.aload 9, 2) := by decide +kernel
theorem dL_holds_186 : decode cL_holds 186 = .ok (.aload 10, 2) := by decide +kernel
theorem dL_holds_188 : decode cL_holds 188 = .ok (.aload 11, 2) := by decide +kernel
theorem dL_holds_190 : decode cL_holds 190 = .ok (.invokestatic 149, 3) := by decide +kernel
theorem dL_holds_193 : decode cL_holds 193 = .ok (.ifCond .eq 7, 3) := by decide +kernel
theorem dL_holds_196 : decode cL_holds 196 = .ok (.iconst 1, 1) := by decide +kernel
theorem dL_holds_197 : decode cL_holds 197 = .ok (.goto 4, 3) := by decide +kernel
theorem dL_holds_200 : decode cL_holds 200 = .ok (.iconst 0, 1) := by decide +kernel
theorem dL_holds_201 : decode cL_holds 201 = .ok (.istore 12, 2) := by decide +kernel
theorem dL_holds_203 : decode cL_holds 203 = .ok (.iinc 13 1, 3) := by decide +kernel
theorem dL_holds_206 : decode cL_holds 206 = .ok (.goto (-116), 3) := by decide +kernel
theorem dL_holds_209 : decode cL_holds 209 = .ok (.iload 12, 2) := by decide +kernel
theorem dL_holds_211 : decode cL_holds 211 = .ok (.ireturn, 1) := by decide +kernel
set_option maxRecDepth 20000 in
theorem ggxL_isHeld_L_holds : GoodIn wsL_isHeld wsL_holds := goodIn_ca (goodIn_ca (goodIn_ca (goodIn_td 40 (goodIn_r _ [6, 7, 8, 9, 10, 11, 12, 13, 14, 15, 16, 17, 18, 19, 20, 21, 22, 23, 24, 25, 26, 27, 28, 29, 30, 31, 32, 33, 34, 35, 36, 37, 38, 39, 40, 41, 42, 43, 44, 45] (by decide +kernel) (by decide +kernel)) (goodIn_td 24 (goodIn_r _ [46, 47, 48, 49, 50, 51, 52, 53, 54, 55, 56, 57, 58, 59, 60, 61, 62, 63, 5, 64, 65, 66, 67, 68] (by decide +kernel) (by decide +kernel)) (goodIn_td 1 (goodIn_1 69 rfl rfl (by decide +kernel)) (goodIn_td 40 (goodIn_r _ [70, 71, 72, 73, 74, 75, 76, 77, 78, 79, 80, 81, 82, 83, 84, 85, 86, 87, 88, 89, 90, 91, 92, 93, 94, 95, 96, 97, 98, 99, 100, 101, 102, 103, 104, 105, 106, 107, 108, 109] (by decide +kernel) (by decide +kernel)) (goodIn_td 40 (goodIn_r _ [110, 111, 112, 113, 114, 115, 116, 117, 118, 119, 120, 121, 122, 123, 124, 125, 126, 127, 128, 129, 130, 131, 132, 133, 134, 135, 136, 137, 138, 139, 140, 141, 142, 143, 144, 145, 146, 147, 148, 149] (by decide +kernel) (by decide +kernel)) (goodIn_td 40 (goodIn_r _ [150, 151, 152, 153, 154, 155, 156, 157, 158, 159, 160, 161, 162, 163, 164, 165, 166, 167, 168, 169, 170, 171, 172, 173, 174, 175, 176, 177, 178, 179, 180, 181, 182, 183, 184, 185, 186, 187, 188, 189] (by decide +kernel) (by decide +kernel)) (goodIn_td 40 (goodIn_r _ [190, 191, 192, 193, 194, 195, 196, 197, 198, 199, 200, 201, 202, 203, 204, 205, 206, 207, 208, 209, 210, 211, 212, 213, 214, 215, 216, 217, 218, 219, 220, 221, 222, 223, 224, 225, 226, 227, 228, 229] (by decide +kernel) (by decide +kernel)) (goodIn_td 40 (goodIn_r _ [230, 231, 232, 233, 234, 235, 236, 237, 238, 239, 240, 241, 242, 243, 244, 245, 246, 247, 248, 249, 250, 251, 252, 253, 254, 255, 256, 257, 258, 259, 260, 261, 262, 263, 264, 265, 266, 267, 268, 269] (by decide +kernel) (by decide +kernel)) (goodIn_td 1 (goodIn_r _ [270] (by decide +kernel) (by decide +kernel)) (goodIn_td 1 (goodIn_1 271 rfl rfl (by decide +kernel)) (goodIn_td 2 (goodIn_r _ [272, 273] (by decide +kernel) (by decide +kernel)) (goodIn_td 1 (goodIn_1 274 rfl rfl (by decide +kernel)) (goodIn_td 11 (goodIn_r _ [275, 276, 277, 278, 279, 280, 281, 282, 283, 284, 285] (by decide +kernel) (by decide +kernel)) (goodIn_td 1 (goodIn_1 286 rfl rfl (by decide +kernel)) (goodIn_td 36 (goodIn_r _ [287, 288, 289, 290, 291, 292, 293, 294, 295, 296, 297, 298, 299, 300, 301, 302, 303, 304, 305, 306, 307, 308, 309, 310, 311, 312, 313, 314, 315, 316, 317, 318, 319, 320, 321, 322] (by decide +kernel) (by decide +kernel)) (goodIn_td 1 (goodIn_1 323 rfl rfl (by decide +kernel)) (goodIn_td 40 (goodIn_r _ [324, 325, 326, 327, 328, 329, 330, 331, 332, 333, 334, 335, 336, 337, 338, 339, 340, 341, 342, 343, 344, 345, 346, 347, 348, 349, 350, 351, 352, 353, 354, 355, 356, 357, 358, 359, 360, 361, 362, 363] (by decide +kernel) (by decide +kernel)) (goodIn_r _ [364, 365, 366, 367, 368, 369, 370, 371, 372] (by decide +kernel) (by decide +kernel))))))))))))))))))) (goodIn_sub (fun _ h => List.mem_cons_of_mem _ (List.mem_append_left _ (List.mem_append_left _ (List.mem_append_right _ h)))) (by decide +kernel))) (goodIn_sub (fun _ h => List.mem_cons_of_mem _ (List.mem_append_left _ (List.mem_append_right _ h))) (by decide +kernel))) (goodIn_sub (fun _ h => List.mem_cons_of_mem _ (List.mem_append_right _ h)) (by decide +kernel))
theorem ggL_isHeld_L_holds : GoodIn wsL_isHeld wsL_holds := ggxL_isHeld_L_holds
set_option maxRecDepth 20000 in
theorem gL_isHeld_L_holds : GoodIn wsL_isHeld (va_wsS RL 153 yL_holds wsL_holds) := goodIn_app (goodIn_of _ (by decide +kernel)) ggL_isHeld_L_holds
theorem dL_isHeld_0 : decode cL_isHeld 0 = .ok (.aload_n 0, 1) := by decide +kernel
theorem dL_isHeld_1 : decode cL_isHeld 1 = .ok (.invokestatic 153, 3) := by decide +kernel
theorem dL_isHeld_4 : decode cL_isHeld 4 = .ok (.ireturn, 1) := by decide +kernel
theorem dL_isHeld_5 : decode cL_isHeld 5 = .ok (.astore_n 1, 1) := by decide +kernel
theorem dL_isHeld_6 : decode cL_isHeld 6 = .ok (.iconst 0, 1) := by decide +kernel
theorem dL_isHeld_7 : decode cL_isHeld 7 = .ok (.ireturn, 1) := by decide +kernel
theorem dL_isHeld_8 : decode cL_isHeld 8 = .ok (.astore_n 1, 1) := by decide +kernel
theorem dL_isHeld_9 : decode cL_isHeld 9 = .ok (.iconst 0, 1) := by decide +kernel
theorem dL_isHeld_10 : decode cL_isHeld 10 = .ok (.ireturn, 1) := by decide +kernel
theorem dL_isHeld_11 : decode cL_isHeld 11 = .ok (.astore_n 1, 1) := by decide +kernel
theorem dL_isHeld_12 : decode cL_isHeld 12 = .ok (.iconst 0, 1) := by decide +kernel
theorem dL_isHeld_13 : decode cL_isHeld 13 = .ok (.ireturn, 1) := by decide +kernel
set_option maxRecDepth 20000 in
theorem ggxL_law_L_isHeld : GoodIn wsL_law wsL_isHeld := goodIn_ca (goodIn_ca (goodIn_ca (goodIn_td 40 (goodIn_r _ [3, 4, 5, 6, 7, 2, 8, 9, 10, 11, 12, 13, 14, 15, 16, 17, 18, 19, 20, 21, 22, 23, 24, 25, 26, 27, 28, 29, 30, 31, 32, 33, 34, 35, 36, 37, 38, 39, 40, 41] (by decide +kernel) (by decide +kernel)) (goodIn_td 29 (goodIn_r _ [42, 43, 44, 45, 46, 47, 48, 49, 50, 51, 52, 53, 54, 55, 56, 57, 58, 59, 60, 61, 62, 63, 64, 65, 66, 67, 68, 69, 70] (by decide +kernel) (by decide +kernel)) (goodIn_td 1 (goodIn_1 71 rfl rfl (by decide +kernel)) (goodIn_td 40 (goodIn_r _ [72, 73, 74, 75, 76, 77, 78, 79, 80, 81, 82, 83, 84, 85, 86, 87, 88, 89, 90, 91, 92, 93, 94, 95, 96, 97, 98, 99, 100, 101, 102, 103, 104, 105, 106, 107, 108, 109, 110, 111] (by decide +kernel) (by decide +kernel)) (goodIn_td 40 (goodIn_r _ [112, 113, 114, 115, 116, 117, 118, 119, 120, 121, 122, 123, 124, 125, 126, 127, 128, 129, 130, 131, 132, 133, 134, 135, 136, 137, 138, 139, 140, 141, 142, 143, 144, 145, 146, 147, 148, 149, 150, 151] (by decide +kernel) (by decide +kernel)) (goodIn_td 40 (goodIn_r _ [152, 153, 154, 155, 156, 157, 158, 159, 160, 161, 162, 163, 164, 165, 166, 167, 168, 169, 170, 171, 172, 173, 174, 175, 176, 177, 178, 179, 180, 181, 182, 183, 184, 185, 186, 187, 188, 189, 190, 191] (by decide +kernel) (by decide +kernel)) (goodIn_td 40 (goodIn_r _ [192, 193, 194, 195, 196, 197, 198, 199, 200, 201, 202, 203, 204, 205, 206, 207, 208, 209, 210, 211, 212, 213, 214, 215, 216, 217, 218, 219, 220, 221, 222, 223, 224, 225, 226, 227, 228, 229, 230, 231] (by decide +kernel) (by decide +kernel)) (goodIn_td 40 (goodIn_r _ [232, 233, 234, 235, 236, 237, 238, 239, 240, 241, 242, 243, 244, 245, 246, 247, 248, 249, 250, 251, 252, 253, 254, 255, 256, 257, 258, 259, 260, 261, 262, 263, 264, 265, 266, 267, 268, 269, 270, 271] (by decide +kernel) (by decide +kernel)) (goodIn_td 1 (goodIn_r _ [272] (by decide +kernel) (by decide +kernel)) (goodIn_td 1 (goodIn_1 273 rfl rfl (by decide +kernel)) (goodIn_td 2 (goodIn_r _ [274, 275] (by decide +kernel) (by decide +kernel)) (goodIn_td 1 (goodIn_1 276 rfl rfl (by decide +kernel)) (goodIn_td 11 (goodIn_r _ [277, 278, 279, 280, 281, 282, 283, 284, 285, 286, 287] (by decide +kernel) (by decide +kernel)) (goodIn_td 1 (goodIn_1 288 rfl rfl (by decide +kernel)) (goodIn_td 36 (goodIn_r _ [289, 290, 291, 292, 293, 294, 295, 296, 297, 298, 299, 300, 301, 302, 303, 304, 305, 306, 307, 308, 309, 310, 311, 312, 313, 314, 315, 316, 317, 318, 319, 320, 321, 322, 323, 324] (by decide +kernel) (by decide +kernel)) (goodIn_td 1 (goodIn_1 325 rfl rfl (by decide +kernel)) (goodIn_td 40 (goodIn_r _ [326, 327, 328, 329, 330, 331, 332, 333, 334, 335, 336, 337, 338, 339, 340, 341, 342, 343, 344, 345, 346, 347, 348, 349, 350, 351, 352, 353, 354, 355, 356, 357, 358, 359, 360, 361, 362, 363, 364, 365] (by decide +kernel) (by decide +kernel)) (goodIn_r _ [366, 367, 368, 369, 370, 371, 372, 373, 374] (by decide +kernel) (by decide +kernel))))))))))))))))))) (goodIn_sub (fun _ h => List.mem_append_left _ (List.mem_append_left _ (List.mem_append_right _ h))) (by decide +kernel))) (goodIn_sub (fun _ h => List.mem_append_left _ (List.mem_append_right _ h)) (by decide +kernel))) (goodIn_sub (fun _ h => List.mem_append_right _ h) (by decide +kernel))
theorem ggL_law_L_isHeld : GoodIn wsL_law wsL_isHeld := ggxL_law_L_isHeld
set_option maxRecDepth 20000 in
theorem gL_law_L_isHeld : GoodIn wsL_law (va_wsS RL 161 yL_isHeld wsL_isHeld) := goodIn_app (goodIn_of _ (by decide +kernel)) ggL_law_L_isHeld
theorem dL_law_0 : decode cL_law 0 = .ok (.aload_n 0, 1) := by decide +kernel
theorem dL_law_1 : decode cL_law 1 = .ok (.invokestatic 161, 3) := by decide +kernel
theorem dL_law_4 : decode cL_law 4 = .ok (.ireturn, 1) := by decide +kernel
abbrev vwCl : List vw_C := [(RX0, TX0, 3), (RX1, TX1, 5), (RX2, TX2, 7), (RX3, TX3, 3)]
end
section
/-! numbers and rows of this claim: an int is a number (nI), a truth (bI), a number or none (eP), or itself -/
def bI (b : Bool) : Int32 := if b = true then 1 else 0
def eP (o : Option Nat) : Int32 := match o with
  | none => -1
  | some j => nI j
theorem bI_0 {b : Bool} (h : bI b = 0) : b = false := by
  cases b
  · rfl
  · exact absurd h (by decide)
theorem bI_1 {b : Bool} (h : ¬ bI b = 0) : b = true := by
  cases b
  · exact absurd rfl h
  · rfl
theorem bI_inj {a b : Bool} : bI a = bI b ↔ a = b := by
  refine ⟨fun h => ?_, fun h => by rw [h]⟩
  cases a <;> cases b <;> first | rfl | exact absurd h (by decide)
theorem bI_nar (b : Bool) : vp_nar .boolean (bI b) = bI b := by cases b <;> decide
theorem bI_narrow (b : Bool) : narrow .boolean (.int (bI b)) = .int (bI b) := by cases b <;> decide
theorem bI_fits (b : Bool) : fits .boolean (.int (bI b)) = true := by cases b <;> decide
theorem eP_m1 {j : Nat} (h : j < 2 ^ 31) : ¬ nI j = -1 := by
  intro e
  have h1 := congrArg Int32.toInt e
  rw [nI_toInt h] at h1
  have h2 : (-1 : Int32).toInt = -1 := by decide
  omega
theorem eP_none {o : Option Nat} (hb : ∀ j, o = some j → j < 2 ^ 31) (h : eP o = -1) : o = none := by
  cases o with
  | none => rfl
  | some j => exact absurd h (eP_m1 (hb j rfl))
theorem eP_inj {a b : Option Nat} (ha : ∀ j, a = some j → j < 2 ^ 31) (hb : ∀ j, b = some j → j < 2 ^ 31) : eP a = eP b ↔ a = b := by
  refine ⟨fun h => ?_, fun h => by rw [h]⟩
  cases a with
  | none => exact (eP_none hb h.symm).symm
  | some i =>
    cases b with
    | none => exact absurd h (eP_m1 (ha i rfl))
    | some j => rw [(nI_eq (ha i rfl) (hb j rfl)).mp h]
theorem up_b (f : Nat → Bool) (j : Nat) (b : Bool) : upd (fun k => bI (f k)) j (bI b) = fun k => bI (va_up f j b k) := by
  funext q
  by_cases h : q = j <;> simp [upd, va_up, h]
theorem up_n (f : Nat → Nat) (j v : Nat) : upd (fun k => nI (f k)) j (nI v) = fun k => nI (va_up f j v k) := by
  funext q
  by_cases h : q = j <;> simp [upd, va_up, h]
theorem up_p (f : Nat → Option Nat) (j : Nat) (v : Option Nat) : upd (fun k => eP (f k)) j (eP v) = fun k => eP (va_up f j v k) := by
  funext q
  by_cases h : q = j <;> simp [upd, va_up, h]
theorem up_i (f : Nat → Int32) (j : Nat) (v : Int32) : upd f j v = va_up f j v := rfl
theorem lv_re {ls : Array Slot} {nL : Nat} {f : Int32 → List (Nat × Value)} {x y : Int32} (h : lv_has ls nL (f x)) (e : x = y) : lv_has ls nL (f y) := e ▸ h
/-- the array classes of this claim: int, boolean, stores, long -/
abbrev tyA (ct : Nat → ClassId) : List (ClassId × FieldType) := [(ct 0, .int), (ct 1, .boolean), (ct 2, .object "RevisionStores$Store")]
def nWs : List Cond := [.methodLinkNest "RevisionStores" 9 ⟨"RevisionStores$Tree", "<init>", "()V"⟩ "RevisionStores", .methodLinkNest "RevisionStores" 29 ⟨"RevisionStores$Store", "<init>", "()V"⟩ "RevisionStores", .fieldLinkNest "RevisionStores" 63 "RevisionStores$Tree" "deletions" "[Z" "RevisionStores", .fieldLinkNest "RevisionStores" 74 "RevisionStores$Store" "depth" "I" "RevisionStores", .fieldLinkNest "RevisionStores" 78 "RevisionStores$Store" "holding" "LRevisionStores$Holding;" "RevisionStores", .fieldLinkNest "RevisionStores" 111 "RevisionStores$Store" "changes" "[I" "RevisionStores", .fieldLinkNest "RevisionStores" 115 "RevisionStores$Store" "latest" "I" "RevisionStores", .fieldLinkNest "RevisionStores" 118 "RevisionStores$Store" "checkpoints" "[I" "RevisionStores", .fieldLinkNest "RevisionStores" 127 "RevisionStores$Tree" "made" "I" "RevisionStores", .fieldLinkNest "RevisionStores" 130 "RevisionStores$Tree" "documents" "[I" "RevisionStores", .fieldLinkNest "RevisionStores" 133 "RevisionStores$Tree" "parents" "[I" "RevisionStores", .fieldLinkNest "RevisionStores" 136 "RevisionStores$Tree" "generations" "[I" "RevisionStores", .fieldLinkNest "RevisionStores" 139 "RevisionStores$Tree" "sums" "[I" "RevisionStores", .fieldLinkNest "RevisionStores" 142 "RevisionStores$Tree" "values" "[I" "RevisionStores", .fieldLinkNest "RevisionStores" 145 "RevisionStores$Holding" "held" "[Z" "RevisionStores", .fieldLinkNest "RevisionStores" 152 "RevisionStores$Holding" "winners" "[I" "RevisionStores", .fieldLinkNest "RevisionStores$Holding" 35 "RevisionStores$Tree" "made" "I" "RevisionStores", .fieldLinkNest "RevisionStores$Holding" 41 "RevisionStores$Tree" "parents" "[I" "RevisionStores", .fieldLinkNest "RevisionStores$Holding" 48 "RevisionStores$Tree" "generations" "[I" "RevisionStores", .fieldLinkNest "RevisionStores$Holding" 57 "RevisionStores$Tree" "documents" "[I" "RevisionStores", .fieldLinkNest "RevisionStores$Holding" 71 "RevisionStores$Tree" "deletions" "[Z" "RevisionStores", .fieldLinkNest "RevisionStores$Holding" 74 "RevisionStores$Tree" "values" "[I" "RevisionStores", .fieldLinkNest "RevisionStores$Store" 32 "RevisionStores$Holding" "held" "[Z" "RevisionStores", .fieldLinkNest "RevisionStores$Store" 36 "RevisionStores$Tree" "documents" "[I" "RevisionStores"]
def isNest : Cond → Bool
  | .fieldLinkNest .. => true
  | .methodLinkNest .. => true
  | _ => false
def nW (U : State) : Prop := ∀ w ∈ nWs, va_Nw w U
theorem nWs_nest : ∀ w ∈ nWs, isNest w = true := by decide
theorem nest_warm {w : Cond} (hn : isNest w = true) {s U : State} (hW : s.WarmedH U.vm) (h : va_Nw w s) : va_Nw w U := by
  cases w <;> first | exact va_Nw.warmF hW h | exact va_Nw.warmM hW h | exact absurd hn (by simp [isNest])
theorem nest_same {w : Cond} (hn : isNest w = true) {s U : State} (hv : s.vm = U.vm) (h : va_Nw w s) : va_Nw w U := by
  cases w <;> first | exact va_Nw.same rfl hv h | exact absurd hn (by simp [isNest])
theorem nW.warm {s U : State} (hW : s.WarmedH U.vm) (h : nW s) : nW U := fun w hw => nest_warm (nWs_nest w hw) hW (h w hw)
theorem nW.same {s U : State} (hv : s.vm = U.vm) (h : nW s) : nW U := fun w hw => nest_same (nWs_nest w hw) hv (h w hw)
abbrev KK (D : va_G) (ct : Nat → ClassId) (U : State) : Prop := va_K D vwCl (tyA ct) U ∧ nW U
theorem KK.warm {D : va_G} {ct : Nat → ClassId} {s U : State} (hW : s.WarmedH U.vm) (h : KK D ct s) : KK D ct U := ⟨va_K.moved hW.alike h.1, h.2.warm hW⟩
theorem KK.call {D : va_G} {ct : Nat → ClassId} {U : State} {g : JFrame} {mk : MethodId} {a : Array Value} (h : KK D ct U) : KK D ct (U.calling g mk a) := ⟨va_K.moved (u := U) (U := U.calling g mk a) (Vm.Alike.refl U.vm) h.1, nW.same (s := U) (U := U.calling g mk a) rfl h.2⟩
section RWS
variable {p : Program} {l : Launch} {e : Env} {R : Room} {s : State} {m : MethodId} {args : Array Value} {below : List Frame} {meth : Method} {c : Code} {H : Heap} {locs : List Loc} {cells slots : Nat} {Q : State → Prop}
variable {cc : ByteArray} {pc : Nat} {ls : Array Slot} {rest : List Value} {D : va_G} {cl : List vw_C} {A : Nat → Prop} {a : Nat} {tys : List (ClassId × FieldType)} {ws : va_W} {H0 : Heap}
theorem r_top {x y : Int32} (h : x = y) (k : W p l e R s m args below meth c H locs cells slots Q (F0 m pc ls (.int y :: rest))) : W p l e R s m args below meth c H locs cells slots Q (F0 m pc ls (.int x :: rest)) := h ▸ k
theorem r_topZ {x y : Int32} {v : Value} (h : x = y) (k : W p l e R s m args below meth c H locs cells slots Q (F0 m pc ls (v :: .int y :: rest))) : W p l e R s m args below meth c H locs cells slots Q (F0 m pc ls (v :: .int x :: rest)) := h ▸ k
theorem r_iald (hexec : p.tables.exec = Jvm.exec) (hb : c.code = cc) (hK : va_K D cl tys s) (hP : va_P D cl ws H) (q0 t0 : Nat) {cA : ClassId} {n : Nat} {f : Nat → Int32} (ha : ws[q0]? = some (a, .inl (cA, n, .inl f))) (ht : tys[t0]? = some (cA, .int)) {j : Nat} (hj : j < n) (hn : n < 2 ^ 31) {v : Int32} (hv : f j = v) (hdg : decode cc pc = .ok (.iaload, 1))
    (kk : W p l e R s m args below meth c H locs cells slots Q (F0 m (pc + 1) ls (.int v :: rest))) : W p l e R s m args below meth c H locs cells slots Q (F0 m pc ls (.int (nI j) :: .ref a :: rest)) :=
  va_iald hexec hb hK hP q0 t0 ha ht (vp_in_nI hj hn) hdg (by rw [nI_clamp (by omega), hv]; exact kk)
theorem r_zald (hexec : p.tables.exec = Jvm.exec) (hb : c.code = cc) (hK : va_K D cl tys s) (hP : va_P D cl ws H) (q0 t0 : Nat) {cA : ClassId} {n : Nat} {f : Nat → Int32} (ha : ws[q0]? = some (a, .inl (cA, n, .inl f))) (ht : tys[t0]? = some (cA, .boolean)) {j : Nat} (hj : j < n) (hn : n < 2 ^ 31) {v : Int32} (hv : f j = v) (hdg : decode cc pc = .ok (.baload, 1))
    (kk : W p l e R s m args below meth c H locs cells slots Q (F0 m (pc + 1) ls (.int v :: rest))) : W p l e R s m args below meth c H locs cells slots Q (F0 m pc ls (.int (nI j) :: .ref a :: rest)) :=
  va_zald hexec hb hK hP q0 t0 ha ht (vp_in_nI hj hn) hdg (by rw [nI_clamp (by omega), hv]; exact kk)
theorem r_iast (hexec : p.tables.exec = Jvm.exec) (hb : c.code = cc) (hK : va_K D cl tys s) (hP : va_P D cl ws H) (hD : va_D A ws) (hS : va_S A H0 H locs) (q0 t0 : Nat) {cA : ClassId} {n : Nat} {f : Nat → Int32} (ha : ws[q0]? = some (a, .inl (cA, n, .inl f))) (ht : tys[t0]? = some (cA, .int)) {j : Nat} {x : Int32} (hj : j < n) (hn : n < 2 ^ 31) {f' : Nat → Int32} (hv : upd f j x = f') (hdg : decode cc pc = .ok (.iastore, 1))
    (kk : ∀ (H1 : Heap) (locs1 : List Loc), va_P D cl (ws.set q0 (a, .inl (cA, n, .inl f'))) H1 → va_D A (ws.set q0 (a, .inl (cA, n, .inl f'))) → va_S A H0 H1 locs1 → W p l e R s m args below meth c H1 locs1 cells slots Q (F0 m (pc + 1) ls rest)) : W p l e R s m args below meth c H locs cells slots Q (F0 m pc ls (.int x :: .int (nI j) :: .ref a :: rest)) := by
  subst hv
  refine va_iast hexec hb hK hP hD hS q0 t0 ha ht (vp_in_nI hj hn) hdg ?_
  rw [nI_clamp (by omega)]
  exact kk
theorem r_zast (hexec : p.tables.exec = Jvm.exec) (hb : c.code = cc) (hK : va_K D cl tys s) (hP : va_P D cl ws H) (hD : va_D A ws) (hS : va_S A H0 H locs) (q0 t0 : Nat) {cA : ClassId} {n : Nat} {f : Nat → Int32} (ha : ws[q0]? = some (a, .inl (cA, n, .inl f))) (ht : tys[t0]? = some (cA, .boolean)) {j : Nat} {x : Bool} (hj : j < n) (hn : n < 2 ^ 31) {f' : Nat → Int32} (hv : upd f j (bI x) = f') (hdg : decode cc pc = .ok (.bastore, 1))
    (kk : ∀ (H1 : Heap) (locs1 : List Loc), va_P D cl (ws.set q0 (a, .inl (cA, n, .inl f'))) H1 → va_D A (ws.set q0 (a, .inl (cA, n, .inl f'))) → va_S A H0 H1 locs1 → W p l e R s m args below meth c H1 locs1 cells slots Q (F0 m (pc + 1) ls rest)) : W p l e R s m args below meth c H locs cells slots Q (F0 m pc ls (.int (bI x) :: .int (nI j) :: .ref a :: rest)) := by
  subst hv
  refine va_zast hexec hb hK hP hD hS q0 t0 ha ht (vp_in_nI hj hn) hdg ?_
  rw [nI_clamp (by omega), bI_nar]
  exact kk
theorem r_iaddN (hexec : p.tables.exec = Jvm.exec) (hb : c.code = cc) {x y : Nat} (hdg : decode cc pc = .ok (.iadd, 1))
    (kk : W p l e R s m args below meth c H locs cells slots Q (F0 m (pc + 1) ls (.int (nI (x + y)) :: rest))) : W p l e R s m args below meth c H locs cells slots Q (F0 m pc ls (.int (nI y) :: .int (nI x) :: rest)) :=
  lv_iadd hexec hb hdg (by rw [nI_add]; exact kk)
theorem r_imulN (hexec : p.tables.exec = Jvm.exec) (hb : c.code = cc) {x y : Nat} (hdg : decode cc pc = .ok (.imul, 1))
    (kk : W p l e R s m args below meth c H locs cells slots Q (F0 m (pc + 1) ls (.int (nI (x * y)) :: rest))) : W p l e R s m args below meth c H locs cells slots Q (F0 m pc ls (.int (nI y) :: .int (nI x) :: rest)) :=
  lv_imul hexec hb hdg (by rw [pk_mul]; exact kk)
theorem r_if_eqB (hexec : p.tables.exec = Jvm.exec) (hb : c.code = cc) {x : Bool} {off : Int} {tgt : Nat} (hdg : decode cc pc = .ok (.ifCond .eq off, 3)) (ht : (pc : Int) + off = (tgt : Int))
    (kt : x = false → W p l e R s m args below meth c H locs cells slots Q (F0 m tgt ls rest)) (kf : x = true → W p l e R s m args below meth c H locs cells slots Q (F0 m (pc + 3) ls rest)) : W p l e R s m args below meth c H locs cells slots Q (F0 m pc ls (.int (bI x) :: rest)) :=
  lv_if_eq hexec hb hdg ht (fun h => kt (bI_0 h)) (fun h => kf (bI_1 h))
theorem r_if_neB (hexec : p.tables.exec = Jvm.exec) (hb : c.code = cc) {x : Bool} {off : Int} {tgt : Nat} (hdg : decode cc pc = .ok (.ifCond .ne off, 3)) (ht : (pc : Int) + off = (tgt : Int))
    (kt : x = true → W p l e R s m args below meth c H locs cells slots Q (F0 m tgt ls rest)) (kf : x = false → W p l e R s m args below meth c H locs cells slots Q (F0 m (pc + 3) ls rest)) : W p l e R s m args below meth c H locs cells slots Q (F0 m pc ls (.int (bI x) :: rest)) :=
  lv_if_ne hexec hb hdg ht (fun h => kt (bI_1 h)) (fun h => kf (bI_0 h))
theorem r_if_leN (hexec : p.tables.exec = Jvm.exec) (hb : c.code = cc) {x : Nat} (hx : x < 2 ^ 31) {off : Int} {tgt : Nat} (hdg : decode cc pc = .ok (.ifCond .le off, 3)) (ht : (pc : Int) + off = (tgt : Int))
    (kt : x = 0 → W p l e R s m args below meth c H locs cells slots Q (F0 m tgt ls rest)) (kf : 0 < x → W p l e R s m args below meth c H locs cells slots Q (F0 m (pc + 3) ls rest)) : W p l e R s m args below meth c H locs cells slots Q (F0 m pc ls (.int (nI x) :: rest)) :=
  lv_if_le hexec hb hdg ht (fun h => kt (by have h2 := (nI_leI hx (by omega) (b := 0)).mp h; omega)) (fun h => kf (by
    rcases Nat.eq_zero_or_pos x with q | q
    · exact absurd (by rw [q]; decide) h
    · exact q))
theorem r_if_neN (hexec : p.tables.exec = Jvm.exec) (hb : c.code = cc) {x : Nat} (hx : x < 2 ^ 31) {off : Int} {tgt : Nat} (hdg : decode cc pc = .ok (.ifCond .ne off, 3)) (ht : (pc : Int) + off = (tgt : Int))
    (kt : 0 < x → W p l e R s m args below meth c H locs cells slots Q (F0 m tgt ls rest)) (kf : x = 0 → W p l e R s m args below meth c H locs cells slots Q (F0 m (pc + 3) ls rest)) : W p l e R s m args below meth c H locs cells slots Q (F0 m pc ls (.int (nI x) :: rest)) :=
  lv_if_ne hexec hb hdg ht (fun h => kt (by
    rcases Nat.eq_zero_or_pos x with q | q
    · exact absurd (by rw [q]; rfl) h
    · exact q)) (fun h => kf (by have h2 := (nI_eq hx (by omega) (b := 0)).mp h; omega))
theorem r_if_ltP (hexec : p.tables.exec = Jvm.exec) (hb : c.code = cc) {x : Option Nat} (hx : ∀ j, x = some j → j < 2 ^ 31) {off : Int} {tgt : Nat} (hdg : decode cc pc = .ok (.ifCond .lt off, 3)) (ht : (pc : Int) + off = (tgt : Int))
    (kt : x = none → W p l e R s m args below meth c H locs cells slots Q (F0 m tgt ls rest)) (kf : ∀ j, x = some j → W p l e R s m args below meth c H locs cells slots Q (F0 m (pc + 3) ls rest)) : W p l e R s m args below meth c H locs cells slots Q (F0 m pc ls (.int (eP x) :: rest)) := by
  cases x with
  | none => exact lv_if_lt hexec hb hdg ht (fun _ => kt rfl) (fun h => absurd (by decide) h)
  | some j => exact lv_if_lt hexec hb hdg ht (fun h => absurd h (nI_pos (hx j rfl))) (fun _ => kf j rfl)
theorem r_icmp_eqP (hexec : p.tables.exec = Jvm.exec) (hb : c.code = cc) {x : Option Nat} (hx : ∀ j, x = some j → j < 2 ^ 31) {off : Int} {tgt : Nat} (hdg : decode cc pc = .ok (.if_icmp .eq off, 3)) (ht : (pc : Int) + off = (tgt : Int))
    (kt : x = none → W p l e R s m args below meth c H locs cells slots Q (F0 m tgt ls rest)) (kf : ∀ j, x = some j → W p l e R s m args below meth c H locs cells slots Q (F0 m (pc + 3) ls rest)) : W p l e R s m args below meth c H locs cells slots Q (F0 m pc ls (.int (-1) :: .int (eP x) :: rest)) := by
  cases x with
  | none => exact lv_icmp_eq hexec hb hdg ht (fun _ => kt rfl) (fun h => absurd rfl h)
  | some j => exact lv_icmp_eq hexec hb hdg ht (fun h => absurd h (eP_m1 (hx j rfl))) (fun _ => kf j rfl)
theorem r_icmp_neP (hexec : p.tables.exec = Jvm.exec) (hb : c.code = cc) {x : Option Nat} (hx : ∀ j, x = some j → j < 2 ^ 31) {off : Int} {tgt : Nat} (hdg : decode cc pc = .ok (.if_icmp .ne off, 3)) (ht : (pc : Int) + off = (tgt : Int))
    (kt : ∀ j, x = some j → W p l e R s m args below meth c H locs cells slots Q (F0 m tgt ls rest)) (kf : x = none → W p l e R s m args below meth c H locs cells slots Q (F0 m (pc + 3) ls rest)) : W p l e R s m args below meth c H locs cells slots Q (F0 m pc ls (.int (-1) :: .int (eP x) :: rest)) := by
  cases x with
  | none => exact lv_icmp_ne hexec hb hdg ht (fun h => absurd rfl h) (fun _ => kf rfl)
  | some j => exact lv_icmp_ne hexec hb hdg ht (fun _ => kt j rfl) (fun h => absurd h (eP_m1 (hx j rfl)))
theorem r_icmp_eqB (hexec : p.tables.exec = Jvm.exec) (hb : c.code = cc) {x y : Bool} {off : Int} {tgt : Nat} (hdg : decode cc pc = .ok (.if_icmp .eq off, 3)) (ht : (pc : Int) + off = (tgt : Int))
    (kt : x = y → W p l e R s m args below meth c H locs cells slots Q (F0 m tgt ls rest)) (kf : ¬ x = y → W p l e R s m args below meth c H locs cells slots Q (F0 m (pc + 3) ls rest)) : W p l e R s m args below meth c H locs cells slots Q (F0 m pc ls (.int (bI y) :: .int (bI x) :: rest)) :=
  lv_icmp_eq hexec hb hdg ht (fun h => kt (bI_inj.mp h)) (fun h => kf (fun z => h (bI_inj.mpr z)))
theorem r_icmp_neB (hexec : p.tables.exec = Jvm.exec) (hb : c.code = cc) {x y : Bool} {off : Int} {tgt : Nat} (hdg : decode cc pc = .ok (.if_icmp .ne off, 3)) (ht : (pc : Int) + off = (tgt : Int))
    (kt : ¬ x = y → W p l e R s m args below meth c H locs cells slots Q (F0 m tgt ls rest)) (kf : x = y → W p l e R s m args below meth c H locs cells slots Q (F0 m (pc + 3) ls rest)) : W p l e R s m args below meth c H locs cells slots Q (F0 m pc ls (.int (bI y) :: .int (bI x) :: rest)) :=
  lv_icmp_ne hexec hb hdg ht (fun h => kt (fun z => h (bI_inj.mpr z))) (fun h => kf (bI_inj.mp h))
theorem r_icmp_eqN (hexec : p.tables.exec = Jvm.exec) (hb : c.code = cc) {x y : Nat} (hx : x < 2 ^ 31) (hy : y < 2 ^ 31) {off : Int} {tgt : Nat} (hdg : decode cc pc = .ok (.if_icmp .eq off, 3)) (ht : (pc : Int) + off = (tgt : Int))
    (kt : x = y → W p l e R s m args below meth c H locs cells slots Q (F0 m tgt ls rest)) (kf : ¬ x = y → W p l e R s m args below meth c H locs cells slots Q (F0 m (pc + 3) ls rest)) : W p l e R s m args below meth c H locs cells slots Q (F0 m pc ls (.int (nI y) :: .int (nI x) :: rest)) :=
  lv_icmp_eq hexec hb hdg ht (fun h => kt ((nI_eq hx hy).mp h)) (fun h => kf (fun z => h ((nI_eq hx hy).mpr z)))
theorem r_icmp_neN (hexec : p.tables.exec = Jvm.exec) (hb : c.code = cc) {x y : Nat} (hx : x < 2 ^ 31) (hy : y < 2 ^ 31) {off : Int} {tgt : Nat} (hdg : decode cc pc = .ok (.if_icmp .ne off, 3)) (ht : (pc : Int) + off = (tgt : Int))
    (kt : ¬ x = y → W p l e R s m args below meth c H locs cells slots Q (F0 m tgt ls rest)) (kf : x = y → W p l e R s m args below meth c H locs cells slots Q (F0 m (pc + 3) ls rest)) : W p l e R s m args below meth c H locs cells slots Q (F0 m pc ls (.int (nI y) :: .int (nI x) :: rest)) :=
  lv_icmp_ne hexec hb hdg ht (fun h => kt (fun z => h ((nI_eq hx hy).mpr z))) (fun h => kf ((nI_eq hx hy).mp h))
theorem r_icmp_ltN (hexec : p.tables.exec = Jvm.exec) (hb : c.code = cc) {x y : Nat} (hx : x < 2 ^ 31) (hy : y < 2 ^ 31) {off : Int} {tgt : Nat} (hdg : decode cc pc = .ok (.if_icmp .lt off, 3)) (ht : (pc : Int) + off = (tgt : Int))
    (kt : x < y → W p l e R s m args below meth c H locs cells slots Q (F0 m tgt ls rest)) (kf : y ≤ x → W p l e R s m args below meth c H locs cells slots Q (F0 m (pc + 3) ls rest)) : W p l e R s m args below meth c H locs cells slots Q (F0 m pc ls (.int (nI y) :: .int (nI x) :: rest)) :=
  lv_icmp_lt hexec hb hdg ht (fun h => kt ((nI_ltI hx hy).mp h)) (fun h => kf (Nat.le_of_not_lt (fun z => h ((nI_ltI hx hy).mpr z))))
theorem r_icmp_geN (hexec : p.tables.exec = Jvm.exec) (hb : c.code = cc) {x y : Nat} (hx : x < 2 ^ 31) (hy : y < 2 ^ 31) {off : Int} {tgt : Nat} (hdg : decode cc pc = .ok (.if_icmp .ge off, 3)) (ht : (pc : Int) + off = (tgt : Int))
    (kt : y ≤ x → W p l e R s m args below meth c H locs cells slots Q (F0 m tgt ls rest)) (kf : x < y → W p l e R s m args below meth c H locs cells slots Q (F0 m (pc + 3) ls rest)) : W p l e R s m args below meth c H locs cells slots Q (F0 m pc ls (.int (nI y) :: .int (nI x) :: rest)) :=
  lv_icmp_ge hexec hb hdg ht (fun h => kt ((nI_leI hy hx).mp h)) (fun h => kf (Nat.lt_of_not_le (fun z => h ((nI_leI hy hx).mpr z))))
theorem r_icmp_gtN (hexec : p.tables.exec = Jvm.exec) (hb : c.code = cc) {x y : Nat} (hx : x < 2 ^ 31) (hy : y < 2 ^ 31) {off : Int} {tgt : Nat} (hdg : decode cc pc = .ok (.if_icmp .gt off, 3)) (ht : (pc : Int) + off = (tgt : Int))
    (kt : y < x → W p l e R s m args below meth c H locs cells slots Q (F0 m tgt ls rest)) (kf : x ≤ y → W p l e R s m args below meth c H locs cells slots Q (F0 m (pc + 3) ls rest)) : W p l e R s m args below meth c H locs cells slots Q (F0 m pc ls (.int (nI y) :: .int (nI x) :: rest)) :=
  lv_icmp_gt hexec hb hdg ht (fun h => kt ((nI_ltI hy hx).mp h)) (fun h => kf (Nat.le_of_not_lt (fun z => h ((nI_ltI hy hx).mpr z))))
theorem r_icmp_leN (hexec : p.tables.exec = Jvm.exec) (hb : c.code = cc) {x y : Nat} (hx : x < 2 ^ 31) (hy : y < 2 ^ 31) {off : Int} {tgt : Nat} (hdg : decode cc pc = .ok (.if_icmp .le off, 3)) (ht : (pc : Int) + off = (tgt : Int))
    (kt : x ≤ y → W p l e R s m args below meth c H locs cells slots Q (F0 m tgt ls rest)) (kf : y < x → W p l e R s m args below meth c H locs cells slots Q (F0 m (pc + 3) ls rest)) : W p l e R s m args below meth c H locs cells slots Q (F0 m pc ls (.int (nI y) :: .int (nI x) :: rest)) :=
  lv_icmp_le hexec hb hdg ht (fun h => kt ((nI_leI hx hy).mp h)) (fun h => kf (Nat.lt_of_not_le (fun z => h ((nI_leI hx hy).mpr z))))
end RWS
/-! contracts of methods that only read, and their calls -/
abbrev roPc (D : va_G) (ct : Nat → ClassId) (av : List Value) (wc : va_W) : Array Value → State → Prop := va_Pc av (fun U => va_P D vwCl wc U.heap ∧ KK D ct U)
theorem ro_blind {D : va_G} {ct : Nat → ClassId} {av : List Value} {wc : va_W} : FrameBlind (roPc D ct av wc) := fun a U g mk q => ⟨q.1, q.2.1, q.2.2.call⟩
theorem ro_pre {D : va_G} {ct : Nat → ClassId} {av : List Value} {wc : va_W} {s : State} {H : Heap} (hK : KK D ct s) (hP : va_P D vwCl wc H) : ∀ U : State, U.heap = H → s.WarmedH U.vm → roPc D ct av wc av.toArray U := fun U hU hW => ⟨rfl, by rw [hU]; exact hP, hK.warm hW⟩
abbrev rqI (v : Int32) : Array Value → State → Outcome → State → Prop := vp_Si (fun r => r = v)
section RCALL
variable {p : Program} {l : Launch} {e : Env} {R : Room} {s : State} {m : MethodId} {args : Array Value} {below : List Frame} {meth : Method} {c : Code} {H : Heap} {locs : List Loc} {cells slots : Nat} {Q : State → Prop}
variable {cc : ByteArray} {pc : Nat} {ls : Array Slot} {rest st : List Value} {D : va_G} {ct : Nat → ClassId} {wc : va_W} {Ts ws : List Cond} {own C : String} {index maxL n nL : Nat} {y : MethodName} {bytes : ByteArray} {ret : Option FieldType} {rm : Room} {As : List Value} {b : Nat} {v : Int32}
theorem r_cV (S : CallFix p m c cc nL s args Ts own) (hM : Met l y ws rm (roPc D ct (.ref b :: As) wc) (rqI v) 0 0 (fun _ => False)) (cw : CallW R s args own C index y bytes maxL ret ws rm 0 0 n) (hK : KK D ct s) (hP : va_P D vwCl wc H)
    (q0 ci : Nat) {T : u_T} {N : Nat} {fs : List Value} (he : wc[q0]? = some (b, .inr (ci, fs))) (hc : vwCl[ci]? = some (C, T, N)) (hn : As.length = n) (hsize : ls.size = nL) (hstack : st = As.reverse ++ .ref b :: rest) (hW : (rest.map fun v => v.category).sum ≤ 8) (hdg : decode cc pc = .ok (.invokevirtual index, 3)) (hf : cells + 0 ≤ R.cells ∧ slots + 0 ≤ R.slots)
    (kk : W p l e R s m args below meth c H locs cells slots Q (F0 m (pc + 3) ls (.int v :: rest))) : W p l e R s m args below meth c H locs cells slots Q (F0 m pc ls st) :=
  vp_callSi (W.runV (g := F0 m pc ls st) S hM cw ⟨ro_blind, va_recv hK.1 hP hc he, ro_pre hK hP⟩ rfl hn hsize hstack (lv_room hW) hdg hf) (fun r hr => by rw [hr]; exact kk)
theorem r_cS (S : CallFix p m c cc nL s args Ts own) (hM : Met l y ws rm (roPc D ct As wc) (rqI v) 0 0 (fun _ => False)) (cw : CallB R s args own index y bytes maxL ret ws rm 0 0 n ∧ (Cond.static y).before args s = true) (hK : KK D ct s) (hP : va_P D vwCl wc H)
    (hn : As.length = n) (hsize : ls.size = nL) (hstack : st = As.reverse ++ rest) (hW : (rest.map fun v => v.category).sum ≤ 8) (hdg : decode cc pc = .ok (.invokestatic index, 3)) (hf : cells + 0 ≤ R.cells ∧ slots + 0 ≤ R.slots)
    (kk : W p l e R s m args below meth c H locs cells slots Q (F0 m (pc + 3) ls (.int v :: rest))) : W p l e R s m args below meth c H locs cells slots Q (F0 m pc ls st) :=
  vp_callSi (W.runS (g := F0 m pc ls st) S hM cw ⟨ro_blind, ro_pre hK hP⟩ rfl hn hsize hstack (lv_room hW) hdg hf) (fun r hr => by rw [hr]; exact kk)
end RCALL
/-! contracts of methods that write -/
def jn : va_W → List Nat → va_W → va_W
  | ws, p :: ps, q :: qs => jn (ws.set p q) ps qs
  | ws, _, _ => ws
theorem jn_get : ∀ (ps : List Nat) (w1 ws : va_W), ps.length = w1.length → (∀ p ∈ ps, p < ws.length) → va_nd ps = true → ∀ (k : Nat) (q : Nat × va_E), (jn ws ps w1)[k]? = some q → (∃ i : Nat, ps[i]? = some k ∧ w1[i]? = some q) ∨ (k ∉ ps ∧ ws[k]? = some q)
  | [], w1, ws, _, _, _, k, q, h => Or.inr ⟨List.not_mem_nil, by cases w1 <;> exact h⟩
  | p :: ps, [], ws, hl, _, _, k, q, h => by simp at hl
  | p :: ps, x :: w1, ws, hl, hb, hn, k, q, h => by
    simp only [va_nd, Bool.and_eq_true, decide_eq_true_eq] at hn
    rcases jn_get ps w1 (ws.set p x) (by simpa using hl) (fun y hy => by rw [List.length_set]; exact hb y (List.mem_cons_of_mem _ hy)) hn.2 k q h with ⟨i, h1, h2⟩ | ⟨h1, h2⟩
    · exact Or.inl ⟨i + 1, by simpa using h1, by simpa using h2⟩
    · by_cases hk : k = p
      · subst hk
        rw [List.getElem?_set_self (hb k List.mem_cons_self)] at h2
        exact Or.inl ⟨0, rfl, h2⟩
      · rw [List.getElem?_set_ne (Ne.symm hk)] at h2
        exact Or.inr ⟨fun z => (List.mem_cons.mp z).elim hk h1, h2⟩
theorem jn_ok {A0 : Nat → Prop} {D : va_G} {cl : List vw_C} {ws wc w1 : va_W} {H H1 : Heap} (hP : va_P D cl ws H) (hD : va_D A0 ws) (ps : List Nat) (hC : ps.map (fun i => ws[i]?) = wc.map some) (hn : va_nd ps = true) (ha : w1.map Prod.fst = wc.map Prod.fst)
    (hk : ∀ q : Nat, q < H.size → ¬ va_A wc H.size q → H1[q]? = H[q]?) (hP1 : va_P D cl w1 H1) : va_P D cl (jn ws ps w1) H1 ∧ va_D A0 (jn ws ps w1) := by
  have hl1 : ps.length = wc.length := by have := congrArg List.length hC; simpa using this
  have hl2 : w1.length = wc.length := by have := congrArg List.length ha; simpa using this
  have at' : ∀ (i p : Nat), ps[i]? = some p → ∃ q, wc[i]? = some q ∧ ws[p]? = some q := by
    intro i p hi
    have h1 : (ps.map (fun i => ws[i]?))[i]? = (wc.map some)[i]? := by rw [hC]
    rw [List.getElem?_map, List.getElem?_map, hi] at h1
    have hil : i < wc.length := by rw [← hl1]; exact (List.getElem?_eq_some_iff.mp hi).1
    obtain ⟨q, hq⟩ : ∃ q, wc[i]? = some q := ⟨wc[i], List.getElem?_eq_getElem hil⟩
    rw [hq] at h1
    exact ⟨q, hq, by simpa using h1⟩
  have hb : ∀ p ∈ ps, p < ws.length := by
    intro p hp
    obtain ⟨i, hi⟩ := List.getElem?_of_mem hp
    obtain ⟨q, -, h2⟩ := at' i p hi
    exact (List.getElem?_eq_some_iff.mp h2).1
  have ad : ∀ (i : Nat) (x y : Nat × va_E), w1[i]? = some x → wc[i]? = some y → x.1 = y.1 := by
    intro i x y hx hy
    have h1 : (w1.map Prod.fst)[i]? = (wc.map Prod.fst)[i]? := by rw [ha]
    rw [List.getElem?_map, List.getElem?_map, hx, hy] at h1
    simpa using h1
  have key := jn_get ps w1 ws (hl1.trans hl2.symm) hb hn
  have adr : ∀ (k : Nat) (q : Nat × va_E), (jn ws ps w1)[k]? = some q → ∃ q0, ws[k]? = some q0 ∧ q0.1 = q.1 := by
    intro k q h
    rcases key k q h with ⟨i, h1, h2⟩ | ⟨h1, h2⟩
    · obtain ⟨y, h3, h4⟩ := at' i k h1
      exact ⟨y, h4, (ad i q y h2 h3).symm⟩
    · exact ⟨q, h2, rfl⟩
  refine ⟨fun k q h => ?_, fun i j x y hi hj hxy => ?_, fun k q h => ?_⟩
  · rcases key k q h with ⟨i, h1, h2⟩ | ⟨h1, h2⟩
    · exact hP1 i q h2
    · refine (hP k q h2).kept (hk q.1 (hP k q h2).lt (fun z => ?_))
      rcases z with ⟨j, e, hj⟩ | hj
      · have hjl : j < ps.length := by rw [hl1]; exact (List.getElem?_eq_some_iff.mp hj).1
        obtain ⟨p, hp⟩ : ∃ p, ps[j]? = some p := ⟨ps[j], List.getElem?_eq_getElem hjl⟩
        obtain ⟨y, h3, h4⟩ := at' j p hp
        rw [hj] at h3
        cases h3
        have := hD.1 k p q (q.1, e) h2 h4 rfl
        subst this
        exact h1 (List.mem_of_getElem? hp)
      · have := (hP k q h2).lt
        omega
  · obtain ⟨x0, h1, h2⟩ := adr i x hi
    obtain ⟨y0, h3, h4⟩ := adr j y hj
    exact hD.1 i j x0 y0 h1 h3 (h2.trans (hxy.trans h4.symm))
  · obtain ⟨q0, h1, h2⟩ := adr k q h
    rw [← h2]
    exact hD.2 k q0 h1
theorem jn_S {A0 : Nat → Prop} {ws wc : va_W} {H0 H : Heap} {locs : List Loc} (hD : va_D A0 ws) (hS : va_S A0 H0 H locs) (hA : ∀ q, H0.size ≤ q → A0 q) (ps : List Nat) (hC : ps.map (fun i => ws[i]?) = wc.map some) : ∀ q, va_A wc H.size q → A0 q := va_free hD hS hA ps hC
abbrev wrPc (D : va_G) (ct : Nat → ClassId) (av : List Value) (wc : va_W) (sz : Nat) : Array Value → State → Prop := va_Pc av (fun U => U.heap.size = sz ∧ va_P D vwCl wc U.heap ∧ KK D ct U ∧ va_D (fun _ => True) wc)
theorem wr_blind {D : va_G} {ct : Nat → ClassId} {av : List Value} {wc : va_W} {sz : Nat} : FrameBlind (wrPc D ct av wc sz) := fun a U g mk q => ⟨q.1, q.2.1, q.2.2.1, q.2.2.2.1.call, q.2.2.2.2⟩
theorem wr_pre {D : va_G} {ct : Nat → ClassId} {av : List Value} {wc : va_W} {A : Nat → Prop} {s : State} {H : Heap} (hK : KK D ct s) (hP : va_P D vwCl wc H) (hD : va_D A wc) : ∀ U : State, U.heap = H → s.WarmedH U.vm → wrPc D ct av wc H.size av.toArray U := fun U hU hW => ⟨rfl, by rw [hU], by rw [hU]; exact hP, hK.warm hW, hD.weaken (fun _ _ _ _ => trivial)⟩
abbrev wqI (D : va_G) (v : Int32) (w1 : va_W) (A : Nat → Prop) : Array Value → State → Outcome → State → Prop := va_Qi (fun (r : Int32) (_ : Unit) => r = v) (fun _ t => va_P D vwCl w1 t.heap) A
abbrev wqV (D : va_G) (w1 : va_W) (A : Nat → Prop) : Array Value → State → Outcome → State → Prop := va_Qv (fun _ : Unit => True) (fun _ t => va_P D vwCl w1 t.heap) A
section WCALL
variable {p : Program} {l : Launch} {e : Env} {R : Room} {s : State} {m : MethodId} {args : Array Value} {below : List Frame} {meth : Method} {c : Code} {H H0 : Heap} {locs : List Loc} {cells slots : Nat} {Q : State → Prop} {A : Nat → Prop}
variable {cc : ByteArray} {pc : Nat} {ls : Array Slot} {rest st : List Value} {D : va_G} {ct : Nat → ClassId} {wc wf w1 : va_W} {Ts ws : List Cond} {own C : String} {index maxL n nL : Nat} {y : MethodName} {bytes : ByteArray} {ret : Option FieldType} {rm : Room} {As : List Value} {b : Nat} {v : Int32}
theorem r_wVi (S : CallFix p m c cc nL s args Ts own) (hM : Met l y ws rm (wrPc D ct (.ref b :: As) wc H.size) (wqI D v w1 (va_A wc H.size)) 0 0 (va_A wc H.size)) (cw : CallW R s args own C index y bytes maxL ret ws rm 0 0 n) (hK : KK D ct s) (hP : va_P D vwCl wf H) (hD : va_D A wf) (hS : va_S A H0 H locs) (hA : ∀ q, H0.size ≤ q → A q) (ps : List Nat) (hC : ps.map (fun i => wf[i]?) = wc.map some) (hnd : va_nd ps = true) (had : w1.map Prod.fst = wc.map Prod.fst)
    (q0 ci : Nat) {T : u_T} {N : Nat} {fs : List Value} (he : wc[q0]? = some (b, .inr (ci, fs))) (hc : vwCl[ci]? = some (C, T, N)) (hn : As.length = n) (hsize : ls.size = nL) (hstack : st = As.reverse ++ .ref b :: rest) (hW : (rest.map fun v => v.category).sum ≤ 8) (hdg : decode cc pc = .ok (.invokevirtual index, 3)) (hf : cells + 0 ≤ R.cells ∧ slots + 0 ≤ R.slots)
    (kk : ∀ (H1 : Heap) (locs1 : List Loc), va_P D vwCl (jn wf ps w1) H1 → va_D A (jn wf ps w1) → va_S A H0 H1 locs1 → W p l e R s m args below meth c H1 locs1 cells slots Q (F0 m (pc + 3) ls (.int v :: rest))) : W p l e R s m args below meth c H locs cells slots Q (F0 m pc ls st) := by
  have hPc : va_P D vwCl wc H := fun k q hk => by
    have h1 : (ps.map (fun i => wf[i]?))[k]? = some (some q) := by rw [hC, List.getElem?_map, hk]; rfl
    rw [List.getElem?_map] at h1
    cases hi : ps[k]? with
    | none => rw [hi] at h1; cases h1
    | some i => rw [hi] at h1; exact hP i q (Option.some.inj h1)
  have hDc : va_D A wc := hD.sub ps hnd hC
  have hF := va_free hD hS hA ps hC
  exact va_calli (va_runV (g := F0 m pc ls st) S hM cw ⟨wr_blind, va_recv hK.1 hPc hc he, wr_pre hK hPc hDc⟩ rfl hn hsize hstack (lv_room hW) hdg hf) hS (fun q _ h => hF q h) hF (fun r u t H1 locs1 ht hvm hw hB hz hk hS1 => by
    rw [hw]
    rw [ht] at hB
    obtain ⟨g1, g2⟩ := jn_ok hP hD ps hC hnd had hk hB
    exact kk H1 locs1 g1 g2 hS1)
theorem r_wVv (S : CallFix p m c cc nL s args Ts own) (hM : Met l y ws rm (wrPc D ct (.ref b :: As) wc H.size) (wqV D w1 (va_A wc H.size)) 0 0 (va_A wc H.size)) (cw : CallW R s args own C index y bytes maxL ret ws rm 0 0 n) (hK : KK D ct s) (hP : va_P D vwCl wf H) (hD : va_D A wf) (hS : va_S A H0 H locs) (hA : ∀ q, H0.size ≤ q → A q) (ps : List Nat) (hC : ps.map (fun i => wf[i]?) = wc.map some) (hnd : va_nd ps = true) (had : w1.map Prod.fst = wc.map Prod.fst)
    (q0 ci : Nat) {T : u_T} {N : Nat} {fs : List Value} (he : wc[q0]? = some (b, .inr (ci, fs))) (hc : vwCl[ci]? = some (C, T, N)) (hn : As.length = n) (hsize : ls.size = nL) (hstack : st = As.reverse ++ .ref b :: rest) (hW : (rest.map fun v => v.category).sum ≤ 8) (hdg : decode cc pc = .ok (.invokevirtual index, 3)) (hf : cells + 0 ≤ R.cells ∧ slots + 0 ≤ R.slots)
    (kk : ∀ (H1 : Heap) (locs1 : List Loc), va_P D vwCl (jn wf ps w1) H1 → va_D A (jn wf ps w1) → va_S A H0 H1 locs1 → W p l e R s m args below meth c H1 locs1 cells slots Q (F0 m (pc + 3) ls rest)) : W p l e R s m args below meth c H locs cells slots Q (F0 m pc ls st) := by
  have hPc : va_P D vwCl wc H := fun k q hk => by
    have h1 : (ps.map (fun i => wf[i]?))[k]? = some (some q) := by rw [hC, List.getElem?_map, hk]; rfl
    rw [List.getElem?_map] at h1
    cases hi : ps[k]? with
    | none => rw [hi] at h1; cases h1
    | some i => rw [hi] at h1; exact hP i q (Option.some.inj h1)
  have hDc : va_D A wc := hD.sub ps hnd hC
  have hF := va_free hD hS hA ps hC
  exact va_callv (va_runV (g := F0 m pc ls st) S hM cw ⟨wr_blind, va_recv hK.1 hPc hc he, wr_pre hK hPc hDc⟩ rfl hn hsize hstack (lv_room hW) hdg hf) hS (fun q _ h => hF q h) hF (fun u t H1 locs1 ht hvm hw hB hz hk hS1 => by
    rw [ht] at hB
    obtain ⟨g1, g2⟩ := jn_ok hP hD ps hC hnd had hk hB
    exact kk H1 locs1 g1 g2 hS1)
theorem r_wSv (S : CallFix p m c cc nL s args Ts own) (hM : Met l y ws rm (wrPc D ct As wc H.size) (wqV D w1 (va_A wc H.size)) 0 0 (va_A wc H.size)) (cw : CallB R s args own index y bytes maxL ret ws rm 0 0 n ∧ (Cond.static y).before args s = true) (hK : KK D ct s) (hP : va_P D vwCl wf H) (hD : va_D A wf) (hS : va_S A H0 H locs) (hA : ∀ q, H0.size ≤ q → A q) (ps : List Nat) (hC : ps.map (fun i => wf[i]?) = wc.map some) (hnd : va_nd ps = true) (had : w1.map Prod.fst = wc.map Prod.fst)
    (hn : As.length = n) (hsize : ls.size = nL) (hstack : st = As.reverse ++ rest) (hW : (rest.map fun v => v.category).sum ≤ 8) (hdg : decode cc pc = .ok (.invokestatic index, 3)) (hf : cells + 0 ≤ R.cells ∧ slots + 0 ≤ R.slots)
    (kk : ∀ (H1 : Heap) (locs1 : List Loc), va_P D vwCl (jn wf ps w1) H1 → va_D A (jn wf ps w1) → va_S A H0 H1 locs1 → W p l e R s m args below meth c H1 locs1 cells slots Q (F0 m (pc + 3) ls rest)) : W p l e R s m args below meth c H locs cells slots Q (F0 m pc ls st) := by
  have hPc : va_P D vwCl wc H := fun k q hk => by
    have h1 : (ps.map (fun i => wf[i]?))[k]? = some (some q) := by rw [hC, List.getElem?_map, hk]; rfl
    rw [List.getElem?_map] at h1
    cases hi : ps[k]? with
    | none => rw [hi] at h1; cases h1
    | some i => rw [hi] at h1; exact hP i q (Option.some.inj h1)
  have hDc : va_D A wc := hD.sub ps hnd hC
  have hF := va_free hD hS hA ps hC
  exact va_callv (va_runS (g := F0 m pc ls st) S hM cw ⟨wr_blind, wr_pre hK hPc hDc⟩ rfl hn hsize hstack (lv_room hW) hdg hf) hS (fun q _ h => hF q h) hF (fun u t H1 locs1 ht hvm hw hB hz hk hS1 => by
    rw [ht] at hB
    obtain ⟨g1, g2⟩ := jn_ok hP hD ps hC hnd had hk hB
    exact kk H1 locs1 g1 g2 hS1)
end WCALL
/-! the worlds -/
abbrev wH (ct : Nat → ClassId) (h : Nat → Nat) (hd : Nat → Bool) (nl : Nat → Nat) (wi : Nat → Option Nat) : va_W := [(h 0, .inr (0, [.ref (h 1), .ref (h 2), .ref (h 3)])), (h 1, .inl (ct 1, 150, .inl (fun k => bI (hd k)))), (h 2, .inl (ct 0, 150, .inl (fun k => nI (nl k)))), (h 3, .inl (ct 0, 4, .inl (fun k => eP (wi k))))]
abbrev wT (ct : Nat → ClassId) (a : Nat → Nat) (n : Nat) (dc : Nat → Nat) (pa : Nat → Option Nat) (va : Nat → Int32) (dl : Nat → Bool) (ge : Nat → Nat) (su : Nat → Int32) : va_W := [(a 0, .inr (2, [.ref (a 1), .ref (a 2), .ref (a 3), .ref (a 4), .ref (a 5), .ref (a 6), .int (nI n)])), (a 1, .inl (ct 0, 150, .inl (fun k => nI (dc k)))), (a 2, .inl (ct 0, 150, .inl (fun k => eP (pa k)))), (a 3, .inl (ct 0, 150, .inl va)), (a 4, .inl (ct 1, 150, .inl (fun k => bI (dl k)))), (a 5, .inl (ct 0, 150, .inl (fun k => nI (ge k)))), (a 6, .inl (ct 0, 150, .inl su))]
end
section
/-! further rows -/
def prd : Nat → Option Nat
  | 0 => none
  | j + 1 => some j
theorem nI_prd2 (n : Nat) : nI n - nI 1 = eP (prd n) := by
  cases n with
  | zero => decide
  | succ j => exact nI_pred j
theorem nI_prd (n : Nat) : nI n + Int32.ofInt (-1) = eP (prd n) := by
  cases n with
  | zero => decide
  | succ j => exact pk_m1 j
theorem prd_lt {n j : Nat} (h : prd n = some j) : n = j + 1 := by
  cases n with
  | zero => cases h
  | succ i => cases h; rfl
abbrev wA (ct : Nat → ClassId) (b n : Nat) (f : Nat → Int32) : va_W := [(b, .inl (ct 0, n, .inl f))]
abbrev wO (ct : Nat → ClassId) (o : Nat) (v : Int64) : va_W := [(o, .inl (ct 3, 1, .inr (.inl (fun _ => v))))]
abbrev wS (ct : Nat → ClassId) (s h : Nat → Nat) (dp lt : Int32) (ch ck : Nat → Int32) : va_W := [(s 0, .inr (1, [.ref (h 0), .int dp, .int lt, .ref (s 1), .ref (s 2)])), (s 1, .inl (ct 0, 4, .inl ch)), (s 2, .inl (ct 0, 9, .inl ck))]
abbrev wR (ct : Nat → ClassId) (r a u : Nat → Nat) (sa : Nat → Nat → Nat) : va_W := [(r 0, .inr (3, [.ref (a 0), .ref (r 1), .ref (u 0)])), (r 1, .inl (ct 2, 3, .inr (.inr (.inr (.inr (fun k => some (sa k 0)))))))]
abbrev wM (ct : Nat → ClassId) (m : Nat → Nat) (n : Nat) (dc : Nat → Nat) (pa : Nat → Option Nat) (va : Nat → Int32) (dl : Nat → Bool) (ge : Nat → Nat) (su : Nat → Int32) (mk : Nat → Bool) (dp sq tc kp : Nat → Int32) (la : Int32) : va_W := [(m 0, .inr (4, [.ref (m 1), .ref (m 2), .ref (m 3), .ref (m 4), .ref (m 5), .ref (m 6), .int (nI n), .ref (m 7), .ref (m 8), .ref (m 9), .ref (m 10), .ref (m 11), .int la])), (m 1, .inl (ct 0, 150, .inl (fun k => nI (dc k)))), (m 2, .inl (ct 0, 150, .inl (fun k => eP (pa k)))), (m 3, .inl (ct 0, 150, .inl va)), (m 4, .inl (ct 1, 150, .inl (fun k => bI (dl k)))), (m 5, .inl (ct 0, 150, .inl (fun k => nI (ge k)))), (m 6, .inl (ct 0, 150, .inl su)), (m 7, .inl (ct 1, 450, .inl (fun k => bI (mk k)))), (m 8, .inl (ct 0, 3, .inl dp)), (m 9, .inl (ct 0, 3, .inl sq)), (m 10, .inl (ct 0, 12, .inl tc)), (m 11, .inl (ct 0, 27, .inl kp))]
theorem arrV_cong {cA : ClassId} {n : Nat} {f g : Nat → Value} (h : ∀ j, j < n → f j = g j) : arrV cA n f = arrV cA n g := by
  have e : (fun j : Fin n => f j.val) = (fun j : Fin n => g j.val) := funext fun j => h j.val j.isLt
  simp only [arrV, e]
theorem wA_cong {D : va_G} {cl : List vw_C} {ct : Nat → ClassId} {b n : Nat} {f g : Nat → Int32} {H : Heap} (h : ∀ j, j < n → f j = g j) (hP : va_P D cl (wA ct b n f) H) : va_P D cl (wA ct b n g) H := by
  intro k q hk
  have h0 := hP 0 _ rfl
  cases k with
  | succ k => simp at hk
  | zero =>
    cases hk
    show H[b]? = some (vp_cell (ct 0) (n, .inl g))
    rw [vp_cell_i, ← arrV_cong (f := fun j => .int (f j)) (fun j hj => by rw [h j hj])]
    exact h0
theorem va_Pnil {D : va_G} {cl : List vw_C} {H : Heap} : va_P D cl [] H := fun k q h => by simp at h
section RWS2
variable {p : Program} {l : Launch} {e : Env} {R : Room} {s : State} {m : MethodId} {args : Array Value} {below : List Frame} {meth : Method} {c : Code} {H : Heap} {locs : List Loc} {cells slots : Nat} {Q : State → Prop}
variable {cc : ByteArray} {pc : Nat} {ls : Array Slot} {rest : List Value} {D : va_G} {cl : List vw_C} {A : Nat → Prop} {a : Nat} {tys : List (ClassId × FieldType)} {ws : va_W} {H0 : Heap}
theorem r_aald (hexec : p.tables.exec = Jvm.exec) (hb : c.code = cc) (hK : va_K D cl tys s) (hP : va_P D cl ws H) (q0 t0 : Nat) {cA : ClassId} {C : String} {n : Nat} {f : Nat → Option Nat} (ha : ws[q0]? = some (a, .inl (cA, n, .inr (.inr (.inr (.inr f)))))) (ht : tys[t0]? = some (cA, .object C)) {j : Nat} (hj : j < n) (hn : n < 2 ^ 31) {v : Nat} (hv : f j = some v) (hdg : decode cc pc = .ok (.aaload, 1))
    (kk : W p l e R s m args below meth c H locs cells slots Q (F0 m (pc + 1) ls (.ref v :: rest))) : W p l e R s m args below meth c H locs cells slots Q (F0 m pc ls (.int (nI j) :: .ref a :: rest)) :=
  va_aldq hexec hb hK hP q0 t0 ha ht (vp_in_nI hj hn) hdg (by rw [nI_clamp (by omega), hv]; exact kk)
theorem r_icmp_eqN1 (hexec : p.tables.exec = Jvm.exec) (hb : c.code = cc) {x : Nat} (hx : x < 2 ^ 31) {off : Int} {tgt : Nat} (hdg : decode cc pc = .ok (.if_icmp .eq off, 3)) (ht : (pc : Int) + off = (tgt : Int))
    (kf : W p l e R s m args below meth c H locs cells slots Q (F0 m (pc + 3) ls rest)) : W p l e R s m args below meth c H locs cells slots Q (F0 m pc ls (.int (-1) :: .int (nI x) :: rest)) :=
  lv_icmp_eq hexec hb hdg ht (fun h => absurd h (eP_m1 hx)) (fun _ => kf)
theorem r_icmp_neN1 (hexec : p.tables.exec = Jvm.exec) (hb : c.code = cc) {x : Nat} (hx : x < 2 ^ 31) {off : Int} {tgt : Nat} (hdg : decode cc pc = .ok (.if_icmp .ne off, 3)) (ht : (pc : Int) + off = (tgt : Int))
    (kt : W p l e R s m args below meth c H locs cells slots Q (F0 m tgt ls rest)) : W p l e R s m args below meth c H locs cells slots Q (F0 m pc ls (.int (-1) :: .int (nI x) :: rest)) :=
  lv_icmp_ne hexec hb hdg ht (fun _ => kt) (fun h => absurd h (eP_m1 hx))
theorem r_mminN {cc : ByteArray} (hexec : p.tables.exec = Jvm.exec) (hb : c.code = cc) (hml : c.maxLocals = ls.size) {own : String} {index : Nat} (hown : s.vm.findClass own = some m.cls) (hlink : (Cond.methodLink own index Lib.Math.min.name).before args s = true) (hstat : (Cond.static Lib.Math.min.name).before args s = true) (hini : (Cond.initialized "java/lang/Math").before args s = true) (hcode : (Cond.code Lib.Math.min.name Lib.Math.min.code 2 (some .int)).before args s = true)
    (hframes : 1 ≤ R.frames) (hlocals : (rest.map fun v => v.category).sum + 13 ≤ R.locals) (hc : cells ≤ R.cells) (hs : slots ≤ R.slots) {x y : Nat} (hx9 : x < 2 ^ 31) (hy9 : y < 2 ^ 31) (hdg : decode cc pc = .ok (.invokestatic index, 3))
    (kk : W p l e R s m args below meth c H locs cells slots Q (F0 m (pc + 3) ls (.int (nI (min x y)) :: rest))) : W p l e R s m args below meth c H locs cells slots Q (F0 m pc ls (.int (nI y) :: .int (nI x) :: rest)) := by
  refine va_mmin hexec hb hml hown hlink hstat hini hcode hframes hlocals hc hs hdg ?_
  have e : (if nI y < nI x then nI y else nI x) = nI (min x y) := by
    by_cases h : y < x
    · rw [if_pos ((nI_ltI hy9 hx9).mpr h), Nat.min_eq_right (by omega)]
    · rw [if_neg (fun z => h ((nI_ltI hy9 hx9).mp z)), Nat.min_eq_left (by omega)]
  rw [e]
  exact kk
end RWS2
end
section
/-! what the methods reckon, in plain words -/
def fct (P : Nat → Bool) : Nat → Nat
  | 0 => 0
  | k + 1 => fct P k + (if P k = true then 1 else 0)
theorem fct_le (P : Nat → Bool) : ∀ n, fct P n ≤ n
  | 0 => Nat.le_refl 0
  | k + 1 => by
    have h := fct_le P k
    unfold fct
    split <;> omega
theorem fct_t {P : Nat → Bool} {k : Nat} (h : P k = true) : fct P (k + 1) = fct P k + 1 := by
  show fct P k + _ = _
  rw [if_pos h]
theorem fct_f {P : Nat → Bool} {k : Nat} (h : P k = false) : fct P (k + 1) = fct P k := by
  show fct P k + _ = _
  rw [if_neg (by rw [h]; decide)]
  rfl
/-- the first number below n with P -/
def ffd (P : Nat → Bool) : Nat → Option Nat
  | 0 => none
  | k + 1 => match ffd P k with
    | some j => some j
    | none => if P k = true then some k else none
theorem ffd_no {P : Nat → Bool} {k : Nat} (h : ffd P k = none) (hp : P k = false) : ffd P (k + 1) = none := by
  simp [ffd, h, hp]
theorem ffd_up {P : Nat → Bool} {k j : Nat} (h : ffd P k = some j) : ∀ i, ffd P (k + i) = some j
  | 0 => h
  | i + 1 => by
    have := ffd_up h i
    show ffd P (k + i + 1) = _
    simp [ffd, this]
theorem ffd_hit {P : Nat → Bool} {k n : Nat} (h : ffd P k = none) (hp : P k = true) (hk : k < n) : ffd P n = some k := by
  have h1 : ffd P (k + 1) = some k := by simp [ffd, h, hp]
  have h2 := ffd_up h1 (n - (k + 1))
  rwa [show k + 1 + (n - (k + 1)) = n by omega] at h2
def fnd (dc : Nat → Nat) (pa : Nat → Option Nat) (va : Nat → Int32) (dl : Nat → Bool) (d : Nat) (o : Option Nat) (v : Int32) (b : Bool) (k : Nat) : Bool := decide (dc k = d) && (decide (eP (pa k) = eP o) && (decide (va k = v) && decide (dl k = b)))
def mkg (ge : Nat → Nat) (o : Option Nat) : Nat := match o with
  | none => 1
  | some j => ge j + 1
def mkh (su : Nat → Int32) (o : Option Nat) : Int32 := match o with
  | none => nI 31
  | some j => nI 31 * su j
def mkr (x : Int32) : Int32 := x - x / nI 997 * nI 997
def mksu (ge : Nat → Nat) (su : Nat → Int32) (o : Option Nat) (v : Int32) (b : Bool) : Int32 := mkr (mkh su o + nI 7 * v + nI (mkg ge o) + (if b = true then nI 3 else nI 0))
def btr (dl : Nat → Bool) (ge : Nat → Nat) (su : Nat → Int32) (i j : Nat) : Bool := if dl i = dl j then (if ge i = ge j then (if su i = su j then decide (i < j) else !decide (su i ≤ su j)) else decide (ge j < ge i)) else dl j
def hasD (nl : Nat → Nat) (k : Nat) : Bool := decide (nl k ≠ 151)
def ends (hd : Nat → Bool) (nl : Nat → Nat) (k : Nat) : Bool := hd k && !hasD nl k
/-- one step of the search for leaves: k tells its parent -/
def flp (pa : Nat → Option Nat) (ge : Nat → Nat) (hd : Nat → Bool) (k : Nat) (x : Nat → Nat) : Nat → Nat := match pa k with
  | none => x
  | some j => va_up x j (min (x j) (if ends hd x k = true then ge k else x k))
def flS (pa : Nat → Option Nat) (ge : Nat → Nat) (hd : Nat → Bool) (n : Nat) : Nat → Nat → Nat
  | 0 => fun _ => 151
  | c + 1 => flp pa ge hd (n - (c + 1)) (flS pa ge hd n c)
theorem flp_n {pa : Nat → Option Nat} {ge : Nat → Nat} {hd : Nat → Bool} {k : Nat} {x : Nat → Nat} (h : pa k = none) : flp pa ge hd k x = x := by simp only [flp, h]
theorem flp_s {pa : Nat → Option Nat} {ge : Nat → Nat} {hd : Nat → Bool} {k j : Nat} {x : Nat → Nat} (h : pa k = some j) : flp pa ge hd k x = va_up x j (min (x j) (if ends hd x k = true then ge k else x k)) := by simp only [flp, h]
theorem flS_le {pa : Nat → Option Nat} {ge : Nat → Nat} {hd : Nat → Bool} {n : Nat} : ∀ (c k : Nat), flS pa ge hd n c k ≤ 151
  | 0, k => Nat.le_refl _
  | c + 1, k => by
    have ih := flS_le (pa := pa) (ge := ge) (hd := hd) (n := n) c
    show flp pa ge hd (n - (c + 1)) (flS pa ge hd n c) k ≤ 151
    cases hp : pa (n - (c + 1)) with
    | none => rw [flp_n hp]; exact ih k
    | some j =>
      rw [flp_s hp]
      by_cases h : k = j
      · subst h
        simp only [va_up, if_true]
        exact Nat.le_trans (Nat.min_le_left _ _) (ih _)
      · simp only [va_up, if_neg h]
        exact ih k
theorem flS_n {pa : Nat → Option Nat} {ge : Nat → Nat} {hd : Nat → Bool} {n c k : Nat} (e : k + (c + 1) = n) (h : pa k = none) : flS pa ge hd n c = flS pa ge hd n (c + 1) := by
  show _ = flp pa ge hd (n - (c + 1)) (flS pa ge hd n c)
  rw [show n - (c + 1) = k by omega, flp_n h]
theorem flS_s {pa : Nat → Option Nat} {ge : Nat → Nat} {hd : Nat → Bool} {n c k j y : Nat} (e : k + (c + 1) = n) (h : pa k = some j) (hy : (if ends hd (flS pa ge hd n c) k = true then ge k else flS pa ge hd n c k) = y) : va_up (flS pa ge hd n c) j (min (flS pa ge hd n c j) y) = flS pa ge hd n (c + 1) := by
  show _ = flp pa ge hd (n - (c + 1)) (flS pa ge hd n c)
  rw [show n - (c + 1) = k by omega, flp_s h, hy]
/-- one step of the search for winners -/
def fwp (dc : Nat → Nat) (dl : Nat → Bool) (ge : Nat → Nat) (su : Nat → Int32) (E : Nat → Bool) (k : Nat) (x : Nat → Option Nat) : Nat → Option Nat :=
  if E k = true then (match x (dc k) with
    | none => va_up x (dc k) (some k)
    | some b => if btr dl ge su k b = true then va_up x (dc k) (some k) else x) else x
def fwS (dc : Nat → Nat) (dl : Nat → Bool) (ge : Nat → Nat) (su : Nat → Int32) (E : Nat → Bool) : Nat → Nat → Option Nat
  | 0 => fun _ => none
  | k + 1 => fwp dc dl ge su E k (fwS dc dl ge su E k)
theorem fwp_x (dc : Nat → Nat) (dl : Nat → Bool) (ge : Nat → Nat) (su : Nat → Int32) (E : Nat → Bool) (k : Nat) (x : Nat → Option Nat) : fwp dc dl ge su E k x = x ∨ fwp dc dl ge su E k x = va_up x (dc k) (some k) := by
  by_cases hE : E k = true
  · cases hx : x (dc k) with
    | none => exact Or.inr (by simp only [fwp, if_pos hE, hx])
    | some b =>
      by_cases hb : btr dl ge su k b = true
      · exact Or.inr (by simp only [fwp, if_pos hE, hx, if_pos hb])
      · exact Or.inl (by simp only [fwp, if_pos hE, hx, if_neg hb])
  · exact Or.inl (by simp only [fwp, if_neg hE])
theorem fwS_lt {dc : Nat → Nat} {dl : Nat → Bool} {ge : Nat → Nat} {su : Nat → Int32} {E : Nat → Bool} : ∀ (k d j : Nat), fwS dc dl ge su E k d = some j → j < k
  | 0, d, j, h => by cases h
  | k + 1, d, j, h => by
    have ih := fwS_lt (dc := dc) (dl := dl) (ge := ge) (su := su) (E := E) k d j
    have h : fwp dc dl ge su E k (fwS dc dl ge su E k) d = some j := h
    rcases fwp_x dc dl ge su E k (fwS dc dl ge su E k) with e | e
    · rw [e] at h
      exact Nat.lt_succ_of_lt (ih h)
    · rw [e] at h
      by_cases hd : d = dc k
      · rw [hd] at h
        simp only [va_up, if_true] at h
        cases h
        exact Nat.lt_succ_self _
      · simp only [va_up, if_neg hd] at h
        exact Nat.lt_succ_of_lt (ih h)
/-- which revision is stemmed -/
def stC (hd : Nat → Bool) (nl ge : Nat → Nat) (dp : Int32) (k : Nat) : Bool := hd k && (hasD nl k && !decide (nI (nl k) - nI (ge k) < dp))
def stm (hd : Nat → Bool) (nl ge : Nat → Nat) (dp : Int32) (n : Nat) : Nat → Bool := fun i => hd i && !(decide (i < n) && stC hd nl ge dp i)
theorem stm_0 (hd : Nat → Bool) (nl ge : Nat → Nat) (dp : Int32) : hd = stm hd nl ge dp 0 := by
  funext i
  simp [stm]
theorem stm_k (hd : Nat → Bool) (nl ge : Nat → Nat) (dp : Int32) (k : Nat) : stm hd nl ge dp k k = hd k := by simp [stm]
theorem stm_f {hd : Nat → Bool} {nl ge : Nat → Nat} {dp : Int32} {k : Nat} (h : stC hd nl ge dp k = false) : stm hd nl ge dp k = stm hd nl ge dp (k + 1) := by
  funext i
  by_cases e : i = k
  · subst e
    simp [stm, h]
  · have e2 : decide (i < k + 1) = decide (i < k) := by
      by_cases q : i < k
      · simp [q, Nat.lt_succ_of_lt q]
      · simp [q]; omega
    simp [stm, e2]
theorem stm_t {hd : Nat → Bool} {nl ge : Nat → Nat} {dp : Int32} {k : Nat} (h : stC hd nl ge dp k = true) : va_up (stm hd nl ge dp k) k false = stm hd nl ge dp (k + 1) := by
  funext i
  by_cases e : i = k
  · subst e
    simp [stm, h, va_up]
  · have e2 : decide (i < k + 1) = decide (i < k) := by
      by_cases q : i < k
      · simp [q, Nat.lt_succ_of_lt q]
      · simp [q]; omega
    simp [stm, e2, va_up, e]
/-- the first k fall -/
def rem (hd : Nat → Bool) (k : Nat) : Nat → Bool := fun i => hd i && !decide (i < k)
theorem rem_0 (hd : Nat → Bool) : hd = rem hd 0 := by
  funext i
  simp [rem]
theorem rem_s (hd : Nat → Bool) (k : Nat) : va_up (rem hd k) k false = rem hd (k + 1) := by
  funext i
  by_cases e : i = k
  · subst e; simp [rem, va_up]
  · have e2 : decide (i < k + 1) = decide (i < k) := by
      by_cases q : i < k
      · simp [q, Nat.lt_succ_of_lt q]
      · simp [q]; omega
    simp [rem, e2, va_up, e]
/-- the first k are united -/
def uni (hd oh : Nat → Bool) (k : Nat) : Nat → Bool := fun i => hd i || (decide (i < k) && oh i)
theorem uni_0 (hd oh : Nat → Bool) : hd = uni hd oh 0 := by
  funext i
  simp [uni]
theorem uni_k (hd oh : Nat → Bool) (k : Nat) : uni hd oh k k = hd k := by simp [uni]
theorem uni_s (hd oh : Nat → Bool) (k : Nat) : va_up (uni hd oh k) k (hd k || oh k) = uni hd oh (k + 1) := by
  funext i
  by_cases e : i = k
  · subst e; simp [uni, va_up]
  · have e2 : decide (i < k + 1) = decide (i < k) := by
      by_cases q : i < k
      · simp [q, Nat.lt_succ_of_lt q]
      · simp [q]; omega
    simp [uni, e2, va_up, e]
/-- a line of ancestors is added -/
def ln (pa : Nat → Option Nat) (oh : Nat → Bool) : Nat → Option Nat → Nat → (Nat → Bool) → Nat × (Nat → Bool)
  | 0, _, c, x => (c, x)
  | _ + 1, none, c, x => (c, x)
  | f + 1, some j, c, x => if (oh j && !x j) = true then ln pa oh f (pa j) (c + 1) (va_up x j true) else ln pa oh f (pa j) c x
theorem ln_none (pa : Nat → Option Nat) (oh : Nat → Bool) (f c : Nat) (x : Nat → Bool) : ln pa oh f none c x = (c, x) := by cases f <;> rfl
theorem ln_t {pa : Nat → Option Nat} {oh : Nat → Bool} {f g j c : Nat} {x : Nat → Bool} (hf : f = g + 1) (h1 : oh j = true) (h2 : x j = false) : ln pa oh f (some j) c x = ln pa oh g (pa j) (c + 1) (va_up x j true) := by
  subst hf
  simp [ln, h1, h2]
theorem ln_f {pa : Nat → Option Nat} {oh : Nat → Bool} {f g j c : Nat} {x : Nat → Bool} (hf : f = g + 1) (h : (oh j && !x j) = false) : ln pa oh f (some j) c x = ln pa oh g (pa j) c x := by
  subst hf
  show (if (oh j && !x j) = true then _ else _) = _
  rw [if_neg (by rw [h]; decide)]
theorem ln_le (pa : Nat → Option Nat) (oh : Nat → Bool) : ∀ (f : Nat) (o : Option Nat) (c : Nat) (x : Nat → Bool), (ln pa oh f o c x).1 ≤ c + f
  | 0, _, c, x => Nat.le_refl _
  | f + 1, none, c, x => by show c ≤ _; omega
  | f + 1, some j, c, x => by
    have h1 := ln_le pa oh f (pa j) (c + 1) (va_up x j true)
    have h2 := ln_le pa oh f (pa j) c x
    unfold ln
    split <;> omega
/-- the branches of a document -/
def abC (dc : Nat → Nat) (oe : Nat → Bool) (nl : Nat → Nat) (d k : Nat) (x : Nat → Bool) : Bool := decide (dc k = d) && (oe k && (!x k && !hasD nl k))
def abp (dc : Nat → Nat) (pa : Nat → Option Nat) (oh oe : Nat → Bool) (nl : Nat → Nat) (d k : Nat) (x : Nat × (Nat → Bool)) : Nat × (Nat → Bool) := if abC dc oe nl d k x.2 = true then (x.1 + (ln pa oh 150 (some k) 0 x.2).1, (ln pa oh 150 (some k) 0 x.2).2) else x
def abS (dc : Nat → Nat) (pa : Nat → Option Nat) (oh oe : Nat → Bool) (nl : Nat → Nat) (d : Nat) (hd : Nat → Bool) : Nat → Nat × (Nat → Bool)
  | 0 => (0, hd)
  | k + 1 => abp dc pa oh oe nl d k (abS dc pa oh oe nl d hd k)
theorem abS_le (dc : Nat → Nat) (pa : Nat → Option Nat) (oh oe : Nat → Bool) (nl : Nat → Nat) (d : Nat) (hd : Nat → Bool) : ∀ k, (abS dc pa oh oe nl d hd k).1 ≤ 150 * k
  | 0 => Nat.le_refl _
  | k + 1 => by
    have h1 := abS_le dc pa oh oe nl d hd k
    have h2 := ln_le pa oh 150 (some k) 0 (abS dc pa oh oe nl d hd k).2
    show (abp _ _ _ _ _ _ _ _).1 ≤ _
    unfold abp
    split
    · show _ + _ ≤ _
      omega
    · omega
theorem abS_t {dc : Nat → Nat} {pa : Nat → Option Nat} {oh oe : Nat → Bool} {nl : Nat → Nat} {d : Nat} {hd : Nat → Bool} {k : Nat} (h : abC dc oe nl d k (abS dc pa oh oe nl d hd k).2 = true) : abS dc pa oh oe nl d hd (k + 1) = ((abS dc pa oh oe nl d hd k).1 + (ln pa oh 150 (some k) 0 (abS dc pa oh oe nl d hd k).2).1, (ln pa oh 150 (some k) 0 (abS dc pa oh oe nl d hd k).2).2) := by
  show abp _ _ _ _ _ _ _ _ = _
  unfold abp
  rw [if_pos h]
theorem abS_f {dc : Nat → Nat} {pa : Nat → Option Nat} {oh oe : Nat → Bool} {nl : Nat → Nat} {d : Nat} {hd : Nat → Bool} {k : Nat} (h : abC dc oe nl d k (abS dc pa oh oe nl d hd k).2 = false) : abS dc pa oh oe nl d hd (k + 1) = abS dc pa oh oe nl d hd k := by
  show abp _ _ _ _ _ _ _ _ = _
  unfold abp
  rw [if_neg (by rw [h]; decide)]
/-- the shown value of a document -/
def shv (dl : Nat → Bool) (va : Nat → Int32) (wi : Nat → Option Nat) (d : Nat) : Int32 := match wi d with
  | none => -1
  | some j => if dl j = true then -1 else va j
def bfC (f : Nat → Int32) (v : Int32) (d o : Nat) : Bool := decide (f o ≠ -1) && (decide (f o < v) || (decide (f o = v) && decide (o < d)))
/-- the document with the least sequence above a number -/
def nxp (ch : Nat → Int32) (a : Int32) (k : Nat) (x : Option Nat) : Option Nat := if ch k ≤ a then x else (match x with
  | none => some k
  | some b => if ch b ≤ ch k then some b else some k)
def nxS (ch : Nat → Int32) (a : Int32) : Nat → Option Nat
  | 0 => none
  | k + 1 => nxp ch a k (nxS ch a k)
theorem nxp_x (ch : Nat → Int32) (a : Int32) (k : Nat) (x : Option Nat) : nxp ch a k x = x ∨ nxp ch a k x = some k := by
  by_cases h : ch k ≤ a
  · exact Or.inl (by simp only [nxp, if_pos h])
  · cases x with
    | none => exact Or.inr (by simp only [nxp, if_neg h])
    | some b =>
      by_cases hb : ch b ≤ ch k
      · exact Or.inl (by simp only [nxp, if_neg h, if_pos hb])
      · exact Or.inr (by simp only [nxp, if_neg h, if_neg hb])
theorem nxS_lt (ch : Nat → Int32) (a : Int32) : ∀ (k j : Nat), nxS ch a k = some j → j < k
  | 0, j, h => by cases h
  | k + 1, j, h => by
    have ih := nxS_lt ch a k
    have h : nxp ch a k (nxS ch a k) = some j := h
    rcases nxp_x ch a k (nxS ch a k) with e | e
    · rw [e] at h
      exact Nat.lt_succ_of_lt (ih _ h)
    · rw [e] at h
      cases h
      exact Nat.lt_succ_self _
/-- the first k are x -/
def fil (f : Nat → Int32) (x : Int32) (k : Nat) : Nat → Int32 := fun j => if j < k then x else f j
theorem fil_0 (f : Nat → Int32) (x : Int32) : f = fil f x 0 := by
  funext j
  simp [fil]
theorem fil_s (f : Nat → Int32) (x : Int32) (k : Nat) : va_up (fil f x k) k x = fil f x (k + 1) := by
  funext i
  by_cases e : i = k
  · subst e; simp [fil, va_up]
  · have e2 : (i < k + 1) = (i < k) := propext ⟨fun h => by omega, fun h => by omega⟩
    simp [fil, e2, va_up, e]
def llC (dc : Nat → Nat) (dl E : Nat → Bool) (d k : Nat) : Bool := decide (dc k = d) && (E k && !dl k)
def ccC (ch : Nat → Int32) (x : Int32) (k : Nat) : Bool := !decide (ch k ≤ x)
end
section
/-! what the reference's methods reckon, and rows for it -/
def inn (v lo hi : Int32) : Bool := !decide (v < lo) && !decide (hi < v)
theorem inn_t {s h : Nat} (hs : s ≤ h) (hh : h < 2 ^ 31) : inn (nI s) (nI 0) (nI h) = true := by
  have h1 : ¬ nI s < nI 0 := nI_nlt (Nat.zero_le _) (by omega)
  have h2 : ¬ nI h < nI s := nI_nlt hs hh
  simp [inn, h1, h2]
theorem inn_t1 {s h : Nat} (h0 : 1 ≤ s) (hs : s ≤ h) (hh : h < 2 ^ 31) : inn (nI s) (nI 1) (nI h) = true := by
  have h1 : ¬ nI s < nI 1 := nI_nlt h0 (by omega)
  have h2 : ¬ nI h < nI s := nI_nlt hs hh
  simp [inn, h1, h2]
theorem inn_r {r n : Nat} (h : r < n) (hn : n ≤ 150) : inn (nI r) (nI 0) (eP (prd n)) = true := by
  cases n with
  | zero => omega
  | succ j => exact inn_t (h := j) (by omega) (by omega)
def gof (a b c : Bool) : Int32 := if a = true then (if b = true then (if c = true then nI 0 else nI 3) else nI 2) else nI 1
theorem gof0 {a b c : Bool} (h : gof a b c = 0) : (a && (b && c)) = true := by
  cases a <;> cases b <;> cases c <;> first | rfl | exact absurd h (by decide)
theorem gof1 {a b c : Bool} (h : ¬ gof a b c = 0) : (a && (b && c)) = false := by
  cases a <;> cases b <;> cases c <;> first | rfl | exact absurd rfl h
/-- up the parents, while the number is above r -/
def wk (pa : Nat → Option Nat) (r : Nat) : Nat → Option Nat → Option Nat
  | 0, o => o
  | _ + 1, none => none
  | f + 1, some j => if r < j then wk pa r f (pa j) else some j
theorem wk_stop {pa : Nat → Option Nat} {r : Nat} {o : Option Nat} (h : ∀ j, o = some j → j ≤ r) : ∀ f, wk pa r f o = o
  | 0 => rfl
  | f + 1 => by
    cases o with
    | none => rfl
    | some j => simp only [wk, if_neg (Nat.not_lt.mpr (h j rfl))]
theorem wk_up {pa : Nat → Option Nat} {r j g : Nat} (h : r < j) : wk pa r (g + 1) (some j) = wk pa r g (pa j) := by simp only [wk, if_pos h]
def anc (pa : Nat → Option Nat) (r k : Nat) : Bool := decide (wk pa r 150 (some k) = some r) && decide (k ≠ r)
theorem anc_le {pa : Nat → Option Nat} {r k : Nat} (h : k ≤ r) : anc pa r k = false := by
  have h1 : wk pa r 150 (some k) = some k := wk_stop (fun j hj => by cases hj; exact h) 150
  unfold anc
  rw [h1]
  by_cases e : k = r
  · simp [e]
  · simp [e]
/-- whether a number below n has P -/
def any (P : Nat → Bool) : Nat → Bool
  | 0 => false
  | k + 1 => any P k || P k
theorem any_iff {P : Nat → Bool} : ∀ {n : Nat}, any P n = true ↔ ∃ k, k < n ∧ P k = true
  | 0 => ⟨fun h => (by cases h), fun ⟨k, h, _⟩ => absurd h (Nat.not_lt_zero k)⟩
  | n + 1 => by
    show (any P n || P n) = true ↔ _
    rw [Bool.or_eq_true, any_iff (n := n)]
    constructor
    · rintro (⟨k, h1, h2⟩ | h)
      · exact ⟨k, Nat.lt_succ_of_lt h1, h2⟩
      · exact ⟨n, Nat.lt_succ_self n, h⟩
    · rintro ⟨k, h1, h2⟩
      rcases Nat.lt_or_ge k n with q | q
      · exact Or.inl ⟨k, q, h2⟩
      · exact Or.inr (by rw [show n = k by omega]; exact h2)
theorem any_no {P : Nat → Bool} {n : Nat} (h : ∀ k, k < n → P k = false) : any P n = false := by
  cases e : any P n with
  | false => rfl
  | true =>
    obtain ⟨k, h1, h2⟩ := any_iff.mp e
    rw [h k h1] at h2
    cases h2
theorem any_hit {P : Nat → Bool} {k n : Nat} (hk : k < n) (h : P k = true) : any P n = true := any_iff.mpr ⟨k, hk, h⟩
def hsP (pa : Nat → Option Nat) (mk : Nat → Bool) (s r k : Nat) : Bool := mk ((150 * s) + k) && anc pa r k
def lef (pa : Nat → Option Nat) (mk : Nat → Bool) (s n r : Nat) : Bool := mk ((150 * s) + r) && !any (hsP pa mk s r) n
theorem hsP_0 (pa : Nat → Option Nat) (mk : Nat → Bool) (s r : Nat) : any (hsP pa mk s r) (r + 1) = false := any_no (fun k h => by simp [hsP, anc_le (pa := pa) (Nat.le_of_lt_succ h)])
def bsp (dc : Nat → Nat) (dl : Nat → Bool) (ge : Nat → Nat) (su : Nat → Int32) (L : Nat → Bool) (d k : Nat) (x : Option Nat) : Option Nat :=
  if (decide (dc k = d) && L k) = true then (match x with
    | none => some k
    | some b => if btr dl ge su k b = true then some k else some b) else x
def bsS (dc : Nat → Nat) (dl : Nat → Bool) (ge : Nat → Nat) (su : Nat → Int32) (L : Nat → Bool) (d : Nat) : Nat → Option Nat
  | 0 => none
  | k + 1 => bsp dc dl ge su L d k (bsS dc dl ge su L d k)
theorem bsp_x (dc : Nat → Nat) (dl : Nat → Bool) (ge : Nat → Nat) (su : Nat → Int32) (L : Nat → Bool) (d k : Nat) (x : Option Nat) : bsp dc dl ge su L d k x = x ∨ bsp dc dl ge su L d k x = some k := by
  by_cases h : (decide (dc k = d) && L k) = true
  · cases x with
    | none => exact Or.inr (by simp only [bsp, if_pos h])
    | some b =>
      by_cases hb : btr dl ge su k b = true
      · exact Or.inr (by simp only [bsp, if_pos h, if_pos hb])
      · exact Or.inl (by simp only [bsp, if_pos h, if_neg hb])
  · exact Or.inl (by simp only [bsp, if_neg h])
theorem bsS_lt (dc : Nat → Nat) (dl : Nat → Bool) (ge : Nat → Nat) (su : Nat → Int32) (L : Nat → Bool) (d : Nat) : ∀ (k j : Nat), bsS dc dl ge su L d k = some j → j < k
  | 0, j, h => by cases h
  | k + 1, j, h => by
    have ih := bsS_lt dc dl ge su L d k
    have h : bsp dc dl ge su L d k (bsS dc dl ge su L d k) = some j := h
    rcases bsp_x dc dl ge su L d k (bsS dc dl ge su L d k) with e | e
    · rw [e] at h
      exact Nat.lt_succ_of_lt (ih _ h)
    · rw [e] at h
      cases h
      exact Nat.lt_succ_self _
def dpQ (pa : Nat → Option Nat) (mk : Nat → Bool) (s n r k : Nat) : Bool := anc pa r k && lef pa mk s n k
def dpR (pa : Nat → Option Nat) (mk : Nat → Bool) (ge : Nat → Nat) (dp : Nat → Int32) (s n r k : Nat) : Bool := dpQ pa mk s n r k && !decide (nI (ge r) + dp s ≤ nI (ge k))
def dep (pa : Nat → Option Nat) (mk : Nat → Bool) (ge : Nat → Nat) (dp : Nat → Int32) (s n r : Nat) : Bool := any (dpQ pa mk s n r) n && !any (dpR pa mk ge dp s n r) n
theorem dpQ_0 (pa : Nat → Option Nat) (mk : Nat → Bool) (s n r : Nat) : any (dpQ pa mk s n r) (r + 1) = false := any_no (fun k h => by simp [dpQ, anc_le (pa := pa) (Nat.le_of_lt_succ h)])
theorem dpR_0 (pa : Nat → Option Nat) (mk : Nat → Bool) (ge : Nat → Nat) (dp : Nat → Int32) (s n r : Nat) : any (dpR pa mk ge dp s n r) (r + 1) = false := any_no (fun k h => by simp [dpR, dpQ, anc_le (pa := pa) (Nat.le_of_lt_succ h)])
def smp (pa : Nat → Option Nat) (ge : Nat → Nat) (dp : Nat → Int32) (s n k : Nat) (x : Nat × (Nat → Bool)) : Nat × (Nat → Bool) := if (x.2 ((150 * s) + k) && dep pa x.2 ge dp s n k) = true then (x.1 + 1, va_up x.2 ((150 * s) + k) false) else x
def smS (pa : Nat → Option Nat) (ge : Nat → Nat) (dp : Nat → Int32) (s n : Nat) (mk : Nat → Bool) : Nat → Nat × (Nat → Bool)
  | 0 => (0, mk)
  | k + 1 => smp pa ge dp s n k (smS pa ge dp s n mk k)
theorem smS_t {pa : Nat → Option Nat} {ge : Nat → Nat} {dp : Nat → Int32} {s n : Nat} {mk : Nat → Bool} {k : Nat} (h1 : (smS pa ge dp s n mk k).2 ((150 * s) + k) = true) (h2 : dep pa (smS pa ge dp s n mk k).2 ge dp s n k = true) : smS pa ge dp s n mk (k + 1) = ((smS pa ge dp s n mk k).1 + 1, va_up (smS pa ge dp s n mk k).2 ((150 * s) + k) false) := by
  show smp pa ge dp s n k _ = _
  unfold smp
  rw [if_pos (by rw [h1, h2]; rfl)]
theorem smS_f {pa : Nat → Option Nat} {ge : Nat → Nat} {dp : Nat → Int32} {s n : Nat} {mk : Nat → Bool} {k : Nat} (h : ((smS pa ge dp s n mk k).2 ((150 * s) + k) && dep pa (smS pa ge dp s n mk k).2 ge dp s n k) = false) : smS pa ge dp s n mk (k + 1) = smS pa ge dp s n mk k := by
  show smp pa ge dp s n k _ = _
  unfold smp
  rw [if_neg (by rw [h]; decide)]
def cne (dc : Nat → Nat) (L : Nat → Bool) (b : Option Nat) (n d : Nat) (o : Option Nat) : Bool := (match o with
  | none => decide (b = none)
  | some r => decide (dc r = d) && L r) && decide (n < 150)
def bN (b : Bool) : Nat := if b = true then 1 else 0
/-- a line of ancestors, in the row of marks: f the first store, t the other -/
def lm (pa : Nat → Option Nat) (f t : Nat) : Nat → Option Nat → Nat → (Nat → Bool) → Nat × (Nat → Bool)
  | 0, _, c, x => (c, x)
  | _ + 1, none, c, x => (c, x)
  | g + 1, some j, c, x => lm pa f t g (pa j) (c + bN (x ((150 * f) + j) && !x ((150 * t) + j))) (va_up x ((150 * t) + j) ((x ((150 * f) + j) && !x ((150 * t) + j)) || x ((150 * t) + j)))
theorem lm_none (pa : Nat → Option Nat) (f t g c : Nat) (x : Nat → Bool) : lm pa f t g none c x = (c, x) := by cases g <;> rfl
def gtC (dc : Nat → Nat) (pa : Nat → Option Nat) (f t n d k : Nat) (x : Nat → Bool) : Bool := decide (dc k = d) && (lef pa x f n k && (!x ((150 * t) + k) && !any (hsP pa x t k) n))
def gtp (dc : Nat → Nat) (pa : Nat → Option Nat) (f t n d k : Nat) (x : Nat × (Nat → Bool)) : Nat × (Nat → Bool) := if gtC dc pa f t n d k x.2 = true then lm pa f t 150 (some k) x.1 x.2 else x
def gtS (dc : Nat → Nat) (pa : Nat → Option Nat) (f t n d : Nat) (mk : Nat → Bool) : Nat → Nat × (Nat → Bool)
  | 0 => (0, mk)
  | k + 1 => gtp dc pa f t n d k (gtS dc pa f t n d mk k)
theorem bN_le (b : Bool) : bN b ≤ 1 := by cases b <;> decide
theorem lm_le (pa : Nat → Option Nat) (f t : Nat) : ∀ (g : Nat) (o : Option Nat) (c : Nat) (x : Nat → Bool), (lm pa f t g o c x).1 ≤ c + g
  | 0, _, c, x => Nat.le_refl _
  | g + 1, none, c, x => by show c ≤ _; omega
  | g + 1, some j, c, x => by
    have h1 := lm_le pa f t g (pa j) (c + bN (x ((150 * f) + j) && !x ((150 * t) + j))) (va_up x ((150 * t) + j) ((x ((150 * f) + j) && !x ((150 * t) + j)) || x ((150 * t) + j)))
    have h2 := bN_le (x ((150 * f) + j) && !x ((150 * t) + j))
    show (lm pa f t g (pa j) _ _).1 ≤ _
    omega
theorem gtS_le (dc : Nat → Nat) (pa : Nat → Option Nat) (f t n d : Nat) (mk : Nat → Bool) : ∀ k, (gtS dc pa f t n d mk k).1 ≤ 150 * k
  | 0 => Nat.le_refl _
  | k + 1 => by
    have h1 := gtS_le dc pa f t n d mk k
    have h2 := lm_le pa f t 150 (some k) (gtS dc pa f t n d mk k).1 (gtS dc pa f t n d mk k).2
    show (gtp dc pa f t n d k _).1 ≤ _
    unfold gtp
    split <;> omega
def lkC (kp : Nat → Int32) (f t : Nat) : Int32 := if kp ((9 * t) + (3 * f) + t) ≤ kp ((9 * f) + (3 * f) + t) then kp ((9 * t) + (3 * f) + t) else kp ((9 * f) + (3 * f) + t)
section RWS3
variable {p : Program} {l : Launch} {e : Env} {R : Room} {s : State} {m : MethodId} {args : Array Value} {below : List Frame} {meth : Method} {c : Code} {H : Heap} {locs : List Loc} {cells slots : Nat} {Q : State → Prop}
variable {cc : ByteArray} {pc : Nat} {ls : Array Slot} {rest : List Value}
theorem r_icmp_leP (hexec : p.tables.exec = Jvm.exec) (hb : c.code = cc) {x : Option Nat} {y : Nat} (hx : ∀ j, x = some j → j < 2 ^ 31) (hy : y < 2 ^ 31) {off : Int} {tgt : Nat} (hdg : decode cc pc = .ok (.if_icmp .le off, 3)) (ht : (pc : Int) + off = (tgt : Int))
    (kt : (∀ j, x = some j → j ≤ y) → W p l e R s m args below meth c H locs cells slots Q (F0 m tgt ls rest)) (kf : ∀ j, x = some j → y < j → W p l e R s m args below meth c H locs cells slots Q (F0 m (pc + 3) ls rest)) : W p l e R s m args below meth c H locs cells slots Q (F0 m pc ls (.int (nI y) :: .int (eP x) :: rest)) := by
  cases x with
  | none =>
    refine lv_icmp_le hexec hb hdg ht (fun _ => kt (fun j h => by cases h)) (fun h => absurd ?_ h)
    have h1 : (0 : Int32) ≤ nI y := nI_pos' hy
    have h2 : (eP none).toInt = -1 := by decide
    have h3 : (nI y).toInt = (y : Int) := nI_toInt hy
    show (eP none) ≤ nI y
    rw [Int32.le_iff_toInt_le, h2, h3]
    omega
  | some j =>
    refine lv_icmp_le hexec hb hdg ht (fun h => kt (fun i hi => ?_)) (fun h => kf j rfl (Nat.lt_of_not_le (fun z => h ((nI_leI (hx j rfl) hy).mpr z))))
    cases hi
    exact (nI_leI (hx j rfl) hy).mp h
theorem r_icmp_nePN (hexec : p.tables.exec = Jvm.exec) (hb : c.code = cc) {x : Option Nat} {y : Nat} (hx : ∀ j, x = some j → j < 2 ^ 31) (hy : y < 2 ^ 31) {off : Int} {tgt : Nat} (hdg : decode cc pc = .ok (.if_icmp .ne off, 3)) (ht : (pc : Int) + off = (tgt : Int))
    (kt : ¬ x = some y → W p l e R s m args below meth c H locs cells slots Q (F0 m tgt ls rest)) (kf : x = some y → W p l e R s m args below meth c H locs cells slots Q (F0 m (pc + 3) ls rest)) : W p l e R s m args below meth c H locs cells slots Q (F0 m pc ls (.int (nI y) :: .int (eP x) :: rest)) := by
  have e0 : eP x = nI y ↔ x = some y := eP_inj (b := some y) hx (fun j h => by cases h; exact hy)
  exact lv_icmp_ne hexec hb hdg ht (fun h => kt (fun z => h (e0.mpr z))) (fun h => kf (e0.mp h))
end RWS3
theorem up_Tp {n : Nat} {pa : Nat → Option Nat} {o : Option Nat} (hTp : ∀ k j, k < n → pa k = some j → j < k) (ho : ∀ j, o = some j → j < n) : ∀ k j, k < n + 1 → va_up pa n o k = some j → j < k := by
  intro k j hk h
  by_cases e : k = n
  · subst e
    simp only [va_up, if_true] at h
    exact ho j h
  · simp only [va_up, if_neg e] at h
    exact hTp k j (by omega) h
theorem up_Tg {n x : Nat} {ge : Nat → Nat} (hTg : ∀ k, ge k ≤ 150) (hx : x ≤ 150) : ∀ k, va_up ge n x k ≤ 150 := by
  intro k
  by_cases e : k = n
  · simp only [va_up, if_pos e]; exact hx
  · simp only [va_up, if_neg e]; exact hTg k
theorem up_Td {n x : Nat} {dc : Nat → Nat} (hTd : ∀ k, dc k < 4) (hx : x < 4) : ∀ k, va_up dc n x k < 4 := by
  intro k
  by_cases e : k = n
  · simp only [va_up, if_pos e]; exact hx
  · simp only [va_up, if_neg e]; exact hTd k
def mrw (mk : Nat → Bool) (i k : Nat) : Bool := mk ((150 * i) + k)
def remM (mk : Nat → Bool) (i k : Nat) : Nat → Bool := fun q => mk q && !(decide (150 * i ≤ q) && decide (q < 150 * i + k))
theorem remM_0 (mk : Nat → Bool) (i : Nat) : mk = remM mk i 0 := by
  funext q
  have : (decide (150 * i ≤ q) && decide (q < 150 * i + 0)) = false := by
    by_cases h : 150 * i ≤ q
    · simp [h]
    · simp [h]
  simp only [remM, this, Bool.not_false, Bool.and_true]
theorem remM_k (mk : Nat → Bool) (i k : Nat) : remM mk i k ((150 * i) + k) = mrw mk i k := by simp [remM, mrw]
theorem remM_s (mk : Nat → Bool) (i k : Nat) : va_up (remM mk i k) ((150 * i) + k) false = remM mk i (k + 1) := by
  funext q
  by_cases e : q = 150 * i + k
  · subst e; simp [remM, va_up]
  · have e2 : (decide (150 * i ≤ q) && decide (q < 150 * i + (k + 1))) = (decide (150 * i ≤ q) && decide (q < 150 * i + k)) := by
      by_cases h1 : 150 * i ≤ q
      · by_cases h2 : q < 150 * i + k
        · simp [h1, h2]; omega
        · simp [h1, h2]; omega
      · simp [h1]
    simp only [va_up, if_neg e, remM, e2]
def clr (f : Nat → Int32) (a k : Nat) : Nat → Int32 := fun q => if a ≤ q ∧ q < a + k then nI 0 else f q
theorem clr_0 (f : Nat → Int32) (a : Nat) : f = clr f a 0 := by
  funext q
  have : ¬ (a ≤ q ∧ q < a + 0) := by omega
  simp only [clr, if_neg this]
theorem clr_s (f : Nat → Int32) (a k : Nat) : va_up (clr f a k) (a + k) (nI 0) = clr f a (k + 1) := by
  funext q
  by_cases e : q = a + k
  · have h : a ≤ q ∧ q < a + (k + 1) := by omega
    simp only [va_up, if_pos e, clr, if_pos h]
  · by_cases h : a ≤ q ∧ q < a + k
    · have h2 : a ≤ q ∧ q < a + (k + 1) := by omega
      simp only [va_up, if_neg e, clr, if_pos h, if_pos h2]
    · have h2 : ¬ (a ≤ q ∧ q < a + (k + 1)) := by omega
      simp only [va_up, if_neg e, clr, if_neg h, if_neg h2]
def tcr (tc : Nat → Int32) (i k : Nat) : Int32 := tc ((4 * i) + k)
end
section
/-! the reference's public methods: what they reckon -/
def shM (pa : Nat → Option Nat) (mk : Nat → Bool) (dc : Nat → Nat) (dl : Nat → Bool) (ge : Nat → Nat) (su va : Nat → Int32) (i n : Nat) : Nat → Int32 := shv dl va (fun d => bsS dc dl ge su (lef pa mk i n) d n)
def ctC (f : Nat → Int32) (lo hi : Int32) (k : Nat) : Bool := decide (f k ≠ -1) && (!decide (f k < lo) && !decide (hi < f k))
def plC (f : Nat → Int32) (x : Int32) (k : Nat) : Bool := decide (f k ≠ -1) && decide (nI (fct (bfC f (f k) k) 4) = x)
def anw (mk : Nat → Bool) (r : Nat) : Bool := mk r || (mk (150 + r) || mk (300 + r))
def woL (pa : Nat → Option Nat) (mk : Nat → Bool) (n k : Nat) : Bool := anw mk k && !(any (hsP pa mk 0 k) n || (any (hsP pa mk 1 k) n || any (hsP pa mk 2 k) n))
theorem prd_pos {x : Nat} (h : 0 < x) : eP (prd x) = nI (x - 1) := by
  cases x with
  | zero => omega
  | succ j => rfl
abbrev RS : Type := Nat × Int32 × (Nat → Bool) × (Nat → Int32) × (Nat → Int32)
def rpg (dc : Nat → Nat) (pa : Nat → Option Nat) (ge : Nat → Nat) (dp : Nat → Int32) (i j n d : Nat) (x : RS) : RS :=
  (x.1 + (gtS dc pa i j n d x.2.2.1 n).1, (if 0 < (gtS dc pa i j n d x.2.2.1 n).1 then va_up x.2.2.2.2 ((4 * j) + d) (x.2.2.2.1 j + nI 1) else x.2.2.2.2) ((4 * i) + d), if 0 < (gtS dc pa i j n d x.2.2.1 n).1 then (smS pa ge dp j n (gtS dc pa i j n d x.2.2.1 n).2 n).2 else (gtS dc pa i j n d x.2.2.1 n).2, if 0 < (gtS dc pa i j n d x.2.2.1 n).1 then va_up x.2.2.2.1 j (x.2.2.2.1 j + nI 1) else x.2.2.2.1, if 0 < (gtS dc pa i j n d x.2.2.1 n).1 then va_up x.2.2.2.2 ((4 * j) + d) (x.2.2.2.1 j + nI 1) else x.2.2.2.2)
def rpp (dc : Nat → Nat) (pa : Nat → Option Nat) (ge : Nat → Nat) (dp : Nat → Int32) (i j n : Nat) (x : RS) : RS := match nxS (tcr x.2.2.2.2 i) x.2.1 4 with
  | none => x
  | some d => rpg dc pa ge dp i j n d x
def rpS (dc : Nat → Nat) (pa : Nat → Option Nat) (ge : Nat → Nat) (dp : Nat → Int32) (i j n : Nat) (x : RS) : Nat → RS
  | 0 => x
  | k + 1 => rpp dc pa ge dp i j n (rpS dc pa ge dp i j n x k)
theorem rpp_n {dc : Nat → Nat} {pa : Nat → Option Nat} {ge : Nat → Nat} {dp : Nat → Int32} {i j n : Nat} {x : RS} (h : nxS (tcr x.2.2.2.2 i) x.2.1 4 = none) : rpp dc pa ge dp i j n x = x := by simp only [rpp, h]
theorem rpp_s {dc : Nat → Nat} {pa : Nat → Option Nat} {ge : Nat → Nat} {dp : Nat → Int32} {i j n d : Nat} {x : RS} (h : nxS (tcr x.2.2.2.2 i) x.2.1 4 = some d) : rpp dc pa ge dp i j n x = rpg dc pa ge dp i j n d x := by simp only [rpp, h]
theorem rpS_stop {dc : Nat → Nat} {pa : Nat → Option Nat} {ge : Nat → Nat} {dp : Nat → Int32} {i j n : Nat} {x : RS} {k : Nat} (h : nxS (tcr (rpS dc pa ge dp i j n x k).2.2.2.2 i) (rpS dc pa ge dp i j n x k).2.1 4 = none) : ∀ q, rpS dc pa ge dp i j n x k = rpS dc pa ge dp i j n x (k + q)
  | 0 => rfl
  | q + 1 => by
    have ih := rpS_stop h q
    show _ = rpp dc pa ge dp i j n (rpS dc pa ge dp i j n x (k + q))
    rw [← ih, rpp_n h]
theorem rpS_end {dc : Nat → Nat} {pa : Nat → Option Nat} {ge : Nat → Nat} {dp : Nat → Int32} {i j n : Nat} {x : RS} {k lim : Nat} (h : nxS (tcr (rpS dc pa ge dp i j n x k).2.2.2.2 i) (rpS dc pa ge dp i j n x k).2.1 4 = none) (hk : k ≤ lim) : rpS dc pa ge dp i j n x k = rpS dc pa ge dp i j n x lim := by
  have := rpS_stop h (lim - k)
  rwa [show k + (lim - k) = lim by omega] at this
theorem rpS_s {dc : Nat → Nat} {pa : Nat → Option Nat} {ge : Nat → Nat} {dp : Nat → Int32} {i j n : Nat} {x : RS} {k d : Nat} (h : nxS (tcr (rpS dc pa ge dp i j n x k).2.2.2.2 i) (rpS dc pa ge dp i j n x k).2.1 4 = some d) : rpS dc pa ge dp i j n x (k + 1) = rpg dc pa ge dp i j n d (rpS dc pa ge dp i j n x k) := rpp_s h
/-- the checkpoint at the end -/
def rpa (i : Nat) (x : RS) : Int32 := match nxS (tcr x.2.2.2.2 i) x.2.1 4 with
  | none => x.2.2.2.1 i
  | some _ => x.2.1
theorem ffd_b {P : Nat → Bool} {n j : Nat} (h : ffd P n = some j) (hn : n ≤ 1000) : j < 2 ^ 31 := by
  have : ∀ n j, ffd P n = some j → j < n := by
    intro n
    induction n with
    | zero => intro j h; cases h
    | succ n ih =>
      intro j h
      cases e : ffd P n with
      | some i =>
        simp [ffd, e] at h
        have := ih i e
        omega
      | none =>
        simp [ffd, e] at h
        omega
  have := this n j h
  omega
end
section
/-! what the class's own public methods reckon -/
def mnI (x y : Int32) : Int32 := if y < x then y else x
abbrev CS : Type := Nat × Int32 × Int32 × (Nat → Int32) × (Nat → Bool) × (Nat → Nat) × (Nat → Option Nat)
/-- a document's branches are received: x counts, reached, then the target's latest, changes, held, nearest leaves, winners -/
def csg (dc : Nat → Nat) (pa : Nat → Option Nat) (dl : Nat → Bool) (ge : Nat → Nat) (su : Nat → Int32) (n : Nat) (dp : Int32) (hd2 : Nat → Bool) (nl2 : Nat → Nat) (ch2 : Nat → Int32) (d : Nat) (x : CS) : CS :=
  (x.1 + (abS dc pa hd2 (ends hd2 nl2) x.2.2.2.2.2.1 d x.2.2.2.2.1 n).1, ch2 d,
    if 0 < (abS dc pa hd2 (ends hd2 nl2) x.2.2.2.2.2.1 d x.2.2.2.2.1 n).1 then x.2.2.1 + nI 1 else x.2.2.1,
    if 0 < (abS dc pa hd2 (ends hd2 nl2) x.2.2.2.2.2.1 d x.2.2.2.2.1 n).1 then va_up x.2.2.2.1 d (x.2.2.1 + nI 1) else x.2.2.2.1,
    if 0 < (abS dc pa hd2 (ends hd2 nl2) x.2.2.2.2.2.1 d x.2.2.2.2.1 n).1 then stm (abS dc pa hd2 (ends hd2 nl2) x.2.2.2.2.2.1 d x.2.2.2.2.1 n).2 (flS pa ge (abS dc pa hd2 (ends hd2 nl2) x.2.2.2.2.2.1 d x.2.2.2.2.1 n).2 n n) ge dp n else (abS dc pa hd2 (ends hd2 nl2) x.2.2.2.2.2.1 d x.2.2.2.2.1 n).2,
    if 0 < (abS dc pa hd2 (ends hd2 nl2) x.2.2.2.2.2.1 d x.2.2.2.2.1 n).1 then flS pa ge (abS dc pa hd2 (ends hd2 nl2) x.2.2.2.2.2.1 d x.2.2.2.2.1 n).2 n n else x.2.2.2.2.2.1,
    if 0 < (abS dc pa hd2 (ends hd2 nl2) x.2.2.2.2.2.1 d x.2.2.2.2.1 n).1 then fwS dc dl ge su (ends (abS dc pa hd2 (ends hd2 nl2) x.2.2.2.2.2.1 d x.2.2.2.2.1 n).2 (flS pa ge (abS dc pa hd2 (ends hd2 nl2) x.2.2.2.2.2.1 d x.2.2.2.2.1 n).2 n n)) n else x.2.2.2.2.2.2)
def csp (dc : Nat → Nat) (pa : Nat → Option Nat) (dl : Nat → Bool) (ge : Nat → Nat) (su : Nat → Int32) (n : Nat) (dp : Int32) (hd2 : Nat → Bool) (nl2 : Nat → Nat) (ch2 : Nat → Int32) (x : CS) : CS := match nxS ch2 x.2.1 4 with
  | none => x
  | some d => csg dc pa dl ge su n dp hd2 nl2 ch2 d x
def csS (dc : Nat → Nat) (pa : Nat → Option Nat) (dl : Nat → Bool) (ge : Nat → Nat) (su : Nat → Int32) (n : Nat) (dp : Int32) (hd2 : Nat → Bool) (nl2 : Nat → Nat) (ch2 : Nat → Int32) (x : CS) : Nat → CS
  | 0 => x
  | k + 1 => csp dc pa dl ge su n dp hd2 nl2 ch2 (csS dc pa dl ge su n dp hd2 nl2 ch2 x k)
section CSX
variable {dc : Nat → Nat} {pa : Nat → Option Nat} {dl : Nat → Bool} {ge : Nat → Nat} {su : Nat → Int32} {n : Nat} {dp : Int32} {hd2 : Nat → Bool} {nl2 : Nat → Nat} {ch2 : Nat → Int32}
theorem csp_n {x : CS} (h : nxS ch2 x.2.1 4 = none) : csp dc pa dl ge su n dp hd2 nl2 ch2 x = x := by simp only [csp, h]
theorem csp_s {x : CS} {d : Nat} (h : nxS ch2 x.2.1 4 = some d) : csp dc pa dl ge su n dp hd2 nl2 ch2 x = csg dc pa dl ge su n dp hd2 nl2 ch2 d x := by simp only [csp, h]
theorem csS_n {x : CS} {k : Nat} (h : nxS ch2 (csS dc pa dl ge su n dp hd2 nl2 ch2 x k).2.1 4 = none) : csS dc pa dl ge su n dp hd2 nl2 ch2 x (k + 1) = csS dc pa dl ge su n dp hd2 nl2 ch2 x k := csp_n h
theorem csS_s {x : CS} {k d : Nat} (h : nxS ch2 (csS dc pa dl ge su n dp hd2 nl2 ch2 x k).2.1 4 = some d) : csS dc pa dl ge su n dp hd2 nl2 ch2 x (k + 1) = csg dc pa dl ge su n dp hd2 nl2 ch2 d (csS dc pa dl ge su n dp hd2 nl2 ch2 x k) := csp_s h
theorem csg_nl {x : CS} {d : Nat} (hx : ∀ k, x.2.2.2.2.2.1 k ≤ 151) : ∀ k, (csg dc pa dl ge su n dp hd2 nl2 ch2 d x).2.2.2.2.2.1 k ≤ 151 := by
  intro k
  show (if _ then flS pa ge _ n n else x.2.2.2.2.2.1) k ≤ 151
  split
  · exact flS_le n k
  · exact hx k
theorem csS_nl {x : CS} (hx : ∀ k, x.2.2.2.2.2.1 k ≤ 151) : ∀ q k, (csS dc pa dl ge su n dp hd2 nl2 ch2 x q).2.2.2.2.2.1 k ≤ 151
  | 0, k => hx k
  | q + 1, k => by
    have ih := csS_nl hx q
    show (csp dc pa dl ge su n dp hd2 nl2 ch2 (csS dc pa dl ge su n dp hd2 nl2 ch2 x q)).2.2.2.2.2.1 k ≤ 151
    cases h : nxS ch2 (csS dc pa dl ge su n dp hd2 nl2 ch2 x q).2.1 4 with
    | none => rw [csp_n h]; exact ih k
    | some d => rw [csp_s h]; exact csg_nl ih k
theorem csg_ct {x : CS} {d b : Nat} (hx : x.1 ≤ b) : (csg dc pa dl ge su n dp hd2 nl2 ch2 d x).1 ≤ b + 150 * n := by
  show x.1 + (abS dc pa hd2 (ends hd2 nl2) x.2.2.2.2.2.1 d x.2.2.2.2.1 n).1 ≤ b + 150 * n
  have := abS_le dc pa hd2 (ends hd2 nl2) x.2.2.2.2.2.1 d x.2.2.2.2.1 n
  omega
theorem csS_ct {x : CS} (hx : x.1 = 0) : ∀ q, (csS dc pa dl ge su n dp hd2 nl2 ch2 x q).1 ≤ q * (150 * n)
  | 0 => by show x.1 ≤ _; omega
  | q + 1 => by
    have ih := csS_ct hx q
    show (csp dc pa dl ge su n dp hd2 nl2 ch2 (csS dc pa dl ge su n dp hd2 nl2 ch2 x q)).1 ≤ _
    have e : (q + 1) * (150 * n) = q * (150 * n) + 150 * n := Nat.succ_mul _ _
    cases h : nxS ch2 (csS dc pa dl ge su n dp hd2 nl2 ch2 x q).2.1 4 with
    | none => rw [csp_n h]; omega
    | some d => rw [csp_s h, e]; exact csg_ct ih
/-- the checkpoint at the end -/
def csa (ch2 : Nat → Int32) (lt2 : Int32) (x : CS) : Int32 := match nxS ch2 x.2.1 4 with
  | none => lt2
  | some _ => x.2.1
end CSX
end
section
/-! lines of ancestors, and the nearest leaves: what both sides reckon with -/
def TV (n : Nat) (dc : Nat → Nat) (pa : Nat → Option Nat) (ge : Nat → Nat) : Prop :=
  n ≤ 150 ∧ (∀ k, dc k < 4) ∧ (∀ k, ge k ≤ 150) ∧ (∀ k j, k < n → pa k = some j → j < k) ∧ (∀ k j, k < n → pa k = some j → dc k = dc j ∧ ge k = ge j + 1) ∧ (∀ k, k < n → ge k ≤ k + 1)
theorem wk_none (pa : Nat → Option Nat) (r : Nat) : ∀ f, wk pa r f none = none
  | 0 => rfl
  | _ + 1 => rfl
theorem wk_fuel {n : Nat} {pa : Nat → Option Nat} {r : Nat} (hTp : ∀ k j, k < n → pa k = some j → j < k) : ∀ (f g j : Nat), j < n → j < f → j < g → wk pa r f (some j) = wk pa r g (some j)
  | 0, _, _, _, h, _ => absurd h (Nat.not_lt_zero _)
  | _ + 1, 0, _, _, _, h => absurd h (Nat.not_lt_zero _)
  | f + 1, g + 1, j, hj, hf, hg => by
    show (if r < j then wk pa r f (pa j) else some j) = (if r < j then wk pa r g (pa j) else some j)
    cases hp : pa j with
    | none => rw [wk_none, wk_none]
    | some q =>
      have := hTp j q hj hp
      rw [wk_fuel hTp f g q (by omega) (by omega) (by omega)]
section ANC
variable {n : Nat} {pa : Nat → Option Nat}
theorem anc_lt {r k : Nat} (h : anc pa r k = true) : r < k := by
  rcases Nat.lt_or_ge r k with q | q
  · exact q
  · rw [anc_le q] at h; cases h
theorem anc_none {r k : Nat} (h : pa k = none) : anc pa r k = false := by
  rcases Nat.lt_or_ge r k with q | q
  · have e : wk pa r 150 (some k) = none := by
      show (if r < k then wk pa r 149 (pa k) else some k) = none
      rw [if_pos q, h, wk_none]
    simp [anc, e]
  · exact anc_le q
theorem anc_step (hn : n ≤ 150) (hTp : ∀ k j, k < n → pa k = some j → j < k) {r k p : Nat} (hk : k < n) (h : pa k = some p) : anc pa r k = (decide (p = r) || anc pa r p) := by
  have hp := hTp k p hk h
  rcases Nat.lt_or_ge r k with q | q
  · have e : wk pa r 150 (some k) = wk pa r 150 (some p) := by
      show (if r < k then wk pa r 149 (pa k) else some k) = _
      rw [if_pos q, h]
      exact wk_fuel hTp 149 150 p (by omega) (by omega) (by omega)
    by_cases e2 : p = r
    · subst e2
      have e3 : wk pa p 150 (some p) = some p := wk_stop (fun j hj => by cases hj; exact Nat.le_refl _) 150
      simp [anc, e, e3]
      omega
    · have e3 : k ≠ r := by omega
      simp [anc, e, e2, e3]
  · rw [anc_le q, anc_le (show p ≤ r by omega)]
    have : p ≠ r := by omega
    simp [this]
theorem anc_iff (hn : n ≤ 150) (hTp : ∀ k j, k < n → pa k = some j → j < k) {r k : Nat} (hk : k < n) : anc pa r k = true ↔ ∃ p, pa k = some p ∧ (p = r ∨ anc pa r p = true) := by
  cases h : pa k with
  | none => rw [anc_none h]; exact ⟨fun z => (by cases z), fun ⟨p, z, _⟩ => (by cases z)⟩
  | some p =>
    rw [anc_step hn hTp hk h, Bool.or_eq_true, decide_eq_true_eq]
    exact ⟨fun z => ⟨p, rfl, z⟩, fun ⟨q, z, y⟩ => by cases z; exact y⟩
theorem anc_trans (hn : n ≤ 150) (hTp : ∀ k j, k < n → pa k = some j → j < k) {r q : Nat} : ∀ (f k : Nat), k < f → k < n → anc pa r q = true → anc pa q k = true → anc pa r k = true
  | 0, _, h, _, _, _ => absurd h (Nat.not_lt_zero _)
  | f + 1, k, hf, hk, h1, h2 => by
    obtain ⟨p, hp, h3⟩ := (anc_iff hn hTp hk).mp h2
    have hpk := hTp k p hk hp
    refine (anc_iff hn hTp hk).mpr ⟨p, hp, Or.inr ?_⟩
    rcases h3 with h3 | h3
    · rw [h3]; exact h1
    · exact anc_trans hn hTp f p (by omega) (by omega) h1 h3
theorem anc_tr (hn : n ≤ 150) (hTp : ∀ k j, k < n → pa k = some j → j < k) {r q k : Nat} (hk : k < n) (h1 : anc pa r q = true) (h2 : anc pa q k = true) : anc pa r k = true := anc_trans hn hTp (k + 1) k (Nat.lt_succ_self _) hk h1 h2
theorem anc_pa (hn : n ≤ 150) (hTp : ∀ k j, k < n → pa k = some j → j < k) {r k : Nat} (hk : k < n) (h : pa k = some r) : anc pa r k = true := (anc_iff hn hTp hk).mpr ⟨r, h, Or.inl rfl⟩
/-- the child of r on the way to k -/
theorem anc_child (hn : n ≤ 150) (hTp : ∀ k j, k < n → pa k = some j → j < k) {r : Nat} : ∀ (f k : Nat), k < f → k < n → anc pa r k = true → ∃ c, c < n ∧ pa c = some r ∧ (c = k ∨ anc pa c k = true)
  | 0, _, h, _, _ => absurd h (Nat.not_lt_zero _)
  | f + 1, k, hf, hk, h => by
    obtain ⟨p, hp, h3⟩ := (anc_iff hn hTp hk).mp h
    have hpk := hTp k p hk hp
    rcases h3 with h3 | h3
    · subst h3
      exact ⟨k, hk, hp, Or.inl rfl⟩
    · obtain ⟨c, c1, c2, c3⟩ := anc_child hn hTp f p (by omega) (by omega) h3
      refine ⟨c, c1, c2, Or.inr ?_⟩
      rcases c3 with c3 | c3
      · subst c3; exact anc_pa hn hTp hk hp
      · exact (anc_iff hn hTp hk).mpr ⟨p, hp, Or.inr c3⟩
theorem anc_congr {pa2 : Nat → Option Nat} (hn : n ≤ 150) (hTp : ∀ k j, k < n → pa k = some j → j < k) (he : ∀ k, k < n → pa2 k = pa k) {r : Nat} : ∀ (f k : Nat), k < f → k < n → anc pa2 r k = anc pa r k
  | 0, _, h, _ => absurd h (Nat.not_lt_zero _)
  | f + 1, k, hf, hk => by
    have hTp2 : ∀ k j, k < n → pa2 k = some j → j < k := fun k j h1 h2 => hTp k j h1 (by rw [← he k h1]; exact h2)
    cases h : pa k with
    | none => rw [anc_none h, anc_none (by rw [he k hk]; exact h)]
    | some p =>
      have hpk := hTp k p hk h
      rw [anc_step hn hTp hk h, anc_step hn hTp2 hk (by rw [he k hk]; exact h), anc_congr hn hTp he f p (by omega) (by omega)]
end ANC
/-- what the nearest leaves tell, held by hd -/
def NL (n : Nat) (pa : Nat → Option Nat) (ge : Nat → Nat) (hd : Nat → Bool) (nl : Nat → Nat) : Prop :=
  (∀ r, nl r ≤ 151) ∧ (∀ r, nl r ≠ 151 ↔ ∃ k, k < n ∧ hd k = true ∧ anc pa r k = true) ∧ (∀ r k, k < n → ends hd nl k = true → anc pa r k = true → nl r ≤ ge k) ∧ (∀ r, nl r ≠ 151 → ∃ k, k < n ∧ ends hd nl k = true ∧ anc pa r k = true ∧ nl r = ge k)
theorem ends_iff {hd : Nat → Bool} {nl : Nat → Nat} {k : Nat} : ends hd nl k = true ↔ hd k = true ∧ nl k = 151 := by
  unfold ends hasD
  by_cases h : nl k = 151 <;> simp [h]
def nv (hd : Nat → Bool) (ge : Nat → Nat) (x : Nat → Nat) (k : Nat) : Nat := if ends hd x k = true then ge k else x k
theorem nv_congr {hd : Nat → Bool} {ge x y : Nat → Nat} {k : Nat} (h : x k = y k) : nv hd ge x k = nv hd ge y k := by
  have e : ends hd x k = ends hd y k := by unfold ends hasD; rw [h]
  unfold nv
  rw [e, h]
section FLS
variable {n : Nat} {pa : Nat → Option Nat} {ge : Nat → Nat} {hd : Nat → Bool}
theorem flS_fix (hTp : ∀ k j, k < n → pa k = some j → j < k) : ∀ c, c ≤ n → (∀ r k, n - c ≤ k → k < n → pa k = some r → flS pa ge hd n c r ≤ nv hd ge (flS pa ge hd n c) k) ∧ (∀ r, flS pa ge hd n c r = 151 ∨ ∃ k, n - c ≤ k ∧ k < n ∧ pa k = some r ∧ flS pa ge hd n c r = nv hd ge (flS pa ge hd n c) k)
  | 0, _ => ⟨fun r k h1 h2 _ => absurd h2 (by omega), fun r => Or.inl rfl⟩
  | c + 1, hc => by
    obtain ⟨g1, g2⟩ := flS_fix hTp c (by omega)
    generalize hx : flS pa ge hd n c = x at g1 g2
    have hk0 : n - (c + 1) < n := by omega
    have hs : ∀ k, n - c ≤ k ↔ n - (c + 1) < k := fun k => by omega
    cases hp : pa (n - (c + 1)) with
    | none =>
      have e : flS pa ge hd n (c + 1) = x := by
        show flp pa ge hd (n - (c + 1)) (flS pa ge hd n c) = x
        rw [flp_n hp, hx]
      rw [e]
      refine ⟨fun r k h1 h2 h3 => ?_, fun r => ?_⟩
      · rcases Nat.lt_or_ge (n - (c + 1)) k with q | q
        · exact g1 r k ((hs k).mpr q) h2 h3
        · rw [show k = n - (c + 1) by omega, hp] at h3; cases h3
      · rcases g2 r with h | ⟨k, h1, h2, h3, h4⟩
        · exact Or.inl h
        · exact Or.inr ⟨k, by omega, h2, h3, h4⟩
    | some j =>
      have hj := hTp _ _ hk0 hp
      obtain ⟨y, hy⟩ : ∃ y, y = min (x j) (nv hd ge x (n - (c + 1))) := ⟨_, rfl⟩
      have e : flS pa ge hd n (c + 1) = va_up x j y := by
        show flp pa ge hd (n - (c + 1)) (flS pa ge hd n c) = _
        rw [flp_s hp, hx, hy]
        rfl
      have ek : ∀ k, n - (c + 1) ≤ k → va_up x j y k = x k := fun k h => by
        have : k ≠ j := by omega
        simp only [va_up, if_neg this]
      have en : ∀ k, n - (c + 1) ≤ k → nv hd ge (va_up x j y) k = nv hd ge x k := fun k h => nv_congr (ek k h)
      have ej : va_up x j y j = y := by simp only [va_up, if_true]
      rw [e]
      refine ⟨fun r k h1 h2 h3 => ?_, fun r => ?_⟩
      · rw [en k h1]
        by_cases hr : r = j
        · subst hr
          rw [ej, hy]
          rcases Nat.lt_or_ge (n - (c + 1)) k with q | q
          · exact Nat.le_trans (Nat.min_le_left _ _) (g1 r k ((hs k).mpr q) h2 h3)
          · rw [show k = n - (c + 1) by omega]
            exact Nat.min_le_right _ _
        · have e3 : va_up x j y r = x r := by simp only [va_up, if_neg hr]
          rw [e3]
          rcases Nat.lt_or_ge (n - (c + 1)) k with q | q
          · exact g1 r k ((hs k).mpr q) h2 h3
          · rw [show k = n - (c + 1) by omega, hp] at h3
            cases h3
            exact absurd rfl hr
      · by_cases hr : r = j
        · subst hr
          rw [ej]
          rcases Nat.le_total (x r) (nv hd ge x (n - (c + 1))) with q | q
          · rw [Nat.min_eq_left q] at hy
            rcases g2 r with h | ⟨k, h1, h2, h3, h4⟩
            · exact Or.inl (hy.trans h)
            · exact Or.inr ⟨k, by omega, h2, h3, by rw [en k (by omega), hy]; exact h4⟩
          · rw [Nat.min_eq_right q] at hy
            exact Or.inr ⟨n - (c + 1), Nat.le_refl _, hk0, hp, by rw [en _ (Nat.le_refl _)]; exact hy⟩
        · have e3 : va_up x j y r = x r := by simp only [va_up, if_neg hr]
          rw [e3]
          rcases g2 r with h | ⟨k, h1, h2, h3, h4⟩
          · exact Or.inl h
          · exact Or.inr ⟨k, by omega, h2, h3, by rw [en k (by omega)]; exact h4⟩
theorem flS_NL (hn : n ≤ 150) (hTp : ∀ k j, k < n → pa k = some j → j < k) (hTg : ∀ k, ge k ≤ 150) : NL n pa ge hd (flS pa ge hd n n) := by
  obtain ⟨g1, g2⟩ := flS_fix (ge := ge) (hd := hd) hTp n (Nat.le_refl _)
  generalize hx : flS pa ge hd n n = x at g1 g2
  have hc : ∀ (f r : Nat), n - r < f → x r ≠ 151 → ∃ k, k < n ∧ ends hd x k = true ∧ anc pa r k = true ∧ x r = ge k := by
    intro f
    induction f with
    | zero => intro r h; exact absurd h (Nat.not_lt_zero _)
    | succ f ih =>
      intro r hf hr
      rcases g2 r with h | ⟨k, -, h2, h3, h4⟩
      · exact absurd h hr
      · have hrk := hTp k r h2 h3
        by_cases he : ends hd x k = true
        · exact ⟨k, h2, he, anc_pa hn hTp h2 h3, by rw [h4]; unfold nv; rw [if_pos he]⟩
        · have h5 : x r = x k := by rw [h4]; unfold nv; rw [if_neg he]
          obtain ⟨q, q1, q2, q3, q4⟩ := ih k (by omega) (by rw [← h5]; exact hr)
          exact ⟨q, q1, q2, anc_tr hn hTp q1 (anc_pa hn hTp h2 h3) q3, by rw [h5]; exact q4⟩
  have hb : ∀ (f r k : Nat), k - r < f → k < n → ends hd x k = true → anc pa r k = true → x r ≤ ge k := by
    intro f
    induction f with
    | zero => intro r k h; exact absurd h (Nat.not_lt_zero _)
    | succ f ih =>
      intro r k hf hk he ha
      obtain ⟨c, c1, c2, c3⟩ := anc_child hn hTp (k + 1) k (Nat.lt_succ_self _) hk ha
      have h1 := g1 r c (by omega) c1 c2
      have hrc := hTp c r c1 c2
      rcases c3 with c3 | c3
      · subst c3
        unfold nv at h1
        rw [if_pos he] at h1
        exact h1
      · have hck := anc_lt c3
        have h2 := ih c k (by omega) hk he c3
        have h3 : x c ≠ 151 := by have := hTg k; omega
        have h4 : ¬ ends hd x c = true := fun z => h3 (ends_iff.mp z).2
        unfold nv at h1
        rw [if_neg h4] at h1
        omega
  have hle : ∀ r, x r ≤ 151 := fun r => by rw [← hx]; exact flS_le n r
  refine ⟨hle, fun r => ⟨fun h => ?_, fun ⟨k, h1, h2, h3⟩ => ?_⟩, fun r k h1 h2 h3 => hb (k - r + 1) r k (Nat.lt_succ_self _) h1 h2 h3, fun r h => hc (n - r + 1) r (Nat.lt_succ_self _) h⟩
  · obtain ⟨k, h1, h2, h3, -⟩ := hc (n - r + 1) r (Nat.lt_succ_self _) h
    exact ⟨k, h1, (ends_iff.mp h2).1, h3⟩
  · by_cases hk : x k = 151
    · have := hb (k - r + 1) r k (Nat.lt_succ_self _) h1 (ends_iff.mpr ⟨h2, hk⟩) h3
      have := hTg k
      omega
    · obtain ⟨q, q1, q2, q3, -⟩ := hc (n - k + 1) k (Nat.lt_succ_self _) hk
      have := hb (q - r + 1) r q (Nat.lt_succ_self _) q1 q2 (anc_tr hn hTp q1 h3 q3)
      have := hTg q
      omega
end FLS
end
section
/-! a store's validity; it stays under growth of the tree, the search for leaves and winners, stemming -/
theorem any_congr {P Q : Nat → Bool} : ∀ {n : Nat}, (∀ k, k < n → P k = Q k) → any P n = any Q n
  | 0, _ => rfl
  | n + 1, h => by
    show (any P n || P n) = (any Q n || Q n)
    rw [any_congr (fun k hk => h k (Nat.lt_succ_of_lt hk)), h n (Nat.lt_succ_self n)]
theorem fct_congr {P Q : Nat → Bool} : ∀ {n : Nat}, (∀ k, k < n → P k = Q k) → fct P n = fct Q n
  | 0, _ => rfl
  | n + 1, h => by
    show fct P n + _ = fct Q n + _
    rw [fct_congr (fun k hk => h k (Nat.lt_succ_of_lt hk)), h n (Nat.lt_succ_self n)]
theorem ffd_congr {P Q : Nat → Bool} : ∀ {n : Nat}, (∀ k, k < n → P k = Q k) → ffd P n = ffd Q n
  | 0, _ => rfl
  | n + 1, h => by
    have ih := ffd_congr (n := n) (fun k hk => h k (Nat.lt_succ_of_lt hk))
    simp only [ffd, ih, h n (Nat.lt_succ_self n)]
theorem ffd_lt {P : Nat → Bool} : ∀ {n j : Nat}, ffd P n = some j → j < n ∧ P j = true
  | 0, _, h => by cases h
  | n + 1, j, h => by
    cases e : ffd P n with
    | some i =>
      simp [ffd, e] at h
      subst h
      have := ffd_lt e
      exact ⟨by omega, this.2⟩
    | none =>
      simp [ffd, e] at h
      obtain ⟨h1, h2⟩ := h
      subst h2
      exact ⟨by omega, h1⟩
theorem ffd_none {P : Nat → Bool} : ∀ {n : Nat}, ffd P n = none → ∀ k, k < n → P k = false
  | 0, _, k, hk => absurd hk (Nat.not_lt_zero k)
  | n + 1, h, k, hk => by
    cases e : ffd P n with
    | some i => simp [ffd, e] at h
    | none =>
      simp [ffd, e] at h
      rcases Nat.lt_or_ge k n with q | q
      · exact ffd_none e k q
      · rw [show k = n by omega]; exact h
section BST
variable {n : Nat} {dc dc2 : Nat → Nat} {dl dl2 : Nat → Bool} {ge ge2 : Nat → Nat} {su su2 : Nat → Int32} {L L2 : Nat → Bool}
theorem bsS_congr (h : ∀ k, k < n → dc2 k = dc k ∧ dl2 k = dl k ∧ ge2 k = ge k ∧ su2 k = su k ∧ L2 k = L k) (d : Nat) : ∀ c, c ≤ n → bsS dc2 dl2 ge2 su2 L2 d c = bsS dc dl ge su L d c
  | 0, _ => rfl
  | c + 1, hc => by
    have ih := bsS_congr h d c (by omega)
    obtain ⟨h1, h2, h3, h4, h5⟩ := h c (by omega)
    show bsp dc2 dl2 ge2 su2 L2 d c (bsS dc2 dl2 ge2 su2 L2 d c) = bsp dc dl ge su L d c (bsS dc dl ge su L d c)
    rw [ih]
    cases hb : bsS dc dl ge su L d c with
    | none => unfold bsp; rw [h1, h5]
    | some b =>
      have hbc := bsS_lt dc dl ge su L d c b hb
      obtain ⟨g1, g2, g3, g4, g5⟩ := h b (by omega)
      have eb : btr dl2 ge2 su2 c b = btr dl ge su c b := by unfold btr; rw [h2, h3, h4, g2, g3, g4]
      unfold bsp
      rw [h1, h5]
      simp only [eb]
theorem bsS_no {d : Nat} (h : L n = false) : bsS dc dl ge su L d (n + 1) = bsS dc dl ge su L d n := by
  show bsp dc dl ge su L d n (bsS dc dl ge su L d n) = _
  simp [bsp, h]
/-- a best one is a leaf of the document; where there is none there is no leaf -/
theorem bsS_some {d : Nat} : ∀ {c j : Nat}, bsS dc dl ge su L d c = some j → j < c ∧ dc j = d ∧ L j = true
  | 0, j, h => by cases h
  | c + 1, j, h => by
    have h : bsp dc dl ge su L d c (bsS dc dl ge su L d c) = some j := h
    rcases bsp_x dc dl ge su L d c (bsS dc dl ge su L d c) with e | e
    · rw [e] at h
      obtain ⟨h1, h2, h3⟩ := bsS_some h
      exact ⟨by omega, h2, h3⟩
    · by_cases hc : (decide (dc c = d) && L c) = true
      · rw [e] at h
        cases h
        simp only [Bool.and_eq_true, decide_eq_true_eq] at hc
        exact ⟨Nat.lt_succ_self _, hc.1, hc.2⟩
      · have e2 : bsp dc dl ge su L d c (bsS dc dl ge su L d c) = bsS dc dl ge su L d c := by simp only [bsp, if_neg hc]
        rw [e2] at h
        obtain ⟨h1, h2, h3⟩ := bsS_some h
        exact ⟨by omega, h2, h3⟩
theorem bsS_none {d : Nat} : ∀ {c : Nat}, bsS dc dl ge su L d c = none → ∀ k, k < c → dc k = d → L k = false
  | 0, _, k, hk, _ => absurd hk (Nat.not_lt_zero k)
  | c + 1, h, k, hk, hd => by
    have h : bsp dc dl ge su L d c (bsS dc dl ge su L d c) = none := h
    have e : bsS dc dl ge su L d c = none := by
      cases hb : bsS dc dl ge su L d c with
      | none => rfl
      | some b =>
        exfalso
        rw [hb] at h
        simp only [bsp] at h
        split at h
        · split at h <;> cases h
        · cases h
    rcases Nat.lt_or_ge k c with q | q
    · exact bsS_none e k q hd
    · have hkc : k = c := by omega
      subst hkc
      rw [e] at h
      simp only [bsp] at h
      split at h
      · cases h
      · rename_i h2
        simp only [Bool.and_eq_true, decide_eq_true_eq, hd, true_and] at h2
        exact Bool.eq_false_iff.mpr h2
theorem fwS_bsS : ∀ c d, fwS dc dl ge su L c d = bsS dc dl ge su L d c
  | 0, d => rfl
  | c + 1, d => by
    have ih := fwS_bsS c
    show fwp dc dl ge su L c (fwS dc dl ge su L c) d = bsp dc dl ge su L d c (bsS dc dl ge su L d c)
    by_cases hL : L c = true
    · by_cases hd : dc c = d
      · subst hd
        rw [← ih (dc c)]
        cases hx : fwS dc dl ge su L c (dc c) with
        | none => simp [fwp, bsp, hL, hx, va_up]
        | some b =>
          by_cases hb : btr dl ge su c b = true
          · simp [fwp, bsp, hL, hx, va_up, hb]
          · simp [fwp, bsp, hL, hx, va_up, hb]
      · have hd2 : ¬ d = dc c := fun z => hd z.symm
        rw [← ih d]
        cases hx : fwS dc dl ge su L c (dc c) with
        | none => simp [fwp, bsp, hL, hx, va_up, hd, hd2]
        | some b =>
          by_cases hb : btr dl ge su c b = true
          · simp [fwp, bsp, hL, hx, va_up, hb, hd, hd2]
          · simp [fwp, bsp, hL, hx, va_up, hb, hd, hd2]
    · rw [← ih d]
      simp [fwp, bsp, hL]
end BST
def SV (n : Nat) (dc : Nat → Nat) (pa : Nat → Option Nat) (dl : Nat → Bool) (ge : Nat → Nat) (su : Nat → Int32) (hd : Nat → Bool) (nl : Nat → Nat) (wi : Nat → Option Nat) : Prop :=
  (∀ k, hd k = true → k < n) ∧ NL n pa ge hd nl ∧ ∀ d, wi d = bsS dc dl ge su (ends hd nl) d n
section SVS
variable {n : Nat} {dc : Nat → Nat} {pa : Nat → Option Nat} {dl : Nat → Bool} {ge : Nat → Nat} {su : Nat → Int32} {hd : Nat → Bool} {nl : Nat → Nat} {wi : Nat → Option Nat}
theorem TV_grow {d : Nat} {o : Option Nat} (h : TV n dc pa ge) (hn : n < 150) (hd4 : d < 4) (ho : ∀ j, o = some j → j < n ∧ dc j = d) : TV (n + 1) (va_up dc n d) (va_up pa n o) (va_up ge n (mkg ge o)) ∧ mkg ge o ≤ 150 := by
  obtain ⟨h1, h2, h3, h4, h5, h6⟩ := h
  have hg : mkg ge o ≤ n + 1 := by
    cases o with
    | none => show 1 ≤ n + 1; omega
    | some j => have := h6 j (ho j rfl).1; have := (ho j rfl).1; show ge j + 1 ≤ n + 1; omega
  have hs : ∀ k, k < n → ¬ k = n := fun k h => by omega
  refine ⟨⟨by omega, up_Td h2 hd4, up_Tg h3 (by omega), up_Tp h4 (fun j hj => (ho j hj).1), fun k j hk hp => ?_, fun k hk => ?_⟩, by omega⟩
  · by_cases e : k = n
    · subst e
      simp only [va_up, if_true] at hp ⊢
      obtain ⟨o1, o2⟩ := ho j hp
      rw [if_neg (hs j o1), if_neg (hs j o1), hp]
      exact ⟨o2.symm, rfl⟩
    · simp only [va_up, if_neg e] at hp ⊢
      have hk2 : k < n := by omega
      have := h4 k j hk2 hp
      rw [if_neg (hs j (by omega)), if_neg (hs j (by omega))]
      exact h5 k j hk2 hp
  · by_cases e : k = n
    · subst e; simp only [va_up, if_true]; exact hg
    · simp only [va_up, if_neg e]; exact h6 k (by omega)
theorem anc_grow {r k : Nat} {o : Option Nat} (h : TV n dc pa ge) (hk : k < n) : anc (va_up pa n o) r k = anc pa r k :=
  anc_congr h.1 h.2.2.2.1 (fun q hq => by have : ¬ q = n := by omega
                                          simp only [va_up, if_neg this]) (k + 1) k (Nat.lt_succ_self _) hk
theorem SV_grow {d g : Nat} {o : Option Nat} {b : Bool} {y : Int32} (h : TV n dc pa ge) (hs : SV n dc pa dl ge su hd nl wi) : SV (n + 1) (va_up dc n d) (va_up pa n o) (va_up dl n b) (va_up ge n g) (va_up su n y) hd nl wi := by
  obtain ⟨s1, ⟨a0, a1, a2, a3⟩, s3⟩ := hs
  have hne : ∀ k, k < n → ¬ k = n := fun k h => by omega
  have hke : ∀ k, ends hd nl k = true → k < n := fun k hk => s1 k (ends_iff.mp hk).1
  refine ⟨fun k hk => by have := s1 k hk; omega, ⟨a0, fun r => ?_, fun r k h1 h2 h3 => ?_, fun r hr => ?_⟩, fun d9 => ?_⟩
  · rw [a1 r]
    refine ⟨fun ⟨k, k1, k2, k3⟩ => ⟨k, by omega, k2, by rw [anc_grow h k1]; exact k3⟩, fun ⟨k, k1, k2, k3⟩ => ⟨k, s1 k k2, k2, by rw [← anc_grow (o := o) h (s1 k k2)]; exact k3⟩⟩
  · have hk := hke k h2
    simp only [va_up, if_neg (hne k hk)]
    exact a2 r k hk h2 (by rw [← anc_grow (o := o) h hk]; exact h3)
  · obtain ⟨k, k1, k2, k3, k4⟩ := a3 r hr
    refine ⟨k, by omega, k2, by rw [anc_grow h k1]; exact k3, ?_⟩
    simp only [va_up, if_neg (hne k k1)]
    exact k4
  · have e : ends hd nl n = false := by
      cases e : ends hd nl n with
      | false => rfl
      | true => exact absurd (hke n e) (Nat.lt_irrefl _)
    rw [s3 d9, bsS_no e]
    exact (bsS_congr (fun k hk => ⟨if_neg (hne k hk), if_neg (hne k hk), if_neg (hne k hk), if_neg (hne k hk), rfl⟩) d9 n (Nat.le_refl _)).symm
theorem SV_survey (h : TV n dc pa ge) (h1 : ∀ k, hd k = true → k < n) : SV n dc pa dl ge su hd (flS pa ge hd n n) (fwS dc dl ge su (ends hd (flS pa ge hd n n)) n) :=
  ⟨h1, flS_NL h.1 h.2.2.2.1 h.2.2.1, fun d => fwS_bsS n d⟩
theorem stm_le {dp : Int32} {c k : Nat} (h : stm hd nl ge dp c k = true) : hd k = true := by
  simp only [stm, Bool.and_eq_true] at h
  exact h.1
theorem stm_ends (dp : Int32) (c : Nat) : ends (stm hd nl ge dp c) nl = ends hd nl := by
  funext k
  by_cases h : nl k = 151
  · have e1 : hasD nl k = false := by simp [hasD, h]
    simp [ends, stm, stC, e1]
  · have e1 : hasD nl k = true := by simp [hasD, h]
    simp [ends, e1]
theorem NL_stem {dp : Int32} {c : Nat} (h : NL n pa ge hd nl) : NL n pa ge (stm hd nl ge dp c) nl := by
  obtain ⟨a0, a1, a2, a3⟩ := h
  have e := stm_ends (hd := hd) (nl := nl) (ge := ge) dp c
  refine ⟨a0, fun r => ⟨fun hr => ?_, fun ⟨k, k1, k2, k3⟩ => (a1 r).mpr ⟨k, k1, stm_le k2, k3⟩⟩, fun r k h1 h2 h3 => a2 r k h1 (by rw [← e]; exact h2) h3, fun r hr => ?_⟩
  · obtain ⟨k, k1, k2, k3, -⟩ := a3 r hr
    rw [← e] at k2
    exact ⟨k, k1, (ends_iff.mp k2).1, k3⟩
  · obtain ⟨k, k1, k2, k3, k4⟩ := a3 r hr
    exact ⟨k, k1, by rw [e]; exact k2, k3, k4⟩
theorem SV_stem {dp : Int32} {c : Nat} (h : SV n dc pa dl ge su hd nl wi) : SV n dc pa dl ge su (stm hd nl ge dp c) nl wi :=
  ⟨fun k hk => h.1 k (stm_le hk), NL_stem h.2.1, fun d => by rw [stm_ends]; exact h.2.2 d⟩
end SVS
/-- the marks of store i are what it holds -/
def RW (mk : Nat → Bool) (i : Nat) (hd : Nat → Bool) : Prop := ∀ k, k < 150 → mk ((150 * i) + k) = hd k
section STM
variable {n i : Nat} {dc : Nat → Nat} {pa : Nat → Option Nat} {ge : Nat → Nat} {hd : Nat → Bool} {nl : Nat → Nat} {mk : Nat → Bool} {dp : Nat → Int32}
theorem any_hs (hn : n ≤ 150) (h : NL n pa ge hd nl) (hr : RW mk i hd) (r : Nat) : any (hsP pa mk i r) n = hasD nl r := by
  have e : any (hsP pa mk i r) n = true ↔ hasD nl r = true := by
    rw [any_iff]
    unfold hasD hsP
    rw [decide_eq_true_eq, h.2.1 r]
    refine ⟨fun ⟨k, h1, h2⟩ => ?_, fun ⟨k, h1, h2, h3⟩ => ⟨k, h1, by rw [hr k (by omega), h2, h3]; rfl⟩⟩
    rw [hr k (by omega), Bool.and_eq_true] at h2
    exact ⟨k, h1, h2.1, h2.2⟩
  cases h1 : any (hsP pa mk i r) n <;> cases h2 : hasD nl r <;> simp_all
theorem lef_ends (hn : n ≤ 150) (h : NL n pa ge hd nl) (hr : RW mk i hd) {k : Nat} (hk : k < 150) : lef pa mk i n k = ends hd nl k := by
  unfold lef ends
  rw [any_hs hn h hr, hr k hk]
theorem dep_eq (hT : TV n dc pa ge) (h : NL n pa ge hd nl) (hr : RW mk i hd) {e r : Nat} (he : dp i = nI e) (he2 : e ≤ 20) (hrn : r < n) : dep pa mk ge dp i n r = (hasD nl r && !decide (nI (nl r) - nI (ge r) < nI e)) := by
  have hn := hT.1
  have hg := hT.2.2.1
  have hnl := h.1 r
  have hQ : any (dpQ pa mk i n r) n = hasD nl r := by
    have e1 : any (dpQ pa mk i n r) n = true ↔ hasD nl r = true := by
      rw [any_iff]
      unfold hasD dpQ
      rw [decide_eq_true_eq]
      refine ⟨fun ⟨k, h1, h2⟩ => ?_, fun z => ?_⟩
      · rw [lef_ends hn h hr (by omega), Bool.and_eq_true] at h2
        exact (h.2.1 r).mpr ⟨k, h1, (ends_iff.mp h2.2).1, h2.1⟩
      · obtain ⟨k, k1, k2, k3, -⟩ := h.2.2.2 r z
        exact ⟨k, k1, by rw [lef_ends hn h hr (by omega), k2, k3]; rfl⟩
    cases h1 : any (dpQ pa mk i n r) n <;> cases h2 : hasD nl r <;> simp_all
  unfold dep
  rw [hQ]
  cases hz : hasD nl r with
  | false => rfl
  | true =>
    have hz2 : nl r ≠ 151 := by simpa [hasD] using hz
    obtain ⟨k, k1, k2, k3, k4⟩ := h.2.2.2 r hz2
    have hdif : (nI (nl r) - nI (ge r)).toInt = ((nl r : Nat) : Int) - (ge r : Nat) := pk_sub_toInt (by omega) (by have := hg r; omega)
    have hei : (nI e).toInt = (e : Int) := nI_toInt (by omega)
    have key : any (dpR pa mk ge dp i n r) n = true ↔ nI (nl r) - nI (ge r) < nI e := by
      rw [any_iff, Int32.lt_iff_toInt_lt, hdif, hei]
      refine ⟨fun ⟨q, q1, q2⟩ => ?_, fun z => ⟨k, k1, ?_⟩⟩
      · unfold dpR dpQ at q2
        rw [lef_ends hn h hr (by omega)] at q2
        simp only [Bool.and_eq_true, Bool.not_eq_true', decide_eq_false_iff_not] at q2
        obtain ⟨⟨q3, q4⟩, q5⟩ := q2
        have := h.2.2.1 r q q1 q4 q3
        rw [he, nI_add, nI_leI (by have := hg r; omega) (by have := hg q; omega)] at q5
        omega
      · unfold dpR dpQ
        rw [lef_ends hn h hr (by omega), k2, k3, he, nI_add]
        have : ¬ nI (ge r + e) ≤ nI (ge k) := by
          rw [nI_leI (by have := hg r; omega) (by have := hg k; omega)]
          omega
        simp [this]
    by_cases hx : nI (nl r) - nI (ge r) < nI e
    · rw [key.mpr hx]; simp [hx]
    · have : any (dpR pa mk ge dp i n r) n = false := by
        cases hy : any (dpR pa mk ge dp i n r) n with
        | false => rfl
        | true => exact absurd (key.mp hy) hx
      rw [this]; simp [hx]
theorem smS_stm (hT : TV n dc pa ge) (h : NL n pa ge hd nl) (hr : RW mk i hd) {e : Nat} (he : dp i = nI e) (he2 : e ≤ 20) : ∀ c, c ≤ n →
    (smS pa ge dp i n mk c).1 = fct (stC hd nl ge (nI e)) c ∧ RW (smS pa ge dp i n mk c).2 i (stm hd nl ge (nI e) c) ∧ ∀ q, ¬ (150 * i ≤ q ∧ q < 150 * i + 150) → (smS pa ge dp i n mk c).2 q = mk q
  | 0, _ => ⟨rfl, by rw [← stm_0]; exact hr, fun q _ => rfl⟩
  | c + 1, hc => by
    obtain ⟨h1, h2, h3⟩ := smS_stm hT h hr he he2 c (by omega)
    have hn := hT.1
    have hcc : (smS pa ge dp i n mk c).2 ((150 * i) + c) = hd c := by rw [h2 c (by omega), stm_k]
    have hdp := dep_eq (mk := (smS pa ge dp i n mk c).2) hT (NL_stem (dp := nI e) (c := c) h) h2 he he2 (show c < n by omega)
    have hq : stC hd nl ge (nI e) c = ((smS pa ge dp i n mk c).2 ((150 * i) + c) && dep pa (smS pa ge dp i n mk c).2 ge dp i n c) := by
      rw [hcc, hdp]; rfl
    cases hz : stC hd nl ge (nI e) c with
    | false =>
      rw [hz] at hq
      rw [smS_f hq.symm, ← stm_f hz, fct_f hz]
      exact ⟨h1, h2, h3⟩
    | true =>
      rw [hz] at hq
      have hq2 := hq.symm
      rw [Bool.and_eq_true] at hq2
      rw [smS_t hq2.1 hq2.2, ← stm_t hz, fct_t hz]
      refine ⟨by show _ + 1 = _; rw [h1], fun k hk => ?_, fun q hq9 => ?_⟩
      · show va_up _ _ _ _ = va_up _ _ _ _
        by_cases hkc : k = c
        · subst hkc; simp [va_up]
        · have : ¬ (150 * i) + k = (150 * i) + c := by omega
          simp only [va_up, if_neg this, if_neg hkc]
          exact h2 k hk
      · show va_up _ _ _ _ = _
        have : ¬ q = (150 * i) + c := by omega
        simp only [va_up, if_neg this]
        exact h3 q hq9
end STM
end
section
/-! branches that another store holds are received -/
theorem ln_shift (pa : Nat → Option Nat) (oh : Nat → Bool) : ∀ (f : Nat) (o : Option Nat) (c : Nat) (x : Nat → Bool), ln pa oh f o c x = (c + (ln pa oh f o 0 x).1, (ln pa oh f o 0 x).2)
  | 0, _, c, x => rfl
  | f + 1, none, c, x => rfl
  | f + 1, some j, c, x => by
    by_cases h : (oh j && !x j) = true
    · have e : ∀ c, ln pa oh (f + 1) (some j) c x = ln pa oh f (pa j) (c + 1) (va_up x j true) := fun c => if_pos h
      rw [e c, e 0, ln_shift pa oh f (pa j) (c + 1), ln_shift pa oh f (pa j) (0 + 1)]
      simp only [Prod.mk.injEq, and_true]
      omega
    · have e : ∀ c, ln pa oh (f + 1) (some j) c x = ln pa oh f (pa j) c x := fun c => if_neg h
      rw [e c, e 0]
      exact ln_shift pa oh f (pa j) c x
theorem ln_in (pa : Nat → Option Nat) (oh : Nat → Bool) : ∀ (f : Nat) (o : Option Nat) (c : Nat) (x : Nat → Bool), (∀ k, (ln pa oh f o c x).2 k = true → x k = true ∨ oh k = true) ∧ (∀ k, x k = true → (ln pa oh f o c x).2 k = true) ∧ c ≤ (ln pa oh f o c x).1 ∧ ((ln pa oh f o c x).1 = c → (ln pa oh f o c x).2 = x)
  | 0, _, c, x => ⟨fun k h => Or.inl h, fun k h => h, Nat.le_refl _, fun _ => rfl⟩
  | f + 1, none, c, x => ⟨fun k h => Or.inl h, fun k h => h, Nat.le_refl _, fun _ => rfl⟩
  | f + 1, some j, c, x => by
    by_cases h : (oh j && !x j) = true
    · have e : ln pa oh (f + 1) (some j) c x = ln pa oh f (pa j) (c + 1) (va_up x j true) := if_pos h
      obtain ⟨h1, h2, h3, h4⟩ := ln_in pa oh f (pa j) (c + 1) (va_up x j true)
      rw [e]
      refine ⟨fun k hk => ?_, fun k hk => h2 k ?_, by omega, fun hc => by omega⟩
      · rcases h1 k hk with q | q
        · by_cases hkj : k = j
          · subst hkj
            rw [Bool.and_eq_true] at h
            exact Or.inr h.1
          · simp only [va_up, if_neg hkj] at q
            exact Or.inl q
        · exact Or.inr q
      · by_cases hkj : k = j
        · simp only [va_up, if_pos hkj]
        · simp only [va_up, if_neg hkj]; exact hk
    · have e : ln pa oh (f + 1) (some j) c x = ln pa oh f (pa j) c x := if_neg h
      rw [e]
      exact ln_in pa oh f (pa j) c x
section GET
variable {n i j d : Nat} {dc : Nat → Nat} {pa : Nat → Option Nat} {dl : Nat → Bool} {ge : Nat → Nat} {su : Nat → Int32} {hd hd2 : Nat → Bool} {nl nl2 : Nat → Nat} {mk : Nat → Bool} {dp : Nat → Int32} {wi : Nat → Option Nat}
theorem RW_other {X Y : Nat → Bool} (hij : i ≠ j) (h : ∀ q, ¬ (150 * j ≤ q ∧ q < 150 * j + 150) → Y q = X q) (hr : RW X i hd2) : RW Y i hd2 := fun k hk => by
  rw [h _ (by omega)]
  exact hr k hk
theorem lm_ln (hn : n ≤ 150) (hTp : ∀ k j, k < n → pa k = some j → j < k) (hij : i ≠ j) : ∀ (f : Nat) (o : Option Nat) (c : Nat) (X x : Nat → Bool), (∀ k, o = some k → k < n) → RW X i hd2 → RW X j x →
    (lm pa i j f o c X).1 = (ln pa hd2 f o c x).1 ∧ RW (lm pa i j f o c X).2 j (ln pa hd2 f o c x).2 ∧ ∀ q, ¬ (150 * j ≤ q ∧ q < 150 * j + 150) → (lm pa i j f o c X).2 q = X q
  | 0, _, c, X, x, _, _, h2 => ⟨rfl, h2, fun _ _ => rfl⟩
  | f + 1, none, c, X, x, _, _, h2 => ⟨rfl, h2, fun _ _ => rfl⟩
  | f + 1, some k, c, X, x, ho, h1, h2 => by
    have hk := ho k rfl
    have ho2 : ∀ q, pa k = some q → q < n := fun q hq => by have := hTp k q hk hq; omega
    have e1 : X ((150 * i) + k) = hd2 k := h1 k (by omega)
    have e2 : X ((150 * j) + k) = x k := h2 k (by omega)
    have el : lm pa i j (f + 1) (some k) c X = lm pa i j f (pa k) (c + bN (hd2 k && !x k)) (va_up X ((150 * j) + k) ((hd2 k && !x k) || x k)) := by
      show lm pa i j f (pa k) _ _ = _
      rw [e1, e2]
    have hfr : ∀ b q, ¬ (150 * j ≤ q ∧ q < 150 * j + 150) → va_up X ((150 * j) + k) b q = X q := fun b q hq => by
      have : ¬ q = (150 * j) + k := by omega
      simp only [va_up, if_neg this]
    by_cases h : (hd2 k && !x k) = true
    · have en : ln pa hd2 (f + 1) (some k) c x = ln pa hd2 f (pa k) (c + 1) (va_up x k true) := if_pos h
      rw [el, en, h]
      obtain ⟨g1, g2, g3⟩ := lm_ln hn hTp hij f (pa k) (c + 1) (va_up X ((150 * j) + k) (true || x k)) (va_up x k true) ho2 (RW_other hij (hfr _) h1) (fun q hq => by
        by_cases hqk : q = k
        · subst hqk; simp [va_up]
        · have : ¬ (150 * j) + q = (150 * j) + k := by omega
          simp only [va_up, if_neg this, if_neg hqk]
          exact h2 q hq)
      exact ⟨g1, g2, fun q hq => by rw [show c + bN true = c + 1 from rfl, g3 q hq]; exact hfr _ q hq⟩
    · have en : ln pa hd2 (f + 1) (some k) c x = ln pa hd2 f (pa k) c x := if_neg h
      have hf : (hd2 k && !x k) = false := by simpa using h
      rw [el, en, hf]
      have ex : va_up X ((150 * j) + k) (false || x k) = X := by
        funext q
        by_cases hq : q = (150 * j) + k
        · subst hq; simp only [va_up, if_true, Bool.false_or]; exact e2.symm
        · simp only [va_up, if_neg hq]
      rw [ex]
      exact lm_ln hn hTp hij f (pa k) c X x ho2 h1 h2
theorem gtS_abS (hT : TV n dc pa ge) (hij : i ≠ j) (h2 : NL n pa ge hd2 nl2) (h1 : NL n pa ge hd nl) (hr2 : RW mk i hd2) (hr : RW mk j hd) : ∀ c, c ≤ n →
    (gtS dc pa i j n d mk c).1 = (abS dc pa hd2 (ends hd2 nl2) nl d hd c).1 ∧ RW (gtS dc pa i j n d mk c).2 j (abS dc pa hd2 (ends hd2 nl2) nl d hd c).2 ∧ (∀ q, ¬ (150 * j ≤ q ∧ q < 150 * j + 150) → (gtS dc pa i j n d mk c).2 q = mk q) ∧ (∀ k, (abS dc pa hd2 (ends hd2 nl2) nl d hd c).2 k = true → hd k = true ∨ hd2 k = true) ∧ (∀ k, hd k = true → (abS dc pa hd2 (ends hd2 nl2) nl d hd c).2 k = true) ∧ ((abS dc pa hd2 (ends hd2 nl2) nl d hd c).1 = 0 → (abS dc pa hd2 (ends hd2 nl2) nl d hd c).2 = hd)
  | 0, _ => ⟨rfl, hr, fun _ _ => rfl, fun k h => Or.inl h, fun k h => h, fun _ => rfl⟩
  | c + 1, hc => by
    obtain ⟨a1, a2, a3, a4, a5, a6⟩ := gtS_abS hT hij h2 h1 hr2 hr c (by omega)
    have hn := hT.1
    have hTp := hT.2.2.2.1
    have hri := RW_other hij a3 hr2
    generalize hA : abS dc pa hd2 (ends hd2 nl2) nl d hd c = A at a1 a2 a4 a5 a6
    generalize hG : gtS dc pa i j n d mk c = G at a1 a2 a3 hri
    have hcond : gtC dc pa i j n d c G.2 = abC dc (ends hd2 nl2) nl d c A.2 := by
      unfold gtC abC
      rw [lef_ends hn h2 hri (by omega), a2 c (by omega)]
      cases hE : ends hd2 nl2 c with
      | false => simp
      | true =>
        have e : any (hsP pa G.2 j c) n = hasD nl c := by
          have e1 : any (hsP pa G.2 j c) n = true ↔ hasD nl c = true := by
            rw [any_iff]
            unfold hasD hsP
            rw [decide_eq_true_eq, h1.2.1 c]
            refine ⟨fun ⟨k, k1, k2⟩ => ?_, fun ⟨k, k1, k2, k3⟩ => ⟨k, k1, by rw [a2 k (by omega), a5 k k2, k3]; rfl⟩⟩
            rw [a2 k (by omega), Bool.and_eq_true] at k2
            rcases a4 k k2.1 with q | q
            · exact ⟨k, k1, q, k2.2⟩
            · exact absurd (ends_iff.mp hE).2 ((h2.2.1 c).mpr ⟨k, k1, q, k2.2⟩)
          cases q1 : any (hsP pa G.2 j c) n <;> cases q2 : hasD nl c <;> simp_all
        rw [e]
    have eG : gtS dc pa i j n d mk (c + 1) = gtp dc pa i j n d c G := by show gtp dc pa i j n d c (gtS dc pa i j n d mk c) = _; rw [hG]
    have eA : abS dc pa hd2 (ends hd2 nl2) nl d hd (c + 1) = abp dc pa hd2 (ends hd2 nl2) nl d c A := by show abp dc pa hd2 (ends hd2 nl2) nl d c (abS dc pa hd2 (ends hd2 nl2) nl d hd c) = _; rw [hA]
    rw [eG, eA]
    unfold gtp abp
    rw [hcond]
    by_cases hC : abC dc (ends hd2 nl2) nl d c A.2 = true
    · rw [if_pos hC, if_pos hC]
      obtain ⟨b1, b2, b3⟩ := lm_ln hn hTp hij 150 (some c) G.1 G.2 A.2 (fun k hk => by cases hk; omega) hri a2
      obtain ⟨l1, l2, l3, l4⟩ := ln_in pa hd2 150 (some c) 0 A.2
      have es := ln_shift pa hd2 150 (some c) G.1 A.2
      rw [es] at b1 b2
      refine ⟨by rw [b1, a1], b2, fun q hq => by rw [b3 q hq, a3 q hq], fun k hk => ?_, fun k hk => l2 k (a5 k hk), fun h0 => ?_⟩
      · rcases l1 k hk with q | q
        · exact a4 k q
        · exact Or.inr q
      · have h0 : A.1 + (ln pa hd2 150 (some c) 0 A.2).1 = 0 := h0
        show (ln pa hd2 150 (some c) 0 A.2).2 = hd
        rw [l4 (by omega), a6 (by omega)]
    · rw [if_neg hC, if_neg hC]
      exact ⟨a1, a2, a3, a4, a5, a6⟩
/-- the target after it has received: class and reference agree -/
theorem recv_ok (hT : TV n dc pa ge) (hij : i ≠ j) (h2 : NL n pa ge hd2 nl2) (hh2 : ∀ k, hd2 k = true → k < n) (h1 : SV n dc pa dl ge su hd nl wi) (hr2 : RW mk i hd2) (hr : RW mk j hd) {e : Nat} (he : dp j = nI e) (he2 : e ≤ 20)
    {A : Nat × (Nat → Bool)} (hA : A = abS dc pa hd2 (ends hd2 nl2) nl d hd n) {G : Nat × (Nat → Bool)} (hG : G = gtS dc pa i j n d mk n) :
    G.1 = A.1 ∧ SV n dc pa dl ge su (if 0 < A.1 then stm A.2 (flS pa ge A.2 n n) ge (nI e) n else A.2) (if 0 < A.1 then flS pa ge A.2 n n else nl) (if 0 < A.1 then fwS dc dl ge su (ends A.2 (flS pa ge A.2 n n)) n else wi) ∧
      RW (if 0 < G.1 then (smS pa ge dp j n G.2 n).2 else G.2) j (if 0 < A.1 then stm A.2 (flS pa ge A.2 n n) ge (nI e) n else A.2) ∧ ∀ q, ¬ (150 * j ≤ q ∧ q < 150 * j + 150) → (if 0 < G.1 then (smS pa ge dp j n G.2 n).2 else G.2) q = mk q := by
  obtain ⟨a1, a2, a3, a4, a5, a6⟩ := gtS_abS (d := d) hT hij h2 h1.2.1 hr2 hr n (Nat.le_refl _)
  rw [← hA] at a1 a2 a4 a5 a6
  rw [← hG] at a1 a2 a3
  rw [a1]
  by_cases h0 : 0 < A.1
  · rw [if_pos h0, if_pos h0, if_pos h0, if_pos h0]
    have hlt : ∀ k, A.2 k = true → k < n := fun k hk => by
      rcases a4 k hk with q | q
      · exact h1.1 k q
      · exact hh2 k q
    have hs := SV_survey (dl := dl) (su := su) hT hlt
    obtain ⟨-, s2, s3⟩ := smS_stm hT hs.2.1 a2 he he2 n (Nat.le_refl _)
    exact ⟨rfl, SV_stem hs, s2, fun q hq => by rw [s3 q hq, a3 q hq]⟩
  · rw [if_neg h0, if_neg h0, if_neg h0, if_neg h0]
    have e0 := a6 (by omega)
    exact ⟨rfl, by rw [e0]; exact h1, a2, a3⟩
end GET
theorem nxS_congr {f g : Nat → Int32} {a : Int32} : ∀ {c : Nat}, (∀ k, k < c → f k = g k) → nxS f a c = nxS g a c
  | 0, _ => rfl
  | c + 1, h => by
    have ih := nxS_congr (a := a) (c := c) (fun k hk => h k (by omega))
    show nxp f a c (nxS f a c) = nxp g a c (nxS g a c)
    rw [ih]
    cases hx : nxS g a c with
    | none => unfold nxp; rw [h c (by omega)]
    | some b =>
      have := nxS_lt g a c b hx
      unfold nxp
      rw [h c (by omega)]
      simp only [h b (by omega)]
section REP
variable {n i j : Nat} {dc : Nat → Nat} {pa : Nat → Option Nat} {dl : Nat → Bool} {ge : Nat → Nat} {su : Nat → Int32} {hd hd2 : Nat → Bool} {nl nl2 : Nat → Nat} {mk : Nat → Bool} {dp : Nat → Int32} {wi : Nat → Option Nat} {sq tc : Nat → Int32} {ch2 : Nat → Int32} {x0 : CS} {X0 : RS}
/-- both sides' states on the way of a replication -/
def RR2 (n j : Nat) (dc : Nat → Nat) (pa : Nat → Option Nat) (dl : Nat → Bool) (ge : Nat → Nat) (su : Nat → Int32) (mk : Nat → Bool) (sq tc : Nat → Int32) (x : CS) (X : RS) : Prop :=
  X.1 = x.1 ∧ X.2.1 = x.2.1 ∧ SV n dc pa dl ge su x.2.2.2.2.1 x.2.2.2.2.2.1 x.2.2.2.2.2.2 ∧ RW X.2.2.1 j x.2.2.2.2.1 ∧ X.2.2.2.1 j = x.2.2.1 ∧ (∀ d, d < 4 → X.2.2.2.2 ((4 * j) + d) = x.2.2.2.1 d) ∧
  (∀ q, ¬ (150 * j ≤ q ∧ q < 150 * j + 150) → X.2.2.1 q = mk q) ∧ (∀ q, q ≠ j → X.2.2.2.1 q = sq q) ∧ ∀ q, ¬ (4 * j ≤ q ∧ q < 4 * j + 4) → X.2.2.2.2 q = tc q
theorem rep_step (hT : TV n dc pa ge) (hij : i ≠ j) (h2 : NL n pa ge hd2 nl2) (hh2 : ∀ k, hd2 k = true → k < n) (hr2 : RW mk i hd2) (hch : ∀ d, d < 4 → tc ((4 * i) + d) = ch2 d) {e : Nat} (he : dp j = nI e) (he2 : e ≤ 20) {x : CS} {X : RS} (h : RR2 n j dc pa dl ge su mk sq tc x X) :
    nxS (tcr X.2.2.2.2 i) X.2.1 4 = nxS ch2 x.2.1 4 ∧ RR2 n j dc pa dl ge su mk sq tc (csp dc pa dl ge su n (nI e) hd2 nl2 ch2 x) (rpp dc pa ge dp i j n X) := by
  obtain ⟨h1, h3, h4, h5, h6, h7, h8, h9, h10⟩ := h
  have hnx : nxS (tcr X.2.2.2.2 i) X.2.1 4 = nxS ch2 x.2.1 4 := by
    rw [h3]
    refine nxS_congr (fun d hd => ?_)
    unfold tcr
    rw [h10 _ (by omega)]
    exact hch d hd
  refine ⟨hnx, ?_⟩
  cases hd : nxS ch2 x.2.1 4 with
  | none =>
    rw [csp_n hd, rpp_n (by rw [hnx]; exact hd)]
    exact ⟨h1, h3, h4, h5, h6, h7, h8, h9, h10⟩
  | some d =>
    have hd4 := nxS_lt _ _ _ _ hd
    rw [csp_s hd, rpp_s (by rw [hnx]; exact hd)]
    obtain ⟨A, hA⟩ : ∃ A, A = abS dc pa hd2 (ends hd2 nl2) x.2.2.2.2.2.1 d x.2.2.2.2.1 n := ⟨_, rfl⟩
    obtain ⟨G, hG⟩ : ∃ G, G = gtS dc pa i j n d X.2.2.1 n := ⟨_, rfl⟩
    obtain ⟨r1, r2, r3, r4⟩ := recv_ok (d := d) hT hij h2 hh2 h4 (RW_other hij h8 hr2) h5 he he2 hA hG
    have ht : ∀ q, ¬ (4 * j ≤ q ∧ q < 4 * j + 4) → (if 0 < G.1 then va_up X.2.2.2.2 ((4 * j) + d) (X.2.2.2.1 j + nI 1) else X.2.2.2.2) q = tc q := fun q hq => by
      split
      · have : ¬ q = (4 * j) + d := by omega
        simp only [va_up, if_neg this]
        exact h10 q hq
      · exact h10 q hq
    unfold csg rpg
    rw [← hA, ← hG]
    refine ⟨by show X.1 + G.1 = x.1 + A.1; rw [h1, r1], ?_, r2, r3, ?_, fun q hq => ?_, fun q hq => by rw [← h8 q hq]; exact r4 q hq, fun q hq => ?_, ht⟩
    · show (if 0 < G.1 then va_up X.2.2.2.2 ((4 * j) + d) (X.2.2.2.1 j + nI 1) else X.2.2.2.2) ((4 * i) + d) = ch2 d
      rw [ht _ (by omega)]
      exact hch d hd4
    · show (if 0 < G.1 then va_up X.2.2.2.1 j (X.2.2.2.1 j + nI 1) else X.2.2.2.1) j = if 0 < A.1 then x.2.2.1 + nI 1 else x.2.2.1
      rw [r1]
      by_cases h0 : 0 < A.1
      · rw [if_pos h0, if_pos h0, h6]; simp only [va_up, if_true]
      · rw [if_neg h0, if_neg h0]; exact h6
    · show (if 0 < G.1 then va_up X.2.2.2.2 ((4 * j) + d) (X.2.2.2.1 j + nI 1) else X.2.2.2.2) ((4 * j) + q) = (if 0 < A.1 then va_up x.2.2.2.1 d (x.2.2.1 + nI 1) else x.2.2.2.1) q
      rw [r1]
      by_cases h0 : 0 < A.1
      · rw [if_pos h0, if_pos h0, h6]
        by_cases hqd : q = d
        · subst hqd; simp only [va_up, if_true]
        · have : ¬ (4 * j) + q = (4 * j) + d := by omega
          simp only [va_up, if_neg this, if_neg hqd]
          exact h7 q hq
      · rw [if_neg h0, if_neg h0]; exact h7 q hq
    · show (if 0 < G.1 then va_up X.2.2.2.1 j (X.2.2.2.1 j + nI 1) else X.2.2.2.1) q = sq q
      split
      · simp only [va_up, if_neg hq]; exact h9 q hq
      · exact h9 q hq
theorem rep_all (hT : TV n dc pa ge) (hij : i ≠ j) (h2 : NL n pa ge hd2 nl2) (hh2 : ∀ k, hd2 k = true → k < n) (hr2 : RW mk i hd2) (hch : ∀ d, d < 4 → tc ((4 * i) + d) = ch2 d) {e : Nat} (he : dp j = nI e) (he2 : e ≤ 20) (h : RR2 n j dc pa dl ge su mk sq tc x0 X0) : ∀ c,
    RR2 n j dc pa dl ge su mk sq tc (csS dc pa dl ge su n (nI e) hd2 nl2 ch2 x0 c) (rpS dc pa ge dp i j n X0 c)
  | 0 => h
  | c + 1 => (rep_step hT hij h2 hh2 hr2 hch he he2 (rep_all hT hij h2 hh2 hr2 hch he he2 h c)).2
theorem rpa_csa (hij : i ≠ j) (hch : ∀ d, d < 4 → tc ((4 * i) + d) = ch2 d) {lt2 : Int32} (hl : sq i = lt2) {x : CS} {X : RS} (h : RR2 n j dc pa dl ge su mk sq tc x X) : rpa i X = csa ch2 lt2 x := by
  obtain ⟨h1, h3, h4, h5, h6, h7, h8, h9, h10⟩ := h
  have hnx : nxS (tcr X.2.2.2.2 i) X.2.1 4 = nxS ch2 x.2.1 4 := by
    rw [h3]
    refine nxS_congr (fun d hd => ?_)
    unfold tcr
    rw [h10 _ (by omega)]
    exact hch d hd
  unfold rpa csa
  rw [hnx]
  cases nxS ch2 x.2.1 4 with
  | none => show X.2.2.2.1 i = lt2; rw [h9 i hij]; exact hl
  | some d => exact h3
end REP
theorem lkC_mnI {kp ck ck2 : Nat → Int32} {i j : Nat} (hi : i < 3) (hj : j < 3) (h2 : ∀ q, q < 9 → kp ((9 * i) + q) = ck2 q) (h1 : ∀ q, q < 9 → kp ((9 * j) + q) = ck q) : lkC kp i j = mnI (ck2 ((i * 3) + j)) (ck ((i * 3) + j)) := by
  have e1 : kp ((9 * j) + (3 * i) + j) = ck ((i * 3) + j) := by rw [show (9 * j) + (3 * i) + j = (9 * j) + ((i * 3) + j) by omega]; exact h1 _ (by omega)
  have e2 : kp ((9 * i) + (3 * i) + j) = ck2 ((i * 3) + j) := by rw [show (9 * i) + (3 * i) + j = (9 * i) + ((i * 3) + j) by omega]; exact h2 _ (by omega)
  unfold lkC mnI
  rw [e1, e2]
  by_cases h : ck ((i * 3) + j) < ck2 ((i * 3) + j)
  · rw [if_pos h, if_pos (Int32.le_of_lt h)]
  · rw [if_neg h]
    by_cases h3 : ck ((i * 3) + j) ≤ ck2 ((i * 3) + j)
    · rw [if_pos h3]
      exact Int32.le_antisymm h3 (Int32.not_lt.mp h)
    · rw [if_neg h3]
end
section
/-! both sides' state, and what the writing calls make of it -/
theorem up_s {α : Type} (f : Nat → α) (i : Nat) (x : α) : va_up f i x i = x := if_pos rfl
theorem up_o {α : Type} (f : Nat → α) (i : Nat) (x : α) {q : Nat} (h : ¬ q = i) : va_up f i x q = f q := if_neg h
def ST (n : Nat) (dc : Nat → Nat) (pa : Nat → Option Nat) (dl : Nat → Bool) (ge : Nat → Nat) (su : Nat → Int32) (mk : Nat → Bool) (dpM sq tc kp : Nat → Int32) (i : Nat) (dp lt : Int32) (ch ck : Nat → Int32) (hd : Nat → Bool) (nl : Nat → Nat) (wi : Nat → Option Nat) : Prop :=
  SV n dc pa dl ge su hd nl wi ∧ RW mk i hd ∧ (∃ e, dpM i = nI e ∧ dp = nI e ∧ 1 ≤ e ∧ e ≤ 20) ∧ sq i = lt ∧ (∀ d, d < 4 → tc ((4 * i) + d) = ch d) ∧ ∀ q, q < 9 → kp ((9 * i) + q) = ck q
def J (n : Nat) (dc : Nat → Nat) (pa : Nat → Option Nat) (dl : Nat → Bool) (ge : Nat → Nat) (su : Nat → Int32) (mk : Nat → Bool) (dpM sq tc kp : Nat → Int32) (dps lts : Nat → Int32) (chs cks : Nat → Nat → Int32) (hds : Nat → Nat → Bool) (nls : Nat → Nat → Nat) (wis : Nat → Nat → Option Nat) : Prop :=
  TV n dc pa ge ∧ ∀ i, i < 3 → ST n dc pa dl ge su mk dpM sq tc kp i (dps i) (lts i) (chs i) (cks i) (hds i) (nls i) (wis i)
section JS
variable {n : Nat} {dc : Nat → Nat} {pa : Nat → Option Nat} {dl : Nat → Bool} {ge : Nat → Nat} {su : Nat → Int32} {mk : Nat → Bool} {dpM sq tc kp : Nat → Int32} {dps lts : Nat → Int32} {chs cks : Nat → Nat → Int32} {hds : Nat → Nat → Bool} {nls : Nat → Nat → Nat} {wis : Nat → Nat → Option Nat}
theorem ST_frame {mk2 : Nat → Bool} {dp2 sq2 tc2 kp2 : Nat → Int32} {i : Nat} {dp lt : Int32} {ch ck : Nat → Int32} {hd : Nat → Bool} {nl : Nat → Nat} {wi : Nat → Option Nat} (h : ST n dc pa dl ge su mk dpM sq tc kp i dp lt ch ck hd nl wi)
    (h1 : ∀ k, k < 150 → mk2 ((150 * i) + k) = mk ((150 * i) + k)) (h2 : dp2 i = dpM i) (h3 : sq2 i = sq i) (h4 : ∀ d, d < 4 → tc2 ((4 * i) + d) = tc ((4 * i) + d)) (h5 : ∀ q, q < 9 → kp2 ((9 * i) + q) = kp ((9 * i) + q)) :
    ST n dc pa dl ge su mk2 dp2 sq2 tc2 kp2 i dp lt ch ck hd nl wi := by
  obtain ⟨s1, s2, ⟨e, s3, s4, s5⟩, s6, s7, s8⟩ := h
  exact ⟨s1, fun k hk => by rw [h1 k hk]; exact s2 k hk, ⟨e, by rw [h2]; exact s3, s4, s5⟩, by rw [h3]; exact s6, fun d hd => by rw [h4 d hd]; exact s7 d hd, fun q hq => by rw [h5 q hq]; exact s8 q hq⟩
theorem J_grow {d : Nat} {o : Option Nat} {b : Bool} {y : Int32} (h : J n dc pa dl ge su mk dpM sq tc kp dps lts chs cks hds nls wis) (hn : n < 150) (hd4 : d < 4) (ho : ∀ j, o = some j → j < n ∧ dc j = d) :
    J (n + 1) (va_up dc n d) (va_up pa n o) (va_up dl n b) (va_up ge n (mkg ge o)) (va_up su n y) mk dpM sq tc kp dps lts chs cks hds nls wis :=
  ⟨(TV_grow h.1 hn hd4 ho).1, fun i hi => by
    obtain ⟨s1, s2⟩ := h.2 i hi
    exact ⟨SV_grow h.1 s1, s2⟩⟩
/-- a revision j that is there goes into store i -/
theorem J_app {i j : Nat} (h : J n dc pa dl ge su mk dpM sq tc kp dps lts chs cks hds nls wis) (hi : i < 3) (hj : j < n) :
    J n dc pa dl ge su (smS pa ge dpM i n (va_up mk ((150 * i) + j) true) n).2 dpM (va_up sq i (sq i + nI 1)) (va_up tc ((4 * i) + dc j) (sq i + nI 1)) kp
      dps (va_up lts i (lts i + nI 1)) (va_up chs i (va_up (chs i) (dc j) (lts i + nI 1))) cks
      (va_up hds i (stm (va_up (hds i) j true) (flS pa ge (va_up (hds i) j true) n n) ge (dps i) n)) (va_up nls i (flS pa ge (va_up (hds i) j true) n n)) (va_up wis i (fwS dc dl ge su (ends (va_up (hds i) j true) (flS pa ge (va_up (hds i) j true) n n)) n)) := by
  obtain ⟨hT, hS⟩ := h
  have hn := hT.1
  obtain ⟨s1, s2, ⟨e, s3, s4, s5, s6⟩, s7, s8, s9⟩ := hS i hi
  have hlt : ∀ k, va_up (hds i) j true k = true → k < n := fun k hk => by
    by_cases hkj : k = j
    · omega
    · rw [up_o _ _ _ hkj] at hk; exact s1.1 k hk
  have hr : RW (va_up mk ((150 * i) + j) true) i (va_up (hds i) j true) := fun k hk => by
    by_cases hkj : k = j
    · subst hkj; rw [up_s, up_s]
    · rw [up_o _ _ _ hkj, up_o _ _ _ (show ¬ (150 * i) + k = (150 * i) + j by omega)]; exact s2 k hk
  have hs := SV_survey (dl := dl) (su := su) hT hlt
  obtain ⟨-, g2, g3⟩ := smS_stm hT hs.2.1 hr s3 s6 n (Nat.le_refl _)
  refine ⟨hT, fun q hq => ?_⟩
  by_cases hqi : q = i
  · subst hqi
    rw [up_s, up_s, up_s, up_s, up_s, s4]
    refine ⟨SV_stem hs, g2, ⟨e, s3, rfl, s5, s6⟩, by rw [up_s, s7], fun d hd => ?_, s9⟩
    by_cases hd2 : d = dc j
    · rw [hd2, up_s, up_s, s7]
    · rw [up_o _ _ _ hd2, up_o _ _ _ (show ¬ (4 * q) + d = (4 * q) + dc j by omega)]; exact s8 d hd
  · rw [up_o _ _ _ hqi, up_o _ _ _ hqi, up_o _ _ _ hqi, up_o _ _ _ hqi, up_o _ _ _ hqi]
    have hdj := hT.2.1 j
    exact ST_frame (hS q hq) (fun k hk => by rw [g3 _ (by omega), up_o _ _ _ (by omega)]) rfl (up_o _ _ _ hqi) (fun d hd => up_o _ _ _ (by omega)) (fun _ _ => rfl)
theorem J_depth {i x : Nat} (h : J n dc pa dl ge su mk dpM sq tc kp dps lts chs cks hds nls wis) (hi : i < 3) (h1 : 1 ≤ x) (h20 : x ≤ 20) :
    fct (stC (hds i) (nls i) ge (nI x)) n = (smS pa ge (va_up dpM i (nI x)) i n mk n).1 ∧
    J n dc pa dl ge su (smS pa ge (va_up dpM i (nI x)) i n mk n).2 (va_up dpM i (nI x)) sq tc kp (va_up dps i (nI x)) lts chs cks (va_up hds i (stm (hds i) (nls i) ge (nI x) n)) nls wis := by
  obtain ⟨hT, hS⟩ := h
  obtain ⟨s1, s2, ⟨e, s3, s4, s5, s6⟩, s7, s8, s9⟩ := hS i hi
  obtain ⟨g1, g2, g3⟩ := smS_stm hT s1.2.1 s2 (dp := va_up dpM i (nI x)) (up_s _ _ _) h20 n (Nat.le_refl _)
  refine ⟨g1.symm, hT, fun q hq => ?_⟩
  by_cases hqi : q = i
  · subst hqi
    rw [up_s, up_s]
    exact ⟨SV_stem s1, g2, ⟨x, up_s _ _ _, rfl, h1, h20⟩, s7, s8, s9⟩
  · rw [up_o _ _ _ hqi, up_o _ _ _ hqi]
    exact ST_frame (hS q hq) (fun k hk => g3 _ (by omega)) (up_o _ _ _ hqi) rfl (fun d hd => rfl) (fun _ _ => rfl)
theorem fct_more {P : Nat → Bool} {m : Nat} : ∀ (q : Nat), (∀ k, m ≤ k → k < m + q → P k = false) → fct P (m + q) = fct P m
  | 0, _ => rfl
  | q + 1, h =>
    (fct_f (k := m + q) (h (m + q) (by omega) (by omega))).trans (fct_more q (fun k h1 h2 => h k h1 (by omega)))
theorem J_wipe {i : Nat} (h : J n dc pa dl ge su mk dpM sq tc kp dps lts chs cks hds nls wis) (hi : i < 3) :
    fct (hds i) n = fct (mrw mk i) 150 ∧
    J n dc pa dl ge su (remM mk i 150) dpM (va_up sq i (nI 0)) (clr tc (4 * i) 4) (clr kp (9 * i) 9) dps (va_up lts i (nI 0)) (va_up chs i (fun _ => nI 0)) (va_up cks i (fun _ => nI 0)) (va_up hds i (rem (hds i) 150)) (va_up nls i (flS pa ge (rem (hds i) 150) n n)) (va_up wis i (fwS dc dl ge su (ends (rem (hds i) 150) (flS pa ge (rem (hds i) 150) n n)) n)) := by
  obtain ⟨hT, hS⟩ := h
  have hn := hT.1
  obtain ⟨s1, s2, ⟨e, s3, s4, s5, s6⟩, s7, s8, s9⟩ := hS i hi
  have hz : ∀ k, rem (hds i) 150 k = true → False := fun k hk => by
    simp only [rem, Bool.and_eq_true, Bool.not_eq_true', decide_eq_false_iff_not] at hk
    have := s1.1 k hk.1
    omega
  refine ⟨?_, hT, fun q hq => ?_⟩
  · have e1 : fct (mrw mk i) 150 = fct (mrw mk i) n := by
      have := fct_more (P := mrw mk i) (m := n) (150 - n) (fun k h1 h2 => by
        have e2 : mrw mk i k = hds i k := s2 k (by omega)
        rw [e2]
        cases hk : hds i k with
        | false => rfl
        | true => have := s1.1 k hk; omega)
      rw [← this, show n + (150 - n) = 150 by omega]
    rw [e1]
    exact fct_congr (fun k hk => (s2 k (by omega)).symm)
  · by_cases hqi : q = i
    · subst hqi
      rw [up_s, up_s, up_s, up_s, up_s, up_s]
      refine ⟨SV_survey hT (fun k hk => (hz k hk).elim), fun k hk => ?_, ⟨e, s3, s4, s5, s6⟩, up_s _ _ _, fun d hd => ?_, fun r hr => ?_⟩
      · have e1 : rem (hds q) 150 k = false := by
          cases hx : rem (hds q) 150 k with
          | false => rfl
          | true => exact (hz k hx).elim
        have e2 : (decide (150 * q ≤ 150 * q + k) && decide (150 * q + k < 150 * q + 150)) = true := by
          simp; omega
        rw [e1]
        show (mk _ && !_) = false
        rw [e2]
        simp
      · have : 4 * q ≤ 4 * q + d ∧ 4 * q + d < 4 * q + 4 := by omega
        simp only [clr, if_pos this]
      · have : 9 * q ≤ 9 * q + r ∧ 9 * q + r < 9 * q + 9 := by omega
        simp only [clr, if_pos this]
    · rw [up_o _ _ _ hqi, up_o _ _ _ hqi, up_o _ _ _ hqi, up_o _ _ _ hqi, up_o _ _ _ hqi, up_o _ _ _ hqi]
      refine ST_frame (hS q hq) (fun k hk => ?_) rfl (up_o _ _ _ hqi) (fun d hd => ?_) (fun r hr => ?_)
      · have e2 : (decide (150 * i ≤ 150 * q + k) && decide (150 * q + k < 150 * i + 150)) = false := by
          rw [Bool.and_eq_false_iff, decide_eq_false_iff_not, decide_eq_false_iff_not]
          omega
        show (mk _ && !_) = mk _
        rw [e2]
        simp
      · have : ¬ (4 * i ≤ 4 * q + d ∧ 4 * q + d < 4 * i + 4) := by omega
        simp only [clr, if_neg this]
      · have : ¬ (9 * i ≤ 9 * q + r ∧ 9 * q + r < 9 * i + 9) := by omega
        simp only [clr, if_neg this]
theorem J_rep {i j c : Nat} (h : J n dc pa dl ge su mk dpM sq tc kp dps lts chs cks hds nls wis) (hi : i < 3) (hj : j < 3) (hij : i ≠ j)
    {y : CS} (hy : y = csS dc pa dl ge su n (dps j) (hds i) (nls i) (chs i) (0, mnI (cks i ((i * 3) + j)) (cks j ((i * 3) + j)), lts j, chs j, hds j, nls j, wis j) c) {Y : RS} (hY : Y = rpS dc pa ge dpM i j n (0, lkC kp i j, mk, sq, tc) c) :
    Y.1 = y.1 ∧ rpa i Y = csa (chs i) (lts i) y ∧
    J n dc pa dl ge su Y.2.2.1 dpM Y.2.2.2.1 Y.2.2.2.2 (va_up (va_up kp (((9 * i) + (3 * i)) + j) (rpa i Y)) (((9 * j) + (3 * i)) + j) (rpa i Y))
      dps (va_up lts j y.2.2.1) (va_up chs j y.2.2.2.1) (va_up (va_up cks i (va_up (cks i) ((i * 3) + j) (csa (chs i) (lts i) y))) j (va_up (cks j) ((i * 3) + j) (csa (chs i) (lts i) y))) (va_up hds j y.2.2.2.2.1) (va_up nls j y.2.2.2.2.2.1) (va_up wis j y.2.2.2.2.2.2) := by
  obtain ⟨hT, hS⟩ := h
  obtain ⟨s1, s2, ⟨e, s3, s4, s5, s6⟩, s7, s8, s9⟩ := hS i hi
  obtain ⟨t1, t2, ⟨f, t3, t4, t5, t6⟩, t7, t8, t9⟩ := hS j hj
  have hlk := lkC_mnI hi hj s9 t9
  have h0 : RR2 n j dc pa dl ge su mk sq tc (0, mnI (cks i ((i * 3) + j)) (cks j ((i * 3) + j)), lts j, chs j, hds j, nls j, wis j) (0, lkC kp i j, mk, sq, tc) :=
    ⟨rfl, hlk, t1, t2, t7, t8, fun _ _ => rfl, fun _ _ => rfl, fun _ _ => rfl⟩
  have hall := rep_all hT hij s1.2.1 s1.1 s2 s8 t3 t6 h0 c
  rw [← hY, ← t4, ← hy] at hall
  have hra := rpa_csa hij s8 s7 hall
  obtain ⟨r1, r2, r3, r4, r5, r6, r7, r8, r9⟩ := hall
  refine ⟨r1, hra, hT, fun q hq => ?_⟩
  rw [hra]
  have hkp : ∀ q, q < 3 → q ≠ i → q ≠ j → ∀ r, r < 9 → va_up (va_up kp (((9 * i) + (3 * i)) + j) (csa (chs i) (lts i) y)) (((9 * j) + (3 * i)) + j) (csa (chs i) (lts i) y) ((9 * q) + r) = kp ((9 * q) + r) := fun q h1 h2 h3 r hr => by
    rw [up_o _ _ _ (by omega), up_o _ _ _ (by omega)]
  by_cases hqj : q = j
  · subst hqj
    rw [up_s, up_s, up_s, up_s, up_s, up_s]
    refine ⟨r3, r4, ⟨f, t3, t4, t5, t6⟩, r5, r6, fun r hr => ?_⟩
    by_cases hrp : r = (i * 3) + q
    · rw [hrp, up_s, show (9 * q) + ((i * 3) + q) = ((9 * q) + (3 * i)) + q by omega, up_s]
    · rw [up_o _ _ _ hrp, up_o _ _ _ (by omega), up_o _ _ _ (by omega)]; exact t9 r hr
  · rw [up_o _ _ _ hqj, up_o _ _ _ hqj, up_o _ _ _ hqj, up_o _ _ _ hqj, up_o _ _ _ hqj, up_o _ _ _ hqj]
    by_cases hqi : q = i
    · subst hqi
      rw [up_s]
      refine ⟨s1, RW_other hqj r7 s2, ⟨e, s3, s4, s5, s6⟩, by rw [r8 q hqj]; exact s7, fun d hd => by rw [r9 _ (by omega)]; exact s8 d hd, fun r hr => ?_⟩
      by_cases hrp : r = (q * 3) + j
      · rw [hrp, up_s, show (9 * q) + ((q * 3) + j) = ((9 * q) + (3 * q)) + j by omega, up_o _ _ _ (by omega), up_s]
      · rw [up_o _ _ _ hrp, up_o _ _ _ (by omega), up_o _ _ _ (by omega)]; exact s9 r hr
    · rw [up_o _ _ _ hqi]
      exact ST_frame (hS q hq) (fun k hk => r7 _ (by omega)) rfl (r8 q hqj) (fun d hd => r9 _ (by omega)) (fun r hr => hkp q hq hqi hqj r hr)
end JS
end
section
/-! what the reading calls answer; when an edit goes -/
section JR
variable {n : Nat} {dc : Nat → Nat} {pa : Nat → Option Nat} {dl : Nat → Bool} {ge : Nat → Nat} {su va : Nat → Int32} {mk : Nat → Bool} {dpM sq tc kp : Nat → Int32} {dps lts : Nat → Int32} {chs cks : Nat → Nat → Int32} {hds : Nat → Nat → Bool} {nls : Nat → Nat → Nat} {wis : Nat → Nat → Option Nat}
variable {i j d k : Nat} {o : Option Nat} {v : Int32} {b : Bool}
theorem J_hd (h : J n dc pa dl ge su mk dpM sq tc kp dps lts chs cks hds nls wis) (hi : i < 3) (hk : k < n) : mk ((150 * i) + k) = hds i k := (h.2 i hi).2.1 k (by have := h.1.1; omega)
theorem J_lef (h : J n dc pa dl ge su mk dpM sq tc kp dps lts chs cks hds nls wis) (hi : i < 3) (hk : k < n) : lef pa mk i n k = ends (hds i) (nls i) k := by
  obtain ⟨s1, s2, -⟩ := h.2 i hi
  exact lef_ends h.1.1 s1.2.1 s2 (by have := h.1.1; omega)
theorem J_size (h : J n dc pa dl ge su mk dpM sq tc kp dps lts chs cks hds nls wis) (hi : i < 3) : fct (mrw mk i) n = fct (hds i) n := fct_congr (fun _ hk => J_hd h hi hk)
theorem J_win (h : J n dc pa dl ge su mk dpM sq tc kp dps lts chs cks hds nls wis) (hi : i < 3) (d : Nat) : bsS dc dl ge su (lef pa mk i n) d n = wis i d := by
  rw [(h.2 i hi).1.2.2 d]
  exact bsS_congr (fun _ hk => ⟨rfl, rfl, rfl, rfl, J_lef h hi hk⟩) d n (Nat.le_refl _)
theorem J_cnf (h : J n dc pa dl ge su mk dpM sq tc kp dps lts chs cks hds nls wis) (hi : i < 3) : fct (llC dc dl (lef pa mk i n) d) n = fct (llC dc dl (ends (hds i) (nls i)) d) n := fct_congr (fun k hk => by unfold llC; rw [J_lef h hi hk])
theorem J_shv (h : J n dc pa dl ge su mk dpM sq tc kp dps lts chs cks hds nls wis) (hi : i < 3) : shM pa mk dc dl ge su va i n = shv dl va (wis i) := by
  unfold shM
  rw [show (fun d => bsS dc dl ge su (lef pa mk i n) d n) = wis i from funext (fun d => J_win h hi d)]
theorem J_lk (h : J n dc pa dl ge su mk dpM sq tc kp dps lts chs cks hds nls wis) (hi : i < 3) (hj : j < 3) : lkC kp i j = mnI (cks i ((i * 3) + j)) (cks j ((i * 3) + j)) := lkC_mnI hi hj (h.2 i hi).2.2.2.2.2 (h.2 j hj).2.2.2.2.2
theorem J_pend (h : J n dc pa dl ge su mk dpM sq tc kp dps lts chs cks hds nls wis) (hi : i < 3) {x : Int32} : fct (ccC (tcr tc i) x) 4 = fct (ccC (chs i) x) 4 := fct_congr (fun d hd => by unfold ccC tcr; rw [(h.2 i hi).2.2.2.2.1 d hd])
theorem J_sq (h : J n dc pa dl ge su mk dpM sq tc kp dps lts chs cks hds nls wis) (hi : i < 3) : sq i = lts i := (h.2 i hi).2.2.2.1
theorem J_wi (h : J n dc pa dl ge su mk dpM sq tc kp dps lts chs cks hds nls wis) (hi : i < 3) : ∀ d j, wis i d = some j → j < n := fun d j hj => by
  rw [(h.2 i hi).1.2.2 d] at hj
  exact bsS_lt _ _ _ _ _ _ _ _ hj
theorem J_nl (h : J n dc pa dl ge su mk dpM sq tc kp dps lts chs cks hds nls wis) (hi : i < 3) : ∀ k, nls i k ≤ 151 := (h.2 i hi).1.2.1.1
/-- the union of the stores -/
theorem J_all (h : J n dc pa dl ge su mk dpM sq tc kp dps lts chs cks hds nls wis) {hd un : Nat → Bool} (hun : un = uni (uni (uni (rem hd 150) (hds 0) n) (hds 1) n) (hds 2) n) : bsS dc dl ge su (woL pa mk n) d n = fwS dc dl ge su (ends un (flS pa ge un n n)) n d := by
  have hn := h.1.1
  have e : ∀ k, k < n → un k = (hds 0 k || (hds 1 k || hds 2 k)) := fun k hk => by
    have h1 : k < 150 := by omega
    rw [hun]
    simp [uni, rem, hk, h1, Bool.or_assoc]
  have hNL := flS_NL (hd := un) hn h.1.2.2.2.1 h.1.2.2.1
  rw [fwS_bsS]
  refine bsS_congr (fun k hk => ⟨rfl, rfl, rfl, rfl, ?_⟩) d n (Nat.le_refl _)
  have m0 : ∀ k, k < n → mk k = hds 0 k := fun k hk => by have := J_hd (i := 0) h (by decide) hk; rwa [show (150 * 0) + k = k by omega] at this
  have m1 : ∀ k, k < n → mk (150 + k) = hds 1 k := fun k hk => J_hd (i := 1) h (by decide) hk
  have m2 : ∀ k, k < n → mk (300 + k) = hds 2 k := fun k hk => J_hd (i := 2) h (by decide) hk
  have ea : anw mk k = un k := by unfold anw; rw [m0 k hk, m1 k hk, m2 k hk, e k hk]
  have eb : (any (hsP pa mk 0 k) n || (any (hsP pa mk 1 k) n || any (hsP pa mk 2 k) n)) = hasD (flS pa ge un n n) k := by
    have e1 : (any (hsP pa mk 0 k) n || (any (hsP pa mk 1 k) n || any (hsP pa mk 2 k) n)) = true ↔ hasD (flS pa ge un n n) k = true := by
      rw [Bool.or_eq_true, Bool.or_eq_true, any_iff, any_iff, any_iff]
      unfold hasD
      rw [decide_eq_true_eq, hNL.2.1 k]
      have q0 : ∀ z, z < n → hsP pa mk 0 k z = (hds 0 z && anc pa k z) := fun z hz => by unfold hsP; rw [show (150 * 0) + z = z by omega, m0 z hz]
      have q1 : ∀ z, z < n → hsP pa mk 1 k z = (hds 1 z && anc pa k z) := fun z hz => by unfold hsP; rw [show (150 * 1) + z = 150 + z by omega, m1 z hz]
      have q2 : ∀ z, z < n → hsP pa mk 2 k z = (hds 2 z && anc pa k z) := fun z hz => by unfold hsP; rw [show (150 * 2) + z = 300 + z by omega, m2 z hz]
      constructor
      · rintro (⟨z, z1, z2⟩ | ⟨z, z1, z2⟩ | ⟨z, z1, z2⟩)
        · rw [q0 z z1, Bool.and_eq_true] at z2; exact ⟨z, z1, by rw [e z z1, z2.1]; rfl, z2.2⟩
        · rw [q1 z z1, Bool.and_eq_true] at z2; exact ⟨z, z1, by rw [e z z1, z2.1]; simp, z2.2⟩
        · rw [q2 z z1, Bool.and_eq_true] at z2; exact ⟨z, z1, by rw [e z z1, z2.1]; simp, z2.2⟩
      · rintro ⟨z, z1, z2, z3⟩
        rw [e z z1, Bool.or_eq_true, Bool.or_eq_true] at z2
        rcases z2 with y | y | y
        · exact Or.inl ⟨z, z1, by rw [q0 z z1, y, z3]; rfl⟩
        · exact Or.inr (Or.inl ⟨z, z1, by rw [q1 z z1, y, z3]; rfl⟩)
        · exact Or.inr (Or.inr ⟨z, z1, by rw [q2 z z1, y, z3]; rfl⟩)
    cases x1 : (any (hsP pa mk 0 k) n || (any (hsP pa mk 1 k) n || any (hsP pa mk 2 k) n)) <;> cases x2 : hasD (flS pa ge un n n) k <;> simp_all
  unfold woL ends
  rw [ea, eb]
/-- ancestors have the document -/
theorem anc_dc (hT : TV n dc pa ge) {r : Nat} : ∀ (f k : Nat), k < f → k < n → anc pa r k = true → dc r = dc k
  | 0, _, h, _, _ => absurd h (Nat.not_lt_zero _)
  | f + 1, k, hf, hk, h => by
    obtain ⟨p, hp, h3⟩ := (anc_iff hT.1 hT.2.2.2.1 hk).mp h
    have hpk := hT.2.2.2.1 k p hk hp
    have hd := (hT.2.2.2.2.1 k p hk hp).1
    rcases h3 with h3 | h3
    · rw [hd, h3]
    · rw [hd]; exact anc_dc hT f p (by omega) (by omega) h3
/-- a revision that the store holds: none of its document, if there is no winner -/
theorem J_held0 (h : J n dc pa dl ge su mk dpM sq tc kp dps lts chs cks hds nls wis) (hi : i < 3) (hw : wis i d = none) (hj : j < n) (hd : dc j = d) : hds i j = false := by
  obtain ⟨⟨s1, s2, s3⟩, -⟩ := h.2 i hi
  rw [s3 d] at hw
  have hno := bsS_none hw
  cases hx : hds i j with
  | false => rfl
  | true =>
    exfalso
    by_cases h1 : nls i j = 151
    · have := hno j hj hd
      rw [show ends (hds i) (nls i) j = true from ends_iff.mpr ⟨hx, h1⟩] at this
      cases this
    · obtain ⟨k, k1, k2, k3, -⟩ := s2.2.2.2 j h1
      have := hno k k1 (by rw [← anc_dc h.1 (k + 1) k (Nat.lt_succ_self _) k1 k3]; exact hd)
      rw [k2] at this
      cases this
/-- a child of a leaf isn't held -/
theorem J_held1 (h : J n dc pa dl ge su mk dpM sq tc kp dps lts chs cks hds nls wis) (hi : i < 3) (hl : ends (hds i) (nls i) k = true) (hj : j < n) (hp : pa j = some k) : hds i j = false := by
  obtain ⟨⟨s1, s2, s3⟩, -⟩ := h.2 i hi
  cases hx : hds i j with
  | false => rfl
  | true => exact absurd (ends_iff.mp hl).2 ((s2.2.1 k).mpr ⟨j, hj, hx, anc_pa h.1.1 h.1.2.2.2.1 hj hp⟩)
theorem J_new (h : J n dc pa dl ge su mk dpM sq tc kp dps lts chs cks hds nls wis) (hi : i < 3) (hn : n < 150) : mk ((150 * i) + n) = false := by
  rw [(h.2 i hi).2.1 n hn]
  cases hx : hds i n with
  | false => rfl
  | true => exact absurd ((h.2 i hi).1.1 n hx) (Nat.lt_irrefl _)
theorem fnd_hit (hpb : ∀ k j, k < n → pa k = some j → j < k) (hn : n ≤ 150) (ho : ∀ j, o = some j → j < n) {va : Nat → Int32} (h : ffd (fnd dc pa va dl d o v b) n = some j) : j < n ∧ dc j = d ∧ pa j = o := by
  obtain ⟨h1, h2⟩ := ffd_lt h
  simp only [fnd, Bool.and_eq_true, decide_eq_true_eq] at h2
  exact ⟨h1, h2.1, (eP_inj (fun q hq => by have := hpb j q h1 hq; omega) (fun q hq => by have := ho q hq; omega)).mp h2.2.1⟩
/-- whether the document can be edited behind o -/
theorem J_can0 (h : J n dc pa dl ge su mk dpM sq tc kp dps lts chs cks hds nls wis) (hi : i < 3) : cne dc (lef pa mk i n) (bsS dc dl ge su (lef pa mk i n) d n) n d none = (decide (wis i d = none) && decide (n < 150)) := by
  unfold cne
  rw [J_win h hi]
theorem J_can1 (h : J n dc pa dl ge su mk dpM sq tc kp dps lts chs cks hds nls wis) (hi : i < 3) (hk : k < n) : cne dc (lef pa mk i n) (bsS dc dl ge su (lef pa mk i n) d n) n d (some k) = ((decide (dc k = d) && ends (hds i) (nls i) k) && decide (n < 150)) := by
  unfold cne
  simp only [J_lef h hi hk]
end JR
end
section
/-! ===== Int32 by its bits: bt x i ===== -/
def bt (x : Int32) (i : Nat) : Bool := x.toBitVec.getLsbD i
theorem b_ext {x y : Int32} (h : ∀ i, i < 32 → bt x i = bt y i) : x = y := Int32.toBitVec_inj.mp (BitVec.eq_of_getLsbD_eq (fun i hi => h i hi))
theorem b_or (x y : Int32) (i : Nat) : bt (x ||| y) i = (bt x i || bt y i) := by unfold bt; rw [Int32.toBitVec_or, BitVec.getLsbD_or]
theorem b_and (x y : Int32) (i : Nat) : bt (x &&& y) i = (bt x i && bt y i) := by unfold bt; rw [Int32.toBitVec_and, BitVec.getLsbD_and]
theorem b_xor (x y : Int32) (i : Nat) : bt (x ^^^ y) i = (bt x i ^^ bt y i) := by unfold bt; rw [Int32.toBitVec_xor, BitVec.getLsbD_xor]
theorem b_big {x : Int32} {i : Nat} (h : 32 ≤ i) : bt x i = false := BitVec.getLsbD_of_ge _ _ h
theorem b_255 (i : Nat) : bt 255 i = decide (i < 8) := by
  rcases Nat.lt_or_ge i 32 with h | h
  · exact (by decide +kernel : ∀ i, i < 32 → bt 255 i = decide (i < 8)) i h
  · rw [b_big h, decide_eq_false (by omega)]
theorem b_65535 (i : Nat) : bt 65535 i = decide (i < 16) := by
  rcases Nat.lt_or_ge i 32 with h | h
  · exact (by decide +kernel : ∀ i, i < 32 → bt 65535 i = decide (i < 16)) i h
  · rw [b_big h, decide_eq_false (by omega)]
theorem b_m1 : ∀ i, i < 32 → bt (-1) i = true := by decide +kernel
theorem b_0 (i : Nat) : bt 0 i = false := BitVec.getLsbD_zero
theorem s_l : ∀ n, n < 32 → ((nI n &&& 31).toBitVec.smod 32).toNat = n := by decide +kernel
theorem s_u : ∀ n, n < 32 → (((nI n).toUInt32 &&& Int32.toUInt32 31).toBitVec % 32).toNat = n := by decide +kernel
theorem b_shl (n : Nat) (hn : n < 32) (x : Int32) {i : Nat} (hi : i < 32) : bt (x <<< (nI n &&& 31)) i = (decide (n ≤ i) && bt x (i - n)) := by
  unfold bt
  rw [Int32.toBitVec_shiftLeft]
  show (x.toBitVec <<< ((nI n &&& 31).toBitVec.smod 32).toNat).getLsbD i = _
  rw [s_l n hn, BitVec.getLsbD_shiftLeft]
  rcases Nat.lt_or_ge i n with h | h
  · simp [h, Nat.not_le.mpr h]
  · simp [hi, h, Nat.not_lt.mpr h]
theorem b_ushr (n : Nat) (hn : n < 32) (x : Int32) (i : Nat) : bt ((x.toUInt32 >>> ((nI n).toUInt32 &&& Int32.toUInt32 31)).toInt32) i = bt x (n + i) := by
  show (x.toUInt32 >>> ((nI n).toUInt32 &&& Int32.toUInt32 31)).toBitVec.getLsbD i = x.toUInt32.toBitVec.getLsbD (n + i)
  rw [UInt32.toBitVec_shiftRight]
  show (x.toUInt32.toBitVec >>> (((nI n).toUInt32 &&& Int32.toUInt32 31).toBitVec % 32).toNat).getLsbD i = _
  rw [s_u n hn, BitVec.getLsbD_ushiftRight]
theorem b_sshr (n : Nat) (hn : n < 32) (x : Int32) {i : Nat} (hi : i < 32) : bt (x >>> (nI n &&& 31)) i = if n + i < 32 then bt x (n + i) else bt x 31 := by
  unfold bt
  rw [Int32.toBitVec_shiftRight]
  show (x.toBitVec.sshiftRight ((nI n &&& 31).toBitVec.smod 32).toNat).getLsbD i = _
  rw [s_l n hn, BitVec.getLsbD_sshiftRight, BitVec.msb_eq_getLsbD_last]
  simp [hi]
theorem b_shl8 (x : Int32) {i : Nat} (hi : i < 32) : bt (x <<< ((8 : Int32) &&& 31)) i = (decide (8 ≤ i) && bt x (i - 8)) := b_shl 8 (by omega) x hi
theorem b_shl16 (x : Int32) {i : Nat} (hi : i < 32) : bt (x <<< ((16 : Int32) &&& 31)) i = (decide (16 ≤ i) && bt x (i - 16)) := b_shl 16 (by omega) x hi
theorem b_shl24 (x : Int32) {i : Nat} (hi : i < 32) : bt (x <<< ((24 : Int32) &&& 31)) i = (decide (24 ≤ i) && bt x (i - 24)) := b_shl 24 (by omega) x hi
theorem b_sshr8 (x : Int32) {i : Nat} (hi : i < 32) : bt (x >>> ((8 : Int32) &&& 31)) i = if 8 + i < 32 then bt x (8 + i) else bt x 31 := b_sshr 8 (by omega) x hi
theorem nx_and (a b : Nat) : nI a &&& nI b = nI (a &&& b) := by
  apply Int32.toBitVec_inj.1
  show BitVec.ofNat 32 a &&& BitVec.ofNat 32 b = BitVec.ofNat 32 (a &&& b)
  apply BitVec.eq_of_getLsbD_eq
  intro i hi
  simp [hi]
end
section
/-! an int as a set of numbers below 24 -/
def msk (P : Nat → Bool) : Nat → Nat
  | 0 => 0
  | n + 1 => 2 * msk (fun i => P (i + 1)) n + (if P 0 = true then 1 else 0)
theorem msk_lt : ∀ (n : Nat) (P : Nat → Bool), msk P n < 2 ^ n
  | 0, _ => by show 0 < 1; omega
  | n + 1, P => by
    have h := msk_lt n (fun i => P (i + 1))
    have e : 2 ^ (n + 1) = 2 * 2 ^ n := by rw [Nat.pow_succ]; omega
    show 2 * msk (fun i => P (i + 1)) n + (if P 0 = true then 1 else 0) < _
    split <;> omega
theorem tb0 (a b : Nat) (hb : b < 2) : (2 * a + b).testBit 0 = decide (b = 1) := by
  rw [Nat.testBit_zero]
  have : (2 * a + b) % 2 = b := by omega
  rw [this]
theorem tbS (a b i : Nat) (hb : b < 2) : (2 * a + b).testBit (i + 1) = a.testBit i := by
  rw [Nat.testBit_succ]
  have : (2 * a + b) / 2 = a := by omega
  rw [this]
theorem msk_tb : ∀ (n : Nat) (P : Nat → Bool) (i : Nat), (msk P n).testBit i = (decide (i < n) && P i)
  | 0, P, i => by simp [msk]
  | n + 1, P, 0 => by
    show (2 * msk (fun i => P (i + 1)) n + (if P 0 = true then 1 else 0)).testBit 0 = _
    rw [tb0 _ _ (by split <;> omega)]
    cases P 0 <;> simp
  | n + 1, P, i + 1 => by
    show (2 * msk (fun i => P (i + 1)) n + (if P 0 = true then 1 else 0)).testBit (i + 1) = _
    rw [tbS _ _ _ (by split <;> omega), msk_tb n]
    simp
theorem msk_c {P Q : Nat → Bool} : ∀ {n : Nat}, (∀ i, i < n → P i = Q i) → msk P n = msk Q n := by
  intro n h
  apply Nat.eq_of_testBit_eq
  intro i
  rw [msk_tb, msk_tb]
  by_cases hi : i < n
  · rw [h i hi]
  · simp [hi]
theorem and2 (a b c d : Nat) (hb : b < 2) (hd : d < 2) : (2 * a + b) &&& (2 * c + d) = 2 * (a &&& c) + (if b = 1 ∧ d = 1 then 1 else 0) := by
  apply Nat.eq_of_testBit_eq
  intro i
  rw [Nat.testBit_and]
  cases i with
  | zero =>
    rw [tb0 _ _ hb, tb0 _ _ hd, tb0 _ _ (by split <;> omega)]
    by_cases h1 : b = 1 <;> by_cases h2 : d = 1 <;> simp [h1, h2]
  | succ i =>
    rw [tbS _ _ _ hb, tbS _ _ _ hd, tbS _ _ _ (by split <;> omega), Nat.testBit_and]
/-- the lowest one goes -/
theorem msk_dec : ∀ (n : Nat) (P : Nat → Bool), msk P n ≠ 0 → ∃ k, k < n ∧ P k = true ∧ msk P n &&& (msk P n - 1) = msk (fun i => P i && !decide (i = k)) n
  | 0, _, h => absurd rfl h
  | n + 1, P, h => by
    by_cases h0 : P 0 = true
    · refine ⟨0, Nat.succ_pos n, h0, ?_⟩
      have e1 : msk P (n + 1) = 2 * msk (fun i => P (i + 1)) n + 1 := by
        show _ + (if P 0 = true then 1 else 0) = _
        rw [if_pos h0]
      have e2 : msk P (n + 1) - 1 = 2 * msk (fun i => P (i + 1)) n + 0 := by omega
      rw [e2, e1, and2 _ _ _ _ (by omega) (by omega), Nat.and_self]
      show _ = 2 * msk (fun i => P (i + 1) && !decide (i + 1 = 0)) n + (if (P 0 && !decide (0 = 0)) = true then 1 else 0)
      rw [msk_c (P := fun i => P (i + 1) && !decide (i + 1 = 0)) (Q := fun i => P (i + 1)) (fun i _ => by simp)]
      simp
    · have e1 : msk P (n + 1) = 2 * msk (fun i => P (i + 1)) n + 0 := by
        show _ + (if P 0 = true then 1 else 0) = _
        rw [if_neg h0]
      have hz : msk (fun i => P (i + 1)) n ≠ 0 := fun z => h (by rw [e1, z])
      obtain ⟨k, k1, k2, k3⟩ := msk_dec n _ hz
      refine ⟨k + 1, by omega, k2, ?_⟩
      have e2 : msk P (n + 1) - 1 = 2 * (msk (fun i => P (i + 1)) n - 1) + 1 := by omega
      rw [e2, e1, and2 _ _ _ _ (by omega) (by omega), k3]
      show _ = 2 * msk (fun i => P (i + 1) && !decide (i + 1 = k + 1)) n + (if (P 0 && !decide (0 = k + 1)) = true then 1 else 0)
      rw [msk_c (P := fun i => P (i + 1) && !decide (i + 1 = k + 1)) (Q := fun i => P (i + 1) && !decide (i = k)) (fun i _ => by simp)]
      simp [h0]
theorem bt_nI (x i : Nat) : bt (nI x) i = (decide (i < 32) && x.testBit i) := by
  show (BitVec.ofNat 32 x).getLsbD i = _
  rw [BitVec.getLsbD_ofNat]
theorem bt_msk (P : Nat → Bool) (i : Nat) : bt (nI (msk P 24)) i = (decide (i < 24) && P i) := by
  rw [bt_nI, msk_tb]
  by_cases h : i < 24
  · have : i < 32 := by omega
    simp [h, this]
  · simp [h]
theorem mM_ex (P : Nat → Bool) : ∃ x : Int32, ∀ i, bt x i = (decide (i < 24) && P i) := ⟨nI (msk P 24), bt_msk P⟩
/-- by choice, so that nothing tries to reckon it out -/
noncomputable def mM (P : Nat → Bool) : Int32 := Classical.choose (mM_ex P)
theorem mM_bt (P : Nat → Bool) (i : Nat) : bt (mM P) i = (decide (i < 24) && P i) := Classical.choose_spec (mM_ex P) i
theorem mM_eq (P : Nat → Bool) : mM P = nI (msk P 24) := b_ext (fun i _ => by rw [mM_bt, bt_msk])
theorem mM_lt (P : Nat → Bool) : msk P 24 < 2 ^ 24 := msk_lt 24 P
theorem mM_c {P Q : Nat → Bool} (h : ∀ i, i < 24 → P i = Q i) : mM P = mM Q := by
  rw [mM_eq, mM_eq, msk_c h]
theorem mM_i {P Q : Nat → Bool} (h : mM P = mM Q) : ∀ i, i < 24 → P i = Q i := by
  intro i hi
  have h1 := congrArg (fun x => bt x i) h
  simp only [mM_bt] at h1
  simpa [hi] using h1
theorem mM_0 : nI 0 = mM (fun _ => false) := by
  apply b_ext
  intro i _
  rw [mM_bt]
  show bt 0 i = _
  rw [b_0]
  simp
theorem mM_0' : (fun _ : Nat => nI 0) = fun q9 => mM ((fun (_ _ : Nat) => false) q9) := funext fun _ => mM_0
theorem bt_1 : ∀ i, i < 32 → bt (nI 1) i = decide (i = 0) := by decide +kernel
theorem bt_bI (b : Bool) {i : Nat} (hi : i < 32) : bt (bI b) i = (decide (i = 0) && b) := by
  cases b
  · show bt 0 i = _
    rw [b_0]; simp
  · show bt (nI 1) i = _
    rw [bt_1 i hi]; simp
theorem mM_tst (P : Nat → Bool) {k : Nat} (hk : k < 24) : (mM P >>> (nI k &&& 31)) &&& nI 1 = bI (P k) := by
  apply b_ext
  intro i hi
  rw [b_and, b_sshr k (by omega) _ hi, bt_1 i hi, bt_bI _ hi]
  by_cases h : i = 0
  · subst h
    have : k + 0 < 32 := by omega
    rw [if_pos this, mM_bt]
    simp [hk]
  · simp [h]
def mOr (P Q : Nat → Bool) : Nat → Bool := fun i => P i || Q i
def mAnd (P Q : Nat → Bool) : Nat → Bool := fun i => P i && Q i
def mNd (P Q : Nat → Bool) : Nat → Bool := fun i => P i && !Q i
def sgl (k : Nat) (b : Bool) : Nat → Bool := fun i => decide (i = k) && b
theorem mM_or (P Q : Nat → Bool) : mM P ||| mM Q = mM (mOr P Q) := by
  apply b_ext
  intro i hi
  rw [b_or, mM_bt, mM_bt, mM_bt]
  by_cases h : i < 24 <;> simp [h, mOr]
theorem mM_and (P Q : Nat → Bool) : mM P &&& mM Q = mM (mAnd P Q) := by
  apply b_ext
  intro i hi
  rw [b_and, mM_bt, mM_bt, mM_bt]
  by_cases h : i < 24 <;> simp [h, mAnd]
theorem mM_nd (P Q : Nat → Bool) : mM P &&& (mM Q ^^^ (-1)) = mM (mNd P Q) := by
  apply b_ext
  intro i hi
  rw [b_and, b_xor, mM_bt, mM_bt, mM_bt, b_m1 i hi]
  by_cases h : i < 24 <;> simp [h, mNd]
theorem mM_or0 (P : Nat → Bool) : mM P ||| nI 0 = mM P := by
  rw [mM_0, mM_or]
  exact mM_c (fun i _ => by simp [mOr])
theorem mM_shl (b : Bool) {k : Nat} (hk : k < 24) : bI b <<< (nI k &&& 31) = mM (sgl k b) := by
  apply b_ext
  intro i hi
  rw [b_shl k (by omega) _ hi, mM_bt, bt_bI _ (by omega)]
  by_cases h : i = k
  · subst h; simp [sgl, hk]
  · by_cases h2 : k ≤ i
    · have : ¬ i - k = 0 := by omega
      simp [sgl, h, this]
    · simp [sgl, h, h2]
theorem mM_shl1 {k : Nat} (hk : k < 24) : nI 1 <<< (nI k &&& 31) = mM (sgl k true) := mM_shl true hk
theorem bI_or (a b : Bool) : bI a ||| bI b = bI (a || b) := by cases a <;> cases b <;> decide
theorem msk_z {P : Nat → Bool} {n : Nat} : msk P n = 0 ↔ any P n = false := by
  constructor
  · intro h
    refine any_no (fun k hk => ?_)
    have := msk_tb n P k
    rw [h, Nat.zero_testBit] at this
    simpa [hk] using this.symm
  · intro h
    apply Nat.eq_of_testBit_eq
    intro i
    rw [msk_tb, Nat.zero_testBit]
    by_cases hi : i < n
    · cases hp : P i with
      | false => simp
      | true => rw [any_hit hi hp] at h; cases h
    · simp [hi]
theorem mM_z {P : Nat → Bool} : mM P = 0 ↔ any P 24 = false := by
  have h24 := mM_lt P
  rw [← msk_z, mM_eq]
  exact nI_eq (by omega) (by omega) (b := 0)
theorem mM_dec {P : Nat → Bool} (h : any P 24 = true) : ∃ k, k < 24 ∧ P k = true ∧ mM P &&& (mM P - nI 1) = mM (fun i => P i && !decide (i = k)) := by
  have hz : msk P 24 ≠ 0 := fun z => by rw [msk_z.mp z] at h; cases h
  obtain ⟨k, k1, k2, k3⟩ := msk_dec 24 P hz
  refine ⟨k, k1, k2, ?_⟩
  rw [mM_eq, mM_eq, pk_sub (by omega), nx_and, k3]
theorem fct_del {P : Nat → Bool} {k : Nat} : ∀ {n : Nat}, k < n → P k = true → fct (fun i => P i && !decide (i = k)) n + 1 = fct P n
  | 0, h, _ => absurd h (Nat.not_lt_zero _)
  | n + 1, h, hp => by
    by_cases e : k = n
    · subst e
      have e1 : fct (fun i => P i && !decide (i = k)) k = fct P k := fct_congr (fun i hi => by
        have : ¬ i = k := by omega
        simp [this])
      rw [fct_t hp, fct_f (by simp), e1]
    · have ih := fct_del (n := n) (by omega) hp
      have e1 : (P n && !decide (n = k)) = P n := by
        have : ¬ n = k := fun z => e z.symm
        simp [this]
      show fct _ n + (if (P n && !decide (n = k)) = true then 1 else 0) + 1 = fct P n + (if P n = true then 1 else 0)
      rw [e1]
      omega
theorem fct_z {P : Nat → Bool} {n : Nat} (h : any P n = false) : fct P n = 0 := by
  induction n with
  | zero => rfl
  | succ n ih =>
    have h2 : (any P n || P n) = false := h
    rw [Bool.or_eq_false_iff] at h2
    rw [fct_f h2.2, ih h2.1]
theorem fct_pos {P : Nat → Bool} {n : Nat} : 0 < fct P n ↔ any P n = true := by
  induction n with
  | zero => exact ⟨fun h => absurd h (Nat.lt_irrefl _), fun h => by cases h⟩
  | succ n ih =>
    show 0 < fct P n + (if P n = true then 1 else 0) ↔ (any P n || P n) = true
    rw [Bool.or_eq_true, ← ih]
    cases P n <;> simp
section RWM
variable {p : Program} {l : Launch} {e : Env} {R : Room} {s : State} {m : MethodId} {args : Array Value} {below : List Frame} {meth : Method} {c : Code} {H : Heap} {locs : List Loc} {cells slots : Nat} {Q : State → Prop}
variable {cc : ByteArray} {pc : Nat} {ls : Array Slot} {rest st : List Value}
theorem r_if_eqM (hexec : p.tables.exec = Jvm.exec) (hb : c.code = cc) {P : Nat → Bool} {off : Int} {tgt : Nat} (hdg : decode cc pc = .ok (.ifCond .eq off, 3)) (ht : (pc : Int) + off = (tgt : Int))
    (kt : any P 24 = false → W p l e R s m args below meth c H locs cells slots Q (F0 m tgt ls rest)) (kf : any P 24 = true → W p l e R s m args below meth c H locs cells slots Q (F0 m (pc + 3) ls rest)) : W p l e R s m args below meth c H locs cells slots Q (F0 m pc ls (.int (mM P) :: rest)) :=
  lv_if_eq hexec hb hdg ht (fun h => kt (mM_z.mp h)) (fun h => kf (by
    cases q : any P 24 with
    | true => rfl
    | false => exact absurd (mM_z.mpr q) h))
theorem r_if_neM (hexec : p.tables.exec = Jvm.exec) (hb : c.code = cc) {P : Nat → Bool} {off : Int} {tgt : Nat} (hdg : decode cc pc = .ok (.ifCond .ne off, 3)) (ht : (pc : Int) + off = (tgt : Int))
    (kt : any P 24 = true → W p l e R s m args below meth c H locs cells slots Q (F0 m tgt ls rest)) (kf : any P 24 = false → W p l e R s m args below meth c H locs cells slots Q (F0 m (pc + 3) ls rest)) : W p l e R s m args below meth c H locs cells slots Q (F0 m pc ls (.int (mM P) :: rest)) :=
  lv_if_ne hexec hb hdg ht (fun h => kt (by
    cases q : any P 24 with
    | true => rfl
    | false => exact absurd (mM_z.mpr q) h)) (fun h => kf (mM_z.mp h))
theorem r_icmp_neB1 (hexec : p.tables.exec = Jvm.exec) (hb : c.code = cc) {x : Bool} {off : Int} {tgt : Nat} (hdg : decode cc pc = .ok (.if_icmp .ne off, 3)) (ht : (pc : Int) + off = (tgt : Int))
    (kt : x = false → W p l e R s m args below meth c H locs cells slots Q (F0 m tgt ls rest)) (kf : x = true → W p l e R s m args below meth c H locs cells slots Q (F0 m (pc + 3) ls rest)) : W p l e R s m args below meth c H locs cells slots Q (F0 m pc ls (.int (nI 1) :: .int (bI x) :: rest)) :=
  lv_icmp_ne hexec hb hdg ht (fun h => kt (by cases x with
    | false => rfl
    | true => exact absurd rfl h)) (fun h => kf (by cases x with
    | false => exact absurd h (by decide)
    | true => rfl))
theorem r_if_geP (hexec : p.tables.exec = Jvm.exec) (hb : c.code = cc) {x : Option Nat} (hx : ∀ j, x = some j → j < 2 ^ 31) {off : Int} {tgt : Nat} (hdg : decode cc pc = .ok (.ifCond .ge off, 3)) (ht : (pc : Int) + off = (tgt : Int))
    (kt : ∀ j, x = some j → W p l e R s m args below meth c H locs cells slots Q (F0 m tgt ls rest)) (kf : x = none → W p l e R s m args below meth c H locs cells slots Q (F0 m (pc + 3) ls rest)) : W p l e R s m args below meth c H locs cells slots Q (F0 m pc ls (.int (eP x) :: rest)) := by
  cases x with
  | none => exact lv_if_ge hexec hb hdg ht (fun h => absurd h (by decide)) (fun _ => kf rfl)
  | some j => exact lv_if_ge hexec hb hdg ht (fun _ => kt j rfl) (fun h => absurd (nI_pos' (hx j rfl)) h)
theorem r_icmp_nePP (hexec : p.tables.exec = Jvm.exec) (hb : c.code = cc) {x y : Option Nat} (hx : ∀ j, x = some j → j < 2 ^ 31) (hy : ∀ j, y = some j → j < 2 ^ 31) {off : Int} {tgt : Nat} (hdg : decode cc pc = .ok (.if_icmp .ne off, 3)) (ht : (pc : Int) + off = (tgt : Int))
    (kt : ¬ x = y → W p l e R s m args below meth c H locs cells slots Q (F0 m tgt ls rest)) (kf : x = y → W p l e R s m args below meth c H locs cells slots Q (F0 m (pc + 3) ls rest)) : W p l e R s m args below meth c H locs cells slots Q (F0 m pc ls (.int (eP y) :: .int (eP x) :: rest)) :=
  lv_icmp_ne hexec hb hdg ht (fun h => kt (fun z => h ((eP_inj hx hy).mpr z))) (fun h => kf ((eP_inj hx hy).mp h))
theorem r_if_gtN (hexec : p.tables.exec = Jvm.exec) (hb : c.code = cc) {x : Nat} (hx : x < 2 ^ 31) {off : Int} {tgt : Nat} (hdg : decode cc pc = .ok (.ifCond .gt off, 3)) (ht : (pc : Int) + off = (tgt : Int))
    (kt : 0 < x → W p l e R s m args below meth c H locs cells slots Q (F0 m tgt ls rest)) (kf : x = 0 → W p l e R s m args below meth c H locs cells slots Q (F0 m (pc + 3) ls rest)) : W p l e R s m args below meth c H locs cells slots Q (F0 m pc ls (.int (nI x) :: rest)) :=
  lv_if_gt hexec hb hdg ht (fun h => kt ((nI_ltI (by omega) hx (a := 0)).mp h)) (fun h => kf (by
    rcases Nat.eq_zero_or_pos x with q | q
    · exact q
    · exact absurd ((nI_ltI (by omega) hx (a := 0)).mpr q) h))
theorem r_if_eqN (hexec : p.tables.exec = Jvm.exec) (hb : c.code = cc) {x : Nat} (hx : x < 2 ^ 31) {off : Int} {tgt : Nat} (hdg : decode cc pc = .ok (.ifCond .eq off, 3)) (ht : (pc : Int) + off = (tgt : Int))
    (kt : x = 0 → W p l e R s m args below meth c H locs cells slots Q (F0 m tgt ls rest)) (kf : 0 < x → W p l e R s m args below meth c H locs cells slots Q (F0 m (pc + 3) ls rest)) : W p l e R s m args below meth c H locs cells slots Q (F0 m pc ls (.int (nI x) :: rest)) :=
  lv_if_eq hexec hb hdg ht (fun h => kt ((nI_eq hx (by omega) (b := 0)).mp h)) (fun h => kf (by
    rcases Nat.eq_zero_or_pos x with q | q
    · exact absurd (by rw [q]; rfl) h
    · exact q))
end RWM
end
section
/-! the law's arrays, and what its own methods reckon -/
noncomputable def tF (S : Nat → Nat → Bool) (dp sq : Nat → Nat) : Nat → Int32 := fun j => if j < 4 then mM (S j) else if j < 8 then nI (dp (j - 4)) else nI (sq (j - 8))
def m0 (n : Nat) : Nat → Nat := fun j => if j = 0 then n else 0
abbrev wAN (ct : Nat → ClassId) (b n : Nat) (f : Nat → Nat) : va_W := [(b, .inl (ct 0, n, .inl (fun k => nI (f k))))]
abbrev wAP (ct : Nat → ClassId) (b n : Nat) (f : Nat → Option Nat) : va_W := [(b, .inl (ct 0, n, .inl (fun k => eP (f k))))]
noncomputable abbrev wAM (ct : Nat → ClassId) (b n : Nat) (f : Nat → Nat → Bool) : va_W := [(b, .inl (ct 0, n, .inl (fun k => mM (f k))))]
noncomputable abbrev wAT (ct : Nat → ClassId) (b : Nat) (S : Nat → Nat → Bool) (dp sq : Nat → Nat) : va_W := [(b, .inl (ct 0, 11, .inl (tF S dp sq)))]
abbrev wA1 (ct : Nat → ClassId) (b n : Nat) : va_W := [(b, .inl (ct 0, 1, .inl (fun j => nI (m0 n j))))]
theorem up_m (f : Nat → Nat → Bool) (j : Nat) (P : Nat → Bool) : upd (fun k => mM (f k)) j (mM P) = fun k => mM (va_up f j P k) := by
  funext k
  by_cases h : k = j
  · subst h; rw [pk_us, up_s]
  · rw [pk_un h, up_o _ _ _ h]
theorem m0_up (n x : Nat) : upd (fun j => nI (m0 n j)) 0 (nI x) = fun j9 => nI (m0 x j9) := by
  funext k
  by_cases h : k = 0
  · subst h; rw [pk_us]; rfl
  · rw [pk_un h]; simp [m0, h]
section TF
variable {S : Nat → Nat → Bool} {dp sq : Nat → Nat} {i x : Nat} {P : Nat → Bool}
theorem tF_S (h : i < 4) : tF S dp sq i = mM (S i) := if_pos h
theorem tF_d (h : i < 4) : tF S dp sq (4 + i) = nI (dp i) := by
  have h1 : ¬ 4 + i < 4 := by omega
  have h2 : 4 + i < 8 := by omega
  unfold tF
  rw [if_neg h1, if_pos h2, show 4 + i - 4 = i by omega]
theorem tF_s : tF S dp sq (8 + i) = nI (sq i) := by
  have h1 : ¬ 8 + i < 4 := by omega
  have h2 : ¬ 8 + i < 8 := by omega
  unfold tF
  rw [if_neg h1, if_neg h2, show 8 + i - 8 = i by omega]
theorem tU_S (h : i < 4) : upd (tF S dp sq) i (mM P) = tF (va_up S i P) dp sq := by
  funext k
  by_cases e : k = i
  · subst e; rw [pk_us, tF_S h, up_s]
  · rw [pk_un e]
    unfold tF
    rw [up_o _ _ _ e]
theorem tU_0 (h : i < 4) : upd (tF S dp sq) i (nI 0) = tF (va_up S i (fun _ => false)) dp sq := by
  rw [mM_0]
  exact tU_S h
theorem tU_d (h : i < 4) : upd (tF S dp sq) (4 + i) (nI x) = tF S (va_up dp i x) sq := by
  funext k
  by_cases e : k = 4 + i
  · subst e; rw [pk_us, tF_d h, up_s]
  · rw [pk_un e]
    unfold tF
    by_cases h1 : k < 4
    · rw [if_pos h1, if_pos h1]
    · by_cases h2 : k < 8
      · rw [if_neg h1, if_neg h1, if_pos h2, if_pos h2, up_o _ _ _ (by omega)]
      · rw [if_neg h1, if_neg h1, if_neg h2, if_neg h2]
theorem tU_s : upd (tF S dp sq) (8 + i) (nI x) = tF S dp (va_up sq i x) := by
  funext k
  by_cases e : k = 8 + i
  · subst e; rw [pk_us, tF_s, up_s]
  · rw [pk_un e]
    unfold tF
    by_cases h1 : k < 4
    · rw [if_pos h1, if_pos h1]
    · by_cases h2 : k < 8
      · rw [if_neg h1, if_neg h1, if_pos h2, if_pos h2]
      · rw [if_neg h1, if_neg h1, if_neg h2, if_neg h2, up_o _ _ _ (by omega)]
end TF
theorem up_up {α : Type} (f : Nat → α) (i : Nat) (x y : α) : va_up (va_up f i x) i y = va_up f i y := by
  funext q
  by_cases h : q = i
  · subst h; rw [up_s, up_s]
  · rw [up_o _ _ _ h, up_o _ _ _ h, up_o _ _ _ h]
/-- leaves -/
def blw (an : Nat → Nat → Bool) (k j : Nat) : Nat → Bool := fun i => decide (k < i) && (decide (i < j) && an i k)
def lfB (dc : Nat → Nat) (an : Nat → Nat → Bool) (n : Nat) (S : Nat → Bool) (d k : Nat) : Bool := decide (k < n) && (S k && (decide (dc k = d) && !any (fun j => decide (k < j) && (an j k && S j)) n))
def lfU (dc : Nat → Nat) (an : Nat → Nat → Bool) (n : Nat) (S : Nat → Bool) (d r : Nat) : Nat → Bool := fun i => decide (r ≤ i) && lfB dc an n S d i
section LF
variable {dc : Nat → Nat} {an : Nat → Nat → Bool} {n : Nat} {S : Nat → Bool} {d k j : Nat}
theorem blw_0 : nI 0 = mM (blw an k (k + 1)) := by
  rw [mM_0]
  refine mM_c (fun i _ => ?_)
  by_cases h : k < i
  · have : ¬ i < k + 1 := by omega
    simp [blw, this]
  · simp [blw, h]
theorem blw_s (h : k < j) : mM (mOr (blw an k j) (sgl j (an j k))) = mM (blw an k (j + 1)) := by
  refine mM_c (fun i _ => ?_)
  by_cases e : i = j
  · subst e; simp [blw, mOr, sgl, h]
  · by_cases h2 : i < j
    · have : i < j + 1 := by omega
      simp [blw, mOr, sgl, e, h2, this]
    · have : ¬ i < j + 1 := by omega
      simp [blw, mOr, sgl, e, h2, this]
theorem lfU_0 : nI 0 = mM (lfU dc an n S d n) := by
  rw [mM_0]
  refine mM_c (fun i _ => ?_)
  by_cases h : n ≤ i
  · have : ¬ i < n := by omega
    simp [lfU, lfB, this]
  · simp [lfU, h]
theorem any_ext {P Q : Nat → Bool} {a b : Nat} (h : (∃ k, k < a ∧ P k = true) ↔ ∃ k, k < b ∧ Q k = true) : any P a = any Q b := by
  have e : any P a = true ↔ any Q b = true := by rw [any_iff, any_iff]; exact h
  cases h1 : any P a <;> cases h2 : any Q b <;> simp_all
theorem lfB_eq (hn : n ≤ 24) (hk : k < n) (hj : j = n) : lfB dc an n S d k = (S k && (decide (dc k = d) && !any (mAnd (blw an k j) S) 24)) := by
  subst hj
  have e : any (fun q => decide (k < q) && (an q k && S q)) j = any (mAnd (blw an k j) S) 24 := by
    refine any_ext ⟨fun ⟨q, q1, q2⟩ => ⟨q, by omega, ?_⟩, fun ⟨q, q1, q2⟩ => ?_⟩
    · simp only [Bool.and_eq_true, decide_eq_true_eq] at q2
      simp [mAnd, blw, q1, q2]
    · simp only [mAnd, blw, Bool.and_eq_true, decide_eq_true_eq] at q2
      exact ⟨q, q2.1.2.1, by simp [q2]⟩
  unfold lfB
  rw [e]
  simp [hk]
theorem lfU_t (h : lfB dc an n S d k = true) : mM (mOr (lfU dc an n S d (k + 1)) (sgl k true)) = mM (lfU dc an n S d k) := by
  refine mM_c (fun i _ => ?_)
  by_cases e : i = k
  · subst e; simp [lfU, mOr, sgl, h]
  · by_cases h2 : k ≤ i
    · have : k + 1 ≤ i := by omega
      simp [lfU, mOr, sgl, e, h2, this]
    · have : ¬ k + 1 ≤ i := by omega
      simp [lfU, mOr, sgl, e, h2, this]
theorem lfU_f (h : lfB dc an n S d k = false) : mM (lfU dc an n S d (k + 1)) = mM (lfU dc an n S d k) := by
  refine mM_c (fun i _ => ?_)
  by_cases e : i = k
  · subst e; simp [lfU, h]
  · by_cases h2 : k ≤ i
    · have : k + 1 ≤ i := by omega
      simp [lfU, h2, this]
    · have : ¬ k + 1 ≤ i := by omega
      simp [lfU, h2, this]
theorem lfU_n : mM (lfU dc an n S d 0) = mM (lfB dc an n S d) := mM_c (fun i _ => by simp [lfU])
end LF
def rk (vo : Nat → Option Nat) (ge un : Nat → Nat) (k : Nat) : Nat := (((match vo k with
  | none => 0
  | some _ => 64) + ge k) * 1000) + un k
theorem rk_b {vo : Nat → Option Nat} {ge un : Nat → Nat} (hg : ∀ k, ge k ≤ 150) (hu : ∀ k, un k < 997) (k : Nat) : rk vo ge un k < 1000000 := by
  have h1 := hg k
  have h2 := hu k
  unfold rk
  split <;> omega
def wnS (L : Nat → Bool) (r : Nat → Nat) : Nat → Option Nat
  | 0 => none
  | k + 1 => if L k = true then (match wnS L r k with
    | none => some k
    | some b => if r b < r k then some k else some b) else wnS L r k
theorem wnS_lt {L : Nat → Bool} {r : Nat → Nat} : ∀ {k j : Nat}, wnS L r k = some j → j < k ∧ L j = true
  | 0, j, h => by cases h
  | k + 1, j, h => by
    simp only [wnS] at h
    split at h
    · rename_i hL
      cases hw : wnS L r k with
      | none => rw [hw] at h; cases h; exact ⟨Nat.lt_succ_self _, hL⟩
      | some b =>
        rw [hw] at h
        have := wnS_lt hw
        simp only at h
        split at h
        · cases h; exact ⟨Nat.lt_succ_self _, hL⟩
        · cases h; exact ⟨by omega, this.2⟩
    · have := wnS_lt h
      exact ⟨by omega, this.2⟩
/-- what goes by the depth -/
def dlw (dc : Nat → Nat) (an : Nat → Nat → Bool) (n : Nat) (S : Nat → Bool) (k j : Nat) : Bool := lfB dc an n S (dc k) j && an j k
def dnr (dc : Nat → Nat) (an : Nat → Nat → Bool) (ge : Nat → Nat) (n : Nat) (S : Nat → Bool) (dp k j : Nat) : Bool := dlw dc an n S k j && decide (ge j < ge k + dp)
def dpB (dc : Nat → Nat) (an : Nat → Nat → Bool) (ge : Nat → Nat) (n : Nat) (S : Nat → Bool) (dp k : Nat) : Bool := decide (k < n) && (S k && (any (dlw dc an n S k) n && !any (dnr dc an ge n S dp k) n))
def dpU (dc : Nat → Nat) (an : Nat → Nat → Bool) (ge : Nat → Nat) (n : Nat) (S : Nat → Bool) (dp r : Nat) : Nat → Bool := fun i => decide (i < r) && dpB dc an ge n S dp i
section DP
variable {dc : Nat → Nat} {an : Nat → Nat → Bool} {ge : Nat → Nat} {n : Nat} {S : Nat → Bool} {dp k j : Nat}
theorem gd_iff (h1 : ge j ≤ 150) (h2 : ge k ≤ 150) (h3 : dp ≤ 1000) : nI dp ≤ nI (ge j) - nI (ge k) ↔ ge k + dp ≤ ge j := by
  rw [Int32.le_iff_toInt_le, pk_sub_toInt (by omega) (by omega), nI_toInt (by omega)]
  omega
theorem any_fct {P : Nat → Bool} {n : Nat} : any P n = decide (0 < fct P n) := by
  have := fct_pos (P := P) (n := n)
  cases h : any P n <;> simp_all
theorem dpB_eq (hk : k < n) (hj : j = n) : dpB dc an ge n S dp k = (S k && (decide (0 < fct (dlw dc an n S k) j) && decide (fct (dnr dc an ge n S dp k) j = 0))) := by
  subst hj
  unfold dpB
  rw [any_fct, any_fct]
  have e : (!decide (0 < fct (dnr dc an ge j S dp k) j)) = decide (fct (dnr dc an ge j S dp k) j = 0) := by
    by_cases h : fct (dnr dc an ge j S dp k) j = 0
    · simp [h]
    · have : 0 < fct (dnr dc an ge j S dp k) j := by omega
      simp [h, this]
  rw [e]
  simp [hk]
theorem dpU_0 : nI 0 = mM (dpU dc an ge n S dp 0) := by
  rw [mM_0]
  exact mM_c (fun i _ => by simp [dpU])
theorem dpU_t (h : dpB dc an ge n S dp k = true) : mM (mOr (dpU dc an ge n S dp k) (sgl k true)) = mM (dpU dc an ge n S dp (k + 1)) := by
  refine mM_c (fun i _ => ?_)
  by_cases e : i = k
  · subst e; simp [dpU, mOr, sgl, h]
  · by_cases h2 : i < k
    · have : i < k + 1 := by omega
      simp [dpU, mOr, sgl, e, h2, this]
    · have : ¬ i < k + 1 := by omega
      simp [dpU, mOr, sgl, e, h2, this]
theorem dpU_f (h : dpB dc an ge n S dp k = false) : mM (dpU dc an ge n S dp k) = mM (dpU dc an ge n S dp (k + 1)) := by
  refine mM_c (fun i _ => ?_)
  by_cases e : i = k
  · subst e; simp [dpU, h]
  · by_cases h2 : i < k
    · have : i < k + 1 := by omega
      simp [dpU, h2, this]
    · have : ¬ i < k + 1 := by omega
      simp [dpU, h2, this]
theorem dpU_n : mM (dpU dc an ge n S dp n) = mM (dpB dc an ge n S dp) := by
  refine mM_c (fun i _ => ?_)
  by_cases h : i < n
  · simp [dpU, h]
  · simp [dpU, dpB, h]
end DP
/-- making a revision -/
def mkP (dc : Nat → Nat) (vo pa : Nat → Option Nat) (d : Nat) (o v : Option Nat) (k : Nat) : Bool := decide (dc k = d) && (decide (pa k = o) && decide (vo k = v))
def mka (an : Nat → Nat → Bool) (o : Option Nat) : Nat → Bool := match o with
  | none => fun _ => false
  | some j => mOr (an j) (sgl j true)
theorem mka_n {an : Nat → Nat → Bool} {o : Option Nat} (h : o = none) : nI 0 = mM (mka an o) := by subst h; exact mM_0
theorem mka_s {an : Nat → Nat → Bool} {o : Option Nat} {j : Nat} (h : o = some j) : mM (mOr (an j) (sgl j true)) = mM (mka an o) := by subst h; rfl
def mku (un : Nat → Nat) (g : Nat) (o v : Option Nat) : Nat := (((match o with
  | none => 31
  | some j => 31 * un j) + (match v with
  | none => 3
  | some x => 7 * x)) + g) % 997
theorem mkg_b {ge : Nat → Nat} (h : ∀ k, ge k ≤ 150) (o : Option Nat) : mkg ge o ≤ 151 := by
  cases o with
  | none => show 1 ≤ 151; omega
  | some j => have := h j; show ge j + 1 ≤ 151; omega
def stN (cc : Nat → Nat) (f t : Nat) : Nat := min (cc (((9 * f) + (3 * f)) + t)) (cc (((9 * t) + (3 * f)) + t))
/-- what comes over -/
def gis (dc : Nat → Nat) (an : Nat → Nat → Bool) (n : Nat) (Sf St : Nat → Bool) (d k : Nat) : Bool := lfB dc an n Sf d k && (!St k && !any (fun j => St j && an j k) n)
def gcm (dc : Nat → Nat) (an : Nat → Nat → Bool) (n : Nat) (Sf St : Nat → Bool) (d r : Nat) : Nat → Bool := fun i => any (fun q => gis dc an n Sf St d q && mNd (mAnd (mOr (sgl q true) (an q)) Sf) St i) r
section GC
variable {dc : Nat → Nat} {an : Nat → Nat → Bool} {n : Nat} {Sf St : Nat → Bool} {d k : Nat}
theorem gcm_0 : nI 0 = mM (gcm dc an n Sf St d 0) := by
  rw [mM_0]
  exact mM_c (fun i _ => rfl)
theorem gcm_t (h : gis dc an n Sf St d k = true) : mM (mOr (gcm dc an n Sf St d k) (mNd (mAnd (mOr (sgl k true) (an k)) Sf) St)) = mM (gcm dc an n Sf St d (k + 1)) := by
  refine mM_c (fun i _ => ?_)
  show (gcm dc an n Sf St d k i || _) = (gcm dc an n Sf St d k i || (gis dc an n Sf St d k && _))
  rw [h, Bool.true_and]
theorem gcm_f (h : gis dc an n Sf St d k = false) : mM (gcm dc an n Sf St d k) = mM (gcm dc an n Sf St d (k + 1)) := by
  refine mM_c (fun i _ => ?_)
  show gcm dc an n Sf St d k i = (gcm dc an n Sf St d k i || (gis dc an n Sf St d k && _))
  rw [h, Bool.false_and, Bool.or_false]
end GC
/-- replication: S, sequences, the documents' sequences, how many came, how many documents went, reached -/
abbrev RP : Type := (Nat → Nat → Bool) × (Nat → Nat) × (Nat → Nat) × Nat × Nat × Nat
def rpD (dc : Nat → Nat) (an : Nat → Nat → Bool) (ge : Nat → Nat) (n : Nat) (dp : Nat → Nat) (i j q d : Nat) (x : RP) : RP :=
  (va_up x.1 j (mNd (mOr (x.1 j) (gcm dc an n (x.1 i) (x.1 j) d n)) (dpB dc an ge n (mOr (x.1 j) (gcm dc an n (x.1 i) (x.1 j) d n)) (dp j))), va_up x.2.1 j (x.2.1 j + bN (any (gcm dc an n (x.1 i) (x.1 j) d n) 24)),
    va_up x.2.2.1 ((4 * j) + d) (if any (gcm dc an n (x.1 i) (x.1 j) d n) 24 = true then x.2.1 j + bN (any (gcm dc an n (x.1 i) (x.1 j) d n) 24) else x.2.2.1 ((4 * j) + d)), x.2.2.2.1 + fct (gcm dc an n (x.1 i) (x.1 j) d n) 24, x.2.2.2.2.1 + 1, q)
def riS (dc : Nat → Nat) (an : Nat → Nat → Bool) (ge : Nat → Nat) (n : Nat) (dp : Nat → Nat) (i j q : Nat) (x : RP) : Nat → RP
  | 0 => x
  | k + 1 => if (riS dc an ge n dp i j q x k).2.2.1 ((4 * i) + k) = q then rpD dc an ge n dp i j q k (riS dc an ge n dp i j q x k) else riS dc an ge n dp i j q x k
def roS (dc : Nat → Nat) (an : Nat → Nat → Bool) (ge : Nat → Nat) (n : Nat) (dp : Nat → Nat) (i j lim : Nat) : Nat → Nat → RP → RP
  | 0, _, x => x
  | f + 1, q, x => if x.2.2.2.2.1 < lim then roS dc an ge n dp i j lim f (q + 1) (riS dc an ge n dp i j q x 4) else x
def rlf (i : Nat) (x : RP) (k : Nat) : Bool := decide (x.2.2.2.2.2 < x.2.2.1 ((4 * i) + k))
def rpA (i : Nat) (x : RP) : Nat := if fct (rlf i x) 4 = 0 then x.2.1 i else x.2.2.2.2.2
section RPS
variable {dc : Nat → Nat} {an : Nat → Nat → Bool} {ge : Nat → Nat} {n : Nat} {dp : Nat → Nat} {i j q lim : Nat} {x : RP} {k f : Nat}
theorem riS_t (h : (riS dc an ge n dp i j q x k).2.2.1 ((4 * i) + k) = q) : riS dc an ge n dp i j q x (k + 1) = rpD dc an ge n dp i j q k (riS dc an ge n dp i j q x k) := if_pos h
theorem riS_f (h : ¬ (riS dc an ge n dp i j q x k).2.2.1 ((4 * i) + k) = q) : riS dc an ge n dp i j q x (k + 1) = riS dc an ge n dp i j q x k := if_neg h
theorem roS_l (h : lim ≤ x.2.2.2.2.1) : roS dc an ge n dp i j lim f q x = x := by
  cases f with
  | zero => rfl
  | succ f => exact if_neg (Nat.not_lt.mpr h)
theorem roS_s {g : Nat} (hf : f = g + 1) (h : x.2.2.2.2.1 < lim) : roS dc an ge n dp i j lim f q x = roS dc an ge n dp i j lim g (q + 1) (riS dc an ge n dp i j q x 4) := by
  subst hf
  exact if_pos h
/-- what stays: the source's own, and bounds -/
def RI (i : Nat) (sq qq : Nat → Nat) (x : RP) : Prop := x.2.1 i = sq i ∧ (∀ k, k < 4 → x.2.2.1 ((4 * i) + k) = qq ((4 * i) + k)) ∧ x.2.2.2.2.2 ≤ 1000000
theorem RI_riS {sq qq : Nat → Nat} (hij : i ≠ j) (hq : q ≤ 1000000) (h : RI i sq qq x) : ∀ k, k ≤ 4 → RI i sq qq (riS dc an ge n dp i j q x k) ∧ (riS dc an ge n dp i j q x k).2.2.2.2.1 ≤ x.2.2.2.2.1 + k
  | 0, _ => ⟨h, Nat.le_refl _⟩
  | k + 1, hk => by
    obtain ⟨⟨h1, h2, h3⟩, h4⟩ := RI_riS hij hq h k (by omega)
    by_cases e : (riS dc an ge n dp i j q x k).2.2.1 ((4 * i) + k) = q
    · rw [riS_t e]
      refine ⟨⟨?_, fun z hz => ?_, hq⟩, ?_⟩
      · show va_up _ j _ i = _
        rw [up_o _ _ _ hij]
        exact h1
      · show va_up _ ((4 * j) + k) _ ((4 * i) + z) = _
        rw [up_o _ _ _ (by omega)]
        exact h2 z hz
      · show _ + 1 ≤ _
        omega
    · rw [riS_f e]
      exact ⟨⟨h1, h2, h3⟩, by omega⟩
end RPS
section WCALLS
variable {p : Program} {l : Launch} {e : Env} {R : Room} {s : State} {m : MethodId} {args : Array Value} {below : List Frame} {meth : Method} {c : Code} {H H0 : Heap} {locs : List Loc} {cells slots : Nat} {Q : State → Prop} {A : Nat → Prop}
variable {cc : ByteArray} {pc : Nat} {ls : Array Slot} {rest st : List Value} {D : va_G} {ct : Nat → ClassId} {wc wf w1 : va_W} {Ts ws : List Cond} {own C : String} {index maxL n nL : Nat} {y : MethodName} {bytes : ByteArray} {ret : Option FieldType} {rm : Room} {As : List Value} {b : Nat} {v : Int32}
theorem r_wSi (S : CallFix p m c cc nL s args Ts own) (hM : Met l y ws rm (wrPc D ct As wc H.size) (wqI D v w1 (va_A wc H.size)) 0 0 (va_A wc H.size)) (cw : CallB R s args own index y bytes maxL ret ws rm 0 0 n ∧ (Cond.static y).before args s = true) (hK : KK D ct s) (hP : va_P D vwCl wf H) (hD : va_D A wf) (hS : va_S A H0 H locs) (hA : ∀ q, H0.size ≤ q → A q) (ps : List Nat) (hC : ps.map (fun i => wf[i]?) = wc.map some) (hnd : va_nd ps = true) (had : w1.map Prod.fst = wc.map Prod.fst)
    (hn : As.length = n) (hsize : ls.size = nL) (hstack : st = As.reverse ++ rest) (hW : (rest.map fun v => v.category).sum ≤ 8) (hdg : decode cc pc = .ok (.invokestatic index, 3)) (hf : cells + 0 ≤ R.cells ∧ slots + 0 ≤ R.slots)
    (kk : ∀ (H1 : Heap) (locs1 : List Loc), va_P D vwCl (jn wf ps w1) H1 → va_D A (jn wf ps w1) → va_S A H0 H1 locs1 → W p l e R s m args below meth c H1 locs1 cells slots Q (F0 m (pc + 3) ls (.int v :: rest))) : W p l e R s m args below meth c H locs cells slots Q (F0 m pc ls st) := by
  have hPc : va_P D vwCl wc H := fun k q hk => by
    have h1 : (ps.map (fun i => wf[i]?))[k]? = some (some q) := by rw [hC, List.getElem?_map, hk]; rfl
    rw [List.getElem?_map] at h1
    cases hi : ps[k]? with
    | none => rw [hi] at h1; cases h1
    | some i => rw [hi] at h1; exact hP i q (Option.some.inj h1)
  have hDc : va_D A wc := hD.sub ps hnd hC
  have hF := va_free hD hS hA ps hC
  exact va_calli (va_runS (g := F0 m pc ls st) S hM cw ⟨wr_blind, wr_pre hK hPc hDc⟩ rfl hn hsize hstack (lv_room hW) hdg hf) hS (fun q _ h => hF q h) hF (fun r u t H1 locs1 ht hvm hw hB hz hk hS1 => by
    rw [hw]
    rw [ht] at hB
    obtain ⟨g1, g2⟩ := jn_ok hP hD ps hC hnd had hk hB
    exact kk H1 locs1 g1 g2 hS1)
end WCALLS
end
section
set_option maxHeartbeats 1000000 in
set_option maxRecDepth 100000 in
theorem cL_leaves_ok (l : Launch) (D : va_G) (ct : Nat → ClassId) (bd : Nat) (ba : Nat) (bm : Nat) (dc : Nat → Nat) (an : Nat → Nat → Bool) (n : Nat) (S : Nat → Bool) (d : Nat) (hn : n ≤ 24) (hTd : ∀ k, dc k < 4) (hd4 : d < 4) : Met l yL_leaves wsL_leaves ({ frames := 0, cells := 0, slots := 0, locals := 0 } : Room) (roPc D ct [.ref bd, .ref ba, .ref bm, .int (mM S), .int (nI d)] (wAN ct bd 24 dc ++ wAM ct ba 24 an ++ wA1 ct bm n)) (rqI (mM (lfB dc an n S d))) 0 0 (fun _ => False) := by
  refine Met.ofW (cc := cL_leaves) (maxL := 9) (ret := (some .int)) (by decide) rfl ?_
  intro p e s m args below meth c s₁ B hml hv
  obtain ⟨rfl, hP, hK⟩ := hv
  have hx := B.exec
  have hb := B.bytes
  have hr := B.returns
  have hts := atoms_spec (ws := wsL_leaves) B.pre
  have hown : s.vm.findClass RL = some m.cls := findClass_of_methodNamed B.named
  have hlocks := B.notSynchronized
  have hl := lv_entry ([.ref bd, .ref ba, .ref bm, .int (mM S), .int (nI d)]) (n := 9) (Nat.le_of_ble_eq_true rfl)
  rw [lg_entry_eq]
  generalize (lg_sl ([.ref bd, .ref ba, .ref bm, .int (mM S), .int (nI d)]) ++ List.replicate (9 - (lg_sl ([.ref bd, .ref ba, .ref bm, .int (mM S), .int (nI d)])).length) Slot.unset).toArray = ls at hl ⊢
  have hl : lv_has ls 9 [(0, .ref bd), (1, .ref ba), (2, .ref bm), (3, .int (mM S)), (4, .int (nI d))] := hl
  refine lv_iconst (v := nI 0) hx hb dL_leaves_0 (by decide) ?_
  refine lv_istore (lv' := [(5, .int (nI 0)), (0, .ref bd), (1, .ref ba), (2, .ref bm), (3, .int (mM S)), (4, .int (nI d))]) hx hb dL_leaves_1 hl (by decide) rfl (fun ls hl => ?_)
  refine lv_aload_n hx hb dL_leaves_3 rfl (lv_at hl 3 rfl) ?_
  refine lv_iconst (v := nI 0) hx hb dL_leaves_4 (by decide) ?_
  refine r_iald (j := 0) (v := nI n) hx hb hK.1 hP 2 0 rfl rfl (by omega) (by first | decide | omega) rfl dL_leaves_5 ?_
  refine lv_iconst (v := nI 1) hx hb dL_leaves_6 (by decide) ?_
  refine lv_isub hx hb dL_leaves_7 ?_
  refine r_top (y := eP (prd n)) (nI_prd2 _) ?_
  refine lv_istore (lv' := [(6, .int (eP (prd n))), (5, .int (nI 0)), (0, .ref bd), (1, .ref ba), (2, .ref bm), (3, .int (mM S)), (4, .int (nI d))]) hx hb dL_leaves_8 hl (by decide) rfl (fun ls hl => ?_)
  have key10 : ∀ (d10 : Nat) (r : Nat) (hrn : r ≤ n), r < d10 → ∀  (ls : Array Slot), lv_has ls 9 [(6, .int (eP (prd r))), (5, .int (mM (lfU dc an n S d r))), (0, .ref bd), (1, .ref ba), (2, .ref bm), (3, .int (mM S)), (4, .int (nI d))] → W p l e ({ frames := 0, cells := 0, slots := 0, locals := 0 } : Room) s m ([.ref bd, .ref ba, .ref bm, .int (mM S), .int (nI d)] : List Value).toArray below meth c s.heap [] 0 0 (MQ below (rqI (mM (lfB dc an n S d))) ([.ref bd, .ref ba, .ref bm, .int (mM S), .int (nI d)] : List Value).toArray s 0 0 (fun _ => False)) (F0 m 10 ls []) := by
    intro d10
    induction d10 with
    | zero => intro r hrn h9; exact absurd h9 (Nat.not_lt_zero _)
    | succ d10 ih10 =>
      intro r hrn hm10  ls  hl
      refine lv_iload hx hb dL_leaves_10 (lv_at hl 0 rfl) ?_
      refine r_if_ltP hx hb (x := prd r) (by intro j9 h9; have := prd_lt h9; omega) (tgt := 100) dL_leaves_12 (by decide) (fun c12 => ?_) (fun j12 c12 => ?_)
      · have hl := lv_re (f := fun z9 => [(6, .int z9), (5, .int (mM (lfU dc an n S d r))), (0, .ref bd), (1, .ref ba), (2, .ref bm), (3, .int (mM S)), (4, .int (nI d))]) hl (show eP (prd r) = eP none from congrArg eP c12)
        refine lv_iload hx hb dL_leaves_100 (lv_at hl 1 rfl) ?_
        refine r_top (y := mM (lfB dc an n S d)) (by have e9 : r = 0 := (by cases r with | zero => rfl | succ q => exact absurd c12 (by simp [prd])); subst e9; exact lfU_n) ?_
        exact W.iret hx hb hr (fun t ht hW => ⟨_, rfl, rfl, ht⟩) (fun _ h => by cases h) dL_leaves_102
      · have hl := lv_re (f := fun z9 => [(6, .int z9), (5, .int (mM (lfU dc an n S d r))), (0, .ref bd), (1, .ref ba), (2, .ref bm), (3, .int (mM S)), (4, .int (nI d))]) hl (show eP (prd r) = nI j12 from congrArg eP c12)
        have e15 := prd_lt c12
        refine lv_iconst (v := nI 0) hx hb dL_leaves_15 (by decide) ?_
        refine lv_istore (lv' := [(7, .int (nI 0)), (6, .int (nI j12)), (5, .int (mM (lfU dc an n S d r))), (0, .ref bd), (1, .ref ba), (2, .ref bm), (3, .int (mM S)), (4, .int (nI d))]) hx hb dL_leaves_16 hl (by decide) rfl (fun ls hl => ?_)
        refine lv_iload hx hb dL_leaves_18 (lv_at hl 1 rfl) ?_
        refine lv_iconst (v := nI 1) hx hb dL_leaves_20 (by decide) ?_
        refine r_iaddN hx hb dL_leaves_21 ?_
        refine lv_istore (lv' := [(8, .int (nI (j12 + 1))), (7, .int (nI 0)), (6, .int (nI j12)), (5, .int (mM (lfU dc an n S d r))), (0, .ref bd), (1, .ref ba), (2, .ref bm), (3, .int (mM S)), (4, .int (nI d))]) hx hb dL_leaves_22 hl (by decide) rfl (fun ls hl => ?_)
        have key24 : ∀ (d24 : Nat) (j : Nat) (hj1 : j12 < j) (hj2 : j ≤ n), n - j < d24 → ∀  (ls : Array Slot), lv_has ls 9 [(8, .int (nI j)), (7, .int (mM (blw an j12 j))), (6, .int (nI j12)), (5, .int (mM (lfU dc an n S d r))), (0, .ref bd), (1, .ref ba), (2, .ref bm), (3, .int (mM S)), (4, .int (nI d))] → W p l e ({ frames := 0, cells := 0, slots := 0, locals := 0 } : Room) s m ([.ref bd, .ref ba, .ref bm, .int (mM S), .int (nI d)] : List Value).toArray below meth c s.heap [] 0 0 (MQ below (rqI (mM (lfB dc an n S d))) ([.ref bd, .ref ba, .ref bm, .int (mM S), .int (nI d)] : List Value).toArray s 0 0 (fun _ => False)) (F0 m 24 ls []) := by
          intro d24
          induction d24 with
          | zero => intro j hj1 hj2 h9; exact absurd h9 (Nat.not_lt_zero _)
          | succ d24 ih24 =>
            intro j hj1 hj2 hm24  ls  hl
            refine lv_iload hx hb dL_leaves_24 (lv_at hl 0 rfl) ?_
            refine lv_aload_n hx hb dL_leaves_26 rfl (lv_at hl 6 rfl) ?_
            refine lv_iconst (v := nI 0) hx hb dL_leaves_27 (by decide) ?_
            refine r_iald (j := 0) (v := nI n) hx hb hK.1 hP 2 0 rfl rfl (by omega) (by first | decide | omega) rfl dL_leaves_28 ?_
            refine r_icmp_geN hx hb (x := j) (y := n) (by first | omega | decide) (by first | omega | decide) (tgt := 55) dL_leaves_29 (by decide) (fun c29 => ?_) (fun c29 => ?_)
            · refine lv_iload hx hb dL_leaves_55 (lv_at hl 3 rfl) ?_
              refine lv_iload_n hx hb dL_leaves_57 rfl (lv_at hl 7 rfl) ?_
              refine lv_iload hx hb dL_leaves_58 (lv_at hl 2 rfl) ?_
              refine lv_ishr hx hb dL_leaves_60 ?_
              refine lv_iconst (v := nI 1) hx hb dL_leaves_61 (by decide) ?_
              refine lv_iand hx hb dL_leaves_62 ?_
              refine r_top (y := bI (S j12)) (mM_tst _ (by omega)) ?_
              refine lv_iconst (v := nI 1) hx hb dL_leaves_63 (by decide) ?_
              refine r_icmp_neB1 (x := S j12) (tgt := 90) hx hb dL_leaves_64 (by decide) (fun c64 => ?_) (fun c64 => ?_)
              · refine lv_iconst (v := nI 0) hx hb dL_leaves_90 (by decide) ?_
                refine lv_ior hx hb dL_leaves_91 ?_
                refine r_top (y := mM (lfU dc an n S d r)) (mM_or0 _) ?_
                refine lv_istore (lv' := [(5, .int (mM (lfU dc an n S d r))), (8, .int (nI j)), (7, .int (mM (blw an j12 j))), (6, .int (nI j12)), (0, .ref bd), (1, .ref ba), (2, .ref bm), (3, .int (mM S)), (4, .int (nI d))]) hx hb dL_leaves_92 hl (by decide) rfl (fun ls hl => ?_)
                refine lv_iinc (v := eP (prd j12)) (lv' := [(6, .int (eP (prd j12))), (5, .int (mM (lfU dc an n S d r))), (8, .int (nI j)), (7, .int (mM (blw an j12 j))), (0, .ref bd), (1, .ref ba), (2, .ref bm), (3, .int (mM S)), (4, .int (nI d))]) hx hb dL_leaves_94 hl (k := 3) rfl (nI_prd _) (by decide) rfl (fun ls hl => ?_)
                refine lv_goto (tgt := 10) hx hb dL_leaves_97 (by decide) ?_
                have hl := lv_re (f := fun z9 => [(6, .int (eP (prd j12))), (5, .int z9), (8, .int (nI j)), (7, .int (mM (blw an j12 j))), (0, .ref bd), (1, .ref ba), (2, .ref bm), (3, .int (mM S)), (4, .int (nI d))]) hl (show mM (lfU dc an n S d r) = mM (lfU dc an n S d j12) from by rw [e15]; exact lfU_f (by rw [lfB_eq (j := j) hn (by omega) (by omega)]; simp [c12, c29, c64]))
                exact ih10 j12 (by omega) (by omega)  ls  (lv_sub hl [0, 1, 4, 5, 6, 7, 8] rfl)
              · refine lv_aload_n hx hb dL_leaves_67 rfl (lv_at hl 4 rfl) ?_
                refine lv_iload hx hb dL_leaves_68 (lv_at hl 2 rfl) ?_
                refine r_iald (j := j12) (v := nI (dc j12)) hx hb hK.1 hP 0 0 rfl rfl (by omega) (by first | decide | omega) rfl dL_leaves_70 ?_
                have f70 := hTd j12
                refine lv_iload hx hb dL_leaves_71 (lv_at hl 8 rfl) ?_
                refine r_icmp_neN hx hb (x := dc j12) (y := d) (by first | omega | decide) (by first | omega | decide) (tgt := 90) dL_leaves_73 (by decide) (fun c73 => ?_) (fun c73 => ?_)
                · refine lv_iconst (v := nI 0) hx hb dL_leaves_90 (by decide) ?_
                  refine lv_ior hx hb dL_leaves_91 ?_
                  refine r_top (y := mM (lfU dc an n S d r)) (mM_or0 _) ?_
                  refine lv_istore (lv' := [(5, .int (mM (lfU dc an n S d r))), (8, .int (nI j)), (7, .int (mM (blw an j12 j))), (6, .int (nI j12)), (0, .ref bd), (1, .ref ba), (2, .ref bm), (3, .int (mM S)), (4, .int (nI d))]) hx hb dL_leaves_92 hl (by decide) rfl (fun ls hl => ?_)
                  refine lv_iinc (v := eP (prd j12)) (lv' := [(6, .int (eP (prd j12))), (5, .int (mM (lfU dc an n S d r))), (8, .int (nI j)), (7, .int (mM (blw an j12 j))), (0, .ref bd), (1, .ref ba), (2, .ref bm), (3, .int (mM S)), (4, .int (nI d))]) hx hb dL_leaves_94 hl (k := 3) rfl (nI_prd _) (by decide) rfl (fun ls hl => ?_)
                  refine lv_goto (tgt := 10) hx hb dL_leaves_97 (by decide) ?_
                  have hl := lv_re (f := fun z9 => [(6, .int (eP (prd j12))), (5, .int z9), (8, .int (nI j)), (7, .int (mM (blw an j12 j))), (0, .ref bd), (1, .ref ba), (2, .ref bm), (3, .int (mM S)), (4, .int (nI d))]) hl (show mM (lfU dc an n S d r) = mM (lfU dc an n S d j12) from by rw [e15]; exact lfU_f (by rw [lfB_eq (j := j) hn (by omega) (by omega)]; simp [c12, c29, c64, c73]))
                  exact ih10 j12 (by omega) (by omega)  ls  (lv_sub hl [0, 1, 4, 5, 6, 7, 8] rfl)
                · refine lv_iload hx hb dL_leaves_76 (lv_at hl 1 rfl) ?_
                  refine lv_iload_n hx hb dL_leaves_78 rfl (lv_at hl 7 rfl) ?_
                  refine lv_iand hx hb dL_leaves_79 ?_
                  refine r_top (y := mM (mAnd (blw an j12 j) S)) (mM_and _ _) ?_
                  refine r_if_neM (P := (mAnd (blw an j12 j) S)) (tgt := 90) hx hb dL_leaves_80 (by decide) (fun c80 => ?_) (fun c80 => ?_)
                  · refine lv_iconst (v := nI 0) hx hb dL_leaves_90 (by decide) ?_
                    refine lv_ior hx hb dL_leaves_91 ?_
                    refine r_top (y := mM (lfU dc an n S d r)) (mM_or0 _) ?_
                    refine lv_istore (lv' := [(5, .int (mM (lfU dc an n S d r))), (8, .int (nI j)), (7, .int (mM (blw an j12 j))), (6, .int (nI j12)), (0, .ref bd), (1, .ref ba), (2, .ref bm), (3, .int (mM S)), (4, .int (nI d))]) hx hb dL_leaves_92 hl (by decide) rfl (fun ls hl => ?_)
                    refine lv_iinc (v := eP (prd j12)) (lv' := [(6, .int (eP (prd j12))), (5, .int (mM (lfU dc an n S d r))), (8, .int (nI j)), (7, .int (mM (blw an j12 j))), (0, .ref bd), (1, .ref ba), (2, .ref bm), (3, .int (mM S)), (4, .int (nI d))]) hx hb dL_leaves_94 hl (k := 3) rfl (nI_prd _) (by decide) rfl (fun ls hl => ?_)
                    refine lv_goto (tgt := 10) hx hb dL_leaves_97 (by decide) ?_
                    have hl := lv_re (f := fun z9 => [(6, .int (eP (prd j12))), (5, .int z9), (8, .int (nI j)), (7, .int (mM (blw an j12 j))), (0, .ref bd), (1, .ref ba), (2, .ref bm), (3, .int (mM S)), (4, .int (nI d))]) hl (show mM (lfU dc an n S d r) = mM (lfU dc an n S d j12) from by rw [e15]; exact lfU_f (by rw [lfB_eq (j := j) hn (by omega) (by omega)]; simp [c12, c29, c64, c73, c80]))
                    exact ih10 j12 (by omega) (by omega)  ls  (lv_sub hl [0, 1, 4, 5, 6, 7, 8] rfl)
                  · refine lv_iconst (v := nI 1) hx hb dL_leaves_83 (by decide) ?_
                    refine lv_iload hx hb dL_leaves_84 (lv_at hl 2 rfl) ?_
                    refine lv_ishl hx hb dL_leaves_86 ?_
                    refine r_top (y := mM (sgl j12 true)) (mM_shl1 (by omega)) ?_
                    refine lv_goto (tgt := 91) hx hb dL_leaves_87 (by decide) ?_
                    refine lv_ior hx hb dL_leaves_91 ?_
                    refine r_top (y := mM (mOr (lfU dc an n S d r) (sgl j12 true))) (mM_or _ _) ?_
                    refine lv_istore (lv' := [(5, .int (mM (mOr (lfU dc an n S d r) (sgl j12 true)))), (8, .int (nI j)), (7, .int (mM (blw an j12 j))), (6, .int (nI j12)), (0, .ref bd), (1, .ref ba), (2, .ref bm), (3, .int (mM S)), (4, .int (nI d))]) hx hb dL_leaves_92 hl (by decide) rfl (fun ls hl => ?_)
                    refine lv_iinc (v := eP (prd j12)) (lv' := [(6, .int (eP (prd j12))), (5, .int (mM (mOr (lfU dc an n S d r) (sgl j12 true)))), (8, .int (nI j)), (7, .int (mM (blw an j12 j))), (0, .ref bd), (1, .ref ba), (2, .ref bm), (3, .int (mM S)), (4, .int (nI d))]) hx hb dL_leaves_94 hl (k := 3) rfl (nI_prd _) (by decide) rfl (fun ls hl => ?_)
                    refine lv_goto (tgt := 10) hx hb dL_leaves_97 (by decide) ?_
                    have hl := lv_re (f := fun z9 => [(6, .int (eP (prd j12))), (5, .int z9), (8, .int (nI j)), (7, .int (mM (blw an j12 j))), (0, .ref bd), (1, .ref ba), (2, .ref bm), (3, .int (mM S)), (4, .int (nI d))]) hl (show mM (mOr (lfU dc an n S d r) (sgl j12 true)) = mM (lfU dc an n S d j12) from by rw [e15]; exact lfU_t (by rw [lfB_eq (j := j) hn (by omega) (by omega)]; simp [c12, c29, c64, c73, c80]))
                    exact ih10 j12 (by omega) (by omega)  ls  (lv_sub hl [0, 1, 4, 5, 6, 7, 8] rfl)
            · refine lv_iload hx hb dL_leaves_32 (lv_at hl 1 rfl) ?_
              refine lv_aload_n hx hb dL_leaves_34 rfl (lv_at hl 5 rfl) ?_
              refine lv_iload hx hb dL_leaves_35 (lv_at hl 0 rfl) ?_
              refine r_iald (j := j) (v := mM (an j)) hx hb hK.1 hP 1 0 rfl rfl (by omega) (by first | decide | omega) rfl dL_leaves_37 ?_
              refine lv_iload hx hb dL_leaves_38 (lv_at hl 2 rfl) ?_
              refine lv_ishr hx hb dL_leaves_40 ?_
              refine lv_iconst (v := nI 1) hx hb dL_leaves_41 (by decide) ?_
              refine lv_iand hx hb dL_leaves_42 ?_
              refine r_top (y := bI ((an j) j12)) (mM_tst _ (by omega)) ?_
              refine lv_iload hx hb dL_leaves_43 (lv_at hl 0 rfl) ?_
              refine lv_ishl hx hb dL_leaves_45 ?_
              refine r_top (y := mM (sgl j ((an j) j12))) (mM_shl _ (by omega)) ?_
              refine lv_ior hx hb dL_leaves_46 ?_
              refine r_top (y := mM (mOr (blw an j12 j) (sgl j ((an j) j12)))) (mM_or _ _) ?_
              refine lv_istore (lv' := [(7, .int (mM (mOr (blw an j12 j) (sgl j ((an j) j12))))), (8, .int (nI j)), (6, .int (nI j12)), (5, .int (mM (lfU dc an n S d r))), (0, .ref bd), (1, .ref ba), (2, .ref bm), (3, .int (mM S)), (4, .int (nI d))]) hx hb dL_leaves_47 hl (by decide) rfl (fun ls hl => ?_)
              refine lv_iinc (v := nI (j + 1)) (lv' := [(8, .int (nI (j + 1))), (7, .int (mM (mOr (blw an j12 j) (sgl j ((an j) j12))))), (6, .int (nI j12)), (5, .int (mM (lfU dc an n S d r))), (0, .ref bd), (1, .ref ba), (2, .ref bm), (3, .int (mM S)), (4, .int (nI d))]) hx hb dL_leaves_49 hl (k := 1) rfl (nI_1 _) (by decide) rfl (fun ls hl => ?_)
              refine lv_goto (tgt := 24) hx hb dL_leaves_52 (by decide) ?_
              have hl := lv_re (f := fun z9 => [(8, .int (nI (j + 1))), (7, .int z9), (6, .int (nI j12)), (5, .int (mM (lfU dc an n S d r))), (0, .ref bd), (1, .ref ba), (2, .ref bm), (3, .int (mM S)), (4, .int (nI d))]) hl (show mM (mOr (blw an j12 j) (sgl j ((an j) j12))) = mM (blw an j12 (j + 1)) from blw_s hj1)
              exact ih24 (j + 1) (by first | assumption | omega) (by first | assumption | omega) (by omega)  ls  (lv_sub hl [0, 1, 2, 3, 4, 5, 6, 7, 8] rfl)
        have hl := lv_re (f := fun z9 => [(8, .int (nI (j12 + 1))), (7, .int z9), (6, .int (nI j12)), (5, .int (mM (lfU dc an n S d r))), (0, .ref bd), (1, .ref ba), (2, .ref bm), (3, .int (mM S)), (4, .int (nI d))]) hl (show nI 0 = mM (blw an j12 (j12 + 1)) from blw_0)
        exact key24 ((n - (j12 + 1)) + 1) (j12 + 1) (by first | assumption | omega) (by first | assumption | omega) (Nat.lt_succ_self _)  ls  (lv_sub hl [0, 1, 2, 3, 4, 5, 6, 7, 8] rfl)
  have hl := lv_re (f := fun z9 => [(6, .int (eP (prd n))), (5, .int z9), (0, .ref bd), (1, .ref ba), (2, .ref bm), (3, .int (mM S)), (4, .int (nI d))]) hl (show nI 0 = mM (lfU dc an n S d n) from lfU_0)
  exact key10 (n + 1) n (by first | assumption | omega) (Nat.lt_succ_self _)  ls  (lv_sub hl [0, 1, 2, 3, 4, 5, 6] rfl)
set_option maxHeartbeats 1000000 in
set_option maxRecDepth 100000 in
theorem cL_rank_ok (l : Launch) (D : va_G) (ct : Nat → ClassId) (bv : Nat) (bg : Nat) (bu : Nat) (vo : Nat → Option Nat) (ge : Nat → Nat) (un : Nat → Nat) (k : Nat) (hTv : ∀ k j, vo k = some j → j < 100) (hTg : ∀ k, ge k ≤ 150) (hTu : ∀ k, un k < 997) (hk : k < 24) : Met l yL_rank wsL_rank ({ frames := 0, cells := 0, slots := 0, locals := 0 } : Room) (roPc D ct [.ref bv, .ref bg, .ref bu, .int (nI k)] (wAP ct bv 24 vo ++ wAN ct bg 24 ge ++ wAN ct bu 24 un)) (rqI (nI (rk vo ge un k))) 0 0 (fun _ => False) := by
  refine Met.ofW (cc := cL_rank) (maxL := 4) (ret := (some .int)) (by decide) rfl ?_
  intro p e s m args below meth c s₁ B hml hv
  obtain ⟨rfl, hP, hK⟩ := hv
  have hx := B.exec
  have hb := B.bytes
  have hr := B.returns
  have hts := atoms_spec (ws := wsL_rank) B.pre
  have hown : s.vm.findClass RL = some m.cls := findClass_of_methodNamed B.named
  have hlocks := B.notSynchronized
  have hl := lv_entry ([.ref bv, .ref bg, .ref bu, .int (nI k)]) (n := 4) (Nat.le_of_ble_eq_true rfl)
  rw [lg_entry_eq]
  generalize (lg_sl ([.ref bv, .ref bg, .ref bu, .int (nI k)]) ++ List.replicate (4 - (lg_sl ([.ref bv, .ref bg, .ref bu, .int (nI k)])).length) Slot.unset).toArray = ls at hl ⊢
  have hl : lv_has ls 4 [(0, .ref bv), (1, .ref bg), (2, .ref bu), (3, .int (nI k))] := hl
  refine lv_aload_n hx hb dL_rank_0 rfl (lv_at hl 0 rfl) ?_
  refine lv_iload_n hx hb dL_rank_1 rfl (lv_at hl 3 rfl) ?_
  refine r_iald (j := k) (v := eP (vo k)) hx hb hK.1 hP 0 0 rfl rfl (by omega) (by first | decide | omega) rfl dL_rank_2 ?_
  refine r_if_ltP hx hb (x := vo k) (by intro j9 h9; have := hTv _ _ h9; omega) (tgt := 11) dL_rank_3 (by decide) (fun c3 => ?_) (fun j3 c3 => ?_)
  · refine lv_iconst (v := nI 0) hx hb dL_rank_11 (by decide) ?_
    refine lv_aload_n hx hb dL_rank_12 rfl (lv_at hl 1 rfl) ?_
    refine lv_iload_n hx hb dL_rank_13 rfl (lv_at hl 3 rfl) ?_
    refine r_iald (j := k) (v := nI (ge k)) hx hb hK.1 hP 1 0 rfl rfl (by omega) (by first | decide | omega) rfl dL_rank_14 ?_
    have f14 := hTg k
    refine r_iaddN hx hb dL_rank_15 ?_
    refine lv_sipush (v := nI 1000) hx hb dL_rank_16 (by decide) ?_
    refine r_imulN hx hb dL_rank_19 ?_
    refine lv_aload_n hx hb dL_rank_20 rfl (lv_at hl 2 rfl) ?_
    refine lv_iload_n hx hb dL_rank_21 rfl (lv_at hl 3 rfl) ?_
    refine r_iald (j := k) (v := nI (un k)) hx hb hK.1 hP 2 0 rfl rfl (by omega) (by first | decide | omega) rfl dL_rank_22 ?_
    have f22 := hTu k
    refine r_iaddN hx hb dL_rank_23 ?_
    refine r_top (y := nI (rk vo ge un k)) (congrArg nI (show (((0 + (ge k)) * 1000) + (un k)) = (rk vo ge un k) from by simp [rk, c3])) ?_
    exact W.iret hx hb hr (fun t ht hW => ⟨_, rfl, rfl, ht⟩) (fun _ h => by cases h) dL_rank_24
  · refine lv_bipush (v := nI 64) hx hb dL_rank_6 (by decide) ?_
    refine lv_goto (tgt := 12) hx hb dL_rank_8 (by decide) ?_
    refine lv_aload_n hx hb dL_rank_12 rfl (lv_at hl 1 rfl) ?_
    refine lv_iload_n hx hb dL_rank_13 rfl (lv_at hl 3 rfl) ?_
    refine r_iald (j := k) (v := nI (ge k)) hx hb hK.1 hP 1 0 rfl rfl (by omega) (by first | decide | omega) rfl dL_rank_14 ?_
    have f14 := hTg k
    refine r_iaddN hx hb dL_rank_15 ?_
    refine lv_sipush (v := nI 1000) hx hb dL_rank_16 (by decide) ?_
    refine r_imulN hx hb dL_rank_19 ?_
    refine lv_aload_n hx hb dL_rank_20 rfl (lv_at hl 2 rfl) ?_
    refine lv_iload_n hx hb dL_rank_21 rfl (lv_at hl 3 rfl) ?_
    refine r_iald (j := k) (v := nI (un k)) hx hb hK.1 hP 2 0 rfl rfl (by omega) (by first | decide | omega) rfl dL_rank_22 ?_
    have f22 := hTu k
    refine r_iaddN hx hb dL_rank_23 ?_
    refine r_top (y := nI (rk vo ge un k)) (congrArg nI (show (((64 + (ge k)) * 1000) + (un k)) = (rk vo ge un k) from by simp [rk, c3])) ?_
    exact W.iret hx hb hr (fun t ht hW => ⟨_, rfl, rfl, ht⟩) (fun _ h => by cases h) dL_rank_24
set_option maxHeartbeats 1000000 in
set_option maxRecDepth 100000 in
theorem cL_winner_ok (l : Launch) (D : va_G) (ct : Nat → ClassId) (bd : Nat) (bv : Nat) (bg : Nat) (bu : Nat) (ba : Nat) (bm : Nat) (dc : Nat → Nat) (vo : Nat → Option Nat) (ge : Nat → Nat) (un : Nat → Nat) (an : Nat → Nat → Bool) (n : Nat) (S : Nat → Bool) (d : Nat) (hn : n ≤ 24) (hTd : ∀ k, dc k < 4) (hTv : ∀ k j, vo k = some j → j < 100) (hTg : ∀ k, ge k ≤ 150) (hTu : ∀ k, un k < 997) (hd4 : d < 4) : Met l yL_winner wsL_winner ({ frames := 1, cells := 0, slots := 0, locals := 28 } : Room) (roPc D ct [.ref bd, .ref bv, .ref bg, .ref bu, .ref ba, .ref bm, .int (mM S), .int (nI d)] (wAN ct bd 24 dc ++ wAP ct bv 24 vo ++ wAN ct bg 24 ge ++ wAN ct bu 24 un ++ wAM ct ba 24 an ++ wA1 ct bm n)) (rqI (eP (wnS (lfB dc an n S d) (rk vo ge un) n))) 0 0 (fun _ => False) := by
  refine Met.ofW (cc := cL_winner) (maxL := 11) (ret := (some .int)) (by decide) rfl ?_
  intro p e s m args below meth c s₁ B hml hv
  obtain ⟨rfl, hP, hK⟩ := hv
  have hx := B.exec
  have hb := B.bytes
  have hr := B.returns
  have hts := atoms_spec (ws := wsL_winner) B.pre
  have hown : s.vm.findClass RL = some m.cls := findClass_of_methodNamed B.named
  have hlocks := B.notSynchronized
  have hl := lv_entry ([.ref bd, .ref bv, .ref bg, .ref bu, .ref ba, .ref bm, .int (mM S), .int (nI d)]) (n := 11) (Nat.le_of_ble_eq_true rfl)
  rw [lg_entry_eq]
  generalize (lg_sl ([.ref bd, .ref bv, .ref bg, .ref bu, .ref ba, .ref bm, .int (mM S), .int (nI d)]) ++ List.replicate (11 - (lg_sl ([.ref bd, .ref bv, .ref bg, .ref bu, .ref ba, .ref bm, .int (mM S), .int (nI d)])).length) Slot.unset).toArray = ls at hl ⊢
  have hl : lv_has ls 11 [(0, .ref bd), (1, .ref bv), (2, .ref bg), (3, .ref bu), (4, .ref ba), (5, .ref bm), (6, .int (mM S)), (7, .int (nI d))] := hl
  refine lv_aload_n hx hb dL_winner_0 rfl (lv_at hl 0 rfl) ?_
  refine lv_aload hx hb dL_winner_1 (lv_at hl 4 rfl) ?_
  refine lv_aload hx hb dL_winner_3 (lv_at hl 5 rfl) ?_
  refine lv_iload hx hb dL_winner_5 (lv_at hl 6 rfl) ?_
  refine lv_iload hx hb dL_winner_7 (lv_at hl 7 rfl) ?_
  refine r_cS (As := [.ref bd, .ref ba, .ref bm, .int (mM S), .int (nI d)]) (rest := []) ⟨hx, hb, hml, hown, hts⟩ (cL_leaves_ok l D ct bd ba bm dc an n S d (by first | assumption | omega) (by first | assumption | omega) (by first | assumption | omega)) (va_cwS 5 hts gL_winner_L_leaves rfl rfl rfl (by decide +kernel) ⟨Nat.le_of_ble_eq_true rfl, Nat.le_of_ble_eq_true rfl⟩) hK (hP.sub (ws' := wAN ct bd 24 dc ++ wAM ct ba 24 an ++ wA1 ct bm n) [0, 4, 5] rfl) rfl hl.1 rfl (Nat.le_of_ble_eq_true rfl) dL_winner_9 ⟨Nat.le_of_ble_eq_true rfl, Nat.le_of_ble_eq_true rfl⟩ ?_
  refine lv_istore (lv' := [(8, .int (mM (lfB dc an n S d))), (0, .ref bd), (1, .ref bv), (2, .ref bg), (3, .ref bu), (4, .ref ba), (5, .ref bm), (6, .int (mM S)), (7, .int (nI d))]) hx hb dL_winner_12 hl (by decide) rfl (fun ls hl => ?_)
  refine lv_iconst (v := -1) hx hb dL_winner_14 (by decide) ?_
  refine lv_istore (lv' := [(9, .int (eP none)), (8, .int (mM (lfB dc an n S d))), (0, .ref bd), (1, .ref bv), (2, .ref bg), (3, .ref bu), (4, .ref ba), (5, .ref bm), (6, .int (mM S)), (7, .int (nI d))]) hx hb dL_winner_15 hl (by decide) rfl (fun ls hl => ?_)
  refine lv_iconst (v := nI 0) hx hb dL_winner_17 (by decide) ?_
  refine lv_istore (lv' := [(10, .int (nI 0)), (9, .int (eP none)), (8, .int (mM (lfB dc an n S d))), (0, .ref bd), (1, .ref bv), (2, .ref bg), (3, .ref bu), (4, .ref ba), (5, .ref bm), (6, .int (mM S)), (7, .int (nI d))]) hx hb dL_winner_18 hl (by decide) rfl (fun ls hl => ?_)
  have key20 : ∀ (d20 : Nat) (k : Nat) (hk : k ≤ n), n - k < d20 → ∀  (ls : Array Slot), lv_has ls 11 [(10, .int (nI k)), (9, .int (eP (wnS (lfB dc an n S d) (rk vo ge un) k))), (8, .int (mM (lfB dc an n S d))), (0, .ref bd), (1, .ref bv), (2, .ref bg), (3, .ref bu), (4, .ref ba), (5, .ref bm), (6, .int (mM S)), (7, .int (nI d))] → W p l e ({ frames := 1, cells := 0, slots := 0, locals := 28 } : Room) s m ([.ref bd, .ref bv, .ref bg, .ref bu, .ref ba, .ref bm, .int (mM S), .int (nI d)] : List Value).toArray below meth c s.heap [] 0 0 (MQ below (rqI (eP (wnS (lfB dc an n S d) (rk vo ge un) n))) ([.ref bd, .ref bv, .ref bg, .ref bu, .ref ba, .ref bm, .int (mM S), .int (nI d)] : List Value).toArray s 0 0 (fun _ => False)) (F0 m 20 ls []) := by
    intro d20
    induction d20 with
    | zero => intro k hk h9; exact absurd h9 (Nat.not_lt_zero _)
    | succ d20 ih20 =>
      intro k hk hm20  ls  hl
      refine lv_iload hx hb dL_winner_20 (lv_at hl 0 rfl) ?_
      refine lv_aload hx hb dL_winner_22 (lv_at hl 8 rfl) ?_
      refine lv_iconst (v := nI 0) hx hb dL_winner_24 (by decide) ?_
      refine r_iald (j := 0) (v := nI n) hx hb hK.1 hP 5 0 rfl rfl (by omega) (by first | decide | omega) rfl dL_winner_25 ?_
      refine r_icmp_geN hx hb (x := k) (y := n) (by first | omega | decide) (by first | omega | decide) (tgt := 79) dL_winner_26 (by decide) (fun c26 => ?_) (fun c26 => ?_)
      · refine lv_iload hx hb dL_winner_79 (lv_at hl 1 rfl) ?_
        refine r_top (y := eP (wnS (lfB dc an n S d) (rk vo ge un) n)) (congrArg eP (show (wnS (lfB dc an n S d) (rk vo ge un) k) = (wnS (lfB dc an n S d) (rk vo ge un) n) from by rw [show k = n by omega])) ?_
        exact W.iret hx hb hr (fun t ht hW => ⟨_, rfl, rfl, ht⟩) (fun _ h => by cases h) dL_winner_81
      · refine lv_iload hx hb dL_winner_29 (lv_at hl 2 rfl) ?_
        refine lv_iload hx hb dL_winner_31 (lv_at hl 0 rfl) ?_
        refine lv_ishr hx hb dL_winner_33 ?_
        refine lv_iconst (v := nI 1) hx hb dL_winner_34 (by decide) ?_
        refine lv_iand hx hb dL_winner_35 ?_
        refine r_top (y := bI ((lfB dc an n S d) k)) (mM_tst _ (by omega)) ?_
        refine lv_iconst (v := nI 1) hx hb dL_winner_36 (by decide) ?_
        refine r_icmp_neB1 (x := (lfB dc an n S d) k) (tgt := 69) hx hb dL_winner_37 (by decide) (fun c37 => ?_) (fun c37 => ?_)
        · refine lv_iload hx hb dL_winner_69 (lv_at hl 1 rfl) ?_
          refine lv_istore (lv' := [(9, .int (eP (wnS (lfB dc an n S d) (rk vo ge un) k))), (10, .int (nI k)), (8, .int (mM (lfB dc an n S d))), (0, .ref bd), (1, .ref bv), (2, .ref bg), (3, .ref bu), (4, .ref ba), (5, .ref bm), (6, .int (mM S)), (7, .int (nI d))]) hx hb dL_winner_71 hl (by decide) rfl (fun ls hl => ?_)
          refine lv_iinc (v := nI (k + 1)) (lv' := [(10, .int (nI (k + 1))), (9, .int (eP (wnS (lfB dc an n S d) (rk vo ge un) k))), (8, .int (mM (lfB dc an n S d))), (0, .ref bd), (1, .ref bv), (2, .ref bg), (3, .ref bu), (4, .ref ba), (5, .ref bm), (6, .int (mM S)), (7, .int (nI d))]) hx hb dL_winner_73 hl (k := 1) rfl (nI_1 _) (by decide) rfl (fun ls hl => ?_)
          refine lv_goto (tgt := 20) hx hb dL_winner_76 (by decide) ?_
          have hl := lv_re (f := fun z9 => [(10, .int (nI (k + 1))), (9, .int z9), (8, .int (mM (lfB dc an n S d))), (0, .ref bd), (1, .ref bv), (2, .ref bg), (3, .ref bu), (4, .ref ba), (5, .ref bm), (6, .int (mM S)), (7, .int (nI d))]) hl (show eP (wnS (lfB dc an n S d) (rk vo ge un) k) = eP (wnS (lfB dc an n S d) (rk vo ge un) (k + 1)) from congrArg eP (show (wnS (lfB dc an n S d) (rk vo ge un) k) = (wnS (lfB dc an n S d) (rk vo ge un) (k + 1)) from by first | (simp [wnS, c26, c37]; done) | (simp [wnS, c26, c37]; omega)))
          exact ih20 (k + 1) (by first | assumption | omega) (by omega)  ls  (lv_sub hl [0, 1, 2, 3, 4, 5, 6, 7, 8, 9, 10] rfl)
        · refine lv_iload hx hb dL_winner_40 (lv_at hl 1 rfl) ?_
          refine r_if_ltP hx hb (x := wnS (lfB dc an n S d) (rk vo ge un) k) (by intro j9 h9; have := (wnS_lt h9).1; omega) (tgt := 64) dL_winner_42 (by decide) (fun c42 => ?_) (fun j42 c42 => ?_)
          · have hl := lv_re (f := fun z9 => [(10, .int (nI k)), (9, .int z9), (8, .int (mM (lfB dc an n S d))), (0, .ref bd), (1, .ref bv), (2, .ref bg), (3, .ref bu), (4, .ref ba), (5, .ref bm), (6, .int (mM S)), (7, .int (nI d))]) hl (show eP (wnS (lfB dc an n S d) (rk vo ge un) k) = eP none from congrArg eP c42)
            refine lv_iload hx hb dL_winner_64 (lv_at hl 0 rfl) ?_
            refine lv_goto (tgt := 71) hx hb dL_winner_66 (by decide) ?_
            refine lv_istore (lv' := [(9, .int (nI k)), (10, .int (nI k)), (8, .int (mM (lfB dc an n S d))), (0, .ref bd), (1, .ref bv), (2, .ref bg), (3, .ref bu), (4, .ref ba), (5, .ref bm), (6, .int (mM S)), (7, .int (nI d))]) hx hb dL_winner_71 hl (by decide) rfl (fun ls hl => ?_)
            refine lv_iinc (v := nI (k + 1)) (lv' := [(10, .int (nI (k + 1))), (9, .int (nI k)), (8, .int (mM (lfB dc an n S d))), (0, .ref bd), (1, .ref bv), (2, .ref bg), (3, .ref bu), (4, .ref ba), (5, .ref bm), (6, .int (mM S)), (7, .int (nI d))]) hx hb dL_winner_73 hl (k := 1) rfl (nI_1 _) (by decide) rfl (fun ls hl => ?_)
            refine lv_goto (tgt := 20) hx hb dL_winner_76 (by decide) ?_
            have hl := lv_re (f := fun z9 => [(10, .int (nI (k + 1))), (9, .int z9), (8, .int (mM (lfB dc an n S d))), (0, .ref bd), (1, .ref bv), (2, .ref bg), (3, .ref bu), (4, .ref ba), (5, .ref bm), (6, .int (mM S)), (7, .int (nI d))]) hl (show nI k = eP (wnS (lfB dc an n S d) (rk vo ge un) (k + 1)) from congrArg eP (show some k = (wnS (lfB dc an n S d) (rk vo ge un) (k + 1)) from by first | (simp [wnS, c26, c37, c42]; done) | (simp [wnS, c26, c37, c42]; omega)))
            exact ih20 (k + 1) (by first | assumption | omega) (by omega)  ls  (lv_sub hl [0, 1, 2, 3, 4, 5, 6, 7, 8, 9, 10] rfl)
          · have hl := lv_re (f := fun z9 => [(10, .int (nI k)), (9, .int z9), (8, .int (mM (lfB dc an n S d))), (0, .ref bd), (1, .ref bv), (2, .ref bg), (3, .ref bu), (4, .ref ba), (5, .ref bm), (6, .int (mM S)), (7, .int (nI d))]) hl (show eP (wnS (lfB dc an n S d) (rk vo ge un) k) = nI j42 from congrArg eP c42)
            have e45 := (wnS_lt c42).1
            have e45a := rk_b (vo := vo) hTg hTu k
            have e45b := rk_b (vo := vo) hTg hTu j42
            refine lv_aload_n hx hb dL_winner_45 rfl (lv_at hl 4 rfl) ?_
            refine lv_aload_n hx hb dL_winner_46 rfl (lv_at hl 5 rfl) ?_
            refine lv_aload_n hx hb dL_winner_47 rfl (lv_at hl 6 rfl) ?_
            refine lv_iload hx hb dL_winner_48 (lv_at hl 0 rfl) ?_
            refine r_cS (As := [.ref bv, .ref bg, .ref bu, .int (nI k)]) (rest := []) ⟨hx, hb, hml, hown, hts⟩ (cL_rank_ok l D ct bv bg bu vo ge un k (by first | assumption | omega) (by first | assumption | omega) (by first | assumption | omega) (by first | assumption | omega)) (va_cwS 4 hts gL_winner_L_rank rfl rfl rfl (by decide +kernel) ⟨Nat.le_of_ble_eq_true rfl, Nat.le_of_ble_eq_true rfl⟩) hK (hP.sub (ws' := wAP ct bv 24 vo ++ wAN ct bg 24 ge ++ wAN ct bu 24 un) [1, 2, 3] rfl) rfl hl.1 rfl (Nat.le_of_ble_eq_true rfl) dL_winner_50 ⟨Nat.le_of_ble_eq_true rfl, Nat.le_of_ble_eq_true rfl⟩ ?_
            refine lv_aload_n hx hb dL_winner_53 rfl (lv_at hl 4 rfl) ?_
            refine lv_aload_n hx hb dL_winner_54 rfl (lv_at hl 5 rfl) ?_
            refine lv_aload_n hx hb dL_winner_55 rfl (lv_at hl 6 rfl) ?_
            refine lv_iload hx hb dL_winner_56 (lv_at hl 1 rfl) ?_
            refine r_cS (As := [.ref bv, .ref bg, .ref bu, .int (nI j42)]) (rest := [.int (nI (rk vo ge un k))]) ⟨hx, hb, hml, hown, hts⟩ (cL_rank_ok l D ct bv bg bu vo ge un j42 (by first | assumption | omega) (by first | assumption | omega) (by first | assumption | omega) (by first | assumption | omega)) (va_cwS 4 hts gL_winner_L_rank rfl rfl rfl (by decide +kernel) ⟨Nat.le_of_ble_eq_true rfl, Nat.le_of_ble_eq_true rfl⟩) hK (hP.sub (ws' := wAP ct bv 24 vo ++ wAN ct bg 24 ge ++ wAN ct bu 24 un) [1, 2, 3] rfl) rfl hl.1 rfl (Nat.le_of_ble_eq_true rfl) dL_winner_58 ⟨Nat.le_of_ble_eq_true rfl, Nat.le_of_ble_eq_true rfl⟩ ?_
            refine r_icmp_leN hx hb (x := rk vo ge un k) (y := rk vo ge un j42) (by first | omega | decide) (by first | omega | decide) (tgt := 69) dL_winner_61 (by decide) (fun c61 => ?_) (fun c61 => ?_)
            · refine lv_iload hx hb dL_winner_69 (lv_at hl 1 rfl) ?_
              refine lv_istore (lv' := [(9, .int (nI j42)), (10, .int (nI k)), (8, .int (mM (lfB dc an n S d))), (0, .ref bd), (1, .ref bv), (2, .ref bg), (3, .ref bu), (4, .ref ba), (5, .ref bm), (6, .int (mM S)), (7, .int (nI d))]) hx hb dL_winner_71 hl (by decide) rfl (fun ls hl => ?_)
              refine lv_iinc (v := nI (k + 1)) (lv' := [(10, .int (nI (k + 1))), (9, .int (nI j42)), (8, .int (mM (lfB dc an n S d))), (0, .ref bd), (1, .ref bv), (2, .ref bg), (3, .ref bu), (4, .ref ba), (5, .ref bm), (6, .int (mM S)), (7, .int (nI d))]) hx hb dL_winner_73 hl (k := 1) rfl (nI_1 _) (by decide) rfl (fun ls hl => ?_)
              refine lv_goto (tgt := 20) hx hb dL_winner_76 (by decide) ?_
              have hl := lv_re (f := fun z9 => [(10, .int (nI (k + 1))), (9, .int z9), (8, .int (mM (lfB dc an n S d))), (0, .ref bd), (1, .ref bv), (2, .ref bg), (3, .ref bu), (4, .ref ba), (5, .ref bm), (6, .int (mM S)), (7, .int (nI d))]) hl (show nI j42 = eP (wnS (lfB dc an n S d) (rk vo ge un) (k + 1)) from congrArg eP (show some j42 = (wnS (lfB dc an n S d) (rk vo ge un) (k + 1)) from by first | (simp [wnS, c26, c37, c42, c61]; done) | (simp [wnS, c26, c37, c42, c61]; omega)))
              exact ih20 (k + 1) (by first | assumption | omega) (by omega)  ls  (lv_sub hl [0, 1, 2, 3, 4, 5, 6, 7, 8, 9, 10] rfl)
            · refine lv_iload hx hb dL_winner_64 (lv_at hl 0 rfl) ?_
              refine lv_goto (tgt := 71) hx hb dL_winner_66 (by decide) ?_
              refine lv_istore (lv' := [(9, .int (nI k)), (10, .int (nI k)), (8, .int (mM (lfB dc an n S d))), (0, .ref bd), (1, .ref bv), (2, .ref bg), (3, .ref bu), (4, .ref ba), (5, .ref bm), (6, .int (mM S)), (7, .int (nI d))]) hx hb dL_winner_71 hl (by decide) rfl (fun ls hl => ?_)
              refine lv_iinc (v := nI (k + 1)) (lv' := [(10, .int (nI (k + 1))), (9, .int (nI k)), (8, .int (mM (lfB dc an n S d))), (0, .ref bd), (1, .ref bv), (2, .ref bg), (3, .ref bu), (4, .ref ba), (5, .ref bm), (6, .int (mM S)), (7, .int (nI d))]) hx hb dL_winner_73 hl (k := 1) rfl (nI_1 _) (by decide) rfl (fun ls hl => ?_)
              refine lv_goto (tgt := 20) hx hb dL_winner_76 (by decide) ?_
              have hl := lv_re (f := fun z9 => [(10, .int (nI (k + 1))), (9, .int z9), (8, .int (mM (lfB dc an n S d))), (0, .ref bd), (1, .ref bv), (2, .ref bg), (3, .ref bu), (4, .ref ba), (5, .ref bm), (6, .int (mM S)), (7, .int (nI d))]) hl (show nI k = eP (wnS (lfB dc an n S d) (rk vo ge un) (k + 1)) from congrArg eP (show some k = (wnS (lfB dc an n S d) (rk vo ge un) (k + 1)) from by first | (simp [wnS, c26, c37, c42, c61]; done) | (simp [wnS, c26, c37, c42, c61]; omega)))
              exact ih20 (k + 1) (by first | assumption | omega) (by omega)  ls  (lv_sub hl [0, 1, 2, 3, 4, 5, 6, 7, 8, 9, 10] rfl)
  have hl := lv_re (f := fun z9 => [(10, .int (nI 0)), (9, .int z9), (8, .int (mM (lfB dc an n S d))), (0, .ref bd), (1, .ref bv), (2, .ref bg), (3, .ref bu), (4, .ref ba), (5, .ref bm), (6, .int (mM S)), (7, .int (nI d))]) hl (show eP none = eP (wnS (lfB dc an n S d) (rk vo ge un) 0) from congrArg eP (show none = (wnS (lfB dc an n S d) (rk vo ge un) 0) from rfl))
  exact key20 ((n - 0) + 1) 0 (by first | assumption | omega) (Nat.lt_succ_self _)  ls  (lv_sub hl [0, 1, 2, 3, 4, 5, 6, 7, 8, 9, 10] rfl)
set_option maxHeartbeats 1000000 in
set_option maxRecDepth 100000 in
theorem cL_ones_ok (l : Launch) (D : va_G) (ct : Nat → ClassId) (P : Nat → Bool)  : Met l yL_ones wsL_ones ({ frames := 0, cells := 0, slots := 0, locals := 0 } : Room) (roPc D ct [.int (mM P)] (([] : va_W))) (rqI (nI (fct P 24))) 0 0 (fun _ => False) := by
  refine Met.ofW (cc := cL_ones) (maxL := 3) (ret := (some .int)) (by decide) rfl ?_
  intro p e s m args below meth c s₁ B hml hv
  obtain ⟨rfl, hP, hK⟩ := hv
  have hx := B.exec
  have hb := B.bytes
  have hr := B.returns
  have hts := atoms_spec (ws := wsL_ones) B.pre
  have hown : s.vm.findClass RL = some m.cls := findClass_of_methodNamed B.named
  have hlocks := B.notSynchronized
  have hl := lv_entry ([.int (mM P)]) (n := 3) (Nat.le_of_ble_eq_true rfl)
  rw [lg_entry_eq]
  generalize (lg_sl ([.int (mM P)]) ++ List.replicate (3 - (lg_sl ([.int (mM P)])).length) Slot.unset).toArray = ls at hl ⊢
  have hl : lv_has ls 3 [(0, .int (mM P))] := hl
  refine lv_iconst (v := nI 0) hx hb dL_ones_0 (by decide) ?_
  refine lv_istore_n (lv' := [(1, .int (nI 0)), (0, .int (mM P))]) hx hb dL_ones_1 rfl hl (by decide) rfl (fun ls hl => ?_)
  refine lv_iload_n hx hb dL_ones_2 rfl (lv_at hl 1 rfl) ?_
  refine lv_istore_n (lv' := [(2, .int (mM P)), (1, .int (nI 0)), (0, .int (mM P))]) hx hb dL_ones_3 rfl hl (by decide) rfl (fun ls hl => ?_)
  have key4 : ∀ (d4 : Nat) (T : Nat → Bool) (w : Nat) (hq : w + fct T 24 = fct P 24), fct T 24 < d4 → ∀  (ls : Array Slot), lv_has ls 3 [(2, .int (mM T)), (1, .int (nI w)), (0, .int (mM P))] → W p l e ({ frames := 0, cells := 0, slots := 0, locals := 0 } : Room) s m ([.int (mM P)] : List Value).toArray below meth c s.heap [] 0 0 (MQ below (rqI (nI (fct P 24))) ([.int (mM P)] : List Value).toArray s 0 0 (fun _ => False)) (F0 m 4 ls []) := by
    intro d4
    induction d4 with
    | zero => intro T w hq h9; exact absurd h9 (Nat.not_lt_zero _)
    | succ d4 ih4 =>
      intro T w hq hm4  ls  hl
      refine lv_iload_n hx hb dL_ones_4 rfl (lv_at hl 0 rfl) ?_
      refine r_if_eqM (P := T) (tgt := 20) hx hb dL_ones_5 (by decide) (fun c5 => ?_) (fun c5 => ?_)
      · refine lv_iload_n hx hb dL_ones_20 rfl (lv_at hl 1 rfl) ?_
        refine r_top (y := nI (fct P 24)) (congrArg nI (show w = (fct P 24) from by have := fct_z c5; omega)) ?_
        exact W.iret hx hb hr (fun t ht hW => ⟨_, rfl, rfl, ht⟩) (fun _ h => by cases h) dL_ones_21
      · obtain ⟨k9, hk9, hq9, he9⟩ := mM_dec c5
        refine lv_iinc (v := nI (w + 1)) (lv' := [(1, .int (nI (w + 1))), (2, .int (mM T)), (0, .int (mM P))]) hx hb dL_ones_8 hl (k := 1) rfl (nI_1 _) (by decide) rfl (fun ls hl => ?_)
        refine lv_iload_n hx hb dL_ones_11 rfl (lv_at hl 1 rfl) ?_
        refine lv_iload_n hx hb dL_ones_12 rfl (lv_at hl 1 rfl) ?_
        refine lv_iconst (v := nI 1) hx hb dL_ones_13 (by decide) ?_
        refine lv_isub hx hb dL_ones_14 ?_
        refine lv_iand hx hb dL_ones_15 ?_
        refine r_top (y := mM (fun i => T i && !decide (i = k9))) (he9) ?_
        refine lv_istore_n (lv' := [(2, .int (mM (fun i => T i && !decide (i = k9)))), (1, .int (nI (w + 1))), (0, .int (mM P))]) hx hb dL_ones_16 rfl hl (by decide) rfl (fun ls hl => ?_)
        refine lv_goto (tgt := 4) hx hb dL_ones_17 (by decide) ?_
        exact ih4 (fun i => T i && !decide (i = k9)) (w + 1) (by have := fct_del hk9 hq9; omega) (by have := fct_del hk9 hq9; omega)  ls  (lv_sub hl [0, 1, 2] rfl)
  exact key4 ((fct P 24) + 1) P 0 (Nat.zero_add _) (Nat.lt_succ_self _)  ls  (lv_sub hl [0, 1, 2] rfl)
set_option maxHeartbeats 1000000 in
set_option maxRecDepth 100000 in
theorem cL_start_ok (l : Launch) (D : va_G) (ct : Nat → ClassId) (bc : Nat) (cc : Nat → Nat) (i : Nat) (j : Nat) (hi : i < 3) (hj : j < 3) (hC : ∀ q, cc q ≤ 1000000) : Met l yL_start wsL_start ({ frames := 0, cells := 0, slots := 0, locals := 0 } : Room) (roPc D ct [.ref bc, .int (nI i), .int (nI j)] (wAN ct bc 27 cc)) (rqI (nI (stN cc i j))) 0 0 (fun _ => False) := by
  refine Met.ofW (cc := cL_start) (maxL := 5) (ret := (some .int)) (by decide) rfl ?_
  intro p e s m args below meth c s₁ B hml hv
  obtain ⟨rfl, hP, hK⟩ := hv
  have hx := B.exec
  have hb := B.bytes
  have hr := B.returns
  have hts := atoms_spec (ws := wsL_start) B.pre
  have hown : s.vm.findClass RL = some m.cls := findClass_of_methodNamed B.named
  have hlocks := B.notSynchronized
  have hl := lv_entry ([.ref bc, .int (nI i), .int (nI j)]) (n := 5) (Nat.le_of_ble_eq_true rfl)
  rw [lg_entry_eq]
  generalize (lg_sl ([.ref bc, .int (nI i), .int (nI j)]) ++ List.replicate (5 - (lg_sl ([.ref bc, .int (nI i), .int (nI j)])).length) Slot.unset).toArray = ls at hl ⊢
  have hl : lv_has ls 5 [(0, .ref bc), (1, .int (nI i)), (2, .int (nI j))] := hl
  refine lv_aload_n hx hb dL_start_0 rfl (lv_at hl 0 rfl) ?_
  refine lv_bipush (v := nI 9) hx hb dL_start_1 (by decide) ?_
  refine lv_iload_n hx hb dL_start_3 rfl (lv_at hl 1 rfl) ?_
  refine r_imulN hx hb dL_start_4 ?_
  refine lv_iconst (v := nI 3) hx hb dL_start_5 (by decide) ?_
  refine lv_iload_n hx hb dL_start_6 rfl (lv_at hl 1 rfl) ?_
  refine r_imulN hx hb dL_start_7 ?_
  refine r_iaddN hx hb dL_start_8 ?_
  refine lv_iload_n hx hb dL_start_9 rfl (lv_at hl 2 rfl) ?_
  refine r_iaddN hx hb dL_start_10 ?_
  refine r_iald (j := ((9 * i) + (3 * i)) + j) (v := nI (cc (((9 * i) + (3 * i)) + j))) hx hb hK.1 hP 0 0 rfl rfl (by omega) (by first | decide | omega) rfl dL_start_11 ?_
  have f11 := hC (((9 * i) + (3 * i)) + j)
  refine lv_istore_n (lv' := [(3, .int (nI (cc (((9 * i) + (3 * i)) + j)))), (0, .ref bc), (1, .int (nI i)), (2, .int (nI j))]) hx hb dL_start_12 rfl hl (by decide) rfl (fun ls hl => ?_)
  refine lv_aload_n hx hb dL_start_13 rfl (lv_at hl 1 rfl) ?_
  refine lv_bipush (v := nI 9) hx hb dL_start_14 (by decide) ?_
  refine lv_iload_n hx hb dL_start_16 rfl (lv_at hl 3 rfl) ?_
  refine r_imulN hx hb dL_start_17 ?_
  refine lv_iconst (v := nI 3) hx hb dL_start_18 (by decide) ?_
  refine lv_iload_n hx hb dL_start_19 rfl (lv_at hl 2 rfl) ?_
  refine r_imulN hx hb dL_start_20 ?_
  refine r_iaddN hx hb dL_start_21 ?_
  refine lv_iload_n hx hb dL_start_22 rfl (lv_at hl 3 rfl) ?_
  refine r_iaddN hx hb dL_start_23 ?_
  refine r_iald (j := ((9 * j) + (3 * i)) + j) (v := nI (cc (((9 * j) + (3 * i)) + j))) hx hb hK.1 hP 0 0 rfl rfl (by omega) (by first | decide | omega) rfl dL_start_24 ?_
  have f24 := hC (((9 * j) + (3 * i)) + j)
  refine lv_istore (lv' := [(4, .int (nI (cc (((9 * j) + (3 * i)) + j)))), (3, .int (nI (cc (((9 * i) + (3 * i)) + j)))), (0, .ref bc), (1, .int (nI i)), (2, .int (nI j))]) hx hb dL_start_25 hl (by decide) rfl (fun ls hl => ?_)
  refine lv_iload_n hx hb dL_start_27 rfl (lv_at hl 1 rfl) ?_
  refine lv_iload hx hb dL_start_28 (lv_at hl 0 rfl) ?_
  refine r_icmp_leN hx hb (x := cc (((9 * i) + (3 * i)) + j)) (y := cc (((9 * j) + (3 * i)) + j)) (by first | omega | decide) (by first | omega | decide) (tgt := 38) dL_start_30 (by decide) (fun c30 => ?_) (fun c30 => ?_)
  · refine lv_iload_n hx hb dL_start_38 rfl (lv_at hl 1 rfl) ?_
    refine r_top (y := nI (stN cc i j)) (congrArg nI (show (cc (((9 * i) + (3 * i)) + j)) = (stN cc i j) from by simp only [stN]; omega)) ?_
    exact W.iret hx hb hr (fun t ht hW => ⟨_, rfl, rfl, ht⟩) (fun _ h => by cases h) dL_start_39
  · refine lv_iload hx hb dL_start_33 (lv_at hl 0 rfl) ?_
    refine lv_goto (tgt := 39) hx hb dL_start_35 (by decide) ?_
    refine r_top (y := nI (stN cc i j)) (congrArg nI (show (cc (((9 * j) + (3 * i)) + j)) = (stN cc i j) from by simp only [stN]; omega)) ?_
    exact W.iret hx hb hr (fun t ht hW => ⟨_, rfl, rfl, ht⟩) (fun _ h => by cases h) dL_start_39
end
