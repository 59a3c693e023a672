section
-- ===== PART A: goes FIRST, ahead of the names: the tables' words, and 'selects' of the private methods out of them =====
/-- a private method of a class that the tables say can be made, by its rows of tables_1 -/
def lw_okq (q : MethodName × Nat) : Prop := (q.1.cls ≠ "java/lang/invoke/MethodHandle" ∧ q.1.cls ≠ "java/lang/invoke/VarHandle") ∧ Cond.instantiable q.1.cls q.2 ∈ tables_1 ∧ Cond.privateMethod q.1 ∈ tables_1 ∧ Cond.instanceMethod q.1 ∈ tables_1
theorem lw_p0 : lw_okq (⟨"RevisionStores", "storeAt", "(I)LRevisionStores$Store;"⟩, 3) := ⟨⟨by decide +kernel, by decide +kernel⟩, List.mem_of_getElem? (i := 15) (by decide +kernel), List.mem_of_getElem? (i := 143) (by decide +kernel), List.mem_of_getElem? (i := 144) (by decide +kernel)⟩
theorem lw_p1 : lw_okq (⟨"java/lang/Throwable", "fillInStackTrace", "(I)Ljava/lang/Throwable;"⟩, 6) := ⟨⟨by decide +kernel, by decide +kernel⟩, List.mem_of_getElem? (i := 185) (by decide +kernel), List.mem_of_getElem? (i := 183) (by decide +kernel), List.mem_of_getElem? (i := 184) (by decide +kernel)⟩
theorem lw_p2 : lw_okq (⟨"RevisionStores", "checkDocument", "(I)V"⟩, 3) := ⟨⟨by decide +kernel, by decide +kernel⟩, List.mem_of_getElem? (i := 15) (by decide +kernel), List.mem_of_getElem? (i := 215) (by decide +kernel), List.mem_of_getElem? (i := 216) (by decide +kernel)⟩
theorem lw_p3 : lw_okq (⟨"RevisionStores", "checkRevision", "(I)V"⟩, 3) := ⟨⟨by decide +kernel, by decide +kernel⟩, List.mem_of_getElem? (i := 15) (by decide +kernel), List.mem_of_getElem? (i := 220) (by decide +kernel), List.mem_of_getElem? (i := 221) (by decide +kernel)⟩
theorem lw_p4 : lw_okq (⟨"RevisionStores", "checkNotBegun", "(LRevisionStores$Store;I)V"⟩, 3) := ⟨⟨by decide +kernel, by decide +kernel⟩, List.mem_of_getElem? (i := 15) (by decide +kernel), List.mem_of_getElem? (i := 241) (by decide +kernel), List.mem_of_getElem? (i := 242) (by decide +kernel)⟩
theorem lw_p5 : lw_okq (⟨"RevisionStores", "checkLeaf", "(LRevisionStores$Store;II)V"⟩, 3) := ⟨⟨by decide +kernel, by decide +kernel⟩, List.mem_of_getElem? (i := 15) (by decide +kernel), List.mem_of_getElem? (i := 261) (by decide +kernel), List.mem_of_getElem? (i := 262) (by decide +kernel)⟩
theorem lw_p6 : lw_okq (⟨"RevisionStores", "checkRoom", "()V"⟩, 3) := ⟨⟨by decide +kernel, by decide +kernel⟩, List.mem_of_getElem? (i := 15) (by decide +kernel), List.mem_of_getElem? (i := 274) (by decide +kernel), List.mem_of_getElem? (i := 275) (by decide +kernel)⟩
theorem lw_p7 : lw_okq (⟨"RevisionStores", "grow", "(LRevisionStores$Store;IIIZ)I"⟩, 3) := ⟨⟨by decide +kernel, by decide +kernel⟩, List.mem_of_getElem? (i := 15) (by decide +kernel), List.mem_of_getElem? (i := 279) (by decide +kernel), List.mem_of_getElem? (i := 280) (by decide +kernel)⟩
theorem lw_p8 : lw_okq (⟨"RevisionStores$Store", "noteChange", "(LRevisionStores$Tree;I)V"⟩, 5) := ⟨⟨by decide +kernel, by decide +kernel⟩, List.mem_of_getElem? (i := 90) (by decide +kernel), List.mem_of_getElem? (i := 295) (by decide +kernel), List.mem_of_getElem? (i := 296) (by decide +kernel)⟩
theorem lw_p9 : lw_okq (⟨"RevisionStores$Holding", "findLeaves", "(LRevisionStores$Tree;)V"⟩, 3) := ⟨⟨by decide +kernel, by decide +kernel⟩, List.mem_of_getElem? (i := 69) (by decide +kernel), List.mem_of_getElem? (i := 303) (by decide +kernel), List.mem_of_getElem? (i := 304) (by decide +kernel)⟩
theorem lw_p10 : lw_okq (⟨"RevisionStores$Holding", "findWinners", "(LRevisionStores$Tree;)V"⟩, 3) := ⟨⟨by decide +kernel, by decide +kernel⟩, List.mem_of_getElem? (i := 69) (by decide +kernel), List.mem_of_getElem? (i := 311) (by decide +kernel), List.mem_of_getElem? (i := 312) (by decide +kernel)⟩
theorem lw_p11 : lw_okq (⟨"RevisionStores", "checkDifferent", "(II)V"⟩, 3) := ⟨⟨by decide +kernel, by decide +kernel⟩, List.mem_of_getElem? (i := 15) (by decide +kernel), List.mem_of_getElem? (i := 368) (by decide +kernel), List.mem_of_getElem? (i := 369) (by decide +kernel)⟩
theorem lw_p12 : lw_okq (⟨"RevisionStores", "commonCheckpoint", "(II)I"⟩, 3) := ⟨⟨by decide +kernel, by decide +kernel⟩, List.mem_of_getElem? (i := 15) (by decide +kernel), List.mem_of_getElem? (i := 373) (by decide +kernel), List.mem_of_getElem? (i := 374) (by decide +kernel)⟩
theorem lw_p13 : lw_okq (⟨"RevisionStores$Holding", "addLine", "(LRevisionStores$Tree;LRevisionStores$Holding;I)I"⟩, 3) := ⟨⟨by decide +kernel, by decide +kernel⟩, List.mem_of_getElem? (i := 69) (by decide +kernel), List.mem_of_getElem? (i := 393) (by decide +kernel), List.mem_of_getElem? (i := 394) (by decide +kernel)⟩
theorem lw_p14 : lw_okq (⟨"RevisionStoresModel", "isRevision", "(I)Z"⟩, 13) := ⟨⟨by decide +kernel, by decide +kernel⟩, List.mem_of_getElem? (i := 536) (by decide +kernel), List.mem_of_getElem? (i := 599) (by decide +kernel), List.mem_of_getElem? (i := 600) (by decide +kernel)⟩
theorem lw_p15 : lw_okq (⟨"RevisionStoresModel", "canEdit", "(III)Z"⟩, 13) := ⟨⟨by decide +kernel, by decide +kernel⟩, List.mem_of_getElem? (i := 536) (by decide +kernel), List.mem_of_getElem? (i := 603) (by decide +kernel), List.mem_of_getElem? (i := 604) (by decide +kernel)⟩
def lw_privs_1 : List (MethodName × Nat) := [(⟨"RevisionStores", "storeAt", "(I)LRevisionStores$Store;"⟩, 3), (⟨"java/lang/Throwable", "fillInStackTrace", "(I)Ljava/lang/Throwable;"⟩, 6), (⟨"RevisionStores", "checkDocument", "(I)V"⟩, 3), (⟨"RevisionStores", "checkRevision", "(I)V"⟩, 3), (⟨"RevisionStores", "checkNotBegun", "(LRevisionStores$Store;I)V"⟩, 3), (⟨"RevisionStores", "checkLeaf", "(LRevisionStores$Store;II)V"⟩, 3), (⟨"RevisionStores", "checkRoom", "()V"⟩, 3), (⟨"RevisionStores", "grow", "(LRevisionStores$Store;IIIZ)I"⟩, 3), (⟨"RevisionStores$Store", "noteChange", "(LRevisionStores$Tree;I)V"⟩, 5), (⟨"RevisionStores$Holding", "findLeaves", "(LRevisionStores$Tree;)V"⟩, 3), (⟨"RevisionStores$Holding", "findWinners", "(LRevisionStores$Tree;)V"⟩, 3), (⟨"RevisionStores", "checkDifferent", "(II)V"⟩, 3), (⟨"RevisionStores", "commonCheckpoint", "(II)I"⟩, 3), (⟨"RevisionStores$Holding", "addLine", "(LRevisionStores$Tree;LRevisionStores$Holding;I)I"⟩, 3), (⟨"RevisionStoresModel", "isRevision", "(I)Z"⟩, 13), (⟨"RevisionStoresModel", "canEdit", "(III)Z"⟩, 13)]
theorem lw_r1 : ∀ q ∈ lw_privs_1, lw_okq q := List.forall_mem_cons.mpr ⟨lw_p0, List.forall_mem_cons.mpr ⟨lw_p1, List.forall_mem_cons.mpr ⟨lw_p2, List.forall_mem_cons.mpr ⟨lw_p3, List.forall_mem_cons.mpr ⟨lw_p4, List.forall_mem_cons.mpr ⟨lw_p5, List.forall_mem_cons.mpr ⟨lw_p6, List.forall_mem_cons.mpr ⟨lw_p7, List.forall_mem_cons.mpr ⟨lw_p8, List.forall_mem_cons.mpr ⟨lw_p9, List.forall_mem_cons.mpr ⟨lw_p10, List.forall_mem_cons.mpr ⟨lw_p11, List.forall_mem_cons.mpr ⟨lw_p12, List.forall_mem_cons.mpr ⟨lw_p13, List.forall_mem_cons.mpr ⟨lw_p14, List.forall_mem_cons.mpr ⟨lw_p15, fun _ h => absurd h List.not_mem_nil⟩⟩⟩⟩⟩⟩⟩⟩⟩⟩⟩⟩⟩⟩⟩⟩
theorem lw_p16 : lw_okq (⟨"RevisionStoresModel", "best", "(II)I"⟩, 13) := ⟨⟨by decide +kernel, by decide +kernel⟩, List.mem_of_getElem? (i := 536) (by decide +kernel), List.mem_of_getElem? (i := 607) (by decide +kernel), List.mem_of_getElem? (i := 608) (by decide +kernel)⟩
theorem lw_p17 : lw_okq (⟨"RevisionStoresModel", "leaf", "(II)Z"⟩, 13) := ⟨⟨by decide +kernel, by decide +kernel⟩, List.mem_of_getElem? (i := 536) (by decide +kernel), List.mem_of_getElem? (i := 611) (by decide +kernel), List.mem_of_getElem? (i := 612) (by decide +kernel)⟩
theorem lw_p18 : lw_okq (⟨"RevisionStoresModel", "hasDescendant", "(II)Z"⟩, 13) := ⟨⟨by decide +kernel, by decide +kernel⟩, List.mem_of_getElem? (i := 536) (by decide +kernel), List.mem_of_getElem? (i := 615) (by decide +kernel), List.mem_of_getElem? (i := 616) (by decide +kernel)⟩
theorem lw_p19 : lw_okq (⟨"RevisionStoresModel", "isAncestor", "(II)Z"⟩, 13) := ⟨⟨by decide +kernel, by decide +kernel⟩, List.mem_of_getElem? (i := 536) (by decide +kernel), List.mem_of_getElem? (i := 619) (by decide +kernel), List.mem_of_getElem? (i := 620) (by decide +kernel)⟩
theorem lw_p20 : lw_okq (⟨"RevisionStoresModel", "isBetter", "(II)Z"⟩, 13) := ⟨⟨by decide +kernel, by decide +kernel⟩, List.mem_of_getElem? (i := 536) (by decide +kernel), List.mem_of_getElem? (i := 623) (by decide +kernel), List.mem_of_getElem? (i := 624) (by decide +kernel)⟩
theorem lw_p21 : lw_okq (⟨"RevisionStoresModel", "goes", "(ZZZ)Z"⟩, 13) := ⟨⟨by decide +kernel, by decide +kernel⟩, List.mem_of_getElem? (i := 536) (by decide +kernel), List.mem_of_getElem? (i := 627) (by decide +kernel), List.mem_of_getElem? (i := 628) (by decide +kernel)⟩
theorem lw_p22 : lw_okq (⟨"RevisionStoresModel", "adds", "(IIIIZ)I"⟩, 13) := ⟨⟨by decide +kernel, by decide +kernel⟩, List.mem_of_getElem? (i := 536) (by decide +kernel), List.mem_of_getElem? (i := 631) (by decide +kernel), List.mem_of_getElem? (i := 632) (by decide +kernel)⟩
theorem lw_p23 : lw_okq (⟨"RevisionStoresModel", "makes", "(IIIZ)I"⟩, 13) := ⟨⟨by decide +kernel, by decide +kernel⟩, List.mem_of_getElem? (i := 536) (by decide +kernel), List.mem_of_getElem? (i := 635) (by decide +kernel), List.mem_of_getElem? (i := 636) (by decide +kernel)⟩
theorem lw_p24 : lw_okq (⟨"RevisionStoresModel", "touches", "(II)V"⟩, 13) := ⟨⟨by decide +kernel, by decide +kernel⟩, List.mem_of_getElem? (i := 536) (by decide +kernel), List.mem_of_getElem? (i := 639) (by decide +kernel), List.mem_of_getElem? (i := 640) (by decide +kernel)⟩
theorem lw_p25 : lw_okq (⟨"RevisionStoresModel", "stems", "(I)I"⟩, 13) := ⟨⟨by decide +kernel, by decide +kernel⟩, List.mem_of_getElem? (i := 536) (by decide +kernel), List.mem_of_getElem? (i := 643) (by decide +kernel), List.mem_of_getElem? (i := 644) (by decide +kernel)⟩
theorem lw_p26 : lw_okq (⟨"RevisionStoresModel", "isDeep", "(II)Z"⟩, 13) := ⟨⟨by decide +kernel, by decide +kernel⟩, List.mem_of_getElem? (i := 536) (by decide +kernel), List.mem_of_getElem? (i := 647) (by decide +kernel), List.mem_of_getElem? (i := 648) (by decide +kernel)⟩
theorem lw_p27 : lw_okq (⟨"RevisionStoresModel", "begins", "(II)I"⟩, 13) := ⟨⟨by decide +kernel, by decide +kernel⟩, List.mem_of_getElem? (i := 536) (by decide +kernel), List.mem_of_getElem? (i := 667) (by decide +kernel), List.mem_of_getElem? (i := 668) (by decide +kernel)⟩
theorem lw_p28 : lw_okq (⟨"RevisionStoresModel", "nextOf", "(II)I"⟩, 13) := ⟨⟨by decide +kernel, by decide +kernel⟩, List.mem_of_getElem? (i := 536) (by decide +kernel), List.mem_of_getElem? (i := 671) (by decide +kernel), List.mem_of_getElem? (i := 672) (by decide +kernel)⟩
theorem lw_p29 : lw_okq (⟨"RevisionStoresModel", "gets", "(III)I"⟩, 13) := ⟨⟨by decide +kernel, by decide +kernel⟩, List.mem_of_getElem? (i := 536) (by decide +kernel), List.mem_of_getElem? (i := 675) (by decide +kernel), List.mem_of_getElem? (i := 676) (by decide +kernel)⟩
theorem lw_p30 : lw_okq (⟨"RevisionStoresModel", "isAnywhere", "(I)Z"⟩, 13) := ⟨⟨by decide +kernel, by decide +kernel⟩, List.mem_of_getElem? (i := 536) (by decide +kernel), List.mem_of_getElem? (i := 735) (by decide +kernel), List.mem_of_getElem? (i := 736) (by decide +kernel)⟩
theorem lw_p31 : lw_okq (⟨"RevisionStoresModel", "shown", "(II)I"⟩, 13) := ⟨⟨by decide +kernel, by decide +kernel⟩, List.mem_of_getElem? (i := 536) (by decide +kernel), List.mem_of_getElem? (i := 747) (by decide +kernel), List.mem_of_getElem? (i := 748) (by decide +kernel)⟩
def lw_privs_2 : List (MethodName × Nat) := [(⟨"RevisionStoresModel", "best", "(II)I"⟩, 13), (⟨"RevisionStoresModel", "leaf", "(II)Z"⟩, 13), (⟨"RevisionStoresModel", "hasDescendant", "(II)Z"⟩, 13), (⟨"RevisionStoresModel", "isAncestor", "(II)Z"⟩, 13), (⟨"RevisionStoresModel", "isBetter", "(II)Z"⟩, 13), (⟨"RevisionStoresModel", "goes", "(ZZZ)Z"⟩, 13), (⟨"RevisionStoresModel", "adds", "(IIIIZ)I"⟩, 13), (⟨"RevisionStoresModel", "makes", "(IIIZ)I"⟩, 13), (⟨"RevisionStoresModel", "touches", "(II)V"⟩, 13), (⟨"RevisionStoresModel", "stems", "(I)I"⟩, 13), (⟨"RevisionStoresModel", "isDeep", "(II)Z"⟩, 13), (⟨"RevisionStoresModel", "begins", "(II)I"⟩, 13), (⟨"RevisionStoresModel", "nextOf", "(II)I"⟩, 13), (⟨"RevisionStoresModel", "gets", "(III)I"⟩, 13), (⟨"RevisionStoresModel", "isAnywhere", "(I)Z"⟩, 13), (⟨"RevisionStoresModel", "shown", "(II)I"⟩, 13)]
theorem lw_r2 : ∀ q ∈ lw_privs_2, lw_okq q := List.forall_mem_cons.mpr ⟨lw_p16, List.forall_mem_cons.mpr ⟨lw_p17, List.forall_mem_cons.mpr ⟨lw_p18, List.forall_mem_cons.mpr ⟨lw_p19, List.forall_mem_cons.mpr ⟨lw_p20, List.forall_mem_cons.mpr ⟨lw_p21, List.forall_mem_cons.mpr ⟨lw_p22, List.forall_mem_cons.mpr ⟨lw_p23, List.forall_mem_cons.mpr ⟨lw_p24, List.forall_mem_cons.mpr ⟨lw_p25, List.forall_mem_cons.mpr ⟨lw_p26, List.forall_mem_cons.mpr ⟨lw_p27, List.forall_mem_cons.mpr ⟨lw_p28, List.forall_mem_cons.mpr ⟨lw_p29, List.forall_mem_cons.mpr ⟨lw_p30, List.forall_mem_cons.mpr ⟨lw_p31, fun _ h => absurd h List.not_mem_nil⟩⟩⟩⟩⟩⟩⟩⟩⟩⟩⟩⟩⟩⟩⟩⟩
theorem lw_p32 : lw_okq (⟨"RevisionStoresModel", "placed", "(II)I"⟩, 13) := ⟨⟨by decide +kernel, by decide +kernel⟩, List.mem_of_getElem? (i := 536) (by decide +kernel), List.mem_of_getElem? (i := 755) (by decide +kernel), List.mem_of_getElem? (i := 756) (by decide +kernel)⟩
def lw_privs_3 : List (MethodName × Nat) := [(⟨"RevisionStoresModel", "placed", "(II)I"⟩, 13)]
theorem lw_r3 : ∀ q ∈ lw_privs_3, lw_okq q := List.forall_mem_cons.mpr ⟨lw_p32, fun _ h => absurd h List.not_mem_nil⟩
def lw_privs : List (MethodName × Nat) := lw_privs_1 ++ (lw_privs_2 ++ (lw_privs_3))
def lw_tbl : List Cond := k2_sels lw_privs ++ tables_1
theorem lw_privs_ok : ∀ q ∈ lw_privs, lw_okq q := by
  show ∀ q ∈ lw_privs_1 ++ (lw_privs_2 ++ (lw_privs_3)), lw_okq q
  exact List.forall_mem_append.mpr ⟨lw_r1, List.forall_mem_append.mpr ⟨lw_r2, lw_r3⟩⟩
end
section
/-! ===== BEGIN words of one list among another's, by their places ===== -/
theorem goodIn_r {big : List Cond} (ws : List Cond) (ps : List Nat) (hp : ws = ps.filterMap (fun i => big[i]?)) (h : ws.all goodWord = true) : GoodIn big ws := by
  intro w hw
  have h1 := List.all_eq_true.mp h w hw
  rw [hp] at hw
  obtain ⟨i, -, hi⟩ := List.mem_filterMap.mp hw
  have hm : w ∈ big := by first | exact List.mem_of_getElem? hi | exact List.getElem?_mem hi
  exact ⟨hm, good_of_word h1⟩
theorem goodIn_app {big a b : List Cond} (ha : GoodIn big a) (hb : GoodIn big b) : GoodIn big (a ++ b) := fun w h => (List.mem_append.mp h).elim (ha w) (hb w)
theorem goodIn_ca {big a b : List Cond} {c : Cond} (ha : GoodIn big (c :: a)) (hb : GoodIn big b) : GoodIn big (c :: (a ++ b)) := fun w h => (List.mem_cons.mp h).elim (fun e => ha w (List.mem_cons.mpr (Or.inl e))) (fun h => (List.mem_append.mp h).elim (fun h => ha w (List.mem_cons.mpr (Or.inr h))) (hb w))
theorem goodIn_sub {big ws : List Cond} (hm : ∀ w ∈ ws, w ∈ big) (h : ws.all goodWord = true) : GoodIn big ws := fun w hw => ⟨hm w hw, good_of_word (List.all_eq_true.mp h w hw)⟩
/-! ===== END ===== -/

/-! ===== BEGIN exceptions that leave a method, and their catching by the caller (launches without stack traces) ===== -/
section VXA
/-! The laws vx_back, vx_callV, vx_callS, vx_callSW, vx_throw0, vx_throwS follow proofs of the library, with one case more: JvmDerived/Free/Laws.lean (Back.of_free), Shelf42/LK1.lean (callV, callS), Shelf/KitTraced.lean (throwNew0V, throwNewS). -/
/-- where a method has thrown q: the class by its name, the cell, what was written, the world -/
def vx_T (XC : String → State → State → Prop) (st : State) (q : Addr) (t : State) (mc ms : Nat) (free : Addr → Prop) : Prop :=
  ∃ (E : String) (ce : Cell) (L : List Loc), XC E st t ∧ t.heap[q]? = some ce ∧ ce.vm = .none ∧ st.vm.findClass E = some ce.cls ∧ st.WarmedH t.vm ∧ st.sameButNew ({ t with vm := st.vm } : State) L mc ms ∧ ∀ z ∈ L, free z.base
def vx_Q (Qc : Array Value → State → Outcome → State → Prop) (XC : String → State → State → Prop) (mc ms : Nat) (free : Addr → Prop) : Array Value → State → Outcome → State → Prop := fun a st o t =>
  (Qc a st o t ∧ ∃ L, FrameEnd st o t L mc ms ∧ ∀ q ∈ L, free q.base) ∨ ∃ q, o = .threw q ∧ vx_T XC st q t mc ms free
/-- a callee that returns or throws -/
def vx_Met (l : Launch) (y : MethodName) (ws : List Cond) (rm : Room) (Pc : Array Value → State → Prop) (Qc : Array Value → State → Outcome → State → Prop) (XC : String → State → State → Prop) (mc ms : Nat) (free : Addr → Prop) : Prop :=
  MetFree l y (headSpec ws rm) Pc (fun _ _ _ _ _ => True) (vx_Q Qc XC mc ms free)
def vx_Post (XC : String → State → State → Prop) (mc ms : Nat) (free : Addr → Prop) : Pt → Array Value → Addr → Pt → Prop := fun A a q B =>
  ∃ (g : JFrame) (mk : MethodId) (t : State) (L : List Loc) (E : String) (ce : Cell), B.U.heap = t.heap ∧ B.U.vm = t.vm ∧ XC E (A.U.calling g mk a) t ∧ t.heap[q]? = some ce ∧ ce.vm = .none ∧ A.U.vm.findClass E = some ce.cls ∧ B.locs = A.locs ++ L ∧ (∀ z ∈ L, free z.base) ∧ B.cells = A.cells + mc ∧ B.slots = A.slots + ms
def vx_Back (l : Launch) (R : Room) (p : Program) (e : Env) (below : List Frame) (s : State) (sargs : Array Value) (y : MethodName) (len W9 : Nat)
    (Pre : Pt → Array Value → Prop) (Post : Pt → Array Value → Option Value → Pt → Prop) (PostX : Pt → Array Value → Addr → Pt → Prop) : Prop :=
  ∀ (m : MethodId) (meth : Method) (c : Code) (A : Pt) (g : JFrame) (ig : Instr) (mk : MethodId) (a : Array Value),
    Stand p l e R s m sargs below meth c A.U A.locs A.cells A.slots → g.method = m → g.locals.size = c.maxLocals → decode c.code g.pc = .ok (ig, len) →
    2 * g.monitorRoom + (g.stack.map fun v => v.category).sum ≤ W9 → A.U.methodNamed? y = some mk → Pre A a →
    (∃ (v : Option Value) (B : Pt), Stand p l e R s m sargs below meth c B.U B.locs B.cells B.slots ∧ Post A a v B ∧
      Steps p.tables e below (doInvoke e (A.U.setTop g) [] mk a).1 (B.U.setTop { g with pc := g.pc + len, stack := v.toList ++ g.stack })) ∨
    (∃ (q : Addr) (B : Pt), Stand p l e R s m sargs below meth c B.U B.locs B.cells B.slots ∧ PostX A a q B ∧
      Steps p.tables e below (doInvoke e (A.U.setTop g) [] mk a).1 ((B.U.setTop g).pushFrame (.throwing q)))
section Payer
variable {l : Launch} {R : Room} {p : Program} {e : Env} {below : List Frame} {s : State} {sargs : Array Value} {y : MethodName} {len W9 : Nat}
theorem vx_back {ws : List Cond} {rm : Room} {Pc : Array Value → State → Prop} {Qc : Array Value → State → Outcome → State → Prop} {XC : String → State → State → Prop} {mc ms : Nat} {free : Addr → Prop} {bytes : ByteArray} {maxL : Nat} {ret : Option FieldType}
    (hM : vx_Met l y ws rm Pc Qc XC mc ms free) (hblind : FrameBlind Pc) (hrc : rm.cells = mc) (hrs : rm.slots = ms)
    (hframes : rm.frames + 1 ≤ R.frames) (hlocals : W9 + (maxL + 11) + rm.locals ≤ R.locals)
    (hws : ∀ w ∈ ws, ∀ a' U, s.WarmedH U.vm → w.before a' U = true) (hcode : Cond.code y bytes maxL ret ∈ ws) (hinit : ∀ a' U, s.WarmedH U.vm → (Cond.initialized y.cls).before a' U = true) :
    vx_Back l R p e below s sargs y len W9 (PreOf R mc ms Pc) (PostOf Qc mc ms free) (vx_Post XC mc ms free) := by
  intro m meth c A g ig mk a X hg hsize hdg hW hn hp
  have h1 : (headSpec ws rm).pre.before a A.U = true := atoms_intro fun w hw => hws w hw _ _ X.warmed
  have h2 : (Cond.code y bytes maxL ret).before a A.U = true := hws _ hcode _ _ X.warmed
  have h3 : (Cond.initialized y.cls).before a A.U = true := hinit _ _ X.warmed
  have h4 : A.cells + (headSpec ws rm).room.cells ≤ R.cells := by rw [show (headSpec ws rm).room.cells = mc from hrc]; exact hp.1
  have h5 : A.slots + (headSpec ws rm).room.slots ≤ R.slots := by rw [show (headSpec ws rm).room.slots = ms from hrs]; exact hp.2.1
  have hPc : Pc a (A.U.calling g mk a) := hblind _ _ _ _ hp.2.2
  obtain ⟨U, Ls, c0, s0⟩ := A
  dsimp only [Pt.U, Pt.locs, Pt.cells, Pt.slots] at h1 h2 h3 h4 h5 X hn hPc ⊢
  obtain ⟨methY, cY, hmY, hcY, -, hlY, -, -, -, -⟩ := Cond.code_spec hn h2
  obtain ⟨kY, hkY, -⟩ := className_of_methodNamed hn
  have hinitY : kY.init = .initialized := Cond.initialized_spec (findClass_of_methodNamed hn) hkY h3
  have h : At U g.method c below := by rw [hg]; exact X.here
  have hlocals9 : W9 + (maxL + 11) + (headSpec ws rm).room.locals ≤ R.locals := hlocals
  have happ : (headSpec ws rm).appliesLoose y e.platform (U.calling g mk a) = true :=
    Spec.appliesLoose_calling (g := g) h hdg hn hkY hinitY
      (X.room_calling (g := g) (R' := (headSpec ws rm).room) hsize hmY hcY hframes (by rw [hlY]; omega) h4 h5) h1
  obtain ⟨mid, hmid⟩ := h.above
  have hfr : (U.setTop g).frames = (.java g :: mid) ++ below := by rw [State.frames_setTop' g h.top, hmid]; rfl
  obtain ⟨o, s₂, hsteps, -, hend, hq⟩ := Steps.callFree hM p X.admits X.cas X.clock (acts := []) hfr happ hPc trivial
  have hq' : vx_Q Qc XC mc ms free a (U.calling g mk a) o s₂ := hq
  rw [State.frames_setTop' g h.top] at hend
  obtain ⟨g₀, hg0⟩ := Option.isSome_iff_exists.mp h.top
  obtain ⟨r, hr⟩ := State.topJava?_eq_some.mp hg0
  have hr' : (({ U with heap := s₂.heap, slotsUsed := s₂.slotsUsed } : State).setVm s₂.vm).frames = .java g₀ :: r := hr
  rcases hq' with ⟨hqc, L, hfe, hL⟩ | ⟨q, rfl, E, ce, L, hx, hce, hcv, hcl, hW₂, hsm, hL⟩
  · obtain ⟨⟨v, rfl⟩, hW₂, e2, q2, q3, q4, q5, q6⟩ := id hfe
    have e3 : s₂ = ({ (U.calling g mk a).setFrames s₂.frames with heap := s₂.heap, slotsUsed := s₂.slotsUsed } : State).setVm s₂.vm := by
      have : s₂ = ({ s₂ with vm := (U.calling g mk a).vm } : State).setVm s₂.vm := rfl
      rw [e2] at this
      exact this
    obtain ⟨c₂, i₂, len₂, hc₂, hd₂, hf₂⟩ := hend
    have hW' : U.WarmedH s₂.vm := hW₂
    have hcc : c₂ = c := by
      have h1 : s₂.code? g.method = U.code? g.method := by
        rw [State.code?_eq, State.code?_eq, hW'.alike.method?]
      exact Option.some.inj (hc₂.symm.trans (h1.trans h.code))
    subst hcc
    have hlen : len₂ = len := by rw [hdg] at hd₂; cases hd₂; rfl
    subst hlen
    have hs₂ : s₂ = (({ U with heap := s₂.heap, slotsUsed := s₂.slotsUsed } : State).setVm s₂.vm).setTop { g with pc := g.pc + len₂, stack := v.toList ++ g.stack } := by
      refine e3.trans ?_
      rw [hf₂, State.calling_eq h.top, State.setFrames_setFrames, State.setTop_of_frames _ hr', hr]
      rfl
    have hsame : U.sameButNew ({ U with heap := s₂.heap, slotsUsed := s₂.slotsUsed } : State) L mc ms := by
      refine ⟨?_, q2, q3, q4, q5, q6⟩
      obtain ⟨t, ht, -⟩ := State.frames_cons hr
      show ({ U with heap := s₂.heap, slotsUsed := s₂.slotsUsed } : State) = { U.setFrames U.frames with heap := s₂.heap, slotsUsed := s₂.slotsUsed }
      rw [State.setFrames_self ht]
    subst hg
    refine Or.inl ⟨v, ⟨(({ U with heap := s₂.heap, slotsUsed := s₂.slotsUsed } : State).setVm s₂.vm), Ls ++ L, c0 + mc, s0 + ms⟩,
      ⟨X.admits, X.cas, X.clock, X.frames, X.room, X.hears, X.method, X.code, (X.here.setHeapUsed s₂.heap s₂.slotsUsed).setVm hW'.alike, X.tail, State.WarmedH.trans X.warmed hW', X.limits, X.bytes, X.same.trans (hsame.setVm s.vm)⟩,
      ⟨g, mk, s₂, L, rfl, rfl, hqc, rfl, hL, rfl, rfl⟩, ?_⟩
    show Steps p.tables e below _ ((({ U with heap := s₂.heap, slotsUsed := s₂.slotsUsed } : State).setVm s₂.vm).setTop { g with pc := g.pc + len₂, stack := v.toList ++ g.stack })
    rw [← hs₂]
    exact hsteps
  · obtain ⟨e2, q2, q3, q4, q5, q6⟩ := id hsm
    have e3 : s₂ = ({ (U.calling g mk a).setFrames s₂.frames with heap := s₂.heap, slotsUsed := s₂.slotsUsed } : State).setVm s₂.vm := by
      have : s₂ = ({ s₂ with vm := (U.calling g mk a).vm } : State).setVm s₂.vm := rfl
      rw [e2] at this
      exact this
    have hf₂ : s₂.frames = .throwing q :: .java g :: U.frames.tail := hend
    have hW' : U.WarmedH s₂.vm := hW₂
    have hs₂ : s₂ = ((({ U with heap := s₂.heap, slotsUsed := s₂.slotsUsed } : State).setVm s₂.vm).setTop g).pushFrame (.throwing q) := by
      refine e3.trans ?_
      rw [hf₂, State.calling_eq h.top, State.setFrames_setFrames, State.pushFrame, State.frames_setTop _ hr', State.setTop_of_frames _ hr', State.setFrames_setFrames, hr]
      rfl
    have hsame : U.sameButNew ({ U with heap := s₂.heap, slotsUsed := s₂.slotsUsed } : State) L mc ms := by
      refine ⟨?_, q2, q3, q4, q5, q6⟩
      obtain ⟨t, ht, -⟩ := State.frames_cons hr
      show ({ U with heap := s₂.heap, slotsUsed := s₂.slotsUsed } : State) = { U.setFrames U.frames with heap := s₂.heap, slotsUsed := s₂.slotsUsed }
      rw [State.setFrames_self ht]
    subst hg
    refine Or.inr ⟨q, ⟨(({ U with heap := s₂.heap, slotsUsed := s₂.slotsUsed } : State).setVm s₂.vm), Ls ++ L, c0 + mc, s0 + ms⟩,
      ⟨X.admits, X.cas, X.clock, X.frames, X.room, X.hears, X.method, X.code, (X.here.setHeapUsed s₂.heap s₂.slotsUsed).setVm hW'.alike, X.tail, State.WarmedH.trans X.warmed hW', X.limits, X.bytes, X.same.trans (hsame.setVm s.vm)⟩,
      ⟨g, mk, s₂, L, E, ce, rfl, rfl, hx, hce, hcv, hcl, rfl, hL, rfl, rfl⟩, ?_⟩
    show Steps p.tables e below _ (((({ U with heap := s₂.heap, slotsUsed := s₂.slotsUsed } : State).setVm s₂.vm).setTop g).pushFrame (.throwing q))
    rw [← hs₂]
    exact hsteps
end Payer
section Calls
variable {p : Program} {l : Launch} {e : Env} {R : Room} {s : State} {m : MethodId} {args : Array Value} {below : List Frame} {meth : Method} {c : Code} {T : State} {locs : List Loc} {cells slots : Nat}
theorem vx_callV (X : Stand p l e R s m args below meth c T locs cells slots) (hexec : p.tables.exec = Jvm.exec) {own C : String} {index : Nat} {y : MethodName} {bytes : ByteArray} {maxL : Nat} {ret : Option FieldType}
    (hown : s.vm.findClass own = some m.cls) (hlink : (Cond.methodLink own index y).before args s = true) (hinst : (Cond.instanceMethod y).before args s = true) (hsel : (Cond.selects C y y).before args s = true)
    (hcode : (Cond.code y bytes maxL ret).before args s = true) (hy : y.cls ≠ "java/lang/invoke/MethodHandle" ∧ y.cls ≠ "java/lang/invoke/VarHandle")
    {W9 : Nat} {Pre : Pt → Array Value → Prop} {Post : Pt → Array Value → Option Value → Pt → Prop} {PostX : Pt → Array Value → Addr → Pt → Prop} (hK : vx_Back l R p e below s args y 3 W9 Pre Post PostX)
    {b : Addr} {cellB : Cell} (hcell : T.heap[b]? = some cellB) (hobj : cellB.vm.isStatics = false) (hcls : s.vm.findClass C = some cellB.cls)
    {g : JFrame} (hg : g.method = m) (hsize : g.locals.size = c.maxLocals) {argsL rest : List Value} (hlen : ∀ sig, parseMethodDescriptor y.desc = some sig → argsL.length = sig.parameters.length)
    (hstack : g.stack = argsL.reverse ++ .ref b :: rest) (hW : 2 * g.monitorRoom + (rest.map fun v => v.category).sum ≤ W9) (hdg : decode c.code g.pc = .ok (.invokevirtual index, 3))
    (hpre : ∀ vm₁, s.WarmedH vm₁ → Pre ⟨T.setVm vm₁, locs, cells, slots⟩ (Value.ref b :: argsL).toArray) :
    (∃ (v : Option Value) (vm₁ : Vm) (B : Pt), s.WarmedH vm₁ ∧ Stand p l e R s m args below meth c B.U B.locs B.cells B.slots ∧ Post ⟨T.setVm vm₁, locs, cells, slots⟩ (Value.ref b :: argsL).toArray v B ∧
      ∀ target, Steps p.tables e below (B.U.setTop { g with pc := g.pc + 3, stack := v.toList ++ rest }) target → Steps p.tables e below (T.setTop g) target) ∨
    (∃ (q : Addr) (vm₁ : Vm) (B : Pt), s.WarmedH vm₁ ∧ Stand p l e R s m args below meth c B.U B.locs B.cells B.slots ∧ PostX ⟨T.setVm vm₁, locs, cells, slots⟩ (Value.ref b :: argsL).toArray q B ∧
      Steps p.tables e below (T.setTop g) ((B.U.setTop { g with stack := rest }).pushFrame (.throwing q))) := by
  obtain ⟨mk, methM, hnamed, hmethM, hstM, habM⟩ := Cond.instanceMethod_spec hinst
  obtain ⟨methM', cM, hmethM', -, -, -, -, -, -, hsigM⟩ := Cond.code_spec hnamed hcode
  cases hmethM.symm.trans hmethM'
  obtain ⟨c2, r2, m2, q1, q2, q3, q4, kP, hkP, hkPi⟩ := Cond.selects_spec hsel
  cases hcls.symm.trans q1
  cases (State.methodFound?_of_named hnamed hy).symm.trans q2
  cases hnamed.symm.trans q3
  have hselP : selectMethod e.platform s.vm cellB.cls mk = .method mk := by rw [Launch.admits_selectMethod X.admits]; exact q4
  obtain ⟨vm₁, X₁, hstep₁⟩ := X.invokevirtual hexec hown hlink hnamed hmethM hstM hkP hkPi hy (a := b) (cell := cellB) hcell
    (fun z h => by rw [h] at hobj; cases hobj) hselP hmethM habM hkP hkPi (g := g) hg (argsL := argsL) (rest := rest) (hlen _ hsigM) hstack hdg
  rcases hK m meth c ⟨T.setVm vm₁, locs, cells, slots⟩ { g with stack := rest } (.invokevirtual index) mk (Value.ref b :: argsL).toArray X₁ hg hsize hdg hW (X₁.named hnamed) (hpre vm₁ X₁.warmed) with ⟨v, B, X', hpost, hsteps⟩ | ⟨q, B, X', hpost, hsteps⟩
  · exact Or.inl ⟨v, vm₁, B, X₁.warmed, X', hpost, fun target h => hstep₁ _ fun acts => by rw [doInvoke_state]; exact hsteps.trans h⟩
  · exact Or.inr ⟨q, vm₁, B, X₁.warmed, X', hpost, hstep₁ _ fun acts => by rw [doInvoke_state]; exact hsteps⟩
theorem vx_callS (X : Stand p l e R s m args below meth c T locs cells slots) (hexec : p.tables.exec = Jvm.exec) {own : String} {index : Nat} {y : MethodName} {bytes : ByteArray} {maxL : Nat} {ret : Option FieldType}
    (hown : s.vm.findClass own = some m.cls) (hlink : (Cond.methodLink own index y).before args s = true) (hstat : (Cond.static y).before args s = true) (hinit : (Cond.initialized y.cls).before args s = true)
    (hcode : (Cond.code y bytes maxL ret).before args s = true) (hy : y.cls ≠ "java/lang/invoke/MethodHandle" ∧ y.cls ≠ "java/lang/invoke/VarHandle")
    {W9 : Nat} {Pre : Pt → Array Value → Prop} {Post : Pt → Array Value → Option Value → Pt → Prop} {PostX : Pt → Array Value → Addr → Pt → Prop} (hK : vx_Back l R p e below s args y 3 W9 Pre Post PostX)
    {g : JFrame} (hg : g.method = m) (hsize : g.locals.size = c.maxLocals) {argsL rest : List Value} (hlen : ∀ sig, parseMethodDescriptor y.desc = some sig → argsL.length = sig.parameters.length)
    (hstack : g.stack = argsL.reverse ++ rest) (hW : 2 * g.monitorRoom + (rest.map fun v => v.category).sum ≤ W9) (hdg : decode c.code g.pc = .ok (.invokestatic index, 3))
    (hpre : ∀ vm₁, s.WarmedH vm₁ → Pre ⟨T.setVm vm₁, locs, cells, slots⟩ argsL.toArray) :
    (∃ (v : Option Value) (vm₁ : Vm) (B : Pt), s.WarmedH vm₁ ∧ Stand p l e R s m args below meth c B.U B.locs B.cells B.slots ∧ Post ⟨T.setVm vm₁, locs, cells, slots⟩ argsL.toArray v B ∧
      ∀ target, Steps p.tables e below (B.U.setTop { g with pc := g.pc + 3, stack := v.toList ++ rest }) target → Steps p.tables e below (T.setTop g) target) ∨
    (∃ (q : Addr) (vm₁ : Vm) (B : Pt), s.WarmedH vm₁ ∧ Stand p l e R s m args below meth c B.U B.locs B.cells B.slots ∧ PostX ⟨T.setVm vm₁, locs, cells, slots⟩ argsL.toArray q B ∧
      Steps p.tables e below (T.setTop g) ((B.U.setTop { g with stack := rest }).pushFrame (.throwing q))) := by
  obtain ⟨mk, hnamed⟩ := Cond.code_named hcode
  obtain ⟨methM, cM, hmethM, -, -, -, -, -, -, hsigM⟩ := Cond.code_spec hnamed hcode
  have hstatic : methM.isStatic = true := Cond.static_spec hnamed hmethM hstat
  obtain ⟨kP, hkP, -⟩ := className_of_methodNamed hnamed
  have hinitP : kP.init = .initialized := Cond.initialized_spec (findClass_of_methodNamed hnamed) hkP hinit
  obtain ⟨vm₁, X₁, hstep₁⟩ := X.invokestatic hexec hown hlink hnamed hmethM hstatic hkP hinitP hy (g := g) hg (argsL := argsL) (rest := rest) (hlen _ hsigM) hstack hdg
  rcases hK m meth c ⟨T.setVm vm₁, locs, cells, slots⟩ { g with stack := rest } (.invokestatic index) mk argsL.toArray X₁ hg hsize hdg hW (X₁.named hnamed) (hpre vm₁ X₁.warmed) with ⟨v, B, X', hpost, hsteps⟩ | ⟨q, B, X', hpost, hsteps⟩
  · exact Or.inl ⟨v, vm₁, B, X₁.warmed, X', hpost, fun target h => hstep₁ _ fun acts => by rw [doInvoke_state]; exact hsteps.trans h⟩
  · exact Or.inr ⟨q, vm₁, B, X₁.warmed, X', hpost, hstep₁ _ fun acts => by rw [doInvoke_state]; exact hsteps⟩
end Calls
theorem vx_cls {s : State} {T : State} {vm₁ : Vm} {E : String} {k : ClassId} (hW : s.WarmedH vm₁) (h : (T.setVm vm₁).vm.findClass E = some k) : s.vm.findClass E = some k := by
  have h1 : vm₁.findClass E = some k := h
  rw [hW.alike.findClass] at h1
  exact h1
/-- the method's frame g, with q thrown over it -/
def vx_W (p : Program) (l : Launch) (e : Env) (R : Room) (s : State) (m : MethodId) (args : Array Value) (below : List Frame) (meth : Method) (c : Code) (H : Heap) (locs : List Loc) (cells slots : Nat) (Q : State → Prop) (g : JFrame) (q : Addr) : Prop :=
  ∀ T : State, T.heap = H → Stand p l e R s m args below meth c T locs cells slots → ∃ t, Steps p.tables e below ((T.setTop g).pushFrame (.throwing q)) t ∧ Q t
def vx_Run (p : Program) (l : Launch) (e : Env) (R : Room) (s : State) (m : MethodId) (args : Array Value) (below : List Frame) (meth : Method) (c : Code) (H : Heap) (locs : List Loc) (cells slots mc ms : Nat) (g : JFrame) (rest : List Value) (Qa : State → Outcome → State → Prop) (XC : String → State → State → Prop) (free : Addr → Prop) : Prop :=
  ∀ T : State, T.heap = H → Stand p l e R s m args below meth c T locs cells slots →
    (∃ (v : Option Value) (st₀ t T' : State) (L : List Loc), st₀.heap = H ∧ Stand p l e R s m args below meth c T' (locs ++ L) (cells + mc) (slots + ms) ∧ (∀ q ∈ L, free q.base) ∧ T'.heap = t.heap ∧ T'.vm = t.vm ∧ Qa st₀ (.returned v) t ∧
      Goes p e below T g T' { g with pc := g.pc + 3, stack := v.toList ++ rest }) ∨
    (∃ (q : Addr) (st₀ t T' : State) (L : List Loc) (E : String) (ce : Cell), st₀.heap = H ∧ Stand p l e R s m args below meth c T' (locs ++ L) (cells + mc) (slots + ms) ∧ (∀ z ∈ L, free z.base) ∧ T'.heap = t.heap ∧ T'.vm = t.vm ∧ XC E st₀ t ∧ t.heap[q]? = some ce ∧ ce.vm = .none ∧ s.vm.findClass E = some ce.cls ∧
      Steps p.tables e below (T.setTop g) ((T'.setTop { g with stack := rest }).pushFrame (.throwing q)))
def vx_X {S : Type} (px : S → Prop) (B : String → S → State → Prop) (A : Nat → Prop) : String → State → State → Prop := fun E st t => ∃ u : S, px u ∧ B E u t ∧ va_F A st t
section Runs
variable {p : Program} {l : Launch} {e : Env} {R : Room} {s : State} {m : MethodId} {args : Array Value} {below : List Frame} {meth : Method} {c : Code} {H : Heap} {locs : List Loc} {cells slots : Nat}
variable {y : MethodName} {bytes cc : ByteArray} {maxL nL mc ms n index : Nat} {ret : Option FieldType} {ws : List Cond} {rm : Room} {Pc : Array Value → State → Prop} {Qc : Array Value → State → Outcome → State → Prop} {XC : String → State → State → Prop} {free : Addr → Prop} {Ts : List Cond} {own C : String} {b : Addr} {As rest : List Value} {g : JFrame}
theorem vx_callBack (cb : CallB R s args own index y bytes maxL ret ws rm mc ms n) (hM : vx_Met l y ws rm Pc Qc XC mc ms free) (hbl : FrameBlind Pc) : vx_Back l R p e below s args y 3 8 (PreOf R mc ms Pc) (PostOf Qc mc ms free) (vx_Post XC mc ms free) := by
  obtain ⟨hrc, hrs, hfr, hlo, hws, hcw, -, hini, -⟩ := cb
  exact vx_back (bytes := bytes) (maxL := maxL) (ret := ret) hM hbl hrc hrs hfr hlo hws hcw (fun a' U hW => word_at hW (Or.inl (by first | rfl | simp [Cond.onTables, Cond.keeps, Cond.steady])) hini)
theorem vx_runV (S : CallFix p m c cc nL s args Ts own) (hM : vx_Met l y ws rm Pc Qc XC mc ms free) (cw : CallW R s args own C index y bytes maxL ret ws rm mc ms n) (hp : PreV s H C b Pc As)
    (hg : g.method = m) (hn : As.length = n) (hsize : g.locals.size = nL) (hstack : g.stack = As.reverse ++ .ref b :: rest) (hW : 2 * g.monitorRoom + (rest.map fun v => v.category).sum ≤ 8) (hdg : decode cc g.pc = .ok (.invokevirtual index, 3)) (hf : cells + mc ≤ R.cells ∧ slots + ms ≤ R.slots) :
    vx_Run p l e R s m args below meth c H locs cells slots mc ms g rest (Qc (Value.ref b :: As).toArray) XC free := by
  have hK : vx_Back l R p e below s args y 3 8 (PreOf R mc ms Pc) (PostOf Qc mc ms free) (vx_Post XC mc ms free) := vx_callBack cw.1 hM hp.1
  obtain ⟨⟨-, -, -, -, -, -, hcode, -, hy, hlen, hl⟩, hin, hse⟩ := cw
  obtain ⟨hx, hb, hml, ho, -⟩ := S
  obtain ⟨-, ⟨cellB, hcB, hoB, hclB⟩, hPc⟩ := hp
  intro T hT X
  rcases vx_callV X hx (C := C) (bytes := bytes) (maxL := maxL) (ret := ret) ho hl hin hse hcode hy hK (by rw [hT]; exact hcB) hoB hclB hg (hsize.trans hml.symm) (argsL := As) (rest := rest) (fun sig h => hn.trans (hlen sig h)) hstack hW (by rw [hb]; exact hdg)
    (fun vm₁ hW₁ => ⟨hf.1, hf.2, hPc (T.setVm vm₁) hT hW₁⟩) with ⟨v, vm₁, ⟨U', l2, c2, s2⟩, hW₁, X', ⟨g', mk, t, L, e1, e2, hq, h1, hL, h2, h3⟩, st⟩ | ⟨q, vm₁, ⟨U', l2, c2, s2⟩, hW₁, X', ⟨g', mk, t, L, E, ce, e1, e2, hq, hce, hcv, hcl, h1, hL, h2, h3⟩, st⟩
  · dsimp only [Pt.U, Pt.locs, Pt.cells, Pt.slots] at X' e1 e2 h1 h2 h3 st
    subst h1; subst h2; subst h3
    exact Or.inl ⟨v, (T.setVm vm₁).calling g' mk (Value.ref b :: As).toArray, t, U', L, hT, X', hL, e1, e2, hq, st⟩
  · dsimp only [Pt.U, Pt.locs, Pt.cells, Pt.slots] at X' e1 e2 h1 h2 h3 st hcl
    subst h1; subst h2; subst h3
    exact Or.inr ⟨q, (T.setVm vm₁).calling g' mk (Value.ref b :: As).toArray, t, U', L, E, ce, hT, X', hL, e1, e2, hq, hce, hcv, vx_cls hW₁ hcl, st⟩
theorem vx_runS (S : CallFix p m c cc nL s args Ts own) (hM : vx_Met l y ws rm Pc Qc XC mc ms free) (cw : CallB R s args own index y bytes maxL ret ws rm mc ms n ∧ (Cond.static y).before args s = true) (hp : PreS s H Pc As)
    (hg : g.method = m) (hn : As.length = n) (hsize : g.locals.size = nL) (hstack : g.stack = As.reverse ++ rest) (hW : 2 * g.monitorRoom + (rest.map fun v => v.category).sum ≤ 8) (hdg : decode cc g.pc = .ok (.invokestatic index, 3)) (hf : cells + mc ≤ R.cells ∧ slots + ms ≤ R.slots) :
    vx_Run p l e R s m args below meth c H locs cells slots mc ms g rest (Qc As.toArray) XC free := by
  have hK : vx_Back l R p e below s args y 3 8 (PreOf R mc ms Pc) (PostOf Qc mc ms free) (vx_Post XC mc ms free) := vx_callBack cw.1 hM hp.1
  obtain ⟨⟨-, -, -, -, -, -, hcode, hini, hy, hlen, hl⟩, hstt⟩ := cw
  obtain ⟨hx, hb, hml, ho, -⟩ := S
  intro T hT X
  rcases vx_callS X hx (bytes := bytes) (maxL := maxL) (ret := ret) ho hl hstt hini hcode hy hK hg (hsize.trans hml.symm) (argsL := As) (rest := rest) (fun sig h => hn.trans (hlen sig h)) hstack hW (by rw [hb]; exact hdg)
    (fun vm₁ hW₁ => ⟨hf.1, hf.2, hp.2 (T.setVm vm₁) hT hW₁⟩) with ⟨v, vm₁, ⟨U', l2, c2, s2⟩, hW₁, X', ⟨g', mk, t, L, e1, e2, hq, h1, hL, h2, h3⟩, st⟩ | ⟨q, vm₁, ⟨U', l2, c2, s2⟩, hW₁, X', ⟨g', mk, t, L, E, ce, e1, e2, hq, hce, hcv, hcl, h1, hL, h2, h3⟩, st⟩
  · dsimp only [Pt.U, Pt.locs, Pt.cells, Pt.slots] at X' e1 e2 h1 h2 h3 st
    subst h1; subst h2; subst h3
    exact Or.inl ⟨v, (T.setVm vm₁).calling g' mk As.toArray, t, U', L, hT, X', hL, e1, e2, hq, st⟩
  · dsimp only [Pt.U, Pt.locs, Pt.cells, Pt.slots] at X' e1 e2 h1 h2 h3 st hcl
    subst h1; subst h2; subst h3
    exact Or.inr ⟨q, (T.setVm vm₁).calling g' mk As.toArray, t, U', L, E, ce, hT, X', hL, e1, e2, hq, hce, hcv, vx_cls hW₁ hcl, st⟩
end Runs
section Rows
variable {p : Program} {l : Launch} {e : Env} {R : Room} {s : State} {m : MethodId} {args : Array Value} {below : List Frame} {meth : Method} {c : Code} {H : Heap} {locs : List Loc} {cells slots : Nat} {Q : State → Prop}
variable {mc ms : Nat} {free : Addr → Prop} {A0 A1 : Nat → Prop} {H0 : Heap} {a : Array Value} {pc : Nat} {ls : Array Slot} {st0 rest : List Value}
theorem vx_keep {st₀ t T' : State} {L : List Loc} (h0 : st₀.heap = H) (e1 : T'.heap = t.heap) (hS : va_S A0 H0 H locs) (hA : ∀ q, q < H.size → A1 q → A0 q) (hf : ∀ q, free q → A0 q) (hL : ∀ q ∈ L, free q.base) (hF : va_F A1 st₀ t) :
    H.size ≤ T'.heap.size ∧ (∀ q : Nat, q < H.size → ¬ A1 q → T'.heap[q]? = H[q]?) ∧ va_S A0 H0 T'.heap (locs ++ L) := by
  obtain ⟨hz, hk⟩ := hF
  rw [h0] at hz hk
  exact ⟨by rw [e1]; exact hz, fun q h1 h2 => by rw [e1]; exact hk q h1 h2,
    ⟨Nat.le_trans hS.1 (by rw [e1]; exact hz), fun q h1 h2 => by rw [e1, hk q (Nat.lt_of_lt_of_le h1 hS.1) (fun z => h2 (hA q (Nat.lt_of_lt_of_le h1 hS.1) z))]; exact hS.2.1 q h1 h2, fun q hq => by
      rcases List.mem_append.mp hq with h | h
      · exact hS.2.2 q h
      · exact hf _ (hL q h)⟩⟩
theorem vx_calli {S SX : Type} {post : Int32 → S → Prop} {px : SX → Prop} {B : S → State → Prop} {BX : String → SX → State → Prop} {AX : Nat → Prop} (hr : vx_Run p l e R s m args below meth c H locs cells slots mc ms (F0 m pc ls st0) rest (va_Qi post B A1 a) (vx_X px BX AX) free) (hS : va_S A0 H0 H locs) (hA : ∀ q, q < H.size → A1 q → A0 q) (hf : ∀ q, free q → A0 q) (hAX : ∀ q, q < H.size → AX q → A0 q)
    (kx : ∀ (E : String) (ce : Cell) (q9 : Addr) (u : SX) (t : State) (H1 : Heap) (locs1 : List Loc), t.heap = H1 → s.vm.Alike t.vm → px u → BX E u t → H.size ≤ H1.size → (∀ q : Nat, q < H.size → ¬ AX q → H1[q]? = H[q]?) → va_S A0 H0 H1 locs1 → H1[q9]? = some ce → ce.vm = .none → s.vm.findClass E = some ce.cls → vx_W p l e R s m args below meth c H1 locs1 (cells + mc) (slots + ms) Q (F0 m pc ls rest) q9)
    (kk : ∀ (r : Int32) (u : S) (t : State) (H1 : Heap) (locs1 : List Loc), t.heap = H1 → s.vm.Alike t.vm → post r u → B u t → H.size ≤ H1.size → (∀ q : Nat, q < H.size → ¬ A1 q → H1[q]? = H[q]?) → va_S A0 H0 H1 locs1 → W p l e R s m args below meth c H1 locs1 (cells + mc) (slots + ms) Q (F0 m (pc + 3) ls (.int r :: rest))) : W p l e R s m args below meth c H locs cells slots Q (F0 m pc ls st0) := by
  intro T hT X
  rcases hr T hT X with ⟨v, st₀, t, T', L, h0, X', hL, e1, e2, ⟨⟨r, u, hv, hp, hb⟩, hF⟩, st⟩ | ⟨q, st₀, t, T', L, E, ce, h0, X', hL, e1, e2, ⟨u, hp, hb, hF⟩, hce, hcv, hcl, st⟩
  · cases hv
    obtain ⟨k1, k2, k3⟩ := vx_keep h0 e1 hS hA hf hL hF
    obtain ⟨t2, a1, b1⟩ := kk r u t T'.heap (locs ++ L) e1.symm (by rw [← e2]; exact X'.warmed.alike) hp hb k1 k2 k3 T' rfl X'
    exact ⟨t2, st t2 a1, b1⟩
  · obtain ⟨k1, k2, k3⟩ := vx_keep h0 e1 hS hAX hf hL hF
    obtain ⟨t2, a1, b1⟩ := kx E ce q u t T'.heap (locs ++ L) e1.symm (by rw [← e2]; exact X'.warmed.alike) hp hb k1 k2 k3 (by rw [e1]; exact hce) hcv hcl T' rfl X'
    exact ⟨t2, st.trans a1, b1⟩
theorem vx_calll {S SX : Type} {post : Int64 → S → Prop} {px : SX → Prop} {B : S → State → Prop} {BX : String → SX → State → Prop} {AX : Nat → Prop} (hr : vx_Run p l e R s m args below meth c H locs cells slots mc ms (F0 m pc ls st0) rest (va_Ql post B A1 a) (vx_X px BX AX) free) (hS : va_S A0 H0 H locs) (hA : ∀ q, q < H.size → A1 q → A0 q) (hf : ∀ q, free q → A0 q) (hAX : ∀ q, q < H.size → AX q → A0 q)
    (kx : ∀ (E : String) (ce : Cell) (q9 : Addr) (u : SX) (t : State) (H1 : Heap) (locs1 : List Loc), t.heap = H1 → s.vm.Alike t.vm → px u → BX E u t → H.size ≤ H1.size → (∀ q : Nat, q < H.size → ¬ AX q → H1[q]? = H[q]?) → va_S A0 H0 H1 locs1 → H1[q9]? = some ce → ce.vm = .none → s.vm.findClass E = some ce.cls → vx_W p l e R s m args below meth c H1 locs1 (cells + mc) (slots + ms) Q (F0 m pc ls rest) q9)
    (kk : ∀ (r : Int64) (u : S) (t : State) (H1 : Heap) (locs1 : List Loc), t.heap = H1 → s.vm.Alike t.vm → post r u → B u t → H.size ≤ H1.size → (∀ q : Nat, q < H.size → ¬ A1 q → H1[q]? = H[q]?) → va_S A0 H0 H1 locs1 → W p l e R s m args below meth c H1 locs1 (cells + mc) (slots + ms) Q (F0 m (pc + 3) ls (.long r :: rest))) : W p l e R s m args below meth c H locs cells slots Q (F0 m pc ls st0) := by
  intro T hT X
  rcases hr T hT X with ⟨v, st₀, t, T', L, h0, X', hL, e1, e2, ⟨⟨r, u, hv, hp, hb⟩, hF⟩, st⟩ | ⟨q, st₀, t, T', L, E, ce, h0, X', hL, e1, e2, ⟨u, hp, hb, hF⟩, hce, hcv, hcl, st⟩
  · cases hv
    obtain ⟨k1, k2, k3⟩ := vx_keep h0 e1 hS hA hf hL hF
    obtain ⟨t2, a1, b1⟩ := kk r u t T'.heap (locs ++ L) e1.symm (by rw [← e2]; exact X'.warmed.alike) hp hb k1 k2 k3 T' rfl X'
    exact ⟨t2, st t2 a1, b1⟩
  · obtain ⟨k1, k2, k3⟩ := vx_keep h0 e1 hS hAX hf hL hF
    obtain ⟨t2, a1, b1⟩ := kx E ce q u t T'.heap (locs ++ L) e1.symm (by rw [← e2]; exact X'.warmed.alike) hp hb k1 k2 k3 (by rw [e1]; exact hce) hcv hcl T' rfl X'
    exact ⟨t2, st.trans a1, b1⟩
theorem vx_callf {S SX : Type} {post : UInt32 → S → Prop} {px : SX → Prop} {B : S → State → Prop} {BX : String → SX → State → Prop} {AX : Nat → Prop} (hr : vx_Run p l e R s m args below meth c H locs cells slots mc ms (F0 m pc ls st0) rest (va_Qf post B A1 a) (vx_X px BX AX) free) (hS : va_S A0 H0 H locs) (hA : ∀ q, q < H.size → A1 q → A0 q) (hf : ∀ q, free q → A0 q) (hAX : ∀ q, q < H.size → AX q → A0 q)
    (kx : ∀ (E : String) (ce : Cell) (q9 : Addr) (u : SX) (t : State) (H1 : Heap) (locs1 : List Loc), t.heap = H1 → s.vm.Alike t.vm → px u → BX E u t → H.size ≤ H1.size → (∀ q : Nat, q < H.size → ¬ AX q → H1[q]? = H[q]?) → va_S A0 H0 H1 locs1 → H1[q9]? = some ce → ce.vm = .none → s.vm.findClass E = some ce.cls → vx_W p l e R s m args below meth c H1 locs1 (cells + mc) (slots + ms) Q (F0 m pc ls rest) q9)
    (kk : ∀ (r : UInt32) (u : S) (t : State) (H1 : Heap) (locs1 : List Loc), t.heap = H1 → s.vm.Alike t.vm → post r u → B u t → H.size ≤ H1.size → (∀ q : Nat, q < H.size → ¬ A1 q → H1[q]? = H[q]?) → va_S A0 H0 H1 locs1 → W p l e R s m args below meth c H1 locs1 (cells + mc) (slots + ms) Q (F0 m (pc + 3) ls (.float r :: rest))) : W p l e R s m args below meth c H locs cells slots Q (F0 m pc ls st0) := by
  intro T hT X
  rcases hr T hT X with ⟨v, st₀, t, T', L, h0, X', hL, e1, e2, ⟨⟨r, u, hv, hp, hb⟩, hF⟩, st⟩ | ⟨q, st₀, t, T', L, E, ce, h0, X', hL, e1, e2, ⟨u, hp, hb, hF⟩, hce, hcv, hcl, st⟩
  · cases hv
    obtain ⟨k1, k2, k3⟩ := vx_keep h0 e1 hS hA hf hL hF
    obtain ⟨t2, a1, b1⟩ := kk r u t T'.heap (locs ++ L) e1.symm (by rw [← e2]; exact X'.warmed.alike) hp hb k1 k2 k3 T' rfl X'
    exact ⟨t2, st t2 a1, b1⟩
  · obtain ⟨k1, k2, k3⟩ := vx_keep h0 e1 hS hAX hf hL hF
    obtain ⟨t2, a1, b1⟩ := kx E ce q u t T'.heap (locs ++ L) e1.symm (by rw [← e2]; exact X'.warmed.alike) hp hb k1 k2 k3 (by rw [e1]; exact hce) hcv hcl T' rfl X'
    exact ⟨t2, st.trans a1, b1⟩
theorem vx_calld {S SX : Type} {post : UInt64 → S → Prop} {px : SX → Prop} {B : S → State → Prop} {BX : String → SX → State → Prop} {AX : Nat → Prop} (hr : vx_Run p l e R s m args below meth c H locs cells slots mc ms (F0 m pc ls st0) rest (va_Qd post B A1 a) (vx_X px BX AX) free) (hS : va_S A0 H0 H locs) (hA : ∀ q, q < H.size → A1 q → A0 q) (hf : ∀ q, free q → A0 q) (hAX : ∀ q, q < H.size → AX q → A0 q)
    (kx : ∀ (E : String) (ce : Cell) (q9 : Addr) (u : SX) (t : State) (H1 : Heap) (locs1 : List Loc), t.heap = H1 → s.vm.Alike t.vm → px u → BX E u t → H.size ≤ H1.size → (∀ q : Nat, q < H.size → ¬ AX q → H1[q]? = H[q]?) → va_S A0 H0 H1 locs1 → H1[q9]? = some ce → ce.vm = .none → s.vm.findClass E = some ce.cls → vx_W p l e R s m args below meth c H1 locs1 (cells + mc) (slots + ms) Q (F0 m pc ls rest) q9)
    (kk : ∀ (r : UInt64) (u : S) (t : State) (H1 : Heap) (locs1 : List Loc), t.heap = H1 → s.vm.Alike t.vm → post r u → B u t → H.size ≤ H1.size → (∀ q : Nat, q < H.size → ¬ A1 q → H1[q]? = H[q]?) → va_S A0 H0 H1 locs1 → W p l e R s m args below meth c H1 locs1 (cells + mc) (slots + ms) Q (F0 m (pc + 3) ls (.double r :: rest))) : W p l e R s m args below meth c H locs cells slots Q (F0 m pc ls st0) := by
  intro T hT X
  rcases hr T hT X with ⟨v, st₀, t, T', L, h0, X', hL, e1, e2, ⟨⟨r, u, hv, hp, hb⟩, hF⟩, st⟩ | ⟨q, st₀, t, T', L, E, ce, h0, X', hL, e1, e2, ⟨u, hp, hb, hF⟩, hce, hcv, hcl, st⟩
  · cases hv
    obtain ⟨k1, k2, k3⟩ := vx_keep h0 e1 hS hA hf hL hF
    obtain ⟨t2, a1, b1⟩ := kk r u t T'.heap (locs ++ L) e1.symm (by rw [← e2]; exact X'.warmed.alike) hp hb k1 k2 k3 T' rfl X'
    exact ⟨t2, st t2 a1, b1⟩
  · obtain ⟨k1, k2, k3⟩ := vx_keep h0 e1 hS hAX hf hL hF
    obtain ⟨t2, a1, b1⟩ := kx E ce q u t T'.heap (locs ++ L) e1.symm (by rw [← e2]; exact X'.warmed.alike) hp hb k1 k2 k3 (by rw [e1]; exact hce) hcv hcl T' rfl X'
    exact ⟨t2, st.trans a1, b1⟩
theorem vx_callv {S SX : Type} {post : S → Prop} {px : SX → Prop} {B : S → State → Prop} {BX : String → SX → State → Prop} {AX : Nat → Prop} (hr : vx_Run p l e R s m args below meth c H locs cells slots mc ms (F0 m pc ls st0) rest (va_Qv post B A1 a) (vx_X px BX AX) free) (hS : va_S A0 H0 H locs) (hA : ∀ q, q < H.size → A1 q → A0 q) (hf : ∀ q, free q → A0 q) (hAX : ∀ q, q < H.size → AX q → A0 q)
    (kx : ∀ (E : String) (ce : Cell) (q9 : Addr) (u : SX) (t : State) (H1 : Heap) (locs1 : List Loc), t.heap = H1 → s.vm.Alike t.vm → px u → BX E u t → H.size ≤ H1.size → (∀ q : Nat, q < H.size → ¬ AX q → H1[q]? = H[q]?) → va_S A0 H0 H1 locs1 → H1[q9]? = some ce → ce.vm = .none → s.vm.findClass E = some ce.cls → vx_W p l e R s m args below meth c H1 locs1 (cells + mc) (slots + ms) Q (F0 m pc ls rest) q9)
    (kk : ∀ (u : S) (t : State) (H1 : Heap) (locs1 : List Loc), t.heap = H1 → s.vm.Alike t.vm → post u → B u t → H.size ≤ H1.size → (∀ q : Nat, q < H.size → ¬ A1 q → H1[q]? = H[q]?) → va_S A0 H0 H1 locs1 → W p l e R s m args below meth c H1 locs1 (cells + mc) (slots + ms) Q (F0 m (pc + 3) ls (rest))) : W p l e R s m args below meth c H locs cells slots Q (F0 m pc ls st0) := by
  intro T hT X
  rcases hr T hT X with ⟨v, st₀, t, T', L, h0, X', hL, e1, e2, ⟨⟨u, hv, hp, hb⟩, hF⟩, st⟩ | ⟨q, st₀, t, T', L, E, ce, h0, X', hL, e1, e2, ⟨u, hp, hb, hF⟩, hce, hcv, hcl, st⟩
  · cases hv
    obtain ⟨k1, k2, k3⟩ := vx_keep h0 e1 hS hA hf hL hF
    obtain ⟨t2, a1, b1⟩ := kk u t T'.heap (locs ++ L) e1.symm (by rw [← e2]; exact X'.warmed.alike) hp hb k1 k2 k3 T' rfl X'
    exact ⟨t2, st t2 a1, b1⟩
  · obtain ⟨k1, k2, k3⟩ := vx_keep h0 e1 hS hAX hf hL hF
    obtain ⟨t2, a1, b1⟩ := kx E ce q u t T'.heap (locs ++ L) e1.symm (by rw [← e2]; exact X'.warmed.alike) hp hb k1 k2 k3 (by rw [e1]; exact hce) hcv hcl T' rfl X'
    exact ⟨t2, st.trans a1, b1⟩
/-- caught by the row x of this method's table; the rows ahead don't take it -/
theorem vx_catch {own name : String} {E : String} {ce : Cell} {q : Addr} (hown : s.vm.findClass own = some m.cls) (pre : List ExceptionTableEntry) (x : ExceptionTableEntry) (suf : List ExceptionTableEntry) (hsplit : c.exceptionTable.toList = pre ++ x :: suf)
    (hpass : ∀ z ∈ pre, covers z pc = false ∨ (z.catchType ≠ 0 ∧ ∃ nm : String, (Cond.classLink own z.catchType nm).before args s = true ∧ va_Nc E nm s)) (hx : covers x pc = true) (h0 : x.catchType ≠ 0)
    (hlink : (Cond.classLink own x.catchType name).before args s = true) (hcast : (Cond.castable E name).before args s = true) (hcell : H[q]? = some ce) (hv : ce.vm = .none) (hcl : s.vm.findClass E = some ce.cls)
    (kk : W p l e R s m args below meth c H locs cells slots Q (F0 m x.handlerPc ls [.ref q])) : vx_W p l e R s m args below meth c H locs cells slots Q (F0 m pc ls rest) q := by
  intro T hT X
  have hpl : e.platform.magicAccessors = ({} : Platform).magicAccessors := by rw [X.admits.platform]
  obtain ⟨c3, c4, hc3, hc4, hasg⟩ := Cond.castable_spec hcast
  cases Option.some.inj (hc3.symm.trans hcl)
  obtain ⟨c5, hc5, hcl5⟩ := Cond.classLink_spec hown hlink e.platform hpl
  cases Option.some.inj (hc4.symm.trans hc5)
  obtain ⟨vm', X', st⟩ := X.thenCaughtThrough q (g := F0 m pc ls rest) rfl (Steps.refl _) (by rw [hT]; exact hcell) (by rw [hv]; rfl) (by obtain ⟨k9, h9, -⟩ := Vm.findClass_spec hcl; exact ⟨k9, h9⟩) pre x suf hsplit
    (fun z hz => by
      rcases hpass z hz with h | ⟨hz0, nm, hl1, hn1⟩
      · exact Or.inl h
      · obtain ⟨c6, hc6, hcl6⟩ := Cond.classLink_spec hown hl1 e.platform hpl
        obtain ⟨a8, b8, h1, h2, h3⟩ := hn1
        cases Option.some.inj (h1.symm.trans hcl)
        cases Option.some.inj (h2.symm.trans hc6)
        exact Or.inr ⟨hz0, _, hcl6, h3⟩) hx (Or.inr ⟨h0, c4, hcl5, hasg⟩)
  obtain ⟨t, a1, b1⟩ := kk (T.setVm vm') hT X'
  exact ⟨t, st.trans a1, b1⟩
end Rows
section Ends
variable {p : Program} {l : Launch} {e : Env} {R : Room} {s : State} {m : MethodId} {args : Array Value} {below : List Frame} {meth : Method} {c : Code} {H : Heap} {locs : List Loc} {cells slots : Nat} {Q : State → Prop}
variable {mc ms : Nat} {free : Addr → Prop} {A0 A1 : Nat → Prop} {H0 : Heap} {a : Array Value} {ls : Array Slot} {st0 rest : List Value}
variable {Qc : Array Value → State → Outcome → State → Prop} {XC : String → State → State → Prop}
/-- what a body that may throw owes at its end -/
def vx_MQ (below : List Frame) (Qc : Array Value → State → Outcome → State → Prop) (XC : String → State → State → Prop) (a : Array Value) (s : State) (mc ms : Nat) (free : Addr → Prop) : State → Prop := fun t =>
  ∃ o, t.status = .running ∧ Ended t below o ∧ vx_Q Qc XC mc ms free a s o t
theorem vx_ret {g : JFrame} {mc ms : Nat} (k : W p l e R s m args below meth c H locs cells slots (MQ below Qc args s mc ms free) g) : W p l e R s m args below meth c H locs cells slots (vx_MQ below Qc XC args s mc ms free) g := by
  intro T hT X
  obtain ⟨t, a1, o, b1, b2, b3, b4⟩ := k T hT X
  exact ⟨t, a1, o, b1, b2, Or.inl ⟨b3, b4⟩⟩
/-- not caught here: it goes on to the caller -/
theorem vx_widen {g : JFrame} {q : Addr} {k n : Nat} (h1 : cells ≤ k) (h2 : slots ≤ n) (kk : vx_W p l e R s m args below meth c H locs k n Q g q) : vx_W p l e R s m args below meth c H locs cells slots Q g q := fun T hT X => kk T hT (stand_widen X h1 h2)
theorem vx_out {pc : Nat} {E : String} {ce : Cell} {q : Addr} {mc ms : Nat} (hout : ∀ x ∈ c.exceptionTable.toList, covers x pc = false) (hlocks : meth.locks = false) (hcell : H[q]? = some ce) (hv : ce.vm = .none) (hcl : s.vm.findClass E = some ce.cls)
    (hx : ∀ t : State, t.heap = H → s.vm.Alike t.vm → XC E s t) (hf : ∀ z ∈ locs, free z.base) (hc : cells ≤ mc) (hs : slots ≤ ms) :
    vx_W p l e R s m args below meth c H locs cells slots (vx_MQ below Qc XC args s mc ms free) (F0 m pc ls rest) q := by
  intro T hT X
  obtain ⟨st1, hrun, hend, hW, hsm⟩ := X.leaveThrown q (g := F0 m pc ls rest) rfl rfl rfl hout hlocks
  have hcell9 : (T.setFrames (.throwing q :: below)).heap[q]? = some ce := by
    show T.heap[q]? = some ce
    rw [hT]; exact hcell
  exact ⟨_, st1, .threw q, hrun, hend, Or.inr ⟨q, rfl, E, ce, locs, hx _ hT hW.alike, hcell9, hv, hcl, hW, hsm.mono hc hs, hf⟩⟩
theorem vx_frame {U : State} {k n : Nat} (h : s.sameButNew ({ U with vm := s.vm } : State) locs k n) : s.heap.size ≤ U.heap.size ∧ ∀ q : Nat, q < s.heap.size → (∀ z ∈ locs, z.base ≠ q) → U.heap[q]? = s.heap[q]? := by
  obtain ⟨-, h2, -, -, -, h6⟩ := h
  refine ⟨h2, fun q hq hz => ?_⟩
  obtain ⟨c9, e1, e2, e3, e4⟩ := h6 q _ (Array.getElem?_eq_getElem hq)
  have hs : c9.slots = (s.heap[q]).slots := Array.ext_getElem? fun i => e4 i fun hm => hz _ hm rfl
  have h9 : c9 = s.heap[q] := by
    rw [hs] at e2
    exact e2
  have e5 : U.heap[q]? = some c9 := e1
  rw [e5, h9, Array.getElem?_eq_getElem hq]
/-- the words of a throw but the four that speak of the heap -/
def vx_no (w : Cond) : Bool := decide (w ≠ .isRef (.static Bundle.tN "UNASSIGNED_STACK" Bundle.steD)) && decide (w ≠ .isRef (.static Bundle.tN "SUPPRESSED_SENTINEL" Bundle.listD)) && decide (w ≠ .laysStatic Bundle.tN "UNASSIGNED_STACK" Bundle.steD) && decide (w ≠ .laysStatic Bundle.tN "SUPPRESSED_SENTINEL" Bundle.listD)
def vx_at0 (own : String) (ic : Nat) (X : String) (names : List String) : List Cond := (Bundle.ownAtoms0 own ic X names).filter vx_no
def vx_atS (own : String) (ic : Nat) (X : String) (names : List String) : List Cond := (Bundle.ownAtoms own ic X names).filter vx_no
/-- a word that the tables alone decide, or a good one -/
def vx_ot (w : Cond) : Bool := w.onTables || goodWord w
theorem vx_ot_at {args a' : Array Value} {s U : State} {w : Cond} (hW : s.WarmedH U.vm) (hvm : s.vm = U.vm) (hg : vx_ot w = true) (h : w.before args s = true) : w.before a' U = true := by
  simp only [vx_ot, Bool.or_eq_true] at hg
  rcases hg with hg | hg
  · exact va_tabs hg hvm h
  · exact word_at hW (good_of_word hg) h
/-- a list's words: the good ones out of the method's own list, the others by premises of their own -/
theorem vx_hat {args : Array Value} {s : State} {L B : List Cond} (h1 : ∀ w ∈ L.filter goodWord, w.before args s = true) (h2 : ∀ w ∈ L.filter (fun w => !goodWord w), w ∈ B) (h3 : ∀ w ∈ B, w.before args s = true) : ∀ w ∈ L, w.before args s = true := by
  intro w hw
  by_cases g : goodWord w = true
  · exact h1 w (List.mem_filter.mpr ⟨hw, g⟩)
  · refine h3 w (h2 w (List.mem_filter.mpr ⟨hw, ?_⟩))
    show (!goodWord w) = true
    cases hgw : goodWord w
    · rfl
    · exact absurd hgw g
theorem vx_c {args : Array Value} {s : State} {w : Cond} {B : List Cond} (h : w.before args s = true) (t : ∀ w ∈ B, w.before args s = true) : ∀ w' ∈ w :: B, w'.before args s = true := fun w' h' => (List.mem_cons.mp h').elim (fun e => by rw [e]; exact h) (t w')
theorem vx_n {args : Array Value} {s : State} : ∀ w ∈ ([] : List Cond), w.before args s = true := fun _ h => nomatch h
theorem vx_own {args : Array Value} {s : State} {L : List Cond} (h1 : ∀ w ∈ L.filter vx_no, w.before args s = true)
    (hU : (Cond.isRef (.static Bundle.tN "UNASSIGNED_STACK" Bundle.steD)).before args s = true) (hN : (Cond.isRef (.static Bundle.tN "SUPPRESSED_SENTINEL" Bundle.listD)).before args s = true)
    (lU : (Cond.laysStatic Bundle.tN "UNASSIGNED_STACK" Bundle.steD).before args s = true) (lN : (Cond.laysStatic Bundle.tN "SUPPRESSED_SENTINEL" Bundle.listD).before args s = true) : ∀ w ∈ L, w.before args s = true := by
  intro w hw
  by_cases e1 : w = .isRef (.static Bundle.tN "UNASSIGNED_STACK" Bundle.steD)
  · rw [e1]; exact hU
  · by_cases e2 : w = .isRef (.static Bundle.tN "SUPPRESSED_SENTINEL" Bundle.listD)
    · rw [e2]; exact hN
    · by_cases e3 : w = .laysStatic Bundle.tN "UNASSIGNED_STACK" Bundle.steD
      · rw [e3]; exact lU
      · by_cases e4 : w = .laysStatic Bundle.tN "SUPPRESSED_SENTINEL" Bundle.listD
        · rw [e4]; exact lN
        · exact h1 w (List.mem_filter.mpr ⟨hw, by unfold vx_no; rw [decide_eq_true e1, decide_eq_true e2, decide_eq_true e3, decide_eq_true e4]; rfl⟩)
/-- where a static field lies, its class's statics cell in H -/
def vx_L (C n d : String) (A : Nat → Prop) (U : State) (H : Heap) : Prop := ∃ (c : ClassId) (k : Class) (i : Nat) (f : Field) (a : Nat) (cell : Cell), U.vm.findClass C = some c ∧ U.fieldFound? C n d = some (c, k, i, f) ∧ f.isStatic = true ∧ k.statics = some a ∧ H[a]? = some cell ∧ cell.vm.isStatics = true ∧ cell.cls = c ∧ f.slot < cell.slots.size ∧ k.staticTypes[f.slot]? = some f.type ∧ ¬ A a
theorem vx_L.moved {C n d : String} {A : Nat → Prop} {u U : State} {H : Heap} (hvm : u.vm.Alike U.vm) (h : vx_L C n d A u H) : vx_L C n d A U H := by
  obtain ⟨c, k, i, f, a, cell, h1, h2, h3, h4, h5, h6, h7, h8, h9, h10⟩ := h
  obtain ⟨k', hi', he⟩ := State.fieldFound?_setVm hvm h2
  exact ⟨c, k', i, f, a, cell, by rw [hvm.findClass]; exact h1, hi', h3, by rw [he]; exact h4, h5, h6, h7, h8, by rw [he]; exact h9, h10⟩
theorem vx_L.kept {C n d : String} {A : Nat → Prop} {U : State} {H H1 : Heap} (h : vx_L C n d A U H) (hq : ∀ a : Nat, a < H.size → ¬ A a → H1[a]? = H[a]?) : vx_L C n d A U H1 := by
  obtain ⟨c, k, i, f, a, cell, h1, h2, h3, h4, h5, h6, h7, h8, h9, h10⟩ := h
  exact ⟨c, k, i, f, a, cell, h1, h2, h3, h4, by rw [hq a (Array.getElem?_eq_some_iff.mp h5).1 h10]; exact h5, h6, h7, h8, h9, h10⟩
theorem vx_L.narrow {C n d : String} {A B : Nat → Prop} {U : State} {H : Heap} (h : vx_L C n d A U H) (hAB : ∀ q, B q → A q) : vx_L C n d B U H := by
  obtain ⟨c, k, i, f, a, cell, h1, h2, h3, h4, h5, h6, h7, h8, h9, h10⟩ := h
  exact ⟨c, k, i, f, a, cell, h1, h2, h3, h4, h5, h6, h7, h8, h9, fun z => h10 (hAB _ z)⟩
theorem vx_L.word {C n d : String} {A : Nat → Prop} {s : State} {args : Array Value} (h : vx_L C n d A s s.heap) : (Cond.laysStatic C n d).before args s = true := by
  obtain ⟨c, k, i, f, a, cell, h1, h2, h3, h4, h5, h6, h7, h8, h9, -⟩ := h
  show (Cond.laysStatic C n d).holds args s none s [] = true
  exact Cond.laysStatic_of h1 h2 h3 h4 h5 h6 h7 h8 h9
/-- .. and what it holds: null or some reference -/
def vx_Zq (C n d : String) (A : Nat → Prop) (U : State) (H : Heap) : Prop := va_Zq C n d A U H ∧ vx_L C n d A U H
theorem vx_Zq.moved {C n d : String} {A : Nat → Prop} {u U : State} {H : Heap} (hvm : u.vm.Alike U.vm) (h : vx_Zq C n d A u H) : vx_Zq C n d A U H := ⟨va_Zq.moved hvm h.1, vx_L.moved hvm h.2⟩
theorem vx_Zq.kept {C n d : String} {A : Nat → Prop} {U : State} {H H1 : Heap} (h : vx_Zq C n d A U H) (hq : ∀ a : Nat, a < H.size → ¬ A a → H1[a]? = H[a]?) : vx_Zq C n d A U H1 := ⟨va_Zq.kept h.1 hq, vx_L.kept h.2 hq⟩
theorem vx_Zq.narrow {C n d : String} {A B : Nat → Prop} {U : State} {H : Heap} (h : vx_Zq C n d A U H) (hAB : ∀ q, B q → A q) : vx_Zq C n d B U H := ⟨va_Zq.narrow h.1 hAB, vx_L.narrow h.2 hAB⟩
theorem vx_Zqof {args : Array Value} {s : State} {C n d : String} {A : Nat → Prop} (hl : (Cond.laysStatic C n d).before args s = true) (hini : (Cond.initialized C).before args s = true) (h : (Cond.isRef (.static C n d)).before args s = true) (hA : ∀ a : Nat, a < s.heap.size → ¬ A a) : vx_Zq C n d A s s.heap := by
  refine ⟨va_Zqof hl hini h hA, ?_⟩
  obtain ⟨c, k, i, f, a, cell, h1, h2, h3, h4, h5, h6, h7, h8, h9⟩ := Cond.laysStatic_spec hl
  exact ⟨c, k, i, f, a, cell, h1, h2, h3, h4, h5, h6, h7, h8, h9, hA a (Array.getElem?_eq_some_iff.mp h5).1⟩
theorem vx_isRef {C n d : String} {v : Value} {A : Nat → Prop} {s : State} {args : Array Value} (h : va_Z C n d v A s s.heap) (hv : v.isRef = true) : (Cond.isRef (.static C n d)).before args s = true := by
  obtain ⟨cf, kf, fi, f, a, cell, h1, h2, h3, h4, h5, h6, h7, -⟩ := h
  have he : (Term.static C n d).eval args s none [] s = some v := by
    simp [Term.eval, State.fieldNamed?, h1, h2, h4, h5, h6, h7]
  simp only [Cond.before, Cond.holds, Cond.value, he]
  cases v <;> simp_all [Value.isRef]
theorem vx_isRefq {C n d : String} {A : Nat → Prop} {s : State} {args : Array Value} (h : va_Zq C n d A s s.heap) : (Cond.isRef (.static C n d)).before args s = true := by
  rcases h with h | ⟨t, h⟩
  · exact vx_isRef h rfl
  · exact vx_isRef h rfl
/-- the same frame, seen from here: as if the method were called anew in this heap -/
theorem vx_rebase {T : State} (X : Stand p l e R s m args below meth c T locs cells slots) {R' : Room} (hf : R'.frames ≤ R.frames) (hl : R'.locals ≤ R.locals) (hc : cells + R'.cells ≤ R.cells) (hs : slots + R'.slots ≤ R.slots) :
    Stand p l e R' ((T.setVm s.vm).setFrames (.invoking m args :: below)) m args below meth c T [] 0 0 := by
  have htop : (T.setVm s.vm).topJava?.isSome := X.here.top
  have hF : ((T.setVm s.vm).setFrames (.invoking m args :: below)).frames = .invoking m args :: below := State.frames_setFrames _ (State.cur_lt_of_top htop)
  obtain ⟨g₀, hg0⟩ := Option.isSome_iff_exists.mp htop
  obtain ⟨r, hr⟩ := State.topJava?_eq_some.mp hg0
  have hl9 : e.platform.stackLimits (T.setVm s.vm).me = e.platform.stackLimits s.me := X.limits
  have hb9 : (T.setVm s.vm).me.stackBytes = s.me.stackBytes := X.bytes
  refine ⟨X.admits, X.cas, X.clock, hF, ?_, X.hears, X.method, X.code, X.here, X.tail, X.warmed, ?_, ?_, ?_⟩
  · have h := X.room
    have hU : ((T.setVm s.vm).setFrames (.invoking m args :: below)).localsInUse = s.localsInUse := by
      rw [State.localsInUse_invoking hF (meth := meth) (c := c) X.method X.code, State.localsInUse_invoking X.frames X.method X.code]
    simp only [State.hasRoom, Bool.and_eq_true, decide_eq_true_eq] at h ⊢
    obtain ⟨⟨⟨⟨h1, h2, h3, h4, h5, h6⟩, h7⟩, h8⟩, h9⟩ := h
    rw [X.frames, List.length_cons] at h2 h3
    have q1 := X.heapSize
    have q2 := X.used
    simp only [hF, hU, List.length_cons, State.stackLimits_setFrames, State.stackBytes_setFrames, hl9, hb9]
    refine ⟨⟨⟨⟨by omega, by omega, by omega, by omega, by omega, h6⟩, ?_⟩, ?_⟩, X.book⟩
    · show T.heap.size + R'.cells ≤ e.platform.maxCells
      omega
    · show T.slotsUsed + R'.slots ≤ e.platform.maxSlots
      omega
  · rw [State.stackLimits_setFrames]; rfl
  · rw [State.stackBytes_setFrames]; rfl
  · refine ⟨?_, Nat.le_refl _, Nat.le_refl _, ?_, ?_, fun a c9 h9 => ⟨c9, h9, rfl, rfl, fun _ _ => rfl⟩⟩
    · obtain ⟨t, ht, -⟩ := State.frames_cons hr
      show T.setVm s.vm = { ((T.setVm s.vm).setFrames (.invoking m args :: below)).setFrames (T.setVm s.vm).frames with heap := T.heap, slotsUsed := T.slotsUsed }
      rw [State.setFrames_setFrames, State.setFrames_self ht]
      rfl
    · show T.slotsUsed = T.slotsUsed + ((T.heap.toList.drop T.heap.size).map (·.slots.size)).sum
      rw [List.drop_eq_nil_of_le (Nat.le_of_eq Array.length_toList)]
      rfl
    · show ((T.heap.toList.drop T.heap.size).map (·.slots.size)).sum ≤ 0
      rw [List.drop_eq_nil_of_le (Nat.le_of_eq Array.length_toList)]
      exact Nat.le_refl _
/-- 'throw new E()': new; dup; invokespecial; athrow -/
theorem vx_throw0 {cc : ByteArray} {pc : Nat} (hexec : p.tables.exec = Jvm.exec) (hb : c.code = cc) (hl : l.stackTraces = false) {own cls : String} {names : List String} {ik ic mc ms : Nat} {A : Nat → Prop}
    (hown : s.vm.findClass own = some m.cls) (hcls : Bundle.fit cls = true) (hnames : ∀ n ∈ names, Bundle.fit n = true)
    (hk : (Cond.classLink own ik cls).before args s = true) (hini : (Cond.initialized cls).before args s = true) (hat : ∀ w ∈ vx_at0 own ic cls names, w.before args s = true)
    (hgood : ∀ w ∈ Cond.classLink own ik cls :: Cond.initialized cls :: vx_at0 own ic cls names, vx_ot w = true)
    (hU : vx_Zq Bundle.tN "UNASSIGNED_STACK" Bundle.steD A s s.heap) (hN : vx_Zq Bundle.tN "SUPPRESSED_SENTINEL" Bundle.listD A s s.heap) (hS : va_S A s.heap H locs) (hsize : ls.size = c.maxLocals)
    (d0 : decode cc pc = .ok (.new ik, 3)) (d3 : decode cc (pc + 3) = .ok (.dup, 1)) (d4 : decode cc (pc + 4) = .ok (.invokespecial ic, 3)) (d7 : decode cc (pc + 7) = .ok (.athrow, 1))
    (hout : ∀ x ∈ c.exceptionTable.toList, covers x (pc + 7) = false)
    (hRframes : names.length + 3 < R.frames) (hRlocals : (rest.map fun v => v.category).sum + (13 * (names.length + 1) + 42) ≤ R.locals) (hRcells : cells + 1 ≤ R.cells) (hRslots : slots + 6 ≤ R.slots) (hlocks : meth.locks = false)
    (hx : ∀ t : State, s.vm.Alike t.vm → H.size ≤ t.heap.size → (∀ q : Nat, q < H.size → t.heap[q]? = H[q]?) → XC cls s t)
    (hf : ∀ z ∈ locs, free z.base) (hc : cells + 1 ≤ mc) (hs : slots + 6 ≤ ms) :
    W p l e R s m args below meth c H locs cells slots (vx_MQ below Qc XC args s mc ms free) (F0 m pc ls rest) := by
  intro T hT X
  have htr : e.platform.stackTraces = false := (show e.platform.stackTraces = l.stackTraces by rw [X.admits.platform]).trans hl
  have Y := vx_rebase X (R' := { frames := R.frames, locals := R.locals, cells := 1, slots := 6 }) (Nat.le_refl _) (Nat.le_refl _) hRcells hRslots
  obtain ⟨s', hA⟩ : ∃ z, z = (T.setVm s.vm).setFrames (.invoking m args :: below) := ⟨_, rfl⟩
  rw [← hA] at Y
  have hvm : s'.vm = s.vm := by rw [hA]; rfl
  have hhp : s'.heap = H := by rw [hA]; exact hT
  have hW0 : s.WarmedH s'.vm := by rw [hvm]; exact State.WarmedH.refl s
  have hat' : ∀ w ∈ vx_at0 own ic cls names, w.before args s' = true := fun w hw => vx_ot_at hW0 hvm.symm (hgood w (List.mem_cons_of_mem _ (List.mem_cons_of_mem _ hw))) (hat w hw)
  have hk' : (Cond.classLink own ik cls).before args s' = true := vx_ot_at hW0 hvm.symm (hgood _ List.mem_cons_self) hk
  have hini' : (Cond.initialized cls).before args s' = true := vx_ot_at hW0 hvm.symm (hgood _ (List.mem_cons_of_mem _ List.mem_cons_self)) hini
  have hU' : vx_Zq Bundle.tN "UNASSIGNED_STACK" Bundle.steD A s' s'.heap := by rw [hhp]; exact vx_Zq.moved hW0.alike (hU.kept hS.2.1)
  have hN' : vx_Zq Bundle.tN "SUPPRESSED_SENTINEL" Bundle.listD A s' s'.heap := by rw [hhp]; exact vx_Zq.moved hW0.alike (hN.kept hS.2.1)
  have h : ∀ w ∈ Bundle.ownAtoms0 own ic cls names, w.before args s' = true := vx_own hat' (vx_isRefq hU'.1) (vx_isRefq hN'.1) hU'.2.word hN'.2.word
  have hown' : s'.vm.findClass own = some m.cls := by rw [hvm]; exact hown
  have hins : (Cond.instantiable cls 6).before args s' = true := h _ (by simp [Bundle.ownAtoms0])
  obtain ⟨vm₁, cX, kX, hfX, hkX, -, -, X₁, st1⟩ := Y.newCold hexec (own := own) (C := cls) (index := ik) (n := 6) hown' hk' hins hini'
    (g := F0 m pc ls rest) rfl (by rw [hb]; exact d0) (Nat.le_refl _) (Nat.le_refl _)
  generalize hT1 : (T.setVm vm₁).pushCell { cls := cX, slots := kX.instanceTypes.map defaultValue, vm := .none } = T1 at X₁ st1
  have hcat : (Value.ref T.heap.size).category = 1 := rfl
  have hcellA : T1.heap[T.heap.size]? = some (freshCell cX kX) := by rw [← hT1]; exact State.heap_pushCell_size _ _
  have d3' : decode c.code (pc + 3) = .ok (.dup, 1) := by rw [hb]; exact d3
  obtain ⟨U, hsteps, hrun, hend, hW, hsame, ce, hce, hO⟩ := X₁.ctorThrow0 hexec htr (own := own) (cls := cls) (names := names) (ic := ic) hown' hcls hnames h (fun x hx => nomatch hx) hfX hkX hcellA (by rw [hhp, hT]; exact Nat.le_refl _)
    (g := { method := m, pc := pc + 4, locals := ls, stack := .ref T.heap.size :: .ref T.heap.size :: rest, locked := none }) rfl hsize rfl rfl (rest := rest) rfl
    (by rw [hb]; exact d4) (by rw [hb]; exact d7) hout hRframes (by simp only [List.map_cons, List.sum_cons, hcat]; omega) hlocks
  obtain ⟨f1, f2⟩ := vx_frame hsame
  rw [hhp] at f1 f2
  have hWs : s.WarmedH U.vm := State.WarmedH.trans hW0 hW
  have hcl : s.vm.findClass cls = some ce.cls := by
    have h9 := hO.cls
    rw [hvm] at h9
    exact h9
  have hall : s.sameButNew ({ U with vm := s.vm } : State) locs mc ms := by
    subst hA
    obtain ⟨e1, e2⟩ := hsame
    rw [State.setFrames_setFrames] at e1
    have h2 : (T.setVm s.vm).sameButNew ({ U with vm := s.vm } : State) [] (0 + 1) (0 + 6) := ⟨e1, e2⟩
    have h3 := X.same.trans h2
    rw [List.append_nil] at h3
    exact h3.mono hc hs
  refine ⟨U, ?_, .threw T.heap.size, hrun, hend, Or.inr ⟨T.heap.size, rfl, cls, ce, locs, hx U hWs.alike f1 (fun q hq => f2 q hq (fun z hz => nomatch hz)), hce, hO.vm, hcl, hWs, hall, hf⟩⟩
  refine st1 _ ?_
  show Steps p.tables e below (T1.setTop { method := m, pc := pc + 3, locals := ls, stack := .ref T.heap.size :: rest, locked := none }) _
  jvm_step X₁.here [X₁.here.top, hexec, d3', Value.category]
  exact hsteps
/-- 'throw new E("text")': new; dup; ldc; invokespecial; athrow -/
theorem vx_throwS {cc : ByteArray} {pc : Nat} (hexec : p.tables.exec = Jvm.exec) (hb : c.code = cc) (hl : l.stackTraces = false) {own cls text : String} {names : List String} {ik is ic mc ms sa : Nat} {A : Nat → Prop}
    (hown : s.vm.findClass own = some m.cls) (hcls : Bundle.fit cls = true) (hnames : ∀ n ∈ names, Bundle.fit n = true)
    (hk : (Cond.classLink own ik cls).before args s = true) (hini : (Cond.initialized cls).before args s = true) (hstr : vk_R own is text sa s) (hat : ∀ w ∈ vx_atS own ic cls names, w.before args s = true)
    (hgood : ∀ w ∈ Cond.classLink own ik cls :: Cond.initialized cls :: vx_atS own ic cls names, vx_ot w = true)
    (hU : vx_Zq Bundle.tN "UNASSIGNED_STACK" Bundle.steD A s s.heap) (hN : vx_Zq Bundle.tN "SUPPRESSED_SENTINEL" Bundle.listD A s s.heap) (hS : va_S A s.heap H locs) (hsize : ls.size = c.maxLocals)
    (d0 : decode cc pc = .ok (.new ik, 3)) (d3 : decode cc (pc + 3) = .ok (.dup, 1)) (d4 : decode cc (pc + 4) = .ok (.ldc is, 2)) (d6 : decode cc (pc + 6) = .ok (.invokespecial ic, 3)) (d9 : decode cc (pc + 9) = .ok (.athrow, 1))
    (hout : ∀ x ∈ c.exceptionTable.toList, covers x (pc + 9) = false)
    (hRframes : names.length + 3 < R.frames) (hRlocals : (rest.map fun v => v.category).sum + (13 * (names.length + 1) + 43) ≤ R.locals) (hRcells : cells + 1 ≤ R.cells) (hRslots : slots + 6 ≤ R.slots) (hlocks : meth.locks = false)
    (hx : ∀ t : State, s.vm.Alike t.vm → H.size ≤ t.heap.size → (∀ q : Nat, q < H.size → t.heap[q]? = H[q]?) → XC cls s t)
    (hf : ∀ z ∈ locs, free z.base) (hc : cells + 1 ≤ mc) (hs : slots + 6 ≤ ms) :
    W p l e R s m args below meth c H locs cells slots (vx_MQ below Qc XC args s mc ms free) (F0 m pc ls rest) := by
  intro T hT X
  have htr : e.platform.stackTraces = false := (show e.platform.stackTraces = l.stackTraces by rw [X.admits.platform]).trans hl
  have Y := vx_rebase X (R' := { frames := R.frames, locals := R.locals, cells := 1, slots := 6 }) (Nat.le_refl _) (Nat.le_refl _) hRcells hRslots
  obtain ⟨s', hA⟩ : ∃ z, z = (T.setVm s.vm).setFrames (.invoking m args :: below) := ⟨_, rfl⟩
  rw [← hA] at Y
  have hvm : s'.vm = s.vm := by rw [hA]; rfl
  have hhp : s'.heap = H := by rw [hA]; exact hT
  have hW0 : s.WarmedH s'.vm := by rw [hvm]; exact State.WarmedH.refl s
  have hat' : ∀ w ∈ vx_atS own ic cls names, w.before args s' = true := fun w hw => vx_ot_at hW0 hvm.symm (hgood w (List.mem_cons_of_mem _ (List.mem_cons_of_mem _ hw))) (hat w hw)
  have hk' : (Cond.classLink own ik cls).before args s' = true := vx_ot_at hW0 hvm.symm (hgood _ List.mem_cons_self) hk
  have hini' : (Cond.initialized cls).before args s' = true := vx_ot_at hW0 hvm.symm (hgood _ (List.mem_cons_of_mem _ List.mem_cons_self)) hini
  have hU' : vx_Zq Bundle.tN "UNASSIGNED_STACK" Bundle.steD A s' s'.heap := by rw [hhp]; exact vx_Zq.moved hW0.alike (hU.kept hS.2.1)
  have hN' : vx_Zq Bundle.tN "SUPPRESSED_SENTINEL" Bundle.listD A s' s'.heap := by rw [hhp]; exact vx_Zq.moved hW0.alike (hN.kept hS.2.1)
  have h : ∀ w ∈ Bundle.ownAtoms own ic cls names, w.before args s' = true := vx_own hat' (vx_isRefq hU'.1) (vx_isRefq hN'.1) hU'.2.word hN'.2.word
  have hown' : s'.vm.findClass own = some m.cls := by rw [hvm]; exact hown
  have hins : (Cond.instantiable cls 6).before args s' = true := h _ (by simp [Bundle.ownAtoms])
  obtain ⟨vm₁, cX, kX, hfX, hkX, -, -, X₁, st1⟩ := Y.newCold hexec (own := own) (C := cls) (index := ik) (n := 6) hown' hk' hins hini'
    (g := F0 m pc ls rest) rfl (by rw [hb]; exact d0) (Nat.le_refl _) (Nat.le_refl _)
  generalize hT1 : (T.setVm vm₁).pushCell { cls := cX, slots := kX.instanceTypes.map defaultValue, vm := .none } = T1 at X₁ st1
  have hcat : (Value.ref T.heap.size).category = 1 := rfl
  have hcellA : T1.heap[T.heap.size]? = some (freshCell cX kX) := by rw [← hT1]; exact State.heap_pushCell_size _ _
  have d3' : decode c.code (pc + 3) = .ok (.dup, 1) := by rw [hb]; exact d3
  have d4' : decode c.code (pc + 4) = .ok (.ldc is, 2) := by rw [hb]; exact d4
  have hstr' : vk_R own is text sa s' := vk_R.warm hW0 hstr
  obtain ⟨U, hsteps, hrun, hend, hW, hsame, ce, hce, hO⟩ := X₁.ctorThrowS hexec htr (own := own) (cls := cls) (names := names) (ic := ic) hown' hcls hnames h (fun x hx => nomatch hx) hfX hkX hcellA (by rw [hhp, hT]; exact Nat.le_refl _) (msg := .ref sa) rfl
    (g := { method := m, pc := pc + 6, locals := ls, stack := .ref sa :: .ref T.heap.size :: .ref T.heap.size :: rest, locked := none }) rfl hsize rfl rfl (rest := rest) rfl
    (by rw [hb]; exact d6) (by rw [hb]; exact d9) hout hRframes (by simp only [List.map_cons, List.sum_cons, hcat]; omega) hlocks
  obtain ⟨f1, f2⟩ := vx_frame hsame
  rw [hhp] at f1 f2
  have hWs : s.WarmedH U.vm := State.WarmedH.trans hW0 hW
  have hcl : s.vm.findClass cls = some ce.cls := by
    have h9 := hO.cls
    rw [hvm] at h9
    exact h9
  have hall : s.sameButNew ({ U with vm := s.vm } : State) locs mc ms := by
    subst hA
    obtain ⟨e1, e2⟩ := hsame
    rw [State.setFrames_setFrames] at e1
    have h2 : (T.setVm s.vm).sameButNew ({ U with vm := s.vm } : State) [] (0 + 1) (0 + 6) := ⟨e1, e2⟩
    have h3 := X.same.trans h2
    rw [List.append_nil] at h3
    exact h3.mono hc hs
  refine ⟨U, ?_, .threw T.heap.size, hrun, hend, Or.inr ⟨T.heap.size, rfl, cls, ce, locs, hx U hWs.alike f1 (fun q hq => f2 q hq (fun z hz => nomatch hz)), hce, hO.vm, hcl, hWs, hall, hf⟩⟩
  refine st1 _ ?_
  show Steps p.tables e below (T1.setTop { method := m, pc := pc + 3, locals := ls, stack := .ref T.heap.size :: rest, locked := none }) _
  jvm_step X₁.here [X₁.here.top, hexec, d3', Value.category]
  exact X₁.ldcString hexec (own := own) (text := text) (index := is) (a := sa) hown' hstr'.1 hstr'.2
    (g := { method := m, pc := pc + 4, locals := ls, stack := .ref T.heap.size :: .ref T.heap.size :: rest, locked := none }) rfl d4' _ hsteps
/-- 'throw new E("text")', the text by a wide index -/
theorem vx_throwSW {cc : ByteArray} {pc : Nat} (hexec : p.tables.exec = Jvm.exec) (hb : c.code = cc) (hl : l.stackTraces = false) {own cls text : String} {names : List String} {ik is ic mc ms sa : Nat} {A : Nat → Prop}
    (hown : s.vm.findClass own = some m.cls) (hcls : Bundle.fit cls = true) (hnames : ∀ n ∈ names, Bundle.fit n = true)
    (hk : (Cond.classLink own ik cls).before args s = true) (hini : (Cond.initialized cls).before args s = true) (hstr : vk_R own is text sa s) (hat : ∀ w ∈ vx_atS own ic cls names, w.before args s = true)
    (hgood : ∀ w ∈ Cond.classLink own ik cls :: Cond.initialized cls :: vx_atS own ic cls names, vx_ot w = true)
    (hU : vx_Zq Bundle.tN "UNASSIGNED_STACK" Bundle.steD A s s.heap) (hN : vx_Zq Bundle.tN "SUPPRESSED_SENTINEL" Bundle.listD A s s.heap) (hS : va_S A s.heap H locs) (hsize : ls.size = c.maxLocals)
    (d0 : decode cc pc = .ok (.new ik, 3)) (d3 : decode cc (pc + 3) = .ok (.dup, 1)) (d4 : decode cc (pc + 4) = .ok (.ldc_w is, 3)) (d7 : decode cc (pc + 7) = .ok (.invokespecial ic, 3)) (d10 : decode cc (pc + 10) = .ok (.athrow, 1))
    (hout : ∀ x ∈ c.exceptionTable.toList, covers x (pc + 10) = false)
    (hRframes : names.length + 3 < R.frames) (hRlocals : (rest.map fun v => v.category).sum + (13 * (names.length + 1) + 43) ≤ R.locals) (hRcells : cells + 1 ≤ R.cells) (hRslots : slots + 6 ≤ R.slots) (hlocks : meth.locks = false)
    (hx : ∀ t : State, s.vm.Alike t.vm → H.size ≤ t.heap.size → (∀ q : Nat, q < H.size → t.heap[q]? = H[q]?) → XC cls s t)
    (hf : ∀ z ∈ locs, free z.base) (hc : cells + 1 ≤ mc) (hs : slots + 6 ≤ ms) :
    W p l e R s m args below meth c H locs cells slots (vx_MQ below Qc XC args s mc ms free) (F0 m pc ls rest) := by
  intro T hT X
  have htr : e.platform.stackTraces = false := (show e.platform.stackTraces = l.stackTraces by rw [X.admits.platform]).trans hl
  have Y := vx_rebase X (R' := { frames := R.frames, locals := R.locals, cells := 1, slots := 6 }) (Nat.le_refl _) (Nat.le_refl _) hRcells hRslots
  obtain ⟨s', hA⟩ : ∃ z, z = (T.setVm s.vm).setFrames (.invoking m args :: below) := ⟨_, rfl⟩
  rw [← hA] at Y
  have hvm : s'.vm = s.vm := by rw [hA]; rfl
  have hhp : s'.heap = H := by rw [hA]; exact hT
  have hW0 : s.WarmedH s'.vm := by rw [hvm]; exact State.WarmedH.refl s
  have hat' : ∀ w ∈ vx_atS own ic cls names, w.before args s' = true := fun w hw => vx_ot_at hW0 hvm.symm (hgood w (List.mem_cons_of_mem _ (List.mem_cons_of_mem _ hw))) (hat w hw)
  have hk' : (Cond.classLink own ik cls).before args s' = true := vx_ot_at hW0 hvm.symm (hgood _ List.mem_cons_self) hk
  have hini' : (Cond.initialized cls).before args s' = true := vx_ot_at hW0 hvm.symm (hgood _ (List.mem_cons_of_mem _ List.mem_cons_self)) hini
  have hU' : vx_Zq Bundle.tN "UNASSIGNED_STACK" Bundle.steD A s' s'.heap := by rw [hhp]; exact vx_Zq.moved hW0.alike (hU.kept hS.2.1)
  have hN' : vx_Zq Bundle.tN "SUPPRESSED_SENTINEL" Bundle.listD A s' s'.heap := by rw [hhp]; exact vx_Zq.moved hW0.alike (hN.kept hS.2.1)
  have h : ∀ w ∈ Bundle.ownAtoms own ic cls names, w.before args s' = true := vx_own hat' (vx_isRefq hU'.1) (vx_isRefq hN'.1) hU'.2.word hN'.2.word
  have hown' : s'.vm.findClass own = some m.cls := by rw [hvm]; exact hown
  have hins : (Cond.instantiable cls 6).before args s' = true := h _ (by simp [Bundle.ownAtoms])
  obtain ⟨vm₁, cX, kX, hfX, hkX, -, -, X₁, st1⟩ := Y.newCold hexec (own := own) (C := cls) (index := ik) (n := 6) hown' hk' hins hini'
    (g := F0 m pc ls rest) rfl (by rw [hb]; exact d0) (Nat.le_refl _) (Nat.le_refl _)
  generalize hT1 : (T.setVm vm₁).pushCell { cls := cX, slots := kX.instanceTypes.map defaultValue, vm := .none } = T1 at X₁ st1
  have hcat : (Value.ref T.heap.size).category = 1 := rfl
  have hcellA : T1.heap[T.heap.size]? = some (freshCell cX kX) := by rw [← hT1]; exact State.heap_pushCell_size _ _
  have d3' : decode c.code (pc + 3) = .ok (.dup, 1) := by rw [hb]; exact d3
  have d4' : decode c.code (pc + 4) = .ok (.ldc_w is, 3) := by rw [hb]; exact d4
  have hstr' : vk_R own is text sa s' := vk_R.warm hW0 hstr
  obtain ⟨U, hsteps, hrun, hend, hW, hsame, ce, hce, hO⟩ := X₁.ctorThrowS hexec htr (own := own) (cls := cls) (names := names) (ic := ic) hown' hcls hnames h (fun x hx => nomatch hx) hfX hkX hcellA (by rw [hhp, hT]; exact Nat.le_refl _) (msg := .ref sa) rfl
    (g := { method := m, pc := pc + 7, locals := ls, stack := .ref sa :: .ref T.heap.size :: .ref T.heap.size :: rest, locked := none }) rfl hsize rfl rfl (rest := rest) rfl
    (by rw [hb]; exact d7) (by rw [hb]; exact d10) hout hRframes (by simp only [List.map_cons, List.sum_cons, hcat]; omega) hlocks
  obtain ⟨f1, f2⟩ := vx_frame hsame
  rw [hhp] at f1 f2
  have hWs : s.WarmedH U.vm := State.WarmedH.trans hW0 hW
  have hcl : s.vm.findClass cls = some ce.cls := by
    have h9 := hO.cls
    rw [hvm] at h9
    exact h9
  have hall : s.sameButNew ({ U with vm := s.vm } : State) locs mc ms := by
    subst hA
    obtain ⟨e1, e2⟩ := hsame
    rw [State.setFrames_setFrames] at e1
    have h2 : (T.setVm s.vm).sameButNew ({ U with vm := s.vm } : State) [] (0 + 1) (0 + 6) := ⟨e1, e2⟩
    have h3 := X.same.trans h2
    rw [List.append_nil] at h3
    exact h3.mono hc hs
  refine ⟨U, ?_, .threw T.heap.size, hrun, hend, Or.inr ⟨T.heap.size, rfl, cls, ce, locs, hx U hWs.alike f1 (fun q hq => f2 q hq (fun z hz => nomatch hz)), hce, hO.vm, hcl, hWs, hall, hf⟩⟩
  refine st1 _ ?_
  show Steps p.tables e below (T1.setTop { method := m, pc := pc + 3, locals := ls, stack := .ref T.heap.size :: rest, locked := none }) _
  jvm_step X₁.here [X₁.here.top, hexec, d3', Value.category]
  exact X₁.ldcStringW hexec (own := own) (text := text) (index := is) (a := sa) hown' hstr'.1 hstr'.2
    (g := { method := m, pc := pc + 4, locals := ls, stack := .ref T.heap.size :: .ref T.heap.size :: rest, locked := none }) rfl d4' _ hsteps
end Ends
section Bodies
variable {l : Launch}
theorem vx_ofW {y : MethodName} {ws ws' : List Cond} {rm : Room} {Pc : Array Value → State → Prop} {Qc : Array Value → State → Outcome → State → Prop} {XC : String → State → State → Prop} {mc ms : Nat} {free : Addr → Prop} {cc : ByteArray} {maxL : Nat} {ret : Option FieldType}
    (hy : plainName y.cls = true) (hw : ws = Cond.code y cc maxL ret :: ws')
    (body : ∀ p e s m args below meth c s₁, BodyLoose p l y (headSpec ws rm) cc maxL ret e s m args below meth c s₁ → c.maxLocals = maxL → (∀ x ∈ c.exceptionTable.toList, False) → Pc args s →
      W p l e (headSpec ws rm).room s m args below meth c s.heap [] 0 0 (vx_MQ below Qc XC args s mc ms free) (entryFrame m args maxL)) : vx_Met l y ws rm Pc Qc XC mc ms free := by
  refine MetFree.of_bodyS (code := cc) (maxLocals := maxL) (ret := ret) hy ?_ ?_
  · intro args s m h hn
    obtain ⟨meth, c, h1, h2, h3, h4, h5, h6, -, -⟩ := Cond.code_spec hn (atoms_spec (ws := ws) h _ (by rw [hw]; exact List.mem_cons_self))
    exact ⟨meth, c, h1, h2, h3, h4, h5, h6⟩
  · intro p e s m args below meth c s₁ B hml hP _
    have hh0 : s₁.heap = s.heap := by rw [B.state]; rfl
    have ht : ∀ x ∈ c.exceptionTable.toList, False := by
      obtain ⟨meth9, c9, h1, h2, -, -, -, -, h7, -⟩ := Cond.code_spec B.named (atoms_spec (ws := ws) B.pre _ (by rw [hw]; exact List.mem_cons_self))
      cases Option.some.inj (h1.symm.trans B.method)
      cases Option.some.inj (h2.symm.trans (Stand.of_body B).code)
      intro x hx
      rw [Array.isEmpty_iff.mp h7] at hx
      cases hx
    obtain ⟨t, a1, o, b1, b2, b3⟩ := body p e s m args below meth c s₁ B hml ht hP s₁ hh0 (Stand.of_body B)
    exact ⟨t, o, a1, b1, b2, b3⟩
/-- the table of a body with handlers -/
theorem vx_table {p : Program} {x y : MethodName} {S : Spec} {cc bytes : ByteArray} {maxL maxL' : Nat} {ret ret' : Option FieldType} {e : Env} {s s₁ : State} {m : MethodId} {args : Array Value} {below : List Frame} {meth : Method} {c : Code} {hh : List (Nat × Nat × Nat × Nat)}
    (B : BodyLoose p l y S cc maxL ret e s m args below meth c s₁) (h : (Cond.codeWith y bytes maxL' ret' hh).before args s = true) : c.exceptionTable.toList = tableOf hh := by
  obtain ⟨m9, meth9, c9, hn9, h1, h2, -, -, h6, -⟩ := Cond.codeWith_spec h
  cases Option.some.inj (hn9.symm.trans B.named)
  cases Option.some.inj (h1.symm.trans B.method)
  cases Option.some.inj (h2.symm.trans (Stand.of_body B).code)
  rw [← h6, table_eq]
end Bodies
end VXA
/-! ===== END ===== -/
/-! ===== BEGIN a static call of a method with an exception table ===== -/
section VXS
variable {p : Program} {l : Launch} {e : Env} {R : Room} {s : State} {m : MethodId} {args : Array Value} {below : List Frame} {meth : Method} {c : Code} {T : State} {H : Heap} {locs : List Loc} {cells slots : Nat}
abbrev vx_CSW (R : Room) (s : State) (args : Array Value) (own : String) (index : Nat) (y : MethodName) (bytes : ByteArray) (maxL : Nat) (ret : Option FieldType) (hh : List (Nat × Nat × Nat × Nat)) (ws : List Cond) (rm : Room) (mc ms n : Nat) : Prop :=
  (rm.cells = mc ∧ rm.slots = ms ∧ rm.frames + 1 ≤ R.frames ∧ 8 + (maxL + 11) + rm.locals ≤ R.locals ∧ (∀ w ∈ ws, ∀ (a' : Array Value) (U : State), s.WarmedH U.vm → w.before a' U = true) ∧ Cond.codeWith y bytes maxL ret hh ∈ ws) ∧
  (Cond.codeWith y bytes maxL ret hh).before args s = true ∧ (Cond.initialized y.cls).before args s = true ∧ (y.cls ≠ "java/lang/invoke/MethodHandle" ∧ y.cls ≠ "java/lang/invoke/VarHandle") ∧
  (∀ sig, parseMethodDescriptor y.desc = some sig → n = sig.parameters.length) ∧ (Cond.methodLink own index y).before args s = true ∧ (Cond.static y).before args s = true
theorem vx_cwSW {own : String} {index maxL mc ms : Nat} {y : MethodName} {bytes : ByteArray} {ret : Option FieldType} {hh : List (Nat × Nat × Nat × Nat)} {Ts ws ws' : List Cond} {rm : Room} (n : Nat) (ht : ∀ w ∈ Ts, w.before args s = true) (hT : GoodIn Ts (va_wsS own index y ws)) (hw : ws = Cond.codeWith y bytes maxL ret hh :: ws') (hrc : rm.cells = mc) (hrs : rm.slots = ms)
    (hd : y.cls ≠ "java/lang/invoke/MethodHandle" ∧ y.cls ≠ "java/lang/invoke/VarHandle" ∧ (parseMethodDescriptor y.desc).map (fun d => d.parameters.length) = some n) (hR : rm.frames + 1 ≤ R.frames ∧ 8 + (maxL + 11) + rm.locals ≤ R.locals) :
    vx_CSW R s args own index y bytes maxL ret hh ws rm mc ms n := by
  have ok : ∀ w ∈ va_wsS own index y ws, w.before args s = true := fun w h => ht w (hT w h).1
  have hG : GoodIn Ts ws := fun w h => hT w (by unfold va_wsS; exact List.mem_append_right _ h)
  have hc : Cond.codeWith y bytes maxL ret hh ∈ ws := by rw [hw]; exact List.mem_cons_self
  refine ⟨⟨hrc, hrs, hR.1, hR.2, pay_in ht hG, hc⟩, ht _ (hG _ hc).1, ok _ (by simp [va_wsS]), ⟨hd.1, hd.2.1⟩, fun sig h => ?_, ok _ (by simp [va_wsS]), ok _ (by simp [va_wsS])⟩
  have h2 := hd.2.2
  rw [h] at h2
  exact (Option.some.inj h2).symm
theorem vx_callSW (X : Stand p l e R s m args below meth c T locs cells slots) (hexec : p.tables.exec = Jvm.exec) {own : String} {index : Nat} {y : MethodName} {bytes : ByteArray} {maxL : Nat} {ret : Option FieldType} {hh : List (Nat × Nat × Nat × Nat)}
    (hown : s.vm.findClass own = some m.cls) (hlink : (Cond.methodLink own index y).before args s = true) (hstat : (Cond.static y).before args s = true) (hinit : (Cond.initialized y.cls).before args s = true)
    (hcode : (Cond.codeWith y bytes maxL ret hh).before args s = true) (hy : y.cls ≠ "java/lang/invoke/MethodHandle" ∧ y.cls ≠ "java/lang/invoke/VarHandle")
    {W9 : Nat} {Pre : Pt → Array Value → Prop} {Post : Pt → Array Value → Option Value → Pt → Prop} (hK : Back l R p e below s args y 3 W9 Pre Post)
    {g : JFrame} (hg : g.method = m) (hsize : g.locals.size = c.maxLocals) {argsL rest : List Value} (hlen : ∀ sig, parseMethodDescriptor y.desc = some sig → argsL.length = sig.parameters.length)
    (hstack : g.stack = argsL.reverse ++ rest) (hW : 2 * g.monitorRoom + (rest.map fun v => v.category).sum ≤ W9) (hdg : decode c.code g.pc = .ok (.invokestatic index, 3))
    (hpre : ∀ vm₁, s.WarmedH vm₁ → Pre ⟨T.setVm vm₁, locs, cells, slots⟩ argsL.toArray) :
    ∃ (v : Option Value) (vm₁ : Vm) (B : Pt), s.WarmedH vm₁ ∧ Stand p l e R s m args below meth c B.U B.locs B.cells B.slots ∧ Post ⟨T.setVm vm₁, locs, cells, slots⟩ argsL.toArray v B ∧
      ∀ target, Steps p.tables e below (B.U.setTop { g with pc := g.pc + 3, stack := v.toList ++ rest }) target → Steps p.tables e below (T.setTop g) target := by
  obtain ⟨mk, methM, cM, hnamed, hmethM, -, -, -, -, -, -, hsigM⟩ := Cond.codeWith_spec hcode
  have hstatic : methM.isStatic = true := Cond.static_spec hnamed hmethM hstat
  obtain ⟨kP, hkP, -⟩ := className_of_methodNamed hnamed
  have hinitP : kP.init = .initialized := Cond.initialized_spec (findClass_of_methodNamed hnamed) hkP hinit
  obtain ⟨vm₁, X₁, hstep₁⟩ := X.invokestatic hexec hown hlink hnamed hmethM hstatic hkP hinitP hy (g := g) hg (argsL := argsL) (rest := rest) (hlen _ hsigM) hstack hdg
  obtain ⟨v, B, X', hpost, hsteps⟩ := hK m meth c ⟨T.setVm vm₁, locs, cells, slots⟩ { g with stack := rest } (.invokestatic index) mk argsL.toArray X₁ hg hsize hdg hW (X₁.named hnamed) (hpre vm₁ X₁.warmed)
  exact ⟨v, vm₁, B, X₁.warmed, X', hpost, fun target h => hstep₁ _ fun acts => by rw [doInvoke_state]; exact hsteps.trans h⟩
theorem vx_runSW {y : MethodName} {bytes cc : ByteArray} {maxL nL mc ms n index : Nat} {ret : Option FieldType} {hh : List (Nat × Nat × Nat × Nat)} {ws : List Cond} {rm : Room} {Pc : Array Value → State → Prop} {Qc : Array Value → State → Outcome → State → Prop} {free : Addr → Prop} {Ts : List Cond} {own : String} {As rest : List Value} {g : JFrame}
    (S : CallFix p m c cc nL s args Ts own) (hM : Met l y ws rm Pc Qc mc ms free) (cw : vx_CSW R s args own index y bytes maxL ret hh ws rm mc ms n) (hp : PreS s H Pc As)
    (hg : g.method = m) (hn : As.length = n) (hsize : g.locals.size = nL) (hstack : g.stack = As.reverse ++ rest) (hW : 2 * g.monitorRoom + (rest.map fun v => v.category).sum ≤ 8) (hdg : decode cc g.pc = .ok (.invokestatic index, 3)) (hf : cells + mc ≤ R.cells ∧ slots + ms ≤ R.slots) :
    va_Run p l e R s m args below meth c H locs cells slots mc ms g rest (Qc As.toArray) (free) := by
  obtain ⟨⟨hrc, hrs, hfr, hlo, hws, hcw⟩, hcode, hini, hy, hlen, hl, hstt⟩ := cw
  have hK : Back l R p e below s args y 3 8 (PreOf R mc ms Pc) (PostOf Qc mc ms free) := va_backW (hh := hh) (bytes := bytes) (maxL := maxL) (ret := ret) hM hp.1 hrc hrs hfr hlo hws hcw (fun a' U hW => word_at hW (Or.inl (by first | rfl | simp [Cond.onTables, Cond.keeps, Cond.steady])) hini)
  obtain ⟨hx, hb, hml, ho, -⟩ := S
  intro T hT X
  obtain ⟨v, vm₁, ⟨U', l2, c2, s2⟩, hW₁, X', ⟨g', mk, t, L, e1, e2, hq, h1, hL, h2, h3⟩, st⟩ := vx_callSW X hx (hh := hh) (bytes := bytes) (maxL := maxL) (ret := ret) ho hl hstt hini hcode hy hK hg (hsize.trans hml.symm) (argsL := As) (rest := rest) (fun sig h => hn.trans (hlen sig h)) hstack hW (by rw [hb]; exact hdg)
    (fun vm₁ hW₁ => ⟨hf.1, hf.2, hp.2 (T.setVm vm₁) hT hW₁⟩)
  dsimp only [Pt.U, Pt.locs, Pt.cells, Pt.slots] at X' e1 e2 h1 h2 h3 st
  subst h1; subst h2; subst h3
  exact ⟨v, (T.setVm vm₁).calling g' mk As.toArray, t, U', L, hT, X', hL, e1, e2, hq, st⟩
/-- not caught here, past rows that name other classes: it goes on to the caller -/
theorem vx_outP {p : Program} {l : Launch} {e : Env} {R : Room} {s : State} {m : MethodId} {args : Array Value} {below : List Frame} {meth : Method} {c : Code} {H : Heap} {locs : List Loc} {cells slots : Nat} {free : Addr → Prop} {ls : Array Slot} {rest : List Value} {Qc : Array Value → State → Outcome → State → Prop} {XC : String → State → State → Prop}
    {pc : Nat} {own E : String} {ce : Cell} {q : Addr} {mc ms : Nat} (hown : s.vm.findClass own = some m.cls) (hlocks : meth.locks = false)
    (hpass : ∀ z ∈ c.exceptionTable.toList, covers z pc = false ∨ (z.catchType ≠ 0 ∧ ∃ nm : String, (Cond.classLink own z.catchType nm).before args s = true ∧ va_Nc E nm s)) (hcell : H[q]? = some ce) (hv : ce.vm = .none) (hcl : s.vm.findClass E = some ce.cls)
    (hx : ∀ t : State, t.heap = H → s.vm.Alike t.vm → XC E s t) (hf : ∀ z ∈ locs, free z.base) (hc : cells ≤ mc) (hs : slots ≤ ms) :
    vx_W p l e R s m args below meth c H locs cells slots (vx_MQ below Qc XC args s mc ms free) (F0 m pc ls rest) q := by
  intro T hT X
  have hpl : e.platform.magicAccessors = ({} : Platform).magicAccessors := by rw [X.admits.platform]
  obtain ⟨vm', hW', X', st⟩ := X.outThrough hlocks q (g := F0 m pc ls rest) rfl rfl rfl (cell := ce) (by rw [hT]; exact hcell) (by rw [hv]; rfl)
    (by obtain ⟨k9, h9, -⟩ := Vm.findClass_spec hcl; exact ⟨k9, h9⟩) (fun z hz => by
      rcases hpass z hz with h | ⟨hz0, nm, hl1, hn1⟩
      · exact Or.inl h
      · obtain ⟨c6, hc6, hcl6⟩ := Cond.classLink_spec hown hl1 e.platform hpl
        obtain ⟨a8, b8, h1, h2, h3⟩ := hn1
        cases Option.some.inj (h1.symm.trans hcl)
        cases Option.some.inj (h2.symm.trans hc6)
        exact Or.inr ⟨hz0, _, hcl6, h3⟩)
  obtain ⟨g₀, hfr⟩ := X'.frames_eq
  have hcell9 : ((T.setVm vm').setFrames (.throwing q :: below)).heap[q]? = some ce := by
    show T.heap[q]? = some ce
    rw [hT]; exact hcell
  have hend : Ended ((T.setVm vm').setFrames (.throwing q :: below)) below (.threw q) := State.frames_setFrames _ (State.cur_lt_of_frames hfr)
  refine ⟨(T.setVm vm').setFrames (.throwing q :: below), ?_, .threw q, X'.here.running, hend, Or.inr ⟨q, rfl, E, ce, locs, hx _ hT (X'.ends _).1.alike, hcell9, hv, hcl, (X'.ends _).1, (X'.ends _).2.mono hc hs, hf⟩⟩
  rw [X.pushThrowing_eq]
  exact st
/-- a thing of a world lies in the heap -/
theorem vx_lt {D : va_G} {cl : List vw_C} {ws : va_W} {H1 : Heap} (h : va_P D cl ws H1) {k : Nat} {q : Nat × va_E} (hk : ws[k]? = some q) : q.1 < H1.size := (h k q hk).lt
end VXS
/-! ===== END ===== -/
/-! ===== BEGIN methods with a table of their own: called by a name, returning or throwing ===== -/
section VXH
/-! vx_backW, vx_callVX, vx_callSX, vx_callVW, vx_runVW, vx_runVX, vx_runSX, vx_ofWH follow the same proofs as their sisters above (Free/Laws.lean, Shelf42/LK1.lean); vx_outP calls Shelf42/NT130.lean (outThrough). -/
section
variable {l : Launch} {R : Room} {p : Program} {e : Env} {below : List Frame} {s : State} {sargs : Array Value} {y : MethodName} {len W9 : Nat}
theorem vx_backW {ws : List Cond} {rm : Room} {Pc : Array Value → State → Prop} {Qc : Array Value → State → Outcome → State → Prop} {XC : String → State → State → Prop} {mc ms : Nat} {free : Addr → Prop} {bytes : ByteArray} {maxL : Nat} {ret : Option FieldType} {hh : List (Nat × Nat × Nat × Nat)}
    (hM : vx_Met l y ws rm Pc Qc XC mc ms free) (hblind : FrameBlind Pc) (hrc : rm.cells = mc) (hrs : rm.slots = ms)
    (hframes : rm.frames + 1 ≤ R.frames) (hlocals : W9 + (maxL + 11) + rm.locals ≤ R.locals)
    (hws : ∀ w ∈ ws, ∀ a' U, s.WarmedH U.vm → w.before a' U = true) (hcode : Cond.codeWith y bytes maxL ret hh ∈ ws) (hinit : ∀ a' U, s.WarmedH U.vm → (Cond.initialized y.cls).before a' U = true) :
    vx_Back l R p e below s sargs y len W9 (PreOf R mc ms Pc) (PostOf Qc mc ms free) (vx_Post XC mc ms free) := by
  intro m meth c A g ig mk a X hg hsize hdg hW hn hp
  have h1 : (headSpec ws rm).pre.before a A.U = true := atoms_intro fun w hw => hws w hw _ _ X.warmed
  have h2 : (Cond.codeWith y bytes maxL ret hh).before a A.U = true := hws _ hcode _ _ X.warmed
  have h3 : (Cond.initialized y.cls).before a A.U = true := hinit _ _ X.warmed
  have h4 : A.cells + (headSpec ws rm).room.cells ≤ R.cells := by rw [show (headSpec ws rm).room.cells = mc from hrc]; exact hp.1
  have h5 : A.slots + (headSpec ws rm).room.slots ≤ R.slots := by rw [show (headSpec ws rm).room.slots = ms from hrs]; exact hp.2.1
  have hPc : Pc a (A.U.calling g mk a) := hblind _ _ _ _ hp.2.2
  obtain ⟨U, Ls, c0, s0⟩ := A
  dsimp only [Pt.U, Pt.locs, Pt.cells, Pt.slots] at h1 h2 h3 h4 h5 X hn hPc ⊢
  obtain ⟨m9, methY, cY, hn9, hmY, hcY, -, hlY, -⟩ := Cond.codeWith_spec h2
  cases Option.some.inj (hn9.symm.trans hn)
  obtain ⟨kY, hkY, -⟩ := className_of_methodNamed hn
  have hinitY : kY.init = .initialized := Cond.initialized_spec (findClass_of_methodNamed hn) hkY h3
  have h : At U g.method c below := by rw [hg]; exact X.here
  have hlocals9 : W9 + (maxL + 11) + (headSpec ws rm).room.locals ≤ R.locals := hlocals
  have happ : (headSpec ws rm).appliesLoose y e.platform (U.calling g mk a) = true :=
    Spec.appliesLoose_calling (g := g) h hdg hn hkY hinitY
      (X.room_calling (g := g) (R' := (headSpec ws rm).room) hsize hmY hcY hframes (by rw [hlY]; omega) h4 h5) h1
  obtain ⟨mid, hmid⟩ := h.above
  have hfr : (U.setTop g).frames = (.java g :: mid) ++ below := by rw [State.frames_setTop' g h.top, hmid]; rfl
  obtain ⟨o, s₂, hsteps, -, hend, hq⟩ := Steps.callFree hM p X.admits X.cas X.clock (acts := []) hfr happ hPc trivial
  have hq' : vx_Q Qc XC mc ms free a (U.calling g mk a) o s₂ := hq
  rw [State.frames_setTop' g h.top] at hend
  obtain ⟨g₀, hg0⟩ := Option.isSome_iff_exists.mp h.top
  obtain ⟨r, hr⟩ := State.topJava?_eq_some.mp hg0
  have hr' : (({ U with heap := s₂.heap, slotsUsed := s₂.slotsUsed } : State).setVm s₂.vm).frames = .java g₀ :: r := hr
  rcases hq' with ⟨hqc, L, hfe, hL⟩ | ⟨q, rfl, E, ce, L, hx, hce, hcv, hcl, hW₂, hsm, hL⟩
  · obtain ⟨⟨v, rfl⟩, hW₂, e2, q2, q3, q4, q5, q6⟩ := id hfe
    have e3 : s₂ = ({ (U.calling g mk a).setFrames s₂.frames with heap := s₂.heap, slotsUsed := s₂.slotsUsed } : State).setVm s₂.vm := by
      have : s₂ = ({ s₂ with vm := (U.calling g mk a).vm } : State).setVm s₂.vm := rfl
      rw [e2] at this
      exact this
    obtain ⟨c₂, i₂, len₂, hc₂, hd₂, hf₂⟩ := hend
    have hW' : U.WarmedH s₂.vm := hW₂
    have hcc : c₂ = c := by
      have h1 : s₂.code? g.method = U.code? g.method := by
        rw [State.code?_eq, State.code?_eq, hW'.alike.method?]
      exact Option.some.inj (hc₂.symm.trans (h1.trans h.code))
    subst hcc
    have hlen : len₂ = len := by rw [hdg] at hd₂; cases hd₂; rfl
    subst hlen
    have hs₂ : s₂ = (({ U with heap := s₂.heap, slotsUsed := s₂.slotsUsed } : State).setVm s₂.vm).setTop { g with pc := g.pc + len₂, stack := v.toList ++ g.stack } := by
      refine e3.trans ?_
      rw [hf₂, State.calling_eq h.top, State.setFrames_setFrames, State.setTop_of_frames _ hr', hr]
      rfl
    have hsame : U.sameButNew ({ U with heap := s₂.heap, slotsUsed := s₂.slotsUsed } : State) L mc ms := by
      refine ⟨?_, q2, q3, q4, q5, q6⟩
      obtain ⟨t, ht, -⟩ := State.frames_cons hr
      show ({ U with heap := s₂.heap, slotsUsed := s₂.slotsUsed } : State) = { U.setFrames U.frames with heap := s₂.heap, slotsUsed := s₂.slotsUsed }
      rw [State.setFrames_self ht]
    subst hg
    refine Or.inl ⟨v, ⟨(({ U with heap := s₂.heap, slotsUsed := s₂.slotsUsed } : State).setVm s₂.vm), Ls ++ L, c0 + mc, s0 + ms⟩,
      ⟨X.admits, X.cas, X.clock, X.frames, X.room, X.hears, X.method, X.code, (X.here.setHeapUsed s₂.heap s₂.slotsUsed).setVm hW'.alike, X.tail, State.WarmedH.trans X.warmed hW', X.limits, X.bytes, X.same.trans (hsame.setVm s.vm)⟩,
      ⟨g, mk, s₂, L, rfl, rfl, hqc, rfl, hL, rfl, rfl⟩, ?_⟩
    show Steps p.tables e below _ ((({ U with heap := s₂.heap, slotsUsed := s₂.slotsUsed } : State).setVm s₂.vm).setTop { g with pc := g.pc + len₂, stack := v.toList ++ g.stack })
    rw [← hs₂]
    exact hsteps
  · obtain ⟨e2, q2, q3, q4, q5, q6⟩ := id hsm
    have e3 : s₂ = ({ (U.calling g mk a).setFrames s₂.frames with heap := s₂.heap, slotsUsed := s₂.slotsUsed } : State).setVm s₂.vm := by
      have : s₂ = ({ s₂ with vm := (U.calling g mk a).vm } : State).setVm s₂.vm := rfl
      rw [e2] at this
      exact this
    have hf₂ : s₂.frames = .throwing q :: .java g :: U.frames.tail := hend
    have hW' : U.WarmedH s₂.vm := hW₂
    have hs₂ : s₂ = ((({ U with heap := s₂.heap, slotsUsed := s₂.slotsUsed } : State).setVm s₂.vm).setTop g).pushFrame (.throwing q) := by
      refine e3.trans ?_
      rw [hf₂, State.calling_eq h.top, State.setFrames_setFrames, State.pushFrame, State.frames_setTop _ hr', State.setTop_of_frames _ hr', State.setFrames_setFrames, hr]
      rfl
    have hsame : U.sameButNew ({ U with heap := s₂.heap, slotsUsed := s₂.slotsUsed } : State) L mc ms := by
      refine ⟨?_, q2, q3, q4, q5, q6⟩
      obtain ⟨t, ht, -⟩ := State.frames_cons hr
      show ({ U with heap := s₂.heap, slotsUsed := s₂.slotsUsed } : State) = { U.setFrames U.frames with heap := s₂.heap, slotsUsed := s₂.slotsUsed }
      rw [State.setFrames_self ht]
    subst hg
    refine Or.inr ⟨q, ⟨(({ U with heap := s₂.heap, slotsUsed := s₂.slotsUsed } : State).setVm s₂.vm), Ls ++ L, c0 + mc, s0 + ms⟩,
      ⟨X.admits, X.cas, X.clock, X.frames, X.room, X.hears, X.method, X.code, (X.here.setHeapUsed s₂.heap s₂.slotsUsed).setVm hW'.alike, X.tail, State.WarmedH.trans X.warmed hW', X.limits, X.bytes, X.same.trans (hsame.setVm s.vm)⟩,
      ⟨g, mk, s₂, L, E, ce, rfl, rfl, hx, hce, hcv, hcl, rfl, hL, rfl, rfl⟩, ?_⟩
    show Steps p.tables e below _ (((({ U with heap := s₂.heap, slotsUsed := s₂.slotsUsed } : State).setVm s₂.vm).setTop g).pushFrame (.throwing q))
    rw [← hs₂]
    exact hsteps
end
variable {p : Program} {l : Launch} {e : Env} {R : Room} {s : State} {m : MethodId} {args : Array Value} {below : List Frame} {meth : Method} {c : Code} {T : State} {H : Heap} {locs : List Loc} {cells slots : Nat}
theorem vx_callVX (X : Stand p l e R s m args below meth c T locs cells slots) (hexec : p.tables.exec = Jvm.exec) {own C : String} {index : Nat} {y : MethodName} {bytes : ByteArray} {maxL : Nat} {ret : Option FieldType} {hh : List (Nat × Nat × Nat × Nat)}
    (hown : s.vm.findClass own = some m.cls) (hlink : (Cond.methodLink own index y).before args s = true) (hinst : (Cond.instanceMethod y).before args s = true) (hsel : (Cond.selects C y y).before args s = true)
    (hcode : (Cond.codeWith y bytes maxL ret hh).before args s = true) (hy : y.cls ≠ "java/lang/invoke/MethodHandle" ∧ y.cls ≠ "java/lang/invoke/VarHandle")
    {W9 : Nat} {Pre : Pt → Array Value → Prop} {Post : Pt → Array Value → Option Value → Pt → Prop} {PostX : Pt → Array Value → Addr → Pt → Prop} (hK : vx_Back l R p e below s args y 3 W9 Pre Post PostX)
    {b : Addr} {cellB : Cell} (hcell : T.heap[b]? = some cellB) (hobj : cellB.vm.isStatics = false) (hcls : s.vm.findClass C = some cellB.cls)
    {g : JFrame} (hg : g.method = m) (hsize : g.locals.size = c.maxLocals) {argsL rest : List Value} (hlen : ∀ sig, parseMethodDescriptor y.desc = some sig → argsL.length = sig.parameters.length)
    (hstack : g.stack = argsL.reverse ++ .ref b :: rest) (hW : 2 * g.monitorRoom + (rest.map fun v => v.category).sum ≤ W9) (hdg : decode c.code g.pc = .ok (.invokevirtual index, 3))
    (hpre : ∀ vm₁, s.WarmedH vm₁ → Pre ⟨T.setVm vm₁, locs, cells, slots⟩ (Value.ref b :: argsL).toArray) :
    (∃ (v : Option Value) (vm₁ : Vm) (B : Pt), s.WarmedH vm₁ ∧ Stand p l e R s m args below meth c B.U B.locs B.cells B.slots ∧ Post ⟨T.setVm vm₁, locs, cells, slots⟩ (Value.ref b :: argsL).toArray v B ∧
      ∀ target, Steps p.tables e below (B.U.setTop { g with pc := g.pc + 3, stack := v.toList ++ rest }) target → Steps p.tables e below (T.setTop g) target) ∨
    (∃ (q : Addr) (vm₁ : Vm) (B : Pt), s.WarmedH vm₁ ∧ Stand p l e R s m args below meth c B.U B.locs B.cells B.slots ∧ PostX ⟨T.setVm vm₁, locs, cells, slots⟩ (Value.ref b :: argsL).toArray q B ∧
      Steps p.tables e below (T.setTop g) ((B.U.setTop { g with stack := rest }).pushFrame (.throwing q))) := by
  obtain ⟨mk, methM, hnamed, hmethM, hstM, habM⟩ := Cond.instanceMethod_spec hinst
  obtain ⟨m8, methM', cM, hn8, hmethM', -, -, -, -, -, -, hsigM⟩ := Cond.codeWith_spec hcode
  cases Option.some.inj (hn8.symm.trans hnamed)
  cases hmethM.symm.trans hmethM'
  obtain ⟨c2, r2, m2, q1, q2, q3, q4, kP, hkP, hkPi⟩ := Cond.selects_spec hsel
  cases hcls.symm.trans q1
  cases (State.methodFound?_of_named hnamed hy).symm.trans q2
  cases hnamed.symm.trans q3
  have hselP : selectMethod e.platform s.vm cellB.cls mk = .method mk := by rw [Launch.admits_selectMethod X.admits]; exact q4
  obtain ⟨vm₁, X₁, hstep₁⟩ := X.invokevirtual hexec hown hlink hnamed hmethM hstM hkP hkPi hy (a := b) (cell := cellB) hcell
    (fun z h => by rw [h] at hobj; cases hobj) hselP hmethM habM hkP hkPi (g := g) hg (argsL := argsL) (rest := rest) (hlen _ hsigM) hstack hdg
  rcases hK m meth c ⟨T.setVm vm₁, locs, cells, slots⟩ { g with stack := rest } (.invokevirtual index) mk (Value.ref b :: argsL).toArray X₁ hg hsize hdg hW (X₁.named hnamed) (hpre vm₁ X₁.warmed) with ⟨v, B, X', hpost, hsteps⟩ | ⟨q, B, X', hpost, hsteps⟩
  · exact Or.inl ⟨v, vm₁, B, X₁.warmed, X', hpost, fun target h => hstep₁ _ fun acts => by rw [doInvoke_state]; exact hsteps.trans h⟩
  · exact Or.inr ⟨q, vm₁, B, X₁.warmed, X', hpost, hstep₁ _ fun acts => by rw [doInvoke_state]; exact hsteps⟩
theorem vx_callSX (X : Stand p l e R s m args below meth c T locs cells slots) (hexec : p.tables.exec = Jvm.exec) {own : String} {index : Nat} {y : MethodName} {bytes : ByteArray} {maxL : Nat} {ret : Option FieldType} {hh : List (Nat × Nat × Nat × Nat)}
    (hown : s.vm.findClass own = some m.cls) (hlink : (Cond.methodLink own index y).before args s = true) (hstat : (Cond.static y).before args s = true) (hinit : (Cond.initialized y.cls).before args s = true)
    (hcode : (Cond.codeWith y bytes maxL ret hh).before args s = true) (hy : y.cls ≠ "java/lang/invoke/MethodHandle" ∧ y.cls ≠ "java/lang/invoke/VarHandle")
    {W9 : Nat} {Pre : Pt → Array Value → Prop} {Post : Pt → Array Value → Option Value → Pt → Prop} {PostX : Pt → Array Value → Addr → Pt → Prop} (hK : vx_Back l R p e below s args y 3 W9 Pre Post PostX)
    {g : JFrame} (hg : g.method = m) (hsize : g.locals.size = c.maxLocals) {argsL rest : List Value} (hlen : ∀ sig, parseMethodDescriptor y.desc = some sig → argsL.length = sig.parameters.length)
    (hstack : g.stack = argsL.reverse ++ rest) (hW : 2 * g.monitorRoom + (rest.map fun v => v.category).sum ≤ W9) (hdg : decode c.code g.pc = .ok (.invokestatic index, 3))
    (hpre : ∀ vm₁, s.WarmedH vm₁ → Pre ⟨T.setVm vm₁, locs, cells, slots⟩ argsL.toArray) :
    (∃ (v : Option Value) (vm₁ : Vm) (B : Pt), s.WarmedH vm₁ ∧ Stand p l e R s m args below meth c B.U B.locs B.cells B.slots ∧ Post ⟨T.setVm vm₁, locs, cells, slots⟩ argsL.toArray v B ∧
      ∀ target, Steps p.tables e below (B.U.setTop { g with pc := g.pc + 3, stack := v.toList ++ rest }) target → Steps p.tables e below (T.setTop g) target) ∨
    (∃ (q : Addr) (vm₁ : Vm) (B : Pt), s.WarmedH vm₁ ∧ Stand p l e R s m args below meth c B.U B.locs B.cells B.slots ∧ PostX ⟨T.setVm vm₁, locs, cells, slots⟩ argsL.toArray q B ∧
      Steps p.tables e below (T.setTop g) ((B.U.setTop { g with stack := rest }).pushFrame (.throwing q))) := by
  obtain ⟨mk, methM, cM, hnamed, hmethM, -, -, -, -, -, -, hsigM⟩ := Cond.codeWith_spec hcode
  have hstatic : methM.isStatic = true := Cond.static_spec hnamed hmethM hstat
  obtain ⟨kP, hkP, -⟩ := className_of_methodNamed hnamed
  have hinitP : kP.init = .initialized := Cond.initialized_spec (findClass_of_methodNamed hnamed) hkP hinit
  obtain ⟨vm₁, X₁, hstep₁⟩ := X.invokestatic hexec hown hlink hnamed hmethM hstatic hkP hinitP hy (g := g) hg (argsL := argsL) (rest := rest) (hlen _ hsigM) hstack hdg
  rcases hK m meth c ⟨T.setVm vm₁, locs, cells, slots⟩ { g with stack := rest } (.invokestatic index) mk argsL.toArray X₁ hg hsize hdg hW (X₁.named hnamed) (hpre vm₁ X₁.warmed) with ⟨v, B, X', hpost, hsteps⟩ | ⟨q, B, X', hpost, hsteps⟩
  · exact Or.inl ⟨v, vm₁, B, X₁.warmed, X', hpost, fun target h => hstep₁ _ fun acts => by rw [doInvoke_state]; exact hsteps.trans h⟩
  · exact Or.inr ⟨q, vm₁, B, X₁.warmed, X', hpost, hstep₁ _ fun acts => by rw [doInvoke_state]; exact hsteps⟩
theorem vx_callVW (X : Stand p l e R s m args below meth c T locs cells slots) (hexec : p.tables.exec = Jvm.exec) {own C : String} {index : Nat} {y : MethodName} {bytes : ByteArray} {maxL : Nat} {ret : Option FieldType} {hh : List (Nat × Nat × Nat × Nat)}
    (hown : s.vm.findClass own = some m.cls) (hlink : (Cond.methodLink own index y).before args s = true) (hinst : (Cond.instanceMethod y).before args s = true) (hsel : (Cond.selects C y y).before args s = true)
    (hcode : (Cond.codeWith y bytes maxL ret hh).before args s = true) (hy : y.cls ≠ "java/lang/invoke/MethodHandle" ∧ y.cls ≠ "java/lang/invoke/VarHandle")
    {W9 : Nat} {Pre : Pt → Array Value → Prop} {Post : Pt → Array Value → Option Value → Pt → Prop} (hK : Back l R p e below s args y 3 W9 Pre Post)
    {b : Addr} {cellB : Cell} (hcell : T.heap[b]? = some cellB) (hobj : cellB.vm.isStatics = false) (hcls : s.vm.findClass C = some cellB.cls)
    {g : JFrame} (hg : g.method = m) (hsize : g.locals.size = c.maxLocals) {argsL rest : List Value} (hlen : ∀ sig, parseMethodDescriptor y.desc = some sig → argsL.length = sig.parameters.length)
    (hstack : g.stack = argsL.reverse ++ .ref b :: rest) (hW : 2 * g.monitorRoom + (rest.map fun v => v.category).sum ≤ W9) (hdg : decode c.code g.pc = .ok (.invokevirtual index, 3))
    (hpre : ∀ vm₁, s.WarmedH vm₁ → Pre ⟨T.setVm vm₁, locs, cells, slots⟩ (Value.ref b :: argsL).toArray) :
    ∃ (v : Option Value) (vm₁ : Vm) (B : Pt), s.WarmedH vm₁ ∧ Stand p l e R s m args below meth c B.U B.locs B.cells B.slots ∧ Post ⟨T.setVm vm₁, locs, cells, slots⟩ (Value.ref b :: argsL).toArray v B ∧
      ∀ target, Steps p.tables e below (B.U.setTop { g with pc := g.pc + 3, stack := v.toList ++ rest }) target → Steps p.tables e below (T.setTop g) target := by
  obtain ⟨mk, methM, hnamed, hmethM, hstM, habM⟩ := Cond.instanceMethod_spec hinst
  obtain ⟨m8, methM', cM, hn8, hmethM', -, -, -, -, -, -, hsigM⟩ := Cond.codeWith_spec hcode
  cases Option.some.inj (hn8.symm.trans hnamed)
  cases hmethM.symm.trans hmethM'
  obtain ⟨c2, r2, m2, q1, q2, q3, q4, kP, hkP, hkPi⟩ := Cond.selects_spec hsel
  cases hcls.symm.trans q1
  cases (State.methodFound?_of_named hnamed hy).symm.trans q2
  cases hnamed.symm.trans q3
  have hselP : selectMethod e.platform s.vm cellB.cls mk = .method mk := by rw [Launch.admits_selectMethod X.admits]; exact q4
  obtain ⟨vm₁, X₁, hstep₁⟩ := X.invokevirtual hexec hown hlink hnamed hmethM hstM hkP hkPi hy (a := b) (cell := cellB) hcell
    (fun z h => by rw [h] at hobj; cases hobj) hselP hmethM habM hkP hkPi (g := g) hg (argsL := argsL) (rest := rest) (hlen _ hsigM) hstack hdg
  obtain ⟨v, B, X', hpost, hsteps⟩ := hK m meth c ⟨T.setVm vm₁, locs, cells, slots⟩ { g with stack := rest } (.invokevirtual index) mk (Value.ref b :: argsL).toArray X₁ hg hsize hdg hW (X₁.named hnamed) (hpre vm₁ X₁.warmed)
  exact ⟨v, vm₁, B, X₁.warmed, X', hpost, fun target h => hstep₁ _ fun acts => by rw [doInvoke_state]; exact hsteps.trans h⟩
abbrev vx_CVW (R : Room) (s : State) (args : Array Value) (own C : String) (index : Nat) (y : MethodName) (bytes : ByteArray) (maxL : Nat) (ret : Option FieldType) (hh : List (Nat × Nat × Nat × Nat)) (ws : List Cond) (rm : Room) (mc ms n : Nat) : Prop :=
  (rm.cells = mc ∧ rm.slots = ms ∧ rm.frames + 1 ≤ R.frames ∧ 8 + (maxL + 11) + rm.locals ≤ R.locals ∧ (∀ w ∈ ws, ∀ (a' : Array Value) (U : State), s.WarmedH U.vm → w.before a' U = true) ∧ Cond.codeWith y bytes maxL ret hh ∈ ws) ∧
  (Cond.codeWith y bytes maxL ret hh).before args s = true ∧ (Cond.initialized y.cls).before args s = true ∧ (y.cls ≠ "java/lang/invoke/MethodHandle" ∧ y.cls ≠ "java/lang/invoke/VarHandle") ∧
  (∀ sig, parseMethodDescriptor y.desc = some sig → n = sig.parameters.length) ∧ (Cond.methodLink own index y).before args s = true ∧ (Cond.instanceMethod y).before args s = true ∧ (Cond.selects C y y).before args s = true
theorem vx_cwVW {own C : String} {index maxL mc ms : Nat} {y : MethodName} {bytes : ByteArray} {ret : Option FieldType} {hh : List (Nat × Nat × Nat × Nat)} {Ts ws ws' : List Cond} {rm : Room} (n : Nat) (ht : ∀ w ∈ Ts, w.before args s = true) (hT : GoodIn Ts (wsV own index C y ws)) (hw : ws = Cond.codeWith y bytes maxL ret hh :: ws') (hrc : rm.cells = mc) (hrs : rm.slots = ms)
    (hd : y.cls = C ∧ y.cls ≠ "java/lang/invoke/MethodHandle" ∧ y.cls ≠ "java/lang/invoke/VarHandle" ∧ (parseMethodDescriptor y.desc).map (fun d => d.parameters.length) = some n) (hR : rm.frames + 1 ≤ R.frames ∧ 8 + (maxL + 11) + rm.locals ≤ R.locals) :
    vx_CVW R s args own C index y bytes maxL ret hh ws rm mc ms n := by
  obtain ⟨hC, hd⟩ := hd
  subst hC
  have ok : ∀ w ∈ wsV own index y.cls y ws, w.before args s = true := fun w h => ht w (hT w h).1
  have hG : GoodIn Ts ws := fun w h => hT w (by unfold wsV; exact List.mem_append_right _ h)
  have hc : Cond.codeWith y bytes maxL ret hh ∈ ws := by rw [hw]; exact List.mem_cons_self
  refine ⟨⟨hrc, hrs, hR.1, hR.2, pay_in ht hG, hc⟩, ht _ (hG _ hc).1, ok _ (by simp [wsV]), ⟨hd.1, hd.2.1⟩, fun sig h => ?_, ok _ (by simp [wsV]), ok _ (by simp [wsV]), ok _ (by simp [wsV])⟩
  have h2 := hd.2.2
  rw [h] at h2
  exact (Option.some.inj h2).symm
theorem vx_runVW {y : MethodName} {bytes cc : ByteArray} {maxL nL mc ms n index : Nat} {ret : Option FieldType} {hh : List (Nat × Nat × Nat × Nat)} {ws : List Cond} {rm : Room} {Pc : Array Value → State → Prop} {Qc : Array Value → State → Outcome → State → Prop} {free : Addr → Prop} {Ts : List Cond} {own C : String} {b : Addr} {As rest : List Value} {g : JFrame}
    (S : CallFix p m c cc nL s args Ts own) (hM : Met l y ws rm Pc Qc mc ms free) (cw : vx_CVW R s args own C index y bytes maxL ret hh ws rm mc ms n) (hp : PreV s H C b Pc As)
    (hg : g.method = m) (hn : As.length = n) (hsize : g.locals.size = nL) (hstack : g.stack = As.reverse ++ .ref b :: rest) (hW : 2 * g.monitorRoom + (rest.map fun v => v.category).sum ≤ 8) (hdg : decode cc g.pc = .ok (.invokevirtual index, 3)) (hf : cells + mc ≤ R.cells ∧ slots + ms ≤ R.slots) :
    va_Run p l e R s m args below meth c H locs cells slots mc ms g rest (Qc (Value.ref b :: As).toArray) free := by
  obtain ⟨⟨hrc, hrs, hfr, hlo, hws, hcw⟩, hcode, hini, hy, hlen, hl, hin, hse⟩ := cw
  have hK : Back l R p e below s args y 3 8 (PreOf R mc ms Pc) (PostOf Qc mc ms free) := va_backW (hh := hh) (bytes := bytes) (maxL := maxL) (ret := ret) hM hp.1 hrc hrs hfr hlo hws hcw (fun a' U hW => word_at hW (Or.inl (by first | rfl | simp [Cond.onTables, Cond.keeps, Cond.steady])) hini)
  obtain ⟨hx, hb, hml, ho, -⟩ := S
  obtain ⟨-, ⟨cellB, hcB, hoB, hclB⟩, hPc⟩ := hp
  intro T hT X
  obtain ⟨v, vm₁, ⟨U', l2, c2, s2⟩, hW₁, X', ⟨g', mk, t, L, e1, e2, hq, h1, hL, h2, h3⟩, st⟩ := vx_callVW X hx (C := C) (hh := hh) (bytes := bytes) (maxL := maxL) (ret := ret) ho hl hin hse hcode hy hK (by rw [hT]; exact hcB) hoB hclB hg (hsize.trans hml.symm) (argsL := As) (rest := rest) (fun sig h => hn.trans (hlen sig h)) hstack hW (by rw [hb]; exact hdg)
    (fun vm₁ hW₁ => ⟨hf.1, hf.2, hPc (T.setVm vm₁) hT hW₁⟩)
  dsimp only [Pt.U, Pt.locs, Pt.cells, Pt.slots] at X' e1 e2 h1 h2 h3 st
  subst h1; subst h2; subst h3
  exact ⟨v, (T.setVm vm₁).calling g' mk (Value.ref b :: As).toArray, t, U', L, hT, X', hL, e1, e2, hq, st⟩
section
variable {y : MethodName} {bytes cc : ByteArray} {maxL nL mc ms n index : Nat} {ret : Option FieldType} {ws : List Cond} {rm : Room} {Pc : Array Value → State → Prop} {Qc : Array Value → State → Outcome → State → Prop} {XC : String → State → State → Prop} {free : Addr → Prop} {Ts : List Cond} {own C : String} {b : Addr} {As rest : List Value} {g : JFrame}
theorem vx_runVX {hh : List (Nat × Nat × Nat × Nat)} (S : CallFix p m c cc nL s args Ts own) (hM : vx_Met l y ws rm Pc Qc XC mc ms free) (cw : vx_CVW R s args own C index y bytes maxL ret hh ws rm mc ms n) (hp : PreV s H C b Pc As)
    (hg : g.method = m) (hn : As.length = n) (hsize : g.locals.size = nL) (hstack : g.stack = As.reverse ++ .ref b :: rest) (hW : 2 * g.monitorRoom + (rest.map fun v => v.category).sum ≤ 8) (hdg : decode cc g.pc = .ok (.invokevirtual index, 3)) (hf : cells + mc ≤ R.cells ∧ slots + ms ≤ R.slots) :
    vx_Run p l e R s m args below meth c H locs cells slots mc ms g rest (Qc (Value.ref b :: As).toArray) XC free := by
  obtain ⟨⟨hrc, hrs, hfr, hlo, hws, hcw⟩, hcode, hini, hy, hlen, hl, hin, hse⟩ := cw
  have hK : vx_Back l R p e below s args y 3 8 (PreOf R mc ms Pc) (PostOf Qc mc ms free) (vx_Post XC mc ms free) := vx_backW (hh := hh) (bytes := bytes) (maxL := maxL) (ret := ret) hM hp.1 hrc hrs hfr hlo hws hcw (fun a' U hW => word_at hW (Or.inl (by first | rfl | simp [Cond.onTables, Cond.keeps, Cond.steady])) hini)
  obtain ⟨hx, hb, hml, ho, -⟩ := S
  obtain ⟨-, ⟨cellB, hcB, hoB, hclB⟩, hPc⟩ := hp
  intro T hT X
  rcases vx_callVX X hx (C := C) (hh := hh) (bytes := bytes) (maxL := maxL) (ret := ret) ho hl hin hse hcode hy hK (by rw [hT]; exact hcB) hoB hclB hg (hsize.trans hml.symm) (argsL := As) (rest := rest) (fun sig h => hn.trans (hlen sig h)) hstack hW (by rw [hb]; exact hdg)
    (fun vm₁ hW₁ => ⟨hf.1, hf.2, hPc (T.setVm vm₁) hT hW₁⟩) with ⟨v, vm₁, ⟨U', l2, c2, s2⟩, hW₁, X', ⟨g', mk, t, L, e1, e2, hq, h1, hL, h2, h3⟩, st⟩ | ⟨q, vm₁, ⟨U', l2, c2, s2⟩, hW₁, X', ⟨g', mk, t, L, E, ce, e1, e2, hq, hce, hcv, hcl, h1, hL, h2, h3⟩, st⟩
  · dsimp only [Pt.U, Pt.locs, Pt.cells, Pt.slots] at X' e1 e2 h1 h2 h3 st
    subst h1; subst h2; subst h3
    exact Or.inl ⟨v, (T.setVm vm₁).calling g' mk (Value.ref b :: As).toArray, t, U', L, hT, X', hL, e1, e2, hq, st⟩
  · dsimp only [Pt.U, Pt.locs, Pt.cells, Pt.slots] at X' e1 e2 h1 h2 h3 st hcl
    subst h1; subst h2; subst h3
    exact Or.inr ⟨q, (T.setVm vm₁).calling g' mk (Value.ref b :: As).toArray, t, U', L, E, ce, hT, X', hL, e1, e2, hq, hce, hcv, vx_cls hW₁ hcl, st⟩
theorem vx_runSX {hh : List (Nat × Nat × Nat × Nat)} (S : CallFix p m c cc nL s args Ts own) (hM : vx_Met l y ws rm Pc Qc XC mc ms free) (cw : vx_CSW R s args own index y bytes maxL ret hh ws rm mc ms n) (hp : PreS s H Pc As)
    (hg : g.method = m) (hn : As.length = n) (hsize : g.locals.size = nL) (hstack : g.stack = As.reverse ++ rest) (hW : 2 * g.monitorRoom + (rest.map fun v => v.category).sum ≤ 8) (hdg : decode cc g.pc = .ok (.invokestatic index, 3)) (hf : cells + mc ≤ R.cells ∧ slots + ms ≤ R.slots) :
    vx_Run p l e R s m args below meth c H locs cells slots mc ms g rest (Qc As.toArray) XC free := by
  obtain ⟨⟨hrc, hrs, hfr, hlo, hws, hcw⟩, hcode, hini, hy, hlen, hl, hstt⟩ := cw
  have hK : vx_Back l R p e below s args y 3 8 (PreOf R mc ms Pc) (PostOf Qc mc ms free) (vx_Post XC mc ms free) := vx_backW (hh := hh) (bytes := bytes) (maxL := maxL) (ret := ret) hM hp.1 hrc hrs hfr hlo hws hcw (fun a' U hW => word_at hW (Or.inl (by first | rfl | simp [Cond.onTables, Cond.keeps, Cond.steady])) hini)
  obtain ⟨hx, hb, hml, ho, -⟩ := S
  intro T hT X
  rcases vx_callSX X hx (hh := hh) (bytes := bytes) (maxL := maxL) (ret := ret) ho hl hstt hini hcode hy hK hg (hsize.trans hml.symm) (argsL := As) (rest := rest) (fun sig h => hn.trans (hlen sig h)) hstack hW (by rw [hb]; exact hdg)
    (fun vm₁ hW₁ => ⟨hf.1, hf.2, hp.2 (T.setVm vm₁) hT hW₁⟩) with ⟨v, vm₁, ⟨U', l2, c2, s2⟩, hW₁, X', ⟨g', mk, t, L, e1, e2, hq, h1, hL, h2, h3⟩, st⟩ | ⟨q, vm₁, ⟨U', l2, c2, s2⟩, hW₁, X', ⟨g', mk, t, L, E, ce, e1, e2, hq, hce, hcv, hcl, h1, hL, h2, h3⟩, st⟩
  · dsimp only [Pt.U, Pt.locs, Pt.cells, Pt.slots] at X' e1 e2 h1 h2 h3 st
    subst h1; subst h2; subst h3
    exact Or.inl ⟨v, (T.setVm vm₁).calling g' mk As.toArray, t, U', L, hT, X', hL, e1, e2, hq, st⟩
  · dsimp only [Pt.U, Pt.locs, Pt.cells, Pt.slots] at X' e1 e2 h1 h2 h3 st hcl
    subst h1; subst h2; subst h3
    exact Or.inr ⟨q, (T.setVm vm₁).calling g' mk As.toArray, t, U', L, E, ce, hT, X', hL, e1, e2, hq, hce, hcv, vx_cls hW₁ hcl, st⟩
end
end VXH
theorem vx_ofWH {l : Launch} {y : MethodName} {ws ws' : List Cond} {rm : Room} {Pc : Array Value → State → Prop} {Qc : Array Value → State → Outcome → State → Prop} {XC : String → State → State → Prop} {mc ms : Nat} {free : Addr → Prop} {cc : ByteArray} {maxL : Nat} {ret : Option FieldType} {hh : List (Nat × Nat × Nat × Nat)}
    (hy : plainName y.cls = true) (hw : ws = Cond.codeWith y cc maxL ret hh :: ws')
    (body : ∀ p e s m args below meth c s₁, BodyLoose p l y (headSpec ws rm) cc maxL ret e s m args below meth c s₁ → c.maxLocals = maxL → Pc args s →
      W p l e (headSpec ws rm).room s m args below meth c s.heap [] 0 0 (vx_MQ below Qc XC args s mc ms free) (entryFrame m args maxL)) : vx_Met l y ws rm Pc Qc XC mc ms free := by
  refine MetFree.of_bodyS (code := cc) (maxLocals := maxL) (ret := ret) hy ?_ ?_
  · intro args s m h hn
    obtain ⟨m9, meth, c, hn9, h1, h2, h3, h4, -, h5, h6, -⟩ := Cond.codeWith_spec (atoms_spec (ws := ws) h _ (by rw [hw]; exact List.mem_cons_self))
    cases hn.symm.trans hn9
    exact ⟨meth, c, h1, h2, h3, h4, h5, h6⟩
  · intro p e s m args below meth c s₁ B hml hP _
    have hh0 : s₁.heap = s.heap := by rw [B.state]; rfl
    obtain ⟨t, a1, o, b1, b2, b3⟩ := body p e s m args below meth c s₁ B hml hP s₁ hh0 (Stand.of_body B)
    exact ⟨t, o, a1, b1, b2, b3⟩
/-! ===== END ===== -/
end
section
/-! ===== BEGIN printed: names, fields, word lists, decode rows ===== -/
def RX0 : String := "RevisionStores$Holding"
def TX0 : u_T := fun k => match k with
  | 0 => ("RevisionStores$Holding", "held", "[Z", true)
  | 1 => ("RevisionStores$Holding", "nearestLeaf", "[I", true)
  | _ => ("RevisionStores$Holding", "winners", "[I", true)
def tyX0 : Nat → FieldType := fun k => match k with
  | 0 => .array .boolean
  | 1 => .array .int
  | _ => .array .int
abbrev wsX00 : List Cond := u_ws RX0 TX0 3
theorem nmX0 : ∀ a, a < 3 → ∀ b, b < 3 → a ≠ b → (TX0 a).2.1 ≠ (TX0 b).2.1 := by decide +kernel
theorem tyX0_ok : ∀ k, k < 3 → parseFieldDescriptor (TX0 k).2.2.1 = some (tyX0 k) := by decide +kernel
abbrev cX0_init : ByteArray := prog_2_method_1_code
def yX0_init : MethodName := ⟨RX0, "<init>", "()V"⟩
abbrev cX0_survey : ByteArray := prog_2_method_2_code
def yX0_survey : MethodName := ⟨RX0, "survey", "(LRevisionStores$Tree;)V"⟩
abbrev cX0_findLeaves : ByteArray := prog_2_method_3_code
def yX0_findLeaves : MethodName := ⟨RX0, "findLeaves", "(LRevisionStores$Tree;)V"⟩
abbrev cX0_findWinners : ByteArray := prog_2_method_4_code
def yX0_findWinners : MethodName := ⟨RX0, "findWinners", "(LRevisionStores$Tree;)V"⟩
abbrev cX0_stem : ByteArray := prog_2_method_5_code
def yX0_stem : MethodName := ⟨RX0, "stem", "(LRevisionStores$Tree;I)I"⟩
abbrev cX0_hasDescendantOf : ByteArray := prog_2_method_6_code
def yX0_hasDescendantOf : MethodName := ⟨RX0, "hasDescendantOf", "(I)Z"⟩
abbrev cX0_endsAt : ByteArray := prog_2_method_7_code
def yX0_endsAt : MethodName := ⟨RX0, "endsAt", "(I)Z"⟩
abbrev cX0_removeAll : ByteArray := prog_2_method_8_code
def yX0_removeAll : MethodName := ⟨RX0, "removeAll", "()V"⟩
abbrev cX0_addAll : ByteArray := prog_2_method_9_code
def yX0_addAll : MethodName := ⟨RX0, "addAll", "(LRevisionStores$Tree;LRevisionStores$Holding;)V"⟩
abbrev cX0_addBranches : ByteArray := prog_2_method_10_code
def yX0_addBranches : MethodName := ⟨RX0, "addBranches", "(LRevisionStores$Tree;LRevisionStores$Holding;I)I"⟩
abbrev cX0_addLine : ByteArray := prog_2_method_11_code
def yX0_addLine : MethodName := ⟨RX0, "addLine", "(LRevisionStores$Tree;LRevisionStores$Holding;I)I"⟩
abbrev cX0_countAll : ByteArray := prog_2_method_12_code
def yX0_countAll : MethodName := ⟨RX0, "countAll", "(LRevisionStores$Tree;)I"⟩
abbrev cX0_countLiveLeaves : ByteArray := prog_2_method_13_code
def yX0_countLiveLeaves : MethodName := ⟨RX0, "countLiveLeaves", "(LRevisionStores$Tree;I)I"⟩
abbrev cX0_shownValue : ByteArray := prog_2_method_14_code
def yX0_shownValue : MethodName := ⟨RX0, "shownValue", "(LRevisionStores$Tree;I)I"⟩
abbrev cX0_countShownBefore : ByteArray := prog_2_method_15_code
def yX0_countShownBefore : MethodName := ⟨RX0, "countShownBefore", "(LRevisionStores$Tree;II)I"⟩
def RX1 : String := "RevisionStores$Store"
def TX1 : u_T := fun k => match k with
  | 0 => ("RevisionStores$Store", "holding", "LRevisionStores$Holding;", true)
  | 1 => ("RevisionStores$Store", "depth", "I", false)
  | 2 => ("RevisionStores$Store", "latest", "I", false)
  | 3 => ("RevisionStores$Store", "changes", "[I", true)
  | _ => ("RevisionStores$Store", "checkpoints", "[I", true)
def tyX1 : Nat → FieldType := fun k => match k with
  | 0 => .object "RevisionStores$Holding"
  | 1 => .int
  | 2 => .int
  | 3 => .array .int
  | _ => .array .int
abbrev wsX10 : List Cond := u_ws RX1 TX1 5
theorem nmX1 : ∀ a, a < 5 → ∀ b, b < 5 → a ≠ b → (TX1 a).2.1 ≠ (TX1 b).2.1 := by decide +kernel
theorem tyX1_ok : ∀ k, k < 5 → parseFieldDescriptor (TX1 k).2.2.1 = some (tyX1 k) := by decide +kernel
abbrev cX1_init : ByteArray := prog_3_method_1_code
def yX1_init : MethodName := ⟨RX1, "<init>", "()V"⟩
abbrev cX1_append : ByteArray := prog_3_method_2_code
def yX1_append : MethodName := ⟨RX1, "append", "(LRevisionStores$Tree;I)V"⟩
abbrev cX1_receive : ByteArray := prog_3_method_3_code
def yX1_receive : MethodName := ⟨RX1, "receive", "(LRevisionStores$Tree;LRevisionStores$Holding;I)I"⟩
abbrev cX1_noteChange : ByteArray := prog_3_method_4_code
def yX1_noteChange : MethodName := ⟨RX1, "noteChange", "(LRevisionStores$Tree;I)V"⟩
abbrev cX1_clear : ByteArray := prog_3_method_5_code
def yX1_clear : MethodName := ⟨RX1, "clear", "(LRevisionStores$Tree;)V"⟩
abbrev cX1_nextChanged : ByteArray := prog_3_method_6_code
def yX1_nextChanged : MethodName := ⟨RX1, "nextChanged", "(I)I"⟩
abbrev cX1_countChanged : ByteArray := prog_3_method_7_code
def yX1_countChanged : MethodName := ⟨RX1, "countChanged", "(I)I"⟩
def RX2 : String := "RevisionStores$Tree"
def TX2 : u_T := fun k => match k with
  | 0 => ("RevisionStores$Tree", "documents", "[I", true)
  | 1 => ("RevisionStores$Tree", "parents", "[I", true)
  | 2 => ("RevisionStores$Tree", "values", "[I", true)
  | 3 => ("RevisionStores$Tree", "deletions", "[Z", true)
  | 4 => ("RevisionStores$Tree", "generations", "[I", true)
  | 5 => ("RevisionStores$Tree", "sums", "[I", true)
  | _ => ("RevisionStores$Tree", "made", "I", false)
def tyX2 : Nat → FieldType := fun k => match k with
  | 0 => .array .int
  | 1 => .array .int
  | 2 => .array .int
  | 3 => .array .boolean
  | 4 => .array .int
  | 5 => .array .int
  | _ => .int
abbrev wsX20 : List Cond := u_ws RX2 TX2 7
theorem nmX2 : ∀ a, a < 7 → ∀ b, b < 7 → a ≠ b → (TX2 a).2.1 ≠ (TX2 b).2.1 := by decide +kernel
theorem tyX2_ok : ∀ k, k < 7 → parseFieldDescriptor (TX2 k).2.2.1 = some (tyX2 k) := by decide +kernel
abbrev cX2_init : ByteArray := prog_4_method_1_code
def yX2_init : MethodName := ⟨RX2, "<init>", "()V"⟩
abbrev cX2_find : ByteArray := prog_4_method_2_code
def yX2_find : MethodName := ⟨RX2, "find", "(IIIZ)I"⟩
abbrev cX2_make : ByteArray := prog_4_method_3_code
def yX2_make : MethodName := ⟨RX2, "make", "(IIIZ)I"⟩
abbrev cX2_isBetter : ByteArray := prog_4_method_4_code
def yX2_isBetter : MethodName := ⟨RX2, "isBetter", "(II)Z"⟩
def RX3 : String := "RevisionStores"
def TX3 : u_T := fun k => match k with
  | 0 => ("RevisionStores", "tree", "LRevisionStores$Tree;", true)
  | 1 => ("RevisionStores", "stores", "[LRevisionStores$Store;", true)
  | _ => ("RevisionStores", "union", "LRevisionStores$Holding;", true)
def tyX3 : Nat → FieldType := fun k => match k with
  | 0 => .object "RevisionStores$Tree"
  | 1 => .array (.object "RevisionStores$Store")
  | _ => .object "RevisionStores$Holding"
abbrev wsX30 : List Cond := u_ws RX3 TX3 3
theorem nmX3 : ∀ a, a < 3 → ∀ b, b < 3 → a ≠ b → (TX3 a).2.1 ≠ (TX3 b).2.1 := by decide +kernel
theorem tyX3_ok : ∀ k, k < 3 → parseFieldDescriptor (TX3 k).2.2.1 = some (tyX3 k) := by decide +kernel
abbrev cX3_init : ByteArray := prog_1_method_1_code
def yX3_init : MethodName := ⟨RX3, "<init>", "()V"⟩
abbrev cX3_edit : ByteArray := prog_1_method_2_code
def yX3_edit : MethodName := ⟨RX3, "edit", "(IIII)I"⟩
abbrev cX3_delete : ByteArray := prog_1_method_3_code
def yX3_delete : MethodName := ⟨RX3, "delete", "(III)I"⟩
abbrev cX3_setDepth : ByteArray := prog_1_method_4_code
def yX3_setDepth : MethodName := ⟨RX3, "setDepth", "(II)I"⟩
abbrev cX3_wipe : ByteArray := prog_1_method_5_code
def yX3_wipe : MethodName := ⟨RX3, "wipe", "(I)I"⟩
abbrev cX3_replicate : ByteArray := prog_1_method_6_code
def yX3_replicate : MethodName := ⟨RX3, "replicate", "(III)I"⟩
abbrev cX3_pending : ByteArray := prog_1_method_7_code
def yX3_pending : MethodName := ⟨RX3, "pending", "(II)I"⟩
abbrev cX3_checkpoint : ByteArray := prog_1_method_8_code
def yX3_checkpoint : MethodName := ⟨RX3, "checkpoint", "(II)I"⟩
abbrev cX3_revisions : ByteArray := prog_1_method_9_code
def yX3_revisions : MethodName := ⟨RX3, "revisions", "()I"⟩
abbrev cX3_documentOf : ByteArray := prog_1_method_10_code
def yX3_documentOf : MethodName := ⟨RX3, "documentOf", "(I)I"⟩
abbrev cX3_parentOf : ByteArray := prog_1_method_11_code
def yX3_parentOf : MethodName := ⟨RX3, "parentOf", "(I)I"⟩
abbrev cX3_generation : ByteArray := prog_1_method_12_code
def yX3_generation : MethodName := ⟨RX3, "generation", "(I)I"⟩
abbrev cX3_sum : ByteArray := prog_1_method_13_code
def yX3_sum : MethodName := ⟨RX3, "sum", "(I)I"⟩
abbrev cX3_valueOf : ByteArray := prog_1_method_14_code
def yX3_valueOf : MethodName := ⟨RX3, "valueOf", "(I)I"⟩
abbrev cX3_sequence : ByteArray := prog_1_method_15_code
def yX3_sequence : MethodName := ⟨RX3, "sequence", "(I)I"⟩
abbrev cX3_has : ByteArray := prog_1_method_16_code
def yX3_has : MethodName := ⟨RX3, "has", "(II)Z"⟩
abbrev cX3_isLeaf : ByteArray := prog_1_method_17_code
def yX3_isLeaf : MethodName := ⟨RX3, "isLeaf", "(II)Z"⟩
abbrev cX3_size : ByteArray := prog_1_method_18_code
def yX3_size : MethodName := ⟨RX3, "size", "(I)I"⟩
abbrev cX3_winner : ByteArray := prog_1_method_19_code
def yX3_winner : MethodName := ⟨RX3, "winner", "(II)I"⟩
abbrev cX3_winnerOfAll : ByteArray := prog_1_method_20_code
def yX3_winnerOfAll : MethodName := ⟨RX3, "winnerOfAll", "(I)I"⟩
abbrev cX3_conflicts : ByteArray := prog_1_method_21_code
def yX3_conflicts : MethodName := ⟨RX3, "conflicts", "(II)I"⟩
abbrev cX3_count : ByteArray := prog_1_method_22_code
def yX3_count : MethodName := ⟨RX3, "count", "(III)I"⟩
abbrev cX3_viewAt : ByteArray := prog_1_method_23_code
def yX3_viewAt : MethodName := ⟨RX3, "viewAt", "(II)I"⟩
abbrev cX3_storeAt : ByteArray := prog_1_method_24_code
def yX3_storeAt : MethodName := ⟨RX3, "storeAt", "(I)LRevisionStores$Store;"⟩
abbrev cX3_checkDocument : ByteArray := prog_1_method_25_code
def yX3_checkDocument : MethodName := ⟨RX3, "checkDocument", "(I)V"⟩
abbrev cX3_checkRevision : ByteArray := prog_1_method_26_code
def yX3_checkRevision : MethodName := ⟨RX3, "checkRevision", "(I)V"⟩
abbrev cX3_checkDifferent : ByteArray := prog_1_method_27_code
def yX3_checkDifferent : MethodName := ⟨RX3, "checkDifferent", "(II)V"⟩
abbrev cX3_checkNotBegun : ByteArray := prog_1_method_28_code
def yX3_checkNotBegun : MethodName := ⟨RX3, "checkNotBegun", "(LRevisionStores$Store;I)V"⟩
abbrev cX3_checkLeaf : ByteArray := prog_1_method_29_code
def yX3_checkLeaf : MethodName := ⟨RX3, "checkLeaf", "(LRevisionStores$Store;II)V"⟩
abbrev cX3_checkRoom : ByteArray := prog_1_method_30_code
def yX3_checkRoom : MethodName := ⟨RX3, "checkRoom", "()V"⟩
abbrev cX3_grow : ByteArray := prog_1_method_31_code
def yX3_grow : MethodName := ⟨RX3, "grow", "(LRevisionStores$Store;IIIZ)I"⟩
abbrev cX3_commonCheckpoint : ByteArray := prog_1_method_32_code
def yX3_commonCheckpoint : MethodName := ⟨RX3, "commonCheckpoint", "(II)I"⟩
abbrev cX3_pairOf : ByteArray := prog_1_method_33_code
def yX3_pairOf : MethodName := ⟨RX3, "pairOf", "(II)I"⟩
def RX4 : String := "RevisionStoresModel"
def TX4 : u_T := fun k => match k with
  | 0 => ("RevisionStoresModel", "documents", "[I", true)
  | 1 => ("RevisionStoresModel", "parents", "[I", true)
  | 2 => ("RevisionStoresModel", "values", "[I", true)
  | 3 => ("RevisionStoresModel", "deletions", "[Z", true)
  | 4 => ("RevisionStoresModel", "generations", "[I", true)
  | 5 => ("RevisionStoresModel", "sums", "[I", true)
  | 6 => ("RevisionStoresModel", "revisions", "I", false)
  | 7 => ("RevisionStoresModel", "marks", "[Z", true)
  | 8 => ("RevisionStoresModel", "depths", "[I", true)
  | 9 => ("RevisionStoresModel", "sequences", "[I", true)
  | 10 => ("RevisionStoresModel", "touched", "[I", true)
  | 11 => ("RevisionStoresModel", "kept", "[I", true)
  | _ => ("RevisionStoresModel", "last", "I", false)
def tyX4 : Nat → FieldType := fun k => match k with
  | 0 => .array .int
  | 1 => .array .int
  | 2 => .array .int
  | 3 => .array .boolean
  | 4 => .array .int
  | 5 => .array .int
  | 6 => .int
  | 7 => .array .boolean
  | 8 => .array .int
  | 9 => .array .int
  | 10 => .array .int
  | 11 => .array .int
  | _ => .int
abbrev wsX40 : List Cond := u_ws RX4 TX4 13
theorem nmX4 : ∀ a, a < 13 → ∀ b, b < 13 → a ≠ b → (TX4 a).2.1 ≠ (TX4 b).2.1 := by decide +kernel
theorem tyX4_ok : ∀ k, k < 13 → parseFieldDescriptor (TX4 k).2.2.1 = some (tyX4 k) := by decide +kernel
abbrev cX4_init : ByteArray := prog_6_method_1_code
def yX4_init : MethodName := ⟨RX4, "<init>", "()V"⟩
abbrev cX4_thrown : ByteArray := prog_6_method_2_code
def yX4_thrown : MethodName := ⟨RX4, "thrown", "()I"⟩
abbrev cX4_in : ByteArray := prog_6_method_3_code
def yX4_in : MethodName := ⟨RX4, "in", "(III)Z"⟩
abbrev cX4_goes : ByteArray := prog_6_method_4_code
def yX4_goes : MethodName := ⟨RX4, "goes", "(ZZZ)Z"⟩
abbrev cX4_isStore : ByteArray := prog_6_method_5_code
def yX4_isStore : MethodName := ⟨RX4, "isStore", "(I)Z"⟩
abbrev cX4_isDocument : ByteArray := prog_6_method_6_code
def yX4_isDocument : MethodName := ⟨RX4, "isDocument", "(I)Z"⟩
abbrev cX4_isRevision : ByteArray := prog_6_method_7_code
def yX4_isRevision : MethodName := ⟨RX4, "isRevision", "(I)Z"⟩
abbrev cX4_isAncestor : ByteArray := prog_6_method_8_code
def yX4_isAncestor : MethodName := ⟨RX4, "isAncestor", "(II)Z"⟩
abbrev cX4_hasDescendant : ByteArray := prog_6_method_9_code
def yX4_hasDescendant : MethodName := ⟨RX4, "hasDescendant", "(II)Z"⟩
abbrev cX4_leaf : ByteArray := prog_6_method_10_code
def yX4_leaf : MethodName := ⟨RX4, "leaf", "(II)Z"⟩
abbrev cX4_isBetter : ByteArray := prog_6_method_11_code
def yX4_isBetter : MethodName := ⟨RX4, "isBetter", "(II)Z"⟩
abbrev cX4_best : ByteArray := prog_6_method_12_code
def yX4_best : MethodName := ⟨RX4, "best", "(II)I"⟩
abbrev cX4_isDeep : ByteArray := prog_6_method_13_code
def yX4_isDeep : MethodName := ⟨RX4, "isDeep", "(II)Z"⟩
abbrev cX4_stems : ByteArray := prog_6_method_14_code
def yX4_stems : MethodName := ⟨RX4, "stems", "(I)I"⟩
abbrev cX4_touches : ByteArray := prog_6_method_15_code
def yX4_touches : MethodName := ⟨RX4, "touches", "(II)V"⟩
abbrev cX4_makes : ByteArray := prog_6_method_16_code
def yX4_makes : MethodName := ⟨RX4, "makes", "(IIIZ)I"⟩
abbrev cX4_adds : ByteArray := prog_6_method_17_code
def yX4_adds : MethodName := ⟨RX4, "adds", "(IIIIZ)I"⟩
abbrev cX4_canEdit : ByteArray := prog_6_method_18_code
def yX4_canEdit : MethodName := ⟨RX4, "canEdit", "(III)Z"⟩
abbrev cX4_edit : ByteArray := prog_6_method_19_code
def yX4_edit : MethodName := ⟨RX4, "edit", "(IIII)I"⟩
abbrev cX4_delete : ByteArray := prog_6_method_20_code
def yX4_delete : MethodName := ⟨RX4, "delete", "(III)I"⟩
abbrev cX4_setDepth : ByteArray := prog_6_method_21_code
def yX4_setDepth : MethodName := ⟨RX4, "setDepth", "(II)I"⟩
abbrev cX4_wipe : ByteArray := prog_6_method_22_code
def yX4_wipe : MethodName := ⟨RX4, "wipe", "(I)I"⟩
abbrev cX4_begins : ByteArray := prog_6_method_23_code
def yX4_begins : MethodName := ⟨RX4, "begins", "(II)I"⟩
abbrev cX4_nextOf : ByteArray := prog_6_method_24_code
def yX4_nextOf : MethodName := ⟨RX4, "nextOf", "(II)I"⟩
abbrev cX4_gets : ByteArray := prog_6_method_25_code
def yX4_gets : MethodName := ⟨RX4, "gets", "(III)I"⟩
abbrev cX4_replicate : ByteArray := prog_6_method_26_code
def yX4_replicate : MethodName := ⟨RX4, "replicate", "(III)I"⟩
abbrev cX4_pending : ByteArray := prog_6_method_27_code
def yX4_pending : MethodName := ⟨RX4, "pending", "(II)I"⟩
abbrev cX4_checkpoint : ByteArray := prog_6_method_28_code
def yX4_checkpoint : MethodName := ⟨RX4, "checkpoint", "(II)I"⟩
abbrev cX4_revisions : ByteArray := prog_6_method_29_code
def yX4_revisions : MethodName := ⟨RX4, "revisions", "()I"⟩
abbrev cX4_documentOf : ByteArray := prog_6_method_30_code
def yX4_documentOf : MethodName := ⟨RX4, "documentOf", "(I)I"⟩
abbrev cX4_parentOf : ByteArray := prog_6_method_31_code
def yX4_parentOf : MethodName := ⟨RX4, "parentOf", "(I)I"⟩
abbrev cX4_generation : ByteArray := prog_6_method_32_code
def yX4_generation : MethodName := ⟨RX4, "generation", "(I)I"⟩
abbrev cX4_sum : ByteArray := prog_6_method_33_code
def yX4_sum : MethodName := ⟨RX4, "sum", "(I)I"⟩
abbrev cX4_valueOf : ByteArray := prog_6_method_34_code
def yX4_valueOf : MethodName := ⟨RX4, "valueOf", "(I)I"⟩
abbrev cX4_sequence : ByteArray := prog_6_method_35_code
def yX4_sequence : MethodName := ⟨RX4, "sequence", "(I)I"⟩
abbrev cX4_has : ByteArray := prog_6_method_36_code
def yX4_has : MethodName := ⟨RX4, "has", "(II)Z"⟩
abbrev cX4_isLeaf : ByteArray := prog_6_method_37_code
def yX4_isLeaf : MethodName := ⟨RX4, "isLeaf", "(II)Z"⟩
abbrev cX4_size : ByteArray := prog_6_method_38_code
def yX4_size : MethodName := ⟨RX4, "size", "(I)I"⟩
abbrev cX4_winner : ByteArray := prog_6_method_39_code
def yX4_winner : MethodName := ⟨RX4, "winner", "(II)I"⟩
abbrev cX4_isAnywhere : ByteArray := prog_6_method_40_code
def yX4_isAnywhere : MethodName := ⟨RX4, "isAnywhere", "(I)Z"⟩
abbrev cX4_winnerOfAll : ByteArray := prog_6_method_41_code
def yX4_winnerOfAll : MethodName := ⟨RX4, "winnerOfAll", "(I)I"⟩
abbrev cX4_conflicts : ByteArray := prog_6_method_42_code
def yX4_conflicts : MethodName := ⟨RX4, "conflicts", "(II)I"⟩
abbrev cX4_shown : ByteArray := prog_6_method_43_code
def yX4_shown : MethodName := ⟨RX4, "shown", "(II)I"⟩
abbrev cX4_count : ByteArray := prog_6_method_44_code
def yX4_count : MethodName := ⟨RX4, "count", "(III)I"⟩
abbrev cX4_placed : ByteArray := prog_6_method_45_code
def yX4_placed : MethodName := ⟨RX4, "placed", "(II)I"⟩
abbrev cX4_viewAt : ByteArray := prog_6_method_46_code
def yX4_viewAt : MethodName := ⟨RX4, "viewAt", "(II)I"⟩
def RJx145de : String := "java/io/Serializable"
def TJx145de : u_T := fun k => match k with
  | _ => ("", "", "", false)
def tyJx145de : Nat → FieldType := fun k => match k with
  | _ => .int
abbrev wsJx145de0 : List Cond := u_ws RJx145de TJx145de 0
theorem nmJx145de : ∀ a, a < 0 → ∀ b, b < 0 → a ≠ b → (TJx145de a).2.1 ≠ (TJx145de b).2.1 := by decide +kernel
theorem tyJx145de_ok : ∀ k, k < 0 → parseFieldDescriptor (TJx145de k).2.2.1 = some (tyJx145de k) := by decide +kernel
def RJ9 : String := "java/lang/Math"
def TJ9 : u_T := fun k => match k with
  | _ => ("", "", "", false)
def tyJ9 : Nat → FieldType := fun k => match k with
  | _ => .int
abbrev wsJ90 : List Cond := u_ws RJ9 TJ9 0
theorem nmJ9 : ∀ a, a < 0 → ∀ b, b < 0 → a ≠ b → (TJ9 a).2.1 ≠ (TJ9 b).2.1 := by decide +kernel
theorem tyJ9_ok : ∀ k, k < 0 → parseFieldDescriptor (TJ9 k).2.2.1 = some (tyJ9 k) := by decide +kernel
abbrev cJ9_max_7cf53 : ByteArray := prog_11_method_65_code
def yJ9_max_7cf53 : MethodName := ⟨RJ9, "max", "(II)I"⟩
abbrev cJ9_min_7cf53 : ByteArray := prog_11_method_69_code
def yJ9_min_7cf53 : MethodName := ⟨RJ9, "min", "(II)I"⟩
def RJ0 : String := "java/lang/String"
def TJ0 : u_T := fun k => match k with
  | _ => ("", "", "", false)
def tyJ0 : Nat → FieldType := fun k => match k with
  | _ => .int
abbrev wsJ00 : List Cond := u_ws RJ0 TJ0 0
theorem nmJ0 : ∀ a, a < 0 → ∀ b, b < 0 → a ≠ b → (TJ0 a).2.1 ≠ (TJ0 b).2.1 := by decide +kernel
theorem tyJ0_ok : ∀ k, k < 0 → parseFieldDescriptor (TJ0 k).2.2.1 = some (tyJ0 k) := by decide +kernel
def RJ7 : String := "java/util/Arrays"
def TJ7 : u_T := fun k => match k with
  | _ => ("", "", "", false)
def tyJ7 : Nat → FieldType := fun k => match k with
  | _ => .int
abbrev wsJ70 : List Cond := u_ws RJ7 TJ7 0
theorem nmJ7 : ∀ a, a < 0 → ∀ b, b < 0 → a ≠ b → (TJ7 a).2.1 ≠ (TJ7 b).2.1 := by decide +kernel
theorem tyJ7_ok : ∀ k, k < 0 → parseFieldDescriptor (TJ7 k).2.2.1 = some (tyJ7 k) := by decide +kernel
abbrev cJ7_fill_53178 : ByteArray := prog_15_method_103_code
def yJ7_fill_53178 : MethodName := ⟨RJ7, "fill", "([II)V"⟩
def RL : String := "RevisionStoresLaw"
abbrev cL_edit : ByteArray := method_3_code
def yL_edit : MethodName := ⟨RL, "edit", "(LRevisionStores;IIII[J)I"⟩
abbrev cL_delete : ByteArray := method_4_code
def yL_delete : MethodName := ⟨RL, "delete", "(LRevisionStores;III[J)I"⟩
abbrev cL_setDepth : ByteArray := method_5_code
def yL_setDepth : MethodName := ⟨RL, "setDepth", "(LRevisionStores;II[J)I"⟩
abbrev cL_wipe : ByteArray := method_6_code
def yL_wipe : MethodName := ⟨RL, "wipe", "(LRevisionStores;I[J)I"⟩
abbrev cL_replicate : ByteArray := method_7_code
def yL_replicate : MethodName := ⟨RL, "replicate", "(LRevisionStores;III[J)I"⟩
abbrev cL_pending : ByteArray := method_8_code
def yL_pending : MethodName := ⟨RL, "pending", "(LRevisionStores;II[J)I"⟩
abbrev cL_checkpoint : ByteArray := method_9_code
def yL_checkpoint : MethodName := ⟨RL, "checkpoint", "(LRevisionStores;II[J)I"⟩
abbrev cL_documentOf : ByteArray := method_10_code
def yL_documentOf : MethodName := ⟨RL, "documentOf", "(LRevisionStores;I[J)I"⟩
abbrev cL_parentOf : ByteArray := method_11_code
def yL_parentOf : MethodName := ⟨RL, "parentOf", "(LRevisionStores;I[J)I"⟩
abbrev cL_generation : ByteArray := method_12_code
def yL_generation : MethodName := ⟨RL, "generation", "(LRevisionStores;I[J)I"⟩
abbrev cL_sum : ByteArray := method_13_code
def yL_sum : MethodName := ⟨RL, "sum", "(LRevisionStores;I[J)I"⟩
abbrev cL_valueOf : ByteArray := method_14_code
def yL_valueOf : MethodName := ⟨RL, "valueOf", "(LRevisionStores;I[J)I"⟩
abbrev cL_sequence : ByteArray := method_15_code
def yL_sequence : MethodName := ⟨RL, "sequence", "(LRevisionStores;I[J)I"⟩
abbrev cL_has : ByteArray := method_16_code
def yL_has : MethodName := ⟨RL, "has", "(LRevisionStores;II[J)I"⟩
abbrev cL_isLeaf : ByteArray := method_17_code
def yL_isLeaf : MethodName := ⟨RL, "isLeaf", "(LRevisionStores;II[J)I"⟩
abbrev cL_size : ByteArray := method_18_code
def yL_size : MethodName := ⟨RL, "size", "(LRevisionStores;I[J)I"⟩
abbrev cL_winner : ByteArray := method_19_code
def yL_winner : MethodName := ⟨RL, "winner", "(LRevisionStores;II[J)I"⟩
abbrev cL_winnerOfAll : ByteArray := method_20_code
def yL_winnerOfAll : MethodName := ⟨RL, "winnerOfAll", "(LRevisionStores;I[J)I"⟩
abbrev cL_conflicts : ByteArray := method_21_code
def yL_conflicts : MethodName := ⟨RL, "conflicts", "(LRevisionStores;II[J)I"⟩
abbrev cL_count : ByteArray := method_22_code
def yL_count : MethodName := ⟨RL, "count", "(LRevisionStores;III[J)I"⟩
abbrev cL_viewAt : ByteArray := method_23_code
def yL_viewAt : MethodName := ⟨RL, "viewAt", "(LRevisionStores;II[J)I"⟩
abbrev cL_law : ByteArray := code
def yL_law : MethodName := ⟨RL, "law", "([I)Z"⟩
def wsJ7_fill_53178 : List Cond := .code yJ7_fill_53178 cJ7_fill_53178 4 none :: ([])
def wsX0_init : List Cond := .code yX0_init cX0_init 1 none :: ([.methodLink RX0 3 objectInit, .instanceMethod objectInit, .code objectInit ⟨#[0xb1]⟩ 1 none, .arrayClass .boolean, .fieldLink RX0 9 "RevisionStores$Holding" "held" "[Z", .arrayClass .int, .fieldLink RX0 15 "RevisionStores$Holding" "nearestLeaf" "[I", .fieldLink RX0 19 "RevisionStores$Holding" "winners" "[I", .methodLink RX0 22 yJ7_fill_53178, .static yJ7_fill_53178, .initialized RJ7, .code yJ7_fill_53178 cJ7_fill_53178 4 none] ++ wsX00)
def wsX0_hasDescendantOf : List Cond := .code yX0_hasDescendantOf cX0_hasDescendantOf 2 (some .boolean) :: ([.fieldLink RX0 15 "RevisionStores$Holding" "nearestLeaf" "[I"] ++ wsX00)
def wsX0_endsAt : List Cond := .code yX0_endsAt cX0_endsAt 2 (some .boolean) :: ([.fieldLink RX0 9 "RevisionStores$Holding" "held" "[Z", .methodLink RX0 64 yX0_hasDescendantOf, .instanceMethod yX0_hasDescendantOf, .selects RX0 yX0_hasDescendantOf yX0_hasDescendantOf, .initialized RX0, .code yX0_hasDescendantOf cX0_hasDescendantOf 2 (some .boolean), .fieldLink RX0 15 "RevisionStores$Holding" "nearestLeaf" "[I"] ++ wsX00)
def wsX0_findLeaves : List Cond := .code yX0_findLeaves cX0_findLeaves 5 none :: ([.fieldLink RX0 15 "RevisionStores$Holding" "nearestLeaf" "[I", .methodLink RX0 51 Lib.Math.min.name, .static Lib.Math.min.name, .initialized "java/lang/Math", .code Lib.Math.min.name Lib.Math.min.code 2 (some .int), .methodLink RX0 22 yJ7_fill_53178, .static yJ7_fill_53178, .initialized RJ7, .code yJ7_fill_53178 cJ7_fill_53178 4 none, .methodLink RX0 44 yX0_endsAt, .instanceMethod yX0_endsAt, .selects RX0 yX0_endsAt yX0_endsAt, .initialized RX0, .code yX0_endsAt cX0_endsAt 2 (some .boolean), .fieldLink RX0 9 "RevisionStores$Holding" "held" "[Z", .methodLink RX0 64 yX0_hasDescendantOf, .instanceMethod yX0_hasDescendantOf, .selects RX0 yX0_hasDescendantOf yX0_hasDescendantOf, .code yX0_hasDescendantOf cX0_hasDescendantOf 2 (some .boolean)] ++ wsX00 ++ wsX20)
def wsX2_isBetter : List Cond := .code yX2_isBetter cX2_isBetter 3 (some .boolean) :: ([.fieldLink RX2 21 "RevisionStores$Tree" "deletions" "[Z", .fieldLink RX2 25 "RevisionStores$Tree" "generations" "[I", .fieldLink RX2 28 "RevisionStores$Tree" "sums" "[I"] ++ wsX20)
def wsX0_findWinners : List Cond := .code yX0_findWinners cX0_findWinners 5 none :: ([.fieldLink RX0 19 "RevisionStores$Holding" "winners" "[I", .methodLink RX0 22 yJ7_fill_53178, .static yJ7_fill_53178, .initialized RJ7, .code yJ7_fill_53178 cJ7_fill_53178 4 none, .methodLink RX0 44 yX0_endsAt, .instanceMethod yX0_endsAt, .selects RX0 yX0_endsAt yX0_endsAt, .initialized RX0, .code yX0_endsAt cX0_endsAt 2 (some .boolean), .fieldLink RX0 9 "RevisionStores$Holding" "held" "[Z", .methodLink RX0 64 yX0_hasDescendantOf, .instanceMethod yX0_hasDescendantOf, .selects RX0 yX0_hasDescendantOf yX0_hasDescendantOf, .code yX0_hasDescendantOf cX0_hasDescendantOf 2 (some .boolean), .fieldLink RX0 15 "RevisionStores$Holding" "nearestLeaf" "[I", .methodLink RX0 60 yX2_isBetter, .instanceMethod yX2_isBetter, .selects RX2 yX2_isBetter yX2_isBetter, .initialized RX2, .code yX2_isBetter cX2_isBetter 3 (some .boolean), .fieldLink RX2 21 "RevisionStores$Tree" "deletions" "[Z", .fieldLink RX2 25 "RevisionStores$Tree" "generations" "[I", .fieldLink RX2 28 "RevisionStores$Tree" "sums" "[I"] ++ wsX00 ++ wsX20)
def wsX0_survey_r1 : List Cond := [Cond.methodLink RX0 28 yX0_findLeaves, Cond.instanceMethod yX0_findLeaves, Cond.selects RX0 yX0_findLeaves yX0_findLeaves, Cond.initialized RX0, Cond.code yX0_findLeaves cX0_findLeaves 5 none, Cond.fieldLink RX0 15 "RevisionStores$Holding" "nearestLeaf" "[I", Cond.methodLink RX0 51 Lib.Math.min.name, Cond.static Lib.Math.min.name, Cond.initialized "java/lang/Math", Cond.code Lib.Math.min.name Lib.Math.min.code 2 (some .int), Cond.methodLink RX0 22 yJ7_fill_53178, Cond.static yJ7_fill_53178, Cond.initialized RJ7, Cond.code yJ7_fill_53178 cJ7_fill_53178 4 none, Cond.methodLink RX0 44 yX0_endsAt, Cond.instanceMethod yX0_endsAt, Cond.selects RX0 yX0_endsAt yX0_endsAt, Cond.code yX0_endsAt cX0_endsAt 2 (some .boolean), Cond.fieldLink RX0 9 "RevisionStores$Holding" "held" "[Z", Cond.methodLink RX0 64 yX0_hasDescendantOf, Cond.instanceMethod yX0_hasDescendantOf, Cond.selects RX0 yX0_hasDescendantOf yX0_hasDescendantOf, Cond.code yX0_hasDescendantOf cX0_hasDescendantOf 2 (some .boolean), Cond.methodLink RX0 32 yX0_findWinners]
def wsX0_survey_r2 : List Cond := [Cond.instanceMethod yX0_findWinners, Cond.selects RX0 yX0_findWinners yX0_findWinners, Cond.code yX0_findWinners cX0_findWinners 5 none, Cond.fieldLink RX0 19 "RevisionStores$Holding" "winners" "[I", Cond.methodLink RX0 60 yX2_isBetter, Cond.instanceMethod yX2_isBetter, Cond.selects RX2 yX2_isBetter yX2_isBetter, Cond.initialized RX2, Cond.code yX2_isBetter cX2_isBetter 3 (some .boolean), Cond.fieldLink RX2 21 "RevisionStores$Tree" "deletions" "[Z", Cond.fieldLink RX2 25 "RevisionStores$Tree" "generations" "[I", Cond.fieldLink RX2 28 "RevisionStores$Tree" "sums" "[I"]
def wsX0_survey : List Cond := .code yX0_survey cX0_survey 2 none :: ((wsX0_survey_r1 ++ wsX0_survey_r2) ++ wsX00 ++ wsX20)
def wsX0_stem : List Cond := .code yX0_stem cX0_stem 5 (some .int) :: ([.fieldLink RX0 9 "RevisionStores$Holding" "held" "[Z", .fieldLink RX0 15 "RevisionStores$Holding" "nearestLeaf" "[I", .methodLink RX0 64 yX0_hasDescendantOf, .instanceMethod yX0_hasDescendantOf, .selects RX0 yX0_hasDescendantOf yX0_hasDescendantOf, .initialized RX0, .code yX0_hasDescendantOf cX0_hasDescendantOf 2 (some .boolean)] ++ wsX20 ++ wsX00)
def wsX0_removeAll : List Cond := .code yX0_removeAll cX0_removeAll 2 none :: ([.fieldLink RX0 9 "RevisionStores$Holding" "held" "[Z"] ++ wsX00)
def wsX0_addAll : List Cond := .code yX0_addAll cX0_addAll 4 none :: ([.fieldLink RX0 9 "RevisionStores$Holding" "held" "[Z"] ++ wsX20 ++ wsX00)
def wsX0_addLine : List Cond := .code yX0_addLine cX0_addLine 7 (some .int) :: ([.fieldLink RX0 9 "RevisionStores$Holding" "held" "[Z"] ++ wsX00 ++ wsX20)
def wsX0_addBranches : List Cond := .code yX0_addBranches cX0_addBranches 6 (some .int) :: ([.fieldLink RX0 9 "RevisionStores$Holding" "held" "[Z", .methodLink RX0 44 yX0_endsAt, .instanceMethod yX0_endsAt, .selects RX0 yX0_endsAt yX0_endsAt, .initialized RX0, .code yX0_endsAt cX0_endsAt 2 (some .boolean), .methodLink RX0 64 yX0_hasDescendantOf, .instanceMethod yX0_hasDescendantOf, .selects RX0 yX0_hasDescendantOf yX0_hasDescendantOf, .code yX0_hasDescendantOf cX0_hasDescendantOf 2 (some .boolean), .fieldLink RX0 15 "RevisionStores$Holding" "nearestLeaf" "[I", .methodLink RX0 67 yX0_addLine, .instanceMethod yX0_addLine, .selects RX0 yX0_addLine yX0_addLine, .code yX0_addLine cX0_addLine 7 (some .int)] ++ wsX20 ++ wsX00)
def wsX0_countAll : List Cond := .code yX0_countAll cX0_countAll 4 (some .int) :: ([.fieldLink RX0 9 "RevisionStores$Holding" "held" "[Z"] ++ wsX20 ++ wsX00)
def wsX0_countLiveLeaves : List Cond := .code yX0_countLiveLeaves cX0_countLiveLeaves 5 (some .int) :: ([.methodLink RX0 44 yX0_endsAt, .instanceMethod yX0_endsAt, .selects RX0 yX0_endsAt yX0_endsAt, .initialized RX0, .code yX0_endsAt cX0_endsAt 2 (some .boolean), .fieldLink RX0 9 "RevisionStores$Holding" "held" "[Z", .methodLink RX0 64 yX0_hasDescendantOf, .instanceMethod yX0_hasDescendantOf, .selects RX0 yX0_hasDescendantOf yX0_hasDescendantOf, .code yX0_hasDescendantOf cX0_hasDescendantOf 2 (some .boolean), .fieldLink RX0 15 "RevisionStores$Holding" "nearestLeaf" "[I"] ++ wsX20 ++ wsX00)
def wsX0_shownValue : List Cond := .code yX0_shownValue cX0_shownValue 4 (some .int) :: ([.fieldLink RX0 19 "RevisionStores$Holding" "winners" "[I"] ++ wsX00 ++ wsX20)
def wsX0_countShownBefore : List Cond := .code yX0_countShownBefore cX0_countShownBefore 7 (some .int) :: ([.methodLink RX0 77 yX0_shownValue, .instanceMethod yX0_shownValue, .selects RX0 yX0_shownValue yX0_shownValue, .initialized RX0, .code yX0_shownValue cX0_shownValue 4 (some .int), .fieldLink RX0 19 "RevisionStores$Holding" "winners" "[I"] ++ wsX00 ++ wsX20)
def wsX1_init : List Cond := .code yX1_init cX1_init 1 none :: ([.methodLink RX1 3 objectInit, .instanceMethod objectInit, .code objectInit ⟨#[0xb1]⟩ 1 none, .classLink RX1 9 RX0, .instantiable RX0 3, .initialized RX0, .fieldLink RX1 12 "RevisionStores$Store" "holding" "LRevisionStores$Holding;", .fieldLink RX1 18 "RevisionStores$Store" "depth" "I", .fieldLink RX1 22 "RevisionStores$Store" "latest" "I", .arrayClass .int, .fieldLink RX1 25 "RevisionStores$Store" "changes" "[I", .fieldLink RX1 29 "RevisionStores$Store" "checkpoints" "[I", .methodLink RX1 11 yX0_init, .instanceMethod yX0_init, .code yX0_init cX0_init 1 none, .methodLink RX0 3 objectInit, .arrayClass .boolean, .fieldLink RX0 9 "RevisionStores$Holding" "held" "[Z", .fieldLink RX0 15 "RevisionStores$Holding" "nearestLeaf" "[I", .fieldLink RX0 19 "RevisionStores$Holding" "winners" "[I", .methodLink RX0 22 yJ7_fill_53178, .static yJ7_fill_53178, .initialized RJ7, .code yJ7_fill_53178 cJ7_fill_53178 4 none] ++ wsX00 ++ wsX10)
def wsX1_noteChange_r1 : List Cond := [Cond.fieldLink RX1 22 "RevisionStores$Store" "latest" "I", Cond.fieldLink RX1 25 "RevisionStores$Store" "changes" "[I", Cond.fieldLink RX1 12 "RevisionStores$Store" "holding" "LRevisionStores$Holding;", Cond.fieldLink RX1 18 "RevisionStores$Store" "depth" "I", Cond.methodLink RX1 49 yX0_survey, Cond.instanceMethod yX0_survey, Cond.selects RX0 yX0_survey yX0_survey, Cond.initialized RX0, Cond.code yX0_survey cX0_survey 2 none, Cond.methodLink RX0 28 yX0_findLeaves, Cond.instanceMethod yX0_findLeaves, Cond.selects RX0 yX0_findLeaves yX0_findLeaves, Cond.code yX0_findLeaves cX0_findLeaves 5 none, Cond.fieldLink RX0 15 "RevisionStores$Holding" "nearestLeaf" "[I", Cond.methodLink RX0 51 Lib.Math.min.name, Cond.static Lib.Math.min.name, Cond.initialized "java/lang/Math", Cond.code Lib.Math.min.name Lib.Math.min.code 2 (some .int), Cond.methodLink RX0 22 yJ7_fill_53178, Cond.static yJ7_fill_53178, Cond.initialized RJ7, Cond.code yJ7_fill_53178 cJ7_fill_53178 4 none, Cond.methodLink RX0 44 yX0_endsAt, Cond.instanceMethod yX0_endsAt]
def wsX1_noteChange_r2 : List Cond := [Cond.selects RX0 yX0_endsAt yX0_endsAt, Cond.code yX0_endsAt cX0_endsAt 2 (some .boolean), Cond.fieldLink RX0 9 "RevisionStores$Holding" "held" "[Z", Cond.methodLink RX0 64 yX0_hasDescendantOf, Cond.instanceMethod yX0_hasDescendantOf, Cond.selects RX0 yX0_hasDescendantOf yX0_hasDescendantOf, Cond.code yX0_hasDescendantOf cX0_hasDescendantOf 2 (some .boolean), Cond.methodLink RX0 32 yX0_findWinners, Cond.instanceMethod yX0_findWinners, Cond.selects RX0 yX0_findWinners yX0_findWinners, Cond.code yX0_findWinners cX0_findWinners 5 none, Cond.fieldLink RX0 19 "RevisionStores$Holding" "winners" "[I", Cond.methodLink RX0 60 yX2_isBetter, Cond.instanceMethod yX2_isBetter, Cond.selects RX2 yX2_isBetter yX2_isBetter, Cond.initialized RX2, Cond.code yX2_isBetter cX2_isBetter 3 (some .boolean), Cond.fieldLink RX2 21 "RevisionStores$Tree" "deletions" "[Z", Cond.fieldLink RX2 25 "RevisionStores$Tree" "generations" "[I", Cond.fieldLink RX2 28 "RevisionStores$Tree" "sums" "[I", Cond.methodLink RX1 53 yX0_stem, Cond.instanceMethod yX0_stem, Cond.selects RX0 yX0_stem yX0_stem, Cond.code yX0_stem cX0_stem 5 (some .int)]
def wsX1_noteChange : List Cond := .code yX1_noteChange cX1_noteChange 3 none :: ((wsX1_noteChange_r1 ++ wsX1_noteChange_r2) ++ wsX10 ++ wsX00 ++ wsX20)
def wsX1_append_r1 : List Cond := [Cond.fieldLink RX1 12 "RevisionStores$Store" "holding" "LRevisionStores$Holding;", Cond.methodLink RX1 41 yX1_noteChange, Cond.instanceMethod yX1_noteChange, Cond.selects RX1 yX1_noteChange yX1_noteChange, Cond.initialized RX1, Cond.code yX1_noteChange cX1_noteChange 3 none, Cond.fieldLink RX1 22 "RevisionStores$Store" "latest" "I", Cond.fieldLink RX1 25 "RevisionStores$Store" "changes" "[I", Cond.fieldLink RX1 18 "RevisionStores$Store" "depth" "I", Cond.methodLink RX1 49 yX0_survey, Cond.instanceMethod yX0_survey, Cond.selects RX0 yX0_survey yX0_survey, Cond.initialized RX0, Cond.code yX0_survey cX0_survey 2 none, Cond.methodLink RX0 28 yX0_findLeaves, Cond.instanceMethod yX0_findLeaves, Cond.selects RX0 yX0_findLeaves yX0_findLeaves, Cond.code yX0_findLeaves cX0_findLeaves 5 none, Cond.fieldLink RX0 15 "RevisionStores$Holding" "nearestLeaf" "[I", Cond.methodLink RX0 51 Lib.Math.min.name, Cond.static Lib.Math.min.name, Cond.initialized "java/lang/Math", Cond.code Lib.Math.min.name Lib.Math.min.code 2 (some .int), Cond.methodLink RX0 22 yJ7_fill_53178]
def wsX1_append_r2 : List Cond := [Cond.static yJ7_fill_53178, Cond.initialized RJ7, Cond.code yJ7_fill_53178 cJ7_fill_53178 4 none, Cond.methodLink RX0 44 yX0_endsAt, Cond.instanceMethod yX0_endsAt, Cond.selects RX0 yX0_endsAt yX0_endsAt, Cond.code yX0_endsAt cX0_endsAt 2 (some .boolean), Cond.fieldLink RX0 9 "RevisionStores$Holding" "held" "[Z", Cond.methodLink RX0 64 yX0_hasDescendantOf, Cond.instanceMethod yX0_hasDescendantOf, Cond.selects RX0 yX0_hasDescendantOf yX0_hasDescendantOf, Cond.code yX0_hasDescendantOf cX0_hasDescendantOf 2 (some .boolean), Cond.methodLink RX0 32 yX0_findWinners, Cond.instanceMethod yX0_findWinners, Cond.selects RX0 yX0_findWinners yX0_findWinners, Cond.code yX0_findWinners cX0_findWinners 5 none, Cond.fieldLink RX0 19 "RevisionStores$Holding" "winners" "[I", Cond.methodLink RX0 60 yX2_isBetter, Cond.instanceMethod yX2_isBetter, Cond.selects RX2 yX2_isBetter yX2_isBetter, Cond.initialized RX2, Cond.code yX2_isBetter cX2_isBetter 3 (some .boolean), Cond.fieldLink RX2 21 "RevisionStores$Tree" "deletions" "[Z", Cond.fieldLink RX2 25 "RevisionStores$Tree" "generations" "[I"]
def wsX1_append_r3 : List Cond := [Cond.fieldLink RX2 28 "RevisionStores$Tree" "sums" "[I", Cond.methodLink RX1 53 yX0_stem, Cond.instanceMethod yX0_stem, Cond.selects RX0 yX0_stem yX0_stem, Cond.code yX0_stem cX0_stem 5 (some .int)]
def wsX1_append : List Cond := .code yX1_append cX1_append 3 none :: ((wsX1_append_r1 ++ (wsX1_append_r2 ++ wsX1_append_r3)) ++ wsX10 ++ wsX00 ++ wsX20)
def wsX1_receive_r1 : List Cond := [Cond.fieldLink RX1 12 "RevisionStores$Store" "holding" "LRevisionStores$Holding;", Cond.methodLink RX1 45 yX0_addBranches, Cond.instanceMethod yX0_addBranches, Cond.selects RX0 yX0_addBranches yX0_addBranches, Cond.initialized RX0, Cond.code yX0_addBranches cX0_addBranches 6 (some .int), Cond.fieldLink RX0 9 "RevisionStores$Holding" "held" "[Z", Cond.methodLink RX0 44 yX0_endsAt, Cond.instanceMethod yX0_endsAt, Cond.selects RX0 yX0_endsAt yX0_endsAt, Cond.code yX0_endsAt cX0_endsAt 2 (some .boolean), Cond.methodLink RX0 64 yX0_hasDescendantOf, Cond.instanceMethod yX0_hasDescendantOf, Cond.selects RX0 yX0_hasDescendantOf yX0_hasDescendantOf, Cond.code yX0_hasDescendantOf cX0_hasDescendantOf 2 (some .boolean), Cond.fieldLink RX0 15 "RevisionStores$Holding" "nearestLeaf" "[I", Cond.methodLink RX0 67 yX0_addLine, Cond.instanceMethod yX0_addLine, Cond.selects RX0 yX0_addLine yX0_addLine, Cond.code yX0_addLine cX0_addLine 7 (some .int), Cond.methodLink RX1 41 yX1_noteChange, Cond.instanceMethod yX1_noteChange, Cond.selects RX1 yX1_noteChange yX1_noteChange, Cond.initialized RX1]
def wsX1_receive_r2 : List Cond := [Cond.code yX1_noteChange cX1_noteChange 3 none, Cond.fieldLink RX1 22 "RevisionStores$Store" "latest" "I", Cond.fieldLink RX1 25 "RevisionStores$Store" "changes" "[I", Cond.fieldLink RX1 18 "RevisionStores$Store" "depth" "I", Cond.methodLink RX1 49 yX0_survey, Cond.instanceMethod yX0_survey, Cond.selects RX0 yX0_survey yX0_survey, Cond.code yX0_survey cX0_survey 2 none, Cond.methodLink RX0 28 yX0_findLeaves, Cond.instanceMethod yX0_findLeaves, Cond.selects RX0 yX0_findLeaves yX0_findLeaves, Cond.code yX0_findLeaves cX0_findLeaves 5 none, Cond.methodLink RX0 51 Lib.Math.min.name, Cond.static Lib.Math.min.name, Cond.initialized "java/lang/Math", Cond.code Lib.Math.min.name Lib.Math.min.code 2 (some .int), Cond.methodLink RX0 22 yJ7_fill_53178, Cond.static yJ7_fill_53178, Cond.initialized RJ7, Cond.code yJ7_fill_53178 cJ7_fill_53178 4 none, Cond.methodLink RX0 32 yX0_findWinners, Cond.instanceMethod yX0_findWinners, Cond.selects RX0 yX0_findWinners yX0_findWinners, Cond.code yX0_findWinners cX0_findWinners 5 none]
def wsX1_receive_r3 : List Cond := [Cond.fieldLink RX0 19 "RevisionStores$Holding" "winners" "[I", Cond.methodLink RX0 60 yX2_isBetter, Cond.instanceMethod yX2_isBetter, Cond.selects RX2 yX2_isBetter yX2_isBetter, Cond.initialized RX2, Cond.code yX2_isBetter cX2_isBetter 3 (some .boolean), Cond.fieldLink RX2 21 "RevisionStores$Tree" "deletions" "[Z", Cond.fieldLink RX2 25 "RevisionStores$Tree" "generations" "[I", Cond.fieldLink RX2 28 "RevisionStores$Tree" "sums" "[I", Cond.methodLink RX1 53 yX0_stem, Cond.instanceMethod yX0_stem, Cond.selects RX0 yX0_stem yX0_stem, Cond.code yX0_stem cX0_stem 5 (some .int)]
def wsX1_receive : List Cond := .code yX1_receive cX1_receive 5 (some .int) :: ((wsX1_receive_r1 ++ (wsX1_receive_r2 ++ wsX1_receive_r3)) ++ wsX10 ++ wsX20 ++ wsX00)
def wsX1_clear_r1 : List Cond := [Cond.fieldLink RX1 12 "RevisionStores$Store" "holding" "LRevisionStores$Holding;", Cond.fieldLink RX1 22 "RevisionStores$Store" "latest" "I", Cond.fieldLink RX1 25 "RevisionStores$Store" "changes" "[I", Cond.fieldLink RX1 29 "RevisionStores$Store" "checkpoints" "[I", Cond.methodLink RX1 57 yX0_removeAll, Cond.instanceMethod yX0_removeAll, Cond.selects RX0 yX0_removeAll yX0_removeAll, Cond.initialized RX0, Cond.code yX0_removeAll cX0_removeAll 2 none, Cond.fieldLink RX0 9 "RevisionStores$Holding" "held" "[Z", Cond.methodLink RX1 49 yX0_survey, Cond.instanceMethod yX0_survey, Cond.selects RX0 yX0_survey yX0_survey, Cond.code yX0_survey cX0_survey 2 none, Cond.methodLink RX0 28 yX0_findLeaves, Cond.instanceMethod yX0_findLeaves, Cond.selects RX0 yX0_findLeaves yX0_findLeaves, Cond.code yX0_findLeaves cX0_findLeaves 5 none, Cond.fieldLink RX0 15 "RevisionStores$Holding" "nearestLeaf" "[I", Cond.methodLink RX0 51 Lib.Math.min.name, Cond.static Lib.Math.min.name, Cond.initialized "java/lang/Math", Cond.code Lib.Math.min.name Lib.Math.min.code 2 (some .int), Cond.methodLink RX0 22 yJ7_fill_53178]
def wsX1_clear_r2 : List Cond := [Cond.static yJ7_fill_53178, Cond.initialized RJ7, Cond.code yJ7_fill_53178 cJ7_fill_53178 4 none, Cond.methodLink RX0 44 yX0_endsAt, Cond.instanceMethod yX0_endsAt, Cond.selects RX0 yX0_endsAt yX0_endsAt, Cond.code yX0_endsAt cX0_endsAt 2 (some .boolean), Cond.methodLink RX0 64 yX0_hasDescendantOf, Cond.instanceMethod yX0_hasDescendantOf, Cond.selects RX0 yX0_hasDescendantOf yX0_hasDescendantOf, Cond.code yX0_hasDescendantOf cX0_hasDescendantOf 2 (some .boolean), Cond.methodLink RX0 32 yX0_findWinners, Cond.instanceMethod yX0_findWinners, Cond.selects RX0 yX0_findWinners yX0_findWinners, Cond.code yX0_findWinners cX0_findWinners 5 none, Cond.fieldLink RX0 19 "RevisionStores$Holding" "winners" "[I", Cond.methodLink RX0 60 yX2_isBetter, Cond.instanceMethod yX2_isBetter, Cond.selects RX2 yX2_isBetter yX2_isBetter, Cond.initialized RX2, Cond.code yX2_isBetter cX2_isBetter 3 (some .boolean), Cond.fieldLink RX2 21 "RevisionStores$Tree" "deletions" "[Z", Cond.fieldLink RX2 25 "RevisionStores$Tree" "generations" "[I", Cond.fieldLink RX2 28 "RevisionStores$Tree" "sums" "[I"]
def wsX1_clear_r3 : List Cond := [Cond.methodLink RX1 60 yJ7_fill_53178]
def wsX1_clear : List Cond := .code yX1_clear cX1_clear 2 none :: ((wsX1_clear_r1 ++ (wsX1_clear_r2 ++ wsX1_clear_r3)) ++ wsX10 ++ wsX00 ++ wsX20)
def wsX1_nextChanged : List Cond := .code yX1_nextChanged cX1_nextChanged 4 (some .int) :: ([.fieldLink RX1 25 "RevisionStores$Store" "changes" "[I"] ++ wsX10)
def wsX1_countChanged : List Cond := .code yX1_countChanged cX1_countChanged 4 (some .int) :: ([.fieldLink RX1 25 "RevisionStores$Store" "changes" "[I"] ++ wsX10)
def wsX2_init : List Cond := .code yX2_init cX2_init 1 none :: ([.methodLink RX2 3 objectInit, .instanceMethod objectInit, .code objectInit ⟨#[0xb1]⟩ 1 none, .arrayClass .int, .fieldLink RX2 9 "RevisionStores$Tree" "documents" "[I", .fieldLink RX2 15 "RevisionStores$Tree" "parents" "[I", .fieldLink RX2 18 "RevisionStores$Tree" "values" "[I", .arrayClass .boolean, .fieldLink RX2 21 "RevisionStores$Tree" "deletions" "[Z", .fieldLink RX2 25 "RevisionStores$Tree" "generations" "[I", .fieldLink RX2 28 "RevisionStores$Tree" "sums" "[I", .fieldLink RX2 31 "RevisionStores$Tree" "made" "I"] ++ wsX20)
def wsX2_find : List Cond := .code yX2_find cX2_find 6 (some .int) :: ([.fieldLink RX2 31 "RevisionStores$Tree" "made" "I", .fieldLink RX2 9 "RevisionStores$Tree" "documents" "[I", .fieldLink RX2 15 "RevisionStores$Tree" "parents" "[I", .fieldLink RX2 18 "RevisionStores$Tree" "values" "[I", .fieldLink RX2 21 "RevisionStores$Tree" "deletions" "[Z"] ++ wsX20)
def wsX2_make : List Cond := .code yX2_make cX2_make 8 (some .int) :: ([.fieldLink RX2 31 "RevisionStores$Tree" "made" "I", .fieldLink RX2 25 "RevisionStores$Tree" "generations" "[I", .fieldLink RX2 28 "RevisionStores$Tree" "sums" "[I", .fieldLink RX2 9 "RevisionStores$Tree" "documents" "[I", .fieldLink RX2 15 "RevisionStores$Tree" "parents" "[I", .fieldLink RX2 18 "RevisionStores$Tree" "values" "[I", .fieldLink RX2 21 "RevisionStores$Tree" "deletions" "[Z"] ++ wsX20)
def wsX3_init_r1 : List Cond := [Cond.methodLink RX3 1 objectInit, Cond.instanceMethod objectInit, Cond.code objectInit ⟨#[0xb1]⟩ 1 none, Cond.classLink RX3 7 RX2, Cond.instantiable RX2 7, Cond.initialized RX2, Cond.fieldLink RX3 10 "RevisionStores" "tree" "LRevisionStores$Tree;", Cond.classLink RX3 16 RX1, Cond.fieldLink RX3 18 "RevisionStores" "stores" "[LRevisionStores$Store;", Cond.classLink RX3 22 RX0, Cond.instantiable RX0 3, Cond.initialized RX0, Cond.fieldLink RX3 25 "RevisionStores" "union" "LRevisionStores$Holding;", Cond.instantiable RX1 5, Cond.initialized RX1, Cond.instanceMethod yX2_init, Cond.code yX2_init cX2_init 1 none, Cond.methodLink RX2 3 objectInit, Cond.arrayClass .int, Cond.fieldLink RX2 9 "RevisionStores$Tree" "documents" "[I", Cond.fieldLink RX2 15 "RevisionStores$Tree" "parents" "[I", Cond.fieldLink RX2 18 "RevisionStores$Tree" "values" "[I", Cond.arrayClass .boolean, Cond.fieldLink RX2 21 "RevisionStores$Tree" "deletions" "[Z"]
def wsX3_init_r2 : List Cond := [Cond.fieldLink RX2 25 "RevisionStores$Tree" "generations" "[I", Cond.fieldLink RX2 28 "RevisionStores$Tree" "sums" "[I", Cond.fieldLink RX2 31 "RevisionStores$Tree" "made" "I", Cond.methodLink RX3 24 yX0_init, Cond.instanceMethod yX0_init, Cond.code yX0_init cX0_init 1 none, Cond.methodLink RX0 3 objectInit, Cond.fieldLink RX0 9 "RevisionStores$Holding" "held" "[Z", Cond.fieldLink RX0 15 "RevisionStores$Holding" "nearestLeaf" "[I", Cond.fieldLink RX0 19 "RevisionStores$Holding" "winners" "[I", Cond.methodLink RX0 22 yJ7_fill_53178, Cond.static yJ7_fill_53178, Cond.initialized RJ7, Cond.code yJ7_fill_53178 cJ7_fill_53178 4 none, Cond.instanceMethod yX1_init, Cond.code yX1_init cX1_init 1 none, Cond.methodLink RX1 3 objectInit, Cond.classLink RX1 9 RX0, Cond.fieldLink RX1 12 "RevisionStores$Store" "holding" "LRevisionStores$Holding;", Cond.fieldLink RX1 18 "RevisionStores$Store" "depth" "I", Cond.fieldLink RX1 22 "RevisionStores$Store" "latest" "I", Cond.fieldLink RX1 25 "RevisionStores$Store" "changes" "[I", Cond.fieldLink RX1 29 "RevisionStores$Store" "checkpoints" "[I", Cond.methodLink RX1 11 yX0_init]
def wsX3_init : List Cond := .code yX3_init cX3_init 2 none :: ((wsX3_init_r1 ++ wsX3_init_r2) ++ wsX20 ++ wsX30 ++ wsX00 ++ wsX10)
def wsX3_storeAt : List Cond := .code yX3_storeAt cX3_storeAt 2 (some (.object "RevisionStores$Store")) :: ([.classLink RX3 180 "java/lang/IndexOutOfBoundsException", .initialized "java/lang/IndexOutOfBoundsException", .fieldLink RX3 18 "RevisionStores" "stores" "[LRevisionStores$Store;"] ++ wsX30 ++ (vx_atS RX3 184 "java/lang/IndexOutOfBoundsException" ["java/lang/RuntimeException", "java/lang/Exception"]).filter goodWord)
def wsX3_checkDocument : List Cond := .code yX3_checkDocument cX3_checkDocument 2 none :: ([.classLink RX3 180 "java/lang/IndexOutOfBoundsException", .initialized "java/lang/IndexOutOfBoundsException"] ++ (vx_atS RX3 184 "java/lang/IndexOutOfBoundsException" ["java/lang/RuntimeException", "java/lang/Exception"]).filter goodWord)
def wsX3_checkRevision : List Cond := .code yX3_checkRevision cX3_checkRevision 2 none :: ([.classLink RX3 180 "java/lang/IndexOutOfBoundsException", .initialized "java/lang/IndexOutOfBoundsException", .fieldLink RX3 10 "RevisionStores" "tree" "LRevisionStores$Tree;"] ++ wsX30 ++ wsX20 ++ (vx_atS RX3 184 "java/lang/IndexOutOfBoundsException" ["java/lang/RuntimeException", "java/lang/Exception"]).filter goodWord)
def wsX3_checkNotBegun : List Cond := .code yX3_checkNotBegun cX3_checkNotBegun 3 none :: ([.classLink RX3 67 "java/lang/IllegalStateException", .initialized "java/lang/IllegalStateException"] ++ wsX10 ++ wsX00 ++ (vx_atS RX3 71 "java/lang/IllegalStateException" ["java/lang/RuntimeException", "java/lang/Exception"]).filter goodWord)
def wsX3_checkLeaf : List Cond := .code yX3_checkLeaf cX3_checkLeaf 4 none :: ([.classLink RX3 67 "java/lang/IllegalStateException", .initialized "java/lang/IllegalStateException", .fieldLink RX3 10 "RevisionStores" "tree" "LRevisionStores$Tree;", .methodLink RX3 148 yX0_endsAt, .instanceMethod yX0_endsAt, .selects RX0 yX0_endsAt yX0_endsAt, .initialized RX0, .code yX0_endsAt cX0_endsAt 2 (some .boolean), .fieldLink RX0 9 "RevisionStores$Holding" "held" "[Z", .methodLink RX0 64 yX0_hasDescendantOf, .instanceMethod yX0_hasDescendantOf, .selects RX0 yX0_hasDescendantOf yX0_hasDescendantOf, .code yX0_hasDescendantOf cX0_hasDescendantOf 2 (some .boolean), .fieldLink RX0 15 "RevisionStores$Holding" "nearestLeaf" "[I"] ++ wsX30 ++ wsX20 ++ wsX10 ++ wsX00 ++ (vx_atS RX3 71 "java/lang/IllegalStateException" ["java/lang/RuntimeException", "java/lang/Exception"]).filter goodWord)
def wsX3_checkRoom : List Cond := .code yX3_checkRoom cX3_checkRoom 1 none :: ([.classLink RX3 67 "java/lang/IllegalStateException", .initialized "java/lang/IllegalStateException", .fieldLink RX3 10 "RevisionStores" "tree" "LRevisionStores$Tree;"] ++ wsX30 ++ wsX20 ++ (vx_atS RX3 71 "java/lang/IllegalStateException" ["java/lang/RuntimeException", "java/lang/Exception"]).filter goodWord)
def wsX3_grow_r1 : List Cond := [Cond.fieldLink RX3 10 "RevisionStores" "tree" "LRevisionStores$Tree;", Cond.methodLink RX3 199 yX2_find, Cond.instanceMethod yX2_find, Cond.selects RX2 yX2_find yX2_find, Cond.initialized RX2, Cond.code yX2_find cX2_find 6 (some .int), Cond.fieldLink RX2 31 "RevisionStores$Tree" "made" "I", Cond.fieldLink RX2 9 "RevisionStores$Tree" "documents" "[I", Cond.fieldLink RX2 15 "RevisionStores$Tree" "parents" "[I", Cond.fieldLink RX2 18 "RevisionStores$Tree" "values" "[I", Cond.fieldLink RX2 21 "RevisionStores$Tree" "deletions" "[Z", Cond.methodLink RX3 203 yX2_make, Cond.instanceMethod yX2_make, Cond.selects RX2 yX2_make yX2_make, Cond.code yX2_make cX2_make 8 (some .int), Cond.fieldLink RX2 25 "RevisionStores$Tree" "generations" "[I", Cond.fieldLink RX2 28 "RevisionStores$Tree" "sums" "[I", Cond.methodLink RX3 206 yX1_append, Cond.instanceMethod yX1_append, Cond.selects RX1 yX1_append yX1_append, Cond.initialized RX1, Cond.code yX1_append cX1_append 3 none, Cond.fieldLink RX1 12 "RevisionStores$Store" "holding" "LRevisionStores$Holding;", Cond.methodLink RX1 41 yX1_noteChange]
def wsX3_grow_r2 : List Cond := [Cond.instanceMethod yX1_noteChange, Cond.selects RX1 yX1_noteChange yX1_noteChange, Cond.code yX1_noteChange cX1_noteChange 3 none, Cond.fieldLink RX1 22 "RevisionStores$Store" "latest" "I", Cond.fieldLink RX1 25 "RevisionStores$Store" "changes" "[I", Cond.fieldLink RX1 18 "RevisionStores$Store" "depth" "I", Cond.methodLink RX1 49 yX0_survey, Cond.instanceMethod yX0_survey, Cond.selects RX0 yX0_survey yX0_survey, Cond.initialized RX0, Cond.code yX0_survey cX0_survey 2 none, Cond.methodLink RX0 28 yX0_findLeaves, Cond.instanceMethod yX0_findLeaves, Cond.selects RX0 yX0_findLeaves yX0_findLeaves, Cond.code yX0_findLeaves cX0_findLeaves 5 none, Cond.fieldLink RX0 15 "RevisionStores$Holding" "nearestLeaf" "[I", Cond.methodLink RX0 51 Lib.Math.min.name, Cond.static Lib.Math.min.name, Cond.initialized "java/lang/Math", Cond.code Lib.Math.min.name Lib.Math.min.code 2 (some .int), Cond.methodLink RX0 22 yJ7_fill_53178, Cond.static yJ7_fill_53178, Cond.initialized RJ7, Cond.code yJ7_fill_53178 cJ7_fill_53178 4 none]
def wsX3_grow_r3 : List Cond := [Cond.methodLink RX0 44 yX0_endsAt, Cond.instanceMethod yX0_endsAt, Cond.selects RX0 yX0_endsAt yX0_endsAt, Cond.code yX0_endsAt cX0_endsAt 2 (some .boolean), Cond.fieldLink RX0 9 "RevisionStores$Holding" "held" "[Z", Cond.methodLink RX0 64 yX0_hasDescendantOf, Cond.instanceMethod yX0_hasDescendantOf, Cond.selects RX0 yX0_hasDescendantOf yX0_hasDescendantOf, Cond.code yX0_hasDescendantOf cX0_hasDescendantOf 2 (some .boolean), Cond.methodLink RX0 32 yX0_findWinners, Cond.instanceMethod yX0_findWinners, Cond.selects RX0 yX0_findWinners yX0_findWinners, Cond.code yX0_findWinners cX0_findWinners 5 none, Cond.fieldLink RX0 19 "RevisionStores$Holding" "winners" "[I", Cond.methodLink RX0 60 yX2_isBetter, Cond.instanceMethod yX2_isBetter, Cond.selects RX2 yX2_isBetter yX2_isBetter, Cond.code yX2_isBetter cX2_isBetter 3 (some .boolean), Cond.methodLink RX1 53 yX0_stem, Cond.instanceMethod yX0_stem, Cond.selects RX0 yX0_stem yX0_stem, Cond.code yX0_stem cX0_stem 5 (some .int)]
def wsX3_grow : List Cond := .code yX3_grow cX3_grow 7 (some .int) :: ((wsX3_grow_r1 ++ (wsX3_grow_r2 ++ wsX3_grow_r3)) ++ wsX30 ++ wsX20 ++ wsX10 ++ wsX00)
def wsX3_edit_r1 : List Cond := [Cond.classLink RX3 41 "java/lang/IllegalArgumentException", Cond.initialized "java/lang/IllegalArgumentException", Cond.methodLink RX3 30 yX3_storeAt, Cond.instanceMethod yX3_storeAt, Cond.selects RX3 yX3_storeAt yX3_storeAt, Cond.initialized RX3, Cond.code yX3_storeAt cX3_storeAt 2 (some (.object "RevisionStores$Store")), Cond.classLink RX3 180 "java/lang/IndexOutOfBoundsException", Cond.initialized "java/lang/IndexOutOfBoundsException", Cond.fieldLink RX3 18 "RevisionStores" "stores" "[LRevisionStores$Store;", Cond.methodLink RX3 34 yX3_checkDocument, Cond.instanceMethod yX3_checkDocument, Cond.selects RX3 yX3_checkDocument yX3_checkDocument, Cond.code yX3_checkDocument cX3_checkDocument 2 none, Cond.methodLink RX3 38 yX3_checkRevision, Cond.instanceMethod yX3_checkRevision, Cond.selects RX3 yX3_checkRevision yX3_checkRevision, Cond.code yX3_checkRevision cX3_checkRevision 2 none, Cond.fieldLink RX3 10 "RevisionStores" "tree" "LRevisionStores$Tree;", Cond.methodLink RX3 48 yX3_checkNotBegun, Cond.instanceMethod yX3_checkNotBegun, Cond.selects RX3 yX3_checkNotBegun yX3_checkNotBegun, Cond.code yX3_checkNotBegun cX3_checkNotBegun 3 none, Cond.classLink RX3 67 "java/lang/IllegalStateException"]
def wsX3_edit_r2 : List Cond := [Cond.initialized "java/lang/IllegalStateException", Cond.methodLink RX3 52 yX3_checkLeaf, Cond.instanceMethod yX3_checkLeaf, Cond.selects RX3 yX3_checkLeaf yX3_checkLeaf, Cond.code yX3_checkLeaf cX3_checkLeaf 4 none, Cond.methodLink RX3 148 yX0_endsAt, Cond.instanceMethod yX0_endsAt, Cond.selects RX0 yX0_endsAt yX0_endsAt, Cond.initialized RX0, Cond.code yX0_endsAt cX0_endsAt 2 (some .boolean), Cond.fieldLink RX0 9 "RevisionStores$Holding" "held" "[Z", Cond.methodLink RX0 64 yX0_hasDescendantOf, Cond.instanceMethod yX0_hasDescendantOf, Cond.selects RX0 yX0_hasDescendantOf yX0_hasDescendantOf, Cond.code yX0_hasDescendantOf cX0_hasDescendantOf 2 (some .boolean), Cond.fieldLink RX0 15 "RevisionStores$Holding" "nearestLeaf" "[I", Cond.methodLink RX3 56 yX3_checkRoom, Cond.instanceMethod yX3_checkRoom, Cond.selects RX3 yX3_checkRoom yX3_checkRoom, Cond.code yX3_checkRoom cX3_checkRoom 1 none, Cond.methodLink RX3 59 yX3_grow, Cond.instanceMethod yX3_grow, Cond.selects RX3 yX3_grow yX3_grow, Cond.code yX3_grow cX3_grow 7 (some .int)]
def wsX3_edit_r3 : List Cond := [Cond.methodLink RX3 199 yX2_find, Cond.instanceMethod yX2_find, Cond.selects RX2 yX2_find yX2_find, Cond.initialized RX2, Cond.code yX2_find cX2_find 6 (some .int), Cond.fieldLink RX2 31 "RevisionStores$Tree" "made" "I", Cond.fieldLink RX2 9 "RevisionStores$Tree" "documents" "[I", Cond.fieldLink RX2 15 "RevisionStores$Tree" "parents" "[I", Cond.fieldLink RX2 18 "RevisionStores$Tree" "values" "[I", Cond.fieldLink RX2 21 "RevisionStores$Tree" "deletions" "[Z", Cond.methodLink RX3 203 yX2_make, Cond.instanceMethod yX2_make, Cond.selects RX2 yX2_make yX2_make, Cond.code yX2_make cX2_make 8 (some .int), Cond.fieldLink RX2 25 "RevisionStores$Tree" "generations" "[I", Cond.fieldLink RX2 28 "RevisionStores$Tree" "sums" "[I", Cond.methodLink RX3 206 yX1_append, Cond.instanceMethod yX1_append, Cond.selects RX1 yX1_append yX1_append, Cond.initialized RX1, Cond.code yX1_append cX1_append 3 none, Cond.fieldLink RX1 12 "RevisionStores$Store" "holding" "LRevisionStores$Holding;", Cond.methodLink RX1 41 yX1_noteChange, Cond.instanceMethod yX1_noteChange]
def wsX3_edit_r4 : List Cond := [Cond.selects RX1 yX1_noteChange yX1_noteChange, Cond.code yX1_noteChange cX1_noteChange 3 none, Cond.fieldLink RX1 22 "RevisionStores$Store" "latest" "I", Cond.fieldLink RX1 25 "RevisionStores$Store" "changes" "[I", Cond.fieldLink RX1 18 "RevisionStores$Store" "depth" "I", Cond.methodLink RX1 49 yX0_survey, Cond.instanceMethod yX0_survey, Cond.selects RX0 yX0_survey yX0_survey, Cond.code yX0_survey cX0_survey 2 none, Cond.methodLink RX0 28 yX0_findLeaves, Cond.instanceMethod yX0_findLeaves, Cond.selects RX0 yX0_findLeaves yX0_findLeaves, Cond.code yX0_findLeaves cX0_findLeaves 5 none, Cond.methodLink RX0 51 Lib.Math.min.name, Cond.static Lib.Math.min.name, Cond.initialized "java/lang/Math", Cond.code Lib.Math.min.name Lib.Math.min.code 2 (some .int), Cond.methodLink RX0 22 yJ7_fill_53178, Cond.static yJ7_fill_53178, Cond.initialized RJ7, Cond.code yJ7_fill_53178 cJ7_fill_53178 4 none, Cond.methodLink RX0 44 yX0_endsAt, Cond.methodLink RX0 32 yX0_findWinners, Cond.instanceMethod yX0_findWinners]
def wsX3_edit_r5 : List Cond := [Cond.selects RX0 yX0_findWinners yX0_findWinners, Cond.code yX0_findWinners cX0_findWinners 5 none, Cond.fieldLink RX0 19 "RevisionStores$Holding" "winners" "[I", Cond.methodLink RX0 60 yX2_isBetter, Cond.instanceMethod yX2_isBetter, Cond.selects RX2 yX2_isBetter yX2_isBetter, Cond.code yX2_isBetter cX2_isBetter 3 (some .boolean), Cond.methodLink RX1 53 yX0_stem, Cond.instanceMethod yX0_stem, Cond.selects RX0 yX0_stem yX0_stem, Cond.code yX0_stem cX0_stem 5 (some .int)]
def wsX3_edit : List Cond := .code yX3_edit cX3_edit 6 (some .int) :: ((wsX3_edit_r1 ++ (wsX3_edit_r2 ++ (wsX3_edit_r3 ++ (wsX3_edit_r4 ++ wsX3_edit_r5)))) ++ wsX30 ++ wsX20 ++ wsX10 ++ wsX00 ++ (vx_atS RX3 45 "java/lang/IllegalArgumentException" ["java/lang/RuntimeException", "java/lang/Exception"]).filter goodWord ++ (vx_atS RX3 184 "java/lang/IndexOutOfBoundsException" ["java/lang/RuntimeException", "java/lang/Exception"]).filter goodWord ++ (vx_atS RX3 71 "java/lang/IllegalStateException" ["java/lang/RuntimeException", "java/lang/Exception"]).filter goodWord)
def wsX3_delete_r1 : List Cond := [Cond.classLink RX3 67 "java/lang/IllegalStateException", Cond.initialized "java/lang/IllegalStateException", Cond.fieldLink RX3 10 "RevisionStores" "tree" "LRevisionStores$Tree;", Cond.methodLink RX3 30 yX3_storeAt, Cond.instanceMethod yX3_storeAt, Cond.selects RX3 yX3_storeAt yX3_storeAt, Cond.initialized RX3, Cond.code yX3_storeAt cX3_storeAt 2 (some (.object "RevisionStores$Store")), Cond.classLink RX3 180 "java/lang/IndexOutOfBoundsException", Cond.initialized "java/lang/IndexOutOfBoundsException", Cond.fieldLink RX3 18 "RevisionStores" "stores" "[LRevisionStores$Store;", Cond.methodLink RX3 34 yX3_checkDocument, Cond.instanceMethod yX3_checkDocument, Cond.selects RX3 yX3_checkDocument yX3_checkDocument, Cond.code yX3_checkDocument cX3_checkDocument 2 none, Cond.methodLink RX3 38 yX3_checkRevision, Cond.instanceMethod yX3_checkRevision, Cond.selects RX3 yX3_checkRevision yX3_checkRevision, Cond.code yX3_checkRevision cX3_checkRevision 2 none, Cond.methodLink RX3 52 yX3_checkLeaf, Cond.instanceMethod yX3_checkLeaf, Cond.selects RX3 yX3_checkLeaf yX3_checkLeaf, Cond.code yX3_checkLeaf cX3_checkLeaf 4 none, Cond.methodLink RX3 148 yX0_endsAt]
def wsX3_delete_r2 : List Cond := [Cond.instanceMethod yX0_endsAt, Cond.selects RX0 yX0_endsAt yX0_endsAt, Cond.initialized RX0, Cond.code yX0_endsAt cX0_endsAt 2 (some .boolean), Cond.fieldLink RX0 9 "RevisionStores$Holding" "held" "[Z", Cond.methodLink RX0 64 yX0_hasDescendantOf, Cond.instanceMethod yX0_hasDescendantOf, Cond.selects RX0 yX0_hasDescendantOf yX0_hasDescendantOf, Cond.code yX0_hasDescendantOf cX0_hasDescendantOf 2 (some .boolean), Cond.fieldLink RX0 15 "RevisionStores$Holding" "nearestLeaf" "[I", Cond.methodLink RX3 56 yX3_checkRoom, Cond.instanceMethod yX3_checkRoom, Cond.selects RX3 yX3_checkRoom yX3_checkRoom, Cond.code yX3_checkRoom cX3_checkRoom 1 none, Cond.methodLink RX3 59 yX3_grow, Cond.instanceMethod yX3_grow, Cond.selects RX3 yX3_grow yX3_grow, Cond.code yX3_grow cX3_grow 7 (some .int), Cond.methodLink RX3 199 yX2_find, Cond.instanceMethod yX2_find, Cond.selects RX2 yX2_find yX2_find, Cond.initialized RX2, Cond.code yX2_find cX2_find 6 (some .int), Cond.fieldLink RX2 31 "RevisionStores$Tree" "made" "I"]
def wsX3_delete_r3 : List Cond := [Cond.fieldLink RX2 9 "RevisionStores$Tree" "documents" "[I", Cond.fieldLink RX2 15 "RevisionStores$Tree" "parents" "[I", Cond.fieldLink RX2 18 "RevisionStores$Tree" "values" "[I", Cond.fieldLink RX2 21 "RevisionStores$Tree" "deletions" "[Z", Cond.methodLink RX3 203 yX2_make, Cond.instanceMethod yX2_make, Cond.selects RX2 yX2_make yX2_make, Cond.code yX2_make cX2_make 8 (some .int), Cond.fieldLink RX2 25 "RevisionStores$Tree" "generations" "[I", Cond.fieldLink RX2 28 "RevisionStores$Tree" "sums" "[I", Cond.methodLink RX3 206 yX1_append, Cond.instanceMethod yX1_append, Cond.selects RX1 yX1_append yX1_append, Cond.initialized RX1, Cond.code yX1_append cX1_append 3 none, Cond.fieldLink RX1 12 "RevisionStores$Store" "holding" "LRevisionStores$Holding;", Cond.methodLink RX1 41 yX1_noteChange, Cond.instanceMethod yX1_noteChange, Cond.selects RX1 yX1_noteChange yX1_noteChange, Cond.code yX1_noteChange cX1_noteChange 3 none, Cond.fieldLink RX1 22 "RevisionStores$Store" "latest" "I", Cond.fieldLink RX1 25 "RevisionStores$Store" "changes" "[I", Cond.fieldLink RX1 18 "RevisionStores$Store" "depth" "I", Cond.methodLink RX1 49 yX0_survey]
def wsX3_delete_r4 : List Cond := [Cond.instanceMethod yX0_survey, Cond.selects RX0 yX0_survey yX0_survey, Cond.code yX0_survey cX0_survey 2 none, Cond.methodLink RX0 28 yX0_findLeaves, Cond.instanceMethod yX0_findLeaves, Cond.selects RX0 yX0_findLeaves yX0_findLeaves, Cond.code yX0_findLeaves cX0_findLeaves 5 none, Cond.methodLink RX0 51 Lib.Math.min.name, Cond.static Lib.Math.min.name, Cond.initialized "java/lang/Math", Cond.code Lib.Math.min.name Lib.Math.min.code 2 (some .int), Cond.methodLink RX0 22 yJ7_fill_53178, Cond.static yJ7_fill_53178, Cond.initialized RJ7, Cond.code yJ7_fill_53178 cJ7_fill_53178 4 none, Cond.methodLink RX0 44 yX0_endsAt, Cond.methodLink RX0 32 yX0_findWinners, Cond.instanceMethod yX0_findWinners, Cond.selects RX0 yX0_findWinners yX0_findWinners, Cond.code yX0_findWinners cX0_findWinners 5 none, Cond.fieldLink RX0 19 "RevisionStores$Holding" "winners" "[I", Cond.methodLink RX0 60 yX2_isBetter, Cond.instanceMethod yX2_isBetter, Cond.selects RX2 yX2_isBetter yX2_isBetter]
def wsX3_delete_r5 : List Cond := [Cond.code yX2_isBetter cX2_isBetter 3 (some .boolean), Cond.methodLink RX1 53 yX0_stem, Cond.instanceMethod yX0_stem, Cond.selects RX0 yX0_stem yX0_stem, Cond.code yX0_stem cX0_stem 5 (some .int)]
def wsX3_delete : List Cond := .code yX3_delete cX3_delete 5 (some .int) :: ((wsX3_delete_r1 ++ (wsX3_delete_r2 ++ (wsX3_delete_r3 ++ (wsX3_delete_r4 ++ wsX3_delete_r5)))) ++ wsX30 ++ wsX20 ++ wsX10 ++ wsX00 ++ (vx_atS RX3 71 "java/lang/IllegalStateException" ["java/lang/RuntimeException", "java/lang/Exception"]).filter goodWord ++ (vx_atS RX3 184 "java/lang/IndexOutOfBoundsException" ["java/lang/RuntimeException", "java/lang/Exception"]).filter goodWord)
def wsX3_setDepth : List Cond := .code yX3_setDepth cX3_setDepth 4 (some .int) :: ([.classLink RX3 41 "java/lang/IllegalArgumentException", .initialized "java/lang/IllegalArgumentException", .fieldLink RX3 10 "RevisionStores" "tree" "LRevisionStores$Tree;", .methodLink RX3 30 yX3_storeAt, .instanceMethod yX3_storeAt, .selects RX3 yX3_storeAt yX3_storeAt, .initialized RX3, .code yX3_storeAt cX3_storeAt 2 (some (.object "RevisionStores$Store")), .classLink RX3 180 "java/lang/IndexOutOfBoundsException", .initialized "java/lang/IndexOutOfBoundsException", .fieldLink RX3 18 "RevisionStores" "stores" "[LRevisionStores$Store;", .methodLink RX3 81 yX0_stem, .instanceMethod yX0_stem, .selects RX0 yX0_stem yX0_stem, .initialized RX0, .code yX0_stem cX0_stem 5 (some .int), .fieldLink RX0 9 "RevisionStores$Holding" "held" "[Z", .fieldLink RX0 15 "RevisionStores$Holding" "nearestLeaf" "[I", .methodLink RX0 64 yX0_hasDescendantOf, .instanceMethod yX0_hasDescendantOf, .selects RX0 yX0_hasDescendantOf yX0_hasDescendantOf, .code yX0_hasDescendantOf cX0_hasDescendantOf 2 (some .boolean)] ++ wsX10 ++ wsX30 ++ wsX20 ++ wsX00 ++ (vx_atS RX3 45 "java/lang/IllegalArgumentException" ["java/lang/RuntimeException", "java/lang/Exception"]).filter goodWord ++ (vx_atS RX3 184 "java/lang/IndexOutOfBoundsException" ["java/lang/RuntimeException", "java/lang/Exception"]).filter goodWord)
def wsX3_wipe_r1 : List Cond := [Cond.fieldLink RX3 10 "RevisionStores" "tree" "LRevisionStores$Tree;", Cond.methodLink RX3 30 yX3_storeAt, Cond.instanceMethod yX3_storeAt, Cond.selects RX3 yX3_storeAt yX3_storeAt, Cond.initialized RX3, Cond.code yX3_storeAt cX3_storeAt 2 (some (.object "RevisionStores$Store")), Cond.classLink RX3 180 "java/lang/IndexOutOfBoundsException", Cond.initialized "java/lang/IndexOutOfBoundsException", Cond.fieldLink RX3 18 "RevisionStores" "stores" "[LRevisionStores$Store;", Cond.methodLink RX3 85 yX0_countAll, Cond.instanceMethod yX0_countAll, Cond.selects RX0 yX0_countAll yX0_countAll, Cond.initialized RX0, Cond.code yX0_countAll cX0_countAll 4 (some .int), Cond.fieldLink RX0 9 "RevisionStores$Holding" "held" "[Z", Cond.methodLink RX3 89 yX1_clear, Cond.instanceMethod yX1_clear, Cond.selects RX1 yX1_clear yX1_clear, Cond.initialized RX1, Cond.code yX1_clear cX1_clear 2 none, Cond.fieldLink RX1 12 "RevisionStores$Store" "holding" "LRevisionStores$Holding;", Cond.fieldLink RX1 22 "RevisionStores$Store" "latest" "I", Cond.fieldLink RX1 25 "RevisionStores$Store" "changes" "[I", Cond.fieldLink RX1 29 "RevisionStores$Store" "checkpoints" "[I"]
def wsX3_wipe_r2 : List Cond := [Cond.methodLink RX1 57 yX0_removeAll, Cond.instanceMethod yX0_removeAll, Cond.selects RX0 yX0_removeAll yX0_removeAll, Cond.code yX0_removeAll cX0_removeAll 2 none, Cond.methodLink RX1 49 yX0_survey, Cond.instanceMethod yX0_survey, Cond.selects RX0 yX0_survey yX0_survey, Cond.code yX0_survey cX0_survey 2 none, Cond.methodLink RX0 28 yX0_findLeaves, Cond.instanceMethod yX0_findLeaves, Cond.selects RX0 yX0_findLeaves yX0_findLeaves, Cond.code yX0_findLeaves cX0_findLeaves 5 none, Cond.fieldLink RX0 15 "RevisionStores$Holding" "nearestLeaf" "[I", Cond.methodLink RX0 51 Lib.Math.min.name, Cond.static Lib.Math.min.name, Cond.initialized "java/lang/Math", Cond.code Lib.Math.min.name Lib.Math.min.code 2 (some .int), Cond.methodLink RX0 22 yJ7_fill_53178, Cond.static yJ7_fill_53178, Cond.initialized RJ7, Cond.code yJ7_fill_53178 cJ7_fill_53178 4 none, Cond.methodLink RX0 44 yX0_endsAt, Cond.instanceMethod yX0_endsAt, Cond.selects RX0 yX0_endsAt yX0_endsAt]
def wsX3_wipe_r3 : List Cond := [Cond.code yX0_endsAt cX0_endsAt 2 (some .boolean), Cond.methodLink RX0 64 yX0_hasDescendantOf, Cond.instanceMethod yX0_hasDescendantOf, Cond.selects RX0 yX0_hasDescendantOf yX0_hasDescendantOf, Cond.code yX0_hasDescendantOf cX0_hasDescendantOf 2 (some .boolean), Cond.methodLink RX0 32 yX0_findWinners, Cond.instanceMethod yX0_findWinners, Cond.selects RX0 yX0_findWinners yX0_findWinners, Cond.code yX0_findWinners cX0_findWinners 5 none, Cond.fieldLink RX0 19 "RevisionStores$Holding" "winners" "[I", Cond.methodLink RX0 60 yX2_isBetter, Cond.instanceMethod yX2_isBetter, Cond.selects RX2 yX2_isBetter yX2_isBetter, Cond.initialized RX2, Cond.code yX2_isBetter cX2_isBetter 3 (some .boolean), Cond.fieldLink RX2 21 "RevisionStores$Tree" "deletions" "[Z", Cond.fieldLink RX2 25 "RevisionStores$Tree" "generations" "[I", Cond.fieldLink RX2 28 "RevisionStores$Tree" "sums" "[I", Cond.methodLink RX1 60 yJ7_fill_53178]
def wsX3_wipe : List Cond := .code yX3_wipe cX3_wipe 4 (some .int) :: ((wsX3_wipe_r1 ++ (wsX3_wipe_r2 ++ wsX3_wipe_r3)) ++ wsX10 ++ wsX30 ++ wsX20 ++ wsX00 ++ (vx_atS RX3 184 "java/lang/IndexOutOfBoundsException" ["java/lang/RuntimeException", "java/lang/Exception"]).filter goodWord)
def wsX3_checkDifferent : List Cond := .code yX3_checkDifferent cX3_checkDifferent 3 none :: ([.classLink RX3 41 "java/lang/IllegalArgumentException", .initialized "java/lang/IllegalArgumentException"] ++ (vx_atS RX3 45 "java/lang/IllegalArgumentException" ["java/lang/RuntimeException", "java/lang/Exception"]).filter goodWord)
def wsX3_pairOf : List Cond := .code yX3_pairOf cX3_pairOf 2 (some .int) :: ([])
def wsX3_commonCheckpoint : List Cond := .code yX3_commonCheckpoint cX3_commonCheckpoint 4 (some .int) :: ([.fieldLink RX3 18 "RevisionStores" "stores" "[LRevisionStores$Store;", .methodLink RX3 210 Lib.Math.min.name, .static Lib.Math.min.name, .initialized "java/lang/Math", .code Lib.Math.min.name Lib.Math.min.code 2 (some .int), .methodLink RX3 121 yX3_pairOf, .static yX3_pairOf, .initialized RX3, .code yX3_pairOf cX3_pairOf 2 (some .int)] ++ wsX30 ++ wsX10)
def wsX3_replicate_r1 : List Cond := [Cond.classLink RX3 41 "java/lang/IllegalArgumentException", Cond.initialized "java/lang/IllegalArgumentException", Cond.fieldLink RX3 10 "RevisionStores" "tree" "LRevisionStores$Tree;", Cond.methodLink RX3 30 yX3_storeAt, Cond.instanceMethod yX3_storeAt, Cond.selects RX3 yX3_storeAt yX3_storeAt, Cond.initialized RX3, Cond.code yX3_storeAt cX3_storeAt 2 (some (.object "RevisionStores$Store")), Cond.classLink RX3 180 "java/lang/IndexOutOfBoundsException", Cond.initialized "java/lang/IndexOutOfBoundsException", Cond.fieldLink RX3 18 "RevisionStores" "stores" "[LRevisionStores$Store;", Cond.methodLink RX3 95 yX3_checkDifferent, Cond.instanceMethod yX3_checkDifferent, Cond.selects RX3 yX3_checkDifferent yX3_checkDifferent, Cond.code yX3_checkDifferent cX3_checkDifferent 3 none, Cond.methodLink RX3 99 yX3_commonCheckpoint, Cond.instanceMethod yX3_commonCheckpoint, Cond.selects RX3 yX3_commonCheckpoint yX3_commonCheckpoint, Cond.code yX3_commonCheckpoint cX3_commonCheckpoint 4 (some .int), Cond.methodLink RX3 210 Lib.Math.min.name, Cond.static Lib.Math.min.name, Cond.initialized "java/lang/Math", Cond.code Lib.Math.min.name Lib.Math.min.code 2 (some .int), Cond.methodLink RX3 121 yX3_pairOf]
def wsX3_replicate_r2 : List Cond := [Cond.static yX3_pairOf, Cond.code yX3_pairOf cX3_pairOf 2 (some .int), Cond.methodLink RX3 103 yX1_nextChanged, Cond.instanceMethod yX1_nextChanged, Cond.selects RX1 yX1_nextChanged yX1_nextChanged, Cond.initialized RX1, Cond.code yX1_nextChanged cX1_nextChanged 4 (some .int), Cond.fieldLink RX1 25 "RevisionStores$Store" "changes" "[I", Cond.methodLink RX3 107 yX1_receive, Cond.instanceMethod yX1_receive, Cond.selects RX1 yX1_receive yX1_receive, Cond.code yX1_receive cX1_receive 5 (some .int), Cond.fieldLink RX1 12 "RevisionStores$Store" "holding" "LRevisionStores$Holding;", Cond.methodLink RX1 45 yX0_addBranches, Cond.instanceMethod yX0_addBranches, Cond.selects RX0 yX0_addBranches yX0_addBranches, Cond.initialized RX0, Cond.code yX0_addBranches cX0_addBranches 6 (some .int), Cond.fieldLink RX0 9 "RevisionStores$Holding" "held" "[Z", Cond.methodLink RX0 44 yX0_endsAt, Cond.instanceMethod yX0_endsAt, Cond.selects RX0 yX0_endsAt yX0_endsAt, Cond.code yX0_endsAt cX0_endsAt 2 (some .boolean), Cond.methodLink RX0 64 yX0_hasDescendantOf]
def wsX3_replicate_r3 : List Cond := [Cond.instanceMethod yX0_hasDescendantOf, Cond.selects RX0 yX0_hasDescendantOf yX0_hasDescendantOf, Cond.code yX0_hasDescendantOf cX0_hasDescendantOf 2 (some .boolean), Cond.fieldLink RX0 15 "RevisionStores$Holding" "nearestLeaf" "[I", Cond.methodLink RX0 67 yX0_addLine, Cond.instanceMethod yX0_addLine, Cond.selects RX0 yX0_addLine yX0_addLine, Cond.code yX0_addLine cX0_addLine 7 (some .int), Cond.methodLink RX1 41 yX1_noteChange, Cond.instanceMethod yX1_noteChange, Cond.selects RX1 yX1_noteChange yX1_noteChange, Cond.code yX1_noteChange cX1_noteChange 3 none, Cond.fieldLink RX1 22 "RevisionStores$Store" "latest" "I", Cond.fieldLink RX1 18 "RevisionStores$Store" "depth" "I", Cond.methodLink RX1 49 yX0_survey, Cond.instanceMethod yX0_survey, Cond.selects RX0 yX0_survey yX0_survey, Cond.code yX0_survey cX0_survey 2 none, Cond.methodLink RX0 28 yX0_findLeaves, Cond.instanceMethod yX0_findLeaves, Cond.selects RX0 yX0_findLeaves yX0_findLeaves, Cond.code yX0_findLeaves cX0_findLeaves 5 none, Cond.methodLink RX0 51 Lib.Math.min.name, Cond.methodLink RX0 22 yJ7_fill_53178]
def wsX3_replicate_r4 : List Cond := [Cond.static yJ7_fill_53178, Cond.initialized RJ7, Cond.code yJ7_fill_53178 cJ7_fill_53178 4 none, Cond.methodLink RX0 32 yX0_findWinners, Cond.instanceMethod yX0_findWinners, Cond.selects RX0 yX0_findWinners yX0_findWinners, Cond.code yX0_findWinners cX0_findWinners 5 none, Cond.fieldLink RX0 19 "RevisionStores$Holding" "winners" "[I", Cond.methodLink RX0 60 yX2_isBetter, Cond.instanceMethod yX2_isBetter, Cond.selects RX2 yX2_isBetter yX2_isBetter, Cond.initialized RX2, Cond.code yX2_isBetter cX2_isBetter 3 (some .boolean), Cond.fieldLink RX2 21 "RevisionStores$Tree" "deletions" "[Z", Cond.fieldLink RX2 25 "RevisionStores$Tree" "generations" "[I", Cond.fieldLink RX2 28 "RevisionStores$Tree" "sums" "[I", Cond.methodLink RX1 53 yX0_stem, Cond.instanceMethod yX0_stem, Cond.selects RX0 yX0_stem yX0_stem, Cond.code yX0_stem cX0_stem 5 (some .int)]
def wsX3_replicate : List Cond := .code yX3_replicate cX3_replicate 10 (some .int) :: ((wsX3_replicate_r1 ++ (wsX3_replicate_r2 ++ (wsX3_replicate_r3 ++ wsX3_replicate_r4))) ++ wsX30 ++ wsX10 ++ wsX20 ++ wsX00 ++ (vx_atS RX3 45 "java/lang/IllegalArgumentException" ["java/lang/RuntimeException", "java/lang/Exception"]).filter goodWord ++ (vx_atS RX3 184 "java/lang/IndexOutOfBoundsException" ["java/lang/RuntimeException", "java/lang/Exception"]).filter goodWord)
def wsX3_pending_r1 : List Cond := [Cond.methodLink RX3 30 yX3_storeAt, Cond.instanceMethod yX3_storeAt, Cond.selects RX3 yX3_storeAt yX3_storeAt, Cond.initialized RX3, Cond.code yX3_storeAt cX3_storeAt 2 (some (.object "RevisionStores$Store")), Cond.classLink RX3 180 "java/lang/IndexOutOfBoundsException", Cond.initialized "java/lang/IndexOutOfBoundsException", Cond.fieldLink RX3 18 "RevisionStores" "stores" "[LRevisionStores$Store;", Cond.methodLink RX3 95 yX3_checkDifferent, Cond.instanceMethod yX3_checkDifferent, Cond.selects RX3 yX3_checkDifferent yX3_checkDifferent, Cond.code yX3_checkDifferent cX3_checkDifferent 3 none, Cond.classLink RX3 41 "java/lang/IllegalArgumentException", Cond.initialized "java/lang/IllegalArgumentException", Cond.methodLink RX3 99 yX3_commonCheckpoint, Cond.instanceMethod yX3_commonCheckpoint, Cond.selects RX3 yX3_commonCheckpoint yX3_commonCheckpoint, Cond.code yX3_commonCheckpoint cX3_commonCheckpoint 4 (some .int), Cond.methodLink RX3 210 Lib.Math.min.name, Cond.static Lib.Math.min.name, Cond.initialized "java/lang/Math", Cond.code Lib.Math.min.name Lib.Math.min.code 2 (some .int), Cond.methodLink RX3 121 yX3_pairOf, Cond.static yX3_pairOf]
def wsX3_pending_r2 : List Cond := [Cond.code yX3_pairOf cX3_pairOf 2 (some .int), Cond.methodLink RX3 124 yX1_countChanged, Cond.instanceMethod yX1_countChanged, Cond.selects RX1 yX1_countChanged yX1_countChanged, Cond.initialized RX1, Cond.code yX1_countChanged cX1_countChanged 4 (some .int), Cond.fieldLink RX1 25 "RevisionStores$Store" "changes" "[I"]
def wsX3_pending : List Cond := .code yX3_pending cX3_pending 4 (some .int) :: ((wsX3_pending_r1 ++ wsX3_pending_r2) ++ wsX30 ++ wsX10 ++ (vx_atS RX3 184 "java/lang/IndexOutOfBoundsException" ["java/lang/RuntimeException", "java/lang/Exception"]).filter goodWord ++ (vx_atS RX3 45 "java/lang/IllegalArgumentException" ["java/lang/RuntimeException", "java/lang/Exception"]).filter goodWord)
def wsX3_checkpoint_r1 : List Cond := [Cond.methodLink RX3 30 yX3_storeAt, Cond.instanceMethod yX3_storeAt, Cond.selects RX3 yX3_storeAt yX3_storeAt, Cond.initialized RX3, Cond.code yX3_storeAt cX3_storeAt 2 (some (.object "RevisionStores$Store")), Cond.classLink RX3 180 "java/lang/IndexOutOfBoundsException", Cond.initialized "java/lang/IndexOutOfBoundsException", Cond.fieldLink RX3 18 "RevisionStores" "stores" "[LRevisionStores$Store;", Cond.methodLink RX3 95 yX3_checkDifferent, Cond.instanceMethod yX3_checkDifferent, Cond.selects RX3 yX3_checkDifferent yX3_checkDifferent, Cond.code yX3_checkDifferent cX3_checkDifferent 3 none, Cond.classLink RX3 41 "java/lang/IllegalArgumentException", Cond.initialized "java/lang/IllegalArgumentException", Cond.methodLink RX3 99 yX3_commonCheckpoint, Cond.instanceMethod yX3_commonCheckpoint, Cond.selects RX3 yX3_commonCheckpoint yX3_commonCheckpoint, Cond.code yX3_commonCheckpoint cX3_commonCheckpoint 4 (some .int), Cond.methodLink RX3 210 Lib.Math.min.name, Cond.static Lib.Math.min.name, Cond.initialized "java/lang/Math", Cond.code Lib.Math.min.name Lib.Math.min.code 2 (some .int), Cond.methodLink RX3 121 yX3_pairOf, Cond.static yX3_pairOf]
def wsX3_checkpoint_r2 : List Cond := [Cond.code yX3_pairOf cX3_pairOf 2 (some .int)]
def wsX3_checkpoint : List Cond := .code yX3_checkpoint cX3_checkpoint 3 (some .int) :: ((wsX3_checkpoint_r1 ++ wsX3_checkpoint_r2) ++ wsX30 ++ wsX10 ++ (vx_atS RX3 184 "java/lang/IndexOutOfBoundsException" ["java/lang/RuntimeException", "java/lang/Exception"]).filter goodWord ++ (vx_atS RX3 45 "java/lang/IllegalArgumentException" ["java/lang/RuntimeException", "java/lang/Exception"]).filter goodWord)
def wsX3_revisions : List Cond := .code yX3_revisions cX3_revisions 1 (some .int) :: ([.fieldLink RX3 10 "RevisionStores" "tree" "LRevisionStores$Tree;"] ++ wsX30 ++ wsX20)
def wsX3_documentOf : List Cond := .code yX3_documentOf cX3_documentOf 2 (some .int) :: ([.fieldLink RX3 10 "RevisionStores" "tree" "LRevisionStores$Tree;", .methodLink RX3 38 yX3_checkRevision, .instanceMethod yX3_checkRevision, .selects RX3 yX3_checkRevision yX3_checkRevision, .initialized RX3, .code yX3_checkRevision cX3_checkRevision 2 none, .classLink RX3 180 "java/lang/IndexOutOfBoundsException", .initialized "java/lang/IndexOutOfBoundsException"] ++ wsX30 ++ wsX20 ++ (vx_atS RX3 184 "java/lang/IndexOutOfBoundsException" ["java/lang/RuntimeException", "java/lang/Exception"]).filter goodWord)
def wsX3_parentOf : List Cond := .code yX3_parentOf cX3_parentOf 2 (some .int) :: ([.fieldLink RX3 10 "RevisionStores" "tree" "LRevisionStores$Tree;", .methodLink RX3 38 yX3_checkRevision, .instanceMethod yX3_checkRevision, .selects RX3 yX3_checkRevision yX3_checkRevision, .initialized RX3, .code yX3_checkRevision cX3_checkRevision 2 none, .classLink RX3 180 "java/lang/IndexOutOfBoundsException", .initialized "java/lang/IndexOutOfBoundsException"] ++ wsX30 ++ wsX20 ++ (vx_atS RX3 184 "java/lang/IndexOutOfBoundsException" ["java/lang/RuntimeException", "java/lang/Exception"]).filter goodWord)
def wsX3_generation : List Cond := .code yX3_generation cX3_generation 2 (some .int) :: ([.fieldLink RX3 10 "RevisionStores" "tree" "LRevisionStores$Tree;", .methodLink RX3 38 yX3_checkRevision, .instanceMethod yX3_checkRevision, .selects RX3 yX3_checkRevision yX3_checkRevision, .initialized RX3, .code yX3_checkRevision cX3_checkRevision 2 none, .classLink RX3 180 "java/lang/IndexOutOfBoundsException", .initialized "java/lang/IndexOutOfBoundsException"] ++ wsX30 ++ wsX20 ++ (vx_atS RX3 184 "java/lang/IndexOutOfBoundsException" ["java/lang/RuntimeException", "java/lang/Exception"]).filter goodWord)
def wsX3_sum : List Cond := .code yX3_sum cX3_sum 2 (some .int) :: ([.fieldLink RX3 10 "RevisionStores" "tree" "LRevisionStores$Tree;", .methodLink RX3 38 yX3_checkRevision, .instanceMethod yX3_checkRevision, .selects RX3 yX3_checkRevision yX3_checkRevision, .initialized RX3, .code yX3_checkRevision cX3_checkRevision 2 none, .classLink RX3 180 "java/lang/IndexOutOfBoundsException", .initialized "java/lang/IndexOutOfBoundsException"] ++ wsX30 ++ wsX20 ++ (vx_atS RX3 184 "java/lang/IndexOutOfBoundsException" ["java/lang/RuntimeException", "java/lang/Exception"]).filter goodWord)
def wsX3_valueOf : List Cond := .code yX3_valueOf cX3_valueOf 2 (some .int) :: ([.fieldLink RX3 10 "RevisionStores" "tree" "LRevisionStores$Tree;", .methodLink RX3 38 yX3_checkRevision, .instanceMethod yX3_checkRevision, .selects RX3 yX3_checkRevision yX3_checkRevision, .initialized RX3, .code yX3_checkRevision cX3_checkRevision 2 none, .classLink RX3 180 "java/lang/IndexOutOfBoundsException", .initialized "java/lang/IndexOutOfBoundsException"] ++ wsX30 ++ wsX20 ++ (vx_atS RX3 184 "java/lang/IndexOutOfBoundsException" ["java/lang/RuntimeException", "java/lang/Exception"]).filter goodWord)
def wsX3_sequence : List Cond := .code yX3_sequence cX3_sequence 2 (some .int) :: ([.methodLink RX3 30 yX3_storeAt, .instanceMethod yX3_storeAt, .selects RX3 yX3_storeAt yX3_storeAt, .initialized RX3, .code yX3_storeAt cX3_storeAt 2 (some (.object "RevisionStores$Store")), .classLink RX3 180 "java/lang/IndexOutOfBoundsException", .initialized "java/lang/IndexOutOfBoundsException", .fieldLink RX3 18 "RevisionStores" "stores" "[LRevisionStores$Store;"] ++ wsX10 ++ wsX30 ++ (vx_atS RX3 184 "java/lang/IndexOutOfBoundsException" ["java/lang/RuntimeException", "java/lang/Exception"]).filter goodWord)
def wsX3_has : List Cond := .code yX3_has cX3_has 4 (some .boolean) :: ([.methodLink RX3 30 yX3_storeAt, .instanceMethod yX3_storeAt, .selects RX3 yX3_storeAt yX3_storeAt, .initialized RX3, .code yX3_storeAt cX3_storeAt 2 (some (.object "RevisionStores$Store")), .classLink RX3 180 "java/lang/IndexOutOfBoundsException", .initialized "java/lang/IndexOutOfBoundsException", .fieldLink RX3 18 "RevisionStores" "stores" "[LRevisionStores$Store;", .methodLink RX3 38 yX3_checkRevision, .instanceMethod yX3_checkRevision, .selects RX3 yX3_checkRevision yX3_checkRevision, .code yX3_checkRevision cX3_checkRevision 2 none, .fieldLink RX3 10 "RevisionStores" "tree" "LRevisionStores$Tree;"] ++ wsX10 ++ wsX00 ++ wsX30 ++ wsX20 ++ (vx_atS RX3 184 "java/lang/IndexOutOfBoundsException" ["java/lang/RuntimeException", "java/lang/Exception"]).filter goodWord)
def wsX3_isLeaf : List Cond := .code yX3_isLeaf cX3_isLeaf 4 (some .boolean) :: ([.methodLink RX3 30 yX3_storeAt, .instanceMethod yX3_storeAt, .selects RX3 yX3_storeAt yX3_storeAt, .initialized RX3, .code yX3_storeAt cX3_storeAt 2 (some (.object "RevisionStores$Store")), .classLink RX3 180 "java/lang/IndexOutOfBoundsException", .initialized "java/lang/IndexOutOfBoundsException", .fieldLink RX3 18 "RevisionStores" "stores" "[LRevisionStores$Store;", .methodLink RX3 38 yX3_checkRevision, .instanceMethod yX3_checkRevision, .selects RX3 yX3_checkRevision yX3_checkRevision, .code yX3_checkRevision cX3_checkRevision 2 none, .fieldLink RX3 10 "RevisionStores" "tree" "LRevisionStores$Tree;", .methodLink RX3 148 yX0_endsAt, .instanceMethod yX0_endsAt, .selects RX0 yX0_endsAt yX0_endsAt, .initialized RX0, .code yX0_endsAt cX0_endsAt 2 (some .boolean), .fieldLink RX0 9 "RevisionStores$Holding" "held" "[Z", .methodLink RX0 64 yX0_hasDescendantOf, .instanceMethod yX0_hasDescendantOf, .selects RX0 yX0_hasDescendantOf yX0_hasDescendantOf, .code yX0_hasDescendantOf cX0_hasDescendantOf 2 (some .boolean), .fieldLink RX0 15 "RevisionStores$Holding" "nearestLeaf" "[I"] ++ wsX10 ++ wsX30 ++ wsX20 ++ wsX00 ++ (vx_atS RX3 184 "java/lang/IndexOutOfBoundsException" ["java/lang/RuntimeException", "java/lang/Exception"]).filter goodWord)
def wsX3_size : List Cond := .code yX3_size cX3_size 2 (some .int) :: ([.fieldLink RX3 10 "RevisionStores" "tree" "LRevisionStores$Tree;", .methodLink RX3 30 yX3_storeAt, .instanceMethod yX3_storeAt, .selects RX3 yX3_storeAt yX3_storeAt, .initialized RX3, .code yX3_storeAt cX3_storeAt 2 (some (.object "RevisionStores$Store")), .classLink RX3 180 "java/lang/IndexOutOfBoundsException", .initialized "java/lang/IndexOutOfBoundsException", .fieldLink RX3 18 "RevisionStores" "stores" "[LRevisionStores$Store;", .methodLink RX3 85 yX0_countAll, .instanceMethod yX0_countAll, .selects RX0 yX0_countAll yX0_countAll, .initialized RX0, .code yX0_countAll cX0_countAll 4 (some .int), .fieldLink RX0 9 "RevisionStores$Holding" "held" "[Z"] ++ wsX10 ++ wsX30 ++ wsX20 ++ wsX00 ++ (vx_atS RX3 184 "java/lang/IndexOutOfBoundsException" ["java/lang/RuntimeException", "java/lang/Exception"]).filter goodWord)
def wsX3_winner : List Cond := .code yX3_winner cX3_winner 4 (some .int) :: ([.methodLink RX3 30 yX3_storeAt, .instanceMethod yX3_storeAt, .selects RX3 yX3_storeAt yX3_storeAt, .initialized RX3, .code yX3_storeAt cX3_storeAt 2 (some (.object "RevisionStores$Store")), .classLink RX3 180 "java/lang/IndexOutOfBoundsException", .initialized "java/lang/IndexOutOfBoundsException", .fieldLink RX3 18 "RevisionStores" "stores" "[LRevisionStores$Store;", .methodLink RX3 34 yX3_checkDocument, .instanceMethod yX3_checkDocument, .selects RX3 yX3_checkDocument yX3_checkDocument, .code yX3_checkDocument cX3_checkDocument 2 none] ++ wsX10 ++ wsX00 ++ wsX30 ++ (vx_atS RX3 184 "java/lang/IndexOutOfBoundsException" ["java/lang/RuntimeException", "java/lang/Exception"]).filter goodWord)
def wsX3_winnerOfAll_r1 : List Cond := [Cond.fieldLink RX3 25 "RevisionStores" "union" "LRevisionStores$Holding;", Cond.fieldLink RX3 10 "RevisionStores" "tree" "LRevisionStores$Tree;", Cond.fieldLink RX3 18 "RevisionStores" "stores" "[LRevisionStores$Store;", Cond.methodLink RX3 34 yX3_checkDocument, Cond.instanceMethod yX3_checkDocument, Cond.selects RX3 yX3_checkDocument yX3_checkDocument, Cond.initialized RX3, Cond.code yX3_checkDocument cX3_checkDocument 2 none, Cond.classLink RX3 180 "java/lang/IndexOutOfBoundsException", Cond.initialized "java/lang/IndexOutOfBoundsException", Cond.methodLink RX3 155 yX0_removeAll, Cond.instanceMethod yX0_removeAll, Cond.selects RX0 yX0_removeAll yX0_removeAll, Cond.initialized RX0, Cond.code yX0_removeAll cX0_removeAll 2 none, Cond.fieldLink RX0 9 "RevisionStores$Holding" "held" "[Z", Cond.methodLink RX3 158 yX0_addAll, Cond.instanceMethod yX0_addAll, Cond.selects RX0 yX0_addAll yX0_addAll, Cond.code yX0_addAll cX0_addAll 4 none, Cond.methodLink RX3 162 yX0_survey, Cond.instanceMethod yX0_survey, Cond.selects RX0 yX0_survey yX0_survey, Cond.code yX0_survey cX0_survey 2 none]
def wsX3_winnerOfAll_r2 : List Cond := [Cond.methodLink RX0 28 yX0_findLeaves, Cond.instanceMethod yX0_findLeaves, Cond.selects RX0 yX0_findLeaves yX0_findLeaves, Cond.code yX0_findLeaves cX0_findLeaves 5 none, Cond.fieldLink RX0 15 "RevisionStores$Holding" "nearestLeaf" "[I", Cond.methodLink RX0 51 Lib.Math.min.name, Cond.static Lib.Math.min.name, Cond.initialized "java/lang/Math", Cond.code Lib.Math.min.name Lib.Math.min.code 2 (some .int), Cond.methodLink RX0 22 yJ7_fill_53178, Cond.static yJ7_fill_53178, Cond.initialized RJ7, Cond.code yJ7_fill_53178 cJ7_fill_53178 4 none, Cond.methodLink RX0 44 yX0_endsAt, Cond.instanceMethod yX0_endsAt, Cond.selects RX0 yX0_endsAt yX0_endsAt, Cond.code yX0_endsAt cX0_endsAt 2 (some .boolean), Cond.methodLink RX0 64 yX0_hasDescendantOf, Cond.instanceMethod yX0_hasDescendantOf, Cond.selects RX0 yX0_hasDescendantOf yX0_hasDescendantOf, Cond.code yX0_hasDescendantOf cX0_hasDescendantOf 2 (some .boolean), Cond.methodLink RX0 32 yX0_findWinners, Cond.instanceMethod yX0_findWinners, Cond.selects RX0 yX0_findWinners yX0_findWinners]
def wsX3_winnerOfAll_r3 : List Cond := [Cond.code yX0_findWinners cX0_findWinners 5 none, Cond.fieldLink RX0 19 "RevisionStores$Holding" "winners" "[I", Cond.methodLink RX0 60 yX2_isBetter, Cond.instanceMethod yX2_isBetter, Cond.selects RX2 yX2_isBetter yX2_isBetter, Cond.initialized RX2, Cond.code yX2_isBetter cX2_isBetter 3 (some .boolean), Cond.fieldLink RX2 21 "RevisionStores$Tree" "deletions" "[Z", Cond.fieldLink RX2 25 "RevisionStores$Tree" "generations" "[I", Cond.fieldLink RX2 28 "RevisionStores$Tree" "sums" "[I"]
def wsX3_winnerOfAll : List Cond := .code yX3_winnerOfAll cX3_winnerOfAll 3 (some .int) :: ((wsX3_winnerOfAll_r1 ++ (wsX3_winnerOfAll_r2 ++ wsX3_winnerOfAll_r3)) ++ wsX30 ++ wsX10 ++ wsX00 ++ wsX20 ++ (vx_atS RX3 184 "java/lang/IndexOutOfBoundsException" ["java/lang/RuntimeException", "java/lang/Exception"]).filter goodWord)
def wsX3_conflicts_r1 : List Cond := [Cond.fieldLink RX3 10 "RevisionStores" "tree" "LRevisionStores$Tree;", Cond.methodLink RX3 168 Lib.Math.max.name, Cond.static Lib.Math.max.name, Cond.initialized "java/lang/Math", Cond.code Lib.Math.max.name Lib.Math.max.code 2 (some .int), Cond.methodLink RX3 30 yX3_storeAt, Cond.instanceMethod yX3_storeAt, Cond.selects RX3 yX3_storeAt yX3_storeAt, Cond.initialized RX3, Cond.code yX3_storeAt cX3_storeAt 2 (some (.object "RevisionStores$Store")), Cond.classLink RX3 180 "java/lang/IndexOutOfBoundsException", Cond.initialized "java/lang/IndexOutOfBoundsException", Cond.fieldLink RX3 18 "RevisionStores" "stores" "[LRevisionStores$Store;", Cond.methodLink RX3 34 yX3_checkDocument, Cond.instanceMethod yX3_checkDocument, Cond.selects RX3 yX3_checkDocument yX3_checkDocument, Cond.code yX3_checkDocument cX3_checkDocument 2 none, Cond.methodLink RX3 165 yX0_countLiveLeaves, Cond.instanceMethod yX0_countLiveLeaves, Cond.selects RX0 yX0_countLiveLeaves yX0_countLiveLeaves, Cond.initialized RX0, Cond.code yX0_countLiveLeaves cX0_countLiveLeaves 5 (some .int), Cond.methodLink RX0 44 yX0_endsAt, Cond.instanceMethod yX0_endsAt]
def wsX3_conflicts_r2 : List Cond := [Cond.selects RX0 yX0_endsAt yX0_endsAt, Cond.code yX0_endsAt cX0_endsAt 2 (some .boolean), Cond.fieldLink RX0 9 "RevisionStores$Holding" "held" "[Z", Cond.methodLink RX0 64 yX0_hasDescendantOf, Cond.instanceMethod yX0_hasDescendantOf, Cond.selects RX0 yX0_hasDescendantOf yX0_hasDescendantOf, Cond.code yX0_hasDescendantOf cX0_hasDescendantOf 2 (some .boolean), Cond.fieldLink RX0 15 "RevisionStores$Holding" "nearestLeaf" "[I"]
def wsX3_conflicts : List Cond := .code yX3_conflicts cX3_conflicts 4 (some .int) :: ((wsX3_conflicts_r1 ++ wsX3_conflicts_r2) ++ wsX10 ++ wsX30 ++ wsX20 ++ wsX00 ++ (vx_atS RX3 184 "java/lang/IndexOutOfBoundsException" ["java/lang/RuntimeException", "java/lang/Exception"]).filter goodWord)
def wsX3_count : List Cond := .code yX3_count cX3_count 8 (some .int) :: ([.fieldLink RX3 10 "RevisionStores" "tree" "LRevisionStores$Tree;", .methodLink RX3 30 yX3_storeAt, .instanceMethod yX3_storeAt, .selects RX3 yX3_storeAt yX3_storeAt, .initialized RX3, .code yX3_storeAt cX3_storeAt 2 (some (.object "RevisionStores$Store")), .classLink RX3 180 "java/lang/IndexOutOfBoundsException", .initialized "java/lang/IndexOutOfBoundsException", .fieldLink RX3 18 "RevisionStores" "stores" "[LRevisionStores$Store;", .methodLink RX3 173 yX0_shownValue, .instanceMethod yX0_shownValue, .selects RX0 yX0_shownValue yX0_shownValue, .initialized RX0, .code yX0_shownValue cX0_shownValue 4 (some .int), .fieldLink RX0 19 "RevisionStores$Holding" "winners" "[I"] ++ wsX10 ++ wsX30 ++ wsX00 ++ wsX20 ++ (vx_atS RX3 184 "java/lang/IndexOutOfBoundsException" ["java/lang/RuntimeException", "java/lang/Exception"]).filter goodWord)
def wsX3_viewAt : List Cond := .code yX3_viewAt cX3_viewAt 6 (some .int) :: ([.classLink RX3 180 "java/lang/IndexOutOfBoundsException", .initialized "java/lang/IndexOutOfBoundsException", .fieldLink RX3 10 "RevisionStores" "tree" "LRevisionStores$Tree;", .methodLink RX3 30 yX3_storeAt, .instanceMethod yX3_storeAt, .selects RX3 yX3_storeAt yX3_storeAt, .initialized RX3, .code yX3_storeAt cX3_storeAt 2 (some (.object "RevisionStores$Store")), .fieldLink RX3 18 "RevisionStores" "stores" "[LRevisionStores$Store;", .methodLink RX3 173 yX0_shownValue, .instanceMethod yX0_shownValue, .selects RX0 yX0_shownValue yX0_shownValue, .initialized RX0, .code yX0_shownValue cX0_shownValue 4 (some .int), .fieldLink RX0 19 "RevisionStores$Holding" "winners" "[I", .methodLink RX3 176 yX0_countShownBefore, .instanceMethod yX0_countShownBefore, .selects RX0 yX0_countShownBefore yX0_countShownBefore, .code yX0_countShownBefore cX0_countShownBefore 7 (some .int), .methodLink RX0 77 yX0_shownValue] ++ wsX10 ++ wsX30 ++ wsX00 ++ wsX20 ++ (vx_atS RX3 184 "java/lang/IndexOutOfBoundsException" ["java/lang/RuntimeException", "java/lang/Exception"]).filter goodWord)
def wsX4_init : List Cond := .code yX4_init cX4_init 2 none :: ([.methodLink RX4 1 objectInit, .instanceMethod objectInit, .code objectInit ⟨#[0xb1]⟩ 1 none, .arrayClass .int, .fieldLink RX4 7 "RevisionStoresModel" "documents" "[I", .fieldLink RX4 13 "RevisionStoresModel" "parents" "[I", .fieldLink RX4 16 "RevisionStoresModel" "values" "[I", .arrayClass .boolean, .fieldLink RX4 19 "RevisionStoresModel" "deletions" "[Z", .fieldLink RX4 23 "RevisionStoresModel" "generations" "[I", .fieldLink RX4 26 "RevisionStoresModel" "sums" "[I", .fieldLink RX4 29 "RevisionStoresModel" "marks" "[Z", .fieldLink RX4 32 "RevisionStoresModel" "depths" "[I", .fieldLink RX4 35 "RevisionStoresModel" "sequences" "[I", .fieldLink RX4 38 "RevisionStoresModel" "touched" "[I", .fieldLink RX4 41 "RevisionStoresModel" "kept" "[I"] ++ wsX40)
def wsX4_thrown : List Cond := .code yX4_thrown cX4_thrown 1 (some .int) :: ([.fieldLink RX4 44 "RevisionStoresModel" "last" "I"] ++ wsX40)
def wsX4_in : List Cond := .code yX4_in cX4_in 3 (some .boolean) :: ([])
def wsX4_goes : List Cond := .code yX4_goes cX4_goes 4 (some .boolean) :: ([.fieldLink RX4 44 "RevisionStoresModel" "last" "I"] ++ wsX40)
def wsX4_isStore : List Cond := .code yX4_isStore cX4_isStore 1 (some .boolean) :: ([.methodLink RX4 48 yX4_in, .static yX4_in, .initialized RX4, .code yX4_in cX4_in 3 (some .boolean)])
def wsX4_isDocument : List Cond := .code yX4_isDocument cX4_isDocument 1 (some .boolean) :: ([.methodLink RX4 48 yX4_in, .static yX4_in, .initialized RX4, .code yX4_in cX4_in 3 (some .boolean)])
def wsX4_isRevision : List Cond := .code yX4_isRevision cX4_isRevision 2 (some .boolean) :: ([.fieldLink RX4 52 "RevisionStoresModel" "revisions" "I", .methodLink RX4 48 yX4_in, .static yX4_in, .initialized RX4, .code yX4_in cX4_in 3 (some .boolean)] ++ wsX40)
def wsX4_isAncestor : List Cond := .code yX4_isAncestor cX4_isAncestor 4 (some .boolean) :: ([.fieldLink RX4 13 "RevisionStoresModel" "parents" "[I"] ++ wsX40)
def wsX4_hasDescendant : List Cond := .code yX4_hasDescendant cX4_hasDescendant 5 (some .boolean) :: ([.fieldLink RX4 52 "RevisionStoresModel" "revisions" "I", .fieldLink RX4 29 "RevisionStoresModel" "marks" "[Z", .methodLink RX4 55 yX4_isAncestor, .instanceMethod yX4_isAncestor, .selects RX4 yX4_isAncestor yX4_isAncestor, .initialized RX4, .code yX4_isAncestor cX4_isAncestor 4 (some .boolean), .fieldLink RX4 13 "RevisionStoresModel" "parents" "[I"] ++ wsX40)
def wsX4_leaf : List Cond := .code yX4_leaf cX4_leaf 3 (some .boolean) :: ([.fieldLink RX4 29 "RevisionStoresModel" "marks" "[Z", .methodLink RX4 59 yX4_hasDescendant, .instanceMethod yX4_hasDescendant, .selects RX4 yX4_hasDescendant yX4_hasDescendant, .initialized RX4, .code yX4_hasDescendant cX4_hasDescendant 5 (some .boolean), .fieldLink RX4 52 "RevisionStoresModel" "revisions" "I", .methodLink RX4 55 yX4_isAncestor, .instanceMethod yX4_isAncestor, .selects RX4 yX4_isAncestor yX4_isAncestor, .code yX4_isAncestor cX4_isAncestor 4 (some .boolean), .fieldLink RX4 13 "RevisionStoresModel" "parents" "[I"] ++ wsX40)
def wsX4_isBetter : List Cond := .code yX4_isBetter cX4_isBetter 3 (some .boolean) :: ([.fieldLink RX4 19 "RevisionStoresModel" "deletions" "[Z", .fieldLink RX4 23 "RevisionStoresModel" "generations" "[I", .fieldLink RX4 26 "RevisionStoresModel" "sums" "[I"] ++ wsX40)
def wsX4_best : List Cond := .code yX4_best cX4_best 6 (some .int) :: ([.fieldLink RX4 52 "RevisionStoresModel" "revisions" "I", .fieldLink RX4 7 "RevisionStoresModel" "documents" "[I", .methodLink RX4 62 yX4_leaf, .instanceMethod yX4_leaf, .selects RX4 yX4_leaf yX4_leaf, .initialized RX4, .code yX4_leaf cX4_leaf 3 (some .boolean), .fieldLink RX4 29 "RevisionStoresModel" "marks" "[Z", .methodLink RX4 59 yX4_hasDescendant, .instanceMethod yX4_hasDescendant, .selects RX4 yX4_hasDescendant yX4_hasDescendant, .code yX4_hasDescendant cX4_hasDescendant 5 (some .boolean), .methodLink RX4 55 yX4_isAncestor, .instanceMethod yX4_isAncestor, .selects RX4 yX4_isAncestor yX4_isAncestor, .code yX4_isAncestor cX4_isAncestor 4 (some .boolean), .fieldLink RX4 13 "RevisionStoresModel" "parents" "[I", .methodLink RX4 65 yX4_isBetter, .instanceMethod yX4_isBetter, .selects RX4 yX4_isBetter yX4_isBetter, .code yX4_isBetter cX4_isBetter 3 (some .boolean), .fieldLink RX4 19 "RevisionStoresModel" "deletions" "[Z", .fieldLink RX4 23 "RevisionStoresModel" "generations" "[I", .fieldLink RX4 26 "RevisionStoresModel" "sums" "[I"] ++ wsX40)
def wsX4_isDeep : List Cond := .code yX4_isDeep cX4_isDeep 5 (some .boolean) :: ([.fieldLink RX4 52 "RevisionStoresModel" "revisions" "I", .fieldLink RX4 23 "RevisionStoresModel" "generations" "[I", .fieldLink RX4 32 "RevisionStoresModel" "depths" "[I", .methodLink RX4 55 yX4_isAncestor, .instanceMethod yX4_isAncestor, .selects RX4 yX4_isAncestor yX4_isAncestor, .initialized RX4, .code yX4_isAncestor cX4_isAncestor 4 (some .boolean), .fieldLink RX4 13 "RevisionStoresModel" "parents" "[I", .methodLink RX4 62 yX4_leaf, .instanceMethod yX4_leaf, .selects RX4 yX4_leaf yX4_leaf, .code yX4_leaf cX4_leaf 3 (some .boolean), .fieldLink RX4 29 "RevisionStoresModel" "marks" "[Z", .methodLink RX4 59 yX4_hasDescendant, .instanceMethod yX4_hasDescendant, .selects RX4 yX4_hasDescendant yX4_hasDescendant, .code yX4_hasDescendant cX4_hasDescendant 5 (some .boolean)] ++ wsX40)
def wsX4_stems : List Cond := .code yX4_stems cX4_stems 4 (some .int) :: ([.fieldLink RX4 52 "RevisionStoresModel" "revisions" "I", .fieldLink RX4 29 "RevisionStoresModel" "marks" "[Z", .methodLink RX4 68 yX4_isDeep, .instanceMethod yX4_isDeep, .selects RX4 yX4_isDeep yX4_isDeep, .initialized RX4, .code yX4_isDeep cX4_isDeep 5 (some .boolean), .fieldLink RX4 23 "RevisionStoresModel" "generations" "[I", .fieldLink RX4 32 "RevisionStoresModel" "depths" "[I", .methodLink RX4 55 yX4_isAncestor, .instanceMethod yX4_isAncestor, .selects RX4 yX4_isAncestor yX4_isAncestor, .code yX4_isAncestor cX4_isAncestor 4 (some .boolean), .fieldLink RX4 13 "RevisionStoresModel" "parents" "[I", .methodLink RX4 62 yX4_leaf, .instanceMethod yX4_leaf, .selects RX4 yX4_leaf yX4_leaf, .code yX4_leaf cX4_leaf 3 (some .boolean), .methodLink RX4 59 yX4_hasDescendant, .instanceMethod yX4_hasDescendant, .selects RX4 yX4_hasDescendant yX4_hasDescendant, .code yX4_hasDescendant cX4_hasDescendant 5 (some .boolean)] ++ wsX40)
def wsX4_touches : List Cond := .code yX4_touches cX4_touches 3 none :: ([.fieldLink RX4 35 "RevisionStoresModel" "sequences" "[I", .fieldLink RX4 38 "RevisionStoresModel" "touched" "[I"] ++ wsX40)
def wsX4_makes : List Cond := .code yX4_makes cX4_makes 7 (some .int) :: ([.fieldLink RX4 52 "RevisionStoresModel" "revisions" "I", .fieldLink RX4 7 "RevisionStoresModel" "documents" "[I", .fieldLink RX4 13 "RevisionStoresModel" "parents" "[I", .fieldLink RX4 16 "RevisionStoresModel" "values" "[I", .fieldLink RX4 19 "RevisionStoresModel" "deletions" "[Z", .fieldLink RX4 23 "RevisionStoresModel" "generations" "[I", .fieldLink RX4 26 "RevisionStoresModel" "sums" "[I"] ++ wsX40)
def wsX4_adds_r1 : List Cond := [Cond.fieldLink RX4 29 "RevisionStoresModel" "marks" "[Z", Cond.methodLink RX4 71 yX4_makes, Cond.instanceMethod yX4_makes, Cond.selects RX4 yX4_makes yX4_makes, Cond.initialized RX4, Cond.code yX4_makes cX4_makes 7 (some .int), Cond.fieldLink RX4 52 "RevisionStoresModel" "revisions" "I", Cond.fieldLink RX4 7 "RevisionStoresModel" "documents" "[I", Cond.fieldLink RX4 13 "RevisionStoresModel" "parents" "[I", Cond.fieldLink RX4 16 "RevisionStoresModel" "values" "[I", Cond.fieldLink RX4 19 "RevisionStoresModel" "deletions" "[Z", Cond.fieldLink RX4 23 "RevisionStoresModel" "generations" "[I", Cond.fieldLink RX4 26 "RevisionStoresModel" "sums" "[I", Cond.methodLink RX4 75 yX4_touches, Cond.instanceMethod yX4_touches, Cond.selects RX4 yX4_touches yX4_touches, Cond.code yX4_touches cX4_touches 3 none, Cond.fieldLink RX4 35 "RevisionStoresModel" "sequences" "[I", Cond.fieldLink RX4 38 "RevisionStoresModel" "touched" "[I", Cond.methodLink RX4 79 yX4_stems, Cond.instanceMethod yX4_stems, Cond.selects RX4 yX4_stems yX4_stems, Cond.code yX4_stems cX4_stems 4 (some .int), Cond.methodLink RX4 68 yX4_isDeep]
def wsX4_adds_r2 : List Cond := [Cond.instanceMethod yX4_isDeep, Cond.selects RX4 yX4_isDeep yX4_isDeep, Cond.code yX4_isDeep cX4_isDeep 5 (some .boolean), Cond.fieldLink RX4 32 "RevisionStoresModel" "depths" "[I", Cond.methodLink RX4 55 yX4_isAncestor, Cond.instanceMethod yX4_isAncestor, Cond.selects RX4 yX4_isAncestor yX4_isAncestor, Cond.code yX4_isAncestor cX4_isAncestor 4 (some .boolean), Cond.methodLink RX4 62 yX4_leaf, Cond.instanceMethod yX4_leaf, Cond.selects RX4 yX4_leaf yX4_leaf, Cond.code yX4_leaf cX4_leaf 3 (some .boolean), Cond.methodLink RX4 59 yX4_hasDescendant, Cond.instanceMethod yX4_hasDescendant, Cond.selects RX4 yX4_hasDescendant yX4_hasDescendant, Cond.code yX4_hasDescendant cX4_hasDescendant 5 (some .boolean)]
def wsX4_adds : List Cond := .code yX4_adds cX4_adds 7 (some .int) :: ((wsX4_adds_r1 ++ wsX4_adds_r2) ++ wsX40)
def wsX4_canEdit_r1 : List Cond := [Cond.fieldLink RX4 7 "RevisionStoresModel" "documents" "[I", Cond.fieldLink RX4 52 "RevisionStoresModel" "revisions" "I", Cond.methodLink RX4 83 yX4_best, Cond.instanceMethod yX4_best, Cond.selects RX4 yX4_best yX4_best, Cond.initialized RX4, Cond.code yX4_best cX4_best 6 (some .int), Cond.methodLink RX4 62 yX4_leaf, Cond.instanceMethod yX4_leaf, Cond.selects RX4 yX4_leaf yX4_leaf, Cond.code yX4_leaf cX4_leaf 3 (some .boolean), Cond.fieldLink RX4 29 "RevisionStoresModel" "marks" "[Z", Cond.methodLink RX4 59 yX4_hasDescendant, Cond.instanceMethod yX4_hasDescendant, Cond.selects RX4 yX4_hasDescendant yX4_hasDescendant, Cond.code yX4_hasDescendant cX4_hasDescendant 5 (some .boolean), Cond.methodLink RX4 55 yX4_isAncestor, Cond.instanceMethod yX4_isAncestor, Cond.selects RX4 yX4_isAncestor yX4_isAncestor, Cond.code yX4_isAncestor cX4_isAncestor 4 (some .boolean), Cond.fieldLink RX4 13 "RevisionStoresModel" "parents" "[I", Cond.methodLink RX4 65 yX4_isBetter, Cond.instanceMethod yX4_isBetter, Cond.selects RX4 yX4_isBetter yX4_isBetter]
def wsX4_canEdit_r2 : List Cond := [Cond.code yX4_isBetter cX4_isBetter 3 (some .boolean), Cond.fieldLink RX4 19 "RevisionStoresModel" "deletions" "[Z", Cond.fieldLink RX4 23 "RevisionStoresModel" "generations" "[I", Cond.fieldLink RX4 26 "RevisionStoresModel" "sums" "[I"]
def wsX4_canEdit : List Cond := .code yX4_canEdit cX4_canEdit 5 (some .boolean) :: ((wsX4_canEdit_r1 ++ wsX4_canEdit_r2) ++ wsX40)
def wsX4_edit_r1 : List Cond := [Cond.methodLink RX4 87 yX4_isStore, Cond.static yX4_isStore, Cond.initialized RX4, Cond.code yX4_isStore cX4_isStore 1 (some .boolean), Cond.methodLink RX4 48 yX4_in, Cond.static yX4_in, Cond.code yX4_in cX4_in 3 (some .boolean), Cond.methodLink RX4 91 yX4_isDocument, Cond.static yX4_isDocument, Cond.code yX4_isDocument cX4_isDocument 1 (some .boolean), Cond.methodLink RX4 94 yX4_isRevision, Cond.instanceMethod yX4_isRevision, Cond.selects RX4 yX4_isRevision yX4_isRevision, Cond.code yX4_isRevision cX4_isRevision 2 (some .boolean), Cond.fieldLink RX4 52 "RevisionStoresModel" "revisions" "I", Cond.methodLink RX4 97 yX4_canEdit, Cond.instanceMethod yX4_canEdit, Cond.selects RX4 yX4_canEdit yX4_canEdit, Cond.code yX4_canEdit cX4_canEdit 5 (some .boolean), Cond.fieldLink RX4 7 "RevisionStoresModel" "documents" "[I", Cond.methodLink RX4 83 yX4_best, Cond.instanceMethod yX4_best, Cond.selects RX4 yX4_best yX4_best, Cond.code yX4_best cX4_best 6 (some .int)]
def wsX4_edit_r2 : List Cond := [Cond.methodLink RX4 62 yX4_leaf, Cond.instanceMethod yX4_leaf, Cond.selects RX4 yX4_leaf yX4_leaf, Cond.code yX4_leaf cX4_leaf 3 (some .boolean), Cond.fieldLink RX4 29 "RevisionStoresModel" "marks" "[Z", Cond.methodLink RX4 59 yX4_hasDescendant, Cond.instanceMethod yX4_hasDescendant, Cond.selects RX4 yX4_hasDescendant yX4_hasDescendant, Cond.code yX4_hasDescendant cX4_hasDescendant 5 (some .boolean), Cond.methodLink RX4 55 yX4_isAncestor, Cond.instanceMethod yX4_isAncestor, Cond.selects RX4 yX4_isAncestor yX4_isAncestor, Cond.code yX4_isAncestor cX4_isAncestor 4 (some .boolean), Cond.fieldLink RX4 13 "RevisionStoresModel" "parents" "[I", Cond.methodLink RX4 65 yX4_isBetter, Cond.instanceMethod yX4_isBetter, Cond.selects RX4 yX4_isBetter yX4_isBetter, Cond.code yX4_isBetter cX4_isBetter 3 (some .boolean), Cond.fieldLink RX4 19 "RevisionStoresModel" "deletions" "[Z", Cond.fieldLink RX4 23 "RevisionStoresModel" "generations" "[I", Cond.fieldLink RX4 26 "RevisionStoresModel" "sums" "[I", Cond.methodLink RX4 100 yX4_goes, Cond.instanceMethod yX4_goes, Cond.selects RX4 yX4_goes yX4_goes]
def wsX4_edit_r3 : List Cond := [Cond.code yX4_goes cX4_goes 4 (some .boolean), Cond.fieldLink RX4 44 "RevisionStoresModel" "last" "I", Cond.methodLink RX4 104 yX4_adds, Cond.instanceMethod yX4_adds, Cond.selects RX4 yX4_adds yX4_adds, Cond.code yX4_adds cX4_adds 7 (some .int), Cond.methodLink RX4 71 yX4_makes, Cond.instanceMethod yX4_makes, Cond.selects RX4 yX4_makes yX4_makes, Cond.code yX4_makes cX4_makes 7 (some .int), Cond.fieldLink RX4 16 "RevisionStoresModel" "values" "[I", Cond.methodLink RX4 75 yX4_touches, Cond.instanceMethod yX4_touches, Cond.selects RX4 yX4_touches yX4_touches, Cond.code yX4_touches cX4_touches 3 none, Cond.fieldLink RX4 35 "RevisionStoresModel" "sequences" "[I", Cond.fieldLink RX4 38 "RevisionStoresModel" "touched" "[I", Cond.methodLink RX4 79 yX4_stems, Cond.instanceMethod yX4_stems, Cond.selects RX4 yX4_stems yX4_stems, Cond.code yX4_stems cX4_stems 4 (some .int), Cond.methodLink RX4 68 yX4_isDeep, Cond.instanceMethod yX4_isDeep, Cond.selects RX4 yX4_isDeep yX4_isDeep]
def wsX4_edit_r4 : List Cond := [Cond.code yX4_isDeep cX4_isDeep 5 (some .boolean), Cond.fieldLink RX4 32 "RevisionStoresModel" "depths" "[I"]
def wsX4_edit : List Cond := .code yX4_edit cX4_edit 6 (some .int) :: ((wsX4_edit_r1 ++ (wsX4_edit_r2 ++ (wsX4_edit_r3 ++ wsX4_edit_r4))) ++ wsX40)
def wsX4_delete_r1 : List Cond := [Cond.fieldLink RX4 19 "RevisionStoresModel" "deletions" "[Z", Cond.methodLink RX4 87 yX4_isStore, Cond.static yX4_isStore, Cond.initialized RX4, Cond.code yX4_isStore cX4_isStore 1 (some .boolean), Cond.methodLink RX4 48 yX4_in, Cond.static yX4_in, Cond.code yX4_in cX4_in 3 (some .boolean), Cond.methodLink RX4 91 yX4_isDocument, Cond.static yX4_isDocument, Cond.code yX4_isDocument cX4_isDocument 1 (some .boolean), Cond.methodLink RX4 94 yX4_isRevision, Cond.instanceMethod yX4_isRevision, Cond.selects RX4 yX4_isRevision yX4_isRevision, Cond.code yX4_isRevision cX4_isRevision 2 (some .boolean), Cond.fieldLink RX4 52 "RevisionStoresModel" "revisions" "I", Cond.methodLink RX4 97 yX4_canEdit, Cond.instanceMethod yX4_canEdit, Cond.selects RX4 yX4_canEdit yX4_canEdit, Cond.code yX4_canEdit cX4_canEdit 5 (some .boolean), Cond.fieldLink RX4 7 "RevisionStoresModel" "documents" "[I", Cond.methodLink RX4 83 yX4_best, Cond.instanceMethod yX4_best, Cond.selects RX4 yX4_best yX4_best]
def wsX4_delete_r2 : List Cond := [Cond.code yX4_best cX4_best 6 (some .int), Cond.methodLink RX4 62 yX4_leaf, Cond.instanceMethod yX4_leaf, Cond.selects RX4 yX4_leaf yX4_leaf, Cond.code yX4_leaf cX4_leaf 3 (some .boolean), Cond.fieldLink RX4 29 "RevisionStoresModel" "marks" "[Z", Cond.methodLink RX4 59 yX4_hasDescendant, Cond.instanceMethod yX4_hasDescendant, Cond.selects RX4 yX4_hasDescendant yX4_hasDescendant, Cond.code yX4_hasDescendant cX4_hasDescendant 5 (some .boolean), Cond.methodLink RX4 55 yX4_isAncestor, Cond.instanceMethod yX4_isAncestor, Cond.selects RX4 yX4_isAncestor yX4_isAncestor, Cond.code yX4_isAncestor cX4_isAncestor 4 (some .boolean), Cond.fieldLink RX4 13 "RevisionStoresModel" "parents" "[I", Cond.methodLink RX4 65 yX4_isBetter, Cond.instanceMethod yX4_isBetter, Cond.selects RX4 yX4_isBetter yX4_isBetter, Cond.code yX4_isBetter cX4_isBetter 3 (some .boolean), Cond.fieldLink RX4 23 "RevisionStoresModel" "generations" "[I", Cond.fieldLink RX4 26 "RevisionStoresModel" "sums" "[I", Cond.methodLink RX4 100 yX4_goes, Cond.instanceMethod yX4_goes, Cond.selects RX4 yX4_goes yX4_goes]
def wsX4_delete_r3 : List Cond := [Cond.code yX4_goes cX4_goes 4 (some .boolean), Cond.fieldLink RX4 44 "RevisionStoresModel" "last" "I", Cond.methodLink RX4 104 yX4_adds, Cond.instanceMethod yX4_adds, Cond.selects RX4 yX4_adds yX4_adds, Cond.code yX4_adds cX4_adds 7 (some .int), Cond.methodLink RX4 71 yX4_makes, Cond.instanceMethod yX4_makes, Cond.selects RX4 yX4_makes yX4_makes, Cond.code yX4_makes cX4_makes 7 (some .int), Cond.fieldLink RX4 16 "RevisionStoresModel" "values" "[I", Cond.methodLink RX4 75 yX4_touches, Cond.instanceMethod yX4_touches, Cond.selects RX4 yX4_touches yX4_touches, Cond.code yX4_touches cX4_touches 3 none, Cond.fieldLink RX4 35 "RevisionStoresModel" "sequences" "[I", Cond.fieldLink RX4 38 "RevisionStoresModel" "touched" "[I", Cond.methodLink RX4 79 yX4_stems, Cond.instanceMethod yX4_stems, Cond.selects RX4 yX4_stems yX4_stems, Cond.code yX4_stems cX4_stems 4 (some .int), Cond.methodLink RX4 68 yX4_isDeep, Cond.instanceMethod yX4_isDeep, Cond.selects RX4 yX4_isDeep yX4_isDeep]
def wsX4_delete_r4 : List Cond := [Cond.code yX4_isDeep cX4_isDeep 5 (some .boolean), Cond.fieldLink RX4 32 "RevisionStoresModel" "depths" "[I"]
def wsX4_delete : List Cond := .code yX4_delete cX4_delete 5 (some .int) :: ((wsX4_delete_r1 ++ (wsX4_delete_r2 ++ (wsX4_delete_r3 ++ wsX4_delete_r4))) ++ wsX40)
def wsX4_setDepth_r1 : List Cond := [Cond.fieldLink RX4 32 "RevisionStoresModel" "depths" "[I", Cond.methodLink RX4 87 yX4_isStore, Cond.static yX4_isStore, Cond.initialized RX4, Cond.code yX4_isStore cX4_isStore 1 (some .boolean), Cond.methodLink RX4 48 yX4_in, Cond.static yX4_in, Cond.code yX4_in cX4_in 3 (some .boolean), Cond.methodLink RX4 100 yX4_goes, Cond.instanceMethod yX4_goes, Cond.selects RX4 yX4_goes yX4_goes, Cond.code yX4_goes cX4_goes 4 (some .boolean), Cond.fieldLink RX4 44 "RevisionStoresModel" "last" "I", Cond.methodLink RX4 79 yX4_stems, Cond.instanceMethod yX4_stems, Cond.selects RX4 yX4_stems yX4_stems, Cond.code yX4_stems cX4_stems 4 (some .int), Cond.fieldLink RX4 52 "RevisionStoresModel" "revisions" "I", Cond.fieldLink RX4 29 "RevisionStoresModel" "marks" "[Z", Cond.methodLink RX4 68 yX4_isDeep, Cond.instanceMethod yX4_isDeep, Cond.selects RX4 yX4_isDeep yX4_isDeep, Cond.code yX4_isDeep cX4_isDeep 5 (some .boolean), Cond.fieldLink RX4 23 "RevisionStoresModel" "generations" "[I"]
def wsX4_setDepth_r2 : List Cond := [Cond.methodLink RX4 55 yX4_isAncestor, Cond.instanceMethod yX4_isAncestor, Cond.selects RX4 yX4_isAncestor yX4_isAncestor, Cond.code yX4_isAncestor cX4_isAncestor 4 (some .boolean), Cond.fieldLink RX4 13 "RevisionStoresModel" "parents" "[I", Cond.methodLink RX4 62 yX4_leaf, Cond.instanceMethod yX4_leaf, Cond.selects RX4 yX4_leaf yX4_leaf, Cond.code yX4_leaf cX4_leaf 3 (some .boolean), Cond.methodLink RX4 59 yX4_hasDescendant, Cond.instanceMethod yX4_hasDescendant, Cond.selects RX4 yX4_hasDescendant yX4_hasDescendant, Cond.code yX4_hasDescendant cX4_hasDescendant 5 (some .boolean)]
def wsX4_setDepth : List Cond := .code yX4_setDepth cX4_setDepth 3 (some .int) :: ((wsX4_setDepth_r1 ++ wsX4_setDepth_r2) ++ wsX40)
def wsX4_wipe : List Cond := .code yX4_wipe cX4_wipe 4 (some .int) :: ([.fieldLink RX4 29 "RevisionStoresModel" "marks" "[Z", .fieldLink RX4 41 "RevisionStoresModel" "kept" "[I", .fieldLink RX4 38 "RevisionStoresModel" "touched" "[I", .fieldLink RX4 35 "RevisionStoresModel" "sequences" "[I", .methodLink RX4 87 yX4_isStore, .static yX4_isStore, .initialized RX4, .code yX4_isStore cX4_isStore 1 (some .boolean), .methodLink RX4 48 yX4_in, .static yX4_in, .code yX4_in cX4_in 3 (some .boolean), .methodLink RX4 100 yX4_goes, .instanceMethod yX4_goes, .selects RX4 yX4_goes yX4_goes, .code yX4_goes cX4_goes 4 (some .boolean), .fieldLink RX4 44 "RevisionStoresModel" "last" "I"] ++ wsX40)
def wsX4_begins : List Cond := .code yX4_begins cX4_begins 5 (some .int) :: ([.fieldLink RX4 41 "RevisionStoresModel" "kept" "[I"] ++ wsX40)
def wsX4_nextOf : List Cond := .code yX4_nextOf cX4_nextOf 6 (some .int) :: ([.fieldLink RX4 38 "RevisionStoresModel" "touched" "[I"] ++ wsX40)
def wsX4_gets_r1 : List Cond := [Cond.fieldLink RX4 52 "RevisionStoresModel" "revisions" "I", Cond.fieldLink RX4 7 "RevisionStoresModel" "documents" "[I", Cond.fieldLink RX4 29 "RevisionStoresModel" "marks" "[Z", Cond.fieldLink RX4 13 "RevisionStoresModel" "parents" "[I", Cond.methodLink RX4 62 yX4_leaf, Cond.instanceMethod yX4_leaf, Cond.selects RX4 yX4_leaf yX4_leaf, Cond.initialized RX4, Cond.code yX4_leaf cX4_leaf 3 (some .boolean), Cond.methodLink RX4 59 yX4_hasDescendant, Cond.instanceMethod yX4_hasDescendant, Cond.selects RX4 yX4_hasDescendant yX4_hasDescendant, Cond.code yX4_hasDescendant cX4_hasDescendant 5 (some .boolean), Cond.methodLink RX4 55 yX4_isAncestor, Cond.instanceMethod yX4_isAncestor, Cond.selects RX4 yX4_isAncestor yX4_isAncestor, Cond.code yX4_isAncestor cX4_isAncestor 4 (some .boolean), Cond.methodLink RX4 75 yX4_touches, Cond.instanceMethod yX4_touches, Cond.selects RX4 yX4_touches yX4_touches, Cond.code yX4_touches cX4_touches 3 none, Cond.fieldLink RX4 35 "RevisionStoresModel" "sequences" "[I", Cond.fieldLink RX4 38 "RevisionStoresModel" "touched" "[I", Cond.methodLink RX4 79 yX4_stems]
def wsX4_gets_r2 : List Cond := [Cond.instanceMethod yX4_stems, Cond.selects RX4 yX4_stems yX4_stems, Cond.code yX4_stems cX4_stems 4 (some .int), Cond.methodLink RX4 68 yX4_isDeep, Cond.instanceMethod yX4_isDeep, Cond.selects RX4 yX4_isDeep yX4_isDeep, Cond.code yX4_isDeep cX4_isDeep 5 (some .boolean), Cond.fieldLink RX4 23 "RevisionStoresModel" "generations" "[I", Cond.fieldLink RX4 32 "RevisionStoresModel" "depths" "[I"]
def wsX4_gets : List Cond := .code yX4_gets cX4_gets 9 (some .int) :: ((wsX4_gets_r1 ++ wsX4_gets_r2) ++ wsX40)
def wsX4_replicate_r1 : List Cond := [Cond.fieldLink RX4 38 "RevisionStoresModel" "touched" "[I", Cond.fieldLink RX4 35 "RevisionStoresModel" "sequences" "[I", Cond.fieldLink RX4 41 "RevisionStoresModel" "kept" "[I", Cond.methodLink RX4 87 yX4_isStore, Cond.static yX4_isStore, Cond.initialized RX4, Cond.code yX4_isStore cX4_isStore 1 (some .boolean), Cond.methodLink RX4 48 yX4_in, Cond.static yX4_in, Cond.code yX4_in cX4_in 3 (some .boolean), Cond.methodLink RX4 100 yX4_goes, Cond.instanceMethod yX4_goes, Cond.selects RX4 yX4_goes yX4_goes, Cond.code yX4_goes cX4_goes 4 (some .boolean), Cond.fieldLink RX4 44 "RevisionStoresModel" "last" "I", Cond.methodLink RX4 108 yX4_begins, Cond.instanceMethod yX4_begins, Cond.selects RX4 yX4_begins yX4_begins, Cond.code yX4_begins cX4_begins 5 (some .int), Cond.methodLink RX4 111 yX4_nextOf, Cond.instanceMethod yX4_nextOf, Cond.selects RX4 yX4_nextOf yX4_nextOf, Cond.code yX4_nextOf cX4_nextOf 6 (some .int), Cond.methodLink RX4 114 yX4_gets]
def wsX4_replicate_r2 : List Cond := [Cond.instanceMethod yX4_gets, Cond.selects RX4 yX4_gets yX4_gets, Cond.code yX4_gets cX4_gets 9 (some .int), Cond.fieldLink RX4 52 "RevisionStoresModel" "revisions" "I", Cond.fieldLink RX4 7 "RevisionStoresModel" "documents" "[I", Cond.fieldLink RX4 29 "RevisionStoresModel" "marks" "[Z", Cond.fieldLink RX4 13 "RevisionStoresModel" "parents" "[I", Cond.methodLink RX4 62 yX4_leaf, Cond.instanceMethod yX4_leaf, Cond.selects RX4 yX4_leaf yX4_leaf, Cond.code yX4_leaf cX4_leaf 3 (some .boolean), Cond.methodLink RX4 59 yX4_hasDescendant, Cond.instanceMethod yX4_hasDescendant, Cond.selects RX4 yX4_hasDescendant yX4_hasDescendant, Cond.code yX4_hasDescendant cX4_hasDescendant 5 (some .boolean), Cond.methodLink RX4 55 yX4_isAncestor, Cond.instanceMethod yX4_isAncestor, Cond.selects RX4 yX4_isAncestor yX4_isAncestor, Cond.code yX4_isAncestor cX4_isAncestor 4 (some .boolean), Cond.methodLink RX4 75 yX4_touches, Cond.instanceMethod yX4_touches, Cond.selects RX4 yX4_touches yX4_touches, Cond.code yX4_touches cX4_touches 3 none, Cond.methodLink RX4 79 yX4_stems]
def wsX4_replicate_r3 : List Cond := [Cond.instanceMethod yX4_stems, Cond.selects RX4 yX4_stems yX4_stems, Cond.code yX4_stems cX4_stems 4 (some .int), Cond.methodLink RX4 68 yX4_isDeep, Cond.instanceMethod yX4_isDeep, Cond.selects RX4 yX4_isDeep yX4_isDeep, Cond.code yX4_isDeep cX4_isDeep 5 (some .boolean), Cond.fieldLink RX4 23 "RevisionStoresModel" "generations" "[I", Cond.fieldLink RX4 32 "RevisionStoresModel" "depths" "[I"]
def wsX4_replicate : List Cond := .code yX4_replicate cX4_replicate 8 (some .int) :: ((wsX4_replicate_r1 ++ (wsX4_replicate_r2 ++ wsX4_replicate_r3)) ++ wsX40)
def wsX4_pending : List Cond := .code yX4_pending cX4_pending 5 (some .int) :: ([.fieldLink RX4 38 "RevisionStoresModel" "touched" "[I", .methodLink RX4 87 yX4_isStore, .static yX4_isStore, .initialized RX4, .code yX4_isStore cX4_isStore 1 (some .boolean), .methodLink RX4 48 yX4_in, .static yX4_in, .code yX4_in cX4_in 3 (some .boolean), .methodLink RX4 100 yX4_goes, .instanceMethod yX4_goes, .selects RX4 yX4_goes yX4_goes, .code yX4_goes cX4_goes 4 (some .boolean), .fieldLink RX4 44 "RevisionStoresModel" "last" "I", .methodLink RX4 108 yX4_begins, .instanceMethod yX4_begins, .selects RX4 yX4_begins yX4_begins, .code yX4_begins cX4_begins 5 (some .int), .fieldLink RX4 41 "RevisionStoresModel" "kept" "[I"] ++ wsX40)
def wsX4_checkpoint : List Cond := .code yX4_checkpoint cX4_checkpoint 3 (some .int) :: ([.methodLink RX4 87 yX4_isStore, .static yX4_isStore, .initialized RX4, .code yX4_isStore cX4_isStore 1 (some .boolean), .methodLink RX4 48 yX4_in, .static yX4_in, .code yX4_in cX4_in 3 (some .boolean), .methodLink RX4 100 yX4_goes, .instanceMethod yX4_goes, .selects RX4 yX4_goes yX4_goes, .code yX4_goes cX4_goes 4 (some .boolean), .fieldLink RX4 44 "RevisionStoresModel" "last" "I", .methodLink RX4 108 yX4_begins, .instanceMethod yX4_begins, .selects RX4 yX4_begins yX4_begins, .code yX4_begins cX4_begins 5 (some .int), .fieldLink RX4 41 "RevisionStoresModel" "kept" "[I"] ++ wsX40)
def wsX4_revisions : List Cond := .code yX4_revisions cX4_revisions 1 (some .int) :: ([.fieldLink RX4 44 "RevisionStoresModel" "last" "I", .fieldLink RX4 52 "RevisionStoresModel" "revisions" "I"] ++ wsX40)
def wsX4_documentOf : List Cond := .code yX4_documentOf cX4_documentOf 2 (some .int) :: ([.fieldLink RX4 7 "RevisionStoresModel" "documents" "[I", .methodLink RX4 94 yX4_isRevision, .instanceMethod yX4_isRevision, .selects RX4 yX4_isRevision yX4_isRevision, .initialized RX4, .code yX4_isRevision cX4_isRevision 2 (some .boolean), .fieldLink RX4 52 "RevisionStoresModel" "revisions" "I", .methodLink RX4 48 yX4_in, .static yX4_in, .code yX4_in cX4_in 3 (some .boolean), .methodLink RX4 100 yX4_goes, .instanceMethod yX4_goes, .selects RX4 yX4_goes yX4_goes, .code yX4_goes cX4_goes 4 (some .boolean), .fieldLink RX4 44 "RevisionStoresModel" "last" "I"] ++ wsX40)
def wsX4_parentOf : List Cond := .code yX4_parentOf cX4_parentOf 2 (some .int) :: ([.fieldLink RX4 13 "RevisionStoresModel" "parents" "[I", .methodLink RX4 94 yX4_isRevision, .instanceMethod yX4_isRevision, .selects RX4 yX4_isRevision yX4_isRevision, .initialized RX4, .code yX4_isRevision cX4_isRevision 2 (some .boolean), .fieldLink RX4 52 "RevisionStoresModel" "revisions" "I", .methodLink RX4 48 yX4_in, .static yX4_in, .code yX4_in cX4_in 3 (some .boolean), .methodLink RX4 100 yX4_goes, .instanceMethod yX4_goes, .selects RX4 yX4_goes yX4_goes, .code yX4_goes cX4_goes 4 (some .boolean), .fieldLink RX4 44 "RevisionStoresModel" "last" "I"] ++ wsX40)
def wsX4_generation : List Cond := .code yX4_generation cX4_generation 2 (some .int) :: ([.fieldLink RX4 23 "RevisionStoresModel" "generations" "[I", .methodLink RX4 94 yX4_isRevision, .instanceMethod yX4_isRevision, .selects RX4 yX4_isRevision yX4_isRevision, .initialized RX4, .code yX4_isRevision cX4_isRevision 2 (some .boolean), .fieldLink RX4 52 "RevisionStoresModel" "revisions" "I", .methodLink RX4 48 yX4_in, .static yX4_in, .code yX4_in cX4_in 3 (some .boolean), .methodLink RX4 100 yX4_goes, .instanceMethod yX4_goes, .selects RX4 yX4_goes yX4_goes, .code yX4_goes cX4_goes 4 (some .boolean), .fieldLink RX4 44 "RevisionStoresModel" "last" "I"] ++ wsX40)
def wsX4_sum : List Cond := .code yX4_sum cX4_sum 2 (some .int) :: ([.fieldLink RX4 26 "RevisionStoresModel" "sums" "[I", .methodLink RX4 94 yX4_isRevision, .instanceMethod yX4_isRevision, .selects RX4 yX4_isRevision yX4_isRevision, .initialized RX4, .code yX4_isRevision cX4_isRevision 2 (some .boolean), .fieldLink RX4 52 "RevisionStoresModel" "revisions" "I", .methodLink RX4 48 yX4_in, .static yX4_in, .code yX4_in cX4_in 3 (some .boolean), .methodLink RX4 100 yX4_goes, .instanceMethod yX4_goes, .selects RX4 yX4_goes yX4_goes, .code yX4_goes cX4_goes 4 (some .boolean), .fieldLink RX4 44 "RevisionStoresModel" "last" "I"] ++ wsX40)
def wsX4_valueOf : List Cond := .code yX4_valueOf cX4_valueOf 2 (some .int) :: ([.fieldLink RX4 19 "RevisionStoresModel" "deletions" "[Z", .fieldLink RX4 16 "RevisionStoresModel" "values" "[I", .methodLink RX4 94 yX4_isRevision, .instanceMethod yX4_isRevision, .selects RX4 yX4_isRevision yX4_isRevision, .initialized RX4, .code yX4_isRevision cX4_isRevision 2 (some .boolean), .fieldLink RX4 52 "RevisionStoresModel" "revisions" "I", .methodLink RX4 48 yX4_in, .static yX4_in, .code yX4_in cX4_in 3 (some .boolean), .methodLink RX4 100 yX4_goes, .instanceMethod yX4_goes, .selects RX4 yX4_goes yX4_goes, .code yX4_goes cX4_goes 4 (some .boolean), .fieldLink RX4 44 "RevisionStoresModel" "last" "I"] ++ wsX40)
def wsX4_sequence : List Cond := .code yX4_sequence cX4_sequence 2 (some .int) :: ([.fieldLink RX4 35 "RevisionStoresModel" "sequences" "[I", .methodLink RX4 87 yX4_isStore, .static yX4_isStore, .initialized RX4, .code yX4_isStore cX4_isStore 1 (some .boolean), .methodLink RX4 48 yX4_in, .static yX4_in, .code yX4_in cX4_in 3 (some .boolean), .methodLink RX4 100 yX4_goes, .instanceMethod yX4_goes, .selects RX4 yX4_goes yX4_goes, .code yX4_goes cX4_goes 4 (some .boolean), .fieldLink RX4 44 "RevisionStoresModel" "last" "I"] ++ wsX40)
def wsX4_has : List Cond := .code yX4_has cX4_has 3 (some .boolean) :: ([.fieldLink RX4 29 "RevisionStoresModel" "marks" "[Z", .methodLink RX4 87 yX4_isStore, .static yX4_isStore, .initialized RX4, .code yX4_isStore cX4_isStore 1 (some .boolean), .methodLink RX4 48 yX4_in, .static yX4_in, .code yX4_in cX4_in 3 (some .boolean), .methodLink RX4 94 yX4_isRevision, .instanceMethod yX4_isRevision, .selects RX4 yX4_isRevision yX4_isRevision, .code yX4_isRevision cX4_isRevision 2 (some .boolean), .fieldLink RX4 52 "RevisionStoresModel" "revisions" "I", .methodLink RX4 100 yX4_goes, .instanceMethod yX4_goes, .selects RX4 yX4_goes yX4_goes, .code yX4_goes cX4_goes 4 (some .boolean), .fieldLink RX4 44 "RevisionStoresModel" "last" "I"] ++ wsX40)
def wsX4_isLeaf_r1 : List Cond := [Cond.methodLink RX4 87 yX4_isStore, Cond.static yX4_isStore, Cond.initialized RX4, Cond.code yX4_isStore cX4_isStore 1 (some .boolean), Cond.methodLink RX4 48 yX4_in, Cond.static yX4_in, Cond.code yX4_in cX4_in 3 (some .boolean), Cond.methodLink RX4 94 yX4_isRevision, Cond.instanceMethod yX4_isRevision, Cond.selects RX4 yX4_isRevision yX4_isRevision, Cond.code yX4_isRevision cX4_isRevision 2 (some .boolean), Cond.fieldLink RX4 52 "RevisionStoresModel" "revisions" "I", Cond.methodLink RX4 100 yX4_goes, Cond.instanceMethod yX4_goes, Cond.selects RX4 yX4_goes yX4_goes, Cond.code yX4_goes cX4_goes 4 (some .boolean), Cond.fieldLink RX4 44 "RevisionStoresModel" "last" "I", Cond.methodLink RX4 62 yX4_leaf, Cond.instanceMethod yX4_leaf, Cond.selects RX4 yX4_leaf yX4_leaf, Cond.code yX4_leaf cX4_leaf 3 (some .boolean), Cond.fieldLink RX4 29 "RevisionStoresModel" "marks" "[Z", Cond.methodLink RX4 59 yX4_hasDescendant, Cond.instanceMethod yX4_hasDescendant]
def wsX4_isLeaf_r2 : List Cond := [Cond.selects RX4 yX4_hasDescendant yX4_hasDescendant, Cond.code yX4_hasDescendant cX4_hasDescendant 5 (some .boolean), Cond.methodLink RX4 55 yX4_isAncestor, Cond.instanceMethod yX4_isAncestor, Cond.selects RX4 yX4_isAncestor yX4_isAncestor, Cond.code yX4_isAncestor cX4_isAncestor 4 (some .boolean), Cond.fieldLink RX4 13 "RevisionStoresModel" "parents" "[I"]
def wsX4_isLeaf : List Cond := .code yX4_isLeaf cX4_isLeaf 3 (some .boolean) :: ((wsX4_isLeaf_r1 ++ wsX4_isLeaf_r2) ++ wsX40)
def wsX4_size : List Cond := .code yX4_size cX4_size 5 (some .int) :: ([.fieldLink RX4 52 "RevisionStoresModel" "revisions" "I", .fieldLink RX4 29 "RevisionStoresModel" "marks" "[Z", .methodLink RX4 87 yX4_isStore, .static yX4_isStore, .initialized RX4, .code yX4_isStore cX4_isStore 1 (some .boolean), .methodLink RX4 48 yX4_in, .static yX4_in, .code yX4_in cX4_in 3 (some .boolean), .methodLink RX4 100 yX4_goes, .instanceMethod yX4_goes, .selects RX4 yX4_goes yX4_goes, .code yX4_goes cX4_goes 4 (some .boolean), .fieldLink RX4 44 "RevisionStoresModel" "last" "I"] ++ wsX40)
def wsX4_winner_r1 : List Cond := [Cond.methodLink RX4 87 yX4_isStore, Cond.static yX4_isStore, Cond.initialized RX4, Cond.code yX4_isStore cX4_isStore 1 (some .boolean), Cond.methodLink RX4 48 yX4_in, Cond.static yX4_in, Cond.code yX4_in cX4_in 3 (some .boolean), Cond.methodLink RX4 91 yX4_isDocument, Cond.static yX4_isDocument, Cond.code yX4_isDocument cX4_isDocument 1 (some .boolean), Cond.methodLink RX4 100 yX4_goes, Cond.instanceMethod yX4_goes, Cond.selects RX4 yX4_goes yX4_goes, Cond.code yX4_goes cX4_goes 4 (some .boolean), Cond.fieldLink RX4 44 "RevisionStoresModel" "last" "I", Cond.methodLink RX4 83 yX4_best, Cond.instanceMethod yX4_best, Cond.selects RX4 yX4_best yX4_best, Cond.code yX4_best cX4_best 6 (some .int), Cond.fieldLink RX4 52 "RevisionStoresModel" "revisions" "I", Cond.fieldLink RX4 7 "RevisionStoresModel" "documents" "[I", Cond.methodLink RX4 62 yX4_leaf, Cond.instanceMethod yX4_leaf, Cond.selects RX4 yX4_leaf yX4_leaf]
def wsX4_winner_r2 : List Cond := [Cond.code yX4_leaf cX4_leaf 3 (some .boolean), Cond.fieldLink RX4 29 "RevisionStoresModel" "marks" "[Z", Cond.methodLink RX4 59 yX4_hasDescendant, Cond.instanceMethod yX4_hasDescendant, Cond.selects RX4 yX4_hasDescendant yX4_hasDescendant, Cond.code yX4_hasDescendant cX4_hasDescendant 5 (some .boolean), Cond.methodLink RX4 55 yX4_isAncestor, Cond.instanceMethod yX4_isAncestor, Cond.selects RX4 yX4_isAncestor yX4_isAncestor, Cond.code yX4_isAncestor cX4_isAncestor 4 (some .boolean), Cond.fieldLink RX4 13 "RevisionStoresModel" "parents" "[I", Cond.methodLink RX4 65 yX4_isBetter, Cond.instanceMethod yX4_isBetter, Cond.selects RX4 yX4_isBetter yX4_isBetter, Cond.code yX4_isBetter cX4_isBetter 3 (some .boolean), Cond.fieldLink RX4 19 "RevisionStoresModel" "deletions" "[Z", Cond.fieldLink RX4 23 "RevisionStoresModel" "generations" "[I", Cond.fieldLink RX4 26 "RevisionStoresModel" "sums" "[I"]
def wsX4_winner : List Cond := .code yX4_winner cX4_winner 3 (some .int) :: ((wsX4_winner_r1 ++ wsX4_winner_r2) ++ wsX40)
def wsX4_isAnywhere : List Cond := .code yX4_isAnywhere cX4_isAnywhere 2 (some .boolean) :: ([.fieldLink RX4 29 "RevisionStoresModel" "marks" "[Z"] ++ wsX40)
def wsX4_winnerOfAll_r1 : List Cond := [Cond.fieldLink RX4 52 "RevisionStoresModel" "revisions" "I", Cond.fieldLink RX4 7 "RevisionStoresModel" "documents" "[I", Cond.methodLink RX4 91 yX4_isDocument, Cond.static yX4_isDocument, Cond.initialized RX4, Cond.code yX4_isDocument cX4_isDocument 1 (some .boolean), Cond.methodLink RX4 48 yX4_in, Cond.static yX4_in, Cond.code yX4_in cX4_in 3 (some .boolean), Cond.methodLink RX4 100 yX4_goes, Cond.instanceMethod yX4_goes, Cond.selects RX4 yX4_goes yX4_goes, Cond.code yX4_goes cX4_goes 4 (some .boolean), Cond.fieldLink RX4 44 "RevisionStoresModel" "last" "I", Cond.methodLink RX4 59 yX4_hasDescendant, Cond.instanceMethod yX4_hasDescendant, Cond.selects RX4 yX4_hasDescendant yX4_hasDescendant, Cond.code yX4_hasDescendant cX4_hasDescendant 5 (some .boolean), Cond.fieldLink RX4 29 "RevisionStoresModel" "marks" "[Z", Cond.methodLink RX4 55 yX4_isAncestor, Cond.instanceMethod yX4_isAncestor, Cond.selects RX4 yX4_isAncestor yX4_isAncestor, Cond.code yX4_isAncestor cX4_isAncestor 4 (some .boolean), Cond.fieldLink RX4 13 "RevisionStoresModel" "parents" "[I"]
def wsX4_winnerOfAll_r2 : List Cond := [Cond.methodLink RX4 118 yX4_isAnywhere, Cond.instanceMethod yX4_isAnywhere, Cond.selects RX4 yX4_isAnywhere yX4_isAnywhere, Cond.code yX4_isAnywhere cX4_isAnywhere 2 (some .boolean), Cond.methodLink RX4 65 yX4_isBetter, Cond.instanceMethod yX4_isBetter, Cond.selects RX4 yX4_isBetter yX4_isBetter, Cond.code yX4_isBetter cX4_isBetter 3 (some .boolean), Cond.fieldLink RX4 19 "RevisionStoresModel" "deletions" "[Z", Cond.fieldLink RX4 23 "RevisionStoresModel" "generations" "[I", Cond.fieldLink RX4 26 "RevisionStoresModel" "sums" "[I"]
def wsX4_winnerOfAll : List Cond := .code yX4_winnerOfAll cX4_winnerOfAll 6 (some .int) :: ((wsX4_winnerOfAll_r1 ++ wsX4_winnerOfAll_r2) ++ wsX40)
def wsX4_conflicts_r1 : List Cond := [Cond.fieldLink RX4 52 "RevisionStoresModel" "revisions" "I", Cond.fieldLink RX4 7 "RevisionStoresModel" "documents" "[I", Cond.fieldLink RX4 19 "RevisionStoresModel" "deletions" "[Z", Cond.methodLink RX4 87 yX4_isStore, Cond.static yX4_isStore, Cond.initialized RX4, Cond.code yX4_isStore cX4_isStore 1 (some .boolean), Cond.methodLink RX4 48 yX4_in, Cond.static yX4_in, Cond.code yX4_in cX4_in 3 (some .boolean), Cond.methodLink RX4 91 yX4_isDocument, Cond.static yX4_isDocument, Cond.code yX4_isDocument cX4_isDocument 1 (some .boolean), Cond.methodLink RX4 100 yX4_goes, Cond.instanceMethod yX4_goes, Cond.selects RX4 yX4_goes yX4_goes, Cond.code yX4_goes cX4_goes 4 (some .boolean), Cond.fieldLink RX4 44 "RevisionStoresModel" "last" "I", Cond.methodLink RX4 62 yX4_leaf, Cond.instanceMethod yX4_leaf, Cond.selects RX4 yX4_leaf yX4_leaf, Cond.code yX4_leaf cX4_leaf 3 (some .boolean), Cond.fieldLink RX4 29 "RevisionStoresModel" "marks" "[Z", Cond.methodLink RX4 59 yX4_hasDescendant]
def wsX4_conflicts_r2 : List Cond := [Cond.instanceMethod yX4_hasDescendant, Cond.selects RX4 yX4_hasDescendant yX4_hasDescendant, Cond.code yX4_hasDescendant cX4_hasDescendant 5 (some .boolean), Cond.methodLink RX4 55 yX4_isAncestor, Cond.instanceMethod yX4_isAncestor, Cond.selects RX4 yX4_isAncestor yX4_isAncestor, Cond.code yX4_isAncestor cX4_isAncestor 4 (some .boolean), Cond.fieldLink RX4 13 "RevisionStoresModel" "parents" "[I"]
def wsX4_conflicts : List Cond := .code yX4_conflicts cX4_conflicts 5 (some .int) :: ((wsX4_conflicts_r1 ++ wsX4_conflicts_r2) ++ wsX40)
def wsX4_shown_r1 : List Cond := [Cond.fieldLink RX4 19 "RevisionStoresModel" "deletions" "[Z", Cond.fieldLink RX4 16 "RevisionStoresModel" "values" "[I", Cond.methodLink RX4 83 yX4_best, Cond.instanceMethod yX4_best, Cond.selects RX4 yX4_best yX4_best, Cond.initialized RX4, Cond.code yX4_best cX4_best 6 (some .int), Cond.fieldLink RX4 52 "RevisionStoresModel" "revisions" "I", Cond.fieldLink RX4 7 "RevisionStoresModel" "documents" "[I", Cond.methodLink RX4 62 yX4_leaf, Cond.instanceMethod yX4_leaf, Cond.selects RX4 yX4_leaf yX4_leaf, Cond.code yX4_leaf cX4_leaf 3 (some .boolean), Cond.fieldLink RX4 29 "RevisionStoresModel" "marks" "[Z", Cond.methodLink RX4 59 yX4_hasDescendant, Cond.instanceMethod yX4_hasDescendant, Cond.selects RX4 yX4_hasDescendant yX4_hasDescendant, Cond.code yX4_hasDescendant cX4_hasDescendant 5 (some .boolean), Cond.methodLink RX4 55 yX4_isAncestor, Cond.instanceMethod yX4_isAncestor, Cond.selects RX4 yX4_isAncestor yX4_isAncestor, Cond.code yX4_isAncestor cX4_isAncestor 4 (some .boolean), Cond.fieldLink RX4 13 "RevisionStoresModel" "parents" "[I", Cond.methodLink RX4 65 yX4_isBetter]
def wsX4_shown_r2 : List Cond := [Cond.instanceMethod yX4_isBetter, Cond.selects RX4 yX4_isBetter yX4_isBetter, Cond.code yX4_isBetter cX4_isBetter 3 (some .boolean), Cond.fieldLink RX4 23 "RevisionStoresModel" "generations" "[I", Cond.fieldLink RX4 26 "RevisionStoresModel" "sums" "[I"]
def wsX4_shown : List Cond := .code yX4_shown cX4_shown 4 (some .int) :: ((wsX4_shown_r1 ++ wsX4_shown_r2) ++ wsX40)
def wsX4_count_r1 : List Cond := [Cond.methodLink RX4 87 yX4_isStore, Cond.static yX4_isStore, Cond.initialized RX4, Cond.code yX4_isStore cX4_isStore 1 (some .boolean), Cond.methodLink RX4 48 yX4_in, Cond.static yX4_in, Cond.code yX4_in cX4_in 3 (some .boolean), Cond.methodLink RX4 100 yX4_goes, Cond.instanceMethod yX4_goes, Cond.selects RX4 yX4_goes yX4_goes, Cond.code yX4_goes cX4_goes 4 (some .boolean), Cond.fieldLink RX4 44 "RevisionStoresModel" "last" "I", Cond.methodLink RX4 121 yX4_shown, Cond.instanceMethod yX4_shown, Cond.selects RX4 yX4_shown yX4_shown, Cond.code yX4_shown cX4_shown 4 (some .int), Cond.fieldLink RX4 19 "RevisionStoresModel" "deletions" "[Z", Cond.fieldLink RX4 16 "RevisionStoresModel" "values" "[I", Cond.methodLink RX4 83 yX4_best, Cond.instanceMethod yX4_best, Cond.selects RX4 yX4_best yX4_best, Cond.code yX4_best cX4_best 6 (some .int), Cond.fieldLink RX4 52 "RevisionStoresModel" "revisions" "I", Cond.fieldLink RX4 7 "RevisionStoresModel" "documents" "[I"]
def wsX4_count_r2 : List Cond := [Cond.methodLink RX4 62 yX4_leaf, Cond.instanceMethod yX4_leaf, Cond.selects RX4 yX4_leaf yX4_leaf, Cond.code yX4_leaf cX4_leaf 3 (some .boolean), Cond.fieldLink RX4 29 "RevisionStoresModel" "marks" "[Z", Cond.methodLink RX4 59 yX4_hasDescendant, Cond.instanceMethod yX4_hasDescendant, Cond.selects RX4 yX4_hasDescendant yX4_hasDescendant, Cond.code yX4_hasDescendant cX4_hasDescendant 5 (some .boolean), Cond.methodLink RX4 55 yX4_isAncestor, Cond.instanceMethod yX4_isAncestor, Cond.selects RX4 yX4_isAncestor yX4_isAncestor, Cond.code yX4_isAncestor cX4_isAncestor 4 (some .boolean), Cond.fieldLink RX4 13 "RevisionStoresModel" "parents" "[I", Cond.methodLink RX4 65 yX4_isBetter, Cond.instanceMethod yX4_isBetter, Cond.selects RX4 yX4_isBetter yX4_isBetter, Cond.code yX4_isBetter cX4_isBetter 3 (some .boolean), Cond.fieldLink RX4 23 "RevisionStoresModel" "generations" "[I", Cond.fieldLink RX4 26 "RevisionStoresModel" "sums" "[I"]
def wsX4_count : List Cond := .code yX4_count cX4_count 8 (some .int) :: ((wsX4_count_r1 ++ wsX4_count_r2) ++ wsX40)
def wsX4_placed_r1 : List Cond := [Cond.methodLink RX4 121 yX4_shown, Cond.instanceMethod yX4_shown, Cond.selects RX4 yX4_shown yX4_shown, Cond.initialized RX4, Cond.code yX4_shown cX4_shown 4 (some .int), Cond.fieldLink RX4 19 "RevisionStoresModel" "deletions" "[Z", Cond.fieldLink RX4 16 "RevisionStoresModel" "values" "[I", Cond.methodLink RX4 83 yX4_best, Cond.instanceMethod yX4_best, Cond.selects RX4 yX4_best yX4_best, Cond.code yX4_best cX4_best 6 (some .int), Cond.fieldLink RX4 52 "RevisionStoresModel" "revisions" "I", Cond.fieldLink RX4 7 "RevisionStoresModel" "documents" "[I", Cond.methodLink RX4 62 yX4_leaf, Cond.instanceMethod yX4_leaf, Cond.selects RX4 yX4_leaf yX4_leaf, Cond.code yX4_leaf cX4_leaf 3 (some .boolean), Cond.fieldLink RX4 29 "RevisionStoresModel" "marks" "[Z", Cond.methodLink RX4 59 yX4_hasDescendant, Cond.instanceMethod yX4_hasDescendant, Cond.selects RX4 yX4_hasDescendant yX4_hasDescendant, Cond.code yX4_hasDescendant cX4_hasDescendant 5 (some .boolean), Cond.methodLink RX4 55 yX4_isAncestor, Cond.instanceMethod yX4_isAncestor]
def wsX4_placed_r2 : List Cond := [Cond.selects RX4 yX4_isAncestor yX4_isAncestor, Cond.code yX4_isAncestor cX4_isAncestor 4 (some .boolean), Cond.fieldLink RX4 13 "RevisionStoresModel" "parents" "[I", Cond.methodLink RX4 65 yX4_isBetter, Cond.instanceMethod yX4_isBetter, Cond.selects RX4 yX4_isBetter yX4_isBetter, Cond.code yX4_isBetter cX4_isBetter 3 (some .boolean), Cond.fieldLink RX4 23 "RevisionStoresModel" "generations" "[I", Cond.fieldLink RX4 26 "RevisionStoresModel" "sums" "[I"]
def wsX4_placed : List Cond := .code yX4_placed cX4_placed 7 (some .int) :: ((wsX4_placed_r1 ++ wsX4_placed_r2) ++ wsX40)
def wsX4_viewAt_r1 : List Cond := [Cond.methodLink RX4 87 yX4_isStore, Cond.static yX4_isStore, Cond.initialized RX4, Cond.code yX4_isStore cX4_isStore 1 (some .boolean), Cond.methodLink RX4 48 yX4_in, Cond.static yX4_in, Cond.code yX4_in cX4_in 3 (some .boolean), Cond.methodLink RX4 124 yX4_placed, Cond.instanceMethod yX4_placed, Cond.selects RX4 yX4_placed yX4_placed, Cond.code yX4_placed cX4_placed 7 (some .int), Cond.methodLink RX4 121 yX4_shown, Cond.instanceMethod yX4_shown, Cond.selects RX4 yX4_shown yX4_shown, Cond.code yX4_shown cX4_shown 4 (some .int), Cond.fieldLink RX4 19 "RevisionStoresModel" "deletions" "[Z", Cond.fieldLink RX4 16 "RevisionStoresModel" "values" "[I", Cond.methodLink RX4 83 yX4_best, Cond.instanceMethod yX4_best, Cond.selects RX4 yX4_best yX4_best, Cond.code yX4_best cX4_best 6 (some .int), Cond.fieldLink RX4 52 "RevisionStoresModel" "revisions" "I", Cond.fieldLink RX4 7 "RevisionStoresModel" "documents" "[I", Cond.methodLink RX4 62 yX4_leaf]
def wsX4_viewAt_r2 : List Cond := [Cond.instanceMethod yX4_leaf, Cond.selects RX4 yX4_leaf yX4_leaf, Cond.code yX4_leaf cX4_leaf 3 (some .boolean), Cond.fieldLink RX4 29 "RevisionStoresModel" "marks" "[Z", Cond.methodLink RX4 59 yX4_hasDescendant, Cond.instanceMethod yX4_hasDescendant, Cond.selects RX4 yX4_hasDescendant yX4_hasDescendant, Cond.code yX4_hasDescendant cX4_hasDescendant 5 (some .boolean), Cond.methodLink RX4 55 yX4_isAncestor, Cond.instanceMethod yX4_isAncestor, Cond.selects RX4 yX4_isAncestor yX4_isAncestor, Cond.code yX4_isAncestor cX4_isAncestor 4 (some .boolean), Cond.fieldLink RX4 13 "RevisionStoresModel" "parents" "[I", Cond.methodLink RX4 65 yX4_isBetter, Cond.instanceMethod yX4_isBetter, Cond.selects RX4 yX4_isBetter yX4_isBetter, Cond.code yX4_isBetter cX4_isBetter 3 (some .boolean), Cond.fieldLink RX4 23 "RevisionStoresModel" "generations" "[I", Cond.fieldLink RX4 26 "RevisionStoresModel" "sums" "[I", Cond.methodLink RX4 100 yX4_goes, Cond.instanceMethod yX4_goes, Cond.selects RX4 yX4_goes yX4_goes, Cond.code yX4_goes cX4_goes 4 (some .boolean), Cond.fieldLink RX4 44 "RevisionStoresModel" "last" "I"]
def wsX4_viewAt : List Cond := .code yX4_viewAt cX4_viewAt 4 (some .int) :: ((wsX4_viewAt_r1 ++ wsX4_viewAt_r2) ++ wsX40)
def wsJ9_max_7cf53 : List Cond := .code yJ9_max_7cf53 cJ9_max_7cf53 2 (some .int) :: ([])
def wsJ9_min_7cf53 : List Cond := .code yJ9_min_7cf53 cJ9_min_7cf53 2 (some .int) :: ([])
def wsL_edit_r1 : List Cond := [Cond.classLink RL 13 "java/lang/IndexOutOfBoundsException", Cond.classLink RL 15 "java/lang/IllegalArgumentException", Cond.classLink RL 17 "java/lang/IllegalStateException", Cond.methodLink RL 7 yX3_edit, Cond.instanceMethod yX3_edit, Cond.selects RX3 yX3_edit yX3_edit, Cond.initialized RX3, Cond.code yX3_edit cX3_edit 6 (some .int), Cond.classLink RX3 41 "java/lang/IllegalArgumentException", Cond.initialized "java/lang/IllegalArgumentException", Cond.methodLink RX3 30 yX3_storeAt, Cond.instanceMethod yX3_storeAt, Cond.selects RX3 yX3_storeAt yX3_storeAt, Cond.code yX3_storeAt cX3_storeAt 2 (some (.object "RevisionStores$Store")), Cond.classLink RX3 180 "java/lang/IndexOutOfBoundsException", Cond.initialized "java/lang/IndexOutOfBoundsException", Cond.fieldLink RX3 18 "RevisionStores" "stores" "[LRevisionStores$Store;", Cond.methodLink RX3 34 yX3_checkDocument, Cond.instanceMethod yX3_checkDocument, Cond.selects RX3 yX3_checkDocument yX3_checkDocument, Cond.code yX3_checkDocument cX3_checkDocument 2 none, Cond.methodLink RX3 38 yX3_checkRevision, Cond.instanceMethod yX3_checkRevision, Cond.selects RX3 yX3_checkRevision yX3_checkRevision]
def wsL_edit_r2 : List Cond := [Cond.code yX3_checkRevision cX3_checkRevision 2 none, Cond.fieldLink RX3 10 "RevisionStores" "tree" "LRevisionStores$Tree;", Cond.methodLink RX3 48 yX3_checkNotBegun, Cond.instanceMethod yX3_checkNotBegun, Cond.selects RX3 yX3_checkNotBegun yX3_checkNotBegun, Cond.code yX3_checkNotBegun cX3_checkNotBegun 3 none, Cond.classLink RX3 67 "java/lang/IllegalStateException", Cond.initialized "java/lang/IllegalStateException", Cond.methodLink RX3 52 yX3_checkLeaf, Cond.instanceMethod yX3_checkLeaf, Cond.selects RX3 yX3_checkLeaf yX3_checkLeaf, Cond.code yX3_checkLeaf cX3_checkLeaf 4 none, Cond.methodLink RX3 148 yX0_endsAt, Cond.instanceMethod yX0_endsAt, Cond.selects RX0 yX0_endsAt yX0_endsAt, Cond.initialized RX0, Cond.code yX0_endsAt cX0_endsAt 2 (some .boolean), Cond.fieldLink RX0 9 "RevisionStores$Holding" "held" "[Z", Cond.methodLink RX0 64 yX0_hasDescendantOf, Cond.instanceMethod yX0_hasDescendantOf, Cond.selects RX0 yX0_hasDescendantOf yX0_hasDescendantOf, Cond.code yX0_hasDescendantOf cX0_hasDescendantOf 2 (some .boolean), Cond.fieldLink RX0 15 "RevisionStores$Holding" "nearestLeaf" "[I", Cond.methodLink RX3 56 yX3_checkRoom]
def wsL_edit_r3 : List Cond := [Cond.instanceMethod yX3_checkRoom, Cond.selects RX3 yX3_checkRoom yX3_checkRoom, Cond.code yX3_checkRoom cX3_checkRoom 1 none, Cond.methodLink RX3 59 yX3_grow, Cond.instanceMethod yX3_grow, Cond.selects RX3 yX3_grow yX3_grow, Cond.code yX3_grow cX3_grow 7 (some .int), Cond.methodLink RX3 199 yX2_find, Cond.instanceMethod yX2_find, Cond.selects RX2 yX2_find yX2_find, Cond.initialized RX2, Cond.code yX2_find cX2_find 6 (some .int), Cond.fieldLink RX2 31 "RevisionStores$Tree" "made" "I", Cond.fieldLink RX2 9 "RevisionStores$Tree" "documents" "[I", Cond.fieldLink RX2 15 "RevisionStores$Tree" "parents" "[I", Cond.fieldLink RX2 18 "RevisionStores$Tree" "values" "[I", Cond.fieldLink RX2 21 "RevisionStores$Tree" "deletions" "[Z", Cond.methodLink RX3 203 yX2_make, Cond.instanceMethod yX2_make, Cond.selects RX2 yX2_make yX2_make, Cond.code yX2_make cX2_make 8 (some .int), Cond.fieldLink RX2 25 "RevisionStores$Tree" "generations" "[I", Cond.fieldLink RX2 28 "RevisionStores$Tree" "sums" "[I", Cond.methodLink RX3 206 yX1_append]
def wsL_edit_r4 : List Cond := [Cond.instanceMethod yX1_append, Cond.selects RX1 yX1_append yX1_append, Cond.initialized RX1, Cond.code yX1_append cX1_append 3 none, Cond.fieldLink RX1 12 "RevisionStores$Store" "holding" "LRevisionStores$Holding;", Cond.methodLink RX1 41 yX1_noteChange, Cond.instanceMethod yX1_noteChange, Cond.selects RX1 yX1_noteChange yX1_noteChange, Cond.code yX1_noteChange cX1_noteChange 3 none, Cond.fieldLink RX1 22 "RevisionStores$Store" "latest" "I", Cond.fieldLink RX1 25 "RevisionStores$Store" "changes" "[I", Cond.fieldLink RX1 18 "RevisionStores$Store" "depth" "I", Cond.methodLink RX1 49 yX0_survey, Cond.instanceMethod yX0_survey, Cond.selects RX0 yX0_survey yX0_survey, Cond.code yX0_survey cX0_survey 2 none, Cond.methodLink RX0 28 yX0_findLeaves, Cond.instanceMethod yX0_findLeaves, Cond.selects RX0 yX0_findLeaves yX0_findLeaves, Cond.code yX0_findLeaves cX0_findLeaves 5 none, Cond.methodLink RX0 51 Lib.Math.min.name, Cond.static Lib.Math.min.name, Cond.initialized "java/lang/Math", Cond.code Lib.Math.min.name Lib.Math.min.code 2 (some .int)]
def wsL_edit_r5 : List Cond := [Cond.methodLink RX0 22 yJ7_fill_53178, Cond.static yJ7_fill_53178, Cond.initialized RJ7, Cond.code yJ7_fill_53178 cJ7_fill_53178 4 none, Cond.methodLink RX0 44 yX0_endsAt, Cond.methodLink RX0 32 yX0_findWinners, Cond.instanceMethod yX0_findWinners, Cond.selects RX0 yX0_findWinners yX0_findWinners, Cond.code yX0_findWinners cX0_findWinners 5 none, Cond.fieldLink RX0 19 "RevisionStores$Holding" "winners" "[I", Cond.methodLink RX0 60 yX2_isBetter, Cond.instanceMethod yX2_isBetter, Cond.selects RX2 yX2_isBetter yX2_isBetter, Cond.code yX2_isBetter cX2_isBetter 3 (some .boolean), Cond.methodLink RX1 53 yX0_stem, Cond.instanceMethod yX0_stem, Cond.selects RX0 yX0_stem yX0_stem, Cond.code yX0_stem cX0_stem 5 (some .int)]
def wsL_edit : List Cond := .codeWith yL_edit cL_edit 7 (some .int) [(0, 14, 17, 13), (0, 14, 21, 15), (0, 14, 25, 17)] :: ((wsL_edit_r1 ++ (wsL_edit_r2 ++ (wsL_edit_r3 ++ (wsL_edit_r4 ++ wsL_edit_r5)))) ++ wsX30 ++ wsX20 ++ wsX10 ++ wsX00 ++ (vx_atS RX3 45 "java/lang/IllegalArgumentException" ["java/lang/RuntimeException", "java/lang/Exception"]).filter goodWord ++ (vx_atS RX3 184 "java/lang/IndexOutOfBoundsException" ["java/lang/RuntimeException", "java/lang/Exception"]).filter goodWord ++ (vx_atS RX3 71 "java/lang/IllegalStateException" ["java/lang/RuntimeException", "java/lang/Exception"]).filter goodWord)
def wsL_delete_r1 : List Cond := [Cond.classLink RL 13 "java/lang/IndexOutOfBoundsException", Cond.classLink RL 17 "java/lang/IllegalStateException", Cond.methodLink RL 19 yX3_delete, Cond.instanceMethod yX3_delete, Cond.selects RX3 yX3_delete yX3_delete, Cond.initialized RX3, Cond.code yX3_delete cX3_delete 5 (some .int), Cond.classLink RX3 67 "java/lang/IllegalStateException", Cond.initialized "java/lang/IllegalStateException", Cond.fieldLink RX3 10 "RevisionStores" "tree" "LRevisionStores$Tree;", Cond.methodLink RX3 30 yX3_storeAt, Cond.instanceMethod yX3_storeAt, Cond.selects RX3 yX3_storeAt yX3_storeAt, Cond.code yX3_storeAt cX3_storeAt 2 (some (.object "RevisionStores$Store")), Cond.classLink RX3 180 "java/lang/IndexOutOfBoundsException", Cond.initialized "java/lang/IndexOutOfBoundsException", Cond.fieldLink RX3 18 "RevisionStores" "stores" "[LRevisionStores$Store;", Cond.methodLink RX3 34 yX3_checkDocument, Cond.instanceMethod yX3_checkDocument, Cond.selects RX3 yX3_checkDocument yX3_checkDocument, Cond.code yX3_checkDocument cX3_checkDocument 2 none, Cond.methodLink RX3 38 yX3_checkRevision, Cond.instanceMethod yX3_checkRevision, Cond.selects RX3 yX3_checkRevision yX3_checkRevision]
def wsL_delete_r2 : List Cond := [Cond.code yX3_checkRevision cX3_checkRevision 2 none, Cond.methodLink RX3 52 yX3_checkLeaf, Cond.instanceMethod yX3_checkLeaf, Cond.selects RX3 yX3_checkLeaf yX3_checkLeaf, Cond.code yX3_checkLeaf cX3_checkLeaf 4 none, Cond.methodLink RX3 148 yX0_endsAt, Cond.instanceMethod yX0_endsAt, Cond.selects RX0 yX0_endsAt yX0_endsAt, Cond.initialized RX0, Cond.code yX0_endsAt cX0_endsAt 2 (some .boolean), Cond.fieldLink RX0 9 "RevisionStores$Holding" "held" "[Z", Cond.methodLink RX0 64 yX0_hasDescendantOf, Cond.instanceMethod yX0_hasDescendantOf, Cond.selects RX0 yX0_hasDescendantOf yX0_hasDescendantOf, Cond.code yX0_hasDescendantOf cX0_hasDescendantOf 2 (some .boolean), Cond.fieldLink RX0 15 "RevisionStores$Holding" "nearestLeaf" "[I", Cond.methodLink RX3 56 yX3_checkRoom, Cond.instanceMethod yX3_checkRoom, Cond.selects RX3 yX3_checkRoom yX3_checkRoom, Cond.code yX3_checkRoom cX3_checkRoom 1 none, Cond.methodLink RX3 59 yX3_grow, Cond.instanceMethod yX3_grow, Cond.selects RX3 yX3_grow yX3_grow, Cond.code yX3_grow cX3_grow 7 (some .int)]
def wsL_delete_r3 : List Cond := [Cond.methodLink RX3 199 yX2_find, Cond.instanceMethod yX2_find, Cond.selects RX2 yX2_find yX2_find, Cond.initialized RX2, Cond.code yX2_find cX2_find 6 (some .int), Cond.fieldLink RX2 31 "RevisionStores$Tree" "made" "I", Cond.fieldLink RX2 9 "RevisionStores$Tree" "documents" "[I", Cond.fieldLink RX2 15 "RevisionStores$Tree" "parents" "[I", Cond.fieldLink RX2 18 "RevisionStores$Tree" "values" "[I", Cond.fieldLink RX2 21 "RevisionStores$Tree" "deletions" "[Z", Cond.methodLink RX3 203 yX2_make, Cond.instanceMethod yX2_make, Cond.selects RX2 yX2_make yX2_make, Cond.code yX2_make cX2_make 8 (some .int), Cond.fieldLink RX2 25 "RevisionStores$Tree" "generations" "[I", Cond.fieldLink RX2 28 "RevisionStores$Tree" "sums" "[I", Cond.methodLink RX3 206 yX1_append, Cond.instanceMethod yX1_append, Cond.selects RX1 yX1_append yX1_append, Cond.initialized RX1, Cond.code yX1_append cX1_append 3 none, Cond.fieldLink RX1 12 "RevisionStores$Store" "holding" "LRevisionStores$Holding;", Cond.methodLink RX1 41 yX1_noteChange, Cond.instanceMethod yX1_noteChange]
def wsL_delete_r4 : List Cond := [Cond.selects RX1 yX1_noteChange yX1_noteChange, Cond.code yX1_noteChange cX1_noteChange 3 none, Cond.fieldLink RX1 22 "RevisionStores$Store" "latest" "I", Cond.fieldLink RX1 25 "RevisionStores$Store" "changes" "[I", Cond.fieldLink RX1 18 "RevisionStores$Store" "depth" "I", Cond.methodLink RX1 49 yX0_survey, Cond.instanceMethod yX0_survey, Cond.selects RX0 yX0_survey yX0_survey, Cond.code yX0_survey cX0_survey 2 none, Cond.methodLink RX0 28 yX0_findLeaves, Cond.instanceMethod yX0_findLeaves, Cond.selects RX0 yX0_findLeaves yX0_findLeaves, Cond.code yX0_findLeaves cX0_findLeaves 5 none, Cond.methodLink RX0 51 Lib.Math.min.name, Cond.static Lib.Math.min.name, Cond.initialized "java/lang/Math", Cond.code Lib.Math.min.name Lib.Math.min.code 2 (some .int), Cond.methodLink RX0 22 yJ7_fill_53178, Cond.static yJ7_fill_53178, Cond.initialized RJ7, Cond.code yJ7_fill_53178 cJ7_fill_53178 4 none, Cond.methodLink RX0 44 yX0_endsAt, Cond.methodLink RX0 32 yX0_findWinners, Cond.instanceMethod yX0_findWinners]
def wsL_delete_r5 : List Cond := [Cond.selects RX0 yX0_findWinners yX0_findWinners, Cond.code yX0_findWinners cX0_findWinners 5 none, Cond.fieldLink RX0 19 "RevisionStores$Holding" "winners" "[I", Cond.methodLink RX0 60 yX2_isBetter, Cond.instanceMethod yX2_isBetter, Cond.selects RX2 yX2_isBetter yX2_isBetter, Cond.code yX2_isBetter cX2_isBetter 3 (some .boolean), Cond.methodLink RX1 53 yX0_stem, Cond.instanceMethod yX0_stem, Cond.selects RX0 yX0_stem yX0_stem, Cond.code yX0_stem cX0_stem 5 (some .int)]
def wsL_delete : List Cond := .codeWith yL_delete cL_delete 6 (some .int) [(0, 12, 15, 13), (0, 12, 19, 17)] :: ((wsL_delete_r1 ++ (wsL_delete_r2 ++ (wsL_delete_r3 ++ (wsL_delete_r4 ++ wsL_delete_r5)))) ++ wsX30 ++ wsX20 ++ wsX10 ++ wsX00 ++ (vx_atS RX3 71 "java/lang/IllegalStateException" ["java/lang/RuntimeException", "java/lang/Exception"]).filter goodWord ++ (vx_atS RX3 184 "java/lang/IndexOutOfBoundsException" ["java/lang/RuntimeException", "java/lang/Exception"]).filter goodWord)
def wsL_setDepth_r1 : List Cond := [Cond.classLink RL 13 "java/lang/IndexOutOfBoundsException", Cond.classLink RL 15 "java/lang/IllegalArgumentException", Cond.methodLink RL 23 yX3_setDepth, Cond.instanceMethod yX3_setDepth, Cond.selects RX3 yX3_setDepth yX3_setDepth, Cond.initialized RX3, Cond.code yX3_setDepth cX3_setDepth 4 (some .int), Cond.classLink RX3 41 "java/lang/IllegalArgumentException", Cond.initialized "java/lang/IllegalArgumentException", Cond.fieldLink RX3 10 "RevisionStores" "tree" "LRevisionStores$Tree;", Cond.methodLink RX3 30 yX3_storeAt, Cond.instanceMethod yX3_storeAt, Cond.selects RX3 yX3_storeAt yX3_storeAt, Cond.code yX3_storeAt cX3_storeAt 2 (some (.object "RevisionStores$Store")), Cond.classLink RX3 180 "java/lang/IndexOutOfBoundsException", Cond.initialized "java/lang/IndexOutOfBoundsException", Cond.fieldLink RX3 18 "RevisionStores" "stores" "[LRevisionStores$Store;", Cond.methodLink RX3 81 yX0_stem, Cond.instanceMethod yX0_stem, Cond.selects RX0 yX0_stem yX0_stem, Cond.initialized RX0, Cond.code yX0_stem cX0_stem 5 (some .int), Cond.fieldLink RX0 9 "RevisionStores$Holding" "held" "[Z", Cond.fieldLink RX0 15 "RevisionStores$Holding" "nearestLeaf" "[I"]
def wsL_setDepth_r2 : List Cond := [Cond.methodLink RX0 64 yX0_hasDescendantOf, Cond.instanceMethod yX0_hasDescendantOf, Cond.selects RX0 yX0_hasDescendantOf yX0_hasDescendantOf, Cond.code yX0_hasDescendantOf cX0_hasDescendantOf 2 (some .boolean)]
def wsL_setDepth : List Cond := .codeWith yL_setDepth cL_setDepth 5 (some .int) [(0, 10, 13, 13), (0, 10, 17, 15)] :: ((wsL_setDepth_r1 ++ wsL_setDepth_r2) ++ wsX10 ++ wsX30 ++ wsX20 ++ wsX00 ++ (vx_atS RX3 45 "java/lang/IllegalArgumentException" ["java/lang/RuntimeException", "java/lang/Exception"]).filter goodWord ++ (vx_atS RX3 184 "java/lang/IndexOutOfBoundsException" ["java/lang/RuntimeException", "java/lang/Exception"]).filter goodWord)
def wsL_wipe_r1 : List Cond := [Cond.classLink RL 13 "java/lang/IndexOutOfBoundsException", Cond.methodLink RL 27 yX3_wipe, Cond.instanceMethod yX3_wipe, Cond.selects RX3 yX3_wipe yX3_wipe, Cond.initialized RX3, Cond.code yX3_wipe cX3_wipe 4 (some .int), Cond.fieldLink RX3 10 "RevisionStores" "tree" "LRevisionStores$Tree;", Cond.methodLink RX3 30 yX3_storeAt, Cond.instanceMethod yX3_storeAt, Cond.selects RX3 yX3_storeAt yX3_storeAt, Cond.code yX3_storeAt cX3_storeAt 2 (some (.object "RevisionStores$Store")), Cond.classLink RX3 180 "java/lang/IndexOutOfBoundsException", Cond.initialized "java/lang/IndexOutOfBoundsException", Cond.fieldLink RX3 18 "RevisionStores" "stores" "[LRevisionStores$Store;", Cond.methodLink RX3 85 yX0_countAll, Cond.instanceMethod yX0_countAll, Cond.selects RX0 yX0_countAll yX0_countAll, Cond.initialized RX0, Cond.code yX0_countAll cX0_countAll 4 (some .int), Cond.fieldLink RX0 9 "RevisionStores$Holding" "held" "[Z", Cond.methodLink RX3 89 yX1_clear, Cond.instanceMethod yX1_clear, Cond.selects RX1 yX1_clear yX1_clear, Cond.initialized RX1]
def wsL_wipe_r2 : List Cond := [Cond.code yX1_clear cX1_clear 2 none, Cond.fieldLink RX1 12 "RevisionStores$Store" "holding" "LRevisionStores$Holding;", Cond.fieldLink RX1 22 "RevisionStores$Store" "latest" "I", Cond.fieldLink RX1 25 "RevisionStores$Store" "changes" "[I", Cond.fieldLink RX1 29 "RevisionStores$Store" "checkpoints" "[I", Cond.methodLink RX1 57 yX0_removeAll, Cond.instanceMethod yX0_removeAll, Cond.selects RX0 yX0_removeAll yX0_removeAll, Cond.code yX0_removeAll cX0_removeAll 2 none, Cond.methodLink RX1 49 yX0_survey, Cond.instanceMethod yX0_survey, Cond.selects RX0 yX0_survey yX0_survey, Cond.code yX0_survey cX0_survey 2 none, Cond.methodLink RX0 28 yX0_findLeaves, Cond.instanceMethod yX0_findLeaves, Cond.selects RX0 yX0_findLeaves yX0_findLeaves, Cond.code yX0_findLeaves cX0_findLeaves 5 none, Cond.fieldLink RX0 15 "RevisionStores$Holding" "nearestLeaf" "[I", Cond.methodLink RX0 51 Lib.Math.min.name, Cond.static Lib.Math.min.name, Cond.initialized "java/lang/Math", Cond.code Lib.Math.min.name Lib.Math.min.code 2 (some .int), Cond.methodLink RX0 22 yJ7_fill_53178, Cond.static yJ7_fill_53178]
def wsL_wipe_r3 : List Cond := [Cond.initialized RJ7, Cond.code yJ7_fill_53178 cJ7_fill_53178 4 none, Cond.methodLink RX0 44 yX0_endsAt, Cond.instanceMethod yX0_endsAt, Cond.selects RX0 yX0_endsAt yX0_endsAt, Cond.code yX0_endsAt cX0_endsAt 2 (some .boolean), Cond.methodLink RX0 64 yX0_hasDescendantOf, Cond.instanceMethod yX0_hasDescendantOf, Cond.selects RX0 yX0_hasDescendantOf yX0_hasDescendantOf, Cond.code yX0_hasDescendantOf cX0_hasDescendantOf 2 (some .boolean), Cond.methodLink RX0 32 yX0_findWinners, Cond.instanceMethod yX0_findWinners, Cond.selects RX0 yX0_findWinners yX0_findWinners, Cond.code yX0_findWinners cX0_findWinners 5 none, Cond.fieldLink RX0 19 "RevisionStores$Holding" "winners" "[I", Cond.methodLink RX0 60 yX2_isBetter, Cond.instanceMethod yX2_isBetter, Cond.selects RX2 yX2_isBetter yX2_isBetter, Cond.initialized RX2, Cond.code yX2_isBetter cX2_isBetter 3 (some .boolean), Cond.fieldLink RX2 21 "RevisionStores$Tree" "deletions" "[Z", Cond.fieldLink RX2 25 "RevisionStores$Tree" "generations" "[I", Cond.fieldLink RX2 28 "RevisionStores$Tree" "sums" "[I", Cond.methodLink RX1 60 yJ7_fill_53178]
def wsL_wipe : List Cond := .codeWith yL_wipe cL_wipe 4 (some .int) [(0, 9, 12, 13)] :: ((wsL_wipe_r1 ++ (wsL_wipe_r2 ++ wsL_wipe_r3)) ++ wsX10 ++ wsX30 ++ wsX20 ++ wsX00 ++ (vx_atS RX3 184 "java/lang/IndexOutOfBoundsException" ["java/lang/RuntimeException", "java/lang/Exception"]).filter goodWord)
def wsL_replicate_r1 : List Cond := [Cond.classLink RL 13 "java/lang/IndexOutOfBoundsException", Cond.classLink RL 15 "java/lang/IllegalArgumentException", Cond.methodLink RL 31 yX3_replicate, Cond.instanceMethod yX3_replicate, Cond.selects RX3 yX3_replicate yX3_replicate, Cond.initialized RX3, Cond.code yX3_replicate cX3_replicate 10 (some .int), Cond.classLink RX3 41 "java/lang/IllegalArgumentException", Cond.initialized "java/lang/IllegalArgumentException", Cond.fieldLink RX3 10 "RevisionStores" "tree" "LRevisionStores$Tree;", Cond.methodLink RX3 30 yX3_storeAt, Cond.instanceMethod yX3_storeAt, Cond.selects RX3 yX3_storeAt yX3_storeAt, Cond.code yX3_storeAt cX3_storeAt 2 (some (.object "RevisionStores$Store")), Cond.classLink RX3 180 "java/lang/IndexOutOfBoundsException", Cond.initialized "java/lang/IndexOutOfBoundsException", Cond.fieldLink RX3 18 "RevisionStores" "stores" "[LRevisionStores$Store;", Cond.methodLink RX3 95 yX3_checkDifferent, Cond.instanceMethod yX3_checkDifferent, Cond.selects RX3 yX3_checkDifferent yX3_checkDifferent, Cond.code yX3_checkDifferent cX3_checkDifferent 3 none, Cond.methodLink RX3 99 yX3_commonCheckpoint, Cond.instanceMethod yX3_commonCheckpoint, Cond.selects RX3 yX3_commonCheckpoint yX3_commonCheckpoint]
def wsL_replicate_r2 : List Cond := [Cond.code yX3_commonCheckpoint cX3_commonCheckpoint 4 (some .int), Cond.methodLink RX3 210 Lib.Math.min.name, Cond.static Lib.Math.min.name, Cond.initialized "java/lang/Math", Cond.code Lib.Math.min.name Lib.Math.min.code 2 (some .int), Cond.methodLink RX3 121 yX3_pairOf, Cond.static yX3_pairOf, Cond.code yX3_pairOf cX3_pairOf 2 (some .int), Cond.methodLink RX3 103 yX1_nextChanged, Cond.instanceMethod yX1_nextChanged, Cond.selects RX1 yX1_nextChanged yX1_nextChanged, Cond.initialized RX1, Cond.code yX1_nextChanged cX1_nextChanged 4 (some .int), Cond.fieldLink RX1 25 "RevisionStores$Store" "changes" "[I", Cond.methodLink RX3 107 yX1_receive, Cond.instanceMethod yX1_receive, Cond.selects RX1 yX1_receive yX1_receive, Cond.code yX1_receive cX1_receive 5 (some .int), Cond.fieldLink RX1 12 "RevisionStores$Store" "holding" "LRevisionStores$Holding;", Cond.methodLink RX1 45 yX0_addBranches, Cond.instanceMethod yX0_addBranches, Cond.selects RX0 yX0_addBranches yX0_addBranches, Cond.initialized RX0, Cond.code yX0_addBranches cX0_addBranches 6 (some .int)]
def wsL_replicate_r3 : List Cond := [Cond.fieldLink RX0 9 "RevisionStores$Holding" "held" "[Z", Cond.methodLink RX0 44 yX0_endsAt, Cond.instanceMethod yX0_endsAt, Cond.selects RX0 yX0_endsAt yX0_endsAt, Cond.code yX0_endsAt cX0_endsAt 2 (some .boolean), Cond.methodLink RX0 64 yX0_hasDescendantOf, Cond.instanceMethod yX0_hasDescendantOf, Cond.selects RX0 yX0_hasDescendantOf yX0_hasDescendantOf, Cond.code yX0_hasDescendantOf cX0_hasDescendantOf 2 (some .boolean), Cond.fieldLink RX0 15 "RevisionStores$Holding" "nearestLeaf" "[I", Cond.methodLink RX0 67 yX0_addLine, Cond.instanceMethod yX0_addLine, Cond.selects RX0 yX0_addLine yX0_addLine, Cond.code yX0_addLine cX0_addLine 7 (some .int), Cond.methodLink RX1 41 yX1_noteChange, Cond.instanceMethod yX1_noteChange, Cond.selects RX1 yX1_noteChange yX1_noteChange, Cond.code yX1_noteChange cX1_noteChange 3 none, Cond.fieldLink RX1 22 "RevisionStores$Store" "latest" "I", Cond.fieldLink RX1 18 "RevisionStores$Store" "depth" "I", Cond.methodLink RX1 49 yX0_survey, Cond.instanceMethod yX0_survey, Cond.selects RX0 yX0_survey yX0_survey, Cond.code yX0_survey cX0_survey 2 none]
def wsL_replicate_r4 : List Cond := [Cond.methodLink RX0 28 yX0_findLeaves, Cond.instanceMethod yX0_findLeaves, Cond.selects RX0 yX0_findLeaves yX0_findLeaves, Cond.code yX0_findLeaves cX0_findLeaves 5 none, Cond.methodLink RX0 51 Lib.Math.min.name, Cond.methodLink RX0 22 yJ7_fill_53178, Cond.static yJ7_fill_53178, Cond.initialized RJ7, Cond.code yJ7_fill_53178 cJ7_fill_53178 4 none, Cond.methodLink RX0 32 yX0_findWinners, Cond.instanceMethod yX0_findWinners, Cond.selects RX0 yX0_findWinners yX0_findWinners, Cond.code yX0_findWinners cX0_findWinners 5 none, Cond.fieldLink RX0 19 "RevisionStores$Holding" "winners" "[I", Cond.methodLink RX0 60 yX2_isBetter, Cond.instanceMethod yX2_isBetter, Cond.selects RX2 yX2_isBetter yX2_isBetter, Cond.initialized RX2, Cond.code yX2_isBetter cX2_isBetter 3 (some .boolean), Cond.fieldLink RX2 21 "RevisionStores$Tree" "deletions" "[Z", Cond.fieldLink RX2 25 "RevisionStores$Tree" "generations" "[I", Cond.fieldLink RX2 28 "RevisionStores$Tree" "sums" "[I", Cond.methodLink RX1 53 yX0_stem, Cond.instanceMethod yX0_stem]
def wsL_replicate_r5 : List Cond := [Cond.selects RX0 yX0_stem yX0_stem, Cond.code yX0_stem cX0_stem 5 (some .int)]
def wsL_replicate : List Cond := .codeWith yL_replicate cL_replicate 6 (some .int) [(0, 12, 15, 13), (0, 12, 19, 15)] :: ((wsL_replicate_r1 ++ (wsL_replicate_r2 ++ (wsL_replicate_r3 ++ (wsL_replicate_r4 ++ wsL_replicate_r5)))) ++ wsX30 ++ wsX10 ++ wsX20 ++ wsX00 ++ (vx_atS RX3 45 "java/lang/IllegalArgumentException" ["java/lang/RuntimeException", "java/lang/Exception"]).filter goodWord ++ (vx_atS RX3 184 "java/lang/IndexOutOfBoundsException" ["java/lang/RuntimeException", "java/lang/Exception"]).filter goodWord)
def wsL_pending_r1 : List Cond := [Cond.classLink RL 13 "java/lang/IndexOutOfBoundsException", Cond.classLink RL 15 "java/lang/IllegalArgumentException", Cond.methodLink RL 34 yX3_pending, Cond.instanceMethod yX3_pending, Cond.selects RX3 yX3_pending yX3_pending, Cond.initialized RX3, Cond.code yX3_pending cX3_pending 4 (some .int), Cond.methodLink RX3 30 yX3_storeAt, Cond.instanceMethod yX3_storeAt, Cond.selects RX3 yX3_storeAt yX3_storeAt, Cond.code yX3_storeAt cX3_storeAt 2 (some (.object "RevisionStores$Store")), Cond.classLink RX3 180 "java/lang/IndexOutOfBoundsException", Cond.initialized "java/lang/IndexOutOfBoundsException", Cond.fieldLink RX3 18 "RevisionStores" "stores" "[LRevisionStores$Store;", Cond.methodLink RX3 95 yX3_checkDifferent, Cond.instanceMethod yX3_checkDifferent, Cond.selects RX3 yX3_checkDifferent yX3_checkDifferent, Cond.code yX3_checkDifferent cX3_checkDifferent 3 none, Cond.classLink RX3 41 "java/lang/IllegalArgumentException", Cond.initialized "java/lang/IllegalArgumentException", Cond.methodLink RX3 99 yX3_commonCheckpoint, Cond.instanceMethod yX3_commonCheckpoint, Cond.selects RX3 yX3_commonCheckpoint yX3_commonCheckpoint, Cond.code yX3_commonCheckpoint cX3_commonCheckpoint 4 (some .int)]
def wsL_pending_r2 : List Cond := [Cond.methodLink RX3 210 Lib.Math.min.name, Cond.static Lib.Math.min.name, Cond.initialized "java/lang/Math", Cond.code Lib.Math.min.name Lib.Math.min.code 2 (some .int), Cond.methodLink RX3 121 yX3_pairOf, Cond.static yX3_pairOf, Cond.code yX3_pairOf cX3_pairOf 2 (some .int), Cond.methodLink RX3 124 yX1_countChanged, Cond.instanceMethod yX1_countChanged, Cond.selects RX1 yX1_countChanged yX1_countChanged, Cond.initialized RX1, Cond.code yX1_countChanged cX1_countChanged 4 (some .int), Cond.fieldLink RX1 25 "RevisionStores$Store" "changes" "[I"]
def wsL_pending : List Cond := .codeWith yL_pending cL_pending 5 (some .int) [(0, 10, 13, 13), (0, 10, 17, 15)] :: ((wsL_pending_r1 ++ wsL_pending_r2) ++ wsX30 ++ wsX10 ++ (vx_atS RX3 184 "java/lang/IndexOutOfBoundsException" ["java/lang/RuntimeException", "java/lang/Exception"]).filter goodWord ++ (vx_atS RX3 45 "java/lang/IllegalArgumentException" ["java/lang/RuntimeException", "java/lang/Exception"]).filter goodWord)
def wsL_checkpoint_r1 : List Cond := [Cond.classLink RL 13 "java/lang/IndexOutOfBoundsException", Cond.classLink RL 15 "java/lang/IllegalArgumentException", Cond.methodLink RL 37 yX3_checkpoint, Cond.instanceMethod yX3_checkpoint, Cond.selects RX3 yX3_checkpoint yX3_checkpoint, Cond.initialized RX3, Cond.code yX3_checkpoint cX3_checkpoint 3 (some .int), Cond.methodLink RX3 30 yX3_storeAt, Cond.instanceMethod yX3_storeAt, Cond.selects RX3 yX3_storeAt yX3_storeAt, Cond.code yX3_storeAt cX3_storeAt 2 (some (.object "RevisionStores$Store")), Cond.classLink RX3 180 "java/lang/IndexOutOfBoundsException", Cond.initialized "java/lang/IndexOutOfBoundsException", Cond.fieldLink RX3 18 "RevisionStores" "stores" "[LRevisionStores$Store;", Cond.methodLink RX3 95 yX3_checkDifferent, Cond.instanceMethod yX3_checkDifferent, Cond.selects RX3 yX3_checkDifferent yX3_checkDifferent, Cond.code yX3_checkDifferent cX3_checkDifferent 3 none, Cond.classLink RX3 41 "java/lang/IllegalArgumentException", Cond.initialized "java/lang/IllegalArgumentException", Cond.methodLink RX3 99 yX3_commonCheckpoint, Cond.instanceMethod yX3_commonCheckpoint, Cond.selects RX3 yX3_commonCheckpoint yX3_commonCheckpoint, Cond.code yX3_commonCheckpoint cX3_commonCheckpoint 4 (some .int)]
def wsL_checkpoint_r2 : List Cond := [Cond.methodLink RX3 210 Lib.Math.min.name, Cond.static Lib.Math.min.name, Cond.initialized "java/lang/Math", Cond.code Lib.Math.min.name Lib.Math.min.code 2 (some .int), Cond.methodLink RX3 121 yX3_pairOf, Cond.static yX3_pairOf, Cond.code yX3_pairOf cX3_pairOf 2 (some .int)]
def wsL_checkpoint : List Cond := .codeWith yL_checkpoint cL_checkpoint 5 (some .int) [(0, 10, 13, 13), (0, 10, 17, 15)] :: ((wsL_checkpoint_r1 ++ wsL_checkpoint_r2) ++ wsX30 ++ wsX10 ++ (vx_atS RX3 184 "java/lang/IndexOutOfBoundsException" ["java/lang/RuntimeException", "java/lang/Exception"]).filter goodWord ++ (vx_atS RX3 45 "java/lang/IllegalArgumentException" ["java/lang/RuntimeException", "java/lang/Exception"]).filter goodWord)
def wsL_documentOf : List Cond := .codeWith yL_documentOf cL_documentOf 4 (some .int) [(0, 9, 12, 13)] :: ([.classLink RL 13 "java/lang/IndexOutOfBoundsException", .methodLink RL 40 yX3_documentOf, .instanceMethod yX3_documentOf, .selects RX3 yX3_documentOf yX3_documentOf, .initialized RX3, .code yX3_documentOf cX3_documentOf 2 (some .int), .fieldLink RX3 10 "RevisionStores" "tree" "LRevisionStores$Tree;", .methodLink RX3 38 yX3_checkRevision, .instanceMethod yX3_checkRevision, .selects RX3 yX3_checkRevision yX3_checkRevision, .code yX3_checkRevision cX3_checkRevision 2 none, .classLink RX3 180 "java/lang/IndexOutOfBoundsException", .initialized "java/lang/IndexOutOfBoundsException"] ++ wsX30 ++ wsX20 ++ (vx_atS RX3 184 "java/lang/IndexOutOfBoundsException" ["java/lang/RuntimeException", "java/lang/Exception"]).filter goodWord)
def wsL_parentOf : List Cond := .codeWith yL_parentOf cL_parentOf 4 (some .int) [(0, 9, 12, 13)] :: ([.classLink RL 13 "java/lang/IndexOutOfBoundsException", .methodLink RL 43 yX3_parentOf, .instanceMethod yX3_parentOf, .selects RX3 yX3_parentOf yX3_parentOf, .initialized RX3, .code yX3_parentOf cX3_parentOf 2 (some .int), .fieldLink RX3 10 "RevisionStores" "tree" "LRevisionStores$Tree;", .methodLink RX3 38 yX3_checkRevision, .instanceMethod yX3_checkRevision, .selects RX3 yX3_checkRevision yX3_checkRevision, .code yX3_checkRevision cX3_checkRevision 2 none, .classLink RX3 180 "java/lang/IndexOutOfBoundsException", .initialized "java/lang/IndexOutOfBoundsException"] ++ wsX30 ++ wsX20 ++ (vx_atS RX3 184 "java/lang/IndexOutOfBoundsException" ["java/lang/RuntimeException", "java/lang/Exception"]).filter goodWord)
def wsL_generation : List Cond := .codeWith yL_generation cL_generation 4 (some .int) [(0, 9, 12, 13)] :: ([.classLink RL 13 "java/lang/IndexOutOfBoundsException", .methodLink RL 46 yX3_generation, .instanceMethod yX3_generation, .selects RX3 yX3_generation yX3_generation, .initialized RX3, .code yX3_generation cX3_generation 2 (some .int), .fieldLink RX3 10 "RevisionStores" "tree" "LRevisionStores$Tree;", .methodLink RX3 38 yX3_checkRevision, .instanceMethod yX3_checkRevision, .selects RX3 yX3_checkRevision yX3_checkRevision, .code yX3_checkRevision cX3_checkRevision 2 none, .classLink RX3 180 "java/lang/IndexOutOfBoundsException", .initialized "java/lang/IndexOutOfBoundsException"] ++ wsX30 ++ wsX20 ++ (vx_atS RX3 184 "java/lang/IndexOutOfBoundsException" ["java/lang/RuntimeException", "java/lang/Exception"]).filter goodWord)
def wsL_sum : List Cond := .codeWith yL_sum cL_sum 4 (some .int) [(0, 9, 12, 13)] :: ([.classLink RL 13 "java/lang/IndexOutOfBoundsException", .methodLink RL 49 yX3_sum, .instanceMethod yX3_sum, .selects RX3 yX3_sum yX3_sum, .initialized RX3, .code yX3_sum cX3_sum 2 (some .int), .fieldLink RX3 10 "RevisionStores" "tree" "LRevisionStores$Tree;", .methodLink RX3 38 yX3_checkRevision, .instanceMethod yX3_checkRevision, .selects RX3 yX3_checkRevision yX3_checkRevision, .code yX3_checkRevision cX3_checkRevision 2 none, .classLink RX3 180 "java/lang/IndexOutOfBoundsException", .initialized "java/lang/IndexOutOfBoundsException"] ++ wsX30 ++ wsX20 ++ (vx_atS RX3 184 "java/lang/IndexOutOfBoundsException" ["java/lang/RuntimeException", "java/lang/Exception"]).filter goodWord)
def wsL_valueOf : List Cond := .codeWith yL_valueOf cL_valueOf 4 (some .int) [(0, 9, 12, 13)] :: ([.classLink RL 13 "java/lang/IndexOutOfBoundsException", .methodLink RL 52 yX3_valueOf, .instanceMethod yX3_valueOf, .selects RX3 yX3_valueOf yX3_valueOf, .initialized RX3, .code yX3_valueOf cX3_valueOf 2 (some .int), .fieldLink RX3 10 "RevisionStores" "tree" "LRevisionStores$Tree;", .methodLink RX3 38 yX3_checkRevision, .instanceMethod yX3_checkRevision, .selects RX3 yX3_checkRevision yX3_checkRevision, .code yX3_checkRevision cX3_checkRevision 2 none, .classLink RX3 180 "java/lang/IndexOutOfBoundsException", .initialized "java/lang/IndexOutOfBoundsException"] ++ wsX30 ++ wsX20 ++ (vx_atS RX3 184 "java/lang/IndexOutOfBoundsException" ["java/lang/RuntimeException", "java/lang/Exception"]).filter goodWord)
def wsL_sequence : List Cond := .codeWith yL_sequence cL_sequence 4 (some .int) [(0, 9, 12, 13)] :: ([.classLink RL 13 "java/lang/IndexOutOfBoundsException", .methodLink RL 55 yX3_sequence, .instanceMethod yX3_sequence, .selects RX3 yX3_sequence yX3_sequence, .initialized RX3, .code yX3_sequence cX3_sequence 2 (some .int), .methodLink RX3 30 yX3_storeAt, .instanceMethod yX3_storeAt, .selects RX3 yX3_storeAt yX3_storeAt, .code yX3_storeAt cX3_storeAt 2 (some (.object "RevisionStores$Store")), .classLink RX3 180 "java/lang/IndexOutOfBoundsException", .initialized "java/lang/IndexOutOfBoundsException", .fieldLink RX3 18 "RevisionStores" "stores" "[LRevisionStores$Store;"] ++ wsX10 ++ wsX30 ++ (vx_atS RX3 184 "java/lang/IndexOutOfBoundsException" ["java/lang/RuntimeException", "java/lang/Exception"]).filter goodWord)
def wsL_has : List Cond := .codeWith yL_has cL_has 5 (some .int) [(0, 17, 20, 13)] :: ([.classLink RL 13 "java/lang/IndexOutOfBoundsException", .methodLink RL 58 yX3_has, .instanceMethod yX3_has, .selects RX3 yX3_has yX3_has, .initialized RX3, .code yX3_has cX3_has 4 (some .boolean), .methodLink RX3 30 yX3_storeAt, .instanceMethod yX3_storeAt, .selects RX3 yX3_storeAt yX3_storeAt, .code yX3_storeAt cX3_storeAt 2 (some (.object "RevisionStores$Store")), .classLink RX3 180 "java/lang/IndexOutOfBoundsException", .initialized "java/lang/IndexOutOfBoundsException", .fieldLink RX3 18 "RevisionStores" "stores" "[LRevisionStores$Store;", .methodLink RX3 38 yX3_checkRevision, .instanceMethod yX3_checkRevision, .selects RX3 yX3_checkRevision yX3_checkRevision, .code yX3_checkRevision cX3_checkRevision 2 none, .fieldLink RX3 10 "RevisionStores" "tree" "LRevisionStores$Tree;"] ++ wsX10 ++ wsX00 ++ wsX30 ++ wsX20 ++ (vx_atS RX3 184 "java/lang/IndexOutOfBoundsException" ["java/lang/RuntimeException", "java/lang/Exception"]).filter goodWord)
def wsL_isLeaf_r1 : List Cond := [Cond.classLink RL 13 "java/lang/IndexOutOfBoundsException", Cond.methodLink RL 62 yX3_isLeaf, Cond.instanceMethod yX3_isLeaf, Cond.selects RX3 yX3_isLeaf yX3_isLeaf, Cond.initialized RX3, Cond.code yX3_isLeaf cX3_isLeaf 4 (some .boolean), Cond.methodLink RX3 30 yX3_storeAt, Cond.instanceMethod yX3_storeAt, Cond.selects RX3 yX3_storeAt yX3_storeAt, Cond.code yX3_storeAt cX3_storeAt 2 (some (.object "RevisionStores$Store")), Cond.classLink RX3 180 "java/lang/IndexOutOfBoundsException", Cond.initialized "java/lang/IndexOutOfBoundsException", Cond.fieldLink RX3 18 "RevisionStores" "stores" "[LRevisionStores$Store;", Cond.methodLink RX3 38 yX3_checkRevision, Cond.instanceMethod yX3_checkRevision, Cond.selects RX3 yX3_checkRevision yX3_checkRevision, Cond.code yX3_checkRevision cX3_checkRevision 2 none, Cond.fieldLink RX3 10 "RevisionStores" "tree" "LRevisionStores$Tree;", Cond.methodLink RX3 148 yX0_endsAt, Cond.instanceMethod yX0_endsAt, Cond.selects RX0 yX0_endsAt yX0_endsAt, Cond.initialized RX0, Cond.code yX0_endsAt cX0_endsAt 2 (some .boolean), Cond.fieldLink RX0 9 "RevisionStores$Holding" "held" "[Z"]
def wsL_isLeaf_r2 : List Cond := [Cond.methodLink RX0 64 yX0_hasDescendantOf, Cond.instanceMethod yX0_hasDescendantOf, Cond.selects RX0 yX0_hasDescendantOf yX0_hasDescendantOf, Cond.code yX0_hasDescendantOf cX0_hasDescendantOf 2 (some .boolean), Cond.fieldLink RX0 15 "RevisionStores$Holding" "nearestLeaf" "[I"]
def wsL_isLeaf : List Cond := .codeWith yL_isLeaf cL_isLeaf 5 (some .int) [(0, 17, 20, 13)] :: ((wsL_isLeaf_r1 ++ wsL_isLeaf_r2) ++ wsX10 ++ wsX30 ++ wsX20 ++ wsX00 ++ (vx_atS RX3 184 "java/lang/IndexOutOfBoundsException" ["java/lang/RuntimeException", "java/lang/Exception"]).filter goodWord)
def wsL_size : List Cond := .codeWith yL_size cL_size 4 (some .int) [(0, 9, 12, 13)] :: ([.classLink RL 13 "java/lang/IndexOutOfBoundsException", .methodLink RL 65 yX3_size, .instanceMethod yX3_size, .selects RX3 yX3_size yX3_size, .initialized RX3, .code yX3_size cX3_size 2 (some .int), .fieldLink RX3 10 "RevisionStores" "tree" "LRevisionStores$Tree;", .methodLink RX3 30 yX3_storeAt, .instanceMethod yX3_storeAt, .selects RX3 yX3_storeAt yX3_storeAt, .code yX3_storeAt cX3_storeAt 2 (some (.object "RevisionStores$Store")), .classLink RX3 180 "java/lang/IndexOutOfBoundsException", .initialized "java/lang/IndexOutOfBoundsException", .fieldLink RX3 18 "RevisionStores" "stores" "[LRevisionStores$Store;", .methodLink RX3 85 yX0_countAll, .instanceMethod yX0_countAll, .selects RX0 yX0_countAll yX0_countAll, .initialized RX0, .code yX0_countAll cX0_countAll 4 (some .int), .fieldLink RX0 9 "RevisionStores$Holding" "held" "[Z"] ++ wsX10 ++ wsX30 ++ wsX20 ++ wsX00 ++ (vx_atS RX3 184 "java/lang/IndexOutOfBoundsException" ["java/lang/RuntimeException", "java/lang/Exception"]).filter goodWord)
def wsL_winner : List Cond := .codeWith yL_winner cL_winner 5 (some .int) [(0, 10, 13, 13)] :: ([.classLink RL 13 "java/lang/IndexOutOfBoundsException", .methodLink RL 68 yX3_winner, .instanceMethod yX3_winner, .selects RX3 yX3_winner yX3_winner, .initialized RX3, .code yX3_winner cX3_winner 4 (some .int), .methodLink RX3 30 yX3_storeAt, .instanceMethod yX3_storeAt, .selects RX3 yX3_storeAt yX3_storeAt, .code yX3_storeAt cX3_storeAt 2 (some (.object "RevisionStores$Store")), .classLink RX3 180 "java/lang/IndexOutOfBoundsException", .initialized "java/lang/IndexOutOfBoundsException", .fieldLink RX3 18 "RevisionStores" "stores" "[LRevisionStores$Store;", .methodLink RX3 34 yX3_checkDocument, .instanceMethod yX3_checkDocument, .selects RX3 yX3_checkDocument yX3_checkDocument, .code yX3_checkDocument cX3_checkDocument 2 none] ++ wsX10 ++ wsX00 ++ wsX30 ++ (vx_atS RX3 184 "java/lang/IndexOutOfBoundsException" ["java/lang/RuntimeException", "java/lang/Exception"]).filter goodWord)
def wsL_winnerOfAll_r1 : List Cond := [Cond.classLink RL 13 "java/lang/IndexOutOfBoundsException", Cond.methodLink RL 71 yX3_winnerOfAll, Cond.instanceMethod yX3_winnerOfAll, Cond.selects RX3 yX3_winnerOfAll yX3_winnerOfAll, Cond.initialized RX3, Cond.code yX3_winnerOfAll cX3_winnerOfAll 3 (some .int), Cond.fieldLink RX3 25 "RevisionStores" "union" "LRevisionStores$Holding;", Cond.fieldLink RX3 10 "RevisionStores" "tree" "LRevisionStores$Tree;", Cond.fieldLink RX3 18 "RevisionStores" "stores" "[LRevisionStores$Store;", Cond.methodLink RX3 34 yX3_checkDocument, Cond.instanceMethod yX3_checkDocument, Cond.selects RX3 yX3_checkDocument yX3_checkDocument, Cond.code yX3_checkDocument cX3_checkDocument 2 none, Cond.classLink RX3 180 "java/lang/IndexOutOfBoundsException", Cond.initialized "java/lang/IndexOutOfBoundsException", Cond.methodLink RX3 155 yX0_removeAll, Cond.instanceMethod yX0_removeAll, Cond.selects RX0 yX0_removeAll yX0_removeAll, Cond.initialized RX0, Cond.code yX0_removeAll cX0_removeAll 2 none, Cond.fieldLink RX0 9 "RevisionStores$Holding" "held" "[Z", Cond.methodLink RX3 158 yX0_addAll, Cond.instanceMethod yX0_addAll, Cond.selects RX0 yX0_addAll yX0_addAll]
def wsL_winnerOfAll_r2 : List Cond := [Cond.code yX0_addAll cX0_addAll 4 none, Cond.methodLink RX3 162 yX0_survey, Cond.instanceMethod yX0_survey, Cond.selects RX0 yX0_survey yX0_survey, Cond.code yX0_survey cX0_survey 2 none, Cond.methodLink RX0 28 yX0_findLeaves, Cond.instanceMethod yX0_findLeaves, Cond.selects RX0 yX0_findLeaves yX0_findLeaves, Cond.code yX0_findLeaves cX0_findLeaves 5 none, Cond.fieldLink RX0 15 "RevisionStores$Holding" "nearestLeaf" "[I", Cond.methodLink RX0 51 Lib.Math.min.name, Cond.static Lib.Math.min.name, Cond.initialized "java/lang/Math", Cond.code Lib.Math.min.name Lib.Math.min.code 2 (some .int), Cond.methodLink RX0 22 yJ7_fill_53178, Cond.static yJ7_fill_53178, Cond.initialized RJ7, Cond.code yJ7_fill_53178 cJ7_fill_53178 4 none, Cond.methodLink RX0 44 yX0_endsAt, Cond.instanceMethod yX0_endsAt, Cond.selects RX0 yX0_endsAt yX0_endsAt, Cond.code yX0_endsAt cX0_endsAt 2 (some .boolean), Cond.methodLink RX0 64 yX0_hasDescendantOf, Cond.instanceMethod yX0_hasDescendantOf]
def wsL_winnerOfAll_r3 : List Cond := [Cond.selects RX0 yX0_hasDescendantOf yX0_hasDescendantOf, Cond.code yX0_hasDescendantOf cX0_hasDescendantOf 2 (some .boolean), Cond.methodLink RX0 32 yX0_findWinners, Cond.instanceMethod yX0_findWinners, Cond.selects RX0 yX0_findWinners yX0_findWinners, Cond.code yX0_findWinners cX0_findWinners 5 none, Cond.fieldLink RX0 19 "RevisionStores$Holding" "winners" "[I", Cond.methodLink RX0 60 yX2_isBetter, Cond.instanceMethod yX2_isBetter, Cond.selects RX2 yX2_isBetter yX2_isBetter, Cond.initialized RX2, Cond.code yX2_isBetter cX2_isBetter 3 (some .boolean), Cond.fieldLink RX2 21 "RevisionStores$Tree" "deletions" "[Z", Cond.fieldLink RX2 25 "RevisionStores$Tree" "generations" "[I", Cond.fieldLink RX2 28 "RevisionStores$Tree" "sums" "[I"]
def wsL_winnerOfAll : List Cond := .codeWith yL_winnerOfAll cL_winnerOfAll 4 (some .int) [(0, 9, 12, 13)] :: ((wsL_winnerOfAll_r1 ++ (wsL_winnerOfAll_r2 ++ wsL_winnerOfAll_r3)) ++ wsX30 ++ wsX10 ++ wsX00 ++ wsX20 ++ (vx_atS RX3 184 "java/lang/IndexOutOfBoundsException" ["java/lang/RuntimeException", "java/lang/Exception"]).filter goodWord)
def wsL_conflicts_r1 : List Cond := [Cond.classLink RL 13 "java/lang/IndexOutOfBoundsException", Cond.methodLink RL 74 yX3_conflicts, Cond.instanceMethod yX3_conflicts, Cond.selects RX3 yX3_conflicts yX3_conflicts, Cond.initialized RX3, Cond.code yX3_conflicts cX3_conflicts 4 (some .int), Cond.fieldLink RX3 10 "RevisionStores" "tree" "LRevisionStores$Tree;", Cond.methodLink RX3 168 Lib.Math.max.name, Cond.static Lib.Math.max.name, Cond.initialized "java/lang/Math", Cond.code Lib.Math.max.name Lib.Math.max.code 2 (some .int), Cond.methodLink RX3 30 yX3_storeAt, Cond.instanceMethod yX3_storeAt, Cond.selects RX3 yX3_storeAt yX3_storeAt, Cond.code yX3_storeAt cX3_storeAt 2 (some (.object "RevisionStores$Store")), Cond.classLink RX3 180 "java/lang/IndexOutOfBoundsException", Cond.initialized "java/lang/IndexOutOfBoundsException", Cond.fieldLink RX3 18 "RevisionStores" "stores" "[LRevisionStores$Store;", Cond.methodLink RX3 34 yX3_checkDocument, Cond.instanceMethod yX3_checkDocument, Cond.selects RX3 yX3_checkDocument yX3_checkDocument, Cond.code yX3_checkDocument cX3_checkDocument 2 none, Cond.methodLink RX3 165 yX0_countLiveLeaves, Cond.instanceMethod yX0_countLiveLeaves]
def wsL_conflicts_r2 : List Cond := [Cond.selects RX0 yX0_countLiveLeaves yX0_countLiveLeaves, Cond.initialized RX0, Cond.code yX0_countLiveLeaves cX0_countLiveLeaves 5 (some .int), Cond.methodLink RX0 44 yX0_endsAt, Cond.instanceMethod yX0_endsAt, Cond.selects RX0 yX0_endsAt yX0_endsAt, Cond.code yX0_endsAt cX0_endsAt 2 (some .boolean), Cond.fieldLink RX0 9 "RevisionStores$Holding" "held" "[Z", Cond.methodLink RX0 64 yX0_hasDescendantOf, Cond.instanceMethod yX0_hasDescendantOf, Cond.selects RX0 yX0_hasDescendantOf yX0_hasDescendantOf, Cond.code yX0_hasDescendantOf cX0_hasDescendantOf 2 (some .boolean), Cond.fieldLink RX0 15 "RevisionStores$Holding" "nearestLeaf" "[I"]
def wsL_conflicts : List Cond := .codeWith yL_conflicts cL_conflicts 5 (some .int) [(0, 10, 13, 13)] :: ((wsL_conflicts_r1 ++ wsL_conflicts_r2) ++ wsX10 ++ wsX30 ++ wsX20 ++ wsX00 ++ (vx_atS RX3 184 "java/lang/IndexOutOfBoundsException" ["java/lang/RuntimeException", "java/lang/Exception"]).filter goodWord)
def wsL_count : List Cond := .codeWith yL_count cL_count 6 (some .int) [(0, 12, 15, 13)] :: ([.classLink RL 13 "java/lang/IndexOutOfBoundsException", .methodLink RL 77 yX3_count, .instanceMethod yX3_count, .selects RX3 yX3_count yX3_count, .initialized RX3, .code yX3_count cX3_count 8 (some .int), .fieldLink RX3 10 "RevisionStores" "tree" "LRevisionStores$Tree;", .methodLink RX3 30 yX3_storeAt, .instanceMethod yX3_storeAt, .selects RX3 yX3_storeAt yX3_storeAt, .code yX3_storeAt cX3_storeAt 2 (some (.object "RevisionStores$Store")), .classLink RX3 180 "java/lang/IndexOutOfBoundsException", .initialized "java/lang/IndexOutOfBoundsException", .fieldLink RX3 18 "RevisionStores" "stores" "[LRevisionStores$Store;", .methodLink RX3 173 yX0_shownValue, .instanceMethod yX0_shownValue, .selects RX0 yX0_shownValue yX0_shownValue, .initialized RX0, .code yX0_shownValue cX0_shownValue 4 (some .int), .fieldLink RX0 19 "RevisionStores$Holding" "winners" "[I"] ++ wsX10 ++ wsX30 ++ wsX00 ++ wsX20 ++ (vx_atS RX3 184 "java/lang/IndexOutOfBoundsException" ["java/lang/RuntimeException", "java/lang/Exception"]).filter goodWord)
def wsL_viewAt_r1 : List Cond := [Cond.classLink RL 13 "java/lang/IndexOutOfBoundsException", Cond.methodLink RL 80 yX3_viewAt, Cond.instanceMethod yX3_viewAt, Cond.selects RX3 yX3_viewAt yX3_viewAt, Cond.initialized RX3, Cond.code yX3_viewAt cX3_viewAt 6 (some .int), Cond.classLink RX3 180 "java/lang/IndexOutOfBoundsException", Cond.initialized "java/lang/IndexOutOfBoundsException", Cond.fieldLink RX3 10 "RevisionStores" "tree" "LRevisionStores$Tree;", Cond.methodLink RX3 30 yX3_storeAt, Cond.instanceMethod yX3_storeAt, Cond.selects RX3 yX3_storeAt yX3_storeAt, Cond.code yX3_storeAt cX3_storeAt 2 (some (.object "RevisionStores$Store")), Cond.fieldLink RX3 18 "RevisionStores" "stores" "[LRevisionStores$Store;", Cond.methodLink RX3 173 yX0_shownValue, Cond.instanceMethod yX0_shownValue, Cond.selects RX0 yX0_shownValue yX0_shownValue, Cond.initialized RX0, Cond.code yX0_shownValue cX0_shownValue 4 (some .int), Cond.fieldLink RX0 19 "RevisionStores$Holding" "winners" "[I", Cond.methodLink RX3 176 yX0_countShownBefore, Cond.instanceMethod yX0_countShownBefore, Cond.selects RX0 yX0_countShownBefore yX0_countShownBefore, Cond.code yX0_countShownBefore cX0_countShownBefore 7 (some .int)]
def wsL_viewAt_r2 : List Cond := [Cond.methodLink RX0 77 yX0_shownValue]
def wsL_viewAt : List Cond := .codeWith yL_viewAt cL_viewAt 5 (some .int) [(0, 10, 13, 13)] :: ((wsL_viewAt_r1 ++ wsL_viewAt_r2) ++ wsX10 ++ wsX30 ++ wsX00 ++ wsX20 ++ (vx_atS RX3 184 "java/lang/IndexOutOfBoundsException" ["java/lang/RuntimeException", "java/lang/Exception"]).filter goodWord)
def wsL_law0_r1 : List Cond := [Cond.classLink RL 8 RX3, Cond.instantiable RX3 3, Cond.initialized RX3, Cond.classLink RL 84 RX4, Cond.instantiable RX4 13, Cond.initialized RX4, Cond.arrayClass .long, Cond.methodLink RL 83 yX3_init, Cond.instanceMethod yX3_init, Cond.code yX3_init cX3_init 2 none, Cond.methodLink RX3 1 objectInit, Cond.instanceMethod objectInit, Cond.code objectInit ⟨#[0xb1]⟩ 1 none, Cond.classLink RX3 7 RX2, Cond.instantiable RX2 7, Cond.initialized RX2, Cond.fieldLink RX3 10 "RevisionStores" "tree" "LRevisionStores$Tree;", Cond.classLink RX3 16 RX1, Cond.fieldLink RX3 18 "RevisionStores" "stores" "[LRevisionStores$Store;", Cond.classLink RX3 22 RX0, Cond.instantiable RX0 3, Cond.initialized RX0, Cond.fieldLink RX3 25 "RevisionStores" "union" "LRevisionStores$Holding;", Cond.instantiable RX1 5]
def wsL_law0_r2 : List Cond := [Cond.initialized RX1, Cond.instanceMethod yX2_init, Cond.code yX2_init cX2_init 1 none, Cond.methodLink RX2 3 objectInit, Cond.arrayClass .int, Cond.fieldLink RX2 9 "RevisionStores$Tree" "documents" "[I", Cond.fieldLink RX2 15 "RevisionStores$Tree" "parents" "[I", Cond.fieldLink RX2 18 "RevisionStores$Tree" "values" "[I", Cond.arrayClass .boolean, Cond.fieldLink RX2 21 "RevisionStores$Tree" "deletions" "[Z", Cond.fieldLink RX2 25 "RevisionStores$Tree" "generations" "[I", Cond.fieldLink RX2 28 "RevisionStores$Tree" "sums" "[I", Cond.fieldLink RX2 31 "RevisionStores$Tree" "made" "I", Cond.methodLink RX3 24 yX0_init, Cond.instanceMethod yX0_init, Cond.code yX0_init cX0_init 1 none, Cond.methodLink RX0 3 objectInit, Cond.fieldLink RX0 9 "RevisionStores$Holding" "held" "[Z", Cond.fieldLink RX0 15 "RevisionStores$Holding" "nearestLeaf" "[I", Cond.fieldLink RX0 19 "RevisionStores$Holding" "winners" "[I", Cond.methodLink RX0 22 yJ7_fill_53178, Cond.static yJ7_fill_53178, Cond.initialized RJ7, Cond.code yJ7_fill_53178 cJ7_fill_53178 4 none]
def wsL_law0_r3 : List Cond := [Cond.instanceMethod yX1_init, Cond.code yX1_init cX1_init 1 none, Cond.methodLink RX1 3 objectInit, Cond.classLink RX1 9 RX0, Cond.fieldLink RX1 12 "RevisionStores$Store" "holding" "LRevisionStores$Holding;", Cond.fieldLink RX1 18 "RevisionStores$Store" "depth" "I", Cond.fieldLink RX1 22 "RevisionStores$Store" "latest" "I", Cond.fieldLink RX1 25 "RevisionStores$Store" "changes" "[I", Cond.fieldLink RX1 29 "RevisionStores$Store" "checkpoints" "[I", Cond.methodLink RX1 11 yX0_init, Cond.methodLink RL 86 yX4_init, Cond.instanceMethod yX4_init, Cond.code yX4_init cX4_init 2 none, Cond.methodLink RX4 1 objectInit, Cond.fieldLink RX4 7 "RevisionStoresModel" "documents" "[I", Cond.fieldLink RX4 13 "RevisionStoresModel" "parents" "[I", Cond.fieldLink RX4 16 "RevisionStoresModel" "values" "[I", Cond.fieldLink RX4 19 "RevisionStoresModel" "deletions" "[Z", Cond.fieldLink RX4 23 "RevisionStoresModel" "generations" "[I", Cond.fieldLink RX4 26 "RevisionStoresModel" "sums" "[I", Cond.fieldLink RX4 29 "RevisionStoresModel" "marks" "[Z", Cond.fieldLink RX4 32 "RevisionStoresModel" "depths" "[I", Cond.fieldLink RX4 35 "RevisionStoresModel" "sequences" "[I", Cond.fieldLink RX4 38 "RevisionStoresModel" "touched" "[I"]
def wsL_law0_r4 : List Cond := [Cond.fieldLink RX4 41 "RevisionStoresModel" "kept" "[I", Cond.methodLink RL 87 yL_edit, Cond.static yL_edit, Cond.initialized RL, Cond.codeWith yL_edit cL_edit 7 (some .int) [(0, 14, 17, 13), (0, 14, 21, 15), (0, 14, 25, 17)], Cond.classLink RL 13 "java/lang/IndexOutOfBoundsException", Cond.classLink RL 15 "java/lang/IllegalArgumentException", Cond.classLink RL 17 "java/lang/IllegalStateException", Cond.methodLink RL 7 yX3_edit, Cond.instanceMethod yX3_edit, Cond.selects RX3 yX3_edit yX3_edit, Cond.code yX3_edit cX3_edit 6 (some .int), Cond.classLink RX3 41 "java/lang/IllegalArgumentException", Cond.initialized "java/lang/IllegalArgumentException", Cond.methodLink RX3 30 yX3_storeAt, Cond.instanceMethod yX3_storeAt, Cond.selects RX3 yX3_storeAt yX3_storeAt, Cond.code yX3_storeAt cX3_storeAt 2 (some (.object "RevisionStores$Store")), Cond.classLink RX3 180 "java/lang/IndexOutOfBoundsException", Cond.initialized "java/lang/IndexOutOfBoundsException", Cond.methodLink RX3 34 yX3_checkDocument, Cond.instanceMethod yX3_checkDocument, Cond.selects RX3 yX3_checkDocument yX3_checkDocument, Cond.code yX3_checkDocument cX3_checkDocument 2 none]
def wsL_law0_r5 : List Cond := [Cond.methodLink RX3 38 yX3_checkRevision, Cond.instanceMethod yX3_checkRevision, Cond.selects RX3 yX3_checkRevision yX3_checkRevision, Cond.code yX3_checkRevision cX3_checkRevision 2 none, Cond.methodLink RX3 48 yX3_checkNotBegun, Cond.instanceMethod yX3_checkNotBegun, Cond.selects RX3 yX3_checkNotBegun yX3_checkNotBegun, Cond.code yX3_checkNotBegun cX3_checkNotBegun 3 none, Cond.classLink RX3 67 "java/lang/IllegalStateException", Cond.initialized "java/lang/IllegalStateException", Cond.methodLink RX3 52 yX3_checkLeaf, Cond.instanceMethod yX3_checkLeaf, Cond.selects RX3 yX3_checkLeaf yX3_checkLeaf, Cond.code yX3_checkLeaf cX3_checkLeaf 4 none, Cond.methodLink RX3 148 yX0_endsAt, Cond.instanceMethod yX0_endsAt, Cond.selects RX0 yX0_endsAt yX0_endsAt, Cond.code yX0_endsAt cX0_endsAt 2 (some .boolean), Cond.methodLink RX0 64 yX0_hasDescendantOf, Cond.instanceMethod yX0_hasDescendantOf, Cond.selects RX0 yX0_hasDescendantOf yX0_hasDescendantOf, Cond.code yX0_hasDescendantOf cX0_hasDescendantOf 2 (some .boolean), Cond.methodLink RX3 56 yX3_checkRoom, Cond.instanceMethod yX3_checkRoom]
def wsL_law0_r6 : List Cond := [Cond.selects RX3 yX3_checkRoom yX3_checkRoom, Cond.code yX3_checkRoom cX3_checkRoom 1 none, Cond.methodLink RX3 59 yX3_grow, Cond.instanceMethod yX3_grow, Cond.selects RX3 yX3_grow yX3_grow, Cond.code yX3_grow cX3_grow 7 (some .int), Cond.methodLink RX3 199 yX2_find, Cond.instanceMethod yX2_find, Cond.selects RX2 yX2_find yX2_find, Cond.code yX2_find cX2_find 6 (some .int), Cond.methodLink RX3 203 yX2_make, Cond.instanceMethod yX2_make, Cond.selects RX2 yX2_make yX2_make, Cond.code yX2_make cX2_make 8 (some .int), Cond.methodLink RX3 206 yX1_append, Cond.instanceMethod yX1_append, Cond.selects RX1 yX1_append yX1_append, Cond.code yX1_append cX1_append 3 none, Cond.methodLink RX1 41 yX1_noteChange, Cond.instanceMethod yX1_noteChange, Cond.selects RX1 yX1_noteChange yX1_noteChange, Cond.code yX1_noteChange cX1_noteChange 3 none, Cond.methodLink RX1 49 yX0_survey, Cond.instanceMethod yX0_survey]
def wsL_law0_r7 : List Cond := [Cond.selects RX0 yX0_survey yX0_survey, Cond.code yX0_survey cX0_survey 2 none, Cond.methodLink RX0 28 yX0_findLeaves, Cond.instanceMethod yX0_findLeaves, Cond.selects RX0 yX0_findLeaves yX0_findLeaves, Cond.code yX0_findLeaves cX0_findLeaves 5 none, Cond.methodLink RX0 51 Lib.Math.min.name, Cond.static Lib.Math.min.name, Cond.initialized "java/lang/Math", Cond.code Lib.Math.min.name Lib.Math.min.code 2 (some .int), Cond.methodLink RX0 44 yX0_endsAt, Cond.methodLink RX0 32 yX0_findWinners, Cond.instanceMethod yX0_findWinners, Cond.selects RX0 yX0_findWinners yX0_findWinners, Cond.code yX0_findWinners cX0_findWinners 5 none, Cond.methodLink RX0 60 yX2_isBetter, Cond.instanceMethod yX2_isBetter, Cond.selects RX2 yX2_isBetter yX2_isBetter, Cond.code yX2_isBetter cX2_isBetter 3 (some .boolean), Cond.methodLink RX1 53 yX0_stem, Cond.instanceMethod yX0_stem, Cond.selects RX0 yX0_stem yX0_stem, Cond.code yX0_stem cX0_stem 5 (some .int), Cond.methodLink RL 92 yX4_edit]
def wsL_law0_r8 : List Cond := [Cond.instanceMethod yX4_edit, Cond.selects RX4 yX4_edit yX4_edit, Cond.code yX4_edit cX4_edit 6 (some .int), Cond.methodLink RX4 87 yX4_isStore, Cond.static yX4_isStore, Cond.code yX4_isStore cX4_isStore 1 (some .boolean), Cond.methodLink RX4 48 yX4_in, Cond.static yX4_in, Cond.code yX4_in cX4_in 3 (some .boolean), Cond.methodLink RX4 91 yX4_isDocument, Cond.static yX4_isDocument, Cond.code yX4_isDocument cX4_isDocument 1 (some .boolean), Cond.methodLink RX4 94 yX4_isRevision, Cond.instanceMethod yX4_isRevision, Cond.selects RX4 yX4_isRevision yX4_isRevision, Cond.code yX4_isRevision cX4_isRevision 2 (some .boolean), Cond.fieldLink RX4 52 "RevisionStoresModel" "revisions" "I", Cond.methodLink RX4 97 yX4_canEdit, Cond.instanceMethod yX4_canEdit, Cond.selects RX4 yX4_canEdit yX4_canEdit, Cond.code yX4_canEdit cX4_canEdit 5 (some .boolean), Cond.methodLink RX4 83 yX4_best, Cond.instanceMethod yX4_best, Cond.selects RX4 yX4_best yX4_best]
def wsL_law0_r9 : List Cond := [Cond.code yX4_best cX4_best 6 (some .int), Cond.methodLink RX4 62 yX4_leaf, Cond.instanceMethod yX4_leaf, Cond.selects RX4 yX4_leaf yX4_leaf, Cond.code yX4_leaf cX4_leaf 3 (some .boolean), Cond.methodLink RX4 59 yX4_hasDescendant, Cond.instanceMethod yX4_hasDescendant, Cond.selects RX4 yX4_hasDescendant yX4_hasDescendant, Cond.code yX4_hasDescendant cX4_hasDescendant 5 (some .boolean), Cond.methodLink RX4 55 yX4_isAncestor, Cond.instanceMethod yX4_isAncestor, Cond.selects RX4 yX4_isAncestor yX4_isAncestor, Cond.code yX4_isAncestor cX4_isAncestor 4 (some .boolean), Cond.methodLink RX4 65 yX4_isBetter, Cond.instanceMethod yX4_isBetter, Cond.selects RX4 yX4_isBetter yX4_isBetter, Cond.code yX4_isBetter cX4_isBetter 3 (some .boolean), Cond.methodLink RX4 100 yX4_goes, Cond.instanceMethod yX4_goes, Cond.selects RX4 yX4_goes yX4_goes, Cond.code yX4_goes cX4_goes 4 (some .boolean), Cond.fieldLink RX4 44 "RevisionStoresModel" "last" "I", Cond.methodLink RX4 104 yX4_adds, Cond.instanceMethod yX4_adds]
def wsL_law0_r10 : List Cond := [Cond.selects RX4 yX4_adds yX4_adds, Cond.code yX4_adds cX4_adds 7 (some .int), Cond.methodLink RX4 71 yX4_makes, Cond.instanceMethod yX4_makes, Cond.selects RX4 yX4_makes yX4_makes, Cond.code yX4_makes cX4_makes 7 (some .int), Cond.methodLink RX4 75 yX4_touches, Cond.instanceMethod yX4_touches, Cond.selects RX4 yX4_touches yX4_touches, Cond.code yX4_touches cX4_touches 3 none, Cond.methodLink RX4 79 yX4_stems, Cond.instanceMethod yX4_stems, Cond.selects RX4 yX4_stems yX4_stems, Cond.code yX4_stems cX4_stems 4 (some .int), Cond.methodLink RX4 68 yX4_isDeep, Cond.instanceMethod yX4_isDeep, Cond.selects RX4 yX4_isDeep yX4_isDeep, Cond.code yX4_isDeep cX4_isDeep 5 (some .boolean), Cond.methodLink RL 93 yX4_thrown, Cond.instanceMethod yX4_thrown, Cond.selects RX4 yX4_thrown yX4_thrown, Cond.code yX4_thrown cX4_thrown 1 (some .int), Cond.methodLink RL 97 yL_delete, Cond.static yL_delete]
def wsL_law0_r11 : List Cond := [Cond.codeWith yL_delete cL_delete 6 (some .int) [(0, 12, 15, 13), (0, 12, 19, 17)], Cond.methodLink RL 19 yX3_delete, Cond.instanceMethod yX3_delete, Cond.selects RX3 yX3_delete yX3_delete, Cond.code yX3_delete cX3_delete 5 (some .int), Cond.methodLink RL 100 yX4_delete, Cond.instanceMethod yX4_delete, Cond.selects RX4 yX4_delete yX4_delete, Cond.code yX4_delete cX4_delete 5 (some .int), Cond.methodLink RL 101 yL_setDepth, Cond.static yL_setDepth, Cond.codeWith yL_setDepth cL_setDepth 5 (some .int) [(0, 10, 13, 13), (0, 10, 17, 15)], Cond.methodLink RL 23 yX3_setDepth, Cond.instanceMethod yX3_setDepth, Cond.selects RX3 yX3_setDepth yX3_setDepth, Cond.code yX3_setDepth cX3_setDepth 4 (some .int), Cond.methodLink RX3 81 yX0_stem, Cond.methodLink RL 104 yX4_setDepth, Cond.instanceMethod yX4_setDepth, Cond.selects RX4 yX4_setDepth yX4_setDepth, Cond.code yX4_setDepth cX4_setDepth 3 (some .int), Cond.methodLink RL 105 yL_wipe, Cond.static yL_wipe, Cond.codeWith yL_wipe cL_wipe 4 (some .int) [(0, 9, 12, 13)]]
def wsL_law0_r12 : List Cond := [Cond.methodLink RL 27 yX3_wipe, Cond.instanceMethod yX3_wipe, Cond.selects RX3 yX3_wipe yX3_wipe, Cond.code yX3_wipe cX3_wipe 4 (some .int), Cond.methodLink RX3 85 yX0_countAll, Cond.instanceMethod yX0_countAll, Cond.selects RX0 yX0_countAll yX0_countAll, Cond.code yX0_countAll cX0_countAll 4 (some .int), Cond.methodLink RX3 89 yX1_clear, Cond.instanceMethod yX1_clear, Cond.selects RX1 yX1_clear yX1_clear, Cond.code yX1_clear cX1_clear 2 none, Cond.methodLink RX1 57 yX0_removeAll, Cond.instanceMethod yX0_removeAll, Cond.selects RX0 yX0_removeAll yX0_removeAll, Cond.code yX0_removeAll cX0_removeAll 2 none, Cond.methodLink RX1 60 yJ7_fill_53178, Cond.methodLink RL 108 yX4_wipe, Cond.instanceMethod yX4_wipe, Cond.selects RX4 yX4_wipe yX4_wipe, Cond.code yX4_wipe cX4_wipe 4 (some .int), Cond.methodLink RL 109 yL_replicate, Cond.static yL_replicate, Cond.codeWith yL_replicate cL_replicate 6 (some .int) [(0, 12, 15, 13), (0, 12, 19, 15)]]
def wsL_law0_r13 : List Cond := [Cond.methodLink RL 31 yX3_replicate, Cond.instanceMethod yX3_replicate, Cond.selects RX3 yX3_replicate yX3_replicate, Cond.code yX3_replicate cX3_replicate 10 (some .int), Cond.methodLink RX3 95 yX3_checkDifferent, Cond.instanceMethod yX3_checkDifferent, Cond.selects RX3 yX3_checkDifferent yX3_checkDifferent, Cond.code yX3_checkDifferent cX3_checkDifferent 3 none, Cond.methodLink RX3 99 yX3_commonCheckpoint, Cond.instanceMethod yX3_commonCheckpoint, Cond.selects RX3 yX3_commonCheckpoint yX3_commonCheckpoint, Cond.code yX3_commonCheckpoint cX3_commonCheckpoint 4 (some .int), Cond.methodLink RX3 210 Lib.Math.min.name, Cond.methodLink RX3 121 yX3_pairOf, Cond.static yX3_pairOf, Cond.code yX3_pairOf cX3_pairOf 2 (some .int), Cond.methodLink RX3 103 yX1_nextChanged, Cond.instanceMethod yX1_nextChanged, Cond.selects RX1 yX1_nextChanged yX1_nextChanged, Cond.code yX1_nextChanged cX1_nextChanged 4 (some .int), Cond.methodLink RX3 107 yX1_receive, Cond.instanceMethod yX1_receive, Cond.selects RX1 yX1_receive yX1_receive, Cond.code yX1_receive cX1_receive 5 (some .int)]
def wsL_law0_r14 : List Cond := [Cond.methodLink RX1 45 yX0_addBranches, Cond.instanceMethod yX0_addBranches, Cond.selects RX0 yX0_addBranches yX0_addBranches, Cond.code yX0_addBranches cX0_addBranches 6 (some .int), Cond.methodLink RX0 67 yX0_addLine, Cond.instanceMethod yX0_addLine, Cond.selects RX0 yX0_addLine yX0_addLine, Cond.code yX0_addLine cX0_addLine 7 (some .int), Cond.methodLink RL 111 yX4_replicate, Cond.instanceMethod yX4_replicate, Cond.selects RX4 yX4_replicate yX4_replicate, Cond.code yX4_replicate cX4_replicate 8 (some .int), Cond.methodLink RX4 108 yX4_begins, Cond.instanceMethod yX4_begins, Cond.selects RX4 yX4_begins yX4_begins, Cond.code yX4_begins cX4_begins 5 (some .int), Cond.methodLink RX4 111 yX4_nextOf, Cond.instanceMethod yX4_nextOf, Cond.selects RX4 yX4_nextOf yX4_nextOf, Cond.code yX4_nextOf cX4_nextOf 6 (some .int), Cond.methodLink RX4 114 yX4_gets, Cond.instanceMethod yX4_gets, Cond.selects RX4 yX4_gets yX4_gets, Cond.code yX4_gets cX4_gets 9 (some .int)]
def wsL_law0_r15 : List Cond := [Cond.methodLink RL 112 yL_pending, Cond.static yL_pending, Cond.codeWith yL_pending cL_pending 5 (some .int) [(0, 10, 13, 13), (0, 10, 17, 15)], Cond.methodLink RL 34 yX3_pending, Cond.instanceMethod yX3_pending, Cond.selects RX3 yX3_pending yX3_pending, Cond.code yX3_pending cX3_pending 4 (some .int), Cond.methodLink RX3 124 yX1_countChanged, Cond.instanceMethod yX1_countChanged, Cond.selects RX1 yX1_countChanged yX1_countChanged, Cond.code yX1_countChanged cX1_countChanged 4 (some .int), Cond.methodLink RL 114 yX4_pending, Cond.instanceMethod yX4_pending, Cond.selects RX4 yX4_pending yX4_pending, Cond.code yX4_pending cX4_pending 5 (some .int), Cond.methodLink RL 115 yL_checkpoint, Cond.static yL_checkpoint, Cond.codeWith yL_checkpoint cL_checkpoint 5 (some .int) [(0, 10, 13, 13), (0, 10, 17, 15)], Cond.methodLink RL 37 yX3_checkpoint, Cond.instanceMethod yX3_checkpoint, Cond.selects RX3 yX3_checkpoint yX3_checkpoint, Cond.code yX3_checkpoint cX3_checkpoint 3 (some .int), Cond.methodLink RL 117 yX4_checkpoint, Cond.instanceMethod yX4_checkpoint]
def wsL_law0_r16 : List Cond := [Cond.selects RX4 yX4_checkpoint yX4_checkpoint, Cond.code yX4_checkpoint cX4_checkpoint 3 (some .int), Cond.methodLink RL 118 yX3_revisions, Cond.instanceMethod yX3_revisions, Cond.selects RX3 yX3_revisions yX3_revisions, Cond.code yX3_revisions cX3_revisions 1 (some .int), Cond.methodLink RL 121 yX4_revisions, Cond.instanceMethod yX4_revisions, Cond.selects RX4 yX4_revisions yX4_revisions, Cond.code yX4_revisions cX4_revisions 1 (some .int), Cond.methodLink RL 122 yL_documentOf, Cond.static yL_documentOf, Cond.codeWith yL_documentOf cL_documentOf 4 (some .int) [(0, 9, 12, 13)], Cond.methodLink RL 40 yX3_documentOf, Cond.instanceMethod yX3_documentOf, Cond.selects RX3 yX3_documentOf yX3_documentOf, Cond.code yX3_documentOf cX3_documentOf 2 (some .int), Cond.methodLink RL 124 yX4_documentOf, Cond.instanceMethod yX4_documentOf, Cond.selects RX4 yX4_documentOf yX4_documentOf, Cond.code yX4_documentOf cX4_documentOf 2 (some .int), Cond.methodLink RL 125 yL_parentOf, Cond.static yL_parentOf, Cond.codeWith yL_parentOf cL_parentOf 4 (some .int) [(0, 9, 12, 13)]]
def wsL_law0_r17 : List Cond := [Cond.methodLink RL 43 yX3_parentOf, Cond.instanceMethod yX3_parentOf, Cond.selects RX3 yX3_parentOf yX3_parentOf, Cond.code yX3_parentOf cX3_parentOf 2 (some .int), Cond.methodLink RL 127 yX4_parentOf, Cond.instanceMethod yX4_parentOf, Cond.selects RX4 yX4_parentOf yX4_parentOf, Cond.code yX4_parentOf cX4_parentOf 2 (some .int), Cond.methodLink RL 128 yL_generation, Cond.static yL_generation, Cond.codeWith yL_generation cL_generation 4 (some .int) [(0, 9, 12, 13)], Cond.methodLink RL 46 yX3_generation, Cond.instanceMethod yX3_generation, Cond.selects RX3 yX3_generation yX3_generation, Cond.code yX3_generation cX3_generation 2 (some .int), Cond.methodLink RL 130 yX4_generation, Cond.instanceMethod yX4_generation, Cond.selects RX4 yX4_generation yX4_generation, Cond.code yX4_generation cX4_generation 2 (some .int), Cond.methodLink RL 131 yL_sum, Cond.static yL_sum, Cond.codeWith yL_sum cL_sum 4 (some .int) [(0, 9, 12, 13)], Cond.methodLink RL 49 yX3_sum, Cond.instanceMethod yX3_sum]
def wsL_law0_r18 : List Cond := [Cond.selects RX3 yX3_sum yX3_sum, Cond.code yX3_sum cX3_sum 2 (some .int), Cond.methodLink RL 133 yX4_sum, Cond.instanceMethod yX4_sum, Cond.selects RX4 yX4_sum yX4_sum, Cond.code yX4_sum cX4_sum 2 (some .int), Cond.methodLink RL 134 yL_valueOf, Cond.static yL_valueOf, Cond.codeWith yL_valueOf cL_valueOf 4 (some .int) [(0, 9, 12, 13)], Cond.methodLink RL 52 yX3_valueOf, Cond.instanceMethod yX3_valueOf, Cond.selects RX3 yX3_valueOf yX3_valueOf, Cond.code yX3_valueOf cX3_valueOf 2 (some .int), Cond.methodLink RL 136 yX4_valueOf, Cond.instanceMethod yX4_valueOf, Cond.selects RX4 yX4_valueOf yX4_valueOf, Cond.code yX4_valueOf cX4_valueOf 2 (some .int), Cond.methodLink RL 137 yL_sequence, Cond.static yL_sequence, Cond.codeWith yL_sequence cL_sequence 4 (some .int) [(0, 9, 12, 13)], Cond.methodLink RL 55 yX3_sequence, Cond.instanceMethod yX3_sequence, Cond.selects RX3 yX3_sequence yX3_sequence, Cond.code yX3_sequence cX3_sequence 2 (some .int)]
def wsL_law0_r19 : List Cond := [Cond.methodLink RL 139 yX4_sequence, Cond.instanceMethod yX4_sequence, Cond.selects RX4 yX4_sequence yX4_sequence, Cond.code yX4_sequence cX4_sequence 2 (some .int), Cond.methodLink RL 140 yL_has, Cond.static yL_has, Cond.codeWith yL_has cL_has 5 (some .int) [(0, 17, 20, 13)], Cond.methodLink RL 58 yX3_has, Cond.instanceMethod yX3_has, Cond.selects RX3 yX3_has yX3_has, Cond.code yX3_has cX3_has 4 (some .boolean), Cond.methodLink RL 142 yX4_has, Cond.instanceMethod yX4_has, Cond.selects RX4 yX4_has yX4_has, Cond.code yX4_has cX4_has 3 (some .boolean), Cond.methodLink RL 143 yL_isLeaf, Cond.static yL_isLeaf, Cond.codeWith yL_isLeaf cL_isLeaf 5 (some .int) [(0, 17, 20, 13)], Cond.methodLink RL 62 yX3_isLeaf, Cond.instanceMethod yX3_isLeaf, Cond.selects RX3 yX3_isLeaf yX3_isLeaf, Cond.code yX3_isLeaf cX3_isLeaf 4 (some .boolean), Cond.methodLink RL 145 yX4_isLeaf, Cond.instanceMethod yX4_isLeaf]
def wsL_law0_r20 : List Cond := [Cond.selects RX4 yX4_isLeaf yX4_isLeaf, Cond.code yX4_isLeaf cX4_isLeaf 3 (some .boolean), Cond.methodLink RL 146 yL_size, Cond.static yL_size, Cond.codeWith yL_size cL_size 4 (some .int) [(0, 9, 12, 13)], Cond.methodLink RL 65 yX3_size, Cond.instanceMethod yX3_size, Cond.selects RX3 yX3_size yX3_size, Cond.code yX3_size cX3_size 2 (some .int), Cond.methodLink RL 148 yX4_size, Cond.instanceMethod yX4_size, Cond.selects RX4 yX4_size yX4_size, Cond.code yX4_size cX4_size 5 (some .int), Cond.methodLink RL 149 yL_winner, Cond.static yL_winner, Cond.codeWith yL_winner cL_winner 5 (some .int) [(0, 10, 13, 13)], Cond.methodLink RL 68 yX3_winner, Cond.instanceMethod yX3_winner, Cond.selects RX3 yX3_winner yX3_winner, Cond.code yX3_winner cX3_winner 4 (some .int), Cond.methodLink RL 151 yX4_winner, Cond.instanceMethod yX4_winner, Cond.selects RX4 yX4_winner yX4_winner, Cond.code yX4_winner cX4_winner 3 (some .int)]
def wsL_law0_r21 : List Cond := [Cond.methodLink RL 152 yL_winnerOfAll, Cond.static yL_winnerOfAll, Cond.codeWith yL_winnerOfAll cL_winnerOfAll 4 (some .int) [(0, 9, 12, 13)], Cond.methodLink RL 71 yX3_winnerOfAll, Cond.instanceMethod yX3_winnerOfAll, Cond.selects RX3 yX3_winnerOfAll yX3_winnerOfAll, Cond.code yX3_winnerOfAll cX3_winnerOfAll 3 (some .int), Cond.methodLink RX3 155 yX0_removeAll, Cond.methodLink RX3 158 yX0_addAll, Cond.instanceMethod yX0_addAll, Cond.selects RX0 yX0_addAll yX0_addAll, Cond.code yX0_addAll cX0_addAll 4 none, Cond.methodLink RX3 162 yX0_survey, Cond.methodLink RL 154 yX4_winnerOfAll, Cond.instanceMethod yX4_winnerOfAll, Cond.selects RX4 yX4_winnerOfAll yX4_winnerOfAll, Cond.code yX4_winnerOfAll cX4_winnerOfAll 6 (some .int), Cond.methodLink RX4 118 yX4_isAnywhere, Cond.instanceMethod yX4_isAnywhere, Cond.selects RX4 yX4_isAnywhere yX4_isAnywhere, Cond.code yX4_isAnywhere cX4_isAnywhere 2 (some .boolean), Cond.methodLink RL 155 yL_conflicts, Cond.static yL_conflicts, Cond.codeWith yL_conflicts cL_conflicts 5 (some .int) [(0, 10, 13, 13)]]
def wsL_law0_r22 : List Cond := [Cond.methodLink RL 74 yX3_conflicts, Cond.instanceMethod yX3_conflicts, Cond.selects RX3 yX3_conflicts yX3_conflicts, Cond.code yX3_conflicts cX3_conflicts 4 (some .int), Cond.methodLink RX3 168 Lib.Math.max.name, Cond.static Lib.Math.max.name, Cond.code Lib.Math.max.name Lib.Math.max.code 2 (some .int), Cond.methodLink RX3 165 yX0_countLiveLeaves, Cond.instanceMethod yX0_countLiveLeaves, Cond.selects RX0 yX0_countLiveLeaves yX0_countLiveLeaves, Cond.code yX0_countLiveLeaves cX0_countLiveLeaves 5 (some .int), Cond.methodLink RL 157 yX4_conflicts, Cond.instanceMethod yX4_conflicts, Cond.selects RX4 yX4_conflicts yX4_conflicts, Cond.code yX4_conflicts cX4_conflicts 5 (some .int), Cond.methodLink RL 158 yL_count, Cond.static yL_count, Cond.codeWith yL_count cL_count 6 (some .int) [(0, 12, 15, 13)], Cond.methodLink RL 77 yX3_count, Cond.instanceMethod yX3_count, Cond.selects RX3 yX3_count yX3_count, Cond.code yX3_count cX3_count 8 (some .int), Cond.methodLink RX3 173 yX0_shownValue, Cond.instanceMethod yX0_shownValue]
def wsL_law0_r23 : List Cond := [Cond.selects RX0 yX0_shownValue yX0_shownValue, Cond.code yX0_shownValue cX0_shownValue 4 (some .int), Cond.methodLink RL 160 yX4_count, Cond.instanceMethod yX4_count, Cond.selects RX4 yX4_count yX4_count, Cond.code yX4_count cX4_count 8 (some .int), Cond.methodLink RX4 121 yX4_shown, Cond.instanceMethod yX4_shown, Cond.selects RX4 yX4_shown yX4_shown, Cond.code yX4_shown cX4_shown 4 (some .int), Cond.methodLink RL 161 yL_viewAt, Cond.static yL_viewAt, Cond.codeWith yL_viewAt cL_viewAt 5 (some .int) [(0, 10, 13, 13)], Cond.methodLink RL 80 yX3_viewAt, Cond.instanceMethod yX3_viewAt, Cond.selects RX3 yX3_viewAt yX3_viewAt, Cond.code yX3_viewAt cX3_viewAt 6 (some .int), Cond.methodLink RX3 176 yX0_countShownBefore, Cond.instanceMethod yX0_countShownBefore, Cond.selects RX0 yX0_countShownBefore yX0_countShownBefore, Cond.code yX0_countShownBefore cX0_countShownBefore 7 (some .int), Cond.methodLink RX0 77 yX0_shownValue, Cond.methodLink RL 163 yX4_viewAt, Cond.instanceMethod yX4_viewAt]
def wsL_law0_r24 : List Cond := [Cond.selects RX4 yX4_viewAt yX4_viewAt, Cond.code yX4_viewAt cX4_viewAt 4 (some .int), Cond.methodLink RX4 124 yX4_placed, Cond.instanceMethod yX4_placed, Cond.selects RX4 yX4_placed yX4_placed, Cond.code yX4_placed cX4_placed 7 (some .int)]
def wsL_law0 : List Cond := (wsL_law0_r1 ++ (wsL_law0_r2 ++ (wsL_law0_r3 ++ (wsL_law0_r4 ++ (wsL_law0_r5 ++ (wsL_law0_r6 ++ (wsL_law0_r7 ++ (wsL_law0_r8 ++ (wsL_law0_r9 ++ (wsL_law0_r10 ++ (wsL_law0_r11 ++ (wsL_law0_r12 ++ (wsL_law0_r13 ++ (wsL_law0_r14 ++ (wsL_law0_r15 ++ (wsL_law0_r16 ++ (wsL_law0_r17 ++ (wsL_law0_r18 ++ (wsL_law0_r19 ++ (wsL_law0_r20 ++ (wsL_law0_r21 ++ (wsL_law0_r22 ++ (wsL_law0_r23 ++ wsL_law0_r24))))))))))))))))))))))) ++ wsX30 ++ wsX40 ++ wsX20 ++ wsX00 ++ wsX10 ++ ([] : List Cond)
def wsL_law : List Cond := wsL_law0 ++ (vx_atS RX3 45 "java/lang/IllegalArgumentException" ["java/lang/RuntimeException", "java/lang/Exception"]).filter goodWord ++ (vx_atS RX3 184 "java/lang/IndexOutOfBoundsException" ["java/lang/RuntimeException", "java/lang/Exception"]).filter goodWord ++ (vx_atS RX3 71 "java/lang/IllegalStateException" ["java/lang/RuntimeException", "java/lang/Exception"]).filter goodWord
end
section
theorem mem_r {big : List Cond} (ws : List Cond) (ps : List Nat) (hp : ws = ps.filterMap (fun i => big[i]?)) : ∀ w ∈ ws, w ∈ big := by
  intro w hw
  rw [hp] at hw
  obtain ⟨i, -, hi⟩ := List.mem_filterMap.mp hw
  exact List.mem_of_getElem? hi
theorem mem_app {big a b : List Cond} (ha : ∀ w ∈ a, w ∈ big) (hb : ∀ w ∈ b, w ∈ big) : ∀ w ∈ a ++ b, w ∈ big := fun w h => (List.mem_append.mp h).elim (ha w) (hb w)
set_option maxRecDepth 20000 in
theorem wsL_law0_p1 : ∀ w ∈ wsL_law0_r1, w ∈ lw_tbl := mem_r _ [47, 48, 34, 568, 569, 39, 791, 49, 50, 51, 52, 53, 54, 55, 56, 35, 151, 99, 152, 101, 102, 36, 153, 123] (by decide +kernel)
set_option maxRecDepth 20000 in
theorem wsL_law0_p2 : ∀ w ∈ wsL_law0_r2, w ∈ lw_tbl := mem_r _ [38, 58, 59, 60, 97, 61, 65, 68, 98, 71, 74, 77, 79, 103, 104, 105, 106, 110, 113, 114, 107, 108, 37, 109] (by decide +kernel)
set_option maxRecDepth 20000 in
theorem wsL_law0_p3 : ∀ w ∈ wsL_law0_r3, w ∈ lw_tbl := mem_r _ [125, 126, 127, 128, 130, 132, 134, 136, 138, 129, 570, 571, 572, 573, 574, 575, 576, 577, 578, 579, 581, 582, 583, 584] (by decide +kernel)
set_option maxRecDepth 20000 in
theorem wsL_law0_p4 : ∀ w ∈ wsL_law0_r4, w ∈ lw_tbl := mem_r _ [585, 165, 166, 33, 167, 168, 169, 170, 171, 172, 173, 174, 257, 44, 175, 177, 0, 178, 179, 43, 247, 249, 2, 250] (by decide +kernel)
set_option maxRecDepth 20000 in
theorem wsL_law0_p5 : ∀ w ∈ wsL_law0_r5, w ∈ lw_tbl := mem_r _ [252, 254, 3, 255, 273, 275, 4, 276, 277, 45, 293, 295, 5, 296, 297, 298, 299, 300, 301, 302, 303, 304, 306, 308] (by decide +kernel)
set_option maxRecDepth 20000 in
theorem wsL_law0_p6 : ∀ w ∈ wsL_law0_r6, w ∈ lw_tbl := mem_r _ [6, 309, 311, 313, 7, 314, 315, 316, 317, 318, 319, 320, 321, 322, 323, 324, 325, 326, 327, 329, 8, 330, 331, 332] (by decide +kernel)
set_option maxRecDepth 20000 in
theorem wsL_law0_p7 : ∀ w ∈ wsL_law0_r7, w ∈ lw_tbl := mem_r _ [333, 334, 335, 337, 9, 338, 340, 341, 46, 342, 339, 343, 345, 10, 346, 347, 348, 349, 350, 351, 352, 353, 354, 618] (by decide +kernel)
set_option maxRecDepth 20000 in
theorem wsL_law0_p8 : ∀ w ∈ wsL_law0_r8, w ∈ lw_tbl := mem_r _ [619, 620, 621, 622, 623, 624, 625, 626, 627, 628, 629, 630, 631, 633, 14, 634, 580, 635, 637, 15, 638, 639, 641, 16] (by decide +kernel)
set_option maxRecDepth 20000 in
theorem wsL_law0_p9 : ∀ w ∈ wsL_law0_r9, w ∈ lw_tbl := mem_r _ [642, 643, 645, 17, 646, 647, 649, 18, 650, 651, 653, 19, 654, 655, 657, 20, 658, 659, 661, 21, 662, 586, 663, 665] (by decide +kernel)
set_option maxRecDepth 20000 in
theorem wsL_law0_p10 : ∀ w ∈ wsL_law0_r10, w ∈ lw_tbl := mem_r _ [22, 666, 667, 669, 23, 670, 671, 673, 24, 674, 675, 677, 25, 678, 679, 681, 26, 682, 614, 615, 616, 617, 355, 356] (by decide +kernel)
set_option maxRecDepth 20000 in
theorem wsL_law0_p11 : ∀ w ∈ wsL_law0_r11, w ∈ lw_tbl := mem_r _ [357, 358, 359, 360, 361, 683, 684, 685, 686, 363, 364, 365, 366, 367, 368, 369, 371, 687, 688, 689, 690, 372, 373, 374] (by decide +kernel)
set_option maxRecDepth 20000 in
theorem wsL_law0_p12 : ∀ w ∈ wsL_law0_r12, w ∈ lw_tbl := mem_r _ [375, 376, 377, 378, 379, 380, 381, 382, 383, 384, 385, 386, 387, 388, 389, 390, 391, 691, 692, 693, 694, 392, 393, 394] (by decide +kernel)
set_option maxRecDepth 20000 in
theorem wsL_law0_p13 : ∀ w ∈ wsL_law0_r13, w ∈ lw_tbl := mem_r _ [395, 396, 397, 398, 400, 402, 11, 403, 405, 407, 12, 408, 412, 409, 410, 411, 413, 414, 415, 416, 417, 418, 419, 420] (by decide +kernel)
set_option maxRecDepth 20000 in
theorem wsL_law0_p14 : ∀ w ∈ wsL_law0_r14, w ∈ lw_tbl := mem_r _ [421, 422, 423, 424, 425, 427, 13, 428, 695, 696, 697, 698, 699, 701, 27, 702, 703, 705, 28, 706, 707, 709, 29, 710] (by decide +kernel)
set_option maxRecDepth 20000 in
theorem wsL_law0_p15 : ∀ w ∈ wsL_law0_r15, w ∈ lw_tbl := mem_r _ [429, 430, 431, 432, 433, 434, 435, 436, 437, 438, 439, 711, 712, 713, 714, 440, 441, 442, 443, 444, 445, 446, 715, 716] (by decide +kernel)
set_option maxRecDepth 20000 in
theorem wsL_law0_p16 : ∀ w ∈ wsL_law0_r16, w ∈ lw_tbl := mem_r _ [717, 718, 161, 162, 163, 164, 719, 720, 721, 722, 447, 448, 449, 450, 451, 452, 453, 723, 724, 725, 726, 454, 455, 456] (by decide +kernel)
set_option maxRecDepth 20000 in
theorem wsL_law0_p17 : ∀ w ∈ wsL_law0_r17, w ∈ lw_tbl := mem_r _ [457, 458, 459, 460, 727, 728, 729, 730, 461, 462, 463, 464, 465, 466, 467, 731, 732, 733, 734, 468, 469, 470, 471, 472] (by decide +kernel)
set_option maxRecDepth 20000 in
theorem wsL_law0_p18 : ∀ w ∈ wsL_law0_r18, w ∈ lw_tbl := mem_r _ [473, 474, 735, 736, 737, 738, 475, 476, 477, 478, 479, 480, 481, 739, 740, 741, 742, 482, 483, 484, 485, 486, 487, 488] (by decide +kernel)
set_option maxRecDepth 20000 in
theorem wsL_law0_p19 : ∀ w ∈ wsL_law0_r19, w ∈ lw_tbl := mem_r _ [743, 744, 745, 746, 489, 490, 491, 492, 493, 494, 495, 747, 748, 749, 750, 496, 497, 498, 499, 500, 501, 502, 751, 752] (by decide +kernel)
set_option maxRecDepth 20000 in
theorem wsL_law0_p20 : ∀ w ∈ wsL_law0_r20, w ∈ lw_tbl := mem_r _ [753, 754, 503, 504, 505, 506, 507, 508, 509, 755, 756, 757, 758, 510, 511, 512, 513, 514, 515, 516, 759, 760, 761, 762] (by decide +kernel)
set_option maxRecDepth 20000 in
theorem wsL_law0_p21 : ∀ w ∈ wsL_law0_r21, w ∈ lw_tbl := mem_r _ [517, 518, 519, 520, 521, 522, 523, 524, 525, 526, 527, 528, 529, 763, 764, 765, 766, 767, 769, 30, 770, 530, 531, 532] (by decide +kernel)
set_option maxRecDepth 20000 in
theorem wsL_law0_p22 : ∀ w ∈ wsL_law0_r22, w ∈ lw_tbl := mem_r _ [533, 534, 535, 536, 541, 542, 543, 537, 538, 539, 540, 771, 772, 773, 774, 544, 545, 546, 547, 548, 549, 550, 551, 552] (by decide +kernel)
set_option maxRecDepth 20000 in
theorem wsL_law0_p23 : ∀ w ∈ wsL_law0_r23, w ∈ lw_tbl := mem_r _ [553, 554, 775, 776, 777, 778, 779, 781, 31, 782, 555, 556, 557, 558, 559, 560, 561, 562, 563, 564, 565, 566, 783, 784] (by decide +kernel)
set_option maxRecDepth 20000 in
theorem wsL_law0_p24 : ∀ w ∈ wsL_law0_r24, w ∈ lw_tbl := mem_r _ [785, 786, 787, 789, 32, 790] (by decide +kernel)
theorem wsL_law0_wsX30 : ∀ w ∈ wsX30, w ∈ lw_tbl := by decide +kernel
theorem wsL_law0_wsX40 : ∀ w ∈ wsX40, w ∈ lw_tbl := by decide +kernel
theorem wsL_law0_wsX20 : ∀ w ∈ wsX20, w ∈ lw_tbl := by decide +kernel
theorem wsL_law0_wsX00 : ∀ w ∈ wsX00, w ∈ lw_tbl := by decide +kernel
theorem wsL_law0_wsX10 : ∀ w ∈ wsX10, w ∈ lw_tbl := by decide +kernel
theorem wsL_law_in0 : ∀ w ∈ wsL_law0, w ∈ lw_tbl := by
  unfold wsL_law0
  exact mem_app (mem_app (mem_app (mem_app (mem_app (mem_app (mem_app wsL_law0_p1 (mem_app wsL_law0_p2 (mem_app wsL_law0_p3 (mem_app wsL_law0_p4 (mem_app wsL_law0_p5 (mem_app wsL_law0_p6 (mem_app wsL_law0_p7 (mem_app wsL_law0_p8 (mem_app wsL_law0_p9 (mem_app wsL_law0_p10 (mem_app wsL_law0_p11 (mem_app wsL_law0_p12 (mem_app wsL_law0_p13 (mem_app wsL_law0_p14 (mem_app wsL_law0_p15 (mem_app wsL_law0_p16 (mem_app wsL_law0_p17 (mem_app wsL_law0_p18 (mem_app wsL_law0_p19 (mem_app wsL_law0_p20 (mem_app wsL_law0_p21 (mem_app wsL_law0_p22 (mem_app wsL_law0_p23 (wsL_law0_p24)))))))))))))))))))))))) wsL_law0_wsX30) wsL_law0_wsX40) wsL_law0_wsX20) wsL_law0_wsX00) wsL_law0_wsX10) (fun _ h => absurd h List.not_mem_nil)
theorem wsL_law_x0 : ∀ w ∈ (vx_atS RX3 45 "java/lang/IllegalArgumentException" ["java/lang/RuntimeException", "java/lang/Exception"]).filter goodWord, w ∈ lw_tbl := by decide +kernel
theorem wsL_law_x1 : ∀ w ∈ (vx_atS RX3 184 "java/lang/IndexOutOfBoundsException" ["java/lang/RuntimeException", "java/lang/Exception"]).filter goodWord, w ∈ lw_tbl := by decide +kernel
theorem wsL_law_x2 : ∀ w ∈ (vx_atS RX3 71 "java/lang/IllegalStateException" ["java/lang/RuntimeException", "java/lang/Exception"]).filter goodWord, w ∈ lw_tbl := by decide +kernel
theorem wsL_law_in : ∀ w ∈ wsL_law, w ∈ lw_tbl := fun w h => (List.mem_append.mp h).elim (fun h => (List.mem_append.mp h).elim (fun h => (List.mem_append.mp h).elim (fun h => wsL_law_in0 w h) (fun h => wsL_law_x0 w h)) (fun h => wsL_law_x1 w h)) (fun h => wsL_law_x2 w h)
theorem inlX0 : ∀ w ∈ wsX00, w ∈ wsL_law := fun _ h => List.mem_append_left _ (List.mem_append_left _ (List.mem_append_left _ (List.mem_append_left _ (List.mem_append_left _ (List.mem_append_right _ h)))))
theorem inX0 : ∀ w ∈ wsX00, w ∈ lw_tbl := fun w h => wsL_law_in w (inlX0 w h)
theorem inlX1 : ∀ w ∈ wsX10, w ∈ wsL_law := fun _ h => List.mem_append_left _ (List.mem_append_left _ (List.mem_append_left _ (List.mem_append_left _ (List.mem_append_right _ h))))
theorem inX1 : ∀ w ∈ wsX10, w ∈ lw_tbl := fun w h => wsL_law_in w (inlX1 w h)
theorem inlX2 : ∀ w ∈ wsX20, w ∈ wsL_law := fun _ h => List.mem_append_left _ (List.mem_append_left _ (List.mem_append_left _ (List.mem_append_left _ (List.mem_append_left _ (List.mem_append_left _ (List.mem_append_right _ h))))))
theorem inX2 : ∀ w ∈ wsX20, w ∈ lw_tbl := fun w h => wsL_law_in w (inlX2 w h)
theorem inlX3 : ∀ w ∈ wsX30, w ∈ wsL_law := fun _ h => List.mem_append_left _ (List.mem_append_left _ (List.mem_append_left _ (List.mem_append_left _ (List.mem_append_left _ (List.mem_append_left _ (List.mem_append_left _ (List.mem_append_left _ (List.mem_append_right _ h))))))))
theorem inX3 : ∀ w ∈ wsX30, w ∈ lw_tbl := fun w h => wsL_law_in w (inlX3 w h)
theorem inlX4 : ∀ w ∈ wsX40, w ∈ wsL_law := fun _ h => List.mem_append_left _ (List.mem_append_left _ (List.mem_append_left _ (List.mem_append_left _ (List.mem_append_left _ (List.mem_append_left _ (List.mem_append_left _ (List.mem_append_right _ h)))))))
theorem inX4 : ∀ w ∈ wsX40, w ∈ lw_tbl := fun w h => wsL_law_in w (inlX4 w h)
theorem inJx145de : ∀ w ∈ wsJx145de0, w ∈ lw_tbl := by decide +kernel
theorem inJ9 : ∀ w ∈ wsJ90, w ∈ lw_tbl := by decide +kernel
theorem inJ0 : ∀ w ∈ wsJ00, w ∈ lw_tbl := by decide +kernel
theorem inJ7 : ∀ w ∈ wsJ70, w ∈ lw_tbl := by decide +kernel
end
section
set_option maxRecDepth 20000 in
theorem ggX0_init_J7_fill_53178 : GoodIn wsX0_init wsJ7_fill_53178 := goodIn_r _ [12] (by decide +kernel) (by decide +kernel)
set_option maxRecDepth 20000 in
theorem gX0_init_J7_fill_53178 : GoodIn wsX0_init (va_wsS RX0 22 yJ7_fill_53178 wsJ7_fill_53178) := goodIn_app (goodIn_of _ (by decide +kernel)) ggX0_init_J7_fill_53178
theorem dX0_init_0 : decode cX0_init 0 = .ok (.aload_n 0, 1) := by decide +kernel
theorem dX0_init_1 : decode cX0_init 1 = .ok (.invokespecial 3, 3) := by decide +kernel
theorem dX0_init_4 : decode cX0_init 4 = .ok (.aload_n 0, 1) := by decide +kernel
theorem dX0_init_5 : decode cX0_init 5 = .ok (.sipush 150, 3) := by decide +kernel
theorem dX0_init_8 : decode cX0_init 8 = .ok (.newarray .boolean, 2) := by decide +kernel
theorem dX0_init_10 : decode cX0_init 10 = .ok (.putfield 9, 3) := by decide +kernel
theorem dX0_init_13 : decode cX0_init 13 = .ok (.aload_n 0, 1) := by decide +kernel
theorem dX0_init_14 : decode cX0_init 14 = .ok (.sipush 150, 3) := by decide +kernel
theorem dX0_init_17 : decode cX0_init 17 = .ok (.newarray .int, 2) := by decide +kernel
theorem dX0_init_19 : decode cX0_init 19 = .ok (.putfield 15, 3) := by decide +kernel
theorem dX0_init_22 : decode cX0_init 22 = .ok (.aload_n 0, 1) := by decide +kernel
theorem dX0_init_23 : decode cX0_init 23 = .ok (.iconst 4, 1) := by decide +kernel
theorem dX0_init_24 : decode cX0_init 24 = .ok (.newarray .int, 2) := by decide +kernel
theorem dX0_init_26 : decode cX0_init 26 = .ok (.putfield 19, 3) := by decide +kernel
theorem dX0_init_29 : decode cX0_init 29 = .ok (.aload_n 0, 1) := by decide +kernel
theorem dX0_init_30 : decode cX0_init 30 = .ok (.getfield 15, 3) := by decide +kernel
theorem dX0_init_33 : decode cX0_init 33 = .ok (.sipush 151, 3) := by decide +kernel
theorem dX0_init_36 : decode cX0_init 36 = .ok (.invokestatic 22, 3) := by decide +kernel
theorem dX0_init_39 : decode cX0_init 39 = .ok (.aload_n 0, 1) := by decide +kernel
theorem dX0_init_40 : decode cX0_init 40 = .ok (.getfield 19, 3) := by decide +kernel
theorem dX0_init_43 : decode cX0_init 43 = .ok (.iconst (-1), 1) := by decide +kernel
theorem dX0_init_44 : decode cX0_init 44 = .ok (.invokestatic 22, 3) := by decide +kernel
theorem dX0_init_47 : decode cX0_init 47 = .ok (.return_, 1) := by decide +kernel
set_option maxRecDepth 20000 in
theorem ggX0_survey_X0_findLeaves : GoodIn wsX0_survey wsX0_findLeaves := goodIn_r _ [5, 6, 7, 8, 9, 10, 11, 12, 13, 14, 15, 16, 17, 4, 18, 19, 20, 21, 22, 23, 37, 38, 39, 40, 41, 42, 43, 44, 45, 46] (by decide +kernel) (by decide +kernel)
set_option maxRecDepth 20000 in
theorem gX0_survey_X0_findLeaves : GoodIn wsX0_survey (wsV RX0 28 RX0 yX0_findLeaves wsX0_findLeaves) := goodIn_app (goodIn_of _ (by decide +kernel)) ggX0_survey_X0_findLeaves
set_option maxRecDepth 20000 in
theorem ggX0_survey_X0_findWinners : GoodIn wsX0_survey wsX0_findWinners := goodIn_r _ [27, 28, 11, 12, 13, 14, 15, 16, 17, 4, 18, 19, 20, 21, 22, 23, 6, 29, 30, 31, 32, 33, 34, 35, 36, 37, 38, 39, 40, 41, 42, 43, 44, 45, 46] (by decide +kernel) (by decide +kernel)
set_option maxRecDepth 20000 in
theorem gX0_survey_X0_findWinners : GoodIn wsX0_survey (wsV RX0 32 RX0 yX0_findWinners wsX0_findWinners) := goodIn_app (goodIn_of _ (by decide +kernel)) ggX0_survey_X0_findWinners
theorem dX0_survey_0 : decode cX0_survey 0 = .ok (.aload_n 0, 1) := by decide +kernel
theorem dX0_survey_1 : decode cX0_survey 1 = .ok (.aload_n 1, 1) := by decide +kernel
theorem dX0_survey_2 : decode cX0_survey 2 = .ok (.invokevirtual 28, 3) := by decide +kernel
theorem dX0_survey_5 : decode cX0_survey 5 = .ok (.aload_n 0, 1) := by decide +kernel
theorem dX0_survey_6 : decode cX0_survey 6 = .ok (.aload_n 1, 1) := by decide +kernel
theorem dX0_survey_7 : decode cX0_survey 7 = .ok (.invokevirtual 32, 3) := by decide +kernel
theorem dX0_survey_10 : decode cX0_survey 10 = .ok (.return_, 1) := by decide +kernel
set_option maxRecDepth 20000 in
theorem ggX0_findLeaves_J7_fill_53178 : GoodIn wsX0_findLeaves wsJ7_fill_53178 := goodIn_r _ [9] (by decide +kernel) (by decide +kernel)
set_option maxRecDepth 20000 in
theorem gX0_findLeaves_J7_fill_53178 : GoodIn wsX0_findLeaves (va_wsS RX0 22 yJ7_fill_53178 wsJ7_fill_53178) := goodIn_app (goodIn_of _ (by decide +kernel)) ggX0_findLeaves_J7_fill_53178
set_option maxRecDepth 20000 in
theorem ggX0_findLeaves_X0_endsAt : GoodIn wsX0_findLeaves wsX0_endsAt := goodIn_r _ [14, 15, 16, 17, 18, 13, 19, 1, 20, 21, 22] (by decide +kernel) (by decide +kernel)
set_option maxRecDepth 20000 in
theorem gX0_findLeaves_X0_endsAt : GoodIn wsX0_findLeaves (wsV RX0 44 RX0 yX0_endsAt wsX0_endsAt) := goodIn_app (goodIn_of _ (by decide +kernel)) ggX0_findLeaves_X0_endsAt
theorem dX0_findLeaves_0 : decode cX0_findLeaves 0 = .ok (.aload_n 0, 1) := by decide +kernel
theorem dX0_findLeaves_1 : decode cX0_findLeaves 1 = .ok (.getfield 15, 3) := by decide +kernel
theorem dX0_findLeaves_4 : decode cX0_findLeaves 4 = .ok (.sipush 151, 3) := by decide +kernel
theorem dX0_findLeaves_7 : decode cX0_findLeaves 7 = .ok (.invokestatic 22, 3) := by decide +kernel
theorem dX0_findLeaves_10 : decode cX0_findLeaves 10 = .ok (.aload_n 1, 1) := by decide +kernel
theorem dX0_findLeaves_11 : decode cX0_findLeaves 11 = .ok (.getfield 35, 3) := by decide +kernel
theorem dX0_findLeaves_14 : decode cX0_findLeaves 14 = .ok (.iconst 1, 1) := by decide +kernel
theorem dX0_findLeaves_15 : decode cX0_findLeaves 15 = .ok (.isub, 1) := by decide +kernel
theorem dX0_findLeaves_16 : decode cX0_findLeaves 16 = .ok (.istore_n 2, 1) := by decide +kernel
theorem dX0_findLeaves_17 : decode cX0_findLeaves 17 = .ok (.iload_n 2, 1) := by decide +kernel
theorem dX0_findLeaves_18 : decode cX0_findLeaves 18 = .ok (.ifCond .lt 63, 3) := by decide +kernel
theorem dX0_findLeaves_21 : decode cX0_findLeaves 21 = .ok (.aload_n 1, 1) := by decide +kernel
theorem dX0_findLeaves_22 : decode cX0_findLeaves 22 = .ok (.getfield 41, 3) := by decide +kernel
theorem dX0_findLeaves_25 : decode cX0_findLeaves 25 = .ok (.iload_n 2, 1) := by decide +kernel
theorem dX0_findLeaves_26 : decode cX0_findLeaves 26 = .ok (.iaload, 1) := by decide +kernel
theorem dX0_findLeaves_27 : decode cX0_findLeaves 27 = .ok (.istore_n 3, 1) := by decide +kernel
theorem dX0_findLeaves_28 : decode cX0_findLeaves 28 = .ok (.iload_n 3, 1) := by decide +kernel
theorem dX0_findLeaves_29 : decode cX0_findLeaves 29 = .ok (.iconst (-1), 1) := by decide +kernel
theorem dX0_findLeaves_30 : decode cX0_findLeaves 30 = .ok (.if_icmp .eq 45, 3) := by decide +kernel
theorem dX0_findLeaves_33 : decode cX0_findLeaves 33 = .ok (.aload_n 0, 1) := by decide +kernel
theorem dX0_findLeaves_34 : decode cX0_findLeaves 34 = .ok (.iload_n 2, 1) := by decide +kernel
theorem dX0_findLeaves_35 : decode cX0_findLeaves 35 = .ok (.invokevirtual 44, 3) := by decide +kernel
theorem dX0_findLeaves_38 : decode cX0_findLeaves 38 = .ok (.ifCond .eq 12, 3) := by decide +kernel
theorem dX0_findLeaves_41 : decode cX0_findLeaves 41 = .ok (.aload_n 1, 1) := by decide +kernel
theorem dX0_findLeaves_42 : decode cX0_findLeaves 42 = .ok (.getfield 48, 3) := by decide +kernel
theorem dX0_findLeaves_45 : decode cX0_findLeaves 45 = .ok (.iload_n 2, 1) := by decide +kernel
theorem dX0_findLeaves_46 : decode cX0_findLeaves 46 = .ok (.iaload, 1) := by decide +kernel
theorem dX0_findLeaves_47 : decode cX0_findLeaves 47 = .ok (.goto 9, 3) := by decide +kernel
theorem dX0_findLeaves_50 : decode cX0_findLeaves 50 = .ok (.aload_n 0, 1) := by decide +kernel
theorem dX0_findLeaves_51 : decode cX0_findLeaves 51 = .ok (.getfield 15, 3) := by decide +kernel
theorem dX0_findLeaves_54 : decode cX0_findLeaves 54 = .ok (.iload_n 2, 1) := by decide +kernel
theorem dX0_findLeaves_55 : decode cX0_findLeaves 55 = .ok (.iaload, 1) := by decide +kernel
theorem dX0_findLeaves_56 : decode cX0_findLeaves 56 = .ok (.istore 4, 2) := by decide +kernel
theorem dX0_findLeaves_58 : decode cX0_findLeaves 58 = .ok (.aload_n 0, 1) := by decide +kernel
theorem dX0_findLeaves_59 : decode cX0_findLeaves 59 = .ok (.getfield 15, 3) := by decide +kernel
theorem dX0_findLeaves_62 : decode cX0_findLeaves 62 = .ok (.iload_n 3, 1) := by decide +kernel
theorem dX0_findLeaves_63 : decode cX0_findLeaves 63 = .ok (.aload_n 0, 1) := by decide +kernel
theorem dX0_findLeaves_64 : decode cX0_findLeaves 64 = .ok (.getfield 15, 3) := by decide +kernel
theorem dX0_findLeaves_67 : decode cX0_findLeaves 67 = .ok (.iload_n 3, 1) := by decide +kernel
theorem dX0_findLeaves_68 : decode cX0_findLeaves 68 = .ok (.iaload, 1) := by decide +kernel
theorem dX0_findLeaves_69 : decode cX0_findLeaves 69 = .ok (.iload 4, 2) := by decide +kernel
theorem dX0_findLeaves_71 : decode cX0_findLeaves 71 = .ok (.invokestatic 51, 3) := by decide +kernel
theorem dX0_findLeaves_74 : decode cX0_findLeaves 74 = .ok (.iastore, 1) := by decide +kernel
theorem dX0_findLeaves_75 : decode cX0_findLeaves 75 = .ok (.iinc 2 (-1), 3) := by decide +kernel
theorem dX0_findLeaves_78 : decode cX0_findLeaves 78 = .ok (.goto (-61), 3) := by decide +kernel
theorem dX0_findLeaves_81 : decode cX0_findLeaves 81 = .ok (.return_, 1) := by decide +kernel
set_option maxRecDepth 20000 in
theorem ggX0_findWinners_J7_fill_53178 : GoodIn wsX0_findWinners wsJ7_fill_53178 := goodIn_r _ [5] (by decide +kernel) (by decide +kernel)
set_option maxRecDepth 20000 in
theorem gX0_findWinners_J7_fill_53178 : GoodIn wsX0_findWinners (va_wsS RX0 22 yJ7_fill_53178 wsJ7_fill_53178) := goodIn_app (goodIn_of _ (by decide +kernel)) ggX0_findWinners_J7_fill_53178
set_option maxRecDepth 20000 in
theorem ggX0_findWinners_X0_endsAt : GoodIn wsX0_findWinners wsX0_endsAt := goodIn_r _ [10, 11, 12, 13, 14, 9, 15, 16, 25, 26, 27] (by decide +kernel) (by decide +kernel)
set_option maxRecDepth 20000 in
theorem gX0_findWinners_X0_endsAt : GoodIn wsX0_findWinners (wsV RX0 44 RX0 yX0_endsAt wsX0_endsAt) := goodIn_app (goodIn_of _ (by decide +kernel)) ggX0_findWinners_X0_endsAt
set_option maxRecDepth 20000 in
theorem ggX0_findWinners_X2_isBetter : GoodIn wsX0_findWinners wsX2_isBetter := goodIn_r _ [21, 22, 23, 24, 28, 29, 30, 31, 32, 33, 34] (by decide +kernel) (by decide +kernel)
set_option maxRecDepth 20000 in
theorem gX0_findWinners_X2_isBetter : GoodIn wsX0_findWinners (wsV RX0 60 RX2 yX2_isBetter wsX2_isBetter) := goodIn_app (goodIn_of _ (by decide +kernel)) ggX0_findWinners_X2_isBetter
theorem dX0_findWinners_0 : decode cX0_findWinners 0 = .ok (.aload_n 0, 1) := by decide +kernel
theorem dX0_findWinners_1 : decode cX0_findWinners 1 = .ok (.getfield 19, 3) := by decide +kernel
theorem dX0_findWinners_4 : decode cX0_findWinners 4 = .ok (.iconst (-1), 1) := by decide +kernel
theorem dX0_findWinners_5 : decode cX0_findWinners 5 = .ok (.invokestatic 22, 3) := by decide +kernel
theorem dX0_findWinners_8 : decode cX0_findWinners 8 = .ok (.iconst 0, 1) := by decide +kernel
theorem dX0_findWinners_9 : decode cX0_findWinners 9 = .ok (.istore_n 2, 1) := by decide +kernel
theorem dX0_findWinners_10 : decode cX0_findWinners 10 = .ok (.iload_n 2, 1) := by decide +kernel
theorem dX0_findWinners_11 : decode cX0_findWinners 11 = .ok (.aload_n 1, 1) := by decide +kernel
theorem dX0_findWinners_12 : decode cX0_findWinners 12 = .ok (.getfield 35, 3) := by decide +kernel
theorem dX0_findWinners_15 : decode cX0_findWinners 15 = .ok (.if_icmp .ge 55, 3) := by decide +kernel
theorem dX0_findWinners_18 : decode cX0_findWinners 18 = .ok (.aload_n 0, 1) := by decide +kernel
theorem dX0_findWinners_19 : decode cX0_findWinners 19 = .ok (.iload_n 2, 1) := by decide +kernel
theorem dX0_findWinners_20 : decode cX0_findWinners 20 = .ok (.invokevirtual 44, 3) := by decide +kernel
theorem dX0_findWinners_23 : decode cX0_findWinners 23 = .ok (.ifCond .eq 41, 3) := by decide +kernel
theorem dX0_findWinners_26 : decode cX0_findWinners 26 = .ok (.aload_n 1, 1) := by decide +kernel
theorem dX0_findWinners_27 : decode cX0_findWinners 27 = .ok (.getfield 57, 3) := by decide +kernel
theorem dX0_findWinners_30 : decode cX0_findWinners 30 = .ok (.iload_n 2, 1) := by decide +kernel
theorem dX0_findWinners_31 : decode cX0_findWinners 31 = .ok (.iaload, 1) := by decide +kernel
theorem dX0_findWinners_32 : decode cX0_findWinners 32 = .ok (.istore_n 3, 1) := by decide +kernel
theorem dX0_findWinners_33 : decode cX0_findWinners 33 = .ok (.aload_n 0, 1) := by decide +kernel
theorem dX0_findWinners_34 : decode cX0_findWinners 34 = .ok (.getfield 19, 3) := by decide +kernel
theorem dX0_findWinners_37 : decode cX0_findWinners 37 = .ok (.iload_n 3, 1) := by decide +kernel
theorem dX0_findWinners_38 : decode cX0_findWinners 38 = .ok (.iaload, 1) := by decide +kernel
theorem dX0_findWinners_39 : decode cX0_findWinners 39 = .ok (.istore 4, 2) := by decide +kernel
theorem dX0_findWinners_41 : decode cX0_findWinners 41 = .ok (.iload 4, 2) := by decide +kernel
theorem dX0_findWinners_43 : decode cX0_findWinners 43 = .ok (.iconst (-1), 1) := by decide +kernel
theorem dX0_findWinners_44 : decode cX0_findWinners 44 = .ok (.if_icmp .eq 13, 3) := by decide +kernel
theorem dX0_findWinners_47 : decode cX0_findWinners 47 = .ok (.aload_n 1, 1) := by decide +kernel
theorem dX0_findWinners_48 : decode cX0_findWinners 48 = .ok (.iload_n 2, 1) := by decide +kernel
theorem dX0_findWinners_49 : decode cX0_findWinners 49 = .ok (.iload 4, 2) := by decide +kernel
theorem dX0_findWinners_51 : decode cX0_findWinners 51 = .ok (.invokevirtual 60, 3) := by decide +kernel
theorem dX0_findWinners_54 : decode cX0_findWinners 54 = .ok (.ifCond .eq 10, 3) := by decide +kernel
theorem dX0_findWinners_57 : decode cX0_findWinners 57 = .ok (.aload_n 0, 1) := by decide +kernel
theorem dX0_findWinners_58 : decode cX0_findWinners 58 = .ok (.getfield 19, 3) := by decide +kernel
theorem dX0_findWinners_61 : decode cX0_findWinners 61 = .ok (.iload_n 3, 1) := by decide +kernel
theorem dX0_findWinners_62 : decode cX0_findWinners 62 = .ok (.iload_n 2, 1) := by decide +kernel
theorem dX0_findWinners_63 : decode cX0_findWinners 63 = .ok (.iastore, 1) := by decide +kernel
theorem dX0_findWinners_64 : decode cX0_findWinners 64 = .ok (.iinc 2 1, 3) := by decide +kernel
theorem dX0_findWinners_67 : decode cX0_findWinners 67 = .ok (.goto (-57), 3) := by decide +kernel
theorem dX0_findWinners_70 : decode cX0_findWinners 70 = .ok (.return_, 1) := by decide +kernel
set_option maxRecDepth 20000 in
theorem ggX0_stem_X0_hasDescendantOf : GoodIn wsX0_stem wsX0_hasDescendantOf := goodIn_r _ [7, 2, 15, 16, 17] (by decide +kernel) (by decide +kernel)
set_option maxRecDepth 20000 in
theorem gX0_stem_X0_hasDescendantOf : GoodIn wsX0_stem (wsV RX0 64 RX0 yX0_hasDescendantOf wsX0_hasDescendantOf) := goodIn_app (goodIn_of _ (by decide +kernel)) ggX0_stem_X0_hasDescendantOf
theorem dX0_stem_0 : decode cX0_stem 0 = .ok (.iconst 0, 1) := by decide +kernel
theorem dX0_stem_1 : decode cX0_stem 1 = .ok (.istore_n 3, 1) := by decide +kernel
theorem dX0_stem_2 : decode cX0_stem 2 = .ok (.iconst 0, 1) := by decide +kernel
theorem dX0_stem_3 : decode cX0_stem 3 = .ok (.istore 4, 2) := by decide +kernel
theorem dX0_stem_5 : decode cX0_stem 5 = .ok (.iload 4, 2) := by decide +kernel
theorem dX0_stem_7 : decode cX0_stem 7 = .ok (.aload_n 1, 1) := by decide +kernel
theorem dX0_stem_8 : decode cX0_stem 8 = .ok (.getfield 35, 3) := by decide +kernel
theorem dX0_stem_11 : decode cX0_stem 11 = .ok (.if_icmp .ge 58, 3) := by decide +kernel
theorem dX0_stem_14 : decode cX0_stem 14 = .ok (.aload_n 0, 1) := by decide +kernel
theorem dX0_stem_15 : decode cX0_stem 15 = .ok (.getfield 9, 3) := by decide +kernel
theorem dX0_stem_18 : decode cX0_stem 18 = .ok (.iload 4, 2) := by decide +kernel
theorem dX0_stem_20 : decode cX0_stem 20 = .ok (.baload, 1) := by decide +kernel
theorem dX0_stem_21 : decode cX0_stem 21 = .ok (.ifCond .eq 42, 3) := by decide +kernel
theorem dX0_stem_24 : decode cX0_stem 24 = .ok (.aload_n 0, 1) := by decide +kernel
theorem dX0_stem_25 : decode cX0_stem 25 = .ok (.iload 4, 2) := by decide +kernel
theorem dX0_stem_27 : decode cX0_stem 27 = .ok (.invokevirtual 64, 3) := by decide +kernel
theorem dX0_stem_30 : decode cX0_stem 30 = .ok (.ifCond .eq 33, 3) := by decide +kernel
theorem dX0_stem_33 : decode cX0_stem 33 = .ok (.aload_n 0, 1) := by decide +kernel
theorem dX0_stem_34 : decode cX0_stem 34 = .ok (.getfield 15, 3) := by decide +kernel
theorem dX0_stem_37 : decode cX0_stem 37 = .ok (.iload 4, 2) := by decide +kernel
theorem dX0_stem_39 : decode cX0_stem 39 = .ok (.iaload, 1) := by decide +kernel
theorem dX0_stem_40 : decode cX0_stem 40 = .ok (.aload_n 1, 1) := by decide +kernel
theorem dX0_stem_41 : decode cX0_stem 41 = .ok (.getfield 48, 3) := by decide +kernel
theorem dX0_stem_44 : decode cX0_stem 44 = .ok (.iload 4, 2) := by decide +kernel
theorem dX0_stem_46 : decode cX0_stem 46 = .ok (.iaload, 1) := by decide +kernel
theorem dX0_stem_47 : decode cX0_stem 47 = .ok (.isub, 1) := by decide +kernel
theorem dX0_stem_48 : decode cX0_stem 48 = .ok (.iload_n 2, 1) := by decide +kernel
theorem dX0_stem_49 : decode cX0_stem 49 = .ok (.if_icmp .lt 14, 3) := by decide +kernel
theorem dX0_stem_52 : decode cX0_stem 52 = .ok (.aload_n 0, 1) := by decide +kernel
theorem dX0_stem_53 : decode cX0_stem 53 = .ok (.getfield 9, 3) := by decide +kernel
theorem dX0_stem_56 : decode cX0_stem 56 = .ok (.iload 4, 2) := by decide +kernel
theorem dX0_stem_58 : decode cX0_stem 58 = .ok (.iconst 0, 1) := by decide +kernel
theorem dX0_stem_59 : decode cX0_stem 59 = .ok (.bastore, 1) := by decide +kernel
theorem dX0_stem_60 : decode cX0_stem 60 = .ok (.iinc 3 1, 3) := by decide +kernel
theorem dX0_stem_63 : decode cX0_stem 63 = .ok (.iinc 4 1, 3) := by decide +kernel
theorem dX0_stem_66 : decode cX0_stem 66 = .ok (.goto (-61), 3) := by decide +kernel
theorem dX0_stem_69 : decode cX0_stem 69 = .ok (.iload_n 3, 1) := by decide +kernel
theorem dX0_stem_70 : decode cX0_stem 70 = .ok (.ireturn, 1) := by decide +kernel
theorem dX0_hasDescendantOf_0 : decode cX0_hasDescendantOf 0 = .ok (.aload_n 0, 1) := by decide +kernel
theorem dX0_hasDescendantOf_1 : decode cX0_hasDescendantOf 1 = .ok (.getfield 15, 3) := by decide +kernel
theorem dX0_hasDescendantOf_4 : decode cX0_hasDescendantOf 4 = .ok (.iload_n 1, 1) := by decide +kernel
theorem dX0_hasDescendantOf_5 : decode cX0_hasDescendantOf 5 = .ok (.iaload, 1) := by decide +kernel
theorem dX0_hasDescendantOf_6 : decode cX0_hasDescendantOf 6 = .ok (.sipush 151, 3) := by decide +kernel
theorem dX0_hasDescendantOf_9 : decode cX0_hasDescendantOf 9 = .ok (.if_icmp .eq 7, 3) := by decide +kernel
theorem dX0_hasDescendantOf_12 : decode cX0_hasDescendantOf 12 = .ok (.iconst 1, 1) := by decide +kernel
theorem dX0_hasDescendantOf_13 : decode cX0_hasDescendantOf 13 = .ok (.goto 4, 3) := by decide +kernel
theorem dX0_hasDescendantOf_16 : decode cX0_hasDescendantOf 16 = .ok (.iconst 0, 1) := by decide +kernel
theorem dX0_hasDescendantOf_17 : decode cX0_hasDescendantOf 17 = .ok (.ireturn, 1) := by decide +kernel
set_option maxRecDepth 20000 in
theorem ggX0_endsAt_X0_hasDescendantOf : GoodIn wsX0_endsAt wsX0_hasDescendantOf := goodIn_r _ [6, 7, 8, 9, 10] (by decide +kernel) (by decide +kernel)
set_option maxRecDepth 20000 in
theorem gX0_endsAt_X0_hasDescendantOf : GoodIn wsX0_endsAt (wsV RX0 64 RX0 yX0_hasDescendantOf wsX0_hasDescendantOf) := goodIn_app (goodIn_of _ (by decide +kernel)) ggX0_endsAt_X0_hasDescendantOf
theorem dX0_endsAt_0 : decode cX0_endsAt 0 = .ok (.aload_n 0, 1) := by decide +kernel
theorem dX0_endsAt_1 : decode cX0_endsAt 1 = .ok (.getfield 9, 3) := by decide +kernel
theorem dX0_endsAt_4 : decode cX0_endsAt 4 = .ok (.iload_n 1, 1) := by decide +kernel
theorem dX0_endsAt_5 : decode cX0_endsAt 5 = .ok (.baload, 1) := by decide +kernel
theorem dX0_endsAt_6 : decode cX0_endsAt 6 = .ok (.ifCond .eq 15, 3) := by decide +kernel
theorem dX0_endsAt_9 : decode cX0_endsAt 9 = .ok (.aload_n 0, 1) := by decide +kernel
theorem dX0_endsAt_10 : decode cX0_endsAt 10 = .ok (.iload_n 1, 1) := by decide +kernel
theorem dX0_endsAt_11 : decode cX0_endsAt 11 = .ok (.invokevirtual 64, 3) := by decide +kernel
theorem dX0_endsAt_14 : decode cX0_endsAt 14 = .ok (.ifCond .ne 7, 3) := by decide +kernel
theorem dX0_endsAt_17 : decode cX0_endsAt 17 = .ok (.iconst 1, 1) := by decide +kernel
theorem dX0_endsAt_18 : decode cX0_endsAt 18 = .ok (.goto 4, 3) := by decide +kernel
theorem dX0_endsAt_21 : decode cX0_endsAt 21 = .ok (.iconst 0, 1) := by decide +kernel
theorem dX0_endsAt_22 : decode cX0_endsAt 22 = .ok (.ireturn, 1) := by decide +kernel
theorem dX0_removeAll_0 : decode cX0_removeAll 0 = .ok (.iconst 0, 1) := by decide +kernel
theorem dX0_removeAll_1 : decode cX0_removeAll 1 = .ok (.istore_n 1, 1) := by decide +kernel
theorem dX0_removeAll_2 : decode cX0_removeAll 2 = .ok (.iload_n 1, 1) := by decide +kernel
theorem dX0_removeAll_3 : decode cX0_removeAll 3 = .ok (.sipush 150, 3) := by decide +kernel
theorem dX0_removeAll_6 : decode cX0_removeAll 6 = .ok (.if_icmp .ge 16, 3) := by decide +kernel
theorem dX0_removeAll_9 : decode cX0_removeAll 9 = .ok (.aload_n 0, 1) := by decide +kernel
theorem dX0_removeAll_10 : decode cX0_removeAll 10 = .ok (.getfield 9, 3) := by decide +kernel
theorem dX0_removeAll_13 : decode cX0_removeAll 13 = .ok (.iload_n 1, 1) := by decide +kernel
theorem dX0_removeAll_14 : decode cX0_removeAll 14 = .ok (.iconst 0, 1) := by decide +kernel
theorem dX0_removeAll_15 : decode cX0_removeAll 15 = .ok (.bastore, 1) := by decide +kernel
theorem dX0_removeAll_16 : decode cX0_removeAll 16 = .ok (.iinc 1 1, 3) := by decide +kernel
theorem dX0_removeAll_19 : decode cX0_removeAll 19 = .ok (.goto (-17), 3) := by decide +kernel
theorem dX0_removeAll_22 : decode cX0_removeAll 22 = .ok (.return_, 1) := by decide +kernel
theorem dX0_addAll_0 : decode cX0_addAll 0 = .ok (.iconst 0, 1) := by decide +kernel
theorem dX0_addAll_1 : decode cX0_addAll 1 = .ok (.istore_n 3, 1) := by decide +kernel
theorem dX0_addAll_2 : decode cX0_addAll 2 = .ok (.iload_n 3, 1) := by decide +kernel
theorem dX0_addAll_3 : decode cX0_addAll 3 = .ok (.aload_n 1, 1) := by decide +kernel
theorem dX0_addAll_4 : decode cX0_addAll 4 = .ok (.getfield 35, 3) := by decide +kernel
theorem dX0_addAll_7 : decode cX0_addAll 7 = .ok (.if_icmp .ge 38, 3) := by decide +kernel
theorem dX0_addAll_10 : decode cX0_addAll 10 = .ok (.aload_n 0, 1) := by decide +kernel
theorem dX0_addAll_11 : decode cX0_addAll 11 = .ok (.getfield 9, 3) := by decide +kernel
theorem dX0_addAll_14 : decode cX0_addAll 14 = .ok (.iload_n 3, 1) := by decide +kernel
theorem dX0_addAll_15 : decode cX0_addAll 15 = .ok (.aload_n 0, 1) := by decide +kernel
theorem dX0_addAll_16 : decode cX0_addAll 16 = .ok (.getfield 9, 3) := by decide +kernel
theorem dX0_addAll_19 : decode cX0_addAll 19 = .ok (.iload_n 3, 1) := by decide +kernel
theorem dX0_addAll_20 : decode cX0_addAll 20 = .ok (.baload, 1) := by decide +kernel
theorem dX0_addAll_21 : decode cX0_addAll 21 = .ok (.ifCond .ne 12, 3) := by decide +kernel
theorem dX0_addAll_24 : decode cX0_addAll 24 = .ok (.aload_n 2, 1) := by decide +kernel
theorem dX0_addAll_25 : decode cX0_addAll 25 = .ok (.getfield 9, 3) := by decide +kernel
theorem dX0_addAll_28 : decode cX0_addAll 28 = .ok (.iload_n 3, 1) := by decide +kernel
theorem dX0_addAll_29 : decode cX0_addAll 29 = .ok (.baload, 1) := by decide +kernel
theorem dX0_addAll_30 : decode cX0_addAll 30 = .ok (.ifCond .eq 7, 3) := by decide +kernel
theorem dX0_addAll_33 : decode cX0_addAll 33 = .ok (.iconst 1, 1) := by decide +kernel
theorem dX0_addAll_34 : decode cX0_addAll 34 = .ok (.goto 4, 3) := by decide +kernel
theorem dX0_addAll_37 : decode cX0_addAll 37 = .ok (.iconst 0, 1) := by decide +kernel
theorem dX0_addAll_38 : decode cX0_addAll 38 = .ok (.bastore, 1) := by decide +kernel
theorem dX0_addAll_39 : decode cX0_addAll 39 = .ok (.iinc 3 1, 3) := by decide +kernel
theorem dX0_addAll_42 : decode cX0_addAll 42 = .ok (.goto (-40), 3) := by decide +kernel
theorem dX0_addAll_45 : decode cX0_addAll 45 = .ok (.return_, 1) := by decide +kernel
set_option maxRecDepth 20000 in
theorem ggX0_addBranches_X0_endsAt : GoodIn wsX0_addBranches wsX0_endsAt := goodIn_r _ [6, 1, 7, 8, 9, 5, 10, 11, 23, 24, 25] (by decide +kernel) (by decide +kernel)
set_option maxRecDepth 20000 in
theorem gX0_addBranches_X0_endsAt : GoodIn wsX0_addBranches (wsV RX0 44 RX0 yX0_endsAt wsX0_endsAt) := goodIn_app (goodIn_of _ (by decide +kernel)) ggX0_addBranches_X0_endsAt
set_option maxRecDepth 20000 in
theorem ggX0_addBranches_X0_hasDescendantOf : GoodIn wsX0_addBranches wsX0_hasDescendantOf := goodIn_r _ [10, 11, 23, 24, 25] (by decide +kernel) (by decide +kernel)
set_option maxRecDepth 20000 in
theorem gX0_addBranches_X0_hasDescendantOf : GoodIn wsX0_addBranches (wsV RX0 64 RX0 yX0_hasDescendantOf wsX0_hasDescendantOf) := goodIn_app (goodIn_of _ (by decide +kernel)) ggX0_addBranches_X0_hasDescendantOf
set_option maxRecDepth 20000 in
theorem ggX0_addBranches_X0_addLine : GoodIn wsX0_addBranches wsX0_addLine := goodIn_r _ [15, 1, 23, 24, 25, 16, 17, 18, 19, 20, 21, 22] (by decide +kernel) (by decide +kernel)
set_option maxRecDepth 20000 in
theorem gX0_addBranches_X0_addLine : GoodIn wsX0_addBranches (wsV RX0 67 RX0 yX0_addLine wsX0_addLine) := goodIn_app (goodIn_of _ (by decide +kernel)) ggX0_addBranches_X0_addLine
theorem dX0_addBranches_0 : decode cX0_addBranches 0 = .ok (.iconst 0, 1) := by decide +kernel
theorem dX0_addBranches_1 : decode cX0_addBranches 1 = .ok (.istore 4, 2) := by decide +kernel
theorem dX0_addBranches_3 : decode cX0_addBranches 3 = .ok (.iconst 0, 1) := by decide +kernel
theorem dX0_addBranches_4 : decode cX0_addBranches 4 = .ok (.istore 5, 2) := by decide +kernel
theorem dX0_addBranches_6 : decode cX0_addBranches 6 = .ok (.iload 5, 2) := by decide +kernel
theorem dX0_addBranches_8 : decode cX0_addBranches 8 = .ok (.aload_n 1, 1) := by decide +kernel
theorem dX0_addBranches_9 : decode cX0_addBranches 9 = .ok (.getfield 35, 3) := by decide +kernel
theorem dX0_addBranches_12 : decode cX0_addBranches 12 = .ok (.if_icmp .ge 61, 3) := by decide +kernel
theorem dX0_addBranches_15 : decode cX0_addBranches 15 = .ok (.aload_n 1, 1) := by decide +kernel
theorem dX0_addBranches_16 : decode cX0_addBranches 16 = .ok (.getfield 57, 3) := by decide +kernel
theorem dX0_addBranches_19 : decode cX0_addBranches 19 = .ok (.iload 5, 2) := by decide +kernel
theorem dX0_addBranches_21 : decode cX0_addBranches 21 = .ok (.iaload, 1) := by decide +kernel
theorem dX0_addBranches_22 : decode cX0_addBranches 22 = .ok (.iload_n 3, 1) := by decide +kernel
theorem dX0_addBranches_23 : decode cX0_addBranches 23 = .ok (.if_icmp .ne 44, 3) := by decide +kernel
theorem dX0_addBranches_26 : decode cX0_addBranches 26 = .ok (.aload_n 2, 1) := by decide +kernel
theorem dX0_addBranches_27 : decode cX0_addBranches 27 = .ok (.iload 5, 2) := by decide +kernel
theorem dX0_addBranches_29 : decode cX0_addBranches 29 = .ok (.invokevirtual 44, 3) := by decide +kernel
theorem dX0_addBranches_32 : decode cX0_addBranches 32 = .ok (.ifCond .eq 35, 3) := by decide +kernel
theorem dX0_addBranches_35 : decode cX0_addBranches 35 = .ok (.aload_n 0, 1) := by decide +kernel
theorem dX0_addBranches_36 : decode cX0_addBranches 36 = .ok (.getfield 9, 3) := by decide +kernel
theorem dX0_addBranches_39 : decode cX0_addBranches 39 = .ok (.iload 5, 2) := by decide +kernel
theorem dX0_addBranches_41 : decode cX0_addBranches 41 = .ok (.baload, 1) := by decide +kernel
theorem dX0_addBranches_42 : decode cX0_addBranches 42 = .ok (.ifCond .ne 25, 3) := by decide +kernel
theorem dX0_addBranches_45 : decode cX0_addBranches 45 = .ok (.aload_n 0, 1) := by decide +kernel
theorem dX0_addBranches_46 : decode cX0_addBranches 46 = .ok (.iload 5, 2) := by decide +kernel
theorem dX0_addBranches_48 : decode cX0_addBranches 48 = .ok (.invokevirtual 64, 3) := by decide +kernel
theorem dX0_addBranches_51 : decode cX0_addBranches 51 = .ok (.ifCond .ne 16, 3) := by decide +kernel
theorem dX0_addBranches_54 : decode cX0_addBranches 54 = .ok (.iload 4, 2) := by decide +kernel
theorem dX0_addBranches_56 : decode cX0_addBranches 56 = .ok (.aload_n 0, 1) := by decide +kernel
theorem dX0_addBranches_57 : decode cX0_addBranches 57 = .ok (.aload_n 1, 1) := by decide +kernel
theorem dX0_addBranches_58 : decode cX0_addBranches 58 = .ok (.aload_n 2, 1) := by decide +kernel
theorem dX0_addBranches_59 : decode cX0_addBranches 59 = .ok (.iload 5, 2) := by decide +kernel
theorem dX0_addBranches_61 : decode cX0_addBranches 61 = .ok (.invokevirtual 67, 3) := by decide +kernel
theorem dX0_addBranches_64 : decode cX0_addBranches 64 = .ok (.iadd, 1) := by decide +kernel
theorem dX0_addBranches_65 : decode cX0_addBranches 65 = .ok (.istore 4, 2) := by decide +kernel
theorem dX0_addBranches_67 : decode cX0_addBranches 67 = .ok (.iinc 5 1, 3) := by decide +kernel
theorem dX0_addBranches_70 : decode cX0_addBranches 70 = .ok (.goto (-64), 3) := by decide +kernel
theorem dX0_addBranches_73 : decode cX0_addBranches 73 = .ok (.iload 4, 2) := by decide +kernel
theorem dX0_addBranches_75 : decode cX0_addBranches 75 = .ok (.ireturn, 1) := by decide +kernel
theorem dX0_addLine_0 : decode cX0_addLine 0 = .ok (.iconst 0, 1) := by decide +kernel
theorem dX0_addLine_1 : decode cX0_addLine 1 = .ok (.istore 4, 2) := by decide +kernel
theorem dX0_addLine_3 : decode cX0_addLine 3 = .ok (.iload_n 3, 1) := by decide +kernel
theorem dX0_addLine_4 : decode cX0_addLine 4 = .ok (.istore 5, 2) := by decide +kernel
theorem dX0_addLine_6 : decode cX0_addLine 6 = .ok (.iconst 0, 1) := by decide +kernel
theorem dX0_addLine_7 : decode cX0_addLine 7 = .ok (.istore 6, 2) := by decide +kernel
theorem dX0_addLine_9 : decode cX0_addLine 9 = .ok (.iload 6, 2) := by decide +kernel
theorem dX0_addLine_11 : decode cX0_addLine 11 = .ok (.sipush 150, 3) := by decide +kernel
theorem dX0_addLine_14 : decode cX0_addLine 14 = .ok (.if_icmp .ge 55, 3) := by decide +kernel
theorem dX0_addLine_17 : decode cX0_addLine 17 = .ok (.iload 5, 2) := by decide +kernel
theorem dX0_addLine_19 : decode cX0_addLine 19 = .ok (.iconst (-1), 1) := by decide +kernel
theorem dX0_addLine_20 : decode cX0_addLine 20 = .ok (.if_icmp .eq 49, 3) := by decide +kernel
theorem dX0_addLine_23 : decode cX0_addLine 23 = .ok (.aload_n 2, 1) := by decide +kernel
theorem dX0_addLine_24 : decode cX0_addLine 24 = .ok (.getfield 9, 3) := by decide +kernel
theorem dX0_addLine_27 : decode cX0_addLine 27 = .ok (.iload 5, 2) := by decide +kernel
theorem dX0_addLine_29 : decode cX0_addLine 29 = .ok (.baload, 1) := by decide +kernel
theorem dX0_addLine_30 : decode cX0_addLine 30 = .ok (.ifCond .eq 24, 3) := by decide +kernel
theorem dX0_addLine_33 : decode cX0_addLine 33 = .ok (.aload_n 0, 1) := by decide +kernel
theorem dX0_addLine_34 : decode cX0_addLine 34 = .ok (.getfield 9, 3) := by decide +kernel
theorem dX0_addLine_37 : decode cX0_addLine 37 = .ok (.iload 5, 2) := by decide +kernel
theorem dX0_addLine_39 : decode cX0_addLine 39 = .ok (.baload, 1) := by decide +kernel
theorem dX0_addLine_40 : decode cX0_addLine 40 = .ok (.ifCond .ne 14, 3) := by decide +kernel
theorem dX0_addLine_43 : decode cX0_addLine 43 = .ok (.aload_n 0, 1) := by decide +kernel
theorem dX0_addLine_44 : decode cX0_addLine 44 = .ok (.getfield 9, 3) := by decide +kernel
theorem dX0_addLine_47 : decode cX0_addLine 47 = .ok (.iload 5, 2) := by decide +kernel
theorem dX0_addLine_49 : decode cX0_addLine 49 = .ok (.iconst 1, 1) := by decide +kernel
theorem dX0_addLine_50 : decode cX0_addLine 50 = .ok (.bastore, 1) := by decide +kernel
theorem dX0_addLine_51 : decode cX0_addLine 51 = .ok (.iinc 4 1, 3) := by decide +kernel
theorem dX0_addLine_54 : decode cX0_addLine 54 = .ok (.aload_n 1, 1) := by decide +kernel
theorem dX0_addLine_55 : decode cX0_addLine 55 = .ok (.getfield 41, 3) := by decide +kernel
theorem dX0_addLine_58 : decode cX0_addLine 58 = .ok (.iload 5, 2) := by decide +kernel
theorem dX0_addLine_60 : decode cX0_addLine 60 = .ok (.iaload, 1) := by decide +kernel
theorem dX0_addLine_61 : decode cX0_addLine 61 = .ok (.istore 5, 2) := by decide +kernel
theorem dX0_addLine_63 : decode cX0_addLine 63 = .ok (.iinc 6 1, 3) := by decide +kernel
theorem dX0_addLine_66 : decode cX0_addLine 66 = .ok (.goto (-57), 3) := by decide +kernel
theorem dX0_addLine_69 : decode cX0_addLine 69 = .ok (.iload 4, 2) := by decide +kernel
theorem dX0_addLine_71 : decode cX0_addLine 71 = .ok (.ireturn, 1) := by decide +kernel
theorem dX0_countAll_0 : decode cX0_countAll 0 = .ok (.iconst 0, 1) := by decide +kernel
theorem dX0_countAll_1 : decode cX0_countAll 1 = .ok (.istore_n 2, 1) := by decide +kernel
theorem dX0_countAll_2 : decode cX0_countAll 2 = .ok (.iconst 0, 1) := by decide +kernel
theorem dX0_countAll_3 : decode cX0_countAll 3 = .ok (.istore_n 3, 1) := by decide +kernel
theorem dX0_countAll_4 : decode cX0_countAll 4 = .ok (.iload_n 3, 1) := by decide +kernel
theorem dX0_countAll_5 : decode cX0_countAll 5 = .ok (.aload_n 1, 1) := by decide +kernel
theorem dX0_countAll_6 : decode cX0_countAll 6 = .ok (.getfield 35, 3) := by decide +kernel
theorem dX0_countAll_9 : decode cX0_countAll 9 = .ok (.if_icmp .ge 21, 3) := by decide +kernel
theorem dX0_countAll_12 : decode cX0_countAll 12 = .ok (.aload_n 0, 1) := by decide +kernel
theorem dX0_countAll_13 : decode cX0_countAll 13 = .ok (.getfield 9, 3) := by decide +kernel
theorem dX0_countAll_16 : decode cX0_countAll 16 = .ok (.iload_n 3, 1) := by decide +kernel
theorem dX0_countAll_17 : decode cX0_countAll 17 = .ok (.baload, 1) := by decide +kernel
theorem dX0_countAll_18 : decode cX0_countAll 18 = .ok (.ifCond .eq 6, 3) := by decide +kernel
theorem dX0_countAll_21 : decode cX0_countAll 21 = .ok (.iinc 2 1, 3) := by decide +kernel
theorem dX0_countAll_24 : decode cX0_countAll 24 = .ok (.iinc 3 1, 3) := by decide +kernel
theorem dX0_countAll_27 : decode cX0_countAll 27 = .ok (.goto (-23), 3) := by decide +kernel
theorem dX0_countAll_30 : decode cX0_countAll 30 = .ok (.iload_n 2, 1) := by decide +kernel
theorem dX0_countAll_31 : decode cX0_countAll 31 = .ok (.ireturn, 1) := by decide +kernel
set_option maxRecDepth 20000 in
theorem ggX0_countLiveLeaves_X0_endsAt : GoodIn wsX0_countLiveLeaves wsX0_endsAt := goodIn_r _ [5, 6, 7, 8, 9, 4, 10, 11, 19, 20, 21] (by decide +kernel) (by decide +kernel)
set_option maxRecDepth 20000 in
theorem gX0_countLiveLeaves_X0_endsAt : GoodIn wsX0_countLiveLeaves (wsV RX0 44 RX0 yX0_endsAt wsX0_endsAt) := goodIn_app (goodIn_of _ (by decide +kernel)) ggX0_countLiveLeaves_X0_endsAt
theorem dX0_countLiveLeaves_0 : decode cX0_countLiveLeaves 0 = .ok (.iconst 0, 1) := by decide +kernel
theorem dX0_countLiveLeaves_1 : decode cX0_countLiveLeaves 1 = .ok (.istore_n 3, 1) := by decide +kernel
theorem dX0_countLiveLeaves_2 : decode cX0_countLiveLeaves 2 = .ok (.iconst 0, 1) := by decide +kernel
theorem dX0_countLiveLeaves_3 : decode cX0_countLiveLeaves 3 = .ok (.istore 4, 2) := by decide +kernel
theorem dX0_countLiveLeaves_5 : decode cX0_countLiveLeaves 5 = .ok (.iload 4, 2) := by decide +kernel
theorem dX0_countLiveLeaves_7 : decode cX0_countLiveLeaves 7 = .ok (.aload_n 1, 1) := by decide +kernel
theorem dX0_countLiveLeaves_8 : decode cX0_countLiveLeaves 8 = .ok (.getfield 35, 3) := by decide +kernel
theorem dX0_countLiveLeaves_11 : decode cX0_countLiveLeaves 11 = .ok (.if_icmp .ge 42, 3) := by decide +kernel
theorem dX0_countLiveLeaves_14 : decode cX0_countLiveLeaves 14 = .ok (.aload_n 1, 1) := by decide +kernel
theorem dX0_countLiveLeaves_15 : decode cX0_countLiveLeaves 15 = .ok (.getfield 57, 3) := by decide +kernel
theorem dX0_countLiveLeaves_18 : decode cX0_countLiveLeaves 18 = .ok (.iload 4, 2) := by decide +kernel
theorem dX0_countLiveLeaves_20 : decode cX0_countLiveLeaves 20 = .ok (.iaload, 1) := by decide +kernel
theorem dX0_countLiveLeaves_21 : decode cX0_countLiveLeaves 21 = .ok (.iload_n 2, 1) := by decide +kernel
theorem dX0_countLiveLeaves_22 : decode cX0_countLiveLeaves 22 = .ok (.if_icmp .ne 25, 3) := by decide +kernel
theorem dX0_countLiveLeaves_25 : decode cX0_countLiveLeaves 25 = .ok (.aload_n 0, 1) := by decide +kernel
theorem dX0_countLiveLeaves_26 : decode cX0_countLiveLeaves 26 = .ok (.iload 4, 2) := by decide +kernel
theorem dX0_countLiveLeaves_28 : decode cX0_countLiveLeaves 28 = .ok (.invokevirtual 44, 3) := by decide +kernel
theorem dX0_countLiveLeaves_31 : decode cX0_countLiveLeaves 31 = .ok (.ifCond .eq 16, 3) := by decide +kernel
theorem dX0_countLiveLeaves_34 : decode cX0_countLiveLeaves 34 = .ok (.aload_n 1, 1) := by decide +kernel
theorem dX0_countLiveLeaves_35 : decode cX0_countLiveLeaves 35 = .ok (.getfield 71, 3) := by decide +kernel
theorem dX0_countLiveLeaves_38 : decode cX0_countLiveLeaves 38 = .ok (.iload 4, 2) := by decide +kernel
theorem dX0_countLiveLeaves_40 : decode cX0_countLiveLeaves 40 = .ok (.baload, 1) := by decide +kernel
theorem dX0_countLiveLeaves_41 : decode cX0_countLiveLeaves 41 = .ok (.ifCond .ne 6, 3) := by decide +kernel
theorem dX0_countLiveLeaves_44 : decode cX0_countLiveLeaves 44 = .ok (.iinc 3 1, 3) := by decide +kernel
theorem dX0_countLiveLeaves_47 : decode cX0_countLiveLeaves 47 = .ok (.iinc 4 1, 3) := by decide +kernel
theorem dX0_countLiveLeaves_50 : decode cX0_countLiveLeaves 50 = .ok (.goto (-45), 3) := by decide +kernel
theorem dX0_countLiveLeaves_53 : decode cX0_countLiveLeaves 53 = .ok (.iload_n 3, 1) := by decide +kernel
theorem dX0_countLiveLeaves_54 : decode cX0_countLiveLeaves 54 = .ok (.ireturn, 1) := by decide +kernel
theorem dX0_shownValue_0 : decode cX0_shownValue 0 = .ok (.aload_n 0, 1) := by decide +kernel
theorem dX0_shownValue_1 : decode cX0_shownValue 1 = .ok (.getfield 19, 3) := by decide +kernel
theorem dX0_shownValue_4 : decode cX0_shownValue 4 = .ok (.iload_n 2, 1) := by decide +kernel
theorem dX0_shownValue_5 : decode cX0_shownValue 5 = .ok (.iaload, 1) := by decide +kernel
theorem dX0_shownValue_6 : decode cX0_shownValue 6 = .ok (.istore_n 3, 1) := by decide +kernel
theorem dX0_shownValue_7 : decode cX0_shownValue 7 = .ok (.iload_n 3, 1) := by decide +kernel
theorem dX0_shownValue_8 : decode cX0_shownValue 8 = .ok (.iconst (-1), 1) := by decide +kernel
theorem dX0_shownValue_9 : decode cX0_shownValue 9 = .ok (.if_icmp .eq 12, 3) := by decide +kernel
theorem dX0_shownValue_12 : decode cX0_shownValue 12 = .ok (.aload_n 1, 1) := by decide +kernel
theorem dX0_shownValue_13 : decode cX0_shownValue 13 = .ok (.getfield 71, 3) := by decide +kernel
theorem dX0_shownValue_16 : decode cX0_shownValue 16 = .ok (.iload_n 3, 1) := by decide +kernel
theorem dX0_shownValue_17 : decode cX0_shownValue 17 = .ok (.baload, 1) := by decide +kernel
theorem dX0_shownValue_18 : decode cX0_shownValue 18 = .ok (.ifCond .eq 7, 3) := by decide +kernel
theorem dX0_shownValue_21 : decode cX0_shownValue 21 = .ok (.iconst (-1), 1) := by decide +kernel
theorem dX0_shownValue_22 : decode cX0_shownValue 22 = .ok (.goto 9, 3) := by decide +kernel
theorem dX0_shownValue_25 : decode cX0_shownValue 25 = .ok (.aload_n 1, 1) := by decide +kernel
theorem dX0_shownValue_26 : decode cX0_shownValue 26 = .ok (.getfield 74, 3) := by decide +kernel
theorem dX0_shownValue_29 : decode cX0_shownValue 29 = .ok (.iload_n 3, 1) := by decide +kernel
theorem dX0_shownValue_30 : decode cX0_shownValue 30 = .ok (.iaload, 1) := by decide +kernel
theorem dX0_shownValue_31 : decode cX0_shownValue 31 = .ok (.ireturn, 1) := by decide +kernel
set_option maxRecDepth 20000 in
theorem ggX0_countShownBefore_X0_shownValue : GoodIn wsX0_countShownBefore wsX0_shownValue := goodIn_r _ [5, 6, 7, 8, 9, 10, 11, 12, 13, 14, 15, 16] (by decide +kernel) (by decide +kernel)
set_option maxRecDepth 20000 in
theorem gX0_countShownBefore_X0_shownValue : GoodIn wsX0_countShownBefore (wsV RX0 77 RX0 yX0_shownValue wsX0_shownValue) := goodIn_app (goodIn_of _ (by decide +kernel)) ggX0_countShownBefore_X0_shownValue
theorem dX0_countShownBefore_0 : decode cX0_countShownBefore 0 = .ok (.iconst 0, 1) := by decide +kernel
theorem dX0_countShownBefore_1 : decode cX0_countShownBefore 1 = .ok (.istore 4, 2) := by decide +kernel
theorem dX0_countShownBefore_3 : decode cX0_countShownBefore 3 = .ok (.iconst 0, 1) := by decide +kernel
theorem dX0_countShownBefore_4 : decode cX0_countShownBefore 4 = .ok (.istore 5, 2) := by decide +kernel
theorem dX0_countShownBefore_6 : decode cX0_countShownBefore 6 = .ok (.iload 5, 2) := by decide +kernel
theorem dX0_countShownBefore_8 : decode cX0_countShownBefore 8 = .ok (.iconst 4, 1) := by decide +kernel
theorem dX0_countShownBefore_9 : decode cX0_countShownBefore 9 = .ok (.if_icmp .ge 45, 3) := by decide +kernel
theorem dX0_countShownBefore_12 : decode cX0_countShownBefore 12 = .ok (.aload_n 0, 1) := by decide +kernel
theorem dX0_countShownBefore_13 : decode cX0_countShownBefore 13 = .ok (.aload_n 1, 1) := by decide +kernel
theorem dX0_countShownBefore_14 : decode cX0_countShownBefore 14 = .ok (.iload 5, 2) := by decide +kernel
theorem dX0_countShownBefore_16 : decode cX0_countShownBefore 16 = .ok (.invokevirtual 77, 3) := by decide +kernel
theorem dX0_countShownBefore_19 : decode cX0_countShownBefore 19 = .ok (.istore 6, 2) := by decide +kernel
theorem dX0_countShownBefore_21 : decode cX0_countShownBefore 21 = .ok (.iload 6, 2) := by decide +kernel
theorem dX0_countShownBefore_23 : decode cX0_countShownBefore 23 = .ok (.iconst (-1), 1) := by decide +kernel
theorem dX0_countShownBefore_24 : decode cX0_countShownBefore 24 = .ok (.if_icmp .eq 24, 3) := by decide +kernel
theorem dX0_countShownBefore_27 : decode cX0_countShownBefore 27 = .ok (.iload 6, 2) := by decide +kernel
theorem dX0_countShownBefore_29 : decode cX0_countShownBefore 29 = .ok (.iload_n 2, 1) := by decide +kernel
theorem dX0_countShownBefore_30 : decode cX0_countShownBefore 30 = .ok (.if_icmp .lt 15, 3) := by decide +kernel
theorem dX0_countShownBefore_33 : decode cX0_countShownBefore 33 = .ok (.iload 6, 2) := by decide +kernel
theorem dX0_countShownBefore_35 : decode cX0_countShownBefore 35 = .ok (.iload_n 2, 1) := by decide +kernel
theorem dX0_countShownBefore_36 : decode cX0_countShownBefore 36 = .ok (.if_icmp .ne 12, 3) := by decide +kernel
theorem dX0_countShownBefore_39 : decode cX0_countShownBefore 39 = .ok (.iload 5, 2) := by decide +kernel
theorem dX0_countShownBefore_41 : decode cX0_countShownBefore 41 = .ok (.iload_n 3, 1) := by decide +kernel
theorem dX0_countShownBefore_42 : decode cX0_countShownBefore 42 = .ok (.if_icmp .ge 6, 3) := by decide +kernel
theorem dX0_countShownBefore_45 : decode cX0_countShownBefore 45 = .ok (.iinc 4 1, 3) := by decide +kernel
theorem dX0_countShownBefore_48 : decode cX0_countShownBefore 48 = .ok (.iinc 5 1, 3) := by decide +kernel
theorem dX0_countShownBefore_51 : decode cX0_countShownBefore 51 = .ok (.goto (-45), 3) := by decide +kernel
theorem dX0_countShownBefore_54 : decode cX0_countShownBefore 54 = .ok (.iload 4, 2) := by decide +kernel
theorem dX0_countShownBefore_56 : decode cX0_countShownBefore 56 = .ok (.ireturn, 1) := by decide +kernel
set_option maxRecDepth 20000 in
theorem ggX1_init_X0_init : GoodIn wsX1_init wsX0_init := goodIn_r _ [15, 16, 2, 3, 17, 18, 10, 19, 20, 21, 22, 23, 24, 25, 26, 27] (by decide +kernel) (by decide +kernel)
set_option maxRecDepth 20000 in
theorem gX1_init_X0_init : GoodIn wsX1_init (wsX0_init) := ggX1_init_X0_init
theorem dX1_init_0 : decode cX1_init 0 = .ok (.aload_n 0, 1) := by decide +kernel
theorem dX1_init_1 : decode cX1_init 1 = .ok (.invokespecial 3, 3) := by decide +kernel
theorem dX1_init_4 : decode cX1_init 4 = .ok (.aload_n 0, 1) := by decide +kernel
theorem dX1_init_5 : decode cX1_init 5 = .ok (.new 9, 3) := by decide +kernel
theorem dX1_init_8 : decode cX1_init 8 = .ok (.dup, 1) := by decide +kernel
theorem dX1_init_9 : decode cX1_init 9 = .ok (.invokespecial 11, 3) := by decide +kernel
theorem dX1_init_12 : decode cX1_init 12 = .ok (.putfield 12, 3) := by decide +kernel
theorem dX1_init_15 : decode cX1_init 15 = .ok (.aload_n 0, 1) := by decide +kernel
theorem dX1_init_16 : decode cX1_init 16 = .ok (.bipush 20, 2) := by decide +kernel
theorem dX1_init_18 : decode cX1_init 18 = .ok (.putfield 18, 3) := by decide +kernel
theorem dX1_init_21 : decode cX1_init 21 = .ok (.aload_n 0, 1) := by decide +kernel
theorem dX1_init_22 : decode cX1_init 22 = .ok (.iconst 0, 1) := by decide +kernel
theorem dX1_init_23 : decode cX1_init 23 = .ok (.putfield 22, 3) := by decide +kernel
theorem dX1_init_26 : decode cX1_init 26 = .ok (.aload_n 0, 1) := by decide +kernel
theorem dX1_init_27 : decode cX1_init 27 = .ok (.iconst 4, 1) := by decide +kernel
theorem dX1_init_28 : decode cX1_init 28 = .ok (.newarray .int, 2) := by decide +kernel
theorem dX1_init_30 : decode cX1_init 30 = .ok (.putfield 25, 3) := by decide +kernel
theorem dX1_init_33 : decode cX1_init 33 = .ok (.aload_n 0, 1) := by decide +kernel
theorem dX1_init_34 : decode cX1_init 34 = .ok (.bipush 9, 2) := by decide +kernel
theorem dX1_init_36 : decode cX1_init 36 = .ok (.newarray .int, 2) := by decide +kernel
theorem dX1_init_38 : decode cX1_init 38 = .ok (.putfield 29, 3) := by decide +kernel
theorem dX1_init_41 : decode cX1_init 41 = .ok (.return_, 1) := by decide +kernel
set_option maxRecDepth 20000 in
theorem ggX1_append_X1_noteChange : GoodIn wsX1_append wsX1_noteChange := goodIn_r _ [6, 7, 8, 1, 9, 10, 11, 12, 13, 14, 15, 16, 17, 18, 19, 20, 21, 22, 23, 24, 25, 26, 27, 28, 29, 30, 31, 32, 33, 34, 35, 36, 37, 38, 39, 40, 41, 42, 43, 44, 45, 46, 47, 48, 49, 50, 51, 52, 53, 54, 55, 56, 57, 58, 59, 60, 61, 62, 63, 64, 65, 66, 67, 68] (by decide +kernel) (by decide +kernel)
set_option maxRecDepth 20000 in
theorem gX1_append_X1_noteChange : GoodIn wsX1_append (wsV RX1 41 RX1 yX1_noteChange wsX1_noteChange) := goodIn_app (goodIn_of _ (by decide +kernel)) ggX1_append_X1_noteChange
theorem dX1_append_0 : decode cX1_append 0 = .ok (.aload_n 0, 1) := by decide +kernel
theorem dX1_append_1 : decode cX1_append 1 = .ok (.getfield 12, 3) := by decide +kernel
theorem dX1_append_4 : decode cX1_append 4 = .ok (.getfield 32, 3) := by decide +kernel
theorem dX1_append_7 : decode cX1_append 7 = .ok (.iload_n 2, 1) := by decide +kernel
theorem dX1_append_8 : decode cX1_append 8 = .ok (.iconst 1, 1) := by decide +kernel
theorem dX1_append_9 : decode cX1_append 9 = .ok (.bastore, 1) := by decide +kernel
theorem dX1_append_10 : decode cX1_append 10 = .ok (.aload_n 0, 1) := by decide +kernel
theorem dX1_append_11 : decode cX1_append 11 = .ok (.aload_n 1, 1) := by decide +kernel
theorem dX1_append_12 : decode cX1_append 12 = .ok (.aload_n 1, 1) := by decide +kernel
theorem dX1_append_13 : decode cX1_append 13 = .ok (.getfield 36, 3) := by decide +kernel
theorem dX1_append_16 : decode cX1_append 16 = .ok (.iload_n 2, 1) := by decide +kernel
theorem dX1_append_17 : decode cX1_append 17 = .ok (.iaload, 1) := by decide +kernel
theorem dX1_append_18 : decode cX1_append 18 = .ok (.invokevirtual 41, 3) := by decide +kernel
theorem dX1_append_21 : decode cX1_append 21 = .ok (.return_, 1) := by decide +kernel
set_option maxRecDepth 20000 in
theorem ggX1_receive_X0_addBranches : GoodIn wsX1_receive wsX0_addBranches := goodIn_r _ [6, 7, 8, 9, 10, 5, 11, 12, 13, 14, 15, 16, 17, 18, 19, 20, 67, 68, 69, 70, 71, 72, 73, 74, 75, 76] (by decide +kernel) (by decide +kernel)
set_option maxRecDepth 20000 in
theorem gX1_receive_X0_addBranches : GoodIn wsX1_receive (wsV RX1 45 RX0 yX0_addBranches wsX0_addBranches) := goodIn_app (goodIn_of _ (by decide +kernel)) ggX1_receive_X0_addBranches
set_option maxRecDepth 20000 in
theorem ggX1_receive_X1_noteChange : GoodIn wsX1_receive wsX1_noteChange := goodIn_r _ [25, 26, 27, 1, 28, 29, 30, 31, 5, 32, 33, 34, 35, 36, 16, 37, 38, 39, 40, 41, 42, 43, 44, 8, 9, 10, 11, 7, 12, 13, 14, 15, 45, 46, 47, 48, 49, 50, 51, 52, 53, 54, 55, 56, 57, 58, 59, 60, 61, 62, 63, 64, 65, 66, 74, 75, 76, 67, 68, 69, 70, 71, 72, 73] (by decide +kernel) (by decide +kernel)
set_option maxRecDepth 20000 in
theorem gX1_receive_X1_noteChange : GoodIn wsX1_receive (wsV RX1 41 RX1 yX1_noteChange wsX1_noteChange) := goodIn_app (goodIn_of _ (by decide +kernel)) ggX1_receive_X1_noteChange
theorem dX1_receive_0 : decode cX1_receive 0 = .ok (.aload_n 0, 1) := by decide +kernel
theorem dX1_receive_1 : decode cX1_receive 1 = .ok (.getfield 12, 3) := by decide +kernel
theorem dX1_receive_4 : decode cX1_receive 4 = .ok (.aload_n 1, 1) := by decide +kernel
theorem dX1_receive_5 : decode cX1_receive 5 = .ok (.aload_n 2, 1) := by decide +kernel
theorem dX1_receive_6 : decode cX1_receive 6 = .ok (.iload_n 3, 1) := by decide +kernel
theorem dX1_receive_7 : decode cX1_receive 7 = .ok (.invokevirtual 45, 3) := by decide +kernel
theorem dX1_receive_10 : decode cX1_receive 10 = .ok (.istore 4, 2) := by decide +kernel
theorem dX1_receive_12 : decode cX1_receive 12 = .ok (.iload 4, 2) := by decide +kernel
theorem dX1_receive_14 : decode cX1_receive 14 = .ok (.ifCond .le 9, 3) := by decide +kernel
theorem dX1_receive_17 : decode cX1_receive 17 = .ok (.aload_n 0, 1) := by decide +kernel
theorem dX1_receive_18 : decode cX1_receive 18 = .ok (.aload_n 1, 1) := by decide +kernel
theorem dX1_receive_19 : decode cX1_receive 19 = .ok (.iload_n 3, 1) := by decide +kernel
theorem dX1_receive_20 : decode cX1_receive 20 = .ok (.invokevirtual 41, 3) := by decide +kernel
theorem dX1_receive_23 : decode cX1_receive 23 = .ok (.iload 4, 2) := by decide +kernel
theorem dX1_receive_25 : decode cX1_receive 25 = .ok (.ireturn, 1) := by decide +kernel
set_option maxRecDepth 20000 in
theorem ggX1_noteChange_X0_survey : GoodIn wsX1_noteChange wsX0_survey := goodIn_r _ [9, 10, 11, 12, 8, 13, 14, 15, 16, 17, 18, 19, 20, 21, 22, 23, 24, 25, 26, 27, 28, 29, 30, 31, 32, 33, 34, 35, 36, 37, 38, 39, 40, 41, 42, 43, 44, 54, 55, 56, 57, 58, 59, 60, 61, 62, 63] (by decide +kernel) (by decide +kernel)
set_option maxRecDepth 20000 in
theorem gX1_noteChange_X0_survey : GoodIn wsX1_noteChange (wsV RX1 49 RX0 yX0_survey wsX0_survey) := goodIn_app (goodIn_of _ (by decide +kernel)) ggX1_noteChange_X0_survey
set_option maxRecDepth 20000 in
theorem ggX1_noteChange_X0_stem : GoodIn wsX1_noteChange wsX0_stem := goodIn_r _ [48, 27, 14, 28, 29, 30, 8, 31, 57, 58, 59, 60, 61, 62, 63, 54, 55, 56] (by decide +kernel) (by decide +kernel)
set_option maxRecDepth 20000 in
theorem gX1_noteChange_X0_stem : GoodIn wsX1_noteChange (wsV RX1 53 RX0 yX0_stem wsX0_stem) := goodIn_app (goodIn_of _ (by decide +kernel)) ggX1_noteChange_X0_stem
theorem dX1_noteChange_0 : decode cX1_noteChange 0 = .ok (.aload_n 0, 1) := by decide +kernel
theorem dX1_noteChange_1 : decode cX1_noteChange 1 = .ok (.dup, 1) := by decide +kernel
theorem dX1_noteChange_2 : decode cX1_noteChange 2 = .ok (.getfield 22, 3) := by decide +kernel
theorem dX1_noteChange_5 : decode cX1_noteChange 5 = .ok (.iconst 1, 1) := by decide +kernel
theorem dX1_noteChange_6 : decode cX1_noteChange 6 = .ok (.iadd, 1) := by decide +kernel
theorem dX1_noteChange_7 : decode cX1_noteChange 7 = .ok (.putfield 22, 3) := by decide +kernel
theorem dX1_noteChange_10 : decode cX1_noteChange 10 = .ok (.aload_n 0, 1) := by decide +kernel
theorem dX1_noteChange_11 : decode cX1_noteChange 11 = .ok (.getfield 25, 3) := by decide +kernel
theorem dX1_noteChange_14 : decode cX1_noteChange 14 = .ok (.iload_n 2, 1) := by decide +kernel
theorem dX1_noteChange_15 : decode cX1_noteChange 15 = .ok (.aload_n 0, 1) := by decide +kernel
theorem dX1_noteChange_16 : decode cX1_noteChange 16 = .ok (.getfield 22, 3) := by decide +kernel
theorem dX1_noteChange_19 : decode cX1_noteChange 19 = .ok (.iastore, 1) := by decide +kernel
theorem dX1_noteChange_20 : decode cX1_noteChange 20 = .ok (.aload_n 0, 1) := by decide +kernel
theorem dX1_noteChange_21 : decode cX1_noteChange 21 = .ok (.getfield 12, 3) := by decide +kernel
theorem dX1_noteChange_24 : decode cX1_noteChange 24 = .ok (.aload_n 1, 1) := by decide +kernel
theorem dX1_noteChange_25 : decode cX1_noteChange 25 = .ok (.invokevirtual 49, 3) := by decide +kernel
theorem dX1_noteChange_28 : decode cX1_noteChange 28 = .ok (.aload_n 0, 1) := by decide +kernel
theorem dX1_noteChange_29 : decode cX1_noteChange 29 = .ok (.getfield 12, 3) := by decide +kernel
theorem dX1_noteChange_32 : decode cX1_noteChange 32 = .ok (.aload_n 1, 1) := by decide +kernel
theorem dX1_noteChange_33 : decode cX1_noteChange 33 = .ok (.aload_n 0, 1) := by decide +kernel
theorem dX1_noteChange_34 : decode cX1_noteChange 34 = .ok (.getfield 18, 3) := by decide +kernel
theorem dX1_noteChange_37 : decode cX1_noteChange 37 = .ok (.invokevirtual 53, 3) := by decide +kernel
theorem dX1_noteChange_40 : decode cX1_noteChange 40 = .ok (.pop, 1) := by decide +kernel
theorem dX1_noteChange_41 : decode cX1_noteChange 41 = .ok (.return_, 1) := by decide +kernel
set_option maxRecDepth 20000 in
theorem ggX1_clear_X0_removeAll : GoodIn wsX1_clear wsX0_removeAll := goodIn_r _ [9, 10, 55, 56, 57] (by decide +kernel) (by decide +kernel)
set_option maxRecDepth 20000 in
theorem gX1_clear_X0_removeAll : GoodIn wsX1_clear (wsV RX1 57 RX0 yX0_removeAll wsX0_removeAll) := goodIn_app (goodIn_of _ (by decide +kernel)) ggX1_clear_X0_removeAll
set_option maxRecDepth 20000 in
theorem ggX1_clear_X0_survey : GoodIn wsX1_clear wsX0_survey := goodIn_r _ [14, 15, 16, 17, 8, 18, 19, 20, 21, 22, 23, 24, 25, 26, 27, 28, 29, 30, 31, 10, 32, 33, 34, 35, 36, 37, 38, 39, 40, 41, 42, 43, 44, 45, 46, 47, 48, 55, 56, 57, 58, 59, 60, 61, 62, 63, 64] (by decide +kernel) (by decide +kernel)
set_option maxRecDepth 20000 in
theorem gX1_clear_X0_survey : GoodIn wsX1_clear (wsV RX1 49 RX0 yX0_survey wsX0_survey) := goodIn_app (goodIn_of _ (by decide +kernel)) ggX1_clear_X0_survey
set_option maxRecDepth 20000 in
theorem ggX1_clear_J7_fill_53178 : GoodIn wsX1_clear wsJ7_fill_53178 := goodIn_r _ [27] (by decide +kernel) (by decide +kernel)
set_option maxRecDepth 20000 in
theorem gX1_clear_J7_fill_53178 : GoodIn wsX1_clear (va_wsS RX1 60 yJ7_fill_53178 wsJ7_fill_53178) := goodIn_app (goodIn_of _ (by decide +kernel)) ggX1_clear_J7_fill_53178
theorem dX1_clear_0 : decode cX1_clear 0 = .ok (.aload_n 0, 1) := by decide +kernel
theorem dX1_clear_1 : decode cX1_clear 1 = .ok (.getfield 12, 3) := by decide +kernel
theorem dX1_clear_4 : decode cX1_clear 4 = .ok (.invokevirtual 57, 3) := by decide +kernel
theorem dX1_clear_7 : decode cX1_clear 7 = .ok (.aload_n 0, 1) := by decide +kernel
theorem dX1_clear_8 : decode cX1_clear 8 = .ok (.getfield 12, 3) := by decide +kernel
theorem dX1_clear_11 : decode cX1_clear 11 = .ok (.aload_n 1, 1) := by decide +kernel
theorem dX1_clear_12 : decode cX1_clear 12 = .ok (.invokevirtual 49, 3) := by decide +kernel
theorem dX1_clear_15 : decode cX1_clear 15 = .ok (.aload_n 0, 1) := by decide +kernel
theorem dX1_clear_16 : decode cX1_clear 16 = .ok (.iconst 0, 1) := by decide +kernel
theorem dX1_clear_17 : decode cX1_clear 17 = .ok (.putfield 22, 3) := by decide +kernel
theorem dX1_clear_20 : decode cX1_clear 20 = .ok (.aload_n 0, 1) := by decide +kernel
theorem dX1_clear_21 : decode cX1_clear 21 = .ok (.getfield 25, 3) := by decide +kernel
theorem dX1_clear_24 : decode cX1_clear 24 = .ok (.iconst 0, 1) := by decide +kernel
theorem dX1_clear_25 : decode cX1_clear 25 = .ok (.invokestatic 60, 3) := by decide +kernel
theorem dX1_clear_28 : decode cX1_clear 28 = .ok (.aload_n 0, 1) := by decide +kernel
theorem dX1_clear_29 : decode cX1_clear 29 = .ok (.getfield 29, 3) := by decide +kernel
theorem dX1_clear_32 : decode cX1_clear 32 = .ok (.iconst 0, 1) := by decide +kernel
theorem dX1_clear_33 : decode cX1_clear 33 = .ok (.invokestatic 60, 3) := by decide +kernel
theorem dX1_clear_36 : decode cX1_clear 36 = .ok (.return_, 1) := by decide +kernel
theorem dX1_nextChanged_0 : decode cX1_nextChanged 0 = .ok (.iconst (-1), 1) := by decide +kernel
theorem dX1_nextChanged_1 : decode cX1_nextChanged 1 = .ok (.istore_n 2, 1) := by decide +kernel
theorem dX1_nextChanged_2 : decode cX1_nextChanged 2 = .ok (.iconst 0, 1) := by decide +kernel
theorem dX1_nextChanged_3 : decode cX1_nextChanged 3 = .ok (.istore_n 3, 1) := by decide +kernel
theorem dX1_nextChanged_4 : decode cX1_nextChanged 4 = .ok (.iload_n 3, 1) := by decide +kernel
theorem dX1_nextChanged_5 : decode cX1_nextChanged 5 = .ok (.iconst 4, 1) := by decide +kernel
theorem dX1_nextChanged_6 : decode cX1_nextChanged 6 = .ok (.if_icmp .ge 41, 3) := by decide +kernel
theorem dX1_nextChanged_9 : decode cX1_nextChanged 9 = .ok (.aload_n 0, 1) := by decide +kernel
theorem dX1_nextChanged_10 : decode cX1_nextChanged 10 = .ok (.getfield 25, 3) := by decide +kernel
theorem dX1_nextChanged_13 : decode cX1_nextChanged 13 = .ok (.iload_n 3, 1) := by decide +kernel
theorem dX1_nextChanged_14 : decode cX1_nextChanged 14 = .ok (.iaload, 1) := by decide +kernel
theorem dX1_nextChanged_15 : decode cX1_nextChanged 15 = .ok (.iload_n 1, 1) := by decide +kernel
theorem dX1_nextChanged_16 : decode cX1_nextChanged 16 = .ok (.if_icmp .le 25, 3) := by decide +kernel
theorem dX1_nextChanged_19 : decode cX1_nextChanged 19 = .ok (.iload_n 2, 1) := by decide +kernel
theorem dX1_nextChanged_20 : decode cX1_nextChanged 20 = .ok (.iconst (-1), 1) := by decide +kernel
theorem dX1_nextChanged_21 : decode cX1_nextChanged 21 = .ok (.if_icmp .eq 18, 3) := by decide +kernel
theorem dX1_nextChanged_24 : decode cX1_nextChanged 24 = .ok (.aload_n 0, 1) := by decide +kernel
theorem dX1_nextChanged_25 : decode cX1_nextChanged 25 = .ok (.getfield 25, 3) := by decide +kernel
theorem dX1_nextChanged_28 : decode cX1_nextChanged 28 = .ok (.iload_n 3, 1) := by decide +kernel
theorem dX1_nextChanged_29 : decode cX1_nextChanged 29 = .ok (.iaload, 1) := by decide +kernel
theorem dX1_nextChanged_30 : decode cX1_nextChanged 30 = .ok (.aload_n 0, 1) := by decide +kernel
theorem dX1_nextChanged_31 : decode cX1_nextChanged 31 = .ok (.getfield 25, 3) := by decide +kernel
theorem dX1_nextChanged_34 : decode cX1_nextChanged 34 = .ok (.iload_n 2, 1) := by decide +kernel
theorem dX1_nextChanged_35 : decode cX1_nextChanged 35 = .ok (.iaload, 1) := by decide +kernel
theorem dX1_nextChanged_36 : decode cX1_nextChanged 36 = .ok (.if_icmp .ge 5, 3) := by decide +kernel
theorem dX1_nextChanged_39 : decode cX1_nextChanged 39 = .ok (.iload_n 3, 1) := by decide +kernel
theorem dX1_nextChanged_40 : decode cX1_nextChanged 40 = .ok (.istore_n 2, 1) := by decide +kernel
theorem dX1_nextChanged_41 : decode cX1_nextChanged 41 = .ok (.iinc 3 1, 3) := by decide +kernel
theorem dX1_nextChanged_44 : decode cX1_nextChanged 44 = .ok (.goto (-40), 3) := by decide +kernel
theorem dX1_nextChanged_47 : decode cX1_nextChanged 47 = .ok (.iload_n 2, 1) := by decide +kernel
theorem dX1_nextChanged_48 : decode cX1_nextChanged 48 = .ok (.ireturn, 1) := by decide +kernel
theorem dX1_countChanged_0 : decode cX1_countChanged 0 = .ok (.iconst 0, 1) := by decide +kernel
theorem dX1_countChanged_1 : decode cX1_countChanged 1 = .ok (.istore_n 2, 1) := by decide +kernel
theorem dX1_countChanged_2 : decode cX1_countChanged 2 = .ok (.iconst 0, 1) := by decide +kernel
theorem dX1_countChanged_3 : decode cX1_countChanged 3 = .ok (.istore_n 3, 1) := by decide +kernel
theorem dX1_countChanged_4 : decode cX1_countChanged 4 = .ok (.iload_n 3, 1) := by decide +kernel
theorem dX1_countChanged_5 : decode cX1_countChanged 5 = .ok (.iconst 4, 1) := by decide +kernel
theorem dX1_countChanged_6 : decode cX1_countChanged 6 = .ok (.if_icmp .ge 22, 3) := by decide +kernel
theorem dX1_countChanged_9 : decode cX1_countChanged 9 = .ok (.aload_n 0, 1) := by decide +kernel
theorem dX1_countChanged_10 : decode cX1_countChanged 10 = .ok (.getfield 25, 3) := by decide +kernel
theorem dX1_countChanged_13 : decode cX1_countChanged 13 = .ok (.iload_n 3, 1) := by decide +kernel
theorem dX1_countChanged_14 : decode cX1_countChanged 14 = .ok (.iaload, 1) := by decide +kernel
theorem dX1_countChanged_15 : decode cX1_countChanged 15 = .ok (.iload_n 1, 1) := by decide +kernel
theorem dX1_countChanged_16 : decode cX1_countChanged 16 = .ok (.if_icmp .le 6, 3) := by decide +kernel
theorem dX1_countChanged_19 : decode cX1_countChanged 19 = .ok (.iinc 2 1, 3) := by decide +kernel
theorem dX1_countChanged_22 : decode cX1_countChanged 22 = .ok (.iinc 3 1, 3) := by decide +kernel
theorem dX1_countChanged_25 : decode cX1_countChanged 25 = .ok (.goto (-21), 3) := by decide +kernel
theorem dX1_countChanged_28 : decode cX1_countChanged 28 = .ok (.iload_n 2, 1) := by decide +kernel
theorem dX1_countChanged_29 : decode cX1_countChanged 29 = .ok (.ireturn, 1) := by decide +kernel
theorem dX2_init_0 : decode cX2_init 0 = .ok (.aload_n 0, 1) := by decide +kernel
theorem dX2_init_1 : decode cX2_init 1 = .ok (.invokespecial 3, 3) := by decide +kernel
theorem dX2_init_4 : decode cX2_init 4 = .ok (.aload_n 0, 1) := by decide +kernel
theorem dX2_init_5 : decode cX2_init 5 = .ok (.sipush 150, 3) := by decide +kernel
theorem dX2_init_8 : decode cX2_init 8 = .ok (.newarray .int, 2) := by decide +kernel
theorem dX2_init_10 : decode cX2_init 10 = .ok (.putfield 9, 3) := by decide +kernel
theorem dX2_init_13 : decode cX2_init 13 = .ok (.aload_n 0, 1) := by decide +kernel
theorem dX2_init_14 : decode cX2_init 14 = .ok (.sipush 150, 3) := by decide +kernel
theorem dX2_init_17 : decode cX2_init 17 = .ok (.newarray .int, 2) := by decide +kernel
theorem dX2_init_19 : decode cX2_init 19 = .ok (.putfield 15, 3) := by decide +kernel
theorem dX2_init_22 : decode cX2_init 22 = .ok (.aload_n 0, 1) := by decide +kernel
theorem dX2_init_23 : decode cX2_init 23 = .ok (.sipush 150, 3) := by decide +kernel
theorem dX2_init_26 : decode cX2_init 26 = .ok (.newarray .int, 2) := by decide +kernel
theorem dX2_init_28 : decode cX2_init 28 = .ok (.putfield 18, 3) := by decide +kernel
theorem dX2_init_31 : decode cX2_init 31 = .ok (.aload_n 0, 1) := by decide +kernel
theorem dX2_init_32 : decode cX2_init 32 = .ok (.sipush 150, 3) := by decide +kernel
theorem dX2_init_35 : decode cX2_init 35 = .ok (.newarray .boolean, 2) := by decide +kernel
theorem dX2_init_37 : decode cX2_init 37 = .ok (.putfield 21, 3) := by decide +kernel
theorem dX2_init_40 : decode cX2_init 40 = .ok (.aload_n 0, 1) := by decide +kernel
theorem dX2_init_41 : decode cX2_init 41 = .ok (.sipush 150, 3) := by decide +kernel
theorem dX2_init_44 : decode cX2_init 44 = .ok (.newarray .int, 2) := by decide +kernel
theorem dX2_init_46 : decode cX2_init 46 = .ok (.putfield 25, 3) := by decide +kernel
theorem dX2_init_49 : decode cX2_init 49 = .ok (.aload_n 0, 1) := by decide +kernel
theorem dX2_init_50 : decode cX2_init 50 = .ok (.sipush 150, 3) := by decide +kernel
theorem dX2_init_53 : decode cX2_init 53 = .ok (.newarray .int, 2) := by decide +kernel
theorem dX2_init_55 : decode cX2_init 55 = .ok (.putfield 28, 3) := by decide +kernel
theorem dX2_init_58 : decode cX2_init 58 = .ok (.aload_n 0, 1) := by decide +kernel
theorem dX2_init_59 : decode cX2_init 59 = .ok (.iconst 0, 1) := by decide +kernel
theorem dX2_init_60 : decode cX2_init 60 = .ok (.putfield 31, 3) := by decide +kernel
theorem dX2_init_63 : decode cX2_init 63 = .ok (.return_, 1) := by decide +kernel
theorem dX2_find_0 : decode cX2_find 0 = .ok (.iconst 0, 1) := by decide +kernel
theorem dX2_find_1 : decode cX2_find 1 = .ok (.istore 5, 2) := by decide +kernel
theorem dX2_find_3 : decode cX2_find 3 = .ok (.iload 5, 2) := by decide +kernel
theorem dX2_find_5 : decode cX2_find 5 = .ok (.aload_n 0, 1) := by decide +kernel
theorem dX2_find_6 : decode cX2_find 6 = .ok (.getfield 31, 3) := by decide +kernel
theorem dX2_find_9 : decode cX2_find 9 = .ok (.if_icmp .ge 57, 3) := by decide +kernel
theorem dX2_find_12 : decode cX2_find 12 = .ok (.aload_n 0, 1) := by decide +kernel
theorem dX2_find_13 : decode cX2_find 13 = .ok (.getfield 9, 3) := by decide +kernel
theorem dX2_find_16 : decode cX2_find 16 = .ok (.iload 5, 2) := by decide +kernel
theorem dX2_find_18 : decode cX2_find 18 = .ok (.iaload, 1) := by decide +kernel
theorem dX2_find_19 : decode cX2_find 19 = .ok (.iload_n 1, 1) := by decide +kernel
theorem dX2_find_20 : decode cX2_find 20 = .ok (.if_icmp .ne 40, 3) := by decide +kernel
theorem dX2_find_23 : decode cX2_find 23 = .ok (.aload_n 0, 1) := by decide +kernel
theorem dX2_find_24 : decode cX2_find 24 = .ok (.getfield 15, 3) := by decide +kernel
theorem dX2_find_27 : decode cX2_find 27 = .ok (.iload 5, 2) := by decide +kernel
theorem dX2_find_29 : decode cX2_find 29 = .ok (.iaload, 1) := by decide +kernel
theorem dX2_find_30 : decode cX2_find 30 = .ok (.iload_n 2, 1) := by decide +kernel
theorem dX2_find_31 : decode cX2_find 31 = .ok (.if_icmp .ne 29, 3) := by decide +kernel
theorem dX2_find_34 : decode cX2_find 34 = .ok (.aload_n 0, 1) := by decide +kernel
theorem dX2_find_35 : decode cX2_find 35 = .ok (.getfield 18, 3) := by decide +kernel
theorem dX2_find_38 : decode cX2_find 38 = .ok (.iload 5, 2) := by decide +kernel
theorem dX2_find_40 : decode cX2_find 40 = .ok (.iaload, 1) := by decide +kernel
theorem dX2_find_41 : decode cX2_find 41 = .ok (.iload_n 3, 1) := by decide +kernel
theorem dX2_find_42 : decode cX2_find 42 = .ok (.if_icmp .ne 18, 3) := by decide +kernel
theorem dX2_find_45 : decode cX2_find 45 = .ok (.aload_n 0, 1) := by decide +kernel
theorem dX2_find_46 : decode cX2_find 46 = .ok (.getfield 21, 3) := by decide +kernel
theorem dX2_find_49 : decode cX2_find 49 = .ok (.iload 5, 2) := by decide +kernel
theorem dX2_find_51 : decode cX2_find 51 = .ok (.baload, 1) := by decide +kernel
theorem dX2_find_52 : decode cX2_find 52 = .ok (.iload 4, 2) := by decide +kernel
theorem dX2_find_54 : decode cX2_find 54 = .ok (.if_icmp .ne 6, 3) := by decide +kernel
theorem dX2_find_57 : decode cX2_find 57 = .ok (.iload 5, 2) := by decide +kernel
theorem dX2_find_59 : decode cX2_find 59 = .ok (.ireturn, 1) := by decide +kernel
theorem dX2_find_60 : decode cX2_find 60 = .ok (.iinc 5 1, 3) := by decide +kernel
theorem dX2_find_63 : decode cX2_find 63 = .ok (.goto (-60), 3) := by decide +kernel
theorem dX2_find_66 : decode cX2_find 66 = .ok (.iconst (-1), 1) := by decide +kernel
theorem dX2_find_67 : decode cX2_find 67 = .ok (.ireturn, 1) := by decide +kernel
theorem dX2_make_0 : decode cX2_make 0 = .ok (.aload_n 0, 1) := by decide +kernel
theorem dX2_make_1 : decode cX2_make 1 = .ok (.getfield 31, 3) := by decide +kernel
theorem dX2_make_4 : decode cX2_make 4 = .ok (.istore 5, 2) := by decide +kernel
theorem dX2_make_6 : decode cX2_make 6 = .ok (.iload_n 2, 1) := by decide +kernel
theorem dX2_make_7 : decode cX2_make 7 = .ok (.iconst (-1), 1) := by decide +kernel
theorem dX2_make_8 : decode cX2_make 8 = .ok (.if_icmp .ne 7, 3) := by decide +kernel
theorem dX2_make_11 : decode cX2_make 11 = .ok (.iconst 1, 1) := by decide +kernel
theorem dX2_make_12 : decode cX2_make 12 = .ok (.goto 11, 3) := by decide +kernel
theorem dX2_make_15 : decode cX2_make 15 = .ok (.aload_n 0, 1) := by decide +kernel
theorem dX2_make_16 : decode cX2_make 16 = .ok (.getfield 25, 3) := by decide +kernel
theorem dX2_make_19 : decode cX2_make 19 = .ok (.iload_n 2, 1) := by decide +kernel
theorem dX2_make_20 : decode cX2_make 20 = .ok (.iaload, 1) := by decide +kernel
theorem dX2_make_21 : decode cX2_make 21 = .ok (.iconst 1, 1) := by decide +kernel
theorem dX2_make_22 : decode cX2_make 22 = .ok (.iadd, 1) := by decide +kernel
theorem dX2_make_23 : decode cX2_make 23 = .ok (.istore 6, 2) := by decide +kernel
theorem dX2_make_25 : decode cX2_make 25 = .ok (.iload_n 2, 1) := by decide +kernel
theorem dX2_make_26 : decode cX2_make 26 = .ok (.iconst (-1), 1) := by decide +kernel
theorem dX2_make_27 : decode cX2_make 27 = .ok (.if_icmp .ne 8, 3) := by decide +kernel
theorem dX2_make_30 : decode cX2_make 30 = .ok (.bipush 31, 2) := by decide +kernel
theorem dX2_make_32 : decode cX2_make 32 = .ok (.goto 12, 3) := by decide +kernel
theorem dX2_make_35 : decode cX2_make 35 = .ok (.bipush 31, 2) := by decide +kernel
theorem dX2_make_37 : decode cX2_make 37 = .ok (.aload_n 0, 1) := by decide +kernel
theorem dX2_make_38 : decode cX2_make 38 = .ok (.getfield 28, 3) := by decide +kernel
theorem dX2_make_41 : decode cX2_make 41 = .ok (.iload_n 2, 1) := by decide +kernel
theorem dX2_make_42 : decode cX2_make 42 = .ok (.iaload, 1) := by decide +kernel
theorem dX2_make_43 : decode cX2_make 43 = .ok (.imul, 1) := by decide +kernel
theorem dX2_make_44 : decode cX2_make 44 = .ok (.istore 7, 2) := by decide +kernel
theorem dX2_make_46 : decode cX2_make 46 = .ok (.aload_n 0, 1) := by decide +kernel
theorem dX2_make_47 : decode cX2_make 47 = .ok (.getfield 9, 3) := by decide +kernel
theorem dX2_make_50 : decode cX2_make 50 = .ok (.iload 5, 2) := by decide +kernel
theorem dX2_make_52 : decode cX2_make 52 = .ok (.iload_n 1, 1) := by decide +kernel
theorem dX2_make_53 : decode cX2_make 53 = .ok (.iastore, 1) := by decide +kernel
theorem dX2_make_54 : decode cX2_make 54 = .ok (.aload_n 0, 1) := by decide +kernel
theorem dX2_make_55 : decode cX2_make 55 = .ok (.getfield 15, 3) := by decide +kernel
theorem dX2_make_58 : decode cX2_make 58 = .ok (.iload 5, 2) := by decide +kernel
theorem dX2_make_60 : decode cX2_make 60 = .ok (.iload_n 2, 1) := by decide +kernel
theorem dX2_make_61 : decode cX2_make 61 = .ok (.iastore, 1) := by decide +kernel
theorem dX2_make_62 : decode cX2_make 62 = .ok (.aload_n 0, 1) := by decide +kernel
theorem dX2_make_63 : decode cX2_make 63 = .ok (.getfield 18, 3) := by decide +kernel
theorem dX2_make_66 : decode cX2_make 66 = .ok (.iload 5, 2) := by decide +kernel
theorem dX2_make_68 : decode cX2_make 68 = .ok (.iload_n 3, 1) := by decide +kernel
theorem dX2_make_69 : decode cX2_make 69 = .ok (.iastore, 1) := by decide +kernel
theorem dX2_make_70 : decode cX2_make 70 = .ok (.aload_n 0, 1) := by decide +kernel
theorem dX2_make_71 : decode cX2_make 71 = .ok (.getfield 21, 3) := by decide +kernel
theorem dX2_make_74 : decode cX2_make 74 = .ok (.iload 5, 2) := by decide +kernel
theorem dX2_make_76 : decode cX2_make 76 = .ok (.iload 4, 2) := by decide +kernel
theorem dX2_make_78 : decode cX2_make 78 = .ok (.bastore, 1) := by decide +kernel
theorem dX2_make_79 : decode cX2_make 79 = .ok (.aload_n 0, 1) := by decide +kernel
theorem dX2_make_80 : decode cX2_make 80 = .ok (.getfield 25, 3) := by decide +kernel
theorem dX2_make_83 : decode cX2_make 83 = .ok (.iload 5, 2) := by decide +kernel
theorem dX2_make_85 : decode cX2_make 85 = .ok (.iload 6, 2) := by decide +kernel
theorem dX2_make_87 : decode cX2_make 87 = .ok (.iastore, 1) := by decide +kernel
theorem dX2_make_88 : decode cX2_make 88 = .ok (.aload_n 0, 1) := by decide +kernel
theorem dX2_make_89 : decode cX2_make 89 = .ok (.getfield 28, 3) := by decide +kernel
theorem dX2_make_92 : decode cX2_make 92 = .ok (.iload 5, 2) := by decide +kernel
theorem dX2_make_94 : decode cX2_make 94 = .ok (.iload 7, 2) := by decide +kernel
theorem dX2_make_96 : decode cX2_make 96 = .ok (.bipush 7, 2) := by decide +kernel
theorem dX2_make_98 : decode cX2_make 98 = .ok (.iload_n 3, 1) := by decide +kernel
theorem dX2_make_99 : decode cX2_make 99 = .ok (.imul, 1) := by decide +kernel
theorem dX2_make_100 : decode cX2_make 100 = .ok (.iadd, 1) := by decide +kernel
theorem dX2_make_101 : decode cX2_make 101 = .ok (.iload 6, 2) := by decide +kernel
theorem dX2_make_103 : decode cX2_make 103 = .ok (.iadd, 1) := by decide +kernel
theorem dX2_make_104 : decode cX2_make 104 = .ok (.iload 4, 2) := by decide +kernel
theorem dX2_make_106 : decode cX2_make 106 = .ok (.ifCond .eq 7, 3) := by decide +kernel
theorem dX2_make_109 : decode cX2_make 109 = .ok (.iconst 3, 1) := by decide +kernel
theorem dX2_make_110 : decode cX2_make 110 = .ok (.goto 4, 3) := by decide +kernel
theorem dX2_make_113 : decode cX2_make 113 = .ok (.iconst 0, 1) := by decide +kernel
theorem dX2_make_114 : decode cX2_make 114 = .ok (.iadd, 1) := by decide +kernel
theorem dX2_make_115 : decode cX2_make 115 = .ok (.sipush 997, 3) := by decide +kernel
theorem dX2_make_118 : decode cX2_make 118 = .ok (.irem, 1) := by decide +kernel
theorem dX2_make_119 : decode cX2_make 119 = .ok (.iastore, 1) := by decide +kernel
theorem dX2_make_120 : decode cX2_make 120 = .ok (.aload_n 0, 1) := by decide +kernel
theorem dX2_make_121 : decode cX2_make 121 = .ok (.dup, 1) := by decide +kernel
theorem dX2_make_122 : decode cX2_make 122 = .ok (.getfield 31, 3) := by decide +kernel
theorem dX2_make_125 : decode cX2_make 125 = .ok (.iconst 1, 1) := by decide +kernel
theorem dX2_make_126 : decode cX2_make 126 = .ok (.iadd, 1) := by decide +kernel
theorem dX2_make_127 : decode cX2_make 127 = .ok (.putfield 31, 3) := by decide +kernel
theorem dX2_make_130 : decode cX2_make 130 = .ok (.iload 5, 2) := by decide +kernel
theorem dX2_make_132 : decode cX2_make 132 = .ok (.ireturn, 1) := by decide +kernel
theorem dX2_isBetter_0 : decode cX2_isBetter 0 = .ok (.aload_n 0, 1) := by decide +kernel
theorem dX2_isBetter_1 : decode cX2_isBetter 1 = .ok (.getfield 21, 3) := by decide +kernel
theorem dX2_isBetter_4 : decode cX2_isBetter 4 = .ok (.iload_n 1, 1) := by decide +kernel
theorem dX2_isBetter_5 : decode cX2_isBetter 5 = .ok (.baload, 1) := by decide +kernel
theorem dX2_isBetter_6 : decode cX2_isBetter 6 = .ok (.aload_n 0, 1) := by decide +kernel
theorem dX2_isBetter_7 : decode cX2_isBetter 7 = .ok (.getfield 21, 3) := by decide +kernel
theorem dX2_isBetter_10 : decode cX2_isBetter 10 = .ok (.iload_n 2, 1) := by decide +kernel
theorem dX2_isBetter_11 : decode cX2_isBetter 11 = .ok (.baload, 1) := by decide +kernel
theorem dX2_isBetter_12 : decode cX2_isBetter 12 = .ok (.if_icmp .eq 10, 3) := by decide +kernel
theorem dX2_isBetter_15 : decode cX2_isBetter 15 = .ok (.aload_n 0, 1) := by decide +kernel
theorem dX2_isBetter_16 : decode cX2_isBetter 16 = .ok (.getfield 21, 3) := by decide +kernel
theorem dX2_isBetter_19 : decode cX2_isBetter 19 = .ok (.iload_n 2, 1) := by decide +kernel
theorem dX2_isBetter_20 : decode cX2_isBetter 20 = .ok (.baload, 1) := by decide +kernel
theorem dX2_isBetter_21 : decode cX2_isBetter 21 = .ok (.ireturn, 1) := by decide +kernel
theorem dX2_isBetter_22 : decode cX2_isBetter 22 = .ok (.aload_n 0, 1) := by decide +kernel
theorem dX2_isBetter_23 : decode cX2_isBetter 23 = .ok (.getfield 25, 3) := by decide +kernel
theorem dX2_isBetter_26 : decode cX2_isBetter 26 = .ok (.iload_n 1, 1) := by decide +kernel
theorem dX2_isBetter_27 : decode cX2_isBetter 27 = .ok (.iaload, 1) := by decide +kernel
theorem dX2_isBetter_28 : decode cX2_isBetter 28 = .ok (.aload_n 0, 1) := by decide +kernel
theorem dX2_isBetter_29 : decode cX2_isBetter 29 = .ok (.getfield 25, 3) := by decide +kernel
theorem dX2_isBetter_32 : decode cX2_isBetter 32 = .ok (.iload_n 2, 1) := by decide +kernel
theorem dX2_isBetter_33 : decode cX2_isBetter 33 = .ok (.iaload, 1) := by decide +kernel
theorem dX2_isBetter_34 : decode cX2_isBetter 34 = .ok (.if_icmp .eq 24, 3) := by decide +kernel
theorem dX2_isBetter_37 : decode cX2_isBetter 37 = .ok (.aload_n 0, 1) := by decide +kernel
theorem dX2_isBetter_38 : decode cX2_isBetter 38 = .ok (.getfield 25, 3) := by decide +kernel
theorem dX2_isBetter_41 : decode cX2_isBetter 41 = .ok (.iload_n 1, 1) := by decide +kernel
theorem dX2_isBetter_42 : decode cX2_isBetter 42 = .ok (.iaload, 1) := by decide +kernel
theorem dX2_isBetter_43 : decode cX2_isBetter 43 = .ok (.aload_n 0, 1) := by decide +kernel
theorem dX2_isBetter_44 : decode cX2_isBetter 44 = .ok (.getfield 25, 3) := by decide +kernel
theorem dX2_isBetter_47 : decode cX2_isBetter 47 = .ok (.iload_n 2, 1) := by decide +kernel
theorem dX2_isBetter_48 : decode cX2_isBetter 48 = .ok (.iaload, 1) := by decide +kernel
theorem dX2_isBetter_49 : decode cX2_isBetter 49 = .ok (.if_icmp .le 7, 3) := by decide +kernel
theorem dX2_isBetter_52 : decode cX2_isBetter 52 = .ok (.iconst 1, 1) := by decide +kernel
theorem dX2_isBetter_53 : decode cX2_isBetter 53 = .ok (.goto 4, 3) := by decide +kernel
theorem dX2_isBetter_56 : decode cX2_isBetter 56 = .ok (.iconst 0, 1) := by decide +kernel
theorem dX2_isBetter_57 : decode cX2_isBetter 57 = .ok (.ireturn, 1) := by decide +kernel
theorem dX2_isBetter_58 : decode cX2_isBetter 58 = .ok (.aload_n 0, 1) := by decide +kernel
theorem dX2_isBetter_59 : decode cX2_isBetter 59 = .ok (.getfield 28, 3) := by decide +kernel
theorem dX2_isBetter_62 : decode cX2_isBetter 62 = .ok (.iload_n 1, 1) := by decide +kernel
theorem dX2_isBetter_63 : decode cX2_isBetter 63 = .ok (.iaload, 1) := by decide +kernel
theorem dX2_isBetter_64 : decode cX2_isBetter 64 = .ok (.aload_n 0, 1) := by decide +kernel
theorem dX2_isBetter_65 : decode cX2_isBetter 65 = .ok (.getfield 28, 3) := by decide +kernel
theorem dX2_isBetter_68 : decode cX2_isBetter 68 = .ok (.iload_n 2, 1) := by decide +kernel
theorem dX2_isBetter_69 : decode cX2_isBetter 69 = .ok (.iaload, 1) := by decide +kernel
theorem dX2_isBetter_70 : decode cX2_isBetter 70 = .ok (.if_icmp .eq 24, 3) := by decide +kernel
theorem dX2_isBetter_73 : decode cX2_isBetter 73 = .ok (.aload_n 0, 1) := by decide +kernel
theorem dX2_isBetter_74 : decode cX2_isBetter 74 = .ok (.getfield 28, 3) := by decide +kernel
theorem dX2_isBetter_77 : decode cX2_isBetter 77 = .ok (.iload_n 1, 1) := by decide +kernel
theorem dX2_isBetter_78 : decode cX2_isBetter 78 = .ok (.iaload, 1) := by decide +kernel
theorem dX2_isBetter_79 : decode cX2_isBetter 79 = .ok (.aload_n 0, 1) := by decide +kernel
theorem dX2_isBetter_80 : decode cX2_isBetter 80 = .ok (.getfield 28, 3) := by decide +kernel
theorem dX2_isBetter_83 : decode cX2_isBetter 83 = .ok (.iload_n 2, 1) := by decide +kernel
theorem dX2_isBetter_84 : decode cX2_isBetter 84 = .ok (.iaload, 1) := by decide +kernel
theorem dX2_isBetter_85 : decode cX2_isBetter 85 = .ok (.if_icmp .le 7, 3) := by decide +kernel
theorem dX2_isBetter_88 : decode cX2_isBetter 88 = .ok (.iconst 1, 1) := by decide +kernel
theorem dX2_isBetter_89 : decode cX2_isBetter 89 = .ok (.goto 4, 3) := by decide +kernel
theorem dX2_isBetter_92 : decode cX2_isBetter 92 = .ok (.iconst 0, 1) := by decide +kernel
theorem dX2_isBetter_93 : decode cX2_isBetter 93 = .ok (.ireturn, 1) := by decide +kernel
theorem dX2_isBetter_94 : decode cX2_isBetter 94 = .ok (.iload_n 1, 1) := by decide +kernel
theorem dX2_isBetter_95 : decode cX2_isBetter 95 = .ok (.iload_n 2, 1) := by decide +kernel
theorem dX2_isBetter_96 : decode cX2_isBetter 96 = .ok (.if_icmp .ge 7, 3) := by decide +kernel
theorem dX2_isBetter_99 : decode cX2_isBetter 99 = .ok (.iconst 1, 1) := by decide +kernel
theorem dX2_isBetter_100 : decode cX2_isBetter 100 = .ok (.goto 4, 3) := by decide +kernel
theorem dX2_isBetter_103 : decode cX2_isBetter 103 = .ok (.iconst 0, 1) := by decide +kernel
theorem dX2_isBetter_104 : decode cX2_isBetter 104 = .ok (.ireturn, 1) := by decide +kernel
end
section
set_option maxRecDepth 20000 in
theorem ggX3_init_X2_init : GoodIn wsX3_init wsX2_init := goodIn_r _ [17, 18, 2, 3, 19, 20, 21, 22, 23, 24, 25, 26, 27, 49, 50, 51, 52, 53, 54, 55] (by decide +kernel) (by decide +kernel)
set_option maxRecDepth 20000 in
theorem gX3_init_X2_init_n9 : GoodIn wsX3_init (wsX2_init) := ggX3_init_X2_init
set_option maxRecDepth 20000 in
theorem ggX3_init_X0_init : GoodIn wsX3_init wsX0_init := goodIn_r _ [30, 31, 2, 3, 23, 32, 19, 33, 34, 35, 36, 37, 38, 59, 60, 61] (by decide +kernel) (by decide +kernel)
set_option maxRecDepth 20000 in
theorem gX3_init_X0_init : GoodIn wsX3_init (wsX0_init) := ggX3_init_X0_init
set_option maxRecDepth 20000 in
theorem ggX3_init_X1_init : GoodIn wsX3_init wsX1_init := goodIn_r _ [40, 41, 2, 3, 42, 11, 12, 43, 44, 45, 19, 46, 47, 48, 29, 30, 31, 23, 32, 33, 34, 35, 36, 37, 38, 59, 60, 61, 62, 63, 64, 65, 66] (by decide +kernel) (by decide +kernel)
set_option maxRecDepth 20000 in
theorem gX3_init_X1_init_n29 : GoodIn wsX3_init (wsX1_init) := ggX3_init_X1_init
theorem dX3_init_0 : decode cX3_init 0 = .ok (.aload_n 0, 1) := by decide +kernel
theorem dX3_init_1 : decode cX3_init 1 = .ok (.invokespecial 1, 3) := by decide +kernel
theorem dX3_init_4 : decode cX3_init 4 = .ok (.aload_n 0, 1) := by decide +kernel
theorem dX3_init_5 : decode cX3_init 5 = .ok (.new 7, 3) := by decide +kernel
theorem dX3_init_8 : decode cX3_init 8 = .ok (.dup, 1) := by decide +kernel
theorem dX3_init_9 : decode cX3_init 9 = .ok (.invokespecial 9, 3) := by decide +kernel
theorem dX3_init_12 : decode cX3_init 12 = .ok (.putfield 10, 3) := by decide +kernel
theorem dX3_init_15 : decode cX3_init 15 = .ok (.aload_n 0, 1) := by decide +kernel
theorem dX3_init_16 : decode cX3_init 16 = .ok (.iconst 3, 1) := by decide +kernel
theorem dX3_init_17 : decode cX3_init 17 = .ok (.anewarray 16, 3) := by decide +kernel
theorem dX3_init_20 : decode cX3_init 20 = .ok (.putfield 18, 3) := by decide +kernel
theorem dX3_init_23 : decode cX3_init 23 = .ok (.aload_n 0, 1) := by decide +kernel
theorem dX3_init_24 : decode cX3_init 24 = .ok (.new 22, 3) := by decide +kernel
theorem dX3_init_27 : decode cX3_init 27 = .ok (.dup, 1) := by decide +kernel
theorem dX3_init_28 : decode cX3_init 28 = .ok (.invokespecial 24, 3) := by decide +kernel
theorem dX3_init_31 : decode cX3_init 31 = .ok (.putfield 25, 3) := by decide +kernel
theorem dX3_init_34 : decode cX3_init 34 = .ok (.iconst 0, 1) := by decide +kernel
theorem dX3_init_35 : decode cX3_init 35 = .ok (.istore_n 1, 1) := by decide +kernel
theorem dX3_init_36 : decode cX3_init 36 = .ok (.iload_n 1, 1) := by decide +kernel
theorem dX3_init_37 : decode cX3_init 37 = .ok (.iconst 3, 1) := by decide +kernel
theorem dX3_init_38 : decode cX3_init 38 = .ok (.if_icmp .ge 22, 3) := by decide +kernel
theorem dX3_init_41 : decode cX3_init 41 = .ok (.aload_n 0, 1) := by decide +kernel
theorem dX3_init_42 : decode cX3_init 42 = .ok (.getfield 18, 3) := by decide +kernel
theorem dX3_init_45 : decode cX3_init 45 = .ok (.iload_n 1, 1) := by decide +kernel
theorem dX3_init_46 : decode cX3_init 46 = .ok (.new 16, 3) := by decide +kernel
theorem dX3_init_49 : decode cX3_init 49 = .ok (.dup, 1) := by decide +kernel
theorem dX3_init_50 : decode cX3_init 50 = .ok (.invokespecial 29, 3) := by decide +kernel
theorem dX3_init_53 : decode cX3_init 53 = .ok (.aastore, 1) := by decide +kernel
theorem dX3_init_54 : decode cX3_init 54 = .ok (.iinc 1 1, 3) := by decide +kernel
theorem dX3_init_57 : decode cX3_init 57 = .ok (.goto (-21), 3) := by decide +kernel
theorem dX3_init_60 : decode cX3_init 60 = .ok (.return_, 1) := by decide +kernel
set_option maxRecDepth 20000 in
theorem ggX3_edit_X3_storeAt : GoodIn wsX3_edit wsX3_storeAt := goodIn_ca (goodIn_r _ [7, 8, 9, 10, 108, 109, 110] (by decide +kernel) (by decide +kernel)) (goodIn_sub (fun _ h => List.mem_cons_of_mem _ (List.mem_append_left _ (List.mem_append_right _ h))) (by decide +kernel))
set_option maxRecDepth 20000 in
theorem gX3_edit_X3_storeAt : GoodIn wsX3_edit (wsV RX3 30 RX3 yX3_storeAt wsX3_storeAt) := goodIn_app (goodIn_of _ (by decide +kernel)) ggX3_edit_X3_storeAt
set_option maxRecDepth 20000 in
theorem ggX3_edit_X3_checkDocument : GoodIn wsX3_edit wsX3_checkDocument := goodIn_ca (goodIn_r _ [14, 8, 9] (by decide +kernel) (by decide +kernel)) (goodIn_sub (fun _ h => List.mem_cons_of_mem _ (List.mem_append_left _ (List.mem_append_right _ h))) (by decide +kernel))
set_option maxRecDepth 20000 in
theorem gX3_edit_X3_checkDocument : GoodIn wsX3_edit (wsV RX3 34 RX3 yX3_checkDocument wsX3_checkDocument) := goodIn_app (goodIn_of _ (by decide +kernel)) ggX3_edit_X3_checkDocument
set_option maxRecDepth 20000 in
theorem ggX3_edit_X3_checkRevision : GoodIn wsX3_edit wsX3_checkRevision := goodIn_ca (goodIn_r _ [18, 8, 9, 19, 108, 109, 110, 111, 112, 113, 114, 115, 116, 117] (by decide +kernel) (by decide +kernel)) (goodIn_sub (fun _ h => List.mem_cons_of_mem _ (List.mem_append_left _ (List.mem_append_right _ h))) (by decide +kernel))
set_option maxRecDepth 20000 in
theorem gX3_edit_X3_checkRevision : GoodIn wsX3_edit (wsV RX3 38 RX3 yX3_checkRevision wsX3_checkRevision) := goodIn_app (goodIn_of _ (by decide +kernel)) ggX3_edit_X3_checkRevision
set_option maxRecDepth 20000 in
theorem ggX3_edit_X3_checkNotBegun : GoodIn wsX3_edit wsX3_checkNotBegun := goodIn_ca (goodIn_r _ [23, 24, 25, 118, 119, 120, 121, 122, 123, 124, 125] (by decide +kernel) (by decide +kernel)) (goodIn_sub (fun _ h => List.mem_cons_of_mem _ (List.mem_append_right _ h)) (by decide +kernel))
set_option maxRecDepth 20000 in
theorem gX3_edit_X3_checkNotBegun : GoodIn wsX3_edit (wsV RX3 48 RX3 yX3_checkNotBegun wsX3_checkNotBegun) := goodIn_app (goodIn_of _ (by decide +kernel)) ggX3_edit_X3_checkNotBegun
set_option maxRecDepth 20000 in
theorem ggX3_edit_X3_checkLeaf : GoodIn wsX3_edit wsX3_checkLeaf := goodIn_ca (goodIn_r _ [29, 24, 25, 19, 30, 31, 32, 33, 34, 35, 36, 37, 38, 39, 40, 108, 109, 110, 111, 112, 113, 114, 115, 116, 117, 118, 119, 120, 121, 122, 123, 124, 125] (by decide +kernel) (by decide +kernel)) (goodIn_sub (fun _ h => List.mem_cons_of_mem _ (List.mem_append_right _ h)) (by decide +kernel))
set_option maxRecDepth 20000 in
theorem gX3_edit_X3_checkLeaf : GoodIn wsX3_edit (wsV RX3 52 RX3 yX3_checkLeaf wsX3_checkLeaf) := goodIn_app (goodIn_of _ (by decide +kernel)) ggX3_edit_X3_checkLeaf
set_option maxRecDepth 20000 in
theorem ggX3_edit_X3_checkRoom : GoodIn wsX3_edit wsX3_checkRoom := goodIn_ca (goodIn_r _ [44, 24, 25, 19, 108, 109, 110, 111, 112, 113, 114, 115, 116, 117] (by decide +kernel) (by decide +kernel)) (goodIn_sub (fun _ h => List.mem_cons_of_mem _ (List.mem_append_right _ h)) (by decide +kernel))
set_option maxRecDepth 20000 in
theorem gX3_edit_X3_checkRoom : GoodIn wsX3_edit (wsV RX3 56 RX3 yX3_checkRoom wsX3_checkRoom) := goodIn_app (goodIn_of _ (by decide +kernel)) ggX3_edit_X3_checkRoom
set_option maxRecDepth 20000 in
theorem ggX3_edit_X3_grow : GoodIn wsX3_edit wsX3_grow := goodIn_r _ [48, 19, 49, 50, 51, 52, 53, 54, 55, 56, 57, 58, 59, 60, 61, 62, 63, 64, 65, 66, 67, 68, 69, 70, 71, 72, 73, 74, 75, 76, 77, 78, 79, 80, 33, 81, 82, 83, 84, 85, 40, 86, 87, 88, 89, 90, 91, 92, 93, 94, 31, 32, 34, 35, 36, 37, 38, 39, 95, 96, 97, 98, 99, 100, 101, 102, 103, 104, 105, 106, 107, 108, 109, 110, 111, 112, 113, 114, 115, 116, 117, 118, 119, 120, 121, 122, 123, 124, 125] (by decide +kernel) (by decide +kernel)
set_option maxRecDepth 20000 in
theorem gX3_edit_X3_grow : GoodIn wsX3_edit (wsV RX3 59 RX3 yX3_grow wsX3_grow) := goodIn_app (goodIn_of _ (by decide +kernel)) ggX3_edit_X3_grow
theorem dX3_edit_0 : decode cX3_edit 0 = .ok (.aload_n 0, 1) := by decide +kernel
theorem dX3_edit_1 : decode cX3_edit 1 = .ok (.iload_n 1, 1) := by decide +kernel
theorem dX3_edit_2 : decode cX3_edit 2 = .ok (.invokevirtual 30, 3) := by decide +kernel
theorem dX3_edit_5 : decode cX3_edit 5 = .ok (.astore 5, 2) := by decide +kernel
theorem dX3_edit_7 : decode cX3_edit 7 = .ok (.aload_n 0, 1) := by decide +kernel
theorem dX3_edit_8 : decode cX3_edit 8 = .ok (.iload_n 2, 1) := by decide +kernel
theorem dX3_edit_9 : decode cX3_edit 9 = .ok (.invokevirtual 34, 3) := by decide +kernel
theorem dX3_edit_12 : decode cX3_edit 12 = .ok (.iload_n 3, 1) := by decide +kernel
theorem dX3_edit_13 : decode cX3_edit 13 = .ok (.iconst (-1), 1) := by decide +kernel
theorem dX3_edit_14 : decode cX3_edit 14 = .ok (.if_icmp .eq 8, 3) := by decide +kernel
theorem dX3_edit_17 : decode cX3_edit 17 = .ok (.aload_n 0, 1) := by decide +kernel
theorem dX3_edit_18 : decode cX3_edit 18 = .ok (.iload_n 3, 1) := by decide +kernel
theorem dX3_edit_19 : decode cX3_edit 19 = .ok (.invokevirtual 38, 3) := by decide +kernel
theorem dX3_edit_22 : decode cX3_edit 22 = .ok (.iload 4, 2) := by decide +kernel
theorem dX3_edit_24 : decode cX3_edit 24 = .ok (.ifCond .lt 10, 3) := by decide +kernel
theorem dX3_edit_27 : decode cX3_edit 27 = .ok (.iload 4, 2) := by decide +kernel
theorem dX3_edit_29 : decode cX3_edit 29 = .ok (.bipush 99, 2) := by decide +kernel
theorem dX3_edit_31 : decode cX3_edit 31 = .ok (.if_icmp .le 13, 3) := by decide +kernel
theorem dX3_edit_34 : decode cX3_edit 34 = .ok (.new 41, 3) := by decide +kernel
theorem dX3_edit_37 : decode cX3_edit 37 = .ok (.dup, 1) := by decide +kernel
theorem dX3_edit_38 : decode cX3_edit 38 = .ok (.ldc 43, 2) := by decide +kernel
theorem dX3_edit_40 : decode cX3_edit 40 = .ok (.invokespecial 45, 3) := by decide +kernel
theorem dX3_edit_43 : decode cX3_edit 43 = .ok (.athrow, 1) := by decide +kernel
theorem dX3_edit_44 : decode cX3_edit 44 = .ok (.iload_n 3, 1) := by decide +kernel
theorem dX3_edit_45 : decode cX3_edit 45 = .ok (.iconst (-1), 1) := by decide +kernel
theorem dX3_edit_46 : decode cX3_edit 46 = .ok (.if_icmp .ne 13, 3) := by decide +kernel
theorem dX3_edit_49 : decode cX3_edit 49 = .ok (.aload_n 0, 1) := by decide +kernel
theorem dX3_edit_50 : decode cX3_edit 50 = .ok (.aload 5, 2) := by decide +kernel
theorem dX3_edit_52 : decode cX3_edit 52 = .ok (.iload_n 2, 1) := by decide +kernel
theorem dX3_edit_53 : decode cX3_edit 53 = .ok (.invokevirtual 48, 3) := by decide +kernel
theorem dX3_edit_56 : decode cX3_edit 56 = .ok (.goto 11, 3) := by decide +kernel
theorem dX3_edit_59 : decode cX3_edit 59 = .ok (.aload_n 0, 1) := by decide +kernel
theorem dX3_edit_60 : decode cX3_edit 60 = .ok (.aload 5, 2) := by decide +kernel
theorem dX3_edit_62 : decode cX3_edit 62 = .ok (.iload_n 2, 1) := by decide +kernel
theorem dX3_edit_63 : decode cX3_edit 63 = .ok (.iload_n 3, 1) := by decide +kernel
theorem dX3_edit_64 : decode cX3_edit 64 = .ok (.invokevirtual 52, 3) := by decide +kernel
theorem dX3_edit_67 : decode cX3_edit 67 = .ok (.aload_n 0, 1) := by decide +kernel
theorem dX3_edit_68 : decode cX3_edit 68 = .ok (.invokevirtual 56, 3) := by decide +kernel
theorem dX3_edit_71 : decode cX3_edit 71 = .ok (.aload_n 0, 1) := by decide +kernel
theorem dX3_edit_72 : decode cX3_edit 72 = .ok (.aload 5, 2) := by decide +kernel
theorem dX3_edit_74 : decode cX3_edit 74 = .ok (.iload_n 2, 1) := by decide +kernel
theorem dX3_edit_75 : decode cX3_edit 75 = .ok (.iload_n 3, 1) := by decide +kernel
theorem dX3_edit_76 : decode cX3_edit 76 = .ok (.iload 4, 2) := by decide +kernel
theorem dX3_edit_78 : decode cX3_edit 78 = .ok (.iconst 0, 1) := by decide +kernel
theorem dX3_edit_79 : decode cX3_edit 79 = .ok (.invokevirtual 59, 3) := by decide +kernel
theorem dX3_edit_82 : decode cX3_edit 82 = .ok (.ireturn, 1) := by decide +kernel
set_option maxRecDepth 20000 in
theorem ggX3_delete_X3_storeAt : GoodIn wsX3_delete wsX3_storeAt := goodIn_ca (goodIn_r _ [8, 9, 10, 11, 102, 103, 104] (by decide +kernel) (by decide +kernel)) (goodIn_sub (fun _ h => List.mem_cons_of_mem _ (List.mem_append_right _ h)) (by decide +kernel))
set_option maxRecDepth 20000 in
theorem gX3_delete_X3_storeAt : GoodIn wsX3_delete (wsV RX3 30 RX3 yX3_storeAt wsX3_storeAt) := goodIn_app (goodIn_of _ (by decide +kernel)) ggX3_delete_X3_storeAt
set_option maxRecDepth 20000 in
theorem ggX3_delete_X3_checkDocument : GoodIn wsX3_delete wsX3_checkDocument := goodIn_ca (goodIn_r _ [15, 9, 10] (by decide +kernel) (by decide +kernel)) (goodIn_sub (fun _ h => List.mem_cons_of_mem _ (List.mem_append_right _ h)) (by decide +kernel))
set_option maxRecDepth 20000 in
theorem gX3_delete_X3_checkDocument : GoodIn wsX3_delete (wsV RX3 34 RX3 yX3_checkDocument wsX3_checkDocument) := goodIn_app (goodIn_of _ (by decide +kernel)) ggX3_delete_X3_checkDocument
set_option maxRecDepth 20000 in
theorem ggX3_delete_X3_checkRevision : GoodIn wsX3_delete wsX3_checkRevision := goodIn_ca (goodIn_r _ [19, 9, 10, 3, 102, 103, 104, 105, 106, 107, 108, 109, 110, 111] (by decide +kernel) (by decide +kernel)) (goodIn_sub (fun _ h => List.mem_cons_of_mem _ (List.mem_append_right _ h)) (by decide +kernel))
set_option maxRecDepth 20000 in
theorem gX3_delete_X3_checkRevision : GoodIn wsX3_delete (wsV RX3 38 RX3 yX3_checkRevision wsX3_checkRevision) := goodIn_app (goodIn_of _ (by decide +kernel)) ggX3_delete_X3_checkRevision
set_option maxRecDepth 20000 in
theorem ggX3_delete_X3_checkLeaf : GoodIn wsX3_delete wsX3_checkLeaf := goodIn_ca (goodIn_r _ [23, 1, 2, 3, 24, 25, 26, 27, 28, 29, 30, 31, 32, 33, 34, 102, 103, 104, 105, 106, 107, 108, 109, 110, 111, 112, 113, 114, 115, 116, 117, 118, 119] (by decide +kernel) (by decide +kernel)) (goodIn_sub (fun _ h => List.mem_cons_of_mem _ (List.mem_append_left _ (List.mem_append_right _ h))) (by decide +kernel))
set_option maxRecDepth 20000 in
theorem gX3_delete_X3_checkLeaf : GoodIn wsX3_delete (wsV RX3 52 RX3 yX3_checkLeaf wsX3_checkLeaf) := goodIn_app (goodIn_of _ (by decide +kernel)) ggX3_delete_X3_checkLeaf
set_option maxRecDepth 20000 in
theorem ggX3_delete_X3_checkRoom : GoodIn wsX3_delete wsX3_checkRoom := goodIn_ca (goodIn_r _ [38, 1, 2, 3, 102, 103, 104, 105, 106, 107, 108, 109, 110, 111] (by decide +kernel) (by decide +kernel)) (goodIn_sub (fun _ h => List.mem_cons_of_mem _ (List.mem_append_left _ (List.mem_append_right _ h))) (by decide +kernel))
set_option maxRecDepth 20000 in
theorem gX3_delete_X3_checkRoom : GoodIn wsX3_delete (wsV RX3 56 RX3 yX3_checkRoom wsX3_checkRoom) := goodIn_app (goodIn_of _ (by decide +kernel)) ggX3_delete_X3_checkRoom
set_option maxRecDepth 20000 in
theorem ggX3_delete_X3_grow : GoodIn wsX3_delete wsX3_grow := goodIn_r _ [42, 3, 43, 44, 45, 46, 47, 48, 49, 50, 51, 52, 53, 54, 55, 56, 57, 58, 59, 60, 61, 62, 63, 64, 65, 66, 67, 68, 69, 70, 71, 72, 73, 74, 27, 75, 76, 77, 78, 79, 34, 80, 81, 82, 83, 84, 85, 86, 87, 88, 25, 26, 28, 29, 30, 31, 32, 33, 89, 90, 91, 92, 93, 94, 95, 96, 97, 98, 99, 100, 101, 102, 103, 104, 105, 106, 107, 108, 109, 110, 111, 112, 113, 114, 115, 116, 117, 118, 119] (by decide +kernel) (by decide +kernel)
set_option maxRecDepth 20000 in
theorem gX3_delete_X3_grow : GoodIn wsX3_delete (wsV RX3 59 RX3 yX3_grow wsX3_grow) := goodIn_app (goodIn_of _ (by decide +kernel)) ggX3_delete_X3_grow
theorem dX3_delete_0 : decode cX3_delete 0 = .ok (.aload_n 0, 1) := by decide +kernel
theorem dX3_delete_1 : decode cX3_delete 1 = .ok (.iload_n 1, 1) := by decide +kernel
theorem dX3_delete_2 : decode cX3_delete 2 = .ok (.invokevirtual 30, 3) := by decide +kernel
theorem dX3_delete_5 : decode cX3_delete 5 = .ok (.astore 4, 2) := by decide +kernel
theorem dX3_delete_7 : decode cX3_delete 7 = .ok (.aload_n 0, 1) := by decide +kernel
theorem dX3_delete_8 : decode cX3_delete 8 = .ok (.iload_n 2, 1) := by decide +kernel
theorem dX3_delete_9 : decode cX3_delete 9 = .ok (.invokevirtual 34, 3) := by decide +kernel
theorem dX3_delete_12 : decode cX3_delete 12 = .ok (.aload_n 0, 1) := by decide +kernel
theorem dX3_delete_13 : decode cX3_delete 13 = .ok (.iload_n 3, 1) := by decide +kernel
theorem dX3_delete_14 : decode cX3_delete 14 = .ok (.invokevirtual 38, 3) := by decide +kernel
theorem dX3_delete_17 : decode cX3_delete 17 = .ok (.aload_n 0, 1) := by decide +kernel
theorem dX3_delete_18 : decode cX3_delete 18 = .ok (.aload 4, 2) := by decide +kernel
theorem dX3_delete_20 : decode cX3_delete 20 = .ok (.iload_n 2, 1) := by decide +kernel
theorem dX3_delete_21 : decode cX3_delete 21 = .ok (.iload_n 3, 1) := by decide +kernel
theorem dX3_delete_22 : decode cX3_delete 22 = .ok (.invokevirtual 52, 3) := by decide +kernel
theorem dX3_delete_25 : decode cX3_delete 25 = .ok (.aload_n 0, 1) := by decide +kernel
theorem dX3_delete_26 : decode cX3_delete 26 = .ok (.getfield 10, 3) := by decide +kernel
theorem dX3_delete_29 : decode cX3_delete 29 = .ok (.getfield 63, 3) := by decide +kernel
theorem dX3_delete_32 : decode cX3_delete 32 = .ok (.iload_n 3, 1) := by decide +kernel
theorem dX3_delete_33 : decode cX3_delete 33 = .ok (.baload, 1) := by decide +kernel
theorem dX3_delete_34 : decode cX3_delete 34 = .ok (.ifCond .eq 13, 3) := by decide +kernel
theorem dX3_delete_37 : decode cX3_delete 37 = .ok (.new 67, 3) := by decide +kernel
theorem dX3_delete_40 : decode cX3_delete 40 = .ok (.dup, 1) := by decide +kernel
theorem dX3_delete_41 : decode cX3_delete 41 = .ok (.ldc 69, 2) := by decide +kernel
theorem dX3_delete_43 : decode cX3_delete 43 = .ok (.invokespecial 71, 3) := by decide +kernel
theorem dX3_delete_46 : decode cX3_delete 46 = .ok (.athrow, 1) := by decide +kernel
theorem dX3_delete_47 : decode cX3_delete 47 = .ok (.aload_n 0, 1) := by decide +kernel
theorem dX3_delete_48 : decode cX3_delete 48 = .ok (.invokevirtual 56, 3) := by decide +kernel
theorem dX3_delete_51 : decode cX3_delete 51 = .ok (.aload_n 0, 1) := by decide +kernel
theorem dX3_delete_52 : decode cX3_delete 52 = .ok (.aload 4, 2) := by decide +kernel
theorem dX3_delete_54 : decode cX3_delete 54 = .ok (.iload_n 2, 1) := by decide +kernel
theorem dX3_delete_55 : decode cX3_delete 55 = .ok (.iload_n 3, 1) := by decide +kernel
theorem dX3_delete_56 : decode cX3_delete 56 = .ok (.iconst 0, 1) := by decide +kernel
theorem dX3_delete_57 : decode cX3_delete 57 = .ok (.iconst 1, 1) := by decide +kernel
theorem dX3_delete_58 : decode cX3_delete 58 = .ok (.invokevirtual 59, 3) := by decide +kernel
theorem dX3_delete_61 : decode cX3_delete 61 = .ok (.ireturn, 1) := by decide +kernel
set_option maxRecDepth 20000 in
theorem ggX3_setDepth_X3_storeAt : GoodIn wsX3_setDepth wsX3_storeAt := goodIn_ca (goodIn_r _ [8, 9, 10, 11, 28, 29, 30] (by decide +kernel) (by decide +kernel)) (goodIn_sub (fun _ h => List.mem_cons_of_mem _ (List.mem_append_right _ h)) (by decide +kernel))
set_option maxRecDepth 20000 in
theorem gX3_setDepth_X3_storeAt : GoodIn wsX3_setDepth (wsV RX3 30 RX3 yX3_storeAt wsX3_storeAt) := goodIn_app (goodIn_of _ (by decide +kernel)) ggX3_setDepth_X3_storeAt
set_option maxRecDepth 20000 in
theorem ggX3_setDepth_X0_stem : GoodIn wsX3_setDepth wsX0_stem := goodIn_r _ [16, 17, 18, 19, 20, 21, 15, 22, 31, 32, 33, 34, 35, 36, 37, 38, 39, 40] (by decide +kernel) (by decide +kernel)
set_option maxRecDepth 20000 in
theorem gX3_setDepth_X0_stem : GoodIn wsX3_setDepth (wsV RX3 81 RX0 yX0_stem wsX0_stem) := goodIn_app (goodIn_of _ (by decide +kernel)) ggX3_setDepth_X0_stem
theorem dX3_setDepth_0 : decode cX3_setDepth 0 = .ok (.aload_n 0, 1) := by decide +kernel
theorem dX3_setDepth_1 : decode cX3_setDepth 1 = .ok (.iload_n 1, 1) := by decide +kernel
theorem dX3_setDepth_2 : decode cX3_setDepth 2 = .ok (.invokevirtual 30, 3) := by decide +kernel
theorem dX3_setDepth_5 : decode cX3_setDepth 5 = .ok (.astore_n 3, 1) := by decide +kernel
theorem dX3_setDepth_6 : decode cX3_setDepth 6 = .ok (.iload_n 2, 1) := by decide +kernel
theorem dX3_setDepth_7 : decode cX3_setDepth 7 = .ok (.iconst 1, 1) := by decide +kernel
theorem dX3_setDepth_8 : decode cX3_setDepth 8 = .ok (.if_icmp .lt 9, 3) := by decide +kernel
theorem dX3_setDepth_11 : decode cX3_setDepth 11 = .ok (.iload_n 2, 1) := by decide +kernel
theorem dX3_setDepth_12 : decode cX3_setDepth 12 = .ok (.bipush 20, 2) := by decide +kernel
theorem dX3_setDepth_14 : decode cX3_setDepth 14 = .ok (.if_icmp .le 13, 3) := by decide +kernel
theorem dX3_setDepth_17 : decode cX3_setDepth 17 = .ok (.new 41, 3) := by decide +kernel
theorem dX3_setDepth_20 : decode cX3_setDepth 20 = .ok (.dup, 1) := by decide +kernel
theorem dX3_setDepth_21 : decode cX3_setDepth 21 = .ok (.ldc 72, 2) := by decide +kernel
theorem dX3_setDepth_23 : decode cX3_setDepth 23 = .ok (.invokespecial 45, 3) := by decide +kernel
theorem dX3_setDepth_26 : decode cX3_setDepth 26 = .ok (.athrow, 1) := by decide +kernel
theorem dX3_setDepth_27 : decode cX3_setDepth 27 = .ok (.aload_n 3, 1) := by decide +kernel
theorem dX3_setDepth_28 : decode cX3_setDepth 28 = .ok (.iload_n 2, 1) := by decide +kernel
theorem dX3_setDepth_29 : decode cX3_setDepth 29 = .ok (.putfield 74, 3) := by decide +kernel
theorem dX3_setDepth_32 : decode cX3_setDepth 32 = .ok (.aload_n 3, 1) := by decide +kernel
theorem dX3_setDepth_33 : decode cX3_setDepth 33 = .ok (.getfield 78, 3) := by decide +kernel
theorem dX3_setDepth_36 : decode cX3_setDepth 36 = .ok (.aload_n 0, 1) := by decide +kernel
theorem dX3_setDepth_37 : decode cX3_setDepth 37 = .ok (.getfield 10, 3) := by decide +kernel
theorem dX3_setDepth_40 : decode cX3_setDepth 40 = .ok (.iload_n 2, 1) := by decide +kernel
theorem dX3_setDepth_41 : decode cX3_setDepth 41 = .ok (.invokevirtual 81, 3) := by decide +kernel
theorem dX3_setDepth_44 : decode cX3_setDepth 44 = .ok (.ireturn, 1) := by decide +kernel
set_option maxRecDepth 20000 in
theorem ggX3_wipe_X3_storeAt : GoodIn wsX3_wipe wsX3_storeAt := goodIn_ca (goodIn_r _ [6, 7, 8, 9, 73, 74, 75] (by decide +kernel) (by decide +kernel)) (goodIn_sub (fun _ h => List.mem_cons_of_mem _ (List.mem_append_right _ h)) (by decide +kernel))
set_option maxRecDepth 20000 in
theorem gX3_wipe_X3_storeAt : GoodIn wsX3_wipe (wsV RX3 30 RX3 yX3_storeAt wsX3_storeAt) := goodIn_app (goodIn_of _ (by decide +kernel)) ggX3_wipe_X3_storeAt
set_option maxRecDepth 20000 in
theorem ggX3_wipe_X0_countAll : GoodIn wsX3_wipe wsX0_countAll := goodIn_r _ [14, 15, 76, 77, 78, 79, 80, 81, 82, 83, 84, 85] (by decide +kernel) (by decide +kernel)
set_option maxRecDepth 20000 in
theorem gX3_wipe_X0_countAll : GoodIn wsX3_wipe (wsV RX3 85 RX0 yX0_countAll wsX0_countAll) := goodIn_app (goodIn_of _ (by decide +kernel)) ggX3_wipe_X0_countAll
set_option maxRecDepth 20000 in
theorem ggX3_wipe_X1_clear : GoodIn wsX3_wipe wsX1_clear := goodIn_r _ [20, 21, 22, 23, 24, 25, 26, 27, 13, 28, 15, 29, 30, 31, 32, 33, 34, 35, 36, 37, 38, 39, 40, 41, 42, 43, 44, 45, 46, 47, 48, 49, 50, 51, 52, 53, 54, 55, 56, 57, 58, 59, 60, 61, 62, 63, 64, 65, 66, 67, 68, 69, 70, 71, 72, 83, 84, 85, 76, 77, 78, 79, 80, 81, 82] (by decide +kernel) (by decide +kernel)
set_option maxRecDepth 20000 in
theorem gX3_wipe_X1_clear : GoodIn wsX3_wipe (wsV RX3 89 RX1 yX1_clear wsX1_clear) := goodIn_app (goodIn_of _ (by decide +kernel)) ggX3_wipe_X1_clear
theorem dX3_wipe_0 : decode cX3_wipe 0 = .ok (.aload_n 0, 1) := by decide +kernel
theorem dX3_wipe_1 : decode cX3_wipe 1 = .ok (.iload_n 1, 1) := by decide +kernel
theorem dX3_wipe_2 : decode cX3_wipe 2 = .ok (.invokevirtual 30, 3) := by decide +kernel
theorem dX3_wipe_5 : decode cX3_wipe 5 = .ok (.astore_n 2, 1) := by decide +kernel
theorem dX3_wipe_6 : decode cX3_wipe 6 = .ok (.aload_n 2, 1) := by decide +kernel
theorem dX3_wipe_7 : decode cX3_wipe 7 = .ok (.getfield 78, 3) := by decide +kernel
theorem dX3_wipe_10 : decode cX3_wipe 10 = .ok (.aload_n 0, 1) := by decide +kernel
theorem dX3_wipe_11 : decode cX3_wipe 11 = .ok (.getfield 10, 3) := by decide +kernel
theorem dX3_wipe_14 : decode cX3_wipe 14 = .ok (.invokevirtual 85, 3) := by decide +kernel
theorem dX3_wipe_17 : decode cX3_wipe 17 = .ok (.istore_n 3, 1) := by decide +kernel
theorem dX3_wipe_18 : decode cX3_wipe 18 = .ok (.aload_n 2, 1) := by decide +kernel
theorem dX3_wipe_19 : decode cX3_wipe 19 = .ok (.aload_n 0, 1) := by decide +kernel
theorem dX3_wipe_20 : decode cX3_wipe 20 = .ok (.getfield 10, 3) := by decide +kernel
theorem dX3_wipe_23 : decode cX3_wipe 23 = .ok (.invokevirtual 89, 3) := by decide +kernel
theorem dX3_wipe_26 : decode cX3_wipe 26 = .ok (.iload_n 3, 1) := by decide +kernel
theorem dX3_wipe_27 : decode cX3_wipe 27 = .ok (.ireturn, 1) := by decide +kernel
set_option maxRecDepth 20000 in
theorem ggX3_replicate_X3_storeAt : GoodIn wsX3_replicate wsX3_storeAt := goodIn_ca (goodIn_r _ [8, 9, 10, 11, 93, 94, 95] (by decide +kernel) (by decide +kernel)) (goodIn_sub (fun _ h => List.mem_cons_of_mem _ (List.mem_append_right _ h)) (by decide +kernel))
set_option maxRecDepth 20000 in
theorem gX3_replicate_X3_storeAt : GoodIn wsX3_replicate (wsV RX3 30 RX3 yX3_storeAt wsX3_storeAt) := goodIn_app (goodIn_of _ (by decide +kernel)) ggX3_replicate_X3_storeAt
set_option maxRecDepth 20000 in
theorem ggX3_replicate_X3_checkDifferent : GoodIn wsX3_replicate wsX3_checkDifferent := goodIn_ca (goodIn_r _ [15, 1, 2] (by decide +kernel) (by decide +kernel)) (goodIn_sub (fun _ h => List.mem_cons_of_mem _ (List.mem_append_left _ (List.mem_append_right _ h))) (by decide +kernel))
set_option maxRecDepth 20000 in
theorem gX3_replicate_X3_checkDifferent : GoodIn wsX3_replicate (wsV RX3 95 RX3 yX3_checkDifferent wsX3_checkDifferent) := goodIn_app (goodIn_of _ (by decide +kernel)) ggX3_replicate_X3_checkDifferent
set_option maxRecDepth 20000 in
theorem ggX3_replicate_X3_commonCheckpoint : GoodIn wsX3_replicate wsX3_commonCheckpoint := goodIn_r _ [19, 11, 20, 21, 22, 23, 24, 25, 7, 26, 93, 94, 95, 96, 97, 98, 99, 100] (by decide +kernel) (by decide +kernel)
set_option maxRecDepth 20000 in
theorem gX3_replicate_X3_commonCheckpoint : GoodIn wsX3_replicate (wsV RX3 99 RX3 yX3_commonCheckpoint wsX3_commonCheckpoint) := goodIn_app (goodIn_of _ (by decide +kernel)) ggX3_replicate_X3_commonCheckpoint
set_option maxRecDepth 20000 in
theorem ggX3_replicate_X1_nextChanged : GoodIn wsX3_replicate wsX1_nextChanged := goodIn_r _ [31, 32, 96, 97, 98, 99, 100] (by decide +kernel) (by decide +kernel)
set_option maxRecDepth 20000 in
theorem gX3_replicate_X1_nextChanged : GoodIn wsX3_replicate (wsV RX3 103 RX1 yX1_nextChanged wsX1_nextChanged) := goodIn_app (goodIn_of _ (by decide +kernel)) ggX3_replicate_X1_nextChanged
set_option maxRecDepth 20000 in
theorem ggX3_replicate_X1_receive : GoodIn wsX3_replicate wsX1_receive := goodIn_r _ [36, 37, 38, 39, 40, 41, 42, 43, 44, 45, 46, 47, 48, 49, 50, 51, 52, 53, 54, 55, 56, 57, 58, 59, 30, 60, 61, 32, 62, 63, 64, 65, 66, 67, 68, 69, 70, 71, 21, 22, 23, 72, 73, 74, 75, 76, 77, 78, 79, 80, 81, 82, 83, 84, 85, 86, 87, 88, 89, 90, 91, 92, 96, 97, 98, 99, 100, 101, 102, 103, 104, 105, 106, 107, 108, 109, 110] (by decide +kernel) (by decide +kernel)
set_option maxRecDepth 20000 in
theorem gX3_replicate_X1_receive : GoodIn wsX3_replicate (wsV RX3 107 RX1 yX1_receive wsX1_receive) := goodIn_app (goodIn_of _ (by decide +kernel)) ggX3_replicate_X1_receive
set_option maxRecDepth 20000 in
theorem ggX3_replicate_X3_pairOf : GoodIn wsX3_replicate wsX3_pairOf := goodIn_r _ [26] (by decide +kernel) (by decide +kernel)
set_option maxRecDepth 20000 in
theorem gX3_replicate_X3_pairOf : GoodIn wsX3_replicate (va_wsS RX3 121 yX3_pairOf wsX3_pairOf) := goodIn_app (goodIn_of _ (by decide +kernel)) ggX3_replicate_X3_pairOf
theorem dX3_replicate_0 : decode cX3_replicate 0 = .ok (.aload_n 0, 1) := by decide +kernel
theorem dX3_replicate_1 : decode cX3_replicate 1 = .ok (.iload_n 1, 1) := by decide +kernel
theorem dX3_replicate_2 : decode cX3_replicate 2 = .ok (.invokevirtual 30, 3) := by decide +kernel
theorem dX3_replicate_5 : decode cX3_replicate 5 = .ok (.astore 4, 2) := by decide +kernel
theorem dX3_replicate_7 : decode cX3_replicate 7 = .ok (.aload_n 0, 1) := by decide +kernel
theorem dX3_replicate_8 : decode cX3_replicate 8 = .ok (.iload_n 2, 1) := by decide +kernel
theorem dX3_replicate_9 : decode cX3_replicate 9 = .ok (.invokevirtual 30, 3) := by decide +kernel
theorem dX3_replicate_12 : decode cX3_replicate 12 = .ok (.astore 5, 2) := by decide +kernel
theorem dX3_replicate_14 : decode cX3_replicate 14 = .ok (.iload_n 3, 1) := by decide +kernel
theorem dX3_replicate_15 : decode cX3_replicate 15 = .ok (.iconst 1, 1) := by decide +kernel
theorem dX3_replicate_16 : decode cX3_replicate 16 = .ok (.if_icmp .lt 8, 3) := by decide +kernel
theorem dX3_replicate_19 : decode cX3_replicate 19 = .ok (.iload_n 3, 1) := by decide +kernel
theorem dX3_replicate_20 : decode cX3_replicate 20 = .ok (.iconst 4, 1) := by decide +kernel
theorem dX3_replicate_21 : decode cX3_replicate 21 = .ok (.if_icmp .le 13, 3) := by decide +kernel
theorem dX3_replicate_24 : decode cX3_replicate 24 = .ok (.new 41, 3) := by decide +kernel
theorem dX3_replicate_27 : decode cX3_replicate 27 = .ok (.dup, 1) := by decide +kernel
theorem dX3_replicate_28 : decode cX3_replicate 28 = .ok (.ldc 93, 2) := by decide +kernel
theorem dX3_replicate_30 : decode cX3_replicate 30 = .ok (.invokespecial 45, 3) := by decide +kernel
theorem dX3_replicate_33 : decode cX3_replicate 33 = .ok (.athrow, 1) := by decide +kernel
theorem dX3_replicate_34 : decode cX3_replicate 34 = .ok (.aload_n 0, 1) := by decide +kernel
theorem dX3_replicate_35 : decode cX3_replicate 35 = .ok (.iload_n 1, 1) := by decide +kernel
theorem dX3_replicate_36 : decode cX3_replicate 36 = .ok (.iload_n 2, 1) := by decide +kernel
theorem dX3_replicate_37 : decode cX3_replicate 37 = .ok (.invokevirtual 95, 3) := by decide +kernel
theorem dX3_replicate_40 : decode cX3_replicate 40 = .ok (.aload_n 0, 1) := by decide +kernel
theorem dX3_replicate_41 : decode cX3_replicate 41 = .ok (.iload_n 1, 1) := by decide +kernel
theorem dX3_replicate_42 : decode cX3_replicate 42 = .ok (.iload_n 2, 1) := by decide +kernel
theorem dX3_replicate_43 : decode cX3_replicate 43 = .ok (.invokevirtual 99, 3) := by decide +kernel
theorem dX3_replicate_46 : decode cX3_replicate 46 = .ok (.istore 6, 2) := by decide +kernel
theorem dX3_replicate_48 : decode cX3_replicate 48 = .ok (.iconst 0, 1) := by decide +kernel
theorem dX3_replicate_49 : decode cX3_replicate 49 = .ok (.istore 7, 2) := by decide +kernel
theorem dX3_replicate_51 : decode cX3_replicate 51 = .ok (.iconst 0, 1) := by decide +kernel
theorem dX3_replicate_52 : decode cX3_replicate 52 = .ok (.istore 8, 2) := by decide +kernel
theorem dX3_replicate_54 : decode cX3_replicate 54 = .ok (.iload 8, 2) := by decide +kernel
theorem dX3_replicate_56 : decode cX3_replicate 56 = .ok (.iload_n 3, 1) := by decide +kernel
theorem dX3_replicate_57 : decode cX3_replicate 57 = .ok (.if_icmp .ge 55, 3) := by decide +kernel
theorem dX3_replicate_60 : decode cX3_replicate 60 = .ok (.aload 4, 2) := by decide +kernel
theorem dX3_replicate_62 : decode cX3_replicate 62 = .ok (.iload 6, 2) := by decide +kernel
theorem dX3_replicate_64 : decode cX3_replicate 64 = .ok (.invokevirtual 103, 3) := by decide +kernel
theorem dX3_replicate_67 : decode cX3_replicate 67 = .ok (.istore 9, 2) := by decide +kernel
theorem dX3_replicate_69 : decode cX3_replicate 69 = .ok (.iload 9, 2) := by decide +kernel
theorem dX3_replicate_71 : decode cX3_replicate 71 = .ok (.iconst (-1), 1) := by decide +kernel
theorem dX3_replicate_72 : decode cX3_replicate 72 = .ok (.if_icmp .eq 34, 3) := by decide +kernel
theorem dX3_replicate_75 : decode cX3_replicate 75 = .ok (.iload 7, 2) := by decide +kernel
theorem dX3_replicate_77 : decode cX3_replicate 77 = .ok (.aload 5, 2) := by decide +kernel
theorem dX3_replicate_79 : decode cX3_replicate 79 = .ok (.aload_n 0, 1) := by decide +kernel
theorem dX3_replicate_80 : decode cX3_replicate 80 = .ok (.getfield 10, 3) := by decide +kernel
theorem dX3_replicate_83 : decode cX3_replicate 83 = .ok (.aload 4, 2) := by decide +kernel
theorem dX3_replicate_85 : decode cX3_replicate 85 = .ok (.getfield 78, 3) := by decide +kernel
theorem dX3_replicate_88 : decode cX3_replicate 88 = .ok (.iload 9, 2) := by decide +kernel
theorem dX3_replicate_90 : decode cX3_replicate 90 = .ok (.invokevirtual 107, 3) := by decide +kernel
theorem dX3_replicate_93 : decode cX3_replicate 93 = .ok (.iadd, 1) := by decide +kernel
theorem dX3_replicate_94 : decode cX3_replicate 94 = .ok (.istore 7, 2) := by decide +kernel
theorem dX3_replicate_96 : decode cX3_replicate 96 = .ok (.aload 4, 2) := by decide +kernel
theorem dX3_replicate_98 : decode cX3_replicate 98 = .ok (.getfield 111, 3) := by decide +kernel
theorem dX3_replicate_101 : decode cX3_replicate 101 = .ok (.iload 9, 2) := by decide +kernel
theorem dX3_replicate_103 : decode cX3_replicate 103 = .ok (.iaload, 1) := by decide +kernel
theorem dX3_replicate_104 : decode cX3_replicate 104 = .ok (.istore 6, 2) := by decide +kernel
theorem dX3_replicate_106 : decode cX3_replicate 106 = .ok (.iinc 8 1, 3) := by decide +kernel
theorem dX3_replicate_109 : decode cX3_replicate 109 = .ok (.goto (-55), 3) := by decide +kernel
theorem dX3_replicate_112 : decode cX3_replicate 112 = .ok (.aload 4, 2) := by decide +kernel
theorem dX3_replicate_114 : decode cX3_replicate 114 = .ok (.iload 6, 2) := by decide +kernel
theorem dX3_replicate_116 : decode cX3_replicate 116 = .ok (.invokevirtual 103, 3) := by decide +kernel
theorem dX3_replicate_119 : decode cX3_replicate 119 = .ok (.iconst (-1), 1) := by decide +kernel
theorem dX3_replicate_120 : decode cX3_replicate 120 = .ok (.if_icmp .ne 10, 3) := by decide +kernel
theorem dX3_replicate_123 : decode cX3_replicate 123 = .ok (.aload 4, 2) := by decide +kernel
theorem dX3_replicate_125 : decode cX3_replicate 125 = .ok (.getfield 115, 3) := by decide +kernel
theorem dX3_replicate_128 : decode cX3_replicate 128 = .ok (.istore 6, 2) := by decide +kernel
theorem dX3_replicate_130 : decode cX3_replicate 130 = .ok (.aload 4, 2) := by decide +kernel
theorem dX3_replicate_132 : decode cX3_replicate 132 = .ok (.getfield 118, 3) := by decide +kernel
theorem dX3_replicate_135 : decode cX3_replicate 135 = .ok (.iload_n 1, 1) := by decide +kernel
theorem dX3_replicate_136 : decode cX3_replicate 136 = .ok (.iload_n 2, 1) := by decide +kernel
theorem dX3_replicate_137 : decode cX3_replicate 137 = .ok (.invokestatic 121, 3) := by decide +kernel
theorem dX3_replicate_140 : decode cX3_replicate 140 = .ok (.iload 6, 2) := by decide +kernel
theorem dX3_replicate_142 : decode cX3_replicate 142 = .ok (.iastore, 1) := by decide +kernel
theorem dX3_replicate_143 : decode cX3_replicate 143 = .ok (.aload 5, 2) := by decide +kernel
theorem dX3_replicate_145 : decode cX3_replicate 145 = .ok (.getfield 118, 3) := by decide +kernel
theorem dX3_replicate_148 : decode cX3_replicate 148 = .ok (.iload_n 1, 1) := by decide +kernel
theorem dX3_replicate_149 : decode cX3_replicate 149 = .ok (.iload_n 2, 1) := by decide +kernel
theorem dX3_replicate_150 : decode cX3_replicate 150 = .ok (.invokestatic 121, 3) := by decide +kernel
theorem dX3_replicate_153 : decode cX3_replicate 153 = .ok (.iload 6, 2) := by decide +kernel
theorem dX3_replicate_155 : decode cX3_replicate 155 = .ok (.iastore, 1) := by decide +kernel
theorem dX3_replicate_156 : decode cX3_replicate 156 = .ok (.iload 7, 2) := by decide +kernel
theorem dX3_replicate_158 : decode cX3_replicate 158 = .ok (.ireturn, 1) := by decide +kernel
set_option maxRecDepth 20000 in
theorem ggX3_pending_X3_storeAt : GoodIn wsX3_pending wsX3_storeAt := goodIn_ca (goodIn_r _ [5, 6, 7, 8, 32, 33, 34] (by decide +kernel) (by decide +kernel)) (goodIn_sub (fun _ h => List.mem_cons_of_mem _ (List.mem_append_left _ (List.mem_append_right _ h))) (by decide +kernel))
set_option maxRecDepth 20000 in
theorem gX3_pending_X3_storeAt : GoodIn wsX3_pending (wsV RX3 30 RX3 yX3_storeAt wsX3_storeAt) := goodIn_app (goodIn_of _ (by decide +kernel)) ggX3_pending_X3_storeAt
set_option maxRecDepth 20000 in
theorem ggX3_pending_X3_checkDifferent : GoodIn wsX3_pending wsX3_checkDifferent := goodIn_ca (goodIn_r _ [12, 13, 14] (by decide +kernel) (by decide +kernel)) (goodIn_sub (fun _ h => List.mem_cons_of_mem _ (List.mem_append_right _ h)) (by decide +kernel))
set_option maxRecDepth 20000 in
theorem gX3_pending_X3_checkDifferent : GoodIn wsX3_pending (wsV RX3 95 RX3 yX3_checkDifferent wsX3_checkDifferent) := goodIn_app (goodIn_of _ (by decide +kernel)) ggX3_pending_X3_checkDifferent
set_option maxRecDepth 20000 in
theorem ggX3_pending_X3_commonCheckpoint : GoodIn wsX3_pending wsX3_commonCheckpoint := goodIn_r _ [18, 8, 19, 20, 21, 22, 23, 24, 4, 25, 32, 33, 34, 35, 36, 37, 38, 39] (by decide +kernel) (by decide +kernel)
set_option maxRecDepth 20000 in
theorem gX3_pending_X3_commonCheckpoint : GoodIn wsX3_pending (wsV RX3 99 RX3 yX3_commonCheckpoint wsX3_commonCheckpoint) := goodIn_app (goodIn_of _ (by decide +kernel)) ggX3_pending_X3_commonCheckpoint
set_option maxRecDepth 20000 in
theorem ggX3_pending_X1_countChanged : GoodIn wsX3_pending wsX1_countChanged := goodIn_r _ [30, 31, 35, 36, 37, 38, 39] (by decide +kernel) (by decide +kernel)
set_option maxRecDepth 20000 in
theorem gX3_pending_X1_countChanged : GoodIn wsX3_pending (wsV RX3 124 RX1 yX1_countChanged wsX1_countChanged) := goodIn_app (goodIn_of _ (by decide +kernel)) ggX3_pending_X1_countChanged
theorem dX3_pending_0 : decode cX3_pending 0 = .ok (.aload_n 0, 1) := by decide +kernel
theorem dX3_pending_1 : decode cX3_pending 1 = .ok (.iload_n 1, 1) := by decide +kernel
theorem dX3_pending_2 : decode cX3_pending 2 = .ok (.invokevirtual 30, 3) := by decide +kernel
theorem dX3_pending_5 : decode cX3_pending 5 = .ok (.astore_n 3, 1) := by decide +kernel
theorem dX3_pending_6 : decode cX3_pending 6 = .ok (.aload_n 0, 1) := by decide +kernel
theorem dX3_pending_7 : decode cX3_pending 7 = .ok (.iload_n 2, 1) := by decide +kernel
theorem dX3_pending_8 : decode cX3_pending 8 = .ok (.invokevirtual 30, 3) := by decide +kernel
theorem dX3_pending_11 : decode cX3_pending 11 = .ok (.pop, 1) := by decide +kernel
theorem dX3_pending_12 : decode cX3_pending 12 = .ok (.aload_n 0, 1) := by decide +kernel
theorem dX3_pending_13 : decode cX3_pending 13 = .ok (.iload_n 1, 1) := by decide +kernel
theorem dX3_pending_14 : decode cX3_pending 14 = .ok (.iload_n 2, 1) := by decide +kernel
theorem dX3_pending_15 : decode cX3_pending 15 = .ok (.invokevirtual 95, 3) := by decide +kernel
theorem dX3_pending_18 : decode cX3_pending 18 = .ok (.aload_n 3, 1) := by decide +kernel
theorem dX3_pending_19 : decode cX3_pending 19 = .ok (.aload_n 0, 1) := by decide +kernel
theorem dX3_pending_20 : decode cX3_pending 20 = .ok (.iload_n 1, 1) := by decide +kernel
theorem dX3_pending_21 : decode cX3_pending 21 = .ok (.iload_n 2, 1) := by decide +kernel
theorem dX3_pending_22 : decode cX3_pending 22 = .ok (.invokevirtual 99, 3) := by decide +kernel
theorem dX3_pending_25 : decode cX3_pending 25 = .ok (.invokevirtual 124, 3) := by decide +kernel
theorem dX3_pending_28 : decode cX3_pending 28 = .ok (.ireturn, 1) := by decide +kernel
set_option maxRecDepth 20000 in
theorem ggX3_checkpoint_X3_storeAt : GoodIn wsX3_checkpoint wsX3_storeAt := goodIn_ca (goodIn_r _ [5, 6, 7, 8, 26, 27, 28] (by decide +kernel) (by decide +kernel)) (goodIn_sub (fun _ h => List.mem_cons_of_mem _ (List.mem_append_left _ (List.mem_append_right _ h))) (by decide +kernel))
set_option maxRecDepth 20000 in
theorem gX3_checkpoint_X3_storeAt : GoodIn wsX3_checkpoint (wsV RX3 30 RX3 yX3_storeAt wsX3_storeAt) := goodIn_app (goodIn_of _ (by decide +kernel)) ggX3_checkpoint_X3_storeAt
set_option maxRecDepth 20000 in
theorem ggX3_checkpoint_X3_checkDifferent : GoodIn wsX3_checkpoint wsX3_checkDifferent := goodIn_ca (goodIn_r _ [12, 13, 14] (by decide +kernel) (by decide +kernel)) (goodIn_sub (fun _ h => List.mem_cons_of_mem _ (List.mem_append_right _ h)) (by decide +kernel))
set_option maxRecDepth 20000 in
theorem gX3_checkpoint_X3_checkDifferent : GoodIn wsX3_checkpoint (wsV RX3 95 RX3 yX3_checkDifferent wsX3_checkDifferent) := goodIn_app (goodIn_of _ (by decide +kernel)) ggX3_checkpoint_X3_checkDifferent
set_option maxRecDepth 20000 in
theorem ggX3_checkpoint_X3_commonCheckpoint : GoodIn wsX3_checkpoint wsX3_commonCheckpoint := goodIn_r _ [18, 8, 19, 20, 21, 22, 23, 24, 4, 25, 26, 27, 28, 29, 30, 31, 32, 33] (by decide +kernel) (by decide +kernel)
set_option maxRecDepth 20000 in
theorem gX3_checkpoint_X3_commonCheckpoint : GoodIn wsX3_checkpoint (wsV RX3 99 RX3 yX3_commonCheckpoint wsX3_commonCheckpoint) := goodIn_app (goodIn_of _ (by decide +kernel)) ggX3_checkpoint_X3_commonCheckpoint
theorem dX3_checkpoint_0 : decode cX3_checkpoint 0 = .ok (.aload_n 0, 1) := by decide +kernel
theorem dX3_checkpoint_1 : decode cX3_checkpoint 1 = .ok (.iload_n 1, 1) := by decide +kernel
theorem dX3_checkpoint_2 : decode cX3_checkpoint 2 = .ok (.invokevirtual 30, 3) := by decide +kernel
theorem dX3_checkpoint_5 : decode cX3_checkpoint 5 = .ok (.pop, 1) := by decide +kernel
theorem dX3_checkpoint_6 : decode cX3_checkpoint 6 = .ok (.aload_n 0, 1) := by decide +kernel
theorem dX3_checkpoint_7 : decode cX3_checkpoint 7 = .ok (.iload_n 2, 1) := by decide +kernel
theorem dX3_checkpoint_8 : decode cX3_checkpoint 8 = .ok (.invokevirtual 30, 3) := by decide +kernel
theorem dX3_checkpoint_11 : decode cX3_checkpoint 11 = .ok (.pop, 1) := by decide +kernel
theorem dX3_checkpoint_12 : decode cX3_checkpoint 12 = .ok (.aload_n 0, 1) := by decide +kernel
theorem dX3_checkpoint_13 : decode cX3_checkpoint 13 = .ok (.iload_n 1, 1) := by decide +kernel
theorem dX3_checkpoint_14 : decode cX3_checkpoint 14 = .ok (.iload_n 2, 1) := by decide +kernel
theorem dX3_checkpoint_15 : decode cX3_checkpoint 15 = .ok (.invokevirtual 95, 3) := by decide +kernel
theorem dX3_checkpoint_18 : decode cX3_checkpoint 18 = .ok (.aload_n 0, 1) := by decide +kernel
theorem dX3_checkpoint_19 : decode cX3_checkpoint 19 = .ok (.iload_n 1, 1) := by decide +kernel
theorem dX3_checkpoint_20 : decode cX3_checkpoint 20 = .ok (.iload_n 2, 1) := by decide +kernel
theorem dX3_checkpoint_21 : decode cX3_checkpoint 21 = .ok (.invokevirtual 99, 3) := by decide +kernel
theorem dX3_checkpoint_24 : decode cX3_checkpoint 24 = .ok (.ireturn, 1) := by decide +kernel
theorem dX3_revisions_0 : decode cX3_revisions 0 = .ok (.aload_n 0, 1) := by decide +kernel
theorem dX3_revisions_1 : decode cX3_revisions 1 = .ok (.getfield 10, 3) := by decide +kernel
theorem dX3_revisions_4 : decode cX3_revisions 4 = .ok (.getfield 127, 3) := by decide +kernel
theorem dX3_revisions_7 : decode cX3_revisions 7 = .ok (.ireturn, 1) := by decide +kernel
set_option maxRecDepth 20000 in
theorem ggX3_documentOf_X3_checkRevision : GoodIn wsX3_documentOf wsX3_checkRevision := goodIn_ca (goodIn_r _ [6, 7, 8, 1, 9, 10, 11, 12, 13, 14, 15, 16, 17, 18] (by decide +kernel) (by decide +kernel)) (goodIn_sub (fun _ h => List.mem_cons_of_mem _ (List.mem_append_right _ h)) (by decide +kernel))
set_option maxRecDepth 20000 in
theorem gX3_documentOf_X3_checkRevision : GoodIn wsX3_documentOf (wsV RX3 38 RX3 yX3_checkRevision wsX3_checkRevision) := goodIn_app (goodIn_of _ (by decide +kernel)) ggX3_documentOf_X3_checkRevision
theorem dX3_documentOf_0 : decode cX3_documentOf 0 = .ok (.aload_n 0, 1) := by decide +kernel
theorem dX3_documentOf_1 : decode cX3_documentOf 1 = .ok (.iload_n 1, 1) := by decide +kernel
theorem dX3_documentOf_2 : decode cX3_documentOf 2 = .ok (.invokevirtual 38, 3) := by decide +kernel
theorem dX3_documentOf_5 : decode cX3_documentOf 5 = .ok (.aload_n 0, 1) := by decide +kernel
theorem dX3_documentOf_6 : decode cX3_documentOf 6 = .ok (.getfield 10, 3) := by decide +kernel
theorem dX3_documentOf_9 : decode cX3_documentOf 9 = .ok (.getfield 130, 3) := by decide +kernel
theorem dX3_documentOf_12 : decode cX3_documentOf 12 = .ok (.iload_n 1, 1) := by decide +kernel
theorem dX3_documentOf_13 : decode cX3_documentOf 13 = .ok (.iaload, 1) := by decide +kernel
theorem dX3_documentOf_14 : decode cX3_documentOf 14 = .ok (.ireturn, 1) := by decide +kernel
set_option maxRecDepth 20000 in
theorem ggX3_parentOf_X3_checkRevision : GoodIn wsX3_parentOf wsX3_checkRevision := goodIn_ca (goodIn_r _ [6, 7, 8, 1, 9, 10, 11, 12, 13, 14, 15, 16, 17, 18] (by decide +kernel) (by decide +kernel)) (goodIn_sub (fun _ h => List.mem_cons_of_mem _ (List.mem_append_right _ h)) (by decide +kernel))
set_option maxRecDepth 20000 in
theorem gX3_parentOf_X3_checkRevision : GoodIn wsX3_parentOf (wsV RX3 38 RX3 yX3_checkRevision wsX3_checkRevision) := goodIn_app (goodIn_of _ (by decide +kernel)) ggX3_parentOf_X3_checkRevision
theorem dX3_parentOf_0 : decode cX3_parentOf 0 = .ok (.aload_n 0, 1) := by decide +kernel
theorem dX3_parentOf_1 : decode cX3_parentOf 1 = .ok (.iload_n 1, 1) := by decide +kernel
theorem dX3_parentOf_2 : decode cX3_parentOf 2 = .ok (.invokevirtual 38, 3) := by decide +kernel
theorem dX3_parentOf_5 : decode cX3_parentOf 5 = .ok (.aload_n 0, 1) := by decide +kernel
theorem dX3_parentOf_6 : decode cX3_parentOf 6 = .ok (.getfield 10, 3) := by decide +kernel
theorem dX3_parentOf_9 : decode cX3_parentOf 9 = .ok (.getfield 133, 3) := by decide +kernel
theorem dX3_parentOf_12 : decode cX3_parentOf 12 = .ok (.iload_n 1, 1) := by decide +kernel
theorem dX3_parentOf_13 : decode cX3_parentOf 13 = .ok (.iaload, 1) := by decide +kernel
theorem dX3_parentOf_14 : decode cX3_parentOf 14 = .ok (.ireturn, 1) := by decide +kernel
set_option maxRecDepth 20000 in
theorem ggX3_generation_X3_checkRevision : GoodIn wsX3_generation wsX3_checkRevision := goodIn_ca (goodIn_r _ [6, 7, 8, 1, 9, 10, 11, 12, 13, 14, 15, 16, 17, 18] (by decide +kernel) (by decide +kernel)) (goodIn_sub (fun _ h => List.mem_cons_of_mem _ (List.mem_append_right _ h)) (by decide +kernel))
set_option maxRecDepth 20000 in
theorem gX3_generation_X3_checkRevision : GoodIn wsX3_generation (wsV RX3 38 RX3 yX3_checkRevision wsX3_checkRevision) := goodIn_app (goodIn_of _ (by decide +kernel)) ggX3_generation_X3_checkRevision
theorem dX3_generation_0 : decode cX3_generation 0 = .ok (.aload_n 0, 1) := by decide +kernel
theorem dX3_generation_1 : decode cX3_generation 1 = .ok (.iload_n 1, 1) := by decide +kernel
theorem dX3_generation_2 : decode cX3_generation 2 = .ok (.invokevirtual 38, 3) := by decide +kernel
theorem dX3_generation_5 : decode cX3_generation 5 = .ok (.aload_n 0, 1) := by decide +kernel
theorem dX3_generation_6 : decode cX3_generation 6 = .ok (.getfield 10, 3) := by decide +kernel
theorem dX3_generation_9 : decode cX3_generation 9 = .ok (.getfield 136, 3) := by decide +kernel
theorem dX3_generation_12 : decode cX3_generation 12 = .ok (.iload_n 1, 1) := by decide +kernel
theorem dX3_generation_13 : decode cX3_generation 13 = .ok (.iaload, 1) := by decide +kernel
theorem dX3_generation_14 : decode cX3_generation 14 = .ok (.ireturn, 1) := by decide +kernel
set_option maxRecDepth 20000 in
theorem ggX3_sum_X3_checkRevision : GoodIn wsX3_sum wsX3_checkRevision := goodIn_ca (goodIn_r _ [6, 7, 8, 1, 9, 10, 11, 12, 13, 14, 15, 16, 17, 18] (by decide +kernel) (by decide +kernel)) (goodIn_sub (fun _ h => List.mem_cons_of_mem _ (List.mem_append_right _ h)) (by decide +kernel))
set_option maxRecDepth 20000 in
theorem gX3_sum_X3_checkRevision : GoodIn wsX3_sum (wsV RX3 38 RX3 yX3_checkRevision wsX3_checkRevision) := goodIn_app (goodIn_of _ (by decide +kernel)) ggX3_sum_X3_checkRevision
theorem dX3_sum_0 : decode cX3_sum 0 = .ok (.aload_n 0, 1) := by decide +kernel
theorem dX3_sum_1 : decode cX3_sum 1 = .ok (.iload_n 1, 1) := by decide +kernel
theorem dX3_sum_2 : decode cX3_sum 2 = .ok (.invokevirtual 38, 3) := by decide +kernel
theorem dX3_sum_5 : decode cX3_sum 5 = .ok (.aload_n 0, 1) := by decide +kernel
theorem dX3_sum_6 : decode cX3_sum 6 = .ok (.getfield 10, 3) := by decide +kernel
theorem dX3_sum_9 : decode cX3_sum 9 = .ok (.getfield 139, 3) := by decide +kernel
theorem dX3_sum_12 : decode cX3_sum 12 = .ok (.iload_n 1, 1) := by decide +kernel
theorem dX3_sum_13 : decode cX3_sum 13 = .ok (.iaload, 1) := by decide +kernel
theorem dX3_sum_14 : decode cX3_sum 14 = .ok (.ireturn, 1) := by decide +kernel
set_option maxRecDepth 20000 in
theorem ggX3_valueOf_X3_checkRevision : GoodIn wsX3_valueOf wsX3_checkRevision := goodIn_ca (goodIn_r _ [6, 7, 8, 1, 9, 10, 11, 12, 13, 14, 15, 16, 17, 18] (by decide +kernel) (by decide +kernel)) (goodIn_sub (fun _ h => List.mem_cons_of_mem _ (List.mem_append_right _ h)) (by decide +kernel))
set_option maxRecDepth 20000 in
theorem gX3_valueOf_X3_checkRevision : GoodIn wsX3_valueOf (wsV RX3 38 RX3 yX3_checkRevision wsX3_checkRevision) := goodIn_app (goodIn_of _ (by decide +kernel)) ggX3_valueOf_X3_checkRevision
theorem dX3_valueOf_0 : decode cX3_valueOf 0 = .ok (.aload_n 0, 1) := by decide +kernel
theorem dX3_valueOf_1 : decode cX3_valueOf 1 = .ok (.iload_n 1, 1) := by decide +kernel
theorem dX3_valueOf_2 : decode cX3_valueOf 2 = .ok (.invokevirtual 38, 3) := by decide +kernel
theorem dX3_valueOf_5 : decode cX3_valueOf 5 = .ok (.aload_n 0, 1) := by decide +kernel
theorem dX3_valueOf_6 : decode cX3_valueOf 6 = .ok (.getfield 10, 3) := by decide +kernel
theorem dX3_valueOf_9 : decode cX3_valueOf 9 = .ok (.getfield 63, 3) := by decide +kernel
theorem dX3_valueOf_12 : decode cX3_valueOf 12 = .ok (.iload_n 1, 1) := by decide +kernel
theorem dX3_valueOf_13 : decode cX3_valueOf 13 = .ok (.baload, 1) := by decide +kernel
theorem dX3_valueOf_14 : decode cX3_valueOf 14 = .ok (.ifCond .eq 7, 3) := by decide +kernel
theorem dX3_valueOf_17 : decode cX3_valueOf 17 = .ok (.iconst (-1), 1) := by decide +kernel
theorem dX3_valueOf_18 : decode cX3_valueOf 18 = .ok (.goto 12, 3) := by decide +kernel
theorem dX3_valueOf_21 : decode cX3_valueOf 21 = .ok (.aload_n 0, 1) := by decide +kernel
theorem dX3_valueOf_22 : decode cX3_valueOf 22 = .ok (.getfield 10, 3) := by decide +kernel
theorem dX3_valueOf_25 : decode cX3_valueOf 25 = .ok (.getfield 142, 3) := by decide +kernel
theorem dX3_valueOf_28 : decode cX3_valueOf 28 = .ok (.iload_n 1, 1) := by decide +kernel
theorem dX3_valueOf_29 : decode cX3_valueOf 29 = .ok (.iaload, 1) := by decide +kernel
theorem dX3_valueOf_30 : decode cX3_valueOf 30 = .ok (.ireturn, 1) := by decide +kernel
set_option maxRecDepth 20000 in
theorem ggX3_sequence_X3_storeAt : GoodIn wsX3_sequence wsX3_storeAt := goodIn_ca (goodIn_r _ [5, 6, 7, 8, 14, 15, 16] (by decide +kernel) (by decide +kernel)) (goodIn_sub (fun _ h => List.mem_cons_of_mem _ (List.mem_append_right _ h)) (by decide +kernel))
set_option maxRecDepth 20000 in
theorem gX3_sequence_X3_storeAt : GoodIn wsX3_sequence (wsV RX3 30 RX3 yX3_storeAt wsX3_storeAt) := goodIn_app (goodIn_of _ (by decide +kernel)) ggX3_sequence_X3_storeAt
theorem dX3_sequence_0 : decode cX3_sequence 0 = .ok (.aload_n 0, 1) := by decide +kernel
theorem dX3_sequence_1 : decode cX3_sequence 1 = .ok (.iload_n 1, 1) := by decide +kernel
theorem dX3_sequence_2 : decode cX3_sequence 2 = .ok (.invokevirtual 30, 3) := by decide +kernel
theorem dX3_sequence_5 : decode cX3_sequence 5 = .ok (.getfield 115, 3) := by decide +kernel
theorem dX3_sequence_8 : decode cX3_sequence 8 = .ok (.ireturn, 1) := by decide +kernel
set_option maxRecDepth 20000 in
theorem ggX3_has_X3_storeAt : GoodIn wsX3_has wsX3_storeAt := goodIn_ca (goodIn_r _ [5, 6, 7, 8, 22, 23, 24] (by decide +kernel) (by decide +kernel)) (goodIn_sub (fun _ h => List.mem_cons_of_mem _ (List.mem_append_right _ h)) (by decide +kernel))
set_option maxRecDepth 20000 in
theorem gX3_has_X3_storeAt : GoodIn wsX3_has (wsV RX3 30 RX3 yX3_storeAt wsX3_storeAt) := goodIn_app (goodIn_of _ (by decide +kernel)) ggX3_has_X3_storeAt
set_option maxRecDepth 20000 in
theorem ggX3_has_X3_checkRevision : GoodIn wsX3_has wsX3_checkRevision := goodIn_ca (goodIn_r _ [12, 6, 7, 13, 22, 23, 24, 25, 26, 27, 28, 29, 30, 31] (by decide +kernel) (by decide +kernel)) (goodIn_sub (fun _ h => List.mem_cons_of_mem _ (List.mem_append_right _ h)) (by decide +kernel))
set_option maxRecDepth 20000 in
theorem gX3_has_X3_checkRevision : GoodIn wsX3_has (wsV RX3 38 RX3 yX3_checkRevision wsX3_checkRevision) := goodIn_app (goodIn_of _ (by decide +kernel)) ggX3_has_X3_checkRevision
theorem dX3_has_0 : decode cX3_has 0 = .ok (.aload_n 0, 1) := by decide +kernel
theorem dX3_has_1 : decode cX3_has 1 = .ok (.iload_n 1, 1) := by decide +kernel
theorem dX3_has_2 : decode cX3_has 2 = .ok (.invokevirtual 30, 3) := by decide +kernel
theorem dX3_has_5 : decode cX3_has 5 = .ok (.astore_n 3, 1) := by decide +kernel
theorem dX3_has_6 : decode cX3_has 6 = .ok (.aload_n 0, 1) := by decide +kernel
theorem dX3_has_7 : decode cX3_has 7 = .ok (.iload_n 2, 1) := by decide +kernel
theorem dX3_has_8 : decode cX3_has 8 = .ok (.invokevirtual 38, 3) := by decide +kernel
theorem dX3_has_11 : decode cX3_has 11 = .ok (.aload_n 3, 1) := by decide +kernel
theorem dX3_has_12 : decode cX3_has 12 = .ok (.getfield 78, 3) := by decide +kernel
theorem dX3_has_15 : decode cX3_has 15 = .ok (.getfield 145, 3) := by decide +kernel
theorem dX3_has_18 : decode cX3_has 18 = .ok (.iload_n 2, 1) := by decide +kernel
theorem dX3_has_19 : decode cX3_has 19 = .ok (.baload, 1) := by decide +kernel
theorem dX3_has_20 : decode cX3_has 20 = .ok (.ireturn, 1) := by decide +kernel
set_option maxRecDepth 20000 in
theorem ggX3_isLeaf_X3_storeAt : GoodIn wsX3_isLeaf wsX3_storeAt := goodIn_ca (goodIn_r _ [5, 6, 7, 8, 30, 31, 32] (by decide +kernel) (by decide +kernel)) (goodIn_sub (fun _ h => List.mem_cons_of_mem _ (List.mem_append_right _ h)) (by decide +kernel))
set_option maxRecDepth 20000 in
theorem gX3_isLeaf_X3_storeAt : GoodIn wsX3_isLeaf (wsV RX3 30 RX3 yX3_storeAt wsX3_storeAt) := goodIn_app (goodIn_of _ (by decide +kernel)) ggX3_isLeaf_X3_storeAt
set_option maxRecDepth 20000 in
theorem ggX3_isLeaf_X3_checkRevision : GoodIn wsX3_isLeaf wsX3_checkRevision := goodIn_ca (goodIn_r _ [12, 6, 7, 13, 30, 31, 32, 33, 34, 35, 36, 37, 38, 39] (by decide +kernel) (by decide +kernel)) (goodIn_sub (fun _ h => List.mem_cons_of_mem _ (List.mem_append_right _ h)) (by decide +kernel))
set_option maxRecDepth 20000 in
theorem gX3_isLeaf_X3_checkRevision : GoodIn wsX3_isLeaf (wsV RX3 38 RX3 yX3_checkRevision wsX3_checkRevision) := goodIn_app (goodIn_of _ (by decide +kernel)) ggX3_isLeaf_X3_checkRevision
set_option maxRecDepth 20000 in
theorem ggX3_isLeaf_X0_endsAt : GoodIn wsX3_isLeaf wsX0_endsAt := goodIn_r _ [18, 19, 20, 21, 22, 17, 23, 24, 40, 41, 42] (by decide +kernel) (by decide +kernel)
set_option maxRecDepth 20000 in
theorem gX3_isLeaf_X0_endsAt : GoodIn wsX3_isLeaf (wsV RX3 148 RX0 yX0_endsAt wsX0_endsAt) := goodIn_app (goodIn_of _ (by decide +kernel)) ggX3_isLeaf_X0_endsAt
theorem dX3_isLeaf_0 : decode cX3_isLeaf 0 = .ok (.aload_n 0, 1) := by decide +kernel
theorem dX3_isLeaf_1 : decode cX3_isLeaf 1 = .ok (.iload_n 1, 1) := by decide +kernel
theorem dX3_isLeaf_2 : decode cX3_isLeaf 2 = .ok (.invokevirtual 30, 3) := by decide +kernel
theorem dX3_isLeaf_5 : decode cX3_isLeaf 5 = .ok (.astore_n 3, 1) := by decide +kernel
theorem dX3_isLeaf_6 : decode cX3_isLeaf 6 = .ok (.aload_n 0, 1) := by decide +kernel
theorem dX3_isLeaf_7 : decode cX3_isLeaf 7 = .ok (.iload_n 2, 1) := by decide +kernel
theorem dX3_isLeaf_8 : decode cX3_isLeaf 8 = .ok (.invokevirtual 38, 3) := by decide +kernel
theorem dX3_isLeaf_11 : decode cX3_isLeaf 11 = .ok (.aload_n 3, 1) := by decide +kernel
theorem dX3_isLeaf_12 : decode cX3_isLeaf 12 = .ok (.getfield 78, 3) := by decide +kernel
theorem dX3_isLeaf_15 : decode cX3_isLeaf 15 = .ok (.iload_n 2, 1) := by decide +kernel
theorem dX3_isLeaf_16 : decode cX3_isLeaf 16 = .ok (.invokevirtual 148, 3) := by decide +kernel
theorem dX3_isLeaf_19 : decode cX3_isLeaf 19 = .ok (.ireturn, 1) := by decide +kernel
set_option maxRecDepth 20000 in
theorem ggX3_size_X3_storeAt : GoodIn wsX3_size wsX3_storeAt := goodIn_ca (goodIn_r _ [6, 7, 8, 9, 21, 22, 23] (by decide +kernel) (by decide +kernel)) (goodIn_sub (fun _ h => List.mem_cons_of_mem _ (List.mem_append_right _ h)) (by decide +kernel))
set_option maxRecDepth 20000 in
theorem gX3_size_X3_storeAt : GoodIn wsX3_size (wsV RX3 30 RX3 yX3_storeAt wsX3_storeAt) := goodIn_app (goodIn_of _ (by decide +kernel)) ggX3_size_X3_storeAt
set_option maxRecDepth 20000 in
theorem ggX3_size_X0_countAll : GoodIn wsX3_size wsX0_countAll := goodIn_r _ [14, 15, 24, 25, 26, 27, 28, 29, 30, 31, 32, 33] (by decide +kernel) (by decide +kernel)
set_option maxRecDepth 20000 in
theorem gX3_size_X0_countAll : GoodIn wsX3_size (wsV RX3 85 RX0 yX0_countAll wsX0_countAll) := goodIn_app (goodIn_of _ (by decide +kernel)) ggX3_size_X0_countAll
theorem dX3_size_0 : decode cX3_size 0 = .ok (.aload_n 0, 1) := by decide +kernel
theorem dX3_size_1 : decode cX3_size 1 = .ok (.iload_n 1, 1) := by decide +kernel
theorem dX3_size_2 : decode cX3_size 2 = .ok (.invokevirtual 30, 3) := by decide +kernel
theorem dX3_size_5 : decode cX3_size 5 = .ok (.getfield 78, 3) := by decide +kernel
theorem dX3_size_8 : decode cX3_size 8 = .ok (.aload_n 0, 1) := by decide +kernel
theorem dX3_size_9 : decode cX3_size 9 = .ok (.getfield 10, 3) := by decide +kernel
theorem dX3_size_12 : decode cX3_size 12 = .ok (.invokevirtual 85, 3) := by decide +kernel
theorem dX3_size_15 : decode cX3_size 15 = .ok (.ireturn, 1) := by decide +kernel
set_option maxRecDepth 20000 in
theorem ggX3_winner_X3_storeAt : GoodIn wsX3_winner wsX3_storeAt := goodIn_ca (goodIn_r _ [5, 6, 7, 8, 21, 22, 23] (by decide +kernel) (by decide +kernel)) (goodIn_sub (fun _ h => List.mem_cons_of_mem _ (List.mem_append_right _ h)) (by decide +kernel))
set_option maxRecDepth 20000 in
theorem gX3_winner_X3_storeAt : GoodIn wsX3_winner (wsV RX3 30 RX3 yX3_storeAt wsX3_storeAt) := goodIn_app (goodIn_of _ (by decide +kernel)) ggX3_winner_X3_storeAt
set_option maxRecDepth 20000 in
theorem ggX3_winner_X3_checkDocument : GoodIn wsX3_winner wsX3_checkDocument := goodIn_ca (goodIn_r _ [12, 6, 7] (by decide +kernel) (by decide +kernel)) (goodIn_sub (fun _ h => List.mem_cons_of_mem _ (List.mem_append_right _ h)) (by decide +kernel))
set_option maxRecDepth 20000 in
theorem gX3_winner_X3_checkDocument : GoodIn wsX3_winner (wsV RX3 34 RX3 yX3_checkDocument wsX3_checkDocument) := goodIn_app (goodIn_of _ (by decide +kernel)) ggX3_winner_X3_checkDocument
theorem dX3_winner_0 : decode cX3_winner 0 = .ok (.aload_n 0, 1) := by decide +kernel
theorem dX3_winner_1 : decode cX3_winner 1 = .ok (.iload_n 1, 1) := by decide +kernel
theorem dX3_winner_2 : decode cX3_winner 2 = .ok (.invokevirtual 30, 3) := by decide +kernel
theorem dX3_winner_5 : decode cX3_winner 5 = .ok (.astore_n 3, 1) := by decide +kernel
theorem dX3_winner_6 : decode cX3_winner 6 = .ok (.aload_n 0, 1) := by decide +kernel
theorem dX3_winner_7 : decode cX3_winner 7 = .ok (.iload_n 2, 1) := by decide +kernel
theorem dX3_winner_8 : decode cX3_winner 8 = .ok (.invokevirtual 34, 3) := by decide +kernel
theorem dX3_winner_11 : decode cX3_winner 11 = .ok (.aload_n 3, 1) := by decide +kernel
theorem dX3_winner_12 : decode cX3_winner 12 = .ok (.getfield 78, 3) := by decide +kernel
theorem dX3_winner_15 : decode cX3_winner 15 = .ok (.getfield 152, 3) := by decide +kernel
theorem dX3_winner_18 : decode cX3_winner 18 = .ok (.iload_n 2, 1) := by decide +kernel
theorem dX3_winner_19 : decode cX3_winner 19 = .ok (.iaload, 1) := by decide +kernel
theorem dX3_winner_20 : decode cX3_winner 20 = .ok (.ireturn, 1) := by decide +kernel
set_option maxRecDepth 20000 in
theorem ggX3_winnerOfAll_X3_checkDocument : GoodIn wsX3_winnerOfAll wsX3_checkDocument := goodIn_ca (goodIn_r _ [8, 9, 10] (by decide +kernel) (by decide +kernel)) (goodIn_sub (fun _ h => List.mem_cons_of_mem _ (List.mem_append_right _ h)) (by decide +kernel))
set_option maxRecDepth 20000 in
theorem gX3_winnerOfAll_X3_checkDocument : GoodIn wsX3_winnerOfAll (wsV RX3 34 RX3 yX3_checkDocument wsX3_checkDocument) := goodIn_app (goodIn_of _ (by decide +kernel)) ggX3_winnerOfAll_X3_checkDocument
set_option maxRecDepth 20000 in
theorem ggX3_winnerOfAll_X0_removeAll : GoodIn wsX3_winnerOfAll wsX0_removeAll := goodIn_r _ [15, 16, 67, 68, 69] (by decide +kernel) (by decide +kernel)
set_option maxRecDepth 20000 in
theorem gX3_winnerOfAll_X0_removeAll : GoodIn wsX3_winnerOfAll (wsV RX3 155 RX0 yX0_removeAll wsX0_removeAll) := goodIn_app (goodIn_of _ (by decide +kernel)) ggX3_winnerOfAll_X0_removeAll
set_option maxRecDepth 20000 in
theorem ggX3_winnerOfAll_X0_addAll : GoodIn wsX3_winnerOfAll wsX0_addAll := goodIn_r _ [20, 16, 70, 71, 72, 73, 74, 75, 76, 67, 68, 69] (by decide +kernel) (by decide +kernel)
set_option maxRecDepth 20000 in
theorem gX3_winnerOfAll_X0_addAll : GoodIn wsX3_winnerOfAll (wsV RX3 158 RX0 yX0_addAll wsX0_addAll) := goodIn_app (goodIn_of _ (by decide +kernel)) ggX3_winnerOfAll_X0_addAll
set_option maxRecDepth 20000 in
theorem ggX3_winnerOfAll_X0_survey : GoodIn wsX3_winnerOfAll wsX0_survey := goodIn_r _ [24, 25, 26, 27, 14, 28, 29, 30, 31, 32, 33, 34, 35, 36, 37, 38, 39, 40, 41, 16, 42, 43, 44, 45, 46, 47, 48, 49, 50, 51, 52, 53, 54, 55, 56, 57, 58, 67, 68, 69, 70, 71, 72, 73, 74, 75, 76] (by decide +kernel) (by decide +kernel)
set_option maxRecDepth 20000 in
theorem gX3_winnerOfAll_X0_survey : GoodIn wsX3_winnerOfAll (wsV RX3 162 RX0 yX0_survey wsX0_survey) := goodIn_app (goodIn_of _ (by decide +kernel)) ggX3_winnerOfAll_X0_survey
theorem dX3_winnerOfAll_0 : decode cX3_winnerOfAll 0 = .ok (.aload_n 0, 1) := by decide +kernel
theorem dX3_winnerOfAll_1 : decode cX3_winnerOfAll 1 = .ok (.iload_n 1, 1) := by decide +kernel
theorem dX3_winnerOfAll_2 : decode cX3_winnerOfAll 2 = .ok (.invokevirtual 34, 3) := by decide +kernel
theorem dX3_winnerOfAll_5 : decode cX3_winnerOfAll 5 = .ok (.aload_n 0, 1) := by decide +kernel
theorem dX3_winnerOfAll_6 : decode cX3_winnerOfAll 6 = .ok (.getfield 25, 3) := by decide +kernel
theorem dX3_winnerOfAll_9 : decode cX3_winnerOfAll 9 = .ok (.invokevirtual 155, 3) := by decide +kernel
theorem dX3_winnerOfAll_12 : decode cX3_winnerOfAll 12 = .ok (.iconst 0, 1) := by decide +kernel
theorem dX3_winnerOfAll_13 : decode cX3_winnerOfAll 13 = .ok (.istore_n 2, 1) := by decide +kernel
theorem dX3_winnerOfAll_14 : decode cX3_winnerOfAll 14 = .ok (.iload_n 2, 1) := by decide +kernel
theorem dX3_winnerOfAll_15 : decode cX3_winnerOfAll 15 = .ok (.iconst 3, 1) := by decide +kernel
theorem dX3_winnerOfAll_16 : decode cX3_winnerOfAll 16 = .ok (.if_icmp .ge 29, 3) := by decide +kernel
theorem dX3_winnerOfAll_19 : decode cX3_winnerOfAll 19 = .ok (.aload_n 0, 1) := by decide +kernel
theorem dX3_winnerOfAll_20 : decode cX3_winnerOfAll 20 = .ok (.getfield 25, 3) := by decide +kernel
theorem dX3_winnerOfAll_23 : decode cX3_winnerOfAll 23 = .ok (.aload_n 0, 1) := by decide +kernel
theorem dX3_winnerOfAll_24 : decode cX3_winnerOfAll 24 = .ok (.getfield 10, 3) := by decide +kernel
theorem dX3_winnerOfAll_27 : decode cX3_winnerOfAll 27 = .ok (.aload_n 0, 1) := by decide +kernel
theorem dX3_winnerOfAll_28 : decode cX3_winnerOfAll 28 = .ok (.getfield 18, 3) := by decide +kernel
theorem dX3_winnerOfAll_31 : decode cX3_winnerOfAll 31 = .ok (.iload_n 2, 1) := by decide +kernel
theorem dX3_winnerOfAll_32 : decode cX3_winnerOfAll 32 = .ok (.aaload, 1) := by decide +kernel
theorem dX3_winnerOfAll_33 : decode cX3_winnerOfAll 33 = .ok (.getfield 78, 3) := by decide +kernel
theorem dX3_winnerOfAll_36 : decode cX3_winnerOfAll 36 = .ok (.invokevirtual 158, 3) := by decide +kernel
theorem dX3_winnerOfAll_39 : decode cX3_winnerOfAll 39 = .ok (.iinc 2 1, 3) := by decide +kernel
theorem dX3_winnerOfAll_42 : decode cX3_winnerOfAll 42 = .ok (.goto (-28), 3) := by decide +kernel
theorem dX3_winnerOfAll_45 : decode cX3_winnerOfAll 45 = .ok (.aload_n 0, 1) := by decide +kernel
theorem dX3_winnerOfAll_46 : decode cX3_winnerOfAll 46 = .ok (.getfield 25, 3) := by decide +kernel
theorem dX3_winnerOfAll_49 : decode cX3_winnerOfAll 49 = .ok (.aload_n 0, 1) := by decide +kernel
theorem dX3_winnerOfAll_50 : decode cX3_winnerOfAll 50 = .ok (.getfield 10, 3) := by decide +kernel
theorem dX3_winnerOfAll_53 : decode cX3_winnerOfAll 53 = .ok (.invokevirtual 162, 3) := by decide +kernel
theorem dX3_winnerOfAll_56 : decode cX3_winnerOfAll 56 = .ok (.aload_n 0, 1) := by decide +kernel
theorem dX3_winnerOfAll_57 : decode cX3_winnerOfAll 57 = .ok (.getfield 25, 3) := by decide +kernel
theorem dX3_winnerOfAll_60 : decode cX3_winnerOfAll 60 = .ok (.getfield 152, 3) := by decide +kernel
theorem dX3_winnerOfAll_63 : decode cX3_winnerOfAll 63 = .ok (.iload_n 1, 1) := by decide +kernel
theorem dX3_winnerOfAll_64 : decode cX3_winnerOfAll 64 = .ok (.iaload, 1) := by decide +kernel
theorem dX3_winnerOfAll_65 : decode cX3_winnerOfAll 65 = .ok (.ireturn, 1) := by decide +kernel
set_option maxRecDepth 20000 in
theorem ggX3_conflicts_X3_storeAt : GoodIn wsX3_conflicts wsX3_storeAt := goodIn_ca (goodIn_r _ [10, 11, 12, 13, 38, 39, 40] (by decide +kernel) (by decide +kernel)) (goodIn_sub (fun _ h => List.mem_cons_of_mem _ (List.mem_append_right _ h)) (by decide +kernel))
set_option maxRecDepth 20000 in
theorem gX3_conflicts_X3_storeAt : GoodIn wsX3_conflicts (wsV RX3 30 RX3 yX3_storeAt wsX3_storeAt) := goodIn_app (goodIn_of _ (by decide +kernel)) ggX3_conflicts_X3_storeAt
set_option maxRecDepth 20000 in
theorem ggX3_conflicts_X3_checkDocument : GoodIn wsX3_conflicts wsX3_checkDocument := goodIn_ca (goodIn_r _ [17, 11, 12] (by decide +kernel) (by decide +kernel)) (goodIn_sub (fun _ h => List.mem_cons_of_mem _ (List.mem_append_right _ h)) (by decide +kernel))
set_option maxRecDepth 20000 in
theorem gX3_conflicts_X3_checkDocument : GoodIn wsX3_conflicts (wsV RX3 34 RX3 yX3_checkDocument wsX3_checkDocument) := goodIn_app (goodIn_of _ (by decide +kernel)) ggX3_conflicts_X3_checkDocument
set_option maxRecDepth 20000 in
theorem ggX3_conflicts_X0_countLiveLeaves : GoodIn wsX3_conflicts wsX0_countLiveLeaves := goodIn_r _ [22, 23, 24, 25, 21, 26, 27, 28, 29, 30, 31, 32, 41, 42, 43, 44, 45, 46, 47, 48, 49, 50] (by decide +kernel) (by decide +kernel)
set_option maxRecDepth 20000 in
theorem gX3_conflicts_X0_countLiveLeaves : GoodIn wsX3_conflicts (wsV RX3 165 RX0 yX0_countLiveLeaves wsX0_countLiveLeaves) := goodIn_app (goodIn_of _ (by decide +kernel)) ggX3_conflicts_X0_countLiveLeaves
theorem dX3_conflicts_0 : decode cX3_conflicts 0 = .ok (.aload_n 0, 1) := by decide +kernel
theorem dX3_conflicts_1 : decode cX3_conflicts 1 = .ok (.iload_n 1, 1) := by decide +kernel
theorem dX3_conflicts_2 : decode cX3_conflicts 2 = .ok (.invokevirtual 30, 3) := by decide +kernel
theorem dX3_conflicts_5 : decode cX3_conflicts 5 = .ok (.astore_n 3, 1) := by decide +kernel
theorem dX3_conflicts_6 : decode cX3_conflicts 6 = .ok (.aload_n 0, 1) := by decide +kernel
theorem dX3_conflicts_7 : decode cX3_conflicts 7 = .ok (.iload_n 2, 1) := by decide +kernel
theorem dX3_conflicts_8 : decode cX3_conflicts 8 = .ok (.invokevirtual 34, 3) := by decide +kernel
theorem dX3_conflicts_11 : decode cX3_conflicts 11 = .ok (.iconst 0, 1) := by decide +kernel
theorem dX3_conflicts_12 : decode cX3_conflicts 12 = .ok (.aload_n 3, 1) := by decide +kernel
theorem dX3_conflicts_13 : decode cX3_conflicts 13 = .ok (.getfield 78, 3) := by decide +kernel
theorem dX3_conflicts_16 : decode cX3_conflicts 16 = .ok (.aload_n 0, 1) := by decide +kernel
theorem dX3_conflicts_17 : decode cX3_conflicts 17 = .ok (.getfield 10, 3) := by decide +kernel
theorem dX3_conflicts_20 : decode cX3_conflicts 20 = .ok (.iload_n 2, 1) := by decide +kernel
theorem dX3_conflicts_21 : decode cX3_conflicts 21 = .ok (.invokevirtual 165, 3) := by decide +kernel
theorem dX3_conflicts_24 : decode cX3_conflicts 24 = .ok (.iconst 1, 1) := by decide +kernel
theorem dX3_conflicts_25 : decode cX3_conflicts 25 = .ok (.isub, 1) := by decide +kernel
theorem dX3_conflicts_26 : decode cX3_conflicts 26 = .ok (.invokestatic 168, 3) := by decide +kernel
theorem dX3_conflicts_29 : decode cX3_conflicts 29 = .ok (.ireturn, 1) := by decide +kernel
set_option maxRecDepth 20000 in
theorem ggX3_count_X3_storeAt : GoodIn wsX3_count wsX3_storeAt := goodIn_ca (goodIn_r _ [6, 7, 8, 9, 21, 22, 23] (by decide +kernel) (by decide +kernel)) (goodIn_sub (fun _ h => List.mem_cons_of_mem _ (List.mem_append_right _ h)) (by decide +kernel))
set_option maxRecDepth 20000 in
theorem gX3_count_X3_storeAt : GoodIn wsX3_count (wsV RX3 30 RX3 yX3_storeAt wsX3_storeAt) := goodIn_app (goodIn_of _ (by decide +kernel)) ggX3_count_X3_storeAt
set_option maxRecDepth 20000 in
theorem ggX3_count_X0_shownValue : GoodIn wsX3_count wsX0_shownValue := goodIn_r _ [14, 15, 24, 25, 26, 27, 28, 29, 30, 31, 32, 33] (by decide +kernel) (by decide +kernel)
set_option maxRecDepth 20000 in
theorem gX3_count_X0_shownValue : GoodIn wsX3_count (wsV RX3 173 RX0 yX0_shownValue wsX0_shownValue) := goodIn_app (goodIn_of _ (by decide +kernel)) ggX3_count_X0_shownValue
theorem dX3_count_0 : decode cX3_count 0 = .ok (.aload_n 0, 1) := by decide +kernel
theorem dX3_count_1 : decode cX3_count 1 = .ok (.iload_n 1, 1) := by decide +kernel
theorem dX3_count_2 : decode cX3_count 2 = .ok (.invokevirtual 30, 3) := by decide +kernel
theorem dX3_count_5 : decode cX3_count 5 = .ok (.getfield 78, 3) := by decide +kernel
theorem dX3_count_8 : decode cX3_count 8 = .ok (.astore 4, 2) := by decide +kernel
theorem dX3_count_10 : decode cX3_count 10 = .ok (.iconst 0, 1) := by decide +kernel
theorem dX3_count_11 : decode cX3_count 11 = .ok (.istore 5, 2) := by decide +kernel
theorem dX3_count_13 : decode cX3_count 13 = .ok (.iconst 0, 1) := by decide +kernel
theorem dX3_count_14 : decode cX3_count 14 = .ok (.istore 6, 2) := by decide +kernel
theorem dX3_count_16 : decode cX3_count 16 = .ok (.iload 6, 2) := by decide +kernel
theorem dX3_count_18 : decode cX3_count 18 = .ok (.iconst 4, 1) := by decide +kernel
theorem dX3_count_19 : decode cX3_count 19 = .ok (.if_icmp .ge 43, 3) := by decide +kernel
theorem dX3_count_22 : decode cX3_count 22 = .ok (.aload 4, 2) := by decide +kernel
theorem dX3_count_24 : decode cX3_count 24 = .ok (.aload_n 0, 1) := by decide +kernel
theorem dX3_count_25 : decode cX3_count 25 = .ok (.getfield 10, 3) := by decide +kernel
theorem dX3_count_28 : decode cX3_count 28 = .ok (.iload 6, 2) := by decide +kernel
theorem dX3_count_30 : decode cX3_count 30 = .ok (.invokevirtual 173, 3) := by decide +kernel
theorem dX3_count_33 : decode cX3_count 33 = .ok (.istore 7, 2) := by decide +kernel
theorem dX3_count_35 : decode cX3_count 35 = .ok (.iload 7, 2) := by decide +kernel
theorem dX3_count_37 : decode cX3_count 37 = .ok (.iconst (-1), 1) := by decide +kernel
theorem dX3_count_38 : decode cX3_count 38 = .ok (.if_icmp .eq 18, 3) := by decide +kernel
theorem dX3_count_41 : decode cX3_count 41 = .ok (.iload_n 2, 1) := by decide +kernel
theorem dX3_count_42 : decode cX3_count 42 = .ok (.iload 7, 2) := by decide +kernel
theorem dX3_count_44 : decode cX3_count 44 = .ok (.if_icmp .gt 12, 3) := by decide +kernel
theorem dX3_count_47 : decode cX3_count 47 = .ok (.iload 7, 2) := by decide +kernel
theorem dX3_count_49 : decode cX3_count 49 = .ok (.iload_n 3, 1) := by decide +kernel
theorem dX3_count_50 : decode cX3_count 50 = .ok (.if_icmp .gt 6, 3) := by decide +kernel
theorem dX3_count_53 : decode cX3_count 53 = .ok (.iinc 5 1, 3) := by decide +kernel
theorem dX3_count_56 : decode cX3_count 56 = .ok (.iinc 6 1, 3) := by decide +kernel
theorem dX3_count_59 : decode cX3_count 59 = .ok (.goto (-43), 3) := by decide +kernel
theorem dX3_count_62 : decode cX3_count 62 = .ok (.iload 5, 2) := by decide +kernel
theorem dX3_count_64 : decode cX3_count 64 = .ok (.ireturn, 1) := by decide +kernel
set_option maxRecDepth 20000 in
theorem ggX3_viewAt_X3_storeAt : GoodIn wsX3_viewAt wsX3_storeAt := goodIn_ca (goodIn_r _ [8, 1, 2, 9, 26, 27, 28] (by decide +kernel) (by decide +kernel)) (goodIn_sub (fun _ h => List.mem_cons_of_mem _ (List.mem_append_right _ h)) (by decide +kernel))
set_option maxRecDepth 20000 in
theorem gX3_viewAt_X3_storeAt : GoodIn wsX3_viewAt (wsV RX3 30 RX3 yX3_storeAt wsX3_storeAt) := goodIn_app (goodIn_of _ (by decide +kernel)) ggX3_viewAt_X3_storeAt
set_option maxRecDepth 20000 in
theorem ggX3_viewAt_X0_shownValue : GoodIn wsX3_viewAt wsX0_shownValue := goodIn_r _ [14, 15, 29, 30, 31, 32, 33, 34, 35, 36, 37, 38] (by decide +kernel) (by decide +kernel)
set_option maxRecDepth 20000 in
theorem gX3_viewAt_X0_shownValue : GoodIn wsX3_viewAt (wsV RX3 173 RX0 yX0_shownValue wsX0_shownValue) := goodIn_app (goodIn_of _ (by decide +kernel)) ggX3_viewAt_X0_shownValue
set_option maxRecDepth 20000 in
theorem ggX3_viewAt_X0_countShownBefore : GoodIn wsX3_viewAt wsX0_countShownBefore := goodIn_r _ [19, 20, 11, 12, 13, 14, 15, 29, 30, 31, 32, 33, 34, 35, 36, 37, 38] (by decide +kernel) (by decide +kernel)
set_option maxRecDepth 20000 in
theorem gX3_viewAt_X0_countShownBefore : GoodIn wsX3_viewAt (wsV RX3 176 RX0 yX0_countShownBefore wsX0_countShownBefore) := goodIn_app (goodIn_of _ (by decide +kernel)) ggX3_viewAt_X0_countShownBefore
theorem dX3_viewAt_0 : decode cX3_viewAt 0 = .ok (.aload_n 0, 1) := by decide +kernel
theorem dX3_viewAt_1 : decode cX3_viewAt 1 = .ok (.iload_n 1, 1) := by decide +kernel
theorem dX3_viewAt_2 : decode cX3_viewAt 2 = .ok (.invokevirtual 30, 3) := by decide +kernel
theorem dX3_viewAt_5 : decode cX3_viewAt 5 = .ok (.getfield 78, 3) := by decide +kernel
theorem dX3_viewAt_8 : decode cX3_viewAt 8 = .ok (.astore_n 3, 1) := by decide +kernel
theorem dX3_viewAt_9 : decode cX3_viewAt 9 = .ok (.iconst 0, 1) := by decide +kernel
theorem dX3_viewAt_10 : decode cX3_viewAt 10 = .ok (.istore 4, 2) := by decide +kernel
theorem dX3_viewAt_12 : decode cX3_viewAt 12 = .ok (.iload 4, 2) := by decide +kernel
theorem dX3_viewAt_14 : decode cX3_viewAt 14 = .ok (.iconst 4, 1) := by decide +kernel
theorem dX3_viewAt_15 : decode cX3_viewAt 15 = .ok (.if_icmp .ge 46, 3) := by decide +kernel
theorem dX3_viewAt_18 : decode cX3_viewAt 18 = .ok (.aload_n 3, 1) := by decide +kernel
theorem dX3_viewAt_19 : decode cX3_viewAt 19 = .ok (.aload_n 0, 1) := by decide +kernel
theorem dX3_viewAt_20 : decode cX3_viewAt 20 = .ok (.getfield 10, 3) := by decide +kernel
theorem dX3_viewAt_23 : decode cX3_viewAt 23 = .ok (.iload 4, 2) := by decide +kernel
theorem dX3_viewAt_25 : decode cX3_viewAt 25 = .ok (.invokevirtual 173, 3) := by decide +kernel
theorem dX3_viewAt_28 : decode cX3_viewAt 28 = .ok (.istore 5, 2) := by decide +kernel
theorem dX3_viewAt_30 : decode cX3_viewAt 30 = .ok (.iload 5, 2) := by decide +kernel
theorem dX3_viewAt_32 : decode cX3_viewAt 32 = .ok (.iconst (-1), 1) := by decide +kernel
theorem dX3_viewAt_33 : decode cX3_viewAt 33 = .ok (.if_icmp .eq 22, 3) := by decide +kernel
theorem dX3_viewAt_36 : decode cX3_viewAt 36 = .ok (.aload_n 3, 1) := by decide +kernel
theorem dX3_viewAt_37 : decode cX3_viewAt 37 = .ok (.aload_n 0, 1) := by decide +kernel
theorem dX3_viewAt_38 : decode cX3_viewAt 38 = .ok (.getfield 10, 3) := by decide +kernel
theorem dX3_viewAt_41 : decode cX3_viewAt 41 = .ok (.iload 5, 2) := by decide +kernel
theorem dX3_viewAt_43 : decode cX3_viewAt 43 = .ok (.iload 4, 2) := by decide +kernel
theorem dX3_viewAt_45 : decode cX3_viewAt 45 = .ok (.invokevirtual 176, 3) := by decide +kernel
theorem dX3_viewAt_48 : decode cX3_viewAt 48 = .ok (.iload_n 2, 1) := by decide +kernel
theorem dX3_viewAt_49 : decode cX3_viewAt 49 = .ok (.if_icmp .ne 6, 3) := by decide +kernel
theorem dX3_viewAt_52 : decode cX3_viewAt 52 = .ok (.iload 4, 2) := by decide +kernel
theorem dX3_viewAt_54 : decode cX3_viewAt 54 = .ok (.ireturn, 1) := by decide +kernel
theorem dX3_viewAt_55 : decode cX3_viewAt 55 = .ok (.iinc 4 1, 3) := by decide +kernel
theorem dX3_viewAt_58 : decode cX3_viewAt 58 = .ok (.goto (-46), 3) := by decide +kernel
theorem dX3_viewAt_61 : decode cX3_viewAt 61 = .ok (.new 180, 3) := by decide +kernel
theorem dX3_viewAt_64 : decode cX3_viewAt 64 = .ok (.dup, 1) := by decide +kernel
theorem dX3_viewAt_65 : decode cX3_viewAt 65 = .ok (.ldc 182, 2) := by decide +kernel
theorem dX3_viewAt_67 : decode cX3_viewAt 67 = .ok (.invokespecial 184, 3) := by decide +kernel
theorem dX3_viewAt_70 : decode cX3_viewAt 70 = .ok (.athrow, 1) := by decide +kernel
theorem dX3_storeAt_0 : decode cX3_storeAt 0 = .ok (.iload_n 1, 1) := by decide +kernel
theorem dX3_storeAt_1 : decode cX3_storeAt 1 = .ok (.ifCond .lt 8, 3) := by decide +kernel
theorem dX3_storeAt_4 : decode cX3_storeAt 4 = .ok (.iload_n 1, 1) := by decide +kernel
theorem dX3_storeAt_5 : decode cX3_storeAt 5 = .ok (.iconst 3, 1) := by decide +kernel
theorem dX3_storeAt_6 : decode cX3_storeAt 6 = .ok (.if_icmp .lt 13, 3) := by decide +kernel
theorem dX3_storeAt_9 : decode cX3_storeAt 9 = .ok (.new 180, 3) := by decide +kernel
theorem dX3_storeAt_12 : decode cX3_storeAt 12 = .ok (.dup, 1) := by decide +kernel
theorem dX3_storeAt_13 : decode cX3_storeAt 13 = .ok (.ldc 185, 2) := by decide +kernel
theorem dX3_storeAt_15 : decode cX3_storeAt 15 = .ok (.invokespecial 184, 3) := by decide +kernel
theorem dX3_storeAt_18 : decode cX3_storeAt 18 = .ok (.athrow, 1) := by decide +kernel
theorem dX3_storeAt_19 : decode cX3_storeAt 19 = .ok (.aload_n 0, 1) := by decide +kernel
theorem dX3_storeAt_20 : decode cX3_storeAt 20 = .ok (.getfield 18, 3) := by decide +kernel
theorem dX3_storeAt_23 : decode cX3_storeAt 23 = .ok (.iload_n 1, 1) := by decide +kernel
theorem dX3_storeAt_24 : decode cX3_storeAt 24 = .ok (.aaload, 1) := by decide +kernel
theorem dX3_storeAt_25 : decode cX3_storeAt 25 = .ok (.areturn, 1) := by decide +kernel
theorem dX3_checkDocument_0 : decode cX3_checkDocument 0 = .ok (.iload_n 1, 1) := by decide +kernel
theorem dX3_checkDocument_1 : decode cX3_checkDocument 1 = .ok (.ifCond .lt 8, 3) := by decide +kernel
theorem dX3_checkDocument_4 : decode cX3_checkDocument 4 = .ok (.iload_n 1, 1) := by decide +kernel
theorem dX3_checkDocument_5 : decode cX3_checkDocument 5 = .ok (.iconst 4, 1) := by decide +kernel
theorem dX3_checkDocument_6 : decode cX3_checkDocument 6 = .ok (.if_icmp .lt 13, 3) := by decide +kernel
theorem dX3_checkDocument_9 : decode cX3_checkDocument 9 = .ok (.new 180, 3) := by decide +kernel
theorem dX3_checkDocument_12 : decode cX3_checkDocument 12 = .ok (.dup, 1) := by decide +kernel
theorem dX3_checkDocument_13 : decode cX3_checkDocument 13 = .ok (.ldc 187, 2) := by decide +kernel
theorem dX3_checkDocument_15 : decode cX3_checkDocument 15 = .ok (.invokespecial 184, 3) := by decide +kernel
theorem dX3_checkDocument_18 : decode cX3_checkDocument 18 = .ok (.athrow, 1) := by decide +kernel
theorem dX3_checkDocument_19 : decode cX3_checkDocument 19 = .ok (.return_, 1) := by decide +kernel
theorem dX3_checkRevision_0 : decode cX3_checkRevision 0 = .ok (.iload_n 1, 1) := by decide +kernel
theorem dX3_checkRevision_1 : decode cX3_checkRevision 1 = .ok (.ifCond .lt 14, 3) := by decide +kernel
theorem dX3_checkRevision_4 : decode cX3_checkRevision 4 = .ok (.iload_n 1, 1) := by decide +kernel
theorem dX3_checkRevision_5 : decode cX3_checkRevision 5 = .ok (.aload_n 0, 1) := by decide +kernel
theorem dX3_checkRevision_6 : decode cX3_checkRevision 6 = .ok (.getfield 10, 3) := by decide +kernel
theorem dX3_checkRevision_9 : decode cX3_checkRevision 9 = .ok (.getfield 127, 3) := by decide +kernel
theorem dX3_checkRevision_12 : decode cX3_checkRevision 12 = .ok (.if_icmp .lt 13, 3) := by decide +kernel
theorem dX3_checkRevision_15 : decode cX3_checkRevision 15 = .ok (.new 180, 3) := by decide +kernel
theorem dX3_checkRevision_18 : decode cX3_checkRevision 18 = .ok (.dup, 1) := by decide +kernel
theorem dX3_checkRevision_19 : decode cX3_checkRevision 19 = .ok (.ldc 189, 2) := by decide +kernel
theorem dX3_checkRevision_21 : decode cX3_checkRevision 21 = .ok (.invokespecial 184, 3) := by decide +kernel
theorem dX3_checkRevision_24 : decode cX3_checkRevision 24 = .ok (.athrow, 1) := by decide +kernel
theorem dX3_checkRevision_25 : decode cX3_checkRevision 25 = .ok (.return_, 1) := by decide +kernel
theorem dX3_checkDifferent_0 : decode cX3_checkDifferent 0 = .ok (.iload_n 1, 1) := by decide +kernel
theorem dX3_checkDifferent_1 : decode cX3_checkDifferent 1 = .ok (.iload_n 2, 1) := by decide +kernel
theorem dX3_checkDifferent_2 : decode cX3_checkDifferent 2 = .ok (.if_icmp .ne 13, 3) := by decide +kernel
theorem dX3_checkDifferent_5 : decode cX3_checkDifferent 5 = .ok (.new 41, 3) := by decide +kernel
theorem dX3_checkDifferent_8 : decode cX3_checkDifferent 8 = .ok (.dup, 1) := by decide +kernel
theorem dX3_checkDifferent_9 : decode cX3_checkDifferent 9 = .ok (.ldc 191, 2) := by decide +kernel
theorem dX3_checkDifferent_11 : decode cX3_checkDifferent 11 = .ok (.invokespecial 45, 3) := by decide +kernel
theorem dX3_checkDifferent_14 : decode cX3_checkDifferent 14 = .ok (.athrow, 1) := by decide +kernel
theorem dX3_checkDifferent_15 : decode cX3_checkDifferent 15 = .ok (.return_, 1) := by decide +kernel
theorem dX3_checkNotBegun_0 : decode cX3_checkNotBegun 0 = .ok (.aload_n 1, 1) := by decide +kernel
theorem dX3_checkNotBegun_1 : decode cX3_checkNotBegun 1 = .ok (.getfield 78, 3) := by decide +kernel
theorem dX3_checkNotBegun_4 : decode cX3_checkNotBegun 4 = .ok (.getfield 152, 3) := by decide +kernel
theorem dX3_checkNotBegun_7 : decode cX3_checkNotBegun 7 = .ok (.iload_n 2, 1) := by decide +kernel
theorem dX3_checkNotBegun_8 : decode cX3_checkNotBegun 8 = .ok (.iaload, 1) := by decide +kernel
theorem dX3_checkNotBegun_9 : decode cX3_checkNotBegun 9 = .ok (.iconst (-1), 1) := by decide +kernel
theorem dX3_checkNotBegun_10 : decode cX3_checkNotBegun 10 = .ok (.if_icmp .eq 13, 3) := by decide +kernel
theorem dX3_checkNotBegun_13 : decode cX3_checkNotBegun 13 = .ok (.new 67, 3) := by decide +kernel
theorem dX3_checkNotBegun_16 : decode cX3_checkNotBegun 16 = .ok (.dup, 1) := by decide +kernel
theorem dX3_checkNotBegun_17 : decode cX3_checkNotBegun 17 = .ok (.ldc 193, 2) := by decide +kernel
theorem dX3_checkNotBegun_19 : decode cX3_checkNotBegun 19 = .ok (.invokespecial 71, 3) := by decide +kernel
theorem dX3_checkNotBegun_22 : decode cX3_checkNotBegun 22 = .ok (.athrow, 1) := by decide +kernel
theorem dX3_checkNotBegun_23 : decode cX3_checkNotBegun 23 = .ok (.return_, 1) := by decide +kernel
set_option maxRecDepth 20000 in
theorem ggX3_checkLeaf_X0_endsAt : GoodIn wsX3_checkLeaf wsX0_endsAt := goodIn_r _ [8, 9, 10, 11, 12, 7, 13, 14, 30, 31, 32] (by decide +kernel) (by decide +kernel)
set_option maxRecDepth 20000 in
theorem gX3_checkLeaf_X0_endsAt : GoodIn wsX3_checkLeaf (wsV RX3 148 RX0 yX0_endsAt wsX0_endsAt) := goodIn_app (goodIn_of _ (by decide +kernel)) ggX3_checkLeaf_X0_endsAt
theorem dX3_checkLeaf_0 : decode cX3_checkLeaf 0 = .ok (.aload_n 0, 1) := by decide +kernel
theorem dX3_checkLeaf_1 : decode cX3_checkLeaf 1 = .ok (.getfield 10, 3) := by decide +kernel
theorem dX3_checkLeaf_4 : decode cX3_checkLeaf 4 = .ok (.getfield 130, 3) := by decide +kernel
theorem dX3_checkLeaf_7 : decode cX3_checkLeaf 7 = .ok (.iload_n 3, 1) := by decide +kernel
theorem dX3_checkLeaf_8 : decode cX3_checkLeaf 8 = .ok (.iaload, 1) := by decide +kernel
theorem dX3_checkLeaf_9 : decode cX3_checkLeaf 9 = .ok (.iload_n 2, 1) := by decide +kernel
theorem dX3_checkLeaf_10 : decode cX3_checkLeaf 10 = .ok (.if_icmp .ne 14, 3) := by decide +kernel
theorem dX3_checkLeaf_13 : decode cX3_checkLeaf 13 = .ok (.aload_n 1, 1) := by decide +kernel
theorem dX3_checkLeaf_14 : decode cX3_checkLeaf 14 = .ok (.getfield 78, 3) := by decide +kernel
theorem dX3_checkLeaf_17 : decode cX3_checkLeaf 17 = .ok (.iload_n 3, 1) := by decide +kernel
theorem dX3_checkLeaf_18 : decode cX3_checkLeaf 18 = .ok (.invokevirtual 148, 3) := by decide +kernel
theorem dX3_checkLeaf_21 : decode cX3_checkLeaf 21 = .ok (.ifCond .ne 13, 3) := by decide +kernel
theorem dX3_checkLeaf_24 : decode cX3_checkLeaf 24 = .ok (.new 67, 3) := by decide +kernel
theorem dX3_checkLeaf_27 : decode cX3_checkLeaf 27 = .ok (.dup, 1) := by decide +kernel
theorem dX3_checkLeaf_28 : decode cX3_checkLeaf 28 = .ok (.ldc 195, 2) := by decide +kernel
theorem dX3_checkLeaf_30 : decode cX3_checkLeaf 30 = .ok (.invokespecial 71, 3) := by decide +kernel
theorem dX3_checkLeaf_33 : decode cX3_checkLeaf 33 = .ok (.athrow, 1) := by decide +kernel
theorem dX3_checkLeaf_34 : decode cX3_checkLeaf 34 = .ok (.return_, 1) := by decide +kernel
theorem dX3_checkRoom_0 : decode cX3_checkRoom 0 = .ok (.aload_n 0, 1) := by decide +kernel
theorem dX3_checkRoom_1 : decode cX3_checkRoom 1 = .ok (.getfield 10, 3) := by decide +kernel
theorem dX3_checkRoom_4 : decode cX3_checkRoom 4 = .ok (.getfield 127, 3) := by decide +kernel
theorem dX3_checkRoom_7 : decode cX3_checkRoom 7 = .ok (.sipush 150, 3) := by decide +kernel
theorem dX3_checkRoom_10 : decode cX3_checkRoom 10 = .ok (.if_icmp .lt 13, 3) := by decide +kernel
theorem dX3_checkRoom_13 : decode cX3_checkRoom 13 = .ok (.new 67, 3) := by decide +kernel
theorem dX3_checkRoom_16 : decode cX3_checkRoom 16 = .ok (.dup, 1) := by decide +kernel
theorem dX3_checkRoom_17 : decode cX3_checkRoom 17 = .ok (.ldc 197, 2) := by decide +kernel
theorem dX3_checkRoom_19 : decode cX3_checkRoom 19 = .ok (.invokespecial 71, 3) := by decide +kernel
theorem dX3_checkRoom_22 : decode cX3_checkRoom 22 = .ok (.athrow, 1) := by decide +kernel
theorem dX3_checkRoom_23 : decode cX3_checkRoom 23 = .ok (.return_, 1) := by decide +kernel
set_option maxRecDepth 20000 in
theorem ggX3_grow_X2_find : GoodIn wsX3_grow wsX2_find := goodIn_r _ [6, 7, 8, 9, 10, 11, 74, 75, 76, 77, 78, 79, 80] (by decide +kernel) (by decide +kernel)
set_option maxRecDepth 20000 in
theorem gX3_grow_X2_find : GoodIn wsX3_grow (wsV RX3 199 RX2 yX2_find wsX2_find) := goodIn_app (goodIn_of _ (by decide +kernel)) ggX3_grow_X2_find
set_option maxRecDepth 20000 in
theorem ggX3_grow_X2_make : GoodIn wsX3_grow wsX2_make := goodIn_r _ [15, 7, 16, 17, 8, 9, 10, 11, 74, 75, 76, 77, 78, 79, 80] (by decide +kernel) (by decide +kernel)
set_option maxRecDepth 20000 in
theorem gX3_grow_X2_make : GoodIn wsX3_grow (wsV RX3 203 RX2 yX2_make wsX2_make) := goodIn_app (goodIn_of _ (by decide +kernel)) ggX3_grow_X2_make
set_option maxRecDepth 20000 in
theorem ggX3_grow_X1_append : GoodIn wsX3_grow wsX1_append := goodIn_r _ [22, 23, 24, 25, 26, 21, 27, 28, 29, 30, 31, 32, 33, 34, 35, 36, 37, 38, 39, 40, 41, 42, 43, 44, 45, 46, 47, 48, 49, 50, 51, 52, 53, 54, 55, 56, 57, 58, 59, 60, 61, 62, 63, 64, 65, 5, 66, 11, 16, 17, 67, 68, 69, 70, 81, 82, 83, 84, 85, 86, 87, 88, 74, 75, 76, 77, 78, 79, 80] (by decide +kernel) (by decide +kernel)
set_option maxRecDepth 20000 in
theorem gX3_grow_X1_append : GoodIn wsX3_grow (wsV RX3 206 RX1 yX1_append wsX1_append) := goodIn_app (goodIn_of _ (by decide +kernel)) ggX3_grow_X1_append
theorem dX3_grow_0 : decode cX3_grow 0 = .ok (.aload_n 0, 1) := by decide +kernel
theorem dX3_grow_1 : decode cX3_grow 1 = .ok (.getfield 10, 3) := by decide +kernel
theorem dX3_grow_4 : decode cX3_grow 4 = .ok (.iload_n 2, 1) := by decide +kernel
theorem dX3_grow_5 : decode cX3_grow 5 = .ok (.iload_n 3, 1) := by decide +kernel
theorem dX3_grow_6 : decode cX3_grow 6 = .ok (.iload 4, 2) := by decide +kernel
theorem dX3_grow_8 : decode cX3_grow 8 = .ok (.iload 5, 2) := by decide +kernel
theorem dX3_grow_10 : decode cX3_grow 10 = .ok (.invokevirtual 199, 3) := by decide +kernel
theorem dX3_grow_13 : decode cX3_grow 13 = .ok (.istore 6, 2) := by decide +kernel
theorem dX3_grow_15 : decode cX3_grow 15 = .ok (.iload 6, 2) := by decide +kernel
theorem dX3_grow_17 : decode cX3_grow 17 = .ok (.iconst (-1), 1) := by decide +kernel
theorem dX3_grow_18 : decode cX3_grow 18 = .ok (.if_icmp .ne 18, 3) := by decide +kernel
theorem dX3_grow_21 : decode cX3_grow 21 = .ok (.aload_n 0, 1) := by decide +kernel
theorem dX3_grow_22 : decode cX3_grow 22 = .ok (.getfield 10, 3) := by decide +kernel
theorem dX3_grow_25 : decode cX3_grow 25 = .ok (.iload_n 2, 1) := by decide +kernel
theorem dX3_grow_26 : decode cX3_grow 26 = .ok (.iload_n 3, 1) := by decide +kernel
theorem dX3_grow_27 : decode cX3_grow 27 = .ok (.iload 4, 2) := by decide +kernel
theorem dX3_grow_29 : decode cX3_grow 29 = .ok (.iload 5, 2) := by decide +kernel
theorem dX3_grow_31 : decode cX3_grow 31 = .ok (.invokevirtual 203, 3) := by decide +kernel
theorem dX3_grow_34 : decode cX3_grow 34 = .ok (.istore 6, 2) := by decide +kernel
theorem dX3_grow_36 : decode cX3_grow 36 = .ok (.aload_n 1, 1) := by decide +kernel
theorem dX3_grow_37 : decode cX3_grow 37 = .ok (.aload_n 0, 1) := by decide +kernel
theorem dX3_grow_38 : decode cX3_grow 38 = .ok (.getfield 10, 3) := by decide +kernel
theorem dX3_grow_41 : decode cX3_grow 41 = .ok (.iload 6, 2) := by decide +kernel
theorem dX3_grow_43 : decode cX3_grow 43 = .ok (.invokevirtual 206, 3) := by decide +kernel
theorem dX3_grow_46 : decode cX3_grow 46 = .ok (.iload 6, 2) := by decide +kernel
theorem dX3_grow_48 : decode cX3_grow 48 = .ok (.ireturn, 1) := by decide +kernel
set_option maxRecDepth 20000 in
theorem ggX3_commonCheckpoint_X3_pairOf : GoodIn wsX3_commonCheckpoint wsX3_pairOf := goodIn_r _ [9] (by decide +kernel) (by decide +kernel)
set_option maxRecDepth 20000 in
theorem gX3_commonCheckpoint_X3_pairOf : GoodIn wsX3_commonCheckpoint (va_wsS RX3 121 yX3_pairOf wsX3_pairOf) := goodIn_app (goodIn_of _ (by decide +kernel)) ggX3_commonCheckpoint_X3_pairOf
theorem dX3_commonCheckpoint_0 : decode cX3_commonCheckpoint 0 = .ok (.iload_n 1, 1) := by decide +kernel
theorem dX3_commonCheckpoint_1 : decode cX3_commonCheckpoint 1 = .ok (.iload_n 2, 1) := by decide +kernel
theorem dX3_commonCheckpoint_2 : decode cX3_commonCheckpoint 2 = .ok (.invokestatic 121, 3) := by decide +kernel
theorem dX3_commonCheckpoint_5 : decode cX3_commonCheckpoint 5 = .ok (.istore_n 3, 1) := by decide +kernel
theorem dX3_commonCheckpoint_6 : decode cX3_commonCheckpoint 6 = .ok (.aload_n 0, 1) := by decide +kernel
theorem dX3_commonCheckpoint_7 : decode cX3_commonCheckpoint 7 = .ok (.getfield 18, 3) := by decide +kernel
theorem dX3_commonCheckpoint_10 : decode cX3_commonCheckpoint 10 = .ok (.iload_n 1, 1) := by decide +kernel
theorem dX3_commonCheckpoint_11 : decode cX3_commonCheckpoint 11 = .ok (.aaload, 1) := by decide +kernel
theorem dX3_commonCheckpoint_12 : decode cX3_commonCheckpoint 12 = .ok (.getfield 118, 3) := by decide +kernel
theorem dX3_commonCheckpoint_15 : decode cX3_commonCheckpoint 15 = .ok (.iload_n 3, 1) := by decide +kernel
theorem dX3_commonCheckpoint_16 : decode cX3_commonCheckpoint 16 = .ok (.iaload, 1) := by decide +kernel
theorem dX3_commonCheckpoint_17 : decode cX3_commonCheckpoint 17 = .ok (.aload_n 0, 1) := by decide +kernel
theorem dX3_commonCheckpoint_18 : decode cX3_commonCheckpoint 18 = .ok (.getfield 18, 3) := by decide +kernel
theorem dX3_commonCheckpoint_21 : decode cX3_commonCheckpoint 21 = .ok (.iload_n 2, 1) := by decide +kernel
theorem dX3_commonCheckpoint_22 : decode cX3_commonCheckpoint 22 = .ok (.aaload, 1) := by decide +kernel
theorem dX3_commonCheckpoint_23 : decode cX3_commonCheckpoint 23 = .ok (.getfield 118, 3) := by decide +kernel
theorem dX3_commonCheckpoint_26 : decode cX3_commonCheckpoint 26 = .ok (.iload_n 3, 1) := by decide +kernel
theorem dX3_commonCheckpoint_27 : decode cX3_commonCheckpoint 27 = .ok (.iaload, 1) := by decide +kernel
theorem dX3_commonCheckpoint_28 : decode cX3_commonCheckpoint 28 = .ok (.invokestatic 210, 3) := by decide +kernel
theorem dX3_commonCheckpoint_31 : decode cX3_commonCheckpoint 31 = .ok (.ireturn, 1) := by decide +kernel
theorem dX3_pairOf_0 : decode cX3_pairOf 0 = .ok (.iload_n 0, 1) := by decide +kernel
theorem dX3_pairOf_1 : decode cX3_pairOf 1 = .ok (.iconst 3, 1) := by decide +kernel
theorem dX3_pairOf_2 : decode cX3_pairOf 2 = .ok (.imul, 1) := by decide +kernel
theorem dX3_pairOf_3 : decode cX3_pairOf 3 = .ok (.iload_n 1, 1) := by decide +kernel
theorem dX3_pairOf_4 : decode cX3_pairOf 4 = .ok (.iadd, 1) := by decide +kernel
theorem dX3_pairOf_5 : decode cX3_pairOf 5 = .ok (.ireturn, 1) := by decide +kernel
end
section
theorem dX4_init_0 : decode cX4_init 0 = .ok (.aload_n 0, 1) := by decide +kernel
theorem dX4_init_1 : decode cX4_init 1 = .ok (.invokespecial 1, 3) := by decide +kernel
theorem dX4_init_4 : decode cX4_init 4 = .ok (.aload_n 0, 1) := by decide +kernel
theorem dX4_init_5 : decode cX4_init 5 = .ok (.sipush 150, 3) := by decide +kernel
theorem dX4_init_8 : decode cX4_init 8 = .ok (.newarray .int, 2) := by decide +kernel
theorem dX4_init_10 : decode cX4_init 10 = .ok (.putfield 7, 3) := by decide +kernel
theorem dX4_init_13 : decode cX4_init 13 = .ok (.aload_n 0, 1) := by decide +kernel
theorem dX4_init_14 : decode cX4_init 14 = .ok (.sipush 150, 3) := by decide +kernel
theorem dX4_init_17 : decode cX4_init 17 = .ok (.newarray .int, 2) := by decide +kernel
theorem dX4_init_19 : decode cX4_init 19 = .ok (.putfield 13, 3) := by decide +kernel
theorem dX4_init_22 : decode cX4_init 22 = .ok (.aload_n 0, 1) := by decide +kernel
theorem dX4_init_23 : decode cX4_init 23 = .ok (.sipush 150, 3) := by decide +kernel
theorem dX4_init_26 : decode cX4_init 26 = .ok (.newarray .int, 2) := by decide +kernel
theorem dX4_init_28 : decode cX4_init 28 = .ok (.putfield 16, 3) := by decide +kernel
theorem dX4_init_31 : decode cX4_init 31 = .ok (.aload_n 0, 1) := by decide +kernel
theorem dX4_init_32 : decode cX4_init 32 = .ok (.sipush 150, 3) := by decide +kernel
theorem dX4_init_35 : decode cX4_init 35 = .ok (.newarray .boolean, 2) := by decide +kernel
theorem dX4_init_37 : decode cX4_init 37 = .ok (.putfield 19, 3) := by decide +kernel
theorem dX4_init_40 : decode cX4_init 40 = .ok (.aload_n 0, 1) := by decide +kernel
theorem dX4_init_41 : decode cX4_init 41 = .ok (.sipush 150, 3) := by decide +kernel
theorem dX4_init_44 : decode cX4_init 44 = .ok (.newarray .int, 2) := by decide +kernel
theorem dX4_init_46 : decode cX4_init 46 = .ok (.putfield 23, 3) := by decide +kernel
theorem dX4_init_49 : decode cX4_init 49 = .ok (.aload_n 0, 1) := by decide +kernel
theorem dX4_init_50 : decode cX4_init 50 = .ok (.sipush 150, 3) := by decide +kernel
theorem dX4_init_53 : decode cX4_init 53 = .ok (.newarray .int, 2) := by decide +kernel
theorem dX4_init_55 : decode cX4_init 55 = .ok (.putfield 26, 3) := by decide +kernel
theorem dX4_init_58 : decode cX4_init 58 = .ok (.aload_n 0, 1) := by decide +kernel
theorem dX4_init_59 : decode cX4_init 59 = .ok (.sipush 450, 3) := by decide +kernel
theorem dX4_init_62 : decode cX4_init 62 = .ok (.newarray .boolean, 2) := by decide +kernel
theorem dX4_init_64 : decode cX4_init 64 = .ok (.putfield 29, 3) := by decide +kernel
theorem dX4_init_67 : decode cX4_init 67 = .ok (.aload_n 0, 1) := by decide +kernel
theorem dX4_init_68 : decode cX4_init 68 = .ok (.iconst 3, 1) := by decide +kernel
theorem dX4_init_69 : decode cX4_init 69 = .ok (.newarray .int, 2) := by decide +kernel
theorem dX4_init_71 : decode cX4_init 71 = .ok (.putfield 32, 3) := by decide +kernel
theorem dX4_init_74 : decode cX4_init 74 = .ok (.aload_n 0, 1) := by decide +kernel
theorem dX4_init_75 : decode cX4_init 75 = .ok (.iconst 3, 1) := by decide +kernel
theorem dX4_init_76 : decode cX4_init 76 = .ok (.newarray .int, 2) := by decide +kernel
theorem dX4_init_78 : decode cX4_init 78 = .ok (.putfield 35, 3) := by decide +kernel
theorem dX4_init_81 : decode cX4_init 81 = .ok (.aload_n 0, 1) := by decide +kernel
theorem dX4_init_82 : decode cX4_init 82 = .ok (.bipush 12, 2) := by decide +kernel
theorem dX4_init_84 : decode cX4_init 84 = .ok (.newarray .int, 2) := by decide +kernel
theorem dX4_init_86 : decode cX4_init 86 = .ok (.putfield 38, 3) := by decide +kernel
theorem dX4_init_89 : decode cX4_init 89 = .ok (.aload_n 0, 1) := by decide +kernel
theorem dX4_init_90 : decode cX4_init 90 = .ok (.bipush 27, 2) := by decide +kernel
theorem dX4_init_92 : decode cX4_init 92 = .ok (.newarray .int, 2) := by decide +kernel
theorem dX4_init_94 : decode cX4_init 94 = .ok (.putfield 41, 3) := by decide +kernel
theorem dX4_init_97 : decode cX4_init 97 = .ok (.iconst 0, 1) := by decide +kernel
theorem dX4_init_98 : decode cX4_init 98 = .ok (.istore_n 1, 1) := by decide +kernel
theorem dX4_init_99 : decode cX4_init 99 = .ok (.iload_n 1, 1) := by decide +kernel
theorem dX4_init_100 : decode cX4_init 100 = .ok (.iconst 3, 1) := by decide +kernel
theorem dX4_init_101 : decode cX4_init 101 = .ok (.if_icmp .ge 17, 3) := by decide +kernel
theorem dX4_init_104 : decode cX4_init 104 = .ok (.aload_n 0, 1) := by decide +kernel
theorem dX4_init_105 : decode cX4_init 105 = .ok (.getfield 32, 3) := by decide +kernel
theorem dX4_init_108 : decode cX4_init 108 = .ok (.iload_n 1, 1) := by decide +kernel
theorem dX4_init_109 : decode cX4_init 109 = .ok (.bipush 20, 2) := by decide +kernel
theorem dX4_init_111 : decode cX4_init 111 = .ok (.iastore, 1) := by decide +kernel
theorem dX4_init_112 : decode cX4_init 112 = .ok (.iinc 1 1, 3) := by decide +kernel
theorem dX4_init_115 : decode cX4_init 115 = .ok (.goto (-16), 3) := by decide +kernel
theorem dX4_init_118 : decode cX4_init 118 = .ok (.return_, 1) := by decide +kernel
theorem dX4_thrown_0 : decode cX4_thrown 0 = .ok (.aload_n 0, 1) := by decide +kernel
theorem dX4_thrown_1 : decode cX4_thrown 1 = .ok (.getfield 44, 3) := by decide +kernel
theorem dX4_thrown_4 : decode cX4_thrown 4 = .ok (.ireturn, 1) := by decide +kernel
theorem dX4_in_0 : decode cX4_in 0 = .ok (.iload_n 0, 1) := by decide +kernel
theorem dX4_in_1 : decode cX4_in 1 = .ok (.iload_n 1, 1) := by decide +kernel
theorem dX4_in_2 : decode cX4_in 2 = .ok (.if_icmp .lt 12, 3) := by decide +kernel
theorem dX4_in_5 : decode cX4_in 5 = .ok (.iload_n 0, 1) := by decide +kernel
theorem dX4_in_6 : decode cX4_in 6 = .ok (.iload_n 2, 1) := by decide +kernel
theorem dX4_in_7 : decode cX4_in 7 = .ok (.if_icmp .gt 7, 3) := by decide +kernel
theorem dX4_in_10 : decode cX4_in 10 = .ok (.iconst 1, 1) := by decide +kernel
theorem dX4_in_11 : decode cX4_in 11 = .ok (.goto 4, 3) := by decide +kernel
theorem dX4_in_14 : decode cX4_in 14 = .ok (.iconst 0, 1) := by decide +kernel
theorem dX4_in_15 : decode cX4_in 15 = .ok (.ireturn, 1) := by decide +kernel
theorem dX4_goes_0 : decode cX4_goes 0 = .ok (.aload_n 0, 1) := by decide +kernel
theorem dX4_goes_1 : decode cX4_goes 1 = .ok (.iload_n 1, 1) := by decide +kernel
theorem dX4_goes_2 : decode cX4_goes 2 = .ok (.ifCond .ne 7, 3) := by decide +kernel
theorem dX4_goes_5 : decode cX4_goes 5 = .ok (.iconst 1, 1) := by decide +kernel
theorem dX4_goes_6 : decode cX4_goes 6 = .ok (.goto 20, 3) := by decide +kernel
theorem dX4_goes_9 : decode cX4_goes 9 = .ok (.iload_n 2, 1) := by decide +kernel
theorem dX4_goes_10 : decode cX4_goes 10 = .ok (.ifCond .ne 7, 3) := by decide +kernel
theorem dX4_goes_13 : decode cX4_goes 13 = .ok (.iconst 2, 1) := by decide +kernel
theorem dX4_goes_14 : decode cX4_goes 14 = .ok (.goto 12, 3) := by decide +kernel
theorem dX4_goes_17 : decode cX4_goes 17 = .ok (.iload_n 3, 1) := by decide +kernel
theorem dX4_goes_18 : decode cX4_goes 18 = .ok (.ifCond .eq 7, 3) := by decide +kernel
theorem dX4_goes_21 : decode cX4_goes 21 = .ok (.iconst 0, 1) := by decide +kernel
theorem dX4_goes_22 : decode cX4_goes 22 = .ok (.goto 4, 3) := by decide +kernel
theorem dX4_goes_25 : decode cX4_goes 25 = .ok (.iconst 3, 1) := by decide +kernel
theorem dX4_goes_26 : decode cX4_goes 26 = .ok (.putfield 44, 3) := by decide +kernel
theorem dX4_goes_29 : decode cX4_goes 29 = .ok (.aload_n 0, 1) := by decide +kernel
theorem dX4_goes_30 : decode cX4_goes 30 = .ok (.getfield 44, 3) := by decide +kernel
theorem dX4_goes_33 : decode cX4_goes 33 = .ok (.ifCond .ne 7, 3) := by decide +kernel
theorem dX4_goes_36 : decode cX4_goes 36 = .ok (.iconst 1, 1) := by decide +kernel
theorem dX4_goes_37 : decode cX4_goes 37 = .ok (.goto 4, 3) := by decide +kernel
theorem dX4_goes_40 : decode cX4_goes 40 = .ok (.iconst 0, 1) := by decide +kernel
theorem dX4_goes_41 : decode cX4_goes 41 = .ok (.ireturn, 1) := by decide +kernel
set_option maxRecDepth 20000 in
theorem ggX4_isStore_X4_in : GoodIn wsX4_isStore wsX4_in := goodIn_r _ [4] (by decide +kernel) (by decide +kernel)
set_option maxRecDepth 20000 in
theorem gX4_isStore_X4_in : GoodIn wsX4_isStore (va_wsS RX4 48 yX4_in wsX4_in) := goodIn_app (goodIn_of _ (by decide +kernel)) ggX4_isStore_X4_in
theorem dX4_isStore_0 : decode cX4_isStore 0 = .ok (.iload_n 0, 1) := by decide +kernel
theorem dX4_isStore_1 : decode cX4_isStore 1 = .ok (.iconst 0, 1) := by decide +kernel
theorem dX4_isStore_2 : decode cX4_isStore 2 = .ok (.iconst 2, 1) := by decide +kernel
theorem dX4_isStore_3 : decode cX4_isStore 3 = .ok (.invokestatic 48, 3) := by decide +kernel
theorem dX4_isStore_6 : decode cX4_isStore 6 = .ok (.ireturn, 1) := by decide +kernel
set_option maxRecDepth 20000 in
theorem ggX4_isDocument_X4_in : GoodIn wsX4_isDocument wsX4_in := goodIn_r _ [4] (by decide +kernel) (by decide +kernel)
set_option maxRecDepth 20000 in
theorem gX4_isDocument_X4_in : GoodIn wsX4_isDocument (va_wsS RX4 48 yX4_in wsX4_in) := goodIn_app (goodIn_of _ (by decide +kernel)) ggX4_isDocument_X4_in
theorem dX4_isDocument_0 : decode cX4_isDocument 0 = .ok (.iload_n 0, 1) := by decide +kernel
theorem dX4_isDocument_1 : decode cX4_isDocument 1 = .ok (.iconst 0, 1) := by decide +kernel
theorem dX4_isDocument_2 : decode cX4_isDocument 2 = .ok (.iconst 3, 1) := by decide +kernel
theorem dX4_isDocument_3 : decode cX4_isDocument 3 = .ok (.invokestatic 48, 3) := by decide +kernel
theorem dX4_isDocument_6 : decode cX4_isDocument 6 = .ok (.ireturn, 1) := by decide +kernel
set_option maxRecDepth 20000 in
theorem ggX4_isRevision_X4_in : GoodIn wsX4_isRevision wsX4_in := goodIn_r _ [5] (by decide +kernel) (by decide +kernel)
set_option maxRecDepth 20000 in
theorem gX4_isRevision_X4_in : GoodIn wsX4_isRevision (va_wsS RX4 48 yX4_in wsX4_in) := goodIn_app (goodIn_of _ (by decide +kernel)) ggX4_isRevision_X4_in
theorem dX4_isRevision_0 : decode cX4_isRevision 0 = .ok (.iload_n 1, 1) := by decide +kernel
theorem dX4_isRevision_1 : decode cX4_isRevision 1 = .ok (.iconst 0, 1) := by decide +kernel
theorem dX4_isRevision_2 : decode cX4_isRevision 2 = .ok (.aload_n 0, 1) := by decide +kernel
theorem dX4_isRevision_3 : decode cX4_isRevision 3 = .ok (.getfield 52, 3) := by decide +kernel
theorem dX4_isRevision_6 : decode cX4_isRevision 6 = .ok (.iconst 1, 1) := by decide +kernel
theorem dX4_isRevision_7 : decode cX4_isRevision 7 = .ok (.isub, 1) := by decide +kernel
theorem dX4_isRevision_8 : decode cX4_isRevision 8 = .ok (.invokestatic 48, 3) := by decide +kernel
theorem dX4_isRevision_11 : decode cX4_isRevision 11 = .ok (.ireturn, 1) := by decide +kernel
theorem dX4_isAncestor_0 : decode cX4_isAncestor 0 = .ok (.iload_n 2, 1) := by decide +kernel
theorem dX4_isAncestor_1 : decode cX4_isAncestor 1 = .ok (.istore_n 3, 1) := by decide +kernel
theorem dX4_isAncestor_2 : decode cX4_isAncestor 2 = .ok (.iload_n 3, 1) := by decide +kernel
theorem dX4_isAncestor_3 : decode cX4_isAncestor 3 = .ok (.iload_n 1, 1) := by decide +kernel
theorem dX4_isAncestor_4 : decode cX4_isAncestor 4 = .ok (.if_icmp .le 13, 3) := by decide +kernel
theorem dX4_isAncestor_7 : decode cX4_isAncestor 7 = .ok (.aload_n 0, 1) := by decide +kernel
theorem dX4_isAncestor_8 : decode cX4_isAncestor 8 = .ok (.getfield 13, 3) := by decide +kernel
theorem dX4_isAncestor_11 : decode cX4_isAncestor 11 = .ok (.iload_n 3, 1) := by decide +kernel
theorem dX4_isAncestor_12 : decode cX4_isAncestor 12 = .ok (.iaload, 1) := by decide +kernel
theorem dX4_isAncestor_13 : decode cX4_isAncestor 13 = .ok (.istore_n 3, 1) := by decide +kernel
theorem dX4_isAncestor_14 : decode cX4_isAncestor 14 = .ok (.goto (-12), 3) := by decide +kernel
theorem dX4_isAncestor_17 : decode cX4_isAncestor 17 = .ok (.iload_n 3, 1) := by decide +kernel
theorem dX4_isAncestor_18 : decode cX4_isAncestor 18 = .ok (.iload_n 1, 1) := by decide +kernel
theorem dX4_isAncestor_19 : decode cX4_isAncestor 19 = .ok (.if_icmp .ne 12, 3) := by decide +kernel
theorem dX4_isAncestor_22 : decode cX4_isAncestor 22 = .ok (.iload_n 2, 1) := by decide +kernel
theorem dX4_isAncestor_23 : decode cX4_isAncestor 23 = .ok (.iload_n 1, 1) := by decide +kernel
theorem dX4_isAncestor_24 : decode cX4_isAncestor 24 = .ok (.if_icmp .eq 7, 3) := by decide +kernel
theorem dX4_isAncestor_27 : decode cX4_isAncestor 27 = .ok (.iconst 1, 1) := by decide +kernel
theorem dX4_isAncestor_28 : decode cX4_isAncestor 28 = .ok (.goto 4, 3) := by decide +kernel
theorem dX4_isAncestor_31 : decode cX4_isAncestor 31 = .ok (.iconst 0, 1) := by decide +kernel
theorem dX4_isAncestor_32 : decode cX4_isAncestor 32 = .ok (.ireturn, 1) := by decide +kernel
set_option maxRecDepth 20000 in
theorem ggX4_hasDescendant_X4_isAncestor : GoodIn wsX4_hasDescendant wsX4_isAncestor := goodIn_r _ [7, 8, 9, 10, 11, 12, 13, 14, 15, 16, 17, 18, 19, 20, 21] (by decide +kernel) (by decide +kernel)
set_option maxRecDepth 20000 in
theorem gX4_hasDescendant_X4_isAncestor : GoodIn wsX4_hasDescendant (wsV RX4 55 RX4 yX4_isAncestor wsX4_isAncestor) := goodIn_app (goodIn_of _ (by decide +kernel)) ggX4_hasDescendant_X4_isAncestor
theorem dX4_hasDescendant_0 : decode cX4_hasDescendant 0 = .ok (.iconst 0, 1) := by decide +kernel
theorem dX4_hasDescendant_1 : decode cX4_hasDescendant 1 = .ok (.istore_n 3, 1) := by decide +kernel
theorem dX4_hasDescendant_2 : decode cX4_hasDescendant 2 = .ok (.iload_n 2, 1) := by decide +kernel
theorem dX4_hasDescendant_3 : decode cX4_hasDescendant 3 = .ok (.iconst 1, 1) := by decide +kernel
theorem dX4_hasDescendant_4 : decode cX4_hasDescendant 4 = .ok (.iadd, 1) := by decide +kernel
theorem dX4_hasDescendant_5 : decode cX4_hasDescendant 5 = .ok (.istore 4, 2) := by decide +kernel
theorem dX4_hasDescendant_7 : decode cX4_hasDescendant 7 = .ok (.iload 4, 2) := by decide +kernel
theorem dX4_hasDescendant_9 : decode cX4_hasDescendant 9 = .ok (.aload_n 0, 1) := by decide +kernel
theorem dX4_hasDescendant_10 : decode cX4_hasDescendant 10 = .ok (.getfield 52, 3) := by decide +kernel
theorem dX4_hasDescendant_13 : decode cX4_hasDescendant 13 = .ok (.if_icmp .ge 45, 3) := by decide +kernel
theorem dX4_hasDescendant_16 : decode cX4_hasDescendant 16 = .ok (.iload_n 3, 1) := by decide +kernel
theorem dX4_hasDescendant_17 : decode cX4_hasDescendant 17 = .ok (.ifCond .ne 29, 3) := by decide +kernel
theorem dX4_hasDescendant_20 : decode cX4_hasDescendant 20 = .ok (.aload_n 0, 1) := by decide +kernel
theorem dX4_hasDescendant_21 : decode cX4_hasDescendant 21 = .ok (.getfield 29, 3) := by decide +kernel
theorem dX4_hasDescendant_24 : decode cX4_hasDescendant 24 = .ok (.sipush 150, 3) := by decide +kernel
theorem dX4_hasDescendant_27 : decode cX4_hasDescendant 27 = .ok (.iload_n 1, 1) := by decide +kernel
theorem dX4_hasDescendant_28 : decode cX4_hasDescendant 28 = .ok (.imul, 1) := by decide +kernel
theorem dX4_hasDescendant_29 : decode cX4_hasDescendant 29 = .ok (.iload 4, 2) := by decide +kernel
theorem dX4_hasDescendant_31 : decode cX4_hasDescendant 31 = .ok (.iadd, 1) := by decide +kernel
theorem dX4_hasDescendant_32 : decode cX4_hasDescendant 32 = .ok (.baload, 1) := by decide +kernel
theorem dX4_hasDescendant_33 : decode cX4_hasDescendant 33 = .ok (.ifCond .eq 17, 3) := by decide +kernel
theorem dX4_hasDescendant_36 : decode cX4_hasDescendant 36 = .ok (.aload_n 0, 1) := by decide +kernel
theorem dX4_hasDescendant_37 : decode cX4_hasDescendant 37 = .ok (.iload_n 2, 1) := by decide +kernel
theorem dX4_hasDescendant_38 : decode cX4_hasDescendant 38 = .ok (.iload 4, 2) := by decide +kernel
theorem dX4_hasDescendant_40 : decode cX4_hasDescendant 40 = .ok (.invokevirtual 55, 3) := by decide +kernel
theorem dX4_hasDescendant_43 : decode cX4_hasDescendant 43 = .ok (.ifCond .eq 7, 3) := by decide +kernel
theorem dX4_hasDescendant_46 : decode cX4_hasDescendant 46 = .ok (.iconst 1, 1) := by decide +kernel
theorem dX4_hasDescendant_47 : decode cX4_hasDescendant 47 = .ok (.goto 4, 3) := by decide +kernel
theorem dX4_hasDescendant_50 : decode cX4_hasDescendant 50 = .ok (.iconst 0, 1) := by decide +kernel
theorem dX4_hasDescendant_51 : decode cX4_hasDescendant 51 = .ok (.istore_n 3, 1) := by decide +kernel
theorem dX4_hasDescendant_52 : decode cX4_hasDescendant 52 = .ok (.iinc 4 1, 3) := by decide +kernel
theorem dX4_hasDescendant_55 : decode cX4_hasDescendant 55 = .ok (.goto (-48), 3) := by decide +kernel
theorem dX4_hasDescendant_58 : decode cX4_hasDescendant 58 = .ok (.iload_n 3, 1) := by decide +kernel
theorem dX4_hasDescendant_59 : decode cX4_hasDescendant 59 = .ok (.ireturn, 1) := by decide +kernel
set_option maxRecDepth 20000 in
theorem ggX4_leaf_X4_hasDescendant : GoodIn wsX4_leaf wsX4_hasDescendant := goodIn_r _ [6, 7, 1, 8, 9, 10, 5, 11, 12, 13, 14, 15, 16, 17, 18, 19, 20, 21, 22, 23, 24, 25] (by decide +kernel) (by decide +kernel)
set_option maxRecDepth 20000 in
theorem gX4_leaf_X4_hasDescendant : GoodIn wsX4_leaf (wsV RX4 59 RX4 yX4_hasDescendant wsX4_hasDescendant) := goodIn_app (goodIn_of _ (by decide +kernel)) ggX4_leaf_X4_hasDescendant
theorem dX4_leaf_0 : decode cX4_leaf 0 = .ok (.aload_n 0, 1) := by decide +kernel
theorem dX4_leaf_1 : decode cX4_leaf 1 = .ok (.getfield 29, 3) := by decide +kernel
theorem dX4_leaf_4 : decode cX4_leaf 4 = .ok (.sipush 150, 3) := by decide +kernel
theorem dX4_leaf_7 : decode cX4_leaf 7 = .ok (.iload_n 1, 1) := by decide +kernel
theorem dX4_leaf_8 : decode cX4_leaf 8 = .ok (.imul, 1) := by decide +kernel
theorem dX4_leaf_9 : decode cX4_leaf 9 = .ok (.iload_n 2, 1) := by decide +kernel
theorem dX4_leaf_10 : decode cX4_leaf 10 = .ok (.iadd, 1) := by decide +kernel
theorem dX4_leaf_11 : decode cX4_leaf 11 = .ok (.baload, 1) := by decide +kernel
theorem dX4_leaf_12 : decode cX4_leaf 12 = .ok (.ifCond .eq 16, 3) := by decide +kernel
theorem dX4_leaf_15 : decode cX4_leaf 15 = .ok (.aload_n 0, 1) := by decide +kernel
theorem dX4_leaf_16 : decode cX4_leaf 16 = .ok (.iload_n 1, 1) := by decide +kernel
theorem dX4_leaf_17 : decode cX4_leaf 17 = .ok (.iload_n 2, 1) := by decide +kernel
theorem dX4_leaf_18 : decode cX4_leaf 18 = .ok (.invokevirtual 59, 3) := by decide +kernel
theorem dX4_leaf_21 : decode cX4_leaf 21 = .ok (.ifCond .ne 7, 3) := by decide +kernel
theorem dX4_leaf_24 : decode cX4_leaf 24 = .ok (.iconst 1, 1) := by decide +kernel
theorem dX4_leaf_25 : decode cX4_leaf 25 = .ok (.goto 4, 3) := by decide +kernel
theorem dX4_leaf_28 : decode cX4_leaf 28 = .ok (.iconst 0, 1) := by decide +kernel
theorem dX4_leaf_29 : decode cX4_leaf 29 = .ok (.ireturn, 1) := by decide +kernel
theorem dX4_isBetter_0 : decode cX4_isBetter 0 = .ok (.aload_n 0, 1) := by decide +kernel
theorem dX4_isBetter_1 : decode cX4_isBetter 1 = .ok (.getfield 19, 3) := by decide +kernel
theorem dX4_isBetter_4 : decode cX4_isBetter 4 = .ok (.iload_n 1, 1) := by decide +kernel
theorem dX4_isBetter_5 : decode cX4_isBetter 5 = .ok (.baload, 1) := by decide +kernel
theorem dX4_isBetter_6 : decode cX4_isBetter 6 = .ok (.aload_n 0, 1) := by decide +kernel
theorem dX4_isBetter_7 : decode cX4_isBetter 7 = .ok (.getfield 19, 3) := by decide +kernel
theorem dX4_isBetter_10 : decode cX4_isBetter 10 = .ok (.iload_n 2, 1) := by decide +kernel
theorem dX4_isBetter_11 : decode cX4_isBetter 11 = .ok (.baload, 1) := by decide +kernel
theorem dX4_isBetter_12 : decode cX4_isBetter 12 = .ok (.if_icmp .eq 18, 3) := by decide +kernel
theorem dX4_isBetter_15 : decode cX4_isBetter 15 = .ok (.aload_n 0, 1) := by decide +kernel
theorem dX4_isBetter_16 : decode cX4_isBetter 16 = .ok (.getfield 19, 3) := by decide +kernel
theorem dX4_isBetter_19 : decode cX4_isBetter 19 = .ok (.iload_n 1, 1) := by decide +kernel
theorem dX4_isBetter_20 : decode cX4_isBetter 20 = .ok (.baload, 1) := by decide +kernel
theorem dX4_isBetter_21 : decode cX4_isBetter 21 = .ok (.ifCond .ne 7, 3) := by decide +kernel
theorem dX4_isBetter_24 : decode cX4_isBetter 24 = .ok (.iconst 1, 1) := by decide +kernel
theorem dX4_isBetter_25 : decode cX4_isBetter 25 = .ok (.goto 4, 3) := by decide +kernel
theorem dX4_isBetter_28 : decode cX4_isBetter 28 = .ok (.iconst 0, 1) := by decide +kernel
theorem dX4_isBetter_29 : decode cX4_isBetter 29 = .ok (.ireturn, 1) := by decide +kernel
theorem dX4_isBetter_30 : decode cX4_isBetter 30 = .ok (.aload_n 0, 1) := by decide +kernel
theorem dX4_isBetter_31 : decode cX4_isBetter 31 = .ok (.getfield 23, 3) := by decide +kernel
theorem dX4_isBetter_34 : decode cX4_isBetter 34 = .ok (.iload_n 1, 1) := by decide +kernel
theorem dX4_isBetter_35 : decode cX4_isBetter 35 = .ok (.iaload, 1) := by decide +kernel
theorem dX4_isBetter_36 : decode cX4_isBetter 36 = .ok (.aload_n 0, 1) := by decide +kernel
theorem dX4_isBetter_37 : decode cX4_isBetter 37 = .ok (.getfield 23, 3) := by decide +kernel
theorem dX4_isBetter_40 : decode cX4_isBetter 40 = .ok (.iload_n 2, 1) := by decide +kernel
theorem dX4_isBetter_41 : decode cX4_isBetter 41 = .ok (.iaload, 1) := by decide +kernel
theorem dX4_isBetter_42 : decode cX4_isBetter 42 = .ok (.if_icmp .eq 24, 3) := by decide +kernel
theorem dX4_isBetter_45 : decode cX4_isBetter 45 = .ok (.aload_n 0, 1) := by decide +kernel
theorem dX4_isBetter_46 : decode cX4_isBetter 46 = .ok (.getfield 23, 3) := by decide +kernel
theorem dX4_isBetter_49 : decode cX4_isBetter 49 = .ok (.iload_n 1, 1) := by decide +kernel
theorem dX4_isBetter_50 : decode cX4_isBetter 50 = .ok (.iaload, 1) := by decide +kernel
theorem dX4_isBetter_51 : decode cX4_isBetter 51 = .ok (.aload_n 0, 1) := by decide +kernel
theorem dX4_isBetter_52 : decode cX4_isBetter 52 = .ok (.getfield 23, 3) := by decide +kernel
theorem dX4_isBetter_55 : decode cX4_isBetter 55 = .ok (.iload_n 2, 1) := by decide +kernel
theorem dX4_isBetter_56 : decode cX4_isBetter 56 = .ok (.iaload, 1) := by decide +kernel
theorem dX4_isBetter_57 : decode cX4_isBetter 57 = .ok (.if_icmp .le 7, 3) := by decide +kernel
theorem dX4_isBetter_60 : decode cX4_isBetter 60 = .ok (.iconst 1, 1) := by decide +kernel
theorem dX4_isBetter_61 : decode cX4_isBetter 61 = .ok (.goto 4, 3) := by decide +kernel
theorem dX4_isBetter_64 : decode cX4_isBetter 64 = .ok (.iconst 0, 1) := by decide +kernel
theorem dX4_isBetter_65 : decode cX4_isBetter 65 = .ok (.ireturn, 1) := by decide +kernel
theorem dX4_isBetter_66 : decode cX4_isBetter 66 = .ok (.aload_n 0, 1) := by decide +kernel
theorem dX4_isBetter_67 : decode cX4_isBetter 67 = .ok (.getfield 26, 3) := by decide +kernel
theorem dX4_isBetter_70 : decode cX4_isBetter 70 = .ok (.iload_n 1, 1) := by decide +kernel
theorem dX4_isBetter_71 : decode cX4_isBetter 71 = .ok (.iaload, 1) := by decide +kernel
theorem dX4_isBetter_72 : decode cX4_isBetter 72 = .ok (.aload_n 0, 1) := by decide +kernel
theorem dX4_isBetter_73 : decode cX4_isBetter 73 = .ok (.getfield 26, 3) := by decide +kernel
theorem dX4_isBetter_76 : decode cX4_isBetter 76 = .ok (.iload_n 2, 1) := by decide +kernel
theorem dX4_isBetter_77 : decode cX4_isBetter 77 = .ok (.iaload, 1) := by decide +kernel
theorem dX4_isBetter_78 : decode cX4_isBetter 78 = .ok (.if_icmp .eq 26, 3) := by decide +kernel
theorem dX4_isBetter_81 : decode cX4_isBetter 81 = .ok (.aload_n 0, 1) := by decide +kernel
theorem dX4_isBetter_82 : decode cX4_isBetter 82 = .ok (.getfield 26, 3) := by decide +kernel
theorem dX4_isBetter_85 : decode cX4_isBetter 85 = .ok (.iload_n 1, 1) := by decide +kernel
theorem dX4_isBetter_86 : decode cX4_isBetter 86 = .ok (.iaload, 1) := by decide +kernel
theorem dX4_isBetter_87 : decode cX4_isBetter 87 = .ok (.aload_n 0, 1) := by decide +kernel
theorem dX4_isBetter_88 : decode cX4_isBetter 88 = .ok (.getfield 26, 3) := by decide +kernel
theorem dX4_isBetter_91 : decode cX4_isBetter 91 = .ok (.iload_n 2, 1) := by decide +kernel
theorem dX4_isBetter_92 : decode cX4_isBetter 92 = .ok (.iaload, 1) := by decide +kernel
theorem dX4_isBetter_93 : decode cX4_isBetter 93 = .ok (.if_icmp .le 7, 3) := by decide +kernel
theorem dX4_isBetter_96 : decode cX4_isBetter 96 = .ok (.iconst 1, 1) := by decide +kernel
theorem dX4_isBetter_97 : decode cX4_isBetter 97 = .ok (.goto 17, 3) := by decide +kernel
theorem dX4_isBetter_100 : decode cX4_isBetter 100 = .ok (.iconst 0, 1) := by decide +kernel
theorem dX4_isBetter_101 : decode cX4_isBetter 101 = .ok (.goto 13, 3) := by decide +kernel
theorem dX4_isBetter_104 : decode cX4_isBetter 104 = .ok (.iload_n 1, 1) := by decide +kernel
theorem dX4_isBetter_105 : decode cX4_isBetter 105 = .ok (.iload_n 2, 1) := by decide +kernel
theorem dX4_isBetter_106 : decode cX4_isBetter 106 = .ok (.if_icmp .ge 7, 3) := by decide +kernel
theorem dX4_isBetter_109 : decode cX4_isBetter 109 = .ok (.iconst 1, 1) := by decide +kernel
theorem dX4_isBetter_110 : decode cX4_isBetter 110 = .ok (.goto 4, 3) := by decide +kernel
theorem dX4_isBetter_113 : decode cX4_isBetter 113 = .ok (.iconst 0, 1) := by decide +kernel
theorem dX4_isBetter_114 : decode cX4_isBetter 114 = .ok (.ireturn, 1) := by decide +kernel
set_option maxRecDepth 20000 in
theorem ggX4_best_X4_leaf : GoodIn wsX4_best wsX4_leaf := goodIn_r _ [7, 8, 9, 10, 11, 6, 12, 1, 13, 14, 15, 16, 17, 25, 26, 27, 28, 29, 30, 31, 32, 33, 34, 35, 36, 37] (by decide +kernel) (by decide +kernel)
set_option maxRecDepth 20000 in
theorem gX4_best_X4_leaf : GoodIn wsX4_best (wsV RX4 62 RX4 yX4_leaf wsX4_leaf) := goodIn_app (goodIn_of _ (by decide +kernel)) ggX4_best_X4_leaf
set_option maxRecDepth 20000 in
theorem ggX4_best_X4_isBetter : GoodIn wsX4_best wsX4_isBetter := goodIn_r _ [21, 22, 23, 24, 25, 26, 27, 28, 29, 30, 31, 32, 33, 34, 35, 36, 37] (by decide +kernel) (by decide +kernel)
set_option maxRecDepth 20000 in
theorem gX4_best_X4_isBetter : GoodIn wsX4_best (wsV RX4 65 RX4 yX4_isBetter wsX4_isBetter) := goodIn_app (goodIn_of _ (by decide +kernel)) ggX4_best_X4_isBetter
theorem dX4_best_0 : decode cX4_best 0 = .ok (.iconst (-1), 1) := by decide +kernel
theorem dX4_best_1 : decode cX4_best 1 = .ok (.istore_n 3, 1) := by decide +kernel
theorem dX4_best_2 : decode cX4_best 2 = .ok (.iconst 0, 1) := by decide +kernel
theorem dX4_best_3 : decode cX4_best 3 = .ok (.istore 4, 2) := by decide +kernel
theorem dX4_best_5 : decode cX4_best 5 = .ok (.iload 4, 2) := by decide +kernel
theorem dX4_best_7 : decode cX4_best 7 = .ok (.aload_n 0, 1) := by decide +kernel
theorem dX4_best_8 : decode cX4_best 8 = .ok (.getfield 52, 3) := by decide +kernel
theorem dX4_best_11 : decode cX4_best 11 = .ok (.if_icmp .ge 64, 3) := by decide +kernel
theorem dX4_best_14 : decode cX4_best 14 = .ok (.aload_n 0, 1) := by decide +kernel
theorem dX4_best_15 : decode cX4_best 15 = .ok (.getfield 7, 3) := by decide +kernel
theorem dX4_best_18 : decode cX4_best 18 = .ok (.iload 4, 2) := by decide +kernel
theorem dX4_best_20 : decode cX4_best 20 = .ok (.iaload, 1) := by decide +kernel
theorem dX4_best_21 : decode cX4_best 21 = .ok (.iload_n 2, 1) := by decide +kernel
theorem dX4_best_22 : decode cX4_best 22 = .ok (.if_icmp .ne 17, 3) := by decide +kernel
theorem dX4_best_25 : decode cX4_best 25 = .ok (.aload_n 0, 1) := by decide +kernel
theorem dX4_best_26 : decode cX4_best 26 = .ok (.iload_n 1, 1) := by decide +kernel
theorem dX4_best_27 : decode cX4_best 27 = .ok (.iload 4, 2) := by decide +kernel
theorem dX4_best_29 : decode cX4_best 29 = .ok (.invokevirtual 62, 3) := by decide +kernel
theorem dX4_best_32 : decode cX4_best 32 = .ok (.ifCond .eq 7, 3) := by decide +kernel
theorem dX4_best_35 : decode cX4_best 35 = .ok (.iconst 1, 1) := by decide +kernel
theorem dX4_best_36 : decode cX4_best 36 = .ok (.goto 4, 3) := by decide +kernel
theorem dX4_best_39 : decode cX4_best 39 = .ok (.iconst 0, 1) := by decide +kernel
theorem dX4_best_40 : decode cX4_best 40 = .ok (.istore 5, 2) := by decide +kernel
theorem dX4_best_42 : decode cX4_best 42 = .ok (.iload 5, 2) := by decide +kernel
theorem dX4_best_44 : decode cX4_best 44 = .ok (.ifCond .eq 23, 3) := by decide +kernel
theorem dX4_best_47 : decode cX4_best 47 = .ok (.iload_n 3, 1) := by decide +kernel
theorem dX4_best_48 : decode cX4_best 48 = .ok (.iconst (-1), 1) := by decide +kernel
theorem dX4_best_49 : decode cX4_best 49 = .ok (.if_icmp .eq 13, 3) := by decide +kernel
theorem dX4_best_52 : decode cX4_best 52 = .ok (.aload_n 0, 1) := by decide +kernel
theorem dX4_best_53 : decode cX4_best 53 = .ok (.iload 4, 2) := by decide +kernel
theorem dX4_best_55 : decode cX4_best 55 = .ok (.iload_n 3, 1) := by decide +kernel
theorem dX4_best_56 : decode cX4_best 56 = .ok (.invokevirtual 65, 3) := by decide +kernel
theorem dX4_best_59 : decode cX4_best 59 = .ok (.ifCond .eq 8, 3) := by decide +kernel
theorem dX4_best_62 : decode cX4_best 62 = .ok (.iload 4, 2) := by decide +kernel
theorem dX4_best_64 : decode cX4_best 64 = .ok (.goto 4, 3) := by decide +kernel
theorem dX4_best_67 : decode cX4_best 67 = .ok (.iload_n 3, 1) := by decide +kernel
theorem dX4_best_68 : decode cX4_best 68 = .ok (.istore_n 3, 1) := by decide +kernel
theorem dX4_best_69 : decode cX4_best 69 = .ok (.iinc 4 1, 3) := by decide +kernel
theorem dX4_best_72 : decode cX4_best 72 = .ok (.goto (-67), 3) := by decide +kernel
theorem dX4_best_75 : decode cX4_best 75 = .ok (.iload_n 3, 1) := by decide +kernel
theorem dX4_best_76 : decode cX4_best 76 = .ok (.ireturn, 1) := by decide +kernel
set_option maxRecDepth 20000 in
theorem ggX4_isDeep_X4_isAncestor : GoodIn wsX4_isDeep wsX4_isAncestor := goodIn_r _ [8, 9, 19, 20, 21, 22, 23, 24, 25, 26, 27, 28, 29, 30, 31] (by decide +kernel) (by decide +kernel)
set_option maxRecDepth 20000 in
theorem gX4_isDeep_X4_isAncestor : GoodIn wsX4_isDeep (wsV RX4 55 RX4 yX4_isAncestor wsX4_isAncestor) := goodIn_app (goodIn_of _ (by decide +kernel)) ggX4_isDeep_X4_isAncestor
set_option maxRecDepth 20000 in
theorem ggX4_isDeep_X4_leaf : GoodIn wsX4_isDeep wsX4_leaf := goodIn_r _ [13, 14, 15, 16, 17, 7, 18, 1, 4, 5, 6, 8, 9, 19, 20, 21, 22, 23, 24, 25, 26, 27, 28, 29, 30, 31] (by decide +kernel) (by decide +kernel)
set_option maxRecDepth 20000 in
theorem gX4_isDeep_X4_leaf : GoodIn wsX4_isDeep (wsV RX4 62 RX4 yX4_leaf wsX4_leaf) := goodIn_app (goodIn_of _ (by decide +kernel)) ggX4_isDeep_X4_leaf
theorem dX4_isDeep_0 : decode cX4_isDeep 0 = .ok (.iconst 0, 1) := by decide +kernel
theorem dX4_isDeep_1 : decode cX4_isDeep 1 = .ok (.istore_n 3, 1) := by decide +kernel
theorem dX4_isDeep_2 : decode cX4_isDeep 2 = .ok (.iload_n 2, 1) := by decide +kernel
theorem dX4_isDeep_3 : decode cX4_isDeep 3 = .ok (.iconst 1, 1) := by decide +kernel
theorem dX4_isDeep_4 : decode cX4_isDeep 4 = .ok (.iadd, 1) := by decide +kernel
theorem dX4_isDeep_5 : decode cX4_isDeep 5 = .ok (.istore 4, 2) := by decide +kernel
theorem dX4_isDeep_7 : decode cX4_isDeep 7 = .ok (.iload 4, 2) := by decide +kernel
theorem dX4_isDeep_9 : decode cX4_isDeep 9 = .ok (.aload_n 0, 1) := by decide +kernel
theorem dX4_isDeep_10 : decode cX4_isDeep 10 = .ok (.getfield 52, 3) := by decide +kernel
theorem dX4_isDeep_13 : decode cX4_isDeep 13 = .ok (.if_icmp .ge 56, 3) := by decide +kernel
theorem dX4_isDeep_16 : decode cX4_isDeep 16 = .ok (.aload_n 0, 1) := by decide +kernel
theorem dX4_isDeep_17 : decode cX4_isDeep 17 = .ok (.iload_n 2, 1) := by decide +kernel
theorem dX4_isDeep_18 : decode cX4_isDeep 18 = .ok (.iload 4, 2) := by decide +kernel
theorem dX4_isDeep_20 : decode cX4_isDeep 20 = .ok (.invokevirtual 55, 3) := by decide +kernel
theorem dX4_isDeep_23 : decode cX4_isDeep 23 = .ok (.ifCond .eq 40, 3) := by decide +kernel
theorem dX4_isDeep_26 : decode cX4_isDeep 26 = .ok (.aload_n 0, 1) := by decide +kernel
theorem dX4_isDeep_27 : decode cX4_isDeep 27 = .ok (.iload_n 1, 1) := by decide +kernel
theorem dX4_isDeep_28 : decode cX4_isDeep 28 = .ok (.iload 4, 2) := by decide +kernel
theorem dX4_isDeep_30 : decode cX4_isDeep 30 = .ok (.invokevirtual 62, 3) := by decide +kernel
theorem dX4_isDeep_33 : decode cX4_isDeep 33 = .ok (.ifCond .eq 30, 3) := by decide +kernel
theorem dX4_isDeep_36 : decode cX4_isDeep 36 = .ok (.iconst 1, 1) := by decide +kernel
theorem dX4_isDeep_37 : decode cX4_isDeep 37 = .ok (.istore_n 3, 1) := by decide +kernel
theorem dX4_isDeep_38 : decode cX4_isDeep 38 = .ok (.aload_n 0, 1) := by decide +kernel
theorem dX4_isDeep_39 : decode cX4_isDeep 39 = .ok (.getfield 23, 3) := by decide +kernel
theorem dX4_isDeep_42 : decode cX4_isDeep 42 = .ok (.iload 4, 2) := by decide +kernel
theorem dX4_isDeep_44 : decode cX4_isDeep 44 = .ok (.iaload, 1) := by decide +kernel
theorem dX4_isDeep_45 : decode cX4_isDeep 45 = .ok (.aload_n 0, 1) := by decide +kernel
theorem dX4_isDeep_46 : decode cX4_isDeep 46 = .ok (.getfield 23, 3) := by decide +kernel
theorem dX4_isDeep_49 : decode cX4_isDeep 49 = .ok (.iload_n 2, 1) := by decide +kernel
theorem dX4_isDeep_50 : decode cX4_isDeep 50 = .ok (.iaload, 1) := by decide +kernel
theorem dX4_isDeep_51 : decode cX4_isDeep 51 = .ok (.aload_n 0, 1) := by decide +kernel
theorem dX4_isDeep_52 : decode cX4_isDeep 52 = .ok (.getfield 32, 3) := by decide +kernel
theorem dX4_isDeep_55 : decode cX4_isDeep 55 = .ok (.iload_n 1, 1) := by decide +kernel
theorem dX4_isDeep_56 : decode cX4_isDeep 56 = .ok (.iaload, 1) := by decide +kernel
theorem dX4_isDeep_57 : decode cX4_isDeep 57 = .ok (.iadd, 1) := by decide +kernel
theorem dX4_isDeep_58 : decode cX4_isDeep 58 = .ok (.if_icmp .ge 5, 3) := by decide +kernel
theorem dX4_isDeep_61 : decode cX4_isDeep 61 = .ok (.iconst 0, 1) := by decide +kernel
theorem dX4_isDeep_62 : decode cX4_isDeep 62 = .ok (.ireturn, 1) := by decide +kernel
theorem dX4_isDeep_63 : decode cX4_isDeep 63 = .ok (.iinc 4 1, 3) := by decide +kernel
theorem dX4_isDeep_66 : decode cX4_isDeep 66 = .ok (.goto (-59), 3) := by decide +kernel
theorem dX4_isDeep_69 : decode cX4_isDeep 69 = .ok (.iload_n 3, 1) := by decide +kernel
theorem dX4_isDeep_70 : decode cX4_isDeep 70 = .ok (.ireturn, 1) := by decide +kernel
set_option maxRecDepth 20000 in
theorem ggX4_stems_X4_isDeep : GoodIn wsX4_stems wsX4_isDeep := goodIn_r _ [7, 1, 8, 9, 10, 11, 12, 6, 13, 14, 15, 16, 17, 18, 2, 19, 20, 21, 22, 23, 24, 25, 26, 27, 28, 29, 30, 31, 32, 33, 34, 35] (by decide +kernel) (by decide +kernel)
set_option maxRecDepth 20000 in
theorem gX4_stems_X4_isDeep : GoodIn wsX4_stems (wsV RX4 68 RX4 yX4_isDeep wsX4_isDeep) := goodIn_app (goodIn_of _ (by decide +kernel)) ggX4_stems_X4_isDeep
theorem dX4_stems_0 : decode cX4_stems 0 = .ok (.iconst 0, 1) := by decide +kernel
theorem dX4_stems_1 : decode cX4_stems 1 = .ok (.istore_n 2, 1) := by decide +kernel
theorem dX4_stems_2 : decode cX4_stems 2 = .ok (.iconst 0, 1) := by decide +kernel
theorem dX4_stems_3 : decode cX4_stems 3 = .ok (.istore_n 3, 1) := by decide +kernel
theorem dX4_stems_4 : decode cX4_stems 4 = .ok (.iload_n 3, 1) := by decide +kernel
theorem dX4_stems_5 : decode cX4_stems 5 = .ok (.aload_n 0, 1) := by decide +kernel
theorem dX4_stems_6 : decode cX4_stems 6 = .ok (.getfield 52, 3) := by decide +kernel
theorem dX4_stems_9 : decode cX4_stems 9 = .ok (.if_icmp .ge 49, 3) := by decide +kernel
theorem dX4_stems_12 : decode cX4_stems 12 = .ok (.aload_n 0, 1) := by decide +kernel
theorem dX4_stems_13 : decode cX4_stems 13 = .ok (.getfield 29, 3) := by decide +kernel
theorem dX4_stems_16 : decode cX4_stems 16 = .ok (.sipush 150, 3) := by decide +kernel
theorem dX4_stems_19 : decode cX4_stems 19 = .ok (.iload_n 1, 1) := by decide +kernel
theorem dX4_stems_20 : decode cX4_stems 20 = .ok (.imul, 1) := by decide +kernel
theorem dX4_stems_21 : decode cX4_stems 21 = .ok (.iload_n 3, 1) := by decide +kernel
theorem dX4_stems_22 : decode cX4_stems 22 = .ok (.iadd, 1) := by decide +kernel
theorem dX4_stems_23 : decode cX4_stems 23 = .ok (.baload, 1) := by decide +kernel
theorem dX4_stems_24 : decode cX4_stems 24 = .ok (.ifCond .eq 28, 3) := by decide +kernel
theorem dX4_stems_27 : decode cX4_stems 27 = .ok (.aload_n 0, 1) := by decide +kernel
theorem dX4_stems_28 : decode cX4_stems 28 = .ok (.iload_n 1, 1) := by decide +kernel
theorem dX4_stems_29 : decode cX4_stems 29 = .ok (.iload_n 3, 1) := by decide +kernel
theorem dX4_stems_30 : decode cX4_stems 30 = .ok (.invokevirtual 68, 3) := by decide +kernel
theorem dX4_stems_33 : decode cX4_stems 33 = .ok (.ifCond .eq 19, 3) := by decide +kernel
theorem dX4_stems_36 : decode cX4_stems 36 = .ok (.aload_n 0, 1) := by decide +kernel
theorem dX4_stems_37 : decode cX4_stems 37 = .ok (.getfield 29, 3) := by decide +kernel
theorem dX4_stems_40 : decode cX4_stems 40 = .ok (.sipush 150, 3) := by decide +kernel
theorem dX4_stems_43 : decode cX4_stems 43 = .ok (.iload_n 1, 1) := by decide +kernel
theorem dX4_stems_44 : decode cX4_stems 44 = .ok (.imul, 1) := by decide +kernel
theorem dX4_stems_45 : decode cX4_stems 45 = .ok (.iload_n 3, 1) := by decide +kernel
theorem dX4_stems_46 : decode cX4_stems 46 = .ok (.iadd, 1) := by decide +kernel
theorem dX4_stems_47 : decode cX4_stems 47 = .ok (.iconst 0, 1) := by decide +kernel
theorem dX4_stems_48 : decode cX4_stems 48 = .ok (.bastore, 1) := by decide +kernel
theorem dX4_stems_49 : decode cX4_stems 49 = .ok (.iinc 2 1, 3) := by decide +kernel
theorem dX4_stems_52 : decode cX4_stems 52 = .ok (.iinc 3 1, 3) := by decide +kernel
theorem dX4_stems_55 : decode cX4_stems 55 = .ok (.goto (-51), 3) := by decide +kernel
theorem dX4_stems_58 : decode cX4_stems 58 = .ok (.iload_n 2, 1) := by decide +kernel
theorem dX4_stems_59 : decode cX4_stems 59 = .ok (.ireturn, 1) := by decide +kernel
theorem dX4_touches_0 : decode cX4_touches 0 = .ok (.aload_n 0, 1) := by decide +kernel
theorem dX4_touches_1 : decode cX4_touches 1 = .ok (.getfield 35, 3) := by decide +kernel
theorem dX4_touches_4 : decode cX4_touches 4 = .ok (.iload_n 1, 1) := by decide +kernel
theorem dX4_touches_5 : decode cX4_touches 5 = .ok (.dup2, 1) := by decide +kernel
theorem dX4_touches_6 : decode cX4_touches 6 = .ok (.iaload, 1) := by decide +kernel
theorem dX4_touches_7 : decode cX4_touches 7 = .ok (.iconst 1, 1) := by decide +kernel
theorem dX4_touches_8 : decode cX4_touches 8 = .ok (.iadd, 1) := by decide +kernel
theorem dX4_touches_9 : decode cX4_touches 9 = .ok (.iastore, 1) := by decide +kernel
theorem dX4_touches_10 : decode cX4_touches 10 = .ok (.aload_n 0, 1) := by decide +kernel
theorem dX4_touches_11 : decode cX4_touches 11 = .ok (.getfield 38, 3) := by decide +kernel
theorem dX4_touches_14 : decode cX4_touches 14 = .ok (.iconst 4, 1) := by decide +kernel
theorem dX4_touches_15 : decode cX4_touches 15 = .ok (.iload_n 1, 1) := by decide +kernel
theorem dX4_touches_16 : decode cX4_touches 16 = .ok (.imul, 1) := by decide +kernel
theorem dX4_touches_17 : decode cX4_touches 17 = .ok (.iload_n 2, 1) := by decide +kernel
theorem dX4_touches_18 : decode cX4_touches 18 = .ok (.iadd, 1) := by decide +kernel
theorem dX4_touches_19 : decode cX4_touches 19 = .ok (.aload_n 0, 1) := by decide +kernel
theorem dX4_touches_20 : decode cX4_touches 20 = .ok (.getfield 35, 3) := by decide +kernel
theorem dX4_touches_23 : decode cX4_touches 23 = .ok (.iload_n 1, 1) := by decide +kernel
theorem dX4_touches_24 : decode cX4_touches 24 = .ok (.iaload, 1) := by decide +kernel
theorem dX4_touches_25 : decode cX4_touches 25 = .ok (.iastore, 1) := by decide +kernel
theorem dX4_touches_26 : decode cX4_touches 26 = .ok (.return_, 1) := by decide +kernel
theorem dX4_makes_0 : decode cX4_makes 0 = .ok (.iconst 0, 1) := by decide +kernel
theorem dX4_makes_1 : decode cX4_makes 1 = .ok (.istore 5, 2) := by decide +kernel
theorem dX4_makes_3 : decode cX4_makes 3 = .ok (.iload 5, 2) := by decide +kernel
theorem dX4_makes_5 : decode cX4_makes 5 = .ok (.aload_n 0, 1) := by decide +kernel
theorem dX4_makes_6 : decode cX4_makes 6 = .ok (.getfield 52, 3) := by decide +kernel
theorem dX4_makes_9 : decode cX4_makes 9 = .ok (.if_icmp .ge 57, 3) := by decide +kernel
theorem dX4_makes_12 : decode cX4_makes 12 = .ok (.aload_n 0, 1) := by decide +kernel
theorem dX4_makes_13 : decode cX4_makes 13 = .ok (.getfield 7, 3) := by decide +kernel
theorem dX4_makes_16 : decode cX4_makes 16 = .ok (.iload 5, 2) := by decide +kernel
theorem dX4_makes_18 : decode cX4_makes 18 = .ok (.iaload, 1) := by decide +kernel
theorem dX4_makes_19 : decode cX4_makes 19 = .ok (.iload_n 1, 1) := by decide +kernel
theorem dX4_makes_20 : decode cX4_makes 20 = .ok (.if_icmp .ne 40, 3) := by decide +kernel
theorem dX4_makes_23 : decode cX4_makes 23 = .ok (.aload_n 0, 1) := by decide +kernel
theorem dX4_makes_24 : decode cX4_makes 24 = .ok (.getfield 13, 3) := by decide +kernel
theorem dX4_makes_27 : decode cX4_makes 27 = .ok (.iload 5, 2) := by decide +kernel
theorem dX4_makes_29 : decode cX4_makes 29 = .ok (.iaload, 1) := by decide +kernel
theorem dX4_makes_30 : decode cX4_makes 30 = .ok (.iload_n 2, 1) := by decide +kernel
theorem dX4_makes_31 : decode cX4_makes 31 = .ok (.if_icmp .ne 29, 3) := by decide +kernel
theorem dX4_makes_34 : decode cX4_makes 34 = .ok (.aload_n 0, 1) := by decide +kernel
theorem dX4_makes_35 : decode cX4_makes 35 = .ok (.getfield 16, 3) := by decide +kernel
theorem dX4_makes_38 : decode cX4_makes 38 = .ok (.iload 5, 2) := by decide +kernel
theorem dX4_makes_40 : decode cX4_makes 40 = .ok (.iaload, 1) := by decide +kernel
theorem dX4_makes_41 : decode cX4_makes 41 = .ok (.iload_n 3, 1) := by decide +kernel
theorem dX4_makes_42 : decode cX4_makes 42 = .ok (.if_icmp .ne 18, 3) := by decide +kernel
theorem dX4_makes_45 : decode cX4_makes 45 = .ok (.aload_n 0, 1) := by decide +kernel
theorem dX4_makes_46 : decode cX4_makes 46 = .ok (.getfield 19, 3) := by decide +kernel
theorem dX4_makes_49 : decode cX4_makes 49 = .ok (.iload 5, 2) := by decide +kernel
theorem dX4_makes_51 : decode cX4_makes 51 = .ok (.baload, 1) := by decide +kernel
theorem dX4_makes_52 : decode cX4_makes 52 = .ok (.iload 4, 2) := by decide +kernel
theorem dX4_makes_54 : decode cX4_makes 54 = .ok (.if_icmp .ne 6, 3) := by decide +kernel
theorem dX4_makes_57 : decode cX4_makes 57 = .ok (.iload 5, 2) := by decide +kernel
theorem dX4_makes_59 : decode cX4_makes 59 = .ok (.ireturn, 1) := by decide +kernel
theorem dX4_makes_60 : decode cX4_makes 60 = .ok (.iinc 5 1, 3) := by decide +kernel
theorem dX4_makes_63 : decode cX4_makes 63 = .ok (.goto (-60), 3) := by decide +kernel
theorem dX4_makes_66 : decode cX4_makes 66 = .ok (.iload_n 2, 1) := by decide +kernel
theorem dX4_makes_67 : decode cX4_makes 67 = .ok (.iconst (-1), 1) := by decide +kernel
theorem dX4_makes_68 : decode cX4_makes 68 = .ok (.if_icmp .ne 7, 3) := by decide +kernel
theorem dX4_makes_71 : decode cX4_makes 71 = .ok (.iconst 1, 1) := by decide +kernel
theorem dX4_makes_72 : decode cX4_makes 72 = .ok (.goto 11, 3) := by decide +kernel
theorem dX4_makes_75 : decode cX4_makes 75 = .ok (.aload_n 0, 1) := by decide +kernel
theorem dX4_makes_76 : decode cX4_makes 76 = .ok (.getfield 23, 3) := by decide +kernel
theorem dX4_makes_79 : decode cX4_makes 79 = .ok (.iload_n 2, 1) := by decide +kernel
theorem dX4_makes_80 : decode cX4_makes 80 = .ok (.iaload, 1) := by decide +kernel
theorem dX4_makes_81 : decode cX4_makes 81 = .ok (.iconst 1, 1) := by decide +kernel
theorem dX4_makes_82 : decode cX4_makes 82 = .ok (.iadd, 1) := by decide +kernel
theorem dX4_makes_83 : decode cX4_makes 83 = .ok (.istore 5, 2) := by decide +kernel
theorem dX4_makes_85 : decode cX4_makes 85 = .ok (.iload_n 2, 1) := by decide +kernel
theorem dX4_makes_86 : decode cX4_makes 86 = .ok (.iconst (-1), 1) := by decide +kernel
theorem dX4_makes_87 : decode cX4_makes 87 = .ok (.if_icmp .ne 8, 3) := by decide +kernel
theorem dX4_makes_90 : decode cX4_makes 90 = .ok (.bipush 31, 2) := by decide +kernel
theorem dX4_makes_92 : decode cX4_makes 92 = .ok (.goto 12, 3) := by decide +kernel
theorem dX4_makes_95 : decode cX4_makes 95 = .ok (.bipush 31, 2) := by decide +kernel
theorem dX4_makes_97 : decode cX4_makes 97 = .ok (.aload_n 0, 1) := by decide +kernel
theorem dX4_makes_98 : decode cX4_makes 98 = .ok (.getfield 26, 3) := by decide +kernel
theorem dX4_makes_101 : decode cX4_makes 101 = .ok (.iload_n 2, 1) := by decide +kernel
theorem dX4_makes_102 : decode cX4_makes 102 = .ok (.iaload, 1) := by decide +kernel
theorem dX4_makes_103 : decode cX4_makes 103 = .ok (.imul, 1) := by decide +kernel
theorem dX4_makes_104 : decode cX4_makes 104 = .ok (.istore 6, 2) := by decide +kernel
theorem dX4_makes_106 : decode cX4_makes 106 = .ok (.aload_n 0, 1) := by decide +kernel
theorem dX4_makes_107 : decode cX4_makes 107 = .ok (.getfield 7, 3) := by decide +kernel
theorem dX4_makes_110 : decode cX4_makes 110 = .ok (.aload_n 0, 1) := by decide +kernel
theorem dX4_makes_111 : decode cX4_makes 111 = .ok (.getfield 52, 3) := by decide +kernel
theorem dX4_makes_114 : decode cX4_makes 114 = .ok (.iload_n 1, 1) := by decide +kernel
theorem dX4_makes_115 : decode cX4_makes 115 = .ok (.iastore, 1) := by decide +kernel
theorem dX4_makes_116 : decode cX4_makes 116 = .ok (.aload_n 0, 1) := by decide +kernel
theorem dX4_makes_117 : decode cX4_makes 117 = .ok (.getfield 13, 3) := by decide +kernel
theorem dX4_makes_120 : decode cX4_makes 120 = .ok (.aload_n 0, 1) := by decide +kernel
theorem dX4_makes_121 : decode cX4_makes 121 = .ok (.getfield 52, 3) := by decide +kernel
theorem dX4_makes_124 : decode cX4_makes 124 = .ok (.iload_n 2, 1) := by decide +kernel
theorem dX4_makes_125 : decode cX4_makes 125 = .ok (.iastore, 1) := by decide +kernel
theorem dX4_makes_126 : decode cX4_makes 126 = .ok (.aload_n 0, 1) := by decide +kernel
theorem dX4_makes_127 : decode cX4_makes 127 = .ok (.getfield 16, 3) := by decide +kernel
theorem dX4_makes_130 : decode cX4_makes 130 = .ok (.aload_n 0, 1) := by decide +kernel
theorem dX4_makes_131 : decode cX4_makes 131 = .ok (.getfield 52, 3) := by decide +kernel
theorem dX4_makes_134 : decode cX4_makes 134 = .ok (.iload_n 3, 1) := by decide +kernel
theorem dX4_makes_135 : decode cX4_makes 135 = .ok (.iastore, 1) := by decide +kernel
theorem dX4_makes_136 : decode cX4_makes 136 = .ok (.aload_n 0, 1) := by decide +kernel
theorem dX4_makes_137 : decode cX4_makes 137 = .ok (.getfield 19, 3) := by decide +kernel
theorem dX4_makes_140 : decode cX4_makes 140 = .ok (.aload_n 0, 1) := by decide +kernel
theorem dX4_makes_141 : decode cX4_makes 141 = .ok (.getfield 52, 3) := by decide +kernel
theorem dX4_makes_144 : decode cX4_makes 144 = .ok (.iload 4, 2) := by decide +kernel
theorem dX4_makes_146 : decode cX4_makes 146 = .ok (.bastore, 1) := by decide +kernel
theorem dX4_makes_147 : decode cX4_makes 147 = .ok (.aload_n 0, 1) := by decide +kernel
theorem dX4_makes_148 : decode cX4_makes 148 = .ok (.getfield 23, 3) := by decide +kernel
theorem dX4_makes_151 : decode cX4_makes 151 = .ok (.aload_n 0, 1) := by decide +kernel
theorem dX4_makes_152 : decode cX4_makes 152 = .ok (.getfield 52, 3) := by decide +kernel
theorem dX4_makes_155 : decode cX4_makes 155 = .ok (.iload 5, 2) := by decide +kernel
theorem dX4_makes_157 : decode cX4_makes 157 = .ok (.iastore, 1) := by decide +kernel
theorem dX4_makes_158 : decode cX4_makes 158 = .ok (.aload_n 0, 1) := by decide +kernel
theorem dX4_makes_159 : decode cX4_makes 159 = .ok (.getfield 26, 3) := by decide +kernel
theorem dX4_makes_162 : decode cX4_makes 162 = .ok (.aload_n 0, 1) := by decide +kernel
theorem dX4_makes_163 : decode cX4_makes 163 = .ok (.getfield 52, 3) := by decide +kernel
theorem dX4_makes_166 : decode cX4_makes 166 = .ok (.iload 6, 2) := by decide +kernel
theorem dX4_makes_168 : decode cX4_makes 168 = .ok (.bipush 7, 2) := by decide +kernel
theorem dX4_makes_170 : decode cX4_makes 170 = .ok (.iload_n 3, 1) := by decide +kernel
theorem dX4_makes_171 : decode cX4_makes 171 = .ok (.imul, 1) := by decide +kernel
theorem dX4_makes_172 : decode cX4_makes 172 = .ok (.iadd, 1) := by decide +kernel
theorem dX4_makes_173 : decode cX4_makes 173 = .ok (.iload 5, 2) := by decide +kernel
theorem dX4_makes_175 : decode cX4_makes 175 = .ok (.iadd, 1) := by decide +kernel
theorem dX4_makes_176 : decode cX4_makes 176 = .ok (.iload 4, 2) := by decide +kernel
theorem dX4_makes_178 : decode cX4_makes 178 = .ok (.ifCond .eq 7, 3) := by decide +kernel
theorem dX4_makes_181 : decode cX4_makes 181 = .ok (.iconst 3, 1) := by decide +kernel
theorem dX4_makes_182 : decode cX4_makes 182 = .ok (.goto 4, 3) := by decide +kernel
theorem dX4_makes_185 : decode cX4_makes 185 = .ok (.iconst 0, 1) := by decide +kernel
theorem dX4_makes_186 : decode cX4_makes 186 = .ok (.iadd, 1) := by decide +kernel
theorem dX4_makes_187 : decode cX4_makes 187 = .ok (.sipush 997, 3) := by decide +kernel
theorem dX4_makes_190 : decode cX4_makes 190 = .ok (.irem, 1) := by decide +kernel
theorem dX4_makes_191 : decode cX4_makes 191 = .ok (.iastore, 1) := by decide +kernel
theorem dX4_makes_192 : decode cX4_makes 192 = .ok (.aload_n 0, 1) := by decide +kernel
theorem dX4_makes_193 : decode cX4_makes 193 = .ok (.dup, 1) := by decide +kernel
theorem dX4_makes_194 : decode cX4_makes 194 = .ok (.getfield 52, 3) := by decide +kernel
theorem dX4_makes_197 : decode cX4_makes 197 = .ok (.iconst 1, 1) := by decide +kernel
theorem dX4_makes_198 : decode cX4_makes 198 = .ok (.iadd, 1) := by decide +kernel
theorem dX4_makes_199 : decode cX4_makes 199 = .ok (.putfield 52, 3) := by decide +kernel
theorem dX4_makes_202 : decode cX4_makes 202 = .ok (.aload_n 0, 1) := by decide +kernel
theorem dX4_makes_203 : decode cX4_makes 203 = .ok (.getfield 52, 3) := by decide +kernel
theorem dX4_makes_206 : decode cX4_makes 206 = .ok (.iconst 1, 1) := by decide +kernel
theorem dX4_makes_207 : decode cX4_makes 207 = .ok (.isub, 1) := by decide +kernel
theorem dX4_makes_208 : decode cX4_makes 208 = .ok (.ireturn, 1) := by decide +kernel
set_option maxRecDepth 20000 in
theorem ggX4_adds_X4_makes : GoodIn wsX4_adds wsX4_makes := goodIn_r _ [6, 7, 8, 9, 10, 11, 12, 13, 41, 42, 43, 44, 45, 46, 47, 48, 49, 50, 51, 52, 53] (by decide +kernel) (by decide +kernel)
set_option maxRecDepth 20000 in
theorem gX4_adds_X4_makes : GoodIn wsX4_adds (wsV RX4 71 RX4 yX4_makes wsX4_makes) := goodIn_app (goodIn_of _ (by decide +kernel)) ggX4_adds_X4_makes
set_option maxRecDepth 20000 in
theorem ggX4_adds_X4_touches : GoodIn wsX4_adds wsX4_touches := goodIn_r _ [17, 18, 19, 41, 42, 43, 44, 45, 46, 47, 48, 49, 50, 51, 52, 53] (by decide +kernel) (by decide +kernel)
set_option maxRecDepth 20000 in
theorem gX4_adds_X4_touches : GoodIn wsX4_adds (wsV RX4 75 RX4 yX4_touches wsX4_touches) := goodIn_app (goodIn_of _ (by decide +kernel)) ggX4_adds_X4_touches
set_option maxRecDepth 20000 in
theorem ggX4_adds_X4_stems : GoodIn wsX4_adds wsX4_stems := goodIn_r _ [23, 7, 1, 24, 25, 26, 5, 27, 12, 28, 29, 30, 31, 32, 9, 33, 34, 35, 36, 37, 38, 39, 40, 41, 42, 43, 44, 45, 46, 47, 48, 49, 50, 51, 52, 53] (by decide +kernel) (by decide +kernel)
set_option maxRecDepth 20000 in
theorem gX4_adds_X4_stems : GoodIn wsX4_adds (wsV RX4 79 RX4 yX4_stems wsX4_stems) := goodIn_app (goodIn_of _ (by decide +kernel)) ggX4_adds_X4_stems
theorem dX4_adds_0 : decode cX4_adds 0 = .ok (.aload_n 0, 1) := by decide +kernel
theorem dX4_adds_1 : decode cX4_adds 1 = .ok (.iload_n 2, 1) := by decide +kernel
theorem dX4_adds_2 : decode cX4_adds 2 = .ok (.iload_n 3, 1) := by decide +kernel
theorem dX4_adds_3 : decode cX4_adds 3 = .ok (.iload 4, 2) := by decide +kernel
theorem dX4_adds_5 : decode cX4_adds 5 = .ok (.iload 5, 2) := by decide +kernel
theorem dX4_adds_7 : decode cX4_adds 7 = .ok (.invokevirtual 71, 3) := by decide +kernel
theorem dX4_adds_10 : decode cX4_adds 10 = .ok (.istore 6, 2) := by decide +kernel
theorem dX4_adds_12 : decode cX4_adds 12 = .ok (.aload_n 0, 1) := by decide +kernel
theorem dX4_adds_13 : decode cX4_adds 13 = .ok (.getfield 29, 3) := by decide +kernel
theorem dX4_adds_16 : decode cX4_adds 16 = .ok (.sipush 150, 3) := by decide +kernel
theorem dX4_adds_19 : decode cX4_adds 19 = .ok (.iload_n 1, 1) := by decide +kernel
theorem dX4_adds_20 : decode cX4_adds 20 = .ok (.imul, 1) := by decide +kernel
theorem dX4_adds_21 : decode cX4_adds 21 = .ok (.iload 6, 2) := by decide +kernel
theorem dX4_adds_23 : decode cX4_adds 23 = .ok (.iadd, 1) := by decide +kernel
theorem dX4_adds_24 : decode cX4_adds 24 = .ok (.baload, 1) := by decide +kernel
theorem dX4_adds_25 : decode cX4_adds 25 = .ok (.ifCond .ne 29, 3) := by decide +kernel
theorem dX4_adds_28 : decode cX4_adds 28 = .ok (.aload_n 0, 1) := by decide +kernel
theorem dX4_adds_29 : decode cX4_adds 29 = .ok (.getfield 29, 3) := by decide +kernel
theorem dX4_adds_32 : decode cX4_adds 32 = .ok (.sipush 150, 3) := by decide +kernel
theorem dX4_adds_35 : decode cX4_adds 35 = .ok (.iload_n 1, 1) := by decide +kernel
theorem dX4_adds_36 : decode cX4_adds 36 = .ok (.imul, 1) := by decide +kernel
theorem dX4_adds_37 : decode cX4_adds 37 = .ok (.iload 6, 2) := by decide +kernel
theorem dX4_adds_39 : decode cX4_adds 39 = .ok (.iadd, 1) := by decide +kernel
theorem dX4_adds_40 : decode cX4_adds 40 = .ok (.iconst 1, 1) := by decide +kernel
theorem dX4_adds_41 : decode cX4_adds 41 = .ok (.bastore, 1) := by decide +kernel
theorem dX4_adds_42 : decode cX4_adds 42 = .ok (.aload_n 0, 1) := by decide +kernel
theorem dX4_adds_43 : decode cX4_adds 43 = .ok (.iload_n 1, 1) := by decide +kernel
theorem dX4_adds_44 : decode cX4_adds 44 = .ok (.iload_n 2, 1) := by decide +kernel
theorem dX4_adds_45 : decode cX4_adds 45 = .ok (.invokevirtual 75, 3) := by decide +kernel
theorem dX4_adds_48 : decode cX4_adds 48 = .ok (.aload_n 0, 1) := by decide +kernel
theorem dX4_adds_49 : decode cX4_adds 49 = .ok (.iload_n 1, 1) := by decide +kernel
theorem dX4_adds_50 : decode cX4_adds 50 = .ok (.invokevirtual 79, 3) := by decide +kernel
theorem dX4_adds_53 : decode cX4_adds 53 = .ok (.pop, 1) := by decide +kernel
theorem dX4_adds_54 : decode cX4_adds 54 = .ok (.iload 6, 2) := by decide +kernel
theorem dX4_adds_56 : decode cX4_adds 56 = .ok (.ireturn, 1) := by decide +kernel
set_option maxRecDepth 20000 in
theorem ggX4_canEdit_X4_best : GoodIn wsX4_canEdit wsX4_best := goodIn_r _ [7, 2, 1, 8, 9, 10, 6, 11, 12, 13, 14, 15, 16, 17, 18, 19, 20, 21, 22, 23, 24, 25, 26, 27, 28, 29, 30, 31, 32, 33, 34, 35, 36, 37, 38, 39, 40, 41] (by decide +kernel) (by decide +kernel)
set_option maxRecDepth 20000 in
theorem gX4_canEdit_X4_best : GoodIn wsX4_canEdit (wsV RX4 83 RX4 yX4_best wsX4_best) := goodIn_app (goodIn_of _ (by decide +kernel)) ggX4_canEdit_X4_best
set_option maxRecDepth 20000 in
theorem ggX4_canEdit_X4_leaf : GoodIn wsX4_canEdit wsX4_leaf := goodIn_r _ [11, 12, 13, 14, 15, 6, 16, 2, 17, 18, 19, 20, 21, 29, 30, 31, 32, 33, 34, 35, 36, 37, 38, 39, 40, 41] (by decide +kernel) (by decide +kernel)
set_option maxRecDepth 20000 in
theorem gX4_canEdit_X4_leaf : GoodIn wsX4_canEdit (wsV RX4 62 RX4 yX4_leaf wsX4_leaf) := goodIn_app (goodIn_of _ (by decide +kernel)) ggX4_canEdit_X4_leaf
theorem dX4_canEdit_0 : decode cX4_canEdit 0 = .ok (.iload_n 3, 1) := by decide +kernel
theorem dX4_canEdit_1 : decode cX4_canEdit 1 = .ok (.iconst (-1), 1) := by decide +kernel
theorem dX4_canEdit_2 : decode cX4_canEdit 2 = .ok (.if_icmp .ne 21, 3) := by decide +kernel
theorem dX4_canEdit_5 : decode cX4_canEdit 5 = .ok (.aload_n 0, 1) := by decide +kernel
theorem dX4_canEdit_6 : decode cX4_canEdit 6 = .ok (.iload_n 1, 1) := by decide +kernel
theorem dX4_canEdit_7 : decode cX4_canEdit 7 = .ok (.iload_n 2, 1) := by decide +kernel
theorem dX4_canEdit_8 : decode cX4_canEdit 8 = .ok (.invokevirtual 83, 3) := by decide +kernel
theorem dX4_canEdit_11 : decode cX4_canEdit 11 = .ok (.iconst (-1), 1) := by decide +kernel
theorem dX4_canEdit_12 : decode cX4_canEdit 12 = .ok (.if_icmp .ne 7, 3) := by decide +kernel
theorem dX4_canEdit_15 : decode cX4_canEdit 15 = .ok (.iconst 1, 1) := by decide +kernel
theorem dX4_canEdit_16 : decode cX4_canEdit 16 = .ok (.goto 31, 3) := by decide +kernel
theorem dX4_canEdit_19 : decode cX4_canEdit 19 = .ok (.iconst 0, 1) := by decide +kernel
theorem dX4_canEdit_20 : decode cX4_canEdit 20 = .ok (.goto 27, 3) := by decide +kernel
theorem dX4_canEdit_23 : decode cX4_canEdit 23 = .ok (.aload_n 0, 1) := by decide +kernel
theorem dX4_canEdit_24 : decode cX4_canEdit 24 = .ok (.getfield 7, 3) := by decide +kernel
theorem dX4_canEdit_27 : decode cX4_canEdit 27 = .ok (.iload_n 3, 1) := by decide +kernel
theorem dX4_canEdit_28 : decode cX4_canEdit 28 = .ok (.iaload, 1) := by decide +kernel
theorem dX4_canEdit_29 : decode cX4_canEdit 29 = .ok (.iload_n 2, 1) := by decide +kernel
theorem dX4_canEdit_30 : decode cX4_canEdit 30 = .ok (.if_icmp .ne 16, 3) := by decide +kernel
theorem dX4_canEdit_33 : decode cX4_canEdit 33 = .ok (.aload_n 0, 1) := by decide +kernel
theorem dX4_canEdit_34 : decode cX4_canEdit 34 = .ok (.iload_n 1, 1) := by decide +kernel
theorem dX4_canEdit_35 : decode cX4_canEdit 35 = .ok (.iload_n 3, 1) := by decide +kernel
theorem dX4_canEdit_36 : decode cX4_canEdit 36 = .ok (.invokevirtual 62, 3) := by decide +kernel
theorem dX4_canEdit_39 : decode cX4_canEdit 39 = .ok (.ifCond .eq 7, 3) := by decide +kernel
theorem dX4_canEdit_42 : decode cX4_canEdit 42 = .ok (.iconst 1, 1) := by decide +kernel
theorem dX4_canEdit_43 : decode cX4_canEdit 43 = .ok (.goto 4, 3) := by decide +kernel
theorem dX4_canEdit_46 : decode cX4_canEdit 46 = .ok (.iconst 0, 1) := by decide +kernel
theorem dX4_canEdit_47 : decode cX4_canEdit 47 = .ok (.istore 4, 2) := by decide +kernel
theorem dX4_canEdit_49 : decode cX4_canEdit 49 = .ok (.iload 4, 2) := by decide +kernel
theorem dX4_canEdit_51 : decode cX4_canEdit 51 = .ok (.ifCond .eq 17, 3) := by decide +kernel
theorem dX4_canEdit_54 : decode cX4_canEdit 54 = .ok (.aload_n 0, 1) := by decide +kernel
theorem dX4_canEdit_55 : decode cX4_canEdit 55 = .ok (.getfield 52, 3) := by decide +kernel
theorem dX4_canEdit_58 : decode cX4_canEdit 58 = .ok (.sipush 150, 3) := by decide +kernel
theorem dX4_canEdit_61 : decode cX4_canEdit 61 = .ok (.if_icmp .ge 7, 3) := by decide +kernel
theorem dX4_canEdit_64 : decode cX4_canEdit 64 = .ok (.iconst 1, 1) := by decide +kernel
theorem dX4_canEdit_65 : decode cX4_canEdit 65 = .ok (.goto 4, 3) := by decide +kernel
theorem dX4_canEdit_68 : decode cX4_canEdit 68 = .ok (.iconst 0, 1) := by decide +kernel
theorem dX4_canEdit_69 : decode cX4_canEdit 69 = .ok (.ireturn, 1) := by decide +kernel
set_option maxRecDepth 20000 in
theorem ggX4_edit_X4_isStore : GoodIn wsX4_edit wsX4_isStore := goodIn_r _ [4, 5, 6, 3, 7] (by decide +kernel) (by decide +kernel)
set_option maxRecDepth 20000 in
theorem gX4_edit_X4_isStore : GoodIn wsX4_edit (va_wsS RX4 87 yX4_isStore wsX4_isStore) := goodIn_app (goodIn_of _ (by decide +kernel)) ggX4_edit_X4_isStore
set_option maxRecDepth 20000 in
theorem ggX4_edit_X4_isDocument : GoodIn wsX4_edit wsX4_isDocument := goodIn_r _ [10, 5, 6, 3, 7] (by decide +kernel) (by decide +kernel)
set_option maxRecDepth 20000 in
theorem gX4_edit_X4_isDocument : GoodIn wsX4_edit (va_wsS RX4 91 yX4_isDocument wsX4_isDocument) := goodIn_app (goodIn_of _ (by decide +kernel)) ggX4_edit_X4_isDocument
set_option maxRecDepth 20000 in
theorem ggX4_edit_X4_isRevision : GoodIn wsX4_edit wsX4_isRevision := goodIn_r _ [14, 15, 5, 6, 3, 7, 75, 76, 77, 78, 79, 80, 81, 82, 83, 84, 85, 86, 87] (by decide +kernel) (by decide +kernel)
set_option maxRecDepth 20000 in
theorem gX4_edit_X4_isRevision : GoodIn wsX4_edit (wsV RX4 94 RX4 yX4_isRevision wsX4_isRevision) := goodIn_app (goodIn_of _ (by decide +kernel)) ggX4_edit_X4_isRevision
set_option maxRecDepth 20000 in
theorem ggX4_edit_X4_in : GoodIn wsX4_edit wsX4_in := goodIn_r _ [7] (by decide +kernel) (by decide +kernel)
set_option maxRecDepth 20000 in
theorem gX4_edit_X4_in : GoodIn wsX4_edit (va_wsS RX4 48 yX4_in wsX4_in) := goodIn_app (goodIn_of _ (by decide +kernel)) ggX4_edit_X4_in
set_option maxRecDepth 20000 in
theorem ggX4_edit_X4_canEdit : GoodIn wsX4_edit wsX4_canEdit := goodIn_r _ [19, 20, 15, 21, 22, 23, 3, 24, 25, 26, 27, 28, 29, 30, 31, 32, 33, 34, 35, 36, 37, 38, 39, 40, 41, 42, 43, 44, 45, 75, 76, 77, 78, 79, 80, 81, 82, 83, 84, 85, 86, 87] (by decide +kernel) (by decide +kernel)
set_option maxRecDepth 20000 in
theorem gX4_edit_X4_canEdit : GoodIn wsX4_edit (wsV RX4 97 RX4 yX4_canEdit wsX4_canEdit) := goodIn_app (goodIn_of _ (by decide +kernel)) ggX4_edit_X4_canEdit
set_option maxRecDepth 20000 in
theorem ggX4_edit_X4_goes : GoodIn wsX4_edit wsX4_goes := goodIn_r _ [49, 50, 75, 76, 77, 78, 79, 80, 81, 82, 83, 84, 85, 86, 87] (by decide +kernel) (by decide +kernel)
set_option maxRecDepth 20000 in
theorem gX4_edit_X4_goes : GoodIn wsX4_edit (wsV RX4 100 RX4 yX4_goes wsX4_goes) := goodIn_app (goodIn_of _ (by decide +kernel)) ggX4_edit_X4_goes
set_option maxRecDepth 20000 in
theorem ggX4_edit_X4_adds : GoodIn wsX4_edit wsX4_adds := goodIn_r _ [54, 29, 55, 56, 57, 3, 58, 15, 20, 38, 59, 43, 44, 45, 60, 61, 62, 63, 64, 65, 66, 67, 68, 69, 70, 71, 72, 73, 74, 34, 35, 36, 37, 25, 26, 27, 28, 30, 31, 32, 33, 75, 76, 77, 78, 79, 80, 81, 82, 83, 84, 85, 86, 87] (by decide +kernel) (by decide +kernel)
set_option maxRecDepth 20000 in
theorem gX4_edit_X4_adds : GoodIn wsX4_edit (wsV RX4 104 RX4 yX4_adds wsX4_adds) := goodIn_app (goodIn_of _ (by decide +kernel)) ggX4_edit_X4_adds
theorem dX4_edit_0 : decode cX4_edit 0 = .ok (.iload_n 1, 1) := by decide +kernel
theorem dX4_edit_1 : decode cX4_edit 1 = .ok (.invokestatic 87, 3) := by decide +kernel
theorem dX4_edit_4 : decode cX4_edit 4 = .ok (.ifCond .eq 27, 3) := by decide +kernel
theorem dX4_edit_7 : decode cX4_edit 7 = .ok (.iload_n 2, 1) := by decide +kernel
theorem dX4_edit_8 : decode cX4_edit 8 = .ok (.invokestatic 91, 3) := by decide +kernel
theorem dX4_edit_11 : decode cX4_edit 11 = .ok (.ifCond .eq 20, 3) := by decide +kernel
theorem dX4_edit_14 : decode cX4_edit 14 = .ok (.iload_n 3, 1) := by decide +kernel
theorem dX4_edit_15 : decode cX4_edit 15 = .ok (.iconst (-1), 1) := by decide +kernel
theorem dX4_edit_16 : decode cX4_edit 16 = .ok (.if_icmp .eq 11, 3) := by decide +kernel
theorem dX4_edit_19 : decode cX4_edit 19 = .ok (.aload_n 0, 1) := by decide +kernel
theorem dX4_edit_20 : decode cX4_edit 20 = .ok (.iload_n 3, 1) := by decide +kernel
theorem dX4_edit_21 : decode cX4_edit 21 = .ok (.invokevirtual 94, 3) := by decide +kernel
theorem dX4_edit_24 : decode cX4_edit 24 = .ok (.ifCond .eq 7, 3) := by decide +kernel
theorem dX4_edit_27 : decode cX4_edit 27 = .ok (.iconst 1, 1) := by decide +kernel
theorem dX4_edit_28 : decode cX4_edit 28 = .ok (.goto 4, 3) := by decide +kernel
theorem dX4_edit_31 : decode cX4_edit 31 = .ok (.iconst 0, 1) := by decide +kernel
theorem dX4_edit_32 : decode cX4_edit 32 = .ok (.istore 5, 2) := by decide +kernel
theorem dX4_edit_34 : decode cX4_edit 34 = .ok (.aload_n 0, 1) := by decide +kernel
theorem dX4_edit_35 : decode cX4_edit 35 = .ok (.iload 5, 2) := by decide +kernel
theorem dX4_edit_37 : decode cX4_edit 37 = .ok (.iload 4, 2) := by decide +kernel
theorem dX4_edit_39 : decode cX4_edit 39 = .ok (.iconst 0, 1) := by decide +kernel
theorem dX4_edit_40 : decode cX4_edit 40 = .ok (.bipush 99, 2) := by decide +kernel
theorem dX4_edit_42 : decode cX4_edit 42 = .ok (.invokestatic 48, 3) := by decide +kernel
theorem dX4_edit_45 : decode cX4_edit 45 = .ok (.iload 5, 2) := by decide +kernel
theorem dX4_edit_47 : decode cX4_edit 47 = .ok (.ifCond .eq 17, 3) := by decide +kernel
theorem dX4_edit_50 : decode cX4_edit 50 = .ok (.aload_n 0, 1) := by decide +kernel
theorem dX4_edit_51 : decode cX4_edit 51 = .ok (.iload_n 1, 1) := by decide +kernel
theorem dX4_edit_52 : decode cX4_edit 52 = .ok (.iload_n 2, 1) := by decide +kernel
theorem dX4_edit_53 : decode cX4_edit 53 = .ok (.iload_n 3, 1) := by decide +kernel
theorem dX4_edit_54 : decode cX4_edit 54 = .ok (.invokevirtual 97, 3) := by decide +kernel
theorem dX4_edit_57 : decode cX4_edit 57 = .ok (.ifCond .eq 7, 3) := by decide +kernel
theorem dX4_edit_60 : decode cX4_edit 60 = .ok (.iconst 1, 1) := by decide +kernel
theorem dX4_edit_61 : decode cX4_edit 61 = .ok (.goto 4, 3) := by decide +kernel
theorem dX4_edit_64 : decode cX4_edit 64 = .ok (.iconst 0, 1) := by decide +kernel
theorem dX4_edit_65 : decode cX4_edit 65 = .ok (.invokevirtual 100, 3) := by decide +kernel
theorem dX4_edit_68 : decode cX4_edit 68 = .ok (.ifCond .ne 5, 3) := by decide +kernel
theorem dX4_edit_71 : decode cX4_edit 71 = .ok (.iconst 0, 1) := by decide +kernel
theorem dX4_edit_72 : decode cX4_edit 72 = .ok (.ireturn, 1) := by decide +kernel
theorem dX4_edit_73 : decode cX4_edit 73 = .ok (.aload_n 0, 1) := by decide +kernel
theorem dX4_edit_74 : decode cX4_edit 74 = .ok (.iload_n 1, 1) := by decide +kernel
theorem dX4_edit_75 : decode cX4_edit 75 = .ok (.iload_n 2, 1) := by decide +kernel
theorem dX4_edit_76 : decode cX4_edit 76 = .ok (.iload_n 3, 1) := by decide +kernel
theorem dX4_edit_77 : decode cX4_edit 77 = .ok (.iload 4, 2) := by decide +kernel
theorem dX4_edit_79 : decode cX4_edit 79 = .ok (.iconst 0, 1) := by decide +kernel
theorem dX4_edit_80 : decode cX4_edit 80 = .ok (.invokevirtual 104, 3) := by decide +kernel
theorem dX4_edit_83 : decode cX4_edit 83 = .ok (.ireturn, 1) := by decide +kernel
set_option maxRecDepth 20000 in
theorem ggX4_delete_X4_isStore : GoodIn wsX4_delete wsX4_isStore := goodIn_r _ [5, 6, 7, 4, 8] (by decide +kernel) (by decide +kernel)
set_option maxRecDepth 20000 in
theorem gX4_delete_X4_isStore : GoodIn wsX4_delete (va_wsS RX4 87 yX4_isStore wsX4_isStore) := goodIn_app (goodIn_of _ (by decide +kernel)) ggX4_delete_X4_isStore
set_option maxRecDepth 20000 in
theorem ggX4_delete_X4_isDocument : GoodIn wsX4_delete wsX4_isDocument := goodIn_r _ [11, 6, 7, 4, 8] (by decide +kernel) (by decide +kernel)
set_option maxRecDepth 20000 in
theorem gX4_delete_X4_isDocument : GoodIn wsX4_delete (va_wsS RX4 91 yX4_isDocument wsX4_isDocument) := goodIn_app (goodIn_of _ (by decide +kernel)) ggX4_delete_X4_isDocument
set_option maxRecDepth 20000 in
theorem ggX4_delete_X4_isRevision : GoodIn wsX4_delete wsX4_isRevision := goodIn_r _ [15, 16, 6, 7, 4, 8, 75, 76, 77, 78, 79, 80, 81, 82, 83, 84, 85, 86, 87] (by decide +kernel) (by decide +kernel)
set_option maxRecDepth 20000 in
theorem gX4_delete_X4_isRevision : GoodIn wsX4_delete (wsV RX4 94 RX4 yX4_isRevision wsX4_isRevision) := goodIn_app (goodIn_of _ (by decide +kernel)) ggX4_delete_X4_isRevision
set_option maxRecDepth 20000 in
theorem ggX4_delete_X4_canEdit : GoodIn wsX4_delete wsX4_canEdit := goodIn_r _ [20, 21, 16, 22, 23, 24, 4, 25, 26, 27, 28, 29, 30, 31, 32, 33, 34, 35, 36, 37, 38, 39, 40, 41, 42, 43, 1, 44, 45, 75, 76, 77, 78, 79, 80, 81, 82, 83, 84, 85, 86, 87] (by decide +kernel) (by decide +kernel)
set_option maxRecDepth 20000 in
theorem gX4_delete_X4_canEdit : GoodIn wsX4_delete (wsV RX4 97 RX4 yX4_canEdit wsX4_canEdit) := goodIn_app (goodIn_of _ (by decide +kernel)) ggX4_delete_X4_canEdit
set_option maxRecDepth 20000 in
theorem ggX4_delete_X4_goes : GoodIn wsX4_delete wsX4_goes := goodIn_r _ [49, 50, 75, 76, 77, 78, 79, 80, 81, 82, 83, 84, 85, 86, 87] (by decide +kernel) (by decide +kernel)
set_option maxRecDepth 20000 in
theorem gX4_delete_X4_goes : GoodIn wsX4_delete (wsV RX4 100 RX4 yX4_goes wsX4_goes) := goodIn_app (goodIn_of _ (by decide +kernel)) ggX4_delete_X4_goes
set_option maxRecDepth 20000 in
theorem ggX4_delete_X4_adds : GoodIn wsX4_delete wsX4_adds := goodIn_r _ [54, 30, 55, 56, 57, 4, 58, 16, 21, 39, 59, 1, 44, 45, 60, 61, 62, 63, 64, 65, 66, 67, 68, 69, 70, 71, 72, 73, 74, 35, 36, 37, 38, 26, 27, 28, 29, 31, 32, 33, 34, 75, 76, 77, 78, 79, 80, 81, 82, 83, 84, 85, 86, 87] (by decide +kernel) (by decide +kernel)
set_option maxRecDepth 20000 in
theorem gX4_delete_X4_adds : GoodIn wsX4_delete (wsV RX4 104 RX4 yX4_adds wsX4_adds) := goodIn_app (goodIn_of _ (by decide +kernel)) ggX4_delete_X4_adds
theorem dX4_delete_0 : decode cX4_delete 0 = .ok (.iload_n 1, 1) := by decide +kernel
theorem dX4_delete_1 : decode cX4_delete 1 = .ok (.invokestatic 87, 3) := by decide +kernel
theorem dX4_delete_4 : decode cX4_delete 4 = .ok (.ifCond .eq 22, 3) := by decide +kernel
theorem dX4_delete_7 : decode cX4_delete 7 = .ok (.iload_n 2, 1) := by decide +kernel
theorem dX4_delete_8 : decode cX4_delete 8 = .ok (.invokestatic 91, 3) := by decide +kernel
theorem dX4_delete_11 : decode cX4_delete 11 = .ok (.ifCond .eq 15, 3) := by decide +kernel
theorem dX4_delete_14 : decode cX4_delete 14 = .ok (.aload_n 0, 1) := by decide +kernel
theorem dX4_delete_15 : decode cX4_delete 15 = .ok (.iload_n 3, 1) := by decide +kernel
theorem dX4_delete_16 : decode cX4_delete 16 = .ok (.invokevirtual 94, 3) := by decide +kernel
theorem dX4_delete_19 : decode cX4_delete 19 = .ok (.ifCond .eq 7, 3) := by decide +kernel
theorem dX4_delete_22 : decode cX4_delete 22 = .ok (.iconst 1, 1) := by decide +kernel
theorem dX4_delete_23 : decode cX4_delete 23 = .ok (.goto 4, 3) := by decide +kernel
theorem dX4_delete_26 : decode cX4_delete 26 = .ok (.iconst 0, 1) := by decide +kernel
theorem dX4_delete_27 : decode cX4_delete 27 = .ok (.istore 4, 2) := by decide +kernel
theorem dX4_delete_29 : decode cX4_delete 29 = .ok (.aload_n 0, 1) := by decide +kernel
theorem dX4_delete_30 : decode cX4_delete 30 = .ok (.iload 4, 2) := by decide +kernel
theorem dX4_delete_32 : decode cX4_delete 32 = .ok (.iload 4, 2) := by decide +kernel
theorem dX4_delete_34 : decode cX4_delete 34 = .ok (.ifCond .eq 26, 3) := by decide +kernel
theorem dX4_delete_37 : decode cX4_delete 37 = .ok (.aload_n 0, 1) := by decide +kernel
theorem dX4_delete_38 : decode cX4_delete 38 = .ok (.iload_n 1, 1) := by decide +kernel
theorem dX4_delete_39 : decode cX4_delete 39 = .ok (.iload_n 2, 1) := by decide +kernel
theorem dX4_delete_40 : decode cX4_delete 40 = .ok (.iload_n 3, 1) := by decide +kernel
theorem dX4_delete_41 : decode cX4_delete 41 = .ok (.invokevirtual 97, 3) := by decide +kernel
theorem dX4_delete_44 : decode cX4_delete 44 = .ok (.ifCond .eq 16, 3) := by decide +kernel
theorem dX4_delete_47 : decode cX4_delete 47 = .ok (.aload_n 0, 1) := by decide +kernel
theorem dX4_delete_48 : decode cX4_delete 48 = .ok (.getfield 19, 3) := by decide +kernel
theorem dX4_delete_51 : decode cX4_delete 51 = .ok (.iload_n 3, 1) := by decide +kernel
theorem dX4_delete_52 : decode cX4_delete 52 = .ok (.baload, 1) := by decide +kernel
theorem dX4_delete_53 : decode cX4_delete 53 = .ok (.ifCond .ne 7, 3) := by decide +kernel
theorem dX4_delete_56 : decode cX4_delete 56 = .ok (.iconst 1, 1) := by decide +kernel
theorem dX4_delete_57 : decode cX4_delete 57 = .ok (.goto 4, 3) := by decide +kernel
theorem dX4_delete_60 : decode cX4_delete 60 = .ok (.iconst 0, 1) := by decide +kernel
theorem dX4_delete_61 : decode cX4_delete 61 = .ok (.iconst 1, 1) := by decide +kernel
theorem dX4_delete_62 : decode cX4_delete 62 = .ok (.invokevirtual 100, 3) := by decide +kernel
theorem dX4_delete_65 : decode cX4_delete 65 = .ok (.ifCond .ne 5, 3) := by decide +kernel
theorem dX4_delete_68 : decode cX4_delete 68 = .ok (.iconst 0, 1) := by decide +kernel
theorem dX4_delete_69 : decode cX4_delete 69 = .ok (.ireturn, 1) := by decide +kernel
theorem dX4_delete_70 : decode cX4_delete 70 = .ok (.aload_n 0, 1) := by decide +kernel
theorem dX4_delete_71 : decode cX4_delete 71 = .ok (.iload_n 1, 1) := by decide +kernel
theorem dX4_delete_72 : decode cX4_delete 72 = .ok (.iload_n 2, 1) := by decide +kernel
theorem dX4_delete_73 : decode cX4_delete 73 = .ok (.iload_n 3, 1) := by decide +kernel
theorem dX4_delete_74 : decode cX4_delete 74 = .ok (.iconst 0, 1) := by decide +kernel
theorem dX4_delete_75 : decode cX4_delete 75 = .ok (.iconst 1, 1) := by decide +kernel
theorem dX4_delete_76 : decode cX4_delete 76 = .ok (.invokevirtual 104, 3) := by decide +kernel
theorem dX4_delete_79 : decode cX4_delete 79 = .ok (.ireturn, 1) := by decide +kernel
set_option maxRecDepth 20000 in
theorem ggX4_setDepth_X4_isStore : GoodIn wsX4_setDepth wsX4_isStore := goodIn_r _ [5, 6, 7, 4, 8] (by decide +kernel) (by decide +kernel)
set_option maxRecDepth 20000 in
theorem gX4_setDepth_X4_isStore : GoodIn wsX4_setDepth (va_wsS RX4 87 yX4_isStore wsX4_isStore) := goodIn_app (goodIn_of _ (by decide +kernel)) ggX4_setDepth_X4_isStore
set_option maxRecDepth 20000 in
theorem ggX4_setDepth_X4_in : GoodIn wsX4_setDepth wsX4_in := goodIn_r _ [8] (by decide +kernel) (by decide +kernel)
set_option maxRecDepth 20000 in
theorem gX4_setDepth_X4_in : GoodIn wsX4_setDepth (va_wsS RX4 48 yX4_in wsX4_in) := goodIn_app (goodIn_of _ (by decide +kernel)) ggX4_setDepth_X4_in
set_option maxRecDepth 20000 in
theorem ggX4_setDepth_X4_goes : GoodIn wsX4_setDepth wsX4_goes := goodIn_r _ [12, 13, 38, 39, 40, 41, 42, 43, 44, 45, 46, 47, 48, 49, 50] (by decide +kernel) (by decide +kernel)
set_option maxRecDepth 20000 in
theorem gX4_setDepth_X4_goes : GoodIn wsX4_setDepth (wsV RX4 100 RX4 yX4_goes wsX4_goes) := goodIn_app (goodIn_of _ (by decide +kernel)) ggX4_setDepth_X4_goes
set_option maxRecDepth 20000 in
theorem ggX4_setDepth_X4_stems : GoodIn wsX4_setDepth wsX4_stems := goodIn_r _ [17, 18, 19, 20, 21, 22, 4, 23, 24, 1, 25, 26, 27, 28, 29, 30, 31, 32, 33, 34, 35, 36, 37, 38, 39, 40, 41, 42, 43, 44, 45, 46, 47, 48, 49, 50] (by decide +kernel) (by decide +kernel)
set_option maxRecDepth 20000 in
theorem gX4_setDepth_X4_stems : GoodIn wsX4_setDepth (wsV RX4 79 RX4 yX4_stems wsX4_stems) := goodIn_app (goodIn_of _ (by decide +kernel)) ggX4_setDepth_X4_stems
theorem dX4_setDepth_0 : decode cX4_setDepth 0 = .ok (.aload_n 0, 1) := by decide +kernel
theorem dX4_setDepth_1 : decode cX4_setDepth 1 = .ok (.iload_n 1, 1) := by decide +kernel
theorem dX4_setDepth_2 : decode cX4_setDepth 2 = .ok (.invokestatic 87, 3) := by decide +kernel
theorem dX4_setDepth_5 : decode cX4_setDepth 5 = .ok (.iload_n 2, 1) := by decide +kernel
theorem dX4_setDepth_6 : decode cX4_setDepth 6 = .ok (.iconst 1, 1) := by decide +kernel
theorem dX4_setDepth_7 : decode cX4_setDepth 7 = .ok (.bipush 20, 2) := by decide +kernel
theorem dX4_setDepth_9 : decode cX4_setDepth 9 = .ok (.invokestatic 48, 3) := by decide +kernel
theorem dX4_setDepth_12 : decode cX4_setDepth 12 = .ok (.iconst 1, 1) := by decide +kernel
theorem dX4_setDepth_13 : decode cX4_setDepth 13 = .ok (.invokevirtual 100, 3) := by decide +kernel
theorem dX4_setDepth_16 : decode cX4_setDepth 16 = .ok (.ifCond .ne 5, 3) := by decide +kernel
theorem dX4_setDepth_19 : decode cX4_setDepth 19 = .ok (.iconst 0, 1) := by decide +kernel
theorem dX4_setDepth_20 : decode cX4_setDepth 20 = .ok (.ireturn, 1) := by decide +kernel
theorem dX4_setDepth_21 : decode cX4_setDepth 21 = .ok (.aload_n 0, 1) := by decide +kernel
theorem dX4_setDepth_22 : decode cX4_setDepth 22 = .ok (.getfield 32, 3) := by decide +kernel
theorem dX4_setDepth_25 : decode cX4_setDepth 25 = .ok (.iload_n 1, 1) := by decide +kernel
theorem dX4_setDepth_26 : decode cX4_setDepth 26 = .ok (.iload_n 2, 1) := by decide +kernel
theorem dX4_setDepth_27 : decode cX4_setDepth 27 = .ok (.iastore, 1) := by decide +kernel
theorem dX4_setDepth_28 : decode cX4_setDepth 28 = .ok (.aload_n 0, 1) := by decide +kernel
theorem dX4_setDepth_29 : decode cX4_setDepth 29 = .ok (.iload_n 1, 1) := by decide +kernel
theorem dX4_setDepth_30 : decode cX4_setDepth 30 = .ok (.invokevirtual 79, 3) := by decide +kernel
theorem dX4_setDepth_33 : decode cX4_setDepth 33 = .ok (.ireturn, 1) := by decide +kernel
set_option maxRecDepth 20000 in
theorem ggX4_wipe_X4_isStore : GoodIn wsX4_wipe wsX4_isStore := goodIn_r _ [8, 9, 10, 7, 11] (by decide +kernel) (by decide +kernel)
set_option maxRecDepth 20000 in
theorem gX4_wipe_X4_isStore : GoodIn wsX4_wipe (va_wsS RX4 87 yX4_isStore wsX4_isStore) := goodIn_app (goodIn_of _ (by decide +kernel)) ggX4_wipe_X4_isStore
set_option maxRecDepth 20000 in
theorem ggX4_wipe_X4_goes : GoodIn wsX4_wipe wsX4_goes := goodIn_r _ [15, 16, 17, 18, 19, 20, 21, 22, 23, 24, 25, 26, 27, 28, 29] (by decide +kernel) (by decide +kernel)
set_option maxRecDepth 20000 in
theorem gX4_wipe_X4_goes : GoodIn wsX4_wipe (wsV RX4 100 RX4 yX4_goes wsX4_goes) := goodIn_app (goodIn_of _ (by decide +kernel)) ggX4_wipe_X4_goes
theorem dX4_wipe_0 : decode cX4_wipe 0 = .ok (.iconst 0, 1) := by decide +kernel
theorem dX4_wipe_1 : decode cX4_wipe 1 = .ok (.istore_n 2, 1) := by decide +kernel
theorem dX4_wipe_2 : decode cX4_wipe 2 = .ok (.aload_n 0, 1) := by decide +kernel
theorem dX4_wipe_3 : decode cX4_wipe 3 = .ok (.iload_n 1, 1) := by decide +kernel
theorem dX4_wipe_4 : decode cX4_wipe 4 = .ok (.invokestatic 87, 3) := by decide +kernel
theorem dX4_wipe_7 : decode cX4_wipe 7 = .ok (.iconst 1, 1) := by decide +kernel
theorem dX4_wipe_8 : decode cX4_wipe 8 = .ok (.iconst 1, 1) := by decide +kernel
theorem dX4_wipe_9 : decode cX4_wipe 9 = .ok (.invokevirtual 100, 3) := by decide +kernel
theorem dX4_wipe_12 : decode cX4_wipe 12 = .ok (.ifCond .eq 111, 3) := by decide +kernel
theorem dX4_wipe_15 : decode cX4_wipe 15 = .ok (.iconst 0, 1) := by decide +kernel
theorem dX4_wipe_16 : decode cX4_wipe 16 = .ok (.istore_n 3, 1) := by decide +kernel
theorem dX4_wipe_17 : decode cX4_wipe 17 = .ok (.iload_n 3, 1) := by decide +kernel
theorem dX4_wipe_18 : decode cX4_wipe 18 = .ok (.sipush 150, 3) := by decide +kernel
theorem dX4_wipe_21 : decode cX4_wipe 21 = .ok (.if_icmp .ge 45, 3) := by decide +kernel
theorem dX4_wipe_24 : decode cX4_wipe 24 = .ok (.iload_n 2, 1) := by decide +kernel
theorem dX4_wipe_25 : decode cX4_wipe 25 = .ok (.aload_n 0, 1) := by decide +kernel
theorem dX4_wipe_26 : decode cX4_wipe 26 = .ok (.getfield 29, 3) := by decide +kernel
theorem dX4_wipe_29 : decode cX4_wipe 29 = .ok (.sipush 150, 3) := by decide +kernel
theorem dX4_wipe_32 : decode cX4_wipe 32 = .ok (.iload_n 1, 1) := by decide +kernel
theorem dX4_wipe_33 : decode cX4_wipe 33 = .ok (.imul, 1) := by decide +kernel
theorem dX4_wipe_34 : decode cX4_wipe 34 = .ok (.iload_n 3, 1) := by decide +kernel
theorem dX4_wipe_35 : decode cX4_wipe 35 = .ok (.iadd, 1) := by decide +kernel
theorem dX4_wipe_36 : decode cX4_wipe 36 = .ok (.baload, 1) := by decide +kernel
theorem dX4_wipe_37 : decode cX4_wipe 37 = .ok (.ifCond .eq 7, 3) := by decide +kernel
theorem dX4_wipe_40 : decode cX4_wipe 40 = .ok (.iconst 1, 1) := by decide +kernel
theorem dX4_wipe_41 : decode cX4_wipe 41 = .ok (.goto 4, 3) := by decide +kernel
theorem dX4_wipe_44 : decode cX4_wipe 44 = .ok (.iconst 0, 1) := by decide +kernel
theorem dX4_wipe_45 : decode cX4_wipe 45 = .ok (.iadd, 1) := by decide +kernel
theorem dX4_wipe_46 : decode cX4_wipe 46 = .ok (.istore_n 2, 1) := by decide +kernel
theorem dX4_wipe_47 : decode cX4_wipe 47 = .ok (.aload_n 0, 1) := by decide +kernel
theorem dX4_wipe_48 : decode cX4_wipe 48 = .ok (.getfield 29, 3) := by decide +kernel
theorem dX4_wipe_51 : decode cX4_wipe 51 = .ok (.sipush 150, 3) := by decide +kernel
theorem dX4_wipe_54 : decode cX4_wipe 54 = .ok (.iload_n 1, 1) := by decide +kernel
theorem dX4_wipe_55 : decode cX4_wipe 55 = .ok (.imul, 1) := by decide +kernel
theorem dX4_wipe_56 : decode cX4_wipe 56 = .ok (.iload_n 3, 1) := by decide +kernel
theorem dX4_wipe_57 : decode cX4_wipe 57 = .ok (.iadd, 1) := by decide +kernel
theorem dX4_wipe_58 : decode cX4_wipe 58 = .ok (.iconst 0, 1) := by decide +kernel
theorem dX4_wipe_59 : decode cX4_wipe 59 = .ok (.bastore, 1) := by decide +kernel
theorem dX4_wipe_60 : decode cX4_wipe 60 = .ok (.iinc 3 1, 3) := by decide +kernel
theorem dX4_wipe_63 : decode cX4_wipe 63 = .ok (.goto (-46), 3) := by decide +kernel
theorem dX4_wipe_66 : decode cX4_wipe 66 = .ok (.iconst 0, 1) := by decide +kernel
theorem dX4_wipe_67 : decode cX4_wipe 67 = .ok (.istore_n 3, 1) := by decide +kernel
theorem dX4_wipe_68 : decode cX4_wipe 68 = .ok (.iload_n 3, 1) := by decide +kernel
theorem dX4_wipe_69 : decode cX4_wipe 69 = .ok (.bipush 9, 2) := by decide +kernel
theorem dX4_wipe_71 : decode cX4_wipe 71 = .ok (.if_icmp .ge 21, 3) := by decide +kernel
theorem dX4_wipe_74 : decode cX4_wipe 74 = .ok (.aload_n 0, 1) := by decide +kernel
theorem dX4_wipe_75 : decode cX4_wipe 75 = .ok (.getfield 41, 3) := by decide +kernel
theorem dX4_wipe_78 : decode cX4_wipe 78 = .ok (.bipush 9, 2) := by decide +kernel
theorem dX4_wipe_80 : decode cX4_wipe 80 = .ok (.iload_n 1, 1) := by decide +kernel
theorem dX4_wipe_81 : decode cX4_wipe 81 = .ok (.imul, 1) := by decide +kernel
theorem dX4_wipe_82 : decode cX4_wipe 82 = .ok (.iload_n 3, 1) := by decide +kernel
theorem dX4_wipe_83 : decode cX4_wipe 83 = .ok (.iadd, 1) := by decide +kernel
theorem dX4_wipe_84 : decode cX4_wipe 84 = .ok (.iconst 0, 1) := by decide +kernel
theorem dX4_wipe_85 : decode cX4_wipe 85 = .ok (.iastore, 1) := by decide +kernel
theorem dX4_wipe_86 : decode cX4_wipe 86 = .ok (.iinc 3 1, 3) := by decide +kernel
theorem dX4_wipe_89 : decode cX4_wipe 89 = .ok (.goto (-21), 3) := by decide +kernel
theorem dX4_wipe_92 : decode cX4_wipe 92 = .ok (.iconst 0, 1) := by decide +kernel
theorem dX4_wipe_93 : decode cX4_wipe 93 = .ok (.istore_n 3, 1) := by decide +kernel
theorem dX4_wipe_94 : decode cX4_wipe 94 = .ok (.iload_n 3, 1) := by decide +kernel
theorem dX4_wipe_95 : decode cX4_wipe 95 = .ok (.iconst 4, 1) := by decide +kernel
theorem dX4_wipe_96 : decode cX4_wipe 96 = .ok (.if_icmp .ge 20, 3) := by decide +kernel
theorem dX4_wipe_99 : decode cX4_wipe 99 = .ok (.aload_n 0, 1) := by decide +kernel
theorem dX4_wipe_100 : decode cX4_wipe 100 = .ok (.getfield 38, 3) := by decide +kernel
theorem dX4_wipe_103 : decode cX4_wipe 103 = .ok (.iconst 4, 1) := by decide +kernel
theorem dX4_wipe_104 : decode cX4_wipe 104 = .ok (.iload_n 1, 1) := by decide +kernel
theorem dX4_wipe_105 : decode cX4_wipe 105 = .ok (.imul, 1) := by decide +kernel
theorem dX4_wipe_106 : decode cX4_wipe 106 = .ok (.iload_n 3, 1) := by decide +kernel
theorem dX4_wipe_107 : decode cX4_wipe 107 = .ok (.iadd, 1) := by decide +kernel
theorem dX4_wipe_108 : decode cX4_wipe 108 = .ok (.iconst 0, 1) := by decide +kernel
theorem dX4_wipe_109 : decode cX4_wipe 109 = .ok (.iastore, 1) := by decide +kernel
theorem dX4_wipe_110 : decode cX4_wipe 110 = .ok (.iinc 3 1, 3) := by decide +kernel
theorem dX4_wipe_113 : decode cX4_wipe 113 = .ok (.goto (-19), 3) := by decide +kernel
theorem dX4_wipe_116 : decode cX4_wipe 116 = .ok (.aload_n 0, 1) := by decide +kernel
theorem dX4_wipe_117 : decode cX4_wipe 117 = .ok (.getfield 35, 3) := by decide +kernel
theorem dX4_wipe_120 : decode cX4_wipe 120 = .ok (.iload_n 1, 1) := by decide +kernel
theorem dX4_wipe_121 : decode cX4_wipe 121 = .ok (.iconst 0, 1) := by decide +kernel
theorem dX4_wipe_122 : decode cX4_wipe 122 = .ok (.iastore, 1) := by decide +kernel
theorem dX4_wipe_123 : decode cX4_wipe 123 = .ok (.iload_n 2, 1) := by decide +kernel
theorem dX4_wipe_124 : decode cX4_wipe 124 = .ok (.ireturn, 1) := by decide +kernel
theorem dX4_begins_0 : decode cX4_begins 0 = .ok (.aload_n 0, 1) := by decide +kernel
theorem dX4_begins_1 : decode cX4_begins 1 = .ok (.getfield 41, 3) := by decide +kernel
theorem dX4_begins_4 : decode cX4_begins 4 = .ok (.bipush 9, 2) := by decide +kernel
theorem dX4_begins_6 : decode cX4_begins 6 = .ok (.iload_n 1, 1) := by decide +kernel
theorem dX4_begins_7 : decode cX4_begins 7 = .ok (.imul, 1) := by decide +kernel
theorem dX4_begins_8 : decode cX4_begins 8 = .ok (.iconst 3, 1) := by decide +kernel
theorem dX4_begins_9 : decode cX4_begins 9 = .ok (.iload_n 1, 1) := by decide +kernel
theorem dX4_begins_10 : decode cX4_begins 10 = .ok (.imul, 1) := by decide +kernel
theorem dX4_begins_11 : decode cX4_begins 11 = .ok (.iadd, 1) := by decide +kernel
theorem dX4_begins_12 : decode cX4_begins 12 = .ok (.iload_n 2, 1) := by decide +kernel
theorem dX4_begins_13 : decode cX4_begins 13 = .ok (.iadd, 1) := by decide +kernel
theorem dX4_begins_14 : decode cX4_begins 14 = .ok (.iaload, 1) := by decide +kernel
theorem dX4_begins_15 : decode cX4_begins 15 = .ok (.istore_n 3, 1) := by decide +kernel
theorem dX4_begins_16 : decode cX4_begins 16 = .ok (.aload_n 0, 1) := by decide +kernel
theorem dX4_begins_17 : decode cX4_begins 17 = .ok (.getfield 41, 3) := by decide +kernel
theorem dX4_begins_20 : decode cX4_begins 20 = .ok (.bipush 9, 2) := by decide +kernel
theorem dX4_begins_22 : decode cX4_begins 22 = .ok (.iload_n 2, 1) := by decide +kernel
theorem dX4_begins_23 : decode cX4_begins 23 = .ok (.imul, 1) := by decide +kernel
theorem dX4_begins_24 : decode cX4_begins 24 = .ok (.iconst 3, 1) := by decide +kernel
theorem dX4_begins_25 : decode cX4_begins 25 = .ok (.iload_n 1, 1) := by decide +kernel
theorem dX4_begins_26 : decode cX4_begins 26 = .ok (.imul, 1) := by decide +kernel
theorem dX4_begins_27 : decode cX4_begins 27 = .ok (.iadd, 1) := by decide +kernel
theorem dX4_begins_28 : decode cX4_begins 28 = .ok (.iload_n 2, 1) := by decide +kernel
theorem dX4_begins_29 : decode cX4_begins 29 = .ok (.iadd, 1) := by decide +kernel
theorem dX4_begins_30 : decode cX4_begins 30 = .ok (.iaload, 1) := by decide +kernel
theorem dX4_begins_31 : decode cX4_begins 31 = .ok (.istore 4, 2) := by decide +kernel
theorem dX4_begins_33 : decode cX4_begins 33 = .ok (.iload_n 3, 1) := by decide +kernel
theorem dX4_begins_34 : decode cX4_begins 34 = .ok (.iload 4, 2) := by decide +kernel
theorem dX4_begins_36 : decode cX4_begins 36 = .ok (.if_icmp .ge 7, 3) := by decide +kernel
theorem dX4_begins_39 : decode cX4_begins 39 = .ok (.iload_n 3, 1) := by decide +kernel
theorem dX4_begins_40 : decode cX4_begins 40 = .ok (.goto 5, 3) := by decide +kernel
theorem dX4_begins_43 : decode cX4_begins 43 = .ok (.iload 4, 2) := by decide +kernel
theorem dX4_begins_45 : decode cX4_begins 45 = .ok (.ireturn, 1) := by decide +kernel
theorem dX4_nextOf_0 : decode cX4_nextOf 0 = .ok (.iconst (-1), 1) := by decide +kernel
theorem dX4_nextOf_1 : decode cX4_nextOf 1 = .ok (.istore_n 3, 1) := by decide +kernel
theorem dX4_nextOf_2 : decode cX4_nextOf 2 = .ok (.iconst 0, 1) := by decide +kernel
theorem dX4_nextOf_3 : decode cX4_nextOf 3 = .ok (.istore 4, 2) := by decide +kernel
theorem dX4_nextOf_5 : decode cX4_nextOf 5 = .ok (.iload 4, 2) := by decide +kernel
theorem dX4_nextOf_7 : decode cX4_nextOf 7 = .ok (.iconst 4, 1) := by decide +kernel
theorem dX4_nextOf_8 : decode cX4_nextOf 8 = .ok (.if_icmp .ge 55, 3) := by decide +kernel
theorem dX4_nextOf_11 : decode cX4_nextOf 11 = .ok (.aload_n 0, 1) := by decide +kernel
theorem dX4_nextOf_12 : decode cX4_nextOf 12 = .ok (.getfield 38, 3) := by decide +kernel
theorem dX4_nextOf_15 : decode cX4_nextOf 15 = .ok (.iconst 4, 1) := by decide +kernel
theorem dX4_nextOf_16 : decode cX4_nextOf 16 = .ok (.iload_n 1, 1) := by decide +kernel
theorem dX4_nextOf_17 : decode cX4_nextOf 17 = .ok (.imul, 1) := by decide +kernel
theorem dX4_nextOf_18 : decode cX4_nextOf 18 = .ok (.iload 4, 2) := by decide +kernel
theorem dX4_nextOf_20 : decode cX4_nextOf 20 = .ok (.iadd, 1) := by decide +kernel
theorem dX4_nextOf_21 : decode cX4_nextOf 21 = .ok (.iaload, 1) := by decide +kernel
theorem dX4_nextOf_22 : decode cX4_nextOf 22 = .ok (.istore 5, 2) := by decide +kernel
theorem dX4_nextOf_24 : decode cX4_nextOf 24 = .ok (.iload 5, 2) := by decide +kernel
theorem dX4_nextOf_26 : decode cX4_nextOf 26 = .ok (.iload_n 2, 1) := by decide +kernel
theorem dX4_nextOf_27 : decode cX4_nextOf 27 = .ok (.if_icmp .le 28, 3) := by decide +kernel
theorem dX4_nextOf_30 : decode cX4_nextOf 30 = .ok (.iload_n 3, 1) := by decide +kernel
theorem dX4_nextOf_31 : decode cX4_nextOf 31 = .ok (.iconst (-1), 1) := by decide +kernel
theorem dX4_nextOf_32 : decode cX4_nextOf 32 = .ok (.if_icmp .eq 18, 3) := by decide +kernel
theorem dX4_nextOf_35 : decode cX4_nextOf 35 = .ok (.iload 5, 2) := by decide +kernel
theorem dX4_nextOf_37 : decode cX4_nextOf 37 = .ok (.aload_n 0, 1) := by decide +kernel
theorem dX4_nextOf_38 : decode cX4_nextOf 38 = .ok (.getfield 38, 3) := by decide +kernel
theorem dX4_nextOf_41 : decode cX4_nextOf 41 = .ok (.iconst 4, 1) := by decide +kernel
theorem dX4_nextOf_42 : decode cX4_nextOf 42 = .ok (.iload_n 1, 1) := by decide +kernel
theorem dX4_nextOf_43 : decode cX4_nextOf 43 = .ok (.imul, 1) := by decide +kernel
theorem dX4_nextOf_44 : decode cX4_nextOf 44 = .ok (.iload_n 3, 1) := by decide +kernel
theorem dX4_nextOf_45 : decode cX4_nextOf 45 = .ok (.iadd, 1) := by decide +kernel
theorem dX4_nextOf_46 : decode cX4_nextOf 46 = .ok (.iaload, 1) := by decide +kernel
theorem dX4_nextOf_47 : decode cX4_nextOf 47 = .ok (.if_icmp .ge 8, 3) := by decide +kernel
theorem dX4_nextOf_50 : decode cX4_nextOf 50 = .ok (.iload 4, 2) := by decide +kernel
theorem dX4_nextOf_52 : decode cX4_nextOf 52 = .ok (.goto 4, 3) := by decide +kernel
theorem dX4_nextOf_55 : decode cX4_nextOf 55 = .ok (.iload_n 3, 1) := by decide +kernel
theorem dX4_nextOf_56 : decode cX4_nextOf 56 = .ok (.istore_n 3, 1) := by decide +kernel
theorem dX4_nextOf_57 : decode cX4_nextOf 57 = .ok (.iinc 4 1, 3) := by decide +kernel
theorem dX4_nextOf_60 : decode cX4_nextOf 60 = .ok (.goto (-55), 3) := by decide +kernel
theorem dX4_nextOf_63 : decode cX4_nextOf 63 = .ok (.iload_n 3, 1) := by decide +kernel
theorem dX4_nextOf_64 : decode cX4_nextOf 64 = .ok (.ireturn, 1) := by decide +kernel
set_option maxRecDepth 20000 in
theorem ggX4_gets_X4_leaf : GoodIn wsX4_gets wsX4_leaf := goodIn_r _ [9, 3, 10, 11, 12, 8, 13, 1, 14, 15, 16, 17, 4, 34, 35, 36, 37, 38, 39, 40, 41, 42, 43, 44, 45, 46] (by decide +kernel) (by decide +kernel)
set_option maxRecDepth 20000 in
theorem gX4_gets_X4_leaf : GoodIn wsX4_gets (wsV RX4 62 RX4 yX4_leaf wsX4_leaf) := goodIn_app (goodIn_of _ (by decide +kernel)) ggX4_gets_X4_leaf
set_option maxRecDepth 20000 in
theorem ggX4_gets_X4_hasDescendant : GoodIn wsX4_gets wsX4_hasDescendant := goodIn_r _ [13, 1, 3, 14, 15, 16, 8, 17, 4, 34, 35, 36, 37, 38, 39, 40, 41, 42, 43, 44, 45, 46] (by decide +kernel) (by decide +kernel)
set_option maxRecDepth 20000 in
theorem gX4_gets_X4_hasDescendant : GoodIn wsX4_gets (wsV RX4 59 RX4 yX4_hasDescendant wsX4_hasDescendant) := goodIn_app (goodIn_of _ (by decide +kernel)) ggX4_gets_X4_hasDescendant
set_option maxRecDepth 20000 in
theorem ggX4_gets_X4_touches : GoodIn wsX4_gets wsX4_touches := goodIn_r _ [21, 22, 23, 34, 35, 36, 37, 38, 39, 40, 41, 42, 43, 44, 45, 46] (by decide +kernel) (by decide +kernel)
set_option maxRecDepth 20000 in
theorem gX4_gets_X4_touches : GoodIn wsX4_gets (wsV RX4 75 RX4 yX4_touches wsX4_touches) := goodIn_app (goodIn_of _ (by decide +kernel)) ggX4_gets_X4_touches
set_option maxRecDepth 20000 in
theorem ggX4_gets_X4_stems : GoodIn wsX4_gets wsX4_stems := goodIn_r _ [27, 1, 3, 28, 29, 30, 8, 31, 32, 33, 14, 15, 16, 17, 4, 5, 6, 7, 9, 10, 11, 12, 13, 34, 35, 36, 37, 38, 39, 40, 41, 42, 43, 44, 45, 46] (by decide +kernel) (by decide +kernel)
set_option maxRecDepth 20000 in
theorem gX4_gets_X4_stems : GoodIn wsX4_gets (wsV RX4 79 RX4 yX4_stems wsX4_stems) := goodIn_app (goodIn_of _ (by decide +kernel)) ggX4_gets_X4_stems
theorem dX4_gets_0 : decode cX4_gets 0 = .ok (.iconst 0, 1) := by decide +kernel
theorem dX4_gets_1 : decode cX4_gets 1 = .ok (.istore 4, 2) := by decide +kernel
theorem dX4_gets_3 : decode cX4_gets 3 = .ok (.iconst 0, 1) := by decide +kernel
theorem dX4_gets_4 : decode cX4_gets 4 = .ok (.istore 5, 2) := by decide +kernel
theorem dX4_gets_6 : decode cX4_gets 6 = .ok (.iload 5, 2) := by decide +kernel
theorem dX4_gets_8 : decode cX4_gets 8 = .ok (.aload_n 0, 1) := by decide +kernel
theorem dX4_gets_9 : decode cX4_gets 9 = .ok (.getfield 52, 3) := by decide +kernel
theorem dX4_gets_12 : decode cX4_gets 12 = .ok (.if_icmp .ge 183, 3) := by decide +kernel
theorem dX4_gets_15 : decode cX4_gets 15 = .ok (.aload_n 0, 1) := by decide +kernel
theorem dX4_gets_16 : decode cX4_gets 16 = .ok (.getfield 7, 3) := by decide +kernel
theorem dX4_gets_19 : decode cX4_gets 19 = .ok (.iload 5, 2) := by decide +kernel
theorem dX4_gets_21 : decode cX4_gets 21 = .ok (.iaload, 1) := by decide +kernel
theorem dX4_gets_22 : decode cX4_gets 22 = .ok (.iload_n 3, 1) := by decide +kernel
theorem dX4_gets_23 : decode cX4_gets 23 = .ok (.if_icmp .ne 43, 3) := by decide +kernel
theorem dX4_gets_26 : decode cX4_gets 26 = .ok (.aload_n 0, 1) := by decide +kernel
theorem dX4_gets_27 : decode cX4_gets 27 = .ok (.iload_n 1, 1) := by decide +kernel
theorem dX4_gets_28 : decode cX4_gets 28 = .ok (.iload 5, 2) := by decide +kernel
theorem dX4_gets_30 : decode cX4_gets 30 = .ok (.invokevirtual 62, 3) := by decide +kernel
theorem dX4_gets_33 : decode cX4_gets 33 = .ok (.ifCond .eq 33, 3) := by decide +kernel
theorem dX4_gets_36 : decode cX4_gets 36 = .ok (.aload_n 0, 1) := by decide +kernel
theorem dX4_gets_37 : decode cX4_gets 37 = .ok (.getfield 29, 3) := by decide +kernel
theorem dX4_gets_40 : decode cX4_gets 40 = .ok (.sipush 150, 3) := by decide +kernel
theorem dX4_gets_43 : decode cX4_gets 43 = .ok (.iload_n 2, 1) := by decide +kernel
theorem dX4_gets_44 : decode cX4_gets 44 = .ok (.imul, 1) := by decide +kernel
theorem dX4_gets_45 : decode cX4_gets 45 = .ok (.iload 5, 2) := by decide +kernel
theorem dX4_gets_47 : decode cX4_gets 47 = .ok (.iadd, 1) := by decide +kernel
theorem dX4_gets_48 : decode cX4_gets 48 = .ok (.baload, 1) := by decide +kernel
theorem dX4_gets_49 : decode cX4_gets 49 = .ok (.ifCond .ne 17, 3) := by decide +kernel
theorem dX4_gets_52 : decode cX4_gets 52 = .ok (.aload_n 0, 1) := by decide +kernel
theorem dX4_gets_53 : decode cX4_gets 53 = .ok (.iload_n 2, 1) := by decide +kernel
theorem dX4_gets_54 : decode cX4_gets 54 = .ok (.iload 5, 2) := by decide +kernel
theorem dX4_gets_56 : decode cX4_gets 56 = .ok (.invokevirtual 59, 3) := by decide +kernel
theorem dX4_gets_59 : decode cX4_gets 59 = .ok (.ifCond .ne 7, 3) := by decide +kernel
theorem dX4_gets_62 : decode cX4_gets 62 = .ok (.iconst 1, 1) := by decide +kernel
theorem dX4_gets_63 : decode cX4_gets 63 = .ok (.goto 4, 3) := by decide +kernel
theorem dX4_gets_66 : decode cX4_gets 66 = .ok (.iconst 0, 1) := by decide +kernel
theorem dX4_gets_67 : decode cX4_gets 67 = .ok (.istore 6, 2) := by decide +kernel
theorem dX4_gets_69 : decode cX4_gets 69 = .ok (.iload 5, 2) := by decide +kernel
theorem dX4_gets_71 : decode cX4_gets 71 = .ok (.istore 7, 2) := by decide +kernel
theorem dX4_gets_73 : decode cX4_gets 73 = .ok (.iload 7, 2) := by decide +kernel
theorem dX4_gets_75 : decode cX4_gets 75 = .ok (.iconst (-1), 1) := by decide +kernel
theorem dX4_gets_76 : decode cX4_gets 76 = .ok (.if_icmp .eq 113, 3) := by decide +kernel
theorem dX4_gets_79 : decode cX4_gets 79 = .ok (.iload 6, 2) := by decide +kernel
theorem dX4_gets_81 : decode cX4_gets 81 = .ok (.ifCond .eq 108, 3) := by decide +kernel
theorem dX4_gets_84 : decode cX4_gets 84 = .ok (.aload_n 0, 1) := by decide +kernel
theorem dX4_gets_85 : decode cX4_gets 85 = .ok (.getfield 29, 3) := by decide +kernel
theorem dX4_gets_88 : decode cX4_gets 88 = .ok (.sipush 150, 3) := by decide +kernel
theorem dX4_gets_91 : decode cX4_gets 91 = .ok (.iload_n 1, 1) := by decide +kernel
theorem dX4_gets_92 : decode cX4_gets 92 = .ok (.imul, 1) := by decide +kernel
theorem dX4_gets_93 : decode cX4_gets 93 = .ok (.iload 7, 2) := by decide +kernel
theorem dX4_gets_95 : decode cX4_gets 95 = .ok (.iadd, 1) := by decide +kernel
theorem dX4_gets_96 : decode cX4_gets 96 = .ok (.baload, 1) := by decide +kernel
theorem dX4_gets_97 : decode cX4_gets 97 = .ok (.ifCond .eq 23, 3) := by decide +kernel
theorem dX4_gets_100 : decode cX4_gets 100 = .ok (.aload_n 0, 1) := by decide +kernel
theorem dX4_gets_101 : decode cX4_gets 101 = .ok (.getfield 29, 3) := by decide +kernel
theorem dX4_gets_104 : decode cX4_gets 104 = .ok (.sipush 150, 3) := by decide +kernel
theorem dX4_gets_107 : decode cX4_gets 107 = .ok (.iload_n 2, 1) := by decide +kernel
theorem dX4_gets_108 : decode cX4_gets 108 = .ok (.imul, 1) := by decide +kernel
theorem dX4_gets_109 : decode cX4_gets 109 = .ok (.iload 7, 2) := by decide +kernel
theorem dX4_gets_111 : decode cX4_gets 111 = .ok (.iadd, 1) := by decide +kernel
theorem dX4_gets_112 : decode cX4_gets 112 = .ok (.baload, 1) := by decide +kernel
theorem dX4_gets_113 : decode cX4_gets 113 = .ok (.ifCond .ne 7, 3) := by decide +kernel
theorem dX4_gets_116 : decode cX4_gets 116 = .ok (.iconst 1, 1) := by decide +kernel
theorem dX4_gets_117 : decode cX4_gets 117 = .ok (.goto 4, 3) := by decide +kernel
theorem dX4_gets_120 : decode cX4_gets 120 = .ok (.iconst 0, 1) := by decide +kernel
theorem dX4_gets_121 : decode cX4_gets 121 = .ok (.istore 8, 2) := by decide +kernel
theorem dX4_gets_123 : decode cX4_gets 123 = .ok (.aload_n 0, 1) := by decide +kernel
theorem dX4_gets_124 : decode cX4_gets 124 = .ok (.getfield 29, 3) := by decide +kernel
theorem dX4_gets_127 : decode cX4_gets 127 = .ok (.sipush 150, 3) := by decide +kernel
theorem dX4_gets_130 : decode cX4_gets 130 = .ok (.iload_n 2, 1) := by decide +kernel
theorem dX4_gets_131 : decode cX4_gets 131 = .ok (.imul, 1) := by decide +kernel
theorem dX4_gets_132 : decode cX4_gets 132 = .ok (.iload 7, 2) := by decide +kernel
theorem dX4_gets_134 : decode cX4_gets 134 = .ok (.iadd, 1) := by decide +kernel
theorem dX4_gets_135 : decode cX4_gets 135 = .ok (.iload 8, 2) := by decide +kernel
theorem dX4_gets_137 : decode cX4_gets 137 = .ok (.ifCond .ne 19, 3) := by decide +kernel
theorem dX4_gets_140 : decode cX4_gets 140 = .ok (.aload_n 0, 1) := by decide +kernel
theorem dX4_gets_141 : decode cX4_gets 141 = .ok (.getfield 29, 3) := by decide +kernel
theorem dX4_gets_144 : decode cX4_gets 144 = .ok (.sipush 150, 3) := by decide +kernel
theorem dX4_gets_147 : decode cX4_gets 147 = .ok (.iload_n 2, 1) := by decide +kernel
theorem dX4_gets_148 : decode cX4_gets 148 = .ok (.imul, 1) := by decide +kernel
theorem dX4_gets_149 : decode cX4_gets 149 = .ok (.iload 7, 2) := by decide +kernel
theorem dX4_gets_151 : decode cX4_gets 151 = .ok (.iadd, 1) := by decide +kernel
theorem dX4_gets_152 : decode cX4_gets 152 = .ok (.baload, 1) := by decide +kernel
theorem dX4_gets_153 : decode cX4_gets 153 = .ok (.ifCond .eq 7, 3) := by decide +kernel
theorem dX4_gets_156 : decode cX4_gets 156 = .ok (.iconst 1, 1) := by decide +kernel
theorem dX4_gets_157 : decode cX4_gets 157 = .ok (.goto 4, 3) := by decide +kernel
theorem dX4_gets_160 : decode cX4_gets 160 = .ok (.iconst 0, 1) := by decide +kernel
theorem dX4_gets_161 : decode cX4_gets 161 = .ok (.bastore, 1) := by decide +kernel
theorem dX4_gets_162 : decode cX4_gets 162 = .ok (.iload 4, 2) := by decide +kernel
theorem dX4_gets_164 : decode cX4_gets 164 = .ok (.iload 8, 2) := by decide +kernel
theorem dX4_gets_166 : decode cX4_gets 166 = .ok (.ifCond .eq 7, 3) := by decide +kernel
theorem dX4_gets_169 : decode cX4_gets 169 = .ok (.iconst 1, 1) := by decide +kernel
theorem dX4_gets_170 : decode cX4_gets 170 = .ok (.goto 4, 3) := by decide +kernel
theorem dX4_gets_173 : decode cX4_gets 173 = .ok (.iconst 0, 1) := by decide +kernel
theorem dX4_gets_174 : decode cX4_gets 174 = .ok (.iadd, 1) := by decide +kernel
theorem dX4_gets_175 : decode cX4_gets 175 = .ok (.istore 4, 2) := by decide +kernel
theorem dX4_gets_177 : decode cX4_gets 177 = .ok (.aload_n 0, 1) := by decide +kernel
theorem dX4_gets_178 : decode cX4_gets 178 = .ok (.getfield 13, 3) := by decide +kernel
theorem dX4_gets_181 : decode cX4_gets 181 = .ok (.iload 7, 2) := by decide +kernel
theorem dX4_gets_183 : decode cX4_gets 183 = .ok (.iaload, 1) := by decide +kernel
theorem dX4_gets_184 : decode cX4_gets 184 = .ok (.istore 7, 2) := by decide +kernel
theorem dX4_gets_186 : decode cX4_gets 186 = .ok (.goto (-113), 3) := by decide +kernel
theorem dX4_gets_189 : decode cX4_gets 189 = .ok (.iinc 5 1, 3) := by decide +kernel
theorem dX4_gets_192 : decode cX4_gets 192 = .ok (.goto (-186), 3) := by decide +kernel
theorem dX4_gets_195 : decode cX4_gets 195 = .ok (.iload 4, 2) := by decide +kernel
theorem dX4_gets_197 : decode cX4_gets 197 = .ok (.ifCond .le 15, 3) := by decide +kernel
theorem dX4_gets_200 : decode cX4_gets 200 = .ok (.aload_n 0, 1) := by decide +kernel
theorem dX4_gets_201 : decode cX4_gets 201 = .ok (.iload_n 2, 1) := by decide +kernel
theorem dX4_gets_202 : decode cX4_gets 202 = .ok (.iload_n 3, 1) := by decide +kernel
theorem dX4_gets_203 : decode cX4_gets 203 = .ok (.invokevirtual 75, 3) := by decide +kernel
theorem dX4_gets_206 : decode cX4_gets 206 = .ok (.aload_n 0, 1) := by decide +kernel
theorem dX4_gets_207 : decode cX4_gets 207 = .ok (.iload_n 2, 1) := by decide +kernel
theorem dX4_gets_208 : decode cX4_gets 208 = .ok (.invokevirtual 79, 3) := by decide +kernel
theorem dX4_gets_211 : decode cX4_gets 211 = .ok (.pop, 1) := by decide +kernel
theorem dX4_gets_212 : decode cX4_gets 212 = .ok (.iload 4, 2) := by decide +kernel
theorem dX4_gets_214 : decode cX4_gets 214 = .ok (.ireturn, 1) := by decide +kernel
set_option maxRecDepth 20000 in
theorem ggX4_replicate_X4_isStore : GoodIn wsX4_replicate wsX4_isStore := goodIn_r _ [7, 8, 9, 6, 10] (by decide +kernel) (by decide +kernel)
set_option maxRecDepth 20000 in
theorem gX4_replicate_X4_isStore : GoodIn wsX4_replicate (va_wsS RX4 87 yX4_isStore wsX4_isStore) := goodIn_app (goodIn_of _ (by decide +kernel)) ggX4_replicate_X4_isStore
set_option maxRecDepth 20000 in
theorem ggX4_replicate_X4_in : GoodIn wsX4_replicate wsX4_in := goodIn_r _ [10] (by decide +kernel) (by decide +kernel)
set_option maxRecDepth 20000 in
theorem gX4_replicate_X4_in : GoodIn wsX4_replicate (va_wsS RX4 48 yX4_in wsX4_in) := goodIn_app (goodIn_of _ (by decide +kernel)) ggX4_replicate_X4_in
set_option maxRecDepth 20000 in
theorem ggX4_replicate_X4_goes : GoodIn wsX4_replicate wsX4_goes := goodIn_r _ [14, 15, 58, 59, 60, 61, 62, 63, 64, 65, 66, 67, 68, 69, 70] (by decide +kernel) (by decide +kernel)
set_option maxRecDepth 20000 in
theorem gX4_replicate_X4_goes : GoodIn wsX4_replicate (wsV RX4 100 RX4 yX4_goes wsX4_goes) := goodIn_app (goodIn_of _ (by decide +kernel)) ggX4_replicate_X4_goes
set_option maxRecDepth 20000 in
theorem ggX4_replicate_X4_begins : GoodIn wsX4_replicate wsX4_begins := goodIn_r _ [19, 3, 58, 59, 60, 61, 62, 63, 64, 65, 66, 67, 68, 69, 70] (by decide +kernel) (by decide +kernel)
set_option maxRecDepth 20000 in
theorem gX4_replicate_X4_begins : GoodIn wsX4_replicate (wsV RX4 108 RX4 yX4_begins wsX4_begins) := goodIn_app (goodIn_of _ (by decide +kernel)) ggX4_replicate_X4_begins
set_option maxRecDepth 20000 in
theorem ggX4_replicate_X4_nextOf : GoodIn wsX4_replicate wsX4_nextOf := goodIn_r _ [23, 1, 58, 59, 60, 61, 62, 63, 64, 65, 66, 67, 68, 69, 70] (by decide +kernel) (by decide +kernel)
set_option maxRecDepth 20000 in
theorem gX4_replicate_X4_nextOf : GoodIn wsX4_replicate (wsV RX4 111 RX4 yX4_nextOf wsX4_nextOf) := goodIn_app (goodIn_of _ (by decide +kernel)) ggX4_replicate_X4_nextOf
set_option maxRecDepth 20000 in
theorem ggX4_replicate_X4_gets : GoodIn wsX4_replicate wsX4_gets := goodIn_r _ [27, 28, 29, 30, 31, 32, 33, 34, 6, 35, 36, 37, 38, 39, 40, 41, 42, 43, 44, 45, 46, 47, 2, 1, 48, 49, 50, 51, 52, 53, 54, 55, 56, 57, 58, 59, 60, 61, 62, 63, 64, 65, 66, 67, 68, 69, 70] (by decide +kernel) (by decide +kernel)
set_option maxRecDepth 20000 in
theorem gX4_replicate_X4_gets : GoodIn wsX4_replicate (wsV RX4 114 RX4 yX4_gets wsX4_gets) := goodIn_app (goodIn_of _ (by decide +kernel)) ggX4_replicate_X4_gets
theorem dX4_replicate_0 : decode cX4_replicate 0 = .ok (.aload_n 0, 1) := by decide +kernel
theorem dX4_replicate_1 : decode cX4_replicate 1 = .ok (.iload_n 1, 1) := by decide +kernel
theorem dX4_replicate_2 : decode cX4_replicate 2 = .ok (.invokestatic 87, 3) := by decide +kernel
theorem dX4_replicate_5 : decode cX4_replicate 5 = .ok (.ifCond .eq 14, 3) := by decide +kernel
theorem dX4_replicate_8 : decode cX4_replicate 8 = .ok (.iload_n 2, 1) := by decide +kernel
theorem dX4_replicate_9 : decode cX4_replicate 9 = .ok (.invokestatic 87, 3) := by decide +kernel
theorem dX4_replicate_12 : decode cX4_replicate 12 = .ok (.ifCond .eq 7, 3) := by decide +kernel
theorem dX4_replicate_15 : decode cX4_replicate 15 = .ok (.iconst 1, 1) := by decide +kernel
theorem dX4_replicate_16 : decode cX4_replicate 16 = .ok (.goto 4, 3) := by decide +kernel
theorem dX4_replicate_19 : decode cX4_replicate 19 = .ok (.iconst 0, 1) := by decide +kernel
theorem dX4_replicate_20 : decode cX4_replicate 20 = .ok (.iload_n 3, 1) := by decide +kernel
theorem dX4_replicate_21 : decode cX4_replicate 21 = .ok (.iconst 1, 1) := by decide +kernel
theorem dX4_replicate_22 : decode cX4_replicate 22 = .ok (.iconst 4, 1) := by decide +kernel
theorem dX4_replicate_23 : decode cX4_replicate 23 = .ok (.invokestatic 48, 3) := by decide +kernel
theorem dX4_replicate_26 : decode cX4_replicate 26 = .ok (.ifCond .eq 12, 3) := by decide +kernel
theorem dX4_replicate_29 : decode cX4_replicate 29 = .ok (.iload_n 1, 1) := by decide +kernel
theorem dX4_replicate_30 : decode cX4_replicate 30 = .ok (.iload_n 2, 1) := by decide +kernel
theorem dX4_replicate_31 : decode cX4_replicate 31 = .ok (.if_icmp .eq 7, 3) := by decide +kernel
theorem dX4_replicate_34 : decode cX4_replicate 34 = .ok (.iconst 1, 1) := by decide +kernel
theorem dX4_replicate_35 : decode cX4_replicate 35 = .ok (.goto 4, 3) := by decide +kernel
theorem dX4_replicate_38 : decode cX4_replicate 38 = .ok (.iconst 0, 1) := by decide +kernel
theorem dX4_replicate_39 : decode cX4_replicate 39 = .ok (.iconst 1, 1) := by decide +kernel
theorem dX4_replicate_40 : decode cX4_replicate 40 = .ok (.invokevirtual 100, 3) := by decide +kernel
theorem dX4_replicate_43 : decode cX4_replicate 43 = .ok (.ifCond .ne 5, 3) := by decide +kernel
theorem dX4_replicate_46 : decode cX4_replicate 46 = .ok (.iconst 0, 1) := by decide +kernel
theorem dX4_replicate_47 : decode cX4_replicate 47 = .ok (.ireturn, 1) := by decide +kernel
theorem dX4_replicate_48 : decode cX4_replicate 48 = .ok (.iconst 0, 1) := by decide +kernel
theorem dX4_replicate_49 : decode cX4_replicate 49 = .ok (.istore 4, 2) := by decide +kernel
theorem dX4_replicate_51 : decode cX4_replicate 51 = .ok (.aload_n 0, 1) := by decide +kernel
theorem dX4_replicate_52 : decode cX4_replicate 52 = .ok (.iload_n 1, 1) := by decide +kernel
theorem dX4_replicate_53 : decode cX4_replicate 53 = .ok (.iload_n 2, 1) := by decide +kernel
theorem dX4_replicate_54 : decode cX4_replicate 54 = .ok (.invokevirtual 108, 3) := by decide +kernel
theorem dX4_replicate_57 : decode cX4_replicate 57 = .ok (.istore 5, 2) := by decide +kernel
theorem dX4_replicate_59 : decode cX4_replicate 59 = .ok (.iconst 0, 1) := by decide +kernel
theorem dX4_replicate_60 : decode cX4_replicate 60 = .ok (.istore 6, 2) := by decide +kernel
theorem dX4_replicate_62 : decode cX4_replicate 62 = .ok (.iload 6, 2) := by decide +kernel
theorem dX4_replicate_64 : decode cX4_replicate 64 = .ok (.iload_n 3, 1) := by decide +kernel
theorem dX4_replicate_65 : decode cX4_replicate 65 = .ok (.if_icmp .ge 55, 3) := by decide +kernel
theorem dX4_replicate_68 : decode cX4_replicate 68 = .ok (.aload_n 0, 1) := by decide +kernel
theorem dX4_replicate_69 : decode cX4_replicate 69 = .ok (.iload_n 1, 1) := by decide +kernel
theorem dX4_replicate_70 : decode cX4_replicate 70 = .ok (.iload 5, 2) := by decide +kernel
theorem dX4_replicate_72 : decode cX4_replicate 72 = .ok (.invokevirtual 111, 3) := by decide +kernel
theorem dX4_replicate_75 : decode cX4_replicate 75 = .ok (.iconst (-1), 1) := by decide +kernel
theorem dX4_replicate_76 : decode cX4_replicate 76 = .ok (.if_icmp .eq 44, 3) := by decide +kernel
theorem dX4_replicate_79 : decode cX4_replicate 79 = .ok (.aload_n 0, 1) := by decide +kernel
theorem dX4_replicate_80 : decode cX4_replicate 80 = .ok (.iload_n 1, 1) := by decide +kernel
theorem dX4_replicate_81 : decode cX4_replicate 81 = .ok (.iload 5, 2) := by decide +kernel
theorem dX4_replicate_83 : decode cX4_replicate 83 = .ok (.invokevirtual 111, 3) := by decide +kernel
theorem dX4_replicate_86 : decode cX4_replicate 86 = .ok (.istore 7, 2) := by decide +kernel
theorem dX4_replicate_88 : decode cX4_replicate 88 = .ok (.iload 4, 2) := by decide +kernel
theorem dX4_replicate_90 : decode cX4_replicate 90 = .ok (.aload_n 0, 1) := by decide +kernel
theorem dX4_replicate_91 : decode cX4_replicate 91 = .ok (.iload_n 1, 1) := by decide +kernel
theorem dX4_replicate_92 : decode cX4_replicate 92 = .ok (.iload_n 2, 1) := by decide +kernel
theorem dX4_replicate_93 : decode cX4_replicate 93 = .ok (.iload 7, 2) := by decide +kernel
theorem dX4_replicate_95 : decode cX4_replicate 95 = .ok (.invokevirtual 114, 3) := by decide +kernel
theorem dX4_replicate_98 : decode cX4_replicate 98 = .ok (.iadd, 1) := by decide +kernel
theorem dX4_replicate_99 : decode cX4_replicate 99 = .ok (.istore 4, 2) := by decide +kernel
theorem dX4_replicate_101 : decode cX4_replicate 101 = .ok (.aload_n 0, 1) := by decide +kernel
theorem dX4_replicate_102 : decode cX4_replicate 102 = .ok (.getfield 38, 3) := by decide +kernel
theorem dX4_replicate_105 : decode cX4_replicate 105 = .ok (.iconst 4, 1) := by decide +kernel
theorem dX4_replicate_106 : decode cX4_replicate 106 = .ok (.iload_n 1, 1) := by decide +kernel
theorem dX4_replicate_107 : decode cX4_replicate 107 = .ok (.imul, 1) := by decide +kernel
theorem dX4_replicate_108 : decode cX4_replicate 108 = .ok (.iload 7, 2) := by decide +kernel
theorem dX4_replicate_110 : decode cX4_replicate 110 = .ok (.iadd, 1) := by decide +kernel
theorem dX4_replicate_111 : decode cX4_replicate 111 = .ok (.iaload, 1) := by decide +kernel
theorem dX4_replicate_112 : decode cX4_replicate 112 = .ok (.istore 5, 2) := by decide +kernel
theorem dX4_replicate_114 : decode cX4_replicate 114 = .ok (.iinc 6 1, 3) := by decide +kernel
theorem dX4_replicate_117 : decode cX4_replicate 117 = .ok (.goto (-55), 3) := by decide +kernel
theorem dX4_replicate_120 : decode cX4_replicate 120 = .ok (.aload_n 0, 1) := by decide +kernel
theorem dX4_replicate_121 : decode cX4_replicate 121 = .ok (.iload_n 1, 1) := by decide +kernel
theorem dX4_replicate_122 : decode cX4_replicate 122 = .ok (.iload 5, 2) := by decide +kernel
theorem dX4_replicate_124 : decode cX4_replicate 124 = .ok (.invokevirtual 111, 3) := by decide +kernel
theorem dX4_replicate_127 : decode cX4_replicate 127 = .ok (.iconst (-1), 1) := by decide +kernel
theorem dX4_replicate_128 : decode cX4_replicate 128 = .ok (.if_icmp .ne 12, 3) := by decide +kernel
theorem dX4_replicate_131 : decode cX4_replicate 131 = .ok (.aload_n 0, 1) := by decide +kernel
theorem dX4_replicate_132 : decode cX4_replicate 132 = .ok (.getfield 35, 3) := by decide +kernel
theorem dX4_replicate_135 : decode cX4_replicate 135 = .ok (.iload_n 1, 1) := by decide +kernel
theorem dX4_replicate_136 : decode cX4_replicate 136 = .ok (.iaload, 1) := by decide +kernel
theorem dX4_replicate_137 : decode cX4_replicate 137 = .ok (.goto 5, 3) := by decide +kernel
theorem dX4_replicate_140 : decode cX4_replicate 140 = .ok (.iload 5, 2) := by decide +kernel
theorem dX4_replicate_142 : decode cX4_replicate 142 = .ok (.istore 5, 2) := by decide +kernel
theorem dX4_replicate_144 : decode cX4_replicate 144 = .ok (.aload_n 0, 1) := by decide +kernel
theorem dX4_replicate_145 : decode cX4_replicate 145 = .ok (.getfield 41, 3) := by decide +kernel
theorem dX4_replicate_148 : decode cX4_replicate 148 = .ok (.bipush 9, 2) := by decide +kernel
theorem dX4_replicate_150 : decode cX4_replicate 150 = .ok (.iload_n 1, 1) := by decide +kernel
theorem dX4_replicate_151 : decode cX4_replicate 151 = .ok (.imul, 1) := by decide +kernel
theorem dX4_replicate_152 : decode cX4_replicate 152 = .ok (.iconst 3, 1) := by decide +kernel
theorem dX4_replicate_153 : decode cX4_replicate 153 = .ok (.iload_n 1, 1) := by decide +kernel
theorem dX4_replicate_154 : decode cX4_replicate 154 = .ok (.imul, 1) := by decide +kernel
theorem dX4_replicate_155 : decode cX4_replicate 155 = .ok (.iadd, 1) := by decide +kernel
theorem dX4_replicate_156 : decode cX4_replicate 156 = .ok (.iload_n 2, 1) := by decide +kernel
theorem dX4_replicate_157 : decode cX4_replicate 157 = .ok (.iadd, 1) := by decide +kernel
theorem dX4_replicate_158 : decode cX4_replicate 158 = .ok (.iload 5, 2) := by decide +kernel
theorem dX4_replicate_160 : decode cX4_replicate 160 = .ok (.iastore, 1) := by decide +kernel
theorem dX4_replicate_161 : decode cX4_replicate 161 = .ok (.aload_n 0, 1) := by decide +kernel
theorem dX4_replicate_162 : decode cX4_replicate 162 = .ok (.getfield 41, 3) := by decide +kernel
theorem dX4_replicate_165 : decode cX4_replicate 165 = .ok (.bipush 9, 2) := by decide +kernel
theorem dX4_replicate_167 : decode cX4_replicate 167 = .ok (.iload_n 2, 1) := by decide +kernel
theorem dX4_replicate_168 : decode cX4_replicate 168 = .ok (.imul, 1) := by decide +kernel
theorem dX4_replicate_169 : decode cX4_replicate 169 = .ok (.iconst 3, 1) := by decide +kernel
theorem dX4_replicate_170 : decode cX4_replicate 170 = .ok (.iload_n 1, 1) := by decide +kernel
theorem dX4_replicate_171 : decode cX4_replicate 171 = .ok (.imul, 1) := by decide +kernel
theorem dX4_replicate_172 : decode cX4_replicate 172 = .ok (.iadd, 1) := by decide +kernel
theorem dX4_replicate_173 : decode cX4_replicate 173 = .ok (.iload_n 2, 1) := by decide +kernel
theorem dX4_replicate_174 : decode cX4_replicate 174 = .ok (.iadd, 1) := by decide +kernel
theorem dX4_replicate_175 : decode cX4_replicate 175 = .ok (.iload 5, 2) := by decide +kernel
theorem dX4_replicate_177 : decode cX4_replicate 177 = .ok (.iastore, 1) := by decide +kernel
theorem dX4_replicate_178 : decode cX4_replicate 178 = .ok (.iload 4, 2) := by decide +kernel
theorem dX4_replicate_180 : decode cX4_replicate 180 = .ok (.ireturn, 1) := by decide +kernel
set_option maxRecDepth 20000 in
theorem ggX4_pending_X4_isStore : GoodIn wsX4_pending wsX4_isStore := goodIn_r _ [5, 6, 7, 4, 8] (by decide +kernel) (by decide +kernel)
set_option maxRecDepth 20000 in
theorem gX4_pending_X4_isStore : GoodIn wsX4_pending (va_wsS RX4 87 yX4_isStore wsX4_isStore) := goodIn_app (goodIn_of _ (by decide +kernel)) ggX4_pending_X4_isStore
set_option maxRecDepth 20000 in
theorem ggX4_pending_X4_goes : GoodIn wsX4_pending wsX4_goes := goodIn_r _ [12, 13, 19, 20, 21, 22, 23, 24, 25, 26, 27, 28, 29, 30, 31] (by decide +kernel) (by decide +kernel)
set_option maxRecDepth 20000 in
theorem gX4_pending_X4_goes : GoodIn wsX4_pending (wsV RX4 100 RX4 yX4_goes wsX4_goes) := goodIn_app (goodIn_of _ (by decide +kernel)) ggX4_pending_X4_goes
set_option maxRecDepth 20000 in
theorem ggX4_pending_X4_begins : GoodIn wsX4_pending wsX4_begins := goodIn_r _ [17, 18, 19, 20, 21, 22, 23, 24, 25, 26, 27, 28, 29, 30, 31] (by decide +kernel) (by decide +kernel)
set_option maxRecDepth 20000 in
theorem gX4_pending_X4_begins : GoodIn wsX4_pending (wsV RX4 108 RX4 yX4_begins wsX4_begins) := goodIn_app (goodIn_of _ (by decide +kernel)) ggX4_pending_X4_begins
theorem dX4_pending_0 : decode cX4_pending 0 = .ok (.aload_n 0, 1) := by decide +kernel
theorem dX4_pending_1 : decode cX4_pending 1 = .ok (.iload_n 1, 1) := by decide +kernel
theorem dX4_pending_2 : decode cX4_pending 2 = .ok (.invokestatic 87, 3) := by decide +kernel
theorem dX4_pending_5 : decode cX4_pending 5 = .ok (.ifCond .eq 14, 3) := by decide +kernel
theorem dX4_pending_8 : decode cX4_pending 8 = .ok (.iload_n 2, 1) := by decide +kernel
theorem dX4_pending_9 : decode cX4_pending 9 = .ok (.invokestatic 87, 3) := by decide +kernel
theorem dX4_pending_12 : decode cX4_pending 12 = .ok (.ifCond .eq 7, 3) := by decide +kernel
theorem dX4_pending_15 : decode cX4_pending 15 = .ok (.iconst 1, 1) := by decide +kernel
theorem dX4_pending_16 : decode cX4_pending 16 = .ok (.goto 4, 3) := by decide +kernel
theorem dX4_pending_19 : decode cX4_pending 19 = .ok (.iconst 0, 1) := by decide +kernel
theorem dX4_pending_20 : decode cX4_pending 20 = .ok (.iload_n 1, 1) := by decide +kernel
theorem dX4_pending_21 : decode cX4_pending 21 = .ok (.iload_n 2, 1) := by decide +kernel
theorem dX4_pending_22 : decode cX4_pending 22 = .ok (.if_icmp .eq 7, 3) := by decide +kernel
theorem dX4_pending_25 : decode cX4_pending 25 = .ok (.iconst 1, 1) := by decide +kernel
theorem dX4_pending_26 : decode cX4_pending 26 = .ok (.goto 4, 3) := by decide +kernel
theorem dX4_pending_29 : decode cX4_pending 29 = .ok (.iconst 0, 1) := by decide +kernel
theorem dX4_pending_30 : decode cX4_pending 30 = .ok (.iconst 1, 1) := by decide +kernel
theorem dX4_pending_31 : decode cX4_pending 31 = .ok (.invokevirtual 100, 3) := by decide +kernel
theorem dX4_pending_34 : decode cX4_pending 34 = .ok (.ifCond .ne 5, 3) := by decide +kernel
theorem dX4_pending_37 : decode cX4_pending 37 = .ok (.iconst 0, 1) := by decide +kernel
theorem dX4_pending_38 : decode cX4_pending 38 = .ok (.ireturn, 1) := by decide +kernel
theorem dX4_pending_39 : decode cX4_pending 39 = .ok (.iconst 0, 1) := by decide +kernel
theorem dX4_pending_40 : decode cX4_pending 40 = .ok (.istore_n 3, 1) := by decide +kernel
theorem dX4_pending_41 : decode cX4_pending 41 = .ok (.iconst 0, 1) := by decide +kernel
theorem dX4_pending_42 : decode cX4_pending 42 = .ok (.istore 4, 2) := by decide +kernel
theorem dX4_pending_44 : decode cX4_pending 44 = .ok (.iload 4, 2) := by decide +kernel
theorem dX4_pending_46 : decode cX4_pending 46 = .ok (.iconst 4, 1) := by decide +kernel
theorem dX4_pending_47 : decode cX4_pending 47 = .ok (.if_icmp .ge 37, 3) := by decide +kernel
theorem dX4_pending_50 : decode cX4_pending 50 = .ok (.iload_n 3, 1) := by decide +kernel
theorem dX4_pending_51 : decode cX4_pending 51 = .ok (.aload_n 0, 1) := by decide +kernel
theorem dX4_pending_52 : decode cX4_pending 52 = .ok (.getfield 38, 3) := by decide +kernel
theorem dX4_pending_55 : decode cX4_pending 55 = .ok (.iconst 4, 1) := by decide +kernel
theorem dX4_pending_56 : decode cX4_pending 56 = .ok (.iload_n 1, 1) := by decide +kernel
theorem dX4_pending_57 : decode cX4_pending 57 = .ok (.imul, 1) := by decide +kernel
theorem dX4_pending_58 : decode cX4_pending 58 = .ok (.iload 4, 2) := by decide +kernel
theorem dX4_pending_60 : decode cX4_pending 60 = .ok (.iadd, 1) := by decide +kernel
theorem dX4_pending_61 : decode cX4_pending 61 = .ok (.iaload, 1) := by decide +kernel
theorem dX4_pending_62 : decode cX4_pending 62 = .ok (.aload_n 0, 1) := by decide +kernel
theorem dX4_pending_63 : decode cX4_pending 63 = .ok (.iload_n 1, 1) := by decide +kernel
theorem dX4_pending_64 : decode cX4_pending 64 = .ok (.iload_n 2, 1) := by decide +kernel
theorem dX4_pending_65 : decode cX4_pending 65 = .ok (.invokevirtual 108, 3) := by decide +kernel
theorem dX4_pending_68 : decode cX4_pending 68 = .ok (.if_icmp .le 7, 3) := by decide +kernel
theorem dX4_pending_71 : decode cX4_pending 71 = .ok (.iconst 1, 1) := by decide +kernel
theorem dX4_pending_72 : decode cX4_pending 72 = .ok (.goto 4, 3) := by decide +kernel
theorem dX4_pending_75 : decode cX4_pending 75 = .ok (.iconst 0, 1) := by decide +kernel
theorem dX4_pending_76 : decode cX4_pending 76 = .ok (.iadd, 1) := by decide +kernel
theorem dX4_pending_77 : decode cX4_pending 77 = .ok (.istore_n 3, 1) := by decide +kernel
theorem dX4_pending_78 : decode cX4_pending 78 = .ok (.iinc 4 1, 3) := by decide +kernel
theorem dX4_pending_81 : decode cX4_pending 81 = .ok (.goto (-37), 3) := by decide +kernel
theorem dX4_pending_84 : decode cX4_pending 84 = .ok (.iload_n 3, 1) := by decide +kernel
theorem dX4_pending_85 : decode cX4_pending 85 = .ok (.ireturn, 1) := by decide +kernel
set_option maxRecDepth 20000 in
theorem ggX4_checkpoint_X4_isStore : GoodIn wsX4_checkpoint wsX4_isStore := goodIn_r _ [4, 5, 6, 3, 7] (by decide +kernel) (by decide +kernel)
set_option maxRecDepth 20000 in
theorem gX4_checkpoint_X4_isStore : GoodIn wsX4_checkpoint (va_wsS RX4 87 yX4_isStore wsX4_isStore) := goodIn_app (goodIn_of _ (by decide +kernel)) ggX4_checkpoint_X4_isStore
set_option maxRecDepth 20000 in
theorem ggX4_checkpoint_X4_goes : GoodIn wsX4_checkpoint wsX4_goes := goodIn_r _ [11, 12, 18, 19, 20, 21, 22, 23, 24, 25, 26, 27, 28, 29, 30] (by decide +kernel) (by decide +kernel)
set_option maxRecDepth 20000 in
theorem gX4_checkpoint_X4_goes : GoodIn wsX4_checkpoint (wsV RX4 100 RX4 yX4_goes wsX4_goes) := goodIn_app (goodIn_of _ (by decide +kernel)) ggX4_checkpoint_X4_goes
set_option maxRecDepth 20000 in
theorem ggX4_checkpoint_X4_begins : GoodIn wsX4_checkpoint wsX4_begins := goodIn_r _ [16, 17, 18, 19, 20, 21, 22, 23, 24, 25, 26, 27, 28, 29, 30] (by decide +kernel) (by decide +kernel)
set_option maxRecDepth 20000 in
theorem gX4_checkpoint_X4_begins : GoodIn wsX4_checkpoint (wsV RX4 108 RX4 yX4_begins wsX4_begins) := goodIn_app (goodIn_of _ (by decide +kernel)) ggX4_checkpoint_X4_begins
theorem dX4_checkpoint_0 : decode cX4_checkpoint 0 = .ok (.aload_n 0, 1) := by decide +kernel
theorem dX4_checkpoint_1 : decode cX4_checkpoint 1 = .ok (.iload_n 1, 1) := by decide +kernel
theorem dX4_checkpoint_2 : decode cX4_checkpoint 2 = .ok (.invokestatic 87, 3) := by decide +kernel
theorem dX4_checkpoint_5 : decode cX4_checkpoint 5 = .ok (.ifCond .eq 14, 3) := by decide +kernel
theorem dX4_checkpoint_8 : decode cX4_checkpoint 8 = .ok (.iload_n 2, 1) := by decide +kernel
theorem dX4_checkpoint_9 : decode cX4_checkpoint 9 = .ok (.invokestatic 87, 3) := by decide +kernel
theorem dX4_checkpoint_12 : decode cX4_checkpoint 12 = .ok (.ifCond .eq 7, 3) := by decide +kernel
theorem dX4_checkpoint_15 : decode cX4_checkpoint 15 = .ok (.iconst 1, 1) := by decide +kernel
theorem dX4_checkpoint_16 : decode cX4_checkpoint 16 = .ok (.goto 4, 3) := by decide +kernel
theorem dX4_checkpoint_19 : decode cX4_checkpoint 19 = .ok (.iconst 0, 1) := by decide +kernel
theorem dX4_checkpoint_20 : decode cX4_checkpoint 20 = .ok (.iload_n 1, 1) := by decide +kernel
theorem dX4_checkpoint_21 : decode cX4_checkpoint 21 = .ok (.iload_n 2, 1) := by decide +kernel
theorem dX4_checkpoint_22 : decode cX4_checkpoint 22 = .ok (.if_icmp .eq 7, 3) := by decide +kernel
theorem dX4_checkpoint_25 : decode cX4_checkpoint 25 = .ok (.iconst 1, 1) := by decide +kernel
theorem dX4_checkpoint_26 : decode cX4_checkpoint 26 = .ok (.goto 4, 3) := by decide +kernel
theorem dX4_checkpoint_29 : decode cX4_checkpoint 29 = .ok (.iconst 0, 1) := by decide +kernel
theorem dX4_checkpoint_30 : decode cX4_checkpoint 30 = .ok (.iconst 1, 1) := by decide +kernel
theorem dX4_checkpoint_31 : decode cX4_checkpoint 31 = .ok (.invokevirtual 100, 3) := by decide +kernel
theorem dX4_checkpoint_34 : decode cX4_checkpoint 34 = .ok (.ifCond .eq 12, 3) := by decide +kernel
theorem dX4_checkpoint_37 : decode cX4_checkpoint 37 = .ok (.aload_n 0, 1) := by decide +kernel
theorem dX4_checkpoint_38 : decode cX4_checkpoint 38 = .ok (.iload_n 1, 1) := by decide +kernel
theorem dX4_checkpoint_39 : decode cX4_checkpoint 39 = .ok (.iload_n 2, 1) := by decide +kernel
theorem dX4_checkpoint_40 : decode cX4_checkpoint 40 = .ok (.invokevirtual 108, 3) := by decide +kernel
theorem dX4_checkpoint_43 : decode cX4_checkpoint 43 = .ok (.goto 4, 3) := by decide +kernel
theorem dX4_checkpoint_46 : decode cX4_checkpoint 46 = .ok (.iconst 0, 1) := by decide +kernel
theorem dX4_checkpoint_47 : decode cX4_checkpoint 47 = .ok (.ireturn, 1) := by decide +kernel
theorem dX4_revisions_0 : decode cX4_revisions 0 = .ok (.aload_n 0, 1) := by decide +kernel
theorem dX4_revisions_1 : decode cX4_revisions 1 = .ok (.iconst 0, 1) := by decide +kernel
theorem dX4_revisions_2 : decode cX4_revisions 2 = .ok (.putfield 44, 3) := by decide +kernel
theorem dX4_revisions_5 : decode cX4_revisions 5 = .ok (.aload_n 0, 1) := by decide +kernel
theorem dX4_revisions_6 : decode cX4_revisions 6 = .ok (.getfield 52, 3) := by decide +kernel
theorem dX4_revisions_9 : decode cX4_revisions 9 = .ok (.ireturn, 1) := by decide +kernel
set_option maxRecDepth 20000 in
theorem ggX4_documentOf_X4_isRevision : GoodIn wsX4_documentOf wsX4_isRevision := goodIn_r _ [6, 7, 8, 9, 5, 10, 16, 17, 18, 19, 20, 21, 22, 23, 24, 25, 26, 27, 28] (by decide +kernel) (by decide +kernel)
set_option maxRecDepth 20000 in
theorem gX4_documentOf_X4_isRevision : GoodIn wsX4_documentOf (wsV RX4 94 RX4 yX4_isRevision wsX4_isRevision) := goodIn_app (goodIn_of _ (by decide +kernel)) ggX4_documentOf_X4_isRevision
set_option maxRecDepth 20000 in
theorem ggX4_documentOf_X4_goes : GoodIn wsX4_documentOf wsX4_goes := goodIn_r _ [14, 15, 16, 17, 18, 19, 20, 21, 22, 23, 24, 25, 26, 27, 28] (by decide +kernel) (by decide +kernel)
set_option maxRecDepth 20000 in
theorem gX4_documentOf_X4_goes : GoodIn wsX4_documentOf (wsV RX4 100 RX4 yX4_goes wsX4_goes) := goodIn_app (goodIn_of _ (by decide +kernel)) ggX4_documentOf_X4_goes
theorem dX4_documentOf_0 : decode cX4_documentOf 0 = .ok (.aload_n 0, 1) := by decide +kernel
theorem dX4_documentOf_1 : decode cX4_documentOf 1 = .ok (.aload_n 0, 1) := by decide +kernel
theorem dX4_documentOf_2 : decode cX4_documentOf 2 = .ok (.iload_n 1, 1) := by decide +kernel
theorem dX4_documentOf_3 : decode cX4_documentOf 3 = .ok (.invokevirtual 94, 3) := by decide +kernel
theorem dX4_documentOf_6 : decode cX4_documentOf 6 = .ok (.iconst 1, 1) := by decide +kernel
theorem dX4_documentOf_7 : decode cX4_documentOf 7 = .ok (.iconst 1, 1) := by decide +kernel
theorem dX4_documentOf_8 : decode cX4_documentOf 8 = .ok (.invokevirtual 100, 3) := by decide +kernel
theorem dX4_documentOf_11 : decode cX4_documentOf 11 = .ok (.ifCond .eq 12, 3) := by decide +kernel
theorem dX4_documentOf_14 : decode cX4_documentOf 14 = .ok (.aload_n 0, 1) := by decide +kernel
theorem dX4_documentOf_15 : decode cX4_documentOf 15 = .ok (.getfield 7, 3) := by decide +kernel
theorem dX4_documentOf_18 : decode cX4_documentOf 18 = .ok (.iload_n 1, 1) := by decide +kernel
theorem dX4_documentOf_19 : decode cX4_documentOf 19 = .ok (.iaload, 1) := by decide +kernel
theorem dX4_documentOf_20 : decode cX4_documentOf 20 = .ok (.goto 4, 3) := by decide +kernel
theorem dX4_documentOf_23 : decode cX4_documentOf 23 = .ok (.iconst 0, 1) := by decide +kernel
theorem dX4_documentOf_24 : decode cX4_documentOf 24 = .ok (.ireturn, 1) := by decide +kernel
set_option maxRecDepth 20000 in
theorem ggX4_parentOf_X4_isRevision : GoodIn wsX4_parentOf wsX4_isRevision := goodIn_r _ [6, 7, 8, 9, 5, 10, 16, 17, 18, 19, 20, 21, 22, 23, 24, 25, 26, 27, 28] (by decide +kernel) (by decide +kernel)
set_option maxRecDepth 20000 in
theorem gX4_parentOf_X4_isRevision : GoodIn wsX4_parentOf (wsV RX4 94 RX4 yX4_isRevision wsX4_isRevision) := goodIn_app (goodIn_of _ (by decide +kernel)) ggX4_parentOf_X4_isRevision
set_option maxRecDepth 20000 in
theorem ggX4_parentOf_X4_goes : GoodIn wsX4_parentOf wsX4_goes := goodIn_r _ [14, 15, 16, 17, 18, 19, 20, 21, 22, 23, 24, 25, 26, 27, 28] (by decide +kernel) (by decide +kernel)
set_option maxRecDepth 20000 in
theorem gX4_parentOf_X4_goes : GoodIn wsX4_parentOf (wsV RX4 100 RX4 yX4_goes wsX4_goes) := goodIn_app (goodIn_of _ (by decide +kernel)) ggX4_parentOf_X4_goes
theorem dX4_parentOf_0 : decode cX4_parentOf 0 = .ok (.aload_n 0, 1) := by decide +kernel
theorem dX4_parentOf_1 : decode cX4_parentOf 1 = .ok (.aload_n 0, 1) := by decide +kernel
theorem dX4_parentOf_2 : decode cX4_parentOf 2 = .ok (.iload_n 1, 1) := by decide +kernel
theorem dX4_parentOf_3 : decode cX4_parentOf 3 = .ok (.invokevirtual 94, 3) := by decide +kernel
theorem dX4_parentOf_6 : decode cX4_parentOf 6 = .ok (.iconst 1, 1) := by decide +kernel
theorem dX4_parentOf_7 : decode cX4_parentOf 7 = .ok (.iconst 1, 1) := by decide +kernel
theorem dX4_parentOf_8 : decode cX4_parentOf 8 = .ok (.invokevirtual 100, 3) := by decide +kernel
theorem dX4_parentOf_11 : decode cX4_parentOf 11 = .ok (.ifCond .eq 12, 3) := by decide +kernel
theorem dX4_parentOf_14 : decode cX4_parentOf 14 = .ok (.aload_n 0, 1) := by decide +kernel
theorem dX4_parentOf_15 : decode cX4_parentOf 15 = .ok (.getfield 13, 3) := by decide +kernel
theorem dX4_parentOf_18 : decode cX4_parentOf 18 = .ok (.iload_n 1, 1) := by decide +kernel
theorem dX4_parentOf_19 : decode cX4_parentOf 19 = .ok (.iaload, 1) := by decide +kernel
theorem dX4_parentOf_20 : decode cX4_parentOf 20 = .ok (.goto 4, 3) := by decide +kernel
theorem dX4_parentOf_23 : decode cX4_parentOf 23 = .ok (.iconst 0, 1) := by decide +kernel
theorem dX4_parentOf_24 : decode cX4_parentOf 24 = .ok (.ireturn, 1) := by decide +kernel
set_option maxRecDepth 20000 in
theorem ggX4_generation_X4_isRevision : GoodIn wsX4_generation wsX4_isRevision := goodIn_r _ [6, 7, 8, 9, 5, 10, 16, 17, 18, 19, 20, 21, 22, 23, 24, 25, 26, 27, 28] (by decide +kernel) (by decide +kernel)
set_option maxRecDepth 20000 in
theorem gX4_generation_X4_isRevision : GoodIn wsX4_generation (wsV RX4 94 RX4 yX4_isRevision wsX4_isRevision) := goodIn_app (goodIn_of _ (by decide +kernel)) ggX4_generation_X4_isRevision
set_option maxRecDepth 20000 in
theorem ggX4_generation_X4_goes : GoodIn wsX4_generation wsX4_goes := goodIn_r _ [14, 15, 16, 17, 18, 19, 20, 21, 22, 23, 24, 25, 26, 27, 28] (by decide +kernel) (by decide +kernel)
set_option maxRecDepth 20000 in
theorem gX4_generation_X4_goes : GoodIn wsX4_generation (wsV RX4 100 RX4 yX4_goes wsX4_goes) := goodIn_app (goodIn_of _ (by decide +kernel)) ggX4_generation_X4_goes
theorem dX4_generation_0 : decode cX4_generation 0 = .ok (.aload_n 0, 1) := by decide +kernel
theorem dX4_generation_1 : decode cX4_generation 1 = .ok (.aload_n 0, 1) := by decide +kernel
theorem dX4_generation_2 : decode cX4_generation 2 = .ok (.iload_n 1, 1) := by decide +kernel
theorem dX4_generation_3 : decode cX4_generation 3 = .ok (.invokevirtual 94, 3) := by decide +kernel
theorem dX4_generation_6 : decode cX4_generation 6 = .ok (.iconst 1, 1) := by decide +kernel
theorem dX4_generation_7 : decode cX4_generation 7 = .ok (.iconst 1, 1) := by decide +kernel
theorem dX4_generation_8 : decode cX4_generation 8 = .ok (.invokevirtual 100, 3) := by decide +kernel
theorem dX4_generation_11 : decode cX4_generation 11 = .ok (.ifCond .eq 12, 3) := by decide +kernel
theorem dX4_generation_14 : decode cX4_generation 14 = .ok (.aload_n 0, 1) := by decide +kernel
theorem dX4_generation_15 : decode cX4_generation 15 = .ok (.getfield 23, 3) := by decide +kernel
theorem dX4_generation_18 : decode cX4_generation 18 = .ok (.iload_n 1, 1) := by decide +kernel
theorem dX4_generation_19 : decode cX4_generation 19 = .ok (.iaload, 1) := by decide +kernel
theorem dX4_generation_20 : decode cX4_generation 20 = .ok (.goto 4, 3) := by decide +kernel
theorem dX4_generation_23 : decode cX4_generation 23 = .ok (.iconst 0, 1) := by decide +kernel
theorem dX4_generation_24 : decode cX4_generation 24 = .ok (.ireturn, 1) := by decide +kernel
set_option maxRecDepth 20000 in
theorem ggX4_sum_X4_isRevision : GoodIn wsX4_sum wsX4_isRevision := goodIn_r _ [6, 7, 8, 9, 5, 10, 16, 17, 18, 19, 20, 21, 22, 23, 24, 25, 26, 27, 28] (by decide +kernel) (by decide +kernel)
set_option maxRecDepth 20000 in
theorem gX4_sum_X4_isRevision : GoodIn wsX4_sum (wsV RX4 94 RX4 yX4_isRevision wsX4_isRevision) := goodIn_app (goodIn_of _ (by decide +kernel)) ggX4_sum_X4_isRevision
set_option maxRecDepth 20000 in
theorem ggX4_sum_X4_goes : GoodIn wsX4_sum wsX4_goes := goodIn_r _ [14, 15, 16, 17, 18, 19, 20, 21, 22, 23, 24, 25, 26, 27, 28] (by decide +kernel) (by decide +kernel)
set_option maxRecDepth 20000 in
theorem gX4_sum_X4_goes : GoodIn wsX4_sum (wsV RX4 100 RX4 yX4_goes wsX4_goes) := goodIn_app (goodIn_of _ (by decide +kernel)) ggX4_sum_X4_goes
theorem dX4_sum_0 : decode cX4_sum 0 = .ok (.aload_n 0, 1) := by decide +kernel
theorem dX4_sum_1 : decode cX4_sum 1 = .ok (.aload_n 0, 1) := by decide +kernel
theorem dX4_sum_2 : decode cX4_sum 2 = .ok (.iload_n 1, 1) := by decide +kernel
theorem dX4_sum_3 : decode cX4_sum 3 = .ok (.invokevirtual 94, 3) := by decide +kernel
theorem dX4_sum_6 : decode cX4_sum 6 = .ok (.iconst 1, 1) := by decide +kernel
theorem dX4_sum_7 : decode cX4_sum 7 = .ok (.iconst 1, 1) := by decide +kernel
theorem dX4_sum_8 : decode cX4_sum 8 = .ok (.invokevirtual 100, 3) := by decide +kernel
theorem dX4_sum_11 : decode cX4_sum 11 = .ok (.ifCond .eq 12, 3) := by decide +kernel
theorem dX4_sum_14 : decode cX4_sum 14 = .ok (.aload_n 0, 1) := by decide +kernel
theorem dX4_sum_15 : decode cX4_sum 15 = .ok (.getfield 26, 3) := by decide +kernel
theorem dX4_sum_18 : decode cX4_sum 18 = .ok (.iload_n 1, 1) := by decide +kernel
theorem dX4_sum_19 : decode cX4_sum 19 = .ok (.iaload, 1) := by decide +kernel
theorem dX4_sum_20 : decode cX4_sum 20 = .ok (.goto 4, 3) := by decide +kernel
theorem dX4_sum_23 : decode cX4_sum 23 = .ok (.iconst 0, 1) := by decide +kernel
theorem dX4_sum_24 : decode cX4_sum 24 = .ok (.ireturn, 1) := by decide +kernel
set_option maxRecDepth 20000 in
theorem ggX4_valueOf_X4_isRevision : GoodIn wsX4_valueOf wsX4_isRevision := goodIn_r _ [7, 8, 9, 10, 6, 11, 17, 18, 19, 20, 21, 22, 23, 24, 25, 26, 27, 28, 29] (by decide +kernel) (by decide +kernel)
set_option maxRecDepth 20000 in
theorem gX4_valueOf_X4_isRevision : GoodIn wsX4_valueOf (wsV RX4 94 RX4 yX4_isRevision wsX4_isRevision) := goodIn_app (goodIn_of _ (by decide +kernel)) ggX4_valueOf_X4_isRevision
set_option maxRecDepth 20000 in
theorem ggX4_valueOf_X4_goes : GoodIn wsX4_valueOf wsX4_goes := goodIn_r _ [15, 16, 17, 18, 19, 20, 21, 22, 23, 24, 25, 26, 27, 28, 29] (by decide +kernel) (by decide +kernel)
set_option maxRecDepth 20000 in
theorem gX4_valueOf_X4_goes : GoodIn wsX4_valueOf (wsV RX4 100 RX4 yX4_goes wsX4_goes) := goodIn_app (goodIn_of _ (by decide +kernel)) ggX4_valueOf_X4_goes
theorem dX4_valueOf_0 : decode cX4_valueOf 0 = .ok (.aload_n 0, 1) := by decide +kernel
theorem dX4_valueOf_1 : decode cX4_valueOf 1 = .ok (.aload_n 0, 1) := by decide +kernel
theorem dX4_valueOf_2 : decode cX4_valueOf 2 = .ok (.iload_n 1, 1) := by decide +kernel
theorem dX4_valueOf_3 : decode cX4_valueOf 3 = .ok (.invokevirtual 94, 3) := by decide +kernel
theorem dX4_valueOf_6 : decode cX4_valueOf 6 = .ok (.iconst 1, 1) := by decide +kernel
theorem dX4_valueOf_7 : decode cX4_valueOf 7 = .ok (.iconst 1, 1) := by decide +kernel
theorem dX4_valueOf_8 : decode cX4_valueOf 8 = .ok (.invokevirtual 100, 3) := by decide +kernel
theorem dX4_valueOf_11 : decode cX4_valueOf 11 = .ok (.ifCond .eq 25, 3) := by decide +kernel
theorem dX4_valueOf_14 : decode cX4_valueOf 14 = .ok (.aload_n 0, 1) := by decide +kernel
theorem dX4_valueOf_15 : decode cX4_valueOf 15 = .ok (.getfield 19, 3) := by decide +kernel
theorem dX4_valueOf_18 : decode cX4_valueOf 18 = .ok (.iload_n 1, 1) := by decide +kernel
theorem dX4_valueOf_19 : decode cX4_valueOf 19 = .ok (.baload, 1) := by decide +kernel
theorem dX4_valueOf_20 : decode cX4_valueOf 20 = .ok (.ifCond .eq 7, 3) := by decide +kernel
theorem dX4_valueOf_23 : decode cX4_valueOf 23 = .ok (.iconst (-1), 1) := by decide +kernel
theorem dX4_valueOf_24 : decode cX4_valueOf 24 = .ok (.goto 13, 3) := by decide +kernel
theorem dX4_valueOf_27 : decode cX4_valueOf 27 = .ok (.aload_n 0, 1) := by decide +kernel
theorem dX4_valueOf_28 : decode cX4_valueOf 28 = .ok (.getfield 16, 3) := by decide +kernel
theorem dX4_valueOf_31 : decode cX4_valueOf 31 = .ok (.iload_n 1, 1) := by decide +kernel
theorem dX4_valueOf_32 : decode cX4_valueOf 32 = .ok (.iaload, 1) := by decide +kernel
theorem dX4_valueOf_33 : decode cX4_valueOf 33 = .ok (.goto 4, 3) := by decide +kernel
theorem dX4_valueOf_36 : decode cX4_valueOf 36 = .ok (.iconst 0, 1) := by decide +kernel
theorem dX4_valueOf_37 : decode cX4_valueOf 37 = .ok (.ireturn, 1) := by decide +kernel
set_option maxRecDepth 20000 in
theorem ggX4_sequence_X4_isStore : GoodIn wsX4_sequence wsX4_isStore := goodIn_r _ [5, 6, 7, 4, 8] (by decide +kernel) (by decide +kernel)
set_option maxRecDepth 20000 in
theorem gX4_sequence_X4_isStore : GoodIn wsX4_sequence (va_wsS RX4 87 yX4_isStore wsX4_isStore) := goodIn_app (goodIn_of _ (by decide +kernel)) ggX4_sequence_X4_isStore
set_option maxRecDepth 20000 in
theorem ggX4_sequence_X4_goes : GoodIn wsX4_sequence wsX4_goes := goodIn_r _ [12, 13, 14, 15, 16, 17, 18, 19, 20, 21, 22, 23, 24, 25, 26] (by decide +kernel) (by decide +kernel)
set_option maxRecDepth 20000 in
theorem gX4_sequence_X4_goes : GoodIn wsX4_sequence (wsV RX4 100 RX4 yX4_goes wsX4_goes) := goodIn_app (goodIn_of _ (by decide +kernel)) ggX4_sequence_X4_goes
theorem dX4_sequence_0 : decode cX4_sequence 0 = .ok (.aload_n 0, 1) := by decide +kernel
theorem dX4_sequence_1 : decode cX4_sequence 1 = .ok (.iload_n 1, 1) := by decide +kernel
theorem dX4_sequence_2 : decode cX4_sequence 2 = .ok (.invokestatic 87, 3) := by decide +kernel
theorem dX4_sequence_5 : decode cX4_sequence 5 = .ok (.iconst 1, 1) := by decide +kernel
theorem dX4_sequence_6 : decode cX4_sequence 6 = .ok (.iconst 1, 1) := by decide +kernel
theorem dX4_sequence_7 : decode cX4_sequence 7 = .ok (.invokevirtual 100, 3) := by decide +kernel
theorem dX4_sequence_10 : decode cX4_sequence 10 = .ok (.ifCond .eq 12, 3) := by decide +kernel
theorem dX4_sequence_13 : decode cX4_sequence 13 = .ok (.aload_n 0, 1) := by decide +kernel
theorem dX4_sequence_14 : decode cX4_sequence 14 = .ok (.getfield 35, 3) := by decide +kernel
theorem dX4_sequence_17 : decode cX4_sequence 17 = .ok (.iload_n 1, 1) := by decide +kernel
theorem dX4_sequence_18 : decode cX4_sequence 18 = .ok (.iaload, 1) := by decide +kernel
theorem dX4_sequence_19 : decode cX4_sequence 19 = .ok (.goto 4, 3) := by decide +kernel
theorem dX4_sequence_22 : decode cX4_sequence 22 = .ok (.iconst 0, 1) := by decide +kernel
theorem dX4_sequence_23 : decode cX4_sequence 23 = .ok (.ireturn, 1) := by decide +kernel
set_option maxRecDepth 20000 in
theorem ggX4_has_X4_isStore : GoodIn wsX4_has wsX4_isStore := goodIn_r _ [5, 6, 7, 4, 8] (by decide +kernel) (by decide +kernel)
set_option maxRecDepth 20000 in
theorem gX4_has_X4_isStore : GoodIn wsX4_has (va_wsS RX4 87 yX4_isStore wsX4_isStore) := goodIn_app (goodIn_of _ (by decide +kernel)) ggX4_has_X4_isStore
set_option maxRecDepth 20000 in
theorem ggX4_has_X4_isRevision : GoodIn wsX4_has wsX4_isRevision := goodIn_r _ [12, 13, 6, 7, 4, 8, 19, 20, 21, 22, 23, 24, 25, 26, 27, 28, 29, 30, 31] (by decide +kernel) (by decide +kernel)
set_option maxRecDepth 20000 in
theorem gX4_has_X4_isRevision : GoodIn wsX4_has (wsV RX4 94 RX4 yX4_isRevision wsX4_isRevision) := goodIn_app (goodIn_of _ (by decide +kernel)) ggX4_has_X4_isRevision
set_option maxRecDepth 20000 in
theorem ggX4_has_X4_goes : GoodIn wsX4_has wsX4_goes := goodIn_r _ [17, 18, 19, 20, 21, 22, 23, 24, 25, 26, 27, 28, 29, 30, 31] (by decide +kernel) (by decide +kernel)
set_option maxRecDepth 20000 in
theorem gX4_has_X4_goes : GoodIn wsX4_has (wsV RX4 100 RX4 yX4_goes wsX4_goes) := goodIn_app (goodIn_of _ (by decide +kernel)) ggX4_has_X4_goes
theorem dX4_has_0 : decode cX4_has 0 = .ok (.aload_n 0, 1) := by decide +kernel
theorem dX4_has_1 : decode cX4_has 1 = .ok (.iload_n 1, 1) := by decide +kernel
theorem dX4_has_2 : decode cX4_has 2 = .ok (.invokestatic 87, 3) := by decide +kernel
theorem dX4_has_5 : decode cX4_has 5 = .ok (.ifCond .eq 15, 3) := by decide +kernel
theorem dX4_has_8 : decode cX4_has 8 = .ok (.aload_n 0, 1) := by decide +kernel
theorem dX4_has_9 : decode cX4_has 9 = .ok (.iload_n 2, 1) := by decide +kernel
theorem dX4_has_10 : decode cX4_has 10 = .ok (.invokevirtual 94, 3) := by decide +kernel
theorem dX4_has_13 : decode cX4_has 13 = .ok (.ifCond .eq 7, 3) := by decide +kernel
theorem dX4_has_16 : decode cX4_has 16 = .ok (.iconst 1, 1) := by decide +kernel
theorem dX4_has_17 : decode cX4_has 17 = .ok (.goto 4, 3) := by decide +kernel
theorem dX4_has_20 : decode cX4_has 20 = .ok (.iconst 0, 1) := by decide +kernel
theorem dX4_has_21 : decode cX4_has 21 = .ok (.iconst 1, 1) := by decide +kernel
theorem dX4_has_22 : decode cX4_has 22 = .ok (.iconst 1, 1) := by decide +kernel
theorem dX4_has_23 : decode cX4_has 23 = .ok (.invokevirtual 100, 3) := by decide +kernel
theorem dX4_has_26 : decode cX4_has 26 = .ok (.ifCond .eq 22, 3) := by decide +kernel
theorem dX4_has_29 : decode cX4_has 29 = .ok (.aload_n 0, 1) := by decide +kernel
theorem dX4_has_30 : decode cX4_has 30 = .ok (.getfield 29, 3) := by decide +kernel
theorem dX4_has_33 : decode cX4_has 33 = .ok (.sipush 150, 3) := by decide +kernel
theorem dX4_has_36 : decode cX4_has 36 = .ok (.iload_n 1, 1) := by decide +kernel
theorem dX4_has_37 : decode cX4_has 37 = .ok (.imul, 1) := by decide +kernel
theorem dX4_has_38 : decode cX4_has 38 = .ok (.iload_n 2, 1) := by decide +kernel
theorem dX4_has_39 : decode cX4_has 39 = .ok (.iadd, 1) := by decide +kernel
theorem dX4_has_40 : decode cX4_has 40 = .ok (.baload, 1) := by decide +kernel
theorem dX4_has_41 : decode cX4_has 41 = .ok (.ifCond .eq 7, 3) := by decide +kernel
theorem dX4_has_44 : decode cX4_has 44 = .ok (.iconst 1, 1) := by decide +kernel
theorem dX4_has_45 : decode cX4_has 45 = .ok (.goto 4, 3) := by decide +kernel
theorem dX4_has_48 : decode cX4_has 48 = .ok (.iconst 0, 1) := by decide +kernel
theorem dX4_has_49 : decode cX4_has 49 = .ok (.ireturn, 1) := by decide +kernel
set_option maxRecDepth 20000 in
theorem ggX4_isLeaf_X4_isStore : GoodIn wsX4_isLeaf wsX4_isStore := goodIn_r _ [4, 5, 6, 3, 7] (by decide +kernel) (by decide +kernel)
set_option maxRecDepth 20000 in
theorem gX4_isLeaf_X4_isStore : GoodIn wsX4_isLeaf (va_wsS RX4 87 yX4_isStore wsX4_isStore) := goodIn_app (goodIn_of _ (by decide +kernel)) ggX4_isLeaf_X4_isStore
set_option maxRecDepth 20000 in
theorem ggX4_isLeaf_X4_isRevision : GoodIn wsX4_isLeaf wsX4_isRevision := goodIn_r _ [11, 12, 5, 6, 3, 7, 32, 33, 34, 35, 36, 37, 38, 39, 40, 41, 42, 43, 44] (by decide +kernel) (by decide +kernel)
set_option maxRecDepth 20000 in
theorem gX4_isLeaf_X4_isRevision : GoodIn wsX4_isLeaf (wsV RX4 94 RX4 yX4_isRevision wsX4_isRevision) := goodIn_app (goodIn_of _ (by decide +kernel)) ggX4_isLeaf_X4_isRevision
set_option maxRecDepth 20000 in
theorem ggX4_isLeaf_X4_goes : GoodIn wsX4_isLeaf wsX4_goes := goodIn_r _ [16, 17, 32, 33, 34, 35, 36, 37, 38, 39, 40, 41, 42, 43, 44] (by decide +kernel) (by decide +kernel)
set_option maxRecDepth 20000 in
theorem gX4_isLeaf_X4_goes : GoodIn wsX4_isLeaf (wsV RX4 100 RX4 yX4_goes wsX4_goes) := goodIn_app (goodIn_of _ (by decide +kernel)) ggX4_isLeaf_X4_goes
set_option maxRecDepth 20000 in
theorem ggX4_isLeaf_X4_leaf : GoodIn wsX4_isLeaf wsX4_leaf := goodIn_r _ [21, 22, 23, 24, 25, 3, 26, 12, 27, 28, 29, 30, 31, 32, 33, 34, 35, 36, 37, 38, 39, 40, 41, 42, 43, 44] (by decide +kernel) (by decide +kernel)
set_option maxRecDepth 20000 in
theorem gX4_isLeaf_X4_leaf : GoodIn wsX4_isLeaf (wsV RX4 62 RX4 yX4_leaf wsX4_leaf) := goodIn_app (goodIn_of _ (by decide +kernel)) ggX4_isLeaf_X4_leaf
theorem dX4_isLeaf_0 : decode cX4_isLeaf 0 = .ok (.aload_n 0, 1) := by decide +kernel
theorem dX4_isLeaf_1 : decode cX4_isLeaf 1 = .ok (.iload_n 1, 1) := by decide +kernel
theorem dX4_isLeaf_2 : decode cX4_isLeaf 2 = .ok (.invokestatic 87, 3) := by decide +kernel
theorem dX4_isLeaf_5 : decode cX4_isLeaf 5 = .ok (.ifCond .eq 15, 3) := by decide +kernel
theorem dX4_isLeaf_8 : decode cX4_isLeaf 8 = .ok (.aload_n 0, 1) := by decide +kernel
theorem dX4_isLeaf_9 : decode cX4_isLeaf 9 = .ok (.iload_n 2, 1) := by decide +kernel
theorem dX4_isLeaf_10 : decode cX4_isLeaf 10 = .ok (.invokevirtual 94, 3) := by decide +kernel
theorem dX4_isLeaf_13 : decode cX4_isLeaf 13 = .ok (.ifCond .eq 7, 3) := by decide +kernel
theorem dX4_isLeaf_16 : decode cX4_isLeaf 16 = .ok (.iconst 1, 1) := by decide +kernel
theorem dX4_isLeaf_17 : decode cX4_isLeaf 17 = .ok (.goto 4, 3) := by decide +kernel
theorem dX4_isLeaf_20 : decode cX4_isLeaf 20 = .ok (.iconst 0, 1) := by decide +kernel
theorem dX4_isLeaf_21 : decode cX4_isLeaf 21 = .ok (.iconst 1, 1) := by decide +kernel
theorem dX4_isLeaf_22 : decode cX4_isLeaf 22 = .ok (.iconst 1, 1) := by decide +kernel
theorem dX4_isLeaf_23 : decode cX4_isLeaf 23 = .ok (.invokevirtual 100, 3) := by decide +kernel
theorem dX4_isLeaf_26 : decode cX4_isLeaf 26 = .ok (.ifCond .eq 16, 3) := by decide +kernel
theorem dX4_isLeaf_29 : decode cX4_isLeaf 29 = .ok (.aload_n 0, 1) := by decide +kernel
theorem dX4_isLeaf_30 : decode cX4_isLeaf 30 = .ok (.iload_n 1, 1) := by decide +kernel
theorem dX4_isLeaf_31 : decode cX4_isLeaf 31 = .ok (.iload_n 2, 1) := by decide +kernel
theorem dX4_isLeaf_32 : decode cX4_isLeaf 32 = .ok (.invokevirtual 62, 3) := by decide +kernel
theorem dX4_isLeaf_35 : decode cX4_isLeaf 35 = .ok (.ifCond .eq 7, 3) := by decide +kernel
theorem dX4_isLeaf_38 : decode cX4_isLeaf 38 = .ok (.iconst 1, 1) := by decide +kernel
theorem dX4_isLeaf_39 : decode cX4_isLeaf 39 = .ok (.goto 4, 3) := by decide +kernel
theorem dX4_isLeaf_42 : decode cX4_isLeaf 42 = .ok (.iconst 0, 1) := by decide +kernel
theorem dX4_isLeaf_43 : decode cX4_isLeaf 43 = .ok (.ireturn, 1) := by decide +kernel
set_option maxRecDepth 20000 in
theorem ggX4_size_X4_isStore : GoodIn wsX4_size wsX4_isStore := goodIn_r _ [6, 7, 8, 5, 9] (by decide +kernel) (by decide +kernel)
set_option maxRecDepth 20000 in
theorem gX4_size_X4_isStore : GoodIn wsX4_size (va_wsS RX4 87 yX4_isStore wsX4_isStore) := goodIn_app (goodIn_of _ (by decide +kernel)) ggX4_size_X4_isStore
set_option maxRecDepth 20000 in
theorem ggX4_size_X4_goes : GoodIn wsX4_size wsX4_goes := goodIn_r _ [13, 14, 15, 16, 17, 18, 19, 20, 21, 22, 23, 24, 25, 26, 27] (by decide +kernel) (by decide +kernel)
set_option maxRecDepth 20000 in
theorem gX4_size_X4_goes : GoodIn wsX4_size (wsV RX4 100 RX4 yX4_goes wsX4_goes) := goodIn_app (goodIn_of _ (by decide +kernel)) ggX4_size_X4_goes
theorem dX4_size_0 : decode cX4_size 0 = .ok (.iconst 0, 1) := by decide +kernel
theorem dX4_size_1 : decode cX4_size 1 = .ok (.istore_n 2, 1) := by decide +kernel
theorem dX4_size_2 : decode cX4_size 2 = .ok (.aload_n 0, 1) := by decide +kernel
theorem dX4_size_3 : decode cX4_size 3 = .ok (.iload_n 1, 1) := by decide +kernel
theorem dX4_size_4 : decode cX4_size 4 = .ok (.invokestatic 87, 3) := by decide +kernel
theorem dX4_size_7 : decode cX4_size 7 = .ok (.iconst 1, 1) := by decide +kernel
theorem dX4_size_8 : decode cX4_size 8 = .ok (.iconst 1, 1) := by decide +kernel
theorem dX4_size_9 : decode cX4_size 9 = .ok (.invokevirtual 100, 3) := by decide +kernel
theorem dX4_size_12 : decode cX4_size 12 = .ok (.istore_n 3, 1) := by decide +kernel
theorem dX4_size_13 : decode cX4_size 13 = .ok (.iconst 0, 1) := by decide +kernel
theorem dX4_size_14 : decode cX4_size 14 = .ok (.istore 4, 2) := by decide +kernel
theorem dX4_size_16 : decode cX4_size 16 = .ok (.iload 4, 2) := by decide +kernel
theorem dX4_size_18 : decode cX4_size 18 = .ok (.aload_n 0, 1) := by decide +kernel
theorem dX4_size_19 : decode cX4_size 19 = .ok (.getfield 52, 3) := by decide +kernel
theorem dX4_size_22 : decode cX4_size 22 = .ok (.if_icmp .ge 37, 3) := by decide +kernel
theorem dX4_size_25 : decode cX4_size 25 = .ok (.iload_n 3, 1) := by decide +kernel
theorem dX4_size_26 : decode cX4_size 26 = .ok (.ifCond .eq 33, 3) := by decide +kernel
theorem dX4_size_29 : decode cX4_size 29 = .ok (.iload_n 2, 1) := by decide +kernel
theorem dX4_size_30 : decode cX4_size 30 = .ok (.aload_n 0, 1) := by decide +kernel
theorem dX4_size_31 : decode cX4_size 31 = .ok (.getfield 29, 3) := by decide +kernel
theorem dX4_size_34 : decode cX4_size 34 = .ok (.sipush 150, 3) := by decide +kernel
theorem dX4_size_37 : decode cX4_size 37 = .ok (.iload_n 1, 1) := by decide +kernel
theorem dX4_size_38 : decode cX4_size 38 = .ok (.imul, 1) := by decide +kernel
theorem dX4_size_39 : decode cX4_size 39 = .ok (.iload 4, 2) := by decide +kernel
theorem dX4_size_41 : decode cX4_size 41 = .ok (.iadd, 1) := by decide +kernel
theorem dX4_size_42 : decode cX4_size 42 = .ok (.baload, 1) := by decide +kernel
theorem dX4_size_43 : decode cX4_size 43 = .ok (.ifCond .eq 7, 3) := by decide +kernel
theorem dX4_size_46 : decode cX4_size 46 = .ok (.iconst 1, 1) := by decide +kernel
theorem dX4_size_47 : decode cX4_size 47 = .ok (.goto 4, 3) := by decide +kernel
theorem dX4_size_50 : decode cX4_size 50 = .ok (.iconst 0, 1) := by decide +kernel
theorem dX4_size_51 : decode cX4_size 51 = .ok (.iadd, 1) := by decide +kernel
theorem dX4_size_52 : decode cX4_size 52 = .ok (.istore_n 2, 1) := by decide +kernel
theorem dX4_size_53 : decode cX4_size 53 = .ok (.iinc 4 1, 3) := by decide +kernel
theorem dX4_size_56 : decode cX4_size 56 = .ok (.goto (-40), 3) := by decide +kernel
theorem dX4_size_59 : decode cX4_size 59 = .ok (.iload_n 2, 1) := by decide +kernel
theorem dX4_size_60 : decode cX4_size 60 = .ok (.ireturn, 1) := by decide +kernel
set_option maxRecDepth 20000 in
theorem ggX4_winner_X4_isStore : GoodIn wsX4_winner wsX4_isStore := goodIn_r _ [4, 5, 6, 3, 7] (by decide +kernel) (by decide +kernel)
set_option maxRecDepth 20000 in
theorem gX4_winner_X4_isStore : GoodIn wsX4_winner (va_wsS RX4 87 yX4_isStore wsX4_isStore) := goodIn_app (goodIn_of _ (by decide +kernel)) ggX4_winner_X4_isStore
set_option maxRecDepth 20000 in
theorem ggX4_winner_X4_isDocument : GoodIn wsX4_winner wsX4_isDocument := goodIn_r _ [10, 5, 6, 3, 7] (by decide +kernel) (by decide +kernel)
set_option maxRecDepth 20000 in
theorem gX4_winner_X4_isDocument : GoodIn wsX4_winner (va_wsS RX4 91 yX4_isDocument wsX4_isDocument) := goodIn_app (goodIn_of _ (by decide +kernel)) ggX4_winner_X4_isDocument
set_option maxRecDepth 20000 in
theorem ggX4_winner_X4_goes : GoodIn wsX4_winner wsX4_goes := goodIn_r _ [14, 15, 43, 44, 45, 46, 47, 48, 49, 50, 51, 52, 53, 54, 55] (by decide +kernel) (by decide +kernel)
set_option maxRecDepth 20000 in
theorem gX4_winner_X4_goes : GoodIn wsX4_winner (wsV RX4 100 RX4 yX4_goes wsX4_goes) := goodIn_app (goodIn_of _ (by decide +kernel)) ggX4_winner_X4_goes
set_option maxRecDepth 20000 in
theorem ggX4_winner_X4_best : GoodIn wsX4_winner wsX4_best := goodIn_r _ [19, 20, 21, 22, 23, 24, 3, 25, 26, 27, 28, 29, 30, 31, 32, 33, 34, 35, 36, 37, 38, 39, 40, 41, 42, 43, 44, 45, 46, 47, 48, 49, 50, 51, 52, 53, 54, 55] (by decide +kernel) (by decide +kernel)
set_option maxRecDepth 20000 in
theorem gX4_winner_X4_best : GoodIn wsX4_winner (wsV RX4 83 RX4 yX4_best wsX4_best) := goodIn_app (goodIn_of _ (by decide +kernel)) ggX4_winner_X4_best
theorem dX4_winner_0 : decode cX4_winner 0 = .ok (.aload_n 0, 1) := by decide +kernel
theorem dX4_winner_1 : decode cX4_winner 1 = .ok (.iload_n 1, 1) := by decide +kernel
theorem dX4_winner_2 : decode cX4_winner 2 = .ok (.invokestatic 87, 3) := by decide +kernel
theorem dX4_winner_5 : decode cX4_winner 5 = .ok (.ifCond .eq 14, 3) := by decide +kernel
theorem dX4_winner_8 : decode cX4_winner 8 = .ok (.iload_n 2, 1) := by decide +kernel
theorem dX4_winner_9 : decode cX4_winner 9 = .ok (.invokestatic 91, 3) := by decide +kernel
theorem dX4_winner_12 : decode cX4_winner 12 = .ok (.ifCond .eq 7, 3) := by decide +kernel
theorem dX4_winner_15 : decode cX4_winner 15 = .ok (.iconst 1, 1) := by decide +kernel
theorem dX4_winner_16 : decode cX4_winner 16 = .ok (.goto 4, 3) := by decide +kernel
theorem dX4_winner_19 : decode cX4_winner 19 = .ok (.iconst 0, 1) := by decide +kernel
theorem dX4_winner_20 : decode cX4_winner 20 = .ok (.iconst 1, 1) := by decide +kernel
theorem dX4_winner_21 : decode cX4_winner 21 = .ok (.iconst 1, 1) := by decide +kernel
theorem dX4_winner_22 : decode cX4_winner 22 = .ok (.invokevirtual 100, 3) := by decide +kernel
theorem dX4_winner_25 : decode cX4_winner 25 = .ok (.ifCond .eq 12, 3) := by decide +kernel
theorem dX4_winner_28 : decode cX4_winner 28 = .ok (.aload_n 0, 1) := by decide +kernel
theorem dX4_winner_29 : decode cX4_winner 29 = .ok (.iload_n 1, 1) := by decide +kernel
theorem dX4_winner_30 : decode cX4_winner 30 = .ok (.iload_n 2, 1) := by decide +kernel
theorem dX4_winner_31 : decode cX4_winner 31 = .ok (.invokevirtual 83, 3) := by decide +kernel
theorem dX4_winner_34 : decode cX4_winner 34 = .ok (.goto 4, 3) := by decide +kernel
theorem dX4_winner_37 : decode cX4_winner 37 = .ok (.iconst 0, 1) := by decide +kernel
theorem dX4_winner_38 : decode cX4_winner 38 = .ok (.ireturn, 1) := by decide +kernel
theorem dX4_isAnywhere_0 : decode cX4_isAnywhere 0 = .ok (.aload_n 0, 1) := by decide +kernel
theorem dX4_isAnywhere_1 : decode cX4_isAnywhere 1 = .ok (.getfield 29, 3) := by decide +kernel
theorem dX4_isAnywhere_4 : decode cX4_isAnywhere 4 = .ok (.iload_n 1, 1) := by decide +kernel
theorem dX4_isAnywhere_5 : decode cX4_isAnywhere 5 = .ok (.baload, 1) := by decide +kernel
theorem dX4_isAnywhere_6 : decode cX4_isAnywhere 6 = .ok (.ifCond .ne 29, 3) := by decide +kernel
theorem dX4_isAnywhere_9 : decode cX4_isAnywhere 9 = .ok (.aload_n 0, 1) := by decide +kernel
theorem dX4_isAnywhere_10 : decode cX4_isAnywhere 10 = .ok (.getfield 29, 3) := by decide +kernel
theorem dX4_isAnywhere_13 : decode cX4_isAnywhere 13 = .ok (.sipush 150, 3) := by decide +kernel
theorem dX4_isAnywhere_16 : decode cX4_isAnywhere 16 = .ok (.iload_n 1, 1) := by decide +kernel
theorem dX4_isAnywhere_17 : decode cX4_isAnywhere 17 = .ok (.iadd, 1) := by decide +kernel
theorem dX4_isAnywhere_18 : decode cX4_isAnywhere 18 = .ok (.baload, 1) := by decide +kernel
theorem dX4_isAnywhere_19 : decode cX4_isAnywhere 19 = .ok (.ifCond .ne 16, 3) := by decide +kernel
theorem dX4_isAnywhere_22 : decode cX4_isAnywhere 22 = .ok (.aload_n 0, 1) := by decide +kernel
theorem dX4_isAnywhere_23 : decode cX4_isAnywhere 23 = .ok (.getfield 29, 3) := by decide +kernel
theorem dX4_isAnywhere_26 : decode cX4_isAnywhere 26 = .ok (.sipush 300, 3) := by decide +kernel
theorem dX4_isAnywhere_29 : decode cX4_isAnywhere 29 = .ok (.iload_n 1, 1) := by decide +kernel
theorem dX4_isAnywhere_30 : decode cX4_isAnywhere 30 = .ok (.iadd, 1) := by decide +kernel
theorem dX4_isAnywhere_31 : decode cX4_isAnywhere 31 = .ok (.baload, 1) := by decide +kernel
theorem dX4_isAnywhere_32 : decode cX4_isAnywhere 32 = .ok (.ifCond .eq 7, 3) := by decide +kernel
theorem dX4_isAnywhere_35 : decode cX4_isAnywhere 35 = .ok (.iconst 1, 1) := by decide +kernel
theorem dX4_isAnywhere_36 : decode cX4_isAnywhere 36 = .ok (.goto 4, 3) := by decide +kernel
theorem dX4_isAnywhere_39 : decode cX4_isAnywhere 39 = .ok (.iconst 0, 1) := by decide +kernel
theorem dX4_isAnywhere_40 : decode cX4_isAnywhere 40 = .ok (.ireturn, 1) := by decide +kernel
set_option maxRecDepth 20000 in
theorem ggX4_winnerOfAll_X4_isDocument : GoodIn wsX4_winnerOfAll wsX4_isDocument := goodIn_r _ [6, 7, 8, 5, 9] (by decide +kernel) (by decide +kernel)
set_option maxRecDepth 20000 in
theorem gX4_winnerOfAll_X4_isDocument : GoodIn wsX4_winnerOfAll (va_wsS RX4 91 yX4_isDocument wsX4_isDocument) := goodIn_app (goodIn_of _ (by decide +kernel)) ggX4_winnerOfAll_X4_isDocument
set_option maxRecDepth 20000 in
theorem ggX4_winnerOfAll_X4_goes : GoodIn wsX4_winnerOfAll wsX4_goes := goodIn_r _ [13, 14, 36, 37, 38, 39, 40, 41, 42, 43, 44, 45, 46, 47, 48] (by decide +kernel) (by decide +kernel)
set_option maxRecDepth 20000 in
theorem gX4_winnerOfAll_X4_goes : GoodIn wsX4_winnerOfAll (wsV RX4 100 RX4 yX4_goes wsX4_goes) := goodIn_app (goodIn_of _ (by decide +kernel)) ggX4_winnerOfAll_X4_goes
set_option maxRecDepth 20000 in
theorem ggX4_winnerOfAll_X4_hasDescendant : GoodIn wsX4_winnerOfAll wsX4_hasDescendant := goodIn_r _ [18, 1, 19, 20, 21, 22, 5, 23, 24, 36, 37, 38, 39, 40, 41, 42, 43, 44, 45, 46, 47, 48] (by decide +kernel) (by decide +kernel)
set_option maxRecDepth 20000 in
theorem gX4_winnerOfAll_X4_hasDescendant : GoodIn wsX4_winnerOfAll (wsV RX4 59 RX4 yX4_hasDescendant wsX4_hasDescendant) := goodIn_app (goodIn_of _ (by decide +kernel)) ggX4_winnerOfAll_X4_hasDescendant
set_option maxRecDepth 20000 in
theorem ggX4_winnerOfAll_X4_isAnywhere : GoodIn wsX4_winnerOfAll wsX4_isAnywhere := goodIn_r _ [28, 19, 36, 37, 38, 39, 40, 41, 42, 43, 44, 45, 46, 47, 48] (by decide +kernel) (by decide +kernel)
set_option maxRecDepth 20000 in
theorem gX4_winnerOfAll_X4_isAnywhere : GoodIn wsX4_winnerOfAll (wsV RX4 118 RX4 yX4_isAnywhere wsX4_isAnywhere) := goodIn_app (goodIn_of _ (by decide +kernel)) ggX4_winnerOfAll_X4_isAnywhere
set_option maxRecDepth 20000 in
theorem ggX4_winnerOfAll_X4_isBetter : GoodIn wsX4_winnerOfAll wsX4_isBetter := goodIn_r _ [32, 33, 34, 35, 36, 37, 38, 39, 40, 41, 42, 43, 44, 45, 46, 47, 48] (by decide +kernel) (by decide +kernel)
set_option maxRecDepth 20000 in
theorem gX4_winnerOfAll_X4_isBetter : GoodIn wsX4_winnerOfAll (wsV RX4 65 RX4 yX4_isBetter wsX4_isBetter) := goodIn_app (goodIn_of _ (by decide +kernel)) ggX4_winnerOfAll_X4_isBetter
theorem dX4_winnerOfAll_0 : decode cX4_winnerOfAll 0 = .ok (.aload_n 0, 1) := by decide +kernel
theorem dX4_winnerOfAll_1 : decode cX4_winnerOfAll 1 = .ok (.iload_n 1, 1) := by decide +kernel
theorem dX4_winnerOfAll_2 : decode cX4_winnerOfAll 2 = .ok (.invokestatic 91, 3) := by decide +kernel
theorem dX4_winnerOfAll_5 : decode cX4_winnerOfAll 5 = .ok (.iconst 1, 1) := by decide +kernel
theorem dX4_winnerOfAll_6 : decode cX4_winnerOfAll 6 = .ok (.iconst 1, 1) := by decide +kernel
theorem dX4_winnerOfAll_7 : decode cX4_winnerOfAll 7 = .ok (.invokevirtual 100, 3) := by decide +kernel
theorem dX4_winnerOfAll_10 : decode cX4_winnerOfAll 10 = .ok (.ifCond .ne 5, 3) := by decide +kernel
theorem dX4_winnerOfAll_13 : decode cX4_winnerOfAll 13 = .ok (.iconst 0, 1) := by decide +kernel
theorem dX4_winnerOfAll_14 : decode cX4_winnerOfAll 14 = .ok (.ireturn, 1) := by decide +kernel
theorem dX4_winnerOfAll_15 : decode cX4_winnerOfAll 15 = .ok (.iconst (-1), 1) := by decide +kernel
theorem dX4_winnerOfAll_16 : decode cX4_winnerOfAll 16 = .ok (.istore_n 2, 1) := by decide +kernel
theorem dX4_winnerOfAll_17 : decode cX4_winnerOfAll 17 = .ok (.iconst 0, 1) := by decide +kernel
theorem dX4_winnerOfAll_18 : decode cX4_winnerOfAll 18 = .ok (.istore_n 3, 1) := by decide +kernel
theorem dX4_winnerOfAll_19 : decode cX4_winnerOfAll 19 = .ok (.iload_n 3, 1) := by decide +kernel
theorem dX4_winnerOfAll_20 : decode cX4_winnerOfAll 20 = .ok (.aload_n 0, 1) := by decide +kernel
theorem dX4_winnerOfAll_21 : decode cX4_winnerOfAll 21 = .ok (.getfield 52, 3) := by decide +kernel
theorem dX4_winnerOfAll_24 : decode cX4_winnerOfAll 24 = .ok (.if_icmp .ge 98, 3) := by decide +kernel
theorem dX4_winnerOfAll_27 : decode cX4_winnerOfAll 27 = .ok (.aload_n 0, 1) := by decide +kernel
theorem dX4_winnerOfAll_28 : decode cX4_winnerOfAll 28 = .ok (.iconst 0, 1) := by decide +kernel
theorem dX4_winnerOfAll_29 : decode cX4_winnerOfAll 29 = .ok (.iload_n 3, 1) := by decide +kernel
theorem dX4_winnerOfAll_30 : decode cX4_winnerOfAll 30 = .ok (.invokevirtual 59, 3) := by decide +kernel
theorem dX4_winnerOfAll_33 : decode cX4_winnerOfAll 33 = .ok (.ifCond .ne 21, 3) := by decide +kernel
theorem dX4_winnerOfAll_36 : decode cX4_winnerOfAll 36 = .ok (.aload_n 0, 1) := by decide +kernel
theorem dX4_winnerOfAll_37 : decode cX4_winnerOfAll 37 = .ok (.iconst 1, 1) := by decide +kernel
theorem dX4_winnerOfAll_38 : decode cX4_winnerOfAll 38 = .ok (.iload_n 3, 1) := by decide +kernel
theorem dX4_winnerOfAll_39 : decode cX4_winnerOfAll 39 = .ok (.invokevirtual 59, 3) := by decide +kernel
theorem dX4_winnerOfAll_42 : decode cX4_winnerOfAll 42 = .ok (.ifCond .ne 12, 3) := by decide +kernel
theorem dX4_winnerOfAll_45 : decode cX4_winnerOfAll 45 = .ok (.aload_n 0, 1) := by decide +kernel
theorem dX4_winnerOfAll_46 : decode cX4_winnerOfAll 46 = .ok (.iconst 2, 1) := by decide +kernel
theorem dX4_winnerOfAll_47 : decode cX4_winnerOfAll 47 = .ok (.iload_n 3, 1) := by decide +kernel
theorem dX4_winnerOfAll_48 : decode cX4_winnerOfAll 48 = .ok (.invokevirtual 59, 3) := by decide +kernel
theorem dX4_winnerOfAll_51 : decode cX4_winnerOfAll 51 = .ok (.ifCond .eq 7, 3) := by decide +kernel
theorem dX4_winnerOfAll_54 : decode cX4_winnerOfAll 54 = .ok (.iconst 1, 1) := by decide +kernel
theorem dX4_winnerOfAll_55 : decode cX4_winnerOfAll 55 = .ok (.goto 4, 3) := by decide +kernel
theorem dX4_winnerOfAll_58 : decode cX4_winnerOfAll 58 = .ok (.iconst 0, 1) := by decide +kernel
theorem dX4_winnerOfAll_59 : decode cX4_winnerOfAll 59 = .ok (.istore 4, 2) := by decide +kernel
theorem dX4_winnerOfAll_61 : decode cX4_winnerOfAll 61 = .ok (.aload_n 0, 1) := by decide +kernel
theorem dX4_winnerOfAll_62 : decode cX4_winnerOfAll 62 = .ok (.getfield 7, 3) := by decide +kernel
theorem dX4_winnerOfAll_65 : decode cX4_winnerOfAll 65 = .ok (.iload_n 3, 1) := by decide +kernel
theorem dX4_winnerOfAll_66 : decode cX4_winnerOfAll 66 = .ok (.iaload, 1) := by decide +kernel
theorem dX4_winnerOfAll_67 : decode cX4_winnerOfAll 67 = .ok (.iload_n 1, 1) := by decide +kernel
theorem dX4_winnerOfAll_68 : decode cX4_winnerOfAll 68 = .ok (.if_icmp .ne 20, 3) := by decide +kernel
theorem dX4_winnerOfAll_71 : decode cX4_winnerOfAll 71 = .ok (.aload_n 0, 1) := by decide +kernel
theorem dX4_winnerOfAll_72 : decode cX4_winnerOfAll 72 = .ok (.iload_n 3, 1) := by decide +kernel
theorem dX4_winnerOfAll_73 : decode cX4_winnerOfAll 73 = .ok (.invokevirtual 118, 3) := by decide +kernel
theorem dX4_winnerOfAll_76 : decode cX4_winnerOfAll 76 = .ok (.ifCond .eq 12, 3) := by decide +kernel
theorem dX4_winnerOfAll_79 : decode cX4_winnerOfAll 79 = .ok (.iload 4, 2) := by decide +kernel
theorem dX4_winnerOfAll_81 : decode cX4_winnerOfAll 81 = .ok (.ifCond .ne 7, 3) := by decide +kernel
theorem dX4_winnerOfAll_84 : decode cX4_winnerOfAll 84 = .ok (.iconst 1, 1) := by decide +kernel
theorem dX4_winnerOfAll_85 : decode cX4_winnerOfAll 85 = .ok (.goto 4, 3) := by decide +kernel
theorem dX4_winnerOfAll_88 : decode cX4_winnerOfAll 88 = .ok (.iconst 0, 1) := by decide +kernel
theorem dX4_winnerOfAll_89 : decode cX4_winnerOfAll 89 = .ok (.istore 5, 2) := by decide +kernel
theorem dX4_winnerOfAll_91 : decode cX4_winnerOfAll 91 = .ok (.iload 5, 2) := by decide +kernel
theorem dX4_winnerOfAll_93 : decode cX4_winnerOfAll 93 = .ok (.ifCond .eq 21, 3) := by decide +kernel
theorem dX4_winnerOfAll_96 : decode cX4_winnerOfAll 96 = .ok (.iload_n 2, 1) := by decide +kernel
theorem dX4_winnerOfAll_97 : decode cX4_winnerOfAll 97 = .ok (.iconst (-1), 1) := by decide +kernel
theorem dX4_winnerOfAll_98 : decode cX4_winnerOfAll 98 = .ok (.if_icmp .eq 12, 3) := by decide +kernel
theorem dX4_winnerOfAll_101 : decode cX4_winnerOfAll 101 = .ok (.aload_n 0, 1) := by decide +kernel
theorem dX4_winnerOfAll_102 : decode cX4_winnerOfAll 102 = .ok (.iload_n 3, 1) := by decide +kernel
theorem dX4_winnerOfAll_103 : decode cX4_winnerOfAll 103 = .ok (.iload_n 2, 1) := by decide +kernel
theorem dX4_winnerOfAll_104 : decode cX4_winnerOfAll 104 = .ok (.invokevirtual 65, 3) := by decide +kernel
theorem dX4_winnerOfAll_107 : decode cX4_winnerOfAll 107 = .ok (.ifCond .eq 7, 3) := by decide +kernel
theorem dX4_winnerOfAll_110 : decode cX4_winnerOfAll 110 = .ok (.iload_n 3, 1) := by decide +kernel
theorem dX4_winnerOfAll_111 : decode cX4_winnerOfAll 111 = .ok (.goto 4, 3) := by decide +kernel
theorem dX4_winnerOfAll_114 : decode cX4_winnerOfAll 114 = .ok (.iload_n 2, 1) := by decide +kernel
theorem dX4_winnerOfAll_115 : decode cX4_winnerOfAll 115 = .ok (.istore_n 2, 1) := by decide +kernel
theorem dX4_winnerOfAll_116 : decode cX4_winnerOfAll 116 = .ok (.iinc 3 1, 3) := by decide +kernel
theorem dX4_winnerOfAll_119 : decode cX4_winnerOfAll 119 = .ok (.goto (-100), 3) := by decide +kernel
theorem dX4_winnerOfAll_122 : decode cX4_winnerOfAll 122 = .ok (.iload_n 2, 1) := by decide +kernel
theorem dX4_winnerOfAll_123 : decode cX4_winnerOfAll 123 = .ok (.ireturn, 1) := by decide +kernel
set_option maxRecDepth 20000 in
theorem ggX4_conflicts_X4_isStore : GoodIn wsX4_conflicts wsX4_isStore := goodIn_r _ [7, 8, 9, 6, 10] (by decide +kernel) (by decide +kernel)
set_option maxRecDepth 20000 in
theorem gX4_conflicts_X4_isStore : GoodIn wsX4_conflicts (va_wsS RX4 87 yX4_isStore wsX4_isStore) := goodIn_app (goodIn_of _ (by decide +kernel)) ggX4_conflicts_X4_isStore
set_option maxRecDepth 20000 in
theorem ggX4_conflicts_X4_isDocument : GoodIn wsX4_conflicts wsX4_isDocument := goodIn_r _ [13, 8, 9, 6, 10] (by decide +kernel) (by decide +kernel)
set_option maxRecDepth 20000 in
theorem gX4_conflicts_X4_isDocument : GoodIn wsX4_conflicts (va_wsS RX4 91 yX4_isDocument wsX4_isDocument) := goodIn_app (goodIn_of _ (by decide +kernel)) ggX4_conflicts_X4_isDocument
set_option maxRecDepth 20000 in
theorem ggX4_conflicts_X4_goes : GoodIn wsX4_conflicts wsX4_goes := goodIn_r _ [17, 18, 33, 34, 35, 36, 37, 38, 39, 40, 41, 42, 43, 44, 45] (by decide +kernel) (by decide +kernel)
set_option maxRecDepth 20000 in
theorem gX4_conflicts_X4_goes : GoodIn wsX4_conflicts (wsV RX4 100 RX4 yX4_goes wsX4_goes) := goodIn_app (goodIn_of _ (by decide +kernel)) ggX4_conflicts_X4_goes
set_option maxRecDepth 20000 in
theorem ggX4_conflicts_X4_leaf : GoodIn wsX4_conflicts wsX4_leaf := goodIn_r _ [22, 23, 24, 25, 26, 6, 27, 1, 28, 29, 30, 31, 32, 33, 34, 35, 36, 37, 38, 39, 40, 41, 42, 43, 44, 45] (by decide +kernel) (by decide +kernel)
set_option maxRecDepth 20000 in
theorem gX4_conflicts_X4_leaf : GoodIn wsX4_conflicts (wsV RX4 62 RX4 yX4_leaf wsX4_leaf) := goodIn_app (goodIn_of _ (by decide +kernel)) ggX4_conflicts_X4_leaf
theorem dX4_conflicts_0 : decode cX4_conflicts 0 = .ok (.aload_n 0, 1) := by decide +kernel
theorem dX4_conflicts_1 : decode cX4_conflicts 1 = .ok (.iload_n 1, 1) := by decide +kernel
theorem dX4_conflicts_2 : decode cX4_conflicts 2 = .ok (.invokestatic 87, 3) := by decide +kernel
theorem dX4_conflicts_5 : decode cX4_conflicts 5 = .ok (.ifCond .eq 14, 3) := by decide +kernel
theorem dX4_conflicts_8 : decode cX4_conflicts 8 = .ok (.iload_n 2, 1) := by decide +kernel
theorem dX4_conflicts_9 : decode cX4_conflicts 9 = .ok (.invokestatic 91, 3) := by decide +kernel
theorem dX4_conflicts_12 : decode cX4_conflicts 12 = .ok (.ifCond .eq 7, 3) := by decide +kernel
theorem dX4_conflicts_15 : decode cX4_conflicts 15 = .ok (.iconst 1, 1) := by decide +kernel
theorem dX4_conflicts_16 : decode cX4_conflicts 16 = .ok (.goto 4, 3) := by decide +kernel
theorem dX4_conflicts_19 : decode cX4_conflicts 19 = .ok (.iconst 0, 1) := by decide +kernel
theorem dX4_conflicts_20 : decode cX4_conflicts 20 = .ok (.iconst 1, 1) := by decide +kernel
theorem dX4_conflicts_21 : decode cX4_conflicts 21 = .ok (.iconst 1, 1) := by decide +kernel
theorem dX4_conflicts_22 : decode cX4_conflicts 22 = .ok (.invokevirtual 100, 3) := by decide +kernel
theorem dX4_conflicts_25 : decode cX4_conflicts 25 = .ok (.ifCond .ne 5, 3) := by decide +kernel
theorem dX4_conflicts_28 : decode cX4_conflicts 28 = .ok (.iconst 0, 1) := by decide +kernel
theorem dX4_conflicts_29 : decode cX4_conflicts 29 = .ok (.ireturn, 1) := by decide +kernel
theorem dX4_conflicts_30 : decode cX4_conflicts 30 = .ok (.iconst 0, 1) := by decide +kernel
theorem dX4_conflicts_31 : decode cX4_conflicts 31 = .ok (.istore_n 3, 1) := by decide +kernel
theorem dX4_conflicts_32 : decode cX4_conflicts 32 = .ok (.iconst 0, 1) := by decide +kernel
theorem dX4_conflicts_33 : decode cX4_conflicts 33 = .ok (.istore 4, 2) := by decide +kernel
theorem dX4_conflicts_35 : decode cX4_conflicts 35 = .ok (.iload 4, 2) := by decide +kernel
theorem dX4_conflicts_37 : decode cX4_conflicts 37 = .ok (.aload_n 0, 1) := by decide +kernel
theorem dX4_conflicts_38 : decode cX4_conflicts 38 = .ok (.getfield 52, 3) := by decide +kernel
theorem dX4_conflicts_41 : decode cX4_conflicts 41 = .ok (.if_icmp .ge 48, 3) := by decide +kernel
theorem dX4_conflicts_44 : decode cX4_conflicts 44 = .ok (.iload_n 3, 1) := by decide +kernel
theorem dX4_conflicts_45 : decode cX4_conflicts 45 = .ok (.aload_n 0, 1) := by decide +kernel
theorem dX4_conflicts_46 : decode cX4_conflicts 46 = .ok (.getfield 7, 3) := by decide +kernel
theorem dX4_conflicts_49 : decode cX4_conflicts 49 = .ok (.iload 4, 2) := by decide +kernel
theorem dX4_conflicts_51 : decode cX4_conflicts 51 = .ok (.iaload, 1) := by decide +kernel
theorem dX4_conflicts_52 : decode cX4_conflicts 52 = .ok (.iload_n 2, 1) := by decide +kernel
theorem dX4_conflicts_53 : decode cX4_conflicts 53 = .ok (.if_icmp .ne 27, 3) := by decide +kernel
theorem dX4_conflicts_56 : decode cX4_conflicts 56 = .ok (.aload_n 0, 1) := by decide +kernel
theorem dX4_conflicts_57 : decode cX4_conflicts 57 = .ok (.getfield 19, 3) := by decide +kernel
theorem dX4_conflicts_60 : decode cX4_conflicts 60 = .ok (.iload 4, 2) := by decide +kernel
theorem dX4_conflicts_62 : decode cX4_conflicts 62 = .ok (.baload, 1) := by decide +kernel
theorem dX4_conflicts_63 : decode cX4_conflicts 63 = .ok (.ifCond .ne 17, 3) := by decide +kernel
theorem dX4_conflicts_66 : decode cX4_conflicts 66 = .ok (.aload_n 0, 1) := by decide +kernel
theorem dX4_conflicts_67 : decode cX4_conflicts 67 = .ok (.iload_n 1, 1) := by decide +kernel
theorem dX4_conflicts_68 : decode cX4_conflicts 68 = .ok (.iload 4, 2) := by decide +kernel
theorem dX4_conflicts_70 : decode cX4_conflicts 70 = .ok (.invokevirtual 62, 3) := by decide +kernel
theorem dX4_conflicts_73 : decode cX4_conflicts 73 = .ok (.ifCond .eq 7, 3) := by decide +kernel
theorem dX4_conflicts_76 : decode cX4_conflicts 76 = .ok (.iconst 1, 1) := by decide +kernel
theorem dX4_conflicts_77 : decode cX4_conflicts 77 = .ok (.goto 4, 3) := by decide +kernel
theorem dX4_conflicts_80 : decode cX4_conflicts 80 = .ok (.iconst 0, 1) := by decide +kernel
theorem dX4_conflicts_81 : decode cX4_conflicts 81 = .ok (.iadd, 1) := by decide +kernel
theorem dX4_conflicts_82 : decode cX4_conflicts 82 = .ok (.istore_n 3, 1) := by decide +kernel
theorem dX4_conflicts_83 : decode cX4_conflicts 83 = .ok (.iinc 4 1, 3) := by decide +kernel
theorem dX4_conflicts_86 : decode cX4_conflicts 86 = .ok (.goto (-51), 3) := by decide +kernel
theorem dX4_conflicts_89 : decode cX4_conflicts 89 = .ok (.iload_n 3, 1) := by decide +kernel
theorem dX4_conflicts_90 : decode cX4_conflicts 90 = .ok (.ifCond .ne 7, 3) := by decide +kernel
theorem dX4_conflicts_93 : decode cX4_conflicts 93 = .ok (.iconst 0, 1) := by decide +kernel
theorem dX4_conflicts_94 : decode cX4_conflicts 94 = .ok (.goto 6, 3) := by decide +kernel
theorem dX4_conflicts_97 : decode cX4_conflicts 97 = .ok (.iload_n 3, 1) := by decide +kernel
theorem dX4_conflicts_98 : decode cX4_conflicts 98 = .ok (.iconst 1, 1) := by decide +kernel
theorem dX4_conflicts_99 : decode cX4_conflicts 99 = .ok (.isub, 1) := by decide +kernel
theorem dX4_conflicts_100 : decode cX4_conflicts 100 = .ok (.ireturn, 1) := by decide +kernel
set_option maxRecDepth 20000 in
theorem ggX4_shown_X4_best : GoodIn wsX4_shown wsX4_best := goodIn_r _ [7, 8, 9, 10, 11, 12, 6, 13, 14, 15, 16, 17, 18, 19, 20, 21, 22, 23, 24, 25, 26, 27, 1, 28, 29, 30, 31, 32, 33, 34, 35, 36, 37, 38, 39, 40, 41, 42] (by decide +kernel) (by decide +kernel)
set_option maxRecDepth 20000 in
theorem gX4_shown_X4_best : GoodIn wsX4_shown (wsV RX4 83 RX4 yX4_best wsX4_best) := goodIn_app (goodIn_of _ (by decide +kernel)) ggX4_shown_X4_best
theorem dX4_shown_0 : decode cX4_shown 0 = .ok (.aload_n 0, 1) := by decide +kernel
theorem dX4_shown_1 : decode cX4_shown 1 = .ok (.iload_n 1, 1) := by decide +kernel
theorem dX4_shown_2 : decode cX4_shown 2 = .ok (.iload_n 2, 1) := by decide +kernel
theorem dX4_shown_3 : decode cX4_shown 3 = .ok (.invokevirtual 83, 3) := by decide +kernel
theorem dX4_shown_6 : decode cX4_shown 6 = .ok (.istore_n 3, 1) := by decide +kernel
theorem dX4_shown_7 : decode cX4_shown 7 = .ok (.iload_n 3, 1) := by decide +kernel
theorem dX4_shown_8 : decode cX4_shown 8 = .ok (.iconst (-1), 1) := by decide +kernel
theorem dX4_shown_9 : decode cX4_shown 9 = .ok (.if_icmp .eq 12, 3) := by decide +kernel
theorem dX4_shown_12 : decode cX4_shown 12 = .ok (.aload_n 0, 1) := by decide +kernel
theorem dX4_shown_13 : decode cX4_shown 13 = .ok (.getfield 19, 3) := by decide +kernel
theorem dX4_shown_16 : decode cX4_shown 16 = .ok (.iload_n 3, 1) := by decide +kernel
theorem dX4_shown_17 : decode cX4_shown 17 = .ok (.baload, 1) := by decide +kernel
theorem dX4_shown_18 : decode cX4_shown 18 = .ok (.ifCond .eq 7, 3) := by decide +kernel
theorem dX4_shown_21 : decode cX4_shown 21 = .ok (.iconst (-1), 1) := by decide +kernel
theorem dX4_shown_22 : decode cX4_shown 22 = .ok (.goto 9, 3) := by decide +kernel
theorem dX4_shown_25 : decode cX4_shown 25 = .ok (.aload_n 0, 1) := by decide +kernel
theorem dX4_shown_26 : decode cX4_shown 26 = .ok (.getfield 16, 3) := by decide +kernel
theorem dX4_shown_29 : decode cX4_shown 29 = .ok (.iload_n 3, 1) := by decide +kernel
theorem dX4_shown_30 : decode cX4_shown 30 = .ok (.iaload, 1) := by decide +kernel
theorem dX4_shown_31 : decode cX4_shown 31 = .ok (.ireturn, 1) := by decide +kernel
set_option maxRecDepth 20000 in
theorem ggX4_count_X4_isStore : GoodIn wsX4_count wsX4_isStore := goodIn_r _ [4, 5, 6, 3, 7] (by decide +kernel) (by decide +kernel)
set_option maxRecDepth 20000 in
theorem gX4_count_X4_isStore : GoodIn wsX4_count (va_wsS RX4 87 yX4_isStore wsX4_isStore) := goodIn_app (goodIn_of _ (by decide +kernel)) ggX4_count_X4_isStore
set_option maxRecDepth 20000 in
theorem ggX4_count_X4_goes : GoodIn wsX4_count wsX4_goes := goodIn_r _ [11, 12, 45, 46, 47, 48, 49, 50, 51, 52, 53, 54, 55, 56, 57] (by decide +kernel) (by decide +kernel)
set_option maxRecDepth 20000 in
theorem gX4_count_X4_goes : GoodIn wsX4_count (wsV RX4 100 RX4 yX4_goes wsX4_goes) := goodIn_app (goodIn_of _ (by decide +kernel)) ggX4_count_X4_goes
set_option maxRecDepth 20000 in
theorem ggX4_count_X4_shown : GoodIn wsX4_count wsX4_shown := goodIn_r _ [16, 17, 18, 19, 20, 21, 3, 22, 23, 24, 25, 26, 27, 28, 29, 30, 31, 32, 33, 34, 35, 36, 37, 38, 39, 40, 41, 42, 43, 44, 45, 46, 47, 48, 49, 50, 51, 52, 53, 54, 55, 56, 57] (by decide +kernel) (by decide +kernel)
set_option maxRecDepth 20000 in
theorem gX4_count_X4_shown : GoodIn wsX4_count (wsV RX4 121 RX4 yX4_shown wsX4_shown) := goodIn_app (goodIn_of _ (by decide +kernel)) ggX4_count_X4_shown
theorem dX4_count_0 : decode cX4_count 0 = .ok (.iconst 0, 1) := by decide +kernel
theorem dX4_count_1 : decode cX4_count 1 = .ok (.istore 4, 2) := by decide +kernel
theorem dX4_count_3 : decode cX4_count 3 = .ok (.aload_n 0, 1) := by decide +kernel
theorem dX4_count_4 : decode cX4_count 4 = .ok (.iload_n 1, 1) := by decide +kernel
theorem dX4_count_5 : decode cX4_count 5 = .ok (.invokestatic 87, 3) := by decide +kernel
theorem dX4_count_8 : decode cX4_count 8 = .ok (.iconst 1, 1) := by decide +kernel
theorem dX4_count_9 : decode cX4_count 9 = .ok (.iconst 1, 1) := by decide +kernel
theorem dX4_count_10 : decode cX4_count 10 = .ok (.invokevirtual 100, 3) := by decide +kernel
theorem dX4_count_13 : decode cX4_count 13 = .ok (.istore 5, 2) := by decide +kernel
theorem dX4_count_15 : decode cX4_count 15 = .ok (.iconst 0, 1) := by decide +kernel
theorem dX4_count_16 : decode cX4_count 16 = .ok (.istore 6, 2) := by decide +kernel
theorem dX4_count_18 : decode cX4_count 18 = .ok (.iload 6, 2) := by decide +kernel
theorem dX4_count_20 : decode cX4_count 20 = .ok (.iconst 4, 1) := by decide +kernel
theorem dX4_count_21 : decode cX4_count 21 = .ok (.if_icmp .ge 51, 3) := by decide +kernel
theorem dX4_count_24 : decode cX4_count 24 = .ok (.iload 5, 2) := by decide +kernel
theorem dX4_count_26 : decode cX4_count 26 = .ok (.ifCond .eq 46, 3) := by decide +kernel
theorem dX4_count_29 : decode cX4_count 29 = .ok (.aload_n 0, 1) := by decide +kernel
theorem dX4_count_30 : decode cX4_count 30 = .ok (.iload_n 1, 1) := by decide +kernel
theorem dX4_count_31 : decode cX4_count 31 = .ok (.iload 6, 2) := by decide +kernel
theorem dX4_count_33 : decode cX4_count 33 = .ok (.invokevirtual 121, 3) := by decide +kernel
theorem dX4_count_36 : decode cX4_count 36 = .ok (.istore 7, 2) := by decide +kernel
theorem dX4_count_38 : decode cX4_count 38 = .ok (.iload 4, 2) := by decide +kernel
theorem dX4_count_40 : decode cX4_count 40 = .ok (.iload 7, 2) := by decide +kernel
theorem dX4_count_42 : decode cX4_count 42 = .ok (.iconst (-1), 1) := by decide +kernel
theorem dX4_count_43 : decode cX4_count 43 = .ok (.if_icmp .eq 19, 3) := by decide +kernel
theorem dX4_count_46 : decode cX4_count 46 = .ok (.iload 7, 2) := by decide +kernel
theorem dX4_count_48 : decode cX4_count 48 = .ok (.iload_n 2, 1) := by decide +kernel
theorem dX4_count_49 : decode cX4_count 49 = .ok (.if_icmp .lt 13, 3) := by decide +kernel
theorem dX4_count_52 : decode cX4_count 52 = .ok (.iload 7, 2) := by decide +kernel
theorem dX4_count_54 : decode cX4_count 54 = .ok (.iload_n 3, 1) := by decide +kernel
theorem dX4_count_55 : decode cX4_count 55 = .ok (.if_icmp .gt 7, 3) := by decide +kernel
theorem dX4_count_58 : decode cX4_count 58 = .ok (.iconst 1, 1) := by decide +kernel
theorem dX4_count_59 : decode cX4_count 59 = .ok (.goto 4, 3) := by decide +kernel
theorem dX4_count_62 : decode cX4_count 62 = .ok (.iconst 0, 1) := by decide +kernel
theorem dX4_count_63 : decode cX4_count 63 = .ok (.iadd, 1) := by decide +kernel
theorem dX4_count_64 : decode cX4_count 64 = .ok (.istore 4, 2) := by decide +kernel
theorem dX4_count_66 : decode cX4_count 66 = .ok (.iinc 6 1, 3) := by decide +kernel
theorem dX4_count_69 : decode cX4_count 69 = .ok (.goto (-51), 3) := by decide +kernel
theorem dX4_count_72 : decode cX4_count 72 = .ok (.iload 4, 2) := by decide +kernel
theorem dX4_count_74 : decode cX4_count 74 = .ok (.ireturn, 1) := by decide +kernel
set_option maxRecDepth 20000 in
theorem ggX4_placed_X4_shown : GoodIn wsX4_placed wsX4_shown := goodIn_r _ [5, 6, 7, 8, 9, 10, 4, 11, 12, 13, 14, 15, 16, 17, 18, 19, 20, 21, 22, 23, 24, 25, 26, 27, 28, 29, 30, 31, 32, 33, 34, 35, 36, 37, 38, 39, 40, 41, 42, 43, 44, 45, 46] (by decide +kernel) (by decide +kernel)
set_option maxRecDepth 20000 in
theorem gX4_placed_X4_shown : GoodIn wsX4_placed (wsV RX4 121 RX4 yX4_shown wsX4_shown) := goodIn_app (goodIn_of _ (by decide +kernel)) ggX4_placed_X4_shown
theorem dX4_placed_0 : decode cX4_placed 0 = .ok (.iconst 0, 1) := by decide +kernel
theorem dX4_placed_1 : decode cX4_placed 1 = .ok (.istore_n 3, 1) := by decide +kernel
theorem dX4_placed_2 : decode cX4_placed 2 = .ok (.iload_n 3, 1) := by decide +kernel
theorem dX4_placed_3 : decode cX4_placed 3 = .ok (.iconst 4, 1) := by decide +kernel
theorem dX4_placed_4 : decode cX4_placed 4 = .ok (.if_icmp .ge 116, 3) := by decide +kernel
theorem dX4_placed_7 : decode cX4_placed 7 = .ok (.iconst 0, 1) := by decide +kernel
theorem dX4_placed_8 : decode cX4_placed 8 = .ok (.istore 4, 2) := by decide +kernel
theorem dX4_placed_10 : decode cX4_placed 10 = .ok (.iconst 0, 1) := by decide +kernel
theorem dX4_placed_11 : decode cX4_placed 11 = .ok (.istore 5, 2) := by decide +kernel
theorem dX4_placed_13 : decode cX4_placed 13 = .ok (.iload 5, 2) := by decide +kernel
theorem dX4_placed_15 : decode cX4_placed 15 = .ok (.iconst 4, 1) := by decide +kernel
theorem dX4_placed_16 : decode cX4_placed 16 = .ok (.if_icmp .ge 80, 3) := by decide +kernel
theorem dX4_placed_19 : decode cX4_placed 19 = .ok (.aload_n 0, 1) := by decide +kernel
theorem dX4_placed_20 : decode cX4_placed 20 = .ok (.iload_n 1, 1) := by decide +kernel
theorem dX4_placed_21 : decode cX4_placed 21 = .ok (.iload 5, 2) := by decide +kernel
theorem dX4_placed_23 : decode cX4_placed 23 = .ok (.invokevirtual 121, 3) := by decide +kernel
theorem dX4_placed_26 : decode cX4_placed 26 = .ok (.aload_n 0, 1) := by decide +kernel
theorem dX4_placed_27 : decode cX4_placed 27 = .ok (.iload_n 1, 1) := by decide +kernel
theorem dX4_placed_28 : decode cX4_placed 28 = .ok (.iload_n 3, 1) := by decide +kernel
theorem dX4_placed_29 : decode cX4_placed 29 = .ok (.invokevirtual 121, 3) := by decide +kernel
theorem dX4_placed_32 : decode cX4_placed 32 = .ok (.if_icmp .lt 25, 3) := by decide +kernel
theorem dX4_placed_35 : decode cX4_placed 35 = .ok (.aload_n 0, 1) := by decide +kernel
theorem dX4_placed_36 : decode cX4_placed 36 = .ok (.iload_n 1, 1) := by decide +kernel
theorem dX4_placed_37 : decode cX4_placed 37 = .ok (.iload 5, 2) := by decide +kernel
theorem dX4_placed_39 : decode cX4_placed 39 = .ok (.invokevirtual 121, 3) := by decide +kernel
theorem dX4_placed_42 : decode cX4_placed 42 = .ok (.aload_n 0, 1) := by decide +kernel
theorem dX4_placed_43 : decode cX4_placed 43 = .ok (.iload_n 1, 1) := by decide +kernel
theorem dX4_placed_44 : decode cX4_placed 44 = .ok (.iload_n 3, 1) := by decide +kernel
theorem dX4_placed_45 : decode cX4_placed 45 = .ok (.invokevirtual 121, 3) := by decide +kernel
theorem dX4_placed_48 : decode cX4_placed 48 = .ok (.if_icmp .ne 13, 3) := by decide +kernel
theorem dX4_placed_51 : decode cX4_placed 51 = .ok (.iload 5, 2) := by decide +kernel
theorem dX4_placed_53 : decode cX4_placed 53 = .ok (.iload_n 3, 1) := by decide +kernel
theorem dX4_placed_54 : decode cX4_placed 54 = .ok (.if_icmp .ge 7, 3) := by decide +kernel
theorem dX4_placed_57 : decode cX4_placed 57 = .ok (.iconst 1, 1) := by decide +kernel
theorem dX4_placed_58 : decode cX4_placed 58 = .ok (.goto 4, 3) := by decide +kernel
theorem dX4_placed_61 : decode cX4_placed 61 = .ok (.iconst 0, 1) := by decide +kernel
theorem dX4_placed_62 : decode cX4_placed 62 = .ok (.istore 6, 2) := by decide +kernel
theorem dX4_placed_64 : decode cX4_placed 64 = .ok (.iload 4, 2) := by decide +kernel
theorem dX4_placed_66 : decode cX4_placed 66 = .ok (.aload_n 0, 1) := by decide +kernel
theorem dX4_placed_67 : decode cX4_placed 67 = .ok (.iload_n 1, 1) := by decide +kernel
theorem dX4_placed_68 : decode cX4_placed 68 = .ok (.iload 5, 2) := by decide +kernel
theorem dX4_placed_70 : decode cX4_placed 70 = .ok (.invokevirtual 121, 3) := by decide +kernel
theorem dX4_placed_73 : decode cX4_placed 73 = .ok (.iconst (-1), 1) := by decide +kernel
theorem dX4_placed_74 : decode cX4_placed 74 = .ok (.if_icmp .eq 12, 3) := by decide +kernel
theorem dX4_placed_77 : decode cX4_placed 77 = .ok (.iload 6, 2) := by decide +kernel
theorem dX4_placed_79 : decode cX4_placed 79 = .ok (.ifCond .eq 7, 3) := by decide +kernel
theorem dX4_placed_82 : decode cX4_placed 82 = .ok (.iconst 1, 1) := by decide +kernel
theorem dX4_placed_83 : decode cX4_placed 83 = .ok (.goto 4, 3) := by decide +kernel
theorem dX4_placed_86 : decode cX4_placed 86 = .ok (.iconst 0, 1) := by decide +kernel
theorem dX4_placed_87 : decode cX4_placed 87 = .ok (.iadd, 1) := by decide +kernel
theorem dX4_placed_88 : decode cX4_placed 88 = .ok (.istore 4, 2) := by decide +kernel
theorem dX4_placed_90 : decode cX4_placed 90 = .ok (.iinc 5 1, 3) := by decide +kernel
theorem dX4_placed_93 : decode cX4_placed 93 = .ok (.goto (-80), 3) := by decide +kernel
theorem dX4_placed_96 : decode cX4_placed 96 = .ok (.aload_n 0, 1) := by decide +kernel
theorem dX4_placed_97 : decode cX4_placed 97 = .ok (.iload_n 1, 1) := by decide +kernel
theorem dX4_placed_98 : decode cX4_placed 98 = .ok (.iload_n 3, 1) := by decide +kernel
theorem dX4_placed_99 : decode cX4_placed 99 = .ok (.invokevirtual 121, 3) := by decide +kernel
theorem dX4_placed_102 : decode cX4_placed 102 = .ok (.iconst (-1), 1) := by decide +kernel
theorem dX4_placed_103 : decode cX4_placed 103 = .ok (.if_icmp .eq 11, 3) := by decide +kernel
theorem dX4_placed_106 : decode cX4_placed 106 = .ok (.iload 4, 2) := by decide +kernel
theorem dX4_placed_108 : decode cX4_placed 108 = .ok (.iload_n 2, 1) := by decide +kernel
theorem dX4_placed_109 : decode cX4_placed 109 = .ok (.if_icmp .ne 5, 3) := by decide +kernel
theorem dX4_placed_112 : decode cX4_placed 112 = .ok (.iload_n 3, 1) := by decide +kernel
theorem dX4_placed_113 : decode cX4_placed 113 = .ok (.ireturn, 1) := by decide +kernel
theorem dX4_placed_114 : decode cX4_placed 114 = .ok (.iinc 3 1, 3) := by decide +kernel
theorem dX4_placed_117 : decode cX4_placed 117 = .ok (.goto (-115), 3) := by decide +kernel
theorem dX4_placed_120 : decode cX4_placed 120 = .ok (.iconst (-1), 1) := by decide +kernel
theorem dX4_placed_121 : decode cX4_placed 121 = .ok (.ireturn, 1) := by decide +kernel
set_option maxRecDepth 20000 in
theorem ggX4_viewAt_X4_isStore : GoodIn wsX4_viewAt wsX4_isStore := goodIn_r _ [4, 5, 6, 3, 7] (by decide +kernel) (by decide +kernel)
set_option maxRecDepth 20000 in
theorem gX4_viewAt_X4_isStore : GoodIn wsX4_viewAt (va_wsS RX4 87 yX4_isStore wsX4_isStore) := goodIn_app (goodIn_of _ (by decide +kernel)) ggX4_viewAt_X4_isStore
set_option maxRecDepth 20000 in
theorem ggX4_viewAt_X4_placed : GoodIn wsX4_viewAt wsX4_placed := goodIn_r _ [11, 12, 13, 14, 3, 15, 16, 17, 18, 19, 20, 21, 22, 23, 24, 25, 26, 27, 28, 29, 30, 31, 32, 33, 34, 35, 36, 37, 38, 39, 40, 41, 42, 43, 49, 50, 51, 52, 53, 54, 55, 56, 57, 58, 59, 60, 61] (by decide +kernel) (by decide +kernel)
set_option maxRecDepth 20000 in
theorem gX4_viewAt_X4_placed : GoodIn wsX4_viewAt (wsV RX4 124 RX4 yX4_placed wsX4_placed) := goodIn_app (goodIn_of _ (by decide +kernel)) ggX4_viewAt_X4_placed
set_option maxRecDepth 20000 in
theorem ggX4_viewAt_X4_goes : GoodIn wsX4_viewAt wsX4_goes := goodIn_r _ [47, 48, 49, 50, 51, 52, 53, 54, 55, 56, 57, 58, 59, 60, 61] (by decide +kernel) (by decide +kernel)
set_option maxRecDepth 20000 in
theorem gX4_viewAt_X4_goes : GoodIn wsX4_viewAt (wsV RX4 100 RX4 yX4_goes wsX4_goes) := goodIn_app (goodIn_of _ (by decide +kernel)) ggX4_viewAt_X4_goes
theorem dX4_viewAt_0 : decode cX4_viewAt 0 = .ok (.iload_n 1, 1) := by decide +kernel
theorem dX4_viewAt_1 : decode cX4_viewAt 1 = .ok (.invokestatic 87, 3) := by decide +kernel
theorem dX4_viewAt_4 : decode cX4_viewAt 4 = .ok (.ifCond .eq 17, 3) := by decide +kernel
theorem dX4_viewAt_7 : decode cX4_viewAt 7 = .ok (.aload_n 0, 1) := by decide +kernel
theorem dX4_viewAt_8 : decode cX4_viewAt 8 = .ok (.iload_n 1, 1) := by decide +kernel
theorem dX4_viewAt_9 : decode cX4_viewAt 9 = .ok (.iload_n 2, 1) := by decide +kernel
theorem dX4_viewAt_10 : decode cX4_viewAt 10 = .ok (.invokevirtual 124, 3) := by decide +kernel
theorem dX4_viewAt_13 : decode cX4_viewAt 13 = .ok (.iconst (-1), 1) := by decide +kernel
theorem dX4_viewAt_14 : decode cX4_viewAt 14 = .ok (.if_icmp .eq 7, 3) := by decide +kernel
theorem dX4_viewAt_17 : decode cX4_viewAt 17 = .ok (.iconst 1, 1) := by decide +kernel
theorem dX4_viewAt_18 : decode cX4_viewAt 18 = .ok (.goto 4, 3) := by decide +kernel
theorem dX4_viewAt_21 : decode cX4_viewAt 21 = .ok (.iconst 0, 1) := by decide +kernel
theorem dX4_viewAt_22 : decode cX4_viewAt 22 = .ok (.istore_n 3, 1) := by decide +kernel
theorem dX4_viewAt_23 : decode cX4_viewAt 23 = .ok (.aload_n 0, 1) := by decide +kernel
theorem dX4_viewAt_24 : decode cX4_viewAt 24 = .ok (.iload_n 3, 1) := by decide +kernel
theorem dX4_viewAt_25 : decode cX4_viewAt 25 = .ok (.iconst 1, 1) := by decide +kernel
theorem dX4_viewAt_26 : decode cX4_viewAt 26 = .ok (.iconst 1, 1) := by decide +kernel
theorem dX4_viewAt_27 : decode cX4_viewAt 27 = .ok (.invokevirtual 100, 3) := by decide +kernel
theorem dX4_viewAt_30 : decode cX4_viewAt 30 = .ok (.ifCond .eq 12, 3) := by decide +kernel
theorem dX4_viewAt_33 : decode cX4_viewAt 33 = .ok (.aload_n 0, 1) := by decide +kernel
theorem dX4_viewAt_34 : decode cX4_viewAt 34 = .ok (.iload_n 1, 1) := by decide +kernel
theorem dX4_viewAt_35 : decode cX4_viewAt 35 = .ok (.iload_n 2, 1) := by decide +kernel
theorem dX4_viewAt_36 : decode cX4_viewAt 36 = .ok (.invokevirtual 124, 3) := by decide +kernel
theorem dX4_viewAt_39 : decode cX4_viewAt 39 = .ok (.goto 4, 3) := by decide +kernel
theorem dX4_viewAt_42 : decode cX4_viewAt 42 = .ok (.iconst 0, 1) := by decide +kernel
theorem dX4_viewAt_43 : decode cX4_viewAt 43 = .ok (.ireturn, 1) := by decide +kernel
theorem dJ9_max_7cf53_0 : decode cJ9_max_7cf53 0 = .ok (.iload_n 0, 1) := by decide +kernel
theorem dJ9_max_7cf53_1 : decode cJ9_max_7cf53 1 = .ok (.iload_n 1, 1) := by decide +kernel
theorem dJ9_max_7cf53_2 : decode cJ9_max_7cf53 2 = .ok (.if_icmp .lt 7, 3) := by decide +kernel
theorem dJ9_max_7cf53_5 : decode cJ9_max_7cf53 5 = .ok (.iload_n 0, 1) := by decide +kernel
theorem dJ9_max_7cf53_6 : decode cJ9_max_7cf53 6 = .ok (.goto 4, 3) := by decide +kernel
theorem dJ9_max_7cf53_9 : decode cJ9_max_7cf53 9 = .ok (.iload_n 1, 1) := by decide +kernel
theorem dJ9_max_7cf53_10 : decode cJ9_max_7cf53 10 = .ok (.ireturn, 1) := by decide +kernel
theorem dJ9_min_7cf53_0 : decode cJ9_min_7cf53 0 = .ok (.iload_n 0, 1) := by decide +kernel
theorem dJ9_min_7cf53_1 : decode cJ9_min_7cf53 1 = .ok (.iload_n 1, 1) := by decide +kernel
theorem dJ9_min_7cf53_2 : decode cJ9_min_7cf53 2 = .ok (.if_icmp .gt 7, 3) := by decide +kernel
theorem dJ9_min_7cf53_5 : decode cJ9_min_7cf53 5 = .ok (.iload_n 0, 1) := by decide +kernel
theorem dJ9_min_7cf53_6 : decode cJ9_min_7cf53 6 = .ok (.goto 4, 3) := by decide +kernel
theorem dJ9_min_7cf53_9 : decode cJ9_min_7cf53 9 = .ok (.iload_n 1, 1) := by decide +kernel
theorem dJ9_min_7cf53_10 : decode cJ9_min_7cf53 10 = .ok (.ireturn, 1) := by decide +kernel
theorem dJ7_fill_53178_0 : decode cJ7_fill_53178 0 = .ok (.iconst 0, 1) := by decide +kernel
theorem dJ7_fill_53178_1 : decode cJ7_fill_53178 1 = .ok (.istore_n 2, 1) := by decide +kernel
theorem dJ7_fill_53178_2 : decode cJ7_fill_53178 2 = .ok (.aload_n 0, 1) := by decide +kernel
theorem dJ7_fill_53178_3 : decode cJ7_fill_53178 3 = .ok (.arraylength, 1) := by decide +kernel
theorem dJ7_fill_53178_4 : decode cJ7_fill_53178 4 = .ok (.istore_n 3, 1) := by decide +kernel
theorem dJ7_fill_53178_5 : decode cJ7_fill_53178 5 = .ok (.iload_n 2, 1) := by decide +kernel
theorem dJ7_fill_53178_6 : decode cJ7_fill_53178 6 = .ok (.iload_n 3, 1) := by decide +kernel
theorem dJ7_fill_53178_7 : decode cJ7_fill_53178 7 = .ok (.if_icmp .ge 13, 3) := by decide +kernel
theorem dJ7_fill_53178_10 : decode cJ7_fill_53178 10 = .ok (.aload_n 0, 1) := by decide +kernel
theorem dJ7_fill_53178_11 : decode cJ7_fill_53178 11 = .ok (.iload_n 2, 1) := by decide +kernel
theorem dJ7_fill_53178_12 : decode cJ7_fill_53178 12 = .ok (.iload_n 1, 1) := by decide +kernel
theorem dJ7_fill_53178_13 : decode cJ7_fill_53178 13 = .ok (.iastore, 1) := by decide +kernel
theorem dJ7_fill_53178_14 : decode cJ7_fill_53178 14 = .ok (.iinc 2 1, 3) := by decide +kernel
theorem dJ7_fill_53178_17 : decode cJ7_fill_53178 17 = .ok (.goto (-12), 3) := by decide +kernel
theorem dJ7_fill_53178_20 : decode cJ7_fill_53178 20 = .ok (.return_, 1) := by decide +kernel
end
section
set_option maxRecDepth 20000 in
theorem ggL_edit_X3_edit : GoodIn wsL_edit wsX3_edit := goodIn_ca (goodIn_ca (goodIn_ca (goodIn_r _ [8, 9, 10, 11, 12, 13, 7, 14, 15, 16, 17, 18, 19, 20, 21, 22, 23, 24, 25, 26, 27, 28, 29, 30, 31, 32, 33, 34, 35, 36, 37, 38, 39, 40, 41, 42, 43, 44, 45, 46, 47, 48, 49, 50, 51, 52, 53, 54, 55, 56, 57, 58, 59, 60, 61, 62, 63, 64, 65, 66, 67, 68, 69, 70, 71, 72, 73, 74, 75, 76, 77, 78, 79, 80, 81, 82, 83, 84, 85, 86, 87, 88, 89, 90, 91, 92, 93, 94, 95, 96, 97, 98, 99, 100, 101, 102, 103, 104, 105, 106, 107, 108, 109, 110, 111, 112, 113, 114, 115, 116, 117, 118, 119, 120, 121, 122, 123, 124, 125, 126, 127, 128, 129, 130, 131, 132] (by decide +kernel) (by decide +kernel)) (goodIn_sub (fun _ h => List.mem_cons_of_mem _ (List.mem_append_left _ (List.mem_append_left _ (List.mem_append_right _ h)))) (by decide +kernel))) (goodIn_sub (fun _ h => List.mem_cons_of_mem _ (List.mem_append_left _ (List.mem_append_right _ h))) (by decide +kernel))) (goodIn_sub (fun _ h => List.mem_cons_of_mem _ (List.mem_append_right _ h)) (by decide +kernel))
set_option maxRecDepth 20000 in
theorem gL_edit_X3_edit : GoodIn wsL_edit (wsV RL 7 RX3 yX3_edit wsX3_edit) := goodIn_app (goodIn_of _ (by decide +kernel)) ggL_edit_X3_edit
theorem dL_edit_0 : decode cL_edit 0 = .ok (.aload 5, 2) := by decide +kernel
theorem dL_edit_2 : decode cL_edit 2 = .ok (.iconst 0, 1) := by decide +kernel
theorem dL_edit_3 : decode cL_edit 3 = .ok (.aload_n 0, 1) := by decide +kernel
theorem dL_edit_4 : decode cL_edit 4 = .ok (.iload_n 1, 1) := by decide +kernel
theorem dL_edit_5 : decode cL_edit 5 = .ok (.iload_n 2, 1) := by decide +kernel
theorem dL_edit_6 : decode cL_edit 6 = .ok (.iload_n 3, 1) := by decide +kernel
theorem dL_edit_7 : decode cL_edit 7 = .ok (.iload 4, 2) := by decide +kernel
theorem dL_edit_9 : decode cL_edit 9 = .ok (.invokevirtual 7, 3) := by decide +kernel
theorem dL_edit_12 : decode cL_edit 12 = .ok (.i2l, 1) := by decide +kernel
theorem dL_edit_13 : decode cL_edit 13 = .ok (.lastore, 1) := by decide +kernel
theorem dL_edit_14 : decode cL_edit 14 = .ok (.goto 15, 3) := by decide +kernel
theorem dL_edit_17 : decode cL_edit 17 = .ok (.astore 6, 2) := by decide +kernel
theorem dL_edit_19 : decode cL_edit 19 = .ok (.iconst 1, 1) := by decide +kernel
theorem dL_edit_20 : decode cL_edit 20 = .ok (.ireturn, 1) := by decide +kernel
theorem dL_edit_21 : decode cL_edit 21 = .ok (.astore 6, 2) := by decide +kernel
theorem dL_edit_23 : decode cL_edit 23 = .ok (.iconst 2, 1) := by decide +kernel
theorem dL_edit_24 : decode cL_edit 24 = .ok (.ireturn, 1) := by decide +kernel
theorem dL_edit_25 : decode cL_edit 25 = .ok (.astore 6, 2) := by decide +kernel
theorem dL_edit_27 : decode cL_edit 27 = .ok (.iconst 3, 1) := by decide +kernel
theorem dL_edit_28 : decode cL_edit 28 = .ok (.ireturn, 1) := by decide +kernel
theorem dL_edit_29 : decode cL_edit 29 = .ok (.iconst 0, 1) := by decide +kernel
theorem dL_edit_30 : decode cL_edit 30 = .ok (.ireturn, 1) := by decide +kernel
set_option maxRecDepth 20000 in
theorem ggL_delete_X3_delete : GoodIn wsL_delete wsX3_delete := goodIn_ca (goodIn_ca (goodIn_r _ [7, 8, 9, 10, 11, 12, 13, 6, 14, 15, 16, 17, 18, 19, 20, 21, 22, 23, 24, 25, 26, 27, 28, 29, 30, 31, 32, 33, 34, 35, 36, 37, 38, 39, 40, 41, 42, 43, 44, 45, 46, 47, 48, 49, 50, 51, 52, 53, 54, 55, 56, 57, 58, 59, 60, 61, 62, 63, 64, 65, 66, 67, 68, 69, 70, 71, 72, 73, 74, 75, 76, 77, 78, 79, 80, 81, 82, 83, 84, 85, 86, 87, 88, 89, 90, 91, 92, 93, 94, 95, 96, 97, 98, 99, 100, 101, 102, 103, 104, 105, 106, 107, 108, 109, 110, 111, 112, 113, 114, 115, 116, 117, 118, 119, 120, 121, 122, 123, 124, 125] (by decide +kernel) (by decide +kernel)) (goodIn_sub (fun _ h => List.mem_cons_of_mem _ (List.mem_append_left _ (List.mem_append_right _ h))) (by decide +kernel))) (goodIn_sub (fun _ h => List.mem_cons_of_mem _ (List.mem_append_right _ h)) (by decide +kernel))
set_option maxRecDepth 20000 in
theorem gL_delete_X3_delete : GoodIn wsL_delete (wsV RL 19 RX3 yX3_delete wsX3_delete) := goodIn_app (goodIn_of _ (by decide +kernel)) ggL_delete_X3_delete
theorem dL_delete_0 : decode cL_delete 0 = .ok (.aload 4, 2) := by decide +kernel
theorem dL_delete_2 : decode cL_delete 2 = .ok (.iconst 0, 1) := by decide +kernel
theorem dL_delete_3 : decode cL_delete 3 = .ok (.aload_n 0, 1) := by decide +kernel
theorem dL_delete_4 : decode cL_delete 4 = .ok (.iload_n 1, 1) := by decide +kernel
theorem dL_delete_5 : decode cL_delete 5 = .ok (.iload_n 2, 1) := by decide +kernel
theorem dL_delete_6 : decode cL_delete 6 = .ok (.iload_n 3, 1) := by decide +kernel
theorem dL_delete_7 : decode cL_delete 7 = .ok (.invokevirtual 19, 3) := by decide +kernel
theorem dL_delete_10 : decode cL_delete 10 = .ok (.i2l, 1) := by decide +kernel
theorem dL_delete_11 : decode cL_delete 11 = .ok (.lastore, 1) := by decide +kernel
theorem dL_delete_12 : decode cL_delete 12 = .ok (.goto 11, 3) := by decide +kernel
theorem dL_delete_15 : decode cL_delete 15 = .ok (.astore 5, 2) := by decide +kernel
theorem dL_delete_17 : decode cL_delete 17 = .ok (.iconst 1, 1) := by decide +kernel
theorem dL_delete_18 : decode cL_delete 18 = .ok (.ireturn, 1) := by decide +kernel
theorem dL_delete_19 : decode cL_delete 19 = .ok (.astore 5, 2) := by decide +kernel
theorem dL_delete_21 : decode cL_delete 21 = .ok (.iconst 2, 1) := by decide +kernel
theorem dL_delete_22 : decode cL_delete 22 = .ok (.ireturn, 1) := by decide +kernel
theorem dL_delete_23 : decode cL_delete 23 = .ok (.iconst 0, 1) := by decide +kernel
theorem dL_delete_24 : decode cL_delete 24 = .ok (.ireturn, 1) := by decide +kernel
set_option maxRecDepth 20000 in
theorem ggL_setDepth_X3_setDepth : GoodIn wsL_setDepth wsX3_setDepth := goodIn_ca (goodIn_ca (goodIn_r _ [7, 8, 9, 10, 11, 12, 13, 6, 14, 15, 16, 17, 18, 19, 20, 21, 22, 23, 24, 25, 26, 27, 28, 29, 30, 31, 32, 33, 34, 35, 36, 37, 38, 39, 40, 41, 42, 43, 44, 45, 46] (by decide +kernel) (by decide +kernel)) (goodIn_sub (fun _ h => List.mem_cons_of_mem _ (List.mem_append_left _ (List.mem_append_right _ h))) (by decide +kernel))) (goodIn_sub (fun _ h => List.mem_cons_of_mem _ (List.mem_append_right _ h)) (by decide +kernel))
set_option maxRecDepth 20000 in
theorem gL_setDepth_X3_setDepth : GoodIn wsL_setDepth (wsV RL 23 RX3 yX3_setDepth wsX3_setDepth) := goodIn_app (goodIn_of _ (by decide +kernel)) ggL_setDepth_X3_setDepth
theorem dL_setDepth_0 : decode cL_setDepth 0 = .ok (.aload_n 3, 1) := by decide +kernel
theorem dL_setDepth_1 : decode cL_setDepth 1 = .ok (.iconst 0, 1) := by decide +kernel
theorem dL_setDepth_2 : decode cL_setDepth 2 = .ok (.aload_n 0, 1) := by decide +kernel
theorem dL_setDepth_3 : decode cL_setDepth 3 = .ok (.iload_n 1, 1) := by decide +kernel
theorem dL_setDepth_4 : decode cL_setDepth 4 = .ok (.iload_n 2, 1) := by decide +kernel
theorem dL_setDepth_5 : decode cL_setDepth 5 = .ok (.invokevirtual 23, 3) := by decide +kernel
theorem dL_setDepth_8 : decode cL_setDepth 8 = .ok (.i2l, 1) := by decide +kernel
theorem dL_setDepth_9 : decode cL_setDepth 9 = .ok (.lastore, 1) := by decide +kernel
theorem dL_setDepth_10 : decode cL_setDepth 10 = .ok (.goto 11, 3) := by decide +kernel
theorem dL_setDepth_13 : decode cL_setDepth 13 = .ok (.astore 4, 2) := by decide +kernel
theorem dL_setDepth_15 : decode cL_setDepth 15 = .ok (.iconst 1, 1) := by decide +kernel
theorem dL_setDepth_16 : decode cL_setDepth 16 = .ok (.ireturn, 1) := by decide +kernel
theorem dL_setDepth_17 : decode cL_setDepth 17 = .ok (.astore 4, 2) := by decide +kernel
theorem dL_setDepth_19 : decode cL_setDepth 19 = .ok (.iconst 2, 1) := by decide +kernel
theorem dL_setDepth_20 : decode cL_setDepth 20 = .ok (.ireturn, 1) := by decide +kernel
theorem dL_setDepth_21 : decode cL_setDepth 21 = .ok (.iconst 0, 1) := by decide +kernel
theorem dL_setDepth_22 : decode cL_setDepth 22 = .ok (.ireturn, 1) := by decide +kernel
set_option maxRecDepth 20000 in
theorem ggL_wipe_X3_wipe : GoodIn wsL_wipe wsX3_wipe := goodIn_ca (goodIn_r _ [6, 7, 8, 9, 10, 5, 11, 12, 13, 14, 15, 16, 17, 18, 19, 20, 21, 22, 23, 24, 25, 26, 27, 28, 29, 30, 31, 32, 33, 34, 35, 36, 37, 38, 39, 40, 41, 42, 43, 44, 45, 46, 47, 48, 49, 50, 51, 52, 53, 54, 55, 56, 57, 58, 59, 60, 61, 62, 63, 64, 65, 66, 67, 68, 69, 70, 71, 72, 73, 74, 75, 76, 77, 78, 79, 80, 81, 82, 83, 84, 85, 86, 87, 88, 89, 90] (by decide +kernel) (by decide +kernel)) (goodIn_sub (fun _ h => List.mem_cons_of_mem _ (List.mem_append_right _ h)) (by decide +kernel))
set_option maxRecDepth 20000 in
theorem gL_wipe_X3_wipe : GoodIn wsL_wipe (wsV RL 27 RX3 yX3_wipe wsX3_wipe) := goodIn_app (goodIn_of _ (by decide +kernel)) ggL_wipe_X3_wipe
theorem dL_wipe_0 : decode cL_wipe 0 = .ok (.aload_n 2, 1) := by decide +kernel
theorem dL_wipe_1 : decode cL_wipe 1 = .ok (.iconst 0, 1) := by decide +kernel
theorem dL_wipe_2 : decode cL_wipe 2 = .ok (.aload_n 0, 1) := by decide +kernel
theorem dL_wipe_3 : decode cL_wipe 3 = .ok (.iload_n 1, 1) := by decide +kernel
theorem dL_wipe_4 : decode cL_wipe 4 = .ok (.invokevirtual 27, 3) := by decide +kernel
theorem dL_wipe_7 : decode cL_wipe 7 = .ok (.i2l, 1) := by decide +kernel
theorem dL_wipe_8 : decode cL_wipe 8 = .ok (.lastore, 1) := by decide +kernel
theorem dL_wipe_9 : decode cL_wipe 9 = .ok (.goto 6, 3) := by decide +kernel
theorem dL_wipe_12 : decode cL_wipe 12 = .ok (.astore_n 3, 1) := by decide +kernel
theorem dL_wipe_13 : decode cL_wipe 13 = .ok (.iconst 1, 1) := by decide +kernel
theorem dL_wipe_14 : decode cL_wipe 14 = .ok (.ireturn, 1) := by decide +kernel
theorem dL_wipe_15 : decode cL_wipe 15 = .ok (.iconst 0, 1) := by decide +kernel
theorem dL_wipe_16 : decode cL_wipe 16 = .ok (.ireturn, 1) := by decide +kernel
set_option maxRecDepth 20000 in
theorem ggL_replicate_X3_replicate : GoodIn wsL_replicate wsX3_replicate := goodIn_ca (goodIn_ca (goodIn_r _ [7, 8, 9, 10, 11, 12, 13, 6, 14, 15, 16, 17, 18, 19, 20, 21, 22, 23, 24, 25, 26, 27, 28, 29, 30, 31, 32, 33, 34, 35, 36, 37, 38, 39, 40, 41, 42, 43, 44, 45, 46, 47, 48, 49, 50, 51, 52, 53, 54, 55, 56, 57, 58, 59, 60, 61, 62, 63, 64, 65, 66, 67, 68, 69, 70, 71, 72, 73, 74, 75, 76, 77, 78, 79, 80, 81, 82, 83, 84, 85, 86, 87, 88, 89, 90, 91, 92, 93, 94, 95, 96, 97, 98, 99, 100, 101, 102, 103, 104, 105, 106, 107, 108, 109, 110, 111, 112, 113, 114, 115, 116] (by decide +kernel) (by decide +kernel)) (goodIn_sub (fun _ h => List.mem_cons_of_mem _ (List.mem_append_left _ (List.mem_append_right _ h))) (by decide +kernel))) (goodIn_sub (fun _ h => List.mem_cons_of_mem _ (List.mem_append_right _ h)) (by decide +kernel))
set_option maxRecDepth 20000 in
theorem gL_replicate_X3_replicate : GoodIn wsL_replicate (wsV RL 31 RX3 yX3_replicate wsX3_replicate) := goodIn_app (goodIn_of _ (by decide +kernel)) ggL_replicate_X3_replicate
theorem dL_replicate_0 : decode cL_replicate 0 = .ok (.aload 4, 2) := by decide +kernel
theorem dL_replicate_2 : decode cL_replicate 2 = .ok (.iconst 0, 1) := by decide +kernel
theorem dL_replicate_3 : decode cL_replicate 3 = .ok (.aload_n 0, 1) := by decide +kernel
theorem dL_replicate_4 : decode cL_replicate 4 = .ok (.iload_n 1, 1) := by decide +kernel
theorem dL_replicate_5 : decode cL_replicate 5 = .ok (.iload_n 2, 1) := by decide +kernel
theorem dL_replicate_6 : decode cL_replicate 6 = .ok (.iload_n 3, 1) := by decide +kernel
theorem dL_replicate_7 : decode cL_replicate 7 = .ok (.invokevirtual 31, 3) := by decide +kernel
theorem dL_replicate_10 : decode cL_replicate 10 = .ok (.i2l, 1) := by decide +kernel
theorem dL_replicate_11 : decode cL_replicate 11 = .ok (.lastore, 1) := by decide +kernel
theorem dL_replicate_12 : decode cL_replicate 12 = .ok (.goto 11, 3) := by decide +kernel
theorem dL_replicate_15 : decode cL_replicate 15 = .ok (.astore 5, 2) := by decide +kernel
theorem dL_replicate_17 : decode cL_replicate 17 = .ok (.iconst 1, 1) := by decide +kernel
theorem dL_replicate_18 : decode cL_replicate 18 = .ok (.ireturn, 1) := by decide +kernel
theorem dL_replicate_19 : decode cL_replicate 19 = .ok (.astore 5, 2) := by decide +kernel
theorem dL_replicate_21 : decode cL_replicate 21 = .ok (.iconst 2, 1) := by decide +kernel
theorem dL_replicate_22 : decode cL_replicate 22 = .ok (.ireturn, 1) := by decide +kernel
theorem dL_replicate_23 : decode cL_replicate 23 = .ok (.iconst 0, 1) := by decide +kernel
theorem dL_replicate_24 : decode cL_replicate 24 = .ok (.ireturn, 1) := by decide +kernel
set_option maxRecDepth 20000 in
theorem ggL_pending_X3_pending : GoodIn wsL_pending wsX3_pending := goodIn_ca (goodIn_ca (goodIn_r _ [7, 8, 9, 10, 6, 11, 12, 13, 14, 15, 16, 17, 18, 19, 20, 21, 22, 23, 24, 25, 26, 27, 28, 29, 30, 31, 32, 33, 34, 35, 36, 37, 38, 39, 40, 41, 42, 43, 44, 45] (by decide +kernel) (by decide +kernel)) (goodIn_sub (fun _ h => List.mem_cons_of_mem _ (List.mem_append_left _ (List.mem_append_right _ h))) (by decide +kernel))) (goodIn_sub (fun _ h => List.mem_cons_of_mem _ (List.mem_append_right _ h)) (by decide +kernel))
set_option maxRecDepth 20000 in
theorem gL_pending_X3_pending : GoodIn wsL_pending (wsV RL 34 RX3 yX3_pending wsX3_pending) := goodIn_app (goodIn_of _ (by decide +kernel)) ggL_pending_X3_pending
theorem dL_pending_0 : decode cL_pending 0 = .ok (.aload_n 3, 1) := by decide +kernel
theorem dL_pending_1 : decode cL_pending 1 = .ok (.iconst 0, 1) := by decide +kernel
theorem dL_pending_2 : decode cL_pending 2 = .ok (.aload_n 0, 1) := by decide +kernel
theorem dL_pending_3 : decode cL_pending 3 = .ok (.iload_n 1, 1) := by decide +kernel
theorem dL_pending_4 : decode cL_pending 4 = .ok (.iload_n 2, 1) := by decide +kernel
theorem dL_pending_5 : decode cL_pending 5 = .ok (.invokevirtual 34, 3) := by decide +kernel
theorem dL_pending_8 : decode cL_pending 8 = .ok (.i2l, 1) := by decide +kernel
theorem dL_pending_9 : decode cL_pending 9 = .ok (.lastore, 1) := by decide +kernel
theorem dL_pending_10 : decode cL_pending 10 = .ok (.goto 11, 3) := by decide +kernel
theorem dL_pending_13 : decode cL_pending 13 = .ok (.astore 4, 2) := by decide +kernel
theorem dL_pending_15 : decode cL_pending 15 = .ok (.iconst 1, 1) := by decide +kernel
theorem dL_pending_16 : decode cL_pending 16 = .ok (.ireturn, 1) := by decide +kernel
theorem dL_pending_17 : decode cL_pending 17 = .ok (.astore 4, 2) := by decide +kernel
theorem dL_pending_19 : decode cL_pending 19 = .ok (.iconst 2, 1) := by decide +kernel
theorem dL_pending_20 : decode cL_pending 20 = .ok (.ireturn, 1) := by decide +kernel
theorem dL_pending_21 : decode cL_pending 21 = .ok (.iconst 0, 1) := by decide +kernel
theorem dL_pending_22 : decode cL_pending 22 = .ok (.ireturn, 1) := by decide +kernel
set_option maxRecDepth 20000 in
theorem ggL_checkpoint_X3_checkpoint : GoodIn wsL_checkpoint wsX3_checkpoint := goodIn_ca (goodIn_ca (goodIn_r _ [7, 8, 9, 10, 6, 11, 12, 13, 14, 15, 16, 17, 18, 19, 20, 21, 22, 23, 24, 25, 26, 27, 28, 29, 30, 31, 32, 33, 34, 35, 36, 37, 38, 39] (by decide +kernel) (by decide +kernel)) (goodIn_sub (fun _ h => List.mem_cons_of_mem _ (List.mem_append_left _ (List.mem_append_right _ h))) (by decide +kernel))) (goodIn_sub (fun _ h => List.mem_cons_of_mem _ (List.mem_append_right _ h)) (by decide +kernel))
set_option maxRecDepth 20000 in
theorem gL_checkpoint_X3_checkpoint : GoodIn wsL_checkpoint (wsV RL 37 RX3 yX3_checkpoint wsX3_checkpoint) := goodIn_app (goodIn_of _ (by decide +kernel)) ggL_checkpoint_X3_checkpoint
theorem dL_checkpoint_0 : decode cL_checkpoint 0 = .ok (.aload_n 3, 1) := by decide +kernel
theorem dL_checkpoint_1 : decode cL_checkpoint 1 = .ok (.iconst 0, 1) := by decide +kernel
theorem dL_checkpoint_2 : decode cL_checkpoint 2 = .ok (.aload_n 0, 1) := by decide +kernel
theorem dL_checkpoint_3 : decode cL_checkpoint 3 = .ok (.iload_n 1, 1) := by decide +kernel
theorem dL_checkpoint_4 : decode cL_checkpoint 4 = .ok (.iload_n 2, 1) := by decide +kernel
theorem dL_checkpoint_5 : decode cL_checkpoint 5 = .ok (.invokevirtual 37, 3) := by decide +kernel
theorem dL_checkpoint_8 : decode cL_checkpoint 8 = .ok (.i2l, 1) := by decide +kernel
theorem dL_checkpoint_9 : decode cL_checkpoint 9 = .ok (.lastore, 1) := by decide +kernel
theorem dL_checkpoint_10 : decode cL_checkpoint 10 = .ok (.goto 11, 3) := by decide +kernel
theorem dL_checkpoint_13 : decode cL_checkpoint 13 = .ok (.astore 4, 2) := by decide +kernel
theorem dL_checkpoint_15 : decode cL_checkpoint 15 = .ok (.iconst 1, 1) := by decide +kernel
theorem dL_checkpoint_16 : decode cL_checkpoint 16 = .ok (.ireturn, 1) := by decide +kernel
theorem dL_checkpoint_17 : decode cL_checkpoint 17 = .ok (.astore 4, 2) := by decide +kernel
theorem dL_checkpoint_19 : decode cL_checkpoint 19 = .ok (.iconst 2, 1) := by decide +kernel
theorem dL_checkpoint_20 : decode cL_checkpoint 20 = .ok (.ireturn, 1) := by decide +kernel
theorem dL_checkpoint_21 : decode cL_checkpoint 21 = .ok (.iconst 0, 1) := by decide +kernel
theorem dL_checkpoint_22 : decode cL_checkpoint 22 = .ok (.ireturn, 1) := by decide +kernel
set_option maxRecDepth 20000 in
theorem ggL_documentOf_X3_documentOf : GoodIn wsL_documentOf wsX3_documentOf := goodIn_ca (goodIn_r _ [6, 7, 8, 9, 10, 5, 11, 12, 13, 14, 15, 16, 17, 18, 19, 20, 21, 22, 23] (by decide +kernel) (by decide +kernel)) (goodIn_sub (fun _ h => List.mem_cons_of_mem _ (List.mem_append_right _ h)) (by decide +kernel))
set_option maxRecDepth 20000 in
theorem gL_documentOf_X3_documentOf : GoodIn wsL_documentOf (wsV RL 40 RX3 yX3_documentOf wsX3_documentOf) := goodIn_app (goodIn_of _ (by decide +kernel)) ggL_documentOf_X3_documentOf
theorem dL_documentOf_0 : decode cL_documentOf 0 = .ok (.aload_n 2, 1) := by decide +kernel
theorem dL_documentOf_1 : decode cL_documentOf 1 = .ok (.iconst 0, 1) := by decide +kernel
theorem dL_documentOf_2 : decode cL_documentOf 2 = .ok (.aload_n 0, 1) := by decide +kernel
theorem dL_documentOf_3 : decode cL_documentOf 3 = .ok (.iload_n 1, 1) := by decide +kernel
theorem dL_documentOf_4 : decode cL_documentOf 4 = .ok (.invokevirtual 40, 3) := by decide +kernel
theorem dL_documentOf_7 : decode cL_documentOf 7 = .ok (.i2l, 1) := by decide +kernel
theorem dL_documentOf_8 : decode cL_documentOf 8 = .ok (.lastore, 1) := by decide +kernel
theorem dL_documentOf_9 : decode cL_documentOf 9 = .ok (.goto 6, 3) := by decide +kernel
theorem dL_documentOf_12 : decode cL_documentOf 12 = .ok (.astore_n 3, 1) := by decide +kernel
theorem dL_documentOf_13 : decode cL_documentOf 13 = .ok (.iconst 1, 1) := by decide +kernel
theorem dL_documentOf_14 : decode cL_documentOf 14 = .ok (.ireturn, 1) := by decide +kernel
theorem dL_documentOf_15 : decode cL_documentOf 15 = .ok (.iconst 0, 1) := by decide +kernel
theorem dL_documentOf_16 : decode cL_documentOf 16 = .ok (.ireturn, 1) := by decide +kernel
set_option maxRecDepth 20000 in
theorem ggL_parentOf_X3_parentOf : GoodIn wsL_parentOf wsX3_parentOf := goodIn_ca (goodIn_r _ [6, 7, 8, 9, 10, 5, 11, 12, 13, 14, 15, 16, 17, 18, 19, 20, 21, 22, 23] (by decide +kernel) (by decide +kernel)) (goodIn_sub (fun _ h => List.mem_cons_of_mem _ (List.mem_append_right _ h)) (by decide +kernel))
set_option maxRecDepth 20000 in
theorem gL_parentOf_X3_parentOf : GoodIn wsL_parentOf (wsV RL 43 RX3 yX3_parentOf wsX3_parentOf) := goodIn_app (goodIn_of _ (by decide +kernel)) ggL_parentOf_X3_parentOf
theorem dL_parentOf_0 : decode cL_parentOf 0 = .ok (.aload_n 2, 1) := by decide +kernel
theorem dL_parentOf_1 : decode cL_parentOf 1 = .ok (.iconst 0, 1) := by decide +kernel
theorem dL_parentOf_2 : decode cL_parentOf 2 = .ok (.aload_n 0, 1) := by decide +kernel
theorem dL_parentOf_3 : decode cL_parentOf 3 = .ok (.iload_n 1, 1) := by decide +kernel
theorem dL_parentOf_4 : decode cL_parentOf 4 = .ok (.invokevirtual 43, 3) := by decide +kernel
theorem dL_parentOf_7 : decode cL_parentOf 7 = .ok (.i2l, 1) := by decide +kernel
theorem dL_parentOf_8 : decode cL_parentOf 8 = .ok (.lastore, 1) := by decide +kernel
theorem dL_parentOf_9 : decode cL_parentOf 9 = .ok (.goto 6, 3) := by decide +kernel
theorem dL_parentOf_12 : decode cL_parentOf 12 = .ok (.astore_n 3, 1) := by decide +kernel
theorem dL_parentOf_13 : decode cL_parentOf 13 = .ok (.iconst 1, 1) := by decide +kernel
theorem dL_parentOf_14 : decode cL_parentOf 14 = .ok (.ireturn, 1) := by decide +kernel
theorem dL_parentOf_15 : decode cL_parentOf 15 = .ok (.iconst 0, 1) := by decide +kernel
theorem dL_parentOf_16 : decode cL_parentOf 16 = .ok (.ireturn, 1) := by decide +kernel
set_option maxRecDepth 20000 in
theorem ggL_generation_X3_generation : GoodIn wsL_generation wsX3_generation := goodIn_ca (goodIn_r _ [6, 7, 8, 9, 10, 5, 11, 12, 13, 14, 15, 16, 17, 18, 19, 20, 21, 22, 23] (by decide +kernel) (by decide +kernel)) (goodIn_sub (fun _ h => List.mem_cons_of_mem _ (List.mem_append_right _ h)) (by decide +kernel))
set_option maxRecDepth 20000 in
theorem gL_generation_X3_generation : GoodIn wsL_generation (wsV RL 46 RX3 yX3_generation wsX3_generation) := goodIn_app (goodIn_of _ (by decide +kernel)) ggL_generation_X3_generation
theorem dL_generation_0 : decode cL_generation 0 = .ok (.aload_n 2, 1) := by decide +kernel
theorem dL_generation_1 : decode cL_generation 1 = .ok (.iconst 0, 1) := by decide +kernel
theorem dL_generation_2 : decode cL_generation 2 = .ok (.aload_n 0, 1) := by decide +kernel
theorem dL_generation_3 : decode cL_generation 3 = .ok (.iload_n 1, 1) := by decide +kernel
theorem dL_generation_4 : decode cL_generation 4 = .ok (.invokevirtual 46, 3) := by decide +kernel
theorem dL_generation_7 : decode cL_generation 7 = .ok (.i2l, 1) := by decide +kernel
theorem dL_generation_8 : decode cL_generation 8 = .ok (.lastore, 1) := by decide +kernel
theorem dL_generation_9 : decode cL_generation 9 = .ok (.goto 6, 3) := by decide +kernel
theorem dL_generation_12 : decode cL_generation 12 = .ok (.astore_n 3, 1) := by decide +kernel
theorem dL_generation_13 : decode cL_generation 13 = .ok (.iconst 1, 1) := by decide +kernel
theorem dL_generation_14 : decode cL_generation 14 = .ok (.ireturn, 1) := by decide +kernel
theorem dL_generation_15 : decode cL_generation 15 = .ok (.iconst 0, 1) := by decide +kernel
theorem dL_generation_16 : decode cL_generation 16 = .ok (.ireturn, 1) := by decide +kernel
set_option maxRecDepth 20000 in
theorem ggL_sum_X3_sum : GoodIn wsL_sum wsX3_sum := goodIn_ca (goodIn_r _ [6, 7, 8, 9, 10, 5, 11, 12, 13, 14, 15, 16, 17, 18, 19, 20, 21, 22, 23] (by decide +kernel) (by decide +kernel)) (goodIn_sub (fun _ h => List.mem_cons_of_mem _ (List.mem_append_right _ h)) (by decide +kernel))
set_option maxRecDepth 20000 in
theorem gL_sum_X3_sum : GoodIn wsL_sum (wsV RL 49 RX3 yX3_sum wsX3_sum) := goodIn_app (goodIn_of _ (by decide +kernel)) ggL_sum_X3_sum
theorem dL_sum_0 : decode cL_sum 0 = .ok (.aload_n 2, 1) := by decide +kernel
theorem dL_sum_1 : decode cL_sum 1 = .ok (.iconst 0, 1) := by decide +kernel
theorem dL_sum_2 : decode cL_sum 2 = .ok (.aload_n 0, 1) := by decide +kernel
theorem dL_sum_3 : decode cL_sum 3 = .ok (.iload_n 1, 1) := by decide +kernel
theorem dL_sum_4 : decode cL_sum 4 = .ok (.invokevirtual 49, 3) := by decide +kernel
theorem dL_sum_7 : decode cL_sum 7 = .ok (.i2l, 1) := by decide +kernel
theorem dL_sum_8 : decode cL_sum 8 = .ok (.lastore, 1) := by decide +kernel
theorem dL_sum_9 : decode cL_sum 9 = .ok (.goto 6, 3) := by decide +kernel
theorem dL_sum_12 : decode cL_sum 12 = .ok (.astore_n 3, 1) := by decide +kernel
theorem dL_sum_13 : decode cL_sum 13 = .ok (.iconst 1, 1) := by decide +kernel
theorem dL_sum_14 : decode cL_sum 14 = .ok (.ireturn, 1) := by decide +kernel
theorem dL_sum_15 : decode cL_sum 15 = .ok (.iconst 0, 1) := by decide +kernel
theorem dL_sum_16 : decode cL_sum 16 = .ok (.ireturn, 1) := by decide +kernel
set_option maxRecDepth 20000 in
theorem ggL_valueOf_X3_valueOf : GoodIn wsL_valueOf wsX3_valueOf := goodIn_ca (goodIn_r _ [6, 7, 8, 9, 10, 5, 11, 12, 13, 14, 15, 16, 17, 18, 19, 20, 21, 22, 23] (by decide +kernel) (by decide +kernel)) (goodIn_sub (fun _ h => List.mem_cons_of_mem _ (List.mem_append_right _ h)) (by decide +kernel))
set_option maxRecDepth 20000 in
theorem gL_valueOf_X3_valueOf : GoodIn wsL_valueOf (wsV RL 52 RX3 yX3_valueOf wsX3_valueOf) := goodIn_app (goodIn_of _ (by decide +kernel)) ggL_valueOf_X3_valueOf
theorem dL_valueOf_0 : decode cL_valueOf 0 = .ok (.aload_n 2, 1) := by decide +kernel
theorem dL_valueOf_1 : decode cL_valueOf 1 = .ok (.iconst 0, 1) := by decide +kernel
theorem dL_valueOf_2 : decode cL_valueOf 2 = .ok (.aload_n 0, 1) := by decide +kernel
theorem dL_valueOf_3 : decode cL_valueOf 3 = .ok (.iload_n 1, 1) := by decide +kernel
theorem dL_valueOf_4 : decode cL_valueOf 4 = .ok (.invokevirtual 52, 3) := by decide +kernel
theorem dL_valueOf_7 : decode cL_valueOf 7 = .ok (.i2l, 1) := by decide +kernel
theorem dL_valueOf_8 : decode cL_valueOf 8 = .ok (.lastore, 1) := by decide +kernel
theorem dL_valueOf_9 : decode cL_valueOf 9 = .ok (.goto 6, 3) := by decide +kernel
theorem dL_valueOf_12 : decode cL_valueOf 12 = .ok (.astore_n 3, 1) := by decide +kernel
theorem dL_valueOf_13 : decode cL_valueOf 13 = .ok (.iconst 1, 1) := by decide +kernel
theorem dL_valueOf_14 : decode cL_valueOf 14 = .ok (.ireturn, 1) := by decide +kernel
theorem dL_valueOf_15 : decode cL_valueOf 15 = .ok (.iconst 0, 1) := by decide +kernel
theorem dL_valueOf_16 : decode cL_valueOf 16 = .ok (.ireturn, 1) := by decide +kernel
set_option maxRecDepth 20000 in
theorem ggL_sequence_X3_sequence : GoodIn wsL_sequence wsX3_sequence := goodIn_ca (goodIn_r _ [6, 7, 8, 9, 5, 10, 11, 12, 13, 14, 15, 16, 17, 18, 19, 20, 21] (by decide +kernel) (by decide +kernel)) (goodIn_sub (fun _ h => List.mem_cons_of_mem _ (List.mem_append_right _ h)) (by decide +kernel))
set_option maxRecDepth 20000 in
theorem gL_sequence_X3_sequence : GoodIn wsL_sequence (wsV RL 55 RX3 yX3_sequence wsX3_sequence) := goodIn_app (goodIn_of _ (by decide +kernel)) ggL_sequence_X3_sequence
theorem dL_sequence_0 : decode cL_sequence 0 = .ok (.aload_n 2, 1) := by decide +kernel
theorem dL_sequence_1 : decode cL_sequence 1 = .ok (.iconst 0, 1) := by decide +kernel
theorem dL_sequence_2 : decode cL_sequence 2 = .ok (.aload_n 0, 1) := by decide +kernel
theorem dL_sequence_3 : decode cL_sequence 3 = .ok (.iload_n 1, 1) := by decide +kernel
theorem dL_sequence_4 : decode cL_sequence 4 = .ok (.invokevirtual 55, 3) := by decide +kernel
theorem dL_sequence_7 : decode cL_sequence 7 = .ok (.i2l, 1) := by decide +kernel
theorem dL_sequence_8 : decode cL_sequence 8 = .ok (.lastore, 1) := by decide +kernel
theorem dL_sequence_9 : decode cL_sequence 9 = .ok (.goto 6, 3) := by decide +kernel
theorem dL_sequence_12 : decode cL_sequence 12 = .ok (.astore_n 3, 1) := by decide +kernel
theorem dL_sequence_13 : decode cL_sequence 13 = .ok (.iconst 1, 1) := by decide +kernel
theorem dL_sequence_14 : decode cL_sequence 14 = .ok (.ireturn, 1) := by decide +kernel
theorem dL_sequence_15 : decode cL_sequence 15 = .ok (.iconst 0, 1) := by decide +kernel
theorem dL_sequence_16 : decode cL_sequence 16 = .ok (.ireturn, 1) := by decide +kernel
set_option maxRecDepth 20000 in
theorem ggL_has_X3_has : GoodIn wsL_has wsX3_has := goodIn_ca (goodIn_r _ [6, 7, 8, 9, 5, 10, 11, 12, 13, 14, 15, 16, 17, 18, 19, 20, 21, 22, 23, 24, 25, 26, 27, 28, 29, 30, 31, 32, 33, 34, 35, 36] (by decide +kernel) (by decide +kernel)) (goodIn_sub (fun _ h => List.mem_cons_of_mem _ (List.mem_append_right _ h)) (by decide +kernel))
set_option maxRecDepth 20000 in
theorem gL_has_X3_has : GoodIn wsL_has (wsV RL 58 RX3 yX3_has wsX3_has) := goodIn_app (goodIn_of _ (by decide +kernel)) ggL_has_X3_has
theorem dL_has_0 : decode cL_has 0 = .ok (.aload_n 3, 1) := by decide +kernel
theorem dL_has_1 : decode cL_has 1 = .ok (.iconst 0, 1) := by decide +kernel
theorem dL_has_2 : decode cL_has 2 = .ok (.aload_n 0, 1) := by decide +kernel
theorem dL_has_3 : decode cL_has 3 = .ok (.iload_n 1, 1) := by decide +kernel
theorem dL_has_4 : decode cL_has 4 = .ok (.iload_n 2, 1) := by decide +kernel
theorem dL_has_5 : decode cL_has 5 = .ok (.invokevirtual 58, 3) := by decide +kernel
theorem dL_has_8 : decode cL_has 8 = .ok (.ifCond .eq 7, 3) := by decide +kernel
theorem dL_has_11 : decode cL_has 11 = .ok (.lconst 1, 1) := by decide +kernel
theorem dL_has_12 : decode cL_has 12 = .ok (.goto 4, 3) := by decide +kernel
theorem dL_has_15 : decode cL_has 15 = .ok (.lconst 0, 1) := by decide +kernel
theorem dL_has_16 : decode cL_has 16 = .ok (.lastore, 1) := by decide +kernel
theorem dL_has_17 : decode cL_has 17 = .ok (.goto 7, 3) := by decide +kernel
theorem dL_has_20 : decode cL_has 20 = .ok (.astore 4, 2) := by decide +kernel
theorem dL_has_22 : decode cL_has 22 = .ok (.iconst 1, 1) := by decide +kernel
theorem dL_has_23 : decode cL_has 23 = .ok (.ireturn, 1) := by decide +kernel
theorem dL_has_24 : decode cL_has 24 = .ok (.iconst 0, 1) := by decide +kernel
theorem dL_has_25 : decode cL_has 25 = .ok (.ireturn, 1) := by decide +kernel
set_option maxRecDepth 20000 in
theorem ggL_isLeaf_X3_isLeaf : GoodIn wsL_isLeaf wsX3_isLeaf := goodIn_ca (goodIn_r _ [6, 7, 8, 9, 5, 10, 11, 12, 13, 14, 15, 16, 17, 18, 19, 20, 21, 22, 23, 24, 25, 26, 27, 28, 29, 30, 31, 32, 33, 34, 35, 36, 37, 38, 39, 40, 41, 42, 43, 44, 45, 46, 47] (by decide +kernel) (by decide +kernel)) (goodIn_sub (fun _ h => List.mem_cons_of_mem _ (List.mem_append_right _ h)) (by decide +kernel))
set_option maxRecDepth 20000 in
theorem gL_isLeaf_X3_isLeaf : GoodIn wsL_isLeaf (wsV RL 62 RX3 yX3_isLeaf wsX3_isLeaf) := goodIn_app (goodIn_of _ (by decide +kernel)) ggL_isLeaf_X3_isLeaf
theorem dL_isLeaf_0 : decode cL_isLeaf 0 = .ok (.aload_n 3, 1) := by decide +kernel
theorem dL_isLeaf_1 : decode cL_isLeaf 1 = .ok (.iconst 0, 1) := by decide +kernel
theorem dL_isLeaf_2 : decode cL_isLeaf 2 = .ok (.aload_n 0, 1) := by decide +kernel
theorem dL_isLeaf_3 : decode cL_isLeaf 3 = .ok (.iload_n 1, 1) := by decide +kernel
theorem dL_isLeaf_4 : decode cL_isLeaf 4 = .ok (.iload_n 2, 1) := by decide +kernel
theorem dL_isLeaf_5 : decode cL_isLeaf 5 = .ok (.invokevirtual 62, 3) := by decide +kernel
theorem dL_isLeaf_8 : decode cL_isLeaf 8 = .ok (.ifCond .eq 7, 3) := by decide +kernel
theorem dL_isLeaf_11 : decode cL_isLeaf 11 = .ok (.lconst 1, 1) := by decide +kernel
theorem dL_isLeaf_12 : decode cL_isLeaf 12 = .ok (.goto 4, 3) := by decide +kernel
theorem dL_isLeaf_15 : decode cL_isLeaf 15 = .ok (.lconst 0, 1) := by decide +kernel
theorem dL_isLeaf_16 : decode cL_isLeaf 16 = .ok (.lastore, 1) := by decide +kernel
theorem dL_isLeaf_17 : decode cL_isLeaf 17 = .ok (.goto 7, 3) := by decide +kernel
theorem dL_isLeaf_20 : decode cL_isLeaf 20 = .ok (.astore 4, 2) := by decide +kernel
theorem dL_isLeaf_22 : decode cL_isLeaf 22 = .ok (.iconst 1, 1) := by decide +kernel
theorem dL_isLeaf_23 : decode cL_isLeaf 23 = .ok (.ireturn, 1) := by decide +kernel
theorem dL_isLeaf_24 : decode cL_isLeaf 24 = .ok (.iconst 0, 1) := by decide +kernel
theorem dL_isLeaf_25 : decode cL_isLeaf 25 = .ok (.ireturn, 1) := by decide +kernel
set_option maxRecDepth 20000 in
theorem ggL_size_X3_size : GoodIn wsL_size wsX3_size := goodIn_ca (goodIn_r _ [6, 7, 8, 9, 10, 5, 11, 12, 13, 14, 15, 16, 17, 18, 19, 20, 21, 22, 23, 24, 25, 26, 27, 28, 29, 30, 31, 32, 33, 34, 35, 36, 37, 38] (by decide +kernel) (by decide +kernel)) (goodIn_sub (fun _ h => List.mem_cons_of_mem _ (List.mem_append_right _ h)) (by decide +kernel))
set_option maxRecDepth 20000 in
theorem gL_size_X3_size : GoodIn wsL_size (wsV RL 65 RX3 yX3_size wsX3_size) := goodIn_app (goodIn_of _ (by decide +kernel)) ggL_size_X3_size
theorem dL_size_0 : decode cL_size 0 = .ok (.aload_n 2, 1) := by decide +kernel
theorem dL_size_1 : decode cL_size 1 = .ok (.iconst 0, 1) := by decide +kernel
theorem dL_size_2 : decode cL_size 2 = .ok (.aload_n 0, 1) := by decide +kernel
theorem dL_size_3 : decode cL_size 3 = .ok (.iload_n 1, 1) := by decide +kernel
theorem dL_size_4 : decode cL_size 4 = .ok (.invokevirtual 65, 3) := by decide +kernel
theorem dL_size_7 : decode cL_size 7 = .ok (.i2l, 1) := by decide +kernel
theorem dL_size_8 : decode cL_size 8 = .ok (.lastore, 1) := by decide +kernel
theorem dL_size_9 : decode cL_size 9 = .ok (.goto 6, 3) := by decide +kernel
theorem dL_size_12 : decode cL_size 12 = .ok (.astore_n 3, 1) := by decide +kernel
theorem dL_size_13 : decode cL_size 13 = .ok (.iconst 1, 1) := by decide +kernel
theorem dL_size_14 : decode cL_size 14 = .ok (.ireturn, 1) := by decide +kernel
theorem dL_size_15 : decode cL_size 15 = .ok (.iconst 0, 1) := by decide +kernel
theorem dL_size_16 : decode cL_size 16 = .ok (.ireturn, 1) := by decide +kernel
set_option maxRecDepth 20000 in
theorem ggL_winner_X3_winner : GoodIn wsL_winner wsX3_winner := goodIn_ca (goodIn_r _ [6, 7, 8, 9, 5, 10, 11, 12, 13, 14, 15, 16, 17, 18, 19, 20, 21, 22, 23, 24, 25, 26, 27, 28] (by decide +kernel) (by decide +kernel)) (goodIn_sub (fun _ h => List.mem_cons_of_mem _ (List.mem_append_right _ h)) (by decide +kernel))
set_option maxRecDepth 20000 in
theorem gL_winner_X3_winner : GoodIn wsL_winner (wsV RL 68 RX3 yX3_winner wsX3_winner) := goodIn_app (goodIn_of _ (by decide +kernel)) ggL_winner_X3_winner
theorem dL_winner_0 : decode cL_winner 0 = .ok (.aload_n 3, 1) := by decide +kernel
theorem dL_winner_1 : decode cL_winner 1 = .ok (.iconst 0, 1) := by decide +kernel
theorem dL_winner_2 : decode cL_winner 2 = .ok (.aload_n 0, 1) := by decide +kernel
theorem dL_winner_3 : decode cL_winner 3 = .ok (.iload_n 1, 1) := by decide +kernel
theorem dL_winner_4 : decode cL_winner 4 = .ok (.iload_n 2, 1) := by decide +kernel
theorem dL_winner_5 : decode cL_winner 5 = .ok (.invokevirtual 68, 3) := by decide +kernel
theorem dL_winner_8 : decode cL_winner 8 = .ok (.i2l, 1) := by decide +kernel
theorem dL_winner_9 : decode cL_winner 9 = .ok (.lastore, 1) := by decide +kernel
theorem dL_winner_10 : decode cL_winner 10 = .ok (.goto 7, 3) := by decide +kernel
theorem dL_winner_13 : decode cL_winner 13 = .ok (.astore 4, 2) := by decide +kernel
theorem dL_winner_15 : decode cL_winner 15 = .ok (.iconst 1, 1) := by decide +kernel
theorem dL_winner_16 : decode cL_winner 16 = .ok (.ireturn, 1) := by decide +kernel
theorem dL_winner_17 : decode cL_winner 17 = .ok (.iconst 0, 1) := by decide +kernel
theorem dL_winner_18 : decode cL_winner 18 = .ok (.ireturn, 1) := by decide +kernel
set_option maxRecDepth 20000 in
theorem ggL_winnerOfAll_X3_winnerOfAll : GoodIn wsL_winnerOfAll wsX3_winnerOfAll := goodIn_ca (goodIn_r _ [6, 7, 8, 9, 10, 11, 12, 5, 13, 14, 15, 16, 17, 18, 19, 20, 21, 22, 23, 24, 25, 26, 27, 28, 29, 30, 31, 32, 33, 34, 35, 36, 37, 38, 39, 40, 41, 42, 43, 44, 45, 46, 47, 48, 49, 50, 51, 52, 53, 54, 55, 56, 57, 58, 59, 60, 61, 62, 63, 64, 65, 66, 67, 68, 69, 70, 71, 72, 73, 74, 75, 76, 77, 78, 79, 80, 81] (by decide +kernel) (by decide +kernel)) (goodIn_sub (fun _ h => List.mem_cons_of_mem _ (List.mem_append_right _ h)) (by decide +kernel))
set_option maxRecDepth 20000 in
theorem gL_winnerOfAll_X3_winnerOfAll : GoodIn wsL_winnerOfAll (wsV RL 71 RX3 yX3_winnerOfAll wsX3_winnerOfAll) := goodIn_app (goodIn_of _ (by decide +kernel)) ggL_winnerOfAll_X3_winnerOfAll
theorem dL_winnerOfAll_0 : decode cL_winnerOfAll 0 = .ok (.aload_n 2, 1) := by decide +kernel
theorem dL_winnerOfAll_1 : decode cL_winnerOfAll 1 = .ok (.iconst 0, 1) := by decide +kernel
theorem dL_winnerOfAll_2 : decode cL_winnerOfAll 2 = .ok (.aload_n 0, 1) := by decide +kernel
theorem dL_winnerOfAll_3 : decode cL_winnerOfAll 3 = .ok (.iload_n 1, 1) := by decide +kernel
theorem dL_winnerOfAll_4 : decode cL_winnerOfAll 4 = .ok (.invokevirtual 71, 3) := by decide +kernel
theorem dL_winnerOfAll_7 : decode cL_winnerOfAll 7 = .ok (.i2l, 1) := by decide +kernel
theorem dL_winnerOfAll_8 : decode cL_winnerOfAll 8 = .ok (.lastore, 1) := by decide +kernel
theorem dL_winnerOfAll_9 : decode cL_winnerOfAll 9 = .ok (.goto 6, 3) := by decide +kernel
theorem dL_winnerOfAll_12 : decode cL_winnerOfAll 12 = .ok (.astore_n 3, 1) := by decide +kernel
theorem dL_winnerOfAll_13 : decode cL_winnerOfAll 13 = .ok (.iconst 1, 1) := by decide +kernel
theorem dL_winnerOfAll_14 : decode cL_winnerOfAll 14 = .ok (.ireturn, 1) := by decide +kernel
theorem dL_winnerOfAll_15 : decode cL_winnerOfAll 15 = .ok (.iconst 0, 1) := by decide +kernel
theorem dL_winnerOfAll_16 : decode cL_winnerOfAll 16 = .ok (.ireturn, 1) := by decide +kernel
set_option maxRecDepth 20000 in
theorem ggL_conflicts_X3_conflicts : GoodIn wsL_conflicts wsX3_conflicts := goodIn_ca (goodIn_r _ [6, 7, 8, 9, 10, 11, 12, 13, 14, 5, 15, 16, 17, 18, 19, 20, 21, 22, 23, 24, 25, 26, 27, 28, 29, 30, 31, 32, 33, 34, 35, 36, 37, 38, 39, 40, 41, 42, 43, 44, 45, 46, 47, 48, 49, 50, 51, 52, 53, 54, 55] (by decide +kernel) (by decide +kernel)) (goodIn_sub (fun _ h => List.mem_cons_of_mem _ (List.mem_append_right _ h)) (by decide +kernel))
set_option maxRecDepth 20000 in
theorem gL_conflicts_X3_conflicts : GoodIn wsL_conflicts (wsV RL 74 RX3 yX3_conflicts wsX3_conflicts) := goodIn_app (goodIn_of _ (by decide +kernel)) ggL_conflicts_X3_conflicts
theorem dL_conflicts_0 : decode cL_conflicts 0 = .ok (.aload_n 3, 1) := by decide +kernel
theorem dL_conflicts_1 : decode cL_conflicts 1 = .ok (.iconst 0, 1) := by decide +kernel
theorem dL_conflicts_2 : decode cL_conflicts 2 = .ok (.aload_n 0, 1) := by decide +kernel
theorem dL_conflicts_3 : decode cL_conflicts 3 = .ok (.iload_n 1, 1) := by decide +kernel
theorem dL_conflicts_4 : decode cL_conflicts 4 = .ok (.iload_n 2, 1) := by decide +kernel
theorem dL_conflicts_5 : decode cL_conflicts 5 = .ok (.invokevirtual 74, 3) := by decide +kernel
theorem dL_conflicts_8 : decode cL_conflicts 8 = .ok (.i2l, 1) := by decide +kernel
theorem dL_conflicts_9 : decode cL_conflicts 9 = .ok (.lastore, 1) := by decide +kernel
theorem dL_conflicts_10 : decode cL_conflicts 10 = .ok (.goto 7, 3) := by decide +kernel
theorem dL_conflicts_13 : decode cL_conflicts 13 = .ok (.astore 4, 2) := by decide +kernel
theorem dL_conflicts_15 : decode cL_conflicts 15 = .ok (.iconst 1, 1) := by decide +kernel
theorem dL_conflicts_16 : decode cL_conflicts 16 = .ok (.ireturn, 1) := by decide +kernel
theorem dL_conflicts_17 : decode cL_conflicts 17 = .ok (.iconst 0, 1) := by decide +kernel
theorem dL_conflicts_18 : decode cL_conflicts 18 = .ok (.ireturn, 1) := by decide +kernel
set_option maxRecDepth 20000 in
theorem ggL_count_X3_count : GoodIn wsL_count wsX3_count := goodIn_ca (goodIn_r _ [6, 7, 8, 9, 10, 5, 11, 12, 13, 14, 15, 16, 17, 18, 19, 20, 21, 22, 23, 24, 25, 26, 27, 28, 29, 30, 31, 32, 33, 34, 35, 36, 37, 38] (by decide +kernel) (by decide +kernel)) (goodIn_sub (fun _ h => List.mem_cons_of_mem _ (List.mem_append_right _ h)) (by decide +kernel))
set_option maxRecDepth 20000 in
theorem gL_count_X3_count : GoodIn wsL_count (wsV RL 77 RX3 yX3_count wsX3_count) := goodIn_app (goodIn_of _ (by decide +kernel)) ggL_count_X3_count
theorem dL_count_0 : decode cL_count 0 = .ok (.aload 4, 2) := by decide +kernel
theorem dL_count_2 : decode cL_count 2 = .ok (.iconst 0, 1) := by decide +kernel
theorem dL_count_3 : decode cL_count 3 = .ok (.aload_n 0, 1) := by decide +kernel
theorem dL_count_4 : decode cL_count 4 = .ok (.iload_n 1, 1) := by decide +kernel
theorem dL_count_5 : decode cL_count 5 = .ok (.iload_n 2, 1) := by decide +kernel
theorem dL_count_6 : decode cL_count 6 = .ok (.iload_n 3, 1) := by decide +kernel
theorem dL_count_7 : decode cL_count 7 = .ok (.invokevirtual 77, 3) := by decide +kernel
theorem dL_count_10 : decode cL_count 10 = .ok (.i2l, 1) := by decide +kernel
theorem dL_count_11 : decode cL_count 11 = .ok (.lastore, 1) := by decide +kernel
theorem dL_count_12 : decode cL_count 12 = .ok (.goto 7, 3) := by decide +kernel
theorem dL_count_15 : decode cL_count 15 = .ok (.astore 5, 2) := by decide +kernel
theorem dL_count_17 : decode cL_count 17 = .ok (.iconst 1, 1) := by decide +kernel
theorem dL_count_18 : decode cL_count 18 = .ok (.ireturn, 1) := by decide +kernel
theorem dL_count_19 : decode cL_count 19 = .ok (.iconst 0, 1) := by decide +kernel
theorem dL_count_20 : decode cL_count 20 = .ok (.ireturn, 1) := by decide +kernel
set_option maxRecDepth 20000 in
theorem ggL_viewAt_X3_viewAt : GoodIn wsL_viewAt wsX3_viewAt := goodIn_ca (goodIn_r _ [6, 7, 8, 9, 10, 11, 12, 5, 13, 14, 15, 16, 17, 18, 19, 20, 21, 22, 23, 24, 25, 26, 27, 28, 29, 30, 31, 32, 33, 34, 35, 36, 37, 38, 39, 40, 41, 42, 43] (by decide +kernel) (by decide +kernel)) (goodIn_sub (fun _ h => List.mem_cons_of_mem _ (List.mem_append_right _ h)) (by decide +kernel))
set_option maxRecDepth 20000 in
theorem gL_viewAt_X3_viewAt : GoodIn wsL_viewAt (wsV RL 80 RX3 yX3_viewAt wsX3_viewAt) := goodIn_app (goodIn_of _ (by decide +kernel)) ggL_viewAt_X3_viewAt
theorem dL_viewAt_0 : decode cL_viewAt 0 = .ok (.aload_n 3, 1) := by decide +kernel
theorem dL_viewAt_1 : decode cL_viewAt 1 = .ok (.iconst 0, 1) := by decide +kernel
theorem dL_viewAt_2 : decode cL_viewAt 2 = .ok (.aload_n 0, 1) := by decide +kernel
theorem dL_viewAt_3 : decode cL_viewAt 3 = .ok (.iload_n 1, 1) := by decide +kernel
theorem dL_viewAt_4 : decode cL_viewAt 4 = .ok (.iload_n 2, 1) := by decide +kernel
theorem dL_viewAt_5 : decode cL_viewAt 5 = .ok (.invokevirtual 80, 3) := by decide +kernel
theorem dL_viewAt_8 : decode cL_viewAt 8 = .ok (.i2l, 1) := by decide +kernel
theorem dL_viewAt_9 : decode cL_viewAt 9 = .ok (.lastore, 1) := by decide +kernel
theorem dL_viewAt_10 : decode cL_viewAt 10 = .ok (.goto 7, 3) := by decide +kernel
theorem dL_viewAt_13 : decode cL_viewAt 13 = .ok (.astore 4, 2) := by decide +kernel
theorem dL_viewAt_15 : decode cL_viewAt 15 = .ok (.iconst 1, 1) := by decide +kernel
theorem dL_viewAt_16 : decode cL_viewAt 16 = .ok (.ireturn, 1) := by decide +kernel
theorem dL_viewAt_17 : decode cL_viewAt 17 = .ok (.iconst 0, 1) := by decide +kernel
theorem dL_viewAt_18 : decode cL_viewAt 18 = .ok (.ireturn, 1) := by decide +kernel
set_option maxRecDepth 20000 in
theorem ggL_law_X3_init : GoodIn wsL_law wsX3_init := goodIn_r _ [9, 10, 11, 12, 13, 14, 15, 16, 17, 18, 19, 20, 21, 22, 23, 24, 25, 26, 27, 28, 29, 30, 31, 32, 33, 34, 35, 36, 37, 38, 39, 40, 41, 42, 43, 44, 45, 46, 47, 48, 49, 50, 51, 52, 53, 54, 55, 56, 57, 574, 575, 576, 577, 578, 579, 580, 558, 559, 560, 581, 582, 583, 584, 585, 586, 587, 588] (by decide +kernel) (by decide +kernel)
set_option maxRecDepth 20000 in
theorem gL_law_X3_init : GoodIn wsL_law (wsX3_init) := ggL_law_X3_init
set_option maxRecDepth 20000 in
theorem ggL_law_X4_init : GoodIn wsL_law wsX4_init := goodIn_r _ [60, 61, 11, 12, 28, 62, 63, 64, 32, 65, 66, 67, 68, 69, 70, 71, 72, 561, 562, 563, 564, 565, 566, 567, 568, 569, 570, 571, 572, 573] (by decide +kernel) (by decide +kernel)
set_option maxRecDepth 20000 in
theorem gL_law_X4_init : GoodIn wsL_law (wsX4_init) := ggL_law_X4_init
set_option maxRecDepth 20000 in
theorem ggL_law_L_edit : GoodIn wsL_law wsL_edit := goodIn_ca (goodIn_ca (goodIn_ca (goodIn_r _ [76, 77, 78, 79, 80, 81, 82, 2, 83, 84, 85, 86, 87, 88, 89, 90, 91, 18, 92, 93, 94, 95, 96, 97, 98, 99, 16, 100, 101, 102, 103, 104, 105, 106, 107, 108, 109, 110, 111, 112, 21, 113, 41, 114, 115, 116, 117, 42, 118, 119, 120, 121, 122, 123, 124, 125, 126, 127, 128, 15, 129, 36, 29, 30, 31, 33, 130, 131, 132, 133, 34, 35, 134, 135, 136, 24, 137, 52, 138, 139, 140, 141, 54, 55, 53, 142, 143, 144, 145, 146, 147, 148, 149, 150, 151, 152, 153, 44, 45, 46, 47, 154, 155, 156, 157, 158, 43, 159, 160, 161, 162, 163, 164, 165, 166, 558, 559, 560, 574, 575, 576, 577, 578, 579, 580, 584, 585, 586, 587, 588, 581, 582, 583] (by decide +kernel) (by decide +kernel)) (goodIn_sub (fun _ h => List.mem_append_left _ (List.mem_append_left _ (List.mem_append_right _ h))) (by decide +kernel))) (goodIn_sub (fun _ h => List.mem_append_left _ (List.mem_append_right _ h)) (by decide +kernel))) (goodIn_sub (fun _ h => List.mem_append_right _ h) (by decide +kernel))
set_option maxRecDepth 20000 in
theorem gL_law_L_edit : GoodIn wsL_law (va_wsS RL 87 yL_edit wsL_edit) := goodIn_app (goodIn_of _ (by decide +kernel)) ggL_law_L_edit
set_option maxRecDepth 20000 in
theorem ggL_law_X4_edit : GoodIn wsL_law wsX4_edit := goodIn_r _ [170, 171, 172, 5, 173, 174, 175, 176, 177, 178, 179, 180, 181, 182, 183, 184, 185, 186, 187, 188, 62, 189, 190, 191, 192, 193, 194, 195, 196, 68, 197, 198, 199, 200, 201, 202, 203, 204, 63, 205, 206, 207, 208, 65, 66, 67, 209, 210, 211, 212, 213, 214, 215, 216, 217, 218, 219, 220, 221, 64, 222, 223, 224, 225, 70, 71, 226, 227, 228, 229, 230, 231, 232, 233, 69, 561, 562, 563, 564, 565, 566, 567, 568, 569, 570, 571, 572, 573] (by decide +kernel) (by decide +kernel)
set_option maxRecDepth 20000 in
theorem gL_law_X4_edit : GoodIn wsL_law (wsV RL 92 RX4 yX4_edit wsX4_edit) := goodIn_app (goodIn_of _ (by decide +kernel)) ggL_law_X4_edit
set_option maxRecDepth 20000 in
theorem ggL_law_X4_thrown : GoodIn wsL_law wsX4_thrown := goodIn_r _ [237, 213, 561, 562, 563, 564, 565, 566, 567, 568, 569, 570, 571, 572, 573] (by decide +kernel) (by decide +kernel)
set_option maxRecDepth 20000 in
theorem gL_law_X4_thrown : GoodIn wsL_law (wsV RL 93 RX4 yX4_thrown wsX4_thrown) := goodIn_app (goodIn_of _ (by decide +kernel)) ggL_law_X4_thrown
set_option maxRecDepth 20000 in
theorem ggL_law_L_delete : GoodIn wsL_law wsL_delete := goodIn_ca (goodIn_ca (goodIn_r _ [240, 77, 79, 241, 242, 243, 2, 244, 104, 105, 16, 86, 87, 88, 89, 90, 91, 18, 92, 93, 94, 95, 96, 97, 98, 99, 106, 107, 108, 109, 110, 111, 112, 21, 113, 41, 114, 115, 116, 117, 42, 118, 119, 120, 121, 122, 123, 124, 125, 126, 127, 128, 15, 129, 36, 29, 30, 31, 33, 130, 131, 132, 133, 34, 35, 134, 135, 136, 24, 137, 52, 138, 139, 140, 141, 54, 55, 53, 142, 143, 144, 145, 146, 147, 148, 149, 150, 151, 152, 153, 44, 45, 46, 47, 154, 155, 156, 157, 158, 43, 159, 160, 161, 162, 163, 164, 165, 166, 558, 559, 560, 574, 575, 576, 577, 578, 579, 580, 584, 585, 586, 587, 588, 581, 582, 583] (by decide +kernel) (by decide +kernel)) (goodIn_sub (fun _ h => List.mem_append_right _ h) (by decide +kernel))) (goodIn_sub (fun _ h => List.mem_append_left _ (List.mem_append_right _ h)) (by decide +kernel))
set_option maxRecDepth 20000 in
theorem gL_law_L_delete : GoodIn wsL_law (va_wsS RL 97 yL_delete wsL_delete) := goodIn_app (goodIn_of _ (by decide +kernel)) ggL_law_L_delete
set_option maxRecDepth 20000 in
theorem ggL_law_X4_delete : GoodIn wsL_law wsX4_delete := goodIn_r _ [248, 65, 171, 172, 5, 173, 174, 175, 176, 177, 178, 179, 180, 181, 182, 183, 184, 185, 186, 187, 188, 62, 189, 190, 191, 192, 193, 194, 195, 196, 68, 197, 198, 199, 200, 201, 202, 203, 204, 63, 205, 206, 207, 208, 66, 67, 209, 210, 211, 212, 213, 214, 215, 216, 217, 218, 219, 220, 221, 64, 222, 223, 224, 225, 70, 71, 226, 227, 228, 229, 230, 231, 232, 233, 69, 561, 562, 563, 564, 565, 566, 567, 568, 569, 570, 571, 572, 573] (by decide +kernel) (by decide +kernel)
set_option maxRecDepth 20000 in
theorem gL_law_X4_delete : GoodIn wsL_law (wsV RL 100 RX4 yX4_delete wsX4_delete) := goodIn_app (goodIn_of _ (by decide +kernel)) ggL_law_X4_delete
set_option maxRecDepth 20000 in
theorem ggL_law_L_setDepth : GoodIn wsL_law wsL_setDepth := goodIn_ca (goodIn_ca (goodIn_r _ [251, 77, 78, 252, 253, 254, 2, 255, 84, 85, 16, 86, 87, 88, 89, 90, 91, 18, 256, 164, 165, 21, 166, 41, 42, 114, 115, 116, 117, 584, 585, 586, 587, 588, 558, 559, 560, 574, 575, 576, 577, 578, 579, 580, 581, 582, 583] (by decide +kernel) (by decide +kernel)) (goodIn_sub (fun _ h => List.mem_append_left _ (List.mem_append_left _ (List.mem_append_right _ h))) (by decide +kernel))) (goodIn_sub (fun _ h => List.mem_append_left _ (List.mem_append_right _ h)) (by decide +kernel))
set_option maxRecDepth 20000 in
theorem gL_law_L_setDepth : GoodIn wsL_law (va_wsS RL 101 yL_setDepth wsL_setDepth) := goodIn_app (goodIn_of _ (by decide +kernel)) ggL_law_L_setDepth
set_option maxRecDepth 20000 in
theorem ggL_law_X4_setDepth : GoodIn wsL_law wsX4_setDepth := goodIn_r _ [260, 69, 171, 172, 5, 173, 174, 175, 176, 209, 210, 211, 212, 213, 226, 227, 228, 229, 184, 68, 230, 231, 232, 233, 66, 201, 202, 203, 204, 63, 193, 194, 195, 196, 197, 198, 199, 200, 561, 562, 563, 564, 565, 566, 567, 568, 569, 570, 571, 572, 573] (by decide +kernel) (by decide +kernel)
set_option maxRecDepth 20000 in
theorem gL_law_X4_setDepth : GoodIn wsL_law (wsV RL 104 RX4 yX4_setDepth wsX4_setDepth) := goodIn_app (goodIn_of _ (by decide +kernel)) ggL_law_X4_setDepth
set_option maxRecDepth 20000 in
theorem ggL_law_L_wipe : GoodIn wsL_law wsL_wipe := goodIn_ca (goodIn_r _ [263, 77, 264, 265, 266, 2, 267, 16, 86, 87, 88, 89, 90, 91, 18, 268, 269, 270, 21, 271, 41, 272, 273, 274, 24, 275, 52, 54, 55, 56, 276, 277, 278, 279, 142, 143, 144, 145, 146, 147, 148, 149, 42, 150, 151, 152, 153, 44, 45, 46, 47, 154, 111, 112, 113, 114, 115, 116, 117, 155, 156, 157, 158, 43, 159, 160, 161, 15, 162, 33, 34, 35, 280, 584, 585, 586, 587, 588, 558, 559, 560, 574, 575, 576, 577, 578, 579, 580, 581, 582, 583] (by decide +kernel) (by decide +kernel)) (goodIn_sub (fun _ h => List.mem_append_left _ (List.mem_append_right _ h)) (by decide +kernel))
set_option maxRecDepth 20000 in
theorem gL_law_L_wipe : GoodIn wsL_law (va_wsS RL 105 yL_wipe wsL_wipe) := goodIn_app (goodIn_of _ (by decide +kernel)) ggL_law_L_wipe
set_option maxRecDepth 20000 in
theorem ggL_law_X4_wipe : GoodIn wsL_law wsX4_wipe := goodIn_r _ [284, 68, 72, 71, 70, 171, 172, 5, 173, 174, 175, 176, 209, 210, 211, 212, 213, 561, 562, 563, 564, 565, 566, 567, 568, 569, 570, 571, 572, 573] (by decide +kernel) (by decide +kernel)
set_option maxRecDepth 20000 in
theorem gL_law_X4_wipe : GoodIn wsL_law (wsV RL 108 RX4 yX4_wipe wsX4_wipe) := goodIn_app (goodIn_of _ (by decide +kernel)) ggL_law_X4_wipe
set_option maxRecDepth 20000 in
theorem ggL_law_L_replicate : GoodIn wsL_law wsL_replicate := goodIn_ca (goodIn_ca (goodIn_r _ [287, 77, 78, 288, 289, 290, 2, 291, 84, 85, 16, 86, 87, 88, 89, 90, 91, 18, 292, 293, 294, 295, 296, 297, 298, 299, 300, 151, 152, 153, 301, 302, 303, 304, 305, 306, 24, 307, 55, 308, 309, 310, 311, 52, 312, 313, 314, 21, 315, 41, 154, 111, 112, 113, 114, 115, 116, 117, 42, 316, 317, 318, 319, 138, 139, 140, 141, 54, 53, 142, 143, 144, 145, 146, 147, 148, 149, 150, 44, 45, 46, 47, 155, 156, 157, 158, 43, 159, 160, 161, 15, 162, 33, 34, 35, 163, 164, 165, 166, 558, 559, 560, 584, 585, 586, 587, 588, 574, 575, 576, 577, 578, 579, 580, 581, 582, 583] (by decide +kernel) (by decide +kernel)) (goodIn_sub (fun _ h => List.mem_append_left _ (List.mem_append_left _ (List.mem_append_right _ h))) (by decide +kernel))) (goodIn_sub (fun _ h => List.mem_append_left _ (List.mem_append_right _ h)) (by decide +kernel))
set_option maxRecDepth 20000 in
theorem gL_law_L_replicate : GoodIn wsL_law (va_wsS RL 109 yL_replicate wsL_replicate) := goodIn_app (goodIn_of _ (by decide +kernel)) ggL_law_L_replicate
set_option maxRecDepth 20000 in
theorem ggL_law_X4_replicate : GoodIn wsL_law wsX4_replicate := goodIn_r _ [323, 71, 70, 72, 171, 172, 5, 173, 174, 175, 176, 209, 210, 211, 212, 213, 324, 325, 326, 327, 328, 329, 330, 331, 332, 333, 334, 335, 184, 62, 68, 63, 193, 194, 195, 196, 197, 198, 199, 200, 201, 202, 203, 204, 222, 223, 224, 225, 226, 227, 228, 229, 230, 231, 232, 233, 66, 69, 561, 562, 563, 564, 565, 566, 567, 568, 569, 570, 571, 572, 573] (by decide +kernel) (by decide +kernel)
set_option maxRecDepth 20000 in
theorem gL_law_X4_replicate : GoodIn wsL_law (wsV RL 111 RX4 yX4_replicate wsX4_replicate) := goodIn_app (goodIn_of _ (by decide +kernel)) ggL_law_X4_replicate
set_option maxRecDepth 20000 in
theorem ggL_law_L_pending : GoodIn wsL_law wsL_pending := goodIn_ca (goodIn_ca (goodIn_r _ [338, 77, 78, 339, 340, 341, 2, 342, 86, 87, 88, 89, 90, 91, 18, 292, 293, 294, 295, 84, 85, 296, 297, 298, 299, 300, 151, 152, 153, 301, 302, 303, 343, 344, 345, 24, 346, 55, 558, 559, 560, 584, 585, 586, 587, 588] (by decide +kernel) (by decide +kernel)) (goodIn_sub (fun _ h => List.mem_append_left _ (List.mem_append_right _ h)) (by decide +kernel))) (goodIn_sub (fun _ h => List.mem_append_left _ (List.mem_append_left _ (List.mem_append_right _ h))) (by decide +kernel))
set_option maxRecDepth 20000 in
theorem gL_law_L_pending : GoodIn wsL_law (va_wsS RL 112 yL_pending wsL_pending) := goodIn_app (goodIn_of _ (by decide +kernel)) ggL_law_L_pending
set_option maxRecDepth 20000 in
theorem ggL_law_X4_pending : GoodIn wsL_law wsX4_pending := goodIn_r _ [350, 71, 171, 172, 5, 173, 174, 175, 176, 209, 210, 211, 212, 213, 324, 325, 326, 327, 72, 561, 562, 563, 564, 565, 566, 567, 568, 569, 570, 571, 572, 573] (by decide +kernel) (by decide +kernel)
set_option maxRecDepth 20000 in
theorem gL_law_X4_pending : GoodIn wsL_law (wsV RL 114 RX4 yX4_pending wsX4_pending) := goodIn_app (goodIn_of _ (by decide +kernel)) ggL_law_X4_pending
set_option maxRecDepth 20000 in
theorem ggL_law_L_checkpoint : GoodIn wsL_law wsL_checkpoint := goodIn_ca (goodIn_ca (goodIn_r _ [353, 77, 78, 354, 355, 356, 2, 357, 86, 87, 88, 89, 90, 91, 18, 292, 293, 294, 295, 84, 85, 296, 297, 298, 299, 300, 151, 152, 153, 301, 302, 303, 558, 559, 560, 584, 585, 586, 587, 588] (by decide +kernel) (by decide +kernel)) (goodIn_sub (fun _ h => List.mem_append_left _ (List.mem_append_right _ h)) (by decide +kernel))) (goodIn_sub (fun _ h => List.mem_append_left _ (List.mem_append_left _ (List.mem_append_right _ h))) (by decide +kernel))
set_option maxRecDepth 20000 in
theorem gL_law_L_checkpoint : GoodIn wsL_law (va_wsS RL 115 yL_checkpoint wsL_checkpoint) := goodIn_app (goodIn_of _ (by decide +kernel)) ggL_law_L_checkpoint
set_option maxRecDepth 20000 in
theorem ggL_law_X4_checkpoint : GoodIn wsL_law wsX4_checkpoint := goodIn_r _ [361, 171, 172, 5, 173, 174, 175, 176, 209, 210, 211, 212, 213, 324, 325, 326, 327, 72, 561, 562, 563, 564, 565, 566, 567, 568, 569, 570, 571, 572, 573] (by decide +kernel) (by decide +kernel)
set_option maxRecDepth 20000 in
theorem gL_law_X4_checkpoint : GoodIn wsL_law (wsV RL 117 RX4 yX4_checkpoint wsX4_checkpoint) := goodIn_app (goodIn_of _ (by decide +kernel)) ggL_law_X4_checkpoint
set_option maxRecDepth 20000 in
theorem ggL_law_X3_revisions : GoodIn wsL_law wsX3_revisions := goodIn_r _ [365, 16, 558, 559, 560, 574, 575, 576, 577, 578, 579, 580] (by decide +kernel) (by decide +kernel)
set_option maxRecDepth 20000 in
theorem gL_law_X3_revisions : GoodIn wsL_law (wsV RL 118 RX3 yX3_revisions wsX3_revisions) := goodIn_app (goodIn_of _ (by decide +kernel)) ggL_law_X3_revisions
set_option maxRecDepth 20000 in
theorem ggL_law_X4_revisions : GoodIn wsL_law wsX4_revisions := goodIn_r _ [369, 213, 184, 561, 562, 563, 564, 565, 566, 567, 568, 569, 570, 571, 572, 573] (by decide +kernel) (by decide +kernel)
set_option maxRecDepth 20000 in
theorem gL_law_X4_revisions : GoodIn wsL_law (wsV RL 121 RX4 yX4_revisions wsX4_revisions) := goodIn_app (goodIn_of _ (by decide +kernel)) ggL_law_X4_revisions
set_option maxRecDepth 20000 in
theorem ggL_law_L_documentOf : GoodIn wsL_law wsL_documentOf := goodIn_ca (goodIn_r _ [372, 77, 373, 374, 375, 2, 376, 16, 96, 97, 98, 99, 90, 91, 558, 559, 560, 574, 575, 576, 577, 578, 579, 580] (by decide +kernel) (by decide +kernel)) (goodIn_sub (fun _ h => List.mem_append_left _ (List.mem_append_right _ h)) (by decide +kernel))
set_option maxRecDepth 20000 in
theorem gL_law_L_documentOf : GoodIn wsL_law (va_wsS RL 122 yL_documentOf wsL_documentOf) := goodIn_app (goodIn_of _ (by decide +kernel)) ggL_law_L_documentOf
set_option maxRecDepth 20000 in
theorem ggL_law_X4_documentOf : GoodIn wsL_law wsX4_documentOf := goodIn_r _ [380, 62, 180, 181, 182, 5, 183, 184, 174, 175, 176, 209, 210, 211, 212, 213, 561, 562, 563, 564, 565, 566, 567, 568, 569, 570, 571, 572, 573] (by decide +kernel) (by decide +kernel)
set_option maxRecDepth 20000 in
theorem gL_law_X4_documentOf : GoodIn wsL_law (wsV RL 124 RX4 yX4_documentOf wsX4_documentOf) := goodIn_app (goodIn_of _ (by decide +kernel)) ggL_law_X4_documentOf
set_option maxRecDepth 20000 in
theorem ggL_law_L_parentOf : GoodIn wsL_law wsL_parentOf := goodIn_ca (goodIn_r _ [383, 77, 384, 385, 386, 2, 387, 16, 96, 97, 98, 99, 90, 91, 558, 559, 560, 574, 575, 576, 577, 578, 579, 580] (by decide +kernel) (by decide +kernel)) (goodIn_sub (fun _ h => List.mem_append_left _ (List.mem_append_right _ h)) (by decide +kernel))
set_option maxRecDepth 20000 in
theorem gL_law_L_parentOf : GoodIn wsL_law (va_wsS RL 125 yL_parentOf wsL_parentOf) := goodIn_app (goodIn_of _ (by decide +kernel)) ggL_law_L_parentOf
set_option maxRecDepth 20000 in
theorem ggL_law_X4_parentOf : GoodIn wsL_law wsX4_parentOf := goodIn_r _ [391, 63, 180, 181, 182, 5, 183, 184, 174, 175, 176, 209, 210, 211, 212, 213, 561, 562, 563, 564, 565, 566, 567, 568, 569, 570, 571, 572, 573] (by decide +kernel) (by decide +kernel)
set_option maxRecDepth 20000 in
theorem gL_law_X4_parentOf : GoodIn wsL_law (wsV RL 127 RX4 yX4_parentOf wsX4_parentOf) := goodIn_app (goodIn_of _ (by decide +kernel)) ggL_law_X4_parentOf
set_option maxRecDepth 20000 in
theorem ggL_law_L_generation : GoodIn wsL_law wsL_generation := goodIn_ca (goodIn_r _ [394, 77, 395, 396, 397, 2, 398, 16, 96, 97, 98, 99, 90, 91, 558, 559, 560, 574, 575, 576, 577, 578, 579, 580] (by decide +kernel) (by decide +kernel)) (goodIn_sub (fun _ h => List.mem_append_left _ (List.mem_append_right _ h)) (by decide +kernel))
set_option maxRecDepth 20000 in
theorem gL_law_L_generation : GoodIn wsL_law (va_wsS RL 128 yL_generation wsL_generation) := goodIn_app (goodIn_of _ (by decide +kernel)) ggL_law_L_generation
set_option maxRecDepth 20000 in
theorem ggL_law_X4_generation : GoodIn wsL_law wsX4_generation := goodIn_r _ [402, 66, 180, 181, 182, 5, 183, 184, 174, 175, 176, 209, 210, 211, 212, 213, 561, 562, 563, 564, 565, 566, 567, 568, 569, 570, 571, 572, 573] (by decide +kernel) (by decide +kernel)
set_option maxRecDepth 20000 in
theorem gL_law_X4_generation : GoodIn wsL_law (wsV RL 130 RX4 yX4_generation wsX4_generation) := goodIn_app (goodIn_of _ (by decide +kernel)) ggL_law_X4_generation
set_option maxRecDepth 20000 in
theorem ggL_law_L_sum : GoodIn wsL_law wsL_sum := goodIn_ca (goodIn_r _ [405, 77, 406, 407, 408, 2, 409, 16, 96, 97, 98, 99, 90, 91, 558, 559, 560, 574, 575, 576, 577, 578, 579, 580] (by decide +kernel) (by decide +kernel)) (goodIn_sub (fun _ h => List.mem_append_left _ (List.mem_append_right _ h)) (by decide +kernel))
set_option maxRecDepth 20000 in
theorem gL_law_L_sum : GoodIn wsL_law (va_wsS RL 131 yL_sum wsL_sum) := goodIn_app (goodIn_of _ (by decide +kernel)) ggL_law_L_sum
set_option maxRecDepth 20000 in
theorem ggL_law_X4_sum : GoodIn wsL_law wsX4_sum := goodIn_r _ [413, 67, 180, 181, 182, 5, 183, 184, 174, 175, 176, 209, 210, 211, 212, 213, 561, 562, 563, 564, 565, 566, 567, 568, 569, 570, 571, 572, 573] (by decide +kernel) (by decide +kernel)
set_option maxRecDepth 20000 in
theorem gL_law_X4_sum : GoodIn wsL_law (wsV RL 133 RX4 yX4_sum wsX4_sum) := goodIn_app (goodIn_of _ (by decide +kernel)) ggL_law_X4_sum
set_option maxRecDepth 20000 in
theorem ggL_law_L_valueOf : GoodIn wsL_law wsL_valueOf := goodIn_ca (goodIn_r _ [416, 77, 417, 418, 419, 2, 420, 16, 96, 97, 98, 99, 90, 91, 558, 559, 560, 574, 575, 576, 577, 578, 579, 580] (by decide +kernel) (by decide +kernel)) (goodIn_sub (fun _ h => List.mem_append_left _ (List.mem_append_right _ h)) (by decide +kernel))
set_option maxRecDepth 20000 in
theorem gL_law_L_valueOf : GoodIn wsL_law (va_wsS RL 134 yL_valueOf wsL_valueOf) := goodIn_app (goodIn_of _ (by decide +kernel)) ggL_law_L_valueOf
set_option maxRecDepth 20000 in
theorem ggL_law_X4_valueOf : GoodIn wsL_law wsX4_valueOf := goodIn_r _ [424, 65, 64, 180, 181, 182, 5, 183, 184, 174, 175, 176, 209, 210, 211, 212, 213, 561, 562, 563, 564, 565, 566, 567, 568, 569, 570, 571, 572, 573] (by decide +kernel) (by decide +kernel)
set_option maxRecDepth 20000 in
theorem gL_law_X4_valueOf : GoodIn wsL_law (wsV RL 136 RX4 yX4_valueOf wsX4_valueOf) := goodIn_app (goodIn_of _ (by decide +kernel)) ggL_law_X4_valueOf
set_option maxRecDepth 20000 in
theorem ggL_law_L_sequence : GoodIn wsL_law wsL_sequence := goodIn_ca (goodIn_r _ [427, 77, 428, 429, 430, 2, 431, 86, 87, 88, 89, 90, 91, 18, 584, 585, 586, 587, 588, 558, 559, 560] (by decide +kernel) (by decide +kernel)) (goodIn_sub (fun _ h => List.mem_append_left _ (List.mem_append_right _ h)) (by decide +kernel))
set_option maxRecDepth 20000 in
theorem gL_law_L_sequence : GoodIn wsL_law (va_wsS RL 137 yL_sequence wsL_sequence) := goodIn_app (goodIn_of _ (by decide +kernel)) ggL_law_L_sequence
set_option maxRecDepth 20000 in
theorem ggL_law_X4_sequence : GoodIn wsL_law wsX4_sequence := goodIn_r _ [435, 70, 171, 172, 5, 173, 174, 175, 176, 209, 210, 211, 212, 213, 561, 562, 563, 564, 565, 566, 567, 568, 569, 570, 571, 572, 573] (by decide +kernel) (by decide +kernel)
set_option maxRecDepth 20000 in
theorem gL_law_X4_sequence : GoodIn wsL_law (wsV RL 139 RX4 yX4_sequence wsX4_sequence) := goodIn_app (goodIn_of _ (by decide +kernel)) ggL_law_X4_sequence
set_option maxRecDepth 20000 in
theorem ggL_law_L_has : GoodIn wsL_law wsL_has := goodIn_ca (goodIn_r _ [438, 77, 439, 440, 441, 2, 442, 86, 87, 88, 89, 90, 91, 18, 96, 97, 98, 99, 16, 584, 585, 586, 587, 588, 581, 582, 583, 558, 559, 560, 574, 575, 576, 577, 578, 579, 580] (by decide +kernel) (by decide +kernel)) (goodIn_sub (fun _ h => List.mem_append_left _ (List.mem_append_right _ h)) (by decide +kernel))
set_option maxRecDepth 20000 in
theorem gL_law_L_has : GoodIn wsL_law (va_wsS RL 140 yL_has wsL_has) := goodIn_app (goodIn_of _ (by decide +kernel)) ggL_law_L_has
set_option maxRecDepth 20000 in
theorem ggL_law_X4_has : GoodIn wsL_law wsX4_has := goodIn_r _ [446, 68, 171, 172, 5, 173, 174, 175, 176, 180, 181, 182, 183, 184, 209, 210, 211, 212, 213, 561, 562, 563, 564, 565, 566, 567, 568, 569, 570, 571, 572, 573] (by decide +kernel) (by decide +kernel)
set_option maxRecDepth 20000 in
theorem gL_law_X4_has : GoodIn wsL_law (wsV RL 142 RX4 yX4_has wsX4_has) := goodIn_app (goodIn_of _ (by decide +kernel)) ggL_law_X4_has
set_option maxRecDepth 20000 in
theorem ggL_law_L_isLeaf : GoodIn wsL_law wsL_isLeaf := goodIn_ca (goodIn_r _ [449, 77, 450, 451, 452, 2, 453, 86, 87, 88, 89, 90, 91, 18, 96, 97, 98, 99, 16, 110, 111, 112, 21, 113, 41, 114, 115, 116, 117, 42, 584, 585, 586, 587, 588, 558, 559, 560, 574, 575, 576, 577, 578, 579, 580, 581, 582, 583] (by decide +kernel) (by decide +kernel)) (goodIn_sub (fun _ h => List.mem_append_left _ (List.mem_append_right _ h)) (by decide +kernel))
set_option maxRecDepth 20000 in
theorem gL_law_L_isLeaf : GoodIn wsL_law (va_wsS RL 143 yL_isLeaf wsL_isLeaf) := goodIn_app (goodIn_of _ (by decide +kernel)) ggL_law_L_isLeaf
set_option maxRecDepth 20000 in
theorem ggL_law_X4_isLeaf : GoodIn wsL_law wsX4_isLeaf := goodIn_r _ [457, 171, 172, 5, 173, 174, 175, 176, 180, 181, 182, 183, 184, 209, 210, 211, 212, 213, 193, 194, 195, 196, 68, 197, 198, 199, 200, 201, 202, 203, 204, 63, 561, 562, 563, 564, 565, 566, 567, 568, 569, 570, 571, 572, 573] (by decide +kernel) (by decide +kernel)
set_option maxRecDepth 20000 in
theorem gL_law_X4_isLeaf : GoodIn wsL_law (wsV RL 145 RX4 yX4_isLeaf wsX4_isLeaf) := goodIn_app (goodIn_of _ (by decide +kernel)) ggL_law_X4_isLeaf
set_option maxRecDepth 20000 in
theorem ggL_law_L_size : GoodIn wsL_law wsL_size := goodIn_ca (goodIn_r _ [460, 77, 461, 462, 463, 2, 464, 16, 86, 87, 88, 89, 90, 91, 18, 268, 269, 270, 21, 271, 41, 584, 585, 586, 587, 588, 558, 559, 560, 574, 575, 576, 577, 578, 579, 580, 581, 582, 583] (by decide +kernel) (by decide +kernel)) (goodIn_sub (fun _ h => List.mem_append_left _ (List.mem_append_right _ h)) (by decide +kernel))
set_option maxRecDepth 20000 in
theorem gL_law_L_size : GoodIn wsL_law (va_wsS RL 146 yL_size wsL_size) := goodIn_app (goodIn_of _ (by decide +kernel)) ggL_law_L_size
set_option maxRecDepth 20000 in
theorem ggL_law_X4_size : GoodIn wsL_law wsX4_size := goodIn_r _ [468, 184, 68, 171, 172, 5, 173, 174, 175, 176, 209, 210, 211, 212, 213, 561, 562, 563, 564, 565, 566, 567, 568, 569, 570, 571, 572, 573] (by decide +kernel) (by decide +kernel)
set_option maxRecDepth 20000 in
theorem gL_law_X4_size : GoodIn wsL_law (wsV RL 148 RX4 yX4_size wsX4_size) := goodIn_app (goodIn_of _ (by decide +kernel)) ggL_law_X4_size
set_option maxRecDepth 20000 in
theorem ggL_law_L_winner : GoodIn wsL_law wsL_winner := goodIn_ca (goodIn_r _ [471, 77, 472, 473, 474, 2, 475, 86, 87, 88, 89, 90, 91, 18, 92, 93, 94, 95, 584, 585, 586, 587, 588, 581, 582, 583, 558, 559, 560] (by decide +kernel) (by decide +kernel)) (goodIn_sub (fun _ h => List.mem_append_left _ (List.mem_append_right _ h)) (by decide +kernel))
set_option maxRecDepth 20000 in
theorem gL_law_L_winner : GoodIn wsL_law (va_wsS RL 149 yL_winner wsL_winner) := goodIn_app (goodIn_of _ (by decide +kernel)) ggL_law_L_winner
set_option maxRecDepth 20000 in
theorem ggL_law_X4_winner : GoodIn wsL_law wsX4_winner := goodIn_r _ [479, 171, 172, 5, 173, 174, 175, 176, 177, 178, 179, 209, 210, 211, 212, 213, 189, 190, 191, 192, 184, 62, 193, 194, 195, 196, 68, 197, 198, 199, 200, 201, 202, 203, 204, 63, 205, 206, 207, 208, 65, 66, 67, 561, 562, 563, 564, 565, 566, 567, 568, 569, 570, 571, 572, 573] (by decide +kernel) (by decide +kernel)
set_option maxRecDepth 20000 in
theorem gL_law_X4_winner : GoodIn wsL_law (wsV RL 151 RX4 yX4_winner wsX4_winner) := goodIn_app (goodIn_of _ (by decide +kernel)) ggL_law_X4_winner
set_option maxRecDepth 20000 in
theorem ggL_law_L_winnerOfAll : GoodIn wsL_law wsL_winnerOfAll := goodIn_ca (goodIn_r _ [482, 77, 483, 484, 485, 2, 486, 22, 16, 18, 92, 93, 94, 95, 90, 91, 487, 277, 278, 21, 279, 41, 488, 489, 490, 491, 492, 143, 144, 145, 146, 147, 148, 149, 42, 150, 151, 152, 153, 44, 45, 46, 47, 154, 111, 112, 113, 114, 115, 116, 117, 155, 156, 157, 158, 43, 159, 160, 161, 15, 162, 33, 34, 35, 558, 559, 560, 584, 585, 586, 587, 588, 581, 582, 583, 574, 575, 576, 577, 578, 579, 580] (by decide +kernel) (by decide +kernel)) (goodIn_sub (fun _ h => List.mem_append_left _ (List.mem_append_right _ h)) (by decide +kernel))
set_option maxRecDepth 20000 in
theorem gL_law_L_winnerOfAll : GoodIn wsL_law (va_wsS RL 152 yL_winnerOfAll wsL_winnerOfAll) := goodIn_app (goodIn_of _ (by decide +kernel)) ggL_law_L_winnerOfAll
set_option maxRecDepth 20000 in
theorem ggL_law_X4_winnerOfAll : GoodIn wsL_law wsX4_winnerOfAll := goodIn_r _ [496, 184, 62, 177, 178, 5, 179, 174, 175, 176, 209, 210, 211, 212, 213, 197, 198, 199, 200, 68, 201, 202, 203, 204, 63, 497, 498, 499, 500, 205, 206, 207, 208, 65, 66, 67, 561, 562, 563, 564, 565, 566, 567, 568, 569, 570, 571, 572, 573] (by decide +kernel) (by decide +kernel)
set_option maxRecDepth 20000 in
theorem gL_law_X4_winnerOfAll : GoodIn wsL_law (wsV RL 154 RX4 yX4_winnerOfAll wsX4_winnerOfAll) := goodIn_app (goodIn_of _ (by decide +kernel)) ggL_law_X4_winnerOfAll
set_option maxRecDepth 20000 in
theorem ggL_law_L_conflicts : GoodIn wsL_law wsL_conflicts := goodIn_ca (goodIn_r _ [503, 77, 504, 505, 506, 2, 507, 16, 508, 509, 152, 510, 86, 87, 88, 89, 90, 91, 18, 92, 93, 94, 95, 511, 512, 513, 21, 514, 154, 111, 112, 113, 41, 114, 115, 116, 117, 42, 584, 585, 586, 587, 588, 558, 559, 560, 574, 575, 576, 577, 578, 579, 580, 581, 582, 583] (by decide +kernel) (by decide +kernel)) (goodIn_sub (fun _ h => List.mem_append_left _ (List.mem_append_right _ h)) (by decide +kernel))
set_option maxRecDepth 20000 in
theorem gL_law_L_conflicts : GoodIn wsL_law (va_wsS RL 155 yL_conflicts wsL_conflicts) := goodIn_app (goodIn_of _ (by decide +kernel)) ggL_law_L_conflicts
set_option maxRecDepth 20000 in
theorem ggL_law_X4_conflicts : GoodIn wsL_law wsX4_conflicts := goodIn_r _ [518, 184, 62, 65, 171, 172, 5, 173, 174, 175, 176, 177, 178, 179, 209, 210, 211, 212, 213, 193, 194, 195, 196, 68, 197, 198, 199, 200, 201, 202, 203, 204, 63, 561, 562, 563, 564, 565, 566, 567, 568, 569, 570, 571, 572, 573] (by decide +kernel) (by decide +kernel)
set_option maxRecDepth 20000 in
theorem gL_law_X4_conflicts : GoodIn wsL_law (wsV RL 157 RX4 yX4_conflicts wsX4_conflicts) := goodIn_app (goodIn_of _ (by decide +kernel)) ggL_law_X4_conflicts
set_option maxRecDepth 20000 in
theorem ggL_law_L_count : GoodIn wsL_law wsL_count := goodIn_ca (goodIn_r _ [521, 77, 522, 523, 524, 2, 525, 16, 86, 87, 88, 89, 90, 91, 18, 526, 527, 528, 21, 529, 43, 584, 585, 586, 587, 588, 558, 559, 560, 581, 582, 583, 574, 575, 576, 577, 578, 579, 580] (by decide +kernel) (by decide +kernel)) (goodIn_sub (fun _ h => List.mem_append_left _ (List.mem_append_right _ h)) (by decide +kernel))
set_option maxRecDepth 20000 in
theorem gL_law_L_count : GoodIn wsL_law (va_wsS RL 158 yL_count wsL_count) := goodIn_app (goodIn_of _ (by decide +kernel)) ggL_law_L_count
set_option maxRecDepth 20000 in
theorem ggL_law_X4_count : GoodIn wsL_law wsX4_count := goodIn_r _ [533, 171, 172, 5, 173, 174, 175, 176, 209, 210, 211, 212, 213, 534, 535, 536, 537, 65, 64, 189, 190, 191, 192, 184, 62, 193, 194, 195, 196, 68, 197, 198, 199, 200, 201, 202, 203, 204, 63, 205, 206, 207, 208, 66, 67, 561, 562, 563, 564, 565, 566, 567, 568, 569, 570, 571, 572, 573] (by decide +kernel) (by decide +kernel)
set_option maxRecDepth 20000 in
theorem gL_law_X4_count : GoodIn wsL_law (wsV RL 160 RX4 yX4_count wsX4_count) := goodIn_app (goodIn_of _ (by decide +kernel)) ggL_law_X4_count
set_option maxRecDepth 20000 in
theorem ggL_law_L_viewAt : GoodIn wsL_law wsL_viewAt := goodIn_ca (goodIn_r _ [540, 77, 541, 542, 543, 2, 544, 90, 91, 16, 86, 87, 88, 89, 18, 526, 527, 528, 21, 529, 43, 545, 546, 547, 548, 549, 584, 585, 586, 587, 588, 558, 559, 560, 581, 582, 583, 574, 575, 576, 577, 578, 579, 580] (by decide +kernel) (by decide +kernel)) (goodIn_sub (fun _ h => List.mem_append_left _ (List.mem_append_right _ h)) (by decide +kernel))
set_option maxRecDepth 20000 in
theorem gL_law_L_viewAt : GoodIn wsL_law (va_wsS RL 161 yL_viewAt wsL_viewAt) := goodIn_app (goodIn_of _ (by decide +kernel)) ggL_law_L_viewAt
set_option maxRecDepth 20000 in
theorem ggL_law_X4_viewAt : GoodIn wsL_law wsX4_viewAt := goodIn_r _ [553, 171, 172, 5, 173, 174, 175, 176, 554, 555, 556, 557, 534, 535, 536, 537, 65, 64, 189, 190, 191, 192, 184, 62, 193, 194, 195, 196, 68, 197, 198, 199, 200, 201, 202, 203, 204, 63, 205, 206, 207, 208, 66, 67, 209, 210, 211, 212, 213, 561, 562, 563, 564, 565, 566, 567, 568, 569, 570, 571, 572, 573] (by decide +kernel) (by decide +kernel)
set_option maxRecDepth 20000 in
theorem gL_law_X4_viewAt : GoodIn wsL_law (wsV RL 163 RX4 yX4_viewAt wsX4_viewAt) := goodIn_app (goodIn_of _ (by decide +kernel)) ggL_law_X4_viewAt
theorem dL_law_0 : decode cL_law 0 = .ok (.new 8, 3) := by decide +kernel
theorem dL_law_3 : decode cL_law 3 = .ok (.dup, 1) := by decide +kernel
theorem dL_law_4 : decode cL_law 4 = .ok (.invokespecial 83, 3) := by decide +kernel
theorem dL_law_7 : decode cL_law 7 = .ok (.astore_n 1, 1) := by decide +kernel
theorem dL_law_8 : decode cL_law 8 = .ok (.new 84, 3) := by decide +kernel
theorem dL_law_11 : decode cL_law 11 = .ok (.dup, 1) := by decide +kernel
theorem dL_law_12 : decode cL_law 12 = .ok (.invokespecial 86, 3) := by decide +kernel
theorem dL_law_15 : decode cL_law 15 = .ok (.astore_n 2, 1) := by decide +kernel
theorem dL_law_16 : decode cL_law 16 = .ok (.iconst 1, 1) := by decide +kernel
theorem dL_law_17 : decode cL_law 17 = .ok (.newarray .long, 2) := by decide +kernel
theorem dL_law_19 : decode cL_law 19 = .ok (.astore_n 3, 1) := by decide +kernel
theorem dL_law_20 : decode cL_law 20 = .ok (.iconst 0, 1) := by decide +kernel
theorem dL_law_21 : decode cL_law 21 = .ok (.istore 4, 2) := by decide +kernel
theorem dL_law_23 : decode cL_law 23 = .ok (.iload 4, 2) := by decide +kernel
theorem dL_law_25 : decode cL_law 25 = .ok (.aload_n 0, 1) := by decide +kernel
theorem dL_law_26 : decode cL_law 26 = .ok (.arraylength, 1) := by decide +kernel
theorem dL_law_27 : decode cL_law 27 = .ok (.iconst 5, 1) := by decide +kernel
theorem dL_law_28 : decode cL_law 28 = .ok (.isub, 1) := by decide +kernel
theorem dL_law_29 : decode cL_law 29 = .ok (.if_icmp .gt 1524, 3) := by decide +kernel
theorem dL_law_32 : decode cL_law 32 = .ok (.aload_n 0, 1) := by decide +kernel
theorem dL_law_33 : decode cL_law 33 = .ok (.iload 4, 2) := by decide +kernel
theorem dL_law_35 : decode cL_law 35 = .ok (.iaload, 1) := by decide +kernel
theorem dL_law_36 : decode cL_law 36 = .ok (.bipush 31, 2) := by decide +kernel
theorem dL_law_38 : decode cL_law 38 = .ok (.iand, 1) := by decide +kernel
theorem dL_law_39 : decode cL_law 39 = .ok (.tableswitch 1508 0 21 #[101, 193, 273, 341, 397, 477, 545, 613, 626, 682, 738, 794, 850, 906, 962, 1037, 1112, 1168, 1236, 1292, 1360, 1440], 101) := by decide +kernel
theorem dL_law_140 : decode cL_law 140 = .ok (.aload_n 1, 1) := by decide +kernel
theorem dL_law_141 : decode cL_law 141 = .ok (.aload_n 0, 1) := by decide +kernel
theorem dL_law_142 : decode cL_law 142 = .ok (.iload 4, 2) := by decide +kernel
theorem dL_law_144 : decode cL_law 144 = .ok (.iconst 1, 1) := by decide +kernel
theorem dL_law_145 : decode cL_law 145 = .ok (.iadd, 1) := by decide +kernel
theorem dL_law_146 : decode cL_law 146 = .ok (.iaload, 1) := by decide +kernel
theorem dL_law_147 : decode cL_law 147 = .ok (.aload_n 0, 1) := by decide +kernel
theorem dL_law_148 : decode cL_law 148 = .ok (.iload 4, 2) := by decide +kernel
theorem dL_law_150 : decode cL_law 150 = .ok (.iconst 2, 1) := by decide +kernel
theorem dL_law_151 : decode cL_law 151 = .ok (.iadd, 1) := by decide +kernel
theorem dL_law_152 : decode cL_law 152 = .ok (.iaload, 1) := by decide +kernel
theorem dL_law_153 : decode cL_law 153 = .ok (.aload_n 0, 1) := by decide +kernel
theorem dL_law_154 : decode cL_law 154 = .ok (.iload 4, 2) := by decide +kernel
theorem dL_law_156 : decode cL_law 156 = .ok (.iconst 3, 1) := by decide +kernel
theorem dL_law_157 : decode cL_law 157 = .ok (.iadd, 1) := by decide +kernel
theorem dL_law_158 : decode cL_law 158 = .ok (.iaload, 1) := by decide +kernel
theorem dL_law_159 : decode cL_law 159 = .ok (.aload_n 0, 1) := by decide +kernel
theorem dL_law_160 : decode cL_law 160 = .ok (.iload 4, 2) := by decide +kernel
theorem dL_law_162 : decode cL_law 162 = .ok (.iconst 4, 1) := by decide +kernel
theorem dL_law_163 : decode cL_law 163 = .ok (.iadd, 1) := by decide +kernel
theorem dL_law_164 : decode cL_law 164 = .ok (.iaload, 1) := by decide +kernel
theorem dL_law_165 : decode cL_law 165 = .ok (.aload_n 3, 1) := by decide +kernel
theorem dL_law_166 : decode cL_law 166 = .ok (.invokestatic 87, 3) := by decide +kernel
theorem dL_law_169 : decode cL_law 169 = .ok (.istore 5, 2) := by decide +kernel
theorem dL_law_171 : decode cL_law 171 = .ok (.aload_n 2, 1) := by decide +kernel
theorem dL_law_172 : decode cL_law 172 = .ok (.aload_n 0, 1) := by decide +kernel
theorem dL_law_173 : decode cL_law 173 = .ok (.iload 4, 2) := by decide +kernel
theorem dL_law_175 : decode cL_law 175 = .ok (.iconst 1, 1) := by decide +kernel
theorem dL_law_176 : decode cL_law 176 = .ok (.iadd, 1) := by decide +kernel
theorem dL_law_177 : decode cL_law 177 = .ok (.iaload, 1) := by decide +kernel
theorem dL_law_178 : decode cL_law 178 = .ok (.aload_n 0, 1) := by decide +kernel
theorem dL_law_179 : decode cL_law 179 = .ok (.iload 4, 2) := by decide +kernel
theorem dL_law_181 : decode cL_law 181 = .ok (.iconst 2, 1) := by decide +kernel
theorem dL_law_182 : decode cL_law 182 = .ok (.iadd, 1) := by decide +kernel
theorem dL_law_183 : decode cL_law 183 = .ok (.iaload, 1) := by decide +kernel
theorem dL_law_184 : decode cL_law 184 = .ok (.aload_n 0, 1) := by decide +kernel
theorem dL_law_185 : decode cL_law 185 = .ok (.iload 4, 2) := by decide +kernel
theorem dL_law_187 : decode cL_law 187 = .ok (.iconst 3, 1) := by decide +kernel
theorem dL_law_188 : decode cL_law 188 = .ok (.iadd, 1) := by decide +kernel
theorem dL_law_189 : decode cL_law 189 = .ok (.iaload, 1) := by decide +kernel
theorem dL_law_190 : decode cL_law 190 = .ok (.aload_n 0, 1) := by decide +kernel
theorem dL_law_191 : decode cL_law 191 = .ok (.iload 4, 2) := by decide +kernel
theorem dL_law_193 : decode cL_law 193 = .ok (.iconst 4, 1) := by decide +kernel
theorem dL_law_194 : decode cL_law 194 = .ok (.iadd, 1) := by decide +kernel
theorem dL_law_195 : decode cL_law 195 = .ok (.iaload, 1) := by decide +kernel
theorem dL_law_196 : decode cL_law 196 = .ok (.invokevirtual 92, 3) := by decide +kernel
theorem dL_law_199 : decode cL_law 199 = .ok (.istore 6, 2) := by decide +kernel
theorem dL_law_201 : decode cL_law 201 = .ok (.aload_n 2, 1) := by decide +kernel
theorem dL_law_202 : decode cL_law 202 = .ok (.invokevirtual 93, 3) := by decide +kernel
theorem dL_law_205 : decode cL_law 205 = .ok (.iload 5, 2) := by decide +kernel
theorem dL_law_207 : decode cL_law 207 = .ok (.if_icmp .eq 5, 3) := by decide +kernel
theorem dL_law_210 : decode cL_law 210 = .ok (.iconst 0, 1) := by decide +kernel
theorem dL_law_211 : decode cL_law 211 = .ok (.ireturn, 1) := by decide +kernel
theorem dL_law_212 : decode cL_law 212 = .ok (.iload 5, 2) := by decide +kernel
theorem dL_law_214 : decode cL_law 214 = .ok (.ifCond .ne 15, 3) := by decide +kernel
theorem dL_law_217 : decode cL_law 217 = .ok (.aload_n 3, 1) := by decide +kernel
theorem dL_law_218 : decode cL_law 218 = .ok (.iconst 0, 1) := by decide +kernel
theorem dL_law_219 : decode cL_law 219 = .ok (.laload, 1) := by decide +kernel
theorem dL_law_220 : decode cL_law 220 = .ok (.iload 6, 2) := by decide +kernel
theorem dL_law_222 : decode cL_law 222 = .ok (.i2l, 1) := by decide +kernel
theorem dL_law_223 : decode cL_law 223 = .ok (.lcmp, 1) := by decide +kernel
theorem dL_law_224 : decode cL_law 224 = .ok (.ifCond .eq 5, 3) := by decide +kernel
theorem dL_law_227 : decode cL_law 227 = .ok (.iconst 0, 1) := by decide +kernel
theorem dL_law_228 : decode cL_law 228 = .ok (.ireturn, 1) := by decide +kernel
theorem dL_law_229 : decode cL_law 229 = .ok (.goto 1318, 3) := by decide +kernel
theorem dL_law_232 : decode cL_law 232 = .ok (.aload_n 1, 1) := by decide +kernel
theorem dL_law_233 : decode cL_law 233 = .ok (.aload_n 0, 1) := by decide +kernel
theorem dL_law_234 : decode cL_law 234 = .ok (.iload 4, 2) := by decide +kernel
theorem dL_law_236 : decode cL_law 236 = .ok (.iconst 1, 1) := by decide +kernel
theorem dL_law_237 : decode cL_law 237 = .ok (.iadd, 1) := by decide +kernel
theorem dL_law_238 : decode cL_law 238 = .ok (.iaload, 1) := by decide +kernel
theorem dL_law_239 : decode cL_law 239 = .ok (.aload_n 0, 1) := by decide +kernel
theorem dL_law_240 : decode cL_law 240 = .ok (.iload 4, 2) := by decide +kernel
theorem dL_law_242 : decode cL_law 242 = .ok (.iconst 2, 1) := by decide +kernel
theorem dL_law_243 : decode cL_law 243 = .ok (.iadd, 1) := by decide +kernel
theorem dL_law_244 : decode cL_law 244 = .ok (.iaload, 1) := by decide +kernel
theorem dL_law_245 : decode cL_law 245 = .ok (.aload_n 0, 1) := by decide +kernel
theorem dL_law_246 : decode cL_law 246 = .ok (.iload 4, 2) := by decide +kernel
theorem dL_law_248 : decode cL_law 248 = .ok (.iconst 3, 1) := by decide +kernel
theorem dL_law_249 : decode cL_law 249 = .ok (.iadd, 1) := by decide +kernel
theorem dL_law_250 : decode cL_law 250 = .ok (.iaload, 1) := by decide +kernel
theorem dL_law_251 : decode cL_law 251 = .ok (.aload_n 3, 1) := by decide +kernel
theorem dL_law_252 : decode cL_law 252 = .ok (.invokestatic 97, 3) := by decide +kernel
theorem dL_law_255 : decode cL_law 255 = .ok (.istore 5, 2) := by decide +kernel
theorem dL_law_257 : decode cL_law 257 = .ok (.aload_n 2, 1) := by decide +kernel
theorem dL_law_258 : decode cL_law 258 = .ok (.aload_n 0, 1) := by decide +kernel
theorem dL_law_259 : decode cL_law 259 = .ok (.iload 4, 2) := by decide +kernel
theorem dL_law_261 : decode cL_law 261 = .ok (.iconst 1, 1) := by decide +kernel
theorem dL_law_262 : decode cL_law 262 = .ok (.iadd, 1) := by decide +kernel
theorem dL_law_263 : decode cL_law 263 = .ok (.iaload, 1) := by decide +kernel
theorem dL_law_264 : decode cL_law 264 = .ok (.aload_n 0, 1) := by decide +kernel
theorem dL_law_265 : decode cL_law 265 = .ok (.iload 4, 2) := by decide +kernel
theorem dL_law_267 : decode cL_law 267 = .ok (.iconst 2, 1) := by decide +kernel
theorem dL_law_268 : decode cL_law 268 = .ok (.iadd, 1) := by decide +kernel
theorem dL_law_269 : decode cL_law 269 = .ok (.iaload, 1) := by decide +kernel
theorem dL_law_270 : decode cL_law 270 = .ok (.aload_n 0, 1) := by decide +kernel
theorem dL_law_271 : decode cL_law 271 = .ok (.iload 4, 2) := by decide +kernel
theorem dL_law_273 : decode cL_law 273 = .ok (.iconst 3, 1) := by decide +kernel
theorem dL_law_274 : decode cL_law 274 = .ok (.iadd, 1) := by decide +kernel
theorem dL_law_275 : decode cL_law 275 = .ok (.iaload, 1) := by decide +kernel
theorem dL_law_276 : decode cL_law 276 = .ok (.invokevirtual 100, 3) := by decide +kernel
theorem dL_law_279 : decode cL_law 279 = .ok (.istore 6, 2) := by decide +kernel
theorem dL_law_281 : decode cL_law 281 = .ok (.aload_n 2, 1) := by decide +kernel
theorem dL_law_282 : decode cL_law 282 = .ok (.invokevirtual 93, 3) := by decide +kernel
theorem dL_law_285 : decode cL_law 285 = .ok (.iload 5, 2) := by decide +kernel
theorem dL_law_287 : decode cL_law 287 = .ok (.if_icmp .eq 5, 3) := by decide +kernel
theorem dL_law_290 : decode cL_law 290 = .ok (.iconst 0, 1) := by decide +kernel
theorem dL_law_291 : decode cL_law 291 = .ok (.ireturn, 1) := by decide +kernel
theorem dL_law_292 : decode cL_law 292 = .ok (.iload 5, 2) := by decide +kernel
theorem dL_law_294 : decode cL_law 294 = .ok (.ifCond .ne 15, 3) := by decide +kernel
theorem dL_law_297 : decode cL_law 297 = .ok (.aload_n 3, 1) := by decide +kernel
theorem dL_law_298 : decode cL_law 298 = .ok (.iconst 0, 1) := by decide +kernel
theorem dL_law_299 : decode cL_law 299 = .ok (.laload, 1) := by decide +kernel
theorem dL_law_300 : decode cL_law 300 = .ok (.iload 6, 2) := by decide +kernel
theorem dL_law_302 : decode cL_law 302 = .ok (.i2l, 1) := by decide +kernel
theorem dL_law_303 : decode cL_law 303 = .ok (.lcmp, 1) := by decide +kernel
theorem dL_law_304 : decode cL_law 304 = .ok (.ifCond .eq 5, 3) := by decide +kernel
theorem dL_law_307 : decode cL_law 307 = .ok (.iconst 0, 1) := by decide +kernel
theorem dL_law_308 : decode cL_law 308 = .ok (.ireturn, 1) := by decide +kernel
theorem dL_law_309 : decode cL_law 309 = .ok (.goto 1238, 3) := by decide +kernel
theorem dL_law_312 : decode cL_law 312 = .ok (.aload_n 1, 1) := by decide +kernel
theorem dL_law_313 : decode cL_law 313 = .ok (.aload_n 0, 1) := by decide +kernel
theorem dL_law_314 : decode cL_law 314 = .ok (.iload 4, 2) := by decide +kernel
theorem dL_law_316 : decode cL_law 316 = .ok (.iconst 1, 1) := by decide +kernel
theorem dL_law_317 : decode cL_law 317 = .ok (.iadd, 1) := by decide +kernel
theorem dL_law_318 : decode cL_law 318 = .ok (.iaload, 1) := by decide +kernel
theorem dL_law_319 : decode cL_law 319 = .ok (.aload_n 0, 1) := by decide +kernel
theorem dL_law_320 : decode cL_law 320 = .ok (.iload 4, 2) := by decide +kernel
theorem dL_law_322 : decode cL_law 322 = .ok (.iconst 2, 1) := by decide +kernel
theorem dL_law_323 : decode cL_law 323 = .ok (.iadd, 1) := by decide +kernel
theorem dL_law_324 : decode cL_law 324 = .ok (.iaload, 1) := by decide +kernel
theorem dL_law_325 : decode cL_law 325 = .ok (.aload_n 3, 1) := by decide +kernel
theorem dL_law_326 : decode cL_law 326 = .ok (.invokestatic 101, 3) := by decide +kernel
theorem dL_law_329 : decode cL_law 329 = .ok (.istore 5, 2) := by decide +kernel
theorem dL_law_331 : decode cL_law 331 = .ok (.aload_n 2, 1) := by decide +kernel
theorem dL_law_332 : decode cL_law 332 = .ok (.aload_n 0, 1) := by decide +kernel
theorem dL_law_333 : decode cL_law 333 = .ok (.iload 4, 2) := by decide +kernel
theorem dL_law_335 : decode cL_law 335 = .ok (.iconst 1, 1) := by decide +kernel
theorem dL_law_336 : decode cL_law 336 = .ok (.iadd, 1) := by decide +kernel
theorem dL_law_337 : decode cL_law 337 = .ok (.iaload, 1) := by decide +kernel
theorem dL_law_338 : decode cL_law 338 = .ok (.aload_n 0, 1) := by decide +kernel
theorem dL_law_339 : decode cL_law 339 = .ok (.iload 4, 2) := by decide +kernel
theorem dL_law_341 : decode cL_law 341 = .ok (.iconst 2, 1) := by decide +kernel
theorem dL_law_342 : decode cL_law 342 = .ok (.iadd, 1) := by decide +kernel
theorem dL_law_343 : decode cL_law 343 = .ok (.iaload, 1) := by decide +kernel
theorem dL_law_344 : decode cL_law 344 = .ok (.invokevirtual 104, 3) := by decide +kernel
theorem dL_law_347 : decode cL_law 347 = .ok (.istore 6, 2) := by decide +kernel
theorem dL_law_349 : decode cL_law 349 = .ok (.aload_n 2, 1) := by decide +kernel
theorem dL_law_350 : decode cL_law 350 = .ok (.invokevirtual 93, 3) := by decide +kernel
theorem dL_law_353 : decode cL_law 353 = .ok (.iload 5, 2) := by decide +kernel
theorem dL_law_355 : decode cL_law 355 = .ok (.if_icmp .eq 5, 3) := by decide +kernel
theorem dL_law_358 : decode cL_law 358 = .ok (.iconst 0, 1) := by decide +kernel
theorem dL_law_359 : decode cL_law 359 = .ok (.ireturn, 1) := by decide +kernel
theorem dL_law_360 : decode cL_law 360 = .ok (.iload 5, 2) := by decide +kernel
theorem dL_law_362 : decode cL_law 362 = .ok (.ifCond .ne 15, 3) := by decide +kernel
theorem dL_law_365 : decode cL_law 365 = .ok (.aload_n 3, 1) := by decide +kernel
theorem dL_law_366 : decode cL_law 366 = .ok (.iconst 0, 1) := by decide +kernel
theorem dL_law_367 : decode cL_law 367 = .ok (.laload, 1) := by decide +kernel
theorem dL_law_368 : decode cL_law 368 = .ok (.iload 6, 2) := by decide +kernel
theorem dL_law_370 : decode cL_law 370 = .ok (.i2l, 1) := by decide +kernel
theorem dL_law_371 : decode cL_law 371 = .ok (.lcmp, 1) := by decide +kernel
theorem dL_law_372 : decode cL_law 372 = .ok (.ifCond .eq 5, 3) := by decide +kernel
theorem dL_law_375 : decode cL_law 375 = .ok (.iconst 0, 1) := by decide +kernel
theorem dL_law_376 : decode cL_law 376 = .ok (.ireturn, 1) := by decide +kernel
theorem dL_law_377 : decode cL_law 377 = .ok (.goto 1170, 3) := by decide +kernel
theorem dL_law_380 : decode cL_law 380 = .ok (.aload_n 1, 1) := by decide +kernel
theorem dL_law_381 : decode cL_law 381 = .ok (.aload_n 0, 1) := by decide +kernel
theorem dL_law_382 : decode cL_law 382 = .ok (.iload 4, 2) := by decide +kernel
theorem dL_law_384 : decode cL_law 384 = .ok (.iconst 1, 1) := by decide +kernel
theorem dL_law_385 : decode cL_law 385 = .ok (.iadd, 1) := by decide +kernel
theorem dL_law_386 : decode cL_law 386 = .ok (.iaload, 1) := by decide +kernel
theorem dL_law_387 : decode cL_law 387 = .ok (.aload_n 3, 1) := by decide +kernel
theorem dL_law_388 : decode cL_law 388 = .ok (.invokestatic 105, 3) := by decide +kernel
theorem dL_law_391 : decode cL_law 391 = .ok (.istore 5, 2) := by decide +kernel
theorem dL_law_393 : decode cL_law 393 = .ok (.aload_n 2, 1) := by decide +kernel
theorem dL_law_394 : decode cL_law 394 = .ok (.aload_n 0, 1) := by decide +kernel
theorem dL_law_395 : decode cL_law 395 = .ok (.iload 4, 2) := by decide +kernel
theorem dL_law_397 : decode cL_law 397 = .ok (.iconst 1, 1) := by decide +kernel
theorem dL_law_398 : decode cL_law 398 = .ok (.iadd, 1) := by decide +kernel
theorem dL_law_399 : decode cL_law 399 = .ok (.iaload, 1) := by decide +kernel
theorem dL_law_400 : decode cL_law 400 = .ok (.invokevirtual 108, 3) := by decide +kernel
theorem dL_law_403 : decode cL_law 403 = .ok (.istore 6, 2) := by decide +kernel
theorem dL_law_405 : decode cL_law 405 = .ok (.aload_n 2, 1) := by decide +kernel
theorem dL_law_406 : decode cL_law 406 = .ok (.invokevirtual 93, 3) := by decide +kernel
theorem dL_law_409 : decode cL_law 409 = .ok (.iload 5, 2) := by decide +kernel
theorem dL_law_411 : decode cL_law 411 = .ok (.if_icmp .eq 5, 3) := by decide +kernel
theorem dL_law_414 : decode cL_law 414 = .ok (.iconst 0, 1) := by decide +kernel
theorem dL_law_415 : decode cL_law 415 = .ok (.ireturn, 1) := by decide +kernel
theorem dL_law_416 : decode cL_law 416 = .ok (.iload 5, 2) := by decide +kernel
theorem dL_law_418 : decode cL_law 418 = .ok (.ifCond .ne 15, 3) := by decide +kernel
theorem dL_law_421 : decode cL_law 421 = .ok (.aload_n 3, 1) := by decide +kernel
theorem dL_law_422 : decode cL_law 422 = .ok (.iconst 0, 1) := by decide +kernel
theorem dL_law_423 : decode cL_law 423 = .ok (.laload, 1) := by decide +kernel
theorem dL_law_424 : decode cL_law 424 = .ok (.iload 6, 2) := by decide +kernel
theorem dL_law_426 : decode cL_law 426 = .ok (.i2l, 1) := by decide +kernel
theorem dL_law_427 : decode cL_law 427 = .ok (.lcmp, 1) := by decide +kernel
theorem dL_law_428 : decode cL_law 428 = .ok (.ifCond .eq 5, 3) := by decide +kernel
theorem dL_law_431 : decode cL_law 431 = .ok (.iconst 0, 1) := by decide +kernel
theorem dL_law_432 : decode cL_law 432 = .ok (.ireturn, 1) := by decide +kernel
theorem dL_law_433 : decode cL_law 433 = .ok (.goto 1114, 3) := by decide +kernel
theorem dL_law_436 : decode cL_law 436 = .ok (.aload_n 1, 1) := by decide +kernel
theorem dL_law_437 : decode cL_law 437 = .ok (.aload_n 0, 1) := by decide +kernel
theorem dL_law_438 : decode cL_law 438 = .ok (.iload 4, 2) := by decide +kernel
theorem dL_law_440 : decode cL_law 440 = .ok (.iconst 1, 1) := by decide +kernel
theorem dL_law_441 : decode cL_law 441 = .ok (.iadd, 1) := by decide +kernel
theorem dL_law_442 : decode cL_law 442 = .ok (.iaload, 1) := by decide +kernel
theorem dL_law_443 : decode cL_law 443 = .ok (.aload_n 0, 1) := by decide +kernel
theorem dL_law_444 : decode cL_law 444 = .ok (.iload 4, 2) := by decide +kernel
theorem dL_law_446 : decode cL_law 446 = .ok (.iconst 2, 1) := by decide +kernel
theorem dL_law_447 : decode cL_law 447 = .ok (.iadd, 1) := by decide +kernel
theorem dL_law_448 : decode cL_law 448 = .ok (.iaload, 1) := by decide +kernel
theorem dL_law_449 : decode cL_law 449 = .ok (.aload_n 0, 1) := by decide +kernel
theorem dL_law_450 : decode cL_law 450 = .ok (.iload 4, 2) := by decide +kernel
theorem dL_law_452 : decode cL_law 452 = .ok (.iconst 3, 1) := by decide +kernel
theorem dL_law_453 : decode cL_law 453 = .ok (.iadd, 1) := by decide +kernel
theorem dL_law_454 : decode cL_law 454 = .ok (.iaload, 1) := by decide +kernel
theorem dL_law_455 : decode cL_law 455 = .ok (.aload_n 3, 1) := by decide +kernel
theorem dL_law_456 : decode cL_law 456 = .ok (.invokestatic 109, 3) := by decide +kernel
theorem dL_law_459 : decode cL_law 459 = .ok (.istore 5, 2) := by decide +kernel
theorem dL_law_461 : decode cL_law 461 = .ok (.aload_n 2, 1) := by decide +kernel
theorem dL_law_462 : decode cL_law 462 = .ok (.aload_n 0, 1) := by decide +kernel
theorem dL_law_463 : decode cL_law 463 = .ok (.iload 4, 2) := by decide +kernel
theorem dL_law_465 : decode cL_law 465 = .ok (.iconst 1, 1) := by decide +kernel
theorem dL_law_466 : decode cL_law 466 = .ok (.iadd, 1) := by decide +kernel
theorem dL_law_467 : decode cL_law 467 = .ok (.iaload, 1) := by decide +kernel
theorem dL_law_468 : decode cL_law 468 = .ok (.aload_n 0, 1) := by decide +kernel
theorem dL_law_469 : decode cL_law 469 = .ok (.iload 4, 2) := by decide +kernel
theorem dL_law_471 : decode cL_law 471 = .ok (.iconst 2, 1) := by decide +kernel
theorem dL_law_472 : decode cL_law 472 = .ok (.iadd, 1) := by decide +kernel
theorem dL_law_473 : decode cL_law 473 = .ok (.iaload, 1) := by decide +kernel
theorem dL_law_474 : decode cL_law 474 = .ok (.aload_n 0, 1) := by decide +kernel
theorem dL_law_475 : decode cL_law 475 = .ok (.iload 4, 2) := by decide +kernel
theorem dL_law_477 : decode cL_law 477 = .ok (.iconst 3, 1) := by decide +kernel
theorem dL_law_478 : decode cL_law 478 = .ok (.iadd, 1) := by decide +kernel
theorem dL_law_479 : decode cL_law 479 = .ok (.iaload, 1) := by decide +kernel
theorem dL_law_480 : decode cL_law 480 = .ok (.invokevirtual 111, 3) := by decide +kernel
theorem dL_law_483 : decode cL_law 483 = .ok (.istore 6, 2) := by decide +kernel
theorem dL_law_485 : decode cL_law 485 = .ok (.aload_n 2, 1) := by decide +kernel
theorem dL_law_486 : decode cL_law 486 = .ok (.invokevirtual 93, 3) := by decide +kernel
theorem dL_law_489 : decode cL_law 489 = .ok (.iload 5, 2) := by decide +kernel
theorem dL_law_491 : decode cL_law 491 = .ok (.if_icmp .eq 5, 3) := by decide +kernel
theorem dL_law_494 : decode cL_law 494 = .ok (.iconst 0, 1) := by decide +kernel
theorem dL_law_495 : decode cL_law 495 = .ok (.ireturn, 1) := by decide +kernel
theorem dL_law_496 : decode cL_law 496 = .ok (.iload 5, 2) := by decide +kernel
theorem dL_law_498 : decode cL_law 498 = .ok (.ifCond .ne 15, 3) := by decide +kernel
theorem dL_law_501 : decode cL_law 501 = .ok (.aload_n 3, 1) := by decide +kernel
theorem dL_law_502 : decode cL_law 502 = .ok (.iconst 0, 1) := by decide +kernel
theorem dL_law_503 : decode cL_law 503 = .ok (.laload, 1) := by decide +kernel
theorem dL_law_504 : decode cL_law 504 = .ok (.iload 6, 2) := by decide +kernel
theorem dL_law_506 : decode cL_law 506 = .ok (.i2l, 1) := by decide +kernel
theorem dL_law_507 : decode cL_law 507 = .ok (.lcmp, 1) := by decide +kernel
theorem dL_law_508 : decode cL_law 508 = .ok (.ifCond .eq 5, 3) := by decide +kernel
theorem dL_law_511 : decode cL_law 511 = .ok (.iconst 0, 1) := by decide +kernel
theorem dL_law_512 : decode cL_law 512 = .ok (.ireturn, 1) := by decide +kernel
theorem dL_law_513 : decode cL_law 513 = .ok (.goto 1034, 3) := by decide +kernel
theorem dL_law_516 : decode cL_law 516 = .ok (.aload_n 1, 1) := by decide +kernel
theorem dL_law_517 : decode cL_law 517 = .ok (.aload_n 0, 1) := by decide +kernel
theorem dL_law_518 : decode cL_law 518 = .ok (.iload 4, 2) := by decide +kernel
theorem dL_law_520 : decode cL_law 520 = .ok (.iconst 1, 1) := by decide +kernel
theorem dL_law_521 : decode cL_law 521 = .ok (.iadd, 1) := by decide +kernel
theorem dL_law_522 : decode cL_law 522 = .ok (.iaload, 1) := by decide +kernel
theorem dL_law_523 : decode cL_law 523 = .ok (.aload_n 0, 1) := by decide +kernel
theorem dL_law_524 : decode cL_law 524 = .ok (.iload 4, 2) := by decide +kernel
theorem dL_law_526 : decode cL_law 526 = .ok (.iconst 2, 1) := by decide +kernel
theorem dL_law_527 : decode cL_law 527 = .ok (.iadd, 1) := by decide +kernel
theorem dL_law_528 : decode cL_law 528 = .ok (.iaload, 1) := by decide +kernel
theorem dL_law_529 : decode cL_law 529 = .ok (.aload_n 3, 1) := by decide +kernel
theorem dL_law_530 : decode cL_law 530 = .ok (.invokestatic 112, 3) := by decide +kernel
theorem dL_law_533 : decode cL_law 533 = .ok (.istore 5, 2) := by decide +kernel
theorem dL_law_535 : decode cL_law 535 = .ok (.aload_n 2, 1) := by decide +kernel
theorem dL_law_536 : decode cL_law 536 = .ok (.aload_n 0, 1) := by decide +kernel
theorem dL_law_537 : decode cL_law 537 = .ok (.iload 4, 2) := by decide +kernel
theorem dL_law_539 : decode cL_law 539 = .ok (.iconst 1, 1) := by decide +kernel
theorem dL_law_540 : decode cL_law 540 = .ok (.iadd, 1) := by decide +kernel
theorem dL_law_541 : decode cL_law 541 = .ok (.iaload, 1) := by decide +kernel
theorem dL_law_542 : decode cL_law 542 = .ok (.aload_n 0, 1) := by decide +kernel
theorem dL_law_543 : decode cL_law 543 = .ok (.iload 4, 2) := by decide +kernel
theorem dL_law_545 : decode cL_law 545 = .ok (.iconst 2, 1) := by decide +kernel
theorem dL_law_546 : decode cL_law 546 = .ok (.iadd, 1) := by decide +kernel
theorem dL_law_547 : decode cL_law 547 = .ok (.iaload, 1) := by decide +kernel
theorem dL_law_548 : decode cL_law 548 = .ok (.invokevirtual 114, 3) := by decide +kernel
theorem dL_law_551 : decode cL_law 551 = .ok (.istore 6, 2) := by decide +kernel
theorem dL_law_553 : decode cL_law 553 = .ok (.aload_n 2, 1) := by decide +kernel
theorem dL_law_554 : decode cL_law 554 = .ok (.invokevirtual 93, 3) := by decide +kernel
theorem dL_law_557 : decode cL_law 557 = .ok (.iload 5, 2) := by decide +kernel
theorem dL_law_559 : decode cL_law 559 = .ok (.if_icmp .eq 5, 3) := by decide +kernel
theorem dL_law_562 : decode cL_law 562 = .ok (.iconst 0, 1) := by decide +kernel
theorem dL_law_563 : decode cL_law 563 = .ok (.ireturn, 1) := by decide +kernel
theorem dL_law_564 : decode cL_law 564 = .ok (.iload 5, 2) := by decide +kernel
theorem dL_law_566 : decode cL_law 566 = .ok (.ifCond .ne 15, 3) := by decide +kernel
theorem dL_law_569 : decode cL_law 569 = .ok (.aload_n 3, 1) := by decide +kernel
theorem dL_law_570 : decode cL_law 570 = .ok (.iconst 0, 1) := by decide +kernel
theorem dL_law_571 : decode cL_law 571 = .ok (.laload, 1) := by decide +kernel
theorem dL_law_572 : decode cL_law 572 = .ok (.iload 6, 2) := by decide +kernel
theorem dL_law_574 : decode cL_law 574 = .ok (.i2l, 1) := by decide +kernel
theorem dL_law_575 : decode cL_law 575 = .ok (.lcmp, 1) := by decide +kernel
theorem dL_law_576 : decode cL_law 576 = .ok (.ifCond .eq 5, 3) := by decide +kernel
theorem dL_law_579 : decode cL_law 579 = .ok (.iconst 0, 1) := by decide +kernel
theorem dL_law_580 : decode cL_law 580 = .ok (.ireturn, 1) := by decide +kernel
theorem dL_law_581 : decode cL_law 581 = .ok (.goto 966, 3) := by decide +kernel
theorem dL_law_584 : decode cL_law 584 = .ok (.aload_n 1, 1) := by decide +kernel
theorem dL_law_585 : decode cL_law 585 = .ok (.aload_n 0, 1) := by decide +kernel
theorem dL_law_586 : decode cL_law 586 = .ok (.iload 4, 2) := by decide +kernel
theorem dL_law_588 : decode cL_law 588 = .ok (.iconst 1, 1) := by decide +kernel
theorem dL_law_589 : decode cL_law 589 = .ok (.iadd, 1) := by decide +kernel
theorem dL_law_590 : decode cL_law 590 = .ok (.iaload, 1) := by decide +kernel
theorem dL_law_591 : decode cL_law 591 = .ok (.aload_n 0, 1) := by decide +kernel
theorem dL_law_592 : decode cL_law 592 = .ok (.iload 4, 2) := by decide +kernel
theorem dL_law_594 : decode cL_law 594 = .ok (.iconst 2, 1) := by decide +kernel
theorem dL_law_595 : decode cL_law 595 = .ok (.iadd, 1) := by decide +kernel
theorem dL_law_596 : decode cL_law 596 = .ok (.iaload, 1) := by decide +kernel
theorem dL_law_597 : decode cL_law 597 = .ok (.aload_n 3, 1) := by decide +kernel
theorem dL_law_598 : decode cL_law 598 = .ok (.invokestatic 115, 3) := by decide +kernel
theorem dL_law_601 : decode cL_law 601 = .ok (.istore 5, 2) := by decide +kernel
theorem dL_law_603 : decode cL_law 603 = .ok (.aload_n 2, 1) := by decide +kernel
theorem dL_law_604 : decode cL_law 604 = .ok (.aload_n 0, 1) := by decide +kernel
theorem dL_law_605 : decode cL_law 605 = .ok (.iload 4, 2) := by decide +kernel
theorem dL_law_607 : decode cL_law 607 = .ok (.iconst 1, 1) := by decide +kernel
theorem dL_law_608 : decode cL_law 608 = .ok (.iadd, 1) := by decide +kernel
theorem dL_law_609 : decode cL_law 609 = .ok (.iaload, 1) := by decide +kernel
theorem dL_law_610 : decode cL_law 610 = .ok (.aload_n 0, 1) := by decide +kernel
theorem dL_law_611 : decode cL_law 611 = .ok (.iload 4, 2) := by decide +kernel
theorem dL_law_613 : decode cL_law 613 = .ok (.iconst 2, 1) := by decide +kernel
theorem dL_law_614 : decode cL_law 614 = .ok (.iadd, 1) := by decide +kernel
theorem dL_law_615 : decode cL_law 615 = .ok (.iaload, 1) := by decide +kernel
theorem dL_law_616 : decode cL_law 616 = .ok (.invokevirtual 117, 3) := by decide +kernel
theorem dL_law_619 : decode cL_law 619 = .ok (.istore 6, 2) := by decide +kernel
theorem dL_law_621 : decode cL_law 621 = .ok (.aload_n 2, 1) := by decide +kernel
theorem dL_law_622 : decode cL_law 622 = .ok (.invokevirtual 93, 3) := by decide +kernel
theorem dL_law_625 : decode cL_law 625 = .ok (.iload 5, 2) := by decide +kernel
theorem dL_law_627 : decode cL_law 627 = .ok (.if_icmp .eq 5, 3) := by decide +kernel
theorem dL_law_630 : decode cL_law 630 = .ok (.iconst 0, 1) := by decide +kernel
theorem dL_law_631 : decode cL_law 631 = .ok (.ireturn, 1) := by decide +kernel
theorem dL_law_632 : decode cL_law 632 = .ok (.iload 5, 2) := by decide +kernel
theorem dL_law_634 : decode cL_law 634 = .ok (.ifCond .ne 15, 3) := by decide +kernel
theorem dL_law_637 : decode cL_law 637 = .ok (.aload_n 3, 1) := by decide +kernel
theorem dL_law_638 : decode cL_law 638 = .ok (.iconst 0, 1) := by decide +kernel
theorem dL_law_639 : decode cL_law 639 = .ok (.laload, 1) := by decide +kernel
theorem dL_law_640 : decode cL_law 640 = .ok (.iload 6, 2) := by decide +kernel
theorem dL_law_642 : decode cL_law 642 = .ok (.i2l, 1) := by decide +kernel
theorem dL_law_643 : decode cL_law 643 = .ok (.lcmp, 1) := by decide +kernel
theorem dL_law_644 : decode cL_law 644 = .ok (.ifCond .eq 5, 3) := by decide +kernel
theorem dL_law_647 : decode cL_law 647 = .ok (.iconst 0, 1) := by decide +kernel
theorem dL_law_648 : decode cL_law 648 = .ok (.ireturn, 1) := by decide +kernel
theorem dL_law_649 : decode cL_law 649 = .ok (.goto 898, 3) := by decide +kernel
theorem dL_law_652 : decode cL_law 652 = .ok (.aload_n 1, 1) := by decide +kernel
theorem dL_law_653 : decode cL_law 653 = .ok (.invokevirtual 118, 3) := by decide +kernel
theorem dL_law_656 : decode cL_law 656 = .ok (.aload_n 2, 1) := by decide +kernel
theorem dL_law_657 : decode cL_law 657 = .ok (.invokevirtual 121, 3) := by decide +kernel
theorem dL_law_660 : decode cL_law 660 = .ok (.if_icmp .eq 887, 3) := by decide +kernel
theorem dL_law_663 : decode cL_law 663 = .ok (.iconst 0, 1) := by decide +kernel
theorem dL_law_664 : decode cL_law 664 = .ok (.ireturn, 1) := by decide +kernel
theorem dL_law_665 : decode cL_law 665 = .ok (.aload_n 1, 1) := by decide +kernel
theorem dL_law_666 : decode cL_law 666 = .ok (.aload_n 0, 1) := by decide +kernel
theorem dL_law_667 : decode cL_law 667 = .ok (.iload 4, 2) := by decide +kernel
theorem dL_law_669 : decode cL_law 669 = .ok (.iconst 1, 1) := by decide +kernel
theorem dL_law_670 : decode cL_law 670 = .ok (.iadd, 1) := by decide +kernel
theorem dL_law_671 : decode cL_law 671 = .ok (.iaload, 1) := by decide +kernel
theorem dL_law_672 : decode cL_law 672 = .ok (.aload_n 3, 1) := by decide +kernel
theorem dL_law_673 : decode cL_law 673 = .ok (.invokestatic 122, 3) := by decide +kernel
theorem dL_law_676 : decode cL_law 676 = .ok (.istore 5, 2) := by decide +kernel
theorem dL_law_678 : decode cL_law 678 = .ok (.aload_n 2, 1) := by decide +kernel
theorem dL_law_679 : decode cL_law 679 = .ok (.aload_n 0, 1) := by decide +kernel
theorem dL_law_680 : decode cL_law 680 = .ok (.iload 4, 2) := by decide +kernel
theorem dL_law_682 : decode cL_law 682 = .ok (.iconst 1, 1) := by decide +kernel
theorem dL_law_683 : decode cL_law 683 = .ok (.iadd, 1) := by decide +kernel
theorem dL_law_684 : decode cL_law 684 = .ok (.iaload, 1) := by decide +kernel
theorem dL_law_685 : decode cL_law 685 = .ok (.invokevirtual 124, 3) := by decide +kernel
theorem dL_law_688 : decode cL_law 688 = .ok (.istore 6, 2) := by decide +kernel
theorem dL_law_690 : decode cL_law 690 = .ok (.aload_n 2, 1) := by decide +kernel
theorem dL_law_691 : decode cL_law 691 = .ok (.invokevirtual 93, 3) := by decide +kernel
theorem dL_law_694 : decode cL_law 694 = .ok (.iload 5, 2) := by decide +kernel
theorem dL_law_696 : decode cL_law 696 = .ok (.if_icmp .eq 5, 3) := by decide +kernel
theorem dL_law_699 : decode cL_law 699 = .ok (.iconst 0, 1) := by decide +kernel
theorem dL_law_700 : decode cL_law 700 = .ok (.ireturn, 1) := by decide +kernel
theorem dL_law_701 : decode cL_law 701 = .ok (.iload 5, 2) := by decide +kernel
theorem dL_law_703 : decode cL_law 703 = .ok (.ifCond .ne 15, 3) := by decide +kernel
theorem dL_law_706 : decode cL_law 706 = .ok (.aload_n 3, 1) := by decide +kernel
theorem dL_law_707 : decode cL_law 707 = .ok (.iconst 0, 1) := by decide +kernel
theorem dL_law_708 : decode cL_law 708 = .ok (.laload, 1) := by decide +kernel
theorem dL_law_709 : decode cL_law 709 = .ok (.iload 6, 2) := by decide +kernel
theorem dL_law_711 : decode cL_law 711 = .ok (.i2l, 1) := by decide +kernel
theorem dL_law_712 : decode cL_law 712 = .ok (.lcmp, 1) := by decide +kernel
theorem dL_law_713 : decode cL_law 713 = .ok (.ifCond .eq 5, 3) := by decide +kernel
theorem dL_law_716 : decode cL_law 716 = .ok (.iconst 0, 1) := by decide +kernel
theorem dL_law_717 : decode cL_law 717 = .ok (.ireturn, 1) := by decide +kernel
theorem dL_law_718 : decode cL_law 718 = .ok (.goto 829, 3) := by decide +kernel
theorem dL_law_721 : decode cL_law 721 = .ok (.aload_n 1, 1) := by decide +kernel
theorem dL_law_722 : decode cL_law 722 = .ok (.aload_n 0, 1) := by decide +kernel
theorem dL_law_723 : decode cL_law 723 = .ok (.iload 4, 2) := by decide +kernel
theorem dL_law_725 : decode cL_law 725 = .ok (.iconst 1, 1) := by decide +kernel
theorem dL_law_726 : decode cL_law 726 = .ok (.iadd, 1) := by decide +kernel
theorem dL_law_727 : decode cL_law 727 = .ok (.iaload, 1) := by decide +kernel
theorem dL_law_728 : decode cL_law 728 = .ok (.aload_n 3, 1) := by decide +kernel
theorem dL_law_729 : decode cL_law 729 = .ok (.invokestatic 125, 3) := by decide +kernel
theorem dL_law_732 : decode cL_law 732 = .ok (.istore 5, 2) := by decide +kernel
theorem dL_law_734 : decode cL_law 734 = .ok (.aload_n 2, 1) := by decide +kernel
theorem dL_law_735 : decode cL_law 735 = .ok (.aload_n 0, 1) := by decide +kernel
theorem dL_law_736 : decode cL_law 736 = .ok (.iload 4, 2) := by decide +kernel
theorem dL_law_738 : decode cL_law 738 = .ok (.iconst 1, 1) := by decide +kernel
theorem dL_law_739 : decode cL_law 739 = .ok (.iadd, 1) := by decide +kernel
theorem dL_law_740 : decode cL_law 740 = .ok (.iaload, 1) := by decide +kernel
theorem dL_law_741 : decode cL_law 741 = .ok (.invokevirtual 127, 3) := by decide +kernel
theorem dL_law_744 : decode cL_law 744 = .ok (.istore 6, 2) := by decide +kernel
theorem dL_law_746 : decode cL_law 746 = .ok (.aload_n 2, 1) := by decide +kernel
theorem dL_law_747 : decode cL_law 747 = .ok (.invokevirtual 93, 3) := by decide +kernel
theorem dL_law_750 : decode cL_law 750 = .ok (.iload 5, 2) := by decide +kernel
theorem dL_law_752 : decode cL_law 752 = .ok (.if_icmp .eq 5, 3) := by decide +kernel
theorem dL_law_755 : decode cL_law 755 = .ok (.iconst 0, 1) := by decide +kernel
theorem dL_law_756 : decode cL_law 756 = .ok (.ireturn, 1) := by decide +kernel
theorem dL_law_757 : decode cL_law 757 = .ok (.iload 5, 2) := by decide +kernel
theorem dL_law_759 : decode cL_law 759 = .ok (.ifCond .ne 15, 3) := by decide +kernel
theorem dL_law_762 : decode cL_law 762 = .ok (.aload_n 3, 1) := by decide +kernel
theorem dL_law_763 : decode cL_law 763 = .ok (.iconst 0, 1) := by decide +kernel
theorem dL_law_764 : decode cL_law 764 = .ok (.laload, 1) := by decide +kernel
theorem dL_law_765 : decode cL_law 765 = .ok (.iload 6, 2) := by decide +kernel
theorem dL_law_767 : decode cL_law 767 = .ok (.i2l, 1) := by decide +kernel
theorem dL_law_768 : decode cL_law 768 = .ok (.lcmp, 1) := by decide +kernel
theorem dL_law_769 : decode cL_law 769 = .ok (.ifCond .eq 5, 3) := by decide +kernel
theorem dL_law_772 : decode cL_law 772 = .ok (.iconst 0, 1) := by decide +kernel
theorem dL_law_773 : decode cL_law 773 = .ok (.ireturn, 1) := by decide +kernel
theorem dL_law_774 : decode cL_law 774 = .ok (.goto 773, 3) := by decide +kernel
theorem dL_law_777 : decode cL_law 777 = .ok (.aload_n 1, 1) := by decide +kernel
theorem dL_law_778 : decode cL_law 778 = .ok (.aload_n 0, 1) := by decide +kernel
theorem dL_law_779 : decode cL_law 779 = .ok (.iload 4, 2) := by decide +kernel
theorem dL_law_781 : decode cL_law 781 = .ok (.iconst 1, 1) := by decide +kernel
theorem dL_law_782 : decode cL_law 782 = .ok (.iadd, 1) := by decide +kernel
theorem dL_law_783 : decode cL_law 783 = .ok (.iaload, 1) := by decide +kernel
theorem dL_law_784 : decode cL_law 784 = .ok (.aload_n 3, 1) := by decide +kernel
theorem dL_law_785 : decode cL_law 785 = .ok (.invokestatic 128, 3) := by decide +kernel
theorem dL_law_788 : decode cL_law 788 = .ok (.istore 5, 2) := by decide +kernel
theorem dL_law_790 : decode cL_law 790 = .ok (.aload_n 2, 1) := by decide +kernel
theorem dL_law_791 : decode cL_law 791 = .ok (.aload_n 0, 1) := by decide +kernel
theorem dL_law_792 : decode cL_law 792 = .ok (.iload 4, 2) := by decide +kernel
theorem dL_law_794 : decode cL_law 794 = .ok (.iconst 1, 1) := by decide +kernel
theorem dL_law_795 : decode cL_law 795 = .ok (.iadd, 1) := by decide +kernel
theorem dL_law_796 : decode cL_law 796 = .ok (.iaload, 1) := by decide +kernel
theorem dL_law_797 : decode cL_law 797 = .ok (.invokevirtual 130, 3) := by decide +kernel
theorem dL_law_800 : decode cL_law 800 = .ok (.istore 6, 2) := by decide +kernel
theorem dL_law_802 : decode cL_law 802 = .ok (.aload_n 2, 1) := by decide +kernel
theorem dL_law_803 : decode cL_law 803 = .ok (.invokevirtual 93, 3) := by decide +kernel
theorem dL_law_806 : decode cL_law 806 = .ok (.iload 5, 2) := by decide +kernel
theorem dL_law_808 : decode cL_law 808 = .ok (.if_icmp .eq 5, 3) := by decide +kernel
theorem dL_law_811 : decode cL_law 811 = .ok (.iconst 0, 1) := by decide +kernel
theorem dL_law_812 : decode cL_law 812 = .ok (.ireturn, 1) := by decide +kernel
theorem dL_law_813 : decode cL_law 813 = .ok (.iload 5, 2) := by decide +kernel
theorem dL_law_815 : decode cL_law 815 = .ok (.ifCond .ne 15, 3) := by decide +kernel
theorem dL_law_818 : decode cL_law 818 = .ok (.aload_n 3, 1) := by decide +kernel
theorem dL_law_819 : decode cL_law 819 = .ok (.iconst 0, 1) := by decide +kernel
theorem dL_law_820 : decode cL_law 820 = .ok (.laload, 1) := by decide +kernel
theorem dL_law_821 : decode cL_law 821 = .ok (.iload 6, 2) := by decide +kernel
theorem dL_law_823 : decode cL_law 823 = .ok (.i2l, 1) := by decide +kernel
theorem dL_law_824 : decode cL_law 824 = .ok (.lcmp, 1) := by decide +kernel
theorem dL_law_825 : decode cL_law 825 = .ok (.ifCond .eq 5, 3) := by decide +kernel
theorem dL_law_828 : decode cL_law 828 = .ok (.iconst 0, 1) := by decide +kernel
theorem dL_law_829 : decode cL_law 829 = .ok (.ireturn, 1) := by decide +kernel
theorem dL_law_830 : decode cL_law 830 = .ok (.goto 717, 3) := by decide +kernel
theorem dL_law_833 : decode cL_law 833 = .ok (.aload_n 1, 1) := by decide +kernel
theorem dL_law_834 : decode cL_law 834 = .ok (.aload_n 0, 1) := by decide +kernel
theorem dL_law_835 : decode cL_law 835 = .ok (.iload 4, 2) := by decide +kernel
theorem dL_law_837 : decode cL_law 837 = .ok (.iconst 1, 1) := by decide +kernel
theorem dL_law_838 : decode cL_law 838 = .ok (.iadd, 1) := by decide +kernel
theorem dL_law_839 : decode cL_law 839 = .ok (.iaload, 1) := by decide +kernel
theorem dL_law_840 : decode cL_law 840 = .ok (.aload_n 3, 1) := by decide +kernel
theorem dL_law_841 : decode cL_law 841 = .ok (.invokestatic 131, 3) := by decide +kernel
theorem dL_law_844 : decode cL_law 844 = .ok (.istore 5, 2) := by decide +kernel
theorem dL_law_846 : decode cL_law 846 = .ok (.aload_n 2, 1) := by decide +kernel
theorem dL_law_847 : decode cL_law 847 = .ok (.aload_n 0, 1) := by decide +kernel
theorem dL_law_848 : decode cL_law 848 = .ok (.iload 4, 2) := by decide +kernel
theorem dL_law_850 : decode cL_law 850 = .ok (.iconst 1, 1) := by decide +kernel
theorem dL_law_851 : decode cL_law 851 = .ok (.iadd, 1) := by decide +kernel
theorem dL_law_852 : decode cL_law 852 = .ok (.iaload, 1) := by decide +kernel
theorem dL_law_853 : decode cL_law 853 = .ok (.invokevirtual 133, 3) := by decide +kernel
theorem dL_law_856 : decode cL_law 856 = .ok (.istore 6, 2) := by decide +kernel
theorem dL_law_858 : decode cL_law 858 = .ok (.aload_n 2, 1) := by decide +kernel
theorem dL_law_859 : decode cL_law 859 = .ok (.invokevirtual 93, 3) := by decide +kernel
theorem dL_law_862 : decode cL_law 862 = .ok (.iload 5, 2) := by decide +kernel
theorem dL_law_864 : decode cL_law 864 = .ok (.if_icmp .eq 5, 3) := by decide +kernel
theorem dL_law_867 : decode cL_law 867 = .ok (.iconst 0, 1) := by decide +kernel
theorem dL_law_868 : decode cL_law 868 = .ok (.ireturn, 1) := by decide +kernel
theorem dL_law_869 : decode cL_law 869 = .ok (.iload 5, 2) := by decide +kernel
theorem dL_law_871 : decode cL_law 871 = .ok (.ifCond .ne 15, 3) := by decide +kernel
theorem dL_law_874 : decode cL_law 874 = .ok (.aload_n 3, 1) := by decide +kernel
theorem dL_law_875 : decode cL_law 875 = .ok (.iconst 0, 1) := by decide +kernel
theorem dL_law_876 : decode cL_law 876 = .ok (.laload, 1) := by decide +kernel
theorem dL_law_877 : decode cL_law 877 = .ok (.iload 6, 2) := by decide +kernel
theorem dL_law_879 : decode cL_law 879 = .ok (.i2l, 1) := by decide +kernel
theorem dL_law_880 : decode cL_law 880 = .ok (.lcmp, 1) := by decide +kernel
theorem dL_law_881 : decode cL_law 881 = .ok (.ifCond .eq 5, 3) := by decide +kernel
theorem dL_law_884 : decode cL_law 884 = .ok (.iconst 0, 1) := by decide +kernel
theorem dL_law_885 : decode cL_law 885 = .ok (.ireturn, 1) := by decide +kernel
theorem dL_law_886 : decode cL_law 886 = .ok (.goto 661, 3) := by decide +kernel
theorem dL_law_889 : decode cL_law 889 = .ok (.aload_n 1, 1) := by decide +kernel
theorem dL_law_890 : decode cL_law 890 = .ok (.aload_n 0, 1) := by decide +kernel
theorem dL_law_891 : decode cL_law 891 = .ok (.iload 4, 2) := by decide +kernel
theorem dL_law_893 : decode cL_law 893 = .ok (.iconst 1, 1) := by decide +kernel
theorem dL_law_894 : decode cL_law 894 = .ok (.iadd, 1) := by decide +kernel
theorem dL_law_895 : decode cL_law 895 = .ok (.iaload, 1) := by decide +kernel
theorem dL_law_896 : decode cL_law 896 = .ok (.aload_n 3, 1) := by decide +kernel
theorem dL_law_897 : decode cL_law 897 = .ok (.invokestatic 134, 3) := by decide +kernel
theorem dL_law_900 : decode cL_law 900 = .ok (.istore 5, 2) := by decide +kernel
theorem dL_law_902 : decode cL_law 902 = .ok (.aload_n 2, 1) := by decide +kernel
theorem dL_law_903 : decode cL_law 903 = .ok (.aload_n 0, 1) := by decide +kernel
theorem dL_law_904 : decode cL_law 904 = .ok (.iload 4, 2) := by decide +kernel
theorem dL_law_906 : decode cL_law 906 = .ok (.iconst 1, 1) := by decide +kernel
theorem dL_law_907 : decode cL_law 907 = .ok (.iadd, 1) := by decide +kernel
theorem dL_law_908 : decode cL_law 908 = .ok (.iaload, 1) := by decide +kernel
theorem dL_law_909 : decode cL_law 909 = .ok (.invokevirtual 136, 3) := by decide +kernel
theorem dL_law_912 : decode cL_law 912 = .ok (.istore 6, 2) := by decide +kernel
theorem dL_law_914 : decode cL_law 914 = .ok (.aload_n 2, 1) := by decide +kernel
theorem dL_law_915 : decode cL_law 915 = .ok (.invokevirtual 93, 3) := by decide +kernel
theorem dL_law_918 : decode cL_law 918 = .ok (.iload 5, 2) := by decide +kernel
theorem dL_law_920 : decode cL_law 920 = .ok (.if_icmp .eq 5, 3) := by decide +kernel
theorem dL_law_923 : decode cL_law 923 = .ok (.iconst 0, 1) := by decide +kernel
theorem dL_law_924 : decode cL_law 924 = .ok (.ireturn, 1) := by decide +kernel
theorem dL_law_925 : decode cL_law 925 = .ok (.iload 5, 2) := by decide +kernel
theorem dL_law_927 : decode cL_law 927 = .ok (.ifCond .ne 15, 3) := by decide +kernel
theorem dL_law_930 : decode cL_law 930 = .ok (.aload_n 3, 1) := by decide +kernel
theorem dL_law_931 : decode cL_law 931 = .ok (.iconst 0, 1) := by decide +kernel
theorem dL_law_932 : decode cL_law 932 = .ok (.laload, 1) := by decide +kernel
theorem dL_law_933 : decode cL_law 933 = .ok (.iload 6, 2) := by decide +kernel
theorem dL_law_935 : decode cL_law 935 = .ok (.i2l, 1) := by decide +kernel
theorem dL_law_936 : decode cL_law 936 = .ok (.lcmp, 1) := by decide +kernel
theorem dL_law_937 : decode cL_law 937 = .ok (.ifCond .eq 5, 3) := by decide +kernel
theorem dL_law_940 : decode cL_law 940 = .ok (.iconst 0, 1) := by decide +kernel
theorem dL_law_941 : decode cL_law 941 = .ok (.ireturn, 1) := by decide +kernel
theorem dL_law_942 : decode cL_law 942 = .ok (.goto 605, 3) := by decide +kernel
theorem dL_law_945 : decode cL_law 945 = .ok (.aload_n 1, 1) := by decide +kernel
theorem dL_law_946 : decode cL_law 946 = .ok (.aload_n 0, 1) := by decide +kernel
theorem dL_law_947 : decode cL_law 947 = .ok (.iload 4, 2) := by decide +kernel
theorem dL_law_949 : decode cL_law 949 = .ok (.iconst 1, 1) := by decide +kernel
theorem dL_law_950 : decode cL_law 950 = .ok (.iadd, 1) := by decide +kernel
theorem dL_law_951 : decode cL_law 951 = .ok (.iaload, 1) := by decide +kernel
theorem dL_law_952 : decode cL_law 952 = .ok (.aload_n 3, 1) := by decide +kernel
theorem dL_law_953 : decode cL_law 953 = .ok (.invokestatic 137, 3) := by decide +kernel
theorem dL_law_956 : decode cL_law 956 = .ok (.istore 5, 2) := by decide +kernel
theorem dL_law_958 : decode cL_law 958 = .ok (.aload_n 2, 1) := by decide +kernel
theorem dL_law_959 : decode cL_law 959 = .ok (.aload_n 0, 1) := by decide +kernel
theorem dL_law_960 : decode cL_law 960 = .ok (.iload 4, 2) := by decide +kernel
theorem dL_law_962 : decode cL_law 962 = .ok (.iconst 1, 1) := by decide +kernel
theorem dL_law_963 : decode cL_law 963 = .ok (.iadd, 1) := by decide +kernel
theorem dL_law_964 : decode cL_law 964 = .ok (.iaload, 1) := by decide +kernel
theorem dL_law_965 : decode cL_law 965 = .ok (.invokevirtual 139, 3) := by decide +kernel
theorem dL_law_968 : decode cL_law 968 = .ok (.istore 6, 2) := by decide +kernel
theorem dL_law_970 : decode cL_law 970 = .ok (.aload_n 2, 1) := by decide +kernel
theorem dL_law_971 : decode cL_law 971 = .ok (.invokevirtual 93, 3) := by decide +kernel
theorem dL_law_974 : decode cL_law 974 = .ok (.iload 5, 2) := by decide +kernel
theorem dL_law_976 : decode cL_law 976 = .ok (.if_icmp .eq 5, 3) := by decide +kernel
theorem dL_law_979 : decode cL_law 979 = .ok (.iconst 0, 1) := by decide +kernel
theorem dL_law_980 : decode cL_law 980 = .ok (.ireturn, 1) := by decide +kernel
theorem dL_law_981 : decode cL_law 981 = .ok (.iload 5, 2) := by decide +kernel
theorem dL_law_983 : decode cL_law 983 = .ok (.ifCond .ne 15, 3) := by decide +kernel
theorem dL_law_986 : decode cL_law 986 = .ok (.aload_n 3, 1) := by decide +kernel
theorem dL_law_987 : decode cL_law 987 = .ok (.iconst 0, 1) := by decide +kernel
theorem dL_law_988 : decode cL_law 988 = .ok (.laload, 1) := by decide +kernel
theorem dL_law_989 : decode cL_law 989 = .ok (.iload 6, 2) := by decide +kernel
theorem dL_law_991 : decode cL_law 991 = .ok (.i2l, 1) := by decide +kernel
theorem dL_law_992 : decode cL_law 992 = .ok (.lcmp, 1) := by decide +kernel
theorem dL_law_993 : decode cL_law 993 = .ok (.ifCond .eq 5, 3) := by decide +kernel
theorem dL_law_996 : decode cL_law 996 = .ok (.iconst 0, 1) := by decide +kernel
theorem dL_law_997 : decode cL_law 997 = .ok (.ireturn, 1) := by decide +kernel
theorem dL_law_998 : decode cL_law 998 = .ok (.goto 549, 3) := by decide +kernel
theorem dL_law_1001 : decode cL_law 1001 = .ok (.aload_n 1, 1) := by decide +kernel
theorem dL_law_1002 : decode cL_law 1002 = .ok (.aload_n 0, 1) := by decide +kernel
theorem dL_law_1003 : decode cL_law 1003 = .ok (.iload 4, 2) := by decide +kernel
theorem dL_law_1005 : decode cL_law 1005 = .ok (.iconst 1, 1) := by decide +kernel
theorem dL_law_1006 : decode cL_law 1006 = .ok (.iadd, 1) := by decide +kernel
theorem dL_law_1007 : decode cL_law 1007 = .ok (.iaload, 1) := by decide +kernel
theorem dL_law_1008 : decode cL_law 1008 = .ok (.aload_n 0, 1) := by decide +kernel
theorem dL_law_1009 : decode cL_law 1009 = .ok (.iload 4, 2) := by decide +kernel
theorem dL_law_1011 : decode cL_law 1011 = .ok (.iconst 2, 1) := by decide +kernel
theorem dL_law_1012 : decode cL_law 1012 = .ok (.iadd, 1) := by decide +kernel
theorem dL_law_1013 : decode cL_law 1013 = .ok (.iaload, 1) := by decide +kernel
theorem dL_law_1014 : decode cL_law 1014 = .ok (.aload_n 3, 1) := by decide +kernel
theorem dL_law_1015 : decode cL_law 1015 = .ok (.invokestatic 140, 3) := by decide +kernel
theorem dL_law_1018 : decode cL_law 1018 = .ok (.istore 5, 2) := by decide +kernel
theorem dL_law_1020 : decode cL_law 1020 = .ok (.aload_n 2, 1) := by decide +kernel
theorem dL_law_1021 : decode cL_law 1021 = .ok (.aload_n 0, 1) := by decide +kernel
theorem dL_law_1022 : decode cL_law 1022 = .ok (.iload 4, 2) := by decide +kernel
theorem dL_law_1024 : decode cL_law 1024 = .ok (.iconst 1, 1) := by decide +kernel
theorem dL_law_1025 : decode cL_law 1025 = .ok (.iadd, 1) := by decide +kernel
theorem dL_law_1026 : decode cL_law 1026 = .ok (.iaload, 1) := by decide +kernel
theorem dL_law_1027 : decode cL_law 1027 = .ok (.aload_n 0, 1) := by decide +kernel
theorem dL_law_1028 : decode cL_law 1028 = .ok (.iload 4, 2) := by decide +kernel
theorem dL_law_1030 : decode cL_law 1030 = .ok (.iconst 2, 1) := by decide +kernel
theorem dL_law_1031 : decode cL_law 1031 = .ok (.iadd, 1) := by decide +kernel
theorem dL_law_1032 : decode cL_law 1032 = .ok (.iaload, 1) := by decide +kernel
theorem dL_law_1033 : decode cL_law 1033 = .ok (.invokevirtual 142, 3) := by decide +kernel
theorem dL_law_1036 : decode cL_law 1036 = .ok (.istore 6, 2) := by decide +kernel
theorem dL_law_1038 : decode cL_law 1038 = .ok (.aload_n 2, 1) := by decide +kernel
theorem dL_law_1039 : decode cL_law 1039 = .ok (.invokevirtual 93, 3) := by decide +kernel
theorem dL_law_1042 : decode cL_law 1042 = .ok (.iload 5, 2) := by decide +kernel
theorem dL_law_1044 : decode cL_law 1044 = .ok (.if_icmp .eq 5, 3) := by decide +kernel
theorem dL_law_1047 : decode cL_law 1047 = .ok (.iconst 0, 1) := by decide +kernel
theorem dL_law_1048 : decode cL_law 1048 = .ok (.ireturn, 1) := by decide +kernel
theorem dL_law_1049 : decode cL_law 1049 = .ok (.iload 5, 2) := by decide +kernel
theorem dL_law_1051 : decode cL_law 1051 = .ok (.ifCond .ne 22, 3) := by decide +kernel
theorem dL_law_1054 : decode cL_law 1054 = .ok (.aload_n 3, 1) := by decide +kernel
theorem dL_law_1055 : decode cL_law 1055 = .ok (.iconst 0, 1) := by decide +kernel
theorem dL_law_1056 : decode cL_law 1056 = .ok (.laload, 1) := by decide +kernel
theorem dL_law_1057 : decode cL_law 1057 = .ok (.iload 6, 2) := by decide +kernel
theorem dL_law_1059 : decode cL_law 1059 = .ok (.ifCond .eq 7, 3) := by decide +kernel
theorem dL_law_1062 : decode cL_law 1062 = .ok (.lconst 1, 1) := by decide +kernel
theorem dL_law_1063 : decode cL_law 1063 = .ok (.goto 4, 3) := by decide +kernel
theorem dL_law_1066 : decode cL_law 1066 = .ok (.lconst 0, 1) := by decide +kernel
theorem dL_law_1067 : decode cL_law 1067 = .ok (.lcmp, 1) := by decide +kernel
theorem dL_law_1068 : decode cL_law 1068 = .ok (.ifCond .eq 5, 3) := by decide +kernel
theorem dL_law_1071 : decode cL_law 1071 = .ok (.iconst 0, 1) := by decide +kernel
theorem dL_law_1072 : decode cL_law 1072 = .ok (.ireturn, 1) := by decide +kernel
theorem dL_law_1073 : decode cL_law 1073 = .ok (.goto 474, 3) := by decide +kernel
theorem dL_law_1076 : decode cL_law 1076 = .ok (.aload_n 1, 1) := by decide +kernel
theorem dL_law_1077 : decode cL_law 1077 = .ok (.aload_n 0, 1) := by decide +kernel
theorem dL_law_1078 : decode cL_law 1078 = .ok (.iload 4, 2) := by decide +kernel
theorem dL_law_1080 : decode cL_law 1080 = .ok (.iconst 1, 1) := by decide +kernel
theorem dL_law_1081 : decode cL_law 1081 = .ok (.iadd, 1) := by decide +kernel
theorem dL_law_1082 : decode cL_law 1082 = .ok (.iaload, 1) := by decide +kernel
theorem dL_law_1083 : decode cL_law 1083 = .ok (.aload_n 0, 1) := by decide +kernel
theorem dL_law_1084 : decode cL_law 1084 = .ok (.iload 4, 2) := by decide +kernel
theorem dL_law_1086 : decode cL_law 1086 = .ok (.iconst 2, 1) := by decide +kernel
theorem dL_law_1087 : decode cL_law 1087 = .ok (.iadd, 1) := by decide +kernel
theorem dL_law_1088 : decode cL_law 1088 = .ok (.iaload, 1) := by decide +kernel
theorem dL_law_1089 : decode cL_law 1089 = .ok (.aload_n 3, 1) := by decide +kernel
theorem dL_law_1090 : decode cL_law 1090 = .ok (.invokestatic 143, 3) := by decide +kernel
theorem dL_law_1093 : decode cL_law 1093 = .ok (.istore 5, 2) := by decide +kernel
theorem dL_law_1095 : decode cL_law 1095 = .ok (.aload_n 2, 1) := by decide +kernel
theorem dL_law_1096 : decode cL_law 1096 = .ok (.aload_n 0, 1) := by decide +kernel
theorem dL_law_1097 : decode cL_law 1097 = .ok (.iload 4, 2) := by decide +kernel
theorem dL_law_1099 : decode cL_law 1099 = .ok (.iconst 1, 1) := by decide +kernel
theorem dL_law_1100 : decode cL_law 1100 = .ok (.iadd, 1) := by decide +kernel
theorem dL_law_1101 : decode cL_law 1101 = .ok (.iaload, 1) := by decide +kernel
theorem dL_law_1102 : decode cL_law 1102 = .ok (.aload_n 0, 1) := by decide +kernel
theorem dL_law_1103 : decode cL_law 1103 = .ok (.iload 4, 2) := by decide +kernel
theorem dL_law_1105 : decode cL_law 1105 = .ok (.iconst 2, 1) := by decide +kernel
theorem dL_law_1106 : decode cL_law 1106 = .ok (.iadd, 1) := by decide +kernel
theorem dL_law_1107 : decode cL_law 1107 = .ok (.iaload, 1) := by decide +kernel
theorem dL_law_1108 : decode cL_law 1108 = .ok (.invokevirtual 145, 3) := by decide +kernel
theorem dL_law_1111 : decode cL_law 1111 = .ok (.istore 6, 2) := by decide +kernel
theorem dL_law_1113 : decode cL_law 1113 = .ok (.aload_n 2, 1) := by decide +kernel
theorem dL_law_1114 : decode cL_law 1114 = .ok (.invokevirtual 93, 3) := by decide +kernel
theorem dL_law_1117 : decode cL_law 1117 = .ok (.iload 5, 2) := by decide +kernel
theorem dL_law_1119 : decode cL_law 1119 = .ok (.if_icmp .eq 5, 3) := by decide +kernel
theorem dL_law_1122 : decode cL_law 1122 = .ok (.iconst 0, 1) := by decide +kernel
theorem dL_law_1123 : decode cL_law 1123 = .ok (.ireturn, 1) := by decide +kernel
theorem dL_law_1124 : decode cL_law 1124 = .ok (.iload 5, 2) := by decide +kernel
theorem dL_law_1126 : decode cL_law 1126 = .ok (.ifCond .ne 22, 3) := by decide +kernel
theorem dL_law_1129 : decode cL_law 1129 = .ok (.aload_n 3, 1) := by decide +kernel
theorem dL_law_1130 : decode cL_law 1130 = .ok (.iconst 0, 1) := by decide +kernel
theorem dL_law_1131 : decode cL_law 1131 = .ok (.laload, 1) := by decide +kernel
theorem dL_law_1132 : decode cL_law 1132 = .ok (.iload 6, 2) := by decide +kernel
theorem dL_law_1134 : decode cL_law 1134 = .ok (.ifCond .eq 7, 3) := by decide +kernel
theorem dL_law_1137 : decode cL_law 1137 = .ok (.lconst 1, 1) := by decide +kernel
theorem dL_law_1138 : decode cL_law 1138 = .ok (.goto 4, 3) := by decide +kernel
theorem dL_law_1141 : decode cL_law 1141 = .ok (.lconst 0, 1) := by decide +kernel
theorem dL_law_1142 : decode cL_law 1142 = .ok (.lcmp, 1) := by decide +kernel
theorem dL_law_1143 : decode cL_law 1143 = .ok (.ifCond .eq 5, 3) := by decide +kernel
theorem dL_law_1146 : decode cL_law 1146 = .ok (.iconst 0, 1) := by decide +kernel
theorem dL_law_1147 : decode cL_law 1147 = .ok (.ireturn, 1) := by decide +kernel
theorem dL_law_1148 : decode cL_law 1148 = .ok (.goto 399, 3) := by decide +kernel
theorem dL_law_1151 : decode cL_law 1151 = .ok (.aload_n 1, 1) := by decide +kernel
theorem dL_law_1152 : decode cL_law 1152 = .ok (.aload_n 0, 1) := by decide +kernel
theorem dL_law_1153 : decode cL_law 1153 = .ok (.iload 4, 2) := by decide +kernel
theorem dL_law_1155 : decode cL_law 1155 = .ok (.iconst 1, 1) := by decide +kernel
theorem dL_law_1156 : decode cL_law 1156 = .ok (.iadd, 1) := by decide +kernel
theorem dL_law_1157 : decode cL_law 1157 = .ok (.iaload, 1) := by decide +kernel
theorem dL_law_1158 : decode cL_law 1158 = .ok (.aload_n 3, 1) := by decide +kernel
theorem dL_law_1159 : decode cL_law 1159 = .ok (.invokestatic 146, 3) := by decide +kernel
theorem dL_law_1162 : decode cL_law 1162 = .ok (.istore 5, 2) := by decide +kernel
theorem dL_law_1164 : decode cL_law 1164 = .ok (.aload_n 2, 1) := by decide +kernel
theorem dL_law_1165 : decode cL_law 1165 = .ok (.aload_n 0, 1) := by decide +kernel
theorem dL_law_1166 : decode cL_law 1166 = .ok (.iload 4, 2) := by decide +kernel
theorem dL_law_1168 : decode cL_law 1168 = .ok (.iconst 1, 1) := by decide +kernel
theorem dL_law_1169 : decode cL_law 1169 = .ok (.iadd, 1) := by decide +kernel
theorem dL_law_1170 : decode cL_law 1170 = .ok (.iaload, 1) := by decide +kernel
theorem dL_law_1171 : decode cL_law 1171 = .ok (.invokevirtual 148, 3) := by decide +kernel
theorem dL_law_1174 : decode cL_law 1174 = .ok (.istore 6, 2) := by decide +kernel
theorem dL_law_1176 : decode cL_law 1176 = .ok (.aload_n 2, 1) := by decide +kernel
theorem dL_law_1177 : decode cL_law 1177 = .ok (.invokevirtual 93, 3) := by decide +kernel
theorem dL_law_1180 : decode cL_law 1180 = .ok (.iload 5, 2) := by decide +kernel
theorem dL_law_1182 : decode cL_law 1182 = .ok (.if_icmp .eq 5, 3) := by decide +kernel
theorem dL_law_1185 : decode cL_law 1185 = .ok (.iconst 0, 1) := by decide +kernel
theorem dL_law_1186 : decode cL_law 1186 = .ok (.ireturn, 1) := by decide +kernel
theorem dL_law_1187 : decode cL_law 1187 = .ok (.iload 5, 2) := by decide +kernel
theorem dL_law_1189 : decode cL_law 1189 = .ok (.ifCond .ne 15, 3) := by decide +kernel
theorem dL_law_1192 : decode cL_law 1192 = .ok (.aload_n 3, 1) := by decide +kernel
theorem dL_law_1193 : decode cL_law 1193 = .ok (.iconst 0, 1) := by decide +kernel
theorem dL_law_1194 : decode cL_law 1194 = .ok (.laload, 1) := by decide +kernel
theorem dL_law_1195 : decode cL_law 1195 = .ok (.iload 6, 2) := by decide +kernel
theorem dL_law_1197 : decode cL_law 1197 = .ok (.i2l, 1) := by decide +kernel
theorem dL_law_1198 : decode cL_law 1198 = .ok (.lcmp, 1) := by decide +kernel
theorem dL_law_1199 : decode cL_law 1199 = .ok (.ifCond .eq 5, 3) := by decide +kernel
theorem dL_law_1202 : decode cL_law 1202 = .ok (.iconst 0, 1) := by decide +kernel
theorem dL_law_1203 : decode cL_law 1203 = .ok (.ireturn, 1) := by decide +kernel
theorem dL_law_1204 : decode cL_law 1204 = .ok (.goto 343, 3) := by decide +kernel
theorem dL_law_1207 : decode cL_law 1207 = .ok (.aload_n 1, 1) := by decide +kernel
theorem dL_law_1208 : decode cL_law 1208 = .ok (.aload_n 0, 1) := by decide +kernel
theorem dL_law_1209 : decode cL_law 1209 = .ok (.iload 4, 2) := by decide +kernel
theorem dL_law_1211 : decode cL_law 1211 = .ok (.iconst 1, 1) := by decide +kernel
theorem dL_law_1212 : decode cL_law 1212 = .ok (.iadd, 1) := by decide +kernel
theorem dL_law_1213 : decode cL_law 1213 = .ok (.iaload, 1) := by decide +kernel
theorem dL_law_1214 : decode cL_law 1214 = .ok (.aload_n 0, 1) := by decide +kernel
theorem dL_law_1215 : decode cL_law 1215 = .ok (.iload 4, 2) := by decide +kernel
theorem dL_law_1217 : decode cL_law 1217 = .ok (.iconst 2, 1) := by decide +kernel
theorem dL_law_1218 : decode cL_law 1218 = .ok (.iadd, 1) := by decide +kernel
theorem dL_law_1219 : decode cL_law 1219 = .ok (.iaload, 1) := by decide +kernel
theorem dL_law_1220 : decode cL_law 1220 = .ok (.aload_n 3, 1) := by decide +kernel
theorem dL_law_1221 : decode cL_law 1221 = .ok (.invokestatic 149, 3) := by decide +kernel
theorem dL_law_1224 : decode cL_law 1224 = .ok (.istore 5, 2) := by decide +kernel
theorem dL_law_1226 : decode cL_law 1226 = .ok (.aload_n 2, 1) := by decide +kernel
theorem dL_law_1227 : decode cL_law 1227 = .ok (.aload_n 0, 1) := by decide +kernel
theorem dL_law_1228 : decode cL_law 1228 = .ok (.iload 4, 2) := by decide +kernel
theorem dL_law_1230 : decode cL_law 1230 = .ok (.iconst 1, 1) := by decide +kernel
theorem dL_law_1231 : decode cL_law 1231 = .ok (.iadd, 1) := by decide +kernel
theorem dL_law_1232 : decode cL_law 1232 = .ok (.iaload, 1) := by decide +kernel
theorem dL_law_1233 : decode cL_law 1233 = .ok (.aload_n 0, 1) := by decide +kernel
theorem dL_law_1234 : decode cL_law 1234 = .ok (.iload 4, 2) := by decide +kernel
theorem dL_law_1236 : decode cL_law 1236 = .ok (.iconst 2, 1) := by decide +kernel
theorem dL_law_1237 : decode cL_law 1237 = .ok (.iadd, 1) := by decide +kernel
theorem dL_law_1238 : decode cL_law 1238 = .ok (.iaload, 1) := by decide +kernel
theorem dL_law_1239 : decode cL_law 1239 = .ok (.invokevirtual 151, 3) := by decide +kernel
theorem dL_law_1242 : decode cL_law 1242 = .ok (.istore 6, 2) := by decide +kernel
theorem dL_law_1244 : decode cL_law 1244 = .ok (.aload_n 2, 1) := by decide +kernel
theorem dL_law_1245 : decode cL_law 1245 = .ok (.invokevirtual 93, 3) := by decide +kernel
theorem dL_law_1248 : decode cL_law 1248 = .ok (.iload 5, 2) := by decide +kernel
theorem dL_law_1250 : decode cL_law 1250 = .ok (.if_icmp .eq 5, 3) := by decide +kernel
theorem dL_law_1253 : decode cL_law 1253 = .ok (.iconst 0, 1) := by decide +kernel
theorem dL_law_1254 : decode cL_law 1254 = .ok (.ireturn, 1) := by decide +kernel
theorem dL_law_1255 : decode cL_law 1255 = .ok (.iload 5, 2) := by decide +kernel
theorem dL_law_1257 : decode cL_law 1257 = .ok (.ifCond .ne 15, 3) := by decide +kernel
theorem dL_law_1260 : decode cL_law 1260 = .ok (.aload_n 3, 1) := by decide +kernel
theorem dL_law_1261 : decode cL_law 1261 = .ok (.iconst 0, 1) := by decide +kernel
theorem dL_law_1262 : decode cL_law 1262 = .ok (.laload, 1) := by decide +kernel
theorem dL_law_1263 : decode cL_law 1263 = .ok (.iload 6, 2) := by decide +kernel
theorem dL_law_1265 : decode cL_law 1265 = .ok (.i2l, 1) := by decide +kernel
theorem dL_law_1266 : decode cL_law 1266 = .ok (.lcmp, 1) := by decide +kernel
theorem dL_law_1267 : decode cL_law 1267 = .ok (.ifCond .eq 5, 3) := by decide +kernel
theorem dL_law_1270 : decode cL_law 1270 = .ok (.iconst 0, 1) := by decide +kernel
theorem dL_law_1271 : decode cL_law 1271 = .ok (.ireturn, 1) := by decide +kernel
theorem dL_law_1272 : decode cL_law 1272 = .ok (.goto 275, 3) := by decide +kernel
theorem dL_law_1275 : decode cL_law 1275 = .ok (.aload_n 1, 1) := by decide +kernel
theorem dL_law_1276 : decode cL_law 1276 = .ok (.aload_n 0, 1) := by decide +kernel
theorem dL_law_1277 : decode cL_law 1277 = .ok (.iload 4, 2) := by decide +kernel
theorem dL_law_1279 : decode cL_law 1279 = .ok (.iconst 1, 1) := by decide +kernel
theorem dL_law_1280 : decode cL_law 1280 = .ok (.iadd, 1) := by decide +kernel
theorem dL_law_1281 : decode cL_law 1281 = .ok (.iaload, 1) := by decide +kernel
theorem dL_law_1282 : decode cL_law 1282 = .ok (.aload_n 3, 1) := by decide +kernel
theorem dL_law_1283 : decode cL_law 1283 = .ok (.invokestatic 152, 3) := by decide +kernel
theorem dL_law_1286 : decode cL_law 1286 = .ok (.istore 5, 2) := by decide +kernel
theorem dL_law_1288 : decode cL_law 1288 = .ok (.aload_n 2, 1) := by decide +kernel
theorem dL_law_1289 : decode cL_law 1289 = .ok (.aload_n 0, 1) := by decide +kernel
theorem dL_law_1290 : decode cL_law 1290 = .ok (.iload 4, 2) := by decide +kernel
theorem dL_law_1292 : decode cL_law 1292 = .ok (.iconst 1, 1) := by decide +kernel
theorem dL_law_1293 : decode cL_law 1293 = .ok (.iadd, 1) := by decide +kernel
theorem dL_law_1294 : decode cL_law 1294 = .ok (.iaload, 1) := by decide +kernel
theorem dL_law_1295 : decode cL_law 1295 = .ok (.invokevirtual 154, 3) := by decide +kernel
theorem dL_law_1298 : decode cL_law 1298 = .ok (.istore 6, 2) := by decide +kernel
theorem dL_law_1300 : decode cL_law 1300 = .ok (.aload_n 2, 1) := by decide +kernel
theorem dL_law_1301 : decode cL_law 1301 = .ok (.invokevirtual 93, 3) := by decide +kernel
theorem dL_law_1304 : decode cL_law 1304 = .ok (.iload 5, 2) := by decide +kernel
theorem dL_law_1306 : decode cL_law 1306 = .ok (.if_icmp .eq 5, 3) := by decide +kernel
theorem dL_law_1309 : decode cL_law 1309 = .ok (.iconst 0, 1) := by decide +kernel
theorem dL_law_1310 : decode cL_law 1310 = .ok (.ireturn, 1) := by decide +kernel
theorem dL_law_1311 : decode cL_law 1311 = .ok (.iload 5, 2) := by decide +kernel
theorem dL_law_1313 : decode cL_law 1313 = .ok (.ifCond .ne 15, 3) := by decide +kernel
theorem dL_law_1316 : decode cL_law 1316 = .ok (.aload_n 3, 1) := by decide +kernel
theorem dL_law_1317 : decode cL_law 1317 = .ok (.iconst 0, 1) := by decide +kernel
theorem dL_law_1318 : decode cL_law 1318 = .ok (.laload, 1) := by decide +kernel
theorem dL_law_1319 : decode cL_law 1319 = .ok (.iload 6, 2) := by decide +kernel
theorem dL_law_1321 : decode cL_law 1321 = .ok (.i2l, 1) := by decide +kernel
theorem dL_law_1322 : decode cL_law 1322 = .ok (.lcmp, 1) := by decide +kernel
theorem dL_law_1323 : decode cL_law 1323 = .ok (.ifCond .eq 5, 3) := by decide +kernel
theorem dL_law_1326 : decode cL_law 1326 = .ok (.iconst 0, 1) := by decide +kernel
theorem dL_law_1327 : decode cL_law 1327 = .ok (.ireturn, 1) := by decide +kernel
theorem dL_law_1328 : decode cL_law 1328 = .ok (.goto 219, 3) := by decide +kernel
theorem dL_law_1331 : decode cL_law 1331 = .ok (.aload_n 1, 1) := by decide +kernel
theorem dL_law_1332 : decode cL_law 1332 = .ok (.aload_n 0, 1) := by decide +kernel
theorem dL_law_1333 : decode cL_law 1333 = .ok (.iload 4, 2) := by decide +kernel
theorem dL_law_1335 : decode cL_law 1335 = .ok (.iconst 1, 1) := by decide +kernel
theorem dL_law_1336 : decode cL_law 1336 = .ok (.iadd, 1) := by decide +kernel
theorem dL_law_1337 : decode cL_law 1337 = .ok (.iaload, 1) := by decide +kernel
theorem dL_law_1338 : decode cL_law 1338 = .ok (.aload_n 0, 1) := by decide +kernel
theorem dL_law_1339 : decode cL_law 1339 = .ok (.iload 4, 2) := by decide +kernel
theorem dL_law_1341 : decode cL_law 1341 = .ok (.iconst 2, 1) := by decide +kernel
theorem dL_law_1342 : decode cL_law 1342 = .ok (.iadd, 1) := by decide +kernel
theorem dL_law_1343 : decode cL_law 1343 = .ok (.iaload, 1) := by decide +kernel
theorem dL_law_1344 : decode cL_law 1344 = .ok (.aload_n 3, 1) := by decide +kernel
theorem dL_law_1345 : decode cL_law 1345 = .ok (.invokestatic 155, 3) := by decide +kernel
theorem dL_law_1348 : decode cL_law 1348 = .ok (.istore 5, 2) := by decide +kernel
theorem dL_law_1350 : decode cL_law 1350 = .ok (.aload_n 2, 1) := by decide +kernel
theorem dL_law_1351 : decode cL_law 1351 = .ok (.aload_n 0, 1) := by decide +kernel
theorem dL_law_1352 : decode cL_law 1352 = .ok (.iload 4, 2) := by decide +kernel
theorem dL_law_1354 : decode cL_law 1354 = .ok (.iconst 1, 1) := by decide +kernel
theorem dL_law_1355 : decode cL_law 1355 = .ok (.iadd, 1) := by decide +kernel
theorem dL_law_1356 : decode cL_law 1356 = .ok (.iaload, 1) := by decide +kernel
theorem dL_law_1357 : decode cL_law 1357 = .ok (.aload_n 0, 1) := by decide +kernel
theorem dL_law_1358 : decode cL_law 1358 = .ok (.iload 4, 2) := by decide +kernel
theorem dL_law_1360 : decode cL_law 1360 = .ok (.iconst 2, 1) := by decide +kernel
theorem dL_law_1361 : decode cL_law 1361 = .ok (.iadd, 1) := by decide +kernel
theorem dL_law_1362 : decode cL_law 1362 = .ok (.iaload, 1) := by decide +kernel
theorem dL_law_1363 : decode cL_law 1363 = .ok (.invokevirtual 157, 3) := by decide +kernel
theorem dL_law_1366 : decode cL_law 1366 = .ok (.istore 6, 2) := by decide +kernel
theorem dL_law_1368 : decode cL_law 1368 = .ok (.aload_n 2, 1) := by decide +kernel
theorem dL_law_1369 : decode cL_law 1369 = .ok (.invokevirtual 93, 3) := by decide +kernel
theorem dL_law_1372 : decode cL_law 1372 = .ok (.iload 5, 2) := by decide +kernel
theorem dL_law_1374 : decode cL_law 1374 = .ok (.if_icmp .eq 5, 3) := by decide +kernel
theorem dL_law_1377 : decode cL_law 1377 = .ok (.iconst 0, 1) := by decide +kernel
theorem dL_law_1378 : decode cL_law 1378 = .ok (.ireturn, 1) := by decide +kernel
theorem dL_law_1379 : decode cL_law 1379 = .ok (.iload 5, 2) := by decide +kernel
theorem dL_law_1381 : decode cL_law 1381 = .ok (.ifCond .ne 15, 3) := by decide +kernel
theorem dL_law_1384 : decode cL_law 1384 = .ok (.aload_n 3, 1) := by decide +kernel
theorem dL_law_1385 : decode cL_law 1385 = .ok (.iconst 0, 1) := by decide +kernel
theorem dL_law_1386 : decode cL_law 1386 = .ok (.laload, 1) := by decide +kernel
theorem dL_law_1387 : decode cL_law 1387 = .ok (.iload 6, 2) := by decide +kernel
theorem dL_law_1389 : decode cL_law 1389 = .ok (.i2l, 1) := by decide +kernel
theorem dL_law_1390 : decode cL_law 1390 = .ok (.lcmp, 1) := by decide +kernel
theorem dL_law_1391 : decode cL_law 1391 = .ok (.ifCond .eq 5, 3) := by decide +kernel
theorem dL_law_1394 : decode cL_law 1394 = .ok (.iconst 0, 1) := by decide +kernel
theorem dL_law_1395 : decode cL_law 1395 = .ok (.ireturn, 1) := by decide +kernel
theorem dL_law_1396 : decode cL_law 1396 = .ok (.goto 151, 3) := by decide +kernel
theorem dL_law_1399 : decode cL_law 1399 = .ok (.aload_n 1, 1) := by decide +kernel
theorem dL_law_1400 : decode cL_law 1400 = .ok (.aload_n 0, 1) := by decide +kernel
theorem dL_law_1401 : decode cL_law 1401 = .ok (.iload 4, 2) := by decide +kernel
theorem dL_law_1403 : decode cL_law 1403 = .ok (.iconst 1, 1) := by decide +kernel
theorem dL_law_1404 : decode cL_law 1404 = .ok (.iadd, 1) := by decide +kernel
theorem dL_law_1405 : decode cL_law 1405 = .ok (.iaload, 1) := by decide +kernel
theorem dL_law_1406 : decode cL_law 1406 = .ok (.aload_n 0, 1) := by decide +kernel
theorem dL_law_1407 : decode cL_law 1407 = .ok (.iload 4, 2) := by decide +kernel
theorem dL_law_1409 : decode cL_law 1409 = .ok (.iconst 2, 1) := by decide +kernel
theorem dL_law_1410 : decode cL_law 1410 = .ok (.iadd, 1) := by decide +kernel
theorem dL_law_1411 : decode cL_law 1411 = .ok (.iaload, 1) := by decide +kernel
theorem dL_law_1412 : decode cL_law 1412 = .ok (.aload_n 0, 1) := by decide +kernel
theorem dL_law_1413 : decode cL_law 1413 = .ok (.iload 4, 2) := by decide +kernel
theorem dL_law_1415 : decode cL_law 1415 = .ok (.iconst 3, 1) := by decide +kernel
theorem dL_law_1416 : decode cL_law 1416 = .ok (.iadd, 1) := by decide +kernel
theorem dL_law_1417 : decode cL_law 1417 = .ok (.iaload, 1) := by decide +kernel
theorem dL_law_1418 : decode cL_law 1418 = .ok (.aload_n 3, 1) := by decide +kernel
theorem dL_law_1419 : decode cL_law 1419 = .ok (.invokestatic 158, 3) := by decide +kernel
theorem dL_law_1422 : decode cL_law 1422 = .ok (.istore 5, 2) := by decide +kernel
theorem dL_law_1424 : decode cL_law 1424 = .ok (.aload_n 2, 1) := by decide +kernel
theorem dL_law_1425 : decode cL_law 1425 = .ok (.aload_n 0, 1) := by decide +kernel
theorem dL_law_1426 : decode cL_law 1426 = .ok (.iload 4, 2) := by decide +kernel
theorem dL_law_1428 : decode cL_law 1428 = .ok (.iconst 1, 1) := by decide +kernel
theorem dL_law_1429 : decode cL_law 1429 = .ok (.iadd, 1) := by decide +kernel
theorem dL_law_1430 : decode cL_law 1430 = .ok (.iaload, 1) := by decide +kernel
theorem dL_law_1431 : decode cL_law 1431 = .ok (.aload_n 0, 1) := by decide +kernel
theorem dL_law_1432 : decode cL_law 1432 = .ok (.iload 4, 2) := by decide +kernel
theorem dL_law_1434 : decode cL_law 1434 = .ok (.iconst 2, 1) := by decide +kernel
theorem dL_law_1435 : decode cL_law 1435 = .ok (.iadd, 1) := by decide +kernel
theorem dL_law_1436 : decode cL_law 1436 = .ok (.iaload, 1) := by decide +kernel
theorem dL_law_1437 : decode cL_law 1437 = .ok (.aload_n 0, 1) := by decide +kernel
theorem dL_law_1438 : decode cL_law 1438 = .ok (.iload 4, 2) := by decide +kernel
theorem dL_law_1440 : decode cL_law 1440 = .ok (.iconst 3, 1) := by decide +kernel
theorem dL_law_1441 : decode cL_law 1441 = .ok (.iadd, 1) := by decide +kernel
theorem dL_law_1442 : decode cL_law 1442 = .ok (.iaload, 1) := by decide +kernel
theorem dL_law_1443 : decode cL_law 1443 = .ok (.invokevirtual 160, 3) := by decide +kernel
theorem dL_law_1446 : decode cL_law 1446 = .ok (.istore 6, 2) := by decide +kernel
theorem dL_law_1448 : decode cL_law 1448 = .ok (.aload_n 2, 1) := by decide +kernel
theorem dL_law_1449 : decode cL_law 1449 = .ok (.invokevirtual 93, 3) := by decide +kernel
theorem dL_law_1452 : decode cL_law 1452 = .ok (.iload 5, 2) := by decide +kernel
theorem dL_law_1454 : decode cL_law 1454 = .ok (.if_icmp .eq 5, 3) := by decide +kernel
theorem dL_law_1457 : decode cL_law 1457 = .ok (.iconst 0, 1) := by decide +kernel
theorem dL_law_1458 : decode cL_law 1458 = .ok (.ireturn, 1) := by decide +kernel
theorem dL_law_1459 : decode cL_law 1459 = .ok (.iload 5, 2) := by decide +kernel
theorem dL_law_1461 : decode cL_law 1461 = .ok (.ifCond .ne 15, 3) := by decide +kernel
theorem dL_law_1464 : decode cL_law 1464 = .ok (.aload_n 3, 1) := by decide +kernel
theorem dL_law_1465 : decode cL_law 1465 = .ok (.iconst 0, 1) := by decide +kernel
theorem dL_law_1466 : decode cL_law 1466 = .ok (.laload, 1) := by decide +kernel
theorem dL_law_1467 : decode cL_law 1467 = .ok (.iload 6, 2) := by decide +kernel
theorem dL_law_1469 : decode cL_law 1469 = .ok (.i2l, 1) := by decide +kernel
theorem dL_law_1470 : decode cL_law 1470 = .ok (.lcmp, 1) := by decide +kernel
theorem dL_law_1471 : decode cL_law 1471 = .ok (.ifCond .eq 5, 3) := by decide +kernel
theorem dL_law_1474 : decode cL_law 1474 = .ok (.iconst 0, 1) := by decide +kernel
theorem dL_law_1475 : decode cL_law 1475 = .ok (.ireturn, 1) := by decide +kernel
theorem dL_law_1476 : decode cL_law 1476 = .ok (.goto 71, 3) := by decide +kernel
theorem dL_law_1479 : decode cL_law 1479 = .ok (.aload_n 1, 1) := by decide +kernel
theorem dL_law_1480 : decode cL_law 1480 = .ok (.aload_n 0, 1) := by decide +kernel
theorem dL_law_1481 : decode cL_law 1481 = .ok (.iload 4, 2) := by decide +kernel
theorem dL_law_1483 : decode cL_law 1483 = .ok (.iconst 1, 1) := by decide +kernel
theorem dL_law_1484 : decode cL_law 1484 = .ok (.iadd, 1) := by decide +kernel
theorem dL_law_1485 : decode cL_law 1485 = .ok (.iaload, 1) := by decide +kernel
theorem dL_law_1486 : decode cL_law 1486 = .ok (.aload_n 0, 1) := by decide +kernel
theorem dL_law_1487 : decode cL_law 1487 = .ok (.iload 4, 2) := by decide +kernel
theorem dL_law_1489 : decode cL_law 1489 = .ok (.iconst 2, 1) := by decide +kernel
theorem dL_law_1490 : decode cL_law 1490 = .ok (.iadd, 1) := by decide +kernel
theorem dL_law_1491 : decode cL_law 1491 = .ok (.iaload, 1) := by decide +kernel
theorem dL_law_1492 : decode cL_law 1492 = .ok (.aload_n 3, 1) := by decide +kernel
theorem dL_law_1493 : decode cL_law 1493 = .ok (.invokestatic 161, 3) := by decide +kernel
theorem dL_law_1496 : decode cL_law 1496 = .ok (.istore 5, 2) := by decide +kernel
theorem dL_law_1498 : decode cL_law 1498 = .ok (.aload_n 2, 1) := by decide +kernel
theorem dL_law_1499 : decode cL_law 1499 = .ok (.aload_n 0, 1) := by decide +kernel
theorem dL_law_1500 : decode cL_law 1500 = .ok (.iload 4, 2) := by decide +kernel
theorem dL_law_1502 : decode cL_law 1502 = .ok (.iconst 1, 1) := by decide +kernel
theorem dL_law_1503 : decode cL_law 1503 = .ok (.iadd, 1) := by decide +kernel
theorem dL_law_1504 : decode cL_law 1504 = .ok (.iaload, 1) := by decide +kernel
theorem dL_law_1505 : decode cL_law 1505 = .ok (.aload_n 0, 1) := by decide +kernel
theorem dL_law_1506 : decode cL_law 1506 = .ok (.iload 4, 2) := by decide +kernel
theorem dL_law_1508 : decode cL_law 1508 = .ok (.iconst 2, 1) := by decide +kernel
theorem dL_law_1509 : decode cL_law 1509 = .ok (.iadd, 1) := by decide +kernel
theorem dL_law_1510 : decode cL_law 1510 = .ok (.iaload, 1) := by decide +kernel
theorem dL_law_1511 : decode cL_law 1511 = .ok (.invokevirtual 163, 3) := by decide +kernel
theorem dL_law_1514 : decode cL_law 1514 = .ok (.istore 6, 2) := by decide +kernel
theorem dL_law_1516 : decode cL_law 1516 = .ok (.aload_n 2, 1) := by decide +kernel
theorem dL_law_1517 : decode cL_law 1517 = .ok (.invokevirtual 93, 3) := by decide +kernel
theorem dL_law_1520 : decode cL_law 1520 = .ok (.iload 5, 2) := by decide +kernel
theorem dL_law_1522 : decode cL_law 1522 = .ok (.if_icmp .eq 5, 3) := by decide +kernel
theorem dL_law_1525 : decode cL_law 1525 = .ok (.iconst 0, 1) := by decide +kernel
theorem dL_law_1526 : decode cL_law 1526 = .ok (.ireturn, 1) := by decide +kernel
theorem dL_law_1527 : decode cL_law 1527 = .ok (.iload 5, 2) := by decide +kernel
theorem dL_law_1529 : decode cL_law 1529 = .ok (.ifCond .ne 15, 3) := by decide +kernel
theorem dL_law_1532 : decode cL_law 1532 = .ok (.aload_n 3, 1) := by decide +kernel
theorem dL_law_1533 : decode cL_law 1533 = .ok (.iconst 0, 1) := by decide +kernel
theorem dL_law_1534 : decode cL_law 1534 = .ok (.laload, 1) := by decide +kernel
theorem dL_law_1535 : decode cL_law 1535 = .ok (.iload 6, 2) := by decide +kernel
theorem dL_law_1537 : decode cL_law 1537 = .ok (.i2l, 1) := by decide +kernel
theorem dL_law_1538 : decode cL_law 1538 = .ok (.lcmp, 1) := by decide +kernel
theorem dL_law_1539 : decode cL_law 1539 = .ok (.ifCond .eq 5, 3) := by decide +kernel
theorem dL_law_1542 : decode cL_law 1542 = .ok (.iconst 0, 1) := by decide +kernel
theorem dL_law_1543 : decode cL_law 1543 = .ok (.ireturn, 1) := by decide +kernel
theorem dL_law_1544 : decode cL_law 1544 = .ok (.goto 3, 3) := by decide +kernel
theorem dL_law_1547 : decode cL_law 1547 = .ok (.iinc 4 5, 3) := by decide +kernel
theorem dL_law_1550 : decode cL_law 1550 = .ok (.goto (-1527), 3) := by decide +kernel
theorem dL_law_1553 : decode cL_law 1553 = .ok (.iconst 1, 1) := by decide +kernel
theorem dL_law_1554 : decode cL_law 1554 = .ok (.ireturn, 1) := by decide +kernel
abbrev vwCl : List vw_C := [(RX0, TX0, 3), (RX1, TX1, 5), (RX2, TX2, 7), (RX3, TX3, 3), (RX4, TX4, 13)]
end
section
/-! numbers and rows of this claim: an int is a number (nI), a truth (bI), a number or none (eP), or itself -/
def bI (b : Bool) : Int32 := if b = true then 1 else 0
def eP (o : Option Nat) : Int32 := match o with
  | none => -1
  | some j => nI j
theorem bI_0 {b : Bool} (h : bI b = 0) : b = false := by
  cases b
  · rfl
  · exact absurd h (by decide)
theorem bI_1 {b : Bool} (h : ¬ bI b = 0) : b = true := by
  cases b
  · exact absurd rfl h
  · rfl
theorem bI_inj {a b : Bool} : bI a = bI b ↔ a = b := by
  refine ⟨fun h => ?_, fun h => by rw [h]⟩
  cases a <;> cases b <;> first | rfl | exact absurd h (by decide)
theorem bI_nar (b : Bool) : vp_nar .boolean (bI b) = bI b := by cases b <;> decide
theorem bI_narrow (b : Bool) : narrow .boolean (.int (bI b)) = .int (bI b) := by cases b <;> decide
theorem bI_fits (b : Bool) : fits .boolean (.int (bI b)) = true := by cases b <;> decide
theorem eP_m1 {j : Nat} (h : j < 2 ^ 31) : ¬ nI j = -1 := by
  intro e
  have h1 := congrArg Int32.toInt e
  rw [nI_toInt h] at h1
  have h2 : (-1 : Int32).toInt = -1 := by decide
  omega
theorem eP_none {o : Option Nat} (hb : ∀ j, o = some j → j < 2 ^ 31) (h : eP o = -1) : o = none := by
  cases o with
  | none => rfl
  | some j => exact absurd h (eP_m1 (hb j rfl))
theorem eP_inj {a b : Option Nat} (ha : ∀ j, a = some j → j < 2 ^ 31) (hb : ∀ j, b = some j → j < 2 ^ 31) : eP a = eP b ↔ a = b := by
  refine ⟨fun h => ?_, fun h => by rw [h]⟩
  cases a with
  | none => exact (eP_none hb h.symm).symm
  | some i =>
    cases b with
    | none => exact absurd h (eP_m1 (ha i rfl))
    | some j => rw [(nI_eq (ha i rfl) (hb j rfl)).mp h]
theorem up_b (f : Nat → Bool) (j : Nat) (b : Bool) : upd (fun k => bI (f k)) j (bI b) = fun k => bI (va_up f j b k) := by
  funext q
  by_cases h : q = j <;> simp [upd, va_up, h]
theorem up_n (f : Nat → Nat) (j v : Nat) : upd (fun k => nI (f k)) j (nI v) = fun k => nI (va_up f j v k) := by
  funext q
  by_cases h : q = j <;> simp [upd, va_up, h]
theorem up_p (f : Nat → Option Nat) (j : Nat) (v : Option Nat) : upd (fun k => eP (f k)) j (eP v) = fun k => eP (va_up f j v k) := by
  funext q
  by_cases h : q = j <;> simp [upd, va_up, h]
theorem up_i (f : Nat → Int32) (j : Nat) (v : Int32) : upd f j v = va_up f j v := rfl
theorem lv_re {ls : Array Slot} {nL : Nat} {f : Int32 → List (Nat × Value)} {x y : Int32} (h : lv_has ls nL (f x)) (e : x = y) : lv_has ls nL (f y) := e ▸ h
/-- the array classes of this claim: int, boolean, stores, long -/
abbrev tyA (ct : Nat → ClassId) : List (ClassId × FieldType) := [(ct 0, .int), (ct 1, .boolean), (ct 2, .object "RevisionStores$Store"), (ct 3, .long)]
def nWs : List Cond := [.methodLinkNest "RevisionStores" 9 ⟨"RevisionStores$Tree", "<init>", "()V"⟩ "RevisionStores", .methodLinkNest "RevisionStores" 29 ⟨"RevisionStores$Store", "<init>", "()V"⟩ "RevisionStores", .fieldLinkNest "RevisionStores" 63 "RevisionStores$Tree" "deletions" "[Z" "RevisionStores", .fieldLinkNest "RevisionStores" 74 "RevisionStores$Store" "depth" "I" "RevisionStores", .fieldLinkNest "RevisionStores" 78 "RevisionStores$Store" "holding" "LRevisionStores$Holding;" "RevisionStores", .fieldLinkNest "RevisionStores" 111 "RevisionStores$Store" "changes" "[I" "RevisionStores", .fieldLinkNest "RevisionStores" 115 "RevisionStores$Store" "latest" "I" "RevisionStores", .fieldLinkNest "RevisionStores" 118 "RevisionStores$Store" "checkpoints" "[I" "RevisionStores", .fieldLinkNest "RevisionStores" 127 "RevisionStores$Tree" "made" "I" "RevisionStores", .fieldLinkNest "RevisionStores" 130 "RevisionStores$Tree" "documents" "[I" "RevisionStores", .fieldLinkNest "RevisionStores" 133 "RevisionStores$Tree" "parents" "[I" "RevisionStores", .fieldLinkNest "RevisionStores" 136 "RevisionStores$Tree" "generations" "[I" "RevisionStores", .fieldLinkNest "RevisionStores" 139 "RevisionStores$Tree" "sums" "[I" "RevisionStores", .fieldLinkNest "RevisionStores" 142 "RevisionStores$Tree" "values" "[I" "RevisionStores", .fieldLinkNest "RevisionStores" 145 "RevisionStores$Holding" "held" "[Z" "RevisionStores", .fieldLinkNest "RevisionStores" 152 "RevisionStores$Holding" "winners" "[I" "RevisionStores", .fieldLinkNest "RevisionStores$Holding" 35 "RevisionStores$Tree" "made" "I" "RevisionStores", .fieldLinkNest "RevisionStores$Holding" 41 "RevisionStores$Tree" "parents" "[I" "RevisionStores", .fieldLinkNest "RevisionStores$Holding" 48 "RevisionStores$Tree" "generations" "[I" "RevisionStores", .fieldLinkNest "RevisionStores$Holding" 57 "RevisionStores$Tree" "documents" "[I" "RevisionStores", .fieldLinkNest "RevisionStores$Holding" 71 "RevisionStores$Tree" "deletions" "[Z" "RevisionStores", .fieldLinkNest "RevisionStores$Holding" 74 "RevisionStores$Tree" "values" "[I" "RevisionStores", .fieldLinkNest "RevisionStores$Store" 32 "RevisionStores$Holding" "held" "[Z" "RevisionStores", .fieldLinkNest "RevisionStores$Store" 36 "RevisionStores$Tree" "documents" "[I" "RevisionStores"]
def isNest : Cond → Bool
  | .fieldLinkNest .. => true
  | .methodLinkNest .. => true
  | _ => false
def nW (U : State) : Prop := ∀ w ∈ nWs, va_Nw w U
theorem nWs_nest : ∀ w ∈ nWs, isNest w = true := by decide
theorem nest_warm {w : Cond} (hn : isNest w = true) {s U : State} (hW : s.WarmedH U.vm) (h : va_Nw w s) : va_Nw w U := by
  cases w <;> first | exact va_Nw.warmF hW h | exact va_Nw.warmM hW h | exact absurd hn (by simp [isNest])
theorem nest_same {w : Cond} (hn : isNest w = true) {s U : State} (hv : s.vm = U.vm) (h : va_Nw w s) : va_Nw w U := by
  cases w <;> first | exact va_Nw.same rfl hv h | exact absurd hn (by simp [isNest])
theorem nW.warm {s U : State} (hW : s.WarmedH U.vm) (h : nW s) : nW U := fun w hw => nest_warm (nWs_nest w hw) hW (h w hw)
theorem nW.same {s U : State} (hv : s.vm = U.vm) (h : nW s) : nW U := fun w hw => nest_same (nWs_nest w hw) hv (h w hw)
abbrev KK (D : va_G) (ct : Nat → ClassId) (U : State) : Prop := va_K D vwCl (tyA ct) U ∧ nW U
theorem KK.warm {D : va_G} {ct : Nat → ClassId} {s U : State} (hW : s.WarmedH U.vm) (h : KK D ct s) : KK D ct U := ⟨va_K.moved hW.alike h.1, h.2.warm hW⟩
theorem KK.call {D : va_G} {ct : Nat → ClassId} {U : State} {g : JFrame} {mk : MethodId} {a : Array Value} (h : KK D ct U) : KK D ct (U.calling g mk a) := ⟨va_K.moved (u := U) (U := U.calling g mk a) (Vm.Alike.refl U.vm) h.1, nW.same (s := U) (U := U.calling g mk a) rfl h.2⟩
section RWS
variable {p : Program} {l : Launch} {e : Env} {R : Room} {s : State} {m : MethodId} {args : Array Value} {below : List Frame} {meth : Method} {c : Code} {H : Heap} {locs : List Loc} {cells slots : Nat} {Q : State → Prop}
variable {cc : ByteArray} {pc : Nat} {ls : Array Slot} {rest : List Value} {D : va_G} {cl : List vw_C} {A : Nat → Prop} {a : Nat} {tys : List (ClassId × FieldType)} {ws : va_W} {H0 : Heap}
theorem r_top {x y : Int32} (h : x = y) (k : W p l e R s m args below meth c H locs cells slots Q (F0 m pc ls (.int y :: rest))) : W p l e R s m args below meth c H locs cells slots Q (F0 m pc ls (.int x :: rest)) := h ▸ k
theorem r_topZ {x y : Int32} {v : Value} (h : x = y) (k : W p l e R s m args below meth c H locs cells slots Q (F0 m pc ls (v :: .int y :: rest))) : W p l e R s m args below meth c H locs cells slots Q (F0 m pc ls (v :: .int x :: rest)) := h ▸ k
theorem r_iald (hexec : p.tables.exec = Jvm.exec) (hb : c.code = cc) (hK : va_K D cl tys s) (hP : va_P D cl ws H) (q0 t0 : Nat) {cA : ClassId} {n : Nat} {f : Nat → Int32} (ha : ws[q0]? = some (a, .inl (cA, n, .inl f))) (ht : tys[t0]? = some (cA, .int)) {j : Nat} (hj : j < n) (hn : n < 2 ^ 31) {v : Int32} (hv : f j = v) (hdg : decode cc pc = .ok (.iaload, 1))
    (kk : W p l e R s m args below meth c H locs cells slots Q (F0 m (pc + 1) ls (.int v :: rest))) : W p l e R s m args below meth c H locs cells slots Q (F0 m pc ls (.int (nI j) :: .ref a :: rest)) :=
  va_iald hexec hb hK hP q0 t0 ha ht (vp_in_nI hj hn) hdg (by rw [nI_clamp (by omega), hv]; exact kk)
theorem r_zald (hexec : p.tables.exec = Jvm.exec) (hb : c.code = cc) (hK : va_K D cl tys s) (hP : va_P D cl ws H) (q0 t0 : Nat) {cA : ClassId} {n : Nat} {f : Nat → Int32} (ha : ws[q0]? = some (a, .inl (cA, n, .inl f))) (ht : tys[t0]? = some (cA, .boolean)) {j : Nat} (hj : j < n) (hn : n < 2 ^ 31) {v : Int32} (hv : f j = v) (hdg : decode cc pc = .ok (.baload, 1))
    (kk : W p l e R s m args below meth c H locs cells slots Q (F0 m (pc + 1) ls (.int v :: rest))) : W p l e R s m args below meth c H locs cells slots Q (F0 m pc ls (.int (nI j) :: .ref a :: rest)) :=
  va_zald hexec hb hK hP q0 t0 ha ht (vp_in_nI hj hn) hdg (by rw [nI_clamp (by omega), hv]; exact kk)
theorem r_iast (hexec : p.tables.exec = Jvm.exec) (hb : c.code = cc) (hK : va_K D cl tys s) (hP : va_P D cl ws H) (hD : va_D A ws) (hS : va_S A H0 H locs) (q0 t0 : Nat) {cA : ClassId} {n : Nat} {f : Nat → Int32} (ha : ws[q0]? = some (a, .inl (cA, n, .inl f))) (ht : tys[t0]? = some (cA, .int)) {j : Nat} {x : Int32} (hj : j < n) (hn : n < 2 ^ 31) {f' : Nat → Int32} (hv : upd f j x = f') (hdg : decode cc pc = .ok (.iastore, 1))
    (kk : ∀ (H1 : Heap) (locs1 : List Loc), va_P D cl (ws.set q0 (a, .inl (cA, n, .inl f'))) H1 → va_D A (ws.set q0 (a, .inl (cA, n, .inl f'))) → va_S A H0 H1 locs1 → W p l e R s m args below meth c H1 locs1 cells slots Q (F0 m (pc + 1) ls rest)) : W p l e R s m args below meth c H locs cells slots Q (F0 m pc ls (.int x :: .int (nI j) :: .ref a :: rest)) := by
  subst hv
  refine va_iast hexec hb hK hP hD hS q0 t0 ha ht (vp_in_nI hj hn) hdg ?_
  rw [nI_clamp (by omega)]
  exact kk
theorem r_zast (hexec : p.tables.exec = Jvm.exec) (hb : c.code = cc) (hK : va_K D cl tys s) (hP : va_P D cl ws H) (hD : va_D A ws) (hS : va_S A H0 H locs) (q0 t0 : Nat) {cA : ClassId} {n : Nat} {f : Nat → Int32} (ha : ws[q0]? = some (a, .inl (cA, n, .inl f))) (ht : tys[t0]? = some (cA, .boolean)) {j : Nat} {x : Bool} (hj : j < n) (hn : n < 2 ^ 31) {f' : Nat → Int32} (hv : upd f j (bI x) = f') (hdg : decode cc pc = .ok (.bastore, 1))
    (kk : ∀ (H1 : Heap) (locs1 : List Loc), va_P D cl (ws.set q0 (a, .inl (cA, n, .inl f'))) H1 → va_D A (ws.set q0 (a, .inl (cA, n, .inl f'))) → va_S A H0 H1 locs1 → W p l e R s m args below meth c H1 locs1 cells slots Q (F0 m (pc + 1) ls rest)) : W p l e R s m args below meth c H locs cells slots Q (F0 m pc ls (.int (bI x) :: .int (nI j) :: .ref a :: rest)) := by
  subst hv
  refine va_zast hexec hb hK hP hD hS q0 t0 ha ht (vp_in_nI hj hn) hdg ?_
  rw [nI_clamp (by omega), bI_nar]
  exact kk
theorem r_iaddN (hexec : p.tables.exec = Jvm.exec) (hb : c.code = cc) {x y : Nat} (hdg : decode cc pc = .ok (.iadd, 1))
    (kk : W p l e R s m args below meth c H locs cells slots Q (F0 m (pc + 1) ls (.int (nI (x + y)) :: rest))) : W p l e R s m args below meth c H locs cells slots Q (F0 m pc ls (.int (nI y) :: .int (nI x) :: rest)) :=
  lv_iadd hexec hb hdg (by rw [nI_add]; exact kk)
theorem r_imulN (hexec : p.tables.exec = Jvm.exec) (hb : c.code = cc) {x y : Nat} (hdg : decode cc pc = .ok (.imul, 1))
    (kk : W p l e R s m args below meth c H locs cells slots Q (F0 m (pc + 1) ls (.int (nI (x * y)) :: rest))) : W p l e R s m args below meth c H locs cells slots Q (F0 m pc ls (.int (nI y) :: .int (nI x) :: rest)) :=
  lv_imul hexec hb hdg (by rw [pk_mul]; exact kk)
theorem r_if_eqB (hexec : p.tables.exec = Jvm.exec) (hb : c.code = cc) {x : Bool} {off : Int} {tgt : Nat} (hdg : decode cc pc = .ok (.ifCond .eq off, 3)) (ht : (pc : Int) + off = (tgt : Int))
    (kt : x = false → W p l e R s m args below meth c H locs cells slots Q (F0 m tgt ls rest)) (kf : x = true → W p l e R s m args below meth c H locs cells slots Q (F0 m (pc + 3) ls rest)) : W p l e R s m args below meth c H locs cells slots Q (F0 m pc ls (.int (bI x) :: rest)) :=
  lv_if_eq hexec hb hdg ht (fun h => kt (bI_0 h)) (fun h => kf (bI_1 h))
theorem r_if_neB (hexec : p.tables.exec = Jvm.exec) (hb : c.code = cc) {x : Bool} {off : Int} {tgt : Nat} (hdg : decode cc pc = .ok (.ifCond .ne off, 3)) (ht : (pc : Int) + off = (tgt : Int))
    (kt : x = true → W p l e R s m args below meth c H locs cells slots Q (F0 m tgt ls rest)) (kf : x = false → W p l e R s m args below meth c H locs cells slots Q (F0 m (pc + 3) ls rest)) : W p l e R s m args below meth c H locs cells slots Q (F0 m pc ls (.int (bI x) :: rest)) :=
  lv_if_ne hexec hb hdg ht (fun h => kt (bI_1 h)) (fun h => kf (bI_0 h))
theorem r_if_leN (hexec : p.tables.exec = Jvm.exec) (hb : c.code = cc) {x : Nat} (hx : x < 2 ^ 31) {off : Int} {tgt : Nat} (hdg : decode cc pc = .ok (.ifCond .le off, 3)) (ht : (pc : Int) + off = (tgt : Int))
    (kt : x = 0 → W p l e R s m args below meth c H locs cells slots Q (F0 m tgt ls rest)) (kf : 0 < x → W p l e R s m args below meth c H locs cells slots Q (F0 m (pc + 3) ls rest)) : W p l e R s m args below meth c H locs cells slots Q (F0 m pc ls (.int (nI x) :: rest)) :=
  lv_if_le hexec hb hdg ht (fun h => kt (by have h2 := (nI_leI hx (by omega) (b := 0)).mp h; omega)) (fun h => kf (by
    rcases Nat.eq_zero_or_pos x with q | q
    · exact absurd (by rw [q]; decide) h
    · exact q))
theorem r_if_neN (hexec : p.tables.exec = Jvm.exec) (hb : c.code = cc) {x : Nat} (hx : x < 2 ^ 31) {off : Int} {tgt : Nat} (hdg : decode cc pc = .ok (.ifCond .ne off, 3)) (ht : (pc : Int) + off = (tgt : Int))
    (kt : 0 < x → W p l e R s m args below meth c H locs cells slots Q (F0 m tgt ls rest)) (kf : x = 0 → W p l e R s m args below meth c H locs cells slots Q (F0 m (pc + 3) ls rest)) : W p l e R s m args below meth c H locs cells slots Q (F0 m pc ls (.int (nI x) :: rest)) :=
  lv_if_ne hexec hb hdg ht (fun h => kt (by
    rcases Nat.eq_zero_or_pos x with q | q
    · exact absurd (by rw [q]; rfl) h
    · exact q)) (fun h => kf (by have h2 := (nI_eq hx (by omega) (b := 0)).mp h; omega))
theorem r_if_ltP (hexec : p.tables.exec = Jvm.exec) (hb : c.code = cc) {x : Option Nat} (hx : ∀ j, x = some j → j < 2 ^ 31) {off : Int} {tgt : Nat} (hdg : decode cc pc = .ok (.ifCond .lt off, 3)) (ht : (pc : Int) + off = (tgt : Int))
    (kt : x = none → W p l e R s m args below meth c H locs cells slots Q (F0 m tgt ls rest)) (kf : ∀ j, x = some j → W p l e R s m args below meth c H locs cells slots Q (F0 m (pc + 3) ls rest)) : W p l e R s m args below meth c H locs cells slots Q (F0 m pc ls (.int (eP x) :: rest)) := by
  cases x with
  | none => exact lv_if_lt hexec hb hdg ht (fun _ => kt rfl) (fun h => absurd (by decide) h)
  | some j => exact lv_if_lt hexec hb hdg ht (fun h => absurd h (nI_pos (hx j rfl))) (fun _ => kf j rfl)
theorem r_icmp_eqP (hexec : p.tables.exec = Jvm.exec) (hb : c.code = cc) {x : Option Nat} (hx : ∀ j, x = some j → j < 2 ^ 31) {off : Int} {tgt : Nat} (hdg : decode cc pc = .ok (.if_icmp .eq off, 3)) (ht : (pc : Int) + off = (tgt : Int))
    (kt : x = none → W p l e R s m args below meth c H locs cells slots Q (F0 m tgt ls rest)) (kf : ∀ j, x = some j → W p l e R s m args below meth c H locs cells slots Q (F0 m (pc + 3) ls rest)) : W p l e R s m args below meth c H locs cells slots Q (F0 m pc ls (.int (-1) :: .int (eP x) :: rest)) := by
  cases x with
  | none => exact lv_icmp_eq hexec hb hdg ht (fun _ => kt rfl) (fun h => absurd rfl h)
  | some j => exact lv_icmp_eq hexec hb hdg ht (fun h => absurd h (eP_m1 (hx j rfl))) (fun _ => kf j rfl)
theorem r_icmp_neP (hexec : p.tables.exec = Jvm.exec) (hb : c.code = cc) {x : Option Nat} (hx : ∀ j, x = some j → j < 2 ^ 31) {off : Int} {tgt : Nat} (hdg : decode cc pc = .ok (.if_icmp .ne off, 3)) (ht : (pc : Int) + off = (tgt : Int))
    (kt : ∀ j, x = some j → W p l e R s m args below meth c H locs cells slots Q (F0 m tgt ls rest)) (kf : x = none → W p l e R s m args below meth c H locs cells slots Q (F0 m (pc + 3) ls rest)) : W p l e R s m args below meth c H locs cells slots Q (F0 m pc ls (.int (-1) :: .int (eP x) :: rest)) := by
  cases x with
  | none => exact lv_icmp_ne hexec hb hdg ht (fun h => absurd rfl h) (fun _ => kf rfl)
  | some j => exact lv_icmp_ne hexec hb hdg ht (fun _ => kt j rfl) (fun h => absurd h (eP_m1 (hx j rfl)))
theorem r_icmp_eqB (hexec : p.tables.exec = Jvm.exec) (hb : c.code = cc) {x y : Bool} {off : Int} {tgt : Nat} (hdg : decode cc pc = .ok (.if_icmp .eq off, 3)) (ht : (pc : Int) + off = (tgt : Int))
    (kt : x = y → W p l e R s m args below meth c H locs cells slots Q (F0 m tgt ls rest)) (kf : ¬ x = y → W p l e R s m args below meth c H locs cells slots Q (F0 m (pc + 3) ls rest)) : W p l e R s m args below meth c H locs cells slots Q (F0 m pc ls (.int (bI y) :: .int (bI x) :: rest)) :=
  lv_icmp_eq hexec hb hdg ht (fun h => kt (bI_inj.mp h)) (fun h => kf (fun z => h (bI_inj.mpr z)))
theorem r_icmp_neB (hexec : p.tables.exec = Jvm.exec) (hb : c.code = cc) {x y : Bool} {off : Int} {tgt : Nat} (hdg : decode cc pc = .ok (.if_icmp .ne off, 3)) (ht : (pc : Int) + off = (tgt : Int))
    (kt : ¬ x = y → W p l e R s m args below meth c H locs cells slots Q (F0 m tgt ls rest)) (kf : x = y → W p l e R s m args below meth c H locs cells slots Q (F0 m (pc + 3) ls rest)) : W p l e R s m args below meth c H locs cells slots Q (F0 m pc ls (.int (bI y) :: .int (bI x) :: rest)) :=
  lv_icmp_ne hexec hb hdg ht (fun h => kt (fun z => h (bI_inj.mpr z))) (fun h => kf (bI_inj.mp h))
theorem r_icmp_eqN (hexec : p.tables.exec = Jvm.exec) (hb : c.code = cc) {x y : Nat} (hx : x < 2 ^ 31) (hy : y < 2 ^ 31) {off : Int} {tgt : Nat} (hdg : decode cc pc = .ok (.if_icmp .eq off, 3)) (ht : (pc : Int) + off = (tgt : Int))
    (kt : x = y → W p l e R s m args below meth c H locs cells slots Q (F0 m tgt ls rest)) (kf : ¬ x = y → W p l e R s m args below meth c H locs cells slots Q (F0 m (pc + 3) ls rest)) : W p l e R s m args below meth c H locs cells slots Q (F0 m pc ls (.int (nI y) :: .int (nI x) :: rest)) :=
  lv_icmp_eq hexec hb hdg ht (fun h => kt ((nI_eq hx hy).mp h)) (fun h => kf (fun z => h ((nI_eq hx hy).mpr z)))
theorem r_icmp_neN (hexec : p.tables.exec = Jvm.exec) (hb : c.code = cc) {x y : Nat} (hx : x < 2 ^ 31) (hy : y < 2 ^ 31) {off : Int} {tgt : Nat} (hdg : decode cc pc = .ok (.if_icmp .ne off, 3)) (ht : (pc : Int) + off = (tgt : Int))
    (kt : ¬ x = y → W p l e R s m args below meth c H locs cells slots Q (F0 m tgt ls rest)) (kf : x = y → W p l e R s m args below meth c H locs cells slots Q (F0 m (pc + 3) ls rest)) : W p l e R s m args below meth c H locs cells slots Q (F0 m pc ls (.int (nI y) :: .int (nI x) :: rest)) :=
  lv_icmp_ne hexec hb hdg ht (fun h => kt (fun z => h ((nI_eq hx hy).mpr z))) (fun h => kf ((nI_eq hx hy).mp h))
theorem r_icmp_ltN (hexec : p.tables.exec = Jvm.exec) (hb : c.code = cc) {x y : Nat} (hx : x < 2 ^ 31) (hy : y < 2 ^ 31) {off : Int} {tgt : Nat} (hdg : decode cc pc = .ok (.if_icmp .lt off, 3)) (ht : (pc : Int) + off = (tgt : Int))
    (kt : x < y → W p l e R s m args below meth c H locs cells slots Q (F0 m tgt ls rest)) (kf : y ≤ x → W p l e R s m args below meth c H locs cells slots Q (F0 m (pc + 3) ls rest)) : W p l e R s m args below meth c H locs cells slots Q (F0 m pc ls (.int (nI y) :: .int (nI x) :: rest)) :=
  lv_icmp_lt hexec hb hdg ht (fun h => kt ((nI_ltI hx hy).mp h)) (fun h => kf (Nat.le_of_not_lt (fun z => h ((nI_ltI hx hy).mpr z))))
theorem r_icmp_geN (hexec : p.tables.exec = Jvm.exec) (hb : c.code = cc) {x y : Nat} (hx : x < 2 ^ 31) (hy : y < 2 ^ 31) {off : Int} {tgt : Nat} (hdg : decode cc pc = .ok (.if_icmp .ge off, 3)) (ht : (pc : Int) + off = (tgt : Int))
    (kt : y ≤ x → W p l e R s m args below meth c H locs cells slots Q (F0 m tgt ls rest)) (kf : x < y → W p l e R s m args below meth c H locs cells slots Q (F0 m (pc + 3) ls rest)) : W p l e R s m args below meth c H locs cells slots Q (F0 m pc ls (.int (nI y) :: .int (nI x) :: rest)) :=
  lv_icmp_ge hexec hb hdg ht (fun h => kt ((nI_leI hy hx).mp h)) (fun h => kf (Nat.lt_of_not_le (fun z => h ((nI_leI hy hx).mpr z))))
theorem r_icmp_gtN (hexec : p.tables.exec = Jvm.exec) (hb : c.code = cc) {x y : Nat} (hx : x < 2 ^ 31) (hy : y < 2 ^ 31) {off : Int} {tgt : Nat} (hdg : decode cc pc = .ok (.if_icmp .gt off, 3)) (ht : (pc : Int) + off = (tgt : Int))
    (kt : y < x → W p l e R s m args below meth c H locs cells slots Q (F0 m tgt ls rest)) (kf : x ≤ y → W p l e R s m args below meth c H locs cells slots Q (F0 m (pc + 3) ls rest)) : W p l e R s m args below meth c H locs cells slots Q (F0 m pc ls (.int (nI y) :: .int (nI x) :: rest)) :=
  lv_icmp_gt hexec hb hdg ht (fun h => kt ((nI_ltI hy hx).mp h)) (fun h => kf (Nat.le_of_not_lt (fun z => h ((nI_ltI hy hx).mpr z))))
theorem r_icmp_leN (hexec : p.tables.exec = Jvm.exec) (hb : c.code = cc) {x y : Nat} (hx : x < 2 ^ 31) (hy : y < 2 ^ 31) {off : Int} {tgt : Nat} (hdg : decode cc pc = .ok (.if_icmp .le off, 3)) (ht : (pc : Int) + off = (tgt : Int))
    (kt : x ≤ y → W p l e R s m args below meth c H locs cells slots Q (F0 m tgt ls rest)) (kf : y < x → W p l e R s m args below meth c H locs cells slots Q (F0 m (pc + 3) ls rest)) : W p l e R s m args below meth c H locs cells slots Q (F0 m pc ls (.int (nI y) :: .int (nI x) :: rest)) :=
  lv_icmp_le hexec hb hdg ht (fun h => kt ((nI_leI hx hy).mp h)) (fun h => kf (Nat.lt_of_not_le (fun z => h ((nI_leI hx hy).mpr z))))
end RWS
/-! contracts of methods that only read, and their calls -/
abbrev roPc (D : va_G) (ct : Nat → ClassId) (av : List Value) (wc : va_W) : Array Value → State → Prop := va_Pc av (fun U => va_P D vwCl wc U.heap ∧ KK D ct U)
theorem ro_blind {D : va_G} {ct : Nat → ClassId} {av : List Value} {wc : va_W} : FrameBlind (roPc D ct av wc) := fun a U g mk q => ⟨q.1, q.2.1, q.2.2.call⟩
theorem ro_pre {D : va_G} {ct : Nat → ClassId} {av : List Value} {wc : va_W} {s : State} {H : Heap} (hK : KK D ct s) (hP : va_P D vwCl wc H) : ∀ U : State, U.heap = H → s.WarmedH U.vm → roPc D ct av wc av.toArray U := fun U hU hW => ⟨rfl, by rw [hU]; exact hP, hK.warm hW⟩
abbrev rqI (v : Int32) : Array Value → State → Outcome → State → Prop := vp_Si (fun r => r = v)
section RCALL
variable {p : Program} {l : Launch} {e : Env} {R : Room} {s : State} {m : MethodId} {args : Array Value} {below : List Frame} {meth : Method} {c : Code} {H : Heap} {locs : List Loc} {cells slots : Nat} {Q : State → Prop}
variable {cc : ByteArray} {pc : Nat} {ls : Array Slot} {rest st : List Value} {D : va_G} {ct : Nat → ClassId} {wc : va_W} {Ts ws : List Cond} {own C : String} {index maxL n nL : Nat} {y : MethodName} {bytes : ByteArray} {ret : Option FieldType} {rm : Room} {As : List Value} {b : Nat} {v : Int32}
theorem r_cV (S : CallFix p m c cc nL s args Ts own) (hM : Met l y ws rm (roPc D ct (.ref b :: As) wc) (rqI v) 0 0 (fun _ => False)) (cw : CallW R s args own C index y bytes maxL ret ws rm 0 0 n) (hK : KK D ct s) (hP : va_P D vwCl wc H)
    (q0 ci : Nat) {T : u_T} {N : Nat} {fs : List Value} (he : wc[q0]? = some (b, .inr (ci, fs))) (hc : vwCl[ci]? = some (C, T, N)) (hn : As.length = n) (hsize : ls.size = nL) (hstack : st = As.reverse ++ .ref b :: rest) (hW : (rest.map fun v => v.category).sum ≤ 8) (hdg : decode cc pc = .ok (.invokevirtual index, 3)) (hf : cells + 0 ≤ R.cells ∧ slots + 0 ≤ R.slots)
    (kk : W p l e R s m args below meth c H locs cells slots Q (F0 m (pc + 3) ls (.int v :: rest))) : W p l e R s m args below meth c H locs cells slots Q (F0 m pc ls st) :=
  vp_callSi (W.runV (g := F0 m pc ls st) S hM cw ⟨ro_blind, va_recv hK.1 hP hc he, ro_pre hK hP⟩ rfl hn hsize hstack (lv_room hW) hdg hf) (fun r hr => by rw [hr]; exact kk)
theorem r_cS (S : CallFix p m c cc nL s args Ts own) (hM : Met l y ws rm (roPc D ct As wc) (rqI v) 0 0 (fun _ => False)) (cw : CallB R s args own index y bytes maxL ret ws rm 0 0 n ∧ (Cond.static y).before args s = true) (hK : KK D ct s) (hP : va_P D vwCl wc H)
    (hn : As.length = n) (hsize : ls.size = nL) (hstack : st = As.reverse ++ rest) (hW : (rest.map fun v => v.category).sum ≤ 8) (hdg : decode cc pc = .ok (.invokestatic index, 3)) (hf : cells + 0 ≤ R.cells ∧ slots + 0 ≤ R.slots)
    (kk : W p l e R s m args below meth c H locs cells slots Q (F0 m (pc + 3) ls (.int v :: rest))) : W p l e R s m args below meth c H locs cells slots Q (F0 m pc ls st) :=
  vp_callSi (W.runS (g := F0 m pc ls st) S hM cw ⟨ro_blind, ro_pre hK hP⟩ rfl hn hsize hstack (lv_room hW) hdg hf) (fun r hr => by rw [hr]; exact kk)
end RCALL
/-! contracts of methods that write -/
def jn : va_W → List Nat → va_W → va_W
  | ws, p :: ps, q :: qs => jn (ws.set p q) ps qs
  | ws, _, _ => ws
theorem jn_get : ∀ (ps : List Nat) (w1 ws : va_W), ps.length = w1.length → (∀ p ∈ ps, p < ws.length) → va_nd ps = true → ∀ (k : Nat) (q : Nat × va_E), (jn ws ps w1)[k]? = some q → (∃ i : Nat, ps[i]? = some k ∧ w1[i]? = some q) ∨ (k ∉ ps ∧ ws[k]? = some q)
  | [], w1, ws, _, _, _, k, q, h => Or.inr ⟨List.not_mem_nil, by cases w1 <;> exact h⟩
  | p :: ps, [], ws, hl, _, _, k, q, h => by simp at hl
  | p :: ps, x :: w1, ws, hl, hb, hn, k, q, h => by
    simp only [va_nd, Bool.and_eq_true, decide_eq_true_eq] at hn
    rcases jn_get ps w1 (ws.set p x) (by simpa using hl) (fun y hy => by rw [List.length_set]; exact hb y (List.mem_cons_of_mem _ hy)) hn.2 k q h with ⟨i, h1, h2⟩ | ⟨h1, h2⟩
    · exact Or.inl ⟨i + 1, by simpa using h1, by simpa using h2⟩
    · by_cases hk : k = p
      · subst hk
        rw [List.getElem?_set_self (hb k List.mem_cons_self)] at h2
        exact Or.inl ⟨0, rfl, h2⟩
      · rw [List.getElem?_set_ne (Ne.symm hk)] at h2
        exact Or.inr ⟨fun z => (List.mem_cons.mp z).elim hk h1, h2⟩
theorem jn_ok {A0 : Nat → Prop} {D : va_G} {cl : List vw_C} {ws wc w1 : va_W} {H H1 : Heap} (hP : va_P D cl ws H) (hD : va_D A0 ws) (ps : List Nat) (hC : ps.map (fun i => ws[i]?) = wc.map some) (hn : va_nd ps = true) (ha : w1.map Prod.fst = wc.map Prod.fst)
    (hk : ∀ q : Nat, q < H.size → ¬ va_A wc H.size q → H1[q]? = H[q]?) (hP1 : va_P D cl w1 H1) : va_P D cl (jn ws ps w1) H1 ∧ va_D A0 (jn ws ps w1) := by
  have hl1 : ps.length = wc.length := by have := congrArg List.length hC; simpa using this
  have hl2 : w1.length = wc.length := by have := congrArg List.length ha; simpa using this
  have at' : ∀ (i p : Nat), ps[i]? = some p → ∃ q, wc[i]? = some q ∧ ws[p]? = some q := by
    intro i p hi
    have h1 : (ps.map (fun i => ws[i]?))[i]? = (wc.map some)[i]? := by rw [hC]
    rw [List.getElem?_map, List.getElem?_map, hi] at h1
    have hil : i < wc.length := by rw [← hl1]; exact (List.getElem?_eq_some_iff.mp hi).1
    obtain ⟨q, hq⟩ : ∃ q, wc[i]? = some q := ⟨wc[i], List.getElem?_eq_getElem hil⟩
    rw [hq] at h1
    exact ⟨q, hq, by simpa using h1⟩
  have hb : ∀ p ∈ ps, p < ws.length := by
    intro p hp
    obtain ⟨i, hi⟩ := List.getElem?_of_mem hp
    obtain ⟨q, -, h2⟩ := at' i p hi
    exact (List.getElem?_eq_some_iff.mp h2).1
  have ad : ∀ (i : Nat) (x y : Nat × va_E), w1[i]? = some x → wc[i]? = some y → x.1 = y.1 := by
    intro i x y hx hy
    have h1 : (w1.map Prod.fst)[i]? = (wc.map Prod.fst)[i]? := by rw [ha]
    rw [List.getElem?_map, List.getElem?_map, hx, hy] at h1
    simpa using h1
  have key := jn_get ps w1 ws (hl1.trans hl2.symm) hb hn
  have adr : ∀ (k : Nat) (q : Nat × va_E), (jn ws ps w1)[k]? = some q → ∃ q0, ws[k]? = some q0 ∧ q0.1 = q.1 := by
    intro k q h
    rcases key k q h with ⟨i, h1, h2⟩ | ⟨h1, h2⟩
    · obtain ⟨y, h3, h4⟩ := at' i k h1
      exact ⟨y, h4, (ad i q y h2 h3).symm⟩
    · exact ⟨q, h2, rfl⟩
  refine ⟨fun k q h => ?_, fun i j x y hi hj hxy => ?_, fun k q h => ?_⟩
  · rcases key k q h with ⟨i, h1, h2⟩ | ⟨h1, h2⟩
    · exact hP1 i q h2
    · refine (hP k q h2).kept (hk q.1 (hP k q h2).lt (fun z => ?_))
      rcases z with ⟨j, e, hj⟩ | hj
      · have hjl : j < ps.length := by rw [hl1]; exact (List.getElem?_eq_some_iff.mp hj).1
        obtain ⟨p, hp⟩ : ∃ p, ps[j]? = some p := ⟨ps[j], List.getElem?_eq_getElem hjl⟩
        obtain ⟨y, h3, h4⟩ := at' j p hp
        rw [hj] at h3
        cases h3
        have := hD.1 k p q (q.1, e) h2 h4 rfl
        subst this
        exact h1 (List.mem_of_getElem? hp)
      · have := (hP k q h2).lt
        omega
  · obtain ⟨x0, h1, h2⟩ := adr i x hi
    obtain ⟨y0, h3, h4⟩ := adr j y hj
    exact hD.1 i j x0 y0 h1 h3 (h2.trans (hxy.trans h4.symm))
  · obtain ⟨q0, h1, h2⟩ := adr k q h
    rw [← h2]
    exact hD.2 k q0 h1
theorem jn_S {A0 : Nat → Prop} {ws wc : va_W} {H0 H : Heap} {locs : List Loc} (hD : va_D A0 ws) (hS : va_S A0 H0 H locs) (hA : ∀ q, H0.size ≤ q → A0 q) (ps : List Nat) (hC : ps.map (fun i => ws[i]?) = wc.map some) : ∀ q, va_A wc H.size q → A0 q := va_free hD hS hA ps hC
abbrev wrPc (D : va_G) (ct : Nat → ClassId) (av : List Value) (wc : va_W) (sz : Nat) : Array Value → State → Prop := va_Pc av (fun U => U.heap.size = sz ∧ va_P D vwCl wc U.heap ∧ KK D ct U ∧ va_D (fun _ => True) wc)
theorem wr_blind {D : va_G} {ct : Nat → ClassId} {av : List Value} {wc : va_W} {sz : Nat} : FrameBlind (wrPc D ct av wc sz) := fun a U g mk q => ⟨q.1, q.2.1, q.2.2.1, q.2.2.2.1.call, q.2.2.2.2⟩
theorem wr_pre {D : va_G} {ct : Nat → ClassId} {av : List Value} {wc : va_W} {A : Nat → Prop} {s : State} {H : Heap} (hK : KK D ct s) (hP : va_P D vwCl wc H) (hD : va_D A wc) : ∀ U : State, U.heap = H → s.WarmedH U.vm → wrPc D ct av wc H.size av.toArray U := fun U hU hW => ⟨rfl, by rw [hU], by rw [hU]; exact hP, hK.warm hW, hD.weaken (fun _ _ _ _ => trivial)⟩
abbrev wqI (D : va_G) (v : Int32) (w1 : va_W) (A : Nat → Prop) : Array Value → State → Outcome → State → Prop := va_Qi (fun (r : Int32) (_ : Unit) => r = v) (fun _ t => va_P D vwCl w1 t.heap) A
abbrev wqV (D : va_G) (w1 : va_W) (A : Nat → Prop) : Array Value → State → Outcome → State → Prop := va_Qv (fun _ : Unit => True) (fun _ t => va_P D vwCl w1 t.heap) A
section WCALL
variable {p : Program} {l : Launch} {e : Env} {R : Room} {s : State} {m : MethodId} {args : Array Value} {below : List Frame} {meth : Method} {c : Code} {H H0 : Heap} {locs : List Loc} {cells slots : Nat} {Q : State → Prop} {A : Nat → Prop}
variable {cc : ByteArray} {pc : Nat} {ls : Array Slot} {rest st : List Value} {D : va_G} {ct : Nat → ClassId} {wc wf w1 : va_W} {Ts ws : List Cond} {own C : String} {index maxL n nL : Nat} {y : MethodName} {bytes : ByteArray} {ret : Option FieldType} {rm : Room} {As : List Value} {b : Nat} {v : Int32}
theorem r_wVi (S : CallFix p m c cc nL s args Ts own) (hM : Met l y ws rm (wrPc D ct (.ref b :: As) wc H.size) (wqI D v w1 (va_A wc H.size)) 0 0 (va_A wc H.size)) (cw : CallW R s args own C index y bytes maxL ret ws rm 0 0 n) (hK : KK D ct s) (hP : va_P D vwCl wf H) (hD : va_D A wf) (hS : va_S A H0 H locs) (hA : ∀ q, H0.size ≤ q → A q) (ps : List Nat) (hC : ps.map (fun i => wf[i]?) = wc.map some) (hnd : va_nd ps = true) (had : w1.map Prod.fst = wc.map Prod.fst)
    (q0 ci : Nat) {T : u_T} {N : Nat} {fs : List Value} (he : wc[q0]? = some (b, .inr (ci, fs))) (hc : vwCl[ci]? = some (C, T, N)) (hn : As.length = n) (hsize : ls.size = nL) (hstack : st = As.reverse ++ .ref b :: rest) (hW : (rest.map fun v => v.category).sum ≤ 8) (hdg : decode cc pc = .ok (.invokevirtual index, 3)) (hf : cells + 0 ≤ R.cells ∧ slots + 0 ≤ R.slots)
    (kk : ∀ (H1 : Heap) (locs1 : List Loc), va_P D vwCl (jn wf ps w1) H1 → va_D A (jn wf ps w1) → va_S A H0 H1 locs1 → W p l e R s m args below meth c H1 locs1 cells slots Q (F0 m (pc + 3) ls (.int v :: rest))) : W p l e R s m args below meth c H locs cells slots Q (F0 m pc ls st) := by
  have hPc : va_P D vwCl wc H := fun k q hk => by
    have h1 : (ps.map (fun i => wf[i]?))[k]? = some (some q) := by rw [hC, List.getElem?_map, hk]; rfl
    rw [List.getElem?_map] at h1
    cases hi : ps[k]? with
    | none => rw [hi] at h1; cases h1
    | some i => rw [hi] at h1; exact hP i q (Option.some.inj h1)
  have hDc : va_D A wc := hD.sub ps hnd hC
  have hF := va_free hD hS hA ps hC
  exact va_calli (va_runV (g := F0 m pc ls st) S hM cw ⟨wr_blind, va_recv hK.1 hPc hc he, wr_pre hK hPc hDc⟩ rfl hn hsize hstack (lv_room hW) hdg hf) hS (fun q _ h => hF q h) hF (fun r u t H1 locs1 ht hvm hw hB hz hk hS1 => by
    rw [hw]
    rw [ht] at hB
    obtain ⟨g1, g2⟩ := jn_ok hP hD ps hC hnd had hk hB
    exact kk H1 locs1 g1 g2 hS1)
theorem r_wVv (S : CallFix p m c cc nL s args Ts own) (hM : Met l y ws rm (wrPc D ct (.ref b :: As) wc H.size) (wqV D w1 (va_A wc H.size)) 0 0 (va_A wc H.size)) (cw : CallW R s args own C index y bytes maxL ret ws rm 0 0 n) (hK : KK D ct s) (hP : va_P D vwCl wf H) (hD : va_D A wf) (hS : va_S A H0 H locs) (hA : ∀ q, H0.size ≤ q → A q) (ps : List Nat) (hC : ps.map (fun i => wf[i]?) = wc.map some) (hnd : va_nd ps = true) (had : w1.map Prod.fst = wc.map Prod.fst)
    (q0 ci : Nat) {T : u_T} {N : Nat} {fs : List Value} (he : wc[q0]? = some (b, .inr (ci, fs))) (hc : vwCl[ci]? = some (C, T, N)) (hn : As.length = n) (hsize : ls.size = nL) (hstack : st = As.reverse ++ .ref b :: rest) (hW : (rest.map fun v => v.category).sum ≤ 8) (hdg : decode cc pc = .ok (.invokevirtual index, 3)) (hf : cells + 0 ≤ R.cells ∧ slots + 0 ≤ R.slots)
    (kk : ∀ (H1 : Heap) (locs1 : List Loc), va_P D vwCl (jn wf ps w1) H1 → va_D A (jn wf ps w1) → va_S A H0 H1 locs1 → W p l e R s m args below meth c H1 locs1 cells slots Q (F0 m (pc + 3) ls rest)) : W p l e R s m args below meth c H locs cells slots Q (F0 m pc ls st) := by
  have hPc : va_P D vwCl wc H := fun k q hk => by
    have h1 : (ps.map (fun i => wf[i]?))[k]? = some (some q) := by rw [hC, List.getElem?_map, hk]; rfl
    rw [List.getElem?_map] at h1
    cases hi : ps[k]? with
    | none => rw [hi] at h1; cases h1
    | some i => rw [hi] at h1; exact hP i q (Option.some.inj h1)
  have hDc : va_D A wc := hD.sub ps hnd hC
  have hF := va_free hD hS hA ps hC
  exact va_callv (va_runV (g := F0 m pc ls st) S hM cw ⟨wr_blind, va_recv hK.1 hPc hc he, wr_pre hK hPc hDc⟩ rfl hn hsize hstack (lv_room hW) hdg hf) hS (fun q _ h => hF q h) hF (fun u t H1 locs1 ht hvm hw hB hz hk hS1 => by
    rw [ht] at hB
    obtain ⟨g1, g2⟩ := jn_ok hP hD ps hC hnd had hk hB
    exact kk H1 locs1 g1 g2 hS1)
theorem r_wSv (S : CallFix p m c cc nL s args Ts own) (hM : Met l y ws rm (wrPc D ct As wc H.size) (wqV D w1 (va_A wc H.size)) 0 0 (va_A wc H.size)) (cw : CallB R s args own index y bytes maxL ret ws rm 0 0 n ∧ (Cond.static y).before args s = true) (hK : KK D ct s) (hP : va_P D vwCl wf H) (hD : va_D A wf) (hS : va_S A H0 H locs) (hA : ∀ q, H0.size ≤ q → A q) (ps : List Nat) (hC : ps.map (fun i => wf[i]?) = wc.map some) (hnd : va_nd ps = true) (had : w1.map Prod.fst = wc.map Prod.fst)
    (hn : As.length = n) (hsize : ls.size = nL) (hstack : st = As.reverse ++ rest) (hW : (rest.map fun v => v.category).sum ≤ 8) (hdg : decode cc pc = .ok (.invokestatic index, 3)) (hf : cells + 0 ≤ R.cells ∧ slots + 0 ≤ R.slots)
    (kk : ∀ (H1 : Heap) (locs1 : List Loc), va_P D vwCl (jn wf ps w1) H1 → va_D A (jn wf ps w1) → va_S A H0 H1 locs1 → W p l e R s m args below meth c H1 locs1 cells slots Q (F0 m (pc + 3) ls rest)) : W p l e R s m args below meth c H locs cells slots Q (F0 m pc ls st) := by
  have hPc : va_P D vwCl wc H := fun k q hk => by
    have h1 : (ps.map (fun i => wf[i]?))[k]? = some (some q) := by rw [hC, List.getElem?_map, hk]; rfl
    rw [List.getElem?_map] at h1
    cases hi : ps[k]? with
    | none => rw [hi] at h1; cases h1
    | some i => rw [hi] at h1; exact hP i q (Option.some.inj h1)
  have hDc : va_D A wc := hD.sub ps hnd hC
  have hF := va_free hD hS hA ps hC
  exact va_callv (va_runS (g := F0 m pc ls st) S hM cw ⟨wr_blind, wr_pre hK hPc hDc⟩ rfl hn hsize hstack (lv_room hW) hdg hf) hS (fun q _ h => hF q h) hF (fun u t H1 locs1 ht hvm hw hB hz hk hS1 => by
    rw [ht] at hB
    obtain ⟨g1, g2⟩ := jn_ok hP hD ps hC hnd had hk hB
    exact kk H1 locs1 g1 g2 hS1)
end WCALL
/-! the worlds -/
abbrev wH (ct : Nat → ClassId) (h : Nat → Nat) (hd : Nat → Bool) (nl : Nat → Nat) (wi : Nat → Option Nat) : va_W := [(h 0, .inr (0, [.ref (h 1), .ref (h 2), .ref (h 3)])), (h 1, .inl (ct 1, 150, .inl (fun k => bI (hd k)))), (h 2, .inl (ct 0, 150, .inl (fun k => nI (nl k)))), (h 3, .inl (ct 0, 4, .inl (fun k => eP (wi k))))]
abbrev wT (ct : Nat → ClassId) (a : Nat → Nat) (n : Nat) (dc : Nat → Nat) (pa : Nat → Option Nat) (va : Nat → Int32) (dl : Nat → Bool) (ge : Nat → Nat) (su : Nat → Int32) : va_W := [(a 0, .inr (2, [.ref (a 1), .ref (a 2), .ref (a 3), .ref (a 4), .ref (a 5), .ref (a 6), .int (nI n)])), (a 1, .inl (ct 0, 150, .inl (fun k => nI (dc k)))), (a 2, .inl (ct 0, 150, .inl (fun k => eP (pa k)))), (a 3, .inl (ct 0, 150, .inl va)), (a 4, .inl (ct 1, 150, .inl (fun k => bI (dl k)))), (a 5, .inl (ct 0, 150, .inl (fun k => nI (ge k)))), (a 6, .inl (ct 0, 150, .inl su))]
end
section
/-! further rows -/
def prd : Nat → Option Nat
  | 0 => none
  | j + 1 => some j
theorem nI_prd2 (n : Nat) : nI n - nI 1 = eP (prd n) := by
  cases n with
  | zero => decide
  | succ j => exact nI_pred j
theorem nI_prd (n : Nat) : nI n + Int32.ofInt (-1) = eP (prd n) := by
  cases n with
  | zero => decide
  | succ j => exact pk_m1 j
theorem prd_lt {n j : Nat} (h : prd n = some j) : n = j + 1 := by
  cases n with
  | zero => cases h
  | succ i => cases h; rfl
abbrev wA (ct : Nat → ClassId) (b n : Nat) (f : Nat → Int32) : va_W := [(b, .inl (ct 0, n, .inl f))]
abbrev wO (ct : Nat → ClassId) (o : Nat) (v : Int64) : va_W := [(o, .inl (ct 3, 1, .inr (.inl (fun _ => v))))]
abbrev wS (ct : Nat → ClassId) (s h : Nat → Nat) (dp lt : Int32) (ch ck : Nat → Int32) : va_W := [(s 0, .inr (1, [.ref (h 0), .int dp, .int lt, .ref (s 1), .ref (s 2)])), (s 1, .inl (ct 0, 4, .inl ch)), (s 2, .inl (ct 0, 9, .inl ck))]
abbrev wR (ct : Nat → ClassId) (r a u : Nat → Nat) (sa : Nat → Nat → Nat) : va_W := [(r 0, .inr (3, [.ref (a 0), .ref (r 1), .ref (u 0)])), (r 1, .inl (ct 2, 3, .inr (.inr (.inr (.inr (fun k => some (sa k 0)))))))]
abbrev wM (ct : Nat → ClassId) (m : Nat → Nat) (n : Nat) (dc : Nat → Nat) (pa : Nat → Option Nat) (va : Nat → Int32) (dl : Nat → Bool) (ge : Nat → Nat) (su : Nat → Int32) (mk : Nat → Bool) (dp sq tc kp : Nat → Int32) (la : Int32) : va_W := [(m 0, .inr (4, [.ref (m 1), .ref (m 2), .ref (m 3), .ref (m 4), .ref (m 5), .ref (m 6), .int (nI n), .ref (m 7), .ref (m 8), .ref (m 9), .ref (m 10), .ref (m 11), .int la])), (m 1, .inl (ct 0, 150, .inl (fun k => nI (dc k)))), (m 2, .inl (ct 0, 150, .inl (fun k => eP (pa k)))), (m 3, .inl (ct 0, 150, .inl va)), (m 4, .inl (ct 1, 150, .inl (fun k => bI (dl k)))), (m 5, .inl (ct 0, 150, .inl (fun k => nI (ge k)))), (m 6, .inl (ct 0, 150, .inl su)), (m 7, .inl (ct 1, 450, .inl (fun k => bI (mk k)))), (m 8, .inl (ct 0, 3, .inl dp)), (m 9, .inl (ct 0, 3, .inl sq)), (m 10, .inl (ct 0, 12, .inl tc)), (m 11, .inl (ct 0, 27, .inl kp))]
theorem arrV_cong {cA : ClassId} {n : Nat} {f g : Nat → Value} (h : ∀ j, j < n → f j = g j) : arrV cA n f = arrV cA n g := by
  have e : (fun j : Fin n => f j.val) = (fun j : Fin n => g j.val) := funext fun j => h j.val j.isLt
  simp only [arrV, e]
theorem wA_cong {D : va_G} {cl : List vw_C} {ct : Nat → ClassId} {b n : Nat} {f g : Nat → Int32} {H : Heap} (h : ∀ j, j < n → f j = g j) (hP : va_P D cl (wA ct b n f) H) : va_P D cl (wA ct b n g) H := by
  intro k q hk
  have h0 := hP 0 _ rfl
  cases k with
  | succ k => simp at hk
  | zero =>
    cases hk
    show H[b]? = some (vp_cell (ct 0) (n, .inl g))
    rw [vp_cell_i, ← arrV_cong (f := fun j => .int (f j)) (fun j hj => by rw [h j hj])]
    exact h0
theorem va_Pnil {D : va_G} {cl : List vw_C} {H : Heap} : va_P D cl [] H := fun k q h => by simp at h
section RWS2
variable {p : Program} {l : Launch} {e : Env} {R : Room} {s : State} {m : MethodId} {args : Array Value} {below : List Frame} {meth : Method} {c : Code} {H : Heap} {locs : List Loc} {cells slots : Nat} {Q : State → Prop}
variable {cc : ByteArray} {pc : Nat} {ls : Array Slot} {rest : List Value} {D : va_G} {cl : List vw_C} {A : Nat → Prop} {a : Nat} {tys : List (ClassId × FieldType)} {ws : va_W} {H0 : Heap}
theorem r_aald (hexec : p.tables.exec = Jvm.exec) (hb : c.code = cc) (hK : va_K D cl tys s) (hP : va_P D cl ws H) (q0 t0 : Nat) {cA : ClassId} {C : String} {n : Nat} {f : Nat → Option Nat} (ha : ws[q0]? = some (a, .inl (cA, n, .inr (.inr (.inr (.inr f)))))) (ht : tys[t0]? = some (cA, .object C)) {j : Nat} (hj : j < n) (hn : n < 2 ^ 31) {v : Nat} (hv : f j = some v) (hdg : decode cc pc = .ok (.aaload, 1))
    (kk : W p l e R s m args below meth c H locs cells slots Q (F0 m (pc + 1) ls (.ref v :: rest))) : W p l e R s m args below meth c H locs cells slots Q (F0 m pc ls (.int (nI j) :: .ref a :: rest)) :=
  va_aldq hexec hb hK hP q0 t0 ha ht (vp_in_nI hj hn) hdg (by rw [nI_clamp (by omega), hv]; exact kk)
theorem r_icmp_eqN1 (hexec : p.tables.exec = Jvm.exec) (hb : c.code = cc) {x : Nat} (hx : x < 2 ^ 31) {off : Int} {tgt : Nat} (hdg : decode cc pc = .ok (.if_icmp .eq off, 3)) (ht : (pc : Int) + off = (tgt : Int))
    (kf : W p l e R s m args below meth c H locs cells slots Q (F0 m (pc + 3) ls rest)) : W p l e R s m args below meth c H locs cells slots Q (F0 m pc ls (.int (-1) :: .int (nI x) :: rest)) :=
  lv_icmp_eq hexec hb hdg ht (fun h => absurd h (eP_m1 hx)) (fun _ => kf)
theorem r_icmp_neN1 (hexec : p.tables.exec = Jvm.exec) (hb : c.code = cc) {x : Nat} (hx : x < 2 ^ 31) {off : Int} {tgt : Nat} (hdg : decode cc pc = .ok (.if_icmp .ne off, 3)) (ht : (pc : Int) + off = (tgt : Int))
    (kt : W p l e R s m args below meth c H locs cells slots Q (F0 m tgt ls rest)) : W p l e R s m args below meth c H locs cells slots Q (F0 m pc ls (.int (-1) :: .int (nI x) :: rest)) :=
  lv_icmp_ne hexec hb hdg ht (fun _ => kt) (fun h => absurd h (eP_m1 hx))
theorem r_mminN {cc : ByteArray} (hexec : p.tables.exec = Jvm.exec) (hb : c.code = cc) (hml : c.maxLocals = ls.size) {own : String} {index : Nat} (hown : s.vm.findClass own = some m.cls) (hlink : (Cond.methodLink own index Lib.Math.min.name).before args s = true) (hstat : (Cond.static Lib.Math.min.name).before args s = true) (hini : (Cond.initialized "java/lang/Math").before args s = true) (hcode : (Cond.code Lib.Math.min.name Lib.Math.min.code 2 (some .int)).before args s = true)
    (hframes : 1 ≤ R.frames) (hlocals : (rest.map fun v => v.category).sum + 13 ≤ R.locals) (hc : cells ≤ R.cells) (hs : slots ≤ R.slots) {x y : Nat} (hx9 : x < 2 ^ 31) (hy9 : y < 2 ^ 31) (hdg : decode cc pc = .ok (.invokestatic index, 3))
    (kk : W p l e R s m args below meth c H locs cells slots Q (F0 m (pc + 3) ls (.int (nI (min x y)) :: rest))) : W p l e R s m args below meth c H locs cells slots Q (F0 m pc ls (.int (nI y) :: .int (nI x) :: rest)) := by
  refine va_mmin hexec hb hml hown hlink hstat hini hcode hframes hlocals hc hs hdg ?_
  have e : (if nI y < nI x then nI y else nI x) = nI (min x y) := by
    by_cases h : y < x
    · rw [if_pos ((nI_ltI hy9 hx9).mpr h), Nat.min_eq_right (by omega)]
    · rw [if_neg (fun z => h ((nI_ltI hy9 hx9).mp z)), Nat.min_eq_left (by omega)]
  rw [e]
  exact kk
end RWS2
end
section
/-! what the methods reckon, in plain words -/
def fct (P : Nat → Bool) : Nat → Nat
  | 0 => 0
  | k + 1 => fct P k + (if P k = true then 1 else 0)
theorem fct_le (P : Nat → Bool) : ∀ n, fct P n ≤ n
  | 0 => Nat.le_refl 0
  | k + 1 => by
    have h := fct_le P k
    unfold fct
    split <;> omega
theorem fct_t {P : Nat → Bool} {k : Nat} (h : P k = true) : fct P (k + 1) = fct P k + 1 := by
  show fct P k + _ = _
  rw [if_pos h]
theorem fct_f {P : Nat → Bool} {k : Nat} (h : P k = false) : fct P (k + 1) = fct P k := by
  show fct P k + _ = _
  rw [if_neg (by rw [h]; decide)]
  rfl
/-- the first number below n with P -/
def ffd (P : Nat → Bool) : Nat → Option Nat
  | 0 => none
  | k + 1 => match ffd P k with
    | some j => some j
    | none => if P k = true then some k else none
theorem ffd_no {P : Nat → Bool} {k : Nat} (h : ffd P k = none) (hp : P k = false) : ffd P (k + 1) = none := by
  simp [ffd, h, hp]
theorem ffd_up {P : Nat → Bool} {k j : Nat} (h : ffd P k = some j) : ∀ i, ffd P (k + i) = some j
  | 0 => h
  | i + 1 => by
    have := ffd_up h i
    show ffd P (k + i + 1) = _
    simp [ffd, this]
theorem ffd_hit {P : Nat → Bool} {k n : Nat} (h : ffd P k = none) (hp : P k = true) (hk : k < n) : ffd P n = some k := by
  have h1 : ffd P (k + 1) = some k := by simp [ffd, h, hp]
  have h2 := ffd_up h1 (n - (k + 1))
  rwa [show k + 1 + (n - (k + 1)) = n by omega] at h2
def fnd (dc : Nat → Nat) (pa : Nat → Option Nat) (va : Nat → Int32) (dl : Nat → Bool) (d : Nat) (o : Option Nat) (v : Int32) (b : Bool) (k : Nat) : Bool := decide (dc k = d) && (decide (eP (pa k) = eP o) && (decide (va k = v) && decide (dl k = b)))
def mkg (ge : Nat → Nat) (o : Option Nat) : Nat := match o with
  | none => 1
  | some j => ge j + 1
def mkh (su : Nat → Int32) (o : Option Nat) : Int32 := match o with
  | none => nI 31
  | some j => nI 31 * su j
def mkr (x : Int32) : Int32 := x - x / nI 997 * nI 997
def mksu (ge : Nat → Nat) (su : Nat → Int32) (o : Option Nat) (v : Int32) (b : Bool) : Int32 := mkr (mkh su o + nI 7 * v + nI (mkg ge o) + (if b = true then nI 3 else nI 0))
def btr (dl : Nat → Bool) (ge : Nat → Nat) (su : Nat → Int32) (i j : Nat) : Bool := if dl i = dl j then (if ge i = ge j then (if su i = su j then decide (i < j) else !decide (su i ≤ su j)) else decide (ge j < ge i)) else dl j
def hasD (nl : Nat → Nat) (k : Nat) : Bool := decide (nl k ≠ 151)
def ends (hd : Nat → Bool) (nl : Nat → Nat) (k : Nat) : Bool := hd k && !hasD nl k
/-- one step of the search for leaves: k tells its parent -/
def flp (pa : Nat → Option Nat) (ge : Nat → Nat) (hd : Nat → Bool) (k : Nat) (x : Nat → Nat) : Nat → Nat := match pa k with
  | none => x
  | some j => va_up x j (min (x j) (if ends hd x k = true then ge k else x k))
def flS (pa : Nat → Option Nat) (ge : Nat → Nat) (hd : Nat → Bool) (n : Nat) : Nat → Nat → Nat
  | 0 => fun _ => 151
  | c + 1 => flp pa ge hd (n - (c + 1)) (flS pa ge hd n c)
theorem flp_n {pa : Nat → Option Nat} {ge : Nat → Nat} {hd : Nat → Bool} {k : Nat} {x : Nat → Nat} (h : pa k = none) : flp pa ge hd k x = x := by simp only [flp, h]
theorem flp_s {pa : Nat → Option Nat} {ge : Nat → Nat} {hd : Nat → Bool} {k j : Nat} {x : Nat → Nat} (h : pa k = some j) : flp pa ge hd k x = va_up x j (min (x j) (if ends hd x k = true then ge k else x k)) := by simp only [flp, h]
theorem flS_le {pa : Nat → Option Nat} {ge : Nat → Nat} {hd : Nat → Bool} {n : Nat} : ∀ (c k : Nat), flS pa ge hd n c k ≤ 151
  | 0, k => Nat.le_refl _
  | c + 1, k => by
    have ih := flS_le (pa := pa) (ge := ge) (hd := hd) (n := n) c
    show flp pa ge hd (n - (c + 1)) (flS pa ge hd n c) k ≤ 151
    cases hp : pa (n - (c + 1)) with
    | none => rw [flp_n hp]; exact ih k
    | some j =>
      rw [flp_s hp]
      by_cases h : k = j
      · subst h
        simp only [va_up, if_true]
        exact Nat.le_trans (Nat.min_le_left _ _) (ih _)
      · simp only [va_up, if_neg h]
        exact ih k
theorem flS_n {pa : Nat → Option Nat} {ge : Nat → Nat} {hd : Nat → Bool} {n c k : Nat} (e : k + (c + 1) = n) (h : pa k = none) : flS pa ge hd n c = flS pa ge hd n (c + 1) := by
  show _ = flp pa ge hd (n - (c + 1)) (flS pa ge hd n c)
  rw [show n - (c + 1) = k by omega, flp_n h]
theorem flS_s {pa : Nat → Option Nat} {ge : Nat → Nat} {hd : Nat → Bool} {n c k j y : Nat} (e : k + (c + 1) = n) (h : pa k = some j) (hy : (if ends hd (flS pa ge hd n c) k = true then ge k else flS pa ge hd n c k) = y) : va_up (flS pa ge hd n c) j (min (flS pa ge hd n c j) y) = flS pa ge hd n (c + 1) := by
  show _ = flp pa ge hd (n - (c + 1)) (flS pa ge hd n c)
  rw [show n - (c + 1) = k by omega, flp_s h, hy]
/-- one step of the search for winners -/
def fwp (dc : Nat → Nat) (dl : Nat → Bool) (ge : Nat → Nat) (su : Nat → Int32) (E : Nat → Bool) (k : Nat) (x : Nat → Option Nat) : Nat → Option Nat :=
  if E k = true then (match x (dc k) with
    | none => va_up x (dc k) (some k)
    | some b => if btr dl ge su k b = true then va_up x (dc k) (some k) else x) else x
def fwS (dc : Nat → Nat) (dl : Nat → Bool) (ge : Nat → Nat) (su : Nat → Int32) (E : Nat → Bool) : Nat → Nat → Option Nat
  | 0 => fun _ => none
  | k + 1 => fwp dc dl ge su E k (fwS dc dl ge su E k)
theorem fwp_x (dc : Nat → Nat) (dl : Nat → Bool) (ge : Nat → Nat) (su : Nat → Int32) (E : Nat → Bool) (k : Nat) (x : Nat → Option Nat) : fwp dc dl ge su E k x = x ∨ fwp dc dl ge su E k x = va_up x (dc k) (some k) := by
  by_cases hE : E k = true
  · cases hx : x (dc k) with
    | none => exact Or.inr (by simp only [fwp, if_pos hE, hx])
    | some b =>
      by_cases hb : btr dl ge su k b = true
      · exact Or.inr (by simp only [fwp, if_pos hE, hx, if_pos hb])
      · exact Or.inl (by simp only [fwp, if_pos hE, hx, if_neg hb])
  · exact Or.inl (by simp only [fwp, if_neg hE])
theorem fwS_lt {dc : Nat → Nat} {dl : Nat → Bool} {ge : Nat → Nat} {su : Nat → Int32} {E : Nat → Bool} : ∀ (k d j : Nat), fwS dc dl ge su E k d = some j → j < k
  | 0, d, j, h => by cases h
  | k + 1, d, j, h => by
    have ih := fwS_lt (dc := dc) (dl := dl) (ge := ge) (su := su) (E := E) k d j
    have h : fwp dc dl ge su E k (fwS dc dl ge su E k) d = some j := h
    rcases fwp_x dc dl ge su E k (fwS dc dl ge su E k) with e | e
    · rw [e] at h
      exact Nat.lt_succ_of_lt (ih h)
    · rw [e] at h
      by_cases hd : d = dc k
      · rw [hd] at h
        simp only [va_up, if_true] at h
        cases h
        exact Nat.lt_succ_self _
      · simp only [va_up, if_neg hd] at h
        exact Nat.lt_succ_of_lt (ih h)
/-- which revision is stemmed -/
def stC (hd : Nat → Bool) (nl ge : Nat → Nat) (dp : Int32) (k : Nat) : Bool := hd k && (hasD nl k && !decide (nI (nl k) - nI (ge k) < dp))
def stm (hd : Nat → Bool) (nl ge : Nat → Nat) (dp : Int32) (n : Nat) : Nat → Bool := fun i => hd i && !(decide (i < n) && stC hd nl ge dp i)
theorem stm_0 (hd : Nat → Bool) (nl ge : Nat → Nat) (dp : Int32) : hd = stm hd nl ge dp 0 := by
  funext i
  simp [stm]
theorem stm_k (hd : Nat → Bool) (nl ge : Nat → Nat) (dp : Int32) (k : Nat) : stm hd nl ge dp k k = hd k := by simp [stm]
theorem stm_f {hd : Nat → Bool} {nl ge : Nat → Nat} {dp : Int32} {k : Nat} (h : stC hd nl ge dp k = false) : stm hd nl ge dp k = stm hd nl ge dp (k + 1) := by
  funext i
  by_cases e : i = k
  · subst e
    simp [stm, h]
  · have e2 : decide (i < k + 1) = decide (i < k) := by
      by_cases q : i < k
      · simp [q, Nat.lt_succ_of_lt q]
      · simp [q]; omega
    simp [stm, e2]
theorem stm_t {hd : Nat → Bool} {nl ge : Nat → Nat} {dp : Int32} {k : Nat} (h : stC hd nl ge dp k = true) : va_up (stm hd nl ge dp k) k false = stm hd nl ge dp (k + 1) := by
  funext i
  by_cases e : i = k
  · subst e
    simp [stm, h, va_up]
  · have e2 : decide (i < k + 1) = decide (i < k) := by
      by_cases q : i < k
      · simp [q, Nat.lt_succ_of_lt q]
      · simp [q]; omega
    simp [stm, e2, va_up, e]
/-- the first k fall -/
def rem (hd : Nat → Bool) (k : Nat) : Nat → Bool := fun i => hd i && !decide (i < k)
theorem rem_0 (hd : Nat → Bool) : hd = rem hd 0 := by
  funext i
  simp [rem]
theorem rem_s (hd : Nat → Bool) (k : Nat) : va_up (rem hd k) k false = rem hd (k + 1) := by
  funext i
  by_cases e : i = k
  · subst e; simp [rem, va_up]
  · have e2 : decide (i < k + 1) = decide (i < k) := by
      by_cases q : i < k
      · simp [q, Nat.lt_succ_of_lt q]
      · simp [q]; omega
    simp [rem, e2, va_up, e]
/-- the first k are united -/
def uni (hd oh : Nat → Bool) (k : Nat) : Nat → Bool := fun i => hd i || (decide (i < k) && oh i)
theorem uni_0 (hd oh : Nat → Bool) : hd = uni hd oh 0 := by
  funext i
  simp [uni]
theorem uni_k (hd oh : Nat → Bool) (k : Nat) : uni hd oh k k = hd k := by simp [uni]
theorem uni_s (hd oh : Nat → Bool) (k : Nat) : va_up (uni hd oh k) k (hd k || oh k) = uni hd oh (k + 1) := by
  funext i
  by_cases e : i = k
  · subst e; simp [uni, va_up]
  · have e2 : decide (i < k + 1) = decide (i < k) := by
      by_cases q : i < k
      · simp [q, Nat.lt_succ_of_lt q]
      · simp [q]; omega
    simp [uni, e2, va_up, e]
/-- a line of ancestors is added -/
def ln (pa : Nat → Option Nat) (oh : Nat → Bool) : Nat → Option Nat → Nat → (Nat → Bool) → Nat × (Nat → Bool)
  | 0, _, c, x => (c, x)
  | _ + 1, none, c, x => (c, x)
  | f + 1, some j, c, x => if (oh j && !x j) = true then ln pa oh f (pa j) (c + 1) (va_up x j true) else ln pa oh f (pa j) c x
theorem ln_none (pa : Nat → Option Nat) (oh : Nat → Bool) (f c : Nat) (x : Nat → Bool) : ln pa oh f none c x = (c, x) := by cases f <;> rfl
theorem ln_t {pa : Nat → Option Nat} {oh : Nat → Bool} {f g j c : Nat} {x : Nat → Bool} (hf : f = g + 1) (h1 : oh j = true) (h2 : x j = false) : ln pa oh f (some j) c x = ln pa oh g (pa j) (c + 1) (va_up x j true) := by
  subst hf
  simp [ln, h1, h2]
theorem ln_f {pa : Nat → Option Nat} {oh : Nat → Bool} {f g j c : Nat} {x : Nat → Bool} (hf : f = g + 1) (h : (oh j && !x j) = false) : ln pa oh f (some j) c x = ln pa oh g (pa j) c x := by
  subst hf
  show (if (oh j && !x j) = true then _ else _) = _
  rw [if_neg (by rw [h]; decide)]
theorem ln_le (pa : Nat → Option Nat) (oh : Nat → Bool) : ∀ (f : Nat) (o : Option Nat) (c : Nat) (x : Nat → Bool), (ln pa oh f o c x).1 ≤ c + f
  | 0, _, c, x => Nat.le_refl _
  | f + 1, none, c, x => by show c ≤ _; omega
  | f + 1, some j, c, x => by
    have h1 := ln_le pa oh f (pa j) (c + 1) (va_up x j true)
    have h2 := ln_le pa oh f (pa j) c x
    unfold ln
    split <;> omega
/-- the branches of a document -/
def abC (dc : Nat → Nat) (oe : Nat → Bool) (nl : Nat → Nat) (d k : Nat) (x : Nat → Bool) : Bool := decide (dc k = d) && (oe k && (!x k && !hasD nl k))
def abp (dc : Nat → Nat) (pa : Nat → Option Nat) (oh oe : Nat → Bool) (nl : Nat → Nat) (d k : Nat) (x : Nat × (Nat → Bool)) : Nat × (Nat → Bool) := if abC dc oe nl d k x.2 = true then (x.1 + (ln pa oh 150 (some k) 0 x.2).1, (ln pa oh 150 (some k) 0 x.2).2) else x
def abS (dc : Nat → Nat) (pa : Nat → Option Nat) (oh oe : Nat → Bool) (nl : Nat → Nat) (d : Nat) (hd : Nat → Bool) : Nat → Nat × (Nat → Bool)
  | 0 => (0, hd)
  | k + 1 => abp dc pa oh oe nl d k (abS dc pa oh oe nl d hd k)
theorem abS_le (dc : Nat → Nat) (pa : Nat → Option Nat) (oh oe : Nat → Bool) (nl : Nat → Nat) (d : Nat) (hd : Nat → Bool) : ∀ k, (abS dc pa oh oe nl d hd k).1 ≤ 150 * k
  | 0 => Nat.le_refl _
  | k + 1 => by
    have h1 := abS_le dc pa oh oe nl d hd k
    have h2 := ln_le pa oh 150 (some k) 0 (abS dc pa oh oe nl d hd k).2
    show (abp _ _ _ _ _ _ _ _).1 ≤ _
    unfold abp
    split
    · show _ + _ ≤ _
      omega
    · omega
theorem abS_t {dc : Nat → Nat} {pa : Nat → Option Nat} {oh oe : Nat → Bool} {nl : Nat → Nat} {d : Nat} {hd : Nat → Bool} {k : Nat} (h : abC dc oe nl d k (abS dc pa oh oe nl d hd k).2 = true) : abS dc pa oh oe nl d hd (k + 1) = ((abS dc pa oh oe nl d hd k).1 + (ln pa oh 150 (some k) 0 (abS dc pa oh oe nl d hd k).2).1, (ln pa oh 150 (some k) 0 (abS dc pa oh oe nl d hd k).2).2) := by
  show abp _ _ _ _ _ _ _ _ = _
  unfold abp
  rw [if_pos h]
theorem abS_f {dc : Nat → Nat} {pa : Nat → Option Nat} {oh oe : Nat → Bool} {nl : Nat → Nat} {d : Nat} {hd : Nat → Bool} {k : Nat} (h : abC dc oe nl d k (abS dc pa oh oe nl d hd k).2 = false) : abS dc pa oh oe nl d hd (k + 1) = abS dc pa oh oe nl d hd k := by
  show abp _ _ _ _ _ _ _ _ = _
  unfold abp
  rw [if_neg (by rw [h]; decide)]
/-- the shown value of a document -/
def shv (dl : Nat → Bool) (va : Nat → Int32) (wi : Nat → Option Nat) (d : Nat) : Int32 := match wi d with
  | none => -1
  | some j => if dl j = true then -1 else va j
def bfC (f : Nat → Int32) (v : Int32) (d o : Nat) : Bool := decide (f o ≠ -1) && (decide (f o < v) || (decide (f o = v) && decide (o < d)))
/-- the document with the least sequence above a number -/
def nxp (ch : Nat → Int32) (a : Int32) (k : Nat) (x : Option Nat) : Option Nat := if ch k ≤ a then x else (match x with
  | none => some k
  | some b => if ch b ≤ ch k then some b else some k)
def nxS (ch : Nat → Int32) (a : Int32) : Nat → Option Nat
  | 0 => none
  | k + 1 => nxp ch a k (nxS ch a k)
theorem nxp_x (ch : Nat → Int32) (a : Int32) (k : Nat) (x : Option Nat) : nxp ch a k x = x ∨ nxp ch a k x = some k := by
  by_cases h : ch k ≤ a
  · exact Or.inl (by simp only [nxp, if_pos h])
  · cases x with
    | none => exact Or.inr (by simp only [nxp, if_neg h])
    | some b =>
      by_cases hb : ch b ≤ ch k
      · exact Or.inl (by simp only [nxp, if_neg h, if_pos hb])
      · exact Or.inr (by simp only [nxp, if_neg h, if_neg hb])
theorem nxS_lt (ch : Nat → Int32) (a : Int32) : ∀ (k j : Nat), nxS ch a k = some j → j < k
  | 0, j, h => by cases h
  | k + 1, j, h => by
    have ih := nxS_lt ch a k
    have h : nxp ch a k (nxS ch a k) = some j := h
    rcases nxp_x ch a k (nxS ch a k) with e | e
    · rw [e] at h
      exact Nat.lt_succ_of_lt (ih _ h)
    · rw [e] at h
      cases h
      exact Nat.lt_succ_self _
/-- the first k are x -/
def fil (f : Nat → Int32) (x : Int32) (k : Nat) : Nat → Int32 := fun j => if j < k then x else f j
theorem fil_0 (f : Nat → Int32) (x : Int32) : f = fil f x 0 := by
  funext j
  simp [fil]
theorem fil_s (f : Nat → Int32) (x : Int32) (k : Nat) : va_up (fil f x k) k x = fil f x (k + 1) := by
  funext i
  by_cases e : i = k
  · subst e; simp [fil, va_up]
  · have e2 : (i < k + 1) = (i < k) := propext ⟨fun h => by omega, fun h => by omega⟩
    simp [fil, e2, va_up, e]
def llC (dc : Nat → Nat) (dl E : Nat → Bool) (d k : Nat) : Bool := decide (dc k = d) && (E k && !dl k)
def ccC (ch : Nat → Int32) (x : Int32) (k : Nat) : Bool := !decide (ch k ≤ x)
end
section
/-! what the reference's methods reckon, and rows for it -/
def inn (v lo hi : Int32) : Bool := !decide (v < lo) && !decide (hi < v)
theorem inn_t {s h : Nat} (hs : s ≤ h) (hh : h < 2 ^ 31) : inn (nI s) (nI 0) (nI h) = true := by
  have h1 : ¬ nI s < nI 0 := nI_nlt (Nat.zero_le _) (by omega)
  have h2 : ¬ nI h < nI s := nI_nlt hs hh
  simp [inn, h1, h2]
theorem inn_t1 {s h : Nat} (h0 : 1 ≤ s) (hs : s ≤ h) (hh : h < 2 ^ 31) : inn (nI s) (nI 1) (nI h) = true := by
  have h1 : ¬ nI s < nI 1 := nI_nlt h0 (by omega)
  have h2 : ¬ nI h < nI s := nI_nlt hs hh
  simp [inn, h1, h2]
theorem inn_r {r n : Nat} (h : r < n) (hn : n ≤ 150) : inn (nI r) (nI 0) (eP (prd n)) = true := by
  cases n with
  | zero => omega
  | succ j => exact inn_t (h := j) (by omega) (by omega)
def gof (a b c : Bool) : Int32 := if a = true then (if b = true then (if c = true then nI 0 else nI 3) else nI 2) else nI 1
theorem gof0 {a b c : Bool} (h : gof a b c = 0) : (a && (b && c)) = true := by
  cases a <;> cases b <;> cases c <;> first | rfl | exact absurd h (by decide)
theorem gof1 {a b c : Bool} (h : ¬ gof a b c = 0) : (a && (b && c)) = false := by
  cases a <;> cases b <;> cases c <;> first | rfl | exact absurd rfl h
/-- up the parents, while the number is above r -/
def wk (pa : Nat → Option Nat) (r : Nat) : Nat → Option Nat → Option Nat
  | 0, o => o
  | _ + 1, none => none
  | f + 1, some j => if r < j then wk pa r f (pa j) else some j
theorem wk_stop {pa : Nat → Option Nat} {r : Nat} {o : Option Nat} (h : ∀ j, o = some j → j ≤ r) : ∀ f, wk pa r f o = o
  | 0 => rfl
  | f + 1 => by
    cases o with
    | none => rfl
    | some j => simp only [wk, if_neg (Nat.not_lt.mpr (h j rfl))]
theorem wk_up {pa : Nat → Option Nat} {r j g : Nat} (h : r < j) : wk pa r (g + 1) (some j) = wk pa r g (pa j) := by simp only [wk, if_pos h]
def anc (pa : Nat → Option Nat) (r k : Nat) : Bool := decide (wk pa r 150 (some k) = some r) && decide (k ≠ r)
theorem anc_le {pa : Nat → Option Nat} {r k : Nat} (h : k ≤ r) : anc pa r k = false := by
  have h1 : wk pa r 150 (some k) = some k := wk_stop (fun j hj => by cases hj; exact h) 150
  unfold anc
  rw [h1]
  by_cases e : k = r
  · simp [e]
  · simp [e]
/-- whether a number below n has P -/
def any (P : Nat → Bool) : Nat → Bool
  | 0 => false
  | k + 1 => any P k || P k
theorem any_iff {P : Nat → Bool} : ∀ {n : Nat}, any P n = true ↔ ∃ k, k < n ∧ P k = true
  | 0 => ⟨fun h => (by cases h), fun ⟨k, h, _⟩ => absurd h (Nat.not_lt_zero k)⟩
  | n + 1 => by
    show (any P n || P n) = true ↔ _
    rw [Bool.or_eq_true, any_iff (n := n)]
    constructor
    · rintro (⟨k, h1, h2⟩ | h)
      · exact ⟨k, Nat.lt_succ_of_lt h1, h2⟩
      · exact ⟨n, Nat.lt_succ_self n, h⟩
    · rintro ⟨k, h1, h2⟩
      rcases Nat.lt_or_ge k n with q | q
      · exact Or.inl ⟨k, q, h2⟩
      · exact Or.inr (by rw [show n = k by omega]; exact h2)
theorem any_no {P : Nat → Bool} {n : Nat} (h : ∀ k, k < n → P k = false) : any P n = false := by
  cases e : any P n with
  | false => rfl
  | true =>
    obtain ⟨k, h1, h2⟩ := any_iff.mp e
    rw [h k h1] at h2
    cases h2
theorem any_hit {P : Nat → Bool} {k n : Nat} (hk : k < n) (h : P k = true) : any P n = true := any_iff.mpr ⟨k, hk, h⟩
def hsP (pa : Nat → Option Nat) (mk : Nat → Bool) (s r k : Nat) : Bool := mk ((150 * s) + k) && anc pa r k
def lef (pa : Nat → Option Nat) (mk : Nat → Bool) (s n r : Nat) : Bool := mk ((150 * s) + r) && !any (hsP pa mk s r) n
theorem hsP_0 (pa : Nat → Option Nat) (mk : Nat → Bool) (s r : Nat) : any (hsP pa mk s r) (r + 1) = false := any_no (fun k h => by simp [hsP, anc_le (pa := pa) (Nat.le_of_lt_succ h)])
def bsp (dc : Nat → Nat) (dl : Nat → Bool) (ge : Nat → Nat) (su : Nat → Int32) (L : Nat → Bool) (d k : Nat) (x : Option Nat) : Option Nat :=
  if (decide (dc k = d) && L k) = true then (match x with
    | none => some k
    | some b => if btr dl ge su k b = true then some k else some b) else x
def bsS (dc : Nat → Nat) (dl : Nat → Bool) (ge : Nat → Nat) (su : Nat → Int32) (L : Nat → Bool) (d : Nat) : Nat → Option Nat
  | 0 => none
  | k + 1 => bsp dc dl ge su L d k (bsS dc dl ge su L d k)
theorem bsp_x (dc : Nat → Nat) (dl : Nat → Bool) (ge : Nat → Nat) (su : Nat → Int32) (L : Nat → Bool) (d k : Nat) (x : Option Nat) : bsp dc dl ge su L d k x = x ∨ bsp dc dl ge su L d k x = some k := by
  by_cases h : (decide (dc k = d) && L k) = true
  · cases x with
    | none => exact Or.inr (by simp only [bsp, if_pos h])
    | some b =>
      by_cases hb : btr dl ge su k b = true
      · exact Or.inr (by simp only [bsp, if_pos h, if_pos hb])
      · exact Or.inl (by simp only [bsp, if_pos h, if_neg hb])
  · exact Or.inl (by simp only [bsp, if_neg h])
theorem bsS_lt (dc : Nat → Nat) (dl : Nat → Bool) (ge : Nat → Nat) (su : Nat → Int32) (L : Nat → Bool) (d : Nat) : ∀ (k j : Nat), bsS dc dl ge su L d k = some j → j < k
  | 0, j, h => by cases h
  | k + 1, j, h => by
    have ih := bsS_lt dc dl ge su L d k
    have h : bsp dc dl ge su L d k (bsS dc dl ge su L d k) = some j := h
    rcases bsp_x dc dl ge su L d k (bsS dc dl ge su L d k) with e | e
    · rw [e] at h
      exact Nat.lt_succ_of_lt (ih _ h)
    · rw [e] at h
      cases h
      exact Nat.lt_succ_self _
def dpQ (pa : Nat → Option Nat) (mk : Nat → Bool) (s n r k : Nat) : Bool := anc pa r k && lef pa mk s n k
def dpR (pa : Nat → Option Nat) (mk : Nat → Bool) (ge : Nat → Nat) (dp : Nat → Int32) (s n r k : Nat) : Bool := dpQ pa mk s n r k && !decide (nI (ge r) + dp s ≤ nI (ge k))
def dep (pa : Nat → Option Nat) (mk : Nat → Bool) (ge : Nat → Nat) (dp : Nat → Int32) (s n r : Nat) : Bool := any (dpQ pa mk s n r) n && !any (dpR pa mk ge dp s n r) n
theorem dpQ_0 (pa : Nat → Option Nat) (mk : Nat → Bool) (s n r : Nat) : any (dpQ pa mk s n r) (r + 1) = false := any_no (fun k h => by simp [dpQ, anc_le (pa := pa) (Nat.le_of_lt_succ h)])
theorem dpR_0 (pa : Nat → Option Nat) (mk : Nat → Bool) (ge : Nat → Nat) (dp : Nat → Int32) (s n r : Nat) : any (dpR pa mk ge dp s n r) (r + 1) = false := any_no (fun k h => by simp [dpR, dpQ, anc_le (pa := pa) (Nat.le_of_lt_succ h)])
def smp (pa : Nat → Option Nat) (ge : Nat → Nat) (dp : Nat → Int32) (s n k : Nat) (x : Nat × (Nat → Bool)) : Nat × (Nat → Bool) := if (x.2 ((150 * s) + k) && dep pa x.2 ge dp s n k) = true then (x.1 + 1, va_up x.2 ((150 * s) + k) false) else x
def smS (pa : Nat → Option Nat) (ge : Nat → Nat) (dp : Nat → Int32) (s n : Nat) (mk : Nat → Bool) : Nat → Nat × (Nat → Bool)
  | 0 => (0, mk)
  | k + 1 => smp pa ge dp s n k (smS pa ge dp s n mk k)
theorem smS_t {pa : Nat → Option Nat} {ge : Nat → Nat} {dp : Nat → Int32} {s n : Nat} {mk : Nat → Bool} {k : Nat} (h1 : (smS pa ge dp s n mk k).2 ((150 * s) + k) = true) (h2 : dep pa (smS pa ge dp s n mk k).2 ge dp s n k = true) : smS pa ge dp s n mk (k + 1) = ((smS pa ge dp s n mk k).1 + 1, va_up (smS pa ge dp s n mk k).2 ((150 * s) + k) false) := by
  show smp pa ge dp s n k _ = _
  unfold smp
  rw [if_pos (by rw [h1, h2]; rfl)]
theorem smS_f {pa : Nat → Option Nat} {ge : Nat → Nat} {dp : Nat → Int32} {s n : Nat} {mk : Nat → Bool} {k : Nat} (h : ((smS pa ge dp s n mk k).2 ((150 * s) + k) && dep pa (smS pa ge dp s n mk k).2 ge dp s n k) = false) : smS pa ge dp s n mk (k + 1) = smS pa ge dp s n mk k := by
  show smp pa ge dp s n k _ = _
  unfold smp
  rw [if_neg (by rw [h]; decide)]
def cne (dc : Nat → Nat) (L : Nat → Bool) (b : Option Nat) (n d : Nat) (o : Option Nat) : Bool := (match o with
  | none => decide (b = none)
  | some r => decide (dc r = d) && L r) && decide (n < 150)
def bN (b : Bool) : Nat := if b = true then 1 else 0
/-- a line of ancestors, in the row of marks: f the first store, t the other -/
def lm (pa : Nat → Option Nat) (f t : Nat) : Nat → Option Nat → Nat → (Nat → Bool) → Nat × (Nat → Bool)
  | 0, _, c, x => (c, x)
  | _ + 1, none, c, x => (c, x)
  | g + 1, some j, c, x => lm pa f t g (pa j) (c + bN (x ((150 * f) + j) && !x ((150 * t) + j))) (va_up x ((150 * t) + j) ((x ((150 * f) + j) && !x ((150 * t) + j)) || x ((150 * t) + j)))
theorem lm_none (pa : Nat → Option Nat) (f t g c : Nat) (x : Nat → Bool) : lm pa f t g none c x = (c, x) := by cases g <;> rfl
def gtC (dc : Nat → Nat) (pa : Nat → Option Nat) (f t n d k : Nat) (x : Nat → Bool) : Bool := decide (dc k = d) && (lef pa x f n k && (!x ((150 * t) + k) && !any (hsP pa x t k) n))
def gtp (dc : Nat → Nat) (pa : Nat → Option Nat) (f t n d k : Nat) (x : Nat × (Nat → Bool)) : Nat × (Nat → Bool) := if gtC dc pa f t n d k x.2 = true then lm pa f t 150 (some k) x.1 x.2 else x
def gtS (dc : Nat → Nat) (pa : Nat → Option Nat) (f t n d : Nat) (mk : Nat → Bool) : Nat → Nat × (Nat → Bool)
  | 0 => (0, mk)
  | k + 1 => gtp dc pa f t n d k (gtS dc pa f t n d mk k)
theorem bN_le (b : Bool) : bN b ≤ 1 := by cases b <;> decide
theorem lm_le (pa : Nat → Option Nat) (f t : Nat) : ∀ (g : Nat) (o : Option Nat) (c : Nat) (x : Nat → Bool), (lm pa f t g o c x).1 ≤ c + g
  | 0, _, c, x => Nat.le_refl _
  | g + 1, none, c, x => by show c ≤ _; omega
  | g + 1, some j, c, x => by
    have h1 := lm_le pa f t g (pa j) (c + bN (x ((150 * f) + j) && !x ((150 * t) + j))) (va_up x ((150 * t) + j) ((x ((150 * f) + j) && !x ((150 * t) + j)) || x ((150 * t) + j)))
    have h2 := bN_le (x ((150 * f) + j) && !x ((150 * t) + j))
    show (lm pa f t g (pa j) _ _).1 ≤ _
    omega
theorem gtS_le (dc : Nat → Nat) (pa : Nat → Option Nat) (f t n d : Nat) (mk : Nat → Bool) : ∀ k, (gtS dc pa f t n d mk k).1 ≤ 150 * k
  | 0 => Nat.le_refl _
  | k + 1 => by
    have h1 := gtS_le dc pa f t n d mk k
    have h2 := lm_le pa f t 150 (some k) (gtS dc pa f t n d mk k).1 (gtS dc pa f t n d mk k).2
    show (gtp dc pa f t n d k _).1 ≤ _
    unfold gtp
    split <;> omega
def lkC (kp : Nat → Int32) (f t : Nat) : Int32 := if kp ((9 * t) + (3 * f) + t) ≤ kp ((9 * f) + (3 * f) + t) then kp ((9 * t) + (3 * f) + t) else kp ((9 * f) + (3 * f) + t)
section RWS3
variable {p : Program} {l : Launch} {e : Env} {R : Room} {s : State} {m : MethodId} {args : Array Value} {below : List Frame} {meth : Method} {c : Code} {H : Heap} {locs : List Loc} {cells slots : Nat} {Q : State → Prop}
variable {cc : ByteArray} {pc : Nat} {ls : Array Slot} {rest : List Value}
theorem r_icmp_leP (hexec : p.tables.exec = Jvm.exec) (hb : c.code = cc) {x : Option Nat} {y : Nat} (hx : ∀ j, x = some j → j < 2 ^ 31) (hy : y < 2 ^ 31) {off : Int} {tgt : Nat} (hdg : decode cc pc = .ok (.if_icmp .le off, 3)) (ht : (pc : Int) + off = (tgt : Int))
    (kt : (∀ j, x = some j → j ≤ y) → W p l e R s m args below meth c H locs cells slots Q (F0 m tgt ls rest)) (kf : ∀ j, x = some j → y < j → W p l e R s m args below meth c H locs cells slots Q (F0 m (pc + 3) ls rest)) : W p l e R s m args below meth c H locs cells slots Q (F0 m pc ls (.int (nI y) :: .int (eP x) :: rest)) := by
  cases x with
  | none =>
    refine lv_icmp_le hexec hb hdg ht (fun _ => kt (fun j h => by cases h)) (fun h => absurd ?_ h)
    have h1 : (0 : Int32) ≤ nI y := nI_pos' hy
    have h2 : (eP none).toInt = -1 := by decide
    have h3 : (nI y).toInt = (y : Int) := nI_toInt hy
    show (eP none) ≤ nI y
    rw [Int32.le_iff_toInt_le, h2, h3]
    omega
  | some j =>
    refine lv_icmp_le hexec hb hdg ht (fun h => kt (fun i hi => ?_)) (fun h => kf j rfl (Nat.lt_of_not_le (fun z => h ((nI_leI (hx j rfl) hy).mpr z))))
    cases hi
    exact (nI_leI (hx j rfl) hy).mp h
theorem r_icmp_nePN (hexec : p.tables.exec = Jvm.exec) (hb : c.code = cc) {x : Option Nat} {y : Nat} (hx : ∀ j, x = some j → j < 2 ^ 31) (hy : y < 2 ^ 31) {off : Int} {tgt : Nat} (hdg : decode cc pc = .ok (.if_icmp .ne off, 3)) (ht : (pc : Int) + off = (tgt : Int))
    (kt : ¬ x = some y → W p l e R s m args below meth c H locs cells slots Q (F0 m tgt ls rest)) (kf : x = some y → W p l e R s m args below meth c H locs cells slots Q (F0 m (pc + 3) ls rest)) : W p l e R s m args below meth c H locs cells slots Q (F0 m pc ls (.int (nI y) :: .int (eP x) :: rest)) := by
  have e0 : eP x = nI y ↔ x = some y := eP_inj (b := some y) hx (fun j h => by cases h; exact hy)
  exact lv_icmp_ne hexec hb hdg ht (fun h => kt (fun z => h (e0.mpr z))) (fun h => kf (e0.mp h))
end RWS3
theorem up_Tp {n : Nat} {pa : Nat → Option Nat} {o : Option Nat} (hTp : ∀ k j, k < n → pa k = some j → j < k) (ho : ∀ j, o = some j → j < n) : ∀ k j, k < n + 1 → va_up pa n o k = some j → j < k := by
  intro k j hk h
  by_cases e : k = n
  · subst e
    simp only [va_up, if_true] at h
    exact ho j h
  · simp only [va_up, if_neg e] at h
    exact hTp k j (by omega) h
theorem up_Tg {n x : Nat} {ge : Nat → Nat} (hTg : ∀ k, ge k ≤ 150) (hx : x ≤ 150) : ∀ k, va_up ge n x k ≤ 150 := by
  intro k
  by_cases e : k = n
  · simp only [va_up, if_pos e]; exact hx
  · simp only [va_up, if_neg e]; exact hTg k
theorem up_Td {n x : Nat} {dc : Nat → Nat} (hTd : ∀ k, dc k < 4) (hx : x < 4) : ∀ k, va_up dc n x k < 4 := by
  intro k
  by_cases e : k = n
  · simp only [va_up, if_pos e]; exact hx
  · simp only [va_up, if_neg e]; exact hTd k
def mrw (mk : Nat → Bool) (i k : Nat) : Bool := mk ((150 * i) + k)
def remM (mk : Nat → Bool) (i k : Nat) : Nat → Bool := fun q => mk q && !(decide (150 * i ≤ q) && decide (q < 150 * i + k))
theorem remM_0 (mk : Nat → Bool) (i : Nat) : mk = remM mk i 0 := by
  funext q
  have : (decide (150 * i ≤ q) && decide (q < 150 * i + 0)) = false := by
    by_cases h : 150 * i ≤ q
    · simp [h]
    · simp [h]
  simp only [remM, this, Bool.not_false, Bool.and_true]
theorem remM_k (mk : Nat → Bool) (i k : Nat) : remM mk i k ((150 * i) + k) = mrw mk i k := by simp [remM, mrw]
theorem remM_s (mk : Nat → Bool) (i k : Nat) : va_up (remM mk i k) ((150 * i) + k) false = remM mk i (k + 1) := by
  funext q
  by_cases e : q = 150 * i + k
  · subst e; simp [remM, va_up]
  · have e2 : (decide (150 * i ≤ q) && decide (q < 150 * i + (k + 1))) = (decide (150 * i ≤ q) && decide (q < 150 * i + k)) := by
      by_cases h1 : 150 * i ≤ q
      · by_cases h2 : q < 150 * i + k
        · simp [h1, h2]; omega
        · simp [h1, h2]; omega
      · simp [h1]
    simp only [va_up, if_neg e, remM, e2]
def clr (f : Nat → Int32) (a k : Nat) : Nat → Int32 := fun q => if a ≤ q ∧ q < a + k then nI 0 else f q
theorem clr_0 (f : Nat → Int32) (a : Nat) : f = clr f a 0 := by
  funext q
  have : ¬ (a ≤ q ∧ q < a + 0) := by omega
  simp only [clr, if_neg this]
theorem clr_s (f : Nat → Int32) (a k : Nat) : va_up (clr f a k) (a + k) (nI 0) = clr f a (k + 1) := by
  funext q
  by_cases e : q = a + k
  · have h : a ≤ q ∧ q < a + (k + 1) := by omega
    simp only [va_up, if_pos e, clr, if_pos h]
  · by_cases h : a ≤ q ∧ q < a + k
    · have h2 : a ≤ q ∧ q < a + (k + 1) := by omega
      simp only [va_up, if_neg e, clr, if_pos h, if_pos h2]
    · have h2 : ¬ (a ≤ q ∧ q < a + (k + 1)) := by omega
      simp only [va_up, if_neg e, clr, if_neg h, if_neg h2]
def tcr (tc : Nat → Int32) (i k : Nat) : Int32 := tc ((4 * i) + k)
end
section
set_option maxHeartbeats 8000000 in
set_option maxRecDepth 100000 in
theorem cX4_in_ok (l : Launch) (D : va_G) (ct : Nat → ClassId) (x : Int32) (lo : Int32) (hi : Int32)  : Met l yX4_in wsX4_in ({ frames := 0, cells := 0, slots := 0, locals := 0 } : Room) (roPc D ct [.int x, .int lo, .int hi] (([] : va_W))) (rqI (bI (inn x lo hi))) 0 0 (fun _ => False) := by
  refine Met.ofW (cc := cX4_in) (maxL := 3) (ret := (some .boolean)) (by decide) rfl ?_
  intro p e s m args below meth c s₁ B hml hv
  obtain ⟨rfl, hP, hK⟩ := hv
  have hx := B.exec
  have hb := B.bytes
  have hr := B.returns
  have hts := atoms_spec (ws := wsX4_in) B.pre
  have hown : s.vm.findClass RX4 = some m.cls := findClass_of_methodNamed B.named
  have hlocks := B.notSynchronized
  have hl := lv_entry ([.int x, .int lo, .int hi]) (n := 3) (Nat.le_of_ble_eq_true rfl)
  rw [lg_entry_eq]
  generalize (lg_sl ([.int x, .int lo, .int hi]) ++ List.replicate (3 - (lg_sl ([.int x, .int lo, .int hi])).length) Slot.unset).toArray = ls at hl ⊢
  have hl : lv_has ls 3 [(0, .int x), (1, .int lo), (2, .int hi)] := hl
  refine lv_iload_n hx hb dX4_in_0 rfl (lv_at hl 0 rfl) ?_
  refine lv_iload_n hx hb dX4_in_1 rfl (lv_at hl 1 rfl) ?_
  refine lv_icmp_lt (x := x) (y := lo) (tgt := 14) hx hb dX4_in_2 (by decide) (fun c2 => ?_) (fun c2 => ?_)
  · refine lv_iconst (v := nI 0) hx hb dX4_in_14 (by decide) ?_
    refine r_top (y := bI (inn x lo hi)) (congrArg bI (show false = (inn x lo hi) from by simp [inn, c2])) ?_
    exact W.zret hx hb hr (bI_narrow _) (fun t ht hW => ⟨_, rfl, rfl, ht⟩) (fun _ h => by cases h) dX4_in_15
  · refine lv_iload_n hx hb dX4_in_5 rfl (lv_at hl 0 rfl) ?_
    refine lv_iload_n hx hb dX4_in_6 rfl (lv_at hl 2 rfl) ?_
    refine lv_icmp_gt (x := x) (y := hi) (tgt := 14) hx hb dX4_in_7 (by decide) (fun c7 => ?_) (fun c7 => ?_)
    · refine lv_iconst (v := nI 0) hx hb dX4_in_14 (by decide) ?_
      refine r_top (y := bI (inn x lo hi)) (congrArg bI (show false = (inn x lo hi) from by simp [inn, c2, c7])) ?_
      exact W.zret hx hb hr (bI_narrow _) (fun t ht hW => ⟨_, rfl, rfl, ht⟩) (fun _ h => by cases h) dX4_in_15
    · refine lv_iconst (v := nI 1) hx hb dX4_in_10 (by decide) ?_
      refine lv_goto (tgt := 15) hx hb dX4_in_11 (by decide) ?_
      refine r_top (y := bI (inn x lo hi)) (congrArg bI (show true = (inn x lo hi) from by simp [inn, c2, c7])) ?_
      exact W.zret hx hb hr (bI_narrow _) (fun t ht hW => ⟨_, rfl, rfl, ht⟩) (fun _ h => by cases h) dX4_in_15
set_option maxHeartbeats 8000000 in
set_option maxRecDepth 100000 in
theorem cX4_isStore_ok (l : Launch) (D : va_G) (ct : Nat → ClassId) (x : Int32)  : Met l yX4_isStore wsX4_isStore ({ frames := 1, cells := 0, slots := 0, locals := 22 } : Room) (roPc D ct [.int x] (([] : va_W))) (rqI (bI (inn x (nI 0) (nI 2)))) 0 0 (fun _ => False) := by
  refine Met.ofW (cc := cX4_isStore) (maxL := 1) (ret := (some .boolean)) (by decide) rfl ?_
  intro p e s m args below meth c s₁ B hml hv
  obtain ⟨rfl, hP, hK⟩ := hv
  have hx := B.exec
  have hb := B.bytes
  have hr := B.returns
  have hts := atoms_spec (ws := wsX4_isStore) B.pre
  have hown : s.vm.findClass RX4 = some m.cls := findClass_of_methodNamed B.named
  have hlocks := B.notSynchronized
  have hl := lv_entry ([.int x]) (n := 1) (Nat.le_of_ble_eq_true rfl)
  rw [lg_entry_eq]
  generalize (lg_sl ([.int x]) ++ List.replicate (1 - (lg_sl ([.int x])).length) Slot.unset).toArray = ls at hl ⊢
  have hl : lv_has ls 1 [(0, .int x)] := hl
  refine lv_iload_n hx hb dX4_isStore_0 rfl (lv_at hl 0 rfl) ?_
  refine lv_iconst (v := nI 0) hx hb dX4_isStore_1 (by decide) ?_
  refine lv_iconst (v := nI 2) hx hb dX4_isStore_2 (by decide) ?_
  refine r_cS (As := [.int x, .int (nI 0), .int (nI 2)]) (rest := []) ⟨hx, hb, hml, hown, hts⟩ (cX4_in_ok l D ct x (nI 0) (nI 2) ) (va_cwS 3 hts gX4_isStore_X4_in rfl rfl rfl (by decide +kernel) ⟨Nat.le_of_ble_eq_true rfl, Nat.le_of_ble_eq_true rfl⟩) hK va_Pnil rfl hl.1 rfl (Nat.le_of_ble_eq_true rfl) dX4_isStore_3 ⟨Nat.le_of_ble_eq_true rfl, Nat.le_of_ble_eq_true rfl⟩ ?_
  exact W.zret hx hb hr (bI_narrow _) (fun t ht hW => ⟨_, rfl, rfl, ht⟩) (fun _ h => by cases h) dX4_isStore_6
set_option maxHeartbeats 8000000 in
set_option maxRecDepth 100000 in
theorem cX4_isDocument_ok (l : Launch) (D : va_G) (ct : Nat → ClassId) (x : Int32)  : Met l yX4_isDocument wsX4_isDocument ({ frames := 1, cells := 0, slots := 0, locals := 22 } : Room) (roPc D ct [.int x] (([] : va_W))) (rqI (bI (inn x (nI 0) (nI 3)))) 0 0 (fun _ => False) := by
  refine Met.ofW (cc := cX4_isDocument) (maxL := 1) (ret := (some .boolean)) (by decide) rfl ?_
  intro p e s m args below meth c s₁ B hml hv
  obtain ⟨rfl, hP, hK⟩ := hv
  have hx := B.exec
  have hb := B.bytes
  have hr := B.returns
  have hts := atoms_spec (ws := wsX4_isDocument) B.pre
  have hown : s.vm.findClass RX4 = some m.cls := findClass_of_methodNamed B.named
  have hlocks := B.notSynchronized
  have hl := lv_entry ([.int x]) (n := 1) (Nat.le_of_ble_eq_true rfl)
  rw [lg_entry_eq]
  generalize (lg_sl ([.int x]) ++ List.replicate (1 - (lg_sl ([.int x])).length) Slot.unset).toArray = ls at hl ⊢
  have hl : lv_has ls 1 [(0, .int x)] := hl
  refine lv_iload_n hx hb dX4_isDocument_0 rfl (lv_at hl 0 rfl) ?_
  refine lv_iconst (v := nI 0) hx hb dX4_isDocument_1 (by decide) ?_
  refine lv_iconst (v := nI 3) hx hb dX4_isDocument_2 (by decide) ?_
  refine r_cS (As := [.int x, .int (nI 0), .int (nI 3)]) (rest := []) ⟨hx, hb, hml, hown, hts⟩ (cX4_in_ok l D ct x (nI 0) (nI 3) ) (va_cwS 3 hts gX4_isDocument_X4_in rfl rfl rfl (by decide +kernel) ⟨Nat.le_of_ble_eq_true rfl, Nat.le_of_ble_eq_true rfl⟩) hK va_Pnil rfl hl.1 rfl (Nat.le_of_ble_eq_true rfl) dX4_isDocument_3 ⟨Nat.le_of_ble_eq_true rfl, Nat.le_of_ble_eq_true rfl⟩ ?_
  exact W.zret hx hb hr (bI_narrow _) (fun t ht hW => ⟨_, rfl, rfl, ht⟩) (fun _ h => by cases h) dX4_isDocument_6
set_option maxHeartbeats 8000000 in
set_option maxRecDepth 100000 in
theorem cX4_isRevision_ok (l : Launch) (D : va_G) (ct : Nat → ClassId) (g : Nat → Nat) (n : Nat) (dc : Nat → Nat) (pa : Nat → Option Nat) (va : Nat → Int32) (dl : Nat → Bool) (ge : Nat → Nat) (su : Nat → Int32) (mk : Nat → Bool) (dp : Nat → Int32) (sq : Nat → Int32) (tc : Nat → Int32) (kp : Nat → Int32) (la : Int32) (x : Int32)  : Met l yX4_isRevision wsX4_isRevision ({ frames := 1, cells := 0, slots := 0, locals := 22 } : Room) (roPc D ct [.ref (g 0), .int x] (wM ct g n dc pa va dl ge su mk dp sq tc kp la)) (rqI (bI (inn x (nI 0) (eP (prd n))))) 0 0 (fun _ => False) := by
  refine Met.ofW (cc := cX4_isRevision) (maxL := 2) (ret := (some .boolean)) (by decide) rfl ?_
  intro p e s m args below meth c s₁ B hml hv
  obtain ⟨rfl, hP, hK⟩ := hv
  have hx := B.exec
  have hb := B.bytes
  have hr := B.returns
  have hts := atoms_spec (ws := wsX4_isRevision) B.pre
  have hown : s.vm.findClass RX4 = some m.cls := findClass_of_methodNamed B.named
  have hlocks := B.notSynchronized
  have hl := lv_entry ([.ref (g 0), .int x]) (n := 2) (Nat.le_of_ble_eq_true rfl)
  rw [lg_entry_eq]
  generalize (lg_sl ([.ref (g 0), .int x]) ++ List.replicate (2 - (lg_sl ([.ref (g 0), .int x])).length) Slot.unset).toArray = ls at hl ⊢
  have hl : lv_has ls 2 [(0, .ref (g 0)), (1, .int x)] := hl
  refine lv_iload_n hx hb dX4_isRevision_0 rfl (lv_at hl 1 rfl) ?_
  refine lv_iconst (v := nI 0) hx hb dX4_isRevision_1 (by decide) ?_
  refine lv_aload_n hx hb dX4_isRevision_2 rfl (lv_at hl 0 rfl) ?_
  refine va_get (D := D) (ci := 4) (v := .int (nI n)) (C := RX4) (T := TX4) (N := 13) hx hb hts (fun _ h => List.mem_cons_of_mem _ (List.mem_append_right _ h)) hown hK.1 hP 0 rfl rfl 6 (by decide) (hts (.fieldLink RX4 52 "RevisionStoresModel" "revisions" "I") (List.mem_of_getElem? (i := 1) rfl)) (fun _ h9 => h9) rfl dX4_isRevision_3 ?_
  refine lv_iconst (v := nI 1) hx hb dX4_isRevision_6 (by decide) ?_
  refine lv_isub hx hb dX4_isRevision_7 ?_
  refine r_top (y := eP (prd n)) (nI_prd2 _) ?_
  refine r_cS (As := [.int x, .int (nI 0), .int (eP (prd n))]) (rest := []) ⟨hx, hb, hml, hown, hts⟩ (cX4_in_ok l D ct x (nI 0) (eP (prd n)) ) (va_cwS 3 hts gX4_isRevision_X4_in rfl rfl rfl (by decide +kernel) ⟨Nat.le_of_ble_eq_true rfl, Nat.le_of_ble_eq_true rfl⟩) hK va_Pnil rfl hl.1 rfl (Nat.le_of_ble_eq_true rfl) dX4_isRevision_8 ⟨Nat.le_of_ble_eq_true rfl, Nat.le_of_ble_eq_true rfl⟩ ?_
  exact W.zret hx hb hr (bI_narrow _) (fun t ht hW => ⟨_, rfl, rfl, ht⟩) (fun _ h => by cases h) dX4_isRevision_11
set_option maxHeartbeats 8000000 in
set_option maxRecDepth 100000 in
theorem cX4_thrown_ok (l : Launch) (D : va_G) (ct : Nat → ClassId) (g : Nat → Nat) (n : Nat) (dc : Nat → Nat) (pa : Nat → Option Nat) (va : Nat → Int32) (dl : Nat → Bool) (ge : Nat → Nat) (su : Nat → Int32) (mk : Nat → Bool) (dp : Nat → Int32) (sq : Nat → Int32) (tc : Nat → Int32) (kp : Nat → Int32) (la : Int32)  : Met l yX4_thrown wsX4_thrown ({ frames := 0, cells := 0, slots := 0, locals := 0 } : Room) (roPc D ct [.ref (g 0)] (wM ct g n dc pa va dl ge su mk dp sq tc kp la)) (rqI (la)) 0 0 (fun _ => False) := by
  refine Met.ofW (cc := cX4_thrown) (maxL := 1) (ret := (some .int)) (by decide) rfl ?_
  intro p e s m args below meth c s₁ B hml hv
  obtain ⟨rfl, hP, hK⟩ := hv
  have hx := B.exec
  have hb := B.bytes
  have hr := B.returns
  have hts := atoms_spec (ws := wsX4_thrown) B.pre
  have hown : s.vm.findClass RX4 = some m.cls := findClass_of_methodNamed B.named
  have hlocks := B.notSynchronized
  have hl := lv_entry ([.ref (g 0)]) (n := 1) (Nat.le_of_ble_eq_true rfl)
  rw [lg_entry_eq]
  generalize (lg_sl ([.ref (g 0)]) ++ List.replicate (1 - (lg_sl ([.ref (g 0)])).length) Slot.unset).toArray = ls at hl ⊢
  have hl : lv_has ls 1 [(0, .ref (g 0))] := hl
  refine lv_aload_n hx hb dX4_thrown_0 rfl (lv_at hl 0 rfl) ?_
  refine va_get (D := D) (ci := 4) (v := .int la) (C := RX4) (T := TX4) (N := 13) hx hb hts (fun _ h => List.mem_cons_of_mem _ (List.mem_append_right _ h)) hown hK.1 hP 0 rfl rfl 12 (by decide) (hts (.fieldLink RX4 44 "RevisionStoresModel" "last" "I") (List.mem_of_getElem? (i := 1) rfl)) (fun _ h9 => h9) rfl dX4_thrown_1 ?_
  exact W.iret hx hb hr (fun t ht hW => ⟨_, rfl, rfl, ht⟩) (fun _ h => by cases h) dX4_thrown_4
set_option maxHeartbeats 8000000 in
set_option maxRecDepth 100000 in
theorem cX4_goes_ok (l : Launch) (D : va_G) (ct : Nat → ClassId) (g : Nat → Nat) (n : Nat) (dc : Nat → Nat) (pa : Nat → Option Nat) (va : Nat → Int32) (dl : Nat → Bool) (ge : Nat → Nat) (su : Nat → Int32) (mk : Nat → Bool) (dp : Nat → Int32) (sq : Nat → Int32) (tc : Nat → Int32) (kp : Nat → Int32) (la : Int32) (x1 : Bool) (x2 : Bool) (x3 : Bool)  (sz : Nat) : Met l yX4_goes wsX4_goes ({ frames := 0, cells := 0, slots := 0, locals := 0 } : Room) (wrPc D ct [.ref (g 0), .int (bI x1), .int (bI x2), .int (bI x3)] (wM ct g n dc pa va dl ge su mk dp sq tc kp la) sz) (wqI D (bI (x1 && (x2 && x3))) (wM ct g n dc pa va dl ge su mk dp sq tc kp (gof x1 x2 x3)) (va_A (wM ct g n dc pa va dl ge su mk dp sq tc kp la) sz)) 0 0 (va_A (wM ct g n dc pa va dl ge su mk dp sq tc kp la) sz) := by
  refine Met.ofW (cc := cX4_goes) (maxL := 4) (ret := (some .boolean)) (by decide) rfl ?_
  intro p e s m args below meth c s₁ B hml hv
  obtain ⟨rfl, hsz, hP, hK, hD0⟩ := hv
  have hx := B.exec
  have hb := B.bytes
  have hr := B.returns
  have hts := atoms_spec (ws := wsX4_goes) B.pre
  have hown : s.vm.findClass RX4 = some m.cls := findClass_of_methodNamed B.named
  have hlocks := B.notSynchronized
  subst hsz
  have hD := hD0.self (sz := s.heap.size)
  generalize hAe : va_A (wM ct g n dc pa va dl ge su mk dp sq tc kp la) s.heap.size = A at hD ⊢
  have hA : ∀ q : Nat, s.heap.size ≤ q → A q := fun q h => by rw [← hAe]; exact Or.inr h
  have hS : va_S A s.heap s.heap [] := va_S.rf
  have hP : va_P D vwCl (wM ct g n dc pa va dl ge su mk dp sq tc kp la) s.heap := hP
  clear hAe hD0
  have hl := lv_entry ([.ref (g 0), .int (bI x1), .int (bI x2), .int (bI x3)]) (n := 4) (Nat.le_of_ble_eq_true rfl)
  rw [lg_entry_eq]
  generalize (lg_sl ([.ref (g 0), .int (bI x1), .int (bI x2), .int (bI x3)]) ++ List.replicate (4 - (lg_sl ([.ref (g 0), .int (bI x1), .int (bI x2), .int (bI x3)])).length) Slot.unset).toArray = ls at hl ⊢
  have hl : lv_has ls 4 [(0, .ref (g 0)), (1, .int (bI x1)), (2, .int (bI x2)), (3, .int (bI x3))] := hl
  have hH0 : s.heap.size ≤ s.heap.size := Nat.le_refl _
  refine lv_aload_n hx hb dX4_goes_0 rfl (lv_at hl 0 rfl) ?_
  refine lv_iload_n hx hb dX4_goes_1 rfl (lv_at hl 1 rfl) ?_
  refine r_if_neB (x := x1) (tgt := 9) hx hb dX4_goes_2 (by decide) (fun c2 => ?_) (fun c2 => ?_)
  · refine lv_iload_n hx hb dX4_goes_9 rfl (lv_at hl 2 rfl) ?_
    refine r_if_neB (x := x2) (tgt := 17) hx hb dX4_goes_10 (by decide) (fun c10 => ?_) (fun c10 => ?_)
    · refine lv_iload_n hx hb dX4_goes_17 rfl (lv_at hl 3 rfl) ?_
      refine r_if_eqB (x := x3) (tgt := 25) hx hb dX4_goes_18 (by decide) (fun c18 => ?_) (fun c18 => ?_)
      · refine lv_iconst (v := nI 3) hx hb dX4_goes_25 (by decide) ?_
        refine r_top (y := gof x1 x2 x3) (by simp [gof, c2, c10, c18]) ?_
        refine va_put (D := D) (ci := 4) (v := .int (gof x1 x2 x3)) (ty := .int) (C := RX4) (T := TX4) (N := 13) hx hb hts (fun _ h => List.mem_cons_of_mem _ (List.mem_append_right _ h)) tyX4 tyX4_ok nmX4 hown hK.1 hP hD hS 0 rfl rfl 12 (by decide) (hts (.fieldLink RX4 44 "RevisionStoresModel" "last" "I") (List.mem_of_getElem? (i := 1) rfl)) (fun _ h9 => h9) rfl (by decide +kernel) rfl rfl (Nat.le_of_ble_eq_true rfl) dX4_goes_26 (fun H locs hP hD hS => ?_)
        have hP : va_P D vwCl (wM ct g n dc pa va dl ge su mk dp sq tc kp (gof x1 x2 x3)) H := hP
        have hD : va_D A (wM ct g n dc pa va dl ge su mk dp sq tc kp (gof x1 x2 x3)) := hD
        refine lv_aload_n hx hb dX4_goes_29 rfl (lv_at hl 0 rfl) ?_
        refine va_get (D := D) (ci := 4) (v := .int (gof x1 x2 x3)) (C := RX4) (T := TX4) (N := 13) hx hb hts (fun _ h => List.mem_cons_of_mem _ (List.mem_append_right _ h)) hown hK.1 hP 0 rfl rfl 12 (by decide) (hts (.fieldLink RX4 44 "RevisionStoresModel" "last" "I") (List.mem_of_getElem? (i := 1) rfl)) (fun _ h9 => h9) rfl dX4_goes_30 ?_
        refine lv_if_ne (x := gof x1 x2 x3) (tgt := 40) hx hb dX4_goes_33 (by decide) (fun c33 => ?_) (fun c33 => ?_)
        · refine lv_iconst (v := nI 0) hx hb dX4_goes_40 (by decide) ?_
          refine r_top (y := bI (x1 && (x2 && x3))) (congrArg bI (show false = (x1 && (x2 && x3)) from by first | exact (gof0 c33).symm | exact (gof1 c33).symm)) ?_
          exact W.zret hx hb hr (bI_narrow _) (fun t ht hW => ⟨⟨_, (), rfl, rfl, by show va_P D vwCl _ t.heap; rw [ht]; exact hP⟩, hS.F ht⟩) hS.2.2 dX4_goes_41
        · refine lv_iconst (v := nI 1) hx hb dX4_goes_36 (by decide) ?_
          refine lv_goto (tgt := 41) hx hb dX4_goes_37 (by decide) ?_
          refine r_top (y := bI (x1 && (x2 && x3))) (congrArg bI (show true = (x1 && (x2 && x3)) from by first | exact (gof0 c33).symm | exact (gof1 c33).symm)) ?_
          exact W.zret hx hb hr (bI_narrow _) (fun t ht hW => ⟨⟨_, (), rfl, rfl, by show va_P D vwCl _ t.heap; rw [ht]; exact hP⟩, hS.F ht⟩) hS.2.2 dX4_goes_41
      · refine lv_iconst (v := nI 0) hx hb dX4_goes_21 (by decide) ?_
        refine lv_goto (tgt := 26) hx hb dX4_goes_22 (by decide) ?_
        refine r_top (y := gof x1 x2 x3) (by simp [gof, c2, c10, c18]) ?_
        refine va_put (D := D) (ci := 4) (v := .int (gof x1 x2 x3)) (ty := .int) (C := RX4) (T := TX4) (N := 13) hx hb hts (fun _ h => List.mem_cons_of_mem _ (List.mem_append_right _ h)) tyX4 tyX4_ok nmX4 hown hK.1 hP hD hS 0 rfl rfl 12 (by decide) (hts (.fieldLink RX4 44 "RevisionStoresModel" "last" "I") (List.mem_of_getElem? (i := 1) rfl)) (fun _ h9 => h9) rfl (by decide +kernel) rfl rfl (Nat.le_of_ble_eq_true rfl) dX4_goes_26 (fun H locs hP hD hS => ?_)
        have hP : va_P D vwCl (wM ct g n dc pa va dl ge su mk dp sq tc kp (gof x1 x2 x3)) H := hP
        have hD : va_D A (wM ct g n dc pa va dl ge su mk dp sq tc kp (gof x1 x2 x3)) := hD
        refine lv_aload_n hx hb dX4_goes_29 rfl (lv_at hl 0 rfl) ?_
        refine va_get (D := D) (ci := 4) (v := .int (gof x1 x2 x3)) (C := RX4) (T := TX4) (N := 13) hx hb hts (fun _ h => List.mem_cons_of_mem _ (List.mem_append_right _ h)) hown hK.1 hP 0 rfl rfl 12 (by decide) (hts (.fieldLink RX4 44 "RevisionStoresModel" "last" "I") (List.mem_of_getElem? (i := 1) rfl)) (fun _ h9 => h9) rfl dX4_goes_30 ?_
        refine lv_if_ne (x := gof x1 x2 x3) (tgt := 40) hx hb dX4_goes_33 (by decide) (fun c33 => ?_) (fun c33 => ?_)
        · refine lv_iconst (v := nI 0) hx hb dX4_goes_40 (by decide) ?_
          refine r_top (y := bI (x1 && (x2 && x3))) (congrArg bI (show false = (x1 && (x2 && x3)) from by first | exact (gof0 c33).symm | exact (gof1 c33).symm)) ?_
          exact W.zret hx hb hr (bI_narrow _) (fun t ht hW => ⟨⟨_, (), rfl, rfl, by show va_P D vwCl _ t.heap; rw [ht]; exact hP⟩, hS.F ht⟩) hS.2.2 dX4_goes_41
        · refine lv_iconst (v := nI 1) hx hb dX4_goes_36 (by decide) ?_
          refine lv_goto (tgt := 41) hx hb dX4_goes_37 (by decide) ?_
          refine r_top (y := bI (x1 && (x2 && x3))) (congrArg bI (show true = (x1 && (x2 && x3)) from by first | exact (gof0 c33).symm | exact (gof1 c33).symm)) ?_
          exact W.zret hx hb hr (bI_narrow _) (fun t ht hW => ⟨⟨_, (), rfl, rfl, by show va_P D vwCl _ t.heap; rw [ht]; exact hP⟩, hS.F ht⟩) hS.2.2 dX4_goes_41
    · refine lv_iconst (v := nI 2) hx hb dX4_goes_13 (by decide) ?_
      refine lv_goto (tgt := 26) hx hb dX4_goes_14 (by decide) ?_
      refine r_top (y := gof x1 x2 x3) (by simp [gof, c2, c10]) ?_
      refine va_put (D := D) (ci := 4) (v := .int (gof x1 x2 x3)) (ty := .int) (C := RX4) (T := TX4) (N := 13) hx hb hts (fun _ h => List.mem_cons_of_mem _ (List.mem_append_right _ h)) tyX4 tyX4_ok nmX4 hown hK.1 hP hD hS 0 rfl rfl 12 (by decide) (hts (.fieldLink RX4 44 "RevisionStoresModel" "last" "I") (List.mem_of_getElem? (i := 1) rfl)) (fun _ h9 => h9) rfl (by decide +kernel) rfl rfl (Nat.le_of_ble_eq_true rfl) dX4_goes_26 (fun H locs hP hD hS => ?_)
      have hP : va_P D vwCl (wM ct g n dc pa va dl ge su mk dp sq tc kp (gof x1 x2 x3)) H := hP
      have hD : va_D A (wM ct g n dc pa va dl ge su mk dp sq tc kp (gof x1 x2 x3)) := hD
      refine lv_aload_n hx hb dX4_goes_29 rfl (lv_at hl 0 rfl) ?_
      refine va_get (D := D) (ci := 4) (v := .int (gof x1 x2 x3)) (C := RX4) (T := TX4) (N := 13) hx hb hts (fun _ h => List.mem_cons_of_mem _ (List.mem_append_right _ h)) hown hK.1 hP 0 rfl rfl 12 (by decide) (hts (.fieldLink RX4 44 "RevisionStoresModel" "last" "I") (List.mem_of_getElem? (i := 1) rfl)) (fun _ h9 => h9) rfl dX4_goes_30 ?_
      refine lv_if_ne (x := gof x1 x2 x3) (tgt := 40) hx hb dX4_goes_33 (by decide) (fun c33 => ?_) (fun c33 => ?_)
      · refine lv_iconst (v := nI 0) hx hb dX4_goes_40 (by decide) ?_
        refine r_top (y := bI (x1 && (x2 && x3))) (congrArg bI (show false = (x1 && (x2 && x3)) from by first | exact (gof0 c33).symm | exact (gof1 c33).symm)) ?_
        exact W.zret hx hb hr (bI_narrow _) (fun t ht hW => ⟨⟨_, (), rfl, rfl, by show va_P D vwCl _ t.heap; rw [ht]; exact hP⟩, hS.F ht⟩) hS.2.2 dX4_goes_41
      · refine lv_iconst (v := nI 1) hx hb dX4_goes_36 (by decide) ?_
        refine lv_goto (tgt := 41) hx hb dX4_goes_37 (by decide) ?_
        refine r_top (y := bI (x1 && (x2 && x3))) (congrArg bI (show true = (x1 && (x2 && x3)) from by first | exact (gof0 c33).symm | exact (gof1 c33).symm)) ?_
        exact W.zret hx hb hr (bI_narrow _) (fun t ht hW => ⟨⟨_, (), rfl, rfl, by show va_P D vwCl _ t.heap; rw [ht]; exact hP⟩, hS.F ht⟩) hS.2.2 dX4_goes_41
  · refine lv_iconst (v := nI 1) hx hb dX4_goes_5 (by decide) ?_
    refine lv_goto (tgt := 26) hx hb dX4_goes_6 (by decide) ?_
    refine r_top (y := gof x1 x2 x3) (by simp [gof, c2]) ?_
    refine va_put (D := D) (ci := 4) (v := .int (gof x1 x2 x3)) (ty := .int) (C := RX4) (T := TX4) (N := 13) hx hb hts (fun _ h => List.mem_cons_of_mem _ (List.mem_append_right _ h)) tyX4 tyX4_ok nmX4 hown hK.1 hP hD hS 0 rfl rfl 12 (by decide) (hts (.fieldLink RX4 44 "RevisionStoresModel" "last" "I") (List.mem_of_getElem? (i := 1) rfl)) (fun _ h9 => h9) rfl (by decide +kernel) rfl rfl (Nat.le_of_ble_eq_true rfl) dX4_goes_26 (fun H locs hP hD hS => ?_)
    have hP : va_P D vwCl (wM ct g n dc pa va dl ge su mk dp sq tc kp (gof x1 x2 x3)) H := hP
    have hD : va_D A (wM ct g n dc pa va dl ge su mk dp sq tc kp (gof x1 x2 x3)) := hD
    refine lv_aload_n hx hb dX4_goes_29 rfl (lv_at hl 0 rfl) ?_
    refine va_get (D := D) (ci := 4) (v := .int (gof x1 x2 x3)) (C := RX4) (T := TX4) (N := 13) hx hb hts (fun _ h => List.mem_cons_of_mem _ (List.mem_append_right _ h)) hown hK.1 hP 0 rfl rfl 12 (by decide) (hts (.fieldLink RX4 44 "RevisionStoresModel" "last" "I") (List.mem_of_getElem? (i := 1) rfl)) (fun _ h9 => h9) rfl dX4_goes_30 ?_
    refine lv_if_ne (x := gof x1 x2 x3) (tgt := 40) hx hb dX4_goes_33 (by decide) (fun c33 => ?_) (fun c33 => ?_)
    · refine lv_iconst (v := nI 0) hx hb dX4_goes_40 (by decide) ?_
      refine r_top (y := bI (x1 && (x2 && x3))) (congrArg bI (show false = (x1 && (x2 && x3)) from by first | exact (gof0 c33).symm | exact (gof1 c33).symm)) ?_
      exact W.zret hx hb hr (bI_narrow _) (fun t ht hW => ⟨⟨_, (), rfl, rfl, by show va_P D vwCl _ t.heap; rw [ht]; exact hP⟩, hS.F ht⟩) hS.2.2 dX4_goes_41
    · refine lv_iconst (v := nI 1) hx hb dX4_goes_36 (by decide) ?_
      refine lv_goto (tgt := 41) hx hb dX4_goes_37 (by decide) ?_
      refine r_top (y := bI (x1 && (x2 && x3))) (congrArg bI (show true = (x1 && (x2 && x3)) from by first | exact (gof0 c33).symm | exact (gof1 c33).symm)) ?_
      exact W.zret hx hb hr (bI_narrow _) (fun t ht hW => ⟨⟨_, (), rfl, rfl, by show va_P D vwCl _ t.heap; rw [ht]; exact hP⟩, hS.F ht⟩) hS.2.2 dX4_goes_41
set_option maxHeartbeats 8000000 in
set_option maxRecDepth 100000 in
theorem cX4_isAncestor_ok (l : Launch) (D : va_G) (ct : Nat → ClassId) (g : Nat → Nat) (n : Nat) (dc : Nat → Nat) (pa : Nat → Option Nat) (va : Nat → Int32) (dl : Nat → Bool) (ge : Nat → Nat) (su : Nat → Int32) (mk : Nat → Bool) (dp : Nat → Int32) (sq : Nat → Int32) (tc : Nat → Int32) (kp : Nat → Int32) (la : Int32) (r : Nat) (k : Nat) (hn : n ≤ 150) (hTp : ∀ k j, k < n → pa k = some j → j < k) (hk : k < n) (hr9 : r < 150) : Met l yX4_isAncestor wsX4_isAncestor ({ frames := 0, cells := 0, slots := 0, locals := 0 } : Room) (roPc D ct [.ref (g 0), .int (nI r), .int (nI k)] (wM ct g n dc pa va dl ge su mk dp sq tc kp la)) (rqI (bI (anc pa r k))) 0 0 (fun _ => False) := by
  refine Met.ofW (cc := cX4_isAncestor) (maxL := 4) (ret := (some .boolean)) (by decide) rfl ?_
  intro p e s m args below meth c s₁ B hml hv
  obtain ⟨rfl, hP, hK⟩ := hv
  have hx := B.exec
  have hb := B.bytes
  have hr := B.returns
  have hts := atoms_spec (ws := wsX4_isAncestor) B.pre
  have hown : s.vm.findClass RX4 = some m.cls := findClass_of_methodNamed B.named
  have hlocks := B.notSynchronized
  have hl := lv_entry ([.ref (g 0), .int (nI r), .int (nI k)]) (n := 4) (Nat.le_of_ble_eq_true rfl)
  rw [lg_entry_eq]
  generalize (lg_sl ([.ref (g 0), .int (nI r), .int (nI k)]) ++ List.replicate (4 - (lg_sl ([.ref (g 0), .int (nI r), .int (nI k)])).length) Slot.unset).toArray = ls at hl ⊢
  have hl : lv_has ls 4 [(0, .ref (g 0)), (1, .int (nI r)), (2, .int (nI k))] := hl
  refine lv_iload_n hx hb dX4_isAncestor_0 rfl (lv_at hl 2 rfl) ?_
  refine lv_istore_n (lv' := [(3, .int (nI k)), (0, .ref (g 0)), (1, .int (nI r)), (2, .int (nI k))]) hx hb dX4_isAncestor_1 rfl hl (by decide) rfl (fun ls hl => ?_)
  have key2 : ∀ (d2 : Nat) (o : Option Nat) (f : Nat) (ho : ∀ j, o = some j → j < n) (hf : ∀ j, o = some j → j < f) (hq : wk pa r f o = wk pa r 150 (some k)), f < d2 → ∀  (ls : Array Slot), lv_has ls 4 [(3, .int (eP o)), (0, .ref (g 0)), (1, .int (nI r)), (2, .int (nI k))] → W p l e ({ frames := 0, cells := 0, slots := 0, locals := 0 } : Room) s m ([.ref (g 0), .int (nI r), .int (nI k)] : List Value).toArray below meth c s.heap [] 0 0 (MQ below (rqI (bI (anc pa r k))) ([.ref (g 0), .int (nI r), .int (nI k)] : List Value).toArray s 0 0 (fun _ => False)) (F0 m 2 ls []) := by
    intro d2
    induction d2 with
    | zero => intro o f ho hf hq h9; exact absurd h9 (Nat.not_lt_zero _)
    | succ d2 ih2 =>
      intro o f ho hf hq hm2  ls  hl
      refine lv_iload_n hx hb dX4_isAncestor_2 rfl (lv_at hl 0 rfl) ?_
      refine lv_iload_n hx hb dX4_isAncestor_3 rfl (lv_at hl 2 rfl) ?_
      refine r_icmp_leP hx hb (x := o) (y := r) (by intro j9 h9; have := ho _ h9; omega) (by first | omega | decide) (tgt := 17) dX4_isAncestor_4 (by decide) (fun c4 => ?_) (fun j4 c4 g4 => ?_)
      · refine lv_iload_n hx hb dX4_isAncestor_17 rfl (lv_at hl 0 rfl) ?_
        refine lv_iload_n hx hb dX4_isAncestor_18 rfl (lv_at hl 2 rfl) ?_
        refine r_icmp_nePN hx hb (x := o) (y := r) (by intro j9 h9; have := ho _ h9; omega) (by first | omega | decide) (tgt := 31) dX4_isAncestor_19 (by decide) (fun c19 => ?_) (fun c19 => ?_)
        · refine lv_iconst (v := nI 0) hx hb dX4_isAncestor_31 (by decide) ?_
          refine r_top (y := bI (anc pa r k)) (congrArg bI (show false = (anc pa r k) from by have e9 := wk_stop (pa := pa) c4 f; rw [hq] at e9; first | (simp [anc, e9, c19, c24]; done) | (simp [anc, e9, c19]; done))) ?_
          exact W.zret hx hb hr (bI_narrow _) (fun t ht hW => ⟨_, rfl, rfl, ht⟩) (fun _ h => by cases h) dX4_isAncestor_32
        · refine lv_iload_n hx hb dX4_isAncestor_22 rfl (lv_at hl 3 rfl) ?_
          refine lv_iload_n hx hb dX4_isAncestor_23 rfl (lv_at hl 2 rfl) ?_
          refine r_icmp_eqN hx hb (x := k) (y := r) (by first | omega | decide) (by first | omega | decide) (tgt := 31) dX4_isAncestor_24 (by decide) (fun c24 => ?_) (fun c24 => ?_)
          · refine lv_iconst (v := nI 0) hx hb dX4_isAncestor_31 (by decide) ?_
            refine r_top (y := bI (anc pa r k)) (congrArg bI (show false = (anc pa r k) from by have e9 := wk_stop (pa := pa) c4 f; rw [hq] at e9; first | (simp [anc, e9, c19, c24]; done) | (simp [anc, e9, c19]; done))) ?_
            exact W.zret hx hb hr (bI_narrow _) (fun t ht hW => ⟨_, rfl, rfl, ht⟩) (fun _ h => by cases h) dX4_isAncestor_32
          · refine lv_iconst (v := nI 1) hx hb dX4_isAncestor_27 (by decide) ?_
            refine lv_goto (tgt := 32) hx hb dX4_isAncestor_28 (by decide) ?_
            refine r_top (y := bI (anc pa r k)) (congrArg bI (show true = (anc pa r k) from by have e9 := wk_stop (pa := pa) c4 f; rw [hq] at e9; first | (simp [anc, e9, c19, c24]; done) | (simp [anc, e9, c19]; done))) ?_
            exact W.zret hx hb hr (bI_narrow _) (fun t ht hW => ⟨_, rfl, rfl, ht⟩) (fun _ h => by cases h) dX4_isAncestor_32
      · have hl := lv_re (f := fun z9 => [(3, .int z9), (0, .ref (g 0)), (1, .int (nI r)), (2, .int (nI k))]) hl (show eP o = nI j4 from congrArg eP c4)
        have e7 := ho _ c4
        have e8 := hf _ c4
        refine lv_aload_n hx hb dX4_isAncestor_7 rfl (lv_at hl 1 rfl) ?_
        refine va_get (D := D) (ci := 4) (v := .ref (g 2)) (C := RX4) (T := TX4) (N := 13) hx hb hts (fun _ h => List.mem_cons_of_mem _ (List.mem_append_right _ h)) hown hK.1 hP 0 rfl rfl 1 (by decide) (hts (.fieldLink RX4 13 "RevisionStoresModel" "parents" "[I") (List.mem_of_getElem? (i := 1) rfl)) (fun _ h9 => h9) rfl dX4_isAncestor_8 ?_
        refine lv_iload_n hx hb dX4_isAncestor_11 rfl (lv_at hl 0 rfl) ?_
        refine r_iald (j := j4) (v := eP (pa j4)) hx hb hK.1 hP 2 0 rfl rfl (by omega) (by first | decide | omega) rfl dX4_isAncestor_12 ?_
        refine lv_istore_n (lv' := [(3, .int (eP (pa j4))), (0, .ref (g 0)), (1, .int (nI r)), (2, .int (nI k))]) hx hb dX4_isAncestor_13 rfl hl (by decide) rfl (fun ls hl => ?_)
        refine lv_goto (tgt := 2) hx hb dX4_isAncestor_14 (by decide) ?_
        exact ih2 (pa j4) (f - 1) (by intro j9 h9; have := hTp _ _ e7 h9; omega) (by intro j9 h9; have := hTp _ _ e7 h9; omega) (by obtain ⟨g, rfl⟩ : ∃ g, f = g + 1 := ⟨f - 1, by omega⟩; rw [c4, wk_up g4] at hq; exact hq) (by omega)  ls  (lv_sub hl [0, 1, 2, 3] rfl)
  exact key2 (150 + 1) (some k) 150 (by intro j9 h9; cases h9; exact hk) (by intro j9 h9; cases h9; omega) (rfl) (Nat.lt_succ_self _)  ls  (lv_sub hl [0, 1, 2, 3] rfl)
set_option maxHeartbeats 8000000 in
set_option maxRecDepth 100000 in
theorem cX4_hasDescendant_ok (l : Launch) (D : va_G) (ct : Nat → ClassId) (g : Nat → Nat) (n : Nat) (dc : Nat → Nat) (pa : Nat → Option Nat) (va : Nat → Int32) (dl : Nat → Bool) (ge : Nat → Nat) (su : Nat → Int32) (mk : Nat → Bool) (dp : Nat → Int32) (sq : Nat → Int32) (tc : Nat → Int32) (kp : Nat → Int32) (la : Int32) (i : Nat) (r : Nat) (hn : n ≤ 150) (hTp : ∀ k j, k < n → pa k = some j → j < k) (hi : i < 3) (hrn : r < n) : Met l yX4_hasDescendant wsX4_hasDescendant ({ frames := 1, cells := 0, slots := 0, locals := 23 } : Room) (roPc D ct [.ref (g 0), .int (nI i), .int (nI r)] (wM ct g n dc pa va dl ge su mk dp sq tc kp la)) (rqI (bI (any (hsP pa mk i r) n))) 0 0 (fun _ => False) := by
  refine Met.ofW (cc := cX4_hasDescendant) (maxL := 5) (ret := (some .boolean)) (by decide) rfl ?_
  intro p e s m args below meth c s₁ B hml hv
  obtain ⟨rfl, hP, hK⟩ := hv
  have hx := B.exec
  have hb := B.bytes
  have hr := B.returns
  have hts := atoms_spec (ws := wsX4_hasDescendant) B.pre
  have hown : s.vm.findClass RX4 = some m.cls := findClass_of_methodNamed B.named
  have hlocks := B.notSynchronized
  have hl := lv_entry ([.ref (g 0), .int (nI i), .int (nI r)]) (n := 5) (Nat.le_of_ble_eq_true rfl)
  rw [lg_entry_eq]
  generalize (lg_sl ([.ref (g 0), .int (nI i), .int (nI r)]) ++ List.replicate (5 - (lg_sl ([.ref (g 0), .int (nI i), .int (nI r)])).length) Slot.unset).toArray = ls at hl ⊢
  have hl : lv_has ls 5 [(0, .ref (g 0)), (1, .int (nI i)), (2, .int (nI r))] := hl
  refine lv_iconst (v := nI 0) hx hb dX4_hasDescendant_0 (by decide) ?_
  refine lv_istore_n (lv' := [(3, .int (nI 0)), (0, .ref (g 0)), (1, .int (nI i)), (2, .int (nI r))]) hx hb dX4_hasDescendant_1 rfl hl (by decide) rfl (fun ls hl => ?_)
  refine lv_iload_n hx hb dX4_hasDescendant_2 rfl (lv_at hl 3 rfl) ?_
  refine lv_iconst (v := nI 1) hx hb dX4_hasDescendant_3 (by decide) ?_
  refine r_iaddN hx hb dX4_hasDescendant_4 ?_
  refine lv_istore (lv' := [(4, .int (nI (r + 1))), (3, .int (nI 0)), (0, .ref (g 0)), (1, .int (nI i)), (2, .int (nI r))]) hx hb dX4_hasDescendant_5 hl (by decide) rfl (fun ls hl => ?_)
  have key7 : ∀ (d7 : Nat) (k : Nat) (hk : k ≤ n), n - k < d7 → ∀  (ls : Array Slot), lv_has ls 5 [(4, .int (nI k)), (3, .int (bI (any (hsP pa mk i r) k))), (0, .ref (g 0)), (1, .int (nI i)), (2, .int (nI r))] → W p l e ({ frames := 1, cells := 0, slots := 0, locals := 23 } : Room) s m ([.ref (g 0), .int (nI i), .int (nI r)] : List Value).toArray below meth c s.heap [] 0 0 (MQ below (rqI (bI (any (hsP pa mk i r) n))) ([.ref (g 0), .int (nI i), .int (nI r)] : List Value).toArray s 0 0 (fun _ => False)) (F0 m 7 ls []) := by
    intro d7
    induction d7 with
    | zero => intro k hk h9; exact absurd h9 (Nat.not_lt_zero _)
    | succ d7 ih7 =>
      intro k hk hm7  ls  hl
      refine lv_iload hx hb dX4_hasDescendant_7 (lv_at hl 0 rfl) ?_
      refine lv_aload_n hx hb dX4_hasDescendant_9 rfl (lv_at hl 2 rfl) ?_
      refine va_get (D := D) (ci := 4) (v := .int (nI n)) (C := RX4) (T := TX4) (N := 13) hx hb hts (fun _ h => List.mem_cons_of_mem _ (List.mem_append_right _ h)) hown hK.1 hP 0 rfl rfl 6 (by decide) (hts (.fieldLink RX4 52 "RevisionStoresModel" "revisions" "I") (List.mem_of_getElem? (i := 1) rfl)) (fun _ h9 => h9) rfl dX4_hasDescendant_10 ?_
      refine r_icmp_geN hx hb (x := k) (y := n) (by first | omega | decide) (by first | omega | decide) (tgt := 58) dX4_hasDescendant_13 (by decide) (fun c13 => ?_) (fun c13 => ?_)
      · refine lv_iload_n hx hb dX4_hasDescendant_58 rfl (lv_at hl 1 rfl) ?_
        refine r_top (y := bI (any (hsP pa mk i r) n)) (congrArg bI (show (any (hsP pa mk i r) k) = (any (hsP pa mk i r) n) from by rw [show k = n by omega])) ?_
        exact W.zret hx hb hr (bI_narrow _) (fun t ht hW => ⟨_, rfl, rfl, ht⟩) (fun _ h => by cases h) dX4_hasDescendant_59
      · refine lv_iload_n hx hb dX4_hasDescendant_16 rfl (lv_at hl 1 rfl) ?_
        refine r_if_neB (x := any (hsP pa mk i r) k) (tgt := 46) hx hb dX4_hasDescendant_17 (by decide) (fun c17 => ?_) (fun c17 => ?_)
        · refine lv_iconst (v := nI 1) hx hb dX4_hasDescendant_46 (by decide) ?_
          refine lv_goto (tgt := 51) hx hb dX4_hasDescendant_47 (by decide) ?_
          refine lv_istore_n (lv' := [(3, .int (nI 1)), (4, .int (nI k)), (0, .ref (g 0)), (1, .int (nI i)), (2, .int (nI r))]) hx hb dX4_hasDescendant_51 rfl hl (by decide) rfl (fun ls hl => ?_)
          refine lv_iinc (v := nI (k + 1)) (lv' := [(4, .int (nI (k + 1))), (3, .int (nI 1)), (0, .ref (g 0)), (1, .int (nI i)), (2, .int (nI r))]) hx hb dX4_hasDescendant_52 hl (k := 1) rfl (nI_1 _) (by decide) rfl (fun ls hl => ?_)
          refine lv_goto (tgt := 7) hx hb dX4_hasDescendant_55 (by decide) ?_
          have hl := lv_re (f := fun z9 => [(4, .int (nI (k + 1))), (3, .int z9), (0, .ref (g 0)), (1, .int (nI i)), (2, .int (nI r))]) hl (show nI 1 = bI (any (hsP pa mk i r) (k + 1)) from congrArg bI (show true = (any (hsP pa mk i r) (k + 1)) from by simp [any, hsP, c13, c17]))
          exact ih7 (k + 1) (by first | assumption | omega) (by omega)  ls  (lv_sub hl [0, 1, 2, 3, 4] rfl)
        · refine lv_aload_n hx hb dX4_hasDescendant_20 rfl (lv_at hl 2 rfl) ?_
          refine va_get (D := D) (ci := 4) (v := .ref (g 7)) (C := RX4) (T := TX4) (N := 13) hx hb hts (fun _ h => List.mem_cons_of_mem _ (List.mem_append_right _ h)) hown hK.1 hP 0 rfl rfl 7 (by decide) (hts (.fieldLink RX4 29 "RevisionStoresModel" "marks" "[Z") (List.mem_of_getElem? (i := 2) rfl)) (fun _ h9 => h9) rfl dX4_hasDescendant_21 ?_
          refine lv_sipush (v := nI 150) hx hb dX4_hasDescendant_24 (by decide) ?_
          refine lv_iload_n hx hb dX4_hasDescendant_27 rfl (lv_at hl 3 rfl) ?_
          refine r_imulN hx hb dX4_hasDescendant_28 ?_
          refine lv_iload hx hb dX4_hasDescendant_29 (lv_at hl 0 rfl) ?_
          refine r_iaddN hx hb dX4_hasDescendant_31 ?_
          refine r_zald (j := (150 * i) + k) (v := bI (mk ((150 * i) + k))) hx hb hK.1 hP 7 1 rfl rfl (by omega) (by first | decide | omega) rfl dX4_hasDescendant_32 ?_
          refine r_if_eqB (x := mk ((150 * i) + k)) (tgt := 50) hx hb dX4_hasDescendant_33 (by decide) (fun c33 => ?_) (fun c33 => ?_)
          · refine lv_iconst (v := nI 0) hx hb dX4_hasDescendant_50 (by decide) ?_
            refine lv_istore_n (lv' := [(3, .int (nI 0)), (4, .int (nI k)), (0, .ref (g 0)), (1, .int (nI i)), (2, .int (nI r))]) hx hb dX4_hasDescendant_51 rfl hl (by decide) rfl (fun ls hl => ?_)
            refine lv_iinc (v := nI (k + 1)) (lv' := [(4, .int (nI (k + 1))), (3, .int (nI 0)), (0, .ref (g 0)), (1, .int (nI i)), (2, .int (nI r))]) hx hb dX4_hasDescendant_52 hl (k := 1) rfl (nI_1 _) (by decide) rfl (fun ls hl => ?_)
            refine lv_goto (tgt := 7) hx hb dX4_hasDescendant_55 (by decide) ?_
            have hl := lv_re (f := fun z9 => [(4, .int (nI (k + 1))), (3, .int z9), (0, .ref (g 0)), (1, .int (nI i)), (2, .int (nI r))]) hl (show nI 0 = bI (any (hsP pa mk i r) (k + 1)) from congrArg bI (show false = (any (hsP pa mk i r) (k + 1)) from by simp [any, hsP, c13, c17, c33]))
            exact ih7 (k + 1) (by first | assumption | omega) (by omega)  ls  (lv_sub hl [0, 1, 2, 3, 4] rfl)
          · refine lv_aload_n hx hb dX4_hasDescendant_36 rfl (lv_at hl 2 rfl) ?_
            refine lv_iload_n hx hb dX4_hasDescendant_37 rfl (lv_at hl 4 rfl) ?_
            refine lv_iload hx hb dX4_hasDescendant_38 (lv_at hl 0 rfl) ?_
            refine r_cV (As := [.int (nI r), .int (nI k)]) (rest := []) ⟨hx, hb, hml, hown, hts⟩ (cX4_isAncestor_ok l D ct g n dc pa va dl ge su mk dp sq tc kp la r k (by first | assumption | omega) (by first | assumption | omega) (by first | assumption | omega) (by first | assumption | omega)) (cwV 2 hts gX4_hasDescendant_X4_isAncestor rfl rfl rfl (by decide +kernel) ⟨Nat.le_of_ble_eq_true rfl, Nat.le_of_ble_eq_true rfl⟩) hK (hP.sub (ws' := wM ct g n dc pa va dl ge su mk dp sq tc kp la) [0, 1, 2, 3, 4, 5, 6, 7, 8, 9, 10, 11] rfl) 0 4 rfl rfl rfl hl.1 rfl (Nat.le_of_ble_eq_true rfl) dX4_hasDescendant_40 ⟨Nat.le_of_ble_eq_true rfl, Nat.le_of_ble_eq_true rfl⟩ ?_
            refine r_if_eqB (x := anc pa r k) (tgt := 50) hx hb dX4_hasDescendant_43 (by decide) (fun c43 => ?_) (fun c43 => ?_)
            · refine lv_iconst (v := nI 0) hx hb dX4_hasDescendant_50 (by decide) ?_
              refine lv_istore_n (lv' := [(3, .int (nI 0)), (4, .int (nI k)), (0, .ref (g 0)), (1, .int (nI i)), (2, .int (nI r))]) hx hb dX4_hasDescendant_51 rfl hl (by decide) rfl (fun ls hl => ?_)
              refine lv_iinc (v := nI (k + 1)) (lv' := [(4, .int (nI (k + 1))), (3, .int (nI 0)), (0, .ref (g 0)), (1, .int (nI i)), (2, .int (nI r))]) hx hb dX4_hasDescendant_52 hl (k := 1) rfl (nI_1 _) (by decide) rfl (fun ls hl => ?_)
              refine lv_goto (tgt := 7) hx hb dX4_hasDescendant_55 (by decide) ?_
              have hl := lv_re (f := fun z9 => [(4, .int (nI (k + 1))), (3, .int z9), (0, .ref (g 0)), (1, .int (nI i)), (2, .int (nI r))]) hl (show nI 0 = bI (any (hsP pa mk i r) (k + 1)) from congrArg bI (show false = (any (hsP pa mk i r) (k + 1)) from by simp [any, hsP, c13, c17, c33, c43]))
              exact ih7 (k + 1) (by first | assumption | omega) (by omega)  ls  (lv_sub hl [0, 1, 2, 3, 4] rfl)
            · refine lv_iconst (v := nI 1) hx hb dX4_hasDescendant_46 (by decide) ?_
              refine lv_goto (tgt := 51) hx hb dX4_hasDescendant_47 (by decide) ?_
              refine lv_istore_n (lv' := [(3, .int (nI 1)), (4, .int (nI k)), (0, .ref (g 0)), (1, .int (nI i)), (2, .int (nI r))]) hx hb dX4_hasDescendant_51 rfl hl (by decide) rfl (fun ls hl => ?_)
              refine lv_iinc (v := nI (k + 1)) (lv' := [(4, .int (nI (k + 1))), (3, .int (nI 1)), (0, .ref (g 0)), (1, .int (nI i)), (2, .int (nI r))]) hx hb dX4_hasDescendant_52 hl (k := 1) rfl (nI_1 _) (by decide) rfl (fun ls hl => ?_)
              refine lv_goto (tgt := 7) hx hb dX4_hasDescendant_55 (by decide) ?_
              have hl := lv_re (f := fun z9 => [(4, .int (nI (k + 1))), (3, .int z9), (0, .ref (g 0)), (1, .int (nI i)), (2, .int (nI r))]) hl (show nI 1 = bI (any (hsP pa mk i r) (k + 1)) from congrArg bI (show true = (any (hsP pa mk i r) (k + 1)) from by simp [any, hsP, c13, c17, c33, c43]))
              exact ih7 (k + 1) (by first | assumption | omega) (by omega)  ls  (lv_sub hl [0, 1, 2, 3, 4] rfl)
  have hl := lv_re (f := fun z9 => [(4, .int (nI (r + 1))), (3, .int z9), (0, .ref (g 0)), (1, .int (nI i)), (2, .int (nI r))]) hl (show nI 0 = bI (any (hsP pa mk i r) (r + 1)) from congrArg bI (show false = (any (hsP pa mk i r) (r + 1)) from (hsP_0 pa mk i r).symm))
  exact key7 ((n - (r + 1)) + 1) (r + 1) (by first | assumption | omega) (Nat.lt_succ_self _)  ls  (lv_sub hl [0, 1, 2, 3, 4] rfl)
set_option maxHeartbeats 8000000 in
set_option maxRecDepth 100000 in
theorem cX4_leaf_ok (l : Launch) (D : va_G) (ct : Nat → ClassId) (g : Nat → Nat) (n : Nat) (dc : Nat → Nat) (pa : Nat → Option Nat) (va : Nat → Int32) (dl : Nat → Bool) (ge : Nat → Nat) (su : Nat → Int32) (mk : Nat → Bool) (dp : Nat → Int32) (sq : Nat → Int32) (tc : Nat → Int32) (kp : Nat → Int32) (la : Int32) (i : Nat) (r : Nat) (hn : n ≤ 150) (hTp : ∀ k j, k < n → pa k = some j → j < k) (hi : i < 3) (hrn : r < n) : Met l yX4_leaf wsX4_leaf ({ frames := 2, cells := 0, slots := 0, locals := 47 } : Room) (roPc D ct [.ref (g 0), .int (nI i), .int (nI r)] (wM ct g n dc pa va dl ge su mk dp sq tc kp la)) (rqI (bI (lef pa mk i n r))) 0 0 (fun _ => False) := by
  refine Met.ofW (cc := cX4_leaf) (maxL := 3) (ret := (some .boolean)) (by decide) rfl ?_
  intro p e s m args below meth c s₁ B hml hv
  obtain ⟨rfl, hP, hK⟩ := hv
  have hx := B.exec
  have hb := B.bytes
  have hr := B.returns
  have hts := atoms_spec (ws := wsX4_leaf) B.pre
  have hown : s.vm.findClass RX4 = some m.cls := findClass_of_methodNamed B.named
  have hlocks := B.notSynchronized
  have hl := lv_entry ([.ref (g 0), .int (nI i), .int (nI r)]) (n := 3) (Nat.le_of_ble_eq_true rfl)
  rw [lg_entry_eq]
  generalize (lg_sl ([.ref (g 0), .int (nI i), .int (nI r)]) ++ List.replicate (3 - (lg_sl ([.ref (g 0), .int (nI i), .int (nI r)])).length) Slot.unset).toArray = ls at hl ⊢
  have hl : lv_has ls 3 [(0, .ref (g 0)), (1, .int (nI i)), (2, .int (nI r))] := hl
  refine lv_aload_n hx hb dX4_leaf_0 rfl (lv_at hl 0 rfl) ?_
  refine va_get (D := D) (ci := 4) (v := .ref (g 7)) (C := RX4) (T := TX4) (N := 13) hx hb hts (fun _ h => List.mem_cons_of_mem _ (List.mem_append_right _ h)) hown hK.1 hP 0 rfl rfl 7 (by decide) (hts (.fieldLink RX4 29 "RevisionStoresModel" "marks" "[Z") (List.mem_of_getElem? (i := 1) rfl)) (fun _ h9 => h9) rfl dX4_leaf_1 ?_
  refine lv_sipush (v := nI 150) hx hb dX4_leaf_4 (by decide) ?_
  refine lv_iload_n hx hb dX4_leaf_7 rfl (lv_at hl 1 rfl) ?_
  refine r_imulN hx hb dX4_leaf_8 ?_
  refine lv_iload_n hx hb dX4_leaf_9 rfl (lv_at hl 2 rfl) ?_
  refine r_iaddN hx hb dX4_leaf_10 ?_
  refine r_zald (j := (150 * i) + r) (v := bI (mk ((150 * i) + r))) hx hb hK.1 hP 7 1 rfl rfl (by omega) (by first | decide | omega) rfl dX4_leaf_11 ?_
  refine r_if_eqB (x := mk ((150 * i) + r)) (tgt := 28) hx hb dX4_leaf_12 (by decide) (fun c12 => ?_) (fun c12 => ?_)
  · refine lv_iconst (v := nI 0) hx hb dX4_leaf_28 (by decide) ?_
    refine r_top (y := bI (lef pa mk i n r)) (congrArg bI (show false = (lef pa mk i n r) from by simp [lef, c12])) ?_
    exact W.zret hx hb hr (bI_narrow _) (fun t ht hW => ⟨_, rfl, rfl, ht⟩) (fun _ h => by cases h) dX4_leaf_29
  · refine lv_aload_n hx hb dX4_leaf_15 rfl (lv_at hl 0 rfl) ?_
    refine lv_iload_n hx hb dX4_leaf_16 rfl (lv_at hl 1 rfl) ?_
    refine lv_iload_n hx hb dX4_leaf_17 rfl (lv_at hl 2 rfl) ?_
    refine r_cV (As := [.int (nI i), .int (nI r)]) (rest := []) ⟨hx, hb, hml, hown, hts⟩ (cX4_hasDescendant_ok l D ct g n dc pa va dl ge su mk dp sq tc kp la i r (by first | assumption | omega) (by first | assumption | omega) (by first | assumption | omega) (by first | assumption | omega)) (cwV 2 hts gX4_leaf_X4_hasDescendant rfl rfl rfl (by decide +kernel) ⟨Nat.le_of_ble_eq_true rfl, Nat.le_of_ble_eq_true rfl⟩) hK (hP.sub (ws' := wM ct g n dc pa va dl ge su mk dp sq tc kp la) [0, 1, 2, 3, 4, 5, 6, 7, 8, 9, 10, 11] rfl) 0 4 rfl rfl rfl hl.1 rfl (Nat.le_of_ble_eq_true rfl) dX4_leaf_18 ⟨Nat.le_of_ble_eq_true rfl, Nat.le_of_ble_eq_true rfl⟩ ?_
    refine r_if_neB (x := any (hsP pa mk i r) n) (tgt := 28) hx hb dX4_leaf_21 (by decide) (fun c21 => ?_) (fun c21 => ?_)
    · refine lv_iconst (v := nI 0) hx hb dX4_leaf_28 (by decide) ?_
      refine r_top (y := bI (lef pa mk i n r)) (congrArg bI (show false = (lef pa mk i n r) from by simp [lef, c12, c21])) ?_
      exact W.zret hx hb hr (bI_narrow _) (fun t ht hW => ⟨_, rfl, rfl, ht⟩) (fun _ h => by cases h) dX4_leaf_29
    · refine lv_iconst (v := nI 1) hx hb dX4_leaf_24 (by decide) ?_
      refine lv_goto (tgt := 29) hx hb dX4_leaf_25 (by decide) ?_
      refine r_top (y := bI (lef pa mk i n r)) (congrArg bI (show true = (lef pa mk i n r) from by simp [lef, c12, c21])) ?_
      exact W.zret hx hb hr (bI_narrow _) (fun t ht hW => ⟨_, rfl, rfl, ht⟩) (fun _ h => by cases h) dX4_leaf_29
set_option maxHeartbeats 8000000 in
set_option maxRecDepth 100000 in
theorem cX4_isBetter_ok (l : Launch) (D : va_G) (ct : Nat → ClassId) (g : Nat → Nat) (n : Nat) (dc : Nat → Nat) (pa : Nat → Option Nat) (va : Nat → Int32) (dl : Nat → Bool) (ge : Nat → Nat) (su : Nat → Int32) (mk : Nat → Bool) (dp : Nat → Int32) (sq : Nat → Int32) (tc : Nat → Int32) (kp : Nat → Int32) (la : Int32) (i : Nat) (j : Nat) (hTg : ∀ k, ge k ≤ 150) (hi : i < 150) (hj : j < 150) : Met l yX4_isBetter wsX4_isBetter ({ frames := 0, cells := 0, slots := 0, locals := 0 } : Room) (roPc D ct [.ref (g 0), .int (nI i), .int (nI j)] (wM ct g n dc pa va dl ge su mk dp sq tc kp la)) (rqI (bI (btr dl ge su i j))) 0 0 (fun _ => False) := by
  refine Met.ofW (cc := cX4_isBetter) (maxL := 3) (ret := (some .boolean)) (by decide) rfl ?_
  intro p e s m args below meth c s₁ B hml hv
  obtain ⟨rfl, hP, hK⟩ := hv
  have hx := B.exec
  have hb := B.bytes
  have hr := B.returns
  have hts := atoms_spec (ws := wsX4_isBetter) B.pre
  have hown : s.vm.findClass RX4 = some m.cls := findClass_of_methodNamed B.named
  have hlocks := B.notSynchronized
  have hl := lv_entry ([.ref (g 0), .int (nI i), .int (nI j)]) (n := 3) (Nat.le_of_ble_eq_true rfl)
  rw [lg_entry_eq]
  generalize (lg_sl ([.ref (g 0), .int (nI i), .int (nI j)]) ++ List.replicate (3 - (lg_sl ([.ref (g 0), .int (nI i), .int (nI j)])).length) Slot.unset).toArray = ls at hl ⊢
  have hl : lv_has ls 3 [(0, .ref (g 0)), (1, .int (nI i)), (2, .int (nI j))] := hl
  refine lv_aload_n hx hb dX4_isBetter_0 rfl (lv_at hl 0 rfl) ?_
  refine va_get (D := D) (ci := 4) (v := .ref (g 4)) (C := RX4) (T := TX4) (N := 13) hx hb hts (fun _ h => List.mem_cons_of_mem _ (List.mem_append_right _ h)) hown hK.1 hP 0 rfl rfl 3 (by decide) (hts (.fieldLink RX4 19 "RevisionStoresModel" "deletions" "[Z") (List.mem_of_getElem? (i := 1) rfl)) (fun _ h9 => h9) rfl dX4_isBetter_1 ?_
  refine lv_iload_n hx hb dX4_isBetter_4 rfl (lv_at hl 1 rfl) ?_
  refine r_zald (j := i) (v := bI (dl i)) hx hb hK.1 hP 4 1 rfl rfl (by omega) (by first | decide | omega) rfl dX4_isBetter_5 ?_
  refine lv_aload_n hx hb dX4_isBetter_6 rfl (lv_at hl 0 rfl) ?_
  refine va_get (D := D) (ci := 4) (v := .ref (g 4)) (C := RX4) (T := TX4) (N := 13) hx hb hts (fun _ h => List.mem_cons_of_mem _ (List.mem_append_right _ h)) hown hK.1 hP 0 rfl rfl 3 (by decide) (hts (.fieldLink RX4 19 "RevisionStoresModel" "deletions" "[Z") (List.mem_of_getElem? (i := 1) rfl)) (fun _ h9 => h9) rfl dX4_isBetter_7 ?_
  refine lv_iload_n hx hb dX4_isBetter_10 rfl (lv_at hl 2 rfl) ?_
  refine r_zald (j := j) (v := bI (dl j)) hx hb hK.1 hP 4 1 rfl rfl (by omega) (by first | decide | omega) rfl dX4_isBetter_11 ?_
  refine r_icmp_eqB (x := dl i) (y := dl j) (tgt := 30) hx hb dX4_isBetter_12 (by decide) (fun c12 => ?_) (fun c12 => ?_)
  · refine lv_aload_n hx hb dX4_isBetter_30 rfl (lv_at hl 0 rfl) ?_
    refine va_get (D := D) (ci := 4) (v := .ref (g 5)) (C := RX4) (T := TX4) (N := 13) hx hb hts (fun _ h => List.mem_cons_of_mem _ (List.mem_append_right _ h)) hown hK.1 hP 0 rfl rfl 4 (by decide) (hts (.fieldLink RX4 23 "RevisionStoresModel" "generations" "[I") (List.mem_of_getElem? (i := 2) rfl)) (fun _ h9 => h9) rfl dX4_isBetter_31 ?_
    refine lv_iload_n hx hb dX4_isBetter_34 rfl (lv_at hl 1 rfl) ?_
    refine r_iald (j := i) (v := nI (ge i)) hx hb hK.1 hP 5 0 rfl rfl (by omega) (by first | decide | omega) rfl dX4_isBetter_35 ?_
    have f35 := hTg i
    refine lv_aload_n hx hb dX4_isBetter_36 rfl (lv_at hl 0 rfl) ?_
    refine va_get (D := D) (ci := 4) (v := .ref (g 5)) (C := RX4) (T := TX4) (N := 13) hx hb hts (fun _ h => List.mem_cons_of_mem _ (List.mem_append_right _ h)) hown hK.1 hP 0 rfl rfl 4 (by decide) (hts (.fieldLink RX4 23 "RevisionStoresModel" "generations" "[I") (List.mem_of_getElem? (i := 2) rfl)) (fun _ h9 => h9) rfl dX4_isBetter_37 ?_
    refine lv_iload_n hx hb dX4_isBetter_40 rfl (lv_at hl 2 rfl) ?_
    refine r_iald (j := j) (v := nI (ge j)) hx hb hK.1 hP 5 0 rfl rfl (by omega) (by first | decide | omega) rfl dX4_isBetter_41 ?_
    have f41 := hTg j
    refine r_icmp_eqN hx hb (x := ge i) (y := ge j) (by first | omega | decide) (by first | omega | decide) (tgt := 66) dX4_isBetter_42 (by decide) (fun c42 => ?_) (fun c42 => ?_)
    · refine lv_aload_n hx hb dX4_isBetter_66 rfl (lv_at hl 0 rfl) ?_
      refine va_get (D := D) (ci := 4) (v := .ref (g 6)) (C := RX4) (T := TX4) (N := 13) hx hb hts (fun _ h => List.mem_cons_of_mem _ (List.mem_append_right _ h)) hown hK.1 hP 0 rfl rfl 5 (by decide) (hts (.fieldLink RX4 26 "RevisionStoresModel" "sums" "[I") (List.mem_of_getElem? (i := 3) rfl)) (fun _ h9 => h9) rfl dX4_isBetter_67 ?_
      refine lv_iload_n hx hb dX4_isBetter_70 rfl (lv_at hl 1 rfl) ?_
      refine r_iald (j := i) (v := su i) hx hb hK.1 hP 6 0 rfl rfl (by omega) (by first | decide | omega) rfl dX4_isBetter_71 ?_
      refine lv_aload_n hx hb dX4_isBetter_72 rfl (lv_at hl 0 rfl) ?_
      refine va_get (D := D) (ci := 4) (v := .ref (g 6)) (C := RX4) (T := TX4) (N := 13) hx hb hts (fun _ h => List.mem_cons_of_mem _ (List.mem_append_right _ h)) hown hK.1 hP 0 rfl rfl 5 (by decide) (hts (.fieldLink RX4 26 "RevisionStoresModel" "sums" "[I") (List.mem_of_getElem? (i := 3) rfl)) (fun _ h9 => h9) rfl dX4_isBetter_73 ?_
      refine lv_iload_n hx hb dX4_isBetter_76 rfl (lv_at hl 2 rfl) ?_
      refine r_iald (j := j) (v := su j) hx hb hK.1 hP 6 0 rfl rfl (by omega) (by first | decide | omega) rfl dX4_isBetter_77 ?_
      refine lv_icmp_eq (x := su i) (y := su j) (tgt := 104) hx hb dX4_isBetter_78 (by decide) (fun c78 => ?_) (fun c78 => ?_)
      · refine lv_iload_n hx hb dX4_isBetter_104 rfl (lv_at hl 1 rfl) ?_
        refine lv_iload_n hx hb dX4_isBetter_105 rfl (lv_at hl 2 rfl) ?_
        refine r_icmp_geN hx hb (x := i) (y := j) (by first | omega | decide) (by first | omega | decide) (tgt := 113) dX4_isBetter_106 (by decide) (fun c106 => ?_) (fun c106 => ?_)
        · refine lv_iconst (v := nI 0) hx hb dX4_isBetter_113 (by decide) ?_
          refine r_top (y := bI (btr dl ge su i j)) (congrArg bI (show false = (btr dl ge su i j) from by first | (simp [btr, c12, c42, c78, c106]; done) | (cases e1 : dl i <;> cases e2 : dl j <;> simp_all [btr]; done))) ?_
          exact W.zret hx hb hr (bI_narrow _) (fun t ht hW => ⟨_, rfl, rfl, ht⟩) (fun _ h => by cases h) dX4_isBetter_114
        · refine lv_iconst (v := nI 1) hx hb dX4_isBetter_109 (by decide) ?_
          refine lv_goto (tgt := 114) hx hb dX4_isBetter_110 (by decide) ?_
          refine r_top (y := bI (btr dl ge su i j)) (congrArg bI (show true = (btr dl ge su i j) from by first | (simp [btr, c12, c42, c78, c106]; done) | (cases e1 : dl i <;> cases e2 : dl j <;> simp_all [btr]; done))) ?_
          exact W.zret hx hb hr (bI_narrow _) (fun t ht hW => ⟨_, rfl, rfl, ht⟩) (fun _ h => by cases h) dX4_isBetter_114
      · refine lv_aload_n hx hb dX4_isBetter_81 rfl (lv_at hl 0 rfl) ?_
        refine va_get (D := D) (ci := 4) (v := .ref (g 6)) (C := RX4) (T := TX4) (N := 13) hx hb hts (fun _ h => List.mem_cons_of_mem _ (List.mem_append_right _ h)) hown hK.1 hP 0 rfl rfl 5 (by decide) (hts (.fieldLink RX4 26 "RevisionStoresModel" "sums" "[I") (List.mem_of_getElem? (i := 3) rfl)) (fun _ h9 => h9) rfl dX4_isBetter_82 ?_
        refine lv_iload_n hx hb dX4_isBetter_85 rfl (lv_at hl 1 rfl) ?_
        refine r_iald (j := i) (v := su i) hx hb hK.1 hP 6 0 rfl rfl (by omega) (by first | decide | omega) rfl dX4_isBetter_86 ?_
        refine lv_aload_n hx hb dX4_isBetter_87 rfl (lv_at hl 0 rfl) ?_
        refine va_get (D := D) (ci := 4) (v := .ref (g 6)) (C := RX4) (T := TX4) (N := 13) hx hb hts (fun _ h => List.mem_cons_of_mem _ (List.mem_append_right _ h)) hown hK.1 hP 0 rfl rfl 5 (by decide) (hts (.fieldLink RX4 26 "RevisionStoresModel" "sums" "[I") (List.mem_of_getElem? (i := 3) rfl)) (fun _ h9 => h9) rfl dX4_isBetter_88 ?_
        refine lv_iload_n hx hb dX4_isBetter_91 rfl (lv_at hl 2 rfl) ?_
        refine r_iald (j := j) (v := su j) hx hb hK.1 hP 6 0 rfl rfl (by omega) (by first | decide | omega) rfl dX4_isBetter_92 ?_
        refine lv_icmp_le (x := su i) (y := su j) (tgt := 100) hx hb dX4_isBetter_93 (by decide) (fun c93 => ?_) (fun c93 => ?_)
        · refine lv_iconst (v := nI 0) hx hb dX4_isBetter_100 (by decide) ?_
          refine lv_goto (tgt := 114) hx hb dX4_isBetter_101 (by decide) ?_
          refine r_top (y := bI (btr dl ge su i j)) (congrArg bI (show false = (btr dl ge su i j) from by first | (simp [btr, c12, c42, c78, c93]; done) | (cases e1 : dl i <;> cases e2 : dl j <;> simp_all [btr]; done))) ?_
          exact W.zret hx hb hr (bI_narrow _) (fun t ht hW => ⟨_, rfl, rfl, ht⟩) (fun _ h => by cases h) dX4_isBetter_114
        · refine lv_iconst (v := nI 1) hx hb dX4_isBetter_96 (by decide) ?_
          refine lv_goto (tgt := 114) hx hb dX4_isBetter_97 (by decide) ?_
          refine r_top (y := bI (btr dl ge su i j)) (congrArg bI (show true = (btr dl ge su i j) from by first | (simp [btr, c12, c42, c78, c93]; done) | (cases e1 : dl i <;> cases e2 : dl j <;> simp_all [btr]; done))) ?_
          exact W.zret hx hb hr (bI_narrow _) (fun t ht hW => ⟨_, rfl, rfl, ht⟩) (fun _ h => by cases h) dX4_isBetter_114
    · refine lv_aload_n hx hb dX4_isBetter_45 rfl (lv_at hl 0 rfl) ?_
      refine va_get (D := D) (ci := 4) (v := .ref (g 5)) (C := RX4) (T := TX4) (N := 13) hx hb hts (fun _ h => List.mem_cons_of_mem _ (List.mem_append_right _ h)) hown hK.1 hP 0 rfl rfl 4 (by decide) (hts (.fieldLink RX4 23 "RevisionStoresModel" "generations" "[I") (List.mem_of_getElem? (i := 2) rfl)) (fun _ h9 => h9) rfl dX4_isBetter_46 ?_
      refine lv_iload_n hx hb dX4_isBetter_49 rfl (lv_at hl 1 rfl) ?_
      refine r_iald (j := i) (v := nI (ge i)) hx hb hK.1 hP 5 0 rfl rfl (by omega) (by first | decide | omega) rfl dX4_isBetter_50 ?_
      have f50 := hTg i
      refine lv_aload_n hx hb dX4_isBetter_51 rfl (lv_at hl 0 rfl) ?_
      refine va_get (D := D) (ci := 4) (v := .ref (g 5)) (C := RX4) (T := TX4) (N := 13) hx hb hts (fun _ h => List.mem_cons_of_mem _ (List.mem_append_right _ h)) hown hK.1 hP 0 rfl rfl 4 (by decide) (hts (.fieldLink RX4 23 "RevisionStoresModel" "generations" "[I") (List.mem_of_getElem? (i := 2) rfl)) (fun _ h9 => h9) rfl dX4_isBetter_52 ?_
      refine lv_iload_n hx hb dX4_isBetter_55 rfl (lv_at hl 2 rfl) ?_
      refine r_iald (j := j) (v := nI (ge j)) hx hb hK.1 hP 5 0 rfl rfl (by omega) (by first | decide | omega) rfl dX4_isBetter_56 ?_
      have f56 := hTg j
      refine r_icmp_leN hx hb (x := ge i) (y := ge j) (by first | omega | decide) (by first | omega | decide) (tgt := 64) dX4_isBetter_57 (by decide) (fun c57 => ?_) (fun c57 => ?_)
      · refine lv_iconst (v := nI 0) hx hb dX4_isBetter_64 (by decide) ?_
        refine r_top (y := bI (btr dl ge su i j)) (congrArg bI (show false = (btr dl ge su i j) from by first | (simp [btr, c12, c42, c57]; done) | (cases e1 : dl i <;> cases e2 : dl j <;> simp_all [btr]; done))) ?_
        exact W.zret hx hb hr (bI_narrow _) (fun t ht hW => ⟨_, rfl, rfl, ht⟩) (fun _ h => by cases h) dX4_isBetter_65
      · refine lv_iconst (v := nI 1) hx hb dX4_isBetter_60 (by decide) ?_
        refine lv_goto (tgt := 65) hx hb dX4_isBetter_61 (by decide) ?_
        refine r_top (y := bI (btr dl ge su i j)) (congrArg bI (show true = (btr dl ge su i j) from by first | (simp [btr, c12, c42, c57]; done) | (cases e1 : dl i <;> cases e2 : dl j <;> simp_all [btr]; done))) ?_
        exact W.zret hx hb hr (bI_narrow _) (fun t ht hW => ⟨_, rfl, rfl, ht⟩) (fun _ h => by cases h) dX4_isBetter_65
  · refine lv_aload_n hx hb dX4_isBetter_15 rfl (lv_at hl 0 rfl) ?_
    refine va_get (D := D) (ci := 4) (v := .ref (g 4)) (C := RX4) (T := TX4) (N := 13) hx hb hts (fun _ h => List.mem_cons_of_mem _ (List.mem_append_right _ h)) hown hK.1 hP 0 rfl rfl 3 (by decide) (hts (.fieldLink RX4 19 "RevisionStoresModel" "deletions" "[Z") (List.mem_of_getElem? (i := 1) rfl)) (fun _ h9 => h9) rfl dX4_isBetter_16 ?_
    refine lv_iload_n hx hb dX4_isBetter_19 rfl (lv_at hl 1 rfl) ?_
    refine r_zald (j := i) (v := bI (dl i)) hx hb hK.1 hP 4 1 rfl rfl (by omega) (by first | decide | omega) rfl dX4_isBetter_20 ?_
    refine r_if_neB (x := dl i) (tgt := 28) hx hb dX4_isBetter_21 (by decide) (fun c21 => ?_) (fun c21 => ?_)
    · refine lv_iconst (v := nI 0) hx hb dX4_isBetter_28 (by decide) ?_
      refine r_top (y := bI (btr dl ge su i j)) (congrArg bI (show false = (btr dl ge su i j) from by first | (simp [btr, c12, c21]; done) | (cases e1 : dl i <;> cases e2 : dl j <;> simp_all [btr]; done))) ?_
      exact W.zret hx hb hr (bI_narrow _) (fun t ht hW => ⟨_, rfl, rfl, ht⟩) (fun _ h => by cases h) dX4_isBetter_29
    · refine lv_iconst (v := nI 1) hx hb dX4_isBetter_24 (by decide) ?_
      refine lv_goto (tgt := 29) hx hb dX4_isBetter_25 (by decide) ?_
      refine r_top (y := bI (btr dl ge su i j)) (congrArg bI (show true = (btr dl ge su i j) from by first | (simp [btr, c12, c21]; done) | (cases e1 : dl i <;> cases e2 : dl j <;> simp_all [btr]; done))) ?_
      exact W.zret hx hb hr (bI_narrow _) (fun t ht hW => ⟨_, rfl, rfl, ht⟩) (fun _ h => by cases h) dX4_isBetter_29
end
