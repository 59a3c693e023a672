/-! numbers and rows of this claim: an int is a number (nI), a truth (bI), a number or none (eP), or itself -/
def bI (b : Bool) : Int32 := if b = true then 1 else 0
def eP (o : Option Nat) : Int32 := match o with
  | none => -1
  | some j => nI j
theorem bI_0 {b : Bool} (h : bI b = 0) : b = false := by
  cases b
  · rfl
  · exact absurd h (by decide)
theorem bI_1 {b : Bool} (h : ¬ bI b = 0) : b = true := by
  cases b
  · exact absurd rfl h
  · rfl
theorem bI_inj {a b : Bool} : bI a = bI b ↔ a = b := by
  refine ⟨fun h => ?_, fun h => by rw [h]⟩
  cases a <;> cases b <;> first | rfl | exact absurd h (by decide)
theorem bI_nar (b : Bool) : vp_nar .boolean (bI b) = bI b := by cases b <;> decide
theorem bI_narrow (b : Bool) : narrow .boolean (.int (bI b)) = .int (bI b) := by cases b <;> decide
theorem bI_fits (b : Bool) : fits .boolean (.int (bI b)) = true := by cases b <;> decide
theorem eP_m1 {j : Nat} (h : j < 2 ^ 31) : ¬ nI j = -1 := by
  intro e
  have h1 := congrArg Int32.toInt e
  rw [nI_toInt h] at h1
  have h2 : (-1 : Int32).toInt = -1 := by decide
  omega
theorem eP_none {o : Option Nat} (hb : ∀ j, o = some j → j < 2 ^ 31) (h : eP o = -1) : o = none := by
  cases o with
  | none => rfl
  | some j => exact absurd h (eP_m1 (hb j rfl))
theorem eP_inj {a b : Option Nat} (ha : ∀ j, a = some j → j < 2 ^ 31) (hb : ∀ j, b = some j → j < 2 ^ 31) : eP a = eP b ↔ a = b := by
  refine ⟨fun h => ?_, fun h => by rw [h]⟩
  cases a with
  | none => exact (eP_none hb h.symm).symm
  | some i =>
    cases b with
    | none => exact absurd h (eP_m1 (ha i rfl))
    | some j => rw [(nI_eq (ha i rfl) (hb j rfl)).mp h]
theorem up_b (f : Nat → Bool) (j : Nat) (b : Bool) : upd (fun k => bI (f k)) j (bI b) = fun k => bI (va_up f j b k) := by
  funext q
  by_cases h : q = j <;> simp [upd, va_up, h]
theorem up_n (f : Nat → Nat) (j v : Nat) : upd (fun k => nI (f k)) j (nI v) = fun k => nI (va_up f j v k) := by
  funext q
  by_cases h : q = j <;> simp [upd, va_up, h]
theorem up_p (f : Nat → Option Nat) (j : Nat) (v : Option Nat) : upd (fun k => eP (f k)) j (eP v) = fun k => eP (va_up f j v k) := by
  funext q
  by_cases h : q = j <;> simp [upd, va_up, h]
theorem up_i (f : Nat → Int32) (j : Nat) (v : Int32) : upd f j v = va_up f j v := rfl
theorem lv_re {ls : Array Slot} {nL : Nat} {f : Int32 → List (Nat × Value)} {x y : Int32} (h : lv_has ls nL (f x)) (e : x = y) : lv_has ls nL (f y) := e ▸ h
/-- the array classes of this claim: int, boolean, stores, long -/
abbrev tyA (ct : Nat → ClassId) : List (ClassId × FieldType) := [(ct 0, .int), (ct 1, .boolean), (ct 2, .object "RevisionStores$Store")]
def nWs : List Cond := [.methodLinkNest "RevisionStores" 9 ⟨"RevisionStores$Tree", "<init>", "()V"⟩ "RevisionStores", .methodLinkNest "RevisionStores" 29 ⟨"RevisionStores$Store", "<init>", "()V"⟩ "RevisionStores", .fieldLinkNest "RevisionStores" 63 "RevisionStores$Tree" "deletions" "[Z" "RevisionStores", .fieldLinkNest "RevisionStores" 74 "RevisionStores$Store" "depth" "I" "RevisionStores", .fieldLinkNest "RevisionStores" 78 "RevisionStores$Store" "holding" "LRevisionStores$Holding;" "RevisionStores", .fieldLinkNest "RevisionStores" 111 "RevisionStores$Store" "changes" "[I" "RevisionStores", .fieldLinkNest "RevisionStores" 115 "RevisionStores$Store" "latest" "I" "RevisionStores", .fieldLinkNest "RevisionStores" 118 "RevisionStores$Store" "checkpoints" "[I" "RevisionStores", .fieldLinkNest "RevisionStores" 127 "RevisionStores$Tree" "made" "I" "RevisionStores", .fieldLinkNest "RevisionStores" 130 "RevisionStores$Tree" "documents" "[I" "RevisionStores", .fieldLinkNest "RevisionStores" 133 "RevisionStores$Tree" "parents" "[I" "RevisionStores", .fieldLinkNest "RevisionStores" 136 "RevisionStores$Tree" "generations" "[I" "RevisionStores", .fieldLinkNest "RevisionStores" 139 "RevisionStores$Tree" "sums" "[I" "RevisionStores", .fieldLinkNest "RevisionStores" 142 "RevisionStores$Tree" "values" "[I" "RevisionStores", .fieldLinkNest "RevisionStores" 145 "RevisionStores$Holding" "held" "[Z" "RevisionStores", .fieldLinkNest "RevisionStores" 152 "RevisionStores$Holding" "winners" "[I" "RevisionStores", .fieldLinkNest "RevisionStores$Holding" 35 "RevisionStores$Tree" "made" "I" "RevisionStores", .fieldLinkNest "RevisionStores$Holding" 41 "RevisionStores$Tree" "parents" "[I" "RevisionStores", .fieldLinkNest "RevisionStores$Holding" 48 "RevisionStores$Tree" "generations" "[I" "RevisionStores", .fieldLinkNest "RevisionStores$Holding" 57 "RevisionStores$Tree" "documents" "[I" "RevisionStores", .fieldLinkNest "RevisionStores$Holding" 71 "RevisionStores$Tree" "deletions" "[Z" "RevisionStores", .fieldLinkNest "RevisionStores$Holding" 74 "RevisionStores$Tree" "values" "[I" "RevisionStores", .fieldLinkNest "RevisionStores$Store" 32 "RevisionStores$Holding" "held" "[Z" "RevisionStores", .fieldLinkNest "RevisionStores$Store" 36 "RevisionStores$Tree" "documents" "[I" "RevisionStores"]
def isNest : Cond → Bool
  | .fieldLinkNest .. => true
  | .methodLinkNest .. => true
  | _ => false
def nW (U : State) : Prop := ∀ w ∈ nWs, va_Nw w U
theorem nWs_nest : ∀ w ∈ nWs, isNest w = true := by decide
theorem nest_warm {w : Cond} (hn : isNest w = true) {s U : State} (hW : s.WarmedH U.vm) (h : va_Nw w s) : va_Nw w U := by
  cases w <;> first | exact va_Nw.warmF hW h | exact va_Nw.warmM hW h | exact absurd hn (by simp [isNest])
theorem nest_same {w : Cond} (hn : isNest w = true) {s U : State} (hv : s.vm = U.vm) (h : va_Nw w s) : va_Nw w U := by
  cases w <;> first | exact va_Nw.same rfl hv h | exact absurd hn (by simp [isNest])
theorem nW.warm {s U : State} (hW : s.WarmedH U.vm) (h : nW s) : nW U := fun w hw => nest_warm (nWs_nest w hw) hW (h w hw)
theorem nW.same {s U : State} (hv : s.vm = U.vm) (h : nW s) : nW U := fun w hw => nest_same (nWs_nest w hw) hv (h w hw)
abbrev KK (D : va_G) (ct : Nat → ClassId) (U : State) : Prop := va_K D vwCl (tyA ct) U ∧ nW U
theorem KK.warm {D : va_G} {ct : Nat → ClassId} {s U : State} (hW : s.WarmedH U.vm) (h : KK D ct s) : KK D ct U := ⟨va_K.moved hW.alike h.1, h.2.warm hW⟩
theorem KK.call {D : va_G} {ct : Nat → ClassId} {U : State} {g : JFrame} {mk : MethodId} {a : Array Value} (h : KK D ct U) : KK D ct (U.calling g mk a) := ⟨va_K.moved (u := U) (U := U.calling g mk a) (Vm.Alike.refl U.vm) h.1, nW.same (s := U) (U := U.calling g mk a) rfl h.2⟩
section RWS
variable {p : Program} {l : Launch} {e : Env} {R : Room} {s : State} {m : MethodId} {args : Array Value} {below : List Frame} {meth : Method} {c : Code} {H : Heap} {locs : List Loc} {cells slots : Nat} {Q : State → Prop}
variable {cc : ByteArray} {pc : Nat} {ls : Array Slot} {rest : List Value} {D : va_G} {cl : List vw_C} {A : Nat → Prop} {a : Nat} {tys : List (ClassId × FieldType)} {ws : va_W} {H0 : Heap}
theorem r_top {x y : Int32} (h : x = y) (k : W p l e R s m args below meth c H locs cells slots Q (F0 m pc ls (.int y :: rest))) : W p l e R s m args below meth c H locs cells slots Q (F0 m pc ls (.int x :: rest)) := h ▸ k
theorem r_topZ {x y : Int32} {v : Value} (h : x = y) (k : W p l e R s m args below meth c H locs cells slots Q (F0 m pc ls (v :: .int y :: rest))) : W p l e R s m args below meth c H locs cells slots Q (F0 m pc ls (v :: .int x :: rest)) := h ▸ k
theorem r_iald (hexec : p.tables.exec = Jvm.exec) (hb : c.code = cc) (hK : va_K D cl tys s) (hP : va_P D cl ws H) (q0 t0 : Nat) {cA : ClassId} {n : Nat} {f : Nat → Int32} (ha : ws[q0]? = some (a, .inl (cA, n, .inl f))) (ht : tys[t0]? = some (cA, .int)) {j : Nat} (hj : j < n) (hn : n < 2 ^ 31) {v : Int32} (hv : f j = v) (hdg : decode cc pc = .ok (.iaload, 1))
    (kk : W p l e R s m args below meth c H locs cells slots Q (F0 m (pc + 1) ls (.int v :: rest))) : W p l e R s m args below meth c H locs cells slots Q (F0 m pc ls (.int (nI j) :: .ref a :: rest)) :=
  va_iald hexec hb hK hP q0 t0 ha ht (vp_in_nI hj hn) hdg (by rw [nI_clamp (by omega), hv]; exact kk)
theorem r_zald (hexec : p.tables.exec = Jvm.exec) (hb : c.code = cc) (hK : va_K D cl tys s) (hP : va_P D cl ws H) (q0 t0 : Nat) {cA : ClassId} {n : Nat} {f : Nat → Int32} (ha : ws[q0]? = some (a, .inl (cA, n, .inl f))) (ht : tys[t0]? = some (cA, .boolean)) {j : Nat} (hj : j < n) (hn : n < 2 ^ 31) {v : Int32} (hv : f j = v) (hdg : decode cc pc = .ok (.baload, 1))
    (kk : W p l e R s m args below meth c H locs cells slots Q (F0 m (pc + 1) ls (.int v :: rest))) : W p l e R s m args below meth c H locs cells slots Q (F0 m pc ls (.int (nI j) :: .ref a :: rest)) :=
  va_zald hexec hb hK hP q0 t0 ha ht (vp_in_nI hj hn) hdg (by rw [nI_clamp (by omega), hv]; exact kk)
theorem r_iast (hexec : p.tables.exec = Jvm.exec) (hb : c.code = cc) (hK : va_K D cl tys s) (hP : va_P D cl ws H) (hD : va_D A ws) (hS : va_S A H0 H locs) (q0 t0 : Nat) {cA : ClassId} {n : Nat} {f : Nat → Int32} (ha : ws[q0]? = some (a, .inl (cA, n, .inl f))) (ht : tys[t0]? = some (cA, .int)) {j : Nat} {x : Int32} (hj : j < n) (hn : n < 2 ^ 31) {f' : Nat → Int32} (hv : upd f j x = f') (hdg : decode cc pc = .ok (.iastore, 1))
    (kk : ∀ (H1 : Heap) (locs1 : List Loc), va_P D cl (ws.set q0 (a, .inl (cA, n, .inl f'))) H1 → va_D A (ws.set q0 (a, .inl (cA, n, .inl f'))) → va_S A H0 H1 locs1 → W p l e R s m args below meth c H1 locs1 cells slots Q (F0 m (pc + 1) ls rest)) : W p l e R s m args below meth c H locs cells slots Q (F0 m pc ls (.int x :: .int (nI j) :: .ref a :: rest)) := by
  subst hv
  refine va_iast hexec hb hK hP hD hS q0 t0 ha ht (vp_in_nI hj hn) hdg ?_
  rw [nI_clamp (by omega)]
  exact kk
theorem r_zast (hexec : p.tables.exec = Jvm.exec) (hb : c.code = cc) (hK : va_K D cl tys s) (hP : va_P D cl ws H) (hD : va_D A ws) (hS : va_S A H0 H locs) (q0 t0 : Nat) {cA : ClassId} {n : Nat} {f : Nat → Int32} (ha : ws[q0]? = some (a, .inl (cA, n, .inl f))) (ht : tys[t0]? = some (cA, .boolean)) {j : Nat} {x : Bool} (hj : j < n) (hn : n < 2 ^ 31) {f' : Nat → Int32} (hv : upd f j (bI x) = f') (hdg : decode cc pc = .ok (.bastore, 1))
    (kk : ∀ (H1 : Heap) (locs1 : List Loc), va_P D cl (ws.set q0 (a, .inl (cA, n, .inl f'))) H1 → va_D A (ws.set q0 (a, .inl (cA, n, .inl f'))) → va_S A H0 H1 locs1 → W p l e R s m args below meth c H1 locs1 cells slots Q (F0 m (pc + 1) ls rest)) : W p l e R s m args below meth c H locs cells slots Q (F0 m pc ls (.int (bI x) :: .int (nI j) :: .ref a :: rest)) := by
  subst hv
  refine va_zast hexec hb hK hP hD hS q0 t0 ha ht (vp_in_nI hj hn) hdg ?_
  rw [nI_clamp (by omega), bI_nar]
  exact kk
theorem r_iaddN (hexec : p.tables.exec = Jvm.exec) (hb : c.code = cc) {x y : Nat} (hdg : decode cc pc = .ok (.iadd, 1))
    (kk : W p l e R s m args below meth c H locs cells slots Q (F0 m (pc + 1) ls (.int (nI (x + y)) :: rest))) : W p l e R s m args below meth c H locs cells slots Q (F0 m pc ls (.int (nI y) :: .int (nI x) :: rest)) :=
  lv_iadd hexec hb hdg (by rw [nI_add]; exact kk)
theorem r_imulN (hexec : p.tables.exec = Jvm.exec) (hb : c.code = cc) {x y : Nat} (hdg : decode cc pc = .ok (.imul, 1))
    (kk : W p l e R s m args below meth c H locs cells slots Q (F0 m (pc + 1) ls (.int (nI (x * y)) :: rest))) : W p l e R s m args below meth c H locs cells slots Q (F0 m pc ls (.int (nI y) :: .int (nI x) :: rest)) :=
  lv_imul hexec hb hdg (by rw [pk_mul]; exact kk)
theorem r_if_eqB (hexec : p.tables.exec = Jvm.exec) (hb : c.code = cc) {x : Bool} {off : Int} {tgt : Nat} (hdg : decode cc pc = .ok (.ifCond .eq off, 3)) (ht : (pc : Int) + off = (tgt : Int))
    (kt : x = false → W p l e R s m args below meth c H locs cells slots Q (F0 m tgt ls rest)) (kf : x = true → W p l e R s m args below meth c H locs cells slots Q (F0 m (pc + 3) ls rest)) : W p l e R s m args below meth c H locs cells slots Q (F0 m pc ls (.int (bI x) :: rest)) :=
  lv_if_eq hexec hb hdg ht (fun h => kt (bI_0 h)) (fun h => kf (bI_1 h))
theorem r_if_neB (hexec : p.tables.exec = Jvm.exec) (hb : c.code = cc) {x : Bool} {off : Int} {tgt : Nat} (hdg : decode cc pc = .ok (.ifCond .ne off, 3)) (ht : (pc : Int) + off = (tgt : Int))
    (kt : x = true → W p l e R s m args below meth c H locs cells slots Q (F0 m tgt ls rest)) (kf : x = false → W p l e R s m args below meth c H locs cells slots Q (F0 m (pc + 3) ls rest)) : W p l e R s m args below meth c H locs cells slots Q (F0 m pc ls (.int (bI x) :: rest)) :=
  lv_if_ne hexec hb hdg ht (fun h => kt (bI_1 h)) (fun h => kf (bI_0 h))
theorem r_if_leN (hexec : p.tables.exec = Jvm.exec) (hb : c.code = cc) {x : Nat} (hx : x < 2 ^ 31) {off : Int} {tgt : Nat} (hdg : decode cc pc = .ok (.ifCond .le off, 3)) (ht : (pc : Int) + off = (tgt : Int))
    (kt : x = 0 → W p l e R s m args below meth c H locs cells slots Q (F0 m tgt ls rest)) (kf : 0 < x → W p l e R s m args below meth c H locs cells slots Q (F0 m (pc + 3) ls rest)) : W p l e R s m args below meth c H locs cells slots Q (F0 m pc ls (.int (nI x) :: rest)) :=
  lv_if_le hexec hb hdg ht (fun h => kt (by have h2 := (nI_leI hx (by omega) (b := 0)).mp h; omega)) (fun h => kf (by
    rcases Nat.eq_zero_or_pos x with q | q
    · exact absurd (by rw [q]; decide) h
    · exact q))
theorem r_if_neN (hexec : p.tables.exec = Jvm.exec) (hb : c.code = cc) {x : Nat} (hx : x < 2 ^ 31) {off : Int} {tgt : Nat} (hdg : decode cc pc = .ok (.ifCond .ne off, 3)) (ht : (pc : Int) + off = (tgt : Int))
    (kt : 0 < x → W p l e R s m args below meth c H locs cells slots Q (F0 m tgt ls rest)) (kf : x = 0 → W p l e R s m args below meth c H locs cells slots Q (F0 m (pc + 3) ls rest)) : W p l e R s m args below meth c H locs cells slots Q (F0 m pc ls (.int (nI x) :: rest)) :=
  lv_if_ne hexec hb hdg ht (fun h => kt (by
    rcases Nat.eq_zero_or_pos x with q | q
    · exact absurd (by rw [q]; rfl) h
    · exact q)) (fun h => kf (by have h2 := (nI_eq hx (by omega) (b := 0)).mp h; omega))
theorem r_if_ltP (hexec : p.tables.exec = Jvm.exec) (hb : c.code = cc) {x : Option Nat} (hx : ∀ j, x = some j → j < 2 ^ 31) {off : Int} {tgt : Nat} (hdg : decode cc pc = .ok (.ifCond .lt off, 3)) (ht : (pc : Int) + off = (tgt : Int))
    (kt : x = none → W p l e R s m args below meth c H locs cells slots Q (F0 m tgt ls rest)) (kf : ∀ j, x = some j → W p l e R s m args below meth c H locs cells slots Q (F0 m (pc + 3) ls rest)) : W p l e R s m args below meth c H locs cells slots Q (F0 m pc ls (.int (eP x) :: rest)) := by
  cases x with
  | none => exact lv_if_lt hexec hb hdg ht (fun _ => kt rfl) (fun h => absurd (by decide) h)
  | some j => exact lv_if_lt hexec hb hdg ht (fun h => absurd h (nI_pos (hx j rfl))) (fun _ => kf j rfl)
theorem r_icmp_eqP (hexec : p.tables.exec = Jvm.exec) (hb : c.code = cc) {x : Option Nat} (hx : ∀ j, x = some j → j < 2 ^ 31) {off : Int} {tgt : Nat} (hdg : decode cc pc = .ok (.if_icmp .eq off, 3)) (ht : (pc : Int) + off = (tgt : Int))
    (kt : x = none → W p l e R s m args below meth c H locs cells slots Q (F0 m tgt ls rest)) (kf : ∀ j, x = some j → W p l e R s m args below meth c H locs cells slots Q (F0 m (pc + 3) ls rest)) : W p l e R s m args below meth c H locs cells slots Q (F0 m pc ls (.int (-1) :: .int (eP x) :: rest)) := by
  cases x with
  | none => exact lv_icmp_eq hexec hb hdg ht (fun _ => kt rfl) (fun h => absurd rfl h)
  | some j => exact lv_icmp_eq hexec hb hdg ht (fun h => absurd h (eP_m1 (hx j rfl))) (fun _ => kf j rfl)
theorem r_icmp_neP (hexec : p.tables.exec = Jvm.exec) (hb : c.code = cc) {x : Option Nat} (hx : ∀ j, x = some j → j < 2 ^ 31) {off : Int} {tgt : Nat} (hdg : decode cc pc = .ok (.if_icmp .ne off, 3)) (ht : (pc : Int) + off = (tgt : Int))
    (kt : ∀ j, x = some j → W p l e R s m args below meth c H locs cells slots Q (F0 m tgt ls rest)) (kf : x = none → W p l e R s m args below meth c H locs cells slots Q (F0 m (pc + 3) ls rest)) : W p l e R s m args below meth c H locs cells slots Q (F0 m pc ls (.int (-1) :: .int (eP x) :: rest)) := by
  cases x with
  | none => exact lv_icmp_ne hexec hb hdg ht (fun h => absurd rfl h) (fun _ => kf rfl)
  | some j => exact lv_icmp_ne hexec hb hdg ht (fun _ => kt j rfl) (fun h => absurd h (eP_m1 (hx j rfl)))
theorem r_icmp_eqB (hexec : p.tables.exec = Jvm.exec) (hb : c.code = cc) {x y : Bool} {off : Int} {tgt : Nat} (hdg : decode cc pc = .ok (.if_icmp .eq off, 3)) (ht : (pc : Int) + off = (tgt : Int))
    (kt : x = y → W p l e R s m args below meth c H locs cells slots Q (F0 m tgt ls rest)) (kf : ¬ x = y → W p l e R s m args below meth c H locs cells slots Q (F0 m (pc + 3) ls rest)) : W p l e R s m args below meth c H locs cells slots Q (F0 m pc ls (.int (bI y) :: .int (bI x) :: rest)) :=
  lv_icmp_eq hexec hb hdg ht (fun h => kt (bI_inj.mp h)) (fun h => kf (fun z => h (bI_inj.mpr z)))
theorem r_icmp_neB (hexec : p.tables.exec = Jvm.exec) (hb : c.code = cc) {x y : Bool} {off : Int} {tgt : Nat} (hdg : decode cc pc = .ok (.if_icmp .ne off, 3)) (ht : (pc : Int) + off = (tgt : Int))
    (kt : ¬ x = y → W p l e R s m args below meth c H locs cells slots Q (F0 m tgt ls rest)) (kf : x = y → W p l e R s m args below meth c H locs cells slots Q (F0 m (pc + 3) ls rest)) : W p l e R s m args below meth c H locs cells slots Q (F0 m pc ls (.int (bI y) :: .int (bI x) :: rest)) :=
  lv_icmp_ne hexec hb hdg ht (fun h => kt (fun z => h (bI_inj.mpr z))) (fun h => kf (bI_inj.mp h))
theorem r_icmp_eqN (hexec : p.tables.exec = Jvm.exec) (hb : c.code = cc) {x y : Nat} (hx : x < 2 ^ 31) (hy : y < 2 ^ 31) {off : Int} {tgt : Nat} (hdg : decode cc pc = .ok (.if_icmp .eq off, 3)) (ht : (pc : Int) + off = (tgt : Int))
    (kt : x = y → W p l e R s m args below meth c H locs cells slots Q (F0 m tgt ls rest)) (kf : ¬ x = y → W p l e R s m args below meth c H locs cells slots Q (F0 m (pc + 3) ls rest)) : W p l e R s m args below meth c H locs cells slots Q (F0 m pc ls (.int (nI y) :: .int (nI x) :: rest)) :=
  lv_icmp_eq hexec hb hdg ht (fun h => kt ((nI_eq hx hy).mp h)) (fun h => kf (fun z => h ((nI_eq hx hy).mpr z)))
theorem r_icmp_neN (hexec : p.tables.exec = Jvm.exec) (hb : c.code = cc) {x y : Nat} (hx : x < 2 ^ 31) (hy : y < 2 ^ 31) {off : Int} {tgt : Nat} (hdg : decode cc pc = .ok (.if_icmp .ne off, 3)) (ht : (pc : Int) + off = (tgt : Int))
    (kt : ¬ x = y → W p l e R s m args below meth c H locs cells slots Q (F0 m tgt ls rest)) (kf : x = y → W p l e R s m args below meth c H locs cells slots Q (F0 m (pc + 3) ls rest)) : W p l e R s m args below meth c H locs cells slots Q (F0 m pc ls (.int (nI y) :: .int (nI x) :: rest)) :=
  lv_icmp_ne hexec hb hdg ht (fun h => kt (fun z => h ((nI_eq hx hy).mpr z))) (fun h => kf ((nI_eq hx hy).mp h))
theorem r_icmp_ltN (hexec : p.tables.exec = Jvm.exec) (hb : c.code = cc) {x y : Nat} (hx : x < 2 ^ 31) (hy : y < 2 ^ 31) {off : Int} {tgt : Nat} (hdg : decode cc pc = .ok (.if_icmp .lt off, 3)) (ht : (pc : Int) + off = (tgt : Int))
    (kt : x < y → W p l e R s m args below meth c H locs cells slots Q (F0 m tgt ls rest)) (kf : y ≤ x → W p l e R s m args below meth c H locs cells slots Q (F0 m (pc + 3) ls rest)) : W p l e R s m args below meth c H locs cells slots Q (F0 m pc ls (.int (nI y) :: .int (nI x) :: rest)) :=
  lv_icmp_lt hexec hb hdg ht (fun h => kt ((nI_ltI hx hy).mp h)) (fun h => kf (Nat.le_of_not_lt (fun z => h ((nI_ltI hx hy).mpr z))))
theorem r_icmp_geN (hexec : p.tables.exec = Jvm.exec) (hb : c.code = cc) {x y : Nat} (hx : x < 2 ^ 31) (hy : y < 2 ^ 31) {off : Int} {tgt : Nat} (hdg : decode cc pc = .ok (.if_icmp .ge off, 3)) (ht : (pc : Int) + off = (tgt : Int))
    (kt : y ≤ x → W p l e R s m args below meth c H locs cells slots Q (F0 m tgt ls rest)) (kf : x < y → W p l e R s m args below meth c H locs cells slots Q (F0 m (pc + 3) ls rest)) : W p l e R s m args below meth c H locs cells slots Q (F0 m pc ls (.int (nI y) :: .int (nI x) :: rest)) :=
  lv_icmp_ge hexec hb hdg ht (fun h => kt ((nI_leI hy hx).mp h)) (fun h => kf (Nat.lt_of_not_le (fun z => h ((nI_leI hy hx).mpr z))))
theorem r_icmp_gtN (hexec : p.tables.exec = Jvm.exec) (hb : c.code = cc) {x y : Nat} (hx : x < 2 ^ 31) (hy : y < 2 ^ 31) {off : Int} {tgt : Nat} (hdg : decode cc pc = .ok (.if_icmp .gt off, 3)) (ht : (pc : Int) + off = (tgt : Int))
    (kt : y < x → W p l e R s m args below meth c H locs cells slots Q (F0 m tgt ls rest)) (kf : x ≤ y → W p l e R s m args below meth c H locs cells slots Q (F0 m (pc + 3) ls rest)) : W p l e R s m args below meth c H locs cells slots Q (F0 m pc ls (.int (nI y) :: .int (nI x) :: rest)) :=
  lv_icmp_gt hexec hb hdg ht (fun h => kt ((nI_ltI hy hx).mp h)) (fun h => kf (Nat.le_of_not_lt (fun z => h ((nI_ltI hy hx).mpr z))))
theorem r_icmp_leN (hexec : p.tables.exec = Jvm.exec) (hb : c.code = cc) {x y : Nat} (hx : x < 2 ^ 31) (hy : y < 2 ^ 31) {off : Int} {tgt : Nat} (hdg : decode cc pc = .ok (.if_icmp .le off, 3)) (ht : (pc : Int) + off = (tgt : Int))
    (kt : x ≤ y → W p l e R s m args below meth c H locs cells slots Q (F0 m tgt ls rest)) (kf : y < x → W p l e R s m args below meth c H locs cells slots Q (F0 m (pc + 3) ls rest)) : W p l e R s m args below meth c H locs cells slots Q (F0 m pc ls (.int (nI y) :: .int (nI x) :: rest)) :=
  lv_icmp_le hexec hb hdg ht (fun h => kt ((nI_leI hx hy).mp h)) (fun h => kf (Nat.lt_of_not_le (fun z => h ((nI_leI hx hy).mpr z))))
end RWS
/-! contracts of methods that only read, and their calls -/
abbrev roPc (D : va_G) (ct : Nat → ClassId) (av : List Value) (wc : va_W) : Array Value → State → Prop := va_Pc av (fun U => va_P D vwCl wc U.heap ∧ KK D ct U)
theorem ro_blind {D : va_G} {ct : Nat → ClassId} {av : List Value} {wc : va_W} : FrameBlind (roPc D ct av wc) := fun a U g mk q => ⟨q.1, q.2.1, q.2.2.call⟩
theorem ro_pre {D : va_G} {ct : Nat → ClassId} {av : List Value} {wc : va_W} {s : State} {H : Heap} (hK : KK D ct s) (hP : va_P D vwCl wc H) : ∀ U : State, U.heap = H → s.WarmedH U.vm → roPc D ct av wc av.toArray U := fun U hU hW => ⟨rfl, by rw [hU]; exact hP, hK.warm hW⟩
abbrev rqI (v : Int32) : Array Value → State → Outcome → State → Prop := vp_Si (fun r => r = v)
section RCALL
variable {p : Program} {l : Launch} {e : Env} {R : Room} {s : State} {m : MethodId} {args : Array Value} {below : List Frame} {meth : Method} {c : Code} {H : Heap} {locs : List Loc} {cells slots : Nat} {Q : State → Prop}
variable {cc : ByteArray} {pc : Nat} {ls : Array Slot} {rest st : List Value} {D : va_G} {ct : Nat → ClassId} {wc : va_W} {Ts ws : List Cond} {own C : String} {index maxL n nL : Nat} {y : MethodName} {bytes : ByteArray} {ret : Option FieldType} {rm : Room} {As : List Value} {b : Nat} {v : Int32}
theorem r_cV (S : CallFix p m c cc nL s args Ts own) (hM : Met l y ws rm (roPc D ct (.ref b :: As) wc) (rqI v) 0 0 (fun _ => False)) (cw : CallW R s args own C index y bytes maxL ret ws rm 0 0 n) (hK : KK D ct s) (hP : va_P D vwCl wc H)
    (q0 ci : Nat) {T : u_T} {N : Nat} {fs : List Value} (he : wc[q0]? = some (b, .inr (ci, fs))) (hc : vwCl[ci]? = some (C, T, N)) (hn : As.length = n) (hsize : ls.size = nL) (hstack : st = As.reverse ++ .ref b :: rest) (hW : (rest.map fun v => v.category).sum ≤ 8) (hdg : decode cc pc = .ok (.invokevirtual index, 3)) (hf : cells + 0 ≤ R.cells ∧ slots + 0 ≤ R.slots)
    (kk : W p l e R s m args below meth c H locs cells slots Q (F0 m (pc + 3) ls (.int v :: rest))) : W p l e R s m args below meth c H locs cells slots Q (F0 m pc ls st) :=
  vp_callSi (W.runV (g := F0 m pc ls st) S hM cw ⟨ro_blind, va_recv hK.1 hP hc he, ro_pre hK hP⟩ rfl hn hsize hstack (lv_room hW) hdg hf) (fun r hr => by rw [hr]; exact kk)
theorem r_cS (S : CallFix p m c cc nL s args Ts own) (hM : Met l y ws rm (roPc D ct As wc) (rqI v) 0 0 (fun _ => False)) (cw : CallB R s args own index y bytes maxL ret ws rm 0 0 n ∧ (Cond.static y).before args s = true) (hK : KK D ct s) (hP : va_P D vwCl wc H)
    (hn : As.length = n) (hsize : ls.size = nL) (hstack : st = As.reverse ++ rest) (hW : (rest.map fun v => v.category).sum ≤ 8) (hdg : decode cc pc = .ok (.invokestatic index, 3)) (hf : cells + 0 ≤ R.cells ∧ slots + 0 ≤ R.slots)
    (kk : W p l e R s m args below meth c H locs cells slots Q (F0 m (pc + 3) ls (.int v :: rest))) : W p l e R s m args below meth c H locs cells slots Q (F0 m pc ls st) :=
  vp_callSi (W.runS (g := F0 m pc ls st) S hM cw ⟨ro_blind, ro_pre hK hP⟩ rfl hn hsize hstack (lv_room hW) hdg hf) (fun r hr => by rw [hr]; exact kk)
end RCALL
/-! contracts of methods that write -/
def jn : va_W → List Nat → va_W → va_W
  | ws, p :: ps, q :: qs => jn (ws.set p q) ps qs
  | ws, _, _ => ws
theorem jn_get : ∀ (ps : List Nat) (w1 ws : va_W), ps.length = w1.length → (∀ p ∈ ps, p < ws.length) → va_nd ps = true → ∀ (k : Nat) (q : Nat × va_E), (jn ws ps w1)[k]? = some q → (∃ i : Nat, ps[i]? = some k ∧ w1[i]? = some q) ∨ (k ∉ ps ∧ ws[k]? = some q)
  | [], w1, ws, _, _, _, k, q, h => Or.inr ⟨List.not_mem_nil, by cases w1 <;> exact h⟩
  | p :: ps, [], ws, hl, _, _, k, q, h => by simp at hl
  | p :: ps, x :: w1, ws, hl, hb, hn, k, q, h => by
    simp only [va_nd, Bool.and_eq_true, decide_eq_true_eq] at hn
    rcases jn_get ps w1 (ws.set p x) (by simpa using hl) (fun y hy => by rw [List.length_set]; exact hb y (List.mem_cons_of_mem _ hy)) hn.2 k q h with ⟨i, h1, h2⟩ | ⟨h1, h2⟩
    · exact Or.inl ⟨i + 1, by simpa using h1, by simpa using h2⟩
    · by_cases hk : k = p
      · subst hk
        rw [List.getElem?_set_self (hb k List.mem_cons_self)] at h2
        exact Or.inl ⟨0, rfl, h2⟩
      · rw [List.getElem?_set_ne (Ne.symm hk)] at h2
        exact Or.inr ⟨fun z => (List.mem_cons.mp z).elim hk h1, h2⟩
theorem jn_ok {A0 : Nat → Prop} {D : va_G} {cl : List vw_C} {ws wc w1 : va_W} {H H1 : Heap} (hP : va_P D cl ws H) (hD : va_D A0 ws) (ps : List Nat) (hC : ps.map (fun i => ws[i]?) = wc.map some) (hn : va_nd ps = true) (ha : w1.map Prod.fst = wc.map Prod.fst)
    (hk : ∀ q : Nat, q < H.size → ¬ va_A wc H.size q → H1[q]? = H[q]?) (hP1 : va_P D cl w1 H1) : va_P D cl (jn ws ps w1) H1 ∧ va_D A0 (jn ws ps w1) := by
  have hl1 : ps.length = wc.length := by have := congrArg List.length hC; simpa using this
  have hl2 : w1.length = wc.length := by have := congrArg List.length ha; simpa using this
  have at' : ∀ (i p : Nat), ps[i]? = some p → ∃ q, wc[i]? = some q ∧ ws[p]? = some q := by
    intro i p hi
    have h1 : (ps.map (fun i => ws[i]?))[i]? = (wc.map some)[i]? := by rw [hC]
    rw [List.getElem?_map, List.getElem?_map, hi] at h1
    have hil : i < wc.length := by rw [← hl1]; exact (List.getElem?_eq_some_iff.mp hi).1
    obtain ⟨q, hq⟩ : ∃ q, wc[i]? = some q := ⟨wc[i], List.getElem?_eq_getElem hil⟩
    rw [hq] at h1
    exact ⟨q, hq, by simpa using h1⟩
  have hb : ∀ p ∈ ps, p < ws.length := by
    intro p hp
    obtain ⟨i, hi⟩ := List.getElem?_of_mem hp
    obtain ⟨q, -, h2⟩ := at' i p hi
    exact (List.getElem?_eq_some_iff.mp h2).1
  have ad : ∀ (i : Nat) (x y : Nat × va_E), w1[i]? = some x → wc[i]? = some y → x.1 = y.1 := by
    intro i x y hx hy
    have h1 : (w1.map Prod.fst)[i]? = (wc.map Prod.fst)[i]? := by rw [ha]
    rw [List.getElem?_map, List.getElem?_map, hx, hy] at h1
    simpa using h1
  have key := jn_get ps w1 ws (hl1.trans hl2.symm) hb hn
  have adr : ∀ (k : Nat) (q : Nat × va_E), (jn ws ps w1)[k]? = some q → ∃ q0, ws[k]? = some q0 ∧ q0.1 = q.1 := by
    intro k q h
    rcases key k q h with ⟨i, h1, h2⟩ | ⟨h1, h2⟩
    · obtain ⟨y, h3, h4⟩ := at' i k h1
      exact ⟨y, h4, (ad i q y h2 h3).symm⟩
    · exact ⟨q, h2, rfl⟩
  refine ⟨fun k q h => ?_, fun i j x y hi hj hxy => ?_, fun k q h => ?_⟩
  · rcases key k q h with ⟨i, h1, h2⟩ | ⟨h1, h2⟩
    · exact hP1 i q h2
    · refine (hP k q h2).kept (hk q.1 (hP k q h2).lt (fun z => ?_))
      rcases z with ⟨j, e, hj⟩ | hj
      · have hjl : j < ps.length := by rw [hl1]; exact (List.getElem?_eq_some_iff.mp hj).1
        obtain ⟨p, hp⟩ : ∃ p, ps[j]? = some p := ⟨ps[j], List.getElem?_eq_getElem hjl⟩
        obtain ⟨y, h3, h4⟩ := at' j p hp
        rw [hj] at h3
        cases h3
        have := hD.1 k p q (q.1, e) h2 h4 rfl
        subst this
        exact h1 (List.mem_of_getElem? hp)
      · have := (hP k q h2).lt
        omega
  · obtain ⟨x0, h1, h2⟩ := adr i x hi
    obtain ⟨y0, h3, h4⟩ := adr j y hj
    exact hD.1 i j x0 y0 h1 h3 (h2.trans (hxy.trans h4.symm))
  · obtain ⟨q0, h1, h2⟩ := adr k q h
    rw [← h2]
    exact hD.2 k q0 h1
theorem jn_S {A0 : Nat → Prop} {ws wc : va_W} {H0 H : Heap} {locs : List Loc} (hD : va_D A0 ws) (hS : va_S A0 H0 H locs) (hA : ∀ q, H0.size ≤ q → A0 q) (ps : List Nat) (hC : ps.map (fun i => ws[i]?) = wc.map some) : ∀ q, va_A wc H.size q → A0 q := va_free hD hS hA ps hC
abbrev wrPc (D : va_G) (ct : Nat → ClassId) (av : List Value) (wc : va_W) (sz : Nat) : Array Value → State → Prop := va_Pc av (fun U => U.heap.size = sz ∧ va_P D vwCl wc U.heap ∧ KK D ct U ∧ va_D (fun _ => True) wc)
theorem wr_blind {D : va_G} {ct : Nat → ClassId} {av : List Value} {wc : va_W} {sz : Nat} : FrameBlind (wrPc D ct av wc sz) := fun a U g mk q => ⟨q.1, q.2.1, q.2.2.1, q.2.2.2.1.call, q.2.2.2.2⟩
theorem wr_pre {D : va_G} {ct : Nat → ClassId} {av : List Value} {wc : va_W} {A : Nat → Prop} {s : State} {H : Heap} (hK : KK D ct s) (hP : va_P D vwCl wc H) (hD : va_D A wc) : ∀ U : State, U.heap = H → s.WarmedH U.vm → wrPc D ct av wc H.size av.toArray U := fun U hU hW => ⟨rfl, by rw [hU], by rw [hU]; exact hP, hK.warm hW, hD.weaken (fun _ _ _ _ => trivial)⟩
abbrev wqI (D : va_G) (v : Int32) (w1 : va_W) (A : Nat → Prop) : Array Value → State → Outcome → State → Prop := va_Qi (fun (r : Int32) (_ : Unit) => r = v) (fun _ t => va_P D vwCl w1 t.heap) A
abbrev wqV (D : va_G) (w1 : va_W) (A : Nat → Prop) : Array Value → State → Outcome → State → Prop := va_Qv (fun _ : Unit => True) (fun _ t => va_P D vwCl w1 t.heap) A
section WCALL
variable {p : Program} {l : Launch} {e : Env} {R : Room} {s : State} {m : MethodId} {args : Array Value} {below : List Frame} {meth : Method} {c : Code} {H H0 : Heap} {locs : List Loc} {cells slots : Nat} {Q : State → Prop} {A : Nat → Prop}
variable {cc : ByteArray} {pc : Nat} {ls : Array Slot} {rest st : List Value} {D : va_G} {ct : Nat → ClassId} {wc wf w1 : va_W} {Ts ws : List Cond} {own C : String} {index maxL n nL : Nat} {y : MethodName} {bytes : ByteArray} {ret : Option FieldType} {rm : Room} {As : List Value} {b : Nat} {v : Int32}
theorem r_wVi (S : CallFix p m c cc nL s args Ts own) (hM : Met l y ws rm (wrPc D ct (.ref b :: As) wc H.size) (wqI D v w1 (va_A wc H.size)) 0 0 (va_A wc H.size)) (cw : CallW R s args own C index y bytes maxL ret ws rm 0 0 n) (hK : KK D ct s) (hP : va_P D vwCl wf H) (hD : va_D A wf) (hS : va_S A H0 H locs) (hA : ∀ q, H0.size ≤ q → A q) (ps : List Nat) (hC : ps.map (fun i => wf[i]?) = wc.map some) (hnd : va_nd ps = true) (had : w1.map Prod.fst = wc.map Prod.fst)
    (q0 ci : Nat) {T : u_T} {N : Nat} {fs : List Value} (he : wc[q0]? = some (b, .inr (ci, fs))) (hc : vwCl[ci]? = some (C, T, N)) (hn : As.length = n) (hsize : ls.size = nL) (hstack : st = As.reverse ++ .ref b :: rest) (hW : (rest.map fun v => v.category).sum ≤ 8) (hdg : decode cc pc = .ok (.invokevirtual index, 3)) (hf : cells + 0 ≤ R.cells ∧ slots + 0 ≤ R.slots)
    (kk : ∀ (H1 : Heap) (locs1 : List Loc), va_P D vwCl (jn wf ps w1) H1 → va_D A (jn wf ps w1) → va_S A H0 H1 locs1 → W p l e R s m args below meth c H1 locs1 cells slots Q (F0 m (pc + 3) ls (.int v :: rest))) : W p l e R s m args below meth c H locs cells slots Q (F0 m pc ls st) := by
  have hPc : va_P D vwCl wc H := fun k q hk => by
    have h1 : (ps.map (fun i => wf[i]?))[k]? = some (some q) := by rw [hC, List.getElem?_map, hk]; rfl
    rw [List.getElem?_map] at h1
    cases hi : ps[k]? with
    | none => rw [hi] at h1; cases h1
    | some i => rw [hi] at h1; exact hP i q (Option.some.inj h1)
  have hDc : va_D A wc := hD.sub ps hnd hC
  have hF := va_free hD hS hA ps hC
  exact va_calli (va_runV (g := F0 m pc ls st) S hM cw ⟨wr_blind, va_recv hK.1 hPc hc he, wr_pre hK hPc hDc⟩ rfl hn hsize hstack (lv_room hW) hdg hf) hS (fun q _ h => hF q h) hF (fun r u t H1 locs1 ht hvm hw hB hz hk hS1 => by
    rw [hw]
    rw [ht] at hB
    obtain ⟨g1, g2⟩ := jn_ok hP hD ps hC hnd had hk hB
    exact kk H1 locs1 g1 g2 hS1)
theorem r_wVv (S : CallFix p m c cc nL s args Ts own) (hM : Met l y ws rm (wrPc D ct (.ref b :: As) wc H.size) (wqV D w1 (va_A wc H.size)) 0 0 (va_A wc H.size)) (cw : CallW R s args own C index y bytes maxL ret ws rm 0 0 n) (hK : KK D ct s) (hP : va_P D vwCl wf H) (hD : va_D A wf) (hS : va_S A H0 H locs) (hA : ∀ q, H0.size ≤ q → A q) (ps : List Nat) (hC : ps.map (fun i => wf[i]?) = wc.map some) (hnd : va_nd ps = true) (had : w1.map Prod.fst = wc.map Prod.fst)
    (q0 ci : Nat) {T : u_T} {N : Nat} {fs : List Value} (he : wc[q0]? = some (b, .inr (ci, fs))) (hc : vwCl[ci]? = some (C, T, N)) (hn : As.length = n) (hsize : ls.size = nL) (hstack : st = As.reverse ++ .ref b :: rest) (hW : (rest.map fun v => v.category).sum ≤ 8) (hdg : decode cc pc = .ok (.invokevirtual index, 3)) (hf : cells + 0 ≤ R.cells ∧ slots + 0 ≤ R.slots)
    (kk : ∀ (H1 : Heap) (locs1 : List Loc), va_P D vwCl (jn wf ps w1) H1 → va_D A (jn wf ps w1) → va_S A H0 H1 locs1 → W p l e R s m args below meth c H1 locs1 cells slots Q (F0 m (pc + 3) ls rest)) : W p l e R s m args below meth c H locs cells slots Q (F0 m pc ls st) := by
  have hPc : va_P D vwCl wc H := fun k q hk => by
    have h1 : (ps.map (fun i => wf[i]?))[k]? = some (some q) := by rw [hC, List.getElem?_map, hk]; rfl
    rw [List.getElem?_map] at h1
    cases hi : ps[k]? with
    | none => rw [hi] at h1; cases h1
    | some i => rw [hi] at h1; exact hP i q (Option.some.inj h1)
  have hDc : va_D A wc := hD.sub ps hnd hC
  have hF := va_free hD hS hA ps hC
  exact va_callv (va_runV (g := F0 m pc ls st) S hM cw ⟨wr_blind, va_recv hK.1 hPc hc he, wr_pre hK hPc hDc⟩ rfl hn hsize hstack (lv_room hW) hdg hf) hS (fun q _ h => hF q h) hF (fun u t H1 locs1 ht hvm hw hB hz hk hS1 => by
    rw [ht] at hB
    obtain ⟨g1, g2⟩ := jn_ok hP hD ps hC hnd had hk hB
    exact kk H1 locs1 g1 g2 hS1)
theorem r_wSv (S : CallFix p m c cc nL s args Ts own) (hM : Met l y ws rm (wrPc D ct As wc H.size) (wqV D w1 (va_A wc H.size)) 0 0 (va_A wc H.size)) (cw : CallB R s args own index y bytes maxL ret ws rm 0 0 n ∧ (Cond.static y).before args s = true) (hK : KK D ct s) (hP : va_P D vwCl wf H) (hD : va_D A wf) (hS : va_S A H0 H locs) (hA : ∀ q, H0.size ≤ q → A q) (ps : List Nat) (hC : ps.map (fun i => wf[i]?) = wc.map some) (hnd : va_nd ps = true) (had : w1.map Prod.fst = wc.map Prod.fst)
    (hn : As.length = n) (hsize : ls.size = nL) (hstack : st = As.reverse ++ rest) (hW : (rest.map fun v => v.category).sum ≤ 8) (hdg : decode cc pc = .ok (.invokestatic index, 3)) (hf : cells + 0 ≤ R.cells ∧ slots + 0 ≤ R.slots)
    (kk : ∀ (H1 : Heap) (locs1 : List Loc), va_P D vwCl (jn wf ps w1) H1 → va_D A (jn wf ps w1) → va_S A H0 H1 locs1 → W p l e R s m args below meth c H1 locs1 cells slots Q (F0 m (pc + 3) ls rest)) : W p l e R s m args below meth c H locs cells slots Q (F0 m pc ls st) := by
  have hPc : va_P D vwCl wc H := fun k q hk => by
    have h1 : (ps.map (fun i => wf[i]?))[k]? = some (some q) := by rw [hC, List.getElem?_map, hk]; rfl
    rw [List.getElem?_map] at h1
    cases hi : ps[k]? with
    | none => rw [hi] at h1; cases h1
    | some i => rw [hi] at h1; exact hP i q (Option.some.inj h1)
  have hDc : va_D A wc := hD.sub ps hnd hC
  have hF := va_free hD hS hA ps hC
  exact va_callv (va_runS (g := F0 m pc ls st) S hM cw ⟨wr_blind, wr_pre hK hPc hDc⟩ rfl hn hsize hstack (lv_room hW) hdg hf) hS (fun q _ h => hF q h) hF (fun u t H1 locs1 ht hvm hw hB hz hk hS1 => by
    rw [ht] at hB
    obtain ⟨g1, g2⟩ := jn_ok hP hD ps hC hnd had hk hB
    exact kk H1 locs1 g1 g2 hS1)
end WCALL
/-! the worlds -/
abbrev wH (ct : Nat → ClassId) (h : Nat → Nat) (hd : Nat → Bool) (nl : Nat → Nat) (wi : Nat → Option Nat) : va_W := [(h 0, .inr (0, [.ref (h 1), .ref (h 2), .ref (h 3)])), (h 1, .inl (ct 1, 150, .inl (fun k => bI (hd k)))), (h 2, .inl (ct 0, 150, .inl (fun k => nI (nl k)))), (h 3, .inl (ct 0, 4, .inl (fun k => eP (wi k))))]
abbrev wT (ct : Nat → ClassId) (a : Nat → Nat) (n : Nat) (dc : Nat → Nat) (pa : Nat → Option Nat) (va : Nat → Int32) (dl : Nat → Bool) (ge : Nat → Nat) (su : Nat → Int32) : va_W := [(a 0, .inr (2, [.ref (a 1), .ref (a 2), .ref (a 3), .ref (a 4), .ref (a 5), .ref (a 6), .int (nI n)])), (a 1, .inl (ct 0, 150, .inl (fun k => nI (dc k)))), (a 2, .inl (ct 0, 150, .inl (fun k => eP (pa k)))), (a 3, .inl (ct 0, 150, .inl va)), (a 4, .inl (ct 1, 150, .inl (fun k => bI (dl k)))), (a 5, .inl (ct 0, 150, .inl (fun k => nI (ge k)))), (a 6, .inl (ct 0, 150, .inl su))]
