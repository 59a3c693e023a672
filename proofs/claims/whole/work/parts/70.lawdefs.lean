/-! THE CLAIM OUT OF ONE WALK OF THE LAW'S BODY. Your part is whole_start (and what it stands on); all else here is the same for every law, but numbers. -/
def R_law : String := "RevisionStoresLaw"
def lw_P (b : Addr) (xs : List Int32) (args : Array Value) (s : State) : Prop := args = #[.ref b] ∧ s.IntsAt b xs ∧ xs.length ≤ 2560 ∧ (Jvm.Cond.and given_1 narrow_1).before args s = true
def lw_Q (_ : Array Value) (s : State) (o : Outcome) (t : State) : Prop := o = .returned (some (.int 1)) ∧ Framed s o t [] 601024 7293034
def lw_Z (below : List Frame) (a : Array Value) (s : State) : State → Prop := fun t => ∃ o, t.status = .running ∧ Ended t below o ∧ lw_Q a s o t
/-- the law's own end, with 1 on the stack, nothing written that was there before, its room as the claim has it -/
theorem lw_ret {p : Program} {l : Launch} {e : Env} {s : State} {m : MethodId} {below : List Frame} {meth : Method} {c : Code} {b : Nat} (hx : p.tables.exec = Jvm.exec) (hb : c.code = code) (hr : meth.sig.returnType = ret) (hlocks : meth.locks = false) {pc : Nat} {H : Heap} {ls : Array Slot} (hdg : decode code pc = .ok (.ireturn, 1)) : W p l e room_1 s m #[Value.ref b] below meth c H [] 601024 7293034 (lw_Z below #[Value.ref b] s) (F0 m pc ls [.int 1]) := by
  intro T hT X
  obtain ⟨fs, hret, hrun, hended, hW, hframe⟩ := X.leave (v := some (.int 1)) (hlocks := hlocks) (fun h => by rw [hr] at h; cases h)
  have hmeth' : T.vm.method? m = some meth := X.method'
  refine ⟨T.setFrames fs, ?_, .returned (some (.int 1)), hrun, hended, rfl, ⟨_, rfl⟩, hW, hframe⟩
  jvm_step X.here [X.here.top, hx, hb, hdg, hmeth', hr, ret, narrow_b1]
  (try refine ⟨rfl, ?_⟩); (try refine ⟨rfl, ?_⟩)
  first | (intro acts; rw [hret _ acts rfl rfl rfl]) | rw [hret _ _ rfl rfl rfl]
  exact Steps.refl _
/-- what holds at the law's entry: the machine, the code, the tables' words (any of lw_tbl by 'hts w (by decide +kernel)'), the script of L ints xs at the cell b, what the Statement gives of the start (any of its parts by flat_of_before) -/
def lw_At (p : Program) (s : State) (m : MethodId) (meth : Method) (c : Code) (b L : Nat) (xs : Nat → Int32) : Prop :=
  p.tables.exec = Jvm.exec ∧ c.code = code ∧ meth.sig.returnType = ret ∧ c.maxLocals = 7 ∧ s.vm.findClass R_law = some m.cls ∧ (∀ w ∈ lw_tbl, w.before #[Value.ref b] s = true) ∧ va_X b L xs s s.heap ∧ b < s.heap.size ∧ meth.locks = false ∧ (Jvm.Cond.and given_1 narrow_1).before #[Value.ref b] s = true
/-! the law's state at a point of its body, the world in segments -/
def LSa (p : Program) (l : Launch) (e : Env) (s : State) (m : MethodId) (below : List Frame) (meth : Method) (c : Code) (b : Nat) (D : va_G) (r g : Nat → Nat) (o : Nat) (pc k : Nat) (Ls : List va_W) (cells slots : Nat) : Prop :=
  ∀ (H : Heap) (locs : List Loc), va_P D vwCl (fl Ls) H → va_D (fun q => s.heap.size ≤ q) (fl Ls) → va_S (fun q => s.heap.size ≤ q) s.heap H locs → TXA (fun q => s.heap.size ≤ q) s H → ∀ ls : Array Slot, lv_has ls 7 [(0, .ref b), (1, .ref (r 0)), (2, .ref (g 0)), (3, .ref o), (4, .int (nI (5 * k)))] →
    W p l e room_1 s m #[Value.ref b] below meth c H locs cells slots (lw_Z below #[Value.ref b] s) (F0 m pc ls [])
section LROW
variable {p : Program} {l : Launch} {e : Env} {R : Room} {s : State} {m : MethodId} {args : Array Value} {below : List Frame} {meth : Method} {c : Code} {H H0 : Heap} {locs : List Loc} {cells slots : Nat} {Q : State → Prop} {A : Nat → Prop}
variable {cc : ByteArray} {pc : Nat} {ls : Array Slot} {rest : List Value} {D : va_G} {ct : Nat → ClassId} {Ls : List va_W}
theorem r_sld {b L j : Nat} {xs : Nat → Int32} (hexec : p.tables.exec = Jvm.exec) (hb : c.code = cc) (hX : va_X b L xs s s.heap) (hbl : b < s.heap.size) (hS : va_S (fun q => s.heap.size ≤ q) s.heap H locs) (hj : j < L) (hL : L ≤ 2560) (hdg : decode cc pc = .ok (.iaload, 1))
    (kk : W p l e R s m args below meth c H locs cells slots Q (F0 m (pc + 1) ls (.int (xs j) :: rest))) : W p l e R s m args below meth c H locs cells slots Q (F0 m pc ls (.int (nI j) :: .ref b :: rest)) :=
  va_sld hexec hb hX hbl (Nat.not_le.mpr hbl) hS (vp_in_nI hj (by omega)) hdg (by rw [nI_clamp (by omega)]; exact kk)
/-- out[0] is read -/
theorem r_out {o : Nat} {ov : Int64} (hexec : p.tables.exec = Jvm.exec) (hb : c.code = cc) (hK : KK D ct s) (hP : va_P D vwCl (fl Ls) H) {i : Nat} (hi : Ls[i]? = some (wO ct o ov)) (hdg : decode cc pc = .ok (.laload, 1))
    (kk : W p l e R s m args below meth c H locs cells slots Q (F0 m (pc + 1) ls (.long ov :: rest))) : W p l e R s m args below meth c H locs cells slots Q (F0 m pc ls (.int (nI 0) :: .ref o :: rest)) := by
  have hP1 : va_P D vwCl (fl [wO ct o ov]) H := seg_P hP [i] (by simp [hi])
  exact va_lald hexec hb hK.1 hP1 0 3 rfl rfl (vp_in_nI (by decide) (by decide)) hdg kk
theorem r_lcmpE {x y : Int64} (hxy : x = y) (hexec : p.tables.exec = Jvm.exec) (hb : c.code = cc) {pc2 : Nat} (hdg : decode cc pc = .ok (.lcmp, 1)) {off : Int} {tgt : Nat} (hd2 : decode cc (pc + 1) = .ok (.ifCond .eq off, 3)) (ht : ((pc + 1 : Nat) : Int) + off = (tgt : Int))
    (kk : W p l e R s m args below meth c H locs cells slots Q (F0 m tgt ls rest)) : W p l e R s m args below meth c H locs cells slots Q (F0 m pc ls (.long y :: .long x :: rest)) := by
  subst hxy
  refine W.lcmp hexec hb hdg ?_
  have e0 : lg_cmp x x = 0 := by simp [lg_cmp, Int64.lt_irrefl]
  rw [e0]
  exact lv_if_eq hexec hb hd2 ht (fun _ => kk) (fun h => absurd rfl h)
end LROW
/-- the law's world: the class's seven .. eleven segments -/
abbrev lW (ct : Nat → ClassId) (r a u : Nat → Nat) (sa ha : Nat → Nat → Nat) (o : Nat) (T U M : va_W) (dps lts : Nat → Int32) (chs cks : Nat → Nat → Int32) (hds : Nat → Nat → Bool) (nls : Nat → Nat → Nat) (wis : Nat → Nat → Option Nat) (ov : Int64) : List va_W :=
  [wR ct r a u sa, T, U, wS ct (sa 0) (ha 0) (dps 0) (lts 0) (chs 0) (cks 0), wH ct (ha 0) (hds 0) (nls 0) (wis 0), wS ct (sa 1) (ha 1) (dps 1) (lts 1) (chs 1) (cks 1), wH ct (ha 1) (hds 1) (nls 1) (wis 1), wS ct (sa 2) (ha 2) (dps 2) (lts 2) (chs 2) (cks 2), wH ct (ha 2) (hds 2) (nls 2) (wis 2), M, wO ct o ov]
section LWS
variable {ct : Nat → ClassId} {r a u : Nat → Nat} {sa ha : Nat → Nat → Nat} {o : Nat} {T U M T2 U2 M2 : va_W} {dps lts : Nat → Int32} {chs cks : Nat → Nat → Int32} {hds : Nat → Nat → Bool} {nls : Nat → Nat → Nat} {wis : Nat → Nat → Option Nat} {ov ov2 : Int64} {i j : Nat}
theorem lW_S (hi : i < 3) : (lW ct r a u sa ha o T U M dps lts chs cks hds nls wis ov)[3 + 2 * i]? = some (wS ct (sa i) (ha i) (dps i) (lts i) (chs i) (cks i)) := by
  rcases (show i = 0 ∨ i = 1 ∨ i = 2 by omega) with rfl | rfl | rfl <;> rfl
theorem lW_H (hi : i < 3) : (lW ct r a u sa ha o T U M dps lts chs cks hds nls wis ov)[4 + 2 * i]? = some (wH ct (ha i) (hds i) (nls i) (wis i)) := by
  rcases (show i = 0 ∨ i = 1 ∨ i = 2 by omega) with rfl | rfl | rfl <;> rfl
theorem lW_1 (hi : i < 3) : [10, 0, 1, 3 + 2 * i, 4 + 2 * i].map (fun q => (lW ct r a u sa ha o T U M dps lts chs cks hds nls wis ov)[q]?) = [wO ct o ov, wR ct r a u sa, T, wS ct (sa i) (ha i) (dps i) (lts i) (chs i) (cks i), wH ct (ha i) (hds i) (nls i) (wis i)].map some := by
  simp only [List.map_cons, List.map_nil]
  rw [lW_S hi, lW_H hi]
  rfl
theorem lW_2 (hi : i < 3) (hj : j < 3) : [10, 0, 1, 3 + 2 * i, 4 + 2 * i, 3 + 2 * j, 4 + 2 * j].map (fun q => (lW ct r a u sa ha o T U M dps lts chs cks hds nls wis ov)[q]?) = [wO ct o ov, wR ct r a u sa, T, wS ct (sa i) (ha i) (dps i) (lts i) (chs i) (cks i), wH ct (ha i) (hds i) (nls i) (wis i), wS ct (sa j) (ha j) (dps j) (lts j) (chs j) (cks j), wH ct (ha j) (hds j) (nls j) (wis j)].map some := by
  simp only [List.map_cons, List.map_nil]
  rw [lW_S hi, lW_H hi, lW_S hj, lW_H hj]
  rfl
theorem nd_1 (hi : i < 3) : va_nd [10, 0, 1, 3 + 2 * i, 4 + 2 * i] = true := by
  rcases (show i = 0 ∨ i = 1 ∨ i = 2 by omega) with rfl | rfl | rfl <;> decide
theorem nd_2 (hi : i < 3) (hj : j < 3) (hij : i ≠ j) : va_nd [10, 0, 1, 3 + 2 * i, 4 + 2 * i, 3 + 2 * j, 4 + 2 * j] = true := by
  rcases (show i = 0 ∨ i = 1 ∨ i = 2 by omega) with rfl | rfl | rfl <;> rcases (show j = 0 ∨ j = 1 ∨ j = 2 by omega) with rfl | rfl | rfl <;> first | exact absurd rfl hij | decide
/-- a call on store i has written -/
theorem lW_j1 (hi : i < 3) {dp lt : Int32} {ch ck : Nat → Int32} {hd : Nat → Bool} {nl : Nat → Nat} {wi : Nat → Option Nat} : jnG (jnG (lW ct r a u sa ha o T U M dps lts chs cks hds nls wis ov) [10, 0, 1, 3 + 2 * i, 4 + 2 * i] [wO ct o ov2, wR ct r a u sa, T2, wS ct (sa i) (ha i) dp lt ch ck, wH ct (ha i) hd nl wi]) [9] [M2] =
    lW ct r a u sa ha o T2 U M2 (va_up dps i dp) (va_up lts i lt) (va_up chs i ch) (va_up cks i ck) (va_up hds i hd) (va_up nls i nl) (va_up wis i wi) ov2 := by
  rcases (show i = 0 ∨ i = 1 ∨ i = 2 by omega) with rfl | rfl | rfl <;> rfl
/-- .. has written its answer alone -/
theorem lW_j0 (hi : i < 3) : jnG (jnG (lW ct r a u sa ha o T U M dps lts chs cks hds nls wis ov) [10, 0, 1, 3 + 2 * i, 4 + 2 * i] [wO ct o ov2, wR ct r a u sa, T, wS ct (sa i) (ha i) (dps i) (lts i) (chs i) (cks i), wH ct (ha i) (hds i) (nls i) (wis i)]) [9] [M2] =
    lW ct r a u sa ha o T U M2 dps lts chs cks hds nls wis ov2 := by
  rcases (show i = 0 ∨ i = 1 ∨ i = 2 by omega) with rfl | rfl | rfl <;> rfl
theorem lW_j00 (hi : i < 3) (hj : j < 3) : jnG (jnG (lW ct r a u sa ha o T U M dps lts chs cks hds nls wis ov) [10, 0, 1, 3 + 2 * i, 4 + 2 * i, 3 + 2 * j, 4 + 2 * j] [wO ct o ov2, wR ct r a u sa, T, wS ct (sa i) (ha i) (dps i) (lts i) (chs i) (cks i), wH ct (ha i) (hds i) (nls i) (wis i), wS ct (sa j) (ha j) (dps j) (lts j) (chs j) (cks j), wH ct (ha j) (hds j) (nls j) (wis j)]) [9] [M2] =
    lW ct r a u sa ha o T U M2 dps lts chs cks hds nls wis ov2 := by
  rcases (show i = 0 ∨ i = 1 ∨ i = 2 by omega) with rfl | rfl | rfl <;> rcases (show j = 0 ∨ j = 1 ∨ j = 2 by omega) with rfl | rfl | rfl <;> rfl
theorem lW_j2 (hi : i < 3) (hj : j < 3) (hij : i ≠ j) {lt : Int32} {ch ck cki : Nat → Int32} {hd : Nat → Bool} {nl : Nat → Nat} {wi : Nat → Option Nat} : jnG (jnG (lW ct r a u sa ha o T U M dps lts chs cks hds nls wis ov) [10, 0, 1, 3 + 2 * i, 4 + 2 * i, 3 + 2 * j, 4 + 2 * j] [wO ct o ov2, wR ct r a u sa, T, wS ct (sa i) (ha i) (dps i) (lts i) (chs i) cki, wH ct (ha i) (hds i) (nls i) (wis i), wS ct (sa j) (ha j) (dps j) lt ch ck, wH ct (ha j) hd nl wi]) [9] [M2] =
    lW ct r a u sa ha o T U M2 dps (va_up lts j lt) (va_up chs j ch) (va_up (va_up cks i cki) j ck) (va_up hds j hd) (va_up nls j nl) (va_up wis j wi) ov2 := by
  rcases (show i = 0 ∨ i = 1 ∨ i = 2 by omega) with rfl | rfl | rfl <;> rcases (show j = 0 ∨ j = 1 ∨ j = 2 by omega) with rfl | rfl | rfl <;> first | exact absurd rfl hij | rfl
end LWS
theorem flO2 (o a b : va_W) : o ++ (a ++ b) = fl [o, a, b] := by simp [fl]
theorem flO4 (o a b c d : va_W) : o ++ (a ++ b ++ c ++ d) = fl [o, a, b, c, d] := by simp [fl]
theorem flO6 (o a b c d e f : va_W) : o ++ (fl [a, b, c, d, e, f]) = fl [o, a, b, c, d, e, f] := by simp [fl]
theorem flO9 (o a b c d e f g h i : va_W) : o ++ (fl [a, b, c, d, e, f, g, h, i]) = fl [o, a, b, c, d, e, f, g, h, i] := by simp [fl]
