/-! further rows -/
def prd : Nat → Option Nat
  | 0 => none
  | j + 1 => some j
theorem nI_prd2 (n : Nat) : nI n - nI 1 = eP (prd n) := by
  cases n with
  | zero => decide
  | succ j => exact nI_pred j
theorem nI_prd (n : Nat) : nI n + Int32.ofInt (-1) = eP (prd n) := by
  cases n with
  | zero => decide
  | succ j => exact pk_m1 j
theorem prd_lt {n j : Nat} (h : prd n = some j) : n = j + 1 := by
  cases n with
  | zero => cases h
  | succ i => cases h; rfl
abbrev wA (ct : Nat → ClassId) (b n : Nat) (f : Nat → Int32) : va_W := [(b, .inl (ct 0, n, .inl f))]
abbrev wO (ct : Nat → ClassId) (o : Nat) (v : Int64) : va_W := [(o, .inl (ct 3, 1, .inr (.inl (fun _ => v))))]
abbrev wS (ct : Nat → ClassId) (s h : Nat → Nat) (dp lt : Int32) (ch ck : Nat → Int32) : va_W := [(s 0, .inr (1, [.ref (h 0), .int dp, .int lt, .ref (s 1), .ref (s 2)])), (s 1, .inl (ct 0, 4, .inl ch)), (s 2, .inl (ct 0, 9, .inl ck))]
abbrev wR (ct : Nat → ClassId) (r a u : Nat → Nat) (sa : Nat → Nat → Nat) : va_W := [(r 0, .inr (3, [.ref (a 0), .ref (r 1), .ref (u 0)])), (r 1, .inl (ct 2, 3, .inr (.inr (.inr (.inr (fun k => some (sa k 0)))))))]
abbrev wM (ct : Nat → ClassId) (m : Nat → Nat) (n : Nat) (dc : Nat → Nat) (pa : Nat → Option Nat) (va : Nat → Int32) (dl : Nat → Bool) (ge : Nat → Nat) (su : Nat → Int32) (mk : Nat → Bool) (dp sq tc kp : Nat → Int32) (la : Int32) : va_W := [(m 0, .inr (4, [.ref (m 1), .ref (m 2), .ref (m 3), .ref (m 4), .ref (m 5), .ref (m 6), .int (nI n), .ref (m 7), .ref (m 8), .ref (m 9), .ref (m 10), .ref (m 11), .int la])), (m 1, .inl (ct 0, 150, .inl (fun k => nI (dc k)))), (m 2, .inl (ct 0, 150, .inl (fun k => eP (pa k)))), (m 3, .inl (ct 0, 150, .inl va)), (m 4, .inl (ct 1, 150, .inl (fun k => bI (dl k)))), (m 5, .inl (ct 0, 150, .inl (fun k => nI (ge k)))), (m 6, .inl (ct 0, 150, .inl su)), (m 7, .inl (ct 1, 450, .inl (fun k => bI (mk k)))), (m 8, .inl (ct 0, 3, .inl dp)), (m 9, .inl (ct 0, 3, .inl sq)), (m 10, .inl (ct 0, 12, .inl tc)), (m 11, .inl (ct 0, 27, .inl kp))]
theorem arrV_cong {cA : ClassId} {n : Nat} {f g : Nat → Value} (h : ∀ j, j < n → f j = g j) : arrV cA n f = arrV cA n g := by
  have e : (fun j : Fin n => f j.val) = (fun j : Fin n => g j.val) := funext fun j => h j.val j.isLt
  simp only [arrV, e]
theorem wA_cong {D : va_G} {cl : List vw_C} {ct : Nat → ClassId} {b n : Nat} {f g : Nat → Int32} {H : Heap} (h : ∀ j, j < n → f j = g j) (hP : va_P D cl (wA ct b n f) H) : va_P D cl (wA ct b n g) H := by
  intro k q hk
  have h0 := hP 0 _ rfl
  cases k with
  | succ k => simp at hk
  | zero =>
    cases hk
    show H[b]? = some (vp_cell (ct 0) (n, .inl g))
    rw [vp_cell_i, ← arrV_cong (f := fun j => .int (f j)) (fun j hj => by rw [h j hj])]
    exact h0
theorem va_Pnil {D : va_G} {cl : List vw_C} {H : Heap} : va_P D cl [] H := fun k q h => by simp at h
section RWS2
variable {p : Program} {l : Launch} {e : Env} {R : Room} {s : State} {m : MethodId} {args : Array Value} {below : List Frame} {meth : Method} {c : Code} {H : Heap} {locs : List Loc} {cells slots : Nat} {Q : State → Prop}
variable {cc : ByteArray} {pc : Nat} {ls : Array Slot} {rest : List Value} {D : va_G} {cl : List vw_C} {A : Nat → Prop} {a : Nat} {tys : List (ClassId × FieldType)} {ws : va_W} {H0 : Heap}
theorem r_aald (hexec : p.tables.exec = Jvm.exec) (hb : c.code = cc) (hK : va_K D cl tys s) (hP : va_P D cl ws H) (q0 t0 : Nat) {cA : ClassId} {C : String} {n : Nat} {f : Nat → Option Nat} (ha : ws[q0]? = some (a, .inl (cA, n, .inr (.inr (.inr (.inr f)))))) (ht : tys[t0]? = some (cA, .object C)) {j : Nat} (hj : j < n) (hn : n < 2 ^ 31) {v : Nat} (hv : f j = some v) (hdg : decode cc pc = .ok (.aaload, 1))
    (kk : W p l e R s m args below meth c H locs cells slots Q (F0 m (pc + 1) ls (.ref v :: rest))) : W p l e R s m args below meth c H locs cells slots Q (F0 m pc ls (.int (nI j) :: .ref a :: rest)) :=
  va_aldq hexec hb hK hP q0 t0 ha ht (vp_in_nI hj hn) hdg (by rw [nI_clamp (by omega), hv]; exact kk)
theorem r_icmp_eqN1 (hexec : p.tables.exec = Jvm.exec) (hb : c.code = cc) {x : Nat} (hx : x < 2 ^ 31) {off : Int} {tgt : Nat} (hdg : decode cc pc = .ok (.if_icmp .eq off, 3)) (ht : (pc : Int) + off = (tgt : Int))
    (kf : W p l e R s m args below meth c H locs cells slots Q (F0 m (pc + 3) ls rest)) : W p l e R s m args below meth c H locs cells slots Q (F0 m pc ls (.int (-1) :: .int (nI x) :: rest)) :=
  lv_icmp_eq hexec hb hdg ht (fun h => absurd h (eP_m1 hx)) (fun _ => kf)
theorem r_icmp_neN1 (hexec : p.tables.exec = Jvm.exec) (hb : c.code = cc) {x : Nat} (hx : x < 2 ^ 31) {off : Int} {tgt : Nat} (hdg : decode cc pc = .ok (.if_icmp .ne off, 3)) (ht : (pc : Int) + off = (tgt : Int))
    (kt : W p l e R s m args below meth c H locs cells slots Q (F0 m tgt ls rest)) : W p l e R s m args below meth c H locs cells slots Q (F0 m pc ls (.int (-1) :: .int (nI x) :: rest)) :=
  lv_icmp_ne hexec hb hdg ht (fun _ => kt) (fun h => absurd h (eP_m1 hx))
theorem r_mminN {cc : ByteArray} (hexec : p.tables.exec = Jvm.exec) (hb : c.code = cc) (hml : c.maxLocals = ls.size) {own : String} {index : Nat} (hown : s.vm.findClass own = some m.cls) (hlink : (Cond.methodLink own index Lib.Math.min.name).before args s = true) (hstat : (Cond.static Lib.Math.min.name).before args s = true) (hini : (Cond.initialized "java/lang/Math").before args s = true) (hcode : (Cond.code Lib.Math.min.name Lib.Math.min.code 2 (some .int)).before args s = true)
    (hframes : 1 ≤ R.frames) (hlocals : (rest.map fun v => v.category).sum + 13 ≤ R.locals) (hc : cells ≤ R.cells) (hs : slots ≤ R.slots) {x y : Nat} (hx9 : x < 2 ^ 31) (hy9 : y < 2 ^ 31) (hdg : decode cc pc = .ok (.invokestatic index, 3))
    (kk : W p l e R s m args below meth c H locs cells slots Q (F0 m (pc + 3) ls (.int (nI (min x y)) :: rest))) : W p l e R s m args below meth c H locs cells slots Q (F0 m pc ls (.int (nI y) :: .int (nI x) :: rest)) := by
  refine va_mmin hexec hb hml hown hlink hstat hini hcode hframes hlocals hc hs hdg ?_
  have e : (if nI y < nI x then nI y else nI x) = nI (min x y) := by
    by_cases h : y < x
    · rw [if_pos ((nI_ltI hy9 hx9).mpr h), Nat.min_eq_right (by omega)]
    · rw [if_neg (fun z => h ((nI_ltI hy9 hx9).mp z)), Nat.min_eq_left (by omega)]
  rw [e]
  exact kk
end RWS2
