/-! a world in segments -/
abbrev fl (Ls : List va_W) : va_W := Ls.flatten
def jnG {α : Type} : List α → List Nat → List α → List α
  | ws, p :: ps, q :: qs => jnG (ws.set p q) ps qs
  | ws, _, _ => ws
theorem jnG_get {α : Type} : ∀ (ps : List Nat) (w1 ws : List α), ps.length = w1.length → (∀ p ∈ ps, p < ws.length) → va_nd ps = true → ∀ (k : Nat) (q : α), (jnG ws ps w1)[k]? = some q → (∃ i : Nat, ps[i]? = some k ∧ w1[i]? = some q) ∨ (k ∉ ps ∧ ws[k]? = some q)
  | [], w1, ws, _, _, _, k, q, h => Or.inr ⟨List.not_mem_nil, by cases w1 <;> exact h⟩
  | p :: ps, [], ws, hl, _, _, k, q, h => by simp at hl
  | p :: ps, x :: w1, ws, hl, hb, hn, k, q, h => by
    simp only [va_nd, Bool.and_eq_true, decide_eq_true_eq] at hn
    rcases jnG_get ps w1 (ws.set p x) (by simpa using hl) (fun y hy => by rw [List.length_set]; exact hb y (List.mem_cons_of_mem _ hy)) hn.2 k q h with ⟨i, h1, h2⟩ | ⟨h1, h2⟩
    · exact Or.inl ⟨i + 1, by simpa using h1, by simpa using h2⟩
    · by_cases hk : k = p
      · subst hk
        rw [List.getElem?_set_self (hb k List.mem_cons_self)] at h2
        exact Or.inl ⟨0, rfl, h2⟩
      · rw [List.getElem?_set_ne (Ne.symm hk)] at h2
        exact Or.inr ⟨fun z => (List.mem_cons.mp z).elim hk h1, h2⟩
theorem jnG_len {α : Type} : ∀ (ps : List Nat) (w1 ws : List α), (jnG ws ps w1).length = ws.length
  | [], w1, ws => by cases w1 <;> rfl
  | p :: ps, [], ws => rfl
  | p :: ps, x :: w1, ws => by show (jnG (ws.set p x) ps w1).length = _; rw [jnG_len ps w1, List.length_set]
section SEG
variable {D : va_G} {cl : List vw_C} {A : Nat → Prop} {H H1 : Heap}
theorem P_mem {ws : va_W} : va_P D cl ws H ↔ ∀ q ∈ ws, va_at D cl q H := by
  refine ⟨fun h q hq => ?_, fun h k q hk => h q (List.mem_of_getElem? hk)⟩
  obtain ⟨k, hk⟩ := List.getElem?_of_mem hq
  exact h k q hk
theorem D_iff {ws : va_W} : va_D A ws ↔ (ws.map Prod.fst).Pairwise (· ≠ ·) ∧ ∀ a ∈ ws.map Prod.fst, A a := by
  constructor
  · intro h
    refine ⟨?_, fun a ha => ?_⟩
    · rw [List.pairwise_iff_getElem]
      intro i j hi hj hij he
      rw [List.length_map] at hi hj
      rw [List.getElem_map, List.getElem_map] at he
      have := h.1 i j _ _ (List.getElem?_eq_getElem hi) (List.getElem?_eq_getElem hj) he
      omega
    · obtain ⟨q, hq, rfl⟩ := List.mem_map.mp ha
      obtain ⟨k, hk⟩ := List.getElem?_of_mem hq
      exact h.2 k q hk
  · rintro ⟨h1, h2⟩
    refine ⟨fun i j p q hi hj hpq => ?_, fun k q hk => h2 _ (List.mem_map.mpr ⟨q, List.mem_of_getElem? hk, rfl⟩)⟩
    rw [List.pairwise_iff_getElem] at h1
    obtain ⟨hi1, hi2⟩ := List.getElem?_eq_some_iff.mp hi
    obtain ⟨hj1, hj2⟩ := List.getElem?_eq_some_iff.mp hj
    rcases Nat.lt_trichotomy i j with g | g | g
    · exact absurd (by rw [List.getElem_map, List.getElem_map, hi2, hj2]; exact hpq) (h1 i j (by rw [List.length_map]; exact hi1) (by rw [List.length_map]; exact hj1) g)
    · exact g
    · exact absurd (by rw [List.getElem_map, List.getElem_map, hi2, hj2]; exact hpq.symm) (h1 j i (by rw [List.length_map]; exact hj1) (by rw [List.length_map]; exact hi1) g)
theorem fl_fst (Ls : List va_W) : (fl Ls).map Prod.fst = (Ls.map (·.map Prod.fst)).flatten := List.map_flatten
variable {Ls Cs C1 : List va_W} {is : List Nat}
theorem seg_at (hC : is.map (fun i => Ls[i]?) = Cs.map some) {k : Nat} {c : va_W} (h : Cs[k]? = some c) : ∃ i, is[k]? = some i ∧ Ls[i]? = some c := by
  have h1 : (is.map (fun i => Ls[i]?))[k]? = (Cs.map some)[k]? := by rw [hC]
  rw [List.getElem?_map, List.getElem?_map, h] at h1
  cases hi : is[k]? with
  | none => rw [hi] at h1; cases h1
  | some i => rw [hi] at h1; exact ⟨i, rfl, by simpa using h1⟩
theorem seg_P (hP : va_P D cl (fl Ls) H) (is : List Nat) (hC : is.map (fun i => Ls[i]?) = Cs.map some) : va_P D cl (fl Cs) H := by
  rw [P_mem] at hP ⊢
  intro q hq
  obtain ⟨c, hc, hqc⟩ := List.mem_flatten.mp hq
  obtain ⟨k, hk⟩ := List.getElem?_of_mem hc
  obtain ⟨i, -, h2⟩ := seg_at hC hk
  exact hP q (List.mem_flatten.mpr ⟨c, List.mem_of_getElem? h2, hqc⟩)
/-- cells of two segments are apart -/
theorem seg_ap (hD : va_D A (fl Ls)) {i j : Nat} {x y : va_W} (hi : Ls[i]? = some x) (hj : Ls[j]? = some y) (hij : i ≠ j) {p q : Nat × va_E} (hp : p ∈ x) (hq : q ∈ y) : p.1 ≠ q.1 := by
  have h := (D_iff.mp hD).1
  rw [fl_fst, List.pairwise_flatten] at h
  have h2 := h.2
  rw [List.pairwise_iff_getElem] at h2
  obtain ⟨hi1, hi2⟩ := List.getElem?_eq_some_iff.mp hi
  obtain ⟨hj1, hj2⟩ := List.getElem?_eq_some_iff.mp hj
  have mp : p.1 ∈ x.map Prod.fst := List.mem_map.mpr ⟨p, hp, rfl⟩
  have mq : q.1 ∈ y.map Prod.fst := List.mem_map.mpr ⟨q, hq, rfl⟩
  rcases Nat.lt_trichotomy i j with g | g | g
  · exact h2 i j (by rw [List.length_map]; exact hi1) (by rw [List.length_map]; exact hj1) g p.1 (by rw [List.getElem_map, hi2]; exact mp) q.1 (by rw [List.getElem_map, hj2]; exact mq)
  · exact absurd g hij
  · exact Ne.symm (h2 j i (by rw [List.length_map]; exact hj1) (by rw [List.length_map]; exact hi1) g q.1 (by rw [List.getElem_map, hj2]; exact mq) p.1 (by rw [List.getElem_map, hi2]; exact mp))
theorem nd_ne : ∀ {is : List Nat}, va_nd is = true → ∀ {a b i j : Nat}, is[a]? = some i → is[b]? = some j → a ≠ b → i ≠ j
  | [], _, a, b, i, j, h, _, _ => by simp at h
  | x :: xs, hn, a, b, i, j, ha, hb, hab => by
    simp only [va_nd, Bool.and_eq_true, decide_eq_true_eq] at hn
    cases a with
    | zero =>
      cases b with
      | zero => exact absurd rfl hab
      | succ b =>
        simp at ha hb
        subst ha
        exact fun e => hn.1 (by rw [e]; exact List.mem_of_getElem? hb)
    | succ a =>
      cases b with
      | zero =>
        simp at ha hb
        subst hb
        exact fun e => hn.1 (by rw [← e]; exact List.mem_of_getElem? ha)
      | succ b =>
        simp at ha hb
        exact nd_ne hn.2 ha hb (by omega)
theorem seg_D (hD : va_D A (fl Ls)) (is : List Nat) (hn : va_nd is = true) (hC : is.map (fun i => Ls[i]?) = Cs.map some) : va_D A (fl Cs) := by
  have h := D_iff.mp hD
  refine D_iff.mpr ⟨?_, fun a ha => ?_⟩
  · have h1 := h.1
    rw [fl_fst, List.pairwise_flatten] at h1 ⊢
    refine ⟨fun l hl => ?_, ?_⟩
    · obtain ⟨c, hc, rfl⟩ := List.mem_map.mp hl
      obtain ⟨k, hk⟩ := List.getElem?_of_mem hc
      obtain ⟨i, -, h2⟩ := seg_at hC hk
      exact h1.1 _ (List.mem_map.mpr ⟨c, List.mem_of_getElem? h2, rfl⟩)
    · rw [List.pairwise_iff_getElem]
      intro i j hi hj hij x hx y hy
      rw [List.length_map] at hi hj
      rw [List.getElem_map] at hx hy
      obtain ⟨p, hp, rfl⟩ := List.mem_map.mp hx
      obtain ⟨q, hq, rfl⟩ := List.mem_map.mp hy
      obtain ⟨a, a1, a2⟩ := seg_at hC (List.getElem?_eq_getElem hi)
      obtain ⟨b, b1, b2⟩ := seg_at hC (List.getElem?_eq_getElem hj)
      exact seg_ap hD a2 b2 (nd_ne hn a1 b1 (by omega)) hp hq
  · obtain ⟨q, hq, rfl⟩ := List.mem_map.mp ha
    obtain ⟨c, hc, hqc⟩ := List.mem_flatten.mp hq
    obtain ⟨k, hk⟩ := List.getElem?_of_mem hc
    obtain ⟨i, -, h2⟩ := seg_at hC hk
    exact h.2 _ (List.mem_map.mpr ⟨q, List.mem_flatten.mpr ⟨c, List.mem_of_getElem? h2, hqc⟩, rfl⟩)
theorem seg_free {H0 : Heap} {locs : List Loc} (hD : va_D A (fl Ls)) (hS : va_S A H0 H locs) (hA : ∀ q, H0.size ≤ q → A q) (is : List Nat) (hn : va_nd is = true) (hC : is.map (fun i => Ls[i]?) = Cs.map some) : ∀ q, va_A (fl Cs) H.size q → A q := by
  rintro q (⟨k, e, hk⟩ | hq)
  · exact (seg_D hD is hn hC).2 k _ hk
  · exact hA q (Nat.le_trans hS.1 hq)
theorem seg_join (hP : va_P D cl (fl Ls) H) (hD : va_D A (fl Ls)) (is : List Nat) (hC : is.map (fun i => Ls[i]?) = Cs.map some) (hn : va_nd is = true) (ha : C1.map (·.map Prod.fst) = Cs.map (·.map Prod.fst))
    (hk : ∀ q : Nat, q < H.size → ¬ va_A (fl Cs) H.size q → H1[q]? = H[q]?) (hP1 : va_P D cl (fl C1) H1) : va_P D cl (fl (jnG Ls is C1)) H1 ∧ va_D A (fl (jnG Ls is C1)) := by
  have hl1 : is.length = Cs.length := by have := congrArg List.length hC; simpa using this
  have hl2 : C1.length = Cs.length := by have := congrArg List.length ha; simpa using this
  have hb : ∀ p ∈ is, p < Ls.length := by
    intro p hp
    obtain ⟨i, hi⟩ := List.getElem?_of_mem hp
    have hil : i < Cs.length := by rw [← hl1]; exact (List.getElem?_eq_some_iff.mp hi).1
    obtain ⟨j, h1, h2⟩ := seg_at hC (List.getElem?_eq_getElem hil)
    rw [hi] at h1
    cases h1
    exact (List.getElem?_eq_some_iff.mp h2).1
  have key := jnG_get is C1 Ls (hl1.trans hl2.symm) hb hn
  have adr : ∀ (k : Nat) (c : va_W), (jnG Ls is C1)[k]? = some c → ∃ c0, Ls[k]? = some c0 ∧ c0.map Prod.fst = c.map Prod.fst := by
    intro k c h
    rcases key k c h with ⟨i, h1, h2⟩ | ⟨-, h2⟩
    · have hil : i < Cs.length := by rw [← hl2]; exact (List.getElem?_eq_some_iff.mp h2).1
      obtain ⟨j, h3, h4⟩ := seg_at hC (List.getElem?_eq_getElem hil)
      rw [h1] at h3
      cases h3
      refine ⟨_, h4, ?_⟩
      have h5 : (C1.map (·.map Prod.fst))[i]? = (Cs.map (·.map Prod.fst))[i]? := by rw [ha]
      rw [List.getElem?_map, List.getElem?_map, h2, List.getElem?_eq_getElem hil] at h5
      simpa using h5.symm
    · exact ⟨c, h2, rfl⟩
  have hadr : (jnG Ls is C1).map (·.map Prod.fst) = Ls.map (·.map Prod.fst) := by
    apply List.ext_getElem?
    intro k
    rw [List.getElem?_map, List.getElem?_map]
    cases h : (jnG Ls is C1)[k]? with
    | none =>
      have h1 := List.getElem?_eq_none_iff.mp h
      rw [jnG_len] at h1
      rw [List.getElem?_eq_none h1]
    | some c =>
      obtain ⟨c0, h1, h2⟩ := adr k c h
      rw [h1]
      simp [h2]
  refine ⟨?_, ?_⟩
  · rw [P_mem] at hP hP1 ⊢
    intro q hq
    obtain ⟨c, hc, hqc⟩ := List.mem_flatten.mp hq
    obtain ⟨k, hkk⟩ := List.getElem?_of_mem hc
    rcases key k c hkk with ⟨i, h1, h2⟩ | ⟨h1, h2⟩
    · exact hP1 q (List.mem_flatten.mpr ⟨c, List.mem_of_getElem? h2, hqc⟩)
    · have h3 := hP q (List.mem_flatten.mpr ⟨c, List.mem_of_getElem? h2, hqc⟩)
      refine h3.kept (hk q.1 h3.lt (fun z => ?_))
      rcases z with ⟨j, e, hj⟩ | hj
      · obtain ⟨x, hx, hqx⟩ := List.mem_flatten.mp (List.mem_of_getElem? hj)
        obtain ⟨n, hn2⟩ := List.getElem?_of_mem hx
        obtain ⟨a, a1, a2⟩ := seg_at hC hn2
        exact seg_ap hD h2 a2 (fun e9 => h1 (by rw [e9]; exact List.mem_of_getElem? a1)) hqc hqx rfl
      · have := h3.lt
        omega
  · have h := D_iff.mp hD
    refine D_iff.mpr ?_
    rw [fl_fst, hadr, ← fl_fst]
    exact h
end SEG
abbrev wrPcT (D : va_G) (ct : Nat → ClassId) (av : List Value) (wc : va_W) (sz : Nat) : Array Value → State → Prop := va_Pc av (fun U => U.heap.size = sz ∧ va_P D vwCl wc U.heap ∧ KK D ct U ∧ va_D (fun _ => True) wc ∧ TX U)
theorem wrT_blind {D : va_G} {ct : Nat → ClassId} {av : List Value} {wc : va_W} {sz : Nat} : FrameBlind (wrPcT D ct av wc sz) := fun a U g mk q => ⟨q.1, q.2.1, q.2.2.1, q.2.2.2.1.call, q.2.2.2.2.1, q.2.2.2.2.2.call⟩
theorem wrT_pre {D : va_G} {ct : Nat → ClassId} {av : List Value} {wc : va_W} {A : Nat → Prop} {s : State} {H : Heap} (hK : KK D ct s) (hP : va_P D vwCl wc H) (hD : va_D A wc) (hT : TXA (fun _ => False) s H) : ∀ U : State, U.heap = H → s.WarmedH U.vm → wrPcT D ct av wc H.size av.toArray U := fun U hU hW => ⟨rfl, by rw [hU], by rw [hU]; exact hP, hK.warm hW, hD.weaken (fun _ _ _ _ => trivial), by show TXA _ U U.heap; rw [hU]; exact hT.warm hW⟩
theorem met_ofWH {l : Launch} {y : MethodName} {ws ws' : List Cond} {rm : Room} {Pc : Array Value → State → Prop} {Qc : Array Value → State → Outcome → State → Prop} {mc ms : Nat} {free : Addr → Prop} {cc : ByteArray} {maxL : Nat} {ret : Option FieldType} {hh : List (Nat × Nat × Nat × Nat)}
    (hy : plainName y.cls = true) (hw : ws = Cond.codeWith y cc maxL ret hh :: ws')
    (body : ∀ p e s m args below meth c s₁, BodyLoose p l y (headSpec ws rm) cc maxL ret e s m args below meth c s₁ → c.maxLocals = maxL → Pc args s →
      W p l e (headSpec ws rm).room s m args below meth c s.heap [] 0 0 (MQ below Qc args s mc ms free) (entryFrame m args maxL)) : Met l y ws rm Pc Qc mc ms free := by
  refine MetFree.of_bodyS (code := cc) (maxLocals := maxL) (ret := ret) hy ?_ ?_
  · intro args s m h hn
    obtain ⟨m9, meth, c, hn9, h1, h2, h3, h4, -, h5, h6, -⟩ := Cond.codeWith_spec (atoms_spec (ws := ws) h _ (by rw [hw]; exact List.mem_cons_self))
    cases hn.symm.trans hn9
    exact ⟨meth, c, h1, h2, h3, h4, h5, h6⟩
  · intro p e s m args below meth c s₁ B hml hP _
    have hh0 : s₁.heap = s.heap := by rw [B.state]; rfl
    obtain ⟨t, a1, o, b1, b2, b3⟩ := body p e s m args below meth c s₁ B hml hP s₁ hh0 (Stand.of_body B)
    exact ⟨t, o, a1, b1, b2, b3⟩
section RLAW
variable {p : Program} {l : Launch} {e : Env} {R : Room} {s : State} {m : MethodId} {args : Array Value} {below : List Frame} {meth : Method} {c : Code} {H H0 : Heap} {locs : List Loc} {cells slots : Nat} {Q : State → Prop} {A : Nat → Prop}
variable {cc : ByteArray} {pc : Nat} {ls : Array Slot} {rest st : List Value} {D : va_G} {ct : Nat → ClassId} {ws wc w1 : va_W} {Ls Cs C1 : List va_W}
variable {Ts wy : List Cond} {own C : String} {index maxL n nL mc ms : Nat} {y : MethodName} {bytes : ByteArray} {ret : Option FieldType} {hh : List (Nat × Nat × Nat × Nat)} {rm : Room} {As : List Value} {b : Nat} {v : Int32}
/-- the law calls a wrapper -/
theorem r_gS (F : CallFix p m c cc nL s args Ts own) (hM : Met l y wy rm (wrPcT D ct As wc H.size) (wqI D v w1 (va_A wc H.size)) mc ms (va_A wc H.size)) (hwc : wc = fl Cs) (hw1 : w1 = fl C1) (cw : vx_CSW R s args own index y bytes maxL ret hh wy rm mc ms n) (hK : KK D ct s) (hT : TXA (fun _ => False) s H) (hP : va_P D vwCl (fl Ls) H) (hD : va_D A (fl Ls)) (hS : va_S A H0 H locs) (hA : ∀ q, H0.size ≤ q → A q) (is : List Nat) (hC : is.map (fun i => Ls[i]?) = Cs.map some) (hnd : va_nd is = true) (had : C1.map (·.map Prod.fst) = Cs.map (·.map Prod.fst))
    (hn : As.length = n) (hsize : ls.size = nL) (hstack : st = As.reverse ++ rest) (hW : (rest.map fun v => v.category).sum ≤ 8) (hdg : decode cc pc = .ok (.invokestatic index, 3)) (hf : cells + mc ≤ R.cells ∧ slots + ms ≤ R.slots)
    (kk : ∀ (H1 : Heap) (locs1 : List Loc), va_P D vwCl (fl (jnG Ls is C1)) H1 → va_D A (fl (jnG Ls is C1)) → va_S A H0 H1 locs1 → H.size ≤ H1.size → (∀ q : Nat, q < H.size → ¬ A q → H1[q]? = H[q]?) → W p l e R s m args below meth c H1 locs1 (cells + mc) (slots + ms) Q (F0 m (pc + 3) ls (.int v :: rest))) : W p l e R s m args below meth c H locs cells slots Q (F0 m pc ls st) := by
  subst hwc; subst hw1
  have hPc := seg_P hP is hC
  have hDc := seg_D hD is hnd hC
  have hF := seg_free hD hS hA is hnd hC
  exact va_calli (vx_runSW (g := F0 m pc ls st) F hM cw ⟨wrT_blind, wrT_pre hK hPc hDc hT⟩ rfl hn hsize hstack (lv_room hW) hdg hf) hS (fun q _ h => hF q h) hF (fun r u t H1 locs1 ht hvm hw hB hz hk hS1 => by
    rw [hw]
    rw [ht] at hB
    obtain ⟨g1, g2⟩ := seg_join hP hD is hC hnd had hk hB
    exact kk H1 locs1 g1 g2 hS1 hz (fun q h1 h2 => hk q h1 (fun z => h2 (hF q z))))
/-- the law calls the reference -/
theorem r_gV (F : CallFix p m c cc nL s args Ts own) (hM : Met l y wy rm (wrPc D ct (.ref b :: As) wc H.size) (wqI D v w1 (va_A wc H.size)) 0 0 (va_A wc H.size)) (hwc : wc = fl Cs) (hw1 : w1 = fl C1) (cw : CallW R s args own C index y bytes maxL ret wy rm 0 0 n) (hK : KK D ct s) (hP : va_P D vwCl (fl Ls) H) (hD : va_D A (fl Ls)) (hS : va_S A H0 H locs) (hA : ∀ q, H0.size ≤ q → A q) (is : List Nat) (hC : is.map (fun i => Ls[i]?) = Cs.map some) (hnd : va_nd is = true) (had : C1.map (·.map Prod.fst) = Cs.map (·.map Prod.fst))
    (q0 ci : Nat) {T : u_T} {N : Nat} {fs : List Value} (he : wc[q0]? = some (b, .inr (ci, fs))) (hc : vwCl[ci]? = some (C, T, N)) (hn : As.length = n) (hsize : ls.size = nL) (hstack : st = As.reverse ++ .ref b :: rest) (hW : (rest.map fun v => v.category).sum ≤ 8) (hdg : decode cc pc = .ok (.invokevirtual index, 3)) (hf : cells + 0 ≤ R.cells ∧ slots + 0 ≤ R.slots)
    (kk : ∀ (H1 : Heap) (locs1 : List Loc), va_P D vwCl (fl (jnG Ls is C1)) H1 → va_D A (fl (jnG Ls is C1)) → va_S A H0 H1 locs1 → H.size ≤ H1.size → (∀ q : Nat, q < H.size → ¬ A q → H1[q]? = H[q]?) → W p l e R s m args below meth c H1 locs1 cells slots Q (F0 m (pc + 3) ls (.int v :: rest))) : W p l e R s m args below meth c H locs cells slots Q (F0 m pc ls st) := by
  subst hwc; subst hw1
  have hPc := seg_P hP is hC
  have hDc := seg_D hD is hnd hC
  have hF := seg_free hD hS hA is hnd hC
  exact va_calli (va_runV (g := F0 m pc ls st) F hM cw ⟨wr_blind, va_recv hK.1 hPc hc he, wr_pre hK hPc hDc⟩ rfl hn hsize hstack (lv_room hW) hdg hf) hS (fun q _ h => hF q h) hF (fun r u t H1 locs1 ht hvm hw hB hz hk hS1 => by
    rw [hw]
    rw [ht] at hB
    obtain ⟨g1, g2⟩ := seg_join hP hD is hC hnd had hk hB
    exact kk H1 locs1 g1 g2 hS1 hz (fun q h1 h2 => hk q h1 (fun z => h2 (hF q z))))
/-- .. one of its methods that only read -/
theorem r_gR (F : CallFix p m c cc nL s args Ts own) (hM : Met l y wy rm (roPc D ct (.ref b :: As) wc) (rqI v) 0 0 (fun _ => False)) (hwc : wc = fl Cs) (cw : CallW R s args own C index y bytes maxL ret wy rm 0 0 n) (hK : KK D ct s) (hP : va_P D vwCl (fl Ls) H) (is : List Nat) (hC : is.map (fun i => Ls[i]?) = Cs.map some)
    (q0 ci : Nat) {T : u_T} {N : Nat} {fs : List Value} (he : wc[q0]? = some (b, .inr (ci, fs))) (hc : vwCl[ci]? = some (C, T, N)) (hn : As.length = n) (hsize : ls.size = nL) (hstack : st = As.reverse ++ .ref b :: rest) (hW : (rest.map fun v => v.category).sum ≤ 8) (hdg : decode cc pc = .ok (.invokevirtual index, 3)) (hf : cells + 0 ≤ R.cells ∧ slots + 0 ≤ R.slots)
    (kk : W p l e R s m args below meth c H locs cells slots Q (F0 m (pc + 3) ls (.int v :: rest))) : W p l e R s m args below meth c H locs cells slots Q (F0 m pc ls st) := by
  subst hwc
  exact r_cV F hM cw hK (seg_P hP is hC) q0 ci he hc hn hsize hstack hW hdg hf kk
/-- a wrapper calls the class: it answers -/
theorem r_wA {a : Nat} {x : va_E} (F : CallFix p m c cc nL s args Ts own) (hM : Met l y wy rm (wrPc D ct (.ref b :: As) wc H.size) (wqI D v w1 (va_A wc H.size)) 0 0 (va_A wc H.size)) (cw : CallW R s args own C index y bytes maxL ret wy rm 0 0 n) (hK : KK D ct s) (hP : va_P D vwCl ((a, x) :: wc) H) (hD : va_D A ((a, x) :: wc)) (hS : va_S A H0 H locs) (hA : ∀ q, H0.size ≤ q → A q) (had : w1.map Prod.fst = wc.map Prod.fst)
    (q0 ci : Nat) {T : u_T} {N : Nat} {fs : List Value} (he : wc[q0]? = some (b, .inr (ci, fs))) (hc : vwCl[ci]? = some (C, T, N)) (hn : As.length = n) (hsize : ls.size = nL) (hstack : st = As.reverse ++ .ref b :: rest) (hW : (rest.map fun v => v.category).sum ≤ 8) (hdg : decode cc pc = .ok (.invokevirtual index, 3)) (hf : cells + 0 ≤ R.cells ∧ slots + 0 ≤ R.slots)
    (kk : ∀ (H1 : Heap) (locs1 : List Loc), va_P D vwCl ((a, x) :: w1) H1 → va_D A ((a, x) :: w1) → va_S A H0 H1 locs1 → W p l e R s m args below meth c H1 locs1 cells slots Q (F0 m (pc + 3) ls (.int v :: rest))) : W p l e R s m args below meth c H locs cells slots Q (F0 m pc ls st) := by
  have e1 : fl [[(a, x)], wc] = (a, x) :: wc := by simp [fl]
  have e2 : fl [[(a, x)], w1] = (a, x) :: w1 := by simp [fl]
  have e3 : fl [wc] = wc := by simp [fl]
  have e4 : fl [w1] = w1 := by simp [fl]
  rw [← e1] at hP hD
  refine r_gV (Ls := [[(a, x)], wc]) (Cs := [wc]) (C1 := [w1]) F hM e3.symm e4.symm cw hK hP hD hS hA [1] rfl rfl (by simp [had]) q0 ci he hc hn hsize hstack hW hdg hf (fun H1 locs1 g1 g2 g3 _ _ => ?_)
  have e5 : jnG [[(a, x)], wc] [1] [w1] = [[(a, x)], w1] := rfl
  rw [e5, e2] at g1 g2
  exact kk H1 locs1 g1 g2 g3
theorem r_wB {a : Nat} {x : va_E} (F : CallFix p m c cc nL s args Ts own) (hM : Met l y wy rm (roPc D ct (.ref b :: As) wc) (rqI v) 0 0 (fun _ => False)) (cw : CallW R s args own C index y bytes maxL ret wy rm 0 0 n) (hK : KK D ct s) (hP : va_P D vwCl ((a, x) :: wc) H)
    (q0 ci : Nat) {T : u_T} {N : Nat} {fs : List Value} (he : wc[q0]? = some (b, .inr (ci, fs))) (hc : vwCl[ci]? = some (C, T, N)) (hn : As.length = n) (hsize : ls.size = nL) (hstack : st = As.reverse ++ .ref b :: rest) (hW : (rest.map fun v => v.category).sum ≤ 8) (hdg : decode cc pc = .ok (.invokevirtual index, 3)) (hf : cells + 0 ≤ R.cells ∧ slots + 0 ≤ R.slots)
    (kk : W p l e R s m args below meth c H locs cells slots Q (F0 m (pc + 3) ls (.int v :: rest))) : W p l e R s m args below meth c H locs cells slots Q (F0 m pc ls st) :=
  r_cV F hM cw hK (fun k q hk => hP (k + 1) q hk) q0 ci he hc hn hsize hstack hW hdg hf kk
/-- .. it throws, and the row x of the table takes it -/
theorem r_xC {E : String} (F : CallFix p m c cc nL s args Ts own) (hM : vx_Met l y wy rm (bdPc D ct (.ref b :: As) wc) bdQ (bdX E) 1 6 (fun _ => False)) (cw : CallW R s args own C index y bytes maxL ret wy rm 1 6 n) (hK : KK D ct s) (hP : va_P D vwCl wc H) (hT : TXA (fun _ => False) s H) (hS : va_S A H0 H locs)
    (q0 ci : Nat) {T : u_T} {N : Nat} {fs : List Value} (he : wc[q0]? = some (b, .inr (ci, fs))) (hc : vwCl[ci]? = some (C, T, N)) (hn : As.length = n) (hsize : ls.size = nL) (hstack : st = As.reverse ++ .ref b :: rest) (hW : (rest.map fun v => v.category).sum ≤ 8) (hdg : decode cc pc = .ok (.invokevirtual index, 3)) (hf : cells + 1 ≤ R.cells ∧ slots + 6 ≤ R.slots)
    (hown : s.vm.findClass own = some m.cls) (pre : List ExceptionTableEntry) (x : ExceptionTableEntry) (suf : List ExceptionTableEntry) (hsplit : c.exceptionTable.toList = pre ++ x :: suf)
    (hpass : ∀ z ∈ pre, covers z pc = false ∨ (z.catchType ≠ 0 ∧ ∃ nm : String, (Cond.classLink own z.catchType nm).before args s = true ∧ va_Nc E nm s)) (hcov : covers x pc = true) (h0 : x.catchType ≠ 0) (hlink : (Cond.classLink own x.catchType E).before args s = true) (hca : va_Nw (.castable E E) s)
    (kk : ∀ (H1 : Heap) (locs1 : List Loc) (q9 : Nat), H.size ≤ H1.size → (∀ q : Nat, q < H.size → H1[q]? = H[q]?) → va_S A H0 H1 locs1 → W p l e R s m args below meth c H1 locs1 (cells + 1) (slots + 6) Q (F0 m x.handlerPc ls [.ref q9])) : W p l e R s m args below meth c H locs cells slots Q (F0 m pc ls st) := by
  have hr := vx_runV (g := F0 m pc ls st) (l := l) (e := e) (below := below) (meth := meth) (H := H) (locs := locs) (cells := cells) (slots := slots) F hM cw ⟨bd_blind, va_recv hK.1 hP hc he, bd_pre hK hP hT⟩ rfl hn hsize hstack (lv_room hW) hdg hf
  intro T9 hT9 X
  rcases hr T9 hT9 X with ⟨v9, st₀, t, T', L, e0, X', hL, e1, e2, hQ, hst⟩ | ⟨q, st₀, t, T', L, E9, ce, e0, X', hL, e1, e2, ⟨u, -, rfl, hF⟩, hce, hcv, hcl, hst⟩
  · exact hQ.elim
  · obtain ⟨k1, k2, k3⟩ := vx_keep (A0 := A) (A1 := fun _ => False) (free := fun _ => False) e0 e1 hS (fun q _ z => False.elim z) (fun q z => False.elim z) hL hF
    obtain ⟨t2, a1, b1⟩ := vx_catch (rest := rest) (ls := ls) (H := T'.heap) (Q := Q) hown pre x suf hsplit hpass hcov h0 hlink (va_Nw.use rfl hca) (by rw [e1]; exact hce) hcv hcl (kk T'.heap (locs ++ L) q k1 (fun q hq => k2 q hq (fun z => z)) k3) T' rfl X'
    exact ⟨t2, hst.trans a1, b1⟩
end RLAW
theorem fl1 (a : va_W) : a = fl [a] := by simp [fl]
theorem fl2 (a b : va_W) : a ++ b = fl [a, b] := by simp [fl]
theorem fl3 (a b c : va_W) : a ++ b ++ c = fl [a, b, c] := by simp [fl]
theorem fl4 (a b c d : va_W) : a ++ b ++ c ++ d = fl [a, b, c, d] := by simp [fl]
theorem fl5 (a b c d e : va_W) : a ++ b ++ c ++ d ++ e = fl [a, b, c, d, e] := by simp [fl]
theorem fl6 (a b c d e f : va_W) : a ++ b ++ c ++ d ++ e ++ f = fl [a, b, c, d, e, f] := by simp [fl]
section RSEG
variable {p : Program} {l : Launch} {e : Env} {R : Room} {s : State} {m : MethodId} {args : Array Value} {below : List Frame} {meth : Method} {c : Code} {H H0 : Heap} {locs : List Loc} {cells slots : Nat} {Q : State → Prop} {A : Nat → Prop}
variable {cc : ByteArray} {pc : Nat} {ls : Array Slot} {rest st : List Value} {D : va_G} {ct : Nat → ClassId} {ws wc w1 : va_W} {Ls Cs C1 : List va_W}
variable {Ts wy : List Cond} {own C : String} {index maxL n nL : Nat} {y : MethodName} {bytes : ByteArray} {ret : Option FieldType} {rm : Room} {As : List Value} {b v : Nat}
theorem r_gVv (F : CallFix p m c cc nL s args Ts own) (hM : Met l y wy rm (wrPc D ct (.ref b :: As) wc H.size) (wqV D w1 (va_A wc H.size)) 0 0 (va_A wc H.size)) (hwc : wc = fl Cs) (hw1 : w1 = fl C1) (cw : CallW R s args own C index y bytes maxL ret wy rm 0 0 n) (hK : KK D ct s) (hP : va_P D vwCl (fl Ls) H) (hD : va_D A (fl Ls)) (hS : va_S A H0 H locs) (hA : ∀ q, H0.size ≤ q → A q) (is : List Nat) (hC : is.map (fun i => Ls[i]?) = Cs.map some) (hnd : va_nd is = true) (had : C1.map (·.map Prod.fst) = Cs.map (·.map Prod.fst))
    (q0 ci : Nat) {T : u_T} {N : Nat} {fs : List Value} (he : wc[q0]? = some (b, .inr (ci, fs))) (hc : vwCl[ci]? = some (C, T, N)) (hn : As.length = n) (hsize : ls.size = nL) (hstack : st = As.reverse ++ .ref b :: rest) (hW : (rest.map fun v => v.category).sum ≤ 8) (hdg : decode cc pc = .ok (.invokevirtual index, 3)) (hf : cells + 0 ≤ R.cells ∧ slots + 0 ≤ R.slots)
    (kk : ∀ (H1 : Heap) (locs1 : List Loc), va_P D vwCl (fl (jnG Ls is C1)) H1 → va_D A (fl (jnG Ls is C1)) → va_S A H0 H1 locs1 → H.size ≤ H1.size → (∀ q : Nat, q < H.size → ¬ A q → H1[q]? = H[q]?) → W p l e R s m args below meth c H1 locs1 cells slots Q (F0 m (pc + 3) ls rest)) : W p l e R s m args below meth c H locs cells slots Q (F0 m pc ls st) := by
  subst hwc; subst hw1
  have hPc := seg_P hP is hC
  have hDc := seg_D hD is hnd hC
  have hF := seg_free hD hS hA is hnd hC
  exact va_callv (va_runV (g := F0 m pc ls st) F hM cw ⟨wr_blind, va_recv hK.1 hPc hc he, wr_pre hK hPc hDc⟩ rfl hn hsize hstack (lv_room hW) hdg hf) hS (fun q _ h => hF q h) hF (fun u t H1 locs1 ht hvm hw hB hz hk hS1 => by
    rw [ht] at hB
    obtain ⟨g1, g2⟩ := seg_join hP hD is hC hnd had hk hB
    exact kk H1 locs1 g1 g2 hS1 hz (fun q h1 h2 => hk q h1 (fun z => h2 (hF q z))))
theorem r_gRr (F : CallFix p m c cc nL s args Ts own) (hM : Met l y wy rm (roPc D ct (.ref b :: As) wc) (va_Sr (fun q9 => q9 = v) .ref) 0 0 (fun _ => False)) (hwc : wc = fl Cs) (cw : CallW R s args own C index y bytes maxL ret wy rm 0 0 n) (hK : KK D ct s) (hP : va_P D vwCl (fl Ls) H) (is : List Nat) (hC : is.map (fun i => Ls[i]?) = Cs.map some)
    (q0 ci : Nat) {T : u_T} {N : Nat} {fs : List Value} (he : wc[q0]? = some (b, .inr (ci, fs))) (hc : vwCl[ci]? = some (C, T, N)) (hn : As.length = n) (hsize : ls.size = nL) (hstack : st = As.reverse ++ .ref b :: rest) (hW : (rest.map fun v => v.category).sum ≤ 8) (hdg : decode cc pc = .ok (.invokevirtual index, 3)) (hf : cells + 0 ≤ R.cells ∧ slots + 0 ≤ R.slots)
    (kk : W p l e R s m args below meth c H locs cells slots Q (F0 m (pc + 3) ls (.ref v :: rest))) : W p l e R s m args below meth c H locs cells slots Q (F0 m pc ls st) := by
  subst hwc
  exact r_cVr F hM cw hK (seg_P hP is hC) q0 ci he hc hn hsize hstack hW hdg hf kk
theorem r_gRv (F : CallFix p m c cc nL s args Ts own) (hM : Met l y wy rm (roPc D ct (.ref b :: As) wc) (va_Sv (fun _ => True)) 0 0 (fun _ => False)) (hwc : wc = fl Cs) (cw : CallW R s args own C index y bytes maxL ret wy rm 0 0 n) (hK : KK D ct s) (hP : va_P D vwCl (fl Ls) H) (is : List Nat) (hC : is.map (fun i => Ls[i]?) = Cs.map some)
    (q0 ci : Nat) {T : u_T} {N : Nat} {fs : List Value} (he : wc[q0]? = some (b, .inr (ci, fs))) (hc : vwCl[ci]? = some (C, T, N)) (hn : As.length = n) (hsize : ls.size = nL) (hstack : st = As.reverse ++ .ref b :: rest) (hW : (rest.map fun v => v.category).sum ≤ 8) (hdg : decode cc pc = .ok (.invokevirtual index, 3)) (hf : cells + 0 ≤ R.cells ∧ slots + 0 ≤ R.slots)
    (kk : W p l e R s m args below meth c H locs cells slots Q (F0 m (pc + 3) ls rest)) : W p l e R s m args below meth c H locs cells slots Q (F0 m pc ls st) := by
  subst hwc
  exact r_cVv F hM cw hK (seg_P hP is hC) q0 ci he hc hn hsize hstack hW hdg hf kk
end RSEG
