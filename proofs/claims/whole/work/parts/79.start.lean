def nestPl : List Nat := [24, 91, 39, 100, 98, 104, 102, 106, 48, 31, 34, 43, 45, 36, 79, 82, 47, 33, 42, 30, 40, 37, 78, 29]
theorem nWs_tab : nWs.map some = nestPl.map (fun i => tables_1[i]?) := by decide +kernel
theorem nWs_in : ∀ w ∈ nWs, w ∈ lw_tbl := by
  intro w hw
  have h1 : some w ∈ nWs.map some := List.mem_map.mpr ⟨w, hw, rfl⟩
  rw [nWs_tab] at h1
  obtain ⟨i, -, hi⟩ := List.mem_map.mp h1
  exact List.mem_append_right _ (List.mem_of_getElem? hi)
def strPl : List Nat := [233, 329, 337, 366, 534, 187, 218, 223, 371, 253, 272, 277]
theorem str_tab : xStr.map (fun q => some (Cond.stringRef RX3 q.1 q.2)) = strPl.map (fun i => tables_1[i]?) := by decide +kernel
theorem str_in : ∀ q ∈ xStr, Cond.stringRef RX3 q.1 q.2 ∈ lw_tbl := by
  intro q hq
  have h1 : some (Cond.stringRef RX3 q.1 q.2) ∈ xStr.map (fun q => some (Cond.stringRef RX3 q.1 q.2)) := List.mem_map.mpr ⟨q, hq, rfl⟩
  rw [str_tab] at h1
  obtain ⟨i, -, hi⟩ := List.mem_map.mp h1
  exact List.mem_append_right _ (List.mem_of_getElem? hi)
theorem tab_in {w : Cond} {i : Nat} (h : tables_1[i]? = some w) : w ∈ lw_tbl := List.mem_append_right _ (List.mem_of_getElem? h)
theorem arr_of {s : State} {A : Array Value} {ty : FieldType} (h : (Cond.arrayClass ty).before A s = true) (hp : ∀ C, ty ≠ .object C) : ∃ cA, ArrOfT s cA ty ∧ va_RA s cA ty := by
  obtain ⟨cA, kA, comp, h1, h2, h3⟩ := Cond.arrayClass_spec h
  refine ⟨cA, fun n z => ⟨fun k h => (by cases h), kA, h2, comp, h3⟩, ?_⟩
  cases ty <;> first | exact h1 | exact absurd rfl (hp _)
theorem arr_ofO {s : State} {A : Array Value} {C : String} (h : (Cond.arrayOver (.object C)).before A s = true) : ∃ cA, ArrOfT s cA (.object C) ∧ va_RA s cA (.object C) := by
  obtain ⟨comp, cA, kA, h1, h2, h3, h4, h5⟩ := Cond.arrayOver_spec h
  exact ⟨cA, fun n z => ⟨fun k h => (by cases h), kA, h3, comp, h4⟩, kA, comp, h3, h4, h1, h5⟩
/-- what the tables say of the classes -/
theorem K_start {s : State} {A : Array Value} (hts : ∀ w ∈ lw_tbl, w.before A s = true) : ∃ (D : va_G) (ct : Nat → ClassId), KK D ct s := by
  have htl := fun w h => hts w (wsL_law_in w h)
  obtain ⟨c0, i0, k0⟩ := u_known (C := RX0) (T := TX0) (N := 3) (n := 3) htl inlX0 (hts (.instantiable RX0 3) (tab_in (i := 69) (by decide +kernel)))
  obtain ⟨c1, i1, k1⟩ := u_known (C := RX1) (T := TX1) (N := 5) (n := 5) htl inlX1 (hts (.instantiable RX1 5) (tab_in (i := 90) (by decide +kernel)))
  obtain ⟨c2, i2, k2⟩ := u_known (C := RX2) (T := TX2) (N := 7) (n := 7) htl inlX2 (hts (.instantiable RX2 7) (tab_in (i := 23) (by decide +kernel)))
  obtain ⟨c3, i3, k3⟩ := u_known (C := RX3) (T := TX3) (N := 3) (n := 3) htl inlX3 (hts (.instantiable RX3 3) (tab_in (i := 15) (by decide +kernel)))
  obtain ⟨c4, i4, k4⟩ := u_known (C := RX4) (T := TX4) (N := 13) (n := 13) htl inlX4 (hts (.instantiable RX4 13) (tab_in (i := 536) (by decide +kernel)))
  obtain ⟨a0, b0, d0⟩ := arr_of (hts (.arrayClass .int) (tab_in (i := 64) (by decide +kernel))) (fun C h => by cases h)
  obtain ⟨a1, b1, d1⟩ := arr_of (hts (.arrayClass .boolean) (tab_in (i := 65) (by decide +kernel))) (fun C h => by cases h)
  obtain ⟨a2, b2, d2⟩ := arr_ofO (hts (.arrayOver (.object "RevisionStores$Store")) (tab_in (i := 67) (by decide +kernel)))
  obtain ⟨a3, b3, d3⟩ := arr_of (hts (.arrayClass .long) (tab_in (i := 758) (by decide +kernel))) (fun C h => by cases h)
  refine ⟨(fun k => match k with
    | 0 => c0
    | 1 => c1
    | 2 => c2
    | 3 => c3
    | _ => c4, fun k => match k with
    | 0 => i0
    | 1 => i1
    | 2 => i2
    | 3 => i3
    | _ => i4), (fun k => match k with
    | 0 => a0
    | 1 => a1
    | 2 => a2
    | _ => a3), ⟨fun k q hq => ?_, fun k q hq => ?_⟩, fun w hw => ?_⟩
  · match k, hq with
    | 0, hq => cases hq; exact k0
    | 1, hq => cases hq; exact k1
    | 2, hq => cases hq; exact k2
    | 3, hq => cases hq; exact k3
    | 4, hq => cases hq; exact k4
    | k + 5, hq => simp [vwCl] at hq
  · match k, hq with
    | 0, hq => cases hq; exact ⟨b0, d0⟩
    | 1, hq => cases hq; exact ⟨b1, d1⟩
    | 2, hq => cases hq; exact ⟨b2, d2⟩
    | 3, hq => cases hq; exact ⟨b3, d3⟩
    | k + 4, hq => simp [tyA] at hq
  · have h1 := hts w (nWs_in w hw)
    have h2 := nWs_nest w hw
    cases w <;> first | exact va_Nw.of rfl h1 | exact absurd h2 (by simp [isNest])
/-- what throws need, at the start -/
theorem T_start {s : State} {A : Array Value} {D : va_G} {ct : Nat → ClassId} (hK : KK D ct s) (hts : ∀ w ∈ lw_tbl, w.before A s = true) (hgv : (Jvm.Cond.and given_1 narrow_1).before A s = true) : TXA (fun q => s.heap.size ≤ q) s s.heap := by
  have hs := flat_of_before _ hgv
  have hcur := (hK.1.1 3 _ rfl).2.1
  refine ⟨fun q hq => ?_, ⟨⟨va_Nw.of rfl (hts (.castable eO eO) (tab_in (i := 148) (by decide +kernel))), va_Nw.of rfl (hts (.castable eA eA) (tab_in (i := 226) (by decide +kernel))), va_Nw.of rfl (hts (.castable eS eS) (tab_in (i := 246) (by decide +kernel)))⟩, va_Nw.of rfl (hts _ (tab_in (i := 150) (by decide +kernel))), va_Nw.of rfl (hts _ (tab_in (i := 152) (by decide +kernel))), va_Nw.of rfl (hts _ (tab_in (i := 154) (by decide +kernel)))⟩, ⟨va_Nc.of (hs (.not (.castable eA eO)) (by decide +kernel)), va_Nc.of (hs (.not (.castable eS eO)) (by decide +kernel)), va_Nc.of (hs (.not (.castable eS eA)) (by decide +kernel))⟩, ?_, ?_⟩
  · have h1 := hts _ (str_in q hq)
    obtain ⟨k, cf, i, a, -, -, -, -, -, h2⟩ := Cond.stringRef_spec hcur (show (Cond.stringRef RX3 q.1 q.2).holds A s none s [] = true from h1)
    exact ⟨a, vk_R.of h1 h2⟩
  · exact vx_Zqof (hts (.laysStatic Bundle.tN "UNASSIGNED_STACK" Bundle.steD) (tab_in (i := 173) (by decide +kernel))) (hts (.initialized Bundle.tN) (tab_in (i := 7) (by decide +kernel))) (hs (.isRef (.static Bundle.tN "UNASSIGNED_STACK" Bundle.steD)) (by decide +kernel)) (fun a h => Nat.not_le.mpr h)
  · exact vx_Zqof (hts (.laysStatic Bundle.tN "SUPPRESSED_SENTINEL" Bundle.listD) (tab_in (i := 175) (by decide +kernel))) (hts (.initialized Bundle.tN) (tab_in (i := 7) (by decide +kernel))) (hs (.isRef (.static Bundle.tN "SUPPRESSED_SENTINEL" Bundle.listD)) (by decide +kernel)) (fun a h => Nat.not_le.mpr h)
theorem launch_st {l : Launch} (h : l.flags = flags0) : l.stackTraces = false := by
  unfold Launch.stackTraces
  rw [h]
  decide
theorem r_iniS {p : Program} {l : Launch} {e : Env} {R : Room} {s : State} {m : MethodId} {args : Array Value} {below : List Frame} {meth : Method} {c : Code} {H H0 : Heap} {locs : List Loc} {cells slots : Nat} {Q : State → Prop} {A : Nat → Prop} {cc : ByteArray} {pc : Nat} {ls : Array Slot} {rest st : List Value} {D : va_G} {ct : Nat → ClassId} {wc wr : va_W}
    {Ts wy : List Cond} {own : String} {index maxL nL mc ms : Nat} {y : MethodName} {bytes : ByteArray} {rm : Room} {b : Nat} {S : Type} {post : S → Prop} {w1 : S → va_W}
    (F : CallFix p m c cc nL s args Ts own) (hM : Met l y wy rm (wrPc D ct [.ref b] wc H.size) (inQ D post w1 (va_A wc H.size)) mc ms (va_A wc H.size)) (cw : CallB R s args own index y bytes maxL none wy rm mc ms 0 ∧ y.name = "<init>" ∧ (Cond.instanceMethod y).before args s = true) (hK : KK D ct s) (hP : va_P D vwCl (wr ++ wc) H) (hD : va_D A (wr ++ wc)) (hS : va_S A H0 H locs) (hA : ∀ q, H0.size ≤ q → A q)
    (hsize : ls.size = nL) (hstack : st = .ref b :: rest) (hW : (rest.map fun v => v.category).sum ≤ 8) (hdg : decode cc pc = .ok (.invokespecial index, 3)) (hf : cells + mc ≤ R.cells ∧ slots + ms ≤ R.slots)
    (kk : ∀ (u : S) (H1 : Heap) (locs1 : List Loc), post u → va_P D vwCl (wr ++ w1 u) H1 → va_D A (wr ++ w1 u) → va_S A H0 H1 locs1 → W p l e R s m args below meth c H1 locs1 (cells + mc) (slots + ms) Q (F0 m (pc + 3) ls rest)) : W p l e R s m args below meth c H locs cells slots Q (F0 m pc ls st) := by
  have hl0 : ∀ i, (wr ++ wc)[wr.length + i]? = wc[i]? := fun i => by rw [List.getElem?_append_right (by omega)]; congr 1; omega
  have hC : ((List.range wc.length).map (wr.length + ·)).map (fun i => (wr ++ wc)[i]?) = wc.map some := by
    apply List.ext_getElem?
    intro i
    simp only [List.getElem?_map]
    by_cases h : i < wc.length
    · rw [List.getElem?_range h]
      simp only [Option.map_some]
      rw [hl0, List.getElem?_eq_getElem h]
      rfl
    · rw [List.getElem?_eq_none (by simpa using h), List.getElem?_eq_none (by simpa using h)]
      rfl
  have hR : (List.range wr.length).map (fun i => (wr ++ wc)[i]?) = wr.map some := by
    apply List.ext_getElem?
    intro i
    simp only [List.getElem?_map]
    by_cases h : i < wr.length
    · rw [List.getElem?_range h]
      simp only [Option.map_some]
      rw [List.getElem?_append_left h, List.getElem?_eq_getElem h]
      rfl
    · rw [List.getElem?_eq_none (by simpa using h), List.getElem?_eq_none (by simpa using h)]
      rfl
  have nd : ∀ {xs : List Nat}, xs.Nodup → va_nd xs = true := by
    intro xs h
    induction xs with
    | nil => rfl
    | cons x xs ih =>
      obtain ⟨h1, h2⟩ := List.nodup_cons.mp h
      simp only [va_nd, Bool.and_eq_true, decide_eq_true_eq]
      exact ⟨h1, ih h2⟩
  exact r_iniI F hM cw hK hP hD hS hA _ _ hC hR (nd (List.pairwise_map.mpr (List.nodup_range.imp (fun h => by omega)))) (nd List.nodup_range) (fun i hi hc => by
    obtain ⟨q, -, hq⟩ := List.mem_map.mp hc
    have := List.mem_range.mp hi
    omega) hsize hstack hW hdg hf kk
