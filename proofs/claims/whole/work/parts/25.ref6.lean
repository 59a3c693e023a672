set_option maxHeartbeats 8000000 in
set_option maxRecDepth 100000 in
theorem cX4_gets_ok (l : Launch) (D : va_G) (ct : Nat → ClassId) (g : Nat → Nat) (n : Nat) (dc : Nat → Nat) (pa : Nat → Option Nat) (va : Nat → Int32) (dl : Nat → Bool) (ge : Nat → Nat) (su : Nat → Int32) (mk : Nat → Bool) (dp : Nat → Int32) (sq : Nat → Int32) (tc : Nat → Int32) (kp : Nat → Int32) (la : Int32) (i : Nat) (j : Nat) (d : Nat) (hn : n ≤ 150) (hTd : ∀ k, dc k < 4) (hTg : ∀ k, ge k ≤ 150) (hTp : ∀ k j, k < n → pa k = some j → j < k) (hi : i < 3) (hj : j < 3) (hd4 : d < 4) (sz : Nat) : Met l yX4_gets wsX4_gets ({ frames := 5, cells := 0, slots := 0, locals := 116 } : Room) (wrPc D ct [.ref (g 0), .int (nI i), .int (nI j), .int (nI d)] (wM ct g n dc pa va dl ge su mk dp sq tc kp la) sz) (wqI D (nI ((gtS dc pa i j n d mk n).1)) (wM ct g n dc pa va dl ge su (if 0 < (gtS dc pa i j n d mk n).1 then (smS pa ge dp j n (gtS dc pa i j n d mk n).2 n).2 else (gtS dc pa i j n d mk n).2) dp (if 0 < (gtS dc pa i j n d mk n).1 then va_up sq j (sq j + nI 1) else sq) (if 0 < (gtS dc pa i j n d mk n).1 then va_up tc ((4 * j) + d) (sq j + nI 1) else tc) kp la) (va_A (wM ct g n dc pa va dl ge su mk dp sq tc kp la) sz)) 0 0 (va_A (wM ct g n dc pa va dl ge su mk dp sq tc kp la) sz) := by
  refine Met.ofW (cc := cX4_gets) (maxL := 9) (ret := (some .int)) (by decide) rfl ?_
  intro p e s m args below meth c s₁ B hml hv
  obtain ⟨rfl, hsz, hP, hK, hD0⟩ := hv
  have hx := B.exec
  have hb := B.bytes
  have hr := B.returns
  have hts := atoms_spec (ws := wsX4_gets) B.pre
  have hown : s.vm.findClass RX4 = some m.cls := findClass_of_methodNamed B.named
  have hlocks := B.notSynchronized
  subst hsz
  have hD := hD0.self (sz := s.heap.size)
  generalize hAe : va_A (wM ct g n dc pa va dl ge su mk dp sq tc kp la) s.heap.size = A at hD ⊢
  have hA : ∀ q : Nat, s.heap.size ≤ q → A q := fun q h => by rw [← hAe]; exact Or.inr h
  have hS : va_S A s.heap s.heap [] := va_S.rf
  have hP : va_P D vwCl (wM ct g n dc pa va dl ge su mk dp sq tc kp la) s.heap := hP
  clear hAe hD0
  have hl := lv_entry ([.ref (g 0), .int (nI i), .int (nI j), .int (nI d)]) (n := 9) (Nat.le_of_ble_eq_true rfl)
  rw [lg_entry_eq]
  generalize (lg_sl ([.ref (g 0), .int (nI i), .int (nI j), .int (nI d)]) ++ List.replicate (9 - (lg_sl ([.ref (g 0), .int (nI i), .int (nI j), .int (nI d)])).length) Slot.unset).toArray = ls at hl ⊢
  have hl : lv_has ls 9 [(0, .ref (g 0)), (1, .int (nI i)), (2, .int (nI j)), (3, .int (nI d))] := hl
  have hH0 : s.heap.size ≤ s.heap.size := Nat.le_refl _
  refine lv_iconst (v := nI 0) hx hb dX4_gets_0 (by decide) ?_
  refine lv_istore (lv' := [(4, .int (nI 0)), (0, .ref (g 0)), (1, .int (nI i)), (2, .int (nI j)), (3, .int (nI d))]) hx hb dX4_gets_1 hl (by decide) rfl (fun ls hl => ?_)
  refine lv_iconst (v := nI 0) hx hb dX4_gets_3 (by decide) ?_
  refine lv_istore (lv' := [(5, .int (nI 0)), (4, .int (nI 0)), (0, .ref (g 0)), (1, .int (nI i)), (2, .int (nI j)), (3, .int (nI d))]) hx hb dX4_gets_4 hl (by decide) rfl (fun ls hl => ?_)
  have key6 : ∀ (d6 : Nat) (k : Nat) (hk : k ≤ n), n - k < d6 → ∀ (H : Heap) (locs : List Loc) (ls : Array Slot), va_P D vwCl (wM ct g n dc pa va dl ge su ((gtS dc pa i j n d mk k).2) dp sq tc kp la) H → va_D A (wM ct g n dc pa va dl ge su ((gtS dc pa i j n d mk k).2) dp sq tc kp la) → va_S A s.heap H locs → lv_has ls 9 [(5, .int (nI k)), (4, .int (nI ((gtS dc pa i j n d mk k).1))), (0, .ref (g 0)), (1, .int (nI i)), (2, .int (nI j)), (3, .int (nI d))] → W p l e ({ frames := 5, cells := 0, slots := 0, locals := 116 } : Room) s m ([.ref (g 0), .int (nI i), .int (nI j), .int (nI d)] : List Value).toArray below meth c H locs 0 0 (MQ below (wqI D (nI ((gtS dc pa i j n d mk n).1)) (wM ct g n dc pa va dl ge su (if 0 < (gtS dc pa i j n d mk n).1 then (smS pa ge dp j n (gtS dc pa i j n d mk n).2 n).2 else (gtS dc pa i j n d mk n).2) dp (if 0 < (gtS dc pa i j n d mk n).1 then va_up sq j (sq j + nI 1) else sq) (if 0 < (gtS dc pa i j n d mk n).1 then va_up tc ((4 * j) + d) (sq j + nI 1) else tc) kp la) A) ([.ref (g 0), .int (nI i), .int (nI j), .int (nI d)] : List Value).toArray s 0 0 A) (F0 m 6 ls []) := by
    intro d6
    induction d6 with
    | zero => intro k hk h9; exact absurd h9 (Nat.not_lt_zero _)
    | succ d6 ih6 =>
      intro k hk hm6 H locs ls hP hD hS hl
      refine lv_iload hx hb dX4_gets_6 (lv_at hl 0 rfl) ?_
      refine lv_aload_n hx hb dX4_gets_8 rfl (lv_at hl 2 rfl) ?_
      refine va_get (D := D) (ci := 4) (v := .int (nI n)) (C := RX4) (T := TX4) (N := 13) hx hb hts (fun _ h => List.mem_cons_of_mem _ (List.mem_append_right _ h)) hown hK.1 hP 0 rfl rfl 6 (by decide) (hts (.fieldLink RX4 52 "RevisionStoresModel" "revisions" "I") (List.mem_of_getElem? (i := 1) rfl)) (fun _ h9 => h9) rfl dX4_gets_9 ?_
      refine r_icmp_geN hx hb (x := k) (y := n) (by first | omega | decide) (by first | omega | decide) (tgt := 195) dX4_gets_12 (by decide) (fun c12 => ?_) (fun c12 => ?_)
      · have e195k : k = n := by omega
        have e195 := gtS_le dc pa i j n d mk n
        have e9 : ((gtS dc pa i j n d mk k).2) = ((gtS dc pa i j n d mk n).2) := by rw [e195k]
        have hP := (congrArg (fun z9 => va_P D vwCl (wM ct g n dc pa va dl ge su z9 dp sq tc kp la) H) e9).mp hP
        have hD := (congrArg (fun z9 => va_D A (wM ct g n dc pa va dl ge su z9 dp sq tc kp la)) e9).mp hD
        have hP : va_P D vwCl (wM ct g n dc pa va dl ge su ((gtS dc pa i j n d mk n).2) dp sq tc kp la) H := hP
        have hD : va_D A (wM ct g n dc pa va dl ge su ((gtS dc pa i j n d mk n).2) dp sq tc kp la) := hD
        have hl := lv_re (f := fun z9 => [(5, .int (nI k)), (4, .int z9), (0, .ref (g 0)), (1, .int (nI i)), (2, .int (nI j)), (3, .int (nI d))]) hl (show nI ((gtS dc pa i j n d mk k).1) = nI ((gtS dc pa i j n d mk n).1) from congrArg nI (show ((gtS dc pa i j n d mk k).1) = ((gtS dc pa i j n d mk n).1) from by rw [e195k]))
        refine lv_iload hx hb dX4_gets_195 (lv_at hl 1 rfl) ?_
        refine r_if_leN hx hb (x := (gtS dc pa i j n d mk n).1) (by first | omega | decide) (tgt := 212) dX4_gets_197 (by decide) (fun c197 => ?_) (fun c197 => ?_)
        · refine lv_iload hx hb dX4_gets_212 (lv_at hl 1 rfl) ?_
          have e9 : ((gtS dc pa i j n d mk n).2) = (if 0 < (gtS dc pa i j n d mk n).1 then (smS pa ge dp j n (gtS dc pa i j n d mk n).2 n).2 else (gtS dc pa i j n d mk n).2) := by simp [c197]
          have hP := (congrArg (fun z9 => va_P D vwCl (wM ct g n dc pa va dl ge su z9 dp sq tc kp la) H) e9).mp hP
          have e9 : sq = (if 0 < (gtS dc pa i j n d mk n).1 then va_up sq j (sq j + nI 1) else sq) := by simp [c197]
          have hP := (congrArg (fun z9 => va_P D vwCl (wM ct g n dc pa va dl ge su (if 0 < (gtS dc pa i j n d mk n).1 then (smS pa ge dp j n (gtS dc pa i j n d mk n).2 n).2 else (gtS dc pa i j n d mk n).2) dp z9 tc kp la) H) e9).mp hP
          have e9 : tc = (if 0 < (gtS dc pa i j n d mk n).1 then va_up tc ((4 * j) + d) (sq j + nI 1) else tc) := by simp [c197]
          have hP := (congrArg (fun z9 => va_P D vwCl (wM ct g n dc pa va dl ge su (if 0 < (gtS dc pa i j n d mk n).1 then (smS pa ge dp j n (gtS dc pa i j n d mk n).2 n).2 else (gtS dc pa i j n d mk n).2) dp (if 0 < (gtS dc pa i j n d mk n).1 then va_up sq j (sq j + nI 1) else sq) z9 kp la) H) e9).mp hP
          have hP : va_P D vwCl (wM ct g n dc pa va dl ge su (if 0 < (gtS dc pa i j n d mk n).1 then (smS pa ge dp j n (gtS dc pa i j n d mk n).2 n).2 else (gtS dc pa i j n d mk n).2) dp (if 0 < (gtS dc pa i j n d mk n).1 then va_up sq j (sq j + nI 1) else sq) (if 0 < (gtS dc pa i j n d mk n).1 then va_up tc ((4 * j) + d) (sq j + nI 1) else tc) kp la) H := hP
          exact W.iret hx hb hr (fun t ht hW => ⟨⟨_, (), rfl, rfl, by show va_P D vwCl _ t.heap; rw [ht]; exact hP⟩, hS.F ht⟩) hS.2.2 dX4_gets_214
        · refine lv_aload_n hx hb dX4_gets_200 rfl (lv_at hl 2 rfl) ?_
          refine lv_iload_n hx hb dX4_gets_201 rfl (lv_at hl 4 rfl) ?_
          refine lv_iload_n hx hb dX4_gets_202 rfl (lv_at hl 5 rfl) ?_
          refine r_wVv (As := [.int (nI j), .int (nI d)]) (rest := []) ⟨hx, hb, hml, hown, hts⟩ (cX4_touches_ok l D ct g n dc pa va dl ge su ((gtS dc pa i j n d mk n).2) dp sq tc kp la j d (by first | assumption | omega) (by first | assumption | omega) H.size) (cwV 2 hts gX4_gets_X4_touches rfl rfl rfl (by decide +kernel) ⟨Nat.le_of_ble_eq_true rfl, Nat.le_of_ble_eq_true rfl⟩) hK hP hD hS hA [0, 1, 2, 3, 4, 5, 6, 7, 8, 9, 10, 11] rfl rfl rfl 0 4 rfl rfl rfl hl.1 rfl (Nat.le_of_ble_eq_true rfl) dX4_gets_203 ⟨Nat.le_of_ble_eq_true rfl, Nat.le_of_ble_eq_true rfl⟩ (fun H locs hP hD hS => ?_)
          have hP : va_P D vwCl (wM ct g n dc pa va dl ge su ((gtS dc pa i j n d mk n).2) dp (va_up sq j (sq j + nI 1)) (va_up tc ((4 * j) + d) (sq j + nI 1)) kp la) H := hP
          have hD : va_D A (wM ct g n dc pa va dl ge su ((gtS dc pa i j n d mk n).2) dp (va_up sq j (sq j + nI 1)) (va_up tc ((4 * j) + d) (sq j + nI 1)) kp la) := hD
          refine lv_aload_n hx hb dX4_gets_206 rfl (lv_at hl 2 rfl) ?_
          refine lv_iload_n hx hb dX4_gets_207 rfl (lv_at hl 4 rfl) ?_
          refine r_wVi (As := [.int (nI j)]) (rest := []) ⟨hx, hb, hml, hown, hts⟩ (cX4_stems_ok l D ct g n dc pa va dl ge su ((gtS dc pa i j n d mk n).2) dp (va_up sq j (sq j + nI 1)) (va_up tc ((4 * j) + d) (sq j + nI 1)) kp la j (by first | assumption | omega) (by first | assumption | omega) (by first | assumption | omega) (by first | assumption | omega) H.size) (cwV 1 hts gX4_gets_X4_stems rfl rfl rfl (by decide +kernel) ⟨Nat.le_of_ble_eq_true rfl, Nat.le_of_ble_eq_true rfl⟩) hK hP hD hS hA [0, 1, 2, 3, 4, 5, 6, 7, 8, 9, 10, 11] rfl rfl rfl 0 4 rfl rfl rfl hl.1 rfl (Nat.le_of_ble_eq_true rfl) dX4_gets_208 ⟨Nat.le_of_ble_eq_true rfl, Nat.le_of_ble_eq_true rfl⟩ (fun H locs hP hD hS => ?_)
          have hP : va_P D vwCl (wM ct g n dc pa va dl ge su ((smS pa ge dp j n ((gtS dc pa i j n d mk n).2) n).2) dp (va_up sq j (sq j + nI 1)) (va_up tc ((4 * j) + d) (sq j + nI 1)) kp la) H := hP
          have hD : va_D A (wM ct g n dc pa va dl ge su ((smS pa ge dp j n ((gtS dc pa i j n d mk n).2) n).2) dp (va_up sq j (sq j + nI 1)) (va_up tc ((4 * j) + d) (sq j + nI 1)) kp la) := hD
          refine lv_pop hx hb dX4_gets_211 rfl ?_
          refine lv_iload hx hb dX4_gets_212 (lv_at hl 1 rfl) ?_
          have e9 : ((smS pa ge dp j n ((gtS dc pa i j n d mk n).2) n).2) = (if 0 < (gtS dc pa i j n d mk n).1 then (smS pa ge dp j n (gtS dc pa i j n d mk n).2 n).2 else (gtS dc pa i j n d mk n).2) := by simp [c197]
          have hP := (congrArg (fun z9 => va_P D vwCl (wM ct g n dc pa va dl ge su z9 dp (va_up sq j (sq j + nI 1)) (va_up tc ((4 * j) + d) (sq j + nI 1)) kp la) H) e9).mp hP
          have e9 : (va_up sq j (sq j + nI 1)) = (if 0 < (gtS dc pa i j n d mk n).1 then va_up sq j (sq j + nI 1) else sq) := by simp [c197]
          have hP := (congrArg (fun z9 => va_P D vwCl (wM ct g n dc pa va dl ge su (if 0 < (gtS dc pa i j n d mk n).1 then (smS pa ge dp j n (gtS dc pa i j n d mk n).2 n).2 else (gtS dc pa i j n d mk n).2) dp z9 (va_up tc ((4 * j) + d) (sq j + nI 1)) kp la) H) e9).mp hP
          have e9 : (va_up tc ((4 * j) + d) (sq j + nI 1)) = (if 0 < (gtS dc pa i j n d mk n).1 then va_up tc ((4 * j) + d) (sq j + nI 1) else tc) := by simp [c197]
          have hP := (congrArg (fun z9 => va_P D vwCl (wM ct g n dc pa va dl ge su (if 0 < (gtS dc pa i j n d mk n).1 then (smS pa ge dp j n (gtS dc pa i j n d mk n).2 n).2 else (gtS dc pa i j n d mk n).2) dp (if 0 < (gtS dc pa i j n d mk n).1 then va_up sq j (sq j + nI 1) else sq) z9 kp la) H) e9).mp hP
          have hP : va_P D vwCl (wM ct g n dc pa va dl ge su (if 0 < (gtS dc pa i j n d mk n).1 then (smS pa ge dp j n (gtS dc pa i j n d mk n).2 n).2 else (gtS dc pa i j n d mk n).2) dp (if 0 < (gtS dc pa i j n d mk n).1 then va_up sq j (sq j + nI 1) else sq) (if 0 < (gtS dc pa i j n d mk n).1 then va_up tc ((4 * j) + d) (sq j + nI 1) else tc) kp la) H := hP
          exact W.iret hx hb hr (fun t ht hW => ⟨⟨_, (), rfl, rfl, by show va_P D vwCl _ t.heap; rw [ht]; exact hP⟩, hS.F ht⟩) hS.2.2 dX4_gets_214
      · have jn67 : ∀ (H : Heap) (locs : List Loc) (ls : Array Slot), va_P D vwCl (wM ct g n dc pa va dl ge su ((gtS dc pa i j n d mk k).2) dp sq tc kp la) H → va_D A (wM ct g n dc pa va dl ge su ((gtS dc pa i j n d mk k).2) dp sq tc kp la) → va_S A s.heap H locs → lv_has ls 9 [(5, .int (nI k)), (4, .int (nI ((gtS dc pa i j n d mk k).1))), (0, .ref (g 0)), (1, .int (nI i)), (2, .int (nI j)), (3, .int (nI d))] → W p l e ({ frames := 5, cells := 0, slots := 0, locals := 116 } : Room) s m ([.ref (g 0), .int (nI i), .int (nI j), .int (nI d)] : List Value).toArray below meth c H locs 0 0 (MQ below (wqI D (nI ((gtS dc pa i j n d mk n).1)) (wM ct g n dc pa va dl ge su (if 0 < (gtS dc pa i j n d mk n).1 then (smS pa ge dp j n (gtS dc pa i j n d mk n).2 n).2 else (gtS dc pa i j n d mk n).2) dp (if 0 < (gtS dc pa i j n d mk n).1 then va_up sq j (sq j + nI 1) else sq) (if 0 < (gtS dc pa i j n d mk n).1 then va_up tc ((4 * j) + d) (sq j + nI 1) else tc) kp la) A) ([.ref (g 0), .int (nI i), .int (nI j), .int (nI d)] : List Value).toArray s 0 0 A) (F0 m 67 ls [.int (bI (gtC dc pa i j n d k (gtS dc pa i j n d mk k).2))]) := by
          intro H locs ls hP hD hS hl
          refine lv_istore (lv' := [(6, .int (bI (gtC dc pa i j n d k (gtS dc pa i j n d mk k).2))), (5, .int (nI k)), (4, .int (nI ((gtS dc pa i j n d mk k).1))), (0, .ref (g 0)), (1, .int (nI i)), (2, .int (nI j)), (3, .int (nI d))]) hx hb dX4_gets_67 hl (by decide) rfl (fun ls hl => ?_)
          refine lv_iload hx hb dX4_gets_69 (lv_at hl 1 rfl) ?_
          refine lv_istore (lv' := [(7, .int (nI k)), (6, .int (bI (gtC dc pa i j n d k (gtS dc pa i j n d mk k).2))), (5, .int (nI k)), (4, .int (nI ((gtS dc pa i j n d mk k).1))), (0, .ref (g 0)), (1, .int (nI i)), (2, .int (nI j)), (3, .int (nI d))]) hx hb dX4_gets_71 hl (by decide) rfl (fun ls hl => ?_)
          have key73 : ∀ (d73 : Nat) (o : Option Nat) (w : Nat) (x : Nat → Bool) (f : Nat) (ho : ∀ j, o = some j → j < n) (hf : ∀ j, o = some j → j < f) (hq : (if gtC dc pa i j n d k (gtS dc pa i j n d mk k).2 = true then lm pa i j f o w x else (w, x)) = gtS dc pa i j n d mk (k + 1)), f < d73 → ∀ (H : Heap) (locs : List Loc) (ls : Array Slot), va_P D vwCl (wM ct g n dc pa va dl ge su x dp sq tc kp la) H → va_D A (wM ct g n dc pa va dl ge su x dp sq tc kp la) → va_S A s.heap H locs → lv_has ls 9 [(7, .int (eP o)), (6, .int (bI (gtC dc pa i j n d k (gtS dc pa i j n d mk k).2))), (5, .int (nI k)), (4, .int (nI w)), (0, .ref (g 0)), (1, .int (nI i)), (2, .int (nI j)), (3, .int (nI d))] → W p l e ({ frames := 5, cells := 0, slots := 0, locals := 116 } : Room) s m ([.ref (g 0), .int (nI i), .int (nI j), .int (nI d)] : List Value).toArray below meth c H locs 0 0 (MQ below (wqI D (nI ((gtS dc pa i j n d mk n).1)) (wM ct g n dc pa va dl ge su (if 0 < (gtS dc pa i j n d mk n).1 then (smS pa ge dp j n (gtS dc pa i j n d mk n).2 n).2 else (gtS dc pa i j n d mk n).2) dp (if 0 < (gtS dc pa i j n d mk n).1 then va_up sq j (sq j + nI 1) else sq) (if 0 < (gtS dc pa i j n d mk n).1 then va_up tc ((4 * j) + d) (sq j + nI 1) else tc) kp la) A) ([.ref (g 0), .int (nI i), .int (nI j), .int (nI d)] : List Value).toArray s 0 0 A) (F0 m 73 ls []) := by
            intro d73
            induction d73 with
            | zero => intro o w x f ho hf hq h9; exact absurd h9 (Nat.not_lt_zero _)
            | succ d73 ih73 =>
              intro o w x f ho hf hq hm73 H locs ls hP hD hS hl
              refine lv_iload hx hb dX4_gets_73 (lv_at hl 0 rfl) ?_
              refine lv_iconst (v := -1) hx hb dX4_gets_75 (by decide) ?_
              refine r_icmp_eqP hx hb (x := o) (by intro j9 h9; have := ho _ h9; omega) (tgt := 189) dX4_gets_76 (by decide) (fun c76 => ?_) (fun j76 c76 => ?_)
              · have hl := lv_re (f := fun z9 => [(7, .int z9), (6, .int (bI (gtC dc pa i j n d k (gtS dc pa i j n d mk k).2))), (5, .int (nI k)), (4, .int (nI w)), (0, .ref (g 0)), (1, .int (nI i)), (2, .int (nI j)), (3, .int (nI d))]) hl (show eP o = eP none from congrArg eP c76)
                have e189 : (w, x) = gtS dc pa i j n d mk (k + 1) := by first | (rw [if_neg (by rw [c81]; decide)] at hq; exact hq) | (rw [c76, lm_none, ite_self] at hq; exact hq)
                refine lv_iinc (v := nI (k + 1)) (lv' := [(5, .int (nI (k + 1))), (7, .int (eP none)), (6, .int (bI (gtC dc pa i j n d k (gtS dc pa i j n d mk k).2))), (4, .int (nI w)), (0, .ref (g 0)), (1, .int (nI i)), (2, .int (nI j)), (3, .int (nI d))]) hx hb dX4_gets_189 hl (k := 2) rfl (nI_1 _) (by decide) rfl (fun ls hl => ?_)
                refine lv_goto (tgt := 6) hx hb dX4_gets_192 (by decide) ?_
                have hl := lv_re (f := fun z9 => [(5, .int (nI (k + 1))), (7, .int (eP none)), (6, .int (bI (gtC dc pa i j n d k (gtS dc pa i j n d mk k).2))), (4, .int z9), (0, .ref (g 0)), (1, .int (nI i)), (2, .int (nI j)), (3, .int (nI d))]) hl (show nI w = nI ((gtS dc pa i j n d mk (k + 1)).1) from congrArg nI (show w = ((gtS dc pa i j n d mk (k + 1)).1) from congrArg Prod.fst e189))
                have e9 : x = ((gtS dc pa i j n d mk (k + 1)).2) := congrArg Prod.snd e189
                have hP := (congrArg (fun z9 => va_P D vwCl (wM ct g n dc pa va dl ge su z9 dp sq tc kp la) H) e9).mp hP
                have hD := (congrArg (fun z9 => va_D A (wM ct g n dc pa va dl ge su z9 dp sq tc kp la)) e9).mp hD
                have hP : va_P D vwCl (wM ct g n dc pa va dl ge su ((gtS dc pa i j n d mk (k + 1)).2) dp sq tc kp la) H := hP
                have hD : va_D A (wM ct g n dc pa va dl ge su ((gtS dc pa i j n d mk (k + 1)).2) dp sq tc kp la) := hD
                exact ih6 (k + 1) (by first | assumption | omega) (by omega) H locs ls hP hD hS (lv_sub hl [0, 3, 4, 5, 6, 7] rfl)
              · have hl := lv_re (f := fun z9 => [(7, .int z9), (6, .int (bI (gtC dc pa i j n d k (gtS dc pa i j n d mk k).2))), (5, .int (nI k)), (4, .int (nI w)), (0, .ref (g 0)), (1, .int (nI i)), (2, .int (nI j)), (3, .int (nI d))]) hl (show eP o = nI j76 from congrArg eP c76)
                have e84 := ho _ c76
                have e85 := hf _ c76
                refine lv_iload hx hb dX4_gets_79 (lv_at hl 1 rfl) ?_
                refine r_if_eqB (x := gtC dc pa i j n d k (gtS dc pa i j n d mk k).2) (tgt := 189) hx hb dX4_gets_81 (by decide) (fun c81 => ?_) (fun c81 => ?_)
                · have e189 : (w, x) = gtS dc pa i j n d mk (k + 1) := by first | (rw [if_neg (by rw [c81]; decide)] at hq; exact hq) | (rw [c76, lm_none, ite_self] at hq; exact hq)
                  refine lv_iinc (v := nI (k + 1)) (lv' := [(5, .int (nI (k + 1))), (7, .int (nI j76)), (6, .int (bI (gtC dc pa i j n d k (gtS dc pa i j n d mk k).2))), (4, .int (nI w)), (0, .ref (g 0)), (1, .int (nI i)), (2, .int (nI j)), (3, .int (nI d))]) hx hb dX4_gets_189 hl (k := 2) rfl (nI_1 _) (by decide) rfl (fun ls hl => ?_)
                  refine lv_goto (tgt := 6) hx hb dX4_gets_192 (by decide) ?_
                  have hl := lv_re (f := fun z9 => [(5, .int (nI (k + 1))), (7, .int (nI j76)), (6, .int (bI (gtC dc pa i j n d k (gtS dc pa i j n d mk k).2))), (4, .int z9), (0, .ref (g 0)), (1, .int (nI i)), (2, .int (nI j)), (3, .int (nI d))]) hl (show nI w = nI ((gtS dc pa i j n d mk (k + 1)).1) from congrArg nI (show w = ((gtS dc pa i j n d mk (k + 1)).1) from congrArg Prod.fst e189))
                  have e9 : x = ((gtS dc pa i j n d mk (k + 1)).2) := congrArg Prod.snd e189
                  have hP := (congrArg (fun z9 => va_P D vwCl (wM ct g n dc pa va dl ge su z9 dp sq tc kp la) H) e9).mp hP
                  have hD := (congrArg (fun z9 => va_D A (wM ct g n dc pa va dl ge su z9 dp sq tc kp la)) e9).mp hD
                  have hP : va_P D vwCl (wM ct g n dc pa va dl ge su ((gtS dc pa i j n d mk (k + 1)).2) dp sq tc kp la) H := hP
                  have hD : va_D A (wM ct g n dc pa va dl ge su ((gtS dc pa i j n d mk (k + 1)).2) dp sq tc kp la) := hD
                  exact ih6 (k + 1) (by first | assumption | omega) (by omega) H locs ls hP hD hS (lv_sub hl [0, 3, 4, 5, 6, 7] rfl)
                · have jn121 : ∀ (H : Heap) (locs : List Loc) (ls : Array Slot), va_P D vwCl (wM ct g n dc pa va dl ge su x dp sq tc kp la) H → va_D A (wM ct g n dc pa va dl ge su x dp sq tc kp la) → va_S A s.heap H locs → lv_has ls 9 [(7, .int (nI j76)), (6, .int (bI (gtC dc pa i j n d k (gtS dc pa i j n d mk k).2))), (5, .int (nI k)), (4, .int (nI w)), (0, .ref (g 0)), (1, .int (nI i)), (2, .int (nI j)), (3, .int (nI d))] → W p l e ({ frames := 5, cells := 0, slots := 0, locals := 116 } : Room) s m ([.ref (g 0), .int (nI i), .int (nI j), .int (nI d)] : List Value).toArray below meth c H locs 0 0 (MQ below (wqI D (nI ((gtS dc pa i j n d mk n).1)) (wM ct g n dc pa va dl ge su (if 0 < (gtS dc pa i j n d mk n).1 then (smS pa ge dp j n (gtS dc pa i j n d mk n).2 n).2 else (gtS dc pa i j n d mk n).2) dp (if 0 < (gtS dc pa i j n d mk n).1 then va_up sq j (sq j + nI 1) else sq) (if 0 < (gtS dc pa i j n d mk n).1 then va_up tc ((4 * j) + d) (sq j + nI 1) else tc) kp la) A) ([.ref (g 0), .int (nI i), .int (nI j), .int (nI d)] : List Value).toArray s 0 0 A) (F0 m 121 ls [.int (bI (x ((150 * i) + j76) && !x ((150 * j) + j76)))]) := by
                    intro H locs ls hP hD hS hl
                    refine lv_istore (lv' := [(8, .int (bI (x ((150 * i) + j76) && !x ((150 * j) + j76)))), (7, .int (nI j76)), (6, .int (bI (gtC dc pa i j n d k (gtS dc pa i j n d mk k).2))), (5, .int (nI k)), (4, .int (nI w)), (0, .ref (g 0)), (1, .int (nI i)), (2, .int (nI j)), (3, .int (nI d))]) hx hb dX4_gets_121 hl (by decide) rfl (fun ls hl => ?_)
                    have jn161 : ∀ (H : Heap) (locs : List Loc) (ls : Array Slot), va_P D vwCl (wM ct g n dc pa va dl ge su x dp sq tc kp la) H → va_D A (wM ct g n dc pa va dl ge su x dp sq tc kp la) → va_S A s.heap H locs → lv_has ls 9 [(8, .int (bI (x ((150 * i) + j76) && !x ((150 * j) + j76)))), (7, .int (nI j76)), (6, .int (bI (gtC dc pa i j n d k (gtS dc pa i j n d mk k).2))), (5, .int (nI k)), (4, .int (nI w)), (0, .ref (g 0)), (1, .int (nI i)), (2, .int (nI j)), (3, .int (nI d))] → W p l e ({ frames := 5, cells := 0, slots := 0, locals := 116 } : Room) s m ([.ref (g 0), .int (nI i), .int (nI j), .int (nI d)] : List Value).toArray below meth c H locs 0 0 (MQ below (wqI D (nI ((gtS dc pa i j n d mk n).1)) (wM ct g n dc pa va dl ge su (if 0 < (gtS dc pa i j n d mk n).1 then (smS pa ge dp j n (gtS dc pa i j n d mk n).2 n).2 else (gtS dc pa i j n d mk n).2) dp (if 0 < (gtS dc pa i j n d mk n).1 then va_up sq j (sq j + nI 1) else sq) (if 0 < (gtS dc pa i j n d mk n).1 then va_up tc ((4 * j) + d) (sq j + nI 1) else tc) kp la) A) ([.ref (g 0), .int (nI i), .int (nI j), .int (nI d)] : List Value).toArray s 0 0 A) (F0 m 161 ls [.int (bI ((x ((150 * i) + j76) && !x ((150 * j) + j76)) || x ((150 * j) + j76))), .int (nI ((150 * j) + j76)), .ref (g 7)]) := by
                      intro H locs ls hP hD hS hl
                      refine r_zast (j := (150 * j) + j76) (x := ((x ((150 * i) + j76) && !x ((150 * j) + j76)) || x ((150 * j) + j76))) (f' := fun q9 => bI ((va_up x ((150 * j) + j76) ((x ((150 * i) + j76) && !x ((150 * j) + j76)) || x ((150 * j) + j76))) q9)) hx hb hK.1 hP hD hS 7 1 rfl rfl (by omega) (by first | decide | omega) (up_b _ _ _) dX4_gets_161 (fun H locs hP hD hS => ?_)
                      have hP : va_P D vwCl (wM ct g n dc pa va dl ge su (va_up x ((150 * j) + j76) ((x ((150 * i) + j76) && !x ((150 * j) + j76)) || x ((150 * j) + j76))) dp sq tc kp la) H := hP
                      have hD : va_D A (wM ct g n dc pa va dl ge su (va_up x ((150 * j) + j76) ((x ((150 * i) + j76) && !x ((150 * j) + j76)) || x ((150 * j) + j76))) dp sq tc kp la) := hD
                      have jn174 : ∀ (H : Heap) (locs : List Loc) (ls : Array Slot), va_P D vwCl (wM ct g n dc pa va dl ge su (va_up x ((150 * j) + j76) ((x ((150 * i) + j76) && !x ((150 * j) + j76)) || x ((150 * j) + j76))) dp sq tc kp la) H → va_D A (wM ct g n dc pa va dl ge su (va_up x ((150 * j) + j76) ((x ((150 * i) + j76) && !x ((150 * j) + j76)) || x ((150 * j) + j76))) dp sq tc kp la) → va_S A s.heap H locs → lv_has ls 9 [(8, .int (bI (x ((150 * i) + j76) && !x ((150 * j) + j76)))), (7, .int (nI j76)), (6, .int (bI (gtC dc pa i j n d k (gtS dc pa i j n d mk k).2))), (5, .int (nI k)), (4, .int (nI w)), (0, .ref (g 0)), (1, .int (nI i)), (2, .int (nI j)), (3, .int (nI d))] → W p l e ({ frames := 5, cells := 0, slots := 0, locals := 116 } : Room) s m ([.ref (g 0), .int (nI i), .int (nI j), .int (nI d)] : List Value).toArray below meth c H locs 0 0 (MQ below (wqI D (nI ((gtS dc pa i j n d mk n).1)) (wM ct g n dc pa va dl ge su (if 0 < (gtS dc pa i j n d mk n).1 then (smS pa ge dp j n (gtS dc pa i j n d mk n).2 n).2 else (gtS dc pa i j n d mk n).2) dp (if 0 < (gtS dc pa i j n d mk n).1 then va_up sq j (sq j + nI 1) else sq) (if 0 < (gtS dc pa i j n d mk n).1 then va_up tc ((4 * j) + d) (sq j + nI 1) else tc) kp la) A) ([.ref (g 0), .int (nI i), .int (nI j), .int (nI d)] : List Value).toArray s 0 0 A) (F0 m 174 ls [.int (nI (bN (x ((150 * i) + j76) && !x ((150 * j) + j76)))), .int (nI w)]) := by
                        intro H locs ls hP hD hS hl
                        refine r_iaddN hx hb dX4_gets_174 ?_
                        refine lv_istore (lv' := [(4, .int (nI (w + (bN (x ((150 * i) + j76) && !x ((150 * j) + j76)))))), (8, .int (bI (x ((150 * i) + j76) && !x ((150 * j) + j76)))), (7, .int (nI j76)), (6, .int (bI (gtC dc pa i j n d k (gtS dc pa i j n d mk k).2))), (5, .int (nI k)), (0, .ref (g 0)), (1, .int (nI i)), (2, .int (nI j)), (3, .int (nI d))]) hx hb dX4_gets_175 hl (by decide) rfl (fun ls hl => ?_)
                        refine lv_aload_n hx hb dX4_gets_177 rfl (lv_at hl 5 rfl) ?_
                        refine va_get (D := D) (ci := 4) (v := .ref (g 2)) (C := RX4) (T := TX4) (N := 13) hx hb hts (fun _ h => List.mem_cons_of_mem _ (List.mem_append_right _ h)) hown hK.1 hP 0 rfl rfl 1 (by decide) (hts (.fieldLink RX4 13 "RevisionStoresModel" "parents" "[I") (List.mem_of_getElem? (i := 4) rfl)) (fun _ h9 => h9) rfl dX4_gets_178 ?_
                        refine lv_iload hx hb dX4_gets_181 (lv_at hl 2 rfl) ?_
                        refine r_iald (j := j76) (v := eP (pa j76)) hx hb hK.1 hP 2 0 rfl rfl (by omega) (by first | decide | omega) rfl dX4_gets_183 ?_
                        refine lv_istore (lv' := [(7, .int (eP (pa j76))), (4, .int (nI (w + (bN (x ((150 * i) + j76) && !x ((150 * j) + j76)))))), (8, .int (bI (x ((150 * i) + j76) && !x ((150 * j) + j76)))), (6, .int (bI (gtC dc pa i j n d k (gtS dc pa i j n d mk k).2))), (5, .int (nI k)), (0, .ref (g 0)), (1, .int (nI i)), (2, .int (nI j)), (3, .int (nI d))]) hx hb dX4_gets_184 hl (by decide) rfl (fun ls hl => ?_)
                        refine lv_goto (tgt := 73) hx hb dX4_gets_186 (by decide) ?_
                        have hP : va_P D vwCl (wM ct g n dc pa va dl ge su (va_up x ((150 * j) + j76) ((x ((150 * i) + j76) && !x ((150 * j) + j76)) || x ((150 * j) + j76))) dp sq tc kp la) H := hP
                        have hD : va_D A (wM ct g n dc pa va dl ge su (va_up x ((150 * j) + j76) ((x ((150 * i) + j76) && !x ((150 * j) + j76)) || x ((150 * j) + j76))) dp sq tc kp la) := hD
                        exact ih73 (pa j76) (w + (bN (x ((150 * i) + j76) && !x ((150 * j) + j76)))) (va_up x ((150 * j) + j76) ((x ((150 * i) + j76) && !x ((150 * j) + j76)) || x ((150 * j) + j76))) (f - 1) (by intro j9 h9; have := hTp _ _ e84 h9; omega) (by intro j9 h9; have := hTp _ _ e84 h9; omega) (by obtain ⟨q, rfl⟩ : ∃ q, f = q + 1 := ⟨f - 1, by omega⟩; rw [c76, if_pos c81] at hq; rw [if_pos c81]; exact hq) (by omega) H locs ls hP hD hS (lv_sub hl [0, 3, 4, 1, 5, 6, 7, 8] rfl)
                      refine lv_iload hx hb dX4_gets_162 (lv_at hl 4 rfl) ?_
                      refine lv_iload hx hb dX4_gets_164 (lv_at hl 0 rfl) ?_
                      refine r_if_eqB (x := (x ((150 * i) + j76) && !x ((150 * j) + j76))) (tgt := 173) hx hb dX4_gets_166 (by decide) (fun c166 => ?_) (fun c166 => ?_)
                      · refine lv_iconst (v := nI 0) hx hb dX4_gets_173 (by decide) ?_
                        refine r_top (y := nI (bN (x ((150 * i) + j76) && !x ((150 * j) + j76)))) (congrArg nI (show 0 = (bN (x ((150 * i) + j76) && !x ((150 * j) + j76))) from by simp [bN, c12, c76, c81, c166])) ?_
                        exact jn174 H locs ls hP hD hS (lv_sub hl [0, 1, 2, 3, 4, 5, 6, 7, 8] rfl)
                      · refine lv_iconst (v := nI 1) hx hb dX4_gets_169 (by decide) ?_
                        refine lv_goto (tgt := 174) hx hb dX4_gets_170 (by decide) ?_
                        refine r_top (y := nI (bN (x ((150 * i) + j76) && !x ((150 * j) + j76)))) (congrArg nI (show 1 = (bN (x ((150 * i) + j76) && !x ((150 * j) + j76))) from by simp [bN, c12, c76, c81, c166])) ?_
                        exact jn174 H locs ls hP hD hS (lv_sub hl [0, 1, 2, 3, 4, 5, 6, 7, 8] rfl)
                    refine lv_aload_n hx hb dX4_gets_123 rfl (lv_at hl 5 rfl) ?_
                    refine va_get (D := D) (ci := 4) (v := .ref (g 7)) (C := RX4) (T := TX4) (N := 13) hx hb hts (fun _ h => List.mem_cons_of_mem _ (List.mem_append_right _ h)) hown hK.1 hP 0 rfl rfl 7 (by decide) (hts (.fieldLink RX4 29 "RevisionStoresModel" "marks" "[Z") (List.mem_of_getElem? (i := 3) rfl)) (fun _ h9 => h9) rfl dX4_gets_124 ?_
                    refine lv_sipush (v := nI 150) hx hb dX4_gets_127 (by decide) ?_
                    refine lv_iload_n hx hb dX4_gets_130 rfl (lv_at hl 7 rfl) ?_
                    refine r_imulN hx hb dX4_gets_131 ?_
                    refine lv_iload hx hb dX4_gets_132 (lv_at hl 1 rfl) ?_
                    refine r_iaddN hx hb dX4_gets_134 ?_
                    refine lv_iload hx hb dX4_gets_135 (lv_at hl 0 rfl) ?_
                    refine r_if_neB (x := (x ((150 * i) + j76) && !x ((150 * j) + j76))) (tgt := 156) hx hb dX4_gets_137 (by decide) (fun c137 => ?_) (fun c137 => ?_)
                    · refine lv_iconst (v := nI 1) hx hb dX4_gets_156 (by decide) ?_
                      refine lv_goto (tgt := 161) hx hb dX4_gets_157 (by decide) ?_
                      refine r_top (y := bI ((x ((150 * i) + j76) && !x ((150 * j) + j76)) || x ((150 * j) + j76))) (congrArg bI (show true = ((x ((150 * i) + j76) && !x ((150 * j) + j76)) || x ((150 * j) + j76)) from by first | (rw [c137, c153]; rfl) | (simp [c12, c76, c81, c137]; done))) ?_
                      exact jn161 H locs ls hP hD hS (lv_sub hl [0, 1, 2, 3, 4, 5, 6, 7, 8] rfl)
                    · refine lv_aload_n hx hb dX4_gets_140 rfl (lv_at hl 5 rfl) ?_
                      refine va_get (D := D) (ci := 4) (v := .ref (g 7)) (C := RX4) (T := TX4) (N := 13) hx hb hts (fun _ h => List.mem_cons_of_mem _ (List.mem_append_right _ h)) hown hK.1 hP 0 rfl rfl 7 (by decide) (hts (.fieldLink RX4 29 "RevisionStoresModel" "marks" "[Z") (List.mem_of_getElem? (i := 3) rfl)) (fun _ h9 => h9) rfl dX4_gets_141 ?_
                      refine lv_sipush (v := nI 150) hx hb dX4_gets_144 (by decide) ?_
                      refine lv_iload_n hx hb dX4_gets_147 rfl (lv_at hl 7 rfl) ?_
                      refine r_imulN hx hb dX4_gets_148 ?_
                      refine lv_iload hx hb dX4_gets_149 (lv_at hl 1 rfl) ?_
                      refine r_iaddN hx hb dX4_gets_151 ?_
                      refine r_zald (j := (150 * j) + j76) (v := bI (x ((150 * j) + j76))) hx hb hK.1 hP 7 1 rfl rfl (by omega) (by first | decide | omega) rfl dX4_gets_152 ?_
                      refine r_if_eqB (x := x ((150 * j) + j76)) (tgt := 160) hx hb dX4_gets_153 (by decide) (fun c153 => ?_) (fun c153 => ?_)
                      · refine lv_iconst (v := nI 0) hx hb dX4_gets_160 (by decide) ?_
                        refine r_top (y := bI ((x ((150 * i) + j76) && !x ((150 * j) + j76)) || x ((150 * j) + j76))) (congrArg bI (show false = ((x ((150 * i) + j76) && !x ((150 * j) + j76)) || x ((150 * j) + j76)) from by first | (rw [c137, c153]; rfl) | (simp [c12, c76, c81, c137, c153]; done))) ?_
                        exact jn161 H locs ls hP hD hS (lv_sub hl [0, 1, 2, 3, 4, 5, 6, 7, 8] rfl)
                      · refine lv_iconst (v := nI 1) hx hb dX4_gets_156 (by decide) ?_
                        refine lv_goto (tgt := 161) hx hb dX4_gets_157 (by decide) ?_
                        refine r_top (y := bI ((x ((150 * i) + j76) && !x ((150 * j) + j76)) || x ((150 * j) + j76))) (congrArg bI (show true = ((x ((150 * i) + j76) && !x ((150 * j) + j76)) || x ((150 * j) + j76)) from by first | (rw [c137, c153]; rfl) | (simp [c12, c76, c81, c137, c153]; done))) ?_
                        exact jn161 H locs ls hP hD hS (lv_sub hl [0, 1, 2, 3, 4, 5, 6, 7, 8] rfl)
                  refine lv_aload_n hx hb dX4_gets_84 rfl (lv_at hl 4 rfl) ?_
                  refine va_get (D := D) (ci := 4) (v := .ref (g 7)) (C := RX4) (T := TX4) (N := 13) hx hb hts (fun _ h => List.mem_cons_of_mem _ (List.mem_append_right _ h)) hown hK.1 hP 0 rfl rfl 7 (by decide) (hts (.fieldLink RX4 29 "RevisionStoresModel" "marks" "[Z") (List.mem_of_getElem? (i := 3) rfl)) (fun _ h9 => h9) rfl dX4_gets_85 ?_
                  refine lv_sipush (v := nI 150) hx hb dX4_gets_88 (by decide) ?_
                  refine lv_iload_n hx hb dX4_gets_91 rfl (lv_at hl 5 rfl) ?_
                  refine r_imulN hx hb dX4_gets_92 ?_
                  refine lv_iload hx hb dX4_gets_93 (lv_at hl 0 rfl) ?_
                  refine r_iaddN hx hb dX4_gets_95 ?_
                  refine r_zald (j := (150 * i) + j76) (v := bI (x ((150 * i) + j76))) hx hb hK.1 hP 7 1 rfl rfl (by omega) (by first | decide | omega) rfl dX4_gets_96 ?_
                  refine r_if_eqB (x := x ((150 * i) + j76)) (tgt := 120) hx hb dX4_gets_97 (by decide) (fun c97 => ?_) (fun c97 => ?_)
                  · refine lv_iconst (v := nI 0) hx hb dX4_gets_120 (by decide) ?_
                    refine r_top (y := bI (x ((150 * i) + j76) && !x ((150 * j) + j76))) (congrArg bI (show false = (x ((150 * i) + j76) && !x ((150 * j) + j76)) from by simp [c12, c76, c81, c97])) ?_
                    exact jn121 H locs ls hP hD hS (lv_sub hl [0, 1, 2, 3, 4, 5, 6, 7] rfl)
                  · refine lv_aload_n hx hb dX4_gets_100 rfl (lv_at hl 4 rfl) ?_
                    refine va_get (D := D) (ci := 4) (v := .ref (g 7)) (C := RX4) (T := TX4) (N := 13) hx hb hts (fun _ h => List.mem_cons_of_mem _ (List.mem_append_right _ h)) hown hK.1 hP 0 rfl rfl 7 (by decide) (hts (.fieldLink RX4 29 "RevisionStoresModel" "marks" "[Z") (List.mem_of_getElem? (i := 3) rfl)) (fun _ h9 => h9) rfl dX4_gets_101 ?_
                    refine lv_sipush (v := nI 150) hx hb dX4_gets_104 (by decide) ?_
                    refine lv_iload_n hx hb dX4_gets_107 rfl (lv_at hl 6 rfl) ?_
                    refine r_imulN hx hb dX4_gets_108 ?_
                    refine lv_iload hx hb dX4_gets_109 (lv_at hl 0 rfl) ?_
                    refine r_iaddN hx hb dX4_gets_111 ?_
                    refine r_zald (j := (150 * j) + j76) (v := bI (x ((150 * j) + j76))) hx hb hK.1 hP 7 1 rfl rfl (by omega) (by first | decide | omega) rfl dX4_gets_112 ?_
                    refine r_if_neB (x := x ((150 * j) + j76)) (tgt := 120) hx hb dX4_gets_113 (by decide) (fun c113 => ?_) (fun c113 => ?_)
                    · refine lv_iconst (v := nI 0) hx hb dX4_gets_120 (by decide) ?_
                      refine r_top (y := bI (x ((150 * i) + j76) && !x ((150 * j) + j76))) (congrArg bI (show false = (x ((150 * i) + j76) && !x ((150 * j) + j76)) from by simp [c12, c76, c81, c97, c113])) ?_
                      exact jn121 H locs ls hP hD hS (lv_sub hl [0, 1, 2, 3, 4, 5, 6, 7] rfl)
                    · refine lv_iconst (v := nI 1) hx hb dX4_gets_116 (by decide) ?_
                      refine lv_goto (tgt := 121) hx hb dX4_gets_117 (by decide) ?_
                      refine r_top (y := bI (x ((150 * i) + j76) && !x ((150 * j) + j76))) (congrArg bI (show true = (x ((150 * i) + j76) && !x ((150 * j) + j76)) from by simp [c12, c76, c81, c97, c113])) ?_
                      exact jn121 H locs ls hP hD hS (lv_sub hl [0, 1, 2, 3, 4, 5, 6, 7] rfl)
          have hP : va_P D vwCl (wM ct g n dc pa va dl ge su ((gtS dc pa i j n d mk k).2) dp sq tc kp la) H := hP
          have hD : va_D A (wM ct g n dc pa va dl ge su ((gtS dc pa i j n d mk k).2) dp sq tc kp la) := hD
          exact key73 (150 + 1) (some k) ((gtS dc pa i j n d mk k).1) ((gtS dc pa i j n d mk k).2) 150 (by intro j9 h9; cases h9; omega) (by intro j9 h9; cases h9; omega) (rfl) (Nat.lt_succ_self _) H locs ls hP hD hS (lv_sub hl [0, 1, 2, 3, 4, 5, 6, 7] rfl)
        refine lv_aload_n hx hb dX4_gets_15 rfl (lv_at hl 2 rfl) ?_
        refine va_get (D := D) (ci := 4) (v := .ref (g 1)) (C := RX4) (T := TX4) (N := 13) hx hb hts (fun _ h => List.mem_cons_of_mem _ (List.mem_append_right _ h)) hown hK.1 hP 0 rfl rfl 0 (by decide) (hts (.fieldLink RX4 7 "RevisionStoresModel" "documents" "[I") (List.mem_of_getElem? (i := 2) rfl)) (fun _ h9 => h9) rfl dX4_gets_16 ?_
        refine lv_iload hx hb dX4_gets_19 (lv_at hl 0 rfl) ?_
        refine r_iald (j := k) (v := nI (dc k)) hx hb hK.1 hP 1 0 rfl rfl (by omega) (by first | decide | omega) rfl dX4_gets_21 ?_
        have f21 := hTd k
        refine lv_iload_n hx hb dX4_gets_22 rfl (lv_at hl 5 rfl) ?_
        refine r_icmp_neN hx hb (x := dc k) (y := d) (by first | omega | decide) (by first | omega | decide) (tgt := 66) dX4_gets_23 (by decide) (fun c23 => ?_) (fun c23 => ?_)
        · refine lv_iconst (v := nI 0) hx hb dX4_gets_66 (by decide) ?_
          refine r_top (y := bI (gtC dc pa i j n d k (gtS dc pa i j n d mk k).2)) (congrArg bI (show false = (gtC dc pa i j n d k (gtS dc pa i j n d mk k).2) from by simp [gtC, c12, c23])) ?_
          exact jn67 H locs ls hP hD hS (lv_sub hl [0, 1, 2, 3, 4, 5] rfl)
        · refine lv_aload_n hx hb dX4_gets_26 rfl (lv_at hl 2 rfl) ?_
          refine lv_iload_n hx hb dX4_gets_27 rfl (lv_at hl 3 rfl) ?_
          refine lv_iload hx hb dX4_gets_28 (lv_at hl 0 rfl) ?_
          refine r_cV (As := [.int (nI i), .int (nI k)]) (rest := []) ⟨hx, hb, hml, hown, hts⟩ (cX4_leaf_ok l D ct g n dc pa va dl ge su ((gtS dc pa i j n d mk k).2) dp sq tc kp la i k (by first | assumption | omega) (by first | assumption | omega) (by first | assumption | omega) (by first | assumption | omega)) (cwV 2 hts gX4_gets_X4_leaf rfl rfl rfl (by decide +kernel) ⟨Nat.le_of_ble_eq_true rfl, Nat.le_of_ble_eq_true rfl⟩) hK (hP.sub (ws' := wM ct g n dc pa va dl ge su ((gtS dc pa i j n d mk k).2) dp sq tc kp la) [0, 1, 2, 3, 4, 5, 6, 7, 8, 9, 10, 11] rfl) 0 4 rfl rfl rfl hl.1 rfl (Nat.le_of_ble_eq_true rfl) dX4_gets_30 ⟨Nat.le_of_ble_eq_true rfl, Nat.le_of_ble_eq_true rfl⟩ ?_
          refine r_if_eqB (x := lef pa ((gtS dc pa i j n d mk k).2) i n k) (tgt := 66) hx hb dX4_gets_33 (by decide) (fun c33 => ?_) (fun c33 => ?_)
          · refine lv_iconst (v := nI 0) hx hb dX4_gets_66 (by decide) ?_
            refine r_top (y := bI (gtC dc pa i j n d k (gtS dc pa i j n d mk k).2)) (congrArg bI (show false = (gtC dc pa i j n d k (gtS dc pa i j n d mk k).2) from by simp [gtC, c12, c23, c33])) ?_
            exact jn67 H locs ls hP hD hS (lv_sub hl [0, 1, 2, 3, 4, 5] rfl)
          · refine lv_aload_n hx hb dX4_gets_36 rfl (lv_at hl 2 rfl) ?_
            refine va_get (D := D) (ci := 4) (v := .ref (g 7)) (C := RX4) (T := TX4) (N := 13) hx hb hts (fun _ h => List.mem_cons_of_mem _ (List.mem_append_right _ h)) hown hK.1 hP 0 rfl rfl 7 (by decide) (hts (.fieldLink RX4 29 "RevisionStoresModel" "marks" "[Z") (List.mem_of_getElem? (i := 3) rfl)) (fun _ h9 => h9) rfl dX4_gets_37 ?_
            refine lv_sipush (v := nI 150) hx hb dX4_gets_40 (by decide) ?_
            refine lv_iload_n hx hb dX4_gets_43 rfl (lv_at hl 4 rfl) ?_
            refine r_imulN hx hb dX4_gets_44 ?_
            refine lv_iload hx hb dX4_gets_45 (lv_at hl 0 rfl) ?_
            refine r_iaddN hx hb dX4_gets_47 ?_
            refine r_zald (j := (150 * j) + k) (v := bI (((gtS dc pa i j n d mk k).2) ((150 * j) + k))) hx hb hK.1 hP 7 1 rfl rfl (by omega) (by first | decide | omega) rfl dX4_gets_48 ?_
            refine r_if_neB (x := ((gtS dc pa i j n d mk k).2) ((150 * j) + k)) (tgt := 66) hx hb dX4_gets_49 (by decide) (fun c49 => ?_) (fun c49 => ?_)
            · refine lv_iconst (v := nI 0) hx hb dX4_gets_66 (by decide) ?_
              refine r_top (y := bI (gtC dc pa i j n d k (gtS dc pa i j n d mk k).2)) (congrArg bI (show false = (gtC dc pa i j n d k (gtS dc pa i j n d mk k).2) from by simp [gtC, c12, c23, c33, c49])) ?_
              exact jn67 H locs ls hP hD hS (lv_sub hl [0, 1, 2, 3, 4, 5] rfl)
            · refine lv_aload_n hx hb dX4_gets_52 rfl (lv_at hl 2 rfl) ?_
              refine lv_iload_n hx hb dX4_gets_53 rfl (lv_at hl 4 rfl) ?_
              refine lv_iload hx hb dX4_gets_54 (lv_at hl 0 rfl) ?_
              refine r_cV (As := [.int (nI j), .int (nI k)]) (rest := []) ⟨hx, hb, hml, hown, hts⟩ (cX4_hasDescendant_ok l D ct g n dc pa va dl ge su ((gtS dc pa i j n d mk k).2) dp sq tc kp la j k (by first | assumption | omega) (by first | assumption | omega) (by first | assumption | omega) (by first | assumption | omega)) (cwV 2 hts gX4_gets_X4_hasDescendant rfl rfl rfl (by decide +kernel) ⟨Nat.le_of_ble_eq_true rfl, Nat.le_of_ble_eq_true rfl⟩) hK (hP.sub (ws' := wM ct g n dc pa va dl ge su ((gtS dc pa i j n d mk k).2) dp sq tc kp la) [0, 1, 2, 3, 4, 5, 6, 7, 8, 9, 10, 11] rfl) 0 4 rfl rfl rfl hl.1 rfl (Nat.le_of_ble_eq_true rfl) dX4_gets_56 ⟨Nat.le_of_ble_eq_true rfl, Nat.le_of_ble_eq_true rfl⟩ ?_
              refine r_if_neB (x := any (hsP pa ((gtS dc pa i j n d mk k).2) j k) n) (tgt := 66) hx hb dX4_gets_59 (by decide) (fun c59 => ?_) (fun c59 => ?_)
              · refine lv_iconst (v := nI 0) hx hb dX4_gets_66 (by decide) ?_
                refine r_top (y := bI (gtC dc pa i j n d k (gtS dc pa i j n d mk k).2)) (congrArg bI (show false = (gtC dc pa i j n d k (gtS dc pa i j n d mk k).2) from by simp [gtC, c12, c23, c33, c49, c59])) ?_
                exact jn67 H locs ls hP hD hS (lv_sub hl [0, 1, 2, 3, 4, 5] rfl)
              · refine lv_iconst (v := nI 1) hx hb dX4_gets_62 (by decide) ?_
                refine lv_goto (tgt := 67) hx hb dX4_gets_63 (by decide) ?_
                refine r_top (y := bI (gtC dc pa i j n d k (gtS dc pa i j n d mk k).2)) (congrArg bI (show true = (gtC dc pa i j n d k (gtS dc pa i j n d mk k).2) from by simp [gtC, c12, c23, c33, c49, c59])) ?_
                exact jn67 H locs ls hP hD hS (lv_sub hl [0, 1, 2, 3, 4, 5] rfl)
  have hl := lv_re (f := fun z9 => [(5, .int (nI 0)), (4, .int z9), (0, .ref (g 0)), (1, .int (nI i)), (2, .int (nI j)), (3, .int (nI d))]) hl (show nI 0 = nI ((gtS dc pa i j n d mk 0).1) from congrArg nI (show 0 = ((gtS dc pa i j n d mk 0).1) from rfl))
  have e9 : mk = ((gtS dc pa i j n d mk 0).2) := rfl
  have hP := (congrArg (fun z9 => va_P D vwCl (wM ct g n dc pa va dl ge su z9 dp sq tc kp la) s.heap) e9).mp hP
  have hD := (congrArg (fun z9 => va_D A (wM ct g n dc pa va dl ge su z9 dp sq tc kp la)) e9).mp hD
  have hP : va_P D vwCl (wM ct g n dc pa va dl ge su ((gtS dc pa i j n d mk 0).2) dp sq tc kp la) s.heap := hP
  have hD : va_D A (wM ct g n dc pa va dl ge su ((gtS dc pa i j n d mk 0).2) dp sq tc kp la) := hD
  exact key6 ((n - 0) + 1) 0 (by first | assumption | omega) (Nat.lt_succ_self _) _ _ ls hP hD hS (lv_sub hl [0, 1, 2, 3, 4, 5] rfl)
