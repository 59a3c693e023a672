set_option maxHeartbeats 1000000 in
set_option maxRecDepth 100000 in
theorem cL_got_ok (l : Launch) (D : va_G) (ct : Nat → ClassId) (bd : Nat) (bg : Nat) (ba : Nat) (bt : Nat) (bq : Nat) (bm : Nat) (dc : Nat → Nat) (ge : Nat → Nat) (an : Nat → Nat → Bool) (S : Nat → Nat → Bool) (dp : Nat → Nat) (sq : Nat → Nat) (qq : Nat → Nat) (n : Nat) (i : Nat) (j : Nat) (d : Nat) (hn : n ≤ 24) (hTd : ∀ k, dc k < 4) (hTg : ∀ k, ge k ≤ 150) (hi : i < 3) (hj : j < 3) (hd4 : d < 4) (hdp : dp j ≤ 1000) (sz : Nat) : Met l yL_got wsL_got ({ frames := 3, cells := 0, slots := 0, locals := 86 } : Room) (wrPc D ct [.ref bd, .ref bg, .ref ba, .ref bt, .ref bq, .ref bm, .int (nI i), .int (nI j), .int (nI d)] (wAN ct bd 24 dc ++ wAN ct bg 24 ge ++ wAM ct ba 24 an ++ wAT ct bt S dp sq ++ wAN ct bq 12 qq ++ wA1 ct bm n) sz) (wqI D (nI (fct (gcm dc an n (S i) (S j) d n) 24)) (wAN ct bd 24 dc ++ wAN ct bg 24 ge ++ wAM ct ba 24 an ++ wAT ct bt (va_up S j (mNd (mOr (S j) (gcm dc an n (S i) (S j) d n)) (dpB dc an ge n (mOr (S j) (gcm dc an n (S i) (S j) d n)) (dp j)))) dp (va_up sq j (sq j + bN (any (gcm dc an n (S i) (S j) d n) 24))) ++ wAN ct bq 12 (va_up qq ((4 * j) + d) (if any (gcm dc an n (S i) (S j) d n) 24 = true then sq j + bN (any (gcm dc an n (S i) (S j) d n) 24) else qq ((4 * j) + d))) ++ wA1 ct bm n) (va_A (wAN ct bd 24 dc ++ wAN ct bg 24 ge ++ wAM ct ba 24 an ++ wAT ct bt S dp sq ++ wAN ct bq 12 qq ++ wA1 ct bm n) sz)) 0 0 (va_A (wAN ct bd 24 dc ++ wAN ct bg 24 ge ++ wAM ct ba 24 an ++ wAT ct bt S dp sq ++ wAN ct bq 12 qq ++ wA1 ct bm n) sz) := by
  refine Met.ofW (cc := cL_got) (maxL := 14) (ret := (some .int)) (by decide) rfl ?_
  intro p e s m args below meth c s₁ B hml hv
  obtain ⟨rfl, hsz, hP, hK, hD0⟩ := hv
  have hx := B.exec
  have hb := B.bytes
  have hr := B.returns
  have hts := atoms_spec (ws := wsL_got) B.pre
  have hown : s.vm.findClass RL = some m.cls := findClass_of_methodNamed B.named
  have hlocks := B.notSynchronized
  subst hsz
  have hD := hD0.self (sz := s.heap.size)
  generalize hAe : va_A (wAN ct bd 24 dc ++ wAN ct bg 24 ge ++ wAM ct ba 24 an ++ wAT ct bt S dp sq ++ wAN ct bq 12 qq ++ wA1 ct bm n) s.heap.size = A at hD ⊢
  have hA : ∀ q : Nat, s.heap.size ≤ q → A q := fun q h => by rw [← hAe]; exact Or.inr h
  have hS : va_S A s.heap s.heap [] := va_S.rf
  have hP : va_P D vwCl (wAN ct bd 24 dc ++ wAN ct bg 24 ge ++ wAM ct ba 24 an ++ wAT ct bt S dp sq ++ wAN ct bq 12 qq ++ wA1 ct bm n) s.heap := hP
  clear hAe hD0
  have hl := lv_entry ([.ref bd, .ref bg, .ref ba, .ref bt, .ref bq, .ref bm, .int (nI i), .int (nI j), .int (nI d)]) (n := 14) (Nat.le_of_ble_eq_true rfl)
  rw [lg_entry_eq]
  generalize (lg_sl ([.ref bd, .ref bg, .ref ba, .ref bt, .ref bq, .ref bm, .int (nI i), .int (nI j), .int (nI d)]) ++ List.replicate (14 - (lg_sl ([.ref bd, .ref bg, .ref ba, .ref bt, .ref bq, .ref bm, .int (nI i), .int (nI j), .int (nI d)])).length) Slot.unset).toArray = ls at hl ⊢
  have hl : lv_has ls 14 [(0, .ref bd), (1, .ref bg), (2, .ref ba), (3, .ref bt), (4, .ref bq), (5, .ref bm), (6, .int (nI i)), (7, .int (nI j)), (8, .int (nI d))] := hl
  have hH0 : s.heap.size ≤ s.heap.size := Nat.le_refl _
  refine lv_aload_n hx hb dL_got_0 rfl (lv_at hl 0 rfl) ?_
  refine lv_aload_n hx hb dL_got_1 rfl (lv_at hl 2 rfl) ?_
  refine lv_aload hx hb dL_got_2 (lv_at hl 5 rfl) ?_
  refine lv_aload_n hx hb dL_got_4 rfl (lv_at hl 3 rfl) ?_
  refine lv_iload hx hb dL_got_5 (lv_at hl 6 rfl) ?_
  refine r_iald (j := i) (v := mM (S i)) hx hb hK.1 hP 3 0 rfl rfl (by omega) (by first | decide | omega) (tF_S (by omega)) dL_got_7 ?_
  refine lv_iload hx hb dL_got_8 (lv_at hl 8 rfl) ?_
  refine r_cS (As := [.ref bd, .ref ba, .ref bm, .int (mM (S i)), .int (nI d)]) (rest := []) ⟨hx, hb, hml, hown, hts⟩ (cL_leaves_ok l D ct bd ba bm dc an n (S i) d (by first | assumption | omega) (by first | assumption | omega) (by first | assumption | omega)) (va_cwS 5 hts gL_got_L_leaves rfl rfl rfl (by decide +kernel) ⟨Nat.le_of_ble_eq_true rfl, Nat.le_of_ble_eq_true rfl⟩) hK (hP.sub (ws' := wAN ct bd 24 dc ++ wAM ct ba 24 an ++ wA1 ct bm n) [0, 2, 5] rfl) rfl hl.1 rfl (Nat.le_of_ble_eq_true rfl) dL_got_10 ⟨Nat.le_of_ble_eq_true rfl, Nat.le_of_ble_eq_true rfl⟩ ?_
  refine lv_istore (lv' := [(9, .int (mM (lfB dc an n (S i) d))), (0, .ref bd), (1, .ref bg), (2, .ref ba), (3, .ref bt), (4, .ref bq), (5, .ref bm), (6, .int (nI i)), (7, .int (nI j)), (8, .int (nI d))]) hx hb dL_got_13 hl (by decide) rfl (fun ls hl => ?_)
  refine lv_iconst (v := nI 0) hx hb dL_got_15 (by decide) ?_
  refine lv_istore (lv' := [(10, .int (nI 0)), (9, .int (mM (lfB dc an n (S i) d))), (0, .ref bd), (1, .ref bg), (2, .ref ba), (3, .ref bt), (4, .ref bq), (5, .ref bm), (6, .int (nI i)), (7, .int (nI j)), (8, .int (nI d))]) hx hb dL_got_16 hl (by decide) rfl (fun ls hl => ?_)
  refine lv_iconst (v := nI 0) hx hb dL_got_18 (by decide) ?_
  refine lv_istore (lv' := [(11, .int (nI 0)), (10, .int (nI 0)), (9, .int (mM (lfB dc an n (S i) d))), (0, .ref bd), (1, .ref bg), (2, .ref ba), (3, .ref bt), (4, .ref bq), (5, .ref bm), (6, .int (nI i)), (7, .int (nI j)), (8, .int (nI d))]) hx hb dL_got_19 hl (by decide) rfl (fun ls hl => ?_)
  have key21 : ∀ (d21 : Nat) (k : Nat) (hk : k ≤ n), n - k < d21 → ∀ (H : Heap) (locs : List Loc) (ls : Array Slot), va_P D vwCl (wAN ct bd 24 dc ++ wAN ct bg 24 ge ++ wAM ct ba 24 an ++ wAT ct bt S dp sq ++ wAN ct bq 12 qq ++ wA1 ct bm n) H → va_D A (wAN ct bd 24 dc ++ wAN ct bg 24 ge ++ wAM ct ba 24 an ++ wAT ct bt S dp sq ++ wAN ct bq 12 qq ++ wA1 ct bm n) → va_S A s.heap H locs → lv_has ls 14 [(11, .int (nI k)), (10, .int (mM (gcm dc an n (S i) (S j) d k))), (9, .int (mM (lfB dc an n (S i) d))), (0, .ref bd), (1, .ref bg), (2, .ref ba), (3, .ref bt), (4, .ref bq), (5, .ref bm), (6, .int (nI i)), (7, .int (nI j)), (8, .int (nI d))] → W p l e ({ frames := 3, cells := 0, slots := 0, locals := 86 } : Room) s m ([.ref bd, .ref bg, .ref ba, .ref bt, .ref bq, .ref bm, .int (nI i), .int (nI j), .int (nI d)] : List Value).toArray below meth c H locs 0 0 (MQ below (wqI D (nI (fct (gcm dc an n (S i) (S j) d n) 24)) (wAN ct bd 24 dc ++ wAN ct bg 24 ge ++ wAM ct ba 24 an ++ wAT ct bt (va_up S j (mNd (mOr (S j) (gcm dc an n (S i) (S j) d n)) (dpB dc an ge n (mOr (S j) (gcm dc an n (S i) (S j) d n)) (dp j)))) dp (va_up sq j (sq j + bN (any (gcm dc an n (S i) (S j) d n) 24))) ++ wAN ct bq 12 (va_up qq ((4 * j) + d) (if any (gcm dc an n (S i) (S j) d n) 24 = true then sq j + bN (any (gcm dc an n (S i) (S j) d n) 24) else qq ((4 * j) + d))) ++ wA1 ct bm n) A) ([.ref bd, .ref bg, .ref ba, .ref bt, .ref bq, .ref bm, .int (nI i), .int (nI j), .int (nI d)] : List Value).toArray s 0 0 A) (F0 m 21 ls []) := by
    intro d21
    induction d21 with
    | zero => intro k hk h9; exact absurd h9 (Nat.not_lt_zero _)
    | succ d21 ih21 =>
      intro k hk hm21 H locs ls hP hD hS hl
      refine lv_iload hx hb dL_got_21 (lv_at hl 0 rfl) ?_
      refine lv_aload hx hb dL_got_23 (lv_at hl 8 rfl) ?_
      refine lv_iconst (v := nI 0) hx hb dL_got_25 (by decide) ?_
      refine r_iald (j := 0) (v := nI n) hx hb hK.1 hP 5 0 rfl rfl (by omega) (by first | decide | omega) (rfl) dL_got_26 ?_
      refine r_icmp_geN hx hb (x := k) (y := n) (by first | omega | decide) (by first | omega | decide) (tgt := 163) dL_got_27 (by decide) (fun c27 => ?_) (fun c27 => ?_)
      · have hl := lv_re (f := fun z9 => [(11, .int (nI k)), (10, .int z9), (9, .int (mM (lfB dc an n (S i) d))), (0, .ref bd), (1, .ref bg), (2, .ref ba), (3, .ref bt), (4, .ref bq), (5, .ref bm), (6, .int (nI i)), (7, .int (nI j)), (8, .int (nI d))]) hl (show mM (gcm dc an n (S i) (S j) d k) = mM (gcm dc an n (S i) (S j) d n) from by rw [show k = n by omega])
        refine lv_aload_n hx hb dL_got_163 rfl (lv_at hl 6 rfl) ?_
        refine lv_iload hx hb dL_got_164 (lv_at hl 10 rfl) ?_
        refine lv_dup2_11 hx hb dL_got_166 rfl rfl ?_
        refine r_iald (j := j) (v := mM (S j)) hx hb hK.1 hP 3 0 rfl rfl (by omega) (by first | decide | omega) (tF_S (by omega)) dL_got_167 ?_
        refine lv_iload hx hb dL_got_168 (lv_at hl 1 rfl) ?_
        refine lv_ior hx hb dL_got_170 ?_
        refine r_top (y := mM (mOr (S j) (gcm dc an n (S i) (S j) d n))) (mM_or _ _) ?_
        refine r_iast (j := j) (x := (mM (mOr (S j) (gcm dc an n (S i) (S j) d n)))) (f' := tF (va_up S j (mOr (S j) (gcm dc an n (S i) (S j) d n))) dp sq) hx hb hK.1 hP hD hS 3 0 rfl rfl (by omega) (by decide) (tU_S (by omega)) dL_got_171 (fun H locs hP hD hS => ?_)
        have hP : va_P D vwCl (wAN ct bd 24 dc ++ wAN ct bg 24 ge ++ wAM ct ba 24 an ++ wAT ct bt (va_up S j (mOr (S j) (gcm dc an n (S i) (S j) d n))) dp sq ++ wAN ct bq 12 qq ++ wA1 ct bm n) H := hP
        have hD : va_D A (wAN ct bd 24 dc ++ wAN ct bg 24 ge ++ wAM ct ba 24 an ++ wAT ct bt (va_up S j (mOr (S j) (gcm dc an n (S i) (S j) d n))) dp sq ++ wAN ct bq 12 qq ++ wA1 ct bm n) := hD
        refine lv_aload_n hx hb dL_got_172 rfl (lv_at hl 6 rfl) ?_
        refine lv_bipush (v := nI 8) hx hb dL_got_173 (by decide) ?_
        refine lv_iload hx hb dL_got_175 (lv_at hl 10 rfl) ?_
        refine r_iaddN hx hb dL_got_177 ?_
        refine lv_dup2_11 hx hb dL_got_178 rfl rfl ?_
        refine r_iald (j := 8 + j) (v := nI (sq j)) hx hb hK.1 hP 3 0 rfl rfl (by omega) (by first | decide | omega) (tF_s) dL_got_179 ?_
        refine lv_iload hx hb dL_got_180 (lv_at hl 1 rfl) ?_
        refine r_if_neM (P := (gcm dc an n (S i) (S j) d n)) (tgt := 189) hx hb dL_got_182 (by decide) (fun c182 => ?_) (fun c182 => ?_)
        · refine lv_iconst (v := nI 1) hx hb dL_got_189 (by decide) ?_
          refine r_iaddN hx hb dL_got_190 ?_
          refine r_top (y := nI (sq j + bN (any (gcm dc an n (S i) (S j) d n) 24))) (congrArg nI (show ((sq j) + 1) = (sq j + bN (any (gcm dc an n (S i) (S j) d n) 24)) from by simp [bN, c27, c182])) ?_
          refine r_iast (j := 8 + j) (x := (nI (sq j + bN (any (gcm dc an n (S i) (S j) d n) 24)))) (f' := tF (va_up S j (mOr (S j) (gcm dc an n (S i) (S j) d n))) dp (va_up sq j (sq j + bN (any (gcm dc an n (S i) (S j) d n) 24)))) hx hb hK.1 hP hD hS 3 0 rfl rfl (by omega) (by decide) (tU_s) dL_got_191 (fun H locs hP hD hS => ?_)
          have hP : va_P D vwCl (wAN ct bd 24 dc ++ wAN ct bg 24 ge ++ wAM ct ba 24 an ++ wAT ct bt (va_up S j (mOr (S j) (gcm dc an n (S i) (S j) d n))) dp (va_up sq j (sq j + bN (any (gcm dc an n (S i) (S j) d n) 24))) ++ wAN ct bq 12 qq ++ wA1 ct bm n) H := hP
          have hD : va_D A (wAN ct bd 24 dc ++ wAN ct bg 24 ge ++ wAM ct ba 24 an ++ wAT ct bt (va_up S j (mOr (S j) (gcm dc an n (S i) (S j) d n))) dp (va_up sq j (sq j + bN (any (gcm dc an n (S i) (S j) d n) 24))) ++ wAN ct bq 12 qq ++ wA1 ct bm n) := hD
          refine lv_aload hx hb dL_got_192 (lv_at hl 7 rfl) ?_
          refine lv_iconst (v := nI 4) hx hb dL_got_194 (by decide) ?_
          refine lv_iload hx hb dL_got_195 (lv_at hl 10 rfl) ?_
          refine r_imulN hx hb dL_got_197 ?_
          refine lv_iload hx hb dL_got_198 (lv_at hl 11 rfl) ?_
          refine r_iaddN hx hb dL_got_200 ?_
          refine lv_iload hx hb dL_got_201 (lv_at hl 1 rfl) ?_
          refine r_if_neM (P := (gcm dc an n (S i) (S j) d n)) (tgt := 219) hx hb dL_got_203 (by decide) (fun c203 => ?_) (fun c203 => by rw [c182] at c203; cases c203)
          refine lv_aload_n hx hb dL_got_219 rfl (lv_at hl 6 rfl) ?_
          refine lv_bipush (v := nI 8) hx hb dL_got_220 (by decide) ?_
          refine lv_iload hx hb dL_got_222 (lv_at hl 10 rfl) ?_
          refine r_iaddN hx hb dL_got_224 ?_
          refine r_iald (j := 8 + j) (v := nI ((va_up sq j (sq j + bN (any (gcm dc an n (S i) (S j) d n) 24))) j)) hx hb hK.1 hP 3 0 rfl rfl (by omega) (by first | decide | omega) (tF_s) dL_got_225 ?_
          refine r_top (y := nI (if any (gcm dc an n (S i) (S j) d n) 24 = true then sq j + bN (any (gcm dc an n (S i) (S j) d n) 24) else qq ((4 * j) + d))) (congrArg nI (show ((va_up sq j (sq j + bN (any (gcm dc an n (S i) (S j) d n) 24))) j) = (if any (gcm dc an n (S i) (S j) d n) 24 = true then sq j + bN (any (gcm dc an n (S i) (S j) d n) 24) else qq ((4 * j) + d)) from by simp [bN, va_up, c27, c182, c203])) ?_
          refine r_iast (j := (4 * j) + d) (x := (nI (if any (gcm dc an n (S i) (S j) d n) 24 = true then sq j + bN (any (gcm dc an n (S i) (S j) d n) 24) else qq ((4 * j) + d)))) (f' := fun q9 => nI ((va_up qq ((4 * j) + d) (if any (gcm dc an n (S i) (S j) d n) 24 = true then sq j + bN (any (gcm dc an n (S i) (S j) d n) 24) else qq ((4 * j) + d))) q9)) hx hb hK.1 hP hD hS 4 0 rfl rfl (by omega) (by first | decide | omega) (up_n _ _ _) dL_got_226 (fun H locs hP hD hS => ?_)
          have hP : va_P D vwCl (wAN ct bd 24 dc ++ wAN ct bg 24 ge ++ wAM ct ba 24 an ++ wAT ct bt (va_up S j (mOr (S j) (gcm dc an n (S i) (S j) d n))) dp (va_up sq j (sq j + bN (any (gcm dc an n (S i) (S j) d n) 24))) ++ wAN ct bq 12 (va_up qq ((4 * j) + d) (if any (gcm dc an n (S i) (S j) d n) 24 = true then sq j + bN (any (gcm dc an n (S i) (S j) d n) 24) else qq ((4 * j) + d))) ++ wA1 ct bm n) H := hP
          have hD : va_D A (wAN ct bd 24 dc ++ wAN ct bg 24 ge ++ wAM ct ba 24 an ++ wAT ct bt (va_up S j (mOr (S j) (gcm dc an n (S i) (S j) d n))) dp (va_up sq j (sq j + bN (any (gcm dc an n (S i) (S j) d n) 24))) ++ wAN ct bq 12 (va_up qq ((4 * j) + d) (if any (gcm dc an n (S i) (S j) d n) 24 = true then sq j + bN (any (gcm dc an n (S i) (S j) d n) 24) else qq ((4 * j) + d))) ++ wA1 ct bm n) := hD
          refine lv_aload_n hx hb dL_got_227 rfl (lv_at hl 3 rfl) ?_
          refine lv_aload_n hx hb dL_got_228 rfl (lv_at hl 4 rfl) ?_
          refine lv_aload_n hx hb dL_got_229 rfl (lv_at hl 5 rfl) ?_
          refine lv_aload_n hx hb dL_got_230 rfl (lv_at hl 6 rfl) ?_
          refine lv_aload hx hb dL_got_231 (lv_at hl 8 rfl) ?_
          refine lv_iload hx hb dL_got_233 (lv_at hl 10 rfl) ?_
          refine r_wSi (As := [.ref bd, .ref bg, .ref ba, .ref bt, .ref bm, .int (nI j)]) (rest := []) ⟨hx, hb, hml, hown, hts⟩ (cL_stem_ok l D ct bd bg ba bt bm dc ge an (va_up S j (mOr (S j) (gcm dc an n (S i) (S j) d n))) dp (va_up sq j (sq j + bN (any (gcm dc an n (S i) (S j) d n) 24))) n j (by first | assumption | omega) (by first | assumption | omega) (by first | assumption | omega) (by first | assumption | omega) (by first | assumption | omega) H.size) (va_cwS 6 hts gL_got_L_stem rfl rfl rfl (by decide +kernel) ⟨Nat.le_of_ble_eq_true rfl, Nat.le_of_ble_eq_true rfl⟩) hK hP hD hS hA [0, 1, 2, 3, 5] rfl rfl rfl rfl hl.1 rfl (Nat.le_of_ble_eq_true rfl) dL_got_235 ⟨Nat.le_of_ble_eq_true rfl, Nat.le_of_ble_eq_true rfl⟩ (fun H locs hP hD hS => ?_)
          have hP : va_P D vwCl (wAN ct bd 24 dc ++ wAN ct bg 24 ge ++ wAM ct ba 24 an ++ wAT ct bt (va_up (va_up S j (mOr (S j) (gcm dc an n (S i) (S j) d n))) j (mNd ((va_up S j (mOr (S j) (gcm dc an n (S i) (S j) d n))) j) (dpB dc an ge n ((va_up S j (mOr (S j) (gcm dc an n (S i) (S j) d n))) j) (dp j)))) dp (va_up sq j (sq j + bN (any (gcm dc an n (S i) (S j) d n) 24))) ++ wAN ct bq 12 (va_up qq ((4 * j) + d) (if any (gcm dc an n (S i) (S j) d n) 24 = true then sq j + bN (any (gcm dc an n (S i) (S j) d n) 24) else qq ((4 * j) + d))) ++ wA1 ct bm n) H := hP
          have hD : va_D A (wAN ct bd 24 dc ++ wAN ct bg 24 ge ++ wAM ct ba 24 an ++ wAT ct bt (va_up (va_up S j (mOr (S j) (gcm dc an n (S i) (S j) d n))) j (mNd ((va_up S j (mOr (S j) (gcm dc an n (S i) (S j) d n))) j) (dpB dc an ge n ((va_up S j (mOr (S j) (gcm dc an n (S i) (S j) d n))) j) (dp j)))) dp (va_up sq j (sq j + bN (any (gcm dc an n (S i) (S j) d n) 24))) ++ wAN ct bq 12 (va_up qq ((4 * j) + d) (if any (gcm dc an n (S i) (S j) d n) 24 = true then sq j + bN (any (gcm dc an n (S i) (S j) d n) 24) else qq ((4 * j) + d))) ++ wA1 ct bm n) := hD
          refine lv_if_ge (x := nI (fct (dpB dc an ge n ((va_up S j (mOr (S j) (gcm dc an n (S i) (S j) d n))) j) (dp j)) 24)) (tgt := 245) hx hb dL_got_238 (by decide) (fun _ => ?_) (fun h => absurd (nI_pos' (Nat.lt_of_le_of_lt (fct_le _ _) (by decide))) h)
          refine lv_iload hx hb dL_got_245 (lv_at hl 1 rfl) ?_
          refine r_cS (As := [.int (mM (gcm dc an n (S i) (S j) d n))]) (rest := []) ⟨hx, hb, hml, hown, hts⟩ (cL_ones_ok l D ct (gcm dc an n (S i) (S j) d n) ) (va_cwS 1 hts gL_got_L_ones rfl rfl rfl (by decide +kernel) ⟨Nat.le_of_ble_eq_true rfl, Nat.le_of_ble_eq_true rfl⟩) hK va_Pnil rfl hl.1 rfl (Nat.le_of_ble_eq_true rfl) dL_got_247 ⟨Nat.le_of_ble_eq_true rfl, Nat.le_of_ble_eq_true rfl⟩ ?_
          have e9 : (va_up (va_up S j (mOr (S j) (gcm dc an n (S i) (S j) d n))) j (mNd ((va_up S j (mOr (S j) (gcm dc an n (S i) (S j) d n))) j) (dpB dc an ge n ((va_up S j (mOr (S j) (gcm dc an n (S i) (S j) d n))) j) (dp j)))) = (va_up S j (mNd (mOr (S j) (gcm dc an n (S i) (S j) d n)) (dpB dc an ge n (mOr (S j) (gcm dc an n (S i) (S j) d n)) (dp j)))) := by rw [up_s, up_up]
          have hP := (congrArg (fun z9 => va_P D vwCl (wAN ct bd 24 dc ++ wAN ct bg 24 ge ++ wAM ct ba 24 an ++ wAT ct bt z9 dp (va_up sq j (sq j + bN (any (gcm dc an n (S i) (S j) d n) 24))) ++ wAN ct bq 12 (va_up qq ((4 * j) + d) (if any (gcm dc an n (S i) (S j) d n) 24 = true then sq j + bN (any (gcm dc an n (S i) (S j) d n) 24) else qq ((4 * j) + d))) ++ wA1 ct bm n) H) e9).mp hP
          have hP : va_P D vwCl (wAN ct bd 24 dc ++ wAN ct bg 24 ge ++ wAM ct ba 24 an ++ wAT ct bt (va_up S j (mNd (mOr (S j) (gcm dc an n (S i) (S j) d n)) (dpB dc an ge n (mOr (S j) (gcm dc an n (S i) (S j) d n)) (dp j)))) dp (va_up sq j (sq j + bN (any (gcm dc an n (S i) (S j) d n) 24))) ++ wAN ct bq 12 (va_up qq ((4 * j) + d) (if any (gcm dc an n (S i) (S j) d n) 24 = true then sq j + bN (any (gcm dc an n (S i) (S j) d n) 24) else qq ((4 * j) + d))) ++ wA1 ct bm n) H := hP
          exact W.iret hx hb hr (fun t ht hW => ⟨⟨_, (), rfl, rfl, by show va_P D vwCl _ t.heap; rw [ht]; exact hP⟩, hS.F ht⟩) hS.2.2 dL_got_250
        · refine lv_iconst (v := nI 0) hx hb dL_got_185 (by decide) ?_
          refine lv_goto (tgt := 190) hx hb dL_got_186 (by decide) ?_
          refine r_iaddN hx hb dL_got_190 ?_
          refine r_top (y := nI (sq j + bN (any (gcm dc an n (S i) (S j) d n) 24))) (congrArg nI (show ((sq j) + 0) = (sq j + bN (any (gcm dc an n (S i) (S j) d n) 24)) from by simp [bN, c27, c182])) ?_
          refine r_iast (j := 8 + j) (x := (nI (sq j + bN (any (gcm dc an n (S i) (S j) d n) 24)))) (f' := tF (va_up S j (mOr (S j) (gcm dc an n (S i) (S j) d n))) dp (va_up sq j (sq j + bN (any (gcm dc an n (S i) (S j) d n) 24)))) hx hb hK.1 hP hD hS 3 0 rfl rfl (by omega) (by decide) (tU_s) dL_got_191 (fun H locs hP hD hS => ?_)
          have hP : va_P D vwCl (wAN ct bd 24 dc ++ wAN ct bg 24 ge ++ wAM ct ba 24 an ++ wAT ct bt (va_up S j (mOr (S j) (gcm dc an n (S i) (S j) d n))) dp (va_up sq j (sq j + bN (any (gcm dc an n (S i) (S j) d n) 24))) ++ wAN ct bq 12 qq ++ wA1 ct bm n) H := hP
          have hD : va_D A (wAN ct bd 24 dc ++ wAN ct bg 24 ge ++ wAM ct ba 24 an ++ wAT ct bt (va_up S j (mOr (S j) (gcm dc an n (S i) (S j) d n))) dp (va_up sq j (sq j + bN (any (gcm dc an n (S i) (S j) d n) 24))) ++ wAN ct bq 12 qq ++ wA1 ct bm n) := hD
          refine lv_aload hx hb dL_got_192 (lv_at hl 7 rfl) ?_
          refine lv_iconst (v := nI 4) hx hb dL_got_194 (by decide) ?_
          refine lv_iload hx hb dL_got_195 (lv_at hl 10 rfl) ?_
          refine r_imulN hx hb dL_got_197 ?_
          refine lv_iload hx hb dL_got_198 (lv_at hl 11 rfl) ?_
          refine r_iaddN hx hb dL_got_200 ?_
          refine lv_iload hx hb dL_got_201 (lv_at hl 1 rfl) ?_
          refine r_if_neM (P := (gcm dc an n (S i) (S j) d n)) (tgt := 219) hx hb dL_got_203 (by decide) (fun c203 => by rw [c182] at c203; cases c203) (fun c203 => ?_)
          refine lv_aload hx hb dL_got_206 (lv_at hl 7 rfl) ?_
          refine lv_iconst (v := nI 4) hx hb dL_got_208 (by decide) ?_
          refine lv_iload hx hb dL_got_209 (lv_at hl 10 rfl) ?_
          refine r_imulN hx hb dL_got_211 ?_
          refine lv_iload hx hb dL_got_212 (lv_at hl 11 rfl) ?_
          refine r_iaddN hx hb dL_got_214 ?_
          refine r_iald (j := (4 * j) + d) (v := nI (qq ((4 * j) + d))) hx hb hK.1 hP 4 0 rfl rfl (by omega) (by first | decide | omega) (rfl) dL_got_215 ?_
          refine lv_goto (tgt := 226) hx hb dL_got_216 (by decide) ?_
          refine r_top (y := nI (if any (gcm dc an n (S i) (S j) d n) 24 = true then sq j + bN (any (gcm dc an n (S i) (S j) d n) 24) else qq ((4 * j) + d))) (congrArg nI (show (qq ((4 * j) + d)) = (if any (gcm dc an n (S i) (S j) d n) 24 = true then sq j + bN (any (gcm dc an n (S i) (S j) d n) 24) else qq ((4 * j) + d)) from by simp [bN, va_up, c27, c182, c203])) ?_
          refine r_iast (j := (4 * j) + d) (x := (nI (if any (gcm dc an n (S i) (S j) d n) 24 = true then sq j + bN (any (gcm dc an n (S i) (S j) d n) 24) else qq ((4 * j) + d)))) (f' := fun q9 => nI ((va_up qq ((4 * j) + d) (if any (gcm dc an n (S i) (S j) d n) 24 = true then sq j + bN (any (gcm dc an n (S i) (S j) d n) 24) else qq ((4 * j) + d))) q9)) hx hb hK.1 hP hD hS 4 0 rfl rfl (by omega) (by first | decide | omega) (up_n _ _ _) dL_got_226 (fun H locs hP hD hS => ?_)
          have hP : va_P D vwCl (wAN ct bd 24 dc ++ wAN ct bg 24 ge ++ wAM ct ba 24 an ++ wAT ct bt (va_up S j (mOr (S j) (gcm dc an n (S i) (S j) d n))) dp (va_up sq j (sq j + bN (any (gcm dc an n (S i) (S j) d n) 24))) ++ wAN ct bq 12 (va_up qq ((4 * j) + d) (if any (gcm dc an n (S i) (S j) d n) 24 = true then sq j + bN (any (gcm dc an n (S i) (S j) d n) 24) else qq ((4 * j) + d))) ++ wA1 ct bm n) H := hP
          have hD : va_D A (wAN ct bd 24 dc ++ wAN ct bg 24 ge ++ wAM ct ba 24 an ++ wAT ct bt (va_up S j (mOr (S j) (gcm dc an n (S i) (S j) d n))) dp (va_up sq j (sq j + bN (any (gcm dc an n (S i) (S j) d n) 24))) ++ wAN ct bq 12 (va_up qq ((4 * j) + d) (if any (gcm dc an n (S i) (S j) d n) 24 = true then sq j + bN (any (gcm dc an n (S i) (S j) d n) 24) else qq ((4 * j) + d))) ++ wA1 ct bm n) := hD
          refine lv_aload_n hx hb dL_got_227 rfl (lv_at hl 3 rfl) ?_
          refine lv_aload_n hx hb dL_got_228 rfl (lv_at hl 4 rfl) ?_
          refine lv_aload_n hx hb dL_got_229 rfl (lv_at hl 5 rfl) ?_
          refine lv_aload_n hx hb dL_got_230 rfl (lv_at hl 6 rfl) ?_
          refine lv_aload hx hb dL_got_231 (lv_at hl 8 rfl) ?_
          refine lv_iload hx hb dL_got_233 (lv_at hl 10 rfl) ?_
          refine r_wSi (As := [.ref bd, .ref bg, .ref ba, .ref bt, .ref bm, .int (nI j)]) (rest := []) ⟨hx, hb, hml, hown, hts⟩ (cL_stem_ok l D ct bd bg ba bt bm dc ge an (va_up S j (mOr (S j) (gcm dc an n (S i) (S j) d n))) dp (va_up sq j (sq j + bN (any (gcm dc an n (S i) (S j) d n) 24))) n j (by first | assumption | omega) (by first | assumption | omega) (by first | assumption | omega) (by first | assumption | omega) (by first | assumption | omega) H.size) (va_cwS 6 hts gL_got_L_stem rfl rfl rfl (by decide +kernel) ⟨Nat.le_of_ble_eq_true rfl, Nat.le_of_ble_eq_true rfl⟩) hK hP hD hS hA [0, 1, 2, 3, 5] rfl rfl rfl rfl hl.1 rfl (Nat.le_of_ble_eq_true rfl) dL_got_235 ⟨Nat.le_of_ble_eq_true rfl, Nat.le_of_ble_eq_true rfl⟩ (fun H locs hP hD hS => ?_)
          have hP : va_P D vwCl (wAN ct bd 24 dc ++ wAN ct bg 24 ge ++ wAM ct ba 24 an ++ wAT ct bt (va_up (va_up S j (mOr (S j) (gcm dc an n (S i) (S j) d n))) j (mNd ((va_up S j (mOr (S j) (gcm dc an n (S i) (S j) d n))) j) (dpB dc an ge n ((va_up S j (mOr (S j) (gcm dc an n (S i) (S j) d n))) j) (dp j)))) dp (va_up sq j (sq j + bN (any (gcm dc an n (S i) (S j) d n) 24))) ++ wAN ct bq 12 (va_up qq ((4 * j) + d) (if any (gcm dc an n (S i) (S j) d n) 24 = true then sq j + bN (any (gcm dc an n (S i) (S j) d n) 24) else qq ((4 * j) + d))) ++ wA1 ct bm n) H := hP
          have hD : va_D A (wAN ct bd 24 dc ++ wAN ct bg 24 ge ++ wAM ct ba 24 an ++ wAT ct bt (va_up (va_up S j (mOr (S j) (gcm dc an n (S i) (S j) d n))) j (mNd ((va_up S j (mOr (S j) (gcm dc an n (S i) (S j) d n))) j) (dpB dc an ge n ((va_up S j (mOr (S j) (gcm dc an n (S i) (S j) d n))) j) (dp j)))) dp (va_up sq j (sq j + bN (any (gcm dc an n (S i) (S j) d n) 24))) ++ wAN ct bq 12 (va_up qq ((4 * j) + d) (if any (gcm dc an n (S i) (S j) d n) 24 = true then sq j + bN (any (gcm dc an n (S i) (S j) d n) 24) else qq ((4 * j) + d))) ++ wA1 ct bm n) := hD
          refine lv_if_ge (x := nI (fct (dpB dc an ge n ((va_up S j (mOr (S j) (gcm dc an n (S i) (S j) d n))) j) (dp j)) 24)) (tgt := 245) hx hb dL_got_238 (by decide) (fun _ => ?_) (fun h => absurd (nI_pos' (Nat.lt_of_le_of_lt (fct_le _ _) (by decide))) h)
          refine lv_iload hx hb dL_got_245 (lv_at hl 1 rfl) ?_
          refine r_cS (As := [.int (mM (gcm dc an n (S i) (S j) d n))]) (rest := []) ⟨hx, hb, hml, hown, hts⟩ (cL_ones_ok l D ct (gcm dc an n (S i) (S j) d n) ) (va_cwS 1 hts gL_got_L_ones rfl rfl rfl (by decide +kernel) ⟨Nat.le_of_ble_eq_true rfl, Nat.le_of_ble_eq_true rfl⟩) hK va_Pnil rfl hl.1 rfl (Nat.le_of_ble_eq_true rfl) dL_got_247 ⟨Nat.le_of_ble_eq_true rfl, Nat.le_of_ble_eq_true rfl⟩ ?_
          have e9 : (va_up (va_up S j (mOr (S j) (gcm dc an n (S i) (S j) d n))) j (mNd ((va_up S j (mOr (S j) (gcm dc an n (S i) (S j) d n))) j) (dpB dc an ge n ((va_up S j (mOr (S j) (gcm dc an n (S i) (S j) d n))) j) (dp j)))) = (va_up S j (mNd (mOr (S j) (gcm dc an n (S i) (S j) d n)) (dpB dc an ge n (mOr (S j) (gcm dc an n (S i) (S j) d n)) (dp j)))) := by rw [up_s, up_up]
          have hP := (congrArg (fun z9 => va_P D vwCl (wAN ct bd 24 dc ++ wAN ct bg 24 ge ++ wAM ct ba 24 an ++ wAT ct bt z9 dp (va_up sq j (sq j + bN (any (gcm dc an n (S i) (S j) d n) 24))) ++ wAN ct bq 12 (va_up qq ((4 * j) + d) (if any (gcm dc an n (S i) (S j) d n) 24 = true then sq j + bN (any (gcm dc an n (S i) (S j) d n) 24) else qq ((4 * j) + d))) ++ wA1 ct bm n) H) e9).mp hP
          have hP : va_P D vwCl (wAN ct bd 24 dc ++ wAN ct bg 24 ge ++ wAM ct ba 24 an ++ wAT ct bt (va_up S j (mNd (mOr (S j) (gcm dc an n (S i) (S j) d n)) (dpB dc an ge n (mOr (S j) (gcm dc an n (S i) (S j) d n)) (dp j)))) dp (va_up sq j (sq j + bN (any (gcm dc an n (S i) (S j) d n) 24))) ++ wAN ct bq 12 (va_up qq ((4 * j) + d) (if any (gcm dc an n (S i) (S j) d n) 24 = true then sq j + bN (any (gcm dc an n (S i) (S j) d n) 24) else qq ((4 * j) + d))) ++ wA1 ct bm n) H := hP
          exact W.iret hx hb hr (fun t ht hW => ⟨⟨_, (), rfl, rfl, by show va_P D vwCl _ t.heap; rw [ht]; exact hP⟩, hS.F ht⟩) hS.2.2 dL_got_250
      · refine lv_iconst (v := nI 0) hx hb dL_got_30 (by decide) ?_
        refine lv_istore (lv' := [(12, .int (nI 0)), (11, .int (nI k)), (10, .int (mM (gcm dc an n (S i) (S j) d k))), (9, .int (mM (lfB dc an n (S i) d))), (0, .ref bd), (1, .ref bg), (2, .ref ba), (3, .ref bt), (4, .ref bq), (5, .ref bm), (6, .int (nI i)), (7, .int (nI j)), (8, .int (nI d))]) hx hb dL_got_31 hl (by decide) rfl (fun ls hl => ?_)
        refine lv_iconst (v := nI 0) hx hb dL_got_33 (by decide) ?_
        refine lv_istore (lv' := [(13, .int (nI 0)), (12, .int (nI 0)), (11, .int (nI k)), (10, .int (mM (gcm dc an n (S i) (S j) d k))), (9, .int (mM (lfB dc an n (S i) d))), (0, .ref bd), (1, .ref bg), (2, .ref ba), (3, .ref bt), (4, .ref bq), (5, .ref bm), (6, .int (nI i)), (7, .int (nI j)), (8, .int (nI d))]) hx hb dL_got_34 hl (by decide) rfl (fun ls hl => ?_)
        have key36 : ∀ (d36 : Nat) (g : Nat) (hg : g ≤ n), n - g < d36 → ∀ (H : Heap) (locs : List Loc) (ls : Array Slot), va_P D vwCl (wAN ct bd 24 dc ++ wAN ct bg 24 ge ++ wAM ct ba 24 an ++ wAT ct bt S dp sq ++ wAN ct bq 12 qq ++ wA1 ct bm n) H → va_D A (wAN ct bd 24 dc ++ wAN ct bg 24 ge ++ wAM ct ba 24 an ++ wAT ct bt S dp sq ++ wAN ct bq 12 qq ++ wA1 ct bm n) → va_S A s.heap H locs → lv_has ls 14 [(13, .int (nI g)), (12, .int (bI (any (fun q => S j q && an q k) g))), (11, .int (nI k)), (10, .int (mM (gcm dc an n (S i) (S j) d k))), (9, .int (mM (lfB dc an n (S i) d))), (0, .ref bd), (1, .ref bg), (2, .ref ba), (3, .ref bt), (4, .ref bq), (5, .ref bm), (6, .int (nI i)), (7, .int (nI j)), (8, .int (nI d))] → W p l e ({ frames := 3, cells := 0, slots := 0, locals := 86 } : Room) s m ([.ref bd, .ref bg, .ref ba, .ref bt, .ref bq, .ref bm, .int (nI i), .int (nI j), .int (nI d)] : List Value).toArray below meth c H locs 0 0 (MQ below (wqI D (nI (fct (gcm dc an n (S i) (S j) d n) 24)) (wAN ct bd 24 dc ++ wAN ct bg 24 ge ++ wAM ct ba 24 an ++ wAT ct bt (va_up S j (mNd (mOr (S j) (gcm dc an n (S i) (S j) d n)) (dpB dc an ge n (mOr (S j) (gcm dc an n (S i) (S j) d n)) (dp j)))) dp (va_up sq j (sq j + bN (any (gcm dc an n (S i) (S j) d n) 24))) ++ wAN ct bq 12 (va_up qq ((4 * j) + d) (if any (gcm dc an n (S i) (S j) d n) 24 = true then sq j + bN (any (gcm dc an n (S i) (S j) d n) 24) else qq ((4 * j) + d))) ++ wA1 ct bm n) A) ([.ref bd, .ref bg, .ref ba, .ref bt, .ref bq, .ref bm, .int (nI i), .int (nI j), .int (nI d)] : List Value).toArray s 0 0 A) (F0 m 36 ls []) := by
          intro d36
          induction d36 with
          | zero => intro g hg h9; exact absurd h9 (Nat.not_lt_zero _)
          | succ d36 ih36 =>
            intro g hg hm36 H locs ls hP hD hS hl
            refine lv_iload hx hb dL_got_36 (lv_at hl 0 rfl) ?_
            refine lv_aload hx hb dL_got_38 (lv_at hl 10 rfl) ?_
            refine lv_iconst (v := nI 0) hx hb dL_got_40 (by decide) ?_
            refine r_iald (j := 0) (v := nI n) hx hb hK.1 hP 5 0 rfl rfl (by omega) (by first | decide | omega) (rfl) dL_got_41 ?_
            refine r_icmp_geN hx hb (x := g) (y := n) (by first | omega | decide) (by first | omega | decide) (tgt := 87) dL_got_42 (by decide) (fun c42 => ?_) (fun c42 => ?_)
            · refine lv_iload hx hb dL_got_87 (lv_at hl 4 rfl) ?_
              refine lv_iload hx hb dL_got_89 (lv_at hl 2 rfl) ?_
              refine lv_ishr hx hb dL_got_91 ?_
              refine lv_iconst (v := nI 1) hx hb dL_got_92 (by decide) ?_
              refine lv_iand hx hb dL_got_93 ?_
              refine r_top (y := bI ((lfB dc an n (S i) d) k)) (mM_tst _ (by omega)) ?_
              refine lv_iconst (v := nI 1) hx hb dL_got_94 (by decide) ?_
              refine r_icmp_neB1 (x := (lfB dc an n (S i) d) k) (tgt := 119) hx hb dL_got_95 (by decide) (fun c95 => ?_) (fun c95 => ?_)
              · refine lv_iconst (v := nI 0) hx hb dL_got_119 (by decide) ?_
                refine lv_istore (lv' := [(13, .int (nI 0)), (12, .int (bI (any (fun q => S j q && an q k) g))), (11, .int (nI k)), (10, .int (mM (gcm dc an n (S i) (S j) d k))), (9, .int (mM (lfB dc an n (S i) d))), (0, .ref bd), (1, .ref bg), (2, .ref ba), (3, .ref bt), (4, .ref bq), (5, .ref bm), (6, .int (nI i)), (7, .int (nI j)), (8, .int (nI d))]) hx hb dL_got_120 hl (by decide) rfl (fun ls hl => ?_)
                refine lv_iload hx hb dL_got_122 (lv_at hl 3 rfl) ?_
                refine lv_iload hx hb dL_got_124 (lv_at hl 0 rfl) ?_
                refine r_if_eqB (x := false) (tgt := 153) hx hb dL_got_126 (by decide) (fun c126 => ?_) (fun c126 => by cases c126)
                refine lv_iconst (v := nI 0) hx hb dL_got_153 (by decide) ?_
                refine lv_ior hx hb dL_got_154 ?_
                refine r_top (y := mM (gcm dc an n (S i) (S j) d k)) (mM_or0 _) ?_
                refine lv_istore (lv' := [(10, .int (mM (gcm dc an n (S i) (S j) d k))), (13, .int (nI 0)), (12, .int (bI (any (fun q => S j q && an q k) g))), (11, .int (nI k)), (9, .int (mM (lfB dc an n (S i) d))), (0, .ref bd), (1, .ref bg), (2, .ref ba), (3, .ref bt), (4, .ref bq), (5, .ref bm), (6, .int (nI i)), (7, .int (nI j)), (8, .int (nI d))]) hx hb dL_got_155 hl (by decide) rfl (fun ls hl => ?_)
                refine lv_iinc (v := nI (k + 1)) (lv' := [(11, .int (nI (k + 1))), (10, .int (mM (gcm dc an n (S i) (S j) d k))), (13, .int (nI 0)), (12, .int (bI (any (fun q => S j q && an q k) g))), (9, .int (mM (lfB dc an n (S i) d))), (0, .ref bd), (1, .ref bg), (2, .ref ba), (3, .ref bt), (4, .ref bq), (5, .ref bm), (6, .int (nI i)), (7, .int (nI j)), (8, .int (nI d))]) hx hb dL_got_157 hl (k := 3) rfl (nI_1 _) (by decide) rfl (fun ls hl => ?_)
                refine lv_goto (tgt := 21) hx hb dL_got_160 (by decide) ?_
                have hl := lv_re (f := fun z9 => [(11, .int (nI (k + 1))), (10, .int z9), (13, .int (nI 0)), (12, .int (bI (any (fun q => S j q && an q k) g))), (9, .int (mM (lfB dc an n (S i) d))), (0, .ref bd), (1, .ref bg), (2, .ref ba), (3, .ref bt), (4, .ref bq), (5, .ref bm), (6, .int (nI i)), (7, .int (nI j)), (8, .int (nI d))]) hl (show mM (gcm dc an n (S i) (S j) d k) = mM (gcm dc an n (S i) (S j) d (k + 1)) from by exact gcm_f (by simp [gis, c27, c42, c95, c126]))
                exact ih21 (k + 1) (by first | assumption | omega) (by omega) H locs ls hP hD hS (lv_sub hl [0, 1, 4, 5, 6, 7, 8, 9, 10, 11, 12, 13] rfl)
              · refine lv_aload_n hx hb dL_got_98 rfl (lv_at hl 8 rfl) ?_
                refine lv_iload hx hb dL_got_99 (lv_at hl 12 rfl) ?_
                refine r_iald (j := j) (v := mM (S j)) hx hb hK.1 hP 3 0 rfl rfl (by omega) (by first | decide | omega) (tF_S (by omega)) dL_got_101 ?_
                refine lv_iload hx hb dL_got_102 (lv_at hl 2 rfl) ?_
                refine lv_ishr hx hb dL_got_104 ?_
                refine lv_iconst (v := nI 1) hx hb dL_got_105 (by decide) ?_
                refine lv_iand hx hb dL_got_106 ?_
                refine r_top (y := bI ((S j) k)) (mM_tst _ (by omega)) ?_
                refine r_if_neB (x := (S j) k) (tgt := 119) hx hb dL_got_107 (by decide) (fun c107 => ?_) (fun c107 => ?_)
                · refine lv_iconst (v := nI 0) hx hb dL_got_119 (by decide) ?_
                  refine lv_istore (lv' := [(13, .int (nI 0)), (12, .int (bI (any (fun q => S j q && an q k) g))), (11, .int (nI k)), (10, .int (mM (gcm dc an n (S i) (S j) d k))), (9, .int (mM (lfB dc an n (S i) d))), (0, .ref bd), (1, .ref bg), (2, .ref ba), (3, .ref bt), (4, .ref bq), (5, .ref bm), (6, .int (nI i)), (7, .int (nI j)), (8, .int (nI d))]) hx hb dL_got_120 hl (by decide) rfl (fun ls hl => ?_)
                  refine lv_iload hx hb dL_got_122 (lv_at hl 3 rfl) ?_
                  refine lv_iload hx hb dL_got_124 (lv_at hl 0 rfl) ?_
                  refine r_if_eqB (x := false) (tgt := 153) hx hb dL_got_126 (by decide) (fun c126 => ?_) (fun c126 => by cases c126)
                  refine lv_iconst (v := nI 0) hx hb dL_got_153 (by decide) ?_
                  refine lv_ior hx hb dL_got_154 ?_
                  refine r_top (y := mM (gcm dc an n (S i) (S j) d k)) (mM_or0 _) ?_
                  refine lv_istore (lv' := [(10, .int (mM (gcm dc an n (S i) (S j) d k))), (13, .int (nI 0)), (12, .int (bI (any (fun q => S j q && an q k) g))), (11, .int (nI k)), (9, .int (mM (lfB dc an n (S i) d))), (0, .ref bd), (1, .ref bg), (2, .ref ba), (3, .ref bt), (4, .ref bq), (5, .ref bm), (6, .int (nI i)), (7, .int (nI j)), (8, .int (nI d))]) hx hb dL_got_155 hl (by decide) rfl (fun ls hl => ?_)
                  refine lv_iinc (v := nI (k + 1)) (lv' := [(11, .int (nI (k + 1))), (10, .int (mM (gcm dc an n (S i) (S j) d k))), (13, .int (nI 0)), (12, .int (bI (any (fun q => S j q && an q k) g))), (9, .int (mM (lfB dc an n (S i) d))), (0, .ref bd), (1, .ref bg), (2, .ref ba), (3, .ref bt), (4, .ref bq), (5, .ref bm), (6, .int (nI i)), (7, .int (nI j)), (8, .int (nI d))]) hx hb dL_got_157 hl (k := 3) rfl (nI_1 _) (by decide) rfl (fun ls hl => ?_)
                  refine lv_goto (tgt := 21) hx hb dL_got_160 (by decide) ?_
                  have hl := lv_re (f := fun z9 => [(11, .int (nI (k + 1))), (10, .int z9), (13, .int (nI 0)), (12, .int (bI (any (fun q => S j q && an q k) g))), (9, .int (mM (lfB dc an n (S i) d))), (0, .ref bd), (1, .ref bg), (2, .ref ba), (3, .ref bt), (4, .ref bq), (5, .ref bm), (6, .int (nI i)), (7, .int (nI j)), (8, .int (nI d))]) hl (show mM (gcm dc an n (S i) (S j) d k) = mM (gcm dc an n (S i) (S j) d (k + 1)) from by exact gcm_f (by simp [gis, c27, c42, c95, c107, c126]))
                  exact ih21 (k + 1) (by first | assumption | omega) (by omega) H locs ls hP hD hS (lv_sub hl [0, 1, 4, 5, 6, 7, 8, 9, 10, 11, 12, 13] rfl)
                · refine lv_iload hx hb dL_got_110 (lv_at hl 1 rfl) ?_
                  refine r_if_neB (x := any (fun q => S j q && an q k) g) (tgt := 119) hx hb dL_got_112 (by decide) (fun c112 => ?_) (fun c112 => ?_)
                  · refine lv_iconst (v := nI 0) hx hb dL_got_119 (by decide) ?_
                    refine lv_istore (lv' := [(13, .int (nI 0)), (12, .int (bI (any (fun q => S j q && an q k) g))), (11, .int (nI k)), (10, .int (mM (gcm dc an n (S i) (S j) d k))), (9, .int (mM (lfB dc an n (S i) d))), (0, .ref bd), (1, .ref bg), (2, .ref ba), (3, .ref bt), (4, .ref bq), (5, .ref bm), (6, .int (nI i)), (7, .int (nI j)), (8, .int (nI d))]) hx hb dL_got_120 hl (by decide) rfl (fun ls hl => ?_)
                    refine lv_iload hx hb dL_got_122 (lv_at hl 3 rfl) ?_
                    refine lv_iload hx hb dL_got_124 (lv_at hl 0 rfl) ?_
                    refine r_if_eqB (x := false) (tgt := 153) hx hb dL_got_126 (by decide) (fun c126 => ?_) (fun c126 => by cases c126)
                    refine lv_iconst (v := nI 0) hx hb dL_got_153 (by decide) ?_
                    refine lv_ior hx hb dL_got_154 ?_
                    refine r_top (y := mM (gcm dc an n (S i) (S j) d k)) (mM_or0 _) ?_
                    refine lv_istore (lv' := [(10, .int (mM (gcm dc an n (S i) (S j) d k))), (13, .int (nI 0)), (12, .int (bI (any (fun q => S j q && an q k) g))), (11, .int (nI k)), (9, .int (mM (lfB dc an n (S i) d))), (0, .ref bd), (1, .ref bg), (2, .ref ba), (3, .ref bt), (4, .ref bq), (5, .ref bm), (6, .int (nI i)), (7, .int (nI j)), (8, .int (nI d))]) hx hb dL_got_155 hl (by decide) rfl (fun ls hl => ?_)
                    refine lv_iinc (v := nI (k + 1)) (lv' := [(11, .int (nI (k + 1))), (10, .int (mM (gcm dc an n (S i) (S j) d k))), (13, .int (nI 0)), (12, .int (bI (any (fun q => S j q && an q k) g))), (9, .int (mM (lfB dc an n (S i) d))), (0, .ref bd), (1, .ref bg), (2, .ref ba), (3, .ref bt), (4, .ref bq), (5, .ref bm), (6, .int (nI i)), (7, .int (nI j)), (8, .int (nI d))]) hx hb dL_got_157 hl (k := 3) rfl (nI_1 _) (by decide) rfl (fun ls hl => ?_)
                    refine lv_goto (tgt := 21) hx hb dL_got_160 (by decide) ?_
                    have hl := lv_re (f := fun z9 => [(11, .int (nI (k + 1))), (10, .int z9), (13, .int (nI 0)), (12, .int (bI (any (fun q => S j q && an q k) g))), (9, .int (mM (lfB dc an n (S i) d))), (0, .ref bd), (1, .ref bg), (2, .ref ba), (3, .ref bt), (4, .ref bq), (5, .ref bm), (6, .int (nI i)), (7, .int (nI j)), (8, .int (nI d))]) hl (show mM (gcm dc an n (S i) (S j) d k) = mM (gcm dc an n (S i) (S j) d (k + 1)) from by rw [show g = n by omega] at c112; exact gcm_f (by simp [gis, c27, c42, c95, c107, c112, c126]))
                    exact ih21 (k + 1) (by first | assumption | omega) (by omega) H locs ls hP hD hS (lv_sub hl [0, 1, 4, 5, 6, 7, 8, 9, 10, 11, 12, 13] rfl)
                  · refine lv_iconst (v := nI 1) hx hb dL_got_115 (by decide) ?_
                    refine lv_goto (tgt := 120) hx hb dL_got_116 (by decide) ?_
                    refine lv_istore (lv' := [(13, .int (nI 1)), (12, .int (bI (any (fun q => S j q && an q k) g))), (11, .int (nI k)), (10, .int (mM (gcm dc an n (S i) (S j) d k))), (9, .int (mM (lfB dc an n (S i) d))), (0, .ref bd), (1, .ref bg), (2, .ref ba), (3, .ref bt), (4, .ref bq), (5, .ref bm), (6, .int (nI i)), (7, .int (nI j)), (8, .int (nI d))]) hx hb dL_got_120 hl (by decide) rfl (fun ls hl => ?_)
                    refine lv_iload hx hb dL_got_122 (lv_at hl 3 rfl) ?_
                    refine lv_iload hx hb dL_got_124 (lv_at hl 0 rfl) ?_
                    refine r_if_eqB (x := true) (tgt := 153) hx hb dL_got_126 (by decide) (fun c126 => by cases c126) (fun c126 => ?_)
                    refine lv_iconst (v := nI 1) hx hb dL_got_129 (by decide) ?_
                    refine lv_iload hx hb dL_got_130 (lv_at hl 2 rfl) ?_
                    refine lv_ishl hx hb dL_got_132 ?_
                    refine r_top (y := mM (sgl k true)) (mM_shl1 (by omega)) ?_
                    refine lv_aload_n hx hb dL_got_133 rfl (lv_at hl 7 rfl) ?_
                    refine lv_iload hx hb dL_got_134 (lv_at hl 2 rfl) ?_
                    refine r_iald (j := k) (v := mM (an k)) hx hb hK.1 hP 2 0 rfl rfl (by omega) (by first | decide | omega) (rfl) dL_got_136 ?_
                    refine lv_ior hx hb dL_got_137 ?_
                    refine r_top (y := mM (mOr (sgl k true) (an k))) (mM_or _ _) ?_
                    refine lv_aload_n hx hb dL_got_138 rfl (lv_at hl 8 rfl) ?_
                    refine lv_iload hx hb dL_got_139 (lv_at hl 11 rfl) ?_
                    refine r_iald (j := i) (v := mM (S i)) hx hb hK.1 hP 3 0 rfl rfl (by omega) (by first | decide | omega) (tF_S (by omega)) dL_got_141 ?_
                    refine lv_iand hx hb dL_got_142 ?_
                    refine r_top (y := mM (mAnd (mOr (sgl k true) (an k)) (S i))) (mM_and _ _) ?_
                    refine lv_aload_n hx hb dL_got_143 rfl (lv_at hl 8 rfl) ?_
                    refine lv_iload hx hb dL_got_144 (lv_at hl 12 rfl) ?_
                    refine r_iald (j := j) (v := mM (S j)) hx hb hK.1 hP 3 0 rfl rfl (by omega) (by first | decide | omega) (tF_S (by omega)) dL_got_146 ?_
                    refine lv_iconst (v := -1) hx hb dL_got_147 (by decide) ?_
                    refine lv_ixor hx hb dL_got_148 ?_
                    refine lv_iand hx hb dL_got_149 ?_
                    refine r_top (y := mM (mNd (mAnd (mOr (sgl k true) (an k)) (S i)) (S j))) (mM_nd _ _) ?_
                    refine lv_goto (tgt := 154) hx hb dL_got_150 (by decide) ?_
                    refine lv_ior hx hb dL_got_154 ?_
                    refine r_top (y := mM (mOr (gcm dc an n (S i) (S j) d k) (mNd (mAnd (mOr (sgl k true) (an k)) (S i)) (S j)))) (mM_or _ _) ?_
                    refine lv_istore (lv' := [(10, .int (mM (mOr (gcm dc an n (S i) (S j) d k) (mNd (mAnd (mOr (sgl k true) (an k)) (S i)) (S j))))), (13, .int (nI 1)), (12, .int (bI (any (fun q => S j q && an q k) g))), (11, .int (nI k)), (9, .int (mM (lfB dc an n (S i) d))), (0, .ref bd), (1, .ref bg), (2, .ref ba), (3, .ref bt), (4, .ref bq), (5, .ref bm), (6, .int (nI i)), (7, .int (nI j)), (8, .int (nI d))]) hx hb dL_got_155 hl (by decide) rfl (fun ls hl => ?_)
                    refine lv_iinc (v := nI (k + 1)) (lv' := [(11, .int (nI (k + 1))), (10, .int (mM (mOr (gcm dc an n (S i) (S j) d k) (mNd (mAnd (mOr (sgl k true) (an k)) (S i)) (S j))))), (13, .int (nI 1)), (12, .int (bI (any (fun q => S j q && an q k) g))), (9, .int (mM (lfB dc an n (S i) d))), (0, .ref bd), (1, .ref bg), (2, .ref ba), (3, .ref bt), (4, .ref bq), (5, .ref bm), (6, .int (nI i)), (7, .int (nI j)), (8, .int (nI d))]) hx hb dL_got_157 hl (k := 3) rfl (nI_1 _) (by decide) rfl (fun ls hl => ?_)
                    refine lv_goto (tgt := 21) hx hb dL_got_160 (by decide) ?_
                    have hl := lv_re (f := fun z9 => [(11, .int (nI (k + 1))), (10, .int z9), (13, .int (nI 1)), (12, .int (bI (any (fun q => S j q && an q k) g))), (9, .int (mM (lfB dc an n (S i) d))), (0, .ref bd), (1, .ref bg), (2, .ref ba), (3, .ref bt), (4, .ref bq), (5, .ref bm), (6, .int (nI i)), (7, .int (nI j)), (8, .int (nI d))]) hl (show mM (mOr (gcm dc an n (S i) (S j) d k) (mNd (mAnd (mOr (sgl k true) (an k)) (S i)) (S j))) = mM (gcm dc an n (S i) (S j) d (k + 1)) from by rw [show g = n by omega] at c112; exact gcm_t (by simp [gis, c27, c42, c95, c107, c112, c126]))
                    exact ih21 (k + 1) (by first | assumption | omega) (by omega) H locs ls hP hD hS (lv_sub hl [0, 1, 4, 5, 6, 7, 8, 9, 10, 11, 12, 13] rfl)
            · refine lv_iload hx hb dL_got_45 (lv_at hl 1 rfl) ?_
              refine lv_aload_n hx hb dL_got_47 rfl (lv_at hl 8 rfl) ?_
              refine lv_iload hx hb dL_got_48 (lv_at hl 12 rfl) ?_
              refine r_iald (j := j) (v := mM (S j)) hx hb hK.1 hP 3 0 rfl rfl (by omega) (by first | decide | omega) (tF_S (by omega)) dL_got_50 ?_
              refine lv_iload hx hb dL_got_51 (lv_at hl 0 rfl) ?_
              refine lv_ishr hx hb dL_got_53 ?_
              refine lv_iconst (v := nI 1) hx hb dL_got_54 (by decide) ?_
              refine lv_iand hx hb dL_got_55 ?_
              refine r_top (y := bI ((S j) g)) (mM_tst _ (by omega)) ?_
              refine lv_iconst (v := nI 1) hx hb dL_got_56 (by decide) ?_
              refine r_icmp_neB1 (x := (S j) g) (tgt := 77) hx hb dL_got_57 (by decide) (fun c57 => ?_) (fun c57 => ?_)
              · refine lv_iconst (v := nI 0) hx hb dL_got_77 (by decide) ?_
                refine lv_ior hx hb dL_got_78 ?_
                refine r_top (y := bI ((any (fun q => S j q && an q k) g) || false)) (bI_or (any (fun q => S j q && an q k) g) false) ?_
                refine lv_istore (lv' := [(12, .int (bI ((any (fun q => S j q && an q k) g) || false))), (13, .int (nI g)), (11, .int (nI k)), (10, .int (mM (gcm dc an n (S i) (S j) d k))), (9, .int (mM (lfB dc an n (S i) d))), (0, .ref bd), (1, .ref bg), (2, .ref ba), (3, .ref bt), (4, .ref bq), (5, .ref bm), (6, .int (nI i)), (7, .int (nI j)), (8, .int (nI d))]) hx hb dL_got_79 hl (by decide) rfl (fun ls hl => ?_)
                refine lv_iinc (v := nI (g + 1)) (lv' := [(13, .int (nI (g + 1))), (12, .int (bI ((any (fun q => S j q && an q k) g) || false))), (11, .int (nI k)), (10, .int (mM (gcm dc an n (S i) (S j) d k))), (9, .int (mM (lfB dc an n (S i) d))), (0, .ref bd), (1, .ref bg), (2, .ref ba), (3, .ref bt), (4, .ref bq), (5, .ref bm), (6, .int (nI i)), (7, .int (nI j)), (8, .int (nI d))]) hx hb dL_got_81 hl (k := 1) rfl (nI_1 _) (by decide) rfl (fun ls hl => ?_)
                refine lv_goto (tgt := 36) hx hb dL_got_84 (by decide) ?_
                have hl := lv_re (f := fun z9 => [(13, .int (nI (g + 1))), (12, .int z9), (11, .int (nI k)), (10, .int (mM (gcm dc an n (S i) (S j) d k))), (9, .int (mM (lfB dc an n (S i) d))), (0, .ref bd), (1, .ref bg), (2, .ref ba), (3, .ref bt), (4, .ref bq), (5, .ref bm), (6, .int (nI i)), (7, .int (nI j)), (8, .int (nI d))]) hl (show bI ((any (fun q => S j q && an q k) g) || false) = bI (any (fun q => S j q && an q k) (g + 1)) from congrArg bI (show ((any (fun q => S j q && an q k) g) || false) = (any (fun q => S j q && an q k) (g + 1)) from by show _ = (any (fun q => S j q && an q k) g || _); simp [c27, c42, c57]))
                exact ih36 (g + 1) (by first | assumption | omega) (by omega) H locs ls hP hD hS (lv_sub hl [0, 1, 2, 3, 4, 5, 6, 7, 8, 9, 10, 11, 12, 13] rfl)
              · refine lv_aload_n hx hb dL_got_60 rfl (lv_at hl 7 rfl) ?_
                refine lv_iload hx hb dL_got_61 (lv_at hl 0 rfl) ?_
                refine r_iald (j := g) (v := mM (an g)) hx hb hK.1 hP 2 0 rfl rfl (by omega) (by first | decide | omega) (rfl) dL_got_63 ?_
                refine lv_iload hx hb dL_got_64 (lv_at hl 2 rfl) ?_
                refine lv_ishr hx hb dL_got_66 ?_
                refine lv_iconst (v := nI 1) hx hb dL_got_67 (by decide) ?_
                refine lv_iand hx hb dL_got_68 ?_
                refine r_top (y := bI ((an g) k)) (mM_tst _ (by omega)) ?_
                refine lv_iconst (v := nI 1) hx hb dL_got_69 (by decide) ?_
                refine r_icmp_neB1 (x := (an g) k) (tgt := 77) hx hb dL_got_70 (by decide) (fun c70 => ?_) (fun c70 => ?_)
                · refine lv_iconst (v := nI 0) hx hb dL_got_77 (by decide) ?_
                  refine lv_ior hx hb dL_got_78 ?_
                  refine r_top (y := bI ((any (fun q => S j q && an q k) g) || false)) (bI_or (any (fun q => S j q && an q k) g) false) ?_
                  refine lv_istore (lv' := [(12, .int (bI ((any (fun q => S j q && an q k) g) || false))), (13, .int (nI g)), (11, .int (nI k)), (10, .int (mM (gcm dc an n (S i) (S j) d k))), (9, .int (mM (lfB dc an n (S i) d))), (0, .ref bd), (1, .ref bg), (2, .ref ba), (3, .ref bt), (4, .ref bq), (5, .ref bm), (6, .int (nI i)), (7, .int (nI j)), (8, .int (nI d))]) hx hb dL_got_79 hl (by decide) rfl (fun ls hl => ?_)
                  refine lv_iinc (v := nI (g + 1)) (lv' := [(13, .int (nI (g + 1))), (12, .int (bI ((any (fun q => S j q && an q k) g) || false))), (11, .int (nI k)), (10, .int (mM (gcm dc an n (S i) (S j) d k))), (9, .int (mM (lfB dc an n (S i) d))), (0, .ref bd), (1, .ref bg), (2, .ref ba), (3, .ref bt), (4, .ref bq), (5, .ref bm), (6, .int (nI i)), (7, .int (nI j)), (8, .int (nI d))]) hx hb dL_got_81 hl (k := 1) rfl (nI_1 _) (by decide) rfl (fun ls hl => ?_)
                  refine lv_goto (tgt := 36) hx hb dL_got_84 (by decide) ?_
                  have hl := lv_re (f := fun z9 => [(13, .int (nI (g + 1))), (12, .int z9), (11, .int (nI k)), (10, .int (mM (gcm dc an n (S i) (S j) d k))), (9, .int (mM (lfB dc an n (S i) d))), (0, .ref bd), (1, .ref bg), (2, .ref ba), (3, .ref bt), (4, .ref bq), (5, .ref bm), (6, .int (nI i)), (7, .int (nI j)), (8, .int (nI d))]) hl (show bI ((any (fun q => S j q && an q k) g) || false) = bI (any (fun q => S j q && an q k) (g + 1)) from congrArg bI (show ((any (fun q => S j q && an q k) g) || false) = (any (fun q => S j q && an q k) (g + 1)) from by show _ = (any (fun q => S j q && an q k) g || _); simp [c27, c42, c57, c70]))
                  exact ih36 (g + 1) (by first | assumption | omega) (by omega) H locs ls hP hD hS (lv_sub hl [0, 1, 2, 3, 4, 5, 6, 7, 8, 9, 10, 11, 12, 13] rfl)
                · refine lv_iconst (v := nI 1) hx hb dL_got_73 (by decide) ?_
                  refine lv_goto (tgt := 78) hx hb dL_got_74 (by decide) ?_
                  refine lv_ior hx hb dL_got_78 ?_
                  refine r_top (y := bI ((any (fun q => S j q && an q k) g) || true)) (bI_or (any (fun q => S j q && an q k) g) true) ?_
                  refine lv_istore (lv' := [(12, .int (bI ((any (fun q => S j q && an q k) g) || true))), (13, .int (nI g)), (11, .int (nI k)), (10, .int (mM (gcm dc an n (S i) (S j) d k))), (9, .int (mM (lfB dc an n (S i) d))), (0, .ref bd), (1, .ref bg), (2, .ref ba), (3, .ref bt), (4, .ref bq), (5, .ref bm), (6, .int (nI i)), (7, .int (nI j)), (8, .int (nI d))]) hx hb dL_got_79 hl (by decide) rfl (fun ls hl => ?_)
                  refine lv_iinc (v := nI (g + 1)) (lv' := [(13, .int (nI (g + 1))), (12, .int (bI ((any (fun q => S j q && an q k) g) || true))), (11, .int (nI k)), (10, .int (mM (gcm dc an n (S i) (S j) d k))), (9, .int (mM (lfB dc an n (S i) d))), (0, .ref bd), (1, .ref bg), (2, .ref ba), (3, .ref bt), (4, .ref bq), (5, .ref bm), (6, .int (nI i)), (7, .int (nI j)), (8, .int (nI d))]) hx hb dL_got_81 hl (k := 1) rfl (nI_1 _) (by decide) rfl (fun ls hl => ?_)
                  refine lv_goto (tgt := 36) hx hb dL_got_84 (by decide) ?_
                  have hl := lv_re (f := fun z9 => [(13, .int (nI (g + 1))), (12, .int z9), (11, .int (nI k)), (10, .int (mM (gcm dc an n (S i) (S j) d k))), (9, .int (mM (lfB dc an n (S i) d))), (0, .ref bd), (1, .ref bg), (2, .ref ba), (3, .ref bt), (4, .ref bq), (5, .ref bm), (6, .int (nI i)), (7, .int (nI j)), (8, .int (nI d))]) hl (show bI ((any (fun q => S j q && an q k) g) || true) = bI (any (fun q => S j q && an q k) (g + 1)) from congrArg bI (show ((any (fun q => S j q && an q k) g) || true) = (any (fun q => S j q && an q k) (g + 1)) from by show _ = (any (fun q => S j q && an q k) g || _); simp [c27, c42, c57, c70]))
                  exact ih36 (g + 1) (by first | assumption | omega) (by omega) H locs ls hP hD hS (lv_sub hl [0, 1, 2, 3, 4, 5, 6, 7, 8, 9, 10, 11, 12, 13] rfl)
        have hl := lv_re (f := fun z9 => [(13, .int (nI 0)), (12, .int z9), (11, .int (nI k)), (10, .int (mM (gcm dc an n (S i) (S j) d k))), (9, .int (mM (lfB dc an n (S i) d))), (0, .ref bd), (1, .ref bg), (2, .ref ba), (3, .ref bt), (4, .ref bq), (5, .ref bm), (6, .int (nI i)), (7, .int (nI j)), (8, .int (nI d))]) hl (show nI 0 = bI (any (fun q => S j q && an q k) 0) from congrArg bI (show false = (any (fun q => S j q && an q k) 0) from rfl))
        exact key36 ((n - 0) + 1) 0 (by first | assumption | omega) (Nat.lt_succ_self _) H locs ls hP hD hS (lv_sub hl [0, 1, 2, 3, 4, 5, 6, 7, 8, 9, 10, 11, 12, 13] rfl)
  have hl := lv_re (f := fun z9 => [(11, .int (nI 0)), (10, .int z9), (9, .int (mM (lfB dc an n (S i) d))), (0, .ref bd), (1, .ref bg), (2, .ref ba), (3, .ref bt), (4, .ref bq), (5, .ref bm), (6, .int (nI i)), (7, .int (nI j)), (8, .int (nI d))]) hl (show nI 0 = mM (gcm dc an n (S i) (S j) d 0) from gcm_0)
  exact key21 ((n - 0) + 1) 0 (by first | assumption | omega) (Nat.lt_succ_self _) _ _ ls hP hD hS (lv_sub hl [0, 1, 2, 3, 4, 5, 6, 7, 8, 9, 10, 11] rfl)
