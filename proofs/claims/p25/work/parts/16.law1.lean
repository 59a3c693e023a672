set_option maxHeartbeats 1000000 in
set_option maxRecDepth 100000 in
theorem cL_leaves_ok (l : Launch) (D : va_G) (ct : Nat → ClassId) (bd : Nat) (ba : Nat) (bm : Nat) (dc : Nat → Nat) (an : Nat → Nat → Bool) (n : Nat) (S : Nat → Bool) (d : Nat) (hn : n ≤ 24) (hTd : ∀ k, dc k < 4) (hd4 : d < 4) : Met l yL_leaves wsL_leaves ({ frames := 0, cells := 0, slots := 0, locals := 0 } : Room) (roPc D ct [.ref bd, .ref ba, .ref bm, .int (mM S), .int (nI d)] (wAN ct bd 24 dc ++ wAM ct ba 24 an ++ wA1 ct bm n)) (rqI (mM (lfB dc an n S d))) 0 0 (fun _ => False) := by
  refine Met.ofW (cc := cL_leaves) (maxL := 9) (ret := (some .int)) (by decide) rfl ?_
  intro p e s m args below meth c s₁ B hml hv
  obtain ⟨rfl, hP, hK⟩ := hv
  have hx := B.exec
  have hb := B.bytes
  have hr := B.returns
  have hts := atoms_spec (ws := wsL_leaves) B.pre
  have hown : s.vm.findClass RL = some m.cls := findClass_of_methodNamed B.named
  have hlocks := B.notSynchronized
  have hl := lv_entry ([.ref bd, .ref ba, .ref bm, .int (mM S), .int (nI d)]) (n := 9) (Nat.le_of_ble_eq_true rfl)
  rw [lg_entry_eq]
  generalize (lg_sl ([.ref bd, .ref ba, .ref bm, .int (mM S), .int (nI d)]) ++ List.replicate (9 - (lg_sl ([.ref bd, .ref ba, .ref bm, .int (mM S), .int (nI d)])).length) Slot.unset).toArray = ls at hl ⊢
  have hl : lv_has ls 9 [(0, .ref bd), (1, .ref ba), (2, .ref bm), (3, .int (mM S)), (4, .int (nI d))] := hl
  refine lv_iconst (v := nI 0) hx hb dL_leaves_0 (by decide) ?_
  refine lv_istore (lv' := [(5, .int (nI 0)), (0, .ref bd), (1, .ref ba), (2, .ref bm), (3, .int (mM S)), (4, .int (nI d))]) hx hb dL_leaves_1 hl (by decide) rfl (fun ls hl => ?_)
  refine lv_aload_n hx hb dL_leaves_3 rfl (lv_at hl 3 rfl) ?_
  refine lv_iconst (v := nI 0) hx hb dL_leaves_4 (by decide) ?_
  refine r_iald (j := 0) (v := nI n) hx hb hK.1 hP 2 0 rfl rfl (by omega) (by first | decide | omega) rfl dL_leaves_5 ?_
  refine lv_iconst (v := nI 1) hx hb dL_leaves_6 (by decide) ?_
  refine lv_isub hx hb dL_leaves_7 ?_
  refine r_top (y := eP (prd n)) (nI_prd2 _) ?_
  refine lv_istore (lv' := [(6, .int (eP (prd n))), (5, .int (nI 0)), (0, .ref bd), (1, .ref ba), (2, .ref bm), (3, .int (mM S)), (4, .int (nI d))]) hx hb dL_leaves_8 hl (by decide) rfl (fun ls hl => ?_)
  have key10 : ∀ (d10 : Nat) (r : Nat) (hrn : r ≤ n), r < d10 → ∀  (ls : Array Slot), lv_has ls 9 [(6, .int (eP (prd r))), (5, .int (mM (lfU dc an n S d r))), (0, .ref bd), (1, .ref ba), (2, .ref bm), (3, .int (mM S)), (4, .int (nI d))] → W p l e ({ frames := 0, cells := 0, slots := 0, locals := 0 } : Room) s m ([.ref bd, .ref ba, .ref bm, .int (mM S), .int (nI d)] : List Value).toArray below meth c s.heap [] 0 0 (MQ below (rqI (mM (lfB dc an n S d))) ([.ref bd, .ref ba, .ref bm, .int (mM S), .int (nI d)] : List Value).toArray s 0 0 (fun _ => False)) (F0 m 10 ls []) := by
    intro d10
    induction d10 with
    | zero => intro r hrn h9; exact absurd h9 (Nat.not_lt_zero _)
    | succ d10 ih10 =>
      intro r hrn hm10  ls  hl
      refine lv_iload hx hb dL_leaves_10 (lv_at hl 0 rfl) ?_
      refine r_if_ltP hx hb (x := prd r) (by intro j9 h9; have := prd_lt h9; omega) (tgt := 100) dL_leaves_12 (by decide) (fun c12 => ?_) (fun j12 c12 => ?_)
      · have hl := lv_re (f := fun z9 => [(6, .int z9), (5, .int (mM (lfU dc an n S d r))), (0, .ref bd), (1, .ref ba), (2, .ref bm), (3, .int (mM S)), (4, .int (nI d))]) hl (show eP (prd r) = eP none from congrArg eP c12)
        refine lv_iload hx hb dL_leaves_100 (lv_at hl 1 rfl) ?_
        refine r_top (y := mM (lfB dc an n S d)) (by have e9 : r = 0 := (by cases r with | zero => rfl | succ q => exact absurd c12 (by simp [prd])); subst e9; exact lfU_n) ?_
        exact W.iret hx hb hr (fun t ht hW => ⟨_, rfl, rfl, ht⟩) (fun _ h => by cases h) dL_leaves_102
      · have hl := lv_re (f := fun z9 => [(6, .int z9), (5, .int (mM (lfU dc an n S d r))), (0, .ref bd), (1, .ref ba), (2, .ref bm), (3, .int (mM S)), (4, .int (nI d))]) hl (show eP (prd r) = nI j12 from congrArg eP c12)
        have e15 := prd_lt c12
        refine lv_iconst (v := nI 0) hx hb dL_leaves_15 (by decide) ?_
        refine lv_istore (lv' := [(7, .int (nI 0)), (6, .int (nI j12)), (5, .int (mM (lfU dc an n S d r))), (0, .ref bd), (1, .ref ba), (2, .ref bm), (3, .int (mM S)), (4, .int (nI d))]) hx hb dL_leaves_16 hl (by decide) rfl (fun ls hl => ?_)
        refine lv_iload hx hb dL_leaves_18 (lv_at hl 1 rfl) ?_
        refine lv_iconst (v := nI 1) hx hb dL_leaves_20 (by decide) ?_
        refine r_iaddN hx hb dL_leaves_21 ?_
        refine lv_istore (lv' := [(8, .int (nI (j12 + 1))), (7, .int (nI 0)), (6, .int (nI j12)), (5, .int (mM (lfU dc an n S d r))), (0, .ref bd), (1, .ref ba), (2, .ref bm), (3, .int (mM S)), (4, .int (nI d))]) hx hb dL_leaves_22 hl (by decide) rfl (fun ls hl => ?_)
        have key24 : ∀ (d24 : Nat) (j : Nat) (hj1 : j12 < j) (hj2 : j ≤ n), n - j < d24 → ∀  (ls : Array Slot), lv_has ls 9 [(8, .int (nI j)), (7, .int (mM (blw an j12 j))), (6, .int (nI j12)), (5, .int (mM (lfU dc an n S d r))), (0, .ref bd), (1, .ref ba), (2, .ref bm), (3, .int (mM S)), (4, .int (nI d))] → W p l e ({ frames := 0, cells := 0, slots := 0, locals := 0 } : Room) s m ([.ref bd, .ref ba, .ref bm, .int (mM S), .int (nI d)] : List Value).toArray below meth c s.heap [] 0 0 (MQ below (rqI (mM (lfB dc an n S d))) ([.ref bd, .ref ba, .ref bm, .int (mM S), .int (nI d)] : List Value).toArray s 0 0 (fun _ => False)) (F0 m 24 ls []) := by
          intro d24
          induction d24 with
          | zero => intro j hj1 hj2 h9; exact absurd h9 (Nat.not_lt_zero _)
          | succ d24 ih24 =>
            intro j hj1 hj2 hm24  ls  hl
            refine lv_iload hx hb dL_leaves_24 (lv_at hl 0 rfl) ?_
            refine lv_aload_n hx hb dL_leaves_26 rfl (lv_at hl 6 rfl) ?_
            refine lv_iconst (v := nI 0) hx hb dL_leaves_27 (by decide) ?_
            refine r_iald (j := 0) (v := nI n) hx hb hK.1 hP 2 0 rfl rfl (by omega) (by first | decide | omega) rfl dL_leaves_28 ?_
            refine r_icmp_geN hx hb (x := j) (y := n) (by first | omega | decide) (by first | omega | decide) (tgt := 55) dL_leaves_29 (by decide) (fun c29 => ?_) (fun c29 => ?_)
            · refine lv_iload hx hb dL_leaves_55 (lv_at hl 3 rfl) ?_
              refine lv_iload_n hx hb dL_leaves_57 rfl (lv_at hl 7 rfl) ?_
              refine lv_iload hx hb dL_leaves_58 (lv_at hl 2 rfl) ?_
              refine lv_ishr hx hb dL_leaves_60 ?_
              refine lv_iconst (v := nI 1) hx hb dL_leaves_61 (by decide) ?_
              refine lv_iand hx hb dL_leaves_62 ?_
              refine r_top (y := bI (S j12)) (mM_tst _ (by omega)) ?_
              refine lv_iconst (v := nI 1) hx hb dL_leaves_63 (by decide) ?_
              refine r_icmp_neB1 (x := S j12) (tgt := 90) hx hb dL_leaves_64 (by decide) (fun c64 => ?_) (fun c64 => ?_)
              · refine lv_iconst (v := nI 0) hx hb dL_leaves_90 (by decide) ?_
                refine lv_ior hx hb dL_leaves_91 ?_
                refine r_top (y := mM (lfU dc an n S d r)) (mM_or0 _) ?_
                refine lv_istore (lv' := [(5, .int (mM (lfU dc an n S d r))), (8, .int (nI j)), (7, .int (mM (blw an j12 j))), (6, .int (nI j12)), (0, .ref bd), (1, .ref ba), (2, .ref bm), (3, .int (mM S)), (4, .int (nI d))]) hx hb dL_leaves_92 hl (by decide) rfl (fun ls hl => ?_)
                refine lv_iinc (v := eP (prd j12)) (lv' := [(6, .int (eP (prd j12))), (5, .int (mM (lfU dc an n S d r))), (8, .int (nI j)), (7, .int (mM (blw an j12 j))), (0, .ref bd), (1, .ref ba), (2, .ref bm), (3, .int (mM S)), (4, .int (nI d))]) hx hb dL_leaves_94 hl (k := 3) rfl (nI_prd _) (by decide) rfl (fun ls hl => ?_)
                refine lv_goto (tgt := 10) hx hb dL_leaves_97 (by decide) ?_
                have hl := lv_re (f := fun z9 => [(6, .int (eP (prd j12))), (5, .int z9), (8, .int (nI j)), (7, .int (mM (blw an j12 j))), (0, .ref bd), (1, .ref ba), (2, .ref bm), (3, .int (mM S)), (4, .int (nI d))]) hl (show mM (lfU dc an n S d r) = mM (lfU dc an n S d j12) from by rw [e15]; exact lfU_f (by rw [lfB_eq (j := j) hn (by omega) (by omega)]; simp [c12, c29, c64]))
                exact ih10 j12 (by omega) (by omega)  ls  (lv_sub hl [0, 1, 4, 5, 6, 7, 8] rfl)
              · refine lv_aload_n hx hb dL_leaves_67 rfl (lv_at hl 4 rfl) ?_
                refine lv_iload hx hb dL_leaves_68 (lv_at hl 2 rfl) ?_
                refine r_iald (j := j12) (v := nI (dc j12)) hx hb hK.1 hP 0 0 rfl rfl (by omega) (by first | decide | omega) rfl dL_leaves_70 ?_
                have f70 := hTd j12
                refine lv_iload hx hb dL_leaves_71 (lv_at hl 8 rfl) ?_
                refine r_icmp_neN hx hb (x := dc j12) (y := d) (by first | omega | decide) (by first | omega | decide) (tgt := 90) dL_leaves_73 (by decide) (fun c73 => ?_) (fun c73 => ?_)
                · refine lv_iconst (v := nI 0) hx hb dL_leaves_90 (by decide) ?_
                  refine lv_ior hx hb dL_leaves_91 ?_
                  refine r_top (y := mM (lfU dc an n S d r)) (mM_or0 _) ?_
                  refine lv_istore (lv' := [(5, .int (mM (lfU dc an n S d r))), (8, .int (nI j)), (7, .int (mM (blw an j12 j))), (6, .int (nI j12)), (0, .ref bd), (1, .ref ba), (2, .ref bm), (3, .int (mM S)), (4, .int (nI d))]) hx hb dL_leaves_92 hl (by decide) rfl (fun ls hl => ?_)
                  refine lv_iinc (v := eP (prd j12)) (lv' := [(6, .int (eP (prd j12))), (5, .int (mM (lfU dc an n S d r))), (8, .int (nI j)), (7, .int (mM (blw an j12 j))), (0, .ref bd), (1, .ref ba), (2, .ref bm), (3, .int (mM S)), (4, .int (nI d))]) hx hb dL_leaves_94 hl (k := 3) rfl (nI_prd _) (by decide) rfl (fun ls hl => ?_)
                  refine lv_goto (tgt := 10) hx hb dL_leaves_97 (by decide) ?_
                  have hl := lv_re (f := fun z9 => [(6, .int (eP (prd j12))), (5, .int z9), (8, .int (nI j)), (7, .int (mM (blw an j12 j))), (0, .ref bd), (1, .ref ba), (2, .ref bm), (3, .int (mM S)), (4, .int (nI d))]) hl (show mM (lfU dc an n S d r) = mM (lfU dc an n S d j12) from by rw [e15]; exact lfU_f (by rw [lfB_eq (j := j) hn (by omega) (by omega)]; simp [c12, c29, c64, c73]))
                  exact ih10 j12 (by omega) (by omega)  ls  (lv_sub hl [0, 1, 4, 5, 6, 7, 8] rfl)
                · refine lv_iload hx hb dL_leaves_76 (lv_at hl 1 rfl) ?_
                  refine lv_iload_n hx hb dL_leaves_78 rfl (lv_at hl 7 rfl) ?_
                  refine lv_iand hx hb dL_leaves_79 ?_
                  refine r_top (y := mM (mAnd (blw an j12 j) S)) (mM_and _ _) ?_
                  refine r_if_neM (P := (mAnd (blw an j12 j) S)) (tgt := 90) hx hb dL_leaves_80 (by decide) (fun c80 => ?_) (fun c80 => ?_)
                  · refine lv_iconst (v := nI 0) hx hb dL_leaves_90 (by decide) ?_
                    refine lv_ior hx hb dL_leaves_91 ?_
                    refine r_top (y := mM (lfU dc an n S d r)) (mM_or0 _) ?_
                    refine lv_istore (lv' := [(5, .int (mM (lfU dc an n S d r))), (8, .int (nI j)), (7, .int (mM (blw an j12 j))), (6, .int (nI j12)), (0, .ref bd), (1, .ref ba), (2, .ref bm), (3, .int (mM S)), (4, .int (nI d))]) hx hb dL_leaves_92 hl (by decide) rfl (fun ls hl => ?_)
                    refine lv_iinc (v := eP (prd j12)) (lv' := [(6, .int (eP (prd j12))), (5, .int (mM (lfU dc an n S d r))), (8, .int (nI j)), (7, .int (mM (blw an j12 j))), (0, .ref bd), (1, .ref ba), (2, .ref bm), (3, .int (mM S)), (4, .int (nI d))]) hx hb dL_leaves_94 hl (k := 3) rfl (nI_prd _) (by decide) rfl (fun ls hl => ?_)
                    refine lv_goto (tgt := 10) hx hb dL_leaves_97 (by decide) ?_
                    have hl := lv_re (f := fun z9 => [(6, .int (eP (prd j12))), (5, .int z9), (8, .int (nI j)), (7, .int (mM (blw an j12 j))), (0, .ref bd), (1, .ref ba), (2, .ref bm), (3, .int (mM S)), (4, .int (nI d))]) hl (show mM (lfU dc an n S d r) = mM (lfU dc an n S d j12) from by rw [e15]; exact lfU_f (by rw [lfB_eq (j := j) hn (by omega) (by omega)]; simp [c12, c29, c64, c73, c80]))
                    exact ih10 j12 (by omega) (by omega)  ls  (lv_sub hl [0, 1, 4, 5, 6, 7, 8] rfl)
                  · refine lv_iconst (v := nI 1) hx hb dL_leaves_83 (by decide) ?_
                    refine lv_iload hx hb dL_leaves_84 (lv_at hl 2 rfl) ?_
                    refine lv_ishl hx hb dL_leaves_86 ?_
                    refine r_top (y := mM (sgl j12 true)) (mM_shl1 (by omega)) ?_
                    refine lv_goto (tgt := 91) hx hb dL_leaves_87 (by decide) ?_
                    refine lv_ior hx hb dL_leaves_91 ?_
                    refine r_top (y := mM (mOr (lfU dc an n S d r) (sgl j12 true))) (mM_or _ _) ?_
                    refine lv_istore (lv' := [(5, .int (mM (mOr (lfU dc an n S d r) (sgl j12 true)))), (8, .int (nI j)), (7, .int (mM (blw an j12 j))), (6, .int (nI j12)), (0, .ref bd), (1, .ref ba), (2, .ref bm), (3, .int (mM S)), (4, .int (nI d))]) hx hb dL_leaves_92 hl (by decide) rfl (fun ls hl => ?_)
                    refine lv_iinc (v := eP (prd j12)) (lv' := [(6, .int (eP (prd j12))), (5, .int (mM (mOr (lfU dc an n S d r) (sgl j12 true)))), (8, .int (nI j)), (7, .int (mM (blw an j12 j))), (0, .ref bd), (1, .ref ba), (2, .ref bm), (3, .int (mM S)), (4, .int (nI d))]) hx hb dL_leaves_94 hl (k := 3) rfl (nI_prd _) (by decide) rfl (fun ls hl => ?_)
                    refine lv_goto (tgt := 10) hx hb dL_leaves_97 (by decide) ?_
                    have hl := lv_re (f := fun z9 => [(6, .int (eP (prd j12))), (5, .int z9), (8, .int (nI j)), (7, .int (mM (blw an j12 j))), (0, .ref bd), (1, .ref ba), (2, .ref bm), (3, .int (mM S)), (4, .int (nI d))]) hl (show mM (mOr (lfU dc an n S d r) (sgl j12 true)) = mM (lfU dc an n S d j12) from by rw [e15]; exact lfU_t (by rw [lfB_eq (j := j) hn (by omega) (by omega)]; simp [c12, c29, c64, c73, c80]))
                    exact ih10 j12 (by omega) (by omega)  ls  (lv_sub hl [0, 1, 4, 5, 6, 7, 8] rfl)
            · refine lv_iload hx hb dL_leaves_32 (lv_at hl 1 rfl) ?_
              refine lv_aload_n hx hb dL_leaves_34 rfl (lv_at hl 5 rfl) ?_
              refine lv_iload hx hb dL_leaves_35 (lv_at hl 0 rfl) ?_
              refine r_iald (j := j) (v := mM (an j)) hx hb hK.1 hP 1 0 rfl rfl (by omega) (by first | decide | omega) rfl dL_leaves_37 ?_
              refine lv_iload hx hb dL_leaves_38 (lv_at hl 2 rfl) ?_
              refine lv_ishr hx hb dL_leaves_40 ?_
              refine lv_iconst (v := nI 1) hx hb dL_leaves_41 (by decide) ?_
              refine lv_iand hx hb dL_leaves_42 ?_
              refine r_top (y := bI ((an j) j12)) (mM_tst _ (by omega)) ?_
              refine lv_iload hx hb dL_leaves_43 (lv_at hl 0 rfl) ?_
              refine lv_ishl hx hb dL_leaves_45 ?_
              refine r_top (y := mM (sgl j ((an j) j12))) (mM_shl _ (by omega)) ?_
              refine lv_ior hx hb dL_leaves_46 ?_
              refine r_top (y := mM (mOr (blw an j12 j) (sgl j ((an j) j12)))) (mM_or _ _) ?_
              refine lv_istore (lv' := [(7, .int (mM (mOr (blw an j12 j) (sgl j ((an j) j12))))), (8, .int (nI j)), (6, .int (nI j12)), (5, .int (mM (lfU dc an n S d r))), (0, .ref bd), (1, .ref ba), (2, .ref bm), (3, .int (mM S)), (4, .int (nI d))]) hx hb dL_leaves_47 hl (by decide) rfl (fun ls hl => ?_)
              refine lv_iinc (v := nI (j + 1)) (lv' := [(8, .int (nI (j + 1))), (7, .int (mM (mOr (blw an j12 j) (sgl j ((an j) j12))))), (6, .int (nI j12)), (5, .int (mM (lfU dc an n S d r))), (0, .ref bd), (1, .ref ba), (2, .ref bm), (3, .int (mM S)), (4, .int (nI d))]) hx hb dL_leaves_49 hl (k := 1) rfl (nI_1 _) (by decide) rfl (fun ls hl => ?_)
              refine lv_goto (tgt := 24) hx hb dL_leaves_52 (by decide) ?_
              have hl := lv_re (f := fun z9 => [(8, .int (nI (j + 1))), (7, .int z9), (6, .int (nI j12)), (5, .int (mM (lfU dc an n S d r))), (0, .ref bd), (1, .ref ba), (2, .ref bm), (3, .int (mM S)), (4, .int (nI d))]) hl (show mM (mOr (blw an j12 j) (sgl j ((an j) j12))) = mM (blw an j12 (j + 1)) from blw_s hj1)
              exact ih24 (j + 1) (by first | assumption | omega) (by first | assumption | omega) (by omega)  ls  (lv_sub hl [0, 1, 2, 3, 4, 5, 6, 7, 8] rfl)
        have hl := lv_re (f := fun z9 => [(8, .int (nI (j12 + 1))), (7, .int z9), (6, .int (nI j12)), (5, .int (mM (lfU dc an n S d r))), (0, .ref bd), (1, .ref ba), (2, .ref bm), (3, .int (mM S)), (4, .int (nI d))]) hl (show nI 0 = mM (blw an j12 (j12 + 1)) from blw_0)
        exact key24 ((n - (j12 + 1)) + 1) (j12 + 1) (by first | assumption | omega) (by first | assumption | omega) (Nat.lt_succ_self _)  ls  (lv_sub hl [0, 1, 2, 3, 4, 5, 6, 7, 8] rfl)
  have hl := lv_re (f := fun z9 => [(6, .int (eP (prd n))), (5, .int z9), (0, .ref bd), (1, .ref ba), (2, .ref bm), (3, .int (mM S)), (4, .int (nI d))]) hl (show nI 0 = mM (lfU dc an n S d n) from lfU_0)
  exact key10 (n + 1) n (by first | assumption | omega) (Nat.lt_succ_self _)  ls  (lv_sub hl [0, 1, 2, 3, 4, 5, 6] rfl)
set_option maxHeartbeats 1000000 in
set_option maxRecDepth 100000 in
theorem cL_rank_ok (l : Launch) (D : va_G) (ct : Nat → ClassId) (bv : Nat) (bg : Nat) (bu : Nat) (vo : Nat → Option Nat) (ge : Nat → Nat) (un : Nat → Nat) (k : Nat) (hTv : ∀ k j, vo k = some j → j < 100) (hTg : ∀ k, ge k ≤ 150) (hTu : ∀ k, un k < 997) (hk : k < 24) : Met l yL_rank wsL_rank ({ frames := 0, cells := 0, slots := 0, locals := 0 } : Room) (roPc D ct [.ref bv, .ref bg, .ref bu, .int (nI k)] (wAP ct bv 24 vo ++ wAN ct bg 24 ge ++ wAN ct bu 24 un)) (rqI (nI (rk vo ge un k))) 0 0 (fun _ => False) := by
  refine Met.ofW (cc := cL_rank) (maxL := 4) (ret := (some .int)) (by decide) rfl ?_
  intro p e s m args below meth c s₁ B hml hv
  obtain ⟨rfl, hP, hK⟩ := hv
  have hx := B.exec
  have hb := B.bytes
  have hr := B.returns
  have hts := atoms_spec (ws := wsL_rank) B.pre
  have hown : s.vm.findClass RL = some m.cls := findClass_of_methodNamed B.named
  have hlocks := B.notSynchronized
  have hl := lv_entry ([.ref bv, .ref bg, .ref bu, .int (nI k)]) (n := 4) (Nat.le_of_ble_eq_true rfl)
  rw [lg_entry_eq]
  generalize (lg_sl ([.ref bv, .ref bg, .ref bu, .int (nI k)]) ++ List.replicate (4 - (lg_sl ([.ref bv, .ref bg, .ref bu, .int (nI k)])).length) Slot.unset).toArray = ls at hl ⊢
  have hl : lv_has ls 4 [(0, .ref bv), (1, .ref bg), (2, .ref bu), (3, .int (nI k))] := hl
  refine lv_aload_n hx hb dL_rank_0 rfl (lv_at hl 0 rfl) ?_
  refine lv_iload_n hx hb dL_rank_1 rfl (lv_at hl 3 rfl) ?_
  refine r_iald (j := k) (v := eP (vo k)) hx hb hK.1 hP 0 0 rfl rfl (by omega) (by first | decide | omega) rfl dL_rank_2 ?_
  refine r_if_ltP hx hb (x := vo k) (by intro j9 h9; have := hTv _ _ h9; omega) (tgt := 11) dL_rank_3 (by decide) (fun c3 => ?_) (fun j3 c3 => ?_)
  · refine lv_iconst (v := nI 0) hx hb dL_rank_11 (by decide) ?_
    refine lv_aload_n hx hb dL_rank_12 rfl (lv_at hl 1 rfl) ?_
    refine lv_iload_n hx hb dL_rank_13 rfl (lv_at hl 3 rfl) ?_
    refine r_iald (j := k) (v := nI (ge k)) hx hb hK.1 hP 1 0 rfl rfl (by omega) (by first | decide | omega) rfl dL_rank_14 ?_
    have f14 := hTg k
    refine r_iaddN hx hb dL_rank_15 ?_
    refine lv_sipush (v := nI 1000) hx hb dL_rank_16 (by decide) ?_
    refine r_imulN hx hb dL_rank_19 ?_
    refine lv_aload_n hx hb dL_rank_20 rfl (lv_at hl 2 rfl) ?_
    refine lv_iload_n hx hb dL_rank_21 rfl (lv_at hl 3 rfl) ?_
    refine r_iald (j := k) (v := nI (un k)) hx hb hK.1 hP 2 0 rfl rfl (by omega) (by first | decide | omega) rfl dL_rank_22 ?_
    have f22 := hTu k
    refine r_iaddN hx hb dL_rank_23 ?_
    refine r_top (y := nI (rk vo ge un k)) (congrArg nI (show (((0 + (ge k)) * 1000) + (un k)) = (rk vo ge un k) from by simp [rk, c3])) ?_
    exact W.iret hx hb hr (fun t ht hW => ⟨_, rfl, rfl, ht⟩) (fun _ h => by cases h) dL_rank_24
  · refine lv_bipush (v := nI 64) hx hb dL_rank_6 (by decide) ?_
    refine lv_goto (tgt := 12) hx hb dL_rank_8 (by decide) ?_
    refine lv_aload_n hx hb dL_rank_12 rfl (lv_at hl 1 rfl) ?_
    refine lv_iload_n hx hb dL_rank_13 rfl (lv_at hl 3 rfl) ?_
    refine r_iald (j := k) (v := nI (ge k)) hx hb hK.1 hP 1 0 rfl rfl (by omega) (by first | decide | omega) rfl dL_rank_14 ?_
    have f14 := hTg k
    refine r_iaddN hx hb dL_rank_15 ?_
    refine lv_sipush (v := nI 1000) hx hb dL_rank_16 (by decide) ?_
    refine r_imulN hx hb dL_rank_19 ?_
    refine lv_aload_n hx hb dL_rank_20 rfl (lv_at hl 2 rfl) ?_
    refine lv_iload_n hx hb dL_rank_21 rfl (lv_at hl 3 rfl) ?_
    refine r_iald (j := k) (v := nI (un k)) hx hb hK.1 hP 2 0 rfl rfl (by omega) (by first | decide | omega) rfl dL_rank_22 ?_
    have f22 := hTu k
    refine r_iaddN hx hb dL_rank_23 ?_
    refine r_top (y := nI (rk vo ge un k)) (congrArg nI (show (((64 + (ge k)) * 1000) + (un k)) = (rk vo ge un k) from by simp [rk, c3])) ?_
    exact W.iret hx hb hr (fun t ht hW => ⟨_, rfl, rfl, ht⟩) (fun _ h => by cases h) dL_rank_24
set_option maxHeartbeats 1000000 in
set_option maxRecDepth 100000 in
theorem cL_winner_ok (l : Launch) (D : va_G) (ct : Nat → ClassId) (bd : Nat) (bv : Nat) (bg : Nat) (bu : Nat) (ba : Nat) (bm : Nat) (dc : Nat → Nat) (vo : Nat → Option Nat) (ge : Nat → Nat) (un : Nat → Nat) (an : Nat → Nat → Bool) (n : Nat) (S : Nat → Bool) (d : Nat) (hn : n ≤ 24) (hTd : ∀ k, dc k < 4) (hTv : ∀ k j, vo k = some j → j < 100) (hTg : ∀ k, ge k ≤ 150) (hTu : ∀ k, un k < 997) (hd4 : d < 4) : Met l yL_winner wsL_winner ({ frames := 1, cells := 0, slots := 0, locals := 28 } : Room) (roPc D ct [.ref bd, .ref bv, .ref bg, .ref bu, .ref ba, .ref bm, .int (mM S), .int (nI d)] (wAN ct bd 24 dc ++ wAP ct bv 24 vo ++ wAN ct bg 24 ge ++ wAN ct bu 24 un ++ wAM ct ba 24 an ++ wA1 ct bm n)) (rqI (eP (wnS (lfB dc an n S d) (rk vo ge un) n))) 0 0 (fun _ => False) := by
  refine Met.ofW (cc := cL_winner) (maxL := 11) (ret := (some .int)) (by decide) rfl ?_
  intro p e s m args below meth c s₁ B hml hv
  obtain ⟨rfl, hP, hK⟩ := hv
  have hx := B.exec
  have hb := B.bytes
  have hr := B.returns
  have hts := atoms_spec (ws := wsL_winner) B.pre
  have hown : s.vm.findClass RL = some m.cls := findClass_of_methodNamed B.named
  have hlocks := B.notSynchronized
  have hl := lv_entry ([.ref bd, .ref bv, .ref bg, .ref bu, .ref ba, .ref bm, .int (mM S), .int (nI d)]) (n := 11) (Nat.le_of_ble_eq_true rfl)
  rw [lg_entry_eq]
  generalize (lg_sl ([.ref bd, .ref bv, .ref bg, .ref bu, .ref ba, .ref bm, .int (mM S), .int (nI d)]) ++ List.replicate (11 - (lg_sl ([.ref bd, .ref bv, .ref bg, .ref bu, .ref ba, .ref bm, .int (mM S), .int (nI d)])).length) Slot.unset).toArray = ls at hl ⊢
  have hl : lv_has ls 11 [(0, .ref bd), (1, .ref bv), (2, .ref bg), (3, .ref bu), (4, .ref ba), (5, .ref bm), (6, .int (mM S)), (7, .int (nI d))] := hl
  refine lv_aload_n hx hb dL_winner_0 rfl (lv_at hl 0 rfl) ?_
  refine lv_aload hx hb dL_winner_1 (lv_at hl 4 rfl) ?_
  refine lv_aload hx hb dL_winner_3 (lv_at hl 5 rfl) ?_
  refine lv_iload hx hb dL_winner_5 (lv_at hl 6 rfl) ?_
  refine lv_iload hx hb dL_winner_7 (lv_at hl 7 rfl) ?_
  refine r_cS (As := [.ref bd, .ref ba, .ref bm, .int (mM S), .int (nI d)]) (rest := []) ⟨hx, hb, hml, hown, hts⟩ (cL_leaves_ok l D ct bd ba bm dc an n S d (by first | assumption | omega) (by first | assumption | omega) (by first | assumption | omega)) (va_cwS 5 hts gL_winner_L_leaves rfl rfl rfl (by decide +kernel) ⟨Nat.le_of_ble_eq_true rfl, Nat.le_of_ble_eq_true rfl⟩) hK (hP.sub (ws' := wAN ct bd 24 dc ++ wAM ct ba 24 an ++ wA1 ct bm n) [0, 4, 5] rfl) rfl hl.1 rfl (Nat.le_of_ble_eq_true rfl) dL_winner_9 ⟨Nat.le_of_ble_eq_true rfl, Nat.le_of_ble_eq_true rfl⟩ ?_
  refine lv_istore (lv' := [(8, .int (mM (lfB dc an n S d))), (0, .ref bd), (1, .ref bv), (2, .ref bg), (3, .ref bu), (4, .ref ba), (5, .ref bm), (6, .int (mM S)), (7, .int (nI d))]) hx hb dL_winner_12 hl (by decide) rfl (fun ls hl => ?_)
  refine lv_iconst (v := -1) hx hb dL_winner_14 (by decide) ?_
  refine lv_istore (lv' := [(9, .int (eP none)), (8, .int (mM (lfB dc an n S d))), (0, .ref bd), (1, .ref bv), (2, .ref bg), (3, .ref bu), (4, .ref ba), (5, .ref bm), (6, .int (mM S)), (7, .int (nI d))]) hx hb dL_winner_15 hl (by decide) rfl (fun ls hl => ?_)
  refine lv_iconst (v := nI 0) hx hb dL_winner_17 (by decide) ?_
  refine lv_istore (lv' := [(10, .int (nI 0)), (9, .int (eP none)), (8, .int (mM (lfB dc an n S d))), (0, .ref bd), (1, .ref bv), (2, .ref bg), (3, .ref bu), (4, .ref ba), (5, .ref bm), (6, .int (mM S)), (7, .int (nI d))]) hx hb dL_winner_18 hl (by decide) rfl (fun ls hl => ?_)
  have key20 : ∀ (d20 : Nat) (k : Nat) (hk : k ≤ n), n - k < d20 → ∀  (ls : Array Slot), lv_has ls 11 [(10, .int (nI k)), (9, .int (eP (wnS (lfB dc an n S d) (rk vo ge un) k))), (8, .int (mM (lfB dc an n S d))), (0, .ref bd), (1, .ref bv), (2, .ref bg), (3, .ref bu), (4, .ref ba), (5, .ref bm), (6, .int (mM S)), (7, .int (nI d))] → W p l e ({ frames := 1, cells := 0, slots := 0, locals := 28 } : Room) s m ([.ref bd, .ref bv, .ref bg, .ref bu, .ref ba, .ref bm, .int (mM S), .int (nI d)] : List Value).toArray below meth c s.heap [] 0 0 (MQ below (rqI (eP (wnS (lfB dc an n S d) (rk vo ge un) n))) ([.ref bd, .ref bv, .ref bg, .ref bu, .ref ba, .ref bm, .int (mM S), .int (nI d)] : List Value).toArray s 0 0 (fun _ => False)) (F0 m 20 ls []) := by
    intro d20
    induction d20 with
    | zero => intro k hk h9; exact absurd h9 (Nat.not_lt_zero _)
    | succ d20 ih20 =>
      intro k hk hm20  ls  hl
      refine lv_iload hx hb dL_winner_20 (lv_at hl 0 rfl) ?_
      refine lv_aload hx hb dL_winner_22 (lv_at hl 8 rfl) ?_
      refine lv_iconst (v := nI 0) hx hb dL_winner_24 (by decide) ?_
      refine r_iald (j := 0) (v := nI n) hx hb hK.1 hP 5 0 rfl rfl (by omega) (by first | decide | omega) rfl dL_winner_25 ?_
      refine r_icmp_geN hx hb (x := k) (y := n) (by first | omega | decide) (by first | omega | decide) (tgt := 79) dL_winner_26 (by decide) (fun c26 => ?_) (fun c26 => ?_)
      · refine lv_iload hx hb dL_winner_79 (lv_at hl 1 rfl) ?_
        refine r_top (y := eP (wnS (lfB dc an n S d) (rk vo ge un) n)) (congrArg eP (show (wnS (lfB dc an n S d) (rk vo ge un) k) = (wnS (lfB dc an n S d) (rk vo ge un) n) from by rw [show k = n by omega])) ?_
        exact W.iret hx hb hr (fun t ht hW => ⟨_, rfl, rfl, ht⟩) (fun _ h => by cases h) dL_winner_81
      · refine lv_iload hx hb dL_winner_29 (lv_at hl 2 rfl) ?_
        refine lv_iload hx hb dL_winner_31 (lv_at hl 0 rfl) ?_
        refine lv_ishr hx hb dL_winner_33 ?_
        refine lv_iconst (v := nI 1) hx hb dL_winner_34 (by decide) ?_
        refine lv_iand hx hb dL_winner_35 ?_
        refine r_top (y := bI ((lfB dc an n S d) k)) (mM_tst _ (by omega)) ?_
        refine lv_iconst (v := nI 1) hx hb dL_winner_36 (by decide) ?_
        refine r_icmp_neB1 (x := (lfB dc an n S d) k) (tgt := 69) hx hb dL_winner_37 (by decide) (fun c37 => ?_) (fun c37 => ?_)
        · refine lv_iload hx hb dL_winner_69 (lv_at hl 1 rfl) ?_
          refine lv_istore (lv' := [(9, .int (eP (wnS (lfB dc an n S d) (rk vo ge un) k))), (10, .int (nI k)), (8, .int (mM (lfB dc an n S d))), (0, .ref bd), (1, .ref bv), (2, .ref bg), (3, .ref bu), (4, .ref ba), (5, .ref bm), (6, .int (mM S)), (7, .int (nI d))]) hx hb dL_winner_71 hl (by decide) rfl (fun ls hl => ?_)
          refine lv_iinc (v := nI (k + 1)) (lv' := [(10, .int (nI (k + 1))), (9, .int (eP (wnS (lfB dc an n S d) (rk vo ge un) k))), (8, .int (mM (lfB dc an n S d))), (0, .ref bd), (1, .ref bv), (2, .ref bg), (3, .ref bu), (4, .ref ba), (5, .ref bm), (6, .int (mM S)), (7, .int (nI d))]) hx hb dL_winner_73 hl (k := 1) rfl (nI_1 _) (by decide) rfl (fun ls hl => ?_)
          refine lv_goto (tgt := 20) hx hb dL_winner_76 (by decide) ?_
          have hl := lv_re (f := fun z9 => [(10, .int (nI (k + 1))), (9, .int z9), (8, .int (mM (lfB dc an n S d))), (0, .ref bd), (1, .ref bv), (2, .ref bg), (3, .ref bu), (4, .ref ba), (5, .ref bm), (6, .int (mM S)), (7, .int (nI d))]) hl (show eP (wnS (lfB dc an n S d) (rk vo ge un) k) = eP (wnS (lfB dc an n S d) (rk vo ge un) (k + 1)) from congrArg eP (show (wnS (lfB dc an n S d) (rk vo ge un) k) = (wnS (lfB dc an n S d) (rk vo ge un) (k + 1)) from by first | (simp [wnS, c26, c37]; done) | (simp [wnS, c26, c37]; omega)))
          exact ih20 (k + 1) (by first | assumption | omega) (by omega)  ls  (lv_sub hl [0, 1, 2, 3, 4, 5, 6, 7, 8, 9, 10] rfl)
        · refine lv_iload hx hb dL_winner_40 (lv_at hl 1 rfl) ?_
          refine r_if_ltP hx hb (x := wnS (lfB dc an n S d) (rk vo ge un) k) (by intro j9 h9; have := (wnS_lt h9).1; omega) (tgt := 64) dL_winner_42 (by decide) (fun c42 => ?_) (fun j42 c42 => ?_)
          · have hl := lv_re (f := fun z9 => [(10, .int (nI k)), (9, .int z9), (8, .int (mM (lfB dc an n S d))), (0, .ref bd), (1, .ref bv), (2, .ref bg), (3, .ref bu), (4, .ref ba), (5, .ref bm), (6, .int (mM S)), (7, .int (nI d))]) hl (show eP (wnS (lfB dc an n S d) (rk vo ge un) k) = eP none from congrArg eP c42)
            refine lv_iload hx hb dL_winner_64 (lv_at hl 0 rfl) ?_
            refine lv_goto (tgt := 71) hx hb dL_winner_66 (by decide) ?_
            refine lv_istore (lv' := [(9, .int (nI k)), (10, .int (nI k)), (8, .int (mM (lfB dc an n S d))), (0, .ref bd), (1, .ref bv), (2, .ref bg), (3, .ref bu), (4, .ref ba), (5, .ref bm), (6, .int (mM S)), (7, .int (nI d))]) hx hb dL_winner_71 hl (by decide) rfl (fun ls hl => ?_)
            refine lv_iinc (v := nI (k + 1)) (lv' := [(10, .int (nI (k + 1))), (9, .int (nI k)), (8, .int (mM (lfB dc an n S d))), (0, .ref bd), (1, .ref bv), (2, .ref bg), (3, .ref bu), (4, .ref ba), (5, .ref bm), (6, .int (mM S)), (7, .int (nI d))]) hx hb dL_winner_73 hl (k := 1) rfl (nI_1 _) (by decide) rfl (fun ls hl => ?_)
            refine lv_goto (tgt := 20) hx hb dL_winner_76 (by decide) ?_
            have hl := lv_re (f := fun z9 => [(10, .int (nI (k + 1))), (9, .int z9), (8, .int (mM (lfB dc an n S d))), (0, .ref bd), (1, .ref bv), (2, .ref bg), (3, .ref bu), (4, .ref ba), (5, .ref bm), (6, .int (mM S)), (7, .int (nI d))]) hl (show nI k = eP (wnS (lfB dc an n S d) (rk vo ge un) (k + 1)) from congrArg eP (show some k = (wnS (lfB dc an n S d) (rk vo ge un) (k + 1)) from by first | (simp [wnS, c26, c37, c42]; done) | (simp [wnS, c26, c37, c42]; omega)))
            exact ih20 (k + 1) (by first | assumption | omega) (by omega)  ls  (lv_sub hl [0, 1, 2, 3, 4, 5, 6, 7, 8, 9, 10] rfl)
          · have hl := lv_re (f := fun z9 => [(10, .int (nI k)), (9, .int z9), (8, .int (mM (lfB dc an n S d))), (0, .ref bd), (1, .ref bv), (2, .ref bg), (3, .ref bu), (4, .ref ba), (5, .ref bm), (6, .int (mM S)), (7, .int (nI d))]) hl (show eP (wnS (lfB dc an n S d) (rk vo ge un) k) = nI j42 from congrArg eP c42)
            have e45 := (wnS_lt c42).1
            have e45a := rk_b (vo := vo) hTg hTu k
            have e45b := rk_b (vo := vo) hTg hTu j42
            refine lv_aload_n hx hb dL_winner_45 rfl (lv_at hl 4 rfl) ?_
            refine lv_aload_n hx hb dL_winner_46 rfl (lv_at hl 5 rfl) ?_
            refine lv_aload_n hx hb dL_winner_47 rfl (lv_at hl 6 rfl) ?_
            refine lv_iload hx hb dL_winner_48 (lv_at hl 0 rfl) ?_
            refine r_cS (As := [.ref bv, .ref bg, .ref bu, .int (nI k)]) (rest := []) ⟨hx, hb, hml, hown, hts⟩ (cL_rank_ok l D ct bv bg bu vo ge un k (by first | assumption | omega) (by first | assumption | omega) (by first | assumption | omega) (by first | assumption | omega)) (va_cwS 4 hts gL_winner_L_rank rfl rfl rfl (by decide +kernel) ⟨Nat.le_of_ble_eq_true rfl, Nat.le_of_ble_eq_true rfl⟩) hK (hP.sub (ws' := wAP ct bv 24 vo ++ wAN ct bg 24 ge ++ wAN ct bu 24 un) [1, 2, 3] rfl) rfl hl.1 rfl (Nat.le_of_ble_eq_true rfl) dL_winner_50 ⟨Nat.le_of_ble_eq_true rfl, Nat.le_of_ble_eq_true rfl⟩ ?_
            refine lv_aload_n hx hb dL_winner_53 rfl (lv_at hl 4 rfl) ?_
            refine lv_aload_n hx hb dL_winner_54 rfl (lv_at hl 5 rfl) ?_
            refine lv_aload_n hx hb dL_winner_55 rfl (lv_at hl 6 rfl) ?_
            refine lv_iload hx hb dL_winner_56 (lv_at hl 1 rfl) ?_
            refine r_cS (As := [.ref bv, .ref bg, .ref bu, .int (nI j42)]) (rest := [.int (nI (rk vo ge un k))]) ⟨hx, hb, hml, hown, hts⟩ (cL_rank_ok l D ct bv bg bu vo ge un j42 (by first | assumption | omega) (by first | assumption | omega) (by first | assumption | omega) (by first | assumption | omega)) (va_cwS 4 hts gL_winner_L_rank rfl rfl rfl (by decide +kernel) ⟨Nat.le_of_ble_eq_true rfl, Nat.le_of_ble_eq_true rfl⟩) hK (hP.sub (ws' := wAP ct bv 24 vo ++ wAN ct bg 24 ge ++ wAN ct bu 24 un) [1, 2, 3] rfl) rfl hl.1 rfl (Nat.le_of_ble_eq_true rfl) dL_winner_58 ⟨Nat.le_of_ble_eq_true rfl, Nat.le_of_ble_eq_true rfl⟩ ?_
            refine r_icmp_leN hx hb (x := rk vo ge un k) (y := rk vo ge un j42) (by first | omega | decide) (by first | omega | decide) (tgt := 69) dL_winner_61 (by decide) (fun c61 => ?_) (fun c61 => ?_)
            · refine lv_iload hx hb dL_winner_69 (lv_at hl 1 rfl) ?_
              refine lv_istore (lv' := [(9, .int (nI j42)), (10, .int (nI k)), (8, .int (mM (lfB dc an n S d))), (0, .ref bd), (1, .ref bv), (2, .ref bg), (3, .ref bu), (4, .ref ba), (5, .ref bm), (6, .int (mM S)), (7, .int (nI d))]) hx hb dL_winner_71 hl (by decide) rfl (fun ls hl => ?_)
              refine lv_iinc (v := nI (k + 1)) (lv' := [(10, .int (nI (k + 1))), (9, .int (nI j42)), (8, .int (mM (lfB dc an n S d))), (0, .ref bd), (1, .ref bv), (2, .ref bg), (3, .ref bu), (4, .ref ba), (5, .ref bm), (6, .int (mM S)), (7, .int (nI d))]) hx hb dL_winner_73 hl (k := 1) rfl (nI_1 _) (by decide) rfl (fun ls hl => ?_)
              refine lv_goto (tgt := 20) hx hb dL_winner_76 (by decide) ?_
              have hl := lv_re (f := fun z9 => [(10, .int (nI (k + 1))), (9, .int z9), (8, .int (mM (lfB dc an n S d))), (0, .ref bd), (1, .ref bv), (2, .ref bg), (3, .ref bu), (4, .ref ba), (5, .ref bm), (6, .int (mM S)), (7, .int (nI d))]) hl (show nI j42 = eP (wnS (lfB dc an n S d) (rk vo ge un) (k + 1)) from congrArg eP (show some j42 = (wnS (lfB dc an n S d) (rk vo ge un) (k + 1)) from by first | (simp [wnS, c26, c37, c42, c61]; done) | (simp [wnS, c26, c37, c42, c61]; omega)))
              exact ih20 (k + 1) (by first | assumption | omega) (by omega)  ls  (lv_sub hl [0, 1, 2, 3, 4, 5, 6, 7, 8, 9, 10] rfl)
            · refine lv_iload hx hb dL_winner_64 (lv_at hl 0 rfl) ?_
              refine lv_goto (tgt := 71) hx hb dL_winner_66 (by decide) ?_
              refine lv_istore (lv' := [(9, .int (nI k)), (10, .int (nI k)), (8, .int (mM (lfB dc an n S d))), (0, .ref bd), (1, .ref bv), (2, .ref bg), (3, .ref bu), (4, .ref ba), (5, .ref bm), (6, .int (mM S)), (7, .int (nI d))]) hx hb dL_winner_71 hl (by decide) rfl (fun ls hl => ?_)
              refine lv_iinc (v := nI (k + 1)) (lv' := [(10, .int (nI (k + 1))), (9, .int (nI k)), (8, .int (mM (lfB dc an n S d))), (0, .ref bd), (1, .ref bv), (2, .ref bg), (3, .ref bu), (4, .ref ba), (5, .ref bm), (6, .int (mM S)), (7, .int (nI d))]) hx hb dL_winner_73 hl (k := 1) rfl (nI_1 _) (by decide) rfl (fun ls hl => ?_)
              refine lv_goto (tgt := 20) hx hb dL_winner_76 (by decide) ?_
              have hl := lv_re (f := fun z9 => [(10, .int (nI (k + 1))), (9, .int z9), (8, .int (mM (lfB dc an n S d))), (0, .ref bd), (1, .ref bv), (2, .ref bg), (3, .ref bu), (4, .ref ba), (5, .ref bm), (6, .int (mM S)), (7, .int (nI d))]) hl (show nI k = eP (wnS (lfB dc an n S d) (rk vo ge un) (k + 1)) from congrArg eP (show some k = (wnS (lfB dc an n S d) (rk vo ge un) (k + 1)) from by first | (simp [wnS, c26, c37, c42, c61]; done) | (simp [wnS, c26, c37, c42, c61]; omega)))
              exact ih20 (k + 1) (by first | assumption | omega) (by omega)  ls  (lv_sub hl [0, 1, 2, 3, 4, 5, 6, 7, 8, 9, 10] rfl)
  have hl := lv_re (f := fun z9 => [(10, .int (nI 0)), (9, .int z9), (8, .int (mM (lfB dc an n S d))), (0, .ref bd), (1, .ref bv), (2, .ref bg), (3, .ref bu), (4, .ref ba), (5, .ref bm), (6, .int (mM S)), (7, .int (nI d))]) hl (show eP none = eP (wnS (lfB dc an n S d) (rk vo ge un) 0) from congrArg eP (show none = (wnS (lfB dc an n S d) (rk vo ge un) 0) from rfl))
  exact key20 ((n - 0) + 1) 0 (by first | assumption | omega) (Nat.lt_succ_self _)  ls  (lv_sub hl [0, 1, 2, 3, 4, 5, 6, 7, 8, 9, 10] rfl)
set_option maxHeartbeats 1000000 in
set_option maxRecDepth 100000 in
theorem cL_ones_ok (l : Launch) (D : va_G) (ct : Nat → ClassId) (P : Nat → Bool)  : Met l yL_ones wsL_ones ({ frames := 0, cells := 0, slots := 0, locals := 0 } : Room) (roPc D ct [.int (mM P)] (([] : va_W))) (rqI (nI (fct P 24))) 0 0 (fun _ => False) := by
  refine Met.ofW (cc := cL_ones) (maxL := 3) (ret := (some .int)) (by decide) rfl ?_
  intro p e s m args below meth c s₁ B hml hv
  obtain ⟨rfl, hP, hK⟩ := hv
  have hx := B.exec
  have hb := B.bytes
  have hr := B.returns
  have hts := atoms_spec (ws := wsL_ones) B.pre
  have hown : s.vm.findClass RL = some m.cls := findClass_of_methodNamed B.named
  have hlocks := B.notSynchronized
  have hl := lv_entry ([.int (mM P)]) (n := 3) (Nat.le_of_ble_eq_true rfl)
  rw [lg_entry_eq]
  generalize (lg_sl ([.int (mM P)]) ++ List.replicate (3 - (lg_sl ([.int (mM P)])).length) Slot.unset).toArray = ls at hl ⊢
  have hl : lv_has ls 3 [(0, .int (mM P))] := hl
  refine lv_iconst (v := nI 0) hx hb dL_ones_0 (by decide) ?_
  refine lv_istore_n (lv' := [(1, .int (nI 0)), (0, .int (mM P))]) hx hb dL_ones_1 rfl hl (by decide) rfl (fun ls hl => ?_)
  refine lv_iload_n hx hb dL_ones_2 rfl (lv_at hl 1 rfl) ?_
  refine lv_istore_n (lv' := [(2, .int (mM P)), (1, .int (nI 0)), (0, .int (mM P))]) hx hb dL_ones_3 rfl hl (by decide) rfl (fun ls hl => ?_)
  have key4 : ∀ (d4 : Nat) (T : Nat → Bool) (w : Nat) (hq : w + fct T 24 = fct P 24), fct T 24 < d4 → ∀  (ls : Array Slot), lv_has ls 3 [(2, .int (mM T)), (1, .int (nI w)), (0, .int (mM P))] → W p l e ({ frames := 0, cells := 0, slots := 0, locals := 0 } : Room) s m ([.int (mM P)] : List Value).toArray below meth c s.heap [] 0 0 (MQ below (rqI (nI (fct P 24))) ([.int (mM P)] : List Value).toArray s 0 0 (fun _ => False)) (F0 m 4 ls []) := by
    intro d4
    induction d4 with
    | zero => intro T w hq h9; exact absurd h9 (Nat.not_lt_zero _)
    | succ d4 ih4 =>
      intro T w hq hm4  ls  hl
      refine lv_iload_n hx hb dL_ones_4 rfl (lv_at hl 0 rfl) ?_
      refine r_if_eqM (P := T) (tgt := 20) hx hb dL_ones_5 (by decide) (fun c5 => ?_) (fun c5 => ?_)
      · refine lv_iload_n hx hb dL_ones_20 rfl (lv_at hl 1 rfl) ?_
        refine r_top (y := nI (fct P 24)) (congrArg nI (show w = (fct P 24) from by have := fct_z c5; omega)) ?_
        exact W.iret hx hb hr (fun t ht hW => ⟨_, rfl, rfl, ht⟩) (fun _ h => by cases h) dL_ones_21
      · obtain ⟨k9, hk9, hq9, he9⟩ := mM_dec c5
        refine lv_iinc (v := nI (w + 1)) (lv' := [(1, .int (nI (w + 1))), (2, .int (mM T)), (0, .int (mM P))]) hx hb dL_ones_8 hl (k := 1) rfl (nI_1 _) (by decide) rfl (fun ls hl => ?_)
        refine lv_iload_n hx hb dL_ones_11 rfl (lv_at hl 1 rfl) ?_
        refine lv_iload_n hx hb dL_ones_12 rfl (lv_at hl 1 rfl) ?_
        refine lv_iconst (v := nI 1) hx hb dL_ones_13 (by decide) ?_
        refine lv_isub hx hb dL_ones_14 ?_
        refine lv_iand hx hb dL_ones_15 ?_
        refine r_top (y := mM (fun i => T i && !decide (i = k9))) (he9) ?_
        refine lv_istore_n (lv' := [(2, .int (mM (fun i => T i && !decide (i = k9)))), (1, .int (nI (w + 1))), (0, .int (mM P))]) hx hb dL_ones_16 rfl hl (by decide) rfl (fun ls hl => ?_)
        refine lv_goto (tgt := 4) hx hb dL_ones_17 (by decide) ?_
        exact ih4 (fun i => T i && !decide (i = k9)) (w + 1) (by have := fct_del hk9 hq9; omega) (by have := fct_del hk9 hq9; omega)  ls  (lv_sub hl [0, 1, 2] rfl)
  exact key4 ((fct P 24) + 1) P 0 (Nat.zero_add _) (Nat.lt_succ_self _)  ls  (lv_sub hl [0, 1, 2] rfl)
set_option maxHeartbeats 1000000 in
set_option maxRecDepth 100000 in
theorem cL_start_ok (l : Launch) (D : va_G) (ct : Nat → ClassId) (bc : Nat) (cc : Nat → Nat) (i : Nat) (j : Nat) (hi : i < 3) (hj : j < 3) (hC : ∀ q, cc q ≤ 1000000) : Met l yL_start wsL_start ({ frames := 0, cells := 0, slots := 0, locals := 0 } : Room) (roPc D ct [.ref bc, .int (nI i), .int (nI j)] (wAN ct bc 27 cc)) (rqI (nI (stN cc i j))) 0 0 (fun _ => False) := by
  refine Met.ofW (cc := cL_start) (maxL := 5) (ret := (some .int)) (by decide) rfl ?_
  intro p e s m args below meth c s₁ B hml hv
  obtain ⟨rfl, hP, hK⟩ := hv
  have hx := B.exec
  have hb := B.bytes
  have hr := B.returns
  have hts := atoms_spec (ws := wsL_start) B.pre
  have hown : s.vm.findClass RL = some m.cls := findClass_of_methodNamed B.named
  have hlocks := B.notSynchronized
  have hl := lv_entry ([.ref bc, .int (nI i), .int (nI j)]) (n := 5) (Nat.le_of_ble_eq_true rfl)
  rw [lg_entry_eq]
  generalize (lg_sl ([.ref bc, .int (nI i), .int (nI j)]) ++ List.replicate (5 - (lg_sl ([.ref bc, .int (nI i), .int (nI j)])).length) Slot.unset).toArray = ls at hl ⊢
  have hl : lv_has ls 5 [(0, .ref bc), (1, .int (nI i)), (2, .int (nI j))] := hl
  refine lv_aload_n hx hb dL_start_0 rfl (lv_at hl 0 rfl) ?_
  refine lv_bipush (v := nI 9) hx hb dL_start_1 (by decide) ?_
  refine lv_iload_n hx hb dL_start_3 rfl (lv_at hl 1 rfl) ?_
  refine r_imulN hx hb dL_start_4 ?_
  refine lv_iconst (v := nI 3) hx hb dL_start_5 (by decide) ?_
  refine lv_iload_n hx hb dL_start_6 rfl (lv_at hl 1 rfl) ?_
  refine r_imulN hx hb dL_start_7 ?_
  refine r_iaddN hx hb dL_start_8 ?_
  refine lv_iload_n hx hb dL_start_9 rfl (lv_at hl 2 rfl) ?_
  refine r_iaddN hx hb dL_start_10 ?_
  refine r_iald (j := ((9 * i) + (3 * i)) + j) (v := nI (cc (((9 * i) + (3 * i)) + j))) hx hb hK.1 hP 0 0 rfl rfl (by omega) (by first | decide | omega) rfl dL_start_11 ?_
  have f11 := hC (((9 * i) + (3 * i)) + j)
  refine lv_istore_n (lv' := [(3, .int (nI (cc (((9 * i) + (3 * i)) + j)))), (0, .ref bc), (1, .int (nI i)), (2, .int (nI j))]) hx hb dL_start_12 rfl hl (by decide) rfl (fun ls hl => ?_)
  refine lv_aload_n hx hb dL_start_13 rfl (lv_at hl 1 rfl) ?_
  refine lv_bipush (v := nI 9) hx hb dL_start_14 (by decide) ?_
  refine lv_iload_n hx hb dL_start_16 rfl (lv_at hl 3 rfl) ?_
  refine r_imulN hx hb dL_start_17 ?_
  refine lv_iconst (v := nI 3) hx hb dL_start_18 (by decide) ?_
  refine lv_iload_n hx hb dL_start_19 rfl (lv_at hl 2 rfl) ?_
  refine r_imulN hx hb dL_start_20 ?_
  refine r_iaddN hx hb dL_start_21 ?_
  refine lv_iload_n hx hb dL_start_22 rfl (lv_at hl 3 rfl) ?_
  refine r_iaddN hx hb dL_start_23 ?_
  refine r_iald (j := ((9 * j) + (3 * i)) + j) (v := nI (cc (((9 * j) + (3 * i)) + j))) hx hb hK.1 hP 0 0 rfl rfl (by omega) (by first | decide | omega) rfl dL_start_24 ?_
  have f24 := hC (((9 * j) + (3 * i)) + j)
  refine lv_istore (lv' := [(4, .int (nI (cc (((9 * j) + (3 * i)) + j)))), (3, .int (nI (cc (((9 * i) + (3 * i)) + j)))), (0, .ref bc), (1, .int (nI i)), (2, .int (nI j))]) hx hb dL_start_25 hl (by decide) rfl (fun ls hl => ?_)
  refine lv_iload_n hx hb dL_start_27 rfl (lv_at hl 1 rfl) ?_
  refine lv_iload hx hb dL_start_28 (lv_at hl 0 rfl) ?_
  refine r_icmp_leN hx hb (x := cc (((9 * i) + (3 * i)) + j)) (y := cc (((9 * j) + (3 * i)) + j)) (by first | omega | decide) (by first | omega | decide) (tgt := 38) dL_start_30 (by decide) (fun c30 => ?_) (fun c30 => ?_)
  · refine lv_iload_n hx hb dL_start_38 rfl (lv_at hl 1 rfl) ?_
    refine r_top (y := nI (stN cc i j)) (congrArg nI (show (cc (((9 * i) + (3 * i)) + j)) = (stN cc i j) from by simp only [stN]; omega)) ?_
    exact W.iret hx hb hr (fun t ht hW => ⟨_, rfl, rfl, ht⟩) (fun _ h => by cases h) dL_start_39
  · refine lv_iload hx hb dL_start_33 (lv_at hl 0 rfl) ?_
    refine lv_goto (tgt := 39) hx hb dL_start_35 (by decide) ?_
    refine r_top (y := nI (stN cc i j)) (congrArg nI (show (cc (((9 * j) + (3 * i)) + j)) = (stN cc i j) from by simp only [stN]; omega)) ?_
    exact W.iret hx hb hr (fun t ht hW => ⟨_, rfl, rfl, ht⟩) (fun _ h => by cases h) dL_start_39
