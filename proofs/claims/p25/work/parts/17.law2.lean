set_option maxHeartbeats 1000000 in
set_option maxRecDepth 100000 in
theorem cL_deep_ok (l : Launch) (D : va_G) (ct : Nat → ClassId) (bd : Nat) (bg : Nat) (ba : Nat) (bm : Nat) (dc : Nat → Nat) (ge : Nat → Nat) (an : Nat → Nat → Bool) (n : Nat) (S : Nat → Bool) (dp : Nat) (hn : n ≤ 24) (hTd : ∀ k, dc k < 4) (hTg : ∀ k, ge k ≤ 150) (hdp : dp ≤ 1000) : Met l yL_deep wsL_deep ({ frames := 1, cells := 0, slots := 0, locals := 28 } : Room) (roPc D ct [.ref bd, .ref bg, .ref ba, .ref bm, .int (mM S), .int (nI dp)] (wAN ct bd 24 dc ++ wAN ct bg 24 ge ++ wAM ct ba 24 an ++ wA1 ct bm n)) (rqI (mM (dpB dc an ge n S dp))) 0 0 (fun _ => False) := by
  refine Met.ofW (cc := cL_deep) (maxL := 13) (ret := (some .int)) (by decide) rfl ?_
  intro p e s m args below meth c s₁ B hml hv
  obtain ⟨rfl, hP, hK⟩ := hv
  have hx := B.exec
  have hb := B.bytes
  have hr := B.returns
  have hts := atoms_spec (ws := wsL_deep) B.pre
  have hown : s.vm.findClass RL = some m.cls := findClass_of_methodNamed B.named
  have hlocks := B.notSynchronized
  have hl := lv_entry ([.ref bd, .ref bg, .ref ba, .ref bm, .int (mM S), .int (nI dp)]) (n := 13) (Nat.le_of_ble_eq_true rfl)
  rw [lg_entry_eq]
  generalize (lg_sl ([.ref bd, .ref bg, .ref ba, .ref bm, .int (mM S), .int (nI dp)]) ++ List.replicate (13 - (lg_sl ([.ref bd, .ref bg, .ref ba, .ref bm, .int (mM S), .int (nI dp)])).length) Slot.unset).toArray = ls at hl ⊢
  have hl : lv_has ls 13 [(0, .ref bd), (1, .ref bg), (2, .ref ba), (3, .ref bm), (4, .int (mM S)), (5, .int (nI dp))] := hl
  refine lv_iconst (v := nI 0) hx hb dL_deep_0 (by decide) ?_
  refine lv_istore (lv' := [(6, .int (nI 0)), (0, .ref bd), (1, .ref bg), (2, .ref ba), (3, .ref bm), (4, .int (mM S)), (5, .int (nI dp))]) hx hb dL_deep_1 hl (by decide) rfl (fun ls hl => ?_)
  refine lv_iconst (v := nI 0) hx hb dL_deep_3 (by decide) ?_
  refine lv_istore (lv' := [(7, .int (nI 0)), (6, .int (nI 0)), (0, .ref bd), (1, .ref bg), (2, .ref ba), (3, .ref bm), (4, .int (mM S)), (5, .int (nI dp))]) hx hb dL_deep_4 hl (by decide) rfl (fun ls hl => ?_)
  have key6 : ∀ (d6 : Nat) (k : Nat) (hk : k ≤ n), n - k < d6 → ∀  (ls : Array Slot), lv_has ls 13 [(7, .int (nI k)), (6, .int (mM (dpU dc an ge n S dp k))), (0, .ref bd), (1, .ref bg), (2, .ref ba), (3, .ref bm), (4, .int (mM S)), (5, .int (nI dp))] → W p l e ({ frames := 1, cells := 0, slots := 0, locals := 28 } : Room) s m ([.ref bd, .ref bg, .ref ba, .ref bm, .int (mM S), .int (nI dp)] : List Value).toArray below meth c s.heap [] 0 0 (MQ below (rqI (mM (dpB dc an ge n S dp))) ([.ref bd, .ref bg, .ref ba, .ref bm, .int (mM S), .int (nI dp)] : List Value).toArray s 0 0 (fun _ => False)) (F0 m 6 ls []) := by
    intro d6
    induction d6 with
    | zero => intro k hk h9; exact absurd h9 (Nat.not_lt_zero _)
    | succ d6 ih6 =>
      intro k hk hm6  ls  hl
      refine lv_iload hx hb dL_deep_6 (lv_at hl 0 rfl) ?_
      refine lv_aload_n hx hb dL_deep_8 rfl (lv_at hl 5 rfl) ?_
      refine lv_iconst (v := nI 0) hx hb dL_deep_9 (by decide) ?_
      refine r_iald (j := 0) (v := nI n) hx hb hK.1 hP 3 0 rfl rfl (by omega) (by first | decide | omega) (rfl) dL_deep_10 ?_
      refine r_icmp_geN hx hb (x := k) (y := n) (by first | omega | decide) (by first | omega | decide) (tgt := 166) dL_deep_11 (by decide) (fun c11 => ?_) (fun c11 => ?_)
      · refine lv_iload hx hb dL_deep_166 (lv_at hl 1 rfl) ?_
        refine r_top (y := mM (dpB dc an ge n S dp)) (by rw [show k = n by omega]; exact dpU_n) ?_
        exact W.iret hx hb hr (fun t ht hW => ⟨_, rfl, rfl, ht⟩) (fun _ h => by cases h) dL_deep_168
      · refine lv_aload_n hx hb dL_deep_14 rfl (lv_at hl 2 rfl) ?_
        refine lv_aload_n hx hb dL_deep_15 rfl (lv_at hl 4 rfl) ?_
        refine lv_aload_n hx hb dL_deep_16 rfl (lv_at hl 5 rfl) ?_
        refine lv_iload hx hb dL_deep_17 (lv_at hl 6 rfl) ?_
        refine lv_aload_n hx hb dL_deep_19 rfl (lv_at hl 2 rfl) ?_
        refine lv_iload hx hb dL_deep_20 (lv_at hl 0 rfl) ?_
        refine r_iald (j := k) (v := nI (dc k)) hx hb hK.1 hP 0 0 rfl rfl (by omega) (by first | decide | omega) (rfl) dL_deep_22 ?_
        have f22 := hTd k
        refine r_cS (As := [.ref bd, .ref ba, .ref bm, .int (mM S), .int (nI (dc k))]) (rest := []) ⟨hx, hb, hml, hown, hts⟩ (cL_leaves_ok l D ct bd ba bm dc an n S (dc k) (by first | assumption | omega) (by first | assumption | omega) (hTd _)) (va_cwS 5 hts gL_deep_L_leaves rfl rfl rfl (by decide +kernel) ⟨Nat.le_of_ble_eq_true rfl, Nat.le_of_ble_eq_true rfl⟩) hK (hP.sub (ws' := wAN ct bd 24 dc ++ wAM ct ba 24 an ++ wA1 ct bm n) [0, 2, 3] rfl) rfl hl.1 rfl (Nat.le_of_ble_eq_true rfl) dL_deep_23 ⟨Nat.le_of_ble_eq_true rfl, Nat.le_of_ble_eq_true rfl⟩ ?_
        refine lv_istore (lv' := [(8, .int (mM (lfB dc an n S (dc k)))), (7, .int (nI k)), (6, .int (mM (dpU dc an ge n S dp k))), (0, .ref bd), (1, .ref bg), (2, .ref ba), (3, .ref bm), (4, .int (mM S)), (5, .int (nI dp))]) hx hb dL_deep_26 hl (by decide) rfl (fun ls hl => ?_)
        refine lv_iconst (v := nI 0) hx hb dL_deep_28 (by decide) ?_
        refine lv_istore (lv' := [(9, .int (nI 0)), (8, .int (mM (lfB dc an n S (dc k)))), (7, .int (nI k)), (6, .int (mM (dpU dc an ge n S dp k))), (0, .ref bd), (1, .ref bg), (2, .ref ba), (3, .ref bm), (4, .int (mM S)), (5, .int (nI dp))]) hx hb dL_deep_29 hl (by decide) rfl (fun ls hl => ?_)
        refine lv_iconst (v := nI 0) hx hb dL_deep_31 (by decide) ?_
        refine lv_istore (lv' := [(10, .int (nI 0)), (9, .int (nI 0)), (8, .int (mM (lfB dc an n S (dc k)))), (7, .int (nI k)), (6, .int (mM (dpU dc an ge n S dp k))), (0, .ref bd), (1, .ref bg), (2, .ref ba), (3, .ref bm), (4, .int (mM S)), (5, .int (nI dp))]) hx hb dL_deep_32 hl (by decide) rfl (fun ls hl => ?_)
        refine lv_iconst (v := nI 0) hx hb dL_deep_34 (by decide) ?_
        refine lv_istore (lv' := [(11, .int (nI 0)), (10, .int (nI 0)), (9, .int (nI 0)), (8, .int (mM (lfB dc an n S (dc k)))), (7, .int (nI k)), (6, .int (mM (dpU dc an ge n S dp k))), (0, .ref bd), (1, .ref bg), (2, .ref ba), (3, .ref bm), (4, .int (mM S)), (5, .int (nI dp))]) hx hb dL_deep_35 hl (by decide) rfl (fun ls hl => ?_)
        have key37 : ∀ (d37 : Nat) (j : Nat) (hj : j ≤ n), n - j < d37 → ∀  (ls : Array Slot), lv_has ls 13 [(11, .int (nI j)), (10, .int (nI (fct (dnr dc an ge n S dp k) j))), (9, .int (nI (fct (dlw dc an n S k) j))), (8, .int (mM (lfB dc an n S (dc k)))), (7, .int (nI k)), (6, .int (mM (dpU dc an ge n S dp k))), (0, .ref bd), (1, .ref bg), (2, .ref ba), (3, .ref bm), (4, .int (mM S)), (5, .int (nI dp))] → W p l e ({ frames := 1, cells := 0, slots := 0, locals := 28 } : Room) s m ([.ref bd, .ref bg, .ref ba, .ref bm, .int (mM S), .int (nI dp)] : List Value).toArray below meth c s.heap [] 0 0 (MQ below (rqI (mM (dpB dc an ge n S dp))) ([.ref bd, .ref bg, .ref ba, .ref bm, .int (mM S), .int (nI dp)] : List Value).toArray s 0 0 (fun _ => False)) (F0 m 37 ls []) := by
          intro d37
          induction d37 with
          | zero => intro j hj h9; exact absurd h9 (Nat.not_lt_zero _)
          | succ d37 ih37 =>
            intro j hj hm37  ls  hl
            refine lv_iload hx hb dL_deep_37 (lv_at hl 0 rfl) ?_
            refine lv_aload_n hx hb dL_deep_39 rfl (lv_at hl 9 rfl) ?_
            refine lv_iconst (v := nI 0) hx hb dL_deep_40 (by decide) ?_
            refine r_iald (j := 0) (v := nI n) hx hb hK.1 hP 3 0 rfl rfl (by omega) (by first | decide | omega) (rfl) dL_deep_41 ?_
            refine r_icmp_geN hx hb (x := j) (y := n) (by first | omega | decide) (by first | omega | decide) (tgt := 126) dL_deep_42 (by decide) (fun c42 => ?_) (fun c42 => ?_)
            · refine lv_iload hx hb dL_deep_126 (lv_at hl 5 rfl) ?_
              have e128 := fct_le (dlw dc an n S k) j
              have e128b := fct_le (dnr dc an ge n S dp k) j
              refine lv_iload hx hb dL_deep_128 (lv_at hl 10 rfl) ?_
              refine lv_iload hx hb dL_deep_130 (lv_at hl 4 rfl) ?_
              refine lv_ishr hx hb dL_deep_132 ?_
              refine lv_iconst (v := nI 1) hx hb dL_deep_133 (by decide) ?_
              refine lv_iand hx hb dL_deep_134 ?_
              refine r_top (y := bI (S k)) (mM_tst _ (by omega)) ?_
              refine lv_iconst (v := nI 1) hx hb dL_deep_135 (by decide) ?_
              refine r_icmp_neB1 (x := S k) (tgt := 156) hx hb dL_deep_136 (by decide) (fun c136 => ?_) (fun c136 => ?_)
              · refine lv_iconst (v := nI 0) hx hb dL_deep_156 (by decide) ?_
                refine lv_ior hx hb dL_deep_157 ?_
                refine r_top (y := mM (dpU dc an ge n S dp k)) (mM_or0 _) ?_
                refine lv_istore (lv' := [(6, .int (mM (dpU dc an ge n S dp k))), (11, .int (nI j)), (10, .int (nI (fct (dnr dc an ge n S dp k) j))), (9, .int (nI (fct (dlw dc an n S k) j))), (8, .int (mM (lfB dc an n S (dc k)))), (7, .int (nI k)), (0, .ref bd), (1, .ref bg), (2, .ref ba), (3, .ref bm), (4, .int (mM S)), (5, .int (nI dp))]) hx hb dL_deep_158 hl (by decide) rfl (fun ls hl => ?_)
                refine lv_iinc (v := nI (k + 1)) (lv' := [(7, .int (nI (k + 1))), (6, .int (mM (dpU dc an ge n S dp k))), (11, .int (nI j)), (10, .int (nI (fct (dnr dc an ge n S dp k) j))), (9, .int (nI (fct (dlw dc an n S k) j))), (8, .int (mM (lfB dc an n S (dc k)))), (0, .ref bd), (1, .ref bg), (2, .ref ba), (3, .ref bm), (4, .int (mM S)), (5, .int (nI dp))]) hx hb dL_deep_160 hl (k := 5) rfl (nI_1 _) (by decide) rfl (fun ls hl => ?_)
                refine lv_goto (tgt := 6) hx hb dL_deep_163 (by decide) ?_
                have hl := lv_re (f := fun z9 => [(7, .int (nI (k + 1))), (6, .int z9), (11, .int (nI j)), (10, .int (nI (fct (dnr dc an ge n S dp k) j))), (9, .int (nI (fct (dlw dc an n S k) j))), (8, .int (mM (lfB dc an n S (dc k)))), (0, .ref bd), (1, .ref bg), (2, .ref ba), (3, .ref bm), (4, .int (mM S)), (5, .int (nI dp))]) hl (show mM (dpU dc an ge n S dp k) = mM (dpU dc an ge n S dp (k + 1)) from by exact dpU_f (by rw [dpB_eq (j := j) (by omega) (by omega)]; first | (simp [c11, c42, c136]; done) | (simp [c11, c42, c136]; omega)))
                exact ih6 (k + 1) (by first | assumption | omega) (by omega)  ls  (lv_sub hl [0, 1, 6, 7, 8, 9, 10, 11] rfl)
              · refine lv_iload hx hb dL_deep_139 (lv_at hl 2 rfl) ?_
                refine r_if_leN hx hb (x := fct (dlw dc an n S k) j) (by first | omega | decide) (tgt := 156) dL_deep_141 (by decide) (fun c141 => ?_) (fun c141 => ?_)
                · refine lv_iconst (v := nI 0) hx hb dL_deep_156 (by decide) ?_
                  refine lv_ior hx hb dL_deep_157 ?_
                  refine r_top (y := mM (dpU dc an ge n S dp k)) (mM_or0 _) ?_
                  refine lv_istore (lv' := [(6, .int (mM (dpU dc an ge n S dp k))), (11, .int (nI j)), (10, .int (nI (fct (dnr dc an ge n S dp k) j))), (9, .int (nI (fct (dlw dc an n S k) j))), (8, .int (mM (lfB dc an n S (dc k)))), (7, .int (nI k)), (0, .ref bd), (1, .ref bg), (2, .ref ba), (3, .ref bm), (4, .int (mM S)), (5, .int (nI dp))]) hx hb dL_deep_158 hl (by decide) rfl (fun ls hl => ?_)
                  refine lv_iinc (v := nI (k + 1)) (lv' := [(7, .int (nI (k + 1))), (6, .int (mM (dpU dc an ge n S dp k))), (11, .int (nI j)), (10, .int (nI (fct (dnr dc an ge n S dp k) j))), (9, .int (nI (fct (dlw dc an n S k) j))), (8, .int (mM (lfB dc an n S (dc k)))), (0, .ref bd), (1, .ref bg), (2, .ref ba), (3, .ref bm), (4, .int (mM S)), (5, .int (nI dp))]) hx hb dL_deep_160 hl (k := 5) rfl (nI_1 _) (by decide) rfl (fun ls hl => ?_)
                  refine lv_goto (tgt := 6) hx hb dL_deep_163 (by decide) ?_
                  have hl := lv_re (f := fun z9 => [(7, .int (nI (k + 1))), (6, .int z9), (11, .int (nI j)), (10, .int (nI (fct (dnr dc an ge n S dp k) j))), (9, .int (nI (fct (dlw dc an n S k) j))), (8, .int (mM (lfB dc an n S (dc k)))), (0, .ref bd), (1, .ref bg), (2, .ref ba), (3, .ref bm), (4, .int (mM S)), (5, .int (nI dp))]) hl (show mM (dpU dc an ge n S dp k) = mM (dpU dc an ge n S dp (k + 1)) from by exact dpU_f (by rw [dpB_eq (j := j) (by omega) (by omega)]; first | (simp [c11, c42, c136, c141]; done) | (simp [c11, c42, c136, c141]; omega)))
                  exact ih6 (k + 1) (by first | assumption | omega) (by omega)  ls  (lv_sub hl [0, 1, 6, 7, 8, 9, 10, 11] rfl)
                · refine lv_iload hx hb dL_deep_144 (lv_at hl 1 rfl) ?_
                  refine r_if_neN hx hb (x := fct (dnr dc an ge n S dp k) j) (by first | omega | decide) (tgt := 156) dL_deep_146 (by decide) (fun c146 => ?_) (fun c146 => ?_)
                  · refine lv_iconst (v := nI 0) hx hb dL_deep_156 (by decide) ?_
                    refine lv_ior hx hb dL_deep_157 ?_
                    refine r_top (y := mM (dpU dc an ge n S dp k)) (mM_or0 _) ?_
                    refine lv_istore (lv' := [(6, .int (mM (dpU dc an ge n S dp k))), (11, .int (nI j)), (10, .int (nI (fct (dnr dc an ge n S dp k) j))), (9, .int (nI (fct (dlw dc an n S k) j))), (8, .int (mM (lfB dc an n S (dc k)))), (7, .int (nI k)), (0, .ref bd), (1, .ref bg), (2, .ref ba), (3, .ref bm), (4, .int (mM S)), (5, .int (nI dp))]) hx hb dL_deep_158 hl (by decide) rfl (fun ls hl => ?_)
                    refine lv_iinc (v := nI (k + 1)) (lv' := [(7, .int (nI (k + 1))), (6, .int (mM (dpU dc an ge n S dp k))), (11, .int (nI j)), (10, .int (nI (fct (dnr dc an ge n S dp k) j))), (9, .int (nI (fct (dlw dc an n S k) j))), (8, .int (mM (lfB dc an n S (dc k)))), (0, .ref bd), (1, .ref bg), (2, .ref ba), (3, .ref bm), (4, .int (mM S)), (5, .int (nI dp))]) hx hb dL_deep_160 hl (k := 5) rfl (nI_1 _) (by decide) rfl (fun ls hl => ?_)
                    refine lv_goto (tgt := 6) hx hb dL_deep_163 (by decide) ?_
                    have hl := lv_re (f := fun z9 => [(7, .int (nI (k + 1))), (6, .int z9), (11, .int (nI j)), (10, .int (nI (fct (dnr dc an ge n S dp k) j))), (9, .int (nI (fct (dlw dc an n S k) j))), (8, .int (mM (lfB dc an n S (dc k)))), (0, .ref bd), (1, .ref bg), (2, .ref ba), (3, .ref bm), (4, .int (mM S)), (5, .int (nI dp))]) hl (show mM (dpU dc an ge n S dp k) = mM (dpU dc an ge n S dp (k + 1)) from by exact dpU_f (by rw [dpB_eq (j := j) (by omega) (by omega)]; first | (simp [c11, c42, c136, c141, c146]; done) | (simp [c11, c42, c136, c141, c146]; omega)))
                    exact ih6 (k + 1) (by first | assumption | omega) (by omega)  ls  (lv_sub hl [0, 1, 6, 7, 8, 9, 10, 11] rfl)
                  · refine lv_iconst (v := nI 1) hx hb dL_deep_149 (by decide) ?_
                    refine lv_iload hx hb dL_deep_150 (lv_at hl 4 rfl) ?_
                    refine lv_ishl hx hb dL_deep_152 ?_
                    refine r_top (y := mM (sgl k true)) (mM_shl1 (by omega)) ?_
                    refine lv_goto (tgt := 157) hx hb dL_deep_153 (by decide) ?_
                    refine lv_ior hx hb dL_deep_157 ?_
                    refine r_top (y := mM (mOr (dpU dc an ge n S dp k) (sgl k true))) (mM_or _ _) ?_
                    refine lv_istore (lv' := [(6, .int (mM (mOr (dpU dc an ge n S dp k) (sgl k true)))), (11, .int (nI j)), (10, .int (nI (fct (dnr dc an ge n S dp k) j))), (9, .int (nI (fct (dlw dc an n S k) j))), (8, .int (mM (lfB dc an n S (dc k)))), (7, .int (nI k)), (0, .ref bd), (1, .ref bg), (2, .ref ba), (3, .ref bm), (4, .int (mM S)), (5, .int (nI dp))]) hx hb dL_deep_158 hl (by decide) rfl (fun ls hl => ?_)
                    refine lv_iinc (v := nI (k + 1)) (lv' := [(7, .int (nI (k + 1))), (6, .int (mM (mOr (dpU dc an ge n S dp k) (sgl k true)))), (11, .int (nI j)), (10, .int (nI (fct (dnr dc an ge n S dp k) j))), (9, .int (nI (fct (dlw dc an n S k) j))), (8, .int (mM (lfB dc an n S (dc k)))), (0, .ref bd), (1, .ref bg), (2, .ref ba), (3, .ref bm), (4, .int (mM S)), (5, .int (nI dp))]) hx hb dL_deep_160 hl (k := 5) rfl (nI_1 _) (by decide) rfl (fun ls hl => ?_)
                    refine lv_goto (tgt := 6) hx hb dL_deep_163 (by decide) ?_
                    have hl := lv_re (f := fun z9 => [(7, .int (nI (k + 1))), (6, .int z9), (11, .int (nI j)), (10, .int (nI (fct (dnr dc an ge n S dp k) j))), (9, .int (nI (fct (dlw dc an n S k) j))), (8, .int (mM (lfB dc an n S (dc k)))), (0, .ref bd), (1, .ref bg), (2, .ref ba), (3, .ref bm), (4, .int (mM S)), (5, .int (nI dp))]) hl (show mM (mOr (dpU dc an ge n S dp k) (sgl k true)) = mM (dpU dc an ge n S dp (k + 1)) from by exact dpU_t (by rw [dpB_eq (j := j) (by omega) (by omega)]; first | (simp [c11, c42, c136, c141, c146]; done) | (simp [c11, c42, c136, c141, c146]; omega)))
                    exact ih6 (k + 1) (by first | assumption | omega) (by omega)  ls  (lv_sub hl [0, 1, 6, 7, 8, 9, 10, 11] rfl)
            · refine lv_iload hx hb dL_deep_45 (lv_at hl 3 rfl) ?_
              refine lv_iload hx hb dL_deep_47 (lv_at hl 0 rfl) ?_
              refine lv_ishr hx hb dL_deep_49 ?_
              refine lv_iconst (v := nI 1) hx hb dL_deep_50 (by decide) ?_
              refine lv_iand hx hb dL_deep_51 ?_
              refine r_top (y := bI ((lfB dc an n S (dc k)) j)) (mM_tst _ (by omega)) ?_
              refine lv_iconst (v := nI 1) hx hb dL_deep_52 (by decide) ?_
              refine r_icmp_neB1 (x := (lfB dc an n S (dc k)) j) (tgt := 73) hx hb dL_deep_53 (by decide) (fun c53 => ?_) (fun c53 => ?_)
              · refine lv_iconst (v := nI 0) hx hb dL_deep_73 (by decide) ?_
                refine lv_istore (lv' := [(12, .int (nI 0)), (11, .int (nI j)), (10, .int (nI (fct (dnr dc an ge n S dp k) j))), (9, .int (nI (fct (dlw dc an n S k) j))), (8, .int (mM (lfB dc an n S (dc k)))), (7, .int (nI k)), (6, .int (mM (dpU dc an ge n S dp k))), (0, .ref bd), (1, .ref bg), (2, .ref ba), (3, .ref bm), (4, .int (mM S)), (5, .int (nI dp))]) hx hb dL_deep_74 hl (by decide) rfl (fun ls hl => ?_)
                refine lv_iload hx hb dL_deep_76 (lv_at hl 3 rfl) ?_
                refine lv_iload hx hb dL_deep_78 (lv_at hl 0 rfl) ?_
                refine r_if_eqB (x := false) (tgt := 87) hx hb dL_deep_80 (by decide) (fun c80 => ?_) (fun c80 => by cases c80)
                refine lv_iconst (v := nI 0) hx hb dL_deep_87 (by decide) ?_
                refine r_iaddN hx hb dL_deep_88 ?_
                refine lv_istore (lv' := [(9, .int (nI ((fct (dlw dc an n S k) j) + 0))), (12, .int (nI 0)), (11, .int (nI j)), (10, .int (nI (fct (dnr dc an ge n S dp k) j))), (8, .int (mM (lfB dc an n S (dc k)))), (7, .int (nI k)), (6, .int (mM (dpU dc an ge n S dp k))), (0, .ref bd), (1, .ref bg), (2, .ref ba), (3, .ref bm), (4, .int (mM S)), (5, .int (nI dp))]) hx hb dL_deep_89 hl (by decide) rfl (fun ls hl => ?_)
                refine lv_iload hx hb dL_deep_91 (lv_at hl 3 rfl) ?_
                refine lv_iload hx hb dL_deep_93 (lv_at hl 1 rfl) ?_
                refine r_if_eqB (x := false) (tgt := 116) hx hb dL_deep_95 (by decide) (fun c95 => ?_) (fun c95 => by cases c95)
                refine lv_iconst (v := nI 0) hx hb dL_deep_116 (by decide) ?_
                refine r_iaddN hx hb dL_deep_117 ?_
                refine lv_istore (lv' := [(10, .int (nI ((fct (dnr dc an ge n S dp k) j) + 0))), (9, .int (nI ((fct (dlw dc an n S k) j) + 0))), (12, .int (nI 0)), (11, .int (nI j)), (8, .int (mM (lfB dc an n S (dc k)))), (7, .int (nI k)), (6, .int (mM (dpU dc an ge n S dp k))), (0, .ref bd), (1, .ref bg), (2, .ref ba), (3, .ref bm), (4, .int (mM S)), (5, .int (nI dp))]) hx hb dL_deep_118 hl (by decide) rfl (fun ls hl => ?_)
                refine lv_iinc (v := nI (j + 1)) (lv' := [(11, .int (nI (j + 1))), (10, .int (nI ((fct (dnr dc an ge n S dp k) j) + 0))), (9, .int (nI ((fct (dlw dc an n S k) j) + 0))), (12, .int (nI 0)), (8, .int (mM (lfB dc an n S (dc k)))), (7, .int (nI k)), (6, .int (mM (dpU dc an ge n S dp k))), (0, .ref bd), (1, .ref bg), (2, .ref ba), (3, .ref bm), (4, .int (mM S)), (5, .int (nI dp))]) hx hb dL_deep_120 hl (k := 3) rfl (nI_1 _) (by decide) rfl (fun ls hl => ?_)
                refine lv_goto (tgt := 37) hx hb dL_deep_123 (by decide) ?_
                have hl := lv_re (f := fun z9 => [(11, .int (nI (j + 1))), (10, .int z9), (9, .int (nI ((fct (dlw dc an n S k) j) + 0))), (12, .int (nI 0)), (8, .int (mM (lfB dc an n S (dc k)))), (7, .int (nI k)), (6, .int (mM (dpU dc an ge n S dp k))), (0, .ref bd), (1, .ref bg), (2, .ref ba), (3, .ref bm), (4, .int (mM S)), (5, .int (nI dp))]) hl (show nI ((fct (dnr dc an ge n S dp k) j) + 0) = nI (fct (dnr dc an ge n S dp k) (j + 1)) from congrArg nI (show ((fct (dnr dc an ge n S dp k) j) + 0) = (fct (dnr dc an ge n S dp k) (j + 1)) from by first | (have q : ge k + dp ≤ ge j := (gd_iff (hTg _) (hTg _) hdp).mp c109; have q2 : ¬ ge j < ge k + dp := (by omega); simp [fct, dnr, dlw, c11, c42, c53, c80, c95, q2]; done) | (have q : ¬ (ge k + dp ≤ ge j) := fun z => c109 ((gd_iff (hTg _) (hTg _) hdp).mpr z); have q2 : ge j < ge k + dp := (by omega); simp [fct, dnr, dlw, c11, c42, c53, c80, c95, q2]; done) | (simp [fct, dnr, dlw, c11, c42, c53, c80, c95]; done)))
                have hl := lv_re (f := fun z9 => [(11, .int (nI (j + 1))), (10, .int (nI (fct (dnr dc an ge n S dp k) (j + 1)))), (9, .int z9), (12, .int (nI 0)), (8, .int (mM (lfB dc an n S (dc k)))), (7, .int (nI k)), (6, .int (mM (dpU dc an ge n S dp k))), (0, .ref bd), (1, .ref bg), (2, .ref ba), (3, .ref bm), (4, .int (mM S)), (5, .int (nI dp))]) hl (show nI ((fct (dlw dc an n S k) j) + 0) = nI (fct (dlw dc an n S k) (j + 1)) from congrArg nI (show ((fct (dlw dc an n S k) j) + 0) = (fct (dlw dc an n S k) (j + 1)) from by simp [fct, dlw, c11, c42, c53, c80, c95]))
                exact ih37 (j + 1) (by first | assumption | omega) (by omega)  ls  (lv_sub hl [0, 1, 2, 4, 5, 6, 7, 8, 9, 10, 11, 12] rfl)
              · refine lv_aload_n hx hb dL_deep_56 rfl (lv_at hl 8 rfl) ?_
                refine lv_iload hx hb dL_deep_57 (lv_at hl 0 rfl) ?_
                refine r_iald (j := j) (v := mM (an j)) hx hb hK.1 hP 2 0 rfl rfl (by omega) (by first | decide | omega) (rfl) dL_deep_59 ?_
                refine lv_iload hx hb dL_deep_60 (lv_at hl 4 rfl) ?_
                refine lv_ishr hx hb dL_deep_62 ?_
                refine lv_iconst (v := nI 1) hx hb dL_deep_63 (by decide) ?_
                refine lv_iand hx hb dL_deep_64 ?_
                refine r_top (y := bI ((an j) k)) (mM_tst _ (by omega)) ?_
                refine lv_iconst (v := nI 1) hx hb dL_deep_65 (by decide) ?_
                refine r_icmp_neB1 (x := (an j) k) (tgt := 73) hx hb dL_deep_66 (by decide) (fun c66 => ?_) (fun c66 => ?_)
                · refine lv_iconst (v := nI 0) hx hb dL_deep_73 (by decide) ?_
                  refine lv_istore (lv' := [(12, .int (nI 0)), (11, .int (nI j)), (10, .int (nI (fct (dnr dc an ge n S dp k) j))), (9, .int (nI (fct (dlw dc an n S k) j))), (8, .int (mM (lfB dc an n S (dc k)))), (7, .int (nI k)), (6, .int (mM (dpU dc an ge n S dp k))), (0, .ref bd), (1, .ref bg), (2, .ref ba), (3, .ref bm), (4, .int (mM S)), (5, .int (nI dp))]) hx hb dL_deep_74 hl (by decide) rfl (fun ls hl => ?_)
                  refine lv_iload hx hb dL_deep_76 (lv_at hl 3 rfl) ?_
                  refine lv_iload hx hb dL_deep_78 (lv_at hl 0 rfl) ?_
                  refine r_if_eqB (x := false) (tgt := 87) hx hb dL_deep_80 (by decide) (fun c80 => ?_) (fun c80 => by cases c80)
                  refine lv_iconst (v := nI 0) hx hb dL_deep_87 (by decide) ?_
                  refine r_iaddN hx hb dL_deep_88 ?_
                  refine lv_istore (lv' := [(9, .int (nI ((fct (dlw dc an n S k) j) + 0))), (12, .int (nI 0)), (11, .int (nI j)), (10, .int (nI (fct (dnr dc an ge n S dp k) j))), (8, .int (mM (lfB dc an n S (dc k)))), (7, .int (nI k)), (6, .int (mM (dpU dc an ge n S dp k))), (0, .ref bd), (1, .ref bg), (2, .ref ba), (3, .ref bm), (4, .int (mM S)), (5, .int (nI dp))]) hx hb dL_deep_89 hl (by decide) rfl (fun ls hl => ?_)
                  refine lv_iload hx hb dL_deep_91 (lv_at hl 3 rfl) ?_
                  refine lv_iload hx hb dL_deep_93 (lv_at hl 1 rfl) ?_
                  refine r_if_eqB (x := false) (tgt := 116) hx hb dL_deep_95 (by decide) (fun c95 => ?_) (fun c95 => by cases c95)
                  refine lv_iconst (v := nI 0) hx hb dL_deep_116 (by decide) ?_
                  refine r_iaddN hx hb dL_deep_117 ?_
                  refine lv_istore (lv' := [(10, .int (nI ((fct (dnr dc an ge n S dp k) j) + 0))), (9, .int (nI ((fct (dlw dc an n S k) j) + 0))), (12, .int (nI 0)), (11, .int (nI j)), (8, .int (mM (lfB dc an n S (dc k)))), (7, .int (nI k)), (6, .int (mM (dpU dc an ge n S dp k))), (0, .ref bd), (1, .ref bg), (2, .ref ba), (3, .ref bm), (4, .int (mM S)), (5, .int (nI dp))]) hx hb dL_deep_118 hl (by decide) rfl (fun ls hl => ?_)
                  refine lv_iinc (v := nI (j + 1)) (lv' := [(11, .int (nI (j + 1))), (10, .int (nI ((fct (dnr dc an ge n S dp k) j) + 0))), (9, .int (nI ((fct (dlw dc an n S k) j) + 0))), (12, .int (nI 0)), (8, .int (mM (lfB dc an n S (dc k)))), (7, .int (nI k)), (6, .int (mM (dpU dc an ge n S dp k))), (0, .ref bd), (1, .ref bg), (2, .ref ba), (3, .ref bm), (4, .int (mM S)), (5, .int (nI dp))]) hx hb dL_deep_120 hl (k := 3) rfl (nI_1 _) (by decide) rfl (fun ls hl => ?_)
                  refine lv_goto (tgt := 37) hx hb dL_deep_123 (by decide) ?_
                  have hl := lv_re (f := fun z9 => [(11, .int (nI (j + 1))), (10, .int z9), (9, .int (nI ((fct (dlw dc an n S k) j) + 0))), (12, .int (nI 0)), (8, .int (mM (lfB dc an n S (dc k)))), (7, .int (nI k)), (6, .int (mM (dpU dc an ge n S dp k))), (0, .ref bd), (1, .ref bg), (2, .ref ba), (3, .ref bm), (4, .int (mM S)), (5, .int (nI dp))]) hl (show nI ((fct (dnr dc an ge n S dp k) j) + 0) = nI (fct (dnr dc an ge n S dp k) (j + 1)) from congrArg nI (show ((fct (dnr dc an ge n S dp k) j) + 0) = (fct (dnr dc an ge n S dp k) (j + 1)) from by first | (have q : ge k + dp ≤ ge j := (gd_iff (hTg _) (hTg _) hdp).mp c109; have q2 : ¬ ge j < ge k + dp := (by omega); simp [fct, dnr, dlw, c11, c42, c53, c66, c80, c95, q2]; done) | (have q : ¬ (ge k + dp ≤ ge j) := fun z => c109 ((gd_iff (hTg _) (hTg _) hdp).mpr z); have q2 : ge j < ge k + dp := (by omega); simp [fct, dnr, dlw, c11, c42, c53, c66, c80, c95, q2]; done) | (simp [fct, dnr, dlw, c11, c42, c53, c66, c80, c95]; done)))
                  have hl := lv_re (f := fun z9 => [(11, .int (nI (j + 1))), (10, .int (nI (fct (dnr dc an ge n S dp k) (j + 1)))), (9, .int z9), (12, .int (nI 0)), (8, .int (mM (lfB dc an n S (dc k)))), (7, .int (nI k)), (6, .int (mM (dpU dc an ge n S dp k))), (0, .ref bd), (1, .ref bg), (2, .ref ba), (3, .ref bm), (4, .int (mM S)), (5, .int (nI dp))]) hl (show nI ((fct (dlw dc an n S k) j) + 0) = nI (fct (dlw dc an n S k) (j + 1)) from congrArg nI (show ((fct (dlw dc an n S k) j) + 0) = (fct (dlw dc an n S k) (j + 1)) from by simp [fct, dlw, c11, c42, c53, c66, c80, c95]))
                  exact ih37 (j + 1) (by first | assumption | omega) (by omega)  ls  (lv_sub hl [0, 1, 2, 4, 5, 6, 7, 8, 9, 10, 11, 12] rfl)
                · refine lv_iconst (v := nI 1) hx hb dL_deep_69 (by decide) ?_
                  refine lv_goto (tgt := 74) hx hb dL_deep_70 (by decide) ?_
                  refine lv_istore (lv' := [(12, .int (nI 1)), (11, .int (nI j)), (10, .int (nI (fct (dnr dc an ge n S dp k) j))), (9, .int (nI (fct (dlw dc an n S k) j))), (8, .int (mM (lfB dc an n S (dc k)))), (7, .int (nI k)), (6, .int (mM (dpU dc an ge n S dp k))), (0, .ref bd), (1, .ref bg), (2, .ref ba), (3, .ref bm), (4, .int (mM S)), (5, .int (nI dp))]) hx hb dL_deep_74 hl (by decide) rfl (fun ls hl => ?_)
                  refine lv_iload hx hb dL_deep_76 (lv_at hl 3 rfl) ?_
                  refine lv_iload hx hb dL_deep_78 (lv_at hl 0 rfl) ?_
                  refine r_if_eqB (x := true) (tgt := 87) hx hb dL_deep_80 (by decide) (fun c80 => by cases c80) (fun c80 => ?_)
                  refine lv_iconst (v := nI 1) hx hb dL_deep_83 (by decide) ?_
                  refine lv_goto (tgt := 88) hx hb dL_deep_84 (by decide) ?_
                  refine r_iaddN hx hb dL_deep_88 ?_
                  refine lv_istore (lv' := [(9, .int (nI ((fct (dlw dc an n S k) j) + 1))), (12, .int (nI 1)), (11, .int (nI j)), (10, .int (nI (fct (dnr dc an ge n S dp k) j))), (8, .int (mM (lfB dc an n S (dc k)))), (7, .int (nI k)), (6, .int (mM (dpU dc an ge n S dp k))), (0, .ref bd), (1, .ref bg), (2, .ref ba), (3, .ref bm), (4, .int (mM S)), (5, .int (nI dp))]) hx hb dL_deep_89 hl (by decide) rfl (fun ls hl => ?_)
                  refine lv_iload hx hb dL_deep_91 (lv_at hl 3 rfl) ?_
                  refine lv_iload hx hb dL_deep_93 (lv_at hl 1 rfl) ?_
                  refine r_if_eqB (x := true) (tgt := 116) hx hb dL_deep_95 (by decide) (fun c95 => by cases c95) (fun c95 => ?_)
                  refine lv_aload_n hx hb dL_deep_98 rfl (lv_at hl 8 rfl) ?_
                  refine lv_iload hx hb dL_deep_99 (lv_at hl 2 rfl) ?_
                  refine r_iald (j := j) (v := nI (ge j)) hx hb hK.1 hP 1 0 rfl rfl (by omega) (by first | decide | omega) (rfl) dL_deep_101 ?_
                  have f101 := hTg j
                  refine lv_aload_n hx hb dL_deep_102 rfl (lv_at hl 8 rfl) ?_
                  refine lv_iload hx hb dL_deep_103 (lv_at hl 5 rfl) ?_
                  refine r_iald (j := k) (v := nI (ge k)) hx hb hK.1 hP 1 0 rfl rfl (by omega) (by first | decide | omega) (rfl) dL_deep_105 ?_
                  have f105 := hTg k
                  refine lv_isub hx hb dL_deep_106 ?_
                  refine lv_iload hx hb dL_deep_107 (lv_at hl 12 rfl) ?_
                  refine lv_icmp_ge (x := (nI (ge j)) - (nI (ge k))) (y := nI dp) (tgt := 116) hx hb dL_deep_109 (by decide) (fun c109 => ?_) (fun c109 => ?_)
                  · refine lv_iconst (v := nI 0) hx hb dL_deep_116 (by decide) ?_
                    refine r_iaddN hx hb dL_deep_117 ?_
                    refine lv_istore (lv' := [(10, .int (nI ((fct (dnr dc an ge n S dp k) j) + 0))), (9, .int (nI ((fct (dlw dc an n S k) j) + 1))), (12, .int (nI 1)), (11, .int (nI j)), (8, .int (mM (lfB dc an n S (dc k)))), (7, .int (nI k)), (6, .int (mM (dpU dc an ge n S dp k))), (0, .ref bd), (1, .ref bg), (2, .ref ba), (3, .ref bm), (4, .int (mM S)), (5, .int (nI dp))]) hx hb dL_deep_118 hl (by decide) rfl (fun ls hl => ?_)
                    refine lv_iinc (v := nI (j + 1)) (lv' := [(11, .int (nI (j + 1))), (10, .int (nI ((fct (dnr dc an ge n S dp k) j) + 0))), (9, .int (nI ((fct (dlw dc an n S k) j) + 1))), (12, .int (nI 1)), (8, .int (mM (lfB dc an n S (dc k)))), (7, .int (nI k)), (6, .int (mM (dpU dc an ge n S dp k))), (0, .ref bd), (1, .ref bg), (2, .ref ba), (3, .ref bm), (4, .int (mM S)), (5, .int (nI dp))]) hx hb dL_deep_120 hl (k := 3) rfl (nI_1 _) (by decide) rfl (fun ls hl => ?_)
                    refine lv_goto (tgt := 37) hx hb dL_deep_123 (by decide) ?_
                    have hl := lv_re (f := fun z9 => [(11, .int (nI (j + 1))), (10, .int z9), (9, .int (nI ((fct (dlw dc an n S k) j) + 1))), (12, .int (nI 1)), (8, .int (mM (lfB dc an n S (dc k)))), (7, .int (nI k)), (6, .int (mM (dpU dc an ge n S dp k))), (0, .ref bd), (1, .ref bg), (2, .ref ba), (3, .ref bm), (4, .int (mM S)), (5, .int (nI dp))]) hl (show nI ((fct (dnr dc an ge n S dp k) j) + 0) = nI (fct (dnr dc an ge n S dp k) (j + 1)) from congrArg nI (show ((fct (dnr dc an ge n S dp k) j) + 0) = (fct (dnr dc an ge n S dp k) (j + 1)) from by first | (have q : ge k + dp ≤ ge j := (gd_iff (hTg _) (hTg _) hdp).mp c109; have q2 : ¬ ge j < ge k + dp := (by omega); simp [fct, dnr, dlw, c11, c42, c53, c66, c80, c95, c109, q2]; done) | (have q : ¬ (ge k + dp ≤ ge j) := fun z => c109 ((gd_iff (hTg _) (hTg _) hdp).mpr z); have q2 : ge j < ge k + dp := (by omega); simp [fct, dnr, dlw, c11, c42, c53, c66, c80, c95, c109, q2]; done) | (simp [fct, dnr, dlw, c11, c42, c53, c66, c80, c95, c109]; done)))
                    have hl := lv_re (f := fun z9 => [(11, .int (nI (j + 1))), (10, .int (nI (fct (dnr dc an ge n S dp k) (j + 1)))), (9, .int z9), (12, .int (nI 1)), (8, .int (mM (lfB dc an n S (dc k)))), (7, .int (nI k)), (6, .int (mM (dpU dc an ge n S dp k))), (0, .ref bd), (1, .ref bg), (2, .ref ba), (3, .ref bm), (4, .int (mM S)), (5, .int (nI dp))]) hl (show nI ((fct (dlw dc an n S k) j) + 1) = nI (fct (dlw dc an n S k) (j + 1)) from congrArg nI (show ((fct (dlw dc an n S k) j) + 1) = (fct (dlw dc an n S k) (j + 1)) from by simp [fct, dlw, c11, c42, c53, c66, c80, c95, c109]))
                    exact ih37 (j + 1) (by first | assumption | omega) (by omega)  ls  (lv_sub hl [0, 1, 2, 4, 5, 6, 7, 8, 9, 10, 11, 12] rfl)
                  · refine lv_iconst (v := nI 1) hx hb dL_deep_112 (by decide) ?_
                    refine lv_goto (tgt := 117) hx hb dL_deep_113 (by decide) ?_
                    refine r_iaddN hx hb dL_deep_117 ?_
                    refine lv_istore (lv' := [(10, .int (nI ((fct (dnr dc an ge n S dp k) j) + 1))), (9, .int (nI ((fct (dlw dc an n S k) j) + 1))), (12, .int (nI 1)), (11, .int (nI j)), (8, .int (mM (lfB dc an n S (dc k)))), (7, .int (nI k)), (6, .int (mM (dpU dc an ge n S dp k))), (0, .ref bd), (1, .ref bg), (2, .ref ba), (3, .ref bm), (4, .int (mM S)), (5, .int (nI dp))]) hx hb dL_deep_118 hl (by decide) rfl (fun ls hl => ?_)
                    refine lv_iinc (v := nI (j + 1)) (lv' := [(11, .int (nI (j + 1))), (10, .int (nI ((fct (dnr dc an ge n S dp k) j) + 1))), (9, .int (nI ((fct (dlw dc an n S k) j) + 1))), (12, .int (nI 1)), (8, .int (mM (lfB dc an n S (dc k)))), (7, .int (nI k)), (6, .int (mM (dpU dc an ge n S dp k))), (0, .ref bd), (1, .ref bg), (2, .ref ba), (3, .ref bm), (4, .int (mM S)), (5, .int (nI dp))]) hx hb dL_deep_120 hl (k := 3) rfl (nI_1 _) (by decide) rfl (fun ls hl => ?_)
                    refine lv_goto (tgt := 37) hx hb dL_deep_123 (by decide) ?_
                    have hl := lv_re (f := fun z9 => [(11, .int (nI (j + 1))), (10, .int z9), (9, .int (nI ((fct (dlw dc an n S k) j) + 1))), (12, .int (nI 1)), (8, .int (mM (lfB dc an n S (dc k)))), (7, .int (nI k)), (6, .int (mM (dpU dc an ge n S dp k))), (0, .ref bd), (1, .ref bg), (2, .ref ba), (3, .ref bm), (4, .int (mM S)), (5, .int (nI dp))]) hl (show nI ((fct (dnr dc an ge n S dp k) j) + 1) = nI (fct (dnr dc an ge n S dp k) (j + 1)) from congrArg nI (show ((fct (dnr dc an ge n S dp k) j) + 1) = (fct (dnr dc an ge n S dp k) (j + 1)) from by first | (have q : ge k + dp ≤ ge j := (gd_iff (hTg _) (hTg _) hdp).mp c109; have q2 : ¬ ge j < ge k + dp := (by omega); simp [fct, dnr, dlw, c11, c42, c53, c66, c80, c95, c109, q2]; done) | (have q : ¬ (ge k + dp ≤ ge j) := fun z => c109 ((gd_iff (hTg _) (hTg _) hdp).mpr z); have q2 : ge j < ge k + dp := (by omega); simp [fct, dnr, dlw, c11, c42, c53, c66, c80, c95, c109, q2]; done) | (simp [fct, dnr, dlw, c11, c42, c53, c66, c80, c95, c109]; done)))
                    have hl := lv_re (f := fun z9 => [(11, .int (nI (j + 1))), (10, .int (nI (fct (dnr dc an ge n S dp k) (j + 1)))), (9, .int z9), (12, .int (nI 1)), (8, .int (mM (lfB dc an n S (dc k)))), (7, .int (nI k)), (6, .int (mM (dpU dc an ge n S dp k))), (0, .ref bd), (1, .ref bg), (2, .ref ba), (3, .ref bm), (4, .int (mM S)), (5, .int (nI dp))]) hl (show nI ((fct (dlw dc an n S k) j) + 1) = nI (fct (dlw dc an n S k) (j + 1)) from congrArg nI (show ((fct (dlw dc an n S k) j) + 1) = (fct (dlw dc an n S k) (j + 1)) from by simp [fct, dlw, c11, c42, c53, c66, c80, c95, c109]))
                    exact ih37 (j + 1) (by first | assumption | omega) (by omega)  ls  (lv_sub hl [0, 1, 2, 4, 5, 6, 7, 8, 9, 10, 11, 12] rfl)
        exact key37 ((n - 0) + 1) 0 (by first | assumption | omega) (Nat.lt_succ_self _)  ls  (lv_sub hl [0, 1, 2, 3, 4, 5, 6, 7, 8, 9, 10, 11] rfl)
  have hl := lv_re (f := fun z9 => [(7, .int (nI 0)), (6, .int z9), (0, .ref bd), (1, .ref bg), (2, .ref ba), (3, .ref bm), (4, .int (mM S)), (5, .int (nI dp))]) hl (show nI 0 = mM (dpU dc an ge n S dp 0) from dpU_0)
  exact key6 ((n - 0) + 1) 0 (by first | assumption | omega) (Nat.lt_succ_self _)  ls  (lv_sub hl [0, 1, 2, 3, 4, 5, 6, 7] rfl)
set_option maxHeartbeats 1000000 in
set_option maxRecDepth 100000 in
theorem cL_stem_ok (l : Launch) (D : va_G) (ct : Nat → ClassId) (bd : Nat) (bg : Nat) (ba : Nat) (bt : Nat) (bm : Nat) (dc : Nat → Nat) (ge : Nat → Nat) (an : Nat → Nat → Bool) (S : Nat → Nat → Bool) (dp : Nat → Nat) (sq : Nat → Nat) (n : Nat) (i : Nat) (hn : n ≤ 24) (hTd : ∀ k, dc k < 4) (hTg : ∀ k, ge k ≤ 150) (hi : i < 3) (hdp : dp i ≤ 1000) (sz : Nat) : Met l yL_stem wsL_stem ({ frames := 2, cells := 0, slots := 0, locals := 60 } : Room) (wrPc D ct [.ref bd, .ref bg, .ref ba, .ref bt, .ref bm, .int (nI i)] (wAN ct bd 24 dc ++ wAN ct bg 24 ge ++ wAM ct ba 24 an ++ wAT ct bt S dp sq ++ wA1 ct bm n) sz) (wqI D (nI (fct (dpB dc an ge n (S i) (dp i)) 24)) (wAN ct bd 24 dc ++ wAN ct bg 24 ge ++ wAM ct ba 24 an ++ wAT ct bt (va_up S i (mNd (S i) (dpB dc an ge n (S i) (dp i)))) dp sq ++ wA1 ct bm n) (va_A (wAN ct bd 24 dc ++ wAN ct bg 24 ge ++ wAM ct ba 24 an ++ wAT ct bt S dp sq ++ wA1 ct bm n) sz)) 0 0 (va_A (wAN ct bd 24 dc ++ wAN ct bg 24 ge ++ wAM ct ba 24 an ++ wAT ct bt S dp sq ++ wA1 ct bm n) sz) := by
  refine Met.ofW (cc := cL_stem) (maxL := 7) (ret := (some .int)) (by decide) rfl ?_
  intro p e s m args below meth c s₁ B hml hv
  obtain ⟨rfl, hsz, hP, hK, hD0⟩ := hv
  have hx := B.exec
  have hb := B.bytes
  have hr := B.returns
  have hts := atoms_spec (ws := wsL_stem) B.pre
  have hown : s.vm.findClass RL = some m.cls := findClass_of_methodNamed B.named
  have hlocks := B.notSynchronized
  subst hsz
  have hD := hD0.self (sz := s.heap.size)
  generalize hAe : va_A (wAN ct bd 24 dc ++ wAN ct bg 24 ge ++ wAM ct ba 24 an ++ wAT ct bt S dp sq ++ wA1 ct bm n) s.heap.size = A at hD ⊢
  have hA : ∀ q : Nat, s.heap.size ≤ q → A q := fun q h => by rw [← hAe]; exact Or.inr h
  have hS : va_S A s.heap s.heap [] := va_S.rf
  have hP : va_P D vwCl (wAN ct bd 24 dc ++ wAN ct bg 24 ge ++ wAM ct ba 24 an ++ wAT ct bt S dp sq ++ wA1 ct bm n) s.heap := hP
  clear hAe hD0
  have hl := lv_entry ([.ref bd, .ref bg, .ref ba, .ref bt, .ref bm, .int (nI i)]) (n := 7) (Nat.le_of_ble_eq_true rfl)
  rw [lg_entry_eq]
  generalize (lg_sl ([.ref bd, .ref bg, .ref ba, .ref bt, .ref bm, .int (nI i)]) ++ List.replicate (7 - (lg_sl ([.ref bd, .ref bg, .ref ba, .ref bt, .ref bm, .int (nI i)])).length) Slot.unset).toArray = ls at hl ⊢
  have hl : lv_has ls 7 [(0, .ref bd), (1, .ref bg), (2, .ref ba), (3, .ref bt), (4, .ref bm), (5, .int (nI i))] := hl
  have hH0 : s.heap.size ≤ s.heap.size := Nat.le_refl _
  refine lv_aload_n hx hb dL_stem_0 rfl (lv_at hl 0 rfl) ?_
  refine lv_aload_n hx hb dL_stem_1 rfl (lv_at hl 1 rfl) ?_
  refine lv_aload_n hx hb dL_stem_2 rfl (lv_at hl 2 rfl) ?_
  refine lv_aload hx hb dL_stem_3 (lv_at hl 4 rfl) ?_
  refine lv_aload_n hx hb dL_stem_5 rfl (lv_at hl 3 rfl) ?_
  refine lv_iload hx hb dL_stem_6 (lv_at hl 5 rfl) ?_
  refine r_iald (j := i) (v := mM (S i)) hx hb hK.1 hP 3 0 rfl rfl (by omega) (by first | decide | omega) (tF_S (by omega)) dL_stem_8 ?_
  refine lv_aload_n hx hb dL_stem_9 rfl (lv_at hl 3 rfl) ?_
  refine lv_iconst (v := nI 4) hx hb dL_stem_10 (by decide) ?_
  refine lv_iload hx hb dL_stem_11 (lv_at hl 5 rfl) ?_
  refine r_iaddN hx hb dL_stem_13 ?_
  refine r_iald (j := 4 + i) (v := nI (dp i)) hx hb hK.1 hP 3 0 rfl rfl (by omega) (by first | decide | omega) (tF_d (by omega)) dL_stem_14 ?_
  refine r_cS (As := [.ref bd, .ref bg, .ref ba, .ref bm, .int (mM (S i)), .int (nI (dp i))]) (rest := []) ⟨hx, hb, hml, hown, hts⟩ (cL_deep_ok l D ct bd bg ba bm dc ge an n (S i) (dp i) (by first | assumption | omega) (by first | assumption | omega) (by first | assumption | omega) (by first | assumption | omega)) (va_cwS 6 hts gL_stem_L_deep rfl rfl rfl (by decide +kernel) ⟨Nat.le_of_ble_eq_true rfl, Nat.le_of_ble_eq_true rfl⟩) hK (hP.sub (ws' := wAN ct bd 24 dc ++ wAN ct bg 24 ge ++ wAM ct ba 24 an ++ wA1 ct bm n) [0, 1, 2, 4] rfl) rfl hl.1 rfl (Nat.le_of_ble_eq_true rfl) dL_stem_15 ⟨Nat.le_of_ble_eq_true rfl, Nat.le_of_ble_eq_true rfl⟩ ?_
  refine lv_istore (lv' := [(6, .int (mM (dpB dc an ge n (S i) (dp i)))), (0, .ref bd), (1, .ref bg), (2, .ref ba), (3, .ref bt), (4, .ref bm), (5, .int (nI i))]) hx hb dL_stem_18 hl (by decide) rfl (fun ls hl => ?_)
  refine lv_aload_n hx hb dL_stem_20 rfl (lv_at hl 4 rfl) ?_
  refine lv_iload hx hb dL_stem_21 (lv_at hl 6 rfl) ?_
  refine lv_dup2_11 hx hb dL_stem_23 rfl rfl ?_
  refine r_iald (j := i) (v := mM (S i)) hx hb hK.1 hP 3 0 rfl rfl (by omega) (by first | decide | omega) (tF_S (by omega)) dL_stem_24 ?_
  refine lv_iload hx hb dL_stem_25 (lv_at hl 0 rfl) ?_
  refine lv_iconst (v := -1) hx hb dL_stem_27 (by decide) ?_
  refine lv_ixor hx hb dL_stem_28 ?_
  refine lv_iand hx hb dL_stem_29 ?_
  refine r_top (y := mM (mNd (S i) (dpB dc an ge n (S i) (dp i)))) (mM_nd _ _) ?_
  refine r_iast (j := i) (x := (mM (mNd (S i) (dpB dc an ge n (S i) (dp i))))) (f' := tF (va_up S i (mNd (S i) (dpB dc an ge n (S i) (dp i)))) dp sq) hx hb hK.1 hP hD hS 3 0 rfl rfl (by omega) (by decide) (tU_S (by omega)) dL_stem_30 (fun H locs hP hD hS => ?_)
  have hP : va_P D vwCl (wAN ct bd 24 dc ++ wAN ct bg 24 ge ++ wAM ct ba 24 an ++ wAT ct bt (va_up S i (mNd (S i) (dpB dc an ge n (S i) (dp i)))) dp sq ++ wA1 ct bm n) H := hP
  have hD : va_D A (wAN ct bd 24 dc ++ wAN ct bg 24 ge ++ wAM ct ba 24 an ++ wAT ct bt (va_up S i (mNd (S i) (dpB dc an ge n (S i) (dp i)))) dp sq ++ wA1 ct bm n) := hD
  refine lv_iload hx hb dL_stem_31 (lv_at hl 0 rfl) ?_
  refine r_cS (As := [.int (mM (dpB dc an ge n (S i) (dp i)))]) (rest := []) ⟨hx, hb, hml, hown, hts⟩ (cL_ones_ok l D ct (dpB dc an ge n (S i) (dp i)) ) (va_cwS 1 hts gL_stem_L_ones rfl rfl rfl (by decide +kernel) ⟨Nat.le_of_ble_eq_true rfl, Nat.le_of_ble_eq_true rfl⟩) hK va_Pnil rfl hl.1 rfl (Nat.le_of_ble_eq_true rfl) dL_stem_33 ⟨Nat.le_of_ble_eq_true rfl, Nat.le_of_ble_eq_true rfl⟩ ?_
  exact W.iret hx hb hr (fun t ht hW => ⟨⟨_, (), rfl, rfl, by show va_P D vwCl _ t.heap; rw [ht]; exact hP⟩, hS.F ht⟩) hS.2.2 dL_stem_36
