/-! what the reading calls answer, as the law reckons it -/
def lvC (dc : Nat → Nat) (an : Nat → Nat → Bool) (n : Nat) (S : Nat → Bool) (vo : Nat → Option Nat) (d k : Nat) : Bool := lfB dc an n S d k && (vo k).isSome
def pnC (qq cc : Nat → Nat) (i j q : Nat) : Bool := decide (stN cc i j < qq ((4 * i) + q))
theorem flS_hc {n : Nat} {pa : Nat → Option Nat} {ge : Nat → Nat} {h1 h2 : Nat → Bool} (h : ∀ k, k < n → h1 k = h2 k) : ∀ c, c ≤ n → flS pa ge h1 n c = flS pa ge h2 n c
  | 0, _ => rfl
  | c + 1, hc => by
    have ih := flS_hc (pa := pa) (ge := ge) h c (by omega)
    show flp pa ge h1 (n - (c + 1)) (flS pa ge h1 n c) = flp pa ge h2 (n - (c + 1)) (flS pa ge h2 n c)
    rw [ih]
    have e : ends h1 (flS pa ge h2 n c) (n - (c + 1)) = ends h2 (flS pa ge h2 n c) (n - (c + 1)) := by
      unfold ends
      rw [h _ (by omega)]
    cases hp : pa (n - (c + 1)) with
    | none => rw [flp_n hp, flp_n hp]
    | some j => rw [flp_s hp, flp_s hp, e]
section JF
variable {B n : Nat} {dc : Nat → Nat} {pa : Nat → Option Nat} {va : Nat → Int32} {dl : Nat → Bool} {ge : Nat → Nat} {su : Nat → Int32} {vo : Nat → Option Nat} {un : Nat → Nat} {an : Nat → Nat → Bool} {dp sq qq cc : Nat → Nat} {dps lts : Nat → Int32} {chs cks : Nat → Nat → Int32} {hds : Nat → Nat → Bool} {nls : Nat → Nat → Nat} {wis : Nat → Nat → Option Nat}
variable {i j d k : Nat}
theorem JJ_nl (h : JJ B n dc pa va dl ge su vo un an dp sq qq cc dps lts chs cks hds nls wis) (hi : i < 3) : ∀ k, nls i k ≤ 151 := (h.2.1 i hi).1.2.1.1
theorem JJ_wi (h : JJ B n dc pa va dl ge su vo un an dp sq qq cc dps lts chs cks hds nls wis) (hi : i < 3) : ∀ d j, wis i d = some j → j < n := fun d j hj => by
  rw [(h.2.1 i hi).1.2.2 d] at hj
  exact bsS_lt _ _ _ _ _ _ _ _ hj
theorem JJ_seq (h : JJ B n dc pa va dl ge su vo un an dp sq qq cc dps lts chs cks hds nls wis) (hi : i < 3) : lts i = nI (sq i) := (h.2.1 i hi).2.2.2.2.1
theorem JJ_size (h : JJ B n dc pa va dl ge su vo un an dp sq qq cc dps lts chs cks hds nls wis) (hi : i < 3) : fct (hds i) n = fct (hds i) 24 := (fct24 h.1.2.1 (fun k hk => hd_no (h.2.1 i hi).1.1 (by omega))).symm
theorem JJ_lf (h : JJ B n dc pa va dl ge su vo un an dp sq qq cc dps lts chs cks hds nls wis) (hi : i < 3) (d k : Nat) : lfB dc an n (hds i) d k = (decide (dc k = d) && ends (hds i) (nls i) k) := lf_e h.1.2.2.2.2.2 (h.2.1 i hi).1.2.1 (h.2.1 i hi).1.1 d k
theorem JJ_leaf (h : JJ B n dc pa va dl ge su vo un an dp sq qq cc dps lts chs cks hds nls wis) (hi : i < 3) (hd : dc k = d) : ends (hds i) (nls i) k = lfB dc an n (hds i) d k := by
  rw [JJ_lf h hi d k]
  simp [hd]
theorem JJ_ge (h : JJ B n dc pa va dl ge su vo un an dp sq qq cc dps lts chs cks hds nls wis) : ∀ k, k < n → ge k ≤ 60 := fun k hk => by
  have := h.1.1.2.2.2.2.2 k hk
  have := h.1.2.1
  omega
theorem JJ_win (h : JJ B n dc pa va dl ge su vo un an dp sq qq cc dps lts chs cks hds nls wis) (hi : i < 3) (d : Nat) : wnS (lfB dc an n (hds i) d) (rk vo ge un) n = wis i d := by
  have hs := (h.2.1 i hi).1
  rw [hs.2.2 d]
  exact wn_bs h.1.2.2.2.2.2 hs.2.1 hs.1 (JJ_ge h) h.1.2.2.1 (fun k hk => (h.1.2.2.2.2.1 k hk).1) (fun k hk => (h.1.2.2.2.2.1 k hk).2.2) d n (Nat.le_refl _)
theorem JJ_conf (h : JJ B n dc pa va dl ge su vo un an dp sq qq cc dps lts chs cks hds nls wis) (hi : i < 3) (d : Nat) : fct (llC dc dl (ends (hds i) (nls i)) d) n = fct (lvC dc an n (hds i) vo d) n := fct_congr (fun k hk => by
  unfold llC lvC
  rw [JJ_lf h hi d k, (h.1.2.2.2.2.1 k hk).1]
  cases vo k <;> simp)
theorem JJ_val (h : JJ B n dc pa va dl ge su vo un an dp sq qq cc dps lts chs cks hds nls wis) (hk : k < n) : (if dl k = true then -1 else va k) = eP (vo k) := by
  obtain ⟨h1, h2, -⟩ := h.1.2.2.2.2.1 k hk
  rw [h1, h2]
  cases vo k <;> rfl
theorem JJ_shv (h : JJ B n dc pa va dl ge su vo un an dp sq qq cc dps lts chs cks hds nls wis) (hi : i < 3) : ∀ d, d < 4 → shv dl va (wis i) d = eP (vSh (wis i) vo d) := fun d _ => by
  unfold shv vSh
  cases hw : wis i d with
  | none => rfl
  | some j => exact JJ_val h (JJ_wi h hi d j hw)
theorem JJ_vb (h : JJ B n dc pa va dl ge su vo un an dp sq qq cc dps lts chs cks hds nls wis) (i : Nat) : ∀ d x, vSh (wis i) vo d = some x → x < 100 := fun d x hx => by
  unfold vSh at hx
  cases hw : wis i d with
  | none => rw [hw] at hx; cases hx
  | some j => rw [hw] at hx; exact h.1.2.2.2.1 j x hx
theorem vSh_s {x : Nat} (hx : vSh (wis i) vo d = some x) : ∃ w, wis i d = some w ∧ vo w = some x := by
  unfold vSh at hx
  cases hw : wis i d with
  | none => rw [hw] at hx; cases hx
  | some j => rw [hw] at hx; exact ⟨j, rfl, hx⟩
theorem JJ_all (h : JJ B n dc pa va dl ge su vo un an dp sq qq cc dps lts chs cks hds nls wis) {hu u9 : Nat → Bool} (hu9 : u9 = uni (uni (uni (rem hu 150) (hds 0) n) (hds 1) n) (hds 2) n) (d : Nat) : fwS dc dl ge su (ends u9 (flS pa ge u9 n n)) n d = wnS (lfB dc an n (mOr (mOr (hds 0) (hds 1)) (hds 2)) d) (rk vo ge un) n := by
  have hT := h.1.1
  have e : ∀ k, k < n → u9 k = mOr (mOr (hds 0) (hds 1)) (hds 2) k := fun k hk => by
    have h1 : k < 150 := by have := hT.1; omega
    rw [hu9]
    simp [uni, rem, hk, h1, mOr]
  have hlt : ∀ k, mOr (mOr (hds 0) (hds 1)) (hds 2) k = true → k < n := fun k hk => by
    simp only [mOr, Bool.or_eq_true] at hk
    rcases hk with (z | z) | z
    · exact (h.2.1 0 (by omega)).1.1 k z
    · exact (h.2.1 1 (by omega)).1.1 k z
    · exact (h.2.1 2 (by omega)).1.1 k z
  have hNL := flS_NL (hd := mOr (mOr (hds 0) (hds 1)) (hds 2)) hT.1 hT.2.2.2.1 hT.2.2.1
  rw [wn_bs (dl := dl) (su := su) h.1.2.2.2.2.2 hNL hlt (JJ_ge h) h.1.2.2.1 (fun k hk => (h.1.2.2.2.2.1 k hk).1) (fun k hk => (h.1.2.2.2.2.1 k hk).2.2) d n (Nat.le_refl _), fwS_bsS, flS_hc e n (Nat.le_refl _)]
  refine bsS_congr (fun k hk => ⟨rfl, rfl, rfl, rfl, ?_⟩) d n (Nat.le_refl _)
  unfold ends
  rw [e k hk]
theorem JJ_pend (h : JJ B n dc pa va dl ge su vo un an dp sq qq cc dps lts chs cks hds nls wis) (hB : B ≤ 900000) (hi : i < 3) (hj : j < 3) : fct (ccC (chs i) (mnI (cks i ((i * 3) + j)) (cks j ((i * 3) + j)))) 4 = fct (pnC qq cc i j) 4 := fct_congr (fun k hk => by
  have b1 := h.2.2.2.1 ((4 * i) + k)
  have b2 := h.2.2.2.2.1 (((9 * i) + (3 * i)) + j)
  have b3 : stN cc i j ≤ B := by unfold stN; omega
  unfold ccC pnC
  rw [JJ_com h hB hi hj, (h.2.1 i hi).2.2.2.2.2.1 k hk]
  apply bool_iff
  rw [Bool.not_eq_true', decide_eq_false_iff_not, decide_eq_true_eq, nI_leI (by omega) (by omega)]
  omega)
end JF
