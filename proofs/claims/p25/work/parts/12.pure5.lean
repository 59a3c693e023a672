/-! what the reading calls answer; when an edit goes -/
section JR
variable {n : Nat} {dc : Nat → Nat} {pa : Nat → Option Nat} {dl : Nat → Bool} {ge : Nat → Nat} {su va : Nat → Int32} {mk : Nat → Bool} {dpM sq tc kp : Nat → Int32} {dps lts : Nat → Int32} {chs cks : Nat → Nat → Int32} {hds : Nat → Nat → Bool} {nls : Nat → Nat → Nat} {wis : Nat → Nat → Option Nat}
variable {i j d k : Nat} {o : Option Nat} {v : Int32} {b : Bool}
theorem J_hd (h : J n dc pa dl ge su mk dpM sq tc kp dps lts chs cks hds nls wis) (hi : i < 3) (hk : k < n) : mk ((150 * i) + k) = hds i k := (h.2 i hi).2.1 k (by have := h.1.1; omega)
theorem J_lef (h : J n dc pa dl ge su mk dpM sq tc kp dps lts chs cks hds nls wis) (hi : i < 3) (hk : k < n) : lef pa mk i n k = ends (hds i) (nls i) k := by
  obtain ⟨s1, s2, -⟩ := h.2 i hi
  exact lef_ends h.1.1 s1.2.1 s2 (by have := h.1.1; omega)
theorem J_size (h : J n dc pa dl ge su mk dpM sq tc kp dps lts chs cks hds nls wis) (hi : i < 3) : fct (mrw mk i) n = fct (hds i) n := fct_congr (fun _ hk => J_hd h hi hk)
theorem J_win (h : J n dc pa dl ge su mk dpM sq tc kp dps lts chs cks hds nls wis) (hi : i < 3) (d : Nat) : bsS dc dl ge su (lef pa mk i n) d n = wis i d := by
  rw [(h.2 i hi).1.2.2 d]
  exact bsS_congr (fun _ hk => ⟨rfl, rfl, rfl, rfl, J_lef h hi hk⟩) d n (Nat.le_refl _)
theorem J_cnf (h : J n dc pa dl ge su mk dpM sq tc kp dps lts chs cks hds nls wis) (hi : i < 3) : fct (llC dc dl (lef pa mk i n) d) n = fct (llC dc dl (ends (hds i) (nls i)) d) n := fct_congr (fun k hk => by unfold llC; rw [J_lef h hi hk])
theorem J_shv (h : J n dc pa dl ge su mk dpM sq tc kp dps lts chs cks hds nls wis) (hi : i < 3) : shM pa mk dc dl ge su va i n = shv dl va (wis i) := by
  unfold shM
  rw [show (fun d => bsS dc dl ge su (lef pa mk i n) d n) = wis i from funext (fun d => J_win h hi d)]
theorem J_lk (h : J n dc pa dl ge su mk dpM sq tc kp dps lts chs cks hds nls wis) (hi : i < 3) (hj : j < 3) : lkC kp i j = mnI (cks i ((i * 3) + j)) (cks j ((i * 3) + j)) := lkC_mnI hi hj (h.2 i hi).2.2.2.2.2 (h.2 j hj).2.2.2.2.2
theorem J_pend (h : J n dc pa dl ge su mk dpM sq tc kp dps lts chs cks hds nls wis) (hi : i < 3) {x : Int32} : fct (ccC (tcr tc i) x) 4 = fct (ccC (chs i) x) 4 := fct_congr (fun d hd => by unfold ccC tcr; rw [(h.2 i hi).2.2.2.2.1 d hd])
theorem J_sq (h : J n dc pa dl ge su mk dpM sq tc kp dps lts chs cks hds nls wis) (hi : i < 3) : sq i = lts i := (h.2 i hi).2.2.2.1
theorem J_wi (h : J n dc pa dl ge su mk dpM sq tc kp dps lts chs cks hds nls wis) (hi : i < 3) : ∀ d j, wis i d = some j → j < n := fun d j hj => by
  rw [(h.2 i hi).1.2.2 d] at hj
  exact bsS_lt _ _ _ _ _ _ _ _ hj
theorem J_nl (h : J n dc pa dl ge su mk dpM sq tc kp dps lts chs cks hds nls wis) (hi : i < 3) : ∀ k, nls i k ≤ 151 := (h.2 i hi).1.2.1.1
/-- the union of the stores -/
theorem J_all (h : J n dc pa dl ge su mk dpM sq tc kp dps lts chs cks hds nls wis) {hd un : Nat → Bool} (hun : un = uni (uni (uni (rem hd 150) (hds 0) n) (hds 1) n) (hds 2) n) : bsS dc dl ge su (woL pa mk n) d n = fwS dc dl ge su (ends un (flS pa ge un n n)) n d := by
  have hn := h.1.1
  have e : ∀ k, k < n → un k = (hds 0 k || (hds 1 k || hds 2 k)) := fun k hk => by
    have h1 : k < 150 := by omega
    rw [hun]
    simp [uni, rem, hk, h1, Bool.or_assoc]
  have hNL := flS_NL (hd := un) hn h.1.2.2.2.1 h.1.2.2.1
  rw [fwS_bsS]
  refine bsS_congr (fun k hk => ⟨rfl, rfl, rfl, rfl, ?_⟩) d n (Nat.le_refl _)
  have m0 : ∀ k, k < n → mk k = hds 0 k := fun k hk => by have := J_hd (i := 0) h (by decide) hk; rwa [show (150 * 0) + k = k by omega] at this
  have m1 : ∀ k, k < n → mk (150 + k) = hds 1 k := fun k hk => J_hd (i := 1) h (by decide) hk
  have m2 : ∀ k, k < n → mk (300 + k) = hds 2 k := fun k hk => J_hd (i := 2) h (by decide) hk
  have ea : anw mk k = un k := by unfold anw; rw [m0 k hk, m1 k hk, m2 k hk, e k hk]
  have eb : (any (hsP pa mk 0 k) n || (any (hsP pa mk 1 k) n || any (hsP pa mk 2 k) n)) = hasD (flS pa ge un n n) k := by
    have e1 : (any (hsP pa mk 0 k) n || (any (hsP pa mk 1 k) n || any (hsP pa mk 2 k) n)) = true ↔ hasD (flS pa ge un n n) k = true := by
      rw [Bool.or_eq_true, Bool.or_eq_true, any_iff, any_iff, any_iff]
      unfold hasD
      rw [decide_eq_true_eq, hNL.2.1 k]
      have q0 : ∀ z, z < n → hsP pa mk 0 k z = (hds 0 z && anc pa k z) := fun z hz => by unfold hsP; rw [show (150 * 0) + z = z by omega, m0 z hz]
      have q1 : ∀ z, z < n → hsP pa mk 1 k z = (hds 1 z && anc pa k z) := fun z hz => by unfold hsP; rw [show (150 * 1) + z = 150 + z by omega, m1 z hz]
      have q2 : ∀ z, z < n → hsP pa mk 2 k z = (hds 2 z && anc pa k z) := fun z hz => by unfold hsP; rw [show (150 * 2) + z = 300 + z by omega, m2 z hz]
      constructor
      · rintro (⟨z, z1, z2⟩ | ⟨z, z1, z2⟩ | ⟨z, z1, z2⟩)
        · rw [q0 z z1, Bool.and_eq_true] at z2; exact ⟨z, z1, by rw [e z z1, z2.1]; rfl, z2.2⟩
        · rw [q1 z z1, Bool.and_eq_true] at z2; exact ⟨z, z1, by rw [e z z1, z2.1]; simp, z2.2⟩
        · rw [q2 z z1, Bool.and_eq_true] at z2; exact ⟨z, z1, by rw [e z z1, z2.1]; simp, z2.2⟩
      · rintro ⟨z, z1, z2, z3⟩
        rw [e z z1, Bool.or_eq_true, Bool.or_eq_true] at z2
        rcases z2 with y | y | y
        · exact Or.inl ⟨z, z1, by rw [q0 z z1, y, z3]; rfl⟩
        · exact Or.inr (Or.inl ⟨z, z1, by rw [q1 z z1, y, z3]; rfl⟩)
        · exact Or.inr (Or.inr ⟨z, z1, by rw [q2 z z1, y, z3]; rfl⟩)
    cases x1 : (any (hsP pa mk 0 k) n || (any (hsP pa mk 1 k) n || any (hsP pa mk 2 k) n)) <;> cases x2 : hasD (flS pa ge un n n) k <;> simp_all
  unfold woL ends
  rw [ea, eb]
/-- ancestors have the document -/
theorem anc_dc (hT : TV n dc pa ge) {r : Nat} : ∀ (f k : Nat), k < f → k < n → anc pa r k = true → dc r = dc k
  | 0, _, h, _, _ => absurd h (Nat.not_lt_zero _)
  | f + 1, k, hf, hk, h => by
    obtain ⟨p, hp, h3⟩ := (anc_iff hT.1 hT.2.2.2.1 hk).mp h
    have hpk := hT.2.2.2.1 k p hk hp
    have hd := (hT.2.2.2.2.1 k p hk hp).1
    rcases h3 with h3 | h3
    · rw [hd, h3]
    · rw [hd]; exact anc_dc hT f p (by omega) (by omega) h3
/-- a revision that the store holds: none of its document, if there is no winner -/
theorem J_held0 (h : J n dc pa dl ge su mk dpM sq tc kp dps lts chs cks hds nls wis) (hi : i < 3) (hw : wis i d = none) (hj : j < n) (hd : dc j = d) : hds i j = false := by
  obtain ⟨⟨s1, s2, s3⟩, -⟩ := h.2 i hi
  rw [s3 d] at hw
  have hno := bsS_none hw
  cases hx : hds i j with
  | false => rfl
  | true =>
    exfalso
    by_cases h1 : nls i j = 151
    · have := hno j hj hd
      rw [show ends (hds i) (nls i) j = true from ends_iff.mpr ⟨hx, h1⟩] at this
      cases this
    · obtain ⟨k, k1, k2, k3, -⟩ := s2.2.2.2 j h1
      have := hno k k1 (by rw [← anc_dc h.1 (k + 1) k (Nat.lt_succ_self _) k1 k3]; exact hd)
      rw [k2] at this
      cases this
/-- a child of a leaf isn't held -/
theorem J_held1 (h : J n dc pa dl ge su mk dpM sq tc kp dps lts chs cks hds nls wis) (hi : i < 3) (hl : ends (hds i) (nls i) k = true) (hj : j < n) (hp : pa j = some k) : hds i j = false := by
  obtain ⟨⟨s1, s2, s3⟩, -⟩ := h.2 i hi
  cases hx : hds i j with
  | false => rfl
  | true => exact absurd (ends_iff.mp hl).2 ((s2.2.1 k).mpr ⟨j, hj, hx, anc_pa h.1.1 h.1.2.2.2.1 hj hp⟩)
theorem J_new (h : J n dc pa dl ge su mk dpM sq tc kp dps lts chs cks hds nls wis) (hi : i < 3) (hn : n < 150) : mk ((150 * i) + n) = false := by
  rw [(h.2 i hi).2.1 n hn]
  cases hx : hds i n with
  | false => rfl
  | true => exact absurd ((h.2 i hi).1.1 n hx) (Nat.lt_irrefl _)
theorem fnd_hit (hpb : ∀ k j, k < n → pa k = some j → j < k) (hn : n ≤ 150) (ho : ∀ j, o = some j → j < n) {va : Nat → Int32} (h : ffd (fnd dc pa va dl d o v b) n = some j) : j < n ∧ dc j = d ∧ pa j = o := by
  obtain ⟨h1, h2⟩ := ffd_lt h
  simp only [fnd, Bool.and_eq_true, decide_eq_true_eq] at h2
  exact ⟨h1, h2.1, (eP_inj (fun q hq => by have := hpb j q h1 hq; omega) (fun q hq => by have := ho q hq; omega)).mp h2.2.1⟩
/-- whether the document can be edited behind o -/
theorem J_can0 (h : J n dc pa dl ge su mk dpM sq tc kp dps lts chs cks hds nls wis) (hi : i < 3) : cne dc (lef pa mk i n) (bsS dc dl ge su (lef pa mk i n) d n) n d none = (decide (wis i d = none) && decide (n < 150)) := by
  unfold cne
  rw [J_win h hi]
theorem J_can1 (h : J n dc pa dl ge su mk dpM sq tc kp dps lts chs cks hds nls wis) (hi : i < 3) (hk : k < n) : cne dc (lef pa mk i n) (bsS dc dl ge su (lef pa mk i n) d n) n d (some k) = ((decide (dc k = d) && ends (hds i) (nls i) k) && decide (n < 150)) := by
  unfold cne
  simp only [J_lef h hi hk]
end JR
