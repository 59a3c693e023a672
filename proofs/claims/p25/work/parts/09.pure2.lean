/-! a store's validity; it stays under growth of the tree, the search for leaves and winners, stemming -/
theorem any_congr {P Q : Nat → Bool} : ∀ {n : Nat}, (∀ k, k < n → P k = Q k) → any P n = any Q n
  | 0, _ => rfl
  | n + 1, h => by
    show (any P n || P n) = (any Q n || Q n)
    rw [any_congr (fun k hk => h k (Nat.lt_succ_of_lt hk)), h n (Nat.lt_succ_self n)]
theorem fct_congr {P Q : Nat → Bool} : ∀ {n : Nat}, (∀ k, k < n → P k = Q k) → fct P n = fct Q n
  | 0, _ => rfl
  | n + 1, h => by
    show fct P n + _ = fct Q n + _
    rw [fct_congr (fun k hk => h k (Nat.lt_succ_of_lt hk)), h n (Nat.lt_succ_self n)]
theorem ffd_congr {P Q : Nat → Bool} : ∀ {n : Nat}, (∀ k, k < n → P k = Q k) → ffd P n = ffd Q n
  | 0, _ => rfl
  | n + 1, h => by
    have ih := ffd_congr (n := n) (fun k hk => h k (Nat.lt_succ_of_lt hk))
    simp only [ffd, ih, h n (Nat.lt_succ_self n)]
theorem ffd_lt {P : Nat → Bool} : ∀ {n j : Nat}, ffd P n = some j → j < n ∧ P j = true
  | 0, _, h => by cases h
  | n + 1, j, h => by
    cases e : ffd P n with
    | some i =>
      simp [ffd, e] at h
      subst h
      have := ffd_lt e
      exact ⟨by omega, this.2⟩
    | none =>
      simp [ffd, e] at h
      obtain ⟨h1, h2⟩ := h
      subst h2
      exact ⟨by omega, h1⟩
theorem ffd_none {P : Nat → Bool} : ∀ {n : Nat}, ffd P n = none → ∀ k, k < n → P k = false
  | 0, _, k, hk => absurd hk (Nat.not_lt_zero k)
  | n + 1, h, k, hk => by
    cases e : ffd P n with
    | some i => simp [ffd, e] at h
    | none =>
      simp [ffd, e] at h
      rcases Nat.lt_or_ge k n with q | q
      · exact ffd_none e k q
      · rw [show k = n by omega]; exact h
section BST
variable {n : Nat} {dc dc2 : Nat → Nat} {dl dl2 : Nat → Bool} {ge ge2 : Nat → Nat} {su su2 : Nat → Int32} {L L2 : Nat → Bool}
theorem bsS_congr (h : ∀ k, k < n → dc2 k = dc k ∧ dl2 k = dl k ∧ ge2 k = ge k ∧ su2 k = su k ∧ L2 k = L k) (d : Nat) : ∀ c, c ≤ n → bsS dc2 dl2 ge2 su2 L2 d c = bsS dc dl ge su L d c
  | 0, _ => rfl
  | c + 1, hc => by
    have ih := bsS_congr h d c (by omega)
    obtain ⟨h1, h2, h3, h4, h5⟩ := h c (by omega)
    show bsp dc2 dl2 ge2 su2 L2 d c (bsS dc2 dl2 ge2 su2 L2 d c) = bsp dc dl ge su L d c (bsS dc dl ge su L d c)
    rw [ih]
    cases hb : bsS dc dl ge su L d c with
    | none => unfold bsp; rw [h1, h5]
    | some b =>
      have hbc := bsS_lt dc dl ge su L d c b hb
      obtain ⟨g1, g2, g3, g4, g5⟩ := h b (by omega)
      have eb : btr dl2 ge2 su2 c b = btr dl ge su c b := by unfold btr; rw [h2, h3, h4, g2, g3, g4]
      unfold bsp
      rw [h1, h5]
      simp only [eb]
theorem bsS_no {d : Nat} (h : L n = false) : bsS dc dl ge su L d (n + 1) = bsS dc dl ge su L d n := by
  show bsp dc dl ge su L d n (bsS dc dl ge su L d n) = _
  simp [bsp, h]
/-- a best one is a leaf of the document; where there is none there is no leaf -/
theorem bsS_some {d : Nat} : ∀ {c j : Nat}, bsS dc dl ge su L d c = some j → j < c ∧ dc j = d ∧ L j = true
  | 0, j, h => by cases h
  | c + 1, j, h => by
    have h : bsp dc dl ge su L d c (bsS dc dl ge su L d c) = some j := h
    rcases bsp_x dc dl ge su L d c (bsS dc dl ge su L d c) with e | e
    · rw [e] at h
      obtain ⟨h1, h2, h3⟩ := bsS_some h
      exact ⟨by omega, h2, h3⟩
    · by_cases hc : (decide (dc c = d) && L c) = true
      · rw [e] at h
        cases h
        simp only [Bool.and_eq_true, decide_eq_true_eq] at hc
        exact ⟨Nat.lt_succ_self _, hc.1, hc.2⟩
      · have e2 : bsp dc dl ge su L d c (bsS dc dl ge su L d c) = bsS dc dl ge su L d c := by simp only [bsp, if_neg hc]
        rw [e2] at h
        obtain ⟨h1, h2, h3⟩ := bsS_some h
        exact ⟨by omega, h2, h3⟩
theorem bsS_none {d : Nat} : ∀ {c : Nat}, bsS dc dl ge su L d c = none → ∀ k, k < c → dc k = d → L k = false
  | 0, _, k, hk, _ => absurd hk (Nat.not_lt_zero k)
  | c + 1, h, k, hk, hd => by
    have h : bsp dc dl ge su L d c (bsS dc dl ge su L d c) = none := h
    have e : bsS dc dl ge su L d c = none := by
      cases hb : bsS dc dl ge su L d c with
      | none => rfl
      | some b =>
        exfalso
        rw [hb] at h
        simp only [bsp] at h
        split at h
        · split at h <;> cases h
        · cases h
    rcases Nat.lt_or_ge k c with q | q
    · exact bsS_none e k q hd
    · have hkc : k = c := by omega
      subst hkc
      rw [e] at h
      simp only [bsp] at h
      split at h
      · cases h
      · rename_i h2
        simp only [Bool.and_eq_true, decide_eq_true_eq, hd, true_and] at h2
        exact Bool.eq_false_iff.mpr h2
theorem fwS_bsS : ∀ c d, fwS dc dl ge su L c d = bsS dc dl ge su L d c
  | 0, d => rfl
  | c + 1, d => by
    have ih := fwS_bsS c
    show fwp dc dl ge su L c (fwS dc dl ge su L c) d = bsp dc dl ge su L d c (bsS dc dl ge su L d c)
    by_cases hL : L c = true
    · by_cases hd : dc c = d
      · subst hd
        rw [← ih (dc c)]
        cases hx : fwS dc dl ge su L c (dc c) with
        | none => simp [fwp, bsp, hL, hx, va_up]
        | some b =>
          by_cases hb : btr dl ge su c b = true
          · simp [fwp, bsp, hL, hx, va_up, hb]
          · simp [fwp, bsp, hL, hx, va_up, hb]
      · have hd2 : ¬ d = dc c := fun z => hd z.symm
        rw [← ih d]
        cases hx : fwS dc dl ge su L c (dc c) with
        | none => simp [fwp, bsp, hL, hx, va_up, hd, hd2]
        | some b =>
          by_cases hb : btr dl ge su c b = true
          · simp [fwp, bsp, hL, hx, va_up, hb, hd, hd2]
          · simp [fwp, bsp, hL, hx, va_up, hb, hd, hd2]
    · rw [← ih d]
      simp [fwp, bsp, hL]
end BST
def SV (n : Nat) (dc : Nat → Nat) (pa : Nat → Option Nat) (dl : Nat → Bool) (ge : Nat → Nat) (su : Nat → Int32) (hd : Nat → Bool) (nl : Nat → Nat) (wi : Nat → Option Nat) : Prop :=
  (∀ k, hd k = true → k < n) ∧ NL n pa ge hd nl ∧ ∀ d, wi d = bsS dc dl ge su (ends hd nl) d n
section SVS
variable {n : Nat} {dc : Nat → Nat} {pa : Nat → Option Nat} {dl : Nat → Bool} {ge : Nat → Nat} {su : Nat → Int32} {hd : Nat → Bool} {nl : Nat → Nat} {wi : Nat → Option Nat}
theorem TV_grow {d : Nat} {o : Option Nat} (h : TV n dc pa ge) (hn : n < 150) (hd4 : d < 4) (ho : ∀ j, o = some j → j < n ∧ dc j = d) : TV (n + 1) (va_up dc n d) (va_up pa n o) (va_up ge n (mkg ge o)) ∧ mkg ge o ≤ 150 := by
  obtain ⟨h1, h2, h3, h4, h5, h6⟩ := h
  have hg : mkg ge o ≤ n + 1 := by
    cases o with
    | none => show 1 ≤ n + 1; omega
    | some j => have := h6 j (ho j rfl).1; have := (ho j rfl).1; show ge j + 1 ≤ n + 1; omega
  have hs : ∀ k, k < n → ¬ k = n := fun k h => by omega
  refine ⟨⟨by omega, up_Td h2 hd4, up_Tg h3 (by omega), up_Tp h4 (fun j hj => (ho j hj).1), fun k j hk hp => ?_, fun k hk => ?_⟩, by omega⟩
  · by_cases e : k = n
    · subst e
      simp only [va_up, if_true] at hp ⊢
      obtain ⟨o1, o2⟩ := ho j hp
      rw [if_neg (hs j o1), if_neg (hs j o1), hp]
      exact ⟨o2.symm, rfl⟩
    · simp only [va_up, if_neg e] at hp ⊢
      have hk2 : k < n := by omega
      have := h4 k j hk2 hp
      rw [if_neg (hs j (by omega)), if_neg (hs j (by omega))]
      exact h5 k j hk2 hp
  · by_cases e : k = n
    · subst e; simp only [va_up, if_true]; exact hg
    · simp only [va_up, if_neg e]; exact h6 k (by omega)
theorem anc_grow {r k : Nat} {o : Option Nat} (h : TV n dc pa ge) (hk : k < n) : anc (va_up pa n o) r k = anc pa r k :=
  anc_congr h.1 h.2.2.2.1 (fun q hq => by have : ¬ q = n := by omega
                                          simp only [va_up, if_neg this]) (k + 1) k (Nat.lt_succ_self _) hk
theorem SV_grow {d g : Nat} {o : Option Nat} {b : Bool} {y : Int32} (h : TV n dc pa ge) (hs : SV n dc pa dl ge su hd nl wi) : SV (n + 1) (va_up dc n d) (va_up pa n o) (va_up dl n b) (va_up ge n g) (va_up su n y) hd nl wi := by
  obtain ⟨s1, ⟨a0, a1, a2, a3⟩, s3⟩ := hs
  have hne : ∀ k, k < n → ¬ k = n := fun k h => by omega
  have hke : ∀ k, ends hd nl k = true → k < n := fun k hk => s1 k (ends_iff.mp hk).1
  refine ⟨fun k hk => by have := s1 k hk; omega, ⟨a0, fun r => ?_, fun r k h1 h2 h3 => ?_, fun r hr => ?_⟩, fun d9 => ?_⟩
  · rw [a1 r]
    refine ⟨fun ⟨k, k1, k2, k3⟩ => ⟨k, by omega, k2, by rw [anc_grow h k1]; exact k3⟩, fun ⟨k, k1, k2, k3⟩ => ⟨k, s1 k k2, k2, by rw [← anc_grow (o := o) h (s1 k k2)]; exact k3⟩⟩
  · have hk := hke k h2
    simp only [va_up, if_neg (hne k hk)]
    exact a2 r k hk h2 (by rw [← anc_grow (o := o) h hk]; exact h3)
  · obtain ⟨k, k1, k2, k3, k4⟩ := a3 r hr
    refine ⟨k, by omega, k2, by rw [anc_grow h k1]; exact k3, ?_⟩
    simp only [va_up, if_neg (hne k k1)]
    exact k4
  · have e : ends hd nl n = false := by
      cases e : ends hd nl n with
      | false => rfl
      | true => exact absurd (hke n e) (Nat.lt_irrefl _)
    rw [s3 d9, bsS_no e]
    exact (bsS_congr (fun k hk => ⟨if_neg (hne k hk), if_neg (hne k hk), if_neg (hne k hk), if_neg (hne k hk), rfl⟩) d9 n (Nat.le_refl _)).symm
theorem SV_survey (h : TV n dc pa ge) (h1 : ∀ k, hd k = true → k < n) : SV n dc pa dl ge su hd (flS pa ge hd n n) (fwS dc dl ge su (ends hd (flS pa ge hd n n)) n) :=
  ⟨h1, flS_NL h.1 h.2.2.2.1 h.2.2.1, fun d => fwS_bsS n d⟩
theorem stm_le {dp : Int32} {c k : Nat} (h : stm hd nl ge dp c k = true) : hd k = true := by
  simp only [stm, Bool.and_eq_true] at h
  exact h.1
theorem stm_ends (dp : Int32) (c : Nat) : ends (stm hd nl ge dp c) nl = ends hd nl := by
  funext k
  by_cases h : nl k = 151
  · have e1 : hasD nl k = false := by simp [hasD, h]
    simp [ends, stm, stC, e1]
  · have e1 : hasD nl k = true := by simp [hasD, h]
    simp [ends, e1]
theorem NL_stem {dp : Int32} {c : Nat} (h : NL n pa ge hd nl) : NL n pa ge (stm hd nl ge dp c) nl := by
  obtain ⟨a0, a1, a2, a3⟩ := h
  have e := stm_ends (hd := hd) (nl := nl) (ge := ge) dp c
  refine ⟨a0, fun r => ⟨fun hr => ?_, fun ⟨k, k1, k2, k3⟩ => (a1 r).mpr ⟨k, k1, stm_le k2, k3⟩⟩, fun r k h1 h2 h3 => a2 r k h1 (by rw [← e]; exact h2) h3, fun r hr => ?_⟩
  · obtain ⟨k, k1, k2, k3, -⟩ := a3 r hr
    rw [← e] at k2
    exact ⟨k, k1, (ends_iff.mp k2).1, k3⟩
  · obtain ⟨k, k1, k2, k3, k4⟩ := a3 r hr
    exact ⟨k, k1, by rw [e]; exact k2, k3, k4⟩
theorem SV_stem {dp : Int32} {c : Nat} (h : SV n dc pa dl ge su hd nl wi) : SV n dc pa dl ge su (stm hd nl ge dp c) nl wi :=
  ⟨fun k hk => h.1 k (stm_le hk), NL_stem h.2.1, fun d => by rw [stm_ends]; exact h.2.2 d⟩
end SVS
/-- the marks of store i are what it holds -/
def RW (mk : Nat → Bool) (i : Nat) (hd : Nat → Bool) : Prop := ∀ k, k < 150 → mk ((150 * i) + k) = hd k
section STM
variable {n i : Nat} {dc : Nat → Nat} {pa : Nat → Option Nat} {ge : Nat → Nat} {hd : Nat → Bool} {nl : Nat → Nat} {mk : Nat → Bool} {dp : Nat → Int32}
theorem any_hs (hn : n ≤ 150) (h : NL n pa ge hd nl) (hr : RW mk i hd) (r : Nat) : any (hsP pa mk i r) n = hasD nl r := by
  have e : any (hsP pa mk i r) n = true ↔ hasD nl r = true := by
    rw [any_iff]
    unfold hasD hsP
    rw [decide_eq_true_eq, h.2.1 r]
    refine ⟨fun ⟨k, h1, h2⟩ => ?_, fun ⟨k, h1, h2, h3⟩ => ⟨k, h1, by rw [hr k (by omega), h2, h3]; rfl⟩⟩
    rw [hr k (by omega), Bool.and_eq_true] at h2
    exact ⟨k, h1, h2.1, h2.2⟩
  cases h1 : any (hsP pa mk i r) n <;> cases h2 : hasD nl r <;> simp_all
theorem lef_ends (hn : n ≤ 150) (h : NL n pa ge hd nl) (hr : RW mk i hd) {k : Nat} (hk : k < 150) : lef pa mk i n k = ends hd nl k := by
  unfold lef ends
  rw [any_hs hn h hr, hr k hk]
theorem dep_eq (hT : TV n dc pa ge) (h : NL n pa ge hd nl) (hr : RW mk i hd) {e r : Nat} (he : dp i = nI e) (he2 : e ≤ 20) (hrn : r < n) : dep pa mk ge dp i n r = (hasD nl r && !decide (nI (nl r) - nI (ge r) < nI e)) := by
  have hn := hT.1
  have hg := hT.2.2.1
  have hnl := h.1 r
  have hQ : any (dpQ pa mk i n r) n = hasD nl r := by
    have e1 : any (dpQ pa mk i n r) n = true ↔ hasD nl r = true := by
      rw [any_iff]
      unfold hasD dpQ
      rw [decide_eq_true_eq]
      refine ⟨fun ⟨k, h1, h2⟩ => ?_, fun z => ?_⟩
      · rw [lef_ends hn h hr (by omega), Bool.and_eq_true] at h2
        exact (h.2.1 r).mpr ⟨k, h1, (ends_iff.mp h2.2).1, h2.1⟩
      · obtain ⟨k, k1, k2, k3, -⟩ := h.2.2.2 r z
        exact ⟨k, k1, by rw [lef_ends hn h hr (by omega), k2, k3]; rfl⟩
    cases h1 : any (dpQ pa mk i n r) n <;> cases h2 : hasD nl r <;> simp_all
  unfold dep
  rw [hQ]
  cases hz : hasD nl r with
  | false => rfl
  | true =>
    have hz2 : nl r ≠ 151 := by simpa [hasD] using hz
    obtain ⟨k, k1, k2, k3, k4⟩ := h.2.2.2 r hz2
    have hdif : (nI (nl r) - nI (ge r)).toInt = ((nl r : Nat) : Int) - (ge r : Nat) := pk_sub_toInt (by omega) (by have := hg r; omega)
    have hei : (nI e).toInt = (e : Int) := nI_toInt (by omega)
    have key : any (dpR pa mk ge dp i n r) n = true ↔ nI (nl r) - nI (ge r) < nI e := by
      rw [any_iff, Int32.lt_iff_toInt_lt, hdif, hei]
      refine ⟨fun ⟨q, q1, q2⟩ => ?_, fun z => ⟨k, k1, ?_⟩⟩
      · unfold dpR dpQ at q2
        rw [lef_ends hn h hr (by omega)] at q2
        simp only [Bool.and_eq_true, Bool.not_eq_true', decide_eq_false_iff_not] at q2
        obtain ⟨⟨q3, q4⟩, q5⟩ := q2
        have := h.2.2.1 r q q1 q4 q3
        rw [he, nI_add, nI_leI (by have := hg r; omega) (by have := hg q; omega)] at q5
        omega
      · unfold dpR dpQ
        rw [lef_ends hn h hr (by omega), k2, k3, he, nI_add]
        have : ¬ nI (ge r + e) ≤ nI (ge k) := by
          rw [nI_leI (by have := hg r; omega) (by have := hg k; omega)]
          omega
        simp [this]
    by_cases hx : nI (nl r) - nI (ge r) < nI e
    · rw [key.mpr hx]; simp [hx]
    · have : any (dpR pa mk ge dp i n r) n = false := by
        cases hy : any (dpR pa mk ge dp i n r) n with
        | false => rfl
        | true => exact absurd (key.mp hy) hx
      rw [this]; simp [hx]
theorem smS_stm (hT : TV n dc pa ge) (h : NL n pa ge hd nl) (hr : RW mk i hd) {e : Nat} (he : dp i = nI e) (he2 : e ≤ 20) : ∀ c, c ≤ n →
    (smS pa ge dp i n mk c).1 = fct (stC hd nl ge (nI e)) c ∧ RW (smS pa ge dp i n mk c).2 i (stm hd nl ge (nI e) c) ∧ ∀ q, ¬ (150 * i ≤ q ∧ q < 150 * i + 150) → (smS pa ge dp i n mk c).2 q = mk q
  | 0, _ => ⟨rfl, by rw [← stm_0]; exact hr, fun q _ => rfl⟩
  | c + 1, hc => by
    obtain ⟨h1, h2, h3⟩ := smS_stm hT h hr he he2 c (by omega)
    have hn := hT.1
    have hcc : (smS pa ge dp i n mk c).2 ((150 * i) + c) = hd c := by rw [h2 c (by omega), stm_k]
    have hdp := dep_eq (mk := (smS pa ge dp i n mk c).2) hT (NL_stem (dp := nI e) (c := c) h) h2 he he2 (show c < n by omega)
    have hq : stC hd nl ge (nI e) c = ((smS pa ge dp i n mk c).2 ((150 * i) + c) && dep pa (smS pa ge dp i n mk c).2 ge dp i n c) := by
      rw [hcc, hdp]; rfl
    cases hz : stC hd nl ge (nI e) c with
    | false =>
      rw [hz] at hq
      rw [smS_f hq.symm, ← stm_f hz, fct_f hz]
      exact ⟨h1, h2, h3⟩
    | true =>
      rw [hz] at hq
      have hq2 := hq.symm
      rw [Bool.and_eq_true] at hq2
      rw [smS_t hq2.1 hq2.2, ← stm_t hz, fct_t hz]
      refine ⟨by show _ + 1 = _; rw [h1], fun k hk => ?_, fun q hq9 => ?_⟩
      · show va_up _ _ _ _ = va_up _ _ _ _
        by_cases hkc : k = c
        · subst hkc; simp [va_up]
        · have : ¬ (150 * i) + k = (150 * i) + c := by omega
          simp only [va_up, if_neg this, if_neg hkc]
          exact h2 k hk
      · show va_up _ _ _ _ = _
        have : ¬ q = (150 * i) + c := by omega
        simp only [va_up, if_neg this]
        exact h3 q hq9
end STM
