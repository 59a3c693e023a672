/-! replication: the law's way by sequences and the class's way by documents -/
theorem nxS_none {ch : Nat → Int32} {a : Int32} : ∀ {c : Nat}, nxS ch a c = none → ∀ d, d < c → ch d ≤ a
  | 0, _, d, hd => absurd hd (Nat.not_lt_zero d)
  | c + 1, h, d, hd => by
    have h : nxp ch a c (nxS ch a c) = none := h
    by_cases hc : ch c ≤ a
    · rw [show nxp ch a c (nxS ch a c) = nxS ch a c from if_pos hc] at h
      rcases Nat.lt_or_ge d c with q | q
      · exact nxS_none h d q
      · rw [show d = c by omega]; exact hc
    · exfalso
      cases hx : nxS ch a c with
      | none => rw [hx] at h; simp only [nxp, if_neg hc] at h; cases h
      | some z =>
        rw [hx] at h
        simp only [nxp, if_neg hc] at h
        split at h <;> cases h
theorem nxS_some {ch : Nat → Int32} {a : Int32} : ∀ {c b : Nat}, nxS ch a c = some b → b < c ∧ ¬ ch b ≤ a ∧ ∀ d, d < c → ch d ≤ a ∨ ch b ≤ ch d
  | 0, b, h => by cases h
  | c + 1, b, h => by
    have h : nxp ch a c (nxS ch a c) = some b := h
    by_cases hc : ch c ≤ a
    · rw [show nxp ch a c (nxS ch a c) = nxS ch a c from if_pos hc] at h
      obtain ⟨h1, h2, h3⟩ := nxS_some h
      refine ⟨by omega, h2, fun d hd => ?_⟩
      rcases Nat.lt_or_ge d c with q | q
      · exact h3 d q
      · rw [show d = c by omega]; exact Or.inl hc
    · cases hx : nxS ch a c with
      | none =>
        rw [hx] at h
        simp only [nxp, if_neg hc] at h
        cases h
        refine ⟨Nat.lt_succ_self _, hc, fun d hd => ?_⟩
        rcases Nat.lt_or_ge d c with q | q
        · exact Or.inl (nxS_none hx d q)
        · rw [show d = c by omega]; exact Or.inr (Int32.le_refl _)
      | some z =>
        rw [hx] at h
        obtain ⟨h1, h2, h3⟩ := nxS_some hx
        simp only [nxp, if_neg hc] at h
        by_cases hz : ch z ≤ ch c
        · rw [if_pos hz] at h
          cases h
          refine ⟨by omega, h2, fun d hd => ?_⟩
          rcases Nat.lt_or_ge d c with q | q
          · exact h3 d q
          · rw [show d = c by omega]; exact Or.inr hz
        · rw [if_neg hz] at h
          cases h
          refine ⟨Nat.lt_succ_self _, hc, fun d hd => ?_⟩
          rcases Nat.lt_or_ge d c with q | q
          · rcases h3 d q with y | y
            · exact Or.inl y
            · exact Or.inr (Int32.le_trans (Int32.le_of_lt (Int32.not_le.mp hz)) y)
          · rw [show d = c by omega]; exact Or.inr (Int32.le_refl _)
theorem nxS_is {ch : Nat → Int32} {a : Int32} {d : Nat} (hd : d < 4) (h1 : ¬ ch d ≤ a) (h2 : ∀ e, e < 4 → e ≠ d → ch e ≤ a ∨ ch d < ch e) : nxS ch a 4 = some d := by
  cases hx : nxS ch a 4 with
  | none => exact absurd (nxS_none hx d hd) h1
  | some b =>
    obtain ⟨b1, b2, b3⟩ := nxS_some hx
    by_cases e : b = d
    · rw [e]
    · exfalso
      rcases h2 b b1 e with q | q
      · exact b2 q
      · rcases b3 d hd with y | y
        · exact h1 y
        · exact absurd y (Int32.not_le.mpr q)
theorem nxS_no {ch : Nat → Int32} {a : Int32} (h : ∀ d, d < 4 → ch d ≤ a) : nxS ch a 4 = none := by
  cases hx : nxS ch a 4 with
  | none => rfl
  | some b =>
    obtain ⟨b1, b2, -⟩ := nxS_some hx
    exact absurd (h b b1) b2
section SIM
variable {n i j : Nat} {dc : Nat → Nat} {pa : Nat → Option Nat} {dl : Nat → Bool} {ge : Nat → Nat} {su : Nat → Int32} {an : Nat → Nat → Bool} {dp : Nat → Nat} {S : Nat → Nat → Bool} {sq qq : Nat → Nat} {nl2 : Nat → Nat} {ch2 : Nat → Int32}
/-- a store's document sequences: at most its own, no two alike but 0 -/
def QV (i : Nat) (sq qq : Nat → Nat) : Prop := (∀ d, d < 4 → qq ((4 * i) + d) ≤ sq i) ∧ ∀ d e, d < 4 → e < 4 → d ≠ e → qq ((4 * i) + d) ≠ 0 → qq ((4 * i) + d) ≠ qq ((4 * i) + e)
/-- both ways at one point: x the law's, y the class's -/
def RLq (n i j : Nat) (dc : Nat → Nat) (pa : Nat → Option Nat) (dl : Nat → Bool) (ge : Nat → Nat) (su : Nat → Int32) (dp : Nat → Nat) (S : Nat → Nat → Bool) (sq qq : Nat → Nat) (x : RP) (y : CS) : Prop :=
  x.1 j = y.2.2.2.2.1 ∧ (∀ q, q ≠ j → x.1 q = S q) ∧ nI (x.2.1 j) = y.2.2.1 ∧ (∀ q, q ≠ j → x.2.1 q = sq q) ∧ (∀ d, d < 4 → nI (x.2.2.1 ((4 * j) + d)) = y.2.2.2.1 d) ∧ (∀ q, ¬ (4 * j ≤ q ∧ q < 4 * j + 4) → x.2.2.1 q = qq q) ∧ x.2.2.2.1 = y.1 ∧ nI x.2.2.2.2.2 = y.2.1 ∧
    SV n dc pa dl ge su y.2.2.2.2.1 y.2.2.2.2.2.1 y.2.2.2.2.2.2 ∧ SD y.2.2.2.2.1 y.2.2.2.2.2.1 ge (nI (dp j)) ∧ QV j x.2.1 x.2.2.1 ∧ x.2.1 j ≤ sq j + x.2.2.2.2.1
theorem any_ct {P : Nat → Bool} {m c : Nat} (h : fct P m = c) : any P m = decide (0 < c) := by rw [any_fct, h]
theorem QV_up {j d : Nat} {sq qq : Nat → Nat} (h : QV j sq qq) (hd : d < 4) : QV j (va_up sq j (sq j + 1)) (va_up qq ((4 * j) + d) (sq j + 1)) := by
  obtain ⟨h1, h2⟩ := h
  have es : va_up sq j (sq j + 1) j = sq j + 1 := up_s _ _ _
  have eq : ∀ e, va_up qq ((4 * j) + d) (sq j + 1) ((4 * j) + e) = if e = d then sq j + 1 else qq ((4 * j) + e) := fun e => by
    by_cases q : e = d
    · subst q; rw [up_s, if_pos rfl]
    · rw [up_o _ _ _ (by omega), if_neg q]
  refine ⟨fun e he => ?_, fun e f he hf hef h0 => ?_⟩
  · rw [es, eq e]
    have := h1 e he
    split <;> omega
  · rw [eq e] at h0 ⊢
    rw [eq f]
    have a1 := h1 e he
    have a2 := h1 f hf
    by_cases q1 : e = d
    · have q2 : ¬ f = d := fun z => hef (q1.trans z.symm)
      rw [if_pos q1, if_neg q2]
      omega
    · rw [if_neg q1] at h0 ⊢
      by_cases q2 : f = d
      · rw [if_pos q2]; omega
      · rw [if_neg q2]
        exact h2 e f he hf hef h0
theorem rl_step (hn24 : n ≤ 24) (hT : TV n dc pa ge) (hA : AN n pa an) (hij : i ≠ j) (h2 : NL n pa ge (S i) nl2) (hlt2 : ∀ k, S i k = true → k < n) (hdp : dp j ≤ 1000) (hch : ∀ d, d < 4 → nI (qq ((4 * i) + d)) = ch2 d) {x : RP} {y : CS} (h : RLq n i j dc pa dl ge su dp S sq qq x y) {d q : Nat} (hd : d < 4) (hq : qq ((4 * i) + d) = q) :
    RLq n i j dc pa dl ge su dp S sq qq (rpD dc an ge n dp i j q d x) (csg dc pa dl ge su n (nI (dp j)) (S i) nl2 ch2 d y) := by
  obtain ⟨r1, r2, r3, r4, r5, r6, r7, r8, r9, r10, r11, r12⟩ := h
  obtain ⟨s1, s2, s3⟩ := r9
  have ei : x.1 i = S i := r2 i hij
  obtain ⟨g1, g2⟩ := abS_n (d := d) (nl2 := nl2) hn24 hT hA h2 hlt2 s2
  obtain ⟨a1, -⟩ := abS_e (d := d) (hd := y.2.2.2.2.1) (nl := y.2.2.2.2.2.1) hT hA h2 hlt2 s2 n (Nat.le_refl _)
  have ha := any_ct g2
  unfold rpD csg
  rw [ei, r1]
  generalize hC : gcm dc an n (S i) y.2.2.2.2.1 d n = C at g1 g2 ha a1
  generalize hX : abS dc pa (S i) (ends (S i) nl2) y.2.2.2.2.2.1 d y.2.2.2.2.1 n = X at g1 g2 ha a1
  have hXlt : ∀ k, X.2 k = true → k < n := fun k hk => by
    rw [a1 k, Bool.or_eq_true] at hk
    rcases hk with z | z
    · exact s1 k z
    · rw [← hC] at z; exact hlt2 k (gcm_in z).1
  have hSV := SV_survey (dl := dl) (su := su) hT hXlt
  rw [g1]
  have hdj : ¬ (4 * j) + d = (4 * i) + d := by omega
  by_cases h0 : 0 < X.1
  · have hb : any C 24 = true := by rw [ha]; simp [h0]
    have eb : bN (any C 24) = 1 := by rw [hb]; rfl
    rw [eb, if_pos hb, if_pos h0, if_pos h0, if_pos h0, if_pos h0, if_pos h0]
    have eS : mNd X.2 (dpB dc an ge n X.2 (dp j)) = stm X.2 (flS pa ge X.2 n n) ge (nI (dp j)) n := stm_e hT hA hSV.2.1 hXlt hdp
    refine ⟨?_, fun z hz => ?_, ?_, fun z hz => ?_, fun e he => ?_, fun z hz => ?_, ?_, ?_, SV_stem hSV, SD_stm hXlt, QV_up r11 hd, ?_⟩
    · show va_up x.1 j _ j = _
      rw [up_s, eS]
    · show va_up x.1 j _ z = _
      rw [up_o _ _ _ hz]; exact r2 z hz
    · show nI (va_up x.2.1 j _ j) = y.2.2.1 + nI 1
      rw [up_s, ← nI_add, r3]
    · show va_up x.2.1 j _ z = _
      rw [up_o _ _ _ hz]; exact r4 z hz
    · show nI (va_up x.2.2.1 ((4 * j) + d) _ ((4 * j) + e)) = va_up y.2.2.2.1 d (y.2.2.1 + nI 1) e
      by_cases q : e = d
      · subst q; rw [up_s, up_s, ← nI_add, r3]
      · rw [up_o _ _ _ q, up_o _ _ _ (show ¬ (4 * j) + e = (4 * j) + d by omega)]; exact r5 e he
    · show va_up x.2.2.1 ((4 * j) + d) _ z = _
      rw [up_o _ _ _ (by omega)]; exact r6 z hz
    · show x.2.2.2.1 + fct C 24 = y.1 + X.1
      rw [r7, g2]
    · show nI q = ch2 d
      rw [← hq]; exact hch d hd
    · show va_up x.2.1 j _ j ≤ sq j + (x.2.2.2.2.1 + 1)
      rw [up_s]; omega
  · have hb : any C 24 = false := by rw [ha]; simp [h0]
    have hbn : ¬ any C 24 = true := by rw [hb]; decide
    have eb : bN (any C 24) = 0 := by rw [hb]; rfl
    have eX : X.2 = y.2.2.2.2.1 := by
      funext k
      rw [a1 k]
      by_cases hk : k < 24
      · have : C k = false := by
          cases z : C k with
          | false => rfl
          | true => rw [any_hit hk z] at hb; cases hb
        rw [this]; simp
      · have : C k = false := by
          cases z : C k with
          | false => rfl
          | true => rw [← hC] at z; have := hlt2 k (gcm_in z).1; omega
        rw [this]; simp
    rw [eb, if_neg hbn, if_neg h0, if_neg h0, if_neg h0, if_neg h0, if_neg h0, eX]
    have eS : mNd y.2.2.2.2.1 (dpB dc an ge n y.2.2.2.2.1 (dp j)) = y.2.2.2.2.1 := by
      rw [stm_e hT hA s2 s1 hdp, stm_SD r10]
    have eu : ∀ z, va_up x.2.1 j (x.2.1 j + 0) z = x.2.1 z := fun z => by
      by_cases e : z = j
      · subst e; rw [up_s]; rfl
      · rw [up_o _ _ _ e]
    have eq : ∀ z, va_up x.2.2.1 ((4 * j) + d) (x.2.2.1 ((4 * j) + d)) z = x.2.2.1 z := fun z => by
      by_cases e : z = (4 * j) + d
      · subst e; rw [up_s]
      · rw [up_o _ _ _ e]
    refine ⟨?_, fun z hz => ?_, ?_, fun z hz => ?_, fun e he => ?_, fun z hz => ?_, ?_, ?_, ⟨s1, s2, s3⟩, r10, ?_, ?_⟩
    · show va_up x.1 j _ j = _
      rw [up_s, eS]
    · show va_up x.1 j _ z = _
      rw [up_o _ _ _ hz]; exact r2 z hz
    · show nI (va_up x.2.1 j _ j) = y.2.2.1
      rw [eu]; exact r3
    · show va_up x.2.1 j _ z = _
      rw [eu]; exact r4 z hz
    · show nI (va_up x.2.2.1 ((4 * j) + d) _ ((4 * j) + e)) = y.2.2.2.1 e
      rw [eq]; exact r5 e he
    · show va_up x.2.2.1 ((4 * j) + d) _ z = _
      rw [eq]; exact r6 z hz
    · show x.2.2.2.1 + fct C 24 = y.1 + X.1
      rw [r7, g2]
    · show nI q = ch2 d
      rw [← hq]; exact hch d hd
    · refine ⟨fun e he => ?_, fun e f he hf hef h9 => ?_⟩
      · show va_up x.2.2.1 _ _ _ ≤ va_up x.2.1 j _ j
        rw [eu, eq]; exact r11.1 e he
      · have h9 : va_up x.2.2.1 ((4 * j) + d) (x.2.2.1 ((4 * j) + d)) ((4 * j) + e) ≠ 0 := h9
        show va_up x.2.2.1 _ _ _ ≠ va_up x.2.2.1 _ _ _
        rw [eq] at h9
        rw [eq, eq]
        exact r11.2 e f he hf hef h9
    · show va_up x.2.1 j _ j ≤ sq j + (x.2.2.2.2.1 + 1)
      rw [eu]; omega
theorem riS_no {q : Nat} {x : RP} (h : ∀ k, k < 4 → ¬ x.2.2.1 ((4 * i) + k) = q) : ∀ c, c ≤ 4 → riS dc an ge n dp i j q x c = x
  | 0, _ => rfl
  | c + 1, hc => by
    have ih := riS_no h c (by omega)
    rw [riS_f (by rw [ih]; exact h c (by omega)), ih]
theorem riS_one {q d : Nat} {x : RP} (hij : i ≠ j) (hd : d < 4) (h1 : x.2.2.1 ((4 * i) + d) = q) (h2 : ∀ k, k < 4 → k ≠ d → ¬ x.2.2.1 ((4 * i) + k) = q) : ∀ c, c ≤ 4 → riS dc an ge n dp i j q x c = if d < c then rpD dc an ge n dp i j q d x else x
  | 0, _ => by rw [if_neg (Nat.not_lt_zero _)]; rfl
  | c + 1, hc => by
    have ih := riS_one hij hd h1 h2 c (by omega)
    have eu : ∀ k, k < 4 → (rpD dc an ge n dp i j q d x).2.2.1 ((4 * i) + k) = x.2.2.1 ((4 * i) + k) := fun k hk => up_o _ _ _ (by omega)
    rcases Nat.lt_trichotomy d c with g | g | g
    · rw [if_pos g] at ih
      rw [if_pos (by omega), riS_f (by rw [ih, eu c (by omega)]; exact h2 c (by omega) (by omega)), ih]
    · subst g
      rw [if_neg (Nat.lt_irrefl _)] at ih
      rw [if_pos (Nat.lt_succ_self _), riS_t (by rw [ih]; exact h1), ih]
    · rw [if_neg (by omega)] at ih
      rw [if_neg (by omega), riS_f (by rw [ih]; exact h2 c (by omega) (by omega)), ih]
theorem csS_stop {dpI : Int32} {hd2 : Nat → Bool} {x : CS} {c : Nat} (h : nxS ch2 (csS dc pa dl ge su n dpI hd2 nl2 ch2 x c).2.1 4 = none) : ∀ r, csS dc pa dl ge su n dpI hd2 nl2 ch2 x (c + r) = csS dc pa dl ge su n dpI hd2 nl2 ch2 x c
  | 0 => rfl
  | r + 1 => by
    have ih := csS_stop h r
    show csp dc pa dl ge su n dpI hd2 nl2 ch2 (csS dc pa dl ge su n dpI hd2 nl2 ch2 x (c + r)) = _
    rw [ih, csp_n h]
/-- the whole way -/
theorem sim_ro (hn24 : n ≤ 24) (hT : TV n dc pa ge) (hA : AN n pa an) (hij : i ≠ j) (h2 : NL n pa ge (S i) nl2) (hlt2 : ∀ k, S i k = true → k < n) (hdp : dp j ≤ 1000) (hch : ∀ d, d < 4 → nI (qq ((4 * i) + d)) = ch2 d) (hQ : QV i sq qq) (hsq : sq i ≤ 900000) {x0 : CS} {lim : Nat} : ∀ (f q : Nat) (x : RP) (c : Nat), RLq n i j dc pa dl ge su dp S sq qq x (csS dc pa dl ge su n (nI (dp j)) (S i) nl2 ch2 x0 c) → x.2.2.2.2.1 = c → c ≤ lim → f = sq i + 1 - q → x.2.2.2.2.2 < q → x.2.2.2.2.2 ≤ 1000000 → (∀ d, d < 4 → qq ((4 * i) + d) ≤ x.2.2.2.2.2 ∨ q ≤ qq ((4 * i) + d)) →
    RLq n i j dc pa dl ge su dp S sq qq (roS dc an ge n dp i j lim f q x) (csS dc pa dl ge su n (nI (dp j)) (S i) nl2 ch2 x0 lim) ∧ (roS dc an ge n dp i j lim f q x).2.2.2.2.1 ≤ lim ∧ (roS dc an ge n dp i j lim f q x).2.2.2.2.2 ≤ 1000000
  | 0, q, x, c, hr, hg, hc, hf, hat, hb, ho => by
    have hle : ∀ d, d < 4 → qq ((4 * i) + d) ≤ x.2.2.2.2.2 := fun d hd => by
      have := hQ.1 d hd
      rcases ho d hd with z | z <;> omega
    have hno : nxS ch2 (csS dc pa dl ge su n (nI (dp j)) (S i) nl2 ch2 x0 c).2.1 4 = none := nxS_no (fun d hd => by
      rw [← hch d hd, ← hr.2.2.2.2.2.2.2.1]
      have := hQ.1 d hd
      exact (nI_leI (by omega) (by omega)).mpr (hle d hd))
    have hs := csS_stop hno (lim - c)
    rw [show c + (lim - c) = lim by omega] at hs
    rw [hs]
    exact ⟨hr, by show x.2.2.2.2.1 ≤ lim; omega, hb⟩
  | f + 1, q, x, c, hr, hg, hc, hf, hat, hb, ho => by
    have ex : ∀ k, k < 4 → x.2.2.1 ((4 * i) + k) = qq ((4 * i) + k) := fun k hk => hr.2.2.2.2.2.1 _ (by omega)
    by_cases hl : c < lim
    · have e1 : roS dc an ge n dp i j lim (f + 1) q x = roS dc an ge n dp i j lim f (q + 1) (riS dc an ge n dp i j q x 4) := roS_s rfl (by omega)
      rw [e1]
      by_cases hex : ∃ d, d < 4 ∧ qq ((4 * i) + d) = q
      · obtain ⟨d, hd, hdq⟩ := hex
        have huq : ∀ k, k < 4 → k ≠ d → ¬ qq ((4 * i) + k) = q := fun k hk hkd z => hQ.2 k d hk hd hkd (by omega) (by omega)
        have e2 : riS dc an ge n dp i j q x 4 = rpD dc an ge n dp i j q d x := by
          have := riS_one (dc := dc) (an := an) (ge := ge) (n := n) (dp := dp) (q := q) hij hd (by rw [ex d hd]; exact hdq) (fun k hk hkd => by rw [ex k hk]; exact huq k hk hkd) 4 (Nat.le_refl _)
          rw [this, if_pos hd]
        have hnx : nxS ch2 (csS dc pa dl ge su n (nI (dp j)) (S i) nl2 ch2 x0 c).2.1 4 = some d := by
          have hqb := hQ.1 d hd
          refine nxS_is hd ?_ (fun e he hed => ?_)
          · rw [← hch d hd, ← hr.2.2.2.2.2.2.2.1, nI_leI (by omega) (by omega)]
            omega
          · have heb := hQ.1 e he
            rw [← hch e he, ← hch d hd, ← hr.2.2.2.2.2.2.2.1, nI_leI (by omega) (by omega), nI_ltI (by omega) (by omega)]
            have := huq e he hed
            rcases ho e he with z | z
            · exact Or.inl z
            · exact Or.inr (by omega)
        have hr2 := rl_step (dl := dl) (su := su) hn24 hT hA hij h2 hlt2 hdp hch hr hd hdq
        rw [← csS_s hnx] at hr2
        rw [e2]
        have hqb := hQ.1 d hd
        exact sim_ro hn24 hT hA hij h2 hlt2 hdp hch hQ hsq f (q + 1) _ (c + 1) hr2 (by show x.2.2.2.2.1 + 1 = c + 1; omega) (by omega) (by omega) (by show q < q + 1; omega) (by show q ≤ 1000000; omega) (fun e he => by
          show qq ((4 * i) + e) ≤ q ∨ _
          rcases ho e he with z | z <;> omega)
      · have hno : ∀ k, k < 4 → ¬ qq ((4 * i) + k) = q := fun k hk z => hex ⟨k, hk, z⟩
        rw [riS_no (fun k hk => by rw [ex k hk]; exact hno k hk) 4 (Nat.le_refl _)]
        exact sim_ro hn24 hT hA hij h2 hlt2 hdp hch hQ hsq f (q + 1) x c hr hg hc (by omega) (by omega) hb (fun e he => by
          have := hno e he
          rcases ho e he with z | z <;> omega)
    · rw [roS_l (by omega), show lim = c by omega]
      exact ⟨hr, by omega, hb⟩
/-- the checkpoint at the end -/
theorem rpA_csa {lt2 : Int32} (hch : ∀ d, d < 4 → nI (qq ((4 * i) + d)) = ch2 d) (hij : i ≠ j) (hlt : nI (sq i) = lt2) (hQ : QV i sq qq) (hsq : sq i ≤ 900000) {x : RP} {y : CS} (h : RLq n i j dc pa dl ge su dp S sq qq x y) (hb : x.2.2.2.2.2 ≤ 1000000) : nI (rpA i x) = csa ch2 lt2 y := by
  have ex : ∀ k, k < 4 → x.2.2.1 ((4 * i) + k) = qq ((4 * i) + k) := fun k hk => h.2.2.2.2.2.1 _ (by omega)
  have e8 := h.2.2.2.2.2.2.2.1
  have hiff : ∀ d, d < 4 → (ch2 d ≤ y.2.1 ↔ qq ((4 * i) + d) ≤ x.2.2.2.2.2) := fun d hd => by
    have := hQ.1 d hd
    rw [← hch d hd, ← e8]
    exact nI_leI (by omega) (by omega)
  unfold rpA csa
  cases hx : nxS ch2 y.2.1 4 with
  | none =>
    have : fct (rlf i x) 4 = 0 := fct_z (any_no (fun k hk => by
      have := (hiff k hk).mp (nxS_none hx k hk)
      have h9 : ¬ x.2.2.2.2.2 < qq ((4 * i) + k) := by omega
      unfold rlf
      rw [ex k hk]
      simp [h9]))
    rw [if_pos this, h.2.2.2.1 i hij]
    exact hlt
  | some b =>
    obtain ⟨b1, b2, -⟩ := nxS_some hx
    have : 0 < fct (rlf i x) 4 := fct_pos.mpr (any_hit b1 (by
      unfold rlf
      rw [ex b b1, decide_eq_true_eq]
      have := mt (hiff b b1).mpr b2
      omega))
    rw [if_neg (by omega)]
    exact e8
end SIM
