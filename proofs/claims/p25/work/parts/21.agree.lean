/-! the law's bits and what the class keeps -/
def AN (n : Nat) (pa : Nat → Option Nat) (an : Nat → Nat → Bool) : Prop := ∀ k, k < n → ∀ j, an k j = anc pa j k
theorem bool_iff {a b : Bool} (h : a = true ↔ b = true) : a = b := by cases a <;> cases b <;> simp_all
section AG
variable {n d k : Nat} {dc : Nat → Nat} {pa : Nat → Option Nat} {ge : Nat → Nat} {hd : Nat → Bool} {nl : Nat → Nat} {an : Nat → Nat → Bool} {dl : Nat → Bool} {su : Nat → Int32} {vo : Nat → Option Nat} {un : Nat → Nat} {dp : Nat}
theorem hd_no (hlt : ∀ k, hd k = true → k < n) (hk : ¬ k < n) : hd k = false := by
  cases q : hd k with
  | false => rfl
  | true => exact absurd (hlt k q) hk
theorem any_hasD (hA : AN n pa an) (h : NL n pa ge hd nl) : any (fun j => hd j && an j k) n = hasD nl k := by
  apply bool_iff
  rw [any_iff]
  unfold hasD
  rw [decide_eq_true_eq, h.2.1 k]
  constructor
  · rintro ⟨j, j1, j2⟩
    rw [Bool.and_eq_true] at j2
    exact ⟨j, j1, j2.1, by rw [← hA j j1 k]; exact j2.2⟩
  · rintro ⟨j, j1, j2, j3⟩
    refine ⟨j, j1, ?_⟩
    rw [hA j j1 k, j2, j3]
    rfl
theorem lf_e (hA : AN n pa an) (h : NL n pa ge hd nl) (hlt : ∀ k, hd k = true → k < n) (d k : Nat) : lfB dc an n hd d k = (decide (dc k = d) && ends hd nl k) := by
  by_cases hk : k < n
  · have e : any (fun j => decide (k < j) && (an j k && hd j)) n = hasD nl k := by
      rw [← any_hasD hA h]
      refine any_ext ⟨fun ⟨j, j1, j2⟩ => ⟨j, j1, ?_⟩, fun ⟨j, j1, j2⟩ => ⟨j, j1, ?_⟩⟩
      · simp only [Bool.and_eq_true, decide_eq_true_eq] at j2
        rw [j2.2.1, j2.2.2]; rfl
      · rw [Bool.and_eq_true] at j2
        have h3 : anc pa k j = true := by rw [← hA j j1 k]; exact j2.2
        rw [j2.1, j2.2]
        simp [anc_lt h3]
    unfold lfB ends
    rw [e]
    cases hd k <;> simp [hk]
  · have h0 := hd_no hlt hk
    simp [lfB, ends, hk, h0]
theorem btr_rk {b : Nat} (hbk : b < k) (h1 : ge k ≤ 60) (h2 : ge b ≤ 60) (hu1 : un k < 997) (hu2 : un b < 997) (d1 : dl k = (vo k).isNone) (d2 : dl b = (vo b).isNone) (s1 : su k = nI (un k)) (s2 : su b = nI (un b)) : btr dl ge su k b = decide (rk vo ge un b < rk vo ge un k) := by
  have es : (su k = su b) ↔ un k = un b := by rw [s1, s2]; exact nI_eq (by omega) (by omega)
  have el : (su k ≤ su b) ↔ un k ≤ un b := by rw [s1, s2]; exact nI_leI (by omega) (by omega)
  have hkb : ¬ k < b := by omega
  have hb : btr dl ge su k b = (if dl k = dl b then (if ge k = ge b then (if un k = un b then false else !decide (un k ≤ un b)) else decide (ge b < ge k)) else dl b) := by
    unfold btr
    simp only [es, el, hkb, decide_false]
  apply bool_iff
  rw [decide_eq_true_eq, hb, d1, d2]
  unfold rk
  cases vo k <;> cases vo b <;> by_cases e1 : ge k = ge b <;> by_cases e2 : un k = un b <;> simp [e1, e2] <;> omega
theorem wn_bs (hA : AN n pa an) (h : NL n pa ge hd nl) (hlt : ∀ k, hd k = true → k < n) (hg : ∀ k, k < n → ge k ≤ 60) (hu : ∀ k, un k < 997) (hv : ∀ k, k < n → dl k = (vo k).isNone) (hs : ∀ k, k < n → su k = nI (un k)) (d : Nat) : ∀ c, c ≤ n → wnS (lfB dc an n hd d) (rk vo ge un) c = bsS dc dl ge su (ends hd nl) d c
  | 0, _ => rfl
  | c + 1, hc => by
    have ih := wn_bs hA h hlt hg hu hv hs d c (by omega)
    have eL := lf_e (dc := dc) hA h hlt d c
    have hcn : c < n := by omega
    show (if lfB dc an n hd d c = true then (match wnS (lfB dc an n hd d) (rk vo ge un) c with
      | none => some c
      | some b => if rk vo ge un b < rk vo ge un c then some c else some b) else wnS (lfB dc an n hd d) (rk vo ge un) c) = bsp dc dl ge su (ends hd nl) d c (bsS dc dl ge su (ends hd nl) d c)
    unfold bsp
    rw [ih, eL]
    cases hb : bsS dc dl ge su (ends hd nl) d c with
    | none => rfl
    | some b =>
      have hbc := bsS_lt _ _ _ _ _ _ _ _ hb
      have hbn : b < n := by omega
      simp only [btr_rk (vo := vo) (un := un) hbc (hg c hcn) (hg b hbn) (hu c) (hu b) (hv c hcn) (hv b hbn) (hs c hcn) (hs b hbn), decide_eq_true_eq]
theorem dlw_e (hT : TV n dc pa ge) (hA : AN n pa an) (h : NL n pa ge hd nl) (hlt : ∀ k, hd k = true → k < n) {j : Nat} (hj : j < n) : dlw dc an n hd k j = (ends hd nl j && anc pa k j) := by
  unfold dlw
  rw [lf_e hA h hlt, hA j hj k]
  cases ha : anc pa k j with
  | false => simp
  | true =>
    have := anc_dc hT (j + 1) j (Nat.lt_succ_self _) hj ha
    simp [this]
theorem dp_e (hT : TV n dc pa ge) (hA : AN n pa an) (h : NL n pa ge hd nl) (hlt : ∀ k, hd k = true → k < n) (hdp : dp ≤ 1000) (hk : k < n) : dpB dc an ge n hd dp k = stC hd nl ge (nI dp) k := by
  have hg := hT.2.2.1
  have hnl := h.1 k
  have e1 : any (dlw dc an n hd k) n = hasD nl k := by
    apply bool_iff
    rw [any_iff]
    unfold hasD
    rw [decide_eq_true_eq]
    constructor
    · rintro ⟨j, j1, j2⟩
      rw [dlw_e hT hA h hlt j1, Bool.and_eq_true] at j2
      exact (h.2.1 k).mpr ⟨j, j1, (ends_iff.mp j2.1).1, j2.2⟩
    · intro z
      obtain ⟨j, j1, j2, j3, -⟩ := h.2.2.2 k z
      exact ⟨j, j1, by rw [dlw_e hT hA h hlt j1, j2, j3]; rfl⟩
  have e2 : any (dnr dc an ge n hd dp k) n = (hasD nl k && decide (nI (nl k) - nI (ge k) < nI dp)) := by
    have hdif : (nI (nl k) - nI (ge k)).toInt = ((nl k : Nat) : Int) - (ge k : Nat) := pk_sub_toInt (by omega) (by have := hg k; omega)
    have hei : (nI dp).toInt = (dp : Int) := nI_toInt (by omega)
    apply bool_iff
    rw [any_iff, Bool.and_eq_true, decide_eq_true_eq, Int32.lt_iff_toInt_lt, hdif, hei]
    unfold hasD
    rw [decide_eq_true_eq]
    constructor
    · rintro ⟨j, j1, j2⟩
      unfold dnr at j2
      rw [dlw_e hT hA h hlt j1] at j2
      simp only [Bool.and_eq_true, decide_eq_true_eq] at j2
      obtain ⟨⟨j3, j4⟩, j5⟩ := j2
      have := h.2.2.1 k j j1 j3 j4
      exact ⟨(h.2.1 k).mpr ⟨j, j1, (ends_iff.mp j3).1, j4⟩, by omega⟩
    · rintro ⟨z, y⟩
      obtain ⟨j, j1, j2, j3, j4⟩ := h.2.2.2 k z
      refine ⟨j, j1, ?_⟩
      unfold dnr
      rw [dlw_e hT hA h hlt j1, j2, j3]
      have : ge j < ge k + dp := by omega
      simp [this]
  unfold dpB stC
  rw [e1, e2]
  cases hd k <;> cases hasD nl k <;> simp [hk]
theorem stm_e (hT : TV n dc pa ge) (hA : AN n pa an) (h : NL n pa ge hd nl) (hlt : ∀ k, hd k = true → k < n) (hdp : dp ≤ 1000) : mNd hd (dpB dc an ge n hd dp) = stm hd nl ge (nI dp) n := by
  funext i
  unfold mNd stm
  by_cases hi : i < n
  · rw [dp_e hT hA h hlt hdp hi]
    simp [hi]
  · rw [hd_no hlt hi]
    rfl
theorem fct24 {P : Nat → Bool} (hn : n ≤ 24) (h : ∀ k, n ≤ k → P k = false) : fct P 24 = fct P n := by
  have := fct_more (P := P) (m := n) (24 - n) (fun k h1 _ => h k h1)
  rwa [show n + (24 - n) = 24 by omega] at this
theorem dp_ct (hn : n ≤ 24) (hT : TV n dc pa ge) (hA : AN n pa an) (h : NL n pa ge hd nl) (hlt : ∀ k, hd k = true → k < n) (hdp : dp ≤ 1000) : fct (dpB dc an ge n hd dp) 24 = fct (stC hd nl ge (nI dp)) n := by
  rw [fct24 hn (fun k hk => by have : ¬ k < n := by omega
                               simp [dpB, this])]
  exact fct_congr (fun k hk => dp_e hT hA h hlt hdp hk)
/-- nothing is left to be stemmed -/
def SD (hd : Nat → Bool) (nl ge : Nat → Nat) (dp : Int32) : Prop := ∀ k, stC hd nl ge dp k = false
theorem SD_stm {x : Int32} (hlt : ∀ k, hd k = true → k < n) : SD (stm hd nl ge x n) nl ge x := by
  intro k
  by_cases hk : k < n
  · unfold stC stm stC
    simp only [hk, decide_true, Bool.true_and]
    cases hd k <;> cases hasD nl k <;> simp
  · have := hd_no hlt hk
    unfold stC stm
    rw [this]
    rfl
theorem stm_SD {x : Int32} (h : SD hd nl ge x) (c : Nat) : stm hd nl ge x c = hd := by
  funext i
  unfold stm
  rw [h i]
  simp
theorem fct_up {x : Nat → Bool} {j : Nat} (hj : j < n) (hx : x j = false) : fct (va_up x j true) n = fct x n + 1 := by
  have h1 := fct_del (P := va_up x j true) hj (up_s _ _ _)
  have e : (fun i => va_up x j true i && !decide (i = j)) = x := by
    funext i
    by_cases h : i = j
    · subst h; rw [hx]; simp
    · rw [up_o _ _ _ h]; simp [h]
  rw [e] at h1
  omega
def onl (pa : Nat → Option Nat) (o : Option Nat) (i : Nat) : Bool := match o with
  | none => false
  | some j => decide (i = j) || anc pa i j
theorem anc_onl (hn : n ≤ 150) (hTp : ∀ k j, k < n → pa k = some j → j < k) {i j : Nat} (hj : j < n) : anc pa i j = onl pa (pa j) i := by
  cases h : pa j with
  | none => rw [anc_none h]; rfl
  | some p =>
    rw [anc_step hn hTp hj h]
    show (decide (p = i) || _) = (decide (i = p) || _)
    by_cases e : p = i
    · simp [e]
    · have : ¬ i = p := fun z => e z.symm
      simp [e, this]
/-- a line is added -/
theorem ln_e (hn : n ≤ 150) (hTp : ∀ k j, k < n → pa k = some j → j < k) (oh : Nat → Bool) : ∀ (f : Nat) (o : Option Nat) (x : Nat → Bool), (∀ j, o = some j → j < f ∧ j < n) →
    (∀ i, (ln pa oh f o 0 x).2 i = (x i || (oh i && onl pa o i))) ∧ fct (ln pa oh f o 0 x).2 n = fct x n + (ln pa oh f o 0 x).1
  | 0, none, x, _ => ⟨fun i => by show x i = (x i || (oh i && false)); simp, rfl⟩
  | 0, some j, x, h => absurd (h j rfl).1 (Nat.not_lt_zero _)
  | f + 1, none, x, _ => ⟨fun i => by show x i = (x i || (oh i && false)); simp, rfl⟩
  | f + 1, some j, x, h => by
    obtain ⟨j1, j2⟩ := h j rfl
    have ho2 : ∀ q, pa j = some q → q < f ∧ q < n := fun q hq => by have := hTp j q j2 hq; omega
    have ea : ∀ i, onl pa (some j) i = (decide (i = j) || onl pa (pa j) i) := fun i => by
      show (decide (i = j) || anc pa i j) = _
      rw [anc_onl hn hTp j2]
    by_cases hc : (oh j && !x j) = true
    · have e : ln pa oh (f + 1) (some j) 0 x = ln pa oh f (pa j) (0 + 1) (va_up x j true) := if_pos hc
      obtain ⟨g1, g2⟩ := ln_e hn hTp oh f (pa j) (va_up x j true) ho2
      rw [Bool.and_eq_true, Bool.not_eq_true'] at hc
      rw [e, ln_shift]
      refine ⟨fun i => ?_, ?_⟩
      · show (ln pa oh f (pa j) 0 (va_up x j true)).2 i = _
        rw [g1 i, ea i]
        by_cases hi : i = j
        · subst hi; rw [up_s, hc.1]; simp
        · rw [up_o _ _ _ hi]; simp [hi]
      · show fct (ln pa oh f (pa j) 0 (va_up x j true)).2 n = fct x n + (0 + 1 + (ln pa oh f (pa j) 0 (va_up x j true)).1)
        rw [g2, fct_up j2 hc.2]
        omega
    · have e : ln pa oh (f + 1) (some j) 0 x = ln pa oh f (pa j) 0 x := if_neg hc
      obtain ⟨g1, g2⟩ := ln_e hn hTp oh f (pa j) x ho2
      rw [e]
      refine ⟨fun i => ?_, g2⟩
      rw [g1 i, ea i]
      by_cases hi : i = j
      · subst hi
        cases h1 : x i <;> cases h2 : oh i <;> simp_all
      · simp [hi]
theorem fct_or {P Q : Nat → Bool} (h : ∀ i, Q i = true → P i = false) : ∀ m, fct (fun i => P i || Q i) m = fct P m + fct Q m
  | 0 => rfl
  | m + 1 => by
    have ih := fct_or h m
    have hm := h m
    show fct _ m + (if (P m || Q m) = true then 1 else 0) = fct P m + (if P m = true then 1 else 0) + (fct Q m + (if Q m = true then 1 else 0))
    rw [ih]
    cases hp : P m <;> cases hq : Q m <;> simp_all <;> omega
end AG
section AB
variable {n d : Nat} {dc : Nat → Nat} {pa : Nat → Option Nat} {ge : Nat → Nat} {hd hd2 : Nat → Bool} {nl nl2 : Nat → Nat} {an : Nat → Nat → Bool}
theorem gcm_in {c i : Nat} (h : gcm dc an n hd2 hd d c i = true) : hd2 i = true ∧ hd i = false := by
  obtain ⟨q, -, q2⟩ := any_iff.mp h
  simp only [Bool.and_eq_true, mNd, mAnd, Bool.not_eq_true'] at q2
  exact ⟨q2.2.1.2, q2.2.2⟩
theorem abS_e (hT : TV n dc pa ge) (hA : AN n pa an) (h2 : NL n pa ge hd2 nl2) (hlt2 : ∀ k, hd2 k = true → k < n) (h : NL n pa ge hd nl) : ∀ c, c ≤ n →
    (∀ i, (abS dc pa hd2 (ends hd2 nl2) nl d hd c).2 i = (hd i || gcm dc an n hd2 hd d c i)) ∧ fct (abS dc pa hd2 (ends hd2 nl2) nl d hd c).2 n = fct hd n + (abS dc pa hd2 (ends hd2 nl2) nl d hd c).1
  | 0, _ => ⟨fun i => by show hd i = (hd i || false); simp, rfl⟩
  | c + 1, hc => by
    obtain ⟨a1, a2⟩ := abS_e hT hA h2 hlt2 h c (by omega)
    have hn := hT.1
    have hTp := hT.2.2.2.1
    have hcn : c < n := by omega
    have hx : (abS dc pa hd2 (ends hd2 nl2) nl d hd c).2 c = hd c := by
      rw [a1 c]
      have : gcm dc an n hd2 hd d c c = false := by
        refine any_no (fun q hq => ?_)
        have e1 : ¬ c = q := by omega
        have e2 : an q c = false := by rw [hA q (by omega) c, anc_le (by omega)]
        simp [mNd, mAnd, mOr, sgl, e1, e2]
      rw [this]
      simp
    have hcond : abC dc (ends hd2 nl2) nl d c (abS dc pa hd2 (ends hd2 nl2) nl d hd c).2 = gis dc an n hd2 hd d c := by
      unfold abC gis
      rw [hx, lf_e hA h2 hlt2, any_hasD hA h, Bool.and_assoc]
    have eg : ∀ i, gcm dc an n hd2 hd d (c + 1) i = (gcm dc an n hd2 hd d c i || (gis dc an n hd2 hd d c && mNd (mAnd (mOr (sgl c true) (an c)) hd2) hd i)) := fun i => rfl
    cases hg : gis dc an n hd2 hd d c with
    | false =>
      rw [abS_f (hcond.trans hg)]
      refine ⟨fun i => ?_, a2⟩
      rw [a1 i, eg i, hg]
      simp
    | true =>
      rw [abS_t (hcond.trans hg)]
      obtain ⟨l1, l2⟩ := ln_e hn hTp hd2 150 (some c) (abS dc pa hd2 (ends hd2 nl2) nl d hd c).2 (fun j hj => by cases hj; omega)
      refine ⟨fun i => ?_, ?_⟩
      · show (ln pa hd2 150 (some c) 0 (abS dc pa hd2 (ends hd2 nl2) nl d hd c).2).2 i = _
        rw [l1 i, a1 i, eg i, hg]
        show _ = (hd i || (gcm dc an n hd2 hd d c i || (true && ((((decide (i = c) && true) || an c i) && hd2 i) && !hd i))))
        rw [hA c hcn i]
        show ((hd i || gcm dc an n hd2 hd d c i) || (hd2 i && (decide (i = c) || anc pa i c))) = _
        cases hd i <;> cases gcm dc an n hd2 hd d c i <;> cases hd2 i <;> cases decide (i = c) <;> cases anc pa i c <;> rfl
      · show fct (ln pa hd2 150 (some c) 0 (abS dc pa hd2 (ends hd2 nl2) nl d hd c).2).2 n = fct hd n + ((abS dc pa hd2 (ends hd2 nl2) nl d hd c).1 + _)
        rw [l2, a2]
        omega
/-- what the class adds, as the law's bits -/
theorem abS_n (hn24 : n ≤ 24) (hT : TV n dc pa ge) (hA : AN n pa an) (h2 : NL n pa ge hd2 nl2) (hlt2 : ∀ k, hd2 k = true → k < n) (h : NL n pa ge hd nl) :
    mOr hd (gcm dc an n hd2 hd d n) = (abS dc pa hd2 (ends hd2 nl2) nl d hd n).2 ∧ fct (gcm dc an n hd2 hd d n) 24 = (abS dc pa hd2 (ends hd2 nl2) nl d hd n).1 := by
  obtain ⟨a1, a2⟩ := abS_e (d := d) hT hA h2 hlt2 h n (Nat.le_refl _)
  have e : (abS dc pa hd2 (ends hd2 nl2) nl d hd n).2 = mOr hd (gcm dc an n hd2 hd d n) := funext a1
  refine ⟨e.symm, ?_⟩
  rw [e] at a2
  have e2 : fct (mOr hd (gcm dc an n hd2 hd d n)) n = fct hd n + fct (gcm dc an n hd2 hd d n) n := fct_or (fun i hi => (gcm_in hi).2) n
  rw [fct24 hn24 (fun k hk => by
    cases q : gcm dc an n hd2 hd d n k with
    | false => rfl
    | true => have := hlt2 k (gcm_in q).1; omega)]
  omega
end AB
