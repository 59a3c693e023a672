/-! both sides' state, and what the calls make of it -/
def vN (o : Option Nat) : Int32 := match o with
  | none => nI 0
  | some x => nI x
/-- the tree -/
def JG (n : Nat) (dc : Nat → Nat) (pa : Nat → Option Nat) (va : Nat → Int32) (dl : Nat → Bool) (ge : Nat → Nat) (su : Nat → Int32) (vo : Nat → Option Nat) (un : Nat → Nat) (an : Nat → Nat → Bool) : Prop :=
  TV n dc pa ge ∧ n ≤ 24 ∧ (∀ k, un k < 997) ∧ (∀ k j, vo k = some j → j < 100) ∧ (∀ k, k < n → dl k = (vo k).isNone ∧ va k = vN (vo k) ∧ su k = nI (un k)) ∧ AN n pa an
/-- a store -/
def JO (n : Nat) (dc : Nat → Nat) (pa : Nat → Option Nat) (dl : Nat → Bool) (ge : Nat → Nat) (su : Nat → Int32) (dp sq qq cc : Nat → Nat) (i : Nat) (dpI lt : Int32) (ch ck : Nat → Int32) (hd : Nat → Bool) (nl : Nat → Nat) (wi : Nat → Option Nat) : Prop :=
  SV n dc pa dl ge su hd nl wi ∧ SD hd nl ge (nI (dp i)) ∧ dpI = nI (dp i) ∧ (1 ≤ dp i ∧ dp i ≤ 20) ∧ lt = nI (sq i) ∧ (∀ d, d < 4 → ch d = nI (qq ((4 * i) + d))) ∧ (∀ q, q < 9 → ck q = nI (cc ((9 * i) + q))) ∧ QV i sq qq
def JJ (B n : Nat) (dc : Nat → Nat) (pa : Nat → Option Nat) (va : Nat → Int32) (dl : Nat → Bool) (ge : Nat → Nat) (su : Nat → Int32) (vo : Nat → Option Nat) (un : Nat → Nat) (an : Nat → Nat → Bool) (dp sq qq cc : Nat → Nat) (dps lts : Nat → Int32) (chs cks : Nat → Nat → Int32) (hds : Nat → Nat → Bool) (nls : Nat → Nat → Nat) (wis : Nat → Nat → Option Nat) : Prop :=
  JG n dc pa va dl ge su vo un an ∧ (∀ i, i < 3 → JO n dc pa dl ge su dp sq qq cc i (dps i) (lts i) (chs i) (cks i) (hds i) (nls i) (wis i)) ∧ (∀ i, sq i ≤ B) ∧ (∀ q, qq q ≤ B) ∧ (∀ q, cc q ≤ B) ∧ ∀ i, dp i ≤ 1000
theorem fnd_mkP {n d : Nat} {dc : Nat → Nat} {pa : Nat → Option Nat} {va : Nat → Int32} {dl : Nat → Bool} {ge : Nat → Nat} {su : Nat → Int32} {vo : Nat → Option Nat} {un : Nat → Nat} {an : Nat → Nat → Bool} {o v : Option Nat} (h : JG n dc pa va dl ge su vo un an) (ho : ∀ j, o = some j → j < n) (hv : ∀ j, v = some j → j < 100) : ffd (fnd dc pa va dl d o (vN v) v.isNone) n = ffd (mkP dc vo pa d o v) n := by
  obtain ⟨hT, hn, hu, hvo, hx, hA⟩ := h
  refine ffd_congr (fun k hk => ?_)
  obtain ⟨x1, x2, x3⟩ := hx k hk
  have e1 : (eP (pa k) = eP o) ↔ pa k = o := eP_inj (fun q hq => by have := hT.2.2.2.1 k q hk hq; omega) (fun q hq => by have := ho q hq; omega)
  unfold fnd mkP
  rw [x1, x2]
  simp only [e1]
  congr 2
  cases ek : vo k with
  | none => cases ev : v <;> simp [vN]
  | some a =>
    have := hvo k a ek
    cases ev : v with
    | none => simp
    | some b =>
      have := hv b ev
      have e2 : (nI a = nI b) ↔ a = b := nI_eq (by omega) (by omega)
      simp [vN, e2]
theorem mku_lt (un : Nat → Nat) (g : Nat) (o v : Option Nat) : mku un g o v < 997 := Nat.mod_lt _ (by omega)
def mvN (v : Option Nat) : Nat := match v with
  | none => 3
  | some x => 7 * x
theorem mksu_a {v : Option Nat} {a g : Nat} (ha : a ≤ 31000) (hg : g ≤ 150) (hv : ∀ j, v = some j → j < 100) : mkr (nI a + nI 7 * vN v + nI g + (if v.isNone = true then nI 3 else nI 0)) = nI ((a + mvN v + g) % 997) := by
  have key : ∀ a b c : Nat, a ≤ 40000 → b ≤ 1000 → c ≤ 1000 → mkr (nI a + nI b + nI c) = nI ((a + b + c) % 997) := fun a b c h1 h2 h3 => by
    unfold mkr
    rw [nI_add, nI_add]
    exact pk_rem (by omega) (by omega) (by omega)
  cases v with
  | none =>
    show mkr (nI a + nI 7 * nI 0 + nI g + (if true = true then nI 3 else nI 0)) = nI ((a + 3 + g) % 997)
    rw [if_pos rfl, pk_mul, nI_add, show a + 7 * 0 = a by omega, key a _ 3 (by omega) (by omega) (by omega), show a + g + 3 = a + 3 + g by omega]
  | some x =>
    have := hv x rfl
    show mkr (nI a + nI 7 * nI x + nI g + (if false = true then nI 3 else nI 0)) = nI ((a + 7 * x + g) % 997)
    rw [if_neg (by decide), pk_mul, nI_add, key (a + 7 * x) _ 0 (by omega) (by omega) (by omega)]
    rfl
theorem mksu_u {n : Nat} {ge : Nat → Nat} {su : Nat → Int32} {un : Nat → Nat} {o v : Option Nat} (hg : mkg ge o ≤ 150) (hu : ∀ k, un k < 997) (hs : ∀ k, k < n → su k = nI (un k)) (ho : ∀ j, o = some j → j < n) (hv : ∀ j, v = some j → j < 100) : mksu ge su o (vN v) v.isNone = nI (mku un (mkg ge o) o v) := by
  cases o with
  | none => exact mksu_a (a := 31) (by omega) hg hv
  | some j =>
    have h1 := hu j
    show mkr (nI 31 * su j + nI 7 * vN v + nI (mkg ge (some j)) + (if v.isNone = true then nI 3 else nI 0)) = _
    rw [hs j (ho j rfl), pk_mul]
    exact mksu_a (a := 31 * un j) (by omega) hg hv
section JX
variable {B n : Nat} {dc : Nat → Nat} {pa : Nat → Option Nat} {va : Nat → Int32} {dl : Nat → Bool} {ge : Nat → Nat} {su : Nat → Int32} {vo : Nat → Option Nat} {un : Nat → Nat} {an : Nat → Nat → Bool} {dp sq qq cc : Nat → Nat} {dps lts : Nat → Int32} {chs cks : Nat → Nat → Int32} {hds : Nat → Nat → Bool} {nls : Nat → Nat → Nat} {wis : Nat → Nat → Option Nat}
variable {i j d : Nat} {o v : Option Nat}
theorem JG_grow (h : JG n dc pa va dl ge su vo un an) (hn : n < 24) (hd4 : d < 4) (ho : ∀ j, o = some j → j < n ∧ dc j = d) (hv : ∀ j, v = some j → j < 100) :
    JG (n + 1) (va_up dc n d) (va_up pa n o) (va_up va n (vN v)) (va_up dl n v.isNone) (va_up ge n (mkg ge o)) (va_up su n (mksu ge su o (vN v) v.isNone)) (va_up vo n v) (va_up un n (mku un (mkg ge o) o v)) (va_up an n (mka an o)) ∧ mkg ge o ≤ 150 := by
  obtain ⟨hT, h24, hu, hvo, hx, hA⟩ := h
  obtain ⟨g1, g2⟩ := TV_grow hT (show n < 150 by omega) hd4 ho
  have hs : ∀ k, k < n → ¬ k = n := fun k h => by omega
  refine ⟨⟨g1, by omega, fun k => ?_, fun k j hj => ?_, fun k hk => ?_, fun k hk r => ?_⟩, g2⟩
  · by_cases e : k = n
    · rw [e, up_s]; exact mku_lt _ _ _ _
    · rw [up_o _ _ _ e]; exact hu k
  · by_cases e : k = n
    · rw [e, up_s] at hj; exact hv j hj
    · rw [up_o _ _ _ e] at hj; exact hvo k j hj
  · by_cases e : k = n
    · subst e
      simp only [up_s]
      exact ⟨trivial, trivial, mksu_u g2 hu (fun q hq => (hx q hq).2.2) (fun q hq => (ho q hq).1) hv⟩
    · simp only [up_o _ _ _ e]
      exact hx k (by omega)
  · by_cases e : k = n
    · subst e
      rw [up_s]
      have hTp := g1.2.2.2.1
      cases o with
      | none => rw [anc_none (by rw [up_s])]; rfl
      | some p =>
        have hp := (ho p rfl).1
        rw [anc_step g1.1 hTp (Nat.lt_succ_self _) (up_s pa k (some p)), anc_grow hT hp]
        show (an p r || (decide (r = p) && true)) = _
        rw [hA p hp r, Bool.or_comm, Bool.and_true]
        congr 1
        by_cases q : r = p
        · simp [q]
        · have : ¬ p = r := fun z => q z.symm
          simp [q, this]
    · have hk2 : k < n := by omega
      rw [up_o _ _ _ e, anc_grow hT hk2]
      exact hA k hk2 r
theorem JO_grow {y : Int32} {b : Bool} {g : Nat} {dpI lt : Int32} {ch ck : Nat → Int32} {hd : Nat → Bool} {nl : Nat → Nat} {wi : Nat → Option Nat} (hT : TV n dc pa ge) (h : JO n dc pa dl ge su dp sq qq cc i dpI lt ch ck hd nl wi) : JO (n + 1) (va_up dc n d) (va_up pa n o) (va_up dl n b) (va_up ge n g) (va_up su n y) dp sq qq cc i dpI lt ch ck hd nl wi := by
  obtain ⟨s1, s2, s3⟩ := h
  refine ⟨SV_grow hT s1, fun k => ?_, s3⟩
  have h2 := s2 k
  unfold stC at h2 ⊢
  cases hk : hd k with
  | false => rfl
  | true =>
    have := s1.1 k hk
    rw [hk] at h2
    rw [up_o _ _ _ (show ¬ k = n by omega)]
    exact h2
theorem JO_frame {dp2 sq2 qq2 cc2 : Nat → Nat} {dpI lt : Int32} {ch ck : Nat → Int32} {hd : Nat → Bool} {nl : Nat → Nat} {wi : Nat → Option Nat} (h : JO n dc pa dl ge su dp sq qq cc i dpI lt ch ck hd nl wi) (h1 : dp2 i = dp i) (h2 : sq2 i = sq i) (h3 : ∀ d, d < 4 → qq2 ((4 * i) + d) = qq ((4 * i) + d)) (h4 : ∀ q, q < 9 → cc2 ((9 * i) + q) = cc ((9 * i) + q)) : JO n dc pa dl ge su dp2 sq2 qq2 cc2 i dpI lt ch ck hd nl wi := by
  obtain ⟨s1, s2, s3, s4, s5, s6, s7, s8, s9⟩ := h
  refine ⟨s1, by rw [h1]; exact s2, by rw [h1]; exact s3, by rw [h1]; exact s4, by rw [h2]; exact s5, fun d hd => by rw [h3 d hd]; exact s6 d hd, fun q hq => by rw [h4 q hq]; exact s7 q hq, fun d hd => by rw [h3 d hd, h2]; exact s8 d hd, fun d e hd he hde h0 => ?_⟩
  rw [h3 d hd] at h0 ⊢
  rw [h3 e he]
  exact s9 d e hd he hde h0
theorem mOr_up (f : Nat → Bool) (j : Nat) : mOr f (sgl j true) = va_up f j true := by
  funext k
  by_cases e : k = j
  · subst e; rw [up_s]; simp [mOr, sgl]
  · rw [up_o _ _ _ e]; simp [mOr, sgl, e]
theorem up_f (f : Nat → Nat → Bool) (i : Nat) (x y : Nat → Bool) (h : x = y) : va_up f i x = va_up f i y := by rw [h]
/-- a revision j that is there goes into store i -/
theorem JJ_app (h : JJ B n dc pa va dl ge su vo un an dp sq qq cc dps lts chs cks hds nls wis) (hi : i < 3) (hj : j < n) (hdj : dc j = d) :
    va_up hds i (mNd (mOr (hds i) (sgl j true)) (dpB dc an ge n (mOr (hds i) (sgl j true)) (dp i))) = va_up hds i (stm (va_up (hds i) j true) (flS pa ge (va_up (hds i) j true) n n) ge (dps i) n) ∧
    JJ (B + 1) n dc pa va dl ge su vo un an dp (va_up sq i (sq i + 1)) (va_up qq ((4 * i) + d) (sq i + 1)) cc dps (va_up lts i (lts i + nI 1)) (va_up chs i (va_up (chs i) d (lts i + nI 1))) cks
      (va_up hds i (stm (va_up (hds i) j true) (flS pa ge (va_up (hds i) j true) n n) ge (dps i) n)) (va_up nls i (flS pa ge (va_up (hds i) j true) n n)) (va_up wis i (fwS dc dl ge su (ends (va_up (hds i) j true) (flS pa ge (va_up (hds i) j true) n n)) n)) := by
  obtain ⟨hG, hS, hb1, hb2, hb3, hb4⟩ := h
  have hT := hG.1
  have hA := hG.2.2.2.2.2
  obtain ⟨s1, s2, s3, s4, s5, s6, s7, s8⟩ := hS i hi
  have hd4 : d < 4 := by rw [← hdj]; exact hT.2.1 j
  have hlt : ∀ k, va_up (hds i) j true k = true → k < n := fun k hk => by
    by_cases e : k = j
    · omega
    · rw [up_o _ _ _ e] at hk; exact s1.1 k hk
  have hs := SV_survey (dl := dl) (su := su) hT hlt
  refine ⟨up_f _ _ _ _ ?_, hG, fun q hq => ?_, fun q => ?_, fun q => ?_, fun q => by have := hb3 q; omega, hb4⟩
  · rw [mOr_up, stm_e hT hA hs.2.1 hlt (hb4 i), s3]
  · by_cases e : q = i
    · subst e
      simp only [up_s]
      rw [s3]
      refine ⟨SV_stem hs, SD_stm hlt, rfl, s4, by rw [s5, nI_add, up_s], fun e he => ?_, s7, QV_up s8 hd4⟩
      by_cases q2 : e = d
      · subst q2; rw [up_s, up_s, s5, nI_add]
      · rw [up_o _ _ _ q2, up_o _ _ _ (by omega)]; exact s6 e he
    · simp only [up_o _ _ _ e]
      exact JO_frame (hS q hq) rfl (up_o _ _ _ e) (fun z hz => up_o _ _ _ (by omega)) (fun _ _ => rfl)
  · by_cases e : q = i
    · rw [e, up_s]; have := hb1 i; omega
    · rw [up_o _ _ _ e]; have := hb1 q; omega
  · by_cases e : q = (4 * i) + d
    · rw [e, up_s]; have := hb1 i; omega
    · rw [up_o _ _ _ e]; have := hb2 q; omega
theorem JJ_grow (h : JJ B n dc pa va dl ge su vo un an dp sq qq cc dps lts chs cks hds nls wis) (hn : n < 24) (hd4 : d < 4) (ho : ∀ j, o = some j → j < n ∧ dc j = d) (hv : ∀ j, v = some j → j < 100) :
    JJ B (n + 1) (va_up dc n d) (va_up pa n o) (va_up va n (vN v)) (va_up dl n v.isNone) (va_up ge n (mkg ge o)) (va_up su n (mksu ge su o (vN v) v.isNone)) (va_up vo n v) (va_up un n (mku un (mkg ge o) o v)) (va_up an n (mka an o)) dp sq qq cc dps lts chs cks hds nls wis :=
  ⟨(JG_grow h.1 hn hd4 ho hv).1, fun i hi => JO_grow h.1.1 (h.2.1 i hi), h.2.2⟩
theorem JJ_up (h : JJ B n dc pa va dl ge su vo un an dp sq qq cc dps lts chs cks hds nls wis) {C : Nat} (hC : B ≤ C) : JJ C n dc pa va dl ge su vo un an dp sq qq cc dps lts chs cks hds nls wis :=
  ⟨h.1, h.2.1, fun i => Nat.le_trans (h.2.2.1 i) hC, fun q => Nat.le_trans (h.2.2.2.1 q) hC, fun q => Nat.le_trans (h.2.2.2.2.1 q) hC, h.2.2.2.2.2⟩
theorem JJ_depth {x : Nat} (h : JJ B n dc pa va dl ge su vo un an dp sq qq cc dps lts chs cks hds nls wis) (hi : i < 3) (h1 : 1 ≤ x) (h20 : x ≤ 20) :
    fct (dpB dc an ge n (hds i) x) 24 = fct (stC (hds i) (nls i) ge (nI x)) n ∧ va_up hds i (mNd (hds i) (dpB dc an ge n (hds i) x)) = va_up hds i (stm (hds i) (nls i) ge (nI x) n) ∧
    JJ B n dc pa va dl ge su vo un an (va_up dp i x) sq qq cc (va_up dps i (nI x)) lts chs cks (va_up hds i (stm (hds i) (nls i) ge (nI x) n)) nls wis := by
  obtain ⟨hG, hS, hb1, hb2, hb3, hb4⟩ := h
  have hT := hG.1
  have hA := hG.2.2.2.2.2
  obtain ⟨s1, s2, s3, s4, s5, s6, s7, s8⟩ := hS i hi
  refine ⟨dp_ct hG.2.1 hT hA s1.2.1 s1.1 (by omega), up_f _ _ _ _ (stm_e hT hA s1.2.1 s1.1 (by omega)), hG, fun q hq => ?_, hb1, hb2, hb3, fun q => ?_⟩
  · by_cases e : q = i
    · subst e
      simp only [up_s]
      refine ⟨SV_stem s1, ?_, by rw [up_s], by rw [up_s]; exact ⟨h1, h20⟩, s5, s6, s7, s8⟩
      rw [up_s]
      exact SD_stm s1.1
    · simp only [up_o _ _ _ e]
      exact JO_frame (hS q hq) (up_o _ _ _ e) rfl (fun _ _ => rfl) (fun _ _ => rfl)
  · by_cases e : q = i
    · rw [e, up_s]; omega
    · rw [up_o _ _ _ e]; exact hb4 q
def clN (f : Nat → Nat) (a k : Nat) : Nat → Nat := fun q => if a ≤ q ∧ q < a + k then 0 else f q
theorem clN_0 (f : Nat → Nat) (a : Nat) : f = clN f a 0 := by
  funext q
  have : ¬ (a ≤ q ∧ q < a + 0) := by omega
  simp only [clN, if_neg this]
theorem clN_s (f : Nat → Nat) (a k : Nat) : va_up (clN f a k) (a + k) 0 = clN f a (k + 1) := by
  funext q
  by_cases e : q = a + k
  · have h : a ≤ q ∧ q < a + (k + 1) := by omega
    rw [e, up_s, ← e]
    simp only [clN, if_pos h]
  · rw [up_o _ _ _ e]
    unfold clN
    by_cases h : a ≤ q ∧ q < a + k
    · rw [if_pos h, if_pos (by omega)]
    · rw [if_neg h, if_neg (by omega)]
theorem clN_w (f : Nat → Nat) (a k : Nat) : va_up (clN f a (min k 4)) (a + k % 4) 0 = clN f a (min (k + 1) 4) := by
  by_cases hk : k < 4
  · rw [show min k 4 = k by omega, show k % 4 = k by omega, show min (k + 1) 4 = k + 1 by omega]
    exact clN_s f a k
  · rw [show min k 4 = 4 by omega, show min (k + 1) 4 = 4 by omega]
    funext q
    by_cases e : q = a + k % 4
    · rw [e, up_s]
      have : a ≤ a + k % 4 ∧ a + k % 4 < a + 4 := by omega
      simp only [clN, if_pos this]
    · rw [up_o _ _ _ e]
theorem JJ_wipe (h : JJ B n dc pa va dl ge su vo un an dp sq qq cc dps lts chs cks hds nls wis) (hi : i < 3) :
    fct (hds i) 24 = fct (hds i) n ∧ va_up hds i (fun _ => false) = va_up hds i (rem (hds i) 150) ∧
    JJ B n dc pa va dl ge su vo un an dp (va_up sq i 0) (clN qq (4 * i) 4) (clN cc (9 * i) 9) dps (va_up lts i (nI 0)) (va_up chs i (fun _ => nI 0)) (va_up cks i (fun _ => nI 0)) (va_up hds i (rem (hds i) 150)) (va_up nls i (flS pa ge (rem (hds i) 150) n n)) (va_up wis i (fwS dc dl ge su (ends (rem (hds i) 150) (flS pa ge (rem (hds i) 150) n n)) n)) := by
  obtain ⟨hG, hS, hb1, hb2, hb3, hb4⟩ := h
  have hT := hG.1
  obtain ⟨s1, s2, s3, s4, s5, s6, s7, s8⟩ := hS i hi
  have h24 := hG.2.1
  have hz : ∀ k, rem (hds i) 150 k = false := fun k => by
    cases hk : hds i k with
    | false => simp [rem, hk]
    | true =>
      have := s1.1 k hk
      have h9 : k < 150 := by omega
      simp [rem, h9]
  have hlt : ∀ k, rem (hds i) 150 k = true → k < n := fun k hk => by rw [hz k] at hk; cases hk
  refine ⟨fct24 h24 (fun k hk => hd_no s1.1 (by omega)), up_f _ _ _ _ (funext fun k => (hz k).symm), hG, fun q hq => ?_, fun q => ?_, fun q => ?_, fun q => ?_, hb4⟩
  · by_cases e : q = i
    · subst e
      simp only [up_s]
      refine ⟨SV_survey hT hlt, fun k => ?_, s3, s4, by rw [up_s], fun d hd => ?_, fun r hr => ?_, fun d hd => ?_, fun d e hd he hde h0 => ?_⟩
      · unfold stC; rw [hz k]; rfl
      · have : 4 * q ≤ 4 * q + d ∧ 4 * q + d < 4 * q + 4 := by omega
        simp only [clN, if_pos this]
      · have : 9 * q ≤ 9 * q + r ∧ 9 * q + r < 9 * q + 9 := by omega
        simp only [clN, if_pos this]
      · have : 4 * q ≤ 4 * q + d ∧ 4 * q + d < 4 * q + 4 := by omega
        simp only [clN, if_pos this]
        exact Nat.zero_le _
      · have : 4 * q ≤ 4 * q + d ∧ 4 * q + d < 4 * q + 4 := by omega
        simp only [clN, if_pos this] at h0
        exact absurd rfl h0
    · simp only [up_o _ _ _ e]
      refine JO_frame (hS q hq) rfl (up_o _ _ _ e) (fun d hd => ?_) (fun r hr => ?_)
      · have : ¬ (4 * i ≤ 4 * q + d ∧ 4 * q + d < 4 * i + 4) := by omega
        simp only [clN, if_neg this]
      · have : ¬ (9 * i ≤ 9 * q + r ∧ 9 * q + r < 9 * i + 9) := by omega
        simp only [clN, if_neg this]
  · by_cases e : q = i
    · rw [e, up_s]; omega
    · rw [up_o _ _ _ e]; exact hb1 q
  · unfold clN
    have := hb2 q
    split <;> omega
  · unfold clN
    have := hb3 q
    split <;> omega
theorem JJ_com (h : JJ B n dc pa va dl ge su vo un an dp sq qq cc dps lts chs cks hds nls wis) (hB : B ≤ 900000) (hi : i < 3) (hj : j < 3) : mnI (cks i ((i * 3) + j)) (cks j ((i * 3) + j)) = nI (stN cc i j) := by
  have c1 := (h.2.1 i hi).2.2.2.2.2.2.1 ((i * 3) + j) (by omega)
  have c2 := (h.2.1 j hj).2.2.2.2.2.2.1 ((i * 3) + j) (by omega)
  rw [show (9 * i) + ((i * 3) + j) = ((9 * i) + (3 * i)) + j by omega] at c1
  rw [show (9 * j) + ((i * 3) + j) = ((9 * j) + (3 * i)) + j by omega] at c2
  have b1 := h.2.2.2.2.1 (((9 * i) + (3 * i)) + j)
  have b2 := h.2.2.2.2.1 (((9 * j) + (3 * i)) + j)
  rw [c1, c2]
  unfold mnI stN
  by_cases q : cc (((9 * j) + (3 * i)) + j) < cc (((9 * i) + (3 * i)) + j)
  · rw [if_pos ((nI_ltI (by omega) (by omega)).mpr q), Nat.min_eq_right (by omega)]
  · rw [if_neg (fun z => q ((nI_ltI (by omega) (by omega)).mp z)), Nat.min_eq_left (by omega)]
theorem JJ_rep {lim : Nat} (h : JJ B n dc pa va dl ge su vo un an dp sq qq cc dps lts chs cks hds nls wis) (hB : B ≤ 900000) (hi : i < 3) (hj : j < 3) (hij : i ≠ j) (hl : lim ≤ 4)
    {y : CS} (hy : y = csS dc pa dl ge su n (dps j) (hds i) (nls i) (chs i) (0, mnI (cks i ((i * 3) + j)) (cks j ((i * 3) + j)), lts j, chs j, hds j, nls j, wis j) lim) {x : RP} (hx : x = roS dc an ge n dp i j lim (sq i - stN cc i j) (stN cc i j + 1) (hds, sq, qq, 0, 0, stN cc i j)) :
    x.2.2.2.1 = y.1 ∧ x.1 = va_up hds j y.2.2.2.2.1 ∧
    JJ (B + 4) n dc pa va dl ge su vo un an dp x.2.1 x.2.2.1 (va_up (va_up cc (((9 * i) + (3 * i)) + j) (rpA i x)) (((9 * j) + (3 * i)) + j) (rpA i x)) dps (va_up lts j y.2.2.1) (va_up chs j y.2.2.2.1)
      (va_up (va_up cks i (va_up (cks i) ((i * 3) + j) (csa (chs i) (lts i) y))) j (va_up (cks j) ((i * 3) + j) (csa (chs i) (lts i) y))) (va_up hds j y.2.2.2.2.1) (va_up nls j y.2.2.2.2.2.1) (va_up wis j y.2.2.2.2.2.2) := by
  have hcom := JJ_com h hB hi hj
  obtain ⟨hG, hS, hb1, hb2, hb3, hb4⟩ := h
  have hT := hG.1
  have hA := hG.2.2.2.2.2
  obtain ⟨s1, s2, s3, s4, s5, s6, s7, s8⟩ := hS i hi
  obtain ⟨t1, t2, t3, t4, t5, t6, t7, t8⟩ := hS j hj
  have hst : stN cc i j ≤ B := by have := hb3 (((9 * i) + (3 * i)) + j); unfold stN; omega
  have hch : ∀ d, d < 4 → nI (qq ((4 * i) + d)) = chs i d := fun d hd => (s6 d hd).symm
  have h0 : RLq n i j dc pa dl ge su dp hds sq qq (hds, sq, qq, 0, 0, stN cc i j) (0, mnI (cks i ((i * 3) + j)) (cks j ((i * 3) + j)), lts j, chs j, hds j, nls j, wis j) :=
    ⟨rfl, fun _ _ => rfl, t5.symm, fun _ _ => rfl, fun d hd => (t6 d hd).symm, fun _ _ => rfl, rfl, hcom.symm, t1, t2, t8, by show sq j ≤ sq j + 0; omega⟩
  have hsi := hb1 i
  obtain ⟨r0, g4, g5⟩ := sim_ro (dl := dl) (su := su) hG.2.1 hT hA hij s1.2.1 s1.1 (hb4 j) hch s8 (by omega) (x0 := (0, mnI (cks i ((i * 3) + j)) (cks j ((i * 3) + j)), lts j, chs j, hds j, nls j, wis j)) (lim := lim) (sq i - stN cc i j) (stN cc i j + 1) (hds, sq, qq, 0, 0, stN cc i j) 0 h0 rfl (Nat.zero_le _) (by omega) (by show stN cc i j < stN cc i j + 1; omega) (by show stN cc i j ≤ 1000000; omega) (fun d hd => by show qq ((4 * i) + d) ≤ stN cc i j ∨ stN cc i j + 1 ≤ qq ((4 * i) + d); omega)
  rw [← t3, ← hy, ← hx] at r0
  rw [← hx] at g4 g5
  have hra := rpA_csa hch hij s5.symm s8 (by omega) r0 g5
  obtain ⟨r1, r2, r3, r4, r5, r6, r7, r8, r9, r10, r11, r12⟩ := r0
  have eS : x.1 = va_up hds j y.2.2.2.2.1 := by
    funext q
    by_cases e : q = j
    · rw [e, up_s]; exact r1
    · rw [up_o _ _ _ e]; exact r2 q e
  have hqj : x.2.1 j ≤ B + 4 := by have := hb1 j; omega
  have hrb : rpA i x ≤ B + 4 := by
    have h9 : x.2.1 i = sq i := r4 i hij
    unfold rpA
    split
    · rw [h9]; omega
    · rename_i h0
      have h8 : 0 < fct (rlf i x) 4 := by omega
      obtain ⟨k, k1, k2⟩ := any_iff.mp (fct_pos.mp h8)
      unfold rlf at k2
      rw [decide_eq_true_eq, r6 _ (by omega)] at k2
      have := hb2 ((4 * i) + k)
      omega
  refine ⟨r7, eS, hG, fun q hq => ?_, fun q => ?_, fun q => ?_, fun q => ?_, hb4⟩
  · by_cases e : q = j
    · subst e
      simp only [up_s]
      refine ⟨r9, r10, t3, t4, r3.symm, fun d hd => (r5 d hd).symm, fun r hr => ?_, r11⟩
      by_cases hrp : r = (i * 3) + q
      · rw [hrp, up_s, show (9 * q) + ((i * 3) + q) = ((9 * q) + (3 * i)) + q by omega, up_s]; exact hra.symm
      · rw [up_o _ _ _ hrp, up_o _ _ _ (by omega), up_o _ _ _ (by omega)]; exact t7 r hr
    · simp only [up_o _ _ _ e]
      by_cases e2 : q = i
      · subst e2
        simp only [up_s]
        refine ⟨s1, s2, s3, s4, by rw [r4 q hij]; exact s5, fun d hd => by rw [r6 _ (by omega)]; exact s6 d hd, fun r hr => ?_, fun d hd => by rw [r6 _ (by omega), r4 q hij]; exact s8.1 d hd, fun d e hd he hde h9 => ?_⟩
        · by_cases hrp : r = (q * 3) + j
          · rw [hrp, up_s, show (9 * q) + ((q * 3) + j) = ((9 * q) + (3 * q)) + j by omega, up_o _ _ _ (by omega), up_s]; exact hra.symm
          · rw [up_o _ _ _ hrp, up_o _ _ _ (by omega), up_o _ _ _ (by omega)]; exact s7 r hr
        · rw [r6 _ (by omega)] at h9 ⊢
          rw [r6 _ (by omega)]
          exact s8.2 d e hd he hde h9
      · simp only [up_o _ _ _ e2]
        exact JO_frame (hS q hq) rfl (r4 q e) (fun d hd => r6 _ (by omega)) (fun r hr => by rw [up_o _ _ _ (by omega), up_o _ _ _ (by omega)])
  · by_cases e : q = j
    · rw [e]; exact hqj
    · rw [r4 q e]; have := hb1 q; omega
  · by_cases e : 4 * j ≤ q ∧ q < 4 * j + 4
    · have := r11.1 (q - 4 * j) (by omega)
      rw [show (4 * j) + (q - 4 * j) = q by omega] at this
      omega
    · rw [r6 q e]; have := hb2 q; omega
  · by_cases e1 : q = ((9 * j) + (3 * i)) + j
    · rw [e1, up_s]; exact hrb
    · rw [up_o _ _ _ e1]
      by_cases e2 : q = ((9 * i) + (3 * i)) + j
      · rw [e2, up_s]; exact hrb
      · rw [up_o _ _ _ e2]; have := hb3 q; omega
end JX
