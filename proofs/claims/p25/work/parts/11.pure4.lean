/-! both sides' state, and what the writing calls make of it -/
theorem up_s {α : Type} (f : Nat → α) (i : Nat) (x : α) : va_up f i x i = x := if_pos rfl
theorem up_o {α : Type} (f : Nat → α) (i : Nat) (x : α) {q : Nat} (h : ¬ q = i) : va_up f i x q = f q := if_neg h
def ST (n : Nat) (dc : Nat → Nat) (pa : Nat → Option Nat) (dl : Nat → Bool) (ge : Nat → Nat) (su : Nat → Int32) (mk : Nat → Bool) (dpM sq tc kp : Nat → Int32) (i : Nat) (dp lt : Int32) (ch ck : Nat → Int32) (hd : Nat → Bool) (nl : Nat → Nat) (wi : Nat → Option Nat) : Prop :=
  SV n dc pa dl ge su hd nl wi ∧ RW mk i hd ∧ (∃ e, dpM i = nI e ∧ dp = nI e ∧ 1 ≤ e ∧ e ≤ 20) ∧ sq i = lt ∧ (∀ d, d < 4 → tc ((4 * i) + d) = ch d) ∧ ∀ q, q < 9 → kp ((9 * i) + q) = ck q
def J (n : Nat) (dc : Nat → Nat) (pa : Nat → Option Nat) (dl : Nat → Bool) (ge : Nat → Nat) (su : Nat → Int32) (mk : Nat → Bool) (dpM sq tc kp : Nat → Int32) (dps lts : Nat → Int32) (chs cks : Nat → Nat → Int32) (hds : Nat → Nat → Bool) (nls : Nat → Nat → Nat) (wis : Nat → Nat → Option Nat) : Prop :=
  TV n dc pa ge ∧ ∀ i, i < 3 → ST n dc pa dl ge su mk dpM sq tc kp i (dps i) (lts i) (chs i) (cks i) (hds i) (nls i) (wis i)
section JS
variable {n : Nat} {dc : Nat → Nat} {pa : Nat → Option Nat} {dl : Nat → Bool} {ge : Nat → Nat} {su : Nat → Int32} {mk : Nat → Bool} {dpM sq tc kp : Nat → Int32} {dps lts : Nat → Int32} {chs cks : Nat → Nat → Int32} {hds : Nat → Nat → Bool} {nls : Nat → Nat → Nat} {wis : Nat → Nat → Option Nat}
theorem ST_frame {mk2 : Nat → Bool} {dp2 sq2 tc2 kp2 : Nat → Int32} {i : Nat} {dp lt : Int32} {ch ck : Nat → Int32} {hd : Nat → Bool} {nl : Nat → Nat} {wi : Nat → Option Nat} (h : ST n dc pa dl ge su mk dpM sq tc kp i dp lt ch ck hd nl wi)
    (h1 : ∀ k, k < 150 → mk2 ((150 * i) + k) = mk ((150 * i) + k)) (h2 : dp2 i = dpM i) (h3 : sq2 i = sq i) (h4 : ∀ d, d < 4 → tc2 ((4 * i) + d) = tc ((4 * i) + d)) (h5 : ∀ q, q < 9 → kp2 ((9 * i) + q) = kp ((9 * i) + q)) :
    ST n dc pa dl ge su mk2 dp2 sq2 tc2 kp2 i dp lt ch ck hd nl wi := by
  obtain ⟨s1, s2, ⟨e, s3, s4, s5⟩, s6, s7, s8⟩ := h
  exact ⟨s1, fun k hk => by rw [h1 k hk]; exact s2 k hk, ⟨e, by rw [h2]; exact s3, s4, s5⟩, by rw [h3]; exact s6, fun d hd => by rw [h4 d hd]; exact s7 d hd, fun q hq => by rw [h5 q hq]; exact s8 q hq⟩
theorem J_grow {d : Nat} {o : Option Nat} {b : Bool} {y : Int32} (h : J n dc pa dl ge su mk dpM sq tc kp dps lts chs cks hds nls wis) (hn : n < 150) (hd4 : d < 4) (ho : ∀ j, o = some j → j < n ∧ dc j = d) :
    J (n + 1) (va_up dc n d) (va_up pa n o) (va_up dl n b) (va_up ge n (mkg ge o)) (va_up su n y) mk dpM sq tc kp dps lts chs cks hds nls wis :=
  ⟨(TV_grow h.1 hn hd4 ho).1, fun i hi => by
    obtain ⟨s1, s2⟩ := h.2 i hi
    exact ⟨SV_grow h.1 s1, s2⟩⟩
/-- a revision j that is there goes into store i -/
theorem J_app {i j : Nat} (h : J n dc pa dl ge su mk dpM sq tc kp dps lts chs cks hds nls wis) (hi : i < 3) (hj : j < n) :
    J n dc pa dl ge su (smS pa ge dpM i n (va_up mk ((150 * i) + j) true) n).2 dpM (va_up sq i (sq i + nI 1)) (va_up tc ((4 * i) + dc j) (sq i + nI 1)) kp
      dps (va_up lts i (lts i + nI 1)) (va_up chs i (va_up (chs i) (dc j) (lts i + nI 1))) cks
      (va_up hds i (stm (va_up (hds i) j true) (flS pa ge (va_up (hds i) j true) n n) ge (dps i) n)) (va_up nls i (flS pa ge (va_up (hds i) j true) n n)) (va_up wis i (fwS dc dl ge su (ends (va_up (hds i) j true) (flS pa ge (va_up (hds i) j true) n n)) n)) := by
  obtain ⟨hT, hS⟩ := h
  have hn := hT.1
  obtain ⟨s1, s2, ⟨e, s3, s4, s5, s6⟩, s7, s8, s9⟩ := hS i hi
  have hlt : ∀ k, va_up (hds i) j true k = true → k < n := fun k hk => by
    by_cases hkj : k = j
    · omega
    · rw [up_o _ _ _ hkj] at hk; exact s1.1 k hk
  have hr : RW (va_up mk ((150 * i) + j) true) i (va_up (hds i) j true) := fun k hk => by
    by_cases hkj : k = j
    · subst hkj; rw [up_s, up_s]
    · rw [up_o _ _ _ hkj, up_o _ _ _ (show ¬ (150 * i) + k = (150 * i) + j by omega)]; exact s2 k hk
  have hs := SV_survey (dl := dl) (su := su) hT hlt
  obtain ⟨-, g2, g3⟩ := smS_stm hT hs.2.1 hr s3 s6 n (Nat.le_refl _)
  refine ⟨hT, fun q hq => ?_⟩
  by_cases hqi : q = i
  · subst hqi
    rw [up_s, up_s, up_s, up_s, up_s, s4]
    refine ⟨SV_stem hs, g2, ⟨e, s3, rfl, s5, s6⟩, by rw [up_s, s7], fun d hd => ?_, s9⟩
    by_cases hd2 : d = dc j
    · rw [hd2, up_s, up_s, s7]
    · rw [up_o _ _ _ hd2, up_o _ _ _ (show ¬ (4 * q) + d = (4 * q) + dc j by omega)]; exact s8 d hd
  · rw [up_o _ _ _ hqi, up_o _ _ _ hqi, up_o _ _ _ hqi, up_o _ _ _ hqi, up_o _ _ _ hqi]
    have hdj := hT.2.1 j
    exact ST_frame (hS q hq) (fun k hk => by rw [g3 _ (by omega), up_o _ _ _ (by omega)]) rfl (up_o _ _ _ hqi) (fun d hd => up_o _ _ _ (by omega)) (fun _ _ => rfl)
theorem J_depth {i x : Nat} (h : J n dc pa dl ge su mk dpM sq tc kp dps lts chs cks hds nls wis) (hi : i < 3) (h1 : 1 ≤ x) (h20 : x ≤ 20) :
    fct (stC (hds i) (nls i) ge (nI x)) n = (smS pa ge (va_up dpM i (nI x)) i n mk n).1 ∧
    J n dc pa dl ge su (smS pa ge (va_up dpM i (nI x)) i n mk n).2 (va_up dpM i (nI x)) sq tc kp (va_up dps i (nI x)) lts chs cks (va_up hds i (stm (hds i) (nls i) ge (nI x) n)) nls wis := by
  obtain ⟨hT, hS⟩ := h
  obtain ⟨s1, s2, ⟨e, s3, s4, s5, s6⟩, s7, s8, s9⟩ := hS i hi
  obtain ⟨g1, g2, g3⟩ := smS_stm hT s1.2.1 s2 (dp := va_up dpM i (nI x)) (up_s _ _ _) h20 n (Nat.le_refl _)
  refine ⟨g1.symm, hT, fun q hq => ?_⟩
  by_cases hqi : q = i
  · subst hqi
    rw [up_s, up_s]
    exact ⟨SV_stem s1, g2, ⟨x, up_s _ _ _, rfl, h1, h20⟩, s7, s8, s9⟩
  · rw [up_o _ _ _ hqi, up_o _ _ _ hqi]
    exact ST_frame (hS q hq) (fun k hk => g3 _ (by omega)) (up_o _ _ _ hqi) rfl (fun d hd => rfl) (fun _ _ => rfl)
theorem fct_more {P : Nat → Bool} {m : Nat} : ∀ (q : Nat), (∀ k, m ≤ k → k < m + q → P k = false) → fct P (m + q) = fct P m
  | 0, _ => rfl
  | q + 1, h =>
    (fct_f (k := m + q) (h (m + q) (by omega) (by omega))).trans (fct_more q (fun k h1 h2 => h k h1 (by omega)))
theorem J_wipe {i : Nat} (h : J n dc pa dl ge su mk dpM sq tc kp dps lts chs cks hds nls wis) (hi : i < 3) :
    fct (hds i) n = fct (mrw mk i) 150 ∧
    J n dc pa dl ge su (remM mk i 150) dpM (va_up sq i (nI 0)) (clr tc (4 * i) 4) (clr kp (9 * i) 9) dps (va_up lts i (nI 0)) (va_up chs i (fun _ => nI 0)) (va_up cks i (fun _ => nI 0)) (va_up hds i (rem (hds i) 150)) (va_up nls i (flS pa ge (rem (hds i) 150) n n)) (va_up wis i (fwS dc dl ge su (ends (rem (hds i) 150) (flS pa ge (rem (hds i) 150) n n)) n)) := by
  obtain ⟨hT, hS⟩ := h
  have hn := hT.1
  obtain ⟨s1, s2, ⟨e, s3, s4, s5, s6⟩, s7, s8, s9⟩ := hS i hi
  have hz : ∀ k, rem (hds i) 150 k = true → False := fun k hk => by
    simp only [rem, Bool.and_eq_true, Bool.not_eq_true', decide_eq_false_iff_not] at hk
    have := s1.1 k hk.1
    omega
  refine ⟨?_, hT, fun q hq => ?_⟩
  · have e1 : fct (mrw mk i) 150 = fct (mrw mk i) n := by
      have := fct_more (P := mrw mk i) (m := n) (150 - n) (fun k h1 h2 => by
        have e2 : mrw mk i k = hds i k := s2 k (by omega)
        rw [e2]
        cases hk : hds i k with
        | false => rfl
        | true => have := s1.1 k hk; omega)
      rw [← this, show n + (150 - n) = 150 by omega]
    rw [e1]
    exact fct_congr (fun k hk => (s2 k (by omega)).symm)
  · by_cases hqi : q = i
    · subst hqi
      rw [up_s, up_s, up_s, up_s, up_s, up_s]
      refine ⟨SV_survey hT (fun k hk => (hz k hk).elim), fun k hk => ?_, ⟨e, s3, s4, s5, s6⟩, up_s _ _ _, fun d hd => ?_, fun r hr => ?_⟩
      · have e1 : rem (hds q) 150 k = false := by
          cases hx : rem (hds q) 150 k with
          | false => rfl
          | true => exact (hz k hx).elim
        have e2 : (decide (150 * q ≤ 150 * q + k) && decide (150 * q + k < 150 * q + 150)) = true := by
          simp; omega
        rw [e1]
        show (mk _ && !_) = false
        rw [e2]
        simp
      · have : 4 * q ≤ 4 * q + d ∧ 4 * q + d < 4 * q + 4 := by omega
        simp only [clr, if_pos this]
      · have : 9 * q ≤ 9 * q + r ∧ 9 * q + r < 9 * q + 9 := by omega
        simp only [clr, if_pos this]
    · rw [up_o _ _ _ hqi, up_o _ _ _ hqi, up_o _ _ _ hqi, up_o _ _ _ hqi, up_o _ _ _ hqi, up_o _ _ _ hqi]
      refine ST_frame (hS q hq) (fun k hk => ?_) rfl (up_o _ _ _ hqi) (fun d hd => ?_) (fun r hr => ?_)
      · have e2 : (decide (150 * i ≤ 150 * q + k) && decide (150 * q + k < 150 * i + 150)) = false := by
          rw [Bool.and_eq_false_iff, decide_eq_false_iff_not, decide_eq_false_iff_not]
          omega
        show (mk _ && !_) = mk _
        rw [e2]
        simp
      · have : ¬ (4 * i ≤ 4 * q + d ∧ 4 * q + d < 4 * i + 4) := by omega
        simp only [clr, if_neg this]
      · have : ¬ (9 * i ≤ 9 * q + r ∧ 9 * q + r < 9 * i + 9) := by omega
        simp only [clr, if_neg this]
theorem J_rep {i j c : Nat} (h : J n dc pa dl ge su mk dpM sq tc kp dps lts chs cks hds nls wis) (hi : i < 3) (hj : j < 3) (hij : i ≠ j)
    {y : CS} (hy : y = csS dc pa dl ge su n (dps j) (hds i) (nls i) (chs i) (0, mnI (cks i ((i * 3) + j)) (cks j ((i * 3) + j)), lts j, chs j, hds j, nls j, wis j) c) {Y : RS} (hY : Y = rpS dc pa ge dpM i j n (0, lkC kp i j, mk, sq, tc) c) :
    Y.1 = y.1 ∧ rpa i Y = csa (chs i) (lts i) y ∧
    J n dc pa dl ge su Y.2.2.1 dpM Y.2.2.2.1 Y.2.2.2.2 (va_up (va_up kp (((9 * i) + (3 * i)) + j) (rpa i Y)) (((9 * j) + (3 * i)) + j) (rpa i Y))
      dps (va_up lts j y.2.2.1) (va_up chs j y.2.2.2.1) (va_up (va_up cks i (va_up (cks i) ((i * 3) + j) (csa (chs i) (lts i) y))) j (va_up (cks j) ((i * 3) + j) (csa (chs i) (lts i) y))) (va_up hds j y.2.2.2.2.1) (va_up nls j y.2.2.2.2.2.1) (va_up wis j y.2.2.2.2.2.2) := by
  obtain ⟨hT, hS⟩ := h
  obtain ⟨s1, s2, ⟨e, s3, s4, s5, s6⟩, s7, s8, s9⟩ := hS i hi
  obtain ⟨t1, t2, ⟨f, t3, t4, t5, t6⟩, t7, t8, t9⟩ := hS j hj
  have hlk := lkC_mnI hi hj s9 t9
  have h0 : RR2 n j dc pa dl ge su mk sq tc (0, mnI (cks i ((i * 3) + j)) (cks j ((i * 3) + j)), lts j, chs j, hds j, nls j, wis j) (0, lkC kp i j, mk, sq, tc) :=
    ⟨rfl, hlk, t1, t2, t7, t8, fun _ _ => rfl, fun _ _ => rfl, fun _ _ => rfl⟩
  have hall := rep_all hT hij s1.2.1 s1.1 s2 s8 t3 t6 h0 c
  rw [← hY, ← t4, ← hy] at hall
  have hra := rpa_csa hij s8 s7 hall
  obtain ⟨r1, r2, r3, r4, r5, r6, r7, r8, r9⟩ := hall
  refine ⟨r1, hra, hT, fun q hq => ?_⟩
  rw [hra]
  have hkp : ∀ q, q < 3 → q ≠ i → q ≠ j → ∀ r, r < 9 → va_up (va_up kp (((9 * i) + (3 * i)) + j) (csa (chs i) (lts i) y)) (((9 * j) + (3 * i)) + j) (csa (chs i) (lts i) y) ((9 * q) + r) = kp ((9 * q) + r) := fun q h1 h2 h3 r hr => by
    rw [up_o _ _ _ (by omega), up_o _ _ _ (by omega)]
  by_cases hqj : q = j
  · subst hqj
    rw [up_s, up_s, up_s, up_s, up_s, up_s]
    refine ⟨r3, r4, ⟨f, t3, t4, t5, t6⟩, r5, r6, fun r hr => ?_⟩
    by_cases hrp : r = (i * 3) + q
    · rw [hrp, up_s, show (9 * q) + ((i * 3) + q) = ((9 * q) + (3 * i)) + q by omega, up_s]
    · rw [up_o _ _ _ hrp, up_o _ _ _ (by omega), up_o _ _ _ (by omega)]; exact t9 r hr
  · rw [up_o _ _ _ hqj, up_o _ _ _ hqj, up_o _ _ _ hqj, up_o _ _ _ hqj, up_o _ _ _ hqj, up_o _ _ _ hqj]
    by_cases hqi : q = i
    · subst hqi
      rw [up_s]
      refine ⟨s1, RW_other hqj r7 s2, ⟨e, s3, s4, s5, s6⟩, by rw [r8 q hqj]; exact s7, fun d hd => by rw [r9 _ (by omega)]; exact s8 d hd, fun r hr => ?_⟩
      by_cases hrp : r = (q * 3) + j
      · rw [hrp, up_s, show (9 * q) + ((q * 3) + j) = ((9 * q) + (3 * q)) + j by omega, up_o _ _ _ (by omega), up_s]
      · rw [up_o _ _ _ hrp, up_o _ _ _ (by omega), up_o _ _ _ (by omega)]; exact s9 r hr
    · rw [up_o _ _ _ hqi]
      exact ST_frame (hS q hq) (fun k hk => r7 _ (by omega)) rfl (r8 q hqj) (fun d hd => r9 _ (by omega)) (fun r hr => hkp q hq hqi hqj r hr)
end JS
