/-! branches that another store holds are received -/
theorem ln_shift (pa : Nat → Option Nat) (oh : Nat → Bool) : ∀ (f : Nat) (o : Option Nat) (c : Nat) (x : Nat → Bool), ln pa oh f o c x = (c + (ln pa oh f o 0 x).1, (ln pa oh f o 0 x).2)
  | 0, _, c, x => rfl
  | f + 1, none, c, x => rfl
  | f + 1, some j, c, x => by
    by_cases h : (oh j && !x j) = true
    · have e : ∀ c, ln pa oh (f + 1) (some j) c x = ln pa oh f (pa j) (c + 1) (va_up x j true) := fun c => if_pos h
      rw [e c, e 0, ln_shift pa oh f (pa j) (c + 1), ln_shift pa oh f (pa j) (0 + 1)]
      simp only [Prod.mk.injEq, and_true]
      omega
    · have e : ∀ c, ln pa oh (f + 1) (some j) c x = ln pa oh f (pa j) c x := fun c => if_neg h
      rw [e c, e 0]
      exact ln_shift pa oh f (pa j) c x
theorem ln_in (pa : Nat → Option Nat) (oh : Nat → Bool) : ∀ (f : Nat) (o : Option Nat) (c : Nat) (x : Nat → Bool), (∀ k, (ln pa oh f o c x).2 k = true → x k = true ∨ oh k = true) ∧ (∀ k, x k = true → (ln pa oh f o c x).2 k = true) ∧ c ≤ (ln pa oh f o c x).1 ∧ ((ln pa oh f o c x).1 = c → (ln pa oh f o c x).2 = x)
  | 0, _, c, x => ⟨fun k h => Or.inl h, fun k h => h, Nat.le_refl _, fun _ => rfl⟩
  | f + 1, none, c, x => ⟨fun k h => Or.inl h, fun k h => h, Nat.le_refl _, fun _ => rfl⟩
  | f + 1, some j, c, x => by
    by_cases h : (oh j && !x j) = true
    · have e : ln pa oh (f + 1) (some j) c x = ln pa oh f (pa j) (c + 1) (va_up x j true) := if_pos h
      obtain ⟨h1, h2, h3, h4⟩ := ln_in pa oh f (pa j) (c + 1) (va_up x j true)
      rw [e]
      refine ⟨fun k hk => ?_, fun k hk => h2 k ?_, by omega, fun hc => by omega⟩
      · rcases h1 k hk with q | q
        · by_cases hkj : k = j
          · subst hkj
            rw [Bool.and_eq_true] at h
            exact Or.inr h.1
          · simp only [va_up, if_neg hkj] at q
            exact Or.inl q
        · exact Or.inr q
      · by_cases hkj : k = j
        · simp only [va_up, if_pos hkj]
        · simp only [va_up, if_neg hkj]; exact hk
    · have e : ln pa oh (f + 1) (some j) c x = ln pa oh f (pa j) c x := if_neg h
      rw [e]
      exact ln_in pa oh f (pa j) c x
section GET
variable {n i j d : Nat} {dc : Nat → Nat} {pa : Nat → Option Nat} {dl : Nat → Bool} {ge : Nat → Nat} {su : Nat → Int32} {hd hd2 : Nat → Bool} {nl nl2 : Nat → Nat} {mk : Nat → Bool} {dp : Nat → Int32} {wi : Nat → Option Nat}
theorem RW_other {X Y : Nat → Bool} (hij : i ≠ j) (h : ∀ q, ¬ (150 * j ≤ q ∧ q < 150 * j + 150) → Y q = X q) (hr : RW X i hd2) : RW Y i hd2 := fun k hk => by
  rw [h _ (by omega)]
  exact hr k hk
theorem lm_ln (hn : n ≤ 150) (hTp : ∀ k j, k < n → pa k = some j → j < k) (hij : i ≠ j) : ∀ (f : Nat) (o : Option Nat) (c : Nat) (X x : Nat → Bool), (∀ k, o = some k → k < n) → RW X i hd2 → RW X j x →
    (lm pa i j f o c X).1 = (ln pa hd2 f o c x).1 ∧ RW (lm pa i j f o c X).2 j (ln pa hd2 f o c x).2 ∧ ∀ q, ¬ (150 * j ≤ q ∧ q < 150 * j + 150) → (lm pa i j f o c X).2 q = X q
  | 0, _, c, X, x, _, _, h2 => ⟨rfl, h2, fun _ _ => rfl⟩
  | f + 1, none, c, X, x, _, _, h2 => ⟨rfl, h2, fun _ _ => rfl⟩
  | f + 1, some k, c, X, x, ho, h1, h2 => by
    have hk := ho k rfl
    have ho2 : ∀ q, pa k = some q → q < n := fun q hq => by have := hTp k q hk hq; omega
    have e1 : X ((150 * i) + k) = hd2 k := h1 k (by omega)
    have e2 : X ((150 * j) + k) = x k := h2 k (by omega)
    have el : lm pa i j (f + 1) (some k) c X = lm pa i j f (pa k) (c + bN (hd2 k && !x k)) (va_up X ((150 * j) + k) ((hd2 k && !x k) || x k)) := by
      show lm pa i j f (pa k) _ _ = _
      rw [e1, e2]
    have hfr : ∀ b q, ¬ (150 * j ≤ q ∧ q < 150 * j + 150) → va_up X ((150 * j) + k) b q = X q := fun b q hq => by
      have : ¬ q = (150 * j) + k := by omega
      simp only [va_up, if_neg this]
    by_cases h : (hd2 k && !x k) = true
    · have en : ln pa hd2 (f + 1) (some k) c x = ln pa hd2 f (pa k) (c + 1) (va_up x k true) := if_pos h
      rw [el, en, h]
      obtain ⟨g1, g2, g3⟩ := lm_ln hn hTp hij f (pa k) (c + 1) (va_up X ((150 * j) + k) (true || x k)) (va_up x k true) ho2 (RW_other hij (hfr _) h1) (fun q hq => by
        by_cases hqk : q = k
        · subst hqk; simp [va_up]
        · have : ¬ (150 * j) + q = (150 * j) + k := by omega
          simp only [va_up, if_neg this, if_neg hqk]
          exact h2 q hq)
      exact ⟨g1, g2, fun q hq => by rw [show c + bN true = c + 1 from rfl, g3 q hq]; exact hfr _ q hq⟩
    · have en : ln pa hd2 (f + 1) (some k) c x = ln pa hd2 f (pa k) c x := if_neg h
      have hf : (hd2 k && !x k) = false := by simpa using h
      rw [el, en, hf]
      have ex : va_up X ((150 * j) + k) (false || x k) = X := by
        funext q
        by_cases hq : q = (150 * j) + k
        · subst hq; simp only [va_up, if_true, Bool.false_or]; exact e2.symm
        · simp only [va_up, if_neg hq]
      rw [ex]
      exact lm_ln hn hTp hij f (pa k) c X x ho2 h1 h2
theorem gtS_abS (hT : TV n dc pa ge) (hij : i ≠ j) (h2 : NL n pa ge hd2 nl2) (h1 : NL n pa ge hd nl) (hr2 : RW mk i hd2) (hr : RW mk j hd) : ∀ c, c ≤ n →
    (gtS dc pa i j n d mk c).1 = (abS dc pa hd2 (ends hd2 nl2) nl d hd c).1 ∧ RW (gtS dc pa i j n d mk c).2 j (abS dc pa hd2 (ends hd2 nl2) nl d hd c).2 ∧ (∀ q, ¬ (150 * j ≤ q ∧ q < 150 * j + 150) → (gtS dc pa i j n d mk c).2 q = mk q) ∧ (∀ k, (abS dc pa hd2 (ends hd2 nl2) nl d hd c).2 k = true → hd k = true ∨ hd2 k = true) ∧ (∀ k, hd k = true → (abS dc pa hd2 (ends hd2 nl2) nl d hd c).2 k = true) ∧ ((abS dc pa hd2 (ends hd2 nl2) nl d hd c).1 = 0 → (abS dc pa hd2 (ends hd2 nl2) nl d hd c).2 = hd)
  | 0, _ => ⟨rfl, hr, fun _ _ => rfl, fun k h => Or.inl h, fun k h => h, fun _ => rfl⟩
  | c + 1, hc => by
    obtain ⟨a1, a2, a3, a4, a5, a6⟩ := gtS_abS hT hij h2 h1 hr2 hr c (by omega)
    have hn := hT.1
    have hTp := hT.2.2.2.1
    have hri := RW_other hij a3 hr2
    generalize hA : abS dc pa hd2 (ends hd2 nl2) nl d hd c = A at a1 a2 a4 a5 a6
    generalize hG : gtS dc pa i j n d mk c = G at a1 a2 a3 hri
    have hcond : gtC dc pa i j n d c G.2 = abC dc (ends hd2 nl2) nl d c A.2 := by
      unfold gtC abC
      rw [lef_ends hn h2 hri (by omega), a2 c (by omega)]
      cases hE : ends hd2 nl2 c with
      | false => simp
      | true =>
        have e : any (hsP pa G.2 j c) n = hasD nl c := by
          have e1 : any (hsP pa G.2 j c) n = true ↔ hasD nl c = true := by
            rw [any_iff]
            unfold hasD hsP
            rw [decide_eq_true_eq, h1.2.1 c]
            refine ⟨fun ⟨k, k1, k2⟩ => ?_, fun ⟨k, k1, k2, k3⟩ => ⟨k, k1, by rw [a2 k (by omega), a5 k k2, k3]; rfl⟩⟩
            rw [a2 k (by omega), Bool.and_eq_true] at k2
            rcases a4 k k2.1 with q | q
            · exact ⟨k, k1, q, k2.2⟩
            · exact absurd (ends_iff.mp hE).2 ((h2.2.1 c).mpr ⟨k, k1, q, k2.2⟩)
          cases q1 : any (hsP pa G.2 j c) n <;> cases q2 : hasD nl c <;> simp_all
        rw [e]
    have eG : gtS dc pa i j n d mk (c + 1) = gtp dc pa i j n d c G := by show gtp dc pa i j n d c (gtS dc pa i j n d mk c) = _; rw [hG]
    have eA : abS dc pa hd2 (ends hd2 nl2) nl d hd (c + 1) = abp dc pa hd2 (ends hd2 nl2) nl d c A := by show abp dc pa hd2 (ends hd2 nl2) nl d c (abS dc pa hd2 (ends hd2 nl2) nl d hd c) = _; rw [hA]
    rw [eG, eA]
    unfold gtp abp
    rw [hcond]
    by_cases hC : abC dc (ends hd2 nl2) nl d c A.2 = true
    · rw [if_pos hC, if_pos hC]
      obtain ⟨b1, b2, b3⟩ := lm_ln hn hTp hij 150 (some c) G.1 G.2 A.2 (fun k hk => by cases hk; omega) hri a2
      obtain ⟨l1, l2, l3, l4⟩ := ln_in pa hd2 150 (some c) 0 A.2
      have es := ln_shift pa hd2 150 (some c) G.1 A.2
      rw [es] at b1 b2
      refine ⟨by rw [b1, a1], b2, fun q hq => by rw [b3 q hq, a3 q hq], fun k hk => ?_, fun k hk => l2 k (a5 k hk), fun h0 => ?_⟩
      · rcases l1 k hk with q | q
        · exact a4 k q
        · exact Or.inr q
      · have h0 : A.1 + (ln pa hd2 150 (some c) 0 A.2).1 = 0 := h0
        show (ln pa hd2 150 (some c) 0 A.2).2 = hd
        rw [l4 (by omega), a6 (by omega)]
    · rw [if_neg hC, if_neg hC]
      exact ⟨a1, a2, a3, a4, a5, a6⟩
/-- the target after it has received: class and reference agree -/
theorem recv_ok (hT : TV n dc pa ge) (hij : i ≠ j) (h2 : NL n pa ge hd2 nl2) (hh2 : ∀ k, hd2 k = true → k < n) (h1 : SV n dc pa dl ge su hd nl wi) (hr2 : RW mk i hd2) (hr : RW mk j hd) {e : Nat} (he : dp j = nI e) (he2 : e ≤ 20)
    {A : Nat × (Nat → Bool)} (hA : A = abS dc pa hd2 (ends hd2 nl2) nl d hd n) {G : Nat × (Nat → Bool)} (hG : G = gtS dc pa i j n d mk n) :
    G.1 = A.1 ∧ SV n dc pa dl ge su (if 0 < A.1 then stm A.2 (flS pa ge A.2 n n) ge (nI e) n else A.2) (if 0 < A.1 then flS pa ge A.2 n n else nl) (if 0 < A.1 then fwS dc dl ge su (ends A.2 (flS pa ge A.2 n n)) n else wi) ∧
      RW (if 0 < G.1 then (smS pa ge dp j n G.2 n).2 else G.2) j (if 0 < A.1 then stm A.2 (flS pa ge A.2 n n) ge (nI e) n else A.2) ∧ ∀ q, ¬ (150 * j ≤ q ∧ q < 150 * j + 150) → (if 0 < G.1 then (smS pa ge dp j n G.2 n).2 else G.2) q = mk q := by
  obtain ⟨a1, a2, a3, a4, a5, a6⟩ := gtS_abS (d := d) hT hij h2 h1.2.1 hr2 hr n (Nat.le_refl _)
  rw [← hA] at a1 a2 a4 a5 a6
  rw [← hG] at a1 a2 a3
  rw [a1]
  by_cases h0 : 0 < A.1
  · rw [if_pos h0, if_pos h0, if_pos h0, if_pos h0]
    have hlt : ∀ k, A.2 k = true → k < n := fun k hk => by
      rcases a4 k hk with q | q
      · exact h1.1 k q
      · exact hh2 k q
    have hs := SV_survey (dl := dl) (su := su) hT hlt
    obtain ⟨-, s2, s3⟩ := smS_stm hT hs.2.1 a2 he he2 n (Nat.le_refl _)
    exact ⟨rfl, SV_stem hs, s2, fun q hq => by rw [s3 q hq, a3 q hq]⟩
  · rw [if_neg h0, if_neg h0, if_neg h0, if_neg h0]
    have e0 := a6 (by omega)
    exact ⟨rfl, by rw [e0]; exact h1, a2, a3⟩
end GET
theorem nxS_congr {f g : Nat → Int32} {a : Int32} : ∀ {c : Nat}, (∀ k, k < c → f k = g k) → nxS f a c = nxS g a c
  | 0, _ => rfl
  | c + 1, h => by
    have ih := nxS_congr (a := a) (c := c) (fun k hk => h k (by omega))
    show nxp f a c (nxS f a c) = nxp g a c (nxS g a c)
    rw [ih]
    cases hx : nxS g a c with
    | none => unfold nxp; rw [h c (by omega)]
    | some b =>
      have := nxS_lt g a c b hx
      unfold nxp
      rw [h c (by omega)]
      simp only [h b (by omega)]
section REP
variable {n i j : Nat} {dc : Nat → Nat} {pa : Nat → Option Nat} {dl : Nat → Bool} {ge : Nat → Nat} {su : Nat → Int32} {hd hd2 : Nat → Bool} {nl nl2 : Nat → Nat} {mk : Nat → Bool} {dp : Nat → Int32} {wi : Nat → Option Nat} {sq tc : Nat → Int32} {ch2 : Nat → Int32} {x0 : CS} {X0 : RS}
/-- both sides' states on the way of a replication -/
def RR2 (n j : Nat) (dc : Nat → Nat) (pa : Nat → Option Nat) (dl : Nat → Bool) (ge : Nat → Nat) (su : Nat → Int32) (mk : Nat → Bool) (sq tc : Nat → Int32) (x : CS) (X : RS) : Prop :=
  X.1 = x.1 ∧ X.2.1 = x.2.1 ∧ SV n dc pa dl ge su x.2.2.2.2.1 x.2.2.2.2.2.1 x.2.2.2.2.2.2 ∧ RW X.2.2.1 j x.2.2.2.2.1 ∧ X.2.2.2.1 j = x.2.2.1 ∧ (∀ d, d < 4 → X.2.2.2.2 ((4 * j) + d) = x.2.2.2.1 d) ∧
  (∀ q, ¬ (150 * j ≤ q ∧ q < 150 * j + 150) → X.2.2.1 q = mk q) ∧ (∀ q, q ≠ j → X.2.2.2.1 q = sq q) ∧ ∀ q, ¬ (4 * j ≤ q ∧ q < 4 * j + 4) → X.2.2.2.2 q = tc q
theorem rep_step (hT : TV n dc pa ge) (hij : i ≠ j) (h2 : NL n pa ge hd2 nl2) (hh2 : ∀ k, hd2 k = true → k < n) (hr2 : RW mk i hd2) (hch : ∀ d, d < 4 → tc ((4 * i) + d) = ch2 d) {e : Nat} (he : dp j = nI e) (he2 : e ≤ 20) {x : CS} {X : RS} (h : RR2 n j dc pa dl ge su mk sq tc x X) :
    nxS (tcr X.2.2.2.2 i) X.2.1 4 = nxS ch2 x.2.1 4 ∧ RR2 n j dc pa dl ge su mk sq tc (csp dc pa dl ge su n (nI e) hd2 nl2 ch2 x) (rpp dc pa ge dp i j n X) := by
  obtain ⟨h1, h3, h4, h5, h6, h7, h8, h9, h10⟩ := h
  have hnx : nxS (tcr X.2.2.2.2 i) X.2.1 4 = nxS ch2 x.2.1 4 := by
    rw [h3]
    refine nxS_congr (fun d hd => ?_)
    unfold tcr
    rw [h10 _ (by omega)]
    exact hch d hd
  refine ⟨hnx, ?_⟩
  cases hd : nxS ch2 x.2.1 4 with
  | none =>
    rw [csp_n hd, rpp_n (by rw [hnx]; exact hd)]
    exact ⟨h1, h3, h4, h5, h6, h7, h8, h9, h10⟩
  | some d =>
    have hd4 := nxS_lt _ _ _ _ hd
    rw [csp_s hd, rpp_s (by rw [hnx]; exact hd)]
    obtain ⟨A, hA⟩ : ∃ A, A = abS dc pa hd2 (ends hd2 nl2) x.2.2.2.2.2.1 d x.2.2.2.2.1 n := ⟨_, rfl⟩
    obtain ⟨G, hG⟩ : ∃ G, G = gtS dc pa i j n d X.2.2.1 n := ⟨_, rfl⟩
    obtain ⟨r1, r2, r3, r4⟩ := recv_ok (d := d) hT hij h2 hh2 h4 (RW_other hij h8 hr2) h5 he he2 hA hG
    have ht : ∀ q, ¬ (4 * j ≤ q ∧ q < 4 * j + 4) → (if 0 < G.1 then va_up X.2.2.2.2 ((4 * j) + d) (X.2.2.2.1 j + nI 1) else X.2.2.2.2) q = tc q := fun q hq => by
      split
      · have : ¬ q = (4 * j) + d := by omega
        simp only [va_up, if_neg this]
        exact h10 q hq
      · exact h10 q hq
    unfold csg rpg
    rw [← hA, ← hG]
    refine ⟨by show X.1 + G.1 = x.1 + A.1; rw [h1, r1], ?_, r2, r3, ?_, fun q hq => ?_, fun q hq => by rw [← h8 q hq]; exact r4 q hq, fun q hq => ?_, ht⟩
    · show (if 0 < G.1 then va_up X.2.2.2.2 ((4 * j) + d) (X.2.2.2.1 j + nI 1) else X.2.2.2.2) ((4 * i) + d) = ch2 d
      rw [ht _ (by omega)]
      exact hch d hd4
    · show (if 0 < G.1 then va_up X.2.2.2.1 j (X.2.2.2.1 j + nI 1) else X.2.2.2.1) j = if 0 < A.1 then x.2.2.1 + nI 1 else x.2.2.1
      rw [r1]
      by_cases h0 : 0 < A.1
      · rw [if_pos h0, if_pos h0, h6]; simp only [va_up, if_true]
      · rw [if_neg h0, if_neg h0]; exact h6
    · show (if 0 < G.1 then va_up X.2.2.2.2 ((4 * j) + d) (X.2.2.2.1 j + nI 1) else X.2.2.2.2) ((4 * j) + q) = (if 0 < A.1 then va_up x.2.2.2.1 d (x.2.2.1 + nI 1) else x.2.2.2.1) q
      rw [r1]
      by_cases h0 : 0 < A.1
      · rw [if_pos h0, if_pos h0, h6]
        by_cases hqd : q = d
        · subst hqd; simp only [va_up, if_true]
        · have : ¬ (4 * j) + q = (4 * j) + d := by omega
          simp only [va_up, if_neg this, if_neg hqd]
          exact h7 q hq
      · rw [if_neg h0, if_neg h0]; exact h7 q hq
    · show (if 0 < G.1 then va_up X.2.2.2.1 j (X.2.2.2.1 j + nI 1) else X.2.2.2.1) q = sq q
      split
      · simp only [va_up, if_neg hq]; exact h9 q hq
      · exact h9 q hq
theorem rep_all (hT : TV n dc pa ge) (hij : i ≠ j) (h2 : NL n pa ge hd2 nl2) (hh2 : ∀ k, hd2 k = true → k < n) (hr2 : RW mk i hd2) (hch : ∀ d, d < 4 → tc ((4 * i) + d) = ch2 d) {e : Nat} (he : dp j = nI e) (he2 : e ≤ 20) (h : RR2 n j dc pa dl ge su mk sq tc x0 X0) : ∀ c,
    RR2 n j dc pa dl ge su mk sq tc (csS dc pa dl ge su n (nI e) hd2 nl2 ch2 x0 c) (rpS dc pa ge dp i j n X0 c)
  | 0 => h
  | c + 1 => (rep_step hT hij h2 hh2 hr2 hch he he2 (rep_all hT hij h2 hh2 hr2 hch he he2 h c)).2
theorem rpa_csa (hij : i ≠ j) (hch : ∀ d, d < 4 → tc ((4 * i) + d) = ch2 d) {lt2 : Int32} (hl : sq i = lt2) {x : CS} {X : RS} (h : RR2 n j dc pa dl ge su mk sq tc x X) : rpa i X = csa ch2 lt2 x := by
  obtain ⟨h1, h3, h4, h5, h6, h7, h8, h9, h10⟩ := h
  have hnx : nxS (tcr X.2.2.2.2 i) X.2.1 4 = nxS ch2 x.2.1 4 := by
    rw [h3]
    refine nxS_congr (fun d hd => ?_)
    unfold tcr
    rw [h10 _ (by omega)]
    exact hch d hd
  unfold rpa csa
  rw [hnx]
  cases nxS ch2 x.2.1 4 with
  | none => show X.2.2.2.1 i = lt2; rw [h9 i hij]; exact hl
  | some d => exact h3
end REP
theorem lkC_mnI {kp ck ck2 : Nat → Int32} {i j : Nat} (hi : i < 3) (hj : j < 3) (h2 : ∀ q, q < 9 → kp ((9 * i) + q) = ck2 q) (h1 : ∀ q, q < 9 → kp ((9 * j) + q) = ck q) : lkC kp i j = mnI (ck2 ((i * 3) + j)) (ck ((i * 3) + j)) := by
  have e1 : kp ((9 * j) + (3 * i) + j) = ck ((i * 3) + j) := by rw [show (9 * j) + (3 * i) + j = (9 * j) + ((i * 3) + j) by omega]; exact h1 _ (by omega)
  have e2 : kp ((9 * i) + (3 * i) + j) = ck2 ((i * 3) + j) := by rw [show (9 * i) + (3 * i) + j = (9 * i) + ((i * 3) + j) by omega]; exact h2 _ (by omega)
  unfold lkC mnI
  rw [e1, e2]
  by_cases h : ck ((i * 3) + j) < ck2 ((i * 3) + j)
  · rw [if_pos h, if_pos (Int32.le_of_lt h)]
  · rw [if_neg h]
    by_cases h3 : ck ((i * 3) + j) ≤ ck2 ((i * 3) + j)
    · rw [if_pos h3]
      exact Int32.le_antisymm h3 (Int32.not_lt.mp h)
    · rw [if_neg h3]
