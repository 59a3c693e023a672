/-! what acts needs beside: winners there or not, replicated by a name for its state -/
theorem up_id {α : Type} (f : Nat → α) (i : Nat) : va_up f i (f i) = f := by
  funext q
  by_cases h : q = i
  · subst h; exact up_s f q (f q)
  · exact up_o f i (f i) h
section JW
variable {B n : Nat} {dc : Nat → Nat} {pa : Nat → Option Nat} {va : Nat → Int32} {dl : Nat → Bool} {ge : Nat → Nat} {su : Nat → Int32} {vo : Nat → Option Nat} {un : Nat → Nat} {an : Nat → Nat → Bool} {dp sq qq cc : Nat → Nat} {dps lts : Nat → Int32} {chs cks : Nat → Nat → Int32} {hds : Nat → Nat → Bool} {nls : Nat → Nat → Nat} {wis : Nat → Nat → Option Nat}
variable {i j d k : Nat}
theorem JJ_nowin (h : JJ B n dc pa va dl ge su vo un an dp sq qq cc dps lts chs cks hds nls wis) (hi : i < 3) (hL : any (lfB dc an n (hds i) d) 24 = false) : wis i d = none := by
  rw [← JJ_win h hi d]
  cases hw : wnS (lfB dc an n (hds i) d) (rk vo ge un) n with
  | none => rfl
  | some j =>
    obtain ⟨h1, h2⟩ := wnS_lt hw
    have := h.1.2.1
    rw [any_hit (by omega) h2] at hL
    cases hL
theorem SV_win {hd : Nat → Bool} {nl : Nat → Nat} {wi : Nat → Option Nat} (hT : TV n dc pa ge) (hs : SV n dc pa dl ge su hd nl wi) (hk : hd k = true) (hd9 : dc k = d) : ∃ w, wi d = some w := by
  obtain ⟨s1, s2, s3⟩ := hs
  cases hw : wi d with
  | some w => exact ⟨w, rfl⟩
  | none =>
    exfalso
    rw [s3 d] at hw
    have hno := bsS_none hw
    by_cases h1 : nl k = 151
    · have := hno k (s1 k hk) hd9
      rw [show ends hd nl k = true from ends_iff.mpr ⟨hk, h1⟩] at this
      cases this
    · obtain ⟨q, q1, q2, q3, -⟩ := s2.2.2.2 k h1
      have := hno q q1 (by rw [← anc_dc hT (q + 1) q (Nat.lt_succ_self _) q1 q3]; exact hd9)
      rw [q2] at this
      cases this
theorem JJ_somewin (h : JJ B n dc pa va dl ge su vo un an dp sq qq cc dps lts chs cks hds nls wis) (hi : i < 3) (hL : any (lfB dc an n (hds i) d) 24 = true) : ∃ w, wis i d = some w := by
  obtain ⟨k, -, k2⟩ := any_iff.mp hL
  rw [JJ_lf h hi d k, Bool.and_eq_true, decide_eq_true_eq] at k2
  exact SV_win h.1.1 (h.2.1 i hi).1 (ends_iff.mp k2.2).1 k2.1
theorem JJ_appw (h : JJ B n dc pa va dl ge su vo un an dp sq qq cc dps lts chs cks hds nls wis) (hi : i < 3) (hj : j < n) (hdj : dc j = d) : ∃ w, va_up wis i (fwS dc dl ge su (ends (va_up (hds i) j true) (flS pa ge (va_up (hds i) j true) n n)) n) i d = some w := by
  have hlt : ∀ k, va_up (hds i) j true k = true → k < n := fun k hk => by
    by_cases e : k = j
    · omega
    · rw [up_o _ _ _ e] at hk; exact (h.2.1 i hi).1.1 k hk
  have hs := SV_survey (dl := dl) (su := su) h.1.1 hlt
  rw [up_s]
  exact SV_win h.1.1 hs (up_s _ _ _) hdj
theorem JJ_mk (h : JJ B n dc pa va dl ge su vo un an dp sq qq cc dps lts chs cks hds nls wis) {o v : Option Nat} (hf : ffd (mkP dc vo pa d o v) n = some j) : j < n ∧ dc j = d := by
  obtain ⟨h1, h2⟩ := ffd_lt hf
  simp only [mkP, Bool.and_eq_true, decide_eq_true_eq] at h2
  exact ⟨h1, h2.1⟩
theorem JJ_lf1 (h : JJ B n dc pa va dl ge su vo un an dp sq qq cc dps lts chs cks hds nls wis) (hi : i < 3) (hL : lfB dc an n (hds i) d k = true) : dc k = d ∧ ends (hds i) (nls i) k = true := by
  rw [JJ_lf h hi d k, Bool.and_eq_true, decide_eq_true_eq] at hL
  exact hL
end JW
theorem cL_replicated_x (l : Launch) (D : va_G) (ct : Nat → ClassId) (bd : Nat) (bg : Nat) (ba : Nat) (bt : Nat) (bq : Nat) (bc : Nat) (bm : Nat) (dc : Nat → Nat) (ge : Nat → Nat) (an : Nat → Nat → Bool) (S : Nat → Nat → Bool) (dp : Nat → Nat) (sq : Nat → Nat) (qq : Nat → Nat) (cc : Nat → Nat) (n : Nat) (i : Nat) (j : Nat) (lim : Nat) (x : RP) (hn : n ≤ 24) (hTd : ∀ k, dc k < 4) (hTg : ∀ k, ge k ≤ 150) (hi : i < 3) (hj : j < 3) (hij : i ≠ j) (hdp : dp j ≤ 1000) (hC : ∀ q, cc q ≤ 1000000) (hsq : sq i ≤ 900000) (hQ : ∀ q, qq q ≤ 1000000) (hlim : lim ≤ 4) (hx9 : x = (roS dc an ge n dp i j lim (sq i - stN cc i j) (stN cc i j + 1) (S, sq, qq, 0, 0, stN cc i j))) (sz : Nat) : Met l yL_replicated wsL_replicated ({ frames := 4, cells := 0, slots := 0, locals := 119 } : Room) (wrPc D ct [.ref bd, .ref bg, .ref ba, .ref bt, .ref bq, .ref bc, .ref bm, .int (nI i), .int (nI j), .int (nI lim)] (wAN ct bd 24 dc ++ wAN ct bg 24 ge ++ wAM ct ba 24 an ++ wAT ct bt S dp sq ++ wAN ct bq 12 qq ++ wAN ct bc 27 cc ++ wA1 ct bm n) sz) (wqI D (nI (x.2.2.2.1)) (wAN ct bd 24 dc ++ wAN ct bg 24 ge ++ wAM ct ba 24 an ++ wAT ct bt (x.1) dp (x.2.1) ++ wAN ct bq 12 (x.2.2.1) ++ wAN ct bc 27 (va_up (va_up cc (((9 * i) + (3 * i)) + j) (rpA i x)) (((9 * j) + (3 * i)) + j) (rpA i x)) ++ wA1 ct bm n) (va_A (wAN ct bd 24 dc ++ wAN ct bg 24 ge ++ wAM ct ba 24 an ++ wAT ct bt S dp sq ++ wAN ct bq 12 qq ++ wAN ct bc 27 cc ++ wA1 ct bm n) sz)) 0 0 (va_A (wAN ct bd 24 dc ++ wAN ct bg 24 ge ++ wAM ct ba 24 an ++ wAT ct bt S dp sq ++ wAN ct bq 12 qq ++ wAN ct bc 27 cc ++ wA1 ct bm n) sz) := by
  subst hx9
  exact cL_replicated_ok l D ct bd bg ba bt bq bc bm dc ge an S dp sq qq cc n i j lim hn hTd hTg hi hj hij hdp hC hsq hQ hlim sz
