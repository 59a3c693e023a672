/-! lines of ancestors, and the nearest leaves: what both sides reckon with -/
def TV (n : Nat) (dc : Nat → Nat) (pa : Nat → Option Nat) (ge : Nat → Nat) : Prop :=
  n ≤ 150 ∧ (∀ k, dc k < 4) ∧ (∀ k, ge k ≤ 150) ∧ (∀ k j, k < n → pa k = some j → j < k) ∧ (∀ k j, k < n → pa k = some j → dc k = dc j ∧ ge k = ge j + 1) ∧ (∀ k, k < n → ge k ≤ k + 1)
theorem wk_none (pa : Nat → Option Nat) (r : Nat) : ∀ f, wk pa r f none = none
  | 0 => rfl
  | _ + 1 => rfl
theorem wk_fuel {n : Nat} {pa : Nat → Option Nat} {r : Nat} (hTp : ∀ k j, k < n → pa k = some j → j < k) : ∀ (f g j : Nat), j < n → j < f → j < g → wk pa r f (some j) = wk pa r g (some j)
  | 0, _, _, _, h, _ => absurd h (Nat.not_lt_zero _)
  | _ + 1, 0, _, _, _, h => absurd h (Nat.not_lt_zero _)
  | f + 1, g + 1, j, hj, hf, hg => by
    show (if r < j then wk pa r f (pa j) else some j) = (if r < j then wk pa r g (pa j) else some j)
    cases hp : pa j with
    | none => rw [wk_none, wk_none]
    | some q =>
      have := hTp j q hj hp
      rw [wk_fuel hTp f g q (by omega) (by omega) (by omega)]
section ANC
variable {n : Nat} {pa : Nat → Option Nat}
theorem anc_lt {r k : Nat} (h : anc pa r k = true) : r < k := by
  rcases Nat.lt_or_ge r k with q | q
  · exact q
  · rw [anc_le q] at h; cases h
theorem anc_none {r k : Nat} (h : pa k = none) : anc pa r k = false := by
  rcases Nat.lt_or_ge r k with q | q
  · have e : wk pa r 150 (some k) = none := by
      show (if r < k then wk pa r 149 (pa k) else some k) = none
      rw [if_pos q, h, wk_none]
    simp [anc, e]
  · exact anc_le q
theorem anc_step (hn : n ≤ 150) (hTp : ∀ k j, k < n → pa k = some j → j < k) {r k p : Nat} (hk : k < n) (h : pa k = some p) : anc pa r k = (decide (p = r) || anc pa r p) := by
  have hp := hTp k p hk h
  rcases Nat.lt_or_ge r k with q | q
  · have e : wk pa r 150 (some k) = wk pa r 150 (some p) := by
      show (if r < k then wk pa r 149 (pa k) else some k) = _
      rw [if_pos q, h]
      exact wk_fuel hTp 149 150 p (by omega) (by omega) (by omega)
    by_cases e2 : p = r
    · subst e2
      have e3 : wk pa p 150 (some p) = some p := wk_stop (fun j hj => by cases hj; exact Nat.le_refl _) 150
      simp [anc, e, e3]
      omega
    · have e3 : k ≠ r := by omega
      simp [anc, e, e2, e3]
  · rw [anc_le q, anc_le (show p ≤ r by omega)]
    have : p ≠ r := by omega
    simp [this]
theorem anc_iff (hn : n ≤ 150) (hTp : ∀ k j, k < n → pa k = some j → j < k) {r k : Nat} (hk : k < n) : anc pa r k = true ↔ ∃ p, pa k = some p ∧ (p = r ∨ anc pa r p = true) := by
  cases h : pa k with
  | none => rw [anc_none h]; exact ⟨fun z => (by cases z), fun ⟨p, z, _⟩ => (by cases z)⟩
  | some p =>
    rw [anc_step hn hTp hk h, Bool.or_eq_true, decide_eq_true_eq]
    exact ⟨fun z => ⟨p, rfl, z⟩, fun ⟨q, z, y⟩ => by cases z; exact y⟩
theorem anc_trans (hn : n ≤ 150) (hTp : ∀ k j, k < n → pa k = some j → j < k) {r q : Nat} : ∀ (f k : Nat), k < f → k < n → anc pa r q = true → anc pa q k = true → anc pa r k = true
  | 0, _, h, _, _, _ => absurd h (Nat.not_lt_zero _)
  | f + 1, k, hf, hk, h1, h2 => by
    obtain ⟨p, hp, h3⟩ := (anc_iff hn hTp hk).mp h2
    have hpk := hTp k p hk hp
    refine (anc_iff hn hTp hk).mpr ⟨p, hp, Or.inr ?_⟩
    rcases h3 with h3 | h3
    · rw [h3]; exact h1
    · exact anc_trans hn hTp f p (by omega) (by omega) h1 h3
theorem anc_tr (hn : n ≤ 150) (hTp : ∀ k j, k < n → pa k = some j → j < k) {r q k : Nat} (hk : k < n) (h1 : anc pa r q = true) (h2 : anc pa q k = true) : anc pa r k = true := anc_trans hn hTp (k + 1) k (Nat.lt_succ_self _) hk h1 h2
theorem anc_pa (hn : n ≤ 150) (hTp : ∀ k j, k < n → pa k = some j → j < k) {r k : Nat} (hk : k < n) (h : pa k = some r) : anc pa r k = true := (anc_iff hn hTp hk).mpr ⟨r, h, Or.inl rfl⟩
/-- the child of r on the way to k -/
theorem anc_child (hn : n ≤ 150) (hTp : ∀ k j, k < n → pa k = some j → j < k) {r : Nat} : ∀ (f k : Nat), k < f → k < n → anc pa r k = true → ∃ c, c < n ∧ pa c = some r ∧ (c = k ∨ anc pa c k = true)
  | 0, _, h, _, _ => absurd h (Nat.not_lt_zero _)
  | f + 1, k, hf, hk, h => by
    obtain ⟨p, hp, h3⟩ := (anc_iff hn hTp hk).mp h
    have hpk := hTp k p hk hp
    rcases h3 with h3 | h3
    · subst h3
      exact ⟨k, hk, hp, Or.inl rfl⟩
    · obtain ⟨c, c1, c2, c3⟩ := anc_child hn hTp f p (by omega) (by omega) h3
      refine ⟨c, c1, c2, Or.inr ?_⟩
      rcases c3 with c3 | c3
      · subst c3; exact anc_pa hn hTp hk hp
      · exact (anc_iff hn hTp hk).mpr ⟨p, hp, Or.inr c3⟩
theorem anc_congr {pa2 : Nat → Option Nat} (hn : n ≤ 150) (hTp : ∀ k j, k < n → pa k = some j → j < k) (he : ∀ k, k < n → pa2 k = pa k) {r : Nat} : ∀ (f k : Nat), k < f → k < n → anc pa2 r k = anc pa r k
  | 0, _, h, _ => absurd h (Nat.not_lt_zero _)
  | f + 1, k, hf, hk => by
    have hTp2 : ∀ k j, k < n → pa2 k = some j → j < k := fun k j h1 h2 => hTp k j h1 (by rw [← he k h1]; exact h2)
    cases h : pa k with
    | none => rw [anc_none h, anc_none (by rw [he k hk]; exact h)]
    | some p =>
      have hpk := hTp k p hk h
      rw [anc_step hn hTp hk h, anc_step hn hTp2 hk (by rw [he k hk]; exact h), anc_congr hn hTp he f p (by omega) (by omega)]
end ANC
/-- what the nearest leaves tell, held by hd -/
def NL (n : Nat) (pa : Nat → Option Nat) (ge : Nat → Nat) (hd : Nat → Bool) (nl : Nat → Nat) : Prop :=
  (∀ r, nl r ≤ 151) ∧ (∀ r, nl r ≠ 151 ↔ ∃ k, k < n ∧ hd k = true ∧ anc pa r k = true) ∧ (∀ r k, k < n → ends hd nl k = true → anc pa r k = true → nl r ≤ ge k) ∧ (∀ r, nl r ≠ 151 → ∃ k, k < n ∧ ends hd nl k = true ∧ anc pa r k = true ∧ nl r = ge k)
theorem ends_iff {hd : Nat → Bool} {nl : Nat → Nat} {k : Nat} : ends hd nl k = true ↔ hd k = true ∧ nl k = 151 := by
  unfold ends hasD
  by_cases h : nl k = 151 <;> simp [h]
def nv (hd : Nat → Bool) (ge : Nat → Nat) (x : Nat → Nat) (k : Nat) : Nat := if ends hd x k = true then ge k else x k
theorem nv_congr {hd : Nat → Bool} {ge x y : Nat → Nat} {k : Nat} (h : x k = y k) : nv hd ge x k = nv hd ge y k := by
  have e : ends hd x k = ends hd y k := by unfold ends hasD; rw [h]
  unfold nv
  rw [e, h]
section FLS
variable {n : Nat} {pa : Nat → Option Nat} {ge : Nat → Nat} {hd : Nat → Bool}
theorem flS_fix (hTp : ∀ k j, k < n → pa k = some j → j < k) : ∀ c, c ≤ n → (∀ r k, n - c ≤ k → k < n → pa k = some r → flS pa ge hd n c r ≤ nv hd ge (flS pa ge hd n c) k) ∧ (∀ r, flS pa ge hd n c r = 151 ∨ ∃ k, n - c ≤ k ∧ k < n ∧ pa k = some r ∧ flS pa ge hd n c r = nv hd ge (flS pa ge hd n c) k)
  | 0, _ => ⟨fun r k h1 h2 _ => absurd h2 (by omega), fun r => Or.inl rfl⟩
  | c + 1, hc => by
    obtain ⟨g1, g2⟩ := flS_fix hTp c (by omega)
    generalize hx : flS pa ge hd n c = x at g1 g2
    have hk0 : n - (c + 1) < n := by omega
    have hs : ∀ k, n - c ≤ k ↔ n - (c + 1) < k := fun k => by omega
    cases hp : pa (n - (c + 1)) with
    | none =>
      have e : flS pa ge hd n (c + 1) = x := by
        show flp pa ge hd (n - (c + 1)) (flS pa ge hd n c) = x
        rw [flp_n hp, hx]
      rw [e]
      refine ⟨fun r k h1 h2 h3 => ?_, fun r => ?_⟩
      · rcases Nat.lt_or_ge (n - (c + 1)) k with q | q
        · exact g1 r k ((hs k).mpr q) h2 h3
        · rw [show k = n - (c + 1) by omega, hp] at h3; cases h3
      · rcases g2 r with h | ⟨k, h1, h2, h3, h4⟩
        · exact Or.inl h
        · exact Or.inr ⟨k, by omega, h2, h3, h4⟩
    | some j =>
      have hj := hTp _ _ hk0 hp
      obtain ⟨y, hy⟩ : ∃ y, y = min (x j) (nv hd ge x (n - (c + 1))) := ⟨_, rfl⟩
      have e : flS pa ge hd n (c + 1) = va_up x j y := by
        show flp pa ge hd (n - (c + 1)) (flS pa ge hd n c) = _
        rw [flp_s hp, hx, hy]
        rfl
      have ek : ∀ k, n - (c + 1) ≤ k → va_up x j y k = x k := fun k h => by
        have : k ≠ j := by omega
        simp only [va_up, if_neg this]
      have en : ∀ k, n - (c + 1) ≤ k → nv hd ge (va_up x j y) k = nv hd ge x k := fun k h => nv_congr (ek k h)
      have ej : va_up x j y j = y := by simp only [va_up, if_true]
      rw [e]
      refine ⟨fun r k h1 h2 h3 => ?_, fun r => ?_⟩
      · rw [en k h1]
        by_cases hr : r = j
        · subst hr
          rw [ej, hy]
          rcases Nat.lt_or_ge (n - (c + 1)) k with q | q
          · exact Nat.le_trans (Nat.min_le_left _ _) (g1 r k ((hs k).mpr q) h2 h3)
          · rw [show k = n - (c + 1) by omega]
            exact Nat.min_le_right _ _
        · have e3 : va_up x j y r = x r := by simp only [va_up, if_neg hr]
          rw [e3]
          rcases Nat.lt_or_ge (n - (c + 1)) k with q | q
          · exact g1 r k ((hs k).mpr q) h2 h3
          · rw [show k = n - (c + 1) by omega, hp] at h3
            cases h3
            exact absurd rfl hr
      · by_cases hr : r = j
        · subst hr
          rw [ej]
          rcases Nat.le_total (x r) (nv hd ge x (n - (c + 1))) with q | q
          · rw [Nat.min_eq_left q] at hy
            rcases g2 r with h | ⟨k, h1, h2, h3, h4⟩
            · exact Or.inl (hy.trans h)
            · exact Or.inr ⟨k, by omega, h2, h3, by rw [en k (by omega), hy]; exact h4⟩
          · rw [Nat.min_eq_right q] at hy
            exact Or.inr ⟨n - (c + 1), Nat.le_refl _, hk0, hp, by rw [en _ (Nat.le_refl _)]; exact hy⟩
        · have e3 : va_up x j y r = x r := by simp only [va_up, if_neg hr]
          rw [e3]
          rcases g2 r with h | ⟨k, h1, h2, h3, h4⟩
          · exact Or.inl h
          · exact Or.inr ⟨k, by omega, h2, h3, by rw [en k (by omega)]; exact h4⟩
theorem flS_NL (hn : n ≤ 150) (hTp : ∀ k j, k < n → pa k = some j → j < k) (hTg : ∀ k, ge k ≤ 150) : NL n pa ge hd (flS pa ge hd n n) := by
  obtain ⟨g1, g2⟩ := flS_fix (ge := ge) (hd := hd) hTp n (Nat.le_refl _)
  generalize hx : flS pa ge hd n n = x at g1 g2
  have hc : ∀ (f r : Nat), n - r < f → x r ≠ 151 → ∃ k, k < n ∧ ends hd x k = true ∧ anc pa r k = true ∧ x r = ge k := by
    intro f
    induction f with
    | zero => intro r h; exact absurd h (Nat.not_lt_zero _)
    | succ f ih =>
      intro r hf hr
      rcases g2 r with h | ⟨k, -, h2, h3, h4⟩
      · exact absurd h hr
      · have hrk := hTp k r h2 h3
        by_cases he : ends hd x k = true
        · exact ⟨k, h2, he, anc_pa hn hTp h2 h3, by rw [h4]; unfold nv; rw [if_pos he]⟩
        · have h5 : x r = x k := by rw [h4]; unfold nv; rw [if_neg he]
          obtain ⟨q, q1, q2, q3, q4⟩ := ih k (by omega) (by rw [← h5]; exact hr)
          exact ⟨q, q1, q2, anc_tr hn hTp q1 (anc_pa hn hTp h2 h3) q3, by rw [h5]; exact q4⟩
  have hb : ∀ (f r k : Nat), k - r < f → k < n → ends hd x k = true → anc pa r k = true → x r ≤ ge k := by
    intro f
    induction f with
    | zero => intro r k h; exact absurd h (Nat.not_lt_zero _)
    | succ f ih =>
      intro r k hf hk he ha
      obtain ⟨c, c1, c2, c3⟩ := anc_child hn hTp (k + 1) k (Nat.lt_succ_self _) hk ha
      have h1 := g1 r c (by omega) c1 c2
      have hrc := hTp c r c1 c2
      rcases c3 with c3 | c3
      · subst c3
        unfold nv at h1
        rw [if_pos he] at h1
        exact h1
      · have hck := anc_lt c3
        have h2 := ih c k (by omega) hk he c3
        have h3 : x c ≠ 151 := by have := hTg k; omega
        have h4 : ¬ ends hd x c = true := fun z => h3 (ends_iff.mp z).2
        unfold nv at h1
        rw [if_neg h4] at h1
        omega
  have hle : ∀ r, x r ≤ 151 := fun r => by rw [← hx]; exact flS_le n r
  refine ⟨hle, fun r => ⟨fun h => ?_, fun ⟨k, h1, h2, h3⟩ => ?_⟩, fun r k h1 h2 h3 => hb (k - r + 1) r k (Nat.lt_succ_self _) h1 h2 h3, fun r h => hc (n - r + 1) r (Nat.lt_succ_self _) h⟩
  · obtain ⟨k, h1, h2, h3, -⟩ := hc (n - r + 1) r (Nat.lt_succ_self _) h
    exact ⟨k, h1, (ends_iff.mp h2).1, h3⟩
  · by_cases hk : x k = 151
    · have := hb (k - r + 1) r k (Nat.lt_succ_self _) h1 (ends_iff.mpr ⟨h2, hk⟩) h3
      have := hTg k
      omega
    · obtain ⟨q, q1, q2, q3, -⟩ := hc (n - k + 1) k (Nat.lt_succ_self _) hk
      have := hb (q - r + 1) r q (Nat.lt_succ_self _) q1 q2 (anc_tr hn hTp q1 h3 q3)
      have := hTg q
      omega
end FLS
