/-! the view -/
def ky (g : Nat → Option Nat) (o : Nat) : Nat := match g o with
  | none => 1000
  | some y => (4 * y) + o
def cnt (K : Nat → Nat) (t : Nat) : Nat := fct (fun o => decide (K o < t)) 4
def vSh (wi vo : Nat → Option Nat) (d : Nat) : Option Nat := match wi d with
  | none => none
  | some j => vo j
theorem fct_one {P : Nat → Bool} (h : ∀ a b, a < 4 → b < 4 → P a = true → P b = true → a = b) : fct P 4 ≤ 1 := by
  cases hp : any P 4 with
  | false => rw [fct_z hp]; omega
  | true =>
    obtain ⟨d, d1, d2⟩ := any_iff.mp hp
    have h1 := fct_del d1 d2
    have h2 : fct (fun i => P i && !decide (i = d)) 4 = 0 := fct_z (any_no (fun k hk => by
      cases q : P k with
      | false => rfl
      | true => simp [h k d hk d1 q d2]))
    omega
theorem fct_mono {P Q : Nat → Bool} (h : ∀ i, P i = true → Q i = true) : ∀ m, fct P m ≤ fct Q m
  | 0 => Nat.le_refl _
  | m + 1 => by
    have ih := fct_mono h m
    have hm := h m
    show fct P m + (if P m = true then 1 else 0) ≤ fct Q m + (if Q m = true then 1 else 0)
    cases hp : P m <;> cases hq : Q m <;> simp_all <;> omega
theorem cnt_mono {K : Nat → Nat} {a b : Nat} (h : a ≤ b) : cnt K a ≤ cnt K b := fct_mono (fun i hi => by
  rw [decide_eq_true_eq] at hi ⊢
  omega) 4
theorem cnt_s (K : Nat → Nat) (t : Nat) : cnt K (t + 1) = cnt K t + fct (fun o => decide (K o = t)) 4 := by
  unfold cnt
  rw [← fct_or (fun i hi => by
    rw [decide_eq_true_eq] at hi
    simp [hi]) 4]
  refine fct_congr (fun k _ => ?_)
  apply bool_iff
  rw [decide_eq_true_eq, Bool.or_eq_true, decide_eq_true_eq, decide_eq_true_eq]
  omega
theorem cnt_ex {K : Nat → Nat} {T : Nat} (h : ∀ a b, a < 4 → b < 4 → K a < T → K a = K b → a = b) : ∀ t, t ≤ T → ∀ p, p < cnt K t → ∃ d, d < 4 ∧ K d < t ∧ cnt K (K d) = p
  | 0, _, p, hp => by
    have : cnt K 0 = 0 := fct_z (any_no (fun k _ => by simp))
    omega
  | t + 1, ht, p, hp => by
    rcases Nat.lt_or_ge p (cnt K t) with q | q
    · obtain ⟨d, d1, d2, d3⟩ := cnt_ex h t (by omega) p q
      exact ⟨d, d1, by omega, d3⟩
    · have hs := cnt_s K t
      have h1 : fct (fun o => decide (K o = t)) 4 ≤ 1 := fct_one (fun a b ha hb h2 h3 => by
        rw [decide_eq_true_eq] at h2 h3
        exact h a b ha hb (by omega) (by omega))
      have h2 : 0 < fct (fun o => decide (K o = t)) 4 := by omega
      obtain ⟨d, d1, d2⟩ := any_iff.mp (fct_pos.mp h2)
      rw [decide_eq_true_eq] at d2
      exact ⟨d, d1, by omega, by rw [d2]; omega⟩
section VW
variable {g : Nat → Option Nat} {f : Nat → Int32}
theorem ky_inj (hg : ∀ d x, g d = some x → x < 100) : ∀ a b, a < 4 → b < 4 → ky g a < 1000 → ky g a = ky g b → a = b := by
  intro a b ha hb h1 h2
  unfold ky at h1 h2
  cases ea : g a with
  | none => rw [ea] at h1; simp at h1
  | some x =>
    cases eb : g b with
    | none =>
      rw [ea] at h1
      rw [ea, eb] at h2
      simp only at h1 h2
      omega
    | some y =>
      rw [ea, eb] at h2
      simp only at h2
      omega
theorem ky_lt (hg : ∀ d x, g d = some x → x < 100) {d : Nat} (hd : d < 4) : ky g d < 1000 ↔ (g d).isSome = true := by
  unfold ky
  cases e : g d with
  | none => simp
  | some x => have := hg d x e; simp; omega
theorem cnt_all (hg : ∀ d x, g d = some x → x < 100) : cnt (ky g) 1000 = fct (fun d => (g d).isSome) 4 := fct_congr (fun k hk => by
  apply bool_iff
  rw [decide_eq_true_eq]
  exact ky_lt hg hk)
theorem eP_no {o : Option Nat} (h : ∀ x, o = some x → x < 100) : (eP o ≠ -1) ↔ o.isSome = true := by
  cases o with
  | none => exact ⟨fun h => absurd rfl h, fun h => by cases h⟩
  | some x => exact ⟨fun _ => rfl, fun _ => eP_m1 (by have := h x rfl; omega)⟩
/-- the shown documents ahead of d -/
theorem bf_cnt (hf : ∀ d, d < 4 → f d = eP (g d)) (hg : ∀ d x, g d = some x → x < 100) {d x : Nat} (hd : d < 4) (hx : g d = some x) : fct (bfC f (f d) d) 4 = cnt (ky g) (ky g d) := by
  refine fct_congr (fun o ho => ?_)
  have hxb := hg d x hx
  unfold bfC ky
  rw [hf o ho, hf d hd, hx]
  cases e : g o with
  | none =>
    simp only
    have h9 : ¬ 1000 < (4 * x) + d := by omega
    have h8 : ¬ (eP (none : Option Nat) ≠ -1) := fun h => h rfl
    simp [h9, h8]
  | some y =>
    have hyb := hg o y e
    have h8 : eP (some y) ≠ -1 := eP_m1 (by omega)
    have h1 : (eP (some y) < eP (some x)) ↔ y < x := nI_ltI (by omega) (by omega)
    have h2 : (eP (some y) = eP (some x)) ↔ y = x := nI_eq (by omega) (by omega)
    apply bool_iff
    simp only [h8, h1, h2, ne_eq, not_false_eq_true, decide_true, Bool.true_and, Bool.or_eq_true, Bool.and_eq_true, decide_eq_true_eq]
    omega
theorem cnt_le (K : Nat → Nat) (t : Nat) : cnt K t ≤ 4 := fct_le _ 4
theorem pl_iff (hf : ∀ d, d < 4 → f d = eP (g d)) (hg : ∀ d x, g d = some x → x < 100) {p d : Nat} (hp : p < 100) (hd : d < 4) : plC f (nI p) d = true ↔ (g d).isSome = true ∧ cnt (ky g) (ky g d) = p := by
  unfold plC
  rw [Bool.and_eq_true, decide_eq_true_eq, decide_eq_true_eq, hf d hd, eP_no (hg d)]
  cases e : g d with
  | none => simp
  | some x =>
    have h1 := bf_cnt hf hg hd e
    rw [hf d hd, e] at h1
    rw [h1, nI_eq (by have := cnt_le (ky g) (ky g d); omega) (by omega)]
/-- the document at a place -/
theorem pl_ex (hf : ∀ d, d < 4 → f d = eP (g d)) (hg : ∀ d x, g d = some x → x < 100) {p : Nat} (hp : p < fct (fun d => (g d).isSome) 4) : ∃ d x, ffd (plC f (nI p)) 4 = some d ∧ d < 4 ∧ g d = some x ∧ cnt (ky g) (ky g d) = p := by
  have h4 := fct_le (fun d => (g d).isSome) 4
  have hp9 : p < 100 := by omega
  rw [← cnt_all hg] at hp
  obtain ⟨d, d1, d2, d3⟩ := cnt_ex (ky_inj hg) 1000 (Nat.le_refl _) p hp
  have hs := (ky_lt hg d1).mp d2
  cases hq : ffd (plC f (nI p)) 4 with
  | none =>
    have := ffd_none hq d d1
    rw [(pl_iff hf hg hp9 d1).mpr ⟨hs, d3⟩] at this
    cases this
  | some q =>
    obtain ⟨q1, q2⟩ := ffd_lt hq
    obtain ⟨q3, q4⟩ := (pl_iff hf hg hp9 q1).mp q2
    obtain ⟨x, hx⟩ := Option.isSome_iff_exists.mp q3
    exact ⟨q, x, rfl, q1, hx, q4⟩
/-- the key before a place -/
def vbf (f : Nat → Int32) (g : Nat → Option Nat) : Nat → Option Nat
  | 0 => none
  | p + 1 => match ffd (plC f (nI p)) 4 with
    | none => none
    | some d => some (ky g d)
theorem vbf_lt (hf : ∀ d, d < 4 → f d = eP (g d)) (hg : ∀ d x, g d = some x → x < 100) {p d : Nat} (hp : p < fct (fun d => (g d).isSome) 4) (hd : cnt (ky g) (ky g d) = p) : ∀ j, vbf f g p = some j → j < ky g d := by
  intro j hj
  cases p with
  | zero => cases hj
  | succ p =>
    obtain ⟨e, x, e1, e2, e3, e4⟩ := pl_ex hf hg (show p < _ by omega)
    simp only [vbf, e1] at hj
    cases hj
    rcases Nat.lt_or_ge (ky g e) (ky g d) with z | z
    · exact z
    · have := cnt_mono (K := ky g) z
      omega
theorem vbf_s {p d : Nat} (h : ffd (plC f (nI p)) 4 = some d) : vbf f g (p + 1) = some (ky g d) := by simp only [vbf, h]
theorem ct_all (hf : ∀ d, d < 4 → f d = eP (g d)) (hg : ∀ d x, g d = some x → x < 100) : fct (ctC f (nI 0) (nI 99)) 4 = fct (fun d => (g d).isSome) 4 := fct_congr (fun k hk => by
  unfold ctC
  rw [hf k hk]
  cases e : g k with
  | none => rfl
  | some x =>
    have hx := hg k x e
    have h8 : eP (some x) ≠ -1 := eP_m1 (by omega)
    have h1 : ¬ eP (some x) < nI 0 := nI_nlt (Nat.zero_le _) (by omega)
    have h2 : ¬ nI 99 < eP (some x) := nI_nlt (by omega) (by omega)
    simp [h8, h1, h2])
theorem ct_one (hf : ∀ d, d < 4 → f d = eP (g d)) (hg : ∀ d x, g d = some x → x < 100) {d x : Nat} (hd : d < 4) (hx : g d = some x) : 1 ≤ fct (ctC f (nI x) (nI x)) 4 := by
  refine fct_pos.mpr (any_hit hd ?_)
  have hxb := hg d x hx
  unfold ctC
  rw [hf d hd, hx]
  have h8 : eP (some x) ≠ -1 := eP_m1 (by omega)
  have h1 : ¬ eP (some x) < nI x := nI_nlt (Nat.le_refl _) (by omega)
  have h2 : ¬ nI x < eP (some x) := nI_nlt (Nat.le_refl _) (by omega)
  simp [h8, h1, h2]
end VW
