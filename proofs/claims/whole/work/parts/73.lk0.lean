/-! the law's cases with both sides' state -/
theorem inn_s {x : Int32} (h : inn x (nI 0) (nI 2) = true) : ∃ j, j < 3 ∧ x = nI j := by
  simp only [inn, Bool.and_eq_true, Bool.not_eq_true', decide_eq_false_iff_not] at h
  obtain ⟨j, h1, h2⟩ := nI_of2 (x := x) (M := nI 2) (n := 2) (nI_toInt (by decide)) (fun z => h.1 z) (Int32.not_lt.mp h.2)
  exact ⟨j, by omega, h2⟩
theorem inn_d {x : Int32} (h : inn x (nI 0) (nI 3) = true) : ∃ j, j < 4 ∧ x = nI j := by
  simp only [inn, Bool.and_eq_true, Bool.not_eq_true', decide_eq_false_iff_not] at h
  obtain ⟨j, h1, h2⟩ := nI_of2 (x := x) (M := nI 3) (n := 3) (nI_toInt (by decide)) (fun z => h.1 z) (Int32.not_lt.mp h.2)
  exact ⟨j, by omega, h2⟩
theorem inn_v {x : Int32} (h : inn x (nI 0) (nI 99) = true) : ∃ j, j ≤ 99 ∧ x = nI j := by
  simp only [inn, Bool.and_eq_true, Bool.not_eq_true', decide_eq_false_iff_not] at h
  exact nI_of2 (x := x) (M := nI 99) (n := 99) (nI_toInt (by decide)) (fun z => h.1 z) (Int32.not_lt.mp h.2)
theorem inn_k {x : Int32} {n : Nat} (hn : n ≤ 150) (h : inn x (nI 0) (eP (prd n)) = true) : ∃ j, j < n ∧ x = nI j := by
  simp only [inn, Bool.and_eq_true, Bool.not_eq_true', decide_eq_false_iff_not] at h
  cases n with
  | zero =>
    exfalso
    have h1 : ¬ x < 0 := h.1
    have h2 : ¬ (-1 : Int32) < x := h.2
    rw [Int32.lt_iff_toInt_lt] at h1 h2
    have e1 : (0 : Int32).toInt = 0 := by decide
    have e2 : (-1 : Int32).toInt = -1 := by decide
    omega
  | succ q =>
    obtain ⟨j, h1, h2⟩ := nI_of2 (x := x) (M := nI q) (n := q) (nI_toInt (by omega)) (fun z => h.1 z) (Int32.not_lt.mp h.2)
    exact ⟨j, by omega, h2⟩
theorem inn_1 {x : Int32} {n : Nat} (hn : n ≤ 150) (h : inn x (nI 1) (nI n) = true) : ∃ j, 1 ≤ j ∧ j ≤ n ∧ x = nI j := by
  simp only [inn, Bool.and_eq_true, Bool.not_eq_true', decide_eq_false_iff_not] at h
  have h1 : ¬ x < 0 := fun z => h.1 (by
    rw [Int32.lt_iff_toInt_lt] at z ⊢
    have e1 : (0 : Int32).toInt = 0 := by decide
    have e2 : (nI 1).toInt = 1 := by decide
    omega)
  obtain ⟨j, h2, h3⟩ := nI_of2 (x := x) (M := nI n) (n := n) (nI_toInt (by omega)) h1 (Int32.not_lt.mp h.2)
  refine ⟨j, ?_, h2, h3⟩
  rcases Nat.eq_zero_or_pos j with q | q
  · exfalso
    subst q
    subst h3
    exact h.1 (by decide)
  · exact q
theorem up_id {α : Type} (f : Nat → α) (i : Nat) : va_up f i (f i) = f := by
  funext q
  by_cases h : q = i
  · subst h; exact up_s f q (f q)
  · exact up_o f i (f i) h
section LW9
variable {ct : Nat → ClassId} {r a u : Nat → Nat} {sa ha : Nat → Nat → Nat} {o : Nat} {T U M T2 U2 M2 : va_W} {dps lts : Nat → Int32} {chs cks : Nat → Nat → Int32} {hds : Nat → Nat → Bool} {nls : Nat → Nat → Nat} {wis : Nat → Nat → Option Nat} {ov ov2 : Int64} {i j : Nat}
theorem lW_91 (hi : i < 3) {x0 x1 x2 x3 x4 : va_W} : (jnG (lW ct r a u sa ha o T U M dps lts chs cks hds nls wis ov) [10, 0, 1, 3 + 2 * i, 4 + 2 * i] [x0, x1, x2, x3, x4])[9]? = some M := by
  rcases (show i = 0 ∨ i = 1 ∨ i = 2 by omega) with rfl | rfl | rfl <;> rfl
theorem lW_92 (hi : i < 3) (hj : j < 3) {x0 x1 x2 x3 x4 x5 x6 : va_W} : (jnG (lW ct r a u sa ha o T U M dps lts chs cks hds nls wis ov) [10, 0, 1, 3 + 2 * i, 4 + 2 * i, 3 + 2 * j, 4 + 2 * j] [x0, x1, x2, x3, x4, x5, x6])[9]? = some M := by
  rcases (show i = 0 ∨ i = 1 ∨ i = 2 by omega) with rfl | rfl | rfl <;> rcases (show j = 0 ∨ j = 1 ∨ j = 2 by omega) with rfl | rfl | rfl <;> rfl
theorem lW_j000 : jnG (jnG (lW ct r a u sa ha o T U M dps lts chs cks hds nls wis ov) [10, 0, 1] [wO ct o ov2, wR ct r a u sa, T2]) [9] [M2] = lW ct r a u sa ha o T2 U M2 dps lts chs cks hds nls wis ov2 := rfl
theorem lW_j9 : jnG (jnG (lW ct r a u sa ha o T U M dps lts chs cks hds nls wis ov) [10, 0, 1, 2, 3, 4, 5, 6, 7, 8] [wO ct o ov2, wR ct r a u sa, T, U2, wS ct (sa 0) (ha 0) (dps 0) (lts 0) (chs 0) (cks 0), wH ct (ha 0) (hds 0) (nls 0) (wis 0), wS ct (sa 1) (ha 1) (dps 1) (lts 1) (chs 1) (cks 1), wH ct (ha 1) (hds 1) (nls 1) (wis 1), wS ct (sa 2) (ha 2) (dps 2) (lts 2) (chs 2) (cks 2), wH ct (ha 2) (hds 2) (nls 2) (wis 2)]) [9] [M2] = lW ct r a u sa ha o T U2 M2 dps lts chs cks hds nls wis ov2 := rfl
end LW9
theorem LSa_w {p : Program} {l : Launch} {e : Env} {s : State} {m : MethodId} {below : List Frame} {meth : Method} {c : Code} {b : Nat} {D : va_G} {r g : Nat → Nat} {o pc k : Nat} {Ls : List va_W} {cells slots cells2 slots2 : Nat} (h1 : cells2 ≤ cells) (h2 : slots2 ≤ slots) (h : LSa p l e s m below meth c b D r g o pc k Ls cells slots) : LSa p l e s m below meth c b D r g o pc k Ls cells2 slots2 :=
  fun H locs hP hD hS hT ls hl => W.widen h1 h2 (h H locs hP hD hS hT ls hl)
/-- behind a case: any state of both sides that agrees will do -/
def LPs (p : Program) (l : Launch) (e : Env) (s : State) (m : MethodId) (below : List Frame) (meth : Method) (c : Code) (b : Nat) (D : va_G) (ct : Nat → ClassId) (r a u g : Nat → Nat) (sa ha : Nat → Nat → Nat) (o pc k cells slots : Nat) : Prop :=
  ∀ (n : Nat) (dc : Nat → Nat) (pa : Nat → Option Nat) (va : Nat → Int32) (dl : Nat → Bool) (ge : Nat → Nat) (su : Nat → Int32) (hu : Nat → Bool) (nu : Nat → Nat) (wu : Nat → Option Nat) (dps lts : Nat → Int32) (chs cks : Nat → Nat → Int32) (hds : Nat → Nat → Bool) (nls : Nat → Nat → Nat) (wis : Nat → Nat → Option Nat) (mk : Nat → Bool) (dpM sq tc kp : Nat → Int32) (la : Int32) (ov : Int64),
    J n dc pa dl ge su mk dpM sq tc kp dps lts chs cks hds nls wis → LSa p l e s m below meth c b D r g o pc k (lW ct r a u sa ha o (wT ct a n dc pa va dl ge su) (wH ct u hu nu wu) (wM ct g n dc pa va dl ge su mk dpM sq tc kp la) dps lts chs cks hds nls wis ov) cells slots
