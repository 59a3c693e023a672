/-! what the methods reckon, in plain words -/
def fct (P : Nat → Bool) : Nat → Nat
  | 0 => 0
  | k + 1 => fct P k + (if P k = true then 1 else 0)
theorem fct_le (P : Nat → Bool) : ∀ n, fct P n ≤ n
  | 0 => Nat.le_refl 0
  | k + 1 => by
    have h := fct_le P k
    unfold fct
    split <;> omega
theorem fct_t {P : Nat → Bool} {k : Nat} (h : P k = true) : fct P (k + 1) = fct P k + 1 := by
  show fct P k + _ = _
  rw [if_pos h]
theorem fct_f {P : Nat → Bool} {k : Nat} (h : P k = false) : fct P (k + 1) = fct P k := by
  show fct P k + _ = _
  rw [if_neg (by rw [h]; decide)]
  rfl
/-- the first number below n with P -/
def ffd (P : Nat → Bool) : Nat → Option Nat
  | 0 => none
  | k + 1 => match ffd P k with
    | some j => some j
    | none => if P k = true then some k else none
theorem ffd_no {P : Nat → Bool} {k : Nat} (h : ffd P k = none) (hp : P k = false) : ffd P (k + 1) = none := by
  simp [ffd, h, hp]
theorem ffd_up {P : Nat → Bool} {k j : Nat} (h : ffd P k = some j) : ∀ i, ffd P (k + i) = some j
  | 0 => h
  | i + 1 => by
    have := ffd_up h i
    show ffd P (k + i + 1) = _
    simp [ffd, this]
theorem ffd_hit {P : Nat → Bool} {k n : Nat} (h : ffd P k = none) (hp : P k = true) (hk : k < n) : ffd P n = some k := by
  have h1 : ffd P (k + 1) = some k := by simp [ffd, h, hp]
  have h2 := ffd_up h1 (n - (k + 1))
  rwa [show k + 1 + (n - (k + 1)) = n by omega] at h2
def fnd (dc : Nat → Nat) (pa : Nat → Option Nat) (va : Nat → Int32) (dl : Nat → Bool) (d : Nat) (o : Option Nat) (v : Int32) (b : Bool) (k : Nat) : Bool := decide (dc k = d) && (decide (eP (pa k) = eP o) && (decide (va k = v) && decide (dl k = b)))
def mkg (ge : Nat → Nat) (o : Option Nat) : Nat := match o with
  | none => 1
  | some j => ge j + 1
def mkh (su : Nat → Int32) (o : Option Nat) : Int32 := match o with
  | none => nI 31
  | some j => nI 31 * su j
def mkr (x : Int32) : Int32 := x - x / nI 997 * nI 997
def mksu (ge : Nat → Nat) (su : Nat → Int32) (o : Option Nat) (v : Int32) (b : Bool) : Int32 := mkr (mkh su o + nI 7 * v + nI (mkg ge o) + (if b = true then nI 3 else nI 0))
def btr (dl : Nat → Bool) (ge : Nat → Nat) (su : Nat → Int32) (i j : Nat) : Bool := if dl i = dl j then (if ge i = ge j then (if su i = su j then decide (i < j) else !decide (su i ≤ su j)) else decide (ge j < ge i)) else dl j
def hasD (nl : Nat → Nat) (k : Nat) : Bool := decide (nl k ≠ 151)
def ends (hd : Nat → Bool) (nl : Nat → Nat) (k : Nat) : Bool := hd k && !hasD nl k
/-- one step of the search for leaves: k tells its parent -/
def flp (pa : Nat → Option Nat) (ge : Nat → Nat) (hd : Nat → Bool) (k : Nat) (x : Nat → Nat) : Nat → Nat := match pa k with
  | none => x
  | some j => va_up x j (min (x j) (if ends hd x k = true then ge k else x k))
def flS (pa : Nat → Option Nat) (ge : Nat → Nat) (hd : Nat → Bool) (n : Nat) : Nat → Nat → Nat
  | 0 => fun _ => 151
  | c + 1 => flp pa ge hd (n - (c + 1)) (flS pa ge hd n c)
theorem flp_n {pa : Nat → Option Nat} {ge : Nat → Nat} {hd : Nat → Bool} {k : Nat} {x : Nat → Nat} (h : pa k = none) : flp pa ge hd k x = x := by simp only [flp, h]
theorem flp_s {pa : Nat → Option Nat} {ge : Nat → Nat} {hd : Nat → Bool} {k j : Nat} {x : Nat → Nat} (h : pa k = some j) : flp pa ge hd k x = va_up x j (min (x j) (if ends hd x k = true then ge k else x k)) := by simp only [flp, h]
theorem flS_le {pa : Nat → Option Nat} {ge : Nat → Nat} {hd : Nat → Bool} {n : Nat} : ∀ (c k : Nat), flS pa ge hd n c k ≤ 151
  | 0, k => Nat.le_refl _
  | c + 1, k => by
    have ih := flS_le (pa := pa) (ge := ge) (hd := hd) (n := n) c
    show flp pa ge hd (n - (c + 1)) (flS pa ge hd n c) k ≤ 151
    cases hp : pa (n - (c + 1)) with
    | none => rw [flp_n hp]; exact ih k
    | some j =>
      rw [flp_s hp]
      by_cases h : k = j
      · subst h
        simp only [va_up, if_true]
        exact Nat.le_trans (Nat.min_le_left _ _) (ih _)
      · simp only [va_up, if_neg h]
        exact ih k
theorem flS_n {pa : Nat → Option Nat} {ge : Nat → Nat} {hd : Nat → Bool} {n c k : Nat} (e : k + (c + 1) = n) (h : pa k = none) : flS pa ge hd n c = flS pa ge hd n (c + 1) := by
  show _ = flp pa ge hd (n - (c + 1)) (flS pa ge hd n c)
  rw [show n - (c + 1) = k by omega, flp_n h]
theorem flS_s {pa : Nat → Option Nat} {ge : Nat → Nat} {hd : Nat → Bool} {n c k j y : Nat} (e : k + (c + 1) = n) (h : pa k = some j) (hy : (if ends hd (flS pa ge hd n c) k = true then ge k else flS pa ge hd n c k) = y) : va_up (flS pa ge hd n c) j (min (flS pa ge hd n c j) y) = flS pa ge hd n (c + 1) := by
  show _ = flp pa ge hd (n - (c + 1)) (flS pa ge hd n c)
  rw [show n - (c + 1) = k by omega, flp_s h, hy]
/-- one step of the search for winners -/
def fwp (dc : Nat → Nat) (dl : Nat → Bool) (ge : Nat → Nat) (su : Nat → Int32) (E : Nat → Bool) (k : Nat) (x : Nat → Option Nat) : Nat → Option Nat :=
  if E k = true then (match x (dc k) with
    | none => va_up x (dc k) (some k)
    | some b => if btr dl ge su k b = true then va_up x (dc k) (some k) else x) else x
def fwS (dc : Nat → Nat) (dl : Nat → Bool) (ge : Nat → Nat) (su : Nat → Int32) (E : Nat → Bool) : Nat → Nat → Option Nat
  | 0 => fun _ => none
  | k + 1 => fwp dc dl ge su E k (fwS dc dl ge su E k)
theorem fwp_x (dc : Nat → Nat) (dl : Nat → Bool) (ge : Nat → Nat) (su : Nat → Int32) (E : Nat → Bool) (k : Nat) (x : Nat → Option Nat) : fwp dc dl ge su E k x = x ∨ fwp dc dl ge su E k x = va_up x (dc k) (some k) := by
  by_cases hE : E k = true
  · cases hx : x (dc k) with
    | none => exact Or.inr (by simp only [fwp, if_pos hE, hx])
    | some b =>
      by_cases hb : btr dl ge su k b = true
      · exact Or.inr (by simp only [fwp, if_pos hE, hx, if_pos hb])
      · exact Or.inl (by simp only [fwp, if_pos hE, hx, if_neg hb])
  · exact Or.inl (by simp only [fwp, if_neg hE])
theorem fwS_lt {dc : Nat → Nat} {dl : Nat → Bool} {ge : Nat → Nat} {su : Nat → Int32} {E : Nat → Bool} : ∀ (k d j : Nat), fwS dc dl ge su E k d = some j → j < k
  | 0, d, j, h => by cases h
  | k + 1, d, j, h => by
    have ih := fwS_lt (dc := dc) (dl := dl) (ge := ge) (su := su) (E := E) k d j
    have h : fwp dc dl ge su E k (fwS dc dl ge su E k) d = some j := h
    rcases fwp_x dc dl ge su E k (fwS dc dl ge su E k) with e | e
    · rw [e] at h
      exact Nat.lt_succ_of_lt (ih h)
    · rw [e] at h
      by_cases hd : d = dc k
      · rw [hd] at h
        simp only [va_up, if_true] at h
        cases h
        exact Nat.lt_succ_self _
      · simp only [va_up, if_neg hd] at h
        exact Nat.lt_succ_of_lt (ih h)
/-- which revision is stemmed -/
def stC (hd : Nat → Bool) (nl ge : Nat → Nat) (dp : Int32) (k : Nat) : Bool := hd k && (hasD nl k && !decide (nI (nl k) - nI (ge k) < dp))
def stm (hd : Nat → Bool) (nl ge : Nat → Nat) (dp : Int32) (n : Nat) : Nat → Bool := fun i => hd i && !(decide (i < n) && stC hd nl ge dp i)
theorem stm_0 (hd : Nat → Bool) (nl ge : Nat → Nat) (dp : Int32) : hd = stm hd nl ge dp 0 := by
  funext i
  simp [stm]
theorem stm_k (hd : Nat → Bool) (nl ge : Nat → Nat) (dp : Int32) (k : Nat) : stm hd nl ge dp k k = hd k := by simp [stm]
theorem stm_f {hd : Nat → Bool} {nl ge : Nat → Nat} {dp : Int32} {k : Nat} (h : stC hd nl ge dp k = false) : stm hd nl ge dp k = stm hd nl ge dp (k + 1) := by
  funext i
  by_cases e : i = k
  · subst e
    simp [stm, h]
  · have e2 : decide (i < k + 1) = decide (i < k) := by
      by_cases q : i < k
      · simp [q, Nat.lt_succ_of_lt q]
      · simp [q]; omega
    simp [stm, e2]
theorem stm_t {hd : Nat → Bool} {nl ge : Nat → Nat} {dp : Int32} {k : Nat} (h : stC hd nl ge dp k = true) : va_up (stm hd nl ge dp k) k false = stm hd nl ge dp (k + 1) := by
  funext i
  by_cases e : i = k
  · subst e
    simp [stm, h, va_up]
  · have e2 : decide (i < k + 1) = decide (i < k) := by
      by_cases q : i < k
      · simp [q, Nat.lt_succ_of_lt q]
      · simp [q]; omega
    simp [stm, e2, va_up, e]
/-- the first k fall -/
def rem (hd : Nat → Bool) (k : Nat) : Nat → Bool := fun i => hd i && !decide (i < k)
theorem rem_0 (hd : Nat → Bool) : hd = rem hd 0 := by
  funext i
  simp [rem]
theorem rem_s (hd : Nat → Bool) (k : Nat) : va_up (rem hd k) k false = rem hd (k + 1) := by
  funext i
  by_cases e : i = k
  · subst e; simp [rem, va_up]
  · have e2 : decide (i < k + 1) = decide (i < k) := by
      by_cases q : i < k
      · simp [q, Nat.lt_succ_of_lt q]
      · simp [q]; omega
    simp [rem, e2, va_up, e]
/-- the first k are united -/
def uni (hd oh : Nat → Bool) (k : Nat) : Nat → Bool := fun i => hd i || (decide (i < k) && oh i)
theorem uni_0 (hd oh : Nat → Bool) : hd = uni hd oh 0 := by
  funext i
  simp [uni]
theorem uni_k (hd oh : Nat → Bool) (k : Nat) : uni hd oh k k = hd k := by simp [uni]
theorem uni_s (hd oh : Nat → Bool) (k : Nat) : va_up (uni hd oh k) k (hd k || oh k) = uni hd oh (k + 1) := by
  funext i
  by_cases e : i = k
  · subst e; simp [uni, va_up]
  · have e2 : decide (i < k + 1) = decide (i < k) := by
      by_cases q : i < k
      · simp [q, Nat.lt_succ_of_lt q]
      · simp [q]; omega
    simp [uni, e2, va_up, e]
/-- a line of ancestors is added -/
def ln (pa : Nat → Option Nat) (oh : Nat → Bool) : Nat → Option Nat → Nat → (Nat → Bool) → Nat × (Nat → Bool)
  | 0, _, c, x => (c, x)
  | _ + 1, none, c, x => (c, x)
  | f + 1, some j, c, x => if (oh j && !x j) = true then ln pa oh f (pa j) (c + 1) (va_up x j true) else ln pa oh f (pa j) c x
theorem ln_none (pa : Nat → Option Nat) (oh : Nat → Bool) (f c : Nat) (x : Nat → Bool) : ln pa oh f none c x = (c, x) := by cases f <;> rfl
theorem ln_t {pa : Nat → Option Nat} {oh : Nat → Bool} {f g j c : Nat} {x : Nat → Bool} (hf : f = g + 1) (h1 : oh j = true) (h2 : x j = false) : ln pa oh f (some j) c x = ln pa oh g (pa j) (c + 1) (va_up x j true) := by
  subst hf
  simp [ln, h1, h2]
theorem ln_f {pa : Nat → Option Nat} {oh : Nat → Bool} {f g j c : Nat} {x : Nat → Bool} (hf : f = g + 1) (h : (oh j && !x j) = false) : ln pa oh f (some j) c x = ln pa oh g (pa j) c x := by
  subst hf
  show (if (oh j && !x j) = true then _ else _) = _
  rw [if_neg (by rw [h]; decide)]
theorem ln_le (pa : Nat → Option Nat) (oh : Nat → Bool) : ∀ (f : Nat) (o : Option Nat) (c : Nat) (x : Nat → Bool), (ln pa oh f o c x).1 ≤ c + f
  | 0, _, c, x => Nat.le_refl _
  | f + 1, none, c, x => by show c ≤ _; omega
  | f + 1, some j, c, x => by
    have h1 := ln_le pa oh f (pa j) (c + 1) (va_up x j true)
    have h2 := ln_le pa oh f (pa j) c x
    unfold ln
    split <;> omega
/-- the branches of a document -/
def abC (dc : Nat → Nat) (oe : Nat → Bool) (nl : Nat → Nat) (d k : Nat) (x : Nat → Bool) : Bool := decide (dc k = d) && (oe k && (!x k && !hasD nl k))
def abp (dc : Nat → Nat) (pa : Nat → Option Nat) (oh oe : Nat → Bool) (nl : Nat → Nat) (d k : Nat) (x : Nat × (Nat → Bool)) : Nat × (Nat → Bool) := if abC dc oe nl d k x.2 = true then (x.1 + (ln pa oh 150 (some k) 0 x.2).1, (ln pa oh 150 (some k) 0 x.2).2) else x
def abS (dc : Nat → Nat) (pa : Nat → Option Nat) (oh oe : Nat → Bool) (nl : Nat → Nat) (d : Nat) (hd : Nat → Bool) : Nat → Nat × (Nat → Bool)
  | 0 => (0, hd)
  | k + 1 => abp dc pa oh oe nl d k (abS dc pa oh oe nl d hd k)
theorem abS_le (dc : Nat → Nat) (pa : Nat → Option Nat) (oh oe : Nat → Bool) (nl : Nat → Nat) (d : Nat) (hd : Nat → Bool) : ∀ k, (abS dc pa oh oe nl d hd k).1 ≤ 150 * k
  | 0 => Nat.le_refl _
  | k + 1 => by
    have h1 := abS_le dc pa oh oe nl d hd k
    have h2 := ln_le pa oh 150 (some k) 0 (abS dc pa oh oe nl d hd k).2
    show (abp _ _ _ _ _ _ _ _).1 ≤ _
    unfold abp
    split
    · show _ + _ ≤ _
      omega
    · omega
theorem abS_t {dc : Nat → Nat} {pa : Nat → Option Nat} {oh oe : Nat → Bool} {nl : Nat → Nat} {d : Nat} {hd : Nat → Bool} {k : Nat} (h : abC dc oe nl d k (abS dc pa oh oe nl d hd k).2 = true) : abS dc pa oh oe nl d hd (k + 1) = ((abS dc pa oh oe nl d hd k).1 + (ln pa oh 150 (some k) 0 (abS dc pa oh oe nl d hd k).2).1, (ln pa oh 150 (some k) 0 (abS dc pa oh oe nl d hd k).2).2) := by
  show abp _ _ _ _ _ _ _ _ = _
  unfold abp
  rw [if_pos h]
theorem abS_f {dc : Nat → Nat} {pa : Nat → Option Nat} {oh oe : Nat → Bool} {nl : Nat → Nat} {d : Nat} {hd : Nat → Bool} {k : Nat} (h : abC dc oe nl d k (abS dc pa oh oe nl d hd k).2 = false) : abS dc pa oh oe nl d hd (k + 1) = abS dc pa oh oe nl d hd k := by
  show abp _ _ _ _ _ _ _ _ = _
  unfold abp
  rw [if_neg (by rw [h]; decide)]
/-- the shown value of a document -/
def shv (dl : Nat → Bool) (va : Nat → Int32) (wi : Nat → Option Nat) (d : Nat) : Int32 := match wi d with
  | none => -1
  | some j => if dl j = true then -1 else va j
def bfC (f : Nat → Int32) (v : Int32) (d o : Nat) : Bool := decide (f o ≠ -1) && (decide (f o < v) || (decide (f o = v) && decide (o < d)))
/-- the document with the least sequence above a number -/
def nxp (ch : Nat → Int32) (a : Int32) (k : Nat) (x : Option Nat) : Option Nat := if ch k ≤ a then x else (match x with
  | none => some k
  | some b => if ch b ≤ ch k then some b else some k)
def nxS (ch : Nat → Int32) (a : Int32) : Nat → Option Nat
  | 0 => none
  | k + 1 => nxp ch a k (nxS ch a k)
theorem nxp_x (ch : Nat → Int32) (a : Int32) (k : Nat) (x : Option Nat) : nxp ch a k x = x ∨ nxp ch a k x = some k := by
  by_cases h : ch k ≤ a
  · exact Or.inl (by simp only [nxp, if_pos h])
  · cases x with
    | none => exact Or.inr (by simp only [nxp, if_neg h])
    | some b =>
      by_cases hb : ch b ≤ ch k
      · exact Or.inl (by simp only [nxp, if_neg h, if_pos hb])
      · exact Or.inr (by simp only [nxp, if_neg h, if_neg hb])
theorem nxS_lt (ch : Nat → Int32) (a : Int32) : ∀ (k j : Nat), nxS ch a k = some j → j < k
  | 0, j, h => by cases h
  | k + 1, j, h => by
    have ih := nxS_lt ch a k
    have h : nxp ch a k (nxS ch a k) = some j := h
    rcases nxp_x ch a k (nxS ch a k) with e | e
    · rw [e] at h
      exact Nat.lt_succ_of_lt (ih _ h)
    · rw [e] at h
      cases h
      exact Nat.lt_succ_self _
/-- the first k are x -/
def fil (f : Nat → Int32) (x : Int32) (k : Nat) : Nat → Int32 := fun j => if j < k then x else f j
theorem fil_0 (f : Nat → Int32) (x : Int32) : f = fil f x 0 := by
  funext j
  simp [fil]
theorem fil_s (f : Nat → Int32) (x : Int32) (k : Nat) : va_up (fil f x k) k x = fil f x (k + 1) := by
  funext i
  by_cases e : i = k
  · subst e; simp [fil, va_up]
  · have e2 : (i < k + 1) = (i < k) := propext ⟨fun h => by omega, fun h => by omega⟩
    simp [fil, e2, va_up, e]
def llC (dc : Nat → Nat) (dl E : Nat → Bool) (d k : Nat) : Bool := decide (dc k = d) && (E k && !dl k)
def ccC (ch : Nat → Int32) (x : Int32) (k : Nat) : Bool := !decide (ch k ≤ x)
