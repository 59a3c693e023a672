/-! what the reference's methods reckon, and rows for it -/
def inn (v lo hi : Int32) : Bool := !decide (v < lo) && !decide (hi < v)
theorem inn_t {s h : Nat} (hs : s ≤ h) (hh : h < 2 ^ 31) : inn (nI s) (nI 0) (nI h) = true := by
  have h1 : ¬ nI s < nI 0 := nI_nlt (Nat.zero_le _) (by omega)
  have h2 : ¬ nI h < nI s := nI_nlt hs hh
  simp [inn, h1, h2]
theorem inn_t1 {s h : Nat} (h0 : 1 ≤ s) (hs : s ≤ h) (hh : h < 2 ^ 31) : inn (nI s) (nI 1) (nI h) = true := by
  have h1 : ¬ nI s < nI 1 := nI_nlt h0 (by omega)
  have h2 : ¬ nI h < nI s := nI_nlt hs hh
  simp [inn, h1, h2]
theorem inn_r {r n : Nat} (h : r < n) (hn : n ≤ 150) : inn (nI r) (nI 0) (eP (prd n)) = true := by
  cases n with
  | zero => omega
  | succ j => exact inn_t (h := j) (by omega) (by omega)
def gof (a b c : Bool) : Int32 := if a = true then (if b = true then (if c = true then nI 0 else nI 3) else nI 2) else nI 1
theorem gof0 {a b c : Bool} (h : gof a b c = 0) : (a && (b && c)) = true := by
  cases a <;> cases b <;> cases c <;> first | rfl | exact absurd h (by decide)
theorem gof1 {a b c : Bool} (h : ¬ gof a b c = 0) : (a && (b && c)) = false := by
  cases a <;> cases b <;> cases c <;> first | rfl | exact absurd rfl h
/-- up the parents, while the number is above r -/
def wk (pa : Nat → Option Nat) (r : Nat) : Nat → Option Nat → Option Nat
  | 0, o => o
  | _ + 1, none => none
  | f + 1, some j => if r < j then wk pa r f (pa j) else some j
theorem wk_stop {pa : Nat → Option Nat} {r : Nat} {o : Option Nat} (h : ∀ j, o = some j → j ≤ r) : ∀ f, wk pa r f o = o
  | 0 => rfl
  | f + 1 => by
    cases o with
    | none => rfl
    | some j => simp only [wk, if_neg (Nat.not_lt.mpr (h j rfl))]
theorem wk_up {pa : Nat → Option Nat} {r j g : Nat} (h : r < j) : wk pa r (g + 1) (some j) = wk pa r g (pa j) := by simp only [wk, if_pos h]
def anc (pa : Nat → Option Nat) (r k : Nat) : Bool := decide (wk pa r 150 (some k) = some r) && decide (k ≠ r)
theorem anc_le {pa : Nat → Option Nat} {r k : Nat} (h : k ≤ r) : anc pa r k = false := by
  have h1 : wk pa r 150 (some k) = some k := wk_stop (fun j hj => by cases hj; exact h) 150
  unfold anc
  rw [h1]
  by_cases e : k = r
  · simp [e]
  · simp [e]
/-- whether a number below n has P -/
def any (P : Nat → Bool) : Nat → Bool
  | 0 => false
  | k + 1 => any P k || P k
theorem any_iff {P : Nat → Bool} : ∀ {n : Nat}, any P n = true ↔ ∃ k, k < n ∧ P k = true
  | 0 => ⟨fun h => (by cases h), fun ⟨k, h, _⟩ => absurd h (Nat.not_lt_zero k)⟩
  | n + 1 => by
    show (any P n || P n) = true ↔ _
    rw [Bool.or_eq_true, any_iff (n := n)]
    constructor
    · rintro (⟨k, h1, h2⟩ | h)
      · exact ⟨k, Nat.lt_succ_of_lt h1, h2⟩
      · exact ⟨n, Nat.lt_succ_self n, h⟩
    · rintro ⟨k, h1, h2⟩
      rcases Nat.lt_or_ge k n with q | q
      · exact Or.inl ⟨k, q, h2⟩
      · exact Or.inr (by rw [show n = k by omega]; exact h2)
theorem any_no {P : Nat → Bool} {n : Nat} (h : ∀ k, k < n → P k = false) : any P n = false := by
  cases e : any P n with
  | false => rfl
  | true =>
    obtain ⟨k, h1, h2⟩ := any_iff.mp e
    rw [h k h1] at h2
    cases h2
theorem any_hit {P : Nat → Bool} {k n : Nat} (hk : k < n) (h : P k = true) : any P n = true := any_iff.mpr ⟨k, hk, h⟩
def hsP (pa : Nat → Option Nat) (mk : Nat → Bool) (s r k : Nat) : Bool := mk ((150 * s) + k) && anc pa r k
def lef (pa : Nat → Option Nat) (mk : Nat → Bool) (s n r : Nat) : Bool := mk ((150 * s) + r) && !any (hsP pa mk s r) n
theorem hsP_0 (pa : Nat → Option Nat) (mk : Nat → Bool) (s r : Nat) : any (hsP pa mk s r) (r + 1) = false := any_no (fun k h => by simp [hsP, anc_le (pa := pa) (Nat.le_of_lt_succ h)])
def bsp (dc : Nat → Nat) (dl : Nat → Bool) (ge : Nat → Nat) (su : Nat → Int32) (L : Nat → Bool) (d k : Nat) (x : Option Nat) : Option Nat :=
  if (decide (dc k = d) && L k) = true then (match x with
    | none => some k
    | some b => if btr dl ge su k b = true then some k else some b) else x
def bsS (dc : Nat → Nat) (dl : Nat → Bool) (ge : Nat → Nat) (su : Nat → Int32) (L : Nat → Bool) (d : Nat) : Nat → Option Nat
  | 0 => none
  | k + 1 => bsp dc dl ge su L d k (bsS dc dl ge su L d k)
theorem bsp_x (dc : Nat → Nat) (dl : Nat → Bool) (ge : Nat → Nat) (su : Nat → Int32) (L : Nat → Bool) (d k : Nat) (x : Option Nat) : bsp dc dl ge su L d k x = x ∨ bsp dc dl ge su L d k x = some k := by
  by_cases h : (decide (dc k = d) && L k) = true
  · cases x with
    | none => exact Or.inr (by simp only [bsp, if_pos h])
    | some b =>
      by_cases hb : btr dl ge su k b = true
      · exact Or.inr (by simp only [bsp, if_pos h, if_pos hb])
      · exact Or.inl (by simp only [bsp, if_pos h, if_neg hb])
  · exact Or.inl (by simp only [bsp, if_neg h])
theorem bsS_lt (dc : Nat → Nat) (dl : Nat → Bool) (ge : Nat → Nat) (su : Nat → Int32) (L : Nat → Bool) (d : Nat) : ∀ (k j : Nat), bsS dc dl ge su L d k = some j → j < k
  | 0, j, h => by cases h
  | k + 1, j, h => by
    have ih := bsS_lt dc dl ge su L d k
    have h : bsp dc dl ge su L d k (bsS dc dl ge su L d k) = some j := h
    rcases bsp_x dc dl ge su L d k (bsS dc dl ge su L d k) with e | e
    · rw [e] at h
      exact Nat.lt_succ_of_lt (ih _ h)
    · rw [e] at h
      cases h
      exact Nat.lt_succ_self _
def dpQ (pa : Nat → Option Nat) (mk : Nat → Bool) (s n r k : Nat) : Bool := anc pa r k && lef pa mk s n k
def dpR (pa : Nat → Option Nat) (mk : Nat → Bool) (ge : Nat → Nat) (dp : Nat → Int32) (s n r k : Nat) : Bool := dpQ pa mk s n r k && !decide (nI (ge r) + dp s ≤ nI (ge k))
def dep (pa : Nat → Option Nat) (mk : Nat → Bool) (ge : Nat → Nat) (dp : Nat → Int32) (s n r : Nat) : Bool := any (dpQ pa mk s n r) n && !any (dpR pa mk ge dp s n r) n
theorem dpQ_0 (pa : Nat → Option Nat) (mk : Nat → Bool) (s n r : Nat) : any (dpQ pa mk s n r) (r + 1) = false := any_no (fun k h => by simp [dpQ, anc_le (pa := pa) (Nat.le_of_lt_succ h)])
theorem dpR_0 (pa : Nat → Option Nat) (mk : Nat → Bool) (ge : Nat → Nat) (dp : Nat → Int32) (s n r : Nat) : any (dpR pa mk ge dp s n r) (r + 1) = false := any_no (fun k h => by simp [dpR, dpQ, anc_le (pa := pa) (Nat.le_of_lt_succ h)])
def smp (pa : Nat → Option Nat) (ge : Nat → Nat) (dp : Nat → Int32) (s n k : Nat) (x : Nat × (Nat → Bool)) : Nat × (Nat → Bool) := if (x.2 ((150 * s) + k) && dep pa x.2 ge dp s n k) = true then (x.1 + 1, va_up x.2 ((150 * s) + k) false) else x
def smS (pa : Nat → Option Nat) (ge : Nat → Nat) (dp : Nat → Int32) (s n : Nat) (mk : Nat → Bool) : Nat → Nat × (Nat → Bool)
  | 0 => (0, mk)
  | k + 1 => smp pa ge dp s n k (smS pa ge dp s n mk k)
theorem smS_t {pa : Nat → Option Nat} {ge : Nat → Nat} {dp : Nat → Int32} {s n : Nat} {mk : Nat → Bool} {k : Nat} (h1 : (smS pa ge dp s n mk k).2 ((150 * s) + k) = true) (h2 : dep pa (smS pa ge dp s n mk k).2 ge dp s n k = true) : smS pa ge dp s n mk (k + 1) = ((smS pa ge dp s n mk k).1 + 1, va_up (smS pa ge dp s n mk k).2 ((150 * s) + k) false) := by
  show smp pa ge dp s n k _ = _
  unfold smp
  rw [if_pos (by rw [h1, h2]; rfl)]
theorem smS_f {pa : Nat → Option Nat} {ge : Nat → Nat} {dp : Nat → Int32} {s n : Nat} {mk : Nat → Bool} {k : Nat} (h : ((smS pa ge dp s n mk k).2 ((150 * s) + k) && dep pa (smS pa ge dp s n mk k).2 ge dp s n k) = false) : smS pa ge dp s n mk (k + 1) = smS pa ge dp s n mk k := by
  show smp pa ge dp s n k _ = _
  unfold smp
  rw [if_neg (by rw [h]; decide)]
def cne (dc : Nat → Nat) (L : Nat → Bool) (b : Option Nat) (n d : Nat) (o : Option Nat) : Bool := (match o with
  | none => decide (b = none)
  | some r => decide (dc r = d) && L r) && decide (n < 150)
def bN (b : Bool) : Nat := if b = true then 1 else 0
/-- a line of ancestors, in the row of marks: f the first store, t the other -/
def lm (pa : Nat → Option Nat) (f t : Nat) : Nat → Option Nat → Nat → (Nat → Bool) → Nat × (Nat → Bool)
  | 0, _, c, x => (c, x)
  | _ + 1, none, c, x => (c, x)
  | g + 1, some j, c, x => lm pa f t g (pa j) (c + bN (x ((150 * f) + j) && !x ((150 * t) + j))) (va_up x ((150 * t) + j) ((x ((150 * f) + j) && !x ((150 * t) + j)) || x ((150 * t) + j)))
theorem lm_none (pa : Nat → Option Nat) (f t g c : Nat) (x : Nat → Bool) : lm pa f t g none c x = (c, x) := by cases g <;> rfl
def gtC (dc : Nat → Nat) (pa : Nat → Option Nat) (f t n d k : Nat) (x : Nat → Bool) : Bool := decide (dc k = d) && (lef pa x f n k && (!x ((150 * t) + k) && !any (hsP pa x t k) n))
def gtp (dc : Nat → Nat) (pa : Nat → Option Nat) (f t n d k : Nat) (x : Nat × (Nat → Bool)) : Nat × (Nat → Bool) := if gtC dc pa f t n d k x.2 = true then lm pa f t 150 (some k) x.1 x.2 else x
def gtS (dc : Nat → Nat) (pa : Nat → Option Nat) (f t n d : Nat) (mk : Nat → Bool) : Nat → Nat × (Nat → Bool)
  | 0 => (0, mk)
  | k + 1 => gtp dc pa f t n d k (gtS dc pa f t n d mk k)
theorem bN_le (b : Bool) : bN b ≤ 1 := by cases b <;> decide
theorem lm_le (pa : Nat → Option Nat) (f t : Nat) : ∀ (g : Nat) (o : Option Nat) (c : Nat) (x : Nat → Bool), (lm pa f t g o c x).1 ≤ c + g
  | 0, _, c, x => Nat.le_refl _
  | g + 1, none, c, x => by show c ≤ _; omega
  | g + 1, some j, c, x => by
    have h1 := lm_le pa f t g (pa j) (c + bN (x ((150 * f) + j) && !x ((150 * t) + j))) (va_up x ((150 * t) + j) ((x ((150 * f) + j) && !x ((150 * t) + j)) || x ((150 * t) + j)))
    have h2 := bN_le (x ((150 * f) + j) && !x ((150 * t) + j))
    show (lm pa f t g (pa j) _ _).1 ≤ _
    omega
theorem gtS_le (dc : Nat → Nat) (pa : Nat → Option Nat) (f t n d : Nat) (mk : Nat → Bool) : ∀ k, (gtS dc pa f t n d mk k).1 ≤ 150 * k
  | 0 => Nat.le_refl _
  | k + 1 => by
    have h1 := gtS_le dc pa f t n d mk k
    have h2 := lm_le pa f t 150 (some k) (gtS dc pa f t n d mk k).1 (gtS dc pa f t n d mk k).2
    show (gtp dc pa f t n d k _).1 ≤ _
    unfold gtp
    split <;> omega
def lkC (kp : Nat → Int32) (f t : Nat) : Int32 := if kp ((9 * t) + (3 * f) + t) ≤ kp ((9 * f) + (3 * f) + t) then kp ((9 * t) + (3 * f) + t) else kp ((9 * f) + (3 * f) + t)
section RWS3
variable {p : Program} {l : Launch} {e : Env} {R : Room} {s : State} {m : MethodId} {args : Array Value} {below : List Frame} {meth : Method} {c : Code} {H : Heap} {locs : List Loc} {cells slots : Nat} {Q : State → Prop}
variable {cc : ByteArray} {pc : Nat} {ls : Array Slot} {rest : List Value}
theorem r_icmp_leP (hexec : p.tables.exec = Jvm.exec) (hb : c.code = cc) {x : Option Nat} {y : Nat} (hx : ∀ j, x = some j → j < 2 ^ 31) (hy : y < 2 ^ 31) {off : Int} {tgt : Nat} (hdg : decode cc pc = .ok (.if_icmp .le off, 3)) (ht : (pc : Int) + off = (tgt : Int))
    (kt : (∀ j, x = some j → j ≤ y) → W p l e R s m args below meth c H locs cells slots Q (F0 m tgt ls rest)) (kf : ∀ j, x = some j → y < j → W p l e R s m args below meth c H locs cells slots Q (F0 m (pc + 3) ls rest)) : W p l e R s m args below meth c H locs cells slots Q (F0 m pc ls (.int (nI y) :: .int (eP x) :: rest)) := by
  cases x with
  | none =>
    refine lv_icmp_le hexec hb hdg ht (fun _ => kt (fun j h => by cases h)) (fun h => absurd ?_ h)
    have h1 : (0 : Int32) ≤ nI y := nI_pos' hy
    have h2 : (eP none).toInt = -1 := by decide
    have h3 : (nI y).toInt = (y : Int) := nI_toInt hy
    show (eP none) ≤ nI y
    rw [Int32.le_iff_toInt_le, h2, h3]
    omega
  | some j =>
    refine lv_icmp_le hexec hb hdg ht (fun h => kt (fun i hi => ?_)) (fun h => kf j rfl (Nat.lt_of_not_le (fun z => h ((nI_leI (hx j rfl) hy).mpr z))))
    cases hi
    exact (nI_leI (hx j rfl) hy).mp h
theorem r_icmp_nePN (hexec : p.tables.exec = Jvm.exec) (hb : c.code = cc) {x : Option Nat} {y : Nat} (hx : ∀ j, x = some j → j < 2 ^ 31) (hy : y < 2 ^ 31) {off : Int} {tgt : Nat} (hdg : decode cc pc = .ok (.if_icmp .ne off, 3)) (ht : (pc : Int) + off = (tgt : Int))
    (kt : ¬ x = some y → W p l e R s m args below meth c H locs cells slots Q (F0 m tgt ls rest)) (kf : x = some y → W p l e R s m args below meth c H locs cells slots Q (F0 m (pc + 3) ls rest)) : W p l e R s m args below meth c H locs cells slots Q (F0 m pc ls (.int (nI y) :: .int (eP x) :: rest)) := by
  have e0 : eP x = nI y ↔ x = some y := eP_inj (b := some y) hx (fun j h => by cases h; exact hy)
  exact lv_icmp_ne hexec hb hdg ht (fun h => kt (fun z => h (e0.mpr z))) (fun h => kf (e0.mp h))
end RWS3
theorem up_Tp {n : Nat} {pa : Nat → Option Nat} {o : Option Nat} (hTp : ∀ k j, k < n → pa k = some j → j < k) (ho : ∀ j, o = some j → j < n) : ∀ k j, k < n + 1 → va_up pa n o k = some j → j < k := by
  intro k j hk h
  by_cases e : k = n
  · subst e
    simp only [va_up, if_true] at h
    exact ho j h
  · simp only [va_up, if_neg e] at h
    exact hTp k j (by omega) h
theorem up_Tg {n x : Nat} {ge : Nat → Nat} (hTg : ∀ k, ge k ≤ 150) (hx : x ≤ 150) : ∀ k, va_up ge n x k ≤ 150 := by
  intro k
  by_cases e : k = n
  · simp only [va_up, if_pos e]; exact hx
  · simp only [va_up, if_neg e]; exact hTg k
theorem up_Td {n x : Nat} {dc : Nat → Nat} (hTd : ∀ k, dc k < 4) (hx : x < 4) : ∀ k, va_up dc n x k < 4 := by
  intro k
  by_cases e : k = n
  · simp only [va_up, if_pos e]; exact hx
  · simp only [va_up, if_neg e]; exact hTd k
def mrw (mk : Nat → Bool) (i k : Nat) : Bool := mk ((150 * i) + k)
def remM (mk : Nat → Bool) (i k : Nat) : Nat → Bool := fun q => mk q && !(decide (150 * i ≤ q) && decide (q < 150 * i + k))
theorem remM_0 (mk : Nat → Bool) (i : Nat) : mk = remM mk i 0 := by
  funext q
  have : (decide (150 * i ≤ q) && decide (q < 150 * i + 0)) = false := by
    by_cases h : 150 * i ≤ q
    · simp [h]
    · simp [h]
  simp only [remM, this, Bool.not_false, Bool.and_true]
theorem remM_k (mk : Nat → Bool) (i k : Nat) : remM mk i k ((150 * i) + k) = mrw mk i k := by simp [remM, mrw]
theorem remM_s (mk : Nat → Bool) (i k : Nat) : va_up (remM mk i k) ((150 * i) + k) false = remM mk i (k + 1) := by
  funext q
  by_cases e : q = 150 * i + k
  · subst e; simp [remM, va_up]
  · have e2 : (decide (150 * i ≤ q) && decide (q < 150 * i + (k + 1))) = (decide (150 * i ≤ q) && decide (q < 150 * i + k)) := by
      by_cases h1 : 150 * i ≤ q
      · by_cases h2 : q < 150 * i + k
        · simp [h1, h2]; omega
        · simp [h1, h2]; omega
      · simp [h1]
    simp only [va_up, if_neg e, remM, e2]
def clr (f : Nat → Int32) (a k : Nat) : Nat → Int32 := fun q => if a ≤ q ∧ q < a + k then nI 0 else f q
theorem clr_0 (f : Nat → Int32) (a : Nat) : f = clr f a 0 := by
  funext q
  have : ¬ (a ≤ q ∧ q < a + 0) := by omega
  simp only [clr, if_neg this]
theorem clr_s (f : Nat → Int32) (a k : Nat) : va_up (clr f a k) (a + k) (nI 0) = clr f a (k + 1) := by
  funext q
  by_cases e : q = a + k
  · have h : a ≤ q ∧ q < a + (k + 1) := by omega
    simp only [va_up, if_pos e, clr, if_pos h]
  · by_cases h : a ≤ q ∧ q < a + k
    · have h2 : a ≤ q ∧ q < a + (k + 1) := by omega
      simp only [va_up, if_neg e, clr, if_pos h, if_pos h2]
    · have h2 : ¬ (a ≤ q ∧ q < a + (k + 1)) := by omega
      simp only [va_up, if_neg e, clr, if_neg h, if_neg h2]
def tcr (tc : Nat → Int32) (i k : Nat) : Int32 := tc ((4 * i) + k)
