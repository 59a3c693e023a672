/-! an int as a set of numbers below 24 -/
def msk (P : Nat → Bool) : Nat → Nat
  | 0 => 0
  | n + 1 => 2 * msk (fun i => P (i + 1)) n + (if P 0 = true then 1 else 0)
theorem msk_lt : ∀ (n : Nat) (P : Nat → Bool), msk P n < 2 ^ n
  | 0, _ => by show 0 < 1; omega
  | n + 1, P => by
    have h := msk_lt n (fun i => P (i + 1))
    have e : 2 ^ (n + 1) = 2 * 2 ^ n := by rw [Nat.pow_succ]; omega
    show 2 * msk (fun i => P (i + 1)) n + (if P 0 = true then 1 else 0) < _
    split <;> omega
theorem tb0 (a b : Nat) (hb : b < 2) : (2 * a + b).testBit 0 = decide (b = 1) := by
  rw [Nat.testBit_zero]
  have : (2 * a + b) % 2 = b := by omega
  rw [this]
theorem tbS (a b i : Nat) (hb : b < 2) : (2 * a + b).testBit (i + 1) = a.testBit i := by
  rw [Nat.testBit_succ]
  have : (2 * a + b) / 2 = a := by omega
  rw [this]
theorem msk_tb : ∀ (n : Nat) (P : Nat → Bool) (i : Nat), (msk P n).testBit i = (decide (i < n) && P i)
  | 0, P, i => by simp [msk]
  | n + 1, P, 0 => by
    show (2 * msk (fun i => P (i + 1)) n + (if P 0 = true then 1 else 0)).testBit 0 = _
    rw [tb0 _ _ (by split <;> omega)]
    cases P 0 <;> simp
  | n + 1, P, i + 1 => by
    show (2 * msk (fun i => P (i + 1)) n + (if P 0 = true then 1 else 0)).testBit (i + 1) = _
    rw [tbS _ _ _ (by split <;> omega), msk_tb n]
    simp
theorem msk_c {P Q : Nat → Bool} : ∀ {n : Nat}, (∀ i, i < n → P i = Q i) → msk P n = msk Q n := by
  intro n h
  apply Nat.eq_of_testBit_eq
  intro i
  rw [msk_tb, msk_tb]
  by_cases hi : i < n
  · rw [h i hi]
  · simp [hi]
theorem and2 (a b c d : Nat) (hb : b < 2) (hd : d < 2) : (2 * a + b) &&& (2 * c + d) = 2 * (a &&& c) + (if b = 1 ∧ d = 1 then 1 else 0) := by
  apply Nat.eq_of_testBit_eq
  intro i
  rw [Nat.testBit_and]
  cases i with
  | zero =>
    rw [tb0 _ _ hb, tb0 _ _ hd, tb0 _ _ (by split <;> omega)]
    by_cases h1 : b = 1 <;> by_cases h2 : d = 1 <;> simp [h1, h2]
  | succ i =>
    rw [tbS _ _ _ hb, tbS _ _ _ hd, tbS _ _ _ (by split <;> omega), Nat.testBit_and]
/-- the lowest one goes -/
theorem msk_dec : ∀ (n : Nat) (P : Nat → Bool), msk P n ≠ 0 → ∃ k, k < n ∧ P k = true ∧ msk P n &&& (msk P n - 1) = msk (fun i => P i && !decide (i = k)) n
  | 0, _, h => absurd rfl h
  | n + 1, P, h => by
    by_cases h0 : P 0 = true
    · refine ⟨0, Nat.succ_pos n, h0, ?_⟩
      have e1 : msk P (n + 1) = 2 * msk (fun i => P (i + 1)) n + 1 := by
        show _ + (if P 0 = true then 1 else 0) = _
        rw [if_pos h0]
      have e2 : msk P (n + 1) - 1 = 2 * msk (fun i => P (i + 1)) n + 0 := by omega
      rw [e2, e1, and2 _ _ _ _ (by omega) (by omega), Nat.and_self]
      show _ = 2 * msk (fun i => P (i + 1) && !decide (i + 1 = 0)) n + (if (P 0 && !decide (0 = 0)) = true then 1 else 0)
      rw [msk_c (P := fun i => P (i + 1) && !decide (i + 1 = 0)) (Q := fun i => P (i + 1)) (fun i _ => by simp)]
      simp
    · have e1 : msk P (n + 1) = 2 * msk (fun i => P (i + 1)) n + 0 := by
        show _ + (if P 0 = true then 1 else 0) = _
        rw [if_neg h0]
      have hz : msk (fun i => P (i + 1)) n ≠ 0 := fun z => h (by rw [e1, z])
      obtain ⟨k, k1, k2, k3⟩ := msk_dec n _ hz
      refine ⟨k + 1, by omega, k2, ?_⟩
      have e2 : msk P (n + 1) - 1 = 2 * (msk (fun i => P (i + 1)) n - 1) + 1 := by omega
      rw [e2, e1, and2 _ _ _ _ (by omega) (by omega), k3]
      show _ = 2 * msk (fun i => P (i + 1) && !decide (i + 1 = k + 1)) n + (if (P 0 && !decide (0 = k + 1)) = true then 1 else 0)
      rw [msk_c (P := fun i => P (i + 1) && !decide (i + 1 = k + 1)) (Q := fun i => P (i + 1) && !decide (i = k)) (fun i _ => by simp)]
      simp [h0]
theorem bt_nI (x i : Nat) : bt (nI x) i = (decide (i < 32) && x.testBit i) := by
  show (BitVec.ofNat 32 x).getLsbD i = _
  rw [BitVec.getLsbD_ofNat]
theorem bt_msk (P : Nat → Bool) (i : Nat) : bt (nI (msk P 24)) i = (decide (i < 24) && P i) := by
  rw [bt_nI, msk_tb]
  by_cases h : i < 24
  · have : i < 32 := by omega
    simp [h, this]
  · simp [h]
theorem mM_ex (P : Nat → Bool) : ∃ x : Int32, ∀ i, bt x i = (decide (i < 24) && P i) := ⟨nI (msk P 24), bt_msk P⟩
/-- by choice, so that nothing tries to reckon it out -/
noncomputable def mM (P : Nat → Bool) : Int32 := Classical.choose (mM_ex P)
theorem mM_bt (P : Nat → Bool) (i : Nat) : bt (mM P) i = (decide (i < 24) && P i) := Classical.choose_spec (mM_ex P) i
theorem mM_eq (P : Nat → Bool) : mM P = nI (msk P 24) := b_ext (fun i _ => by rw [mM_bt, bt_msk])
theorem mM_lt (P : Nat → Bool) : msk P 24 < 2 ^ 24 := msk_lt 24 P
theorem mM_c {P Q : Nat → Bool} (h : ∀ i, i < 24 → P i = Q i) : mM P = mM Q := by
  rw [mM_eq, mM_eq, msk_c h]
theorem mM_i {P Q : Nat → Bool} (h : mM P = mM Q) : ∀ i, i < 24 → P i = Q i := by
  intro i hi
  have h1 := congrArg (fun x => bt x i) h
  simp only [mM_bt] at h1
  simpa [hi] using h1
theorem mM_0 : nI 0 = mM (fun _ => false) := by
  apply b_ext
  intro i _
  rw [mM_bt]
  show bt 0 i = _
  rw [b_0]
  simp
theorem mM_0' : (fun _ : Nat => nI 0) = fun q9 => mM ((fun (_ _ : Nat) => false) q9) := funext fun _ => mM_0
theorem bt_1 : ∀ i, i < 32 → bt (nI 1) i = decide (i = 0) := by decide +kernel
theorem bt_bI (b : Bool) {i : Nat} (hi : i < 32) : bt (bI b) i = (decide (i = 0) && b) := by
  cases b
  · show bt 0 i = _
    rw [b_0]; simp
  · show bt (nI 1) i = _
    rw [bt_1 i hi]; simp
theorem mM_tst (P : Nat → Bool) {k : Nat} (hk : k < 24) : (mM P >>> (nI k &&& 31)) &&& nI 1 = bI (P k) := by
  apply b_ext
  intro i hi
  rw [b_and, b_sshr k (by omega) _ hi, bt_1 i hi, bt_bI _ hi]
  by_cases h : i = 0
  · subst h
    have : k + 0 < 32 := by omega
    rw [if_pos this, mM_bt]
    simp [hk]
  · simp [h]
def mOr (P Q : Nat → Bool) : Nat → Bool := fun i => P i || Q i
def mAnd (P Q : Nat → Bool) : Nat → Bool := fun i => P i && Q i
def mNd (P Q : Nat → Bool) : Nat → Bool := fun i => P i && !Q i
def sgl (k : Nat) (b : Bool) : Nat → Bool := fun i => decide (i = k) && b
theorem mM_or (P Q : Nat → Bool) : mM P ||| mM Q = mM (mOr P Q) := by
  apply b_ext
  intro i hi
  rw [b_or, mM_bt, mM_bt, mM_bt]
  by_cases h : i < 24 <;> simp [h, mOr]
theorem mM_and (P Q : Nat → Bool) : mM P &&& mM Q = mM (mAnd P Q) := by
  apply b_ext
  intro i hi
  rw [b_and, mM_bt, mM_bt, mM_bt]
  by_cases h : i < 24 <;> simp [h, mAnd]
theorem mM_nd (P Q : Nat → Bool) : mM P &&& (mM Q ^^^ (-1)) = mM (mNd P Q) := by
  apply b_ext
  intro i hi
  rw [b_and, b_xor, mM_bt, mM_bt, mM_bt, b_m1 i hi]
  by_cases h : i < 24 <;> simp [h, mNd]
theorem mM_or0 (P : Nat → Bool) : mM P ||| nI 0 = mM P := by
  rw [mM_0, mM_or]
  exact mM_c (fun i _ => by simp [mOr])
theorem mM_shl (b : Bool) {k : Nat} (hk : k < 24) : bI b <<< (nI k &&& 31) = mM (sgl k b) := by
  apply b_ext
  intro i hi
  rw [b_shl k (by omega) _ hi, mM_bt, bt_bI _ (by omega)]
  by_cases h : i = k
  · subst h; simp [sgl, hk]
  · by_cases h2 : k ≤ i
    · have : ¬ i - k = 0 := by omega
      simp [sgl, h, this]
    · simp [sgl, h, h2]
theorem mM_shl1 {k : Nat} (hk : k < 24) : nI 1 <<< (nI k &&& 31) = mM (sgl k true) := mM_shl true hk
theorem bI_or (a b : Bool) : bI a ||| bI b = bI (a || b) := by cases a <;> cases b <;> decide
theorem msk_z {P : Nat → Bool} {n : Nat} : msk P n = 0 ↔ any P n = false := by
  constructor
  · intro h
    refine any_no (fun k hk => ?_)
    have := msk_tb n P k
    rw [h, Nat.zero_testBit] at this
    simpa [hk] using this.symm
  · intro h
    apply Nat.eq_of_testBit_eq
    intro i
    rw [msk_tb, Nat.zero_testBit]
    by_cases hi : i < n
    · cases hp : P i with
      | false => simp
      | true => rw [any_hit hi hp] at h; cases h
    · simp [hi]
theorem mM_z {P : Nat → Bool} : mM P = 0 ↔ any P 24 = false := by
  have h24 := mM_lt P
  rw [← msk_z, mM_eq]
  exact nI_eq (by omega) (by omega) (b := 0)
theorem mM_dec {P : Nat → Bool} (h : any P 24 = true) : ∃ k, k < 24 ∧ P k = true ∧ mM P &&& (mM P - nI 1) = mM (fun i => P i && !decide (i = k)) := by
  have hz : msk P 24 ≠ 0 := fun z => by rw [msk_z.mp z] at h; cases h
  obtain ⟨k, k1, k2, k3⟩ := msk_dec 24 P hz
  refine ⟨k, k1, k2, ?_⟩
  rw [mM_eq, mM_eq, pk_sub (by omega), nx_and, k3]
theorem fct_del {P : Nat → Bool} {k : Nat} : ∀ {n : Nat}, k < n → P k = true → fct (fun i => P i && !decide (i = k)) n + 1 = fct P n
  | 0, h, _ => absurd h (Nat.not_lt_zero _)
  | n + 1, h, hp => by
    by_cases e : k = n
    · subst e
      have e1 : fct (fun i => P i && !decide (i = k)) k = fct P k := fct_congr (fun i hi => by
        have : ¬ i = k := by omega
        simp [this])
      rw [fct_t hp, fct_f (by simp), e1]
    · have ih := fct_del (n := n) (by omega) hp
      have e1 : (P n && !decide (n = k)) = P n := by
        have : ¬ n = k := fun z => e z.symm
        simp [this]
      show fct _ n + (if (P n && !decide (n = k)) = true then 1 else 0) + 1 = fct P n + (if P n = true then 1 else 0)
      rw [e1]
      omega
theorem fct_z {P : Nat → Bool} {n : Nat} (h : any P n = false) : fct P n = 0 := by
  induction n with
  | zero => rfl
  | succ n ih =>
    have h2 : (any P n || P n) = false := h
    rw [Bool.or_eq_false_iff] at h2
    rw [fct_f h2.2, ih h2.1]
theorem fct_pos {P : Nat → Bool} {n : Nat} : 0 < fct P n ↔ any P n = true := by
  induction n with
  | zero => exact ⟨fun h => absurd h (Nat.lt_irrefl _), fun h => by cases h⟩
  | succ n ih =>
    show 0 < fct P n + (if P n = true then 1 else 0) ↔ (any P n || P n) = true
    rw [Bool.or_eq_true, ← ih]
    cases P n <;> simp
section RWM
variable {p : Program} {l : Launch} {e : Env} {R : Room} {s : State} {m : MethodId} {args : Array Value} {below : List Frame} {meth : Method} {c : Code} {H : Heap} {locs : List Loc} {cells slots : Nat} {Q : State → Prop}
variable {cc : ByteArray} {pc : Nat} {ls : Array Slot} {rest st : List Value}
theorem r_if_eqM (hexec : p.tables.exec = Jvm.exec) (hb : c.code = cc) {P : Nat → Bool} {off : Int} {tgt : Nat} (hdg : decode cc pc = .ok (.ifCond .eq off, 3)) (ht : (pc : Int) + off = (tgt : Int))
    (kt : any P 24 = false → W p l e R s m args below meth c H locs cells slots Q (F0 m tgt ls rest)) (kf : any P 24 = true → W p l e R s m args below meth c H locs cells slots Q (F0 m (pc + 3) ls rest)) : W p l e R s m args below meth c H locs cells slots Q (F0 m pc ls (.int (mM P) :: rest)) :=
  lv_if_eq hexec hb hdg ht (fun h => kt (mM_z.mp h)) (fun h => kf (by
    cases q : any P 24 with
    | true => rfl
    | false => exact absurd (mM_z.mpr q) h))
theorem r_if_neM (hexec : p.tables.exec = Jvm.exec) (hb : c.code = cc) {P : Nat → Bool} {off : Int} {tgt : Nat} (hdg : decode cc pc = .ok (.ifCond .ne off, 3)) (ht : (pc : Int) + off = (tgt : Int))
    (kt : any P 24 = true → W p l e R s m args below meth c H locs cells slots Q (F0 m tgt ls rest)) (kf : any P 24 = false → W p l e R s m args below meth c H locs cells slots Q (F0 m (pc + 3) ls rest)) : W p l e R s m args below meth c H locs cells slots Q (F0 m pc ls (.int (mM P) :: rest)) :=
  lv_if_ne hexec hb hdg ht (fun h => kt (by
    cases q : any P 24 with
    | true => rfl
    | false => exact absurd (mM_z.mpr q) h)) (fun h => kf (mM_z.mp h))
theorem r_icmp_neB1 (hexec : p.tables.exec = Jvm.exec) (hb : c.code = cc) {x : Bool} {off : Int} {tgt : Nat} (hdg : decode cc pc = .ok (.if_icmp .ne off, 3)) (ht : (pc : Int) + off = (tgt : Int))
    (kt : x = false → W p l e R s m args below meth c H locs cells slots Q (F0 m tgt ls rest)) (kf : x = true → W p l e R s m args below meth c H locs cells slots Q (F0 m (pc + 3) ls rest)) : W p l e R s m args below meth c H locs cells slots Q (F0 m pc ls (.int (nI 1) :: .int (bI x) :: rest)) :=
  lv_icmp_ne hexec hb hdg ht (fun h => kt (by cases x with
    | false => rfl
    | true => exact absurd rfl h)) (fun h => kf (by cases x with
    | false => exact absurd h (by decide)
    | true => rfl))
theorem r_if_geP (hexec : p.tables.exec = Jvm.exec) (hb : c.code = cc) {x : Option Nat} (hx : ∀ j, x = some j → j < 2 ^ 31) {off : Int} {tgt : Nat} (hdg : decode cc pc = .ok (.ifCond .ge off, 3)) (ht : (pc : Int) + off = (tgt : Int))
    (kt : ∀ j, x = some j → W p l e R s m args below meth c H locs cells slots Q (F0 m tgt ls rest)) (kf : x = none → W p l e R s m args below meth c H locs cells slots Q (F0 m (pc + 3) ls rest)) : W p l e R s m args below meth c H locs cells slots Q (F0 m pc ls (.int (eP x) :: rest)) := by
  cases x with
  | none => exact lv_if_ge hexec hb hdg ht (fun h => absurd h (by decide)) (fun _ => kf rfl)
  | some j => exact lv_if_ge hexec hb hdg ht (fun _ => kt j rfl) (fun h => absurd (nI_pos' (hx j rfl)) h)
theorem r_icmp_nePP (hexec : p.tables.exec = Jvm.exec) (hb : c.code = cc) {x y : Option Nat} (hx : ∀ j, x = some j → j < 2 ^ 31) (hy : ∀ j, y = some j → j < 2 ^ 31) {off : Int} {tgt : Nat} (hdg : decode cc pc = .ok (.if_icmp .ne off, 3)) (ht : (pc : Int) + off = (tgt : Int))
    (kt : ¬ x = y → W p l e R s m args below meth c H locs cells slots Q (F0 m tgt ls rest)) (kf : x = y → W p l e R s m args below meth c H locs cells slots Q (F0 m (pc + 3) ls rest)) : W p l e R s m args below meth c H locs cells slots Q (F0 m pc ls (.int (eP y) :: .int (eP x) :: rest)) :=
  lv_icmp_ne hexec hb hdg ht (fun h => kt (fun z => h ((eP_inj hx hy).mpr z))) (fun h => kf ((eP_inj hx hy).mp h))
theorem r_if_gtN (hexec : p.tables.exec = Jvm.exec) (hb : c.code = cc) {x : Nat} (hx : x < 2 ^ 31) {off : Int} {tgt : Nat} (hdg : decode cc pc = .ok (.ifCond .gt off, 3)) (ht : (pc : Int) + off = (tgt : Int))
    (kt : 0 < x → W p l e R s m args below meth c H locs cells slots Q (F0 m tgt ls rest)) (kf : x = 0 → W p l e R s m args below meth c H locs cells slots Q (F0 m (pc + 3) ls rest)) : W p l e R s m args below meth c H locs cells slots Q (F0 m pc ls (.int (nI x) :: rest)) :=
  lv_if_gt hexec hb hdg ht (fun h => kt ((nI_ltI (by omega) hx (a := 0)).mp h)) (fun h => kf (by
    rcases Nat.eq_zero_or_pos x with q | q
    · exact q
    · exact absurd ((nI_ltI (by omega) hx (a := 0)).mpr q) h))
theorem r_if_eqN (hexec : p.tables.exec = Jvm.exec) (hb : c.code = cc) {x : Nat} (hx : x < 2 ^ 31) {off : Int} {tgt : Nat} (hdg : decode cc pc = .ok (.ifCond .eq off, 3)) (ht : (pc : Int) + off = (tgt : Int))
    (kt : x = 0 → W p l e R s m args below meth c H locs cells slots Q (F0 m tgt ls rest)) (kf : 0 < x → W p l e R s m args below meth c H locs cells slots Q (F0 m (pc + 3) ls rest)) : W p l e R s m args below meth c H locs cells slots Q (F0 m pc ls (.int (nI x) :: rest)) :=
  lv_if_eq hexec hb hdg ht (fun h => kt ((nI_eq hx (by omega) (b := 0)).mp h)) (fun h => kf (by
    rcases Nat.eq_zero_or_pos x with q | q
    · exact absurd (by rw [q]; rfl) h
    · exact q))
end RWM
