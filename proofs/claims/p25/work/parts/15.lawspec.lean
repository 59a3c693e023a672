/-! the law's arrays, and what its own methods reckon -/
noncomputable def tF (S : Nat → Nat → Bool) (dp sq : Nat → Nat) : Nat → Int32 := fun j => if j < 4 then mM (S j) else if j < 8 then nI (dp (j - 4)) else nI (sq (j - 8))
def m0 (n : Nat) : Nat → Nat := fun j => if j = 0 then n else 0
abbrev wAN (ct : Nat → ClassId) (b n : Nat) (f : Nat → Nat) : va_W := [(b, .inl (ct 0, n, .inl (fun k => nI (f k))))]
abbrev wAP (ct : Nat → ClassId) (b n : Nat) (f : Nat → Option Nat) : va_W := [(b, .inl (ct 0, n, .inl (fun k => eP (f k))))]
noncomputable abbrev wAM (ct : Nat → ClassId) (b n : Nat) (f : Nat → Nat → Bool) : va_W := [(b, .inl (ct 0, n, .inl (fun k => mM (f k))))]
noncomputable abbrev wAT (ct : Nat → ClassId) (b : Nat) (S : Nat → Nat → Bool) (dp sq : Nat → Nat) : va_W := [(b, .inl (ct 0, 11, .inl (tF S dp sq)))]
abbrev wA1 (ct : Nat → ClassId) (b n : Nat) : va_W := [(b, .inl (ct 0, 1, .inl (fun j => nI (m0 n j))))]
theorem up_m (f : Nat → Nat → Bool) (j : Nat) (P : Nat → Bool) : upd (fun k => mM (f k)) j (mM P) = fun k => mM (va_up f j P k) := by
  funext k
  by_cases h : k = j
  · subst h; rw [pk_us, up_s]
  · rw [pk_un h, up_o _ _ _ h]
theorem m0_up (n x : Nat) : upd (fun j => nI (m0 n j)) 0 (nI x) = fun j9 => nI (m0 x j9) := by
  funext k
  by_cases h : k = 0
  · subst h; rw [pk_us]; rfl
  · rw [pk_un h]; simp [m0, h]
section TF
variable {S : Nat → Nat → Bool} {dp sq : Nat → Nat} {i x : Nat} {P : Nat → Bool}
theorem tF_S (h : i < 4) : tF S dp sq i = mM (S i) := if_pos h
theorem tF_d (h : i < 4) : tF S dp sq (4 + i) = nI (dp i) := by
  have h1 : ¬ 4 + i < 4 := by omega
  have h2 : 4 + i < 8 := by omega
  unfold tF
  rw [if_neg h1, if_pos h2, show 4 + i - 4 = i by omega]
theorem tF_s : tF S dp sq (8 + i) = nI (sq i) := by
  have h1 : ¬ 8 + i < 4 := by omega
  have h2 : ¬ 8 + i < 8 := by omega
  unfold tF
  rw [if_neg h1, if_neg h2, show 8 + i - 8 = i by omega]
theorem tU_S (h : i < 4) : upd (tF S dp sq) i (mM P) = tF (va_up S i P) dp sq := by
  funext k
  by_cases e : k = i
  · subst e; rw [pk_us, tF_S h, up_s]
  · rw [pk_un e]
    unfold tF
    rw [up_o _ _ _ e]
theorem tU_0 (h : i < 4) : upd (tF S dp sq) i (nI 0) = tF (va_up S i (fun _ => false)) dp sq := by
  rw [mM_0]
  exact tU_S h
theorem tU_d (h : i < 4) : upd (tF S dp sq) (4 + i) (nI x) = tF S (va_up dp i x) sq := by
  funext k
  by_cases e : k = 4 + i
  · subst e; rw [pk_us, tF_d h, up_s]
  · rw [pk_un e]
    unfold tF
    by_cases h1 : k < 4
    · rw [if_pos h1, if_pos h1]
    · by_cases h2 : k < 8
      · rw [if_neg h1, if_neg h1, if_pos h2, if_pos h2, up_o _ _ _ (by omega)]
      · rw [if_neg h1, if_neg h1, if_neg h2, if_neg h2]
theorem tU_s : upd (tF S dp sq) (8 + i) (nI x) = tF S dp (va_up sq i x) := by
  funext k
  by_cases e : k = 8 + i
  · subst e; rw [pk_us, tF_s, up_s]
  · rw [pk_un e]
    unfold tF
    by_cases h1 : k < 4
    · rw [if_pos h1, if_pos h1]
    · by_cases h2 : k < 8
      · rw [if_neg h1, if_neg h1, if_pos h2, if_pos h2]
      · rw [if_neg h1, if_neg h1, if_neg h2, if_neg h2, up_o _ _ _ (by omega)]
end TF
theorem up_up {α : Type} (f : Nat → α) (i : Nat) (x y : α) : va_up (va_up f i x) i y = va_up f i y := by
  funext q
  by_cases h : q = i
  · subst h; rw [up_s, up_s]
  · rw [up_o _ _ _ h, up_o _ _ _ h, up_o _ _ _ h]
/-- leaves -/
def blw (an : Nat → Nat → Bool) (k j : Nat) : Nat → Bool := fun i => decide (k < i) && (decide (i < j) && an i k)
def lfB (dc : Nat → Nat) (an : Nat → Nat → Bool) (n : Nat) (S : Nat → Bool) (d k : Nat) : Bool := decide (k < n) && (S k && (decide (dc k = d) && !any (fun j => decide (k < j) && (an j k && S j)) n))
def lfU (dc : Nat → Nat) (an : Nat → Nat → Bool) (n : Nat) (S : Nat → Bool) (d r : Nat) : Nat → Bool := fun i => decide (r ≤ i) && lfB dc an n S d i
section LF
variable {dc : Nat → Nat} {an : Nat → Nat → Bool} {n : Nat} {S : Nat → Bool} {d k j : Nat}
theorem blw_0 : nI 0 = mM (blw an k (k + 1)) := by
  rw [mM_0]
  refine mM_c (fun i _ => ?_)
  by_cases h : k < i
  · have : ¬ i < k + 1 := by omega
    simp [blw, this]
  · simp [blw, h]
theorem blw_s (h : k < j) : mM (mOr (blw an k j) (sgl j (an j k))) = mM (blw an k (j + 1)) := by
  refine mM_c (fun i _ => ?_)
  by_cases e : i = j
  · subst e; simp [blw, mOr, sgl, h]
  · by_cases h2 : i < j
    · have : i < j + 1 := by omega
      simp [blw, mOr, sgl, e, h2, this]
    · have : ¬ i < j + 1 := by omega
      simp [blw, mOr, sgl, e, h2, this]
theorem lfU_0 : nI 0 = mM (lfU dc an n S d n) := by
  rw [mM_0]
  refine mM_c (fun i _ => ?_)
  by_cases h : n ≤ i
  · have : ¬ i < n := by omega
    simp [lfU, lfB, this]
  · simp [lfU, h]
theorem any_ext {P Q : Nat → Bool} {a b : Nat} (h : (∃ k, k < a ∧ P k = true) ↔ ∃ k, k < b ∧ Q k = true) : any P a = any Q b := by
  have e : any P a = true ↔ any Q b = true := by rw [any_iff, any_iff]; exact h
  cases h1 : any P a <;> cases h2 : any Q b <;> simp_all
theorem lfB_eq (hn : n ≤ 24) (hk : k < n) (hj : j = n) : lfB dc an n S d k = (S k && (decide (dc k = d) && !any (mAnd (blw an k j) S) 24)) := by
  subst hj
  have e : any (fun q => decide (k < q) && (an q k && S q)) j = any (mAnd (blw an k j) S) 24 := by
    refine any_ext ⟨fun ⟨q, q1, q2⟩ => ⟨q, by omega, ?_⟩, fun ⟨q, q1, q2⟩ => ?_⟩
    · simp only [Bool.and_eq_true, decide_eq_true_eq] at q2
      simp [mAnd, blw, q1, q2]
    · simp only [mAnd, blw, Bool.and_eq_true, decide_eq_true_eq] at q2
      exact ⟨q, q2.1.2.1, by simp [q2]⟩
  unfold lfB
  rw [e]
  simp [hk]
theorem lfU_t (h : lfB dc an n S d k = true) : mM (mOr (lfU dc an n S d (k + 1)) (sgl k true)) = mM (lfU dc an n S d k) := by
  refine mM_c (fun i _ => ?_)
  by_cases e : i = k
  · subst e; simp [lfU, mOr, sgl, h]
  · by_cases h2 : k ≤ i
    · have : k + 1 ≤ i := by omega
      simp [lfU, mOr, sgl, e, h2, this]
    · have : ¬ k + 1 ≤ i := by omega
      simp [lfU, mOr, sgl, e, h2, this]
theorem lfU_f (h : lfB dc an n S d k = false) : mM (lfU dc an n S d (k + 1)) = mM (lfU dc an n S d k) := by
  refine mM_c (fun i _ => ?_)
  by_cases e : i = k
  · subst e; simp [lfU, h]
  · by_cases h2 : k ≤ i
    · have : k + 1 ≤ i := by omega
      simp [lfU, h2, this]
    · have : ¬ k + 1 ≤ i := by omega
      simp [lfU, h2, this]
theorem lfU_n : mM (lfU dc an n S d 0) = mM (lfB dc an n S d) := mM_c (fun i _ => by simp [lfU])
end LF
def rk (vo : Nat → Option Nat) (ge un : Nat → Nat) (k : Nat) : Nat := (((match vo k with
  | none => 0
  | some _ => 64) + ge k) * 1000) + un k
theorem rk_b {vo : Nat → Option Nat} {ge un : Nat → Nat} (hg : ∀ k, ge k ≤ 150) (hu : ∀ k, un k < 997) (k : Nat) : rk vo ge un k < 1000000 := by
  have h1 := hg k
  have h2 := hu k
  unfold rk
  split <;> omega
def wnS (L : Nat → Bool) (r : Nat → Nat) : Nat → Option Nat
  | 0 => none
  | k + 1 => if L k = true then (match wnS L r k with
    | none => some k
    | some b => if r b < r k then some k else some b) else wnS L r k
theorem wnS_lt {L : Nat → Bool} {r : Nat → Nat} : ∀ {k j : Nat}, wnS L r k = some j → j < k ∧ L j = true
  | 0, j, h => by cases h
  | k + 1, j, h => by
    simp only [wnS] at h
    split at h
    · rename_i hL
      cases hw : wnS L r k with
      | none => rw [hw] at h; cases h; exact ⟨Nat.lt_succ_self _, hL⟩
      | some b =>
        rw [hw] at h
        have := wnS_lt hw
        simp only at h
        split at h
        · cases h; exact ⟨Nat.lt_succ_self _, hL⟩
        · cases h; exact ⟨by omega, this.2⟩
    · have := wnS_lt h
      exact ⟨by omega, this.2⟩
/-- what goes by the depth -/
def dlw (dc : Nat → Nat) (an : Nat → Nat → Bool) (n : Nat) (S : Nat → Bool) (k j : Nat) : Bool := lfB dc an n S (dc k) j && an j k
def dnr (dc : Nat → Nat) (an : Nat → Nat → Bool) (ge : Nat → Nat) (n : Nat) (S : Nat → Bool) (dp k j : Nat) : Bool := dlw dc an n S k j && decide (ge j < ge k + dp)
def dpB (dc : Nat → Nat) (an : Nat → Nat → Bool) (ge : Nat → Nat) (n : Nat) (S : Nat → Bool) (dp k : Nat) : Bool := decide (k < n) && (S k && (any (dlw dc an n S k) n && !any (dnr dc an ge n S dp k) n))
def dpU (dc : Nat → Nat) (an : Nat → Nat → Bool) (ge : Nat → Nat) (n : Nat) (S : Nat → Bool) (dp r : Nat) : Nat → Bool := fun i => decide (i < r) && dpB dc an ge n S dp i
section DP
variable {dc : Nat → Nat} {an : Nat → Nat → Bool} {ge : Nat → Nat} {n : Nat} {S : Nat → Bool} {dp k j : Nat}
theorem gd_iff (h1 : ge j ≤ 150) (h2 : ge k ≤ 150) (h3 : dp ≤ 1000) : nI dp ≤ nI (ge j) - nI (ge k) ↔ ge k + dp ≤ ge j := by
  rw [Int32.le_iff_toInt_le, pk_sub_toInt (by omega) (by omega), nI_toInt (by omega)]
  omega
theorem any_fct {P : Nat → Bool} {n : Nat} : any P n = decide (0 < fct P n) := by
  have := fct_pos (P := P) (n := n)
  cases h : any P n <;> simp_all
theorem dpB_eq (hk : k < n) (hj : j = n) : dpB dc an ge n S dp k = (S k && (decide (0 < fct (dlw dc an n S k) j) && decide (fct (dnr dc an ge n S dp k) j = 0))) := by
  subst hj
  unfold dpB
  rw [any_fct, any_fct]
  have e : (!decide (0 < fct (dnr dc an ge j S dp k) j)) = decide (fct (dnr dc an ge j S dp k) j = 0) := by
    by_cases h : fct (dnr dc an ge j S dp k) j = 0
    · simp [h]
    · have : 0 < fct (dnr dc an ge j S dp k) j := by omega
      simp [h, this]
  rw [e]
  simp [hk]
theorem dpU_0 : nI 0 = mM (dpU dc an ge n S dp 0) := by
  rw [mM_0]
  exact mM_c (fun i _ => by simp [dpU])
theorem dpU_t (h : dpB dc an ge n S dp k = true) : mM (mOr (dpU dc an ge n S dp k) (sgl k true)) = mM (dpU dc an ge n S dp (k + 1)) := by
  refine mM_c (fun i _ => ?_)
  by_cases e : i = k
  · subst e; simp [dpU, mOr, sgl, h]
  · by_cases h2 : i < k
    · have : i < k + 1 := by omega
      simp [dpU, mOr, sgl, e, h2, this]
    · have : ¬ i < k + 1 := by omega
      simp [dpU, mOr, sgl, e, h2, this]
theorem dpU_f (h : dpB dc an ge n S dp k = false) : mM (dpU dc an ge n S dp k) = mM (dpU dc an ge n S dp (k + 1)) := by
  refine mM_c (fun i _ => ?_)
  by_cases e : i = k
  · subst e; simp [dpU, h]
  · by_cases h2 : i < k
    · have : i < k + 1 := by omega
      simp [dpU, h2, this]
    · have : ¬ i < k + 1 := by omega
      simp [dpU, h2, this]
theorem dpU_n : mM (dpU dc an ge n S dp n) = mM (dpB dc an ge n S dp) := by
  refine mM_c (fun i _ => ?_)
  by_cases h : i < n
  · simp [dpU, h]
  · simp [dpU, dpB, h]
end DP
/-- making a revision -/
def mkP (dc : Nat → Nat) (vo pa : Nat → Option Nat) (d : Nat) (o v : Option Nat) (k : Nat) : Bool := decide (dc k = d) && (decide (pa k = o) && decide (vo k = v))
def mka (an : Nat → Nat → Bool) (o : Option Nat) : Nat → Bool := match o with
  | none => fun _ => false
  | some j => mOr (an j) (sgl j true)
theorem mka_n {an : Nat → Nat → Bool} {o : Option Nat} (h : o = none) : nI 0 = mM (mka an o) := by subst h; exact mM_0
theorem mka_s {an : Nat → Nat → Bool} {o : Option Nat} {j : Nat} (h : o = some j) : mM (mOr (an j) (sgl j true)) = mM (mka an o) := by subst h; rfl
def mku (un : Nat → Nat) (g : Nat) (o v : Option Nat) : Nat := (((match o with
  | none => 31
  | some j => 31 * un j) + (match v with
  | none => 3
  | some x => 7 * x)) + g) % 997
theorem mkg_b {ge : Nat → Nat} (h : ∀ k, ge k ≤ 150) (o : Option Nat) : mkg ge o ≤ 151 := by
  cases o with
  | none => show 1 ≤ 151; omega
  | some j => have := h j; show ge j + 1 ≤ 151; omega
def stN (cc : Nat → Nat) (f t : Nat) : Nat := min (cc (((9 * f) + (3 * f)) + t)) (cc (((9 * t) + (3 * f)) + t))
/-- what comes over -/
def gis (dc : Nat → Nat) (an : Nat → Nat → Bool) (n : Nat) (Sf St : Nat → Bool) (d k : Nat) : Bool := lfB dc an n Sf d k && (!St k && !any (fun j => St j && an j k) n)
def gcm (dc : Nat → Nat) (an : Nat → Nat → Bool) (n : Nat) (Sf St : Nat → Bool) (d r : Nat) : Nat → Bool := fun i => any (fun q => gis dc an n Sf St d q && mNd (mAnd (mOr (sgl q true) (an q)) Sf) St i) r
section GC
variable {dc : Nat → Nat} {an : Nat → Nat → Bool} {n : Nat} {Sf St : Nat → Bool} {d k : Nat}
theorem gcm_0 : nI 0 = mM (gcm dc an n Sf St d 0) := by
  rw [mM_0]
  exact mM_c (fun i _ => rfl)
theorem gcm_t (h : gis dc an n Sf St d k = true) : mM (mOr (gcm dc an n Sf St d k) (mNd (mAnd (mOr (sgl k true) (an k)) Sf) St)) = mM (gcm dc an n Sf St d (k + 1)) := by
  refine mM_c (fun i _ => ?_)
  show (gcm dc an n Sf St d k i || _) = (gcm dc an n Sf St d k i || (gis dc an n Sf St d k && _))
  rw [h, Bool.true_and]
theorem gcm_f (h : gis dc an n Sf St d k = false) : mM (gcm dc an n Sf St d k) = mM (gcm dc an n Sf St d (k + 1)) := by
  refine mM_c (fun i _ => ?_)
  show gcm dc an n Sf St d k i = (gcm dc an n Sf St d k i || (gis dc an n Sf St d k && _))
  rw [h, Bool.false_and, Bool.or_false]
end GC
/-- replication: S, sequences, the documents' sequences, how many came, how many documents went, reached -/
abbrev RP : Type := (Nat → Nat → Bool) × (Nat → Nat) × (Nat → Nat) × Nat × Nat × Nat
def rpD (dc : Nat → Nat) (an : Nat → Nat → Bool) (ge : Nat → Nat) (n : Nat) (dp : Nat → Nat) (i j q d : Nat) (x : RP) : RP :=
  (va_up x.1 j (mNd (mOr (x.1 j) (gcm dc an n (x.1 i) (x.1 j) d n)) (dpB dc an ge n (mOr (x.1 j) (gcm dc an n (x.1 i) (x.1 j) d n)) (dp j))), va_up x.2.1 j (x.2.1 j + bN (any (gcm dc an n (x.1 i) (x.1 j) d n) 24)),
    va_up x.2.2.1 ((4 * j) + d) (if any (gcm dc an n (x.1 i) (x.1 j) d n) 24 = true then x.2.1 j + bN (any (gcm dc an n (x.1 i) (x.1 j) d n) 24) else x.2.2.1 ((4 * j) + d)), x.2.2.2.1 + fct (gcm dc an n (x.1 i) (x.1 j) d n) 24, x.2.2.2.2.1 + 1, q)
def riS (dc : Nat → Nat) (an : Nat → Nat → Bool) (ge : Nat → Nat) (n : Nat) (dp : Nat → Nat) (i j q : Nat) (x : RP) : Nat → RP
  | 0 => x
  | k + 1 => if (riS dc an ge n dp i j q x k).2.2.1 ((4 * i) + k) = q then rpD dc an ge n dp i j q k (riS dc an ge n dp i j q x k) else riS dc an ge n dp i j q x k
def roS (dc : Nat → Nat) (an : Nat → Nat → Bool) (ge : Nat → Nat) (n : Nat) (dp : Nat → Nat) (i j lim : Nat) : Nat → Nat → RP → RP
  | 0, _, x => x
  | f + 1, q, x => if x.2.2.2.2.1 < lim then roS dc an ge n dp i j lim f (q + 1) (riS dc an ge n dp i j q x 4) else x
def rlf (i : Nat) (x : RP) (k : Nat) : Bool := decide (x.2.2.2.2.2 < x.2.2.1 ((4 * i) + k))
def rpA (i : Nat) (x : RP) : Nat := if fct (rlf i x) 4 = 0 then x.2.1 i else x.2.2.2.2.2
section RPS
variable {dc : Nat → Nat} {an : Nat → Nat → Bool} {ge : Nat → Nat} {n : Nat} {dp : Nat → Nat} {i j q lim : Nat} {x : RP} {k f : Nat}
theorem riS_t (h : (riS dc an ge n dp i j q x k).2.2.1 ((4 * i) + k) = q) : riS dc an ge n dp i j q x (k + 1) = rpD dc an ge n dp i j q k (riS dc an ge n dp i j q x k) := if_pos h
theorem riS_f (h : ¬ (riS dc an ge n dp i j q x k).2.2.1 ((4 * i) + k) = q) : riS dc an ge n dp i j q x (k + 1) = riS dc an ge n dp i j q x k := if_neg h
theorem roS_l (h : lim ≤ x.2.2.2.2.1) : roS dc an ge n dp i j lim f q x = x := by
  cases f with
  | zero => rfl
  | succ f => exact if_neg (Nat.not_lt.mpr h)
theorem roS_s {g : Nat} (hf : f = g + 1) (h : x.2.2.2.2.1 < lim) : roS dc an ge n dp i j lim f q x = roS dc an ge n dp i j lim g (q + 1) (riS dc an ge n dp i j q x 4) := by
  subst hf
  exact if_pos h
/-- what stays: the source's own, and bounds -/
def RI (i : Nat) (sq qq : Nat → Nat) (x : RP) : Prop := x.2.1 i = sq i ∧ (∀ k, k < 4 → x.2.2.1 ((4 * i) + k) = qq ((4 * i) + k)) ∧ x.2.2.2.2.2 ≤ 1000000
theorem RI_riS {sq qq : Nat → Nat} (hij : i ≠ j) (hq : q ≤ 1000000) (h : RI i sq qq x) : ∀ k, k ≤ 4 → RI i sq qq (riS dc an ge n dp i j q x k) ∧ (riS dc an ge n dp i j q x k).2.2.2.2.1 ≤ x.2.2.2.2.1 + k
  | 0, _ => ⟨h, Nat.le_refl _⟩
  | k + 1, hk => by
    obtain ⟨⟨h1, h2, h3⟩, h4⟩ := RI_riS hij hq h k (by omega)
    by_cases e : (riS dc an ge n dp i j q x k).2.2.1 ((4 * i) + k) = q
    · rw [riS_t e]
      refine ⟨⟨?_, fun z hz => ?_, hq⟩, ?_⟩
      · show va_up _ j _ i = _
        rw [up_o _ _ _ hij]
        exact h1
      · show va_up _ ((4 * j) + k) _ ((4 * i) + z) = _
        rw [up_o _ _ _ (by omega)]
        exact h2 z hz
      · show _ + 1 ≤ _
        omega
    · rw [riS_f e]
      exact ⟨⟨h1, h2, h3⟩, by omega⟩
end RPS
section WCALLS
variable {p : Program} {l : Launch} {e : Env} {R : Room} {s : State} {m : MethodId} {args : Array Value} {below : List Frame} {meth : Method} {c : Code} {H H0 : Heap} {locs : List Loc} {cells slots : Nat} {Q : State → Prop} {A : Nat → Prop}
variable {cc : ByteArray} {pc : Nat} {ls : Array Slot} {rest st : List Value} {D : va_G} {ct : Nat → ClassId} {wc wf w1 : va_W} {Ts ws : List Cond} {own C : String} {index maxL n nL : Nat} {y : MethodName} {bytes : ByteArray} {ret : Option FieldType} {rm : Room} {As : List Value} {b : Nat} {v : Int32}
theorem r_wSi (S : CallFix p m c cc nL s args Ts own) (hM : Met l y ws rm (wrPc D ct As wc H.size) (wqI D v w1 (va_A wc H.size)) 0 0 (va_A wc H.size)) (cw : CallB R s args own index y bytes maxL ret ws rm 0 0 n ∧ (Cond.static y).before args s = true) (hK : KK D ct s) (hP : va_P D vwCl wf H) (hD : va_D A wf) (hS : va_S A H0 H locs) (hA : ∀ q, H0.size ≤ q → A q) (ps : List Nat) (hC : ps.map (fun i => wf[i]?) = wc.map some) (hnd : va_nd ps = true) (had : w1.map Prod.fst = wc.map Prod.fst)
    (hn : As.length = n) (hsize : ls.size = nL) (hstack : st = As.reverse ++ rest) (hW : (rest.map fun v => v.category).sum ≤ 8) (hdg : decode cc pc = .ok (.invokestatic index, 3)) (hf : cells + 0 ≤ R.cells ∧ slots + 0 ≤ R.slots)
    (kk : ∀ (H1 : Heap) (locs1 : List Loc), va_P D vwCl (jn wf ps w1) H1 → va_D A (jn wf ps w1) → va_S A H0 H1 locs1 → W p l e R s m args below meth c H1 locs1 cells slots Q (F0 m (pc + 3) ls (.int v :: rest))) : W p l e R s m args below meth c H locs cells slots Q (F0 m pc ls st) := by
  have hPc : va_P D vwCl wc H := fun k q hk => by
    have h1 : (ps.map (fun i => wf[i]?))[k]? = some (some q) := by rw [hC, List.getElem?_map, hk]; rfl
    rw [List.getElem?_map] at h1
    cases hi : ps[k]? with
    | none => rw [hi] at h1; cases h1
    | some i => rw [hi] at h1; exact hP i q (Option.some.inj h1)
  have hDc : va_D A wc := hD.sub ps hnd hC
  have hF := va_free hD hS hA ps hC
  exact va_calli (va_runS (g := F0 m pc ls st) S hM cw ⟨wr_blind, wr_pre hK hPc hDc⟩ rfl hn hsize hstack (lv_room hW) hdg hf) hS (fun q _ h => hF q h) hF (fun r u t H1 locs1 ht hvm hw hB hz hk hS1 => by
    rw [hw]
    rw [ht] at hB
    obtain ⟨g1, g2⟩ := jn_ok hP hD ps hC hnd had hk hB
    exact kk H1 locs1 g1 g2 hS1)
end WCALLS
