/-! the reference's public methods: what they reckon -/
def shM (pa : Nat → Option Nat) (mk : Nat → Bool) (dc : Nat → Nat) (dl : Nat → Bool) (ge : Nat → Nat) (su va : Nat → Int32) (i n : Nat) : Nat → Int32 := shv dl va (fun d => bsS dc dl ge su (lef pa mk i n) d n)
def ctC (f : Nat → Int32) (lo hi : Int32) (k : Nat) : Bool := decide (f k ≠ -1) && (!decide (f k < lo) && !decide (hi < f k))
def plC (f : Nat → Int32) (x : Int32) (k : Nat) : Bool := decide (f k ≠ -1) && decide (nI (fct (bfC f (f k) k) 4) = x)
def anw (mk : Nat → Bool) (r : Nat) : Bool := mk r || (mk (150 + r) || mk (300 + r))
def woL (pa : Nat → Option Nat) (mk : Nat → Bool) (n k : Nat) : Bool := anw mk k && !(any (hsP pa mk 0 k) n || (any (hsP pa mk 1 k) n || any (hsP pa mk 2 k) n))
theorem prd_pos {x : Nat} (h : 0 < x) : eP (prd x) = nI (x - 1) := by
  cases x with
  | zero => omega
  | succ j => rfl
abbrev RS : Type := Nat × Int32 × (Nat → Bool) × (Nat → Int32) × (Nat → Int32)
def rpg (dc : Nat → Nat) (pa : Nat → Option Nat) (ge : Nat → Nat) (dp : Nat → Int32) (i j n d : Nat) (x : RS) : RS :=
  (x.1 + (gtS dc pa i j n d x.2.2.1 n).1, (if 0 < (gtS dc pa i j n d x.2.2.1 n).1 then va_up x.2.2.2.2 ((4 * j) + d) (x.2.2.2.1 j + nI 1) else x.2.2.2.2) ((4 * i) + d), if 0 < (gtS dc pa i j n d x.2.2.1 n).1 then (smS pa ge dp j n (gtS dc pa i j n d x.2.2.1 n).2 n).2 else (gtS dc pa i j n d x.2.2.1 n).2, if 0 < (gtS dc pa i j n d x.2.2.1 n).1 then va_up x.2.2.2.1 j (x.2.2.2.1 j + nI 1) else x.2.2.2.1, if 0 < (gtS dc pa i j n d x.2.2.1 n).1 then va_up x.2.2.2.2 ((4 * j) + d) (x.2.2.2.1 j + nI 1) else x.2.2.2.2)
def rpp (dc : Nat → Nat) (pa : Nat → Option Nat) (ge : Nat → Nat) (dp : Nat → Int32) (i j n : Nat) (x : RS) : RS := match nxS (tcr x.2.2.2.2 i) x.2.1 4 with
  | none => x
  | some d => rpg dc pa ge dp i j n d x
def rpS (dc : Nat → Nat) (pa : Nat → Option Nat) (ge : Nat → Nat) (dp : Nat → Int32) (i j n : Nat) (x : RS) : Nat → RS
  | 0 => x
  | k + 1 => rpp dc pa ge dp i j n (rpS dc pa ge dp i j n x k)
theorem rpp_n {dc : Nat → Nat} {pa : Nat → Option Nat} {ge : Nat → Nat} {dp : Nat → Int32} {i j n : Nat} {x : RS} (h : nxS (tcr x.2.2.2.2 i) x.2.1 4 = none) : rpp dc pa ge dp i j n x = x := by simp only [rpp, h]
theorem rpp_s {dc : Nat → Nat} {pa : Nat → Option Nat} {ge : Nat → Nat} {dp : Nat → Int32} {i j n d : Nat} {x : RS} (h : nxS (tcr x.2.2.2.2 i) x.2.1 4 = some d) : rpp dc pa ge dp i j n x = rpg dc pa ge dp i j n d x := by simp only [rpp, h]
theorem rpS_stop {dc : Nat → Nat} {pa : Nat → Option Nat} {ge : Nat → Nat} {dp : Nat → Int32} {i j n : Nat} {x : RS} {k : Nat} (h : nxS (tcr (rpS dc pa ge dp i j n x k).2.2.2.2 i) (rpS dc pa ge dp i j n x k).2.1 4 = none) : ∀ q, rpS dc pa ge dp i j n x k = rpS dc pa ge dp i j n x (k + q)
  | 0 => rfl
  | q + 1 => by
    have ih := rpS_stop h q
    show _ = rpp dc pa ge dp i j n (rpS dc pa ge dp i j n x (k + q))
    rw [← ih, rpp_n h]
theorem rpS_end {dc : Nat → Nat} {pa : Nat → Option Nat} {ge : Nat → Nat} {dp : Nat → Int32} {i j n : Nat} {x : RS} {k lim : Nat} (h : nxS (tcr (rpS dc pa ge dp i j n x k).2.2.2.2 i) (rpS dc pa ge dp i j n x k).2.1 4 = none) (hk : k ≤ lim) : rpS dc pa ge dp i j n x k = rpS dc pa ge dp i j n x lim := by
  have := rpS_stop h (lim - k)
  rwa [show k + (lim - k) = lim by omega] at this
theorem rpS_s {dc : Nat → Nat} {pa : Nat → Option Nat} {ge : Nat → Nat} {dp : Nat → Int32} {i j n : Nat} {x : RS} {k d : Nat} (h : nxS (tcr (rpS dc pa ge dp i j n x k).2.2.2.2 i) (rpS dc pa ge dp i j n x k).2.1 4 = some d) : rpS dc pa ge dp i j n x (k + 1) = rpg dc pa ge dp i j n d (rpS dc pa ge dp i j n x k) := rpp_s h
/-- the checkpoint at the end -/
def rpa (i : Nat) (x : RS) : Int32 := match nxS (tcr x.2.2.2.2 i) x.2.1 4 with
  | none => x.2.2.2.1 i
  | some _ => x.2.1
theorem ffd_b {P : Nat → Bool} {n j : Nat} (h : ffd P n = some j) (hn : n ≤ 1000) : j < 2 ^ 31 := by
  have : ∀ n j, ffd P n = some j → j < n := by
    intro n
    induction n with
    | zero => intro j h; cases h
    | succ n ih =>
      intro j h
      cases e : ffd P n with
      | some i =>
        simp [ffd, e] at h
        have := ih i e
        omega
      | none =>
        simp [ffd, e] at h
        omega
  have := this n j h
  omega
