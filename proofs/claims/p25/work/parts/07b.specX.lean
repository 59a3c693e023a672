/-! what the class's own public methods reckon -/
def mnI (x y : Int32) : Int32 := if y < x then y else x
abbrev CS : Type := Nat × Int32 × Int32 × (Nat → Int32) × (Nat → Bool) × (Nat → Nat) × (Nat → Option Nat)
/-- a document's branches are received: x counts, reached, then the target's latest, changes, held, nearest leaves, winners -/
def csg (dc : Nat → Nat) (pa : Nat → Option Nat) (dl : Nat → Bool) (ge : Nat → Nat) (su : Nat → Int32) (n : Nat) (dp : Int32) (hd2 : Nat → Bool) (nl2 : Nat → Nat) (ch2 : Nat → Int32) (d : Nat) (x : CS) : CS :=
  (x.1 + (abS dc pa hd2 (ends hd2 nl2) x.2.2.2.2.2.1 d x.2.2.2.2.1 n).1, ch2 d,
    if 0 < (abS dc pa hd2 (ends hd2 nl2) x.2.2.2.2.2.1 d x.2.2.2.2.1 n).1 then x.2.2.1 + nI 1 else x.2.2.1,
    if 0 < (abS dc pa hd2 (ends hd2 nl2) x.2.2.2.2.2.1 d x.2.2.2.2.1 n).1 then va_up x.2.2.2.1 d (x.2.2.1 + nI 1) else x.2.2.2.1,
    if 0 < (abS dc pa hd2 (ends hd2 nl2) x.2.2.2.2.2.1 d x.2.2.2.2.1 n).1 then stm (abS dc pa hd2 (ends hd2 nl2) x.2.2.2.2.2.1 d x.2.2.2.2.1 n).2 (flS pa ge (abS dc pa hd2 (ends hd2 nl2) x.2.2.2.2.2.1 d x.2.2.2.2.1 n).2 n n) ge dp n else (abS dc pa hd2 (ends hd2 nl2) x.2.2.2.2.2.1 d x.2.2.2.2.1 n).2,
    if 0 < (abS dc pa hd2 (ends hd2 nl2) x.2.2.2.2.2.1 d x.2.2.2.2.1 n).1 then flS pa ge (abS dc pa hd2 (ends hd2 nl2) x.2.2.2.2.2.1 d x.2.2.2.2.1 n).2 n n else x.2.2.2.2.2.1,
    if 0 < (abS dc pa hd2 (ends hd2 nl2) x.2.2.2.2.2.1 d x.2.2.2.2.1 n).1 then fwS dc dl ge su (ends (abS dc pa hd2 (ends hd2 nl2) x.2.2.2.2.2.1 d x.2.2.2.2.1 n).2 (flS pa ge (abS dc pa hd2 (ends hd2 nl2) x.2.2.2.2.2.1 d x.2.2.2.2.1 n).2 n n)) n else x.2.2.2.2.2.2)
def csp (dc : Nat → Nat) (pa : Nat → Option Nat) (dl : Nat → Bool) (ge : Nat → Nat) (su : Nat → Int32) (n : Nat) (dp : Int32) (hd2 : Nat → Bool) (nl2 : Nat → Nat) (ch2 : Nat → Int32) (x : CS) : CS := match nxS ch2 x.2.1 4 with
  | none => x
  | some d => csg dc pa dl ge su n dp hd2 nl2 ch2 d x
def csS (dc : Nat → Nat) (pa : Nat → Option Nat) (dl : Nat → Bool) (ge : Nat → Nat) (su : Nat → Int32) (n : Nat) (dp : Int32) (hd2 : Nat → Bool) (nl2 : Nat → Nat) (ch2 : Nat → Int32) (x : CS) : Nat → CS
  | 0 => x
  | k + 1 => csp dc pa dl ge su n dp hd2 nl2 ch2 (csS dc pa dl ge su n dp hd2 nl2 ch2 x k)
section CSX
variable {dc : Nat → Nat} {pa : Nat → Option Nat} {dl : Nat → Bool} {ge : Nat → Nat} {su : Nat → Int32} {n : Nat} {dp : Int32} {hd2 : Nat → Bool} {nl2 : Nat → Nat} {ch2 : Nat → Int32}
theorem csp_n {x : CS} (h : nxS ch2 x.2.1 4 = none) : csp dc pa dl ge su n dp hd2 nl2 ch2 x = x := by simp only [csp, h]
theorem csp_s {x : CS} {d : Nat} (h : nxS ch2 x.2.1 4 = some d) : csp dc pa dl ge su n dp hd2 nl2 ch2 x = csg dc pa dl ge su n dp hd2 nl2 ch2 d x := by simp only [csp, h]
theorem csS_n {x : CS} {k : Nat} (h : nxS ch2 (csS dc pa dl ge su n dp hd2 nl2 ch2 x k).2.1 4 = none) : csS dc pa dl ge su n dp hd2 nl2 ch2 x (k + 1) = csS dc pa dl ge su n dp hd2 nl2 ch2 x k := csp_n h
theorem csS_s {x : CS} {k d : Nat} (h : nxS ch2 (csS dc pa dl ge su n dp hd2 nl2 ch2 x k).2.1 4 = some d) : csS dc pa dl ge su n dp hd2 nl2 ch2 x (k + 1) = csg dc pa dl ge su n dp hd2 nl2 ch2 d (csS dc pa dl ge su n dp hd2 nl2 ch2 x k) := csp_s h
theorem csg_nl {x : CS} {d : Nat} (hx : ∀ k, x.2.2.2.2.2.1 k ≤ 151) : ∀ k, (csg dc pa dl ge su n dp hd2 nl2 ch2 d x).2.2.2.2.2.1 k ≤ 151 := by
  intro k
  show (if _ then flS pa ge _ n n else x.2.2.2.2.2.1) k ≤ 151
  split
  · exact flS_le n k
  · exact hx k
theorem csS_nl {x : CS} (hx : ∀ k, x.2.2.2.2.2.1 k ≤ 151) : ∀ q k, (csS dc pa dl ge su n dp hd2 nl2 ch2 x q).2.2.2.2.2.1 k ≤ 151
  | 0, k => hx k
  | q + 1, k => by
    have ih := csS_nl hx q
    show (csp dc pa dl ge su n dp hd2 nl2 ch2 (csS dc pa dl ge su n dp hd2 nl2 ch2 x q)).2.2.2.2.2.1 k ≤ 151
    cases h : nxS ch2 (csS dc pa dl ge su n dp hd2 nl2 ch2 x q).2.1 4 with
    | none => rw [csp_n h]; exact ih k
    | some d => rw [csp_s h]; exact csg_nl ih k
theorem csg_ct {x : CS} {d b : Nat} (hx : x.1 ≤ b) : (csg dc pa dl ge su n dp hd2 nl2 ch2 d x).1 ≤ b + 150 * n := by
  show x.1 + (abS dc pa hd2 (ends hd2 nl2) x.2.2.2.2.2.1 d x.2.2.2.2.1 n).1 ≤ b + 150 * n
  have := abS_le dc pa hd2 (ends hd2 nl2) x.2.2.2.2.2.1 d x.2.2.2.2.1 n
  omega
theorem csS_ct {x : CS} (hx : x.1 = 0) : ∀ q, (csS dc pa dl ge su n dp hd2 nl2 ch2 x q).1 ≤ q * (150 * n)
  | 0 => by show x.1 ≤ _; omega
  | q + 1 => by
    have ih := csS_ct hx q
    show (csp dc pa dl ge su n dp hd2 nl2 ch2 (csS dc pa dl ge su n dp hd2 nl2 ch2 x q)).1 ≤ _
    have e : (q + 1) * (150 * n) = q * (150 * n) + 150 * n := Nat.succ_mul _ _
    cases h : nxS ch2 (csS dc pa dl ge su n dp hd2 nl2 ch2 x q).2.1 4 with
    | none => rw [csp_n h]; omega
    | some d => rw [csp_s h, e]; exact csg_ct ih
/-- the checkpoint at the end -/
def csa (ch2 : Nat → Int32) (lt2 : Int32) (x : CS) : Int32 := match nxS ch2 x.2.1 4 with
  | none => lt2
  | some _ => x.2.1
end CSX
