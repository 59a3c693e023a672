theorem inn_le {x : Int32} {k : Nat} (hk : k < 2 ^ 30) (h : inn x (nI 0) (nI k) = false) (h1 : ¬ x < 0) (h2 : x ≤ nI k) : False := by
  have a1 : ¬ x < nI 0 := h1
  have a2 : ¬ nI k < x := by
    rw [Int32.lt_iff_toInt_lt]
    rw [Int32.le_iff_toInt_le] at h2
    omega
  simp [inn, a1, a2] at h
theorem inn_le1 {x y : Int32} (h : inn x (nI 1) y = false) (h1 : ¬ x < nI 1) (h2 : x ≤ y) : False := by
  have a2 : ¬ y < x := by
    rw [Int32.lt_iff_toInt_lt]
    rw [Int32.le_iff_toInt_le] at h2
    omega
  simp [inn, h1, a2] at h
