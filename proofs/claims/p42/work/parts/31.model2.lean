/-! the model: acts -/
def iniZ (i : Int) : Int → Int := fun k => if 3 ≤ k ∧ k < 3 + i then 1 else 0
theorem iniZ_0 : zeroZ = iniZ 0 := by
  funext k
  exact (if_neg (by omega)).symm
theorem iniZ_s {i : Int} (h : 0 ≤ i) : uZ (iniZ i) (3 + i) 1 = iniZ (i + 1) := by
  funext k
  by_cases q : k = 3 + i
  · rw [q, uZ_same]
    exact (if_pos (by omega)).symm
  · rw [uZ_ne q]
    unfold iniZ
    by_cases q2 : 3 ≤ k ∧ k < 3 + i
    · rw [if_pos q2, if_pos (by omega)]
    · rw [if_neg q2, if_neg (by omega)]
