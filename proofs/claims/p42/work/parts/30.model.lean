/-! the model: its state and the states before -/
def acS (sts : Int) : Int := if sts = 6 then 6 else sts + 1
def acA (sts : Int) : Int := if sts = 6 then 5 else sts
def shP (pa : Int → Int) (i : Int) : Int → Int := fun k => if k < i then pa (k + 21) else pa k
def wrP (pa v : Int → Int) (a i : Int) : Int → Int := fun k => if a ≤ k ∧ k < a + i then v (k - a) else pa k
def acP (sts : Int) (pa v : Int → Int) : Int → Int := wrP (if sts = 6 then shP pa 105 else pa) v (21 * acA sts) 21
theorem shP_0 (pa : Int → Int) : aZ pa = aZ (shP pa 0) := by
  funext j
  show zI (pa (j : Int)) = zI (if (j : Int) < 0 then pa ((j : Int) + 21) else pa (j : Int))
  rw [if_neg (by omega)]
theorem shP_s {pa : Int → Int} {i : Int} : uZ (shP pa i) i (shP pa i (i + 21)) = shP pa (i + 1) := by
  funext k
  have e : shP pa i (i + 21) = pa (i + 21) := if_neg (by omega)
  rw [e]
  by_cases q : k = i
  · rw [q, uZ_same]
    exact (if_pos (by omega)).symm
  · rw [uZ_ne q]
    unfold shP
    by_cases q2 : k < i
    · rw [if_pos q2, if_pos (by omega)]
    · rw [if_neg q2, if_neg (by omega)]
theorem wrP_0 (pa v : Int → Int) (a : Int) : pa = wrP pa v a 0 := by
  funext k
  exact (if_neg (by omega)).symm
theorem wrP_s {pa v : Int → Int} {a i : Int} (h : 0 ≤ i) : uZ (wrP pa v a i) (a + i) (v i) = wrP pa v a (i + 1) := by
  funext k
  by_cases q : k = a + i
  · rw [q, uZ_same]
    refine Eq.symm ((if_pos (by omega)).trans ?_)
    rw [show a + i - a = i by omega]
  · rw [uZ_ne q]
    unfold wrP
    by_cases q2 : a ≤ k ∧ k < a + i
    · rw [if_pos q2, if_pos (by omega)]
    · rw [if_neg q2, if_neg (by omega)]
