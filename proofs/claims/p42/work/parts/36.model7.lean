/-! the model: where a car looks -/
def plZ (n ru re p i : Int) : Int := if ru = 0 then (if p + i < n then p + i else -99) else if ru = 1 then (if i ≤ re then p - i else if p + i - re < n then p + i - re else -99) else if ru = 2 then (if i ≤ re then p + i else -99) else if 2 * re < i then -99 else if i % 2 = 1 then p - (i + 1) / 2 else p + i / 2
def remZ (n ru re p i : Int) : List Int := if ru = 1 then (if i ≤ re then dnL (p - i) (p - re) ++ upL (p + 1) (n - 1) else upL (p + i - re) (n - 1)) else if ru = 2 then upL (p + i) (p + re) else if ru = 3 then (if i % 2 = 1 then arL p ((i + 1) / 2) re else if i ≤ 2 * re then (p + i / 2) :: arL p (i / 2 + 1) re else []) else upL (p + i) (n - 1)
theorem remZ_0 {n ru re p : Int} (h : 0 ≤ re) : remZ n ru re p 0 = pseq ru re n p := by
  unfold remZ pseq
  by_cases h1 : ru = 1
  · rw [if_pos h1, if_pos h1, if_pos h, Int.sub_zero]
  · rw [if_neg h1, if_neg h1]
    by_cases h2 : ru = 2
    · rw [if_pos h2, if_pos h2, Int.add_zero]
    · rw [if_neg h2, if_neg h2]
      by_cases h3 : ru = 3
      · rw [if_pos h3, if_pos h3, if_neg (by omega), if_pos (by omega)]
        rw [show p + 0 / 2 = p by omega, show (0 : Int) / 2 + 1 = 1 by omega]
      · rw [if_neg h3, if_neg h3, Int.add_zero]
theorem rem_end {n ru re p i : Int} (hr : 0 ≤ ru ∧ ru ≤ 3) (hb : 0 ≤ re ∧ re ≤ 8 ∧ 1 ≤ n ∧ n ≤ 8 ∧ 0 ≤ p ∧ p < n ∧ 0 ≤ i ∧ i ≤ 18) (h : plZ n ru re p i < -90) : remZ n ru re p i = [] := by
  unfold plZ at h
  unfold remZ
  have hc : ru = 0 ∨ ru = 1 ∨ ru = 2 ∨ ru = 3 := by omega
  rcases hc with rfl | rfl | rfl | rfl
  · rw [if_pos rfl] at h
    rw [if_neg (by omega), if_neg (by omega), if_neg (by omega)]
    exact upL_nil (by split at h <;> omega)
  · rw [if_neg (by omega), if_pos rfl] at h
    rw [if_pos rfl]
    by_cases q : i ≤ re
    · rw [if_pos q] at h
      omega
    · rw [if_neg q] at h
      rw [if_neg q]
      exact upL_nil (by split at h <;> omega)
  · rw [if_neg (by omega), if_neg (by omega), if_pos rfl] at h
    rw [if_neg (by omega), if_pos rfl]
    exact upL_nil (by split at h <;> omega)
  · rw [if_neg (by omega), if_neg (by omega), if_neg (by omega)] at h
    rw [if_neg (by omega), if_neg (by omega), if_pos rfl]
    have q : 2 * re < i := by
      by_cases q : 2 * re < i
      · exact q
      · rw [if_neg q] at h
        split at h <;> omega
    by_cases q2 : i % 2 = 1
    · rw [if_pos q2]
      exact arL_nil (by omega)
    · rw [if_neg q2, if_neg (by omega)]
theorem rmq0 (n re p i : Int) : remZ n 0 re p i = upL (p + i) (n - 1) := by
  unfold remZ
  rw [if_neg (by omega), if_neg (by omega), if_neg (by omega)]
theorem rmq1 (n re p i : Int) : remZ n 1 re p i = if i ≤ re then dnL (p - i) (p - re) ++ upL (p + 1) (n - 1) else upL (p + i - re) (n - 1) := if_pos rfl
theorem rmq2 (n re p i : Int) : remZ n 2 re p i = upL (p + i) (p + re) := by
  unfold remZ
  rw [if_neg (by omega), if_pos rfl]
theorem rmq3 (n re p i : Int) : remZ n 3 re p i = if i % 2 = 1 then arL p ((i + 1) / 2) re else if i ≤ 2 * re then (p + i / 2) :: arL p (i / 2 + 1) re else [] := by
  unfold remZ
  rw [if_neg (by omega), if_neg (by omega), if_pos rfl]
theorem plq0 (n re p i : Int) : plZ n 0 re p i = if p + i < n then p + i else -99 := if_pos rfl
theorem plq1 (n re p i : Int) : plZ n 1 re p i = if i ≤ re then p - i else if p + i - re < n then p + i - re else -99 := by
  unfold plZ
  rw [if_neg (by omega), if_pos rfl]
theorem plq2 (n re p i : Int) : plZ n 2 re p i = if i ≤ re then p + i else -99 := by
  unfold plZ
  rw [if_neg (by omega), if_neg (by omega), if_pos rfl]
theorem plq3 (n re p i : Int) : plZ n 3 re p i = if 2 * re < i then -99 else if i % 2 = 1 then p - (i + 1) / 2 else p + i / 2 := by
  unfold plZ
  rw [if_neg (by omega), if_neg (by omega), if_neg (by omega)]
theorem rem_step {n ru re p i : Int} (hr : 0 ≤ ru ∧ ru ≤ 3) (hb : 0 ≤ re ∧ re ≤ 8 ∧ 1 ≤ n ∧ n ≤ 8 ∧ 0 ≤ p ∧ p < n ∧ 0 ≤ i ∧ i ≤ 18) (h : -90 ≤ plZ n ru re p i) : i ≤ 17 ∧ plZ n ru re p i ≤ 30 ∧ remZ n ru re p i = plZ n ru re p i :: remZ n ru re p (i + 1) := by
  have hc : ru = 0 ∨ ru = 1 ∨ ru = 2 ∨ ru = 3 := by omega
  rcases hc with rfl | rfl | rfl | rfl
  · rw [plq0] at h ⊢
    rw [rmq0, rmq0]
    by_cases q : p + i < n
    · rw [if_pos q]
      refine ⟨by omega, by omega, ?_⟩
      rw [upL_cons (by omega), Int.add_assoc]
    · rw [if_neg q] at h
      omega
  · rw [plq1] at h ⊢
    rw [rmq1, rmq1]
    by_cases q : i ≤ re
    · rw [if_pos q, if_pos q]
      refine ⟨by omega, by omega, ?_⟩
      rw [dnL_cons (by omega), List.cons_append]
      by_cases q2 : i + 1 ≤ re
      · rw [if_pos q2, show p - i - 1 = p - (i + 1) by omega]
      · rw [if_neg q2, dnL_nil (by omega), List.nil_append, show p + (i + 1) - re = p + 1 by omega]
    · rw [if_neg q] at h ⊢
      rw [if_neg q, if_neg (show ¬ i + 1 ≤ re by omega)]
      by_cases q2 : p + i - re < n
      · rw [if_pos q2]
        refine ⟨by omega, by omega, ?_⟩
        rw [upL_cons (by omega), show p + i - re + 1 = p + (i + 1) - re by omega]
      · rw [if_neg q2] at h
        omega
  · rw [plq2] at h ⊢
    rw [rmq2, rmq2]
    by_cases q : i ≤ re
    · rw [if_pos q]
      refine ⟨by omega, by omega, ?_⟩
      rw [upL_cons (by omega), Int.add_assoc]
    · rw [if_neg q] at h
      omega
  · rw [plq3] at h ⊢
    rw [rmq3, rmq3]
    by_cases q : 2 * re < i
    · rw [if_pos q] at h
      omega
    · rw [if_neg q]
      by_cases q2 : i % 2 = 1
      · rw [if_pos q2, if_pos q2, if_neg (show ¬ (i + 1) % 2 = 1 by omega), if_pos (show i + 1 ≤ 2 * re by omega)]
        refine ⟨by omega, by omega, ?_⟩
        rw [arL_cons (by omega)]
      · rw [if_neg q2, if_neg q2, if_pos (show (i + 1) % 2 = 1 by omega), if_pos (show i ≤ 2 * re by omega)]
        refine ⟨by omega, by omega, ?_⟩
        rw [show (i + 1 + 1) / 2 = i / 2 + 1 by omega]
