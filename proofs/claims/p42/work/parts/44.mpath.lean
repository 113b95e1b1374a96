/-! the model: circle and paths -/
theorem tmod_s {n s : Int} (h : 0 ≤ s ∧ s ≤ n) : Int.tmod (s + 1) (n + 1) = if s < n then s + 1 else 0 := by
  rw [Int.tmod_eq_emod_of_nonneg (by omega)]
  by_cases q : s < n
  · rw [if_pos q]
    exact Int.emod_eq_of_lt (by omega) (by omega)
  · rw [if_neg q, show s + 1 = n + 1 by omega, Int.emod_self]
theorem sh_mod {n x : Int} (h : 0 ≤ x + 2 * (n + 1)) : Int.tmod (x + 2 * (n + 1)) (n + 1) = x % (n + 1) := by
  rw [Int.tmod_eq_emod_of_nonneg h, Int.add_mul_emod_self_right]
theorem inZ_1 {la aa : Int → Int} {i j : Int} (h : (aa i = aa j ∧ la i < la j) ∨ (aa i = aa j + 1 ∧ la j < la i)) : inZ la aa i j = 1 := if_pos h
theorem inZ_0 {la aa : Int → Int} {i j : Int} (h : ¬ ((aa i = aa j ∧ la i < la j) ∨ (aa i = aa j + 1 ∧ la j < la i))) : inZ la aa i j = 0 := if_neg h
theorem rR_all {wi : Int → Int} {ct n : Int} (hc : 0 ≤ ct) (h : ∀ j : Int, 0 ≤ j → j < ct → wi j < n) : rR wi ct n 0 = ct := by
  rw [rR_0, cntB_all _ (fun j h0 h1 => h j h0 (by omega))]
  omega
theorem row_lo {wi : Int → Int} {ct s : Int} (hc : 0 ≤ ct) (i : Int) (h0 : 0 ≤ i) (h1 : i < rR wi ct s ct) (h2 : rR wi ct s ct ≤ ct) : i - arZ wi ct i ≤ s := by
  obtain ⟨q1, q2, q3⟩ := labZ_at (wi := wi) (ct := ct) (r := i) (by omega)
  unfold arZ
  by_cases u : s < wi (labZ wi ct i)
  · exfalso
    have a1 : rk wi ct (labZ wi ct i) = cntB wi (wi (labZ wi ct i)) ct.toNat + cntE wi (wi (labZ wi ct i)) (labZ wi ct i).toNat := rfl
    have a2 := cntB_mono wi (show s + 1 ≤ wi (labZ wi ct i) by omega) ct.toNat
    have a3 := cntE_rg wi (wi (labZ wi ct i)) (labZ wi ct i).toNat
    rw [rR_n] at h1
    omega
  · omega
theorem row_hi {wi : Int → Int} {ct s : Int} (i : Int) (h0 : 0 ≤ i) (h1 : rR wi ct s ct ≤ i) (h2 : i < ct) : s < i - arZ wi ct i := by
  obtain ⟨q1, q2, q3⟩ := labZ_at (wi := wi) (ct := ct) (r := i) (by omega)
  unfold arZ
  by_cases u : wi (labZ wi ct i) ≤ s
  · exfalso
    have := rk_lt (wi := wi) (ct := ct) (s := s) (c := ct) ⟨q1, q2⟩ (by omega)
    omega
  · omega
