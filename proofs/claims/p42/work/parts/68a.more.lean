/-! sums one car further; the rank of the list with a rank -/
def dpZ (P w : Int → Int) : Int → Int := fun c => if P c = -1 then 0 else if 0 ≤ P c - w c then P c - w c else -(P c - w c)
def lcZ (P w : Int → Int) : Int → Int := fun c => if P c = w c then 2 ^ c.toNat else 0
section PM
variable {P w : Int → Int} {k : Int}
theorem dp_neg (h0 : 0 ≤ k) (h : P k = -1) : sumZ (dpZ P w) (Int.toNat (k + 1)) = sumZ (dpZ P w) (Int.toNat k) := by
  rw [sumZ_s h0, show dpZ P w k = 0 from if_pos h, Int.add_zero]
theorem dp_up (h0 : 0 ≤ k) (h : 0 ≤ P k) (h2 : P k < w k) : sumZ (dpZ P w) (Int.toNat (k + 1)) = sumZ (dpZ P w) (Int.toNat k) + (w k - P k) := by
  have e : dpZ P w k = w k - P k := by
    show (if P k = -1 then 0 else if 0 ≤ P k - w k then P k - w k else -(P k - w k)) = w k - P k
    rw [if_neg (by omega), if_neg (by omega)]
    omega
  rw [sumZ_s h0, e]
theorem dp_dn (h0 : 0 ≤ k) (h : 0 ≤ P k) (h2 : w k ≤ P k) : sumZ (dpZ P w) (Int.toNat (k + 1)) = sumZ (dpZ P w) (Int.toNat k) + (P k - w k) := by
  have e : dpZ P w k = P k - w k := by
    show (if P k = -1 then 0 else if 0 ≤ P k - w k then P k - w k else -(P k - w k)) = P k - w k
    rw [if_neg (by omega), if_pos (by omega)]
  rw [sumZ_s h0, e]
theorem lc_eq (h0 : 0 ≤ k) (h : P k = w k) : sumZ (lcZ P w) (Int.toNat (k + 1)) = sumZ (lcZ P w) (Int.toNat k) + 2 ^ k.toNat := by
  rw [sumZ_s h0, show lcZ P w k = 2 ^ k.toNat from if_pos h]
theorem lc_ne (h0 : 0 ≤ k) (h : P k ≠ w k) : sumZ (lcZ P w) (Int.toNat (k + 1)) = sumZ (lcZ P w) (Int.toNat k) + 0 := by
  rw [sumZ_s h0, show lcZ P w k = 0 from if_neg h]
theorem lc_or (h : 0 ≤ k ∧ k < 9) : zI (sumZ (lcZ P w) (Int.toNat k)) ||| zI (2 ^ k.toNat) = zI (sumZ (lcZ P w) (Int.toNat k) + 2 ^ k.toNat) := lk_or (P := P) (w := w) h
end PM
section PR
variable {n : Int} {cap : Int → Int} {ru re : Int} {w : Int → Int} {q v z : Int}
theorem rk_back (hl : ∀ j : Int, 0 ≤ j → j < q → 0 ≤ ppl n cap ru re w j) (hv : v = sumZ (rkF n cap ru re w q) q.toNat) (h : Hid (∃ i : Int, 0 ≤ i ∧ i ≤ q ∧ z = sumZ (rkF n cap ru re w q) i.toNat ∧ ((i = q ∧ ∀ j : Int, 0 ≤ j → j < i → 0 ≤ ppl n cap ru re w j) ∨ (0 < i ∧ ppl n cap ru re w (i - 1) = -1 ∧ ∀ j : Int, 0 ≤ j → j < i - 1 → 0 ≤ ppl n cap ru re w j)))) : z = v := by
  obtain ⟨i, a, b, d, e⟩ := h
  rcases e with ⟨x, _⟩ | ⟨x, y, _⟩
  · rw [d, hv, x]
  · have := hl (i - 1) (by omega) (by omega)
    omega
end PR
