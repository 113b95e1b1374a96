/-! the model: all lists, orders -/
theorem powZ_mono {n : Int} (h : 1 ≤ n ∧ n ≤ 8) (a : Nat) : ∀ b : Nat, a ≤ b → powZ n a ≤ powZ n b
  | 0, q => by rw [show a = 0 by omega]; exact Int.le_refl _
  | b + 1, q => by
    by_cases e : a = b + 1
    · rw [e]; exact Int.le_refl _
    · have h1 := powZ_mono h a b (by omega)
      have h2 := powZ_s (n := n) (i := (b : Int)) (by omega)
      have h3 := powZ_rg h b
      rw [show ((b : Int) + 1).toNat = b + 1 by omega, Int.toNat_natCast] at h2
      rw [h2]
      have h4 : powZ n b * 1 ≤ powZ n b * n := Int.mul_le_mul_of_nonneg_left h.1 (by omega)
      omega
def dgZ (n code q k : Int) : Int := code / powZ n (q - 1 - k).toNat % n
def sprZ (n code q : Int) (mr : Int → Int) (i : Int) : Int → Int := fun k => if i ≤ k ∧ k < q then dgZ n code q k else mr k
theorem sprZ_0 (n code q : Int) (mr : Int → Int) : mr = sprZ n code q mr (q - 1 + 1) := by
  funext k
  exact (if_neg (by omega)).symm
theorem sprZ_s {n code q k v : Int} {mr : Int → Int} (hk : 0 ≤ k ∧ k < q) (hv : v = dgZ n code q k) : uZ (sprZ n code q mr (k + 1)) k v = sprZ n code q mr (k - 1 + 1) := by
  funext j
  by_cases e : j = k
  · rw [e, uZ_same, hv]
    exact (if_pos (by omega)).symm
  · rw [uZ_ne e]
    unfold sprZ
    by_cases e2 : k + 1 ≤ j ∧ j < q
    · rw [if_pos e2, if_pos (by omega)]
    · rw [if_neg e2, if_neg (by omega)]
theorem div_s {n code q k : Int} (hn : 1 ≤ n ∧ n ≤ 8) (h : 0 ≤ k ∧ k < q) : code / powZ n (q - 1 - k).toNat / n = code / powZ n (q - 1 - (k - 1)).toNat := by
  have h2 := powZ_s (n := n) (i := q - 1 - k) (by omega)
  rw [show q - 1 - (k - 1) = q - 1 - k + 1 by omega, h2]
  rw [Int.ediv_ediv, if_neg (fun u => by have u1 := u.1; have := powZ_rg hn (q - 1 - k).toNat; omega), Int.sub_zero]
