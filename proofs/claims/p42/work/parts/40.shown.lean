/-! the model: what a parked list shows -/
theorem zI_or0 (a : Int) : zI a ||| zI 0 = zI (a + 0) := by
  rw [Int.add_zero]
  exact Int32.or_zero
theorem lvZ_s {n : Int} {cap : Int → Int} {ru re : Int} {wi : Int → Int} (k : Nat) : lvZ n cap ru re wi (k + 1) = lvZ n cap ru re wi k + (if ppl n cap ru re wi (k : Int) = -1 then 1 else 0) := rfl
theorem lvZ_rg {n : Int} {cap : Int → Int} {ru re : Int} {wi : Int → Int} : ∀ k : Nat, 0 ≤ lvZ n cap ru re wi k ∧ lvZ n cap ru re wi k ≤ k
  | 0 => ⟨Int.le_refl _, Int.le_refl _⟩
  | k + 1 => by
    have h := lvZ_rg (n := n) (cap := cap) (ru := ru) (re := re) (wi := wi) k
    rw [lvZ_s]
    split <;> omega
theorem lv_no {n : Int} {cap : Int → Int} {ru re : Int} {wi : Int → Int} : ∀ k : Nat, lvZ n cap ru re wi k ≤ 0 → ∀ j : Int, 0 ≤ j → j < k → ppl n cap ru re wi j ≠ -1
  | 0, _ => fun j h0 h1 => absurd h1 (by omega)
  | k + 1, h => by
    rw [lvZ_s] at h
    have h2 := lvZ_rg (n := n) (cap := cap) (ru := ru) (re := re) (wi := wi) k
    intro j h0 h1
    by_cases e : j = k
    · rw [e]
      intro q
      rw [if_pos q] at h
      omega
    · exact lv_no k (by split at h <;> omega) j h0 (by omega)
theorem lv_0 {n : Int} {cap : Int → Int} {ru re : Int} {wi : Int → Int} : ∀ k : Nat, (∀ j : Int, 0 ≤ j → j < k → ppl n cap ru re wi j ≠ -1) → lvZ n cap ru re wi k = 0
  | 0, _ => rfl
  | k + 1, h => by
    rw [lvZ_s, lv_0 k (fun j h0 h1 => h j h0 (by omega)), if_neg (h k (by omega) (by omega))]
    rfl
