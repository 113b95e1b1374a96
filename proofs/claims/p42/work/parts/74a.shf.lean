/-! a shifted list lies in the spaces; arrays changed alike -/
theorem shf_rg {n : Int} {wi : Int → Int} (hn : 1 ≤ n ∧ n ≤ 8) (hw : ∀ j : Int, 0 ≤ j → j < n → 0 ≤ wi j ∧ wi j < n) (j : Int) (h0 : 0 ≤ j) (h1 : j < n) : 0 ≤ cpZ (shfZ n wi) wi n j ∧ cpZ (shfZ n wi) wi n j < n := by
  rw [cpZ_lt h1]
  exact ⟨Int.emod_nonneg _ (by omega), shf_lt hn hw j h0 h1⟩
theorem shf_std {n : Int} {wi : Int → Int} (hn : 1 ≤ n ∧ n ≤ 8) (hw : ∀ j : Int, 0 ≤ j → j < n → 0 ≤ wi j ∧ wi j < n) : stdB (cpZ (shfZ n wi) wi n) n n := std_cg (fun j _ b => (cpZ_lt b).symm) (std_shf hn hw)
theorem uZ_cg {f g : Int → Int} {i x j : Int} (h : f j = g j) : uZ f i x j = uZ g i x j := by
  unfold uZ
  split
  · rfl
  · exact h
theorem uZ_rg {f : Int → Int} {i x j lo hi : Int} (hf : j ≠ i → lo ≤ f j ∧ f j ≤ hi) (h : lo ≤ x ∧ x ≤ hi) : lo ≤ uZ f i x j ∧ uZ f i x j ≤ hi := by
  unfold uZ
  by_cases e : j = i
  · rw [if_pos e]
    exact h
  · rw [if_neg e]
    exact hf e
theorem uZ_rl {f : Int → Int} {i x j lo hi : Int} (hf : j ≠ i → lo ≤ f j ∧ f j < hi) (h : lo ≤ x ∧ x < hi) : lo ≤ uZ f i x j ∧ uZ f i x j < hi := by
  unfold uZ
  by_cases e : j = i
  · rw [if_pos e]
    exact h
  · rw [if_neg e]
    exact hf e
theorem nZ_id {n : Int} (hn : 1 ≤ n ∧ n ≤ 8) : nZ n = n := by
  unfold nZ
  by_cases q : n < 8
  · rw [if_pos q]
    split <;> omega
  · rw [if_neg q]
    split <;> omega
