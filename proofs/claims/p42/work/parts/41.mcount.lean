/-! the model: lists are counted -/
theorem dgZ_rg {n code q k : Int} (h : 1 ≤ n) : 0 ≤ dgZ n code q k ∧ dgZ n code q k < n := ⟨Int.emod_nonneg _ (by omega), Int.emod_lt_of_pos _ (by omega)⟩
theorem sprZ_at {n code q : Int} {mr : Int → Int} {j : Int} (h0 : 0 ≤ j) (h1 : j < q) : sprZ n code q mr 0 j = dgZ n code q j := if_pos ⟨h0, h1⟩
def lkZ (n : Int) (cap : Int → Int) (ru re : Int) (wi : Int → Int) (k : Nat) : Int := sumZ (fun c => if ppl n cap ru re wi c = wi c then 1 else 0) k
def meZ (wt n : Int) (cap : Int → Int) (ru re : Int) (wi : Int → Int) (k : Nat) : Int := if wt = 1 then lkZ n cap ru re wi k else if wt = 2 then sumZ wi k else lvZ n cap ru re wi k
/-- 1 where the list of a code is counted -/
def qI (wt x n : Int) (cap : Int → Int) (ru re q code : Int) : Int := if (wt = 0 ∨ lvZ n cap ru re (dgZ n code q) q.toNat = 0) ∧ meZ wt n cap ru re (dgZ n code q) q.toNat = x then 1 else 0
theorem qI_rg (wt x n : Int) (cap : Int → Int) (ru re q code : Int) : 0 ≤ qI wt x n cap ru re q code ∧ qI wt x n cap ru re q code ≤ 1 := by
  unfold qI
  split <;> omega
theorem me_0 {wt n : Int} {cap : Int → Int} {ru re : Int} {wi : Int → Int} {k : Nat} (h : wt = 0) : meZ wt n cap ru re wi k = lvZ n cap ru re wi k := by
  unfold meZ
  rw [if_neg (by omega), if_neg (by omega)]
theorem me_1 {wt n : Int} {cap : Int → Int} {ru re : Int} {wi : Int → Int} {k : Nat} (h : wt = 1) : meZ wt n cap ru re wi k = lkZ n cap ru re wi k := if_pos h
theorem me_2 {wt n : Int} {cap : Int → Int} {ru re : Int} {wi : Int → Int} {k : Nat} (h : wt = 2) : meZ wt n cap ru re wi k = sumZ wi k := by
  unfold meZ
  rw [if_neg (by omega), if_pos h]
theorem qI_d1 {wt x n : Int} {cap : Int → Int} {ru re q code : Int} (h : wt = 0) (h2 : lvZ n cap ru re (dgZ n code q) q.toNat = x) : qI wt x n cap ru re q code = 1 := if_pos ⟨Or.inl h, by rw [me_0 h]; exact h2⟩
theorem qI_d0 {wt x n : Int} {cap : Int → Int} {ru re q code : Int} (h : wt = 0) (h2 : lvZ n cap ru re (dgZ n code q) q.toNat ≠ x) : qI wt x n cap ru re q code = 0 := if_neg (fun u => h2 (by rw [← me_0 (wt := wt) h]; exact u.2))
theorem qI_n {wt x n : Int} {cap : Int → Int} {ru re q code : Int} (h : wt ≠ 0) (h2 : lvZ n cap ru re (dgZ n code q) q.toNat ≠ 0) : qI wt x n cap ru re q code = 0 := if_neg (fun u => u.1.elim h h2)
theorem qI_l1 {wt x n : Int} {cap : Int → Int} {ru re q code : Int} (h : wt = 1) (h2 : lvZ n cap ru re (dgZ n code q) q.toNat = 0) (h3 : lkZ n cap ru re (dgZ n code q) q.toNat = x) : qI wt x n cap ru re q code = 1 := if_pos ⟨Or.inr h2, by rw [me_1 h]; exact h3⟩
theorem qI_l0 {wt x n : Int} {cap : Int → Int} {ru re q code : Int} (h : wt = 1) (h3 : lkZ n cap ru re (dgZ n code q) q.toNat ≠ x) : qI wt x n cap ru re q code = 0 := if_neg (fun u => h3 (by rw [← me_1 (wt := wt) h]; exact u.2))
theorem qI_s1 {wt x n : Int} {cap : Int → Int} {ru re q code : Int} (h : wt = 2) (h2 : lvZ n cap ru re (dgZ n code q) q.toNat = 0) (h3 : sumZ (dgZ n code q) q.toNat = x) : qI wt x n cap ru re q code = 1 := if_pos ⟨Or.inr h2, by rw [me_2 h]; exact h3⟩
theorem qI_s0 {wt x n : Int} {cap : Int → Int} {ru re q code : Int} (h : wt = 2) (h3 : sumZ (dgZ n code q) q.toNat ≠ x) : qI wt x n cap ru re q code = 0 := if_neg (fun u => h3 (by rw [← me_2 (n := n) (cap := cap) (ru := ru) (re := re) (wt := wt) h]; exact u.2))
theorem sum01 {f : Int → Int} (h : ∀ j : Int, 0 ≤ f j ∧ f j ≤ 1) (k : Nat) : 0 ≤ sumZ f k ∧ sumZ f k ≤ k := by
  have := sumZ_rg (f := f) (c := 1) k (fun j _ _ => h j)
  omega
theorem wrP_congr {pa v w : Int → Int} {a i : Int} (h : ∀ j : Int, 0 ≤ j → j < i → v j = w j) : wrP pa v a i = wrP pa w a i := by
  funext k
  unfold wrP
  by_cases u : a ≤ k ∧ k < a + i
  · rw [if_pos u, if_pos u]
    exact h _ (by omega) (by omega)
  · rw [if_neg u, if_neg u]
/-- a list as a number -/
def codZ (n : Int) (w : Int → Int) : Nat → Int
  | 0 => 0
  | k + 1 => n * codZ n w k + w (k : Int)
theorem codZ_s {n : Int} {w : Int → Int} {i : Int} (h : 0 ≤ i) : codZ n w (i + 1).toNat = n * codZ n w i.toNat + w i := by
  obtain ⟨j, rfl⟩ := Int.eq_ofNat_of_zero_le h
  have e : ((j : Int) + 1).toNat = j + 1 := by omega
  rw [e, Int.toNat_natCast]
  rfl
theorem codZ_rg {n : Int} (hn : 1 ≤ n ∧ n ≤ 8) {w : Int → Int} : ∀ k : Nat, (∀ j : Int, 0 ≤ j → j < k → 0 ≤ w j ∧ w j < n) → 0 ≤ codZ n w k ∧ codZ n w k < powZ n k
  | 0, _ => (by decide : (0 : Int) ≤ 0 ∧ (0 : Int) < 1)
  | k + 1, h => by
    have h1 := codZ_rg hn k (fun j h0 h1 => h j h0 (by omega))
    have h2 := h (k : Int) (by omega) (by omega)
    show 0 ≤ n * codZ n w k + w (k : Int) ∧ n * codZ n w k + w (k : Int) < powZ n k * n
    have h3 : 0 ≤ n * codZ n w k := Int.mul_nonneg (by omega) h1.1
    have h4 : n * (codZ n w k + 1) ≤ n * powZ n k := Int.mul_le_mul_of_nonneg_left (by omega) (by omega)
    rw [Int.mul_add, Int.mul_one] at h4
    rw [Int.mul_comm (powZ n k) n]
    omega
