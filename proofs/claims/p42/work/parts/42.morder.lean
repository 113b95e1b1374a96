/-! orders by their codes -/
theorem cntE_congr {f g : Int → Int} {s : Int} : ∀ k : Nat, (∀ j : Int, 0 ≤ j → j < k → f j = g j) → cntE f s k = cntE g s k
  | 0, _ => rfl
  | k + 1, h => by
    show cntE f s k + _ = cntE g s k + _
    rw [cntE_congr k (fun j h0 h1 => h j h0 (by omega)), h k (by omega) (by omega)]
theorem codZ_congr {n : Int} {f g : Int → Int} : ∀ k : Nat, (∀ j : Int, 0 ≤ j → j < k → f j = g j) → codZ n f k = codZ n g k
  | 0, _ => rfl
  | k + 1, h => by
    show n * codZ n f k + f (k : Int) = n * codZ n g k + g (k : Int)
    rw [codZ_congr k (fun j h0 h1 => h j h0 (by omega)), h k (by omega) (by omega)]
theorem fdiff (f g : Int → Int) : ∀ k : Nat, (∀ j : Int, 0 ≤ j → j < k → f j = g j) ∨ ∃ d : Int, 0 ≤ d ∧ d < k ∧ f d ≠ g d ∧ ∀ j : Int, 0 ≤ j → j < d → f j = g j
  | 0 => Or.inl (fun j _ b => absurd b (by omega))
  | k + 1 => by
    rcases fdiff f g k with h | ⟨d, h0, h1, h2, h3⟩
    · by_cases q : f k = g k
      · left
        intro j a b
        by_cases e : j = k
        · rw [e]
          exact q
        · exact h j a (by omega)
      · right
        exact ⟨k, by omega, by omega, q, h⟩
    · right
      exact ⟨d, h0, by omega, h2, h3⟩
theorem cod_lt {n : Int} (hn : 1 ≤ n) {f g : Int → Int} {d : Int} (h0 : 0 ≤ d) (he : ∀ j : Int, 0 ≤ j → j < d → f j = g j) (hd : f d < g d) : ∀ k : Nat, d < k → (∀ j : Int, 0 ≤ j → j < k → 0 ≤ f j ∧ f j < n) → (∀ j : Int, 0 ≤ j → j < k → 0 ≤ g j ∧ g j < n) → codZ n f k < codZ n g k
  | 0, h, _, _ => absurd h (by omega)
  | k + 1, h, hf, hg => by
    show n * codZ n f k + f (k : Int) < n * codZ n g k + g (k : Int)
    by_cases e : d = k
    · have e2 : codZ n f k = codZ n g k := codZ_congr k (fun j a b => he j a (by omega))
      rw [e2, ← e]
      omega
    · have ih := cod_lt hn h0 he hd k (by omega) (fun j a b => hf j a (by omega)) (fun j a b => hg j a (by omega))
      have h1 := hf k (by omega) (by omega)
      have h2 := hg k (by omega) (by omega)
      have h3 : n * (codZ n f k + 1) ≤ n * codZ n g k := Int.mul_le_mul_of_nonneg_left (by omega) (by omega)
      rw [Int.mul_add, Int.mul_one] at h3
      omega
theorem cnt_in {f : Int → Int} {s i : Int} {k : Nat} (h0 : 0 ≤ i) (h1 : i < k) (h : f i = s) : cntE f s i.toNat < cntE f s k := by
  have e := cntE_s (wi := f) (x := s) h0
  rw [if_pos h] at e
  have := cntE_mono f s (i + 1).toNat k (by omega)
  omega
theorem cnt_ex {f : Int → Int} {s : Int} {a : Nat} : ∀ k : Nat, cntE f s a < cntE f s k → ∃ i : Int, a ≤ i ∧ i < k ∧ f i = s
  | 0, h => by
    have h1 := cntE_rg f s a
    have h2 : cntE f s 0 = 0 := rfl
    omega
  | k + 1, h => by
    by_cases q : a ≤ k
    · by_cases e : f k = s
      · exact ⟨k, by omega, by omega, e⟩
      · have h2 : cntE f s (k + 1) = cntE f s k + 0 := by
          show cntE f s k + (if f k = s then 1 else 0) = _
          rw [if_neg e]
        obtain ⟨i, i0, i1, i2⟩ := cnt_ex k (show cntE f s a < cntE f s k by omega)
        exact ⟨i, i0, by omega, i2⟩
    · have := cntE_mono f s (k + 1) a (by omega)
      omega
/-- the same cars in another order -/
def sameC (f g : Int → Int) (k : Nat) : Prop := ∀ s : Int, cntE f s k = cntE g s k
theorem cod_max {n : Int} (hn : 1 ≤ n) {f g : Int → Int} {a : Int} {k : Nat} (hf : ∀ j : Int, 0 ≤ j → j < k → 0 ≤ f j ∧ f j < n) (hg : ∀ j : Int, 0 ≤ j → j < k → 0 ≤ g j ∧ g j < n) (hs : sameC g f k) (he : ∀ j : Int, 0 ≤ j → j < a → g j = f j) (hm : ∀ i j : Int, a ≤ i → 0 ≤ i → i ≤ j → j < k → f j ≤ f i) : codZ n g k ≤ codZ n f k := by
  rcases fdiff g f k with h | ⟨d, h0, h1, h2, h3⟩
  · rw [codZ_congr k h]
    exact Int.le_refl _
  · by_cases q : g d < f d
    · exact Int.le_of_lt (cod_lt hn h0 h3 q k h1 hg hf)
    · exfalso
      have e : cntE g (g d) d.toNat = cntE f (g d) d.toNat := cntE_congr _ (fun j a b => h3 j a (by omega))
      have e2 := cnt_in (f := g) (s := g d) h0 h1 rfl
      have e3 := hs (g d)
      obtain ⟨i, i0, i1, i2⟩ := cnt_ex (f := f) (s := g d) (a := d.toNat) k (by omega)
      have had : a ≤ d := by
        by_cases u : d < a
        · exact absurd (he d h0 u) h2
        · omega
      have := hm d i had h0 (by omega) i1
      omega
theorem cod_min {n : Int} (hn : 1 ≤ n) {f g : Int → Int} {a : Int} {k : Nat} (hf : ∀ j : Int, 0 ≤ j → j < k → 0 ≤ f j ∧ f j < n) (hg : ∀ j : Int, 0 ≤ j → j < k → 0 ≤ g j ∧ g j < n) (hs : sameC g f k) (he : ∀ j : Int, 0 ≤ j → j < a → g j = f j) (hm : ∀ i j : Int, a ≤ i → 0 ≤ i → i ≤ j → j < k → f i ≤ f j) : codZ n f k ≤ codZ n g k := by
  rcases fdiff f g k with h | ⟨d, h0, h1, h2, h3⟩
  · rw [codZ_congr k h]
    exact Int.le_refl _
  · by_cases q : f d < g d
    · exact Int.le_of_lt (cod_lt hn h0 h3 q k h1 hf hg)
    · exfalso
      have e : cntE f (g d) d.toNat = cntE g (g d) d.toNat := cntE_congr _ (fun j a b => h3 j a (by omega))
      have e2 := cnt_in (f := g) (s := g d) h0 h1 rfl
      have e3 := hs (g d)
      obtain ⟨i, i0, i1, i2⟩ := cnt_ex (f := f) (s := g d) (a := d.toNat) k (by omega)
      have had : a ≤ d := by
        by_cases u : d < a
        · exact absurd (he d h0 u).symm h2
        · omega
      have := hm d i had h0 (by omega) i1
      omega
theorem cntE_sum (f : Int → Int) (s : Int) : ∀ k : Nat, cntE f s k = sumZ (fun i => if f i = s then 1 else 0) k
  | 0 => rfl
  | k + 1 => by
    show cntE f s k + _ = sumZ _ k + _
    rw [cntE_sum f s k]
theorem cnt_swap {f : Int → Int} {i j : Int} {k : Nat} (hi : 0 ≤ i ∧ i < k) (hj : 0 ≤ j ∧ j < k) (s : Int) : cntE (swZ f i j) s k = cntE f s k := by
  by_cases e : i = j
  · have e2 : swZ f i j = f := by
      unfold swZ
      rw [e, uZ_uZ, uZ_self]
    rw [e2]
  · rw [cntE_sum, cntE_sum]
    have s1 := sum_upd (fun t => if f t = s then (1 : Int) else 0) (fun t => if uZ f i (f j) t = s then (1 : Int) else 0) i ((if f j = s then 1 else 0) - (if f i = s then 1 else 0)) hi.1 k (fun t t0 t1 => by
      show (if uZ f i (f j) t = s then (1 : Int) else 0) = (if f t = s then (1 : Int) else 0)
      rw [uZ_ne t1]) (by
      show (if uZ f i (f j) i = s then (1 : Int) else 0) = (if f i = s then (1 : Int) else 0) + ((if f j = s then 1 else 0) - (if f i = s then 1 else 0))
      rw [uZ_same]
      generalize (if f j = s then (1 : Int) else 0) = u
      generalize (if f i = s then (1 : Int) else 0) = w
      omega)
    have s2 := sum_upd (fun t => if uZ f i (f j) t = s then (1 : Int) else 0) (fun t => if swZ f i j t = s then (1 : Int) else 0) j ((if f i = s then 1 else 0) - (if f j = s then 1 else 0)) hj.1 k (fun t t0 t1 => by
      show (if uZ (uZ f i (f j)) j (f i) t = s then (1 : Int) else 0) = (if uZ f i (f j) t = s then (1 : Int) else 0)
      rw [uZ_ne t1]) (by
      show (if uZ (uZ f i (f j)) j (f i) j = s then (1 : Int) else 0) = (if uZ f i (f j) j = s then (1 : Int) else 0) + ((if f i = s then 1 else 0) - (if f j = s then 1 else 0))
      rw [uZ_same, uZ_ne (fun q => e q.symm)]
      generalize (if f j = s then (1 : Int) else 0) = u
      generalize (if f i = s then (1 : Int) else 0) = w
      omega)
    rw [if_pos (by omega)] at s1 s2
    rw [s2, s1]
    generalize (if f j = s then (1 : Int) else 0) = u
    generalize (if f i = s then (1 : Int) else 0) = w
    omega
theorem cnt_rvP {f : Int → Int} {a b : Int} {k : Nat} (ha : 0 ≤ a) (hb : b < k) (s : Int) : ∀ m : Nat, ∀ lo hi : Int, lo = a + m → hi = b - m → lo ≤ hi + 1 → cntE (rvP f a b lo hi) s k = cntE f s k
  | 0, lo, hi, h1, h2, h3 => by
    rw [show lo = a by omega, show hi = b by omega, ← rvP_0]
  | m + 1, lo, hi, h1, h2, h3 => by
    have e := rvP_s (f := f) (a := a) (b := b) (lo := lo - 1) (hi := hi + 1) (by omega)
    rw [show lo - 1 + 1 = lo by omega, show hi + 1 - 1 = hi by omega] at e
    rw [← e, cnt_swap (by omega) (by omega)]
    exact cnt_rvP ha hb s m (lo - 1) (hi + 1) (by omega) (by omega) (by omega)
theorem cnt_rvZ {f : Int → Int} {a b : Int} {k : Nat} (ha : 0 ≤ a) (hb : b < k) (hab : a ≤ b + 1) (s : Int) : cntE (rvZ f a b) s k = cntE f s k := by
  have e := rvP_end (f := f) (a := a) (b := b) (lo := a + (b - a + 1) / 2) (hi := b - (b - a + 1) / 2) (by omega)
  rw [← e]
  exact cnt_rvP ha hb s ((b - a + 1) / 2).toNat _ _ (by omega) (by omega) (by omega)
theorem rvZ_in {f : Int → Int} {a b k : Int} (h : a ≤ k ∧ k ≤ b) : rvZ f a b k = f (a + b - k) := if_pos h
theorem rvZ_out {f : Int → Int} {a b k : Int} (h : ¬ (a ≤ k ∧ k ≤ b)) : rvZ f a b k = f k := if_neg h
theorem mono_of {f : Int → Int} {a q : Int} (h : ∀ j : Int, a ≤ j → j + 1 < q → f (j + 1) ≤ f j) : ∀ (m : Nat) (i j : Int), a ≤ i → j = i + m → j < q → f j ≤ f i
  | 0, i, j, _, h2, _ => by
    rw [show j = i by omega]
    exact Int.le_refl _
  | m + 1, i, j, h1, h2, h3 => by
    have a1 := mono_of h m i (j - 1) h1 (by omega) (by omega)
    have a2 := h (j - 1) (by omega) (by omega)
    rw [show j - 1 + 1 = j by omega] at a2
    omega
theorem pow_pos1 {n : Int} (hn : 1 ≤ n ∧ n ≤ 8) (k : Nat) : 0 < powZ n k := by
  have := powZ_rg hn k
  omega
theorem cod_div {n : Int} (hn : 1 ≤ n ∧ n ≤ 8) {w : Int → Int} {k : Nat} : ∀ m : Nat, (∀ j : Int, 0 ≤ j → j < k + m → 0 ≤ w j ∧ w j < n) → codZ n w (k + m) / powZ n m = codZ n w k
  | 0, _ => Int.ediv_one _
  | m + 1, h => by
    have ih := cod_div hn (k := k) m (fun j a b => h j a (by omega))
    have h1 := h ((k + m : Nat) : Int) (by omega) (by omega)
    have e : codZ n w (k + (m + 1)) = n * codZ n w (k + m) + w ((k + m : Nat) : Int) := rfl
    have e2 : codZ n w (k + (m + 1)) / n = codZ n w (k + m) := by
      rw [e, Int.add_comm, Int.add_mul_ediv_left _ _ (by omega), Int.ediv_eq_zero_of_lt h1.1 h1.2, Int.zero_add]
    show codZ n w (k + (m + 1)) / (powZ n m * n) = _
    rw [Int.mul_comm, ← Int.ediv_ediv_of_nonneg (by omega), e2, ih]
theorem dg_cod {n q : Int} (hn : 1 ≤ n ∧ n ≤ 8) {w : Int → Int} (hq : 0 ≤ q) (h : ∀ j : Int, 0 ≤ j → j < q → 0 ≤ w j ∧ w j < n) (j : Int) (h0 : 0 ≤ j) (h1 : j < q) : dgZ n (codZ n w q.toNat) q j = w j := by
  have e := cod_div hn (w := w) (k := (j + 1).toNat) (q - 1 - j).toNat (fun i a b => h i a (by omega))
  rw [show (j + 1).toNat + (q - 1 - j).toNat = q.toNat by omega] at e
  unfold dgZ
  rw [e, codZ_s h0, Int.add_comm, Int.add_mul_emod_self_left]
  exact Int.emod_eq_of_lt (h j h0 h1).1 (h j h0 h1).2
theorem cod_dg {n code q : Int} (hn : 1 ≤ n ∧ n ≤ 8) (hq : 0 ≤ q) (h : 0 ≤ code ∧ code < powZ n q.toNat) : codZ n (dgZ n code q) q.toNat = code := by
  have key : ∀ k : Nat, k ≤ q.toNat → codZ n (dgZ n code q) k = code / powZ n (q.toNat - k) := by
    intro k
    induction k with
    | zero =>
      intro _
      show (0 : Int) = _
      exact (Int.ediv_eq_zero_of_lt h.1 h.2).symm
    | succ k ih =>
      intro hk
      have e1 : q.toNat - k = (q.toNat - (k + 1)) + 1 := by omega
      have e2 : powZ n (q.toNat - k) = powZ n (q.toNat - (k + 1)) * n := by
        rw [e1]
        rfl
      show n * codZ n (dgZ n code q) k + dgZ n code q (k : Int) = _
      rw [ih (by omega), e2, ← Int.ediv_ediv_of_nonneg (Int.le_of_lt (pow_pos1 hn _))]
      unfold dgZ
      rw [show (q - 1 - (k : Int)).toNat = q.toNat - (k + 1) by omega]
      exact Int.mul_ediv_add_emod _ _
  have e := key q.toNat (Nat.le_refl _)
  rw [Nat.sub_self] at e
  rw [e]
  exact Int.ediv_one _
/-- what the next order is -/
def GO (n q : Int) (f f1 : Int → Int) (z : Int) : Prop := (∀ j : Int, 0 ≤ j → j < q → 0 ≤ f1 j ∧ f1 j < n) ∧ sameC f1 f q.toNat ∧ ((z = 1 ∧ codZ n f q.toNat < codZ n f1 q.toNat ∧ ∀ c : Int, codZ n f q.toNat < c → c < codZ n f1 q.toNat → ¬ sameC (dgZ n c q) f q.toNat) ∨ (z = 0 ∧ (∀ c : Int, codZ n f q.toNat < c → c < powZ n q.toNat → ¬ sameC (dgZ n c q) f q.toNat) ∧ ∀ c : Int, 0 ≤ c → c < codZ n f1 q.toNat → ¬ sameC (dgZ n c q) f q.toNat))
theorem go_of {n q z : Int} {f f1 : Int → Int} (hn : 1 ≤ n ∧ n ≤ 8) (hq : 0 ≤ q) (hf : ∀ j : Int, 0 ≤ j → j < q → 0 ≤ f j ∧ f j < n) (h : ((z = 0 ∧ (∀ j : Int, 0 ≤ j → j + 1 < q → f (j + 1) ≤ f j) ∧ f1 = rvZ f 0 (q - 1)) ∨ (∃ p o : Int, 0 ≤ p ∧ p < o ∧ o < q ∧ f p < f (p + 1) ∧ (∀ j : Int, p < j → j + 1 < q → f (j + 1) ≤ f j) ∧ f p < f o ∧ (∀ i : Int, o < i → i < q → f i ≤ f p) ∧ z = 1 ∧ f1 = rvZ (swZ f p o) (p + 1) (q - 1)))) : GO n q f f1 z := by
  have hq2 : ((q.toNat : Nat) : Int) = q := by omega
  have hfk : ∀ j : Int, 0 ≤ j → j < q.toNat → 0 ≤ f j ∧ f j < n := fun j a b => hf j a (by omega)
  have cg := codZ_rg hn (w := f) q.toNat hfk
  have hdk : ∀ c j : Int, 0 ≤ j → j < q.toNat → 0 ≤ dgZ n c q j ∧ dgZ n c q j < n := fun c j _ _ => dgZ_rg hn.1
  rcases h with ⟨hz, hm, rfl⟩ | ⟨p, o, p0, p1, p2, p3, p4, p5, p6, hz, rfl⟩
  · have hm2 := mono_of (a := 0) (q := q) hm
    have hr : ∀ j : Int, 0 ≤ j → j < q → 0 ≤ rvZ f 0 (q - 1) j ∧ rvZ f 0 (q - 1) j < n := fun j a b => by
      rw [rvZ_in (by omega)]
      exact hf _ (by omega) (by omega)
    have hs : sameC (rvZ f 0 (q - 1)) f q.toNat := fun s => cnt_rvZ (Int.le_refl _) (by omega) (by omega) s
    have cr := codZ_rg hn (w := rvZ f 0 (q - 1)) q.toNat (fun j a b => hr j a (by omega))
    refine ⟨hr, hs, Or.inr ⟨hz, fun c c0 c1 u => ?_, fun c c0 c1 u => ?_⟩⟩
    · have a1 := cod_max hn.1 (a := 0) hfk (hdk c) u (fun j x y => absurd y (by omega)) (fun i j _ x y w => hm2 (j - i).toNat i j x (by omega) (by omega))
      rw [cod_dg hn hq (by omega)] at a1
      omega
    · have a1 := cod_min hn.1 (a := 0) (f := rvZ f 0 (q - 1)) (g := dgZ n c q) (k := q.toNat) (fun j a b => hr j a (by omega)) (hdk c) (fun s => (u s).trans (hs s).symm) (fun j x y => absurd y (by omega)) (fun i j _ x y w => by
        rw [rvZ_in (by omega), rvZ_in (by omega)]
        exact hm2 (j - i).toNat _ _ (by omega) (by omega) (by omega))
      rw [cod_dg hn hq (by omega)] at a1
      omega
  · have hm2 := mono_of (f := f) (a := p + 1) (q := q) (fun j a b => p4 j (by omega) b)
    have ep : swZ f p o p = f o := by
      unfold swZ
      rw [uZ_ne (by omega), uZ_same]
    have eo : swZ f p o o = f p := uZ_same _ _ _
    have ee : ∀ j : Int, j ≠ p → j ≠ o → swZ f p o j = f j := fun j a b => by
      unfold swZ
      rw [uZ_ne b, uZ_ne a]
    have hrs : ∀ j : Int, 0 ≤ j → j < q → 0 ≤ swZ f p o j ∧ swZ f p o j < n := fun j a b => by
      by_cases e1 : j = p
      · rw [e1, ep]
        exact hf _ (by omega) (by omega)
      · by_cases e2 : j = o
        · rw [e2, eo]
          exact hf _ (by omega) (by omega)
        · rw [ee j e1 e2]
          exact hf _ a b
    have hr : ∀ j : Int, 0 ≤ j → j < q → 0 ≤ rvZ (swZ f p o) (p + 1) (q - 1) j ∧ rvZ (swZ f p o) (p + 1) (q - 1) j < n := fun j a b => by
      by_cases u : p + 1 ≤ j ∧ j ≤ q - 1
      · rw [rvZ_in u]
        exact hrs _ (by omega) (by omega)
      · rw [rvZ_out u]
        exact hrs _ a b
    have hrk : ∀ j : Int, 0 ≤ j → j < q.toNat → 0 ≤ rvZ (swZ f p o) (p + 1) (q - 1) j ∧ rvZ (swZ f p o) (p + 1) (q - 1) j < n := fun j a b => hr j a (by omega)
    have hs : sameC (rvZ (swZ f p o) (p + 1) (q - 1)) f q.toNat := fun s => (cnt_rvZ (by omega) (by omega) (by omega) s).trans (cnt_swap (by omega) (by omega) s)
    have f1p : rvZ (swZ f p o) (p + 1) (q - 1) p = f o := by
      rw [rvZ_out (by omega), ep]
    have f1l : ∀ j : Int, 0 ≤ j → j < p → rvZ (swZ f p o) (p + 1) (q - 1) j = f j := fun j a b => by
      rw [rvZ_out (by omega), ee j (by omega) (by omega)]
    have hms : ∀ i j : Int, p + 1 ≤ i → i ≤ j → j < q → swZ f p o j ≤ swZ f p o i := by
      intro i j a b c
      by_cases e1 : i = o
      · by_cases e2 : j = o
        · rw [e1, e2]
          exact Int.le_refl _
        · rw [e1, eo, ee j (by omega) e2]
          exact p6 j (by omega) c
      · by_cases e2 : j = o
        · rw [e2, eo, ee i (by omega) e1]
          have := hm2 (o - i).toNat i o a (by omega) (by omega)
          omega
        · rw [ee i (by omega) e1, ee j (by omega) e2]
          exact hm2 (j - i).toNat i j a (by omega) c
    have hmi : ∀ i j : Int, p + 1 ≤ i → 0 ≤ i → i ≤ j → j < q.toNat → rvZ (swZ f p o) (p + 1) (q - 1) i ≤ rvZ (swZ f p o) (p + 1) (q - 1) j := fun i j a _ b c => by
      rw [rvZ_in (by omega), rvZ_in (by omega)]
      exact hms _ _ (by omega) (by omega) (by omega)
    have hlt : codZ n f q.toNat < codZ n (rvZ (swZ f p o) (p + 1) (q - 1)) q.toNat := cod_lt hn.1 (d := p) p0 (fun j a b => (f1l j a b).symm) (by rw [f1p]; exact p5) q.toNat (by omega) hfk hrk
    have cr := codZ_rg hn (w := rvZ (swZ f p o) (p + 1) (q - 1)) q.toNat hrk
    refine ⟨hr, hs, Or.inl ⟨hz, hlt, fun c c0 c1 u => ?_⟩⟩
    have ec := cod_dg (code := c) hn hq (by omega)
    rcases fdiff f (dgZ n c q) q.toNat with h | ⟨d, d0, d1, d2, d3⟩
    · have := codZ_congr (n := n) q.toNat h
      omega
    · by_cases hd : f d < dgZ n c q d
      · by_cases h1 : d < p
        · have := cod_lt hn.1 (f := rvZ (swZ f p o) (p + 1) (q - 1)) (g := dgZ n c q) d0 (fun j a b => (f1l j a (by omega)).trans (d3 j a b)) (by rw [f1l d d0 h1]; exact hd) q.toNat d1 hrk (hdk c)
          omega
        · by_cases h2 : d = p
          · have e : cntE (dgZ n c q) (dgZ n c q d) d.toNat = cntE f (dgZ n c q d) d.toNat := cntE_congr _ (fun j a b => (d3 j a (by omega)).symm)
            have e2 := cnt_in (f := dgZ n c q) (s := dgZ n c q d) d0 d1 rfl
            have e3 := u (dgZ n c q d)
            obtain ⟨i, i0, i1, i2⟩ := cnt_ex (f := f) (s := dgZ n c q d) (a := d.toNat) q.toNat (by omega)
            have hi : i ≠ d := fun v => by
              rw [v] at i2
              omega
            have hio : i ≤ o := by
              by_cases v : o < i
              · have := p6 i v (by omega)
                rw [h2] at hd i2
                omega
              · omega
            have h3 := hm2 (o - i).toNat i o (by omega) (by omega) (by omega)
            by_cases h4 : f o < dgZ n c q d
            · have := cod_lt hn.1 (f := rvZ (swZ f p o) (p + 1) (q - 1)) (g := dgZ n c q) d0 (fun j a b => (f1l j a (by omega)).trans (d3 j a b)) (by rw [h2, f1p, ← h2]; exact h4) q.toNat d1 hrk (hdk c)
              omega
            · have := cod_min hn.1 (a := p + 1) hrk (hdk c) (fun s => (u s).trans (hs s).symm) (fun j a b => by
                by_cases v : j = p
                · rw [v, f1p, ← h2]
                  omega
                · rw [f1l j a (by omega)]
                  exact (d3 j a (by omega)).symm) hmi
              omega
          · have := cod_max hn.1 (a := p + 1) hfk (hdk c) u (fun j a b => (d3 j a (by omega)).symm) (fun i j a _ b w => hm2 (j - i).toNat i j a (by omega) (by omega))
            omega
      · have := cod_lt hn.1 (f := dgZ n c q) (g := f) d0 (fun j a b => (d3 j a b).symm) (by omega) q.toNat d1 (hdk c) hfk
        omega
theorem go_z {n q z : Int} {f f1 : Int → Int} (h : GO n q f f1 z) : 0 ≤ z ∧ z ≤ 1 := by
  rcases h with ⟨_, _, ⟨h, _⟩ | ⟨h, _⟩⟩ <;> omega
theorem sum_gap {F : Int → Int} {a : Int} (h0 : 0 ≤ a) : ∀ m : Nat, (∀ c : Int, a ≤ c → c < a + m → F c = 0) → sumZ F (a + m).toNat = sumZ F a.toNat
  | 0, _ => by rw [show a + ((0 : Nat) : Int) = a by omega]
  | m + 1, h => by
    rw [show a + ((m + 1 : Nat) : Int) = (a + m) + 1 by omega, sumZ_s (by omega), sum_gap h0 m (fun c u w => h c u (by omega)), h (a + m) (by omega) (by omega)]
    omega
/-- 1 where the list of a code is an arrangement; for pk only where it parks -/
noncomputable def aI (pk n : Int) (cap : Int → Int) (ru re : Int) (w : Int → Int) (q code : Int) : Int := @ite Int (sameC (dgZ n code q) w q.toNat ∧ (pk = 0 ∨ lvZ n cap ru re (dgZ n code q) q.toNat = 0)) (Classical.propDecidable _) 1 0
theorem aI_0 {pk n : Int} {cap : Int → Int} {ru re : Int} {w : Int → Int} {q code : Int} (h : ¬ sameC (dgZ n code q) w q.toNat) : aI pk n cap ru re w q code = 0 := if_neg (fun u => h u.1)
theorem aI_at {pk n : Int} {cap : Int → Int} {ru re : Int} {w f : Int → Int} {q : Int} (hn : 1 ≤ n ∧ n ≤ 8) (hq : 0 ≤ q) (hf : ∀ j : Int, 0 ≤ j → j < q → 0 ≤ f j ∧ f j < n) (hs : sameC f w q.toNat) : ((pk = 0 ∨ lvZ n cap ru re f q.toNat = 0) → aI pk n cap ru re w q (codZ n f q.toNat) = 1) ∧ (pk ≠ 0 → lvZ n cap ru re f q.toNat ≠ 0 → aI pk n cap ru re w q (codZ n f q.toNat) = 0) := by
  have e := dg_cod hn hq hf
  have e1 : sameC (dgZ n (codZ n f q.toNat) q) w q.toNat := fun s => (cntE_congr _ (fun j a b => e j a (by omega))).trans (hs s)
  have e2 : lvZ n cap ru re (dgZ n (codZ n f q.toNat) q) q.toNat = lvZ n cap ru re f q.toNat := lvZ_congr _ (fun j a b => e j a (by omega))
  refine ⟨fun h => ?_, fun h1 h2 => ?_⟩
  · have c : sameC (dgZ n (codZ n f q.toNat) q) w q.toNat ∧ (pk = 0 ∨ lvZ n cap ru re (dgZ n (codZ n f q.toNat) q) q.toNat = 0) := ⟨e1, by rw [e2]; exact h⟩
    exact if_pos c
  · have c : ¬ (sameC (dgZ n (codZ n f q.toNat) q) w q.toNat ∧ (pk = 0 ∨ lvZ n cap ru re (dgZ n (codZ n f q.toNat) q) q.toNat = 0)) := fun u => by
      have u2 := u.2
      rw [e2] at u2
      exact u2.elim h1 h2
    exact if_neg c
theorem go1_1 {pk n q z : Int} {cap : Int → Int} {ru re : Int} {w f f1 : Int → Int} (h : GO n q f f1 z) (hz : z = 1) (hn : 1 ≤ n ∧ n ≤ 8) (hq : 0 ≤ q) (hf : ∀ j : Int, 0 ≤ j → j < q → 0 ≤ f j ∧ f j < n) (hs : sameC f w q.toNat) : sumZ (aI pk n cap ru re w q) (codZ n f1 q.toNat).toNat = sumZ (aI pk n cap ru re w q) (codZ n f q.toNat).toNat + aI pk n cap ru re w q (codZ n f q.toNat) := by
  rcases h with ⟨_, _, ⟨h1, h2, h3⟩ | ⟨h1, _⟩⟩
  · have cg := codZ_rg hn (w := f) q.toNat (fun j a b => hf j a (by omega))
    have e := sum_gap (F := aI pk n cap ru re w q) (a := codZ n f q.toNat + 1) (by omega) (codZ n f1 q.toNat - codZ n f q.toNat - 1).toNat (fun c a b => aI_0 (fun u => h3 c (by omega) (by omega) (fun s => (u s).trans (hs s).symm)))
    rw [show codZ n f q.toNat + 1 + (((codZ n f1 q.toNat - codZ n f q.toNat - 1).toNat : Nat) : Int) = codZ n f1 q.toNat by omega] at e
    rw [e, sumZ_s cg.1]
  · omega
theorem go0_1 {pk n q z : Int} {cap : Int → Int} {ru re : Int} {w f f1 : Int → Int} (h : GO n q f f1 z) (hz : z = 0) (hn : 1 ≤ n ∧ n ≤ 8) (hq : 0 ≤ q) (hf : ∀ j : Int, 0 ≤ j → j < q → 0 ≤ f j ∧ f j < n) (hs : sameC f w q.toNat) : sumZ (aI pk n cap ru re w q) (powZ n q.toNat).toNat = sumZ (aI pk n cap ru re w q) (codZ n f q.toNat).toNat + aI pk n cap ru re w q (codZ n f q.toNat) := by
  rcases h with ⟨_, _, ⟨h1, _⟩ | ⟨h1, h2, h3⟩⟩
  · omega
  · have cg := codZ_rg hn (w := f) q.toNat (fun j a b => hf j a (by omega))
    have e := sum_gap (F := aI pk n cap ru re w q) (a := codZ n f q.toNat + 1) (by omega) (powZ n q.toNat - codZ n f q.toNat - 1).toNat (fun c a b => aI_0 (fun u => h2 c (by omega) (by omega) (fun s => (u s).trans (hs s).symm)))
    rw [show codZ n f q.toNat + 1 + (((powZ n q.toNat - codZ n f q.toNat - 1).toNat : Nat) : Int) = powZ n q.toNat by omega] at e
    rw [e, sumZ_s cg.1]
theorem go_s {pk n q z : Int} {cap : Int → Int} {ru re : Int} {w f f1 : Int → Int} (h : GO n q f f1 z) (hz : z = 0) (hn : 1 ≤ n ∧ n ≤ 8) (hs : sameC f w q.toNat) : sumZ (aI pk n cap ru re w q) (codZ n f1 q.toNat).toNat = 0 := by
  rcases h with ⟨hr, _, ⟨h1, _⟩ | ⟨h1, h2, h3⟩⟩
  · omega
  · exact sumZ_0 _ (fun c a b => aI_0 (fun u => h3 c a (by omega) (fun s => (u s).trans (hs s).symm)))
theorem go_lt {n q z : Int} {f f1 : Int → Int} (h : GO n q f f1 z) (hz : z = 1) : codZ n f q.toNat < codZ n f1 q.toNat := by
  rcases h with ⟨_, _, ⟨_, h2, _⟩ | ⟨h1, _⟩⟩
  · exact h2
  · omega
