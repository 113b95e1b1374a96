/-! paths: rows by spaces and cars -/
def cntE (wi : Int → Int) (x : Int) : Nat → Int
  | 0 => 0
  | k + 1 => cntE wi x k + (if wi (k : Int) = x then 1 else 0)
theorem cntE_s {wi : Int → Int} {x i : Int} (h : 0 ≤ i) : cntE wi x (i + 1).toNat = cntE wi x i.toNat + (if wi i = x then 1 else 0) := by
  obtain ⟨j, rfl⟩ := Int.eq_ofNat_of_zero_le h
  have e : ((j : Int) + 1).toNat = j + 1 := by omega
  rw [e, Int.toNat_natCast]
  rfl
theorem cntE_rg (wi : Int → Int) (x : Int) : ∀ k : Nat, 0 ≤ cntE wi x k ∧ cntE wi x k ≤ k
  | 0 => ⟨Int.le_refl _, Int.le_refl _⟩
  | k + 1 => by
    have := cntE_rg wi x k
    show 0 ≤ cntE wi x k + _ ∧ cntE wi x k + _ ≤ _
    split <;> omega
theorem cntB_E (wi : Int → Int) (x : Int) : ∀ k : Nat, cntB wi (x + 1) k = cntB wi x k + cntE wi x k
  | 0 => rfl
  | k + 1 => by
    show cntB wi (x + 1) k + _ = cntB wi x k + _ + (cntE wi x k + _)
    rw [cntB_E wi x k]
    by_cases h : wi k < x
    · rw [if_pos (by omega), if_pos h, if_neg (by omega)]; omega
    · by_cases h2 : wi k = x
      · rw [if_pos (by omega), if_neg h, if_pos h2]; omega
      · rw [if_neg (by omega), if_neg h, if_neg h2]; omega
theorem cntE_mono (wi : Int → Int) (x : Int) (i : Nat) : ∀ k : Nat, i ≤ k → cntE wi x i ≤ cntE wi x k
  | 0, h => by rw [show i = 0 by omega]; exact Int.le_refl _
  | k + 1, h => by
    show cntE wi x i ≤ cntE wi x k + _
    by_cases q : i = k + 1
    · rw [q]
      show cntE wi x k + _ ≤ _
      exact Int.le_refl _
    · have := cntE_mono wi x i k (by omega)
      split <;> omega
theorem cntB_mono (wi : Int → Int) {x y : Int} (h : x ≤ y) : ∀ k : Nat, cntB wi x k ≤ cntB wi y k
  | 0 => Int.le_refl _
  | k + 1 => by
    have := cntB_mono wi h k
    show cntB wi x k + _ ≤ cntB wi y k + _
    split <;> split <;> omega
theorem cntB_0 {wi : Int → Int} : ∀ k : Nat, (∀ j : Int, 0 ≤ j → j < k → 0 ≤ wi j) → cntB wi 0 k = 0
  | 0, _ => rfl
  | k + 1, h => by
    show cntB wi 0 k + _ = 0
    have := h k (by omega) (by omega)
    rw [cntB_0 k (fun j h0 h1 => h j h0 (by omega)), if_neg (by omega)]
    rfl
/-- the row of a car -/
def rk (wi : Int → Int) (ct j : Int) : Int := cntB wi (wi j) ct.toNat + cntE wi (wi j) j.toNat
def rR (wi : Int → Int) (ct s c : Int) : Int := cntB wi s ct.toNat + cntE wi s c.toNat
theorem rR_0 (wi : Int → Int) (ct s : Int) : rR wi ct s 0 = cntB wi s ct.toNat := Int.add_zero _
theorem rR_rg {wi : Int → Int} {ct s c : Int} (hc : 0 ≤ c ∧ c ≤ ct) : 0 ≤ rR wi ct s c ∧ rR wi ct s c ≤ ct := by
  have h1 := cntB_rg wi s ct.toNat
  have h2 := cntE_rg wi s c.toNat
  have h3 := cntE_mono wi s c.toNat ct.toNat (by omega)
  have h4 := cntB_E wi s ct.toNat
  have h5 := cntB_rg wi (s + 1) ct.toNat
  unfold rR
  omega
theorem rR_s {wi : Int → Int} {ct s c : Int} (h : 0 ≤ c) : rR wi ct s (c + 1) = rR wi ct s c + (if wi c = s then 1 else 0) := by
  unfold rR
  rw [cntE_s h, Int.add_assoc]
theorem rR_n {wi : Int → Int} {ct s : Int} : rR wi ct s ct = cntB wi (s + 1) ct.toNat := (cntB_E wi s ct.toNat).symm
theorem rk_lt {wi : Int → Int} {ct s c j : Int} (hj : 0 ≤ j ∧ j < ct) (h : wi j < s ∨ (wi j = s ∧ j < c)) : rk wi ct j < rR wi ct s c := by
  rcases h with h | ⟨h1, h2⟩
  · have h1 := rR_s (wi := wi) (ct := ct) (s := wi j) hj.1
    rw [if_pos rfl] at h1
    have h2 : rR wi ct (wi j) (j + 1) ≤ rR wi ct (wi j) ct := by
      unfold rR
      have := cntE_mono wi (wi j) (j + 1).toNat ct.toNat (by omega)
      omega
    rw [rR_n] at h2
    have h3 := cntB_mono wi (show wi j + 1 ≤ s by omega) ct.toNat
    have h4 := cntE_rg wi s c.toNat
    have e1 : rk wi ct j = rR wi ct (wi j) j := rfl
    have e2 : rR wi ct s c = cntB wi s ct.toNat + cntE wi s c.toNat := rfl
    omega
  · have h3 := rR_s (wi := wi) (ct := ct) (s := wi j) hj.1
    rw [if_pos rfl] at h3
    have h4 : rR wi ct (wi j) (j + 1) ≤ rR wi ct (wi j) c := by
      unfold rR
      have := cntE_mono wi (wi j) (j + 1).toNat c.toNat (by omega)
      omega
    have e1 : rk wi ct j = rR wi ct (wi j) j := rfl
    rw [← h1]
    omega
def drawn (wi : Int → Int) (ct s c : Int) (la aa : Int → Int) : Prop := ∀ j : Int, 0 ≤ j → j < ct → 0 ≤ wi j → (wi j < s ∨ (wi j = s ∧ j < c)) → la (rk wi ct j) = j ∧ aa (rk wi ct j) = rk wi ct j - wi j
theorem drawn_0 {wi : Int → Int} {ct : Int} {la aa : Int → Int} : drawn wi ct 0 0 la aa := fun j h0 _ h2 h3 => absurd h3 (by omega)
theorem drawn_put {wi : Int → Int} {ct s c r : Int} {la aa : Int → Int} (h : drawn wi ct s c la aa) (hc : 0 ≤ c) (hw : wi c = s) (hr : r = rR wi ct s c) : drawn wi ct s (c + 1) (uZ la r c) (uZ aa r (r - s)) := by
  intro j h0 h1 h2 h3
  by_cases q : j = c
  · subst q
    have e : rk wi ct j = r := by rw [hr, ← hw]; rfl
    rw [e, uZ_same, uZ_same, hw]
    exact ⟨rfl, rfl⟩
  · have h4 : wi j < s ∨ (wi j = s ∧ j < c) := by omega
    have h5 := rk_lt ⟨h0, h1⟩ h4
    rw [uZ_ne (by omega), uZ_ne (by omega)]
    exact h j h0 h1 h2 h4
theorem drawn_skip {wi : Int → Int} {ct s c : Int} {la aa : Int → Int} (h : drawn wi ct s c la aa) (hw : wi c ≠ s) : drawn wi ct s (c + 1) la aa := by
  intro j h0 h1 h2 h3
  refine h j h0 h1 h2 ?_
  rcases h3 with h3 | ⟨h3, h4⟩
  · exact Or.inl h3
  · right
    refine ⟨h3, ?_⟩
    by_cases q : j = c
    · subst q; exact absurd h3 hw
    · omega
theorem drawn_next {wi : Int → Int} {ct s : Int} {la aa : Int → Int} (h : drawn wi ct s ct la aa) : drawn wi ct (s + 1) 0 la aa := fun j h0 h1 h2 h3 => h j h0 h1 h2 (by omega)
/-- rows seen before, from the greatest area on -/
def vW (aa : Int → Int) (n w r : Int) : Int := sumZ (fun i => if w < aa i ∨ (w = aa i ∧ r < i) then 1 else 0) n.toNat
theorem vW_rg (aa : Int → Int) {n : Int} (hn : 0 ≤ n) (w r : Int) : 0 ≤ vW aa n w r ∧ vW aa n w r ≤ n := by
  have h := sumZ_rg (f := fun i => if w < aa i ∨ (w = aa i ∧ r < i) then (1 : Int) else 0) (c := 1) n.toNat (fun j _ _ => by
    show 0 ≤ (if _ then (1 : Int) else 0) ∧ (if _ then (1 : Int) else 0) ≤ 1
    split <;> omega)
  unfold vW
  omega
theorem vW_s {aa : Int → Int} {n w r : Int} (hr : 0 ≤ r ∧ r < n) : vW aa n w (r - 1) = vW aa n w r + (if aa r = w then 1 else 0) := by
  unfold vW
  rw [sum_upd (fun i => if w < aa i ∨ (w = aa i ∧ r < i) then (1 : Int) else 0) (fun i => if w < aa i ∨ (w = aa i ∧ r - 1 < i) then (1 : Int) else 0) r (if aa r = w then 1 else 0) hr.1 n.toNat ?_ ?_, if_pos (by omega)]
  · intro j h0 h1
    by_cases q : w < aa j ∨ (w = aa j ∧ r < j)
    · rw [if_pos q, if_pos (by omega)]
    · rw [if_neg q, if_neg (by omega)]
  · by_cases q : aa r = w
    · rw [if_pos q, if_pos (by omega), if_neg (by omega)]; rfl
    · rw [if_neg q]
      by_cases q2 : w < aa r
      · rw [if_pos (Or.inl q2), if_pos (Or.inl q2)]; rfl
      · rw [if_neg (by omega), if_neg (by omega)]; rfl
theorem vW_next {aa : Int → Int} {n w : Int} : vW aa n (w - 1) (n - 1) = vW aa n w (-1) := by
  refine sumZ_congr _ (fun j h0 h1 => ?_)
  by_cases q : w < aa j ∨ (w = aa j ∧ -1 < j)
  · rw [if_pos q, if_pos (by omega)]
  · rw [if_neg q, if_neg (by omega)]
theorem sumZ_0 {f : Int → Int} : ∀ k : Nat, (∀ j : Int, 0 ≤ j → j < k → f j = 0) → sumZ f k = 0
  | 0, _ => rfl
  | k + 1, h => by
    show sumZ f k + f k = 0
    rw [sumZ_0 k (fun j h0 h1 => h j h0 (by omega)), h k (by omega) (by omega)]
    rfl
theorem sumZ_1 {f : Int → Int} : ∀ k : Nat, (∀ j : Int, 0 ≤ j → j < k → f j = 1) → sumZ f k = k
  | 0, _ => rfl
  | k + 1, h => by
    show sumZ f k + f k = ((k + 1 : Nat) : Int)
    rw [sumZ_1 k (fun j h0 h1 => h j h0 (by omega)), h k (by omega) (by omega)]
    omega
theorem vW_top {aa : Int → Int} {n : Int} (h : ∀ j : Int, 0 ≤ j → j < n → 0 ≤ aa j ∧ aa j ≤ n - 1) : vW aa n (n - 1) (n - 1) = 0 := sumZ_0 _ (fun j h0 h1 => by
  have := h j h0 (by omega)
  exact if_neg (by omega))
theorem vW_end {aa : Int → Int} {n : Int} (hn : 0 ≤ n) (h : ∀ j : Int, 0 ≤ j → j < n → 0 ≤ aa j ∧ aa j ≤ n - 1) : vW aa n (-1) (n - 1) = n := by
  have e := sumZ_1 (f := fun i => if (-1 : Int) < aa i ∨ (-1 = aa i ∧ n - 1 < i) then (1 : Int) else 0) n.toNat (fun j h0 h1 => by
    have := h j h0 (by omega)
    exact if_pos (by omega))
  unfold vW
  rw [e]
  omega
def inZ (la aa : Int → Int) (i j : Int) : Int := if (aa i = aa j ∧ la i < la j) ∨ (aa i = aa j + 1 ∧ la j < la i) then 1 else 0
theorem inZ_rg (la aa : Int → Int) (i j : Int) : 0 ≤ inZ la aa i j ∧ inZ la aa i j ≤ 1 := by
  unfold inZ
  split <;> omega
def inS (la aa : Int → Int) (n i : Int) : Int := sumZ (fun j => if i < j then inZ la aa i j else 0) n.toNat
