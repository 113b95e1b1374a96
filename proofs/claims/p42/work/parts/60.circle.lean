/-! the circle: a shifted list is standard, and a standard list has its gap at n -/
def roZ (n g x : Int) : Int := if g < x then x - g - 1 else x - g + n
theorem ro_emod {n g x : Int} (hg : 0 ≤ g ∧ g ≤ n) (hx : 0 ≤ x ∧ x ≤ n) : (x - g - 1) % (n + 1) = roZ n g x := by
  unfold roZ
  by_cases h : g < x
  · rw [if_pos h]
    exact Int.emod_eq_of_lt (by omega) (by omega)
  · rw [if_neg h]
    have e : x - g - 1 = (x - g + n) + (n + 1) * (-1) := by omega
    rw [e, Int.add_mul_emod_self_left]
    exact Int.emod_eq_of_lt (by omega) (by omega)
theorem ro_rg {n g x : Int} (hg : 0 ≤ g ∧ g ≤ n) (hx : 0 ≤ x ∧ x ≤ n) : 0 ≤ roZ n g x ∧ roZ n g x ≤ n ∧ (x ≠ g → roZ n g x < n) := by
  unfold roZ
  by_cases h : g < x
  · rw [if_pos h]; omega
  · rw [if_neg h]; omega
theorem ro_inj {n g x y : Int} (hg : 0 ≤ g ∧ g ≤ n) (hx : 0 ≤ x ∧ x ≤ n) (hy : 0 ≤ y ∧ y ≤ n) (h : roZ n g x = roZ n g y) : x = y := by
  unfold roZ at h
  by_cases a : g < x
  · rw [if_pos a] at h
    by_cases b : g < y
    · rw [if_pos b] at h; omega
    · rw [if_neg b] at h; omega
  · rw [if_neg a] at h
    by_cases b : g < y
    · rw [if_pos b] at h; omega
    · rw [if_neg b] at h; omega
theorem ff_ro {n t g : Int} (hn : 1 ≤ n ∧ n ≤ 8) (ht : 0 ≤ t) (hg : 0 ≤ g ∧ g ≤ n) (hb : bitZ t g = 0) : ∀ (k : Nat) (s : Int), 0 ≤ s → s ≤ n → roZ n g s ≤ roZ n g (ffZ n t k s)
  | 0, s, h0, h1 => by
    rw [ffZ_0 h0]
    exact Int.le_refl _
  | k + 1, s, h0, h1 => by
    by_cases q : bitZ t s = 0
    · rw [ffZ_t ht h0 q]
      exact Int.le_refl _
    · rw [ffZ_f (by omega) ht h0 q]
      have hne : s ≠ g := fun e => q (by rw [e]; exact hb)
      by_cases u : s < n
      · rw [if_pos u]
        refine Int.le_trans ?_ (ff_ro hn ht hg hb k (s + 1) (by omega) (by omega))
        unfold roZ
        by_cases a : g < s
        · rw [if_pos a, if_pos (by omega)]; omega
        · rw [if_neg a, if_neg (by omega)]; omega
      · rw [if_neg u]
        refine Int.le_trans ?_ (ff_ro hn ht hg hb k 0 (by omega) (by omega))
        unfold roZ
        rw [if_pos (by omega), if_neg (by omega)]
        omega
/-- the space that a car takes on the circle -/
def spZ (n : Int) (wi : Int → Int) (i : Int) : Int := ffZ n (tkZ n wi i.toNat) n.toNat (wi i)
section CI
variable {n : Int} {wi : Int → Int}
theorem sp_rg (hn : 1 ≤ n ∧ n ≤ 8) (hw : ∀ j : Int, 0 ≤ j → j < n → 0 ≤ wi j ∧ wi j < n) {i : Int} (h0 : 0 ≤ i) (h1 : i < n) : 0 ≤ spZ n wi i ∧ spZ n wi i ≤ n := by
  have hwi := hw i h0 h1
  have ha := tk_at hn hw (i := i) (by omega) (s := wi i) (by omega)
  exact ⟨ha.2.2.1, ha.2.2.2.1⟩
theorem tk_bit (hn : 1 ≤ n ∧ n ≤ 8) (hw : ∀ j : Int, 0 ≤ j → j < n → 0 ≤ wi j ∧ wi j < n) {i x : Int} (h0 : 0 ≤ i) (h1 : i < n) (hx : 0 ≤ x ∧ x ≤ n) : bitZ (tkZ n wi (i + 1).toNat) x = if x = spZ n wi i then 1 else bitZ (tkZ n wi i.toNat) x := by
  have hwi := hw i h0 h1
  have ha := tk_at hn hw (i := i) (by omega) (s := wi i) (by omega)
  rw [tkZ_s h0]
  exact bit_add ⟨ha.1, ha.2.1⟩ ⟨ha.2.2.1, by omega⟩ (by omega) ha.2.2.2.2.1
theorem tk_mono (hn : 1 ≤ n ∧ n ≤ 8) (hw : ∀ j : Int, 0 ≤ j → j < n → 0 ≤ wi j ∧ wi j < n) {x : Int} (hx : 0 ≤ x ∧ x ≤ n) : ∀ (m : Nat) (i : Int), 0 ≤ i → i + m ≤ n → bitZ (tkZ n wi (i + m).toNat) x = 0 → bitZ (tkZ n wi i.toNat) x = 0
  | 0, i, _, _, h => by
    rw [show i + ((0 : Nat) : Int) = i by omega] at h
    exact h
  | m + 1, i, h0, h1, h => by
    rw [show i + ((m + 1 : Nat) : Int) = (i + m) + 1 by omega, tk_bit hn hw (by omega) (by omega) hx] at h
    by_cases e : x = spZ n wi (i + m)
    · rw [if_pos e] at h
      omega
    · rw [if_neg e] at h
      exact tk_mono hn hw hx m i h0 (by omega) h
theorem sp_free (hn : 1 ≤ n ∧ n ≤ 8) (hw : ∀ j : Int, 0 ≤ j → j < n → 0 ≤ wi j ∧ wi j < n) {i m x : Int} (h0 : 0 ≤ i) (h1 : i < m) (h2 : m ≤ n) (hx : 0 ≤ x ∧ x ≤ n) (hb : bitZ (tkZ n wi m.toNat) x = 0) : spZ n wi i ≠ x := by
  intro e
  have h := tk_mono hn hw hx (m - i - 1).toNat (i + 1) (by omega) (by omega) (by rw [show i + 1 + ((m - i - 1).toNat : Int) = m by omega]; exact hb)
  rw [tk_bit hn hw h0 (by omega) hx, if_pos e.symm] at h
  omega
theorem sp_ne (hn : 1 ≤ n ∧ n ≤ 8) (hw : ∀ j : Int, 0 ≤ j → j < n → 0 ≤ wi j ∧ wi j < n) {i k : Int} (h0 : 0 ≤ i) (h1 : i < k) (h2 : k < n) : spZ n wi i ≠ spZ n wi k := by
  have hwk := hw k (by omega) h2
  have ha := tk_at hn hw (i := k) (by omega) (s := wi k) (by omega)
  exact sp_free hn hw h0 h1 (by omega) ⟨ha.2.2.1, ha.2.2.2.1⟩ ha.2.2.2.2.1
theorem gap_at (hn : 1 ≤ n ∧ n ≤ 8) (hw : ∀ j : Int, 0 ≤ j → j < n → 0 ≤ wi j ∧ wi j < n) : (0 ≤ gapZ n wi ∧ gapZ n wi ≤ n) ∧ bitZ (tkZ n wi n.toNat) (gapZ n wi) = 0 := by
  have hat := tk_at hn (wi := wi) hw (i := n) (by omega) (s := 0) (by omega)
  exact ⟨⟨hat.2.2.1, hat.2.2.2.1⟩, hat.2.2.2.2.1⟩
theorem cntE_none {f : Int → Int} {r : Int} : ∀ k : Nat, (∀ j : Int, 0 ≤ j → j < k → f j ≠ r) → cntE f r k = 0
  | 0, _ => rfl
  | k + 1, h => by
    show cntE f r k + (if f (k : Int) = r then 1 else 0) = 0
    rw [cntE_none k (fun j a b => h j a (by omega)), if_neg (h (k : Int) (by omega) (by omega))]
    rfl
theorem cntE_inj {f : Int → Int} {r : Int} : ∀ k : Nat, (∀ i j : Int, 0 ≤ i → i < j → j < k → f i ≠ f j) → cntE f r k ≤ 1
  | 0, _ => by show (0 : Int) ≤ 1; omega
  | k + 1, h => by
    show cntE f r k + (if f (k : Int) = r then 1 else 0) ≤ 1
    have ih := cntE_inj (f := f) (r := r) k (fun i j a b d => h i j a b (by omega))
    by_cases e : f (k : Int) = r
    · rw [if_pos e, cntE_none k (fun j a b q => h j (k : Int) a b (by omega) (q.trans e.symm))]
      omega
    · rw [if_neg e]
      omega
theorem cntB_le {f g : Int → Int} {x : Int} : ∀ k : Nat, (∀ j : Int, 0 ≤ j → j < k → f j ≤ g j) → cntB g x k ≤ cntB f x k
  | 0, _ => Int.le_refl _
  | k + 1, h => by
    show cntB g x k + (if g (k : Int) < x then 1 else 0) ≤ cntB f x k + (if f (k : Int) < x then 1 else 0)
    have ih := cntB_le (f := f) (g := g) (x := x) k (fun j a b => h j a (by omega))
    have e := h (k : Int) (by omega) (by omega)
    by_cases q : g (k : Int) < x
    · rw [if_pos q, if_pos (by omega)]; omega
    · rw [if_neg q]
      split <;> omega
theorem cntB_cg {f g : Int → Int} {x : Int} : ∀ k : Nat, (∀ j : Int, 0 ≤ j → j < k → f j = g j) → cntB f x k = cntB g x k
  | 0, _ => rfl
  | k + 1, h => by
    show cntB f x k + (if f (k : Int) < x then 1 else 0) = cntB g x k + (if g (k : Int) < x then 1 else 0)
    rw [cntB_cg k (fun j a b => h j a (by omega)), h (k : Int) (by omega) (by omega)]
theorem sum_ones : ∀ k : Nat, sumZ (fun _ => 1) k = k
  | 0 => rfl
  | k + 1 => by
    show sumZ (fun _ => 1) k + 1 = ((k + 1 : Nat) : Int)
    rw [sum_ones k]
    omega
/-- n different numbers below n: j of them lie below j -/
theorem perm_cnt {f : Int → Int} {j : Int} (hn : 0 ≤ n) (hf : ∀ i : Int, 0 ≤ i → i < n → 0 ≤ f i ∧ f i < n) (hd : ∀ i k : Int, 0 ≤ i → i < k → k < n → f i ≠ f k) (hj : 0 ≤ j ∧ j ≤ n) : cntB f j n.toNat = j := by
  have h1 : ∀ r : Int, 0 ≤ r → r < (n.toNat : Nat) → cfZ f n r ≤ (fun _ => 1) r := fun r _ _ => by
    rw [cfZ_E]
    exact cntE_inj n.toNat (fun i k a b d => hd i k a b (by omega))
  have h2 : sumZ (fun _ => 1) n.toNat ≤ sumZ (cfZ f n) n.toNat := by
    rw [sum_ones, cf_n hn hn hf]
    omega
  have h3 := sum_eq n.toNat h1 h2
  have h4 := cf_sum (wi := f) (ct := n) j.toNat
  rw [sumZ_congr (g := fun _ => 1) j.toNat (fun i a b => h3 i a (by omega)), sum_ones, cntB_0 n.toNat (fun i a b => (hf i a (by omega)).1), show ((j.toNat : Nat) : Int) = j by omega] at h4
  omega
theorem shf_ro (hn : 1 ≤ n ∧ n ≤ 8) (hw : ∀ j : Int, 0 ≤ j → j < n → 0 ≤ wi j ∧ wi j < n) (j : Int) (h0 : 0 ≤ j) (h1 : j < n) : shfZ n wi j = roZ n (gapZ n wi) (wi j) := by
  have hwj := hw j h0 h1
  exact ro_emod (gap_at hn hw).1 (by omega)
theorem std_cg {f g : Int → Int} {ct : Int} (h : ∀ j : Int, 0 ≤ j → j < ct → f j = g j) (hs : stdB f ct n) : stdB g ct n := ⟨hs.1, fun j a b => by
  rw [← cntB_cg (f := f) (g := g) ct.toNat (fun i q r => h i q (by omega))]
  exact hs.2 j a b⟩
theorem std_shf (hn : 1 ≤ n ∧ n ≤ 8) (hw : ∀ j : Int, 0 ≤ j → j < n → 0 ≤ wi j ∧ wi j < n) : stdB (shfZ n wi) n n := by
  obtain ⟨hg, hb⟩ := gap_at hn hw
  refine ⟨rfl, fun j h1 h2 => ?_⟩
  have hp := perm_cnt (n := n) (f := fun i => roZ n (gapZ n wi) (spZ n wi i)) (j := j) (by omega)
    (fun i a b => by
      have hs := sp_rg hn hw a b
      have hne := sp_free hn hw a b (Int.le_refl _) hg hb
      have hr := ro_rg hg hs
      exact ⟨hr.1, hr.2.2 hne⟩)
    (fun i k a b d e => sp_ne hn hw a b d (ro_inj hg (sp_rg hn hw a (by omega)) (sp_rg hn hw (by omega) d) e)) (by omega)
  have hle := cntB_le (f := shfZ n wi) (g := fun i => roZ n (gapZ n wi) (spZ n wi i)) (x := j) n.toNat (fun i a b => by
    have hwi := hw i a (by omega)
    have ha := tk_at hn hw (i := i) (by omega) (s := wi i) (by omega)
    have hbi := tk_mono hn hw hg (n - i).toNat i a (by omega) (by rw [show i + ((n - i).toNat : Int) = n by omega]; exact hb)
    rw [shf_ro hn hw i a (by omega)]
    exact ff_ro hn ha.1 hg hbi n.toNat (wi i) (by omega) (by omega))
  omega
/-- a standard list leaves the last space of the circle free -/
theorem std_gap (hn : 1 ≤ n ∧ n ≤ 8) (hw : ∀ j : Int, 0 ≤ j → j < n → 0 ≤ wi j ∧ wi j < n) (hs : stdB wi n n) : gapZ n wi = n := by
  obtain ⟨hg, hb⟩ := gap_at hn hw
  by_cases q : gapZ n wi = n
  · exact q
  exfalso
  have h1 := (std_shf hn hw).2 (n - gapZ n wi) (by omega) (by omega)
  have h2 := hs.2 (gapZ n wi + 1) (by omega) (by omega)
  have h3 : ∀ k : Nat, k ≤ n.toNat → cntB (shfZ n wi) (n - gapZ n wi) k + cntB wi (gapZ n wi + 1) k ≤ k := by
    intro k
    induction k with
    | zero => intro _; exact Int.le_refl _
    | succ k ih =>
      intro hk
      have i1 := ih (by omega)
      have hwk := hw (k : Int) (by omega) (by omega)
      show cntB (shfZ n wi) (n - gapZ n wi) k + (if shfZ n wi (k : Int) < n - gapZ n wi then 1 else 0) + (cntB wi (gapZ n wi + 1) k + (if wi (k : Int) < gapZ n wi + 1 then 1 else 0)) ≤ ((k + 1 : Nat) : Int)
      rw [shf_ro hn hw (k : Int) (by omega) (by omega)]
      unfold roZ
      by_cases u : gapZ n wi < wi (k : Int)
      · rw [if_pos u, if_neg (show ¬ wi (k : Int) < gapZ n wi + 1 by omega)]
        split <;> omega
      · rw [if_neg u, if_neg (show ¬ (wi (k : Int) - gapZ n wi + n < n - gapZ n wi) by omega), if_pos (by omega)]
        omega
  have h4 := h3 n.toNat (Nat.le_refl _)
  omega
end CI
