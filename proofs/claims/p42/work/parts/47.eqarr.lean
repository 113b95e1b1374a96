/-! arrangements: counted one after the other, or by cars -/
/-- orders of what waits, for pk those that park alone -/
def cQ (pk n : Int) (cap : Int → Int) (ru re : Int) : Nat → (Int → Int) → (Int → Int) → Int
  | 0, _, _ => 1
  | m + 1, st, w => sumZ (fun s => if 0 < w s ∧ (pk = 0 ∨ 0 ≤ pP n cap st ru re s) then cQ pk n cap ru re m (stp st (pP n cap st ru re s)) (dcr w s) else 0) n.toNat
theorem cQ_O {n : Int} {cap : Int → Int} {ru re : Int} : ∀ (m : Nat) (st w : Int → Int), cQ 1 n cap ru re m st w = cO n cap ru re m st w
  | 0, _, _ => rfl
  | m + 1, st, w => by
    refine sumZ_congr _ (fun s h0 h1 => ?_)
    have e : (0 < w s ∧ ((1 : Int) = 0 ∨ 0 ≤ pP n cap st ru re s)) ↔ (0 < w s ∧ 0 ≤ pP n cap st ru re s) := by omega
    by_cases u : 0 < w s ∧ 0 ≤ pP n cap st ru re s
    · rw [if_pos (e.mpr u)]
      show _ = (if 0 < w s ∧ 0 ≤ pP n cap st ru re s then _ else _)
      rw [if_pos u]
      exact cQ_O m _ _
    · rw [if_neg (fun v => u (e.mp v))]
      show _ = (if 0 < w s ∧ 0 ≤ pP n cap st ru re s then _ else _)
      rw [if_neg u]
def kV (pk n : Int) (cap : Int → Int) (ru re : Int) (w : Int → Int) : Nat → Int → (Int → Int) → (Int → Int) → Int
  | 0, _, _, _ => 1
  | m + 1, i, st, v => if 0 < v (w i) ∧ (pk = 0 ∨ 0 ≤ pP n cap st ru re (w i)) then kV pk n cap ru re w m (i + 1) (stp st (pP n cap st ru re (w i))) (dcr v (w i)) else 0
theorem kV_shift {pk n : Int} {cap : Int → Int} {ru re : Int} {w v : Int → Int} : ∀ (m : Nat) (i : Int) (st r : Int → Int), (∀ j : Int, i ≤ j → j < i + m → w (j + 1) = v j) → kV pk n cap ru re w m (i + 1) st r = kV pk n cap ru re v m i st r
  | 0, _, _, _, _ => rfl
  | m + 1, i, st, r, h => by
    show (if _ then kV pk n cap ru re w m (i + 1 + 1) _ _ else 0) = (if _ then kV pk n cap ru re v m (i + 1) _ _ else 0)
    rw [h i (by omega) (by omega), kV_shift m (i + 1) _ _ (fun j a b => h j (by omega) (by omega))]
theorem kV_code {pk n s c : Int} {cap : Int → Int} {ru re : Int} {m : Nat} {st v : Int → Int} (hn : 1 ≤ n ∧ n ≤ 8) (hs : 0 ≤ s ∧ s < n) (hc : 0 ≤ c ∧ c < powZ n m) : kV pk n cap ru re (dgZ n (s * powZ n m + c) ((m : Int) + 1)) (m + 1) 0 st v = if 0 < v s ∧ (pk = 0 ∨ 0 ≤ pP n cap st ru re s) then kV pk n cap ru re (dgZ n c m) m 0 (stp st (pP n cap st ru re s)) (dcr v s) else 0 := by
  show (if _ then kV pk n cap ru re (dgZ n (s * powZ n m + c) ((m : Int) + 1)) m (0 + 1) _ _ else 0) = _
  rw [dg_head hn hs hc, kV_shift (v := dgZ n c m) m 0 _ _ (fun j a b => dg_tail hn j a (by omega))]
theorem cQ_sum {pk n : Int} {cap : Int → Int} {ru re : Int} (hn : 1 ≤ n ∧ n ≤ 8) : ∀ (m : Nat) (st v : Int → Int), cQ pk n cap ru re m st v = sumZ (fun c => kV pk n cap ru re (dgZ n c m) m 0 st v) (powZ n m).toNat
  | 0, st, v => by
    show (1 : Int) = 0 + 1
    rfl
  | m + 1, st, v => by
    rw [sum_pow hn]
    refine sumZ_congr _ (fun s h0 h1 => ?_)
    have e : sumZ (fun c => kV pk n cap ru re (dgZ n (s * powZ n m + c) ((m + 1 : Nat) : Int)) (m + 1) 0 st v) (powZ n m).toNat = sumZ (fun c => if 0 < v s ∧ (pk = 0 ∨ 0 ≤ pP n cap st ru re s) then kV pk n cap ru re (dgZ n c m) m 0 (stp st (pP n cap st ru re s)) (dcr v s) else 0) (powZ n m).toNat := by
      refine sumZ_congr _ (fun c c0 c1 => ?_)
      exact kV_code hn ⟨h0, by omega⟩ ⟨c0, by omega⟩
    show _ = sumZ (fun c => kV pk n cap ru re (dgZ n (s * powZ n m + c) ((m + 1 : Nat) : Int)) (m + 1) 0 st v) (powZ n m).toNat
    rw [e]
    by_cases u : 0 < v s ∧ (pk = 0 ∨ 0 ≤ pP n cap st ru re s)
    · rw [if_pos u, cQ_sum hn m]
      exact sumZ_congr _ (fun c c0 c1 => (if_pos u).symm)
    · rw [if_neg u]
      exact (sumZ_0 _ (fun c c0 c1 => if_neg u)).symm
theorem cntE_n {w : Int → Int} {s : Int} (i : Nat) : cntE w s (i + 1) = cntE w s i + (if w (i : Int) = s then 1 else 0) := rfl
theorem dcr_cnt {W w : Int → Int} (i : Nat) : dcr (fun s => W s - cntE w s i) (w (i : Int)) = fun s => W s - cntE w s (i + 1) := by
  funext s
  unfold dcr
  by_cases e : s = w (i : Int)
  · rw [e, uZ_same, cntE_n, if_pos rfl]
    show W (w (i : Int)) - cntE w (w (i : Int)) i - 1 = W (w (i : Int)) - (cntE w (w (i : Int)) i + 1)
    omega
  · rw [uZ_ne e]
    show W s - cntE w s i = W s - cntE w s (i + 1)
    rw [cntE_n, if_neg (fun v => e v.symm), Int.add_zero]
theorem kV_val {pk n : Int} {cap : Int → Int} {ru re : Int} {w W : Int → Int} : ∀ (m i : Nat), (((pk = 0 ∨ ∀ j : Int, i ≤ j → j < (i + m : Nat) → 0 ≤ ppl n cap ru re w j) ∧ ∀ j : Int, i ≤ j → j < (i + m : Nat) → cntE w (w j) (i + m) ≤ W (w j)) → kV pk n cap ru re w m i (pst n cap ru re w i) (fun s => W s - cntE w s i) = 1) ∧ (¬ ((pk = 0 ∨ ∀ j : Int, i ≤ j → j < (i + m : Nat) → 0 ≤ ppl n cap ru re w j) ∧ ∀ j : Int, i ≤ j → j < (i + m : Nat) → cntE w (w j) (i + m) ≤ W (w j)) → kV pk n cap ru re w m i (pst n cap ru re w i) (fun s => W s - cntE w s i) = 0)
  | 0, i => ⟨fun _ => rfl, fun h => absurd ⟨Or.inr (fun j a b => absurd b (by omega)), fun j a b => absurd b (by omega)⟩ h⟩
  | m + 1, i => by
    have ih := kV_val (pk := pk) (n := n) (cap := cap) (ru := ru) (re := re) (w := w) (W := W) m (i + 1)
    rw [show i + 1 + m = i + (m + 1) by omega] at ih
    have e1 : pst n cap ru re w (i + 1) = stp (pst n cap ru re w i) (ppl n cap ru re w (i : Int)) := by
      rw [ppl_n]
      rfl
    have e3 : kV pk n cap ru re w (m + 1) i (pst n cap ru re w i) (fun s => W s - cntE w s i) = if 0 < W (w (i : Int)) - cntE w (w (i : Int)) i ∧ (pk = 0 ∨ 0 ≤ ppl n cap ru re w (i : Int)) then kV pk n cap ru re w m ((i + 1 : Nat) : Int) (pst n cap ru re w (i + 1)) (fun s => W s - cntE w s (i + 1)) else 0 := by
      rw [e1, ppl_n, ← dcr_cnt]
      rfl
    have hs := cntE_n (w := w) (s := w (i : Int)) i
    rw [if_pos rfl] at hs
    have hm := cntE_mono w (w (i : Int)) (i + 1) (i + (m + 1)) (by omega)
    rw [e3]
    by_cases u : 0 < W (w (i : Int)) - cntE w (w (i : Int)) i ∧ (pk = 0 ∨ 0 ≤ ppl n cap ru re w (i : Int))
    · rw [if_pos u]
      by_cases c : cntE w (w (i : Int)) (i + (m + 1)) ≤ W (w (i : Int))
      · refine ⟨fun h => ih.1 ⟨?_, fun j a b => h.2 j (by omega) b⟩, fun h => ih.2 (fun v => h ⟨?_, ?_⟩)⟩
        · rcases h.1 with q | q
          · exact Or.inl q
          · exact Or.inr (fun j a b => q j (by omega) b)
        · rcases v.1 with q | q
          · exact Or.inl q
          · rcases u.2 with q2 | q2
            · exact Or.inl q2
            · right
              intro j a b
              by_cases e : j = i
              · rw [e]
                exact q2
              · exact q j (by omega) b
        · intro j a b
          by_cases e : j = i
          · rw [e]
            exact c
          · exact v.2 j (by omega) b
      · refine ⟨fun h => absurd (h.2 i (by omega) (by omega)) c, fun _ => ih.2 (fun v => c ?_)⟩
        by_cases d : cntE w (w (i : Int)) (i + 1) < cntE w (w (i : Int)) (i + (m + 1))
        · obtain ⟨j, j0, j1, j2⟩ := cnt_ex (f := w) (s := w (i : Int)) (a := i + 1) (i + (m + 1)) d
          have h := v.2 j (by omega) (by omega)
          rw [j2] at h
          exact h
        · omega
    · rw [if_neg u]
      refine ⟨fun h => absurd ⟨?_, ?_⟩ u, fun _ => rfl⟩
      · have := h.2 i (by omega) (by omega)
        omega
      · rcases h.1 with q | q
        · exact Or.inl q
        · exact Or.inr (q i (by omega) (by omega))
theorem cfZ_E (wi : Int → Int) (ct s : Int) : cfZ wi ct s = cntE wi s ct.toNat := by
  unfold cfZ
  have := cntB_E wi s ct.toNat
  omega
theorem sum_le {f g : Int → Int} : ∀ k : Nat, (∀ j : Int, 0 ≤ j → j < k → f j ≤ g j) → sumZ f k ≤ sumZ g k
  | 0, _ => Int.le_refl _
  | k + 1, h => by
    have h1 := sum_le k (fun j a b => h j a (by omega))
    have h2 := h k (by omega) (by omega)
    show sumZ f k + f (k : Int) ≤ sumZ g k + g (k : Int)
    omega
theorem sum_eq {f g : Int → Int} : ∀ k : Nat, (∀ j : Int, 0 ≤ j → j < k → f j ≤ g j) → sumZ g k ≤ sumZ f k → ∀ j : Int, 0 ≤ j → j < k → f j = g j
  | 0, _, _ => fun j a b => absurd b (by omega)
  | k + 1, h, q => by
    have h1 := sum_le k (fun j a b => h j a (by omega))
    have h2 := h k (by omega) (by omega)
    have q2 : sumZ g k + g (k : Int) ≤ sumZ f k + f (k : Int) := q
    intro j a b
    by_cases e : j = k
    · rw [e]
      omega
    · exact sum_eq k (fun j a b => h j a (by omega)) (by omega) j a (by omega)
theorem cnt_out {w : Int → Int} {s n : Int} : ∀ k : Nat, (∀ j : Int, 0 ≤ j → j < k → 0 ≤ w j ∧ w j < n) → (s < 0 ∨ n ≤ s) → cntE w s k = 0
  | 0, _, _ => rfl
  | k + 1, h, q => by
    have := h k (by omega) (by omega)
    rw [cntE_n, cnt_out k (fun j a b => h j a (by omega)) q, if_neg (by omega)]
    rfl
theorem same_le {n q : Int} {f w : Int → Int} (hn : 0 ≤ n) (hq : 0 ≤ q) (hf : ∀ j : Int, 0 ≤ j → j < q → 0 ≤ f j ∧ f j < n) (hw : ∀ j : Int, 0 ≤ j → j < q → 0 ≤ w j ∧ w j < n) : sameC f w q.toNat ↔ ∀ j : Int, 0 ≤ j → j < q → cntE f (f j) q.toNat ≤ cntE w (f j) q.toNat := by
  constructor
  · intro h j _ _
    rw [h]
    exact Int.le_refl _
  · intro h s
    have hle : ∀ s : Int, cntE f s q.toNat ≤ cntE w s q.toNat := by
      intro s
      by_cases u : cntE f s 0 < cntE f s q.toNat
      · obtain ⟨j, j0, j1, j2⟩ := cnt_ex (f := f) (s := s) (a := 0) q.toNat u
        have := h j (by omega) (by omega)
        rw [j2] at this
        exact this
      · have h0 : cntE f s 0 = 0 := rfl
        have := cntE_rg w s q.toNat
        omega
    by_cases u : 0 ≤ s ∧ s < n
    · have e1 : sumZ (fun s => cntE f s q.toNat) n.toNat = q := (sumZ_congr (g := cfZ f q) _ (fun s _ _ => (cfZ_E f q s).symm)).trans (cf_n hn hq hf)
      have e2 : sumZ (fun s => cntE w s q.toNat) n.toNat = q := (sumZ_congr (g := cfZ w q) _ (fun s _ _ => (cfZ_E w q s).symm)).trans (cf_n hn hq hw)
      exact sum_eq (f := fun s => cntE f s q.toNat) (g := fun s => cntE w s q.toNat) n.toNat (fun s _ _ => hle s) (by rw [e1, e2]; exact Int.le_refl _) s u.1 (by omega)
    · rw [cnt_out q.toNat (n := n) (fun j a b => hf j a (by omega)) (by omega), cnt_out q.toNat (n := n) (fun j a b => hw j a (by omega)) (by omega)]
/-- E4: arrangements by cars -/
theorem cQ_q {pk n : Int} {cap : Int → Int} {ru re q : Int} {w : Int → Int} (hn : 1 ≤ n ∧ n ≤ 8) (hq : 0 ≤ q) (hw : ∀ j : Int, 0 ≤ j → j < q → 0 ≤ w j ∧ w j < n) : cQ pk n cap ru re q.toNat zeroZ (cfZ w q) = sumZ (aI pk n cap ru re w q) (powZ n q.toNat).toNat := by
  obtain ⟨k, rfl⟩ := Int.eq_ofNat_of_zero_le hq
  rw [Int.toNat_natCast, cQ_sum hn]
  refine sumZ_congr _ (fun c c0 c1 => ?_)
  have hd : ∀ j : Int, 0 ≤ j → j < (k : Int) → 0 ≤ dgZ n c k j ∧ dgZ n c k j < n := fun j _ _ => dgZ_rg hn.1
  have h := kV_val (pk := pk) (n := n) (cap := cap) (ru := ru) (re := re) (w := dgZ n c k) (W := cfZ w k) k 0
  have e0 : (fun s => cfZ w k s - cntE (dgZ n c k) s 0) = cfZ w k := by
    funext s
    show cfZ w k s - 0 = cfZ w k s
    omega
  rw [e0, Nat.zero_add] at h
  have hs := same_le (f := dgZ n c k) (w := w) (by omega) hq hd hw
  rw [Int.toNat_natCast] at hs
  show kV pk n cap ru re (dgZ n c k) k 0 zeroZ (cfZ w k) = aI pk n cap ru re w k c
  by_cases u : sameC (dgZ n c k) w k ∧ (pk = 0 ∨ lvZ n cap ru re (dgZ n c k) k = 0)
  · have e1 : aI pk n cap ru re w k c = 1 := by
      unfold aI
      rw [Int.toNat_natCast]
      exact if_pos u
    rw [e1]
    refine h.1 ⟨?_, fun j a b => ?_⟩
    · rcases u.2 with v | v
      · exact Or.inl v
      · exact Or.inr (fun j a b => (lv_iff k).mp v j (by omega) b)
    · rw [cfZ_E, Int.toNat_natCast]
      exact hs.mp u.1 j (by omega) b
  · have e1 : aI pk n cap ru re w k c = 0 := by
      unfold aI
      rw [Int.toNat_natCast]
      exact if_neg u
    rw [e1]
    refine h.2 (fun v => u ⟨hs.mpr (fun j a b => ?_), ?_⟩)
    · have := v.2 j (by omega) b
      rw [cfZ_E, Int.toNat_natCast] at this
      exact this
    · rcases v.1 with y | y
      · exact Or.inl y
      · exact Or.inr ((lv_iff k).mpr (fun j a b => y j (by omega) b))
theorem park_q {n : Int} {cap : Int → Int} {ru re q : Int} {w : Int → Int} (hn : 1 ≤ n ∧ n ≤ 8) (hq : 0 ≤ q) (hw : ∀ j : Int, 0 ≤ j → j < q → 0 ≤ w j ∧ w j < n) : cO n cap ru re q.toNat zeroZ (cfZ w q) = sumZ (aI 1 n cap ru re w q) (powZ n q.toNat).toNat := by
  rw [← cQ_O]
  exact cQ_q hn hq hw
/-- products of factorials -/
def pfZ (v : Int → Int) : Nat → Int
  | 0 => 1
  | k + 1 => pfZ v k * (fct (v (k : Int)).toNat : Int)
theorem fct_pos : ∀ k : Nat, 0 < fct k
  | 0 => by decide
  | k + 1 => Nat.mul_pos (by omega) (fct_pos k)
theorem pf_pos (v : Int → Int) : ∀ k : Nat, 0 < pfZ v k
  | 0 => by
    show (0 : Int) < 1
    decide
  | k + 1 => Int.mul_pos (pf_pos v k) (Int.natCast_pos.mpr (fct_pos _))
theorem pf_congr {v w : Int → Int} : ∀ k : Nat, (∀ j : Int, 0 ≤ j → j < k → v j = w j) → pfZ v k = pfZ w k
  | 0, _ => rfl
  | k + 1, h => by
    show pfZ v k * _ = pfZ w k * _
    rw [pf_congr k (fun j a b => h j a (by omega)), h k (by omega) (by omega)]
theorem pf_dcr {v : Int → Int} {s : Int} (h0 : 0 ≤ s) (hv : 0 < v s) : ∀ k : Nat, s < k → pfZ v k = v s * pfZ (dcr v s) k
  | 0, h => absurd h (by omega)
  | k + 1, h => by
    show pfZ v k * (fct (v (k : Int)).toNat : Int) = v s * (pfZ (dcr v s) k * (fct (dcr v s (k : Int)).toNat : Int))
    by_cases e : s = k
    · have e1 : pfZ (dcr v s) k = pfZ v k := pf_congr k (fun j a b => uZ_ne (by omega))
      have e2 : dcr v s (k : Int) = v s - 1 := by
        rw [← e]
        exact uZ_same _ _ _
      have e3 : (fct (v s).toNat : Int) = v s * (fct (v s - 1).toNat : Int) := by
        rw [show (v s).toNat = (v s - 1).toNat + 1 by omega]
        have e4 : fct ((v s - 1).toNat + 1) = ((v s - 1).toNat + 1) * fct (v s - 1).toNat := rfl
        rw [e4, Int.natCast_mul]
        congr 1
        omega
      rw [e1, e2, ← e, e3, Int.mul_left_comm]
    · have e2 : dcr v s (k : Int) = v (k : Int) := uZ_ne (fun u => e u.symm)
      rw [pf_dcr h0 hv k (by omega), e2, Int.mul_assoc]
theorem sum_mulr (f : Int → Int) (x : Int) : ∀ k : Nat, sumZ f k * x = sumZ (fun j => f j * x) k
  | 0 => Int.zero_mul _
  | k + 1 => by
    show (sumZ f k + f (k : Int)) * x = sumZ (fun j => f j * x) k + f (k : Int) * x
    rw [Int.add_mul, sum_mulr f x k]
theorem cQ_mul {n : Int} {cap : Int → Int} {ru re : Int} (hn : 1 ≤ n) : ∀ (m : Nat) (st v : Int → Int), (∀ j : Int, 0 ≤ j → j < n → 0 ≤ v j) → sumZ v n.toNat = m → cQ 0 n cap ru re m st v * pfZ v n.toNat = (fct m : Int)
  | 0, st, v, hv, hs => by
    show (1 : Int) * pfZ v n.toNat = 1
    have hz : ∀ j : Int, 0 ≤ j → j < n.toNat → v j = 0 := fun j a b => (sum_eq (f := fun _ => 0) (g := v) n.toNat (fun j a b => hv j a (by omega)) (by rw [sumZ_0 _ (fun _ _ _ => rfl)]; omega) j a b).symm
    have e : ∀ k : Nat, k ≤ n.toNat → pfZ v k = 1 := by
      intro k
      induction k with
      | zero => intro _; rfl
      | succ k ih =>
        intro hk
        show pfZ v k * (fct (v (k : Int)).toNat : Int) = 1
        rw [ih (by omega), hz k (by omega) (by omega)]
        rfl
    rw [e n.toNat (Nat.le_refl _)]
    rfl
  | m + 1, st, v, hv, hs => by
    show sumZ (fun s => if 0 < v s ∧ ((0 : Int) = 0 ∨ 0 ≤ pP n cap st ru re s) then cQ 0 n cap ru re m (stp st (pP n cap st ru re s)) (dcr v s) else 0) n.toNat * pfZ v n.toNat = _
    rw [sum_mulr]
    have e : sumZ (fun s => (if 0 < v s ∧ ((0 : Int) = 0 ∨ 0 ≤ pP n cap st ru re s) then cQ 0 n cap ru re m (stp st (pP n cap st ru re s)) (dcr v s) else 0) * pfZ v n.toNat) n.toNat = sumZ (fun s => v s * (fct m : Int)) n.toNat := by
      refine sumZ_congr _ (fun s h0 h1 => ?_)
      by_cases u : 0 < v s
      · rw [if_pos ⟨u, Or.inl rfl⟩, pf_dcr h0 u n.toNat h1, Int.mul_left_comm]
        have hd : ∀ j : Int, 0 ≤ j → j < n → 0 ≤ dcr v s j := fun j a b => by
          by_cases q : j = s
          · rw [q]
            show 0 ≤ uZ v s (v s - 1) s
            rw [uZ_same]
            omega
          · show 0 ≤ uZ v s (v s - 1) j
            rw [uZ_ne q]
            exact hv j a b
        have hds : sumZ (dcr v s) n.toNat = m := by
          have := dcr_sum (w := v) (s := s) (n := n) ⟨h0, by omega⟩
          show sumZ (uZ v s (v s - 1)) n.toNat = m
          rw [this, hs]
          omega
        rw [cQ_mul hn m _ _ hd hds]
      · have hz : v s = 0 := by
          have := hv s h0 (by omega)
          omega
        rw [if_neg (fun w => u w.1), Int.zero_mul, hz, Int.zero_mul]
    rw [e, ← sum_mulr, hs]
    show ((m + 1 : Nat) : Int) * (fct m : Int) = (((m + 1) * fct m : Nat) : Int)
    rw [Int.natCast_mul]
theorem chs_fct : ∀ a : Nat, a < 10 → ∀ b : Nat, b ≤ a → chs a b * fct b * fct (a - b) = fct a := by decide +kernel
theorem ar_fct {wi : Int → Int} {ct : Int} (hc : 0 ≤ ct ∧ ct ≤ 9) (hw : ∀ j : Int, 0 ≤ j → j < ct → 0 ≤ wi j) : ∀ k : Nat, arW wi ct k * pfZ (cfZ wi ct) k = (fct (cntB wi (k : Int) ct.toNat).toNat : Int)
  | 0 => by
    show (1 : Int) * 1 = (fct (cntB wi 0 ct.toNat).toNat : Int)
    rw [cntB_0 ct.toNat (fun j h0 h1 => hw j h0 (by omega))]
    rfl
  | k + 1 => by
    have ih := ar_fct hc hw k
    have h1 := cntB_rg wi (k : Int) ct.toNat
    have h2 := cntB_rg wi ((k : Int) + 1) ct.toNat
    have h3 := cntB_mono wi (show (k : Int) ≤ (k : Int) + 1 by omega) ct.toNat
    have e : cfZ wi ct (k : Int) = cntB wi ((k : Int) + 1) ct.toNat - cntB wi (k : Int) ct.toNat := rfl
    show arW wi ct k * chZ (cntB wi ((k : Int) + 1) ct.toNat) (cntB wi ((k : Int) + 1) ct.toNat - cntB wi (k : Int) ct.toNat) * (pfZ (cfZ wi ct) k * (fct (cfZ wi ct (k : Int)).toNat : Int)) = (fct (cntB wi ((k : Int) + 1) ct.toNat).toNat : Int)
    have hb := chs_fct (cntB wi ((k : Int) + 1) ct.toNat).toNat (by omega) (cntB wi ((k : Int) + 1) ct.toNat - cntB wi (k : Int) ct.toNat).toNat (by omega)
    rw [show (cntB wi ((k : Int) + 1) ct.toNat).toNat - (cntB wi ((k : Int) + 1) ct.toNat - cntB wi (k : Int) ct.toNat).toNat = (cntB wi (k : Int) ct.toNat).toNat by omega] at hb
    rw [e, ← hb, Int.natCast_mul, Int.natCast_mul, ← ih]
    show arW wi ct k * chZ _ _ * (pfZ (cfZ wi ct) k * _) = chZ (cntB wi ((k : Int) + 1) ct.toNat) (cntB wi ((k : Int) + 1) ct.toNat - cntB wi (k : Int) ct.toNat) * _ * _
    generalize chZ (cntB wi ((k : Int) + 1) ct.toNat) (cntB wi ((k : Int) + 1) ct.toNat - cntB wi (k : Int) ct.toNat) = X
    generalize (fct (cntB wi ((k : Int) + 1) ct.toNat - cntB wi (k : Int) ct.toNat).toNat : Int) = Y
    generalize arW wi ct k = A
    generalize pfZ (cfZ wi ct) k = B
    rw [Int.mul_comm A X, Int.mul_assoc, Int.mul_assoc, ← Int.mul_assoc A B Y, Int.mul_comm (A * B) Y]
/-- E5: the number of arrangements -/
theorem arr_q {n : Int} {cap : Int → Int} {ru re q : Int} {w : Int → Int} (hn : 1 ≤ n ∧ n ≤ 8) (hq : 0 ≤ q ∧ q ≤ 9) (hw : ∀ j : Int, 0 ≤ j → j < q → 0 ≤ w j ∧ w j < n) : arW w q n.toNat = sumZ (aI 0 n cap ru re w q) (powZ n q.toNat).toNat := by
  rw [← cQ_q hn hq.1 hw]
  have h1 := ar_fct hq (fun j a b => (hw j a b).1) n.toNat
  rw [show ((n.toNat : Nat) : Int) = n by omega, cntB_all _ (fun j a b => (hw j a (by omega)).2), Int.toNat_natCast] at h1
  have hv : ∀ j : Int, 0 ≤ j → j < n → 0 ≤ cfZ w q j := fun j _ _ => (cf_rg (wi := w) hq j).1
  have h2 := cQ_mul (cap := cap) (ru := ru) (re := re) hn.1 q.toNat zeroZ (cfZ w q) hv (by rw [cf_n (by omega) hq.1 hw]; omega)
  have hp := pf_pos (cfZ w q) n.toNat
  exact Int.eq_of_mul_eq_mul_right (by omega) (h1.trans h2.symm)
