/-! counted by cars or by codes: the same -/
theorem powZ_add (n : Int) (a : Nat) : ∀ b : Nat, powZ n (a + b) = powZ n a * powZ n b
  | 0 => (Int.mul_one _).symm
  | b + 1 => by
    show powZ n (a + b) * n = powZ n a * (powZ n b * n)
    rw [powZ_add n a b, Int.mul_assoc]
theorem sum_append (F : Int → Int) (a : Nat) : ∀ b : Nat, sumZ F (a + b) = sumZ F a + sumZ (fun c => F (a + c)) b
  | 0 => (Int.add_zero _).symm
  | b + 1 => by
    show sumZ F (a + b) + F ((a + b : Nat) : Int) = sumZ F a + (sumZ (fun c => F (a + c)) b + F (a + (b : Int)))
    rw [sum_append F a b, Int.natCast_add, Int.add_assoc]
theorem sum_split (F : Int → Int) (a : Nat) : ∀ k : Nat, sumZ F (k * a) = sumZ (fun s => sumZ (fun c => F (s * a + c)) a) k
  | 0 => by
    rw [Nat.zero_mul]
    rfl
  | k + 1 => by
    show _ = sumZ (fun s => sumZ (fun c => F (s * a + c)) a) k + sumZ (fun c => F ((k : Int) * a + c)) a
    rw [Nat.succ_mul, sum_append, sum_split F a k, Int.natCast_mul]
theorem powN {n : Int} (hn : 1 ≤ n ∧ n ≤ 8) (m : Nat) : (powZ n (m + 1)).toNat = n.toNat * (powZ n m).toNat ∧ (((powZ n m).toNat : Nat) : Int) = powZ n m := by
  have h1 := pow_pos1 hn m
  have h2 : powZ n (m + 1) = powZ n m * n := rfl
  refine ⟨?_, by omega⟩
  rw [h2, Int.mul_comm, Int.toNat_mul (by omega) (by omega)]
theorem sum_pow {n : Int} (hn : 1 ≤ n ∧ n ≤ 8) (F : Int → Int) (m : Nat) : sumZ F (powZ n (m + 1)).toNat = sumZ (fun s => sumZ (fun c => F (s * powZ n m + c)) (powZ n m).toNat) n.toNat := by
  obtain ⟨h1, h2⟩ := powN hn m
  rw [h1, sum_split, h2]
theorem dg_head {n s c : Int} {m : Nat} (hn : 1 ≤ n ∧ n ≤ 8) (hs : 0 ≤ s ∧ s < n) (hc : 0 ≤ c ∧ c < powZ n m) : dgZ n (s * powZ n m + c) ((m : Int) + 1) 0 = s := by
  unfold dgZ
  rw [show ((m : Int) + 1 - 1 - 0).toNat = m by omega, Int.add_comm, Int.add_mul_ediv_right _ _ (by have := pow_pos1 hn m; omega), Int.ediv_eq_zero_of_lt hc.1 hc.2, Int.zero_add]
  exact Int.emod_eq_of_lt hs.1 hs.2
theorem dg_tail {n s c : Int} {m : Nat} (hn : 1 ≤ n ∧ n ≤ 8) (j : Int) (h0 : 0 ≤ j) (h1 : j < m) : dgZ n (s * powZ n m + c) ((m : Int) + 1) (j + 1) = dgZ n c m j := by
  unfold dgZ
  rw [show ((m : Int) + 1 - 1 - (j + 1)).toNat = ((m : Int) - 1 - j).toNat by omega]
  have e1 : powZ n m = powZ n ((m : Int) - 1 - j).toNat * (powZ n j.toNat * n) := by
    have e2 : powZ n (j.toNat + 1) = powZ n j.toNat * n := rfl
    rw [← e2, ← powZ_add, show ((m : Int) - 1 - j).toNat + (j.toNat + 1) = m by omega]
  have hp := pow_pos1 hn ((m : Int) - 1 - j).toNat
  rw [e1, show s * (powZ n ((m : Int) - 1 - j).toNat * (powZ n j.toNat * n)) = powZ n ((m : Int) - 1 - j).toNat * (n * (s * powZ n j.toNat)) by
    rw [Int.mul_left_comm, Int.mul_comm (powZ n j.toNat) n, Int.mul_left_comm s n]]
  rw [Int.add_comm, Int.add_mul_ediv_left _ _ (by omega), Int.add_mul_emod_self_left]
/-- one list of m cars from car i on: 1 where it brings r -/
def kW (n : Int) (cap : Int → Int) (ru re me : Int) (w : Int → Int) : Nat → Int → (Int → Int) → Int → Int
  | 0, _, _, r => if r = 0 then 1 else 0
  | m + 1, i, st, r => if (0 ≤ pP n cap st ru re (w i) ∨ me = 0) ∧ 0 ≤ r - shr me (pP n cap st ru re (w i)) (w i) then kW n cap ru re me w m (i + 1) (stp st (pP n cap st ru re (w i))) (r - shr me (pP n cap st ru re (w i)) (w i)) else 0
theorem kW_shift {n : Int} {cap : Int → Int} {ru re me : Int} {w v : Int → Int} : ∀ (m : Nat) (i : Int) (st : Int → Int) (r : Int), (∀ j : Int, i ≤ j → j < i + m → w (j + 1) = v j) → kW n cap ru re me w m (i + 1) st r = kW n cap ru re me v m i st r
  | 0, _, _, _, _ => rfl
  | m + 1, i, st, r, h => by
    show (if _ then kW n cap ru re me w m (i + 1 + 1) _ _ else 0) = (if _ then kW n cap ru re me v m (i + 1) _ _ else 0)
    rw [h i (by omega) (by omega), kW_shift m (i + 1) _ _ (fun j a b => h j (by omega) (by omega))]
theorem kW_code {n s c : Int} {cap : Int → Int} {ru re me : Int} {m : Nat} {st : Int → Int} {r : Int} (hn : 1 ≤ n ∧ n ≤ 8) (hs : 0 ≤ s ∧ s < n) (hc : 0 ≤ c ∧ c < powZ n m) : kW n cap ru re me (dgZ n (s * powZ n m + c) ((m : Int) + 1)) (m + 1) 0 st r = if (0 ≤ pP n cap st ru re s ∨ me = 0) ∧ 0 ≤ r - shr me (pP n cap st ru re s) s then kW n cap ru re me (dgZ n c m) m 0 (stp st (pP n cap st ru re s)) (r - shr me (pP n cap st ru re s) s) else 0 := by
  show (if _ then kW n cap ru re me (dgZ n (s * powZ n m + c) ((m : Int) + 1)) m (0 + 1) _ _ else 0) = _
  rw [dg_head hn hs hc, kW_shift (v := dgZ n c m) m 0 _ _ (fun j a b => dg_tail hn j a (by omega))]
theorem cL_sum {n : Int} {cap : Int → Int} {ru re me : Int} (hn : 1 ≤ n ∧ n ≤ 8) : ∀ (m : Nat) (st : Int → Int) (r : Int), cL n cap ru re me m st r = sumZ (fun c => kW n cap ru re me (dgZ n c m) m 0 st r) (powZ n m).toNat
  | 0, st, r => by
    show (if r = 0 then (1 : Int) else 0) = sumZ (fun c => if r = 0 then (1 : Int) else 0) 1
    show _ = 0 + (if r = 0 then (1 : Int) else 0)
    rw [Int.zero_add]
  | m + 1, st, r => by
    rw [sum_pow hn]
    show sumZ (fun s => cT n cap ru re me m st r s) n.toNat = _
    refine sumZ_congr _ (fun s h0 h1 => ?_)
    have e : sumZ (fun c => kW n cap ru re me (dgZ n (s * powZ n m + c) ((m + 1 : Nat) : Int)) (m + 1) 0 st r) (powZ n m).toNat = sumZ (fun c => if (0 ≤ pP n cap st ru re s ∨ me = 0) ∧ 0 ≤ r - shr me (pP n cap st ru re s) s then kW n cap ru re me (dgZ n c m) m 0 (stp st (pP n cap st ru re s)) (r - shr me (pP n cap st ru re s) s) else 0) (powZ n m).toNat := by
      refine sumZ_congr _ (fun c c0 c1 => ?_)
      exact kW_code hn ⟨h0, by omega⟩ ⟨c0, by omega⟩
    show cT n cap ru re me m st r s = _
    rw [e]
    unfold cT
    by_cases u : (0 ≤ pP n cap st ru re s ∨ me = 0) ∧ 0 ≤ r - shr me (pP n cap st ru re s) s
    · rw [if_pos u, cL_sum hn m]
      refine sumZ_congr _ (fun c c0 c1 => ?_)
      rw [if_pos u]
    · rw [if_neg u]
      refine (sumZ_0 _ (fun c c0 c1 => ?_)).symm
      exact if_neg u
def meP (n : Int) (cap : Int → Int) (ru re me : Int) (w : Int → Int) (k : Nat) : Int := sumZ (fun c => shr me (ppl n cap ru re w c) (w c)) k
theorem meP_s {n : Int} {cap : Int → Int} {ru re me : Int} {w : Int → Int} (k : Nat) : meP n cap ru re me w (k + 1) = meP n cap ru re me w k + shr me (ppl n cap ru re w (k : Int)) (w (k : Int)) := rfl
theorem meP_mono {n : Int} {cap : Int → Int} {ru re me : Int} {w : Int → Int} (a : Nat) : ∀ b : Nat, (∀ j : Int, 0 ≤ j → j < (a + b : Nat) → 0 ≤ w j ∧ w j ≤ 8) → meP n cap ru re me w a ≤ meP n cap ru re me w (a + b)
  | 0, _ => Int.le_refl _
  | b + 1, h => by
    have h1 := meP_mono (n := n) (cap := cap) (ru := ru) (re := re) (me := me) (w := w) a b (fun j u v => h j u (by omega))
    have h2 := shr_rg me (ppl n cap ru re w ((a + b : Nat) : Int)) (h ((a + b : Nat) : Int) (by omega) (by omega))
    show _ ≤ meP n cap ru re me w (a + b + 1)
    rw [meP_s]
    omega
theorem ppl_n {n : Int} {cap : Int → Int} {ru re : Int} {w : Int → Int} (i : Nat) : ppl n cap ru re w (i : Int) = pP n cap (pst n cap ru re w i) ru re (w (i : Int)) := by
  unfold ppl
  rw [Int.toNat_natCast]
theorem kW_val {n : Int} {cap : Int → Int} {ru re me x : Int} {w : Int → Int} : ∀ (m i : Nat), (∀ j : Int, 0 ≤ j → j < (i + m : Nat) → 0 ≤ w j ∧ w j ≤ 8) → (((me = 0 ∨ ∀ j : Int, i ≤ j → j < (i + m : Nat) → 0 ≤ ppl n cap ru re w j) ∧ meP n cap ru re me w (i + m) = x) → kW n cap ru re me w m i (pst n cap ru re w i) (x - meP n cap ru re me w i) = 1) ∧ (¬ ((me = 0 ∨ ∀ j : Int, i ≤ j → j < (i + m : Nat) → 0 ≤ ppl n cap ru re w j) ∧ meP n cap ru re me w (i + m) = x) → kW n cap ru re me w m i (pst n cap ru re w i) (x - meP n cap ru re me w i) = 0)
  | 0, i, _ => by
    refine ⟨fun h => if_pos ?_, fun h => if_neg (fun u => h ⟨Or.inr (fun j a b => absurd b (by omega)), ?_⟩)⟩
    · have h2 : meP n cap ru re me w i = x := h.2
      omega
    · show meP n cap ru re me w i = x
      omega
  | m + 1, i, hw => by
    have ih := kW_val (n := n) (cap := cap) (ru := ru) (re := re) (me := me) (x := x) (w := w) m (i + 1) (fun j a b => hw j a (by omega))
    rw [show i + 1 + m = i + (m + 1) by omega] at ih
    have e1 : pst n cap ru re w (i + 1) = stp (pst n cap ru re w i) (ppl n cap ru re w (i : Int)) := by
      rw [ppl_n]
      rfl
    have e2 := meP_s (n := n) (cap := cap) (ru := ru) (re := re) (me := me) (w := w) i
    have e4 : x - meP n cap ru re me w (i + 1) = x - meP n cap ru re me w i - shr me (ppl n cap ru re w (i : Int)) (w (i : Int)) := by omega
    have e3 : kW n cap ru re me w (m + 1) i (pst n cap ru re w i) (x - meP n cap ru re me w i) = if (0 ≤ ppl n cap ru re w (i : Int) ∨ me = 0) ∧ 0 ≤ x - meP n cap ru re me w (i + 1) then kW n cap ru re me w m ((i + 1 : Nat) : Int) (pst n cap ru re w (i + 1)) (x - meP n cap ru re me w (i + 1)) else 0 := by
      rw [e1, e4, ppl_n]
      rfl
    have hm := meP_mono (n := n) (cap := cap) (ru := ru) (re := re) (me := me) (w := w) (i + 1) m (fun j a b => hw j a (by omega))
    rw [show i + 1 + m = i + (m + 1) by omega] at hm
    rw [e3]
    by_cases u : (0 ≤ ppl n cap ru re w (i : Int) ∨ me = 0) ∧ 0 ≤ x - meP n cap ru re me w (i + 1)
    · rw [if_pos u]
      refine ⟨fun h => ih.1 ⟨?_, h.2⟩, fun h => ih.2 (fun v => h ⟨?_, v.2⟩)⟩
      · rcases h.1 with q | q
        · exact Or.inl q
        · exact Or.inr (fun j a b => q j (by omega) b)
      · rcases v.1 with q | q
        · exact Or.inl q
        · rcases u.1 with q2 | q2
          · right
            intro j a b
            by_cases e : j = i
            · rw [e]
              exact q2
            · exact q j (by omega) b
          · exact Or.inl q2
    · rw [if_neg u]
      refine ⟨fun h => absurd ⟨?_, ?_⟩ u, fun _ => rfl⟩
      · rcases h.1 with q | q
        · exact Or.inr q
        · exact Or.inl (q i (by omega) (by omega))
      · have := h.2
        omega
theorem meP_Z {n : Int} {cap : Int → Int} {ru re me : Int} {w : Int → Int} {k : Nat} (h : 0 ≤ me ∧ me ≤ 2) : meP n cap ru re me w k = meZ me n cap ru re w k := by
  unfold meP
  have hc : me = 0 ∨ me = 1 ∨ me = 2 := by omega
  rcases hc with q | q | q
  · rw [me_0 q]
    refine sumZ_congr _ (fun c _ _ => ?_)
    unfold shr
    rw [if_neg (by omega), if_neg (by omega)]
  · rw [me_1 q]
    refine sumZ_congr _ (fun c _ _ => ?_)
    unfold shr
    rw [if_pos q]
  · rw [me_2 q]
    refine sumZ_congr _ (fun c _ _ => ?_)
    unfold shr
    rw [if_neg (by omega), if_pos q]
theorem lv_iff {n : Int} {cap : Int → Int} {ru re : Int} {w : Int → Int} (k : Nat) : lvZ n cap ru re w k = 0 ↔ ∀ j : Int, 0 ≤ j → j < k → 0 ≤ ppl n cap ru re w j := by
  constructor
  · intro h j a b
    have h1 := lv_no (n := n) (cap := cap) (ru := ru) (re := re) (wi := w) k (by omega) j a b
    have h2 := ppl_rg n cap ru re w j
    omega
  · intro h
    exact lv_0 k (fun j a b => by have := h j a b; omega)
theorem kW_q {n : Int} {cap : Int → Int} {ru re me x : Int} {c : Int} (hn : 1 ≤ n ∧ n ≤ 8) (hm : 0 ≤ me ∧ me ≤ 2) (q : Nat) : kW n cap ru re me (dgZ n c q) q 0 zeroZ x = qI me x n cap ru re q c := by
  have h := kW_val (n := n) (cap := cap) (ru := ru) (re := re) (me := me) (x := x) (w := dgZ n c q) q 0 (fun j _ _ => by have := dgZ_rg (n := n) (code := c) (q := q) (k := j) hn.1; omega)
  have e0 : meP n cap ru re me (dgZ n c q) 0 = 0 := rfl
  rw [e0, Int.sub_zero, Nat.zero_add, meP_Z hm] at h
  unfold qI
  rw [Int.toNat_natCast]
  by_cases u : (me = 0 ∨ lvZ n cap ru re (dgZ n c q) q = 0) ∧ meZ me n cap ru re (dgZ n c q) q = x
  · rw [if_pos u]
    refine h.1 ⟨?_, u.2⟩
    rcases u.1 with v | v
    · exact Or.inl v
    · exact Or.inr (fun j a b => (lv_iff q).mp v j (by omega) b)
  · rw [if_neg u]
    refine h.2 (fun v => u ⟨?_, v.2⟩)
    rcases v.1 with y | y
    · exact Or.inl y
    · exact Or.inr ((lv_iff q).mpr (fun j a b => y j (by omega) b))
/-- E1: the counts -/
theorem cL_q {n : Int} {cap : Int → Int} {ru re me x q : Int} (hn : 1 ≤ n ∧ n ≤ 8) (hm : 0 ≤ me ∧ me ≤ 2) (hq : 0 ≤ q) : cL n cap ru re me q.toNat zeroZ x = sumZ (qI me x n cap ru re q) (powZ n q.toNat).toNat := by
  obtain ⟨k, rfl⟩ := Int.eq_ofNat_of_zero_le hq
  rw [Int.toNat_natCast, cL_sum hn]
  exact sumZ_congr _ (fun c _ _ => kW_q hn hm k)
theorem cod_front {n : Int} {w : Int → Int} : ∀ m : Nat, codZ n w (m + 1) = w 0 * powZ n m + codZ n (fun j => w (j + 1)) m
  | 0 => by
    show n * 0 + w ((0 : Nat) : Int) = w 0 * 1 + 0
    rw [Int.mul_zero, Int.zero_add, Int.mul_one, Int.add_zero]
    rfl
  | m + 1 => by
    show n * codZ n w (m + 1) + w ((m + 1 : Nat) : Int) = w 0 * (powZ n m * n) + (n * codZ n (fun j => w (j + 1)) m + w ((m : Int) + 1))
    rw [cod_front m, Int.mul_add, Int.natCast_add, Int.add_assoc, Int.mul_left_comm, Int.mul_comm n (powZ n m)]
    rfl
/-- lists that park before this one -/
def sR (n : Int) (cap : Int → Int) (ru re : Int) (w : Int → Int) (m : Nat) (st : Int → Int) : Int := sumZ (fun c => kW n cap ru re 0 (dgZ n c m) m 0 st 0) (codZ n w m).toNat
theorem shr_0 (p s : Int) : shr 0 p s = if p = -1 then 1 else 0 := by
  unfold shr
  rw [if_neg (by decide), if_neg (by decide)]
theorem kW_in {n s c : Int} {cap : Int → Int} {ru re : Int} {m : Nat} {st : Int → Int} (hn : 1 ≤ n ∧ n ≤ 8) (hs : 0 ≤ s ∧ s < n) (hc : 0 ≤ c ∧ c < powZ n m) : kW n cap ru re 0 (dgZ n (s * powZ n m + c) ((m : Int) + 1)) (m + 1) 0 st 0 = if 0 ≤ pP n cap st ru re s then kW n cap ru re 0 (dgZ n c m) m 0 (stp st (pP n cap st ru re s)) 0 else 0 := by
  rw [kW_code hn hs hc, shr_0]
  have hp := pP_rg n cap st ru re s
  by_cases u : 0 ≤ pP n cap st ru re s
  · rw [if_pos u, if_neg (show ¬ pP n cap st ru re s = -1 by omega), if_pos ⟨Or.inl u, by decide⟩]
    rfl
  · rw [if_neg u, if_pos (show pP n cap st ru re s = -1 by omega), if_neg (fun v => absurd v.2 (by decide))]
theorem sR_s {n : Int} {cap : Int → Int} {ru re : Int} {w : Int → Int} {m : Nat} {st : Int → Int} (hn : 1 ≤ n ∧ n ≤ 8) (hw : ∀ j : Int, 0 ≤ j → j < (m + 1 : Nat) → 0 ≤ w j ∧ w j < n) : sR n cap ru re w (m + 1) st = sumZ (fun s => cB n cap ru re m st s) (w 0).toNat + (if 0 ≤ pP n cap st ru re (w 0) then sR n cap ru re (fun j => w (j + 1)) m (stp st (pP n cap st ru re (w 0))) else 0) := by
  have h0 := hw 0 (by omega) (by omega)
  have hc := codZ_rg hn (w := fun j => w (j + 1)) m (fun j a b => hw (j + 1) (by omega) (by omega))
  have hp := pow_pos1 hn m
  obtain ⟨_, h2⟩ := powN hn m
  unfold sR
  have e1 : (codZ n w (m + 1)).toNat = (w 0).toNat * (powZ n m).toNat + (codZ n (fun j => w (j + 1)) m).toNat := by
    rw [cod_front, Int.toNat_add (Int.mul_nonneg h0.1 (by omega)) hc.1, Int.toNat_mul h0.1 (by omega)]
  rw [e1, sum_append, sum_split, h2, Int.natCast_mul, h2, show (((w 0).toNat : Nat) : Int) = w 0 by omega]
  congr 1
  · refine sumZ_congr _ (fun s s0 s1 => ?_)
    have e2 : sumZ (fun c => kW n cap ru re 0 (dgZ n (s * powZ n m + c) ((m + 1 : Nat) : Int)) (m + 1) 0 st 0) (powZ n m).toNat = sumZ (fun c => if 0 ≤ pP n cap st ru re s then kW n cap ru re 0 (dgZ n c m) m 0 (stp st (pP n cap st ru re s)) 0 else 0) (powZ n m).toNat := sumZ_congr _ (fun c c0 c1 => kW_in hn (by omega) (by omega))
    show sumZ (fun c => kW n cap ru re 0 (dgZ n (s * powZ n m + c) ((m + 1 : Nat) : Int)) (m + 1) 0 st 0) (powZ n m).toNat = _
    rw [e2]
    unfold cB
    by_cases u : 0 ≤ pP n cap st ru re s
    · rw [if_pos u, cL_sum hn]
      exact sumZ_congr _ (fun c _ _ => if_pos u)
    · rw [if_neg u]
      exact sumZ_0 _ (fun c _ _ => if_neg u)
  · have e2 : sumZ (fun c => kW n cap ru re 0 (dgZ n (w 0 * powZ n m + c) ((m + 1 : Nat) : Int)) (m + 1) 0 st 0) (codZ n (fun j => w (j + 1)) m).toNat = sumZ (fun c => if 0 ≤ pP n cap st ru re (w 0) then kW n cap ru re 0 (dgZ n c m) m 0 (stp st (pP n cap st ru re (w 0))) 0 else 0) (codZ n (fun j => w (j + 1)) m).toNat := sumZ_congr _ (fun c c0 c1 => kW_in hn h0 (by omega))
    rw [e2]
    by_cases u : 0 ≤ pP n cap st ru re (w 0)
    · rw [if_pos u]
      exact sumZ_congr _ (fun c _ _ => if_pos u)
    · rw [if_neg u]
      exact sumZ_0 _ (fun c _ _ => if_neg u)
theorem sR_go {n : Int} {cap : Int → Int} {ru re : Int} {w : Int → Int} {ct : Nat} (hn : 1 ≤ n ∧ n ≤ 8) (hw : ∀ j : Int, 0 ≤ j → j < ct → 0 ≤ w j ∧ w j < n) : ∀ i : Nat, i ≤ ct → (∀ j : Int, 0 ≤ j → j < i → 0 ≤ ppl n cap ru re w j) → sR n cap ru re w ct zeroZ = sumZ (rkF n cap ru re w ct) i + sR n cap ru re (fun j => w (i + j)) (ct - i) (pst n cap ru re w i)
  | 0, _, _ => by
    have e : (fun j : Int => w (((0 : Nat) : Int) + j)) = w := by
      funext j
      show w (0 + j) = w j
      rw [Int.zero_add]
    rw [e, Nat.sub_zero]
    exact (Int.zero_add _).symm
  | i + 1, hi, hj => by
    have ih := sR_go hn hw i (by omega) (fun j a b => hj j a (by omega))
    rw [ih, show ct - i = (ct - (i + 1)) + 1 by omega, sR_s hn (fun j a b => hw (i + j) (by omega) (by omega))]
    have e0 : w ((i : Int) + 0) = w (i : Int) := by rw [Int.add_zero]
    have hp : 0 ≤ pP n cap (pst n cap ru re w i) ru re (w (i : Int)) := by
      rw [← ppl_n]
      exact hj i (by omega) (by omega)
    rw [e0, if_pos hp]
    have e1 : rkF n cap ru re w ct (i : Int) = sumZ (fun s => cB n cap ru re (ct - (i + 1)) (pst n cap ru re w i) s) (w (i : Int)).toNat := by
      unfold rkF
      rw [Int.toNat_natCast, show ((ct : Int) - i - 1).toNat = ct - (i + 1) by omega]
    have e2 : (fun j : Int => w ((i : Int) + (j + 1))) = (fun j : Int => w (((i + 1 : Nat) : Int) + j)) := by
      funext j
      rw [show (i : Int) + (j + 1) = ((i + 1 : Nat) : Int) + j by omega]
    have e3 : sumZ (rkF n cap ru re w ct) (i + 1) = sumZ (rkF n cap ru re w ct) i + rkF n cap ru re w ct (i : Int) := rfl
    rw [e3, e1, e2, Int.add_assoc]
    rfl
theorem sR_0 {n : Int} {cap : Int → Int} {ru re : Int} {w : Int → Int} {st : Int → Int} : sR n cap ru re w 0 st = 0 := rfl
theorem sR_q {n : Int} {cap : Int → Int} {ru re ct : Int} {w : Int → Int} (hn : 1 ≤ n ∧ n ≤ 8) (hc : 0 ≤ ct) : sR n cap ru re w ct.toNat zeroZ = sumZ (qI 0 0 n cap ru re ct) (codZ n w ct.toNat).toNat := by
  obtain ⟨k, rfl⟩ := Int.eq_ofNat_of_zero_le hc
  rw [Int.toNat_natCast]
  exact sumZ_congr _ (fun c _ _ => kW_q hn (by decide) k)
/-- E2: the rank -/
theorem rank_q {n : Int} {cap : Int → Int} {ru re ct z : Int} {w : Int → Int} (hn : 1 ≤ n ∧ n ≤ 8) (hc : 0 ≤ ct) (hw : ∀ j : Int, 0 ≤ j → j < ct → 0 ≤ w j ∧ w j < n) (h : ∃ i : Int, 0 ≤ i ∧ i ≤ ct ∧ z = sumZ (rkF n cap ru re w ct) i.toNat ∧ ((i = ct ∧ ∀ j : Int, 0 ≤ j → j < i → 0 ≤ ppl n cap ru re w j) ∨ (0 < i ∧ ppl n cap ru re w (i - 1) = -1 ∧ ∀ j : Int, 0 ≤ j → j < i - 1 → 0 ≤ ppl n cap ru re w j))) : z = sumZ (qI 0 0 n cap ru re ct) (codZ n w ct.toNat).toNat := by
  rw [← sR_q hn hc]
  have hk : ((ct.toNat : Nat) : Int) = ct := by omega
  obtain ⟨i, h0, h1, hz, h⟩ := h
  rcases h with ⟨e, h⟩ | ⟨a1, a2, a3⟩
  · have g := sR_go (cap := cap) (ru := ru) (re := re) hn (w := w) (ct := ct.toNat) (fun j a b => hw j a (by omega)) ct.toNat (Nat.le_refl _) (fun j a b => h j a (by omega))
    rw [Nat.sub_self, sR_0, Int.add_zero, hk] at g
    rw [g, hz, e]
  · have g := sR_go (cap := cap) (ru := ru) (re := re) hn (w := w) (ct := ct.toNat) (fun j a b => hw j a (by omega)) (i - 1).toNat (by omega) (fun j a b => a3 j a (by omega))
    rw [show ct.toNat - (i - 1).toNat = (ct.toNat - i.toNat) + 1 by omega, sR_s hn (fun j a b => hw _ (by omega) (by omega))] at g
    have e0 : w ((((i - 1).toNat : Nat) : Int) + 0) = w (i - 1) := by rw [show (((i - 1).toNat : Nat) : Int) + 0 = i - 1 by omega]
    have hp : ¬ 0 ≤ pP n cap (pst n cap ru re w (i - 1).toNat) ru re (w (i - 1)) := by
      have e : ppl n cap ru re w (i - 1) = pP n cap (pst n cap ru re w (i - 1).toNat) ru re (w (i - 1)) := rfl
      rw [← e, a2]
      decide
    rw [e0, if_neg hp, Int.add_zero, hk] at g
    have e1 : rkF n cap ru re w ct (i - 1) = sumZ (fun s => cB n cap ru re (ct.toNat - i.toNat) (pst n cap ru re w (i - 1).toNat) s) (w (i - 1)).toNat := by
      unfold rkF
      rw [show (ct - (i - 1) - 1).toNat = ct.toNat - i.toNat by omega]
    rw [g, hz, ← e1]
    have e2 := sumZ_s (f := rkF n cap ru re w ct) (i := i - 1) (by omega)
    rw [show i - 1 + 1 = i by omega] at e2
    exact e2
theorem q_park {n : Int} {cap : Int → Int} {ru re q : Int} {w : Int → Int} (hn : 1 ≤ n ∧ n ≤ 8) (hq : 0 ≤ q) (hw : ∀ j : Int, 0 ≤ j → j < q → 0 ≤ w j ∧ w j < n) (hp : ∀ j : Int, 0 ≤ j → j < q → 0 ≤ ppl n cap ru re w j) : qI 0 0 n cap ru re q (codZ n w q.toNat) = 1 := by
  refine qI_d1 rfl ?_
  have e := dg_cod hn hq hw
  rw [lvZ_congr (wj := w) q.toNat (fun j a b => e j a (by omega))]
  exact (lv_iff q.toNat).mpr (fun j a b => hp j a (by omega))
theorem sum_lt {f : Int → Int} (h : ∀ j : Int, 0 ≤ f j ∧ f j ≤ 1) {a b : Int} (ha : 0 ≤ a) (hb : a < b) (h1 : f a = 1) : sumZ f a.toNat < sumZ f b.toNat := by
  have e := sum_append f (a + 1).toNat (b - a - 1).toNat
  rw [show (a + 1).toNat + (b - a - 1).toNat = b.toNat by omega, sumZ_s ha, h1] at e
  have := sum01 (f := fun c => f (((a + 1).toNat : Nat) + c)) (fun j => h _) (b - a - 1).toNat
  omega
/-- E3: the list with a rank -/
theorem setrank_q {n : Int} {cap : Int → Int} {ru re q v c : Int} {w : Int → Int} (hn : 1 ≤ n ∧ n ≤ 8) (hq : 0 ≤ q) (hw : ∀ j : Int, 0 ≤ j → j < q → (0 ≤ w j ∧ w j < n) ∧ 0 ≤ ppl n cap ru re w j) (hv : v = sumZ (rkF n cap ru re w q) q.toNat) (hc : 0 ≤ c ∧ c < powZ n q.toNat) (h1 : qI 0 0 n cap ru re q c = 1) (h2 : sumZ (qI 0 0 n cap ru re q) c.toNat = v) : ∀ j : Int, 0 ≤ j → j < q → dgZ n c q j = w j := by
  have hw1 : ∀ j : Int, 0 ≤ j → j < q → 0 ≤ w j ∧ w j < n := fun j a b => (hw j a b).1
  have e1 := rank_q (cap := cap) (ru := ru) (re := re) (z := v) hn hq hw1 ⟨q, hq, Int.le_refl _, hv, Or.inl ⟨rfl, fun j a b => (hw j a b).2⟩⟩
  have e2 := q_park (cap := cap) (ru := ru) (re := re) hn hq hw1 (fun j a b => (hw j a b).2)
  have cg := codZ_rg hn (w := w) q.toNat (fun j a b => hw1 j a (by omega))
  have ec : c = codZ n w q.toNat := by
    by_cases u : c < codZ n w q.toNat
    · have := sum_lt (qI_rg 0 0 n cap ru re q) hc.1 u h1
      omega
    · by_cases u2 : codZ n w q.toNat < c
      · have := sum_lt (qI_rg 0 0 n cap ru re q) cg.1 u2 e2
        omega
      · omega
  intro j a b
  rw [ec]
  exact dg_cod hn hq hw1 j a b
