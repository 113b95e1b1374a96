/-! counts over all defects, all numbers of lucky cars, all sums -/
section PS
variable {n : Int} {cap : Int → Int} {ru re : Int}
theorem sum_sw2 (F : Int → Int → Int) (a : Nat) : ∀ b : Nat, sumZ (fun x => sumZ (fun y => F x y) a) b = sumZ (fun y => sumZ (fun x => F x y) b) a
  | 0 => (sumZ_0 a (fun _ _ _ => rfl)).symm
  | b + 1 => by
    show sumZ (fun x => sumZ (fun y => F x y) a) b + sumZ (fun y => F (b : Int) y) a = sumZ (fun y => sumZ (fun x => F x y) b + F (b : Int) y) a
    rw [sum_sw2 F a b, sum_two]
theorem sum_hit {v : Int} {b : Nat} (h : 0 ≤ v ∧ v < b) : sumZ (fun x => if v = x then 1 else 0) b = 1 := by
  rw [sumZ_congr (g := fun r => if r = v then 1 else 0) b (fun j _ _ => by
    show (if v = j then (1 : Int) else 0) = if j = v then 1 else 0
    by_cases q : v = j
    · rw [if_pos q, if_pos q.symm]
    · rw [if_neg q, if_neg (fun u => q u.symm)]), sum_one h]
theorem sum_if {p : Prop} {v : Int} {b : Nat} (h : 0 ≤ v ∧ v < b) : sumZ (fun x => @ite Int (p ∧ v = x) (Classical.propDecidable _) 1 0) b = @ite Int p (Classical.propDecidable _) 1 0 := by
  by_cases q : p
  · rw [if_pos q]
    refine (sumZ_congr b (fun j _ _ => ?_)).trans (sum_hit h)
    show @ite Int (p ∧ v = j) (Classical.propDecidable _) 1 0 = if v = j then 1 else 0
    by_cases u : v = j
    · rw [if_pos u, if_pos ⟨q, u⟩]
    · rw [if_neg u, if_neg (fun x => u x.2)]
  · rw [if_neg q]
    exact sumZ_0 b (fun j _ _ => if_neg (fun x => q x.1))
theorem qI_if (wt x q code : Int) : qI wt x n cap ru re q code = @ite Int ((wt = 0 ∨ lvZ n cap ru re (dgZ n code q) q.toNat = 0) ∧ meZ wt n cap ru re (dgZ n code q) q.toNat = x) (Classical.propDecidable _) 1 0 := by
  unfold qI
  by_cases u : (wt = 0 ∨ lvZ n cap ru re (dgZ n code q) q.toNat = 0) ∧ meZ wt n cap ru re (dgZ n code q) q.toNat = x
  · rw [if_pos u, if_pos u]
  · rw [if_neg u, if_neg u]
theorem cL_all {wt q : Int} {b : Nat} (hn : 1 ≤ n ∧ n ≤ 8) (hm : 0 ≤ wt ∧ wt ≤ 2) (hq : 0 ≤ q) (hb : ∀ code : Int, 0 ≤ meZ wt n cap ru re (dgZ n code q) q.toNat ∧ meZ wt n cap ru re (dgZ n code q) q.toNat < b) : sumZ (fun x => cL n cap ru re wt q.toNat zeroZ x) b = sumZ (fun c => @ite Int (wt = 0 ∨ lvZ n cap ru re (dgZ n c q) q.toNat = 0) (Classical.propDecidable _) 1 0) (powZ n q.toNat).toNat := by
  rw [sumZ_congr (g := fun x => sumZ (fun c => qI wt x n cap ru re q c) (powZ n q.toNat).toNat) b (fun j _ _ => cL_q hn hm hq), sum_sw2]
  refine sumZ_congr _ (fun c _ _ => ?_)
  show sumZ (fun x => qI wt x n cap ru re q c) b = _
  rw [sumZ_congr (g := fun x => @ite Int ((wt = 0 ∨ lvZ n cap ru re (dgZ n c q) q.toNat = 0) ∧ meZ wt n cap ru re (dgZ n c q) q.toNat = x) (Classical.propDecidable _) 1 0) b (fun j _ _ => qI_if wt j q c)]
  exact sum_if (hb c)
theorem me_lv (code q : Int) : meZ 0 n cap ru re (dgZ n code q) q.toNat = lvZ n cap ru re (dgZ n code q) q.toNat := me_0 rfl
/-- every list has one defect -/
theorem all_defects {q : Int} (hn : 1 ≤ n ∧ n ≤ 8) (hq : 0 ≤ q ∧ q ≤ 9) : sumZ (fun x => cL n cap ru re 0 q.toNat zeroZ x) 10 = powZ n q.toNat := by
  rw [cL_all hn (by omega) hq.1 (fun c => by
    rw [me_lv]
    have := lvZ_rg (n := n) (cap := cap) (ru := ru) (re := re) (wi := dgZ n c q) q.toNat
    omega)]
  refine (sumZ_congr (g := fun _ => 1) _ (fun j _ _ => if_pos (Or.inl rfl))).trans ?_
  rw [sum_ones]
  exact (powN hn q.toNat).2
theorem parks_all {q : Int} (hn : 1 ≤ n ∧ n ≤ 8) (hq : 0 ≤ q) : cL n cap ru re 0 q.toNat zeroZ 0 = sumZ (fun c => @ite Int (lvZ n cap ru re (dgZ n c q) q.toNat = 0) (Classical.propDecidable _) 1 0) (powZ n q.toNat).toNat := by
  rw [cL_q hn (by omega) hq]
  refine sumZ_congr _ (fun c _ _ => ?_)
  rw [qI_if, me_lv]
  by_cases u : lvZ n cap ru re (dgZ n c q) q.toNat = 0
  · rw [if_pos u, if_pos ⟨Or.inl rfl, u⟩]
  · rw [if_neg u, if_neg (fun x => u x.2)]
theorem cL_lists {wt q : Int} {b : Nat} (hn : 1 ≤ n ∧ n ≤ 8) (hm : 1 ≤ wt ∧ wt ≤ 2) (hq : 0 ≤ q) (hb : ∀ code : Int, 0 ≤ meZ wt n cap ru re (dgZ n code q) q.toNat ∧ meZ wt n cap ru re (dgZ n code q) q.toNat < b) : sumZ (fun x => cL n cap ru re wt q.toNat zeroZ x) b = cL n cap ru re 0 q.toNat zeroZ 0 := by
  rw [cL_all hn (by omega) hq hb, parks_all hn hq]
  refine sumZ_congr _ (fun c _ _ => ?_)
  by_cases u : lvZ n cap ru re (dgZ n c q) q.toNat = 0
  · rw [if_pos u, if_pos (Or.inr u)]
  · rw [if_neg u, if_neg (fun x => x.elim (by omega) u)]
/-- lists that park, by their lucky cars -/
theorem all_lucky {q : Int} (hn : 1 ≤ n ∧ n ≤ 8) (hq : 0 ≤ q ∧ q ≤ 9) : sumZ (fun x => cL n cap ru re 1 q.toNat zeroZ x) 10 = cL n cap ru re 0 q.toNat zeroZ 0 :=
  cL_lists hn (by omega) hq.1 (fun c => by
    rw [me_1 rfl]
    have := sum01 (f := fun i => if ppl n cap ru re (dgZ n c q) i = dgZ n c q i then 1 else 0) (fun j => by
      show 0 ≤ (if _ then (1 : Int) else 0) ∧ (if _ then (1 : Int) else 0) ≤ 1
      split <;> omega) q.toNat
    unfold lkZ
    omega)
/-- lists that park, by their sums -/
theorem all_sums {q : Int} (hn : 1 ≤ n ∧ n ≤ 8) (hq : 0 ≤ q) (h : q * (n - 1) ≤ 63) : sumZ (fun x => cL n cap ru re 2 q.toNat zeroZ x) 64 = cL n cap ru re 0 q.toNat zeroZ 0 :=
  cL_lists hn (by omega) hq (fun c => by
    rw [me_2 rfl]
    have := sumZ_rg (f := dgZ n c q) (c := n - 1) q.toNat (fun j _ _ => by
      have := dgZ_rg (n := n) (code := c) (q := q) (k := j) hn.1
      omega)
    rw [show ((q.toNat : Nat) : Int) = q by omega] at this
    omega)
theorem powZ_le {m : Int} (hn : 1 ≤ n ∧ n ≤ 8) (hm : 0 ≤ m ∧ m ≤ 3) : powZ n m.toNat ≤ 512 := by
  have h1 := (powZ_rg hn m.toNat).2
  have h2 : ∀ k : Nat, k ≤ 3 → (8 : Int) ^ k ≤ 512 := by decide
  have := h2 m.toNat (by omega)
  omega
theorem powZ_9big (h : 8 ≤ n) : 50000 < powZ n (9 : Int).toNat ∨ 8 < n := by
  by_cases q : 8 < n
  · exact Or.inr q
  · left
    rw [show n = 8 by omega]
    decide
theorem mul_le63 {m : Int} (hn : 1 ≤ n ∧ n ≤ 8) (hm : 0 ≤ m ∧ m ≤ 3) : m * (n - 1) ≤ 63 := by
  have := Int.mul_le_mul hm.2 (show n - 1 ≤ 7 by omega) (by omega) (by omega)
  omega
end PS
/-! prints, kept states -/
theorem fpW_ext {f0 : Int} {wi wj pl pm lk lm : Int → Int} : ∀ k : Nat, (∀ j : Int, 0 ≤ j → j < k → wi j = wj j ∧ pl j = pm j ∧ lk j = lm j) → fpW f0 wi pl lk k = fpW f0 wj pm lm k
  | 0, _ => rfl
  | k + 1, h => by
    obtain ⟨a, b, c⟩ := h (k : Int) (by omega) (by omega)
    show 31 * (31 * (31 * fpW f0 wi pl lk k + wi (k : Int)) + pl (k : Int)) + lk (k : Int) = 31 * (31 * (31 * fpW f0 wj pm lm k + wj (k : Int)) + pm (k : Int)) + lm (k : Int)
    rw [fpW_ext k (fun j x y => h j x (by omega)), a, b, c]
theorem plk_cap2 {n : Int} {cap cap2 : Int → Int} {ru re : Int} {wi : Int → Int} (h : ∀ j : Int, 0 ≤ j → j < n → cap j = cap2 j) (j : Int) : ppl n cap ru re wi j = ppl n cap2 ru re wi j ∧ plk n cap ru re wi j = plk n cap2 ru re wi j := by
  unfold ppl plk
  rw [pst_cap h]
  exact ⟨pP_congr h (fun _ _ _ => rfl), pK_congr h (fun _ _ _ => rfl)⟩
theorem fpr_ext {n : Int} {cap cap2 wi wj : Int → Int} {ct ru re : Int} (hc : ∀ j : Int, 0 ≤ j → j < n → cap j = cap2 j) (hw : ∀ j : Int, 0 ≤ j → j < ct → wi j = wj j) : fpr n cap wi ct ru re = fpr n cap2 wj ct ru re := by
  have hp : ∀ j : Int, 0 ≤ j → j < (ct.toNat : Nat) → ppl n cap ru re wi j = ppl n cap2 ru re wj j ∧ plk n cap ru re wi j = plk n cap2 ru re wj j ∧ wi j = wj j := fun j a b => by
    have h1 := plk_cap2 (ru := ru) (re := re) (wi := wi) hc j
    exact ⟨h1.1.trans (ppl_congr a (fun i x y => hw i x (by omega))), h1.2.trans (plk_congr a (fun i x y => hw i x (by omega))), hw j a (by omega)⟩
  unfold fpr fpF
  rw [fpC_cap (cap2 := cap2) n.toNat (fun j a b => hc j a (by omega)), fpW_ext (wj := wj) (pm := ppl n cap2 ru re wj) (lm := plk n cap2 ru re wj) ct.toNat (fun j a b => by
    obtain ⟨x, y, z⟩ := hp j a b
    exact ⟨z, x, y⟩)]
  have e1 : sumZ (fun c => if ppl n cap ru re wi c = -1 then (1 : Int) else 0) ct.toNat = sumZ (fun c => if ppl n cap2 ru re wj c = -1 then 1 else 0) ct.toNat := sumZ_congr ct.toNat (fun j a b => by
    show (if ppl n cap ru re wi j = -1 then (1 : Int) else 0) = _
    rw [(hp j a b).1])
  have e2 : sumZ (fun c => if ppl n cap ru re wi c = wi c then (2 : Int) ^ c.toNat else 0) ct.toNat = sumZ (fun c => if ppl n cap2 ru re wj c = wj c then 2 ^ c.toNat else 0) ct.toNat := sumZ_congr ct.toNat (fun j a b => by
    show (if ppl n cap ru re wi j = wi j then (2 : Int) ^ j.toNat else 0) = _
    rw [(hp j a b).1, (hp j a b).2.2])
  have e3 : sumZ (fun c => if ppl n cap ru re wi c = -1 then 0 else if 0 ≤ ppl n cap ru re wi c - wi c then ppl n cap ru re wi c - wi c else -(ppl n cap ru re wi c - wi c)) ct.toNat = sumZ (fun c => if ppl n cap2 ru re wj c = -1 then 0 else if 0 ≤ ppl n cap2 ru re wj c - wj c then ppl n cap2 ru re wj c - wj c else -(ppl n cap2 ru re wj c - wj c)) ct.toNat := sumZ_congr ct.toNat (fun j a b => by
    show (if ppl n cap ru re wi j = -1 then 0 else if 0 ≤ ppl n cap ru re wi j - wi j then ppl n cap ru re wi j - wi j else -(ppl n cap ru re wi j - wi j)) = _
    rw [(hp j a b).1, (hp j a b).2.2])
  rw [e1, e2, e3]
section PK
variable {ys : Int} {ya : Nat → Nat → Nat} {yc yw : Nat → Int → Int} {yt yu yr : Nat → Int} {cap wi : Int → Int} {ct ru re ys1 : Int} {ya1 : Nat → Nat → Nat} {yc1 yw1 : Nat → Int → Int} {yt1 yu1 yr1 : Nat → Int}
theorem keep_rg (h : KEEP ys ya yc yw yt yu yr cap wi ct ru re ys1 ya1 yc1 yw1 yt1 yu1 yr1) (hy : 0 ≤ ys ∧ ys ≤ 6) : 1 ≤ ys1 ∧ ys1 ≤ 6 := by
  rcases h with ⟨a, b, _⟩ | ⟨a, b, _⟩ <;> omega
/-- the state that undo brings back is the one that was kept -/
theorem keep_top (h : KEEP ys ya yc yw yt yu yr cap wi ct ru re ys1 ya1 yc1 yw1 yt1 yu1 yr1) (hy : 0 ≤ ys ∧ ys ≤ 6) : (∀ j : Int, j < 8 → yc1 (ys1 - 1).toNat j = cap j) ∧ (∀ j : Int, j < 9 → yw1 (ys1 - 1).toNat j = wi j) ∧ yt1 (ys1 - 1).toNat = ct ∧ yu1 (ys1 - 1).toNat = ru ∧ yr1 (ys1 - 1).toNat = re := by
  rcases h with ⟨a, b, _, c, d, e, f, g⟩ | ⟨a, b, _, c, d, e, f, g⟩
  · have hk : (ys1 - 1).toNat = ys.toNat := by omega
    rw [hk, c, d, e, f, g]
    simp only [va_up, if_true]
    exact ⟨fun j q => cpZ_lt q, fun j q => cpZ_lt q, trivial, trivial, trivial⟩
  · have hk : (ys1 - 1).toNat = 5 := by omega
    rw [hk, c, d, e, f, g]
    exact ⟨fun j q => cpZ_lt q, fun j q => cpZ_lt q, rfl, rfl, rfl⟩
end PK
