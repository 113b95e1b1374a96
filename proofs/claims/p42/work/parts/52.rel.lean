/-! what binds the class and the reference together -/
def capM (n : Int) (mv : Int → Int) : Int → Int := fun j => if j < n then mv (3 + j) else if j < 8 then 1 else 0
def VAL (n : Int) (mv : Int → Int) : Prop := (0 ≤ mv 0 ∧ mv 0 ≤ 9) ∧ (0 ≤ mv 1 ∧ mv 1 ≤ 3) ∧ (0 ≤ mv 2 ∧ mv 2 ≤ 8) ∧ (∀ j : Int, 0 ≤ j → j < n → 0 ≤ mv (3 + j) ∧ mv (3 + j) ≤ 3) ∧ (∀ j : Int, 0 ≤ j → j < mv 0 → 0 ≤ mv (12 + j) ∧ mv (12 + j) < n)
def shm (mp : Int → Int) (i : Nat) : Int → Int := fun k => mp (21 * (i : Int) + k)
/-- a state that is kept -/
def RK (n : Int) (mv : Int → Int) (c w : Int → Int) (t u r : Int) : Prop := VAL n mv ∧ (∀ j : Int, 0 ≤ j → j < 8 → c j = capM n mv j) ∧ (∀ j : Int, 0 ≤ j → j < 9 → w j = wv mv j) ∧ t = mv 0 ∧ u = mv 1 ∧ r = mv 2
def RH (n sts : Int) (mp : Int → Int) (yc yw : Nat → Int → Int) (yt yu yr : Nat → Int) : Prop := ∀ i : Nat, (i : Int) < sts → RK n (shm mp i) (yc i) (yw i) (yt i) (yu i) (yr i)
theorem VAL_congr {n : Int} {mv mw : Int → Int} (hn : n ≤ 8) (h : ∀ k : Int, 0 ≤ k → k < 21 → mv k = mw k) (q : VAL n mv) : VAL n mw := by
  obtain ⟨h0, h1, h2, h3, h4⟩ := q
  have e0 := h 0 (by decide) (by decide)
  have e1 := h 1 (by decide) (by decide)
  have e2 := h 2 (by decide) (by decide)
  refine ⟨by omega, by omega, by omega, fun j a b => ?_, fun j a b => ?_⟩
  · rw [← h (3 + j) (by omega) (by omega)]
    exact h3 j a b
  · rw [← h (12 + j) (by omega) (by omega)]
    exact h4 j a (by omega)
theorem RK_congr {n : Int} {mv mw c w : Int → Int} {t u r : Int} (hn : n ≤ 8) (h : ∀ k : Int, 0 ≤ k → k < 21 → mv k = mw k) (q : RK n mv c w t u r) : RK n mw c w t u r := by
  obtain ⟨h0, h1, h2, h3, h4, h5⟩ := q
  refine ⟨VAL_congr hn h h0, fun j a b => ?_, fun j a b => ?_, ?_, ?_, ?_⟩
  · rw [h1 j a b]
    unfold capM
    by_cases e : j < n
    · rw [if_pos e, if_pos e, h (3 + j) (by omega) (by omega)]
    · rw [if_neg e, if_neg e]
  · rw [h2 j a b]
    exact h (12 + j) (by omega) (by omega)
  · rw [h3, h 0 (by decide) (by decide)]
  · rw [h4, h 1 (by decide) (by decide)]
  · rw [h5, h 2 (by decide) (by decide)]
theorem RK_self {n : Int} {mv g h : Int → Int} (q : VAL n mv) : RK n mv (cpZ (capM n mv) g 8) (cpZ (wv mv) h 9) (mv 0) (mv 1) (mv 2) := ⟨q, fun _ _ b => cpZ_lt b, fun _ _ b => cpZ_lt b, rfl, rfl, rfl⟩
theorem rh_keep {n sts : Int} {mv mp : Int → Int} {ya : Nat → Nat → Nat} {yc yw : Nat → Int → Int} {yt yu yr : Nat → Int} {ys1 : Int} {ya1 : Nat → Nat → Nat} {yc1 yw1 : Nat → Int → Int} {yt1 yu1 yr1 : Nat → Int} (hn : n ≤ 8) (hst : 0 ≤ sts ∧ sts ≤ 6) (hV : VAL n mv) (hH : RH n sts mp yc yw yt yu yr) (hk : KEEP sts ya yc yw yt yu yr (capM n mv) (wv mv) (mv 0) (mv 1) (mv 2) ys1 ya1 yc1 yw1 yt1 yu1 yr1) : ys1 = acS sts ∧ RH n (acS sts) (acP sts mp mv) yc1 yw1 yt1 yu1 yr1 := by
  rcases hk with ⟨h0, h1, h2, h3, h4, h5, h6, h7⟩ | ⟨h0, h1, h2, h3, h4, h5, h6, h7⟩
  · have es : acS sts = sts + 1 := if_neg (by omega)
    have ea : acA sts = sts := if_neg (by omega)
    refine ⟨by omega, fun i hi => ?_⟩
    have ep : acP sts mp mv = wrP mp mv (21 * sts) 21 := by
      unfold acP
      rw [if_neg (by omega), ea]
    rw [es] at hi
    rw [ep]
    by_cases q : i = sts.toNat
    · rw [h3, h4, h5, h6, h7, q, va_up_self, va_up_self, va_up_self, va_up_self, va_up_self]
      refine RK_congr hn (fun k a b => ?_) (RK_self hV)
      show mv k = wrP mp mv (21 * sts) 21 (21 * ((sts.toNat : Nat) : Int) + k)
      unfold wrP
      rw [if_pos (by omega), show 21 * ((sts.toNat : Nat) : Int) + k - 21 * sts = k by omega]
    · rw [h3, h4, h5, h6, h7, va_up_ne _ _ q, va_up_ne _ _ q, va_up_ne _ _ q, va_up_ne _ _ q, va_up_ne _ _ q]
      refine RK_congr hn (fun k a b => ?_) (hH i (by omega))
      show mp (21 * (i : Int) + k) = wrP mp mv (21 * sts) 21 (21 * (i : Int) + k)
      exact (if_neg (by omega)).symm
  · have es : acS sts = 6 := if_pos h0
    have ea : acA sts = 5 := if_pos h0
    refine ⟨by omega, fun i hi => ?_⟩
    have ep : acP sts mp mv = wrP (shP mp 105) mv 105 21 := by
      unfold acP
      rw [if_pos h0, ea]
      rfl
    rw [es] at hi
    rw [ep, h3, h4, h5, h6, h7]
    by_cases q : i = 5
    · subst q
      refine RK_congr hn (fun k a b => ?_) (RK_self hV)
      show mv k = wrP (shP mp 105) mv 105 21 (21 * ((5 : Nat) : Int) + k)
      unfold wrP
      rw [if_pos (by omega), show 21 * ((5 : Nat) : Int) + k - 105 = k by omega]
    · have hk : ∀ k : Int, 0 ≤ k → k < 21 → shm mp (i + 1) k = shm (wrP (shP mp 105) mv 105 21) i k := fun k a b => by
        show mp (21 * ((i + 1 : Nat) : Int) + k) = wrP (shP mp 105) mv 105 21 (21 * (i : Int) + k)
        unfold wrP shP
        rw [if_neg (by omega), if_pos (by omega), show 21 * (i : Int) + k + 21 = 21 * ((i + 1 : Nat) : Int) + k by omega]
      have hc : i = 0 ∨ i = 1 ∨ i = 2 ∨ i = 3 ∨ i = 4 := by omega
      rcases hc with rfl | rfl | rfl | rfl | rfl
      · exact RK_congr hn hk (hH 1 (by omega))
      · exact RK_congr hn hk (hH 2 (by omega))
      · exact RK_congr hn hk (hH 3 (by omega))
      · exact RK_congr hn hk (hH 4 (by omega))
      · exact RK_congr hn hk (hH 5 (by omega))
theorem rh_less {n sts : Int} {mp : Int → Int} {yc yw : Nat → Int → Int} {yt yu yr : Nat → Int} (hH : RH n sts mp yc yw yt yu yr) : RH n (sts - 1) mp yc yw yt yu yr := fun i hi => hH i (by omega)
theorem ac_rg {sts : Int} (h : 0 ≤ sts ∧ sts ≤ 6) : 0 ≤ acS sts ∧ acS sts ≤ 6 := by
  unfold acS
  split <;> omega
/-- capacities and wishes of a state that comes: row by row -/
theorem cap_to {n : Int} {f mw : Int → Int} (h1 : ∀ j : Int, 0 ≤ j → j < n → f j = mw (3 + j)) (h2 : ∀ j : Int, 0 ≤ j → n ≤ j → f j = if j < 8 then 1 else 0) : aZ f = aZ (capM n mw) := aZ_ext (n := 0) (fun j h0 => by
  unfold capM
  by_cases q : j < n
  · rw [if_pos q]
    exact h1 j h0 q
  · rw [if_neg q]
    exact h2 j h0 (by omega))
theorem capM_lt {n : Int} {mv : Int → Int} {j : Int} (h : j < n) : capM n mv j = mv (3 + j) := if_pos h
theorem capM_ge {n : Int} {mv : Int → Int} {j : Int} (h : n ≤ j) : capM n mv j = if j < 8 then 1 else 0 := if_neg (by omega)
theorem cap_same {n : Int} {mv mw : Int → Int} (h : ∀ j : Int, 0 ≤ j → j < n → mv (3 + j) = mw (3 + j)) : aZ (capM n mv) = aZ (capM n mw) := cap_to (fun j a b => (capM_lt b).trans (h j a b)) (fun j _ b => capM_ge b)
theorem wv_to {f mw : Int → Int} (h : ∀ j : Int, 0 ≤ j → f j = mw (12 + j)) : aZ f = aZ (wv mw) := aZ_ext (n := 0) h
theorem wrP_lo {pa v : Int → Int} {a q j : Int} (h : j < a) : wrP pa v a q j = pa j := if_neg (by omega)
theorem wrP_hi {pa v : Int → Int} {a q j : Int} (h : a + q ≤ j) : wrP pa v a q j = pa j := if_neg (by omega)
theorem wrP_at {pa v : Int → Int} {a q j : Int} (h0 : 0 ≤ j) (h : j < q) : wrP pa v a q (a + j) = v j := by
  unfold wrP
  rw [if_pos (by omega), show a + j - a = j by omega]
theorem VAL_of {n : Int} {mv : Int → Int} (h0 : 0 ≤ mv 0 ∧ mv 0 ≤ 9) (h1 : 0 ≤ mv 1 ∧ mv 1 ≤ 3) (h2 : 0 ≤ mv 2 ∧ mv 2 ≤ 8) (h3 : ∀ j : Int, 0 ≤ j → j < n → 0 ≤ mv (3 + j) ∧ mv (3 + j) ≤ 3) (h4 : ∀ j : Int, 0 ≤ j → j < mv 0 → 0 ≤ mv (12 + j) ∧ mv (12 + j) < n) : VAL n mv := ⟨h0, h1, h2, h3, h4⟩
/-! the acts -/
theorem val_rule {n : Int} {mv : Int → Int} {a b : Int} (h : VAL n mv) (ha : 0 ≤ a ∧ a ≤ 3) (hb : 0 ≤ b ∧ b ≤ 8) : VAL n (uZ (uZ mv 1 a) 2 b) := by
  obtain ⟨h0, h1, h2, h3, h4⟩ := h
  have e : ∀ j : Int, j ≠ 1 → j ≠ 2 → uZ (uZ mv 1 a) 2 b j = mv j := fun j p q => by rw [uZ_ne q, uZ_ne p]
  refine VAL_of (by rw [e 0 (by decide) (by decide)]; exact h0) (by rw [uZ_ne (by decide), uZ_same]; exact ha) (by rw [uZ_same]; exact hb) (fun j p q => by rw [e _ (by omega) (by omega)]; exact h3 j p q) (fun j p q => ?_)
  rw [e 0 (by decide) (by decide)] at q
  rw [e _ (by omega) (by omega)]
  exact h4 j p q
theorem val_cap {n : Int} {mv : Int → Int} {a b : Int} (h : VAL n mv) (hn : n ≤ 8) (ha : 0 ≤ a ∧ a < n) (hb : 0 ≤ b ∧ b ≤ 3) : VAL n (uZ mv (3 + a) b) := by
  obtain ⟨h0, h1, h2, h3, h4⟩ := h
  refine VAL_of (by rw [uZ_ne (by omega)]; exact h0) (by rw [uZ_ne (by omega)]; exact h1) (by rw [uZ_ne (by omega)]; exact h2) (fun j p q => ?_) (fun j p q => ?_)
  · by_cases e : j = a
    · rw [e, uZ_same]
      exact hb
    · rw [uZ_ne (by omega)]
      exact h3 j p q
  · rw [uZ_ne (by omega)] at q
    rw [uZ_ne (by omega)]
    exact h4 j p q
theorem val_add {n : Int} {mv : Int → Int} {a : Int} (h : VAL n mv) (hn : n ≤ 8) (ha : 0 ≤ a ∧ a < n) (hc : mv 0 < 9) : VAL n (uZ (uZ mv (12 + mv 0) a) 0 (mv 0 + 1)) := by
  obtain ⟨h0, h1, h2, h3, h4⟩ := h
  refine VAL_of (by rw [uZ_same]; omega) (by rw [uZ_ne (by decide), uZ_ne (by omega)]; exact h1) (by rw [uZ_ne (by decide), uZ_ne (by omega)]; exact h2) (fun j p q => ?_) (fun j p q => ?_)
  · by_cases e : 3 + j = 12 + mv 0
    · rw [uZ_ne (by omega), e, uZ_same]
      omega
    · rw [uZ_ne (by omega), uZ_ne e]
      exact h3 j p q
  · rw [uZ_same] at q
    rw [uZ_ne (by omega)]
    by_cases e : j = mv 0
    · rw [e, uZ_same]
      exact ha
    · rw [uZ_ne (by omega)]
      exact h4 j p (by omega)
theorem val_pref {n : Int} {mv : Int → Int} {a b : Int} (h : VAL n mv) (hn : n ≤ 8) (ha : 0 ≤ a ∧ a < mv 0) (hb : 0 ≤ b ∧ b < n) : VAL n (uZ mv (12 + a) b) := by
  obtain ⟨h0, h1, h2, h3, h4⟩ := h
  refine VAL_of (by rw [uZ_ne (by omega)]; exact h0) (by rw [uZ_ne (by omega)]; exact h1) (by rw [uZ_ne (by omega)]; exact h2) (fun j p q => ?_) (fun j p q => ?_)
  · rw [uZ_ne (by omega)]
    exact h3 j p q
  · rw [uZ_ne (by omega)] at q
    by_cases e : j = a
    · rw [e, uZ_same]
      exact hb
    · rw [uZ_ne (by omega)]
      exact h4 j p q
theorem val_cars {n : Int} {mv : Int → Int} {c : Int} (h : VAL n mv) (hc : 0 ≤ c ∧ c ≤ mv 0) : VAL n (uZ mv 0 c) := by
  obtain ⟨h0, h1, h2, h3, h4⟩ := h
  refine VAL_of (by rw [uZ_same]; omega) (by rw [uZ_ne (by decide)]; exact h1) (by rw [uZ_ne (by decide)]; exact h2) (fun j p q => by rw [uZ_ne (by omega)]; exact h3 j p q) (fun j p q => ?_)
  rw [uZ_same] at q
  rw [uZ_ne (by omega)]
  exact h4 j p (by omega)
theorem val_lay {n : Int} {mv w : Int → Int} {q : Int} (h : VAL n mv) (hq : 0 ≤ q ∧ q ≤ 9) (hw : ∀ j : Int, 0 ≤ j → j < q → 0 ≤ w j ∧ w j < n) (hn : n ≤ 8) : VAL n (wrP (uZ mv 0 q) w 12 q) := by
  obtain ⟨h0, h1, h2, h3, h4⟩ := h
  refine VAL_of (by rw [wrP_lo (by decide), uZ_same]; exact hq) (by rw [wrP_lo (by decide), uZ_ne (by decide)]; exact h1) (by rw [wrP_lo (by decide), uZ_ne (by decide)]; exact h2) (fun j a b => by rw [wrP_lo (by omega), uZ_ne (by omega)]; exact h3 j a b) (fun j a b => ?_)
  rw [wrP_lo (by decide), uZ_same] at b
  rw [wrP_at a b]
  exact hw j a b
theorem val_shift {n : Int} {mv w : Int → Int} (h : VAL n mv) (hn : 1 ≤ n ∧ n ≤ 8) (hc : mv 0 = n) (hw : ∀ j : Int, 0 ≤ j → j < n → 0 ≤ w j ∧ w j < n) : VAL n (wrP mv w 12 n) := by
  have e : wrP mv w 12 n = wrP (uZ mv 0 n) w 12 n := by
    rw [← hc, uZ_self]
  rw [e]
  exact val_lay h (by omega) hw hn.2
theorem val_undo {n sts : Int} {mv mp : Int → Int} {yc yw : Nat → Int → Int} {yt yu yr : Nat → Int} (hn : n ≤ 8) (hs : 0 < sts ∧ sts ≤ 6) (hH : RH n sts mp yc yw yt yu yr) : RK n (cpZ (udZ mp (sts - 1)) mv 21) (yc (sts - 1).toNat) (yw (sts - 1).toNat) (yt (sts - 1).toNat) (yu (sts - 1).toNat) (yr (sts - 1).toNat) := by
  refine RK_congr hn (fun k a b => ?_) (hH (sts - 1).toNat (by omega))
  rw [cpZ_lt b]
  show mp (21 * (((sts - 1).toNat : Nat) : Int) + k) = mp (21 * (sts - 1) + k)
  rw [show (((sts - 1).toNat : Nat) : Int) = sts - 1 by omega]
/-! capacities beyond the spaces do not matter -/
theorem pst_cap {n : Int} {cap cap2 : Int → Int} {ru re : Int} {wi : Int → Int} (h : ∀ j : Int, 0 ≤ j → j < n → cap j = cap2 j) : ∀ k : Nat, pst n cap ru re wi k = pst n cap2 ru re wi k
  | 0 => rfl
  | k + 1 => by
    show stp (pst n cap ru re wi k) (pP n cap (pst n cap ru re wi k) ru re (wi (k : Int))) = stp (pst n cap2 ru re wi k) (pP n cap2 (pst n cap2 ru re wi k) ru re (wi (k : Int)))
    rw [pst_cap h k, pP_congr (cap := cap) (cap2 := cap2) h (fun _ _ _ => rfl)]
theorem capM_r {n : Int} {mv : Int → Int} (j : Int) (_ : 0 ≤ j) (h : j < n) : capM n mv j = rmc mv j := if_pos h
theorem ppl_cap (n : Int) (mv : Int → Int) (ru re : Int) (wi : Int → Int) : ppl n (capM n mv) ru re wi = ppl n (rmc mv) ru re wi := by
  funext j
  unfold ppl
  rw [pst_cap (cap := capM n mv) (cap2 := rmc mv) capM_r, pP_congr (cap := capM n mv) (cap2 := rmc mv) capM_r (fun _ _ _ => rfl)]
theorem plk_cap (n : Int) (mv : Int → Int) (ru re : Int) (wi : Int → Int) : plk n (capM n mv) ru re wi = plk n (rmc mv) ru re wi := by
  funext j
  unfold plk
  rw [pst_cap (cap := capM n mv) (cap2 := rmc mv) capM_r, pK_congr (cap := capM n mv) (cap2 := rmc mv) capM_r (fun _ _ _ => rfl)]
theorem lv_cap (n : Int) (mv : Int → Int) (ru re : Int) (wi : Int → Int) (k : Nat) : lvZ n (capM n mv) ru re wi k = lvZ n (rmc mv) ru re wi k := by
  unfold lvZ
  rw [ppl_cap]
theorem qI_cap (wt x n : Int) (mv : Int → Int) (ru re q : Int) : qI wt x n (capM n mv) ru re q = qI wt x n (rmc mv) ru re q := by
  funext c
  unfold qI meZ lkZ
  rw [lv_cap, ppl_cap]
theorem cL_cap {n : Int} {mv : Int → Int} {ru re me : Int} (hn : 1 ≤ n) (m : Nat) (st : Int → Int) (r : Int) : cL n (capM n mv) ru re me m st r = cL n (rmc mv) ru re me m st r := cL_cong2 hn capM_r m st st r (fun _ _ _ => rfl)
theorem cO_cap {n : Int} {mv : Int → Int} {ru re : Int} (hn : 1 ≤ n) (m : Nat) (st w : Int → Int) : cO n (capM n mv) ru re m st w = cO n (rmc mv) ru re m st w := cO_congr hn capM_r m st st w w (fun _ _ _ => rfl) (fun _ _ _ => rfl)
theorem fpC_cap {n : Int} {cap cap2 : Int → Int} : ∀ k : Nat, (∀ j : Int, 0 ≤ j → j < k → cap j = cap2 j) → fpC n cap k = fpC n cap2 k
  | 0, _ => rfl
  | k + 1, h => by
    show 31 * fpC n cap k + cap (k : Int) = 31 * fpC n cap2 k + cap2 (k : Int)
    rw [fpC_cap k (fun j a b => h j a (by omega)), h k (by omega) (by omega)]
theorem fpr_cap (n : Int) (mv wi : Int → Int) (ct ru re : Int) : fpr n (capM n mv) wi ct ru re = fpr n (rmc mv) wi ct ru re := by
  unfold fpr fpF
  rw [ppl_cap, plk_cap, fpC_cap (cap := capM n mv) (cap2 := rmc mv) n.toNat (fun j a b => capM_r j a (by omega))]
theorem cnt_cap {n : Int} {mv : Int → Int} {ru re me x q : Int} (hn : 1 ≤ n ∧ n ≤ 8) (hm : 0 ≤ me ∧ me ≤ 2) (hq : 0 ≤ q) : cL n (capM n mv) ru re me q.toNat zeroZ x = sumZ (qI me x n (rmc mv) ru re q) (powZ n q.toNat).toNat := by
  rw [cL_cap hn.1]
  exact cL_q hn hm hq
/-! answers that are told by what holds of them -/
theorem fl_uniq {P : Int → Prop} {ct z y : Int} (h1 : (0 ≤ z ∧ z < ct ∧ P z ∧ ∀ j : Int, 0 ≤ j → j < z → ¬ P j) ∨ (z = -1 ∧ ∀ j : Int, 0 ≤ j → j < ct → ¬ P j)) (h2 : (0 ≤ y ∧ y < ct ∧ P y ∧ ∀ j : Int, 0 ≤ j → j < y → ¬ P j) ∨ (y = -1 ∧ ∀ j : Int, 0 ≤ j → j < ct → ¬ P j)) : z = y := by
  rcases h1 with ⟨a1, a2, a3, a4⟩ | ⟨a1, a2⟩
  · rcases h2 with ⟨b1, b2, b3, b4⟩ | ⟨b1, b2⟩
    · by_cases q : z < y
      · exact absurd a3 (b4 z a1 q)
      · by_cases q2 : y < z
        · exact absurd b3 (a4 y b1 q2)
        · omega
    · exact absurd a3 (b2 z a1 a2)
  · rcases h2 with ⟨b1, b2, b3, b4⟩ | ⟨b1, b2⟩
    · exact absurd b3 (a2 y b1 b2)
    · omega
theorem sum_lt1 {f g : Int → Int} {p : Int} : ∀ k : Nat, (∀ j : Int, 0 ≤ j → j < k → f j ≤ g j) → 0 ≤ p → p < k → f p < g p → sumZ f k < sumZ g k
  | 0, _, h0, h1, _ => absurd h1 (by omega)
  | k + 1, h, h0, h1, h2 => by
    show sumZ f k + f (k : Int) < sumZ g k + g (k : Int)
    by_cases e : p = k
    · have := sum_le k (fun j a b => h j a (by omega))
      rw [← e]
      omega
    · have := sum_lt1 k (fun j a b => h j a (by omega)) h0 (by omega) h2
      have := h k (by omega) (by omega)
      omega
theorem vW_lt {aa : Int → Int} {n r r2 : Int} (h : aa r2 < aa r ∨ (aa r2 = aa r ∧ r2 < r)) (hr : 0 ≤ r ∧ r < n) : vW aa n (aa r) r < vW aa n (aa r2) r2 := by
  unfold vW
  refine sum_lt1 (p := r) n.toNat (fun j a b => ?_) hr.1 (by omega) ?_
  · show (if aa r < aa j ∨ (aa r = aa j ∧ r < j) then (1 : Int) else 0) ≤ (if aa r2 < aa j ∨ (aa r2 = aa j ∧ r2 < j) then (1 : Int) else 0)
    by_cases q : aa r < aa j ∨ (aa r = aa j ∧ r < j)
    · rw [if_pos q, if_pos (by omega)]
      exact Int.le_refl _
    · rw [if_neg q]
      split <;> decide
  · show (if aa r < aa r ∨ (aa r = aa r ∧ r < r) then (1 : Int) else 0) < (if aa r2 < aa r ∨ (aa r2 = aa r ∧ r2 < r) then (1 : Int) else 0)
    rw [if_neg (by omega), if_pos h]
    decide
theorem word_uniq {aa lb : Int → Int} {n v z y : Int} (h1 : ∃ r : Int, 0 ≤ r ∧ r < n ∧ v = vW aa n (aa r) r ∧ z = lb r) (h2 : ∃ r : Int, 0 ≤ r ∧ r < n ∧ v = vW aa n (aa r) r ∧ y = lb r) : z = y := by
  obtain ⟨r, a1, a2, a3, a4⟩ := h1
  obtain ⟨r2, b1, b2, b3, b4⟩ := h2
  have e : r = r2 := by
    by_cases q : r = r2
    · exact q
    · by_cases q2 : aa r2 < aa r ∨ (aa r2 = aa r ∧ r2 < r)
      · have := vW_lt q2 ⟨a1, a2⟩
        omega
      · have := vW_lt (aa := aa) (r := r2) (r2 := r) (by omega) ⟨b1, b2⟩
        omega
  rw [a4, b4, e]
def TXF (n : Int) (aa lb : Int → Int) (v z : Int) : Prop := (∃ r : Int, 0 ≤ r ∧ r < n ∧ v = 2 * r + (r - aa r) ∧ z = 78) ∨ (∃ r : Int, 0 ≤ r ∧ r < n ∧ v = 2 * r + (r - aa r) + 1 ∧ z = 48 + lb r) ∨ (∃ r s9 : Int, 0 ≤ r ∧ r ≤ n ∧ 0 ≤ s9 ∧ s9 < n ∧ (∀ i : Int, 0 ≤ i → i < r → i - aa i ≤ s9) ∧ (∀ i : Int, r ≤ i → i < n → s9 < i - aa i) ∧ v = 2 * r + s9 ∧ z = 69)
theorem txf_uniq {n : Int} {aa lb : Int → Int} {v z y : Int} (hm : ∀ i k : Int, 0 ≤ i → i ≤ k → k < n → i - aa i ≤ k - aa k) (h1 : TXF n aa lb v z) (h2 : TXF n aa lb v y) : z = y := by
  have m2 : ∀ i k : Int, 0 ≤ i → i < n → 0 ≤ k → k < n → i < k → 2 * i + (i - aa i) + 2 ≤ 2 * k + (k - aa k) := fun i k a b c d e => by
    have := hm i k a (by omega) d
    omega
  have nE : ∀ r q s9 : Int, 0 ≤ q → q < n → 0 ≤ r → r ≤ n → (∀ i : Int, 0 ≤ i → i < r → i - aa i ≤ s9) → (∀ i : Int, r ≤ i → i < n → s9 < i - aa i) → 2 * q + (q - aa q) ≠ 2 * r + s9 ∧ 2 * q + (q - aa q) + 1 ≠ 2 * r + s9 := fun r q s9 a b c d e f => by
    by_cases u : q < r
    · have := e q a u
      omega
    · have := f q (by omega) b
      omega
  rcases h1 with ⟨r, a1, a2, a3, a4⟩ | ⟨r, a1, a2, a3, a4⟩ | ⟨r, s9, a1, a2, a3, a4, a5, a6, a7, a8⟩
  · rcases h2 with ⟨q, b1, b2, b3, b4⟩ | ⟨q, b1, b2, b3, b4⟩ | ⟨q, t9, b1, b2, b3, b4, b5, b6, b7, b8⟩
    · omega
    · exfalso
      by_cases u : r < q
      · have := m2 r q a1 a2 b1 b2 u
        omega
      · by_cases u2 : q < r
        · have := m2 q r b1 b2 a1 a2 u2
          omega
        · have e : r = q := by omega
          rw [e] at a3
          omega
    · exact absurd (a3.symm.trans b7) (nE q r t9 a1 a2 b1 b2 b5 b6).1
  · rcases h2 with ⟨q, b1, b2, b3, b4⟩ | ⟨q, b1, b2, b3, b4⟩ | ⟨q, t9, b1, b2, b3, b4, b5, b6, b7, b8⟩
    · exfalso
      by_cases u : r < q
      · have := m2 r q a1 a2 b1 b2 u
        omega
      · by_cases u2 : q < r
        · have := m2 q r b1 b2 a1 a2 u2
          omega
        · have e : r = q := by omega
          rw [e] at a3
          omega
    · have e : r = q := by
        by_cases u : r < q
        · have := m2 r q a1 a2 b1 b2 u
          omega
        · by_cases u2 : q < r
          · have := m2 q r b1 b2 a1 a2 u2
            omega
          · omega
      rw [a4, b4, e]
    · exact absurd (a3.symm.trans b7) (nE q r t9 a1 a2 b1 b2 b5 b6).2
  · rcases h2 with ⟨q, b1, b2, b3, b4⟩ | ⟨q, b1, b2, b3, b4⟩ | ⟨q, t9, b1, b2, b3, b4, b5, b6, b7, b8⟩
    · exact absurd (b3.symm.trans a7) (nE r q s9 b1 b2 a1 a2 a5 a6).1
    · exact absurd (b3.symm.trans a7) (nE r q s9 b1 b2 a1 a2 a5 a6).2
    · omega
/-- the next order is one -/
theorem nxt_det {f g f1 g1 : Int → Int} {ct z y : Int} (he : ∀ j : Int, 0 ≤ j → j < ct → f j = g j) (h1 : ((z = 0 ∧ (∀ j : Int, 0 ≤ j → j + 1 < ct → f (j + 1) ≤ f j) ∧ f1 = rvZ f 0 (ct - 1)) ∨ (∃ p o : Int, 0 ≤ p ∧ p < o ∧ o < ct ∧ f p < f (p + 1) ∧ (∀ j : Int, p < j → j + 1 < ct → f (j + 1) ≤ f j) ∧ f p < f o ∧ (∀ q : Int, o < q → q < ct → f q ≤ f p) ∧ z = 1 ∧ f1 = rvZ (swZ f p o) (p + 1) (ct - 1)))) (h2 : ((y = 0 ∧ (∀ j : Int, 0 ≤ j → j + 1 < ct → g (j + 1) ≤ g j) ∧ g1 = rvZ g 0 (ct - 1)) ∨ (∃ p o : Int, 0 ≤ p ∧ p < o ∧ o < ct ∧ g p < g (p + 1) ∧ (∀ j : Int, p < j → j + 1 < ct → g (j + 1) ≤ g j) ∧ g p < g o ∧ (∀ q : Int, o < q → q < ct → g q ≤ g p) ∧ y = 1 ∧ g1 = rvZ (swZ g p o) (p + 1) (ct - 1)))) : z = y ∧ ∀ j : Int, 0 ≤ j → j < ct → f1 j = g1 j := by
  rcases h1 with ⟨a0, a1, rfl⟩ | ⟨p, o, a1, a2, a3, a4, a5, a6, a7, a0, rfl⟩
  · rcases h2 with ⟨b0, b1, rfl⟩ | ⟨q, u, b1, b2, b3, b4, b5, b6, b7, b0, rfl⟩
    · refine ⟨by omega, fun j h0 h1 => ?_⟩
      rw [rvZ_in (by omega), rvZ_in (by omega)]
      exact he _ (by omega) (by omega)
    · exfalso
      have := a1 q (by omega) (by omega)
      rw [he q (by omega) (by omega), he (q + 1) (by omega) (by omega)] at this
      omega
  · rcases h2 with ⟨b0, b1, rfl⟩ | ⟨q, u, b1, b2, b3, b4, b5, b6, b7, b0, rfl⟩
    · exfalso
      have := b1 p (by omega) (by omega)
      rw [← he p (by omega) (by omega), ← he (p + 1) (by omega) (by omega)] at this
      omega
    · have ep : p = q := by
        by_cases e : p < q
        · have := a5 q e (by omega)
          rw [he q (by omega) (by omega), he (q + 1) (by omega) (by omega)] at this
          omega
        · by_cases e2 : q < p
          · have := b5 p e2 (by omega)
            rw [← he p (by omega) (by omega), ← he (p + 1) (by omega) (by omega)] at this
            omega
          · omega
      subst ep
      have hp := he p (by omega) (by omega)
      have eo : o = u := by
        by_cases e : o < u
        · have := a7 u e (by omega)
          have h9 := he u (by omega) (by omega)
          omega
        · by_cases e2 : u < o
          · have := b7 o e2 (by omega)
            have h9 := he o (by omega) (by omega)
            omega
          · omega
      subst eo
      refine ⟨by omega, fun j h0 h1 => ?_⟩
      have ho := he o (by omega) (by omega)
      have hs : ∀ i : Int, 0 ≤ i → i < ct → swZ f p o i = swZ g p o i := fun i h0 h1 => by
        unfold swZ
        by_cases e : i = o
        · rw [e, uZ_same, uZ_same]
          exact hp
        · rw [uZ_ne e, uZ_ne e]
          by_cases e2 : i = p
          · rw [e2, uZ_same, uZ_same]
            exact ho
          · rw [uZ_ne e2, uZ_ne e2]
            exact he i h0 h1
      by_cases w : p + 1 ≤ j ∧ j ≤ ct - 1
      · rw [rvZ_in w, rvZ_in w]
        exact hs _ (by omega) (by omega)
      · rw [rvZ_out w, rvZ_out w]
        exact hs _ h0 h1
theorem nxt_out {f f1 : Int → Int} {ct z : Int} (hc : 0 ≤ ct) (h : ((z = 0 ∧ (∀ j : Int, 0 ≤ j → j + 1 < ct → f (j + 1) ≤ f j) ∧ f1 = rvZ f 0 (ct - 1)) ∨ (∃ p o : Int, 0 ≤ p ∧ p < o ∧ o < ct ∧ f p < f (p + 1) ∧ (∀ j : Int, p < j → j + 1 < ct → f (j + 1) ≤ f j) ∧ f p < f o ∧ (∀ q : Int, o < q → q < ct → f q ≤ f p) ∧ z = 1 ∧ f1 = rvZ (swZ f p o) (p + 1) (ct - 1)))) (j : Int) (hj : ct ≤ j) : f1 j = f j := by
  rcases h with ⟨a0, a1, rfl⟩ | ⟨p, o, a1, a2, a3, a4, a5, a6, a7, a0, rfl⟩
  · exact rvZ_out (by omega)
  · rw [rvZ_out (by omega)]
    unfold swZ
    rw [uZ_ne (by omega), uZ_ne (by omega)]
theorem rrun_stop {n : Int} {tx : Int → Int} {k : Nat} : ∀ m : Nat, rrun n tx k = none → rrun n tx (k + m) = none
  | 0, h => h
  | m + 1, h => by
    show (rrun n tx (k + m)).bind (fun S => rst n S (tx ((k + m : Nat) : Int))) = none
    rw [rrun_stop m h]
    rfl
theorem rrun_pre {n : Int} {tx : Int → Int} {i k : Nat} {S : RS} (h : rrun n tx k = some S) (hi : i ≤ k) : rrun n tx i ≠ none := fun q => by
  have := rrun_stop (k - i) q
  rw [show i + (k - i) = k by omega, h] at this
  cases this
def WRG (n : Int) (tx : Int → Int) (ty i : Int) : Prop := (i < ty ∧ (∃ S, rrun n tx i.toNat = some S) ∧ rrun n tx (i + 1).toNat = none) ∨ (i = ty ∧ ∃ (u2 r2 b2 d2 a2 : Int) (w : Int → Int), rrun n tx ty.toNat = some (u2, r2, b2, d2, w, a2) ∧ ¬ (u2 = n ∧ r2 = n))
theorem wrg_uniq {n : Int} {tx : Int → Int} {ty i k : Int} (hi : 0 ≤ i ∧ i ≤ ty) (hk : 0 ≤ k ∧ k ≤ ty) (h1 : WRG n tx ty i) (h2 : WRG n tx ty k) : i = k := by
  rcases h1 with ⟨a1, ⟨S, a2⟩, a3⟩ | ⟨a1, u2, r2, b2, d2, e2, w, a2, a3⟩
  · rcases h2 with ⟨b1, ⟨T, b2⟩, b3⟩ | ⟨b1, u2, r2, c2, d2, e2, w, b2, b3⟩
    · by_cases q : i < k
      · exact absurd a3 (rrun_pre b2 (by omega))
      · by_cases q2 : k < i
        · exact absurd b3 (rrun_pre a2 (by omega))
        · omega
    · exact absurd a3 (rrun_pre b2 (by omega))
  · rcases h2 with ⟨b1, ⟨T, b2⟩, b3⟩ | ⟨b1, _⟩
    · exact absurd b3 (rrun_pre a2 (by omega))
    · omega
theorem wrg_no {n : Int} {tx : Int → Int} {ty i b d z : Int} {w : Int → Int} (hi : 0 ≤ i ∧ i ≤ ty) (h1 : WRG n tx ty i) (h2 : rrun n tx ty.toNat = some (n, n, b, d, w, z)) : False := by
  rcases h1 with ⟨a1, ⟨S, a2⟩, a3⟩ | ⟨a1, u2, r2, b2, d2, e2, w2, a2, a3⟩
  · exact absurd a3 (rrun_pre h2 (by omega))
  · rw [a2] at h2
    have e := Option.some.inj h2
    exact a3 ⟨congrArg (fun S : RS => S.1) e, congrArg (fun S : RS => S.2.1) e⟩
theorem run_one {n : Int} {tx : Int → Int} {k : Nat} {b d z b2 d2 y : Int} {w v : Int → Int} (h1 : rrun n tx k = some (n, n, b, d, w, z)) (h2 : rrun n tx k = some (n, n, b2, d2, v, y)) : z = y ∧ w = v := by
  rw [h1] at h2
  have e := Option.some.inj h2
  exact ⟨congrArg (fun S : RS => S.2.2.2.2.2) e, congrArg (fun S : RS => S.2.2.2.2.1) e⟩
/-! a shifted list has no car at n -/
theorem bitU9 : ∀ t : Nat, t < 512 → ∀ j : Nat, j < 9 → t / 2 ^ j % 2 = 0 → ∀ k : Nat, k < 9 → (t + 2 ^ j) / 2 ^ k % 2 = if k = j then 1 else t / 2 ^ k % 2 := by decide +kernel
theorem bit_add {t s k : Int} (ht : 0 ≤ t ∧ t < 512) (hs : 0 ≤ s ∧ s < 9) (hk : 0 ≤ k ∧ k < 9) (hb : bitZ t s = 0) : bitZ (t + 2 ^ s.toNat) k = if k = s then 1 else bitZ t k := by
  rw [bitZ_nat ht.1] at hb
  have h3 := bitU9 t.toNat (by omega) s.toNat (by omega) (by omega) k.toNat (by omega)
  have e2 : ((2 : Int) ^ s.toNat) = ((2 ^ s.toNat : Nat) : Int) := by simp
  have e3 : (t + 2 ^ s.toNat).toNat = t.toNat + 2 ^ s.toNat := by
    rw [e2]
    generalize (2 : Nat) ^ s.toNat = y
    omega
  have e4 : 0 ≤ t + 2 ^ s.toNat := by
    have := pow_pos2 s.toNat
    omega
  rw [bitZ_nat e4, e3, h3, bitZ_nat ht.1]
  by_cases u : k = s
  · rw [if_pos u, if_pos (by omega)]
    rfl
  · rw [if_neg u, if_neg (by omega)]
theorem bit_01 {t s : Int} (h : 0 ≤ t) : bitZ t s = 0 ∨ bitZ t s = 1 := by
  rw [bitZ_nat h]
  omega
theorem gap_ne {n : Int} {wi : Int → Int} (hn : 1 ≤ n ∧ n ≤ 8) (hw : ∀ j : Int, 0 ≤ j → j < n → 0 ≤ wi j ∧ wi j < n) (j : Int) (h0 : 0 ≤ j) (h1 : j < n) : (0 ≤ gapZ n wi ∧ gapZ n wi ≤ n) ∧ wi j ≠ gapZ n wi := by
  have hat := tk_at hn (wi := wi) hw (i := n) (by omega) (s := 0) (by omega)
  have hg : 0 ≤ gapZ n wi ∧ gapZ n wi ≤ n := ⟨hat.2.2.1, hat.2.2.2.1⟩
  refine ⟨hg, fun e => ?_⟩
  have hb0 : bitZ (tkZ n wi n.toNat) (gapZ n wi) = 0 := hat.2.2.2.2.1
  have hwj := hw j h0 h1
  have key : ∀ m : Nat, j + 1 + m ≤ n → bitZ (tkZ n wi (j + 1 + m).toNat) (wi j) = 1 := by
    intro m
    induction m with
    | zero =>
      intro _
      rw [show j + 1 + ((0 : Nat) : Int) = j + 1 by omega, tkZ_s h0]
      have ha := tk_at hn (wi := wi) hw (i := j) (by omega) (s := wi j) (by omega)
      rw [bit_add ⟨ha.1, ha.2.1⟩ (by omega) (by omega) ha.2.2.2.2.1]
      rcases bit_01 (t := tkZ n wi j.toNat) (s := wi j) ha.1 with q | q
      · have e3 : ffZ n (tkZ n wi j.toNat) n.toNat (wi j) = wi j := by
          rw [show n.toNat = (n - 1).toNat + 1 by omega]
          exact ffZ_t ha.1 hwj.1 q
        rw [e3, if_pos rfl]
      · rw [q]
        split <;> rfl
    | succ m ih =>
      intro hm
      have h2 := ih (by omega)
      rw [show j + 1 + ((m + 1 : Nat) : Int) = (j + 1 + m) + 1 by omega, tkZ_s (by omega)]
      have hwk := hw (j + 1 + m) (by omega) (by omega)
      have ha := tk_at hn (wi := wi) hw (i := j + 1 + m) (by omega) (s := wi (j + 1 + m)) (by omega)
      rw [bit_add ⟨ha.1, ha.2.1⟩ (by omega) (by omega) ha.2.2.2.2.1, h2]
      split <;> rfl
  have h3 := key (n - j - 1).toNat (by omega)
  rw [show j + 1 + (((n - j - 1).toNat : Nat) : Int) = n by omega, e, hb0] at h3
  omega
theorem shf_lt {n : Int} {wi : Int → Int} (hn : 1 ≤ n ∧ n ≤ 8) (hw : ∀ j : Int, 0 ≤ j → j < n → 0 ≤ wi j ∧ wi j < n) (j : Int) (h0 : 0 ≤ j) (h1 : j < n) : shfZ n wi j < n := by
  obtain ⟨hg, hne⟩ := gap_ne hn hw j h0 h1
  have hwj := hw j h0 h1
  unfold shfZ
  by_cases q : gapZ n wi < wi j
  · rw [Int.emod_eq_of_lt (by omega) (by omega)]
    omega
  · have e : wi j - gapZ n wi - 1 = (wi j - gapZ n wi + n) - (n + 1) := by omega
    rw [e, Int.sub_emod_right, Int.emod_eq_of_lt (by omega) (by omega)]
    omega
