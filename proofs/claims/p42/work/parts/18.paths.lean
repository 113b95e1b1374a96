/-! the label and the area of each row -/
theorem rk_rg {wi : Int → Int} {ct j : Int} (hj : 0 ≤ j ∧ j < ct) : 0 ≤ rk wi ct j ∧ rk wi ct j < ct := by
  have h1 := rR_s (wi := wi) (ct := ct) (s := wi j) hj.1
  rw [if_pos rfl] at h1
  have h2 := rR_rg (wi := wi) (ct := ct) (s := wi j) (c := j) (by omega)
  have h3 := rR_rg (wi := wi) (ct := ct) (s := wi j) (c := j + 1) (by omega)
  have e1 : rk wi ct j = rR wi ct (wi j) j := rfl
  omega
theorem rk_lex {wi : Int → Int} {ct i j : Int} (hi : 0 ≤ i ∧ i < ct) (h : wi i < wi j ∨ (wi i = wi j ∧ i < j)) : rk wi ct i < rk wi ct j := rk_lt (s := wi j) (c := j) hi h
theorem rk_inj {wi : Int → Int} {ct i j : Int} (hi : 0 ≤ i ∧ i < ct) (hj : 0 ≤ j ∧ j < ct) (h : rk wi ct i = rk wi ct j) : i = j := by
  by_cases q : i = j
  · exact q
  · by_cases q1 : wi i < wi j ∨ (wi i = wi j ∧ i < j)
    · have := rk_lex (wi := wi) (ct := ct) hi q1
      omega
    · have := rk_lex (wi := wi) (ct := ct) (i := j) (j := i) hj (by omega)
      omega
def labZ (wi : Int → Int) (ct r : Int) : Int := sumZ (fun i => if i < ct ∧ rk wi ct i = r then i else 0) ct.toNat
def arZ (wi : Int → Int) (ct r : Int) : Int := r - wi (labZ wi ct r)
theorem labZ_rk {wi : Int → Int} {ct j : Int} (hj : 0 ≤ j ∧ j < ct) : labZ wi ct (rk wi ct j) = j := by
  unfold labZ
  rw [sum_upd (fun _ => 0) (fun i => if i < ct ∧ rk wi ct i = rk wi ct j then i else 0) j j hj.1 ct.toNat ?_ ?_, sumZ_0 _ (fun _ _ _ => rfl), if_pos (by omega), Int.zero_add]
  · intro i h0 h1
    by_cases q : i < ct ∧ rk wi ct i = rk wi ct j
    · exact absurd (rk_inj ⟨h0, q.1⟩ hj q.2) h1
    · exact if_neg q
  · show (if j < ct ∧ rk wi ct j = rk wi ct j then j else 0) = 0 + j
    rw [if_pos ⟨hj.2, rfl⟩, Int.zero_add]
theorem rk_sur {wi : Int → Int} {ct r : Int} (h : 0 ≤ r ∧ r < ct) : ∃ j : Int, 0 ≤ j ∧ j < ct ∧ rk wi ct j = r := by
  obtain ⟨i, h1, h2⟩ := fb_onto (n := ct.toNat) (f := fun i => (rk wi ct (i : Int)).toNat) (fun i hi => by
      have := rk_rg (wi := wi) (ct := ct) (j := (i : Int)) (by omega)
      show (rk wi ct (i : Int)).toNat < ct.toNat
      omega) (fun i j hij hj => by
      have h1 := rk_rg (wi := wi) (ct := ct) (j := (i : Int)) (by omega)
      have h2 := rk_rg (wi := wi) (ct := ct) (j := (j : Int)) (by omega)
      show (rk wi ct (i : Int)).toNat ≠ (rk wi ct (j : Int)).toNat
      intro q
      have := rk_inj (wi := wi) (ct := ct) (i := (i : Int)) (j := (j : Int)) (by omega) (by omega) (by omega)
      omega) (y := r.toNat) (by omega)
  have h3 := rk_rg (wi := wi) (ct := ct) (j := (i : Int)) (by omega)
  have h4 : (rk wi ct (i : Int)).toNat = r.toNat := h2
  exact ⟨(i : Int), by omega, by omega, by omega⟩
theorem labZ_at {wi : Int → Int} {ct r : Int} (h : 0 ≤ r ∧ r < ct) : 0 ≤ labZ wi ct r ∧ labZ wi ct r < ct ∧ rk wi ct (labZ wi ct r) = r := by
  obtain ⟨j, h1, h2, h3⟩ := rk_sur (wi := wi) h
  rw [← h3, labZ_rk ⟨h1, h2⟩]
  exact ⟨h1, h2, rfl⟩
theorem dr_lab {wi : Int → Int} {ct n : Int} {la aa : Int → Int} (hw : ∀ j : Int, 0 ≤ j → j < ct → 0 ≤ wi j ∧ wi j < n) (h : drawn wi ct n 0 la aa) (r : Int) (h0 : 0 ≤ r) (h1 : r < ct) : la r = labZ wi ct r ∧ aa r = arZ wi ct r := by
  obtain ⟨q1, q2, q3⟩ := labZ_at (wi := wi) ⟨h0, h1⟩
  have h4 := h _ q1 q2 (hw _ q1 q2).1 (Or.inl (hw _ q1 q2).2)
  rw [q3] at h4
  exact h4
theorem ar_ok {wi : Int → Int} {ct n : Int} (hw : ∀ j : Int, 0 ≤ j → j < ct → 0 ≤ wi j ∧ wi j < n) (hs : stdB wi ct n) (r : Int) (h0 : 0 ≤ r) (h1 : r < ct) : 0 ≤ arZ wi ct r ∧ arZ wi ct r ≤ r := by
  obtain ⟨q1, q2, q3⟩ := labZ_at (wi := wi) ⟨h0, h1⟩
  have h2 := hw _ q1 q2
  have h3 := cntE_rg wi (wi (labZ wi ct r)) (labZ wi ct r).toNat
  have h4 := cntB_rg wi (wi (labZ wi ct r)) ct.toNat
  have h5 : rk wi ct (labZ wi ct r) = cntB wi (wi (labZ wi ct r)) ct.toNat + cntE wi (wi (labZ wi ct r)) (labZ wi ct r).toNat := rfl
  unfold arZ
  by_cases q : wi (labZ wi ct r) = 0
  · omega
  · have := hs.2 _ (show 1 ≤ wi (labZ wi ct r) by omega) (by omega)
    omega
theorem ar_mo {wi : Int → Int} {ct : Int} (i k : Int) (h0 : 0 ≤ i) (h1 : i ≤ k) (h2 : k < ct) : i - arZ wi ct i ≤ k - arZ wi ct k := by
  obtain ⟨p1, p2, p3⟩ := labZ_at (wi := wi) (ct := ct) (r := i) (by omega)
  obtain ⟨q1, q2, q3⟩ := labZ_at (wi := wi) (ct := ct) (r := k) (by omega)
  unfold arZ
  by_cases q : wi (labZ wi ct k) < wi (labZ wi ct i)
  · have := rk_lex (wi := wi) (ct := ct) (i := labZ wi ct k) (j := labZ wi ct i) ⟨q1, q2⟩ (Or.inl q)
    omega
  · omega
theorem vW_congr {aa ab : Int → Int} {n : Int} (h : ∀ r : Int, 0 ≤ r → r < n → aa r = ab r) (w r : Int) : vW aa n w r = vW ab n w r := sumZ_congr _ (fun j h0 h1 => by
  show (if _ then (1 : Int) else 0) = (if _ then (1 : Int) else 0)
  rw [h j h0 (by omega)])
theorem inS_congr {la lb aa ab : Int → Int} {n : Int} (h : ∀ r : Int, 0 ≤ r → r < n → la r = lb r ∧ aa r = ab r) (i : Int) (hi : 0 ≤ i) (hi2 : i < n) : inS la aa n i = inS lb ab n i := sumZ_congr _ (fun j h0 h1 => by
  show (if _ then inZ la aa i j else 0) = (if _ then inZ lb ab i j else 0)
  unfold inZ
  rw [(h j h0 (by omega)).1, (h j h0 (by omega)).2, (h i hi hi2).1, (h i hi hi2).2])
