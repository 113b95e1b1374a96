/-! the model: a car parks -/
theorem plZ_rg {n ru re p i : Int} (hb : 0 ≤ re ∧ re ≤ 8 ∧ 1 ≤ n ∧ n ≤ 8 ∧ 0 ≤ p ∧ p < n ∧ 0 ≤ i ∧ i ≤ 18) : -200 ≤ plZ n ru re p i ∧ plZ n ru re p i ≤ 200 := by
  unfold plZ
  split
  · split <;> omega
  · split
    · split
      · omega
      · split <;> omega
    · split
      · split <;> omega
      · split
        · omega
        · split <;> omega
def rmc (mv : Int → Int) : Int → Int := fun j => mv (3 + j)
def seeking (n : Int) (mv md : Int → Int) (p i k s9 : Int) (st9 : Int → Int) : Prop := (s9 = -1 ∧ st9 = md ∧ pv n (rmc mv) md (pseq (mv 1) (mv 2) n p) = (k + (pv n (rmc mv) md (remZ n (mv 1) (mv 2) p i)).1, (pv n (rmc mv) md (remZ n (mv 1) (mv 2) p i)).2)) ∨ (0 ≤ s9 ∧ s9 = pP n (rmc mv) md (mv 1) (mv 2) p ∧ k = pK n (rmc mv) md (mv 1) (mv 2) p ∧ st9 = stp md s9)
theorem sk_0 {n : Int} {mv md : Int → Int} {p : Int} (h : 0 ≤ mv 2) : seeking n mv md p 0 0 (-1) md := by
  refine Or.inl ⟨rfl, rfl, ?_⟩
  rw [remZ_0 h, Int.zero_add]
theorem sk_end {n : Int} {mv md st9 : Int → Int} {p i k s9 : Int} (h : seeking n mv md p i k s9 st9) (h9 : s9 < 0) (he : remZ n (mv 1) (mv 2) p i = []) : s9 = pP n (rmc mv) md (mv 1) (mv 2) p ∧ k = pK n (rmc mv) md (mv 1) (mv 2) p ∧ st9 = stp md s9 := by
  rcases h with ⟨a1, a2, a3⟩ | ⟨a1, _⟩
  · rw [he, pv_nil] at a3
    refine ⟨?_, ?_, ?_⟩
    · unfold pP
      rw [a3, a1]
    · unfold pK
      rw [a3]
      exact (Int.add_zero k).symm
    · rw [stp_f h9, a2]
  · omega
theorem sk_out {n : Int} {mv md st9 : Int → Int} {p i k s9 s : Int} (h : seeking n mv md p i k s9 st9) (h9 : s9 < 0) (hs : remZ n (mv 1) (mv 2) p i = s :: remZ n (mv 1) (mv 2) p (i + 1)) (ho : s < 0 ∨ n ≤ s) : seeking n mv md p (i + 1) k s9 st9 := by
  rcases h with ⟨a1, a2, a3⟩ | ⟨a1, _⟩
  · refine Or.inl ⟨a1, a2, ?_⟩
    rw [a3, hs]
    have e : pv n (rmc mv) md (s :: remZ n (mv 1) (mv 2) p (i + 1)) = pv n (rmc mv) md (remZ n (mv 1) (mv 2) p (i + 1)) := if_pos ho
    rw [e]
  · omega
theorem sk_full {n : Int} {mv md st9 : Int → Int} {p i k s9 s : Int} (h : seeking n mv md p i k s9 st9) (h9 : s9 < 0) (hs : remZ n (mv 1) (mv 2) p i = s :: remZ n (mv 1) (mv 2) p (i + 1)) (ho : 0 ≤ s ∧ s < n) (hf : mv (3 + s) ≤ st9 s) : seeking n mv md p (i + 1) (k + 1) s9 st9 := by
  rcases h with ⟨a1, a2, a3⟩ | ⟨a1, _⟩
  · refine Or.inl ⟨a1, a2, ?_⟩
    rw [a2] at hf
    rw [a3, hs]
    have e : pv n (rmc mv) md (s :: remZ n (mv 1) (mv 2) p (i + 1)) = ((pv n (rmc mv) md (remZ n (mv 1) (mv 2) p (i + 1))).1 + 1, (pv n (rmc mv) md (remZ n (mv 1) (mv 2) p (i + 1))).2) := (if_neg (by omega)).trans (if_pos hf)
    rw [e]
    show (k + (_ + 1), _) = (k + 1 + _, _)
    rw [show ∀ x : Int, k + (x + 1) = k + 1 + x from fun x => by omega]
  · omega
theorem sk_park {n : Int} {mv md st9 : Int → Int} {p i k s9 s : Int} (h : seeking n mv md p i k s9 st9) (h9 : s9 < 0) (hs : remZ n (mv 1) (mv 2) p i = s :: remZ n (mv 1) (mv 2) p (i + 1)) (ho : 0 ≤ s ∧ s < n) (hf : st9 s < mv (3 + s)) : seeking n mv md p (i + 1) (k + 1) s (uZ st9 s (st9 s + 1)) := by
  rcases h with ⟨a1, a2, a3⟩ | ⟨a1, _⟩
  · rw [a2] at hf ⊢
    have e : pv n (rmc mv) md (s :: remZ n (mv 1) (mv 2) p (i + 1)) = (1, s) := (if_neg (by omega)).trans (if_neg (show ¬ rmc mv s ≤ md s from Int.not_le.mpr hf))
    rw [hs, e] at a3
    refine Or.inr ⟨ho.1, ?_, ?_, (stp_t ho.1).symm⟩
    · unfold pP
      rw [a3]
    · unfold pK
      rw [a3]
  · omega
