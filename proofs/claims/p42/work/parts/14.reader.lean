/-! a text read as a path: ups, rights, label before, a label is due, preferences, sum of areas -/
abbrev RS : Type := Int × Int × Int × Int × (Int → Int) × Int
def rst (n : Int) (S : RS) (x : Int) : Option RS :=
  if S.2.2.2.1 ≠ 0 then (if 0 ≤ x - 48 ∧ x - 48 < n ∧ S.2.2.2.2.1 (x - 48) = -1 ∧ S.2.2.1 < x - 48 then some (S.1 + 1, S.2.1, x - 48, 0, uZ S.2.2.2.2.1 (x - 48) S.2.1, S.2.2.2.2.2 + (S.1 - S.2.1)) else none)
  else if x = 78 ∧ S.1 < n then some (S.1, S.2.1, S.2.2.1, 1, S.2.2.2.2.1, S.2.2.2.2.2)
  else if x = 69 ∧ S.2.1 < S.1 then some (S.1, S.2.1 + 1, -1, 0, S.2.2.2.2.1, S.2.2.2.2.2)
  else none
def rrun (n : Int) (tx : Int → Int) : Nat → Option RS
  | 0 => some (0, 0, -1, 0, kZ (-1), 0)
  | k + 1 => (rrun n tx k).bind (fun S => rst n S (tx (k : Int)))
theorem rrun_s {n : Int} {tx : Int → Int} {i : Int} {S : RS} (h0 : 0 ≤ i) (h : rrun n tx i.toNat = some S) : rrun n tx (i + 1).toNat = rst n S (tx i) := by
  obtain ⟨j, rfl⟩ := Int.eq_ofNat_of_zero_le h0
  have e : ((j : Int) + 1).toNat = j + 1 := by omega
  rw [e]
  rw [Int.toNat_natCast] at h
  show (rrun n tx j).bind (fun S => rst n S (tx (j : Int))) = _
  rw [h]
  rfl
theorem rst_lab {n u r b d a x : Int} {w : Int → Int} (hd : d ≠ 0) (h : 0 ≤ x - 48 ∧ x - 48 < n ∧ w (x - 48) = -1 ∧ b < x - 48) : rst n (u, r, b, d, w, a) x = some (u + 1, r, x - 48, 0, uZ w (x - 48) r, a + (u - r)) := by
  unfold rst
  rw [if_pos hd, if_pos h]
theorem rst_labn {n u r b d a x : Int} {w : Int → Int} (hd : d ≠ 0) (h : ¬ (0 ≤ x - 48 ∧ x - 48 < n ∧ w (x - 48) = -1 ∧ b < x - 48)) : rst n (u, r, b, d, w, a) x = none := by
  unfold rst
  rw [if_pos hd, if_neg h]
theorem rst_N {n u r b d a x : Int} {w : Int → Int} (hd : d = 0) (h : x = 78 ∧ u < n) : rst n (u, r, b, d, w, a) x = some (u, r, b, 1, w, a) := by
  unfold rst
  rw [if_neg (fun q => q hd), if_pos h]
theorem rst_E {n u r b d a x : Int} {w : Int → Int} (hd : d = 0) (h1 : ¬ (x = 78 ∧ u < n)) (h : x = 69 ∧ r < u) : rst n (u, r, b, d, w, a) x = some (u, r + 1, -1, 0, w, a) := by
  unfold rst
  rw [if_neg (fun q => q hd), if_neg h1, if_pos h]
theorem rst_no {n u r b d a x : Int} {w : Int → Int} (hd : d = 0) (h1 : ¬ (x = 78 ∧ u < n)) (h : ¬ (x = 69 ∧ r < u)) : rst n (u, r, b, d, w, a) x = none := by
  unfold rst
  rw [if_neg (fun q => q hd), if_neg h1, if_neg h]
