/-! the cars of a space as a set; the spaces' sets one after the other -/
def svZ (P : Int → Int) (ct v : Int) : Int := sumZ (fun c => if P c = v then 2 ^ c.toNat else 0) ct.toNat
def seZ (P : Int → Int) (ct s : Int) : Int := sumZ (fun c => if 0 ≤ P c ∧ P c < s then 2 ^ c.toNat else 0) ct.toNat
section PA
variable {P : Int → Int} {ct : Int}
theorem pw_ne (c : Int) : ¬ (2 : Int) ^ c.toNat = 0 := by
  have := pow_pos2 c.toNat
  omega
theorem sv_BS (v : Int) (k : Nat) : BS (fun c => if P c = v then 2 ^ c.toNat else 0) k := fun c _ _ => by
  show (if P c = v then _ else _) = _ ∨ (if P c = v then _ else _) = _
  split
  · exact Or.inr rfl
  · exact Or.inl rfl
theorem se_BS (s : Int) (k : Nat) : BS (fun c => if 0 ≤ P c ∧ P c < s then 2 ^ c.toNat else 0) k := fun c _ _ => by
  show (if 0 ≤ P c ∧ P c < s then _ else _) = _ ∨ (if 0 ≤ P c ∧ P c < s then _ else _) = _
  split
  · exact Or.inr rfl
  · exact Or.inl rfl
theorem sv_rg (hc : 0 ≤ ct ∧ ct ≤ 9) (v : Int) : 0 ≤ svZ P ct v ∧ svZ P ct v < 512 := bs_rg (by omega) (sv_BS v _)
theorem se_rg (hc : 0 ≤ ct ∧ ct ≤ 9) (s : Int) : 0 ≤ seZ P ct s ∧ seZ P ct s < 512 := bs_rg (by omega) (se_BS s _)
theorem sv_bit (hc : 0 ≤ ct ∧ ct ≤ 9) {v k : Int} (h0 : 0 ≤ k) (h1 : k < ct) : svZ P ct v / 2 ^ k.toNat % 2 = if P k = v then 1 else 0 := by
  have h := (bs_bits ct.toNat (by omega) (sv_BS (P := P) v ct.toNat)).2 k h0 (by omega)
  show bitZ (svZ P ct v) k = _
  refine h.trans ?_
  by_cases q : P k = v
  · rw [if_pos q, if_pos q, if_pos ⟨by omega, pw_ne k⟩]
  · rw [if_neg q, if_neg q, if_neg (fun x => x.2 rfl)]
theorem se_bit (hc : 0 ≤ ct ∧ ct ≤ 9) {s k : Int} (h0 : 0 ≤ k) (h1 : k < ct) : seZ P ct s / 2 ^ k.toNat % 2 = if 0 ≤ P k ∧ P k < s then 1 else 0 := by
  have h := (bs_bits ct.toNat (by omega) (se_BS (P := P) s ct.toNat)).2 k h0 (by omega)
  show bitZ (seZ P ct s) k = _
  refine h.trans ?_
  by_cases q : 0 ≤ P k ∧ P k < s
  · rw [if_pos q, if_pos q, if_pos ⟨by omega, pw_ne k⟩]
  · rw [if_neg q, if_neg q, if_neg (fun x => x.2 rfl)]
theorem sv_cnt (hc : 0 ≤ ct ∧ ct ≤ 9) (v : Int) : sumZ (bitZ (svZ P ct v)) 9 = cntE P v ct.toNat := by
  unfold svZ
  rw [bs_count (by omega) (sv_BS v _), cntE_sum]
  refine sumZ_congr _ (fun j _ _ => ?_)
  show (if (if P j = v then _ else _) = _ then _ else _) = _
  by_cases q : P j = v
  · rw [if_pos q, if_pos q, if_neg (pw_ne j)]
  · rw [if_neg q, if_neg q, if_pos rfl]
theorem se_defect (hc : 0 ≤ ct ∧ ct ≤ 9) {n : Int} (hP : ∀ j : Int, 0 ≤ j → j < ct → P j = -1 ∨ (0 ≤ P j ∧ P j < n)) : sumZ (fun c => if P c = -1 then 1 else 0) ct.toNat = ct - sumZ (bitZ (seZ P ct n)) 9 := by
  unfold seZ
  rw [bs_count (by omega) (se_BS n _)]
  have h := sum_two (fun c => if P c = -1 then 1 else 0) (fun i => if (if 0 ≤ P i ∧ P i < n then (2 : Int) ^ i.toNat else 0) = 0 then 0 else 1) ct.toNat
  rw [sumZ_congr (g := fun _ => 1) ct.toNat (fun j a b => by
    have hj := hP j a (by omega)
    show (if P j = -1 then (1 : Int) else 0) + (if (if 0 ≤ P j ∧ P j < n then (2 : Int) ^ j.toNat else 0) = 0 then 0 else 1) = 1
    rcases hj with q | q
    · rw [if_pos q, if_neg (show ¬ (0 ≤ P j ∧ P j < n) by omega), if_pos rfl]
      rfl
    · rw [if_neg (show ¬ P j = -1 by omega), if_pos q, if_neg (pw_ne j)]
      rfl), sum_ones] at h
  omega
theorem se_0 : seZ P ct 0 = 0 := sumZ_0 _ (fun j _ _ => if_neg (by omega))
theorem se_and (hc : 0 ≤ ct ∧ ct ≤ 9) (s : Int) : zI (svZ P ct s) &&& zI (seZ P ct s) = zI 0 := by
  refine bs_and (by omega) (sv_BS s _) (se_BS s _) (fun c _ _ => ?_)
  by_cases q : P c = s
  · exact Or.inr (if_neg (by omega))
  · exact Or.inl (if_neg q)
theorem se_s {s : Int} (h0 : 0 ≤ s) : seZ P ct (s + 1) = seZ P ct s + svZ P ct s := by
  unfold seZ svZ
  rw [← sum_two]
  refine sumZ_congr _ (fun j _ _ => ?_)
  show (if 0 ≤ P j ∧ P j < s + 1 then (2 : Int) ^ j.toNat else 0) = (if 0 ≤ P j ∧ P j < s then 2 ^ j.toNat else 0) + (if P j = s then 2 ^ j.toNat else 0)
  by_cases q : P j = s
  · rw [if_pos q, if_pos (by omega), if_neg (by omega), Int.zero_add]
  · rw [if_neg q, Int.add_zero]
    by_cases u : 0 ≤ P j ∧ P j < s
    · rw [if_pos u, if_pos (by omega)]
    · rw [if_neg u, if_neg (by omega)]
theorem se_or (hc : 0 ≤ ct ∧ ct ≤ 9) {s : Int} (h0 : 0 ≤ s) : zI (seZ P ct s) ||| zI (svZ P ct s) = zI (seZ P ct (s + 1)) := by
  rw [zI_or_dis (se_and hc s), ← se_s h0]
theorem se_top (hc : 0 ≤ ct ∧ ct ≤ 9) (s : Int) : seZ P ct s / 2 ^ ct.toNat = 0 := by
  have h := (bs_bits ct.toNat (by omega) (se_BS (P := P) s ct.toNat)).1
  exact Int.ediv_eq_zero_of_lt h.1 h.2
end PA
/-- the lucky cars' set, one car more -/
theorem lk_or {P w : Int → Int} {k : Int} (h : 0 ≤ k ∧ k < 9) : zI (sumZ (fun c => if P c = w c then 2 ^ c.toNat else 0) k.toNat) ||| zI (2 ^ k.toNat) = zI (sumZ (fun c => if P c = w c then 2 ^ c.toNat else 0) k.toNat + 2 ^ k.toNat) := by
  have hb : BS (fun c => if P c = w c then (2 : Int) ^ c.toNat else 0) k.toNat := fun c _ _ => by
    show (if P c = w c then _ else _) = _ ∨ (if P c = w c then _ else _) = _
    split
    · exact Or.inr rfl
    · exact Or.inl rfl
  exact zI_orbit (bs_bits k.toNat (by omega) hb).1
/-- what the first car that leaves is, told up to k -/
def FLV (P : Int → Int) (k z : Int) : Prop := (0 ≤ z ∧ z < k ∧ P z = -1 ∧ ∀ j : Int, 0 ≤ j → j < z → P j ≠ -1) ∨ (z = -1 ∧ ∀ j : Int, 0 ≤ j → j < k → P j ≠ -1)
theorem flv_0 (P : Int → Int) : FLV P 0 (-1) := Or.inr ⟨rfl, fun j a b => absurd a (by omega)⟩
theorem flv_old {P : Int → Int} {k z : Int} (h : FLV P k z) (hz : 0 ≤ z) : FLV P (k + 1) z := by
  rcases h with ⟨a, b, c, d⟩ | ⟨a, b⟩
  · exact Or.inl ⟨a, by omega, c, d⟩
  · exact absurd hz (by omega)
theorem flv_no {P : Int → Int} {k z : Int} (h : FLV P k z) (hk : P k ≠ -1) : FLV P (k + 1) z := by
  rcases h with ⟨a, b, c, d⟩ | ⟨a, b⟩
  · exact Or.inl ⟨a, by omega, c, d⟩
  · refine Or.inr ⟨a, fun j u v => ?_⟩
    by_cases e : j = k
    · rw [e]; exact hk
    · exact b j u (by omega)
theorem flv_new {P : Int → Int} {k z : Int} (h : FLV P k z) (hz : z < 0) (h0 : 0 ≤ k) (hk : P k = -1) : FLV P (k + 1) k := by
  rcases h with ⟨a, b, c, d⟩ | ⟨a, b⟩
  · exact absurd hz (by omega)
  · exact Or.inl ⟨h0, by omega, hk, b⟩
theorem flv_rg {P : Int → Int} {k z : Int} (h : FLV P k z) : z = -1 ∨ (0 ≤ z ∧ z < k) := by
  rcases h with ⟨a, b, _⟩ | ⟨a, _⟩
  · exact Or.inr ⟨a, b⟩
  · exact Or.inl a
theorem flv_un {P : Int → Int} {k z y : Int} (h1 : FLV P k z) (h2 : FLV P k y) : z = y := fl_uniq (P := fun z => P z = -1) h1 h2
