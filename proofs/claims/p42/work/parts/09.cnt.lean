/-! counting behind a filling of the lot -/
theorem zL_shl {a : Int} (k : Nat) (hk : k < 64) (h : 0 ≤ a) : zL a <<< ((zI (k : Int)).toInt64 &&& 63) = zL (a * 2 ^ k) := by
  obtain ⟨x, rfl⟩ := Int.eq_ofNat_of_zero_le h
  rw [zL_nat, zI_nI, wb_shl x hk, ← zL_nat]
  congr 1
theorem zL_or {a b : Int} (k : Nat) (h : 0 ≤ a ∧ a < 2 ^ k ∧ 0 ≤ b ∧ b * 2 ^ k + a < 18446744073709551616) : zL a ||| zL (b * 2 ^ k) = zL (a + b * 2 ^ k) := by
  obtain ⟨x, rfl⟩ := Int.eq_ofNat_of_zero_le h.1
  obtain ⟨y, rfl⟩ := Int.eq_ofNat_of_zero_le h.2.2.1
  have h2 : x < 2 ^ k := by have := h.2.1; exact_mod_cast this
  have ee : ((y : Int) * 2 ^ k) = ((y * 2 ^ k : Nat) : Int) := by simp
  have h3 : y * 2 ^ k + x < 18446744073709551616 := by
    have h4 := h.2.2.2
    rw [ee] at h4
    omega
  rw [ee, zL_nat, zL_nat, wb_or (by omega) (by omega)]
  have e2 : x ||| (y * 2 ^ k) = x + y * 2 ^ k := by
    have := Nat.two_pow_add_eq_or_of_lt h2 y
    rw [Nat.or_comm, Nat.mul_comm, ← this, Nat.add_comm]
  rw [e2, ← zL_nat]
  congr 1
def fil (st : Int → Int) (n : Int) : Int := sumZ (fun j => st j * 4 ^ j.toNat) n.toNat
theorem fil_n (st : Int → Int) : ∀ k : Nat, (∀ j : Int, 0 ≤ j → j < k → 0 ≤ st j ∧ st j ≤ 3) → 0 ≤ sumZ (fun j => st j * 4 ^ j.toNat) k ∧ sumZ (fun j => st j * 4 ^ j.toNat) k < 4 ^ k
  | 0, _ => by simp [sumZ]
  | k + 1, h => by
    have h1 := fil_n st k (fun j h0 h1 => h j h0 (by omega))
    have h2 := h k (by omega) (by omega)
    show 0 ≤ sumZ (fun j => st j * 4 ^ j.toNat) k + st k * 4 ^ (k : Int).toNat ∧ sumZ (fun j => st j * 4 ^ j.toNat) k + st k * 4 ^ (k : Int).toNat < 4 ^ (k + 1)
    rw [Int.toNat_natCast, Int.pow_succ]
    generalize sumZ (fun j => st j * 4 ^ j.toNat) k = x at h1 ⊢
    generalize (4 : Int) ^ k = y at h1 ⊢
    have h3 : st k = 0 ∨ st k = 1 ∨ st k = 2 ∨ st k = 3 := by omega
    rcases h3 with q | q | q | q <;> rw [q] <;> omega
theorem fil_rg {st : Int → Int} {n : Int} (hn : 1 ≤ n ∧ n ≤ 8) (h : ∀ j : Int, 0 ≤ j → j < n → 0 ≤ st j ∧ st j ≤ 3) : 0 ≤ fil st n ∧ fil st n < 65536 := by
  have h1 := fil_n st n.toNat (fun j h0 h1 => h j h0 (by omega))
  have h2 : ∀ k : Nat, k ≤ 8 → (4 : Int) ^ k ≤ 65536 := by decide
  have h3 := h2 n.toNat (by omega)
  unfold fil
  omega
theorem dig_inj {P a b x y : Int} (hp : 0 < P) (ha : 0 ≤ a ∧ a < P) (hb : 0 ≤ b ∧ b < P) (h : a + x * P = b + y * P) : a = b ∧ x = y := by
  have h1 : (a + x * P) / P = x := by rw [Int.add_mul_ediv_right _ _ (by omega), Int.ediv_eq_zero_of_lt ha.1 ha.2, Int.zero_add]
  have h2 : (b + y * P) / P = y := by rw [Int.add_mul_ediv_right _ _ (by omega), Int.ediv_eq_zero_of_lt hb.1 hb.2, Int.zero_add]
  have h3 : x = y := by rw [← h1, ← h2, h]
  subst h3
  exact ⟨by omega, rfl⟩
theorem pow4_pos (k : Nat) : (0 : Int) < 4 ^ k := by
  have : (0 : Nat) < 4 ^ k := Nat.pos_of_ne_zero (by simp)
  exact_mod_cast this
theorem fil_inj {st st2 : Int → Int} : ∀ k : Nat, (∀ j : Int, 0 ≤ j → j < k → 0 ≤ st j ∧ st j ≤ 3) → (∀ j : Int, 0 ≤ j → j < k → 0 ≤ st2 j ∧ st2 j ≤ 3) → sumZ (fun j => st j * 4 ^ j.toNat) k = sumZ (fun j => st2 j * 4 ^ j.toNat) k → ∀ j : Int, 0 ≤ j → j < k → st j = st2 j
  | 0, _, _, _ => fun j h0 h1 => absurd h1 (by omega)
  | k + 1, h, h2, q => by
    have e1 := fil_n st k (fun j h0 h1 => h j h0 (by omega))
    have e2 := fil_n st2 k (fun j h0 h1 => h2 j h0 (by omega))
    have q2 : sumZ (fun j => st j * 4 ^ j.toNat) k + st k * 4 ^ (k : Int).toNat = sumZ (fun j => st2 j * 4 ^ j.toNat) k + st2 k * 4 ^ (k : Int).toNat := q
    rw [Int.toNat_natCast] at q2
    obtain ⟨a1, a2⟩ := dig_inj (pow4_pos k) e1 e2 q2
    intro j h0 h1
    by_cases ej : j = k
    · rw [ej]; exact a2
    · exact fil_inj k (fun j h0 h1 => h j h0 (by omega)) (fun j h0 h1 => h2 j h0 (by omega)) a1 j h0 (by omega)
theorem four_two (p : Int) (h : 0 ≤ p) : (2 : Int) ^ (2 * p).toNat = 4 ^ p.toNat := by
  have ee : (2 * p).toNat = 2 * p.toNat := by omega
  rw [ee, Int.pow_mul]
  rfl
theorem sum_upd (f g : Int → Int) (p d : Int) (hp : 0 ≤ p) : ∀ k : Nat, (∀ j : Int, 0 ≤ j → j ≠ p → g j = f j) → g p = f p + d → sumZ g k = sumZ f k + (if p < k then d else 0)
  | 0, _, _ => by
    rw [if_neg (by omega)]
    rfl
  | k + 1, h, h2 => by
    show sumZ g k + g k = sumZ f k + f k + _
    rw [sum_upd f g p d hp k h h2]
    by_cases q : (k : Int) = p
    · rw [q, h2, if_neg (by omega), if_pos (by omega)]
      omega
    · rw [h k (by omega) q]
      by_cases q2 : p < k
      · rw [if_pos q2, if_pos (by omega)]; omega
      · rw [if_neg q2, if_neg (by omega)]; omega
theorem fil_stp {st : Int → Int} {n p : Int} (h : p = -1 ∨ (0 ≤ p ∧ p < n)) : fil st n + flp p = fil (stp st p) n := by
  rcases h with h | ⟨h1, h2⟩
  · rw [flp_f (by omega), stp_f (by omega), Int.add_zero]
  · rw [flp_t h1, stp_t h1, four_two p h1]
    unfold fil
    rw [sum_upd (fun j => st j * 4 ^ j.toNat) (fun j => uZ st p (st p + 1) j * 4 ^ j.toNat) p (4 ^ p.toNat) h1 n.toNat (fun j h0 hj => by rw [uZ_ne hj]) (by rw [uZ_same, Int.add_mul, Int.one_mul]), if_pos (by omega)]
theorem stp_back {st : Int → Int} {p : Int} : (if 0 ≤ p then uZ (stp st p) p (stp st p p - 1) else stp st p) = st := by
  by_cases h : 0 ≤ p
  · rw [if_pos h, stp_t h, uZ_same, uZ_uZ, show st p + 1 - 1 = st p by omega, uZ_self]
  · rw [if_neg h, stp_f (by omega)]
theorem pv_congr {n : Int} {cap st st2 : Int → Int} (h : ∀ j : Int, 0 ≤ j → j < n → st j = st2 j) : ∀ L : List Int, pv n cap st L = pv n cap st2 L
  | [] => rfl
  | s :: r => by
    simp only [pv]
    rw [pv_congr h r]
    by_cases q : s < 0 ∨ n ≤ s
    · rw [if_pos q, if_pos q]
    · rw [if_neg q, if_neg q, h s (by omega) (by omega)]
def shr (me p s : Int) : Int := if me = 1 then (if p = s then 1 else 0) else if me = 2 then s else (if p = -1 then 1 else 0)
theorem shr_rg (me p : Int) {s : Int} (h : 0 ≤ s ∧ s ≤ 8) : 0 ≤ shr me p s ∧ shr me p s ≤ 8 := by
  unfold shr
  split
  · split <;> omega
  · split
    · exact h
    · split <;> omega
/-- lists of so many coming cars that bring the rest -/
def cL (n : Int) (cap : Int → Int) (ru re me : Int) : Nat → (Int → Int) → Int → Int
  | 0, _, r => if r = 0 then 1 else 0
  | m + 1, st, r => sumZ (fun s => if (0 ≤ pP n cap st ru re s ∨ me = 0) ∧ 0 ≤ r - shr me (pP n cap st ru re s) s then cL n cap ru re me m (stp st (pP n cap st ru re s)) (r - shr me (pP n cap st ru re s) s) else 0) n.toNat
def cT (n : Int) (cap : Int → Int) (ru re me : Int) (m : Nat) (st : Int → Int) (r s : Int) : Int := if (0 ≤ pP n cap st ru re s ∨ me = 0) ∧ 0 ≤ r - shr me (pP n cap st ru re s) s then cL n cap ru re me m (stp st (pP n cap st ru re s)) (r - shr me (pP n cap st ru re s) s) else 0
theorem cL_s {n : Int} {cap : Int → Int} {ru re me : Int} {cm : Int} {st : Int → Int} {r : Int} (h : 0 < cm) : cL n cap ru re me cm.toNat st r = sumZ (fun s => cT n cap ru re me (cm - 1).toNat st r s) n.toNat := by
  obtain ⟨k, hk⟩ : ∃ k : Nat, cm.toNat = k + 1 := ⟨cm.toNat - 1, by omega⟩
  rw [hk, show (cm - 1).toNat = k by omega]
  rfl
theorem stp_congr {n p : Int} {st st2 : Int → Int} (h : ∀ j : Int, 0 ≤ j → j < n → st j = st2 j) (hp : p < n) : ∀ j : Int, 0 ≤ j → j < n → stp st p j = stp st2 p j := by
  intro j h0 h1
  by_cases q : 0 ≤ p
  · rw [stp_t q, stp_t q]
    unfold uZ
    rw [h p q hp, h j h0 h1]
  · rw [stp_f (by omega), stp_f (by omega)]
    exact h j h0 h1
theorem pP_lt {n : Int} {cap st : Int → Int} {ru re p : Int} (hn : 1 ≤ n) : pP n cap st ru re p < n := by
  rcases pP_rg n cap st ru re p with q | ⟨q1, q2, q3⟩
  · omega
  · exact q2
theorem cL_congr {n : Int} {cap : Int → Int} {ru re me : Int} (hn : 1 ≤ n) : ∀ (m : Nat) (st st2 : Int → Int) (r : Int), (∀ j : Int, 0 ≤ j → j < n → st j = st2 j) → cL n cap ru re me m st r = cL n cap ru re me m st2 r
  | 0, _, _, _, _ => rfl
  | m + 1, st, st2, r, h => by
    refine sumZ_congr _ (fun s h0 h1 => ?_)
    have ep : pP n cap st ru re s = pP n cap st2 ru re s := by unfold pP; rw [pv_congr h]
    rw [← ep]
    rw [cL_congr hn m _ _ _ (stp_congr h (pP_lt hn))]
theorem cL_rg {n : Int} {cap : Int → Int} {ru re me : Int} (hn : 1 ≤ n ∧ n ≤ 8) : ∀ (m : Nat) (st : Int → Int) (r : Int), 0 ≤ cL n cap ru re me m st r ∧ cL n cap ru re me m st r ≤ 8 ^ m
  | 0, _, r => by
    show 0 ≤ (if r = 0 then (1 : Int) else 0) ∧ (if r = 0 then (1 : Int) else 0) ≤ 8 ^ 0
    split <;> decide
  | m + 1, st, r => by
    have h := sumZ_rg (f := fun s => cT n cap ru re me m st r s) (c := 8 ^ m) n.toNat (fun s h0 h1 => by
      show 0 ≤ cT n cap ru re me m st r s ∧ cT n cap ru re me m st r s ≤ 8 ^ m
      unfold cT
      split
      · exact cL_rg hn m _ _
      · have : (0 : Int) ≤ 8 ^ m := Int.pow_nonneg (by decide)
        exact ⟨Int.le_refl _, this⟩)
    refine ⟨h.1, Int.le_trans h.2 ?_⟩
    rw [Int.pow_succ, Int.mul_comm]
    have h3 : (0 : Int) ≤ 8 ^ m := Int.pow_nonneg (by decide)
    exact Int.mul_le_mul_of_nonneg_left (by omega) h3
theorem cL_int {n : Int} {cap : Int → Int} {ru re me : Int} (hn : 1 ≤ n ∧ n ≤ 8) {m : Nat} (hm : m ≤ 9) (st : Int → Int) (r : Int) : 0 ≤ cL n cap ru re me m st r ∧ cL n cap ru re me m st r < 2147483648 := by
  have h := cL_rg (cap := cap) (ru := ru) (re := re) (me := me) hn m st r
  have h2 : ∀ k : Nat, k ≤ 9 → (8 : Int) ^ k < 2147483648 := by decide
  have := h2 m hm
  omega
def ckey (n : Int) (st : Int → Int) (m r : Int) : Int := fil st n + m * 65536 + r * 1048576
def mOK (n : Int) (cap : Int → Int) (ru re me : Int) (ky vl : Int → Int) : Prop := ∀ j : Int, 0 ≤ j → j < 1024 → ky j = -1 ∨ ∃ (st : Int → Int) (m : Nat) (r : Int), (∀ i : Int, 0 ≤ i → i < n → 0 ≤ st i ∧ st i ≤ 3) ∧ m ≤ 9 ∧ 0 ≤ r ∧ r ≤ 63 ∧ ky j = ckey n st m r ∧ vl j = cL n cap ru re me m st r
theorem ckey_rg {n : Int} {st : Int → Int} {m r : Int} (hn : 1 ≤ n ∧ n ≤ 8) (h : ∀ j : Int, 0 ≤ j → j < n → 0 ≤ st j ∧ st j ≤ 3) (hm : 0 ≤ m ∧ m ≤ 9) (hr : 0 ≤ r ∧ r ≤ 63) : 0 ≤ ckey n st m r ∧ ckey n st m r < 67108864 := by
  have := fil_rg hn h
  unfold ckey
  omega
theorem ckey_inj {n : Int} {st st2 : Int → Int} {m m2 r r2 : Int} (hn : 1 ≤ n ∧ n ≤ 8) (h : ∀ j : Int, 0 ≤ j → j < n → 0 ≤ st j ∧ st j ≤ 3) (h2 : ∀ j : Int, 0 ≤ j → j < n → 0 ≤ st2 j ∧ st2 j ≤ 3) (hm : 0 ≤ m ∧ m ≤ 9) (hm2 : 0 ≤ m2 ∧ m2 ≤ 9) (q : ckey n st m r = ckey n st2 m2 r2) : m = m2 ∧ r = r2 ∧ ∀ j : Int, 0 ≤ j → j < n → st j = st2 j := by
  have a := fil_rg hn h
  have b := fil_rg hn h2
  unfold ckey at q
  have e1 : m = m2 := by omega
  have e2 : r = r2 := by omega
  have e3 : fil st n = fil st2 n := by omega
  refine ⟨e1, e2, fun j h0 h1 => ?_⟩
  exact fil_inj n.toNat (fun j h0 h1 => h j h0 (by omega)) (fun j h0 h1 => h2 j h0 (by omega)) e3 j h0 (by omega)
theorem mOK_ky {n : Int} {cap : Int → Int} {ru re me : Int} {ky vl : Int → Int} (hn : 1 ≤ n ∧ n ≤ 8) (h : mOK n cap ru re me ky vl) : ∀ j : Int, 0 ≤ j → j < 1024 → -1 ≤ ky j ∧ ky j < 4611686018427387904 := by
  intro j h0 h1
  rcases h j h0 h1 with q | ⟨st, m, r, a1, a2, a3, a4, a5, a6⟩
  · omega
  · have := ckey_rg hn a1 (m := m) (r := r) (by omega) ⟨a3, a4⟩
    omega
theorem mOK_hit {n : Int} {cap : Int → Int} {ru re me : Int} {ky vl : Int → Int} (hn : 1 ≤ n ∧ n ≤ 8) (h : mOK n cap ru re me ky vl) {st : Int → Int} {m r : Int} (hs : ∀ j : Int, 0 ≤ j → j < n → 0 ≤ st j ∧ st j ≤ 3) (hm : 0 ≤ m ∧ m ≤ 9) (hr : 0 ≤ r ∧ r ≤ 63) {j : Int} (hj : 0 ≤ j ∧ j < 1024) (q : ky j = ckey n st m r) : vl j = cL n cap ru re me m.toNat st r := by
  have a := ckey_rg hn hs hm hr
  rcases h j hj.1 hj.2 with q2 | ⟨st2, m2, r2, a1, a2, a3, a4, a5, a6⟩
  · omega
  · obtain ⟨b1, b2, b3⟩ := ckey_inj hn hs a1 hm (by omega) (q.symm.trans a5)
    rw [a6, b1, b2, Int.toNat_natCast]
    exact (cL_congr hn.1 _ _ _ _ b3).symm
theorem mOK_put {n : Int} {cap : Int → Int} {ru re me : Int} {ky vl : Int → Int} (h : mOK n cap ru re me ky vl) {st : Int → Int} {m r v : Int} (hs : ∀ j : Int, 0 ≤ j → j < n → 0 ≤ st j ∧ st j ≤ 3) (hm : 0 ≤ m ∧ m ≤ 9) (hr : 0 ≤ r ∧ r ≤ 63) (i : Int) (hv : v = cL n cap ru re me m.toNat st r) : mOK n cap ru re me (uZ ky i (ckey n st m r)) (uZ vl i v) := by
  intro j h0 h1
  by_cases q : j = i
  · subst q
    right
    exact ⟨st, m.toNat, r, hs, by omega, hr.1, hr.2, by rw [uZ_same, Int.toNat_of_nonneg hm.1], by rw [uZ_same, hv]⟩
  · rw [uZ_ne q, uZ_ne q]
    exact h j h0 h1
theorem mOK_init {n : Int} {cap : Int → Int} {ru re me : Int} {ky vl : Int → Int} : mOK n cap ru re me (cpZ (kZ (-1)) ky 1024) vl := by
  intro j h0 h1
  left
  unfold cpZ
  rw [if_pos h1]
  rfl
