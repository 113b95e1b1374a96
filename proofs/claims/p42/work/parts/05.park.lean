/-! parking: what a car does on its way -/
theorem fa_and (a b : Nat) : nI a &&& nI b = nI (a &&& b) := by
  apply Int32.toBitVec_inj.1
  show BitVec.ofNat 32 a &&& BitVec.ofNat 32 b = BitVec.ofNat 32 (a &&& b)
  apply BitVec.eq_of_getLsbD_eq
  intro i hi
  simp [hi]
theorem fa_or (a b : Nat) : nI a ||| nI b = nI (a ||| b) := by
  apply Int32.toBitVec_inj.1
  show BitVec.ofNat 32 a ||| BitVec.ofNat 32 b = BitVec.ofNat 32 (a ||| b)
  apply BitVec.eq_of_getLsbD_eq
  intro i hi
  simp [hi]
theorem zI_nI (a : Nat) : zI (a : Int) = nI a := Int32.ofInt_eq_ofNat
theorem zI_orbit {a k : Int} (h : 0 ≤ a ∧ a < 2 ^ k.toNat) : zI a ||| zI (2 ^ k.toNat) = zI (a + 2 ^ k.toNat) := by
  obtain ⟨x, rfl⟩ := Int.eq_ofNat_of_zero_le h.1
  generalize k.toNat = j at h ⊢
  have h2 : x < 2 ^ j := by have := h.2; exact_mod_cast this
  have e : ((2 : Int) ^ j) = ((2 ^ j : Nat) : Int) := by simp
  rw [e, zI_nI, zI_nI, fa_or]
  have e2 : x ||| 2 ^ j = x + 2 ^ j := by
    have := Nat.two_pow_add_eq_or_of_lt h2 1
    rw [Nat.mul_one] at this
    rw [Nat.or_comm, ← this, Nat.add_comm]
  rw [e2, ← zI_nI]
  congr 1
theorem uZ_uZ (f : Int → Int) (i x y : Int) : uZ (uZ f i x) i y = uZ f i y := by
  funext j
  simp only [uZ]
  split <;> rfl
theorem uZ_self (f : Int → Int) (i : Int) : uZ f i (f i) = f := by
  funext j
  simp only [uZ]
  split
  · next h => rw [h]
  · rfl
theorem uZ_self0 (f : Int → Int) (i : Int) : uZ f i (f i + 0) = f := by rw [Int.add_zero, uZ_self]
/-- a finite sum -/
def sumZ (f : Int → Int) : Nat → Int
  | 0 => 0
  | k + 1 => sumZ f k + f (k : Int)
theorem sumZ_s {f : Int → Int} {i : Int} (h : 0 ≤ i) : sumZ f (i + 1).toNat = sumZ f i.toNat + f i := by
  obtain ⟨j, rfl⟩ := Int.eq_ofNat_of_zero_le h
  have e : ((j : Int) + 1).toNat = j + 1 := by omega
  rw [e, Int.toNat_natCast]
  rfl
theorem sumZ_congr {f g : Int → Int} : ∀ k : Nat, (∀ j : Int, 0 ≤ j → j < k → f j = g j) → sumZ f k = sumZ g k
  | 0, _ => rfl
  | k + 1, h => by
    show sumZ f k + f k = sumZ g k + g k
    rw [sumZ_congr k (fun j h0 h1 => h j h0 (by omega)), h k (by omega) (by omega)]
theorem sumZ_rg {f : Int → Int} {c : Int} : ∀ k : Nat, (∀ j : Int, 0 ≤ j → j < k → 0 ≤ f j ∧ f j ≤ c) → 0 ≤ sumZ f k ∧ sumZ f k ≤ k * c
  | 0, _ => by simp [sumZ]
  | k + 1, h => by
    have h1 := sumZ_rg k (fun j h0 h1 => h j h0 (by omega))
    have h2 := h k (by omega) (by omega)
    show 0 ≤ sumZ f k + f k ∧ sumZ f k + f k ≤ _
    have e : ((k + 1 : Nat) : Int) * c = k * c + c := by push_cast; rw [Int.add_mul, Int.one_mul]
    rw [e]
    omega
theorem pow_s {k : Int} (h : 0 ≤ k) : (2 : Int) ^ (k + 1).toNat = 2 * 2 ^ k.toNat := by
  have e : (k + 1).toNat = k.toNat + 1 := by omega
  rw [e, Int.pow_succ, Int.mul_comm]
theorem pow_pos2 (k : Nat) : (0 : Int) < 2 ^ k := by
  have : (0 : Nat) < 2 ^ k := Nat.pos_of_ne_zero (by simp)
  exact_mod_cast this
theorem pow_le9 {k : Int} (h : 0 ≤ k ∧ k ≤ 9) : (2 : Int) ^ k.toNat ≤ 512 := by
  have h2 : k.toNat ≤ 9 := by omega
  have : ∀ j : Nat, j ≤ 9 → (2 : Int) ^ j ≤ 512 := by decide
  exact this _ h2
/-- spaces looked at, and where the car parks (-1: it leaves) -/
def pv (n : Int) (cap st : Int → Int) : List Int → Int × Int
  | [] => (0, -1)
  | s :: r => if s < 0 ∨ n ≤ s then pv n cap st r else if cap s ≤ st s then ((pv n cap st r).1 + 1, (pv n cap st r).2) else (1, s)
theorem pv_nil (n : Int) (cap st : Int → Int) : pv n cap st [] = (0, -1) := rfl
theorem pv_out {n : Int} {cap st : Int → Int} {s : Int} (h : s < 0 ∨ n ≤ s) : pv n cap st [s] = (0, -1) := by simp [pv, h]
theorem pv_full {n : Int} {cap st : Int → Int} {s : Int} (h : 0 ≤ s ∧ s < n) (h2 : cap s ≤ st s) : pv n cap st [s] = (1, -1) := by
  have h1 : ¬ (s < 0 ∨ n ≤ s) := by omega
  simp [pv, h1, h2]
theorem pv_ok {n : Int} {cap st : Int → Int} {s : Int} (h : 0 ≤ s ∧ s < n) (h2 : st s < cap s) : pv n cap st [s] = (1, s) := by
  have h1 : ¬ (s < 0 ∨ n ≤ s) := by omega
  have h3 : ¬ cap s ≤ st s := by omega
  simp [pv, h1, h3]
theorem pv_cons_f {n : Int} {cap st : Int → Int} {s : Int} {r : List Int} (h : (pv n cap st [s]).2 < 0) : pv n cap st (s :: r) = ((pv n cap st [s]).1 + (pv n cap st r).1, (pv n cap st r).2) := by
  show (if s < 0 ∨ n ≤ s then pv n cap st r else if cap s ≤ st s then ((pv n cap st r).1 + 1, (pv n cap st r).2) else (1, s)) = _
  by_cases h1 : s < 0 ∨ n ≤ s
  · rw [if_pos h1, pv_out h1, Int.zero_add]
  · rw [if_neg h1]
    by_cases h2 : cap s ≤ st s
    · rw [if_pos h2, pv_full (by omega) h2, Int.add_comm]
    · rw [pv_ok (by omega) (by omega)] at h
      exact absurd h (by show ¬ s < 0; omega)
theorem pv_cons_t {n : Int} {cap st : Int → Int} {s : Int} {r : List Int} (h : 0 ≤ (pv n cap st [s]).2) : pv n cap st (s :: r) = pv n cap st [s] := by
  show (if s < 0 ∨ n ≤ s then pv n cap st r else if cap s ≤ st s then ((pv n cap st r).1 + 1, (pv n cap st r).2) else (1, s)) = _
  by_cases h1 : s < 0 ∨ n ≤ s
  · rw [pv_out h1] at h
    exact absurd h (by decide)
  · rw [if_neg h1]
    by_cases h2 : cap s ≤ st s
    · rw [pv_full (by omega) h2] at h
      exact absurd h (by decide)
    · rw [if_neg h2, pv_ok (by omega) (by omega)]
theorem pv_app_f {n : Int} {cap st : Int → Int} {b : List Int} : ∀ {a : List Int}, (pv n cap st a).2 < 0 → pv n cap st (a ++ b) = ((pv n cap st a).1 + (pv n cap st b).1, (pv n cap st b).2)
  | [], _ => by simp [pv]
  | s :: r, h => by
    by_cases q : (pv n cap st [s]).2 < 0
    · rw [pv_cons_f q] at h ⊢
      rw [List.cons_append, pv_cons_f q, pv_app_f h, Int.add_assoc]
    · rw [pv_cons_t (by omega)] at h
      exact absurd h q
theorem pv_app_t {n : Int} {cap st : Int → Int} {b : List Int} : ∀ {a : List Int}, 0 ≤ (pv n cap st a).2 → pv n cap st (a ++ b) = pv n cap st a
  | [], h => absurd h (by rw [pv_nil]; decide)
  | s :: r, h => by
    by_cases q : (pv n cap st [s]).2 < 0
    · rw [pv_cons_f q] at h ⊢
      rw [List.cons_append, pv_cons_f q, pv_app_t h]
    · have q2 : 0 ≤ (pv n cap st [s]).2 := by omega
      rw [List.cons_append, pv_cons_t q2, pv_cons_t (r := r) q2]
theorem pv_one (n : Int) (cap st : Int → Int) (s : Int) : (pv n cap st [s]).2 = -1 ∨ (0 ≤ (pv n cap st [s]).2 ∧ (pv n cap st [s]).2 = s ∧ s < n ∧ st s < cap s) := by
  by_cases h1 : s < 0 ∨ n ≤ s
  · left; rw [pv_out h1]
  · by_cases h2 : cap s ≤ st s
    · left; rw [pv_full (by omega) h2]
    · right; rw [pv_ok (by omega) (by omega)]
      exact ⟨by show 0 ≤ s; omega, rfl, by omega, by omega⟩
theorem pv_rg (n : Int) (cap st : Int → Int) : ∀ a : List Int, (pv n cap st a).2 = -1 ∨ (0 ≤ (pv n cap st a).2 ∧ (pv n cap st a).2 < n ∧ st (pv n cap st a).2 < cap (pv n cap st a).2)
  | [] => Or.inl rfl
  | s :: r => by
    rcases pv_one n cap st s with q | ⟨q1, q2, q3, q4⟩
    · rw [pv_cons_f (by omega)]
      exact pv_rg n cap st r
    · rw [pv_cons_t q1]
      right
      exact ⟨q1, by omega, by rw [q2]; exact q4⟩
theorem pv_len (n : Int) (cap st : Int → Int) : ∀ a : List Int, 0 ≤ (pv n cap st a).1 ∧ (pv n cap st a).1 ≤ a.length
  | [] => by simp [pv]
  | s :: r => by
    have h := pv_len n cap st r
    simp only [pv, List.length_cons]
    split
    · omega
    · split
      · dsimp only; omega
      · dsimp only; omega
def upL (a b : Int) : List Int := (List.range (b + 1 - a).toNat).map (fun i : Nat => a + (i : Int))
def dnL (a b : Int) : List Int := (List.range (a + 1 - b).toNat).map (fun i : Nat => a - (i : Int))
def arL (m d r : Int) : List Int := (List.range (r + 1 - d).toNat).flatMap (fun i : Nat => [m - (d + (i : Int)), m + (d + (i : Int))])
theorem upL_nil {a b : Int} (h : b < a) : upL a b = [] := by
  unfold upL
  rw [show (b + 1 - a).toNat = 0 by omega]
  rfl
theorem dnL_nil {a b : Int} (h : a < b) : dnL a b = [] := by
  unfold dnL
  rw [show (a + 1 - b).toNat = 0 by omega]
  rfl
theorem arL_nil {m d r : Int} (h : r < d) : arL m d r = [] := by
  unfold arL
  rw [show (r + 1 - d).toNat = 0 by omega]
  rfl
theorem upL_cons {a b : Int} (h : a ≤ b) : upL a b = a :: upL (a + 1) b := by
  unfold upL
  obtain ⟨k, hk⟩ : ∃ k : Nat, (b + 1 - a).toNat = k + 1 := ⟨(b + 1 - a).toNat - 1, by omega⟩
  rw [hk, show (b + 1 - (a + 1)).toNat = k by omega, List.range_succ_eq_map, List.map_cons, List.map_map]
  congr 1
  · show a + ((0 : Nat) : Int) = a
    omega
  · apply List.map_congr_left
    intro i _
    show a + ((i + 1 : Nat) : Int) = a + 1 + i
    omega
theorem dnL_cons {a b : Int} (h : b ≤ a) : dnL a b = a :: dnL (a - 1) b := by
  unfold dnL
  obtain ⟨k, hk⟩ : ∃ k : Nat, (a + 1 - b).toNat = k + 1 := ⟨(a + 1 - b).toNat - 1, by omega⟩
  rw [hk, show (a - 1 + 1 - b).toNat = k by omega, List.range_succ_eq_map, List.map_cons, List.map_map]
  congr 1
  · show a - ((0 : Nat) : Int) = a
    omega
  · apply List.map_congr_left
    intro i _
    show a - ((i + 1 : Nat) : Int) = a - 1 - i
    omega
theorem arL_cons {m d r : Int} (h : d ≤ r) : arL m d r = (m - d) :: (m + d) :: arL m (d + 1) r := by
  unfold arL
  obtain ⟨k, hk⟩ : ∃ k : Nat, (r + 1 - d).toNat = k + 1 := ⟨(r + 1 - d).toNat - 1, by omega⟩
  rw [hk, show (r + 1 - (d + 1)).toNat = k by omega, List.range_succ_eq_map, List.flatMap_cons, List.flatMap_map]
  show (m - (d + ((0 : Nat) : Int))) :: (m + (d + ((0 : Nat) : Int))) :: _ = _
  congr 1
  · omega
  · congr 1
    · omega
    · show List.flatMap (fun a : Nat => [m - (d + ((a + 1 : Nat) : Int)), m + (d + ((a + 1 : Nat) : Int))]) (List.range k) = _
      congr 1
      funext i
      show [m - (d + ((i + 1 : Nat) : Int)), m + (d + ((i + 1 : Nat) : Int))] = _
      congr 1
      · omega
      · congr 1
        omega
/-- the spaces of a sequence, those that there aren't among them -/
def pseq (ru re n p : Int) : List Int := if ru = 1 then dnL p (p - re) ++ upL (p + 1) (n - 1) else if ru = 2 then upL p (p + re) else if ru = 3 then p :: arL p 1 re else upL p (n - 1)
def pP (n : Int) (cap st : Int → Int) (ru re p : Int) : Int := (pv n cap st (pseq ru re n p)).2
def pK (n : Int) (cap st : Int → Int) (ru re p : Int) : Int := (pv n cap st (pseq ru re n p)).1
def stp (st : Int → Int) (p : Int) : Int → Int := if 0 ≤ p then uZ st p (st p + 1) else st
def flp (p : Int) : Int := if 0 ≤ p then 2 ^ (2 * p).toNat else 0
theorem pP_rg (n : Int) (cap st : Int → Int) (ru re p : Int) : pP n cap st ru re p = -1 ∨ (0 ≤ pP n cap st ru re p ∧ pP n cap st ru re p < n ∧ st (pP n cap st ru re p) < cap (pP n cap st ru re p)) := pv_rg n cap st _
theorem stp_t {st : Int → Int} {p : Int} (h : 0 ≤ p) : stp st p = uZ st p (st p + 1) := if_pos h
theorem stp_f {st : Int → Int} {p : Int} (h : p < 0) : stp st p = st := if_neg (by omega)
theorem flp_t {p : Int} (h : 0 ≤ p) : flp p = 2 ^ (2 * p).toNat := if_pos h
theorem flp_f {p : Int} (h : p < 0) : flp p = 0 := if_neg (by omega)
theorem stp_rg {n : Int} {cap st : Int → Int} {ru re p : Int} (hc : ∀ j : Int, 0 ≤ j → j < n → 0 ≤ cap j ∧ cap j ≤ 3) (hs : ∀ j : Int, 0 ≤ j → j < n → 0 ≤ st j ∧ st j ≤ 3) : ∀ j : Int, 0 ≤ j → j < n → 0 ≤ stp st (pP n cap st ru re p) j ∧ stp st (pP n cap st ru re p) j ≤ 3 := by
  intro j h0 h1
  rcases pP_rg n cap st ru re p with q | ⟨q1, q2, q3⟩
  · rw [stp_f (by omega)]
    exact hs j h0 h1
  · rw [stp_t q1]
    unfold uZ
    by_cases ee : j = pP n cap st ru re p
    · rw [if_pos ee]
      have := hc (pP n cap st ru re p) q1 (by omega)
      have := hs (pP n cap st ru re p) q1 (by omega)
      omega
    · rw [if_neg ee]
      exact hs j h0 h1
theorem pseq_1 {ru re n p : Int} (h : ru = 1) : pseq ru re n p = dnL p (p - re) ++ upL (p + 1) (n - 1) := if_pos h
theorem pseq_2 {ru re n p : Int} (h : ru = 2) : pseq ru re n p = upL p (p + re) := by
  unfold pseq
  rw [if_neg (by omega), if_pos h]
theorem pseq_3 {ru re n p : Int} (h : ru = 3) : pseq ru re n p = p :: arL p 1 re := by
  unfold pseq
  rw [if_neg (by omega), if_neg (by omega), if_pos h]
theorem pseq_0 {ru re n p : Int} (h : ru < 1 ∨ 3 < ru) : pseq ru re n p = upL p (n - 1) := by
  unfold pseq
  rw [if_neg (by omega), if_neg (by omega), if_neg (by omega)]
def zeroZ : Int → Int := fun _ => 0
theorem cpZ_s (f g : Int → Int) (i : Int) : uZ (cpZ f g i) i (f i) = cpZ f g (i + 1) := by
  funext j
  simp only [uZ, cpZ]
  by_cases h : j = i
  · rw [if_pos h, if_pos (by omega), h]
  · rw [if_neg h]
    by_cases h2 : j < i
    · rw [if_pos h2, if_pos (by omega)]
    · rw [if_neg h2, if_neg (by omega)]
theorem aZ_cp0 (f g : Int → Int) : aZ (cpZ f g 0) = aZ g := aZ_ext (n := 0) (fun j h => by simp only [cpZ]; rw [if_neg (by omega)])
