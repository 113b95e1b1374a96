/-! the model: a text is read; the fingerprint -/
theorem bitU : ∀ t : Nat, t < 256 → ∀ j : Nat, j < 8 → t / 2 ^ j % 2 = 0 → t ||| 2 ^ j = t + 2 ^ j ∧ t + 2 ^ j < 256 ∧ ∀ k : Nat, k < 8 → (t + 2 ^ j) / 2 ^ k % 2 = if k = j then 1 else t / 2 ^ k % 2 := by decide +kernel
theorem or_bit {t s : Int} (ht : 0 ≤ t ∧ t < 256) (hs : 0 ≤ s ∧ s < 8) (hb : bitZ t s = 0) : zI t ||| zI (2 ^ s.toNat) = zI (t + 2 ^ s.toNat) ∧ 0 ≤ t + 2 ^ s.toNat ∧ t + 2 ^ s.toNat < 256 ∧ ∀ k : Int, 0 ≤ k → k < 8 → bitZ (t + 2 ^ s.toNat) k = if k = s then 1 else bitZ t k := by
  rw [bitZ_nat ht.1] at hb
  obtain ⟨h1, h2, h3⟩ := bitU t.toNat (by omega) s.toNat (by omega) (by omega)
  have e2 : ((2 : Int) ^ s.toNat) = ((2 ^ s.toNat : Nat) : Int) := by simp
  have e3 : (t + 2 ^ s.toNat).toNat = t.toNat + 2 ^ s.toNat := by
    rw [e2]
    generalize (2 : Nat) ^ s.toNat = y
    omega
  have e4 : 0 ≤ t + 2 ^ s.toNat := by
    have := pow_pos2 s.toNat
    omega
  refine ⟨zI_orN ht.1 (Int.le_of_lt (pow_pos2 _)) (by rw [e2, Int.toNat_natCast]; exact h1), e4, by omega, fun k k0 k1 => ?_⟩
  rw [bitZ_nat e4, e3, h3 k.toNat (by omega), bitZ_nat ht.1]
  by_cases u : k = s
  · rw [if_pos u, if_pos (by omega)]
    rfl
  · rw [if_neg u, if_neg (by omega)]
/-- what holds along a text that is read -/
def rok (n : Int) (S : RS) : Prop := (0 ≤ S.2.1 ∧ S.2.1 ≤ S.1 ∧ S.1 ≤ n) ∧ (-1 ≤ S.2.2.1 ∧ S.2.2.1 < n) ∧ (S.2.2.2.1 = 0 ∨ (S.2.2.2.1 = 1 ∧ S.1 < n)) ∧ (∀ j : Int, S.2.2.2.2.1 j = -1 ∨ (0 ≤ S.2.2.2.2.1 j ∧ S.2.2.2.2.1 j < n)) ∧ S.1 = sumZ (fun j => if S.2.2.2.2.1 j = -1 then 0 else 1) n.toNat ∧ S.2.2.2.2.2 = sumZ (fun r => r) S.1.toNat - sumZ (fun j => if S.2.2.2.2.1 j = -1 then 0 else S.2.2.2.2.1 j) n.toNat
theorem rst_ok {n : Int} (hn : 1 ≤ n) {S T : RS} {x : Int} (h : rok n S) (e : rst n S x = some T) : rok n T := by
  obtain ⟨u, r, b, d, w, a⟩ := S
  obtain ⟨⟨h1, h2, h3⟩, h4, h5, h6, h7, h8⟩ := h
  dsimp only at h1 h2 h3 h4 h5 h6 h7 h8
  by_cases hd : d = 0
  · by_cases q1 : x = 78 ∧ u < n
    · rw [rst_N hd q1] at e
      obtain rfl := Option.some.inj e
      exact ⟨⟨h1, h2, h3⟩, h4, Or.inr ⟨rfl, q1.2⟩, h6, h7, h8⟩
    · by_cases q2 : x = 69 ∧ r < u
      · rw [rst_E hd q1 q2] at e
        obtain rfl := Option.some.inj e
        exact ⟨⟨show 0 ≤ r + 1 by omega, show r + 1 ≤ u by omega, h3⟩, ⟨Int.le_refl _, show -1 < n by omega⟩, Or.inl rfl, h6, h7, h8⟩
      · rw [rst_no hd q1 q2] at e
        cases e
  · by_cases q1 : 0 ≤ x - 48 ∧ x - 48 < n ∧ w (x - 48) = -1 ∧ b < x - 48
    · rw [rst_lab hd q1] at e
      obtain rfl := Option.some.inj e
      have hu : u < n := by
        rcases h5 with h5 | h5
        · exact absurd h5 hd
        · exact h5.2
      refine ⟨⟨h1, show r ≤ u + 1 by omega, show u + 1 ≤ n by omega⟩, ⟨show -1 ≤ x - 48 by omega, q1.2.1⟩, Or.inl rfl, fun j => ?_, ?_, ?_⟩
      · show uZ w (x - 48) r j = -1 ∨ (0 ≤ uZ w (x - 48) r j ∧ uZ w (x - 48) r j < n)
        by_cases v : j = x - 48
        · rw [v, uZ_same]
          exact Or.inr ⟨h1, by omega⟩
        · rw [uZ_ne v]
          exact h6 j
      · show u + 1 = sumZ (fun j => if uZ w (x - 48) r j = -1 then 0 else 1) n.toNat
        rw [sum_upd (fun j => if w j = -1 then (0 : Int) else 1) (fun j => if uZ w (x - 48) r j = -1 then (0 : Int) else 1) (x - 48) 1 q1.1 n.toNat (fun j _ v => by
          show (if uZ w (x - 48) r j = -1 then (0 : Int) else 1) = (if w j = -1 then (0 : Int) else 1)
          rw [uZ_ne v]) (by
          show (if uZ w (x - 48) r (x - 48) = -1 then (0 : Int) else 1) = (if w (x - 48) = -1 then (0 : Int) else 1) + 1
          rw [uZ_same, if_neg (by omega), if_pos q1.2.2.1]
          rfl), if_pos (by omega), ← h7]
      · show a + (u - r) = sumZ (fun r => r) (u + 1).toNat - sumZ (fun j => if uZ w (x - 48) r j = -1 then 0 else uZ w (x - 48) r j) n.toNat
        rw [sum_upd (fun j => if w j = -1 then (0 : Int) else w j) (fun j => if uZ w (x - 48) r j = -1 then (0 : Int) else uZ w (x - 48) r j) (x - 48) r q1.1 n.toNat (fun j _ v => by
          show (if uZ w (x - 48) r j = -1 then (0 : Int) else uZ w (x - 48) r j) = (if w j = -1 then (0 : Int) else w j)
          rw [uZ_ne v]) (by
          show (if uZ w (x - 48) r (x - 48) = -1 then (0 : Int) else uZ w (x - 48) r (x - 48)) = (if w (x - 48) = -1 then (0 : Int) else w (x - 48)) + r
          rw [uZ_same, if_neg (by omega), if_pos q1.2.2.1, Int.zero_add]), if_pos (by omega), sumZ_s (by omega), h8]
        omega
    · rw [rst_labn hd q1] at e
      cases e
theorem rrun_ok {n : Int} (hn : 1 ≤ n) {tx : Int → Int} : ∀ (k : Nat) (S : RS), rrun n tx k = some S → rok n S
  | 0, S, h => by
    obtain rfl := Option.some.inj h
    exact ⟨⟨Int.le_refl _, Int.le_refl _, show (0 : Int) ≤ n by omega⟩, ⟨Int.le_refl _, show (-1 : Int) < n by omega⟩, Or.inl rfl, fun j => Or.inl rfl, (sumZ_0 _ (fun j _ _ => if_pos rfl)).symm, by
      have e0 : sumZ (fun j : Int => if kZ (-1) j = -1 then (0 : Int) else kZ (-1) j) n.toNat = 0 := sumZ_0 _ (fun j _ _ => if_pos rfl)
      show (0 : Int) = 0 - sumZ (fun j : Int => if kZ (-1) j = -1 then (0 : Int) else kZ (-1) j) n.toNat
      rw [e0]
      rfl⟩
  | k + 1, T, h => by
    have h2 : (rrun n tx k).bind (fun S => rst n S (tx (k : Int))) = some T := h
    cases e : rrun n tx k with
    | none =>
      rw [e] at h2
      cases h2
    | some S =>
      rw [e] at h2
      exact rst_ok hn (rrun_ok hn k S e) h2
theorem sum_full {f : Int → Int} (h : ∀ j : Int, 0 ≤ f j ∧ f j ≤ 1) : ∀ k : Nat, (k : Int) ≤ sumZ f k → ∀ j : Int, 0 ≤ j → j < k → f j = 1
  | 0, _ => fun j a b => absurd b (by omega)
  | k + 1, q => by
    have q2 : ((k + 1 : Nat) : Int) ≤ sumZ f k + f (k : Int) := q
    have h1 := sum01 h k
    have h2 := h (k : Int)
    intro j a b
    by_cases e : j = k
    · rw [e]
      omega
    · exact sum_full h k (by omega) j a (by omega)
/-- a whole path: every car has its preference -/
theorem rok_all {n r b d a : Int} {w : Int → Int} (hn : 1 ≤ n) (h : rok n (n, r, b, d, w, a)) (j : Int) (h0 : 0 ≤ j) (h1 : j < n) : 0 ≤ w j ∧ w j < n := by
  obtain ⟨_, _, _, h6, h7, _⟩ := h
  dsimp only at h6 h7
  have e := sum_full (f := fun j => if w j = -1 then (0 : Int) else 1) (fun j => by split <;> omega) n.toNat (by omega) j h0 (by omega)
  have e2 : (if w j = -1 then (0 : Int) else 1) = 1 := e
  rcases h6 j with q | q
  · rw [if_pos q] at e2
    omega
  · exact q
theorem sum_swap (f : Int → Int → Int) (p : Nat) : ∀ k : Nat, sumZ (fun i => sumZ (fun j => f i j) p) k = sumZ (fun j => sumZ (fun i => f i j) k) p
  | 0 => (sumZ_0 _ (fun _ _ _ => rfl)).symm
  | k + 1 => by
    show sumZ (fun i => sumZ (fun j => f i j) p) k + sumZ (fun j => f (k : Int) j) p = _
    rw [sum_swap f p k]
    have add : ∀ (g h : Int → Int) (m : Nat), sumZ g m + sumZ h m = sumZ (fun j => g j + h j) m := by
      intro g h m
      induction m with
      | zero => rfl
      | succ m ih =>
        show (sumZ g m + g (m : Int)) + (sumZ h m + h (m : Int)) = sumZ (fun j => g j + h j) m + (g (m : Int) + h (m : Int))
        rw [← ih]
        omega
    exact add _ _ p
theorem sum_one {k : Nat} {x v : Int} (h : 0 ≤ x ∧ x < k) : sumZ (fun r => if r = x then v else 0) k = v := by
  rw [sum_upd (fun _ => 0) (fun r => if r = x then v else 0) x v h.1 k (fun j _ u => if_neg u) (by
    show (if x = x then v else 0) = 0 + v
    rw [if_pos rfl, Int.zero_add]), sumZ_0 _ (fun _ _ _ => rfl), if_pos h.2, Int.zero_add]
theorem sum_sub (g h : Int → Int) : ∀ m : Nat, sumZ (fun j => g j - h j) m = sumZ g m - sumZ h m
  | 0 => rfl
  | m + 1 => by
    show sumZ (fun j => g j - h j) m + (g (m : Int) - h (m : Int)) = (sumZ g m + g (m : Int)) - (sumZ h m + h (m : Int))
    rw [sum_sub g h m]
    omega
theorem sum_lab {wi : Int → Int} {n : Int} (hn : 0 ≤ n) : sumZ (fun r => wi (labZ wi n r)) n.toNat = sumZ wi n.toNat := by
  have e1 : sumZ (fun r => wi (labZ wi n r)) n.toNat = sumZ (fun r => sumZ (fun j => if r = rk wi n j then wi j else 0) n.toNat) n.toNat := by
    refine sumZ_congr _ (fun r h0 h1 => ?_)
    obtain ⟨q1, q2, q3⟩ := labZ_at (wi := wi) (ct := n) (r := r) (by omega)
    have e2 : sumZ (fun j => if r = rk wi n j then wi j else 0) n.toNat = sumZ (fun j => if j = labZ wi n r then wi (labZ wi n r) else 0) n.toNat := by
      refine sumZ_congr _ (fun j j0 j1 => ?_)
      by_cases u : r = rk wi n j
      · have e3 : j = labZ wi n r := by rw [u, labZ_rk ⟨j0, by omega⟩]
        rw [if_pos u, if_pos e3, ← e3]
      · rw [if_neg u, if_neg (fun v => u (by rw [v, q3]))]
    show wi (labZ wi n r) = _
    rw [e2, sum_one (by omega)]
  rw [e1, sum_swap (fun r j => if r = rk wi n j then wi j else 0)]
  refine sumZ_congr _ (fun j h0 h1 => ?_)
  have := rk_rg (wi := wi) (ct := n) (j := j) (by omega)
  exact sum_one (by omega)
theorem area_ok {n r b d a : Int} {w wi : Int → Int} (hn : 1 ≤ n) (h : rok n (n, r, b, d, w, a)) (hw : ∀ j : Int, 0 ≤ j → j < n → wi j = w j) : sumZ (arZ wi n) n.toNat = a := by
  have ha := rok_all hn h
  obtain ⟨_, _, _, _, _, h8⟩ := h
  dsimp only at h8
  have e1 : sumZ (arZ wi n) n.toNat = sumZ (fun r => r) n.toNat - sumZ (fun r => wi (labZ wi n r)) n.toNat := sum_sub (fun r => r) (fun r => wi (labZ wi n r)) n.toNat
  rw [e1, sum_lab (by omega), h8]
  have e2 : sumZ wi n.toNat = sumZ (fun j => if w j = -1 then 0 else w j) n.toNat := by
    refine sumZ_congr _ (fun j h0 h1 => ?_)
    have := ha j h0 (by omega)
    rw [hw j h0 (by omega), if_neg (by omega)]
  rw [e2]
