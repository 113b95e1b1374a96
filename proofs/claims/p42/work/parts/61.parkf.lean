/-! what a parked list shows of itself -/
section PF
variable {n : Int} {cap : Int → Int} {ru re : Int} {wi : Int → Int}
theorem cntE_0 (f : Int → Int) (s : Int) : ∀ k : Nat, 0 ≤ cntE f s k
  | 0 => Int.le_refl _
  | k + 1 => by
    show 0 ≤ cntE f s k + (if f (k : Int) = s then 1 else 0)
    have := cntE_0 f s k
    split <;> omega
theorem pst_n (k : Nat) : pst n cap ru re wi (k + 1) = stp (pst n cap ru re wi k) (ppl n cap ru re wi (k : Int)) := by
  rw [ppl_n k]
  rfl
theorem pst_cnt {s : Int} (h0 : 0 ≤ s) : ∀ k : Nat, pst n cap ru re wi k s = cntE (ppl n cap ru re wi) s k
  | 0 => rfl
  | k + 1 => by
    have ih := pst_cnt h0 k
    show pst n cap ru re wi (k + 1) s = cntE (ppl n cap ru re wi) s k + (if ppl n cap ru re wi (k : Int) = s then 1 else 0)
    rw [pst_n k]
    generalize ppl n cap ru re wi (k : Int) = p
    by_cases q : 0 ≤ p
    · rw [stp_t q]
      unfold uZ
      by_cases e : s = p
      · rw [if_pos e, if_pos e.symm, ← e, ih]
      · rw [if_neg e, if_neg (fun u => e u.symm), ih, Int.add_zero]
    · rw [stp_f (by omega), if_neg (by omega), ih, Int.add_zero]
theorem pst_cap_le (hc : ∀ j : Int, 0 ≤ j → j < n → 0 ≤ cap j ∧ cap j ≤ 3) : ∀ (k : Nat) (s : Int), 0 ≤ s → s < n → pst n cap ru re wi k s ≤ cap s
  | 0, s, h0, h1 => (hc s h0 h1).1
  | k + 1, s, h0, h1 => by
    have ih := pst_cap_le hc k
    rw [pst_n k, ppl_n k]
    rcases pP_rg n cap (pst n cap ru re wi k) ru re (wi (k : Int)) with q | ⟨q1, q2, q3⟩
    · rw [stp_f (by omega)]
      exact ih s h0 h1
    · rw [stp_t q1]
      unfold uZ
      by_cases e : s = pP n cap (pst n cap ru re wi k) ru re (wi (k : Int))
      · rw [if_pos e]
        rw [e]
        omega
      · rw [if_neg e]
        exact ih s h0 h1
/-- never more cars stand in a space than its capacity says -/
theorem cars_le (hc : ∀ j : Int, 0 ≤ j → j < n → 0 ≤ cap j ∧ cap j ≤ 3) (k : Nat) {s : Int} (h0 : 0 ≤ s) (h1 : s < n) : cntE (ppl n cap ru re wi) s k ≤ cap s := by
  rw [← pst_cnt h0 k]
  exact pst_cap_le hc k s h0 h1
/-- spaces that there are, in a sequence -/
def inN (n : Int) : List Int → Nat
  | [] => 0
  | s :: r => inN n r + (if s < 0 ∨ n ≤ s then 0 else 1)
theorem pv_in (st : Int → Int) : ∀ L : List Int, (pv n cap st L).1 ≤ inN n L
  | [] => Int.le_refl _
  | s :: r => by
    have ih := pv_in st r
    simp only [pv, inN]
    by_cases q : s < 0 ∨ n ≤ s
    · rw [if_pos q, if_pos q]
      omega
    · rw [if_neg q, if_neg q]
      split
      · dsimp only
        omega
      · dsimp only
        omega
def inB : Bool := (List.range 4).all fun ru => (List.range 9).all fun re => (List.range 9).all fun n => (List.range n).all fun p => decide (inN (n : Int) (pseq (ru : Int) (re : Int) (n : Int) (p : Int)) ≤ n)
set_option maxRecDepth 100000 in
theorem inBt : inB = true := by decide +kernel
theorem inN_le {p : Int} (hn : 1 ≤ n ∧ n ≤ 8) (hru : 0 ≤ ru ∧ ru ≤ 3) (hre : 0 ≤ re ∧ re ≤ 8) (hp : 0 ≤ p ∧ p < n) : (inN n (pseq ru re n p) : Int) ≤ n := by
  have a := List.all_eq_true.mp inBt ru.toNat (List.mem_range.mpr (by omega))
  have b := List.all_eq_true.mp a re.toNat (List.mem_range.mpr (by omega))
  have c := List.all_eq_true.mp b n.toNat (List.mem_range.mpr (by omega))
  have d := of_decide_eq_true (List.all_eq_true.mp c p.toNat (List.mem_range.mpr (by omega)))
  rw [show ((ru.toNat : Nat) : Int) = ru by omega, show ((re.toNat : Nat) : Int) = re by omega, show ((n.toNat : Nat) : Int) = n by omega, show ((p.toNat : Nat) : Int) = p by omega] at d
  omega
theorem pseq_head {p : Int} (hre : 0 ≤ re) (hp : p < n) : ∃ r : List Int, pseq ru re n p = p :: r := by
  by_cases h1 : ru = 1
  · rw [pseq_1 h1, dnL_cons (by omega)]
    exact ⟨_, rfl⟩
  · by_cases h2 : ru = 2
    · rw [pseq_2 h2, upL_cons (by omega)]
      exact ⟨_, rfl⟩
    · by_cases h3 : ru = 3
      · rw [pseq_3 h3]
        exact ⟨_, rfl⟩
      · rw [pseq_0 (by omega), upL_cons (by omega)]
        exact ⟨_, rfl⟩
theorem pK_facts {st : Int → Int} {p : Int} (hn : 1 ≤ n ∧ n ≤ 8) (hru : 0 ≤ ru ∧ ru ≤ 3) (hre : 0 ≤ re ∧ re ≤ 8) (hp : 0 ≤ p ∧ p < n) : 1 ≤ pK n cap st ru re p ∧ pK n cap st ru re p ≤ n ∧ (pP n cap st ru re p = p → pK n cap st ru re p = 1) := by
  obtain ⟨r, hr⟩ := pseq_head (n := n) (ru := ru) hre.1 hp.2
  have hle := pv_in (n := n) (cap := cap) st (pseq ru re n p)
  have hin := inN_le hn hru hre hp
  have hlen := pv_len n cap st r
  unfold pK pP
  refine ⟨?_, by omega, ?_⟩
  · rw [hr]
    simp only [pv]
    rw [if_neg (by omega)]
    split
    · dsimp only; omega
    · exact Int.le_refl _
  · rw [hr]
    simp only [pv]
    rw [if_neg (by omega)]
    split
    · intro e
      dsimp only at e
      exfalso
      have hrg := pv_rg n cap st r
      rw [e] at hrg
      omega
    · intro _
      rfl
theorem plk_facts {j : Int} (hn : 1 ≤ n ∧ n ≤ 8) (hru : 0 ≤ ru ∧ ru ≤ 3) (hre : 0 ≤ re ∧ re ≤ 8) (hp : 0 ≤ wi j ∧ wi j < n) : 1 ≤ plk n cap ru re wi j ∧ plk n cap ru re wi j ≤ n ∧ (ppl n cap ru re wi j = wi j → plk n cap ru re wi j = 1) := pK_facts hn hru hre hp
end PF
/-! sets of cars as numbers -/
section PB
variable {G G2 : Int → Int}
theorem sum_two (f g : Int → Int) : ∀ k : Nat, sumZ (fun c => f c + g c) k = sumZ f k + sumZ g k
  | 0 => rfl
  | k + 1 => by
    show sumZ (fun c => f c + g c) k + (f k + g k) = sumZ f k + f k + (sumZ g k + g k)
    rw [sum_two f g k]
    omega
def BS (G : Int → Int) (k : Nat) : Prop := ∀ c : Int, 0 ≤ c → c < k → G c = 0 ∨ G c = 2 ^ c.toNat
theorem bit_hi {t i : Int} (h0 : 0 ≤ t) (h : t < 2 ^ i.toNat) : bitZ t i = 0 := by
  unfold bitZ
  rw [Int.ediv_eq_zero_of_lt h0 h]
  rfl
theorem pw_mono {a b : Nat} (h : a ≤ b) : (2 : Int) ^ a ≤ 2 ^ b := by
  have := Nat.pow_le_pow_right (show 0 < 2 by omega) h
  exact_mod_cast this
theorem bs_bits : ∀ k : Nat, k ≤ 9 → BS G k → (0 ≤ sumZ G k ∧ sumZ G k < 2 ^ k) ∧ ∀ i : Int, 0 ≤ i → i < 9 → bitZ (sumZ G k) i = if i < k ∧ G i ≠ 0 then 1 else 0
  | 0, _, _ => ⟨⟨Int.le_refl _, (by decide : (0 : Int) < 2 ^ 0)⟩, fun i h0 h1 => by
    rw [if_neg (by omega)]
    exact bit_hi (Int.le_refl _) (pow_pos2 _)⟩
  | k + 1, hk, h => by
    obtain ⟨⟨a0, a1⟩, a2⟩ := bs_bits k (by omega) (fun c h0 h1 => h c h0 (by omega))
    have hk2 := h (k : Int) (by omega) (by omega)
    rw [Int.toNat_natCast] at hk2
    have p9 := pw_mono (show k ≤ 8 by omega)
    have p8 : (2 : Int) ^ 8 = 256 := by decide
    have e2 : (2 : Int) ^ (k + 1) = 2 * 2 ^ k := by rw [Int.pow_succ, Int.mul_comm]
    have e0 : sumZ G (k + 1) = sumZ G k + G (k : Int) := rfl
    rw [e0, e2]
    rcases hk2 with q | q
    · rw [q, Int.add_zero]
      refine ⟨by omega, fun i h0 h1 => ?_⟩
      rw [a2 i h0 h1]
      by_cases u : i = (k : Int)
      · rw [if_neg (by omega), if_neg (fun x => x.2 (by rw [u]; exact q))]
      · by_cases v : i < k ∧ G i ≠ 0
        · rw [if_pos v, if_pos ⟨by omega, v.2⟩]
        · rw [if_neg v, if_neg (fun x => v ⟨by omega, x.2⟩)]
    · rw [q]
      refine ⟨by omega, fun i h0 h1 => ?_⟩
      have hb := bit_hi (i := (k : Int)) a0 (by rw [Int.toNat_natCast]; exact a1)
      have ha := bit_add (t := sumZ G k) (s := (k : Int)) (k := i) (by omega) (by omega) ⟨h0, h1⟩ hb
      rw [Int.toNat_natCast] at ha
      rw [ha]
      have hp := pow_pos2 k
      by_cases u : i = (k : Int)
      · rw [if_pos u, if_pos ⟨by omega, by rw [u, q]; omega⟩]
      · rw [if_neg u, a2 i h0 h1]
        by_cases v : i < k ∧ G i ≠ 0
        · rw [if_pos v, if_pos ⟨by omega, v.2⟩]
        · rw [if_neg v, if_neg (fun x => v ⟨by omega, x.2⟩)]
theorem bs_rg {k : Nat} (hk : k ≤ 9) (h : BS G k) : 0 ≤ sumZ G k ∧ sumZ G k < 512 := by
  have h1 := (bs_bits k hk h).1
  have h2 := pw_mono hk
  have : (2 : Int) ^ 9 = 512 := by decide
  omega
theorem bs_count {k : Nat} (hk : k ≤ 9) (h : BS G k) : sumZ (bitZ (sumZ G k)) 9 = sumZ (fun i => if G i = 0 then 0 else 1) k := by
  have h1 := bs_bits k hk h
  rw [sumZ_congr (g := fun i => if i < k ∧ G i ≠ 0 then 1 else 0) 9 (fun j a b => h1.2 j a (by omega))]
  have e : 9 = k + (9 - k) := by omega
  rw [e, sum_append, sumZ_0 (9 - k) (fun j a b => if_neg (by omega)), Int.add_zero]
  exact sumZ_congr k (fun j a b => by
    by_cases q : G j = 0
    · rw [if_pos q, if_neg (fun x => x.2 q)]
    · rw [if_neg q, if_pos ⟨by omega, q⟩])
theorem testBit_of {t i : Nat} : t.testBit i = decide (t / 2 ^ i % 2 = 1) := Nat.testBit_eq_decide_div_mod_eq
theorem bs_and {k : Nat} (hk : k ≤ 9) (h : BS G k) (h2 : BS G2 k) (hd : ∀ c : Int, 0 ≤ c → c < k → G c = 0 ∨ G2 c = 0) : zI (sumZ G k) &&& zI (sumZ G2 k) = zI 0 := by
  have a := bs_bits k hk h
  have b := bs_bits k hk h2
  have ra := bs_rg hk h
  have rb := bs_rg hk h2
  have ea : sumZ G k = ((sumZ G k).toNat : Int) := by omega
  have eb : sumZ G2 k = ((sumZ G2 k).toNat : Int) := by omega
  have key : (sumZ G k).toNat &&& (sumZ G2 k).toNat = 0 := by
    apply Nat.eq_of_testBit_eq
    intro i
    rw [Nat.testBit_and, Nat.zero_testBit]
    by_cases hi : i < 9
    · have a1 := a.2 (i : Int) (by omega) (by omega)
      have b1 := b.2 (i : Int) (by omega) (by omega)
      rw [bitZ_nat ra.1, Int.toNat_natCast] at a1
      rw [bitZ_nat rb.1, Int.toNat_natCast] at b1
      rw [testBit_of, testBit_of, ← Bool.decide_and]
      apply decide_eq_false
      intro ⟨u, v⟩
      rw [u] at a1
      rw [v] at b1
      by_cases q : (i : Int) < k
      · rcases hd (i : Int) (by omega) q with w | w
        · rw [if_neg (fun x => x.2 w)] at a1
          exact absurd a1 (by decide)
        · rw [if_neg (fun x => x.2 w)] at b1
          exact absurd b1 (by decide)
      · rw [if_neg (fun x => q x.1)] at a1
        exact absurd a1 (by decide)
    · rw [Nat.testBit_lt_two_pow (x := (sumZ G k).toNat) (i := i) (by
        have h9 := Nat.pow_le_pow_right (show 0 < 2 by omega) (show 9 ≤ i by omega)
        have : (2 : Nat) ^ 9 = 512 := by decide
        omega)]
      rfl
  rw [ea, eb, zI_nI, zI_nI, fa_and, key]
  rfl
theorem zI_or_dis {a b : Int} (h : zI a &&& zI b = zI 0) : zI b ||| zI a = zI (b + a) := by
  have h2 : (zI b).toBitVec &&& (zI a).toBitVec = 0#32 := by
    have := congrArg Int32.toBitVec h
    rw [BitVec.and_comm]
    exact this
  apply Int32.toBitVec_inj.1
  rw [← zI_add]
  exact (BitVec.add_eq_or_of_and_eq_zero _ _ h2).symm
end PB
