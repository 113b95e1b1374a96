/-! the number of orders -/
def chs : Nat → Nat → Nat
  | _, 0 => 1
  | 0, _ + 1 => 0
  | n + 1, k + 1 => chs n k + chs n (k + 1)
def fct : Nat → Nat
  | 0 => 1
  | k + 1 => (k + 1) * fct k
theorem chs_b : ∀ n : Nat, n < 10 → ∀ k : Nat, k < 10 → chs n k * (n + 1) = chs (n + 1) (k + 1) * (k + 1) := by decide +kernel
theorem chs_f : ∀ n : Nat, n < 10 → ∀ k : Nat, k ≤ n → fct (n - k) * chs n k ≤ fct n := by decide +kernel
theorem fct_b : ∀ n : Nat, n < 10 → fct n ≤ 362880 := by decide +kernel
def chZ (a b : Int) : Int := ((chs a.toNat b.toNat : Nat) : Int)
theorem chZ_0 (a : Int) : chZ a 0 = 1 := by
  unfold chZ
  rw [show chs a.toNat (0 : Int).toNat = 1 by cases a.toNat <;> rfl]
  rfl
theorem chZ_s {W a b : Int} (ha : 0 ≤ a ∧ a < 10) (hb : 0 ≤ b ∧ b < 10) : W * chZ a b * (a + 1) = W * chZ (a + 1) (b + 1) * (b + 1) := by
  have h := chs_b a.toNat (by omega) b.toNat (by omega)
  have h2 : chZ a b * (a + 1) = chZ (a + 1) (b + 1) * (b + 1) := by
    unfold chZ
    rw [show (a + 1).toNat = a.toNat + 1 by omega, show (b + 1).toNat = b.toNat + 1 by omega]
    have e1 : a + 1 = ((a.toNat + 1 : Nat) : Int) := by omega
    have e2 : b + 1 = ((b.toNat + 1 : Nat) : Int) := by omega
    rw [e1, e2, ← Int.natCast_mul, ← Int.natCast_mul, h]
  rw [Int.mul_assoc, h2, Int.mul_assoc]
def arW (wi : Int → Int) (ct : Int) : Nat → Int
  | 0 => 1
  | k + 1 => arW wi ct k * chZ (cntB wi ((k : Int) + 1) ct.toNat) (cntB wi ((k : Int) + 1) ct.toNat - cntB wi (k : Int) ct.toNat)
theorem arW_s {wi : Int → Int} {ct i : Int} (h : 0 ≤ i) : arW wi ct (i + 1).toNat = arW wi ct i.toNat * chZ (cntB wi (i + 1) ct.toNat) (cntB wi (i + 1) ct.toNat - cntB wi i ct.toNat) := by
  obtain ⟨j, rfl⟩ := Int.eq_ofNat_of_zero_le h
  have e : ((j : Int) + 1).toNat = j + 1 := by omega
  rw [e, Int.toNat_natCast]
  rfl
/-- a bound: ways and factorials -/
theorem chZ_f {W a b : Int} (hW : 0 ≤ W ∧ W ≤ (fct (a - b).toNat : Int)) (ha : 0 ≤ b ∧ b ≤ a ∧ a < 10) : 0 ≤ W * chZ a b ∧ W * chZ a b ≤ (fct a.toNat : Int) := by
  have h := chs_f a.toNat (by omega) b.toNat (by omega)
  have h2 : (fct (a - b).toNat : Int) * chZ a b ≤ (fct a.toNat : Int) := by
    unfold chZ
    rw [show (a - b).toNat = a.toNat - b.toNat by omega, ← Int.natCast_mul]
    exact Int.ofNat_le.mpr h
  have h3 : 0 ≤ chZ a b := Int.natCast_nonneg _
  exact ⟨Int.mul_nonneg hW.1 h3, Int.le_trans (Int.mul_le_mul_of_nonneg_right hW.2 h3) h2⟩
theorem fctZ_b {a : Int} (h : 0 ≤ a ∧ a < 10) : (fct a.toNat : Int) ≤ 362880 := Int.ofNat_le.mpr (fct_b a.toNat (by omega))
theorem arW_b {wi : Int → Int} {ct : Int} (hc : 0 ≤ ct ∧ ct ≤ 9) (hw : ∀ j : Int, 0 ≤ j → j < ct → 0 ≤ wi j) : ∀ k : Nat, 0 ≤ arW wi ct k ∧ arW wi ct k ≤ (fct (cntB wi (k : Int) ct.toNat).toNat : Int)
  | 0 => by
    show 0 ≤ (1 : Int) ∧ (1 : Int) ≤ (fct (cntB wi 0 ct.toNat).toNat : Int)
    rw [cntB_0 ct.toNat (fun j h0 h1 => hw j h0 (by omega))]
    decide
  | k + 1 => by
    have h := arW_b hc hw k
    have h1 := cntB_rg wi (k : Int) ct.toNat
    have h2 := cntB_rg wi ((k : Int) + 1) ct.toNat
    have h3 := cntB_mono wi (show (k : Int) ≤ (k : Int) + 1 by omega) ct.toNat
    have h4 := chZ_f (W := arW wi ct k) (a := cntB wi ((k : Int) + 1) ct.toNat) (b := cntB wi ((k : Int) + 1) ct.toNat - cntB wi (k : Int) ct.toNat) (by rw [show cntB wi ((k : Int) + 1) ct.toNat - (cntB wi ((k : Int) + 1) ct.toNat - cntB wi (k : Int) ct.toNat) = cntB wi (k : Int) ct.toNat by omega]; exact h) (by omega)
    exact h4

set_option maxHeartbeats 4000000 in
set_option maxRecDepth 100000 in
theorem c_X6_arrangements (l : Launch) (dd : va_G) (cI cJ cC cS : ClassId) (x0 s0 h0 l0 m0 p0 e0 w0 t0 s1 s2 : Nat) (n tl : Int) (cap wi : Int → Int) (ct ru re : Int) (sz : Nat) (hn : 1 ≤ n ∧ n ≤ 8) (hct : 0 ≤ ct ∧ ct ≤ 9) (hcap : ∀ j : Int, 0 ≤ j → j < n → 0 ≤ cap j ∧ cap j ≤ 3) (hwi : ∀ j : Int, 0 ≤ j → j < ct → 0 ≤ wi j ∧ wi j < n) (hru : 0 ≤ ru ∧ ru ≤ 3) (hre : 0 ≤ re ∧ re ≤ 8) : gMi l yX6_arrangements wsX6_arrangements 12 0 0 dd cI cJ cC cS [.ref x0] [kO x0 6 [vI n, .ref s0, .ref h0, .ref l0, .ref m0, .ref p0, .ref e0, .ref w0, .ref t0, vI tl], kO s0 5 [.ref s1, .ref s2, vI ct, vI ru, vI re], kI cI s1 8 cap, kI cI s2 9 wi] sz (fun (z : Int) (_ : Unit) => z = arW wi ct n.toNat) (fun (_ : Unit) => [kO x0 6 [vI n, .ref s0, .ref h0, .ref l0, .ref m0, .ref p0, .ref e0, .ref w0, .ref t0, vI tl], kO s0 5 [.ref s1, .ref s2, vI ct, vI ru, vI re], kI cI s1 8 cap, kI cI s2 9 wi]) := by
  refine gMi_of (cc := cX6_arrangements) (maxL := 6) (ret := (some .int)) (by decide) rfl (Nat.le_of_ble_eq_true rfl) ?_
  intro p e s m args below meth c A Q hQ hx hb hr hts hown hlocks hnm hml H locs hP hK hD hA hS ls hl
  have hi6 : ∀ w ∈ wsX60, w ∈ wsX6_arrangements := fun _ h => (List.mem_cons_of_mem _ (List.mem_append_left _ (List.mem_append_right _ h)))
  have hl : lv_has ls 6 [(0, .ref x0)] := hl
  refine z_iconst hx hb dX6_arrangements_0 ?_
  refine lv_istore_n (lv' := [(1, vI 1), (0, .ref x0)]) hx hb dX6_arrangements_1 rfl hl (by decide) rfl (fun ls hl => ?_)
  refine z_iconst hx hb dX6_arrangements_2 ?_
  refine lv_istore_n (lv' := [(2, vI 0), (1, vI 1), (0, .ref x0)]) hx hb dX6_arrangements_3 rfl hl (by decide) rfl (fun ls hl => ?_)
  refine z_iconst hx hb dX6_arrangements_4 ?_
  refine lv_istore_n (lv' := [(3, vI 0), (2, vI 0), (1, vI 1), (0, .ref x0)]) hx hb dX6_arrangements_5 rfl hl (by decide) rfl (fun ls hl => ?_)
  have L6 : ∀ (nn : Nat) (i : Int) (b : Int) (q9 : Int) (H : Heap) (locs : List Loc) (ls : Array Slot), ((n + 1 - i).toNat) = nn → (0 ≤ i ∧ i ≤ n) → (b = arW wi ct i.toNat) → (q9 = cntB wi i ct.toNat) → va_P dd vwCl [kO x0 6 [vI n, .ref s0, .ref h0, .ref l0, .ref m0, .ref p0, .ref e0, .ref w0, .ref t0, vI tl], kO s0 5 [.ref s1, .ref s2, vI ct, vI ru, vI re], kI cI s1 8 cap, kI cI s2 9 wi] H → va_D A [kO x0 6 [vI n, .ref s0, .ref h0, .ref l0, .ref m0, .ref p0, .ref e0, .ref w0, .ref t0, vI tl], kO s0 5 [.ref s1, .ref s2, vI ct, vI ru, vI re], kI cI s1 8 cap, kI cI s2 9 wi] → va_S A s.heap H locs → lv_has ls 6 [(1, vI b), (2, vI q9), (3, vI i), (0, .ref x0)] → W p l e (gR 12 0 0) s m args below meth c H locs 0 0 Q (F0 m 6 ls []) := by
    intro nn
    induction nn using Nat.strongRecOn with
    | ind nn L6i =>
    intro i b q9 H locs ls hmeas hi hbb hq9 hP hD hS hl
    refine lv_iload_n hx hb dX6_arrangements_6 rfl (lv_at hl 2 rfl) ?_
    refine lv_aload_n hx hb dX6_arrangements_7 rfl (lv_at hl 3 rfl) ?_
    refine va_get (D := dd) (ci := 6) (v := vI n) (C := RX6) (T := TX6) (N := 10) hx hb hts hi6 hown hK hP 0 rfl rfl 0 (by decide) (hts _ (List.mem_cons_of_mem _ (List.mem_append_left _ (List.mem_append_left _ (List.mem_of_getElem? (i := 0) rfl))))) (fun _ h9 => h9) rfl dX6_arrangements_8 ?_
    refine z_icmp_ge (tgt := 56) hx hb dX6_arrangements_11 (by decide) (by omega) (fun c11 => ?_) (fun c11 => ?_)
    · skip
      refine lv_iload_n hx hb dX6_arrangements_56 rfl (lv_at hl 0 rfl) ?_
      subst hQ
      refine z_iret (z := b) hx hb hr hlocks dX6_arrangements_57 () hK hS ⟨by omega, by omega⟩ hP hD ?_
      rw [hbb, show i = n by omega]
    · skip
      refine lv_aload_n hx hb dX6_arrangements_14 rfl (lv_at hl 3 rfl) ?_
      refine va_get (D := dd) (ci := 6) (v := .ref s0) (C := RX6) (T := TX6) (N := 10) hx hb hts hi6 hown hK hP 0 rfl rfl 1 (by decide) (hts _ (List.mem_cons_of_mem _ (List.mem_append_left _ (List.mem_append_left _ (List.mem_of_getElem? (i := 1) rfl))))) (fun _ h9 => h9) rfl dX6_arrangements_15 ?_
      refine lv_iload_n hx hb dX6_arrangements_18 rfl (lv_at hl 2 rfl) ?_
      refine g_callVi (own := RX6) (n := 1) (mc := 0) (ms := 0) (As := [vI i]) (rest := []) (wc := [kO s0 5 [.ref s1, .ref s2, vI ct, vI ru, vI re], kI cI s1 8 cap, kI cI s2 9 wi]) (wr := [kO x0 6 [vI n, .ref s0, .ref h0, .ref l0, .ref m0, .ref p0, .ref e0, .ref w0, .ref t0, vI tl]]) hx hb hml hown hts hK hP hD hS hA [1, 2, 3] [0] rfl rfl (by decide) (by decide) 5 0 rfl rfl (c_X5_countOfWishes l dd cI cJ cC cS s0 s1 s2 cap wi ct ru re i H.size  (by first | assumption | omega) (fun j h0 h1 => by have := hwi j h0 h1; omega) (by first | assumption | omega)) gX6_arrangements_X5_countOfWishes rfl (by decide +kernel) (by decide) (by decide) (by decide) (by decide) rfl hl.1 rfl (Nat.le_of_ble_eq_true rfl) dX6_arrangements_19 (fun z_1 u_2 H locs hp19 hP hD hS => ?_)
      subst z_1
      have hP : va_P dd vwCl [kO x0 6 [vI n, .ref s0, .ref h0, .ref l0, .ref m0, .ref p0, .ref e0, .ref w0, .ref t0, vI tl], kO s0 5 [.ref s1, .ref s2, vI ct, vI ru, vI re], kI cI s1 8 cap, kI cI s2 9 wi] H := hP
      have hD : va_D A [kO x0 6 [vI n, .ref s0, .ref h0, .ref l0, .ref m0, .ref p0, .ref e0, .ref w0, .ref t0, vI tl], kO s0 5 [.ref s1, .ref s2, vI ct, vI ru, vI re], kI cI s1 8 cap, kI cI s2 9 wi] := hD
      have hB1 := cntB_rg wi i ct.toNat
      have hB2 := cntB_rg wi (i + 1) ct.toNat
      have hB3 := cntB_mono wi (show i ≤ i + 1 by omega) ct.toNat
      have hW1 := arW_b hct (fun j h0 h1 => (hwi j h0 h1).1) i.toNat
      rw [show ((i.toNat : Nat) : Int) = i by omega] at hW1
      refine lv_istore (lv' := [(4, vI (cntB wi (i + 1) ct.toNat - cntB wi i ct.toNat)), (1, vI b), (2, vI q9), (3, vI i), (0, .ref x0)]) hx hb dX6_arrangements_22 hl (by decide) rfl (fun ls hl => ?_)
      refine z_iconst hx hb dX6_arrangements_24 ?_
      refine lv_istore (lv' := [(5, vI 1), (4, vI (cntB wi (i + 1) ct.toNat - cntB wi i ct.toNat)), (1, vI b), (2, vI q9), (3, vI i), (0, .ref x0)]) hx hb dX6_arrangements_25 hl (by decide) rfl (fun ls hl => ?_)
      have L27 : ∀ (nn : Nat) (k9 : Int) (b2 : Int) (q2 : Int) (H : Heap) (locs : List Loc) (ls : Array Slot), ((cntB wi (i + 1) ct.toNat + 1 - (cntB wi i ct.toNat) + 1 - k9).toNat) = nn → (1 ≤ k9 ∧ k9 ≤ cntB wi (i + 1) ct.toNat - (cntB wi i ct.toNat) + 1) → (b2 = arW wi ct i.toNat * chZ ((cntB wi i ct.toNat) + (k9 - 1)) (k9 - 1)) → (q2 = (cntB wi i ct.toNat) + (k9 - 1)) → va_P dd vwCl [kO x0 6 [vI n, .ref s0, .ref h0, .ref l0, .ref m0, .ref p0, .ref e0, .ref w0, .ref t0, vI tl], kO s0 5 [.ref s1, .ref s2, vI ct, vI ru, vI re], kI cI s1 8 cap, kI cI s2 9 wi] H → va_D A [kO x0 6 [vI n, .ref s0, .ref h0, .ref l0, .ref m0, .ref p0, .ref e0, .ref w0, .ref t0, vI tl], kO s0 5 [.ref s1, .ref s2, vI ct, vI ru, vI re], kI cI s1 8 cap, kI cI s2 9 wi] → va_S A s.heap H locs → lv_has ls 6 [(1, vI b2), (2, vI q2), (5, vI k9), (4, vI (cntB wi (i + 1) ct.toNat - cntB wi i ct.toNat)), (3, vI i), (0, .ref x0)] → W p l e (gR 12 0 0) s m args below meth c H locs 0 0 Q (F0 m 27 ls []) := by
        intro nn
        induction nn using Nat.strongRecOn with
        | ind nn L27i =>
        intro k9 b2 q2 H locs ls hmeas hk9 hb2 hq2 hP hD hS hl
        refine lv_iload hx hb dX6_arrangements_27 (lv_at hl 2 rfl) ?_
        refine lv_iload hx hb dX6_arrangements_29 (lv_at hl 3 rfl) ?_
        refine z_icmp_gt (tgt := 50) hx hb dX6_arrangements_31 (by decide) (by omega) (fun c31 => ?_) (fun c31 => ?_)
        · skip
          refine z_iinc (a := i) (z := (i + 1)) (lv' := [(3, vI (i + 1)), (1, vI b2), (2, vI q2), (5, vI k9), (4, vI (cntB wi (i + 1) ct.toNat - cntB wi i ct.toNat)), (0, .ref x0)]) hx hb dX6_arrangements_50 hl (k := 4) rfl rfl (by decide) rfl (fun ls hl => ?_)
          refine lv_goto (tgt := 6) hx hb dX6_arrangements_53 (by decide) ?_
          exact L6i _ (by omega) (i + 1) b2 q2 H locs ls rfl (by omega) (by rw [arW_s (by omega), hb2, show k9 - 1 = cntB wi (i + 1) ct.toNat - cntB wi i ct.toNat by omega, show cntB wi i ct.toNat + (cntB wi (i + 1) ct.toNat - cntB wi i ct.toNat) = cntB wi (i + 1) ct.toNat by omega]) (by omega) hP hD hS (lv_sub hl [1, 2, 0, 5] rfl)
        · skip
          refine z_iinc (a := q2) (z := (q2 + 1)) (lv' := [(2, vI (q2 + 1)), (1, vI b2), (5, vI k9), (4, vI (cntB wi (i + 1) ct.toNat - cntB wi i ct.toNat)), (3, vI i), (0, .ref x0)]) hx hb dX6_arrangements_34 hl (k := 1) rfl rfl (by decide) rfl (fun ls hl => ?_)
          have hC1 := chZ_s (W := arW wi ct i.toNat) (a := (cntB wi i ct.toNat) + (k9 - 1)) (b := k9 - 1) (by omega) (by omega)
          have hC2 := chZ_f (W := arW wi ct i.toNat) (a := (cntB wi i ct.toNat) + (k9 - 1)) (b := k9 - 1) (by rw [show (cntB wi i ct.toNat) + (k9 - 1) - (k9 - 1) = (cntB wi i ct.toNat) by omega]; exact hW1) (by omega)
          have hC3 := fctZ_b (a := (cntB wi i ct.toNat) + (k9 - 1)) (by omega)
          have hC4 : b2 * (q2 + 1) = arW wi ct i.toNat * chZ ((cntB wi i ct.toNat) + (k9 - 1) + 1) (k9 - 1 + 1) * k9 := by
            rw [hb2, hq2, hC1, show k9 - 1 + 1 = k9 by omega]
          have hC5 : 0 ≤ b2 * (q2 + 1) ∧ b2 * (q2 + 1) ≤ 362880 * 10 := by
            rw [← hb2] at hC2
            exact ⟨Int.mul_nonneg hC2.1 (by omega), Int.mul_le_mul (by omega) (by omega) (by omega) (by omega)⟩
          refine lv_iload_n hx hb dX6_arrangements_37 rfl (lv_at hl 1 rfl) ?_
          refine lv_iload_n hx hb dX6_arrangements_38 rfl (lv_at hl 0 rfl) ?_
          refine z_imul (z := (b2 * (q2 + 1))) hx hb rfl dX6_arrangements_39 ?_
          refine lv_iload hx hb dX6_arrangements_40 (lv_at hl 2 rfl) ?_
          refine z_idiv (z := (arW wi ct i.toNat * chZ ((cntB wi i ct.toNat) + (k9 - 1) + 1) (k9 - 1 + 1))) hx hb (by omega) (by rw [hC4]; exact Int.mul_tdiv_cancel _ (by omega)) dX6_arrangements_42 ?_
          refine lv_istore_n (lv' := [(1, vI (arW wi ct i.toNat * chZ ((cntB wi i ct.toNat) + (k9 - 1) + 1) (k9 - 1 + 1))), (2, vI (q2 + 1)), (5, vI k9), (4, vI (cntB wi (i + 1) ct.toNat - cntB wi i ct.toNat)), (3, vI i), (0, .ref x0)]) hx hb dX6_arrangements_43 rfl hl (by decide) rfl (fun ls hl => ?_)
          refine z_iinc (a := k9) (z := (k9 + 1)) (lv' := [(5, vI (k9 + 1)), (1, vI (arW wi ct i.toNat * chZ ((cntB wi i ct.toNat) + (k9 - 1) + 1) (k9 - 1 + 1))), (2, vI (q2 + 1)), (4, vI (cntB wi (i + 1) ct.toNat - cntB wi i ct.toNat)), (3, vI i), (0, .ref x0)]) hx hb dX6_arrangements_44 hl (k := 2) rfl rfl (by decide) rfl (fun ls hl => ?_)
          refine lv_goto (tgt := 27) hx hb dX6_arrangements_47 (by decide) ?_
          exact L27i _ (by omega) (k9 + 1) (arW wi ct i.toNat * chZ ((cntB wi i ct.toNat) + (k9 - 1) + 1) (k9 - 1 + 1)) (q2 + 1) H locs ls rfl (by omega) (by rw [show k9 + 1 - 1 = k9 - 1 + 1 by omega, ← Int.add_assoc]) (by omega) hP hD hS (lv_sub hl [1, 2, 0, 3, 4, 5] rfl)
      exact L27 _ 1 b q9 H locs ls rfl (by omega) (by rw [show (1 : Int) - 1 = 0 by omega, chZ_0, Int.mul_one]; exact hbb) (by omega) hP hD hS (lv_sub hl [2, 3, 0, 1, 4, 5] rfl)
  exact L6 _ 0 1 0 H locs ls rfl (by omega) (rfl) ((cntB_0 _ (fun j h0 h1 => (hwi j h0 (by omega)).1)).symm) hP hD hS (lv_sub hl [2, 1, 0, 3] rfl)
