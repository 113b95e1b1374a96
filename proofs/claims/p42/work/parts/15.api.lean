/-! the whole list parked -/
theorem pv_congr2 {n : Int} {cap cap2 st st2 : Int → Int} (hc : ∀ j : Int, 0 ≤ j → j < n → cap j = cap2 j) (h : ∀ j : Int, 0 ≤ j → j < n → st j = st2 j) : ∀ L : List Int, pv n cap st L = pv n cap2 st2 L
  | [] => rfl
  | s :: r => by
    simp only [pv]
    rw [pv_congr2 hc h r]
    by_cases q : s < 0 ∨ n ≤ s
    · rw [if_pos q, if_pos q]
    · rw [if_neg q, if_neg q, h s (by omega) (by omega), hc s (by omega) (by omega)]
theorem pP_congr {n : Int} {cap cap2 st st2 : Int → Int} {ru re p : Int} (hc : ∀ j : Int, 0 ≤ j → j < n → cap j = cap2 j) (h : ∀ j : Int, 0 ≤ j → j < n → st j = st2 j) : pP n cap st ru re p = pP n cap2 st2 ru re p := by
  unfold pP
  rw [pv_congr2 hc h]
theorem pK_congr {n : Int} {cap cap2 st st2 : Int → Int} {ru re p : Int} (hc : ∀ j : Int, 0 ≤ j → j < n → cap j = cap2 j) (h : ∀ j : Int, 0 ≤ j → j < n → st j = st2 j) : pK n cap st ru re p = pK n cap2 st2 ru re p := by
  unfold pK
  rw [pv_congr2 hc h]
/-- how many cars stand in each space behind the first k -/
def pst (n : Int) (cap : Int → Int) (ru re : Int) (wi : Int → Int) : Nat → Int → Int
  | 0 => zeroZ
  | k + 1 => stp (pst n cap ru re wi k) (pP n cap (pst n cap ru re wi k) ru re (wi (k : Int)))
def ppl (n : Int) (cap : Int → Int) (ru re : Int) (wi : Int → Int) (j : Int) : Int := pP n cap (pst n cap ru re wi j.toNat) ru re (wi j)
def plk (n : Int) (cap : Int → Int) (ru re : Int) (wi : Int → Int) (j : Int) : Int := pK n cap (pst n cap ru re wi j.toNat) ru re (wi j)
theorem pst_s {n : Int} {cap : Int → Int} {ru re : Int} {wi : Int → Int} {i : Int} (h : 0 ≤ i) : pst n cap ru re wi (i + 1).toNat = stp (pst n cap ru re wi i.toNat) (ppl n cap ru re wi i) := by
  obtain ⟨j, rfl⟩ := Int.eq_ofNat_of_zero_le h
  have e : ((j : Int) + 1).toNat = j + 1 := by omega
  unfold ppl
  rw [e, Int.toNat_natCast]
  rfl
theorem pst_rg {n : Int} {cap : Int → Int} {ru re : Int} {wi : Int → Int} (hc : ∀ j : Int, 0 ≤ j → j < n → 0 ≤ cap j ∧ cap j ≤ 3) : ∀ k : Nat, ∀ j : Int, 0 ≤ j → j < n → 0 ≤ pst n cap ru re wi k j ∧ pst n cap ru re wi k j ≤ 3
  | 0 => fun j _ _ => ⟨Int.le_refl _, (by decide : (0 : Int) ≤ 3)⟩
  | k + 1 => stp_rg hc (pst_rg hc k)
theorem ppl_rg (n : Int) (cap : Int → Int) (ru re : Int) (wi : Int → Int) (j : Int) : ppl n cap ru re wi j = -1 ∨ (0 ≤ ppl n cap ru re wi j ∧ ppl n cap ru re wi j < n) := by
  rcases pP_rg n cap (pst n cap ru re wi j.toNat) ru re (wi j) with h | ⟨h1, h2, _⟩
  · exact Or.inl h
  · exact Or.inr ⟨h1, h2⟩
theorem pst_congr {n : Int} {cap : Int → Int} {ru re : Int} {wi wj : Int → Int} : ∀ k : Nat, (∀ j : Int, 0 ≤ j → j < k → wi j = wj j) → pst n cap ru re wi k = pst n cap ru re wj k
  | 0, _ => rfl
  | k + 1, h => by
    show stp (pst n cap ru re wi k) (pP n cap (pst n cap ru re wi k) ru re (wi (k : Int))) = stp (pst n cap ru re wj k) (pP n cap (pst n cap ru re wj k) ru re (wj (k : Int)))
    rw [pst_congr k (fun j h0 h1 => h j h0 (by omega)), h k (by omega) (by omega)]
theorem ppl_congr {n : Int} {cap : Int → Int} {ru re : Int} {wi wj : Int → Int} {j : Int} (h0 : 0 ≤ j) (h : ∀ i : Int, 0 ≤ i → i ≤ j → wi i = wj i) : ppl n cap ru re wi j = ppl n cap ru re wj j := by
  unfold ppl
  rw [pst_congr j.toNat (fun i a b => h i a (by omega)), h j h0 (by omega)]
theorem plk_congr {n : Int} {cap : Int → Int} {ru re : Int} {wi wj : Int → Int} {j : Int} (h0 : 0 ≤ j) (h : ∀ i : Int, 0 ≤ i → i ≤ j → wi i = wj i) : plk n cap ru re wi j = plk n cap ru re wj j := by
  unfold plk
  rw [pst_congr j.toNat (fun i a b => h i a (by omega)), h j h0 (by omega)]
theorem cpZ_lt {f g : Int → Int} {n j : Int} (h : j < n) : cpZ f g n j = f j := if_pos h
/-- what a parked lot shows -/
def PKD (n : Int) (cap : Int → Int) (ru re : Int) (wi : Int → Int) (k : Int) (lwi lpl llk : Int → Int) : Prop := ∀ j : Int, 0 ≤ j → j < k → lpl j = ppl n cap ru re wi j ∧ llk j = plk n cap ru re wi j ∧ lwi j = wi j
/-- n to the power, as far as 50000 -/
def powZ (n : Int) : Nat → Int
  | 0 => 1
  | k + 1 => powZ n k * n
theorem powZ_s {n i : Int} (h : 0 ≤ i) : powZ n (i + 1).toNat = powZ n i.toNat * n := by
  obtain ⟨j, rfl⟩ := Int.eq_ofNat_of_zero_le h
  have e : ((j : Int) + 1).toNat = j + 1 := by omega
  rw [e, Int.toNat_natCast]
  rfl
theorem powZ_rg {n : Int} (h : 1 ≤ n ∧ n ≤ 8) : ∀ k : Nat, 1 ≤ powZ n k ∧ powZ n k ≤ 8 ^ k
  | 0 => (by decide : (1 : Int) ≤ 1 ∧ (1 : Int) ≤ 8 ^ 0)
  | k + 1 => by
    obtain ⟨h1, h2⟩ := powZ_rg h k
    show 1 ≤ powZ n k * n ∧ powZ n k * n ≤ 8 ^ (k + 1)
    rw [Int.pow_succ]
    have a1 : 1 * 1 ≤ powZ n k * n := Int.mul_le_mul h1 h.1 (by omega) (by omega)
    have a2 : powZ n k * n ≤ 8 ^ k * 8 := Int.mul_le_mul h2 h.2 (by omega) (by omega)
    exact ⟨by omega, a2⟩
theorem powZ_9 {n : Int} (h : 1 ≤ n ∧ n ≤ 8) {k : Nat} (hk : k ≤ 9) : 1 ≤ powZ n k ∧ powZ n k ≤ 134217728 := by
  have h1 := powZ_rg h k
  have h2 : ∀ k : Nat, k ≤ 9 → (8 : Int) ^ k ≤ 134217728 := by decide
  have := h2 k hk
  omega

set_option maxHeartbeats 4000000 in
set_option maxRecDepth 100000 in
theorem c_X6_isUpTo (l : Launch) (dd : va_G) (cI cJ cC cS : ClassId) (v la : Int) (sz : Nat) (hgv : rg v) (hgla : rg la) : gMi l yX6_isUpTo wsX6_isUpTo 1 0 0 dd cI cJ cC cS [vI v, vI la] [] sz (fun (z : Int) (_ : Unit) => ((0 ≤ v) ∧ (v ≤ la) ∧ z = 1) ∨ ((v < 0 ∨ la < v) ∧ z = 0)) (fun (_ : Unit) => []) := by
  refine gMi_of (cc := cX6_isUpTo) (maxL := 2) (ret := (some .boolean)) (by decide) rfl (Nat.le_of_ble_eq_true rfl) ?_
  intro p e s m args below meth c A Q hQ hx hb hr hts hown hlocks hnm hml H locs hP hK hD hA hS ls hl
  have hl : lv_has ls 2 [(0, vI v), (1, vI la)] := hl
  refine lv_iload_n hx hb dX6_isUpTo_0 rfl (lv_at hl 0 rfl) ?_
  refine z_if_lt (tgt := 13) hx hb dX6_isUpTo_1 (by decide) (by omega) (fun c1 => ?_) (fun c1 => ?_)
  · skip
    refine z_iconst hx hb dX6_isUpTo_13 ?_
    subst hQ
    refine z_zret (z := 0) hx hb hr hlocks dX6_isUpTo_14 (by omega) () hK hS ⟨by omega, by omega⟩ hP hD ?_
    first | exact Or.inl ⟨by omega, by omega, rfl⟩ | exact Or.inr ⟨by omega, rfl⟩
  · skip
    refine lv_iload_n hx hb dX6_isUpTo_4 rfl (lv_at hl 0 rfl) ?_
    refine lv_iload_n hx hb dX6_isUpTo_5 rfl (lv_at hl 1 rfl) ?_
    refine z_icmp_gt (tgt := 13) hx hb dX6_isUpTo_6 (by decide) (by omega) (fun c6 => ?_) (fun c6 => ?_)
    · skip
      refine z_iconst hx hb dX6_isUpTo_13 ?_
      subst hQ
      refine z_zret (z := 0) hx hb hr hlocks dX6_isUpTo_14 (by omega) () hK hS ⟨by omega, by omega⟩ hP hD ?_
      first | exact Or.inl ⟨by omega, by omega, rfl⟩ | exact Or.inr ⟨by omega, rfl⟩
    · skip
      refine z_iconst hx hb dX6_isUpTo_9 ?_
      refine lv_goto (tgt := 14) hx hb dX6_isUpTo_10 (by decide) ?_
      subst hQ
      refine z_zret (z := 1) hx hb hr hlocks dX6_isUpTo_14 (by omega) () hK hS ⟨by omega, by omega⟩ hP hD ?_
      first | exact Or.inl ⟨by omega, by omega, rfl⟩ | exact Or.inr ⟨by omega, rfl⟩

set_option maxHeartbeats 4000000 in
set_option maxRecDepth 100000 in
theorem c_X6_isCountable (l : Launch) (dd : va_G) (cI cJ cC cS : ClassId) (x0 s0 h0 l0 m0 p0 e0 w0 t0 : Nat) (n tl : Int) (k : Int) (sz : Nat) (hn : 1 ≤ n ∧ n ≤ 8) (hk : 0 ≤ k ∧ k ≤ 9) : gMi l yX6_isCountable wsX6_isCountable 1 0 0 dd cI cJ cC cS [.ref x0, vI k] [kO x0 6 [vI n, .ref s0, .ref h0, .ref l0, .ref m0, .ref p0, .ref e0, .ref w0, .ref t0, vI tl]] sz (fun (z : Int) (_ : Unit) => ((powZ n k.toNat ≤ 50000) ∧ z = 1) ∨ ((50000 < powZ n k.toNat) ∧ z = 0)) (fun (_ : Unit) => [kO x0 6 [vI n, .ref s0, .ref h0, .ref l0, .ref m0, .ref p0, .ref e0, .ref w0, .ref t0, vI tl]]) := by
  refine gMi_of (cc := cX6_isCountable) (maxL := 4) (ret := (some .boolean)) (by decide) rfl (Nat.le_of_ble_eq_true rfl) ?_
  intro p e s m args below meth c A Q hQ hx hb hr hts hown hlocks hnm hml H locs hP hK hD hA hS ls hl
  have hi6 : ∀ w ∈ wsX60, w ∈ wsX6_isCountable := fun _ h => (List.mem_cons_of_mem _ (List.mem_append_right _ h))
  have hl : lv_has ls 4 [(0, .ref x0), (1, vI k)] := hl
  refine z_iconst hx hb dX6_isCountable_0 ?_
  refine lv_istore_n (lv' := [(2, vI 1), (0, .ref x0), (1, vI k)]) hx hb dX6_isCountable_1 rfl hl (by decide) rfl (fun ls hl => ?_)
  refine z_iconst hx hb dX6_isCountable_2 ?_
  refine lv_istore_n (lv' := [(3, vI 0), (2, vI 1), (0, .ref x0), (1, vI k)]) hx hb dX6_isCountable_3 rfl hl (by decide) rfl (fun ls hl => ?_)
  have L4 : ∀ (nn : Nat) (i : Int) (b : Int) (H : Heap) (locs : List Loc) (ls : Array Slot), ((k + 1 - i).toNat) = nn → (0 ≤ i ∧ i ≤ k) → (b = powZ n i.toNat) → va_P dd vwCl [kO x0 6 [vI n, .ref s0, .ref h0, .ref l0, .ref m0, .ref p0, .ref e0, .ref w0, .ref t0, vI tl]] H → va_D A [kO x0 6 [vI n, .ref s0, .ref h0, .ref l0, .ref m0, .ref p0, .ref e0, .ref w0, .ref t0, vI tl]] → va_S A s.heap H locs → lv_has ls 4 [(2, vI b), (3, vI i), (0, .ref x0), (1, vI k)] → W p l e (gR 1 0 0) s m args below meth c H locs 0 0 Q (F0 m 4 ls []) := by
    intro nn
    induction nn using Nat.strongRecOn with
    | ind nn L4i =>
    intro i b H locs ls hmeas hi hbb hP hD hS hl
    refine lv_iload_n hx hb dX6_isCountable_4 rfl (lv_at hl 1 rfl) ?_
    refine lv_iload_n hx hb dX6_isCountable_5 rfl (lv_at hl 3 rfl) ?_
    refine z_icmp_ge (tgt := 22) hx hb dX6_isCountable_6 (by decide) (by omega) (fun c6 => ?_) (fun c6 => ?_)
    · skip
      have hp9 := powZ_9 hn (k := k.toNat) (by omega)
      rw [show i = k by omega] at hbb
      refine lv_iload_n hx hb dX6_isCountable_22 rfl (lv_at hl 0 rfl) ?_
      refine W.ldc (own := RX6) (v := (50000)) hx hb hown (hts _ (List.mem_cons_of_mem _ (List.mem_append_left _ (List.mem_of_getElem? (i := 1) rfl)))) rfl dX6_isCountable_23 ?_
      refine z_eq (g2 := F0 m 25 ls (vI 50000 :: vI b :: [])) rfl ?_
      refine z_icmp_gt (tgt := 32) hx hb dX6_isCountable_25 (by decide) (by omega) (fun c25 => ?_) (fun c25 => ?_)
      · skip
        refine z_iconst hx hb dX6_isCountable_32 ?_
        subst hQ
        refine z_zret (z := 0) hx hb hr hlocks dX6_isCountable_33 (by omega) () hK hS ⟨by omega, by omega⟩ hP hD ?_
        rw [← hbb]
        first | exact Or.inl ⟨by omega, rfl⟩ | exact Or.inr ⟨by omega, rfl⟩
      · skip
        refine z_iconst hx hb dX6_isCountable_28 ?_
        refine lv_goto (tgt := 33) hx hb dX6_isCountable_29 (by decide) ?_
        subst hQ
        refine z_zret (z := 1) hx hb hr hlocks dX6_isCountable_33 (by omega) () hK hS ⟨by omega, by omega⟩ hP hD ?_
        rw [← hbb]
        first | exact Or.inl ⟨by omega, rfl⟩ | exact Or.inr ⟨by omega, rfl⟩
    · skip
      refine lv_iload_n hx hb dX6_isCountable_9 rfl (lv_at hl 0 rfl) ?_
      refine lv_aload_n hx hb dX6_isCountable_10 rfl (lv_at hl 2 rfl) ?_
      refine va_get (D := dd) (ci := 6) (v := vI n) (C := RX6) (T := TX6) (N := 10) hx hb hts hi6 hown hK hP 0 rfl rfl 0 (by decide) (hts _ (List.mem_cons_of_mem _ (List.mem_append_left _ (List.mem_of_getElem? (i := 0) rfl)))) (fun _ h9 => h9) rfl dX6_isCountable_11 ?_
      refine z_imul (z := (b * n)) hx hb rfl dX6_isCountable_14 ?_
      refine lv_istore_n (lv' := [(2, vI (b * n)), (3, vI i), (0, .ref x0), (1, vI k)]) hx hb dX6_isCountable_15 rfl hl (by decide) rfl (fun ls hl => ?_)
      refine z_iinc (a := i) (z := (i + 1)) (lv' := [(3, vI (i + 1)), (2, vI (b * n)), (0, .ref x0), (1, vI k)]) hx hb dX6_isCountable_16 hl (k := 1) rfl rfl (by decide) rfl (fun ls hl => ?_)
      refine lv_goto (tgt := 4) hx hb dX6_isCountable_19 (by decide) ?_
      exact L4i _ (by omega) (i + 1) (b * n) H locs ls rfl (by omega) (by rw [powZ_s (by omega), hbb]) hP hD hS (lv_sub hl [1, 0, 2, 3] rfl)
  exact L4 _ 0 1 H locs ls rfl (by omega) (rfl) hP hD hS (lv_sub hl [1, 0, 2, 3] rfl)

set_option maxHeartbeats 4000000 in
set_option maxRecDepth 100000 in
theorem c_X6_parkAll (l : Launch) (dd : va_G) (cI cJ cC cS : ClassId) (x0 s0 h0 l0 m0 p0 e0 w0 t0 s1 s2 l1 l2 l3 l4 l5 : Nat) (n tl : Int) (cap wi : Int → Int) (ct ru re : Int) (lru lre lar lfi : Int) (lcap lst lwi lpl llk : Int → Int) (sz : Nat) (hn : 1 ≤ n ∧ n ≤ 8) (hct : 0 ≤ ct ∧ ct ≤ 9) (hcap : ∀ j : Int, 0 ≤ j → j < n → 0 ≤ cap j ∧ cap j ≤ 3) (hwi : ∀ j : Int, 0 ≤ j → j < ct → 0 ≤ wi j ∧ wi j < n) (hru : 0 ≤ ru ∧ ru ≤ 3) (hre : 0 ≤ re ∧ re ≤ 8) : gMv l yX6_parkAll wsX6_parkAll 5 0 0 dd cI cJ cC cS [.ref x0] [kO x0 6 [vI n, .ref s0, .ref h0, .ref l0, .ref m0, .ref p0, .ref e0, .ref w0, .ref t0, vI tl], kO s0 5 [.ref s1, .ref s2, vI ct, vI ru, vI re], kI cI s1 8 cap, kI cI s2 9 wi, kO l0 1 [vI n, .ref l1, .ref l2, .ref l3, .ref l4, .ref l5, vI lru, vI lre, vI lar, vI lfi], kI cI l1 8 lcap, kI cI l2 8 lst, kI cI l3 9 lwi, kI cI l4 9 lpl, kI cI l5 9 llk] sz (fun (u : Int × (Int → Int) × (Int → Int) × (Int → Int) × (Int → Int)) => PKD n cap ru re wi ct u.2.2.1 u.2.2.2.1 u.2.2.2.2) (fun (u : Int × (Int → Int) × (Int → Int) × (Int → Int) × (Int → Int)) => [kO x0 6 [vI n, .ref s0, .ref h0, .ref l0, .ref m0, .ref p0, .ref e0, .ref w0, .ref t0, vI tl], kO s0 5 [.ref s1, .ref s2, vI ct, vI ru, vI re], kI cI s1 8 cap, kI cI s2 9 wi, kO l0 1 [vI n, .ref l1, .ref l2, .ref l3, .ref l4, .ref l5, vI ru, vI re, vI ct, vI u.1], kI cI l1 8 (cpZ cap lcap n), kI cI l2 8 u.2.1, kI cI l3 9 u.2.2.1, kI cI l4 9 u.2.2.2.1, kI cI l5 9 u.2.2.2.2]) := by
  refine gMv_of (cc := cX6_parkAll) (maxL := 2) (ret := none) (by decide) rfl (Nat.le_of_ble_eq_true rfl) ?_
  intro p e s m args below meth c A Q hQ hx hb hr hts hown hlocks hnm hml H locs hP hK hD hA hS ls hl
  have hi5 : ∀ w ∈ wsX50, w ∈ wsX6_parkAll := fun _ h => (List.mem_cons_of_mem _ (List.mem_append_left _ (List.mem_append_right _ h)))
  have hi6 : ∀ w ∈ wsX60, w ∈ wsX6_parkAll := fun _ h => (List.mem_cons_of_mem _ (List.mem_append_left _ (List.mem_append_left _ (List.mem_append_right _ h))))
  have hl : lv_has ls 2 [(0, .ref x0)] := hl
  refine lv_aload_n hx hb dX6_parkAll_0 rfl (lv_at hl 0 rfl) ?_
  refine va_get (D := dd) (ci := 6) (v := .ref l0) (C := RX6) (T := TX6) (N := 10) hx hb hts hi6 hown hK hP 0 rfl rfl 3 (by decide) (hts _ (List.mem_cons_of_mem _ (List.mem_append_left _ (List.mem_append_left _ (List.mem_append_left _ (List.mem_append_left _ (List.mem_of_getElem? (i := 0) rfl))))))) (fun _ h9 => h9) rfl dX6_parkAll_1 ?_
  refine lv_aload_n hx hb dX6_parkAll_4 rfl (lv_at hl 0 rfl) ?_
  refine va_get (D := dd) (ci := 6) (v := .ref s0) (C := RX6) (T := TX6) (N := 10) hx hb hts hi6 hown hK hP 0 rfl rfl 1 (by decide) (hts _ (List.mem_cons_of_mem _ (List.mem_append_left _ (List.mem_append_left _ (List.mem_append_left _ (List.mem_append_left _ (List.mem_of_getElem? (i := 1) rfl))))))) (fun _ h9 => h9) rfl dX6_parkAll_5 ?_
  refine g_callVv (own := RX6) (n := 1) (mc := 0) (ms := 0) (As := [.ref s0]) (rest := []) (wc := [kO l0 1 [vI n, .ref l1, .ref l2, .ref l3, .ref l4, .ref l5, vI lru, vI lre, vI lar, vI lfi], kI cI l1 8 lcap, kI cI l2 8 lst, kI cI l3 9 lwi, kI cI l4 9 lpl, kI cI l5 9 llk, kO s0 5 [.ref s1, .ref s2, vI ct, vI ru, vI re], kI cI s1 8 cap, kI cI s2 9 wi]) (wr := [kO x0 6 [vI n, .ref s0, .ref h0, .ref l0, .ref m0, .ref p0, .ref e0, .ref w0, .ref t0, vI tl]]) hx hb hml hown hts hK hP hD hS hA [4, 5, 6, 7, 8, 9, 1, 2, 3] [0] rfl rfl (by decide) (by decide) 1 0 rfl rfl (c_X1_open l dd cI cJ cC cS l0 l1 l2 l3 l4 l5 s0 s1 s2 n lru lre lar lfi lcap lst lwi lpl llk cap wi ct ru re H.size  (by first | assumption | omega)) gX6_parkAll_X1_open rfl (by decide +kernel) (by decide) (by decide) (by decide) (by decide) rfl hl.1 rfl (Nat.le_of_ble_eq_true rfl) dX6_parkAll_8 (fun u_1 H locs hp8 hP hD hS => ?_)
  have hP : va_P dd vwCl [kO x0 6 [vI n, .ref s0, .ref h0, .ref l0, .ref m0, .ref p0, .ref e0, .ref w0, .ref t0, vI tl], kO l0 1 [vI n, .ref l1, .ref l2, .ref l3, .ref l4, .ref l5, vI ru, vI re, vI 0, vI 0], kI cI l1 8 (cpZ cap lcap n), kI cI l2 8 (cpZ zeroZ lst n), kI cI l3 9 lwi, kI cI l4 9 lpl, kI cI l5 9 llk, kO s0 5 [.ref s1, .ref s2, vI ct, vI ru, vI re], kI cI s1 8 cap, kI cI s2 9 wi] H := hP
  have hD : va_D A [kO x0 6 [vI n, .ref s0, .ref h0, .ref l0, .ref m0, .ref p0, .ref e0, .ref w0, .ref t0, vI tl], kO l0 1 [vI n, .ref l1, .ref l2, .ref l3, .ref l4, .ref l5, vI ru, vI re, vI 0, vI 0], kI cI l1 8 (cpZ cap lcap n), kI cI l2 8 (cpZ zeroZ lst n), kI cI l3 9 lwi, kI cI l4 9 lpl, kI cI l5 9 llk, kO s0 5 [.ref s1, .ref s2, vI ct, vI ru, vI re], kI cI s1 8 cap, kI cI s2 9 wi] := hD
  refine z_iconst hx hb dX6_parkAll_11 ?_
  refine lv_istore_n (lv' := [(1, vI 0), (0, .ref x0)]) hx hb dX6_parkAll_12 rfl hl (by decide) rfl (fun ls hl => ?_)
  have L13 : ∀ (nn : Nat) (i : Int) (lfa : Int) (lsta : Int → Int) (lwa : Int → Int) (lpa : Int → Int) (lka : Int → Int) (H : Heap) (locs : List Loc) (ls : Array Slot), ((ct + 1 - i).toNat) = nn → (0 ≤ i ∧ i ≤ ct) → (PKD n cap ru re wi i lwa lpa lka) → (∀ j : Int, 0 ≤ j → j < n → lsta j = pst n cap ru re wi i.toNat j) → va_P dd vwCl [kO x0 6 [vI n, .ref s0, .ref h0, .ref l0, .ref m0, .ref p0, .ref e0, .ref w0, .ref t0, vI tl], kO s0 5 [.ref s1, .ref s2, vI ct, vI ru, vI re], kI cI s1 8 cap, kI cI s2 9 wi, kO l0 1 [vI n, .ref l1, .ref l2, .ref l3, .ref l4, .ref l5, vI ru, vI re, vI i, vI lfa], kI cI l1 8 (cpZ cap lcap n), kI cI l2 8 lsta, kI cI l3 9 lwa, kI cI l4 9 lpa, kI cI l5 9 lka] H → va_D A [kO x0 6 [vI n, .ref s0, .ref h0, .ref l0, .ref m0, .ref p0, .ref e0, .ref w0, .ref t0, vI tl], kO s0 5 [.ref s1, .ref s2, vI ct, vI ru, vI re], kI cI s1 8 cap, kI cI s2 9 wi, kO l0 1 [vI n, .ref l1, .ref l2, .ref l3, .ref l4, .ref l5, vI ru, vI re, vI i, vI lfa], kI cI l1 8 (cpZ cap lcap n), kI cI l2 8 lsta, kI cI l3 9 lwa, kI cI l4 9 lpa, kI cI l5 9 lka] → va_S A s.heap H locs → lv_has ls 2 [(1, vI i), (0, .ref x0)] → W p l e (gR 5 0 0) s m args below meth c H locs 0 0 Q (F0 m 13 ls []) := by
    intro nn
    induction nn using Nat.strongRecOn with
    | ind nn L13i =>
    intro i lfa lsta lwa lpa lka H locs ls hmeas hi hpk hst2 hP hD hS hl
    refine lv_iload_n hx hb dX6_parkAll_13 rfl (lv_at hl 0 rfl) ?_
    refine lv_aload_n hx hb dX6_parkAll_14 rfl (lv_at hl 1 rfl) ?_
    refine va_get (D := dd) (ci := 6) (v := .ref s0) (C := RX6) (T := TX6) (N := 10) hx hb hts hi6 hown hK hP 0 rfl rfl 1 (by decide) (hts _ (List.mem_cons_of_mem _ (List.mem_append_left _ (List.mem_append_left _ (List.mem_append_left _ (List.mem_append_left _ (List.mem_of_getElem? (i := 1) rfl))))))) (fun _ h9 => h9) rfl dX6_parkAll_15 ?_
    refine va_get (D := dd) (ci := 5) (v := vI ct) (C := RX5) (T := TX5) (N := 5) hx hb hts hi5 hown hK hP 1 rfl rfl 2 (by decide) (hts _ (List.mem_cons_of_mem _ (List.mem_append_left _ (List.mem_append_left _ (List.mem_append_left _ (List.mem_append_left _ (List.mem_of_getElem? (i := 2) rfl))))))) (fun _ h9 => h9) rfl dX6_parkAll_18 ?_
    refine z_icmp_ge (tgt := 47) hx hb dX6_parkAll_21 (by decide) (by omega) (fun c21 => ?_) (fun c21 => ?_)
    · skip
      have ec_2 : vI i = vI ct := congrArg _ (by omega)
      rw [ec_2] at hP hD
      subst hQ
      refine z_vret hx hb hr hlocks dX6_parkAll_47 (lfa, lsta, lwa, lpa, lka) hK hS ⟨by omega, by omega⟩ hP hD ?_
      rw [show ct = i by omega]
      exact hpk
    · skip
      refine lv_aload_n hx hb dX6_parkAll_24 rfl (lv_at hl 1 rfl) ?_
      refine va_get (D := dd) (ci := 6) (v := .ref l0) (C := RX6) (T := TX6) (N := 10) hx hb hts hi6 hown hK hP 0 rfl rfl 3 (by decide) (hts _ (List.mem_cons_of_mem _ (List.mem_append_left _ (List.mem_append_left _ (List.mem_append_left _ (List.mem_append_left _ (List.mem_of_getElem? (i := 0) rfl))))))) (fun _ h9 => h9) rfl dX6_parkAll_25 ?_
      refine lv_aload_n hx hb dX6_parkAll_28 rfl (lv_at hl 1 rfl) ?_
      refine va_get (D := dd) (ci := 6) (v := .ref s0) (C := RX6) (T := TX6) (N := 10) hx hb hts hi6 hown hK hP 0 rfl rfl 1 (by decide) (hts _ (List.mem_cons_of_mem _ (List.mem_append_left _ (List.mem_append_left _ (List.mem_append_left _ (List.mem_append_left _ (List.mem_of_getElem? (i := 1) rfl))))))) (fun _ h9 => h9) rfl dX6_parkAll_29 ?_
      refine va_get (D := dd) (ci := 5) (v := .ref s2) (C := RX5) (T := TX5) (N := 5) hx hb hts hi5 hown hK hP 1 rfl rfl 1 (by decide) (hts _ (List.mem_cons_of_mem _ (List.mem_append_left _ (List.mem_append_left _ (List.mem_append_left _ (List.mem_append_left _ (List.mem_of_getElem? (i := 3) rfl))))))) (fun _ h9 => h9) rfl dX6_parkAll_32 ?_
      refine lv_iload_n hx hb dX6_parkAll_35 rfl (lv_at hl 0 rfl) ?_
      refine z_iald hx hb hK hP 3 0 rfl rfl (i := i) (by omega) (by decide) dX6_parkAll_36 ?_
      have f_3 := hwi i (by omega) (by omega)
      refine g_callVi (own := RX6) (n := 1) (mc := 0) (ms := 0) (As := [vI (wi i)]) (rest := []) (wc := [kO l0 1 [vI n, .ref l1, .ref l2, .ref l3, .ref l4, .ref l5, vI ru, vI re, vI i, vI lfa], kI cI l1 8 (cpZ cap lcap n), kI cI l2 8 lsta, kI cI l3 9 lwa, kI cI l4 9 lpa, kI cI l5 9 lka]) (wr := [kO x0 6 [vI n, .ref s0, .ref h0, .ref l0, .ref m0, .ref p0, .ref e0, .ref w0, .ref t0, vI tl], kO s0 5 [.ref s1, .ref s2, vI ct, vI ru, vI re], kI cI s1 8 cap, kI cI s2 9 wi]) hx hb hml hown hts hK hP hD hS hA [4, 5, 6, 7, 8, 9] [0, 1, 2, 3] rfl rfl (by decide) (by decide) 1 0 rfl rfl (c_X1_arrive l dd cI cJ cC cS l0 l1 l2 l3 l4 l5 n ru re i lfa (cpZ cap lcap n) lsta lwa lpa lka (wi i) H.size  (by first | assumption | omega) (fun j h0 h1 => by rw [cpZ_lt h1]; exact hcap j h0 h1) (fun j h0 h1 => by rw [hst2 j h0 h1]; exact pst_rg hcap _ j h0 h1) (by first | assumption | omega) (by first | assumption | omega) (by first | assumption | omega) (by first | assumption | omega)) gX6_parkAll_X1_arrive rfl (by decide +kernel) (by decide) (by decide) (by decide) (by decide) rfl hl.1 rfl (Nat.le_of_ble_eq_true rfl) dX6_parkAll_37 (fun z_4 u_5 H locs hp37 hP hD hS => ?_)
      subst z_4
      have hP : va_P dd vwCl [kO x0 6 [vI n, .ref s0, .ref h0, .ref l0, .ref m0, .ref p0, .ref e0, .ref w0, .ref t0, vI tl], kO s0 5 [.ref s1, .ref s2, vI ct, vI ru, vI re], kI cI s1 8 cap, kI cI s2 9 wi, kO l0 1 [vI n, .ref l1, .ref l2, .ref l3, .ref l4, .ref l5, vI ru, vI re, vI (i + 1), vI (lfa + flp (pP n (cpZ cap lcap n) lsta ru re (wi i)))], kI cI l1 8 (cpZ cap lcap n), kI cI l2 8 (stp lsta (pP n (cpZ cap lcap n) lsta ru re (wi i))), kI cI l3 9 (uZ lwa i (wi i)), kI cI l4 9 (uZ lpa i (pP n (cpZ cap lcap n) lsta ru re (wi i))), kI cI l5 9 (uZ lka i (pK n (cpZ cap lcap n) lsta ru re (wi i)))] H := hP
      have hD : va_D A [kO x0 6 [vI n, .ref s0, .ref h0, .ref l0, .ref m0, .ref p0, .ref e0, .ref w0, .ref t0, vI tl], kO s0 5 [.ref s1, .ref s2, vI ct, vI ru, vI re], kI cI s1 8 cap, kI cI s2 9 wi, kO l0 1 [vI n, .ref l1, .ref l2, .ref l3, .ref l4, .ref l5, vI ru, vI re, vI (i + 1), vI (lfa + flp (pP n (cpZ cap lcap n) lsta ru re (wi i)))], kI cI l1 8 (cpZ cap lcap n), kI cI l2 8 (stp lsta (pP n (cpZ cap lcap n) lsta ru re (wi i))), kI cI l3 9 (uZ lwa i (wi i)), kI cI l4 9 (uZ lpa i (pP n (cpZ cap lcap n) lsta ru re (wi i))), kI cI l5 9 (uZ lka i (pK n (cpZ cap lcap n) lsta ru re (wi i)))] := hD
      have hep : pP n (cpZ cap lcap n) lsta ru re (wi i) = ppl n cap ru re wi i := pP_congr (cap := cpZ cap lcap n) (cap2 := cap) (st := lsta) (st2 := pst n cap ru re wi i.toNat) (ru := ru) (re := re) (p := wi i) (fun j h0 h1 => cpZ_lt h1) hst2
      have hek : pK n (cpZ cap lcap n) lsta ru re (wi i) = plk n cap ru re wi i := pK_congr (cap := cpZ cap lcap n) (cap2 := cap) (st := lsta) (st2 := pst n cap ru re wi i.toNat) (ru := ru) (re := re) (p := wi i) (fun j h0 h1 => cpZ_lt h1) hst2
      refine lv_pop hx hb dX6_parkAll_40 rfl ?_
      refine z_iinc (a := i) (z := (i + 1)) (lv' := [(1, vI (i + 1)), (0, .ref x0)]) hx hb dX6_parkAll_41 hl (k := 0) rfl rfl (by decide) rfl (fun ls hl => ?_)
      refine lv_goto (tgt := 13) hx hb dX6_parkAll_44 (by decide) ?_
      exact L13i _ (by omega) (i + 1) (lfa + flp (pP n (cpZ cap lcap n) lsta ru re (wi i))) (stp lsta (pP n (cpZ cap lcap n) lsta ru re (wi i))) (uZ lwa i (wi i)) (uZ lpa i (pP n (cpZ cap lcap n) lsta ru re (wi i))) (uZ lka i (pK n (cpZ cap lcap n) lsta ru re (wi i))) H locs ls rfl (by omega) (by
        intro j h0 h1
        by_cases q : j = i
        · subst q
          rw [uZ_same, uZ_same, uZ_same]
          exact ⟨hep, hek, rfl⟩
        · rw [uZ_ne q, uZ_ne q, uZ_ne q]
          exact hpk j h0 (by omega)) (by
        rw [pst_s (by omega)]
        intro j h0 h1
        rw [hep]
        exact stp_congr hst2 (by have := ppl_rg n cap ru re wi i; omega) j h0 h1) hP hD hS hl
  exact L13 _ 0 0 (cpZ zeroZ lst n) lwi lpl llk H locs ls rfl (by omega) (fun j h0 h1 => absurd h1 (by omega)) (fun j h0 h1 => by rw [cpZ_lt h1]; rfl) (hP.sub [0, 7, 8, 9, 1, 2, 3, 4, 5, 6] rfl) (hD.sub [0, 7, 8, 9, 1, 2, 3, 4, 5, 6] (by decide) rfl) hS hl

set_option maxHeartbeats 4000000 in
set_option maxRecDepth 100000 in
theorem c_X6_startCount (l : Launch) (dd : va_G) (cI cJ cC cS : ClassId) (x0 s0 h0 l0 m0 p0 e0 w0 t0 s1 s2 l1 l2 l3 l4 l5 m1 m2 : Nat) (n tl : Int) (cap wi : Int → Int) (ct ru re : Int) (lru lre lar lfi : Int) (lcap lst lwi lpl llk : Int → Int) (ky vl : Int → Int) (sz : Nat) (hn : 1 ≤ n ∧ n ≤ 8) : gMv l yX6_startCount wsX6_startCount 3 0 0 dd cI cJ cC cS [.ref x0] [kO x0 6 [vI n, .ref s0, .ref h0, .ref l0, .ref m0, .ref p0, .ref e0, .ref w0, .ref t0, vI tl], kO s0 5 [.ref s1, .ref s2, vI ct, vI ru, vI re], kI cI s1 8 cap, kI cI s2 9 wi, kO l0 1 [vI n, .ref l1, .ref l2, .ref l3, .ref l4, .ref l5, vI lru, vI lre, vI lar, vI lfi], kI cI l1 8 lcap, kI cI l2 8 lst, kI cI l3 9 lwi, kI cI l4 9 lpl, kI cI l5 9 llk, kO m0 2 [.ref m1, .ref m2], kL cJ m1 1024 ky, kI cI m2 1024 vl] sz (fun (_ : Unit) => True) (fun (_ : Unit) => [kO x0 6 [vI n, .ref s0, .ref h0, .ref l0, .ref m0, .ref p0, .ref e0, .ref w0, .ref t0, vI tl], kO s0 5 [.ref s1, .ref s2, vI ct, vI ru, vI re], kI cI s1 8 cap, kI cI s2 9 wi, kO l0 1 [vI n, .ref l1, .ref l2, .ref l3, .ref l4, .ref l5, vI ru, vI re, vI 0, vI 0], kI cI l1 8 (cpZ cap lcap n), kI cI l2 8 (cpZ zeroZ lst n), kI cI l3 9 lwi, kI cI l4 9 lpl, kI cI l5 9 llk, kO m0 2 [.ref m1, .ref m2], kL cJ m1 1024 (cpZ (kZ (-1)) ky 1024), kI cI m2 1024 vl]) := by
  refine gMv_of (cc := cX6_startCount) (maxL := 1) (ret := none) (by decide) rfl (Nat.le_of_ble_eq_true rfl) ?_
  intro p e s m args below meth c A Q hQ hx hb hr hts hown hlocks hnm hml H locs hP hK hD hA hS ls hl
  have hi6 : ∀ w ∈ wsX60, w ∈ wsX6_startCount := fun _ h => (List.mem_cons_of_mem _ (List.mem_append_left _ (List.mem_append_left _ (List.mem_append_left _ (List.mem_append_right _ h)))))
  have hl : lv_has ls 1 [(0, .ref x0)] := hl
  refine lv_aload_n hx hb dX6_startCount_0 rfl (lv_at hl 0 rfl) ?_
  refine va_get (D := dd) (ci := 6) (v := .ref l0) (C := RX6) (T := TX6) (N := 10) hx hb hts hi6 hown hK hP 0 rfl rfl 3 (by decide) (hts _ (List.mem_cons_of_mem _ (List.mem_append_left _ (List.mem_append_left _ (List.mem_append_left _ (List.mem_append_left _ (List.mem_append_left _ (List.mem_of_getElem? (i := 0) rfl)))))))) (fun _ h9 => h9) rfl dX6_startCount_1 ?_
  refine lv_aload_n hx hb dX6_startCount_4 rfl (lv_at hl 0 rfl) ?_
  refine va_get (D := dd) (ci := 6) (v := .ref s0) (C := RX6) (T := TX6) (N := 10) hx hb hts hi6 hown hK hP 0 rfl rfl 1 (by decide) (hts _ (List.mem_cons_of_mem _ (List.mem_append_left _ (List.mem_append_left _ (List.mem_append_left _ (List.mem_append_left _ (List.mem_append_left _ (List.mem_of_getElem? (i := 1) rfl)))))))) (fun _ h9 => h9) rfl dX6_startCount_5 ?_
  refine g_callVv (own := RX6) (n := 1) (mc := 0) (ms := 0) (As := [.ref s0]) (rest := []) (wc := [kO l0 1 [vI n, .ref l1, .ref l2, .ref l3, .ref l4, .ref l5, vI lru, vI lre, vI lar, vI lfi], kI cI l1 8 lcap, kI cI l2 8 lst, kI cI l3 9 lwi, kI cI l4 9 lpl, kI cI l5 9 llk, kO s0 5 [.ref s1, .ref s2, vI ct, vI ru, vI re], kI cI s1 8 cap, kI cI s2 9 wi]) (wr := [kO x0 6 [vI n, .ref s0, .ref h0, .ref l0, .ref m0, .ref p0, .ref e0, .ref w0, .ref t0, vI tl], kO m0 2 [.ref m1, .ref m2], kL cJ m1 1024 ky, kI cI m2 1024 vl]) hx hb hml hown hts hK hP hD hS hA [4, 5, 6, 7, 8, 9, 1, 2, 3] [0, 10, 11, 12] rfl rfl (by decide) (by decide) 1 0 rfl rfl (c_X1_open l dd cI cJ cC cS l0 l1 l2 l3 l4 l5 s0 s1 s2 n lru lre lar lfi lcap lst lwi lpl llk cap wi ct ru re H.size  (by first | assumption | omega)) gX6_startCount_X1_open rfl (by decide +kernel) (by decide) (by decide) (by decide) (by decide) rfl hl.1 rfl (Nat.le_of_ble_eq_true rfl) dX6_startCount_8 (fun u_1 H locs hp8 hP hD hS => ?_)
  have hP : va_P dd vwCl [kO x0 6 [vI n, .ref s0, .ref h0, .ref l0, .ref m0, .ref p0, .ref e0, .ref w0, .ref t0, vI tl], kO m0 2 [.ref m1, .ref m2], kL cJ m1 1024 ky, kI cI m2 1024 vl, kO l0 1 [vI n, .ref l1, .ref l2, .ref l3, .ref l4, .ref l5, vI ru, vI re, vI 0, vI 0], kI cI l1 8 (cpZ cap lcap n), kI cI l2 8 (cpZ zeroZ lst n), kI cI l3 9 lwi, kI cI l4 9 lpl, kI cI l5 9 llk, kO s0 5 [.ref s1, .ref s2, vI ct, vI ru, vI re], kI cI s1 8 cap, kI cI s2 9 wi] H := hP
  have hD : va_D A [kO x0 6 [vI n, .ref s0, .ref h0, .ref l0, .ref m0, .ref p0, .ref e0, .ref w0, .ref t0, vI tl], kO m0 2 [.ref m1, .ref m2], kL cJ m1 1024 ky, kI cI m2 1024 vl, kO l0 1 [vI n, .ref l1, .ref l2, .ref l3, .ref l4, .ref l5, vI ru, vI re, vI 0, vI 0], kI cI l1 8 (cpZ cap lcap n), kI cI l2 8 (cpZ zeroZ lst n), kI cI l3 9 lwi, kI cI l4 9 lpl, kI cI l5 9 llk, kO s0 5 [.ref s1, .ref s2, vI ct, vI ru, vI re], kI cI s1 8 cap, kI cI s2 9 wi] := hD
  refine lv_aload_n hx hb dX6_startCount_11 rfl (lv_at hl 0 rfl) ?_
  refine va_get (D := dd) (ci := 6) (v := .ref m0) (C := RX6) (T := TX6) (N := 10) hx hb hts hi6 hown hK hP 0 rfl rfl 4 (by decide) (hts _ (List.mem_cons_of_mem _ (List.mem_append_left _ (List.mem_append_left _ (List.mem_append_left _ (List.mem_append_left _ (List.mem_append_left _ (List.mem_of_getElem? (i := 2) rfl)))))))) (fun _ h9 => h9) rfl dX6_startCount_12 ?_
  refine g_callVv (own := RX6) (n := 0) (mc := 0) (ms := 0) (As := []) (rest := []) (wc := [kO m0 2 [.ref m1, .ref m2], kL cJ m1 1024 ky, kI cI m2 1024 vl]) (wr := [kO x0 6 [vI n, .ref s0, .ref h0, .ref l0, .ref m0, .ref p0, .ref e0, .ref w0, .ref t0, vI tl], kO l0 1 [vI n, .ref l1, .ref l2, .ref l3, .ref l4, .ref l5, vI ru, vI re, vI 0, vI 0], kI cI l1 8 (cpZ cap lcap n), kI cI l2 8 (cpZ zeroZ lst n), kI cI l3 9 lwi, kI cI l4 9 lpl, kI cI l5 9 llk, kO s0 5 [.ref s1, .ref s2, vI ct, vI ru, vI re], kI cI s1 8 cap, kI cI s2 9 wi]) hx hb hml hown hts hK hP hD hS hA [1, 2, 3] [0, 4, 5, 6, 7, 8, 9, 10, 11, 12] rfl rfl (by decide) (by decide) 2 0 rfl rfl (c_X2_clear l dd cI cJ cC cS m0 m1 m2 ky vl H.size) gX6_startCount_X2_clear rfl (by decide +kernel) (by decide) (by decide) (by decide) (by decide) rfl hl.1 rfl (Nat.le_of_ble_eq_true rfl) dX6_startCount_15 (fun u_2 H locs hp15 hP hD hS => ?_)
  have hP : va_P dd vwCl [kO x0 6 [vI n, .ref s0, .ref h0, .ref l0, .ref m0, .ref p0, .ref e0, .ref w0, .ref t0, vI tl], kO l0 1 [vI n, .ref l1, .ref l2, .ref l3, .ref l4, .ref l5, vI ru, vI re, vI 0, vI 0], kI cI l1 8 (cpZ cap lcap n), kI cI l2 8 (cpZ zeroZ lst n), kI cI l3 9 lwi, kI cI l4 9 lpl, kI cI l5 9 llk, kO s0 5 [.ref s1, .ref s2, vI ct, vI ru, vI re], kI cI s1 8 cap, kI cI s2 9 wi, kO m0 2 [.ref m1, .ref m2], kL cJ m1 1024 (cpZ (kZ (-1)) ky 1024), kI cI m2 1024 vl] H := hP
  have hD : va_D A [kO x0 6 [vI n, .ref s0, .ref h0, .ref l0, .ref m0, .ref p0, .ref e0, .ref w0, .ref t0, vI tl], kO l0 1 [vI n, .ref l1, .ref l2, .ref l3, .ref l4, .ref l5, vI ru, vI re, vI 0, vI 0], kI cI l1 8 (cpZ cap lcap n), kI cI l2 8 (cpZ zeroZ lst n), kI cI l3 9 lwi, kI cI l4 9 lpl, kI cI l5 9 llk, kO s0 5 [.ref s1, .ref s2, vI ct, vI ru, vI re], kI cI s1 8 cap, kI cI s2 9 wi, kO m0 2 [.ref m1, .ref m2], kL cJ m1 1024 (cpZ (kZ (-1)) ky 1024), kI cI m2 1024 vl] := hD
  subst hQ
  refine z_vret hx hb hr hlocks dX6_startCount_18 () hK hS ⟨by omega, by omega⟩ (hP.sub [0, 7, 8, 9, 1, 2, 3, 4, 5, 6, 10, 11, 12] rfl) (hD.sub [0, 7, 8, 9, 1, 2, 3, 4, 5, 6, 10, 11, 12] (by decide) rfl) ?_
  first | rfl | trivial | omega

set_option maxHeartbeats 4000000 in
set_option maxRecDepth 100000 in
theorem c_X6_spaces (l : Launch) (dd : va_G) (cI cJ cC cS : ClassId) (x0 s0 h0 l0 m0 p0 e0 w0 t0 : Nat) (n tl : Int) (sz : Nat)  : gMi l yX6_spaces wsX6_spaces 12 0 0 dd cI cJ cC cS [.ref x0] [kO x0 6 [vI n, .ref s0, .ref h0, .ref l0, .ref m0, .ref p0, .ref e0, .ref w0, .ref t0, vI tl]] sz (fun (z : Int) (_ : Unit) => z = n) (fun (_ : Unit) => [kO x0 6 [vI n, .ref s0, .ref h0, .ref l0, .ref m0, .ref p0, .ref e0, .ref w0, .ref t0, vI tl]]) := by
  refine gMi_of (cc := cX6_spaces) (maxL := 1) (ret := (some .int)) (by decide) rfl (Nat.le_of_ble_eq_true rfl) ?_
  intro p e s m args below meth c A Q hQ hx hb hr hts hown hlocks hnm hml H locs hP hK hD hA hS ls hl
  have hi6 : ∀ w ∈ wsX60, w ∈ wsX6_spaces := fun _ h => (List.mem_cons_of_mem _ (List.mem_append_right _ h))
  have hl : lv_has ls 1 [(0, .ref x0)] := hl
  refine lv_aload_n hx hb dX6_spaces_0 rfl (lv_at hl 0 rfl) ?_
  refine va_get (D := dd) (ci := 6) (v := vI n) (C := RX6) (T := TX6) (N := 10) hx hb hts hi6 hown hK hP 0 rfl rfl 0 (by decide) (hts _ (List.mem_cons_of_mem _ (List.mem_append_left _ (List.mem_of_getElem? (i := 0) rfl)))) (fun _ h9 => h9) rfl dX6_spaces_1 ?_
  subst hQ
  refine z_iret (z := n) hx hb hr hlocks dX6_spaces_4 () hK hS ⟨by omega, by omega⟩ hP hD ?_
  first | rfl | trivial | omega

set_option maxHeartbeats 4000000 in
set_option maxRecDepth 100000 in
theorem c_X6_cars (l : Launch) (dd : va_G) (cI cJ cC cS : ClassId) (x0 s0 h0 l0 m0 p0 e0 w0 t0 s1 s2 : Nat) (n tl : Int) (cap wi : Int → Int) (ct ru re : Int) (sz : Nat)  : gMi l yX6_cars wsX6_cars 12 0 0 dd cI cJ cC cS [.ref x0] [kO x0 6 [vI n, .ref s0, .ref h0, .ref l0, .ref m0, .ref p0, .ref e0, .ref w0, .ref t0, vI tl], kO s0 5 [.ref s1, .ref s2, vI ct, vI ru, vI re], kI cI s1 8 cap, kI cI s2 9 wi] sz (fun (z : Int) (_ : Unit) => z = ct) (fun (_ : Unit) => [kO x0 6 [vI n, .ref s0, .ref h0, .ref l0, .ref m0, .ref p0, .ref e0, .ref w0, .ref t0, vI tl], kO s0 5 [.ref s1, .ref s2, vI ct, vI ru, vI re], kI cI s1 8 cap, kI cI s2 9 wi]) := by
  refine gMi_of (cc := cX6_cars) (maxL := 1) (ret := (some .int)) (by decide) rfl (Nat.le_of_ble_eq_true rfl) ?_
  intro p e s m args below meth c A Q hQ hx hb hr hts hown hlocks hnm hml H locs hP hK hD hA hS ls hl
  have hi5 : ∀ w ∈ wsX50, w ∈ wsX6_cars := fun _ h => (List.mem_cons_of_mem _ (List.mem_append_right _ h))
  have hi6 : ∀ w ∈ wsX60, w ∈ wsX6_cars := fun _ h => (List.mem_cons_of_mem _ (List.mem_append_left _ (List.mem_append_right _ h)))
  have hl : lv_has ls 1 [(0, .ref x0)] := hl
  refine lv_aload_n hx hb dX6_cars_0 rfl (lv_at hl 0 rfl) ?_
  refine va_get (D := dd) (ci := 6) (v := .ref s0) (C := RX6) (T := TX6) (N := 10) hx hb hts hi6 hown hK hP 0 rfl rfl 1 (by decide) (hts _ (List.mem_cons_of_mem _ (List.mem_append_left _ (List.mem_append_left _ (List.mem_of_getElem? (i := 0) rfl))))) (fun _ h9 => h9) rfl dX6_cars_1 ?_
  refine va_get (D := dd) (ci := 5) (v := vI ct) (C := RX5) (T := TX5) (N := 5) hx hb hts hi5 hown hK hP 1 rfl rfl 2 (by decide) (hts _ (List.mem_cons_of_mem _ (List.mem_append_left _ (List.mem_append_left _ (List.mem_of_getElem? (i := 1) rfl))))) (fun _ h9 => h9) rfl dX6_cars_4 ?_
  subst hQ
  refine z_iret (z := ct) hx hb hr hlocks dX6_cars_7 () hK hS ⟨by omega, by omega⟩ hP hD ?_
  first | rfl | trivial | omega

set_option maxHeartbeats 4000000 in
set_option maxRecDepth 100000 in
theorem c_X6_preference (l : Launch) (hfl : l.stackTraces = false) (dd : va_G) (cI cJ cC cS : ClassId) (x0 s0 h0 l0 m0 p0 e0 w0 t0 s1 s2 : Nat) (n tl : Int) (cap wi : Int → Int) (ct ru re : Int) (v : Int) (sz : Nat) (hn : 1 ≤ n ∧ n ≤ 8) (hct : 0 ≤ ct ∧ ct ≤ 9) (hcap : ∀ j : Int, 0 ≤ j → j < n → 0 ≤ cap j ∧ cap j ≤ 3) (hwi : ∀ j : Int, 0 ≤ j → j < ct → 0 ≤ wi j ∧ wi j < n) (hru : 0 ≤ ru ∧ ru ≤ 3) (hre : 0 ≤ re ∧ re ≤ 8) (hgv : rg v) : gXi l yX6_preference wsX6_preference 12 3 18 dd cI cJ cC cS [.ref x0, vI v] [kO x0 6 [vI n, .ref s0, .ref h0, .ref l0, .ref m0, .ref p0, .ref e0, .ref w0, .ref t0, vI tl], kO s0 5 [.ref s1, .ref s2, vI ct, vI ru, vI re], kI cI s1 8 cap, kI cI s2 9 wi] sz (fun (z : Int) (_ : Unit) => z = wi v ∧ 0 ≤ v ∧ v < ct) (fun (_ : Unit) => [kO x0 6 [vI n, .ref s0, .ref h0, .ref l0, .ref m0, .ref p0, .ref e0, .ref w0, .ref t0, vI tl], kO s0 5 [.ref s1, .ref s2, vI ct, vI ru, vI re], kI cI s1 8 cap, kI cI s2 9 wi]) (fun (E : String) (_ : Unit) => E = xIO ∧ ¬ (0 ≤ v ∧ v < ct)) (fun (_ : Unit) => [kO x0 6 [vI n, .ref s0, .ref h0, .ref l0, .ref m0, .ref p0, .ref e0, .ref w0, .ref t0, vI tl], kO s0 5 [.ref s1, .ref s2, vI ct, vI ru, vI re], kI cI s1 8 cap, kI cI s2 9 wi]) := by
  refine gXi_of (cc := cX6_preference) (maxL := 2) (ret := (some .int)) (by decide) rfl (Nat.le_of_ble_eq_true rfl) ?_
  intro p e s m args below meth c A Q hQ hE htb hx hb hr hts hown hlocks hnm hml H locs hP hK hD hA hS ls hl
  have hi5 : ∀ w ∈ wsX50, w ∈ wsX6_preference := fun _ h => (List.mem_cons_of_mem _ (List.mem_append_left _ (List.mem_append_right _ h)))
  have hi6 : ∀ w ∈ wsX60, w ∈ wsX6_preference := fun _ h => (List.mem_cons_of_mem _ (List.mem_append_left _ (List.mem_append_left _ (List.mem_append_right _ h))))
  have hl : lv_has ls 2 [(0, .ref x0), (1, vI v)] := hl
  refine lv_iload_n hx hb dX6_preference_0 rfl (lv_at hl 1 rfl) ?_
  refine lv_aload_n hx hb dX6_preference_1 rfl (lv_at hl 0 rfl) ?_
  refine va_get (D := dd) (ci := 6) (v := .ref s0) (C := RX6) (T := TX6) (N := 10) hx hb hts hi6 hown hK hP 0 rfl rfl 1 (by decide) (hts _ (List.mem_cons_of_mem _ (List.mem_append_left _ (List.mem_append_left _ (List.mem_append_left _ (List.mem_of_getElem? (i := 0) rfl)))))) (fun _ h9 => h9) rfl dX6_preference_2 ?_
  refine va_get (D := dd) (ci := 5) (v := vI ct) (C := RX5) (T := TX5) (N := 5) hx hb hts hi5 hown hK hP 1 rfl rfl 2 (by decide) (hts _ (List.mem_cons_of_mem _ (List.mem_append_left _ (List.mem_append_left _ (List.mem_append_left _ (List.mem_of_getElem? (i := 1) rfl)))))) (fun _ h9 => h9) rfl dX6_preference_5 ?_
  refine g_xcallSv (own := RX6) (n := 2) (mc := 1) (ms := 6) (As := [vI v, vI ct]) (rest := []) (wc := []) (wr := [kO x0 6 [vI n, .ref s0, .ref h0, .ref l0, .ref m0, .ref p0, .ref e0, .ref w0, .ref t0, vI tl], kO s0 5 [.ref s1, .ref s2, vI ct, vI ru, vI re], kI cI s1 8 cap, kI cI s2 9 wi]) hx hb hml hown hts hK hP hD hS hA [] [0, 1, 2, 3] rfl rfl (by decide) (by decide) (c_X6_requireIndex l hfl dd cI cJ cC cS v ct H.size  (by first | assumption | omega) (by first | assumption | omega)) gX6_preference_X6_requireIndex rfl (by decide +kernel) (by decide) (by decide) (by decide) (by decide) rfl hl.1 rfl (Nat.le_of_ble_eq_true rfl) dX6_preference_8 hE htb hlocks hQ ⟨by omega, by omega⟩ (fun E u hu => ⟨(), (by obtain ⟨he, hu⟩ := hu; first | exact ⟨he, by omega⟩ | exact Or.inl ⟨he, by omega⟩ | exact Or.inr ⟨he, by omega⟩ | exact Or.inr (Or.inl ⟨he, by omega⟩) | exact Or.inr (Or.inr ⟨he, by omega⟩)), fun H1 h => h.sub [0, 1, 2, 3] rfl, fun h => h.sub [0, 1, 2, 3] (by decide) rfl⟩) (fun u_1 H locs hp8 hP hD hS => ?_)
  have hP : va_P dd vwCl [kO x0 6 [vI n, .ref s0, .ref h0, .ref l0, .ref m0, .ref p0, .ref e0, .ref w0, .ref t0, vI tl], kO s0 5 [.ref s1, .ref s2, vI ct, vI ru, vI re], kI cI s1 8 cap, kI cI s2 9 wi] H := hP
  have hD : va_D A [kO x0 6 [vI n, .ref s0, .ref h0, .ref l0, .ref m0, .ref p0, .ref e0, .ref w0, .ref t0, vI tl], kO s0 5 [.ref s1, .ref s2, vI ct, vI ru, vI re], kI cI s1 8 cap, kI cI s2 9 wi] := hD
  refine lv_aload_n hx hb dX6_preference_11 rfl (lv_at hl 0 rfl) ?_
  refine va_get (D := dd) (ci := 6) (v := .ref s0) (C := RX6) (T := TX6) (N := 10) hx hb hts hi6 hown hK hP 0 rfl rfl 1 (by decide) (hts _ (List.mem_cons_of_mem _ (List.mem_append_left _ (List.mem_append_left _ (List.mem_append_left _ (List.mem_of_getElem? (i := 0) rfl)))))) (fun _ h9 => h9) rfl dX6_preference_12 ?_
  refine va_get (D := dd) (ci := 5) (v := .ref s2) (C := RX5) (T := TX5) (N := 5) hx hb hts hi5 hown hK hP 1 rfl rfl 1 (by decide) (hts _ (List.mem_cons_of_mem _ (List.mem_append_left _ (List.mem_append_left _ (List.mem_append_left _ (List.mem_of_getElem? (i := 2) rfl)))))) (fun _ h9 => h9) rfl dX6_preference_15 ?_
  refine lv_iload_n hx hb dX6_preference_18 rfl (lv_at hl 1 rfl) ?_
  refine z_iald hx hb hK hP 3 0 rfl rfl (i := v) (by omega) (by decide) dX6_preference_19 ?_
  have f_2 := hwi v (by omega) (by omega)
  subst hQ
  refine vx_ret ?_
  refine z_iret (z := (wi v)) hx hb hr hlocks dX6_preference_20 () hK hS ⟨by omega, by omega⟩ hP hD ?_
  exact ⟨rfl, by omega⟩

set_option maxHeartbeats 4000000 in
set_option maxRecDepth 100000 in
theorem c_X6_spaceOf (l : Launch) (hfl : l.stackTraces = false) (dd : va_G) (cI cJ cC cS : ClassId) (x0 s0 h0 l0 m0 p0 e0 w0 t0 s1 s2 l1 l2 l3 l4 l5 : Nat) (n tl : Int) (cap wi : Int → Int) (ct ru re : Int) (lru lre lar lfi : Int) (lcap lst lwi lpl llk : Int → Int) (v : Int) (sz : Nat) (hn : 1 ≤ n ∧ n ≤ 8) (hct : 0 ≤ ct ∧ ct ≤ 9) (hcap : ∀ j : Int, 0 ≤ j → j < n → 0 ≤ cap j ∧ cap j ≤ 3) (hwi : ∀ j : Int, 0 ≤ j → j < ct → 0 ≤ wi j ∧ wi j < n) (hru : 0 ≤ ru ∧ ru ≤ 3) (hre : 0 ≤ re ∧ re ≤ 8) (hgv : rg v) : gXi l yX6_spaceOf wsX6_spaceOf 12 3 18 dd cI cJ cC cS [.ref x0, vI v] [kO x0 6 [vI n, .ref s0, .ref h0, .ref l0, .ref m0, .ref p0, .ref e0, .ref w0, .ref t0, vI tl], kO s0 5 [.ref s1, .ref s2, vI ct, vI ru, vI re], kI cI s1 8 cap, kI cI s2 9 wi, kO l0 1 [vI n, .ref l1, .ref l2, .ref l3, .ref l4, .ref l5, vI lru, vI lre, vI lar, vI lfi], kI cI l1 8 lcap, kI cI l2 8 lst, kI cI l3 9 lwi, kI cI l4 9 lpl, kI cI l5 9 llk] sz (fun (z : Int) (u : (Int → Int) × Int × (Int → Int) × (Int → Int) × (Int → Int) × (Int → Int)) => z = ppl n cap ru re wi v ∧ 0 ≤ v ∧ v < ct) (fun (u : (Int → Int) × Int × (Int → Int) × (Int → Int) × (Int → Int) × (Int → Int)) => [kO x0 6 [vI n, .ref s0, .ref h0, .ref l0, .ref m0, .ref p0, .ref e0, .ref w0, .ref t0, vI tl], kO s0 5 [.ref s1, .ref s2, vI ct, vI ru, vI re], kI cI s1 8 cap, kI cI s2 9 wi, kO l0 1 [vI n, .ref l1, .ref l2, .ref l3, .ref l4, .ref l5, vI ru, vI re, vI ct, vI u.2.1], kI cI l1 8 u.1, kI cI l2 8 u.2.2.1, kI cI l3 9 u.2.2.2.1, kI cI l4 9 u.2.2.2.2.1, kI cI l5 9 u.2.2.2.2.2]) (fun (E : String) (_ : Unit) => E = xIO ∧ ¬ (0 ≤ v ∧ v < ct)) (fun (_ : Unit) => [kO x0 6 [vI n, .ref s0, .ref h0, .ref l0, .ref m0, .ref p0, .ref e0, .ref w0, .ref t0, vI tl], kO s0 5 [.ref s1, .ref s2, vI ct, vI ru, vI re], kI cI s1 8 cap, kI cI s2 9 wi, kO l0 1 [vI n, .ref l1, .ref l2, .ref l3, .ref l4, .ref l5, vI lru, vI lre, vI lar, vI lfi], kI cI l1 8 lcap, kI cI l2 8 lst, kI cI l3 9 lwi, kI cI l4 9 lpl, kI cI l5 9 llk]) := by
  refine gXi_of (cc := cX6_spaceOf) (maxL := 2) (ret := (some .int)) (by decide) rfl (Nat.le_of_ble_eq_true rfl) ?_
  intro p e s m args below meth c A Q hQ hE htb hx hb hr hts hown hlocks hnm hml H locs hP hK hD hA hS ls hl
  have hi1 : ∀ w ∈ wsX10, w ∈ wsX6_spaceOf := fun _ h => (List.mem_cons_of_mem _ (List.mem_append_left _ (List.mem_append_right _ h)))
  have hi5 : ∀ w ∈ wsX50, w ∈ wsX6_spaceOf := fun _ h => (List.mem_cons_of_mem _ (List.mem_append_left _ (List.mem_append_left _ (List.mem_append_right _ h))))
  have hi6 : ∀ w ∈ wsX60, w ∈ wsX6_spaceOf := fun _ h => (List.mem_cons_of_mem _ (List.mem_append_left _ (List.mem_append_left _ (List.mem_append_left _ (List.mem_append_right _ h)))))
  have hl : lv_has ls 2 [(0, .ref x0), (1, vI v)] := hl
  refine lv_iload_n hx hb dX6_spaceOf_0 rfl (lv_at hl 1 rfl) ?_
  refine lv_aload_n hx hb dX6_spaceOf_1 rfl (lv_at hl 0 rfl) ?_
  refine va_get (D := dd) (ci := 6) (v := .ref s0) (C := RX6) (T := TX6) (N := 10) hx hb hts hi6 hown hK hP 0 rfl rfl 1 (by decide) (hts _ (List.mem_cons_of_mem _ (List.mem_append_left _ (List.mem_append_left _ (List.mem_append_left _ (List.mem_append_left _ (List.mem_append_left _ (List.mem_of_getElem? (i := 0) rfl)))))))) (fun _ h9 => h9) rfl dX6_spaceOf_2 ?_
  refine va_get (D := dd) (ci := 5) (v := vI ct) (C := RX5) (T := TX5) (N := 5) hx hb hts hi5 hown hK hP 1 rfl rfl 2 (by decide) (hts _ (List.mem_cons_of_mem _ (List.mem_append_left _ (List.mem_append_left _ (List.mem_append_left _ (List.mem_append_left _ (List.mem_append_left _ (List.mem_of_getElem? (i := 1) rfl)))))))) (fun _ h9 => h9) rfl dX6_spaceOf_5 ?_
  refine g_xcallSv (own := RX6) (n := 2) (mc := 1) (ms := 6) (As := [vI v, vI ct]) (rest := []) (wc := []) (wr := [kO x0 6 [vI n, .ref s0, .ref h0, .ref l0, .ref m0, .ref p0, .ref e0, .ref w0, .ref t0, vI tl], kO s0 5 [.ref s1, .ref s2, vI ct, vI ru, vI re], kI cI s1 8 cap, kI cI s2 9 wi, kO l0 1 [vI n, .ref l1, .ref l2, .ref l3, .ref l4, .ref l5, vI lru, vI lre, vI lar, vI lfi], kI cI l1 8 lcap, kI cI l2 8 lst, kI cI l3 9 lwi, kI cI l4 9 lpl, kI cI l5 9 llk]) hx hb hml hown hts hK hP hD hS hA [] [0, 1, 2, 3, 4, 5, 6, 7, 8, 9] rfl rfl (by decide) (by decide) (c_X6_requireIndex l hfl dd cI cJ cC cS v ct H.size  (by first | assumption | omega) (by first | assumption | omega)) gX6_spaceOf_X6_requireIndex rfl (by decide +kernel) (by decide) (by decide) (by decide) (by decide) rfl hl.1 rfl (Nat.le_of_ble_eq_true rfl) dX6_spaceOf_8 hE htb hlocks hQ ⟨by omega, by omega⟩ (fun E u hu => ⟨(), (by obtain ⟨he, hu⟩ := hu; first | exact ⟨he, by omega⟩ | exact Or.inl ⟨he, by omega⟩ | exact Or.inr ⟨he, by omega⟩ | exact Or.inr (Or.inl ⟨he, by omega⟩) | exact Or.inr (Or.inr ⟨he, by omega⟩)), fun H1 h => h.sub [0, 1, 2, 3, 4, 5, 6, 7, 8, 9] rfl, fun h => h.sub [0, 1, 2, 3, 4, 5, 6, 7, 8, 9] (by decide) rfl⟩) (fun u_1 H locs hp8 hP hD hS => ?_)
  have hP : va_P dd vwCl [kO x0 6 [vI n, .ref s0, .ref h0, .ref l0, .ref m0, .ref p0, .ref e0, .ref w0, .ref t0, vI tl], kO s0 5 [.ref s1, .ref s2, vI ct, vI ru, vI re], kI cI s1 8 cap, kI cI s2 9 wi, kO l0 1 [vI n, .ref l1, .ref l2, .ref l3, .ref l4, .ref l5, vI lru, vI lre, vI lar, vI lfi], kI cI l1 8 lcap, kI cI l2 8 lst, kI cI l3 9 lwi, kI cI l4 9 lpl, kI cI l5 9 llk] H := hP
  have hD : va_D A [kO x0 6 [vI n, .ref s0, .ref h0, .ref l0, .ref m0, .ref p0, .ref e0, .ref w0, .ref t0, vI tl], kO s0 5 [.ref s1, .ref s2, vI ct, vI ru, vI re], kI cI s1 8 cap, kI cI s2 9 wi, kO l0 1 [vI n, .ref l1, .ref l2, .ref l3, .ref l4, .ref l5, vI lru, vI lre, vI lar, vI lfi], kI cI l1 8 lcap, kI cI l2 8 lst, kI cI l3 9 lwi, kI cI l4 9 lpl, kI cI l5 9 llk] := hD
  refine lv_aload_n hx hb dX6_spaceOf_11 rfl (lv_at hl 0 rfl) ?_
  refine g_callVv (own := RX6) (n := 0) (mc := 0) (ms := 0) (As := []) (rest := []) (wc := [kO x0 6 [vI n, .ref s0, .ref h0, .ref l0, .ref m0, .ref p0, .ref e0, .ref w0, .ref t0, vI tl], kO s0 5 [.ref s1, .ref s2, vI ct, vI ru, vI re], kI cI s1 8 cap, kI cI s2 9 wi, kO l0 1 [vI n, .ref l1, .ref l2, .ref l3, .ref l4, .ref l5, vI lru, vI lre, vI lar, vI lfi], kI cI l1 8 lcap, kI cI l2 8 lst, kI cI l3 9 lwi, kI cI l4 9 lpl, kI cI l5 9 llk]) (wr := []) hx hb hml hown hts hK hP hD hS hA [0, 1, 2, 3, 4, 5, 6, 7, 8, 9] [] rfl rfl (by decide) (by decide) 6 0 rfl rfl (c_X6_parkAll l dd cI cJ cC cS x0 s0 h0 l0 m0 p0 e0 w0 t0 s1 s2 l1 l2 l3 l4 l5 n tl cap wi ct ru re lru lre lar lfi lcap lst lwi lpl llk H.size  (by first | assumption | omega) (by first | assumption | omega) (by first | assumption | (intro j h0 h1; omega)) (by first | assumption | (intro j h0 h1; omega)) (by first | assumption | omega) (by first | assumption | omega)) gX6_spaceOf_X6_parkAll rfl (by decide +kernel) (by decide) (by decide) (by decide) (by decide) rfl hl.1 rfl (Nat.le_of_ble_eq_true rfl) dX6_spaceOf_12 (fun u_2 H locs hp12 hP hD hS => ?_)
  obtain ⟨lfi1_3, lst1_4, lwi1_5, lpl1_6, llk1_7⟩ := u_2
  try dsimp only at hp12
  have hP : va_P dd vwCl [kO x0 6 [vI n, .ref s0, .ref h0, .ref l0, .ref m0, .ref p0, .ref e0, .ref w0, .ref t0, vI tl], kO s0 5 [.ref s1, .ref s2, vI ct, vI ru, vI re], kI cI s1 8 cap, kI cI s2 9 wi, kO l0 1 [vI n, .ref l1, .ref l2, .ref l3, .ref l4, .ref l5, vI ru, vI re, vI ct, vI lfi1_3], kI cI l1 8 (cpZ cap lcap n), kI cI l2 8 lst1_4, kI cI l3 9 lwi1_5, kI cI l4 9 lpl1_6, kI cI l5 9 llk1_7] H := hP
  have hD : va_D A [kO x0 6 [vI n, .ref s0, .ref h0, .ref l0, .ref m0, .ref p0, .ref e0, .ref w0, .ref t0, vI tl], kO s0 5 [.ref s1, .ref s2, vI ct, vI ru, vI re], kI cI s1 8 cap, kI cI s2 9 wi, kO l0 1 [vI n, .ref l1, .ref l2, .ref l3, .ref l4, .ref l5, vI ru, vI re, vI ct, vI lfi1_3], kI cI l1 8 (cpZ cap lcap n), kI cI l2 8 lst1_4, kI cI l3 9 lwi1_5, kI cI l4 9 lpl1_6, kI cI l5 9 llk1_7] := hD
  refine lv_aload_n hx hb dX6_spaceOf_15 rfl (lv_at hl 0 rfl) ?_
  refine va_get (D := dd) (ci := 6) (v := .ref l0) (C := RX6) (T := TX6) (N := 10) hx hb hts hi6 hown hK hP 0 rfl rfl 3 (by decide) (hts _ (List.mem_cons_of_mem _ (List.mem_append_left _ (List.mem_append_left _ (List.mem_append_left _ (List.mem_append_left _ (List.mem_append_left _ (List.mem_of_getElem? (i := 2) rfl)))))))) (fun _ h9 => h9) rfl dX6_spaceOf_16 ?_
  refine va_get (D := dd) (ci := 1) (v := .ref l4) (C := RX1) (T := TX1) (N := 10) hx hb hts hi1 hown hK hP 4 rfl rfl 4 (by decide) (hts _ (List.mem_cons_of_mem _ (List.mem_append_left _ (List.mem_append_left _ (List.mem_append_left _ (List.mem_append_left _ (List.mem_append_left _ (List.mem_of_getElem? (i := 3) rfl)))))))) (fun _ h9 => h9) rfl dX6_spaceOf_19 ?_
  refine lv_iload_n hx hb dX6_spaceOf_22 rfl (lv_at hl 1 rfl) ?_
  refine z_iald hx hb hK hP 8 0 rfl rfl (i := v) (by omega) (by decide) dX6_spaceOf_23 ?_
  subst hQ
  refine vx_ret ?_
  refine z_iret (z := (lpl1_6 v)) hx hb hr hlocks dX6_spaceOf_24 ((cpZ cap lcap n), lfi1_3, lst1_4, lwi1_5, lpl1_6, llk1_7) hK hS ⟨by omega, by omega⟩ hP hD ?_
  exact ⟨(hp12 v (by omega) (by omega)).1, by omega⟩

set_option maxHeartbeats 4000000 in
set_option maxRecDepth 100000 in
theorem c_X6_steps (l : Launch) (hfl : l.stackTraces = false) (dd : va_G) (cI cJ cC cS : ClassId) (x0 s0 h0 l0 m0 p0 e0 w0 t0 s1 s2 l1 l2 l3 l4 l5 : Nat) (n tl : Int) (cap wi : Int → Int) (ct ru re : Int) (lru lre lar lfi : Int) (lcap lst lwi lpl llk : Int → Int) (v : Int) (sz : Nat) (hn : 1 ≤ n ∧ n ≤ 8) (hct : 0 ≤ ct ∧ ct ≤ 9) (hcap : ∀ j : Int, 0 ≤ j → j < n → 0 ≤ cap j ∧ cap j ≤ 3) (hwi : ∀ j : Int, 0 ≤ j → j < ct → 0 ≤ wi j ∧ wi j < n) (hru : 0 ≤ ru ∧ ru ≤ 3) (hre : 0 ≤ re ∧ re ≤ 8) (hgv : rg v) : gXi l yX6_steps wsX6_steps 12 3 18 dd cI cJ cC cS [.ref x0, vI v] [kO x0 6 [vI n, .ref s0, .ref h0, .ref l0, .ref m0, .ref p0, .ref e0, .ref w0, .ref t0, vI tl], kO s0 5 [.ref s1, .ref s2, vI ct, vI ru, vI re], kI cI s1 8 cap, kI cI s2 9 wi, kO l0 1 [vI n, .ref l1, .ref l2, .ref l3, .ref l4, .ref l5, vI lru, vI lre, vI lar, vI lfi], kI cI l1 8 lcap, kI cI l2 8 lst, kI cI l3 9 lwi, kI cI l4 9 lpl, kI cI l5 9 llk] sz (fun (z : Int) (u : (Int → Int) × Int × (Int → Int) × (Int → Int) × (Int → Int) × (Int → Int)) => z = plk n cap ru re wi v ∧ 0 ≤ v ∧ v < ct) (fun (u : (Int → Int) × Int × (Int → Int) × (Int → Int) × (Int → Int) × (Int → Int)) => [kO x0 6 [vI n, .ref s0, .ref h0, .ref l0, .ref m0, .ref p0, .ref e0, .ref w0, .ref t0, vI tl], kO s0 5 [.ref s1, .ref s2, vI ct, vI ru, vI re], kI cI s1 8 cap, kI cI s2 9 wi, kO l0 1 [vI n, .ref l1, .ref l2, .ref l3, .ref l4, .ref l5, vI ru, vI re, vI ct, vI u.2.1], kI cI l1 8 u.1, kI cI l2 8 u.2.2.1, kI cI l3 9 u.2.2.2.1, kI cI l4 9 u.2.2.2.2.1, kI cI l5 9 u.2.2.2.2.2]) (fun (E : String) (_ : Unit) => E = xIO ∧ ¬ (0 ≤ v ∧ v < ct)) (fun (_ : Unit) => [kO x0 6 [vI n, .ref s0, .ref h0, .ref l0, .ref m0, .ref p0, .ref e0, .ref w0, .ref t0, vI tl], kO s0 5 [.ref s1, .ref s2, vI ct, vI ru, vI re], kI cI s1 8 cap, kI cI s2 9 wi, kO l0 1 [vI n, .ref l1, .ref l2, .ref l3, .ref l4, .ref l5, vI lru, vI lre, vI lar, vI lfi], kI cI l1 8 lcap, kI cI l2 8 lst, kI cI l3 9 lwi, kI cI l4 9 lpl, kI cI l5 9 llk]) := by
  refine gXi_of (cc := cX6_steps) (maxL := 2) (ret := (some .int)) (by decide) rfl (Nat.le_of_ble_eq_true rfl) ?_
  intro p e s m args below meth c A Q hQ hE htb hx hb hr hts hown hlocks hnm hml H locs hP hK hD hA hS ls hl
  have hi1 : ∀ w ∈ wsX10, w ∈ wsX6_steps := fun _ h => (List.mem_cons_of_mem _ (List.mem_append_left _ (List.mem_append_right _ h)))
  have hi5 : ∀ w ∈ wsX50, w ∈ wsX6_steps := fun _ h => (List.mem_cons_of_mem _ (List.mem_append_left _ (List.mem_append_left _ (List.mem_append_right _ h))))
  have hi6 : ∀ w ∈ wsX60, w ∈ wsX6_steps := fun _ h => (List.mem_cons_of_mem _ (List.mem_append_left _ (List.mem_append_left _ (List.mem_append_left _ (List.mem_append_right _ h)))))
  have hl : lv_has ls 2 [(0, .ref x0), (1, vI v)] := hl
  refine lv_iload_n hx hb dX6_steps_0 rfl (lv_at hl 1 rfl) ?_
  refine lv_aload_n hx hb dX6_steps_1 rfl (lv_at hl 0 rfl) ?_
  refine va_get (D := dd) (ci := 6) (v := .ref s0) (C := RX6) (T := TX6) (N := 10) hx hb hts hi6 hown hK hP 0 rfl rfl 1 (by decide) (hts _ (List.mem_cons_of_mem _ (List.mem_append_left _ (List.mem_append_left _ (List.mem_append_left _ (List.mem_append_left _ (List.mem_append_left _ (List.mem_of_getElem? (i := 0) rfl)))))))) (fun _ h9 => h9) rfl dX6_steps_2 ?_
  refine va_get (D := dd) (ci := 5) (v := vI ct) (C := RX5) (T := TX5) (N := 5) hx hb hts hi5 hown hK hP 1 rfl rfl 2 (by decide) (hts _ (List.mem_cons_of_mem _ (List.mem_append_left _ (List.mem_append_left _ (List.mem_append_left _ (List.mem_append_left _ (List.mem_append_left _ (List.mem_of_getElem? (i := 1) rfl)))))))) (fun _ h9 => h9) rfl dX6_steps_5 ?_
  refine g_xcallSv (own := RX6) (n := 2) (mc := 1) (ms := 6) (As := [vI v, vI ct]) (rest := []) (wc := []) (wr := [kO x0 6 [vI n, .ref s0, .ref h0, .ref l0, .ref m0, .ref p0, .ref e0, .ref w0, .ref t0, vI tl], kO s0 5 [.ref s1, .ref s2, vI ct, vI ru, vI re], kI cI s1 8 cap, kI cI s2 9 wi, kO l0 1 [vI n, .ref l1, .ref l2, .ref l3, .ref l4, .ref l5, vI lru, vI lre, vI lar, vI lfi], kI cI l1 8 lcap, kI cI l2 8 lst, kI cI l3 9 lwi, kI cI l4 9 lpl, kI cI l5 9 llk]) hx hb hml hown hts hK hP hD hS hA [] [0, 1, 2, 3, 4, 5, 6, 7, 8, 9] rfl rfl (by decide) (by decide) (c_X6_requireIndex l hfl dd cI cJ cC cS v ct H.size  (by first | assumption | omega) (by first | assumption | omega)) gX6_steps_X6_requireIndex rfl (by decide +kernel) (by decide) (by decide) (by decide) (by decide) rfl hl.1 rfl (Nat.le_of_ble_eq_true rfl) dX6_steps_8 hE htb hlocks hQ ⟨by omega, by omega⟩ (fun E u hu => ⟨(), (by obtain ⟨he, hu⟩ := hu; first | exact ⟨he, by omega⟩ | exact Or.inl ⟨he, by omega⟩ | exact Or.inr ⟨he, by omega⟩ | exact Or.inr (Or.inl ⟨he, by omega⟩) | exact Or.inr (Or.inr ⟨he, by omega⟩)), fun H1 h => h.sub [0, 1, 2, 3, 4, 5, 6, 7, 8, 9] rfl, fun h => h.sub [0, 1, 2, 3, 4, 5, 6, 7, 8, 9] (by decide) rfl⟩) (fun u_1 H locs hp8 hP hD hS => ?_)
  have hP : va_P dd vwCl [kO x0 6 [vI n, .ref s0, .ref h0, .ref l0, .ref m0, .ref p0, .ref e0, .ref w0, .ref t0, vI tl], kO s0 5 [.ref s1, .ref s2, vI ct, vI ru, vI re], kI cI s1 8 cap, kI cI s2 9 wi, kO l0 1 [vI n, .ref l1, .ref l2, .ref l3, .ref l4, .ref l5, vI lru, vI lre, vI lar, vI lfi], kI cI l1 8 lcap, kI cI l2 8 lst, kI cI l3 9 lwi, kI cI l4 9 lpl, kI cI l5 9 llk] H := hP
  have hD : va_D A [kO x0 6 [vI n, .ref s0, .ref h0, .ref l0, .ref m0, .ref p0, .ref e0, .ref w0, .ref t0, vI tl], kO s0 5 [.ref s1, .ref s2, vI ct, vI ru, vI re], kI cI s1 8 cap, kI cI s2 9 wi, kO l0 1 [vI n, .ref l1, .ref l2, .ref l3, .ref l4, .ref l5, vI lru, vI lre, vI lar, vI lfi], kI cI l1 8 lcap, kI cI l2 8 lst, kI cI l3 9 lwi, kI cI l4 9 lpl, kI cI l5 9 llk] := hD
  refine lv_aload_n hx hb dX6_steps_11 rfl (lv_at hl 0 rfl) ?_
  refine g_callVv (own := RX6) (n := 0) (mc := 0) (ms := 0) (As := []) (rest := []) (wc := [kO x0 6 [vI n, .ref s0, .ref h0, .ref l0, .ref m0, .ref p0, .ref e0, .ref w0, .ref t0, vI tl], kO s0 5 [.ref s1, .ref s2, vI ct, vI ru, vI re], kI cI s1 8 cap, kI cI s2 9 wi, kO l0 1 [vI n, .ref l1, .ref l2, .ref l3, .ref l4, .ref l5, vI lru, vI lre, vI lar, vI lfi], kI cI l1 8 lcap, kI cI l2 8 lst, kI cI l3 9 lwi, kI cI l4 9 lpl, kI cI l5 9 llk]) (wr := []) hx hb hml hown hts hK hP hD hS hA [0, 1, 2, 3, 4, 5, 6, 7, 8, 9] [] rfl rfl (by decide) (by decide) 6 0 rfl rfl (c_X6_parkAll l dd cI cJ cC cS x0 s0 h0 l0 m0 p0 e0 w0 t0 s1 s2 l1 l2 l3 l4 l5 n tl cap wi ct ru re lru lre lar lfi lcap lst lwi lpl llk H.size  (by first | assumption | omega) (by first | assumption | omega) (by first | assumption | (intro j h0 h1; omega)) (by first | assumption | (intro j h0 h1; omega)) (by first | assumption | omega) (by first | assumption | omega)) gX6_steps_X6_parkAll rfl (by decide +kernel) (by decide) (by decide) (by decide) (by decide) rfl hl.1 rfl (Nat.le_of_ble_eq_true rfl) dX6_steps_12 (fun u_2 H locs hp12 hP hD hS => ?_)
  obtain ⟨lfi1_3, lst1_4, lwi1_5, lpl1_6, llk1_7⟩ := u_2
  try dsimp only at hp12
  have hP : va_P dd vwCl [kO x0 6 [vI n, .ref s0, .ref h0, .ref l0, .ref m0, .ref p0, .ref e0, .ref w0, .ref t0, vI tl], kO s0 5 [.ref s1, .ref s2, vI ct, vI ru, vI re], kI cI s1 8 cap, kI cI s2 9 wi, kO l0 1 [vI n, .ref l1, .ref l2, .ref l3, .ref l4, .ref l5, vI ru, vI re, vI ct, vI lfi1_3], kI cI l1 8 (cpZ cap lcap n), kI cI l2 8 lst1_4, kI cI l3 9 lwi1_5, kI cI l4 9 lpl1_6, kI cI l5 9 llk1_7] H := hP
  have hD : va_D A [kO x0 6 [vI n, .ref s0, .ref h0, .ref l0, .ref m0, .ref p0, .ref e0, .ref w0, .ref t0, vI tl], kO s0 5 [.ref s1, .ref s2, vI ct, vI ru, vI re], kI cI s1 8 cap, kI cI s2 9 wi, kO l0 1 [vI n, .ref l1, .ref l2, .ref l3, .ref l4, .ref l5, vI ru, vI re, vI ct, vI lfi1_3], kI cI l1 8 (cpZ cap lcap n), kI cI l2 8 lst1_4, kI cI l3 9 lwi1_5, kI cI l4 9 lpl1_6, kI cI l5 9 llk1_7] := hD
  refine lv_aload_n hx hb dX6_steps_15 rfl (lv_at hl 0 rfl) ?_
  refine va_get (D := dd) (ci := 6) (v := .ref l0) (C := RX6) (T := TX6) (N := 10) hx hb hts hi6 hown hK hP 0 rfl rfl 3 (by decide) (hts _ (List.mem_cons_of_mem _ (List.mem_append_left _ (List.mem_append_left _ (List.mem_append_left _ (List.mem_append_left _ (List.mem_append_left _ (List.mem_of_getElem? (i := 2) rfl)))))))) (fun _ h9 => h9) rfl dX6_steps_16 ?_
  refine va_get (D := dd) (ci := 1) (v := .ref l5) (C := RX1) (T := TX1) (N := 10) hx hb hts hi1 hown hK hP 4 rfl rfl 5 (by decide) (hts _ (List.mem_cons_of_mem _ (List.mem_append_left _ (List.mem_append_left _ (List.mem_append_left _ (List.mem_append_left _ (List.mem_append_left _ (List.mem_of_getElem? (i := 3) rfl)))))))) (fun _ h9 => h9) rfl dX6_steps_19 ?_
  refine lv_iload_n hx hb dX6_steps_22 rfl (lv_at hl 1 rfl) ?_
  refine z_iald hx hb hK hP 9 0 rfl rfl (i := v) (by omega) (by decide) dX6_steps_23 ?_
  subst hQ
  refine vx_ret ?_
  refine z_iret (z := (llk1_7 v)) hx hb hr hlocks dX6_steps_24 ((cpZ cap lcap n), lfi1_3, lst1_4, lwi1_5, lpl1_6, llk1_7) hK hS ⟨by omega, by omega⟩ hP hD ?_
  exact ⟨(hp12 v (by omega) (by omega)).2.1, by omega⟩

set_option maxHeartbeats 4000000 in
set_option maxRecDepth 100000 in
theorem c_X6_carsIn (l : Launch) (hfl : l.stackTraces = false) (dd : va_G) (cI cJ cC cS : ClassId) (x0 s0 h0 l0 m0 p0 e0 w0 t0 s1 s2 l1 l2 l3 l4 l5 : Nat) (n tl : Int) (cap wi : Int → Int) (ct ru re : Int) (lru lre lar lfi : Int) (lcap lst lwi lpl llk : Int → Int) (v : Int) (sz : Nat) (hn : 1 ≤ n ∧ n ≤ 8) (hct : 0 ≤ ct ∧ ct ≤ 9) (hcap : ∀ j : Int, 0 ≤ j → j < n → 0 ≤ cap j ∧ cap j ≤ 3) (hwi : ∀ j : Int, 0 ≤ j → j < ct → 0 ≤ wi j ∧ wi j < n) (hru : 0 ≤ ru ∧ ru ≤ 3) (hre : 0 ≤ re ∧ re ≤ 8) (hgv : rg v) : gXi l yX6_carsIn wsX6_carsIn 12 3 18 dd cI cJ cC cS [.ref x0, vI v] [kO x0 6 [vI n, .ref s0, .ref h0, .ref l0, .ref m0, .ref p0, .ref e0, .ref w0, .ref t0, vI tl], kO s0 5 [.ref s1, .ref s2, vI ct, vI ru, vI re], kI cI s1 8 cap, kI cI s2 9 wi, kO l0 1 [vI n, .ref l1, .ref l2, .ref l3, .ref l4, .ref l5, vI lru, vI lre, vI lar, vI lfi], kI cI l1 8 lcap, kI cI l2 8 lst, kI cI l3 9 lwi, kI cI l4 9 lpl, kI cI l5 9 llk] sz (fun (z : Int) (u : (Int → Int) × Int × (Int → Int) × (Int → Int) × (Int → Int) × (Int → Int)) => z = sumZ (fun c => if ppl n cap ru re wi c = v then 2 ^ c.toNat else 0) ct.toNat ∧ 0 ≤ v ∧ v < n) (fun (u : (Int → Int) × Int × (Int → Int) × (Int → Int) × (Int → Int) × (Int → Int)) => [kO x0 6 [vI n, .ref s0, .ref h0, .ref l0, .ref m0, .ref p0, .ref e0, .ref w0, .ref t0, vI tl], kO s0 5 [.ref s1, .ref s2, vI ct, vI ru, vI re], kI cI s1 8 cap, kI cI s2 9 wi, kO l0 1 [vI n, .ref l1, .ref l2, .ref l3, .ref l4, .ref l5, vI ru, vI re, vI ct, vI u.2.1], kI cI l1 8 u.1, kI cI l2 8 u.2.2.1, kI cI l3 9 u.2.2.2.1, kI cI l4 9 u.2.2.2.2.1, kI cI l5 9 u.2.2.2.2.2]) (fun (E : String) (_ : Unit) => E = xIO ∧ ¬ (0 ≤ v ∧ v < n)) (fun (_ : Unit) => [kO x0 6 [vI n, .ref s0, .ref h0, .ref l0, .ref m0, .ref p0, .ref e0, .ref w0, .ref t0, vI tl], kO s0 5 [.ref s1, .ref s2, vI ct, vI ru, vI re], kI cI s1 8 cap, kI cI s2 9 wi, kO l0 1 [vI n, .ref l1, .ref l2, .ref l3, .ref l4, .ref l5, vI lru, vI lre, vI lar, vI lfi], kI cI l1 8 lcap, kI cI l2 8 lst, kI cI l3 9 lwi, kI cI l4 9 lpl, kI cI l5 9 llk]) := by
  refine gXi_of (cc := cX6_carsIn) (maxL := 2) (ret := (some .int)) (by decide) rfl (Nat.le_of_ble_eq_true rfl) ?_
  intro p e s m args below meth c A Q hQ hE htb hx hb hr hts hown hlocks hnm hml H locs hP hK hD hA hS ls hl
  have hi6 : ∀ w ∈ wsX60, w ∈ wsX6_carsIn := fun _ h => (List.mem_cons_of_mem _ (List.mem_append_left _ (List.mem_append_left _ (List.mem_append_left _ (List.mem_append_right _ h)))))
  have hl : lv_has ls 2 [(0, .ref x0), (1, vI v)] := hl
  refine lv_iload_n hx hb dX6_carsIn_0 rfl (lv_at hl 1 rfl) ?_
  refine lv_aload_n hx hb dX6_carsIn_1 rfl (lv_at hl 0 rfl) ?_
  refine va_get (D := dd) (ci := 6) (v := vI n) (C := RX6) (T := TX6) (N := 10) hx hb hts hi6 hown hK hP 0 rfl rfl 0 (by decide) (hts _ (List.mem_cons_of_mem _ (List.mem_append_left _ (List.mem_append_left _ (List.mem_append_left _ (List.mem_append_left _ (List.mem_append_left _ (List.mem_of_getElem? (i := 0) rfl)))))))) (fun _ h9 => h9) rfl dX6_carsIn_2 ?_
  refine g_xcallSv (own := RX6) (n := 2) (mc := 1) (ms := 6) (As := [vI v, vI n]) (rest := []) (wc := []) (wr := [kO x0 6 [vI n, .ref s0, .ref h0, .ref l0, .ref m0, .ref p0, .ref e0, .ref w0, .ref t0, vI tl], kO s0 5 [.ref s1, .ref s2, vI ct, vI ru, vI re], kI cI s1 8 cap, kI cI s2 9 wi, kO l0 1 [vI n, .ref l1, .ref l2, .ref l3, .ref l4, .ref l5, vI lru, vI lre, vI lar, vI lfi], kI cI l1 8 lcap, kI cI l2 8 lst, kI cI l3 9 lwi, kI cI l4 9 lpl, kI cI l5 9 llk]) hx hb hml hown hts hK hP hD hS hA [] [0, 1, 2, 3, 4, 5, 6, 7, 8, 9] rfl rfl (by decide) (by decide) (c_X6_requireIndex l hfl dd cI cJ cC cS v n H.size  (by first | assumption | omega) (by first | assumption | omega)) gX6_carsIn_X6_requireIndex rfl (by decide +kernel) (by decide) (by decide) (by decide) (by decide) rfl hl.1 rfl (Nat.le_of_ble_eq_true rfl) dX6_carsIn_5 hE htb hlocks hQ ⟨by omega, by omega⟩ (fun E u hu => ⟨(), (by obtain ⟨he, hu⟩ := hu; first | exact ⟨he, by omega⟩ | exact Or.inl ⟨he, by omega⟩ | exact Or.inr ⟨he, by omega⟩ | exact Or.inr (Or.inl ⟨he, by omega⟩) | exact Or.inr (Or.inr ⟨he, by omega⟩)), fun H1 h => h.sub [0, 1, 2, 3, 4, 5, 6, 7, 8, 9] rfl, fun h => h.sub [0, 1, 2, 3, 4, 5, 6, 7, 8, 9] (by decide) rfl⟩) (fun u_1 H locs hp5 hP hD hS => ?_)
  have hP : va_P dd vwCl [kO x0 6 [vI n, .ref s0, .ref h0, .ref l0, .ref m0, .ref p0, .ref e0, .ref w0, .ref t0, vI tl], kO s0 5 [.ref s1, .ref s2, vI ct, vI ru, vI re], kI cI s1 8 cap, kI cI s2 9 wi, kO l0 1 [vI n, .ref l1, .ref l2, .ref l3, .ref l4, .ref l5, vI lru, vI lre, vI lar, vI lfi], kI cI l1 8 lcap, kI cI l2 8 lst, kI cI l3 9 lwi, kI cI l4 9 lpl, kI cI l5 9 llk] H := hP
  have hD : va_D A [kO x0 6 [vI n, .ref s0, .ref h0, .ref l0, .ref m0, .ref p0, .ref e0, .ref w0, .ref t0, vI tl], kO s0 5 [.ref s1, .ref s2, vI ct, vI ru, vI re], kI cI s1 8 cap, kI cI s2 9 wi, kO l0 1 [vI n, .ref l1, .ref l2, .ref l3, .ref l4, .ref l5, vI lru, vI lre, vI lar, vI lfi], kI cI l1 8 lcap, kI cI l2 8 lst, kI cI l3 9 lwi, kI cI l4 9 lpl, kI cI l5 9 llk] := hD
  refine lv_aload_n hx hb dX6_carsIn_8 rfl (lv_at hl 0 rfl) ?_
  refine g_callVv (own := RX6) (n := 0) (mc := 0) (ms := 0) (As := []) (rest := []) (wc := [kO x0 6 [vI n, .ref s0, .ref h0, .ref l0, .ref m0, .ref p0, .ref e0, .ref w0, .ref t0, vI tl], kO s0 5 [.ref s1, .ref s2, vI ct, vI ru, vI re], kI cI s1 8 cap, kI cI s2 9 wi, kO l0 1 [vI n, .ref l1, .ref l2, .ref l3, .ref l4, .ref l5, vI lru, vI lre, vI lar, vI lfi], kI cI l1 8 lcap, kI cI l2 8 lst, kI cI l3 9 lwi, kI cI l4 9 lpl, kI cI l5 9 llk]) (wr := []) hx hb hml hown hts hK hP hD hS hA [0, 1, 2, 3, 4, 5, 6, 7, 8, 9] [] rfl rfl (by decide) (by decide) 6 0 rfl rfl (c_X6_parkAll l dd cI cJ cC cS x0 s0 h0 l0 m0 p0 e0 w0 t0 s1 s2 l1 l2 l3 l4 l5 n tl cap wi ct ru re lru lre lar lfi lcap lst lwi lpl llk H.size  (by first | assumption | omega) (by first | assumption | omega) (by first | assumption | (intro j h0 h1; omega)) (by first | assumption | (intro j h0 h1; omega)) (by first | assumption | omega) (by first | assumption | omega)) gX6_carsIn_X6_parkAll rfl (by decide +kernel) (by decide) (by decide) (by decide) (by decide) rfl hl.1 rfl (Nat.le_of_ble_eq_true rfl) dX6_carsIn_9 (fun u_2 H locs hp9 hP hD hS => ?_)
  obtain ⟨lfi1_3, lst1_4, lwi1_5, lpl1_6, llk1_7⟩ := u_2
  try dsimp only at hp9
  have hP : va_P dd vwCl [kO x0 6 [vI n, .ref s0, .ref h0, .ref l0, .ref m0, .ref p0, .ref e0, .ref w0, .ref t0, vI tl], kO s0 5 [.ref s1, .ref s2, vI ct, vI ru, vI re], kI cI s1 8 cap, kI cI s2 9 wi, kO l0 1 [vI n, .ref l1, .ref l2, .ref l3, .ref l4, .ref l5, vI ru, vI re, vI ct, vI lfi1_3], kI cI l1 8 (cpZ cap lcap n), kI cI l2 8 lst1_4, kI cI l3 9 lwi1_5, kI cI l4 9 lpl1_6, kI cI l5 9 llk1_7] H := hP
  have hD : va_D A [kO x0 6 [vI n, .ref s0, .ref h0, .ref l0, .ref m0, .ref p0, .ref e0, .ref w0, .ref t0, vI tl], kO s0 5 [.ref s1, .ref s2, vI ct, vI ru, vI re], kI cI s1 8 cap, kI cI s2 9 wi, kO l0 1 [vI n, .ref l1, .ref l2, .ref l3, .ref l4, .ref l5, vI ru, vI re, vI ct, vI lfi1_3], kI cI l1 8 (cpZ cap lcap n), kI cI l2 8 lst1_4, kI cI l3 9 lwi1_5, kI cI l4 9 lpl1_6, kI cI l5 9 llk1_7] := hD
  refine lv_aload_n hx hb dX6_carsIn_12 rfl (lv_at hl 0 rfl) ?_
  refine va_get (D := dd) (ci := 6) (v := .ref l0) (C := RX6) (T := TX6) (N := 10) hx hb hts hi6 hown hK hP 0 rfl rfl 3 (by decide) (hts _ (List.mem_cons_of_mem _ (List.mem_append_left _ (List.mem_append_left _ (List.mem_append_left _ (List.mem_append_left _ (List.mem_append_left _ (List.mem_of_getElem? (i := 1) rfl)))))))) (fun _ h9 => h9) rfl dX6_carsIn_13 ?_
  refine lv_iload_n hx hb dX6_carsIn_16 rfl (lv_at hl 1 rfl) ?_
  refine g_callVi (own := RX6) (n := 1) (mc := 0) (ms := 0) (As := [vI v]) (rest := []) (wc := [kO l0 1 [vI n, .ref l1, .ref l2, .ref l3, .ref l4, .ref l5, vI ru, vI re, vI ct, vI lfi1_3], kI cI l1 8 (cpZ cap lcap n), kI cI l2 8 lst1_4, kI cI l3 9 lwi1_5, kI cI l4 9 lpl1_6, kI cI l5 9 llk1_7]) (wr := [kO x0 6 [vI n, .ref s0, .ref h0, .ref l0, .ref m0, .ref p0, .ref e0, .ref w0, .ref t0, vI tl], kO s0 5 [.ref s1, .ref s2, vI ct, vI ru, vI re], kI cI s1 8 cap, kI cI s2 9 wi]) hx hb hml hown hts hK hP hD hS hA [4, 5, 6, 7, 8, 9] [0, 1, 2, 3] rfl rfl (by decide) (by decide) 1 0 rfl rfl (c_X1_setOfCarsIn l dd cI cJ cC cS l0 l1 l2 l3 l4 l5 n ru re ct lfi1_3 (cpZ cap lcap n) lst1_4 lwi1_5 lpl1_6 llk1_7 v H.size  (by first | assumption | omega) (fun j h0 h1 => by have a1 := (hp9 j h0 h1).1; have a2 := ppl_rg n cap ru re wi j; rw [a1]; omega) (by omega)) gX6_carsIn_X1_setOfCarsIn rfl (by decide +kernel) (by decide) (by decide) (by decide) (by decide) rfl hl.1 rfl (Nat.le_of_ble_eq_true rfl) dX6_carsIn_17 (fun z_8 u_9 H locs hp17 hP hD hS => ?_)
  subst z_8
  have hP : va_P dd vwCl [kO x0 6 [vI n, .ref s0, .ref h0, .ref l0, .ref m0, .ref p0, .ref e0, .ref w0, .ref t0, vI tl], kO s0 5 [.ref s1, .ref s2, vI ct, vI ru, vI re], kI cI s1 8 cap, kI cI s2 9 wi, kO l0 1 [vI n, .ref l1, .ref l2, .ref l3, .ref l4, .ref l5, vI ru, vI re, vI ct, vI lfi1_3], kI cI l1 8 (cpZ cap lcap n), kI cI l2 8 lst1_4, kI cI l3 9 lwi1_5, kI cI l4 9 lpl1_6, kI cI l5 9 llk1_7] H := hP
  have hD : va_D A [kO x0 6 [vI n, .ref s0, .ref h0, .ref l0, .ref m0, .ref p0, .ref e0, .ref w0, .ref t0, vI tl], kO s0 5 [.ref s1, .ref s2, vI ct, vI ru, vI re], kI cI s1 8 cap, kI cI s2 9 wi, kO l0 1 [vI n, .ref l1, .ref l2, .ref l3, .ref l4, .ref l5, vI ru, vI re, vI ct, vI lfi1_3], kI cI l1 8 (cpZ cap lcap n), kI cI l2 8 lst1_4, kI cI l3 9 lwi1_5, kI cI l4 9 lpl1_6, kI cI l5 9 llk1_7] := hD
  subst hQ
  refine vx_ret ?_
  refine z_iret (z := sumZ (fun c => if lpl1_6 c = v then 2 ^ c.toNat else 0) ct.toNat) hx hb hr hlocks dX6_carsIn_20 ((cpZ cap lcap n), lfi1_3, lst1_4, lwi1_5, lpl1_6, llk1_7) hK hS ⟨by omega, by omega⟩ hP hD ?_
  exact ⟨sumZ_congr _ (fun j h0 h1 => by rw [(hp9 j h0 (by omega)).1]), by omega⟩

set_option maxHeartbeats 4000000 in
set_option maxRecDepth 100000 in
theorem c_X6_defect (l : Launch) (dd : va_G) (cI cJ cC cS : ClassId) (x0 s0 h0 l0 m0 p0 e0 w0 t0 s1 s2 l1 l2 l3 l4 l5 : Nat) (n tl : Int) (cap wi : Int → Int) (ct ru re : Int) (lru lre lar lfi : Int) (lcap lst lwi lpl llk : Int → Int) (sz : Nat) (hn : 1 ≤ n ∧ n ≤ 8) (hct : 0 ≤ ct ∧ ct ≤ 9) (hcap : ∀ j : Int, 0 ≤ j → j < n → 0 ≤ cap j ∧ cap j ≤ 3) (hwi : ∀ j : Int, 0 ≤ j → j < ct → 0 ≤ wi j ∧ wi j < n) (hru : 0 ≤ ru ∧ ru ≤ 3) (hre : 0 ≤ re ∧ re ≤ 8) : gMi l yX6_defect wsX6_defect 12 0 0 dd cI cJ cC cS [.ref x0] [kO x0 6 [vI n, .ref s0, .ref h0, .ref l0, .ref m0, .ref p0, .ref e0, .ref w0, .ref t0, vI tl], kO s0 5 [.ref s1, .ref s2, vI ct, vI ru, vI re], kI cI s1 8 cap, kI cI s2 9 wi, kO l0 1 [vI n, .ref l1, .ref l2, .ref l3, .ref l4, .ref l5, vI lru, vI lre, vI lar, vI lfi], kI cI l1 8 lcap, kI cI l2 8 lst, kI cI l3 9 lwi, kI cI l4 9 lpl, kI cI l5 9 llk] sz (fun (z : Int) (u : (Int → Int) × Int × (Int → Int) × (Int → Int) × (Int → Int) × (Int → Int)) => z = sumZ (fun c => if ppl n cap ru re wi c = -1 then 1 else 0) ct.toNat) (fun (u : (Int → Int) × Int × (Int → Int) × (Int → Int) × (Int → Int) × (Int → Int)) => [kO x0 6 [vI n, .ref s0, .ref h0, .ref l0, .ref m0, .ref p0, .ref e0, .ref w0, .ref t0, vI tl], kO s0 5 [.ref s1, .ref s2, vI ct, vI ru, vI re], kI cI s1 8 cap, kI cI s2 9 wi, kO l0 1 [vI n, .ref l1, .ref l2, .ref l3, .ref l4, .ref l5, vI ru, vI re, vI ct, vI u.2.1], kI cI l1 8 u.1, kI cI l2 8 u.2.2.1, kI cI l3 9 u.2.2.2.1, kI cI l4 9 u.2.2.2.2.1, kI cI l5 9 u.2.2.2.2.2]) := by
  refine gMi_of (cc := cX6_defect) (maxL := 1) (ret := (some .int)) (by decide) rfl (Nat.le_of_ble_eq_true rfl) ?_
  intro p e s m args below meth c A Q hQ hx hb hr hts hown hlocks hnm hml H locs hP hK hD hA hS ls hl
  have hi6 : ∀ w ∈ wsX60, w ∈ wsX6_defect := fun _ h => (List.mem_cons_of_mem _ (List.mem_append_left _ (List.mem_append_left _ (List.mem_append_right _ h))))
  have hl : lv_has ls 1 [(0, .ref x0)] := hl
  refine lv_aload_n hx hb dX6_defect_0 rfl (lv_at hl 0 rfl) ?_
  refine g_callVv (own := RX6) (n := 0) (mc := 0) (ms := 0) (As := []) (rest := []) (wc := [kO x0 6 [vI n, .ref s0, .ref h0, .ref l0, .ref m0, .ref p0, .ref e0, .ref w0, .ref t0, vI tl], kO s0 5 [.ref s1, .ref s2, vI ct, vI ru, vI re], kI cI s1 8 cap, kI cI s2 9 wi, kO l0 1 [vI n, .ref l1, .ref l2, .ref l3, .ref l4, .ref l5, vI lru, vI lre, vI lar, vI lfi], kI cI l1 8 lcap, kI cI l2 8 lst, kI cI l3 9 lwi, kI cI l4 9 lpl, kI cI l5 9 llk]) (wr := []) hx hb hml hown hts hK hP hD hS hA [0, 1, 2, 3, 4, 5, 6, 7, 8, 9] [] rfl rfl (by decide) (by decide) 6 0 rfl rfl (c_X6_parkAll l dd cI cJ cC cS x0 s0 h0 l0 m0 p0 e0 w0 t0 s1 s2 l1 l2 l3 l4 l5 n tl cap wi ct ru re lru lre lar lfi lcap lst lwi lpl llk H.size  (by first | assumption | omega) (by first | assumption | omega) (by first | assumption | (intro j h0 h1; omega)) (by first | assumption | (intro j h0 h1; omega)) (by first | assumption | omega) (by first | assumption | omega)) gX6_defect_X6_parkAll rfl (by decide +kernel) (by decide) (by decide) (by decide) (by decide) rfl hl.1 rfl (Nat.le_of_ble_eq_true rfl) dX6_defect_1 (fun u_1 H locs hp1 hP hD hS => ?_)
  obtain ⟨lfi1_2, lst1_3, lwi1_4, lpl1_5, llk1_6⟩ := u_1
  try dsimp only at hp1
  have hP : va_P dd vwCl [kO x0 6 [vI n, .ref s0, .ref h0, .ref l0, .ref m0, .ref p0, .ref e0, .ref w0, .ref t0, vI tl], kO s0 5 [.ref s1, .ref s2, vI ct, vI ru, vI re], kI cI s1 8 cap, kI cI s2 9 wi, kO l0 1 [vI n, .ref l1, .ref l2, .ref l3, .ref l4, .ref l5, vI ru, vI re, vI ct, vI lfi1_2], kI cI l1 8 (cpZ cap lcap n), kI cI l2 8 lst1_3, kI cI l3 9 lwi1_4, kI cI l4 9 lpl1_5, kI cI l5 9 llk1_6] H := hP
  have hD : va_D A [kO x0 6 [vI n, .ref s0, .ref h0, .ref l0, .ref m0, .ref p0, .ref e0, .ref w0, .ref t0, vI tl], kO s0 5 [.ref s1, .ref s2, vI ct, vI ru, vI re], kI cI s1 8 cap, kI cI s2 9 wi, kO l0 1 [vI n, .ref l1, .ref l2, .ref l3, .ref l4, .ref l5, vI ru, vI re, vI ct, vI lfi1_2], kI cI l1 8 (cpZ cap lcap n), kI cI l2 8 lst1_3, kI cI l3 9 lwi1_4, kI cI l4 9 lpl1_5, kI cI l5 9 llk1_6] := hD
  refine lv_aload_n hx hb dX6_defect_4 rfl (lv_at hl 0 rfl) ?_
  refine va_get (D := dd) (ci := 6) (v := .ref l0) (C := RX6) (T := TX6) (N := 10) hx hb hts hi6 hown hK hP 0 rfl rfl 3 (by decide) (hts _ (List.mem_cons_of_mem _ (List.mem_append_left _ (List.mem_append_left _ (List.mem_append_left _ (List.mem_append_left _ (List.mem_of_getElem? (i := 0) rfl))))))) (fun _ h9 => h9) rfl dX6_defect_5 ?_
  refine g_callVi (own := RX6) (n := 0) (mc := 0) (ms := 0) (As := []) (rest := []) (wc := [kO l0 1 [vI n, .ref l1, .ref l2, .ref l3, .ref l4, .ref l5, vI ru, vI re, vI ct, vI lfi1_2], kI cI l1 8 (cpZ cap lcap n), kI cI l2 8 lst1_3, kI cI l3 9 lwi1_4, kI cI l4 9 lpl1_5, kI cI l5 9 llk1_6]) (wr := [kO x0 6 [vI n, .ref s0, .ref h0, .ref l0, .ref m0, .ref p0, .ref e0, .ref w0, .ref t0, vI tl], kO s0 5 [.ref s1, .ref s2, vI ct, vI ru, vI re], kI cI s1 8 cap, kI cI s2 9 wi]) hx hb hml hown hts hK hP hD hS hA [4, 5, 6, 7, 8, 9] [0, 1, 2, 3] rfl rfl (by decide) (by decide) 1 0 rfl rfl (c_X1_countOfLeavers l dd cI cJ cC cS l0 l1 l2 l3 l4 l5 n ru re ct lfi1_2 (cpZ cap lcap n) lst1_3 lwi1_4 lpl1_5 llk1_6 H.size  (by first | assumption | omega) (fun j h0 h1 => by have a1 := (hp1 j h0 h1).1; have a2 := ppl_rg n cap ru re wi j; rw [a1]; omega)) gX6_defect_X1_countOfLeavers rfl (by decide +kernel) (by decide) (by decide) (by decide) (by decide) rfl hl.1 rfl (Nat.le_of_ble_eq_true rfl) dX6_defect_8 (fun z_7 u_8 H locs hp8 hP hD hS => ?_)
  subst z_7
  have hP : va_P dd vwCl [kO x0 6 [vI n, .ref s0, .ref h0, .ref l0, .ref m0, .ref p0, .ref e0, .ref w0, .ref t0, vI tl], kO s0 5 [.ref s1, .ref s2, vI ct, vI ru, vI re], kI cI s1 8 cap, kI cI s2 9 wi, kO l0 1 [vI n, .ref l1, .ref l2, .ref l3, .ref l4, .ref l5, vI ru, vI re, vI ct, vI lfi1_2], kI cI l1 8 (cpZ cap lcap n), kI cI l2 8 lst1_3, kI cI l3 9 lwi1_4, kI cI l4 9 lpl1_5, kI cI l5 9 llk1_6] H := hP
  have hD : va_D A [kO x0 6 [vI n, .ref s0, .ref h0, .ref l0, .ref m0, .ref p0, .ref e0, .ref w0, .ref t0, vI tl], kO s0 5 [.ref s1, .ref s2, vI ct, vI ru, vI re], kI cI s1 8 cap, kI cI s2 9 wi, kO l0 1 [vI n, .ref l1, .ref l2, .ref l3, .ref l4, .ref l5, vI ru, vI re, vI ct, vI lfi1_2], kI cI l1 8 (cpZ cap lcap n), kI cI l2 8 lst1_3, kI cI l3 9 lwi1_4, kI cI l4 9 lpl1_5, kI cI l5 9 llk1_6] := hD
  subst hQ
  refine z_iret (z := sumZ (fun c => if lpl1_5 c = -1 then 1 else 0) ct.toNat) hx hb hr hlocks dX6_defect_11 ((cpZ cap lcap n), lfi1_2, lst1_3, lwi1_4, lpl1_5, llk1_6) hK hS ⟨by omega, by omega⟩ hP hD ?_
  exact sumZ_congr _ (fun j h0 h1 => by rw [(hp1 j h0 (by omega)).1])

set_option maxHeartbeats 4000000 in
set_option maxRecDepth 100000 in
theorem c_X6_lucky (l : Launch) (dd : va_G) (cI cJ cC cS : ClassId) (x0 s0 h0 l0 m0 p0 e0 w0 t0 s1 s2 l1 l2 l3 l4 l5 : Nat) (n tl : Int) (cap wi : Int → Int) (ct ru re : Int) (lru lre lar lfi : Int) (lcap lst lwi lpl llk : Int → Int) (sz : Nat) (hn : 1 ≤ n ∧ n ≤ 8) (hct : 0 ≤ ct ∧ ct ≤ 9) (hcap : ∀ j : Int, 0 ≤ j → j < n → 0 ≤ cap j ∧ cap j ≤ 3) (hwi : ∀ j : Int, 0 ≤ j → j < ct → 0 ≤ wi j ∧ wi j < n) (hru : 0 ≤ ru ∧ ru ≤ 3) (hre : 0 ≤ re ∧ re ≤ 8) : gMi l yX6_lucky wsX6_lucky 12 0 0 dd cI cJ cC cS [.ref x0] [kO x0 6 [vI n, .ref s0, .ref h0, .ref l0, .ref m0, .ref p0, .ref e0, .ref w0, .ref t0, vI tl], kO s0 5 [.ref s1, .ref s2, vI ct, vI ru, vI re], kI cI s1 8 cap, kI cI s2 9 wi, kO l0 1 [vI n, .ref l1, .ref l2, .ref l3, .ref l4, .ref l5, vI lru, vI lre, vI lar, vI lfi], kI cI l1 8 lcap, kI cI l2 8 lst, kI cI l3 9 lwi, kI cI l4 9 lpl, kI cI l5 9 llk] sz (fun (z : Int) (u : (Int → Int) × Int × (Int → Int) × (Int → Int) × (Int → Int) × (Int → Int)) => z = sumZ (fun c => if ppl n cap ru re wi c = wi c then 2 ^ c.toNat else 0) ct.toNat) (fun (u : (Int → Int) × Int × (Int → Int) × (Int → Int) × (Int → Int) × (Int → Int)) => [kO x0 6 [vI n, .ref s0, .ref h0, .ref l0, .ref m0, .ref p0, .ref e0, .ref w0, .ref t0, vI tl], kO s0 5 [.ref s1, .ref s2, vI ct, vI ru, vI re], kI cI s1 8 cap, kI cI s2 9 wi, kO l0 1 [vI n, .ref l1, .ref l2, .ref l3, .ref l4, .ref l5, vI ru, vI re, vI ct, vI u.2.1], kI cI l1 8 u.1, kI cI l2 8 u.2.2.1, kI cI l3 9 u.2.2.2.1, kI cI l4 9 u.2.2.2.2.1, kI cI l5 9 u.2.2.2.2.2]) := by
  refine gMi_of (cc := cX6_lucky) (maxL := 1) (ret := (some .int)) (by decide) rfl (Nat.le_of_ble_eq_true rfl) ?_
  intro p e s m args below meth c A Q hQ hx hb hr hts hown hlocks hnm hml H locs hP hK hD hA hS ls hl
  have hi6 : ∀ w ∈ wsX60, w ∈ wsX6_lucky := fun _ h => (List.mem_cons_of_mem _ (List.mem_append_left _ (List.mem_append_left _ (List.mem_append_right _ h))))
  have hl : lv_has ls 1 [(0, .ref x0)] := hl
  refine lv_aload_n hx hb dX6_lucky_0 rfl (lv_at hl 0 rfl) ?_
  refine g_callVv (own := RX6) (n := 0) (mc := 0) (ms := 0) (As := []) (rest := []) (wc := [kO x0 6 [vI n, .ref s0, .ref h0, .ref l0, .ref m0, .ref p0, .ref e0, .ref w0, .ref t0, vI tl], kO s0 5 [.ref s1, .ref s2, vI ct, vI ru, vI re], kI cI s1 8 cap, kI cI s2 9 wi, kO l0 1 [vI n, .ref l1, .ref l2, .ref l3, .ref l4, .ref l5, vI lru, vI lre, vI lar, vI lfi], kI cI l1 8 lcap, kI cI l2 8 lst, kI cI l3 9 lwi, kI cI l4 9 lpl, kI cI l5 9 llk]) (wr := []) hx hb hml hown hts hK hP hD hS hA [0, 1, 2, 3, 4, 5, 6, 7, 8, 9] [] rfl rfl (by decide) (by decide) 6 0 rfl rfl (c_X6_parkAll l dd cI cJ cC cS x0 s0 h0 l0 m0 p0 e0 w0 t0 s1 s2 l1 l2 l3 l4 l5 n tl cap wi ct ru re lru lre lar lfi lcap lst lwi lpl llk H.size  (by first | assumption | omega) (by first | assumption | omega) (by first | assumption | (intro j h0 h1; omega)) (by first | assumption | (intro j h0 h1; omega)) (by first | assumption | omega) (by first | assumption | omega)) gX6_lucky_X6_parkAll rfl (by decide +kernel) (by decide) (by decide) (by decide) (by decide) rfl hl.1 rfl (Nat.le_of_ble_eq_true rfl) dX6_lucky_1 (fun u_1 H locs hp1 hP hD hS => ?_)
  obtain ⟨lfi1_2, lst1_3, lwi1_4, lpl1_5, llk1_6⟩ := u_1
  try dsimp only at hp1
  have hP : va_P dd vwCl [kO x0 6 [vI n, .ref s0, .ref h0, .ref l0, .ref m0, .ref p0, .ref e0, .ref w0, .ref t0, vI tl], kO s0 5 [.ref s1, .ref s2, vI ct, vI ru, vI re], kI cI s1 8 cap, kI cI s2 9 wi, kO l0 1 [vI n, .ref l1, .ref l2, .ref l3, .ref l4, .ref l5, vI ru, vI re, vI ct, vI lfi1_2], kI cI l1 8 (cpZ cap lcap n), kI cI l2 8 lst1_3, kI cI l3 9 lwi1_4, kI cI l4 9 lpl1_5, kI cI l5 9 llk1_6] H := hP
  have hD : va_D A [kO x0 6 [vI n, .ref s0, .ref h0, .ref l0, .ref m0, .ref p0, .ref e0, .ref w0, .ref t0, vI tl], kO s0 5 [.ref s1, .ref s2, vI ct, vI ru, vI re], kI cI s1 8 cap, kI cI s2 9 wi, kO l0 1 [vI n, .ref l1, .ref l2, .ref l3, .ref l4, .ref l5, vI ru, vI re, vI ct, vI lfi1_2], kI cI l1 8 (cpZ cap lcap n), kI cI l2 8 lst1_3, kI cI l3 9 lwi1_4, kI cI l4 9 lpl1_5, kI cI l5 9 llk1_6] := hD
  refine lv_aload_n hx hb dX6_lucky_4 rfl (lv_at hl 0 rfl) ?_
  refine va_get (D := dd) (ci := 6) (v := .ref l0) (C := RX6) (T := TX6) (N := 10) hx hb hts hi6 hown hK hP 0 rfl rfl 3 (by decide) (hts _ (List.mem_cons_of_mem _ (List.mem_append_left _ (List.mem_append_left _ (List.mem_append_left _ (List.mem_append_left _ (List.mem_of_getElem? (i := 0) rfl))))))) (fun _ h9 => h9) rfl dX6_lucky_5 ?_
  refine g_callVi (own := RX6) (n := 0) (mc := 0) (ms := 0) (As := []) (rest := []) (wc := [kO l0 1 [vI n, .ref l1, .ref l2, .ref l3, .ref l4, .ref l5, vI ru, vI re, vI ct, vI lfi1_2], kI cI l1 8 (cpZ cap lcap n), kI cI l2 8 lst1_3, kI cI l3 9 lwi1_4, kI cI l4 9 lpl1_5, kI cI l5 9 llk1_6]) (wr := [kO x0 6 [vI n, .ref s0, .ref h0, .ref l0, .ref m0, .ref p0, .ref e0, .ref w0, .ref t0, vI tl], kO s0 5 [.ref s1, .ref s2, vI ct, vI ru, vI re], kI cI s1 8 cap, kI cI s2 9 wi]) hx hb hml hown hts hK hP hD hS hA [4, 5, 6, 7, 8, 9] [0, 1, 2, 3] rfl rfl (by decide) (by decide) 1 0 rfl rfl (c_X1_setOfLuckyCars l dd cI cJ cC cS l0 l1 l2 l3 l4 l5 n ru re ct lfi1_2 (cpZ cap lcap n) lst1_3 lwi1_4 lpl1_5 llk1_6 H.size  (by first | assumption | omega) (fun j h0 h1 => by have a1 := (hp1 j h0 h1).1; have a2 := ppl_rg n cap ru re wi j; rw [a1]; omega) (fun j h0 h1 => by have a1 := (hp1 j h0 h1).2.2; have a2 := hwi j h0 h1; rw [a1]; omega)) gX6_lucky_X1_setOfLuckyCars rfl (by decide +kernel) (by decide) (by decide) (by decide) (by decide) rfl hl.1 rfl (Nat.le_of_ble_eq_true rfl) dX6_lucky_8 (fun z_7 u_8 H locs hp8 hP hD hS => ?_)
  subst z_7
  have hP : va_P dd vwCl [kO x0 6 [vI n, .ref s0, .ref h0, .ref l0, .ref m0, .ref p0, .ref e0, .ref w0, .ref t0, vI tl], kO s0 5 [.ref s1, .ref s2, vI ct, vI ru, vI re], kI cI s1 8 cap, kI cI s2 9 wi, kO l0 1 [vI n, .ref l1, .ref l2, .ref l3, .ref l4, .ref l5, vI ru, vI re, vI ct, vI lfi1_2], kI cI l1 8 (cpZ cap lcap n), kI cI l2 8 lst1_3, kI cI l3 9 lwi1_4, kI cI l4 9 lpl1_5, kI cI l5 9 llk1_6] H := hP
  have hD : va_D A [kO x0 6 [vI n, .ref s0, .ref h0, .ref l0, .ref m0, .ref p0, .ref e0, .ref w0, .ref t0, vI tl], kO s0 5 [.ref s1, .ref s2, vI ct, vI ru, vI re], kI cI s1 8 cap, kI cI s2 9 wi, kO l0 1 [vI n, .ref l1, .ref l2, .ref l3, .ref l4, .ref l5, vI ru, vI re, vI ct, vI lfi1_2], kI cI l1 8 (cpZ cap lcap n), kI cI l2 8 lst1_3, kI cI l3 9 lwi1_4, kI cI l4 9 lpl1_5, kI cI l5 9 llk1_6] := hD
  subst hQ
  refine z_iret (z := sumZ (fun c => if lpl1_5 c = lwi1_4 c then 2 ^ c.toNat else 0) ct.toNat) hx hb hr hlocks dX6_lucky_11 ((cpZ cap lcap n), lfi1_2, lst1_3, lwi1_4, lpl1_5, llk1_6) hK hS ⟨by omega, by omega⟩ hP hD ?_
  exact sumZ_congr _ (fun j h0 h1 => by rw [(hp1 j h0 (by omega)).1, (hp1 j h0 (by omega)).2.2])

set_option maxHeartbeats 4000000 in
set_option maxRecDepth 100000 in
theorem c_X6_displacement (l : Launch) (dd : va_G) (cI cJ cC cS : ClassId) (x0 s0 h0 l0 m0 p0 e0 w0 t0 s1 s2 l1 l2 l3 l4 l5 : Nat) (n tl : Int) (cap wi : Int → Int) (ct ru re : Int) (lru lre lar lfi : Int) (lcap lst lwi lpl llk : Int → Int) (sz : Nat) (hn : 1 ≤ n ∧ n ≤ 8) (hct : 0 ≤ ct ∧ ct ≤ 9) (hcap : ∀ j : Int, 0 ≤ j → j < n → 0 ≤ cap j ∧ cap j ≤ 3) (hwi : ∀ j : Int, 0 ≤ j → j < ct → 0 ≤ wi j ∧ wi j < n) (hru : 0 ≤ ru ∧ ru ≤ 3) (hre : 0 ≤ re ∧ re ≤ 8) : gMi l yX6_displacement wsX6_displacement 12 0 0 dd cI cJ cC cS [.ref x0] [kO x0 6 [vI n, .ref s0, .ref h0, .ref l0, .ref m0, .ref p0, .ref e0, .ref w0, .ref t0, vI tl], kO s0 5 [.ref s1, .ref s2, vI ct, vI ru, vI re], kI cI s1 8 cap, kI cI s2 9 wi, kO l0 1 [vI n, .ref l1, .ref l2, .ref l3, .ref l4, .ref l5, vI lru, vI lre, vI lar, vI lfi], kI cI l1 8 lcap, kI cI l2 8 lst, kI cI l3 9 lwi, kI cI l4 9 lpl, kI cI l5 9 llk] sz (fun (z : Int) (u : (Int → Int) × Int × (Int → Int) × (Int → Int) × (Int → Int) × (Int → Int)) => z = sumZ (fun c => if ppl n cap ru re wi c = -1 then 0 else if 0 ≤ ppl n cap ru re wi c - wi c then ppl n cap ru re wi c - wi c else -(ppl n cap ru re wi c - wi c)) ct.toNat) (fun (u : (Int → Int) × Int × (Int → Int) × (Int → Int) × (Int → Int) × (Int → Int)) => [kO x0 6 [vI n, .ref s0, .ref h0, .ref l0, .ref m0, .ref p0, .ref e0, .ref w0, .ref t0, vI tl], kO s0 5 [.ref s1, .ref s2, vI ct, vI ru, vI re], kI cI s1 8 cap, kI cI s2 9 wi, kO l0 1 [vI n, .ref l1, .ref l2, .ref l3, .ref l4, .ref l5, vI ru, vI re, vI ct, vI u.2.1], kI cI l1 8 u.1, kI cI l2 8 u.2.2.1, kI cI l3 9 u.2.2.2.1, kI cI l4 9 u.2.2.2.2.1, kI cI l5 9 u.2.2.2.2.2]) := by
  refine gMi_of (cc := cX6_displacement) (maxL := 1) (ret := (some .int)) (by decide) rfl (Nat.le_of_ble_eq_true rfl) ?_
  intro p e s m args below meth c A Q hQ hx hb hr hts hown hlocks hnm hml H locs hP hK hD hA hS ls hl
  have hi6 : ∀ w ∈ wsX60, w ∈ wsX6_displacement := fun _ h => (List.mem_cons_of_mem _ (List.mem_append_left _ (List.mem_append_left _ (List.mem_append_right _ h))))
  have hl : lv_has ls 1 [(0, .ref x0)] := hl
  refine lv_aload_n hx hb dX6_displacement_0 rfl (lv_at hl 0 rfl) ?_
  refine g_callVv (own := RX6) (n := 0) (mc := 0) (ms := 0) (As := []) (rest := []) (wc := [kO x0 6 [vI n, .ref s0, .ref h0, .ref l0, .ref m0, .ref p0, .ref e0, .ref w0, .ref t0, vI tl], kO s0 5 [.ref s1, .ref s2, vI ct, vI ru, vI re], kI cI s1 8 cap, kI cI s2 9 wi, kO l0 1 [vI n, .ref l1, .ref l2, .ref l3, .ref l4, .ref l5, vI lru, vI lre, vI lar, vI lfi], kI cI l1 8 lcap, kI cI l2 8 lst, kI cI l3 9 lwi, kI cI l4 9 lpl, kI cI l5 9 llk]) (wr := []) hx hb hml hown hts hK hP hD hS hA [0, 1, 2, 3, 4, 5, 6, 7, 8, 9] [] rfl rfl (by decide) (by decide) 6 0 rfl rfl (c_X6_parkAll l dd cI cJ cC cS x0 s0 h0 l0 m0 p0 e0 w0 t0 s1 s2 l1 l2 l3 l4 l5 n tl cap wi ct ru re lru lre lar lfi lcap lst lwi lpl llk H.size  (by first | assumption | omega) (by first | assumption | omega) (by first | assumption | (intro j h0 h1; omega)) (by first | assumption | (intro j h0 h1; omega)) (by first | assumption | omega) (by first | assumption | omega)) gX6_displacement_X6_parkAll rfl (by decide +kernel) (by decide) (by decide) (by decide) (by decide) rfl hl.1 rfl (Nat.le_of_ble_eq_true rfl) dX6_displacement_1 (fun u_1 H locs hp1 hP hD hS => ?_)
  obtain ⟨lfi1_2, lst1_3, lwi1_4, lpl1_5, llk1_6⟩ := u_1
  try dsimp only at hp1
  have hP : va_P dd vwCl [kO x0 6 [vI n, .ref s0, .ref h0, .ref l0, .ref m0, .ref p0, .ref e0, .ref w0, .ref t0, vI tl], kO s0 5 [.ref s1, .ref s2, vI ct, vI ru, vI re], kI cI s1 8 cap, kI cI s2 9 wi, kO l0 1 [vI n, .ref l1, .ref l2, .ref l3, .ref l4, .ref l5, vI ru, vI re, vI ct, vI lfi1_2], kI cI l1 8 (cpZ cap lcap n), kI cI l2 8 lst1_3, kI cI l3 9 lwi1_4, kI cI l4 9 lpl1_5, kI cI l5 9 llk1_6] H := hP
  have hD : va_D A [kO x0 6 [vI n, .ref s0, .ref h0, .ref l0, .ref m0, .ref p0, .ref e0, .ref w0, .ref t0, vI tl], kO s0 5 [.ref s1, .ref s2, vI ct, vI ru, vI re], kI cI s1 8 cap, kI cI s2 9 wi, kO l0 1 [vI n, .ref l1, .ref l2, .ref l3, .ref l4, .ref l5, vI ru, vI re, vI ct, vI lfi1_2], kI cI l1 8 (cpZ cap lcap n), kI cI l2 8 lst1_3, kI cI l3 9 lwi1_4, kI cI l4 9 lpl1_5, kI cI l5 9 llk1_6] := hD
  refine lv_aload_n hx hb dX6_displacement_4 rfl (lv_at hl 0 rfl) ?_
  refine va_get (D := dd) (ci := 6) (v := .ref l0) (C := RX6) (T := TX6) (N := 10) hx hb hts hi6 hown hK hP 0 rfl rfl 3 (by decide) (hts _ (List.mem_cons_of_mem _ (List.mem_append_left _ (List.mem_append_left _ (List.mem_append_left _ (List.mem_append_left _ (List.mem_of_getElem? (i := 0) rfl))))))) (fun _ h9 => h9) rfl dX6_displacement_5 ?_
  refine g_callVi (own := RX6) (n := 0) (mc := 0) (ms := 0) (As := []) (rest := []) (wc := [kO l0 1 [vI n, .ref l1, .ref l2, .ref l3, .ref l4, .ref l5, vI ru, vI re, vI ct, vI lfi1_2], kI cI l1 8 (cpZ cap lcap n), kI cI l2 8 lst1_3, kI cI l3 9 lwi1_4, kI cI l4 9 lpl1_5, kI cI l5 9 llk1_6]) (wr := [kO x0 6 [vI n, .ref s0, .ref h0, .ref l0, .ref m0, .ref p0, .ref e0, .ref w0, .ref t0, vI tl], kO s0 5 [.ref s1, .ref s2, vI ct, vI ru, vI re], kI cI s1 8 cap, kI cI s2 9 wi]) hx hb hml hown hts hK hP hD hS hA [4, 5, 6, 7, 8, 9] [0, 1, 2, 3] rfl rfl (by decide) (by decide) 1 0 rfl rfl (c_X1_sumOfDistances l dd cI cJ cC cS l0 l1 l2 l3 l4 l5 n ru re ct lfi1_2 (cpZ cap lcap n) lst1_3 lwi1_4 lpl1_5 llk1_6 H.size  (by first | assumption | omega) (fun j h0 h1 => by have a1 := (hp1 j h0 h1).1; have a2 := ppl_rg n cap ru re wi j; rw [a1]; omega) (fun j h0 h1 => by have a1 := (hp1 j h0 h1).2.2; have a2 := hwi j h0 h1; rw [a1]; omega)) gX6_displacement_X1_sumOfDistances rfl (by decide +kernel) (by decide) (by decide) (by decide) (by decide) rfl hl.1 rfl (Nat.le_of_ble_eq_true rfl) dX6_displacement_8 (fun z_7 u_8 H locs hp8 hP hD hS => ?_)
  subst z_7
  have hP : va_P dd vwCl [kO x0 6 [vI n, .ref s0, .ref h0, .ref l0, .ref m0, .ref p0, .ref e0, .ref w0, .ref t0, vI tl], kO s0 5 [.ref s1, .ref s2, vI ct, vI ru, vI re], kI cI s1 8 cap, kI cI s2 9 wi, kO l0 1 [vI n, .ref l1, .ref l2, .ref l3, .ref l4, .ref l5, vI ru, vI re, vI ct, vI lfi1_2], kI cI l1 8 (cpZ cap lcap n), kI cI l2 8 lst1_3, kI cI l3 9 lwi1_4, kI cI l4 9 lpl1_5, kI cI l5 9 llk1_6] H := hP
  have hD : va_D A [kO x0 6 [vI n, .ref s0, .ref h0, .ref l0, .ref m0, .ref p0, .ref e0, .ref w0, .ref t0, vI tl], kO s0 5 [.ref s1, .ref s2, vI ct, vI ru, vI re], kI cI s1 8 cap, kI cI s2 9 wi, kO l0 1 [vI n, .ref l1, .ref l2, .ref l3, .ref l4, .ref l5, vI ru, vI re, vI ct, vI lfi1_2], kI cI l1 8 (cpZ cap lcap n), kI cI l2 8 lst1_3, kI cI l3 9 lwi1_4, kI cI l4 9 lpl1_5, kI cI l5 9 llk1_6] := hD
  subst hQ
  refine z_iret (z := sumZ (fun c => if lpl1_5 c = -1 then 0 else if 0 ≤ lpl1_5 c - lwi1_4 c then lpl1_5 c - lwi1_4 c else -(lpl1_5 c - lwi1_4 c)) ct.toNat) hx hb hr hlocks dX6_displacement_11 ((cpZ cap lcap n), lfi1_2, lst1_3, lwi1_4, lpl1_5, llk1_6) hK hS ⟨by omega, by omega⟩ hP hD ?_
  exact sumZ_congr _ (fun j h0 h1 => by rw [(hp1 j h0 (by omega)).1, (hp1 j h0 (by omega)).2.2])

set_option maxHeartbeats 4000000 in
set_option maxRecDepth 100000 in
theorem c_X6_firstLeaving (l : Launch) (dd : va_G) (cI cJ cC cS : ClassId) (x0 s0 h0 l0 m0 p0 e0 w0 t0 s1 s2 l1 l2 l3 l4 l5 : Nat) (n tl : Int) (cap wi : Int → Int) (ct ru re : Int) (lru lre lar lfi : Int) (lcap lst lwi lpl llk : Int → Int) (sz : Nat) (hn : 1 ≤ n ∧ n ≤ 8) (hct : 0 ≤ ct ∧ ct ≤ 9) (hcap : ∀ j : Int, 0 ≤ j → j < n → 0 ≤ cap j ∧ cap j ≤ 3) (hwi : ∀ j : Int, 0 ≤ j → j < ct → 0 ≤ wi j ∧ wi j < n) (hru : 0 ≤ ru ∧ ru ≤ 3) (hre : 0 ≤ re ∧ re ≤ 8) : gMi l yX6_firstLeaving wsX6_firstLeaving 12 0 0 dd cI cJ cC cS [.ref x0] [kO x0 6 [vI n, .ref s0, .ref h0, .ref l0, .ref m0, .ref p0, .ref e0, .ref w0, .ref t0, vI tl], kO s0 5 [.ref s1, .ref s2, vI ct, vI ru, vI re], kI cI s1 8 cap, kI cI s2 9 wi, kO l0 1 [vI n, .ref l1, .ref l2, .ref l3, .ref l4, .ref l5, vI lru, vI lre, vI lar, vI lfi], kI cI l1 8 lcap, kI cI l2 8 lst, kI cI l3 9 lwi, kI cI l4 9 lpl, kI cI l5 9 llk] sz (fun (z : Int) (u : (Int → Int) × Int × (Int → Int) × (Int → Int) × (Int → Int) × (Int → Int)) => ((0 ≤ z ∧ z < ct ∧ ppl n cap ru re wi z = -1 ∧ ∀ j : Int, 0 ≤ j → j < z → ppl n cap ru re wi j ≠ -1) ∨ (z = -1 ∧ ∀ j : Int, 0 ≤ j → j < ct → ppl n cap ru re wi j ≠ -1))) (fun (u : (Int → Int) × Int × (Int → Int) × (Int → Int) × (Int → Int) × (Int → Int)) => [kO x0 6 [vI n, .ref s0, .ref h0, .ref l0, .ref m0, .ref p0, .ref e0, .ref w0, .ref t0, vI tl], kO s0 5 [.ref s1, .ref s2, vI ct, vI ru, vI re], kI cI s1 8 cap, kI cI s2 9 wi, kO l0 1 [vI n, .ref l1, .ref l2, .ref l3, .ref l4, .ref l5, vI ru, vI re, vI ct, vI u.2.1], kI cI l1 8 u.1, kI cI l2 8 u.2.2.1, kI cI l3 9 u.2.2.2.1, kI cI l4 9 u.2.2.2.2.1, kI cI l5 9 u.2.2.2.2.2]) := by
  refine gMi_of (cc := cX6_firstLeaving) (maxL := 1) (ret := (some .int)) (by decide) rfl (Nat.le_of_ble_eq_true rfl) ?_
  intro p e s m args below meth c A Q hQ hx hb hr hts hown hlocks hnm hml H locs hP hK hD hA hS ls hl
  have hi6 : ∀ w ∈ wsX60, w ∈ wsX6_firstLeaving := fun _ h => (List.mem_cons_of_mem _ (List.mem_append_left _ (List.mem_append_left _ (List.mem_append_right _ h))))
  have hl : lv_has ls 1 [(0, .ref x0)] := hl
  refine lv_aload_n hx hb dX6_firstLeaving_0 rfl (lv_at hl 0 rfl) ?_
  refine g_callVv (own := RX6) (n := 0) (mc := 0) (ms := 0) (As := []) (rest := []) (wc := [kO x0 6 [vI n, .ref s0, .ref h0, .ref l0, .ref m0, .ref p0, .ref e0, .ref w0, .ref t0, vI tl], kO s0 5 [.ref s1, .ref s2, vI ct, vI ru, vI re], kI cI s1 8 cap, kI cI s2 9 wi, kO l0 1 [vI n, .ref l1, .ref l2, .ref l3, .ref l4, .ref l5, vI lru, vI lre, vI lar, vI lfi], kI cI l1 8 lcap, kI cI l2 8 lst, kI cI l3 9 lwi, kI cI l4 9 lpl, kI cI l5 9 llk]) (wr := []) hx hb hml hown hts hK hP hD hS hA [0, 1, 2, 3, 4, 5, 6, 7, 8, 9] [] rfl rfl (by decide) (by decide) 6 0 rfl rfl (c_X6_parkAll l dd cI cJ cC cS x0 s0 h0 l0 m0 p0 e0 w0 t0 s1 s2 l1 l2 l3 l4 l5 n tl cap wi ct ru re lru lre lar lfi lcap lst lwi lpl llk H.size  (by first | assumption | omega) (by first | assumption | omega) (by first | assumption | (intro j h0 h1; omega)) (by first | assumption | (intro j h0 h1; omega)) (by first | assumption | omega) (by first | assumption | omega)) gX6_firstLeaving_X6_parkAll rfl (by decide +kernel) (by decide) (by decide) (by decide) (by decide) rfl hl.1 rfl (Nat.le_of_ble_eq_true rfl) dX6_firstLeaving_1 (fun u_1 H locs hp1 hP hD hS => ?_)
  obtain ⟨lfi1_2, lst1_3, lwi1_4, lpl1_5, llk1_6⟩ := u_1
  try dsimp only at hp1
  have hP : va_P dd vwCl [kO x0 6 [vI n, .ref s0, .ref h0, .ref l0, .ref m0, .ref p0, .ref e0, .ref w0, .ref t0, vI tl], kO s0 5 [.ref s1, .ref s2, vI ct, vI ru, vI re], kI cI s1 8 cap, kI cI s2 9 wi, kO l0 1 [vI n, .ref l1, .ref l2, .ref l3, .ref l4, .ref l5, vI ru, vI re, vI ct, vI lfi1_2], kI cI l1 8 (cpZ cap lcap n), kI cI l2 8 lst1_3, kI cI l3 9 lwi1_4, kI cI l4 9 lpl1_5, kI cI l5 9 llk1_6] H := hP
  have hD : va_D A [kO x0 6 [vI n, .ref s0, .ref h0, .ref l0, .ref m0, .ref p0, .ref e0, .ref w0, .ref t0, vI tl], kO s0 5 [.ref s1, .ref s2, vI ct, vI ru, vI re], kI cI s1 8 cap, kI cI s2 9 wi, kO l0 1 [vI n, .ref l1, .ref l2, .ref l3, .ref l4, .ref l5, vI ru, vI re, vI ct, vI lfi1_2], kI cI l1 8 (cpZ cap lcap n), kI cI l2 8 lst1_3, kI cI l3 9 lwi1_4, kI cI l4 9 lpl1_5, kI cI l5 9 llk1_6] := hD
  refine lv_aload_n hx hb dX6_firstLeaving_4 rfl (lv_at hl 0 rfl) ?_
  refine va_get (D := dd) (ci := 6) (v := .ref l0) (C := RX6) (T := TX6) (N := 10) hx hb hts hi6 hown hK hP 0 rfl rfl 3 (by decide) (hts _ (List.mem_cons_of_mem _ (List.mem_append_left _ (List.mem_append_left _ (List.mem_append_left _ (List.mem_append_left _ (List.mem_of_getElem? (i := 0) rfl))))))) (fun _ h9 => h9) rfl dX6_firstLeaving_5 ?_
  refine g_callVi (own := RX6) (n := 0) (mc := 0) (ms := 0) (As := []) (rest := []) (wc := [kO l0 1 [vI n, .ref l1, .ref l2, .ref l3, .ref l4, .ref l5, vI ru, vI re, vI ct, vI lfi1_2], kI cI l1 8 (cpZ cap lcap n), kI cI l2 8 lst1_3, kI cI l3 9 lwi1_4, kI cI l4 9 lpl1_5, kI cI l5 9 llk1_6]) (wr := [kO x0 6 [vI n, .ref s0, .ref h0, .ref l0, .ref m0, .ref p0, .ref e0, .ref w0, .ref t0, vI tl], kO s0 5 [.ref s1, .ref s2, vI ct, vI ru, vI re], kI cI s1 8 cap, kI cI s2 9 wi]) hx hb hml hown hts hK hP hD hS hA [4, 5, 6, 7, 8, 9] [0, 1, 2, 3] rfl rfl (by decide) (by decide) 1 0 rfl rfl (c_X1_firstLeaver l dd cI cJ cC cS l0 l1 l2 l3 l4 l5 n ru re ct lfi1_2 (cpZ cap lcap n) lst1_3 lwi1_4 lpl1_5 llk1_6 H.size  (by first | assumption | omega) (fun j h0 h1 => by have a1 := (hp1 j h0 h1).1; have a2 := ppl_rg n cap ru re wi j; rw [a1]; omega)) gX6_firstLeaving_X1_firstLeaver rfl (by decide +kernel) (by decide) (by decide) (by decide) (by decide) rfl hl.1 rfl (Nat.le_of_ble_eq_true rfl) dX6_firstLeaving_8 (fun z_7 u_8 H locs hp8 hP hD hS => ?_)
  have hP : va_P dd vwCl [kO x0 6 [vI n, .ref s0, .ref h0, .ref l0, .ref m0, .ref p0, .ref e0, .ref w0, .ref t0, vI tl], kO s0 5 [.ref s1, .ref s2, vI ct, vI ru, vI re], kI cI s1 8 cap, kI cI s2 9 wi, kO l0 1 [vI n, .ref l1, .ref l2, .ref l3, .ref l4, .ref l5, vI ru, vI re, vI ct, vI lfi1_2], kI cI l1 8 (cpZ cap lcap n), kI cI l2 8 lst1_3, kI cI l3 9 lwi1_4, kI cI l4 9 lpl1_5, kI cI l5 9 llk1_6] H := hP
  have hD : va_D A [kO x0 6 [vI n, .ref s0, .ref h0, .ref l0, .ref m0, .ref p0, .ref e0, .ref w0, .ref t0, vI tl], kO s0 5 [.ref s1, .ref s2, vI ct, vI ru, vI re], kI cI s1 8 cap, kI cI s2 9 wi, kO l0 1 [vI n, .ref l1, .ref l2, .ref l3, .ref l4, .ref l5, vI ru, vI re, vI ct, vI lfi1_2], kI cI l1 8 (cpZ cap lcap n), kI cI l2 8 lst1_3, kI cI l3 9 lwi1_4, kI cI l4 9 lpl1_5, kI cI l5 9 llk1_6] := hD
  subst hQ
  refine z_iret (z := z_7) hx hb hr hlocks dX6_firstLeaving_11 ((cpZ cap lcap n), lfi1_2, lst1_3, lwi1_4, lpl1_5, llk1_6) hK hS ⟨by omega, by omega⟩ hP hD ?_
  rcases hp8 with ⟨a1, a2, a3, a4⟩ | ⟨a1, a2⟩
  · exact Or.inl ⟨a1, a2, by rw [← (hp1 _ a1 a2).1]; exact a3, fun j h0 h1 => by rw [← (hp1 j h0 (by omega)).1]; exact a4 j h0 h1⟩
  · exact Or.inr ⟨a1, fun j h0 h1 => by rw [← (hp1 j h0 h1).1]; exact a2 j h0 h1⟩
