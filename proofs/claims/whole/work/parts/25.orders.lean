/-! orders that park -/
def kwN (w : Int → Int) : Nat → Int
  | 0 => 0
  | k + 1 => kwN w k * 16 + w (k : Int)
theorem kwN_s {w : Int → Int} {i : Int} (h : 0 ≤ i) : kwN w (i + 1).toNat = kwN w i.toNat * 16 + w i := by
  obtain ⟨j, rfl⟩ := Int.eq_ofNat_of_zero_le h
  have e : ((j : Int) + 1).toNat = j + 1 := by omega
  rw [e, Int.toNat_natCast]
  rfl
theorem kwN_rg {w : Int → Int} : ∀ k : Nat, (∀ j : Int, 0 ≤ j → j < k → 0 ≤ w j ∧ w j ≤ 9) → 0 ≤ kwN w k ∧ kwN w k < 16 ^ k
  | 0, _ => by
    show (0 : Int) ≤ 0 ∧ (0 : Int) < 16 ^ 0
    decide
  | k + 1, h => by
    have h1 := kwN_rg k (fun j h0 h1 => h j h0 (by omega))
    have h2 := h (k : Int) (by omega) (by omega)
    show 0 ≤ kwN w k * 16 + w (k : Int) ∧ kwN w k * 16 + w (k : Int) < 16 ^ (k + 1)
    rw [Int.pow_succ]
    generalize (16 : Int) ^ k = y at h1 ⊢
    omega
theorem kwN_b {w : Int → Int} {i : Int} (hi : 0 ≤ i ∧ i ≤ 8) (h : ∀ j : Int, 0 ≤ j → j < 8 → 0 ≤ w j ∧ w j ≤ 9) : 0 ≤ kwN w i.toNat ∧ kwN w i.toNat < 4294967296 := by
  have h1 := kwN_rg (w := w) i.toNat (fun j h0 h1 => h j h0 (by omega))
  have h2 : ∀ k : Nat, k ≤ 8 → (16 : Int) ^ k ≤ 4294967296 := by decide
  have := h2 i.toNat (by omega)
  omega
theorem kwN_inj {w v : Int → Int} : ∀ k : Nat, (∀ j : Int, 0 ≤ j → j < k → 0 ≤ w j ∧ w j ≤ 9) → (∀ j : Int, 0 ≤ j → j < k → 0 ≤ v j ∧ v j ≤ 9) → kwN w k = kwN v k → ∀ j : Int, 0 ≤ j → j < k → w j = v j
  | 0, _, _, _ => fun j h0 h1 => absurd h1 (by omega)
  | k + 1, h, h2, q => by
    have q2 : kwN w k * 16 + w (k : Int) = kwN v k * 16 + v (k : Int) := q
    have a1 := h (k : Int) (by omega) (by omega)
    have a2 := h2 (k : Int) (by omega) (by omega)
    have q3 : kwN w k = kwN v k := by omega
    intro j h0 h1
    by_cases e : j = k
    · rw [e]
      omega
    · exact kwN_inj k (fun j h0 h1 => h j h0 (by omega)) (fun j h0 h1 => h2 j h0 (by omega)) q3 j h0 (by omega)
theorem zL_or2 {a b : Int} (k : Nat) (h : 0 ≤ a ∧ a < 2 ^ k ∧ 0 ≤ b ∧ b * 2 ^ k + a < 18446744073709551616) : zL (b * 2 ^ k) ||| zL a = zL (b * 2 ^ k + a) := by
  rw [Int64.or_comm, zL_or k h, Int.add_comm]
theorem uZ_back {f : Int → Int} {i : Int} : uZ (uZ f i (f i - 1)) i (uZ f i (f i - 1) i + 1) = f := by
  rw [uZ_same, uZ_uZ, show f i - 1 + 1 = f i by omega, uZ_self]
def dcr (w : Int → Int) (s : Int) : Int → Int := uZ w s (w s - 1)
def cO (n : Int) (cap : Int → Int) (ru re : Int) : Nat → (Int → Int) → (Int → Int) → Int
  | 0, _, _ => 1
  | m + 1, st, w => sumZ (fun s => if 0 < w s ∧ 0 ≤ pP n cap st ru re s then cO n cap ru re m (stp st (pP n cap st ru re s)) (dcr w s) else 0) n.toNat
def cU (n : Int) (cap : Int → Int) (ru re : Int) (m : Nat) (st w : Int → Int) (s : Int) : Int := if 0 < w s ∧ 0 ≤ pP n cap st ru re s then cO n cap ru re m (stp st (pP n cap st ru re s)) (dcr w s) else 0
theorem cO_s {n : Int} {cap : Int → Int} {ru re cm : Int} {st w : Int → Int} (h : 0 < cm) : cO n cap ru re cm.toNat st w = sumZ (fun s => cU n cap ru re (cm - 1).toNat st w s) n.toNat := by
  obtain ⟨k, hk⟩ : ∃ k : Nat, cm.toNat = k + 1 := ⟨cm.toNat - 1, by omega⟩
  rw [hk, show (cm - 1).toNat = k by omega]
  rfl
theorem cO_congr {n : Int} {cap cap2 : Int → Int} {ru re : Int} (hn : 1 ≤ n) (hc : ∀ j : Int, 0 ≤ j → j < n → cap j = cap2 j) : ∀ (m : Nat) (st st2 w w2 : Int → Int), (∀ j : Int, 0 ≤ j → j < n → st j = st2 j) → (∀ j : Int, 0 ≤ j → j < n → w j = w2 j) → cO n cap ru re m st w = cO n cap2 ru re m st2 w2
  | 0, _, _, _, _, _, _ => rfl
  | m + 1, st, st2, w, w2, h, hw => by
    refine sumZ_congr _ (fun s h0 h1 => ?_)
    have e : pP n cap st ru re s = pP n cap2 st2 ru re s := pP_congr hc h
    have e2 := pP_rg n cap2 st2 ru re s
    show (if _ then _ else _) = (if _ then _ else _)
    rw [e, hw s h0 (by omega)]
    split
    · refine cO_congr hn hc m _ _ _ _ (stp_congr h (by omega)) (fun j q0 q1 => ?_)
      unfold dcr uZ
      rw [hw s h0 (by omega), hw j q0 q1]
    · rfl
theorem cO_rg {n : Int} {cap : Int → Int} {ru re : Int} (hn : 1 ≤ n ∧ n ≤ 8) : ∀ (m : Nat) (st w : Int → Int), 0 ≤ cO n cap ru re m st w ∧ cO n cap ru re m st w ≤ 8 ^ m
  | 0, _, _ => by
    show 0 ≤ (1 : Int) ∧ (1 : Int) ≤ 8 ^ 0
    decide
  | m + 1, st, w => by
    have h := sumZ_rg (f := fun s => cU n cap ru re m st w s) (c := 8 ^ m) n.toNat (fun s h0 h1 => by
      show 0 ≤ cU n cap ru re m st w s ∧ cU n cap ru re m st w s ≤ 8 ^ m
      unfold cU
      split
      · exact cO_rg hn m _ _
      · have : (0 : Int) ≤ 8 ^ m := Int.pow_nonneg (by decide)
        exact ⟨Int.le_refl _, this⟩)
    refine ⟨h.1, Int.le_trans h.2 ?_⟩
    rw [Int.pow_succ, Int.mul_comm]
    have h3 : (0 : Int) ≤ 8 ^ m := Int.pow_nonneg (by decide)
    exact Int.mul_le_mul_of_nonneg_left (by omega) h3
def okey (n : Int) (st w : Int → Int) : Int := kwN w 8 * 65536 + fil st n
def W8 (w : Int → Int) : Prop := ∀ j : Int, 0 ≤ j → j < 8 → 0 ≤ w j ∧ w j ≤ 9
def mKO (n : Int) (cap : Int → Int) (ru re : Int) (ky vl : Int → Int) : Prop := ∀ j : Int, 0 ≤ j → j < 1024 → ky j = -1 ∨ ∃ (st w : Int → Int), (∀ i : Int, 0 ≤ i → i < n → 0 ≤ st i ∧ st i ≤ 3) ∧ W8 w ∧ ky j = okey n st w ∧ vl j = cO n cap ru re (sumZ w n.toNat).toNat st w
theorem okey_rg {n : Int} {st w : Int → Int} (hn : 1 ≤ n ∧ n ≤ 8) (h : ∀ j : Int, 0 ≤ j → j < n → 0 ≤ st j ∧ st j ≤ 3) (hw : W8 w) : 0 ≤ okey n st w ∧ okey n st w < 281474976710656 := by
  have h1 := fil_rg hn h
  have h2 := kwN_b (i := 8) (by omega) hw
  have e : kwN w (8 : Int).toNat = kwN w 8 := rfl
  unfold okey
  omega
theorem mKO_ky {n : Int} {cap : Int → Int} {ru re : Int} {ky vl : Int → Int} (hn : 1 ≤ n ∧ n ≤ 8) (h : mKO n cap ru re ky vl) : ∀ j : Int, 0 ≤ j → j < 1024 → -1 ≤ ky j ∧ ky j < 4611686018427387904 := by
  intro j h0 h1
  rcases h j h0 h1 with q | ⟨st, w, a1, a2, a5, a6⟩
  · omega
  · have := okey_rg hn a1 a2
    omega
theorem mKO_hit {n : Int} {cap : Int → Int} {ru re : Int} {ky vl : Int → Int} (hn : 1 ≤ n ∧ n ≤ 8) (h : mKO n cap ru re ky vl) {st w : Int → Int} (hs : ∀ j : Int, 0 ≤ j → j < n → 0 ≤ st j ∧ st j ≤ 3) (hw : W8 w) {j : Int} (hj : 0 ≤ j ∧ j < 1024) (q : ky j = okey n st w) : vl j = cO n cap ru re (sumZ w n.toNat).toNat st w := by
  have a := okey_rg hn hs hw
  rcases h j hj.1 hj.2 with q2 | ⟨st2, w2, a1, a2, a5, a6⟩
  · omega
  · have b := fil_rg hn hs
    have b2 := fil_rg hn a1
    have q3 : kwN w 8 * 65536 + fil st n = kwN w2 8 * 65536 + fil st2 n := q.symm.trans a5
    have e1 : kwN w 8 = kwN w2 8 := by omega
    have e2 : fil st n = fil st2 n := by omega
    have f1 := fil_inj n.toNat (fun j h0 h1 => hs j h0 (by omega)) (fun j h0 h1 => a1 j h0 (by omega)) e2
    have f2 := kwN_inj 8 (fun j h0 h1 => hw j h0 (by omega)) (fun j h0 h1 => a2 j h0 (by omega)) e1
    have f3 : sumZ w n.toNat = sumZ w2 n.toNat := sumZ_congr _ (fun j h0 h1 => f2 j h0 (by omega))
    rw [a6, f3]
    exact (cO_congr hn.1 (fun _ _ _ => rfl) _ _ _ _ _ (fun j h0 h1 => f1 j h0 (by omega)) (fun j h0 h1 => f2 j h0 (by omega))).symm
theorem mKO_put {n : Int} {cap : Int → Int} {ru re : Int} {ky vl : Int → Int} (h : mKO n cap ru re ky vl) {st w : Int → Int} {v : Int} (hs : ∀ j : Int, 0 ≤ j → j < n → 0 ≤ st j ∧ st j ≤ 3) (hw : W8 w) (i : Int) (hv : v = cO n cap ru re (sumZ w n.toNat).toNat st w) : mKO n cap ru re (uZ ky i (okey n st w)) (uZ vl i v) := by
  intro j h0 h1
  by_cases q : j = i
  · subst q
    right
    exact ⟨st, w, hs, hw, by rw [uZ_same], by rw [uZ_same, hv]⟩
  · rw [uZ_ne q, uZ_ne q]
    exact h j h0 h1
theorem mKO_init {n : Int} {cap : Int → Int} {ru re : Int} {ky vl : Int → Int} : mKO n cap ru re (cpZ (kZ (-1)) ky 1024) vl := by
  intro j h0 h1
  left
  unfold cpZ
  rw [if_pos h1]
  rfl
theorem dcr_W {w : Int → Int} {s : Int} (h : W8 w) (hp : 0 < w s) : W8 (uZ w s (w s - 1)) := by
  intro j h0 h1
  have := h j h0 h1
  by_cases q : j = s
  · rw [q, uZ_same]
    rw [q] at this
    omega
  · rw [uZ_ne q]
    exact this
theorem dcr_sum {w : Int → Int} {s n : Int} (h : 0 ≤ s ∧ s < n) : sumZ (uZ w s (w s - 1)) n.toNat = sumZ w n.toNat - 1 := by
  rw [sum_upd w (uZ w s (w s - 1)) s (-1) h.1 n.toNat (fun j h0 hj => uZ_ne hj) (by rw [uZ_same]; omega), if_pos (by omega)]
  omega

set_option maxHeartbeats 4000000 in
set_option maxRecDepth 100000 in
theorem c_X6_keyOf (l : Launch) (dd : va_G) (cI cJ cC cS : ClassId) (a0 : Nat) (wt : Int → Int) (sz : Nat) (hwt : ∀ j : Int, 0 ≤ j → j < 8 → 0 ≤ wt j ∧ wt j ≤ 9) : gMl l yX6_keyOf wsX6_keyOf 1 0 0 dd cI cJ cC cS [.ref a0] [kI cI a0 8 wt] sz (fun (z : Int) (_ : Unit) => z = kwN wt 8) (fun (_ : Unit) => [kI cI a0 8 wt]) := by
  refine gMl_of (cc := cX6_keyOf) (maxL := 7) (ret := (some .long)) (by decide) rfl (Nat.le_of_ble_eq_true rfl) ?_
  intro p e s m args below meth c A Q hQ hx hb hr hts hown hlocks hnm hml H locs hP hK hD hA hS ls hl
  have hl : lv_has ls 7 [(0, .ref a0)] := hl
  refine lv_lconst (v := zL 0) hx hb dX6_keyOf_0 (by decide +kernel) ?_
  refine lv_lstore_n (lv' := [(1, vL 0), (0, .ref a0)]) hx hb dX6_keyOf_1 rfl hl (by decide) rfl (fun ls hl => ?_)
  refine lv_aload_n hx hb dX6_keyOf_2 rfl (lv_at hl 1 rfl) ?_
  refine lv_astore_n (lv' := [(3, .ref a0), (1, vL 0), (0, .ref a0)]) hx hb dX6_keyOf_3 rfl hl (by decide) rfl (fun ls hl => ?_)
  refine lv_aload_n hx hb dX6_keyOf_4 rfl (lv_at hl 0 rfl) ?_
  refine va_alen (v := zI 8) hx hb hK hP 0 0 rfl rfl rfl dX6_keyOf_5 ?_
  refine lv_istore (lv' := [(4, vI 8), (3, .ref a0), (1, vL 0), (0, .ref a0)]) hx hb dX6_keyOf_6 hl (by decide) rfl (fun ls hl => ?_)
  refine z_iconst hx hb dX6_keyOf_8 ?_
  refine lv_istore (lv' := [(5, vI 0), (4, vI 8), (3, .ref a0), (1, vL 0), (0, .ref a0)]) hx hb dX6_keyOf_9 hl (by decide) rfl (fun ls hl => ?_)
  have L11 : ∀ (nn : Nat) (i : Int) (b : Int) (H : Heap) (locs : List Loc) (ls : Array Slot), ((9 - i).toNat) = nn → (0 ≤ i ∧ i ≤ 8) → (b = kwN wt i.toNat) → va_P dd vwCl [kI cI a0 8 wt] H → va_D A [kI cI a0 8 wt] → va_S A s.heap H locs → lv_has ls 7 [(1, vL b), (5, vI i), (4, vI 8), (3, .ref a0), (0, .ref a0)] → W p l e (gR 1 0 0) s m args below meth c H locs 0 0 Q (F0 m 11 ls []) := by
    intro nn
    induction nn using Nat.strongRecOn with
    | ind nn L11i =>
    intro i b H locs ls hmeas hi hbb hP hD hS hl
    refine lv_iload hx hb dX6_keyOf_11 (lv_at hl 1 rfl) ?_
    refine lv_iload hx hb dX6_keyOf_13 (lv_at hl 2 rfl) ?_
    refine z_icmp_ge (tgt := 38) hx hb dX6_keyOf_15 (by decide) (by omega) (fun c15 => ?_) (fun c15 => ?_)
    · skip
      refine lv_lload_n hx hb dX6_keyOf_38 rfl (lv_at hl 0 rfl) ?_
      subst hQ
      refine z_lret (z := b) hx hb hr hlocks dX6_keyOf_39 () hK hS ⟨by omega, by omega⟩ hP hD ?_
      rw [hbb, show i = 8 by omega]
      rfl
    · skip
      refine lv_aload_n hx hb dX6_keyOf_18 rfl (lv_at hl 3 rfl) ?_
      refine lv_iload hx hb dX6_keyOf_19 (lv_at hl 1 rfl) ?_
      refine z_iald hx hb hK hP 0 0 rfl rfl (i := i) (by omega) (by decide) dX6_keyOf_21 ?_
      have f_1 := hwt i (by omega) (by omega)
      refine lv_istore (lv' := [(6, vI (wt i)), (1, vL b), (5, vI i), (4, vI 8), (3, .ref a0), (0, .ref a0)]) hx hb dX6_keyOf_22 hl (by decide) rfl (fun ls hl => ?_)
      have hkb := kwN_b (w := wt) (i := i) (by omega) hwt
      rw [← hbb] at hkb
      have hw9 := hwt i (by omega) (by omega)
      refine lv_lload_n hx hb dX6_keyOf_24 rfl (lv_at hl 1 rfl) ?_
      refine z_iconst hx hb dX6_keyOf_25 ?_
      refine lv_lshl (v := zL (b * 2 ^ 4)) hx hb dX6_keyOf_26 (zL_shl 4 (by decide) (by omega)) ?_
      refine lv_iload hx hb dX6_keyOf_27 (lv_at hl 0 rfl) ?_
      refine lv_i2l (v := zL (wt i)) hx hb dX6_keyOf_29 (zL_of (by omega)) ?_
      refine lv_lor hx hb dX6_keyOf_30 ?_
      refine z_binl (y := zL (b * 16 + wt i)) (zL_or2 4 (by omega)) ?_
      refine lv_lstore_n (lv' := [(1, vL (b * 16 + wt i)), (6, vI (wt i)), (5, vI i), (4, vI 8), (3, .ref a0), (0, .ref a0)]) hx hb dX6_keyOf_31 rfl hl (by decide) rfl (fun ls hl => ?_)
      refine z_iinc (a := i) (z := (i + 1)) (lv' := [(5, vI (i + 1)), (1, vL (b * 16 + wt i)), (6, vI (wt i)), (4, vI 8), (3, .ref a0), (0, .ref a0)]) hx hb dX6_keyOf_32 hl (k := 2) rfl rfl (by decide) rfl (fun ls hl => ?_)
      refine lv_goto (tgt := 11) hx hb dX6_keyOf_35 (by decide) ?_
      exact L11i _ (by omega) (i + 1) (b * 16 + wt i) H locs ls rfl (by omega) (by rw [kwN_s (by omega), hbb]) hP hD hS (lv_sub hl [1, 0, 3, 4, 5] rfl)
  exact L11 _ 0 0 H locs ls rfl (by omega) (rfl) hP hD hS (lv_sub hl [3, 0, 1, 2, 4] rfl)

