/-! orders that park -/
def kwN (w : Int → Int) : Nat → Int
  | 0 => 0
  | k + 1 => kwN w k * 16 + w (k : Int)
theorem kwN_s {w : Int → Int} {i : Int} (h : 0 ≤ i) : kwN w (i + 1).toNat = kwN w i.toNat * 16 + w i := by
  obtain ⟨j, rfl⟩ := Int.eq_ofNat_of_zero_le h
  have e : ((j : Int) + 1).toNat = j + 1 := by omega
  rw [e, Int.toNat_natCast]
  rfl
theorem kwN_rg {w : Int → Int} : ∀ k : Nat, (∀ j : Int, 0 ≤ j → j < k → 0 ≤ w j ∧ w j ≤ 9) → 0 ≤ kwN w k ∧ kwN w k < 16 ^ k
  | 0, _ => by
    show (0 : Int) ≤ 0 ∧ (0 : Int) < 16 ^ 0
    decide
  | k + 1, h => by
    have h1 := kwN_rg k (fun j h0 h1 => h j h0 (by omega))
    have h2 := h (k : Int) (by omega) (by omega)
    show 0 ≤ kwN w k * 16 + w (k : Int) ∧ kwN w k * 16 + w (k : Int) < 16 ^ (k + 1)
    rw [Int.pow_succ]
    generalize (16 : Int) ^ k = y at h1 ⊢
    omega
theorem kwN_b {w : Int → Int} {i : Int} (hi : 0 ≤ i ∧ i ≤ 8) (h : ∀ j : Int, 0 ≤ j → j < 8 → 0 ≤ w j ∧ w j ≤ 9) : 0 ≤ kwN w i.toNat ∧ kwN w i.toNat < 4294967296 := by
  have h1 := kwN_rg (w := w) i.toNat (fun j h0 h1 => h j h0 (by omega))
  have h2 : ∀ k : Nat, k ≤ 8 → (16 : Int) ^ k ≤ 4294967296 := by decide
  have := h2 i.toNat (by omega)
  omega
theorem kwN_inj {w v : Int → Int} : ∀ k : Nat, (∀ j : Int, 0 ≤ j → j < k → 0 ≤ w j ∧ w j ≤ 9) → (∀ j : Int, 0 ≤ j → j < k → 0 ≤ v j ∧ v j ≤ 9) → kwN w k = kwN v k → ∀ j : Int, 0 ≤ j → j < k → w j = v j
  | 0, _, _, _ => fun j h0 h1 => absurd h1 (by omega)
  | k + 1, h, h2, q => by
    have q2 : kwN w k * 16 + w (k : Int) = kwN v k * 16 + v (k : Int) := q
    have a1 := h (k : Int) (by omega) (by omega)
    have a2 := h2 (k : Int) (by omega) (by omega)
    have q3 : kwN w k = kwN v k := by omega
    intro j h0 h1
    by_cases e : j = k
    · rw [e]
      omega
    · exact kwN_inj k (fun j h0 h1 => h j h0 (by omega)) (fun j h0 h1 => h2 j h0 (by omega)) q3 j h0 (by omega)
theorem zL_or2 {a b : Int} (k : Nat) (h : 0 ≤ a ∧ a < 2 ^ k ∧ 0 ≤ b ∧ b * 2 ^ k + a < 18446744073709551616) : zL (b * 2 ^ k) ||| zL a = zL (b * 2 ^ k + a) := by
  rw [Int64.or_comm, zL_or k h, Int.add_comm]
theorem uZ_back {f : Int → Int} {i : Int} : uZ (uZ f i (f i - 1)) i (uZ f i (f i - 1) i + 1) = f := by
  rw [uZ_same, uZ_uZ, show f i - 1 + 1 = f i by omega, uZ_self]
def dcr (w : Int → Int) (s : Int) : Int → Int := uZ w s (w s - 1)
def cO (n : Int) (cap : Int → Int) (ru re : Int) : Nat → (Int → Int) → (Int → Int) → Int
  | 0, _, _ => 1
  | m + 1, st, w => sumZ (fun s => if 0 < w s ∧ 0 ≤ pP n cap st ru re s then cO n cap ru re m (stp st (pP n cap st ru re s)) (dcr w s) else 0) n.toNat
def cU (n : Int) (cap : Int → Int) (ru re : Int) (m : Nat) (st w : Int → Int) (s : Int) : Int := if 0 < w s ∧ 0 ≤ pP n cap st ru re s then cO n cap ru re m (stp st (pP n cap st ru re s)) (dcr w s) else 0
theorem cO_s {n : Int} {cap : Int → Int} {ru re cm : Int} {st w : Int → Int} (h : 0 < cm) : cO n cap ru re cm.toNat st w = sumZ (fun s => cU n cap ru re (cm - 1).toNat st w s) n.toNat := by
  obtain ⟨k, hk⟩ : ∃ k : Nat, cm.toNat = k + 1 := ⟨cm.toNat - 1, by omega⟩
  rw [hk, show (cm - 1).toNat = k by omega]
  rfl
theorem cO_congr {n : Int} {cap cap2 : Int → Int} {ru re : Int} (hn : 1 ≤ n) (hc : ∀ j : Int, 0 ≤ j → j < n → cap j = cap2 j) : ∀ (m : Nat) (st st2 w w2 : Int → Int), (∀ j : Int, 0 ≤ j → j < n → st j = st2 j) → (∀ j : Int, 0 ≤ j → j < n → w j = w2 j) → cO n cap ru re m st w = cO n cap2 ru re m st2 w2
  | 0, _, _, _, _, _, _ => rfl
  | m + 1, st, st2, w, w2, h, hw => by
    refine sumZ_congr _ (fun s h0 h1 => ?_)
    have e : pP n cap st ru re s = pP n cap2 st2 ru re s := pP_congr hc h
    have e2 := pP_rg n cap2 st2 ru re s
    show (if _ then _ else _) = (if _ then _ else _)
    rw [e, hw s h0 (by omega)]
    split
    · refine cO_congr hn hc m _ _ _ _ (stp_congr h (by omega)) (fun j q0 q1 => ?_)
      unfold dcr uZ
      rw [hw s h0 (by omega), hw j q0 q1]
    · rfl
theorem cO_rg {n : Int} {cap : Int → Int} {ru re : Int} (hn : 1 ≤ n ∧ n ≤ 8) : ∀ (m : Nat) (st w : Int → Int), 0 ≤ cO n cap ru re m st w ∧ cO n cap ru re m st w ≤ 8 ^ m
  | 0, _, _ => by
    show 0 ≤ (1 : Int) ∧ (1 : Int) ≤ 8 ^ 0
    decide
  | m + 1, st, w => by
    have h := sumZ_rg (f := fun s => cU n cap ru re m st w s) (c := 8 ^ m) n.toNat (fun s h0 h1 => by
      show 0 ≤ cU n cap ru re m st w s ∧ cU n cap ru re m st w s ≤ 8 ^ m
      unfold cU
      split
      · exact cO_rg hn m _ _
      · have : (0 : Int) ≤ 8 ^ m := Int.pow_nonneg (by decide)
        exact ⟨Int.le_refl _, this⟩)
    refine ⟨h.1, Int.le_trans h.2 ?_⟩
    rw [Int.pow_succ, Int.mul_comm]
    have h3 : (0 : Int) ≤ 8 ^ m := Int.pow_nonneg (by decide)
    exact Int.mul_le_mul_of_nonneg_left (by omega) h3
def okey (n : Int) (st w : Int → Int) : Int := kwN w 8 * 65536 + fil st n
def W8 (w : Int → Int) : Prop := ∀ j : Int, 0 ≤ j → j < 8 → 0 ≤ w j ∧ w j ≤ 9
def mKO (n : Int) (cap : Int → Int) (ru re : Int) (ky vl : Int → Int) : Prop := ∀ j : Int, 0 ≤ j → j < 1024 → ky j = -1 ∨ ∃ (st w : Int → Int), (∀ i : Int, 0 ≤ i → i < n → 0 ≤ st i ∧ st i ≤ 3) ∧ W8 w ∧ ky j = okey n st w ∧ vl j = cO n cap ru re (sumZ w n.toNat).toNat st w
theorem okey_rg {n : Int} {st w : Int → Int} (hn : 1 ≤ n ∧ n ≤ 8) (h : ∀ j : Int, 0 ≤ j → j < n → 0 ≤ st j ∧ st j ≤ 3) (hw : W8 w) : 0 ≤ okey n st w ∧ okey n st w < 281474976710656 := by
  have h1 := fil_rg hn h
  have h2 := kwN_b (i := 8) (by omega) hw
  have e : kwN w (8 : Int).toNat = kwN w 8 := rfl
  unfold okey
  omega
theorem mKO_ky {n : Int} {cap : Int → Int} {ru re : Int} {ky vl : Int → Int} (hn : 1 ≤ n ∧ n ≤ 8) (h : mKO n cap ru re ky vl) : ∀ j : Int, 0 ≤ j → j < 1024 → -1 ≤ ky j ∧ ky j < 4611686018427387904 := by
  intro j h0 h1
  rcases h j h0 h1 with q | ⟨st, w, a1, a2, a5, a6⟩
  · omega
  · have := okey_rg hn a1 a2
    omega
theorem mKO_hit {n : Int} {cap : Int → Int} {ru re : Int} {ky vl : Int → Int} (hn : 1 ≤ n ∧ n ≤ 8) (h : mKO n cap ru re ky vl) {st w : Int → Int} (hs : ∀ j : Int, 0 ≤ j → j < n → 0 ≤ st j ∧ st j ≤ 3) (hw : W8 w) {j : Int} (hj : 0 ≤ j ∧ j < 1024) (q : ky j = okey n st w) : vl j = cO n cap ru re (sumZ w n.toNat).toNat st w := by
  have a := okey_rg hn hs hw
  rcases h j hj.1 hj.2 with q2 | ⟨st2, w2, a1, a2, a5, a6⟩
  · omega
  · have b := fil_rg hn hs
    have b2 := fil_rg hn a1
    have q3 : kwN w 8 * 65536 + fil st n = kwN w2 8 * 65536 + fil st2 n := q.symm.trans a5
    have e1 : kwN w 8 = kwN w2 8 := by omega
    have e2 : fil st n = fil st2 n := by omega
    have f1 := fil_inj n.toNat (fun j h0 h1 => hs j h0 (by omega)) (fun j h0 h1 => a1 j h0 (by omega)) e2
    have f2 := kwN_inj 8 (fun j h0 h1 => hw j h0 (by omega)) (fun j h0 h1 => a2 j h0 (by omega)) e1
    have f3 : sumZ w n.toNat = sumZ w2 n.toNat := sumZ_congr _ (fun j h0 h1 => f2 j h0 (by omega))
    rw [a6, f3]
    exact (cO_congr hn.1 (fun _ _ _ => rfl) _ _ _ _ _ (fun j h0 h1 => f1 j h0 (by omega)) (fun j h0 h1 => f2 j h0 (by omega))).symm
theorem mKO_put {n : Int} {cap : Int → Int} {ru re : Int} {ky vl : Int → Int} (h : mKO n cap ru re ky vl) {st w : Int → Int} {v : Int} (hs : ∀ j : Int, 0 ≤ j → j < n → 0 ≤ st j ∧ st j ≤ 3) (hw : W8 w) (i : Int) (hv : v = cO n cap ru re (sumZ w n.toNat).toNat st w) : mKO n cap ru re (uZ ky i (okey n st w)) (uZ vl i v) := by
  intro j h0 h1
  by_cases q : j = i
  · subst q
    right
    exact ⟨st, w, hs, hw, by rw [uZ_same], by rw [uZ_same, hv]⟩
  · rw [uZ_ne q, uZ_ne q]
    exact h j h0 h1
theorem mKO_init {n : Int} {cap : Int → Int} {ru re : Int} {ky vl : Int → Int} : mKO n cap ru re (cpZ (kZ (-1)) ky 1024) vl := by
  intro j h0 h1
  left
  unfold cpZ
  rw [if_pos h1]
  rfl
theorem dcr_W {w : Int → Int} {s : Int} (h : W8 w) (hp : 0 < w s) : W8 (uZ w s (w s - 1)) := by
  intro j h0 h1
  have := h j h0 h1
  by_cases q : j = s
  · rw [q, uZ_same]
    rw [q] at this
    omega
  · rw [uZ_ne q]
    exact this
theorem dcr_sum {w : Int → Int} {s n : Int} (h : 0 ≤ s ∧ s < n) : sumZ (uZ w s (w s - 1)) n.toNat = sumZ w n.toNat - 1 := by
  rw [sum_upd w (uZ w s (w s - 1)) s (-1) h.1 n.toNat (fun j h0 hj => uZ_ne hj) (by rw [uZ_same]; omega), if_pos (by omega)]
  omega

set_option maxHeartbeats 4000000 in
set_option maxRecDepth 100000 in
theorem c_X6_keyOf (l : Launch) (dd : va_G) (cI cJ cC cS : ClassId) (a0 : Nat) (wt : Int → Int) (sz : Nat) (hwt : ∀ j : Int, 0 ≤ j → j < 8 → 0 ≤ wt j ∧ wt j ≤ 9) : gMl l yX6_keyOf wsX6_keyOf 1 0 0 dd cI cJ cC cS [.ref a0] [kI cI a0 8 wt] sz (fun (z : Int) (_ : Unit) => z = kwN wt 8) (fun (_ : Unit) => [kI cI a0 8 wt]) := by
  refine gMl_of (cc := cX6_keyOf) (maxL := 7) (ret := (some .long)) (by decide) rfl (Nat.le_of_ble_eq_true rfl) ?_
  intro p e s m args below meth c A Q hQ hx hb hr hts hown hlocks hnm hml H locs hP hK hD hA hS ls hl
  have hl : lv_has ls 7 [(0, .ref a0)] := hl
  refine lv_lconst (v := zL 0) hx hb dX6_keyOf_0 (by decide +kernel) ?_
  refine lv_lstore_n (lv' := [(1, vL 0), (0, .ref a0)]) hx hb dX6_keyOf_1 rfl hl (by decide) rfl (fun ls hl => ?_)
  refine lv_aload_n hx hb dX6_keyOf_2 rfl (lv_at hl 1 rfl) ?_
  refine lv_astore_n (lv' := [(3, .ref a0), (1, vL 0), (0, .ref a0)]) hx hb dX6_keyOf_3 rfl hl (by decide) rfl (fun ls hl => ?_)
  refine lv_aload_n hx hb dX6_keyOf_4 rfl (lv_at hl 0 rfl) ?_
  refine va_alen (v := zI 8) hx hb hK hP 0 0 rfl rfl rfl dX6_keyOf_5 ?_
  refine lv_istore (lv' := [(4, vI 8), (3, .ref a0), (1, vL 0), (0, .ref a0)]) hx hb dX6_keyOf_6 hl (by decide) rfl (fun ls hl => ?_)
  refine z_iconst hx hb dX6_keyOf_8 ?_
  refine lv_istore (lv' := [(5, vI 0), (4, vI 8), (3, .ref a0), (1, vL 0), (0, .ref a0)]) hx hb dX6_keyOf_9 hl (by decide) rfl (fun ls hl => ?_)
  have L11 : ∀ (nn : Nat) (i : Int) (b : Int) (H : Heap) (locs : List Loc) (ls : Array Slot), ((9 - i).toNat) = nn → (0 ≤ i ∧ i ≤ 8) → (b = kwN wt i.toNat) → va_P dd vwCl [kI cI a0 8 wt] H → va_D A [kI cI a0 8 wt] → va_S A s.heap H locs → lv_has ls 7 [(1, vL b), (5, vI i), (4, vI 8), (3, .ref a0), (0, .ref a0)] → W p l e (gR 1 0 0) s m args below meth c H locs 0 0 Q (F0 m 11 ls []) := by
    intro nn
    induction nn using Nat.strongRecOn with
    | ind nn L11i =>
    intro i b H locs ls hmeas hi hbb hP hD hS hl
    refine lv_iload hx hb dX6_keyOf_11 (lv_at hl 1 rfl) ?_
    refine lv_iload hx hb dX6_keyOf_13 (lv_at hl 2 rfl) ?_
    refine z_icmp_ge (tgt := 38) hx hb dX6_keyOf_15 (by decide) (by omega) (fun c15 => ?_) (fun c15 => ?_)
    · skip
      refine lv_lload_n hx hb dX6_keyOf_38 rfl (lv_at hl 0 rfl) ?_
      subst hQ
      refine z_lret (z := b) hx hb hr hlocks dX6_keyOf_39 () hK hS ⟨by omega, by omega⟩ hP hD ?_
      rw [hbb, show i = 8 by omega]
      rfl
    · skip
      refine lv_aload_n hx hb dX6_keyOf_18 rfl (lv_at hl 3 rfl) ?_
      refine lv_iload hx hb dX6_keyOf_19 (lv_at hl 1 rfl) ?_
      refine z_iald hx hb hK hP 0 0 rfl rfl (i := i) (by omega) (by decide) dX6_keyOf_21 ?_
      have f_1 := hwt i (by omega) (by omega)
      refine lv_istore (lv' := [(6, vI (wt i)), (1, vL b), (5, vI i), (4, vI 8), (3, .ref a0), (0, .ref a0)]) hx hb dX6_keyOf_22 hl (by decide) rfl (fun ls hl => ?_)
      have hkb := kwN_b (w := wt) (i := i) (by omega) hwt
      rw [← hbb] at hkb
      have hw9 := hwt i (by omega) (by omega)
      refine lv_lload_n hx hb dX6_keyOf_24 rfl (lv_at hl 1 rfl) ?_
      refine z_iconst hx hb dX6_keyOf_25 ?_
      refine lv_lshl (v := zL (b * 2 ^ 4)) hx hb dX6_keyOf_26 (zL_shl 4 (by decide) (by omega)) ?_
      refine lv_iload hx hb dX6_keyOf_27 (lv_at hl 0 rfl) ?_
      refine lv_i2l (v := zL (wt i)) hx hb dX6_keyOf_29 (zL_of (by omega)) ?_
      refine lv_lor hx hb dX6_keyOf_30 ?_
      refine z_binl (y := zL (b * 16 + wt i)) (zL_or2 4 (by omega)) ?_
      refine lv_lstore_n (lv' := [(1, vL (b * 16 + wt i)), (6, vI (wt i)), (5, vI i), (4, vI 8), (3, .ref a0), (0, .ref a0)]) hx hb dX6_keyOf_31 rfl hl (by decide) rfl (fun ls hl => ?_)
      refine z_iinc (a := i) (z := (i + 1)) (lv' := [(5, vI (i + 1)), (1, vL (b * 16 + wt i)), (6, vI (wt i)), (4, vI 8), (3, .ref a0), (0, .ref a0)]) hx hb dX6_keyOf_32 hl (k := 2) rfl rfl (by decide) rfl (fun ls hl => ?_)
      refine lv_goto (tgt := 11) hx hb dX6_keyOf_35 (by decide) ?_
      exact L11i _ (by omega) (i + 1) (b * 16 + wt i) H locs ls rfl (by omega) (by rw [kwN_s (by omega), hbb]) hP hD hS (lv_sub hl [1, 0, 3, 4, 5] rfl)
  exact L11 _ 0 0 H locs ls rfl (by omega) (rfl) hP hD hS (lv_sub hl [3, 0, 1, 2, 4] rfl)

set_option maxHeartbeats 4000000 in
set_option maxRecDepth 100000 in
theorem c_X6_countOrders_rec (l : Launch) (dd : va_G) (cI cJ cC cS : ClassId) : ∀ (NN : Nat) (q0 q1 q2 q3 q4 q5 m0 m1 m2 w0 : Nat) (sp ru re ar fi : Int) (cap st wi pl lk : Int → Int) (ky vl wt : Int → Int) (cm : Int) (sz : Nat), cm.toNat = NN → (1 ≤ sp ∧ sp ≤ 8) → (∀ j : Int, 0 ≤ j → j < sp → 0 ≤ cap j ∧ cap j ≤ 3) → (∀ j : Int, 0 ≤ j → j < sp → 0 ≤ st j ∧ st j ≤ 3) → (0 ≤ ru ∧ ru ≤ 3) → (0 ≤ re ∧ re ≤ 8) → (0 ≤ cm ∧ 0 ≤ ar ∧ ar + cm ≤ 9) → (∀ j : Int, 0 ≤ j → j < 8 → 0 ≤ wt j ∧ wt j ≤ 9) → (sumZ wt sp.toNat = cm) → (fi = fil st sp) → (mKO sp cap ru re ky vl) → gMi l yX6_countOrders wsX6_countOrders (5 + cm.toNat) 0 0 dd cI cJ cC cS [.ref q0, .ref m0, .ref w0, vI cm] [kO q0 1 [vI sp, .ref q1, .ref q2, .ref q3, .ref q4, .ref q5, vI ru, vI re, vI ar, vI fi], kI cI q1 8 cap, kI cI q2 8 st, kI cI q3 9 wi, kI cI q4 9 pl, kI cI q5 9 lk, kO m0 2 [.ref m1, .ref m2], kL cJ m1 1024 ky, kI cI m2 1024 vl, kI cI w0 8 wt] sz (fun (z : Int) (u : (Int → Int) × (Int → Int) × (Int → Int) × (Int → Int) × (Int → Int)) => z = cO sp cap ru re cm.toNat st wt ∧ (∀ j : Int, 0 ≤ j → j < ar → u.1 j = wi j ∧ u.2.1 j = pl j ∧ u.2.2.1 j = lk j) ∧ mKO sp cap ru re u.2.2.2.1 u.2.2.2.2) (fun (u : (Int → Int) × (Int → Int) × (Int → Int) × (Int → Int) × (Int → Int)) => [kO q0 1 [vI sp, .ref q1, .ref q2, .ref q3, .ref q4, .ref q5, vI ru, vI re, vI ar, vI fi], kI cI q1 8 cap, kI cI q2 8 st, kI cI q3 9 u.1, kI cI q4 9 u.2.1, kI cI q5 9 u.2.2.1, kO m0 2 [.ref m1, .ref m2], kL cJ m1 1024 u.2.2.2.1, kI cI m2 1024 u.2.2.2.2, kI cI w0 8 wt]) := by
  intro NN
  induction NN using Nat.strongRecOn with
  | ind NN IH =>
  intro q0 q1 q2 q3 q4 q5 m0 m1 m2 w0 sp ru re ar fi cap st wi pl lk ky vl wt cm sz hNN hsp hcap hst hru hre hcm hwt hws hfi hmo
  refine gMi_of (cc := cX6_countOrders) (maxL := 9) (ret := (some .int)) (by decide) rfl (Nat.le_of_ble_eq_true rfl) ?_
  intro p e s m args below meth c A Q hQ hx hb hr hts hown hlocks hnm hml H locs hP hK hD hA hS ls hl
  have hi1 : ∀ w ∈ wsX10, w ∈ wsX6_countOrders := fun _ h => (List.mem_cons_of_mem _ (List.mem_append_left _ (List.mem_append_right _ h)))
  have hl : lv_has ls 9 [(0, .ref q0), (1, .ref m0), (2, .ref w0), (3, vI cm)] := hl
  have hfr := fil_rg hsp hst
  have hkr := okey_rg hsp hst hwt
  have hhn := hN_lt (okey sp st wt)
  have hkb := kwN_b (w := wt) (i := 8) (by omega) hwt
  rw [show kwN wt (8 : Int).toNat = kwN wt 8 from rfl] at hkb
  refine lv_iload_n hx hb dX6_countOrders_0 rfl (lv_at hl 3 rfl) ?_
  refine z_if_gt (tgt := 6) hx hb dX6_countOrders_1 (by decide) (by omega) (fun c1 => ?_) (fun c1 => ?_)
  · skip
    refine lv_aload_n hx hb dX6_countOrders_6 rfl (lv_at hl 2 rfl) ?_
    refine g_callSl (own := RX6) (n := 1) (mc := 0) (ms := 0) (As := [.ref w0]) (rest := []) (wc := [kI cI w0 8 wt]) (wr := [kO q0 1 [vI sp, .ref q1, .ref q2, .ref q3, .ref q4, .ref q5, vI ru, vI re, vI ar, vI fi], kI cI q1 8 cap, kI cI q2 8 st, kI cI q3 9 wi, kI cI q4 9 pl, kI cI q5 9 lk, kO m0 2 [.ref m1, .ref m2], kL cJ m1 1024 ky, kI cI m2 1024 vl]) hx hb hml hown hts hK hP hD hS hA [9] [0, 1, 2, 3, 4, 5, 6, 7, 8] rfl rfl (by decide) (by decide) (c_X6_keyOf l dd cI cJ cC cS w0 wt H.size  (by first | assumption | (intro j h0 h1; omega))) gX6_countOrders_X6_keyOf rfl (by decide +kernel) (by decide) (by first | decide | (show _ ≤ 5 + cm.toNat; omega) | (show _ ≤ 40 * (5 + cm.toNat); omega)) (by first | decide | (show _ ≤ 5 + cm.toNat; omega) | (show _ ≤ 40 * (5 + cm.toNat); omega)) (⟨Nat.le_refl _, Nat.le_refl _⟩) rfl hl.1 rfl (Nat.le_of_ble_eq_true rfl) dX6_countOrders_7 (fun z_1 u_2 H locs hp7 hP hD hS => ?_)
    subst z_1
    have hP : va_P dd vwCl [kO q0 1 [vI sp, .ref q1, .ref q2, .ref q3, .ref q4, .ref q5, vI ru, vI re, vI ar, vI fi], kI cI q1 8 cap, kI cI q2 8 st, kI cI q3 9 wi, kI cI q4 9 pl, kI cI q5 9 lk, kO m0 2 [.ref m1, .ref m2], kL cJ m1 1024 ky, kI cI m2 1024 vl, kI cI w0 8 wt] H := hP
    have hD : va_D A [kO q0 1 [vI sp, .ref q1, .ref q2, .ref q3, .ref q4, .ref q5, vI ru, vI re, vI ar, vI fi], kI cI q1 8 cap, kI cI q2 8 st, kI cI q3 9 wi, kI cI q4 9 pl, kI cI q5 9 lk, kO m0 2 [.ref m1, .ref m2], kL cJ m1 1024 ky, kI cI m2 1024 vl, kI cI w0 8 wt] := hD
    refine z_bipush hx hb dX6_countOrders_10 (by decide +kernel) ?_
    refine lv_lshl (v := zL (kwN wt 8 * 2 ^ 16)) hx hb dX6_countOrders_12 (zL_shl 16 (by decide) (by omega)) ?_
    refine lv_aload_n hx hb dX6_countOrders_13 rfl (lv_at hl 0 rfl) ?_
    refine va_get (D := dd) (ci := 1) (v := vI fi) (C := RX1) (T := TX1) (N := 10) hx hb hts hi1 hown hK hP 0 rfl rfl 9 (by decide) (hts _ (List.mem_cons_of_mem _ (List.mem_append_left _ (List.mem_append_left _ (List.mem_append_left _ (List.mem_of_getElem? (i := 0) rfl)))))) (fun _ h9 => h9) rfl dX6_countOrders_14 ?_
    refine lv_i2l (v := zL fi) hx hb dX6_countOrders_17 (zL_of (by omega)) ?_
    refine lv_lor hx hb dX6_countOrders_18 ?_
    refine z_binl (y := zL (okey sp st wt)) (by rw [zL_or2 16 (by omega), hfi]; rfl) ?_
    refine lv_lstore (lv' := [(4, vL (okey sp st wt)), (0, .ref q0), (1, .ref m0), (2, .ref w0), (3, vI cm)]) hx hb dX6_countOrders_19 hl (by decide) rfl (fun ls hl => ?_)
    refine lv_aload_n hx hb dX6_countOrders_21 rfl (lv_at hl 2 rfl) ?_
    refine lv_lload hx hb dX6_countOrders_22 (lv_at hl 0 rfl) ?_
    refine g_callVi (own := RX6) (n := 1) (mc := 0) (ms := 0) (As := [vL (okey sp st wt)]) (rest := []) (wc := [kO m0 2 [.ref m1, .ref m2], kL cJ m1 1024 ky, kI cI m2 1024 vl]) (wr := [kO q0 1 [vI sp, .ref q1, .ref q2, .ref q3, .ref q4, .ref q5, vI ru, vI re, vI ar, vI fi], kI cI q1 8 cap, kI cI q2 8 st, kI cI q3 9 wi, kI cI q4 9 pl, kI cI q5 9 lk, kI cI w0 8 wt]) hx hb hml hown hts hK hP hD hS hA [6, 7, 8] [0, 1, 2, 3, 4, 5, 9] rfl rfl (by decide) (by decide) 2 0 rfl rfl (c_X2_find l dd cI cJ cC cS m0 m1 m2 ky vl (okey sp st wt) H.size  (mKO_ky hsp hmo) (by omega)) gX6_countOrders_X2_find rfl (by decide +kernel) (by decide) (by first | decide | (show _ ≤ 5 + cm.toNat; omega) | (show _ ≤ 40 * (5 + cm.toNat); omega)) (by first | decide | (show _ ≤ 5 + cm.toNat; omega) | (show _ ≤ 40 * (5 + cm.toNat); omega)) (⟨Nat.le_refl _, Nat.le_refl _⟩) rfl hl.1 rfl (Nat.le_of_ble_eq_true rfl) dX6_countOrders_24 (fun z_3 u_4 H locs hp24 hP hD hS => ?_)
    subst z_3
    have hP : va_P dd vwCl [kO q0 1 [vI sp, .ref q1, .ref q2, .ref q3, .ref q4, .ref q5, vI ru, vI re, vI ar, vI fi], kI cI q1 8 cap, kI cI q2 8 st, kI cI q3 9 wi, kI cI q4 9 pl, kI cI q5 9 lk, kI cI w0 8 wt, kO m0 2 [.ref m1, .ref m2], kL cJ m1 1024 ky, kI cI m2 1024 vl] H := hP
    have hD : va_D A [kO q0 1 [vI sp, .ref q1, .ref q2, .ref q3, .ref q4, .ref q5, vI ru, vI re, vI ar, vI fi], kI cI q1 8 cap, kI cI q2 8 st, kI cI q3 9 wi, kI cI q4 9 pl, kI cI q5 9 lk, kI cI w0 8 wt, kO m0 2 [.ref m1, .ref m2], kL cJ m1 1024 ky, kI cI m2 1024 vl] := hD
    by_cases hh : ky ((hN (okey sp st wt) : Nat) : Int) = (okey sp st wt)
    · skip
      have hz2 := mKO_hit hsp hmo hst hwt (by omega) hh
      have hz3 := cO_rg (cap := cap) (ru := ru) (re := re) hsp cm.toNat st wt
      have hz4 := pow9 cm.toNat (by omega)
      refine z_bin (va := .null) (vb := .null) (y := zI (cO sp cap ru re cm.toNat st wt)) (congrArg zI (by rw [if_pos hh, hz2, hws])) ?_
      refine lv_istore (lv' := [(6, vI (cO sp cap ru re cm.toNat st wt)), (4, vL (okey sp st wt)), (0, .ref q0), (1, .ref m0), (2, .ref w0), (3, vI cm)]) hx hb dX6_countOrders_27 hl (by decide) rfl (fun ls hl => ?_)
      refine lv_iload hx hb dX6_countOrders_29 (lv_at hl 0 rfl) ?_
      refine z_iconst hx hb dX6_countOrders_31 ?_
      refine z_icmp_eq (tgt := 38) hx hb dX6_countOrders_32 (by decide) (by omega) (fun c32 => ?_) (fun c32 => ?_)
      · skip
        refine z_iconst hx hb dX6_countOrders_38 ?_
        refine lv_istore (lv' := [(7, vI 0), (6, vI (cO sp cap ru re cm.toNat st wt)), (4, vL (okey sp st wt)), (0, .ref q0), (1, .ref m0), (2, .ref w0), (3, vI cm)]) hx hb dX6_countOrders_39 hl (by decide) rfl (fun ls hl => ?_)
        refine z_iconst hx hb dX6_countOrders_41 ?_
        refine lv_istore (lv' := [(8, vI 0), (7, vI 0), (6, vI (cO sp cap ru re cm.toNat st wt)), (4, vL (okey sp st wt)), (0, .ref q0), (1, .ref m0), (2, .ref w0), (3, vI cm)]) hx hb dX6_countOrders_42 hl (by decide) rfl (fun ls hl => ?_)
        have L44 : ∀ (nn : Nat) (i : Int) (b : Int) (wa : Int → Int) (pa : Int → Int) (ka : Int → Int) (kya : Int → Int) (vla : Int → Int) (H : Heap) (locs : List Loc) (ls : Array Slot), ((sp + 1 - i).toNat) = nn → (0 ≤ i ∧ i ≤ sp) → (b = sumZ (fun s => cU sp cap ru re (cm - 1).toNat st wt s) i.toNat) → (∀ j : Int, 0 ≤ j → j < ar → wa j = wi j ∧ pa j = pl j ∧ ka j = lk j) → (mKO sp cap ru re kya vla) → va_P dd vwCl [kO q0 1 [vI sp, .ref q1, .ref q2, .ref q3, .ref q4, .ref q5, vI ru, vI re, vI ar, vI fi], kI cI q1 8 cap, kI cI q2 8 st, kI cI q3 9 wa, kI cI q4 9 pa, kI cI q5 9 ka, kO m0 2 [.ref m1, .ref m2], kL cJ m1 1024 kya, kI cI m2 1024 vla, kI cI w0 8 wt] H → va_D A [kO q0 1 [vI sp, .ref q1, .ref q2, .ref q3, .ref q4, .ref q5, vI ru, vI re, vI ar, vI fi], kI cI q1 8 cap, kI cI q2 8 st, kI cI q3 9 wa, kI cI q4 9 pa, kI cI q5 9 ka, kO m0 2 [.ref m1, .ref m2], kL cJ m1 1024 kya, kI cI m2 1024 vla, kI cI w0 8 wt] → va_S A s.heap H locs → lv_has ls 9 [(7, vI b), (8, vI i), (0, .ref q0), (1, .ref m0), (2, .ref w0), (3, vI cm), (4, vL (okey sp st wt))] → W p l e (gR (5 + cm.toNat) 0 0) s m args below meth c H locs 0 0 Q (F0 m 44 ls []) := by
          intro nn
          induction nn using Nat.strongRecOn with
          | ind nn L44i =>
          intro i b wa pa ka kya vla H locs ls hmeas hi hbb hjk hmk hP hD hS hl
          refine lv_iload hx hb dX6_countOrders_44 (lv_at hl 1 rfl) ?_
          refine lv_aload_n hx hb dX6_countOrders_46 rfl (lv_at hl 2 rfl) ?_
          refine va_get (D := dd) (ci := 1) (v := vI sp) (C := RX1) (T := TX1) (N := 10) hx hb hts hi1 hown hK hP 0 rfl rfl 0 (by decide) (hts _ (List.mem_cons_of_mem _ (List.mem_append_left _ (List.mem_append_left _ (List.mem_append_left _ (List.mem_of_getElem? (i := 1) rfl)))))) (fun _ h9 => h9) rfl dX6_countOrders_47 ?_
          refine z_icmp_ge (tgt := 116) hx hb dX6_countOrders_50 (by decide) (by omega) (fun c50 => ?_) (fun c50 => ?_)
          · skip
            refine lv_aload_n hx hb dX6_countOrders_116 rfl (lv_at hl 3 rfl) ?_
            refine lv_lload hx hb dX6_countOrders_117 (lv_at hl 6 rfl) ?_
            refine lv_iload hx hb dX6_countOrders_119 (lv_at hl 0 rfl) ?_
            refine g_callVv (own := RX6) (n := 2) (mc := 0) (ms := 0) (As := [vL (okey sp st wt), vI b]) (rest := []) (wc := [kO m0 2 [.ref m1, .ref m2], kL cJ m1 1024 kya, kI cI m2 1024 vla]) (wr := [kO q0 1 [vI sp, .ref q1, .ref q2, .ref q3, .ref q4, .ref q5, vI ru, vI re, vI ar, vI fi], kI cI q1 8 cap, kI cI q2 8 st, kI cI q3 9 wa, kI cI q4 9 pa, kI cI q5 9 ka, kI cI w0 8 wt]) hx hb hml hown hts hK hP hD hS hA [6, 7, 8] [0, 1, 2, 3, 4, 5, 9] rfl rfl (by decide) (by decide) 2 0 rfl rfl (c_X2_put l dd cI cJ cC cS m0 m1 m2 kya vla (okey sp st wt) b H.size) gX6_countOrders_X2_put rfl (by decide +kernel) (by decide) (by first | decide | (show _ ≤ 5 + cm.toNat; omega) | (show _ ≤ 40 * (5 + cm.toNat); omega)) (by first | decide | (show _ ≤ 5 + cm.toNat; omega) | (show _ ≤ 40 * (5 + cm.toNat); omega)) (⟨Nat.le_refl _, Nat.le_refl _⟩) rfl hl.1 rfl (Nat.le_of_ble_eq_true rfl) dX6_countOrders_121 (fun u_5 H locs hp121 hP hD hS => ?_)
            have hP : va_P dd vwCl [kO q0 1 [vI sp, .ref q1, .ref q2, .ref q3, .ref q4, .ref q5, vI ru, vI re, vI ar, vI fi], kI cI q1 8 cap, kI cI q2 8 st, kI cI q3 9 wa, kI cI q4 9 pa, kI cI q5 9 ka, kI cI w0 8 wt, kO m0 2 [.ref m1, .ref m2], kL cJ m1 1024 (uZ kya (hN (okey sp st wt)) (okey sp st wt)), kI cI m2 1024 (uZ vla (hN (okey sp st wt)) b)] H := hP
            have hD : va_D A [kO q0 1 [vI sp, .ref q1, .ref q2, .ref q3, .ref q4, .ref q5, vI ru, vI re, vI ar, vI fi], kI cI q1 8 cap, kI cI q2 8 st, kI cI q3 9 wa, kI cI q4 9 pa, kI cI q5 9 ka, kI cI w0 8 wt, kO m0 2 [.ref m1, .ref m2], kL cJ m1 1024 (uZ kya (hN (okey sp st wt)) (okey sp st wt)), kI cI m2 1024 (uZ vla (hN (okey sp st wt)) b)] := hD
            refine lv_iload hx hb dX6_countOrders_124 (lv_at hl 0 rfl) ?_
            subst hQ
            refine z_iret (z := b) hx hb hr hlocks dX6_countOrders_126 (wa, pa, ka, (uZ kya (hN (okey sp st wt)) (okey sp st wt)), (uZ vla (hN (okey sp st wt)) b)) hK hS ⟨by omega, by omega⟩ (hP.sub [0, 1, 2, 3, 4, 5, 7, 8, 9, 6] rfl) (hD.sub [0, 1, 2, 3, 4, 5, 7, 8, 9, 6] (by decide) rfl) ?_
            have hv := hbb
            rw [show i = sp by omega, ← cO_s (by omega)] at hv
            exact ⟨hv, hjk, mKO_put hmk hst hwt _ (by rw [hws]; exact hv)⟩
          · skip
            refine lv_iload hx hb dX6_countOrders_53 (lv_at hl 1 rfl) ?_
            refine lv_aload_n hx hb dX6_countOrders_55 rfl (lv_at hl 4 rfl) ?_
            refine va_alen (v := zI 8) hx hb hK hP 9 0 rfl rfl rfl dX6_countOrders_56 ?_
            refine z_icmp_ge (tgt := 116) hx hb dX6_countOrders_57 (by decide) (by omega) (fun c57 => ?_) (fun c57 => ?_)
            · exact absurd c57 (by omega)
            · skip
              refine lv_aload_n hx hb dX6_countOrders_60 rfl (lv_at hl 4 rfl) ?_
              refine lv_iload hx hb dX6_countOrders_61 (lv_at hl 1 rfl) ?_
              refine z_iald hx hb hK hP 9 0 rfl rfl (i := i) (by omega) (by decide) dX6_countOrders_63 ?_
              have f_6 := hwt i (by omega) (by omega)
              refine z_if_le (tgt := 110) hx hb dX6_countOrders_64 (by decide) (by omega) (fun c64 => ?_) (fun c64 => ?_)
              · skip
                refine z_iinc (a := i) (z := (i + 1)) (lv' := [(8, vI (i + 1)), (7, vI b), (0, .ref q0), (1, .ref m0), (2, .ref w0), (3, vI cm), (4, vL (okey sp st wt))]) hx hb dX6_countOrders_110 hl (k := 1) rfl rfl (by decide) rfl (fun ls hl => ?_)
                refine lv_goto (tgt := 44) hx hb dX6_countOrders_113 (by decide) ?_
                exact L44i _ (by omega) (i + 1) b wa pa ka kya vla H locs ls rfl (by omega) (by rw [sumZ_s (by omega), show cU sp cap ru re (cm - 1).toNat st wt i = 0 from if_neg (fun q => absurd q.1 (by omega)), hbb, Int.add_zero]) (hjk) (hmk) hP hD hS (lv_sub hl [1, 0, 2, 3, 4, 5, 6] rfl)
              · skip
                refine lv_aload_n hx hb dX6_countOrders_67 rfl (lv_at hl 4 rfl) ?_
                refine lv_iload hx hb dX6_countOrders_68 (lv_at hl 1 rfl) ?_
                refine lv_dup2_11 hx hb dX6_countOrders_70 rfl rfl ?_
                refine z_iald hx hb hK hP 9 0 rfl rfl (i := i) (by omega) (by decide) dX6_countOrders_71 ?_
                have f_7 := hwt i (by omega) (by omega)
                refine z_iconst hx hb dX6_countOrders_72 ?_
                refine z_isub (z := ((wt i) - 1)) hx hb rfl dX6_countOrders_73 ?_
                refine z_iast (ws' := [kO q0 1 [vI sp, .ref q1, .ref q2, .ref q3, .ref q4, .ref q5, vI ru, vI re, vI ar, vI fi], kI cI q1 8 cap, kI cI q2 8 st, kI cI q3 9 wa, kI cI q4 9 pa, kI cI q5 9 ka, kO m0 2 [.ref m1, .ref m2], kL cJ m1 1024 kya, kI cI m2 1024 vla, kI cI w0 8 (uZ wt i ((wt i) - 1))]) hx hb hK hP hD hS 9 0 rfl rfl (i := i) (x := ((wt i) - 1)) (by omega) (by decide) dX6_countOrders_74 rfl (fun H locs hP hD hS => ?_)
                refine lv_aload_n hx hb dX6_countOrders_75 rfl (lv_at hl 2 rfl) ?_
                refine lv_iload hx hb dX6_countOrders_76 (lv_at hl 1 rfl) ?_
                refine g_callVi (own := RX6) (n := 1) (mc := 0) (ms := 0) (As := [vI i]) (rest := []) (wc := [kO q0 1 [vI sp, .ref q1, .ref q2, .ref q3, .ref q4, .ref q5, vI ru, vI re, vI ar, vI fi], kI cI q1 8 cap, kI cI q2 8 st, kI cI q3 9 wa, kI cI q4 9 pa, kI cI q5 9 ka]) (wr := [kO m0 2 [.ref m1, .ref m2], kL cJ m1 1024 kya, kI cI m2 1024 vla, kI cI w0 8 (uZ wt i ((wt i) - 1))]) hx hb hml hown hts hK hP hD hS hA [0, 1, 2, 3, 4, 5] [6, 7, 8, 9] rfl rfl (by decide) (by decide) 1 0 rfl rfl (c_X1_arrive l dd cI cJ cC cS q0 q1 q2 q3 q4 q5 sp ru re ar fi cap st wa pa ka i H.size  (by first | assumption | omega) (by first | assumption | (intro j h0 h1; omega)) (by first | assumption | (intro j h0 h1; omega)) (by first | assumption | omega) (by first | assumption | omega) (by first | assumption | omega) (by first | assumption | omega)) gX6_countOrders_X1_arrive rfl (by decide +kernel) (by decide) (by first | decide | (show _ ≤ 5 + cm.toNat; omega) | (show _ ≤ 40 * (5 + cm.toNat); omega)) (by first | decide | (show _ ≤ 5 + cm.toNat; omega) | (show _ ≤ 40 * (5 + cm.toNat); omega)) (⟨Nat.le_refl _, Nat.le_refl _⟩) rfl hl.1 rfl (Nat.le_of_ble_eq_true rfl) dX6_countOrders_78 (fun z_8 u_9 H locs hp78 hP hD hS => ?_)
                subst z_8
                have hP : va_P dd vwCl [kO m0 2 [.ref m1, .ref m2], kL cJ m1 1024 kya, kI cI m2 1024 vla, kI cI w0 8 (uZ wt i ((wt i) - 1)), kO q0 1 [vI sp, .ref q1, .ref q2, .ref q3, .ref q4, .ref q5, vI ru, vI re, vI (ar + 1), vI (fi + flp (pP sp cap st ru re i))], kI cI q1 8 cap, kI cI q2 8 (stp st (pP sp cap st ru re i)), kI cI q3 9 (uZ wa ar i), kI cI q4 9 (uZ pa ar (pP sp cap st ru re i)), kI cI q5 9 (uZ ka ar (pK sp cap st ru re i))] H := hP
                have hD : va_D A [kO m0 2 [.ref m1, .ref m2], kL cJ m1 1024 kya, kI cI m2 1024 vla, kI cI w0 8 (uZ wt i ((wt i) - 1)), kO q0 1 [vI sp, .ref q1, .ref q2, .ref q3, .ref q4, .ref q5, vI ru, vI re, vI (ar + 1), vI (fi + flp (pP sp cap st ru re i))], kI cI q1 8 cap, kI cI q2 8 (stp st (pP sp cap st ru re i)), kI cI q3 9 (uZ wa ar i), kI cI q4 9 (uZ pa ar (pP sp cap st ru re i)), kI cI q5 9 (uZ ka ar (pK sp cap st ru re i))] := hD
                have hpp := pP_rg sp cap st ru re i
                have hsr := stp_rg (ru := ru) (re := re) (p := i) hcap hst
                have hff := fil_stp (st := st) (n := sp) (p := (pP sp cap st ru re i)) (by omega)
                by_cases hpk : 0 ≤ (pP sp cap st ru re i)
                · skip
                  refine z_bin (va := .null) (vb := .null) (y := zI 1) (congrArg zI (if_pos hpk)) ?_
                  refine z_if_eq (tgt := 98) hx hb dX6_countOrders_81 (by decide) (by omega) (fun c81 => ?_) (fun c81 => ?_)
                  · exact absurd c81 (by omega)
                  · skip
                    refine lv_iload hx hb dX6_countOrders_84 (lv_at hl 0 rfl) ?_
                    refine lv_aload_n hx hb dX6_countOrders_86 rfl (lv_at hl 2 rfl) ?_
                    refine lv_aload_n hx hb dX6_countOrders_87 rfl (lv_at hl 3 rfl) ?_
                    refine lv_aload_n hx hb dX6_countOrders_88 rfl (lv_at hl 4 rfl) ?_
                    refine lv_iload_n hx hb dX6_countOrders_89 rfl (lv_at hl 5 rfl) ?_
                    refine z_iconst hx hb dX6_countOrders_90 ?_
                    refine z_isub (z := (cm - 1)) hx hb rfl dX6_countOrders_91 ?_
                    refine g_callSi (own := RX6) (n := 4) (mc := 0) (ms := 0) (As := [.ref q0, .ref m0, .ref w0, vI (cm - 1)]) (rest := [vI b]) (wc := [kO q0 1 [vI sp, .ref q1, .ref q2, .ref q3, .ref q4, .ref q5, vI ru, vI re, vI (ar + 1), vI (fi + flp (pP sp cap st ru re i))], kI cI q1 8 cap, kI cI q2 8 (stp st (pP sp cap st ru re i)), kI cI q3 9 (uZ wa ar i), kI cI q4 9 (uZ pa ar (pP sp cap st ru re i)), kI cI q5 9 (uZ ka ar (pK sp cap st ru re i)), kO m0 2 [.ref m1, .ref m2], kL cJ m1 1024 kya, kI cI m2 1024 vla, kI cI w0 8 (uZ wt i ((wt i) - 1))]) (wr := []) hx hb hml hown hts hK hP hD hS hA [4, 5, 6, 7, 8, 9, 0, 1, 2, 3] [] rfl rfl (by decide) (by decide) (IH (cm - 1).toNat (by omega) q0 q1 q2 q3 q4 q5 m0 m1 m2 w0 sp ru re (ar + 1) (fi + flp (pP sp cap st ru re i)) cap (stp st (pP sp cap st ru re i)) (uZ wa ar i) (uZ pa ar (pP sp cap st ru re i)) (uZ ka ar (pK sp cap st ru re i)) kya vla (uZ wt i ((wt i) - 1)) (cm - 1) H.size rfl (by first | assumption | omega) (hcap) (hsr) (by first | assumption | omega) (by first | assumption | omega) (by first | assumption | omega) (dcr_W hwt (by omega)) (by rw [dcr_sum (by omega)]; omega) (by rw [hfi]; exact hff) (hmk)) gX6_countOrders_X6_countOrders rfl (by decide +kernel) (by decide) (by first | decide | (show _ ≤ 5 + cm.toNat; omega) | (show _ ≤ 40 * (5 + cm.toNat); omega)) (by first | decide | (show _ ≤ 5 + cm.toNat; omega) | (show _ ≤ 40 * (5 + cm.toNat); omega)) (⟨Nat.le_refl _, Nat.le_refl _⟩) rfl hl.1 rfl (Nat.le_of_ble_eq_true rfl) dX6_countOrders_92 (fun z_10 u_11 H locs hp92 hP hD hS => ?_)
                    obtain ⟨wi1_12, pl1_13, lk1_14, ky1_15, vl1_16⟩ := u_11
                    try dsimp only at hp92
                    obtain ⟨z_10e, hp92⟩ := hp92
                    subst z_10
                    obtain ⟨hq92, hqm92⟩ := hp92
                    have hP : va_P dd vwCl [kO q0 1 [vI sp, .ref q1, .ref q2, .ref q3, .ref q4, .ref q5, vI ru, vI re, vI (ar + 1), vI (fi + flp (pP sp cap st ru re i))], kI cI q1 8 cap, kI cI q2 8 (stp st (pP sp cap st ru re i)), kI cI q3 9 wi1_12, kI cI q4 9 pl1_13, kI cI q5 9 lk1_14, kO m0 2 [.ref m1, .ref m2], kL cJ m1 1024 ky1_15, kI cI m2 1024 vl1_16, kI cI w0 8 (uZ wt i ((wt i) - 1))] H := hP
                    have hD : va_D A [kO q0 1 [vI sp, .ref q1, .ref q2, .ref q3, .ref q4, .ref q5, vI ru, vI re, vI (ar + 1), vI (fi + flp (pP sp cap st ru re i))], kI cI q1 8 cap, kI cI q2 8 (stp st (pP sp cap st ru re i)), kI cI q3 9 wi1_12, kI cI q4 9 pl1_13, kI cI q5 9 lk1_14, kO m0 2 [.ref m1, .ref m2], kL cJ m1 1024 ky1_15, kI cI m2 1024 vl1_16, kI cI w0 8 (uZ wt i ((wt i) - 1))] := hD
                    refine z_iadd (z := (b + cO sp cap ru re (cm - 1).toNat (stp st (pP sp cap st ru re i)) (uZ wt i ((wt i) - 1)))) hx hb rfl dX6_countOrders_95 ?_
                    refine lv_istore (lv' := [(7, vI (b + cO sp cap ru re (cm - 1).toNat (stp st (pP sp cap st ru re i)) (uZ wt i ((wt i) - 1)))), (8, vI i), (0, .ref q0), (1, .ref m0), (2, .ref w0), (3, vI cm), (4, vL (okey sp st wt))]) hx hb dX6_countOrders_96 hl (by decide) rfl (fun ls hl => ?_)
                    refine lv_aload_n hx hb dX6_countOrders_98 rfl (lv_at hl 2 rfl) ?_
                    have hX : pl1_13 (ar + 1 - 1) = (pP sp cap st ru re i) := by
                      rw [show ar + 1 - 1 = ar by omega]
                      first | exact uZ_same _ _ _ | exact (hq92 ar (by omega) (by omega)).2.1.trans (uZ_same _ _ _)
                    refine g_callVv (own := RX6) (n := 0) (mc := 0) (ms := 0) (As := []) (rest := []) (wc := [kO q0 1 [vI sp, .ref q1, .ref q2, .ref q3, .ref q4, .ref q5, vI ru, vI re, vI (ar + 1), vI (fi + flp (pP sp cap st ru re i))], kI cI q1 8 cap, kI cI q2 8 (stp st (pP sp cap st ru re i)), kI cI q3 9 wi1_12, kI cI q4 9 pl1_13, kI cI q5 9 lk1_14]) (wr := [kO m0 2 [.ref m1, .ref m2], kL cJ m1 1024 ky1_15, kI cI m2 1024 vl1_16, kI cI w0 8 (uZ wt i ((wt i) - 1))]) hx hb hml hown hts hK hP hD hS hA [0, 1, 2, 3, 4, 5] [6, 7, 8, 9] rfl rfl (by decide) (by decide) 1 0 rfl rfl (c_X1_takeBackLast l dd cI cJ cC cS q0 q1 q2 q3 q4 q5 sp ru re (ar + 1) (fi + flp (pP sp cap st ru re i)) cap (stp st (pP sp cap st ru re i)) wi1_12 pl1_13 lk1_14 H.size  (by first | assumption | omega) (by first | assumption | omega) (by rw [hX]; omega)) gX6_countOrders_X1_takeBackLast rfl (by decide +kernel) (by decide) (by first | decide | (show _ ≤ 5 + cm.toNat; omega) | (show _ ≤ 40 * (5 + cm.toNat); omega)) (by first | decide | (show _ ≤ 5 + cm.toNat; omega) | (show _ ≤ 40 * (5 + cm.toNat); omega)) (⟨Nat.le_refl _, Nat.le_refl _⟩) rfl hl.1 rfl (Nat.le_of_ble_eq_true rfl) dX6_countOrders_99 (fun u_17 H locs hp99 hP hD hS => ?_)
                    have hP : va_P dd vwCl [kO m0 2 [.ref m1, .ref m2], kL cJ m1 1024 ky1_15, kI cI m2 1024 vl1_16, kI cI w0 8 (uZ wt i ((wt i) - 1)), kO q0 1 [vI sp, .ref q1, .ref q2, .ref q3, .ref q4, .ref q5, vI ru, vI re, vI ((ar + 1) - 1), vI ((fi + flp (pP sp cap st ru re i)) - flp (pl1_13 ((ar + 1) - 1)))], kI cI q1 8 cap, kI cI q2 8 (if 0 ≤ (pl1_13 ((ar + 1) - 1)) then uZ (stp st (pP sp cap st ru re i)) (pl1_13 ((ar + 1) - 1)) ((stp st (pP sp cap st ru re i)) (pl1_13 ((ar + 1) - 1)) - 1) else (stp st (pP sp cap st ru re i))), kI cI q3 9 wi1_12, kI cI q4 9 pl1_13, kI cI q5 9 lk1_14] H := hP
                    have hD : va_D A [kO m0 2 [.ref m1, .ref m2], kL cJ m1 1024 ky1_15, kI cI m2 1024 vl1_16, kI cI w0 8 (uZ wt i ((wt i) - 1)), kO q0 1 [vI sp, .ref q1, .ref q2, .ref q3, .ref q4, .ref q5, vI ru, vI re, vI ((ar + 1) - 1), vI ((fi + flp (pP sp cap st ru re i)) - flp (pl1_13 ((ar + 1) - 1)))], kI cI q1 8 cap, kI cI q2 8 (if 0 ≤ (pl1_13 ((ar + 1) - 1)) then uZ (stp st (pP sp cap st ru re i)) (pl1_13 ((ar + 1) - 1)) ((stp st (pP sp cap st ru re i)) (pl1_13 ((ar + 1) - 1)) - 1) else (stp st (pP sp cap st ru re i))), kI cI q3 9 wi1_12, kI cI q4 9 pl1_13, kI cI q5 9 lk1_14] := hD
                    refine lv_aload_n hx hb dX6_countOrders_102 rfl (lv_at hl 4 rfl) ?_
                    refine lv_iload hx hb dX6_countOrders_103 (lv_at hl 1 rfl) ?_
                    refine lv_dup2_11 hx hb dX6_countOrders_105 rfl rfl ?_
                    refine z_iald hx hb hK hP 3 0 rfl rfl (i := i) (by omega) (by decide) dX6_countOrders_106 ?_
                    refine z_iconst hx hb dX6_countOrders_107 ?_
                    refine z_iadd (z := (((uZ wt i ((wt i) - 1)) i) + 1)) hx hb rfl dX6_countOrders_108 ?_
                    refine z_iast (ws' := [kO m0 2 [.ref m1, .ref m2], kL cJ m1 1024 ky1_15, kI cI m2 1024 vl1_16, kI cI w0 8 (uZ (uZ wt i ((wt i) - 1)) i (((uZ wt i ((wt i) - 1)) i) + 1)), kO q0 1 [vI sp, .ref q1, .ref q2, .ref q3, .ref q4, .ref q5, vI ru, vI re, vI ((ar + 1) - 1), vI ((fi + flp (pP sp cap st ru re i)) - flp (pl1_13 ((ar + 1) - 1)))], kI cI q1 8 cap, kI cI q2 8 (if 0 ≤ (pl1_13 ((ar + 1) - 1)) then uZ (stp st (pP sp cap st ru re i)) (pl1_13 ((ar + 1) - 1)) ((stp st (pP sp cap st ru re i)) (pl1_13 ((ar + 1) - 1)) - 1) else (stp st (pP sp cap st ru re i))), kI cI q3 9 wi1_12, kI cI q4 9 pl1_13, kI cI q5 9 lk1_14]) hx hb hK hP hD hS 3 0 rfl rfl (i := i) (x := (((uZ wt i ((wt i) - 1)) i) + 1)) (by omega) (by decide) dX6_countOrders_109 rfl (fun H locs hP hD hS => ?_)
                    refine z_iinc (a := i) (z := (i + 1)) (lv' := [(8, vI (i + 1)), (7, vI (b + cO sp cap ru re (cm - 1).toNat (stp st (pP sp cap st ru re i)) (uZ wt i ((wt i) - 1)))), (0, .ref q0), (1, .ref m0), (2, .ref w0), (3, vI cm), (4, vL (okey sp st wt))]) hx hb dX6_countOrders_110 hl (k := 1) rfl rfl (by decide) rfl (fun ls hl => ?_)
                    refine lv_goto (tgt := 44) hx hb dX6_countOrders_113 (by decide) ?_
                    have el_18 : vI ((ar + 1) - 1) = vI ar := congrArg _ (by omega)
                    rw [el_18] at hP hD
                    have el_19 : vI ((fi + flp (pP sp cap st ru re i)) - flp (pl1_13 ((ar + 1) - 1))) = vI fi := congrArg _ (by rw [hX]; omega)
                    rw [el_19] at hP hD
                    have el_20 : kI cI q2 8 (if 0 ≤ (pl1_13 ((ar + 1) - 1)) then uZ (stp st (pP sp cap st ru re i)) (pl1_13 ((ar + 1) - 1)) ((stp st (pP sp cap st ru re i)) (pl1_13 ((ar + 1) - 1)) - 1) else (stp st (pP sp cap st ru re i))) = kI cI q2 8 st := kI_congr (by rw [hX, stp_back])
                    rw [el_20] at hP hD
                    have el_21 : kI cI w0 8 (uZ (uZ wt i ((wt i) - 1)) i (((uZ wt i ((wt i) - 1)) i) + 1)) = kI cI w0 8 wt := kI_congr (congrArg aZ uZ_back)
                    rw [el_21] at hP hD
                    exact L44i _ (by omega) (i + 1) (b + cO sp cap ru re (cm - 1).toNat (stp st (pP sp cap st ru re i)) (uZ wt i ((wt i) - 1))) wi1_12 pl1_13 lk1_14 ky1_15 vl1_16 H locs ls rfl (by omega) (by rw [sumZ_s (by omega), show cU sp cap ru re (cm - 1).toNat st wt i = _ from if_pos ⟨by omega, by omega⟩, hbb]; rfl) (fun j h0 h1 => by
                      have a1 := hq92 j h0 (by omega)
                      have a2 := hjk j h0 h1
                      rw [uZ_ne (by omega), uZ_ne (by omega), uZ_ne (by omega)] at a1
                      exact ⟨a1.1.trans a2.1, a1.2.1.trans a2.2.1, a1.2.2.trans a2.2.2⟩) (hqm92) (hP.sub [4, 5, 6, 7, 8, 9, 0, 1, 2, 3] rfl) (hD.sub [4, 5, 6, 7, 8, 9, 0, 1, 2, 3] (by decide) rfl) hS (lv_sub hl [1, 0, 2, 3, 4, 5, 6] rfl)
                · skip
                  refine z_bin (va := .null) (vb := .null) (y := zI 0) (congrArg zI (if_neg hpk)) ?_
                  refine z_if_eq (tgt := 98) hx hb dX6_countOrders_81 (by decide) (by omega) (fun c81 => ?_) (fun c81 => ?_)
                  · skip
                    refine lv_aload_n hx hb dX6_countOrders_98 rfl (lv_at hl 2 rfl) ?_
                    have hX : (uZ pa ar (pP sp cap st ru re i)) (ar + 1 - 1) = (pP sp cap st ru re i) := by
                      rw [show ar + 1 - 1 = ar by omega]
                      first | exact uZ_same _ _ _ | exact (hq92 ar (by omega) (by omega)).2.1.trans (uZ_same _ _ _)
                    refine g_callVv (own := RX6) (n := 0) (mc := 0) (ms := 0) (As := []) (rest := []) (wc := [kO q0 1 [vI sp, .ref q1, .ref q2, .ref q3, .ref q4, .ref q5, vI ru, vI re, vI (ar + 1), vI (fi + flp (pP sp cap st ru re i))], kI cI q1 8 cap, kI cI q2 8 (stp st (pP sp cap st ru re i)), kI cI q3 9 (uZ wa ar i), kI cI q4 9 (uZ pa ar (pP sp cap st ru re i)), kI cI q5 9 (uZ ka ar (pK sp cap st ru re i))]) (wr := [kO m0 2 [.ref m1, .ref m2], kL cJ m1 1024 kya, kI cI m2 1024 vla, kI cI w0 8 (uZ wt i ((wt i) - 1))]) hx hb hml hown hts hK hP hD hS hA [4, 5, 6, 7, 8, 9] [0, 1, 2, 3] rfl rfl (by decide) (by decide) 1 0 rfl rfl (c_X1_takeBackLast l dd cI cJ cC cS q0 q1 q2 q3 q4 q5 sp ru re (ar + 1) (fi + flp (pP sp cap st ru re i)) cap (stp st (pP sp cap st ru re i)) (uZ wa ar i) (uZ pa ar (pP sp cap st ru re i)) (uZ ka ar (pK sp cap st ru re i)) H.size  (by first | assumption | omega) (by first | assumption | omega) (by rw [hX]; omega)) gX6_countOrders_X1_takeBackLast rfl (by decide +kernel) (by decide) (by first | decide | (show _ ≤ 5 + cm.toNat; omega) | (show _ ≤ 40 * (5 + cm.toNat); omega)) (by first | decide | (show _ ≤ 5 + cm.toNat; omega) | (show _ ≤ 40 * (5 + cm.toNat); omega)) (⟨Nat.le_refl _, Nat.le_refl _⟩) rfl hl.1 rfl (Nat.le_of_ble_eq_true rfl) dX6_countOrders_99 (fun u_22 H locs hp99_23 hP hD hS => ?_)
                    have hP : va_P dd vwCl [kO m0 2 [.ref m1, .ref m2], kL cJ m1 1024 kya, kI cI m2 1024 vla, kI cI w0 8 (uZ wt i ((wt i) - 1)), kO q0 1 [vI sp, .ref q1, .ref q2, .ref q3, .ref q4, .ref q5, vI ru, vI re, vI ((ar + 1) - 1), vI ((fi + flp (pP sp cap st ru re i)) - flp ((uZ pa ar (pP sp cap st ru re i)) ((ar + 1) - 1)))], kI cI q1 8 cap, kI cI q2 8 (if 0 ≤ ((uZ pa ar (pP sp cap st ru re i)) ((ar + 1) - 1)) then uZ (stp st (pP sp cap st ru re i)) ((uZ pa ar (pP sp cap st ru re i)) ((ar + 1) - 1)) ((stp st (pP sp cap st ru re i)) ((uZ pa ar (pP sp cap st ru re i)) ((ar + 1) - 1)) - 1) else (stp st (pP sp cap st ru re i))), kI cI q3 9 (uZ wa ar i), kI cI q4 9 (uZ pa ar (pP sp cap st ru re i)), kI cI q5 9 (uZ ka ar (pK sp cap st ru re i))] H := hP
                    have hD : va_D A [kO m0 2 [.ref m1, .ref m2], kL cJ m1 1024 kya, kI cI m2 1024 vla, kI cI w0 8 (uZ wt i ((wt i) - 1)), kO q0 1 [vI sp, .ref q1, .ref q2, .ref q3, .ref q4, .ref q5, vI ru, vI re, vI ((ar + 1) - 1), vI ((fi + flp (pP sp cap st ru re i)) - flp ((uZ pa ar (pP sp cap st ru re i)) ((ar + 1) - 1)))], kI cI q1 8 cap, kI cI q2 8 (if 0 ≤ ((uZ pa ar (pP sp cap st ru re i)) ((ar + 1) - 1)) then uZ (stp st (pP sp cap st ru re i)) ((uZ pa ar (pP sp cap st ru re i)) ((ar + 1) - 1)) ((stp st (pP sp cap st ru re i)) ((uZ pa ar (pP sp cap st ru re i)) ((ar + 1) - 1)) - 1) else (stp st (pP sp cap st ru re i))), kI cI q3 9 (uZ wa ar i), kI cI q4 9 (uZ pa ar (pP sp cap st ru re i)), kI cI q5 9 (uZ ka ar (pK sp cap st ru re i))] := hD
                    refine lv_aload_n hx hb dX6_countOrders_102 rfl (lv_at hl 4 rfl) ?_
                    refine lv_iload hx hb dX6_countOrders_103 (lv_at hl 1 rfl) ?_
                    refine lv_dup2_11 hx hb dX6_countOrders_105 rfl rfl ?_
                    refine z_iald hx hb hK hP 3 0 rfl rfl (i := i) (by omega) (by decide) dX6_countOrders_106 ?_
                    refine z_iconst hx hb dX6_countOrders_107 ?_
                    refine z_iadd (z := (((uZ wt i ((wt i) - 1)) i) + 1)) hx hb rfl dX6_countOrders_108 ?_
                    refine z_iast (ws' := [kO m0 2 [.ref m1, .ref m2], kL cJ m1 1024 kya, kI cI m2 1024 vla, kI cI w0 8 (uZ (uZ wt i ((wt i) - 1)) i (((uZ wt i ((wt i) - 1)) i) + 1)), kO q0 1 [vI sp, .ref q1, .ref q2, .ref q3, .ref q4, .ref q5, vI ru, vI re, vI ((ar + 1) - 1), vI ((fi + flp (pP sp cap st ru re i)) - flp ((uZ pa ar (pP sp cap st ru re i)) ((ar + 1) - 1)))], kI cI q1 8 cap, kI cI q2 8 (if 0 ≤ ((uZ pa ar (pP sp cap st ru re i)) ((ar + 1) - 1)) then uZ (stp st (pP sp cap st ru re i)) ((uZ pa ar (pP sp cap st ru re i)) ((ar + 1) - 1)) ((stp st (pP sp cap st ru re i)) ((uZ pa ar (pP sp cap st ru re i)) ((ar + 1) - 1)) - 1) else (stp st (pP sp cap st ru re i))), kI cI q3 9 (uZ wa ar i), kI cI q4 9 (uZ pa ar (pP sp cap st ru re i)), kI cI q5 9 (uZ ka ar (pK sp cap st ru re i))]) hx hb hK hP hD hS 3 0 rfl rfl (i := i) (x := (((uZ wt i ((wt i) - 1)) i) + 1)) (by omega) (by decide) dX6_countOrders_109 rfl (fun H locs hP hD hS => ?_)
                    refine z_iinc (a := i) (z := (i + 1)) (lv' := [(8, vI (i + 1)), (7, vI b), (0, .ref q0), (1, .ref m0), (2, .ref w0), (3, vI cm), (4, vL (okey sp st wt))]) hx hb dX6_countOrders_110 hl (k := 1) rfl rfl (by decide) rfl (fun ls hl => ?_)
                    refine lv_goto (tgt := 44) hx hb dX6_countOrders_113 (by decide) ?_
                    have el_24 : vI ((ar + 1) - 1) = vI ar := congrArg _ (by omega)
                    rw [el_24] at hP hD
                    have el_25 : vI ((fi + flp (pP sp cap st ru re i)) - flp ((uZ pa ar (pP sp cap st ru re i)) ((ar + 1) - 1))) = vI fi := congrArg _ (by rw [hX]; omega)
                    rw [el_25] at hP hD
                    have el_26 : kI cI q2 8 (if 0 ≤ ((uZ pa ar (pP sp cap st ru re i)) ((ar + 1) - 1)) then uZ (stp st (pP sp cap st ru re i)) ((uZ pa ar (pP sp cap st ru re i)) ((ar + 1) - 1)) ((stp st (pP sp cap st ru re i)) ((uZ pa ar (pP sp cap st ru re i)) ((ar + 1) - 1)) - 1) else (stp st (pP sp cap st ru re i))) = kI cI q2 8 st := kI_congr (by rw [hX, stp_back])
                    rw [el_26] at hP hD
                    have el_27 : kI cI w0 8 (uZ (uZ wt i ((wt i) - 1)) i (((uZ wt i ((wt i) - 1)) i) + 1)) = kI cI w0 8 wt := kI_congr (congrArg aZ uZ_back)
                    rw [el_27] at hP hD
                    exact L44i _ (by omega) (i + 1) b (uZ wa ar i) (uZ pa ar (pP sp cap st ru re i)) (uZ ka ar (pK sp cap st ru re i)) kya vla H locs ls rfl (by omega) (by rw [sumZ_s (by omega), show cU sp cap ru re (cm - 1).toNat st wt i = 0 from if_neg (fun q => absurd q.2 (by omega)), hbb, Int.add_zero]) (fun j h0 h1 => by rw [uZ_ne (by omega), uZ_ne (by omega), uZ_ne (by omega)]; exact hjk j h0 h1) (hmk) (hP.sub [4, 5, 6, 7, 8, 9, 0, 1, 2, 3] rfl) (hD.sub [4, 5, 6, 7, 8, 9, 0, 1, 2, 3] (by decide) rfl) hS (lv_sub hl [1, 0, 2, 3, 4, 5, 6] rfl)
                  · exact absurd c81 (by omega)
        exact L44 _ 0 0 wi pl lk ky vl H locs ls rfl (by omega) (rfl) (fun j _ _ => ⟨rfl, rfl, rfl⟩) (hmo) (hP.sub [0, 1, 2, 3, 4, 5, 7, 8, 9, 6] rfl) (hD.sub [0, 1, 2, 3, 4, 5, 7, 8, 9, 6] (by decide) rfl) hS (lv_sub hl [1, 0, 4, 5, 6, 7, 3] rfl)
      · skip
        refine lv_iload hx hb dX6_countOrders_35 (lv_at hl 0 rfl) ?_
        subst hQ
        refine z_iret (z := cO sp cap ru re cm.toNat st wt) hx hb hr hlocks dX6_countOrders_37 (wi, pl, lk, ky, vl) hK hS ⟨by omega, by omega⟩ (hP.sub [0, 1, 2, 3, 4, 5, 7, 8, 9, 6] rfl) (hD.sub [0, 1, 2, 3, 4, 5, 7, 8, 9, 6] (by decide) rfl) ?_
        exact ⟨rfl, fun j _ _ => ⟨rfl, rfl, rfl⟩, hmo⟩
    · skip
      refine z_bin (va := .null) (vb := .null) (y := zI (-1)) (congrArg zI (if_neg hh)) ?_
      refine lv_istore (lv' := [(6, vI (-1)), (4, vL (okey sp st wt)), (0, .ref q0), (1, .ref m0), (2, .ref w0), (3, vI cm)]) hx hb dX6_countOrders_27 hl (by decide) rfl (fun ls hl => ?_)
      refine lv_iload hx hb dX6_countOrders_29 (lv_at hl 0 rfl) ?_
      refine z_iconst hx hb dX6_countOrders_31 ?_
      refine z_icmp_eq (tgt := 38) hx hb dX6_countOrders_32 (by decide) (by omega) (fun c32 => ?_) (fun c32 => ?_)
      · skip
        refine z_iconst hx hb dX6_countOrders_38 ?_
        refine lv_istore (lv' := [(7, vI 0), (6, vI (-1)), (4, vL (okey sp st wt)), (0, .ref q0), (1, .ref m0), (2, .ref w0), (3, vI cm)]) hx hb dX6_countOrders_39 hl (by decide) rfl (fun ls hl => ?_)
        refine z_iconst hx hb dX6_countOrders_41 ?_
        refine lv_istore (lv' := [(8, vI 0), (7, vI 0), (6, vI (-1)), (4, vL (okey sp st wt)), (0, .ref q0), (1, .ref m0), (2, .ref w0), (3, vI cm)]) hx hb dX6_countOrders_42 hl (by decide) rfl (fun ls hl => ?_)
        have L44 : ∀ (nn : Nat) (i : Int) (b : Int) (wa : Int → Int) (pa : Int → Int) (ka : Int → Int) (kya : Int → Int) (vla : Int → Int) (H : Heap) (locs : List Loc) (ls : Array Slot), ((sp + 1 - i).toNat) = nn → (0 ≤ i ∧ i ≤ sp) → (b = sumZ (fun s => cU sp cap ru re (cm - 1).toNat st wt s) i.toNat) → (∀ j : Int, 0 ≤ j → j < ar → wa j = wi j ∧ pa j = pl j ∧ ka j = lk j) → (mKO sp cap ru re kya vla) → va_P dd vwCl [kO q0 1 [vI sp, .ref q1, .ref q2, .ref q3, .ref q4, .ref q5, vI ru, vI re, vI ar, vI fi], kI cI q1 8 cap, kI cI q2 8 st, kI cI q3 9 wa, kI cI q4 9 pa, kI cI q5 9 ka, kO m0 2 [.ref m1, .ref m2], kL cJ m1 1024 kya, kI cI m2 1024 vla, kI cI w0 8 wt] H → va_D A [kO q0 1 [vI sp, .ref q1, .ref q2, .ref q3, .ref q4, .ref q5, vI ru, vI re, vI ar, vI fi], kI cI q1 8 cap, kI cI q2 8 st, kI cI q3 9 wa, kI cI q4 9 pa, kI cI q5 9 ka, kO m0 2 [.ref m1, .ref m2], kL cJ m1 1024 kya, kI cI m2 1024 vla, kI cI w0 8 wt] → va_S A s.heap H locs → lv_has ls 9 [(7, vI b), (8, vI i), (0, .ref q0), (1, .ref m0), (2, .ref w0), (3, vI cm), (4, vL (okey sp st wt))] → W p l e (gR (5 + cm.toNat) 0 0) s m args below meth c H locs 0 0 Q (F0 m 44 ls []) := by
          intro nn
          induction nn using Nat.strongRecOn with
          | ind nn L44i =>
          intro i b wa pa ka kya vla H locs ls hmeas hi hbb hjk hmk hP hD hS hl
          refine lv_iload hx hb dX6_countOrders_44 (lv_at hl 1 rfl) ?_
          refine lv_aload_n hx hb dX6_countOrders_46 rfl (lv_at hl 2 rfl) ?_
          refine va_get (D := dd) (ci := 1) (v := vI sp) (C := RX1) (T := TX1) (N := 10) hx hb hts hi1 hown hK hP 0 rfl rfl 0 (by decide) (hts _ (List.mem_cons_of_mem _ (List.mem_append_left _ (List.mem_append_left _ (List.mem_append_left _ (List.mem_of_getElem? (i := 1) rfl)))))) (fun _ h9 => h9) rfl dX6_countOrders_47 ?_
          refine z_icmp_ge (tgt := 116) hx hb dX6_countOrders_50 (by decide) (by omega) (fun c50 => ?_) (fun c50 => ?_)
          · skip
            refine lv_aload_n hx hb dX6_countOrders_116 rfl (lv_at hl 3 rfl) ?_
            refine lv_lload hx hb dX6_countOrders_117 (lv_at hl 6 rfl) ?_
            refine lv_iload hx hb dX6_countOrders_119 (lv_at hl 0 rfl) ?_
            refine g_callVv (own := RX6) (n := 2) (mc := 0) (ms := 0) (As := [vL (okey sp st wt), vI b]) (rest := []) (wc := [kO m0 2 [.ref m1, .ref m2], kL cJ m1 1024 kya, kI cI m2 1024 vla]) (wr := [kO q0 1 [vI sp, .ref q1, .ref q2, .ref q3, .ref q4, .ref q5, vI ru, vI re, vI ar, vI fi], kI cI q1 8 cap, kI cI q2 8 st, kI cI q3 9 wa, kI cI q4 9 pa, kI cI q5 9 ka, kI cI w0 8 wt]) hx hb hml hown hts hK hP hD hS hA [6, 7, 8] [0, 1, 2, 3, 4, 5, 9] rfl rfl (by decide) (by decide) 2 0 rfl rfl (c_X2_put l dd cI cJ cC cS m0 m1 m2 kya vla (okey sp st wt) b H.size) gX6_countOrders_X2_put rfl (by decide +kernel) (by decide) (by first | decide | (show _ ≤ 5 + cm.toNat; omega) | (show _ ≤ 40 * (5 + cm.toNat); omega)) (by first | decide | (show _ ≤ 5 + cm.toNat; omega) | (show _ ≤ 40 * (5 + cm.toNat); omega)) (⟨Nat.le_refl _, Nat.le_refl _⟩) rfl hl.1 rfl (Nat.le_of_ble_eq_true rfl) dX6_countOrders_121 (fun u_28 H locs hp121_29 hP hD hS => ?_)
            have hP : va_P dd vwCl [kO q0 1 [vI sp, .ref q1, .ref q2, .ref q3, .ref q4, .ref q5, vI ru, vI re, vI ar, vI fi], kI cI q1 8 cap, kI cI q2 8 st, kI cI q3 9 wa, kI cI q4 9 pa, kI cI q5 9 ka, kI cI w0 8 wt, kO m0 2 [.ref m1, .ref m2], kL cJ m1 1024 (uZ kya (hN (okey sp st wt)) (okey sp st wt)), kI cI m2 1024 (uZ vla (hN (okey sp st wt)) b)] H := hP
            have hD : va_D A [kO q0 1 [vI sp, .ref q1, .ref q2, .ref q3, .ref q4, .ref q5, vI ru, vI re, vI ar, vI fi], kI cI q1 8 cap, kI cI q2 8 st, kI cI q3 9 wa, kI cI q4 9 pa, kI cI q5 9 ka, kI cI w0 8 wt, kO m0 2 [.ref m1, .ref m2], kL cJ m1 1024 (uZ kya (hN (okey sp st wt)) (okey sp st wt)), kI cI m2 1024 (uZ vla (hN (okey sp st wt)) b)] := hD
            refine lv_iload hx hb dX6_countOrders_124 (lv_at hl 0 rfl) ?_
            subst hQ
            refine z_iret (z := b) hx hb hr hlocks dX6_countOrders_126 (wa, pa, ka, (uZ kya (hN (okey sp st wt)) (okey sp st wt)), (uZ vla (hN (okey sp st wt)) b)) hK hS ⟨by omega, by omega⟩ (hP.sub [0, 1, 2, 3, 4, 5, 7, 8, 9, 6] rfl) (hD.sub [0, 1, 2, 3, 4, 5, 7, 8, 9, 6] (by decide) rfl) ?_
            have hv := hbb
            rw [show i = sp by omega, ← cO_s (by omega)] at hv
            exact ⟨hv, hjk, mKO_put hmk hst hwt _ (by rw [hws]; exact hv)⟩
          · skip
            refine lv_iload hx hb dX6_countOrders_53 (lv_at hl 1 rfl) ?_
            refine lv_aload_n hx hb dX6_countOrders_55 rfl (lv_at hl 4 rfl) ?_
            refine va_alen (v := zI 8) hx hb hK hP 9 0 rfl rfl rfl dX6_countOrders_56 ?_
            refine z_icmp_ge (tgt := 116) hx hb dX6_countOrders_57 (by decide) (by omega) (fun c57 => ?_) (fun c57 => ?_)
            · exact absurd c57 (by omega)
            · skip
              refine lv_aload_n hx hb dX6_countOrders_60 rfl (lv_at hl 4 rfl) ?_
              refine lv_iload hx hb dX6_countOrders_61 (lv_at hl 1 rfl) ?_
              refine z_iald hx hb hK hP 9 0 rfl rfl (i := i) (by omega) (by decide) dX6_countOrders_63 ?_
              have f_30 := hwt i (by omega) (by omega)
              refine z_if_le (tgt := 110) hx hb dX6_countOrders_64 (by decide) (by omega) (fun c64 => ?_) (fun c64 => ?_)
              · skip
                refine z_iinc (a := i) (z := (i + 1)) (lv' := [(8, vI (i + 1)), (7, vI b), (0, .ref q0), (1, .ref m0), (2, .ref w0), (3, vI cm), (4, vL (okey sp st wt))]) hx hb dX6_countOrders_110 hl (k := 1) rfl rfl (by decide) rfl (fun ls hl => ?_)
                refine lv_goto (tgt := 44) hx hb dX6_countOrders_113 (by decide) ?_
                exact L44i _ (by omega) (i + 1) b wa pa ka kya vla H locs ls rfl (by omega) (by rw [sumZ_s (by omega), show cU sp cap ru re (cm - 1).toNat st wt i = 0 from if_neg (fun q => absurd q.1 (by omega)), hbb, Int.add_zero]) (hjk) (hmk) hP hD hS (lv_sub hl [1, 0, 2, 3, 4, 5, 6] rfl)
              · skip
                refine lv_aload_n hx hb dX6_countOrders_67 rfl (lv_at hl 4 rfl) ?_
                refine lv_iload hx hb dX6_countOrders_68 (lv_at hl 1 rfl) ?_
                refine lv_dup2_11 hx hb dX6_countOrders_70 rfl rfl ?_
                refine z_iald hx hb hK hP 9 0 rfl rfl (i := i) (by omega) (by decide) dX6_countOrders_71 ?_
                have f_31 := hwt i (by omega) (by omega)
                refine z_iconst hx hb dX6_countOrders_72 ?_
                refine z_isub (z := ((wt i) - 1)) hx hb rfl dX6_countOrders_73 ?_
                refine z_iast (ws' := [kO q0 1 [vI sp, .ref q1, .ref q2, .ref q3, .ref q4, .ref q5, vI ru, vI re, vI ar, vI fi], kI cI q1 8 cap, kI cI q2 8 st, kI cI q3 9 wa, kI cI q4 9 pa, kI cI q5 9 ka, kO m0 2 [.ref m1, .ref m2], kL cJ m1 1024 kya, kI cI m2 1024 vla, kI cI w0 8 (uZ wt i ((wt i) - 1))]) hx hb hK hP hD hS 9 0 rfl rfl (i := i) (x := ((wt i) - 1)) (by omega) (by decide) dX6_countOrders_74 rfl (fun H locs hP hD hS => ?_)
                refine lv_aload_n hx hb dX6_countOrders_75 rfl (lv_at hl 2 rfl) ?_
                refine lv_iload hx hb dX6_countOrders_76 (lv_at hl 1 rfl) ?_
                refine g_callVi (own := RX6) (n := 1) (mc := 0) (ms := 0) (As := [vI i]) (rest := []) (wc := [kO q0 1 [vI sp, .ref q1, .ref q2, .ref q3, .ref q4, .ref q5, vI ru, vI re, vI ar, vI fi], kI cI q1 8 cap, kI cI q2 8 st, kI cI q3 9 wa, kI cI q4 9 pa, kI cI q5 9 ka]) (wr := [kO m0 2 [.ref m1, .ref m2], kL cJ m1 1024 kya, kI cI m2 1024 vla, kI cI w0 8 (uZ wt i ((wt i) - 1))]) hx hb hml hown hts hK hP hD hS hA [0, 1, 2, 3, 4, 5] [6, 7, 8, 9] rfl rfl (by decide) (by decide) 1 0 rfl rfl (c_X1_arrive l dd cI cJ cC cS q0 q1 q2 q3 q4 q5 sp ru re ar fi cap st wa pa ka i H.size  (by first | assumption | omega) (by first | assumption | (intro j h0 h1; omega)) (by first | assumption | (intro j h0 h1; omega)) (by first | assumption | omega) (by first | assumption | omega) (by first | assumption | omega) (by first | assumption | omega)) gX6_countOrders_X1_arrive rfl (by decide +kernel) (by decide) (by first | decide | (show _ ≤ 5 + cm.toNat; omega) | (show _ ≤ 40 * (5 + cm.toNat); omega)) (by first | decide | (show _ ≤ 5 + cm.toNat; omega) | (show _ ≤ 40 * (5 + cm.toNat); omega)) (⟨Nat.le_refl _, Nat.le_refl _⟩) rfl hl.1 rfl (Nat.le_of_ble_eq_true rfl) dX6_countOrders_78 (fun z_32 u_33 H locs hp78_34 hP hD hS => ?_)
                subst z_32
                have hP : va_P dd vwCl [kO m0 2 [.ref m1, .ref m2], kL cJ m1 1024 kya, kI cI m2 1024 vla, kI cI w0 8 (uZ wt i ((wt i) - 1)), kO q0 1 [vI sp, .ref q1, .ref q2, .ref q3, .ref q4, .ref q5, vI ru, vI re, vI (ar + 1), vI (fi + flp (pP sp cap st ru re i))], kI cI q1 8 cap, kI cI q2 8 (stp st (pP sp cap st ru re i)), kI cI q3 9 (uZ wa ar i), kI cI q4 9 (uZ pa ar (pP sp cap st ru re i)), kI cI q5 9 (uZ ka ar (pK sp cap st ru re i))] H := hP
                have hD : va_D A [kO m0 2 [.ref m1, .ref m2], kL cJ m1 1024 kya, kI cI m2 1024 vla, kI cI w0 8 (uZ wt i ((wt i) - 1)), kO q0 1 [vI sp, .ref q1, .ref q2, .ref q3, .ref q4, .ref q5, vI ru, vI re, vI (ar + 1), vI (fi + flp (pP sp cap st ru re i))], kI cI q1 8 cap, kI cI q2 8 (stp st (pP sp cap st ru re i)), kI cI q3 9 (uZ wa ar i), kI cI q4 9 (uZ pa ar (pP sp cap st ru re i)), kI cI q5 9 (uZ ka ar (pK sp cap st ru re i))] := hD
                have hpp := pP_rg sp cap st ru re i
                have hsr := stp_rg (ru := ru) (re := re) (p := i) hcap hst
                have hff := fil_stp (st := st) (n := sp) (p := (pP sp cap st ru re i)) (by omega)
                by_cases hpk : 0 ≤ (pP sp cap st ru re i)
                · skip
                  refine z_bin (va := .null) (vb := .null) (y := zI 1) (congrArg zI (if_pos hpk)) ?_
                  refine z_if_eq (tgt := 98) hx hb dX6_countOrders_81 (by decide) (by omega) (fun c81 => ?_) (fun c81 => ?_)
                  · exact absurd c81 (by omega)
                  · skip
                    refine lv_iload hx hb dX6_countOrders_84 (lv_at hl 0 rfl) ?_
                    refine lv_aload_n hx hb dX6_countOrders_86 rfl (lv_at hl 2 rfl) ?_
                    refine lv_aload_n hx hb dX6_countOrders_87 rfl (lv_at hl 3 rfl) ?_
                    refine lv_aload_n hx hb dX6_countOrders_88 rfl (lv_at hl 4 rfl) ?_
                    refine lv_iload_n hx hb dX6_countOrders_89 rfl (lv_at hl 5 rfl) ?_
                    refine z_iconst hx hb dX6_countOrders_90 ?_
                    refine z_isub (z := (cm - 1)) hx hb rfl dX6_countOrders_91 ?_
                    refine g_callSi (own := RX6) (n := 4) (mc := 0) (ms := 0) (As := [.ref q0, .ref m0, .ref w0, vI (cm - 1)]) (rest := [vI b]) (wc := [kO q0 1 [vI sp, .ref q1, .ref q2, .ref q3, .ref q4, .ref q5, vI ru, vI re, vI (ar + 1), vI (fi + flp (pP sp cap st ru re i))], kI cI q1 8 cap, kI cI q2 8 (stp st (pP sp cap st ru re i)), kI cI q3 9 (uZ wa ar i), kI cI q4 9 (uZ pa ar (pP sp cap st ru re i)), kI cI q5 9 (uZ ka ar (pK sp cap st ru re i)), kO m0 2 [.ref m1, .ref m2], kL cJ m1 1024 kya, kI cI m2 1024 vla, kI cI w0 8 (uZ wt i ((wt i) - 1))]) (wr := []) hx hb hml hown hts hK hP hD hS hA [4, 5, 6, 7, 8, 9, 0, 1, 2, 3] [] rfl rfl (by decide) (by decide) (IH (cm - 1).toNat (by omega) q0 q1 q2 q3 q4 q5 m0 m1 m2 w0 sp ru re (ar + 1) (fi + flp (pP sp cap st ru re i)) cap (stp st (pP sp cap st ru re i)) (uZ wa ar i) (uZ pa ar (pP sp cap st ru re i)) (uZ ka ar (pK sp cap st ru re i)) kya vla (uZ wt i ((wt i) - 1)) (cm - 1) H.size rfl (by first | assumption | omega) (hcap) (hsr) (by first | assumption | omega) (by first | assumption | omega) (by first | assumption | omega) (dcr_W hwt (by omega)) (by rw [dcr_sum (by omega)]; omega) (by rw [hfi]; exact hff) (hmk)) gX6_countOrders_X6_countOrders rfl (by decide +kernel) (by decide) (by first | decide | (show _ ≤ 5 + cm.toNat; omega) | (show _ ≤ 40 * (5 + cm.toNat); omega)) (by first | decide | (show _ ≤ 5 + cm.toNat; omega) | (show _ ≤ 40 * (5 + cm.toNat); omega)) (⟨Nat.le_refl _, Nat.le_refl _⟩) rfl hl.1 rfl (Nat.le_of_ble_eq_true rfl) dX6_countOrders_92 (fun z_35 u_36 H locs hp92_37 hP hD hS => ?_)
                    obtain ⟨wi1_38, pl1_39, lk1_40, ky1_41, vl1_42⟩ := u_36
                    try dsimp only at hp92_37
                    obtain ⟨z_35e, hp92_37⟩ := hp92_37
                    subst z_35
                    obtain ⟨hq92, hqm92⟩ := hp92_37
                    have hP : va_P dd vwCl [kO q0 1 [vI sp, .ref q1, .ref q2, .ref q3, .ref q4, .ref q5, vI ru, vI re, vI (ar + 1), vI (fi + flp (pP sp cap st ru re i))], kI cI q1 8 cap, kI cI q2 8 (stp st (pP sp cap st ru re i)), kI cI q3 9 wi1_38, kI cI q4 9 pl1_39, kI cI q5 9 lk1_40, kO m0 2 [.ref m1, .ref m2], kL cJ m1 1024 ky1_41, kI cI m2 1024 vl1_42, kI cI w0 8 (uZ wt i ((wt i) - 1))] H := hP
                    have hD : va_D A [kO q0 1 [vI sp, .ref q1, .ref q2, .ref q3, .ref q4, .ref q5, vI ru, vI re, vI (ar + 1), vI (fi + flp (pP sp cap st ru re i))], kI cI q1 8 cap, kI cI q2 8 (stp st (pP sp cap st ru re i)), kI cI q3 9 wi1_38, kI cI q4 9 pl1_39, kI cI q5 9 lk1_40, kO m0 2 [.ref m1, .ref m2], kL cJ m1 1024 ky1_41, kI cI m2 1024 vl1_42, kI cI w0 8 (uZ wt i ((wt i) - 1))] := hD
                    refine z_iadd (z := (b + cO sp cap ru re (cm - 1).toNat (stp st (pP sp cap st ru re i)) (uZ wt i ((wt i) - 1)))) hx hb rfl dX6_countOrders_95 ?_
                    refine lv_istore (lv' := [(7, vI (b + cO sp cap ru re (cm - 1).toNat (stp st (pP sp cap st ru re i)) (uZ wt i ((wt i) - 1)))), (8, vI i), (0, .ref q0), (1, .ref m0), (2, .ref w0), (3, vI cm), (4, vL (okey sp st wt))]) hx hb dX6_countOrders_96 hl (by decide) rfl (fun ls hl => ?_)
                    refine lv_aload_n hx hb dX6_countOrders_98 rfl (lv_at hl 2 rfl) ?_
                    have hX : pl1_39 (ar + 1 - 1) = (pP sp cap st ru re i) := by
                      rw [show ar + 1 - 1 = ar by omega]
                      first | exact uZ_same _ _ _ | exact (hq92 ar (by omega) (by omega)).2.1.trans (uZ_same _ _ _)
                    refine g_callVv (own := RX6) (n := 0) (mc := 0) (ms := 0) (As := []) (rest := []) (wc := [kO q0 1 [vI sp, .ref q1, .ref q2, .ref q3, .ref q4, .ref q5, vI ru, vI re, vI (ar + 1), vI (fi + flp (pP sp cap st ru re i))], kI cI q1 8 cap, kI cI q2 8 (stp st (pP sp cap st ru re i)), kI cI q3 9 wi1_38, kI cI q4 9 pl1_39, kI cI q5 9 lk1_40]) (wr := [kO m0 2 [.ref m1, .ref m2], kL cJ m1 1024 ky1_41, kI cI m2 1024 vl1_42, kI cI w0 8 (uZ wt i ((wt i) - 1))]) hx hb hml hown hts hK hP hD hS hA [0, 1, 2, 3, 4, 5] [6, 7, 8, 9] rfl rfl (by decide) (by decide) 1 0 rfl rfl (c_X1_takeBackLast l dd cI cJ cC cS q0 q1 q2 q3 q4 q5 sp ru re (ar + 1) (fi + flp (pP sp cap st ru re i)) cap (stp st (pP sp cap st ru re i)) wi1_38 pl1_39 lk1_40 H.size  (by first | assumption | omega) (by first | assumption | omega) (by rw [hX]; omega)) gX6_countOrders_X1_takeBackLast rfl (by decide +kernel) (by decide) (by first | decide | (show _ ≤ 5 + cm.toNat; omega) | (show _ ≤ 40 * (5 + cm.toNat); omega)) (by first | decide | (show _ ≤ 5 + cm.toNat; omega) | (show _ ≤ 40 * (5 + cm.toNat); omega)) (⟨Nat.le_refl _, Nat.le_refl _⟩) rfl hl.1 rfl (Nat.le_of_ble_eq_true rfl) dX6_countOrders_99 (fun u_43 H locs hp99_44 hP hD hS => ?_)
                    have hP : va_P dd vwCl [kO m0 2 [.ref m1, .ref m2], kL cJ m1 1024 ky1_41, kI cI m2 1024 vl1_42, kI cI w0 8 (uZ wt i ((wt i) - 1)), kO q0 1 [vI sp, .ref q1, .ref q2, .ref q3, .ref q4, .ref q5, vI ru, vI re, vI ((ar + 1) - 1), vI ((fi + flp (pP sp cap st ru re i)) - flp (pl1_39 ((ar + 1) - 1)))], kI cI q1 8 cap, kI cI q2 8 (if 0 ≤ (pl1_39 ((ar + 1) - 1)) then uZ (stp st (pP sp cap st ru re i)) (pl1_39 ((ar + 1) - 1)) ((stp st (pP sp cap st ru re i)) (pl1_39 ((ar + 1) - 1)) - 1) else (stp st (pP sp cap st ru re i))), kI cI q3 9 wi1_38, kI cI q4 9 pl1_39, kI cI q5 9 lk1_40] H := hP
                    have hD : va_D A [kO m0 2 [.ref m1, .ref m2], kL cJ m1 1024 ky1_41, kI cI m2 1024 vl1_42, kI cI w0 8 (uZ wt i ((wt i) - 1)), kO q0 1 [vI sp, .ref q1, .ref q2, .ref q3, .ref q4, .ref q5, vI ru, vI re, vI ((ar + 1) - 1), vI ((fi + flp (pP sp cap st ru re i)) - flp (pl1_39 ((ar + 1) - 1)))], kI cI q1 8 cap, kI cI q2 8 (if 0 ≤ (pl1_39 ((ar + 1) - 1)) then uZ (stp st (pP sp cap st ru re i)) (pl1_39 ((ar + 1) - 1)) ((stp st (pP sp cap st ru re i)) (pl1_39 ((ar + 1) - 1)) - 1) else (stp st (pP sp cap st ru re i))), kI cI q3 9 wi1_38, kI cI q4 9 pl1_39, kI cI q5 9 lk1_40] := hD
                    refine lv_aload_n hx hb dX6_countOrders_102 rfl (lv_at hl 4 rfl) ?_
                    refine lv_iload hx hb dX6_countOrders_103 (lv_at hl 1 rfl) ?_
                    refine lv_dup2_11 hx hb dX6_countOrders_105 rfl rfl ?_
                    refine z_iald hx hb hK hP 3 0 rfl rfl (i := i) (by omega) (by decide) dX6_countOrders_106 ?_
                    refine z_iconst hx hb dX6_countOrders_107 ?_
                    refine z_iadd (z := (((uZ wt i ((wt i) - 1)) i) + 1)) hx hb rfl dX6_countOrders_108 ?_
                    refine z_iast (ws' := [kO m0 2 [.ref m1, .ref m2], kL cJ m1 1024 ky1_41, kI cI m2 1024 vl1_42, kI cI w0 8 (uZ (uZ wt i ((wt i) - 1)) i (((uZ wt i ((wt i) - 1)) i) + 1)), kO q0 1 [vI sp, .ref q1, .ref q2, .ref q3, .ref q4, .ref q5, vI ru, vI re, vI ((ar + 1) - 1), vI ((fi + flp (pP sp cap st ru re i)) - flp (pl1_39 ((ar + 1) - 1)))], kI cI q1 8 cap, kI cI q2 8 (if 0 ≤ (pl1_39 ((ar + 1) - 1)) then uZ (stp st (pP sp cap st ru re i)) (pl1_39 ((ar + 1) - 1)) ((stp st (pP sp cap st ru re i)) (pl1_39 ((ar + 1) - 1)) - 1) else (stp st (pP sp cap st ru re i))), kI cI q3 9 wi1_38, kI cI q4 9 pl1_39, kI cI q5 9 lk1_40]) hx hb hK hP hD hS 3 0 rfl rfl (i := i) (x := (((uZ wt i ((wt i) - 1)) i) + 1)) (by omega) (by decide) dX6_countOrders_109 rfl (fun H locs hP hD hS => ?_)
                    refine z_iinc (a := i) (z := (i + 1)) (lv' := [(8, vI (i + 1)), (7, vI (b + cO sp cap ru re (cm - 1).toNat (stp st (pP sp cap st ru re i)) (uZ wt i ((wt i) - 1)))), (0, .ref q0), (1, .ref m0), (2, .ref w0), (3, vI cm), (4, vL (okey sp st wt))]) hx hb dX6_countOrders_110 hl (k := 1) rfl rfl (by decide) rfl (fun ls hl => ?_)
                    refine lv_goto (tgt := 44) hx hb dX6_countOrders_113 (by decide) ?_
                    have el_45 : vI ((ar + 1) - 1) = vI ar := congrArg _ (by omega)
                    rw [el_45] at hP hD
                    have el_46 : vI ((fi + flp (pP sp cap st ru re i)) - flp (pl1_39 ((ar + 1) - 1))) = vI fi := congrArg _ (by rw [hX]; omega)
                    rw [el_46] at hP hD
                    have el_47 : kI cI q2 8 (if 0 ≤ (pl1_39 ((ar + 1) - 1)) then uZ (stp st (pP sp cap st ru re i)) (pl1_39 ((ar + 1) - 1)) ((stp st (pP sp cap st ru re i)) (pl1_39 ((ar + 1) - 1)) - 1) else (stp st (pP sp cap st ru re i))) = kI cI q2 8 st := kI_congr (by rw [hX, stp_back])
                    rw [el_47] at hP hD
                    have el_48 : kI cI w0 8 (uZ (uZ wt i ((wt i) - 1)) i (((uZ wt i ((wt i) - 1)) i) + 1)) = kI cI w0 8 wt := kI_congr (congrArg aZ uZ_back)
                    rw [el_48] at hP hD
                    exact L44i _ (by omega) (i + 1) (b + cO sp cap ru re (cm - 1).toNat (stp st (pP sp cap st ru re i)) (uZ wt i ((wt i) - 1))) wi1_38 pl1_39 lk1_40 ky1_41 vl1_42 H locs ls rfl (by omega) (by rw [sumZ_s (by omega), show cU sp cap ru re (cm - 1).toNat st wt i = _ from if_pos ⟨by omega, by omega⟩, hbb]; rfl) (fun j h0 h1 => by
                      have a1 := hq92 j h0 (by omega)
                      have a2 := hjk j h0 h1
                      rw [uZ_ne (by omega), uZ_ne (by omega), uZ_ne (by omega)] at a1
                      exact ⟨a1.1.trans a2.1, a1.2.1.trans a2.2.1, a1.2.2.trans a2.2.2⟩) (hqm92) (hP.sub [4, 5, 6, 7, 8, 9, 0, 1, 2, 3] rfl) (hD.sub [4, 5, 6, 7, 8, 9, 0, 1, 2, 3] (by decide) rfl) hS (lv_sub hl [1, 0, 2, 3, 4, 5, 6] rfl)
                · skip
                  refine z_bin (va := .null) (vb := .null) (y := zI 0) (congrArg zI (if_neg hpk)) ?_
                  refine z_if_eq (tgt := 98) hx hb dX6_countOrders_81 (by decide) (by omega) (fun c81 => ?_) (fun c81 => ?_)
                  · skip
                    refine lv_aload_n hx hb dX6_countOrders_98 rfl (lv_at hl 2 rfl) ?_
                    have hX : (uZ pa ar (pP sp cap st ru re i)) (ar + 1 - 1) = (pP sp cap st ru re i) := by
                      rw [show ar + 1 - 1 = ar by omega]
                      first | exact uZ_same _ _ _ | exact (hq92 ar (by omega) (by omega)).2.1.trans (uZ_same _ _ _)
                    refine g_callVv (own := RX6) (n := 0) (mc := 0) (ms := 0) (As := []) (rest := []) (wc := [kO q0 1 [vI sp, .ref q1, .ref q2, .ref q3, .ref q4, .ref q5, vI ru, vI re, vI (ar + 1), vI (fi + flp (pP sp cap st ru re i))], kI cI q1 8 cap, kI cI q2 8 (stp st (pP sp cap st ru re i)), kI cI q3 9 (uZ wa ar i), kI cI q4 9 (uZ pa ar (pP sp cap st ru re i)), kI cI q5 9 (uZ ka ar (pK sp cap st ru re i))]) (wr := [kO m0 2 [.ref m1, .ref m2], kL cJ m1 1024 kya, kI cI m2 1024 vla, kI cI w0 8 (uZ wt i ((wt i) - 1))]) hx hb hml hown hts hK hP hD hS hA [4, 5, 6, 7, 8, 9] [0, 1, 2, 3] rfl rfl (by decide) (by decide) 1 0 rfl rfl (c_X1_takeBackLast l dd cI cJ cC cS q0 q1 q2 q3 q4 q5 sp ru re (ar + 1) (fi + flp (pP sp cap st ru re i)) cap (stp st (pP sp cap st ru re i)) (uZ wa ar i) (uZ pa ar (pP sp cap st ru re i)) (uZ ka ar (pK sp cap st ru re i)) H.size  (by first | assumption | omega) (by first | assumption | omega) (by rw [hX]; omega)) gX6_countOrders_X1_takeBackLast rfl (by decide +kernel) (by decide) (by first | decide | (show _ ≤ 5 + cm.toNat; omega) | (show _ ≤ 40 * (5 + cm.toNat); omega)) (by first | decide | (show _ ≤ 5 + cm.toNat; omega) | (show _ ≤ 40 * (5 + cm.toNat); omega)) (⟨Nat.le_refl _, Nat.le_refl _⟩) rfl hl.1 rfl (Nat.le_of_ble_eq_true rfl) dX6_countOrders_99 (fun u_49 H locs hp99_50 hP hD hS => ?_)
                    have hP : va_P dd vwCl [kO m0 2 [.ref m1, .ref m2], kL cJ m1 1024 kya, kI cI m2 1024 vla, kI cI w0 8 (uZ wt i ((wt i) - 1)), kO q0 1 [vI sp, .ref q1, .ref q2, .ref q3, .ref q4, .ref q5, vI ru, vI re, vI ((ar + 1) - 1), vI ((fi + flp (pP sp cap st ru re i)) - flp ((uZ pa ar (pP sp cap st ru re i)) ((ar + 1) - 1)))], kI cI q1 8 cap, kI cI q2 8 (if 0 ≤ ((uZ pa ar (pP sp cap st ru re i)) ((ar + 1) - 1)) then uZ (stp st (pP sp cap st ru re i)) ((uZ pa ar (pP sp cap st ru re i)) ((ar + 1) - 1)) ((stp st (pP sp cap st ru re i)) ((uZ pa ar (pP sp cap st ru re i)) ((ar + 1) - 1)) - 1) else (stp st (pP sp cap st ru re i))), kI cI q3 9 (uZ wa ar i), kI cI q4 9 (uZ pa ar (pP sp cap st ru re i)), kI cI q5 9 (uZ ka ar (pK sp cap st ru re i))] H := hP
                    have hD : va_D A [kO m0 2 [.ref m1, .ref m2], kL cJ m1 1024 kya, kI cI m2 1024 vla, kI cI w0 8 (uZ wt i ((wt i) - 1)), kO q0 1 [vI sp, .ref q1, .ref q2, .ref q3, .ref q4, .ref q5, vI ru, vI re, vI ((ar + 1) - 1), vI ((fi + flp (pP sp cap st ru re i)) - flp ((uZ pa ar (pP sp cap st ru re i)) ((ar + 1) - 1)))], kI cI q1 8 cap, kI cI q2 8 (if 0 ≤ ((uZ pa ar (pP sp cap st ru re i)) ((ar + 1) - 1)) then uZ (stp st (pP sp cap st ru re i)) ((uZ pa ar (pP sp cap st ru re i)) ((ar + 1) - 1)) ((stp st (pP sp cap st ru re i)) ((uZ pa ar (pP sp cap st ru re i)) ((ar + 1) - 1)) - 1) else (stp st (pP sp cap st ru re i))), kI cI q3 9 (uZ wa ar i), kI cI q4 9 (uZ pa ar (pP sp cap st ru re i)), kI cI q5 9 (uZ ka ar (pK sp cap st ru re i))] := hD
                    refine lv_aload_n hx hb dX6_countOrders_102 rfl (lv_at hl 4 rfl) ?_
                    refine lv_iload hx hb dX6_countOrders_103 (lv_at hl 1 rfl) ?_
                    refine lv_dup2_11 hx hb dX6_countOrders_105 rfl rfl ?_
                    refine z_iald hx hb hK hP 3 0 rfl rfl (i := i) (by omega) (by decide) dX6_countOrders_106 ?_
                    refine z_iconst hx hb dX6_countOrders_107 ?_
                    refine z_iadd (z := (((uZ wt i ((wt i) - 1)) i) + 1)) hx hb rfl dX6_countOrders_108 ?_
                    refine z_iast (ws' := [kO m0 2 [.ref m1, .ref m2], kL cJ m1 1024 kya, kI cI m2 1024 vla, kI cI w0 8 (uZ (uZ wt i ((wt i) - 1)) i (((uZ wt i ((wt i) - 1)) i) + 1)), kO q0 1 [vI sp, .ref q1, .ref q2, .ref q3, .ref q4, .ref q5, vI ru, vI re, vI ((ar + 1) - 1), vI ((fi + flp (pP sp cap st ru re i)) - flp ((uZ pa ar (pP sp cap st ru re i)) ((ar + 1) - 1)))], kI cI q1 8 cap, kI cI q2 8 (if 0 ≤ ((uZ pa ar (pP sp cap st ru re i)) ((ar + 1) - 1)) then uZ (stp st (pP sp cap st ru re i)) ((uZ pa ar (pP sp cap st ru re i)) ((ar + 1) - 1)) ((stp st (pP sp cap st ru re i)) ((uZ pa ar (pP sp cap st ru re i)) ((ar + 1) - 1)) - 1) else (stp st (pP sp cap st ru re i))), kI cI q3 9 (uZ wa ar i), kI cI q4 9 (uZ pa ar (pP sp cap st ru re i)), kI cI q5 9 (uZ ka ar (pK sp cap st ru re i))]) hx hb hK hP hD hS 3 0 rfl rfl (i := i) (x := (((uZ wt i ((wt i) - 1)) i) + 1)) (by omega) (by decide) dX6_countOrders_109 rfl (fun H locs hP hD hS => ?_)
                    refine z_iinc (a := i) (z := (i + 1)) (lv' := [(8, vI (i + 1)), (7, vI b), (0, .ref q0), (1, .ref m0), (2, .ref w0), (3, vI cm), (4, vL (okey sp st wt))]) hx hb dX6_countOrders_110 hl (k := 1) rfl rfl (by decide) rfl (fun ls hl => ?_)
                    refine lv_goto (tgt := 44) hx hb dX6_countOrders_113 (by decide) ?_
                    have el_51 : vI ((ar + 1) - 1) = vI ar := congrArg _ (by omega)
                    rw [el_51] at hP hD
                    have el_52 : vI ((fi + flp (pP sp cap st ru re i)) - flp ((uZ pa ar (pP sp cap st ru re i)) ((ar + 1) - 1))) = vI fi := congrArg _ (by rw [hX]; omega)
                    rw [el_52] at hP hD
                    have el_53 : kI cI q2 8 (if 0 ≤ ((uZ pa ar (pP sp cap st ru re i)) ((ar + 1) - 1)) then uZ (stp st (pP sp cap st ru re i)) ((uZ pa ar (pP sp cap st ru re i)) ((ar + 1) - 1)) ((stp st (pP sp cap st ru re i)) ((uZ pa ar (pP sp cap st ru re i)) ((ar + 1) - 1)) - 1) else (stp st (pP sp cap st ru re i))) = kI cI q2 8 st := kI_congr (by rw [hX, stp_back])
                    rw [el_53] at hP hD
                    have el_54 : kI cI w0 8 (uZ (uZ wt i ((wt i) - 1)) i (((uZ wt i ((wt i) - 1)) i) + 1)) = kI cI w0 8 wt := kI_congr (congrArg aZ uZ_back)
                    rw [el_54] at hP hD
                    exact L44i _ (by omega) (i + 1) b (uZ wa ar i) (uZ pa ar (pP sp cap st ru re i)) (uZ ka ar (pK sp cap st ru re i)) kya vla H locs ls rfl (by omega) (by rw [sumZ_s (by omega), show cU sp cap ru re (cm - 1).toNat st wt i = 0 from if_neg (fun q => absurd q.2 (by omega)), hbb, Int.add_zero]) (fun j h0 h1 => by rw [uZ_ne (by omega), uZ_ne (by omega), uZ_ne (by omega)]; exact hjk j h0 h1) (hmk) (hP.sub [4, 5, 6, 7, 8, 9, 0, 1, 2, 3] rfl) (hD.sub [4, 5, 6, 7, 8, 9, 0, 1, 2, 3] (by decide) rfl) hS (lv_sub hl [1, 0, 2, 3, 4, 5, 6] rfl)
                  · exact absurd c81 (by omega)
        exact L44 _ 0 0 wi pl lk ky vl H locs ls rfl (by omega) (rfl) (fun j _ _ => ⟨rfl, rfl, rfl⟩) (hmo) (hP.sub [0, 1, 2, 3, 4, 5, 7, 8, 9, 6] rfl) (hD.sub [0, 1, 2, 3, 4, 5, 7, 8, 9, 6] (by decide) rfl) hS (lv_sub hl [1, 0, 4, 5, 6, 7, 3] rfl)
      · exact absurd c32 (by omega)
  · skip
    refine z_iconst hx hb dX6_countOrders_4 ?_
    subst hQ
    refine z_iret (z := 1) hx hb hr hlocks dX6_countOrders_5 (wi, pl, lk, ky, vl) hK hS ⟨by omega, by omega⟩ hP hD ?_
    refine ⟨?_, fun j _ _ => ⟨rfl, rfl, rfl⟩, hmo⟩
    rw [show cm.toNat = 0 by omega]
    rfl
theorem c_X6_countOrders (l : Launch) (dd : va_G) (cI cJ cC cS : ClassId) (q0 q1 q2 q3 q4 q5 m0 m1 m2 w0 : Nat) (sp ru re ar fi : Int) (cap st wi pl lk : Int → Int) (ky vl wt : Int → Int) (cm : Int) (sz : Nat) (hsp : 1 ≤ sp ∧ sp ≤ 8) (hcap : ∀ j : Int, 0 ≤ j → j < sp → 0 ≤ cap j ∧ cap j ≤ 3) (hst : ∀ j : Int, 0 ≤ j → j < sp → 0 ≤ st j ∧ st j ≤ 3) (hru : 0 ≤ ru ∧ ru ≤ 3) (hre : 0 ≤ re ∧ re ≤ 8) (hcm : 0 ≤ cm ∧ 0 ≤ ar ∧ ar + cm ≤ 9) (hwt : ∀ j : Int, 0 ≤ j → j < 8 → 0 ≤ wt j ∧ wt j ≤ 9) (hws : sumZ wt sp.toNat = cm) (hfi : fi = fil st sp) (hmo : mKO sp cap ru re ky vl) : gMi l yX6_countOrders wsX6_countOrders (5 + cm.toNat) 0 0 dd cI cJ cC cS [.ref q0, .ref m0, .ref w0, vI cm] [kO q0 1 [vI sp, .ref q1, .ref q2, .ref q3, .ref q4, .ref q5, vI ru, vI re, vI ar, vI fi], kI cI q1 8 cap, kI cI q2 8 st, kI cI q3 9 wi, kI cI q4 9 pl, kI cI q5 9 lk, kO m0 2 [.ref m1, .ref m2], kL cJ m1 1024 ky, kI cI m2 1024 vl, kI cI w0 8 wt] sz (fun (z : Int) (u : (Int → Int) × (Int → Int) × (Int → Int) × (Int → Int) × (Int → Int)) => z = cO sp cap ru re cm.toNat st wt ∧ (∀ j : Int, 0 ≤ j → j < ar → u.1 j = wi j ∧ u.2.1 j = pl j ∧ u.2.2.1 j = lk j) ∧ mKO sp cap ru re u.2.2.2.1 u.2.2.2.2) (fun (u : (Int → Int) × (Int → Int) × (Int → Int) × (Int → Int) × (Int → Int)) => [kO q0 1 [vI sp, .ref q1, .ref q2, .ref q3, .ref q4, .ref q5, vI ru, vI re, vI ar, vI fi], kI cI q1 8 cap, kI cI q2 8 st, kI cI q3 9 u.1, kI cI q4 9 u.2.1, kI cI q5 9 u.2.2.1, kO m0 2 [.ref m1, .ref m2], kL cJ m1 1024 u.2.2.2.1, kI cI m2 1024 u.2.2.2.2, kI cI w0 8 wt]) := c_X6_countOrders_rec l dd cI cJ cC cS _ q0 q1 q2 q3 q4 q5 m0 m1 m2 w0 sp ru re ar fi cap st wi pl lk ky vl wt cm sz rfl hsp hcap hst hru hre hcm hwt hws hfi hmo
