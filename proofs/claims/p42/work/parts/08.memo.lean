theorem wb_tb (n : Nat) : (lN n).toBitVec = BitVec.ofNat 64 n := rfl
theorem wb_inj {a b : Int64} (h : a.toBitVec = b.toBitVec) : a = b := Int64.toBitVec_inj.mp h
theorem wb_tn {n : Nat} (h : n < 2 ^ 64) : (lN n).toBitVec.toNat = n := by rw [wb_tb, BitVec.toNat_ofNat, Nat.mod_eq_of_lt h]
theorem wb_of (x : Int64) : ∃ n, n < 2 ^ 64 ∧ x = lN n := ⟨x.toBitVec.toNat, x.toBitVec.isLt, wb_inj (by rw [wb_tb]; simp)⟩
theorem wb_of32 (x : Int32) : ∃ n, n < 2 ^ 32 ∧ x = nI n := ⟨x.toBitVec.toNat, x.toBitVec.isLt, Int32.toBitVec_inj.mp (by show _ = BitVec.ofNat 32 _; simp)⟩
theorem wb_c : ∀ k, k < 64 → ((nI k).toInt64 &&& 63) = lN k := by decide +kernel
theorem wb_cu : ∀ k, k < 64 → ((nI k).toInt64.toUInt64 &&& Int64.toUInt64 63) = UInt64.ofNat k := by decide +kernel
theorem wb_sm : ∀ k, k < 64 → (BitVec.ofNat 64 k).smod 64 = BitVec.ofNat 64 k := by decide +kernel
theorem wb_pw {a b : Nat} (h : a ≤ b) : 2 ^ b = 2 ^ a * 2 ^ (b - a) := by rw [← Nat.pow_add]; congr 1; omega
theorem wb_lt2 {a b : Nat} (h : a < b) : 2 ^ a < 2 ^ b := Nat.pow_lt_pow_right (by decide) h
theorem wb_mod (n : Nat) : lN n = lN (n % 2 ^ 64) := wb_inj (by rw [wb_tb, wb_tb]; apply BitVec.eq_of_toNat_eq; rw [BitVec.toNat_ofNat, BitVec.toNat_ofNat, Nat.mod_mod])
theorem wb_shr {n k : Nat} (hn : n < 2 ^ 64) (hk : k < 64) : ((lN n).toUInt64 >>> ((nI k).toInt64.toUInt64 &&& Int64.toUInt64 63)).toInt64 = lN (n / 2 ^ k) := by
  rw [wb_cu k hk]
  apply wb_inj
  apply BitVec.eq_of_toNat_eq
  show ((lN n).toUInt64 >>> UInt64.ofNat k).toNat = (BitVec.ofNat 64 _).toNat
  have h1 : (UInt64.ofNat k).toNat = k := by
    show (BitVec.ofNat 64 k).toNat = k
    rw [BitVec.toNat_ofNat, Nat.mod_eq_of_lt (by omega)]
  have h2 : (lN n).toUInt64.toNat = n := wb_tn hn
  rw [UInt64.toNat_shiftRight, h1, h2, Nat.mod_eq_of_lt hk, Nat.shiftRight_eq_div_pow, BitVec.toNat_ofNat, Nat.mod_eq_of_lt (Nat.lt_of_le_of_lt (Nat.div_le_self _ _) hn)]
theorem wb_shl (n : Nat) {k : Nat} (hk : k < 64) : lN n <<< ((nI k).toInt64 &&& 63) = lN (n * 2 ^ k) := by
  rw [wb_c k hk]
  apply wb_inj
  rw [Int64.toBitVec_shiftLeft, wb_tb, wb_tb, wb_tb, wb_sm k hk]
  apply BitVec.eq_of_toNat_eq
  rw [BitVec.shiftLeft_eq', BitVec.toNat_shiftLeft, BitVec.toNat_ofNat, BitVec.toNat_ofNat, BitVec.toNat_ofNat, Nat.mod_eq_of_lt (show k < 2 ^ 64 by omega), Nat.shiftLeft_eq, Nat.mul_mod, Nat.mod_mod, ← Nat.mul_mod]
theorem wb_and {a b : Nat} (ha : a < 2 ^ 64) (hb : b < 2 ^ 64) : lN a &&& lN b = lN (a &&& b) := by
  apply wb_inj
  rw [Int64.toBitVec_and, wb_tb, wb_tb, wb_tb]
  apply BitVec.eq_of_toNat_eq
  rw [BitVec.toNat_and, BitVec.toNat_ofNat, BitVec.toNat_ofNat, BitVec.toNat_ofNat, Nat.mod_eq_of_lt ha, Nat.mod_eq_of_lt hb, Nat.mod_eq_of_lt (Nat.and_lt_two_pow _ hb)]
theorem wb_or {a b : Nat} (ha : a < 2 ^ 64) (hb : b < 2 ^ 64) : lN a ||| lN b = lN (a ||| b) := by
  apply wb_inj
  rw [Int64.toBitVec_or, wb_tb, wb_tb, wb_tb]
  apply BitVec.eq_of_toNat_eq
  rw [BitVec.toNat_or, BitVec.toNat_ofNat, BitVec.toNat_ofNat, BitVec.toNat_ofNat, Nat.mod_eq_of_lt ha, Nat.mod_eq_of_lt hb, Nat.mod_eq_of_lt (Nat.or_lt_two_pow ha hb)]
theorem wb_mask {n k : Nat} (hn : n < 2 ^ 64) (hk : k < 64) : lN n &&& lN (2 ^ k - 1) = lN (n % 2 ^ k) := by
  rw [wb_and hn (by have := wb_lt2 hk; omega), Nat.and_two_pow_sub_one_eq_mod]
theorem wb_a1 {n : Nat} (hn : n < 2 ^ 64) : lN n &&& 1 = lN (n % 2) := wb_mask (k := 1) hn (by decide)
theorem wb_bit {n k : Nat} (hn : n < 2 ^ 64) (hk : k < 64) : ((lN n).toUInt64 >>> ((nI k).toInt64.toUInt64 &&& Int64.toUInt64 63)).toInt64 &&& 1 = lN (n / 2 ^ k % 2) := by
  rw [wb_shr hn hk, wb_a1 (Nat.lt_of_le_of_lt (Nat.div_le_self _ _) hn)]
/-! the memo: keys' places -/
theorem zL_nat (n : Nat) : zL (n : Int) = lN n := Int64.ofInt_eq_ofNat
def hN (k : Int) : Nat := (zL (k * (-7046029254386353131))).toBitVec.toNat / 2 ^ 54
theorem hN_lt (k : Int) : hN k < 1024 := by
  unfold hN
  have h := (zL (k * (-7046029254386353131))).toBitVec.isLt
  omega
theorem hN_shr (x : Int) : ((zL x).toUInt64 >>> ((zI 54).toInt64.toUInt64 &&& Int64.toUInt64 63)).toInt64 = zL (((zL x).toBitVec.toNat / 2 ^ 54 : Nat) : Int) := by
  have h1 : zL x = lN (zL x).toBitVec.toNat := wb_inj (by rw [wb_tb, BitVec.ofNat_toNat, BitVec.setWidth_eq])
  have h2 : zI 54 = nI 54 := rfl
  rw [zL_nat]
  conv => lhs; rw [h1, h2]
  exact wb_shr (zL x).toBitVec.isLt (by decide)
def kZ (v : Int) : Int → Int := fun _ => v
theorem aL_cp0 (f g : Int → Int) : aL (cpZ f g 0) = aL g := by
  funext j
  show zL (if (j : Int) < 0 then f j else g j) = zL (g j)
  rw [if_neg (by omega)]

set_option maxHeartbeats 4000000 in
set_option maxRecDepth 100000 in
theorem c_X2_slotOf (l : Launch) (dd : va_G) (cI cJ cC cS : ClassId) (k : Int) (sz : Nat)  : gMi l yX2_slotOf wsX2_slotOf 1 0 0 dd cI cJ cC cS [vL k] [] sz (fun (z : Int) (_ : Unit) => z = ((hN k : Nat) : Int)) (fun (_ : Unit) => []) := by
  refine gMi_of (cc := cX2_slotOf) (maxL := 2) (ret := (some .int)) (by decide) rfl (Nat.le_of_ble_eq_true rfl) ?_
  intro p e s m args below meth c A Q hQ hx hb hr hts hown hlocks hnm hml H locs hP hK hD hA hS ls hl
  have hl : lv_has ls 2 [(0, vL k)] := hl
  refine lv_lload_n hx hb dX2_slotOf_0 rfl (lv_at hl 0 rfl) ?_
  refine W.ldc2 (own := RX2) (v := (-7046029254386353131)) hx hb hown (hts _ (List.mem_cons_of_mem _ (List.mem_of_getElem? (i := 0) rfl))) rfl dX2_slotOf_1 ?_
  refine z_eq (g2 := F0 m 4 ls [vL (-7046029254386353131), vL k]) rfl ?_
  refine lv_lmul hx hb dX2_slotOf_4 ?_
  refine z_binl (y := zL (k * (-7046029254386353131))) (zL_mul _ _) ?_
  refine z_bipush hx hb dX2_slotOf_5 (by decide +kernel) ?_
  refine lv_lushr (v := zL (((zL (k * (-7046029254386353131))).toBitVec.toNat / 2 ^ 54 : Nat) : Int)) hx hb dX2_slotOf_7 (hN_shr _) ?_
  refine lv_l2i (v := zI (((zL (k * (-7046029254386353131))).toBitVec.toNat / 2 ^ 54 : Nat) : Int)) hx hb dX2_slotOf_8 (zI_ofL _) ?_
  subst hQ
  refine z_iret (z := (((zL (k * (-7046029254386353131))).toBitVec.toNat / 2 ^ 54 : Nat) : Int)) hx hb hr hlocks dX2_slotOf_9 () hK hS ⟨by omega, by omega⟩ hP hD ?_
  rfl

set_option maxHeartbeats 4000000 in
set_option maxRecDepth 100000 in
theorem c_X2_find (l : Launch) (dd : va_G) (cI cJ cC cS : ClassId) (q0 q1 q2 : Nat) (ky vl : Int → Int) (k : Int) (sz : Nat) (hky : ∀ j : Int, 0 ≤ j → j < 1024 → -1 ≤ ky j ∧ ky j < 4611686018427387904) (hk0 : 0 ≤ k ∧ k < 4611686018427387904) : gMi l yX2_find wsX2_find 2 0 0 dd cI cJ cC cS [.ref q0, vL k] [kO q0 2 [.ref q1, .ref q2], kL cJ q1 1024 ky, kI cI q2 1024 vl] sz (fun (z : Int) (_ : Unit) => z = (if ky (hN k) = k then vl (hN k) else -1)) (fun (_ : Unit) => [kO q0 2 [.ref q1, .ref q2], kL cJ q1 1024 ky, kI cI q2 1024 vl]) := by
  refine gMi_of (cc := cX2_find) (maxL := 4) (ret := (some .int)) (by decide) rfl (Nat.le_of_ble_eq_true rfl) ?_
  intro p e s m args below meth c A Q hQ hx hb hr hts hown hlocks hnm hml H locs hP hK hD hA hS ls hl
  have hi2 : ∀ w ∈ wsX20, w ∈ wsX2_find := fun _ h => (List.mem_cons_of_mem _ (List.mem_append_right _ h))
  have hl : lv_has ls 4 [(0, .ref q0), (1, vL k)] := hl
  refine lv_lload_n hx hb dX2_find_0 rfl (lv_at hl 1 rfl) ?_
  refine g_callSi (own := RX2) (n := 1) (mc := 0) (ms := 0) (As := [vL k]) (rest := []) (wc := []) (wr := [kO q0 2 [.ref q1, .ref q2], kL cJ q1 1024 ky, kI cI q2 1024 vl]) hx hb hml hown hts hK hP hD hS hA [] [0, 1, 2] rfl rfl (by decide) (by decide) (c_X2_slotOf l dd cI cJ cC cS k H.size) gX2_find_X2_slotOf rfl (by decide +kernel) (by decide) (by decide) (by decide) (by decide) rfl hl.1 rfl (Nat.le_of_ble_eq_true rfl) dX2_find_1 (fun z_1 u_2 H locs hp1 hP hD hS => ?_)
  subst z_1
  have hP : va_P dd vwCl [kO q0 2 [.ref q1, .ref q2], kL cJ q1 1024 ky, kI cI q2 1024 vl] H := hP
  have hD : va_D A [kO q0 2 [.ref q1, .ref q2], kL cJ q1 1024 ky, kI cI q2 1024 vl] := hD
  have hh := hN_lt k
  refine lv_istore_n (lv' := [(3, vI ((hN k : Nat) : Int)), (0, .ref q0), (1, vL k)]) hx hb dX2_find_4 rfl hl (by decide) rfl (fun ls hl => ?_)
  refine lv_aload_n hx hb dX2_find_5 rfl (lv_at hl 1 rfl) ?_
  refine va_get (D := dd) (ci := 2) (v := .ref q1) (C := RX2) (T := TX2) (N := 2) hx hb hts hi2 hown hK hP 0 rfl rfl 0 (by decide) (hts _ (List.mem_cons_of_mem _ (List.mem_append_left _ (List.mem_of_getElem? (i := 0) rfl)))) (fun _ h9 => h9) rfl dX2_find_6 ?_
  refine lv_iload_n hx hb dX2_find_9 rfl (lv_at hl 0 rfl) ?_
  refine z_lald hx hb hK hP 1 1 rfl rfl (i := ((hN k : Nat) : Int)) (by omega) (by decide) dX2_find_10 ?_
  have f_3 := hky ((hN k : Nat) : Int) (by omega) (by omega)
  refine lv_lload_n hx hb dX2_find_11 rfl (lv_at hl 2 rfl) ?_
  refine W.lcmp hx hb dX2_find_12 ?_
  refine z_bin (va := .null) (vb := .null) (y := zI (if k < (ky ((hN k : Nat) : Int)) then 1 else if (ky ((hN k : Nat) : Int)) = k then 0 else -1)) (zL_cmp (by omega)) ?_
  refine z_if_ne (tgt := 25) hx hb dX2_find_13 (by decide) (by omega) (fun c13 => ?_) (fun c13 => ?_)
  · skip
    refine z_iconst hx hb dX2_find_25 ?_
    subst hQ
    refine z_iret (z := (-1)) hx hb hr hlocks dX2_find_26 () hK hS ⟨by omega, by omega⟩ hP hD ?_
    first | (rw [if_pos (by omega)]; done) | (rw [if_neg (by omega)]; done)
  · skip
    refine lv_aload_n hx hb dX2_find_16 rfl (lv_at hl 1 rfl) ?_
    refine va_get (D := dd) (ci := 2) (v := .ref q2) (C := RX2) (T := TX2) (N := 2) hx hb hts hi2 hown hK hP 0 rfl rfl 1 (by decide) (hts _ (List.mem_cons_of_mem _ (List.mem_append_left _ (List.mem_of_getElem? (i := 1) rfl)))) (fun _ h9 => h9) rfl dX2_find_17 ?_
    refine lv_iload_n hx hb dX2_find_20 rfl (lv_at hl 0 rfl) ?_
    refine z_iald hx hb hK hP 2 0 rfl rfl (i := ((hN k : Nat) : Int)) (by omega) (by decide) dX2_find_21 ?_
    refine lv_goto (tgt := 26) hx hb dX2_find_22 (by decide) ?_
    subst hQ
    refine z_iret (z := (vl ((hN k : Nat) : Int))) hx hb hr hlocks dX2_find_26 () hK hS ⟨by omega, by omega⟩ hP hD ?_
    first | (rw [if_pos (by omega)]; done) | (rw [if_neg (by omega)]; done)

set_option maxHeartbeats 4000000 in
set_option maxRecDepth 100000 in
theorem c_X2_put (l : Launch) (dd : va_G) (cI cJ cC cS : ClassId) (q0 q1 q2 : Nat) (ky vl : Int → Int) (k v : Int) (sz : Nat)  : gMv l yX2_put wsX2_put 2 0 0 dd cI cJ cC cS [.ref q0, vL k, vI v] [kO q0 2 [.ref q1, .ref q2], kL cJ q1 1024 ky, kI cI q2 1024 vl] sz (fun (_ : Unit) => True) (fun (_ : Unit) => [kO q0 2 [.ref q1, .ref q2], kL cJ q1 1024 (uZ ky (hN k) k), kI cI q2 1024 (uZ vl (hN k) v)]) := by
  refine gMv_of (cc := cX2_put) (maxL := 5) (ret := none) (by decide) rfl (Nat.le_of_ble_eq_true rfl) ?_
  intro p e s m args below meth c A Q hQ hx hb hr hts hown hlocks hnm hml H locs hP hK hD hA hS ls hl
  have hi2 : ∀ w ∈ wsX20, w ∈ wsX2_put := fun _ h => (List.mem_cons_of_mem _ (List.mem_append_right _ h))
  have hl : lv_has ls 5 [(0, .ref q0), (1, vL k), (3, vI v)] := hl
  refine lv_lload_n hx hb dX2_put_0 rfl (lv_at hl 1 rfl) ?_
  refine g_callSi (own := RX2) (n := 1) (mc := 0) (ms := 0) (As := [vL k]) (rest := []) (wc := []) (wr := [kO q0 2 [.ref q1, .ref q2], kL cJ q1 1024 ky, kI cI q2 1024 vl]) hx hb hml hown hts hK hP hD hS hA [] [0, 1, 2] rfl rfl (by decide) (by decide) (c_X2_slotOf l dd cI cJ cC cS k H.size) gX2_put_X2_slotOf rfl (by decide +kernel) (by decide) (by decide) (by decide) (by decide) rfl hl.1 rfl (Nat.le_of_ble_eq_true rfl) dX2_put_1 (fun z_1 u_2 H locs hp1 hP hD hS => ?_)
  subst z_1
  have hP : va_P dd vwCl [kO q0 2 [.ref q1, .ref q2], kL cJ q1 1024 ky, kI cI q2 1024 vl] H := hP
  have hD : va_D A [kO q0 2 [.ref q1, .ref q2], kL cJ q1 1024 ky, kI cI q2 1024 vl] := hD
  have hh := hN_lt k
  refine lv_istore (lv' := [(4, vI ((hN k : Nat) : Int)), (0, .ref q0), (1, vL k), (3, vI v)]) hx hb dX2_put_4 hl (by decide) rfl (fun ls hl => ?_)
  refine lv_aload_n hx hb dX2_put_6 rfl (lv_at hl 1 rfl) ?_
  refine va_get (D := dd) (ci := 2) (v := .ref q1) (C := RX2) (T := TX2) (N := 2) hx hb hts hi2 hown hK hP 0 rfl rfl 0 (by decide) (hts _ (List.mem_cons_of_mem _ (List.mem_append_left _ (List.mem_of_getElem? (i := 0) rfl)))) (fun _ h9 => h9) rfl dX2_put_7 ?_
  refine lv_iload hx hb dX2_put_10 (lv_at hl 0 rfl) ?_
  refine lv_lload_n hx hb dX2_put_12 rfl (lv_at hl 2 rfl) ?_
  refine z_last (ws' := [kO q0 2 [.ref q1, .ref q2], kL cJ q1 1024 (uZ ky ((hN k : Nat) : Int) k), kI cI q2 1024 vl]) hx hb hK hP hD hS 1 1 rfl rfl (i := ((hN k : Nat) : Int)) (x := k) (by omega) (by decide) dX2_put_13 rfl (fun H locs hP hD hS => ?_)
  refine lv_aload_n hx hb dX2_put_14 rfl (lv_at hl 1 rfl) ?_
  refine va_get (D := dd) (ci := 2) (v := .ref q2) (C := RX2) (T := TX2) (N := 2) hx hb hts hi2 hown hK hP 0 rfl rfl 1 (by decide) (hts _ (List.mem_cons_of_mem _ (List.mem_append_left _ (List.mem_of_getElem? (i := 1) rfl)))) (fun _ h9 => h9) rfl dX2_put_15 ?_
  refine lv_iload hx hb dX2_put_18 (lv_at hl 0 rfl) ?_
  refine lv_iload_n hx hb dX2_put_20 rfl (lv_at hl 3 rfl) ?_
  refine z_iast (ws' := [kO q0 2 [.ref q1, .ref q2], kL cJ q1 1024 (uZ ky ((hN k : Nat) : Int) k), kI cI q2 1024 (uZ vl ((hN k : Nat) : Int) v)]) hx hb hK hP hD hS 2 0 rfl rfl (i := ((hN k : Nat) : Int)) (x := v) (by omega) (by decide) dX2_put_21 rfl (fun H locs hP hD hS => ?_)
  have ec_3 : kL cJ q1 1024 (uZ ky ((hN k : Nat) : Int) k) = kL cJ q1 1024 (uZ ky (hN k) k) := kL_congr (rfl)
  rw [ec_3] at hP hD
  have ec_4 : kI cI q2 1024 (uZ vl ((hN k : Nat) : Int) v) = kI cI q2 1024 (uZ vl (hN k) v) := kI_congr (rfl)
  rw [ec_4] at hP hD
  subst hQ
  refine z_vret hx hb hr hlocks dX2_put_22 () hK hS ⟨by omega, by omega⟩ hP hD ?_
  first | rfl | trivial | omega

set_option maxHeartbeats 4000000 in
set_option maxRecDepth 100000 in
theorem c_J7_fill_d0a16 (l : Launch) (dd : va_G) (cI cJ cC cS : ClassId) (r0 : Nat) (ky : Int → Int) (v : Int) (sz : Nat)  : gMv l yJ7_fill_d0a16 wsJ7_fill_d0a16 1 0 0 dd cI cJ cC cS [.ref r0, vL v] [kL cJ r0 1024 ky] sz (fun (_ : Unit) => True) (fun (_ : Unit) => [kL cJ r0 1024 (cpZ (kZ v) ky 1024)]) := by
  refine gMv_of (cc := cJ7_fill_d0a16) (maxL := 5) (ret := none) (by decide) rfl (Nat.le_of_ble_eq_true rfl) ?_
  intro p e s m args below meth c A Q hQ hx hb hr hts hown hlocks hnm hml H locs hP hK hD hA hS ls hl
  have hl : lv_has ls 5 [(0, .ref r0), (1, vL v)] := hl
  refine z_iconst hx hb dJ7_fill_d0a16_0 ?_
  refine lv_istore_n (lv' := [(3, vI 0), (0, .ref r0), (1, vL v)]) hx hb dJ7_fill_d0a16_1 rfl hl (by decide) rfl (fun ls hl => ?_)
  refine lv_aload_n hx hb dJ7_fill_d0a16_2 rfl (lv_at hl 1 rfl) ?_
  refine va_alen (v := zI 1024) hx hb hK hP 0 1 rfl rfl rfl dJ7_fill_d0a16_3 ?_
  refine lv_istore (lv' := [(4, vI 1024), (3, vI 0), (0, .ref r0), (1, vL v)]) hx hb dJ7_fill_d0a16_4 hl (by decide) rfl (fun ls hl => ?_)
  have L6 : ∀ (nn : Nat) (i : Int) (H : Heap) (locs : List Loc) (ls : Array Slot), ((1025 - i).toNat) = nn → (0 ≤ i ∧ i ≤ 1024) → va_P dd vwCl [kL cJ r0 1024 (cpZ (kZ v) ky i)] H → va_D A [kL cJ r0 1024 (cpZ (kZ v) ky i)] → va_S A s.heap H locs → lv_has ls 5 [(3, vI i), (4, vI 1024), (0, .ref r0), (1, vL v)] → W p l e (gR 1 0 0) s m args below meth c H locs 0 0 Q (F0 m 6 ls []) := by
    intro nn
    induction nn using Nat.strongRecOn with
    | ind nn L6i =>
    intro i H locs ls hmeas hi hP hD hS hl
    refine lv_iload_n hx hb dJ7_fill_d0a16_6 rfl (lv_at hl 0 rfl) ?_
    refine lv_iload hx hb dJ7_fill_d0a16_7 (lv_at hl 1 rfl) ?_
    refine z_icmp_ge (tgt := 22) hx hb dJ7_fill_d0a16_9 (by decide) (by omega) (fun c9 => ?_) (fun c9 => ?_)
    · skip
      have ec_1 : kL cJ r0 1024 (cpZ (kZ v) ky i) = kL cJ r0 1024 (cpZ (kZ v) ky 1024) := kL_congr (by rw [show i = 1024 by omega])
      rw [ec_1] at hP hD
      subst hQ
      refine z_vret hx hb hr hlocks dJ7_fill_d0a16_22 () hK hS ⟨by omega, by omega⟩ hP hD ?_
      first | rfl | trivial | omega
    · skip
      refine lv_aload_n hx hb dJ7_fill_d0a16_12 rfl (lv_at hl 2 rfl) ?_
      refine lv_iload_n hx hb dJ7_fill_d0a16_13 rfl (lv_at hl 0 rfl) ?_
      refine lv_lload_n hx hb dJ7_fill_d0a16_14 rfl (lv_at hl 3 rfl) ?_
      refine z_last (ws' := [kL cJ r0 1024 (uZ (cpZ (kZ v) ky i) i v)]) hx hb hK hP hD hS 0 1 rfl rfl (i := i) (x := v) (by omega) (by decide) dJ7_fill_d0a16_15 rfl (fun H locs hP hD hS => ?_)
      refine z_iinc (a := i) (z := (i + 1)) (lv' := [(3, vI (i + 1)), (4, vI 1024), (0, .ref r0), (1, vL v)]) hx hb dJ7_fill_d0a16_16 hl (k := 0) rfl rfl (by decide) rfl (fun ls hl => ?_)
      refine lv_goto (tgt := 6) hx hb dJ7_fill_d0a16_19 (by decide) ?_
      have el_2 : kL cJ r0 1024 (uZ (cpZ (kZ v) ky i) i v) = kL cJ r0 1024 (cpZ (kZ v) ky (i + 1)) := kL_congr (congrArg aL (cpZ_s (kZ v) ky i))
      rw [el_2] at hP hD
      exact L6i _ (by omega) (i + 1) H locs ls rfl (by omega) hP hD hS hl
  have el_3 : kL cJ r0 1024 ky = kL cJ r0 1024 (cpZ (kZ v) ky 0) := kL_congr ((aL_cp0 (kZ v) ky).symm)
  rw [el_3] at hP hD
  exact L6 _ 0 H locs ls rfl (by omega) hP hD hS (lv_sub hl [1, 0, 2, 3] rfl)

set_option maxHeartbeats 4000000 in
set_option maxRecDepth 100000 in
theorem c_X2_clear (l : Launch) (dd : va_G) (cI cJ cC cS : ClassId) (q0 q1 q2 : Nat) (ky vl : Int → Int) (sz : Nat)  : gMv l yX2_clear wsX2_clear 2 0 0 dd cI cJ cC cS [.ref q0] [kO q0 2 [.ref q1, .ref q2], kL cJ q1 1024 ky, kI cI q2 1024 vl] sz (fun (_ : Unit) => True) (fun (_ : Unit) => [kO q0 2 [.ref q1, .ref q2], kL cJ q1 1024 (cpZ (kZ (-1)) ky 1024), kI cI q2 1024 vl]) := by
  refine gMv_of (cc := cX2_clear) (maxL := 1) (ret := none) (by decide) rfl (Nat.le_of_ble_eq_true rfl) ?_
  intro p e s m args below meth c A Q hQ hx hb hr hts hown hlocks hnm hml H locs hP hK hD hA hS ls hl
  have hi2 : ∀ w ∈ wsX20, w ∈ wsX2_clear := fun _ h => (List.mem_cons_of_mem _ (List.mem_append_right _ h))
  have hl : lv_has ls 1 [(0, .ref q0)] := hl
  refine lv_aload_n hx hb dX2_clear_0 rfl (lv_at hl 0 rfl) ?_
  refine va_get (D := dd) (ci := 2) (v := .ref q1) (C := RX2) (T := TX2) (N := 2) hx hb hts hi2 hown hK hP 0 rfl rfl 0 (by decide) (hts _ (List.mem_cons_of_mem _ (List.mem_append_left _ (List.mem_of_getElem? (i := 0) rfl)))) (fun _ h9 => h9) rfl dX2_clear_1 ?_
  refine W.ldc2 (own := RX2) (v := (-1)) hx hb hown (hts _ (List.mem_cons_of_mem _ (List.mem_append_left _ (List.mem_of_getElem? (i := 1) rfl)))) rfl dX2_clear_4 ?_
  refine z_eq (g2 := F0 m 7 ls [vL (-1), .ref q1]) rfl ?_
  refine g_callSv (own := RX2) (n := 2) (mc := 0) (ms := 0) (As := [.ref q1, vL (-1)]) (rest := []) (wc := [kL cJ q1 1024 ky]) (wr := [kO q0 2 [.ref q1, .ref q2], kI cI q2 1024 vl]) hx hb hml hown hts hK hP hD hS hA [1] [0, 2] rfl rfl (by decide) (by decide) (c_J7_fill_d0a16 l dd cI cJ cC cS q1 ky (-1) H.size) gX2_clear_J7_fill_d0a16 rfl (by decide +kernel) (by decide) (by decide) (by decide) (by decide) rfl hl.1 rfl (Nat.le_of_ble_eq_true rfl) dX2_clear_7 (fun u_1 H locs hp7 hP hD hS => ?_)
  have hP : va_P dd vwCl [kO q0 2 [.ref q1, .ref q2], kI cI q2 1024 vl, kL cJ q1 1024 (cpZ (kZ (-1)) ky 1024)] H := hP
  have hD : va_D A [kO q0 2 [.ref q1, .ref q2], kI cI q2 1024 vl, kL cJ q1 1024 (cpZ (kZ (-1)) ky 1024)] := hD
  subst hQ
  refine z_vret hx hb hr hlocks dX2_clear_10 () hK hS ⟨by omega, by omega⟩ (hP.sub [0, 2, 1] rfl) (hD.sub [0, 2, 1] (by decide) rfl) ?_
  first | rfl | trivial | omega
