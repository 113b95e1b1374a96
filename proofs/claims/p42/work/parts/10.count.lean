set_option maxHeartbeats 4000000 in
set_option maxRecDepth 100000 in
theorem c_X6_shareOfLastCar (l : Launch) (dd : va_G) (cI cJ cC cS : ClassId) (q0 q1 q2 q3 q4 q5 : Nat) (sp ru re ar fi : Int) (cap st wi pl lk : Int → Int) (me : Int) (sz : Nat) (har : 0 < ar ∧ ar ≤ 9) (hplx : -1 ≤ pl (ar - 1) ∧ pl (ar - 1) ≤ 8) (hwix : 0 ≤ wi (ar - 1) ∧ wi (ar - 1) ≤ 8) (hme : 0 ≤ me ∧ me ≤ 2) : gMi l yX6_shareOfLastCar wsX6_shareOfLastCar 3 0 0 dd cI cJ cC cS [.ref q0, vI me] [kO q0 1 [vI sp, .ref q1, .ref q2, .ref q3, .ref q4, .ref q5, vI ru, vI re, vI ar, vI fi], kI cI q1 8 cap, kI cI q2 8 st, kI cI q3 9 wi, kI cI q4 9 pl, kI cI q5 9 lk] sz (fun (z : Int) (_ : Unit) => z = shr me (pl (ar - 1)) (wi (ar - 1))) (fun (_ : Unit) => [kO q0 1 [vI sp, .ref q1, .ref q2, .ref q3, .ref q4, .ref q5, vI ru, vI re, vI ar, vI fi], kI cI q1 8 cap, kI cI q2 8 st, kI cI q3 9 wi, kI cI q4 9 pl, kI cI q5 9 lk]) := by
  refine gMi_of (cc := cX6_shareOfLastCar) (maxL := 3) (ret := (some .int)) (by decide) rfl (Nat.le_of_ble_eq_true rfl) ?_
  intro p e s m args below meth c A Q hQ hx hb hr hts hown hlocks hnm hml H locs hP hK hD hA hS ls hl
  have hi1 : ∀ w ∈ wsX10, w ∈ wsX6_shareOfLastCar := fun _ h => (List.mem_cons_of_mem _ (List.mem_append_right _ h))
  have hl : lv_has ls 3 [(0, .ref q0), (1, vI me)] := hl
  refine lv_aload_n hx hb dX6_shareOfLastCar_0 rfl (lv_at hl 0 rfl) ?_
  refine va_get (D := dd) (ci := 1) (v := vI ar) (C := RX1) (T := TX1) (N := 10) hx hb hts hi1 hown hK hP 0 rfl rfl 8 (by decide) (hts _ (List.mem_cons_of_mem _ (List.mem_append_left _ (List.mem_of_getElem? (i := 0) rfl)))) (fun _ h9 => h9) rfl dX6_shareOfLastCar_1 ?_
  refine z_iconst hx hb dX6_shareOfLastCar_4 ?_
  refine z_isub (z := (ar - 1)) hx hb rfl dX6_shareOfLastCar_5 ?_
  refine lv_istore_n (lv' := [(2, vI (ar - 1)), (0, .ref q0), (1, vI me)]) hx hb dX6_shareOfLastCar_6 rfl hl (by decide) rfl (fun ls hl => ?_)
  refine lv_iload_n hx hb dX6_shareOfLastCar_7 rfl (lv_at hl 2 rfl) ?_
  have sw8 : me = 1 ∨ me = 2 ∨ me = 0 := by omega
  rcases sw8 with sw8 | sw8 | sw8
  · skip
    refine z_look (k := 1) (off := 28) (tgt := 36) hx hb dX6_shareOfLastCar_8 sw8 (by omega) (by decide) (by decide) (by decide) ?_
    refine lv_aload_n hx hb dX6_shareOfLastCar_36 rfl (lv_at hl 1 rfl) ?_
    refine lv_iload_n hx hb dX6_shareOfLastCar_37 rfl (lv_at hl 0 rfl) ?_
    refine g_callVi (own := RX6) (n := 1) (mc := 0) (ms := 0) (As := [vI (ar - 1)]) (rest := []) (wc := [kO q0 1 [vI sp, .ref q1, .ref q2, .ref q3, .ref q4, .ref q5, vI ru, vI re, vI ar, vI fi], kI cI q1 8 cap, kI cI q2 8 st, kI cI q3 9 wi, kI cI q4 9 pl, kI cI q5 9 lk]) (wr := []) hx hb hml hown hts hK hP hD hS hA [0, 1, 2, 3, 4, 5] [] rfl rfl (by decide) (by decide) 1 0 rfl rfl (c_X1_isLuckyCar l dd cI cJ cC cS q0 q1 q2 q3 q4 q5 sp ru re ar fi cap st wi pl lk (ar - 1) H.size  (by first | assumption | omega) (by first | assumption | omega) (by first | assumption | omega) (by first | assumption | omega)) gX6_shareOfLastCar_X1_isLuckyCar rfl (by decide +kernel) (by decide) (by decide) (by decide) (by decide) rfl hl.1 rfl (Nat.le_of_ble_eq_true rfl) dX6_shareOfLastCar_38 (fun z_1 u_2 H locs hp38 hP hD hS => ?_)
    subst z_1
    have hP : va_P dd vwCl [kO q0 1 [vI sp, .ref q1, .ref q2, .ref q3, .ref q4, .ref q5, vI ru, vI re, vI ar, vI fi], kI cI q1 8 cap, kI cI q2 8 st, kI cI q3 9 wi, kI cI q4 9 pl, kI cI q5 9 lk] H := hP
    have hD : va_D A [kO q0 1 [vI sp, .ref q1, .ref q2, .ref q3, .ref q4, .ref q5, vI ru, vI re, vI ar, vI fi], kI cI q1 8 cap, kI cI q2 8 st, kI cI q3 9 wi, kI cI q4 9 pl, kI cI q5 9 lk] := hD
    refine z_if_eq (tgt := 48) hx hb dX6_shareOfLastCar_41 (by decide) (by omega) (fun c41 => ?_) (fun c41 => ?_)
    · skip
      refine z_iconst hx hb dX6_shareOfLastCar_48 ?_
      subst hQ
      refine z_iret (z := 0) hx hb hr hlocks dX6_shareOfLastCar_49 () hK hS ⟨by omega, by omega⟩ hP hD ?_
      unfold shr
      rw [if_pos sw8]
      first | exact (if_pos (by omega)).symm | exact (if_neg (by omega)).symm
    · skip
      refine z_iconst hx hb dX6_shareOfLastCar_44 ?_
      refine lv_goto (tgt := 49) hx hb dX6_shareOfLastCar_45 (by decide) ?_
      subst hQ
      refine z_iret (z := 1) hx hb hr hlocks dX6_shareOfLastCar_49 () hK hS ⟨by omega, by omega⟩ hP hD ?_
      unfold shr
      rw [if_pos sw8]
      first | exact (if_pos (by omega)).symm | exact (if_neg (by omega)).symm
  · skip
    refine z_look (k := 2) (off := 42) (tgt := 50) hx hb dX6_shareOfLastCar_8 sw8 (by omega) (by decide) (by decide) (by decide) ?_
    refine lv_aload_n hx hb dX6_shareOfLastCar_50 rfl (lv_at hl 1 rfl) ?_
    refine lv_iload_n hx hb dX6_shareOfLastCar_51 rfl (lv_at hl 0 rfl) ?_
    refine g_callVi (own := RX6) (n := 1) (mc := 0) (ms := 0) (As := [vI (ar - 1)]) (rest := []) (wc := [kO q0 1 [vI sp, .ref q1, .ref q2, .ref q3, .ref q4, .ref q5, vI ru, vI re, vI ar, vI fi], kI cI q1 8 cap, kI cI q2 8 st, kI cI q3 9 wi, kI cI q4 9 pl, kI cI q5 9 lk]) (wr := []) hx hb hml hown hts hK hP hD hS hA [0, 1, 2, 3, 4, 5] [] rfl rfl (by decide) (by decide) 1 0 rfl rfl (c_X1_wishOf l dd cI cJ cC cS q0 q1 q2 q3 q4 q5 sp ru re ar fi cap st wi pl lk (ar - 1) H.size  (by first | assumption | omega) (by first | assumption | omega)) gX6_shareOfLastCar_X1_wishOf rfl (by decide +kernel) (by decide) (by decide) (by decide) (by decide) rfl hl.1 rfl (Nat.le_of_ble_eq_true rfl) dX6_shareOfLastCar_52 (fun z_3 u_4 H locs hp52 hP hD hS => ?_)
    subst z_3
    have hP : va_P dd vwCl [kO q0 1 [vI sp, .ref q1, .ref q2, .ref q3, .ref q4, .ref q5, vI ru, vI re, vI ar, vI fi], kI cI q1 8 cap, kI cI q2 8 st, kI cI q3 9 wi, kI cI q4 9 pl, kI cI q5 9 lk] H := hP
    have hD : va_D A [kO q0 1 [vI sp, .ref q1, .ref q2, .ref q3, .ref q4, .ref q5, vI ru, vI re, vI ar, vI fi], kI cI q1 8 cap, kI cI q2 8 st, kI cI q3 9 wi, kI cI q4 9 pl, kI cI q5 9 lk] := hD
    subst hQ
    refine z_iret (z := wi (ar - 1)) hx hb hr hlocks dX6_shareOfLastCar_55 () hK hS ⟨by omega, by omega⟩ hP hD ?_
    unfold shr
    rw [if_neg (by omega), if_pos sw8]
  · skip
    refine z_look (k := 0) (off := 48) (tgt := 56) hx hb dX6_shareOfLastCar_8 sw8 (by omega) (by decide) (by decide) (by decide) ?_
    refine lv_aload_n hx hb dX6_shareOfLastCar_56 rfl (lv_at hl 1 rfl) ?_
    refine lv_iload_n hx hb dX6_shareOfLastCar_57 rfl (lv_at hl 0 rfl) ?_
    refine g_callVi (own := RX6) (n := 1) (mc := 0) (ms := 0) (As := [vI (ar - 1)]) (rest := []) (wc := [kO q0 1 [vI sp, .ref q1, .ref q2, .ref q3, .ref q4, .ref q5, vI ru, vI re, vI ar, vI fi], kI cI q1 8 cap, kI cI q2 8 st, kI cI q3 9 wi, kI cI q4 9 pl, kI cI q5 9 lk]) (wr := []) hx hb hml hown hts hK hP hD hS hA [0, 1, 2, 3, 4, 5] [] rfl rfl (by decide) (by decide) 1 0 rfl rfl (c_X1_hasLeft l dd cI cJ cC cS q0 q1 q2 q3 q4 q5 sp ru re ar fi cap st wi pl lk (ar - 1) H.size  (by first | assumption | omega) (by first | assumption | omega) (by first | assumption | omega)) gX6_shareOfLastCar_X1_hasLeft rfl (by decide +kernel) (by decide) (by decide) (by decide) (by decide) rfl hl.1 rfl (Nat.le_of_ble_eq_true rfl) dX6_shareOfLastCar_58 (fun z_5 u_6 H locs hp58 hP hD hS => ?_)
    subst z_5
    have hP : va_P dd vwCl [kO q0 1 [vI sp, .ref q1, .ref q2, .ref q3, .ref q4, .ref q5, vI ru, vI re, vI ar, vI fi], kI cI q1 8 cap, kI cI q2 8 st, kI cI q3 9 wi, kI cI q4 9 pl, kI cI q5 9 lk] H := hP
    have hD : va_D A [kO q0 1 [vI sp, .ref q1, .ref q2, .ref q3, .ref q4, .ref q5, vI ru, vI re, vI ar, vI fi], kI cI q1 8 cap, kI cI q2 8 st, kI cI q3 9 wi, kI cI q4 9 pl, kI cI q5 9 lk] := hD
    refine z_if_eq (tgt := 68) hx hb dX6_shareOfLastCar_61 (by decide) (by omega) (fun c61 => ?_) (fun c61 => ?_)
    · skip
      refine z_iconst hx hb dX6_shareOfLastCar_68 ?_
      subst hQ
      refine z_iret (z := 0) hx hb hr hlocks dX6_shareOfLastCar_69 () hK hS ⟨by omega, by omega⟩ hP hD ?_
      unfold shr
      rw [if_neg (by omega), if_neg (by omega)]
      first | exact (if_pos (by omega)).symm | exact (if_neg (by omega)).symm
    · skip
      refine z_iconst hx hb dX6_shareOfLastCar_64 ?_
      refine lv_goto (tgt := 69) hx hb dX6_shareOfLastCar_65 (by decide) ?_
      subst hQ
      refine z_iret (z := 1) hx hb hr hlocks dX6_shareOfLastCar_69 () hK hS ⟨by omega, by omega⟩ hP hD ?_
      unfold shr
      rw [if_neg (by omega), if_neg (by omega)]
      first | exact (if_pos (by omega)).symm | exact (if_neg (by omega)).symm

set_option maxHeartbeats 4000000 in
set_option maxRecDepth 100000 in
theorem c_X6_countLists_rec (l : Launch) (dd : va_G) (cI cJ cC cS : ClassId) : ∀ (NN : Nat) (q0 q1 q2 q3 q4 q5 m0 m1 m2 : Nat) (sp ru re ar fi : Int) (cap st wi pl lk : Int → Int) (ky vl : Int → Int) (cm me r : Int) (sz : Nat), cm.toNat = NN → (1 ≤ sp ∧ sp ≤ 8) → (∀ j : Int, 0 ≤ j → j < sp → 0 ≤ cap j ∧ cap j ≤ 3) → (∀ j : Int, 0 ≤ j → j < sp → 0 ≤ st j ∧ st j ≤ 3) → (0 ≤ ru ∧ ru ≤ 3) → (0 ≤ re ∧ re ≤ 8) → (0 ≤ cm ∧ 0 ≤ ar ∧ ar + cm ≤ 9) → (0 ≤ me ∧ me ≤ 2) → (0 ≤ r ∧ r ≤ 63) → (fi = fil st sp) → (mOK sp cap ru re me ky vl) → gMi l yX6_countLists wsX6_countLists (5 + cm.toNat) 0 0 dd cI cJ cC cS [.ref q0, .ref m0, vI cm, vI me, vI r] [kO q0 1 [vI sp, .ref q1, .ref q2, .ref q3, .ref q4, .ref q5, vI ru, vI re, vI ar, vI fi], kI cI q1 8 cap, kI cI q2 8 st, kI cI q3 9 wi, kI cI q4 9 pl, kI cI q5 9 lk, kO m0 2 [.ref m1, .ref m2], kL cJ m1 1024 ky, kI cI m2 1024 vl] sz (fun (z : Int) (u : (Int → Int) × (Int → Int) × (Int → Int) × (Int → Int) × (Int → Int)) => z = cL sp cap ru re me cm.toNat st r ∧ (∀ j : Int, 0 ≤ j → j < ar → u.1 j = wi j ∧ u.2.1 j = pl j ∧ u.2.2.1 j = lk j) ∧ mOK sp cap ru re me u.2.2.2.1 u.2.2.2.2) (fun (u : (Int → Int) × (Int → Int) × (Int → Int) × (Int → Int) × (Int → Int)) => [kO q0 1 [vI sp, .ref q1, .ref q2, .ref q3, .ref q4, .ref q5, vI ru, vI re, vI ar, vI fi], kI cI q1 8 cap, kI cI q2 8 st, kI cI q3 9 u.1, kI cI q4 9 u.2.1, kI cI q5 9 u.2.2.1, kO m0 2 [.ref m1, .ref m2], kL cJ m1 1024 u.2.2.2.1, kI cI m2 1024 u.2.2.2.2]) := by
  intro NN
  induction NN using Nat.strongRecOn with
  | ind NN IH =>
  intro q0 q1 q2 q3 q4 q5 m0 m1 m2 sp ru re ar fi cap st wi pl lk ky vl cm me r sz hNN hsp hcap hst hru hre hcm hme hrr hfi hmo
  refine gMi_of (cc := cX6_countLists) (maxL := 12) (ret := (some .int)) (by decide) rfl (Nat.le_of_ble_eq_true rfl) ?_
  intro p e s m args below meth c A Q hQ hx hb hr hts hown hlocks hnm hml H locs hP hK hD hA hS ls hl
  have hi1 : ∀ w ∈ wsX10, w ∈ wsX6_countLists := fun _ h => (List.mem_cons_of_mem _ (List.mem_append_left _ (List.mem_append_right _ h)))
  have hl : lv_has ls 12 [(0, .ref q0), (1, .ref m0), (2, vI cm), (3, vI me), (4, vI r)] := hl
  have hfr := fil_rg hsp hst
  have hkr := ckey_rg hsp hst (m := cm) (r := r) (by omega) hrr
  have hhn := hN_lt (ckey sp st cm r)
  refine lv_iload_n hx hb dX6_countLists_0 rfl (lv_at hl 2 rfl) ?_
  refine z_if_gt (tgt := 15) hx hb dX6_countLists_1 (by decide) (by omega) (fun c1 => ?_) (fun c1 => ?_)
  · skip
    refine lv_aload_n hx hb dX6_countLists_15 rfl (lv_at hl 0 rfl) ?_
    refine va_get (D := dd) (ci := 1) (v := vI fi) (C := RX1) (T := TX1) (N := 10) hx hb hts hi1 hown hK hP 0 rfl rfl 9 (by decide) (hts _ (List.mem_cons_of_mem _ (List.mem_append_left _ (List.mem_append_left _ (List.mem_append_left _ (List.mem_of_getElem? (i := 0) rfl)))))) (fun _ h9 => h9) rfl dX6_countLists_16 ?_
    refine lv_i2l (v := zL fi) hx hb dX6_countLists_19 (zL_of (by omega)) ?_
    refine lv_iload_n hx hb dX6_countLists_20 rfl (lv_at hl 2 rfl) ?_
    refine lv_i2l (v := zL cm) hx hb dX6_countLists_21 (zL_of (by omega)) ?_
    refine z_bipush hx hb dX6_countLists_22 (by decide +kernel) ?_
    refine lv_lshl (v := zL (cm * 2 ^ 16)) hx hb dX6_countLists_24 (zL_shl 16 (by decide) (by omega)) ?_
    refine lv_lor hx hb dX6_countLists_25 ?_
    refine z_binl (y := zL (fi + (cm * 2 ^ 16))) (zL_or 16 (by omega)) ?_
    refine lv_iload hx hb dX6_countLists_26 (lv_at hl 4 rfl) ?_
    refine lv_i2l (v := zL r) hx hb dX6_countLists_28 (zL_of (by omega)) ?_
    refine z_bipush hx hb dX6_countLists_29 (by decide +kernel) ?_
    refine lv_lshl (v := zL (r * 2 ^ 20)) hx hb dX6_countLists_31 (zL_shl 20 (by decide) (by omega)) ?_
    refine lv_lor hx hb dX6_countLists_32 ?_
    refine z_binl (y := zL (ckey sp st cm r)) (by rw [zL_or 20 (by omega)]; congr 1; unfold ckey; omega) ?_
    refine lv_lstore (lv' := [(5, vL (ckey sp st cm r)), (0, .ref q0), (1, .ref m0), (2, vI cm), (3, vI me), (4, vI r)]) hx hb dX6_countLists_33 hl (by decide) rfl (fun ls hl => ?_)
    refine lv_aload_n hx hb dX6_countLists_35 rfl (lv_at hl 2 rfl) ?_
    refine lv_lload hx hb dX6_countLists_36 (lv_at hl 0 rfl) ?_
    refine g_callVi (own := RX6) (n := 1) (mc := 0) (ms := 0) (As := [vL (ckey sp st cm r)]) (rest := []) (wc := [kO m0 2 [.ref m1, .ref m2], kL cJ m1 1024 ky, kI cI m2 1024 vl]) (wr := [kO q0 1 [vI sp, .ref q1, .ref q2, .ref q3, .ref q4, .ref q5, vI ru, vI re, vI ar, vI fi], kI cI q1 8 cap, kI cI q2 8 st, kI cI q3 9 wi, kI cI q4 9 pl, kI cI q5 9 lk]) hx hb hml hown hts hK hP hD hS hA [6, 7, 8] [0, 1, 2, 3, 4, 5] rfl rfl (by decide) (by decide) 2 0 rfl rfl (c_X2_find l dd cI cJ cC cS m0 m1 m2 ky vl (ckey sp st cm r) H.size  (mOK_ky hsp hmo) (by omega)) gX6_countLists_X2_find rfl (by decide +kernel) (by decide) (by first | decide | (show _ ≤ 5 + cm.toNat; omega) | (show _ ≤ 40 * (5 + cm.toNat); omega)) (by first | decide | (show _ ≤ 5 + cm.toNat; omega) | (show _ ≤ 40 * (5 + cm.toNat); omega)) (⟨Nat.le_refl _, Nat.le_refl _⟩) rfl hl.1 rfl (Nat.le_of_ble_eq_true rfl) dX6_countLists_38 (fun z_1 u_2 H locs hp38 hP hD hS => ?_)
    subst z_1
    have hP : va_P dd vwCl [kO q0 1 [vI sp, .ref q1, .ref q2, .ref q3, .ref q4, .ref q5, vI ru, vI re, vI ar, vI fi], kI cI q1 8 cap, kI cI q2 8 st, kI cI q3 9 wi, kI cI q4 9 pl, kI cI q5 9 lk, kO m0 2 [.ref m1, .ref m2], kL cJ m1 1024 ky, kI cI m2 1024 vl] H := hP
    have hD : va_D A [kO q0 1 [vI sp, .ref q1, .ref q2, .ref q3, .ref q4, .ref q5, vI ru, vI re, vI ar, vI fi], kI cI q1 8 cap, kI cI q2 8 st, kI cI q3 9 wi, kI cI q4 9 pl, kI cI q5 9 lk, kO m0 2 [.ref m1, .ref m2], kL cJ m1 1024 ky, kI cI m2 1024 vl] := hD
    by_cases hh : ky ((hN (ckey sp st cm r) : Nat) : Int) = (ckey sp st cm r)
    · skip
      have hz2 := mOK_hit hsp hmo hst (by omega) hrr (by omega) hh
      have hz3 := cL_int (cap := cap) (ru := ru) (re := re) (me := me) hsp (m := cm.toNat) (by omega) st r
      refine z_bin (va := .null) (vb := .null) (y := zI (cL sp cap ru re me cm.toNat st r)) (congrArg zI (by rw [if_pos hh, hz2])) ?_
      refine lv_istore (lv' := [(7, vI (cL sp cap ru re me cm.toNat st r)), (5, vL (ckey sp st cm r)), (0, .ref q0), (1, .ref m0), (2, vI cm), (3, vI me), (4, vI r)]) hx hb dX6_countLists_41 hl (by decide) rfl (fun ls hl => ?_)
      refine lv_iload hx hb dX6_countLists_43 (lv_at hl 0 rfl) ?_
      refine z_iconst hx hb dX6_countLists_45 ?_
      refine z_icmp_eq (tgt := 52) hx hb dX6_countLists_46 (by decide) (by omega) (fun c46 => ?_) (fun c46 => ?_)
      · skip
        refine z_iconst hx hb dX6_countLists_52 ?_
        refine lv_istore (lv' := [(8, vI 0), (7, vI (cL sp cap ru re me cm.toNat st r)), (5, vL (ckey sp st cm r)), (0, .ref q0), (1, .ref m0), (2, vI cm), (3, vI me), (4, vI r)]) hx hb dX6_countLists_53 hl (by decide) rfl (fun ls hl => ?_)
        refine z_iconst hx hb dX6_countLists_55 ?_
        refine lv_istore (lv' := [(9, vI 0), (8, vI 0), (7, vI (cL sp cap ru re me cm.toNat st r)), (5, vL (ckey sp st cm r)), (0, .ref q0), (1, .ref m0), (2, vI cm), (3, vI me), (4, vI r)]) hx hb dX6_countLists_56 hl (by decide) rfl (fun ls hl => ?_)
        have L58 : ∀ (nn : Nat) (i : Int) (b : Int) (wa : Int → Int) (pa : Int → Int) (ka : Int → Int) (kya : Int → Int) (vla : Int → Int) (H : Heap) (locs : List Loc) (ls : Array Slot), ((sp + 1 - i).toNat) = nn → (0 ≤ i ∧ i ≤ sp) → (b = sumZ (fun s => cT sp cap ru re me (cm - 1).toNat st r s) i.toNat) → (∀ j : Int, 0 ≤ j → j < ar → wa j = wi j ∧ pa j = pl j ∧ ka j = lk j) → (mOK sp cap ru re me kya vla) → va_P dd vwCl [kO q0 1 [vI sp, .ref q1, .ref q2, .ref q3, .ref q4, .ref q5, vI ru, vI re, vI ar, vI fi], kI cI q1 8 cap, kI cI q2 8 st, kI cI q3 9 wa, kI cI q4 9 pa, kI cI q5 9 ka, kO m0 2 [.ref m1, .ref m2], kL cJ m1 1024 kya, kI cI m2 1024 vla] H → va_D A [kO q0 1 [vI sp, .ref q1, .ref q2, .ref q3, .ref q4, .ref q5, vI ru, vI re, vI ar, vI fi], kI cI q1 8 cap, kI cI q2 8 st, kI cI q3 9 wa, kI cI q4 9 pa, kI cI q5 9 ka, kO m0 2 [.ref m1, .ref m2], kL cJ m1 1024 kya, kI cI m2 1024 vla] → va_S A s.heap H locs → lv_has ls 12 [(8, vI b), (9, vI i), (0, .ref q0), (1, .ref m0), (2, vI cm), (3, vI me), (4, vI r), (5, vL (ckey sp st cm r))] → W p l e (gR (5 + cm.toNat) 0 0) s m args below meth c H locs 0 0 Q (F0 m 58 ls []) := by
          intro nn
          induction nn using Nat.strongRecOn with
          | ind nn L58i =>
          intro i b wa pa ka kya vla H locs ls hmeas hi hbb hjk hmk hP hD hS hl
          refine lv_iload hx hb dX6_countLists_58 (lv_at hl 1 rfl) ?_
          refine lv_aload_n hx hb dX6_countLists_60 rfl (lv_at hl 2 rfl) ?_
          refine va_get (D := dd) (ci := 1) (v := vI sp) (C := RX1) (T := TX1) (N := 10) hx hb hts hi1 hown hK hP 0 rfl rfl 0 (by decide) (hts _ (List.mem_cons_of_mem _ (List.mem_append_left _ (List.mem_append_left _ (List.mem_append_left _ (List.mem_of_getElem? (i := 1) rfl)))))) (fun _ h9 => h9) rfl dX6_countLists_61 ?_
          refine z_icmp_ge (tgt := 125) hx hb dX6_countLists_64 (by decide) (by omega) (fun c64 => ?_) (fun c64 => ?_)
          · skip
            refine lv_aload_n hx hb dX6_countLists_125 rfl (lv_at hl 3 rfl) ?_
            refine lv_lload hx hb dX6_countLists_126 (lv_at hl 7 rfl) ?_
            refine lv_iload hx hb dX6_countLists_128 (lv_at hl 0 rfl) ?_
            refine g_callVv (own := RX6) (n := 2) (mc := 0) (ms := 0) (As := [vL (ckey sp st cm r), vI b]) (rest := []) (wc := [kO m0 2 [.ref m1, .ref m2], kL cJ m1 1024 kya, kI cI m2 1024 vla]) (wr := [kO q0 1 [vI sp, .ref q1, .ref q2, .ref q3, .ref q4, .ref q5, vI ru, vI re, vI ar, vI fi], kI cI q1 8 cap, kI cI q2 8 st, kI cI q3 9 wa, kI cI q4 9 pa, kI cI q5 9 ka]) hx hb hml hown hts hK hP hD hS hA [6, 7, 8] [0, 1, 2, 3, 4, 5] rfl rfl (by decide) (by decide) 2 0 rfl rfl (c_X2_put l dd cI cJ cC cS m0 m1 m2 kya vla (ckey sp st cm r) b H.size) gX6_countLists_X2_put rfl (by decide +kernel) (by decide) (by first | decide | (show _ ≤ 5 + cm.toNat; omega) | (show _ ≤ 40 * (5 + cm.toNat); omega)) (by first | decide | (show _ ≤ 5 + cm.toNat; omega) | (show _ ≤ 40 * (5 + cm.toNat); omega)) (⟨Nat.le_refl _, Nat.le_refl _⟩) rfl hl.1 rfl (Nat.le_of_ble_eq_true rfl) dX6_countLists_130 (fun u_3 H locs hp130 hP hD hS => ?_)
            have hP : va_P dd vwCl [kO q0 1 [vI sp, .ref q1, .ref q2, .ref q3, .ref q4, .ref q5, vI ru, vI re, vI ar, vI fi], kI cI q1 8 cap, kI cI q2 8 st, kI cI q3 9 wa, kI cI q4 9 pa, kI cI q5 9 ka, kO m0 2 [.ref m1, .ref m2], kL cJ m1 1024 (uZ kya (hN (ckey sp st cm r)) (ckey sp st cm r)), kI cI m2 1024 (uZ vla (hN (ckey sp st cm r)) b)] H := hP
            have hD : va_D A [kO q0 1 [vI sp, .ref q1, .ref q2, .ref q3, .ref q4, .ref q5, vI ru, vI re, vI ar, vI fi], kI cI q1 8 cap, kI cI q2 8 st, kI cI q3 9 wa, kI cI q4 9 pa, kI cI q5 9 ka, kO m0 2 [.ref m1, .ref m2], kL cJ m1 1024 (uZ kya (hN (ckey sp st cm r)) (ckey sp st cm r)), kI cI m2 1024 (uZ vla (hN (ckey sp st cm r)) b)] := hD
            refine lv_iload hx hb dX6_countLists_133 (lv_at hl 0 rfl) ?_
            subst hQ
            refine z_iret (z := b) hx hb hr hlocks dX6_countLists_135 (wa, pa, ka, (uZ kya (hN (ckey sp st cm r)) (ckey sp st cm r)), (uZ vla (hN (ckey sp st cm r)) b)) hK hS ⟨by omega, by omega⟩ hP hD ?_
            have hv := hbb
            rw [show i = sp by omega, ← cL_s (by omega)] at hv
            exact ⟨hv, hjk, mOK_put hmk hst (by omega) hrr _ hv⟩
          · skip
            refine lv_aload_n hx hb dX6_countLists_67 rfl (lv_at hl 2 rfl) ?_
            refine lv_iload hx hb dX6_countLists_68 (lv_at hl 1 rfl) ?_
            refine g_callVi (own := RX6) (n := 1) (mc := 0) (ms := 0) (As := [vI i]) (rest := []) (wc := [kO q0 1 [vI sp, .ref q1, .ref q2, .ref q3, .ref q4, .ref q5, vI ru, vI re, vI ar, vI fi], kI cI q1 8 cap, kI cI q2 8 st, kI cI q3 9 wa, kI cI q4 9 pa, kI cI q5 9 ka]) (wr := [kO m0 2 [.ref m1, .ref m2], kL cJ m1 1024 kya, kI cI m2 1024 vla]) hx hb hml hown hts hK hP hD hS hA [0, 1, 2, 3, 4, 5] [6, 7, 8] rfl rfl (by decide) (by decide) 1 0 rfl rfl (c_X1_arrive l dd cI cJ cC cS q0 q1 q2 q3 q4 q5 sp ru re ar fi cap st wa pa ka i H.size  (by first | assumption | omega) (by first | assumption | (intro j h0 h1; omega)) (by first | assumption | (intro j h0 h1; omega)) (by first | assumption | omega) (by first | assumption | omega) (by first | assumption | omega) (by first | assumption | omega)) gX6_countLists_X1_arrive rfl (by decide +kernel) (by decide) (by first | decide | (show _ ≤ 5 + cm.toNat; omega) | (show _ ≤ 40 * (5 + cm.toNat); omega)) (by first | decide | (show _ ≤ 5 + cm.toNat; omega) | (show _ ≤ 40 * (5 + cm.toNat); omega)) (⟨Nat.le_refl _, Nat.le_refl _⟩) rfl hl.1 rfl (Nat.le_of_ble_eq_true rfl) dX6_countLists_70 (fun z_4 u_5 H locs hp70 hP hD hS => ?_)
            subst z_4
            have hP : va_P dd vwCl [kO m0 2 [.ref m1, .ref m2], kL cJ m1 1024 kya, kI cI m2 1024 vla, kO q0 1 [vI sp, .ref q1, .ref q2, .ref q3, .ref q4, .ref q5, vI ru, vI re, vI (ar + 1), vI (fi + flp (pP sp cap st ru re i))], kI cI q1 8 cap, kI cI q2 8 (stp st (pP sp cap st ru re i)), kI cI q3 9 (uZ wa ar i), kI cI q4 9 (uZ pa ar (pP sp cap st ru re i)), kI cI q5 9 (uZ ka ar (pK sp cap st ru re i))] H := hP
            have hD : va_D A [kO m0 2 [.ref m1, .ref m2], kL cJ m1 1024 kya, kI cI m2 1024 vla, kO q0 1 [vI sp, .ref q1, .ref q2, .ref q3, .ref q4, .ref q5, vI ru, vI re, vI (ar + 1), vI (fi + flp (pP sp cap st ru re i))], kI cI q1 8 cap, kI cI q2 8 (stp st (pP sp cap st ru re i)), kI cI q3 9 (uZ wa ar i), kI cI q4 9 (uZ pa ar (pP sp cap st ru re i)), kI cI q5 9 (uZ ka ar (pK sp cap st ru re i))] := hD
            have hpp := pP_rg sp cap st ru re i
            have hsr := stp_rg (ru := ru) (re := re) (p := i) hcap hst
            have hff := fil_stp (st := st) (n := sp) (p := (pP sp cap st ru re i)) (by omega)
            by_cases hpk : 0 ≤ (pP sp cap st ru re i)
            · skip
              refine z_bin (va := .null) (vb := .null) (y := zI 1) (congrArg zI (if_pos hpk)) ?_
              refine lv_istore (lv' := [(10, vI 1), (8, vI b), (9, vI i), (0, .ref q0), (1, .ref m0), (2, vI cm), (3, vI me), (4, vI r), (5, vL (ckey sp st cm r))]) hx hb dX6_countLists_73 hl (by decide) rfl (fun ls hl => ?_)
              refine lv_iload hx hb dX6_countLists_75 (lv_at hl 7 rfl) ?_
              refine lv_aload_n hx hb dX6_countLists_77 rfl (lv_at hl 3 rfl) ?_
              refine lv_iload_n hx hb dX6_countLists_78 rfl (lv_at hl 6 rfl) ?_
              refine g_callSi (own := RX6) (n := 2) (mc := 0) (ms := 0) (As := [.ref q0, vI me]) (rest := [vI r]) (wc := [kO q0 1 [vI sp, .ref q1, .ref q2, .ref q3, .ref q4, .ref q5, vI ru, vI re, vI (ar + 1), vI (fi + flp (pP sp cap st ru re i))], kI cI q1 8 cap, kI cI q2 8 (stp st (pP sp cap st ru re i)), kI cI q3 9 (uZ wa ar i), kI cI q4 9 (uZ pa ar (pP sp cap st ru re i)), kI cI q5 9 (uZ ka ar (pK sp cap st ru re i))]) (wr := [kO m0 2 [.ref m1, .ref m2], kL cJ m1 1024 kya, kI cI m2 1024 vla]) hx hb hml hown hts hK hP hD hS hA [3, 4, 5, 6, 7, 8] [0, 1, 2] rfl rfl (by decide) (by decide) (c_X6_shareOfLastCar l dd cI cJ cC cS q0 q1 q2 q3 q4 q5 sp ru re (ar + 1) (fi + flp (pP sp cap st ru re i)) cap (stp st (pP sp cap st ru re i)) (uZ wa ar i) (uZ pa ar (pP sp cap st ru re i)) (uZ ka ar (pK sp cap st ru re i)) me H.size  (by first | assumption | omega) (by rw [show ar + 1 - 1 = ar by omega, uZ_same]; omega) (by rw [show ar + 1 - 1 = ar by omega, uZ_same]; omega) (by first | assumption | omega)) gX6_countLists_X6_shareOfLastCar rfl (by decide +kernel) (by decide) (by first | decide | (show _ ≤ 5 + cm.toNat; omega) | (show _ ≤ 40 * (5 + cm.toNat); omega)) (by first | decide | (show _ ≤ 5 + cm.toNat; omega) | (show _ ≤ 40 * (5 + cm.toNat); omega)) (⟨Nat.le_refl _, Nat.le_refl _⟩) rfl hl.1 rfl (Nat.le_of_ble_eq_true rfl) dX6_countLists_79 (fun z_6 u_7 H locs hp79 hP hD hS => ?_)
              subst z_6
              have hP : va_P dd vwCl [kO m0 2 [.ref m1, .ref m2], kL cJ m1 1024 kya, kI cI m2 1024 vla, kO q0 1 [vI sp, .ref q1, .ref q2, .ref q3, .ref q4, .ref q5, vI ru, vI re, vI (ar + 1), vI (fi + flp (pP sp cap st ru re i))], kI cI q1 8 cap, kI cI q2 8 (stp st (pP sp cap st ru re i)), kI cI q3 9 (uZ wa ar i), kI cI q4 9 (uZ pa ar (pP sp cap st ru re i)), kI cI q5 9 (uZ ka ar (pK sp cap st ru re i))] H := hP
              have hD : va_D A [kO m0 2 [.ref m1, .ref m2], kL cJ m1 1024 kya, kI cI m2 1024 vla, kO q0 1 [vI sp, .ref q1, .ref q2, .ref q3, .ref q4, .ref q5, vI ru, vI re, vI (ar + 1), vI (fi + flp (pP sp cap st ru re i))], kI cI q1 8 cap, kI cI q2 8 (stp st (pP sp cap st ru re i)), kI cI q3 9 (uZ wa ar i), kI cI q4 9 (uZ pa ar (pP sp cap st ru re i)), kI cI q5 9 (uZ ka ar (pK sp cap st ru re i))] := hD
              have hsh := shr_rg me (pP sp cap st ru re i) (s := i) (by omega)
              refine z_bin (va := .null) (vb := .null) (y := zI (shr me (pP sp cap st ru re i) i)) (congrArg zI (by rw [show ar + 1 - 1 = ar by omega, uZ_same, uZ_same])) ?_
              refine z_isub (z := (r - shr me (pP sp cap st ru re i) i)) hx hb rfl dX6_countLists_82 ?_
              refine lv_istore (lv' := [(11, vI (r - shr me (pP sp cap st ru re i) i)), (10, vI 1), (8, vI b), (9, vI i), (0, .ref q0), (1, .ref m0), (2, vI cm), (3, vI me), (4, vI r), (5, vL (ckey sp st cm r))]) hx hb dX6_countLists_83 hl (by decide) rfl (fun ls hl => ?_)
              refine lv_iload hx hb dX6_countLists_85 (lv_at hl 1 rfl) ?_
              refine z_if_ne (tgt := 94) hx hb dX6_countLists_87 (by decide) (by omega) (fun c87 => ?_) (fun c87 => ?_)
              · skip
                refine lv_iload hx hb dX6_countLists_94 (lv_at hl 0 rfl) ?_
                refine z_if_lt (tgt := 115) hx hb dX6_countLists_96 (by decide) (by omega) (fun c96 => ?_) (fun c96 => ?_)
                · skip
                  have hX : (uZ pa ar (pP sp cap st ru re i)) (ar + 1 - 1) = (pP sp cap st ru re i) := by
                    rw [show ar + 1 - 1 = ar by omega]
                    first | exact uZ_same _ _ _ | exact (hq109 ar (by omega) (by omega)).2.1.trans (uZ_same _ _ _)
                  refine lv_aload_n hx hb dX6_countLists_115 rfl (lv_at hl 4 rfl) ?_
                  refine g_callVv (own := RX6) (n := 0) (mc := 0) (ms := 0) (As := []) (rest := []) (wc := [kO q0 1 [vI sp, .ref q1, .ref q2, .ref q3, .ref q4, .ref q5, vI ru, vI re, vI (ar + 1), vI (fi + flp (pP sp cap st ru re i))], kI cI q1 8 cap, kI cI q2 8 (stp st (pP sp cap st ru re i)), kI cI q3 9 (uZ wa ar i), kI cI q4 9 (uZ pa ar (pP sp cap st ru re i)), kI cI q5 9 (uZ ka ar (pK sp cap st ru re i))]) (wr := [kO m0 2 [.ref m1, .ref m2], kL cJ m1 1024 kya, kI cI m2 1024 vla]) hx hb hml hown hts hK hP hD hS hA [3, 4, 5, 6, 7, 8] [0, 1, 2] rfl rfl (by decide) (by decide) 1 0 rfl rfl (c_X1_takeBackLast l dd cI cJ cC cS q0 q1 q2 q3 q4 q5 sp ru re (ar + 1) (fi + flp (pP sp cap st ru re i)) cap (stp st (pP sp cap st ru re i)) (uZ wa ar i) (uZ pa ar (pP sp cap st ru re i)) (uZ ka ar (pK sp cap st ru re i)) H.size  (by first | assumption | omega) (by first | assumption | omega) (by rw [hX]; omega)) gX6_countLists_X1_takeBackLast rfl (by decide +kernel) (by decide) (by first | decide | (show _ ≤ 5 + cm.toNat; omega) | (show _ ≤ 40 * (5 + cm.toNat); omega)) (by first | decide | (show _ ≤ 5 + cm.toNat; omega) | (show _ ≤ 40 * (5 + cm.toNat); omega)) (⟨Nat.le_refl _, Nat.le_refl _⟩) rfl hl.1 rfl (Nat.le_of_ble_eq_true rfl) dX6_countLists_116 (fun u_8 H locs hp116 hP hD hS => ?_)
                  have hP : va_P dd vwCl [kO m0 2 [.ref m1, .ref m2], kL cJ m1 1024 kya, kI cI m2 1024 vla, kO q0 1 [vI sp, .ref q1, .ref q2, .ref q3, .ref q4, .ref q5, vI ru, vI re, vI ((ar + 1) - 1), vI ((fi + flp (pP sp cap st ru re i)) - flp ((uZ pa ar (pP sp cap st ru re i)) ((ar + 1) - 1)))], kI cI q1 8 cap, kI cI q2 8 (if 0 ≤ ((uZ pa ar (pP sp cap st ru re i)) ((ar + 1) - 1)) then uZ (stp st (pP sp cap st ru re i)) ((uZ pa ar (pP sp cap st ru re i)) ((ar + 1) - 1)) ((stp st (pP sp cap st ru re i)) ((uZ pa ar (pP sp cap st ru re i)) ((ar + 1) - 1)) - 1) else (stp st (pP sp cap st ru re i))), kI cI q3 9 (uZ wa ar i), kI cI q4 9 (uZ pa ar (pP sp cap st ru re i)), kI cI q5 9 (uZ ka ar (pK sp cap st ru re i))] H := hP
                  have hD : va_D A [kO m0 2 [.ref m1, .ref m2], kL cJ m1 1024 kya, kI cI m2 1024 vla, kO q0 1 [vI sp, .ref q1, .ref q2, .ref q3, .ref q4, .ref q5, vI ru, vI re, vI ((ar + 1) - 1), vI ((fi + flp (pP sp cap st ru re i)) - flp ((uZ pa ar (pP sp cap st ru re i)) ((ar + 1) - 1)))], kI cI q1 8 cap, kI cI q2 8 (if 0 ≤ ((uZ pa ar (pP sp cap st ru re i)) ((ar + 1) - 1)) then uZ (stp st (pP sp cap st ru re i)) ((uZ pa ar (pP sp cap st ru re i)) ((ar + 1) - 1)) ((stp st (pP sp cap st ru re i)) ((uZ pa ar (pP sp cap st ru re i)) ((ar + 1) - 1)) - 1) else (stp st (pP sp cap st ru re i))), kI cI q3 9 (uZ wa ar i), kI cI q4 9 (uZ pa ar (pP sp cap st ru re i)), kI cI q5 9 (uZ ka ar (pK sp cap st ru re i))] := hD
                  refine z_iinc (a := i) (z := (i + 1)) (lv' := [(9, vI (i + 1)), (11, vI (r - shr me (pP sp cap st ru re i) i)), (10, vI 1), (8, vI b), (0, .ref q0), (1, .ref m0), (2, vI cm), (3, vI me), (4, vI r), (5, vL (ckey sp st cm r))]) hx hb dX6_countLists_119 hl (k := 3) rfl rfl (by decide) rfl (fun ls hl => ?_)
                  refine lv_goto (tgt := 58) hx hb dX6_countLists_122 (by decide) ?_
                  have el_9 : vI ((ar + 1) - 1) = vI ar := congrArg _ (by omega)
                  rw [el_9] at hP hD
                  have el_10 : vI ((fi + flp (pP sp cap st ru re i)) - flp ((uZ pa ar (pP sp cap st ru re i)) ((ar + 1) - 1))) = vI fi := congrArg _ (by rw [hX]; omega)
                  rw [el_10] at hP hD
                  have el_11 : kI cI q2 8 (if 0 ≤ ((uZ pa ar (pP sp cap st ru re i)) ((ar + 1) - 1)) then uZ (stp st (pP sp cap st ru re i)) ((uZ pa ar (pP sp cap st ru re i)) ((ar + 1) - 1)) ((stp st (pP sp cap st ru re i)) ((uZ pa ar (pP sp cap st ru re i)) ((ar + 1) - 1)) - 1) else (stp st (pP sp cap st ru re i))) = kI cI q2 8 st := kI_congr (by rw [hX, stp_back])
                  rw [el_11] at hP hD
                  exact L58i _ (by omega) (i + 1) b (uZ wa ar i) (uZ pa ar (pP sp cap st ru re i)) (uZ ka ar (pK sp cap st ru re i)) kya vla H locs ls rfl (by omega) (by rw [sumZ_s (by omega), show cT sp cap ru re me (cm - 1).toNat st r i = 0 from if_neg (fun q => absurd q.2 (by omega)), hbb, Int.add_zero]) (fun j h0 h1 => by rw [uZ_ne (by omega), uZ_ne (by omega), uZ_ne (by omega)]; exact hjk j h0 h1) (hmk) (hP.sub [3, 4, 5, 6, 7, 8, 0, 1, 2] rfl) (hD.sub [3, 4, 5, 6, 7, 8, 0, 1, 2] (by decide) rfl) hS (lv_sub hl [3, 0, 4, 5, 6, 7, 8, 9] rfl)
                · skip
                  refine lv_iload hx hb dX6_countLists_99 (lv_at hl 2 rfl) ?_
                  refine lv_aload_n hx hb dX6_countLists_101 rfl (lv_at hl 4 rfl) ?_
                  refine lv_aload_n hx hb dX6_countLists_102 rfl (lv_at hl 5 rfl) ?_
                  refine lv_iload_n hx hb dX6_countLists_103 rfl (lv_at hl 6 rfl) ?_
                  refine z_iconst hx hb dX6_countLists_104 ?_
                  refine z_isub (z := (cm - 1)) hx hb rfl dX6_countLists_105 ?_
                  refine lv_iload_n hx hb dX6_countLists_106 rfl (lv_at hl 7 rfl) ?_
                  refine lv_iload hx hb dX6_countLists_107 (lv_at hl 0 rfl) ?_
                  refine g_callSi (own := RX6) (n := 5) (mc := 0) (ms := 0) (As := [.ref q0, .ref m0, vI (cm - 1), vI me, vI (r - shr me (pP sp cap st ru re i) i)]) (rest := [vI b]) (wc := [kO q0 1 [vI sp, .ref q1, .ref q2, .ref q3, .ref q4, .ref q5, vI ru, vI re, vI (ar + 1), vI (fi + flp (pP sp cap st ru re i))], kI cI q1 8 cap, kI cI q2 8 (stp st (pP sp cap st ru re i)), kI cI q3 9 (uZ wa ar i), kI cI q4 9 (uZ pa ar (pP sp cap st ru re i)), kI cI q5 9 (uZ ka ar (pK sp cap st ru re i)), kO m0 2 [.ref m1, .ref m2], kL cJ m1 1024 kya, kI cI m2 1024 vla]) (wr := []) hx hb hml hown hts hK hP hD hS hA [3, 4, 5, 6, 7, 8, 0, 1, 2] [] rfl rfl (by decide) (by decide) (IH (cm - 1).toNat (by omega) q0 q1 q2 q3 q4 q5 m0 m1 m2 sp ru re (ar + 1) (fi + flp (pP sp cap st ru re i)) cap (stp st (pP sp cap st ru re i)) (uZ wa ar i) (uZ pa ar (pP sp cap st ru re i)) (uZ ka ar (pK sp cap st ru re i)) kya vla (cm - 1) me (r - shr me (pP sp cap st ru re i) i) H.size rfl (by first | assumption | omega) (by first | assumption | (intro j h0 h1; omega)) (by first | assumption | (intro j h0 h1; omega)) (by first | assumption | omega) (by first | assumption | omega) (by first | assumption | omega) (by first | assumption | omega) (by first | assumption | omega) (by first | assumption | omega) (by first | assumption | omega)) gX6_countLists_X6_countLists rfl (by decide +kernel) (by decide) (by first | decide | (show _ ≤ 5 + cm.toNat; omega) | (show _ ≤ 40 * (5 + cm.toNat); omega)) (by first | decide | (show _ ≤ 5 + cm.toNat; omega) | (show _ ≤ 40 * (5 + cm.toNat); omega)) (⟨Nat.le_refl _, Nat.le_refl _⟩) rfl hl.1 rfl (Nat.le_of_ble_eq_true rfl) dX6_countLists_109 (fun z_12 u_13 H locs hp109 hP hD hS => ?_)
                  obtain ⟨wi1_14, pl1_15, lk1_16, ky1_17, vl1_18⟩ := u_13
                  try dsimp only at hp109
                  obtain ⟨z_12e, hp109⟩ := hp109
                  subst z_12
                  obtain ⟨hq109, hqm109⟩ := hp109
                  have hP : va_P dd vwCl [kO q0 1 [vI sp, .ref q1, .ref q2, .ref q3, .ref q4, .ref q5, vI ru, vI re, vI (ar + 1), vI (fi + flp (pP sp cap st ru re i))], kI cI q1 8 cap, kI cI q2 8 (stp st (pP sp cap st ru re i)), kI cI q3 9 wi1_14, kI cI q4 9 pl1_15, kI cI q5 9 lk1_16, kO m0 2 [.ref m1, .ref m2], kL cJ m1 1024 ky1_17, kI cI m2 1024 vl1_18] H := hP
                  have hD : va_D A [kO q0 1 [vI sp, .ref q1, .ref q2, .ref q3, .ref q4, .ref q5, vI ru, vI re, vI (ar + 1), vI (fi + flp (pP sp cap st ru re i))], kI cI q1 8 cap, kI cI q2 8 (stp st (pP sp cap st ru re i)), kI cI q3 9 wi1_14, kI cI q4 9 pl1_15, kI cI q5 9 lk1_16, kO m0 2 [.ref m1, .ref m2], kL cJ m1 1024 ky1_17, kI cI m2 1024 vl1_18] := hD
                  refine z_iadd (z := (b + cL sp cap ru re me (cm - 1).toNat (stp st (pP sp cap st ru re i)) (r - shr me (pP sp cap st ru re i) i))) hx hb rfl dX6_countLists_112 ?_
                  refine lv_istore (lv' := [(8, vI (b + cL sp cap ru re me (cm - 1).toNat (stp st (pP sp cap st ru re i)) (r - shr me (pP sp cap st ru re i) i))), (11, vI (r - shr me (pP sp cap st ru re i) i)), (10, vI 1), (9, vI i), (0, .ref q0), (1, .ref m0), (2, vI cm), (3, vI me), (4, vI r), (5, vL (ckey sp st cm r))]) hx hb dX6_countLists_113 hl (by decide) rfl (fun ls hl => ?_)
                  have hX : pl1_15 (ar + 1 - 1) = (pP sp cap st ru re i) := by
                    rw [show ar + 1 - 1 = ar by omega]
                    first | exact uZ_same _ _ _ | exact (hq109 ar (by omega) (by omega)).2.1.trans (uZ_same _ _ _)
                  refine lv_aload_n hx hb dX6_countLists_115 rfl (lv_at hl 4 rfl) ?_
                  refine g_callVv (own := RX6) (n := 0) (mc := 0) (ms := 0) (As := []) (rest := []) (wc := [kO q0 1 [vI sp, .ref q1, .ref q2, .ref q3, .ref q4, .ref q5, vI ru, vI re, vI (ar + 1), vI (fi + flp (pP sp cap st ru re i))], kI cI q1 8 cap, kI cI q2 8 (stp st (pP sp cap st ru re i)), kI cI q3 9 wi1_14, kI cI q4 9 pl1_15, kI cI q5 9 lk1_16]) (wr := [kO m0 2 [.ref m1, .ref m2], kL cJ m1 1024 ky1_17, kI cI m2 1024 vl1_18]) hx hb hml hown hts hK hP hD hS hA [0, 1, 2, 3, 4, 5] [6, 7, 8] rfl rfl (by decide) (by decide) 1 0 rfl rfl (c_X1_takeBackLast l dd cI cJ cC cS q0 q1 q2 q3 q4 q5 sp ru re (ar + 1) (fi + flp (pP sp cap st ru re i)) cap (stp st (pP sp cap st ru re i)) wi1_14 pl1_15 lk1_16 H.size  (by first | assumption | omega) (by first | assumption | omega) (by rw [hX]; omega)) gX6_countLists_X1_takeBackLast rfl (by decide +kernel) (by decide) (by first | decide | (show _ ≤ 5 + cm.toNat; omega) | (show _ ≤ 40 * (5 + cm.toNat); omega)) (by first | decide | (show _ ≤ 5 + cm.toNat; omega) | (show _ ≤ 40 * (5 + cm.toNat); omega)) (⟨Nat.le_refl _, Nat.le_refl _⟩) rfl hl.1 rfl (Nat.le_of_ble_eq_true rfl) dX6_countLists_116 (fun u_19 H locs hp116_20 hP hD hS => ?_)
                  have hP : va_P dd vwCl [kO m0 2 [.ref m1, .ref m2], kL cJ m1 1024 ky1_17, kI cI m2 1024 vl1_18, kO q0 1 [vI sp, .ref q1, .ref q2, .ref q3, .ref q4, .ref q5, vI ru, vI re, vI ((ar + 1) - 1), vI ((fi + flp (pP sp cap st ru re i)) - flp (pl1_15 ((ar + 1) - 1)))], kI cI q1 8 cap, kI cI q2 8 (if 0 ≤ (pl1_15 ((ar + 1) - 1)) then uZ (stp st (pP sp cap st ru re i)) (pl1_15 ((ar + 1) - 1)) ((stp st (pP sp cap st ru re i)) (pl1_15 ((ar + 1) - 1)) - 1) else (stp st (pP sp cap st ru re i))), kI cI q3 9 wi1_14, kI cI q4 9 pl1_15, kI cI q5 9 lk1_16] H := hP
                  have hD : va_D A [kO m0 2 [.ref m1, .ref m2], kL cJ m1 1024 ky1_17, kI cI m2 1024 vl1_18, kO q0 1 [vI sp, .ref q1, .ref q2, .ref q3, .ref q4, .ref q5, vI ru, vI re, vI ((ar + 1) - 1), vI ((fi + flp (pP sp cap st ru re i)) - flp (pl1_15 ((ar + 1) - 1)))], kI cI q1 8 cap, kI cI q2 8 (if 0 ≤ (pl1_15 ((ar + 1) - 1)) then uZ (stp st (pP sp cap st ru re i)) (pl1_15 ((ar + 1) - 1)) ((stp st (pP sp cap st ru re i)) (pl1_15 ((ar + 1) - 1)) - 1) else (stp st (pP sp cap st ru re i))), kI cI q3 9 wi1_14, kI cI q4 9 pl1_15, kI cI q5 9 lk1_16] := hD
                  refine z_iinc (a := i) (z := (i + 1)) (lv' := [(9, vI (i + 1)), (8, vI (b + cL sp cap ru re me (cm - 1).toNat (stp st (pP sp cap st ru re i)) (r - shr me (pP sp cap st ru re i) i))), (11, vI (r - shr me (pP sp cap st ru re i) i)), (10, vI 1), (0, .ref q0), (1, .ref m0), (2, vI cm), (3, vI me), (4, vI r), (5, vL (ckey sp st cm r))]) hx hb dX6_countLists_119 hl (k := 3) rfl rfl (by decide) rfl (fun ls hl => ?_)
                  refine lv_goto (tgt := 58) hx hb dX6_countLists_122 (by decide) ?_
                  have el_21 : vI ((ar + 1) - 1) = vI ar := congrArg _ (by omega)
                  rw [el_21] at hP hD
                  have el_22 : vI ((fi + flp (pP sp cap st ru re i)) - flp (pl1_15 ((ar + 1) - 1))) = vI fi := congrArg _ (by rw [hX]; omega)
                  rw [el_22] at hP hD
                  have el_23 : kI cI q2 8 (if 0 ≤ (pl1_15 ((ar + 1) - 1)) then uZ (stp st (pP sp cap st ru re i)) (pl1_15 ((ar + 1) - 1)) ((stp st (pP sp cap st ru re i)) (pl1_15 ((ar + 1) - 1)) - 1) else (stp st (pP sp cap st ru re i))) = kI cI q2 8 st := kI_congr (by rw [hX, stp_back])
                  rw [el_23] at hP hD
                  exact L58i _ (by omega) (i + 1) (b + cL sp cap ru re me (cm - 1).toNat (stp st (pP sp cap st ru re i)) (r - shr me (pP sp cap st ru re i) i)) wi1_14 pl1_15 lk1_16 ky1_17 vl1_18 H locs ls rfl (by omega) (by rw [sumZ_s (by omega), show cT sp cap ru re me (cm - 1).toNat st r i = _ from if_pos ⟨by omega, by omega⟩, hbb]) (fun j h0 h1 => by
                    have a1 := hq109 j h0 (by omega)
                    have a2 := hjk j h0 h1
                    rw [uZ_ne (by omega), uZ_ne (by omega), uZ_ne (by omega)] at a1
                    exact ⟨a1.1.trans a2.1, a1.2.1.trans a2.2.1, a1.2.2.trans a2.2.2⟩) (hqm109) (hP.sub [3, 4, 5, 6, 7, 8, 0, 1, 2] rfl) (hD.sub [3, 4, 5, 6, 7, 8, 0, 1, 2] (by decide) rfl) hS (lv_sub hl [1, 0, 4, 5, 6, 7, 8, 9] rfl)
              · exact absurd c87 (by omega)
            · skip
              refine z_bin (va := .null) (vb := .null) (y := zI 0) (congrArg zI (if_neg hpk)) ?_
              refine lv_istore (lv' := [(10, vI 0), (8, vI b), (9, vI i), (0, .ref q0), (1, .ref m0), (2, vI cm), (3, vI me), (4, vI r), (5, vL (ckey sp st cm r))]) hx hb dX6_countLists_73 hl (by decide) rfl (fun ls hl => ?_)
              refine lv_iload hx hb dX6_countLists_75 (lv_at hl 7 rfl) ?_
              refine lv_aload_n hx hb dX6_countLists_77 rfl (lv_at hl 3 rfl) ?_
              refine lv_iload_n hx hb dX6_countLists_78 rfl (lv_at hl 6 rfl) ?_
              refine g_callSi (own := RX6) (n := 2) (mc := 0) (ms := 0) (As := [.ref q0, vI me]) (rest := [vI r]) (wc := [kO q0 1 [vI sp, .ref q1, .ref q2, .ref q3, .ref q4, .ref q5, vI ru, vI re, vI (ar + 1), vI (fi + flp (pP sp cap st ru re i))], kI cI q1 8 cap, kI cI q2 8 (stp st (pP sp cap st ru re i)), kI cI q3 9 (uZ wa ar i), kI cI q4 9 (uZ pa ar (pP sp cap st ru re i)), kI cI q5 9 (uZ ka ar (pK sp cap st ru re i))]) (wr := [kO m0 2 [.ref m1, .ref m2], kL cJ m1 1024 kya, kI cI m2 1024 vla]) hx hb hml hown hts hK hP hD hS hA [3, 4, 5, 6, 7, 8] [0, 1, 2] rfl rfl (by decide) (by decide) (c_X6_shareOfLastCar l dd cI cJ cC cS q0 q1 q2 q3 q4 q5 sp ru re (ar + 1) (fi + flp (pP sp cap st ru re i)) cap (stp st (pP sp cap st ru re i)) (uZ wa ar i) (uZ pa ar (pP sp cap st ru re i)) (uZ ka ar (pK sp cap st ru re i)) me H.size  (by first | assumption | omega) (by rw [show ar + 1 - 1 = ar by omega, uZ_same]; omega) (by rw [show ar + 1 - 1 = ar by omega, uZ_same]; omega) (by first | assumption | omega)) gX6_countLists_X6_shareOfLastCar rfl (by decide +kernel) (by decide) (by first | decide | (show _ ≤ 5 + cm.toNat; omega) | (show _ ≤ 40 * (5 + cm.toNat); omega)) (by first | decide | (show _ ≤ 5 + cm.toNat; omega) | (show _ ≤ 40 * (5 + cm.toNat); omega)) (⟨Nat.le_refl _, Nat.le_refl _⟩) rfl hl.1 rfl (Nat.le_of_ble_eq_true rfl) dX6_countLists_79 (fun z_24 u_25 H locs hp79_26 hP hD hS => ?_)
              subst z_24
              have hP : va_P dd vwCl [kO m0 2 [.ref m1, .ref m2], kL cJ m1 1024 kya, kI cI m2 1024 vla, kO q0 1 [vI sp, .ref q1, .ref q2, .ref q3, .ref q4, .ref q5, vI ru, vI re, vI (ar + 1), vI (fi + flp (pP sp cap st ru re i))], kI cI q1 8 cap, kI cI q2 8 (stp st (pP sp cap st ru re i)), kI cI q3 9 (uZ wa ar i), kI cI q4 9 (uZ pa ar (pP sp cap st ru re i)), kI cI q5 9 (uZ ka ar (pK sp cap st ru re i))] H := hP
              have hD : va_D A [kO m0 2 [.ref m1, .ref m2], kL cJ m1 1024 kya, kI cI m2 1024 vla, kO q0 1 [vI sp, .ref q1, .ref q2, .ref q3, .ref q4, .ref q5, vI ru, vI re, vI (ar + 1), vI (fi + flp (pP sp cap st ru re i))], kI cI q1 8 cap, kI cI q2 8 (stp st (pP sp cap st ru re i)), kI cI q3 9 (uZ wa ar i), kI cI q4 9 (uZ pa ar (pP sp cap st ru re i)), kI cI q5 9 (uZ ka ar (pK sp cap st ru re i))] := hD
              have hsh := shr_rg me (pP sp cap st ru re i) (s := i) (by omega)
              refine z_bin (va := .null) (vb := .null) (y := zI (shr me (pP sp cap st ru re i) i)) (congrArg zI (by rw [show ar + 1 - 1 = ar by omega, uZ_same, uZ_same])) ?_
              refine z_isub (z := (r - shr me (pP sp cap st ru re i) i)) hx hb rfl dX6_countLists_82 ?_
              refine lv_istore (lv' := [(11, vI (r - shr me (pP sp cap st ru re i) i)), (10, vI 0), (8, vI b), (9, vI i), (0, .ref q0), (1, .ref m0), (2, vI cm), (3, vI me), (4, vI r), (5, vL (ckey sp st cm r))]) hx hb dX6_countLists_83 hl (by decide) rfl (fun ls hl => ?_)
              refine lv_iload hx hb dX6_countLists_85 (lv_at hl 1 rfl) ?_
              refine z_if_ne (tgt := 94) hx hb dX6_countLists_87 (by decide) (by omega) (fun c87 => ?_) (fun c87 => ?_)
              · exact absurd c87 (by omega)
              · skip
                refine lv_iload_n hx hb dX6_countLists_90 rfl (lv_at hl 7 rfl) ?_
                refine z_if_ne (tgt := 115) hx hb dX6_countLists_91 (by decide) (by omega) (fun c91 => ?_) (fun c91 => ?_)
                · skip
                  have hX : (uZ pa ar (pP sp cap st ru re i)) (ar + 1 - 1) = (pP sp cap st ru re i) := by
                    rw [show ar + 1 - 1 = ar by omega]
                    first | exact uZ_same _ _ _ | exact (hq109 ar (by omega) (by omega)).2.1.trans (uZ_same _ _ _)
                  refine lv_aload_n hx hb dX6_countLists_115 rfl (lv_at hl 4 rfl) ?_
                  refine g_callVv (own := RX6) (n := 0) (mc := 0) (ms := 0) (As := []) (rest := []) (wc := [kO q0 1 [vI sp, .ref q1, .ref q2, .ref q3, .ref q4, .ref q5, vI ru, vI re, vI (ar + 1), vI (fi + flp (pP sp cap st ru re i))], kI cI q1 8 cap, kI cI q2 8 (stp st (pP sp cap st ru re i)), kI cI q3 9 (uZ wa ar i), kI cI q4 9 (uZ pa ar (pP sp cap st ru re i)), kI cI q5 9 (uZ ka ar (pK sp cap st ru re i))]) (wr := [kO m0 2 [.ref m1, .ref m2], kL cJ m1 1024 kya, kI cI m2 1024 vla]) hx hb hml hown hts hK hP hD hS hA [3, 4, 5, 6, 7, 8] [0, 1, 2] rfl rfl (by decide) (by decide) 1 0 rfl rfl (c_X1_takeBackLast l dd cI cJ cC cS q0 q1 q2 q3 q4 q5 sp ru re (ar + 1) (fi + flp (pP sp cap st ru re i)) cap (stp st (pP sp cap st ru re i)) (uZ wa ar i) (uZ pa ar (pP sp cap st ru re i)) (uZ ka ar (pK sp cap st ru re i)) H.size  (by first | assumption | omega) (by first | assumption | omega) (by rw [hX]; omega)) gX6_countLists_X1_takeBackLast rfl (by decide +kernel) (by decide) (by first | decide | (show _ ≤ 5 + cm.toNat; omega) | (show _ ≤ 40 * (5 + cm.toNat); omega)) (by first | decide | (show _ ≤ 5 + cm.toNat; omega) | (show _ ≤ 40 * (5 + cm.toNat); omega)) (⟨Nat.le_refl _, Nat.le_refl _⟩) rfl hl.1 rfl (Nat.le_of_ble_eq_true rfl) dX6_countLists_116 (fun u_27 H locs hp116_28 hP hD hS => ?_)
                  have hP : va_P dd vwCl [kO m0 2 [.ref m1, .ref m2], kL cJ m1 1024 kya, kI cI m2 1024 vla, kO q0 1 [vI sp, .ref q1, .ref q2, .ref q3, .ref q4, .ref q5, vI ru, vI re, vI ((ar + 1) - 1), vI ((fi + flp (pP sp cap st ru re i)) - flp ((uZ pa ar (pP sp cap st ru re i)) ((ar + 1) - 1)))], kI cI q1 8 cap, kI cI q2 8 (if 0 ≤ ((uZ pa ar (pP sp cap st ru re i)) ((ar + 1) - 1)) then uZ (stp st (pP sp cap st ru re i)) ((uZ pa ar (pP sp cap st ru re i)) ((ar + 1) - 1)) ((stp st (pP sp cap st ru re i)) ((uZ pa ar (pP sp cap st ru re i)) ((ar + 1) - 1)) - 1) else (stp st (pP sp cap st ru re i))), kI cI q3 9 (uZ wa ar i), kI cI q4 9 (uZ pa ar (pP sp cap st ru re i)), kI cI q5 9 (uZ ka ar (pK sp cap st ru re i))] H := hP
                  have hD : va_D A [kO m0 2 [.ref m1, .ref m2], kL cJ m1 1024 kya, kI cI m2 1024 vla, kO q0 1 [vI sp, .ref q1, .ref q2, .ref q3, .ref q4, .ref q5, vI ru, vI re, vI ((ar + 1) - 1), vI ((fi + flp (pP sp cap st ru re i)) - flp ((uZ pa ar (pP sp cap st ru re i)) ((ar + 1) - 1)))], kI cI q1 8 cap, kI cI q2 8 (if 0 ≤ ((uZ pa ar (pP sp cap st ru re i)) ((ar + 1) - 1)) then uZ (stp st (pP sp cap st ru re i)) ((uZ pa ar (pP sp cap st ru re i)) ((ar + 1) - 1)) ((stp st (pP sp cap st ru re i)) ((uZ pa ar (pP sp cap st ru re i)) ((ar + 1) - 1)) - 1) else (stp st (pP sp cap st ru re i))), kI cI q3 9 (uZ wa ar i), kI cI q4 9 (uZ pa ar (pP sp cap st ru re i)), kI cI q5 9 (uZ ka ar (pK sp cap st ru re i))] := hD
                  refine z_iinc (a := i) (z := (i + 1)) (lv' := [(9, vI (i + 1)), (11, vI (r - shr me (pP sp cap st ru re i) i)), (10, vI 0), (8, vI b), (0, .ref q0), (1, .ref m0), (2, vI cm), (3, vI me), (4, vI r), (5, vL (ckey sp st cm r))]) hx hb dX6_countLists_119 hl (k := 3) rfl rfl (by decide) rfl (fun ls hl => ?_)
                  refine lv_goto (tgt := 58) hx hb dX6_countLists_122 (by decide) ?_
                  have el_29 : vI ((ar + 1) - 1) = vI ar := congrArg _ (by omega)
                  rw [el_29] at hP hD
                  have el_30 : vI ((fi + flp (pP sp cap st ru re i)) - flp ((uZ pa ar (pP sp cap st ru re i)) ((ar + 1) - 1))) = vI fi := congrArg _ (by rw [hX]; omega)
                  rw [el_30] at hP hD
                  have el_31 : kI cI q2 8 (if 0 ≤ ((uZ pa ar (pP sp cap st ru re i)) ((ar + 1) - 1)) then uZ (stp st (pP sp cap st ru re i)) ((uZ pa ar (pP sp cap st ru re i)) ((ar + 1) - 1)) ((stp st (pP sp cap st ru re i)) ((uZ pa ar (pP sp cap st ru re i)) ((ar + 1) - 1)) - 1) else (stp st (pP sp cap st ru re i))) = kI cI q2 8 st := kI_congr (by rw [hX, stp_back])
                  rw [el_31] at hP hD
                  exact L58i _ (by omega) (i + 1) b (uZ wa ar i) (uZ pa ar (pP sp cap st ru re i)) (uZ ka ar (pK sp cap st ru re i)) kya vla H locs ls rfl (by omega) (by rw [sumZ_s (by omega), show cT sp cap ru re me (cm - 1).toNat st r i = 0 from if_neg (fun q => absurd q.1 (by omega)), hbb, Int.add_zero]) (fun j h0 h1 => by rw [uZ_ne (by omega), uZ_ne (by omega), uZ_ne (by omega)]; exact hjk j h0 h1) (hmk) (hP.sub [3, 4, 5, 6, 7, 8, 0, 1, 2] rfl) (hD.sub [3, 4, 5, 6, 7, 8, 0, 1, 2] (by decide) rfl) hS (lv_sub hl [3, 0, 4, 5, 6, 7, 8, 9] rfl)
                · skip
                  refine lv_iload hx hb dX6_countLists_94 (lv_at hl 0 rfl) ?_
                  refine z_if_lt (tgt := 115) hx hb dX6_countLists_96 (by decide) (by omega) (fun c96 => ?_) (fun c96 => ?_)
                  · skip
                    have hX : (uZ pa ar (pP sp cap st ru re i)) (ar + 1 - 1) = (pP sp cap st ru re i) := by
                      rw [show ar + 1 - 1 = ar by omega]
                      first | exact uZ_same _ _ _ | exact (hq109 ar (by omega) (by omega)).2.1.trans (uZ_same _ _ _)
                    refine lv_aload_n hx hb dX6_countLists_115 rfl (lv_at hl 4 rfl) ?_
                    refine g_callVv (own := RX6) (n := 0) (mc := 0) (ms := 0) (As := []) (rest := []) (wc := [kO q0 1 [vI sp, .ref q1, .ref q2, .ref q3, .ref q4, .ref q5, vI ru, vI re, vI (ar + 1), vI (fi + flp (pP sp cap st ru re i))], kI cI q1 8 cap, kI cI q2 8 (stp st (pP sp cap st ru re i)), kI cI q3 9 (uZ wa ar i), kI cI q4 9 (uZ pa ar (pP sp cap st ru re i)), kI cI q5 9 (uZ ka ar (pK sp cap st ru re i))]) (wr := [kO m0 2 [.ref m1, .ref m2], kL cJ m1 1024 kya, kI cI m2 1024 vla]) hx hb hml hown hts hK hP hD hS hA [3, 4, 5, 6, 7, 8] [0, 1, 2] rfl rfl (by decide) (by decide) 1 0 rfl rfl (c_X1_takeBackLast l dd cI cJ cC cS q0 q1 q2 q3 q4 q5 sp ru re (ar + 1) (fi + flp (pP sp cap st ru re i)) cap (stp st (pP sp cap st ru re i)) (uZ wa ar i) (uZ pa ar (pP sp cap st ru re i)) (uZ ka ar (pK sp cap st ru re i)) H.size  (by first | assumption | omega) (by first | assumption | omega) (by rw [hX]; omega)) gX6_countLists_X1_takeBackLast rfl (by decide +kernel) (by decide) (by first | decide | (show _ ≤ 5 + cm.toNat; omega) | (show _ ≤ 40 * (5 + cm.toNat); omega)) (by first | decide | (show _ ≤ 5 + cm.toNat; omega) | (show _ ≤ 40 * (5 + cm.toNat); omega)) (⟨Nat.le_refl _, Nat.le_refl _⟩) rfl hl.1 rfl (Nat.le_of_ble_eq_true rfl) dX6_countLists_116 (fun u_32 H locs hp116_33 hP hD hS => ?_)
                    have hP : va_P dd vwCl [kO m0 2 [.ref m1, .ref m2], kL cJ m1 1024 kya, kI cI m2 1024 vla, kO q0 1 [vI sp, .ref q1, .ref q2, .ref q3, .ref q4, .ref q5, vI ru, vI re, vI ((ar + 1) - 1), vI ((fi + flp (pP sp cap st ru re i)) - flp ((uZ pa ar (pP sp cap st ru re i)) ((ar + 1) - 1)))], kI cI q1 8 cap, kI cI q2 8 (if 0 ≤ ((uZ pa ar (pP sp cap st ru re i)) ((ar + 1) - 1)) then uZ (stp st (pP sp cap st ru re i)) ((uZ pa ar (pP sp cap st ru re i)) ((ar + 1) - 1)) ((stp st (pP sp cap st ru re i)) ((uZ pa ar (pP sp cap st ru re i)) ((ar + 1) - 1)) - 1) else (stp st (pP sp cap st ru re i))), kI cI q3 9 (uZ wa ar i), kI cI q4 9 (uZ pa ar (pP sp cap st ru re i)), kI cI q5 9 (uZ ka ar (pK sp cap st ru re i))] H := hP
                    have hD : va_D A [kO m0 2 [.ref m1, .ref m2], kL cJ m1 1024 kya, kI cI m2 1024 vla, kO q0 1 [vI sp, .ref q1, .ref q2, .ref q3, .ref q4, .ref q5, vI ru, vI re, vI ((ar + 1) - 1), vI ((fi + flp (pP sp cap st ru re i)) - flp ((uZ pa ar (pP sp cap st ru re i)) ((ar + 1) - 1)))], kI cI q1 8 cap, kI cI q2 8 (if 0 ≤ ((uZ pa ar (pP sp cap st ru re i)) ((ar + 1) - 1)) then uZ (stp st (pP sp cap st ru re i)) ((uZ pa ar (pP sp cap st ru re i)) ((ar + 1) - 1)) ((stp st (pP sp cap st ru re i)) ((uZ pa ar (pP sp cap st ru re i)) ((ar + 1) - 1)) - 1) else (stp st (pP sp cap st ru re i))), kI cI q3 9 (uZ wa ar i), kI cI q4 9 (uZ pa ar (pP sp cap st ru re i)), kI cI q5 9 (uZ ka ar (pK sp cap st ru re i))] := hD
                    refine z_iinc (a := i) (z := (i + 1)) (lv' := [(9, vI (i + 1)), (11, vI (r - shr me (pP sp cap st ru re i) i)), (10, vI 0), (8, vI b), (0, .ref q0), (1, .ref m0), (2, vI cm), (3, vI me), (4, vI r), (5, vL (ckey sp st cm r))]) hx hb dX6_countLists_119 hl (k := 3) rfl rfl (by decide) rfl (fun ls hl => ?_)
                    refine lv_goto (tgt := 58) hx hb dX6_countLists_122 (by decide) ?_
                    have el_34 : vI ((ar + 1) - 1) = vI ar := congrArg _ (by omega)
                    rw [el_34] at hP hD
                    have el_35 : vI ((fi + flp (pP sp cap st ru re i)) - flp ((uZ pa ar (pP sp cap st ru re i)) ((ar + 1) - 1))) = vI fi := congrArg _ (by rw [hX]; omega)
                    rw [el_35] at hP hD
                    have el_36 : kI cI q2 8 (if 0 ≤ ((uZ pa ar (pP sp cap st ru re i)) ((ar + 1) - 1)) then uZ (stp st (pP sp cap st ru re i)) ((uZ pa ar (pP sp cap st ru re i)) ((ar + 1) - 1)) ((stp st (pP sp cap st ru re i)) ((uZ pa ar (pP sp cap st ru re i)) ((ar + 1) - 1)) - 1) else (stp st (pP sp cap st ru re i))) = kI cI q2 8 st := kI_congr (by rw [hX, stp_back])
                    rw [el_36] at hP hD
                    exact L58i _ (by omega) (i + 1) b (uZ wa ar i) (uZ pa ar (pP sp cap st ru re i)) (uZ ka ar (pK sp cap st ru re i)) kya vla H locs ls rfl (by omega) (by rw [sumZ_s (by omega), show cT sp cap ru re me (cm - 1).toNat st r i = 0 from if_neg (fun q => absurd q.2 (by omega)), hbb, Int.add_zero]) (fun j h0 h1 => by rw [uZ_ne (by omega), uZ_ne (by omega), uZ_ne (by omega)]; exact hjk j h0 h1) (hmk) (hP.sub [3, 4, 5, 6, 7, 8, 0, 1, 2] rfl) (hD.sub [3, 4, 5, 6, 7, 8, 0, 1, 2] (by decide) rfl) hS (lv_sub hl [3, 0, 4, 5, 6, 7, 8, 9] rfl)
                  · skip
                    refine lv_iload hx hb dX6_countLists_99 (lv_at hl 2 rfl) ?_
                    refine lv_aload_n hx hb dX6_countLists_101 rfl (lv_at hl 4 rfl) ?_
                    refine lv_aload_n hx hb dX6_countLists_102 rfl (lv_at hl 5 rfl) ?_
                    refine lv_iload_n hx hb dX6_countLists_103 rfl (lv_at hl 6 rfl) ?_
                    refine z_iconst hx hb dX6_countLists_104 ?_
                    refine z_isub (z := (cm - 1)) hx hb rfl dX6_countLists_105 ?_
                    refine lv_iload_n hx hb dX6_countLists_106 rfl (lv_at hl 7 rfl) ?_
                    refine lv_iload hx hb dX6_countLists_107 (lv_at hl 0 rfl) ?_
                    refine g_callSi (own := RX6) (n := 5) (mc := 0) (ms := 0) (As := [.ref q0, .ref m0, vI (cm - 1), vI me, vI (r - shr me (pP sp cap st ru re i) i)]) (rest := [vI b]) (wc := [kO q0 1 [vI sp, .ref q1, .ref q2, .ref q3, .ref q4, .ref q5, vI ru, vI re, vI (ar + 1), vI (fi + flp (pP sp cap st ru re i))], kI cI q1 8 cap, kI cI q2 8 (stp st (pP sp cap st ru re i)), kI cI q3 9 (uZ wa ar i), kI cI q4 9 (uZ pa ar (pP sp cap st ru re i)), kI cI q5 9 (uZ ka ar (pK sp cap st ru re i)), kO m0 2 [.ref m1, .ref m2], kL cJ m1 1024 kya, kI cI m2 1024 vla]) (wr := []) hx hb hml hown hts hK hP hD hS hA [3, 4, 5, 6, 7, 8, 0, 1, 2] [] rfl rfl (by decide) (by decide) (IH (cm - 1).toNat (by omega) q0 q1 q2 q3 q4 q5 m0 m1 m2 sp ru re (ar + 1) (fi + flp (pP sp cap st ru re i)) cap (stp st (pP sp cap st ru re i)) (uZ wa ar i) (uZ pa ar (pP sp cap st ru re i)) (uZ ka ar (pK sp cap st ru re i)) kya vla (cm - 1) me (r - shr me (pP sp cap st ru re i) i) H.size rfl (by first | assumption | omega) (by first | assumption | (intro j h0 h1; omega)) (by first | assumption | (intro j h0 h1; omega)) (by first | assumption | omega) (by first | assumption | omega) (by first | assumption | omega) (by first | assumption | omega) (by first | assumption | omega) (by first | assumption | omega) (by first | assumption | omega)) gX6_countLists_X6_countLists rfl (by decide +kernel) (by decide) (by first | decide | (show _ ≤ 5 + cm.toNat; omega) | (show _ ≤ 40 * (5 + cm.toNat); omega)) (by first | decide | (show _ ≤ 5 + cm.toNat; omega) | (show _ ≤ 40 * (5 + cm.toNat); omega)) (⟨Nat.le_refl _, Nat.le_refl _⟩) rfl hl.1 rfl (Nat.le_of_ble_eq_true rfl) dX6_countLists_109 (fun z_37 u_38 H locs hp109_39 hP hD hS => ?_)
                    obtain ⟨wi1_40, pl1_41, lk1_42, ky1_43, vl1_44⟩ := u_38
                    try dsimp only at hp109_39
                    obtain ⟨z_37e, hp109_39⟩ := hp109_39
                    subst z_37
                    obtain ⟨hq109, hqm109⟩ := hp109_39
                    have hP : va_P dd vwCl [kO q0 1 [vI sp, .ref q1, .ref q2, .ref q3, .ref q4, .ref q5, vI ru, vI re, vI (ar + 1), vI (fi + flp (pP sp cap st ru re i))], kI cI q1 8 cap, kI cI q2 8 (stp st (pP sp cap st ru re i)), kI cI q3 9 wi1_40, kI cI q4 9 pl1_41, kI cI q5 9 lk1_42, kO m0 2 [.ref m1, .ref m2], kL cJ m1 1024 ky1_43, kI cI m2 1024 vl1_44] H := hP
                    have hD : va_D A [kO q0 1 [vI sp, .ref q1, .ref q2, .ref q3, .ref q4, .ref q5, vI ru, vI re, vI (ar + 1), vI (fi + flp (pP sp cap st ru re i))], kI cI q1 8 cap, kI cI q2 8 (stp st (pP sp cap st ru re i)), kI cI q3 9 wi1_40, kI cI q4 9 pl1_41, kI cI q5 9 lk1_42, kO m0 2 [.ref m1, .ref m2], kL cJ m1 1024 ky1_43, kI cI m2 1024 vl1_44] := hD
                    refine z_iadd (z := (b + cL sp cap ru re me (cm - 1).toNat (stp st (pP sp cap st ru re i)) (r - shr me (pP sp cap st ru re i) i))) hx hb rfl dX6_countLists_112 ?_
                    refine lv_istore (lv' := [(8, vI (b + cL sp cap ru re me (cm - 1).toNat (stp st (pP sp cap st ru re i)) (r - shr me (pP sp cap st ru re i) i))), (11, vI (r - shr me (pP sp cap st ru re i) i)), (10, vI 0), (9, vI i), (0, .ref q0), (1, .ref m0), (2, vI cm), (3, vI me), (4, vI r), (5, vL (ckey sp st cm r))]) hx hb dX6_countLists_113 hl (by decide) rfl (fun ls hl => ?_)
                    have hX : pl1_41 (ar + 1 - 1) = (pP sp cap st ru re i) := by
                      rw [show ar + 1 - 1 = ar by omega]
                      first | exact uZ_same _ _ _ | exact (hq109 ar (by omega) (by omega)).2.1.trans (uZ_same _ _ _)
                    refine lv_aload_n hx hb dX6_countLists_115 rfl (lv_at hl 4 rfl) ?_
                    refine g_callVv (own := RX6) (n := 0) (mc := 0) (ms := 0) (As := []) (rest := []) (wc := [kO q0 1 [vI sp, .ref q1, .ref q2, .ref q3, .ref q4, .ref q5, vI ru, vI re, vI (ar + 1), vI (fi + flp (pP sp cap st ru re i))], kI cI q1 8 cap, kI cI q2 8 (stp st (pP sp cap st ru re i)), kI cI q3 9 wi1_40, kI cI q4 9 pl1_41, kI cI q5 9 lk1_42]) (wr := [kO m0 2 [.ref m1, .ref m2], kL cJ m1 1024 ky1_43, kI cI m2 1024 vl1_44]) hx hb hml hown hts hK hP hD hS hA [0, 1, 2, 3, 4, 5] [6, 7, 8] rfl rfl (by decide) (by decide) 1 0 rfl rfl (c_X1_takeBackLast l dd cI cJ cC cS q0 q1 q2 q3 q4 q5 sp ru re (ar + 1) (fi + flp (pP sp cap st ru re i)) cap (stp st (pP sp cap st ru re i)) wi1_40 pl1_41 lk1_42 H.size  (by first | assumption | omega) (by first | assumption | omega) (by rw [hX]; omega)) gX6_countLists_X1_takeBackLast rfl (by decide +kernel) (by decide) (by first | decide | (show _ ≤ 5 + cm.toNat; omega) | (show _ ≤ 40 * (5 + cm.toNat); omega)) (by first | decide | (show _ ≤ 5 + cm.toNat; omega) | (show _ ≤ 40 * (5 + cm.toNat); omega)) (⟨Nat.le_refl _, Nat.le_refl _⟩) rfl hl.1 rfl (Nat.le_of_ble_eq_true rfl) dX6_countLists_116 (fun u_45 H locs hp116_46 hP hD hS => ?_)
                    have hP : va_P dd vwCl [kO m0 2 [.ref m1, .ref m2], kL cJ m1 1024 ky1_43, kI cI m2 1024 vl1_44, kO q0 1 [vI sp, .ref q1, .ref q2, .ref q3, .ref q4, .ref q5, vI ru, vI re, vI ((ar + 1) - 1), vI ((fi + flp (pP sp cap st ru re i)) - flp (pl1_41 ((ar + 1) - 1)))], kI cI q1 8 cap, kI cI q2 8 (if 0 ≤ (pl1_41 ((ar + 1) - 1)) then uZ (stp st (pP sp cap st ru re i)) (pl1_41 ((ar + 1) - 1)) ((stp st (pP sp cap st ru re i)) (pl1_41 ((ar + 1) - 1)) - 1) else (stp st (pP sp cap st ru re i))), kI cI q3 9 wi1_40, kI cI q4 9 pl1_41, kI cI q5 9 lk1_42] H := hP
                    have hD : va_D A [kO m0 2 [.ref m1, .ref m2], kL cJ m1 1024 ky1_43, kI cI m2 1024 vl1_44, kO q0 1 [vI sp, .ref q1, .ref q2, .ref q3, .ref q4, .ref q5, vI ru, vI re, vI ((ar + 1) - 1), vI ((fi + flp (pP sp cap st ru re i)) - flp (pl1_41 ((ar + 1) - 1)))], kI cI q1 8 cap, kI cI q2 8 (if 0 ≤ (pl1_41 ((ar + 1) - 1)) then uZ (stp st (pP sp cap st ru re i)) (pl1_41 ((ar + 1) - 1)) ((stp st (pP sp cap st ru re i)) (pl1_41 ((ar + 1) - 1)) - 1) else (stp st (pP sp cap st ru re i))), kI cI q3 9 wi1_40, kI cI q4 9 pl1_41, kI cI q5 9 lk1_42] := hD
                    refine z_iinc (a := i) (z := (i + 1)) (lv' := [(9, vI (i + 1)), (8, vI (b + cL sp cap ru re me (cm - 1).toNat (stp st (pP sp cap st ru re i)) (r - shr me (pP sp cap st ru re i) i))), (11, vI (r - shr me (pP sp cap st ru re i) i)), (10, vI 0), (0, .ref q0), (1, .ref m0), (2, vI cm), (3, vI me), (4, vI r), (5, vL (ckey sp st cm r))]) hx hb dX6_countLists_119 hl (k := 3) rfl rfl (by decide) rfl (fun ls hl => ?_)
                    refine lv_goto (tgt := 58) hx hb dX6_countLists_122 (by decide) ?_
                    have el_47 : vI ((ar + 1) - 1) = vI ar := congrArg _ (by omega)
                    rw [el_47] at hP hD
                    have el_48 : vI ((fi + flp (pP sp cap st ru re i)) - flp (pl1_41 ((ar + 1) - 1))) = vI fi := congrArg _ (by rw [hX]; omega)
                    rw [el_48] at hP hD
                    have el_49 : kI cI q2 8 (if 0 ≤ (pl1_41 ((ar + 1) - 1)) then uZ (stp st (pP sp cap st ru re i)) (pl1_41 ((ar + 1) - 1)) ((stp st (pP sp cap st ru re i)) (pl1_41 ((ar + 1) - 1)) - 1) else (stp st (pP sp cap st ru re i))) = kI cI q2 8 st := kI_congr (by rw [hX, stp_back])
                    rw [el_49] at hP hD
                    exact L58i _ (by omega) (i + 1) (b + cL sp cap ru re me (cm - 1).toNat (stp st (pP sp cap st ru re i)) (r - shr me (pP sp cap st ru re i) i)) wi1_40 pl1_41 lk1_42 ky1_43 vl1_44 H locs ls rfl (by omega) (by rw [sumZ_s (by omega), show cT sp cap ru re me (cm - 1).toNat st r i = _ from if_pos ⟨by omega, by omega⟩, hbb]) (fun j h0 h1 => by
                      have a1 := hq109 j h0 (by omega)
                      have a2 := hjk j h0 h1
                      rw [uZ_ne (by omega), uZ_ne (by omega), uZ_ne (by omega)] at a1
                      exact ⟨a1.1.trans a2.1, a1.2.1.trans a2.2.1, a1.2.2.trans a2.2.2⟩) (hqm109) (hP.sub [3, 4, 5, 6, 7, 8, 0, 1, 2] rfl) (hD.sub [3, 4, 5, 6, 7, 8, 0, 1, 2] (by decide) rfl) hS (lv_sub hl [1, 0, 4, 5, 6, 7, 8, 9] rfl)
        exact L58 _ 0 0 wi pl lk ky vl H locs ls rfl (by omega) (rfl) (fun j _ _ => ⟨rfl, rfl, rfl⟩) (hmo) hP hD hS (lv_sub hl [1, 0, 4, 5, 6, 7, 8, 3] rfl)
      · skip
        refine lv_iload hx hb dX6_countLists_49 (lv_at hl 0 rfl) ?_
        subst hQ
        refine z_iret (z := cL sp cap ru re me cm.toNat st r) hx hb hr hlocks dX6_countLists_51 (wi, pl, lk, ky, vl) hK hS ⟨by omega, by omega⟩ hP hD ?_
        exact ⟨rfl, fun j _ _ => ⟨rfl, rfl, rfl⟩, hmo⟩
    · skip
      refine z_bin (va := .null) (vb := .null) (y := zI (-1)) (congrArg zI (if_neg hh)) ?_
      refine lv_istore (lv' := [(7, vI (-1)), (5, vL (ckey sp st cm r)), (0, .ref q0), (1, .ref m0), (2, vI cm), (3, vI me), (4, vI r)]) hx hb dX6_countLists_41 hl (by decide) rfl (fun ls hl => ?_)
      refine lv_iload hx hb dX6_countLists_43 (lv_at hl 0 rfl) ?_
      refine z_iconst hx hb dX6_countLists_45 ?_
      refine z_icmp_eq (tgt := 52) hx hb dX6_countLists_46 (by decide) (by omega) (fun c46 => ?_) (fun c46 => ?_)
      · skip
        refine z_iconst hx hb dX6_countLists_52 ?_
        refine lv_istore (lv' := [(8, vI 0), (7, vI (-1)), (5, vL (ckey sp st cm r)), (0, .ref q0), (1, .ref m0), (2, vI cm), (3, vI me), (4, vI r)]) hx hb dX6_countLists_53 hl (by decide) rfl (fun ls hl => ?_)
        refine z_iconst hx hb dX6_countLists_55 ?_
        refine lv_istore (lv' := [(9, vI 0), (8, vI 0), (7, vI (-1)), (5, vL (ckey sp st cm r)), (0, .ref q0), (1, .ref m0), (2, vI cm), (3, vI me), (4, vI r)]) hx hb dX6_countLists_56 hl (by decide) rfl (fun ls hl => ?_)
        have L58 : ∀ (nn : Nat) (i : Int) (b : Int) (wa : Int → Int) (pa : Int → Int) (ka : Int → Int) (kya : Int → Int) (vla : Int → Int) (H : Heap) (locs : List Loc) (ls : Array Slot), ((sp + 1 - i).toNat) = nn → (0 ≤ i ∧ i ≤ sp) → (b = sumZ (fun s => cT sp cap ru re me (cm - 1).toNat st r s) i.toNat) → (∀ j : Int, 0 ≤ j → j < ar → wa j = wi j ∧ pa j = pl j ∧ ka j = lk j) → (mOK sp cap ru re me kya vla) → va_P dd vwCl [kO q0 1 [vI sp, .ref q1, .ref q2, .ref q3, .ref q4, .ref q5, vI ru, vI re, vI ar, vI fi], kI cI q1 8 cap, kI cI q2 8 st, kI cI q3 9 wa, kI cI q4 9 pa, kI cI q5 9 ka, kO m0 2 [.ref m1, .ref m2], kL cJ m1 1024 kya, kI cI m2 1024 vla] H → va_D A [kO q0 1 [vI sp, .ref q1, .ref q2, .ref q3, .ref q4, .ref q5, vI ru, vI re, vI ar, vI fi], kI cI q1 8 cap, kI cI q2 8 st, kI cI q3 9 wa, kI cI q4 9 pa, kI cI q5 9 ka, kO m0 2 [.ref m1, .ref m2], kL cJ m1 1024 kya, kI cI m2 1024 vla] → va_S A s.heap H locs → lv_has ls 12 [(8, vI b), (9, vI i), (0, .ref q0), (1, .ref m0), (2, vI cm), (3, vI me), (4, vI r), (5, vL (ckey sp st cm r))] → W p l e (gR (5 + cm.toNat) 0 0) s m args below meth c H locs 0 0 Q (F0 m 58 ls []) := by
          intro nn
          induction nn using Nat.strongRecOn with
          | ind nn L58i =>
          intro i b wa pa ka kya vla H locs ls hmeas hi hbb hjk hmk hP hD hS hl
          refine lv_iload hx hb dX6_countLists_58 (lv_at hl 1 rfl) ?_
          refine lv_aload_n hx hb dX6_countLists_60 rfl (lv_at hl 2 rfl) ?_
          refine va_get (D := dd) (ci := 1) (v := vI sp) (C := RX1) (T := TX1) (N := 10) hx hb hts hi1 hown hK hP 0 rfl rfl 0 (by decide) (hts _ (List.mem_cons_of_mem _ (List.mem_append_left _ (List.mem_append_left _ (List.mem_append_left _ (List.mem_of_getElem? (i := 1) rfl)))))) (fun _ h9 => h9) rfl dX6_countLists_61 ?_
          refine z_icmp_ge (tgt := 125) hx hb dX6_countLists_64 (by decide) (by omega) (fun c64 => ?_) (fun c64 => ?_)
          · skip
            refine lv_aload_n hx hb dX6_countLists_125 rfl (lv_at hl 3 rfl) ?_
            refine lv_lload hx hb dX6_countLists_126 (lv_at hl 7 rfl) ?_
            refine lv_iload hx hb dX6_countLists_128 (lv_at hl 0 rfl) ?_
            refine g_callVv (own := RX6) (n := 2) (mc := 0) (ms := 0) (As := [vL (ckey sp st cm r), vI b]) (rest := []) (wc := [kO m0 2 [.ref m1, .ref m2], kL cJ m1 1024 kya, kI cI m2 1024 vla]) (wr := [kO q0 1 [vI sp, .ref q1, .ref q2, .ref q3, .ref q4, .ref q5, vI ru, vI re, vI ar, vI fi], kI cI q1 8 cap, kI cI q2 8 st, kI cI q3 9 wa, kI cI q4 9 pa, kI cI q5 9 ka]) hx hb hml hown hts hK hP hD hS hA [6, 7, 8] [0, 1, 2, 3, 4, 5] rfl rfl (by decide) (by decide) 2 0 rfl rfl (c_X2_put l dd cI cJ cC cS m0 m1 m2 kya vla (ckey sp st cm r) b H.size) gX6_countLists_X2_put rfl (by decide +kernel) (by decide) (by first | decide | (show _ ≤ 5 + cm.toNat; omega) | (show _ ≤ 40 * (5 + cm.toNat); omega)) (by first | decide | (show _ ≤ 5 + cm.toNat; omega) | (show _ ≤ 40 * (5 + cm.toNat); omega)) (⟨Nat.le_refl _, Nat.le_refl _⟩) rfl hl.1 rfl (Nat.le_of_ble_eq_true rfl) dX6_countLists_130 (fun u_50 H locs hp130_51 hP hD hS => ?_)
            have hP : va_P dd vwCl [kO q0 1 [vI sp, .ref q1, .ref q2, .ref q3, .ref q4, .ref q5, vI ru, vI re, vI ar, vI fi], kI cI q1 8 cap, kI cI q2 8 st, kI cI q3 9 wa, kI cI q4 9 pa, kI cI q5 9 ka, kO m0 2 [.ref m1, .ref m2], kL cJ m1 1024 (uZ kya (hN (ckey sp st cm r)) (ckey sp st cm r)), kI cI m2 1024 (uZ vla (hN (ckey sp st cm r)) b)] H := hP
            have hD : va_D A [kO q0 1 [vI sp, .ref q1, .ref q2, .ref q3, .ref q4, .ref q5, vI ru, vI re, vI ar, vI fi], kI cI q1 8 cap, kI cI q2 8 st, kI cI q3 9 wa, kI cI q4 9 pa, kI cI q5 9 ka, kO m0 2 [.ref m1, .ref m2], kL cJ m1 1024 (uZ kya (hN (ckey sp st cm r)) (ckey sp st cm r)), kI cI m2 1024 (uZ vla (hN (ckey sp st cm r)) b)] := hD
            refine lv_iload hx hb dX6_countLists_133 (lv_at hl 0 rfl) ?_
            subst hQ
            refine z_iret (z := b) hx hb hr hlocks dX6_countLists_135 (wa, pa, ka, (uZ kya (hN (ckey sp st cm r)) (ckey sp st cm r)), (uZ vla (hN (ckey sp st cm r)) b)) hK hS ⟨by omega, by omega⟩ hP hD ?_
            have hv := hbb
            rw [show i = sp by omega, ← cL_s (by omega)] at hv
            exact ⟨hv, hjk, mOK_put hmk hst (by omega) hrr _ hv⟩
          · skip
            refine lv_aload_n hx hb dX6_countLists_67 rfl (lv_at hl 2 rfl) ?_
            refine lv_iload hx hb dX6_countLists_68 (lv_at hl 1 rfl) ?_
            refine g_callVi (own := RX6) (n := 1) (mc := 0) (ms := 0) (As := [vI i]) (rest := []) (wc := [kO q0 1 [vI sp, .ref q1, .ref q2, .ref q3, .ref q4, .ref q5, vI ru, vI re, vI ar, vI fi], kI cI q1 8 cap, kI cI q2 8 st, kI cI q3 9 wa, kI cI q4 9 pa, kI cI q5 9 ka]) (wr := [kO m0 2 [.ref m1, .ref m2], kL cJ m1 1024 kya, kI cI m2 1024 vla]) hx hb hml hown hts hK hP hD hS hA [0, 1, 2, 3, 4, 5] [6, 7, 8] rfl rfl (by decide) (by decide) 1 0 rfl rfl (c_X1_arrive l dd cI cJ cC cS q0 q1 q2 q3 q4 q5 sp ru re ar fi cap st wa pa ka i H.size  (by first | assumption | omega) (by first | assumption | (intro j h0 h1; omega)) (by first | assumption | (intro j h0 h1; omega)) (by first | assumption | omega) (by first | assumption | omega) (by first | assumption | omega) (by first | assumption | omega)) gX6_countLists_X1_arrive rfl (by decide +kernel) (by decide) (by first | decide | (show _ ≤ 5 + cm.toNat; omega) | (show _ ≤ 40 * (5 + cm.toNat); omega)) (by first | decide | (show _ ≤ 5 + cm.toNat; omega) | (show _ ≤ 40 * (5 + cm.toNat); omega)) (⟨Nat.le_refl _, Nat.le_refl _⟩) rfl hl.1 rfl (Nat.le_of_ble_eq_true rfl) dX6_countLists_70 (fun z_52 u_53 H locs hp70_54 hP hD hS => ?_)
            subst z_52
            have hP : va_P dd vwCl [kO m0 2 [.ref m1, .ref m2], kL cJ m1 1024 kya, kI cI m2 1024 vla, kO q0 1 [vI sp, .ref q1, .ref q2, .ref q3, .ref q4, .ref q5, vI ru, vI re, vI (ar + 1), vI (fi + flp (pP sp cap st ru re i))], kI cI q1 8 cap, kI cI q2 8 (stp st (pP sp cap st ru re i)), kI cI q3 9 (uZ wa ar i), kI cI q4 9 (uZ pa ar (pP sp cap st ru re i)), kI cI q5 9 (uZ ka ar (pK sp cap st ru re i))] H := hP
            have hD : va_D A [kO m0 2 [.ref m1, .ref m2], kL cJ m1 1024 kya, kI cI m2 1024 vla, kO q0 1 [vI sp, .ref q1, .ref q2, .ref q3, .ref q4, .ref q5, vI ru, vI re, vI (ar + 1), vI (fi + flp (pP sp cap st ru re i))], kI cI q1 8 cap, kI cI q2 8 (stp st (pP sp cap st ru re i)), kI cI q3 9 (uZ wa ar i), kI cI q4 9 (uZ pa ar (pP sp cap st ru re i)), kI cI q5 9 (uZ ka ar (pK sp cap st ru re i))] := hD
            have hpp := pP_rg sp cap st ru re i
            have hsr := stp_rg (ru := ru) (re := re) (p := i) hcap hst
            have hff := fil_stp (st := st) (n := sp) (p := (pP sp cap st ru re i)) (by omega)
            by_cases hpk : 0 ≤ (pP sp cap st ru re i)
            · skip
              refine z_bin (va := .null) (vb := .null) (y := zI 1) (congrArg zI (if_pos hpk)) ?_
              refine lv_istore (lv' := [(10, vI 1), (8, vI b), (9, vI i), (0, .ref q0), (1, .ref m0), (2, vI cm), (3, vI me), (4, vI r), (5, vL (ckey sp st cm r))]) hx hb dX6_countLists_73 hl (by decide) rfl (fun ls hl => ?_)
              refine lv_iload hx hb dX6_countLists_75 (lv_at hl 7 rfl) ?_
              refine lv_aload_n hx hb dX6_countLists_77 rfl (lv_at hl 3 rfl) ?_
              refine lv_iload_n hx hb dX6_countLists_78 rfl (lv_at hl 6 rfl) ?_
              refine g_callSi (own := RX6) (n := 2) (mc := 0) (ms := 0) (As := [.ref q0, vI me]) (rest := [vI r]) (wc := [kO q0 1 [vI sp, .ref q1, .ref q2, .ref q3, .ref q4, .ref q5, vI ru, vI re, vI (ar + 1), vI (fi + flp (pP sp cap st ru re i))], kI cI q1 8 cap, kI cI q2 8 (stp st (pP sp cap st ru re i)), kI cI q3 9 (uZ wa ar i), kI cI q4 9 (uZ pa ar (pP sp cap st ru re i)), kI cI q5 9 (uZ ka ar (pK sp cap st ru re i))]) (wr := [kO m0 2 [.ref m1, .ref m2], kL cJ m1 1024 kya, kI cI m2 1024 vla]) hx hb hml hown hts hK hP hD hS hA [3, 4, 5, 6, 7, 8] [0, 1, 2] rfl rfl (by decide) (by decide) (c_X6_shareOfLastCar l dd cI cJ cC cS q0 q1 q2 q3 q4 q5 sp ru re (ar + 1) (fi + flp (pP sp cap st ru re i)) cap (stp st (pP sp cap st ru re i)) (uZ wa ar i) (uZ pa ar (pP sp cap st ru re i)) (uZ ka ar (pK sp cap st ru re i)) me H.size  (by first | assumption | omega) (by rw [show ar + 1 - 1 = ar by omega, uZ_same]; omega) (by rw [show ar + 1 - 1 = ar by omega, uZ_same]; omega) (by first | assumption | omega)) gX6_countLists_X6_shareOfLastCar rfl (by decide +kernel) (by decide) (by first | decide | (show _ ≤ 5 + cm.toNat; omega) | (show _ ≤ 40 * (5 + cm.toNat); omega)) (by first | decide | (show _ ≤ 5 + cm.toNat; omega) | (show _ ≤ 40 * (5 + cm.toNat); omega)) (⟨Nat.le_refl _, Nat.le_refl _⟩) rfl hl.1 rfl (Nat.le_of_ble_eq_true rfl) dX6_countLists_79 (fun z_55 u_56 H locs hp79_57 hP hD hS => ?_)
              subst z_55
              have hP : va_P dd vwCl [kO m0 2 [.ref m1, .ref m2], kL cJ m1 1024 kya, kI cI m2 1024 vla, kO q0 1 [vI sp, .ref q1, .ref q2, .ref q3, .ref q4, .ref q5, vI ru, vI re, vI (ar + 1), vI (fi + flp (pP sp cap st ru re i))], kI cI q1 8 cap, kI cI q2 8 (stp st (pP sp cap st ru re i)), kI cI q3 9 (uZ wa ar i), kI cI q4 9 (uZ pa ar (pP sp cap st ru re i)), kI cI q5 9 (uZ ka ar (pK sp cap st ru re i))] H := hP
              have hD : va_D A [kO m0 2 [.ref m1, .ref m2], kL cJ m1 1024 kya, kI cI m2 1024 vla, kO q0 1 [vI sp, .ref q1, .ref q2, .ref q3, .ref q4, .ref q5, vI ru, vI re, vI (ar + 1), vI (fi + flp (pP sp cap st ru re i))], kI cI q1 8 cap, kI cI q2 8 (stp st (pP sp cap st ru re i)), kI cI q3 9 (uZ wa ar i), kI cI q4 9 (uZ pa ar (pP sp cap st ru re i)), kI cI q5 9 (uZ ka ar (pK sp cap st ru re i))] := hD
              have hsh := shr_rg me (pP sp cap st ru re i) (s := i) (by omega)
              refine z_bin (va := .null) (vb := .null) (y := zI (shr me (pP sp cap st ru re i) i)) (congrArg zI (by rw [show ar + 1 - 1 = ar by omega, uZ_same, uZ_same])) ?_
              refine z_isub (z := (r - shr me (pP sp cap st ru re i) i)) hx hb rfl dX6_countLists_82 ?_
              refine lv_istore (lv' := [(11, vI (r - shr me (pP sp cap st ru re i) i)), (10, vI 1), (8, vI b), (9, vI i), (0, .ref q0), (1, .ref m0), (2, vI cm), (3, vI me), (4, vI r), (5, vL (ckey sp st cm r))]) hx hb dX6_countLists_83 hl (by decide) rfl (fun ls hl => ?_)
              refine lv_iload hx hb dX6_countLists_85 (lv_at hl 1 rfl) ?_
              refine z_if_ne (tgt := 94) hx hb dX6_countLists_87 (by decide) (by omega) (fun c87 => ?_) (fun c87 => ?_)
              · skip
                refine lv_iload hx hb dX6_countLists_94 (lv_at hl 0 rfl) ?_
                refine z_if_lt (tgt := 115) hx hb dX6_countLists_96 (by decide) (by omega) (fun c96 => ?_) (fun c96 => ?_)
                · skip
                  have hX : (uZ pa ar (pP sp cap st ru re i)) (ar + 1 - 1) = (pP sp cap st ru re i) := by
                    rw [show ar + 1 - 1 = ar by omega]
                    first | exact uZ_same _ _ _ | exact (hq109 ar (by omega) (by omega)).2.1.trans (uZ_same _ _ _)
                  refine lv_aload_n hx hb dX6_countLists_115 rfl (lv_at hl 4 rfl) ?_
                  refine g_callVv (own := RX6) (n := 0) (mc := 0) (ms := 0) (As := []) (rest := []) (wc := [kO q0 1 [vI sp, .ref q1, .ref q2, .ref q3, .ref q4, .ref q5, vI ru, vI re, vI (ar + 1), vI (fi + flp (pP sp cap st ru re i))], kI cI q1 8 cap, kI cI q2 8 (stp st (pP sp cap st ru re i)), kI cI q3 9 (uZ wa ar i), kI cI q4 9 (uZ pa ar (pP sp cap st ru re i)), kI cI q5 9 (uZ ka ar (pK sp cap st ru re i))]) (wr := [kO m0 2 [.ref m1, .ref m2], kL cJ m1 1024 kya, kI cI m2 1024 vla]) hx hb hml hown hts hK hP hD hS hA [3, 4, 5, 6, 7, 8] [0, 1, 2] rfl rfl (by decide) (by decide) 1 0 rfl rfl (c_X1_takeBackLast l dd cI cJ cC cS q0 q1 q2 q3 q4 q5 sp ru re (ar + 1) (fi + flp (pP sp cap st ru re i)) cap (stp st (pP sp cap st ru re i)) (uZ wa ar i) (uZ pa ar (pP sp cap st ru re i)) (uZ ka ar (pK sp cap st ru re i)) H.size  (by first | assumption | omega) (by first | assumption | omega) (by rw [hX]; omega)) gX6_countLists_X1_takeBackLast rfl (by decide +kernel) (by decide) (by first | decide | (show _ ≤ 5 + cm.toNat; omega) | (show _ ≤ 40 * (5 + cm.toNat); omega)) (by first | decide | (show _ ≤ 5 + cm.toNat; omega) | (show _ ≤ 40 * (5 + cm.toNat); omega)) (⟨Nat.le_refl _, Nat.le_refl _⟩) rfl hl.1 rfl (Nat.le_of_ble_eq_true rfl) dX6_countLists_116 (fun u_58 H locs hp116_59 hP hD hS => ?_)
                  have hP : va_P dd vwCl [kO m0 2 [.ref m1, .ref m2], kL cJ m1 1024 kya, kI cI m2 1024 vla, kO q0 1 [vI sp, .ref q1, .ref q2, .ref q3, .ref q4, .ref q5, vI ru, vI re, vI ((ar + 1) - 1), vI ((fi + flp (pP sp cap st ru re i)) - flp ((uZ pa ar (pP sp cap st ru re i)) ((ar + 1) - 1)))], kI cI q1 8 cap, kI cI q2 8 (if 0 ≤ ((uZ pa ar (pP sp cap st ru re i)) ((ar + 1) - 1)) then uZ (stp st (pP sp cap st ru re i)) ((uZ pa ar (pP sp cap st ru re i)) ((ar + 1) - 1)) ((stp st (pP sp cap st ru re i)) ((uZ pa ar (pP sp cap st ru re i)) ((ar + 1) - 1)) - 1) else (stp st (pP sp cap st ru re i))), kI cI q3 9 (uZ wa ar i), kI cI q4 9 (uZ pa ar (pP sp cap st ru re i)), kI cI q5 9 (uZ ka ar (pK sp cap st ru re i))] H := hP
                  have hD : va_D A [kO m0 2 [.ref m1, .ref m2], kL cJ m1 1024 kya, kI cI m2 1024 vla, kO q0 1 [vI sp, .ref q1, .ref q2, .ref q3, .ref q4, .ref q5, vI ru, vI re, vI ((ar + 1) - 1), vI ((fi + flp (pP sp cap st ru re i)) - flp ((uZ pa ar (pP sp cap st ru re i)) ((ar + 1) - 1)))], kI cI q1 8 cap, kI cI q2 8 (if 0 ≤ ((uZ pa ar (pP sp cap st ru re i)) ((ar + 1) - 1)) then uZ (stp st (pP sp cap st ru re i)) ((uZ pa ar (pP sp cap st ru re i)) ((ar + 1) - 1)) ((stp st (pP sp cap st ru re i)) ((uZ pa ar (pP sp cap st ru re i)) ((ar + 1) - 1)) - 1) else (stp st (pP sp cap st ru re i))), kI cI q3 9 (uZ wa ar i), kI cI q4 9 (uZ pa ar (pP sp cap st ru re i)), kI cI q5 9 (uZ ka ar (pK sp cap st ru re i))] := hD
                  refine z_iinc (a := i) (z := (i + 1)) (lv' := [(9, vI (i + 1)), (11, vI (r - shr me (pP sp cap st ru re i) i)), (10, vI 1), (8, vI b), (0, .ref q0), (1, .ref m0), (2, vI cm), (3, vI me), (4, vI r), (5, vL (ckey sp st cm r))]) hx hb dX6_countLists_119 hl (k := 3) rfl rfl (by decide) rfl (fun ls hl => ?_)
                  refine lv_goto (tgt := 58) hx hb dX6_countLists_122 (by decide) ?_
                  have el_60 : vI ((ar + 1) - 1) = vI ar := congrArg _ (by omega)
                  rw [el_60] at hP hD
                  have el_61 : vI ((fi + flp (pP sp cap st ru re i)) - flp ((uZ pa ar (pP sp cap st ru re i)) ((ar + 1) - 1))) = vI fi := congrArg _ (by rw [hX]; omega)
                  rw [el_61] at hP hD
                  have el_62 : kI cI q2 8 (if 0 ≤ ((uZ pa ar (pP sp cap st ru re i)) ((ar + 1) - 1)) then uZ (stp st (pP sp cap st ru re i)) ((uZ pa ar (pP sp cap st ru re i)) ((ar + 1) - 1)) ((stp st (pP sp cap st ru re i)) ((uZ pa ar (pP sp cap st ru re i)) ((ar + 1) - 1)) - 1) else (stp st (pP sp cap st ru re i))) = kI cI q2 8 st := kI_congr (by rw [hX, stp_back])
                  rw [el_62] at hP hD
                  exact L58i _ (by omega) (i + 1) b (uZ wa ar i) (uZ pa ar (pP sp cap st ru re i)) (uZ ka ar (pK sp cap st ru re i)) kya vla H locs ls rfl (by omega) (by rw [sumZ_s (by omega), show cT sp cap ru re me (cm - 1).toNat st r i = 0 from if_neg (fun q => absurd q.2 (by omega)), hbb, Int.add_zero]) (fun j h0 h1 => by rw [uZ_ne (by omega), uZ_ne (by omega), uZ_ne (by omega)]; exact hjk j h0 h1) (hmk) (hP.sub [3, 4, 5, 6, 7, 8, 0, 1, 2] rfl) (hD.sub [3, 4, 5, 6, 7, 8, 0, 1, 2] (by decide) rfl) hS (lv_sub hl [3, 0, 4, 5, 6, 7, 8, 9] rfl)
                · skip
                  refine lv_iload hx hb dX6_countLists_99 (lv_at hl 2 rfl) ?_
                  refine lv_aload_n hx hb dX6_countLists_101 rfl (lv_at hl 4 rfl) ?_
                  refine lv_aload_n hx hb dX6_countLists_102 rfl (lv_at hl 5 rfl) ?_
                  refine lv_iload_n hx hb dX6_countLists_103 rfl (lv_at hl 6 rfl) ?_
                  refine z_iconst hx hb dX6_countLists_104 ?_
                  refine z_isub (z := (cm - 1)) hx hb rfl dX6_countLists_105 ?_
                  refine lv_iload_n hx hb dX6_countLists_106 rfl (lv_at hl 7 rfl) ?_
                  refine lv_iload hx hb dX6_countLists_107 (lv_at hl 0 rfl) ?_
                  refine g_callSi (own := RX6) (n := 5) (mc := 0) (ms := 0) (As := [.ref q0, .ref m0, vI (cm - 1), vI me, vI (r - shr me (pP sp cap st ru re i) i)]) (rest := [vI b]) (wc := [kO q0 1 [vI sp, .ref q1, .ref q2, .ref q3, .ref q4, .ref q5, vI ru, vI re, vI (ar + 1), vI (fi + flp (pP sp cap st ru re i))], kI cI q1 8 cap, kI cI q2 8 (stp st (pP sp cap st ru re i)), kI cI q3 9 (uZ wa ar i), kI cI q4 9 (uZ pa ar (pP sp cap st ru re i)), kI cI q5 9 (uZ ka ar (pK sp cap st ru re i)), kO m0 2 [.ref m1, .ref m2], kL cJ m1 1024 kya, kI cI m2 1024 vla]) (wr := []) hx hb hml hown hts hK hP hD hS hA [3, 4, 5, 6, 7, 8, 0, 1, 2] [] rfl rfl (by decide) (by decide) (IH (cm - 1).toNat (by omega) q0 q1 q2 q3 q4 q5 m0 m1 m2 sp ru re (ar + 1) (fi + flp (pP sp cap st ru re i)) cap (stp st (pP sp cap st ru re i)) (uZ wa ar i) (uZ pa ar (pP sp cap st ru re i)) (uZ ka ar (pK sp cap st ru re i)) kya vla (cm - 1) me (r - shr me (pP sp cap st ru re i) i) H.size rfl (by first | assumption | omega) (by first | assumption | (intro j h0 h1; omega)) (by first | assumption | (intro j h0 h1; omega)) (by first | assumption | omega) (by first | assumption | omega) (by first | assumption | omega) (by first | assumption | omega) (by first | assumption | omega) (by first | assumption | omega) (by first | assumption | omega)) gX6_countLists_X6_countLists rfl (by decide +kernel) (by decide) (by first | decide | (show _ ≤ 5 + cm.toNat; omega) | (show _ ≤ 40 * (5 + cm.toNat); omega)) (by first | decide | (show _ ≤ 5 + cm.toNat; omega) | (show _ ≤ 40 * (5 + cm.toNat); omega)) (⟨Nat.le_refl _, Nat.le_refl _⟩) rfl hl.1 rfl (Nat.le_of_ble_eq_true rfl) dX6_countLists_109 (fun z_63 u_64 H locs hp109_65 hP hD hS => ?_)
                  obtain ⟨wi1_66, pl1_67, lk1_68, ky1_69, vl1_70⟩ := u_64
                  try dsimp only at hp109_65
                  obtain ⟨z_63e, hp109_65⟩ := hp109_65
                  subst z_63
                  obtain ⟨hq109, hqm109⟩ := hp109_65
                  have hP : va_P dd vwCl [kO q0 1 [vI sp, .ref q1, .ref q2, .ref q3, .ref q4, .ref q5, vI ru, vI re, vI (ar + 1), vI (fi + flp (pP sp cap st ru re i))], kI cI q1 8 cap, kI cI q2 8 (stp st (pP sp cap st ru re i)), kI cI q3 9 wi1_66, kI cI q4 9 pl1_67, kI cI q5 9 lk1_68, kO m0 2 [.ref m1, .ref m2], kL cJ m1 1024 ky1_69, kI cI m2 1024 vl1_70] H := hP
                  have hD : va_D A [kO q0 1 [vI sp, .ref q1, .ref q2, .ref q3, .ref q4, .ref q5, vI ru, vI re, vI (ar + 1), vI (fi + flp (pP sp cap st ru re i))], kI cI q1 8 cap, kI cI q2 8 (stp st (pP sp cap st ru re i)), kI cI q3 9 wi1_66, kI cI q4 9 pl1_67, kI cI q5 9 lk1_68, kO m0 2 [.ref m1, .ref m2], kL cJ m1 1024 ky1_69, kI cI m2 1024 vl1_70] := hD
                  refine z_iadd (z := (b + cL sp cap ru re me (cm - 1).toNat (stp st (pP sp cap st ru re i)) (r - shr me (pP sp cap st ru re i) i))) hx hb rfl dX6_countLists_112 ?_
                  refine lv_istore (lv' := [(8, vI (b + cL sp cap ru re me (cm - 1).toNat (stp st (pP sp cap st ru re i)) (r - shr me (pP sp cap st ru re i) i))), (11, vI (r - shr me (pP sp cap st ru re i) i)), (10, vI 1), (9, vI i), (0, .ref q0), (1, .ref m0), (2, vI cm), (3, vI me), (4, vI r), (5, vL (ckey sp st cm r))]) hx hb dX6_countLists_113 hl (by decide) rfl (fun ls hl => ?_)
                  have hX : pl1_67 (ar + 1 - 1) = (pP sp cap st ru re i) := by
                    rw [show ar + 1 - 1 = ar by omega]
                    first | exact uZ_same _ _ _ | exact (hq109 ar (by omega) (by omega)).2.1.trans (uZ_same _ _ _)
                  refine lv_aload_n hx hb dX6_countLists_115 rfl (lv_at hl 4 rfl) ?_
                  refine g_callVv (own := RX6) (n := 0) (mc := 0) (ms := 0) (As := []) (rest := []) (wc := [kO q0 1 [vI sp, .ref q1, .ref q2, .ref q3, .ref q4, .ref q5, vI ru, vI re, vI (ar + 1), vI (fi + flp (pP sp cap st ru re i))], kI cI q1 8 cap, kI cI q2 8 (stp st (pP sp cap st ru re i)), kI cI q3 9 wi1_66, kI cI q4 9 pl1_67, kI cI q5 9 lk1_68]) (wr := [kO m0 2 [.ref m1, .ref m2], kL cJ m1 1024 ky1_69, kI cI m2 1024 vl1_70]) hx hb hml hown hts hK hP hD hS hA [0, 1, 2, 3, 4, 5] [6, 7, 8] rfl rfl (by decide) (by decide) 1 0 rfl rfl (c_X1_takeBackLast l dd cI cJ cC cS q0 q1 q2 q3 q4 q5 sp ru re (ar + 1) (fi + flp (pP sp cap st ru re i)) cap (stp st (pP sp cap st ru re i)) wi1_66 pl1_67 lk1_68 H.size  (by first | assumption | omega) (by first | assumption | omega) (by rw [hX]; omega)) gX6_countLists_X1_takeBackLast rfl (by decide +kernel) (by decide) (by first | decide | (show _ ≤ 5 + cm.toNat; omega) | (show _ ≤ 40 * (5 + cm.toNat); omega)) (by first | decide | (show _ ≤ 5 + cm.toNat; omega) | (show _ ≤ 40 * (5 + cm.toNat); omega)) (⟨Nat.le_refl _, Nat.le_refl _⟩) rfl hl.1 rfl (Nat.le_of_ble_eq_true rfl) dX6_countLists_116 (fun u_71 H locs hp116_72 hP hD hS => ?_)
                  have hP : va_P dd vwCl [kO m0 2 [.ref m1, .ref m2], kL cJ m1 1024 ky1_69, kI cI m2 1024 vl1_70, kO q0 1 [vI sp, .ref q1, .ref q2, .ref q3, .ref q4, .ref q5, vI ru, vI re, vI ((ar + 1) - 1), vI ((fi + flp (pP sp cap st ru re i)) - flp (pl1_67 ((ar + 1) - 1)))], kI cI q1 8 cap, kI cI q2 8 (if 0 ≤ (pl1_67 ((ar + 1) - 1)) then uZ (stp st (pP sp cap st ru re i)) (pl1_67 ((ar + 1) - 1)) ((stp st (pP sp cap st ru re i)) (pl1_67 ((ar + 1) - 1)) - 1) else (stp st (pP sp cap st ru re i))), kI cI q3 9 wi1_66, kI cI q4 9 pl1_67, kI cI q5 9 lk1_68] H := hP
                  have hD : va_D A [kO m0 2 [.ref m1, .ref m2], kL cJ m1 1024 ky1_69, kI cI m2 1024 vl1_70, kO q0 1 [vI sp, .ref q1, .ref q2, .ref q3, .ref q4, .ref q5, vI ru, vI re, vI ((ar + 1) - 1), vI ((fi + flp (pP sp cap st ru re i)) - flp (pl1_67 ((ar + 1) - 1)))], kI cI q1 8 cap, kI cI q2 8 (if 0 ≤ (pl1_67 ((ar + 1) - 1)) then uZ (stp st (pP sp cap st ru re i)) (pl1_67 ((ar + 1) - 1)) ((stp st (pP sp cap st ru re i)) (pl1_67 ((ar + 1) - 1)) - 1) else (stp st (pP sp cap st ru re i))), kI cI q3 9 wi1_66, kI cI q4 9 pl1_67, kI cI q5 9 lk1_68] := hD
                  refine z_iinc (a := i) (z := (i + 1)) (lv' := [(9, vI (i + 1)), (8, vI (b + cL sp cap ru re me (cm - 1).toNat (stp st (pP sp cap st ru re i)) (r - shr me (pP sp cap st ru re i) i))), (11, vI (r - shr me (pP sp cap st ru re i) i)), (10, vI 1), (0, .ref q0), (1, .ref m0), (2, vI cm), (3, vI me), (4, vI r), (5, vL (ckey sp st cm r))]) hx hb dX6_countLists_119 hl (k := 3) rfl rfl (by decide) rfl (fun ls hl => ?_)
                  refine lv_goto (tgt := 58) hx hb dX6_countLists_122 (by decide) ?_
                  have el_73 : vI ((ar + 1) - 1) = vI ar := congrArg _ (by omega)
                  rw [el_73] at hP hD
                  have el_74 : vI ((fi + flp (pP sp cap st ru re i)) - flp (pl1_67 ((ar + 1) - 1))) = vI fi := congrArg _ (by rw [hX]; omega)
                  rw [el_74] at hP hD
                  have el_75 : kI cI q2 8 (if 0 ≤ (pl1_67 ((ar + 1) - 1)) then uZ (stp st (pP sp cap st ru re i)) (pl1_67 ((ar + 1) - 1)) ((stp st (pP sp cap st ru re i)) (pl1_67 ((ar + 1) - 1)) - 1) else (stp st (pP sp cap st ru re i))) = kI cI q2 8 st := kI_congr (by rw [hX, stp_back])
                  rw [el_75] at hP hD
                  exact L58i _ (by omega) (i + 1) (b + cL sp cap ru re me (cm - 1).toNat (stp st (pP sp cap st ru re i)) (r - shr me (pP sp cap st ru re i) i)) wi1_66 pl1_67 lk1_68 ky1_69 vl1_70 H locs ls rfl (by omega) (by rw [sumZ_s (by omega), show cT sp cap ru re me (cm - 1).toNat st r i = _ from if_pos ⟨by omega, by omega⟩, hbb]) (fun j h0 h1 => by
                    have a1 := hq109 j h0 (by omega)
                    have a2 := hjk j h0 h1
                    rw [uZ_ne (by omega), uZ_ne (by omega), uZ_ne (by omega)] at a1
                    exact ⟨a1.1.trans a2.1, a1.2.1.trans a2.2.1, a1.2.2.trans a2.2.2⟩) (hqm109) (hP.sub [3, 4, 5, 6, 7, 8, 0, 1, 2] rfl) (hD.sub [3, 4, 5, 6, 7, 8, 0, 1, 2] (by decide) rfl) hS (lv_sub hl [1, 0, 4, 5, 6, 7, 8, 9] rfl)
              · exact absurd c87 (by omega)
            · skip
              refine z_bin (va := .null) (vb := .null) (y := zI 0) (congrArg zI (if_neg hpk)) ?_
              refine lv_istore (lv' := [(10, vI 0), (8, vI b), (9, vI i), (0, .ref q0), (1, .ref m0), (2, vI cm), (3, vI me), (4, vI r), (5, vL (ckey sp st cm r))]) hx hb dX6_countLists_73 hl (by decide) rfl (fun ls hl => ?_)
              refine lv_iload hx hb dX6_countLists_75 (lv_at hl 7 rfl) ?_
              refine lv_aload_n hx hb dX6_countLists_77 rfl (lv_at hl 3 rfl) ?_
              refine lv_iload_n hx hb dX6_countLists_78 rfl (lv_at hl 6 rfl) ?_
              refine g_callSi (own := RX6) (n := 2) (mc := 0) (ms := 0) (As := [.ref q0, vI me]) (rest := [vI r]) (wc := [kO q0 1 [vI sp, .ref q1, .ref q2, .ref q3, .ref q4, .ref q5, vI ru, vI re, vI (ar + 1), vI (fi + flp (pP sp cap st ru re i))], kI cI q1 8 cap, kI cI q2 8 (stp st (pP sp cap st ru re i)), kI cI q3 9 (uZ wa ar i), kI cI q4 9 (uZ pa ar (pP sp cap st ru re i)), kI cI q5 9 (uZ ka ar (pK sp cap st ru re i))]) (wr := [kO m0 2 [.ref m1, .ref m2], kL cJ m1 1024 kya, kI cI m2 1024 vla]) hx hb hml hown hts hK hP hD hS hA [3, 4, 5, 6, 7, 8] [0, 1, 2] rfl rfl (by decide) (by decide) (c_X6_shareOfLastCar l dd cI cJ cC cS q0 q1 q2 q3 q4 q5 sp ru re (ar + 1) (fi + flp (pP sp cap st ru re i)) cap (stp st (pP sp cap st ru re i)) (uZ wa ar i) (uZ pa ar (pP sp cap st ru re i)) (uZ ka ar (pK sp cap st ru re i)) me H.size  (by first | assumption | omega) (by rw [show ar + 1 - 1 = ar by omega, uZ_same]; omega) (by rw [show ar + 1 - 1 = ar by omega, uZ_same]; omega) (by first | assumption | omega)) gX6_countLists_X6_shareOfLastCar rfl (by decide +kernel) (by decide) (by first | decide | (show _ ≤ 5 + cm.toNat; omega) | (show _ ≤ 40 * (5 + cm.toNat); omega)) (by first | decide | (show _ ≤ 5 + cm.toNat; omega) | (show _ ≤ 40 * (5 + cm.toNat); omega)) (⟨Nat.le_refl _, Nat.le_refl _⟩) rfl hl.1 rfl (Nat.le_of_ble_eq_true rfl) dX6_countLists_79 (fun z_76 u_77 H locs hp79_78 hP hD hS => ?_)
              subst z_76
              have hP : va_P dd vwCl [kO m0 2 [.ref m1, .ref m2], kL cJ m1 1024 kya, kI cI m2 1024 vla, kO q0 1 [vI sp, .ref q1, .ref q2, .ref q3, .ref q4, .ref q5, vI ru, vI re, vI (ar + 1), vI (fi + flp (pP sp cap st ru re i))], kI cI q1 8 cap, kI cI q2 8 (stp st (pP sp cap st ru re i)), kI cI q3 9 (uZ wa ar i), kI cI q4 9 (uZ pa ar (pP sp cap st ru re i)), kI cI q5 9 (uZ ka ar (pK sp cap st ru re i))] H := hP
              have hD : va_D A [kO m0 2 [.ref m1, .ref m2], kL cJ m1 1024 kya, kI cI m2 1024 vla, kO q0 1 [vI sp, .ref q1, .ref q2, .ref q3, .ref q4, .ref q5, vI ru, vI re, vI (ar + 1), vI (fi + flp (pP sp cap st ru re i))], kI cI q1 8 cap, kI cI q2 8 (stp st (pP sp cap st ru re i)), kI cI q3 9 (uZ wa ar i), kI cI q4 9 (uZ pa ar (pP sp cap st ru re i)), kI cI q5 9 (uZ ka ar (pK sp cap st ru re i))] := hD
              have hsh := shr_rg me (pP sp cap st ru re i) (s := i) (by omega)
              refine z_bin (va := .null) (vb := .null) (y := zI (shr me (pP sp cap st ru re i) i)) (congrArg zI (by rw [show ar + 1 - 1 = ar by omega, uZ_same, uZ_same])) ?_
              refine z_isub (z := (r - shr me (pP sp cap st ru re i) i)) hx hb rfl dX6_countLists_82 ?_
              refine lv_istore (lv' := [(11, vI (r - shr me (pP sp cap st ru re i) i)), (10, vI 0), (8, vI b), (9, vI i), (0, .ref q0), (1, .ref m0), (2, vI cm), (3, vI me), (4, vI r), (5, vL (ckey sp st cm r))]) hx hb dX6_countLists_83 hl (by decide) rfl (fun ls hl => ?_)
              refine lv_iload hx hb dX6_countLists_85 (lv_at hl 1 rfl) ?_
              refine z_if_ne (tgt := 94) hx hb dX6_countLists_87 (by decide) (by omega) (fun c87 => ?_) (fun c87 => ?_)
              · exact absurd c87 (by omega)
              · skip
                refine lv_iload_n hx hb dX6_countLists_90 rfl (lv_at hl 7 rfl) ?_
                refine z_if_ne (tgt := 115) hx hb dX6_countLists_91 (by decide) (by omega) (fun c91 => ?_) (fun c91 => ?_)
                · skip
                  have hX : (uZ pa ar (pP sp cap st ru re i)) (ar + 1 - 1) = (pP sp cap st ru re i) := by
                    rw [show ar + 1 - 1 = ar by omega]
                    first | exact uZ_same _ _ _ | exact (hq109 ar (by omega) (by omega)).2.1.trans (uZ_same _ _ _)
                  refine lv_aload_n hx hb dX6_countLists_115 rfl (lv_at hl 4 rfl) ?_
                  refine g_callVv (own := RX6) (n := 0) (mc := 0) (ms := 0) (As := []) (rest := []) (wc := [kO q0 1 [vI sp, .ref q1, .ref q2, .ref q3, .ref q4, .ref q5, vI ru, vI re, vI (ar + 1), vI (fi + flp (pP sp cap st ru re i))], kI cI q1 8 cap, kI cI q2 8 (stp st (pP sp cap st ru re i)), kI cI q3 9 (uZ wa ar i), kI cI q4 9 (uZ pa ar (pP sp cap st ru re i)), kI cI q5 9 (uZ ka ar (pK sp cap st ru re i))]) (wr := [kO m0 2 [.ref m1, .ref m2], kL cJ m1 1024 kya, kI cI m2 1024 vla]) hx hb hml hown hts hK hP hD hS hA [3, 4, 5, 6, 7, 8] [0, 1, 2] rfl rfl (by decide) (by decide) 1 0 rfl rfl (c_X1_takeBackLast l dd cI cJ cC cS q0 q1 q2 q3 q4 q5 sp ru re (ar + 1) (fi + flp (pP sp cap st ru re i)) cap (stp st (pP sp cap st ru re i)) (uZ wa ar i) (uZ pa ar (pP sp cap st ru re i)) (uZ ka ar (pK sp cap st ru re i)) H.size  (by first | assumption | omega) (by first | assumption | omega) (by rw [hX]; omega)) gX6_countLists_X1_takeBackLast rfl (by decide +kernel) (by decide) (by first | decide | (show _ ≤ 5 + cm.toNat; omega) | (show _ ≤ 40 * (5 + cm.toNat); omega)) (by first | decide | (show _ ≤ 5 + cm.toNat; omega) | (show _ ≤ 40 * (5 + cm.toNat); omega)) (⟨Nat.le_refl _, Nat.le_refl _⟩) rfl hl.1 rfl (Nat.le_of_ble_eq_true rfl) dX6_countLists_116 (fun u_79 H locs hp116_80 hP hD hS => ?_)
                  have hP : va_P dd vwCl [kO m0 2 [.ref m1, .ref m2], kL cJ m1 1024 kya, kI cI m2 1024 vla, kO q0 1 [vI sp, .ref q1, .ref q2, .ref q3, .ref q4, .ref q5, vI ru, vI re, vI ((ar + 1) - 1), vI ((fi + flp (pP sp cap st ru re i)) - flp ((uZ pa ar (pP sp cap st ru re i)) ((ar + 1) - 1)))], kI cI q1 8 cap, kI cI q2 8 (if 0 ≤ ((uZ pa ar (pP sp cap st ru re i)) ((ar + 1) - 1)) then uZ (stp st (pP sp cap st ru re i)) ((uZ pa ar (pP sp cap st ru re i)) ((ar + 1) - 1)) ((stp st (pP sp cap st ru re i)) ((uZ pa ar (pP sp cap st ru re i)) ((ar + 1) - 1)) - 1) else (stp st (pP sp cap st ru re i))), kI cI q3 9 (uZ wa ar i), kI cI q4 9 (uZ pa ar (pP sp cap st ru re i)), kI cI q5 9 (uZ ka ar (pK sp cap st ru re i))] H := hP
                  have hD : va_D A [kO m0 2 [.ref m1, .ref m2], kL cJ m1 1024 kya, kI cI m2 1024 vla, kO q0 1 [vI sp, .ref q1, .ref q2, .ref q3, .ref q4, .ref q5, vI ru, vI re, vI ((ar + 1) - 1), vI ((fi + flp (pP sp cap st ru re i)) - flp ((uZ pa ar (pP sp cap st ru re i)) ((ar + 1) - 1)))], kI cI q1 8 cap, kI cI q2 8 (if 0 ≤ ((uZ pa ar (pP sp cap st ru re i)) ((ar + 1) - 1)) then uZ (stp st (pP sp cap st ru re i)) ((uZ pa ar (pP sp cap st ru re i)) ((ar + 1) - 1)) ((stp st (pP sp cap st ru re i)) ((uZ pa ar (pP sp cap st ru re i)) ((ar + 1) - 1)) - 1) else (stp st (pP sp cap st ru re i))), kI cI q3 9 (uZ wa ar i), kI cI q4 9 (uZ pa ar (pP sp cap st ru re i)), kI cI q5 9 (uZ ka ar (pK sp cap st ru re i))] := hD
                  refine z_iinc (a := i) (z := (i + 1)) (lv' := [(9, vI (i + 1)), (11, vI (r - shr me (pP sp cap st ru re i) i)), (10, vI 0), (8, vI b), (0, .ref q0), (1, .ref m0), (2, vI cm), (3, vI me), (4, vI r), (5, vL (ckey sp st cm r))]) hx hb dX6_countLists_119 hl (k := 3) rfl rfl (by decide) rfl (fun ls hl => ?_)
                  refine lv_goto (tgt := 58) hx hb dX6_countLists_122 (by decide) ?_
                  have el_81 : vI ((ar + 1) - 1) = vI ar := congrArg _ (by omega)
                  rw [el_81] at hP hD
                  have el_82 : vI ((fi + flp (pP sp cap st ru re i)) - flp ((uZ pa ar (pP sp cap st ru re i)) ((ar + 1) - 1))) = vI fi := congrArg _ (by rw [hX]; omega)
                  rw [el_82] at hP hD
                  have el_83 : kI cI q2 8 (if 0 ≤ ((uZ pa ar (pP sp cap st ru re i)) ((ar + 1) - 1)) then uZ (stp st (pP sp cap st ru re i)) ((uZ pa ar (pP sp cap st ru re i)) ((ar + 1) - 1)) ((stp st (pP sp cap st ru re i)) ((uZ pa ar (pP sp cap st ru re i)) ((ar + 1) - 1)) - 1) else (stp st (pP sp cap st ru re i))) = kI cI q2 8 st := kI_congr (by rw [hX, stp_back])
                  rw [el_83] at hP hD
                  exact L58i _ (by omega) (i + 1) b (uZ wa ar i) (uZ pa ar (pP sp cap st ru re i)) (uZ ka ar (pK sp cap st ru re i)) kya vla H locs ls rfl (by omega) (by rw [sumZ_s (by omega), show cT sp cap ru re me (cm - 1).toNat st r i = 0 from if_neg (fun q => absurd q.1 (by omega)), hbb, Int.add_zero]) (fun j h0 h1 => by rw [uZ_ne (by omega), uZ_ne (by omega), uZ_ne (by omega)]; exact hjk j h0 h1) (hmk) (hP.sub [3, 4, 5, 6, 7, 8, 0, 1, 2] rfl) (hD.sub [3, 4, 5, 6, 7, 8, 0, 1, 2] (by decide) rfl) hS (lv_sub hl [3, 0, 4, 5, 6, 7, 8, 9] rfl)
                · skip
                  refine lv_iload hx hb dX6_countLists_94 (lv_at hl 0 rfl) ?_
                  refine z_if_lt (tgt := 115) hx hb dX6_countLists_96 (by decide) (by omega) (fun c96 => ?_) (fun c96 => ?_)
                  · skip
                    have hX : (uZ pa ar (pP sp cap st ru re i)) (ar + 1 - 1) = (pP sp cap st ru re i) := by
                      rw [show ar + 1 - 1 = ar by omega]
                      first | exact uZ_same _ _ _ | exact (hq109 ar (by omega) (by omega)).2.1.trans (uZ_same _ _ _)
                    refine lv_aload_n hx hb dX6_countLists_115 rfl (lv_at hl 4 rfl) ?_
                    refine g_callVv (own := RX6) (n := 0) (mc := 0) (ms := 0) (As := []) (rest := []) (wc := [kO q0 1 [vI sp, .ref q1, .ref q2, .ref q3, .ref q4, .ref q5, vI ru, vI re, vI (ar + 1), vI (fi + flp (pP sp cap st ru re i))], kI cI q1 8 cap, kI cI q2 8 (stp st (pP sp cap st ru re i)), kI cI q3 9 (uZ wa ar i), kI cI q4 9 (uZ pa ar (pP sp cap st ru re i)), kI cI q5 9 (uZ ka ar (pK sp cap st ru re i))]) (wr := [kO m0 2 [.ref m1, .ref m2], kL cJ m1 1024 kya, kI cI m2 1024 vla]) hx hb hml hown hts hK hP hD hS hA [3, 4, 5, 6, 7, 8] [0, 1, 2] rfl rfl (by decide) (by decide) 1 0 rfl rfl (c_X1_takeBackLast l dd cI cJ cC cS q0 q1 q2 q3 q4 q5 sp ru re (ar + 1) (fi + flp (pP sp cap st ru re i)) cap (stp st (pP sp cap st ru re i)) (uZ wa ar i) (uZ pa ar (pP sp cap st ru re i)) (uZ ka ar (pK sp cap st ru re i)) H.size  (by first | assumption | omega) (by first | assumption | omega) (by rw [hX]; omega)) gX6_countLists_X1_takeBackLast rfl (by decide +kernel) (by decide) (by first | decide | (show _ ≤ 5 + cm.toNat; omega) | (show _ ≤ 40 * (5 + cm.toNat); omega)) (by first | decide | (show _ ≤ 5 + cm.toNat; omega) | (show _ ≤ 40 * (5 + cm.toNat); omega)) (⟨Nat.le_refl _, Nat.le_refl _⟩) rfl hl.1 rfl (Nat.le_of_ble_eq_true rfl) dX6_countLists_116 (fun u_84 H locs hp116_85 hP hD hS => ?_)
                    have hP : va_P dd vwCl [kO m0 2 [.ref m1, .ref m2], kL cJ m1 1024 kya, kI cI m2 1024 vla, kO q0 1 [vI sp, .ref q1, .ref q2, .ref q3, .ref q4, .ref q5, vI ru, vI re, vI ((ar + 1) - 1), vI ((fi + flp (pP sp cap st ru re i)) - flp ((uZ pa ar (pP sp cap st ru re i)) ((ar + 1) - 1)))], kI cI q1 8 cap, kI cI q2 8 (if 0 ≤ ((uZ pa ar (pP sp cap st ru re i)) ((ar + 1) - 1)) then uZ (stp st (pP sp cap st ru re i)) ((uZ pa ar (pP sp cap st ru re i)) ((ar + 1) - 1)) ((stp st (pP sp cap st ru re i)) ((uZ pa ar (pP sp cap st ru re i)) ((ar + 1) - 1)) - 1) else (stp st (pP sp cap st ru re i))), kI cI q3 9 (uZ wa ar i), kI cI q4 9 (uZ pa ar (pP sp cap st ru re i)), kI cI q5 9 (uZ ka ar (pK sp cap st ru re i))] H := hP
                    have hD : va_D A [kO m0 2 [.ref m1, .ref m2], kL cJ m1 1024 kya, kI cI m2 1024 vla, kO q0 1 [vI sp, .ref q1, .ref q2, .ref q3, .ref q4, .ref q5, vI ru, vI re, vI ((ar + 1) - 1), vI ((fi + flp (pP sp cap st ru re i)) - flp ((uZ pa ar (pP sp cap st ru re i)) ((ar + 1) - 1)))], kI cI q1 8 cap, kI cI q2 8 (if 0 ≤ ((uZ pa ar (pP sp cap st ru re i)) ((ar + 1) - 1)) then uZ (stp st (pP sp cap st ru re i)) ((uZ pa ar (pP sp cap st ru re i)) ((ar + 1) - 1)) ((stp st (pP sp cap st ru re i)) ((uZ pa ar (pP sp cap st ru re i)) ((ar + 1) - 1)) - 1) else (stp st (pP sp cap st ru re i))), kI cI q3 9 (uZ wa ar i), kI cI q4 9 (uZ pa ar (pP sp cap st ru re i)), kI cI q5 9 (uZ ka ar (pK sp cap st ru re i))] := hD
                    refine z_iinc (a := i) (z := (i + 1)) (lv' := [(9, vI (i + 1)), (11, vI (r - shr me (pP sp cap st ru re i) i)), (10, vI 0), (8, vI b), (0, .ref q0), (1, .ref m0), (2, vI cm), (3, vI me), (4, vI r), (5, vL (ckey sp st cm r))]) hx hb dX6_countLists_119 hl (k := 3) rfl rfl (by decide) rfl (fun ls hl => ?_)
                    refine lv_goto (tgt := 58) hx hb dX6_countLists_122 (by decide) ?_
                    have el_86 : vI ((ar + 1) - 1) = vI ar := congrArg _ (by omega)
                    rw [el_86] at hP hD
                    have el_87 : vI ((fi + flp (pP sp cap st ru re i)) - flp ((uZ pa ar (pP sp cap st ru re i)) ((ar + 1) - 1))) = vI fi := congrArg _ (by rw [hX]; omega)
                    rw [el_87] at hP hD
                    have el_88 : kI cI q2 8 (if 0 ≤ ((uZ pa ar (pP sp cap st ru re i)) ((ar + 1) - 1)) then uZ (stp st (pP sp cap st ru re i)) ((uZ pa ar (pP sp cap st ru re i)) ((ar + 1) - 1)) ((stp st (pP sp cap st ru re i)) ((uZ pa ar (pP sp cap st ru re i)) ((ar + 1) - 1)) - 1) else (stp st (pP sp cap st ru re i))) = kI cI q2 8 st := kI_congr (by rw [hX, stp_back])
                    rw [el_88] at hP hD
                    exact L58i _ (by omega) (i + 1) b (uZ wa ar i) (uZ pa ar (pP sp cap st ru re i)) (uZ ka ar (pK sp cap st ru re i)) kya vla H locs ls rfl (by omega) (by rw [sumZ_s (by omega), show cT sp cap ru re me (cm - 1).toNat st r i = 0 from if_neg (fun q => absurd q.2 (by omega)), hbb, Int.add_zero]) (fun j h0 h1 => by rw [uZ_ne (by omega), uZ_ne (by omega), uZ_ne (by omega)]; exact hjk j h0 h1) (hmk) (hP.sub [3, 4, 5, 6, 7, 8, 0, 1, 2] rfl) (hD.sub [3, 4, 5, 6, 7, 8, 0, 1, 2] (by decide) rfl) hS (lv_sub hl [3, 0, 4, 5, 6, 7, 8, 9] rfl)
                  · skip
                    refine lv_iload hx hb dX6_countLists_99 (lv_at hl 2 rfl) ?_
                    refine lv_aload_n hx hb dX6_countLists_101 rfl (lv_at hl 4 rfl) ?_
                    refine lv_aload_n hx hb dX6_countLists_102 rfl (lv_at hl 5 rfl) ?_
                    refine lv_iload_n hx hb dX6_countLists_103 rfl (lv_at hl 6 rfl) ?_
                    refine z_iconst hx hb dX6_countLists_104 ?_
                    refine z_isub (z := (cm - 1)) hx hb rfl dX6_countLists_105 ?_
                    refine lv_iload_n hx hb dX6_countLists_106 rfl (lv_at hl 7 rfl) ?_
                    refine lv_iload hx hb dX6_countLists_107 (lv_at hl 0 rfl) ?_
                    refine g_callSi (own := RX6) (n := 5) (mc := 0) (ms := 0) (As := [.ref q0, .ref m0, vI (cm - 1), vI me, vI (r - shr me (pP sp cap st ru re i) i)]) (rest := [vI b]) (wc := [kO q0 1 [vI sp, .ref q1, .ref q2, .ref q3, .ref q4, .ref q5, vI ru, vI re, vI (ar + 1), vI (fi + flp (pP sp cap st ru re i))], kI cI q1 8 cap, kI cI q2 8 (stp st (pP sp cap st ru re i)), kI cI q3 9 (uZ wa ar i), kI cI q4 9 (uZ pa ar (pP sp cap st ru re i)), kI cI q5 9 (uZ ka ar (pK sp cap st ru re i)), kO m0 2 [.ref m1, .ref m2], kL cJ m1 1024 kya, kI cI m2 1024 vla]) (wr := []) hx hb hml hown hts hK hP hD hS hA [3, 4, 5, 6, 7, 8, 0, 1, 2] [] rfl rfl (by decide) (by decide) (IH (cm - 1).toNat (by omega) q0 q1 q2 q3 q4 q5 m0 m1 m2 sp ru re (ar + 1) (fi + flp (pP sp cap st ru re i)) cap (stp st (pP sp cap st ru re i)) (uZ wa ar i) (uZ pa ar (pP sp cap st ru re i)) (uZ ka ar (pK sp cap st ru re i)) kya vla (cm - 1) me (r - shr me (pP sp cap st ru re i) i) H.size rfl (by first | assumption | omega) (by first | assumption | (intro j h0 h1; omega)) (by first | assumption | (intro j h0 h1; omega)) (by first | assumption | omega) (by first | assumption | omega) (by first | assumption | omega) (by first | assumption | omega) (by first | assumption | omega) (by first | assumption | omega) (by first | assumption | omega)) gX6_countLists_X6_countLists rfl (by decide +kernel) (by decide) (by first | decide | (show _ ≤ 5 + cm.toNat; omega) | (show _ ≤ 40 * (5 + cm.toNat); omega)) (by first | decide | (show _ ≤ 5 + cm.toNat; omega) | (show _ ≤ 40 * (5 + cm.toNat); omega)) (⟨Nat.le_refl _, Nat.le_refl _⟩) rfl hl.1 rfl (Nat.le_of_ble_eq_true rfl) dX6_countLists_109 (fun z_89 u_90 H locs hp109_91 hP hD hS => ?_)
                    obtain ⟨wi1_92, pl1_93, lk1_94, ky1_95, vl1_96⟩ := u_90
                    try dsimp only at hp109_91
                    obtain ⟨z_89e, hp109_91⟩ := hp109_91
                    subst z_89
                    obtain ⟨hq109, hqm109⟩ := hp109_91
                    have hP : va_P dd vwCl [kO q0 1 [vI sp, .ref q1, .ref q2, .ref q3, .ref q4, .ref q5, vI ru, vI re, vI (ar + 1), vI (fi + flp (pP sp cap st ru re i))], kI cI q1 8 cap, kI cI q2 8 (stp st (pP sp cap st ru re i)), kI cI q3 9 wi1_92, kI cI q4 9 pl1_93, kI cI q5 9 lk1_94, kO m0 2 [.ref m1, .ref m2], kL cJ m1 1024 ky1_95, kI cI m2 1024 vl1_96] H := hP
                    have hD : va_D A [kO q0 1 [vI sp, .ref q1, .ref q2, .ref q3, .ref q4, .ref q5, vI ru, vI re, vI (ar + 1), vI (fi + flp (pP sp cap st ru re i))], kI cI q1 8 cap, kI cI q2 8 (stp st (pP sp cap st ru re i)), kI cI q3 9 wi1_92, kI cI q4 9 pl1_93, kI cI q5 9 lk1_94, kO m0 2 [.ref m1, .ref m2], kL cJ m1 1024 ky1_95, kI cI m2 1024 vl1_96] := hD
                    refine z_iadd (z := (b + cL sp cap ru re me (cm - 1).toNat (stp st (pP sp cap st ru re i)) (r - shr me (pP sp cap st ru re i) i))) hx hb rfl dX6_countLists_112 ?_
                    refine lv_istore (lv' := [(8, vI (b + cL sp cap ru re me (cm - 1).toNat (stp st (pP sp cap st ru re i)) (r - shr me (pP sp cap st ru re i) i))), (11, vI (r - shr me (pP sp cap st ru re i) i)), (10, vI 0), (9, vI i), (0, .ref q0), (1, .ref m0), (2, vI cm), (3, vI me), (4, vI r), (5, vL (ckey sp st cm r))]) hx hb dX6_countLists_113 hl (by decide) rfl (fun ls hl => ?_)
                    have hX : pl1_93 (ar + 1 - 1) = (pP sp cap st ru re i) := by
                      rw [show ar + 1 - 1 = ar by omega]
                      first | exact uZ_same _ _ _ | exact (hq109 ar (by omega) (by omega)).2.1.trans (uZ_same _ _ _)
                    refine lv_aload_n hx hb dX6_countLists_115 rfl (lv_at hl 4 rfl) ?_
                    refine g_callVv (own := RX6) (n := 0) (mc := 0) (ms := 0) (As := []) (rest := []) (wc := [kO q0 1 [vI sp, .ref q1, .ref q2, .ref q3, .ref q4, .ref q5, vI ru, vI re, vI (ar + 1), vI (fi + flp (pP sp cap st ru re i))], kI cI q1 8 cap, kI cI q2 8 (stp st (pP sp cap st ru re i)), kI cI q3 9 wi1_92, kI cI q4 9 pl1_93, kI cI q5 9 lk1_94]) (wr := [kO m0 2 [.ref m1, .ref m2], kL cJ m1 1024 ky1_95, kI cI m2 1024 vl1_96]) hx hb hml hown hts hK hP hD hS hA [0, 1, 2, 3, 4, 5] [6, 7, 8] rfl rfl (by decide) (by decide) 1 0 rfl rfl (c_X1_takeBackLast l dd cI cJ cC cS q0 q1 q2 q3 q4 q5 sp ru re (ar + 1) (fi + flp (pP sp cap st ru re i)) cap (stp st (pP sp cap st ru re i)) wi1_92 pl1_93 lk1_94 H.size  (by first | assumption | omega) (by first | assumption | omega) (by rw [hX]; omega)) gX6_countLists_X1_takeBackLast rfl (by decide +kernel) (by decide) (by first | decide | (show _ ≤ 5 + cm.toNat; omega) | (show _ ≤ 40 * (5 + cm.toNat); omega)) (by first | decide | (show _ ≤ 5 + cm.toNat; omega) | (show _ ≤ 40 * (5 + cm.toNat); omega)) (⟨Nat.le_refl _, Nat.le_refl _⟩) rfl hl.1 rfl (Nat.le_of_ble_eq_true rfl) dX6_countLists_116 (fun u_97 H locs hp116_98 hP hD hS => ?_)
                    have hP : va_P dd vwCl [kO m0 2 [.ref m1, .ref m2], kL cJ m1 1024 ky1_95, kI cI m2 1024 vl1_96, kO q0 1 [vI sp, .ref q1, .ref q2, .ref q3, .ref q4, .ref q5, vI ru, vI re, vI ((ar + 1) - 1), vI ((fi + flp (pP sp cap st ru re i)) - flp (pl1_93 ((ar + 1) - 1)))], kI cI q1 8 cap, kI cI q2 8 (if 0 ≤ (pl1_93 ((ar + 1) - 1)) then uZ (stp st (pP sp cap st ru re i)) (pl1_93 ((ar + 1) - 1)) ((stp st (pP sp cap st ru re i)) (pl1_93 ((ar + 1) - 1)) - 1) else (stp st (pP sp cap st ru re i))), kI cI q3 9 wi1_92, kI cI q4 9 pl1_93, kI cI q5 9 lk1_94] H := hP
                    have hD : va_D A [kO m0 2 [.ref m1, .ref m2], kL cJ m1 1024 ky1_95, kI cI m2 1024 vl1_96, kO q0 1 [vI sp, .ref q1, .ref q2, .ref q3, .ref q4, .ref q5, vI ru, vI re, vI ((ar + 1) - 1), vI ((fi + flp (pP sp cap st ru re i)) - flp (pl1_93 ((ar + 1) - 1)))], kI cI q1 8 cap, kI cI q2 8 (if 0 ≤ (pl1_93 ((ar + 1) - 1)) then uZ (stp st (pP sp cap st ru re i)) (pl1_93 ((ar + 1) - 1)) ((stp st (pP sp cap st ru re i)) (pl1_93 ((ar + 1) - 1)) - 1) else (stp st (pP sp cap st ru re i))), kI cI q3 9 wi1_92, kI cI q4 9 pl1_93, kI cI q5 9 lk1_94] := hD
                    refine z_iinc (a := i) (z := (i + 1)) (lv' := [(9, vI (i + 1)), (8, vI (b + cL sp cap ru re me (cm - 1).toNat (stp st (pP sp cap st ru re i)) (r - shr me (pP sp cap st ru re i) i))), (11, vI (r - shr me (pP sp cap st ru re i) i)), (10, vI 0), (0, .ref q0), (1, .ref m0), (2, vI cm), (3, vI me), (4, vI r), (5, vL (ckey sp st cm r))]) hx hb dX6_countLists_119 hl (k := 3) rfl rfl (by decide) rfl (fun ls hl => ?_)
                    refine lv_goto (tgt := 58) hx hb dX6_countLists_122 (by decide) ?_
                    have el_99 : vI ((ar + 1) - 1) = vI ar := congrArg _ (by omega)
                    rw [el_99] at hP hD
                    have el_100 : vI ((fi + flp (pP sp cap st ru re i)) - flp (pl1_93 ((ar + 1) - 1))) = vI fi := congrArg _ (by rw [hX]; omega)
                    rw [el_100] at hP hD
                    have el_101 : kI cI q2 8 (if 0 ≤ (pl1_93 ((ar + 1) - 1)) then uZ (stp st (pP sp cap st ru re i)) (pl1_93 ((ar + 1) - 1)) ((stp st (pP sp cap st ru re i)) (pl1_93 ((ar + 1) - 1)) - 1) else (stp st (pP sp cap st ru re i))) = kI cI q2 8 st := kI_congr (by rw [hX, stp_back])
                    rw [el_101] at hP hD
                    exact L58i _ (by omega) (i + 1) (b + cL sp cap ru re me (cm - 1).toNat (stp st (pP sp cap st ru re i)) (r - shr me (pP sp cap st ru re i) i)) wi1_92 pl1_93 lk1_94 ky1_95 vl1_96 H locs ls rfl (by omega) (by rw [sumZ_s (by omega), show cT sp cap ru re me (cm - 1).toNat st r i = _ from if_pos ⟨by omega, by omega⟩, hbb]) (fun j h0 h1 => by
                      have a1 := hq109 j h0 (by omega)
                      have a2 := hjk j h0 h1
                      rw [uZ_ne (by omega), uZ_ne (by omega), uZ_ne (by omega)] at a1
                      exact ⟨a1.1.trans a2.1, a1.2.1.trans a2.2.1, a1.2.2.trans a2.2.2⟩) (hqm109) (hP.sub [3, 4, 5, 6, 7, 8, 0, 1, 2] rfl) (hD.sub [3, 4, 5, 6, 7, 8, 0, 1, 2] (by decide) rfl) hS (lv_sub hl [1, 0, 4, 5, 6, 7, 8, 9] rfl)
        exact L58 _ 0 0 wi pl lk ky vl H locs ls rfl (by omega) (rfl) (fun j _ _ => ⟨rfl, rfl, rfl⟩) (hmo) hP hD hS (lv_sub hl [1, 0, 4, 5, 6, 7, 8, 3] rfl)
      · exact absurd c46 (by omega)
  · skip
    refine lv_iload hx hb dX6_countLists_4 (lv_at hl 4 rfl) ?_
    refine z_if_ne (tgt := 13) hx hb dX6_countLists_6 (by decide) (by omega) (fun c6 => ?_) (fun c6 => ?_)
    · skip
      refine z_iconst hx hb dX6_countLists_13 ?_
      subst hQ
      refine z_iret (z := 0) hx hb hr hlocks dX6_countLists_14 (wi, pl, lk, ky, vl) hK hS ⟨by omega, by omega⟩ hP hD ?_
      refine ⟨?_, fun j _ _ => ⟨rfl, rfl, rfl⟩, hmo⟩
      rw [show cm.toNat = 0 by omega]
      first | exact (if_pos (by omega)).symm | exact (if_neg (by omega)).symm
    · skip
      refine z_iconst hx hb dX6_countLists_9 ?_
      refine lv_goto (tgt := 14) hx hb dX6_countLists_10 (by decide) ?_
      subst hQ
      refine z_iret (z := 1) hx hb hr hlocks dX6_countLists_14 (wi, pl, lk, ky, vl) hK hS ⟨by omega, by omega⟩ hP hD ?_
      refine ⟨?_, fun j _ _ => ⟨rfl, rfl, rfl⟩, hmo⟩
      rw [show cm.toNat = 0 by omega]
      first | exact (if_pos (by omega)).symm | exact (if_neg (by omega)).symm
theorem c_X6_countLists (l : Launch) (dd : va_G) (cI cJ cC cS : ClassId) (q0 q1 q2 q3 q4 q5 m0 m1 m2 : Nat) (sp ru re ar fi : Int) (cap st wi pl lk : Int → Int) (ky vl : Int → Int) (cm me r : Int) (sz : Nat) (hsp : 1 ≤ sp ∧ sp ≤ 8) (hcap : ∀ j : Int, 0 ≤ j → j < sp → 0 ≤ cap j ∧ cap j ≤ 3) (hst : ∀ j : Int, 0 ≤ j → j < sp → 0 ≤ st j ∧ st j ≤ 3) (hru : 0 ≤ ru ∧ ru ≤ 3) (hre : 0 ≤ re ∧ re ≤ 8) (hcm : 0 ≤ cm ∧ 0 ≤ ar ∧ ar + cm ≤ 9) (hme : 0 ≤ me ∧ me ≤ 2) (hrr : 0 ≤ r ∧ r ≤ 63) (hfi : fi = fil st sp) (hmo : mOK sp cap ru re me ky vl) : gMi l yX6_countLists wsX6_countLists (5 + cm.toNat) 0 0 dd cI cJ cC cS [.ref q0, .ref m0, vI cm, vI me, vI r] [kO q0 1 [vI sp, .ref q1, .ref q2, .ref q3, .ref q4, .ref q5, vI ru, vI re, vI ar, vI fi], kI cI q1 8 cap, kI cI q2 8 st, kI cI q3 9 wi, kI cI q4 9 pl, kI cI q5 9 lk, kO m0 2 [.ref m1, .ref m2], kL cJ m1 1024 ky, kI cI m2 1024 vl] sz (fun (z : Int) (u : (Int → Int) × (Int → Int) × (Int → Int) × (Int → Int) × (Int → Int)) => z = cL sp cap ru re me cm.toNat st r ∧ (∀ j : Int, 0 ≤ j → j < ar → u.1 j = wi j ∧ u.2.1 j = pl j ∧ u.2.2.1 j = lk j) ∧ mOK sp cap ru re me u.2.2.2.1 u.2.2.2.2) (fun (u : (Int → Int) × (Int → Int) × (Int → Int) × (Int → Int) × (Int → Int)) => [kO q0 1 [vI sp, .ref q1, .ref q2, .ref q3, .ref q4, .ref q5, vI ru, vI re, vI ar, vI fi], kI cI q1 8 cap, kI cI q2 8 st, kI cI q3 9 u.1, kI cI q4 9 u.2.1, kI cI q5 9 u.2.2.1, kO m0 2 [.ref m1, .ref m2], kL cJ m1 1024 u.2.2.2.1, kI cI m2 1024 u.2.2.2.2]) := c_X6_countLists_rec l dd cI cJ cC cS _ q0 q1 q2 q3 q4 q5 m0 m1 m2 sp ru re ar fi cap st wi pl lk ky vl cm me r sz rfl hsp hcap hst hru hre hcm hme hrr hfi hmo
