/-! the model: acts -/
def iniZ (i : Int) : Int → Int := fun k => if 3 ≤ k ∧ k < 3 + i then 1 else 0
theorem iniZ_0 : zeroZ = iniZ 0 := by
  funext k
  exact (if_neg (by omega)).symm
theorem iniZ_s {i : Int} (h : 0 ≤ i) : uZ (iniZ i) (3 + i) 1 = iniZ (i + 1) := by
  funext k
  by_cases q : k = 3 + i
  · rw [q, uZ_same]
    exact (if_pos (by omega)).symm
  · rw [uZ_ne q]
    unfold iniZ
    by_cases q2 : 3 ≤ k ∧ k < 3 + i
    · rw [if_pos q2, if_pos (by omega)]
    · rw [if_neg q2, if_neg (by omega)]

set_option maxHeartbeats 4000000 in
set_option maxRecDepth 100000 in
theorem c_X7_init (l : Launch) (dd : va_G) (cI cJ cC cS : ClassId) (y0 : Nat) (v : Int) (sz : Nat) (hgv : rg v) : gMv l yX7_init wsX7_init 1 7 222 dd cI cJ cC cS [.ref y0, vI v] [kO y0 7 [vI 0, .null, .null, vI 0, .null, .null, .null, .null, .null, vI 0, vI 0]] sz (fun (u : Nat × Nat × Nat × Nat × Nat × Nat × Nat) => True) (fun (u : Nat × Nat × Nat × Nat × Nat × Nat × Nat) => [kO y0 7 [vI (nZ v), .ref u.1, .ref u.2.1, vI 0, .ref u.2.2.1, .ref u.2.2.2.1, .ref u.2.2.2.2.1, .ref u.2.2.2.2.2.1, .ref u.2.2.2.2.2.2, vI 0, vI 0], kI cI u.1 21 (iniZ (nZ v)), kI cI u.2.1 126 zeroZ, kI cI u.2.2.1 9 zeroZ, kI cI u.2.2.2.1 9 zeroZ, kI cI u.2.2.2.2.1 9 zeroZ, kI cI u.2.2.2.2.2.1 8 zeroZ, kI cI u.2.2.2.2.2.2 40 zeroZ]) := by
  refine gMv_of (cc := cX7_init) (maxL := 3) (ret := none) (by decide) rfl (Nat.le_of_ble_eq_true rfl) ?_
  intro p e s m args below meth c A Q hQ hx hb hr hts hown hlocks hnm hml H locs hP hK hD hA hS ls hl
  have hi7 : ∀ w ∈ wsX70, w ∈ wsX7_init := fun _ h => (List.mem_cons_of_mem _ (List.mem_append_right _ h))
  have hl : lv_has ls 3 [(0, .ref y0), (1, vI v)] := hl
  refine lv_aload_n hx hb dX7_init_0 rfl (lv_at hl 0 rfl) ?_
  refine W.objInit hx hb hown (hts _ (List.mem_cons_of_mem _ (List.mem_append_left _ (List.mem_of_getElem? (i := 0) rfl)))) (hts _ (List.mem_cons_of_mem _ (List.mem_append_left _ (List.mem_of_getElem? (i := 1) rfl)))) (hts _ (List.mem_cons_of_mem _ (List.mem_append_left _ (List.mem_of_getElem? (i := 2) rfl)))) rfl (by rw [hml]; exact hl.1) rfl dX7_init_1 (Nat.le_of_ble_eq_true rfl) (Nat.le_of_ble_eq_true rfl) ?_
  refine W.eq (g2 := F0 m 4 ls []) rfl ?_
  refine lv_aload_n hx hb dX7_init_4 rfl (lv_at hl 0 rfl) ?_
  refine z_bipush hx hb dX7_init_5 (by decide +kernel) ?_
  refine z_newi hx hb (hts _ (List.mem_cons_of_mem _ (List.mem_append_left _ (List.mem_of_getElem? (i := 3) rfl)))) hK hP hD hS hA 21 (by decide) (by decide) (by decide) dX7_init_7 (fun q_1 H hP hD hS => ?_)
  have hP : va_P dd vwCl [kO y0 7 [vI 0, .null, .null, vI 0, .null, .null, .null, .null, .null, vI 0, vI 0], kI cI q_1 21 zeroZ] H := hP
  have hD : va_D A [kO y0 7 [vI 0, .null, .null, vI 0, .null, .null, .null, .null, .null, vI 0, vI 0], kI cI q_1 21 zeroZ] := hD
  refine va_putF (D := dd) (ci := 7) (v := .ref q_1) (ty := .array .int) (C := RX7) (T := TX7) (N := 11) hx hb hts hi7 tyX7 tyX7_ok nmX7 hown hK hP hD hS 0 rfl rfl 1 (by decide) (hts _ (List.mem_cons_of_mem _ (List.mem_append_left _ (List.mem_of_getElem? (i := 4) rfl)))) (fun _ h9 => h9) rfl hnm rfl (by decide +kernel) rfl rfl (Nat.le_of_ble_eq_true rfl) dX7_init_9 (fun H locs hP hD hS => ?_)
  have hP : va_P dd vwCl [kO y0 7 [vI 0, .ref q_1, .null, vI 0, .null, .null, .null, .null, .null, vI 0, vI 0], kI cI q_1 21 zeroZ] H := hP
  have hD : va_D A [kO y0 7 [vI 0, .ref q_1, .null, vI 0, .null, .null, .null, .null, .null, vI 0, vI 0], kI cI q_1 21 zeroZ] := hD
  refine lv_aload_n hx hb dX7_init_12 rfl (lv_at hl 0 rfl) ?_
  refine z_bipush hx hb dX7_init_13 (by decide +kernel) ?_
  refine z_newi hx hb (hts _ (List.mem_cons_of_mem _ (List.mem_append_left _ (List.mem_of_getElem? (i := 3) rfl)))) hK hP hD hS hA 126 (by decide) (by decide) (by decide) dX7_init_15 (fun q_2 H hP hD hS => ?_)
  have hP : va_P dd vwCl [kO y0 7 [vI 0, .ref q_1, .null, vI 0, .null, .null, .null, .null, .null, vI 0, vI 0], kI cI q_1 21 zeroZ, kI cI q_2 126 zeroZ] H := hP
  have hD : va_D A [kO y0 7 [vI 0, .ref q_1, .null, vI 0, .null, .null, .null, .null, .null, vI 0, vI 0], kI cI q_1 21 zeroZ, kI cI q_2 126 zeroZ] := hD
  refine va_putF (D := dd) (ci := 7) (v := .ref q_2) (ty := .array .int) (C := RX7) (T := TX7) (N := 11) hx hb hts hi7 tyX7 tyX7_ok nmX7 hown hK hP hD hS 0 rfl rfl 2 (by decide) (hts _ (List.mem_cons_of_mem _ (List.mem_append_left _ (List.mem_of_getElem? (i := 5) rfl)))) (fun _ h9 => h9) rfl hnm rfl (by decide +kernel) rfl rfl (Nat.le_of_ble_eq_true rfl) dX7_init_17 (fun H locs hP hD hS => ?_)
  have hP : va_P dd vwCl [kO y0 7 [vI 0, .ref q_1, .ref q_2, vI 0, .null, .null, .null, .null, .null, vI 0, vI 0], kI cI q_1 21 zeroZ, kI cI q_2 126 zeroZ] H := hP
  have hD : va_D A [kO y0 7 [vI 0, .ref q_1, .ref q_2, vI 0, .null, .null, .null, .null, .null, vI 0, vI 0], kI cI q_1 21 zeroZ, kI cI q_2 126 zeroZ] := hD
  refine lv_aload_n hx hb dX7_init_20 rfl (lv_at hl 0 rfl) ?_
  refine z_bipush hx hb dX7_init_21 (by decide +kernel) ?_
  refine z_newi hx hb (hts _ (List.mem_cons_of_mem _ (List.mem_append_left _ (List.mem_of_getElem? (i := 3) rfl)))) hK hP hD hS hA 9 (by decide) (by decide) (by decide) dX7_init_23 (fun q_3 H hP hD hS => ?_)
  have hP : va_P dd vwCl [kO y0 7 [vI 0, .ref q_1, .ref q_2, vI 0, .null, .null, .null, .null, .null, vI 0, vI 0], kI cI q_1 21 zeroZ, kI cI q_2 126 zeroZ, kI cI q_3 9 zeroZ] H := hP
  have hD : va_D A [kO y0 7 [vI 0, .ref q_1, .ref q_2, vI 0, .null, .null, .null, .null, .null, vI 0, vI 0], kI cI q_1 21 zeroZ, kI cI q_2 126 zeroZ, kI cI q_3 9 zeroZ] := hD
  refine va_putF (D := dd) (ci := 7) (v := .ref q_3) (ty := .array .int) (C := RX7) (T := TX7) (N := 11) hx hb hts hi7 tyX7 tyX7_ok nmX7 hown hK hP hD hS 0 rfl rfl 4 (by decide) (hts _ (List.mem_cons_of_mem _ (List.mem_append_left _ (List.mem_of_getElem? (i := 6) rfl)))) (fun _ h9 => h9) rfl hnm rfl (by decide +kernel) rfl rfl (Nat.le_of_ble_eq_true rfl) dX7_init_25 (fun H locs hP hD hS => ?_)
  have hP : va_P dd vwCl [kO y0 7 [vI 0, .ref q_1, .ref q_2, vI 0, .ref q_3, .null, .null, .null, .null, vI 0, vI 0], kI cI q_1 21 zeroZ, kI cI q_2 126 zeroZ, kI cI q_3 9 zeroZ] H := hP
  have hD : va_D A [kO y0 7 [vI 0, .ref q_1, .ref q_2, vI 0, .ref q_3, .null, .null, .null, .null, vI 0, vI 0], kI cI q_1 21 zeroZ, kI cI q_2 126 zeroZ, kI cI q_3 9 zeroZ] := hD
  refine lv_aload_n hx hb dX7_init_28 rfl (lv_at hl 0 rfl) ?_
  refine z_bipush hx hb dX7_init_29 (by decide +kernel) ?_
  refine z_newi hx hb (hts _ (List.mem_cons_of_mem _ (List.mem_append_left _ (List.mem_of_getElem? (i := 3) rfl)))) hK hP hD hS hA 9 (by decide) (by decide) (by decide) dX7_init_31 (fun q_4 H hP hD hS => ?_)
  have hP : va_P dd vwCl [kO y0 7 [vI 0, .ref q_1, .ref q_2, vI 0, .ref q_3, .null, .null, .null, .null, vI 0, vI 0], kI cI q_1 21 zeroZ, kI cI q_2 126 zeroZ, kI cI q_3 9 zeroZ, kI cI q_4 9 zeroZ] H := hP
  have hD : va_D A [kO y0 7 [vI 0, .ref q_1, .ref q_2, vI 0, .ref q_3, .null, .null, .null, .null, vI 0, vI 0], kI cI q_1 21 zeroZ, kI cI q_2 126 zeroZ, kI cI q_3 9 zeroZ, kI cI q_4 9 zeroZ] := hD
  refine va_putF (D := dd) (ci := 7) (v := .ref q_4) (ty := .array .int) (C := RX7) (T := TX7) (N := 11) hx hb hts hi7 tyX7 tyX7_ok nmX7 hown hK hP hD hS 0 rfl rfl 5 (by decide) (hts _ (List.mem_cons_of_mem _ (List.mem_append_left _ (List.mem_of_getElem? (i := 7) rfl)))) (fun _ h9 => h9) rfl hnm rfl (by decide +kernel) rfl rfl (Nat.le_of_ble_eq_true rfl) dX7_init_33 (fun H locs hP hD hS => ?_)
  have hP : va_P dd vwCl [kO y0 7 [vI 0, .ref q_1, .ref q_2, vI 0, .ref q_3, .ref q_4, .null, .null, .null, vI 0, vI 0], kI cI q_1 21 zeroZ, kI cI q_2 126 zeroZ, kI cI q_3 9 zeroZ, kI cI q_4 9 zeroZ] H := hP
  have hD : va_D A [kO y0 7 [vI 0, .ref q_1, .ref q_2, vI 0, .ref q_3, .ref q_4, .null, .null, .null, vI 0, vI 0], kI cI q_1 21 zeroZ, kI cI q_2 126 zeroZ, kI cI q_3 9 zeroZ, kI cI q_4 9 zeroZ] := hD
  refine lv_aload_n hx hb dX7_init_36 rfl (lv_at hl 0 rfl) ?_
  refine z_bipush hx hb dX7_init_37 (by decide +kernel) ?_
  refine z_newi hx hb (hts _ (List.mem_cons_of_mem _ (List.mem_append_left _ (List.mem_of_getElem? (i := 3) rfl)))) hK hP hD hS hA 9 (by decide) (by decide) (by decide) dX7_init_39 (fun q_5 H hP hD hS => ?_)
  have hP : va_P dd vwCl [kO y0 7 [vI 0, .ref q_1, .ref q_2, vI 0, .ref q_3, .ref q_4, .null, .null, .null, vI 0, vI 0], kI cI q_1 21 zeroZ, kI cI q_2 126 zeroZ, kI cI q_3 9 zeroZ, kI cI q_4 9 zeroZ, kI cI q_5 9 zeroZ] H := hP
  have hD : va_D A [kO y0 7 [vI 0, .ref q_1, .ref q_2, vI 0, .ref q_3, .ref q_4, .null, .null, .null, vI 0, vI 0], kI cI q_1 21 zeroZ, kI cI q_2 126 zeroZ, kI cI q_3 9 zeroZ, kI cI q_4 9 zeroZ, kI cI q_5 9 zeroZ] := hD
  refine va_putF (D := dd) (ci := 7) (v := .ref q_5) (ty := .array .int) (C := RX7) (T := TX7) (N := 11) hx hb hts hi7 tyX7 tyX7_ok nmX7 hown hK hP hD hS 0 rfl rfl 6 (by decide) (hts _ (List.mem_cons_of_mem _ (List.mem_append_left _ (List.mem_of_getElem? (i := 8) rfl)))) (fun _ h9 => h9) rfl hnm rfl (by decide +kernel) rfl rfl (Nat.le_of_ble_eq_true rfl) dX7_init_41 (fun H locs hP hD hS => ?_)
  have hP : va_P dd vwCl [kO y0 7 [vI 0, .ref q_1, .ref q_2, vI 0, .ref q_3, .ref q_4, .ref q_5, .null, .null, vI 0, vI 0], kI cI q_1 21 zeroZ, kI cI q_2 126 zeroZ, kI cI q_3 9 zeroZ, kI cI q_4 9 zeroZ, kI cI q_5 9 zeroZ] H := hP
  have hD : va_D A [kO y0 7 [vI 0, .ref q_1, .ref q_2, vI 0, .ref q_3, .ref q_4, .ref q_5, .null, .null, vI 0, vI 0], kI cI q_1 21 zeroZ, kI cI q_2 126 zeroZ, kI cI q_3 9 zeroZ, kI cI q_4 9 zeroZ, kI cI q_5 9 zeroZ] := hD
  refine lv_aload_n hx hb dX7_init_44 rfl (lv_at hl 0 rfl) ?_
  refine z_bipush hx hb dX7_init_45 (by decide +kernel) ?_
  refine z_newi hx hb (hts _ (List.mem_cons_of_mem _ (List.mem_append_left _ (List.mem_of_getElem? (i := 3) rfl)))) hK hP hD hS hA 8 (by decide) (by decide) (by decide) dX7_init_47 (fun q_6 H hP hD hS => ?_)
  have hP : va_P dd vwCl [kO y0 7 [vI 0, .ref q_1, .ref q_2, vI 0, .ref q_3, .ref q_4, .ref q_5, .null, .null, vI 0, vI 0], kI cI q_1 21 zeroZ, kI cI q_2 126 zeroZ, kI cI q_3 9 zeroZ, kI cI q_4 9 zeroZ, kI cI q_5 9 zeroZ, kI cI q_6 8 zeroZ] H := hP
  have hD : va_D A [kO y0 7 [vI 0, .ref q_1, .ref q_2, vI 0, .ref q_3, .ref q_4, .ref q_5, .null, .null, vI 0, vI 0], kI cI q_1 21 zeroZ, kI cI q_2 126 zeroZ, kI cI q_3 9 zeroZ, kI cI q_4 9 zeroZ, kI cI q_5 9 zeroZ, kI cI q_6 8 zeroZ] := hD
  refine va_putF (D := dd) (ci := 7) (v := .ref q_6) (ty := .array .int) (C := RX7) (T := TX7) (N := 11) hx hb hts hi7 tyX7 tyX7_ok nmX7 hown hK hP hD hS 0 rfl rfl 7 (by decide) (hts _ (List.mem_cons_of_mem _ (List.mem_append_left _ (List.mem_of_getElem? (i := 9) rfl)))) (fun _ h9 => h9) rfl hnm rfl (by decide +kernel) rfl rfl (Nat.le_of_ble_eq_true rfl) dX7_init_49 (fun H locs hP hD hS => ?_)
  have hP : va_P dd vwCl [kO y0 7 [vI 0, .ref q_1, .ref q_2, vI 0, .ref q_3, .ref q_4, .ref q_5, .ref q_6, .null, vI 0, vI 0], kI cI q_1 21 zeroZ, kI cI q_2 126 zeroZ, kI cI q_3 9 zeroZ, kI cI q_4 9 zeroZ, kI cI q_5 9 zeroZ, kI cI q_6 8 zeroZ] H := hP
  have hD : va_D A [kO y0 7 [vI 0, .ref q_1, .ref q_2, vI 0, .ref q_3, .ref q_4, .ref q_5, .ref q_6, .null, vI 0, vI 0], kI cI q_1 21 zeroZ, kI cI q_2 126 zeroZ, kI cI q_3 9 zeroZ, kI cI q_4 9 zeroZ, kI cI q_5 9 zeroZ, kI cI q_6 8 zeroZ] := hD
  refine lv_aload_n hx hb dX7_init_52 rfl (lv_at hl 0 rfl) ?_
  refine z_bipush hx hb dX7_init_53 (by decide +kernel) ?_
  refine z_newi hx hb (hts _ (List.mem_cons_of_mem _ (List.mem_append_left _ (List.mem_of_getElem? (i := 3) rfl)))) hK hP hD hS hA 40 (by decide) (by decide) (by decide) dX7_init_55 (fun q_7 H hP hD hS => ?_)
  have hP : va_P dd vwCl [kO y0 7 [vI 0, .ref q_1, .ref q_2, vI 0, .ref q_3, .ref q_4, .ref q_5, .ref q_6, .null, vI 0, vI 0], kI cI q_1 21 zeroZ, kI cI q_2 126 zeroZ, kI cI q_3 9 zeroZ, kI cI q_4 9 zeroZ, kI cI q_5 9 zeroZ, kI cI q_6 8 zeroZ, kI cI q_7 40 zeroZ] H := hP
  have hD : va_D A [kO y0 7 [vI 0, .ref q_1, .ref q_2, vI 0, .ref q_3, .ref q_4, .ref q_5, .ref q_6, .null, vI 0, vI 0], kI cI q_1 21 zeroZ, kI cI q_2 126 zeroZ, kI cI q_3 9 zeroZ, kI cI q_4 9 zeroZ, kI cI q_5 9 zeroZ, kI cI q_6 8 zeroZ, kI cI q_7 40 zeroZ] := hD
  refine va_putF (D := dd) (ci := 7) (v := .ref q_7) (ty := .array .int) (C := RX7) (T := TX7) (N := 11) hx hb hts hi7 tyX7 tyX7_ok nmX7 hown hK hP hD hS 0 rfl rfl 8 (by decide) (hts _ (List.mem_cons_of_mem _ (List.mem_append_left _ (List.mem_of_getElem? (i := 10) rfl)))) (fun _ h9 => h9) rfl hnm rfl (by decide +kernel) rfl rfl (Nat.le_of_ble_eq_true rfl) dX7_init_57 (fun H locs hP hD hS => ?_)
  have hP : va_P dd vwCl [kO y0 7 [vI 0, .ref q_1, .ref q_2, vI 0, .ref q_3, .ref q_4, .ref q_5, .ref q_6, .ref q_7, vI 0, vI 0], kI cI q_1 21 zeroZ, kI cI q_2 126 zeroZ, kI cI q_3 9 zeroZ, kI cI q_4 9 zeroZ, kI cI q_5 9 zeroZ, kI cI q_6 8 zeroZ, kI cI q_7 40 zeroZ] H := hP
  have hD : va_D A [kO y0 7 [vI 0, .ref q_1, .ref q_2, vI 0, .ref q_3, .ref q_4, .ref q_5, .ref q_6, .ref q_7, vI 0, vI 0], kI cI q_1 21 zeroZ, kI cI q_2 126 zeroZ, kI cI q_3 9 zeroZ, kI cI q_4 9 zeroZ, kI cI q_5 9 zeroZ, kI cI q_6 8 zeroZ, kI cI q_7 40 zeroZ] := hD
  refine lv_aload_n hx hb dX7_init_60 rfl (lv_at hl 0 rfl) ?_
  refine lv_iload_n hx hb dX7_init_61 rfl (lv_at hl 1 rfl) ?_
  refine z_iconst hx hb dX7_init_62 ?_
  refine z_icmp_ge (tgt := 70) hx hb dX7_init_63 (by decide) (by omega) (fun c63 => ?_) (fun c63 => ?_)
  · skip
    refine lv_iload_n hx hb dX7_init_70 rfl (lv_at hl 1 rfl) ?_
    refine z_bipush hx hb dX7_init_71 (by decide +kernel) ?_
    refine z_icmp_le (tgt := 81) hx hb dX7_init_73 (by decide) (by omega) (fun c73 => ?_) (fun c73 => ?_)
    · skip
      refine lv_iload_n hx hb dX7_init_81 rfl (lv_at hl 1 rfl) ?_
      refine va_putF (D := dd) (ci := 7) (v := vI v) (ty := .int) (C := RX7) (T := TX7) (N := 11) hx hb hts hi7 tyX7 tyX7_ok nmX7 hown hK hP hD hS 0 rfl rfl 0 (by decide) (hts _ (List.mem_cons_of_mem _ (List.mem_append_left _ (List.mem_of_getElem? (i := 11) rfl)))) (fun _ h9 => h9) rfl hnm rfl (by decide +kernel) rfl rfl (Nat.le_of_ble_eq_true rfl) dX7_init_82 (fun H locs hP hD hS => ?_)
      have hP : va_P dd vwCl [kO y0 7 [vI v, .ref q_1, .ref q_2, vI 0, .ref q_3, .ref q_4, .ref q_5, .ref q_6, .ref q_7, vI 0, vI 0], kI cI q_1 21 zeroZ, kI cI q_2 126 zeroZ, kI cI q_3 9 zeroZ, kI cI q_4 9 zeroZ, kI cI q_5 9 zeroZ, kI cI q_6 8 zeroZ, kI cI q_7 40 zeroZ] H := hP
      have hD : va_D A [kO y0 7 [vI v, .ref q_1, .ref q_2, vI 0, .ref q_3, .ref q_4, .ref q_5, .ref q_6, .ref q_7, vI 0, vI 0], kI cI q_1 21 zeroZ, kI cI q_2 126 zeroZ, kI cI q_3 9 zeroZ, kI cI q_4 9 zeroZ, kI cI q_5 9 zeroZ, kI cI q_6 8 zeroZ, kI cI q_7 40 zeroZ] := hD
      have en9 : vI v = vI (nZ v) := congrArg _ (by unfold nZ; split <;> split <;> omega)
      rw [en9] at hP hD
      have hnz := nZ_rg v
      have hP : va_P dd vwCl [kO y0 7 [vI (nZ v), .ref q_1, .ref q_2, vI 0, .ref q_3, .ref q_4, .ref q_5, .ref q_6, .ref q_7, vI 0, vI 0], kI cI q_1 21 zeroZ, kI cI q_2 126 zeroZ, kI cI q_3 9 zeroZ, kI cI q_4 9 zeroZ, kI cI q_5 9 zeroZ, kI cI q_6 8 zeroZ, kI cI q_7 40 zeroZ] H := hP
      have hD : va_D A [kO y0 7 [vI (nZ v), .ref q_1, .ref q_2, vI 0, .ref q_3, .ref q_4, .ref q_5, .ref q_6, .ref q_7, vI 0, vI 0], kI cI q_1 21 zeroZ, kI cI q_2 126 zeroZ, kI cI q_3 9 zeroZ, kI cI q_4 9 zeroZ, kI cI q_5 9 zeroZ, kI cI q_6 8 zeroZ, kI cI q_7 40 zeroZ] := hD
      refine z_iconst hx hb dX7_init_85 ?_
      refine lv_istore_n (lv' := [(2, vI 0), (0, .ref y0), (1, vI v)]) hx hb dX7_init_86 rfl hl (by decide) rfl (fun ls hl => ?_)
      have L87 : ∀ (nn : Nat) (i : Int) (H : Heap) (locs : List Loc) (ls : Array Slot), ((nZ v + 1 - i).toNat) = nn → (0 ≤ i ∧ i ≤ nZ v) → va_P dd vwCl [kO y0 7 [vI (nZ v), .ref q_1, .ref q_2, vI 0, .ref q_3, .ref q_4, .ref q_5, .ref q_6, .ref q_7, vI 0, vI 0], kI cI q_1 21 (iniZ i), kI cI q_2 126 zeroZ, kI cI q_3 9 zeroZ, kI cI q_4 9 zeroZ, kI cI q_5 9 zeroZ, kI cI q_6 8 zeroZ, kI cI q_7 40 zeroZ] H → va_D A [kO y0 7 [vI (nZ v), .ref q_1, .ref q_2, vI 0, .ref q_3, .ref q_4, .ref q_5, .ref q_6, .ref q_7, vI 0, vI 0], kI cI q_1 21 (iniZ i), kI cI q_2 126 zeroZ, kI cI q_3 9 zeroZ, kI cI q_4 9 zeroZ, kI cI q_5 9 zeroZ, kI cI q_6 8 zeroZ, kI cI q_7 40 zeroZ] → va_S A s.heap H locs → lv_has ls 3 [(2, vI i), (0, .ref y0), (1, vI v)] → W p l e (gR 1 7 222) s m args below meth c H locs (((((((0 + 1) + 1) + 1) + 1) + 1) + 1) + 1) (((((((0 + 21) + 126) + 9) + 9) + 9) + 8) + 40) Q (F0 m 87 ls []) := by
        intro nn
        induction nn using Nat.strongRecOn with
        | ind nn L87i =>
        intro i H locs ls hmeas hi hP hD hS hl
        refine lv_iload_n hx hb dX7_init_87 rfl (lv_at hl 0 rfl) ?_
        refine lv_aload_n hx hb dX7_init_88 rfl (lv_at hl 1 rfl) ?_
        refine va_get (D := dd) (ci := 7) (v := vI (nZ v)) (C := RX7) (T := TX7) (N := 11) hx hb hts hi7 hown hK hP 0 rfl rfl 0 (by decide) (hts _ (List.mem_cons_of_mem _ (List.mem_append_left _ (List.mem_of_getElem? (i := 11) rfl)))) (fun _ h9 => h9) rfl dX7_init_89 ?_
        refine z_icmp_ge (tgt := 110) hx hb dX7_init_92 (by decide) (by omega) (fun c92 => ?_) (fun c92 => ?_)
        · skip
          have hin : i = nZ v := by omega
          subst hin
          subst hQ
          refine z_vret hx hb hr hlocks dX7_init_110 (q_1, q_2, q_3, q_4, q_5, q_6, q_7) hK hS ⟨by omega, by omega⟩ (hP.sub [0, 1, 2, 3, 4, 5, 6, 7] rfl) (hD.sub [0, 1, 2, 3, 4, 5, 6, 7] (by decide) rfl) ?_
          first | rfl | trivial | omega
        · skip
          refine lv_aload_n hx hb dX7_init_95 rfl (lv_at hl 1 rfl) ?_
          refine va_get (D := dd) (ci := 7) (v := .ref q_1) (C := RX7) (T := TX7) (N := 11) hx hb hts hi7 hown hK hP 0 rfl rfl 1 (by decide) (hts _ (List.mem_cons_of_mem _ (List.mem_append_left _ (List.mem_of_getElem? (i := 4) rfl)))) (fun _ h9 => h9) rfl dX7_init_96 ?_
          refine z_iconst hx hb dX7_init_99 ?_
          refine lv_iload_n hx hb dX7_init_100 rfl (lv_at hl 0 rfl) ?_
          refine z_iadd (z := (3 + i)) hx hb rfl dX7_init_101 ?_
          refine z_iconst hx hb dX7_init_102 ?_
          refine z_iast (ws' := [kO y0 7 [vI (nZ v), .ref q_1, .ref q_2, vI 0, .ref q_3, .ref q_4, .ref q_5, .ref q_6, .ref q_7, vI 0, vI 0], kI cI q_1 21 (uZ (iniZ i) (3 + i) 1), kI cI q_2 126 zeroZ, kI cI q_3 9 zeroZ, kI cI q_4 9 zeroZ, kI cI q_5 9 zeroZ, kI cI q_6 8 zeroZ, kI cI q_7 40 zeroZ]) hx hb hK hP hD hS 1 0 rfl rfl (i := (3 + i)) (x := 1) (by omega) (by decide) dX7_init_103 rfl (fun H locs hP hD hS => ?_)
          refine z_iinc (a := i) (z := (i + 1)) (lv' := [(2, vI (i + 1)), (0, .ref y0), (1, vI v)]) hx hb dX7_init_104 hl (k := 0) rfl rfl (by decide) rfl (fun ls hl => ?_)
          refine lv_goto (tgt := 87) hx hb dX7_init_107 (by decide) ?_
          have el_8 : kI cI q_1 21 (uZ (iniZ i) (3 + i) 1) = kI cI q_1 21 (iniZ (i + 1)) := kI_congr (congrArg aZ (iniZ_s (by omega)))
          rw [el_8] at hP hD
          exact L87i _ (by omega) (i + 1) H locs ls rfl (by omega) hP hD hS hl
      have el_9 : kI cI q_1 21 zeroZ = kI cI q_1 21 (iniZ 0) := kI_congr (congrArg aZ iniZ_0)
      rw [el_9] at hP hD
      exact L87 _ 0 H locs ls rfl (by omega) hP hD hS hl
    · skip
      refine z_bipush hx hb dX7_init_76 (by decide +kernel) ?_
      refine lv_goto (tgt := 82) hx hb dX7_init_78 (by decide) ?_
      refine va_putF (D := dd) (ci := 7) (v := vI 8) (ty := .int) (C := RX7) (T := TX7) (N := 11) hx hb hts hi7 tyX7 tyX7_ok nmX7 hown hK hP hD hS 0 rfl rfl 0 (by decide) (hts _ (List.mem_cons_of_mem _ (List.mem_append_left _ (List.mem_of_getElem? (i := 11) rfl)))) (fun _ h9 => h9) rfl hnm rfl (by decide +kernel) rfl rfl (Nat.le_of_ble_eq_true rfl) dX7_init_82 (fun H locs hP hD hS => ?_)
      have hP : va_P dd vwCl [kO y0 7 [vI 8, .ref q_1, .ref q_2, vI 0, .ref q_3, .ref q_4, .ref q_5, .ref q_6, .ref q_7, vI 0, vI 0], kI cI q_1 21 zeroZ, kI cI q_2 126 zeroZ, kI cI q_3 9 zeroZ, kI cI q_4 9 zeroZ, kI cI q_5 9 zeroZ, kI cI q_6 8 zeroZ, kI cI q_7 40 zeroZ] H := hP
      have hD : va_D A [kO y0 7 [vI 8, .ref q_1, .ref q_2, vI 0, .ref q_3, .ref q_4, .ref q_5, .ref q_6, .ref q_7, vI 0, vI 0], kI cI q_1 21 zeroZ, kI cI q_2 126 zeroZ, kI cI q_3 9 zeroZ, kI cI q_4 9 zeroZ, kI cI q_5 9 zeroZ, kI cI q_6 8 zeroZ, kI cI q_7 40 zeroZ] := hD
      have en9 : vI 8 = vI (nZ v) := congrArg _ (by unfold nZ; split <;> split <;> omega)
      rw [en9] at hP hD
      have hnz := nZ_rg v
      have hP : va_P dd vwCl [kO y0 7 [vI (nZ v), .ref q_1, .ref q_2, vI 0, .ref q_3, .ref q_4, .ref q_5, .ref q_6, .ref q_7, vI 0, vI 0], kI cI q_1 21 zeroZ, kI cI q_2 126 zeroZ, kI cI q_3 9 zeroZ, kI cI q_4 9 zeroZ, kI cI q_5 9 zeroZ, kI cI q_6 8 zeroZ, kI cI q_7 40 zeroZ] H := hP
      have hD : va_D A [kO y0 7 [vI (nZ v), .ref q_1, .ref q_2, vI 0, .ref q_3, .ref q_4, .ref q_5, .ref q_6, .ref q_7, vI 0, vI 0], kI cI q_1 21 zeroZ, kI cI q_2 126 zeroZ, kI cI q_3 9 zeroZ, kI cI q_4 9 zeroZ, kI cI q_5 9 zeroZ, kI cI q_6 8 zeroZ, kI cI q_7 40 zeroZ] := hD
      refine z_iconst hx hb dX7_init_85 ?_
      refine lv_istore_n (lv' := [(2, vI 0), (0, .ref y0), (1, vI v)]) hx hb dX7_init_86 rfl hl (by decide) rfl (fun ls hl => ?_)
      have L87 : ∀ (nn : Nat) (i : Int) (H : Heap) (locs : List Loc) (ls : Array Slot), ((nZ v + 1 - i).toNat) = nn → (0 ≤ i ∧ i ≤ nZ v) → va_P dd vwCl [kO y0 7 [vI (nZ v), .ref q_1, .ref q_2, vI 0, .ref q_3, .ref q_4, .ref q_5, .ref q_6, .ref q_7, vI 0, vI 0], kI cI q_1 21 (iniZ i), kI cI q_2 126 zeroZ, kI cI q_3 9 zeroZ, kI cI q_4 9 zeroZ, kI cI q_5 9 zeroZ, kI cI q_6 8 zeroZ, kI cI q_7 40 zeroZ] H → va_D A [kO y0 7 [vI (nZ v), .ref q_1, .ref q_2, vI 0, .ref q_3, .ref q_4, .ref q_5, .ref q_6, .ref q_7, vI 0, vI 0], kI cI q_1 21 (iniZ i), kI cI q_2 126 zeroZ, kI cI q_3 9 zeroZ, kI cI q_4 9 zeroZ, kI cI q_5 9 zeroZ, kI cI q_6 8 zeroZ, kI cI q_7 40 zeroZ] → va_S A s.heap H locs → lv_has ls 3 [(2, vI i), (0, .ref y0), (1, vI v)] → W p l e (gR 1 7 222) s m args below meth c H locs (((((((0 + 1) + 1) + 1) + 1) + 1) + 1) + 1) (((((((0 + 21) + 126) + 9) + 9) + 9) + 8) + 40) Q (F0 m 87 ls []) := by
        intro nn
        induction nn using Nat.strongRecOn with
        | ind nn L87i =>
        intro i H locs ls hmeas hi hP hD hS hl
        refine lv_iload_n hx hb dX7_init_87 rfl (lv_at hl 0 rfl) ?_
        refine lv_aload_n hx hb dX7_init_88 rfl (lv_at hl 1 rfl) ?_
        refine va_get (D := dd) (ci := 7) (v := vI (nZ v)) (C := RX7) (T := TX7) (N := 11) hx hb hts hi7 hown hK hP 0 rfl rfl 0 (by decide) (hts _ (List.mem_cons_of_mem _ (List.mem_append_left _ (List.mem_of_getElem? (i := 11) rfl)))) (fun _ h9 => h9) rfl dX7_init_89 ?_
        refine z_icmp_ge (tgt := 110) hx hb dX7_init_92 (by decide) (by omega) (fun c92 => ?_) (fun c92 => ?_)
        · skip
          have hin : i = nZ v := by omega
          subst hin
          subst hQ
          refine z_vret hx hb hr hlocks dX7_init_110 (q_1, q_2, q_3, q_4, q_5, q_6, q_7) hK hS ⟨by omega, by omega⟩ (hP.sub [0, 1, 2, 3, 4, 5, 6, 7] rfl) (hD.sub [0, 1, 2, 3, 4, 5, 6, 7] (by decide) rfl) ?_
          first | rfl | trivial | omega
        · skip
          refine lv_aload_n hx hb dX7_init_95 rfl (lv_at hl 1 rfl) ?_
          refine va_get (D := dd) (ci := 7) (v := .ref q_1) (C := RX7) (T := TX7) (N := 11) hx hb hts hi7 hown hK hP 0 rfl rfl 1 (by decide) (hts _ (List.mem_cons_of_mem _ (List.mem_append_left _ (List.mem_of_getElem? (i := 4) rfl)))) (fun _ h9 => h9) rfl dX7_init_96 ?_
          refine z_iconst hx hb dX7_init_99 ?_
          refine lv_iload_n hx hb dX7_init_100 rfl (lv_at hl 0 rfl) ?_
          refine z_iadd (z := (3 + i)) hx hb rfl dX7_init_101 ?_
          refine z_iconst hx hb dX7_init_102 ?_
          refine z_iast (ws' := [kO y0 7 [vI (nZ v), .ref q_1, .ref q_2, vI 0, .ref q_3, .ref q_4, .ref q_5, .ref q_6, .ref q_7, vI 0, vI 0], kI cI q_1 21 (uZ (iniZ i) (3 + i) 1), kI cI q_2 126 zeroZ, kI cI q_3 9 zeroZ, kI cI q_4 9 zeroZ, kI cI q_5 9 zeroZ, kI cI q_6 8 zeroZ, kI cI q_7 40 zeroZ]) hx hb hK hP hD hS 1 0 rfl rfl (i := (3 + i)) (x := 1) (by omega) (by decide) dX7_init_103 rfl (fun H locs hP hD hS => ?_)
          refine z_iinc (a := i) (z := (i + 1)) (lv' := [(2, vI (i + 1)), (0, .ref y0), (1, vI v)]) hx hb dX7_init_104 hl (k := 0) rfl rfl (by decide) rfl (fun ls hl => ?_)
          refine lv_goto (tgt := 87) hx hb dX7_init_107 (by decide) ?_
          have el_10 : kI cI q_1 21 (uZ (iniZ i) (3 + i) 1) = kI cI q_1 21 (iniZ (i + 1)) := kI_congr (congrArg aZ (iniZ_s (by omega)))
          rw [el_10] at hP hD
          exact L87i _ (by omega) (i + 1) H locs ls rfl (by omega) hP hD hS hl
      have el_11 : kI cI q_1 21 zeroZ = kI cI q_1 21 (iniZ 0) := kI_congr (congrArg aZ iniZ_0)
      rw [el_11] at hP hD
      exact L87 _ 0 H locs ls rfl (by omega) hP hD hS hl
  · skip
    refine z_iconst hx hb dX7_init_66 ?_
    refine lv_goto (tgt := 82) hx hb dX7_init_67 (by decide) ?_
    refine va_putF (D := dd) (ci := 7) (v := vI 1) (ty := .int) (C := RX7) (T := TX7) (N := 11) hx hb hts hi7 tyX7 tyX7_ok nmX7 hown hK hP hD hS 0 rfl rfl 0 (by decide) (hts _ (List.mem_cons_of_mem _ (List.mem_append_left _ (List.mem_of_getElem? (i := 11) rfl)))) (fun _ h9 => h9) rfl hnm rfl (by decide +kernel) rfl rfl (Nat.le_of_ble_eq_true rfl) dX7_init_82 (fun H locs hP hD hS => ?_)
    have hP : va_P dd vwCl [kO y0 7 [vI 1, .ref q_1, .ref q_2, vI 0, .ref q_3, .ref q_4, .ref q_5, .ref q_6, .ref q_7, vI 0, vI 0], kI cI q_1 21 zeroZ, kI cI q_2 126 zeroZ, kI cI q_3 9 zeroZ, kI cI q_4 9 zeroZ, kI cI q_5 9 zeroZ, kI cI q_6 8 zeroZ, kI cI q_7 40 zeroZ] H := hP
    have hD : va_D A [kO y0 7 [vI 1, .ref q_1, .ref q_2, vI 0, .ref q_3, .ref q_4, .ref q_5, .ref q_6, .ref q_7, vI 0, vI 0], kI cI q_1 21 zeroZ, kI cI q_2 126 zeroZ, kI cI q_3 9 zeroZ, kI cI q_4 9 zeroZ, kI cI q_5 9 zeroZ, kI cI q_6 8 zeroZ, kI cI q_7 40 zeroZ] := hD
    have en9 : vI 1 = vI (nZ v) := congrArg _ (by unfold nZ; split <;> split <;> omega)
    rw [en9] at hP hD
    have hnz := nZ_rg v
    have hP : va_P dd vwCl [kO y0 7 [vI (nZ v), .ref q_1, .ref q_2, vI 0, .ref q_3, .ref q_4, .ref q_5, .ref q_6, .ref q_7, vI 0, vI 0], kI cI q_1 21 zeroZ, kI cI q_2 126 zeroZ, kI cI q_3 9 zeroZ, kI cI q_4 9 zeroZ, kI cI q_5 9 zeroZ, kI cI q_6 8 zeroZ, kI cI q_7 40 zeroZ] H := hP
    have hD : va_D A [kO y0 7 [vI (nZ v), .ref q_1, .ref q_2, vI 0, .ref q_3, .ref q_4, .ref q_5, .ref q_6, .ref q_7, vI 0, vI 0], kI cI q_1 21 zeroZ, kI cI q_2 126 zeroZ, kI cI q_3 9 zeroZ, kI cI q_4 9 zeroZ, kI cI q_5 9 zeroZ, kI cI q_6 8 zeroZ, kI cI q_7 40 zeroZ] := hD
    refine z_iconst hx hb dX7_init_85 ?_
    refine lv_istore_n (lv' := [(2, vI 0), (0, .ref y0), (1, vI v)]) hx hb dX7_init_86 rfl hl (by decide) rfl (fun ls hl => ?_)
    have L87 : ∀ (nn : Nat) (i : Int) (H : Heap) (locs : List Loc) (ls : Array Slot), ((nZ v + 1 - i).toNat) = nn → (0 ≤ i ∧ i ≤ nZ v) → va_P dd vwCl [kO y0 7 [vI (nZ v), .ref q_1, .ref q_2, vI 0, .ref q_3, .ref q_4, .ref q_5, .ref q_6, .ref q_7, vI 0, vI 0], kI cI q_1 21 (iniZ i), kI cI q_2 126 zeroZ, kI cI q_3 9 zeroZ, kI cI q_4 9 zeroZ, kI cI q_5 9 zeroZ, kI cI q_6 8 zeroZ, kI cI q_7 40 zeroZ] H → va_D A [kO y0 7 [vI (nZ v), .ref q_1, .ref q_2, vI 0, .ref q_3, .ref q_4, .ref q_5, .ref q_6, .ref q_7, vI 0, vI 0], kI cI q_1 21 (iniZ i), kI cI q_2 126 zeroZ, kI cI q_3 9 zeroZ, kI cI q_4 9 zeroZ, kI cI q_5 9 zeroZ, kI cI q_6 8 zeroZ, kI cI q_7 40 zeroZ] → va_S A s.heap H locs → lv_has ls 3 [(2, vI i), (0, .ref y0), (1, vI v)] → W p l e (gR 1 7 222) s m args below meth c H locs (((((((0 + 1) + 1) + 1) + 1) + 1) + 1) + 1) (((((((0 + 21) + 126) + 9) + 9) + 9) + 8) + 40) Q (F0 m 87 ls []) := by
      intro nn
      induction nn using Nat.strongRecOn with
      | ind nn L87i =>
      intro i H locs ls hmeas hi hP hD hS hl
      refine lv_iload_n hx hb dX7_init_87 rfl (lv_at hl 0 rfl) ?_
      refine lv_aload_n hx hb dX7_init_88 rfl (lv_at hl 1 rfl) ?_
      refine va_get (D := dd) (ci := 7) (v := vI (nZ v)) (C := RX7) (T := TX7) (N := 11) hx hb hts hi7 hown hK hP 0 rfl rfl 0 (by decide) (hts _ (List.mem_cons_of_mem _ (List.mem_append_left _ (List.mem_of_getElem? (i := 11) rfl)))) (fun _ h9 => h9) rfl dX7_init_89 ?_
      refine z_icmp_ge (tgt := 110) hx hb dX7_init_92 (by decide) (by omega) (fun c92 => ?_) (fun c92 => ?_)
      · skip
        have hin : i = nZ v := by omega
        subst hin
        subst hQ
        refine z_vret hx hb hr hlocks dX7_init_110 (q_1, q_2, q_3, q_4, q_5, q_6, q_7) hK hS ⟨by omega, by omega⟩ (hP.sub [0, 1, 2, 3, 4, 5, 6, 7] rfl) (hD.sub [0, 1, 2, 3, 4, 5, 6, 7] (by decide) rfl) ?_
        first | rfl | trivial | omega
      · skip
        refine lv_aload_n hx hb dX7_init_95 rfl (lv_at hl 1 rfl) ?_
        refine va_get (D := dd) (ci := 7) (v := .ref q_1) (C := RX7) (T := TX7) (N := 11) hx hb hts hi7 hown hK hP 0 rfl rfl 1 (by decide) (hts _ (List.mem_cons_of_mem _ (List.mem_append_left _ (List.mem_of_getElem? (i := 4) rfl)))) (fun _ h9 => h9) rfl dX7_init_96 ?_
        refine z_iconst hx hb dX7_init_99 ?_
        refine lv_iload_n hx hb dX7_init_100 rfl (lv_at hl 0 rfl) ?_
        refine z_iadd (z := (3 + i)) hx hb rfl dX7_init_101 ?_
        refine z_iconst hx hb dX7_init_102 ?_
        refine z_iast (ws' := [kO y0 7 [vI (nZ v), .ref q_1, .ref q_2, vI 0, .ref q_3, .ref q_4, .ref q_5, .ref q_6, .ref q_7, vI 0, vI 0], kI cI q_1 21 (uZ (iniZ i) (3 + i) 1), kI cI q_2 126 zeroZ, kI cI q_3 9 zeroZ, kI cI q_4 9 zeroZ, kI cI q_5 9 zeroZ, kI cI q_6 8 zeroZ, kI cI q_7 40 zeroZ]) hx hb hK hP hD hS 1 0 rfl rfl (i := (3 + i)) (x := 1) (by omega) (by decide) dX7_init_103 rfl (fun H locs hP hD hS => ?_)
        refine z_iinc (a := i) (z := (i + 1)) (lv' := [(2, vI (i + 1)), (0, .ref y0), (1, vI v)]) hx hb dX7_init_104 hl (k := 0) rfl rfl (by decide) rfl (fun ls hl => ?_)
        refine lv_goto (tgt := 87) hx hb dX7_init_107 (by decide) ?_
        have el_12 : kI cI q_1 21 (uZ (iniZ i) (3 + i) 1) = kI cI q_1 21 (iniZ (i + 1)) := kI_congr (congrArg aZ (iniZ_s (by omega)))
        rw [el_12] at hP hD
        exact L87i _ (by omega) (i + 1) H locs ls rfl (by omega) hP hD hS hl
    have el_13 : kI cI q_1 21 zeroZ = kI cI q_1 21 (iniZ 0) := kI_congr (congrArg aZ iniZ_0)
    rw [el_13] at hP hD
    exact L87 _ 0 H locs ls rfl (by omega) hP hD hS hl

