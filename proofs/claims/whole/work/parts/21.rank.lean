/-! ranks -/
def cB (n : Int) (cap : Int → Int) (ru re : Int) (m : Nat) (st : Int → Int) (s : Int) : Int := if 0 ≤ pP n cap st ru re s then cL n cap ru re 0 m (stp st (pP n cap st ru re s)) 0 else 0
theorem cB_congr {n : Int} {cap cap2 : Int → Int} {ru re : Int} {st st2 : Int → Int} {s : Int} (m : Nat) (hn : 1 ≤ n) (hc : ∀ j : Int, 0 ≤ j → j < n → cap j = cap2 j) (h : ∀ j : Int, 0 ≤ j → j < n → st j = st2 j) : cB n cap ru re m st s = cB n cap2 ru re m st2 s := by
  have e : pP n cap st ru re s = pP n cap2 st2 ru re s := pP_congr hc h
  have e2 := pP_rg n cap2 st2 ru re s
  unfold cB
  rw [e]
  split
  · exact cL_cong2 hn hc m _ _ _ (stp_congr h (by omega))
  · rfl
theorem cB_rg {n : Int} {cap : Int → Int} {ru re : Int} (m : Nat) {st : Int → Int} {s : Int} (hn : 1 ≤ n ∧ n ≤ 8) : 0 ≤ cB n cap ru re m st s ∧ cB n cap ru re m st s ≤ 8 ^ m := by
  unfold cB
  split
  · exact cL_rg hn m _ _
  · exact ⟨Int.le_refl _, by have : (0 : Int) < 8 ^ m := Int.pow_pos (by decide); omega⟩
theorem cT_cB {n : Int} {cap : Int → Int} {ru re : Int} {m : Nat} {st : Int → Int} {s : Int} : cT n cap ru re 0 m st 0 s = cB n cap ru re m st s := by
  have e := pP_rg n cap st ru re s
  unfold cT cB shr
  rw [if_neg (show ¬ (0 : Int) = 1 by omega), if_neg (show ¬ (0 : Int) = 2 by omega)]
  by_cases q : pP n cap st ru re s = -1
  · rw [if_pos q, if_neg (by omega), if_neg (by omega)]
  · rw [if_neg q, if_pos (by omega), if_pos (by omega)]
    rfl

set_option maxHeartbeats 4000000 in
set_option maxRecDepth 100000 in
theorem c_X6_countBeginningWith (l : Launch) (dd : va_G) (cI cJ cC cS : ClassId) (x0 s0 h0 l0 m0 p0 e0 w0 t0 l1 l2 l3 l4 l5 m1 m2 : Nat) (n tl : Int) (lru lre lar lfi : Int) (lcap lst lwi lpl llk : Int → Int) (ky vl : Int → Int) (sx cm : Int) (sz : Nat) (hn : 1 ≤ n ∧ n ≤ 8) (hlcap : ∀ j : Int, 0 ≤ j → j < n → 0 ≤ lcap j ∧ lcap j ≤ 3) (hlst : ∀ j : Int, 0 ≤ j → j < n → 0 ≤ lst j ∧ lst j ≤ 3) (hlru : 0 ≤ lru ∧ lru ≤ 3) (hlre : 0 ≤ lre ∧ lre ≤ 8) (hcm : 0 ≤ cm ∧ 0 ≤ lar ∧ lar + 1 + cm ≤ 9) (hs0 : 0 ≤ sx ∧ sx < n) (hfi : lfi = fil lst n) (hmo : mOK n lcap lru lre 0 ky vl) : gMi l yX6_countBeginningWith wsX6_countBeginningWith 15 0 0 dd cI cJ cC cS [.ref x0, vI sx, vI cm] [kO x0 6 [vI n, .ref s0, .ref h0, .ref l0, .ref m0, .ref p0, .ref e0, .ref w0, .ref t0, vI tl], kO l0 1 [vI n, .ref l1, .ref l2, .ref l3, .ref l4, .ref l5, vI lru, vI lre, vI lar, vI lfi], kI cI l1 8 lcap, kI cI l2 8 lst, kI cI l3 9 lwi, kI cI l4 9 lpl, kI cI l5 9 llk, kO m0 2 [.ref m1, .ref m2], kL cJ m1 1024 ky, kI cI m2 1024 vl] sz (fun (z : Int) (u : (Int → Int) × (Int → Int) × (Int → Int) × (Int → Int) × (Int → Int)) => z = cB n lcap lru lre cm.toNat lst sx ∧ (∀ j : Int, 0 ≤ j → j < lar → u.1 j = lwi j ∧ u.2.1 j = lpl j ∧ u.2.2.1 j = llk j) ∧ mOK n lcap lru lre 0 u.2.2.2.1 u.2.2.2.2) (fun (u : (Int → Int) × (Int → Int) × (Int → Int) × (Int → Int) × (Int → Int)) => [kO x0 6 [vI n, .ref s0, .ref h0, .ref l0, .ref m0, .ref p0, .ref e0, .ref w0, .ref t0, vI tl], kO l0 1 [vI n, .ref l1, .ref l2, .ref l3, .ref l4, .ref l5, vI lru, vI lre, vI lar, vI lfi], kI cI l1 8 lcap, kI cI l2 8 lst, kI cI l3 9 u.1, kI cI l4 9 u.2.1, kI cI l5 9 u.2.2.1, kO m0 2 [.ref m1, .ref m2], kL cJ m1 1024 u.2.2.2.1, kI cI m2 1024 u.2.2.2.2]) := by
  refine gMi_of (cc := cX6_countBeginningWith) (maxL := 4) (ret := (some .int)) (by decide) rfl (Nat.le_of_ble_eq_true rfl) ?_
  intro p e s m args below meth c A Q hQ hx hb hr hts hown hlocks hnm hml H locs hP hK hD hA hS ls hl
  have hi6 : ∀ w ∈ wsX60, w ∈ wsX6_countBeginningWith := fun _ h => (List.mem_cons_of_mem _ (List.mem_append_left _ (List.mem_append_left _ (List.mem_append_right _ h))))
  have hl : lv_has ls 4 [(0, .ref x0), (1, vI sx), (2, vI cm)] := hl
  refine lv_aload_n hx hb dX6_countBeginningWith_0 rfl (lv_at hl 0 rfl) ?_
  refine va_get (D := dd) (ci := 6) (v := .ref l0) (C := RX6) (T := TX6) (N := 10) hx hb hts hi6 hown hK hP 0 rfl rfl 3 (by decide) (hts _ (List.mem_cons_of_mem _ (List.mem_append_left _ (List.mem_append_left _ (List.mem_append_left _ (List.mem_append_left _ (List.mem_of_getElem? (i := 0) rfl))))))) (fun _ h9 => h9) rfl dX6_countBeginningWith_1 ?_
  refine lv_iload_n hx hb dX6_countBeginningWith_4 rfl (lv_at hl 1 rfl) ?_
  refine g_callVi (own := RX6) (n := 1) (mc := 0) (ms := 0) (As := [vI sx]) (rest := []) (wc := [kO l0 1 [vI n, .ref l1, .ref l2, .ref l3, .ref l4, .ref l5, vI lru, vI lre, vI lar, vI lfi], kI cI l1 8 lcap, kI cI l2 8 lst, kI cI l3 9 lwi, kI cI l4 9 lpl, kI cI l5 9 llk]) (wr := [kO x0 6 [vI n, .ref s0, .ref h0, .ref l0, .ref m0, .ref p0, .ref e0, .ref w0, .ref t0, vI tl], kO m0 2 [.ref m1, .ref m2], kL cJ m1 1024 ky, kI cI m2 1024 vl]) hx hb hml hown hts hK hP hD hS hA [1, 2, 3, 4, 5, 6] [0, 7, 8, 9] rfl rfl (by decide) (by decide) 1 0 rfl rfl (c_X1_arrive l dd cI cJ cC cS l0 l1 l2 l3 l4 l5 n lru lre lar lfi lcap lst lwi lpl llk sx H.size  (by first | assumption | omega) (by first | assumption | (intro j h0 h1; omega)) (by first | assumption | (intro j h0 h1; omega)) (by first | assumption | omega) (by first | assumption | omega) (by first | assumption | omega) (by first | assumption | omega)) gX6_countBeginningWith_X1_arrive rfl (by decide +kernel) (by decide) (by decide) (by decide) (by decide) rfl hl.1 rfl (Nat.le_of_ble_eq_true rfl) dX6_countBeginningWith_5 (fun z_1 u_2 H locs hp5 hP hD hS => ?_)
  subst z_1
  have hP : va_P dd vwCl [kO x0 6 [vI n, .ref s0, .ref h0, .ref l0, .ref m0, .ref p0, .ref e0, .ref w0, .ref t0, vI tl], kO m0 2 [.ref m1, .ref m2], kL cJ m1 1024 ky, kI cI m2 1024 vl, kO l0 1 [vI n, .ref l1, .ref l2, .ref l3, .ref l4, .ref l5, vI lru, vI lre, vI (lar + 1), vI (lfi + flp (pP n lcap lst lru lre sx))], kI cI l1 8 lcap, kI cI l2 8 (stp lst (pP n lcap lst lru lre sx)), kI cI l3 9 (uZ lwi lar sx), kI cI l4 9 (uZ lpl lar (pP n lcap lst lru lre sx)), kI cI l5 9 (uZ llk lar (pK n lcap lst lru lre sx))] H := hP
  have hD : va_D A [kO x0 6 [vI n, .ref s0, .ref h0, .ref l0, .ref m0, .ref p0, .ref e0, .ref w0, .ref t0, vI tl], kO m0 2 [.ref m1, .ref m2], kL cJ m1 1024 ky, kI cI m2 1024 vl, kO l0 1 [vI n, .ref l1, .ref l2, .ref l3, .ref l4, .ref l5, vI lru, vI lre, vI (lar + 1), vI (lfi + flp (pP n lcap lst lru lre sx))], kI cI l1 8 lcap, kI cI l2 8 (stp lst (pP n lcap lst lru lre sx)), kI cI l3 9 (uZ lwi lar sx), kI cI l4 9 (uZ lpl lar (pP n lcap lst lru lre sx)), kI cI l5 9 (uZ llk lar (pK n lcap lst lru lre sx))] := hD
  have hpp := pP_rg n lcap lst lru lre sx
  have hsr := stp_rg (ru := lru) (re := lre) (p := sx) hlcap hlst
  have hff := fil_stp (st := lst) (n := n) (p := (pP n lcap lst lru lre sx)) (by omega)
  by_cases hpk : 0 ≤ (pP n lcap lst lru lre sx)
  · skip
    refine z_bin (va := .null) (vb := .null) (y := zI 1) (congrArg zI (if_pos hpk)) ?_
    refine z_if_eq (tgt := 28) hx hb dX6_countBeginningWith_8 (by decide) (by omega) (fun c8 => ?_) (fun c8 => ?_)
    · exact absurd c8 (by omega)
    · skip
      refine lv_aload_n hx hb dX6_countBeginningWith_11 rfl (lv_at hl 0 rfl) ?_
      refine va_get (D := dd) (ci := 6) (v := .ref l0) (C := RX6) (T := TX6) (N := 10) hx hb hts hi6 hown hK hP 0 rfl rfl 3 (by decide) (hts _ (List.mem_cons_of_mem _ (List.mem_append_left _ (List.mem_append_left _ (List.mem_append_left _ (List.mem_append_left _ (List.mem_of_getElem? (i := 0) rfl))))))) (fun _ h9 => h9) rfl dX6_countBeginningWith_12 ?_
      refine lv_aload_n hx hb dX6_countBeginningWith_15 rfl (lv_at hl 0 rfl) ?_
      refine va_get (D := dd) (ci := 6) (v := .ref m0) (C := RX6) (T := TX6) (N := 10) hx hb hts hi6 hown hK hP 0 rfl rfl 4 (by decide) (hts _ (List.mem_cons_of_mem _ (List.mem_append_left _ (List.mem_append_left _ (List.mem_append_left _ (List.mem_append_left _ (List.mem_of_getElem? (i := 1) rfl))))))) (fun _ h9 => h9) rfl dX6_countBeginningWith_16 ?_
      refine lv_iload_n hx hb dX6_countBeginningWith_19 rfl (lv_at hl 2 rfl) ?_
      refine z_iconst hx hb dX6_countBeginningWith_20 ?_
      refine z_iconst hx hb dX6_countBeginningWith_21 ?_
      refine g_callSi (own := RX6) (n := 5) (mc := 0) (ms := 0) (As := [.ref l0, .ref m0, vI cm, vI 0, vI 0]) (rest := []) (wc := [kO l0 1 [vI n, .ref l1, .ref l2, .ref l3, .ref l4, .ref l5, vI lru, vI lre, vI (lar + 1), vI (lfi + flp (pP n lcap lst lru lre sx))], kI cI l1 8 lcap, kI cI l2 8 (stp lst (pP n lcap lst lru lre sx)), kI cI l3 9 (uZ lwi lar sx), kI cI l4 9 (uZ lpl lar (pP n lcap lst lru lre sx)), kI cI l5 9 (uZ llk lar (pK n lcap lst lru lre sx)), kO m0 2 [.ref m1, .ref m2], kL cJ m1 1024 ky, kI cI m2 1024 vl]) (wr := [kO x0 6 [vI n, .ref s0, .ref h0, .ref l0, .ref m0, .ref p0, .ref e0, .ref w0, .ref t0, vI tl]]) hx hb hml hown hts hK hP hD hS hA [4, 5, 6, 7, 8, 9, 1, 2, 3] [0] rfl rfl (by decide) (by decide) (c_X6_countLists l dd cI cJ cC cS l0 l1 l2 l3 l4 l5 m0 m1 m2 n lru lre (lar + 1) (lfi + flp (pP n lcap lst lru lre sx)) lcap (stp lst (pP n lcap lst lru lre sx)) (uZ lwi lar sx) (uZ lpl lar (pP n lcap lst lru lre sx)) (uZ llk lar (pK n lcap lst lru lre sx)) ky vl cm 0 0 H.size  (by first | assumption | omega) (hlcap) (hsr) (by first | assumption | omega) (by first | assumption | omega) (by first | assumption | omega) (by first | assumption | omega) (by first | assumption | omega) (by rw [hfi]; exact hff) (hmo)) gX6_countBeginningWith_X6_countLists rfl (by decide +kernel) (by decide) (by first | decide | (show _ ≤ 15; omega) | (show _ ≤ 600; omega)) (by first | decide | (show _ ≤ 15; omega) | (show _ ≤ 600; omega)) (by decide) rfl hl.1 rfl (Nat.le_of_ble_eq_true rfl) dX6_countBeginningWith_22 (fun z_3 u_4 H locs hp22 hP hD hS => ?_)
      obtain ⟨wi1_5, pl1_6, lk1_7, ky1_8, vl1_9⟩ := u_4
      try dsimp only at hp22
      obtain ⟨z_3e, hp22⟩ := hp22
      subst z_3
      obtain ⟨hq22, hqm22⟩ := hp22
      have hP : va_P dd vwCl [kO x0 6 [vI n, .ref s0, .ref h0, .ref l0, .ref m0, .ref p0, .ref e0, .ref w0, .ref t0, vI tl], kO l0 1 [vI n, .ref l1, .ref l2, .ref l3, .ref l4, .ref l5, vI lru, vI lre, vI (lar + 1), vI (lfi + flp (pP n lcap lst lru lre sx))], kI cI l1 8 lcap, kI cI l2 8 (stp lst (pP n lcap lst lru lre sx)), kI cI l3 9 wi1_5, kI cI l4 9 pl1_6, kI cI l5 9 lk1_7, kO m0 2 [.ref m1, .ref m2], kL cJ m1 1024 ky1_8, kI cI m2 1024 vl1_9] H := hP
      have hD : va_D A [kO x0 6 [vI n, .ref s0, .ref h0, .ref l0, .ref m0, .ref p0, .ref e0, .ref w0, .ref t0, vI tl], kO l0 1 [vI n, .ref l1, .ref l2, .ref l3, .ref l4, .ref l5, vI lru, vI lre, vI (lar + 1), vI (lfi + flp (pP n lcap lst lru lre sx))], kI cI l1 8 lcap, kI cI l2 8 (stp lst (pP n lcap lst lru lre sx)), kI cI l3 9 wi1_5, kI cI l4 9 pl1_6, kI cI l5 9 lk1_7, kO m0 2 [.ref m1, .ref m2], kL cJ m1 1024 ky1_8, kI cI m2 1024 vl1_9] := hD
      refine lv_goto (tgt := 29) hx hb dX6_countBeginningWith_25 (by decide) ?_
      refine lv_istore_n (lv' := [(3, vI (cL n lcap lru lre 0 cm.toNat (stp lst (pP n lcap lst lru lre sx)) 0)), (0, .ref x0), (1, vI sx), (2, vI cm)]) hx hb dX6_countBeginningWith_29 rfl hl (by decide) rfl (fun ls hl => ?_)
      refine lv_aload_n hx hb dX6_countBeginningWith_30 rfl (lv_at hl 1 rfl) ?_
      refine va_get (D := dd) (ci := 6) (v := .ref l0) (C := RX6) (T := TX6) (N := 10) hx hb hts hi6 hown hK hP 0 rfl rfl 3 (by decide) (hts _ (List.mem_cons_of_mem _ (List.mem_append_left _ (List.mem_append_left _ (List.mem_append_left _ (List.mem_append_left _ (List.mem_of_getElem? (i := 0) rfl))))))) (fun _ h9 => h9) rfl dX6_countBeginningWith_31 ?_
      have hX : pl1_6 (lar + 1 - 1) = (pP n lcap lst lru lre sx) := by
        rw [show lar + 1 - 1 = lar by omega]
        first | exact uZ_same _ _ _ | exact (hq22 lar (by omega) (by omega)).2.1.trans (uZ_same _ _ _)
      refine g_callVv (own := RX6) (n := 0) (mc := 0) (ms := 0) (As := []) (rest := []) (wc := [kO l0 1 [vI n, .ref l1, .ref l2, .ref l3, .ref l4, .ref l5, vI lru, vI lre, vI (lar + 1), vI (lfi + flp (pP n lcap lst lru lre sx))], kI cI l1 8 lcap, kI cI l2 8 (stp lst (pP n lcap lst lru lre sx)), kI cI l3 9 wi1_5, kI cI l4 9 pl1_6, kI cI l5 9 lk1_7]) (wr := [kO x0 6 [vI n, .ref s0, .ref h0, .ref l0, .ref m0, .ref p0, .ref e0, .ref w0, .ref t0, vI tl], kO m0 2 [.ref m1, .ref m2], kL cJ m1 1024 ky1_8, kI cI m2 1024 vl1_9]) hx hb hml hown hts hK hP hD hS hA [1, 2, 3, 4, 5, 6] [0, 7, 8, 9] rfl rfl (by decide) (by decide) 1 0 rfl rfl (c_X1_takeBackLast l dd cI cJ cC cS l0 l1 l2 l3 l4 l5 n lru lre (lar + 1) (lfi + flp (pP n lcap lst lru lre sx)) lcap (stp lst (pP n lcap lst lru lre sx)) wi1_5 pl1_6 lk1_7 H.size  (by first | assumption | omega) (by first | assumption | omega) (by rw [hX]; omega)) gX6_countBeginningWith_X1_takeBackLast rfl (by decide +kernel) (by decide) (by decide) (by decide) (by decide) rfl hl.1 rfl (Nat.le_of_ble_eq_true rfl) dX6_countBeginningWith_34 (fun u_10 H locs hp34 hP hD hS => ?_)
      have hP : va_P dd vwCl [kO x0 6 [vI n, .ref s0, .ref h0, .ref l0, .ref m0, .ref p0, .ref e0, .ref w0, .ref t0, vI tl], kO m0 2 [.ref m1, .ref m2], kL cJ m1 1024 ky1_8, kI cI m2 1024 vl1_9, kO l0 1 [vI n, .ref l1, .ref l2, .ref l3, .ref l4, .ref l5, vI lru, vI lre, vI ((lar + 1) - 1), vI ((lfi + flp (pP n lcap lst lru lre sx)) - flp (pl1_6 ((lar + 1) - 1)))], kI cI l1 8 lcap, kI cI l2 8 (if 0 ≤ (pl1_6 ((lar + 1) - 1)) then uZ (stp lst (pP n lcap lst lru lre sx)) (pl1_6 ((lar + 1) - 1)) ((stp lst (pP n lcap lst lru lre sx)) (pl1_6 ((lar + 1) - 1)) - 1) else (stp lst (pP n lcap lst lru lre sx))), kI cI l3 9 wi1_5, kI cI l4 9 pl1_6, kI cI l5 9 lk1_7] H := hP
      have hD : va_D A [kO x0 6 [vI n, .ref s0, .ref h0, .ref l0, .ref m0, .ref p0, .ref e0, .ref w0, .ref t0, vI tl], kO m0 2 [.ref m1, .ref m2], kL cJ m1 1024 ky1_8, kI cI m2 1024 vl1_9, kO l0 1 [vI n, .ref l1, .ref l2, .ref l3, .ref l4, .ref l5, vI lru, vI lre, vI ((lar + 1) - 1), vI ((lfi + flp (pP n lcap lst lru lre sx)) - flp (pl1_6 ((lar + 1) - 1)))], kI cI l1 8 lcap, kI cI l2 8 (if 0 ≤ (pl1_6 ((lar + 1) - 1)) then uZ (stp lst (pP n lcap lst lru lre sx)) (pl1_6 ((lar + 1) - 1)) ((stp lst (pP n lcap lst lru lre sx)) (pl1_6 ((lar + 1) - 1)) - 1) else (stp lst (pP n lcap lst lru lre sx))), kI cI l3 9 wi1_5, kI cI l4 9 pl1_6, kI cI l5 9 lk1_7] := hD
      refine lv_iload_n hx hb dX6_countBeginningWith_37 rfl (lv_at hl 0 rfl) ?_
      have ec_11 : vI ((lar + 1) - 1) = vI lar := congrArg _ (by omega)
      rw [ec_11] at hP hD
      have ec_12 : vI ((lfi + flp (pP n lcap lst lru lre sx)) - flp (pl1_6 ((lar + 1) - 1))) = vI lfi := congrArg _ (by rw [hX]; omega)
      rw [ec_12] at hP hD
      have ec_13 : kI cI l2 8 (if 0 ≤ (pl1_6 ((lar + 1) - 1)) then uZ (stp lst (pP n lcap lst lru lre sx)) (pl1_6 ((lar + 1) - 1)) ((stp lst (pP n lcap lst lru lre sx)) (pl1_6 ((lar + 1) - 1)) - 1) else (stp lst (pP n lcap lst lru lre sx))) = kI cI l2 8 lst := kI_congr (by rw [hX, stp_back])
      rw [ec_13] at hP hD
      subst hQ
      refine z_iret (z := cL n lcap lru lre 0 cm.toNat (stp lst (pP n lcap lst lru lre sx)) 0) hx hb hr hlocks dX6_countBeginningWith_38 (wi1_5, pl1_6, lk1_7, ky1_8, vl1_9) hK hS ⟨by omega, by omega⟩ (hP.sub [0, 4, 5, 6, 7, 8, 9, 1, 2, 3] rfl) (hD.sub [0, 4, 5, 6, 7, 8, 9, 1, 2, 3] (by decide) rfl) ?_
      first | (exact ⟨(if_pos hpk).symm, fun j h0 h1 => by have a1 := hq22 j h0 (by omega); rw [uZ_ne (by omega), uZ_ne (by omega), uZ_ne (by omega)] at a1; exact a1, hqm22⟩) | (exact ⟨(if_neg hpk).symm, fun j h0 h1 => ⟨uZ_ne (by omega), uZ_ne (by omega), uZ_ne (by omega)⟩, hmo⟩)
  · skip
    refine z_bin (va := .null) (vb := .null) (y := zI 0) (congrArg zI (if_neg hpk)) ?_
    refine z_if_eq (tgt := 28) hx hb dX6_countBeginningWith_8 (by decide) (by omega) (fun c8 => ?_) (fun c8 => ?_)
    · skip
      refine z_iconst hx hb dX6_countBeginningWith_28 ?_
      refine lv_istore_n (lv' := [(3, vI 0), (0, .ref x0), (1, vI sx), (2, vI cm)]) hx hb dX6_countBeginningWith_29 rfl hl (by decide) rfl (fun ls hl => ?_)
      refine lv_aload_n hx hb dX6_countBeginningWith_30 rfl (lv_at hl 1 rfl) ?_
      refine va_get (D := dd) (ci := 6) (v := .ref l0) (C := RX6) (T := TX6) (N := 10) hx hb hts hi6 hown hK hP 0 rfl rfl 3 (by decide) (hts _ (List.mem_cons_of_mem _ (List.mem_append_left _ (List.mem_append_left _ (List.mem_append_left _ (List.mem_append_left _ (List.mem_of_getElem? (i := 0) rfl))))))) (fun _ h9 => h9) rfl dX6_countBeginningWith_31 ?_
      have hX : (uZ lpl lar (pP n lcap lst lru lre sx)) (lar + 1 - 1) = (pP n lcap lst lru lre sx) := by
        rw [show lar + 1 - 1 = lar by omega]
        first | exact uZ_same _ _ _ | exact (hq22 lar (by omega) (by omega)).2.1.trans (uZ_same _ _ _)
      refine g_callVv (own := RX6) (n := 0) (mc := 0) (ms := 0) (As := []) (rest := []) (wc := [kO l0 1 [vI n, .ref l1, .ref l2, .ref l3, .ref l4, .ref l5, vI lru, vI lre, vI (lar + 1), vI (lfi + flp (pP n lcap lst lru lre sx))], kI cI l1 8 lcap, kI cI l2 8 (stp lst (pP n lcap lst lru lre sx)), kI cI l3 9 (uZ lwi lar sx), kI cI l4 9 (uZ lpl lar (pP n lcap lst lru lre sx)), kI cI l5 9 (uZ llk lar (pK n lcap lst lru lre sx))]) (wr := [kO x0 6 [vI n, .ref s0, .ref h0, .ref l0, .ref m0, .ref p0, .ref e0, .ref w0, .ref t0, vI tl], kO m0 2 [.ref m1, .ref m2], kL cJ m1 1024 ky, kI cI m2 1024 vl]) hx hb hml hown hts hK hP hD hS hA [4, 5, 6, 7, 8, 9] [0, 1, 2, 3] rfl rfl (by decide) (by decide) 1 0 rfl rfl (c_X1_takeBackLast l dd cI cJ cC cS l0 l1 l2 l3 l4 l5 n lru lre (lar + 1) (lfi + flp (pP n lcap lst lru lre sx)) lcap (stp lst (pP n lcap lst lru lre sx)) (uZ lwi lar sx) (uZ lpl lar (pP n lcap lst lru lre sx)) (uZ llk lar (pK n lcap lst lru lre sx)) H.size  (by first | assumption | omega) (by first | assumption | omega) (by rw [hX]; omega)) gX6_countBeginningWith_X1_takeBackLast rfl (by decide +kernel) (by decide) (by decide) (by decide) (by decide) rfl hl.1 rfl (Nat.le_of_ble_eq_true rfl) dX6_countBeginningWith_34 (fun u_14 H locs hp34_15 hP hD hS => ?_)
      have hP : va_P dd vwCl [kO x0 6 [vI n, .ref s0, .ref h0, .ref l0, .ref m0, .ref p0, .ref e0, .ref w0, .ref t0, vI tl], kO m0 2 [.ref m1, .ref m2], kL cJ m1 1024 ky, kI cI m2 1024 vl, kO l0 1 [vI n, .ref l1, .ref l2, .ref l3, .ref l4, .ref l5, vI lru, vI lre, vI ((lar + 1) - 1), vI ((lfi + flp (pP n lcap lst lru lre sx)) - flp ((uZ lpl lar (pP n lcap lst lru lre sx)) ((lar + 1) - 1)))], kI cI l1 8 lcap, kI cI l2 8 (if 0 ≤ ((uZ lpl lar (pP n lcap lst lru lre sx)) ((lar + 1) - 1)) then uZ (stp lst (pP n lcap lst lru lre sx)) ((uZ lpl lar (pP n lcap lst lru lre sx)) ((lar + 1) - 1)) ((stp lst (pP n lcap lst lru lre sx)) ((uZ lpl lar (pP n lcap lst lru lre sx)) ((lar + 1) - 1)) - 1) else (stp lst (pP n lcap lst lru lre sx))), kI cI l3 9 (uZ lwi lar sx), kI cI l4 9 (uZ lpl lar (pP n lcap lst lru lre sx)), kI cI l5 9 (uZ llk lar (pK n lcap lst lru lre sx))] H := hP
      have hD : va_D A [kO x0 6 [vI n, .ref s0, .ref h0, .ref l0, .ref m0, .ref p0, .ref e0, .ref w0, .ref t0, vI tl], kO m0 2 [.ref m1, .ref m2], kL cJ m1 1024 ky, kI cI m2 1024 vl, kO l0 1 [vI n, .ref l1, .ref l2, .ref l3, .ref l4, .ref l5, vI lru, vI lre, vI ((lar + 1) - 1), vI ((lfi + flp (pP n lcap lst lru lre sx)) - flp ((uZ lpl lar (pP n lcap lst lru lre sx)) ((lar + 1) - 1)))], kI cI l1 8 lcap, kI cI l2 8 (if 0 ≤ ((uZ lpl lar (pP n lcap lst lru lre sx)) ((lar + 1) - 1)) then uZ (stp lst (pP n lcap lst lru lre sx)) ((uZ lpl lar (pP n lcap lst lru lre sx)) ((lar + 1) - 1)) ((stp lst (pP n lcap lst lru lre sx)) ((uZ lpl lar (pP n lcap lst lru lre sx)) ((lar + 1) - 1)) - 1) else (stp lst (pP n lcap lst lru lre sx))), kI cI l3 9 (uZ lwi lar sx), kI cI l4 9 (uZ lpl lar (pP n lcap lst lru lre sx)), kI cI l5 9 (uZ llk lar (pK n lcap lst lru lre sx))] := hD
      refine lv_iload_n hx hb dX6_countBeginningWith_37 rfl (lv_at hl 0 rfl) ?_
      have ec_16 : vI ((lar + 1) - 1) = vI lar := congrArg _ (by omega)
      rw [ec_16] at hP hD
      have ec_17 : vI ((lfi + flp (pP n lcap lst lru lre sx)) - flp ((uZ lpl lar (pP n lcap lst lru lre sx)) ((lar + 1) - 1))) = vI lfi := congrArg _ (by rw [hX]; omega)
      rw [ec_17] at hP hD
      have ec_18 : kI cI l2 8 (if 0 ≤ ((uZ lpl lar (pP n lcap lst lru lre sx)) ((lar + 1) - 1)) then uZ (stp lst (pP n lcap lst lru lre sx)) ((uZ lpl lar (pP n lcap lst lru lre sx)) ((lar + 1) - 1)) ((stp lst (pP n lcap lst lru lre sx)) ((uZ lpl lar (pP n lcap lst lru lre sx)) ((lar + 1) - 1)) - 1) else (stp lst (pP n lcap lst lru lre sx))) = kI cI l2 8 lst := kI_congr (by rw [hX, stp_back])
      rw [ec_18] at hP hD
      subst hQ
      refine z_iret (z := 0) hx hb hr hlocks dX6_countBeginningWith_38 ((uZ lwi lar sx), (uZ lpl lar (pP n lcap lst lru lre sx)), (uZ llk lar (pK n lcap lst lru lre sx)), ky, vl) hK hS ⟨by omega, by omega⟩ (hP.sub [0, 4, 5, 6, 7, 8, 9, 1, 2, 3] rfl) (hD.sub [0, 4, 5, 6, 7, 8, 9, 1, 2, 3] (by decide) rfl) ?_
      first | (exact ⟨(if_pos hpk).symm, fun j h0 h1 => by have a1 := hq22 j h0 (by omega); rw [uZ_ne (by omega), uZ_ne (by omega), uZ_ne (by omega)] at a1; exact a1, hqm22⟩) | (exact ⟨(if_neg hpk).symm, fun j h0 h1 => ⟨uZ_ne (by omega), uZ_ne (by omega), uZ_ne (by omega)⟩, hmo⟩)
    · exact absurd c8 (by omega)

