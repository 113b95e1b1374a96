/-! lists by their ranks -/
theorem pow8 : ∀ k : Nat, k ≤ 8 → (8 : Int) ^ k ≤ 16777216 := by decide

set_option maxHeartbeats 4000000 in
set_option maxRecDepth 100000 in
theorem c_X6_parkNextOfRank (l : Launch) (dd : va_G) (cI cJ cC cS : ClassId) (x0 s0 h0 l0 m0 p0 e0 w0 t0 l1 l2 l3 l4 l5 m1 m2 : Nat) (n tl : Int) (lru lre lar lfi : Int) (lcap lst lwi lpl llk : Int → Int) (ky vl : Int → Int) (cm rr : Int) (sz : Nat) (hn : 1 ≤ n ∧ n ≤ 8) (hlcap : ∀ j : Int, 0 ≤ j → j < n → 0 ≤ lcap j ∧ lcap j ≤ 3) (hlst : ∀ j : Int, 0 ≤ j → j < n → 0 ≤ lst j ∧ lst j ≤ 3) (hlru : 0 ≤ lru ∧ lru ≤ 3) (hlre : 0 ≤ lre ∧ lre ≤ 8) (hcm : 0 ≤ cm ∧ 0 ≤ lar ∧ lar + 1 + cm ≤ 9) (hrr : 0 ≤ rr ∧ rr < 2147483648 ∧ rr < sumZ (fun s => cB n lcap lru lre cm.toNat lst s) n.toNat) (hfi : lfi = fil lst n) (hmo : mOK n lcap lru lre 0 ky vl) : gMi l yX6_parkNextOfRank wsX6_parkNextOfRank 15 0 0 dd cI cJ cC cS [.ref x0, vI cm, vI rr] [kO x0 6 [vI n, .ref s0, .ref h0, .ref l0, .ref m0, .ref p0, .ref e0, .ref w0, .ref t0, vI tl], kO l0 1 [vI n, .ref l1, .ref l2, .ref l3, .ref l4, .ref l5, vI lru, vI lre, vI lar, vI lfi], kI cI l1 8 lcap, kI cI l2 8 lst, kI cI l3 9 lwi, kI cI l4 9 lpl, kI cI l5 9 llk, kO m0 2 [.ref m1, .ref m2], kL cJ m1 1024 ky, kI cI m2 1024 vl] sz (fun (z : Int) (u : Int × (Int → Int) × (Int → Int) × (Int → Int) × (Int → Int) × (Int → Int)) => 0 ≤ u.1 ∧ u.1 < n ∧ z = sumZ (fun s => cB n lcap lru lre cm.toNat lst s) u.1.toNat ∧ 0 ≤ z ∧ z ≤ rr ∧ rr - z < cB n lcap lru lre cm.toNat lst u.1 ∧ (∀ j : Int, 0 ≤ j → j < lar → u.2.1 j = lwi j ∧ u.2.2.1 j = lpl j ∧ u.2.2.2.1 j = llk j) ∧ u.2.1 lar = u.1 ∧ mOK n lcap lru lre 0 u.2.2.2.2.1 u.2.2.2.2.2) (fun (u : Int × (Int → Int) × (Int → Int) × (Int → Int) × (Int → Int) × (Int → Int)) => [kO x0 6 [vI n, .ref s0, .ref h0, .ref l0, .ref m0, .ref p0, .ref e0, .ref w0, .ref t0, vI tl], kO l0 1 [vI n, .ref l1, .ref l2, .ref l3, .ref l4, .ref l5, vI lru, vI lre, vI (lar + 1), vI (lfi + flp (pP n lcap lst lru lre u.1))], kI cI l1 8 lcap, kI cI l2 8 (stp lst (pP n lcap lst lru lre u.1)), kI cI l3 9 u.2.1, kI cI l4 9 u.2.2.1, kI cI l5 9 u.2.2.2.1, kO m0 2 [.ref m1, .ref m2], kL cJ m1 1024 u.2.2.2.2.1, kI cI m2 1024 u.2.2.2.2.2]) := by
  refine gMi_of (cc := cX6_parkNextOfRank) (maxL := 6) (ret := (some .int)) (by decide) rfl (Nat.le_of_ble_eq_true rfl) ?_
  intro p e s m args below meth c A Q hQ hx hb hr hts hown hlocks hnm hml H locs hP hK hD hA hS ls hl
  have hi6 : ∀ w ∈ wsX60, w ∈ wsX6_parkNextOfRank := fun _ h => (List.mem_cons_of_mem _ (List.mem_append_left _ (List.mem_append_left _ (List.mem_append_right _ h))))
  have hl : lv_has ls 6 [(0, .ref x0), (1, vI cm), (2, vI rr)] := hl
  refine z_iconst hx hb dX6_parkNextOfRank_0 ?_
  refine lv_istore_n (lv' := [(3, vI 0), (0, .ref x0), (1, vI cm), (2, vI rr)]) hx hb dX6_parkNextOfRank_1 rfl hl (by decide) rfl (fun ls hl => ?_)
  refine z_iconst hx hb dX6_parkNextOfRank_2 ?_
  refine lv_istore (lv' := [(4, vI 0), (3, vI 0), (0, .ref x0), (1, vI cm), (2, vI rr)]) hx hb dX6_parkNextOfRank_3 hl (by decide) rfl (fun ls hl => ?_)
  have L5 : ∀ (nn : Nat) (i : Int) (b : Int) (lwa : Int → Int) (lpa : Int → Int) (lka : Int → Int) (kya : Int → Int) (vla : Int → Int) (H : Heap) (locs : List Loc) (ls : Array Slot), ((n + 1 - i).toNat) = nn → (0 ≤ i ∧ i ≤ n) → (b = sumZ (fun s => cB n lcap lru lre cm.toNat lst s) i.toNat) → (0 ≤ b ∧ b ≤ rr) → (∀ j : Int, 0 ≤ j → j < lar → lwa j = lwi j ∧ lpa j = lpl j ∧ lka j = llk j) → (mOK n lcap lru lre 0 kya vla) → va_P dd vwCl [kO x0 6 [vI n, .ref s0, .ref h0, .ref l0, .ref m0, .ref p0, .ref e0, .ref w0, .ref t0, vI tl], kO l0 1 [vI n, .ref l1, .ref l2, .ref l3, .ref l4, .ref l5, vI lru, vI lre, vI lar, vI lfi], kI cI l1 8 lcap, kI cI l2 8 lst, kI cI l3 9 lwa, kI cI l4 9 lpa, kI cI l5 9 lka, kO m0 2 [.ref m1, .ref m2], kL cJ m1 1024 kya, kI cI m2 1024 vla] H → va_D A [kO x0 6 [vI n, .ref s0, .ref h0, .ref l0, .ref m0, .ref p0, .ref e0, .ref w0, .ref t0, vI tl], kO l0 1 [vI n, .ref l1, .ref l2, .ref l3, .ref l4, .ref l5, vI lru, vI lre, vI lar, vI lfi], kI cI l1 8 lcap, kI cI l2 8 lst, kI cI l3 9 lwa, kI cI l4 9 lpa, kI cI l5 9 lka, kO m0 2 [.ref m1, .ref m2], kL cJ m1 1024 kya, kI cI m2 1024 vla] → va_S A s.heap H locs → lv_has ls 6 [(3, vI b), (4, vI i), (0, .ref x0), (1, vI cm), (2, vI rr)] → W p l e (gR 15 0 0) s m args below meth c H locs 0 0 Q (F0 m 5 ls []) := by
    intro nn
    induction nn using Nat.strongRecOn with
    | ind nn L5i =>
    intro i b lwa lpa lka kya vla H locs ls hmeas hi hbb hbr hjk hmk hP hD hS hl
    refine lv_iload hx hb dX6_parkNextOfRank_5 (lv_at hl 1 rfl) ?_
    refine lv_aload_n hx hb dX6_parkNextOfRank_7 rfl (lv_at hl 2 rfl) ?_
    refine va_get (D := dd) (ci := 6) (v := vI n) (C := RX6) (T := TX6) (N := 10) hx hb hts hi6 hown hK hP 0 rfl rfl 0 (by decide) (hts _ (List.mem_cons_of_mem _ (List.mem_append_left _ (List.mem_append_left _ (List.mem_append_left _ (List.mem_append_left _ (List.mem_of_getElem? (i := 0) rfl))))))) (fun _ h9 => h9) rfl dX6_parkNextOfRank_8 ?_
    have hin : i < n := by
      by_cases q : i = n
      · have q2 := hbb
        rw [q] at q2
        omega
      · omega
    refine z_icmp_ge (tgt := 74) hx hb dX6_parkNextOfRank_11 (by decide) (by omega) (fun c11 => ?_) (fun c11 => ?_)
    · exact absurd c11 (by omega)
    · skip
      refine lv_aload_n hx hb dX6_parkNextOfRank_14 rfl (lv_at hl 2 rfl) ?_
      refine va_get (D := dd) (ci := 6) (v := .ref l0) (C := RX6) (T := TX6) (N := 10) hx hb hts hi6 hown hK hP 0 rfl rfl 3 (by decide) (hts _ (List.mem_cons_of_mem _ (List.mem_append_left _ (List.mem_append_left _ (List.mem_append_left _ (List.mem_append_left _ (List.mem_of_getElem? (i := 1) rfl))))))) (fun _ h9 => h9) rfl dX6_parkNextOfRank_15 ?_
      refine lv_iload hx hb dX6_parkNextOfRank_18 (lv_at hl 1 rfl) ?_
      refine g_callVi (own := RX6) (n := 1) (mc := 0) (ms := 0) (As := [vI i]) (rest := []) (wc := [kO l0 1 [vI n, .ref l1, .ref l2, .ref l3, .ref l4, .ref l5, vI lru, vI lre, vI lar, vI lfi], kI cI l1 8 lcap, kI cI l2 8 lst, kI cI l3 9 lwa, kI cI l4 9 lpa, kI cI l5 9 lka]) (wr := [kO x0 6 [vI n, .ref s0, .ref h0, .ref l0, .ref m0, .ref p0, .ref e0, .ref w0, .ref t0, vI tl], kO m0 2 [.ref m1, .ref m2], kL cJ m1 1024 kya, kI cI m2 1024 vla]) hx hb hml hown hts hK hP hD hS hA [1, 2, 3, 4, 5, 6] [0, 7, 8, 9] rfl rfl (by decide) (by decide) 1 0 rfl rfl (c_X1_arrive l dd cI cJ cC cS l0 l1 l2 l3 l4 l5 n lru lre lar lfi lcap lst lwa lpa lka i H.size  (by first | assumption | omega) (by first | assumption | (intro j h0 h1; omega)) (by first | assumption | (intro j h0 h1; omega)) (by first | assumption | omega) (by first | assumption | omega) (by first | assumption | omega) (by first | assumption | omega)) gX6_parkNextOfRank_X1_arrive rfl (by decide +kernel) (by decide) (by decide) (by decide) (by decide) rfl hl.1 rfl (Nat.le_of_ble_eq_true rfl) dX6_parkNextOfRank_20 (fun z_1 u_2 H locs hp20 hP hD hS => ?_)
      subst z_1
      have hP : va_P dd vwCl [kO x0 6 [vI n, .ref s0, .ref h0, .ref l0, .ref m0, .ref p0, .ref e0, .ref w0, .ref t0, vI tl], kO m0 2 [.ref m1, .ref m2], kL cJ m1 1024 kya, kI cI m2 1024 vla, kO l0 1 [vI n, .ref l1, .ref l2, .ref l3, .ref l4, .ref l5, vI lru, vI lre, vI (lar + 1), vI (lfi + flp (pP n lcap lst lru lre i))], kI cI l1 8 lcap, kI cI l2 8 (stp lst (pP n lcap lst lru lre i)), kI cI l3 9 (uZ lwa lar i), kI cI l4 9 (uZ lpa lar (pP n lcap lst lru lre i)), kI cI l5 9 (uZ lka lar (pK n lcap lst lru lre i))] H := hP
      have hD : va_D A [kO x0 6 [vI n, .ref s0, .ref h0, .ref l0, .ref m0, .ref p0, .ref e0, .ref w0, .ref t0, vI tl], kO m0 2 [.ref m1, .ref m2], kL cJ m1 1024 kya, kI cI m2 1024 vla, kO l0 1 [vI n, .ref l1, .ref l2, .ref l3, .ref l4, .ref l5, vI lru, vI lre, vI (lar + 1), vI (lfi + flp (pP n lcap lst lru lre i))], kI cI l1 8 lcap, kI cI l2 8 (stp lst (pP n lcap lst lru lre i)), kI cI l3 9 (uZ lwa lar i), kI cI l4 9 (uZ lpa lar (pP n lcap lst lru lre i)), kI cI l5 9 (uZ lka lar (pK n lcap lst lru lre i))] := hD
      have hpp := pP_rg n lcap lst lru lre i
      have hsr := stp_rg (ru := lru) (re := lre) (p := i) hlcap hlst
      have hff := fil_stp (st := lst) (n := n) (p := (pP n lcap lst lru lre i)) (by omega)
      by_cases hpk : 0 ≤ (pP n lcap lst lru lre i)
      · skip
        refine z_bin (va := .null) (vb := .null) (y := zI 1) (congrArg zI (if_pos hpk)) ?_
        refine z_if_eq (tgt := 43) hx hb dX6_parkNextOfRank_23 (by decide) (by omega) (fun c23 => ?_) (fun c23 => ?_)
        · exact absurd c23 (by omega)
        · skip
          refine lv_aload_n hx hb dX6_parkNextOfRank_26 rfl (lv_at hl 2 rfl) ?_
          refine va_get (D := dd) (ci := 6) (v := .ref l0) (C := RX6) (T := TX6) (N := 10) hx hb hts hi6 hown hK hP 0 rfl rfl 3 (by decide) (hts _ (List.mem_cons_of_mem _ (List.mem_append_left _ (List.mem_append_left _ (List.mem_append_left _ (List.mem_append_left _ (List.mem_of_getElem? (i := 1) rfl))))))) (fun _ h9 => h9) rfl dX6_parkNextOfRank_27 ?_
          refine lv_aload_n hx hb dX6_parkNextOfRank_30 rfl (lv_at hl 2 rfl) ?_
          refine va_get (D := dd) (ci := 6) (v := .ref m0) (C := RX6) (T := TX6) (N := 10) hx hb hts hi6 hown hK hP 0 rfl rfl 4 (by decide) (hts _ (List.mem_cons_of_mem _ (List.mem_append_left _ (List.mem_append_left _ (List.mem_append_left _ (List.mem_append_left _ (List.mem_of_getElem? (i := 2) rfl))))))) (fun _ h9 => h9) rfl dX6_parkNextOfRank_31 ?_
          refine lv_iload_n hx hb dX6_parkNextOfRank_34 rfl (lv_at hl 3 rfl) ?_
          refine z_iconst hx hb dX6_parkNextOfRank_35 ?_
          refine z_iconst hx hb dX6_parkNextOfRank_36 ?_
          refine g_callSi (own := RX6) (n := 5) (mc := 0) (ms := 0) (As := [.ref l0, .ref m0, vI cm, vI 0, vI 0]) (rest := []) (wc := [kO l0 1 [vI n, .ref l1, .ref l2, .ref l3, .ref l4, .ref l5, vI lru, vI lre, vI (lar + 1), vI (lfi + flp (pP n lcap lst lru lre i))], kI cI l1 8 lcap, kI cI l2 8 (stp lst (pP n lcap lst lru lre i)), kI cI l3 9 (uZ lwa lar i), kI cI l4 9 (uZ lpa lar (pP n lcap lst lru lre i)), kI cI l5 9 (uZ lka lar (pK n lcap lst lru lre i)), kO m0 2 [.ref m1, .ref m2], kL cJ m1 1024 kya, kI cI m2 1024 vla]) (wr := [kO x0 6 [vI n, .ref s0, .ref h0, .ref l0, .ref m0, .ref p0, .ref e0, .ref w0, .ref t0, vI tl]]) hx hb hml hown hts hK hP hD hS hA [4, 5, 6, 7, 8, 9, 1, 2, 3] [0] rfl rfl (by decide) (by decide) (c_X6_countLists l dd cI cJ cC cS l0 l1 l2 l3 l4 l5 m0 m1 m2 n lru lre (lar + 1) (lfi + flp (pP n lcap lst lru lre i)) lcap (stp lst (pP n lcap lst lru lre i)) (uZ lwa lar i) (uZ lpa lar (pP n lcap lst lru lre i)) (uZ lka lar (pK n lcap lst lru lre i)) kya vla cm 0 0 H.size  (by first | assumption | omega) (hlcap) (hsr) (by first | assumption | omega) (by first | assumption | omega) (by first | assumption | omega) (by first | assumption | omega) (by first | assumption | omega) (by rw [hfi]; exact hff) (hmk)) gX6_parkNextOfRank_X6_countLists rfl (by decide +kernel) (by decide) (by first | decide | (show _ ≤ 15; omega) | (show _ ≤ 600; omega)) (by first | decide | (show _ ≤ 15; omega) | (show _ ≤ 600; omega)) (by decide) rfl hl.1 rfl (Nat.le_of_ble_eq_true rfl) dX6_parkNextOfRank_37 (fun z_3 u_4 H locs hp37 hP hD hS => ?_)
          obtain ⟨wi1_5, pl1_6, lk1_7, ky1_8, vl1_9⟩ := u_4
          try dsimp only at hp37
          obtain ⟨z_3e, hp37⟩ := hp37
          subst z_3
          obtain ⟨hq37, hqm37⟩ := hp37
          have hP : va_P dd vwCl [kO x0 6 [vI n, .ref s0, .ref h0, .ref l0, .ref m0, .ref p0, .ref e0, .ref w0, .ref t0, vI tl], kO l0 1 [vI n, .ref l1, .ref l2, .ref l3, .ref l4, .ref l5, vI lru, vI lre, vI (lar + 1), vI (lfi + flp (pP n lcap lst lru lre i))], kI cI l1 8 lcap, kI cI l2 8 (stp lst (pP n lcap lst lru lre i)), kI cI l3 9 wi1_5, kI cI l4 9 pl1_6, kI cI l5 9 lk1_7, kO m0 2 [.ref m1, .ref m2], kL cJ m1 1024 ky1_8, kI cI m2 1024 vl1_9] H := hP
          have hD : va_D A [kO x0 6 [vI n, .ref s0, .ref h0, .ref l0, .ref m0, .ref p0, .ref e0, .ref w0, .ref t0, vI tl], kO l0 1 [vI n, .ref l1, .ref l2, .ref l3, .ref l4, .ref l5, vI lru, vI lre, vI (lar + 1), vI (lfi + flp (pP n lcap lst lru lre i))], kI cI l1 8 lcap, kI cI l2 8 (stp lst (pP n lcap lst lru lre i)), kI cI l3 9 wi1_5, kI cI l4 9 pl1_6, kI cI l5 9 lk1_7, kO m0 2 [.ref m1, .ref m2], kL cJ m1 1024 ky1_8, kI cI m2 1024 vl1_9] := hD
          have hcr := cL_rg (cap := lcap) (ru := lru) (re := lre) (me := 0) hn cm.toNat (stp lst (pP n lcap lst lru lre i)) 0
          have hp8 := pow8 cm.toNat (by omega)
          refine lv_goto (tgt := 44) hx hb dX6_parkNextOfRank_40 (by decide) ?_
          refine lv_istore (lv' := [(5, vI (cL n lcap lru lre 0 cm.toNat (stp lst (pP n lcap lst lru lre i)) 0)), (3, vI b), (4, vI i), (0, .ref x0), (1, vI cm), (2, vI rr)]) hx hb dX6_parkNextOfRank_44 hl (by decide) rfl (fun ls hl => ?_)
          refine lv_iload_n hx hb dX6_parkNextOfRank_46 rfl (lv_at hl 5 rfl) ?_
          refine lv_iload_n hx hb dX6_parkNextOfRank_47 rfl (lv_at hl 1 rfl) ?_
          refine z_isub (z := (rr - b)) hx hb rfl dX6_parkNextOfRank_48 ?_
          refine lv_iload hx hb dX6_parkNextOfRank_49 (lv_at hl 0 rfl) ?_
          refine z_icmp_ge (tgt := 56) hx hb dX6_parkNextOfRank_51 (by decide) (by omega) (fun c51 => ?_) (fun c51 => ?_)
          · skip
            refine lv_aload_n hx hb dX6_parkNextOfRank_56 rfl (lv_at hl 3 rfl) ?_
            refine va_get (D := dd) (ci := 6) (v := .ref l0) (C := RX6) (T := TX6) (N := 10) hx hb hts hi6 hown hK hP 0 rfl rfl 3 (by decide) (hts _ (List.mem_cons_of_mem _ (List.mem_append_left _ (List.mem_append_left _ (List.mem_append_left _ (List.mem_append_left _ (List.mem_of_getElem? (i := 1) rfl))))))) (fun _ h9 => h9) rfl dX6_parkNextOfRank_57 ?_
            have hX : pl1_6 (lar + 1 - 1) = (pP n lcap lst lru lre i) := by
              rw [show lar + 1 - 1 = lar by omega]
              first | exact uZ_same _ _ _ | exact (hq37 lar (by omega) (by omega)).2.1.trans (uZ_same _ _ _)
            refine g_callVv (own := RX6) (n := 0) (mc := 0) (ms := 0) (As := []) (rest := []) (wc := [kO l0 1 [vI n, .ref l1, .ref l2, .ref l3, .ref l4, .ref l5, vI lru, vI lre, vI (lar + 1), vI (lfi + flp (pP n lcap lst lru lre i))], kI cI l1 8 lcap, kI cI l2 8 (stp lst (pP n lcap lst lru lre i)), kI cI l3 9 wi1_5, kI cI l4 9 pl1_6, kI cI l5 9 lk1_7]) (wr := [kO x0 6 [vI n, .ref s0, .ref h0, .ref l0, .ref m0, .ref p0, .ref e0, .ref w0, .ref t0, vI tl], kO m0 2 [.ref m1, .ref m2], kL cJ m1 1024 ky1_8, kI cI m2 1024 vl1_9]) hx hb hml hown hts hK hP hD hS hA [1, 2, 3, 4, 5, 6] [0, 7, 8, 9] rfl rfl (by decide) (by decide) 1 0 rfl rfl (c_X1_takeBackLast l dd cI cJ cC cS l0 l1 l2 l3 l4 l5 n lru lre (lar + 1) (lfi + flp (pP n lcap lst lru lre i)) lcap (stp lst (pP n lcap lst lru lre i)) wi1_5 pl1_6 lk1_7 H.size  (by first | assumption | omega) (by first | assumption | omega) (by rw [hX]; omega)) gX6_parkNextOfRank_X1_takeBackLast rfl (by decide +kernel) (by decide) (by decide) (by decide) (by decide) rfl hl.1 rfl (Nat.le_of_ble_eq_true rfl) dX6_parkNextOfRank_60 (fun u_10 H locs hp60 hP hD hS => ?_)
            have hP : va_P dd vwCl [kO x0 6 [vI n, .ref s0, .ref h0, .ref l0, .ref m0, .ref p0, .ref e0, .ref w0, .ref t0, vI tl], kO m0 2 [.ref m1, .ref m2], kL cJ m1 1024 ky1_8, kI cI m2 1024 vl1_9, kO l0 1 [vI n, .ref l1, .ref l2, .ref l3, .ref l4, .ref l5, vI lru, vI lre, vI ((lar + 1) - 1), vI ((lfi + flp (pP n lcap lst lru lre i)) - flp (pl1_6 ((lar + 1) - 1)))], kI cI l1 8 lcap, kI cI l2 8 (if 0 ≤ (pl1_6 ((lar + 1) - 1)) then uZ (stp lst (pP n lcap lst lru lre i)) (pl1_6 ((lar + 1) - 1)) ((stp lst (pP n lcap lst lru lre i)) (pl1_6 ((lar + 1) - 1)) - 1) else (stp lst (pP n lcap lst lru lre i))), kI cI l3 9 wi1_5, kI cI l4 9 pl1_6, kI cI l5 9 lk1_7] H := hP
            have hD : va_D A [kO x0 6 [vI n, .ref s0, .ref h0, .ref l0, .ref m0, .ref p0, .ref e0, .ref w0, .ref t0, vI tl], kO m0 2 [.ref m1, .ref m2], kL cJ m1 1024 ky1_8, kI cI m2 1024 vl1_9, kO l0 1 [vI n, .ref l1, .ref l2, .ref l3, .ref l4, .ref l5, vI lru, vI lre, vI ((lar + 1) - 1), vI ((lfi + flp (pP n lcap lst lru lre i)) - flp (pl1_6 ((lar + 1) - 1)))], kI cI l1 8 lcap, kI cI l2 8 (if 0 ≤ (pl1_6 ((lar + 1) - 1)) then uZ (stp lst (pP n lcap lst lru lre i)) (pl1_6 ((lar + 1) - 1)) ((stp lst (pP n lcap lst lru lre i)) (pl1_6 ((lar + 1) - 1)) - 1) else (stp lst (pP n lcap lst lru lre i))), kI cI l3 9 wi1_5, kI cI l4 9 pl1_6, kI cI l5 9 lk1_7] := hD
            refine lv_iload_n hx hb dX6_parkNextOfRank_63 rfl (lv_at hl 1 rfl) ?_
            refine lv_iload hx hb dX6_parkNextOfRank_64 (lv_at hl 0 rfl) ?_
            refine z_iadd (z := (b + cL n lcap lru lre 0 cm.toNat (stp lst (pP n lcap lst lru lre i)) 0)) hx hb rfl dX6_parkNextOfRank_66 ?_
            refine lv_istore_n (lv' := [(3, vI (b + cL n lcap lru lre 0 cm.toNat (stp lst (pP n lcap lst lru lre i)) 0)), (5, vI (cL n lcap lru lre 0 cm.toNat (stp lst (pP n lcap lst lru lre i)) 0)), (4, vI i), (0, .ref x0), (1, vI cm), (2, vI rr)]) hx hb dX6_parkNextOfRank_67 rfl hl (by decide) rfl (fun ls hl => ?_)
            refine z_iinc (a := i) (z := (i + 1)) (lv' := [(4, vI (i + 1)), (3, vI (b + cL n lcap lru lre 0 cm.toNat (stp lst (pP n lcap lst lru lre i)) 0)), (5, vI (cL n lcap lru lre 0 cm.toNat (stp lst (pP n lcap lst lru lre i)) 0)), (0, .ref x0), (1, vI cm), (2, vI rr)]) hx hb dX6_parkNextOfRank_68 hl (k := 2) rfl rfl (by decide) rfl (fun ls hl => ?_)
            refine lv_goto (tgt := 5) hx hb dX6_parkNextOfRank_71 (by decide) ?_
            have el_11 : vI ((lar + 1) - 1) = vI lar := congrArg _ (by omega)
            rw [el_11] at hP hD
            have el_12 : vI ((lfi + flp (pP n lcap lst lru lre i)) - flp (pl1_6 ((lar + 1) - 1))) = vI lfi := congrArg _ (by rw [hX]; omega)
            rw [el_12] at hP hD
            have el_13 : kI cI l2 8 (if 0 ≤ (pl1_6 ((lar + 1) - 1)) then uZ (stp lst (pP n lcap lst lru lre i)) (pl1_6 ((lar + 1) - 1)) ((stp lst (pP n lcap lst lru lre i)) (pl1_6 ((lar + 1) - 1)) - 1) else (stp lst (pP n lcap lst lru lre i))) = kI cI l2 8 lst := kI_congr (by rw [hX, stp_back])
            rw [el_13] at hP hD
            exact L5i _ (by omega) (i + 1) (b + cL n lcap lru lre 0 cm.toNat (stp lst (pP n lcap lst lru lre i)) 0) wi1_5 pl1_6 lk1_7 ky1_8 vl1_9 H locs ls rfl (by omega) (by rw [sumZ_s (f := (fun s => cB n lcap lru lre cm.toNat lst s)) (by omega), hbb]; first | rw [show cB n lcap lru lre cm.toNat lst i = _ from if_pos hpk] | rw [show cB n lcap lru lre cm.toNat lst i = _ from if_neg hpk, Int.add_zero]) (by omega) (by first | exact (fun j h0 h1 => by have a1 := hq37 j h0 (by omega); have a2 := hjk j h0 h1; rw [uZ_ne (by omega), uZ_ne (by omega), uZ_ne (by omega)] at a1; exact ⟨a1.1.trans a2.1, a1.2.1.trans a2.2.1, a1.2.2.trans a2.2.2⟩) | exact (fun j h0 h1 => by have a2 := hjk j h0 h1; rw [uZ_ne (by omega), uZ_ne (by omega), uZ_ne (by omega)]; exact a2)) (by first | exact hqm37 | exact hmk) (hP.sub [0, 4, 5, 6, 7, 8, 9, 1, 2, 3] rfl) (hD.sub [0, 4, 5, 6, 7, 8, 9, 1, 2, 3] (by decide) rfl) hS (lv_sub hl [1, 0, 3, 4, 5] rfl)
          · skip
            refine lv_iload_n hx hb dX6_parkNextOfRank_54 rfl (lv_at hl 1 rfl) ?_
            subst hQ
            refine z_iret (z := b) hx hb hr hlocks dX6_parkNextOfRank_55 (i, wi1_5, pl1_6, lk1_7, ky1_8, vl1_9) hK hS ⟨by omega, by omega⟩ hP hD ?_
            first | (exfalso; omega) | exact ⟨by omega, by omega, hbb, hbr.1, hbr.2, by rw [show cB n lcap lru lre cm.toNat lst i = _ from if_pos hpk]; omega, fun j h0 h1 => by have a1 := hq37 j h0 (by omega); have a2 := hjk j h0 h1; rw [uZ_ne (by omega), uZ_ne (by omega), uZ_ne (by omega)] at a1; exact ⟨a1.1.trans a2.1, a1.2.1.trans a2.2.1, a1.2.2.trans a2.2.2⟩, (hq37 lar (by omega) (by omega)).1.trans (uZ_same _ _ _), hqm37⟩
      · skip
        refine z_bin (va := .null) (vb := .null) (y := zI 0) (congrArg zI (if_neg hpk)) ?_
        refine z_if_eq (tgt := 43) hx hb dX6_parkNextOfRank_23 (by decide) (by omega) (fun c23 => ?_) (fun c23 => ?_)
        · skip
          refine z_iconst hx hb dX6_parkNextOfRank_43 ?_
          refine lv_istore (lv' := [(5, vI 0), (3, vI b), (4, vI i), (0, .ref x0), (1, vI cm), (2, vI rr)]) hx hb dX6_parkNextOfRank_44 hl (by decide) rfl (fun ls hl => ?_)
          refine lv_iload_n hx hb dX6_parkNextOfRank_46 rfl (lv_at hl 5 rfl) ?_
          refine lv_iload_n hx hb dX6_parkNextOfRank_47 rfl (lv_at hl 1 rfl) ?_
          refine z_isub (z := (rr - b)) hx hb rfl dX6_parkNextOfRank_48 ?_
          refine lv_iload hx hb dX6_parkNextOfRank_49 (lv_at hl 0 rfl) ?_
          refine z_icmp_ge (tgt := 56) hx hb dX6_parkNextOfRank_51 (by decide) (by omega) (fun c51 => ?_) (fun c51 => ?_)
          · skip
            refine lv_aload_n hx hb dX6_parkNextOfRank_56 rfl (lv_at hl 3 rfl) ?_
            refine va_get (D := dd) (ci := 6) (v := .ref l0) (C := RX6) (T := TX6) (N := 10) hx hb hts hi6 hown hK hP 0 rfl rfl 3 (by decide) (hts _ (List.mem_cons_of_mem _ (List.mem_append_left _ (List.mem_append_left _ (List.mem_append_left _ (List.mem_append_left _ (List.mem_of_getElem? (i := 1) rfl))))))) (fun _ h9 => h9) rfl dX6_parkNextOfRank_57 ?_
            have hX : (uZ lpa lar (pP n lcap lst lru lre i)) (lar + 1 - 1) = (pP n lcap lst lru lre i) := by
              rw [show lar + 1 - 1 = lar by omega]
              first | exact uZ_same _ _ _ | exact (hq37 lar (by omega) (by omega)).2.1.trans (uZ_same _ _ _)
            refine g_callVv (own := RX6) (n := 0) (mc := 0) (ms := 0) (As := []) (rest := []) (wc := [kO l0 1 [vI n, .ref l1, .ref l2, .ref l3, .ref l4, .ref l5, vI lru, vI lre, vI (lar + 1), vI (lfi + flp (pP n lcap lst lru lre i))], kI cI l1 8 lcap, kI cI l2 8 (stp lst (pP n lcap lst lru lre i)), kI cI l3 9 (uZ lwa lar i), kI cI l4 9 (uZ lpa lar (pP n lcap lst lru lre i)), kI cI l5 9 (uZ lka lar (pK n lcap lst lru lre i))]) (wr := [kO x0 6 [vI n, .ref s0, .ref h0, .ref l0, .ref m0, .ref p0, .ref e0, .ref w0, .ref t0, vI tl], kO m0 2 [.ref m1, .ref m2], kL cJ m1 1024 kya, kI cI m2 1024 vla]) hx hb hml hown hts hK hP hD hS hA [4, 5, 6, 7, 8, 9] [0, 1, 2, 3] rfl rfl (by decide) (by decide) 1 0 rfl rfl (c_X1_takeBackLast l dd cI cJ cC cS l0 l1 l2 l3 l4 l5 n lru lre (lar + 1) (lfi + flp (pP n lcap lst lru lre i)) lcap (stp lst (pP n lcap lst lru lre i)) (uZ lwa lar i) (uZ lpa lar (pP n lcap lst lru lre i)) (uZ lka lar (pK n lcap lst lru lre i)) H.size  (by first | assumption | omega) (by first | assumption | omega) (by rw [hX]; omega)) gX6_parkNextOfRank_X1_takeBackLast rfl (by decide +kernel) (by decide) (by decide) (by decide) (by decide) rfl hl.1 rfl (Nat.le_of_ble_eq_true rfl) dX6_parkNextOfRank_60 (fun u_14 H locs hp60_15 hP hD hS => ?_)
            have hP : va_P dd vwCl [kO x0 6 [vI n, .ref s0, .ref h0, .ref l0, .ref m0, .ref p0, .ref e0, .ref w0, .ref t0, vI tl], kO m0 2 [.ref m1, .ref m2], kL cJ m1 1024 kya, kI cI m2 1024 vla, kO l0 1 [vI n, .ref l1, .ref l2, .ref l3, .ref l4, .ref l5, vI lru, vI lre, vI ((lar + 1) - 1), vI ((lfi + flp (pP n lcap lst lru lre i)) - flp ((uZ lpa lar (pP n lcap lst lru lre i)) ((lar + 1) - 1)))], kI cI l1 8 lcap, kI cI l2 8 (if 0 ≤ ((uZ lpa lar (pP n lcap lst lru lre i)) ((lar + 1) - 1)) then uZ (stp lst (pP n lcap lst lru lre i)) ((uZ lpa lar (pP n lcap lst lru lre i)) ((lar + 1) - 1)) ((stp lst (pP n lcap lst lru lre i)) ((uZ lpa lar (pP n lcap lst lru lre i)) ((lar + 1) - 1)) - 1) else (stp lst (pP n lcap lst lru lre i))), kI cI l3 9 (uZ lwa lar i), kI cI l4 9 (uZ lpa lar (pP n lcap lst lru lre i)), kI cI l5 9 (uZ lka lar (pK n lcap lst lru lre i))] H := hP
            have hD : va_D A [kO x0 6 [vI n, .ref s0, .ref h0, .ref l0, .ref m0, .ref p0, .ref e0, .ref w0, .ref t0, vI tl], kO m0 2 [.ref m1, .ref m2], kL cJ m1 1024 kya, kI cI m2 1024 vla, kO l0 1 [vI n, .ref l1, .ref l2, .ref l3, .ref l4, .ref l5, vI lru, vI lre, vI ((lar + 1) - 1), vI ((lfi + flp (pP n lcap lst lru lre i)) - flp ((uZ lpa lar (pP n lcap lst lru lre i)) ((lar + 1) - 1)))], kI cI l1 8 lcap, kI cI l2 8 (if 0 ≤ ((uZ lpa lar (pP n lcap lst lru lre i)) ((lar + 1) - 1)) then uZ (stp lst (pP n lcap lst lru lre i)) ((uZ lpa lar (pP n lcap lst lru lre i)) ((lar + 1) - 1)) ((stp lst (pP n lcap lst lru lre i)) ((uZ lpa lar (pP n lcap lst lru lre i)) ((lar + 1) - 1)) - 1) else (stp lst (pP n lcap lst lru lre i))), kI cI l3 9 (uZ lwa lar i), kI cI l4 9 (uZ lpa lar (pP n lcap lst lru lre i)), kI cI l5 9 (uZ lka lar (pK n lcap lst lru lre i))] := hD
            refine lv_iload_n hx hb dX6_parkNextOfRank_63 rfl (lv_at hl 1 rfl) ?_
            refine lv_iload hx hb dX6_parkNextOfRank_64 (lv_at hl 0 rfl) ?_
            refine z_iadd (z := b) hx hb (Int.add_zero _) dX6_parkNextOfRank_66 ?_
            refine lv_istore_n (lv' := [(3, vI b), (5, vI 0), (4, vI i), (0, .ref x0), (1, vI cm), (2, vI rr)]) hx hb dX6_parkNextOfRank_67 rfl hl (by decide) rfl (fun ls hl => ?_)
            refine z_iinc (a := i) (z := (i + 1)) (lv' := [(4, vI (i + 1)), (3, vI b), (5, vI 0), (0, .ref x0), (1, vI cm), (2, vI rr)]) hx hb dX6_parkNextOfRank_68 hl (k := 2) rfl rfl (by decide) rfl (fun ls hl => ?_)
            refine lv_goto (tgt := 5) hx hb dX6_parkNextOfRank_71 (by decide) ?_
            have el_16 : vI ((lar + 1) - 1) = vI lar := congrArg _ (by omega)
            rw [el_16] at hP hD
            have el_17 : vI ((lfi + flp (pP n lcap lst lru lre i)) - flp ((uZ lpa lar (pP n lcap lst lru lre i)) ((lar + 1) - 1))) = vI lfi := congrArg _ (by rw [hX]; omega)
            rw [el_17] at hP hD
            have el_18 : kI cI l2 8 (if 0 ≤ ((uZ lpa lar (pP n lcap lst lru lre i)) ((lar + 1) - 1)) then uZ (stp lst (pP n lcap lst lru lre i)) ((uZ lpa lar (pP n lcap lst lru lre i)) ((lar + 1) - 1)) ((stp lst (pP n lcap lst lru lre i)) ((uZ lpa lar (pP n lcap lst lru lre i)) ((lar + 1) - 1)) - 1) else (stp lst (pP n lcap lst lru lre i))) = kI cI l2 8 lst := kI_congr (by rw [hX, stp_back])
            rw [el_18] at hP hD
            exact L5i _ (by omega) (i + 1) b (uZ lwa lar i) (uZ lpa lar (pP n lcap lst lru lre i)) (uZ lka lar (pK n lcap lst lru lre i)) kya vla H locs ls rfl (by omega) (by rw [sumZ_s (f := (fun s => cB n lcap lru lre cm.toNat lst s)) (by omega), hbb]; first | rw [show cB n lcap lru lre cm.toNat lst i = _ from if_pos hpk] | rw [show cB n lcap lru lre cm.toNat lst i = _ from if_neg hpk, Int.add_zero]) (by omega) (by first | exact (fun j h0 h1 => by have a1 := hq37 j h0 (by omega); have a2 := hjk j h0 h1; rw [uZ_ne (by omega), uZ_ne (by omega), uZ_ne (by omega)] at a1; exact ⟨a1.1.trans a2.1, a1.2.1.trans a2.2.1, a1.2.2.trans a2.2.2⟩) | exact (fun j h0 h1 => by have a2 := hjk j h0 h1; rw [uZ_ne (by omega), uZ_ne (by omega), uZ_ne (by omega)]; exact a2)) (by first | exact hqm37 | exact hmk) (hP.sub [0, 4, 5, 6, 7, 8, 9, 1, 2, 3] rfl) (hD.sub [0, 4, 5, 6, 7, 8, 9, 1, 2, 3] (by decide) rfl) hS (lv_sub hl [1, 0, 3, 4, 5] rfl)
          · skip
            refine lv_iload_n hx hb dX6_parkNextOfRank_54 rfl (lv_at hl 1 rfl) ?_
            subst hQ
            refine z_iret (z := b) hx hb hr hlocks dX6_parkNextOfRank_55 (i, (uZ lwa lar i), (uZ lpa lar (pP n lcap lst lru lre i)), (uZ lka lar (pK n lcap lst lru lre i)), kya, vla) hK hS ⟨by omega, by omega⟩ (hP.sub [0, 4, 5, 6, 7, 8, 9, 1, 2, 3] rfl) (hD.sub [0, 4, 5, 6, 7, 8, 9, 1, 2, 3] (by decide) rfl) ?_
            first | (exfalso; omega) | exact ⟨by omega, by omega, hbb, hbr.1, hbr.2, by rw [show cB n lcap lru lre cm.toNat lst i = _ from if_pos hpk]; omega, fun j h0 h1 => by have a1 := hq37 j h0 (by omega); have a2 := hjk j h0 h1; rw [uZ_ne (by omega), uZ_ne (by omega), uZ_ne (by omega)] at a1; exact ⟨a1.1.trans a2.1, a1.2.1.trans a2.2.1, a1.2.2.trans a2.2.2⟩, (hq37 lar (by omega) (by omega)).1.trans (uZ_same _ _ _), hqm37⟩
        · exact absurd c23 (by omega)
  exact L5 _ 0 0 lwi lpl llk ky vl H locs ls rfl (by omega) (rfl) (by omega) (fun j _ _ => ⟨rfl, rfl, rfl⟩) (hmo) hP hD hS (lv_sub hl [1, 0, 2, 3, 4] rfl)

