set_option maxHeartbeats 4000000 in
set_option maxRecDepth 100000 in
theorem c_X7_standard (l : Launch) (dd : va_G) (cI cJ cC cS : ClassId) (y0 v0 a0 r0 f0 g0 d0 t9 : Nat) (n sts ty th : Int) (mv : Int → Int) (sz : Nat) (hn : 1 ≤ n ∧ n ≤ 8) (hc0 : 0 ≤ mv 0 ∧ mv 0 ≤ 9) (hwi : ∀ j : Int, 0 ≤ j → j < mv 0 → 0 ≤ mv (12 + j) ∧ mv (12 + j) < n) : gMi l yX7_standard wsX7_standard 2 0 0 dd cI cJ cC cS [.ref y0] [kO y0 7 [vI n, .ref v0, .ref a0, vI sts, .ref r0, .ref f0, .ref g0, .ref d0, .ref t9, vI ty, vI th], kI cI v0 21 mv] sz (fun (z : Int) (_ : Unit) => z = stdZ (wv mv) (mv 0) n) (fun (_ : Unit) => [kO y0 7 [vI n, .ref v0, .ref a0, vI sts, .ref r0, .ref f0, .ref g0, .ref d0, .ref t9, vI ty, vI th], kI cI v0 21 mv]) := by
  refine gMi_of (cc := cX7_standard) (maxL := 3) (ret := (some .boolean)) (by decide) rfl (Nat.le_of_ble_eq_true rfl) ?_
  intro p e s m args below meth c A Q hQ hx hb hr hts hown hlocks hnm hml H locs hP hK hD hA hS ls hl
  have hi7 : ∀ w ∈ wsX70, w ∈ wsX7_standard := fun _ h => (List.mem_cons_of_mem _ (List.mem_append_right _ h))
  have hl : lv_has ls 3 [(0, .ref y0)] := hl
  refine lv_aload_n hx hb dX7_standard_0 rfl (lv_at hl 0 rfl) ?_
  refine va_get (D := dd) (ci := 7) (v := .ref v0) (C := RX7) (T := TX7) (N := 11) hx hb hts hi7 hown hK hP 0 rfl rfl 1 (by decide) (hts _ (List.mem_cons_of_mem _ (List.mem_append_left _ (List.mem_of_getElem? (i := 0) rfl)))) (fun _ h9 => h9) rfl dX7_standard_1 ?_
  refine z_iconst hx hb dX7_standard_4 ?_
  refine z_iald hx hb hK hP 1 0 rfl rfl (i := 0) (by omega) (by decide) dX7_standard_5 ?_
  refine lv_aload_n hx hb dX7_standard_6 rfl (lv_at hl 0 rfl) ?_
  refine va_get (D := dd) (ci := 7) (v := vI n) (C := RX7) (T := TX7) (N := 11) hx hb hts hi7 hown hK hP 0 rfl rfl 0 (by decide) (hts _ (List.mem_cons_of_mem _ (List.mem_append_left _ (List.mem_of_getElem? (i := 1) rfl)))) (fun _ h9 => h9) rfl dX7_standard_7 ?_
  refine z_icmp_ne (tgt := 17) hx hb dX7_standard_10 (by decide) (by omega) (fun c10 => ?_) (fun c10 => ?_)
  · skip
    refine z_iconst hx hb dX7_standard_17 ?_
    refine lv_istore_n (lv' := [(1, vI 0), (0, .ref y0)]) hx hb dX7_standard_18 rfl hl (by decide) rfl (fun ls hl => ?_)
    refine z_iconst hx hb dX7_standard_19 ?_
    refine lv_istore_n (lv' := [(2, vI 1), (1, vI 0), (0, .ref y0)]) hx hb dX7_standard_20 rfl hl (by decide) rfl (fun ls hl => ?_)
    have L21 : ∀ (nn : Nat) (j : Int) (k : Int) (H : Heap) (locs : List Loc) (ls : Array Slot), ((n + 2 - j).toNat) = nn → (1 ≤ j ∧ j ≤ n + 1) → (k = 0 ∨ k = 1) → (k = 1 → mv 0 = n ∧ ∀ i : Int, 1 ≤ i → i < j → i ≤ cntB (wv mv) i (mv 0).toNat) → (k = 0 → ¬ stdB (wv mv) (mv 0) n) → va_P dd vwCl [kO y0 7 [vI n, .ref v0, .ref a0, vI sts, .ref r0, .ref f0, .ref g0, .ref d0, .ref t9, vI ty, vI th], kI cI v0 21 mv] H → va_D A [kO y0 7 [vI n, .ref v0, .ref a0, vI sts, .ref r0, .ref f0, .ref g0, .ref d0, .ref t9, vI ty, vI th], kI cI v0 21 mv] → va_S A s.heap H locs → lv_has ls 3 [(1, vI k), (2, vI j), (0, .ref y0)] → W p l e (gR 2 0 0) s m args below meth c H locs 0 0 Q (F0 m 21 ls []) := by
      intro nn
      induction nn using Nat.strongRecOn with
      | ind nn L21i =>
      intro j k H locs ls hmeas hj hk hone hzero hP hD hS hl
      refine lv_iload_n hx hb dX7_standard_21 rfl (lv_at hl 1 rfl) ?_
      refine lv_aload_n hx hb dX7_standard_22 rfl (lv_at hl 2 rfl) ?_
      refine va_get (D := dd) (ci := 7) (v := vI n) (C := RX7) (T := TX7) (N := 11) hx hb hts hi7 hown hK hP 0 rfl rfl 0 (by decide) (hts _ (List.mem_cons_of_mem _ (List.mem_append_left _ (List.mem_of_getElem? (i := 1) rfl)))) (fun _ h9 => h9) rfl dX7_standard_23 ?_
      refine z_icmp_gt (tgt := 54) hx hb dX7_standard_26 (by decide) (by omega) (fun c26 => ?_) (fun c26 => ?_)
      · skip
        refine lv_iload_n hx hb dX7_standard_54 rfl (lv_at hl 0 rfl) ?_
        subst hQ
        refine z_zret (z := k) hx hb hr hlocks dX7_standard_55 (by omega) () hK hS ⟨by omega, by omega⟩ hP hD ?_
        rcases hk with q | q
        · rw [q]; exact (stdZ_0 (hzero q)).symm
        · rw [q]; exact (stdZ_1 ⟨(hone q).1, fun i a b => (hone q).2 i a (by omega)⟩).symm
      · skip
        refine lv_iload_n hx hb dX7_standard_29 rfl (lv_at hl 0 rfl) ?_
        refine z_if_eq (tgt := 46) hx hb dX7_standard_30 (by decide) (by omega) (fun c30 => ?_) (fun c30 => ?_)
        · skip
          refine z_iconst hx hb dX7_standard_46 ?_
          refine lv_istore_n (lv' := [(1, vI 0), (2, vI j), (0, .ref y0)]) hx hb dX7_standard_47 rfl hl (by decide) rfl (fun ls hl => ?_)
          refine z_iinc (a := j) (z := (j + 1)) (lv' := [(2, vI (j + 1)), (1, vI 0), (0, .ref y0)]) hx hb dX7_standard_48 hl (k := 1) rfl rfl (by decide) rfl (fun ls hl => ?_)
          refine lv_goto (tgt := 21) hx hb dX7_standard_51 (by decide) ?_
          exact L21i _ (by omega) (j + 1) 0 H locs ls rfl (by omega) (by omega) (fun q => absurd q (by omega)) (fun _ => hzero (by omega)) hP hD hS (lv_sub hl [1, 0, 2] rfl)
        · skip
          refine lv_aload_n hx hb dX7_standard_33 rfl (lv_at hl 2 rfl) ?_
          refine lv_iload_n hx hb dX7_standard_34 rfl (lv_at hl 1 rfl) ?_
          refine g_callVi (own := RX7) (n := 1) (mc := 0) (ms := 0) (As := [vI j]) (rest := []) (wc := [kO y0 7 [vI n, .ref v0, .ref a0, vI sts, .ref r0, .ref f0, .ref g0, .ref d0, .ref t9, vI ty, vI th], kI cI v0 21 mv]) (wr := []) hx hb hml hown hts hK hP hD hS hA [0, 1] [] rfl rfl (by decide) (by decide) 7 0 rfl rfl (c_X7_below l dd cI cJ cC cS y0 v0 a0 r0 f0 g0 d0 t9 n sts ty th mv j H.size  (by first | assumption | omega) (fun j h0 h1 => by have := hwi j h0 h1; omega) (by first | assumption | omega)) gX7_standard_X7_below rfl (by decide +kernel) (by decide) (by decide) (by decide) (by decide) rfl hl.1 rfl (Nat.le_of_ble_eq_true rfl) dX7_standard_35 (fun z_1 u_2 H locs hp35 hP hD hS => ?_)
          subst z_1
          have hP : va_P dd vwCl [kO y0 7 [vI n, .ref v0, .ref a0, vI sts, .ref r0, .ref f0, .ref g0, .ref d0, .ref t9, vI ty, vI th], kI cI v0 21 mv] H := hP
          have hD : va_D A [kO y0 7 [vI n, .ref v0, .ref a0, vI sts, .ref r0, .ref f0, .ref g0, .ref d0, .ref t9, vI ty, vI th], kI cI v0 21 mv] := hD
          have hcr := cntB_rg (wv mv) j (mv 0).toNat
          refine lv_iload_n hx hb dX7_standard_38 rfl (lv_at hl 1 rfl) ?_
          refine z_icmp_lt (tgt := 46) hx hb dX7_standard_39 (by decide) (by omega) (fun c39 => ?_) (fun c39 => ?_)
          · skip
            refine z_iconst hx hb dX7_standard_46 ?_
            refine lv_istore_n (lv' := [(1, vI 0), (2, vI j), (0, .ref y0)]) hx hb dX7_standard_47 rfl hl (by decide) rfl (fun ls hl => ?_)
            refine z_iinc (a := j) (z := (j + 1)) (lv' := [(2, vI (j + 1)), (1, vI 0), (0, .ref y0)]) hx hb dX7_standard_48 hl (k := 1) rfl rfl (by decide) rfl (fun ls hl => ?_)
            refine lv_goto (tgt := 21) hx hb dX7_standard_51 (by decide) ?_
            exact L21i _ (by omega) (j + 1) 0 H locs ls rfl (by omega) (by omega) (fun q => absurd q (by omega)) (fun _ q => by have := q.2 j (by omega) (by omega); omega) hP hD hS (lv_sub hl [1, 0, 2] rfl)
          · skip
            refine z_iconst hx hb dX7_standard_42 ?_
            refine lv_goto (tgt := 47) hx hb dX7_standard_43 (by decide) ?_
            refine lv_istore_n (lv' := [(1, vI 1), (2, vI j), (0, .ref y0)]) hx hb dX7_standard_47 rfl hl (by decide) rfl (fun ls hl => ?_)
            refine z_iinc (a := j) (z := (j + 1)) (lv' := [(2, vI (j + 1)), (1, vI 1), (0, .ref y0)]) hx hb dX7_standard_48 hl (k := 1) rfl rfl (by decide) rfl (fun ls hl => ?_)
            refine lv_goto (tgt := 21) hx hb dX7_standard_51 (by decide) ?_
            exact L21i _ (by omega) (j + 1) 1 H locs ls rfl (by omega) (by omega) (fun _ => ⟨(hone (by omega)).1, fun i a b => by
              by_cases q : i = j
              · rw [q]; omega
              · exact (hone (by omega)).2 i a (by omega)⟩) (fun q => absurd q (by omega)) hP hD hS (lv_sub hl [1, 0, 2] rfl)
    exact L21 _ 1 0 H locs ls rfl (by omega) (by omega) (fun q => absurd q (by omega)) (fun _ q => absurd q.1 (by omega)) hP hD hS (lv_sub hl [1, 0, 2] rfl)
  · skip
    refine z_iconst hx hb dX7_standard_13 ?_
    refine lv_goto (tgt := 18) hx hb dX7_standard_14 (by decide) ?_
    refine lv_istore_n (lv' := [(1, vI 1), (0, .ref y0)]) hx hb dX7_standard_18 rfl hl (by decide) rfl (fun ls hl => ?_)
    refine z_iconst hx hb dX7_standard_19 ?_
    refine lv_istore_n (lv' := [(2, vI 1), (1, vI 1), (0, .ref y0)]) hx hb dX7_standard_20 rfl hl (by decide) rfl (fun ls hl => ?_)
    have L21 : ∀ (nn : Nat) (j : Int) (k : Int) (H : Heap) (locs : List Loc) (ls : Array Slot), ((n + 2 - j).toNat) = nn → (1 ≤ j ∧ j ≤ n + 1) → (k = 0 ∨ k = 1) → (k = 1 → mv 0 = n ∧ ∀ i : Int, 1 ≤ i → i < j → i ≤ cntB (wv mv) i (mv 0).toNat) → (k = 0 → ¬ stdB (wv mv) (mv 0) n) → va_P dd vwCl [kO y0 7 [vI n, .ref v0, .ref a0, vI sts, .ref r0, .ref f0, .ref g0, .ref d0, .ref t9, vI ty, vI th], kI cI v0 21 mv] H → va_D A [kO y0 7 [vI n, .ref v0, .ref a0, vI sts, .ref r0, .ref f0, .ref g0, .ref d0, .ref t9, vI ty, vI th], kI cI v0 21 mv] → va_S A s.heap H locs → lv_has ls 3 [(1, vI k), (2, vI j), (0, .ref y0)] → W p l e (gR 2 0 0) s m args below meth c H locs 0 0 Q (F0 m 21 ls []) := by
      intro nn
      induction nn using Nat.strongRecOn with
      | ind nn L21i =>
      intro j k H locs ls hmeas hj hk hone hzero hP hD hS hl
      refine lv_iload_n hx hb dX7_standard_21 rfl (lv_at hl 1 rfl) ?_
      refine lv_aload_n hx hb dX7_standard_22 rfl (lv_at hl 2 rfl) ?_
      refine va_get (D := dd) (ci := 7) (v := vI n) (C := RX7) (T := TX7) (N := 11) hx hb hts hi7 hown hK hP 0 rfl rfl 0 (by decide) (hts _ (List.mem_cons_of_mem _ (List.mem_append_left _ (List.mem_of_getElem? (i := 1) rfl)))) (fun _ h9 => h9) rfl dX7_standard_23 ?_
      refine z_icmp_gt (tgt := 54) hx hb dX7_standard_26 (by decide) (by omega) (fun c26 => ?_) (fun c26 => ?_)
      · skip
        refine lv_iload_n hx hb dX7_standard_54 rfl (lv_at hl 0 rfl) ?_
        subst hQ
        refine z_zret (z := k) hx hb hr hlocks dX7_standard_55 (by omega) () hK hS ⟨by omega, by omega⟩ hP hD ?_
        rcases hk with q | q
        · rw [q]; exact (stdZ_0 (hzero q)).symm
        · rw [q]; exact (stdZ_1 ⟨(hone q).1, fun i a b => (hone q).2 i a (by omega)⟩).symm
      · skip
        refine lv_iload_n hx hb dX7_standard_29 rfl (lv_at hl 0 rfl) ?_
        refine z_if_eq (tgt := 46) hx hb dX7_standard_30 (by decide) (by omega) (fun c30 => ?_) (fun c30 => ?_)
        · skip
          refine z_iconst hx hb dX7_standard_46 ?_
          refine lv_istore_n (lv' := [(1, vI 0), (2, vI j), (0, .ref y0)]) hx hb dX7_standard_47 rfl hl (by decide) rfl (fun ls hl => ?_)
          refine z_iinc (a := j) (z := (j + 1)) (lv' := [(2, vI (j + 1)), (1, vI 0), (0, .ref y0)]) hx hb dX7_standard_48 hl (k := 1) rfl rfl (by decide) rfl (fun ls hl => ?_)
          refine lv_goto (tgt := 21) hx hb dX7_standard_51 (by decide) ?_
          exact L21i _ (by omega) (j + 1) 0 H locs ls rfl (by omega) (by omega) (fun q => absurd q (by omega)) (fun _ => hzero (by omega)) hP hD hS (lv_sub hl [1, 0, 2] rfl)
        · skip
          refine lv_aload_n hx hb dX7_standard_33 rfl (lv_at hl 2 rfl) ?_
          refine lv_iload_n hx hb dX7_standard_34 rfl (lv_at hl 1 rfl) ?_
          refine g_callVi (own := RX7) (n := 1) (mc := 0) (ms := 0) (As := [vI j]) (rest := []) (wc := [kO y0 7 [vI n, .ref v0, .ref a0, vI sts, .ref r0, .ref f0, .ref g0, .ref d0, .ref t9, vI ty, vI th], kI cI v0 21 mv]) (wr := []) hx hb hml hown hts hK hP hD hS hA [0, 1] [] rfl rfl (by decide) (by decide) 7 0 rfl rfl (c_X7_below l dd cI cJ cC cS y0 v0 a0 r0 f0 g0 d0 t9 n sts ty th mv j H.size  (by first | assumption | omega) (fun j h0 h1 => by have := hwi j h0 h1; omega) (by first | assumption | omega)) gX7_standard_X7_below rfl (by decide +kernel) (by decide) (by decide) (by decide) (by decide) rfl hl.1 rfl (Nat.le_of_ble_eq_true rfl) dX7_standard_35 (fun z_3 u_4 H locs hp35_5 hP hD hS => ?_)
          subst z_3
          have hP : va_P dd vwCl [kO y0 7 [vI n, .ref v0, .ref a0, vI sts, .ref r0, .ref f0, .ref g0, .ref d0, .ref t9, vI ty, vI th], kI cI v0 21 mv] H := hP
          have hD : va_D A [kO y0 7 [vI n, .ref v0, .ref a0, vI sts, .ref r0, .ref f0, .ref g0, .ref d0, .ref t9, vI ty, vI th], kI cI v0 21 mv] := hD
          have hcr := cntB_rg (wv mv) j (mv 0).toNat
          refine lv_iload_n hx hb dX7_standard_38 rfl (lv_at hl 1 rfl) ?_
          refine z_icmp_lt (tgt := 46) hx hb dX7_standard_39 (by decide) (by omega) (fun c39 => ?_) (fun c39 => ?_)
          · skip
            refine z_iconst hx hb dX7_standard_46 ?_
            refine lv_istore_n (lv' := [(1, vI 0), (2, vI j), (0, .ref y0)]) hx hb dX7_standard_47 rfl hl (by decide) rfl (fun ls hl => ?_)
            refine z_iinc (a := j) (z := (j + 1)) (lv' := [(2, vI (j + 1)), (1, vI 0), (0, .ref y0)]) hx hb dX7_standard_48 hl (k := 1) rfl rfl (by decide) rfl (fun ls hl => ?_)
            refine lv_goto (tgt := 21) hx hb dX7_standard_51 (by decide) ?_
            exact L21i _ (by omega) (j + 1) 0 H locs ls rfl (by omega) (by omega) (fun q => absurd q (by omega)) (fun _ q => by have := q.2 j (by omega) (by omega); omega) hP hD hS (lv_sub hl [1, 0, 2] rfl)
          · skip
            refine z_iconst hx hb dX7_standard_42 ?_
            refine lv_goto (tgt := 47) hx hb dX7_standard_43 (by decide) ?_
            refine lv_istore_n (lv' := [(1, vI 1), (2, vI j), (0, .ref y0)]) hx hb dX7_standard_47 rfl hl (by decide) rfl (fun ls hl => ?_)
            refine z_iinc (a := j) (z := (j + 1)) (lv' := [(2, vI (j + 1)), (1, vI 1), (0, .ref y0)]) hx hb dX7_standard_48 hl (k := 1) rfl rfl (by decide) rfl (fun ls hl => ?_)
            refine lv_goto (tgt := 21) hx hb dX7_standard_51 (by decide) ?_
            exact L21i _ (by omega) (j + 1) 1 H locs ls rfl (by omega) (by omega) (fun _ => ⟨(hone (by omega)).1, fun i a b => by
              by_cases q : i = j
              · rw [q]; omega
              · exact (hone (by omega)).2 i a (by omega)⟩) (fun q => absurd q (by omega)) hP hD hS (lv_sub hl [1, 0, 2] rfl)
    exact L21 _ 1 1 H locs ls rfl (by omega) (by omega) (fun _ => ⟨by omega, fun i a b => absurd b (by omega)⟩) (fun q => absurd q (by omega)) hP hD hS (lv_sub hl [1, 0, 2] rfl)

set_option maxHeartbeats 4000000 in
set_option maxRecDepth 100000 in
theorem c_X7_isStandard (l : Launch) (dd : va_G) (cI cJ cC cS : ClassId) (y0 v0 a0 r0 f0 g0 d0 t9 : Nat) (n sts ty th : Int) (mv : Int → Int) (sz : Nat) (hn : 1 ≤ n ∧ n ≤ 8) (hc0 : 0 ≤ mv 0 ∧ mv 0 ≤ 9) (hwi : ∀ j : Int, 0 ≤ j → j < mv 0 → 0 ≤ mv (12 + j) ∧ mv (12 + j) < n) : gMi l yX7_isStandard wsX7_isStandard 3 0 0 dd cI cJ cC cS [.ref y0] [kO y0 7 [vI n, .ref v0, .ref a0, vI sts, .ref r0, .ref f0, .ref g0, .ref d0, .ref t9, vI ty, vI th], kI cI v0 21 mv] sz (fun (z : Int) (_ : Unit) => z = stdZ (wv mv) (mv 0) n) (fun (_ : Unit) => [kO y0 7 [vI n, .ref v0, .ref a0, vI sts, .ref r0, .ref f0, .ref g0, .ref d0, .ref t9, vI ty, vI 0], kI cI v0 21 mv]) := by
  refine gMi_of (cc := cX7_isStandard) (maxL := 1) (ret := (some .boolean)) (by decide) rfl (Nat.le_of_ble_eq_true rfl) ?_
  intro p e s m args below meth c A Q hQ hx hb hr hts hown hlocks hnm hml H locs hP hK hD hA hS ls hl
  have hi7 : ∀ w ∈ wsX70, w ∈ wsX7_isStandard := fun _ h => (List.mem_cons_of_mem _ (List.mem_append_right _ h))
  have hl : lv_has ls 1 [(0, .ref y0)] := hl
  refine lv_aload_n hx hb dX7_isStandard_0 rfl (lv_at hl 0 rfl) ?_
  refine z_iconst hx hb dX7_isStandard_1 ?_
  refine va_put (D := dd) (ci := 7) (v := vI 0) (ty := .int) (C := RX7) (T := TX7) (N := 11) hx hb hts hi7 tyX7 tyX7_ok nmX7 hown hK hP hD hS 0 rfl rfl 10 (by decide) (hts _ (List.mem_cons_of_mem _ (List.mem_append_left _ (List.mem_of_getElem? (i := 0) rfl)))) (fun _ h9 => h9) rfl (by decide +kernel) rfl rfl (Nat.le_of_ble_eq_true rfl) dX7_isStandard_2 (fun H locs hP hD hS => ?_)
  have hP : va_P dd vwCl [kO y0 7 [vI n, .ref v0, .ref a0, vI sts, .ref r0, .ref f0, .ref g0, .ref d0, .ref t9, vI ty, vI 0], kI cI v0 21 mv] H := hP
  have hD : va_D A [kO y0 7 [vI n, .ref v0, .ref a0, vI sts, .ref r0, .ref f0, .ref g0, .ref d0, .ref t9, vI ty, vI 0], kI cI v0 21 mv] := hD
  refine lv_aload_n hx hb dX7_isStandard_5 rfl (lv_at hl 0 rfl) ?_
  refine g_callVi (own := RX7) (n := 0) (mc := 0) (ms := 0) (As := []) (rest := []) (wc := [kO y0 7 [vI n, .ref v0, .ref a0, vI sts, .ref r0, .ref f0, .ref g0, .ref d0, .ref t9, vI ty, vI 0], kI cI v0 21 mv]) (wr := []) hx hb hml hown hts hK hP hD hS hA [0, 1] [] rfl rfl (by decide) (by decide) 7 0 rfl rfl (c_X7_standard l dd cI cJ cC cS y0 v0 a0 r0 f0 g0 d0 t9 n sts ty 0 mv H.size  (by first | assumption | omega) (by first | assumption | omega) (by first | assumption | (intro j h0 h1; omega))) gX7_isStandard_X7_standard rfl (by decide +kernel) (by decide) (by decide) (by decide) (by decide) rfl hl.1 rfl (Nat.le_of_ble_eq_true rfl) dX7_isStandard_6 (fun z_1 u_2 H locs hp6 hP hD hS => ?_)
  subst z_1
  have hP : va_P dd vwCl [kO y0 7 [vI n, .ref v0, .ref a0, vI sts, .ref r0, .ref f0, .ref g0, .ref d0, .ref t9, vI ty, vI 0], kI cI v0 21 mv] H := hP
  have hD : va_D A [kO y0 7 [vI n, .ref v0, .ref a0, vI sts, .ref r0, .ref f0, .ref g0, .ref d0, .ref t9, vI ty, vI 0], kI cI v0 21 mv] := hD
  have hz9 := stdZ_or (wv mv) (mv 0) n
  subst hQ
  refine z_zret (z := stdZ (wv mv) (mv 0) n) hx hb hr hlocks dX7_isStandard_9 (by omega) () hK hS ⟨by omega, by omega⟩ hP hD ?_
  first | rfl | trivial | omega

set_option maxHeartbeats 4000000 in
set_option maxRecDepth 100000 in
theorem c_X7_isPrime (l : Launch) (dd : va_G) (cI cJ cC cS : ClassId) (y0 v0 a0 r0 f0 g0 d0 t9 : Nat) (n sts ty th : Int) (mv : Int → Int) (sz : Nat) (hn : 1 ≤ n ∧ n ≤ 8) (hc0 : 0 ≤ mv 0 ∧ mv 0 ≤ 9) (hwi : ∀ j : Int, 0 ≤ j → j < mv 0 → 0 ≤ mv (12 + j) ∧ mv (12 + j) < n) : gMi l yX7_isPrime wsX7_isPrime 3 0 0 dd cI cJ cC cS [.ref y0] [kO y0 7 [vI n, .ref v0, .ref a0, vI sts, .ref r0, .ref f0, .ref g0, .ref d0, .ref t9, vI ty, vI th], kI cI v0 21 mv] sz (fun (z : Int) (_ : Unit) => z = prmZ (wv mv) (mv 0) n) (fun (_ : Unit) => [kO y0 7 [vI n, .ref v0, .ref a0, vI sts, .ref r0, .ref f0, .ref g0, .ref d0, .ref t9, vI ty, vI 0], kI cI v0 21 mv]) := by
  refine gMi_of (cc := cX7_isPrime) (maxL := 3) (ret := (some .boolean)) (by decide) rfl (Nat.le_of_ble_eq_true rfl) ?_
  intro p e s m args below meth c A Q hQ hx hb hr hts hown hlocks hnm hml H locs hP hK hD hA hS ls hl
  have hi7 : ∀ w ∈ wsX70, w ∈ wsX7_isPrime := fun _ h => (List.mem_cons_of_mem _ (List.mem_append_right _ h))
  have hl : lv_has ls 3 [(0, .ref y0)] := hl
  refine lv_aload_n hx hb dX7_isPrime_0 rfl (lv_at hl 0 rfl) ?_
  refine z_iconst hx hb dX7_isPrime_1 ?_
  refine va_put (D := dd) (ci := 7) (v := vI 0) (ty := .int) (C := RX7) (T := TX7) (N := 11) hx hb hts hi7 tyX7 tyX7_ok nmX7 hown hK hP hD hS 0 rfl rfl 10 (by decide) (hts _ (List.mem_cons_of_mem _ (List.mem_append_left _ (List.mem_of_getElem? (i := 0) rfl)))) (fun _ h9 => h9) rfl (by decide +kernel) rfl rfl (Nat.le_of_ble_eq_true rfl) dX7_isPrime_2 (fun H locs hP hD hS => ?_)
  have hP : va_P dd vwCl [kO y0 7 [vI n, .ref v0, .ref a0, vI sts, .ref r0, .ref f0, .ref g0, .ref d0, .ref t9, vI ty, vI 0], kI cI v0 21 mv] H := hP
  have hD : va_D A [kO y0 7 [vI n, .ref v0, .ref a0, vI sts, .ref r0, .ref f0, .ref g0, .ref d0, .ref t9, vI ty, vI 0], kI cI v0 21 mv] := hD
  refine lv_aload_n hx hb dX7_isPrime_5 rfl (lv_at hl 0 rfl) ?_
  refine g_callVi (own := RX7) (n := 0) (mc := 0) (ms := 0) (As := []) (rest := []) (wc := [kO y0 7 [vI n, .ref v0, .ref a0, vI sts, .ref r0, .ref f0, .ref g0, .ref d0, .ref t9, vI ty, vI 0], kI cI v0 21 mv]) (wr := []) hx hb hml hown hts hK hP hD hS hA [0, 1] [] rfl rfl (by decide) (by decide) 7 0 rfl rfl (c_X7_standard l dd cI cJ cC cS y0 v0 a0 r0 f0 g0 d0 t9 n sts ty 0 mv H.size  (by first | assumption | omega) (by first | assumption | omega) (by first | assumption | (intro j h0 h1; omega))) gX7_isPrime_X7_standard rfl (by decide +kernel) (by decide) (by decide) (by decide) (by decide) rfl hl.1 rfl (Nat.le_of_ble_eq_true rfl) dX7_isPrime_6 (fun z_1 u_2 H locs hp6 hP hD hS => ?_)
  subst z_1
  have hP : va_P dd vwCl [kO y0 7 [vI n, .ref v0, .ref a0, vI sts, .ref r0, .ref f0, .ref g0, .ref d0, .ref t9, vI ty, vI 0], kI cI v0 21 mv] H := hP
  have hD : va_D A [kO y0 7 [vI n, .ref v0, .ref a0, vI sts, .ref r0, .ref f0, .ref g0, .ref d0, .ref t9, vI ty, vI 0], kI cI v0 21 mv] := hD
  have hz9 := stdZ_or (wv mv) (mv 0) n
  refine lv_istore_n (lv' := [(1, vI (stdZ (wv mv) (mv 0) n)), (0, .ref y0)]) hx hb dX7_isPrime_9 rfl hl (by decide) rfl (fun ls hl => ?_)
  refine z_iconst hx hb dX7_isPrime_10 ?_
  refine lv_istore_n (lv' := [(2, vI 1), (1, vI (stdZ (wv mv) (mv 0) n)), (0, .ref y0)]) hx hb dX7_isPrime_11 rfl hl (by decide) rfl (fun ls hl => ?_)
  have L12 : ∀ (nn : Nat) (j : Int) (k : Int) (H : Heap) (locs : List Loc) (ls : Array Slot), ((n + 2 - j).toNat) = nn → (1 ≤ j ∧ j ≤ n + 1) → (k = 0 ∨ k = 1) → (k = 1 → stdB (wv mv) (mv 0) n ∧ ∀ i : Int, 1 ≤ i → i < j → i < cntB (wv mv) i (mv 0).toNat) → (k = 0 → ¬ prmB (wv mv) (mv 0) n) → va_P dd vwCl [kO y0 7 [vI n, .ref v0, .ref a0, vI sts, .ref r0, .ref f0, .ref g0, .ref d0, .ref t9, vI ty, vI 0], kI cI v0 21 mv] H → va_D A [kO y0 7 [vI n, .ref v0, .ref a0, vI sts, .ref r0, .ref f0, .ref g0, .ref d0, .ref t9, vI ty, vI 0], kI cI v0 21 mv] → va_S A s.heap H locs → lv_has ls 3 [(1, vI k), (2, vI j), (0, .ref y0)] → W p l e (gR 3 0 0) s m args below meth c H locs 0 0 Q (F0 m 12 ls []) := by
    intro nn
    induction nn using Nat.strongRecOn with
    | ind nn L12i =>
    intro j k H locs ls hmeas hj hk hone hzero hP hD hS hl
    refine lv_iload_n hx hb dX7_isPrime_12 rfl (lv_at hl 1 rfl) ?_
    refine lv_aload_n hx hb dX7_isPrime_13 rfl (lv_at hl 2 rfl) ?_
    refine va_get (D := dd) (ci := 7) (v := vI n) (C := RX7) (T := TX7) (N := 11) hx hb hts hi7 hown hK hP 0 rfl rfl 0 (by decide) (hts _ (List.mem_cons_of_mem _ (List.mem_append_left _ (List.mem_of_getElem? (i := 1) rfl)))) (fun _ h9 => h9) rfl dX7_isPrime_14 ?_
    refine z_icmp_ge (tgt := 45) hx hb dX7_isPrime_17 (by decide) (by omega) (fun c17 => ?_) (fun c17 => ?_)
    · skip
      refine lv_iload_n hx hb dX7_isPrime_45 rfl (lv_at hl 0 rfl) ?_
      subst hQ
      refine z_zret (z := k) hx hb hr hlocks dX7_isPrime_46 (by omega) () hK hS ⟨by omega, by omega⟩ hP hD ?_
      rcases hk with q | q
      · rw [q]; exact (prmZ_0 (hzero q)).symm
      · rw [q]; exact (prmZ_1 ⟨(hone q).1, fun i a b => (hone q).2 i a (by omega)⟩).symm
    · skip
      refine lv_iload_n hx hb dX7_isPrime_20 rfl (lv_at hl 0 rfl) ?_
      refine z_if_eq (tgt := 37) hx hb dX7_isPrime_21 (by decide) (by omega) (fun c21 => ?_) (fun c21 => ?_)
      · skip
        refine z_iconst hx hb dX7_isPrime_37 ?_
        refine lv_istore_n (lv' := [(1, vI 0), (2, vI j), (0, .ref y0)]) hx hb dX7_isPrime_38 rfl hl (by decide) rfl (fun ls hl => ?_)
        refine z_iinc (a := j) (z := (j + 1)) (lv' := [(2, vI (j + 1)), (1, vI 0), (0, .ref y0)]) hx hb dX7_isPrime_39 hl (k := 1) rfl rfl (by decide) rfl (fun ls hl => ?_)
        refine lv_goto (tgt := 12) hx hb dX7_isPrime_42 (by decide) ?_
        exact L12i _ (by omega) (j + 1) 0 H locs ls rfl (by omega) (by omega) (fun q => absurd q (by omega)) (fun _ => hzero (by omega)) hP hD hS (lv_sub hl [1, 0, 2] rfl)
      · skip
        refine lv_aload_n hx hb dX7_isPrime_24 rfl (lv_at hl 2 rfl) ?_
        refine lv_iload_n hx hb dX7_isPrime_25 rfl (lv_at hl 1 rfl) ?_
        refine g_callVi (own := RX7) (n := 1) (mc := 0) (ms := 0) (As := [vI j]) (rest := []) (wc := [kO y0 7 [vI n, .ref v0, .ref a0, vI sts, .ref r0, .ref f0, .ref g0, .ref d0, .ref t9, vI ty, vI 0], kI cI v0 21 mv]) (wr := []) hx hb hml hown hts hK hP hD hS hA [0, 1] [] rfl rfl (by decide) (by decide) 7 0 rfl rfl (c_X7_below l dd cI cJ cC cS y0 v0 a0 r0 f0 g0 d0 t9 n sts ty 0 mv j H.size  (by first | assumption | omega) (fun j h0 h1 => by have := hwi j h0 h1; omega) (by first | assumption | omega)) gX7_isPrime_X7_below rfl (by decide +kernel) (by decide) (by decide) (by decide) (by decide) rfl hl.1 rfl (Nat.le_of_ble_eq_true rfl) dX7_isPrime_26 (fun z_3 u_4 H locs hp26 hP hD hS => ?_)
        subst z_3
        have hP : va_P dd vwCl [kO y0 7 [vI n, .ref v0, .ref a0, vI sts, .ref r0, .ref f0, .ref g0, .ref d0, .ref t9, vI ty, vI 0], kI cI v0 21 mv] H := hP
        have hD : va_D A [kO y0 7 [vI n, .ref v0, .ref a0, vI sts, .ref r0, .ref f0, .ref g0, .ref d0, .ref t9, vI ty, vI 0], kI cI v0 21 mv] := hD
        have hcr := cntB_rg (wv mv) j (mv 0).toNat
        refine lv_iload_n hx hb dX7_isPrime_29 rfl (lv_at hl 1 rfl) ?_
        refine z_icmp_le (tgt := 37) hx hb dX7_isPrime_30 (by decide) (by omega) (fun c30 => ?_) (fun c30 => ?_)
        · skip
          refine z_iconst hx hb dX7_isPrime_37 ?_
          refine lv_istore_n (lv' := [(1, vI 0), (2, vI j), (0, .ref y0)]) hx hb dX7_isPrime_38 rfl hl (by decide) rfl (fun ls hl => ?_)
          refine z_iinc (a := j) (z := (j + 1)) (lv' := [(2, vI (j + 1)), (1, vI 0), (0, .ref y0)]) hx hb dX7_isPrime_39 hl (k := 1) rfl rfl (by decide) rfl (fun ls hl => ?_)
          refine lv_goto (tgt := 12) hx hb dX7_isPrime_42 (by decide) ?_
          exact L12i _ (by omega) (j + 1) 0 H locs ls rfl (by omega) (by omega) (fun q => absurd q (by omega)) (fun _ q => by have := q.2 j (by omega) (by omega); omega) hP hD hS (lv_sub hl [1, 0, 2] rfl)
        · skip
          refine z_iconst hx hb dX7_isPrime_33 ?_
          refine lv_goto (tgt := 38) hx hb dX7_isPrime_34 (by decide) ?_
          refine lv_istore_n (lv' := [(1, vI 1), (2, vI j), (0, .ref y0)]) hx hb dX7_isPrime_38 rfl hl (by decide) rfl (fun ls hl => ?_)
          refine z_iinc (a := j) (z := (j + 1)) (lv' := [(2, vI (j + 1)), (1, vI 1), (0, .ref y0)]) hx hb dX7_isPrime_39 hl (k := 1) rfl rfl (by decide) rfl (fun ls hl => ?_)
          refine lv_goto (tgt := 12) hx hb dX7_isPrime_42 (by decide) ?_
          exact L12i _ (by omega) (j + 1) 1 H locs ls rfl (by omega) (by omega) (fun _ => ⟨(hone (by omega)).1, fun i a b => by
            by_cases q : i = j
            · rw [q]; omega
            · exact (hone (by omega)).2 i a (by omega)⟩) (fun q => absurd q (by omega)) hP hD hS (lv_sub hl [1, 0, 2] rfl)
  exact L12 _ 1 (stdZ (wv mv) (mv 0) n) H locs ls rfl (by omega) (by omega) (fun q => ⟨stdZ_iff.mp q, fun i a b => absurd b (by omega)⟩) (fun q u => by have := stdZ_1 u.1; omega) hP hD hS (lv_sub hl [1, 0, 2] rfl)

