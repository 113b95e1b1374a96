/-! the model: all cars park -/
def lvZ (n : Int) (cap : Int → Int) (ru re : Int) (wi : Int → Int) (k : Nat) : Int := sumZ (fun c => if ppl n cap ru re wi c = -1 then 1 else 0) k

set_option maxHeartbeats 4000000 in
set_option maxRecDepth 100000 in
theorem c_X7_parksAll (l : Launch) (dd : va_G) (cI cJ cC cS : ClassId) (y0 v0 a0 r0 f0 g0 d0 t9 : Nat) (n sts ty th : Int) (mv : Int → Int) (mr mf mg md : Int → Int) (q : Int) (sz : Nat) (hn : 1 ≤ n ∧ n ≤ 8) (hc1 : 0 ≤ mv 1 ∧ mv 1 ≤ 3) (hc2 : 0 ≤ mv 2 ∧ mv 2 ≤ 8) (hcap : ∀ j : Int, 0 ≤ j → j < n → 0 ≤ mv (3 + j) ∧ mv (3 + j) ≤ 3) (hq : 0 ≤ q ∧ q ≤ 9) (hmr : ∀ j : Int, 0 ≤ j → j < q → 0 ≤ mr j ∧ mr j < n) : gMi l yX7_parksAll wsX7_parksAll 3 0 0 dd cI cJ cC cS [.ref y0, vI q] [kO y0 7 [vI n, .ref v0, .ref a0, vI sts, .ref r0, .ref f0, .ref g0, .ref d0, .ref t9, vI ty, vI th], kI cI v0 21 mv, kI cI r0 9 mr, kI cI f0 9 mf, kI cI g0 9 mg, kI cI d0 8 md] sz (fun (z : Int) (u : (Int → Int) × (Int → Int) × (Int → Int)) => z = lvZ n (rmc mv) (mv 1) (mv 2) mr q.toNat ∧ (∀ j : Int, 0 ≤ j → j < q → u.1 j = ppl n (rmc mv) (mv 1) (mv 2) mr j ∧ u.2.1 j = plk n (rmc mv) (mv 1) (mv 2) mr j)) (fun (u : (Int → Int) × (Int → Int) × (Int → Int)) => [kO y0 7 [vI n, .ref v0, .ref a0, vI sts, .ref r0, .ref f0, .ref g0, .ref d0, .ref t9, vI ty, vI th], kI cI v0 21 mv, kI cI r0 9 mr, kI cI f0 9 u.1, kI cI g0 9 u.2.1, kI cI d0 8 u.2.2]) := by
  refine gMi_of (cc := cX7_parksAll) (maxL := 4) (ret := (some .int)) (by decide) rfl (Nat.le_of_ble_eq_true rfl) ?_
  intro p e s m args below meth c A Q hQ hx hb hr hts hown hlocks hnm hml H locs hP hK hD hA hS ls hl
  have hi7 : ∀ w ∈ wsX70, w ∈ wsX7_parksAll := fun _ h => (List.mem_cons_of_mem _ (List.mem_append_right _ h))
  have hl : lv_has ls 4 [(0, .ref y0), (1, vI q)] := hl
  refine z_iconst hx hb dX7_parksAll_0 ?_
  refine lv_istore_n (lv' := [(2, vI 0), (0, .ref y0), (1, vI q)]) hx hb dX7_parksAll_1 rfl hl (by decide) rfl (fun ls hl => ?_)
  have L2 : ∀ (nn : Nat) (s9 : Int) (H : Heap) (locs : List Loc) (ls : Array Slot), ((n + 1 - s9).toNat) = nn → (0 ≤ s9 ∧ s9 ≤ n) → va_P dd vwCl [kO y0 7 [vI n, .ref v0, .ref a0, vI sts, .ref r0, .ref f0, .ref g0, .ref d0, .ref t9, vI ty, vI th], kI cI v0 21 mv, kI cI r0 9 mr, kI cI f0 9 mf, kI cI g0 9 mg, kI cI d0 8 (cpZ zeroZ md s9)] H → va_D A [kO y0 7 [vI n, .ref v0, .ref a0, vI sts, .ref r0, .ref f0, .ref g0, .ref d0, .ref t9, vI ty, vI th], kI cI v0 21 mv, kI cI r0 9 mr, kI cI f0 9 mf, kI cI g0 9 mg, kI cI d0 8 (cpZ zeroZ md s9)] → va_S A s.heap H locs → lv_has ls 4 [(2, vI s9), (0, .ref y0), (1, vI q)] → W p l e (gR 3 0 0) s m args below meth c H locs 0 0 Q (F0 m 2 ls []) := by
    intro nn
    induction nn using Nat.strongRecOn with
    | ind nn L2i =>
    intro s9 H locs ls hmeas hs9 hP hD hS hl
    refine lv_iload_n hx hb dX7_parksAll_2 rfl (lv_at hl 0 rfl) ?_
    refine lv_aload_n hx hb dX7_parksAll_3 rfl (lv_at hl 1 rfl) ?_
    refine va_get (D := dd) (ci := 7) (v := vI n) (C := RX7) (T := TX7) (N := 11) hx hb hts hi7 hown hK hP 0 rfl rfl 0 (by decide) (hts _ (List.mem_cons_of_mem _ (List.mem_append_left _ (List.mem_of_getElem? (i := 0) rfl)))) (fun _ h9 => h9) rfl dX7_parksAll_4 ?_
    refine z_icmp_ge (tgt := 23) hx hb dX7_parksAll_7 (by decide) (by omega) (fun c7 => ?_) (fun c7 => ?_)
    · skip
      refine z_iconst hx hb dX7_parksAll_23 ?_
      refine lv_istore_n (lv' := [(2, vI 0), (0, .ref y0), (1, vI q)]) hx hb dX7_parksAll_24 rfl hl (by decide) rfl (fun ls hl => ?_)
      refine z_iconst hx hb dX7_parksAll_25 ?_
      refine lv_istore_n (lv' := [(3, vI 0), (2, vI 0), (0, .ref y0), (1, vI q)]) hx hb dX7_parksAll_26 rfl hl (by decide) rfl (fun ls hl => ?_)
      have L27 : ∀ (nn : Nat) (i : Int) (b : Int) (mf9 : Int → Int) (mg9 : Int → Int) (md9 : Int → Int) (H : Heap) (locs : List Loc) (ls : Array Slot), ((q + 1 - i).toNat) = nn → (0 ≤ i ∧ i ≤ q) → (b = lvZ n (rmc mv) (mv 1) (mv 2) mr i.toNat) → (∀ j : Int, 0 ≤ j → j < n → md9 j = pst n (rmc mv) (mv 1) (mv 2) mr i.toNat j) → ((∀ j : Int, 0 ≤ j → j < i → mf9 j = ppl n (rmc mv) (mv 1) (mv 2) mr j ∧ mg9 j = plk n (rmc mv) (mv 1) (mv 2) mr j)) → va_P dd vwCl [kO y0 7 [vI n, .ref v0, .ref a0, vI sts, .ref r0, .ref f0, .ref g0, .ref d0, .ref t9, vI ty, vI th], kI cI v0 21 mv, kI cI r0 9 mr, kI cI f0 9 mf9, kI cI g0 9 mg9, kI cI d0 8 md9] H → va_D A [kO y0 7 [vI n, .ref v0, .ref a0, vI sts, .ref r0, .ref f0, .ref g0, .ref d0, .ref t9, vI ty, vI th], kI cI v0 21 mv, kI cI r0 9 mr, kI cI f0 9 mf9, kI cI g0 9 mg9, kI cI d0 8 md9] → va_S A s.heap H locs → lv_has ls 4 [(2, vI b), (3, vI i), (0, .ref y0), (1, vI q)] → W p l e (gR 3 0 0) s m args below meth c H locs 0 0 Q (F0 m 27 ls []) := by
        intro nn
        induction nn using Nat.strongRecOn with
        | ind nn L27i =>
        intro i b mf9 mg9 md9 H locs ls hmeas hi hbb hst9 hpk hP hD hS hl
        refine lv_iload_n hx hb dX7_parksAll_27 rfl (lv_at hl 1 rfl) ?_
        refine lv_iload_n hx hb dX7_parksAll_28 rfl (lv_at hl 3 rfl) ?_
        refine z_icmp_ge (tgt := 60) hx hb dX7_parksAll_29 (by decide) (by omega) (fun c29 => ?_) (fun c29 => ?_)
        · skip
          refine lv_iload_n hx hb dX7_parksAll_60 rfl (lv_at hl 0 rfl) ?_
          subst hQ
          refine z_iret (z := b) hx hb hr hlocks dX7_parksAll_61 (mf9, mg9, md9) hK hS ⟨by omega, by omega⟩ hP hD ?_
          have hiq : i = q := by omega
          subst hiq
          exact ⟨hbb, hpk⟩
        · skip
          refine lv_aload_n hx hb dX7_parksAll_32 rfl (lv_at hl 2 rfl) ?_
          refine lv_iload_n hx hb dX7_parksAll_33 rfl (lv_at hl 1 rfl) ?_
          refine g_callVv (own := RX7) (n := 1) (mc := 0) (ms := 0) (As := [vI i]) (rest := []) (wc := [kO y0 7 [vI n, .ref v0, .ref a0, vI sts, .ref r0, .ref f0, .ref g0, .ref d0, .ref t9, vI ty, vI th], kI cI v0 21 mv, kI cI r0 9 mr, kI cI f0 9 mf9, kI cI g0 9 mg9, kI cI d0 8 md9]) (wr := []) hx hb hml hown hts hK hP hD hS hA [0, 1, 2, 3, 4, 5] [] rfl rfl (by decide) (by decide) 7 0 rfl rfl (c_X7_parks l dd cI cJ cC cS y0 v0 a0 r0 f0 g0 d0 t9 n sts ty th mv mr mf9 mg9 md9 i H.size  (by first | assumption | omega) (by first | assumption | omega) (by first | assumption | omega) (by first | assumption | (intro j h0 h1; omega)) (by first | assumption | omega) (hmr i (by omega) (by omega)) (fun j h0 h1 => by rw [hst9 j h0 h1]; exact pst_rg (cap := rmc mv) hcap _ j h0 h1)) gX7_parksAll_X7_parks rfl (by decide +kernel) (by decide) (by decide) (by decide) (by decide) rfl hl.1 rfl (Nat.le_of_ble_eq_true rfl) dX7_parksAll_34 (fun u_1 H locs hp34 hP hD hS => ?_)
          have hP : va_P dd vwCl [kO y0 7 [vI n, .ref v0, .ref a0, vI sts, .ref r0, .ref f0, .ref g0, .ref d0, .ref t9, vI ty, vI th], kI cI v0 21 mv, kI cI r0 9 mr, kI cI f0 9 (uZ mf9 i (pP n (rmc mv) md9 (mv 1) (mv 2) (mr i))), kI cI g0 9 (uZ mg9 i (pK n (rmc mv) md9 (mv 1) (mv 2) (mr i))), kI cI d0 8 (stp md9 (pP n (rmc mv) md9 (mv 1) (mv 2) (mr i)))] H := hP
          have hD : va_D A [kO y0 7 [vI n, .ref v0, .ref a0, vI sts, .ref r0, .ref f0, .ref g0, .ref d0, .ref t9, vI ty, vI th], kI cI v0 21 mv, kI cI r0 9 mr, kI cI f0 9 (uZ mf9 i (pP n (rmc mv) md9 (mv 1) (mv 2) (mr i))), kI cI g0 9 (uZ mg9 i (pK n (rmc mv) md9 (mv 1) (mv 2) (mr i))), kI cI d0 8 (stp md9 (pP n (rmc mv) md9 (mv 1) (mv 2) (mr i)))] := hD
          have hep : pP n (rmc mv) md9 (mv 1) (mv 2) (mr i) = ppl n (rmc mv) (mv 1) (mv 2) mr i := pP_congr (fun _ _ _ => rfl) hst9
          have hek : pK n (rmc mv) md9 (mv 1) (mv 2) (mr i) = plk n (rmc mv) (mv 1) (mv 2) mr i := pK_congr (fun _ _ _ => rfl) hst9
          have hpr := ppl_rg n (rmc mv) (mv 1) (mv 2) mr i
          refine lv_iload_n hx hb dX7_parksAll_37 rfl (lv_at hl 0 rfl) ?_
          refine lv_aload_n hx hb dX7_parksAll_38 rfl (lv_at hl 2 rfl) ?_
          refine va_get (D := dd) (ci := 7) (v := .ref f0) (C := RX7) (T := TX7) (N := 11) hx hb hts hi7 hown hK hP 0 rfl rfl 5 (by decide) (hts _ (List.mem_cons_of_mem _ (List.mem_append_left _ (List.mem_of_getElem? (i := 2) rfl)))) (fun _ h9 => h9) rfl dX7_parksAll_39 ?_
          refine lv_iload_n hx hb dX7_parksAll_42 rfl (lv_at hl 1 rfl) ?_
          refine z_iald hx hb hK hP 3 0 rfl rfl (i := i) (by omega) (by decide) dX7_parksAll_43 ?_
          refine z_bin (va := .null) (vb := .null) (y := zI (ppl n (rmc mv) (mv 1) (mv 2) mr i)) (congrArg zI (by rw [uZ_same]; exact hep)) ?_
          refine z_if_ge (tgt := 51) hx hb dX7_parksAll_44 (by decide) (by omega) (fun c44 => ?_) (fun c44 => ?_)
          · skip
            refine z_iconst hx hb dX7_parksAll_51 ?_
            refine z_iadd (z := b) hx hb (Int.add_zero _) dX7_parksAll_52 ?_
            refine lv_istore_n (lv' := [(2, vI b), (3, vI i), (0, .ref y0), (1, vI q)]) hx hb dX7_parksAll_53 rfl hl (by decide) rfl (fun ls hl => ?_)
            refine z_iinc (a := i) (z := (i + 1)) (lv' := [(3, vI (i + 1)), (2, vI b), (0, .ref y0), (1, vI q)]) hx hb dX7_parksAll_54 hl (k := 1) rfl rfl (by decide) rfl (fun ls hl => ?_)
            refine lv_goto (tgt := 27) hx hb dX7_parksAll_57 (by decide) ?_
            exact L27i _ (by omega) (i + 1) b (uZ mf9 i (pP n (rmc mv) md9 (mv 1) (mv 2) (mr i))) (uZ mg9 i (pK n (rmc mv) md9 (mv 1) (mv 2) (mr i))) (stp md9 (pP n (rmc mv) md9 (mv 1) (mv 2) (mr i))) H locs ls rfl (by omega) (by
              unfold lvZ at hbb ⊢
              rw [sumZ_s (by omega), hbb]
              first
              | rw [if_pos (by omega)]
              | rw [if_neg (by omega), Int.add_zero]) (by
              rw [pst_s (by omega)]
              intro j h0 h1
              rw [hep]
              exact stp_congr hst9 (by omega) j h0 h1) (by
              intro j h0 h1
              by_cases u : j = i
              · rw [u, uZ_same, uZ_same]
                exact ⟨hep, hek⟩
              · rw [uZ_ne u, uZ_ne u]
                exact hpk j h0 (by omega)) hP hD hS (lv_sub hl [1, 0, 2, 3] rfl)
          · skip
            refine z_iconst hx hb dX7_parksAll_47 ?_
            refine lv_goto (tgt := 52) hx hb dX7_parksAll_48 (by decide) ?_
            refine z_iadd (z := (b + 1)) hx hb rfl dX7_parksAll_52 ?_
            refine lv_istore_n (lv' := [(2, vI (b + 1)), (3, vI i), (0, .ref y0), (1, vI q)]) hx hb dX7_parksAll_53 rfl hl (by decide) rfl (fun ls hl => ?_)
            refine z_iinc (a := i) (z := (i + 1)) (lv' := [(3, vI (i + 1)), (2, vI (b + 1)), (0, .ref y0), (1, vI q)]) hx hb dX7_parksAll_54 hl (k := 1) rfl rfl (by decide) rfl (fun ls hl => ?_)
            refine lv_goto (tgt := 27) hx hb dX7_parksAll_57 (by decide) ?_
            exact L27i _ (by omega) (i + 1) (b + 1) (uZ mf9 i (pP n (rmc mv) md9 (mv 1) (mv 2) (mr i))) (uZ mg9 i (pK n (rmc mv) md9 (mv 1) (mv 2) (mr i))) (stp md9 (pP n (rmc mv) md9 (mv 1) (mv 2) (mr i))) H locs ls rfl (by omega) (by
              unfold lvZ at hbb ⊢
              rw [sumZ_s (by omega), hbb]
              first
              | rw [if_pos (by omega)]
              | rw [if_neg (by omega), Int.add_zero]) (by
              rw [pst_s (by omega)]
              intro j h0 h1
              rw [hep]
              exact stp_congr hst9 (by omega) j h0 h1) (by
              intro j h0 h1
              by_cases u : j = i
              · rw [u, uZ_same, uZ_same]
                exact ⟨hep, hek⟩
              · rw [uZ_ne u, uZ_ne u]
                exact hpk j h0 (by omega)) hP hD hS (lv_sub hl [1, 0, 2, 3] rfl)
      exact L27 _ 0 0 mf mg (cpZ zeroZ md s9) H locs ls rfl (by omega) (rfl) (fun j h0 h1 => by rw [cpZ_lt (by omega)]; rfl) (fun j h0 h1 => absurd h1 (by omega)) hP hD hS (lv_sub hl [1, 0, 2, 3] rfl)
    · skip
      refine lv_aload_n hx hb dX7_parksAll_10 rfl (lv_at hl 1 rfl) ?_
      refine va_get (D := dd) (ci := 7) (v := .ref d0) (C := RX7) (T := TX7) (N := 11) hx hb hts hi7 hown hK hP 0 rfl rfl 7 (by decide) (hts _ (List.mem_cons_of_mem _ (List.mem_append_left _ (List.mem_of_getElem? (i := 1) rfl)))) (fun _ h9 => h9) rfl dX7_parksAll_11 ?_
      refine lv_iload_n hx hb dX7_parksAll_14 rfl (lv_at hl 0 rfl) ?_
      refine z_iconst hx hb dX7_parksAll_15 ?_
      refine z_iast (ws' := [kO y0 7 [vI n, .ref v0, .ref a0, vI sts, .ref r0, .ref f0, .ref g0, .ref d0, .ref t9, vI ty, vI th], kI cI v0 21 mv, kI cI r0 9 mr, kI cI f0 9 mf, kI cI g0 9 mg, kI cI d0 8 (uZ (cpZ zeroZ md s9) s9 0)]) hx hb hK hP hD hS 5 0 rfl rfl (i := s9) (x := 0) (by omega) (by decide) dX7_parksAll_16 rfl (fun H locs hP hD hS => ?_)
      refine z_iinc (a := s9) (z := (s9 + 1)) (lv' := [(2, vI (s9 + 1)), (0, .ref y0), (1, vI q)]) hx hb dX7_parksAll_17 hl (k := 0) rfl rfl (by decide) rfl (fun ls hl => ?_)
      refine lv_goto (tgt := 2) hx hb dX7_parksAll_20 (by decide) ?_
      have el_2 : kI cI d0 8 (uZ (cpZ zeroZ md s9) s9 0) = kI cI d0 8 (cpZ zeroZ md (s9 + 1)) := kI_congr (congrArg aZ (cpZ_s zeroZ md s9))
      rw [el_2] at hP hD
      exact L2i _ (by omega) (s9 + 1) H locs ls rfl (by omega) hP hD hS hl
  have el_3 : kI cI d0 8 md = kI cI d0 8 (cpZ zeroZ md 0) := kI_congr ((aZ_cp0 zeroZ md).symm)
  rw [el_3] at hP hD
  exact L2 _ 0 H locs ls rfl (by omega) hP hD hS hl

