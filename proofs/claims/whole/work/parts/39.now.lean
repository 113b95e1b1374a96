/-! the model: the list parks -/
theorem lvZ_congr {n : Int} {cap : Int → Int} {ru re : Int} {wi wj : Int → Int} (k : Nat) (h : ∀ j : Int, 0 ≤ j → j < k → wi j = wj j) : lvZ n cap ru re wi k = lvZ n cap ru re wj k := sumZ_congr _ (fun c h0 h1 => by
  show (if _ then (1 : Int) else 0) = (if _ then (1 : Int) else 0)
  rw [ppl_congr (wj := wj) h0 (fun i a b => h i a (by omega))])

set_option maxHeartbeats 4000000 in
set_option maxRecDepth 100000 in
theorem c_X7_parksNow (l : Launch) (dd : va_G) (cI cJ cC cS : ClassId) (y0 v0 a0 r0 f0 g0 d0 t9 : Nat) (n sts ty th : Int) (mv : Int → Int) (mr mf mg md : Int → Int) (sz : Nat) (hn : 1 ≤ n ∧ n ≤ 8) (hc0 : 0 ≤ mv 0 ∧ mv 0 ≤ 9) (hc1 : 0 ≤ mv 1 ∧ mv 1 ≤ 3) (hc2 : 0 ≤ mv 2 ∧ mv 2 ≤ 8) (hcap : ∀ j : Int, 0 ≤ j → j < n → 0 ≤ mv (3 + j) ∧ mv (3 + j) ≤ 3) (hwi : ∀ j : Int, 0 ≤ j → j < mv 0 → 0 ≤ mv (12 + j) ∧ mv (12 + j) < n) : gMi l yX7_parksNow wsX7_parksNow 4 0 0 dd cI cJ cC cS [.ref y0] [kO y0 7 [vI n, .ref v0, .ref a0, vI sts, .ref r0, .ref f0, .ref g0, .ref d0, .ref t9, vI ty, vI th], kI cI v0 21 mv, kI cI r0 9 mr, kI cI f0 9 mf, kI cI g0 9 mg, kI cI d0 8 md] sz (fun (z : Int) (u : (Int → Int) × (Int → Int) × (Int → Int) × (Int → Int)) => z = lvZ n (rmc mv) (mv 1) (mv 2) (wv mv) (mv 0).toNat ∧ (∀ j : Int, 0 ≤ j → j < mv 0 → u.2.1 j = ppl n (rmc mv) (mv 1) (mv 2) (wv mv) j ∧ u.2.2.1 j = plk n (rmc mv) (mv 1) (mv 2) (wv mv) j ∧ u.1 j = wv mv j)) (fun (u : (Int → Int) × (Int → Int) × (Int → Int) × (Int → Int)) => [kO y0 7 [vI n, .ref v0, .ref a0, vI sts, .ref r0, .ref f0, .ref g0, .ref d0, .ref t9, vI ty, vI th], kI cI v0 21 mv, kI cI r0 9 u.1, kI cI f0 9 u.2.1, kI cI g0 9 u.2.2.1, kI cI d0 8 u.2.2.2]) := by
  refine gMi_of (cc := cX7_parksNow) (maxL := 1) (ret := (some .int)) (by decide) rfl (Nat.le_of_ble_eq_true rfl) ?_
  intro p e s m args below meth c A Q hQ hx hb hr hts hown hlocks hnm hml H locs hP hK hD hA hS ls hl
  have hi7 : ∀ w ∈ wsX70, w ∈ wsX7_parksNow := fun _ h => (List.mem_cons_of_mem _ (List.mem_append_right _ h))
  have hl : lv_has ls 1 [(0, .ref y0)] := hl
  refine lv_aload_n hx hb dX7_parksNow_0 rfl (lv_at hl 0 rfl) ?_
  refine g_callVv (own := RX7) (n := 0) (mc := 0) (ms := 0) (As := []) (rest := []) (wc := [kO y0 7 [vI n, .ref v0, .ref a0, vI sts, .ref r0, .ref f0, .ref g0, .ref d0, .ref t9, vI ty, vI th], kI cI v0 21 mv, kI cI r0 9 mr]) (wr := [kI cI f0 9 mf, kI cI g0 9 mg, kI cI d0 8 md]) hx hb hml hown hts hK hP hD hS hA [0, 1, 2] [3, 4, 5] rfl rfl (by decide) (by decide) 7 0 rfl rfl (c_X7_takes l dd cI cJ cC cS y0 v0 a0 r0 f0 g0 d0 t9 n sts ty th mv mr H.size  (by first | assumption | omega)) gX7_parksNow_X7_takes rfl (by decide +kernel) (by decide) (by decide) (by decide) (by decide) rfl hl.1 rfl (Nat.le_of_ble_eq_true rfl) dX7_parksNow_1 (fun u_1 H locs hp1 hP hD hS => ?_)
  have hP : va_P dd vwCl [kI cI f0 9 mf, kI cI g0 9 mg, kI cI d0 8 md, kO y0 7 [vI n, .ref v0, .ref a0, vI sts, .ref r0, .ref f0, .ref g0, .ref d0, .ref t9, vI ty, vI th], kI cI v0 21 mv, kI cI r0 9 (cpZ (wv mv) mr (mv 0))] H := hP
  have hD : va_D A [kI cI f0 9 mf, kI cI g0 9 mg, kI cI d0 8 md, kO y0 7 [vI n, .ref v0, .ref a0, vI sts, .ref r0, .ref f0, .ref g0, .ref d0, .ref t9, vI ty, vI th], kI cI v0 21 mv, kI cI r0 9 (cpZ (wv mv) mr (mv 0))] := hD
  refine lv_aload_n hx hb dX7_parksNow_4 rfl (lv_at hl 0 rfl) ?_
  refine lv_aload_n hx hb dX7_parksNow_5 rfl (lv_at hl 0 rfl) ?_
  refine va_get (D := dd) (ci := 7) (v := .ref v0) (C := RX7) (T := TX7) (N := 11) hx hb hts hi7 hown hK hP 3 rfl rfl 1 (by decide) (hts _ (List.mem_cons_of_mem _ (List.mem_append_left _ (List.mem_append_left _ (List.mem_of_getElem? (i := 0) rfl))))) (fun _ h9 => h9) rfl dX7_parksNow_6 ?_
  refine z_iconst hx hb dX7_parksNow_9 ?_
  refine z_iald hx hb hK hP 4 0 rfl rfl (i := 0) (by omega) (by decide) dX7_parksNow_10 ?_
  refine g_callVi (own := RX7) (n := 1) (mc := 0) (ms := 0) (As := [vI (mv 0)]) (rest := []) (wc := [kO y0 7 [vI n, .ref v0, .ref a0, vI sts, .ref r0, .ref f0, .ref g0, .ref d0, .ref t9, vI ty, vI th], kI cI v0 21 mv, kI cI r0 9 (cpZ (wv mv) mr (mv 0)), kI cI f0 9 mf, kI cI g0 9 mg, kI cI d0 8 md]) (wr := []) hx hb hml hown hts hK hP hD hS hA [3, 4, 5, 0, 1, 2] [] rfl rfl (by decide) (by decide) 7 0 rfl rfl (c_X7_parksAll l dd cI cJ cC cS y0 v0 a0 r0 f0 g0 d0 t9 n sts ty th mv (cpZ (wv mv) mr (mv 0)) mf mg md (mv 0) H.size  (by first | assumption | omega) (by first | assumption | omega) (by first | assumption | omega) (by first | assumption | (intro j h0 h1; omega)) (by first | assumption | omega) (fun j h0 h1 => by rw [cpZ_lt h1]; exact hwi j h0 h1)) gX7_parksNow_X7_parksAll rfl (by decide +kernel) (by decide) (by decide) (by decide) (by decide) rfl hl.1 rfl (Nat.le_of_ble_eq_true rfl) dX7_parksNow_11 (fun z_2 u_3 H locs hp11 hP hD hS => ?_)
  obtain ⟨mf1_4, mg1_5, md1_6⟩ := u_3
  try dsimp only at hp11
  obtain ⟨z_2e, hp11⟩ := hp11
  subst z_2
  have hP : va_P dd vwCl [kO y0 7 [vI n, .ref v0, .ref a0, vI sts, .ref r0, .ref f0, .ref g0, .ref d0, .ref t9, vI ty, vI th], kI cI v0 21 mv, kI cI r0 9 (cpZ (wv mv) mr (mv 0)), kI cI f0 9 mf1_4, kI cI g0 9 mg1_5, kI cI d0 8 md1_6] H := hP
  have hD : va_D A [kO y0 7 [vI n, .ref v0, .ref a0, vI sts, .ref r0, .ref f0, .ref g0, .ref d0, .ref t9, vI ty, vI th], kI cI v0 21 mv, kI cI r0 9 (cpZ (wv mv) mr (mv 0)), kI cI f0 9 mf1_4, kI cI g0 9 mg1_5, kI cI d0 8 md1_6] := hD
  subst hQ
  refine z_iret (z := lvZ n (rmc mv) (mv 1) (mv 2) (cpZ (wv mv) mr (mv 0)) (mv 0).toNat) hx hb hr hlocks dX7_parksNow_14 ((cpZ (wv mv) mr (mv 0)), mf1_4, mg1_5, md1_6) hK hS ⟨by omega, by omega⟩ hP hD ?_
  refine ⟨lvZ_congr _ (fun j h0 h1 => cpZ_lt (by omega)), fun j h0 h1 => ⟨?_, ?_, cpZ_lt h1⟩⟩
  · dsimp only
    rw [(hp11 j h0 h1).1]
    exact ppl_congr h0 (fun i a b => cpZ_lt (by omega))
  · dsimp only
    rw [(hp11 j h0 h1).2]
    exact plk_congr h0 (fun i a b => cpZ_lt (by omega))

set_option maxHeartbeats 4000000 in
set_option maxRecDepth 100000 in
theorem c_X7_defect (l : Launch) (dd : va_G) (cI cJ cC cS : ClassId) (y0 v0 a0 r0 f0 g0 d0 t9 : Nat) (n sts ty th : Int) (mv : Int → Int) (mr mf mg md : Int → Int) (sz : Nat) (hn : 1 ≤ n ∧ n ≤ 8) (hc0 : 0 ≤ mv 0 ∧ mv 0 ≤ 9) (hc1 : 0 ≤ mv 1 ∧ mv 1 ≤ 3) (hc2 : 0 ≤ mv 2 ∧ mv 2 ≤ 8) (hcap : ∀ j : Int, 0 ≤ j → j < n → 0 ≤ mv (3 + j) ∧ mv (3 + j) ≤ 3) (hwi : ∀ j : Int, 0 ≤ j → j < mv 0 → 0 ≤ mv (12 + j) ∧ mv (12 + j) < n) : gMi l yX7_defect wsX7_defect 5 0 0 dd cI cJ cC cS [.ref y0] [kO y0 7 [vI n, .ref v0, .ref a0, vI sts, .ref r0, .ref f0, .ref g0, .ref d0, .ref t9, vI ty, vI th], kI cI v0 21 mv, kI cI r0 9 mr, kI cI f0 9 mf, kI cI g0 9 mg, kI cI d0 8 md] sz (fun (z : Int) (u : (Int → Int) × (Int → Int) × (Int → Int) × (Int → Int)) => z = lvZ n (rmc mv) (mv 1) (mv 2) (wv mv) (mv 0).toNat) (fun (u : (Int → Int) × (Int → Int) × (Int → Int) × (Int → Int)) => [kO y0 7 [vI n, .ref v0, .ref a0, vI sts, .ref r0, .ref f0, .ref g0, .ref d0, .ref t9, vI ty, vI 0], kI cI v0 21 mv, kI cI r0 9 u.1, kI cI f0 9 u.2.1, kI cI g0 9 u.2.2.1, kI cI d0 8 u.2.2.2]) := by
  refine gMi_of (cc := cX7_defect) (maxL := 1) (ret := (some .int)) (by decide) rfl (Nat.le_of_ble_eq_true rfl) ?_
  intro p e s m args below meth c A Q hQ hx hb hr hts hown hlocks hnm hml H locs hP hK hD hA hS ls hl
  have hi7 : ∀ w ∈ wsX70, w ∈ wsX7_defect := fun _ h => (List.mem_cons_of_mem _ (List.mem_append_right _ h))
  have hl : lv_has ls 1 [(0, .ref y0)] := hl
  refine lv_aload_n hx hb dX7_defect_0 rfl (lv_at hl 0 rfl) ?_
  refine z_iconst hx hb dX7_defect_1 ?_
  refine va_put (D := dd) (ci := 7) (v := vI 0) (ty := .int) (C := RX7) (T := TX7) (N := 11) hx hb hts hi7 tyX7 tyX7_ok nmX7 hown hK hP hD hS 0 rfl rfl 10 (by decide) (hts _ (List.mem_cons_of_mem _ (List.mem_append_left _ (List.mem_append_left _ (List.mem_of_getElem? (i := 0) rfl))))) (fun _ h9 => h9) rfl (by decide +kernel) rfl rfl (Nat.le_of_ble_eq_true rfl) dX7_defect_2 (fun H locs hP hD hS => ?_)
  have hP : va_P dd vwCl [kO y0 7 [vI n, .ref v0, .ref a0, vI sts, .ref r0, .ref f0, .ref g0, .ref d0, .ref t9, vI ty, vI 0], kI cI v0 21 mv, kI cI r0 9 mr, kI cI f0 9 mf, kI cI g0 9 mg, kI cI d0 8 md] H := hP
  have hD : va_D A [kO y0 7 [vI n, .ref v0, .ref a0, vI sts, .ref r0, .ref f0, .ref g0, .ref d0, .ref t9, vI ty, vI 0], kI cI v0 21 mv, kI cI r0 9 mr, kI cI f0 9 mf, kI cI g0 9 mg, kI cI d0 8 md] := hD
  refine lv_aload_n hx hb dX7_defect_5 rfl (lv_at hl 0 rfl) ?_
  refine g_callVi (own := RX7) (n := 0) (mc := 0) (ms := 0) (As := []) (rest := []) (wc := [kO y0 7 [vI n, .ref v0, .ref a0, vI sts, .ref r0, .ref f0, .ref g0, .ref d0, .ref t9, vI ty, vI 0], kI cI v0 21 mv, kI cI r0 9 mr, kI cI f0 9 mf, kI cI g0 9 mg, kI cI d0 8 md]) (wr := []) hx hb hml hown hts hK hP hD hS hA [0, 1, 2, 3, 4, 5] [] rfl rfl (by decide) (by decide) 7 0 rfl rfl (c_X7_parksNow l dd cI cJ cC cS y0 v0 a0 r0 f0 g0 d0 t9 n sts ty 0 mv mr mf mg md H.size  (by first | assumption | omega) (by first | assumption | omega) (by first | assumption | omega) (by first | assumption | omega) (by first | assumption | (intro j h0 h1; omega)) (by first | assumption | (intro j h0 h1; omega))) gX7_defect_X7_parksNow rfl (by decide +kernel) (by decide) (by decide) (by decide) (by decide) rfl hl.1 rfl (Nat.le_of_ble_eq_true rfl) dX7_defect_6 (fun z_1 u_2 H locs hp6 hP hD hS => ?_)
  obtain ⟨mr1_3, mf1_4, mg1_5, md1_6⟩ := u_2
  try dsimp only at hp6
  obtain ⟨z_1e, hp6⟩ := hp6
  subst z_1
  have hP : va_P dd vwCl [kO y0 7 [vI n, .ref v0, .ref a0, vI sts, .ref r0, .ref f0, .ref g0, .ref d0, .ref t9, vI ty, vI 0], kI cI v0 21 mv, kI cI r0 9 mr1_3, kI cI f0 9 mf1_4, kI cI g0 9 mg1_5, kI cI d0 8 md1_6] H := hP
  have hD : va_D A [kO y0 7 [vI n, .ref v0, .ref a0, vI sts, .ref r0, .ref f0, .ref g0, .ref d0, .ref t9, vI ty, vI 0], kI cI v0 21 mv, kI cI r0 9 mr1_3, kI cI f0 9 mf1_4, kI cI g0 9 mg1_5, kI cI d0 8 md1_6] := hD
  subst hQ
  refine z_iret (z := lvZ n (rmc mv) (mv 1) (mv 2) (wv mv) (mv 0).toNat) hx hb hr hlocks dX7_defect_9 (mr1_3, mf1_4, mg1_5, md1_6) hK hS ⟨by omega, by omega⟩ hP hD ?_
  first | rfl | trivial | omega

set_option maxHeartbeats 4000000 in
set_option maxRecDepth 100000 in
theorem c_X7_spaceOf (l : Launch) (dd : va_G) (cI cJ cC cS : ClassId) (y0 v0 a0 r0 f0 g0 d0 t9 : Nat) (n sts ty th : Int) (mv : Int → Int) (mr mf mg md : Int → Int) (v : Int) (sz : Nat) (hn : 1 ≤ n ∧ n ≤ 8) (hc0 : 0 ≤ mv 0 ∧ mv 0 ≤ 9) (hc1 : 0 ≤ mv 1 ∧ mv 1 ≤ 3) (hc2 : 0 ≤ mv 2 ∧ mv 2 ≤ 8) (hcap : ∀ j : Int, 0 ≤ j → j < n → 0 ≤ mv (3 + j) ∧ mv (3 + j) ≤ 3) (hwi : ∀ j : Int, 0 ≤ j → j < mv 0 → 0 ≤ mv (12 + j) ∧ mv (12 + j) < n) (hgv : rg v) : gMi l yX7_spaceOf wsX7_spaceOf 5 0 0 dd cI cJ cC cS [.ref y0, vI v] [kO y0 7 [vI n, .ref v0, .ref a0, vI sts, .ref r0, .ref f0, .ref g0, .ref d0, .ref t9, vI ty, vI th], kI cI v0 21 mv, kI cI r0 9 mr, kI cI f0 9 mf, kI cI g0 9 mg, kI cI d0 8 md] sz (fun (z : Int) (u : Int × (Int → Int) × (Int → Int) × (Int → Int) × (Int → Int)) => ((0 ≤ v ∧ v < mv 0 ∧ z = ppl n (rmc mv) (mv 1) (mv 2) (wv mv) v ∧ u.1 = 0) ∨ (¬ (0 ≤ v ∧ v < mv 0) ∧ z = 0 ∧ u.1 = 1))) (fun (u : Int × (Int → Int) × (Int → Int) × (Int → Int) × (Int → Int)) => [kO y0 7 [vI n, .ref v0, .ref a0, vI sts, .ref r0, .ref f0, .ref g0, .ref d0, .ref t9, vI ty, vI u.1], kI cI v0 21 mv, kI cI r0 9 u.2.1, kI cI f0 9 u.2.2.1, kI cI g0 9 u.2.2.2.1, kI cI d0 8 u.2.2.2.2]) := by
  refine gMi_of (cc := cX7_spaceOf) (maxL := 3) (ret := (some .int)) (by decide) rfl (Nat.le_of_ble_eq_true rfl) ?_
  intro p e s m args below meth c A Q hQ hx hb hr hts hown hlocks hnm hml H locs hP hK hD hA hS ls hl
  have hi7 : ∀ w ∈ wsX70, w ∈ wsX7_spaceOf := fun _ h => (List.mem_cons_of_mem _ (List.mem_append_right _ h))
  have hl : lv_has ls 3 [(0, .ref y0), (1, vI v)] := hl
  refine lv_aload_n hx hb dX7_spaceOf_0 rfl (lv_at hl 0 rfl) ?_
  refine z_iconst hx hb dX7_spaceOf_1 ?_
  refine va_put (D := dd) (ci := 7) (v := vI 0) (ty := .int) (C := RX7) (T := TX7) (N := 11) hx hb hts hi7 tyX7 tyX7_ok nmX7 hown hK hP hD hS 0 rfl rfl 10 (by decide) (hts _ (List.mem_cons_of_mem _ (List.mem_append_left _ (List.mem_append_left _ (List.mem_of_getElem? (i := 0) rfl))))) (fun _ h9 => h9) rfl (by decide +kernel) rfl rfl (Nat.le_of_ble_eq_true rfl) dX7_spaceOf_2 (fun H locs hP hD hS => ?_)
  have hP : va_P dd vwCl [kO y0 7 [vI n, .ref v0, .ref a0, vI sts, .ref r0, .ref f0, .ref g0, .ref d0, .ref t9, vI ty, vI 0], kI cI v0 21 mv, kI cI r0 9 mr, kI cI f0 9 mf, kI cI g0 9 mg, kI cI d0 8 md] H := hP
  have hD : va_D A [kO y0 7 [vI n, .ref v0, .ref a0, vI sts, .ref r0, .ref f0, .ref g0, .ref d0, .ref t9, vI ty, vI 0], kI cI v0 21 mv, kI cI r0 9 mr, kI cI f0 9 mf, kI cI g0 9 mg, kI cI d0 8 md] := hD
  refine lv_aload_n hx hb dX7_spaceOf_5 rfl (lv_at hl 0 rfl) ?_
  refine lv_iload_n hx hb dX7_spaceOf_6 rfl (lv_at hl 1 rfl) ?_
  refine g_callVi (own := RX7) (n := 1) (mc := 0) (ms := 0) (As := [vI v]) (rest := []) (wc := [kO y0 7 [vI n, .ref v0, .ref a0, vI sts, .ref r0, .ref f0, .ref g0, .ref d0, .ref t9, vI ty, vI 0], kI cI v0 21 mv]) (wr := [kI cI r0 9 mr, kI cI f0 9 mf, kI cI g0 9 mg, kI cI d0 8 md]) hx hb hml hown hts hK hP hD hS hA [0, 1] [2, 3, 4, 5] rfl rfl (by decide) (by decide) 7 0 rfl rfl (c_X7_isCar l dd cI cJ cC cS y0 v0 a0 r0 f0 g0 d0 t9 n sts ty 0 mv v H.size  (by first | assumption | omega) (by first | assumption | omega)) gX7_spaceOf_X7_isCar rfl (by decide +kernel) (by decide) (by decide) (by decide) (by decide) rfl hl.1 rfl (Nat.le_of_ble_eq_true rfl) dX7_spaceOf_7 (fun z_1 u_2 H locs hp7 hP hD hS => ?_)
  rcases hp7 with ⟨hp7_0, hp7_1, hp7_z⟩ | ⟨hp7_0, hp7_z⟩
  · skip
    subst z_1
    have hP : va_P dd vwCl [kI cI r0 9 mr, kI cI f0 9 mf, kI cI g0 9 mg, kI cI d0 8 md, kO y0 7 [vI n, .ref v0, .ref a0, vI sts, .ref r0, .ref f0, .ref g0, .ref d0, .ref t9, vI ty, vI 0], kI cI v0 21 mv] H := hP
    have hD : va_D A [kI cI r0 9 mr, kI cI f0 9 mf, kI cI g0 9 mg, kI cI d0 8 md, kO y0 7 [vI n, .ref v0, .ref a0, vI sts, .ref r0, .ref f0, .ref g0, .ref d0, .ref t9, vI ty, vI 0], kI cI v0 21 mv] := hD
    refine z_if_ne (tgt := 19) hx hb dX7_spaceOf_10 (by decide) (by omega) (fun c10 => ?_) (fun c10 => ?_)
    · skip
      refine lv_aload_n hx hb dX7_spaceOf_19 rfl (lv_at hl 0 rfl) ?_
      refine g_callVi (own := RX7) (n := 0) (mc := 0) (ms := 0) (As := []) (rest := []) (wc := [kO y0 7 [vI n, .ref v0, .ref a0, vI sts, .ref r0, .ref f0, .ref g0, .ref d0, .ref t9, vI ty, vI 0], kI cI v0 21 mv, kI cI r0 9 mr, kI cI f0 9 mf, kI cI g0 9 mg, kI cI d0 8 md]) (wr := []) hx hb hml hown hts hK hP hD hS hA [4, 5, 0, 1, 2, 3] [] rfl rfl (by decide) (by decide) 7 0 rfl rfl (c_X7_parksNow l dd cI cJ cC cS y0 v0 a0 r0 f0 g0 d0 t9 n sts ty 0 mv mr mf mg md H.size  (by first | assumption | omega) (by first | assumption | omega) (by first | assumption | omega) (by first | assumption | omega) (by first | assumption | (intro j h0 h1; omega)) (by first | assumption | (intro j h0 h1; omega))) gX7_spaceOf_X7_parksNow rfl (by decide +kernel) (by decide) (by decide) (by decide) (by decide) rfl hl.1 rfl (Nat.le_of_ble_eq_true rfl) dX7_spaceOf_20 (fun z_3 u_4 H locs hp20 hP hD hS => ?_)
      obtain ⟨mr1_5, mf1_6, mg1_7, md1_8⟩ := u_4
      try dsimp only at hp20
      obtain ⟨z_3e, hp20⟩ := hp20
      subst z_3
      have hP : va_P dd vwCl [kO y0 7 [vI n, .ref v0, .ref a0, vI sts, .ref r0, .ref f0, .ref g0, .ref d0, .ref t9, vI ty, vI 0], kI cI v0 21 mv, kI cI r0 9 mr1_5, kI cI f0 9 mf1_6, kI cI g0 9 mg1_7, kI cI d0 8 md1_8] H := hP
      have hD : va_D A [kO y0 7 [vI n, .ref v0, .ref a0, vI sts, .ref r0, .ref f0, .ref g0, .ref d0, .ref t9, vI ty, vI 0], kI cI v0 21 mv, kI cI r0 9 mr1_5, kI cI f0 9 mf1_6, kI cI g0 9 mg1_7, kI cI d0 8 md1_8] := hD
      refine lv_istore_n (lv' := [(2, vI (lvZ n (rmc mv) (mv 1) (mv 2) (wv mv) (mv 0).toNat)), (0, .ref y0), (1, vI v)]) hx hb dX7_spaceOf_23 rfl hl (by decide) rfl (fun ls hl => ?_)
      refine lv_aload_n hx hb dX7_spaceOf_24 rfl (lv_at hl 1 rfl) ?_
      refine va_get (D := dd) (ci := 7) (v := .ref f0) (C := RX7) (T := TX7) (N := 11) hx hb hts hi7 hown hK hP 0 rfl rfl 5 (by decide) (hts _ (List.mem_cons_of_mem _ (List.mem_append_left _ (List.mem_append_left _ (List.mem_of_getElem? (i := 1) rfl))))) (fun _ h9 => h9) rfl dX7_spaceOf_25 ?_
      refine lv_iload_n hx hb dX7_spaceOf_28 rfl (lv_at hl 2 rfl) ?_
      refine z_iald hx hb hK hP 3 0 rfl rfl (i := v) (by omega) (by decide) dX7_spaceOf_29 ?_
      subst hQ
      refine z_iret (z := (mf1_6 v)) hx hb hr hlocks dX7_spaceOf_30 (0, mr1_5, mf1_6, mg1_7, md1_8) hK hS ⟨by omega, by omega⟩ hP hD ?_
      exact Or.inl ⟨by omega, by omega, (hp20 v (by omega) (by omega)).1, rfl⟩
    · exact absurd c10 (by omega)
  · skip
    subst z_1
    have hP : va_P dd vwCl [kI cI r0 9 mr, kI cI f0 9 mf, kI cI g0 9 mg, kI cI d0 8 md, kO y0 7 [vI n, .ref v0, .ref a0, vI sts, .ref r0, .ref f0, .ref g0, .ref d0, .ref t9, vI ty, vI 0], kI cI v0 21 mv] H := hP
    have hD : va_D A [kI cI r0 9 mr, kI cI f0 9 mf, kI cI g0 9 mg, kI cI d0 8 md, kO y0 7 [vI n, .ref v0, .ref a0, vI sts, .ref r0, .ref f0, .ref g0, .ref d0, .ref t9, vI ty, vI 0], kI cI v0 21 mv] := hD
    refine z_if_ne (tgt := 19) hx hb dX7_spaceOf_10 (by decide) (by omega) (fun c10 => ?_) (fun c10 => ?_)
    · exact absurd c10 (by omega)
    · skip
      refine lv_aload_n hx hb dX7_spaceOf_13 rfl (lv_at hl 0 rfl) ?_
      refine z_iconst hx hb dX7_spaceOf_14 ?_
      refine g_callVi (own := RX7) (n := 1) (mc := 0) (ms := 0) (As := [vI 1]) (rest := []) (wc := [kO y0 7 [vI n, .ref v0, .ref a0, vI sts, .ref r0, .ref f0, .ref g0, .ref d0, .ref t9, vI ty, vI 0]]) (wr := [kI cI r0 9 mr, kI cI f0 9 mf, kI cI g0 9 mg, kI cI d0 8 md, kI cI v0 21 mv]) hx hb hml hown hts hK hP hD hS hA [4] [0, 1, 2, 3, 5] rfl rfl (by decide) (by decide) 7 0 rfl rfl (c_X7_fails l dd cI cJ cC cS y0 v0 a0 r0 f0 g0 d0 t9 n sts ty 0 1 H.size) gX7_spaceOf_X7_fails rfl (by decide +kernel) (by decide) (by decide) (by decide) (by decide) rfl hl.1 rfl (Nat.le_of_ble_eq_true rfl) dX7_spaceOf_15 (fun z_9 u_10 H locs hp15 hP hD hS => ?_)
      subst z_9
      have hP : va_P dd vwCl [kI cI r0 9 mr, kI cI f0 9 mf, kI cI g0 9 mg, kI cI d0 8 md, kI cI v0 21 mv, kO y0 7 [vI n, .ref v0, .ref a0, vI sts, .ref r0, .ref f0, .ref g0, .ref d0, .ref t9, vI ty, vI 1]] H := hP
      have hD : va_D A [kI cI r0 9 mr, kI cI f0 9 mf, kI cI g0 9 mg, kI cI d0 8 md, kI cI v0 21 mv, kO y0 7 [vI n, .ref v0, .ref a0, vI sts, .ref r0, .ref f0, .ref g0, .ref d0, .ref t9, vI ty, vI 1]] := hD
      subst hQ
      refine z_iret (z := 0) hx hb hr hlocks dX7_spaceOf_18 (1, mr, mf, mg, md) hK hS ⟨by omega, by omega⟩ (hP.sub [5, 4, 0, 1, 2, 3] rfl) (hD.sub [5, 4, 0, 1, 2, 3] (by decide) rfl) ?_
      exact Or.inr ⟨by omega, rfl, rfl⟩

set_option maxHeartbeats 4000000 in
set_option maxRecDepth 100000 in
theorem c_X7_steps (l : Launch) (dd : va_G) (cI cJ cC cS : ClassId) (y0 v0 a0 r0 f0 g0 d0 t9 : Nat) (n sts ty th : Int) (mv : Int → Int) (mr mf mg md : Int → Int) (v : Int) (sz : Nat) (hn : 1 ≤ n ∧ n ≤ 8) (hc0 : 0 ≤ mv 0 ∧ mv 0 ≤ 9) (hc1 : 0 ≤ mv 1 ∧ mv 1 ≤ 3) (hc2 : 0 ≤ mv 2 ∧ mv 2 ≤ 8) (hcap : ∀ j : Int, 0 ≤ j → j < n → 0 ≤ mv (3 + j) ∧ mv (3 + j) ≤ 3) (hwi : ∀ j : Int, 0 ≤ j → j < mv 0 → 0 ≤ mv (12 + j) ∧ mv (12 + j) < n) (hgv : rg v) : gMi l yX7_steps wsX7_steps 5 0 0 dd cI cJ cC cS [.ref y0, vI v] [kO y0 7 [vI n, .ref v0, .ref a0, vI sts, .ref r0, .ref f0, .ref g0, .ref d0, .ref t9, vI ty, vI th], kI cI v0 21 mv, kI cI r0 9 mr, kI cI f0 9 mf, kI cI g0 9 mg, kI cI d0 8 md] sz (fun (z : Int) (u : Int × (Int → Int) × (Int → Int) × (Int → Int) × (Int → Int)) => ((0 ≤ v ∧ v < mv 0 ∧ z = plk n (rmc mv) (mv 1) (mv 2) (wv mv) v ∧ u.1 = 0) ∨ (¬ (0 ≤ v ∧ v < mv 0) ∧ z = 0 ∧ u.1 = 1))) (fun (u : Int × (Int → Int) × (Int → Int) × (Int → Int) × (Int → Int)) => [kO y0 7 [vI n, .ref v0, .ref a0, vI sts, .ref r0, .ref f0, .ref g0, .ref d0, .ref t9, vI ty, vI u.1], kI cI v0 21 mv, kI cI r0 9 u.2.1, kI cI f0 9 u.2.2.1, kI cI g0 9 u.2.2.2.1, kI cI d0 8 u.2.2.2.2]) := by
  refine gMi_of (cc := cX7_steps) (maxL := 3) (ret := (some .int)) (by decide) rfl (Nat.le_of_ble_eq_true rfl) ?_
  intro p e s m args below meth c A Q hQ hx hb hr hts hown hlocks hnm hml H locs hP hK hD hA hS ls hl
  have hi7 : ∀ w ∈ wsX70, w ∈ wsX7_steps := fun _ h => (List.mem_cons_of_mem _ (List.mem_append_right _ h))
  have hl : lv_has ls 3 [(0, .ref y0), (1, vI v)] := hl
  refine lv_aload_n hx hb dX7_steps_0 rfl (lv_at hl 0 rfl) ?_
  refine z_iconst hx hb dX7_steps_1 ?_
  refine va_put (D := dd) (ci := 7) (v := vI 0) (ty := .int) (C := RX7) (T := TX7) (N := 11) hx hb hts hi7 tyX7 tyX7_ok nmX7 hown hK hP hD hS 0 rfl rfl 10 (by decide) (hts _ (List.mem_cons_of_mem _ (List.mem_append_left _ (List.mem_append_left _ (List.mem_of_getElem? (i := 0) rfl))))) (fun _ h9 => h9) rfl (by decide +kernel) rfl rfl (Nat.le_of_ble_eq_true rfl) dX7_steps_2 (fun H locs hP hD hS => ?_)
  have hP : va_P dd vwCl [kO y0 7 [vI n, .ref v0, .ref a0, vI sts, .ref r0, .ref f0, .ref g0, .ref d0, .ref t9, vI ty, vI 0], kI cI v0 21 mv, kI cI r0 9 mr, kI cI f0 9 mf, kI cI g0 9 mg, kI cI d0 8 md] H := hP
  have hD : va_D A [kO y0 7 [vI n, .ref v0, .ref a0, vI sts, .ref r0, .ref f0, .ref g0, .ref d0, .ref t9, vI ty, vI 0], kI cI v0 21 mv, kI cI r0 9 mr, kI cI f0 9 mf, kI cI g0 9 mg, kI cI d0 8 md] := hD
  refine lv_aload_n hx hb dX7_steps_5 rfl (lv_at hl 0 rfl) ?_
  refine lv_iload_n hx hb dX7_steps_6 rfl (lv_at hl 1 rfl) ?_
  refine g_callVi (own := RX7) (n := 1) (mc := 0) (ms := 0) (As := [vI v]) (rest := []) (wc := [kO y0 7 [vI n, .ref v0, .ref a0, vI sts, .ref r0, .ref f0, .ref g0, .ref d0, .ref t9, vI ty, vI 0], kI cI v0 21 mv]) (wr := [kI cI r0 9 mr, kI cI f0 9 mf, kI cI g0 9 mg, kI cI d0 8 md]) hx hb hml hown hts hK hP hD hS hA [0, 1] [2, 3, 4, 5] rfl rfl (by decide) (by decide) 7 0 rfl rfl (c_X7_isCar l dd cI cJ cC cS y0 v0 a0 r0 f0 g0 d0 t9 n sts ty 0 mv v H.size  (by first | assumption | omega) (by first | assumption | omega)) gX7_steps_X7_isCar rfl (by decide +kernel) (by decide) (by decide) (by decide) (by decide) rfl hl.1 rfl (Nat.le_of_ble_eq_true rfl) dX7_steps_7 (fun z_1 u_2 H locs hp7 hP hD hS => ?_)
  rcases hp7 with ⟨hp7_0, hp7_1, hp7_z⟩ | ⟨hp7_0, hp7_z⟩
  · skip
    subst z_1
    have hP : va_P dd vwCl [kI cI r0 9 mr, kI cI f0 9 mf, kI cI g0 9 mg, kI cI d0 8 md, kO y0 7 [vI n, .ref v0, .ref a0, vI sts, .ref r0, .ref f0, .ref g0, .ref d0, .ref t9, vI ty, vI 0], kI cI v0 21 mv] H := hP
    have hD : va_D A [kI cI r0 9 mr, kI cI f0 9 mf, kI cI g0 9 mg, kI cI d0 8 md, kO y0 7 [vI n, .ref v0, .ref a0, vI sts, .ref r0, .ref f0, .ref g0, .ref d0, .ref t9, vI ty, vI 0], kI cI v0 21 mv] := hD
    refine z_if_ne (tgt := 19) hx hb dX7_steps_10 (by decide) (by omega) (fun c10 => ?_) (fun c10 => ?_)
    · skip
      refine lv_aload_n hx hb dX7_steps_19 rfl (lv_at hl 0 rfl) ?_
      refine g_callVi (own := RX7) (n := 0) (mc := 0) (ms := 0) (As := []) (rest := []) (wc := [kO y0 7 [vI n, .ref v0, .ref a0, vI sts, .ref r0, .ref f0, .ref g0, .ref d0, .ref t9, vI ty, vI 0], kI cI v0 21 mv, kI cI r0 9 mr, kI cI f0 9 mf, kI cI g0 9 mg, kI cI d0 8 md]) (wr := []) hx hb hml hown hts hK hP hD hS hA [4, 5, 0, 1, 2, 3] [] rfl rfl (by decide) (by decide) 7 0 rfl rfl (c_X7_parksNow l dd cI cJ cC cS y0 v0 a0 r0 f0 g0 d0 t9 n sts ty 0 mv mr mf mg md H.size  (by first | assumption | omega) (by first | assumption | omega) (by first | assumption | omega) (by first | assumption | omega) (by first | assumption | (intro j h0 h1; omega)) (by first | assumption | (intro j h0 h1; omega))) gX7_steps_X7_parksNow rfl (by decide +kernel) (by decide) (by decide) (by decide) (by decide) rfl hl.1 rfl (Nat.le_of_ble_eq_true rfl) dX7_steps_20 (fun z_3 u_4 H locs hp20 hP hD hS => ?_)
      obtain ⟨mr1_5, mf1_6, mg1_7, md1_8⟩ := u_4
      try dsimp only at hp20
      obtain ⟨z_3e, hp20⟩ := hp20
      subst z_3
      have hP : va_P dd vwCl [kO y0 7 [vI n, .ref v0, .ref a0, vI sts, .ref r0, .ref f0, .ref g0, .ref d0, .ref t9, vI ty, vI 0], kI cI v0 21 mv, kI cI r0 9 mr1_5, kI cI f0 9 mf1_6, kI cI g0 9 mg1_7, kI cI d0 8 md1_8] H := hP
      have hD : va_D A [kO y0 7 [vI n, .ref v0, .ref a0, vI sts, .ref r0, .ref f0, .ref g0, .ref d0, .ref t9, vI ty, vI 0], kI cI v0 21 mv, kI cI r0 9 mr1_5, kI cI f0 9 mf1_6, kI cI g0 9 mg1_7, kI cI d0 8 md1_8] := hD
      refine lv_istore_n (lv' := [(2, vI (lvZ n (rmc mv) (mv 1) (mv 2) (wv mv) (mv 0).toNat)), (0, .ref y0), (1, vI v)]) hx hb dX7_steps_23 rfl hl (by decide) rfl (fun ls hl => ?_)
      refine lv_aload_n hx hb dX7_steps_24 rfl (lv_at hl 1 rfl) ?_
      refine va_get (D := dd) (ci := 7) (v := .ref g0) (C := RX7) (T := TX7) (N := 11) hx hb hts hi7 hown hK hP 0 rfl rfl 6 (by decide) (hts _ (List.mem_cons_of_mem _ (List.mem_append_left _ (List.mem_append_left _ (List.mem_of_getElem? (i := 1) rfl))))) (fun _ h9 => h9) rfl dX7_steps_25 ?_
      refine lv_iload_n hx hb dX7_steps_28 rfl (lv_at hl 2 rfl) ?_
      refine z_iald hx hb hK hP 4 0 rfl rfl (i := v) (by omega) (by decide) dX7_steps_29 ?_
      subst hQ
      refine z_iret (z := (mg1_7 v)) hx hb hr hlocks dX7_steps_30 (0, mr1_5, mf1_6, mg1_7, md1_8) hK hS ⟨by omega, by omega⟩ hP hD ?_
      exact Or.inl ⟨by omega, by omega, (hp20 v (by omega) (by omega)).2.1, rfl⟩
    · exact absurd c10 (by omega)
  · skip
    subst z_1
    have hP : va_P dd vwCl [kI cI r0 9 mr, kI cI f0 9 mf, kI cI g0 9 mg, kI cI d0 8 md, kO y0 7 [vI n, .ref v0, .ref a0, vI sts, .ref r0, .ref f0, .ref g0, .ref d0, .ref t9, vI ty, vI 0], kI cI v0 21 mv] H := hP
    have hD : va_D A [kI cI r0 9 mr, kI cI f0 9 mf, kI cI g0 9 mg, kI cI d0 8 md, kO y0 7 [vI n, .ref v0, .ref a0, vI sts, .ref r0, .ref f0, .ref g0, .ref d0, .ref t9, vI ty, vI 0], kI cI v0 21 mv] := hD
    refine z_if_ne (tgt := 19) hx hb dX7_steps_10 (by decide) (by omega) (fun c10 => ?_) (fun c10 => ?_)
    · exact absurd c10 (by omega)
    · skip
      refine lv_aload_n hx hb dX7_steps_13 rfl (lv_at hl 0 rfl) ?_
      refine z_iconst hx hb dX7_steps_14 ?_
      refine g_callVi (own := RX7) (n := 1) (mc := 0) (ms := 0) (As := [vI 1]) (rest := []) (wc := [kO y0 7 [vI n, .ref v0, .ref a0, vI sts, .ref r0, .ref f0, .ref g0, .ref d0, .ref t9, vI ty, vI 0]]) (wr := [kI cI r0 9 mr, kI cI f0 9 mf, kI cI g0 9 mg, kI cI d0 8 md, kI cI v0 21 mv]) hx hb hml hown hts hK hP hD hS hA [4] [0, 1, 2, 3, 5] rfl rfl (by decide) (by decide) 7 0 rfl rfl (c_X7_fails l dd cI cJ cC cS y0 v0 a0 r0 f0 g0 d0 t9 n sts ty 0 1 H.size) gX7_steps_X7_fails rfl (by decide +kernel) (by decide) (by decide) (by decide) (by decide) rfl hl.1 rfl (Nat.le_of_ble_eq_true rfl) dX7_steps_15 (fun z_9 u_10 H locs hp15 hP hD hS => ?_)
      subst z_9
      have hP : va_P dd vwCl [kI cI r0 9 mr, kI cI f0 9 mf, kI cI g0 9 mg, kI cI d0 8 md, kI cI v0 21 mv, kO y0 7 [vI n, .ref v0, .ref a0, vI sts, .ref r0, .ref f0, .ref g0, .ref d0, .ref t9, vI ty, vI 1]] H := hP
      have hD : va_D A [kI cI r0 9 mr, kI cI f0 9 mf, kI cI g0 9 mg, kI cI d0 8 md, kI cI v0 21 mv, kO y0 7 [vI n, .ref v0, .ref a0, vI sts, .ref r0, .ref f0, .ref g0, .ref d0, .ref t9, vI ty, vI 1]] := hD
      subst hQ
      refine z_iret (z := 0) hx hb hr hlocks dX7_steps_18 (1, mr, mf, mg, md) hK hS ⟨by omega, by omega⟩ (hP.sub [5, 4, 0, 1, 2, 3] rfl) (hD.sub [5, 4, 0, 1, 2, 3] (by decide) rfl) ?_
      exact Or.inr ⟨by omega, rfl, rfl⟩

