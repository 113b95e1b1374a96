set_option maxHeartbeats 4000000 in
set_option maxRecDepth 100000 in
theorem c_X7_sets (l : Launch) (dd : va_G) (cI cJ cC cS : ClassId) (y0 v0 a0 r0 f0 g0 d0 t9 : Nat) (n sts ty th : Int) (mv : Int → Int) (mp : Int → Int) (q x : Int) (sz : Nat) (hst : 0 ≤ sts ∧ sts ≤ 6) (hq : 0 ≤ q ∧ q < 21) : gMi l yX7_sets wsX7_sets 2 0 0 dd cI cJ cC cS [.ref y0, vI q, vI x] [kO y0 7 [vI n, .ref v0, .ref a0, vI sts, .ref r0, .ref f0, .ref g0, .ref d0, .ref t9, vI ty, vI th], kI cI v0 21 mv, kI cI a0 126 mp] sz (fun (z : Int) (_ : Unit) => z = mv q) (fun (_ : Unit) => [kO y0 7 [vI n, .ref v0, .ref a0, vI (acS sts), .ref r0, .ref f0, .ref g0, .ref d0, .ref t9, vI ty, vI th], kI cI v0 21 (uZ mv q x), kI cI a0 126 (acP sts mp mv)]) := by
  refine gMi_of (cc := cX7_sets) (maxL := 4) (ret := (some .int)) (by decide) rfl (Nat.le_of_ble_eq_true rfl) ?_
  intro p e s m args below meth c A Q hQ hx hb hr hts hown hlocks hnm hml H locs hP hK hD hA hS ls hl
  have hi7 : ∀ w ∈ wsX70, w ∈ wsX7_sets := fun _ h => (List.mem_cons_of_mem _ (List.mem_append_right _ h))
  have hl : lv_has ls 4 [(0, .ref y0), (1, vI q), (2, vI x)] := hl
  refine lv_aload_n hx hb dX7_sets_0 rfl (lv_at hl 0 rfl) ?_
  refine g_callVv (own := RX7) (n := 0) (mc := 0) (ms := 0) (As := []) (rest := []) (wc := [kO y0 7 [vI n, .ref v0, .ref a0, vI sts, .ref r0, .ref f0, .ref g0, .ref d0, .ref t9, vI ty, vI th], kI cI v0 21 mv, kI cI a0 126 mp]) (wr := []) hx hb hml hown hts hK hP hD hS hA [0, 1, 2] [] rfl rfl (by decide) (by decide) 7 0 rfl rfl (c_X7_act l dd cI cJ cC cS y0 v0 a0 r0 f0 g0 d0 t9 n sts ty th mv mp H.size  (by first | assumption | omega)) gX7_sets_X7_act rfl (by decide +kernel) (by decide) (by decide) (by decide) (by decide) rfl hl.1 rfl (Nat.le_of_ble_eq_true rfl) dX7_sets_1 (fun u_1 H locs hp1 hP hD hS => ?_)
  have hP : va_P dd vwCl [kO y0 7 [vI n, .ref v0, .ref a0, vI (acS sts), .ref r0, .ref f0, .ref g0, .ref d0, .ref t9, vI ty, vI th], kI cI v0 21 mv, kI cI a0 126 (acP sts mp mv)] H := hP
  have hD : va_D A [kO y0 7 [vI n, .ref v0, .ref a0, vI (acS sts), .ref r0, .ref f0, .ref g0, .ref d0, .ref t9, vI ty, vI th], kI cI v0 21 mv, kI cI a0 126 (acP sts mp mv)] := hD
  refine lv_aload_n hx hb dX7_sets_4 rfl (lv_at hl 0 rfl) ?_
  refine va_get (D := dd) (ci := 7) (v := .ref v0) (C := RX7) (T := TX7) (N := 11) hx hb hts hi7 hown hK hP 0 rfl rfl 1 (by decide) (hts _ (List.mem_cons_of_mem _ (List.mem_append_left _ (List.mem_of_getElem? (i := 0) rfl)))) (fun _ h9 => h9) rfl dX7_sets_5 ?_
  refine lv_iload_n hx hb dX7_sets_8 rfl (lv_at hl 1 rfl) ?_
  refine z_iald hx hb hK hP 1 0 rfl rfl (i := q) (by omega) (by decide) dX7_sets_9 ?_
  refine lv_istore_n (lv' := [(3, vI (mv q)), (0, .ref y0), (1, vI q), (2, vI x)]) hx hb dX7_sets_10 rfl hl (by decide) rfl (fun ls hl => ?_)
  refine lv_aload_n hx hb dX7_sets_11 rfl (lv_at hl 1 rfl) ?_
  refine va_get (D := dd) (ci := 7) (v := .ref v0) (C := RX7) (T := TX7) (N := 11) hx hb hts hi7 hown hK hP 0 rfl rfl 1 (by decide) (hts _ (List.mem_cons_of_mem _ (List.mem_append_left _ (List.mem_of_getElem? (i := 0) rfl)))) (fun _ h9 => h9) rfl dX7_sets_12 ?_
  refine lv_iload_n hx hb dX7_sets_15 rfl (lv_at hl 2 rfl) ?_
  refine lv_iload_n hx hb dX7_sets_16 rfl (lv_at hl 3 rfl) ?_
  refine z_iast (ws' := [kO y0 7 [vI n, .ref v0, .ref a0, vI (acS sts), .ref r0, .ref f0, .ref g0, .ref d0, .ref t9, vI ty, vI th], kI cI v0 21 (uZ mv q x), kI cI a0 126 (acP sts mp mv)]) hx hb hK hP hD hS 1 0 rfl rfl (i := q) (x := x) (by omega) (by decide) dX7_sets_17 rfl (fun H locs hP hD hS => ?_)
  refine lv_iload_n hx hb dX7_sets_18 rfl (lv_at hl 0 rfl) ?_
  subst hQ
  refine z_iret (z := (mv q)) hx hb hr hlocks dX7_sets_19 () hK hS ⟨by omega, by omega⟩ hP hD ?_
  first | rfl | trivial | omega

set_option maxHeartbeats 4000000 in
set_option maxRecDepth 100000 in
theorem c_X7_isCar (l : Launch) (dd : va_G) (cI cJ cC cS : ClassId) (y0 v0 a0 r0 f0 g0 d0 t9 : Nat) (n sts ty th : Int) (mv : Int → Int) (v : Int) (sz : Nat) (hc0 : 0 ≤ mv 0 ∧ mv 0 ≤ 9) (hgv : rg v) : gMi l yX7_isCar wsX7_isCar 2 0 0 dd cI cJ cC cS [.ref y0, vI v] [kO y0 7 [vI n, .ref v0, .ref a0, vI sts, .ref r0, .ref f0, .ref g0, .ref d0, .ref t9, vI ty, vI th], kI cI v0 21 mv] sz (fun (z : Int) (_ : Unit) => ((0 ≤ v) ∧ (v < mv 0) ∧ z = 1) ∨ ((v < 0 ∨ mv 0 ≤ v) ∧ z = 0)) (fun (_ : Unit) => [kO y0 7 [vI n, .ref v0, .ref a0, vI sts, .ref r0, .ref f0, .ref g0, .ref d0, .ref t9, vI ty, vI th], kI cI v0 21 mv]) := by
  refine gMi_of (cc := cX7_isCar) (maxL := 2) (ret := (some .boolean)) (by decide) rfl (Nat.le_of_ble_eq_true rfl) ?_
  intro p e s m args below meth c A Q hQ hx hb hr hts hown hlocks hnm hml H locs hP hK hD hA hS ls hl
  have hi7 : ∀ w ∈ wsX70, w ∈ wsX7_isCar := fun _ h => (List.mem_cons_of_mem _ (List.mem_append_right _ h))
  have hl : lv_has ls 2 [(0, .ref y0), (1, vI v)] := hl
  refine lv_iload_n hx hb dX7_isCar_0 rfl (lv_at hl 1 rfl) ?_
  refine z_iconst hx hb dX7_isCar_1 ?_
  refine lv_aload_n hx hb dX7_isCar_2 rfl (lv_at hl 0 rfl) ?_
  refine va_get (D := dd) (ci := 7) (v := .ref v0) (C := RX7) (T := TX7) (N := 11) hx hb hts hi7 hown hK hP 0 rfl rfl 1 (by decide) (hts _ (List.mem_cons_of_mem _ (List.mem_append_left _ (List.mem_of_getElem? (i := 0) rfl)))) (fun _ h9 => h9) rfl dX7_isCar_3 ?_
  refine z_iconst hx hb dX7_isCar_6 ?_
  refine z_iald hx hb hK hP 1 0 rfl rfl (i := 0) (by omega) (by decide) dX7_isCar_7 ?_
  refine z_iconst hx hb dX7_isCar_8 ?_
  refine z_isub (z := ((mv 0) - 1)) hx hb rfl dX7_isCar_9 ?_
  refine g_callSi (own := RX7) (n := 3) (mc := 0) (ms := 0) (As := [vI v, vI 0, vI ((mv 0) - 1)]) (rest := []) (wc := []) (wr := [kO y0 7 [vI n, .ref v0, .ref a0, vI sts, .ref r0, .ref f0, .ref g0, .ref d0, .ref t9, vI ty, vI th], kI cI v0 21 mv]) hx hb hml hown hts hK hP hD hS hA [] [0, 1] rfl rfl (by decide) (by decide) (c_X7_in l dd cI cJ cC cS v 0 ((mv 0) - 1) H.size  (by first | assumption | omega) (by first | assumption | omega) (by first | assumption | omega)) gX7_isCar_X7_in rfl (by decide +kernel) (by decide) (by decide) (by decide) (by decide) rfl hl.1 rfl (Nat.le_of_ble_eq_true rfl) dX7_isCar_10 (fun z_1 u_2 H locs hp10 hP hD hS => ?_)
  rcases hp10 with ⟨hp10_0, hp10_1, hp10_z⟩ | ⟨hp10_0, hp10_z⟩
  · skip
    subst z_1
    have hP : va_P dd vwCl [kO y0 7 [vI n, .ref v0, .ref a0, vI sts, .ref r0, .ref f0, .ref g0, .ref d0, .ref t9, vI ty, vI th], kI cI v0 21 mv] H := hP
    have hD : va_D A [kO y0 7 [vI n, .ref v0, .ref a0, vI sts, .ref r0, .ref f0, .ref g0, .ref d0, .ref t9, vI ty, vI th], kI cI v0 21 mv] := hD
    subst hQ
    refine z_zret (z := 1) hx hb hr hlocks dX7_isCar_13 (by omega) () hK hS ⟨by omega, by omega⟩ hP hD ?_
    first | exact Or.inl ⟨by omega, by omega, rfl⟩ | exact Or.inr ⟨by omega, rfl⟩
  · skip
    subst z_1
    have hP : va_P dd vwCl [kO y0 7 [vI n, .ref v0, .ref a0, vI sts, .ref r0, .ref f0, .ref g0, .ref d0, .ref t9, vI ty, vI th], kI cI v0 21 mv] H := hP
    have hD : va_D A [kO y0 7 [vI n, .ref v0, .ref a0, vI sts, .ref r0, .ref f0, .ref g0, .ref d0, .ref t9, vI ty, vI th], kI cI v0 21 mv] := hD
    subst hQ
    refine z_zret (z := 0) hx hb hr hlocks dX7_isCar_13 (by omega) () hK hS ⟨by omega, by omega⟩ hP hD ?_
    first | exact Or.inl ⟨by omega, by omega, rfl⟩ | exact Or.inr ⟨by omega, rfl⟩

set_option maxHeartbeats 4000000 in
set_option maxRecDepth 100000 in
theorem c_X7_spaces (l : Launch) (dd : va_G) (cI cJ cC cS : ClassId) (y0 v0 a0 r0 f0 g0 d0 t9 : Nat) (n sts ty th : Int) (sz : Nat)  : gMi l yX7_spaces wsX7_spaces 1 0 0 dd cI cJ cC cS [.ref y0] [kO y0 7 [vI n, .ref v0, .ref a0, vI sts, .ref r0, .ref f0, .ref g0, .ref d0, .ref t9, vI ty, vI th]] sz (fun (z : Int) (_ : Unit) => z = n) (fun (_ : Unit) => [kO y0 7 [vI n, .ref v0, .ref a0, vI sts, .ref r0, .ref f0, .ref g0, .ref d0, .ref t9, vI ty, vI 0]]) := by
  refine gMi_of (cc := cX7_spaces) (maxL := 1) (ret := (some .int)) (by decide) rfl (Nat.le_of_ble_eq_true rfl) ?_
  intro p e s m args below meth c A Q hQ hx hb hr hts hown hlocks hnm hml H locs hP hK hD hA hS ls hl
  have hi7 : ∀ w ∈ wsX70, w ∈ wsX7_spaces := fun _ h => (List.mem_cons_of_mem _ (List.mem_append_right _ h))
  have hl : lv_has ls 1 [(0, .ref y0)] := hl
  refine lv_aload_n hx hb dX7_spaces_0 rfl (lv_at hl 0 rfl) ?_
  refine z_iconst hx hb dX7_spaces_1 ?_
  refine va_put (D := dd) (ci := 7) (v := vI 0) (ty := .int) (C := RX7) (T := TX7) (N := 11) hx hb hts hi7 tyX7 tyX7_ok nmX7 hown hK hP hD hS 0 rfl rfl 10 (by decide) (hts _ (List.mem_cons_of_mem _ (List.mem_append_left _ (List.mem_of_getElem? (i := 0) rfl)))) (fun _ h9 => h9) rfl (by decide +kernel) rfl rfl (Nat.le_of_ble_eq_true rfl) dX7_spaces_2 (fun H locs hP hD hS => ?_)
  have hP : va_P dd vwCl [kO y0 7 [vI n, .ref v0, .ref a0, vI sts, .ref r0, .ref f0, .ref g0, .ref d0, .ref t9, vI ty, vI 0]] H := hP
  have hD : va_D A [kO y0 7 [vI n, .ref v0, .ref a0, vI sts, .ref r0, .ref f0, .ref g0, .ref d0, .ref t9, vI ty, vI 0]] := hD
  refine lv_aload_n hx hb dX7_spaces_5 rfl (lv_at hl 0 rfl) ?_
  refine va_get (D := dd) (ci := 7) (v := vI n) (C := RX7) (T := TX7) (N := 11) hx hb hts hi7 hown hK hP 0 rfl rfl 0 (by decide) (hts _ (List.mem_cons_of_mem _ (List.mem_append_left _ (List.mem_of_getElem? (i := 1) rfl)))) (fun _ h9 => h9) rfl dX7_spaces_6 ?_
  subst hQ
  refine z_iret (z := n) hx hb hr hlocks dX7_spaces_9 () hK hS ⟨by omega, by omega⟩ hP hD ?_
  first | rfl | trivial | omega

set_option maxHeartbeats 4000000 in
set_option maxRecDepth 100000 in
theorem c_X7_cars (l : Launch) (dd : va_G) (cI cJ cC cS : ClassId) (y0 v0 a0 r0 f0 g0 d0 t9 : Nat) (n sts ty th : Int) (mv : Int → Int) (sz : Nat)  : gMi l yX7_cars wsX7_cars 1 0 0 dd cI cJ cC cS [.ref y0] [kO y0 7 [vI n, .ref v0, .ref a0, vI sts, .ref r0, .ref f0, .ref g0, .ref d0, .ref t9, vI ty, vI th], kI cI v0 21 mv] sz (fun (z : Int) (_ : Unit) => z = mv 0) (fun (_ : Unit) => [kO y0 7 [vI n, .ref v0, .ref a0, vI sts, .ref r0, .ref f0, .ref g0, .ref d0, .ref t9, vI ty, vI 0], kI cI v0 21 mv]) := by
  refine gMi_of (cc := cX7_cars) (maxL := 1) (ret := (some .int)) (by decide) rfl (Nat.le_of_ble_eq_true rfl) ?_
  intro p e s m args below meth c A Q hQ hx hb hr hts hown hlocks hnm hml H locs hP hK hD hA hS ls hl
  have hi7 : ∀ w ∈ wsX70, w ∈ wsX7_cars := fun _ h => (List.mem_cons_of_mem _ (List.mem_append_right _ h))
  have hl : lv_has ls 1 [(0, .ref y0)] := hl
  refine lv_aload_n hx hb dX7_cars_0 rfl (lv_at hl 0 rfl) ?_
  refine z_iconst hx hb dX7_cars_1 ?_
  refine va_put (D := dd) (ci := 7) (v := vI 0) (ty := .int) (C := RX7) (T := TX7) (N := 11) hx hb hts hi7 tyX7 tyX7_ok nmX7 hown hK hP hD hS 0 rfl rfl 10 (by decide) (hts _ (List.mem_cons_of_mem _ (List.mem_append_left _ (List.mem_of_getElem? (i := 0) rfl)))) (fun _ h9 => h9) rfl (by decide +kernel) rfl rfl (Nat.le_of_ble_eq_true rfl) dX7_cars_2 (fun H locs hP hD hS => ?_)
  have hP : va_P dd vwCl [kO y0 7 [vI n, .ref v0, .ref a0, vI sts, .ref r0, .ref f0, .ref g0, .ref d0, .ref t9, vI ty, vI 0], kI cI v0 21 mv] H := hP
  have hD : va_D A [kO y0 7 [vI n, .ref v0, .ref a0, vI sts, .ref r0, .ref f0, .ref g0, .ref d0, .ref t9, vI ty, vI 0], kI cI v0 21 mv] := hD
  refine lv_aload_n hx hb dX7_cars_5 rfl (lv_at hl 0 rfl) ?_
  refine va_get (D := dd) (ci := 7) (v := .ref v0) (C := RX7) (T := TX7) (N := 11) hx hb hts hi7 hown hK hP 0 rfl rfl 1 (by decide) (hts _ (List.mem_cons_of_mem _ (List.mem_append_left _ (List.mem_of_getElem? (i := 1) rfl)))) (fun _ h9 => h9) rfl dX7_cars_6 ?_
  refine z_iconst hx hb dX7_cars_9 ?_
  refine z_iald hx hb hK hP 1 0 rfl rfl (i := 0) (by omega) (by decide) dX7_cars_10 ?_
  subst hQ
  refine z_iret (z := (mv 0)) hx hb hr hlocks dX7_cars_11 () hK hS ⟨by omega, by omega⟩ hP hD ?_
  first | rfl | trivial | omega

set_option maxHeartbeats 4000000 in
set_option maxRecDepth 100000 in
theorem c_X7_clearText (l : Launch) (dd : va_G) (cI cJ cC cS : ClassId) (y0 v0 a0 r0 f0 g0 d0 t9 : Nat) (n sts ty th : Int) (sz : Nat)  : gMi l yX7_clearText wsX7_clearText 1 0 0 dd cI cJ cC cS [.ref y0] [kO y0 7 [vI n, .ref v0, .ref a0, vI sts, .ref r0, .ref f0, .ref g0, .ref d0, .ref t9, vI ty, vI th]] sz (fun (z : Int) (_ : Unit) => z = ty) (fun (_ : Unit) => [kO y0 7 [vI n, .ref v0, .ref a0, vI sts, .ref r0, .ref f0, .ref g0, .ref d0, .ref t9, vI 0, vI 0]]) := by
  refine gMi_of (cc := cX7_clearText) (maxL := 2) (ret := (some .int)) (by decide) rfl (Nat.le_of_ble_eq_true rfl) ?_
  intro p e s m args below meth c A Q hQ hx hb hr hts hown hlocks hnm hml H locs hP hK hD hA hS ls hl
  have hi7 : ∀ w ∈ wsX70, w ∈ wsX7_clearText := fun _ h => (List.mem_cons_of_mem _ (List.mem_append_right _ h))
  have hl : lv_has ls 2 [(0, .ref y0)] := hl
  refine lv_aload_n hx hb dX7_clearText_0 rfl (lv_at hl 0 rfl) ?_
  refine z_iconst hx hb dX7_clearText_1 ?_
  refine va_put (D := dd) (ci := 7) (v := vI 0) (ty := .int) (C := RX7) (T := TX7) (N := 11) hx hb hts hi7 tyX7 tyX7_ok nmX7 hown hK hP hD hS 0 rfl rfl 10 (by decide) (hts _ (List.mem_cons_of_mem _ (List.mem_append_left _ (List.mem_of_getElem? (i := 0) rfl)))) (fun _ h9 => h9) rfl (by decide +kernel) rfl rfl (Nat.le_of_ble_eq_true rfl) dX7_clearText_2 (fun H locs hP hD hS => ?_)
  have hP : va_P dd vwCl [kO y0 7 [vI n, .ref v0, .ref a0, vI sts, .ref r0, .ref f0, .ref g0, .ref d0, .ref t9, vI ty, vI 0]] H := hP
  have hD : va_D A [kO y0 7 [vI n, .ref v0, .ref a0, vI sts, .ref r0, .ref f0, .ref g0, .ref d0, .ref t9, vI ty, vI 0]] := hD
  refine lv_aload_n hx hb dX7_clearText_5 rfl (lv_at hl 0 rfl) ?_
  refine va_get (D := dd) (ci := 7) (v := vI ty) (C := RX7) (T := TX7) (N := 11) hx hb hts hi7 hown hK hP 0 rfl rfl 9 (by decide) (hts _ (List.mem_cons_of_mem _ (List.mem_append_left _ (List.mem_of_getElem? (i := 1) rfl)))) (fun _ h9 => h9) rfl dX7_clearText_6 ?_
  refine lv_istore_n (lv' := [(1, vI ty), (0, .ref y0)]) hx hb dX7_clearText_9 rfl hl (by decide) rfl (fun ls hl => ?_)
  refine lv_aload_n hx hb dX7_clearText_10 rfl (lv_at hl 1 rfl) ?_
  refine z_iconst hx hb dX7_clearText_11 ?_
  refine va_put (D := dd) (ci := 7) (v := vI 0) (ty := .int) (C := RX7) (T := TX7) (N := 11) hx hb hts hi7 tyX7 tyX7_ok nmX7 hown hK hP hD hS 0 rfl rfl 9 (by decide) (hts _ (List.mem_cons_of_mem _ (List.mem_append_left _ (List.mem_of_getElem? (i := 1) rfl)))) (fun _ h9 => h9) rfl (by decide +kernel) rfl rfl (Nat.le_of_ble_eq_true rfl) dX7_clearText_12 (fun H locs hP hD hS => ?_)
  have hP : va_P dd vwCl [kO y0 7 [vI n, .ref v0, .ref a0, vI sts, .ref r0, .ref f0, .ref g0, .ref d0, .ref t9, vI 0, vI 0]] H := hP
  have hD : va_D A [kO y0 7 [vI n, .ref v0, .ref a0, vI sts, .ref r0, .ref f0, .ref g0, .ref d0, .ref t9, vI 0, vI 0]] := hD
  refine lv_iload_n hx hb dX7_clearText_15 rfl (lv_at hl 0 rfl) ?_
  subst hQ
  refine z_iret (z := ty) hx hb hr hlocks dX7_clearText_16 () hK hS ⟨by omega, by omega⟩ hP hD ?_
  first | rfl | trivial | omega

set_option maxHeartbeats 4000000 in
set_option maxRecDepth 100000 in
theorem c_X7_clearCars (l : Launch) (dd : va_G) (cI cJ cC cS : ClassId) (y0 v0 a0 r0 f0 g0 d0 t9 : Nat) (n sts ty th : Int) (mv : Int → Int) (mp : Int → Int) (sz : Nat) (hst : 0 ≤ sts ∧ sts ≤ 6) : gMi l yX7_clearCars wsX7_clearCars 4 0 0 dd cI cJ cC cS [.ref y0] [kO y0 7 [vI n, .ref v0, .ref a0, vI sts, .ref r0, .ref f0, .ref g0, .ref d0, .ref t9, vI ty, vI th], kI cI v0 21 mv, kI cI a0 126 mp] sz (fun (z : Int) (_ : Unit) => z = mv 0) (fun (_ : Unit) => [kO y0 7 [vI n, .ref v0, .ref a0, vI (acS sts), .ref r0, .ref f0, .ref g0, .ref d0, .ref t9, vI ty, vI 0], kI cI v0 21 (uZ mv 0 0), kI cI a0 126 (acP sts mp mv)]) := by
  refine gMi_of (cc := cX7_clearCars) (maxL := 1) (ret := (some .int)) (by decide) rfl (Nat.le_of_ble_eq_true rfl) ?_
  intro p e s m args below meth c A Q hQ hx hb hr hts hown hlocks hnm hml H locs hP hK hD hA hS ls hl
  have hi7 : ∀ w ∈ wsX70, w ∈ wsX7_clearCars := fun _ h => (List.mem_cons_of_mem _ (List.mem_append_right _ h))
  have hl : lv_has ls 1 [(0, .ref y0)] := hl
  refine lv_aload_n hx hb dX7_clearCars_0 rfl (lv_at hl 0 rfl) ?_
  refine z_iconst hx hb dX7_clearCars_1 ?_
  refine va_put (D := dd) (ci := 7) (v := vI 0) (ty := .int) (C := RX7) (T := TX7) (N := 11) hx hb hts hi7 tyX7 tyX7_ok nmX7 hown hK hP hD hS 0 rfl rfl 10 (by decide) (hts _ (List.mem_cons_of_mem _ (List.mem_append_left _ (List.mem_of_getElem? (i := 0) rfl)))) (fun _ h9 => h9) rfl (by decide +kernel) rfl rfl (Nat.le_of_ble_eq_true rfl) dX7_clearCars_2 (fun H locs hP hD hS => ?_)
  have hP : va_P dd vwCl [kO y0 7 [vI n, .ref v0, .ref a0, vI sts, .ref r0, .ref f0, .ref g0, .ref d0, .ref t9, vI ty, vI 0], kI cI v0 21 mv, kI cI a0 126 mp] H := hP
  have hD : va_D A [kO y0 7 [vI n, .ref v0, .ref a0, vI sts, .ref r0, .ref f0, .ref g0, .ref d0, .ref t9, vI ty, vI 0], kI cI v0 21 mv, kI cI a0 126 mp] := hD
  refine lv_aload_n hx hb dX7_clearCars_5 rfl (lv_at hl 0 rfl) ?_
  refine z_iconst hx hb dX7_clearCars_6 ?_
  refine z_iconst hx hb dX7_clearCars_7 ?_
  refine g_callVi (own := RX7) (n := 2) (mc := 0) (ms := 0) (As := [vI 0, vI 0]) (rest := []) (wc := [kO y0 7 [vI n, .ref v0, .ref a0, vI sts, .ref r0, .ref f0, .ref g0, .ref d0, .ref t9, vI ty, vI 0], kI cI v0 21 mv, kI cI a0 126 mp]) (wr := []) hx hb hml hown hts hK hP hD hS hA [0, 1, 2] [] rfl rfl (by decide) (by decide) 7 0 rfl rfl (c_X7_sets l dd cI cJ cC cS y0 v0 a0 r0 f0 g0 d0 t9 n sts ty 0 mv mp 0 0 H.size  (by first | assumption | omega) (by first | assumption | omega)) gX7_clearCars_X7_sets rfl (by decide +kernel) (by decide) (by decide) (by decide) (by decide) rfl hl.1 rfl (Nat.le_of_ble_eq_true rfl) dX7_clearCars_8 (fun z_1 u_2 H locs hp8 hP hD hS => ?_)
  subst z_1
  have hP : va_P dd vwCl [kO y0 7 [vI n, .ref v0, .ref a0, vI (acS sts), .ref r0, .ref f0, .ref g0, .ref d0, .ref t9, vI ty, vI 0], kI cI v0 21 (uZ mv 0 0), kI cI a0 126 (acP sts mp mv)] H := hP
  have hD : va_D A [kO y0 7 [vI n, .ref v0, .ref a0, vI (acS sts), .ref r0, .ref f0, .ref g0, .ref d0, .ref t9, vI ty, vI 0], kI cI v0 21 (uZ mv 0 0), kI cI a0 126 (acP sts mp mv)] := hD
  subst hQ
  refine z_iret (z := mv 0) hx hb hr hlocks dX7_clearCars_11 () hK hS ⟨by omega, by omega⟩ hP hD ?_
  first | rfl | trivial | omega

set_option maxHeartbeats 4000000 in
set_option maxRecDepth 100000 in
theorem c_X7_setRule (l : Launch) (dd : va_G) (cI cJ cC cS : ClassId) (y0 v0 a0 r0 f0 g0 d0 t9 : Nat) (n sts ty th : Int) (mv : Int → Int) (mp : Int → Int) (a b : Int) (sz : Nat) (hst : 0 ≤ sts ∧ sts ≤ 6) (hn : 1 ≤ n ∧ n ≤ 8) (hc0 : 0 ≤ mv 0 ∧ mv 0 ≤ 9) (hc1 : 0 ≤ mv 1 ∧ mv 1 ≤ 3) (hc2 : 0 ≤ mv 2 ∧ mv 2 ≤ 8) (hcap : ∀ j : Int, 0 ≤ j → j < n → 0 ≤ mv (3 + j) ∧ mv (3 + j) ≤ 3) (hwi : ∀ j : Int, 0 ≤ j → j < mv 0 → 0 ≤ mv (12 + j) ∧ mv (12 + j) < n) (hga : rg a) (hgb : rg b) : gMi l yX7_setRule wsX7_setRule 4 0 0 dd cI cJ cC cS [.ref y0, vI a, vI b] [kO y0 7 [vI n, .ref v0, .ref a0, vI sts, .ref r0, .ref f0, .ref g0, .ref d0, .ref t9, vI ty, vI th], kI cI v0 21 mv, kI cI a0 126 mp] sz (fun (z : Int) (u : Int × Int × (Int → Int) × (Int → Int)) => (((0 ≤ a ∧ a ≤ 3) ∧ (0 ≤ b ∧ b ≤ 8)) ∧ z = 10 * mv 1 + mv 2 ∧ u.1 = (acS sts) ∧ u.2.1 = 0 ∧ u.2.2.1 = (uZ (uZ mv 1 a) 2 b) ∧ u.2.2.2 = (acP sts mp mv)) ∨ ((¬ ((0 ≤ a ∧ a ≤ 3) ∧ (0 ≤ b ∧ b ≤ 8))) ∧ z = 0 ∧ u.1 = sts ∧ u.2.1 = 1 ∧ u.2.2.1 = mv ∧ u.2.2.2 = mp)) (fun (u : Int × Int × (Int → Int) × (Int → Int)) => [kO y0 7 [vI n, .ref v0, .ref a0, vI u.1, .ref r0, .ref f0, .ref g0, .ref d0, .ref t9, vI ty, vI u.2.1], kI cI v0 21 u.2.2.1, kI cI a0 126 u.2.2.2]) := by
  refine gMi_of (cc := cX7_setRule) (maxL := 4) (ret := (some .int)) (by decide) rfl (Nat.le_of_ble_eq_true rfl) ?_
  intro p e s m args below meth c A Q hQ hx hb hr hts hown hlocks hnm hml H locs hP hK hD hA hS ls hl
  have hi7 : ∀ w ∈ wsX70, w ∈ wsX7_setRule := fun _ h => (List.mem_cons_of_mem _ (List.mem_append_right _ h))
  have hl : lv_has ls 4 [(0, .ref y0), (1, vI a), (2, vI b)] := hl
  refine lv_aload_n hx hb dX7_setRule_0 rfl (lv_at hl 0 rfl) ?_
  refine z_iconst hx hb dX7_setRule_1 ?_
  refine va_put (D := dd) (ci := 7) (v := vI 0) (ty := .int) (C := RX7) (T := TX7) (N := 11) hx hb hts hi7 tyX7 tyX7_ok nmX7 hown hK hP hD hS 0 rfl rfl 10 (by decide) (hts _ (List.mem_cons_of_mem _ (List.mem_append_left _ (List.mem_of_getElem? (i := 0) rfl)))) (fun _ h9 => h9) rfl (by decide +kernel) rfl rfl (Nat.le_of_ble_eq_true rfl) dX7_setRule_2 (fun H locs hP hD hS => ?_)
  have hP : va_P dd vwCl [kO y0 7 [vI n, .ref v0, .ref a0, vI sts, .ref r0, .ref f0, .ref g0, .ref d0, .ref t9, vI ty, vI 0], kI cI v0 21 mv, kI cI a0 126 mp] H := hP
  have hD : va_D A [kO y0 7 [vI n, .ref v0, .ref a0, vI sts, .ref r0, .ref f0, .ref g0, .ref d0, .ref t9, vI ty, vI 0], kI cI v0 21 mv, kI cI a0 126 mp] := hD
  refine lv_iload_n hx hb dX7_setRule_5 rfl (lv_at hl 1 rfl) ?_
  refine z_iconst hx hb dX7_setRule_6 ?_
  refine z_iconst hx hb dX7_setRule_7 ?_
  refine g_callSi (own := RX7) (n := 3) (mc := 0) (ms := 0) (As := [vI a, vI 0, vI 3]) (rest := []) (wc := []) (wr := [kO y0 7 [vI n, .ref v0, .ref a0, vI sts, .ref r0, .ref f0, .ref g0, .ref d0, .ref t9, vI ty, vI 0], kI cI v0 21 mv, kI cI a0 126 mp]) hx hb hml hown hts hK hP hD hS hA [] [0, 1, 2] rfl rfl (by decide) (by decide) (c_X7_in l dd cI cJ cC cS a 0 3 H.size  (by first | assumption | omega) (by first | assumption | omega) (by first | assumption | omega)) gX7_setRule_X7_in rfl (by decide +kernel) (by decide) (by decide) (by decide) (by decide) rfl hl.1 rfl (Nat.le_of_ble_eq_true rfl) dX7_setRule_8 (fun z_1 u_2 H locs hp8 hP hD hS => ?_)
  rcases hp8 with ⟨hp8_0, hp8_1, hp8_z⟩ | ⟨hp8_0, hp8_z⟩
  · skip
    subst z_1
    have hP : va_P dd vwCl [kO y0 7 [vI n, .ref v0, .ref a0, vI sts, .ref r0, .ref f0, .ref g0, .ref d0, .ref t9, vI ty, vI 0], kI cI v0 21 mv, kI cI a0 126 mp] H := hP
    have hD : va_D A [kO y0 7 [vI n, .ref v0, .ref a0, vI sts, .ref r0, .ref f0, .ref g0, .ref d0, .ref t9, vI ty, vI 0], kI cI v0 21 mv, kI cI a0 126 mp] := hD
    refine z_if_eq (tgt := 24) hx hb dX7_setRule_11 (by decide) (by omega) (fun c11 => ?_) (fun c11 => ?_)
    · exact absurd c11 (by omega)
    · skip
      refine lv_iload_n hx hb dX7_setRule_14 rfl (lv_at hl 2 rfl) ?_
      refine z_iconst hx hb dX7_setRule_15 ?_
      refine z_bipush hx hb dX7_setRule_16 (by decide +kernel) ?_
      refine g_callSi (own := RX7) (n := 3) (mc := 0) (ms := 0) (As := [vI b, vI 0, vI 8]) (rest := []) (wc := []) (wr := [kO y0 7 [vI n, .ref v0, .ref a0, vI sts, .ref r0, .ref f0, .ref g0, .ref d0, .ref t9, vI ty, vI 0], kI cI v0 21 mv, kI cI a0 126 mp]) hx hb hml hown hts hK hP hD hS hA [] [0, 1, 2] rfl rfl (by decide) (by decide) (c_X7_in l dd cI cJ cC cS b 0 8 H.size  (by first | assumption | omega) (by first | assumption | omega) (by first | assumption | omega)) gX7_setRule_X7_in rfl (by decide +kernel) (by decide) (by decide) (by decide) (by decide) rfl hl.1 rfl (Nat.le_of_ble_eq_true rfl) dX7_setRule_18 (fun z_3 u_4 H locs hp18 hP hD hS => ?_)
      rcases hp18 with ⟨hp18_0, hp18_1, hp18_z⟩ | ⟨hp18_0, hp18_z⟩
      · skip
        subst z_3
        have hP : va_P dd vwCl [kO y0 7 [vI n, .ref v0, .ref a0, vI sts, .ref r0, .ref f0, .ref g0, .ref d0, .ref t9, vI ty, vI 0], kI cI v0 21 mv, kI cI a0 126 mp] H := hP
        have hD : va_D A [kO y0 7 [vI n, .ref v0, .ref a0, vI sts, .ref r0, .ref f0, .ref g0, .ref d0, .ref t9, vI ty, vI 0], kI cI v0 21 mv, kI cI a0 126 mp] := hD
        refine z_if_ne (tgt := 30) hx hb dX7_setRule_21 (by decide) (by omega) (fun c21 => ?_) (fun c21 => ?_)
        · skip
          refine lv_aload_n hx hb dX7_setRule_30 rfl (lv_at hl 0 rfl) ?_
          refine g_callVv (own := RX7) (n := 0) (mc := 0) (ms := 0) (As := []) (rest := []) (wc := [kO y0 7 [vI n, .ref v0, .ref a0, vI sts, .ref r0, .ref f0, .ref g0, .ref d0, .ref t9, vI ty, vI 0], kI cI v0 21 mv, kI cI a0 126 mp]) (wr := []) hx hb hml hown hts hK hP hD hS hA [0, 1, 2] [] rfl rfl (by decide) (by decide) 7 0 rfl rfl (c_X7_act l dd cI cJ cC cS y0 v0 a0 r0 f0 g0 d0 t9 n sts ty 0 mv mp H.size  (by first | assumption | omega)) gX7_setRule_X7_act rfl (by decide +kernel) (by decide) (by decide) (by decide) (by decide) rfl hl.1 rfl (Nat.le_of_ble_eq_true rfl) dX7_setRule_31 (fun u_5 H locs hp31 hP hD hS => ?_)
          have hP : va_P dd vwCl [kO y0 7 [vI n, .ref v0, .ref a0, vI (acS sts), .ref r0, .ref f0, .ref g0, .ref d0, .ref t9, vI ty, vI 0], kI cI v0 21 mv, kI cI a0 126 (acP sts mp mv)] H := hP
          have hD : va_D A [kO y0 7 [vI n, .ref v0, .ref a0, vI (acS sts), .ref r0, .ref f0, .ref g0, .ref d0, .ref t9, vI ty, vI 0], kI cI v0 21 mv, kI cI a0 126 (acP sts mp mv)] := hD
          refine z_bipush hx hb dX7_setRule_34 (by decide +kernel) ?_
          refine lv_aload_n hx hb dX7_setRule_36 rfl (lv_at hl 0 rfl) ?_
          refine va_get (D := dd) (ci := 7) (v := .ref v0) (C := RX7) (T := TX7) (N := 11) hx hb hts hi7 hown hK hP 0 rfl rfl 1 (by decide) (hts _ (List.mem_cons_of_mem _ (List.mem_append_left _ (List.mem_of_getElem? (i := 1) rfl)))) (fun _ h9 => h9) rfl dX7_setRule_37 ?_
          refine z_iconst hx hb dX7_setRule_40 ?_
          refine z_iald hx hb hK hP 1 0 rfl rfl (i := 1) (by omega) (by decide) dX7_setRule_41 ?_
          refine z_imul (z := (10 * (mv 1))) hx hb rfl dX7_setRule_42 ?_
          refine lv_aload_n hx hb dX7_setRule_43 rfl (lv_at hl 0 rfl) ?_
          refine va_get (D := dd) (ci := 7) (v := .ref v0) (C := RX7) (T := TX7) (N := 11) hx hb hts hi7 hown hK hP 0 rfl rfl 1 (by decide) (hts _ (List.mem_cons_of_mem _ (List.mem_append_left _ (List.mem_of_getElem? (i := 1) rfl)))) (fun _ h9 => h9) rfl dX7_setRule_44 ?_
          refine z_iconst hx hb dX7_setRule_47 ?_
          refine z_iald hx hb hK hP 1 0 rfl rfl (i := 2) (by omega) (by decide) dX7_setRule_48 ?_
          refine z_iadd (z := ((10 * (mv 1)) + (mv 2))) hx hb rfl dX7_setRule_49 ?_
          refine lv_istore_n (lv' := [(3, vI ((10 * (mv 1)) + (mv 2))), (0, .ref y0), (1, vI a), (2, vI b)]) hx hb dX7_setRule_50 rfl hl (by decide) rfl (fun ls hl => ?_)
          refine lv_aload_n hx hb dX7_setRule_51 rfl (lv_at hl 1 rfl) ?_
          refine va_get (D := dd) (ci := 7) (v := .ref v0) (C := RX7) (T := TX7) (N := 11) hx hb hts hi7 hown hK hP 0 rfl rfl 1 (by decide) (hts _ (List.mem_cons_of_mem _ (List.mem_append_left _ (List.mem_of_getElem? (i := 1) rfl)))) (fun _ h9 => h9) rfl dX7_setRule_52 ?_
          refine z_iconst hx hb dX7_setRule_55 ?_
          refine lv_iload_n hx hb dX7_setRule_56 rfl (lv_at hl 2 rfl) ?_
          refine z_iast (ws' := [kO y0 7 [vI n, .ref v0, .ref a0, vI (acS sts), .ref r0, .ref f0, .ref g0, .ref d0, .ref t9, vI ty, vI 0], kI cI v0 21 (uZ mv 1 a), kI cI a0 126 (acP sts mp mv)]) hx hb hK hP hD hS 1 0 rfl rfl (i := 1) (x := a) (by omega) (by decide) dX7_setRule_57 rfl (fun H locs hP hD hS => ?_)
          refine lv_aload_n hx hb dX7_setRule_58 rfl (lv_at hl 1 rfl) ?_
          refine va_get (D := dd) (ci := 7) (v := .ref v0) (C := RX7) (T := TX7) (N := 11) hx hb hts hi7 hown hK hP 0 rfl rfl 1 (by decide) (hts _ (List.mem_cons_of_mem _ (List.mem_append_left _ (List.mem_of_getElem? (i := 1) rfl)))) (fun _ h9 => h9) rfl dX7_setRule_59 ?_
          refine z_iconst hx hb dX7_setRule_62 ?_
          refine lv_iload_n hx hb dX7_setRule_63 rfl (lv_at hl 3 rfl) ?_
          refine z_iast (ws' := [kO y0 7 [vI n, .ref v0, .ref a0, vI (acS sts), .ref r0, .ref f0, .ref g0, .ref d0, .ref t9, vI ty, vI 0], kI cI v0 21 (uZ (uZ mv 1 a) 2 b), kI cI a0 126 (acP sts mp mv)]) hx hb hK hP hD hS 1 0 rfl rfl (i := 2) (x := b) (by omega) (by decide) dX7_setRule_64 rfl (fun H locs hP hD hS => ?_)
          refine lv_iload_n hx hb dX7_setRule_65 rfl (lv_at hl 0 rfl) ?_
          subst hQ
          refine z_iret (z := ((10 * (mv 1)) + (mv 2))) hx hb hr hlocks dX7_setRule_66 ((acS sts), 0, (uZ (uZ mv 1 a) 2 b), (acP sts mp mv)) hK hS ⟨by omega, by omega⟩ hP hD ?_
          first | (exact Or.inl ⟨by omega, by first | rfl | omega, by first | rfl | omega, by first | rfl | omega, by first | rfl | omega, by first | rfl | omega⟩) | (exact Or.inr (⟨by omega, by first | rfl | omega, by first | rfl | omega, by first | rfl | omega, by first | rfl | omega, by first | rfl | omega⟩))
        · exact absurd c21 (by omega)
      · skip
        subst z_3
        have hP : va_P dd vwCl [kO y0 7 [vI n, .ref v0, .ref a0, vI sts, .ref r0, .ref f0, .ref g0, .ref d0, .ref t9, vI ty, vI 0], kI cI v0 21 mv, kI cI a0 126 mp] H := hP
        have hD : va_D A [kO y0 7 [vI n, .ref v0, .ref a0, vI sts, .ref r0, .ref f0, .ref g0, .ref d0, .ref t9, vI ty, vI 0], kI cI v0 21 mv, kI cI a0 126 mp] := hD
        refine z_if_ne (tgt := 30) hx hb dX7_setRule_21 (by decide) (by omega) (fun c21 => ?_) (fun c21 => ?_)
        · exact absurd c21 (by omega)
        · skip
          refine lv_aload_n hx hb dX7_setRule_24 rfl (lv_at hl 0 rfl) ?_
          refine z_iconst hx hb dX7_setRule_25 ?_
          refine g_callVi (own := RX7) (n := 1) (mc := 0) (ms := 0) (As := [vI 1]) (rest := []) (wc := [kO y0 7 [vI n, .ref v0, .ref a0, vI sts, .ref r0, .ref f0, .ref g0, .ref d0, .ref t9, vI ty, vI 0]]) (wr := [kI cI v0 21 mv, kI cI a0 126 mp]) hx hb hml hown hts hK hP hD hS hA [0] [1, 2] rfl rfl (by decide) (by decide) 7 0 rfl rfl (c_X7_fails l dd cI cJ cC cS y0 v0 a0 r0 f0 g0 d0 t9 n sts ty 0 1 H.size) gX7_setRule_X7_fails rfl (by decide +kernel) (by decide) (by decide) (by decide) (by decide) rfl hl.1 rfl (Nat.le_of_ble_eq_true rfl) dX7_setRule_26 (fun z_6 u_7 H locs hp26 hP hD hS => ?_)
          subst z_6
          have hP : va_P dd vwCl [kI cI v0 21 mv, kI cI a0 126 mp, kO y0 7 [vI n, .ref v0, .ref a0, vI sts, .ref r0, .ref f0, .ref g0, .ref d0, .ref t9, vI ty, vI 1]] H := hP
          have hD : va_D A [kI cI v0 21 mv, kI cI a0 126 mp, kO y0 7 [vI n, .ref v0, .ref a0, vI sts, .ref r0, .ref f0, .ref g0, .ref d0, .ref t9, vI ty, vI 1]] := hD
          subst hQ
          refine z_iret (z := 0) hx hb hr hlocks dX7_setRule_29 (sts, 1, mv, mp) hK hS ⟨by omega, by omega⟩ (hP.sub [2, 0, 1] rfl) (hD.sub [2, 0, 1] (by decide) rfl) ?_
          first | (exact Or.inl ⟨by omega, by first | rfl | omega, by first | rfl | omega, by first | rfl | omega, by first | rfl | omega, by first | rfl | omega⟩) | (exact Or.inr (⟨by omega, by first | rfl | omega, by first | rfl | omega, by first | rfl | omega, by first | rfl | omega, by first | rfl | omega⟩))
  · skip
    subst z_1
    have hP : va_P dd vwCl [kO y0 7 [vI n, .ref v0, .ref a0, vI sts, .ref r0, .ref f0, .ref g0, .ref d0, .ref t9, vI ty, vI 0], kI cI v0 21 mv, kI cI a0 126 mp] H := hP
    have hD : va_D A [kO y0 7 [vI n, .ref v0, .ref a0, vI sts, .ref r0, .ref f0, .ref g0, .ref d0, .ref t9, vI ty, vI 0], kI cI v0 21 mv, kI cI a0 126 mp] := hD
    refine z_if_eq (tgt := 24) hx hb dX7_setRule_11 (by decide) (by omega) (fun c11 => ?_) (fun c11 => ?_)
    · skip
      refine lv_aload_n hx hb dX7_setRule_24 rfl (lv_at hl 0 rfl) ?_
      refine z_iconst hx hb dX7_setRule_25 ?_
      refine g_callVi (own := RX7) (n := 1) (mc := 0) (ms := 0) (As := [vI 1]) (rest := []) (wc := [kO y0 7 [vI n, .ref v0, .ref a0, vI sts, .ref r0, .ref f0, .ref g0, .ref d0, .ref t9, vI ty, vI 0]]) (wr := [kI cI v0 21 mv, kI cI a0 126 mp]) hx hb hml hown hts hK hP hD hS hA [0] [1, 2] rfl rfl (by decide) (by decide) 7 0 rfl rfl (c_X7_fails l dd cI cJ cC cS y0 v0 a0 r0 f0 g0 d0 t9 n sts ty 0 1 H.size) gX7_setRule_X7_fails rfl (by decide +kernel) (by decide) (by decide) (by decide) (by decide) rfl hl.1 rfl (Nat.le_of_ble_eq_true rfl) dX7_setRule_26 (fun z_8 u_9 H locs hp26_10 hP hD hS => ?_)
      subst z_8
      have hP : va_P dd vwCl [kI cI v0 21 mv, kI cI a0 126 mp, kO y0 7 [vI n, .ref v0, .ref a0, vI sts, .ref r0, .ref f0, .ref g0, .ref d0, .ref t9, vI ty, vI 1]] H := hP
      have hD : va_D A [kI cI v0 21 mv, kI cI a0 126 mp, kO y0 7 [vI n, .ref v0, .ref a0, vI sts, .ref r0, .ref f0, .ref g0, .ref d0, .ref t9, vI ty, vI 1]] := hD
      subst hQ
      refine z_iret (z := 0) hx hb hr hlocks dX7_setRule_29 (sts, 1, mv, mp) hK hS ⟨by omega, by omega⟩ (hP.sub [2, 0, 1] rfl) (hD.sub [2, 0, 1] (by decide) rfl) ?_
      first | (exact Or.inl ⟨by omega, by first | rfl | omega, by first | rfl | omega, by first | rfl | omega, by first | rfl | omega, by first | rfl | omega⟩) | (exact Or.inr (⟨by omega, by first | rfl | omega, by first | rfl | omega, by first | rfl | omega, by first | rfl | omega, by first | rfl | omega⟩))
    · exact absurd c11 (by omega)

set_option maxHeartbeats 4000000 in
set_option maxRecDepth 100000 in
theorem c_X7_setCapacity (l : Launch) (dd : va_G) (cI cJ cC cS : ClassId) (y0 v0 a0 r0 f0 g0 d0 t9 : Nat) (n sts ty th : Int) (mv : Int → Int) (mp : Int → Int) (a b : Int) (sz : Nat) (hst : 0 ≤ sts ∧ sts ≤ 6) (hn : 1 ≤ n ∧ n ≤ 8) (hc0 : 0 ≤ mv 0 ∧ mv 0 ≤ 9) (hc1 : 0 ≤ mv 1 ∧ mv 1 ≤ 3) (hc2 : 0 ≤ mv 2 ∧ mv 2 ≤ 8) (hcap : ∀ j : Int, 0 ≤ j → j < n → 0 ≤ mv (3 + j) ∧ mv (3 + j) ≤ 3) (hwi : ∀ j : Int, 0 ≤ j → j < mv 0 → 0 ≤ mv (12 + j) ∧ mv (12 + j) < n) (hga : rg a) (hgb : rg b) : gMi l yX7_setCapacity wsX7_setCapacity 4 0 0 dd cI cJ cC cS [.ref y0, vI a, vI b] [kO y0 7 [vI n, .ref v0, .ref a0, vI sts, .ref r0, .ref f0, .ref g0, .ref d0, .ref t9, vI ty, vI th], kI cI v0 21 mv, kI cI a0 126 mp] sz (fun (z : Int) (u : Int × Int × (Int → Int) × (Int → Int)) => ((0 ≤ a ∧ a < n) ∧ (0 ≤ b ∧ b ≤ 3) ∧ z = mv (3 + a) ∧ u.1 = (acS sts) ∧ u.2.1 = 0 ∧ u.2.2.1 = (uZ mv (3 + a) b) ∧ u.2.2.2 = (acP sts mp mv)) ∨ ((¬ (0 ≤ a ∧ a < n)) ∧ z = 0 ∧ u.1 = sts ∧ u.2.1 = 1 ∧ u.2.2.1 = mv ∧ u.2.2.2 = mp) ∨ ((0 ≤ a ∧ a < n) ∧ (¬ (0 ≤ b ∧ b ≤ 3)) ∧ z = 0 ∧ u.1 = sts ∧ u.2.1 = 2 ∧ u.2.2.1 = mv ∧ u.2.2.2 = mp)) (fun (u : Int × Int × (Int → Int) × (Int → Int)) => [kO y0 7 [vI n, .ref v0, .ref a0, vI u.1, .ref r0, .ref f0, .ref g0, .ref d0, .ref t9, vI ty, vI u.2.1], kI cI v0 21 u.2.2.1, kI cI a0 126 u.2.2.2]) := by
  refine gMi_of (cc := cX7_setCapacity) (maxL := 3) (ret := (some .int)) (by decide) rfl (Nat.le_of_ble_eq_true rfl) ?_
  intro p e s m args below meth c A Q hQ hx hb hr hts hown hlocks hnm hml H locs hP hK hD hA hS ls hl
  have hi7 : ∀ w ∈ wsX70, w ∈ wsX7_setCapacity := fun _ h => (List.mem_cons_of_mem _ (List.mem_append_right _ h))
  have hl : lv_has ls 3 [(0, .ref y0), (1, vI a), (2, vI b)] := hl
  refine lv_aload_n hx hb dX7_setCapacity_0 rfl (lv_at hl 0 rfl) ?_
  refine z_iconst hx hb dX7_setCapacity_1 ?_
  refine va_put (D := dd) (ci := 7) (v := vI 0) (ty := .int) (C := RX7) (T := TX7) (N := 11) hx hb hts hi7 tyX7 tyX7_ok nmX7 hown hK hP hD hS 0 rfl rfl 10 (by decide) (hts _ (List.mem_cons_of_mem _ (List.mem_append_left _ (List.mem_of_getElem? (i := 0) rfl)))) (fun _ h9 => h9) rfl (by decide +kernel) rfl rfl (Nat.le_of_ble_eq_true rfl) dX7_setCapacity_2 (fun H locs hP hD hS => ?_)
  have hP : va_P dd vwCl [kO y0 7 [vI n, .ref v0, .ref a0, vI sts, .ref r0, .ref f0, .ref g0, .ref d0, .ref t9, vI ty, vI 0], kI cI v0 21 mv, kI cI a0 126 mp] H := hP
  have hD : va_D A [kO y0 7 [vI n, .ref v0, .ref a0, vI sts, .ref r0, .ref f0, .ref g0, .ref d0, .ref t9, vI ty, vI 0], kI cI v0 21 mv, kI cI a0 126 mp] := hD
  refine lv_iload_n hx hb dX7_setCapacity_5 rfl (lv_at hl 1 rfl) ?_
  refine z_iconst hx hb dX7_setCapacity_6 ?_
  refine lv_aload_n hx hb dX7_setCapacity_7 rfl (lv_at hl 0 rfl) ?_
  refine va_get (D := dd) (ci := 7) (v := vI n) (C := RX7) (T := TX7) (N := 11) hx hb hts hi7 hown hK hP 0 rfl rfl 0 (by decide) (hts _ (List.mem_cons_of_mem _ (List.mem_append_left _ (List.mem_of_getElem? (i := 1) rfl)))) (fun _ h9 => h9) rfl dX7_setCapacity_8 ?_
  refine z_iconst hx hb dX7_setCapacity_11 ?_
  refine z_isub (z := (n - 1)) hx hb rfl dX7_setCapacity_12 ?_
  refine g_callSi (own := RX7) (n := 3) (mc := 0) (ms := 0) (As := [vI a, vI 0, vI (n - 1)]) (rest := []) (wc := []) (wr := [kO y0 7 [vI n, .ref v0, .ref a0, vI sts, .ref r0, .ref f0, .ref g0, .ref d0, .ref t9, vI ty, vI 0], kI cI v0 21 mv, kI cI a0 126 mp]) hx hb hml hown hts hK hP hD hS hA [] [0, 1, 2] rfl rfl (by decide) (by decide) (c_X7_in l dd cI cJ cC cS a 0 (n - 1) H.size  (by first | assumption | omega) (by first | assumption | omega) (by first | assumption | omega)) gX7_setCapacity_X7_in rfl (by decide +kernel) (by decide) (by decide) (by decide) (by decide) rfl hl.1 rfl (Nat.le_of_ble_eq_true rfl) dX7_setCapacity_13 (fun z_1 u_2 H locs hp13 hP hD hS => ?_)
  rcases hp13 with ⟨hp13_0, hp13_1, hp13_z⟩ | ⟨hp13_0, hp13_z⟩
  · skip
    subst z_1
    have hP : va_P dd vwCl [kO y0 7 [vI n, .ref v0, .ref a0, vI sts, .ref r0, .ref f0, .ref g0, .ref d0, .ref t9, vI ty, vI 0], kI cI v0 21 mv, kI cI a0 126 mp] H := hP
    have hD : va_D A [kO y0 7 [vI n, .ref v0, .ref a0, vI sts, .ref r0, .ref f0, .ref g0, .ref d0, .ref t9, vI ty, vI 0], kI cI v0 21 mv, kI cI a0 126 mp] := hD
    refine z_if_ne (tgt := 25) hx hb dX7_setCapacity_16 (by decide) (by omega) (fun c16 => ?_) (fun c16 => ?_)
    · skip
      refine lv_iload_n hx hb dX7_setCapacity_25 rfl (lv_at hl 2 rfl) ?_
      refine z_iconst hx hb dX7_setCapacity_26 ?_
      refine z_iconst hx hb dX7_setCapacity_27 ?_
      refine g_callSi (own := RX7) (n := 3) (mc := 0) (ms := 0) (As := [vI b, vI 0, vI 3]) (rest := []) (wc := []) (wr := [kO y0 7 [vI n, .ref v0, .ref a0, vI sts, .ref r0, .ref f0, .ref g0, .ref d0, .ref t9, vI ty, vI 0], kI cI v0 21 mv, kI cI a0 126 mp]) hx hb hml hown hts hK hP hD hS hA [] [0, 1, 2] rfl rfl (by decide) (by decide) (c_X7_in l dd cI cJ cC cS b 0 3 H.size  (by first | assumption | omega) (by first | assumption | omega) (by first | assumption | omega)) gX7_setCapacity_X7_in rfl (by decide +kernel) (by decide) (by decide) (by decide) (by decide) rfl hl.1 rfl (Nat.le_of_ble_eq_true rfl) dX7_setCapacity_28 (fun z_3 u_4 H locs hp28 hP hD hS => ?_)
      rcases hp28 with ⟨hp28_0, hp28_1, hp28_z⟩ | ⟨hp28_0, hp28_z⟩
      · skip
        subst z_3
        have hP : va_P dd vwCl [kO y0 7 [vI n, .ref v0, .ref a0, vI sts, .ref r0, .ref f0, .ref g0, .ref d0, .ref t9, vI ty, vI 0], kI cI v0 21 mv, kI cI a0 126 mp] H := hP
        have hD : va_D A [kO y0 7 [vI n, .ref v0, .ref a0, vI sts, .ref r0, .ref f0, .ref g0, .ref d0, .ref t9, vI ty, vI 0], kI cI v0 21 mv, kI cI a0 126 mp] := hD
        refine z_if_eq (tgt := 45) hx hb dX7_setCapacity_31 (by decide) (by omega) (fun c31 => ?_) (fun c31 => ?_)
        · exact absurd c31 (by omega)
        · skip
          refine lv_aload_n hx hb dX7_setCapacity_34 rfl (lv_at hl 0 rfl) ?_
          refine z_iconst hx hb dX7_setCapacity_35 ?_
          refine lv_iload_n hx hb dX7_setCapacity_36 rfl (lv_at hl 1 rfl) ?_
          refine z_iadd (z := (3 + a)) hx hb rfl dX7_setCapacity_37 ?_
          refine lv_iload_n hx hb dX7_setCapacity_38 rfl (lv_at hl 2 rfl) ?_
          refine g_callVi (own := RX7) (n := 2) (mc := 0) (ms := 0) (As := [vI (3 + a), vI b]) (rest := []) (wc := [kO y0 7 [vI n, .ref v0, .ref a0, vI sts, .ref r0, .ref f0, .ref g0, .ref d0, .ref t9, vI ty, vI 0], kI cI v0 21 mv, kI cI a0 126 mp]) (wr := []) hx hb hml hown hts hK hP hD hS hA [0, 1, 2] [] rfl rfl (by decide) (by decide) 7 0 rfl rfl (c_X7_sets l dd cI cJ cC cS y0 v0 a0 r0 f0 g0 d0 t9 n sts ty 0 mv mp (3 + a) b H.size  (by first | assumption | omega) (by first | assumption | omega)) gX7_setCapacity_X7_sets rfl (by decide +kernel) (by decide) (by decide) (by decide) (by decide) rfl hl.1 rfl (Nat.le_of_ble_eq_true rfl) dX7_setCapacity_39 (fun z_5 u_6 H locs hp39 hP hD hS => ?_)
          subst z_5
          have hP : va_P dd vwCl [kO y0 7 [vI n, .ref v0, .ref a0, vI (acS sts), .ref r0, .ref f0, .ref g0, .ref d0, .ref t9, vI ty, vI 0], kI cI v0 21 (uZ mv (3 + a) b), kI cI a0 126 (acP sts mp mv)] H := hP
          have hD : va_D A [kO y0 7 [vI n, .ref v0, .ref a0, vI (acS sts), .ref r0, .ref f0, .ref g0, .ref d0, .ref t9, vI ty, vI 0], kI cI v0 21 (uZ mv (3 + a) b), kI cI a0 126 (acP sts mp mv)] := hD
          refine lv_goto (tgt := 50) hx hb dX7_setCapacity_42 (by decide) ?_
          subst hQ
          refine z_iret (z := mv (3 + a)) hx hb hr hlocks dX7_setCapacity_50 ((acS sts), 0, (uZ mv (3 + a) b), (acP sts mp mv)) hK hS ⟨by omega, by omega⟩ hP hD ?_
          first | (exact Or.inl ⟨by omega, by omega, by first | rfl | omega, by first | rfl | omega, by first | rfl | omega, by first | rfl | omega, by first | rfl | omega⟩) | (exact Or.inr (Or.inl ⟨by omega, by first | rfl | omega, by first | rfl | omega, by first | rfl | omega, by first | rfl | omega, by first | rfl | omega⟩)) | (exact Or.inr (Or.inr (⟨by omega, by omega, by first | rfl | omega, by first | rfl | omega, by first | rfl | omega, by first | rfl | omega, by first | rfl | omega⟩)))
      · skip
        subst z_3
        have hP : va_P dd vwCl [kO y0 7 [vI n, .ref v0, .ref a0, vI sts, .ref r0, .ref f0, .ref g0, .ref d0, .ref t9, vI ty, vI 0], kI cI v0 21 mv, kI cI a0 126 mp] H := hP
        have hD : va_D A [kO y0 7 [vI n, .ref v0, .ref a0, vI sts, .ref r0, .ref f0, .ref g0, .ref d0, .ref t9, vI ty, vI 0], kI cI v0 21 mv, kI cI a0 126 mp] := hD
        refine z_if_eq (tgt := 45) hx hb dX7_setCapacity_31 (by decide) (by omega) (fun c31 => ?_) (fun c31 => ?_)
        · skip
          refine lv_aload_n hx hb dX7_setCapacity_45 rfl (lv_at hl 0 rfl) ?_
          refine z_iconst hx hb dX7_setCapacity_46 ?_
          refine g_callVi (own := RX7) (n := 1) (mc := 0) (ms := 0) (As := [vI 2]) (rest := []) (wc := [kO y0 7 [vI n, .ref v0, .ref a0, vI sts, .ref r0, .ref f0, .ref g0, .ref d0, .ref t9, vI ty, vI 0]]) (wr := [kI cI v0 21 mv, kI cI a0 126 mp]) hx hb hml hown hts hK hP hD hS hA [0] [1, 2] rfl rfl (by decide) (by decide) 7 0 rfl rfl (c_X7_fails l dd cI cJ cC cS y0 v0 a0 r0 f0 g0 d0 t9 n sts ty 0 2 H.size) gX7_setCapacity_X7_fails rfl (by decide +kernel) (by decide) (by decide) (by decide) (by decide) rfl hl.1 rfl (Nat.le_of_ble_eq_true rfl) dX7_setCapacity_47 (fun z_7 u_8 H locs hp47 hP hD hS => ?_)
          subst z_7
          have hP : va_P dd vwCl [kI cI v0 21 mv, kI cI a0 126 mp, kO y0 7 [vI n, .ref v0, .ref a0, vI sts, .ref r0, .ref f0, .ref g0, .ref d0, .ref t9, vI ty, vI 2]] H := hP
          have hD : va_D A [kI cI v0 21 mv, kI cI a0 126 mp, kO y0 7 [vI n, .ref v0, .ref a0, vI sts, .ref r0, .ref f0, .ref g0, .ref d0, .ref t9, vI ty, vI 2]] := hD
          subst hQ
          refine z_iret (z := 0) hx hb hr hlocks dX7_setCapacity_50 (sts, 2, mv, mp) hK hS ⟨by omega, by omega⟩ (hP.sub [2, 0, 1] rfl) (hD.sub [2, 0, 1] (by decide) rfl) ?_
          first | (exact Or.inl ⟨by omega, by omega, by first | rfl | omega, by first | rfl | omega, by first | rfl | omega, by first | rfl | omega, by first | rfl | omega⟩) | (exact Or.inr (Or.inl ⟨by omega, by first | rfl | omega, by first | rfl | omega, by first | rfl | omega, by first | rfl | omega, by first | rfl | omega⟩)) | (exact Or.inr (Or.inr (⟨by omega, by omega, by first | rfl | omega, by first | rfl | omega, by first | rfl | omega, by first | rfl | omega, by first | rfl | omega⟩)))
        · exact absurd c31 (by omega)
    · exact absurd c16 (by omega)
  · skip
    subst z_1
    have hP : va_P dd vwCl [kO y0 7 [vI n, .ref v0, .ref a0, vI sts, .ref r0, .ref f0, .ref g0, .ref d0, .ref t9, vI ty, vI 0], kI cI v0 21 mv, kI cI a0 126 mp] H := hP
    have hD : va_D A [kO y0 7 [vI n, .ref v0, .ref a0, vI sts, .ref r0, .ref f0, .ref g0, .ref d0, .ref t9, vI ty, vI 0], kI cI v0 21 mv, kI cI a0 126 mp] := hD
    refine z_if_ne (tgt := 25) hx hb dX7_setCapacity_16 (by decide) (by omega) (fun c16 => ?_) (fun c16 => ?_)
    · exact absurd c16 (by omega)
    · skip
      refine lv_aload_n hx hb dX7_setCapacity_19 rfl (lv_at hl 0 rfl) ?_
      refine z_iconst hx hb dX7_setCapacity_20 ?_
      refine g_callVi (own := RX7) (n := 1) (mc := 0) (ms := 0) (As := [vI 1]) (rest := []) (wc := [kO y0 7 [vI n, .ref v0, .ref a0, vI sts, .ref r0, .ref f0, .ref g0, .ref d0, .ref t9, vI ty, vI 0]]) (wr := [kI cI v0 21 mv, kI cI a0 126 mp]) hx hb hml hown hts hK hP hD hS hA [0] [1, 2] rfl rfl (by decide) (by decide) 7 0 rfl rfl (c_X7_fails l dd cI cJ cC cS y0 v0 a0 r0 f0 g0 d0 t9 n sts ty 0 1 H.size) gX7_setCapacity_X7_fails rfl (by decide +kernel) (by decide) (by decide) (by decide) (by decide) rfl hl.1 rfl (Nat.le_of_ble_eq_true rfl) dX7_setCapacity_21 (fun z_9 u_10 H locs hp21 hP hD hS => ?_)
      subst z_9
      have hP : va_P dd vwCl [kI cI v0 21 mv, kI cI a0 126 mp, kO y0 7 [vI n, .ref v0, .ref a0, vI sts, .ref r0, .ref f0, .ref g0, .ref d0, .ref t9, vI ty, vI 1]] H := hP
      have hD : va_D A [kI cI v0 21 mv, kI cI a0 126 mp, kO y0 7 [vI n, .ref v0, .ref a0, vI sts, .ref r0, .ref f0, .ref g0, .ref d0, .ref t9, vI ty, vI 1]] := hD
      subst hQ
      refine z_iret (z := 0) hx hb hr hlocks dX7_setCapacity_24 (sts, 1, mv, mp) hK hS ⟨by omega, by omega⟩ (hP.sub [2, 0, 1] rfl) (hD.sub [2, 0, 1] (by decide) rfl) ?_
      first | (exact Or.inl ⟨by omega, by omega, by first | rfl | omega, by first | rfl | omega, by first | rfl | omega, by first | rfl | omega, by first | rfl | omega⟩) | (exact Or.inr (Or.inl ⟨by omega, by first | rfl | omega, by first | rfl | omega, by first | rfl | omega, by first | rfl | omega, by first | rfl | omega⟩)) | (exact Or.inr (Or.inr (⟨by omega, by omega, by first | rfl | omega, by first | rfl | omega, by first | rfl | omega, by first | rfl | omega, by first | rfl | omega⟩)))

set_option maxHeartbeats 4000000 in
set_option maxRecDepth 100000 in
theorem c_X7_addCar (l : Launch) (dd : va_G) (cI cJ cC cS : ClassId) (y0 v0 a0 r0 f0 g0 d0 t9 : Nat) (n sts ty th : Int) (mv : Int → Int) (mp : Int → Int) (a : Int) (sz : Nat) (hst : 0 ≤ sts ∧ sts ≤ 6) (hn : 1 ≤ n ∧ n ≤ 8) (hc0 : 0 ≤ mv 0 ∧ mv 0 ≤ 9) (hc1 : 0 ≤ mv 1 ∧ mv 1 ≤ 3) (hc2 : 0 ≤ mv 2 ∧ mv 2 ≤ 8) (hcap : ∀ j : Int, 0 ≤ j → j < n → 0 ≤ mv (3 + j) ∧ mv (3 + j) ≤ 3) (hwi : ∀ j : Int, 0 ≤ j → j < mv 0 → 0 ≤ mv (12 + j) ∧ mv (12 + j) < n) (hga : rg a) : gMi l yX7_addCar wsX7_addCar 4 0 0 dd cI cJ cC cS [.ref y0, vI a] [kO y0 7 [vI n, .ref v0, .ref a0, vI sts, .ref r0, .ref f0, .ref g0, .ref d0, .ref t9, vI ty, vI th], kI cI v0 21 mv, kI cI a0 126 mp] sz (fun (z : Int) (u : Int × Int × (Int → Int) × (Int → Int)) => ((0 ≤ a ∧ a < n) ∧ (mv 0 < 9) ∧ z = mv 0 ∧ u.1 = (acS sts) ∧ u.2.1 = 0 ∧ u.2.2.1 = (uZ (uZ mv (12 + mv 0) a) 0 (mv 0 + 1)) ∧ u.2.2.2 = (acP sts mp mv)) ∨ ((¬ (0 ≤ a ∧ a < n)) ∧ z = 0 ∧ u.1 = sts ∧ u.2.1 = 1 ∧ u.2.2.1 = mv ∧ u.2.2.2 = mp) ∨ ((0 ≤ a ∧ a < n) ∧ (mv 0 = 9) ∧ z = 0 ∧ u.1 = sts ∧ u.2.1 = 2 ∧ u.2.2.1 = mv ∧ u.2.2.2 = mp)) (fun (u : Int × Int × (Int → Int) × (Int → Int)) => [kO y0 7 [vI n, .ref v0, .ref a0, vI u.1, .ref r0, .ref f0, .ref g0, .ref d0, .ref t9, vI ty, vI u.2.1], kI cI v0 21 u.2.2.1, kI cI a0 126 u.2.2.2]) := by
  refine gMi_of (cc := cX7_addCar) (maxL := 2) (ret := (some .int)) (by decide) rfl (Nat.le_of_ble_eq_true rfl) ?_
  intro p e s m args below meth c A Q hQ hx hb hr hts hown hlocks hnm hml H locs hP hK hD hA hS ls hl
  have hi7 : ∀ w ∈ wsX70, w ∈ wsX7_addCar := fun _ h => (List.mem_cons_of_mem _ (List.mem_append_right _ h))
  have hl : lv_has ls 2 [(0, .ref y0), (1, vI a)] := hl
  refine lv_aload_n hx hb dX7_addCar_0 rfl (lv_at hl 0 rfl) ?_
  refine z_iconst hx hb dX7_addCar_1 ?_
  refine va_put (D := dd) (ci := 7) (v := vI 0) (ty := .int) (C := RX7) (T := TX7) (N := 11) hx hb hts hi7 tyX7 tyX7_ok nmX7 hown hK hP hD hS 0 rfl rfl 10 (by decide) (hts _ (List.mem_cons_of_mem _ (List.mem_append_left _ (List.mem_of_getElem? (i := 0) rfl)))) (fun _ h9 => h9) rfl (by decide +kernel) rfl rfl (Nat.le_of_ble_eq_true rfl) dX7_addCar_2 (fun H locs hP hD hS => ?_)
  have hP : va_P dd vwCl [kO y0 7 [vI n, .ref v0, .ref a0, vI sts, .ref r0, .ref f0, .ref g0, .ref d0, .ref t9, vI ty, vI 0], kI cI v0 21 mv, kI cI a0 126 mp] H := hP
  have hD : va_D A [kO y0 7 [vI n, .ref v0, .ref a0, vI sts, .ref r0, .ref f0, .ref g0, .ref d0, .ref t9, vI ty, vI 0], kI cI v0 21 mv, kI cI a0 126 mp] := hD
  refine lv_iload_n hx hb dX7_addCar_5 rfl (lv_at hl 1 rfl) ?_
  refine z_iconst hx hb dX7_addCar_6 ?_
  refine lv_aload_n hx hb dX7_addCar_7 rfl (lv_at hl 0 rfl) ?_
  refine va_get (D := dd) (ci := 7) (v := vI n) (C := RX7) (T := TX7) (N := 11) hx hb hts hi7 hown hK hP 0 rfl rfl 0 (by decide) (hts _ (List.mem_cons_of_mem _ (List.mem_append_left _ (List.mem_of_getElem? (i := 1) rfl)))) (fun _ h9 => h9) rfl dX7_addCar_8 ?_
  refine z_iconst hx hb dX7_addCar_11 ?_
  refine z_isub (z := (n - 1)) hx hb rfl dX7_addCar_12 ?_
  refine g_callSi (own := RX7) (n := 3) (mc := 0) (ms := 0) (As := [vI a, vI 0, vI (n - 1)]) (rest := []) (wc := []) (wr := [kO y0 7 [vI n, .ref v0, .ref a0, vI sts, .ref r0, .ref f0, .ref g0, .ref d0, .ref t9, vI ty, vI 0], kI cI v0 21 mv, kI cI a0 126 mp]) hx hb hml hown hts hK hP hD hS hA [] [0, 1, 2] rfl rfl (by decide) (by decide) (c_X7_in l dd cI cJ cC cS a 0 (n - 1) H.size  (by first | assumption | omega) (by first | assumption | omega) (by first | assumption | omega)) gX7_addCar_X7_in rfl (by decide +kernel) (by decide) (by decide) (by decide) (by decide) rfl hl.1 rfl (Nat.le_of_ble_eq_true rfl) dX7_addCar_13 (fun z_1 u_2 H locs hp13 hP hD hS => ?_)
  rcases hp13 with ⟨hp13_0, hp13_1, hp13_z⟩ | ⟨hp13_0, hp13_z⟩
  · skip
    subst z_1
    have hP : va_P dd vwCl [kO y0 7 [vI n, .ref v0, .ref a0, vI sts, .ref r0, .ref f0, .ref g0, .ref d0, .ref t9, vI ty, vI 0], kI cI v0 21 mv, kI cI a0 126 mp] H := hP
    have hD : va_D A [kO y0 7 [vI n, .ref v0, .ref a0, vI sts, .ref r0, .ref f0, .ref g0, .ref d0, .ref t9, vI ty, vI 0], kI cI v0 21 mv, kI cI a0 126 mp] := hD
    refine z_if_ne (tgt := 25) hx hb dX7_addCar_16 (by decide) (by omega) (fun c16 => ?_) (fun c16 => ?_)
    · skip
      refine lv_aload_n hx hb dX7_addCar_25 rfl (lv_at hl 0 rfl) ?_
      refine va_get (D := dd) (ci := 7) (v := .ref v0) (C := RX7) (T := TX7) (N := 11) hx hb hts hi7 hown hK hP 0 rfl rfl 1 (by decide) (hts _ (List.mem_cons_of_mem _ (List.mem_append_left _ (List.mem_of_getElem? (i := 2) rfl)))) (fun _ h9 => h9) rfl dX7_addCar_26 ?_
      refine z_iconst hx hb dX7_addCar_29 ?_
      refine z_iald hx hb hK hP 1 0 rfl rfl (i := 0) (by omega) (by decide) dX7_addCar_30 ?_
      refine z_bipush hx hb dX7_addCar_31 (by decide +kernel) ?_
      refine z_icmp_ne (tgt := 42) hx hb dX7_addCar_33 (by decide) (by omega) (fun c33 => ?_) (fun c33 => ?_)
      · skip
        refine lv_aload_n hx hb dX7_addCar_42 rfl (lv_at hl 0 rfl) ?_
        refine g_callVv (own := RX7) (n := 0) (mc := 0) (ms := 0) (As := []) (rest := []) (wc := [kO y0 7 [vI n, .ref v0, .ref a0, vI sts, .ref r0, .ref f0, .ref g0, .ref d0, .ref t9, vI ty, vI 0], kI cI v0 21 mv, kI cI a0 126 mp]) (wr := []) hx hb hml hown hts hK hP hD hS hA [0, 1, 2] [] rfl rfl (by decide) (by decide) 7 0 rfl rfl (c_X7_act l dd cI cJ cC cS y0 v0 a0 r0 f0 g0 d0 t9 n sts ty 0 mv mp H.size  (by first | assumption | omega)) gX7_addCar_X7_act rfl (by decide +kernel) (by decide) (by decide) (by decide) (by decide) rfl hl.1 rfl (Nat.le_of_ble_eq_true rfl) dX7_addCar_43 (fun u_3 H locs hp43 hP hD hS => ?_)
        have hP : va_P dd vwCl [kO y0 7 [vI n, .ref v0, .ref a0, vI (acS sts), .ref r0, .ref f0, .ref g0, .ref d0, .ref t9, vI ty, vI 0], kI cI v0 21 mv, kI cI a0 126 (acP sts mp mv)] H := hP
        have hD : va_D A [kO y0 7 [vI n, .ref v0, .ref a0, vI (acS sts), .ref r0, .ref f0, .ref g0, .ref d0, .ref t9, vI ty, vI 0], kI cI v0 21 mv, kI cI a0 126 (acP sts mp mv)] := hD
        refine lv_aload_n hx hb dX7_addCar_46 rfl (lv_at hl 0 rfl) ?_
        refine va_get (D := dd) (ci := 7) (v := .ref v0) (C := RX7) (T := TX7) (N := 11) hx hb hts hi7 hown hK hP 0 rfl rfl 1 (by decide) (hts _ (List.mem_cons_of_mem _ (List.mem_append_left _ (List.mem_of_getElem? (i := 2) rfl)))) (fun _ h9 => h9) rfl dX7_addCar_47 ?_
        refine z_bipush hx hb dX7_addCar_50 (by decide +kernel) ?_
        refine lv_aload_n hx hb dX7_addCar_52 rfl (lv_at hl 0 rfl) ?_
        refine va_get (D := dd) (ci := 7) (v := .ref v0) (C := RX7) (T := TX7) (N := 11) hx hb hts hi7 hown hK hP 0 rfl rfl 1 (by decide) (hts _ (List.mem_cons_of_mem _ (List.mem_append_left _ (List.mem_of_getElem? (i := 2) rfl)))) (fun _ h9 => h9) rfl dX7_addCar_53 ?_
        refine z_iconst hx hb dX7_addCar_56 ?_
        refine z_iald hx hb hK hP 1 0 rfl rfl (i := 0) (by omega) (by decide) dX7_addCar_57 ?_
        refine z_iadd (z := (12 + (mv 0))) hx hb rfl dX7_addCar_58 ?_
        refine lv_iload_n hx hb dX7_addCar_59 rfl (lv_at hl 1 rfl) ?_
        refine z_iast (ws' := [kO y0 7 [vI n, .ref v0, .ref a0, vI (acS sts), .ref r0, .ref f0, .ref g0, .ref d0, .ref t9, vI ty, vI 0], kI cI v0 21 (uZ mv (12 + (mv 0)) a), kI cI a0 126 (acP sts mp mv)]) hx hb hK hP hD hS 1 0 rfl rfl (i := (12 + (mv 0))) (x := a) (by omega) (by decide) dX7_addCar_60 rfl (fun H locs hP hD hS => ?_)
        refine lv_aload_n hx hb dX7_addCar_61 rfl (lv_at hl 0 rfl) ?_
        refine va_get (D := dd) (ci := 7) (v := .ref v0) (C := RX7) (T := TX7) (N := 11) hx hb hts hi7 hown hK hP 0 rfl rfl 1 (by decide) (hts _ (List.mem_cons_of_mem _ (List.mem_append_left _ (List.mem_of_getElem? (i := 2) rfl)))) (fun _ h9 => h9) rfl dX7_addCar_62 ?_
        refine z_iconst hx hb dX7_addCar_65 ?_
        refine lv_dup2_11 hx hb dX7_addCar_66 rfl rfl ?_
        refine z_iald hx hb hK hP 1 0 rfl rfl (i := 0) (by omega) (by decide) dX7_addCar_67 ?_
        refine z_bin (va := .null) (vb := .null) (y := zI (mv 0)) (congrArg zI (uZ_ne (by omega))) ?_
        refine z_iconst hx hb dX7_addCar_68 ?_
        refine z_iadd (z := (mv 0 + 1)) hx hb rfl dX7_addCar_69 ?_
        refine z_iast (ws' := [kO y0 7 [vI n, .ref v0, .ref a0, vI (acS sts), .ref r0, .ref f0, .ref g0, .ref d0, .ref t9, vI ty, vI 0], kI cI v0 21 (uZ (uZ mv (12 + (mv 0)) a) 0 (mv 0 + 1)), kI cI a0 126 (acP sts mp mv)]) hx hb hK hP hD hS 1 0 rfl rfl (i := 0) (x := (mv 0 + 1)) (by omega) (by decide) dX7_addCar_70 rfl (fun H locs hP hD hS => ?_)
        refine lv_aload_n hx hb dX7_addCar_71 rfl (lv_at hl 0 rfl) ?_
        refine va_get (D := dd) (ci := 7) (v := .ref v0) (C := RX7) (T := TX7) (N := 11) hx hb hts hi7 hown hK hP 0 rfl rfl 1 (by decide) (hts _ (List.mem_cons_of_mem _ (List.mem_append_left _ (List.mem_of_getElem? (i := 2) rfl)))) (fun _ h9 => h9) rfl dX7_addCar_72 ?_
        refine z_iconst hx hb dX7_addCar_75 ?_
        refine z_iald hx hb hK hP 1 0 rfl rfl (i := 0) (by omega) (by decide) dX7_addCar_76 ?_
        refine z_bin (va := .null) (vb := .null) (y := zI (mv 0 + 1)) (congrArg zI (uZ_same _ _ _)) ?_
        refine z_iconst hx hb dX7_addCar_77 ?_
        refine z_isub (z := ((mv 0 + 1) - 1)) hx hb rfl dX7_addCar_78 ?_
        subst hQ
        refine z_iret (z := ((mv 0 + 1) - 1)) hx hb hr hlocks dX7_addCar_79 ((acS sts), 0, (uZ (uZ mv (12 + (mv 0)) a) 0 (mv 0 + 1)), (acP sts mp mv)) hK hS ⟨by omega, by omega⟩ hP hD ?_
        first | (exact Or.inl ⟨by omega, by omega, by first | rfl | omega, by first | rfl | omega, by first | rfl | omega, by first | rfl | omega, by first | rfl | omega⟩) | (exact Or.inr (Or.inl ⟨by omega, by first | rfl | omega, by first | rfl | omega, by first | rfl | omega, by first | rfl | omega, by first | rfl | omega⟩)) | (exact Or.inr (Or.inr (⟨by omega, by omega, by first | rfl | omega, by first | rfl | omega, by first | rfl | omega, by first | rfl | omega, by first | rfl | omega⟩)))
      · skip
        refine lv_aload_n hx hb dX7_addCar_36 rfl (lv_at hl 0 rfl) ?_
        refine z_iconst hx hb dX7_addCar_37 ?_
        refine g_callVi (own := RX7) (n := 1) (mc := 0) (ms := 0) (As := [vI 2]) (rest := []) (wc := [kO y0 7 [vI n, .ref v0, .ref a0, vI sts, .ref r0, .ref f0, .ref g0, .ref d0, .ref t9, vI ty, vI 0]]) (wr := [kI cI v0 21 mv, kI cI a0 126 mp]) hx hb hml hown hts hK hP hD hS hA [0] [1, 2] rfl rfl (by decide) (by decide) 7 0 rfl rfl (c_X7_fails l dd cI cJ cC cS y0 v0 a0 r0 f0 g0 d0 t9 n sts ty 0 2 H.size) gX7_addCar_X7_fails rfl (by decide +kernel) (by decide) (by decide) (by decide) (by decide) rfl hl.1 rfl (Nat.le_of_ble_eq_true rfl) dX7_addCar_38 (fun z_4 u_5 H locs hp38 hP hD hS => ?_)
        subst z_4
        have hP : va_P dd vwCl [kI cI v0 21 mv, kI cI a0 126 mp, kO y0 7 [vI n, .ref v0, .ref a0, vI sts, .ref r0, .ref f0, .ref g0, .ref d0, .ref t9, vI ty, vI 2]] H := hP
        have hD : va_D A [kI cI v0 21 mv, kI cI a0 126 mp, kO y0 7 [vI n, .ref v0, .ref a0, vI sts, .ref r0, .ref f0, .ref g0, .ref d0, .ref t9, vI ty, vI 2]] := hD
        subst hQ
        refine z_iret (z := 0) hx hb hr hlocks dX7_addCar_41 (sts, 2, mv, mp) hK hS ⟨by omega, by omega⟩ (hP.sub [2, 0, 1] rfl) (hD.sub [2, 0, 1] (by decide) rfl) ?_
        first | (exact Or.inl ⟨by omega, by omega, by first | rfl | omega, by first | rfl | omega, by first | rfl | omega, by first | rfl | omega, by first | rfl | omega⟩) | (exact Or.inr (Or.inl ⟨by omega, by first | rfl | omega, by first | rfl | omega, by first | rfl | omega, by first | rfl | omega, by first | rfl | omega⟩)) | (exact Or.inr (Or.inr (⟨by omega, by omega, by first | rfl | omega, by first | rfl | omega, by first | rfl | omega, by first | rfl | omega, by first | rfl | omega⟩)))
    · exact absurd c16 (by omega)
  · skip
    subst z_1
    have hP : va_P dd vwCl [kO y0 7 [vI n, .ref v0, .ref a0, vI sts, .ref r0, .ref f0, .ref g0, .ref d0, .ref t9, vI ty, vI 0], kI cI v0 21 mv, kI cI a0 126 mp] H := hP
    have hD : va_D A [kO y0 7 [vI n, .ref v0, .ref a0, vI sts, .ref r0, .ref f0, .ref g0, .ref d0, .ref t9, vI ty, vI 0], kI cI v0 21 mv, kI cI a0 126 mp] := hD
    refine z_if_ne (tgt := 25) hx hb dX7_addCar_16 (by decide) (by omega) (fun c16 => ?_) (fun c16 => ?_)
    · exact absurd c16 (by omega)
    · skip
      refine lv_aload_n hx hb dX7_addCar_19 rfl (lv_at hl 0 rfl) ?_
      refine z_iconst hx hb dX7_addCar_20 ?_
      refine g_callVi (own := RX7) (n := 1) (mc := 0) (ms := 0) (As := [vI 1]) (rest := []) (wc := [kO y0 7 [vI n, .ref v0, .ref a0, vI sts, .ref r0, .ref f0, .ref g0, .ref d0, .ref t9, vI ty, vI 0]]) (wr := [kI cI v0 21 mv, kI cI a0 126 mp]) hx hb hml hown hts hK hP hD hS hA [0] [1, 2] rfl rfl (by decide) (by decide) 7 0 rfl rfl (c_X7_fails l dd cI cJ cC cS y0 v0 a0 r0 f0 g0 d0 t9 n sts ty 0 1 H.size) gX7_addCar_X7_fails rfl (by decide +kernel) (by decide) (by decide) (by decide) (by decide) rfl hl.1 rfl (Nat.le_of_ble_eq_true rfl) dX7_addCar_21 (fun z_6 u_7 H locs hp21 hP hD hS => ?_)
      subst z_6
      have hP : va_P dd vwCl [kI cI v0 21 mv, kI cI a0 126 mp, kO y0 7 [vI n, .ref v0, .ref a0, vI sts, .ref r0, .ref f0, .ref g0, .ref d0, .ref t9, vI ty, vI 1]] H := hP
      have hD : va_D A [kI cI v0 21 mv, kI cI a0 126 mp, kO y0 7 [vI n, .ref v0, .ref a0, vI sts, .ref r0, .ref f0, .ref g0, .ref d0, .ref t9, vI ty, vI 1]] := hD
      subst hQ
      refine z_iret (z := 0) hx hb hr hlocks dX7_addCar_24 (sts, 1, mv, mp) hK hS ⟨by omega, by omega⟩ (hP.sub [2, 0, 1] rfl) (hD.sub [2, 0, 1] (by decide) rfl) ?_
      first | (exact Or.inl ⟨by omega, by omega, by first | rfl | omega, by first | rfl | omega, by first | rfl | omega, by first | rfl | omega, by first | rfl | omega⟩) | (exact Or.inr (Or.inl ⟨by omega, by first | rfl | omega, by first | rfl | omega, by first | rfl | omega, by first | rfl | omega, by first | rfl | omega⟩)) | (exact Or.inr (Or.inr (⟨by omega, by omega, by first | rfl | omega, by first | rfl | omega, by first | rfl | omega, by first | rfl | omega, by first | rfl | omega⟩)))

set_option maxHeartbeats 4000000 in
set_option maxRecDepth 100000 in
theorem c_X7_setPreference (l : Launch) (dd : va_G) (cI cJ cC cS : ClassId) (y0 v0 a0 r0 f0 g0 d0 t9 : Nat) (n sts ty th : Int) (mv : Int → Int) (mp : Int → Int) (a b : Int) (sz : Nat) (hst : 0 ≤ sts ∧ sts ≤ 6) (hn : 1 ≤ n ∧ n ≤ 8) (hc0 : 0 ≤ mv 0 ∧ mv 0 ≤ 9) (hc1 : 0 ≤ mv 1 ∧ mv 1 ≤ 3) (hc2 : 0 ≤ mv 2 ∧ mv 2 ≤ 8) (hcap : ∀ j : Int, 0 ≤ j → j < n → 0 ≤ mv (3 + j) ∧ mv (3 + j) ≤ 3) (hwi : ∀ j : Int, 0 ≤ j → j < mv 0 → 0 ≤ mv (12 + j) ∧ mv (12 + j) < n) (hga : rg a) (hgb : rg b) : gMi l yX7_setPreference wsX7_setPreference 4 0 0 dd cI cJ cC cS [.ref y0, vI a, vI b] [kO y0 7 [vI n, .ref v0, .ref a0, vI sts, .ref r0, .ref f0, .ref g0, .ref d0, .ref t9, vI ty, vI th], kI cI v0 21 mv, kI cI a0 126 mp] sz (fun (z : Int) (u : Int × Int × (Int → Int) × (Int → Int)) => ((0 ≤ a ∧ a < mv 0) ∧ (0 ≤ b ∧ b < n) ∧ z = mv (12 + a) ∧ u.1 = (acS sts) ∧ u.2.1 = 0 ∧ u.2.2.1 = (uZ mv (12 + a) b) ∧ u.2.2.2 = (acP sts mp mv)) ∨ ((¬ (0 ≤ a ∧ a < mv 0)) ∧ z = 0 ∧ u.1 = sts ∧ u.2.1 = 1 ∧ u.2.2.1 = mv ∧ u.2.2.2 = mp) ∨ ((0 ≤ a ∧ a < mv 0) ∧ (¬ (0 ≤ b ∧ b < n)) ∧ z = 0 ∧ u.1 = sts ∧ u.2.1 = 2 ∧ u.2.2.1 = mv ∧ u.2.2.2 = mp)) (fun (u : Int × Int × (Int → Int) × (Int → Int)) => [kO y0 7 [vI n, .ref v0, .ref a0, vI u.1, .ref r0, .ref f0, .ref g0, .ref d0, .ref t9, vI ty, vI u.2.1], kI cI v0 21 u.2.2.1, kI cI a0 126 u.2.2.2]) := by
  refine gMi_of (cc := cX7_setPreference) (maxL := 3) (ret := (some .int)) (by decide) rfl (Nat.le_of_ble_eq_true rfl) ?_
  intro p e s m args below meth c A Q hQ hx hb hr hts hown hlocks hnm hml H locs hP hK hD hA hS ls hl
  have hi7 : ∀ w ∈ wsX70, w ∈ wsX7_setPreference := fun _ h => (List.mem_cons_of_mem _ (List.mem_append_right _ h))
  have hl : lv_has ls 3 [(0, .ref y0), (1, vI a), (2, vI b)] := hl
  refine lv_aload_n hx hb dX7_setPreference_0 rfl (lv_at hl 0 rfl) ?_
  refine z_iconst hx hb dX7_setPreference_1 ?_
  refine va_put (D := dd) (ci := 7) (v := vI 0) (ty := .int) (C := RX7) (T := TX7) (N := 11) hx hb hts hi7 tyX7 tyX7_ok nmX7 hown hK hP hD hS 0 rfl rfl 10 (by decide) (hts _ (List.mem_cons_of_mem _ (List.mem_append_left _ (List.mem_append_left _ (List.mem_of_getElem? (i := 0) rfl))))) (fun _ h9 => h9) rfl (by decide +kernel) rfl rfl (Nat.le_of_ble_eq_true rfl) dX7_setPreference_2 (fun H locs hP hD hS => ?_)
  have hP : va_P dd vwCl [kO y0 7 [vI n, .ref v0, .ref a0, vI sts, .ref r0, .ref f0, .ref g0, .ref d0, .ref t9, vI ty, vI 0], kI cI v0 21 mv, kI cI a0 126 mp] H := hP
  have hD : va_D A [kO y0 7 [vI n, .ref v0, .ref a0, vI sts, .ref r0, .ref f0, .ref g0, .ref d0, .ref t9, vI ty, vI 0], kI cI v0 21 mv, kI cI a0 126 mp] := hD
  refine lv_aload_n hx hb dX7_setPreference_5 rfl (lv_at hl 0 rfl) ?_
  refine lv_iload_n hx hb dX7_setPreference_6 rfl (lv_at hl 1 rfl) ?_
  refine g_callVi (own := RX7) (n := 1) (mc := 0) (ms := 0) (As := [vI a]) (rest := []) (wc := [kO y0 7 [vI n, .ref v0, .ref a0, vI sts, .ref r0, .ref f0, .ref g0, .ref d0, .ref t9, vI ty, vI 0], kI cI v0 21 mv]) (wr := [kI cI a0 126 mp]) hx hb hml hown hts hK hP hD hS hA [0, 1] [2] rfl rfl (by decide) (by decide) 7 0 rfl rfl (c_X7_isCar l dd cI cJ cC cS y0 v0 a0 r0 f0 g0 d0 t9 n sts ty 0 mv a H.size  (by first | assumption | omega) (by first | assumption | omega)) gX7_setPreference_X7_isCar rfl (by decide +kernel) (by decide) (by decide) (by decide) (by decide) rfl hl.1 rfl (Nat.le_of_ble_eq_true rfl) dX7_setPreference_7 (fun z_1 u_2 H locs hp7 hP hD hS => ?_)
  rcases hp7 with ⟨hp7_0, hp7_1, hp7_z⟩ | ⟨hp7_0, hp7_z⟩
  · skip
    subst z_1
    have hP : va_P dd vwCl [kI cI a0 126 mp, kO y0 7 [vI n, .ref v0, .ref a0, vI sts, .ref r0, .ref f0, .ref g0, .ref d0, .ref t9, vI ty, vI 0], kI cI v0 21 mv] H := hP
    have hD : va_D A [kI cI a0 126 mp, kO y0 7 [vI n, .ref v0, .ref a0, vI sts, .ref r0, .ref f0, .ref g0, .ref d0, .ref t9, vI ty, vI 0], kI cI v0 21 mv] := hD
    refine z_if_ne (tgt := 19) hx hb dX7_setPreference_10 (by decide) (by omega) (fun c10 => ?_) (fun c10 => ?_)
    · skip
      refine lv_iload_n hx hb dX7_setPreference_19 rfl (lv_at hl 2 rfl) ?_
      refine z_iconst hx hb dX7_setPreference_20 ?_
      refine lv_aload_n hx hb dX7_setPreference_21 rfl (lv_at hl 0 rfl) ?_
      refine va_get (D := dd) (ci := 7) (v := vI n) (C := RX7) (T := TX7) (N := 11) hx hb hts hi7 hown hK hP 1 rfl rfl 0 (by decide) (hts _ (List.mem_cons_of_mem _ (List.mem_append_left _ (List.mem_append_left _ (List.mem_of_getElem? (i := 1) rfl))))) (fun _ h9 => h9) rfl dX7_setPreference_22 ?_
      refine z_iconst hx hb dX7_setPreference_25 ?_
      refine z_isub (z := (n - 1)) hx hb rfl dX7_setPreference_26 ?_
      refine g_callSi (own := RX7) (n := 3) (mc := 0) (ms := 0) (As := [vI b, vI 0, vI (n - 1)]) (rest := []) (wc := []) (wr := [kI cI a0 126 mp, kO y0 7 [vI n, .ref v0, .ref a0, vI sts, .ref r0, .ref f0, .ref g0, .ref d0, .ref t9, vI ty, vI 0], kI cI v0 21 mv]) hx hb hml hown hts hK hP hD hS hA [] [0, 1, 2] rfl rfl (by decide) (by decide) (c_X7_in l dd cI cJ cC cS b 0 (n - 1) H.size  (by first | assumption | omega) (by first | assumption | omega) (by first | assumption | omega)) gX7_setPreference_X7_in rfl (by decide +kernel) (by decide) (by decide) (by decide) (by decide) rfl hl.1 rfl (Nat.le_of_ble_eq_true rfl) dX7_setPreference_27 (fun z_3 u_4 H locs hp27 hP hD hS => ?_)
      rcases hp27 with ⟨hp27_0, hp27_1, hp27_z⟩ | ⟨hp27_0, hp27_z⟩
      · skip
        subst z_3
        have hP : va_P dd vwCl [kI cI a0 126 mp, kO y0 7 [vI n, .ref v0, .ref a0, vI sts, .ref r0, .ref f0, .ref g0, .ref d0, .ref t9, vI ty, vI 0], kI cI v0 21 mv] H := hP
        have hD : va_D A [kI cI a0 126 mp, kO y0 7 [vI n, .ref v0, .ref a0, vI sts, .ref r0, .ref f0, .ref g0, .ref d0, .ref t9, vI ty, vI 0], kI cI v0 21 mv] := hD
        refine z_if_eq (tgt := 45) hx hb dX7_setPreference_30 (by decide) (by omega) (fun c30 => ?_) (fun c30 => ?_)
        · exact absurd c30 (by omega)
        · skip
          refine lv_aload_n hx hb dX7_setPreference_33 rfl (lv_at hl 0 rfl) ?_
          refine z_bipush hx hb dX7_setPreference_34 (by decide +kernel) ?_
          refine lv_iload_n hx hb dX7_setPreference_36 rfl (lv_at hl 1 rfl) ?_
          refine z_iadd (z := (12 + a)) hx hb rfl dX7_setPreference_37 ?_
          refine lv_iload_n hx hb dX7_setPreference_38 rfl (lv_at hl 2 rfl) ?_
          refine g_callVi (own := RX7) (n := 2) (mc := 0) (ms := 0) (As := [vI (12 + a), vI b]) (rest := []) (wc := [kO y0 7 [vI n, .ref v0, .ref a0, vI sts, .ref r0, .ref f0, .ref g0, .ref d0, .ref t9, vI ty, vI 0], kI cI v0 21 mv, kI cI a0 126 mp]) (wr := []) hx hb hml hown hts hK hP hD hS hA [1, 2, 0] [] rfl rfl (by decide) (by decide) 7 0 rfl rfl (c_X7_sets l dd cI cJ cC cS y0 v0 a0 r0 f0 g0 d0 t9 n sts ty 0 mv mp (12 + a) b H.size  (by first | assumption | omega) (by first | assumption | omega)) gX7_setPreference_X7_sets rfl (by decide +kernel) (by decide) (by decide) (by decide) (by decide) rfl hl.1 rfl (Nat.le_of_ble_eq_true rfl) dX7_setPreference_39 (fun z_5 u_6 H locs hp39 hP hD hS => ?_)
          subst z_5
          have hP : va_P dd vwCl [kO y0 7 [vI n, .ref v0, .ref a0, vI (acS sts), .ref r0, .ref f0, .ref g0, .ref d0, .ref t9, vI ty, vI 0], kI cI v0 21 (uZ mv (12 + a) b), kI cI a0 126 (acP sts mp mv)] H := hP
          have hD : va_D A [kO y0 7 [vI n, .ref v0, .ref a0, vI (acS sts), .ref r0, .ref f0, .ref g0, .ref d0, .ref t9, vI ty, vI 0], kI cI v0 21 (uZ mv (12 + a) b), kI cI a0 126 (acP sts mp mv)] := hD
          refine lv_goto (tgt := 50) hx hb dX7_setPreference_42 (by decide) ?_
          subst hQ
          refine z_iret (z := mv (12 + a)) hx hb hr hlocks dX7_setPreference_50 ((acS sts), 0, (uZ mv (12 + a) b), (acP sts mp mv)) hK hS ⟨by omega, by omega⟩ hP hD ?_
          first | (exact Or.inl ⟨by omega, by omega, by first | rfl | omega, by first | rfl | omega, by first | rfl | omega, by first | rfl | omega, by first | rfl | omega⟩) | (exact Or.inr (Or.inl ⟨by omega, by first | rfl | omega, by first | rfl | omega, by first | rfl | omega, by first | rfl | omega, by first | rfl | omega⟩)) | (exact Or.inr (Or.inr (⟨by omega, by omega, by first | rfl | omega, by first | rfl | omega, by first | rfl | omega, by first | rfl | omega, by first | rfl | omega⟩)))
      · skip
        subst z_3
        have hP : va_P dd vwCl [kI cI a0 126 mp, kO y0 7 [vI n, .ref v0, .ref a0, vI sts, .ref r0, .ref f0, .ref g0, .ref d0, .ref t9, vI ty, vI 0], kI cI v0 21 mv] H := hP
        have hD : va_D A [kI cI a0 126 mp, kO y0 7 [vI n, .ref v0, .ref a0, vI sts, .ref r0, .ref f0, .ref g0, .ref d0, .ref t9, vI ty, vI 0], kI cI v0 21 mv] := hD
        refine z_if_eq (tgt := 45) hx hb dX7_setPreference_30 (by decide) (by omega) (fun c30 => ?_) (fun c30 => ?_)
        · skip
          refine lv_aload_n hx hb dX7_setPreference_45 rfl (lv_at hl 0 rfl) ?_
          refine z_iconst hx hb dX7_setPreference_46 ?_
          refine g_callVi (own := RX7) (n := 1) (mc := 0) (ms := 0) (As := [vI 2]) (rest := []) (wc := [kO y0 7 [vI n, .ref v0, .ref a0, vI sts, .ref r0, .ref f0, .ref g0, .ref d0, .ref t9, vI ty, vI 0]]) (wr := [kI cI a0 126 mp, kI cI v0 21 mv]) hx hb hml hown hts hK hP hD hS hA [1] [0, 2] rfl rfl (by decide) (by decide) 7 0 rfl rfl (c_X7_fails l dd cI cJ cC cS y0 v0 a0 r0 f0 g0 d0 t9 n sts ty 0 2 H.size) gX7_setPreference_X7_fails rfl (by decide +kernel) (by decide) (by decide) (by decide) (by decide) rfl hl.1 rfl (Nat.le_of_ble_eq_true rfl) dX7_setPreference_47 (fun z_7 u_8 H locs hp47 hP hD hS => ?_)
          subst z_7
          have hP : va_P dd vwCl [kI cI a0 126 mp, kI cI v0 21 mv, kO y0 7 [vI n, .ref v0, .ref a0, vI sts, .ref r0, .ref f0, .ref g0, .ref d0, .ref t9, vI ty, vI 2]] H := hP
          have hD : va_D A [kI cI a0 126 mp, kI cI v0 21 mv, kO y0 7 [vI n, .ref v0, .ref a0, vI sts, .ref r0, .ref f0, .ref g0, .ref d0, .ref t9, vI ty, vI 2]] := hD
          subst hQ
          refine z_iret (z := 0) hx hb hr hlocks dX7_setPreference_50 (sts, 2, mv, mp) hK hS ⟨by omega, by omega⟩ (hP.sub [2, 1, 0] rfl) (hD.sub [2, 1, 0] (by decide) rfl) ?_
          first | (exact Or.inl ⟨by omega, by omega, by first | rfl | omega, by first | rfl | omega, by first | rfl | omega, by first | rfl | omega, by first | rfl | omega⟩) | (exact Or.inr (Or.inl ⟨by omega, by first | rfl | omega, by first | rfl | omega, by first | rfl | omega, by first | rfl | omega, by first | rfl | omega⟩)) | (exact Or.inr (Or.inr (⟨by omega, by omega, by first | rfl | omega, by first | rfl | omega, by first | rfl | omega, by first | rfl | omega, by first | rfl | omega⟩)))
        · exact absurd c30 (by omega)
    · exact absurd c10 (by omega)
  · skip
    subst z_1
    have hP : va_P dd vwCl [kI cI a0 126 mp, kO y0 7 [vI n, .ref v0, .ref a0, vI sts, .ref r0, .ref f0, .ref g0, .ref d0, .ref t9, vI ty, vI 0], kI cI v0 21 mv] H := hP
    have hD : va_D A [kI cI a0 126 mp, kO y0 7 [vI n, .ref v0, .ref a0, vI sts, .ref r0, .ref f0, .ref g0, .ref d0, .ref t9, vI ty, vI 0], kI cI v0 21 mv] := hD
    refine z_if_ne (tgt := 19) hx hb dX7_setPreference_10 (by decide) (by omega) (fun c10 => ?_) (fun c10 => ?_)
    · exact absurd c10 (by omega)
    · skip
      refine lv_aload_n hx hb dX7_setPreference_13 rfl (lv_at hl 0 rfl) ?_
      refine z_iconst hx hb dX7_setPreference_14 ?_
      refine g_callVi (own := RX7) (n := 1) (mc := 0) (ms := 0) (As := [vI 1]) (rest := []) (wc := [kO y0 7 [vI n, .ref v0, .ref a0, vI sts, .ref r0, .ref f0, .ref g0, .ref d0, .ref t9, vI ty, vI 0]]) (wr := [kI cI a0 126 mp, kI cI v0 21 mv]) hx hb hml hown hts hK hP hD hS hA [1] [0, 2] rfl rfl (by decide) (by decide) 7 0 rfl rfl (c_X7_fails l dd cI cJ cC cS y0 v0 a0 r0 f0 g0 d0 t9 n sts ty 0 1 H.size) gX7_setPreference_X7_fails rfl (by decide +kernel) (by decide) (by decide) (by decide) (by decide) rfl hl.1 rfl (Nat.le_of_ble_eq_true rfl) dX7_setPreference_15 (fun z_9 u_10 H locs hp15 hP hD hS => ?_)
      subst z_9
      have hP : va_P dd vwCl [kI cI a0 126 mp, kI cI v0 21 mv, kO y0 7 [vI n, .ref v0, .ref a0, vI sts, .ref r0, .ref f0, .ref g0, .ref d0, .ref t9, vI ty, vI 1]] H := hP
      have hD : va_D A [kI cI a0 126 mp, kI cI v0 21 mv, kO y0 7 [vI n, .ref v0, .ref a0, vI sts, .ref r0, .ref f0, .ref g0, .ref d0, .ref t9, vI ty, vI 1]] := hD
      subst hQ
      refine z_iret (z := 0) hx hb hr hlocks dX7_setPreference_18 (sts, 1, mv, mp) hK hS ⟨by omega, by omega⟩ (hP.sub [2, 1, 0] rfl) (hD.sub [2, 1, 0] (by decide) rfl) ?_
      first | (exact Or.inl ⟨by omega, by omega, by first | rfl | omega, by first | rfl | omega, by first | rfl | omega, by first | rfl | omega, by first | rfl | omega⟩) | (exact Or.inr (Or.inl ⟨by omega, by first | rfl | omega, by first | rfl | omega, by first | rfl | omega, by first | rfl | omega, by first | rfl | omega⟩)) | (exact Or.inr (Or.inr (⟨by omega, by omega, by first | rfl | omega, by first | rfl | omega, by first | rfl | omega, by first | rfl | omega, by first | rfl | omega⟩)))

set_option maxHeartbeats 4000000 in
set_option maxRecDepth 100000 in
theorem c_X7_removeCar (l : Launch) (dd : va_G) (cI cJ cC cS : ClassId) (y0 v0 a0 r0 f0 g0 d0 t9 : Nat) (n sts ty th : Int) (mv : Int → Int) (mp : Int → Int) (sz : Nat) (hst : 0 ≤ sts ∧ sts ≤ 6) (hn : 1 ≤ n ∧ n ≤ 8) (hc0 : 0 ≤ mv 0 ∧ mv 0 ≤ 9) (hc1 : 0 ≤ mv 1 ∧ mv 1 ≤ 3) (hc2 : 0 ≤ mv 2 ∧ mv 2 ≤ 8) (hcap : ∀ j : Int, 0 ≤ j → j < n → 0 ≤ mv (3 + j) ∧ mv (3 + j) ≤ 3) (hwi : ∀ j : Int, 0 ≤ j → j < mv 0 → 0 ≤ mv (12 + j) ∧ mv (12 + j) < n) : gMi l yX7_removeCar wsX7_removeCar 4 0 0 dd cI cJ cC cS [.ref y0] [kO y0 7 [vI n, .ref v0, .ref a0, vI sts, .ref r0, .ref f0, .ref g0, .ref d0, .ref t9, vI ty, vI th], kI cI v0 21 mv, kI cI a0 126 mp] sz (fun (z : Int) (u : Int × Int × (Int → Int) × (Int → Int)) => ((0 < mv 0) ∧ z = mv 0 - 1 ∧ u.1 = (acS sts) ∧ u.2.1 = 0 ∧ u.2.2.1 = (uZ mv 0 (mv 0 - 1)) ∧ u.2.2.2 = (acP sts mp mv)) ∨ ((mv 0 = 0) ∧ z = 0 ∧ u.1 = sts ∧ u.2.1 = 1 ∧ u.2.2.1 = mv ∧ u.2.2.2 = mp)) (fun (u : Int × Int × (Int → Int) × (Int → Int)) => [kO y0 7 [vI n, .ref v0, .ref a0, vI u.1, .ref r0, .ref f0, .ref g0, .ref d0, .ref t9, vI ty, vI u.2.1], kI cI v0 21 u.2.2.1, kI cI a0 126 u.2.2.2]) := by
  refine gMi_of (cc := cX7_removeCar) (maxL := 1) (ret := (some .int)) (by decide) rfl (Nat.le_of_ble_eq_true rfl) ?_
  intro p e s m args below meth c A Q hQ hx hb hr hts hown hlocks hnm hml H locs hP hK hD hA hS ls hl
  have hi7 : ∀ w ∈ wsX70, w ∈ wsX7_removeCar := fun _ h => (List.mem_cons_of_mem _ (List.mem_append_right _ h))
  have hl : lv_has ls 1 [(0, .ref y0)] := hl
  refine lv_aload_n hx hb dX7_removeCar_0 rfl (lv_at hl 0 rfl) ?_
  refine z_iconst hx hb dX7_removeCar_1 ?_
  refine va_put (D := dd) (ci := 7) (v := vI 0) (ty := .int) (C := RX7) (T := TX7) (N := 11) hx hb hts hi7 tyX7 tyX7_ok nmX7 hown hK hP hD hS 0 rfl rfl 10 (by decide) (hts _ (List.mem_cons_of_mem _ (List.mem_append_left _ (List.mem_of_getElem? (i := 0) rfl)))) (fun _ h9 => h9) rfl (by decide +kernel) rfl rfl (Nat.le_of_ble_eq_true rfl) dX7_removeCar_2 (fun H locs hP hD hS => ?_)
  have hP : va_P dd vwCl [kO y0 7 [vI n, .ref v0, .ref a0, vI sts, .ref r0, .ref f0, .ref g0, .ref d0, .ref t9, vI ty, vI 0], kI cI v0 21 mv, kI cI a0 126 mp] H := hP
  have hD : va_D A [kO y0 7 [vI n, .ref v0, .ref a0, vI sts, .ref r0, .ref f0, .ref g0, .ref d0, .ref t9, vI ty, vI 0], kI cI v0 21 mv, kI cI a0 126 mp] := hD
  refine lv_aload_n hx hb dX7_removeCar_5 rfl (lv_at hl 0 rfl) ?_
  refine va_get (D := dd) (ci := 7) (v := .ref v0) (C := RX7) (T := TX7) (N := 11) hx hb hts hi7 hown hK hP 0 rfl rfl 1 (by decide) (hts _ (List.mem_cons_of_mem _ (List.mem_append_left _ (List.mem_of_getElem? (i := 1) rfl)))) (fun _ h9 => h9) rfl dX7_removeCar_6 ?_
  refine z_iconst hx hb dX7_removeCar_9 ?_
  refine z_iald hx hb hK hP 1 0 rfl rfl (i := 0) (by omega) (by decide) dX7_removeCar_10 ?_
  refine z_if_ne (tgt := 20) hx hb dX7_removeCar_11 (by decide) (by omega) (fun c11 => ?_) (fun c11 => ?_)
  · skip
    refine lv_aload_n hx hb dX7_removeCar_20 rfl (lv_at hl 0 rfl) ?_
    refine g_callVv (own := RX7) (n := 0) (mc := 0) (ms := 0) (As := []) (rest := []) (wc := [kO y0 7 [vI n, .ref v0, .ref a0, vI sts, .ref r0, .ref f0, .ref g0, .ref d0, .ref t9, vI ty, vI 0], kI cI v0 21 mv, kI cI a0 126 mp]) (wr := []) hx hb hml hown hts hK hP hD hS hA [0, 1, 2] [] rfl rfl (by decide) (by decide) 7 0 rfl rfl (c_X7_act l dd cI cJ cC cS y0 v0 a0 r0 f0 g0 d0 t9 n sts ty 0 mv mp H.size  (by first | assumption | omega)) gX7_removeCar_X7_act rfl (by decide +kernel) (by decide) (by decide) (by decide) (by decide) rfl hl.1 rfl (Nat.le_of_ble_eq_true rfl) dX7_removeCar_21 (fun u_1 H locs hp21 hP hD hS => ?_)
    have hP : va_P dd vwCl [kO y0 7 [vI n, .ref v0, .ref a0, vI (acS sts), .ref r0, .ref f0, .ref g0, .ref d0, .ref t9, vI ty, vI 0], kI cI v0 21 mv, kI cI a0 126 (acP sts mp mv)] H := hP
    have hD : va_D A [kO y0 7 [vI n, .ref v0, .ref a0, vI (acS sts), .ref r0, .ref f0, .ref g0, .ref d0, .ref t9, vI ty, vI 0], kI cI v0 21 mv, kI cI a0 126 (acP sts mp mv)] := hD
    refine lv_aload_n hx hb dX7_removeCar_24 rfl (lv_at hl 0 rfl) ?_
    refine va_get (D := dd) (ci := 7) (v := .ref v0) (C := RX7) (T := TX7) (N := 11) hx hb hts hi7 hown hK hP 0 rfl rfl 1 (by decide) (hts _ (List.mem_cons_of_mem _ (List.mem_append_left _ (List.mem_of_getElem? (i := 1) rfl)))) (fun _ h9 => h9) rfl dX7_removeCar_25 ?_
    refine z_iconst hx hb dX7_removeCar_28 ?_
    refine lv_dup2_11 hx hb dX7_removeCar_29 rfl rfl ?_
    refine z_iald hx hb hK hP 1 0 rfl rfl (i := 0) (by omega) (by decide) dX7_removeCar_30 ?_
    refine z_iconst hx hb dX7_removeCar_31 ?_
    refine z_isub (z := ((mv 0) - 1)) hx hb rfl dX7_removeCar_32 ?_
    refine z_iast (ws' := [kO y0 7 [vI n, .ref v0, .ref a0, vI (acS sts), .ref r0, .ref f0, .ref g0, .ref d0, .ref t9, vI ty, vI 0], kI cI v0 21 (uZ mv 0 ((mv 0) - 1)), kI cI a0 126 (acP sts mp mv)]) hx hb hK hP hD hS 1 0 rfl rfl (i := 0) (x := ((mv 0) - 1)) (by omega) (by decide) dX7_removeCar_33 rfl (fun H locs hP hD hS => ?_)
    refine lv_aload_n hx hb dX7_removeCar_34 rfl (lv_at hl 0 rfl) ?_
    refine va_get (D := dd) (ci := 7) (v := .ref v0) (C := RX7) (T := TX7) (N := 11) hx hb hts hi7 hown hK hP 0 rfl rfl 1 (by decide) (hts _ (List.mem_cons_of_mem _ (List.mem_append_left _ (List.mem_of_getElem? (i := 1) rfl)))) (fun _ h9 => h9) rfl dX7_removeCar_35 ?_
    refine z_iconst hx hb dX7_removeCar_38 ?_
    refine z_iald hx hb hK hP 1 0 rfl rfl (i := 0) (by omega) (by decide) dX7_removeCar_39 ?_
    subst hQ
    refine z_iret (z := ((uZ mv 0 ((mv 0) - 1)) 0)) hx hb hr hlocks dX7_removeCar_40 ((acS sts), 0, (uZ mv 0 ((mv 0) - 1)), (acP sts mp mv)) hK hS ⟨by omega, by omega⟩ hP hD ?_
    first | (exact Or.inl ⟨by omega, by first | rfl | omega, by first | rfl | omega, by first | rfl | omega, by first | rfl | omega, by first | rfl | omega⟩) | (exact Or.inr (⟨by omega, by first | rfl | omega, by first | rfl | omega, by first | rfl | omega, by first | rfl | omega, by first | rfl | omega⟩))
  · skip
    refine lv_aload_n hx hb dX7_removeCar_14 rfl (lv_at hl 0 rfl) ?_
    refine z_iconst hx hb dX7_removeCar_15 ?_
    refine g_callVi (own := RX7) (n := 1) (mc := 0) (ms := 0) (As := [vI 1]) (rest := []) (wc := [kO y0 7 [vI n, .ref v0, .ref a0, vI sts, .ref r0, .ref f0, .ref g0, .ref d0, .ref t9, vI ty, vI 0]]) (wr := [kI cI v0 21 mv, kI cI a0 126 mp]) hx hb hml hown hts hK hP hD hS hA [0] [1, 2] rfl rfl (by decide) (by decide) 7 0 rfl rfl (c_X7_fails l dd cI cJ cC cS y0 v0 a0 r0 f0 g0 d0 t9 n sts ty 0 1 H.size) gX7_removeCar_X7_fails rfl (by decide +kernel) (by decide) (by decide) (by decide) (by decide) rfl hl.1 rfl (Nat.le_of_ble_eq_true rfl) dX7_removeCar_16 (fun z_2 u_3 H locs hp16 hP hD hS => ?_)
    subst z_2
    have hP : va_P dd vwCl [kI cI v0 21 mv, kI cI a0 126 mp, kO y0 7 [vI n, .ref v0, .ref a0, vI sts, .ref r0, .ref f0, .ref g0, .ref d0, .ref t9, vI ty, vI 1]] H := hP
    have hD : va_D A [kI cI v0 21 mv, kI cI a0 126 mp, kO y0 7 [vI n, .ref v0, .ref a0, vI sts, .ref r0, .ref f0, .ref g0, .ref d0, .ref t9, vI ty, vI 1]] := hD
    subst hQ
    refine z_iret (z := 0) hx hb hr hlocks dX7_removeCar_19 (sts, 1, mv, mp) hK hS ⟨by omega, by omega⟩ (hP.sub [2, 0, 1] rfl) (hD.sub [2, 0, 1] (by decide) rfl) ?_
    first | (exact Or.inl ⟨by omega, by first | rfl | omega, by first | rfl | omega, by first | rfl | omega, by first | rfl | omega, by first | rfl | omega⟩) | (exact Or.inr (⟨by omega, by first | rfl | omega, by first | rfl | omega, by first | rfl | omega, by first | rfl | omega, by first | rfl | omega⟩))

set_option maxHeartbeats 4000000 in
set_option maxRecDepth 100000 in
theorem c_X7_preference (l : Launch) (dd : va_G) (cI cJ cC cS : ClassId) (y0 v0 a0 r0 f0 g0 d0 t9 : Nat) (n sts ty th : Int) (mv : Int → Int) (v : Int) (sz : Nat) (hn : 1 ≤ n ∧ n ≤ 8) (hc0 : 0 ≤ mv 0 ∧ mv 0 ≤ 9) (hc1 : 0 ≤ mv 1 ∧ mv 1 ≤ 3) (hc2 : 0 ≤ mv 2 ∧ mv 2 ≤ 8) (hcap : ∀ j : Int, 0 ≤ j → j < n → 0 ≤ mv (3 + j) ∧ mv (3 + j) ≤ 3) (hwi : ∀ j : Int, 0 ≤ j → j < mv 0 → 0 ≤ mv (12 + j) ∧ mv (12 + j) < n) (hgv : rg v) : gMi l yX7_preference wsX7_preference 4 0 0 dd cI cJ cC cS [.ref y0, vI v] [kO y0 7 [vI n, .ref v0, .ref a0, vI sts, .ref r0, .ref f0, .ref g0, .ref d0, .ref t9, vI ty, vI th], kI cI v0 21 mv] sz (fun (z : Int) (th1 : Int) => ((0 ≤ v ∧ v < mv 0) ∧ z = mv (12 + v) ∧ th1 = 0) ∨ ((¬ (0 ≤ v ∧ v < mv 0)) ∧ z = 0 ∧ th1 = 1)) (fun (th1 : Int) => [kO y0 7 [vI n, .ref v0, .ref a0, vI sts, .ref r0, .ref f0, .ref g0, .ref d0, .ref t9, vI ty, vI th1], kI cI v0 21 mv]) := by
  refine gMi_of (cc := cX7_preference) (maxL := 2) (ret := (some .int)) (by decide) rfl (Nat.le_of_ble_eq_true rfl) ?_
  intro p e s m args below meth c A Q hQ hx hb hr hts hown hlocks hnm hml H locs hP hK hD hA hS ls hl
  have hi7 : ∀ w ∈ wsX70, w ∈ wsX7_preference := fun _ h => (List.mem_cons_of_mem _ (List.mem_append_right _ h))
  have hl : lv_has ls 2 [(0, .ref y0), (1, vI v)] := hl
  refine lv_aload_n hx hb dX7_preference_0 rfl (lv_at hl 0 rfl) ?_
  refine z_iconst hx hb dX7_preference_1 ?_
  refine va_put (D := dd) (ci := 7) (v := vI 0) (ty := .int) (C := RX7) (T := TX7) (N := 11) hx hb hts hi7 tyX7 tyX7_ok nmX7 hown hK hP hD hS 0 rfl rfl 10 (by decide) (hts _ (List.mem_cons_of_mem _ (List.mem_append_left _ (List.mem_of_getElem? (i := 0) rfl)))) (fun _ h9 => h9) rfl (by decide +kernel) rfl rfl (Nat.le_of_ble_eq_true rfl) dX7_preference_2 (fun H locs hP hD hS => ?_)
  have hP : va_P dd vwCl [kO y0 7 [vI n, .ref v0, .ref a0, vI sts, .ref r0, .ref f0, .ref g0, .ref d0, .ref t9, vI ty, vI 0], kI cI v0 21 mv] H := hP
  have hD : va_D A [kO y0 7 [vI n, .ref v0, .ref a0, vI sts, .ref r0, .ref f0, .ref g0, .ref d0, .ref t9, vI ty, vI 0], kI cI v0 21 mv] := hD
  refine lv_aload_n hx hb dX7_preference_5 rfl (lv_at hl 0 rfl) ?_
  refine lv_iload_n hx hb dX7_preference_6 rfl (lv_at hl 1 rfl) ?_
  refine g_callVi (own := RX7) (n := 1) (mc := 0) (ms := 0) (As := [vI v]) (rest := []) (wc := [kO y0 7 [vI n, .ref v0, .ref a0, vI sts, .ref r0, .ref f0, .ref g0, .ref d0, .ref t9, vI ty, vI 0], kI cI v0 21 mv]) (wr := []) hx hb hml hown hts hK hP hD hS hA [0, 1] [] rfl rfl (by decide) (by decide) 7 0 rfl rfl (c_X7_isCar l dd cI cJ cC cS y0 v0 a0 r0 f0 g0 d0 t9 n sts ty 0 mv v H.size  (by first | assumption | omega) (by first | assumption | omega)) gX7_preference_X7_isCar rfl (by decide +kernel) (by decide) (by decide) (by decide) (by decide) rfl hl.1 rfl (Nat.le_of_ble_eq_true rfl) dX7_preference_7 (fun z_1 u_2 H locs hp7 hP hD hS => ?_)
  rcases hp7 with ⟨hp7_0, hp7_1, hp7_z⟩ | ⟨hp7_0, hp7_z⟩
  · skip
    subst z_1
    have hP : va_P dd vwCl [kO y0 7 [vI n, .ref v0, .ref a0, vI sts, .ref r0, .ref f0, .ref g0, .ref d0, .ref t9, vI ty, vI 0], kI cI v0 21 mv] H := hP
    have hD : va_D A [kO y0 7 [vI n, .ref v0, .ref a0, vI sts, .ref r0, .ref f0, .ref g0, .ref d0, .ref t9, vI ty, vI 0], kI cI v0 21 mv] := hD
    refine z_if_eq (tgt := 25) hx hb dX7_preference_10 (by decide) (by omega) (fun c10 => ?_) (fun c10 => ?_)
    · exact absurd c10 (by omega)
    · skip
      refine lv_aload_n hx hb dX7_preference_13 rfl (lv_at hl 0 rfl) ?_
      refine va_get (D := dd) (ci := 7) (v := .ref v0) (C := RX7) (T := TX7) (N := 11) hx hb hts hi7 hown hK hP 0 rfl rfl 1 (by decide) (hts _ (List.mem_cons_of_mem _ (List.mem_append_left _ (List.mem_of_getElem? (i := 1) rfl)))) (fun _ h9 => h9) rfl dX7_preference_14 ?_
      refine z_bipush hx hb dX7_preference_17 (by decide +kernel) ?_
      refine lv_iload_n hx hb dX7_preference_19 rfl (lv_at hl 1 rfl) ?_
      refine z_iadd (z := (12 + v)) hx hb rfl dX7_preference_20 ?_
      refine z_iald hx hb hK hP 1 0 rfl rfl (i := (12 + v)) (by omega) (by decide) dX7_preference_21 ?_
      refine lv_goto (tgt := 30) hx hb dX7_preference_22 (by decide) ?_
      subst hQ
      refine z_iret (z := (mv (12 + v))) hx hb hr hlocks dX7_preference_30 0 hK hS ⟨by omega, by omega⟩ hP hD ?_
      first | (exact Or.inl ⟨by omega, by first | rfl | omega, by first | rfl | omega⟩) | (exact Or.inr (⟨by omega, by first | rfl | omega, by first | rfl | omega⟩))
  · skip
    subst z_1
    have hP : va_P dd vwCl [kO y0 7 [vI n, .ref v0, .ref a0, vI sts, .ref r0, .ref f0, .ref g0, .ref d0, .ref t9, vI ty, vI 0], kI cI v0 21 mv] H := hP
    have hD : va_D A [kO y0 7 [vI n, .ref v0, .ref a0, vI sts, .ref r0, .ref f0, .ref g0, .ref d0, .ref t9, vI ty, vI 0], kI cI v0 21 mv] := hD
    refine z_if_eq (tgt := 25) hx hb dX7_preference_10 (by decide) (by omega) (fun c10 => ?_) (fun c10 => ?_)
    · skip
      refine lv_aload_n hx hb dX7_preference_25 rfl (lv_at hl 0 rfl) ?_
      refine z_iconst hx hb dX7_preference_26 ?_
      refine g_callVi (own := RX7) (n := 1) (mc := 0) (ms := 0) (As := [vI 1]) (rest := []) (wc := [kO y0 7 [vI n, .ref v0, .ref a0, vI sts, .ref r0, .ref f0, .ref g0, .ref d0, .ref t9, vI ty, vI 0]]) (wr := [kI cI v0 21 mv]) hx hb hml hown hts hK hP hD hS hA [0] [1] rfl rfl (by decide) (by decide) 7 0 rfl rfl (c_X7_fails l dd cI cJ cC cS y0 v0 a0 r0 f0 g0 d0 t9 n sts ty 0 1 H.size) gX7_preference_X7_fails rfl (by decide +kernel) (by decide) (by decide) (by decide) (by decide) rfl hl.1 rfl (Nat.le_of_ble_eq_true rfl) dX7_preference_27 (fun z_3 u_4 H locs hp27 hP hD hS => ?_)
      subst z_3
      have hP : va_P dd vwCl [kI cI v0 21 mv, kO y0 7 [vI n, .ref v0, .ref a0, vI sts, .ref r0, .ref f0, .ref g0, .ref d0, .ref t9, vI ty, vI 1]] H := hP
      have hD : va_D A [kI cI v0 21 mv, kO y0 7 [vI n, .ref v0, .ref a0, vI sts, .ref r0, .ref f0, .ref g0, .ref d0, .ref t9, vI ty, vI 1]] := hD
      subst hQ
      refine z_iret (z := 0) hx hb hr hlocks dX7_preference_30 1 hK hS ⟨by omega, by omega⟩ (hP.sub [1, 0] rfl) (hD.sub [1, 0] (by decide) rfl) ?_
      first | (exact Or.inl ⟨by omega, by first | rfl | omega, by first | rfl | omega⟩) | (exact Or.inr (⟨by omega, by first | rfl | omega, by first | rfl | omega⟩))
    · exact absurd c10 (by omega)

