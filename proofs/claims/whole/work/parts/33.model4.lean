/-! the model: lists tried -/
def wv (mv : Int → Int) : Int → Int := fun j => mv (12 + j)
def udZ (mp : Int → Int) (sts : Int) : Int → Int := fun k => mp (21 * sts + k)

set_option maxHeartbeats 4000000 in
set_option maxRecDepth 100000 in
theorem c_X7_lays (l : Launch) (dd : va_G) (cI cJ cC cS : ClassId) (y0 v0 a0 r0 f0 g0 d0 t9 : Nat) (n sts ty th : Int) (mv : Int → Int) (mr : Int → Int) (q : Int) (sz : Nat) (hq : 0 ≤ q ∧ q ≤ 9) : gMv l yX7_lays wsX7_lays 1 0 0 dd cI cJ cC cS [.ref y0, vI q] [kO y0 7 [vI n, .ref v0, .ref a0, vI sts, .ref r0, .ref f0, .ref g0, .ref d0, .ref t9, vI ty, vI th], kI cI v0 21 mv, kI cI r0 9 mr] sz (fun (_ : Unit) => True) (fun (_ : Unit) => [kO y0 7 [vI n, .ref v0, .ref a0, vI sts, .ref r0, .ref f0, .ref g0, .ref d0, .ref t9, vI ty, vI th], kI cI v0 21 (wrP (uZ mv 0 q) mr 12 q), kI cI r0 9 mr]) := by
  refine gMv_of (cc := cX7_lays) (maxL := 3) (ret := none) (by decide) rfl (Nat.le_of_ble_eq_true rfl) ?_
  intro p e s m args below meth c A Q hQ hx hb hr hts hown hlocks hnm hml H locs hP hK hD hA hS ls hl
  have hi7 : ∀ w ∈ wsX70, w ∈ wsX7_lays := fun _ h => (List.mem_cons_of_mem _ (List.mem_append_right _ h))
  have hl : lv_has ls 3 [(0, .ref y0), (1, vI q)] := hl
  refine lv_aload_n hx hb dX7_lays_0 rfl (lv_at hl 0 rfl) ?_
  refine va_get (D := dd) (ci := 7) (v := .ref v0) (C := RX7) (T := TX7) (N := 11) hx hb hts hi7 hown hK hP 0 rfl rfl 1 (by decide) (hts _ (List.mem_cons_of_mem _ (List.mem_append_left _ (List.mem_of_getElem? (i := 0) rfl)))) (fun _ h9 => h9) rfl dX7_lays_1 ?_
  refine z_iconst hx hb dX7_lays_4 ?_
  refine lv_iload_n hx hb dX7_lays_5 rfl (lv_at hl 1 rfl) ?_
  refine z_iast (ws' := [kO y0 7 [vI n, .ref v0, .ref a0, vI sts, .ref r0, .ref f0, .ref g0, .ref d0, .ref t9, vI ty, vI th], kI cI v0 21 (uZ mv 0 q), kI cI r0 9 mr]) hx hb hK hP hD hS 1 0 rfl rfl (i := 0) (x := q) (by omega) (by decide) dX7_lays_6 rfl (fun H locs hP hD hS => ?_)
  refine z_iconst hx hb dX7_lays_7 ?_
  refine lv_istore_n (lv' := [(2, vI 0), (0, .ref y0), (1, vI q)]) hx hb dX7_lays_8 rfl hl (by decide) rfl (fun ls hl => ?_)
  have L9 : ∀ (nn : Nat) (i : Int) (H : Heap) (locs : List Loc) (ls : Array Slot), ((q + 1 - i).toNat) = nn → (0 ≤ i ∧ i ≤ q) → va_P dd vwCl [kO y0 7 [vI n, .ref v0, .ref a0, vI sts, .ref r0, .ref f0, .ref g0, .ref d0, .ref t9, vI ty, vI th], kI cI v0 21 (wrP (uZ mv 0 q) mr 12 i), kI cI r0 9 mr] H → va_D A [kO y0 7 [vI n, .ref v0, .ref a0, vI sts, .ref r0, .ref f0, .ref g0, .ref d0, .ref t9, vI ty, vI th], kI cI v0 21 (wrP (uZ mv 0 q) mr 12 i), kI cI r0 9 mr] → va_S A s.heap H locs → lv_has ls 3 [(2, vI i), (0, .ref y0), (1, vI q)] → W p l e (gR 1 0 0) s m args below meth c H locs 0 0 Q (F0 m 9 ls []) := by
    intro nn
    induction nn using Nat.strongRecOn with
    | ind nn L9i =>
    intro i H locs ls hmeas hi hP hD hS hl
    refine lv_iload_n hx hb dX7_lays_9 rfl (lv_at hl 0 rfl) ?_
    refine lv_iload_n hx hb dX7_lays_10 rfl (lv_at hl 2 rfl) ?_
    refine z_icmp_ge (tgt := 35) hx hb dX7_lays_11 (by decide) (by omega) (fun c11 => ?_) (fun c11 => ?_)
    · skip
      have ec_1 : kI cI v0 21 (wrP (uZ mv 0 q) mr 12 i) = kI cI v0 21 (wrP (uZ mv 0 q) mr 12 q) := kI_congr (by rw [show i = q by omega])
      rw [ec_1] at hP hD
      subst hQ
      refine z_vret hx hb hr hlocks dX7_lays_35 () hK hS ⟨by omega, by omega⟩ hP hD ?_
      first | rfl | trivial | omega
    · skip
      refine lv_aload_n hx hb dX7_lays_14 rfl (lv_at hl 1 rfl) ?_
      refine va_get (D := dd) (ci := 7) (v := .ref v0) (C := RX7) (T := TX7) (N := 11) hx hb hts hi7 hown hK hP 0 rfl rfl 1 (by decide) (hts _ (List.mem_cons_of_mem _ (List.mem_append_left _ (List.mem_of_getElem? (i := 0) rfl)))) (fun _ h9 => h9) rfl dX7_lays_15 ?_
      refine z_bipush hx hb dX7_lays_18 (by decide +kernel) ?_
      refine lv_iload_n hx hb dX7_lays_20 rfl (lv_at hl 0 rfl) ?_
      refine z_iadd (z := (12 + i)) hx hb rfl dX7_lays_21 ?_
      refine lv_aload_n hx hb dX7_lays_22 rfl (lv_at hl 1 rfl) ?_
      refine va_get (D := dd) (ci := 7) (v := .ref r0) (C := RX7) (T := TX7) (N := 11) hx hb hts hi7 hown hK hP 0 rfl rfl 4 (by decide) (hts _ (List.mem_cons_of_mem _ (List.mem_append_left _ (List.mem_of_getElem? (i := 1) rfl)))) (fun _ h9 => h9) rfl dX7_lays_23 ?_
      refine lv_iload_n hx hb dX7_lays_26 rfl (lv_at hl 0 rfl) ?_
      refine z_iald hx hb hK hP 2 0 rfl rfl (i := i) (by omega) (by decide) dX7_lays_27 ?_
      refine z_iast (ws' := [kO y0 7 [vI n, .ref v0, .ref a0, vI sts, .ref r0, .ref f0, .ref g0, .ref d0, .ref t9, vI ty, vI th], kI cI v0 21 (uZ (wrP (uZ mv 0 q) mr 12 i) (12 + i) (mr i)), kI cI r0 9 mr]) hx hb hK hP hD hS 1 0 rfl rfl (i := (12 + i)) (x := (mr i)) (by omega) (by decide) dX7_lays_28 rfl (fun H locs hP hD hS => ?_)
      refine z_iinc (a := i) (z := (i + 1)) (lv' := [(2, vI (i + 1)), (0, .ref y0), (1, vI q)]) hx hb dX7_lays_29 hl (k := 0) rfl rfl (by decide) rfl (fun ls hl => ?_)
      refine lv_goto (tgt := 9) hx hb dX7_lays_32 (by decide) ?_
      have el_2 : kI cI v0 21 (uZ (wrP (uZ mv 0 q) mr 12 i) (12 + i) (mr i)) = kI cI v0 21 (wrP (uZ mv 0 q) mr 12 (i + 1)) := kI_congr (congrArg aZ (wrP_s (by omega)))
      rw [el_2] at hP hD
      exact L9i _ (by omega) (i + 1) H locs ls rfl (by omega) hP hD hS hl
  have el_3 : kI cI v0 21 (uZ mv 0 q) = kI cI v0 21 (wrP (uZ mv 0 q) mr 12 0) := kI_congr (congrArg aZ (wrP_0 _ _ _))
  rw [el_3] at hP hD
  exact L9 _ 0 H locs ls rfl (by omega) hP hD hS hl

set_option maxHeartbeats 4000000 in
set_option maxRecDepth 100000 in
theorem c_X7_takes (l : Launch) (dd : va_G) (cI cJ cC cS : ClassId) (y0 v0 a0 r0 f0 g0 d0 t9 : Nat) (n sts ty th : Int) (mv : Int → Int) (mr : Int → Int) (sz : Nat) (hc0 : 0 ≤ mv 0 ∧ mv 0 ≤ 9) : gMv l yX7_takes wsX7_takes 1 0 0 dd cI cJ cC cS [.ref y0] [kO y0 7 [vI n, .ref v0, .ref a0, vI sts, .ref r0, .ref f0, .ref g0, .ref d0, .ref t9, vI ty, vI th], kI cI v0 21 mv, kI cI r0 9 mr] sz (fun (_ : Unit) => True) (fun (_ : Unit) => [kO y0 7 [vI n, .ref v0, .ref a0, vI sts, .ref r0, .ref f0, .ref g0, .ref d0, .ref t9, vI ty, vI th], kI cI v0 21 mv, kI cI r0 9 (cpZ (wv mv) mr (mv 0))]) := by
  refine gMv_of (cc := cX7_takes) (maxL := 2) (ret := none) (by decide) rfl (Nat.le_of_ble_eq_true rfl) ?_
  intro p e s m args below meth c A Q hQ hx hb hr hts hown hlocks hnm hml H locs hP hK hD hA hS ls hl
  have hi7 : ∀ w ∈ wsX70, w ∈ wsX7_takes := fun _ h => (List.mem_cons_of_mem _ (List.mem_append_right _ h))
  have hl : lv_has ls 2 [(0, .ref y0)] := hl
  refine z_iconst hx hb dX7_takes_0 ?_
  refine lv_istore_n (lv' := [(1, vI 0), (0, .ref y0)]) hx hb dX7_takes_1 rfl hl (by decide) rfl (fun ls hl => ?_)
  have L2 : ∀ (nn : Nat) (i : Int) (H : Heap) (locs : List Loc) (ls : Array Slot), ((mv 0 + 1 - i).toNat) = nn → (0 ≤ i ∧ i ≤ mv 0) → va_P dd vwCl [kO y0 7 [vI n, .ref v0, .ref a0, vI sts, .ref r0, .ref f0, .ref g0, .ref d0, .ref t9, vI ty, vI th], kI cI v0 21 mv, kI cI r0 9 (cpZ (wv mv) mr i)] H → va_D A [kO y0 7 [vI n, .ref v0, .ref a0, vI sts, .ref r0, .ref f0, .ref g0, .ref d0, .ref t9, vI ty, vI th], kI cI v0 21 mv, kI cI r0 9 (cpZ (wv mv) mr i)] → va_S A s.heap H locs → lv_has ls 2 [(1, vI i), (0, .ref y0)] → W p l e (gR 1 0 0) s m args below meth c H locs 0 0 Q (F0 m 2 ls []) := by
    intro nn
    induction nn using Nat.strongRecOn with
    | ind nn L2i =>
    intro i H locs ls hmeas hi hP hD hS hl
    refine lv_iload_n hx hb dX7_takes_2 rfl (lv_at hl 0 rfl) ?_
    refine lv_aload_n hx hb dX7_takes_3 rfl (lv_at hl 1 rfl) ?_
    refine va_get (D := dd) (ci := 7) (v := .ref v0) (C := RX7) (T := TX7) (N := 11) hx hb hts hi7 hown hK hP 0 rfl rfl 1 (by decide) (hts _ (List.mem_cons_of_mem _ (List.mem_append_left _ (List.mem_of_getElem? (i := 0) rfl)))) (fun _ h9 => h9) rfl dX7_takes_4 ?_
    refine z_iconst hx hb dX7_takes_7 ?_
    refine z_iald hx hb hK hP 1 0 rfl rfl (i := 0) (by omega) (by decide) dX7_takes_8 ?_
    refine z_icmp_ge (tgt := 33) hx hb dX7_takes_9 (by decide) (by omega) (fun c9 => ?_) (fun c9 => ?_)
    · skip
      have ec_1 : kI cI r0 9 (cpZ (wv mv) mr i) = kI cI r0 9 (cpZ (wv mv) mr (mv 0)) := kI_congr (by rw [show i = mv 0 by omega])
      rw [ec_1] at hP hD
      subst hQ
      refine z_vret hx hb hr hlocks dX7_takes_33 () hK hS ⟨by omega, by omega⟩ hP hD ?_
      first | rfl | trivial | omega
    · skip
      refine lv_aload_n hx hb dX7_takes_12 rfl (lv_at hl 1 rfl) ?_
      refine va_get (D := dd) (ci := 7) (v := .ref r0) (C := RX7) (T := TX7) (N := 11) hx hb hts hi7 hown hK hP 0 rfl rfl 4 (by decide) (hts _ (List.mem_cons_of_mem _ (List.mem_append_left _ (List.mem_of_getElem? (i := 1) rfl)))) (fun _ h9 => h9) rfl dX7_takes_13 ?_
      refine lv_iload_n hx hb dX7_takes_16 rfl (lv_at hl 0 rfl) ?_
      refine lv_aload_n hx hb dX7_takes_17 rfl (lv_at hl 1 rfl) ?_
      refine va_get (D := dd) (ci := 7) (v := .ref v0) (C := RX7) (T := TX7) (N := 11) hx hb hts hi7 hown hK hP 0 rfl rfl 1 (by decide) (hts _ (List.mem_cons_of_mem _ (List.mem_append_left _ (List.mem_of_getElem? (i := 0) rfl)))) (fun _ h9 => h9) rfl dX7_takes_18 ?_
      refine z_bipush hx hb dX7_takes_21 (by decide +kernel) ?_
      refine lv_iload_n hx hb dX7_takes_23 rfl (lv_at hl 0 rfl) ?_
      refine z_iadd (z := (12 + i)) hx hb rfl dX7_takes_24 ?_
      refine z_iald hx hb hK hP 1 0 rfl rfl (i := (12 + i)) (by omega) (by decide) dX7_takes_25 ?_
      refine z_iast (ws' := [kO y0 7 [vI n, .ref v0, .ref a0, vI sts, .ref r0, .ref f0, .ref g0, .ref d0, .ref t9, vI ty, vI th], kI cI v0 21 mv, kI cI r0 9 (uZ (cpZ (wv mv) mr i) i (mv (12 + i)))]) hx hb hK hP hD hS 2 0 rfl rfl (i := i) (x := (mv (12 + i))) (by omega) (by decide) dX7_takes_26 rfl (fun H locs hP hD hS => ?_)
      refine z_iinc (a := i) (z := (i + 1)) (lv' := [(1, vI (i + 1)), (0, .ref y0)]) hx hb dX7_takes_27 hl (k := 0) rfl rfl (by decide) rfl (fun ls hl => ?_)
      refine lv_goto (tgt := 2) hx hb dX7_takes_30 (by decide) ?_
      have el_2 : kI cI r0 9 (uZ (cpZ (wv mv) mr i) i (mv (12 + i))) = kI cI r0 9 (cpZ (wv mv) mr (i + 1)) := kI_congr (congrArg aZ (cpZ_s (wv mv) mr i))
      rw [el_2] at hP hD
      exact L2i _ (by omega) (i + 1) H locs ls rfl (by omega) hP hD hS hl
  have el_3 : kI cI r0 9 mr = kI cI r0 9 (cpZ (wv mv) mr 0) := kI_congr ((aZ_cp0 (wv mv) mr).symm)
  rw [el_3] at hP hD
  exact L2 _ 0 H locs ls rfl (by omega) hP hD hS hl

set_option maxHeartbeats 4000000 in
set_option maxRecDepth 100000 in
theorem c_X7_swaps (l : Launch) (dd : va_G) (cI cJ cC cS : ClassId) (y0 v0 a0 r0 f0 g0 d0 t9 : Nat) (n sts ty th : Int) (mr : Int → Int) (a b : Int) (sz : Nat) (ha : 0 ≤ a ∧ a < 9) (hbb : 0 ≤ b ∧ b < 9) : gMv l yX7_swaps wsX7_swaps 1 0 0 dd cI cJ cC cS [.ref y0, vI a, vI b] [kO y0 7 [vI n, .ref v0, .ref a0, vI sts, .ref r0, .ref f0, .ref g0, .ref d0, .ref t9, vI ty, vI th], kI cI r0 9 mr] sz (fun (_ : Unit) => True) (fun (_ : Unit) => [kO y0 7 [vI n, .ref v0, .ref a0, vI sts, .ref r0, .ref f0, .ref g0, .ref d0, .ref t9, vI ty, vI th], kI cI r0 9 (swZ mr a b)]) := by
  refine gMv_of (cc := cX7_swaps) (maxL := 4) (ret := none) (by decide) rfl (Nat.le_of_ble_eq_true rfl) ?_
  intro p e s m args below meth c A Q hQ hx hb hr hts hown hlocks hnm hml H locs hP hK hD hA hS ls hl
  have hi7 : ∀ w ∈ wsX70, w ∈ wsX7_swaps := fun _ h => (List.mem_cons_of_mem _ (List.mem_append_right _ h))
  have hl : lv_has ls 4 [(0, .ref y0), (1, vI a), (2, vI b)] := hl
  refine lv_aload_n hx hb dX7_swaps_0 rfl (lv_at hl 0 rfl) ?_
  refine va_get (D := dd) (ci := 7) (v := .ref r0) (C := RX7) (T := TX7) (N := 11) hx hb hts hi7 hown hK hP 0 rfl rfl 4 (by decide) (hts _ (List.mem_cons_of_mem _ (List.mem_append_left _ (List.mem_of_getElem? (i := 0) rfl)))) (fun _ h9 => h9) rfl dX7_swaps_1 ?_
  refine lv_iload_n hx hb dX7_swaps_4 rfl (lv_at hl 1 rfl) ?_
  refine z_iald hx hb hK hP 1 0 rfl rfl (i := a) (by omega) (by decide) dX7_swaps_5 ?_
  refine lv_istore_n (lv' := [(3, vI (mr a)), (0, .ref y0), (1, vI a), (2, vI b)]) hx hb dX7_swaps_6 rfl hl (by decide) rfl (fun ls hl => ?_)
  refine lv_aload_n hx hb dX7_swaps_7 rfl (lv_at hl 1 rfl) ?_
  refine va_get (D := dd) (ci := 7) (v := .ref r0) (C := RX7) (T := TX7) (N := 11) hx hb hts hi7 hown hK hP 0 rfl rfl 4 (by decide) (hts _ (List.mem_cons_of_mem _ (List.mem_append_left _ (List.mem_of_getElem? (i := 0) rfl)))) (fun _ h9 => h9) rfl dX7_swaps_8 ?_
  refine lv_iload_n hx hb dX7_swaps_11 rfl (lv_at hl 2 rfl) ?_
  refine lv_aload_n hx hb dX7_swaps_12 rfl (lv_at hl 1 rfl) ?_
  refine va_get (D := dd) (ci := 7) (v := .ref r0) (C := RX7) (T := TX7) (N := 11) hx hb hts hi7 hown hK hP 0 rfl rfl 4 (by decide) (hts _ (List.mem_cons_of_mem _ (List.mem_append_left _ (List.mem_of_getElem? (i := 0) rfl)))) (fun _ h9 => h9) rfl dX7_swaps_13 ?_
  refine lv_iload_n hx hb dX7_swaps_16 rfl (lv_at hl 3 rfl) ?_
  refine z_iald hx hb hK hP 1 0 rfl rfl (i := b) (by omega) (by decide) dX7_swaps_17 ?_
  refine z_iast (ws' := [kO y0 7 [vI n, .ref v0, .ref a0, vI sts, .ref r0, .ref f0, .ref g0, .ref d0, .ref t9, vI ty, vI th], kI cI r0 9 (uZ mr a (mr b))]) hx hb hK hP hD hS 1 0 rfl rfl (i := a) (x := (mr b)) (by omega) (by decide) dX7_swaps_18 rfl (fun H locs hP hD hS => ?_)
  refine lv_aload_n hx hb dX7_swaps_19 rfl (lv_at hl 1 rfl) ?_
  refine va_get (D := dd) (ci := 7) (v := .ref r0) (C := RX7) (T := TX7) (N := 11) hx hb hts hi7 hown hK hP 0 rfl rfl 4 (by decide) (hts _ (List.mem_cons_of_mem _ (List.mem_append_left _ (List.mem_of_getElem? (i := 0) rfl)))) (fun _ h9 => h9) rfl dX7_swaps_20 ?_
  refine lv_iload_n hx hb dX7_swaps_23 rfl (lv_at hl 3 rfl) ?_
  refine lv_iload_n hx hb dX7_swaps_24 rfl (lv_at hl 0 rfl) ?_
  refine z_iast (ws' := [kO y0 7 [vI n, .ref v0, .ref a0, vI sts, .ref r0, .ref f0, .ref g0, .ref d0, .ref t9, vI ty, vI th], kI cI r0 9 (uZ (uZ mr a (mr b)) b (mr a))]) hx hb hK hP hD hS 1 0 rfl rfl (i := b) (x := (mr a)) (by omega) (by decide) dX7_swaps_25 rfl (fun H locs hP hD hS => ?_)
  have ec_1 : kI cI r0 9 (uZ (uZ mr a (mr b)) b (mr a)) = kI cI r0 9 (swZ mr a b) := kI_congr (rfl)
  rw [ec_1] at hP hD
  subst hQ
  refine z_vret hx hb hr hlocks dX7_swaps_26 () hK hS ⟨by omega, by omega⟩ hP hD ?_
  first | rfl | trivial | omega

set_option maxHeartbeats 4000000 in
set_option maxRecDepth 100000 in
theorem c_X7_undo (l : Launch) (dd : va_G) (cI cJ cC cS : ClassId) (y0 v0 a0 r0 f0 g0 d0 t9 : Nat) (n sts ty th : Int) (mv : Int → Int) (mp : Int → Int) (sz : Nat) (hst : 0 ≤ sts ∧ sts ≤ 6) : gMi l yX7_undo wsX7_undo 2 0 0 dd cI cJ cC cS [.ref y0] [kO y0 7 [vI n, .ref v0, .ref a0, vI sts, .ref r0, .ref f0, .ref g0, .ref d0, .ref t9, vI ty, vI th], kI cI v0 21 mv, kI cI a0 126 mp] sz (fun (z : Int) (u : Int × Int × (Int → Int)) => ((0 < sts) ∧ z = sts - 1 ∧ u.1 = (sts - 1) ∧ u.2.1 = 0 ∧ u.2.2 = (cpZ (udZ mp (sts - 1)) mv 21)) ∨ ((sts = 0) ∧ z = 0 ∧ u.1 = sts ∧ u.2.1 = 1 ∧ u.2.2 = mv)) (fun (u : Int × Int × (Int → Int)) => [kO y0 7 [vI n, .ref v0, .ref a0, vI u.1, .ref r0, .ref f0, .ref g0, .ref d0, .ref t9, vI ty, vI u.2.1], kI cI v0 21 u.2.2, kI cI a0 126 mp]) := by
  refine gMi_of (cc := cX7_undo) (maxL := 2) (ret := (some .int)) (by decide) rfl (Nat.le_of_ble_eq_true rfl) ?_
  intro p e s m args below meth c A Q hQ hx hb hr hts hown hlocks hnm hml H locs hP hK hD hA hS ls hl
  have hi7 : ∀ w ∈ wsX70, w ∈ wsX7_undo := fun _ h => (List.mem_cons_of_mem _ (List.mem_append_right _ h))
  have hl : lv_has ls 2 [(0, .ref y0)] := hl
  refine lv_aload_n hx hb dX7_undo_0 rfl (lv_at hl 0 rfl) ?_
  refine z_iconst hx hb dX7_undo_1 ?_
  refine va_put (D := dd) (ci := 7) (v := vI 0) (ty := .int) (C := RX7) (T := TX7) (N := 11) hx hb hts hi7 tyX7 tyX7_ok nmX7 hown hK hP hD hS 0 rfl rfl 10 (by decide) (hts _ (List.mem_cons_of_mem _ (List.mem_append_left _ (List.mem_of_getElem? (i := 0) rfl)))) (fun _ h9 => h9) rfl (by decide +kernel) rfl rfl (Nat.le_of_ble_eq_true rfl) dX7_undo_2 (fun H locs hP hD hS => ?_)
  have hP : va_P dd vwCl [kO y0 7 [vI n, .ref v0, .ref a0, vI sts, .ref r0, .ref f0, .ref g0, .ref d0, .ref t9, vI ty, vI 0], kI cI v0 21 mv, kI cI a0 126 mp] H := hP
  have hD : va_D A [kO y0 7 [vI n, .ref v0, .ref a0, vI sts, .ref r0, .ref f0, .ref g0, .ref d0, .ref t9, vI ty, vI 0], kI cI v0 21 mv, kI cI a0 126 mp] := hD
  refine lv_aload_n hx hb dX7_undo_5 rfl (lv_at hl 0 rfl) ?_
  refine va_get (D := dd) (ci := 7) (v := vI sts) (C := RX7) (T := TX7) (N := 11) hx hb hts hi7 hown hK hP 0 rfl rfl 3 (by decide) (hts _ (List.mem_cons_of_mem _ (List.mem_append_left _ (List.mem_of_getElem? (i := 1) rfl)))) (fun _ h9 => h9) rfl dX7_undo_6 ?_
  refine z_if_ne (tgt := 18) hx hb dX7_undo_9 (by decide) (by omega) (fun c9 => ?_) (fun c9 => ?_)
  · skip
    refine lv_aload_n hx hb dX7_undo_18 rfl (lv_at hl 0 rfl) ?_
    refine lv_dup hx hb dX7_undo_19 rfl ?_
    refine va_get (D := dd) (ci := 7) (v := vI sts) (C := RX7) (T := TX7) (N := 11) hx hb hts hi7 hown hK hP 0 rfl rfl 3 (by decide) (hts _ (List.mem_cons_of_mem _ (List.mem_append_left _ (List.mem_of_getElem? (i := 1) rfl)))) (fun _ h9 => h9) rfl dX7_undo_20 ?_
    refine z_iconst hx hb dX7_undo_23 ?_
    refine z_isub (z := (sts - 1)) hx hb rfl dX7_undo_24 ?_
    refine va_put (D := dd) (ci := 7) (v := vI (sts - 1)) (ty := .int) (C := RX7) (T := TX7) (N := 11) hx hb hts hi7 tyX7 tyX7_ok nmX7 hown hK hP hD hS 0 rfl rfl 3 (by decide) (hts _ (List.mem_cons_of_mem _ (List.mem_append_left _ (List.mem_of_getElem? (i := 1) rfl)))) (fun _ h9 => h9) rfl (by decide +kernel) rfl rfl (Nat.le_of_ble_eq_true rfl) dX7_undo_25 (fun H locs hP hD hS => ?_)
    have hP : va_P dd vwCl [kO y0 7 [vI n, .ref v0, .ref a0, vI (sts - 1), .ref r0, .ref f0, .ref g0, .ref d0, .ref t9, vI ty, vI 0], kI cI v0 21 mv, kI cI a0 126 mp] H := hP
    have hD : va_D A [kO y0 7 [vI n, .ref v0, .ref a0, vI (sts - 1), .ref r0, .ref f0, .ref g0, .ref d0, .ref t9, vI ty, vI 0], kI cI v0 21 mv, kI cI a0 126 mp] := hD
    refine z_iconst hx hb dX7_undo_28 ?_
    refine lv_istore_n (lv' := [(1, vI 0), (0, .ref y0)]) hx hb dX7_undo_29 rfl hl (by decide) rfl (fun ls hl => ?_)
    have L30 : ∀ (nn : Nat) (i : Int) (H : Heap) (locs : List Loc) (ls : Array Slot), ((22 - i).toNat) = nn → (0 ≤ i ∧ i ≤ 21) → va_P dd vwCl [kO y0 7 [vI n, .ref v0, .ref a0, vI (sts - 1), .ref r0, .ref f0, .ref g0, .ref d0, .ref t9, vI ty, vI 0], kI cI v0 21 (cpZ (udZ mp (sts - 1)) mv i), kI cI a0 126 mp] H → va_D A [kO y0 7 [vI n, .ref v0, .ref a0, vI (sts - 1), .ref r0, .ref f0, .ref g0, .ref d0, .ref t9, vI ty, vI 0], kI cI v0 21 (cpZ (udZ mp (sts - 1)) mv i), kI cI a0 126 mp] → va_S A s.heap H locs → lv_has ls 2 [(1, vI i), (0, .ref y0)] → W p l e (gR 2 0 0) s m args below meth c H locs 0 0 Q (F0 m 30 ls []) := by
      intro nn
      induction nn using Nat.strongRecOn with
      | ind nn L30i =>
      intro i H locs ls hmeas hi hP hD hS hl
      refine lv_iload_n hx hb dX7_undo_30 rfl (lv_at hl 0 rfl) ?_
      refine z_bipush hx hb dX7_undo_31 (by decide +kernel) ?_
      refine z_icmp_ge (tgt := 62) hx hb dX7_undo_33 (by decide) (by omega) (fun c33 => ?_) (fun c33 => ?_)
      · skip
        refine lv_aload_n hx hb dX7_undo_62 rfl (lv_at hl 1 rfl) ?_
        refine va_get (D := dd) (ci := 7) (v := vI (sts - 1)) (C := RX7) (T := TX7) (N := 11) hx hb hts hi7 hown hK hP 0 rfl rfl 3 (by decide) (hts _ (List.mem_cons_of_mem _ (List.mem_append_left _ (List.mem_of_getElem? (i := 1) rfl)))) (fun _ h9 => h9) rfl dX7_undo_63 ?_
        subst hQ
        refine z_iret (z := (sts - 1)) hx hb hr hlocks dX7_undo_66 ((sts - 1), 0, (cpZ (udZ mp (sts - 1)) mv i)) hK hS ⟨by omega, by omega⟩ hP hD ?_
        have h21 : i = 21 := by omega
        exact Or.inl ⟨by omega, rfl, rfl, rfl, by dsimp only; rw [h21]⟩
      · skip
        refine lv_aload_n hx hb dX7_undo_36 rfl (lv_at hl 1 rfl) ?_
        refine va_get (D := dd) (ci := 7) (v := .ref v0) (C := RX7) (T := TX7) (N := 11) hx hb hts hi7 hown hK hP 0 rfl rfl 1 (by decide) (hts _ (List.mem_cons_of_mem _ (List.mem_append_left _ (List.mem_of_getElem? (i := 2) rfl)))) (fun _ h9 => h9) rfl dX7_undo_37 ?_
        refine lv_iload_n hx hb dX7_undo_40 rfl (lv_at hl 0 rfl) ?_
        refine lv_aload_n hx hb dX7_undo_41 rfl (lv_at hl 1 rfl) ?_
        refine va_get (D := dd) (ci := 7) (v := .ref a0) (C := RX7) (T := TX7) (N := 11) hx hb hts hi7 hown hK hP 0 rfl rfl 2 (by decide) (hts _ (List.mem_cons_of_mem _ (List.mem_append_left _ (List.mem_of_getElem? (i := 3) rfl)))) (fun _ h9 => h9) rfl dX7_undo_42 ?_
        refine z_bipush hx hb dX7_undo_45 (by decide +kernel) ?_
        refine lv_aload_n hx hb dX7_undo_47 rfl (lv_at hl 1 rfl) ?_
        refine va_get (D := dd) (ci := 7) (v := vI (sts - 1)) (C := RX7) (T := TX7) (N := 11) hx hb hts hi7 hown hK hP 0 rfl rfl 3 (by decide) (hts _ (List.mem_cons_of_mem _ (List.mem_append_left _ (List.mem_of_getElem? (i := 1) rfl)))) (fun _ h9 => h9) rfl dX7_undo_48 ?_
        refine z_imul (z := (21 * (sts - 1))) hx hb rfl dX7_undo_51 ?_
        refine lv_iload_n hx hb dX7_undo_52 rfl (lv_at hl 0 rfl) ?_
        refine z_iadd (z := ((21 * (sts - 1)) + i)) hx hb rfl dX7_undo_53 ?_
        refine z_iald hx hb hK hP 2 0 rfl rfl (i := ((21 * (sts - 1)) + i)) (by omega) (by decide) dX7_undo_54 ?_
        refine z_iast (ws' := [kO y0 7 [vI n, .ref v0, .ref a0, vI (sts - 1), .ref r0, .ref f0, .ref g0, .ref d0, .ref t9, vI ty, vI 0], kI cI v0 21 (uZ (cpZ (udZ mp (sts - 1)) mv i) i (mp ((21 * (sts - 1)) + i))), kI cI a0 126 mp]) hx hb hK hP hD hS 1 0 rfl rfl (i := i) (x := (mp ((21 * (sts - 1)) + i))) (by omega) (by decide) dX7_undo_55 rfl (fun H locs hP hD hS => ?_)
        refine z_iinc (a := i) (z := (i + 1)) (lv' := [(1, vI (i + 1)), (0, .ref y0)]) hx hb dX7_undo_56 hl (k := 0) rfl rfl (by decide) rfl (fun ls hl => ?_)
        refine lv_goto (tgt := 30) hx hb dX7_undo_59 (by decide) ?_
        have el_1 : kI cI v0 21 (uZ (cpZ (udZ mp (sts - 1)) mv i) i (mp ((21 * (sts - 1)) + i))) = kI cI v0 21 (cpZ (udZ mp (sts - 1)) mv (i + 1)) := kI_congr (congrArg aZ (cpZ_s (udZ mp (sts - 1)) mv i))
        rw [el_1] at hP hD
        exact L30i _ (by omega) (i + 1) H locs ls rfl (by omega) hP hD hS hl
    have el_2 : kI cI v0 21 mv = kI cI v0 21 (cpZ (udZ mp (sts - 1)) mv 0) := kI_congr ((aZ_cp0 (udZ mp (sts - 1)) mv).symm)
    rw [el_2] at hP hD
    exact L30 _ 0 H locs ls rfl (by omega) hP hD hS hl
  · skip
    refine lv_aload_n hx hb dX7_undo_12 rfl (lv_at hl 0 rfl) ?_
    refine z_iconst hx hb dX7_undo_13 ?_
    refine g_callVi (own := RX7) (n := 1) (mc := 0) (ms := 0) (As := [vI 1]) (rest := []) (wc := [kO y0 7 [vI n, .ref v0, .ref a0, vI sts, .ref r0, .ref f0, .ref g0, .ref d0, .ref t9, vI ty, vI 0]]) (wr := [kI cI v0 21 mv, kI cI a0 126 mp]) hx hb hml hown hts hK hP hD hS hA [0] [1, 2] rfl rfl (by decide) (by decide) 7 0 rfl rfl (c_X7_fails l dd cI cJ cC cS y0 v0 a0 r0 f0 g0 d0 t9 n sts ty 0 1 H.size) gX7_undo_X7_fails rfl (by decide +kernel) (by decide) (by decide) (by decide) (by decide) rfl hl.1 rfl (Nat.le_of_ble_eq_true rfl) dX7_undo_14 (fun z_3 u_4 H locs hp14 hP hD hS => ?_)
    subst z_3
    have hP : va_P dd vwCl [kI cI v0 21 mv, kI cI a0 126 mp, kO y0 7 [vI n, .ref v0, .ref a0, vI sts, .ref r0, .ref f0, .ref g0, .ref d0, .ref t9, vI ty, vI 1]] H := hP
    have hD : va_D A [kI cI v0 21 mv, kI cI a0 126 mp, kO y0 7 [vI n, .ref v0, .ref a0, vI sts, .ref r0, .ref f0, .ref g0, .ref d0, .ref t9, vI ty, vI 1]] := hD
    subst hQ
    refine z_iret (z := 0) hx hb hr hlocks dX7_undo_17 (sts, 1, mv) hK hS ⟨by omega, by omega⟩ (hP.sub [2, 0, 1] rfl) (hD.sub [2, 0, 1] (by decide) rfl) ?_
    first | (exact Or.inl ⟨by omega, by first | rfl | omega, by first | rfl | omega, by first | rfl | omega, by first | rfl | omega⟩) | (exact Or.inr (⟨by omega, by first | rfl | omega, by first | rfl | omega, by first | rfl | omega, by first | rfl | omega⟩))

set_option maxHeartbeats 4000000 in
set_option maxRecDepth 100000 in
theorem c_X7_type (l : Launch) (dd : va_G) (cI cJ cC cS : ClassId) (y0 v0 a0 r0 f0 g0 d0 t9 : Nat) (n sts ty th : Int) (mt : Int → Int) (v : Int) (sz : Nat) (hty : 0 ≤ ty ∧ ty ≤ 40) (hgv : rg v) : gMi l yX7_type wsX7_type 2 0 0 dd cI cJ cC cS [.ref y0, vI v] [kO y0 7 [vI n, .ref v0, .ref a0, vI sts, .ref r0, .ref f0, .ref g0, .ref d0, .ref t9, vI ty, vI th], kI cI t9 40 mt] sz (fun (z : Int) (u : Int × Int × (Int → Int)) => ((32 ≤ v ∧ v ≤ 126) ∧ (ty < 40) ∧ z = ty + 1 ∧ u.1 = (ty + 1) ∧ u.2.1 = 0 ∧ u.2.2 = (uZ mt ty v)) ∨ ((¬ (32 ≤ v ∧ v ≤ 126)) ∧ z = 0 ∧ u.1 = ty ∧ u.2.1 = 1 ∧ u.2.2 = mt) ∨ ((32 ≤ v ∧ v ≤ 126) ∧ (ty = 40) ∧ z = 0 ∧ u.1 = ty ∧ u.2.1 = 2 ∧ u.2.2 = mt)) (fun (u : Int × Int × (Int → Int)) => [kO y0 7 [vI n, .ref v0, .ref a0, vI sts, .ref r0, .ref f0, .ref g0, .ref d0, .ref t9, vI u.1, vI u.2.1], kI cI t9 40 u.2.2]) := by
  refine gMi_of (cc := cX7_type) (maxL := 2) (ret := (some .int)) (by decide) rfl (Nat.le_of_ble_eq_true rfl) ?_
  intro p e s m args below meth c A Q hQ hx hb hr hts hown hlocks hnm hml H locs hP hK hD hA hS ls hl
  have hi7 : ∀ w ∈ wsX70, w ∈ wsX7_type := fun _ h => (List.mem_cons_of_mem _ (List.mem_append_right _ h))
  have hl : lv_has ls 2 [(0, .ref y0), (1, vI v)] := hl
  refine lv_aload_n hx hb dX7_type_0 rfl (lv_at hl 0 rfl) ?_
  refine z_iconst hx hb dX7_type_1 ?_
  refine va_put (D := dd) (ci := 7) (v := vI 0) (ty := .int) (C := RX7) (T := TX7) (N := 11) hx hb hts hi7 tyX7 tyX7_ok nmX7 hown hK hP hD hS 0 rfl rfl 10 (by decide) (hts _ (List.mem_cons_of_mem _ (List.mem_append_left _ (List.mem_of_getElem? (i := 0) rfl)))) (fun _ h9 => h9) rfl (by decide +kernel) rfl rfl (Nat.le_of_ble_eq_true rfl) dX7_type_2 (fun H locs hP hD hS => ?_)
  have hP : va_P dd vwCl [kO y0 7 [vI n, .ref v0, .ref a0, vI sts, .ref r0, .ref f0, .ref g0, .ref d0, .ref t9, vI ty, vI 0], kI cI t9 40 mt] H := hP
  have hD : va_D A [kO y0 7 [vI n, .ref v0, .ref a0, vI sts, .ref r0, .ref f0, .ref g0, .ref d0, .ref t9, vI ty, vI 0], kI cI t9 40 mt] := hD
  refine lv_iload_n hx hb dX7_type_5 rfl (lv_at hl 1 rfl) ?_
  refine z_bipush hx hb dX7_type_6 (by decide +kernel) ?_
  refine z_bipush hx hb dX7_type_8 (by decide +kernel) ?_
  refine g_callSi (own := RX7) (n := 3) (mc := 0) (ms := 0) (As := [vI v, vI 32, vI 126]) (rest := []) (wc := []) (wr := [kO y0 7 [vI n, .ref v0, .ref a0, vI sts, .ref r0, .ref f0, .ref g0, .ref d0, .ref t9, vI ty, vI 0], kI cI t9 40 mt]) hx hb hml hown hts hK hP hD hS hA [] [0, 1] rfl rfl (by decide) (by decide) (c_X7_in l dd cI cJ cC cS v 32 126 H.size  (by first | assumption | omega) (by first | assumption | omega) (by first | assumption | omega)) gX7_type_X7_in rfl (by decide +kernel) (by decide) (by decide) (by decide) (by decide) rfl hl.1 rfl (Nat.le_of_ble_eq_true rfl) dX7_type_10 (fun z_1 u_2 H locs hp10 hP hD hS => ?_)
  rcases hp10 with ⟨hp10_0, hp10_1, hp10_z⟩ | ⟨hp10_0, hp10_z⟩
  · skip
    subst z_1
    have hP : va_P dd vwCl [kO y0 7 [vI n, .ref v0, .ref a0, vI sts, .ref r0, .ref f0, .ref g0, .ref d0, .ref t9, vI ty, vI 0], kI cI t9 40 mt] H := hP
    have hD : va_D A [kO y0 7 [vI n, .ref v0, .ref a0, vI sts, .ref r0, .ref f0, .ref g0, .ref d0, .ref t9, vI ty, vI 0], kI cI t9 40 mt] := hD
    refine z_if_ne (tgt := 22) hx hb dX7_type_13 (by decide) (by omega) (fun c13 => ?_) (fun c13 => ?_)
    · skip
      refine lv_aload_n hx hb dX7_type_22 rfl (lv_at hl 0 rfl) ?_
      refine va_get (D := dd) (ci := 7) (v := vI ty) (C := RX7) (T := TX7) (N := 11) hx hb hts hi7 hown hK hP 0 rfl rfl 9 (by decide) (hts _ (List.mem_cons_of_mem _ (List.mem_append_left _ (List.mem_of_getElem? (i := 1) rfl)))) (fun _ h9 => h9) rfl dX7_type_23 ?_
      refine z_bipush hx hb dX7_type_26 (by decide +kernel) ?_
      refine z_icmp_ne (tgt := 37) hx hb dX7_type_28 (by decide) (by omega) (fun c28 => ?_) (fun c28 => ?_)
      · skip
        refine lv_aload_n hx hb dX7_type_37 rfl (lv_at hl 0 rfl) ?_
        refine va_get (D := dd) (ci := 7) (v := .ref t9) (C := RX7) (T := TX7) (N := 11) hx hb hts hi7 hown hK hP 0 rfl rfl 8 (by decide) (hts _ (List.mem_cons_of_mem _ (List.mem_append_left _ (List.mem_of_getElem? (i := 2) rfl)))) (fun _ h9 => h9) rfl dX7_type_38 ?_
        refine lv_aload_n hx hb dX7_type_41 rfl (lv_at hl 0 rfl) ?_
        refine va_get (D := dd) (ci := 7) (v := vI ty) (C := RX7) (T := TX7) (N := 11) hx hb hts hi7 hown hK hP 0 rfl rfl 9 (by decide) (hts _ (List.mem_cons_of_mem _ (List.mem_append_left _ (List.mem_of_getElem? (i := 1) rfl)))) (fun _ h9 => h9) rfl dX7_type_42 ?_
        refine lv_iload_n hx hb dX7_type_45 rfl (lv_at hl 1 rfl) ?_
        refine z_iast (ws' := [kO y0 7 [vI n, .ref v0, .ref a0, vI sts, .ref r0, .ref f0, .ref g0, .ref d0, .ref t9, vI ty, vI 0], kI cI t9 40 (uZ mt ty v)]) hx hb hK hP hD hS 1 0 rfl rfl (i := ty) (x := v) (by omega) (by decide) dX7_type_46 rfl (fun H locs hP hD hS => ?_)
        refine lv_aload_n hx hb dX7_type_47 rfl (lv_at hl 0 rfl) ?_
        refine lv_dup hx hb dX7_type_48 rfl ?_
        refine va_get (D := dd) (ci := 7) (v := vI ty) (C := RX7) (T := TX7) (N := 11) hx hb hts hi7 hown hK hP 0 rfl rfl 9 (by decide) (hts _ (List.mem_cons_of_mem _ (List.mem_append_left _ (List.mem_of_getElem? (i := 1) rfl)))) (fun _ h9 => h9) rfl dX7_type_49 ?_
        refine z_iconst hx hb dX7_type_52 ?_
        refine z_iadd (z := (ty + 1)) hx hb rfl dX7_type_53 ?_
        refine va_put (D := dd) (ci := 7) (v := vI (ty + 1)) (ty := .int) (C := RX7) (T := TX7) (N := 11) hx hb hts hi7 tyX7 tyX7_ok nmX7 hown hK hP hD hS 0 rfl rfl 9 (by decide) (hts _ (List.mem_cons_of_mem _ (List.mem_append_left _ (List.mem_of_getElem? (i := 1) rfl)))) (fun _ h9 => h9) rfl (by decide +kernel) rfl rfl (Nat.le_of_ble_eq_true rfl) dX7_type_54 (fun H locs hP hD hS => ?_)
        have hP : va_P dd vwCl [kO y0 7 [vI n, .ref v0, .ref a0, vI sts, .ref r0, .ref f0, .ref g0, .ref d0, .ref t9, vI (ty + 1), vI 0], kI cI t9 40 (uZ mt ty v)] H := hP
        have hD : va_D A [kO y0 7 [vI n, .ref v0, .ref a0, vI sts, .ref r0, .ref f0, .ref g0, .ref d0, .ref t9, vI (ty + 1), vI 0], kI cI t9 40 (uZ mt ty v)] := hD
        refine lv_aload_n hx hb dX7_type_57 rfl (lv_at hl 0 rfl) ?_
        refine va_get (D := dd) (ci := 7) (v := vI (ty + 1)) (C := RX7) (T := TX7) (N := 11) hx hb hts hi7 hown hK hP 0 rfl rfl 9 (by decide) (hts _ (List.mem_cons_of_mem _ (List.mem_append_left _ (List.mem_of_getElem? (i := 1) rfl)))) (fun _ h9 => h9) rfl dX7_type_58 ?_
        subst hQ
        refine z_iret (z := (ty + 1)) hx hb hr hlocks dX7_type_61 ((ty + 1), 0, (uZ mt ty v)) hK hS ⟨by omega, by omega⟩ hP hD ?_
        first | (exact Or.inl ⟨by omega, by omega, by first | rfl | omega, by first | rfl | omega, by first | rfl | omega, by first | rfl | omega⟩) | (exact Or.inr (Or.inl ⟨by omega, by first | rfl | omega, by first | rfl | omega, by first | rfl | omega, by first | rfl | omega⟩)) | (exact Or.inr (Or.inr (⟨by omega, by omega, by first | rfl | omega, by first | rfl | omega, by first | rfl | omega, by first | rfl | omega⟩)))
      · skip
        refine lv_aload_n hx hb dX7_type_31 rfl (lv_at hl 0 rfl) ?_
        refine z_iconst hx hb dX7_type_32 ?_
        refine g_callVi (own := RX7) (n := 1) (mc := 0) (ms := 0) (As := [vI 2]) (rest := []) (wc := [kO y0 7 [vI n, .ref v0, .ref a0, vI sts, .ref r0, .ref f0, .ref g0, .ref d0, .ref t9, vI ty, vI 0]]) (wr := [kI cI t9 40 mt]) hx hb hml hown hts hK hP hD hS hA [0] [1] rfl rfl (by decide) (by decide) 7 0 rfl rfl (c_X7_fails l dd cI cJ cC cS y0 v0 a0 r0 f0 g0 d0 t9 n sts ty 0 2 H.size) gX7_type_X7_fails rfl (by decide +kernel) (by decide) (by decide) (by decide) (by decide) rfl hl.1 rfl (Nat.le_of_ble_eq_true rfl) dX7_type_33 (fun z_3 u_4 H locs hp33 hP hD hS => ?_)
        subst z_3
        have hP : va_P dd vwCl [kI cI t9 40 mt, kO y0 7 [vI n, .ref v0, .ref a0, vI sts, .ref r0, .ref f0, .ref g0, .ref d0, .ref t9, vI ty, vI 2]] H := hP
        have hD : va_D A [kI cI t9 40 mt, kO y0 7 [vI n, .ref v0, .ref a0, vI sts, .ref r0, .ref f0, .ref g0, .ref d0, .ref t9, vI ty, vI 2]] := hD
        subst hQ
        refine z_iret (z := 0) hx hb hr hlocks dX7_type_36 (ty, 2, mt) hK hS ⟨by omega, by omega⟩ (hP.sub [1, 0] rfl) (hD.sub [1, 0] (by decide) rfl) ?_
        first | (exact Or.inl ⟨by omega, by omega, by first | rfl | omega, by first | rfl | omega, by first | rfl | omega, by first | rfl | omega⟩) | (exact Or.inr (Or.inl ⟨by omega, by first | rfl | omega, by first | rfl | omega, by first | rfl | omega, by first | rfl | omega⟩)) | (exact Or.inr (Or.inr (⟨by omega, by omega, by first | rfl | omega, by first | rfl | omega, by first | rfl | omega, by first | rfl | omega⟩)))
    · exact absurd c13 (by omega)
  · skip
    subst z_1
    have hP : va_P dd vwCl [kO y0 7 [vI n, .ref v0, .ref a0, vI sts, .ref r0, .ref f0, .ref g0, .ref d0, .ref t9, vI ty, vI 0], kI cI t9 40 mt] H := hP
    have hD : va_D A [kO y0 7 [vI n, .ref v0, .ref a0, vI sts, .ref r0, .ref f0, .ref g0, .ref d0, .ref t9, vI ty, vI 0], kI cI t9 40 mt] := hD
    refine z_if_ne (tgt := 22) hx hb dX7_type_13 (by decide) (by omega) (fun c13 => ?_) (fun c13 => ?_)
    · exact absurd c13 (by omega)
    · skip
      refine lv_aload_n hx hb dX7_type_16 rfl (lv_at hl 0 rfl) ?_
      refine z_iconst hx hb dX7_type_17 ?_
      refine g_callVi (own := RX7) (n := 1) (mc := 0) (ms := 0) (As := [vI 1]) (rest := []) (wc := [kO y0 7 [vI n, .ref v0, .ref a0, vI sts, .ref r0, .ref f0, .ref g0, .ref d0, .ref t9, vI ty, vI 0]]) (wr := [kI cI t9 40 mt]) hx hb hml hown hts hK hP hD hS hA [0] [1] rfl rfl (by decide) (by decide) 7 0 rfl rfl (c_X7_fails l dd cI cJ cC cS y0 v0 a0 r0 f0 g0 d0 t9 n sts ty 0 1 H.size) gX7_type_X7_fails rfl (by decide +kernel) (by decide) (by decide) (by decide) (by decide) rfl hl.1 rfl (Nat.le_of_ble_eq_true rfl) dX7_type_18 (fun z_5 u_6 H locs hp18 hP hD hS => ?_)
      subst z_5
      have hP : va_P dd vwCl [kI cI t9 40 mt, kO y0 7 [vI n, .ref v0, .ref a0, vI sts, .ref r0, .ref f0, .ref g0, .ref d0, .ref t9, vI ty, vI 1]] H := hP
      have hD : va_D A [kI cI t9 40 mt, kO y0 7 [vI n, .ref v0, .ref a0, vI sts, .ref r0, .ref f0, .ref g0, .ref d0, .ref t9, vI ty, vI 1]] := hD
      subst hQ
      refine z_iret (z := 0) hx hb hr hlocks dX7_type_21 (ty, 1, mt) hK hS ⟨by omega, by omega⟩ (hP.sub [1, 0] rfl) (hD.sub [1, 0] (by decide) rfl) ?_
      first | (exact Or.inl ⟨by omega, by omega, by first | rfl | omega, by first | rfl | omega, by first | rfl | omega, by first | rfl | omega⟩) | (exact Or.inr (Or.inl ⟨by omega, by first | rfl | omega, by first | rfl | omega, by first | rfl | omega, by first | rfl | omega⟩)) | (exact Or.inr (Or.inr (⟨by omega, by omega, by first | rfl | omega, by first | rfl | omega, by first | rfl | omega, by first | rfl | omega⟩)))

set_option maxHeartbeats 4000000 in
set_option maxRecDepth 100000 in
theorem c_X7_sumOf (l : Launch) (dd : va_G) (cI cJ cC cS : ClassId) (y0 v0 a0 r0 f0 g0 d0 t9 : Nat) (n sts ty th : Int) (mr : Int → Int) (q : Int) (sz : Nat) (hq : 0 ≤ q ∧ q ≤ 9) : gMi l yX7_sumOf wsX7_sumOf 1 0 0 dd cI cJ cC cS [.ref y0, vI q] [kO y0 7 [vI n, .ref v0, .ref a0, vI sts, .ref r0, .ref f0, .ref g0, .ref d0, .ref t9, vI ty, vI th], kI cI r0 9 mr] sz (fun (z : Int) (_ : Unit) => z = sumZ mr q.toNat) (fun (_ : Unit) => [kO y0 7 [vI n, .ref v0, .ref a0, vI sts, .ref r0, .ref f0, .ref g0, .ref d0, .ref t9, vI ty, vI th], kI cI r0 9 mr]) := by
  refine gMi_of (cc := cX7_sumOf) (maxL := 4) (ret := (some .int)) (by decide) rfl (Nat.le_of_ble_eq_true rfl) ?_
  intro p e s m args below meth c A Q hQ hx hb hr hts hown hlocks hnm hml H locs hP hK hD hA hS ls hl
  have hi7 : ∀ w ∈ wsX70, w ∈ wsX7_sumOf := fun _ h => (List.mem_cons_of_mem _ (List.mem_append_right _ h))
  have hl : lv_has ls 4 [(0, .ref y0), (1, vI q)] := hl
  refine z_iconst hx hb dX7_sumOf_0 ?_
  refine lv_istore_n (lv' := [(2, vI 0), (0, .ref y0), (1, vI q)]) hx hb dX7_sumOf_1 rfl hl (by decide) rfl (fun ls hl => ?_)
  refine z_iconst hx hb dX7_sumOf_2 ?_
  refine lv_istore_n (lv' := [(3, vI 0), (2, vI 0), (0, .ref y0), (1, vI q)]) hx hb dX7_sumOf_3 rfl hl (by decide) rfl (fun ls hl => ?_)
  have L4 : ∀ (nn : Nat) (i : Int) (b : Int) (H : Heap) (locs : List Loc) (ls : Array Slot), ((q + 1 - i).toNat) = nn → (0 ≤ i ∧ i ≤ q) → (b = sumZ mr i.toNat) → va_P dd vwCl [kO y0 7 [vI n, .ref v0, .ref a0, vI sts, .ref r0, .ref f0, .ref g0, .ref d0, .ref t9, vI ty, vI th], kI cI r0 9 mr] H → va_D A [kO y0 7 [vI n, .ref v0, .ref a0, vI sts, .ref r0, .ref f0, .ref g0, .ref d0, .ref t9, vI ty, vI th], kI cI r0 9 mr] → va_S A s.heap H locs → lv_has ls 4 [(2, vI b), (3, vI i), (0, .ref y0), (1, vI q)] → W p l e (gR 1 0 0) s m args below meth c H locs 0 0 Q (F0 m 4 ls []) := by
    intro nn
    induction nn using Nat.strongRecOn with
    | ind nn L4i =>
    intro i b H locs ls hmeas hi hbb hP hD hS hl
    refine lv_iload_n hx hb dX7_sumOf_4 rfl (lv_at hl 1 rfl) ?_
    refine lv_iload_n hx hb dX7_sumOf_5 rfl (lv_at hl 3 rfl) ?_
    refine z_icmp_ge (tgt := 24) hx hb dX7_sumOf_6 (by decide) (by omega) (fun c6 => ?_) (fun c6 => ?_)
    · skip
      refine lv_iload_n hx hb dX7_sumOf_24 rfl (lv_at hl 0 rfl) ?_
      subst hQ
      refine z_iret (z := b) hx hb hr hlocks dX7_sumOf_25 () hK hS ⟨by omega, by omega⟩ hP hD ?_
      rw [hbb, show i = q by omega]
    · skip
      refine lv_iload_n hx hb dX7_sumOf_9 rfl (lv_at hl 0 rfl) ?_
      refine lv_aload_n hx hb dX7_sumOf_10 rfl (lv_at hl 2 rfl) ?_
      refine va_get (D := dd) (ci := 7) (v := .ref r0) (C := RX7) (T := TX7) (N := 11) hx hb hts hi7 hown hK hP 0 rfl rfl 4 (by decide) (hts _ (List.mem_cons_of_mem _ (List.mem_append_left _ (List.mem_of_getElem? (i := 0) rfl)))) (fun _ h9 => h9) rfl dX7_sumOf_11 ?_
      refine lv_iload_n hx hb dX7_sumOf_14 rfl (lv_at hl 1 rfl) ?_
      refine z_iald hx hb hK hP 1 0 rfl rfl (i := i) (by omega) (by decide) dX7_sumOf_15 ?_
      refine z_iadd (z := (b + (mr i))) hx hb rfl dX7_sumOf_16 ?_
      refine lv_istore_n (lv' := [(2, vI (b + (mr i))), (3, vI i), (0, .ref y0), (1, vI q)]) hx hb dX7_sumOf_17 rfl hl (by decide) rfl (fun ls hl => ?_)
      refine z_iinc (a := i) (z := (i + 1)) (lv' := [(3, vI (i + 1)), (2, vI (b + (mr i))), (0, .ref y0), (1, vI q)]) hx hb dX7_sumOf_18 hl (k := 1) rfl rfl (by decide) rfl (fun ls hl => ?_)
      refine lv_goto (tgt := 4) hx hb dX7_sumOf_21 (by decide) ?_
      exact L4i _ (by omega) (i + 1) (b + (mr i)) H locs ls rfl (by omega) (by rw [sumZ_s (by omega), hbb]) hP hD hS (lv_sub hl [1, 0, 2, 3] rfl)
  exact L4 _ 0 0 H locs ls rfl (by omega) (rfl) hP hD hS (lv_sub hl [1, 0, 2, 3] rfl)

set_option maxHeartbeats 4000000 in
set_option maxRecDepth 100000 in
theorem c_X7_below (l : Launch) (dd : va_G) (cI cJ cC cS : ClassId) (y0 v0 a0 r0 f0 g0 d0 t9 : Nat) (n sts ty th : Int) (mv : Int → Int) (x : Int) (sz : Nat) (hc0 : 0 ≤ mv 0 ∧ mv 0 ≤ 9) (hwi : ∀ j : Int, 0 ≤ j → j < mv 0 → 0 ≤ mv (12 + j) ∧ mv (12 + j) ≤ 8) (hx0 : -50 ≤ x ∧ x ≤ 50) : gMi l yX7_below wsX7_below 1 0 0 dd cI cJ cC cS [.ref y0, vI x] [kO y0 7 [vI n, .ref v0, .ref a0, vI sts, .ref r0, .ref f0, .ref g0, .ref d0, .ref t9, vI ty, vI th], kI cI v0 21 mv] sz (fun (z : Int) (_ : Unit) => z = cntB (wv mv) x (mv 0).toNat) (fun (_ : Unit) => [kO y0 7 [vI n, .ref v0, .ref a0, vI sts, .ref r0, .ref f0, .ref g0, .ref d0, .ref t9, vI ty, vI th], kI cI v0 21 mv]) := by
  refine gMi_of (cc := cX7_below) (maxL := 4) (ret := (some .int)) (by decide) rfl (Nat.le_of_ble_eq_true rfl) ?_
  intro p e s m args below meth c A Q hQ hx hb hr hts hown hlocks hnm hml H locs hP hK hD hA hS ls hl
  have hi7 : ∀ w ∈ wsX70, w ∈ wsX7_below := fun _ h => (List.mem_cons_of_mem _ (List.mem_append_right _ h))
  have hl : lv_has ls 4 [(0, .ref y0), (1, vI x)] := hl
  refine z_iconst hx hb dX7_below_0 ?_
  refine lv_istore_n (lv' := [(2, vI 0), (0, .ref y0), (1, vI x)]) hx hb dX7_below_1 rfl hl (by decide) rfl (fun ls hl => ?_)
  refine z_iconst hx hb dX7_below_2 ?_
  refine lv_istore_n (lv' := [(3, vI 0), (2, vI 0), (0, .ref y0), (1, vI x)]) hx hb dX7_below_3 rfl hl (by decide) rfl (fun ls hl => ?_)
  have L4 : ∀ (nn : Nat) (i : Int) (b : Int) (H : Heap) (locs : List Loc) (ls : Array Slot), ((mv 0 + 1 - i).toNat) = nn → (0 ≤ i ∧ i ≤ mv 0) → (b = cntB (wv mv) x i.toNat) → va_P dd vwCl [kO y0 7 [vI n, .ref v0, .ref a0, vI sts, .ref r0, .ref f0, .ref g0, .ref d0, .ref t9, vI ty, vI th], kI cI v0 21 mv] H → va_D A [kO y0 7 [vI n, .ref v0, .ref a0, vI sts, .ref r0, .ref f0, .ref g0, .ref d0, .ref t9, vI ty, vI th], kI cI v0 21 mv] → va_S A s.heap H locs → lv_has ls 4 [(2, vI b), (3, vI i), (0, .ref y0), (1, vI x)] → W p l e (gR 1 0 0) s m args below meth c H locs 0 0 Q (F0 m 4 ls []) := by
    intro nn
    induction nn using Nat.strongRecOn with
    | ind nn L4i =>
    intro i b H locs ls hmeas hi hbb hP hD hS hl
    refine lv_iload_n hx hb dX7_below_4 rfl (lv_at hl 1 rfl) ?_
    refine lv_aload_n hx hb dX7_below_5 rfl (lv_at hl 2 rfl) ?_
    refine va_get (D := dd) (ci := 7) (v := .ref v0) (C := RX7) (T := TX7) (N := 11) hx hb hts hi7 hown hK hP 0 rfl rfl 1 (by decide) (hts _ (List.mem_cons_of_mem _ (List.mem_append_left _ (List.mem_of_getElem? (i := 0) rfl)))) (fun _ h9 => h9) rfl dX7_below_6 ?_
    refine z_iconst hx hb dX7_below_9 ?_
    refine z_iald hx hb hK hP 1 0 rfl rfl (i := 0) (by omega) (by decide) dX7_below_10 ?_
    refine z_icmp_ge (tgt := 41) hx hb dX7_below_11 (by decide) (by omega) (fun c11 => ?_) (fun c11 => ?_)
    · skip
      refine lv_iload_n hx hb dX7_below_41 rfl (lv_at hl 0 rfl) ?_
      subst hQ
      refine z_iret (z := b) hx hb hr hlocks dX7_below_42 () hK hS ⟨by omega, by omega⟩ hP hD ?_
      rw [hbb, show i = mv 0 by omega]
    · skip
      refine lv_iload_n hx hb dX7_below_14 rfl (lv_at hl 0 rfl) ?_
      refine lv_aload_n hx hb dX7_below_15 rfl (lv_at hl 2 rfl) ?_
      refine va_get (D := dd) (ci := 7) (v := .ref v0) (C := RX7) (T := TX7) (N := 11) hx hb hts hi7 hown hK hP 0 rfl rfl 1 (by decide) (hts _ (List.mem_cons_of_mem _ (List.mem_append_left _ (List.mem_of_getElem? (i := 0) rfl)))) (fun _ h9 => h9) rfl dX7_below_16 ?_
      refine z_bipush hx hb dX7_below_19 (by decide +kernel) ?_
      refine lv_iload_n hx hb dX7_below_21 rfl (lv_at hl 1 rfl) ?_
      refine z_iadd (z := (12 + i)) hx hb rfl dX7_below_22 ?_
      refine z_iald hx hb hK hP 1 0 rfl rfl (i := (12 + i)) (by omega) (by decide) dX7_below_23 ?_
      have hw9 := hwi i (by omega) (by omega)
      refine lv_iload_n hx hb dX7_below_24 rfl (lv_at hl 3 rfl) ?_
      refine z_icmp_ge (tgt := 32) hx hb dX7_below_25 (by decide) (by omega) (fun c25 => ?_) (fun c25 => ?_)
      · skip
        refine z_iconst hx hb dX7_below_32 ?_
        refine z_iadd (z := b) hx hb (Int.add_zero _) dX7_below_33 ?_
        refine lv_istore_n (lv' := [(2, vI b), (3, vI i), (0, .ref y0), (1, vI x)]) hx hb dX7_below_34 rfl hl (by decide) rfl (fun ls hl => ?_)
        refine z_iinc (a := i) (z := (i + 1)) (lv' := [(3, vI (i + 1)), (2, vI b), (0, .ref y0), (1, vI x)]) hx hb dX7_below_35 hl (k := 1) rfl rfl (by decide) rfl (fun ls hl => ?_)
        refine lv_goto (tgt := 4) hx hb dX7_below_38 (by decide) ?_
        exact L4i _ (by omega) (i + 1) b H locs ls rfl (by omega) (by rw [cntB_s (by omega), hbb, if_neg (show ¬ wv mv i < x from Int.not_lt.mpr c25), Int.add_zero]) hP hD hS (lv_sub hl [1, 0, 2, 3] rfl)
      · skip
        refine z_iconst hx hb dX7_below_28 ?_
        refine lv_goto (tgt := 33) hx hb dX7_below_29 (by decide) ?_
        refine z_iadd (z := (b + 1)) hx hb rfl dX7_below_33 ?_
        refine lv_istore_n (lv' := [(2, vI (b + 1)), (3, vI i), (0, .ref y0), (1, vI x)]) hx hb dX7_below_34 rfl hl (by decide) rfl (fun ls hl => ?_)
        refine z_iinc (a := i) (z := (i + 1)) (lv' := [(3, vI (i + 1)), (2, vI (b + 1)), (0, .ref y0), (1, vI x)]) hx hb dX7_below_35 hl (k := 1) rfl rfl (by decide) rfl (fun ls hl => ?_)
        refine lv_goto (tgt := 4) hx hb dX7_below_38 (by decide) ?_
        exact L4i _ (by omega) (i + 1) (b + 1) H locs ls rfl (by omega) (by rw [cntB_s (by omega), hbb, if_pos (show wv mv i < x from c25)]) hP hD hS (lv_sub hl [1, 0, 2, 3] rfl)
  exact L4 _ 0 0 H locs ls rfl (by omega) (rfl) hP hD hS (lv_sub hl [1, 0, 2, 3] rfl)

set_option maxHeartbeats 4000000 in
set_option maxRecDepth 100000 in
theorem c_X7_luckyOf (l : Launch) (dd : va_G) (cI cJ cC cS : ClassId) (y0 v0 a0 r0 f0 g0 d0 t9 : Nat) (n sts ty th : Int) (mr mf : Int → Int) (q : Int) (sz : Nat) (hq : 0 ≤ q ∧ q ≤ 9) (hmr : ∀ j : Int, 0 ≤ j → j < q → -1 ≤ mr j ∧ mr j ≤ 8) (hmf : ∀ j : Int, 0 ≤ j → j < q → -1 ≤ mf j ∧ mf j ≤ 8) : gMi l yX7_luckyOf wsX7_luckyOf 1 0 0 dd cI cJ cC cS [.ref y0, vI q] [kO y0 7 [vI n, .ref v0, .ref a0, vI sts, .ref r0, .ref f0, .ref g0, .ref d0, .ref t9, vI ty, vI th], kI cI r0 9 mr, kI cI f0 9 mf] sz (fun (z : Int) (_ : Unit) => z = sumZ (fun k => if mf k = mr k then 1 else 0) q.toNat) (fun (_ : Unit) => [kO y0 7 [vI n, .ref v0, .ref a0, vI sts, .ref r0, .ref f0, .ref g0, .ref d0, .ref t9, vI ty, vI th], kI cI r0 9 mr, kI cI f0 9 mf]) := by
  refine gMi_of (cc := cX7_luckyOf) (maxL := 4) (ret := (some .int)) (by decide) rfl (Nat.le_of_ble_eq_true rfl) ?_
  intro p e s m args below meth c A Q hQ hx hb hr hts hown hlocks hnm hml H locs hP hK hD hA hS ls hl
  have hi7 : ∀ w ∈ wsX70, w ∈ wsX7_luckyOf := fun _ h => (List.mem_cons_of_mem _ (List.mem_append_right _ h))
  have hl : lv_has ls 4 [(0, .ref y0), (1, vI q)] := hl
  refine z_iconst hx hb dX7_luckyOf_0 ?_
  refine lv_istore_n (lv' := [(2, vI 0), (0, .ref y0), (1, vI q)]) hx hb dX7_luckyOf_1 rfl hl (by decide) rfl (fun ls hl => ?_)
  refine z_iconst hx hb dX7_luckyOf_2 ?_
  refine lv_istore_n (lv' := [(3, vI 0), (2, vI 0), (0, .ref y0), (1, vI q)]) hx hb dX7_luckyOf_3 rfl hl (by decide) rfl (fun ls hl => ?_)
  have L4 : ∀ (nn : Nat) (i : Int) (b : Int) (H : Heap) (locs : List Loc) (ls : Array Slot), ((q + 1 - i).toNat) = nn → (0 ≤ i ∧ i ≤ q) → (b = sumZ (fun k => if mf k = mr k then 1 else 0) i.toNat) → va_P dd vwCl [kO y0 7 [vI n, .ref v0, .ref a0, vI sts, .ref r0, .ref f0, .ref g0, .ref d0, .ref t9, vI ty, vI th], kI cI r0 9 mr, kI cI f0 9 mf] H → va_D A [kO y0 7 [vI n, .ref v0, .ref a0, vI sts, .ref r0, .ref f0, .ref g0, .ref d0, .ref t9, vI ty, vI th], kI cI r0 9 mr, kI cI f0 9 mf] → va_S A s.heap H locs → lv_has ls 4 [(2, vI b), (3, vI i), (0, .ref y0), (1, vI q)] → W p l e (gR 1 0 0) s m args below meth c H locs 0 0 Q (F0 m 4 ls []) := by
    intro nn
    induction nn using Nat.strongRecOn with
    | ind nn L4i =>
    intro i b H locs ls hmeas hi hbb hP hD hS hl
    refine lv_iload_n hx hb dX7_luckyOf_4 rfl (lv_at hl 1 rfl) ?_
    refine lv_iload_n hx hb dX7_luckyOf_5 rfl (lv_at hl 3 rfl) ?_
    refine z_icmp_ge (tgt := 38) hx hb dX7_luckyOf_6 (by decide) (by omega) (fun c6 => ?_) (fun c6 => ?_)
    · skip
      refine lv_iload_n hx hb dX7_luckyOf_38 rfl (lv_at hl 0 rfl) ?_
      subst hQ
      refine z_iret (z := b) hx hb hr hlocks dX7_luckyOf_39 () hK hS ⟨by omega, by omega⟩ hP hD ?_
      rw [hbb, show i = q by omega]
    · skip
      refine lv_iload_n hx hb dX7_luckyOf_9 rfl (lv_at hl 0 rfl) ?_
      refine lv_aload_n hx hb dX7_luckyOf_10 rfl (lv_at hl 2 rfl) ?_
      refine va_get (D := dd) (ci := 7) (v := .ref f0) (C := RX7) (T := TX7) (N := 11) hx hb hts hi7 hown hK hP 0 rfl rfl 5 (by decide) (hts _ (List.mem_cons_of_mem _ (List.mem_append_left _ (List.mem_of_getElem? (i := 0) rfl)))) (fun _ h9 => h9) rfl dX7_luckyOf_11 ?_
      refine lv_iload_n hx hb dX7_luckyOf_14 rfl (lv_at hl 1 rfl) ?_
      refine z_iald hx hb hK hP 2 0 rfl rfl (i := i) (by omega) (by decide) dX7_luckyOf_15 ?_
      have f_1 := hmf i (by omega) (by omega)
      refine lv_aload_n hx hb dX7_luckyOf_16 rfl (lv_at hl 2 rfl) ?_
      refine va_get (D := dd) (ci := 7) (v := .ref r0) (C := RX7) (T := TX7) (N := 11) hx hb hts hi7 hown hK hP 0 rfl rfl 4 (by decide) (hts _ (List.mem_cons_of_mem _ (List.mem_append_left _ (List.mem_of_getElem? (i := 1) rfl)))) (fun _ h9 => h9) rfl dX7_luckyOf_17 ?_
      refine lv_iload_n hx hb dX7_luckyOf_20 rfl (lv_at hl 1 rfl) ?_
      refine z_iald hx hb hK hP 1 0 rfl rfl (i := i) (by omega) (by decide) dX7_luckyOf_21 ?_
      have f_2 := hmr i (by omega) (by omega)
      refine z_icmp_ne (tgt := 29) hx hb dX7_luckyOf_22 (by decide) (by omega) (fun c22 => ?_) (fun c22 => ?_)
      · skip
        refine z_iconst hx hb dX7_luckyOf_29 ?_
        refine z_iadd (z := b) hx hb (Int.add_zero _) dX7_luckyOf_30 ?_
        refine lv_istore_n (lv' := [(2, vI b), (3, vI i), (0, .ref y0), (1, vI q)]) hx hb dX7_luckyOf_31 rfl hl (by decide) rfl (fun ls hl => ?_)
        refine z_iinc (a := i) (z := (i + 1)) (lv' := [(3, vI (i + 1)), (2, vI b), (0, .ref y0), (1, vI q)]) hx hb dX7_luckyOf_32 hl (k := 1) rfl rfl (by decide) rfl (fun ls hl => ?_)
        refine lv_goto (tgt := 4) hx hb dX7_luckyOf_35 (by decide) ?_
        exact L4i _ (by omega) (i + 1) b H locs ls rfl (by omega) (by rw [sumZ_s (f := fun k => if mf k = mr k then 1 else 0) (by omega), hbb, if_neg (by omega), Int.add_zero]) hP hD hS (lv_sub hl [1, 0, 2, 3] rfl)
      · skip
        refine z_iconst hx hb dX7_luckyOf_25 ?_
        refine lv_goto (tgt := 30) hx hb dX7_luckyOf_26 (by decide) ?_
        refine z_iadd (z := (b + 1)) hx hb rfl dX7_luckyOf_30 ?_
        refine lv_istore_n (lv' := [(2, vI (b + 1)), (3, vI i), (0, .ref y0), (1, vI q)]) hx hb dX7_luckyOf_31 rfl hl (by decide) rfl (fun ls hl => ?_)
        refine z_iinc (a := i) (z := (i + 1)) (lv' := [(3, vI (i + 1)), (2, vI (b + 1)), (0, .ref y0), (1, vI q)]) hx hb dX7_luckyOf_32 hl (k := 1) rfl rfl (by decide) rfl (fun ls hl => ?_)
        refine lv_goto (tgt := 4) hx hb dX7_luckyOf_35 (by decide) ?_
        exact L4i _ (by omega) (i + 1) (b + 1) H locs ls rfl (by omega) (by rw [sumZ_s (f := fun k => if mf k = mr k then 1 else 0) (by omega), hbb, if_pos (by omega)]) hP hD hS (lv_sub hl [1, 0, 2, 3] rfl)
  exact L4 _ 0 0 H locs ls rfl (by omega) (rfl) hP hD hS (lv_sub hl [1, 0, 2, 3] rfl)

