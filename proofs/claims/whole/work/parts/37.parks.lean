/-! the model: a car parks -/
theorem plZ_rg {n ru re p i : Int} (hb : 0 ≤ re ∧ re ≤ 8 ∧ 1 ≤ n ∧ n ≤ 8 ∧ 0 ≤ p ∧ p < n ∧ 0 ≤ i ∧ i ≤ 18) : -200 ≤ plZ n ru re p i ∧ plZ n ru re p i ≤ 200 := by
  unfold plZ
  split
  · split <;> omega
  · split
    · split
      · omega
      · split <;> omega
    · split
      · split <;> omega
      · split
        · omega
        · split <;> omega
def rmc (mv : Int → Int) : Int → Int := fun j => mv (3 + j)
def seeking (n : Int) (mv md : Int → Int) (p i k s9 : Int) (st9 : Int → Int) : Prop := (s9 = -1 ∧ st9 = md ∧ pv n (rmc mv) md (pseq (mv 1) (mv 2) n p) = (k + (pv n (rmc mv) md (remZ n (mv 1) (mv 2) p i)).1, (pv n (rmc mv) md (remZ n (mv 1) (mv 2) p i)).2)) ∨ (0 ≤ s9 ∧ s9 = pP n (rmc mv) md (mv 1) (mv 2) p ∧ k = pK n (rmc mv) md (mv 1) (mv 2) p ∧ st9 = stp md s9)
theorem sk_0 {n : Int} {mv md : Int → Int} {p : Int} (h : 0 ≤ mv 2) : seeking n mv md p 0 0 (-1) md := by
  refine Or.inl ⟨rfl, rfl, ?_⟩
  rw [remZ_0 h, Int.zero_add]
theorem sk_end {n : Int} {mv md st9 : Int → Int} {p i k s9 : Int} (h : seeking n mv md p i k s9 st9) (h9 : s9 < 0) (he : remZ n (mv 1) (mv 2) p i = []) : s9 = pP n (rmc mv) md (mv 1) (mv 2) p ∧ k = pK n (rmc mv) md (mv 1) (mv 2) p ∧ st9 = stp md s9 := by
  rcases h with ⟨a1, a2, a3⟩ | ⟨a1, _⟩
  · rw [he, pv_nil] at a3
    refine ⟨?_, ?_, ?_⟩
    · unfold pP
      rw [a3, a1]
    · unfold pK
      rw [a3]
      exact (Int.add_zero k).symm
    · rw [stp_f h9, a2]
  · omega
theorem sk_out {n : Int} {mv md st9 : Int → Int} {p i k s9 s : Int} (h : seeking n mv md p i k s9 st9) (h9 : s9 < 0) (hs : remZ n (mv 1) (mv 2) p i = s :: remZ n (mv 1) (mv 2) p (i + 1)) (ho : s < 0 ∨ n ≤ s) : seeking n mv md p (i + 1) k s9 st9 := by
  rcases h with ⟨a1, a2, a3⟩ | ⟨a1, _⟩
  · refine Or.inl ⟨a1, a2, ?_⟩
    rw [a3, hs]
    have e : pv n (rmc mv) md (s :: remZ n (mv 1) (mv 2) p (i + 1)) = pv n (rmc mv) md (remZ n (mv 1) (mv 2) p (i + 1)) := if_pos ho
    rw [e]
  · omega
theorem sk_full {n : Int} {mv md st9 : Int → Int} {p i k s9 s : Int} (h : seeking n mv md p i k s9 st9) (h9 : s9 < 0) (hs : remZ n (mv 1) (mv 2) p i = s :: remZ n (mv 1) (mv 2) p (i + 1)) (ho : 0 ≤ s ∧ s < n) (hf : mv (3 + s) ≤ st9 s) : seeking n mv md p (i + 1) (k + 1) s9 st9 := by
  rcases h with ⟨a1, a2, a3⟩ | ⟨a1, _⟩
  · refine Or.inl ⟨a1, a2, ?_⟩
    rw [a2] at hf
    rw [a3, hs]
    have e : pv n (rmc mv) md (s :: remZ n (mv 1) (mv 2) p (i + 1)) = ((pv n (rmc mv) md (remZ n (mv 1) (mv 2) p (i + 1))).1 + 1, (pv n (rmc mv) md (remZ n (mv 1) (mv 2) p (i + 1))).2) := (if_neg (by omega)).trans (if_pos hf)
    rw [e]
    show (k + (_ + 1), _) = (k + 1 + _, _)
    rw [show ∀ x : Int, k + (x + 1) = k + 1 + x from fun x => by omega]
  · omega
theorem sk_park {n : Int} {mv md st9 : Int → Int} {p i k s9 s : Int} (h : seeking n mv md p i k s9 st9) (h9 : s9 < 0) (hs : remZ n (mv 1) (mv 2) p i = s :: remZ n (mv 1) (mv 2) p (i + 1)) (ho : 0 ≤ s ∧ s < n) (hf : st9 s < mv (3 + s)) : seeking n mv md p (i + 1) (k + 1) s (uZ st9 s (st9 s + 1)) := by
  rcases h with ⟨a1, a2, a3⟩ | ⟨a1, _⟩
  · rw [a2] at hf ⊢
    have e : pv n (rmc mv) md (s :: remZ n (mv 1) (mv 2) p (i + 1)) = (1, s) := (if_neg (by omega)).trans (if_neg (show ¬ rmc mv s ≤ md s from Int.not_le.mpr hf))
    rw [hs, e] at a3
    refine Or.inr ⟨ho.1, ?_, ?_, (stp_t ho.1).symm⟩
    · unfold pP
      rw [a3]
    · unfold pK
      rw [a3]
  · omega

set_option maxHeartbeats 4000000 in
set_option maxRecDepth 100000 in
theorem c_X7_parks (l : Launch) (dd : va_G) (cI cJ cC cS : ClassId) (y0 v0 a0 r0 f0 g0 d0 t9 : Nat) (n sts ty th : Int) (mv : Int → Int) (mr mf mg md : Int → Int) (q : Int) (sz : Nat) (hn : 1 ≤ n ∧ n ≤ 8) (hc1 : 0 ≤ mv 1 ∧ mv 1 ≤ 3) (hc2 : 0 ≤ mv 2 ∧ mv 2 ≤ 8) (hcap : ∀ j : Int, 0 ≤ j → j < n → 0 ≤ mv (3 + j) ∧ mv (3 + j) ≤ 3) (hq : 0 ≤ q ∧ q < 9) (hmr : 0 ≤ mr q ∧ mr q < n) (hmd : ∀ j : Int, 0 ≤ j → j < n → 0 ≤ md j ∧ md j ≤ 3) : gMv l yX7_parks wsX7_parks 2 0 0 dd cI cJ cC cS [.ref y0, vI q] [kO y0 7 [vI n, .ref v0, .ref a0, vI sts, .ref r0, .ref f0, .ref g0, .ref d0, .ref t9, vI ty, vI th], kI cI v0 21 mv, kI cI r0 9 mr, kI cI f0 9 mf, kI cI g0 9 mg, kI cI d0 8 md] sz (fun (_ : Unit) => True) (fun (_ : Unit) => [kO y0 7 [vI n, .ref v0, .ref a0, vI sts, .ref r0, .ref f0, .ref g0, .ref d0, .ref t9, vI ty, vI th], kI cI v0 21 mv, kI cI r0 9 mr, kI cI f0 9 (uZ mf q (pP n (rmc mv) md (mv 1) (mv 2) (mr q))), kI cI g0 9 (uZ mg q (pK n (rmc mv) md (mv 1) (mv 2) (mr q))), kI cI d0 8 (stp md (pP n (rmc mv) md (mv 1) (mv 2) (mr q)))]) := by
  refine gMv_of (cc := cX7_parks) (maxL := 5) (ret := none) (by decide) rfl (Nat.le_of_ble_eq_true rfl) ?_
  intro p e s m args below meth c A Q hQ hx hb hr hts hown hlocks hnm hml H locs hP hK hD hA hS ls hl
  have hi7 : ∀ w ∈ wsX70, w ∈ wsX7_parks := fun _ h => (List.mem_cons_of_mem _ (List.mem_append_right _ h))
  have hl : lv_has ls 5 [(0, .ref y0), (1, vI q)] := hl
  refine lv_aload_n hx hb dX7_parks_0 rfl (lv_at hl 0 rfl) ?_
  refine va_get (D := dd) (ci := 7) (v := .ref f0) (C := RX7) (T := TX7) (N := 11) hx hb hts hi7 hown hK hP 0 rfl rfl 5 (by decide) (hts _ (List.mem_cons_of_mem _ (List.mem_append_left _ (List.mem_of_getElem? (i := 0) rfl)))) (fun _ h9 => h9) rfl dX7_parks_1 ?_
  refine lv_iload_n hx hb dX7_parks_4 rfl (lv_at hl 1 rfl) ?_
  refine z_iconst hx hb dX7_parks_5 ?_
  refine z_iast (ws' := [kO y0 7 [vI n, .ref v0, .ref a0, vI sts, .ref r0, .ref f0, .ref g0, .ref d0, .ref t9, vI ty, vI th], kI cI v0 21 mv, kI cI r0 9 mr, kI cI f0 9 (uZ mf q (-1)), kI cI g0 9 mg, kI cI d0 8 md]) hx hb hK hP hD hS 3 0 rfl rfl (i := q) (x := (-1)) (by omega) (by decide) dX7_parks_6 rfl (fun H locs hP hD hS => ?_)
  refine lv_aload_n hx hb dX7_parks_7 rfl (lv_at hl 0 rfl) ?_
  refine va_get (D := dd) (ci := 7) (v := .ref g0) (C := RX7) (T := TX7) (N := 11) hx hb hts hi7 hown hK hP 0 rfl rfl 6 (by decide) (hts _ (List.mem_cons_of_mem _ (List.mem_append_left _ (List.mem_of_getElem? (i := 1) rfl)))) (fun _ h9 => h9) rfl dX7_parks_8 ?_
  refine lv_iload_n hx hb dX7_parks_11 rfl (lv_at hl 1 rfl) ?_
  refine z_iconst hx hb dX7_parks_12 ?_
  refine z_iast (ws' := [kO y0 7 [vI n, .ref v0, .ref a0, vI sts, .ref r0, .ref f0, .ref g0, .ref d0, .ref t9, vI ty, vI th], kI cI v0 21 mv, kI cI r0 9 mr, kI cI f0 9 (uZ mf q (-1)), kI cI g0 9 (uZ mg q 0), kI cI d0 8 md]) hx hb hK hP hD hS 4 0 rfl rfl (i := q) (x := 0) (by omega) (by decide) dX7_parks_13 rfl (fun H locs hP hD hS => ?_)
  refine lv_aload_n hx hb dX7_parks_14 rfl (lv_at hl 0 rfl) ?_
  refine va_get (D := dd) (ci := 7) (v := .ref r0) (C := RX7) (T := TX7) (N := 11) hx hb hts hi7 hown hK hP 0 rfl rfl 4 (by decide) (hts _ (List.mem_cons_of_mem _ (List.mem_append_left _ (List.mem_of_getElem? (i := 2) rfl)))) (fun _ h9 => h9) rfl dX7_parks_15 ?_
  refine lv_iload_n hx hb dX7_parks_18 rfl (lv_at hl 1 rfl) ?_
  refine z_iald hx hb hK hP 2 0 rfl rfl (i := q) (by omega) (by decide) dX7_parks_19 ?_
  refine lv_istore_n (lv' := [(2, vI (mr q)), (0, .ref y0), (1, vI q)]) hx hb dX7_parks_20 rfl hl (by decide) rfl (fun ls hl => ?_)
  refine z_iconst hx hb dX7_parks_21 ?_
  refine lv_istore_n (lv' := [(3, vI 0), (2, vI (mr q)), (0, .ref y0), (1, vI q)]) hx hb dX7_parks_22 rfl hl (by decide) rfl (fun ls hl => ?_)
  have L23 : ∀ (nn : Nat) (i : Int) (k : Int) (s9 : Int) (st9 : Int → Int) (H : Heap) (locs : List Loc) (ls : Array Slot), ((19 - i).toNat) = nn → (0 ≤ i ∧ i ≤ 18) → (-1 ≤ s9 ∧ s9 < n) → (seeking n mv md (mr q) i k s9 st9) → (∀ j : Int, 0 ≤ j → j < n → s9 < 0 → 0 ≤ st9 j ∧ st9 j ≤ 3) → va_P dd vwCl [kO y0 7 [vI n, .ref v0, .ref a0, vI sts, .ref r0, .ref f0, .ref g0, .ref d0, .ref t9, vI ty, vI th], kI cI v0 21 mv, kI cI r0 9 mr, kI cI f0 9 (uZ mf q s9), kI cI g0 9 (uZ mg q k), kI cI d0 8 st9] H → va_D A [kO y0 7 [vI n, .ref v0, .ref a0, vI sts, .ref r0, .ref f0, .ref g0, .ref d0, .ref t9, vI ty, vI th], kI cI v0 21 mv, kI cI r0 9 mr, kI cI f0 9 (uZ mf q s9), kI cI g0 9 (uZ mg q k), kI cI d0 8 st9] → va_S A s.heap H locs → lv_has ls 5 [(3, vI i), (2, vI (mr q)), (0, .ref y0), (1, vI q)] → W p l e (gR 2 0 0) s m args below meth c H locs 0 0 Q (F0 m 23 ls []) := by
    intro nn
    induction nn using Nat.strongRecOn with
    | ind nn L23i =>
    intro i k s9 st9 H locs ls hmeas hi hs9 hsk hst9 hP hD hS hl
    refine lv_aload_n hx hb dX7_parks_23 rfl (lv_at hl 2 rfl) ?_
    refine va_get (D := dd) (ci := 7) (v := .ref f0) (C := RX7) (T := TX7) (N := 11) hx hb hts hi7 hown hK hP 0 rfl rfl 5 (by decide) (hts _ (List.mem_cons_of_mem _ (List.mem_append_left _ (List.mem_of_getElem? (i := 0) rfl)))) (fun _ h9 => h9) rfl dX7_parks_24 ?_
    refine lv_iload_n hx hb dX7_parks_27 rfl (lv_at hl 3 rfl) ?_
    refine z_iald hx hb hK hP 3 0 rfl rfl (i := q) (by omega) (by decide) dX7_parks_28 ?_
    refine z_bin (va := .null) (vb := .null) (y := zI s9) (congrArg zI (uZ_same _ _ _)) ?_
    refine z_if_ge (tgt := 117) hx hb dX7_parks_29 (by decide) (by omega) (fun c29 => ?_) (fun c29 => ?_)
    · skip
      have hend : s9 = pP n (rmc mv) md (mv 1) (mv 2) (mr q) ∧ k = pK n (rmc mv) md (mv 1) (mv 2) (mr q) ∧ st9 = stp md s9 := by
        rcases hsk with ⟨a1, _⟩ | ⟨_, a2, a3, a4⟩
        · omega
        · exact ⟨a2, a3, a4⟩
      have ec_1 : kI cI f0 9 (uZ mf q s9) = kI cI f0 9 (uZ mf q (pP n (rmc mv) md (mv 1) (mv 2) (mr q))) := kI_congr (by rw [hend.1])
      rw [ec_1] at hP hD
      have ec_2 : kI cI g0 9 (uZ mg q k) = kI cI g0 9 (uZ mg q (pK n (rmc mv) md (mv 1) (mv 2) (mr q))) := kI_congr (by rw [hend.2.1])
      rw [ec_2] at hP hD
      have ec_3 : kI cI d0 8 st9 = kI cI d0 8 (stp md (pP n (rmc mv) md (mv 1) (mv 2) (mr q))) := kI_congr (by rw [hend.2.2, hend.1])
      rw [ec_3] at hP hD
      subst hQ
      refine z_vret hx hb hr hlocks dX7_parks_117 () hK hS ⟨by omega, by omega⟩ hP hD ?_
      first | rfl | trivial | omega
    · skip
      refine lv_aload_n hx hb dX7_parks_32 rfl (lv_at hl 2 rfl) ?_
      refine lv_iload_n hx hb dX7_parks_33 rfl (lv_at hl 1 rfl) ?_
      refine lv_iload_n hx hb dX7_parks_34 rfl (lv_at hl 0 rfl) ?_
      refine g_callVi (own := RX7) (n := 2) (mc := 0) (ms := 0) (As := [vI (mr q), vI i]) (rest := []) (wc := [kO y0 7 [vI n, .ref v0, .ref a0, vI sts, .ref r0, .ref f0, .ref g0, .ref d0, .ref t9, vI ty, vI th], kI cI v0 21 mv]) (wr := [kI cI r0 9 mr, kI cI f0 9 (uZ mf q s9), kI cI g0 9 (uZ mg q k), kI cI d0 8 st9]) hx hb hml hown hts hK hP hD hS hA [0, 1] [2, 3, 4, 5] rfl rfl (by decide) (by decide) 7 0 rfl rfl (c_X7_placeOf l dd cI cJ cC cS y0 v0 a0 r0 f0 g0 d0 t9 n sts ty th mv (mr q) i H.size  (by first | assumption | omega) (by first | assumption | omega) (by first | assumption | omega) (by first | assumption | omega) (by first | assumption | omega)) gX7_parks_X7_placeOf rfl (by decide +kernel) (by decide) (by decide) (by decide) (by decide) rfl hl.1 rfl (Nat.le_of_ble_eq_true rfl) dX7_parks_35 (fun z_4 u_5 H locs hp35 hP hD hS => ?_)
      subst z_4
      have hP : va_P dd vwCl [kI cI r0 9 mr, kI cI f0 9 (uZ mf q s9), kI cI g0 9 (uZ mg q k), kI cI d0 8 st9, kO y0 7 [vI n, .ref v0, .ref a0, vI sts, .ref r0, .ref f0, .ref g0, .ref d0, .ref t9, vI ty, vI th], kI cI v0 21 mv] H := hP
      have hD : va_D A [kI cI r0 9 mr, kI cI f0 9 (uZ mf q s9), kI cI g0 9 (uZ mg q k), kI cI d0 8 st9, kO y0 7 [vI n, .ref v0, .ref a0, vI sts, .ref r0, .ref f0, .ref g0, .ref d0, .ref t9, vI ty, vI th], kI cI v0 21 mv] := hD
      have hpr := plZ_rg (n := n) (ru := mv 1) (re := mv 2) (p := mr q) (i := i) (by omega)
      refine lv_istore (lv' := [(4, vI (plZ n (mv 1) (mv 2) (mr q) i)), (3, vI i), (2, vI (mr q)), (0, .ref y0), (1, vI q)]) hx hb dX7_parks_38 hl (by decide) rfl (fun ls hl => ?_)
      refine lv_iload hx hb dX7_parks_40 (lv_at hl 0 rfl) ?_
      refine z_bipush hx hb dX7_parks_42 (by decide +kernel) ?_
      refine z_icmp_ge (tgt := 48) hx hb dX7_parks_44 (by decide) (by omega) (fun c44 => ?_) (fun c44 => ?_)
      · skip
        have hstep := rem_step (n := n) (ru := mv 1) (re := mv 2) (p := mr q) (i := i) hc1 (by omega) c44
        refine lv_iload hx hb dX7_parks_48 (lv_at hl 0 rfl) ?_
        refine z_iconst hx hb dX7_parks_50 ?_
        refine lv_aload_n hx hb dX7_parks_51 rfl (lv_at hl 3 rfl) ?_
        refine va_get (D := dd) (ci := 7) (v := vI n) (C := RX7) (T := TX7) (N := 11) hx hb hts hi7 hown hK hP 4 rfl rfl 0 (by decide) (hts _ (List.mem_cons_of_mem _ (List.mem_append_left _ (List.mem_of_getElem? (i := 3) rfl)))) (fun _ h9 => h9) rfl dX7_parks_52 ?_
        refine z_iconst hx hb dX7_parks_55 ?_
        refine z_isub (z := (n - 1)) hx hb rfl dX7_parks_56 ?_
        refine g_callSi (own := RX7) (n := 3) (mc := 0) (ms := 0) (As := [vI (plZ n (mv 1) (mv 2) (mr q) i), vI 0, vI (n - 1)]) (rest := []) (wc := []) (wr := [kI cI r0 9 mr, kI cI f0 9 (uZ mf q s9), kI cI g0 9 (uZ mg q k), kI cI d0 8 st9, kO y0 7 [vI n, .ref v0, .ref a0, vI sts, .ref r0, .ref f0, .ref g0, .ref d0, .ref t9, vI ty, vI th], kI cI v0 21 mv]) hx hb hml hown hts hK hP hD hS hA [] [0, 1, 2, 3, 4, 5] rfl rfl (by decide) (by decide) (c_X7_in l dd cI cJ cC cS (plZ n (mv 1) (mv 2) (mr q) i) 0 (n - 1) H.size  (by first | assumption | omega) (by first | assumption | omega) (by first | assumption | omega)) gX7_parks_X7_in rfl (by decide +kernel) (by decide) (by decide) (by decide) (by decide) rfl hl.1 rfl (Nat.le_of_ble_eq_true rfl) dX7_parks_57 (fun z_6 u_7 H locs hp57 hP hD hS => ?_)
        rcases hp57 with ⟨hp57_0, hp57_1, hp57_z⟩ | ⟨hp57_0, hp57_z⟩
        · skip
          subst z_6
          have hP : va_P dd vwCl [kI cI r0 9 mr, kI cI f0 9 (uZ mf q s9), kI cI g0 9 (uZ mg q k), kI cI d0 8 st9, kO y0 7 [vI n, .ref v0, .ref a0, vI sts, .ref r0, .ref f0, .ref g0, .ref d0, .ref t9, vI ty, vI th], kI cI v0 21 mv] H := hP
          have hD : va_D A [kI cI r0 9 mr, kI cI f0 9 (uZ mf q s9), kI cI g0 9 (uZ mg q k), kI cI d0 8 st9, kO y0 7 [vI n, .ref v0, .ref a0, vI sts, .ref r0, .ref f0, .ref g0, .ref d0, .ref t9, vI ty, vI th], kI cI v0 21 mv] := hD
          refine z_if_eq (tgt := 111) hx hb dX7_parks_60 (by decide) (by omega) (fun c60 => ?_) (fun c60 => ?_)
          · exact absurd c60 (by omega)
          · skip
            refine lv_aload_n hx hb dX7_parks_63 rfl (lv_at hl 3 rfl) ?_
            refine va_get (D := dd) (ci := 7) (v := .ref g0) (C := RX7) (T := TX7) (N := 11) hx hb hts hi7 hown hK hP 4 rfl rfl 6 (by decide) (hts _ (List.mem_cons_of_mem _ (List.mem_append_left _ (List.mem_of_getElem? (i := 1) rfl)))) (fun _ h9 => h9) rfl dX7_parks_64 ?_
            refine lv_iload_n hx hb dX7_parks_67 rfl (lv_at hl 4 rfl) ?_
            refine lv_dup2_11 hx hb dX7_parks_68 rfl rfl ?_
            refine z_iald hx hb hK hP 2 0 rfl rfl (i := q) (by omega) (by decide) dX7_parks_69 ?_
            refine z_iconst hx hb dX7_parks_70 ?_
            refine z_iadd (z := (((uZ mg q k) q) + 1)) hx hb rfl dX7_parks_71 ?_
            refine z_iast (ws' := [kI cI r0 9 mr, kI cI f0 9 (uZ mf q s9), kI cI g0 9 (uZ (uZ mg q k) q (((uZ mg q k) q) + 1)), kI cI d0 8 st9, kO y0 7 [vI n, .ref v0, .ref a0, vI sts, .ref r0, .ref f0, .ref g0, .ref d0, .ref t9, vI ty, vI th], kI cI v0 21 mv]) hx hb hK hP hD hS 2 0 rfl rfl (i := q) (x := (((uZ mg q k) q) + 1)) (by omega) (by decide) dX7_parks_72 rfl (fun H locs hP hD hS => ?_)
            have hsd := hst9 (plZ n (mv 1) (mv 2) (mr q) i) (by omega) (by omega) (by omega)
            have hcd := hcap (plZ n (mv 1) (mv 2) (mr q) i) (by omega) (by omega)
            refine lv_aload_n hx hb dX7_parks_73 rfl (lv_at hl 3 rfl) ?_
            refine va_get (D := dd) (ci := 7) (v := .ref d0) (C := RX7) (T := TX7) (N := 11) hx hb hts hi7 hown hK hP 4 rfl rfl 7 (by decide) (hts _ (List.mem_cons_of_mem _ (List.mem_append_left _ (List.mem_of_getElem? (i := 4) rfl)))) (fun _ h9 => h9) rfl dX7_parks_74 ?_
            refine lv_iload hx hb dX7_parks_77 (lv_at hl 0 rfl) ?_
            refine z_iald hx hb hK hP 3 0 rfl rfl (i := (plZ n (mv 1) (mv 2) (mr q) i)) (by omega) (by decide) dX7_parks_79 ?_
            refine lv_aload_n hx hb dX7_parks_80 rfl (lv_at hl 3 rfl) ?_
            refine va_get (D := dd) (ci := 7) (v := .ref v0) (C := RX7) (T := TX7) (N := 11) hx hb hts hi7 hown hK hP 4 rfl rfl 1 (by decide) (hts _ (List.mem_cons_of_mem _ (List.mem_append_left _ (List.mem_of_getElem? (i := 5) rfl)))) (fun _ h9 => h9) rfl dX7_parks_81 ?_
            refine z_iconst hx hb dX7_parks_84 ?_
            refine lv_iload hx hb dX7_parks_85 (lv_at hl 0 rfl) ?_
            refine z_iadd (z := (3 + plZ n (mv 1) (mv 2) (mr q) i)) hx hb rfl dX7_parks_87 ?_
            refine z_iald hx hb hK hP 5 0 rfl rfl (i := (3 + plZ n (mv 1) (mv 2) (mr q) i)) (by omega) (by decide) dX7_parks_88 ?_
            refine z_icmp_ge (tgt := 111) hx hb dX7_parks_89 (by decide) (by omega) (fun c89 => ?_) (fun c89 => ?_)
            · skip
              refine z_iinc (a := i) (z := (i + 1)) (lv' := [(3, vI (i + 1)), (4, vI (plZ n (mv 1) (mv 2) (mr q) i)), (2, vI (mr q)), (0, .ref y0), (1, vI q)]) hx hb dX7_parks_111 hl (k := 1) rfl rfl (by decide) rfl (fun ls hl => ?_)
              refine lv_goto (tgt := 23) hx hb dX7_parks_114 (by decide) ?_
              have el_8 : kI cI g0 9 (uZ (uZ mg q k) q (((uZ mg q k) q) + 1)) = kI cI g0 9 (uZ mg q (k + 1)) := kI_congr (congrArg aZ (by rw [uZ_same, uZ_uZ]))
              rw [el_8] at hP hD
              exact L23i _ (by omega) (i + 1) (k + 1) s9 st9 H locs ls rfl (by omega) (by omega) (sk_full hsk (by omega) hstep.2.2 (by omega) (by omega)) (hst9) (hP.sub [4, 5, 0, 1, 2, 3] rfl) (hD.sub [4, 5, 0, 1, 2, 3] (by decide) rfl) hS (lv_sub hl [0, 2, 3, 4] rfl)
            · skip
              refine lv_aload_n hx hb dX7_parks_92 rfl (lv_at hl 3 rfl) ?_
              refine va_get (D := dd) (ci := 7) (v := .ref d0) (C := RX7) (T := TX7) (N := 11) hx hb hts hi7 hown hK hP 4 rfl rfl 7 (by decide) (hts _ (List.mem_cons_of_mem _ (List.mem_append_left _ (List.mem_of_getElem? (i := 4) rfl)))) (fun _ h9 => h9) rfl dX7_parks_93 ?_
              refine lv_iload hx hb dX7_parks_96 (lv_at hl 0 rfl) ?_
              refine lv_dup2_11 hx hb dX7_parks_98 rfl rfl ?_
              refine z_iald hx hb hK hP 3 0 rfl rfl (i := (plZ n (mv 1) (mv 2) (mr q) i)) (by omega) (by decide) dX7_parks_99 ?_
              refine z_iconst hx hb dX7_parks_100 ?_
              refine z_iadd (z := ((st9 (plZ n (mv 1) (mv 2) (mr q) i)) + 1)) hx hb rfl dX7_parks_101 ?_
              refine z_iast (ws' := [kI cI r0 9 mr, kI cI f0 9 (uZ mf q s9), kI cI g0 9 (uZ (uZ mg q k) q (((uZ mg q k) q) + 1)), kI cI d0 8 (uZ st9 (plZ n (mv 1) (mv 2) (mr q) i) ((st9 (plZ n (mv 1) (mv 2) (mr q) i)) + 1)), kO y0 7 [vI n, .ref v0, .ref a0, vI sts, .ref r0, .ref f0, .ref g0, .ref d0, .ref t9, vI ty, vI th], kI cI v0 21 mv]) hx hb hK hP hD hS 3 0 rfl rfl (i := (plZ n (mv 1) (mv 2) (mr q) i)) (x := ((st9 (plZ n (mv 1) (mv 2) (mr q) i)) + 1)) (by omega) (by decide) dX7_parks_102 rfl (fun H locs hP hD hS => ?_)
              refine lv_aload_n hx hb dX7_parks_103 rfl (lv_at hl 3 rfl) ?_
              refine va_get (D := dd) (ci := 7) (v := .ref f0) (C := RX7) (T := TX7) (N := 11) hx hb hts hi7 hown hK hP 4 rfl rfl 5 (by decide) (hts _ (List.mem_cons_of_mem _ (List.mem_append_left _ (List.mem_of_getElem? (i := 0) rfl)))) (fun _ h9 => h9) rfl dX7_parks_104 ?_
              refine lv_iload_n hx hb dX7_parks_107 rfl (lv_at hl 4 rfl) ?_
              refine lv_iload hx hb dX7_parks_108 (lv_at hl 0 rfl) ?_
              refine z_iast (ws' := [kI cI r0 9 mr, kI cI f0 9 (uZ (uZ mf q s9) q (plZ n (mv 1) (mv 2) (mr q) i)), kI cI g0 9 (uZ (uZ mg q k) q (((uZ mg q k) q) + 1)), kI cI d0 8 (uZ st9 (plZ n (mv 1) (mv 2) (mr q) i) ((st9 (plZ n (mv 1) (mv 2) (mr q) i)) + 1)), kO y0 7 [vI n, .ref v0, .ref a0, vI sts, .ref r0, .ref f0, .ref g0, .ref d0, .ref t9, vI ty, vI th], kI cI v0 21 mv]) hx hb hK hP hD hS 1 0 rfl rfl (i := q) (x := (plZ n (mv 1) (mv 2) (mr q) i)) (by omega) (by decide) dX7_parks_110 rfl (fun H locs hP hD hS => ?_)
              refine z_iinc (a := i) (z := (i + 1)) (lv' := [(3, vI (i + 1)), (4, vI (plZ n (mv 1) (mv 2) (mr q) i)), (2, vI (mr q)), (0, .ref y0), (1, vI q)]) hx hb dX7_parks_111 hl (k := 1) rfl rfl (by decide) rfl (fun ls hl => ?_)
              refine lv_goto (tgt := 23) hx hb dX7_parks_114 (by decide) ?_
              have el_9 : kI cI f0 9 (uZ (uZ mf q s9) q (plZ n (mv 1) (mv 2) (mr q) i)) = kI cI f0 9 (uZ mf q (plZ n (mv 1) (mv 2) (mr q) i)) := kI_congr (congrArg aZ (by rw [uZ_uZ]))
              rw [el_9] at hP hD
              have el_10 : kI cI g0 9 (uZ (uZ mg q k) q (((uZ mg q k) q) + 1)) = kI cI g0 9 (uZ mg q (k + 1)) := kI_congr (congrArg aZ (by rw [uZ_same, uZ_uZ]))
              rw [el_10] at hP hD
              exact L23i _ (by omega) (i + 1) (k + 1) (plZ n (mv 1) (mv 2) (mr q) i) (uZ st9 (plZ n (mv 1) (mv 2) (mr q) i) ((st9 (plZ n (mv 1) (mv 2) (mr q) i)) + 1)) H locs ls rfl (by omega) (by omega) (sk_park hsk (by omega) hstep.2.2 (by omega) (by omega)) (fun j h0 h1 u => absurd u (by omega)) (hP.sub [4, 5, 0, 1, 2, 3] rfl) (hD.sub [4, 5, 0, 1, 2, 3] (by decide) rfl) hS (lv_sub hl [0, 2, 3, 4] rfl)
        · skip
          subst z_6
          have hP : va_P dd vwCl [kI cI r0 9 mr, kI cI f0 9 (uZ mf q s9), kI cI g0 9 (uZ mg q k), kI cI d0 8 st9, kO y0 7 [vI n, .ref v0, .ref a0, vI sts, .ref r0, .ref f0, .ref g0, .ref d0, .ref t9, vI ty, vI th], kI cI v0 21 mv] H := hP
          have hD : va_D A [kI cI r0 9 mr, kI cI f0 9 (uZ mf q s9), kI cI g0 9 (uZ mg q k), kI cI d0 8 st9, kO y0 7 [vI n, .ref v0, .ref a0, vI sts, .ref r0, .ref f0, .ref g0, .ref d0, .ref t9, vI ty, vI th], kI cI v0 21 mv] := hD
          refine z_if_eq (tgt := 111) hx hb dX7_parks_60 (by decide) (by omega) (fun c60 => ?_) (fun c60 => ?_)
          · skip
            refine z_iinc (a := i) (z := (i + 1)) (lv' := [(3, vI (i + 1)), (4, vI (plZ n (mv 1) (mv 2) (mr q) i)), (2, vI (mr q)), (0, .ref y0), (1, vI q)]) hx hb dX7_parks_111 hl (k := 1) rfl rfl (by decide) rfl (fun ls hl => ?_)
            refine lv_goto (tgt := 23) hx hb dX7_parks_114 (by decide) ?_
            exact L23i _ (by omega) (i + 1) k s9 st9 H locs ls rfl (by omega) (by omega) (sk_out hsk (by omega) hstep.2.2 (by omega)) (hst9) (hP.sub [4, 5, 0, 1, 2, 3] rfl) (hD.sub [4, 5, 0, 1, 2, 3] (by decide) rfl) hS (lv_sub hl [0, 2, 3, 4] rfl)
          · exact absurd c60 (by omega)
      · skip
        have hend := sk_end hsk (by omega) (rem_end (n := n) (ru := mv 1) (re := mv 2) (p := mr q) (i := i) hc1 (by omega) c44)
        have ec_11 : kI cI f0 9 (uZ mf q s9) = kI cI f0 9 (uZ mf q (pP n (rmc mv) md (mv 1) (mv 2) (mr q))) := kI_congr (by rw [hend.1])
        rw [ec_11] at hP hD
        have ec_12 : kI cI g0 9 (uZ mg q k) = kI cI g0 9 (uZ mg q (pK n (rmc mv) md (mv 1) (mv 2) (mr q))) := kI_congr (by rw [hend.2.1])
        rw [ec_12] at hP hD
        have ec_13 : kI cI d0 8 st9 = kI cI d0 8 (stp md (pP n (rmc mv) md (mv 1) (mv 2) (mr q))) := kI_congr (by rw [hend.2.2, hend.1])
        rw [ec_13] at hP hD
        subst hQ
        refine z_vret hx hb hr hlocks dX7_parks_47 () hK hS ⟨by omega, by omega⟩ (hP.sub [4, 5, 0, 1, 2, 3] rfl) (hD.sub [4, 5, 0, 1, 2, 3] (by decide) rfl) ?_
        first | rfl | trivial | omega
  exact L23 _ 0 0 (-1) md H locs ls rfl (by omega) (by omega) (sk_0 hc2.1) (fun j h0 h1 _ => hmd j h0 h1) hP hD hS hl

