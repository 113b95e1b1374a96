/-! the model: what a parked list shows -/
theorem zI_or0 (a : Int) : zI a ||| zI 0 = zI (a + 0) := by
  rw [Int.add_zero]
  exact Int32.or_zero
theorem lvZ_s {n : Int} {cap : Int → Int} {ru re : Int} {wi : Int → Int} (k : Nat) : lvZ n cap ru re wi (k + 1) = lvZ n cap ru re wi k + (if ppl n cap ru re wi (k : Int) = -1 then 1 else 0) := rfl
theorem lvZ_rg {n : Int} {cap : Int → Int} {ru re : Int} {wi : Int → Int} : ∀ k : Nat, 0 ≤ lvZ n cap ru re wi k ∧ lvZ n cap ru re wi k ≤ k
  | 0 => ⟨Int.le_refl _, Int.le_refl _⟩
  | k + 1 => by
    have h := lvZ_rg (n := n) (cap := cap) (ru := ru) (re := re) (wi := wi) k
    rw [lvZ_s]
    split <;> omega
theorem lv_no {n : Int} {cap : Int → Int} {ru re : Int} {wi : Int → Int} : ∀ k : Nat, lvZ n cap ru re wi k ≤ 0 → ∀ j : Int, 0 ≤ j → j < k → ppl n cap ru re wi j ≠ -1
  | 0, _ => fun j h0 h1 => absurd h1 (by omega)
  | k + 1, h => by
    rw [lvZ_s] at h
    have h2 := lvZ_rg (n := n) (cap := cap) (ru := ru) (re := re) (wi := wi) k
    intro j h0 h1
    by_cases e : j = k
    · rw [e]
      intro q
      rw [if_pos q] at h
      omega
    · exact lv_no k (by split at h <;> omega) j h0 (by omega)
theorem lv_0 {n : Int} {cap : Int → Int} {ru re : Int} {wi : Int → Int} : ∀ k : Nat, (∀ j : Int, 0 ≤ j → j < k → ppl n cap ru re wi j ≠ -1) → lvZ n cap ru re wi k = 0
  | 0, _ => rfl
  | k + 1, h => by
    rw [lvZ_s, lv_0 k (fun j h0 h1 => h j h0 (by omega)), if_neg (h k (by omega) (by omega))]
    rfl

set_option maxHeartbeats 4000000 in
set_option maxRecDepth 100000 in
theorem c_X7_carsIn (l : Launch) (dd : va_G) (cI cJ cC cS : ClassId) (y0 v0 a0 r0 f0 g0 d0 t9 : Nat) (n sts ty th : Int) (mv : Int → Int) (mr mf mg md : Int → Int) (v : Int) (sz : Nat) (hn : 1 ≤ n ∧ n ≤ 8) (hc0 : 0 ≤ mv 0 ∧ mv 0 ≤ 9) (hc1 : 0 ≤ mv 1 ∧ mv 1 ≤ 3) (hc2 : 0 ≤ mv 2 ∧ mv 2 ≤ 8) (hcap : ∀ j : Int, 0 ≤ j → j < n → 0 ≤ mv (3 + j) ∧ mv (3 + j) ≤ 3) (hwi : ∀ j : Int, 0 ≤ j → j < mv 0 → 0 ≤ mv (12 + j) ∧ mv (12 + j) < n) (hgv : rg v) : gMi l yX7_carsIn wsX7_carsIn 5 0 0 dd cI cJ cC cS [.ref y0, vI v] [kO y0 7 [vI n, .ref v0, .ref a0, vI sts, .ref r0, .ref f0, .ref g0, .ref d0, .ref t9, vI ty, vI th], kI cI v0 21 mv, kI cI r0 9 mr, kI cI f0 9 mf, kI cI g0 9 mg, kI cI d0 8 md] sz (fun (z : Int) (u : Int × (Int → Int) × (Int → Int) × (Int → Int) × (Int → Int)) => ((0 ≤ v ∧ v < n ∧ z = sumZ (fun c => if ppl n (rmc mv) (mv 1) (mv 2) (wv mv) c = v then 2 ^ c.toNat else 0) (mv 0).toNat ∧ u.1 = 0) ∨ (¬ (0 ≤ v ∧ v < n) ∧ z = 0 ∧ u.1 = 1))) (fun (u : Int × (Int → Int) × (Int → Int) × (Int → Int) × (Int → Int)) => [kO y0 7 [vI n, .ref v0, .ref a0, vI sts, .ref r0, .ref f0, .ref g0, .ref d0, .ref t9, vI ty, vI u.1], kI cI v0 21 mv, kI cI r0 9 u.2.1, kI cI f0 9 u.2.2.1, kI cI g0 9 u.2.2.2.1, kI cI d0 8 u.2.2.2.2]) := by
  refine gMi_of (cc := cX7_carsIn) (maxL := 5) (ret := (some .int)) (by decide) rfl (Nat.le_of_ble_eq_true rfl) ?_
  intro p e s m args below meth c A Q hQ hx hb hr hts hown hlocks hnm hml H locs hP hK hD hA hS ls hl
  have hi7 : ∀ w ∈ wsX70, w ∈ wsX7_carsIn := fun _ h => (List.mem_cons_of_mem _ (List.mem_append_right _ h))
  have hl : lv_has ls 5 [(0, .ref y0), (1, vI v)] := hl
  refine lv_aload_n hx hb dX7_carsIn_0 rfl (lv_at hl 0 rfl) ?_
  refine z_iconst hx hb dX7_carsIn_1 ?_
  refine va_put (D := dd) (ci := 7) (v := vI 0) (ty := .int) (C := RX7) (T := TX7) (N := 11) hx hb hts hi7 tyX7 tyX7_ok nmX7 hown hK hP hD hS 0 rfl rfl 10 (by decide) (hts _ (List.mem_cons_of_mem _ (List.mem_append_left _ (List.mem_append_left _ (List.mem_of_getElem? (i := 0) rfl))))) (fun _ h9 => h9) rfl (by decide +kernel) rfl rfl (Nat.le_of_ble_eq_true rfl) dX7_carsIn_2 (fun H locs hP hD hS => ?_)
  have hP : va_P dd vwCl [kO y0 7 [vI n, .ref v0, .ref a0, vI sts, .ref r0, .ref f0, .ref g0, .ref d0, .ref t9, vI ty, vI 0], kI cI v0 21 mv, kI cI r0 9 mr, kI cI f0 9 mf, kI cI g0 9 mg, kI cI d0 8 md] H := hP
  have hD : va_D A [kO y0 7 [vI n, .ref v0, .ref a0, vI sts, .ref r0, .ref f0, .ref g0, .ref d0, .ref t9, vI ty, vI 0], kI cI v0 21 mv, kI cI r0 9 mr, kI cI f0 9 mf, kI cI g0 9 mg, kI cI d0 8 md] := hD
  refine lv_iload_n hx hb dX7_carsIn_5 rfl (lv_at hl 1 rfl) ?_
  refine z_iconst hx hb dX7_carsIn_6 ?_
  refine lv_aload_n hx hb dX7_carsIn_7 rfl (lv_at hl 0 rfl) ?_
  refine va_get (D := dd) (ci := 7) (v := vI n) (C := RX7) (T := TX7) (N := 11) hx hb hts hi7 hown hK hP 0 rfl rfl 0 (by decide) (hts _ (List.mem_cons_of_mem _ (List.mem_append_left _ (List.mem_append_left _ (List.mem_of_getElem? (i := 1) rfl))))) (fun _ h9 => h9) rfl dX7_carsIn_8 ?_
  refine z_iconst hx hb dX7_carsIn_11 ?_
  refine z_isub (z := (n - 1)) hx hb rfl dX7_carsIn_12 ?_
  refine g_callSi (own := RX7) (n := 3) (mc := 0) (ms := 0) (As := [vI v, vI 0, vI (n - 1)]) (rest := []) (wc := []) (wr := [kO y0 7 [vI n, .ref v0, .ref a0, vI sts, .ref r0, .ref f0, .ref g0, .ref d0, .ref t9, vI ty, vI 0], kI cI v0 21 mv, kI cI r0 9 mr, kI cI f0 9 mf, kI cI g0 9 mg, kI cI d0 8 md]) hx hb hml hown hts hK hP hD hS hA [] [0, 1, 2, 3, 4, 5] rfl rfl (by decide) (by decide) (c_X7_in l dd cI cJ cC cS v 0 (n - 1) H.size  (by first | assumption | omega) (by first | assumption | omega) (by first | assumption | omega)) gX7_carsIn_X7_in rfl (by decide +kernel) (by decide) (by decide) (by decide) (by decide) rfl hl.1 rfl (Nat.le_of_ble_eq_true rfl) dX7_carsIn_13 (fun z_1 u_2 H locs hp13 hP hD hS => ?_)
  rcases hp13 with ⟨hp13_0, hp13_1, hp13_z⟩ | ⟨hp13_0, hp13_z⟩
  · skip
    subst z_1
    have hP : va_P dd vwCl [kO y0 7 [vI n, .ref v0, .ref a0, vI sts, .ref r0, .ref f0, .ref g0, .ref d0, .ref t9, vI ty, vI 0], kI cI v0 21 mv, kI cI r0 9 mr, kI cI f0 9 mf, kI cI g0 9 mg, kI cI d0 8 md] H := hP
    have hD : va_D A [kO y0 7 [vI n, .ref v0, .ref a0, vI sts, .ref r0, .ref f0, .ref g0, .ref d0, .ref t9, vI ty, vI 0], kI cI v0 21 mv, kI cI r0 9 mr, kI cI f0 9 mf, kI cI g0 9 mg, kI cI d0 8 md] := hD
    refine z_if_ne (tgt := 25) hx hb dX7_carsIn_16 (by decide) (by omega) (fun c16 => ?_) (fun c16 => ?_)
    · skip
      refine lv_aload_n hx hb dX7_carsIn_25 rfl (lv_at hl 0 rfl) ?_
      refine g_callVi (own := RX7) (n := 0) (mc := 0) (ms := 0) (As := []) (rest := []) (wc := [kO y0 7 [vI n, .ref v0, .ref a0, vI sts, .ref r0, .ref f0, .ref g0, .ref d0, .ref t9, vI ty, vI 0], kI cI v0 21 mv, kI cI r0 9 mr, kI cI f0 9 mf, kI cI g0 9 mg, kI cI d0 8 md]) (wr := []) hx hb hml hown hts hK hP hD hS hA [0, 1, 2, 3, 4, 5] [] rfl rfl (by decide) (by decide) 7 0 rfl rfl (c_X7_parksNow l dd cI cJ cC cS y0 v0 a0 r0 f0 g0 d0 t9 n sts ty 0 mv mr mf mg md H.size  (by first | assumption | omega) (by first | assumption | omega) (by first | assumption | omega) (by first | assumption | omega) (by first | assumption | (intro j h0 h1; omega)) (by first | assumption | (intro j h0 h1; omega))) gX7_carsIn_X7_parksNow rfl (by decide +kernel) (by decide) (by decide) (by decide) (by decide) rfl hl.1 rfl (Nat.le_of_ble_eq_true rfl) dX7_carsIn_26 (fun z_3 u_4 H locs hp26 hP hD hS => ?_)
      obtain ⟨mra, mfa, mga, mda⟩ := u_4
      try dsimp only at hp26
      obtain ⟨z_3e, hp26⟩ := hp26
      subst z_3
      have hP : va_P dd vwCl [kO y0 7 [vI n, .ref v0, .ref a0, vI sts, .ref r0, .ref f0, .ref g0, .ref d0, .ref t9, vI ty, vI 0], kI cI v0 21 mv, kI cI r0 9 mra, kI cI f0 9 mfa, kI cI g0 9 mga, kI cI d0 8 mda] H := hP
      have hD : va_D A [kO y0 7 [vI n, .ref v0, .ref a0, vI sts, .ref r0, .ref f0, .ref g0, .ref d0, .ref t9, vI ty, vI 0], kI cI v0 21 mv, kI cI r0 9 mra, kI cI f0 9 mfa, kI cI g0 9 mga, kI cI d0 8 mda] := hD
      have hlv := lvZ_rg (n := n) (cap := rmc mv) (ru := mv 1) (re := mv 2) (wi := wv mv) (mv 0).toNat
      refine lv_istore_n (lv' := [(2, vI (lvZ n (rmc mv) (mv 1) (mv 2) (wv mv) (mv 0).toNat)), (0, .ref y0), (1, vI v)]) hx hb dX7_carsIn_29 rfl hl (by decide) rfl (fun ls hl => ?_)
      refine z_iconst hx hb dX7_carsIn_30 ?_
      refine lv_istore_n (lv' := [(3, vI 0), (2, vI (lvZ n (rmc mv) (mv 1) (mv 2) (wv mv) (mv 0).toNat)), (0, .ref y0), (1, vI v)]) hx hb dX7_carsIn_31 rfl hl (by decide) rfl (fun ls hl => ?_)
      refine z_iconst hx hb dX7_carsIn_32 ?_
      refine lv_istore (lv' := [(4, vI 0), (3, vI 0), (2, vI (lvZ n (rmc mv) (mv 1) (mv 2) (wv mv) (mv 0).toNat)), (0, .ref y0), (1, vI v)]) hx hb dX7_carsIn_33 hl (by decide) rfl (fun ls hl => ?_)
      have L35 : ∀ (nn : Nat) (i : Int) (b : Int) (H : Heap) (locs : List Loc) (ls : Array Slot), ((mv 0 + 1 - i).toNat) = nn → (0 ≤ i ∧ i ≤ mv 0) → (b = sumZ (fun c => if ppl n (rmc mv) (mv 1) (mv 2) (wv mv) c = v then 2 ^ c.toNat else 0) i.toNat) → (0 ≤ b ∧ b < 2 ^ i.toNat) → va_P dd vwCl [kO y0 7 [vI n, .ref v0, .ref a0, vI sts, .ref r0, .ref f0, .ref g0, .ref d0, .ref t9, vI ty, vI 0], kI cI v0 21 mv, kI cI r0 9 mra, kI cI f0 9 mfa, kI cI g0 9 mga, kI cI d0 8 mda] H → va_D A [kO y0 7 [vI n, .ref v0, .ref a0, vI sts, .ref r0, .ref f0, .ref g0, .ref d0, .ref t9, vI ty, vI 0], kI cI v0 21 mv, kI cI r0 9 mra, kI cI f0 9 mfa, kI cI g0 9 mga, kI cI d0 8 mda] → va_S A s.heap H locs → lv_has ls 5 [(3, vI b), (4, vI i), (2, vI (lvZ n (rmc mv) (mv 1) (mv 2) (wv mv) (mv 0).toNat)), (0, .ref y0), (1, vI v)] → W p l e (gR 5 0 0) s m args below meth c H locs 0 0 Q (F0 m 35 ls []) := by
        intro nn
        induction nn using Nat.strongRecOn with
        | ind nn L35i =>
        intro i b H locs ls hmeas hi hbb hbd hP hD hS hl
        refine lv_iload hx hb dX7_carsIn_35 (lv_at hl 1 rfl) ?_
        refine lv_aload_n hx hb dX7_carsIn_37 rfl (lv_at hl 3 rfl) ?_
        refine va_get (D := dd) (ci := 7) (v := .ref v0) (C := RX7) (T := TX7) (N := 11) hx hb hts hi7 hown hK hP 0 rfl rfl 1 (by decide) (hts _ (List.mem_cons_of_mem _ (List.mem_append_left _ (List.mem_append_left _ (List.mem_of_getElem? (i := 2) rfl))))) (fun _ h9 => h9) rfl dX7_carsIn_38 ?_
        refine z_iconst hx hb dX7_carsIn_41 ?_
        refine z_iald hx hb hK hP 1 0 rfl rfl (i := 0) (by omega) (by decide) dX7_carsIn_42 ?_
        refine z_icmp_ge (tgt := 74) hx hb dX7_carsIn_43 (by decide) (by omega) (fun c43 => ?_) (fun c43 => ?_)
        · skip
          refine lv_iload_n hx hb dX7_carsIn_74 rfl (lv_at hl 0 rfl) ?_
          subst hQ
          refine z_iret (z := b) hx hb hr hlocks dX7_carsIn_75 (0, mra, mfa, mga, mda) hK hS ⟨by omega, by omega⟩ hP hD ?_
          exact Or.inl ⟨by omega, by omega, by rw [hbb, show i = mv 0 by omega], rfl⟩
        · skip
          refine lv_iload_n hx hb dX7_carsIn_46 rfl (lv_at hl 0 rfl) ?_
          refine lv_aload_n hx hb dX7_carsIn_47 rfl (lv_at hl 3 rfl) ?_
          refine va_get (D := dd) (ci := 7) (v := .ref f0) (C := RX7) (T := TX7) (N := 11) hx hb hts hi7 hown hK hP 0 rfl rfl 5 (by decide) (hts _ (List.mem_cons_of_mem _ (List.mem_append_left _ (List.mem_append_left _ (List.mem_of_getElem? (i := 3) rfl))))) (fun _ h9 => h9) rfl dX7_carsIn_48 ?_
          refine lv_iload hx hb dX7_carsIn_51 (lv_at hl 1 rfl) ?_
          refine z_iald hx hb hK hP 3 0 rfl rfl (i := i) (by omega) (by decide) dX7_carsIn_53 ?_
          have hf9 := hp26 i (by omega) (by omega)
          have hr9 := ppl_rg n (rmc mv) (mv 1) (mv 2) (wv mv) i
          have hw9 : 0 ≤ wv mv i ∧ wv mv i < n := hwi i (by omega) (by omega)
          have hpw := pow_pos2 i.toNat
          refine lv_iload_n hx hb dX7_carsIn_54 rfl (lv_at hl 4 rfl) ?_
          refine z_icmp_ne (tgt := 65) hx hb dX7_carsIn_55 (by decide) (by omega) (fun c55 => ?_) (fun c55 => ?_)
          · skip
            refine z_iconst hx hb dX7_carsIn_65 ?_
            refine lv_ior hx hb dX7_carsIn_66 ?_
            refine z_bin (va := .null) (vb := .null) (y := zI (b + 0)) (by first | exact zI_orbit (by omega) | exact zI_or0 _) ?_
            refine lv_istore_n (lv' := [(3, vI (b + 0)), (4, vI i), (2, vI (lvZ n (rmc mv) (mv 1) (mv 2) (wv mv) (mv 0).toNat)), (0, .ref y0), (1, vI v)]) hx hb dX7_carsIn_67 rfl hl (by decide) rfl (fun ls hl => ?_)
            refine z_iinc (a := i) (z := (i + 1)) (lv' := [(4, vI (i + 1)), (3, vI (b + 0)), (2, vI (lvZ n (rmc mv) (mv 1) (mv 2) (wv mv) (mv 0).toNat)), (0, .ref y0), (1, vI v)]) hx hb dX7_carsIn_68 hl (k := 1) rfl rfl (by decide) rfl (fun ls hl => ?_)
            refine lv_goto (tgt := 35) hx hb dX7_carsIn_71 (by decide) ?_
            exact L35i _ (by omega) (i + 1) (b + 0) H locs ls rfl (by omega) (by first | rfl | (rw [sumZ_s (by omega), if_pos (by omega)]; omega) | (rw [sumZ_s (by omega), if_neg (by omega)]; omega)) (by first | exact ⟨by decide, by decide⟩ | (rw [pow_s (by omega)]; have hpw := pow_pos2 i.toNat; omega)) hP hD hS (lv_sub hl [1, 0, 2, 3, 4] rfl)
          · skip
            refine z_iconst hx hb dX7_carsIn_58 ?_
            refine lv_iload hx hb dX7_carsIn_59 (lv_at hl 1 rfl) ?_
            refine z_shl1 (z := (2 ^ i.toNat)) hx hb (by omega) rfl dX7_carsIn_61 ?_
            refine lv_goto (tgt := 66) hx hb dX7_carsIn_62 (by decide) ?_
            refine lv_ior hx hb dX7_carsIn_66 ?_
            refine z_bin (va := .null) (vb := .null) (y := zI (b + (2 ^ i.toNat))) (by first | exact zI_orbit (by omega) | exact zI_or0 _) ?_
            refine lv_istore_n (lv' := [(3, vI (b + (2 ^ i.toNat))), (4, vI i), (2, vI (lvZ n (rmc mv) (mv 1) (mv 2) (wv mv) (mv 0).toNat)), (0, .ref y0), (1, vI v)]) hx hb dX7_carsIn_67 rfl hl (by decide) rfl (fun ls hl => ?_)
            refine z_iinc (a := i) (z := (i + 1)) (lv' := [(4, vI (i + 1)), (3, vI (b + (2 ^ i.toNat))), (2, vI (lvZ n (rmc mv) (mv 1) (mv 2) (wv mv) (mv 0).toNat)), (0, .ref y0), (1, vI v)]) hx hb dX7_carsIn_68 hl (k := 1) rfl rfl (by decide) rfl (fun ls hl => ?_)
            refine lv_goto (tgt := 35) hx hb dX7_carsIn_71 (by decide) ?_
            exact L35i _ (by omega) (i + 1) (b + (2 ^ i.toNat)) H locs ls rfl (by omega) (by first | rfl | (rw [sumZ_s (by omega), if_pos (by omega)]; omega) | (rw [sumZ_s (by omega), if_neg (by omega)]; omega)) (by first | exact ⟨by decide, by decide⟩ | (rw [pow_s (by omega)]; have hpw := pow_pos2 i.toNat; omega)) hP hD hS (lv_sub hl [1, 0, 2, 3, 4] rfl)
      exact L35 _ 0 0 H locs ls rfl (by omega) (by first | rfl | (rw [sumZ_s (by omega), if_pos (by omega)]; omega) | (rw [sumZ_s (by omega), if_neg (by omega)]; omega)) (by first | exact ⟨by decide, by decide⟩ | (rw [pow_s (by omega)]; have hpw := pow_pos2 i.toNat; omega)) hP hD hS (lv_sub hl [1, 0, 2, 3, 4] rfl)
    · exact absurd c16 (by omega)
  · skip
    subst z_1
    have hP : va_P dd vwCl [kO y0 7 [vI n, .ref v0, .ref a0, vI sts, .ref r0, .ref f0, .ref g0, .ref d0, .ref t9, vI ty, vI 0], kI cI v0 21 mv, kI cI r0 9 mr, kI cI f0 9 mf, kI cI g0 9 mg, kI cI d0 8 md] H := hP
    have hD : va_D A [kO y0 7 [vI n, .ref v0, .ref a0, vI sts, .ref r0, .ref f0, .ref g0, .ref d0, .ref t9, vI ty, vI 0], kI cI v0 21 mv, kI cI r0 9 mr, kI cI f0 9 mf, kI cI g0 9 mg, kI cI d0 8 md] := hD
    refine z_if_ne (tgt := 25) hx hb dX7_carsIn_16 (by decide) (by omega) (fun c16 => ?_) (fun c16 => ?_)
    · exact absurd c16 (by omega)
    · skip
      refine lv_aload_n hx hb dX7_carsIn_19 rfl (lv_at hl 0 rfl) ?_
      refine z_iconst hx hb dX7_carsIn_20 ?_
      refine g_callVi (own := RX7) (n := 1) (mc := 0) (ms := 0) (As := [vI 1]) (rest := []) (wc := [kO y0 7 [vI n, .ref v0, .ref a0, vI sts, .ref r0, .ref f0, .ref g0, .ref d0, .ref t9, vI ty, vI 0]]) (wr := [kI cI v0 21 mv, kI cI r0 9 mr, kI cI f0 9 mf, kI cI g0 9 mg, kI cI d0 8 md]) hx hb hml hown hts hK hP hD hS hA [0] [1, 2, 3, 4, 5] rfl rfl (by decide) (by decide) 7 0 rfl rfl (c_X7_fails l dd cI cJ cC cS y0 v0 a0 r0 f0 g0 d0 t9 n sts ty 0 1 H.size) gX7_carsIn_X7_fails rfl (by decide +kernel) (by decide) (by decide) (by decide) (by decide) rfl hl.1 rfl (Nat.le_of_ble_eq_true rfl) dX7_carsIn_21 (fun z_5 u_6 H locs hp21 hP hD hS => ?_)
      subst z_5
      have hP : va_P dd vwCl [kI cI v0 21 mv, kI cI r0 9 mr, kI cI f0 9 mf, kI cI g0 9 mg, kI cI d0 8 md, kO y0 7 [vI n, .ref v0, .ref a0, vI sts, .ref r0, .ref f0, .ref g0, .ref d0, .ref t9, vI ty, vI 1]] H := hP
      have hD : va_D A [kI cI v0 21 mv, kI cI r0 9 mr, kI cI f0 9 mf, kI cI g0 9 mg, kI cI d0 8 md, kO y0 7 [vI n, .ref v0, .ref a0, vI sts, .ref r0, .ref f0, .ref g0, .ref d0, .ref t9, vI ty, vI 1]] := hD
      subst hQ
      refine z_iret (z := 0) hx hb hr hlocks dX7_carsIn_24 (1, mr, mf, mg, md) hK hS ⟨by omega, by omega⟩ (hP.sub [5, 0, 1, 2, 3, 4] rfl) (hD.sub [5, 0, 1, 2, 3, 4] (by decide) rfl) ?_
      exact Or.inr ⟨by omega, rfl, rfl⟩

set_option maxHeartbeats 4000000 in
set_option maxRecDepth 100000 in
theorem c_X7_firstLeaving (l : Launch) (dd : va_G) (cI cJ cC cS : ClassId) (y0 v0 a0 r0 f0 g0 d0 t9 : Nat) (n sts ty th : Int) (mv : Int → Int) (mr mf mg md : Int → Int) (sz : Nat) (hn : 1 ≤ n ∧ n ≤ 8) (hc0 : 0 ≤ mv 0 ∧ mv 0 ≤ 9) (hc1 : 0 ≤ mv 1 ∧ mv 1 ≤ 3) (hc2 : 0 ≤ mv 2 ∧ mv 2 ≤ 8) (hcap : ∀ j : Int, 0 ≤ j → j < n → 0 ≤ mv (3 + j) ∧ mv (3 + j) ≤ 3) (hwi : ∀ j : Int, 0 ≤ j → j < mv 0 → 0 ≤ mv (12 + j) ∧ mv (12 + j) < n) : gMi l yX7_firstLeaving wsX7_firstLeaving 5 0 0 dd cI cJ cC cS [.ref y0] [kO y0 7 [vI n, .ref v0, .ref a0, vI sts, .ref r0, .ref f0, .ref g0, .ref d0, .ref t9, vI ty, vI th], kI cI v0 21 mv, kI cI r0 9 mr, kI cI f0 9 mf, kI cI g0 9 mg, kI cI d0 8 md] sz (fun (z : Int) (u : (Int → Int) × (Int → Int) × (Int → Int) × (Int → Int)) => ((0 ≤ z ∧ z < mv 0 ∧ ppl n (rmc mv) (mv 1) (mv 2) (wv mv) z = -1 ∧ ∀ j : Int, 0 ≤ j → j < z → ppl n (rmc mv) (mv 1) (mv 2) (wv mv) j ≠ -1) ∨ (z = -1 ∧ ∀ j : Int, 0 ≤ j → j < mv 0 → ppl n (rmc mv) (mv 1) (mv 2) (wv mv) j ≠ -1))) (fun (u : (Int → Int) × (Int → Int) × (Int → Int) × (Int → Int)) => [kO y0 7 [vI n, .ref v0, .ref a0, vI sts, .ref r0, .ref f0, .ref g0, .ref d0, .ref t9, vI ty, vI 0], kI cI v0 21 mv, kI cI r0 9 u.1, kI cI f0 9 u.2.1, kI cI g0 9 u.2.2.1, kI cI d0 8 u.2.2.2]) := by
  refine gMi_of (cc := cX7_firstLeaving) (maxL := 3) (ret := (some .int)) (by decide) rfl (Nat.le_of_ble_eq_true rfl) ?_
  intro p e s m args below meth c A Q hQ hx hb hr hts hown hlocks hnm hml H locs hP hK hD hA hS ls hl
  have hi7 : ∀ w ∈ wsX70, w ∈ wsX7_firstLeaving := fun _ h => (List.mem_cons_of_mem _ (List.mem_append_right _ h))
  have hl : lv_has ls 3 [(0, .ref y0)] := hl
  refine lv_aload_n hx hb dX7_firstLeaving_0 rfl (lv_at hl 0 rfl) ?_
  refine z_iconst hx hb dX7_firstLeaving_1 ?_
  refine va_put (D := dd) (ci := 7) (v := vI 0) (ty := .int) (C := RX7) (T := TX7) (N := 11) hx hb hts hi7 tyX7 tyX7_ok nmX7 hown hK hP hD hS 0 rfl rfl 10 (by decide) (hts _ (List.mem_cons_of_mem _ (List.mem_append_left _ (List.mem_append_left _ (List.mem_of_getElem? (i := 0) rfl))))) (fun _ h9 => h9) rfl (by decide +kernel) rfl rfl (Nat.le_of_ble_eq_true rfl) dX7_firstLeaving_2 (fun H locs hP hD hS => ?_)
  have hP : va_P dd vwCl [kO y0 7 [vI n, .ref v0, .ref a0, vI sts, .ref r0, .ref f0, .ref g0, .ref d0, .ref t9, vI ty, vI 0], kI cI v0 21 mv, kI cI r0 9 mr, kI cI f0 9 mf, kI cI g0 9 mg, kI cI d0 8 md] H := hP
  have hD : va_D A [kO y0 7 [vI n, .ref v0, .ref a0, vI sts, .ref r0, .ref f0, .ref g0, .ref d0, .ref t9, vI ty, vI 0], kI cI v0 21 mv, kI cI r0 9 mr, kI cI f0 9 mf, kI cI g0 9 mg, kI cI d0 8 md] := hD
  refine lv_aload_n hx hb dX7_firstLeaving_5 rfl (lv_at hl 0 rfl) ?_
  refine g_callVi (own := RX7) (n := 0) (mc := 0) (ms := 0) (As := []) (rest := []) (wc := [kO y0 7 [vI n, .ref v0, .ref a0, vI sts, .ref r0, .ref f0, .ref g0, .ref d0, .ref t9, vI ty, vI 0], kI cI v0 21 mv, kI cI r0 9 mr, kI cI f0 9 mf, kI cI g0 9 mg, kI cI d0 8 md]) (wr := []) hx hb hml hown hts hK hP hD hS hA [0, 1, 2, 3, 4, 5] [] rfl rfl (by decide) (by decide) 7 0 rfl rfl (c_X7_parksNow l dd cI cJ cC cS y0 v0 a0 r0 f0 g0 d0 t9 n sts ty 0 mv mr mf mg md H.size  (by first | assumption | omega) (by first | assumption | omega) (by first | assumption | omega) (by first | assumption | omega) (by first | assumption | (intro j h0 h1; omega)) (by first | assumption | (intro j h0 h1; omega))) gX7_firstLeaving_X7_parksNow rfl (by decide +kernel) (by decide) (by decide) (by decide) (by decide) rfl hl.1 rfl (Nat.le_of_ble_eq_true rfl) dX7_firstLeaving_6 (fun z_1 u_2 H locs hp6 hP hD hS => ?_)
  obtain ⟨mra, mfa, mga, mda⟩ := u_2
  try dsimp only at hp6
  obtain ⟨z_1e, hp6⟩ := hp6
  subst z_1
  have hP : va_P dd vwCl [kO y0 7 [vI n, .ref v0, .ref a0, vI sts, .ref r0, .ref f0, .ref g0, .ref d0, .ref t9, vI ty, vI 0], kI cI v0 21 mv, kI cI r0 9 mra, kI cI f0 9 mfa, kI cI g0 9 mga, kI cI d0 8 mda] H := hP
  have hD : va_D A [kO y0 7 [vI n, .ref v0, .ref a0, vI sts, .ref r0, .ref f0, .ref g0, .ref d0, .ref t9, vI ty, vI 0], kI cI v0 21 mv, kI cI r0 9 mra, kI cI f0 9 mfa, kI cI g0 9 mga, kI cI d0 8 mda] := hD
  have hlv := lvZ_rg (n := n) (cap := rmc mv) (ru := mv 1) (re := mv 2) (wi := wv mv) (mv 0).toNat
  refine lv_istore_n (lv' := [(1, vI (lvZ n (rmc mv) (mv 1) (mv 2) (wv mv) (mv 0).toNat)), (0, .ref y0)]) hx hb dX7_firstLeaving_9 rfl hl (by decide) rfl (fun ls hl => ?_)
  refine z_iconst hx hb dX7_firstLeaving_10 ?_
  refine lv_istore_n (lv' := [(2, vI 0), (1, vI (lvZ n (rmc mv) (mv 1) (mv 2) (wv mv) (mv 0).toNat)), (0, .ref y0)]) hx hb dX7_firstLeaving_11 rfl hl (by decide) rfl (fun ls hl => ?_)
  have L12 : ∀ (nn : Nat) (i : Int) (H : Heap) (locs : List Loc) (ls : Array Slot), ((mv 0 + 1 - i).toNat) = nn → (0 ≤ i ∧ i ≤ mv 0) → (∀ j : Int, 0 ≤ j → j < i → ppl n (rmc mv) (mv 1) (mv 2) (wv mv) j ≠ -1) → va_P dd vwCl [kO y0 7 [vI n, .ref v0, .ref a0, vI sts, .ref r0, .ref f0, .ref g0, .ref d0, .ref t9, vI ty, vI 0], kI cI v0 21 mv, kI cI r0 9 mra, kI cI f0 9 mfa, kI cI g0 9 mga, kI cI d0 8 mda] H → va_D A [kO y0 7 [vI n, .ref v0, .ref a0, vI sts, .ref r0, .ref f0, .ref g0, .ref d0, .ref t9, vI ty, vI 0], kI cI v0 21 mv, kI cI r0 9 mra, kI cI f0 9 mfa, kI cI g0 9 mga, kI cI d0 8 mda] → va_S A s.heap H locs → lv_has ls 3 [(2, vI i), (1, vI (lvZ n (rmc mv) (mv 1) (mv 2) (wv mv) (mv 0).toNat)), (0, .ref y0)] → W p l e (gR 5 0 0) s m args below meth c H locs 0 0 Q (F0 m 12 ls []) := by
    intro nn
    induction nn using Nat.strongRecOn with
    | ind nn L12i =>
    intro i H locs ls hmeas hi hall hP hD hS hl
    refine lv_iload_n hx hb dX7_firstLeaving_12 rfl (lv_at hl 1 rfl) ?_
    refine z_if_le (tgt := 31) hx hb dX7_firstLeaving_13 (by decide) (by omega) (fun c13 => ?_) (fun c13 => ?_)
    · skip
      refine lv_iload_n hx hb dX7_firstLeaving_31 rfl (lv_at hl 1 rfl) ?_
      refine z_if_le (tgt := 39) hx hb dX7_firstLeaving_32 (by decide) (by omega) (fun c32 => ?_) (fun c32 => ?_)
      · skip
        refine z_iconst hx hb dX7_firstLeaving_39 ?_
        subst hQ
        refine z_iret (z := (-1)) hx hb hr hlocks dX7_firstLeaving_40 (mra, mfa, mga, mda) hK hS ⟨by omega, by omega⟩ hP hD ?_
        first | (exfalso; omega) | exact Or.inl ⟨by omega, by omega, by omega, hall⟩ | exact Or.inr ⟨rfl, fun j h0 h1 => lv_no _ (by omega) j h0 (by omega)⟩
      · skip
        refine lv_iload_n hx hb dX7_firstLeaving_35 rfl (lv_at hl 0 rfl) ?_
        refine lv_goto (tgt := 40) hx hb dX7_firstLeaving_36 (by decide) ?_
        subst hQ
        refine z_iret (z := i) hx hb hr hlocks dX7_firstLeaving_40 (mra, mfa, mga, mda) hK hS ⟨by omega, by omega⟩ hP hD ?_
        first | (exfalso; omega) | exact Or.inl ⟨by omega, by omega, by omega, hall⟩ | exact Or.inr ⟨rfl, fun j h0 h1 => lv_no _ (by omega) j h0 (by omega)⟩
    · skip
      have him : i < mv 0 := by
        by_cases q : i = mv 0
        · have q2 := lv_0 (n := n) (cap := rmc mv) (ru := mv 1) (re := mv 2) (wi := wv mv) (mv 0).toNat (fun j h0 h1 => hall j h0 (by omega))
          omega
        · omega
      refine lv_aload_n hx hb dX7_firstLeaving_16 rfl (lv_at hl 2 rfl) ?_
      refine va_get (D := dd) (ci := 7) (v := .ref f0) (C := RX7) (T := TX7) (N := 11) hx hb hts hi7 hown hK hP 0 rfl rfl 5 (by decide) (hts _ (List.mem_cons_of_mem _ (List.mem_append_left _ (List.mem_append_left _ (List.mem_of_getElem? (i := 1) rfl))))) (fun _ h9 => h9) rfl dX7_firstLeaving_17 ?_
      refine lv_iload_n hx hb dX7_firstLeaving_20 rfl (lv_at hl 0 rfl) ?_
      refine z_iald hx hb hK hP 3 0 rfl rfl (i := i) (by omega) (by decide) dX7_firstLeaving_21 ?_
      have hf9 := hp6 i (by omega) (by omega)
      have hr9 := ppl_rg n (rmc mv) (mv 1) (mv 2) (wv mv) i
      have hw9 : 0 ≤ wv mv i ∧ wv mv i < n := hwi i (by omega) (by omega)
      have hpw := pow_pos2 i.toNat
      refine z_if_lt (tgt := 31) hx hb dX7_firstLeaving_22 (by decide) (by omega) (fun c22 => ?_) (fun c22 => ?_)
      · skip
        refine lv_iload_n hx hb dX7_firstLeaving_31 rfl (lv_at hl 1 rfl) ?_
        refine z_if_le (tgt := 39) hx hb dX7_firstLeaving_32 (by decide) (by omega) (fun c32 => ?_) (fun c32 => ?_)
        · skip
          refine z_iconst hx hb dX7_firstLeaving_39 ?_
          subst hQ
          refine z_iret (z := (-1)) hx hb hr hlocks dX7_firstLeaving_40 (mra, mfa, mga, mda) hK hS ⟨by omega, by omega⟩ hP hD ?_
          first | (exfalso; omega) | exact Or.inl ⟨by omega, by omega, by omega, hall⟩ | exact Or.inr ⟨rfl, fun j h0 h1 => lv_no _ (by omega) j h0 (by omega)⟩
        · skip
          refine lv_iload_n hx hb dX7_firstLeaving_35 rfl (lv_at hl 0 rfl) ?_
          refine lv_goto (tgt := 40) hx hb dX7_firstLeaving_36 (by decide) ?_
          subst hQ
          refine z_iret (z := i) hx hb hr hlocks dX7_firstLeaving_40 (mra, mfa, mga, mda) hK hS ⟨by omega, by omega⟩ hP hD ?_
          first | (exfalso; omega) | exact Or.inl ⟨by omega, by omega, by omega, hall⟩ | exact Or.inr ⟨rfl, fun j h0 h1 => lv_no _ (by omega) j h0 (by omega)⟩
      · skip
        refine z_iinc (a := i) (z := (i + 1)) (lv' := [(2, vI (i + 1)), (1, vI (lvZ n (rmc mv) (mv 1) (mv 2) (wv mv) (mv 0).toNat)), (0, .ref y0)]) hx hb dX7_firstLeaving_25 hl (k := 0) rfl rfl (by decide) rfl (fun ls hl => ?_)
        refine lv_goto (tgt := 12) hx hb dX7_firstLeaving_28 (by decide) ?_
        exact L12i _ (by omega) (i + 1) H locs ls rfl (by omega) (by
          intro j h0 h1
          by_cases ee : j = i
          · subst ee; omega
          · exact hall j h0 (by omega)) hP hD hS hl
  exact L12 _ 0 H locs ls rfl (by omega) (fun j h0 h1 => absurd h1 (by omega)) hP hD hS hl

set_option maxHeartbeats 4000000 in
set_option maxRecDepth 100000 in
theorem c_X7_luckyNow (l : Launch) (dd : va_G) (cI cJ cC cS : ClassId) (y0 v0 a0 r0 f0 g0 d0 t9 : Nat) (n sts ty th : Int) (mv : Int → Int) (mr mf mg md : Int → Int) (sz : Nat) (hn : 1 ≤ n ∧ n ≤ 8) (hc0 : 0 ≤ mv 0 ∧ mv 0 ≤ 9) (hc1 : 0 ≤ mv 1 ∧ mv 1 ≤ 3) (hc2 : 0 ≤ mv 2 ∧ mv 2 ≤ 8) (hcap : ∀ j : Int, 0 ≤ j → j < n → 0 ≤ mv (3 + j) ∧ mv (3 + j) ≤ 3) (hwi : ∀ j : Int, 0 ≤ j → j < mv 0 → 0 ≤ mv (12 + j) ∧ mv (12 + j) < n) : gMi l yX7_luckyNow wsX7_luckyNow 5 0 0 dd cI cJ cC cS [.ref y0] [kO y0 7 [vI n, .ref v0, .ref a0, vI sts, .ref r0, .ref f0, .ref g0, .ref d0, .ref t9, vI ty, vI th], kI cI v0 21 mv, kI cI r0 9 mr, kI cI f0 9 mf, kI cI g0 9 mg, kI cI d0 8 md] sz (fun (z : Int) (u : (Int → Int) × (Int → Int) × (Int → Int) × (Int → Int)) => z = sumZ (fun c => if ppl n (rmc mv) (mv 1) (mv 2) (wv mv) c = wv mv c then 2 ^ c.toNat else 0) (mv 0).toNat) (fun (u : (Int → Int) × (Int → Int) × (Int → Int) × (Int → Int)) => [kO y0 7 [vI n, .ref v0, .ref a0, vI sts, .ref r0, .ref f0, .ref g0, .ref d0, .ref t9, vI ty, vI th], kI cI v0 21 mv, kI cI r0 9 u.1, kI cI f0 9 u.2.1, kI cI g0 9 u.2.2.1, kI cI d0 8 u.2.2.2]) := by
  refine gMi_of (cc := cX7_luckyNow) (maxL := 4) (ret := (some .int)) (by decide) rfl (Nat.le_of_ble_eq_true rfl) ?_
  intro p e s m args below meth c A Q hQ hx hb hr hts hown hlocks hnm hml H locs hP hK hD hA hS ls hl
  have hi7 : ∀ w ∈ wsX70, w ∈ wsX7_luckyNow := fun _ h => (List.mem_cons_of_mem _ (List.mem_append_right _ h))
  have hl : lv_has ls 4 [(0, .ref y0)] := hl
  refine lv_aload_n hx hb dX7_luckyNow_0 rfl (lv_at hl 0 rfl) ?_
  refine g_callVi (own := RX7) (n := 0) (mc := 0) (ms := 0) (As := []) (rest := []) (wc := [kO y0 7 [vI n, .ref v0, .ref a0, vI sts, .ref r0, .ref f0, .ref g0, .ref d0, .ref t9, vI ty, vI th], kI cI v0 21 mv, kI cI r0 9 mr, kI cI f0 9 mf, kI cI g0 9 mg, kI cI d0 8 md]) (wr := []) hx hb hml hown hts hK hP hD hS hA [0, 1, 2, 3, 4, 5] [] rfl rfl (by decide) (by decide) 7 0 rfl rfl (c_X7_parksNow l dd cI cJ cC cS y0 v0 a0 r0 f0 g0 d0 t9 n sts ty th mv mr mf mg md H.size  (by first | assumption | omega) (by first | assumption | omega) (by first | assumption | omega) (by first | assumption | omega) (by first | assumption | (intro j h0 h1; omega)) (by first | assumption | (intro j h0 h1; omega))) gX7_luckyNow_X7_parksNow rfl (by decide +kernel) (by decide) (by decide) (by decide) (by decide) rfl hl.1 rfl (Nat.le_of_ble_eq_true rfl) dX7_luckyNow_1 (fun z_1 u_2 H locs hp1 hP hD hS => ?_)
  obtain ⟨mra, mfa, mga, mda⟩ := u_2
  try dsimp only at hp1
  obtain ⟨z_1e, hp1⟩ := hp1
  subst z_1
  have hP : va_P dd vwCl [kO y0 7 [vI n, .ref v0, .ref a0, vI sts, .ref r0, .ref f0, .ref g0, .ref d0, .ref t9, vI ty, vI th], kI cI v0 21 mv, kI cI r0 9 mra, kI cI f0 9 mfa, kI cI g0 9 mga, kI cI d0 8 mda] H := hP
  have hD : va_D A [kO y0 7 [vI n, .ref v0, .ref a0, vI sts, .ref r0, .ref f0, .ref g0, .ref d0, .ref t9, vI ty, vI th], kI cI v0 21 mv, kI cI r0 9 mra, kI cI f0 9 mfa, kI cI g0 9 mga, kI cI d0 8 mda] := hD
  have hlv := lvZ_rg (n := n) (cap := rmc mv) (ru := mv 1) (re := mv 2) (wi := wv mv) (mv 0).toNat
  refine lv_istore_n (lv' := [(1, vI (lvZ n (rmc mv) (mv 1) (mv 2) (wv mv) (mv 0).toNat)), (0, .ref y0)]) hx hb dX7_luckyNow_4 rfl hl (by decide) rfl (fun ls hl => ?_)
  refine z_iconst hx hb dX7_luckyNow_5 ?_
  refine lv_istore_n (lv' := [(2, vI 0), (1, vI (lvZ n (rmc mv) (mv 1) (mv 2) (wv mv) (mv 0).toNat)), (0, .ref y0)]) hx hb dX7_luckyNow_6 rfl hl (by decide) rfl (fun ls hl => ?_)
  refine z_iconst hx hb dX7_luckyNow_7 ?_
  refine lv_istore_n (lv' := [(3, vI 0), (2, vI 0), (1, vI (lvZ n (rmc mv) (mv 1) (mv 2) (wv mv) (mv 0).toNat)), (0, .ref y0)]) hx hb dX7_luckyNow_8 rfl hl (by decide) rfl (fun ls hl => ?_)
  have L9 : ∀ (nn : Nat) (i : Int) (b : Int) (H : Heap) (locs : List Loc) (ls : Array Slot), ((mv 0 + 1 - i).toNat) = nn → (0 ≤ i ∧ i ≤ mv 0) → (b = sumZ (fun c => if ppl n (rmc mv) (mv 1) (mv 2) (wv mv) c = wv mv c then 2 ^ c.toNat else 0) i.toNat) → (0 ≤ b ∧ b < 2 ^ i.toNat) → va_P dd vwCl [kO y0 7 [vI n, .ref v0, .ref a0, vI sts, .ref r0, .ref f0, .ref g0, .ref d0, .ref t9, vI ty, vI th], kI cI v0 21 mv, kI cI r0 9 mra, kI cI f0 9 mfa, kI cI g0 9 mga, kI cI d0 8 mda] H → va_D A [kO y0 7 [vI n, .ref v0, .ref a0, vI sts, .ref r0, .ref f0, .ref g0, .ref d0, .ref t9, vI ty, vI th], kI cI v0 21 mv, kI cI r0 9 mra, kI cI f0 9 mfa, kI cI g0 9 mga, kI cI d0 8 mda] → va_S A s.heap H locs → lv_has ls 4 [(2, vI b), (3, vI i), (1, vI (lvZ n (rmc mv) (mv 1) (mv 2) (wv mv) (mv 0).toNat)), (0, .ref y0)] → W p l e (gR 5 0 0) s m args below meth c H locs 0 0 Q (F0 m 9 ls []) := by
    intro nn
    induction nn using Nat.strongRecOn with
    | ind nn L9i =>
    intro i b H locs ls hmeas hi hbb hbd hP hD hS hl
    refine lv_iload_n hx hb dX7_luckyNow_9 rfl (lv_at hl 1 rfl) ?_
    refine lv_aload_n hx hb dX7_luckyNow_10 rfl (lv_at hl 3 rfl) ?_
    refine va_get (D := dd) (ci := 7) (v := .ref v0) (C := RX7) (T := TX7) (N := 11) hx hb hts hi7 hown hK hP 0 rfl rfl 1 (by decide) (hts _ (List.mem_cons_of_mem _ (List.mem_append_left _ (List.mem_append_left _ (List.mem_of_getElem? (i := 0) rfl))))) (fun _ h9 => h9) rfl dX7_luckyNow_11 ?_
    refine z_iconst hx hb dX7_luckyNow_14 ?_
    refine z_iald hx hb hK hP 1 0 rfl rfl (i := 0) (by omega) (by decide) dX7_luckyNow_15 ?_
    refine z_icmp_ge (tgt := 50) hx hb dX7_luckyNow_16 (by decide) (by omega) (fun c16 => ?_) (fun c16 => ?_)
    · skip
      refine lv_iload_n hx hb dX7_luckyNow_50 rfl (lv_at hl 0 rfl) ?_
      subst hQ
      refine z_iret (z := b) hx hb hr hlocks dX7_luckyNow_51 (mra, mfa, mga, mda) hK hS ⟨by omega, by omega⟩ hP hD ?_
      rw [hbb, show i = mv 0 by omega]
    · skip
      refine lv_iload_n hx hb dX7_luckyNow_19 rfl (lv_at hl 0 rfl) ?_
      refine lv_aload_n hx hb dX7_luckyNow_20 rfl (lv_at hl 3 rfl) ?_
      refine va_get (D := dd) (ci := 7) (v := .ref f0) (C := RX7) (T := TX7) (N := 11) hx hb hts hi7 hown hK hP 0 rfl rfl 5 (by decide) (hts _ (List.mem_cons_of_mem _ (List.mem_append_left _ (List.mem_append_left _ (List.mem_of_getElem? (i := 1) rfl))))) (fun _ h9 => h9) rfl dX7_luckyNow_21 ?_
      refine lv_iload_n hx hb dX7_luckyNow_24 rfl (lv_at hl 1 rfl) ?_
      refine z_iald hx hb hK hP 3 0 rfl rfl (i := i) (by omega) (by decide) dX7_luckyNow_25 ?_
      have hf9 := hp1 i (by omega) (by omega)
      have hr9 := ppl_rg n (rmc mv) (mv 1) (mv 2) (wv mv) i
      have hw9 : 0 ≤ wv mv i ∧ wv mv i < n := hwi i (by omega) (by omega)
      have hpw := pow_pos2 i.toNat
      refine lv_aload_n hx hb dX7_luckyNow_26 rfl (lv_at hl 3 rfl) ?_
      refine va_get (D := dd) (ci := 7) (v := .ref r0) (C := RX7) (T := TX7) (N := 11) hx hb hts hi7 hown hK hP 0 rfl rfl 4 (by decide) (hts _ (List.mem_cons_of_mem _ (List.mem_append_left _ (List.mem_append_left _ (List.mem_of_getElem? (i := 2) rfl))))) (fun _ h9 => h9) rfl dX7_luckyNow_27 ?_
      refine lv_iload_n hx hb dX7_luckyNow_30 rfl (lv_at hl 1 rfl) ?_
      refine z_iald hx hb hK hP 2 0 rfl rfl (i := i) (by omega) (by decide) dX7_luckyNow_31 ?_
      refine z_icmp_ne (tgt := 41) hx hb dX7_luckyNow_32 (by decide) (by omega) (fun c32 => ?_) (fun c32 => ?_)
      · skip
        refine z_iconst hx hb dX7_luckyNow_41 ?_
        refine lv_ior hx hb dX7_luckyNow_42 ?_
        refine z_bin (va := .null) (vb := .null) (y := zI (b + 0)) (by first | exact zI_orbit (by omega) | exact zI_or0 _) ?_
        refine lv_istore_n (lv' := [(2, vI (b + 0)), (3, vI i), (1, vI (lvZ n (rmc mv) (mv 1) (mv 2) (wv mv) (mv 0).toNat)), (0, .ref y0)]) hx hb dX7_luckyNow_43 rfl hl (by decide) rfl (fun ls hl => ?_)
        refine z_iinc (a := i) (z := (i + 1)) (lv' := [(3, vI (i + 1)), (2, vI (b + 0)), (1, vI (lvZ n (rmc mv) (mv 1) (mv 2) (wv mv) (mv 0).toNat)), (0, .ref y0)]) hx hb dX7_luckyNow_44 hl (k := 1) rfl rfl (by decide) rfl (fun ls hl => ?_)
        refine lv_goto (tgt := 9) hx hb dX7_luckyNow_47 (by decide) ?_
        exact L9i _ (by omega) (i + 1) (b + 0) H locs ls rfl (by omega) (by first | rfl | (rw [sumZ_s (by omega), if_pos (by omega)]; omega) | (rw [sumZ_s (by omega), if_neg (by omega)]; omega)) (by first | exact ⟨by decide, by decide⟩ | (rw [pow_s (by omega)]; have hpw := pow_pos2 i.toNat; omega)) hP hD hS (lv_sub hl [1, 0, 2, 3] rfl)
      · skip
        refine z_iconst hx hb dX7_luckyNow_35 ?_
        refine lv_iload_n hx hb dX7_luckyNow_36 rfl (lv_at hl 1 rfl) ?_
        refine z_shl1 (z := (2 ^ i.toNat)) hx hb (by omega) rfl dX7_luckyNow_37 ?_
        refine lv_goto (tgt := 42) hx hb dX7_luckyNow_38 (by decide) ?_
        refine lv_ior hx hb dX7_luckyNow_42 ?_
        refine z_bin (va := .null) (vb := .null) (y := zI (b + (2 ^ i.toNat))) (by first | exact zI_orbit (by omega) | exact zI_or0 _) ?_
        refine lv_istore_n (lv' := [(2, vI (b + (2 ^ i.toNat))), (3, vI i), (1, vI (lvZ n (rmc mv) (mv 1) (mv 2) (wv mv) (mv 0).toNat)), (0, .ref y0)]) hx hb dX7_luckyNow_43 rfl hl (by decide) rfl (fun ls hl => ?_)
        refine z_iinc (a := i) (z := (i + 1)) (lv' := [(3, vI (i + 1)), (2, vI (b + (2 ^ i.toNat))), (1, vI (lvZ n (rmc mv) (mv 1) (mv 2) (wv mv) (mv 0).toNat)), (0, .ref y0)]) hx hb dX7_luckyNow_44 hl (k := 1) rfl rfl (by decide) rfl (fun ls hl => ?_)
        refine lv_goto (tgt := 9) hx hb dX7_luckyNow_47 (by decide) ?_
        exact L9i _ (by omega) (i + 1) (b + (2 ^ i.toNat)) H locs ls rfl (by omega) (by first | rfl | (rw [sumZ_s (by omega), if_pos (by omega)]; omega) | (rw [sumZ_s (by omega), if_neg (by omega)]; omega)) (by first | exact ⟨by decide, by decide⟩ | (rw [pow_s (by omega)]; have hpw := pow_pos2 i.toNat; omega)) hP hD hS (lv_sub hl [1, 0, 2, 3] rfl)
  exact L9 _ 0 0 H locs ls rfl (by omega) (by first | rfl | (rw [sumZ_s (by omega), if_pos (by omega)]; omega) | (rw [sumZ_s (by omega), if_neg (by omega)]; omega)) (by first | exact ⟨by decide, by decide⟩ | (rw [pow_s (by omega)]; have hpw := pow_pos2 i.toNat; omega)) hP hD hS (lv_sub hl [1, 0, 2, 3] rfl)

set_option maxHeartbeats 4000000 in
set_option maxRecDepth 100000 in
theorem c_X7_lucky (l : Launch) (dd : va_G) (cI cJ cC cS : ClassId) (y0 v0 a0 r0 f0 g0 d0 t9 : Nat) (n sts ty th : Int) (mv : Int → Int) (mr mf mg md : Int → Int) (sz : Nat) (hn : 1 ≤ n ∧ n ≤ 8) (hc0 : 0 ≤ mv 0 ∧ mv 0 ≤ 9) (hc1 : 0 ≤ mv 1 ∧ mv 1 ≤ 3) (hc2 : 0 ≤ mv 2 ∧ mv 2 ≤ 8) (hcap : ∀ j : Int, 0 ≤ j → j < n → 0 ≤ mv (3 + j) ∧ mv (3 + j) ≤ 3) (hwi : ∀ j : Int, 0 ≤ j → j < mv 0 → 0 ≤ mv (12 + j) ∧ mv (12 + j) < n) : gMi l yX7_lucky wsX7_lucky 6 0 0 dd cI cJ cC cS [.ref y0] [kO y0 7 [vI n, .ref v0, .ref a0, vI sts, .ref r0, .ref f0, .ref g0, .ref d0, .ref t9, vI ty, vI th], kI cI v0 21 mv, kI cI r0 9 mr, kI cI f0 9 mf, kI cI g0 9 mg, kI cI d0 8 md] sz (fun (z : Int) (u : (Int → Int) × (Int → Int) × (Int → Int) × (Int → Int)) => z = sumZ (fun c => if ppl n (rmc mv) (mv 1) (mv 2) (wv mv) c = wv mv c then 2 ^ c.toNat else 0) (mv 0).toNat) (fun (u : (Int → Int) × (Int → Int) × (Int → Int) × (Int → Int)) => [kO y0 7 [vI n, .ref v0, .ref a0, vI sts, .ref r0, .ref f0, .ref g0, .ref d0, .ref t9, vI ty, vI 0], kI cI v0 21 mv, kI cI r0 9 u.1, kI cI f0 9 u.2.1, kI cI g0 9 u.2.2.1, kI cI d0 8 u.2.2.2]) := by
  refine gMi_of (cc := cX7_lucky) (maxL := 1) (ret := (some .int)) (by decide) rfl (Nat.le_of_ble_eq_true rfl) ?_
  intro p e s m args below meth c A Q hQ hx hb hr hts hown hlocks hnm hml H locs hP hK hD hA hS ls hl
  have hi7 : ∀ w ∈ wsX70, w ∈ wsX7_lucky := fun _ h => (List.mem_cons_of_mem _ (List.mem_append_right _ h))
  have hl : lv_has ls 1 [(0, .ref y0)] := hl
  refine lv_aload_n hx hb dX7_lucky_0 rfl (lv_at hl 0 rfl) ?_
  refine z_iconst hx hb dX7_lucky_1 ?_
  refine va_put (D := dd) (ci := 7) (v := vI 0) (ty := .int) (C := RX7) (T := TX7) (N := 11) hx hb hts hi7 tyX7 tyX7_ok nmX7 hown hK hP hD hS 0 rfl rfl 10 (by decide) (hts _ (List.mem_cons_of_mem _ (List.mem_append_left _ (List.mem_append_left _ (List.mem_of_getElem? (i := 0) rfl))))) (fun _ h9 => h9) rfl (by decide +kernel) rfl rfl (Nat.le_of_ble_eq_true rfl) dX7_lucky_2 (fun H locs hP hD hS => ?_)
  have hP : va_P dd vwCl [kO y0 7 [vI n, .ref v0, .ref a0, vI sts, .ref r0, .ref f0, .ref g0, .ref d0, .ref t9, vI ty, vI 0], kI cI v0 21 mv, kI cI r0 9 mr, kI cI f0 9 mf, kI cI g0 9 mg, kI cI d0 8 md] H := hP
  have hD : va_D A [kO y0 7 [vI n, .ref v0, .ref a0, vI sts, .ref r0, .ref f0, .ref g0, .ref d0, .ref t9, vI ty, vI 0], kI cI v0 21 mv, kI cI r0 9 mr, kI cI f0 9 mf, kI cI g0 9 mg, kI cI d0 8 md] := hD
  refine lv_aload_n hx hb dX7_lucky_5 rfl (lv_at hl 0 rfl) ?_
  refine g_callVi (own := RX7) (n := 0) (mc := 0) (ms := 0) (As := []) (rest := []) (wc := [kO y0 7 [vI n, .ref v0, .ref a0, vI sts, .ref r0, .ref f0, .ref g0, .ref d0, .ref t9, vI ty, vI 0], kI cI v0 21 mv, kI cI r0 9 mr, kI cI f0 9 mf, kI cI g0 9 mg, kI cI d0 8 md]) (wr := []) hx hb hml hown hts hK hP hD hS hA [0, 1, 2, 3, 4, 5] [] rfl rfl (by decide) (by decide) 7 0 rfl rfl (c_X7_luckyNow l dd cI cJ cC cS y0 v0 a0 r0 f0 g0 d0 t9 n sts ty 0 mv mr mf mg md H.size  (by first | assumption | omega) (by first | assumption | omega) (by first | assumption | omega) (by first | assumption | omega) (by first | assumption | (intro j h0 h1; omega)) (by first | assumption | (intro j h0 h1; omega))) gX7_lucky_X7_luckyNow rfl (by decide +kernel) (by decide) (by decide) (by decide) (by decide) rfl hl.1 rfl (Nat.le_of_ble_eq_true rfl) dX7_lucky_6 (fun z_1 u_2 H locs hp6 hP hD hS => ?_)
  obtain ⟨mr1_3, mf1_4, mg1_5, md1_6⟩ := u_2
  try dsimp only at hp6
  subst z_1
  have hP : va_P dd vwCl [kO y0 7 [vI n, .ref v0, .ref a0, vI sts, .ref r0, .ref f0, .ref g0, .ref d0, .ref t9, vI ty, vI 0], kI cI v0 21 mv, kI cI r0 9 mr1_3, kI cI f0 9 mf1_4, kI cI g0 9 mg1_5, kI cI d0 8 md1_6] H := hP
  have hD : va_D A [kO y0 7 [vI n, .ref v0, .ref a0, vI sts, .ref r0, .ref f0, .ref g0, .ref d0, .ref t9, vI ty, vI 0], kI cI v0 21 mv, kI cI r0 9 mr1_3, kI cI f0 9 mf1_4, kI cI g0 9 mg1_5, kI cI d0 8 md1_6] := hD
  subst hQ
  refine z_iret (z := sumZ (fun c => if ppl n (rmc mv) (mv 1) (mv 2) (wv mv) c = wv mv c then 2 ^ c.toNat else 0) (mv 0).toNat) hx hb hr hlocks dX7_lucky_9 (mr1_3, mf1_4, mg1_5, md1_6) hK hS ⟨by omega, by omega⟩ hP hD ?_
  first | rfl | trivial | omega

set_option maxHeartbeats 4000000 in
set_option maxRecDepth 100000 in
theorem c_X7_moved (l : Launch) (dd : va_G) (cI cJ cC cS : ClassId) (y0 v0 a0 r0 f0 g0 d0 t9 : Nat) (n sts ty th : Int) (mv : Int → Int) (mr mf mg md : Int → Int) (sz : Nat) (hn : 1 ≤ n ∧ n ≤ 8) (hc0 : 0 ≤ mv 0 ∧ mv 0 ≤ 9) (hc1 : 0 ≤ mv 1 ∧ mv 1 ≤ 3) (hc2 : 0 ≤ mv 2 ∧ mv 2 ≤ 8) (hcap : ∀ j : Int, 0 ≤ j → j < n → 0 ≤ mv (3 + j) ∧ mv (3 + j) ≤ 3) (hwi : ∀ j : Int, 0 ≤ j → j < mv 0 → 0 ≤ mv (12 + j) ∧ mv (12 + j) < n) : gMi l yX7_moved wsX7_moved 5 0 0 dd cI cJ cC cS [.ref y0] [kO y0 7 [vI n, .ref v0, .ref a0, vI sts, .ref r0, .ref f0, .ref g0, .ref d0, .ref t9, vI ty, vI th], kI cI v0 21 mv, kI cI r0 9 mr, kI cI f0 9 mf, kI cI g0 9 mg, kI cI d0 8 md] sz (fun (z : Int) (u : (Int → Int) × (Int → Int) × (Int → Int) × (Int → Int)) => z = sumZ (fun c => if ppl n (rmc mv) (mv 1) (mv 2) (wv mv) c = -1 then 0 else if 0 ≤ ppl n (rmc mv) (mv 1) (mv 2) (wv mv) c - wv mv c then ppl n (rmc mv) (mv 1) (mv 2) (wv mv) c - wv mv c else -(ppl n (rmc mv) (mv 1) (mv 2) (wv mv) c - wv mv c)) (mv 0).toNat) (fun (u : (Int → Int) × (Int → Int) × (Int → Int) × (Int → Int)) => [kO y0 7 [vI n, .ref v0, .ref a0, vI sts, .ref r0, .ref f0, .ref g0, .ref d0, .ref t9, vI ty, vI th], kI cI v0 21 mv, kI cI r0 9 u.1, kI cI f0 9 u.2.1, kI cI g0 9 u.2.2.1, kI cI d0 8 u.2.2.2]) := by
  refine gMi_of (cc := cX7_moved) (maxL := 5) (ret := (some .int)) (by decide) rfl (Nat.le_of_ble_eq_true rfl) ?_
  intro p e s m args below meth c A Q hQ hx hb hr hts hown hlocks hnm hml H locs hP hK hD hA hS ls hl
  have hi7 : ∀ w ∈ wsX70, w ∈ wsX7_moved := fun _ h => (List.mem_cons_of_mem _ (List.mem_append_right _ h))
  have hl : lv_has ls 5 [(0, .ref y0)] := hl
  refine lv_aload_n hx hb dX7_moved_0 rfl (lv_at hl 0 rfl) ?_
  refine g_callVi (own := RX7) (n := 0) (mc := 0) (ms := 0) (As := []) (rest := []) (wc := [kO y0 7 [vI n, .ref v0, .ref a0, vI sts, .ref r0, .ref f0, .ref g0, .ref d0, .ref t9, vI ty, vI th], kI cI v0 21 mv, kI cI r0 9 mr, kI cI f0 9 mf, kI cI g0 9 mg, kI cI d0 8 md]) (wr := []) hx hb hml hown hts hK hP hD hS hA [0, 1, 2, 3, 4, 5] [] rfl rfl (by decide) (by decide) 7 0 rfl rfl (c_X7_parksNow l dd cI cJ cC cS y0 v0 a0 r0 f0 g0 d0 t9 n sts ty th mv mr mf mg md H.size  (by first | assumption | omega) (by first | assumption | omega) (by first | assumption | omega) (by first | assumption | omega) (by first | assumption | (intro j h0 h1; omega)) (by first | assumption | (intro j h0 h1; omega))) gX7_moved_X7_parksNow rfl (by decide +kernel) (by decide) (by decide) (by decide) (by decide) rfl hl.1 rfl (Nat.le_of_ble_eq_true rfl) dX7_moved_1 (fun z_1 u_2 H locs hp1 hP hD hS => ?_)
  obtain ⟨mra, mfa, mga, mda⟩ := u_2
  try dsimp only at hp1
  obtain ⟨z_1e, hp1⟩ := hp1
  subst z_1
  have hP : va_P dd vwCl [kO y0 7 [vI n, .ref v0, .ref a0, vI sts, .ref r0, .ref f0, .ref g0, .ref d0, .ref t9, vI ty, vI th], kI cI v0 21 mv, kI cI r0 9 mra, kI cI f0 9 mfa, kI cI g0 9 mga, kI cI d0 8 mda] H := hP
  have hD : va_D A [kO y0 7 [vI n, .ref v0, .ref a0, vI sts, .ref r0, .ref f0, .ref g0, .ref d0, .ref t9, vI ty, vI th], kI cI v0 21 mv, kI cI r0 9 mra, kI cI f0 9 mfa, kI cI g0 9 mga, kI cI d0 8 mda] := hD
  have hlv := lvZ_rg (n := n) (cap := rmc mv) (ru := mv 1) (re := mv 2) (wi := wv mv) (mv 0).toNat
  refine lv_istore_n (lv' := [(1, vI (lvZ n (rmc mv) (mv 1) (mv 2) (wv mv) (mv 0).toNat)), (0, .ref y0)]) hx hb dX7_moved_4 rfl hl (by decide) rfl (fun ls hl => ?_)
  refine z_iconst hx hb dX7_moved_5 ?_
  refine lv_istore_n (lv' := [(2, vI 0), (1, vI (lvZ n (rmc mv) (mv 1) (mv 2) (wv mv) (mv 0).toNat)), (0, .ref y0)]) hx hb dX7_moved_6 rfl hl (by decide) rfl (fun ls hl => ?_)
  refine z_iconst hx hb dX7_moved_7 ?_
  refine lv_istore_n (lv' := [(3, vI 0), (2, vI 0), (1, vI (lvZ n (rmc mv) (mv 1) (mv 2) (wv mv) (mv 0).toNat)), (0, .ref y0)]) hx hb dX7_moved_8 rfl hl (by decide) rfl (fun ls hl => ?_)
  have L9 : ∀ (nn : Nat) (i : Int) (b : Int) (H : Heap) (locs : List Loc) (ls : Array Slot), ((mv 0 + 1 - i).toNat) = nn → (0 ≤ i ∧ i ≤ mv 0) → (b = sumZ (fun c => if ppl n (rmc mv) (mv 1) (mv 2) (wv mv) c = -1 then 0 else if 0 ≤ ppl n (rmc mv) (mv 1) (mv 2) (wv mv) c - wv mv c then ppl n (rmc mv) (mv 1) (mv 2) (wv mv) c - wv mv c else -(ppl n (rmc mv) (mv 1) (mv 2) (wv mv) c - wv mv c)) i.toNat) → (0 ≤ b ∧ b ≤ i * 8) → va_P dd vwCl [kO y0 7 [vI n, .ref v0, .ref a0, vI sts, .ref r0, .ref f0, .ref g0, .ref d0, .ref t9, vI ty, vI th], kI cI v0 21 mv, kI cI r0 9 mra, kI cI f0 9 mfa, kI cI g0 9 mga, kI cI d0 8 mda] H → va_D A [kO y0 7 [vI n, .ref v0, .ref a0, vI sts, .ref r0, .ref f0, .ref g0, .ref d0, .ref t9, vI ty, vI th], kI cI v0 21 mv, kI cI r0 9 mra, kI cI f0 9 mfa, kI cI g0 9 mga, kI cI d0 8 mda] → va_S A s.heap H locs → lv_has ls 5 [(2, vI b), (3, vI i), (1, vI (lvZ n (rmc mv) (mv 1) (mv 2) (wv mv) (mv 0).toNat)), (0, .ref y0)] → W p l e (gR 5 0 0) s m args below meth c H locs 0 0 Q (F0 m 9 ls []) := by
    intro nn
    induction nn using Nat.strongRecOn with
    | ind nn L9i =>
    intro i b H locs ls hmeas hi hbb hbd hP hD hS hl
    refine lv_iload_n hx hb dX7_moved_9 rfl (lv_at hl 1 rfl) ?_
    refine lv_aload_n hx hb dX7_moved_10 rfl (lv_at hl 3 rfl) ?_
    refine va_get (D := dd) (ci := 7) (v := .ref v0) (C := RX7) (T := TX7) (N := 11) hx hb hts hi7 hown hK hP 0 rfl rfl 1 (by decide) (hts _ (List.mem_cons_of_mem _ (List.mem_append_left _ (List.mem_append_left _ (List.mem_of_getElem? (i := 0) rfl))))) (fun _ h9 => h9) rfl dX7_moved_11 ?_
    refine z_iconst hx hb dX7_moved_14 ?_
    refine z_iald hx hb hK hP 1 0 rfl rfl (i := 0) (by omega) (by decide) dX7_moved_15 ?_
    refine z_icmp_ge (tgt := 69) hx hb dX7_moved_16 (by decide) (by omega) (fun c16 => ?_) (fun c16 => ?_)
    · skip
      refine lv_iload_n hx hb dX7_moved_69 rfl (lv_at hl 0 rfl) ?_
      subst hQ
      refine z_iret (z := b) hx hb hr hlocks dX7_moved_70 (mra, mfa, mga, mda) hK hS ⟨by omega, by omega⟩ hP hD ?_
      rw [hbb, show i = mv 0 by omega]
    · skip
      refine lv_aload_n hx hb dX7_moved_19 rfl (lv_at hl 3 rfl) ?_
      refine va_get (D := dd) (ci := 7) (v := .ref f0) (C := RX7) (T := TX7) (N := 11) hx hb hts hi7 hown hK hP 0 rfl rfl 5 (by decide) (hts _ (List.mem_cons_of_mem _ (List.mem_append_left _ (List.mem_append_left _ (List.mem_of_getElem? (i := 1) rfl))))) (fun _ h9 => h9) rfl dX7_moved_20 ?_
      refine lv_iload_n hx hb dX7_moved_23 rfl (lv_at hl 1 rfl) ?_
      refine z_iald hx hb hK hP 3 0 rfl rfl (i := i) (by omega) (by decide) dX7_moved_24 ?_
      have hf9 := hp1 i (by omega) (by omega)
      have hr9 := ppl_rg n (rmc mv) (mv 1) (mv 2) (wv mv) i
      have hw9 : 0 ≤ wv mv i ∧ wv mv i < n := hwi i (by omega) (by omega)
      have hpw := pow_pos2 i.toNat
      refine lv_aload_n hx hb dX7_moved_25 rfl (lv_at hl 3 rfl) ?_
      refine va_get (D := dd) (ci := 7) (v := .ref r0) (C := RX7) (T := TX7) (N := 11) hx hb hts hi7 hown hK hP 0 rfl rfl 4 (by decide) (hts _ (List.mem_cons_of_mem _ (List.mem_append_left _ (List.mem_append_left _ (List.mem_of_getElem? (i := 2) rfl))))) (fun _ h9 => h9) rfl dX7_moved_26 ?_
      refine lv_iload_n hx hb dX7_moved_29 rfl (lv_at hl 1 rfl) ?_
      refine z_iald hx hb hK hP 2 0 rfl rfl (i := i) (by omega) (by decide) dX7_moved_30 ?_
      refine z_isub (z := ((mfa i) - (mra i))) hx hb rfl dX7_moved_31 ?_
      refine lv_istore (lv' := [(4, vI ((mfa i) - (mra i))), (2, vI b), (3, vI i), (1, vI (lvZ n (rmc mv) (mv 1) (mv 2) (wv mv) (mv 0).toNat)), (0, .ref y0)]) hx hb dX7_moved_32 hl (by decide) rfl (fun ls hl => ?_)
      refine lv_iload_n hx hb dX7_moved_34 rfl (lv_at hl 1 rfl) ?_
      refine lv_aload_n hx hb dX7_moved_35 rfl (lv_at hl 4 rfl) ?_
      refine va_get (D := dd) (ci := 7) (v := .ref f0) (C := RX7) (T := TX7) (N := 11) hx hb hts hi7 hown hK hP 0 rfl rfl 5 (by decide) (hts _ (List.mem_cons_of_mem _ (List.mem_append_left _ (List.mem_append_left _ (List.mem_of_getElem? (i := 1) rfl))))) (fun _ h9 => h9) rfl dX7_moved_36 ?_
      refine lv_iload_n hx hb dX7_moved_39 rfl (lv_at hl 2 rfl) ?_
      refine z_iald hx hb hK hP 3 0 rfl rfl (i := i) (by omega) (by decide) dX7_moved_40 ?_
      refine z_if_ge (tgt := 48) hx hb dX7_moved_41 (by decide) (by omega) (fun c41 => ?_) (fun c41 => ?_)
      · skip
        refine lv_iload hx hb dX7_moved_48 (lv_at hl 0 rfl) ?_
        refine z_if_ge (tgt := 59) hx hb dX7_moved_50 (by decide) (by omega) (fun c50 => ?_) (fun c50 => ?_)
        · skip
          refine lv_iload hx hb dX7_moved_59 (lv_at hl 0 rfl) ?_
          refine z_iadd (z := (b + ((mfa i) - (mra i)))) hx hb rfl dX7_moved_61 ?_
          refine lv_istore_n (lv' := [(2, vI (b + ((mfa i) - (mra i)))), (4, vI ((mfa i) - (mra i))), (3, vI i), (1, vI (lvZ n (rmc mv) (mv 1) (mv 2) (wv mv) (mv 0).toNat)), (0, .ref y0)]) hx hb dX7_moved_62 rfl hl (by decide) rfl (fun ls hl => ?_)
          refine z_iinc (a := i) (z := (i + 1)) (lv' := [(3, vI (i + 1)), (2, vI (b + ((mfa i) - (mra i)))), (4, vI ((mfa i) - (mra i))), (1, vI (lvZ n (rmc mv) (mv 1) (mv 2) (wv mv) (mv 0).toNat)), (0, .ref y0)]) hx hb dX7_moved_63 hl (k := 2) rfl rfl (by decide) rfl (fun ls hl => ?_)
          refine lv_goto (tgt := 9) hx hb dX7_moved_66 (by decide) ?_
          exact L9i _ (by omega) (i + 1) (b + ((mfa i) - (mra i))) H locs ls rfl (by omega) (by first | rfl | (rw [sumZ_s (by omega)]; split <;> omega) | (rw [sumZ_s (by omega), if_neg (by omega)]; split <;> omega)) (by omega) hP hD hS (lv_sub hl [1, 0, 3, 4] rfl)
        · skip
          refine lv_iload hx hb dX7_moved_53 (lv_at hl 0 rfl) ?_
          refine z_ineg hx hb rfl dX7_moved_55 ?_
          refine lv_goto (tgt := 61) hx hb dX7_moved_56 (by decide) ?_
          refine z_iadd (z := (b + (-((mfa i) - (mra i))))) hx hb rfl dX7_moved_61 ?_
          refine lv_istore_n (lv' := [(2, vI (b + (-((mfa i) - (mra i))))), (4, vI ((mfa i) - (mra i))), (3, vI i), (1, vI (lvZ n (rmc mv) (mv 1) (mv 2) (wv mv) (mv 0).toNat)), (0, .ref y0)]) hx hb dX7_moved_62 rfl hl (by decide) rfl (fun ls hl => ?_)
          refine z_iinc (a := i) (z := (i + 1)) (lv' := [(3, vI (i + 1)), (2, vI (b + (-((mfa i) - (mra i))))), (4, vI ((mfa i) - (mra i))), (1, vI (lvZ n (rmc mv) (mv 1) (mv 2) (wv mv) (mv 0).toNat)), (0, .ref y0)]) hx hb dX7_moved_63 hl (k := 2) rfl rfl (by decide) rfl (fun ls hl => ?_)
          refine lv_goto (tgt := 9) hx hb dX7_moved_66 (by decide) ?_
          exact L9i _ (by omega) (i + 1) (b + (-((mfa i) - (mra i)))) H locs ls rfl (by omega) (by first | rfl | (rw [sumZ_s (by omega)]; split <;> omega) | (rw [sumZ_s (by omega), if_neg (by omega)]; split <;> omega)) (by omega) hP hD hS (lv_sub hl [1, 0, 3, 4] rfl)
      · skip
        refine z_iconst hx hb dX7_moved_44 ?_
        refine lv_goto (tgt := 61) hx hb dX7_moved_45 (by decide) ?_
        refine z_iadd (z := b) hx hb (Int.add_zero _) dX7_moved_61 ?_
        refine lv_istore_n (lv' := [(2, vI b), (4, vI ((mfa i) - (mra i))), (3, vI i), (1, vI (lvZ n (rmc mv) (mv 1) (mv 2) (wv mv) (mv 0).toNat)), (0, .ref y0)]) hx hb dX7_moved_62 rfl hl (by decide) rfl (fun ls hl => ?_)
        refine z_iinc (a := i) (z := (i + 1)) (lv' := [(3, vI (i + 1)), (2, vI b), (4, vI ((mfa i) - (mra i))), (1, vI (lvZ n (rmc mv) (mv 1) (mv 2) (wv mv) (mv 0).toNat)), (0, .ref y0)]) hx hb dX7_moved_63 hl (k := 2) rfl rfl (by decide) rfl (fun ls hl => ?_)
        refine lv_goto (tgt := 9) hx hb dX7_moved_66 (by decide) ?_
        exact L9i _ (by omega) (i + 1) b H locs ls rfl (by omega) (by first | rfl | (rw [sumZ_s (by omega)]; split <;> omega) | (rw [sumZ_s (by omega), if_neg (by omega)]; split <;> omega)) (by omega) hP hD hS (lv_sub hl [1, 0, 3, 4] rfl)
  exact L9 _ 0 0 H locs ls rfl (by omega) (by first | rfl | (rw [sumZ_s (by omega)]; split <;> omega) | (rw [sumZ_s (by omega), if_neg (by omega)]; split <;> omega)) (by omega) hP hD hS (lv_sub hl [1, 0, 2, 3] rfl)

set_option maxHeartbeats 4000000 in
set_option maxRecDepth 100000 in
theorem c_X7_displacement (l : Launch) (dd : va_G) (cI cJ cC cS : ClassId) (y0 v0 a0 r0 f0 g0 d0 t9 : Nat) (n sts ty th : Int) (mv : Int → Int) (mr mf mg md : Int → Int) (sz : Nat) (hn : 1 ≤ n ∧ n ≤ 8) (hc0 : 0 ≤ mv 0 ∧ mv 0 ≤ 9) (hc1 : 0 ≤ mv 1 ∧ mv 1 ≤ 3) (hc2 : 0 ≤ mv 2 ∧ mv 2 ≤ 8) (hcap : ∀ j : Int, 0 ≤ j → j < n → 0 ≤ mv (3 + j) ∧ mv (3 + j) ≤ 3) (hwi : ∀ j : Int, 0 ≤ j → j < mv 0 → 0 ≤ mv (12 + j) ∧ mv (12 + j) < n) : gMi l yX7_displacement wsX7_displacement 6 0 0 dd cI cJ cC cS [.ref y0] [kO y0 7 [vI n, .ref v0, .ref a0, vI sts, .ref r0, .ref f0, .ref g0, .ref d0, .ref t9, vI ty, vI th], kI cI v0 21 mv, kI cI r0 9 mr, kI cI f0 9 mf, kI cI g0 9 mg, kI cI d0 8 md] sz (fun (z : Int) (u : (Int → Int) × (Int → Int) × (Int → Int) × (Int → Int)) => z = sumZ (fun c => if ppl n (rmc mv) (mv 1) (mv 2) (wv mv) c = -1 then 0 else if 0 ≤ ppl n (rmc mv) (mv 1) (mv 2) (wv mv) c - wv mv c then ppl n (rmc mv) (mv 1) (mv 2) (wv mv) c - wv mv c else -(ppl n (rmc mv) (mv 1) (mv 2) (wv mv) c - wv mv c)) (mv 0).toNat) (fun (u : (Int → Int) × (Int → Int) × (Int → Int) × (Int → Int)) => [kO y0 7 [vI n, .ref v0, .ref a0, vI sts, .ref r0, .ref f0, .ref g0, .ref d0, .ref t9, vI ty, vI 0], kI cI v0 21 mv, kI cI r0 9 u.1, kI cI f0 9 u.2.1, kI cI g0 9 u.2.2.1, kI cI d0 8 u.2.2.2]) := by
  refine gMi_of (cc := cX7_displacement) (maxL := 1) (ret := (some .int)) (by decide) rfl (Nat.le_of_ble_eq_true rfl) ?_
  intro p e s m args below meth c A Q hQ hx hb hr hts hown hlocks hnm hml H locs hP hK hD hA hS ls hl
  have hi7 : ∀ w ∈ wsX70, w ∈ wsX7_displacement := fun _ h => (List.mem_cons_of_mem _ (List.mem_append_right _ h))
  have hl : lv_has ls 1 [(0, .ref y0)] := hl
  refine lv_aload_n hx hb dX7_displacement_0 rfl (lv_at hl 0 rfl) ?_
  refine z_iconst hx hb dX7_displacement_1 ?_
  refine va_put (D := dd) (ci := 7) (v := vI 0) (ty := .int) (C := RX7) (T := TX7) (N := 11) hx hb hts hi7 tyX7 tyX7_ok nmX7 hown hK hP hD hS 0 rfl rfl 10 (by decide) (hts _ (List.mem_cons_of_mem _ (List.mem_append_left _ (List.mem_append_left _ (List.mem_of_getElem? (i := 0) rfl))))) (fun _ h9 => h9) rfl (by decide +kernel) rfl rfl (Nat.le_of_ble_eq_true rfl) dX7_displacement_2 (fun H locs hP hD hS => ?_)
  have hP : va_P dd vwCl [kO y0 7 [vI n, .ref v0, .ref a0, vI sts, .ref r0, .ref f0, .ref g0, .ref d0, .ref t9, vI ty, vI 0], kI cI v0 21 mv, kI cI r0 9 mr, kI cI f0 9 mf, kI cI g0 9 mg, kI cI d0 8 md] H := hP
  have hD : va_D A [kO y0 7 [vI n, .ref v0, .ref a0, vI sts, .ref r0, .ref f0, .ref g0, .ref d0, .ref t9, vI ty, vI 0], kI cI v0 21 mv, kI cI r0 9 mr, kI cI f0 9 mf, kI cI g0 9 mg, kI cI d0 8 md] := hD
  refine lv_aload_n hx hb dX7_displacement_5 rfl (lv_at hl 0 rfl) ?_
  refine g_callVi (own := RX7) (n := 0) (mc := 0) (ms := 0) (As := []) (rest := []) (wc := [kO y0 7 [vI n, .ref v0, .ref a0, vI sts, .ref r0, .ref f0, .ref g0, .ref d0, .ref t9, vI ty, vI 0], kI cI v0 21 mv, kI cI r0 9 mr, kI cI f0 9 mf, kI cI g0 9 mg, kI cI d0 8 md]) (wr := []) hx hb hml hown hts hK hP hD hS hA [0, 1, 2, 3, 4, 5] [] rfl rfl (by decide) (by decide) 7 0 rfl rfl (c_X7_moved l dd cI cJ cC cS y0 v0 a0 r0 f0 g0 d0 t9 n sts ty 0 mv mr mf mg md H.size  (by first | assumption | omega) (by first | assumption | omega) (by first | assumption | omega) (by first | assumption | omega) (by first | assumption | (intro j h0 h1; omega)) (by first | assumption | (intro j h0 h1; omega))) gX7_displacement_X7_moved rfl (by decide +kernel) (by decide) (by decide) (by decide) (by decide) rfl hl.1 rfl (Nat.le_of_ble_eq_true rfl) dX7_displacement_6 (fun z_1 u_2 H locs hp6 hP hD hS => ?_)
  obtain ⟨mr1_3, mf1_4, mg1_5, md1_6⟩ := u_2
  try dsimp only at hp6
  subst z_1
  have hP : va_P dd vwCl [kO y0 7 [vI n, .ref v0, .ref a0, vI sts, .ref r0, .ref f0, .ref g0, .ref d0, .ref t9, vI ty, vI 0], kI cI v0 21 mv, kI cI r0 9 mr1_3, kI cI f0 9 mf1_4, kI cI g0 9 mg1_5, kI cI d0 8 md1_6] H := hP
  have hD : va_D A [kO y0 7 [vI n, .ref v0, .ref a0, vI sts, .ref r0, .ref f0, .ref g0, .ref d0, .ref t9, vI ty, vI 0], kI cI v0 21 mv, kI cI r0 9 mr1_3, kI cI f0 9 mf1_4, kI cI g0 9 mg1_5, kI cI d0 8 md1_6] := hD
  subst hQ
  refine z_iret (z := sumZ (fun c => if ppl n (rmc mv) (mv 1) (mv 2) (wv mv) c = -1 then 0 else if 0 ≤ ppl n (rmc mv) (mv 1) (mv 2) (wv mv) c - wv mv c then ppl n (rmc mv) (mv 1) (mv 2) (wv mv) c - wv mv c else -(ppl n (rmc mv) (mv 1) (mv 2) (wv mv) c - wv mv c)) (mv 0).toNat) hx hb hr hlocks dX7_displacement_9 (mr1_3, mf1_4, mg1_5, md1_6) hK hS ⟨by omega, by omega⟩ hP hD ?_
  first | rfl | trivial | omega

