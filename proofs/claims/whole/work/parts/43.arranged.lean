/-! the model: arrangements -/

set_option maxHeartbeats 4000000 in
set_option maxRecDepth 100000 in
theorem c_X7_arranged (l : Launch) (dd : va_G) (cI cJ cC cS : ClassId) (y0 v0 a0 r0 f0 g0 d0 t9 : Nat) (n sts ty : Int) (mv : Int → Int) (mr mf mg md : Int → Int) (pk : Int) (sz : Nat) (hn : 1 ≤ n ∧ n ≤ 8) (hc0 : 0 ≤ mv 0 ∧ mv 0 ≤ 9) (hc1 : 0 ≤ mv 1 ∧ mv 1 ≤ 3) (hc2 : 0 ≤ mv 2 ∧ mv 2 ≤ 8) (hcap : ∀ j : Int, 0 ≤ j → j < n → 0 ≤ mv (3 + j) ∧ mv (3 + j) ≤ 3) (hwi : ∀ j : Int, 0 ≤ j → j < mv 0 → 0 ≤ mv (12 + j) ∧ mv (12 + j) < n) (hpk : pk = 0 ∨ pk = 1) : gMi l yX7_arranged wsX7_arranged 4 0 0 dd cI cJ cC cS [.ref y0, vI pk] [kO y0 7 [vI n, .ref v0, .ref a0, vI sts, .ref r0, .ref f0, .ref g0, .ref d0, .ref t9, vI ty, vI 0], kI cI v0 21 mv, kI cI r0 9 mr, kI cI f0 9 mf, kI cI g0 9 mg, kI cI d0 8 md] sz (fun (z : Int) (u : (Int → Int) × (Int → Int) × (Int → Int) × (Int → Int)) => z = sumZ (aI pk n (rmc mv) (mv 1) (mv 2) (wv mv) (mv 0)) (powZ n (mv 0).toNat).toNat) (fun (u : (Int → Int) × (Int → Int) × (Int → Int) × (Int → Int)) => [kO y0 7 [vI n, .ref v0, .ref a0, vI sts, .ref r0, .ref f0, .ref g0, .ref d0, .ref t9, vI ty, vI 0], kI cI v0 21 mv, kI cI r0 9 u.1, kI cI f0 9 u.2.1, kI cI g0 9 u.2.2.1, kI cI d0 8 u.2.2.2]) := by
  refine gMi_of (cc := cX7_arranged) (maxL := 5) (ret := (some .int)) (by decide) rfl (Nat.le_of_ble_eq_true rfl) ?_
  intro p e s m args below meth c A Q hQ hx hb hr hts hown hlocks hnm hml H locs hP hK hD hA hS ls hl
  have hi7 : ∀ w ∈ wsX70, w ∈ wsX7_arranged := fun _ h => (List.mem_cons_of_mem _ (List.mem_append_right _ h))
  have hl : lv_has ls 5 [(0, .ref y0), (1, vI pk)] := hl
  refine lv_aload_n hx hb dX7_arranged_0 rfl (lv_at hl 0 rfl) ?_
  refine g_callVv (own := RX7) (n := 0) (mc := 0) (ms := 0) (As := []) (rest := []) (wc := [kO y0 7 [vI n, .ref v0, .ref a0, vI sts, .ref r0, .ref f0, .ref g0, .ref d0, .ref t9, vI ty, vI 0], kI cI v0 21 mv, kI cI r0 9 mr]) (wr := [kI cI f0 9 mf, kI cI g0 9 mg, kI cI d0 8 md]) hx hb hml hown hts hK hP hD hS hA [0, 1, 2] [3, 4, 5] rfl rfl (by decide) (by decide) 7 0 rfl rfl (c_X7_takes l dd cI cJ cC cS y0 v0 a0 r0 f0 g0 d0 t9 n sts ty 0 mv mr H.size  (by first | assumption | omega)) gX7_arranged_X7_takes rfl (by decide +kernel) (by decide) (by decide) (by decide) (by decide) rfl hl.1 rfl (Nat.le_of_ble_eq_true rfl) dX7_arranged_1 (fun u_1 H locs hp1 hP hD hS => ?_)
  have hP : va_P dd vwCl [kI cI f0 9 mf, kI cI g0 9 mg, kI cI d0 8 md, kO y0 7 [vI n, .ref v0, .ref a0, vI sts, .ref r0, .ref f0, .ref g0, .ref d0, .ref t9, vI ty, vI 0], kI cI v0 21 mv, kI cI r0 9 (cpZ (wv mv) mr (mv 0))] H := hP
  have hD : va_D A [kI cI f0 9 mf, kI cI g0 9 mg, kI cI d0 8 md, kO y0 7 [vI n, .ref v0, .ref a0, vI sts, .ref r0, .ref f0, .ref g0, .ref d0, .ref t9, vI ty, vI 0], kI cI v0 21 mv, kI cI r0 9 (cpZ (wv mv) mr (mv 0))] := hD
  refine lv_aload_n hx hb dX7_arranged_4 rfl (lv_at hl 0 rfl) ?_
  refine va_get (D := dd) (ci := 7) (v := .ref v0) (C := RX7) (T := TX7) (N := 11) hx hb hts hi7 hown hK hP 3 rfl rfl 1 (by decide) (hts _ (List.mem_cons_of_mem _ (List.mem_append_left _ (List.mem_append_left _ (List.mem_of_getElem? (i := 0) rfl))))) (fun _ h9 => h9) rfl dX7_arranged_5 ?_
  refine z_iconst hx hb dX7_arranged_8 ?_
  refine z_iald hx hb hK hP 4 0 rfl rfl (i := 0) (by omega) (by decide) dX7_arranged_9 ?_
  refine lv_istore_n (lv' := [(2, vI (mv 0)), (0, .ref y0), (1, vI pk)]) hx hb dX7_arranged_10 rfl hl (by decide) rfl (fun ls hl => ?_)
  have L11 : ∀ (nn : Nat) (f9 : Int → Int) (H : Heap) (locs : List Loc) (ls : Array Slot), ((powZ n (mv 0).toNat - codZ n f9 (mv 0).toNat).toNat) = nn → (∀ j : Int, 0 ≤ j → j < mv 0 → 0 ≤ f9 j ∧ f9 j < n) → (sameC f9 (wv mv) (mv 0).toNat) → va_P dd vwCl [kO y0 7 [vI n, .ref v0, .ref a0, vI sts, .ref r0, .ref f0, .ref g0, .ref d0, .ref t9, vI ty, vI 0], kI cI v0 21 mv, kI cI r0 9 f9, kI cI f0 9 mf, kI cI g0 9 mg, kI cI d0 8 md] H → va_D A [kO y0 7 [vI n, .ref v0, .ref a0, vI sts, .ref r0, .ref f0, .ref g0, .ref d0, .ref t9, vI ty, vI 0], kI cI v0 21 mv, kI cI r0 9 f9, kI cI f0 9 mf, kI cI g0 9 mg, kI cI d0 8 md] → va_S A s.heap H locs → lv_has ls 5 [(2, vI (mv 0)), (0, .ref y0), (1, vI pk)] → W p l e (gR 4 0 0) s m args below meth c H locs 0 0 Q (F0 m 11 ls []) := by
    intro nn
    induction nn using Nat.strongRecOn with
    | ind nn L11i =>
    intro f9 H locs ls hmeas hr9 hs9 hP hD hS hl
    refine lv_aload_n hx hb dX7_arranged_11 rfl (lv_at hl 1 rfl) ?_
    refine lv_iload_n hx hb dX7_arranged_12 rfl (lv_at hl 0 rfl) ?_
    refine g_callVi (own := RX7) (n := 1) (mc := 0) (ms := 0) (As := [vI (mv 0)]) (rest := []) (wc := [kO y0 7 [vI n, .ref v0, .ref a0, vI sts, .ref r0, .ref f0, .ref g0, .ref d0, .ref t9, vI ty, vI 0], kI cI r0 9 f9]) (wr := [kI cI v0 21 mv, kI cI f0 9 mf, kI cI g0 9 mg, kI cI d0 8 md]) hx hb hml hown hts hK hP hD hS hA [0, 2] [1, 3, 4, 5] rfl rfl (by decide) (by decide) 7 0 rfl rfl (c_X7_goesOn l dd cI cJ cC cS y0 v0 a0 r0 f0 g0 d0 t9 n sts ty 0 f9 (mv 0) H.size  (by first | assumption | omega) (fun j h0 h1 => by have := hr9 j h0 h1; omega)) gX7_arranged_X7_goesOn rfl (by decide +kernel) (by decide) (by decide) (by decide) (by decide) rfl hl.1 rfl (Nat.le_of_ble_eq_true rfl) dX7_arranged_13 (fun z_2 u_3 H locs hp13 hP hD hS => ?_)
    obtain ⟨fb, rfl⟩ : ∃ x, x = u_3 := ⟨_, rfl⟩
    try dsimp only at hp13
    have hP : va_P dd vwCl [kI cI v0 21 mv, kI cI f0 9 mf, kI cI g0 9 mg, kI cI d0 8 md, kO y0 7 [vI n, .ref v0, .ref a0, vI sts, .ref r0, .ref f0, .ref g0, .ref d0, .ref t9, vI ty, vI 0], kI cI r0 9 fb] H := hP
    have hD : va_D A [kI cI v0 21 mv, kI cI f0 9 mf, kI cI g0 9 mg, kI cI d0 8 md, kO y0 7 [vI n, .ref v0, .ref a0, vI sts, .ref r0, .ref f0, .ref g0, .ref d0, .ref t9, vI ty, vI 0], kI cI r0 9 fb] := hD
    have hgo := go_of hn hc0.1 hr9 hp13
    clear hp13
    have hgz := go_z hgo
    have hcg := codZ_rg hn (mv 0).toNat (fun j a b => hgo.1 j a (by omega))
    have hcf := codZ_rg hn (mv 0).toNat (fun j a b => hr9 j a (by omega))
    refine z_if_eq (tgt := 27) hx hb dX7_arranged_16 (by decide) (by omega) (fun c16 => ?_) (fun c16 => ?_)
    · skip
      refine z_iconst hx hb dX7_arranged_27 ?_
      refine lv_istore_n (lv' := [(3, vI 0), (2, vI (mv 0)), (0, .ref y0), (1, vI pk)]) hx hb dX7_arranged_28 rfl hl (by decide) rfl (fun ls hl => ?_)
      refine z_iconst hx hb dX7_arranged_29 ?_
      refine lv_istore (lv' := [(4, vI 1), (3, vI 0), (2, vI (mv 0)), (0, .ref y0), (1, vI pk)]) hx hb dX7_arranged_30 hl (by decide) rfl (fun ls hl => ?_)
      have L32 : ∀ (nn : Nat) (k : Int) (b : Int) (mm : Int) (f9 : Int → Int) (mfa : Int → Int) (mga : Int → Int) (mda : Int → Int) (H : Heap) (locs : List Loc) (ls : Array Slot), (mm.toNat) = nn → (k = 0 ∨ k = 1) → (∀ j : Int, 0 ≤ j → j < mv 0 → 0 ≤ f9 j ∧ f9 j < n) → (sameC f9 (wv mv) (mv 0).toNat) → (k = 1 → b = sumZ (aI pk n (rmc mv) (mv 1) (mv 2) (wv mv) (mv 0)) (codZ n f9 (mv 0).toNat).toNat) → (k = 0 → b = sumZ (aI pk n (rmc mv) (mv 1) (mv 2) (wv mv) (mv 0)) (powZ n (mv 0).toNat).toNat) → (0 ≤ mm ∧ (k = 1 → mm = powZ n (mv 0).toNat + 1 - codZ n f9 (mv 0).toNat) ∧ (k = 0 → mm = 0)) → va_P dd vwCl [kO y0 7 [vI n, .ref v0, .ref a0, vI sts, .ref r0, .ref f0, .ref g0, .ref d0, .ref t9, vI ty, vI 0], kI cI v0 21 mv, kI cI r0 9 f9, kI cI f0 9 mfa, kI cI g0 9 mga, kI cI d0 8 mda] H → va_D A [kO y0 7 [vI n, .ref v0, .ref a0, vI sts, .ref r0, .ref f0, .ref g0, .ref d0, .ref t9, vI ty, vI 0], kI cI v0 21 mv, kI cI r0 9 f9, kI cI f0 9 mfa, kI cI g0 9 mga, kI cI d0 8 mda] → va_S A s.heap H locs → lv_has ls 5 [(3, vI b), (4, vI k), (2, vI (mv 0)), (0, .ref y0), (1, vI pk)] → W p l e (gR 4 0 0) s m args below meth c H locs 0 0 Q (F0 m 32 ls []) := by
        intro nn
        induction nn using Nat.strongRecOn with
        | ind nn L32i =>
        intro k b mm f9 mfa mga mda H locs ls hmeas hk hr9 hs9 hb1 hb0 hmm hP hD hS hl
        refine lv_iload hx hb dX7_arranged_32 (lv_at hl 1 rfl) ?_
        refine z_if_eq (tgt := 67) hx hb dX7_arranged_34 (by decide) (by omega) (fun c34 => ?_) (fun c34 => ?_)
        · skip
          refine lv_iload_n hx hb dX7_arranged_67 rfl (lv_at hl 0 rfl) ?_
          subst hQ
          refine z_iret (z := b) hx hb hr hlocks dX7_arranged_68 (f9, mfa, mga, mda) hK hS ⟨by omega, by omega⟩ hP hD ?_
          exact hb0 (by omega)
        · skip
          refine lv_iload_n hx hb dX7_arranged_37 rfl (lv_at hl 0 rfl) ?_
          refine lv_iload_n hx hb dX7_arranged_38 rfl (lv_at hl 4 rfl) ?_
          refine z_if_eq (tgt := 50) hx hb dX7_arranged_39 (by decide) (by omega) (fun c39 => ?_) (fun c39 => ?_)
          · skip
            refine z_iconst hx hb dX7_arranged_50 ?_
            refine lv_goto (tgt := 55) hx hb dX7_arranged_51 (by decide) ?_
            refine z_iadd (z := (b + 1)) hx hb rfl dX7_arranged_55 ?_
            refine lv_istore_n (lv' := [(3, vI (b + 1)), (4, vI k), (2, vI (mv 0)), (0, .ref y0), (1, vI pk)]) hx hb dX7_arranged_56 rfl hl (by decide) rfl (fun ls hl => ?_)
            refine lv_aload_n hx hb dX7_arranged_57 rfl (lv_at hl 3 rfl) ?_
            refine lv_iload_n hx hb dX7_arranged_58 rfl (lv_at hl 2 rfl) ?_
            refine g_callVi (own := RX7) (n := 1) (mc := 0) (ms := 0) (As := [vI (mv 0)]) (rest := []) (wc := [kO y0 7 [vI n, .ref v0, .ref a0, vI sts, .ref r0, .ref f0, .ref g0, .ref d0, .ref t9, vI ty, vI 0], kI cI r0 9 f9]) (wr := [kI cI v0 21 mv, kI cI f0 9 mfa, kI cI g0 9 mga, kI cI d0 8 mda]) hx hb hml hown hts hK hP hD hS hA [0, 2] [1, 3, 4, 5] rfl rfl (by decide) (by decide) 7 0 rfl rfl (c_X7_goesOn l dd cI cJ cC cS y0 v0 a0 r0 f0 g0 d0 t9 n sts ty 0 f9 (mv 0) H.size  (by first | assumption | omega) (fun j h0 h1 => by have := hr9 j h0 h1; omega)) gX7_arranged_X7_goesOn rfl (by decide +kernel) (by decide) (by decide) (by decide) (by decide) rfl hl.1 rfl (Nat.le_of_ble_eq_true rfl) dX7_arranged_59 (fun z_4 u_5 H locs hp59 hP hD hS => ?_)
            obtain ⟨fb, rfl⟩ : ∃ x, x = u_5 := ⟨_, rfl⟩
            try dsimp only at hp59
            have hP : va_P dd vwCl [kI cI v0 21 mv, kI cI f0 9 mfa, kI cI g0 9 mga, kI cI d0 8 mda, kO y0 7 [vI n, .ref v0, .ref a0, vI sts, .ref r0, .ref f0, .ref g0, .ref d0, .ref t9, vI ty, vI 0], kI cI r0 9 fb] H := hP
            have hD : va_D A [kI cI v0 21 mv, kI cI f0 9 mfa, kI cI g0 9 mga, kI cI d0 8 mda, kO y0 7 [vI n, .ref v0, .ref a0, vI sts, .ref r0, .ref f0, .ref g0, .ref d0, .ref t9, vI ty, vI 0], kI cI r0 9 fb] := hD
            have hgo := go_of hn hc0.1 hr9 hp59
            clear hp59
            have hgz := go_z hgo
            have hcg := codZ_rg hn (mv 0).toNat (fun j a b => hgo.1 j a (by omega))
            have hcf := codZ_rg hn (mv 0).toNat (fun j a b => hr9 j a (by omega))
            refine lv_istore (lv' := [(4, vI z_4), (3, vI (b + 1)), (2, vI (mv 0)), (0, .ref y0), (1, vI pk)]) hx hb dX7_arranged_62 hl (by decide) rfl (fun ls hl => ?_)
            refine lv_goto (tgt := 32) hx hb dX7_arranged_64 (by decide) ?_
            exact L32i _ (by
              by_cases u : z_4 = 1
              · rw [if_pos u]
                have := go_lt hgo u
                omega
              · rw [if_neg u]
                omega) z_4 (b + 1) (if z_4 = 1 then powZ n (mv 0).toNat + 1 - codZ n fb (mv 0).toNat else 0) fb mfa mga mda H locs ls rfl (by omega) (hgo.1) (fun s => (hgo.2.1 s).trans (hs9 s)) (fun u => by rw [go1_1 hgo u hn hc0.1 hr9 hs9, ← hb1 (by omega)]; first | rw [(aI_at (pk := pk) (cap := rmc mv) (ru := mv 1) (re := mv 2) hn hc0.1 hr9 hs9).1 (by first | exact Or.inl (by omega) | exact Or.inr (by omega))] | rw [(aI_at (pk := pk) (cap := rmc mv) (ru := mv 1) (re := mv 2) hn hc0.1 hr9 hs9).2 (by omega) (by omega), Int.add_zero]) (fun u => by rw [go0_1 hgo u hn hc0.1 hr9 hs9, ← hb1 (by omega)]; first | rw [(aI_at (pk := pk) (cap := rmc mv) (ru := mv 1) (re := mv 2) hn hc0.1 hr9 hs9).1 (by first | exact Or.inl (by omega) | exact Or.inr (by omega))] | rw [(aI_at (pk := pk) (cap := rmc mv) (ru := mv 1) (re := mv 2) hn hc0.1 hr9 hs9).2 (by omega) (by omega), Int.add_zero]) (⟨by split <;> omega, fun u => if_pos u, fun u => if_neg (by omega)⟩) (hP.sub [4, 0, 5, 1, 2, 3] rfl) (hD.sub [4, 0, 5, 1, 2, 3] (by decide) rfl) hS (lv_sub hl [1, 0, 2, 3, 4] rfl)
          · skip
            refine lv_aload_n hx hb dX7_arranged_42 rfl (lv_at hl 3 rfl) ?_
            refine lv_iload_n hx hb dX7_arranged_43 rfl (lv_at hl 2 rfl) ?_
            refine g_callVi (own := RX7) (n := 1) (mc := 0) (ms := 0) (As := [vI (mv 0)]) (rest := [vI b]) (wc := [kO y0 7 [vI n, .ref v0, .ref a0, vI sts, .ref r0, .ref f0, .ref g0, .ref d0, .ref t9, vI ty, vI 0], kI cI v0 21 mv, kI cI r0 9 f9, kI cI f0 9 mfa, kI cI g0 9 mga, kI cI d0 8 mda]) (wr := []) hx hb hml hown hts hK hP hD hS hA [0, 1, 2, 3, 4, 5] [] rfl rfl (by decide) (by decide) 7 0 rfl rfl (c_X7_parksAll l dd cI cJ cC cS y0 v0 a0 r0 f0 g0 d0 t9 n sts ty 0 mv f9 mfa mga mda (mv 0) H.size  (by first | assumption | omega) (by first | assumption | omega) (by first | assumption | omega) (by first | assumption | (intro j h0 h1; omega)) (by first | assumption | omega) (hr9)) gX7_arranged_X7_parksAll rfl (by decide +kernel) (by decide) (by decide) (by decide) (by decide) rfl hl.1 rfl (Nat.le_of_ble_eq_true rfl) dX7_arranged_44 (fun z_6 u_7 H locs hp44 hP hD hS => ?_)
            obtain ⟨mfb, mgb, mdb⟩ := u_7
            try dsimp only at hp44
            obtain ⟨z_6e, hp44⟩ := hp44
            subst z_6
            have hP : va_P dd vwCl [kO y0 7 [vI n, .ref v0, .ref a0, vI sts, .ref r0, .ref f0, .ref g0, .ref d0, .ref t9, vI ty, vI 0], kI cI v0 21 mv, kI cI r0 9 f9, kI cI f0 9 mfb, kI cI g0 9 mgb, kI cI d0 8 mdb] H := hP
            have hD : va_D A [kO y0 7 [vI n, .ref v0, .ref a0, vI sts, .ref r0, .ref f0, .ref g0, .ref d0, .ref t9, vI ty, vI 0], kI cI v0 21 mv, kI cI r0 9 f9, kI cI f0 9 mfb, kI cI g0 9 mgb, kI cI d0 8 mdb] := hD
            have hlg := lvZ_rg (n := n) (cap := rmc mv) (ru := mv 1) (re := mv 2) (wi := f9) (mv 0).toNat
            refine z_if_ne (tgt := 54) hx hb dX7_arranged_47 (by decide) (by omega) (fun c47 => ?_) (fun c47 => ?_)
            · skip
              refine z_iconst hx hb dX7_arranged_54 ?_
              refine z_iadd (z := b) hx hb (Int.add_zero _) dX7_arranged_55 ?_
              refine lv_istore_n (lv' := [(3, vI b), (4, vI k), (2, vI (mv 0)), (0, .ref y0), (1, vI pk)]) hx hb dX7_arranged_56 rfl hl (by decide) rfl (fun ls hl => ?_)
              refine lv_aload_n hx hb dX7_arranged_57 rfl (lv_at hl 3 rfl) ?_
              refine lv_iload_n hx hb dX7_arranged_58 rfl (lv_at hl 2 rfl) ?_
              refine g_callVi (own := RX7) (n := 1) (mc := 0) (ms := 0) (As := [vI (mv 0)]) (rest := []) (wc := [kO y0 7 [vI n, .ref v0, .ref a0, vI sts, .ref r0, .ref f0, .ref g0, .ref d0, .ref t9, vI ty, vI 0], kI cI r0 9 f9]) (wr := [kI cI v0 21 mv, kI cI f0 9 mfb, kI cI g0 9 mgb, kI cI d0 8 mdb]) hx hb hml hown hts hK hP hD hS hA [0, 2] [1, 3, 4, 5] rfl rfl (by decide) (by decide) 7 0 rfl rfl (c_X7_goesOn l dd cI cJ cC cS y0 v0 a0 r0 f0 g0 d0 t9 n sts ty 0 f9 (mv 0) H.size  (by first | assumption | omega) (fun j h0 h1 => by have := hr9 j h0 h1; omega)) gX7_arranged_X7_goesOn rfl (by decide +kernel) (by decide) (by decide) (by decide) (by decide) rfl hl.1 rfl (Nat.le_of_ble_eq_true rfl) dX7_arranged_59 (fun z_8 u_9 H locs hp59_10 hP hD hS => ?_)
              obtain ⟨fb, rfl⟩ : ∃ x, x = u_9 := ⟨_, rfl⟩
              try dsimp only at hp59_10
              have hP : va_P dd vwCl [kI cI v0 21 mv, kI cI f0 9 mfb, kI cI g0 9 mgb, kI cI d0 8 mdb, kO y0 7 [vI n, .ref v0, .ref a0, vI sts, .ref r0, .ref f0, .ref g0, .ref d0, .ref t9, vI ty, vI 0], kI cI r0 9 fb] H := hP
              have hD : va_D A [kI cI v0 21 mv, kI cI f0 9 mfb, kI cI g0 9 mgb, kI cI d0 8 mdb, kO y0 7 [vI n, .ref v0, .ref a0, vI sts, .ref r0, .ref f0, .ref g0, .ref d0, .ref t9, vI ty, vI 0], kI cI r0 9 fb] := hD
              have hgo := go_of hn hc0.1 hr9 hp59_10
              clear hp59_10
              have hgz := go_z hgo
              have hcg := codZ_rg hn (mv 0).toNat (fun j a b => hgo.1 j a (by omega))
              have hcf := codZ_rg hn (mv 0).toNat (fun j a b => hr9 j a (by omega))
              refine lv_istore (lv' := [(4, vI z_8), (3, vI b), (2, vI (mv 0)), (0, .ref y0), (1, vI pk)]) hx hb dX7_arranged_62 hl (by decide) rfl (fun ls hl => ?_)
              refine lv_goto (tgt := 32) hx hb dX7_arranged_64 (by decide) ?_
              exact L32i _ (by
                by_cases u : z_8 = 1
                · rw [if_pos u]
                  have := go_lt hgo u
                  omega
                · rw [if_neg u]
                  omega) z_8 b (if z_8 = 1 then powZ n (mv 0).toNat + 1 - codZ n fb (mv 0).toNat else 0) fb mfb mgb mdb H locs ls rfl (by omega) (hgo.1) (fun s => (hgo.2.1 s).trans (hs9 s)) (fun u => by rw [go1_1 hgo u hn hc0.1 hr9 hs9, ← hb1 (by omega)]; first | rw [(aI_at (pk := pk) (cap := rmc mv) (ru := mv 1) (re := mv 2) hn hc0.1 hr9 hs9).1 (by first | exact Or.inl (by omega) | exact Or.inr (by omega))] | rw [(aI_at (pk := pk) (cap := rmc mv) (ru := mv 1) (re := mv 2) hn hc0.1 hr9 hs9).2 (by omega) (by omega), Int.add_zero]) (fun u => by rw [go0_1 hgo u hn hc0.1 hr9 hs9, ← hb1 (by omega)]; first | rw [(aI_at (pk := pk) (cap := rmc mv) (ru := mv 1) (re := mv 2) hn hc0.1 hr9 hs9).1 (by first | exact Or.inl (by omega) | exact Or.inr (by omega))] | rw [(aI_at (pk := pk) (cap := rmc mv) (ru := mv 1) (re := mv 2) hn hc0.1 hr9 hs9).2 (by omega) (by omega), Int.add_zero]) (⟨by split <;> omega, fun u => if_pos u, fun u => if_neg (by omega)⟩) (hP.sub [4, 0, 5, 1, 2, 3] rfl) (hD.sub [4, 0, 5, 1, 2, 3] (by decide) rfl) hS (lv_sub hl [1, 0, 2, 3, 4] rfl)
            · skip
              refine z_iconst hx hb dX7_arranged_50 ?_
              refine lv_goto (tgt := 55) hx hb dX7_arranged_51 (by decide) ?_
              refine z_iadd (z := (b + 1)) hx hb rfl dX7_arranged_55 ?_
              refine lv_istore_n (lv' := [(3, vI (b + 1)), (4, vI k), (2, vI (mv 0)), (0, .ref y0), (1, vI pk)]) hx hb dX7_arranged_56 rfl hl (by decide) rfl (fun ls hl => ?_)
              refine lv_aload_n hx hb dX7_arranged_57 rfl (lv_at hl 3 rfl) ?_
              refine lv_iload_n hx hb dX7_arranged_58 rfl (lv_at hl 2 rfl) ?_
              refine g_callVi (own := RX7) (n := 1) (mc := 0) (ms := 0) (As := [vI (mv 0)]) (rest := []) (wc := [kO y0 7 [vI n, .ref v0, .ref a0, vI sts, .ref r0, .ref f0, .ref g0, .ref d0, .ref t9, vI ty, vI 0], kI cI r0 9 f9]) (wr := [kI cI v0 21 mv, kI cI f0 9 mfb, kI cI g0 9 mgb, kI cI d0 8 mdb]) hx hb hml hown hts hK hP hD hS hA [0, 2] [1, 3, 4, 5] rfl rfl (by decide) (by decide) 7 0 rfl rfl (c_X7_goesOn l dd cI cJ cC cS y0 v0 a0 r0 f0 g0 d0 t9 n sts ty 0 f9 (mv 0) H.size  (by first | assumption | omega) (fun j h0 h1 => by have := hr9 j h0 h1; omega)) gX7_arranged_X7_goesOn rfl (by decide +kernel) (by decide) (by decide) (by decide) (by decide) rfl hl.1 rfl (Nat.le_of_ble_eq_true rfl) dX7_arranged_59 (fun z_11 u_12 H locs hp59_13 hP hD hS => ?_)
              obtain ⟨fb, rfl⟩ : ∃ x, x = u_12 := ⟨_, rfl⟩
              try dsimp only at hp59_13
              have hP : va_P dd vwCl [kI cI v0 21 mv, kI cI f0 9 mfb, kI cI g0 9 mgb, kI cI d0 8 mdb, kO y0 7 [vI n, .ref v0, .ref a0, vI sts, .ref r0, .ref f0, .ref g0, .ref d0, .ref t9, vI ty, vI 0], kI cI r0 9 fb] H := hP
              have hD : va_D A [kI cI v0 21 mv, kI cI f0 9 mfb, kI cI g0 9 mgb, kI cI d0 8 mdb, kO y0 7 [vI n, .ref v0, .ref a0, vI sts, .ref r0, .ref f0, .ref g0, .ref d0, .ref t9, vI ty, vI 0], kI cI r0 9 fb] := hD
              have hgo := go_of hn hc0.1 hr9 hp59_13
              clear hp59_13
              have hgz := go_z hgo
              have hcg := codZ_rg hn (mv 0).toNat (fun j a b => hgo.1 j a (by omega))
              have hcf := codZ_rg hn (mv 0).toNat (fun j a b => hr9 j a (by omega))
              refine lv_istore (lv' := [(4, vI z_11), (3, vI (b + 1)), (2, vI (mv 0)), (0, .ref y0), (1, vI pk)]) hx hb dX7_arranged_62 hl (by decide) rfl (fun ls hl => ?_)
              refine lv_goto (tgt := 32) hx hb dX7_arranged_64 (by decide) ?_
              exact L32i _ (by
                by_cases u : z_11 = 1
                · rw [if_pos u]
                  have := go_lt hgo u
                  omega
                · rw [if_neg u]
                  omega) z_11 (b + 1) (if z_11 = 1 then powZ n (mv 0).toNat + 1 - codZ n fb (mv 0).toNat else 0) fb mfb mgb mdb H locs ls rfl (by omega) (hgo.1) (fun s => (hgo.2.1 s).trans (hs9 s)) (fun u => by rw [go1_1 hgo u hn hc0.1 hr9 hs9, ← hb1 (by omega)]; first | rw [(aI_at (pk := pk) (cap := rmc mv) (ru := mv 1) (re := mv 2) hn hc0.1 hr9 hs9).1 (by first | exact Or.inl (by omega) | exact Or.inr (by omega))] | rw [(aI_at (pk := pk) (cap := rmc mv) (ru := mv 1) (re := mv 2) hn hc0.1 hr9 hs9).2 (by omega) (by omega), Int.add_zero]) (fun u => by rw [go0_1 hgo u hn hc0.1 hr9 hs9, ← hb1 (by omega)]; first | rw [(aI_at (pk := pk) (cap := rmc mv) (ru := mv 1) (re := mv 2) hn hc0.1 hr9 hs9).1 (by first | exact Or.inl (by omega) | exact Or.inr (by omega))] | rw [(aI_at (pk := pk) (cap := rmc mv) (ru := mv 1) (re := mv 2) hn hc0.1 hr9 hs9).2 (by omega) (by omega), Int.add_zero]) (⟨by split <;> omega, fun u => if_pos u, fun u => if_neg (by omega)⟩) (hP.sub [4, 0, 5, 1, 2, 3] rfl) (hD.sub [4, 0, 5, 1, 2, 3] (by decide) rfl) hS (lv_sub hl [1, 0, 2, 3, 4] rfl)
      exact L32 _ 1 0 (if 1 = 1 then powZ n (mv 0).toNat + 1 - codZ n fb (mv 0).toNat else 0) fb mf mg md H locs ls rfl (by omega) (hgo.1) (fun s => (hgo.2.1 s).trans (hs9 s)) (fun _ => (go_s hgo (by omega) hn hs9).symm) (fun u => absurd u (by omega)) (⟨by split <;> omega, fun u => if_pos u, fun u => if_neg (by omega)⟩) (hP.sub [4, 0, 5, 1, 2, 3] rfl) (hD.sub [4, 0, 5, 1, 2, 3] (by decide) rfl) hS (lv_sub hl [1, 0, 2, 3, 4] rfl)
    · skip
      refine lv_aload_n hx hb dX7_arranged_19 rfl (lv_at hl 1 rfl) ?_
      refine z_iconst hx hb dX7_arranged_20 ?_
      refine va_put (D := dd) (ci := 7) (v := vI 0) (ty := .int) (C := RX7) (T := TX7) (N := 11) hx hb hts hi7 tyX7 tyX7_ok nmX7 hown hK hP hD hS 4 rfl rfl 10 (by decide) (hts _ (List.mem_cons_of_mem _ (List.mem_append_left _ (List.mem_append_left _ (List.mem_of_getElem? (i := 1) rfl))))) (fun _ h9 => h9) rfl (by decide +kernel) rfl rfl (Nat.le_of_ble_eq_true rfl) dX7_arranged_21 (fun H locs hP hD hS => ?_)
      have hP : va_P dd vwCl [kI cI v0 21 mv, kI cI f0 9 mf, kI cI g0 9 mg, kI cI d0 8 md, kO y0 7 [vI n, .ref v0, .ref a0, vI sts, .ref r0, .ref f0, .ref g0, .ref d0, .ref t9, vI ty, vI 0], kI cI r0 9 fb] H := hP
      have hD : va_D A [kI cI v0 21 mv, kI cI f0 9 mf, kI cI g0 9 mg, kI cI d0 8 md, kO y0 7 [vI n, .ref v0, .ref a0, vI sts, .ref r0, .ref f0, .ref g0, .ref d0, .ref t9, vI ty, vI 0], kI cI r0 9 fb] := hD
      refine lv_goto (tgt := 11) hx hb dX7_arranged_24 (by decide) ?_
      exact L11i _ (by have := go_lt hgo (by omega); omega) fb H locs ls rfl (hgo.1) (fun s => (hgo.2.1 s).trans (hs9 s)) (hP.sub [4, 0, 5, 1, 2, 3] rfl) (hD.sub [4, 0, 5, 1, 2, 3] (by decide) rfl) hS hl
  exact L11 _ (cpZ (wv mv) mr (mv 0)) H locs ls rfl (fun j h0 h1 => by rw [cpZ_lt h1]; exact hwi j h0 h1) (fun s => cntE_congr _ (fun j a b => cpZ_lt (by omega))) (hP.sub [3, 4, 5, 0, 1, 2] rfl) (hD.sub [3, 4, 5, 0, 1, 2] (by decide) rfl) hS hl

set_option maxHeartbeats 4000000 in
set_option maxRecDepth 100000 in
theorem c_X7_arrangements (l : Launch) (dd : va_G) (cI cJ cC cS : ClassId) (y0 v0 a0 r0 f0 g0 d0 t9 : Nat) (n sts ty th : Int) (mv : Int → Int) (mr mf mg md : Int → Int) (sz : Nat) (hn : 1 ≤ n ∧ n ≤ 8) (hc0 : 0 ≤ mv 0 ∧ mv 0 ≤ 9) (hc1 : 0 ≤ mv 1 ∧ mv 1 ≤ 3) (hc2 : 0 ≤ mv 2 ∧ mv 2 ≤ 8) (hcap : ∀ j : Int, 0 ≤ j → j < n → 0 ≤ mv (3 + j) ∧ mv (3 + j) ≤ 3) (hwi : ∀ j : Int, 0 ≤ j → j < mv 0 → 0 ≤ mv (12 + j) ∧ mv (12 + j) < n) : gMi l yX7_arrangements wsX7_arrangements 5 0 0 dd cI cJ cC cS [.ref y0] [kO y0 7 [vI n, .ref v0, .ref a0, vI sts, .ref r0, .ref f0, .ref g0, .ref d0, .ref t9, vI ty, vI th], kI cI v0 21 mv, kI cI r0 9 mr, kI cI f0 9 mf, kI cI g0 9 mg, kI cI d0 8 md] sz (fun (z : Int) (u : (Int → Int) × (Int → Int) × (Int → Int) × (Int → Int)) => z = sumZ (aI 0 n (rmc mv) (mv 1) (mv 2) (wv mv) (mv 0)) (powZ n (mv 0).toNat).toNat) (fun (u : (Int → Int) × (Int → Int) × (Int → Int) × (Int → Int)) => [kO y0 7 [vI n, .ref v0, .ref a0, vI sts, .ref r0, .ref f0, .ref g0, .ref d0, .ref t9, vI ty, vI 0], kI cI v0 21 mv, kI cI r0 9 u.1, kI cI f0 9 u.2.1, kI cI g0 9 u.2.2.1, kI cI d0 8 u.2.2.2]) := by
  refine gMi_of (cc := cX7_arrangements) (maxL := 1) (ret := (some .int)) (by decide) rfl (Nat.le_of_ble_eq_true rfl) ?_
  intro p e s m args below meth c A Q hQ hx hb hr hts hown hlocks hnm hml H locs hP hK hD hA hS ls hl
  have hi7 : ∀ w ∈ wsX70, w ∈ wsX7_arrangements := fun _ h => (List.mem_cons_of_mem _ (List.mem_append_right _ h))
  have hl : lv_has ls 1 [(0, .ref y0)] := hl
  refine lv_aload_n hx hb dX7_arrangements_0 rfl (lv_at hl 0 rfl) ?_
  refine z_iconst hx hb dX7_arrangements_1 ?_
  refine va_put (D := dd) (ci := 7) (v := vI 0) (ty := .int) (C := RX7) (T := TX7) (N := 11) hx hb hts hi7 tyX7 tyX7_ok nmX7 hown hK hP hD hS 0 rfl rfl 10 (by decide) (hts _ (List.mem_cons_of_mem _ (List.mem_append_left _ (List.mem_append_left _ (List.mem_of_getElem? (i := 0) rfl))))) (fun _ h9 => h9) rfl (by decide +kernel) rfl rfl (Nat.le_of_ble_eq_true rfl) dX7_arrangements_2 (fun H locs hP hD hS => ?_)
  have hP : va_P dd vwCl [kO y0 7 [vI n, .ref v0, .ref a0, vI sts, .ref r0, .ref f0, .ref g0, .ref d0, .ref t9, vI ty, vI 0], kI cI v0 21 mv, kI cI r0 9 mr, kI cI f0 9 mf, kI cI g0 9 mg, kI cI d0 8 md] H := hP
  have hD : va_D A [kO y0 7 [vI n, .ref v0, .ref a0, vI sts, .ref r0, .ref f0, .ref g0, .ref d0, .ref t9, vI ty, vI 0], kI cI v0 21 mv, kI cI r0 9 mr, kI cI f0 9 mf, kI cI g0 9 mg, kI cI d0 8 md] := hD
  refine lv_aload_n hx hb dX7_arrangements_5 rfl (lv_at hl 0 rfl) ?_
  refine z_iconst hx hb dX7_arrangements_6 ?_
  refine g_callVi (own := RX7) (n := 1) (mc := 0) (ms := 0) (As := [vI 0]) (rest := []) (wc := [kO y0 7 [vI n, .ref v0, .ref a0, vI sts, .ref r0, .ref f0, .ref g0, .ref d0, .ref t9, vI ty, vI 0], kI cI v0 21 mv, kI cI r0 9 mr, kI cI f0 9 mf, kI cI g0 9 mg, kI cI d0 8 md]) (wr := []) hx hb hml hown hts hK hP hD hS hA [0, 1, 2, 3, 4, 5] [] rfl rfl (by decide) (by decide) 7 0 rfl rfl (c_X7_arranged l dd cI cJ cC cS y0 v0 a0 r0 f0 g0 d0 t9 n sts ty mv mr mf mg md 0 H.size  (by first | assumption | omega) (by first | assumption | omega) (by first | assumption | omega) (by first | assumption | omega) (by first | assumption | (intro j h0 h1; omega)) (by first | assumption | (intro j h0 h1; omega)) (by first | assumption | omega)) gX7_arrangements_X7_arranged rfl (by decide +kernel) (by decide) (by decide) (by decide) (by decide) rfl hl.1 rfl (Nat.le_of_ble_eq_true rfl) dX7_arrangements_7 (fun z_1 u_2 H locs hp7 hP hD hS => ?_)
  obtain ⟨mr1_3, mf1_4, mg1_5, md1_6⟩ := u_2
  try dsimp only at hp7
  subst z_1
  have hP : va_P dd vwCl [kO y0 7 [vI n, .ref v0, .ref a0, vI sts, .ref r0, .ref f0, .ref g0, .ref d0, .ref t9, vI ty, vI 0], kI cI v0 21 mv, kI cI r0 9 mr1_3, kI cI f0 9 mf1_4, kI cI g0 9 mg1_5, kI cI d0 8 md1_6] H := hP
  have hD : va_D A [kO y0 7 [vI n, .ref v0, .ref a0, vI sts, .ref r0, .ref f0, .ref g0, .ref d0, .ref t9, vI ty, vI 0], kI cI v0 21 mv, kI cI r0 9 mr1_3, kI cI f0 9 mf1_4, kI cI g0 9 mg1_5, kI cI d0 8 md1_6] := hD
  subst hQ
  refine z_iret (z := sumZ (aI 0 n (rmc mv) (mv 1) (mv 2) (wv mv) (mv 0)) (powZ n (mv 0).toNat).toNat) hx hb hr hlocks dX7_arrangements_10 (mr1_3, mf1_4, mg1_5, md1_6) hK hS ⟨by omega, by omega⟩ hP hD ?_
  first | rfl | trivial | omega

set_option maxHeartbeats 4000000 in
set_option maxRecDepth 100000 in
theorem c_X7_parkingArrangements (l : Launch) (dd : va_G) (cI cJ cC cS : ClassId) (y0 v0 a0 r0 f0 g0 d0 t9 : Nat) (n sts ty th : Int) (mv : Int → Int) (mr mf mg md : Int → Int) (sz : Nat) (hn : 1 ≤ n ∧ n ≤ 8) (hc0 : 0 ≤ mv 0 ∧ mv 0 ≤ 9) (hc1 : 0 ≤ mv 1 ∧ mv 1 ≤ 3) (hc2 : 0 ≤ mv 2 ∧ mv 2 ≤ 8) (hcap : ∀ j : Int, 0 ≤ j → j < n → 0 ≤ mv (3 + j) ∧ mv (3 + j) ≤ 3) (hwi : ∀ j : Int, 0 ≤ j → j < mv 0 → 0 ≤ mv (12 + j) ∧ mv (12 + j) < n) : gMi l yX7_parkingArrangements wsX7_parkingArrangements 5 0 0 dd cI cJ cC cS [.ref y0] [kO y0 7 [vI n, .ref v0, .ref a0, vI sts, .ref r0, .ref f0, .ref g0, .ref d0, .ref t9, vI ty, vI th], kI cI v0 21 mv, kI cI r0 9 mr, kI cI f0 9 mf, kI cI g0 9 mg, kI cI d0 8 md] sz (fun (z : Int) (u : (Int → Int) × (Int → Int) × (Int → Int) × (Int → Int)) => z = sumZ (aI 1 n (rmc mv) (mv 1) (mv 2) (wv mv) (mv 0)) (powZ n (mv 0).toNat).toNat) (fun (u : (Int → Int) × (Int → Int) × (Int → Int) × (Int → Int)) => [kO y0 7 [vI n, .ref v0, .ref a0, vI sts, .ref r0, .ref f0, .ref g0, .ref d0, .ref t9, vI ty, vI 0], kI cI v0 21 mv, kI cI r0 9 u.1, kI cI f0 9 u.2.1, kI cI g0 9 u.2.2.1, kI cI d0 8 u.2.2.2]) := by
  refine gMi_of (cc := cX7_parkingArrangements) (maxL := 1) (ret := (some .int)) (by decide) rfl (Nat.le_of_ble_eq_true rfl) ?_
  intro p e s m args below meth c A Q hQ hx hb hr hts hown hlocks hnm hml H locs hP hK hD hA hS ls hl
  have hi7 : ∀ w ∈ wsX70, w ∈ wsX7_parkingArrangements := fun _ h => (List.mem_cons_of_mem _ (List.mem_append_right _ h))
  have hl : lv_has ls 1 [(0, .ref y0)] := hl
  refine lv_aload_n hx hb dX7_parkingArrangements_0 rfl (lv_at hl 0 rfl) ?_
  refine z_iconst hx hb dX7_parkingArrangements_1 ?_
  refine va_put (D := dd) (ci := 7) (v := vI 0) (ty := .int) (C := RX7) (T := TX7) (N := 11) hx hb hts hi7 tyX7 tyX7_ok nmX7 hown hK hP hD hS 0 rfl rfl 10 (by decide) (hts _ (List.mem_cons_of_mem _ (List.mem_append_left _ (List.mem_append_left _ (List.mem_of_getElem? (i := 0) rfl))))) (fun _ h9 => h9) rfl (by decide +kernel) rfl rfl (Nat.le_of_ble_eq_true rfl) dX7_parkingArrangements_2 (fun H locs hP hD hS => ?_)
  have hP : va_P dd vwCl [kO y0 7 [vI n, .ref v0, .ref a0, vI sts, .ref r0, .ref f0, .ref g0, .ref d0, .ref t9, vI ty, vI 0], kI cI v0 21 mv, kI cI r0 9 mr, kI cI f0 9 mf, kI cI g0 9 mg, kI cI d0 8 md] H := hP
  have hD : va_D A [kO y0 7 [vI n, .ref v0, .ref a0, vI sts, .ref r0, .ref f0, .ref g0, .ref d0, .ref t9, vI ty, vI 0], kI cI v0 21 mv, kI cI r0 9 mr, kI cI f0 9 mf, kI cI g0 9 mg, kI cI d0 8 md] := hD
  refine lv_aload_n hx hb dX7_parkingArrangements_5 rfl (lv_at hl 0 rfl) ?_
  refine z_iconst hx hb dX7_parkingArrangements_6 ?_
  refine g_callVi (own := RX7) (n := 1) (mc := 0) (ms := 0) (As := [vI 1]) (rest := []) (wc := [kO y0 7 [vI n, .ref v0, .ref a0, vI sts, .ref r0, .ref f0, .ref g0, .ref d0, .ref t9, vI ty, vI 0], kI cI v0 21 mv, kI cI r0 9 mr, kI cI f0 9 mf, kI cI g0 9 mg, kI cI d0 8 md]) (wr := []) hx hb hml hown hts hK hP hD hS hA [0, 1, 2, 3, 4, 5] [] rfl rfl (by decide) (by decide) 7 0 rfl rfl (c_X7_arranged l dd cI cJ cC cS y0 v0 a0 r0 f0 g0 d0 t9 n sts ty mv mr mf mg md 1 H.size  (by first | assumption | omega) (by first | assumption | omega) (by first | assumption | omega) (by first | assumption | omega) (by first | assumption | (intro j h0 h1; omega)) (by first | assumption | (intro j h0 h1; omega)) (by first | assumption | omega)) gX7_parkingArrangements_X7_arranged rfl (by decide +kernel) (by decide) (by decide) (by decide) (by decide) rfl hl.1 rfl (Nat.le_of_ble_eq_true rfl) dX7_parkingArrangements_7 (fun z_1 u_2 H locs hp7 hP hD hS => ?_)
  obtain ⟨mr1_3, mf1_4, mg1_5, md1_6⟩ := u_2
  try dsimp only at hp7
  subst z_1
  have hP : va_P dd vwCl [kO y0 7 [vI n, .ref v0, .ref a0, vI sts, .ref r0, .ref f0, .ref g0, .ref d0, .ref t9, vI ty, vI 0], kI cI v0 21 mv, kI cI r0 9 mr1_3, kI cI f0 9 mf1_4, kI cI g0 9 mg1_5, kI cI d0 8 md1_6] H := hP
  have hD : va_D A [kO y0 7 [vI n, .ref v0, .ref a0, vI sts, .ref r0, .ref f0, .ref g0, .ref d0, .ref t9, vI ty, vI 0], kI cI v0 21 mv, kI cI r0 9 mr1_3, kI cI f0 9 mf1_4, kI cI g0 9 mg1_5, kI cI d0 8 md1_6] := hD
  subst hQ
  refine z_iret (z := sumZ (aI 1 n (rmc mv) (mv 1) (mv 2) (wv mv) (mv 0)) (powZ n (mv 0).toNat).toNat) hx hb hr hlocks dX7_parkingArrangements_10 (mr1_3, mf1_4, mg1_5, md1_6) hK hS ⟨by omega, by omega⟩ hP hD ?_
  first | rfl | trivial | omega

set_option maxHeartbeats 4000000 in
set_option maxRecDepth 100000 in
theorem c_X7_nextArrangement (l : Launch) (dd : va_G) (cI cJ cC cS : ClassId) (y0 v0 a0 r0 f0 g0 d0 t9 : Nat) (n sts ty th : Int) (mv : Int → Int) (mp : Int → Int) (mr : Int → Int) (sz : Nat) (hst : 0 ≤ sts ∧ sts ≤ 6) (hn : 1 ≤ n ∧ n ≤ 8) (hc0 : 0 ≤ mv 0 ∧ mv 0 ≤ 9) (hc1 : 0 ≤ mv 1 ∧ mv 1 ≤ 3) (hc2 : 0 ≤ mv 2 ∧ mv 2 ≤ 8) (hcap : ∀ j : Int, 0 ≤ j → j < n → 0 ≤ mv (3 + j) ∧ mv (3 + j) ≤ 3) (hwi : ∀ j : Int, 0 ≤ j → j < mv 0 → 0 ≤ mv (12 + j) ∧ mv (12 + j) < n) : gMi l yX7_nextArrangement wsX7_nextArrangement 4 0 0 dd cI cJ cC cS [.ref y0] [kO y0 7 [vI n, .ref v0, .ref a0, vI sts, .ref r0, .ref f0, .ref g0, .ref d0, .ref t9, vI ty, vI th], kI cI v0 21 mv, kI cI a0 126 mp, kI cI r0 9 mr] sz (fun (z : Int) (f1 : Int → Int) => ((z = 0 ∧ (∀ j : Int, 0 ≤ j → j + 1 < (mv 0) → (cpZ (wv mv) mr (mv 0)) (j + 1) ≤ (cpZ (wv mv) mr (mv 0)) j) ∧ f1 = rvZ (cpZ (wv mv) mr (mv 0)) 0 ((mv 0) - 1)) ∨ (∃ p o : Int, 0 ≤ p ∧ p < o ∧ o < (mv 0) ∧ (cpZ (wv mv) mr (mv 0)) p < (cpZ (wv mv) mr (mv 0)) (p + 1) ∧ (∀ j : Int, p < j → j + 1 < (mv 0) → (cpZ (wv mv) mr (mv 0)) (j + 1) ≤ (cpZ (wv mv) mr (mv 0)) j) ∧ (cpZ (wv mv) mr (mv 0)) p < (cpZ (wv mv) mr (mv 0)) o ∧ (∀ q : Int, o < q → q < (mv 0) → (cpZ (wv mv) mr (mv 0)) q ≤ (cpZ (wv mv) mr (mv 0)) p) ∧ z = 1 ∧ f1 = rvZ (swZ (cpZ (wv mv) mr (mv 0)) p o) (p + 1) ((mv 0) - 1)))) (fun (f1 : Int → Int) => [kO y0 7 [vI n, .ref v0, .ref a0, vI (acS sts), .ref r0, .ref f0, .ref g0, .ref d0, .ref t9, vI ty, vI 0], kI cI v0 21 (wrP (uZ mv 0 (mv 0)) f1 12 (mv 0)), kI cI a0 126 (acP sts mp mv), kI cI r0 9 f1]) := by
  refine gMi_of (cc := cX7_nextArrangement) (maxL := 2) (ret := (some .boolean)) (by decide) rfl (Nat.le_of_ble_eq_true rfl) ?_
  intro p e s m args below meth c A Q hQ hx hb hr hts hown hlocks hnm hml H locs hP hK hD hA hS ls hl
  have hi7 : ∀ w ∈ wsX70, w ∈ wsX7_nextArrangement := fun _ h => (List.mem_cons_of_mem _ (List.mem_append_right _ h))
  have hl : lv_has ls 2 [(0, .ref y0)] := hl
  refine lv_aload_n hx hb dX7_nextArrangement_0 rfl (lv_at hl 0 rfl) ?_
  refine z_iconst hx hb dX7_nextArrangement_1 ?_
  refine va_put (D := dd) (ci := 7) (v := vI 0) (ty := .int) (C := RX7) (T := TX7) (N := 11) hx hb hts hi7 tyX7 tyX7_ok nmX7 hown hK hP hD hS 0 rfl rfl 10 (by decide) (hts _ (List.mem_cons_of_mem _ (List.mem_append_left _ (List.mem_append_left _ (List.mem_of_getElem? (i := 0) rfl))))) (fun _ h9 => h9) rfl (by decide +kernel) rfl rfl (Nat.le_of_ble_eq_true rfl) dX7_nextArrangement_2 (fun H locs hP hD hS => ?_)
  have hP : va_P dd vwCl [kO y0 7 [vI n, .ref v0, .ref a0, vI sts, .ref r0, .ref f0, .ref g0, .ref d0, .ref t9, vI ty, vI 0], kI cI v0 21 mv, kI cI a0 126 mp, kI cI r0 9 mr] H := hP
  have hD : va_D A [kO y0 7 [vI n, .ref v0, .ref a0, vI sts, .ref r0, .ref f0, .ref g0, .ref d0, .ref t9, vI ty, vI 0], kI cI v0 21 mv, kI cI a0 126 mp, kI cI r0 9 mr] := hD
  refine lv_aload_n hx hb dX7_nextArrangement_5 rfl (lv_at hl 0 rfl) ?_
  refine g_callVv (own := RX7) (n := 0) (mc := 0) (ms := 0) (As := []) (rest := []) (wc := [kO y0 7 [vI n, .ref v0, .ref a0, vI sts, .ref r0, .ref f0, .ref g0, .ref d0, .ref t9, vI ty, vI 0], kI cI v0 21 mv, kI cI a0 126 mp]) (wr := [kI cI r0 9 mr]) hx hb hml hown hts hK hP hD hS hA [0, 1, 2] [3] rfl rfl (by decide) (by decide) 7 0 rfl rfl (c_X7_act l dd cI cJ cC cS y0 v0 a0 r0 f0 g0 d0 t9 n sts ty 0 mv mp H.size  (by first | assumption | omega)) gX7_nextArrangement_X7_act rfl (by decide +kernel) (by decide) (by decide) (by decide) (by decide) rfl hl.1 rfl (Nat.le_of_ble_eq_true rfl) dX7_nextArrangement_6 (fun u_1 H locs hp6 hP hD hS => ?_)
  have hP : va_P dd vwCl [kI cI r0 9 mr, kO y0 7 [vI n, .ref v0, .ref a0, vI (acS sts), .ref r0, .ref f0, .ref g0, .ref d0, .ref t9, vI ty, vI 0], kI cI v0 21 mv, kI cI a0 126 (acP sts mp mv)] H := hP
  have hD : va_D A [kI cI r0 9 mr, kO y0 7 [vI n, .ref v0, .ref a0, vI (acS sts), .ref r0, .ref f0, .ref g0, .ref d0, .ref t9, vI ty, vI 0], kI cI v0 21 mv, kI cI a0 126 (acP sts mp mv)] := hD
  refine lv_aload_n hx hb dX7_nextArrangement_9 rfl (lv_at hl 0 rfl) ?_
  refine g_callVv (own := RX7) (n := 0) (mc := 0) (ms := 0) (As := []) (rest := []) (wc := [kO y0 7 [vI n, .ref v0, .ref a0, vI (acS sts), .ref r0, .ref f0, .ref g0, .ref d0, .ref t9, vI ty, vI 0], kI cI v0 21 mv, kI cI r0 9 mr]) (wr := [kI cI a0 126 (acP sts mp mv)]) hx hb hml hown hts hK hP hD hS hA [1, 2, 0] [3] rfl rfl (by decide) (by decide) 7 0 rfl rfl (c_X7_takes l dd cI cJ cC cS y0 v0 a0 r0 f0 g0 d0 t9 n (acS sts) ty 0 mv mr H.size  (by first | assumption | omega)) gX7_nextArrangement_X7_takes rfl (by decide +kernel) (by decide) (by decide) (by decide) (by decide) rfl hl.1 rfl (Nat.le_of_ble_eq_true rfl) dX7_nextArrangement_10 (fun u_2 H locs hp10 hP hD hS => ?_)
  have hP : va_P dd vwCl [kI cI a0 126 (acP sts mp mv), kO y0 7 [vI n, .ref v0, .ref a0, vI (acS sts), .ref r0, .ref f0, .ref g0, .ref d0, .ref t9, vI ty, vI 0], kI cI v0 21 mv, kI cI r0 9 (cpZ (wv mv) mr (mv 0))] H := hP
  have hD : va_D A [kI cI a0 126 (acP sts mp mv), kO y0 7 [vI n, .ref v0, .ref a0, vI (acS sts), .ref r0, .ref f0, .ref g0, .ref d0, .ref t9, vI ty, vI 0], kI cI v0 21 mv, kI cI r0 9 (cpZ (wv mv) mr (mv 0))] := hD
  refine lv_aload_n hx hb dX7_nextArrangement_13 rfl (lv_at hl 0 rfl) ?_
  refine lv_aload_n hx hb dX7_nextArrangement_14 rfl (lv_at hl 0 rfl) ?_
  refine va_get (D := dd) (ci := 7) (v := .ref v0) (C := RX7) (T := TX7) (N := 11) hx hb hts hi7 hown hK hP 1 rfl rfl 1 (by decide) (hts _ (List.mem_cons_of_mem _ (List.mem_append_left _ (List.mem_append_left _ (List.mem_of_getElem? (i := 1) rfl))))) (fun _ h9 => h9) rfl dX7_nextArrangement_15 ?_
  refine z_iconst hx hb dX7_nextArrangement_18 ?_
  refine z_iald hx hb hK hP 2 0 rfl rfl (i := 0) (by omega) (by decide) dX7_nextArrangement_19 ?_
  refine g_callVi (own := RX7) (n := 1) (mc := 0) (ms := 0) (As := [vI (mv 0)]) (rest := []) (wc := [kO y0 7 [vI n, .ref v0, .ref a0, vI (acS sts), .ref r0, .ref f0, .ref g0, .ref d0, .ref t9, vI ty, vI 0], kI cI r0 9 (cpZ (wv mv) mr (mv 0))]) (wr := [kI cI a0 126 (acP sts mp mv), kI cI v0 21 mv]) hx hb hml hown hts hK hP hD hS hA [1, 3] [0, 2] rfl rfl (by decide) (by decide) 7 0 rfl rfl (c_X7_goesOn l dd cI cJ cC cS y0 v0 a0 r0 f0 g0 d0 t9 n (acS sts) ty 0 (cpZ (wv mv) mr (mv 0)) (mv 0) H.size  (by first | assumption | omega) (fun j h0 h1 => by rw [cpZ_lt h1]; have : 0 ≤ wv mv j ∧ wv mv j < n := hwi j h0 h1; omega)) gX7_nextArrangement_X7_goesOn rfl (by decide +kernel) (by decide) (by decide) (by decide) (by decide) rfl hl.1 rfl (Nat.le_of_ble_eq_true rfl) dX7_nextArrangement_20 (fun z_3 u_4 H locs hp20 hP hD hS => ?_)
  obtain ⟨fb, rfl⟩ : ∃ x, x = u_4 := ⟨_, rfl⟩
  try dsimp only at hp20
  have hP : va_P dd vwCl [kI cI a0 126 (acP sts mp mv), kI cI v0 21 mv, kO y0 7 [vI n, .ref v0, .ref a0, vI (acS sts), .ref r0, .ref f0, .ref g0, .ref d0, .ref t9, vI ty, vI 0], kI cI r0 9 fb] H := hP
  have hD : va_D A [kI cI a0 126 (acP sts mp mv), kI cI v0 21 mv, kO y0 7 [vI n, .ref v0, .ref a0, vI (acS sts), .ref r0, .ref f0, .ref g0, .ref d0, .ref t9, vI ty, vI 0], kI cI r0 9 fb] := hD
  have hgz := go_z (go_of hn hc0.1 (fun j h0 h1 => by rw [cpZ_lt h1]; exact hwi j h0 h1) hp20)
  have hnx : Hid _ := hp20
  clear hp20
  refine lv_istore_n (lv' := [(1, vI z_3), (0, .ref y0)]) hx hb dX7_nextArrangement_23 rfl hl (by decide) rfl (fun ls hl => ?_)
  refine lv_aload_n hx hb dX7_nextArrangement_24 rfl (lv_at hl 1 rfl) ?_
  refine lv_aload_n hx hb dX7_nextArrangement_25 rfl (lv_at hl 1 rfl) ?_
  refine va_get (D := dd) (ci := 7) (v := .ref v0) (C := RX7) (T := TX7) (N := 11) hx hb hts hi7 hown hK hP 2 rfl rfl 1 (by decide) (hts _ (List.mem_cons_of_mem _ (List.mem_append_left _ (List.mem_append_left _ (List.mem_of_getElem? (i := 1) rfl))))) (fun _ h9 => h9) rfl dX7_nextArrangement_26 ?_
  refine z_iconst hx hb dX7_nextArrangement_29 ?_
  refine z_iald hx hb hK hP 1 0 rfl rfl (i := 0) (by omega) (by decide) dX7_nextArrangement_30 ?_
  refine g_callVv (own := RX7) (n := 1) (mc := 0) (ms := 0) (As := [vI (mv 0)]) (rest := []) (wc := [kO y0 7 [vI n, .ref v0, .ref a0, vI (acS sts), .ref r0, .ref f0, .ref g0, .ref d0, .ref t9, vI ty, vI 0], kI cI v0 21 mv, kI cI r0 9 fb]) (wr := [kI cI a0 126 (acP sts mp mv)]) hx hb hml hown hts hK hP hD hS hA [2, 1, 3] [0] rfl rfl (by decide) (by decide) 7 0 rfl rfl (c_X7_lays l dd cI cJ cC cS y0 v0 a0 r0 f0 g0 d0 t9 n (acS sts) ty 0 mv fb (mv 0) H.size  (by first | assumption | omega)) gX7_nextArrangement_X7_lays rfl (by decide +kernel) (by decide) (by decide) (by decide) (by decide) rfl hl.1 rfl (Nat.le_of_ble_eq_true rfl) dX7_nextArrangement_31 (fun u_5 H locs hp31 hP hD hS => ?_)
  have hP : va_P dd vwCl [kI cI a0 126 (acP sts mp mv), kO y0 7 [vI n, .ref v0, .ref a0, vI (acS sts), .ref r0, .ref f0, .ref g0, .ref d0, .ref t9, vI ty, vI 0], kI cI v0 21 (wrP (uZ mv 0 (mv 0)) fb 12 (mv 0)), kI cI r0 9 fb] H := hP
  have hD : va_D A [kI cI a0 126 (acP sts mp mv), kO y0 7 [vI n, .ref v0, .ref a0, vI (acS sts), .ref r0, .ref f0, .ref g0, .ref d0, .ref t9, vI ty, vI 0], kI cI v0 21 (wrP (uZ mv 0 (mv 0)) fb 12 (mv 0)), kI cI r0 9 fb] := hD
  refine lv_iload_n hx hb dX7_nextArrangement_34 rfl (lv_at hl 0 rfl) ?_
  subst hQ
  refine z_zret (z := z_3) hx hb hr hlocks dX7_nextArrangement_35 (by omega) fb hK hS ⟨by omega, by omega⟩ (hP.sub [1, 2, 0, 3] rfl) (hD.sub [1, 2, 0, 3] (by decide) rfl) ?_
  unfold Hid at hnx
  exact hnx

