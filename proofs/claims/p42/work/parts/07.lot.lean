set_option maxHeartbeats 4000000 in
set_option maxRecDepth 100000 in
theorem c_X1_drive (l : Launch) (dd : va_G) (cI cJ cC cS : ClassId) (q0 q1 q2 q3 q4 q5 : Nat) (sp ru re ar fi : Int) (cap st wi pl lk : Int → Int) (car fr : Int) (sz : Nat) (hsp : 1 ≤ sp ∧ sp ≤ 8) (hcap : ∀ j : Int, 0 ≤ j → j < sp → 0 ≤ cap j ∧ cap j ≤ 3) (hst : ∀ j : Int, 0 ≤ j → j < sp → 0 ≤ st j ∧ st j ≤ 3) (hcar : 0 ≤ car ∧ car < 9) (hru : 0 ≤ ru ∧ ru ≤ 3) (hre : 0 ≤ re ∧ re ≤ 8) (hfr : 0 ≤ fr ∧ fr < sp) : gMi l yX1_drive wsX1_drive 3 0 0 dd cI cJ cC cS [.ref q0, vI car, vI fr] [kO q0 1 [vI sp, .ref q1, .ref q2, .ref q3, .ref q4, .ref q5, vI ru, vI re, vI ar, vI fi], kI cI q1 8 cap, kI cI q2 8 st, kI cI q3 9 wi, kI cI q4 9 pl, kI cI q5 9 lk] sz (fun (z : Int) (u : (Int → Int) × (Int → Int) × (Int → Int) × Int) => ((pv sp cap st (pseq ru re sp fr)).2 < 0 ∧ z = 0 ∧ u.1 = st ∧ u.2.1 = pl ∧ u.2.2.1 = (uZ lk car (lk car + (pv sp cap st (pseq ru re sp fr)).1)) ∧ u.2.2.2 = fi) ∨ (0 ≤ (pv sp cap st (pseq ru re sp fr)).2 ∧ z = 1 ∧ u.1 = (uZ st (pv sp cap st (pseq ru re sp fr)).2 (st (pv sp cap st (pseq ru re sp fr)).2 + 1)) ∧ u.2.1 = (uZ pl car (pv sp cap st (pseq ru re sp fr)).2) ∧ u.2.2.1 = (uZ lk car (lk car + (pv sp cap st (pseq ru re sp fr)).1)) ∧ u.2.2.2 = (fi + 2 ^ (2 * (pv sp cap st (pseq ru re sp fr)).2).toNat))) (fun (u : (Int → Int) × (Int → Int) × (Int → Int) × Int) => [kO q0 1 [vI sp, .ref q1, .ref q2, .ref q3, .ref q4, .ref q5, vI ru, vI re, vI ar, vI u.2.2.2], kI cI q1 8 cap, kI cI q2 8 u.1, kI cI q3 9 wi, kI cI q4 9 u.2.1, kI cI q5 9 u.2.2.1]) := by
  refine gMi_of (cc := cX1_drive) (maxL := 3) (ret := (some .boolean)) (by decide) rfl (Nat.le_of_ble_eq_true rfl) ?_
  intro p e s m args below meth c A Q hQ hx hb hr hts hown hlocks hnm hml H locs hP hK hD hA hS ls hl
  have hi1 : ∀ w ∈ wsX10, w ∈ wsX1_drive := fun _ h => (List.mem_cons_of_mem _ (List.mem_append_right _ h))
  have hl : lv_has ls 3 [(0, .ref q0), (1, vI car), (2, vI fr)] := hl
  refine lv_aload_n hx hb dX1_drive_0 rfl (lv_at hl 0 rfl) ?_
  refine va_get (D := dd) (ci := 1) (v := vI ru) (C := RX1) (T := TX1) (N := 10) hx hb hts hi1 hown hK hP 0 rfl rfl 6 (by decide) (hts _ (List.mem_cons_of_mem _ (List.mem_append_left _ (List.mem_append_left _ (List.mem_of_getElem? (i := 0) rfl))))) (fun _ h9 => h9) rfl dX1_drive_1 ?_
  have sw4 : ru = 1 ∨ ru = 2 ∨ ru = 3 ∨ (ru < 1 ∨ 3 < ru) := by omega
  rcases sw4 with sw4 | sw4 | sw4 | sw4
  · skip
    refine z_tabIn (k := 1) (tgt := 32) hx hb dX1_drive_4 (by omega) sw4 rfl (by decide) ?_
    refine lv_aload_n hx hb dX1_drive_32 rfl (lv_at hl 0 rfl) ?_
    refine lv_iload_n hx hb dX1_drive_33 rfl (lv_at hl 1 rfl) ?_
    refine lv_iload_n hx hb dX1_drive_34 rfl (lv_at hl 2 rfl) ?_
    refine lv_iload_n hx hb dX1_drive_35 rfl (lv_at hl 2 rfl) ?_
    refine lv_aload_n hx hb dX1_drive_36 rfl (lv_at hl 0 rfl) ?_
    refine va_get (D := dd) (ci := 1) (v := vI re) (C := RX1) (T := TX1) (N := 10) hx hb hts hi1 hown hK hP 0 rfl rfl 7 (by decide) (hts _ (List.mem_cons_of_mem _ (List.mem_append_left _ (List.mem_append_left _ (List.mem_of_getElem? (i := 1) rfl))))) (fun _ h9 => h9) rfl dX1_drive_37 ?_
    refine z_isub (z := (fr - re)) hx hb rfl dX1_drive_40 ?_
    refine g_callVi (own := RX1) (n := 3) (mc := 0) (ms := 0) (As := [vI car, vI fr, vI (fr - re)]) (rest := []) (wc := [kO q0 1 [vI sp, .ref q1, .ref q2, .ref q3, .ref q4, .ref q5, vI ru, vI re, vI ar, vI fi], kI cI q1 8 cap, kI cI q2 8 st, kI cI q3 9 wi, kI cI q4 9 pl, kI cI q5 9 lk]) (wr := []) hx hb hml hown hts hK hP hD hS hA [0, 1, 2, 3, 4, 5] [] rfl rfl (by decide) (by decide) 1 0 rfl rfl (c_X1_lookDown l dd cI cJ cC cS q0 q1 q2 q3 q4 q5 sp ru re ar fi cap st wi pl lk car fr (fr - re) H.size  (by first | assumption | omega) (by first | assumption | (intro j h0 h1; omega)) (by first | assumption | (intro j h0 h1; omega)) (by first | assumption | omega) (by first | assumption | omega)) gX1_drive_X1_lookDown rfl (by decide +kernel) (by decide) (by decide) (by decide) (by decide) rfl hl.1 rfl (Nat.le_of_ble_eq_true rfl) dX1_drive_41 (fun z_1 u_2 H locs hp41 hP hD hS => ?_)
    obtain ⟨st1_3, pl1_4, lk1_5, fi1_6⟩ := u_2
    try dsimp only at hp41
    rcases hp41 with ⟨hp41_0, hp41_z, hp41_o0, hp41_o1, hp41_o2, hp41_o3⟩ | ⟨hp41_0, hp41_z, hp41_o0, hp41_o1, hp41_o2, hp41_o3⟩
    · skip
      subst z_1 st1_3 pl1_4 lk1_5 fi1_6
      have hP : va_P dd vwCl [kO q0 1 [vI sp, .ref q1, .ref q2, .ref q3, .ref q4, .ref q5, vI ru, vI re, vI ar, vI fi], kI cI q1 8 cap, kI cI q2 8 st, kI cI q3 9 wi, kI cI q4 9 pl, kI cI q5 9 (uZ lk car (lk car + (pv sp cap st (dnL fr (fr - re))).1))] H := hP
      have hD : va_D A [kO q0 1 [vI sp, .ref q1, .ref q2, .ref q3, .ref q4, .ref q5, vI ru, vI re, vI ar, vI fi], kI cI q1 8 cap, kI cI q2 8 st, kI cI q3 9 wi, kI cI q4 9 pl, kI cI q5 9 (uZ lk car (lk car + (pv sp cap st (dnL fr (fr - re))).1))] := hD
      refine z_if_ne (tgt := 64) hx hb dX1_drive_44 (by decide) (by omega) (fun c44 => ?_) (fun c44 => ?_)
      · exact absurd c44 (by omega)
      · skip
        refine lv_aload_n hx hb dX1_drive_47 rfl (lv_at hl 0 rfl) ?_
        refine lv_iload_n hx hb dX1_drive_48 rfl (lv_at hl 1 rfl) ?_
        refine lv_iload_n hx hb dX1_drive_49 rfl (lv_at hl 2 rfl) ?_
        refine z_iconst hx hb dX1_drive_50 ?_
        refine z_iadd (z := (fr + 1)) hx hb rfl dX1_drive_51 ?_
        refine lv_aload_n hx hb dX1_drive_52 rfl (lv_at hl 0 rfl) ?_
        refine va_get (D := dd) (ci := 1) (v := vI sp) (C := RX1) (T := TX1) (N := 10) hx hb hts hi1 hown hK hP 0 rfl rfl 0 (by decide) (hts _ (List.mem_cons_of_mem _ (List.mem_append_left _ (List.mem_append_left _ (List.mem_of_getElem? (i := 2) rfl))))) (fun _ h9 => h9) rfl dX1_drive_53 ?_
        refine z_iconst hx hb dX1_drive_56 ?_
        refine z_isub (z := (sp - 1)) hx hb rfl dX1_drive_57 ?_
        refine g_callVi (own := RX1) (n := 3) (mc := 0) (ms := 0) (As := [vI car, vI (fr + 1), vI (sp - 1)]) (rest := []) (wc := [kO q0 1 [vI sp, .ref q1, .ref q2, .ref q3, .ref q4, .ref q5, vI ru, vI re, vI ar, vI fi], kI cI q1 8 cap, kI cI q2 8 st, kI cI q3 9 wi, kI cI q4 9 pl, kI cI q5 9 (uZ lk car (lk car + (pv sp cap st (dnL fr (fr - re))).1))]) (wr := []) hx hb hml hown hts hK hP hD hS hA [0, 1, 2, 3, 4, 5] [] rfl rfl (by decide) (by decide) 1 0 rfl rfl (c_X1_lookUp l dd cI cJ cC cS q0 q1 q2 q3 q4 q5 sp ru re ar fi cap st wi pl (uZ lk car (lk car + (pv sp cap st (dnL fr (fr - re))).1)) car (fr + 1) (sp - 1) H.size  (by first | assumption | omega) (by first | assumption | (intro j h0 h1; omega)) (by first | assumption | (intro j h0 h1; omega)) (by first | assumption | omega) (by first | assumption | omega)) gX1_drive_X1_lookUp rfl (by decide +kernel) (by decide) (by decide) (by decide) (by decide) rfl hl.1 rfl (Nat.le_of_ble_eq_true rfl) dX1_drive_58 (fun z_7 u_8 H locs hp58 hP hD hS => ?_)
        obtain ⟨st1_9, pl1_10, lk1_11, fi1_12⟩ := u_8
        try dsimp only at hp58
        rcases hp58 with ⟨hp58_0, hp58_z, hp58_o0, hp58_o1, hp58_o2, hp58_o3⟩ | ⟨hp58_0, hp58_z, hp58_o0, hp58_o1, hp58_o2, hp58_o3⟩
        · skip
          subst z_7 st1_9 pl1_10 lk1_11 fi1_12
          have hP : va_P dd vwCl [kO q0 1 [vI sp, .ref q1, .ref q2, .ref q3, .ref q4, .ref q5, vI ru, vI re, vI ar, vI fi], kI cI q1 8 cap, kI cI q2 8 st, kI cI q3 9 wi, kI cI q4 9 pl, kI cI q5 9 (uZ (uZ lk car (lk car + (pv sp cap st (dnL fr (fr - re))).1)) car ((uZ lk car (lk car + (pv sp cap st (dnL fr (fr - re))).1)) car + (pv sp cap st (upL (fr + 1) (sp - 1))).1))] H := hP
          have hD : va_D A [kO q0 1 [vI sp, .ref q1, .ref q2, .ref q3, .ref q4, .ref q5, vI ru, vI re, vI ar, vI fi], kI cI q1 8 cap, kI cI q2 8 st, kI cI q3 9 wi, kI cI q4 9 pl, kI cI q5 9 (uZ (uZ lk car (lk car + (pv sp cap st (dnL fr (fr - re))).1)) car ((uZ lk car (lk car + (pv sp cap st (dnL fr (fr - re))).1)) car + (pv sp cap st (upL (fr + 1) (sp - 1))).1))] := hD
          refine z_if_eq (tgt := 68) hx hb dX1_drive_61 (by decide) (by omega) (fun c61 => ?_) (fun c61 => ?_)
          · skip
            refine z_iconst hx hb dX1_drive_68 ?_
            subst hQ
            refine z_zret (z := 0) hx hb hr hlocks dX1_drive_69 (by omega) (st, pl, (uZ (uZ lk car (lk car + (pv sp cap st (dnL fr (fr - re))).1)) car ((uZ lk car (lk car + (pv sp cap st (dnL fr (fr - re))).1)) car + (pv sp cap st (upL (fr + 1) (sp - 1))).1)), fi) hK hS ⟨by omega, by omega⟩ hP hD ?_
            have ee := pv_app_f (b := upL (fr + 1) (sp - 1)) hp41_0
            rw [← pseq_1 (ru := ru) sw4] at ee
            exact Or.inl ⟨by rw [ee]; exact hp58_0, rfl, rfl, rfl, by rw [uZ_uZ, uZ_same, ee, Int.add_assoc], rfl⟩
          · exact absurd c61 (by omega)
        · skip
          subst z_7 st1_9 pl1_10 lk1_11 fi1_12
          have hP : va_P dd vwCl [kO q0 1 [vI sp, .ref q1, .ref q2, .ref q3, .ref q4, .ref q5, vI ru, vI re, vI ar, vI (fi + 2 ^ (2 * (pv sp cap st (upL (fr + 1) (sp - 1))).2).toNat)], kI cI q1 8 cap, kI cI q2 8 (uZ st (pv sp cap st (upL (fr + 1) (sp - 1))).2 (st (pv sp cap st (upL (fr + 1) (sp - 1))).2 + 1)), kI cI q3 9 wi, kI cI q4 9 (uZ pl car (pv sp cap st (upL (fr + 1) (sp - 1))).2), kI cI q5 9 (uZ (uZ lk car (lk car + (pv sp cap st (dnL fr (fr - re))).1)) car ((uZ lk car (lk car + (pv sp cap st (dnL fr (fr - re))).1)) car + (pv sp cap st (upL (fr + 1) (sp - 1))).1))] H := hP
          have hD : va_D A [kO q0 1 [vI sp, .ref q1, .ref q2, .ref q3, .ref q4, .ref q5, vI ru, vI re, vI ar, vI (fi + 2 ^ (2 * (pv sp cap st (upL (fr + 1) (sp - 1))).2).toNat)], kI cI q1 8 cap, kI cI q2 8 (uZ st (pv sp cap st (upL (fr + 1) (sp - 1))).2 (st (pv sp cap st (upL (fr + 1) (sp - 1))).2 + 1)), kI cI q3 9 wi, kI cI q4 9 (uZ pl car (pv sp cap st (upL (fr + 1) (sp - 1))).2), kI cI q5 9 (uZ (uZ lk car (lk car + (pv sp cap st (dnL fr (fr - re))).1)) car ((uZ lk car (lk car + (pv sp cap st (dnL fr (fr - re))).1)) car + (pv sp cap st (upL (fr + 1) (sp - 1))).1))] := hD
          refine z_if_eq (tgt := 68) hx hb dX1_drive_61 (by decide) (by omega) (fun c61 => ?_) (fun c61 => ?_)
          · exact absurd c61 (by omega)
          · skip
            refine z_iconst hx hb dX1_drive_64 ?_
            refine lv_goto (tgt := 69) hx hb dX1_drive_65 (by decide) ?_
            subst hQ
            refine z_zret (z := 1) hx hb hr hlocks dX1_drive_69 (by omega) ((uZ st (pv sp cap st (upL (fr + 1) (sp - 1))).2 (st (pv sp cap st (upL (fr + 1) (sp - 1))).2 + 1)), (uZ pl car (pv sp cap st (upL (fr + 1) (sp - 1))).2), (uZ (uZ lk car (lk car + (pv sp cap st (dnL fr (fr - re))).1)) car ((uZ lk car (lk car + (pv sp cap st (dnL fr (fr - re))).1)) car + (pv sp cap st (upL (fr + 1) (sp - 1))).1)), (fi + 2 ^ (2 * (pv sp cap st (upL (fr + 1) (sp - 1))).2).toNat)) hK hS ⟨by omega, by omega⟩ hP hD ?_
            have ee := pv_app_f (b := upL (fr + 1) (sp - 1)) hp41_0
            rw [← pseq_1 (ru := ru) sw4] at ee
            exact Or.inr ⟨by rw [ee]; exact hp58_0, rfl, by rw [ee], by rw [ee], by rw [uZ_uZ, uZ_same, ee, Int.add_assoc], by rw [ee]⟩
    · skip
      subst z_1 st1_3 pl1_4 lk1_5 fi1_6
      have hP : va_P dd vwCl [kO q0 1 [vI sp, .ref q1, .ref q2, .ref q3, .ref q4, .ref q5, vI ru, vI re, vI ar, vI (fi + 2 ^ (2 * (pv sp cap st (dnL fr (fr - re))).2).toNat)], kI cI q1 8 cap, kI cI q2 8 (uZ st (pv sp cap st (dnL fr (fr - re))).2 (st (pv sp cap st (dnL fr (fr - re))).2 + 1)), kI cI q3 9 wi, kI cI q4 9 (uZ pl car (pv sp cap st (dnL fr (fr - re))).2), kI cI q5 9 (uZ lk car (lk car + (pv sp cap st (dnL fr (fr - re))).1))] H := hP
      have hD : va_D A [kO q0 1 [vI sp, .ref q1, .ref q2, .ref q3, .ref q4, .ref q5, vI ru, vI re, vI ar, vI (fi + 2 ^ (2 * (pv sp cap st (dnL fr (fr - re))).2).toNat)], kI cI q1 8 cap, kI cI q2 8 (uZ st (pv sp cap st (dnL fr (fr - re))).2 (st (pv sp cap st (dnL fr (fr - re))).2 + 1)), kI cI q3 9 wi, kI cI q4 9 (uZ pl car (pv sp cap st (dnL fr (fr - re))).2), kI cI q5 9 (uZ lk car (lk car + (pv sp cap st (dnL fr (fr - re))).1))] := hD
      refine z_if_ne (tgt := 64) hx hb dX1_drive_44 (by decide) (by omega) (fun c44 => ?_) (fun c44 => ?_)
      · skip
        refine z_iconst hx hb dX1_drive_64 ?_
        refine lv_goto (tgt := 69) hx hb dX1_drive_65 (by decide) ?_
        subst hQ
        refine z_zret (z := 1) hx hb hr hlocks dX1_drive_69 (by omega) ((uZ st (pv sp cap st (dnL fr (fr - re))).2 (st (pv sp cap st (dnL fr (fr - re))).2 + 1)), (uZ pl car (pv sp cap st (dnL fr (fr - re))).2), (uZ lk car (lk car + (pv sp cap st (dnL fr (fr - re))).1)), (fi + 2 ^ (2 * (pv sp cap st (dnL fr (fr - re))).2).toNat)) hK hS ⟨by omega, by omega⟩ hP hD ?_
        have ee := pv_app_t (b := upL (fr + 1) (sp - 1)) hp41_0
        rw [← pseq_1 (ru := ru) sw4] at ee
        exact Or.inr ⟨by rw [ee]; exact hp41_0, rfl, by rw [ee], by rw [ee], by rw [ee], by rw [ee]⟩
      · exact absurd c44 (by omega)
  · skip
    refine z_tabIn (k := 2) (tgt := 70) hx hb dX1_drive_4 (by omega) sw4 rfl (by decide) ?_
    refine lv_aload_n hx hb dX1_drive_70 rfl (lv_at hl 0 rfl) ?_
    refine lv_iload_n hx hb dX1_drive_71 rfl (lv_at hl 1 rfl) ?_
    refine lv_iload_n hx hb dX1_drive_72 rfl (lv_at hl 2 rfl) ?_
    refine lv_iload_n hx hb dX1_drive_73 rfl (lv_at hl 2 rfl) ?_
    refine lv_aload_n hx hb dX1_drive_74 rfl (lv_at hl 0 rfl) ?_
    refine va_get (D := dd) (ci := 1) (v := vI re) (C := RX1) (T := TX1) (N := 10) hx hb hts hi1 hown hK hP 0 rfl rfl 7 (by decide) (hts _ (List.mem_cons_of_mem _ (List.mem_append_left _ (List.mem_append_left _ (List.mem_of_getElem? (i := 1) rfl))))) (fun _ h9 => h9) rfl dX1_drive_75 ?_
    refine z_iadd (z := (fr + re)) hx hb rfl dX1_drive_78 ?_
    refine g_callVi (own := RX1) (n := 3) (mc := 0) (ms := 0) (As := [vI car, vI fr, vI (fr + re)]) (rest := []) (wc := [kO q0 1 [vI sp, .ref q1, .ref q2, .ref q3, .ref q4, .ref q5, vI ru, vI re, vI ar, vI fi], kI cI q1 8 cap, kI cI q2 8 st, kI cI q3 9 wi, kI cI q4 9 pl, kI cI q5 9 lk]) (wr := []) hx hb hml hown hts hK hP hD hS hA [0, 1, 2, 3, 4, 5] [] rfl rfl (by decide) (by decide) 1 0 rfl rfl (c_X1_lookUp l dd cI cJ cC cS q0 q1 q2 q3 q4 q5 sp ru re ar fi cap st wi pl lk car fr (fr + re) H.size  (by first | assumption | omega) (by first | assumption | (intro j h0 h1; omega)) (by first | assumption | (intro j h0 h1; omega)) (by first | assumption | omega) (by first | assumption | omega)) gX1_drive_X1_lookUp rfl (by decide +kernel) (by decide) (by decide) (by decide) (by decide) rfl hl.1 rfl (Nat.le_of_ble_eq_true rfl) dX1_drive_79 (fun z_13 u_14 H locs hp79 hP hD hS => ?_)
    obtain ⟨st1_15, pl1_16, lk1_17, fi1_18⟩ := u_14
    try dsimp only at hp79
    rcases hp79 with ⟨hp79_0, hp79_z, hp79_o0, hp79_o1, hp79_o2, hp79_o3⟩ | ⟨hp79_0, hp79_z, hp79_o0, hp79_o1, hp79_o2, hp79_o3⟩
    · skip
      subst z_13 st1_15 pl1_16 lk1_17 fi1_18
      have hP : va_P dd vwCl [kO q0 1 [vI sp, .ref q1, .ref q2, .ref q3, .ref q4, .ref q5, vI ru, vI re, vI ar, vI fi], kI cI q1 8 cap, kI cI q2 8 st, kI cI q3 9 wi, kI cI q4 9 pl, kI cI q5 9 (uZ lk car (lk car + (pv sp cap st (upL fr (fr + re))).1))] H := hP
      have hD : va_D A [kO q0 1 [vI sp, .ref q1, .ref q2, .ref q3, .ref q4, .ref q5, vI ru, vI re, vI ar, vI fi], kI cI q1 8 cap, kI cI q2 8 st, kI cI q3 9 wi, kI cI q4 9 pl, kI cI q5 9 (uZ lk car (lk car + (pv sp cap st (upL fr (fr + re))).1))] := hD
      subst hQ
      refine z_zret (z := 0) hx hb hr hlocks dX1_drive_82 (by omega) (st, pl, (uZ lk car (lk car + (pv sp cap st (upL fr (fr + re))).1)), fi) hK hS ⟨by omega, by omega⟩ hP hD ?_
      have hq := hp79_0
      rw [← pseq_2 (ru := ru) (re := re) (n := sp) (p := fr) sw4] at hq
      exact Or.inl ⟨hq, rfl, rfl, rfl, by rw [pseq_2 (ru := ru) (re := re) (n := sp) (p := fr) sw4], rfl⟩
    · skip
      subst z_13 st1_15 pl1_16 lk1_17 fi1_18
      have hP : va_P dd vwCl [kO q0 1 [vI sp, .ref q1, .ref q2, .ref q3, .ref q4, .ref q5, vI ru, vI re, vI ar, vI (fi + 2 ^ (2 * (pv sp cap st (upL fr (fr + re))).2).toNat)], kI cI q1 8 cap, kI cI q2 8 (uZ st (pv sp cap st (upL fr (fr + re))).2 (st (pv sp cap st (upL fr (fr + re))).2 + 1)), kI cI q3 9 wi, kI cI q4 9 (uZ pl car (pv sp cap st (upL fr (fr + re))).2), kI cI q5 9 (uZ lk car (lk car + (pv sp cap st (upL fr (fr + re))).1))] H := hP
      have hD : va_D A [kO q0 1 [vI sp, .ref q1, .ref q2, .ref q3, .ref q4, .ref q5, vI ru, vI re, vI ar, vI (fi + 2 ^ (2 * (pv sp cap st (upL fr (fr + re))).2).toNat)], kI cI q1 8 cap, kI cI q2 8 (uZ st (pv sp cap st (upL fr (fr + re))).2 (st (pv sp cap st (upL fr (fr + re))).2 + 1)), kI cI q3 9 wi, kI cI q4 9 (uZ pl car (pv sp cap st (upL fr (fr + re))).2), kI cI q5 9 (uZ lk car (lk car + (pv sp cap st (upL fr (fr + re))).1))] := hD
      subst hQ
      refine z_zret (z := 1) hx hb hr hlocks dX1_drive_82 (by omega) ((uZ st (pv sp cap st (upL fr (fr + re))).2 (st (pv sp cap st (upL fr (fr + re))).2 + 1)), (uZ pl car (pv sp cap st (upL fr (fr + re))).2), (uZ lk car (lk car + (pv sp cap st (upL fr (fr + re))).1)), (fi + 2 ^ (2 * (pv sp cap st (upL fr (fr + re))).2).toNat)) hK hS ⟨by omega, by omega⟩ hP hD ?_
      have hq := hp79_0
      rw [← pseq_2 (ru := ru) (re := re) (n := sp) (p := fr) sw4] at hq
      exact Or.inr ⟨hq, rfl, by rw [pseq_2 (ru := ru) (re := re) (n := sp) (p := fr) sw4], by rw [pseq_2 (ru := ru) (re := re) (n := sp) (p := fr) sw4], by rw [pseq_2 (ru := ru) (re := re) (n := sp) (p := fr) sw4], by rw [pseq_2 (ru := ru) (re := re) (n := sp) (p := fr) sw4]⟩
  · skip
    refine z_tabIn (k := 3) (tgt := 83) hx hb dX1_drive_4 (by omega) sw4 rfl (by decide) ?_
    refine lv_aload_n hx hb dX1_drive_83 rfl (lv_at hl 0 rfl) ?_
    refine lv_iload_n hx hb dX1_drive_84 rfl (lv_at hl 1 rfl) ?_
    refine lv_iload_n hx hb dX1_drive_85 rfl (lv_at hl 2 rfl) ?_
    refine g_callVi (own := RX1) (n := 2) (mc := 0) (ms := 0) (As := [vI car, vI fr]) (rest := []) (wc := [kO q0 1 [vI sp, .ref q1, .ref q2, .ref q3, .ref q4, .ref q5, vI ru, vI re, vI ar, vI fi], kI cI q1 8 cap, kI cI q2 8 st, kI cI q3 9 wi, kI cI q4 9 pl, kI cI q5 9 lk]) (wr := []) hx hb hml hown hts hK hP hD hS hA [0, 1, 2, 3, 4, 5] [] rfl rfl (by decide) (by decide) 1 0 rfl rfl (c_X1_lookAround l dd cI cJ cC cS q0 q1 q2 q3 q4 q5 sp ru re ar fi cap st wi pl lk car fr H.size  (by first | assumption | omega) (by first | assumption | (intro j h0 h1; omega)) (by first | assumption | (intro j h0 h1; omega)) (by first | assumption | omega) (by first | assumption | omega) (by first | assumption | omega)) gX1_drive_X1_lookAround rfl (by decide +kernel) (by decide) (by decide) (by decide) (by decide) rfl hl.1 rfl (Nat.le_of_ble_eq_true rfl) dX1_drive_86 (fun z_19 u_20 H locs hp86 hP hD hS => ?_)
    obtain ⟨st1_21, pl1_22, lk1_23, fi1_24⟩ := u_20
    try dsimp only at hp86
    rcases hp86 with ⟨hp86_0, hp86_z, hp86_o0, hp86_o1, hp86_o2, hp86_o3⟩ | ⟨hp86_0, hp86_z, hp86_o0, hp86_o1, hp86_o2, hp86_o3⟩
    · skip
      subst z_19 st1_21 pl1_22 lk1_23 fi1_24
      have hP : va_P dd vwCl [kO q0 1 [vI sp, .ref q1, .ref q2, .ref q3, .ref q4, .ref q5, vI ru, vI re, vI ar, vI fi], kI cI q1 8 cap, kI cI q2 8 st, kI cI q3 9 wi, kI cI q4 9 pl, kI cI q5 9 (uZ lk car (lk car + (pv sp cap st (fr :: arL fr 1 re)).1))] H := hP
      have hD : va_D A [kO q0 1 [vI sp, .ref q1, .ref q2, .ref q3, .ref q4, .ref q5, vI ru, vI re, vI ar, vI fi], kI cI q1 8 cap, kI cI q2 8 st, kI cI q3 9 wi, kI cI q4 9 pl, kI cI q5 9 (uZ lk car (lk car + (pv sp cap st (fr :: arL fr 1 re)).1))] := hD
      subst hQ
      refine z_zret (z := 0) hx hb hr hlocks dX1_drive_89 (by omega) (st, pl, (uZ lk car (lk car + (pv sp cap st (fr :: arL fr 1 re)).1)), fi) hK hS ⟨by omega, by omega⟩ hP hD ?_
      have hq := hp86_0
      rw [← pseq_3 (ru := ru) (re := re) (n := sp) (p := fr) sw4] at hq
      exact Or.inl ⟨hq, rfl, rfl, rfl, by rw [pseq_3 (ru := ru) (re := re) (n := sp) (p := fr) sw4], rfl⟩
    · skip
      subst z_19 st1_21 pl1_22 lk1_23 fi1_24
      have hP : va_P dd vwCl [kO q0 1 [vI sp, .ref q1, .ref q2, .ref q3, .ref q4, .ref q5, vI ru, vI re, vI ar, vI (fi + 2 ^ (2 * (pv sp cap st (fr :: arL fr 1 re)).2).toNat)], kI cI q1 8 cap, kI cI q2 8 (uZ st (pv sp cap st (fr :: arL fr 1 re)).2 (st (pv sp cap st (fr :: arL fr 1 re)).2 + 1)), kI cI q3 9 wi, kI cI q4 9 (uZ pl car (pv sp cap st (fr :: arL fr 1 re)).2), kI cI q5 9 (uZ lk car (lk car + (pv sp cap st (fr :: arL fr 1 re)).1))] H := hP
      have hD : va_D A [kO q0 1 [vI sp, .ref q1, .ref q2, .ref q3, .ref q4, .ref q5, vI ru, vI re, vI ar, vI (fi + 2 ^ (2 * (pv sp cap st (fr :: arL fr 1 re)).2).toNat)], kI cI q1 8 cap, kI cI q2 8 (uZ st (pv sp cap st (fr :: arL fr 1 re)).2 (st (pv sp cap st (fr :: arL fr 1 re)).2 + 1)), kI cI q3 9 wi, kI cI q4 9 (uZ pl car (pv sp cap st (fr :: arL fr 1 re)).2), kI cI q5 9 (uZ lk car (lk car + (pv sp cap st (fr :: arL fr 1 re)).1))] := hD
      subst hQ
      refine z_zret (z := 1) hx hb hr hlocks dX1_drive_89 (by omega) ((uZ st (pv sp cap st (fr :: arL fr 1 re)).2 (st (pv sp cap st (fr :: arL fr 1 re)).2 + 1)), (uZ pl car (pv sp cap st (fr :: arL fr 1 re)).2), (uZ lk car (lk car + (pv sp cap st (fr :: arL fr 1 re)).1)), (fi + 2 ^ (2 * (pv sp cap st (fr :: arL fr 1 re)).2).toNat)) hK hS ⟨by omega, by omega⟩ hP hD ?_
      have hq := hp86_0
      rw [← pseq_3 (ru := ru) (re := re) (n := sp) (p := fr) sw4] at hq
      exact Or.inr ⟨hq, rfl, by rw [pseq_3 (ru := ru) (re := re) (n := sp) (p := fr) sw4], by rw [pseq_3 (ru := ru) (re := re) (n := sp) (p := fr) sw4], by rw [pseq_3 (ru := ru) (re := re) (n := sp) (p := fr) sw4], by rw [pseq_3 (ru := ru) (re := re) (n := sp) (p := fr) sw4]⟩
  · skip
    refine z_tabOut (tgt := 90) hx hb dX1_drive_4 (by omega) sw4 (by decide) ?_
    refine lv_aload_n hx hb dX1_drive_90 rfl (lv_at hl 0 rfl) ?_
    refine lv_iload_n hx hb dX1_drive_91 rfl (lv_at hl 1 rfl) ?_
    refine lv_iload_n hx hb dX1_drive_92 rfl (lv_at hl 2 rfl) ?_
    refine lv_aload_n hx hb dX1_drive_93 rfl (lv_at hl 0 rfl) ?_
    refine va_get (D := dd) (ci := 1) (v := vI sp) (C := RX1) (T := TX1) (N := 10) hx hb hts hi1 hown hK hP 0 rfl rfl 0 (by decide) (hts _ (List.mem_cons_of_mem _ (List.mem_append_left _ (List.mem_append_left _ (List.mem_of_getElem? (i := 2) rfl))))) (fun _ h9 => h9) rfl dX1_drive_94 ?_
    refine z_iconst hx hb dX1_drive_97 ?_
    refine z_isub (z := (sp - 1)) hx hb rfl dX1_drive_98 ?_
    refine g_callVi (own := RX1) (n := 3) (mc := 0) (ms := 0) (As := [vI car, vI fr, vI (sp - 1)]) (rest := []) (wc := [kO q0 1 [vI sp, .ref q1, .ref q2, .ref q3, .ref q4, .ref q5, vI ru, vI re, vI ar, vI fi], kI cI q1 8 cap, kI cI q2 8 st, kI cI q3 9 wi, kI cI q4 9 pl, kI cI q5 9 lk]) (wr := []) hx hb hml hown hts hK hP hD hS hA [0, 1, 2, 3, 4, 5] [] rfl rfl (by decide) (by decide) 1 0 rfl rfl (c_X1_lookUp l dd cI cJ cC cS q0 q1 q2 q3 q4 q5 sp ru re ar fi cap st wi pl lk car fr (sp - 1) H.size  (by first | assumption | omega) (by first | assumption | (intro j h0 h1; omega)) (by first | assumption | (intro j h0 h1; omega)) (by first | assumption | omega) (by first | assumption | omega)) gX1_drive_X1_lookUp rfl (by decide +kernel) (by decide) (by decide) (by decide) (by decide) rfl hl.1 rfl (Nat.le_of_ble_eq_true rfl) dX1_drive_99 (fun z_25 u_26 H locs hp99 hP hD hS => ?_)
    obtain ⟨st1_27, pl1_28, lk1_29, fi1_30⟩ := u_26
    try dsimp only at hp99
    rcases hp99 with ⟨hp99_0, hp99_z, hp99_o0, hp99_o1, hp99_o2, hp99_o3⟩ | ⟨hp99_0, hp99_z, hp99_o0, hp99_o1, hp99_o2, hp99_o3⟩
    · skip
      subst z_25 st1_27 pl1_28 lk1_29 fi1_30
      have hP : va_P dd vwCl [kO q0 1 [vI sp, .ref q1, .ref q2, .ref q3, .ref q4, .ref q5, vI ru, vI re, vI ar, vI fi], kI cI q1 8 cap, kI cI q2 8 st, kI cI q3 9 wi, kI cI q4 9 pl, kI cI q5 9 (uZ lk car (lk car + (pv sp cap st (upL fr (sp - 1))).1))] H := hP
      have hD : va_D A [kO q0 1 [vI sp, .ref q1, .ref q2, .ref q3, .ref q4, .ref q5, vI ru, vI re, vI ar, vI fi], kI cI q1 8 cap, kI cI q2 8 st, kI cI q3 9 wi, kI cI q4 9 pl, kI cI q5 9 (uZ lk car (lk car + (pv sp cap st (upL fr (sp - 1))).1))] := hD
      subst hQ
      refine z_zret (z := 0) hx hb hr hlocks dX1_drive_102 (by omega) (st, pl, (uZ lk car (lk car + (pv sp cap st (upL fr (sp - 1))).1)), fi) hK hS ⟨by omega, by omega⟩ hP hD ?_
      have hq := hp99_0
      rw [← pseq_0 (ru := ru) (re := re) (n := sp) (p := fr) sw4] at hq
      exact Or.inl ⟨hq, rfl, rfl, rfl, by rw [pseq_0 (ru := ru) (re := re) (n := sp) (p := fr) sw4], rfl⟩
    · skip
      subst z_25 st1_27 pl1_28 lk1_29 fi1_30
      have hP : va_P dd vwCl [kO q0 1 [vI sp, .ref q1, .ref q2, .ref q3, .ref q4, .ref q5, vI ru, vI re, vI ar, vI (fi + 2 ^ (2 * (pv sp cap st (upL fr (sp - 1))).2).toNat)], kI cI q1 8 cap, kI cI q2 8 (uZ st (pv sp cap st (upL fr (sp - 1))).2 (st (pv sp cap st (upL fr (sp - 1))).2 + 1)), kI cI q3 9 wi, kI cI q4 9 (uZ pl car (pv sp cap st (upL fr (sp - 1))).2), kI cI q5 9 (uZ lk car (lk car + (pv sp cap st (upL fr (sp - 1))).1))] H := hP
      have hD : va_D A [kO q0 1 [vI sp, .ref q1, .ref q2, .ref q3, .ref q4, .ref q5, vI ru, vI re, vI ar, vI (fi + 2 ^ (2 * (pv sp cap st (upL fr (sp - 1))).2).toNat)], kI cI q1 8 cap, kI cI q2 8 (uZ st (pv sp cap st (upL fr (sp - 1))).2 (st (pv sp cap st (upL fr (sp - 1))).2 + 1)), kI cI q3 9 wi, kI cI q4 9 (uZ pl car (pv sp cap st (upL fr (sp - 1))).2), kI cI q5 9 (uZ lk car (lk car + (pv sp cap st (upL fr (sp - 1))).1))] := hD
      subst hQ
      refine z_zret (z := 1) hx hb hr hlocks dX1_drive_102 (by omega) ((uZ st (pv sp cap st (upL fr (sp - 1))).2 (st (pv sp cap st (upL fr (sp - 1))).2 + 1)), (uZ pl car (pv sp cap st (upL fr (sp - 1))).2), (uZ lk car (lk car + (pv sp cap st (upL fr (sp - 1))).1)), (fi + 2 ^ (2 * (pv sp cap st (upL fr (sp - 1))).2).toNat)) hK hS ⟨by omega, by omega⟩ hP hD ?_
      have hq := hp99_0
      rw [← pseq_0 (ru := ru) (re := re) (n := sp) (p := fr) sw4] at hq
      exact Or.inr ⟨hq, rfl, by rw [pseq_0 (ru := ru) (re := re) (n := sp) (p := fr) sw4], by rw [pseq_0 (ru := ru) (re := re) (n := sp) (p := fr) sw4], by rw [pseq_0 (ru := ru) (re := re) (n := sp) (p := fr) sw4], by rw [pseq_0 (ru := ru) (re := re) (n := sp) (p := fr) sw4]⟩

set_option maxHeartbeats 4000000 in
set_option maxRecDepth 100000 in
theorem c_X1_arrive (l : Launch) (dd : va_G) (cI cJ cC cS : ClassId) (q0 q1 q2 q3 q4 q5 : Nat) (sp ru re ar fi : Int) (cap st wi pl lk : Int → Int) (pr : Int) (sz : Nat) (hsp : 1 ≤ sp ∧ sp ≤ 8) (hcap : ∀ j : Int, 0 ≤ j → j < sp → 0 ≤ cap j ∧ cap j ≤ 3) (hst : ∀ j : Int, 0 ≤ j → j < sp → 0 ≤ st j ∧ st j ≤ 3) (har : 0 ≤ ar ∧ ar < 9) (hru : 0 ≤ ru ∧ ru ≤ 3) (hre : 0 ≤ re ∧ re ≤ 8) (hpr : 0 ≤ pr ∧ pr < sp) : gMi l yX1_arrive wsX1_arrive 4 0 0 dd cI cJ cC cS [.ref q0, vI pr] [kO q0 1 [vI sp, .ref q1, .ref q2, .ref q3, .ref q4, .ref q5, vI ru, vI re, vI ar, vI fi], kI cI q1 8 cap, kI cI q2 8 st, kI cI q3 9 wi, kI cI q4 9 pl, kI cI q5 9 lk] sz (fun (z : Int) (_ : Unit) => z = (if 0 ≤ (pP sp cap st ru re pr) then 1 else 0)) (fun (_ : Unit) => [kO q0 1 [vI sp, .ref q1, .ref q2, .ref q3, .ref q4, .ref q5, vI ru, vI re, vI (ar + 1), vI (fi + flp (pP sp cap st ru re pr))], kI cI q1 8 cap, kI cI q2 8 (stp st (pP sp cap st ru re pr)), kI cI q3 9 (uZ wi ar pr), kI cI q4 9 (uZ pl ar (pP sp cap st ru re pr)), kI cI q5 9 (uZ lk ar (pK sp cap st ru re pr))]) := by
  refine gMi_of (cc := cX1_arrive) (maxL := 3) (ret := (some .boolean)) (by decide) rfl (Nat.le_of_ble_eq_true rfl) ?_
  intro p e s m args below meth c A Q hQ hx hb hr hts hown hlocks hnm hml H locs hP hK hD hA hS ls hl
  have hi1 : ∀ w ∈ wsX10, w ∈ wsX1_arrive := fun _ h => (List.mem_cons_of_mem _ (List.mem_append_right _ h))
  have hl : lv_has ls 3 [(0, .ref q0), (1, vI pr)] := hl
  refine lv_aload_n hx hb dX1_arrive_0 rfl (lv_at hl 0 rfl) ?_
  refine va_get (D := dd) (ci := 1) (v := vI ar) (C := RX1) (T := TX1) (N := 10) hx hb hts hi1 hown hK hP 0 rfl rfl 8 (by decide) (hts _ (List.mem_cons_of_mem _ (List.mem_append_left _ (List.mem_append_left _ (List.mem_of_getElem? (i := 0) rfl))))) (fun _ h9 => h9) rfl dX1_arrive_1 ?_
  refine z_bipush hx hb dX1_arrive_4 (by decide +kernel) ?_
  refine z_icmp_lt (tgt := 11) hx hb dX1_arrive_6 (by decide) (by omega) (fun c6 => ?_) (fun c6 => ?_)
  · skip
    refine lv_aload_n hx hb dX1_arrive_11 rfl (lv_at hl 0 rfl) ?_
    refine va_get (D := dd) (ci := 1) (v := vI ar) (C := RX1) (T := TX1) (N := 10) hx hb hts hi1 hown hK hP 0 rfl rfl 8 (by decide) (hts _ (List.mem_cons_of_mem _ (List.mem_append_left _ (List.mem_append_left _ (List.mem_of_getElem? (i := 0) rfl))))) (fun _ h9 => h9) rfl dX1_arrive_12 ?_
    refine lv_istore_n (lv' := [(2, vI ar), (0, .ref q0), (1, vI pr)]) hx hb dX1_arrive_15 rfl hl (by decide) rfl (fun ls hl => ?_)
    refine lv_aload_n hx hb dX1_arrive_16 rfl (lv_at hl 1 rfl) ?_
    refine lv_dup hx hb dX1_arrive_17 rfl ?_
    refine va_get (D := dd) (ci := 1) (v := vI ar) (C := RX1) (T := TX1) (N := 10) hx hb hts hi1 hown hK hP 0 rfl rfl 8 (by decide) (hts _ (List.mem_cons_of_mem _ (List.mem_append_left _ (List.mem_append_left _ (List.mem_of_getElem? (i := 0) rfl))))) (fun _ h9 => h9) rfl dX1_arrive_18 ?_
    refine z_iconst hx hb dX1_arrive_21 ?_
    refine z_iadd (z := (ar + 1)) hx hb rfl dX1_arrive_22 ?_
    refine va_put (D := dd) (ci := 1) (v := vI (ar + 1)) (ty := .int) (C := RX1) (T := TX1) (N := 10) hx hb hts hi1 tyX1 tyX1_ok nmX1 hown hK hP hD hS 0 rfl rfl 8 (by decide) (hts _ (List.mem_cons_of_mem _ (List.mem_append_left _ (List.mem_append_left _ (List.mem_of_getElem? (i := 0) rfl))))) (fun _ h9 => h9) rfl (by decide +kernel) rfl rfl (Nat.le_of_ble_eq_true rfl) dX1_arrive_23 (fun H locs hP hD hS => ?_)
    have hP : va_P dd vwCl [kO q0 1 [vI sp, .ref q1, .ref q2, .ref q3, .ref q4, .ref q5, vI ru, vI re, vI (ar + 1), vI fi], kI cI q1 8 cap, kI cI q2 8 st, kI cI q3 9 wi, kI cI q4 9 pl, kI cI q5 9 lk] H := hP
    have hD : va_D A [kO q0 1 [vI sp, .ref q1, .ref q2, .ref q3, .ref q4, .ref q5, vI ru, vI re, vI (ar + 1), vI fi], kI cI q1 8 cap, kI cI q2 8 st, kI cI q3 9 wi, kI cI q4 9 pl, kI cI q5 9 lk] := hD
    refine lv_aload_n hx hb dX1_arrive_26 rfl (lv_at hl 1 rfl) ?_
    refine va_get (D := dd) (ci := 1) (v := .ref q3) (C := RX1) (T := TX1) (N := 10) hx hb hts hi1 hown hK hP 0 rfl rfl 3 (by decide) (hts _ (List.mem_cons_of_mem _ (List.mem_append_left _ (List.mem_append_left _ (List.mem_of_getElem? (i := 1) rfl))))) (fun _ h9 => h9) rfl dX1_arrive_27 ?_
    refine lv_iload_n hx hb dX1_arrive_30 rfl (lv_at hl 0 rfl) ?_
    refine lv_iload_n hx hb dX1_arrive_31 rfl (lv_at hl 2 rfl) ?_
    refine z_iast (ws' := [kO q0 1 [vI sp, .ref q1, .ref q2, .ref q3, .ref q4, .ref q5, vI ru, vI re, vI (ar + 1), vI fi], kI cI q1 8 cap, kI cI q2 8 st, kI cI q3 9 (uZ wi ar pr), kI cI q4 9 pl, kI cI q5 9 lk]) hx hb hK hP hD hS 3 0 rfl rfl (i := ar) (x := pr) (by omega) (by decide) dX1_arrive_32 rfl (fun H locs hP hD hS => ?_)
    refine lv_aload_n hx hb dX1_arrive_33 rfl (lv_at hl 1 rfl) ?_
    refine va_get (D := dd) (ci := 1) (v := .ref q4) (C := RX1) (T := TX1) (N := 10) hx hb hts hi1 hown hK hP 0 rfl rfl 4 (by decide) (hts _ (List.mem_cons_of_mem _ (List.mem_append_left _ (List.mem_append_left _ (List.mem_of_getElem? (i := 2) rfl))))) (fun _ h9 => h9) rfl dX1_arrive_34 ?_
    refine lv_iload_n hx hb dX1_arrive_37 rfl (lv_at hl 0 rfl) ?_
    refine z_iconst hx hb dX1_arrive_38 ?_
    refine z_iast (ws' := [kO q0 1 [vI sp, .ref q1, .ref q2, .ref q3, .ref q4, .ref q5, vI ru, vI re, vI (ar + 1), vI fi], kI cI q1 8 cap, kI cI q2 8 st, kI cI q3 9 (uZ wi ar pr), kI cI q4 9 (uZ pl ar (-1)), kI cI q5 9 lk]) hx hb hK hP hD hS 4 0 rfl rfl (i := ar) (x := (-1)) (by omega) (by decide) dX1_arrive_39 rfl (fun H locs hP hD hS => ?_)
    refine lv_aload_n hx hb dX1_arrive_40 rfl (lv_at hl 1 rfl) ?_
    refine va_get (D := dd) (ci := 1) (v := .ref q5) (C := RX1) (T := TX1) (N := 10) hx hb hts hi1 hown hK hP 0 rfl rfl 5 (by decide) (hts _ (List.mem_cons_of_mem _ (List.mem_append_left _ (List.mem_append_left _ (List.mem_of_getElem? (i := 3) rfl))))) (fun _ h9 => h9) rfl dX1_arrive_41 ?_
    refine lv_iload_n hx hb dX1_arrive_44 rfl (lv_at hl 0 rfl) ?_
    refine z_iconst hx hb dX1_arrive_45 ?_
    refine z_iast (ws' := [kO q0 1 [vI sp, .ref q1, .ref q2, .ref q3, .ref q4, .ref q5, vI ru, vI re, vI (ar + 1), vI fi], kI cI q1 8 cap, kI cI q2 8 st, kI cI q3 9 (uZ wi ar pr), kI cI q4 9 (uZ pl ar (-1)), kI cI q5 9 (uZ lk ar 0)]) hx hb hK hP hD hS 5 0 rfl rfl (i := ar) (x := 0) (by omega) (by decide) dX1_arrive_46 rfl (fun H locs hP hD hS => ?_)
    refine lv_aload_n hx hb dX1_arrive_47 rfl (lv_at hl 1 rfl) ?_
    refine lv_iload_n hx hb dX1_arrive_48 rfl (lv_at hl 0 rfl) ?_
    refine lv_iload_n hx hb dX1_arrive_49 rfl (lv_at hl 2 rfl) ?_
    refine g_callVi (own := RX1) (n := 2) (mc := 0) (ms := 0) (As := [vI ar, vI pr]) (rest := []) (wc := [kO q0 1 [vI sp, .ref q1, .ref q2, .ref q3, .ref q4, .ref q5, vI ru, vI re, vI (ar + 1), vI fi], kI cI q1 8 cap, kI cI q2 8 st, kI cI q3 9 (uZ wi ar pr), kI cI q4 9 (uZ pl ar (-1)), kI cI q5 9 (uZ lk ar 0)]) (wr := []) hx hb hml hown hts hK hP hD hS hA [0, 1, 2, 3, 4, 5] [] rfl rfl (by decide) (by decide) 1 0 rfl rfl (c_X1_drive l dd cI cJ cC cS q0 q1 q2 q3 q4 q5 sp ru re (ar + 1) fi cap st (uZ wi ar pr) (uZ pl ar (-1)) (uZ lk ar 0) ar pr H.size  (by first | assumption | omega) (by first | assumption | (intro j h0 h1; omega)) (by first | assumption | (intro j h0 h1; omega)) (by first | assumption | omega) (by first | assumption | omega) (by first | assumption | omega) (by first | assumption | omega)) gX1_arrive_X1_drive rfl (by decide +kernel) (by decide) (by decide) (by decide) (by decide) rfl hl.1 rfl (Nat.le_of_ble_eq_true rfl) dX1_arrive_50 (fun z_1 u_2 H locs hp50 hP hD hS => ?_)
    obtain ⟨st1_3, pl1_4, lk1_5, fi1_6⟩ := u_2
    try dsimp only at hp50
    rcases hp50 with ⟨hp50_0, hp50_z, hp50_o0, hp50_o1, hp50_o2, hp50_o3⟩ | ⟨hp50_0, hp50_z, hp50_o0, hp50_o1, hp50_o2, hp50_o3⟩
    · skip
      subst z_1 st1_3 pl1_4 lk1_5 fi1_6
      have hP : va_P dd vwCl [kO q0 1 [vI sp, .ref q1, .ref q2, .ref q3, .ref q4, .ref q5, vI ru, vI re, vI (ar + 1), vI fi], kI cI q1 8 cap, kI cI q2 8 st, kI cI q3 9 (uZ wi ar pr), kI cI q4 9 (uZ pl ar (-1)), kI cI q5 9 (uZ (uZ lk ar 0) ar ((uZ lk ar 0) ar + (pv sp cap st (pseq ru re sp pr)).1))] H := hP
      have hD : va_D A [kO q0 1 [vI sp, .ref q1, .ref q2, .ref q3, .ref q4, .ref q5, vI ru, vI re, vI (ar + 1), vI fi], kI cI q1 8 cap, kI cI q2 8 st, kI cI q3 9 (uZ wi ar pr), kI cI q4 9 (uZ pl ar (-1)), kI cI q5 9 (uZ (uZ lk ar 0) ar ((uZ lk ar 0) ar + (pv sp cap st (pseq ru re sp pr)).1))] := hD
      have ec_7 : vI fi = vI (fi + flp (pP sp cap st ru re pr)) := congrArg _ (by rw [flp_f (p := (pP sp cap st ru re pr)) hp50_0, Int.add_zero])
      rw [ec_7] at hP hD
      have ec_8 : kI cI q2 8 st = kI cI q2 8 (stp st (pP sp cap st ru re pr)) := kI_congr (by rw [stp_f (p := (pP sp cap st ru re pr)) hp50_0])
      rw [ec_8] at hP hD
      have ec_9 : kI cI q4 9 (uZ pl ar (-1)) = kI cI q4 9 (uZ pl ar (pP sp cap st ru re pr)) := kI_congr (by have h8 := pP_rg sp cap st ru re pr; have h9 : (pP sp cap st ru re pr) < 0 := hp50_0; rw [show (pP sp cap st ru re pr) = -1 by omega])
      rw [ec_9] at hP hD
      have ec_10 : kI cI q5 9 (uZ (uZ lk ar 0) ar ((uZ lk ar 0) ar + (pv sp cap st (pseq ru re sp pr)).1)) = kI cI q5 9 (uZ lk ar (pK sp cap st ru re pr)) := kI_congr (by rw [uZ_uZ, uZ_same, Int.zero_add]; rfl)
      rw [ec_10] at hP hD
      subst hQ
      refine z_zret (z := 0) hx hb hr hlocks dX1_arrive_53 (by omega) () hK hS ⟨by omega, by omega⟩ hP hD ?_
      exact (if_neg (show ¬ 0 ≤ (pP sp cap st ru re pr) from Int.not_le.mpr hp50_0)).symm
    · skip
      subst z_1 st1_3 pl1_4 lk1_5 fi1_6
      have hP : va_P dd vwCl [kO q0 1 [vI sp, .ref q1, .ref q2, .ref q3, .ref q4, .ref q5, vI ru, vI re, vI (ar + 1), vI (fi + 2 ^ (2 * (pv sp cap st (pseq ru re sp pr)).2).toNat)], kI cI q1 8 cap, kI cI q2 8 (uZ st (pv sp cap st (pseq ru re sp pr)).2 (st (pv sp cap st (pseq ru re sp pr)).2 + 1)), kI cI q3 9 (uZ wi ar pr), kI cI q4 9 (uZ (uZ pl ar (-1)) ar (pv sp cap st (pseq ru re sp pr)).2), kI cI q5 9 (uZ (uZ lk ar 0) ar ((uZ lk ar 0) ar + (pv sp cap st (pseq ru re sp pr)).1))] H := hP
      have hD : va_D A [kO q0 1 [vI sp, .ref q1, .ref q2, .ref q3, .ref q4, .ref q5, vI ru, vI re, vI (ar + 1), vI (fi + 2 ^ (2 * (pv sp cap st (pseq ru re sp pr)).2).toNat)], kI cI q1 8 cap, kI cI q2 8 (uZ st (pv sp cap st (pseq ru re sp pr)).2 (st (pv sp cap st (pseq ru re sp pr)).2 + 1)), kI cI q3 9 (uZ wi ar pr), kI cI q4 9 (uZ (uZ pl ar (-1)) ar (pv sp cap st (pseq ru re sp pr)).2), kI cI q5 9 (uZ (uZ lk ar 0) ar ((uZ lk ar 0) ar + (pv sp cap st (pseq ru re sp pr)).1))] := hD
      have ec_11 : vI (fi + 2 ^ (2 * (pv sp cap st (pseq ru re sp pr)).2).toNat) = vI (fi + flp (pP sp cap st ru re pr)) := congrArg _ (by rw [flp_t (p := (pP sp cap st ru re pr)) hp50_0]; rfl)
      rw [ec_11] at hP hD
      have ec_12 : kI cI q2 8 (uZ st (pv sp cap st (pseq ru re sp pr)).2 (st (pv sp cap st (pseq ru re sp pr)).2 + 1)) = kI cI q2 8 (stp st (pP sp cap st ru re pr)) := kI_congr (by rw [stp_t (p := (pP sp cap st ru re pr)) hp50_0]; rfl)
      rw [ec_12] at hP hD
      have ec_13 : kI cI q4 9 (uZ (uZ pl ar (-1)) ar (pv sp cap st (pseq ru re sp pr)).2) = kI cI q4 9 (uZ pl ar (pP sp cap st ru re pr)) := kI_congr (by rw [uZ_uZ]; rfl)
      rw [ec_13] at hP hD
      have ec_14 : kI cI q5 9 (uZ (uZ lk ar 0) ar ((uZ lk ar 0) ar + (pv sp cap st (pseq ru re sp pr)).1)) = kI cI q5 9 (uZ lk ar (pK sp cap st ru re pr)) := kI_congr (by rw [uZ_uZ, uZ_same, Int.zero_add]; rfl)
      rw [ec_14] at hP hD
      subst hQ
      refine z_zret (z := 1) hx hb hr hlocks dX1_arrive_53 (by omega) () hK hS ⟨by omega, by omega⟩ hP hD ?_
      exact (if_pos (show 0 ≤ (pP sp cap st ru re pr) from hp50_0)).symm
  · exact absurd c6 (by omega)

set_option maxHeartbeats 4000000 in
set_option maxRecDepth 100000 in
theorem c_X1_takeBackLast (l : Launch) (dd : va_G) (cI cJ cC cS : ClassId) (q0 q1 q2 q3 q4 q5 : Nat) (sp ru re ar fi : Int) (cap st wi pl lk : Int → Int) (sz : Nat) (hsp : 1 ≤ sp ∧ sp ≤ 8) (har : 0 < ar ∧ ar ≤ 9) (hpl : -1 ≤ (pl (ar - 1)) ∧ (pl (ar - 1)) < sp) : gMv l yX1_takeBackLast wsX1_takeBackLast 1 0 0 dd cI cJ cC cS [.ref q0] [kO q0 1 [vI sp, .ref q1, .ref q2, .ref q3, .ref q4, .ref q5, vI ru, vI re, vI ar, vI fi], kI cI q1 8 cap, kI cI q2 8 st, kI cI q3 9 wi, kI cI q4 9 pl, kI cI q5 9 lk] sz (fun (_ : Unit) => True) (fun (_ : Unit) => [kO q0 1 [vI sp, .ref q1, .ref q2, .ref q3, .ref q4, .ref q5, vI ru, vI re, vI (ar - 1), vI (fi - flp (pl (ar - 1)))], kI cI q1 8 cap, kI cI q2 8 (if 0 ≤ (pl (ar - 1)) then uZ st (pl (ar - 1)) (st (pl (ar - 1)) - 1) else st), kI cI q3 9 wi, kI cI q4 9 pl, kI cI q5 9 lk]) := by
  refine gMv_of (cc := cX1_takeBackLast) (maxL := 2) (ret := none) (by decide) rfl (Nat.le_of_ble_eq_true rfl) ?_
  intro p e s m args below meth c A Q hQ hx hb hr hts hown hlocks hnm hml H locs hP hK hD hA hS ls hl
  have hi1 : ∀ w ∈ wsX10, w ∈ wsX1_takeBackLast := fun _ h => (List.mem_cons_of_mem _ (List.mem_append_right _ h))
  have hl : lv_has ls 2 [(0, .ref q0)] := hl
  refine lv_aload_n hx hb dX1_takeBackLast_0 rfl (lv_at hl 0 rfl) ?_
  refine va_get (D := dd) (ci := 1) (v := vI ar) (C := RX1) (T := TX1) (N := 10) hx hb hts hi1 hown hK hP 0 rfl rfl 8 (by decide) (hts _ (List.mem_cons_of_mem _ (List.mem_append_left _ (List.mem_of_getElem? (i := 0) rfl)))) (fun _ h9 => h9) rfl dX1_takeBackLast_1 ?_
  refine z_if_gt (tgt := 8) hx hb dX1_takeBackLast_4 (by decide) (by omega) (fun c4 => ?_) (fun c4 => ?_)
  · skip
    refine lv_aload_n hx hb dX1_takeBackLast_8 rfl (lv_at hl 0 rfl) ?_
    refine lv_dup hx hb dX1_takeBackLast_9 rfl ?_
    refine va_get (D := dd) (ci := 1) (v := vI ar) (C := RX1) (T := TX1) (N := 10) hx hb hts hi1 hown hK hP 0 rfl rfl 8 (by decide) (hts _ (List.mem_cons_of_mem _ (List.mem_append_left _ (List.mem_of_getElem? (i := 0) rfl)))) (fun _ h9 => h9) rfl dX1_takeBackLast_10 ?_
    refine z_iconst hx hb dX1_takeBackLast_13 ?_
    refine z_isub (z := (ar - 1)) hx hb rfl dX1_takeBackLast_14 ?_
    refine va_put (D := dd) (ci := 1) (v := vI (ar - 1)) (ty := .int) (C := RX1) (T := TX1) (N := 10) hx hb hts hi1 tyX1 tyX1_ok nmX1 hown hK hP hD hS 0 rfl rfl 8 (by decide) (hts _ (List.mem_cons_of_mem _ (List.mem_append_left _ (List.mem_of_getElem? (i := 0) rfl)))) (fun _ h9 => h9) rfl (by decide +kernel) rfl rfl (Nat.le_of_ble_eq_true rfl) dX1_takeBackLast_15 (fun H locs hP hD hS => ?_)
    have hP : va_P dd vwCl [kO q0 1 [vI sp, .ref q1, .ref q2, .ref q3, .ref q4, .ref q5, vI ru, vI re, vI (ar - 1), vI fi], kI cI q1 8 cap, kI cI q2 8 st, kI cI q3 9 wi, kI cI q4 9 pl, kI cI q5 9 lk] H := hP
    have hD : va_D A [kO q0 1 [vI sp, .ref q1, .ref q2, .ref q3, .ref q4, .ref q5, vI ru, vI re, vI (ar - 1), vI fi], kI cI q1 8 cap, kI cI q2 8 st, kI cI q3 9 wi, kI cI q4 9 pl, kI cI q5 9 lk] := hD
    refine lv_aload_n hx hb dX1_takeBackLast_18 rfl (lv_at hl 0 rfl) ?_
    refine va_get (D := dd) (ci := 1) (v := .ref q4) (C := RX1) (T := TX1) (N := 10) hx hb hts hi1 hown hK hP 0 rfl rfl 4 (by decide) (hts _ (List.mem_cons_of_mem _ (List.mem_append_left _ (List.mem_of_getElem? (i := 1) rfl)))) (fun _ h9 => h9) rfl dX1_takeBackLast_19 ?_
    refine lv_aload_n hx hb dX1_takeBackLast_22 rfl (lv_at hl 0 rfl) ?_
    refine va_get (D := dd) (ci := 1) (v := vI (ar - 1)) (C := RX1) (T := TX1) (N := 10) hx hb hts hi1 hown hK hP 0 rfl rfl 8 (by decide) (hts _ (List.mem_cons_of_mem _ (List.mem_append_left _ (List.mem_of_getElem? (i := 0) rfl)))) (fun _ h9 => h9) rfl dX1_takeBackLast_23 ?_
    refine z_iald hx hb hK hP 4 0 rfl rfl (i := (ar - 1)) (by omega) (by decide) dX1_takeBackLast_26 ?_
    refine lv_istore_n (lv' := [(1, vI (pl (ar - 1))), (0, .ref q0)]) hx hb dX1_takeBackLast_27 rfl hl (by decide) rfl (fun ls hl => ?_)
    refine lv_iload_n hx hb dX1_takeBackLast_28 rfl (lv_at hl 0 rfl) ?_
    refine z_if_lt (tgt := 64) hx hb dX1_takeBackLast_29 (by decide) (by omega) (fun c29 => ?_) (fun c29 => ?_)
    · skip
      have ec_1 : vI fi = vI (fi - flp (pl (ar - 1))) := congrArg _ (by rw [flp_f (by omega), Int.sub_zero])
      rw [ec_1] at hP hD
      have ec_2 : kI cI q2 8 st = kI cI q2 8 (if 0 ≤ (pl (ar - 1)) then uZ st (pl (ar - 1)) (st (pl (ar - 1)) - 1) else st) := kI_congr (by rw [if_neg (by omega)])
      rw [ec_2] at hP hD
      subst hQ
      refine z_vret hx hb hr hlocks dX1_takeBackLast_64 () hK hS ⟨by omega, by omega⟩ hP hD ?_
      first | rfl | trivial | omega
    · skip
      refine lv_iload_n hx hb dX1_takeBackLast_32 rfl (lv_at hl 0 rfl) ?_
      refine lv_aload_n hx hb dX1_takeBackLast_33 rfl (lv_at hl 1 rfl) ?_
      refine va_get (D := dd) (ci := 1) (v := vI sp) (C := RX1) (T := TX1) (N := 10) hx hb hts hi1 hown hK hP 0 rfl rfl 0 (by decide) (hts _ (List.mem_cons_of_mem _ (List.mem_append_left _ (List.mem_of_getElem? (i := 2) rfl)))) (fun _ h9 => h9) rfl dX1_takeBackLast_34 ?_
      refine z_icmp_ge (tgt := 64) hx hb dX1_takeBackLast_37 (by decide) (by omega) (fun c37 => ?_) (fun c37 => ?_)
      · exact absurd c37 (by omega)
      · skip
        refine lv_aload_n hx hb dX1_takeBackLast_40 rfl (lv_at hl 1 rfl) ?_
        refine va_get (D := dd) (ci := 1) (v := .ref q2) (C := RX1) (T := TX1) (N := 10) hx hb hts hi1 hown hK hP 0 rfl rfl 2 (by decide) (hts _ (List.mem_cons_of_mem _ (List.mem_append_left _ (List.mem_of_getElem? (i := 3) rfl)))) (fun _ h9 => h9) rfl dX1_takeBackLast_41 ?_
        refine lv_iload_n hx hb dX1_takeBackLast_44 rfl (lv_at hl 0 rfl) ?_
        refine lv_dup2_11 hx hb dX1_takeBackLast_45 rfl rfl ?_
        refine z_iald hx hb hK hP 2 0 rfl rfl (i := (pl (ar - 1))) (by omega) (by decide) dX1_takeBackLast_46 ?_
        refine z_iconst hx hb dX1_takeBackLast_47 ?_
        refine z_isub (z := ((st (pl (ar - 1))) - 1)) hx hb rfl dX1_takeBackLast_48 ?_
        refine z_iast (ws' := [kO q0 1 [vI sp, .ref q1, .ref q2, .ref q3, .ref q4, .ref q5, vI ru, vI re, vI (ar - 1), vI fi], kI cI q1 8 cap, kI cI q2 8 (uZ st (pl (ar - 1)) ((st (pl (ar - 1))) - 1)), kI cI q3 9 wi, kI cI q4 9 pl, kI cI q5 9 lk]) hx hb hK hP hD hS 2 0 rfl rfl (i := (pl (ar - 1))) (x := ((st (pl (ar - 1))) - 1)) (by omega) (by decide) dX1_takeBackLast_49 rfl (fun H locs hP hD hS => ?_)
        refine lv_aload_n hx hb dX1_takeBackLast_50 rfl (lv_at hl 1 rfl) ?_
        refine lv_dup hx hb dX1_takeBackLast_51 rfl ?_
        refine va_get (D := dd) (ci := 1) (v := vI fi) (C := RX1) (T := TX1) (N := 10) hx hb hts hi1 hown hK hP 0 rfl rfl 9 (by decide) (hts _ (List.mem_cons_of_mem _ (List.mem_append_left _ (List.mem_of_getElem? (i := 4) rfl)))) (fun _ h9 => h9) rfl dX1_takeBackLast_52 ?_
        refine z_iconst hx hb dX1_takeBackLast_55 ?_
        refine z_iconst hx hb dX1_takeBackLast_56 ?_
        refine lv_iload_n hx hb dX1_takeBackLast_57 rfl (lv_at hl 0 rfl) ?_
        refine z_imul (z := (2 * (pl (ar - 1)))) hx hb rfl dX1_takeBackLast_58 ?_
        refine z_shl1 (z := (2 ^ (2 * (pl (ar - 1))).toNat)) hx hb (by omega) rfl dX1_takeBackLast_59 ?_
        refine z_isub (z := (fi - (2 ^ (2 * (pl (ar - 1))).toNat))) hx hb rfl dX1_takeBackLast_60 ?_
        refine va_put (D := dd) (ci := 1) (v := vI (fi - (2 ^ (2 * (pl (ar - 1))).toNat))) (ty := .int) (C := RX1) (T := TX1) (N := 10) hx hb hts hi1 tyX1 tyX1_ok nmX1 hown hK hP hD hS 0 rfl rfl 9 (by decide) (hts _ (List.mem_cons_of_mem _ (List.mem_append_left _ (List.mem_of_getElem? (i := 4) rfl)))) (fun _ h9 => h9) rfl (by decide +kernel) rfl rfl (Nat.le_of_ble_eq_true rfl) dX1_takeBackLast_61 (fun H locs hP hD hS => ?_)
        have hP : va_P dd vwCl [kO q0 1 [vI sp, .ref q1, .ref q2, .ref q3, .ref q4, .ref q5, vI ru, vI re, vI (ar - 1), vI (fi - (2 ^ (2 * (pl (ar - 1))).toNat))], kI cI q1 8 cap, kI cI q2 8 (uZ st (pl (ar - 1)) ((st (pl (ar - 1))) - 1)), kI cI q3 9 wi, kI cI q4 9 pl, kI cI q5 9 lk] H := hP
        have hD : va_D A [kO q0 1 [vI sp, .ref q1, .ref q2, .ref q3, .ref q4, .ref q5, vI ru, vI re, vI (ar - 1), vI (fi - (2 ^ (2 * (pl (ar - 1))).toNat))], kI cI q1 8 cap, kI cI q2 8 (uZ st (pl (ar - 1)) ((st (pl (ar - 1))) - 1)), kI cI q3 9 wi, kI cI q4 9 pl, kI cI q5 9 lk] := hD
        have ec_3 : vI (fi - (2 ^ (2 * (pl (ar - 1))).toNat)) = vI (fi - flp (pl (ar - 1))) := congrArg _ (by rw [flp_t (by omega)])
        rw [ec_3] at hP hD
        have ec_4 : kI cI q2 8 (uZ st (pl (ar - 1)) ((st (pl (ar - 1))) - 1)) = kI cI q2 8 (if 0 ≤ (pl (ar - 1)) then uZ st (pl (ar - 1)) (st (pl (ar - 1)) - 1) else st) := kI_congr (by rw [if_pos (by omega)])
        rw [ec_4] at hP hD
        subst hQ
        refine z_vret hx hb hr hlocks dX1_takeBackLast_64 () hK hS ⟨by omega, by omega⟩ hP hD ?_
        first | rfl | trivial | omega
  · exact absurd c4 (by omega)

set_option maxHeartbeats 4000000 in
set_option maxRecDepth 100000 in
theorem c_X1_isCar (l : Launch) (dd : va_G) (cI cJ cC cS : ClassId) (q0 q1 q2 q3 q4 q5 : Nat) (sp ru re ar fi : Int) (cap st wi pl lk : Int → Int) (x : Int) (sz : Nat) (har : 0 ≤ ar ∧ ar ≤ 9) (hx0 : 0 ≤ x ∧ x < ar) : gMi l yX1_isCar wsX1_isCar 1 0 0 dd cI cJ cC cS [.ref q0, vI x] [kO q0 1 [vI sp, .ref q1, .ref q2, .ref q3, .ref q4, .ref q5, vI ru, vI re, vI ar, vI fi], kI cI q1 8 cap, kI cI q2 8 st, kI cI q3 9 wi, kI cI q4 9 pl, kI cI q5 9 lk] sz (fun (z : Int) (_ : Unit) => z = 1) (fun (_ : Unit) => [kO q0 1 [vI sp, .ref q1, .ref q2, .ref q3, .ref q4, .ref q5, vI ru, vI re, vI ar, vI fi], kI cI q1 8 cap, kI cI q2 8 st, kI cI q3 9 wi, kI cI q4 9 pl, kI cI q5 9 lk]) := by
  refine gMi_of (cc := cX1_isCar) (maxL := 2) (ret := (some .boolean)) (by decide) rfl (Nat.le_of_ble_eq_true rfl) ?_
  intro p e s m args below meth c A Q hQ hx hb hr hts hown hlocks hnm hml H locs hP hK hD hA hS ls hl
  have hi1 : ∀ w ∈ wsX10, w ∈ wsX1_isCar := fun _ h => (List.mem_cons_of_mem _ (List.mem_append_right _ h))
  have hl : lv_has ls 2 [(0, .ref q0), (1, vI x)] := hl
  refine lv_iload_n hx hb dX1_isCar_0 rfl (lv_at hl 1 rfl) ?_
  refine z_if_lt (tgt := 16) hx hb dX1_isCar_1 (by decide) (by omega) (fun c1 => ?_) (fun c1 => ?_)
  · exact absurd c1 (by omega)
  · skip
    refine lv_iload_n hx hb dX1_isCar_4 rfl (lv_at hl 1 rfl) ?_
    refine lv_aload_n hx hb dX1_isCar_5 rfl (lv_at hl 0 rfl) ?_
    refine va_get (D := dd) (ci := 1) (v := vI ar) (C := RX1) (T := TX1) (N := 10) hx hb hts hi1 hown hK hP 0 rfl rfl 8 (by decide) (hts _ (List.mem_cons_of_mem _ (List.mem_append_left _ (List.mem_of_getElem? (i := 0) rfl)))) (fun _ h9 => h9) rfl dX1_isCar_6 ?_
    refine z_icmp_ge (tgt := 16) hx hb dX1_isCar_9 (by decide) (by omega) (fun c9 => ?_) (fun c9 => ?_)
    · exact absurd c9 (by omega)
    · skip
      refine z_iconst hx hb dX1_isCar_12 ?_
      refine lv_goto (tgt := 17) hx hb dX1_isCar_13 (by decide) ?_
      subst hQ
      refine z_zret (z := 1) hx hb hr hlocks dX1_isCar_17 (by omega) () hK hS ⟨by omega, by omega⟩ hP hD ?_
      first | rfl | trivial | omega

set_option maxHeartbeats 4000000 in
set_option maxRecDepth 100000 in
theorem c_X1_hasLeft (l : Launch) (dd : va_G) (cI cJ cC cS : ClassId) (q0 q1 q2 q3 q4 q5 : Nat) (sp ru re ar fi : Int) (cap st wi pl lk : Int → Int) (x : Int) (sz : Nat) (har : 0 ≤ ar ∧ ar ≤ 9) (hx0 : 0 ≤ x ∧ x < ar) (hplx : -1 ≤ pl x ∧ pl x ≤ 8) : gMi l yX1_hasLeft wsX1_hasLeft 2 0 0 dd cI cJ cC cS [.ref q0, vI x] [kO q0 1 [vI sp, .ref q1, .ref q2, .ref q3, .ref q4, .ref q5, vI ru, vI re, vI ar, vI fi], kI cI q1 8 cap, kI cI q2 8 st, kI cI q3 9 wi, kI cI q4 9 pl, kI cI q5 9 lk] sz (fun (z : Int) (_ : Unit) => z = (if pl x = -1 then 1 else 0)) (fun (_ : Unit) => [kO q0 1 [vI sp, .ref q1, .ref q2, .ref q3, .ref q4, .ref q5, vI ru, vI re, vI ar, vI fi], kI cI q1 8 cap, kI cI q2 8 st, kI cI q3 9 wi, kI cI q4 9 pl, kI cI q5 9 lk]) := by
  refine gMi_of (cc := cX1_hasLeft) (maxL := 2) (ret := (some .boolean)) (by decide) rfl (Nat.le_of_ble_eq_true rfl) ?_
  intro p e s m args below meth c A Q hQ hx hb hr hts hown hlocks hnm hml H locs hP hK hD hA hS ls hl
  have hi1 : ∀ w ∈ wsX10, w ∈ wsX1_hasLeft := fun _ h => (List.mem_cons_of_mem _ (List.mem_append_right _ h))
  have hl : lv_has ls 2 [(0, .ref q0), (1, vI x)] := hl
  refine lv_aload_n hx hb dX1_hasLeft_0 rfl (lv_at hl 0 rfl) ?_
  refine lv_iload_n hx hb dX1_hasLeft_1 rfl (lv_at hl 1 rfl) ?_
  refine g_callVi (own := RX1) (n := 1) (mc := 0) (ms := 0) (As := [vI x]) (rest := []) (wc := [kO q0 1 [vI sp, .ref q1, .ref q2, .ref q3, .ref q4, .ref q5, vI ru, vI re, vI ar, vI fi], kI cI q1 8 cap, kI cI q2 8 st, kI cI q3 9 wi, kI cI q4 9 pl, kI cI q5 9 lk]) (wr := []) hx hb hml hown hts hK hP hD hS hA [0, 1, 2, 3, 4, 5] [] rfl rfl (by decide) (by decide) 1 0 rfl rfl (c_X1_isCar l dd cI cJ cC cS q0 q1 q2 q3 q4 q5 sp ru re ar fi cap st wi pl lk x H.size  (by first | assumption | omega) (by first | assumption | omega)) gX1_hasLeft_X1_isCar rfl (by decide +kernel) (by decide) (by decide) (by decide) (by decide) rfl hl.1 rfl (Nat.le_of_ble_eq_true rfl) dX1_hasLeft_2 (fun z_1 u_2 H locs hp2 hP hD hS => ?_)
  subst z_1
  have hP : va_P dd vwCl [kO q0 1 [vI sp, .ref q1, .ref q2, .ref q3, .ref q4, .ref q5, vI ru, vI re, vI ar, vI fi], kI cI q1 8 cap, kI cI q2 8 st, kI cI q3 9 wi, kI cI q4 9 pl, kI cI q5 9 lk] H := hP
  have hD : va_D A [kO q0 1 [vI sp, .ref q1, .ref q2, .ref q3, .ref q4, .ref q5, vI ru, vI re, vI ar, vI fi], kI cI q1 8 cap, kI cI q2 8 st, kI cI q3 9 wi, kI cI q4 9 pl, kI cI q5 9 lk] := hD
  refine z_if_eq (tgt := 22) hx hb dX1_hasLeft_5 (by decide) (by omega) (fun c5 => ?_) (fun c5 => ?_)
  · exact absurd c5 (by omega)
  · skip
    refine lv_aload_n hx hb dX1_hasLeft_8 rfl (lv_at hl 0 rfl) ?_
    refine va_get (D := dd) (ci := 1) (v := .ref q4) (C := RX1) (T := TX1) (N := 10) hx hb hts hi1 hown hK hP 0 rfl rfl 4 (by decide) (hts _ (List.mem_cons_of_mem _ (List.mem_append_left _ (List.mem_of_getElem? (i := 0) rfl)))) (fun _ h9 => h9) rfl dX1_hasLeft_9 ?_
    refine lv_iload_n hx hb dX1_hasLeft_12 rfl (lv_at hl 1 rfl) ?_
    refine z_iald hx hb hK hP 4 0 rfl rfl (i := x) (by omega) (by decide) dX1_hasLeft_13 ?_
    refine z_iconst hx hb dX1_hasLeft_14 ?_
    refine z_icmp_ne (tgt := 22) hx hb dX1_hasLeft_15 (by decide) (by omega) (fun c15 => ?_) (fun c15 => ?_)
    · skip
      refine z_iconst hx hb dX1_hasLeft_22 ?_
      subst hQ
      refine z_zret (z := 0) hx hb hr hlocks dX1_hasLeft_23 (by omega) () hK hS ⟨by omega, by omega⟩ hP hD ?_
      first | (rw [if_pos (by omega)]; done) | (rw [if_neg (by omega)]; done)
    · skip
      refine z_iconst hx hb dX1_hasLeft_18 ?_
      refine lv_goto (tgt := 23) hx hb dX1_hasLeft_19 (by decide) ?_
      subst hQ
      refine z_zret (z := 1) hx hb hr hlocks dX1_hasLeft_23 (by omega) () hK hS ⟨by omega, by omega⟩ hP hD ?_
      first | (rw [if_pos (by omega)]; done) | (rw [if_neg (by omega)]; done)

set_option maxHeartbeats 4000000 in
set_option maxRecDepth 100000 in
theorem c_X1_isLuckyCar (l : Launch) (dd : va_G) (cI cJ cC cS : ClassId) (q0 q1 q2 q3 q4 q5 : Nat) (sp ru re ar fi : Int) (cap st wi pl lk : Int → Int) (x : Int) (sz : Nat) (har : 0 ≤ ar ∧ ar ≤ 9) (hx0 : 0 ≤ x ∧ x < ar) (hplx : -1 ≤ pl x ∧ pl x ≤ 8) (hwix : 0 ≤ wi x ∧ wi x ≤ 8) : gMi l yX1_isLuckyCar wsX1_isLuckyCar 2 0 0 dd cI cJ cC cS [.ref q0, vI x] [kO q0 1 [vI sp, .ref q1, .ref q2, .ref q3, .ref q4, .ref q5, vI ru, vI re, vI ar, vI fi], kI cI q1 8 cap, kI cI q2 8 st, kI cI q3 9 wi, kI cI q4 9 pl, kI cI q5 9 lk] sz (fun (z : Int) (_ : Unit) => z = (if pl x = wi x then 1 else 0)) (fun (_ : Unit) => [kO q0 1 [vI sp, .ref q1, .ref q2, .ref q3, .ref q4, .ref q5, vI ru, vI re, vI ar, vI fi], kI cI q1 8 cap, kI cI q2 8 st, kI cI q3 9 wi, kI cI q4 9 pl, kI cI q5 9 lk]) := by
  refine gMi_of (cc := cX1_isLuckyCar) (maxL := 2) (ret := (some .boolean)) (by decide) rfl (Nat.le_of_ble_eq_true rfl) ?_
  intro p e s m args below meth c A Q hQ hx hb hr hts hown hlocks hnm hml H locs hP hK hD hA hS ls hl
  have hi1 : ∀ w ∈ wsX10, w ∈ wsX1_isLuckyCar := fun _ h => (List.mem_cons_of_mem _ (List.mem_append_right _ h))
  have hl : lv_has ls 2 [(0, .ref q0), (1, vI x)] := hl
  refine lv_aload_n hx hb dX1_isLuckyCar_0 rfl (lv_at hl 0 rfl) ?_
  refine lv_iload_n hx hb dX1_isLuckyCar_1 rfl (lv_at hl 1 rfl) ?_
  refine g_callVi (own := RX1) (n := 1) (mc := 0) (ms := 0) (As := [vI x]) (rest := []) (wc := [kO q0 1 [vI sp, .ref q1, .ref q2, .ref q3, .ref q4, .ref q5, vI ru, vI re, vI ar, vI fi], kI cI q1 8 cap, kI cI q2 8 st, kI cI q3 9 wi, kI cI q4 9 pl, kI cI q5 9 lk]) (wr := []) hx hb hml hown hts hK hP hD hS hA [0, 1, 2, 3, 4, 5] [] rfl rfl (by decide) (by decide) 1 0 rfl rfl (c_X1_isCar l dd cI cJ cC cS q0 q1 q2 q3 q4 q5 sp ru re ar fi cap st wi pl lk x H.size  (by first | assumption | omega) (by first | assumption | omega)) gX1_isLuckyCar_X1_isCar rfl (by decide +kernel) (by decide) (by decide) (by decide) (by decide) rfl hl.1 rfl (Nat.le_of_ble_eq_true rfl) dX1_isLuckyCar_2 (fun z_1 u_2 H locs hp2 hP hD hS => ?_)
  subst z_1
  have hP : va_P dd vwCl [kO q0 1 [vI sp, .ref q1, .ref q2, .ref q3, .ref q4, .ref q5, vI ru, vI re, vI ar, vI fi], kI cI q1 8 cap, kI cI q2 8 st, kI cI q3 9 wi, kI cI q4 9 pl, kI cI q5 9 lk] H := hP
  have hD : va_D A [kO q0 1 [vI sp, .ref q1, .ref q2, .ref q3, .ref q4, .ref q5, vI ru, vI re, vI ar, vI fi], kI cI q1 8 cap, kI cI q2 8 st, kI cI q3 9 wi, kI cI q4 9 pl, kI cI q5 9 lk] := hD
  refine z_if_eq (tgt := 27) hx hb dX1_isLuckyCar_5 (by decide) (by omega) (fun c5 => ?_) (fun c5 => ?_)
  · exact absurd c5 (by omega)
  · skip
    refine lv_aload_n hx hb dX1_isLuckyCar_8 rfl (lv_at hl 0 rfl) ?_
    refine va_get (D := dd) (ci := 1) (v := .ref q4) (C := RX1) (T := TX1) (N := 10) hx hb hts hi1 hown hK hP 0 rfl rfl 4 (by decide) (hts _ (List.mem_cons_of_mem _ (List.mem_append_left _ (List.mem_of_getElem? (i := 0) rfl)))) (fun _ h9 => h9) rfl dX1_isLuckyCar_9 ?_
    refine lv_iload_n hx hb dX1_isLuckyCar_12 rfl (lv_at hl 1 rfl) ?_
    refine z_iald hx hb hK hP 4 0 rfl rfl (i := x) (by omega) (by decide) dX1_isLuckyCar_13 ?_
    refine lv_aload_n hx hb dX1_isLuckyCar_14 rfl (lv_at hl 0 rfl) ?_
    refine va_get (D := dd) (ci := 1) (v := .ref q3) (C := RX1) (T := TX1) (N := 10) hx hb hts hi1 hown hK hP 0 rfl rfl 3 (by decide) (hts _ (List.mem_cons_of_mem _ (List.mem_append_left _ (List.mem_of_getElem? (i := 1) rfl)))) (fun _ h9 => h9) rfl dX1_isLuckyCar_15 ?_
    refine lv_iload_n hx hb dX1_isLuckyCar_18 rfl (lv_at hl 1 rfl) ?_
    refine z_iald hx hb hK hP 3 0 rfl rfl (i := x) (by omega) (by decide) dX1_isLuckyCar_19 ?_
    refine z_icmp_ne (tgt := 27) hx hb dX1_isLuckyCar_20 (by decide) (by omega) (fun c20 => ?_) (fun c20 => ?_)
    · skip
      refine z_iconst hx hb dX1_isLuckyCar_27 ?_
      subst hQ
      refine z_zret (z := 0) hx hb hr hlocks dX1_isLuckyCar_28 (by omega) () hK hS ⟨by omega, by omega⟩ hP hD ?_
      first | (rw [if_pos (by omega)]; done) | (rw [if_neg (by omega)]; done)
    · skip
      refine z_iconst hx hb dX1_isLuckyCar_23 ?_
      refine lv_goto (tgt := 28) hx hb dX1_isLuckyCar_24 (by decide) ?_
      subst hQ
      refine z_zret (z := 1) hx hb hr hlocks dX1_isLuckyCar_28 (by omega) () hK hS ⟨by omega, by omega⟩ hP hD ?_
      first | (rw [if_pos (by omega)]; done) | (rw [if_neg (by omega)]; done)

set_option maxHeartbeats 4000000 in
set_option maxRecDepth 100000 in
theorem c_X1_wishOf (l : Launch) (dd : va_G) (cI cJ cC cS : ClassId) (q0 q1 q2 q3 q4 q5 : Nat) (sp ru re ar fi : Int) (cap st wi pl lk : Int → Int) (x : Int) (sz : Nat) (har : 0 ≤ ar ∧ ar ≤ 9) (hx0 : 0 ≤ x ∧ x < ar) : gMi l yX1_wishOf wsX1_wishOf 2 0 0 dd cI cJ cC cS [.ref q0, vI x] [kO q0 1 [vI sp, .ref q1, .ref q2, .ref q3, .ref q4, .ref q5, vI ru, vI re, vI ar, vI fi], kI cI q1 8 cap, kI cI q2 8 st, kI cI q3 9 wi, kI cI q4 9 pl, kI cI q5 9 lk] sz (fun (z : Int) (_ : Unit) => z = wi x) (fun (_ : Unit) => [kO q0 1 [vI sp, .ref q1, .ref q2, .ref q3, .ref q4, .ref q5, vI ru, vI re, vI ar, vI fi], kI cI q1 8 cap, kI cI q2 8 st, kI cI q3 9 wi, kI cI q4 9 pl, kI cI q5 9 lk]) := by
  refine gMi_of (cc := cX1_wishOf) (maxL := 2) (ret := (some .int)) (by decide) rfl (Nat.le_of_ble_eq_true rfl) ?_
  intro p e s m args below meth c A Q hQ hx hb hr hts hown hlocks hnm hml H locs hP hK hD hA hS ls hl
  have hi1 : ∀ w ∈ wsX10, w ∈ wsX1_wishOf := fun _ h => (List.mem_cons_of_mem _ (List.mem_append_right _ h))
  have hl : lv_has ls 2 [(0, .ref q0), (1, vI x)] := hl
  refine lv_aload_n hx hb dX1_wishOf_0 rfl (lv_at hl 0 rfl) ?_
  refine lv_iload_n hx hb dX1_wishOf_1 rfl (lv_at hl 1 rfl) ?_
  refine g_callVi (own := RX1) (n := 1) (mc := 0) (ms := 0) (As := [vI x]) (rest := []) (wc := [kO q0 1 [vI sp, .ref q1, .ref q2, .ref q3, .ref q4, .ref q5, vI ru, vI re, vI ar, vI fi], kI cI q1 8 cap, kI cI q2 8 st, kI cI q3 9 wi, kI cI q4 9 pl, kI cI q5 9 lk]) (wr := []) hx hb hml hown hts hK hP hD hS hA [0, 1, 2, 3, 4, 5] [] rfl rfl (by decide) (by decide) 1 0 rfl rfl (c_X1_isCar l dd cI cJ cC cS q0 q1 q2 q3 q4 q5 sp ru re ar fi cap st wi pl lk x H.size  (by first | assumption | omega) (by first | assumption | omega)) gX1_wishOf_X1_isCar rfl (by decide +kernel) (by decide) (by decide) (by decide) (by decide) rfl hl.1 rfl (Nat.le_of_ble_eq_true rfl) dX1_wishOf_2 (fun z_1 u_2 H locs hp2 hP hD hS => ?_)
  subst z_1
  have hP : va_P dd vwCl [kO q0 1 [vI sp, .ref q1, .ref q2, .ref q3, .ref q4, .ref q5, vI ru, vI re, vI ar, vI fi], kI cI q1 8 cap, kI cI q2 8 st, kI cI q3 9 wi, kI cI q4 9 pl, kI cI q5 9 lk] H := hP
  have hD : va_D A [kO q0 1 [vI sp, .ref q1, .ref q2, .ref q3, .ref q4, .ref q5, vI ru, vI re, vI ar, vI fi], kI cI q1 8 cap, kI cI q2 8 st, kI cI q3 9 wi, kI cI q4 9 pl, kI cI q5 9 lk] := hD
  refine z_if_eq (tgt := 17) hx hb dX1_wishOf_5 (by decide) (by omega) (fun c5 => ?_) (fun c5 => ?_)
  · exact absurd c5 (by omega)
  · skip
    refine lv_aload_n hx hb dX1_wishOf_8 rfl (lv_at hl 0 rfl) ?_
    refine va_get (D := dd) (ci := 1) (v := .ref q3) (C := RX1) (T := TX1) (N := 10) hx hb hts hi1 hown hK hP 0 rfl rfl 3 (by decide) (hts _ (List.mem_cons_of_mem _ (List.mem_append_left _ (List.mem_of_getElem? (i := 0) rfl)))) (fun _ h9 => h9) rfl dX1_wishOf_9 ?_
    refine lv_iload_n hx hb dX1_wishOf_12 rfl (lv_at hl 1 rfl) ?_
    refine z_iald hx hb hK hP 3 0 rfl rfl (i := x) (by omega) (by decide) dX1_wishOf_13 ?_
    refine lv_goto (tgt := 18) hx hb dX1_wishOf_14 (by decide) ?_
    subst hQ
    refine z_iret (z := (wi x)) hx hb hr hlocks dX1_wishOf_18 () hK hS ⟨by omega, by omega⟩ hP hD ?_
    first | rfl | trivial | omega

set_option maxHeartbeats 4000000 in
set_option maxRecDepth 100000 in
theorem c_X1_countOfLeavers (l : Launch) (dd : va_G) (cI cJ cC cS : ClassId) (q0 q1 q2 q3 q4 q5 : Nat) (sp ru re ar fi : Int) (cap st wi pl lk : Int → Int) (sz : Nat) (har : 0 ≤ ar ∧ ar ≤ 9) (hpl : ∀ j : Int, 0 ≤ j → j < ar → -1 ≤ pl j ∧ pl j ≤ 8) : gMi l yX1_countOfLeavers wsX1_countOfLeavers 1 0 0 dd cI cJ cC cS [.ref q0] [kO q0 1 [vI sp, .ref q1, .ref q2, .ref q3, .ref q4, .ref q5, vI ru, vI re, vI ar, vI fi], kI cI q1 8 cap, kI cI q2 8 st, kI cI q3 9 wi, kI cI q4 9 pl, kI cI q5 9 lk] sz (fun (z : Int) (_ : Unit) => z = sumZ (fun c => if pl c = -1 then 1 else 0) ar.toNat) (fun (_ : Unit) => [kO q0 1 [vI sp, .ref q1, .ref q2, .ref q3, .ref q4, .ref q5, vI ru, vI re, vI ar, vI fi], kI cI q1 8 cap, kI cI q2 8 st, kI cI q3 9 wi, kI cI q4 9 pl, kI cI q5 9 lk]) := by
  refine gMi_of (cc := cX1_countOfLeavers) (maxL := 3) (ret := (some .int)) (by decide) rfl (Nat.le_of_ble_eq_true rfl) ?_
  intro p e s m args below meth c A Q hQ hx hb hr hts hown hlocks hnm hml H locs hP hK hD hA hS ls hl
  have hi1 : ∀ w ∈ wsX10, w ∈ wsX1_countOfLeavers := fun _ h => (List.mem_cons_of_mem _ (List.mem_append_right _ h))
  have hl : lv_has ls 3 [(0, .ref q0)] := hl
  refine z_iconst hx hb dX1_countOfLeavers_0 ?_
  refine lv_istore_n (lv' := [(1, vI 0), (0, .ref q0)]) hx hb dX1_countOfLeavers_1 rfl hl (by decide) rfl (fun ls hl => ?_)
  refine z_iconst hx hb dX1_countOfLeavers_2 ?_
  refine lv_istore_n (lv' := [(2, vI 0), (1, vI 0), (0, .ref q0)]) hx hb dX1_countOfLeavers_3 rfl hl (by decide) rfl (fun ls hl => ?_)
  have L4 : ∀ (nn : Nat) (i : Int) (b : Int) (H : Heap) (locs : List Loc) (ls : Array Slot), ((ar + 1 - i).toNat) = nn → (0 ≤ i ∧ i ≤ ar) → (b = sumZ (fun c => if pl c = -1 then 1 else 0) i.toNat) → va_P dd vwCl [kO q0 1 [vI sp, .ref q1, .ref q2, .ref q3, .ref q4, .ref q5, vI ru, vI re, vI ar, vI fi], kI cI q1 8 cap, kI cI q2 8 st, kI cI q3 9 wi, kI cI q4 9 pl, kI cI q5 9 lk] H → va_D A [kO q0 1 [vI sp, .ref q1, .ref q2, .ref q3, .ref q4, .ref q5, vI ru, vI re, vI ar, vI fi], kI cI q1 8 cap, kI cI q2 8 st, kI cI q3 9 wi, kI cI q4 9 pl, kI cI q5 9 lk] → va_S A s.heap H locs → lv_has ls 3 [(1, vI b), (2, vI i), (0, .ref q0)] → W p l e (gR 1 0 0) s m args below meth c H locs 0 0 Q (F0 m 4 ls []) := by
    intro nn
    induction nn using Nat.strongRecOn with
    | ind nn L4i =>
    intro i b H locs ls hmeas hi hbb hP hD hS hl
    refine lv_iload_n hx hb dX1_countOfLeavers_4 rfl (lv_at hl 1 rfl) ?_
    refine lv_aload_n hx hb dX1_countOfLeavers_5 rfl (lv_at hl 2 rfl) ?_
    refine va_get (D := dd) (ci := 1) (v := vI ar) (C := RX1) (T := TX1) (N := 10) hx hb hts hi1 hown hK hP 0 rfl rfl 8 (by decide) (hts _ (List.mem_cons_of_mem _ (List.mem_append_left _ (List.mem_of_getElem? (i := 0) rfl)))) (fun _ h9 => h9) rfl dX1_countOfLeavers_6 ?_
    refine z_icmp_ge (tgt := 31) hx hb dX1_countOfLeavers_9 (by decide) (by omega) (fun c9 => ?_) (fun c9 => ?_)
    · skip
      refine lv_iload_n hx hb dX1_countOfLeavers_31 rfl (lv_at hl 0 rfl) ?_
      subst hQ
      refine z_iret (z := b) hx hb hr hlocks dX1_countOfLeavers_32 () hK hS ⟨by omega, by omega⟩ hP hD ?_
      rw [hbb, show i = ar by omega]
    · skip
      refine lv_aload_n hx hb dX1_countOfLeavers_12 rfl (lv_at hl 2 rfl) ?_
      refine va_get (D := dd) (ci := 1) (v := .ref q4) (C := RX1) (T := TX1) (N := 10) hx hb hts hi1 hown hK hP 0 rfl rfl 4 (by decide) (hts _ (List.mem_cons_of_mem _ (List.mem_append_left _ (List.mem_of_getElem? (i := 1) rfl)))) (fun _ h9 => h9) rfl dX1_countOfLeavers_13 ?_
      refine lv_iload_n hx hb dX1_countOfLeavers_16 rfl (lv_at hl 1 rfl) ?_
      refine z_iald hx hb hK hP 4 0 rfl rfl (i := i) (by omega) (by decide) dX1_countOfLeavers_17 ?_
      have f_1 := hpl i (by omega) (by omega)
      refine z_iconst hx hb dX1_countOfLeavers_18 ?_
      refine z_icmp_ne (tgt := 25) hx hb dX1_countOfLeavers_19 (by decide) (by omega) (fun c19 => ?_) (fun c19 => ?_)
      · skip
        refine z_iinc (a := i) (z := (i + 1)) (lv' := [(2, vI (i + 1)), (1, vI b), (0, .ref q0)]) hx hb dX1_countOfLeavers_25 hl (k := 1) rfl rfl (by decide) rfl (fun ls hl => ?_)
        refine lv_goto (tgt := 4) hx hb dX1_countOfLeavers_28 (by decide) ?_
        exact L4i _ (by omega) (i + 1) b H locs ls rfl (by omega) (by first | rfl | (rw [sumZ_s (by omega)]; split <;> omega)) hP hD hS (lv_sub hl [1, 0, 2] rfl)
      · skip
        refine z_iinc (a := b) (z := (b + 1)) (lv' := [(1, vI (b + 1)), (2, vI i), (0, .ref q0)]) hx hb dX1_countOfLeavers_22 hl (k := 0) rfl rfl (by decide) rfl (fun ls hl => ?_)
        refine z_iinc (a := i) (z := (i + 1)) (lv' := [(2, vI (i + 1)), (1, vI (b + 1)), (0, .ref q0)]) hx hb dX1_countOfLeavers_25 hl (k := 1) rfl rfl (by decide) rfl (fun ls hl => ?_)
        refine lv_goto (tgt := 4) hx hb dX1_countOfLeavers_28 (by decide) ?_
        exact L4i _ (by omega) (i + 1) (b + 1) H locs ls rfl (by omega) (by first | rfl | (rw [sumZ_s (by omega)]; split <;> omega)) hP hD hS (lv_sub hl [1, 0, 2] rfl)
  exact L4 _ 0 0 H locs ls rfl (by omega) (by first | rfl | (rw [sumZ_s (by omega)]; split <;> omega)) hP hD hS (lv_sub hl [1, 0, 2] rfl)

set_option maxHeartbeats 4000000 in
set_option maxRecDepth 100000 in
theorem c_X1_setOfCarsIn (l : Launch) (dd : va_G) (cI cJ cC cS : ClassId) (q0 q1 q2 q3 q4 q5 : Nat) (sp ru re ar fi : Int) (cap st wi pl lk : Int → Int) (x : Int) (sz : Nat) (har : 0 ≤ ar ∧ ar ≤ 9) (hpl : ∀ j : Int, 0 ≤ j → j < ar → -1 ≤ pl j ∧ pl j ≤ 8) (hx0 : -100 ≤ x ∧ x ≤ 100) : gMi l yX1_setOfCarsIn wsX1_setOfCarsIn 1 0 0 dd cI cJ cC cS [.ref q0, vI x] [kO q0 1 [vI sp, .ref q1, .ref q2, .ref q3, .ref q4, .ref q5, vI ru, vI re, vI ar, vI fi], kI cI q1 8 cap, kI cI q2 8 st, kI cI q3 9 wi, kI cI q4 9 pl, kI cI q5 9 lk] sz (fun (z : Int) (_ : Unit) => z = sumZ (fun c => if pl c = x then 2 ^ c.toNat else 0) ar.toNat) (fun (_ : Unit) => [kO q0 1 [vI sp, .ref q1, .ref q2, .ref q3, .ref q4, .ref q5, vI ru, vI re, vI ar, vI fi], kI cI q1 8 cap, kI cI q2 8 st, kI cI q3 9 wi, kI cI q4 9 pl, kI cI q5 9 lk]) := by
  refine gMi_of (cc := cX1_setOfCarsIn) (maxL := 4) (ret := (some .int)) (by decide) rfl (Nat.le_of_ble_eq_true rfl) ?_
  intro p e s m args below meth c A Q hQ hx hb hr hts hown hlocks hnm hml H locs hP hK hD hA hS ls hl
  have hi1 : ∀ w ∈ wsX10, w ∈ wsX1_setOfCarsIn := fun _ h => (List.mem_cons_of_mem _ (List.mem_append_right _ h))
  have hl : lv_has ls 4 [(0, .ref q0), (1, vI x)] := hl
  refine z_iconst hx hb dX1_setOfCarsIn_0 ?_
  refine lv_istore_n (lv' := [(2, vI 0), (0, .ref q0), (1, vI x)]) hx hb dX1_setOfCarsIn_1 rfl hl (by decide) rfl (fun ls hl => ?_)
  refine z_iconst hx hb dX1_setOfCarsIn_2 ?_
  refine lv_istore_n (lv' := [(3, vI 0), (2, vI 0), (0, .ref q0), (1, vI x)]) hx hb dX1_setOfCarsIn_3 rfl hl (by decide) rfl (fun ls hl => ?_)
  have L4 : ∀ (nn : Nat) (i : Int) (b : Int) (H : Heap) (locs : List Loc) (ls : Array Slot), ((ar + 1 - i).toNat) = nn → (0 ≤ i ∧ i ≤ ar) → (b = sumZ (fun c => if pl c = x then 2 ^ c.toNat else 0) i.toNat) → (0 ≤ b ∧ b < 2 ^ i.toNat) → va_P dd vwCl [kO q0 1 [vI sp, .ref q1, .ref q2, .ref q3, .ref q4, .ref q5, vI ru, vI re, vI ar, vI fi], kI cI q1 8 cap, kI cI q2 8 st, kI cI q3 9 wi, kI cI q4 9 pl, kI cI q5 9 lk] H → va_D A [kO q0 1 [vI sp, .ref q1, .ref q2, .ref q3, .ref q4, .ref q5, vI ru, vI re, vI ar, vI fi], kI cI q1 8 cap, kI cI q2 8 st, kI cI q3 9 wi, kI cI q4 9 pl, kI cI q5 9 lk] → va_S A s.heap H locs → lv_has ls 4 [(2, vI b), (3, vI i), (0, .ref q0), (1, vI x)] → W p l e (gR 1 0 0) s m args below meth c H locs 0 0 Q (F0 m 4 ls []) := by
    intro nn
    induction nn using Nat.strongRecOn with
    | ind nn L4i =>
    intro i b H locs ls hmeas hi hbb hbd hP hD hS hl
    refine lv_iload_n hx hb dX1_setOfCarsIn_4 rfl (lv_at hl 1 rfl) ?_
    refine lv_aload_n hx hb dX1_setOfCarsIn_5 rfl (lv_at hl 2 rfl) ?_
    refine va_get (D := dd) (ci := 1) (v := vI ar) (C := RX1) (T := TX1) (N := 10) hx hb hts hi1 hown hK hP 0 rfl rfl 8 (by decide) (hts _ (List.mem_cons_of_mem _ (List.mem_append_left _ (List.mem_of_getElem? (i := 0) rfl)))) (fun _ h9 => h9) rfl dX1_setOfCarsIn_6 ?_
    refine z_icmp_ge (tgt := 34) hx hb dX1_setOfCarsIn_9 (by decide) (by omega) (fun c9 => ?_) (fun c9 => ?_)
    · skip
      refine lv_iload_n hx hb dX1_setOfCarsIn_34 rfl (lv_at hl 0 rfl) ?_
      subst hQ
      refine z_iret (z := b) hx hb hr hlocks dX1_setOfCarsIn_35 () hK hS ⟨by omega, by omega⟩ hP hD ?_
      rw [hbb, show i = ar by omega]
    · skip
      refine lv_aload_n hx hb dX1_setOfCarsIn_12 rfl (lv_at hl 2 rfl) ?_
      refine va_get (D := dd) (ci := 1) (v := .ref q4) (C := RX1) (T := TX1) (N := 10) hx hb hts hi1 hown hK hP 0 rfl rfl 4 (by decide) (hts _ (List.mem_cons_of_mem _ (List.mem_append_left _ (List.mem_of_getElem? (i := 1) rfl)))) (fun _ h9 => h9) rfl dX1_setOfCarsIn_13 ?_
      refine lv_iload_n hx hb dX1_setOfCarsIn_16 rfl (lv_at hl 1 rfl) ?_
      refine z_iald hx hb hK hP 4 0 rfl rfl (i := i) (by omega) (by decide) dX1_setOfCarsIn_17 ?_
      have f_1 := hpl i (by omega) (by omega)
      refine lv_iload_n hx hb dX1_setOfCarsIn_18 rfl (lv_at hl 3 rfl) ?_
      refine z_icmp_ne (tgt := 28) hx hb dX1_setOfCarsIn_19 (by decide) (by omega) (fun c19 => ?_) (fun c19 => ?_)
      · skip
        refine z_iinc (a := i) (z := (i + 1)) (lv' := [(3, vI (i + 1)), (2, vI b), (0, .ref q0), (1, vI x)]) hx hb dX1_setOfCarsIn_28 hl (k := 1) rfl rfl (by decide) rfl (fun ls hl => ?_)
        refine lv_goto (tgt := 4) hx hb dX1_setOfCarsIn_31 (by decide) ?_
        exact L4i _ (by omega) (i + 1) b H locs ls rfl (by omega) (by first | rfl | (rw [sumZ_s (by omega)]; split <;> omega)) (by first | exact ⟨by decide, by decide⟩ | (rw [pow_s (by omega)]; have hpw := pow_pos2 i.toNat; omega)) hP hD hS (lv_sub hl [1, 0, 2, 3] rfl)
      · skip
        refine lv_iload_n hx hb dX1_setOfCarsIn_22 rfl (lv_at hl 0 rfl) ?_
        refine z_iconst hx hb dX1_setOfCarsIn_23 ?_
        refine lv_iload_n hx hb dX1_setOfCarsIn_24 rfl (lv_at hl 1 rfl) ?_
        refine z_shl1 (z := (2 ^ i.toNat)) hx hb (by omega) rfl dX1_setOfCarsIn_25 ?_
        refine lv_ior hx hb dX1_setOfCarsIn_26 ?_
        refine z_bin (va := .null) (vb := .null) (y := zI (b + (2 ^ i.toNat))) (zI_orbit (by omega)) ?_
        refine lv_istore_n (lv' := [(2, vI (b + (2 ^ i.toNat))), (3, vI i), (0, .ref q0), (1, vI x)]) hx hb dX1_setOfCarsIn_27 rfl hl (by decide) rfl (fun ls hl => ?_)
        refine z_iinc (a := i) (z := (i + 1)) (lv' := [(3, vI (i + 1)), (2, vI (b + (2 ^ i.toNat))), (0, .ref q0), (1, vI x)]) hx hb dX1_setOfCarsIn_28 hl (k := 1) rfl rfl (by decide) rfl (fun ls hl => ?_)
        refine lv_goto (tgt := 4) hx hb dX1_setOfCarsIn_31 (by decide) ?_
        exact L4i _ (by omega) (i + 1) (b + (2 ^ i.toNat)) H locs ls rfl (by omega) (by first | rfl | (rw [sumZ_s (by omega)]; split <;> omega)) (by first | exact ⟨by decide, by decide⟩ | (rw [pow_s (by omega)]; have hpw := pow_pos2 i.toNat; omega)) hP hD hS (lv_sub hl [1, 0, 2, 3] rfl)
  exact L4 _ 0 0 H locs ls rfl (by omega) (by first | rfl | (rw [sumZ_s (by omega)]; split <;> omega)) (by first | exact ⟨by decide, by decide⟩ | (rw [pow_s (by omega)]; have hpw := pow_pos2 i.toNat; omega)) hP hD hS (lv_sub hl [1, 0, 2, 3] rfl)

set_option maxHeartbeats 4000000 in
set_option maxRecDepth 100000 in
theorem c_X1_setOfLuckyCars (l : Launch) (dd : va_G) (cI cJ cC cS : ClassId) (q0 q1 q2 q3 q4 q5 : Nat) (sp ru re ar fi : Int) (cap st wi pl lk : Int → Int) (sz : Nat) (har : 0 ≤ ar ∧ ar ≤ 9) (hpl : ∀ j : Int, 0 ≤ j → j < ar → -1 ≤ pl j ∧ pl j ≤ 8) (hwi : ∀ j : Int, 0 ≤ j → j < ar → 0 ≤ wi j ∧ wi j ≤ 8) : gMi l yX1_setOfLuckyCars wsX1_setOfLuckyCars 1 0 0 dd cI cJ cC cS [.ref q0] [kO q0 1 [vI sp, .ref q1, .ref q2, .ref q3, .ref q4, .ref q5, vI ru, vI re, vI ar, vI fi], kI cI q1 8 cap, kI cI q2 8 st, kI cI q3 9 wi, kI cI q4 9 pl, kI cI q5 9 lk] sz (fun (z : Int) (_ : Unit) => z = sumZ (fun c => if pl c = wi c then 2 ^ c.toNat else 0) ar.toNat) (fun (_ : Unit) => [kO q0 1 [vI sp, .ref q1, .ref q2, .ref q3, .ref q4, .ref q5, vI ru, vI re, vI ar, vI fi], kI cI q1 8 cap, kI cI q2 8 st, kI cI q3 9 wi, kI cI q4 9 pl, kI cI q5 9 lk]) := by
  refine gMi_of (cc := cX1_setOfLuckyCars) (maxL := 3) (ret := (some .int)) (by decide) rfl (Nat.le_of_ble_eq_true rfl) ?_
  intro p e s m args below meth c A Q hQ hx hb hr hts hown hlocks hnm hml H locs hP hK hD hA hS ls hl
  have hi1 : ∀ w ∈ wsX10, w ∈ wsX1_setOfLuckyCars := fun _ h => (List.mem_cons_of_mem _ (List.mem_append_right _ h))
  have hl : lv_has ls 3 [(0, .ref q0)] := hl
  refine z_iconst hx hb dX1_setOfLuckyCars_0 ?_
  refine lv_istore_n (lv' := [(1, vI 0), (0, .ref q0)]) hx hb dX1_setOfLuckyCars_1 rfl hl (by decide) rfl (fun ls hl => ?_)
  refine z_iconst hx hb dX1_setOfLuckyCars_2 ?_
  refine lv_istore_n (lv' := [(2, vI 0), (1, vI 0), (0, .ref q0)]) hx hb dX1_setOfLuckyCars_3 rfl hl (by decide) rfl (fun ls hl => ?_)
  have L4 : ∀ (nn : Nat) (i : Int) (b : Int) (H : Heap) (locs : List Loc) (ls : Array Slot), ((ar + 1 - i).toNat) = nn → (0 ≤ i ∧ i ≤ ar) → (b = sumZ (fun c => if pl c = wi c then 2 ^ c.toNat else 0) i.toNat) → (0 ≤ b ∧ b < 2 ^ i.toNat) → va_P dd vwCl [kO q0 1 [vI sp, .ref q1, .ref q2, .ref q3, .ref q4, .ref q5, vI ru, vI re, vI ar, vI fi], kI cI q1 8 cap, kI cI q2 8 st, kI cI q3 9 wi, kI cI q4 9 pl, kI cI q5 9 lk] H → va_D A [kO q0 1 [vI sp, .ref q1, .ref q2, .ref q3, .ref q4, .ref q5, vI ru, vI re, vI ar, vI fi], kI cI q1 8 cap, kI cI q2 8 st, kI cI q3 9 wi, kI cI q4 9 pl, kI cI q5 9 lk] → va_S A s.heap H locs → lv_has ls 3 [(1, vI b), (2, vI i), (0, .ref q0)] → W p l e (gR 1 0 0) s m args below meth c H locs 0 0 Q (F0 m 4 ls []) := by
    intro nn
    induction nn using Nat.strongRecOn with
    | ind nn L4i =>
    intro i b H locs ls hmeas hi hbb hbd hP hD hS hl
    refine lv_iload_n hx hb dX1_setOfLuckyCars_4 rfl (lv_at hl 1 rfl) ?_
    refine lv_aload_n hx hb dX1_setOfLuckyCars_5 rfl (lv_at hl 2 rfl) ?_
    refine va_get (D := dd) (ci := 1) (v := vI ar) (C := RX1) (T := TX1) (N := 10) hx hb hts hi1 hown hK hP 0 rfl rfl 8 (by decide) (hts _ (List.mem_cons_of_mem _ (List.mem_append_left _ (List.mem_of_getElem? (i := 0) rfl)))) (fun _ h9 => h9) rfl dX1_setOfLuckyCars_6 ?_
    refine z_icmp_ge (tgt := 39) hx hb dX1_setOfLuckyCars_9 (by decide) (by omega) (fun c9 => ?_) (fun c9 => ?_)
    · skip
      refine lv_iload_n hx hb dX1_setOfLuckyCars_39 rfl (lv_at hl 0 rfl) ?_
      subst hQ
      refine z_iret (z := b) hx hb hr hlocks dX1_setOfLuckyCars_40 () hK hS ⟨by omega, by omega⟩ hP hD ?_
      rw [hbb, show i = ar by omega]
    · skip
      refine lv_aload_n hx hb dX1_setOfLuckyCars_12 rfl (lv_at hl 2 rfl) ?_
      refine va_get (D := dd) (ci := 1) (v := .ref q4) (C := RX1) (T := TX1) (N := 10) hx hb hts hi1 hown hK hP 0 rfl rfl 4 (by decide) (hts _ (List.mem_cons_of_mem _ (List.mem_append_left _ (List.mem_of_getElem? (i := 1) rfl)))) (fun _ h9 => h9) rfl dX1_setOfLuckyCars_13 ?_
      refine lv_iload_n hx hb dX1_setOfLuckyCars_16 rfl (lv_at hl 1 rfl) ?_
      refine z_iald hx hb hK hP 4 0 rfl rfl (i := i) (by omega) (by decide) dX1_setOfLuckyCars_17 ?_
      have f_1 := hpl i (by omega) (by omega)
      refine lv_aload_n hx hb dX1_setOfLuckyCars_18 rfl (lv_at hl 2 rfl) ?_
      refine va_get (D := dd) (ci := 1) (v := .ref q3) (C := RX1) (T := TX1) (N := 10) hx hb hts hi1 hown hK hP 0 rfl rfl 3 (by decide) (hts _ (List.mem_cons_of_mem _ (List.mem_append_left _ (List.mem_of_getElem? (i := 2) rfl)))) (fun _ h9 => h9) rfl dX1_setOfLuckyCars_19 ?_
      refine lv_iload_n hx hb dX1_setOfLuckyCars_22 rfl (lv_at hl 1 rfl) ?_
      refine z_iald hx hb hK hP 3 0 rfl rfl (i := i) (by omega) (by decide) dX1_setOfLuckyCars_23 ?_
      have f_2 := hwi i (by omega) (by omega)
      refine z_icmp_ne (tgt := 33) hx hb dX1_setOfLuckyCars_24 (by decide) (by omega) (fun c24 => ?_) (fun c24 => ?_)
      · skip
        refine z_iinc (a := i) (z := (i + 1)) (lv' := [(2, vI (i + 1)), (1, vI b), (0, .ref q0)]) hx hb dX1_setOfLuckyCars_33 hl (k := 1) rfl rfl (by decide) rfl (fun ls hl => ?_)
        refine lv_goto (tgt := 4) hx hb dX1_setOfLuckyCars_36 (by decide) ?_
        exact L4i _ (by omega) (i + 1) b H locs ls rfl (by omega) (by first | rfl | (rw [sumZ_s (by omega)]; split <;> omega)) (by first | exact ⟨by decide, by decide⟩ | (rw [pow_s (by omega)]; have hpw := pow_pos2 i.toNat; omega)) hP hD hS (lv_sub hl [1, 0, 2] rfl)
      · skip
        refine lv_iload_n hx hb dX1_setOfLuckyCars_27 rfl (lv_at hl 0 rfl) ?_
        refine z_iconst hx hb dX1_setOfLuckyCars_28 ?_
        refine lv_iload_n hx hb dX1_setOfLuckyCars_29 rfl (lv_at hl 1 rfl) ?_
        refine z_shl1 (z := (2 ^ i.toNat)) hx hb (by omega) rfl dX1_setOfLuckyCars_30 ?_
        refine lv_ior hx hb dX1_setOfLuckyCars_31 ?_
        refine z_bin (va := .null) (vb := .null) (y := zI (b + (2 ^ i.toNat))) (zI_orbit (by omega)) ?_
        refine lv_istore_n (lv' := [(1, vI (b + (2 ^ i.toNat))), (2, vI i), (0, .ref q0)]) hx hb dX1_setOfLuckyCars_32 rfl hl (by decide) rfl (fun ls hl => ?_)
        refine z_iinc (a := i) (z := (i + 1)) (lv' := [(2, vI (i + 1)), (1, vI (b + (2 ^ i.toNat))), (0, .ref q0)]) hx hb dX1_setOfLuckyCars_33 hl (k := 1) rfl rfl (by decide) rfl (fun ls hl => ?_)
        refine lv_goto (tgt := 4) hx hb dX1_setOfLuckyCars_36 (by decide) ?_
        exact L4i _ (by omega) (i + 1) (b + (2 ^ i.toNat)) H locs ls rfl (by omega) (by first | rfl | (rw [sumZ_s (by omega)]; split <;> omega)) (by first | exact ⟨by decide, by decide⟩ | (rw [pow_s (by omega)]; have hpw := pow_pos2 i.toNat; omega)) hP hD hS (lv_sub hl [1, 0, 2] rfl)
  exact L4 _ 0 0 H locs ls rfl (by omega) (by first | rfl | (rw [sumZ_s (by omega)]; split <;> omega)) (by first | exact ⟨by decide, by decide⟩ | (rw [pow_s (by omega)]; have hpw := pow_pos2 i.toNat; omega)) hP hD hS (lv_sub hl [1, 0, 2] rfl)

set_option maxHeartbeats 4000000 in
set_option maxRecDepth 100000 in
theorem c_X1_sumOfDistances (l : Launch) (dd : va_G) (cI cJ cC cS : ClassId) (q0 q1 q2 q3 q4 q5 : Nat) (sp ru re ar fi : Int) (cap st wi pl lk : Int → Int) (sz : Nat) (har : 0 ≤ ar ∧ ar ≤ 9) (hpl : ∀ j : Int, 0 ≤ j → j < ar → -1 ≤ pl j ∧ pl j ≤ 8) (hwi : ∀ j : Int, 0 ≤ j → j < ar → 0 ≤ wi j ∧ wi j ≤ 8) : gMi l yX1_sumOfDistances wsX1_sumOfDistances 2 0 0 dd cI cJ cC cS [.ref q0] [kO q0 1 [vI sp, .ref q1, .ref q2, .ref q3, .ref q4, .ref q5, vI ru, vI re, vI ar, vI fi], kI cI q1 8 cap, kI cI q2 8 st, kI cI q3 9 wi, kI cI q4 9 pl, kI cI q5 9 lk] sz (fun (z : Int) (_ : Unit) => z = sumZ (fun c => if pl c = -1 then 0 else if 0 ≤ pl c - wi c then pl c - wi c else -(pl c - wi c)) ar.toNat) (fun (_ : Unit) => [kO q0 1 [vI sp, .ref q1, .ref q2, .ref q3, .ref q4, .ref q5, vI ru, vI re, vI ar, vI fi], kI cI q1 8 cap, kI cI q2 8 st, kI cI q3 9 wi, kI cI q4 9 pl, kI cI q5 9 lk]) := by
  refine gMi_of (cc := cX1_sumOfDistances) (maxL := 3) (ret := (some .int)) (by decide) rfl (Nat.le_of_ble_eq_true rfl) ?_
  intro p e s m args below meth c A Q hQ hx hb hr hts hown hlocks hnm hml H locs hP hK hD hA hS ls hl
  have hi1 : ∀ w ∈ wsX10, w ∈ wsX1_sumOfDistances := fun _ h => (List.mem_cons_of_mem _ (List.mem_append_right _ h))
  have hl : lv_has ls 3 [(0, .ref q0)] := hl
  refine z_iconst hx hb dX1_sumOfDistances_0 ?_
  refine lv_istore_n (lv' := [(1, vI 0), (0, .ref q0)]) hx hb dX1_sumOfDistances_1 rfl hl (by decide) rfl (fun ls hl => ?_)
  refine z_iconst hx hb dX1_sumOfDistances_2 ?_
  refine lv_istore_n (lv' := [(2, vI 0), (1, vI 0), (0, .ref q0)]) hx hb dX1_sumOfDistances_3 rfl hl (by decide) rfl (fun ls hl => ?_)
  have L4 : ∀ (nn : Nat) (i : Int) (b : Int) (H : Heap) (locs : List Loc) (ls : Array Slot), ((ar + 1 - i).toNat) = nn → (0 ≤ i ∧ i ≤ ar) → (b = sumZ (fun c => if pl c = -1 then 0 else if 0 ≤ pl c - wi c then pl c - wi c else -(pl c - wi c)) i.toNat) → va_P dd vwCl [kO q0 1 [vI sp, .ref q1, .ref q2, .ref q3, .ref q4, .ref q5, vI ru, vI re, vI ar, vI fi], kI cI q1 8 cap, kI cI q2 8 st, kI cI q3 9 wi, kI cI q4 9 pl, kI cI q5 9 lk] H → va_D A [kO q0 1 [vI sp, .ref q1, .ref q2, .ref q3, .ref q4, .ref q5, vI ru, vI re, vI ar, vI fi], kI cI q1 8 cap, kI cI q2 8 st, kI cI q3 9 wi, kI cI q4 9 pl, kI cI q5 9 lk] → va_S A s.heap H locs → lv_has ls 3 [(1, vI b), (2, vI i), (0, .ref q0)] → W p l e (gR 2 0 0) s m args below meth c H locs 0 0 Q (F0 m 4 ls []) := by
    intro nn
    induction nn using Nat.strongRecOn with
    | ind nn L4i =>
    intro i b H locs ls hmeas hi hbb hP hD hS hl
    refine lv_iload_n hx hb dX1_sumOfDistances_4 rfl (lv_at hl 1 rfl) ?_
    refine lv_aload_n hx hb dX1_sumOfDistances_5 rfl (lv_at hl 2 rfl) ?_
    refine va_get (D := dd) (ci := 1) (v := vI ar) (C := RX1) (T := TX1) (N := 10) hx hb hts hi1 hown hK hP 0 rfl rfl 8 (by decide) (hts _ (List.mem_cons_of_mem _ (List.mem_append_left _ (List.mem_of_getElem? (i := 0) rfl)))) (fun _ h9 => h9) rfl dX1_sumOfDistances_6 ?_
    refine z_icmp_ge (tgt := 47) hx hb dX1_sumOfDistances_9 (by decide) (by omega) (fun c9 => ?_) (fun c9 => ?_)
    · skip
      refine lv_iload_n hx hb dX1_sumOfDistances_47 rfl (lv_at hl 0 rfl) ?_
      subst hQ
      refine z_iret (z := b) hx hb hr hlocks dX1_sumOfDistances_48 () hK hS ⟨by omega, by omega⟩ hP hD ?_
      rw [hbb, show i = ar by omega]
    · skip
      refine lv_aload_n hx hb dX1_sumOfDistances_12 rfl (lv_at hl 2 rfl) ?_
      refine va_get (D := dd) (ci := 1) (v := .ref q4) (C := RX1) (T := TX1) (N := 10) hx hb hts hi1 hown hK hP 0 rfl rfl 4 (by decide) (hts _ (List.mem_cons_of_mem _ (List.mem_append_left _ (List.mem_of_getElem? (i := 1) rfl)))) (fun _ h9 => h9) rfl dX1_sumOfDistances_13 ?_
      refine lv_iload_n hx hb dX1_sumOfDistances_16 rfl (lv_at hl 1 rfl) ?_
      refine z_iald hx hb hK hP 4 0 rfl rfl (i := i) (by omega) (by decide) dX1_sumOfDistances_17 ?_
      have f_1 := hpl i (by omega) (by omega)
      refine z_iconst hx hb dX1_sumOfDistances_18 ?_
      refine z_icmp_eq (tgt := 41) hx hb dX1_sumOfDistances_19 (by decide) (by omega) (fun c19 => ?_) (fun c19 => ?_)
      · skip
        refine z_iinc (a := i) (z := (i + 1)) (lv' := [(2, vI (i + 1)), (1, vI b), (0, .ref q0)]) hx hb dX1_sumOfDistances_41 hl (k := 1) rfl rfl (by decide) rfl (fun ls hl => ?_)
        refine lv_goto (tgt := 4) hx hb dX1_sumOfDistances_44 (by decide) ?_
        exact L4i _ (by omega) (i + 1) b H locs ls rfl (by omega) (by first | rfl | (rw [sumZ_s (by omega)]; split <;> omega) | (rw [sumZ_s (by omega), if_neg (by omega)]; omega)) hP hD hS (lv_sub hl [1, 0, 2] rfl)
      · skip
        refine lv_iload_n hx hb dX1_sumOfDistances_22 rfl (lv_at hl 0 rfl) ?_
        refine lv_aload_n hx hb dX1_sumOfDistances_23 rfl (lv_at hl 2 rfl) ?_
        refine va_get (D := dd) (ci := 1) (v := .ref q4) (C := RX1) (T := TX1) (N := 10) hx hb hts hi1 hown hK hP 0 rfl rfl 4 (by decide) (hts _ (List.mem_cons_of_mem _ (List.mem_append_left _ (List.mem_of_getElem? (i := 1) rfl)))) (fun _ h9 => h9) rfl dX1_sumOfDistances_24 ?_
        refine lv_iload_n hx hb dX1_sumOfDistances_27 rfl (lv_at hl 1 rfl) ?_
        refine z_iald hx hb hK hP 4 0 rfl rfl (i := i) (by omega) (by decide) dX1_sumOfDistances_28 ?_
        have f_2 := hpl i (by omega) (by omega)
        refine lv_aload_n hx hb dX1_sumOfDistances_29 rfl (lv_at hl 2 rfl) ?_
        refine va_get (D := dd) (ci := 1) (v := .ref q3) (C := RX1) (T := TX1) (N := 10) hx hb hts hi1 hown hK hP 0 rfl rfl 3 (by decide) (hts _ (List.mem_cons_of_mem _ (List.mem_append_left _ (List.mem_of_getElem? (i := 2) rfl)))) (fun _ h9 => h9) rfl dX1_sumOfDistances_30 ?_
        refine lv_iload_n hx hb dX1_sumOfDistances_33 rfl (lv_at hl 1 rfl) ?_
        refine z_iald hx hb hK hP 3 0 rfl rfl (i := i) (by omega) (by decide) dX1_sumOfDistances_34 ?_
        have f_3 := hwi i (by omega) (by omega)
        refine z_isub (z := ((pl i) - (wi i))) hx hb rfl dX1_sumOfDistances_35 ?_
        refine va_mabs hx hb (hml.trans hl.1.symm) (own := RX1) hown (hts _ (List.mem_cons_of_mem _ (List.mem_append_left _ (List.mem_of_getElem? (i := 3) rfl)))) (hts _ (List.mem_cons_of_mem _ (List.mem_append_left _ (List.mem_of_getElem? (i := 4) rfl)))) (hts _ (List.mem_cons_of_mem _ (List.mem_append_left _ (List.mem_of_getElem? (i := 5) rfl)))) (hts _ (List.mem_cons_of_mem _ (List.mem_append_left _ (List.mem_of_getElem? (i := 6) rfl)))) (Nat.le_of_ble_eq_true rfl) (Nat.le_of_ble_eq_true rfl) (Nat.le_of_ble_eq_true rfl) (Nat.le_of_ble_eq_true rfl) dX1_sumOfDistances_36 ?_
        refine z_bin (va := .null) (vb := .null) (y := zI (if 0 ≤ ((pl i) - (wi i)) then ((pl i) - (wi i)) else -((pl i) - (wi i)))) (zI_abs (by omega)) ?_
        refine z_iadd (z := (b + (if 0 ≤ ((pl i) - (wi i)) then ((pl i) - (wi i)) else -((pl i) - (wi i))))) hx hb rfl dX1_sumOfDistances_39 ?_
        refine lv_istore_n (lv' := [(1, vI (b + (if 0 ≤ ((pl i) - (wi i)) then ((pl i) - (wi i)) else -((pl i) - (wi i))))), (2, vI i), (0, .ref q0)]) hx hb dX1_sumOfDistances_40 rfl hl (by decide) rfl (fun ls hl => ?_)
        refine z_iinc (a := i) (z := (i + 1)) (lv' := [(2, vI (i + 1)), (1, vI (b + (if 0 ≤ ((pl i) - (wi i)) then ((pl i) - (wi i)) else -((pl i) - (wi i))))), (0, .ref q0)]) hx hb dX1_sumOfDistances_41 hl (k := 1) rfl rfl (by decide) rfl (fun ls hl => ?_)
        refine lv_goto (tgt := 4) hx hb dX1_sumOfDistances_44 (by decide) ?_
        exact L4i _ (by omega) (i + 1) (b + (if 0 ≤ ((pl i) - (wi i)) then ((pl i) - (wi i)) else -((pl i) - (wi i)))) H locs ls rfl (by omega) (by first | rfl | (rw [sumZ_s (by omega)]; split <;> omega) | (rw [sumZ_s (by omega), if_neg (by omega)]; omega)) hP hD hS (lv_sub hl [1, 0, 2] rfl)
  exact L4 _ 0 0 H locs ls rfl (by omega) (by first | rfl | (rw [sumZ_s (by omega)]; split <;> omega) | (rw [sumZ_s (by omega), if_neg (by omega)]; omega)) hP hD hS (lv_sub hl [1, 0, 2] rfl)

set_option maxHeartbeats 4000000 in
set_option maxRecDepth 100000 in
theorem c_X1_firstLeaver (l : Launch) (dd : va_G) (cI cJ cC cS : ClassId) (q0 q1 q2 q3 q4 q5 : Nat) (sp ru re ar fi : Int) (cap st wi pl lk : Int → Int) (sz : Nat) (har : 0 ≤ ar ∧ ar ≤ 9) (hpl : ∀ j : Int, 0 ≤ j → j < ar → -1 ≤ pl j ∧ pl j ≤ 8) : gMi l yX1_firstLeaver wsX1_firstLeaver 1 0 0 dd cI cJ cC cS [.ref q0] [kO q0 1 [vI sp, .ref q1, .ref q2, .ref q3, .ref q4, .ref q5, vI ru, vI re, vI ar, vI fi], kI cI q1 8 cap, kI cI q2 8 st, kI cI q3 9 wi, kI cI q4 9 pl, kI cI q5 9 lk] sz (fun (z : Int) (_ : Unit) => ((0 ≤ z ∧ z < ar ∧ pl z = -1 ∧ ∀ j : Int, 0 ≤ j → j < z → pl j ≠ -1) ∨ (z = -1 ∧ ∀ j : Int, 0 ≤ j → j < ar → pl j ≠ -1))) (fun (_ : Unit) => [kO q0 1 [vI sp, .ref q1, .ref q2, .ref q3, .ref q4, .ref q5, vI ru, vI re, vI ar, vI fi], kI cI q1 8 cap, kI cI q2 8 st, kI cI q3 9 wi, kI cI q4 9 pl, kI cI q5 9 lk]) := by
  refine gMi_of (cc := cX1_firstLeaver) (maxL := 2) (ret := (some .int)) (by decide) rfl (Nat.le_of_ble_eq_true rfl) ?_
  intro p e s m args below meth c A Q hQ hx hb hr hts hown hlocks hnm hml H locs hP hK hD hA hS ls hl
  have hi1 : ∀ w ∈ wsX10, w ∈ wsX1_firstLeaver := fun _ h => (List.mem_cons_of_mem _ (List.mem_append_right _ h))
  have hl : lv_has ls 2 [(0, .ref q0)] := hl
  refine z_iconst hx hb dX1_firstLeaver_0 ?_
  refine lv_istore_n (lv' := [(1, vI 0), (0, .ref q0)]) hx hb dX1_firstLeaver_1 rfl hl (by decide) rfl (fun ls hl => ?_)
  have L2 : ∀ (nn : Nat) (i : Int) (H : Heap) (locs : List Loc) (ls : Array Slot), ((ar + 1 - i).toNat) = nn → (0 ≤ i ∧ i ≤ ar) → (∀ j : Int, 0 ≤ j → j < i → pl j ≠ -1) → va_P dd vwCl [kO q0 1 [vI sp, .ref q1, .ref q2, .ref q3, .ref q4, .ref q5, vI ru, vI re, vI ar, vI fi], kI cI q1 8 cap, kI cI q2 8 st, kI cI q3 9 wi, kI cI q4 9 pl, kI cI q5 9 lk] H → va_D A [kO q0 1 [vI sp, .ref q1, .ref q2, .ref q3, .ref q4, .ref q5, vI ru, vI re, vI ar, vI fi], kI cI q1 8 cap, kI cI q2 8 st, kI cI q3 9 wi, kI cI q4 9 pl, kI cI q5 9 lk] → va_S A s.heap H locs → lv_has ls 2 [(1, vI i), (0, .ref q0)] → W p l e (gR 1 0 0) s m args below meth c H locs 0 0 Q (F0 m 2 ls []) := by
    intro nn
    induction nn using Nat.strongRecOn with
    | ind nn L2i =>
    intro i H locs ls hmeas hi hall hP hD hS hl
    refine lv_iload_n hx hb dX1_firstLeaver_2 rfl (lv_at hl 0 rfl) ?_
    refine lv_aload_n hx hb dX1_firstLeaver_3 rfl (lv_at hl 1 rfl) ?_
    refine va_get (D := dd) (ci := 1) (v := vI ar) (C := RX1) (T := TX1) (N := 10) hx hb hts hi1 hown hK hP 0 rfl rfl 8 (by decide) (hts _ (List.mem_cons_of_mem _ (List.mem_append_left _ (List.mem_of_getElem? (i := 0) rfl)))) (fun _ h9 => h9) rfl dX1_firstLeaver_4 ?_
    refine z_icmp_ge (tgt := 28) hx hb dX1_firstLeaver_7 (by decide) (by omega) (fun c7 => ?_) (fun c7 => ?_)
    · skip
      refine z_iconst hx hb dX1_firstLeaver_28 ?_
      subst hQ
      refine z_iret (z := (-1)) hx hb hr hlocks dX1_firstLeaver_29 () hK hS ⟨by omega, by omega⟩ hP hD ?_
      exact Or.inr ⟨rfl, fun j h0 h1 => hall j h0 (by omega)⟩
    · skip
      refine lv_aload_n hx hb dX1_firstLeaver_10 rfl (lv_at hl 1 rfl) ?_
      refine va_get (D := dd) (ci := 1) (v := .ref q4) (C := RX1) (T := TX1) (N := 10) hx hb hts hi1 hown hK hP 0 rfl rfl 4 (by decide) (hts _ (List.mem_cons_of_mem _ (List.mem_append_left _ (List.mem_of_getElem? (i := 1) rfl)))) (fun _ h9 => h9) rfl dX1_firstLeaver_11 ?_
      refine lv_iload_n hx hb dX1_firstLeaver_14 rfl (lv_at hl 0 rfl) ?_
      refine z_iald hx hb hK hP 4 0 rfl rfl (i := i) (by omega) (by decide) dX1_firstLeaver_15 ?_
      have f_1 := hpl i (by omega) (by omega)
      refine z_iconst hx hb dX1_firstLeaver_16 ?_
      refine z_icmp_ne (tgt := 22) hx hb dX1_firstLeaver_17 (by decide) (by omega) (fun c17 => ?_) (fun c17 => ?_)
      · skip
        refine z_iinc (a := i) (z := (i + 1)) (lv' := [(1, vI (i + 1)), (0, .ref q0)]) hx hb dX1_firstLeaver_22 hl (k := 0) rfl rfl (by decide) rfl (fun ls hl => ?_)
        refine lv_goto (tgt := 2) hx hb dX1_firstLeaver_25 (by decide) ?_
        exact L2i _ (by omega) (i + 1) H locs ls rfl (by omega) (by
  intro j h0 h1
  by_cases ee : j = i
  · subst ee; omega
  · exact hall j h0 (by omega)) hP hD hS hl
      · skip
        refine lv_iload_n hx hb dX1_firstLeaver_20 rfl (lv_at hl 0 rfl) ?_
        subst hQ
        refine z_iret (z := i) hx hb hr hlocks dX1_firstLeaver_21 () hK hS ⟨by omega, by omega⟩ hP hD ?_
        exact Or.inl ⟨by omega, by omega, by omega, hall⟩
  exact L2 _ 0 H locs ls rfl (by omega) (fun j h0 h1 => absurd h1 (by omega)) hP hD hS hl

set_option maxHeartbeats 4000000 in
set_option maxRecDepth 100000 in
theorem c_X1_open (l : Launch) (dd : va_G) (cI cJ cC cS : ClassId) (q0 q1 q2 q3 q4 q5 r0 r1 r2 : Nat) (sp ru re ar fi : Int) (cap st wi pl lk : Int → Int) (cap2 wi2 : Int → Int) (ct2 ru2 re2 : Int) (sz : Nat) (hsp : 1 ≤ sp ∧ sp ≤ 8) : gMv l yX1_open wsX1_open 1 0 0 dd cI cJ cC cS [.ref q0, .ref r0] [kO q0 1 [vI sp, .ref q1, .ref q2, .ref q3, .ref q4, .ref q5, vI ru, vI re, vI ar, vI fi], kI cI q1 8 cap, kI cI q2 8 st, kI cI q3 9 wi, kI cI q4 9 pl, kI cI q5 9 lk, kO r0 5 [.ref r1, .ref r2, vI ct2, vI ru2, vI re2], kI cI r1 8 cap2, kI cI r2 9 wi2] sz (fun (_ : Unit) => True) (fun (_ : Unit) => [kO q0 1 [vI sp, .ref q1, .ref q2, .ref q3, .ref q4, .ref q5, vI ru2, vI re2, vI 0, vI 0], kI cI q1 8 (cpZ cap2 cap sp), kI cI q2 8 (cpZ zeroZ st sp), kI cI q3 9 wi, kI cI q4 9 pl, kI cI q5 9 lk, kO r0 5 [.ref r1, .ref r2, vI ct2, vI ru2, vI re2], kI cI r1 8 cap2, kI cI r2 9 wi2]) := by
  refine gMv_of (cc := cX1_open) (maxL := 3) (ret := none) (by decide) rfl (Nat.le_of_ble_eq_true rfl) ?_
  intro p e s m args below meth c A Q hQ hx hb hr hts hown hlocks hnm hml H locs hP hK hD hA hS ls hl
  have hi1 : ∀ w ∈ wsX10, w ∈ wsX1_open := fun _ h => (List.mem_cons_of_mem _ (List.mem_append_left _ (List.mem_append_right _ h)))
  have hi5 : ∀ w ∈ wsX50, w ∈ wsX1_open := fun _ h => (List.mem_cons_of_mem _ (List.mem_append_right _ h))
  have hl : lv_has ls 3 [(0, .ref q0), (1, .ref r0)] := hl
  refine z_iconst hx hb dX1_open_0 ?_
  refine lv_istore_n (lv' := [(2, vI 0), (0, .ref q0), (1, .ref r0)]) hx hb dX1_open_1 rfl hl (by decide) rfl (fun ls hl => ?_)
  have L2 : ∀ (nn : Nat) (i : Int) (H : Heap) (locs : List Loc) (ls : Array Slot), ((sp + 1 - i).toNat) = nn → (0 ≤ i ∧ i ≤ sp) → va_P dd vwCl [kO q0 1 [vI sp, .ref q1, .ref q2, .ref q3, .ref q4, .ref q5, vI ru, vI re, vI ar, vI fi], kI cI q1 8 (cpZ cap2 cap i), kI cI q2 8 (cpZ zeroZ st i), kI cI q3 9 wi, kI cI q4 9 pl, kI cI q5 9 lk, kO r0 5 [.ref r1, .ref r2, vI ct2, vI ru2, vI re2], kI cI r1 8 cap2, kI cI r2 9 wi2] H → va_D A [kO q0 1 [vI sp, .ref q1, .ref q2, .ref q3, .ref q4, .ref q5, vI ru, vI re, vI ar, vI fi], kI cI q1 8 (cpZ cap2 cap i), kI cI q2 8 (cpZ zeroZ st i), kI cI q3 9 wi, kI cI q4 9 pl, kI cI q5 9 lk, kO r0 5 [.ref r1, .ref r2, vI ct2, vI ru2, vI re2], kI cI r1 8 cap2, kI cI r2 9 wi2] → va_S A s.heap H locs → lv_has ls 3 [(2, vI i), (0, .ref q0), (1, .ref r0)] → W p l e (gR 1 0 0) s m args below meth c H locs 0 0 Q (F0 m 2 ls []) := by
    intro nn
    induction nn using Nat.strongRecOn with
    | ind nn L2i =>
    intro i H locs ls hmeas hi hP hD hS hl
    refine lv_iload_n hx hb dX1_open_2 rfl (lv_at hl 0 rfl) ?_
    refine lv_aload_n hx hb dX1_open_3 rfl (lv_at hl 1 rfl) ?_
    refine va_get (D := dd) (ci := 1) (v := vI sp) (C := RX1) (T := TX1) (N := 10) hx hb hts hi1 hown hK hP 0 rfl rfl 0 (by decide) (hts _ (List.mem_cons_of_mem _ (List.mem_append_left _ (List.mem_append_left _ (List.mem_of_getElem? (i := 0) rfl))))) (fun _ h9 => h9) rfl dX1_open_4 ?_
    refine z_icmp_ge (tgt := 35) hx hb dX1_open_7 (by decide) (by omega) (fun c7 => ?_) (fun c7 => ?_)
    · skip
      refine lv_aload_n hx hb dX1_open_35 rfl (lv_at hl 1 rfl) ?_
      refine lv_aload_n hx hb dX1_open_36 rfl (lv_at hl 2 rfl) ?_
      refine va_get (D := dd) (ci := 5) (v := vI ru2) (C := RX5) (T := TX5) (N := 5) hx hb hts hi5 hown hK hP 6 rfl rfl 3 (by decide) (hts _ (List.mem_cons_of_mem _ (List.mem_append_left _ (List.mem_append_left _ (List.mem_of_getElem? (i := 4) rfl))))) (fun _ h9 => h9) rfl dX1_open_37 ?_
      refine va_put (D := dd) (ci := 1) (v := vI ru2) (ty := .int) (C := RX1) (T := TX1) (N := 10) hx hb hts hi1 tyX1 tyX1_ok nmX1 hown hK hP hD hS 0 rfl rfl 6 (by decide) (hts _ (List.mem_cons_of_mem _ (List.mem_append_left _ (List.mem_append_left _ (List.mem_of_getElem? (i := 5) rfl))))) (fun _ h9 => h9) rfl (by decide +kernel) rfl rfl (Nat.le_of_ble_eq_true rfl) dX1_open_40 (fun H locs hP hD hS => ?_)
      have hP : va_P dd vwCl [kO q0 1 [vI sp, .ref q1, .ref q2, .ref q3, .ref q4, .ref q5, vI ru2, vI re, vI ar, vI fi], kI cI q1 8 (cpZ cap2 cap i), kI cI q2 8 (cpZ zeroZ st i), kI cI q3 9 wi, kI cI q4 9 pl, kI cI q5 9 lk, kO r0 5 [.ref r1, .ref r2, vI ct2, vI ru2, vI re2], kI cI r1 8 cap2, kI cI r2 9 wi2] H := hP
      have hD : va_D A [kO q0 1 [vI sp, .ref q1, .ref q2, .ref q3, .ref q4, .ref q5, vI ru2, vI re, vI ar, vI fi], kI cI q1 8 (cpZ cap2 cap i), kI cI q2 8 (cpZ zeroZ st i), kI cI q3 9 wi, kI cI q4 9 pl, kI cI q5 9 lk, kO r0 5 [.ref r1, .ref r2, vI ct2, vI ru2, vI re2], kI cI r1 8 cap2, kI cI r2 9 wi2] := hD
      refine lv_aload_n hx hb dX1_open_43 rfl (lv_at hl 1 rfl) ?_
      refine lv_aload_n hx hb dX1_open_44 rfl (lv_at hl 2 rfl) ?_
      refine va_get (D := dd) (ci := 5) (v := vI re2) (C := RX5) (T := TX5) (N := 5) hx hb hts hi5 hown hK hP 6 rfl rfl 4 (by decide) (hts _ (List.mem_cons_of_mem _ (List.mem_append_left _ (List.mem_append_left _ (List.mem_of_getElem? (i := 6) rfl))))) (fun _ h9 => h9) rfl dX1_open_45 ?_
      refine va_put (D := dd) (ci := 1) (v := vI re2) (ty := .int) (C := RX1) (T := TX1) (N := 10) hx hb hts hi1 tyX1 tyX1_ok nmX1 hown hK hP hD hS 0 rfl rfl 7 (by decide) (hts _ (List.mem_cons_of_mem _ (List.mem_append_left _ (List.mem_append_left _ (List.mem_of_getElem? (i := 7) rfl))))) (fun _ h9 => h9) rfl (by decide +kernel) rfl rfl (Nat.le_of_ble_eq_true rfl) dX1_open_48 (fun H locs hP hD hS => ?_)
      have hP : va_P dd vwCl [kO q0 1 [vI sp, .ref q1, .ref q2, .ref q3, .ref q4, .ref q5, vI ru2, vI re2, vI ar, vI fi], kI cI q1 8 (cpZ cap2 cap i), kI cI q2 8 (cpZ zeroZ st i), kI cI q3 9 wi, kI cI q4 9 pl, kI cI q5 9 lk, kO r0 5 [.ref r1, .ref r2, vI ct2, vI ru2, vI re2], kI cI r1 8 cap2, kI cI r2 9 wi2] H := hP
      have hD : va_D A [kO q0 1 [vI sp, .ref q1, .ref q2, .ref q3, .ref q4, .ref q5, vI ru2, vI re2, vI ar, vI fi], kI cI q1 8 (cpZ cap2 cap i), kI cI q2 8 (cpZ zeroZ st i), kI cI q3 9 wi, kI cI q4 9 pl, kI cI q5 9 lk, kO r0 5 [.ref r1, .ref r2, vI ct2, vI ru2, vI re2], kI cI r1 8 cap2, kI cI r2 9 wi2] := hD
      refine lv_aload_n hx hb dX1_open_51 rfl (lv_at hl 1 rfl) ?_
      refine z_iconst hx hb dX1_open_52 ?_
      refine va_put (D := dd) (ci := 1) (v := vI 0) (ty := .int) (C := RX1) (T := TX1) (N := 10) hx hb hts hi1 tyX1 tyX1_ok nmX1 hown hK hP hD hS 0 rfl rfl 8 (by decide) (hts _ (List.mem_cons_of_mem _ (List.mem_append_left _ (List.mem_append_left _ (List.mem_of_getElem? (i := 8) rfl))))) (fun _ h9 => h9) rfl (by decide +kernel) rfl rfl (Nat.le_of_ble_eq_true rfl) dX1_open_53 (fun H locs hP hD hS => ?_)
      have hP : va_P dd vwCl [kO q0 1 [vI sp, .ref q1, .ref q2, .ref q3, .ref q4, .ref q5, vI ru2, vI re2, vI 0, vI fi], kI cI q1 8 (cpZ cap2 cap i), kI cI q2 8 (cpZ zeroZ st i), kI cI q3 9 wi, kI cI q4 9 pl, kI cI q5 9 lk, kO r0 5 [.ref r1, .ref r2, vI ct2, vI ru2, vI re2], kI cI r1 8 cap2, kI cI r2 9 wi2] H := hP
      have hD : va_D A [kO q0 1 [vI sp, .ref q1, .ref q2, .ref q3, .ref q4, .ref q5, vI ru2, vI re2, vI 0, vI fi], kI cI q1 8 (cpZ cap2 cap i), kI cI q2 8 (cpZ zeroZ st i), kI cI q3 9 wi, kI cI q4 9 pl, kI cI q5 9 lk, kO r0 5 [.ref r1, .ref r2, vI ct2, vI ru2, vI re2], kI cI r1 8 cap2, kI cI r2 9 wi2] := hD
      refine lv_aload_n hx hb dX1_open_56 rfl (lv_at hl 1 rfl) ?_
      refine z_iconst hx hb dX1_open_57 ?_
      refine va_put (D := dd) (ci := 1) (v := vI 0) (ty := .int) (C := RX1) (T := TX1) (N := 10) hx hb hts hi1 tyX1 tyX1_ok nmX1 hown hK hP hD hS 0 rfl rfl 9 (by decide) (hts _ (List.mem_cons_of_mem _ (List.mem_append_left _ (List.mem_append_left _ (List.mem_of_getElem? (i := 9) rfl))))) (fun _ h9 => h9) rfl (by decide +kernel) rfl rfl (Nat.le_of_ble_eq_true rfl) dX1_open_58 (fun H locs hP hD hS => ?_)
      have hP : va_P dd vwCl [kO q0 1 [vI sp, .ref q1, .ref q2, .ref q3, .ref q4, .ref q5, vI ru2, vI re2, vI 0, vI 0], kI cI q1 8 (cpZ cap2 cap i), kI cI q2 8 (cpZ zeroZ st i), kI cI q3 9 wi, kI cI q4 9 pl, kI cI q5 9 lk, kO r0 5 [.ref r1, .ref r2, vI ct2, vI ru2, vI re2], kI cI r1 8 cap2, kI cI r2 9 wi2] H := hP
      have hD : va_D A [kO q0 1 [vI sp, .ref q1, .ref q2, .ref q3, .ref q4, .ref q5, vI ru2, vI re2, vI 0, vI 0], kI cI q1 8 (cpZ cap2 cap i), kI cI q2 8 (cpZ zeroZ st i), kI cI q3 9 wi, kI cI q4 9 pl, kI cI q5 9 lk, kO r0 5 [.ref r1, .ref r2, vI ct2, vI ru2, vI re2], kI cI r1 8 cap2, kI cI r2 9 wi2] := hD
      have ec_1 : kI cI q1 8 (cpZ cap2 cap i) = kI cI q1 8 (cpZ cap2 cap sp) := kI_congr (by rw [show i = sp by omega])
      rw [ec_1] at hP hD
      have ec_2 : kI cI q2 8 (cpZ zeroZ st i) = kI cI q2 8 (cpZ zeroZ st sp) := kI_congr (by rw [show i = sp by omega])
      rw [ec_2] at hP hD
      subst hQ
      refine z_vret hx hb hr hlocks dX1_open_61 () hK hS ⟨by omega, by omega⟩ hP hD ?_
      first | rfl | trivial | omega
    · skip
      refine lv_aload_n hx hb dX1_open_10 rfl (lv_at hl 1 rfl) ?_
      refine va_get (D := dd) (ci := 1) (v := .ref q1) (C := RX1) (T := TX1) (N := 10) hx hb hts hi1 hown hK hP 0 rfl rfl 1 (by decide) (hts _ (List.mem_cons_of_mem _ (List.mem_append_left _ (List.mem_append_left _ (List.mem_of_getElem? (i := 1) rfl))))) (fun _ h9 => h9) rfl dX1_open_11 ?_
      refine lv_iload_n hx hb dX1_open_14 rfl (lv_at hl 0 rfl) ?_
      refine lv_aload_n hx hb dX1_open_15 rfl (lv_at hl 2 rfl) ?_
      refine va_get (D := dd) (ci := 5) (v := .ref r1) (C := RX5) (T := TX5) (N := 5) hx hb hts hi5 hown hK hP 6 rfl rfl 0 (by decide) (hts _ (List.mem_cons_of_mem _ (List.mem_append_left _ (List.mem_append_left _ (List.mem_of_getElem? (i := 2) rfl))))) (fun _ h9 => h9) rfl dX1_open_16 ?_
      refine lv_iload_n hx hb dX1_open_19 rfl (lv_at hl 0 rfl) ?_
      refine z_iald hx hb hK hP 7 0 rfl rfl (i := i) (by omega) (by decide) dX1_open_20 ?_
      refine z_iast (ws' := [kO q0 1 [vI sp, .ref q1, .ref q2, .ref q3, .ref q4, .ref q5, vI ru, vI re, vI ar, vI fi], kI cI q1 8 (uZ (cpZ cap2 cap i) i (cap2 i)), kI cI q2 8 (cpZ zeroZ st i), kI cI q3 9 wi, kI cI q4 9 pl, kI cI q5 9 lk, kO r0 5 [.ref r1, .ref r2, vI ct2, vI ru2, vI re2], kI cI r1 8 cap2, kI cI r2 9 wi2]) hx hb hK hP hD hS 1 0 rfl rfl (i := i) (x := (cap2 i)) (by omega) (by decide) dX1_open_21 rfl (fun H locs hP hD hS => ?_)
      refine lv_aload_n hx hb dX1_open_22 rfl (lv_at hl 1 rfl) ?_
      refine va_get (D := dd) (ci := 1) (v := .ref q2) (C := RX1) (T := TX1) (N := 10) hx hb hts hi1 hown hK hP 0 rfl rfl 2 (by decide) (hts _ (List.mem_cons_of_mem _ (List.mem_append_left _ (List.mem_append_left _ (List.mem_of_getElem? (i := 3) rfl))))) (fun _ h9 => h9) rfl dX1_open_23 ?_
      refine lv_iload_n hx hb dX1_open_26 rfl (lv_at hl 0 rfl) ?_
      refine z_iconst hx hb dX1_open_27 ?_
      refine z_iast (ws' := [kO q0 1 [vI sp, .ref q1, .ref q2, .ref q3, .ref q4, .ref q5, vI ru, vI re, vI ar, vI fi], kI cI q1 8 (uZ (cpZ cap2 cap i) i (cap2 i)), kI cI q2 8 (uZ (cpZ zeroZ st i) i 0), kI cI q3 9 wi, kI cI q4 9 pl, kI cI q5 9 lk, kO r0 5 [.ref r1, .ref r2, vI ct2, vI ru2, vI re2], kI cI r1 8 cap2, kI cI r2 9 wi2]) hx hb hK hP hD hS 2 0 rfl rfl (i := i) (x := 0) (by omega) (by decide) dX1_open_28 rfl (fun H locs hP hD hS => ?_)
      refine z_iinc (a := i) (z := (i + 1)) (lv' := [(2, vI (i + 1)), (0, .ref q0), (1, .ref r0)]) hx hb dX1_open_29 hl (k := 0) rfl rfl (by decide) rfl (fun ls hl => ?_)
      refine lv_goto (tgt := 2) hx hb dX1_open_32 (by decide) ?_
      have el_3 : kI cI q1 8 (uZ (cpZ cap2 cap i) i (cap2 i)) = kI cI q1 8 (cpZ cap2 cap (i + 1)) := kI_congr (congrArg aZ (cpZ_s cap2 cap i))
      rw [el_3] at hP hD
      have el_4 : kI cI q2 8 (uZ (cpZ zeroZ st i) i 0) = kI cI q2 8 (cpZ zeroZ st (i + 1)) := kI_congr (congrArg aZ (cpZ_s zeroZ st i))
      rw [el_4] at hP hD
      exact L2i _ (by omega) (i + 1) H locs ls rfl (by omega) hP hD hS hl
  have el_5 : kI cI q1 8 cap = kI cI q1 8 (cpZ cap2 cap 0) := kI_congr ((aZ_cp0 cap2 cap).symm)
  rw [el_5] at hP hD
  have el_6 : kI cI q2 8 st = kI cI q2 8 (cpZ zeroZ st 0) := kI_congr ((aZ_cp0 zeroZ st).symm)
  rw [el_6] at hP hD
  exact L2 _ 0 H locs ls rfl (by omega) hP hD hS hl
