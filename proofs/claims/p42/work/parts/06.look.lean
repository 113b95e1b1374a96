set_option maxHeartbeats 4000000 in
set_option maxRecDepth 100000 in
theorem c_X1_parksIn (l : Launch) (dd : va_G) (cI cJ cC cS : ClassId) (q0 q1 q2 q3 q4 q5 : Nat) (sp ru re ar fi : Int) (cap st wi pl lk : Int → Int) (car s0 : Int) (sz : Nat) (hsp : 1 ≤ sp ∧ sp ≤ 8) (hcap : ∀ j : Int, 0 ≤ j → j < sp → 0 ≤ cap j ∧ cap j ≤ 3) (hst : ∀ j : Int, 0 ≤ j → j < sp → 0 ≤ st j ∧ st j ≤ 3) (hcar : 0 ≤ car ∧ car < 9) (hs0 : -100 ≤ s0 ∧ s0 ≤ 100) : gMi l yX1_parksIn wsX1_parksIn 1 0 0 dd cI cJ cC cS [.ref q0, vI car, vI s0] [kO q0 1 [vI sp, .ref q1, .ref q2, .ref q3, .ref q4, .ref q5, vI ru, vI re, vI ar, vI fi], kI cI q1 8 cap, kI cI q2 8 st, kI cI q3 9 wi, kI cI q4 9 pl, kI cI q5 9 lk] sz (fun (z : Int) (u : (Int → Int) × (Int → Int) × (Int → Int) × Int) => ((pv sp cap st [s0]).2 < 0 ∧ z = 0 ∧ u.1 = st ∧ u.2.1 = pl ∧ u.2.2.1 = (uZ lk car (lk car + (pv sp cap st [s0]).1)) ∧ u.2.2.2 = fi) ∨ (0 ≤ (pv sp cap st [s0]).2 ∧ z = 1 ∧ u.1 = (uZ st (pv sp cap st [s0]).2 (st (pv sp cap st [s0]).2 + 1)) ∧ u.2.1 = (uZ pl car (pv sp cap st [s0]).2) ∧ u.2.2.1 = (uZ lk car (lk car + (pv sp cap st [s0]).1)) ∧ u.2.2.2 = (fi + 2 ^ (2 * (pv sp cap st [s0]).2).toNat))) (fun (u : (Int → Int) × (Int → Int) × (Int → Int) × Int) => [kO q0 1 [vI sp, .ref q1, .ref q2, .ref q3, .ref q4, .ref q5, vI ru, vI re, vI ar, vI u.2.2.2], kI cI q1 8 cap, kI cI q2 8 u.1, kI cI q3 9 wi, kI cI q4 9 u.2.1, kI cI q5 9 u.2.2.1]) := by
  refine gMi_of (cc := cX1_parksIn) (maxL := 3) (ret := (some .boolean)) (by decide) rfl (Nat.le_of_ble_eq_true rfl) ?_
  intro p e s m args below meth c A Q hQ hx hb hr hts hown hlocks hnm hml H locs hP hK hD hA hS ls hl
  have hi1 : ∀ w ∈ wsX10, w ∈ wsX1_parksIn := fun _ h => (List.mem_cons_of_mem _ (List.mem_append_right _ h))
  have hl : lv_has ls 3 [(0, .ref q0), (1, vI car), (2, vI s0)] := hl
  refine lv_iload_n hx hb dX1_parksIn_0 rfl (lv_at hl 2 rfl) ?_
  refine z_if_lt (tgt := 12) hx hb dX1_parksIn_1 (by decide) (by omega) (fun c1 => ?_) (fun c1 => ?_)
  · skip
    refine z_iconst hx hb dX1_parksIn_12 ?_
    subst hQ
    refine z_zret (z := 0) hx hb hr hlocks dX1_parksIn_13 (by omega) (st, pl, lk, fi) hK hS ⟨by omega, by omega⟩ hP hD ?_
    exact Or.inl ⟨by rw [pv_out (by omega)]; decide, rfl, rfl, rfl, by rw [pv_out (by omega)]; exact (uZ_self0 lk car).symm, rfl⟩
  · skip
    refine lv_iload_n hx hb dX1_parksIn_4 rfl (lv_at hl 2 rfl) ?_
    refine lv_aload_n hx hb dX1_parksIn_5 rfl (lv_at hl 0 rfl) ?_
    refine va_get (D := dd) (ci := 1) (v := vI sp) (C := RX1) (T := TX1) (N := 10) hx hb hts hi1 hown hK hP 0 rfl rfl 0 (by decide) (hts _ (List.mem_cons_of_mem _ (List.mem_append_left _ (List.mem_of_getElem? (i := 0) rfl)))) (fun _ h9 => h9) rfl dX1_parksIn_6 ?_
    refine z_icmp_lt (tgt := 14) hx hb dX1_parksIn_9 (by decide) (by omega) (fun c9 => ?_) (fun c9 => ?_)
    · skip
      refine lv_aload_n hx hb dX1_parksIn_14 rfl (lv_at hl 0 rfl) ?_
      refine va_get (D := dd) (ci := 1) (v := .ref q5) (C := RX1) (T := TX1) (N := 10) hx hb hts hi1 hown hK hP 0 rfl rfl 5 (by decide) (hts _ (List.mem_cons_of_mem _ (List.mem_append_left _ (List.mem_of_getElem? (i := 1) rfl)))) (fun _ h9 => h9) rfl dX1_parksIn_15 ?_
      refine lv_iload_n hx hb dX1_parksIn_18 rfl (lv_at hl 1 rfl) ?_
      refine lv_dup2_11 hx hb dX1_parksIn_19 rfl rfl ?_
      refine z_iald hx hb hK hP 5 0 rfl rfl (i := car) (by omega) (by decide) dX1_parksIn_20 ?_
      refine z_iconst hx hb dX1_parksIn_21 ?_
      refine z_iadd (z := ((lk car) + 1)) hx hb rfl dX1_parksIn_22 ?_
      refine z_iast (ws' := [kO q0 1 [vI sp, .ref q1, .ref q2, .ref q3, .ref q4, .ref q5, vI ru, vI re, vI ar, vI fi], kI cI q1 8 cap, kI cI q2 8 st, kI cI q3 9 wi, kI cI q4 9 pl, kI cI q5 9 (uZ lk car ((lk car) + 1))]) hx hb hK hP hD hS 5 0 rfl rfl (i := car) (x := ((lk car) + 1)) (by omega) (by decide) dX1_parksIn_23 rfl (fun H locs hP hD hS => ?_)
      refine lv_aload_n hx hb dX1_parksIn_24 rfl (lv_at hl 0 rfl) ?_
      refine va_get (D := dd) (ci := 1) (v := .ref q2) (C := RX1) (T := TX1) (N := 10) hx hb hts hi1 hown hK hP 0 rfl rfl 2 (by decide) (hts _ (List.mem_cons_of_mem _ (List.mem_append_left _ (List.mem_of_getElem? (i := 2) rfl)))) (fun _ h9 => h9) rfl dX1_parksIn_25 ?_
      refine lv_iload_n hx hb dX1_parksIn_28 rfl (lv_at hl 2 rfl) ?_
      refine z_iald hx hb hK hP 2 0 rfl rfl (i := s0) (by omega) (by decide) dX1_parksIn_29 ?_
      have f_1 := hst s0 (by omega) (by omega)
      refine lv_aload_n hx hb dX1_parksIn_30 rfl (lv_at hl 0 rfl) ?_
      refine va_get (D := dd) (ci := 1) (v := .ref q1) (C := RX1) (T := TX1) (N := 10) hx hb hts hi1 hown hK hP 0 rfl rfl 1 (by decide) (hts _ (List.mem_cons_of_mem _ (List.mem_append_left _ (List.mem_of_getElem? (i := 3) rfl)))) (fun _ h9 => h9) rfl dX1_parksIn_31 ?_
      refine lv_iload_n hx hb dX1_parksIn_34 rfl (lv_at hl 2 rfl) ?_
      refine z_iald hx hb hK hP 1 0 rfl rfl (i := s0) (by omega) (by decide) dX1_parksIn_35 ?_
      have f_2 := hcap s0 (by omega) (by omega)
      refine z_icmp_lt (tgt := 41) hx hb dX1_parksIn_36 (by decide) (by omega) (fun c36 => ?_) (fun c36 => ?_)
      · skip
        refine lv_aload_n hx hb dX1_parksIn_41 rfl (lv_at hl 0 rfl) ?_
        refine va_get (D := dd) (ci := 1) (v := .ref q2) (C := RX1) (T := TX1) (N := 10) hx hb hts hi1 hown hK hP 0 rfl rfl 2 (by decide) (hts _ (List.mem_cons_of_mem _ (List.mem_append_left _ (List.mem_of_getElem? (i := 2) rfl)))) (fun _ h9 => h9) rfl dX1_parksIn_42 ?_
        refine lv_iload_n hx hb dX1_parksIn_45 rfl (lv_at hl 2 rfl) ?_
        refine lv_dup2_11 hx hb dX1_parksIn_46 rfl rfl ?_
        refine z_iald hx hb hK hP 2 0 rfl rfl (i := s0) (by omega) (by decide) dX1_parksIn_47 ?_
        have f_3 := hst s0 (by omega) (by omega)
        refine z_iconst hx hb dX1_parksIn_48 ?_
        refine z_iadd (z := ((st s0) + 1)) hx hb rfl dX1_parksIn_49 ?_
        refine z_iast (ws' := [kO q0 1 [vI sp, .ref q1, .ref q2, .ref q3, .ref q4, .ref q5, vI ru, vI re, vI ar, vI fi], kI cI q1 8 cap, kI cI q2 8 (uZ st s0 ((st s0) + 1)), kI cI q3 9 wi, kI cI q4 9 pl, kI cI q5 9 (uZ lk car ((lk car) + 1))]) hx hb hK hP hD hS 2 0 rfl rfl (i := s0) (x := ((st s0) + 1)) (by omega) (by decide) dX1_parksIn_50 rfl (fun H locs hP hD hS => ?_)
        refine lv_aload_n hx hb dX1_parksIn_51 rfl (lv_at hl 0 rfl) ?_
        refine lv_dup hx hb dX1_parksIn_52 rfl ?_
        refine va_get (D := dd) (ci := 1) (v := vI fi) (C := RX1) (T := TX1) (N := 10) hx hb hts hi1 hown hK hP 0 rfl rfl 9 (by decide) (hts _ (List.mem_cons_of_mem _ (List.mem_append_left _ (List.mem_of_getElem? (i := 4) rfl)))) (fun _ h9 => h9) rfl dX1_parksIn_53 ?_
        refine z_iconst hx hb dX1_parksIn_56 ?_
        refine z_iconst hx hb dX1_parksIn_57 ?_
        refine lv_iload_n hx hb dX1_parksIn_58 rfl (lv_at hl 2 rfl) ?_
        refine z_imul (z := (2 * s0)) hx hb rfl dX1_parksIn_59 ?_
        refine z_shl1 (z := (2 ^ (2 * s0).toNat)) hx hb (by omega) rfl dX1_parksIn_60 ?_
        refine z_iadd (z := (fi + (2 ^ (2 * s0).toNat))) hx hb rfl dX1_parksIn_61 ?_
        refine va_put (D := dd) (ci := 1) (v := vI (fi + (2 ^ (2 * s0).toNat))) (ty := .int) (C := RX1) (T := TX1) (N := 10) hx hb hts hi1 tyX1 tyX1_ok nmX1 hown hK hP hD hS 0 rfl rfl 9 (by decide) (hts _ (List.mem_cons_of_mem _ (List.mem_append_left _ (List.mem_of_getElem? (i := 4) rfl)))) (fun _ h9 => h9) rfl (by decide +kernel) rfl rfl (Nat.le_of_ble_eq_true rfl) dX1_parksIn_62 (fun H locs hP hD hS => ?_)
        have hP : va_P dd vwCl [kO q0 1 [vI sp, .ref q1, .ref q2, .ref q3, .ref q4, .ref q5, vI ru, vI re, vI ar, vI (fi + (2 ^ (2 * s0).toNat))], kI cI q1 8 cap, kI cI q2 8 (uZ st s0 ((st s0) + 1)), kI cI q3 9 wi, kI cI q4 9 pl, kI cI q5 9 (uZ lk car ((lk car) + 1))] H := hP
        have hD : va_D A [kO q0 1 [vI sp, .ref q1, .ref q2, .ref q3, .ref q4, .ref q5, vI ru, vI re, vI ar, vI (fi + (2 ^ (2 * s0).toNat))], kI cI q1 8 cap, kI cI q2 8 (uZ st s0 ((st s0) + 1)), kI cI q3 9 wi, kI cI q4 9 pl, kI cI q5 9 (uZ lk car ((lk car) + 1))] := hD
        refine lv_aload_n hx hb dX1_parksIn_65 rfl (lv_at hl 0 rfl) ?_
        refine va_get (D := dd) (ci := 1) (v := .ref q4) (C := RX1) (T := TX1) (N := 10) hx hb hts hi1 hown hK hP 0 rfl rfl 4 (by decide) (hts _ (List.mem_cons_of_mem _ (List.mem_append_left _ (List.mem_of_getElem? (i := 5) rfl)))) (fun _ h9 => h9) rfl dX1_parksIn_66 ?_
        refine lv_iload_n hx hb dX1_parksIn_69 rfl (lv_at hl 1 rfl) ?_
        refine lv_iload_n hx hb dX1_parksIn_70 rfl (lv_at hl 2 rfl) ?_
        refine z_iast (ws' := [kO q0 1 [vI sp, .ref q1, .ref q2, .ref q3, .ref q4, .ref q5, vI ru, vI re, vI ar, vI (fi + (2 ^ (2 * s0).toNat))], kI cI q1 8 cap, kI cI q2 8 (uZ st s0 ((st s0) + 1)), kI cI q3 9 wi, kI cI q4 9 (uZ pl car s0), kI cI q5 9 (uZ lk car ((lk car) + 1))]) hx hb hK hP hD hS 4 0 rfl rfl (i := car) (x := s0) (by omega) (by decide) dX1_parksIn_71 rfl (fun H locs hP hD hS => ?_)
        refine z_iconst hx hb dX1_parksIn_72 ?_
        subst hQ
        refine z_zret (z := 1) hx hb hr hlocks dX1_parksIn_73 (by omega) ((uZ st s0 ((st s0) + 1)), (uZ pl car s0), (uZ lk car ((lk car) + 1)), (fi + (2 ^ (2 * s0).toNat))) hK hS ⟨by omega, by omega⟩ hP hD ?_
        have ee := pv_ok (n := sp) (cap := cap) (st := st) (s := s0) ⟨by omega, by omega⟩ (by omega)
        exact Or.inr ⟨by rw [ee]; show 0 ≤ s0; omega, rfl, by rw [ee], by rw [ee], by rw [ee], by rw [ee]⟩
      · skip
        refine z_iconst hx hb dX1_parksIn_39 ?_
        subst hQ
        refine z_zret (z := 0) hx hb hr hlocks dX1_parksIn_40 (by omega) (st, pl, (uZ lk car ((lk car) + 1)), fi) hK hS ⟨by omega, by omega⟩ hP hD ?_
        exact Or.inl ⟨by rw [pv_full ⟨by omega, by omega⟩ (by omega)]; decide, rfl, rfl, rfl, by rw [pv_full ⟨by omega, by omega⟩ (by omega)], rfl⟩
    · skip
      refine z_iconst hx hb dX1_parksIn_12 ?_
      subst hQ
      refine z_zret (z := 0) hx hb hr hlocks dX1_parksIn_13 (by omega) (st, pl, lk, fi) hK hS ⟨by omega, by omega⟩ hP hD ?_
      exact Or.inl ⟨by rw [pv_out (by omega)]; decide, rfl, rfl, rfl, by rw [pv_out (by omega)]; exact (uZ_self0 lk car).symm, rfl⟩

set_option maxHeartbeats 4000000 in
set_option maxRecDepth 100000 in
theorem c_X1_lookUp (l : Launch) (dd : va_G) (cI cJ cC cS : ClassId) (q0 q1 q2 q3 q4 q5 : Nat) (sp ru re ar fi : Int) (cap st wi pl lk : Int → Int) (car fs la : Int) (sz : Nat) (hsp : 1 ≤ sp ∧ sp ≤ 8) (hcap : ∀ j : Int, 0 ≤ j → j < sp → 0 ≤ cap j ∧ cap j ≤ 3) (hst : ∀ j : Int, 0 ≤ j → j < sp → 0 ≤ st j ∧ st j ≤ 3) (hcar : 0 ≤ car ∧ car < 9) (hfs : -50 ≤ fs ∧ fs ≤ 50 ∧ -50 ≤ la ∧ la ≤ 50) : gMi l yX1_lookUp wsX1_lookUp 2 0 0 dd cI cJ cC cS [.ref q0, vI car, vI fs, vI la] [kO q0 1 [vI sp, .ref q1, .ref q2, .ref q3, .ref q4, .ref q5, vI ru, vI re, vI ar, vI fi], kI cI q1 8 cap, kI cI q2 8 st, kI cI q3 9 wi, kI cI q4 9 pl, kI cI q5 9 lk] sz (fun (z : Int) (u : (Int → Int) × (Int → Int) × (Int → Int) × Int) => ((pv sp cap st (upL fs la)).2 < 0 ∧ z = 0 ∧ u.1 = st ∧ u.2.1 = pl ∧ u.2.2.1 = (uZ lk car (lk car + (pv sp cap st (upL fs la)).1)) ∧ u.2.2.2 = fi) ∨ (0 ≤ (pv sp cap st (upL fs la)).2 ∧ z = 1 ∧ u.1 = (uZ st (pv sp cap st (upL fs la)).2 (st (pv sp cap st (upL fs la)).2 + 1)) ∧ u.2.1 = (uZ pl car (pv sp cap st (upL fs la)).2) ∧ u.2.2.1 = (uZ lk car (lk car + (pv sp cap st (upL fs la)).1)) ∧ u.2.2.2 = (fi + 2 ^ (2 * (pv sp cap st (upL fs la)).2).toNat))) (fun (u : (Int → Int) × (Int → Int) × (Int → Int) × Int) => [kO q0 1 [vI sp, .ref q1, .ref q2, .ref q3, .ref q4, .ref q5, vI ru, vI re, vI ar, vI u.2.2.2], kI cI q1 8 cap, kI cI q2 8 u.1, kI cI q3 9 wi, kI cI q4 9 u.2.1, kI cI q5 9 u.2.2.1]) := by
  refine gMi_of (cc := cX1_lookUp) (maxL := 5) (ret := (some .boolean)) (by decide) rfl (Nat.le_of_ble_eq_true rfl) ?_
  intro p e s m args below meth c A Q hQ hx hb hr hts hown hlocks hnm hml H locs hP hK hD hA hS ls hl
  have hl : lv_has ls 5 [(0, .ref q0), (1, vI car), (2, vI fs), (3, vI la)] := hl
  refine lv_iload_n hx hb dX1_lookUp_0 rfl (lv_at hl 2 rfl) ?_
  refine lv_istore (lv' := [(4, vI fs), (0, .ref q0), (1, vI car), (2, vI fs), (3, vI la)]) hx hb dX1_lookUp_1 hl (by decide) rfl (fun ls hl => ?_)
  have L3 : ∀ (nn : Nat) (i : Int) (k : Int) (H : Heap) (locs : List Loc) (ls : Array Slot), ((la + 1 - i).toNat) = nn → (fs ≤ i ∧ (i ≤ la + 1 ∨ i = fs)) → (k + (pv sp cap st (upL i la)).1 = lk car + (pv sp cap st (upL fs la)).1) → ((pv sp cap st (upL i la)).2 = (pv sp cap st (upL fs la)).2) → va_P dd vwCl [kO q0 1 [vI sp, .ref q1, .ref q2, .ref q3, .ref q4, .ref q5, vI ru, vI re, vI ar, vI fi], kI cI q1 8 cap, kI cI q2 8 st, kI cI q3 9 wi, kI cI q4 9 pl, kI cI q5 9 (uZ lk car k)] H → va_D A [kO q0 1 [vI sp, .ref q1, .ref q2, .ref q3, .ref q4, .ref q5, vI ru, vI re, vI ar, vI fi], kI cI q1 8 cap, kI cI q2 8 st, kI cI q3 9 wi, kI cI q4 9 pl, kI cI q5 9 (uZ lk car k)] → va_S A s.heap H locs → lv_has ls 5 [(4, vI i), (0, .ref q0), (1, vI car), (2, vI fs), (3, vI la)] → W p l e (gR 2 0 0) s m args below meth c H locs 0 0 Q (F0 m 3 ls []) := by
    intro nn
    induction nn using Nat.strongRecOn with
    | ind nn L3i =>
    intro i k H locs ls hmeas hi h1 h2 hP hD hS hl
    refine lv_iload hx hb dX1_lookUp_3 (lv_at hl 0 rfl) ?_
    refine lv_iload_n hx hb dX1_lookUp_5 rfl (lv_at hl 4 rfl) ?_
    refine z_icmp_gt (tgt := 27) hx hb dX1_lookUp_6 (by decide) (by omega) (fun c6 => ?_) (fun c6 => ?_)
    · skip
      refine z_iconst hx hb dX1_lookUp_27 ?_
      subst hQ
      refine z_zret (z := 0) hx hb hr hlocks dX1_lookUp_28 (by omega) (st, pl, (uZ lk car k), fi) hK hS ⟨by omega, by omega⟩ hP hD ?_
      rw [upL_nil (by omega), pv_nil] at h1 h2
      dsimp only at h1 h2
      rw [Int.add_zero] at h1
      exact Or.inl ⟨by omega, rfl, rfl, rfl, by rw [h1], rfl⟩
    · skip
      refine lv_aload_n hx hb dX1_lookUp_9 rfl (lv_at hl 1 rfl) ?_
      refine lv_iload_n hx hb dX1_lookUp_10 rfl (lv_at hl 2 rfl) ?_
      refine lv_iload hx hb dX1_lookUp_11 (lv_at hl 0 rfl) ?_
      refine g_callVi (own := RX1) (n := 2) (mc := 0) (ms := 0) (As := [vI car, vI i]) (rest := []) (wc := [kO q0 1 [vI sp, .ref q1, .ref q2, .ref q3, .ref q4, .ref q5, vI ru, vI re, vI ar, vI fi], kI cI q1 8 cap, kI cI q2 8 st, kI cI q3 9 wi, kI cI q4 9 pl, kI cI q5 9 (uZ lk car k)]) (wr := []) hx hb hml hown hts hK hP hD hS hA [0, 1, 2, 3, 4, 5] [] rfl rfl (by decide) (by decide) 1 0 rfl rfl (c_X1_parksIn l dd cI cJ cC cS q0 q1 q2 q3 q4 q5 sp ru re ar fi cap st wi pl (uZ lk car k) car i H.size (by first | assumption | omega) (by first | assumption | (intro j h0 h1; omega)) (by first | assumption | (intro j h0 h1; omega)) (by first | assumption | omega) (by first | assumption | omega)) gX1_lookUp_X1_parksIn rfl (by decide +kernel) (by decide) (by decide) (by decide) (by decide) rfl hl.1 rfl (Nat.le_of_ble_eq_true rfl) dX1_lookUp_13 (fun z_1 u_2 H locs hp13 hP hD hS => ?_)
      obtain ⟨st1_3, pl1_4, lk1_5, fi1_6⟩ := u_2
      try dsimp only at hp13
      rcases hp13 with ⟨hp13_0, hp13_z, hp13_o0, hp13_o1, hp13_o2, hp13_o3⟩ | ⟨hp13_0, hp13_z, hp13_o0, hp13_o1, hp13_o2, hp13_o3⟩
      · skip
        subst z_1 st1_3 pl1_4 lk1_5 fi1_6
        have hP : va_P dd vwCl [kO q0 1 [vI sp, .ref q1, .ref q2, .ref q3, .ref q4, .ref q5, vI ru, vI re, vI ar, vI fi], kI cI q1 8 cap, kI cI q2 8 st, kI cI q3 9 wi, kI cI q4 9 pl, kI cI q5 9 (uZ (uZ lk car k) car ((uZ lk car k) car + (pv sp cap st [i]).1))] H := hP
        have hD : va_D A [kO q0 1 [vI sp, .ref q1, .ref q2, .ref q3, .ref q4, .ref q5, vI ru, vI re, vI ar, vI fi], kI cI q1 8 cap, kI cI q2 8 st, kI cI q3 9 wi, kI cI q4 9 pl, kI cI q5 9 (uZ (uZ lk car k) car ((uZ lk car k) car + (pv sp cap st [i]).1))] := hD
        have ee := pv_cons_f (r := upL (i + 1) la) hp13_0
        rw [← upL_cons (by omega)] at ee
        rw [ee] at h1 h2
        dsimp only at h1 h2
        refine z_if_eq (tgt := 21) hx hb dX1_lookUp_16 (by decide) (by omega) (fun c16 => ?_) (fun c16 => ?_)
        · skip
          refine z_iinc (a := i) (z := (i + 1)) (lv' := [(4, vI (i + 1)), (0, .ref q0), (1, vI car), (2, vI fs), (3, vI la)]) hx hb dX1_lookUp_21 hl (k := 0) rfl rfl (by decide) rfl (fun ls hl => ?_)
          refine lv_goto (tgt := 3) hx hb dX1_lookUp_24 (by decide) ?_
          have el_7 : kI cI q5 9 (uZ (uZ lk car k) car ((uZ lk car k) car + (pv sp cap st [i]).1)) = kI cI q5 9 (uZ lk car (k + (pv sp cap st [i]).1)) := kI_congr (by rw [uZ_uZ, uZ_same])
          rw [el_7] at hP hD
          exact L3i _ (by omega) (i + 1) (k + (pv sp cap st [i]).1) H locs ls rfl (by omega) (by omega) (h2) hP hD hS hl
        · exact absurd c16 (by omega)
      · skip
        subst z_1 st1_3 pl1_4 lk1_5 fi1_6
        have hP : va_P dd vwCl [kO q0 1 [vI sp, .ref q1, .ref q2, .ref q3, .ref q4, .ref q5, vI ru, vI re, vI ar, vI (fi + 2 ^ (2 * (pv sp cap st [i]).2).toNat)], kI cI q1 8 cap, kI cI q2 8 (uZ st (pv sp cap st [i]).2 (st (pv sp cap st [i]).2 + 1)), kI cI q3 9 wi, kI cI q4 9 (uZ pl car (pv sp cap st [i]).2), kI cI q5 9 (uZ (uZ lk car k) car ((uZ lk car k) car + (pv sp cap st [i]).1))] H := hP
        have hD : va_D A [kO q0 1 [vI sp, .ref q1, .ref q2, .ref q3, .ref q4, .ref q5, vI ru, vI re, vI ar, vI (fi + 2 ^ (2 * (pv sp cap st [i]).2).toNat)], kI cI q1 8 cap, kI cI q2 8 (uZ st (pv sp cap st [i]).2 (st (pv sp cap st [i]).2 + 1)), kI cI q3 9 wi, kI cI q4 9 (uZ pl car (pv sp cap st [i]).2), kI cI q5 9 (uZ (uZ lk car k) car ((uZ lk car k) car + (pv sp cap st [i]).1))] := hD
        have ee := pv_cons_t (r := upL (i + 1) la) hp13_0
        rw [← upL_cons (by omega)] at ee
        rw [ee] at h1 h2
        refine z_if_eq (tgt := 21) hx hb dX1_lookUp_16 (by decide) (by omega) (fun c16 => ?_) (fun c16 => ?_)
        · exact absurd c16 (by omega)
        · skip
          refine z_iconst hx hb dX1_lookUp_19 ?_
          subst hQ
          refine z_zret (z := 1) hx hb hr hlocks dX1_lookUp_20 (by omega) ((uZ st (pv sp cap st [i]).2 (st (pv sp cap st [i]).2 + 1)), (uZ pl car (pv sp cap st [i]).2), (uZ (uZ lk car k) car ((uZ lk car k) car + (pv sp cap st [i]).1)), (fi + 2 ^ (2 * (pv sp cap st [i]).2).toNat)) hK hS ⟨by omega, by omega⟩ hP hD ?_
          exact Or.inr ⟨by omega, rfl, by rw [h2], by rw [h2], by rw [uZ_uZ, uZ_same, h1], by rw [h2]⟩
  have el_8 : kI cI q5 9 lk = kI cI q5 9 (uZ lk car (lk car)) := kI_congr (by rw [uZ_self])
  rw [el_8] at hP hD
  exact L3 _ fs (lk car) H locs ls rfl (by omega) (rfl) (rfl) hP hD hS hl

set_option maxHeartbeats 4000000 in
set_option maxRecDepth 100000 in
theorem c_X1_lookDown (l : Launch) (dd : va_G) (cI cJ cC cS : ClassId) (q0 q1 q2 q3 q4 q5 : Nat) (sp ru re ar fi : Int) (cap st wi pl lk : Int → Int) (car fs la : Int) (sz : Nat) (hsp : 1 ≤ sp ∧ sp ≤ 8) (hcap : ∀ j : Int, 0 ≤ j → j < sp → 0 ≤ cap j ∧ cap j ≤ 3) (hst : ∀ j : Int, 0 ≤ j → j < sp → 0 ≤ st j ∧ st j ≤ 3) (hcar : 0 ≤ car ∧ car < 9) (hfs : -50 ≤ fs ∧ fs ≤ 50 ∧ -50 ≤ la ∧ la ≤ 50) : gMi l yX1_lookDown wsX1_lookDown 2 0 0 dd cI cJ cC cS [.ref q0, vI car, vI fs, vI la] [kO q0 1 [vI sp, .ref q1, .ref q2, .ref q3, .ref q4, .ref q5, vI ru, vI re, vI ar, vI fi], kI cI q1 8 cap, kI cI q2 8 st, kI cI q3 9 wi, kI cI q4 9 pl, kI cI q5 9 lk] sz (fun (z : Int) (u : (Int → Int) × (Int → Int) × (Int → Int) × Int) => ((pv sp cap st (dnL fs la)).2 < 0 ∧ z = 0 ∧ u.1 = st ∧ u.2.1 = pl ∧ u.2.2.1 = (uZ lk car (lk car + (pv sp cap st (dnL fs la)).1)) ∧ u.2.2.2 = fi) ∨ (0 ≤ (pv sp cap st (dnL fs la)).2 ∧ z = 1 ∧ u.1 = (uZ st (pv sp cap st (dnL fs la)).2 (st (pv sp cap st (dnL fs la)).2 + 1)) ∧ u.2.1 = (uZ pl car (pv sp cap st (dnL fs la)).2) ∧ u.2.2.1 = (uZ lk car (lk car + (pv sp cap st (dnL fs la)).1)) ∧ u.2.2.2 = (fi + 2 ^ (2 * (pv sp cap st (dnL fs la)).2).toNat))) (fun (u : (Int → Int) × (Int → Int) × (Int → Int) × Int) => [kO q0 1 [vI sp, .ref q1, .ref q2, .ref q3, .ref q4, .ref q5, vI ru, vI re, vI ar, vI u.2.2.2], kI cI q1 8 cap, kI cI q2 8 u.1, kI cI q3 9 wi, kI cI q4 9 u.2.1, kI cI q5 9 u.2.2.1]) := by
  refine gMi_of (cc := cX1_lookDown) (maxL := 5) (ret := (some .boolean)) (by decide) rfl (Nat.le_of_ble_eq_true rfl) ?_
  intro p e s m args below meth c A Q hQ hx hb hr hts hown hlocks hnm hml H locs hP hK hD hA hS ls hl
  have hl : lv_has ls 5 [(0, .ref q0), (1, vI car), (2, vI fs), (3, vI la)] := hl
  refine lv_iload_n hx hb dX1_lookDown_0 rfl (lv_at hl 2 rfl) ?_
  refine lv_istore (lv' := [(4, vI fs), (0, .ref q0), (1, vI car), (2, vI fs), (3, vI la)]) hx hb dX1_lookDown_1 hl (by decide) rfl (fun ls hl => ?_)
  have L3 : ∀ (nn : Nat) (i : Int) (k : Int) (H : Heap) (locs : List Loc) (ls : Array Slot), ((i + 1 - la).toNat) = nn → (i ≤ fs ∧ (la - 1 ≤ i ∨ i = fs)) → (k + (pv sp cap st (dnL i la)).1 = lk car + (pv sp cap st (dnL fs la)).1) → ((pv sp cap st (dnL i la)).2 = (pv sp cap st (dnL fs la)).2) → va_P dd vwCl [kO q0 1 [vI sp, .ref q1, .ref q2, .ref q3, .ref q4, .ref q5, vI ru, vI re, vI ar, vI fi], kI cI q1 8 cap, kI cI q2 8 st, kI cI q3 9 wi, kI cI q4 9 pl, kI cI q5 9 (uZ lk car k)] H → va_D A [kO q0 1 [vI sp, .ref q1, .ref q2, .ref q3, .ref q4, .ref q5, vI ru, vI re, vI ar, vI fi], kI cI q1 8 cap, kI cI q2 8 st, kI cI q3 9 wi, kI cI q4 9 pl, kI cI q5 9 (uZ lk car k)] → va_S A s.heap H locs → lv_has ls 5 [(4, vI i), (0, .ref q0), (1, vI car), (2, vI fs), (3, vI la)] → W p l e (gR 2 0 0) s m args below meth c H locs 0 0 Q (F0 m 3 ls []) := by
    intro nn
    induction nn using Nat.strongRecOn with
    | ind nn L3i =>
    intro i k H locs ls hmeas hi h1 h2 hP hD hS hl
    refine lv_iload hx hb dX1_lookDown_3 (lv_at hl 0 rfl) ?_
    refine lv_iload_n hx hb dX1_lookDown_5 rfl (lv_at hl 4 rfl) ?_
    refine z_icmp_lt (tgt := 27) hx hb dX1_lookDown_6 (by decide) (by omega) (fun c6 => ?_) (fun c6 => ?_)
    · skip
      refine z_iconst hx hb dX1_lookDown_27 ?_
      subst hQ
      refine z_zret (z := 0) hx hb hr hlocks dX1_lookDown_28 (by omega) (st, pl, (uZ lk car k), fi) hK hS ⟨by omega, by omega⟩ hP hD ?_
      rw [dnL_nil (by omega), pv_nil] at h1 h2
      dsimp only at h1 h2
      rw [Int.add_zero] at h1
      exact Or.inl ⟨by omega, rfl, rfl, rfl, by rw [h1], rfl⟩
    · skip
      refine lv_aload_n hx hb dX1_lookDown_9 rfl (lv_at hl 1 rfl) ?_
      refine lv_iload_n hx hb dX1_lookDown_10 rfl (lv_at hl 2 rfl) ?_
      refine lv_iload hx hb dX1_lookDown_11 (lv_at hl 0 rfl) ?_
      refine g_callVi (own := RX1) (n := 2) (mc := 0) (ms := 0) (As := [vI car, vI i]) (rest := []) (wc := [kO q0 1 [vI sp, .ref q1, .ref q2, .ref q3, .ref q4, .ref q5, vI ru, vI re, vI ar, vI fi], kI cI q1 8 cap, kI cI q2 8 st, kI cI q3 9 wi, kI cI q4 9 pl, kI cI q5 9 (uZ lk car k)]) (wr := []) hx hb hml hown hts hK hP hD hS hA [0, 1, 2, 3, 4, 5] [] rfl rfl (by decide) (by decide) 1 0 rfl rfl (c_X1_parksIn l dd cI cJ cC cS q0 q1 q2 q3 q4 q5 sp ru re ar fi cap st wi pl (uZ lk car k) car i H.size (by first | assumption | omega) (by first | assumption | (intro j h0 h1; omega)) (by first | assumption | (intro j h0 h1; omega)) (by first | assumption | omega) (by first | assumption | omega)) gX1_lookDown_X1_parksIn rfl (by decide +kernel) (by decide) (by decide) (by decide) (by decide) rfl hl.1 rfl (Nat.le_of_ble_eq_true rfl) dX1_lookDown_13 (fun z_1 u_2 H locs hp13 hP hD hS => ?_)
      obtain ⟨st1_3, pl1_4, lk1_5, fi1_6⟩ := u_2
      try dsimp only at hp13
      rcases hp13 with ⟨hp13_0, hp13_z, hp13_o0, hp13_o1, hp13_o2, hp13_o3⟩ | ⟨hp13_0, hp13_z, hp13_o0, hp13_o1, hp13_o2, hp13_o3⟩
      · skip
        subst z_1 st1_3 pl1_4 lk1_5 fi1_6
        have hP : va_P dd vwCl [kO q0 1 [vI sp, .ref q1, .ref q2, .ref q3, .ref q4, .ref q5, vI ru, vI re, vI ar, vI fi], kI cI q1 8 cap, kI cI q2 8 st, kI cI q3 9 wi, kI cI q4 9 pl, kI cI q5 9 (uZ (uZ lk car k) car ((uZ lk car k) car + (pv sp cap st [i]).1))] H := hP
        have hD : va_D A [kO q0 1 [vI sp, .ref q1, .ref q2, .ref q3, .ref q4, .ref q5, vI ru, vI re, vI ar, vI fi], kI cI q1 8 cap, kI cI q2 8 st, kI cI q3 9 wi, kI cI q4 9 pl, kI cI q5 9 (uZ (uZ lk car k) car ((uZ lk car k) car + (pv sp cap st [i]).1))] := hD
        have ee := pv_cons_f (r := dnL (i - 1) la) hp13_0
        rw [← dnL_cons (by omega)] at ee
        rw [ee] at h1 h2
        dsimp only at h1 h2
        refine z_if_eq (tgt := 21) hx hb dX1_lookDown_16 (by decide) (by omega) (fun c16 => ?_) (fun c16 => ?_)
        · skip
          refine z_iinc (a := i) (z := (i - 1)) (lv' := [(4, vI (i - 1)), (0, .ref q0), (1, vI car), (2, vI fs), (3, vI la)]) hx hb dX1_lookDown_21 hl (k := 0) rfl (by omega) (by decide) rfl (fun ls hl => ?_)
          refine lv_goto (tgt := 3) hx hb dX1_lookDown_24 (by decide) ?_
          have el_7 : kI cI q5 9 (uZ (uZ lk car k) car ((uZ lk car k) car + (pv sp cap st [i]).1)) = kI cI q5 9 (uZ lk car (k + (pv sp cap st [i]).1)) := kI_congr (by rw [uZ_uZ, uZ_same])
          rw [el_7] at hP hD
          exact L3i _ (by omega) (i - 1) (k + (pv sp cap st [i]).1) H locs ls rfl (by omega) (by omega) (h2) hP hD hS hl
        · exact absurd c16 (by omega)
      · skip
        subst z_1 st1_3 pl1_4 lk1_5 fi1_6
        have hP : va_P dd vwCl [kO q0 1 [vI sp, .ref q1, .ref q2, .ref q3, .ref q4, .ref q5, vI ru, vI re, vI ar, vI (fi + 2 ^ (2 * (pv sp cap st [i]).2).toNat)], kI cI q1 8 cap, kI cI q2 8 (uZ st (pv sp cap st [i]).2 (st (pv sp cap st [i]).2 + 1)), kI cI q3 9 wi, kI cI q4 9 (uZ pl car (pv sp cap st [i]).2), kI cI q5 9 (uZ (uZ lk car k) car ((uZ lk car k) car + (pv sp cap st [i]).1))] H := hP
        have hD : va_D A [kO q0 1 [vI sp, .ref q1, .ref q2, .ref q3, .ref q4, .ref q5, vI ru, vI re, vI ar, vI (fi + 2 ^ (2 * (pv sp cap st [i]).2).toNat)], kI cI q1 8 cap, kI cI q2 8 (uZ st (pv sp cap st [i]).2 (st (pv sp cap st [i]).2 + 1)), kI cI q3 9 wi, kI cI q4 9 (uZ pl car (pv sp cap st [i]).2), kI cI q5 9 (uZ (uZ lk car k) car ((uZ lk car k) car + (pv sp cap st [i]).1))] := hD
        have ee := pv_cons_t (r := dnL (i - 1) la) hp13_0
        rw [← dnL_cons (by omega)] at ee
        rw [ee] at h1 h2
        refine z_if_eq (tgt := 21) hx hb dX1_lookDown_16 (by decide) (by omega) (fun c16 => ?_) (fun c16 => ?_)
        · exact absurd c16 (by omega)
        · skip
          refine z_iconst hx hb dX1_lookDown_19 ?_
          subst hQ
          refine z_zret (z := 1) hx hb hr hlocks dX1_lookDown_20 (by omega) ((uZ st (pv sp cap st [i]).2 (st (pv sp cap st [i]).2 + 1)), (uZ pl car (pv sp cap st [i]).2), (uZ (uZ lk car k) car ((uZ lk car k) car + (pv sp cap st [i]).1)), (fi + 2 ^ (2 * (pv sp cap st [i]).2).toNat)) hK hS ⟨by omega, by omega⟩ hP hD ?_
          exact Or.inr ⟨by omega, rfl, by rw [h2], by rw [h2], by rw [uZ_uZ, uZ_same, h1], by rw [h2]⟩
  have el_8 : kI cI q5 9 lk = kI cI q5 9 (uZ lk car (lk car)) := kI_congr (by rw [uZ_self])
  rw [el_8] at hP hD
  exact L3 _ fs (lk car) H locs ls rfl (by omega) (rfl) (rfl) hP hD hS hl

set_option maxHeartbeats 4000000 in
set_option maxRecDepth 100000 in
theorem c_X1_lookAround (l : Launch) (dd : va_G) (cI cJ cC cS : ClassId) (q0 q1 q2 q3 q4 q5 : Nat) (sp ru re ar fi : Int) (cap st wi pl lk : Int → Int) (car mi : Int) (sz : Nat) (hsp : 1 ≤ sp ∧ sp ≤ 8) (hcap : ∀ j : Int, 0 ≤ j → j < sp → 0 ≤ cap j ∧ cap j ≤ 3) (hst : ∀ j : Int, 0 ≤ j → j < sp → 0 ≤ st j ∧ st j ≤ 3) (hcar : 0 ≤ car ∧ car < 9) (hre : 0 ≤ re ∧ re ≤ 8) (hmi : 0 ≤ mi ∧ mi ≤ 20) : gMi l yX1_lookAround wsX1_lookAround 2 0 0 dd cI cJ cC cS [.ref q0, vI car, vI mi] [kO q0 1 [vI sp, .ref q1, .ref q2, .ref q3, .ref q4, .ref q5, vI ru, vI re, vI ar, vI fi], kI cI q1 8 cap, kI cI q2 8 st, kI cI q3 9 wi, kI cI q4 9 pl, kI cI q5 9 lk] sz (fun (z : Int) (u : (Int → Int) × (Int → Int) × (Int → Int) × Int) => ((pv sp cap st (mi :: arL mi 1 re)).2 < 0 ∧ z = 0 ∧ u.1 = st ∧ u.2.1 = pl ∧ u.2.2.1 = (uZ lk car (lk car + (pv sp cap st (mi :: arL mi 1 re)).1)) ∧ u.2.2.2 = fi) ∨ (0 ≤ (pv sp cap st (mi :: arL mi 1 re)).2 ∧ z = 1 ∧ u.1 = (uZ st (pv sp cap st (mi :: arL mi 1 re)).2 (st (pv sp cap st (mi :: arL mi 1 re)).2 + 1)) ∧ u.2.1 = (uZ pl car (pv sp cap st (mi :: arL mi 1 re)).2) ∧ u.2.2.1 = (uZ lk car (lk car + (pv sp cap st (mi :: arL mi 1 re)).1)) ∧ u.2.2.2 = (fi + 2 ^ (2 * (pv sp cap st (mi :: arL mi 1 re)).2).toNat))) (fun (u : (Int → Int) × (Int → Int) × (Int → Int) × Int) => [kO q0 1 [vI sp, .ref q1, .ref q2, .ref q3, .ref q4, .ref q5, vI ru, vI re, vI ar, vI u.2.2.2], kI cI q1 8 cap, kI cI q2 8 u.1, kI cI q3 9 wi, kI cI q4 9 u.2.1, kI cI q5 9 u.2.2.1]) := by
  refine gMi_of (cc := cX1_lookAround) (maxL := 4) (ret := (some .boolean)) (by decide) rfl (Nat.le_of_ble_eq_true rfl) ?_
  intro p e s m args below meth c A Q hQ hx hb hr hts hown hlocks hnm hml H locs hP hK hD hA hS ls hl
  have hi1 : ∀ w ∈ wsX10, w ∈ wsX1_lookAround := fun _ h => (List.mem_cons_of_mem _ (List.mem_append_right _ h))
  have hl : lv_has ls 4 [(0, .ref q0), (1, vI car), (2, vI mi)] := hl
  refine lv_aload_n hx hb dX1_lookAround_0 rfl (lv_at hl 0 rfl) ?_
  refine lv_iload_n hx hb dX1_lookAround_1 rfl (lv_at hl 1 rfl) ?_
  refine lv_iload_n hx hb dX1_lookAround_2 rfl (lv_at hl 2 rfl) ?_
  refine g_callVi (own := RX1) (n := 2) (mc := 0) (ms := 0) (As := [vI car, vI mi]) (rest := []) (wc := [kO q0 1 [vI sp, .ref q1, .ref q2, .ref q3, .ref q4, .ref q5, vI ru, vI re, vI ar, vI fi], kI cI q1 8 cap, kI cI q2 8 st, kI cI q3 9 wi, kI cI q4 9 pl, kI cI q5 9 lk]) (wr := []) hx hb hml hown hts hK hP hD hS hA [0, 1, 2, 3, 4, 5] [] rfl rfl (by decide) (by decide) 1 0 rfl rfl (c_X1_parksIn l dd cI cJ cC cS q0 q1 q2 q3 q4 q5 sp ru re ar fi cap st wi pl lk car mi H.size (by first | assumption | omega) (by first | assumption | (intro j h0 h1; omega)) (by first | assumption | (intro j h0 h1; omega)) (by first | assumption | omega) (by first | assumption | omega)) gX1_lookAround_X1_parksIn rfl (by decide +kernel) (by decide) (by decide) (by decide) (by decide) rfl hl.1 rfl (Nat.le_of_ble_eq_true rfl) dX1_lookAround_3 (fun z_1 u_2 H locs hp3 hP hD hS => ?_)
  obtain ⟨st1_3, pl1_4, lk1_5, fi1_6⟩ := u_2
  try dsimp only at hp3
  rcases hp3 with ⟨hp3_0, hp3_z, hp3_o0, hp3_o1, hp3_o2, hp3_o3⟩ | ⟨hp3_0, hp3_z, hp3_o0, hp3_o1, hp3_o2, hp3_o3⟩
  · skip
    subst z_1 st1_3 pl1_4 lk1_5 fi1_6
    have hP : va_P dd vwCl [kO q0 1 [vI sp, .ref q1, .ref q2, .ref q3, .ref q4, .ref q5, vI ru, vI re, vI ar, vI fi], kI cI q1 8 cap, kI cI q2 8 st, kI cI q3 9 wi, kI cI q4 9 pl, kI cI q5 9 (uZ lk car (lk car + (pv sp cap st [mi]).1))] H := hP
    have hD : va_D A [kO q0 1 [vI sp, .ref q1, .ref q2, .ref q3, .ref q4, .ref q5, vI ru, vI re, vI ar, vI fi], kI cI q1 8 cap, kI cI q2 8 st, kI cI q3 9 wi, kI cI q4 9 pl, kI cI q5 9 (uZ lk car (lk car + (pv sp cap st [mi]).1))] := hD
    refine z_if_eq (tgt := 11) hx hb dX1_lookAround_6 (by decide) (by omega) (fun c6 => ?_) (fun c6 => ?_)
    · skip
      refine z_iconst hx hb dX1_lookAround_11 ?_
      refine lv_istore_n (lv' := [(3, vI 1), (0, .ref q0), (1, vI car), (2, vI mi)]) hx hb dX1_lookAround_12 rfl hl (by decide) rfl (fun ls hl => ?_)
      have L13 : ∀ (nn : Nat) (d : Int) (k : Int) (H : Heap) (locs : List Loc) (ls : Array Slot), ((re + 1 - d).toNat) = nn → (1 ≤ d ∧ d ≤ re + 1) → (k + (pv sp cap st (arL mi d re)).1 = lk car + (pv sp cap st (mi :: arL mi 1 re)).1) → ((pv sp cap st (arL mi d re)).2 = (pv sp cap st (mi :: arL mi 1 re)).2) → va_P dd vwCl [kO q0 1 [vI sp, .ref q1, .ref q2, .ref q3, .ref q4, .ref q5, vI ru, vI re, vI ar, vI fi], kI cI q1 8 cap, kI cI q2 8 st, kI cI q3 9 wi, kI cI q4 9 pl, kI cI q5 9 (uZ lk car k)] H → va_D A [kO q0 1 [vI sp, .ref q1, .ref q2, .ref q3, .ref q4, .ref q5, vI ru, vI re, vI ar, vI fi], kI cI q1 8 cap, kI cI q2 8 st, kI cI q3 9 wi, kI cI q4 9 pl, kI cI q5 9 (uZ lk car k)] → va_S A s.heap H locs → lv_has ls 4 [(3, vI d), (0, .ref q0), (1, vI car), (2, vI mi)] → W p l e (gR 2 0 0) s m args below meth c H locs 0 0 Q (F0 m 13 ls []) := by
        intro nn
        induction nn using Nat.strongRecOn with
        | ind nn L13i =>
        intro d k H locs ls hmeas hd h1 h2 hP hD hS hl
        refine lv_iload_n hx hb dX1_lookAround_13 rfl (lv_at hl 0 rfl) ?_
        refine lv_aload_n hx hb dX1_lookAround_14 rfl (lv_at hl 1 rfl) ?_
        refine va_get (D := dd) (ci := 1) (v := vI re) (C := RX1) (T := TX1) (N := 10) hx hb hts hi1 hown hK hP 0 rfl rfl 7 (by decide) (hts _ (List.mem_cons_of_mem _ (List.mem_append_left _ (List.mem_of_getElem? (i := 0) rfl)))) (fun _ h9 => h9) rfl dX1_lookAround_15 ?_
        refine z_icmp_gt (tgt := 51) hx hb dX1_lookAround_18 (by decide) (by omega) (fun c18 => ?_) (fun c18 => ?_)
        · skip
          refine z_iconst hx hb dX1_lookAround_51 ?_
          subst hQ
          refine z_zret (z := 0) hx hb hr hlocks dX1_lookAround_52 (by omega) (st, pl, (uZ lk car k), fi) hK hS ⟨by omega, by omega⟩ hP hD ?_
          rw [arL_nil (by omega), pv_nil] at h1 h2
          dsimp only at h1 h2
          rw [Int.add_zero] at h1
          exact Or.inl ⟨by omega, rfl, rfl, rfl, by rw [h1], rfl⟩
        · skip
          refine lv_aload_n hx hb dX1_lookAround_21 rfl (lv_at hl 1 rfl) ?_
          refine lv_iload_n hx hb dX1_lookAround_22 rfl (lv_at hl 2 rfl) ?_
          refine lv_iload_n hx hb dX1_lookAround_23 rfl (lv_at hl 3 rfl) ?_
          refine lv_iload_n hx hb dX1_lookAround_24 rfl (lv_at hl 0 rfl) ?_
          refine z_isub (z := (mi - d)) hx hb rfl dX1_lookAround_25 ?_
          refine g_callVi (own := RX1) (n := 2) (mc := 0) (ms := 0) (As := [vI car, vI (mi - d)]) (rest := []) (wc := [kO q0 1 [vI sp, .ref q1, .ref q2, .ref q3, .ref q4, .ref q5, vI ru, vI re, vI ar, vI fi], kI cI q1 8 cap, kI cI q2 8 st, kI cI q3 9 wi, kI cI q4 9 pl, kI cI q5 9 (uZ lk car k)]) (wr := []) hx hb hml hown hts hK hP hD hS hA [0, 1, 2, 3, 4, 5] [] rfl rfl (by decide) (by decide) 1 0 rfl rfl (c_X1_parksIn l dd cI cJ cC cS q0 q1 q2 q3 q4 q5 sp ru re ar fi cap st wi pl (uZ lk car k) car (mi - d) H.size (by first | assumption | omega) (by first | assumption | (intro j h0 h1; omega)) (by first | assumption | (intro j h0 h1; omega)) (by first | assumption | omega) (by first | assumption | omega)) gX1_lookAround_X1_parksIn rfl (by decide +kernel) (by decide) (by decide) (by decide) (by decide) rfl hl.1 rfl (Nat.le_of_ble_eq_true rfl) dX1_lookAround_26 (fun z_7 u_8 H locs hp26 hP hD hS => ?_)
          obtain ⟨st1_9, pl1_10, lk1_11, fi1_12⟩ := u_8
          try dsimp only at hp26
          rcases hp26 with ⟨hp26_0, hp26_z, hp26_o0, hp26_o1, hp26_o2, hp26_o3⟩ | ⟨hp26_0, hp26_z, hp26_o0, hp26_o1, hp26_o2, hp26_o3⟩
          · skip
            subst z_7 st1_9 pl1_10 lk1_11 fi1_12
            have hP : va_P dd vwCl [kO q0 1 [vI sp, .ref q1, .ref q2, .ref q3, .ref q4, .ref q5, vI ru, vI re, vI ar, vI fi], kI cI q1 8 cap, kI cI q2 8 st, kI cI q3 9 wi, kI cI q4 9 pl, kI cI q5 9 (uZ (uZ lk car k) car ((uZ lk car k) car + (pv sp cap st [(mi - d)]).1))] H := hP
            have hD : va_D A [kO q0 1 [vI sp, .ref q1, .ref q2, .ref q3, .ref q4, .ref q5, vI ru, vI re, vI ar, vI fi], kI cI q1 8 cap, kI cI q2 8 st, kI cI q3 9 wi, kI cI q4 9 pl, kI cI q5 9 (uZ (uZ lk car k) car ((uZ lk car k) car + (pv sp cap st [(mi - d)]).1))] := hD
            have ee := pv_cons_f (r := (mi + d) :: arL mi (d + 1) re) hp26_0
            refine z_if_ne (tgt := 43) hx hb dX1_lookAround_29 (by decide) (by omega) (fun c29 => ?_) (fun c29 => ?_)
            · exact absurd c29 (by omega)
            · skip
              refine lv_aload_n hx hb dX1_lookAround_32 rfl (lv_at hl 1 rfl) ?_
              refine lv_iload_n hx hb dX1_lookAround_33 rfl (lv_at hl 2 rfl) ?_
              refine lv_iload_n hx hb dX1_lookAround_34 rfl (lv_at hl 3 rfl) ?_
              refine lv_iload_n hx hb dX1_lookAround_35 rfl (lv_at hl 0 rfl) ?_
              refine z_iadd (z := (mi + d)) hx hb rfl dX1_lookAround_36 ?_
              refine g_callVi (own := RX1) (n := 2) (mc := 0) (ms := 0) (As := [vI car, vI (mi + d)]) (rest := []) (wc := [kO q0 1 [vI sp, .ref q1, .ref q2, .ref q3, .ref q4, .ref q5, vI ru, vI re, vI ar, vI fi], kI cI q1 8 cap, kI cI q2 8 st, kI cI q3 9 wi, kI cI q4 9 pl, kI cI q5 9 (uZ (uZ lk car k) car ((uZ lk car k) car + (pv sp cap st [(mi - d)]).1))]) (wr := []) hx hb hml hown hts hK hP hD hS hA [0, 1, 2, 3, 4, 5] [] rfl rfl (by decide) (by decide) 1 0 rfl rfl (c_X1_parksIn l dd cI cJ cC cS q0 q1 q2 q3 q4 q5 sp ru re ar fi cap st wi pl (uZ (uZ lk car k) car ((uZ lk car k) car + (pv sp cap st [(mi - d)]).1)) car (mi + d) H.size (by first | assumption | omega) (by first | assumption | (intro j h0 h1; omega)) (by first | assumption | (intro j h0 h1; omega)) (by first | assumption | omega) (by first | assumption | omega)) gX1_lookAround_X1_parksIn rfl (by decide +kernel) (by decide) (by decide) (by decide) (by decide) rfl hl.1 rfl (Nat.le_of_ble_eq_true rfl) dX1_lookAround_37 (fun z_13 u_14 H locs hp37 hP hD hS => ?_)
              obtain ⟨st1_15, pl1_16, lk1_17, fi1_18⟩ := u_14
              try dsimp only at hp37
              rcases hp37 with ⟨hp37_0, hp37_z, hp37_o0, hp37_o1, hp37_o2, hp37_o3⟩ | ⟨hp37_0, hp37_z, hp37_o0, hp37_o1, hp37_o2, hp37_o3⟩
              · skip
                subst z_13 st1_15 pl1_16 lk1_17 fi1_18
                have hP : va_P dd vwCl [kO q0 1 [vI sp, .ref q1, .ref q2, .ref q3, .ref q4, .ref q5, vI ru, vI re, vI ar, vI fi], kI cI q1 8 cap, kI cI q2 8 st, kI cI q3 9 wi, kI cI q4 9 pl, kI cI q5 9 (uZ (uZ (uZ lk car k) car ((uZ lk car k) car + (pv sp cap st [(mi - d)]).1)) car ((uZ (uZ lk car k) car ((uZ lk car k) car + (pv sp cap st [(mi - d)]).1)) car + (pv sp cap st [(mi + d)]).1))] H := hP
                have hD : va_D A [kO q0 1 [vI sp, .ref q1, .ref q2, .ref q3, .ref q4, .ref q5, vI ru, vI re, vI ar, vI fi], kI cI q1 8 cap, kI cI q2 8 st, kI cI q3 9 wi, kI cI q4 9 pl, kI cI q5 9 (uZ (uZ (uZ lk car k) car ((uZ lk car k) car + (pv sp cap st [(mi - d)]).1)) car ((uZ (uZ lk car k) car ((uZ lk car k) car + (pv sp cap st [(mi - d)]).1)) car + (pv sp cap st [(mi + d)]).1))] := hD
                have ee2 := pv_cons_f (r := arL mi (d + 1) re) hp37_0
                rw [ee2] at ee
                rw [← arL_cons (by omega)] at ee
                rw [ee] at h1 h2
                dsimp only at h1 h2
                refine z_if_eq (tgt := 45) hx hb dX1_lookAround_40 (by decide) (by omega) (fun c40 => ?_) (fun c40 => ?_)
                · skip
                  refine z_iinc (a := d) (z := (d + 1)) (lv' := [(3, vI (d + 1)), (0, .ref q0), (1, vI car), (2, vI mi)]) hx hb dX1_lookAround_45 hl (k := 0) rfl rfl (by decide) rfl (fun ls hl => ?_)
                  refine lv_goto (tgt := 13) hx hb dX1_lookAround_48 (by decide) ?_
                  have el_19 : kI cI q5 9 (uZ (uZ (uZ lk car k) car ((uZ lk car k) car + (pv sp cap st [(mi - d)]).1)) car ((uZ (uZ lk car k) car ((uZ lk car k) car + (pv sp cap st [(mi - d)]).1)) car + (pv sp cap st [(mi + d)]).1)) = kI cI q5 9 (uZ lk car (k + (pv sp cap st [(mi - d)]).1 + (pv sp cap st [(mi + d)]).1)) := kI_congr (by rw [uZ_uZ, uZ_same, uZ_uZ, uZ_same])
                  rw [el_19] at hP hD
                  exact L13i _ (by omega) (d + 1) (k + (pv sp cap st [(mi - d)]).1 + (pv sp cap st [(mi + d)]).1) H locs ls rfl (by omega) (by omega) (h2) hP hD hS hl
                · exact absurd c40 (by omega)
              · skip
                subst z_13 st1_15 pl1_16 lk1_17 fi1_18
                have hP : va_P dd vwCl [kO q0 1 [vI sp, .ref q1, .ref q2, .ref q3, .ref q4, .ref q5, vI ru, vI re, vI ar, vI (fi + 2 ^ (2 * (pv sp cap st [(mi + d)]).2).toNat)], kI cI q1 8 cap, kI cI q2 8 (uZ st (pv sp cap st [(mi + d)]).2 (st (pv sp cap st [(mi + d)]).2 + 1)), kI cI q3 9 wi, kI cI q4 9 (uZ pl car (pv sp cap st [(mi + d)]).2), kI cI q5 9 (uZ (uZ (uZ lk car k) car ((uZ lk car k) car + (pv sp cap st [(mi - d)]).1)) car ((uZ (uZ lk car k) car ((uZ lk car k) car + (pv sp cap st [(mi - d)]).1)) car + (pv sp cap st [(mi + d)]).1))] H := hP
                have hD : va_D A [kO q0 1 [vI sp, .ref q1, .ref q2, .ref q3, .ref q4, .ref q5, vI ru, vI re, vI ar, vI (fi + 2 ^ (2 * (pv sp cap st [(mi + d)]).2).toNat)], kI cI q1 8 cap, kI cI q2 8 (uZ st (pv sp cap st [(mi + d)]).2 (st (pv sp cap st [(mi + d)]).2 + 1)), kI cI q3 9 wi, kI cI q4 9 (uZ pl car (pv sp cap st [(mi + d)]).2), kI cI q5 9 (uZ (uZ (uZ lk car k) car ((uZ lk car k) car + (pv sp cap st [(mi - d)]).1)) car ((uZ (uZ lk car k) car ((uZ lk car k) car + (pv sp cap st [(mi - d)]).1)) car + (pv sp cap st [(mi + d)]).1))] := hD
                have ee2 := pv_cons_t (r := arL mi (d + 1) re) hp37_0
                rw [ee2] at ee
                rw [← arL_cons (by omega)] at ee
                rw [ee] at h1 h2
                dsimp only at h1 h2
                refine z_if_eq (tgt := 45) hx hb dX1_lookAround_40 (by decide) (by omega) (fun c40 => ?_) (fun c40 => ?_)
                · exact absurd c40 (by omega)
                · skip
                  refine z_iconst hx hb dX1_lookAround_43 ?_
                  subst hQ
                  refine z_zret (z := 1) hx hb hr hlocks dX1_lookAround_44 (by omega) ((uZ st (pv sp cap st [(mi + d)]).2 (st (pv sp cap st [(mi + d)]).2 + 1)), (uZ pl car (pv sp cap st [(mi + d)]).2), (uZ (uZ (uZ lk car k) car ((uZ lk car k) car + (pv sp cap st [(mi - d)]).1)) car ((uZ (uZ lk car k) car ((uZ lk car k) car + (pv sp cap st [(mi - d)]).1)) car + (pv sp cap st [(mi + d)]).1)), (fi + 2 ^ (2 * (pv sp cap st [(mi + d)]).2).toNat)) hK hS ⟨by omega, by omega⟩ hP hD ?_
                  exact Or.inr ⟨by omega, rfl, by rw [h2], by rw [h2], by rw [uZ_uZ, uZ_same, uZ_uZ, uZ_same, Int.add_assoc, h1], by rw [h2]⟩
          · skip
            subst z_7 st1_9 pl1_10 lk1_11 fi1_12
            have hP : va_P dd vwCl [kO q0 1 [vI sp, .ref q1, .ref q2, .ref q3, .ref q4, .ref q5, vI ru, vI re, vI ar, vI (fi + 2 ^ (2 * (pv sp cap st [(mi - d)]).2).toNat)], kI cI q1 8 cap, kI cI q2 8 (uZ st (pv sp cap st [(mi - d)]).2 (st (pv sp cap st [(mi - d)]).2 + 1)), kI cI q3 9 wi, kI cI q4 9 (uZ pl car (pv sp cap st [(mi - d)]).2), kI cI q5 9 (uZ (uZ lk car k) car ((uZ lk car k) car + (pv sp cap st [(mi - d)]).1))] H := hP
            have hD : va_D A [kO q0 1 [vI sp, .ref q1, .ref q2, .ref q3, .ref q4, .ref q5, vI ru, vI re, vI ar, vI (fi + 2 ^ (2 * (pv sp cap st [(mi - d)]).2).toNat)], kI cI q1 8 cap, kI cI q2 8 (uZ st (pv sp cap st [(mi - d)]).2 (st (pv sp cap st [(mi - d)]).2 + 1)), kI cI q3 9 wi, kI cI q4 9 (uZ pl car (pv sp cap st [(mi - d)]).2), kI cI q5 9 (uZ (uZ lk car k) car ((uZ lk car k) car + (pv sp cap st [(mi - d)]).1))] := hD
            have ee := pv_cons_t (r := (mi + d) :: arL mi (d + 1) re) hp26_0
            rw [← arL_cons (by omega)] at ee
            rw [ee] at h1 h2
            refine z_if_ne (tgt := 43) hx hb dX1_lookAround_29 (by decide) (by omega) (fun c29 => ?_) (fun c29 => ?_)
            · skip
              refine z_iconst hx hb dX1_lookAround_43 ?_
              subst hQ
              refine z_zret (z := 1) hx hb hr hlocks dX1_lookAround_44 (by omega) ((uZ st (pv sp cap st [(mi - d)]).2 (st (pv sp cap st [(mi - d)]).2 + 1)), (uZ pl car (pv sp cap st [(mi - d)]).2), (uZ (uZ lk car k) car ((uZ lk car k) car + (pv sp cap st [(mi - d)]).1)), (fi + 2 ^ (2 * (pv sp cap st [(mi - d)]).2).toNat)) hK hS ⟨by omega, by omega⟩ hP hD ?_
              exact Or.inr ⟨by omega, rfl, by rw [h2], by rw [h2], by rw [uZ_uZ, uZ_same, h1], by rw [h2]⟩
            · exact absurd c29 (by omega)
      exact L13 _ 1 (lk car + (pv sp cap st [mi]).1) H locs ls rfl (by omega) (by rw [pv_cons_f (r := arL mi 1 re) hp3_0]; dsimp only; omega) (by rw [pv_cons_f (r := arL mi 1 re) hp3_0]) hP hD hS hl
    · exact absurd c6 (by omega)
  · skip
    subst z_1 st1_3 pl1_4 lk1_5 fi1_6
    have hP : va_P dd vwCl [kO q0 1 [vI sp, .ref q1, .ref q2, .ref q3, .ref q4, .ref q5, vI ru, vI re, vI ar, vI (fi + 2 ^ (2 * (pv sp cap st [mi]).2).toNat)], kI cI q1 8 cap, kI cI q2 8 (uZ st (pv sp cap st [mi]).2 (st (pv sp cap st [mi]).2 + 1)), kI cI q3 9 wi, kI cI q4 9 (uZ pl car (pv sp cap st [mi]).2), kI cI q5 9 (uZ lk car (lk car + (pv sp cap st [mi]).1))] H := hP
    have hD : va_D A [kO q0 1 [vI sp, .ref q1, .ref q2, .ref q3, .ref q4, .ref q5, vI ru, vI re, vI ar, vI (fi + 2 ^ (2 * (pv sp cap st [mi]).2).toNat)], kI cI q1 8 cap, kI cI q2 8 (uZ st (pv sp cap st [mi]).2 (st (pv sp cap st [mi]).2 + 1)), kI cI q3 9 wi, kI cI q4 9 (uZ pl car (pv sp cap st [mi]).2), kI cI q5 9 (uZ lk car (lk car + (pv sp cap st [mi]).1))] := hD
    refine z_if_eq (tgt := 11) hx hb dX1_lookAround_6 (by decide) (by omega) (fun c6 => ?_) (fun c6 => ?_)
    · exact absurd c6 (by omega)
    · skip
      refine z_iconst hx hb dX1_lookAround_9 ?_
      subst hQ
      refine z_zret (z := 1) hx hb hr hlocks dX1_lookAround_10 (by omega) ((uZ st (pv sp cap st [mi]).2 (st (pv sp cap st [mi]).2 + 1)), (uZ pl car (pv sp cap st [mi]).2), (uZ lk car (lk car + (pv sp cap st [mi]).1)), (fi + 2 ^ (2 * (pv sp cap st [mi]).2).toNat)) hK hS ⟨by omega, by omega⟩ hP hD ?_
      have ee := pv_cons_t (r := arL mi 1 re) hp3_0
      exact Or.inr ⟨by rw [ee]; exact hp3_0, rfl, by rw [ee], by rw [ee], by rw [ee], by rw [ee]⟩
