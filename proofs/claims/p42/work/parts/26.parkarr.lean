/-! orders of the list that park -/
def cfZ (wi : Int → Int) (ct : Int) : Int → Int := fun s => cntB wi (s + 1) ct.toNat - cntB wi s ct.toNat
theorem cf_rg {wi : Int → Int} {ct : Int} (h : 0 ≤ ct ∧ ct ≤ 9) (s : Int) : 0 ≤ cfZ wi ct s ∧ cfZ wi ct s ≤ 9 := by
  have h1 := cntB_rg wi s ct.toNat
  have h2 := cntB_rg wi (s + 1) ct.toNat
  have h3 := cntB_mono wi (show s ≤ s + 1 by omega) ct.toNat
  unfold cfZ
  omega
theorem cf_sum {wi : Int → Int} {ct : Int} : ∀ k : Nat, sumZ (cfZ wi ct) k = cntB wi (k : Int) ct.toNat - cntB wi 0 ct.toNat
  | 0 => by
    show (0 : Int) = cntB wi 0 ct.toNat - cntB wi 0 ct.toNat
    omega
  | k + 1 => by
    show sumZ (cfZ wi ct) k + cfZ wi ct (k : Int) = cntB wi ((k : Int) + 1) ct.toNat - cntB wi 0 ct.toNat
    rw [cf_sum k]
    unfold cfZ
    omega
theorem cntB_all {wi : Int → Int} {x : Int} : ∀ k : Nat, (∀ j : Int, 0 ≤ j → j < k → wi j < x) → cntB wi x k = k
  | 0, _ => rfl
  | k + 1, h => by
    show cntB wi x k + (if wi (k : Int) < x then 1 else 0) = ((k + 1 : Nat) : Int)
    rw [cntB_all k (fun j h0 h1 => h j h0 (by omega)), if_pos (h (k : Int) (by omega) (by omega))]
    omega
theorem cf_n {wi : Int → Int} {ct n : Int} (hn : 0 ≤ n) (hc : 0 ≤ ct) (h : ∀ j : Int, 0 ≤ j → j < ct → 0 ≤ wi j ∧ wi j < n) : sumZ (cfZ wi ct) n.toNat = ct := by
  rw [cf_sum, cntB_0 _ (fun j h0 h1 => (h j h0 (by omega)).1), show ((n.toNat : Nat) : Int) = n by omega, cntB_all _ (fun j h0 h1 => (h j h0 (by omega)).2)]
  omega

set_option maxHeartbeats 4000000 in
set_option maxRecDepth 100000 in
theorem c_X6_parkingArrangements (l : Launch) (dd : va_G) (cI cJ cC cS : ClassId) (x0 s0 h0 l0 m0 p0 e0 w0 t0 s1 s2 l1 l2 l3 l4 l5 m1 m2 : Nat) (n tl : Int) (cap wi : Int → Int) (ct ru re : Int) (lru lre lar lfi : Int) (lcap lst lwi lpl llk : Int → Int) (ky vl : Int → Int) (wt : Int → Int) (sz : Nat) (hn : 1 ≤ n ∧ n ≤ 8) (hct : 0 ≤ ct ∧ ct ≤ 9) (hcap : ∀ j : Int, 0 ≤ j → j < n → 0 ≤ cap j ∧ cap j ≤ 3) (hwi : ∀ j : Int, 0 ≤ j → j < ct → 0 ≤ wi j ∧ wi j < n) (hru : 0 ≤ ru ∧ ru ≤ 3) (hre : 0 ≤ re ∧ re ≤ 8) (hwt : ∀ j : Int, 0 ≤ j → j < 8 → 0 ≤ wt j ∧ wt j ≤ 9) : gMi l yX6_parkingArrangements wsX6_parkingArrangements 17 0 0 dd cI cJ cC cS [.ref x0] [kO x0 6 [vI n, .ref s0, .ref h0, .ref l0, .ref m0, .ref p0, .ref e0, .ref w0, .ref t0, vI tl], kO s0 5 [.ref s1, .ref s2, vI ct, vI ru, vI re], kI cI s1 8 cap, kI cI s2 9 wi, kO l0 1 [vI n, .ref l1, .ref l2, .ref l3, .ref l4, .ref l5, vI lru, vI lre, vI lar, vI lfi], kI cI l1 8 lcap, kI cI l2 8 lst, kI cI l3 9 lwi, kI cI l4 9 lpl, kI cI l5 9 llk, kO m0 2 [.ref m1, .ref m2], kL cJ m1 1024 ky, kI cI m2 1024 vl, kI cI w0 8 wt] sz (fun (z : Int) (u : Int × Int × Int × Int × (Int → Int) × (Int → Int) × (Int → Int) × (Int → Int) × (Int → Int) × (Int → Int) × (Int → Int) × (Int → Int)) => z = cO n cap ru re ct.toNat zeroZ (cfZ wi ct) ∧ (∀ j : Int, 0 ≤ j → j < 8 → 0 ≤ u.2.2.2.2.2.2.2.2.2.2.2 j ∧ u.2.2.2.2.2.2.2.2.2.2.2 j ≤ 9)) (fun (u : Int × Int × Int × Int × (Int → Int) × (Int → Int) × (Int → Int) × (Int → Int) × (Int → Int) × (Int → Int) × (Int → Int) × (Int → Int)) => [kO x0 6 [vI n, .ref s0, .ref h0, .ref l0, .ref m0, .ref p0, .ref e0, .ref w0, .ref t0, vI tl], kO s0 5 [.ref s1, .ref s2, vI ct, vI ru, vI re], kI cI s1 8 cap, kI cI s2 9 wi, kO l0 1 [vI n, .ref l1, .ref l2, .ref l3, .ref l4, .ref l5, vI u.1, vI u.2.1, vI u.2.2.1, vI u.2.2.2.1], kI cI l1 8 u.2.2.2.2.1, kI cI l2 8 u.2.2.2.2.2.1, kI cI l3 9 u.2.2.2.2.2.2.1, kI cI l4 9 u.2.2.2.2.2.2.2.1, kI cI l5 9 u.2.2.2.2.2.2.2.2.1, kO m0 2 [.ref m1, .ref m2], kL cJ m1 1024 u.2.2.2.2.2.2.2.2.2.1, kI cI m2 1024 u.2.2.2.2.2.2.2.2.2.2.1, kI cI w0 8 u.2.2.2.2.2.2.2.2.2.2.2]) := by
  refine gMi_of (cc := cX6_parkingArrangements) (maxL := 2) (ret := (some .int)) (by decide) rfl (Nat.le_of_ble_eq_true rfl) ?_
  intro p e s m args below meth c A Q hQ hx hb hr hts hown hlocks hnm hml H locs hP hK hD hA hS ls hl
  have hi5 : ∀ w ∈ wsX50, w ∈ wsX6_parkingArrangements := fun _ h => (List.mem_cons_of_mem _ (List.mem_append_left _ (List.mem_append_left _ (List.mem_append_right _ h))))
  have hi6 : ∀ w ∈ wsX60, w ∈ wsX6_parkingArrangements := fun _ h => (List.mem_cons_of_mem _ (List.mem_append_left _ (List.mem_append_left _ (List.mem_append_left _ (List.mem_append_right _ h)))))
  have hl : lv_has ls 2 [(0, .ref x0)] := hl
  refine z_iconst hx hb dX6_parkingArrangements_0 ?_
  refine lv_istore_n (lv' := [(1, vI 0), (0, .ref x0)]) hx hb dX6_parkingArrangements_1 rfl hl (by decide) rfl (fun ls hl => ?_)
  have L2 : ∀ (nn : Nat) (i : Int) (H : Heap) (locs : List Loc) (ls : Array Slot), ((n + 1 - i).toNat) = nn → (0 ≤ i ∧ i ≤ n) → va_P dd vwCl [kO x0 6 [vI n, .ref s0, .ref h0, .ref l0, .ref m0, .ref p0, .ref e0, .ref w0, .ref t0, vI tl], kO s0 5 [.ref s1, .ref s2, vI ct, vI ru, vI re], kI cI s1 8 cap, kI cI s2 9 wi, kO l0 1 [vI n, .ref l1, .ref l2, .ref l3, .ref l4, .ref l5, vI lru, vI lre, vI lar, vI lfi], kI cI l1 8 lcap, kI cI l2 8 lst, kI cI l3 9 lwi, kI cI l4 9 lpl, kI cI l5 9 llk, kO m0 2 [.ref m1, .ref m2], kL cJ m1 1024 ky, kI cI m2 1024 vl, kI cI w0 8 (cpZ (cfZ wi ct) wt i)] H → va_D A [kO x0 6 [vI n, .ref s0, .ref h0, .ref l0, .ref m0, .ref p0, .ref e0, .ref w0, .ref t0, vI tl], kO s0 5 [.ref s1, .ref s2, vI ct, vI ru, vI re], kI cI s1 8 cap, kI cI s2 9 wi, kO l0 1 [vI n, .ref l1, .ref l2, .ref l3, .ref l4, .ref l5, vI lru, vI lre, vI lar, vI lfi], kI cI l1 8 lcap, kI cI l2 8 lst, kI cI l3 9 lwi, kI cI l4 9 lpl, kI cI l5 9 llk, kO m0 2 [.ref m1, .ref m2], kL cJ m1 1024 ky, kI cI m2 1024 vl, kI cI w0 8 (cpZ (cfZ wi ct) wt i)] → va_S A s.heap H locs → lv_has ls 2 [(1, vI i), (0, .ref x0)] → W p l e (gR 17 0 0) s m args below meth c H locs 0 0 Q (F0 m 2 ls []) := by
    intro nn
    induction nn using Nat.strongRecOn with
    | ind nn L2i =>
    intro i H locs ls hmeas hi hP hD hS hl
    refine lv_iload_n hx hb dX6_parkingArrangements_2 rfl (lv_at hl 0 rfl) ?_
    refine lv_aload_n hx hb dX6_parkingArrangements_3 rfl (lv_at hl 1 rfl) ?_
    refine va_get (D := dd) (ci := 6) (v := vI n) (C := RX6) (T := TX6) (N := 10) hx hb hts hi6 hown hK hP 0 rfl rfl 0 (by decide) (hts _ (List.mem_cons_of_mem _ (List.mem_append_left _ (List.mem_append_left _ (List.mem_append_left _ (List.mem_append_left _ (List.mem_append_left _ (List.mem_of_getElem? (i := 0) rfl)))))))) (fun _ h9 => h9) rfl dX6_parkingArrangements_4 ?_
    refine z_icmp_ge (tgt := 30) hx hb dX6_parkingArrangements_7 (by decide) (by omega) (fun c7 => ?_) (fun c7 => ?_)
    · skip
      have hw8 : ∀ j : Int, 0 ≤ j → j < 8 → 0 ≤ cpZ (cfZ wi ct) wt i j ∧ cpZ (cfZ wi ct) wt i j ≤ 9 := by
        intro j h0 h1
        unfold cpZ
        split
        · exact cf_rg hct j
        · exact hwt j h0 h1
      have hsn : sumZ (cpZ (cfZ wi ct) wt i) n.toNat = ct := by
        rw [sumZ_congr (g := cfZ wi ct) n.toNat (fun j h0 h1 => cpZ_lt (by omega))]
        exact cf_n (by omega) hct.1 hwi
      refine lv_aload_n hx hb dX6_parkingArrangements_30 rfl (lv_at hl 1 rfl) ?_
      refine g_callVv (own := RX6) (n := 0) (mc := 0) (ms := 0) (As := []) (rest := []) (wc := [kO x0 6 [vI n, .ref s0, .ref h0, .ref l0, .ref m0, .ref p0, .ref e0, .ref w0, .ref t0, vI tl], kO s0 5 [.ref s1, .ref s2, vI ct, vI ru, vI re], kI cI s1 8 cap, kI cI s2 9 wi, kO l0 1 [vI n, .ref l1, .ref l2, .ref l3, .ref l4, .ref l5, vI lru, vI lre, vI lar, vI lfi], kI cI l1 8 lcap, kI cI l2 8 lst, kI cI l3 9 lwi, kI cI l4 9 lpl, kI cI l5 9 llk, kO m0 2 [.ref m1, .ref m2], kL cJ m1 1024 ky, kI cI m2 1024 vl]) (wr := [kI cI w0 8 (cpZ (cfZ wi ct) wt i)]) hx hb hml hown hts hK hP hD hS hA [0, 1, 2, 3, 4, 5, 6, 7, 8, 9, 10, 11, 12] [13] rfl rfl (by decide) (by decide) 6 0 rfl rfl (c_X6_startCount l dd cI cJ cC cS x0 s0 h0 l0 m0 p0 e0 w0 t0 s1 s2 l1 l2 l3 l4 l5 m1 m2 n tl cap wi ct ru re lru lre lar lfi lcap lst lwi lpl llk ky vl H.size  (by first | assumption | omega)) gX6_parkingArrangements_X6_startCount rfl (by decide +kernel) (by decide) (by decide) (by decide) (by decide) rfl hl.1 rfl (Nat.le_of_ble_eq_true rfl) dX6_parkingArrangements_31 (fun u_1 H locs hp31 hP hD hS => ?_)
      have hP : va_P dd vwCl [kI cI w0 8 (cpZ (cfZ wi ct) wt i), kO x0 6 [vI n, .ref s0, .ref h0, .ref l0, .ref m0, .ref p0, .ref e0, .ref w0, .ref t0, vI tl], kO s0 5 [.ref s1, .ref s2, vI ct, vI ru, vI re], kI cI s1 8 cap, kI cI s2 9 wi, kO l0 1 [vI n, .ref l1, .ref l2, .ref l3, .ref l4, .ref l5, vI ru, vI re, vI 0, vI 0], kI cI l1 8 (cpZ cap lcap n), kI cI l2 8 (cpZ zeroZ lst n), kI cI l3 9 lwi, kI cI l4 9 lpl, kI cI l5 9 llk, kO m0 2 [.ref m1, .ref m2], kL cJ m1 1024 (cpZ (kZ (-1)) ky 1024), kI cI m2 1024 vl] H := hP
      have hD : va_D A [kI cI w0 8 (cpZ (cfZ wi ct) wt i), kO x0 6 [vI n, .ref s0, .ref h0, .ref l0, .ref m0, .ref p0, .ref e0, .ref w0, .ref t0, vI tl], kO s0 5 [.ref s1, .ref s2, vI ct, vI ru, vI re], kI cI s1 8 cap, kI cI s2 9 wi, kO l0 1 [vI n, .ref l1, .ref l2, .ref l3, .ref l4, .ref l5, vI ru, vI re, vI 0, vI 0], kI cI l1 8 (cpZ cap lcap n), kI cI l2 8 (cpZ zeroZ lst n), kI cI l3 9 lwi, kI cI l4 9 lpl, kI cI l5 9 llk, kO m0 2 [.ref m1, .ref m2], kL cJ m1 1024 (cpZ (kZ (-1)) ky 1024), kI cI m2 1024 vl] := hD
      refine lv_aload_n hx hb dX6_parkingArrangements_34 rfl (lv_at hl 1 rfl) ?_
      refine va_get (D := dd) (ci := 6) (v := .ref l0) (C := RX6) (T := TX6) (N := 10) hx hb hts hi6 hown hK hP 1 rfl rfl 3 (by decide) (hts _ (List.mem_cons_of_mem _ (List.mem_append_left _ (List.mem_append_left _ (List.mem_append_left _ (List.mem_append_left _ (List.mem_append_left _ (List.mem_of_getElem? (i := 3) rfl)))))))) (fun _ h9 => h9) rfl dX6_parkingArrangements_35 ?_
      refine lv_aload_n hx hb dX6_parkingArrangements_38 rfl (lv_at hl 1 rfl) ?_
      refine va_get (D := dd) (ci := 6) (v := .ref m0) (C := RX6) (T := TX6) (N := 10) hx hb hts hi6 hown hK hP 1 rfl rfl 4 (by decide) (hts _ (List.mem_cons_of_mem _ (List.mem_append_left _ (List.mem_append_left _ (List.mem_append_left _ (List.mem_append_left _ (List.mem_append_left _ (List.mem_of_getElem? (i := 4) rfl)))))))) (fun _ h9 => h9) rfl dX6_parkingArrangements_39 ?_
      refine lv_aload_n hx hb dX6_parkingArrangements_42 rfl (lv_at hl 1 rfl) ?_
      refine va_get (D := dd) (ci := 6) (v := .ref w0) (C := RX6) (T := TX6) (N := 10) hx hb hts hi6 hown hK hP 1 rfl rfl 7 (by decide) (hts _ (List.mem_cons_of_mem _ (List.mem_append_left _ (List.mem_append_left _ (List.mem_append_left _ (List.mem_append_left _ (List.mem_append_left _ (List.mem_of_getElem? (i := 1) rfl)))))))) (fun _ h9 => h9) rfl dX6_parkingArrangements_43 ?_
      refine lv_aload_n hx hb dX6_parkingArrangements_46 rfl (lv_at hl 1 rfl) ?_
      refine va_get (D := dd) (ci := 6) (v := .ref s0) (C := RX6) (T := TX6) (N := 10) hx hb hts hi6 hown hK hP 1 rfl rfl 1 (by decide) (hts _ (List.mem_cons_of_mem _ (List.mem_append_left _ (List.mem_append_left _ (List.mem_append_left _ (List.mem_append_left _ (List.mem_append_left _ (List.mem_of_getElem? (i := 2) rfl)))))))) (fun _ h9 => h9) rfl dX6_parkingArrangements_47 ?_
      refine va_get (D := dd) (ci := 5) (v := vI ct) (C := RX5) (T := TX5) (N := 5) hx hb hts hi5 hown hK hP 2 rfl rfl 2 (by decide) (hts _ (List.mem_cons_of_mem _ (List.mem_append_left _ (List.mem_append_left _ (List.mem_append_left _ (List.mem_append_left _ (List.mem_append_left _ (List.mem_of_getElem? (i := 5) rfl)))))))) (fun _ h9 => h9) rfl dX6_parkingArrangements_50 ?_
      refine g_callSi (own := RX6) (n := 4) (mc := 0) (ms := 0) (As := [.ref l0, .ref m0, .ref w0, vI ct]) (rest := []) (wc := [kO l0 1 [vI n, .ref l1, .ref l2, .ref l3, .ref l4, .ref l5, vI ru, vI re, vI 0, vI 0], kI cI l1 8 (cpZ cap lcap n), kI cI l2 8 (cpZ zeroZ lst n), kI cI l3 9 lwi, kI cI l4 9 lpl, kI cI l5 9 llk, kO m0 2 [.ref m1, .ref m2], kL cJ m1 1024 (cpZ (kZ (-1)) ky 1024), kI cI m2 1024 vl, kI cI w0 8 (cpZ (cfZ wi ct) wt i)]) (wr := [kO x0 6 [vI n, .ref s0, .ref h0, .ref l0, .ref m0, .ref p0, .ref e0, .ref w0, .ref t0, vI tl], kO s0 5 [.ref s1, .ref s2, vI ct, vI ru, vI re], kI cI s1 8 cap, kI cI s2 9 wi]) hx hb hml hown hts hK hP hD hS hA [5, 6, 7, 8, 9, 10, 11, 12, 13, 0] [1, 2, 3, 4] rfl rfl (by decide) (by decide) (c_X6_countOrders l dd cI cJ cC cS l0 l1 l2 l3 l4 l5 m0 m1 m2 w0 n ru re 0 0 (cpZ cap lcap n) (cpZ zeroZ lst n) lwi lpl llk (cpZ (kZ (-1)) ky 1024) vl (cpZ (cfZ wi ct) wt i) ct H.size  (by first | assumption | omega) (fun j h0 h1 => by rw [cpZ_lt h1]; exact hcap j h0 h1) (fun j h0 h1 => by rw [cpZ_lt h1]; exact ⟨Int.le_refl _, by show (0 : Int) ≤ 3; omega⟩) (by first | assumption | omega) (by first | assumption | omega) (by first | assumption | omega) (hw8) (hsn) (fil_zero _ _) (mKO_init)) gX6_parkingArrangements_X6_countOrders rfl (by decide +kernel) (by decide) (by first | decide | (show _ ≤ 17; omega) | (show _ ≤ 680; omega)) (by first | decide | (show _ ≤ 17; omega) | (show _ ≤ 680; omega)) (by decide) rfl hl.1 rfl (Nat.le_of_ble_eq_true rfl) dX6_parkingArrangements_53 (fun z_2 u_3 H locs hp53 hP hD hS => ?_)
      obtain ⟨wi1_4, pl1_5, lk1_6, ky1_7, vl1_8⟩ := u_3
      try dsimp only at hp53
      obtain ⟨z_2e, hp53⟩ := hp53
      subst z_2
      have hP : va_P dd vwCl [kO x0 6 [vI n, .ref s0, .ref h0, .ref l0, .ref m0, .ref p0, .ref e0, .ref w0, .ref t0, vI tl], kO s0 5 [.ref s1, .ref s2, vI ct, vI ru, vI re], kI cI s1 8 cap, kI cI s2 9 wi, kO l0 1 [vI n, .ref l1, .ref l2, .ref l3, .ref l4, .ref l5, vI ru, vI re, vI 0, vI 0], kI cI l1 8 (cpZ cap lcap n), kI cI l2 8 (cpZ zeroZ lst n), kI cI l3 9 wi1_4, kI cI l4 9 pl1_5, kI cI l5 9 lk1_6, kO m0 2 [.ref m1, .ref m2], kL cJ m1 1024 ky1_7, kI cI m2 1024 vl1_8, kI cI w0 8 (cpZ (cfZ wi ct) wt i)] H := hP
      have hD : va_D A [kO x0 6 [vI n, .ref s0, .ref h0, .ref l0, .ref m0, .ref p0, .ref e0, .ref w0, .ref t0, vI tl], kO s0 5 [.ref s1, .ref s2, vI ct, vI ru, vI re], kI cI s1 8 cap, kI cI s2 9 wi, kO l0 1 [vI n, .ref l1, .ref l2, .ref l3, .ref l4, .ref l5, vI ru, vI re, vI 0, vI 0], kI cI l1 8 (cpZ cap lcap n), kI cI l2 8 (cpZ zeroZ lst n), kI cI l3 9 wi1_4, kI cI l4 9 pl1_5, kI cI l5 9 lk1_6, kO m0 2 [.ref m1, .ref m2], kL cJ m1 1024 ky1_7, kI cI m2 1024 vl1_8, kI cI w0 8 (cpZ (cfZ wi ct) wt i)] := hD
      subst hQ
      refine z_iret (z := cO n (cpZ cap lcap n) ru re ct.toNat (cpZ zeroZ lst n) (cpZ (cfZ wi ct) wt i)) hx hb hr hlocks dX6_parkingArrangements_56 (ru, re, 0, 0, (cpZ cap lcap n), (cpZ zeroZ lst n), wi1_4, pl1_5, lk1_6, ky1_7, vl1_8, (cpZ (cfZ wi ct) wt i)) hK hS ⟨by omega, by omega⟩ hP hD ?_
      exact ⟨cO_congr (by omega) (fun j h0 h1 => cpZ_lt h1) _ _ _ _ _ (fun j h0 h1 => cpZ_lt h1) (fun j h0 h1 => cpZ_lt (by omega)), hw8⟩
    · skip
      refine lv_aload_n hx hb dX6_parkingArrangements_10 rfl (lv_at hl 1 rfl) ?_
      refine va_get (D := dd) (ci := 6) (v := .ref w0) (C := RX6) (T := TX6) (N := 10) hx hb hts hi6 hown hK hP 0 rfl rfl 7 (by decide) (hts _ (List.mem_cons_of_mem _ (List.mem_append_left _ (List.mem_append_left _ (List.mem_append_left _ (List.mem_append_left _ (List.mem_append_left _ (List.mem_of_getElem? (i := 1) rfl)))))))) (fun _ h9 => h9) rfl dX6_parkingArrangements_11 ?_
      refine lv_iload_n hx hb dX6_parkingArrangements_14 rfl (lv_at hl 0 rfl) ?_
      refine lv_aload_n hx hb dX6_parkingArrangements_15 rfl (lv_at hl 1 rfl) ?_
      refine va_get (D := dd) (ci := 6) (v := .ref s0) (C := RX6) (T := TX6) (N := 10) hx hb hts hi6 hown hK hP 0 rfl rfl 1 (by decide) (hts _ (List.mem_cons_of_mem _ (List.mem_append_left _ (List.mem_append_left _ (List.mem_append_left _ (List.mem_append_left _ (List.mem_append_left _ (List.mem_of_getElem? (i := 2) rfl)))))))) (fun _ h9 => h9) rfl dX6_parkingArrangements_16 ?_
      refine lv_iload_n hx hb dX6_parkingArrangements_19 rfl (lv_at hl 0 rfl) ?_
      refine g_callVi (own := RX6) (n := 1) (mc := 0) (ms := 0) (As := [vI i]) (rest := [vI i, .ref w0]) (wc := [kO s0 5 [.ref s1, .ref s2, vI ct, vI ru, vI re], kI cI s1 8 cap, kI cI s2 9 wi]) (wr := [kO x0 6 [vI n, .ref s0, .ref h0, .ref l0, .ref m0, .ref p0, .ref e0, .ref w0, .ref t0, vI tl], kO l0 1 [vI n, .ref l1, .ref l2, .ref l3, .ref l4, .ref l5, vI lru, vI lre, vI lar, vI lfi], kI cI l1 8 lcap, kI cI l2 8 lst, kI cI l3 9 lwi, kI cI l4 9 lpl, kI cI l5 9 llk, kO m0 2 [.ref m1, .ref m2], kL cJ m1 1024 ky, kI cI m2 1024 vl, kI cI w0 8 (cpZ (cfZ wi ct) wt i)]) hx hb hml hown hts hK hP hD hS hA [1, 2, 3] [0, 4, 5, 6, 7, 8, 9, 10, 11, 12, 13] rfl rfl (by decide) (by decide) 5 0 rfl rfl (c_X5_countOfWishes l dd cI cJ cC cS s0 s1 s2 cap wi ct ru re i H.size  (by first | assumption | omega) (fun j h0 h1 => by have := hwi j h0 h1; omega) (by first | assumption | omega)) gX6_parkingArrangements_X5_countOfWishes rfl (by decide +kernel) (by decide) (by decide) (by decide) (by decide) rfl hl.1 rfl (Nat.le_of_ble_eq_true rfl) dX6_parkingArrangements_20 (fun z_9 u_10 H locs hp20 hP hD hS => ?_)
      subst z_9
      have hP : va_P dd vwCl [kO x0 6 [vI n, .ref s0, .ref h0, .ref l0, .ref m0, .ref p0, .ref e0, .ref w0, .ref t0, vI tl], kO l0 1 [vI n, .ref l1, .ref l2, .ref l3, .ref l4, .ref l5, vI lru, vI lre, vI lar, vI lfi], kI cI l1 8 lcap, kI cI l2 8 lst, kI cI l3 9 lwi, kI cI l4 9 lpl, kI cI l5 9 llk, kO m0 2 [.ref m1, .ref m2], kL cJ m1 1024 ky, kI cI m2 1024 vl, kI cI w0 8 (cpZ (cfZ wi ct) wt i), kO s0 5 [.ref s1, .ref s2, vI ct, vI ru, vI re], kI cI s1 8 cap, kI cI s2 9 wi] H := hP
      have hD : va_D A [kO x0 6 [vI n, .ref s0, .ref h0, .ref l0, .ref m0, .ref p0, .ref e0, .ref w0, .ref t0, vI tl], kO l0 1 [vI n, .ref l1, .ref l2, .ref l3, .ref l4, .ref l5, vI lru, vI lre, vI lar, vI lfi], kI cI l1 8 lcap, kI cI l2 8 lst, kI cI l3 9 lwi, kI cI l4 9 lpl, kI cI l5 9 llk, kO m0 2 [.ref m1, .ref m2], kL cJ m1 1024 ky, kI cI m2 1024 vl, kI cI w0 8 (cpZ (cfZ wi ct) wt i), kO s0 5 [.ref s1, .ref s2, vI ct, vI ru, vI re], kI cI s1 8 cap, kI cI s2 9 wi] := hD
      refine z_bin (va := .null) (vb := .null) (y := zI (cfZ wi ct i)) (congrArg zI (rfl)) ?_
      refine z_iast (ws' := [kO x0 6 [vI n, .ref s0, .ref h0, .ref l0, .ref m0, .ref p0, .ref e0, .ref w0, .ref t0, vI tl], kO l0 1 [vI n, .ref l1, .ref l2, .ref l3, .ref l4, .ref l5, vI lru, vI lre, vI lar, vI lfi], kI cI l1 8 lcap, kI cI l2 8 lst, kI cI l3 9 lwi, kI cI l4 9 lpl, kI cI l5 9 llk, kO m0 2 [.ref m1, .ref m2], kL cJ m1 1024 ky, kI cI m2 1024 vl, kI cI w0 8 (uZ (cpZ (cfZ wi ct) wt i) i (cfZ wi ct i)), kO s0 5 [.ref s1, .ref s2, vI ct, vI ru, vI re], kI cI s1 8 cap, kI cI s2 9 wi]) hx hb hK hP hD hS 10 0 rfl rfl (i := i) (x := (cfZ wi ct i)) (by omega) (by decide) dX6_parkingArrangements_23 rfl (fun H locs hP hD hS => ?_)
      refine z_iinc (a := i) (z := (i + 1)) (lv' := [(1, vI (i + 1)), (0, .ref x0)]) hx hb dX6_parkingArrangements_24 hl (k := 0) rfl rfl (by decide) rfl (fun ls hl => ?_)
      refine lv_goto (tgt := 2) hx hb dX6_parkingArrangements_27 (by decide) ?_
      have el_11 : kI cI w0 8 (uZ (cpZ (cfZ wi ct) wt i) i (cfZ wi ct i)) = kI cI w0 8 (cpZ (cfZ wi ct) wt (i + 1)) := kI_congr (congrArg aZ (cpZ_s (cfZ wi ct) wt i))
      rw [el_11] at hP hD
      exact L2i _ (by omega) (i + 1) H locs ls rfl (by omega) (hP.sub [0, 11, 12, 13, 1, 2, 3, 4, 5, 6, 7, 8, 9, 10] rfl) (hD.sub [0, 11, 12, 13, 1, 2, 3, 4, 5, 6, 7, 8, 9, 10] (by decide) rfl) hS hl
  have el_12 : kI cI w0 8 wt = kI cI w0 8 (cpZ (cfZ wi ct) wt 0) := kI_congr ((aZ_cp0 (cfZ wi ct) wt).symm)
  rw [el_12] at hP hD
  exact L2 _ 0 H locs ls rfl (by omega) hP hD hS hl
