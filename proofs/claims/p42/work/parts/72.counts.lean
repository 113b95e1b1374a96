/-! counts over all defects, lucky cars, sums -/
set_option maxHeartbeats 4000000 in
set_option maxRecDepth 100000 in
theorem c_L_counts (l : Launch) (hfl : l.stackTraces = false) (dd : va_G) (cI cJ cC cS : ClassId) (x0 s0 h0 l0 m0 p0 e0 w0 t0 s1 s2 l1 l2 l3 l4 l5 m1 m2 : Nat) (n tl : Int) (cap wi : Int → Int) (ct ru re : Int) (lru lre lar lfi : Int) (lcap lst lwi lpl llk : Int → Int) (ky vl : Int → Int) (k9 : Int) (sz : Nat) (hn : 1 ≤ n ∧ n ≤ 8) (hct : 0 ≤ ct ∧ ct ≤ 9) (hcap : ∀ j : Int, 0 ≤ j → j < n → 0 ≤ cap j ∧ cap j ≤ 3) (hwi : ∀ j : Int, 0 ≤ j → j < ct → 0 ≤ wi j ∧ wi j < n) (hru : 0 ≤ ru ∧ ru ≤ 3) (hre : 0 ≤ re ∧ re ≤ 8) (hk9 : 0 ≤ k9 ∧ k9 ≤ 3) : gYi l yL_counts wsL_counts 19 260 1560 dd cI cJ cC cS [.ref x0, vI n, vI k9] [kO x0 6 [vI n, .ref s0, .ref h0, .ref l0, .ref m0, .ref p0, .ref e0, .ref w0, .ref t0, vI tl], kO s0 5 [.ref s1, .ref s2, vI ct, vI ru, vI re], kI cI s1 8 cap, kI cI s2 9 wi, kO l0 1 [vI n, .ref l1, .ref l2, .ref l3, .ref l4, .ref l5, vI lru, vI lre, vI lar, vI lfi], kI cI l1 8 lcap, kI cI l2 8 lst, kI cI l3 9 lwi, kI cI l4 9 lpl, kI cI l5 9 llk, kO m0 2 [.ref m1, .ref m2], kL cJ m1 1024 ky, kI cI m2 1024 vl] sz (fun (z : Int) (u : Int × Int × Int × Int × (Int → Int) × (Int → Int) × (Int → Int) × (Int → Int) × (Int → Int) × (Int → Int) × (Int → Int)) => z = 1) (fun (u : Int × Int × Int × Int × (Int → Int) × (Int → Int) × (Int → Int) × (Int → Int) × (Int → Int) × (Int → Int) × (Int → Int)) => [kO x0 6 [vI n, .ref s0, .ref h0, .ref l0, .ref m0, .ref p0, .ref e0, .ref w0, .ref t0, vI tl], kO s0 5 [.ref s1, .ref s2, vI ct, vI ru, vI re], kI cI s1 8 cap, kI cI s2 9 wi, kO l0 1 [vI n, .ref l1, .ref l2, .ref l3, .ref l4, .ref l5, vI u.1, vI u.2.1, vI u.2.2.1, vI u.2.2.2.1], kI cI l1 8 u.2.2.2.2.1, kI cI l2 8 u.2.2.2.2.2.1, kI cI l3 9 u.2.2.2.2.2.2.1, kI cI l4 9 u.2.2.2.2.2.2.2.1, kI cI l5 9 u.2.2.2.2.2.2.2.2.1, kO m0 2 [.ref m1, .ref m2], kL cJ m1 1024 u.2.2.2.2.2.2.2.2.2.1, kI cI m2 1024 u.2.2.2.2.2.2.2.2.2.2]) := by
  refine gYi_ofC (cc := cL_counts) (maxL := 9) (ret := (some .boolean)) (by decide) rfl (Nat.le_of_ble_eq_true rfl) ?_
  intro p e s m args below meth c A Q hQ hE hC9 hx hb hr hts hown hlocks hml H locs hP hK hD hA hS ls hl
  have hl : lv_has ls 9 [(0, .ref x0), (1, vI n), (2, vI k9)] := hl
  refine z_iconst hx hb dL_counts_0 ?_
  refine lv_istore_n (lv' := [(3, vI 0), (0, .ref x0), (1, vI n), (2, vI k9)]) hx hb dL_counts_1 rfl hl (by decide) rfl (fun ls hl => ?_)
  refine lv_aload_n hx hb dL_counts_2 rfl (lv_at hl 1 rfl) ?_
  refine lv_iload_n hx hb dL_counts_3 rfl (lv_at hl 3 rfl) ?_
  refine z_iconst hx hb dL_counts_4 ?_
  refine g_ycallSi (own := RL) (n := 3) (mc := 3) (ms := 18) (As := [.ref x0, vI k9, vI 0]) (rest := []) (wc := [kO x0 6 [vI n, .ref s0, .ref h0, .ref l0, .ref m0, .ref p0, .ref e0, .ref w0, .ref t0, vI tl], kO s0 5 [.ref s1, .ref s2, vI ct, vI ru, vI re], kI cI s1 8 cap, kI cI s2 9 wi, kO l0 1 [vI n, .ref l1, .ref l2, .ref l3, .ref l4, .ref l5, vI lru, vI lre, vI lar, vI lfi], kI cI l1 8 lcap, kI cI l2 8 lst, kI cI l3 9 lwi, kI cI l4 9 lpl, kI cI l5 9 llk, kO m0 2 [.ref m1, .ref m2], kL cJ m1 1024 ky, kI cI m2 1024 vl]) (wr := []) hx hb hml hown hts hK hP hD hS hA hE hC9 [0, 1, 2, 3, 4, 5, 6, 7, 8, 9, 10, 11, 12] [] rfl rfl (by decide) (by decide) (c_L_counted l hfl dd cI cJ cC cS x0 s0 h0 l0 m0 p0 e0 w0 t0 s1 s2 l1 l2 l3 l4 l5 m1 m2 n tl cap wi ct ru re lru lre lar lfi lcap lst lwi lpl llk ky vl k9 0 H.size (by first | assumption | omega) (by first | assumption | omega) (by first | assumption | (intro j h0 h1; omega)) (by first | assumption | (intro j h0 h1; omega)) (by first | assumption | omega) (by first | assumption | omega) (by first | assumption | omega) (by first | assumption | omega)) gL_counts_L_counted rfl (by decide +kernel) (by decide) (by decide) (by decide) (⟨by show _ ≤ 260; omega, by show _ ≤ 1560; omega⟩) rfl hl.1 rfl (Nat.le_of_ble_eq_true rfl) dL_counts_5 (fun z_1 u_2 H locs hp5 hP hD hS => ?_)
  obtain ⟨lru1_3, lre1_4, lar1_5, lfi1_6, lcap1_7, lst1_8, lwi1_9, lpl1_10, llk1_11, ky1_12, vl1_13⟩ := u_2
  try dsimp only at hp5
  rcases hp5 with ⟨hp5_0, hp5_1, hp5_z⟩ | ⟨hp5_0, hp5_z, hp5_o0, hp5_o1, hp5_o2, hp5_o3, hp5_o4, hp5_o5, hp5_o6, hp5_o7, hp5_o8, hp5_o9, hp5_o10⟩ | ⟨hp5_0, hp5_1, hp5_z, hp5_o0, hp5_o1, hp5_o2, hp5_o3, hp5_o4, hp5_o5, hp5_o6, hp5_o7, hp5_o8, hp5_o9, hp5_o10⟩
  · skip
    subst z_1
    have hP : va_P dd vwCl [kO x0 6 [vI n, .ref s0, .ref h0, .ref l0, .ref m0, .ref p0, .ref e0, .ref w0, .ref t0, vI tl], kO s0 5 [.ref s1, .ref s2, vI ct, vI ru, vI re], kI cI s1 8 cap, kI cI s2 9 wi, kO l0 1 [vI n, .ref l1, .ref l2, .ref l3, .ref l4, .ref l5, vI lru1_3, vI lre1_4, vI lar1_5, vI lfi1_6], kI cI l1 8 lcap1_7, kI cI l2 8 lst1_8, kI cI l3 9 lwi1_9, kI cI l4 9 lpl1_10, kI cI l5 9 llk1_11, kO m0 2 [.ref m1, .ref m2], kL cJ m1 1024 ky1_12, kI cI m2 1024 vl1_13] H := hP
    have hD : va_D A [kO x0 6 [vI n, .ref s0, .ref h0, .ref l0, .ref m0, .ref p0, .ref e0, .ref w0, .ref t0, vI tl], kO s0 5 [.ref s1, .ref s2, vI ct, vI ru, vI re], kI cI s1 8 cap, kI cI s2 9 wi, kO l0 1 [vI n, .ref l1, .ref l2, .ref l3, .ref l4, .ref l5, vI lru1_3, vI lre1_4, vI lar1_5, vI lfi1_6], kI cI l1 8 lcap1_7, kI cI l2 8 lst1_8, kI cI l3 9 lwi1_9, kI cI l4 9 lpl1_10, kI cI l5 9 llk1_11, kO m0 2 [.ref m1, .ref m2], kL cJ m1 1024 ky1_12, kI cI m2 1024 vl1_13] := hD
    refine lv_istore (lv' := [(4, vI (cL n cap ru re 0 k9.toNat zeroZ 0)), (3, vI 0), (0, .ref x0), (1, vI n), (2, vI k9)]) hx hb dL_counts_8 hl (by decide) rfl (fun ls hl => ?_)
    refine z_iconst hx hb dL_counts_10 ?_
    refine lv_istore (lv' := [(5, vI 0), (4, vI (cL n cap ru re 0 k9.toNat zeroZ 0)), (3, vI 0), (0, .ref x0), (1, vI n), (2, vI k9)]) hx hb dL_counts_11 hl (by decide) rfl (fun ls hl => ?_)
    have L13 : ∀ (nn : Nat) (i : Int) (bru : Int) (bre : Int) (bar : Int) (bfi : Int) (bcap : Int → Int) (bst : Int → Int) (bwi : Int → Int) (bpl : Int → Int) (blk : Int → Int) (bky : Int → Int) (bvl : Int → Int) (H : Heap) (locs : List Loc) (ls : Array Slot), ((10 + 1 - i).toNat) = nn → (0 ≤ i ∧ i ≤ 10) → va_P dd vwCl [kO x0 6 [vI n, .ref s0, .ref h0, .ref l0, .ref m0, .ref p0, .ref e0, .ref w0, .ref t0, vI tl], kO s0 5 [.ref s1, .ref s2, vI ct, vI ru, vI re], kI cI s1 8 cap, kI cI s2 9 wi, kO l0 1 [vI n, .ref l1, .ref l2, .ref l3, .ref l4, .ref l5, vI bru, vI bre, vI bar, vI bfi], kI cI l1 8 bcap, kI cI l2 8 bst, kI cI l3 9 bwi, kI cI l4 9 bpl, kI cI l5 9 blk, kO m0 2 [.ref m1, .ref m2], kL cJ m1 1024 bky, kI cI m2 1024 bvl] H → va_D A [kO x0 6 [vI n, .ref s0, .ref h0, .ref l0, .ref m0, .ref p0, .ref e0, .ref w0, .ref t0, vI tl], kO s0 5 [.ref s1, .ref s2, vI ct, vI ru, vI re], kI cI s1 8 cap, kI cI s2 9 wi, kO l0 1 [vI n, .ref l1, .ref l2, .ref l3, .ref l4, .ref l5, vI bru, vI bre, vI bar, vI bfi], kI cI l1 8 bcap, kI cI l2 8 bst, kI cI l3 9 bwi, kI cI l4 9 bpl, kI cI l5 9 blk, kO m0 2 [.ref m1, .ref m2], kL cJ m1 1024 bky, kI cI m2 1024 bvl] → va_S A s.heap H locs → lv_has ls 9 [(3, vI (sumZ (fun x => cL n cap ru re 0 k9.toNat zeroZ x) (Int.toNat i))), (5, vI i), (4, vI (cL n cap ru re 0 k9.toNat zeroZ 0)), (0, .ref x0), (1, vI n), (2, vI k9)] → W p l e (gR 19 260 1560) s m args below meth c H locs (3 + 3 * Int.toNat i) (18 + 18 * Int.toNat i) Q (F0 m 13 ls []) := by
      intro nn
      induction nn using Nat.strongRecOn with
      | ind nn L13i =>
      intro i bru bre bar bfi bcap bst bwi bpl blk bky bvl H locs ls hmeas hi hP hD hS hl
      refine lv_iload hx hb dL_counts_13 (lv_at hl 1 rfl) ?_
      refine z_bipush hx hb dL_counts_15 (by decide +kernel) ?_
      refine z_icmp_ge (tgt := 36) hx hb dL_counts_17 (by decide) (by omega) (fun c17 => ?_) (fun c17 => ?_)
      · skip
        refine z_iconst hx hb dL_counts_36 ?_
        refine lv_istore (lv' := [(5, vI 0), (3, vI (sumZ (fun x => cL n cap ru re 0 k9.toNat zeroZ x) (Int.toNat i))), (4, vI (cL n cap ru re 0 k9.toNat zeroZ 0)), (0, .ref x0), (1, vI n), (2, vI k9)]) hx hb dL_counts_37 hl (by decide) rfl (fun ls hl => ?_)
        refine z_iconst hx hb dL_counts_39 ?_
        refine lv_istore (lv' := [(6, vI 0), (5, vI 0), (3, vI (sumZ (fun x => cL n cap ru re 0 k9.toNat zeroZ x) (Int.toNat i))), (4, vI (cL n cap ru re 0 k9.toNat zeroZ 0)), (0, .ref x0), (1, vI n), (2, vI k9)]) hx hb dL_counts_40 hl (by decide) rfl (fun ls hl => ?_)
        refine z_iconst hx hb dL_counts_42 ?_
        refine lv_istore (lv' := [(7, vI 0), (6, vI 0), (5, vI 0), (3, vI (sumZ (fun x => cL n cap ru re 0 k9.toNat zeroZ x) (Int.toNat i))), (4, vI (cL n cap ru re 0 k9.toNat zeroZ 0)), (0, .ref x0), (1, vI n), (2, vI k9)]) hx hb dL_counts_43 hl (by decide) rfl (fun ls hl => ?_)
        have L45 : ∀ (nn : Nat) (i : Int) (bru : Int) (bre : Int) (bar : Int) (bfi : Int) (bcap : Int → Int) (bst : Int → Int) (bwi : Int → Int) (bpl : Int → Int) (blk : Int → Int) (bky : Int → Int) (bvl : Int → Int) (H : Heap) (locs : List Loc) (ls : Array Slot), ((10 + 1 - i).toNat) = nn → (0 ≤ i ∧ i ≤ 10) → va_P dd vwCl [kO x0 6 [vI n, .ref s0, .ref h0, .ref l0, .ref m0, .ref p0, .ref e0, .ref w0, .ref t0, vI tl], kO s0 5 [.ref s1, .ref s2, vI ct, vI ru, vI re], kI cI s1 8 cap, kI cI s2 9 wi, kO l0 1 [vI n, .ref l1, .ref l2, .ref l3, .ref l4, .ref l5, vI bru, vI bre, vI bar, vI bfi], kI cI l1 8 bcap, kI cI l2 8 bst, kI cI l3 9 bwi, kI cI l4 9 bpl, kI cI l5 9 blk, kO m0 2 [.ref m1, .ref m2], kL cJ m1 1024 bky, kI cI m2 1024 bvl] H → va_D A [kO x0 6 [vI n, .ref s0, .ref h0, .ref l0, .ref m0, .ref p0, .ref e0, .ref w0, .ref t0, vI tl], kO s0 5 [.ref s1, .ref s2, vI ct, vI ru, vI re], kI cI s1 8 cap, kI cI s2 9 wi, kO l0 1 [vI n, .ref l1, .ref l2, .ref l3, .ref l4, .ref l5, vI bru, vI bre, vI bar, vI bfi], kI cI l1 8 bcap, kI cI l2 8 bst, kI cI l3 9 bwi, kI cI l4 9 bpl, kI cI l5 9 blk, kO m0 2 [.ref m1, .ref m2], kL cJ m1 1024 bky, kI cI m2 1024 bvl] → va_S A s.heap H locs → lv_has ls 9 [(3, vI (powZ n k9.toNat)), (5, vI (sumZ (fun x => cL n cap ru re 1 k9.toNat zeroZ x) (Int.toNat i))), (7, vI i), (6, vI 0), (4, vI (cL n cap ru re 0 k9.toNat zeroZ 0)), (0, .ref x0), (1, vI n), (2, vI k9)] → W p l e (gR 19 260 1560) s m args below meth c H locs (33 + 3 * Int.toNat i) (198 + 18 * Int.toNat i) Q (F0 m 45 ls []) := by
          intro nn
          induction nn using Nat.strongRecOn with
          | ind nn L45i =>
          intro i bru bre bar bfi bcap bst bwi bpl blk bky bvl H locs ls hmeas hi hP hD hS hl
          refine lv_iload hx hb dL_counts_45 (lv_at hl 2 rfl) ?_
          refine z_bipush hx hb dL_counts_47 (by decide +kernel) ?_
          refine z_icmp_ge (tgt := 70) hx hb dL_counts_49 (by decide) (by omega) (fun c49 => ?_) (fun c49 => ?_)
          · skip
            refine z_iconst hx hb dL_counts_70 ?_
            refine lv_istore (lv' := [(7, vI 0), (3, vI (powZ n k9.toNat)), (5, vI (sumZ (fun x => cL n cap ru re 1 k9.toNat zeroZ x) (Int.toNat i))), (6, vI 0), (4, vI (cL n cap ru re 0 k9.toNat zeroZ 0)), (0, .ref x0), (1, vI n), (2, vI k9)]) hx hb dL_counts_71 hl (by decide) rfl (fun ls hl => ?_)
            have L73 : ∀ (nn : Nat) (i : Int) (bru : Int) (bre : Int) (bar : Int) (bfi : Int) (bcap : Int → Int) (bst : Int → Int) (bwi : Int → Int) (bpl : Int → Int) (blk : Int → Int) (bky : Int → Int) (bvl : Int → Int) (H : Heap) (locs : List Loc) (ls : Array Slot), ((64 + 1 - i).toNat) = nn → (0 ≤ i ∧ i ≤ 64) → va_P dd vwCl [kO x0 6 [vI n, .ref s0, .ref h0, .ref l0, .ref m0, .ref p0, .ref e0, .ref w0, .ref t0, vI tl], kO s0 5 [.ref s1, .ref s2, vI ct, vI ru, vI re], kI cI s1 8 cap, kI cI s2 9 wi, kO l0 1 [vI n, .ref l1, .ref l2, .ref l3, .ref l4, .ref l5, vI bru, vI bre, vI bar, vI bfi], kI cI l1 8 bcap, kI cI l2 8 bst, kI cI l3 9 bwi, kI cI l4 9 bpl, kI cI l5 9 blk, kO m0 2 [.ref m1, .ref m2], kL cJ m1 1024 bky, kI cI m2 1024 bvl] H → va_D A [kO x0 6 [vI n, .ref s0, .ref h0, .ref l0, .ref m0, .ref p0, .ref e0, .ref w0, .ref t0, vI tl], kO s0 5 [.ref s1, .ref s2, vI ct, vI ru, vI re], kI cI s1 8 cap, kI cI s2 9 wi, kO l0 1 [vI n, .ref l1, .ref l2, .ref l3, .ref l4, .ref l5, vI bru, vI bre, vI bar, vI bfi], kI cI l1 8 bcap, kI cI l2 8 bst, kI cI l3 9 bwi, kI cI l4 9 bpl, kI cI l5 9 blk, kO m0 2 [.ref m1, .ref m2], kL cJ m1 1024 bky, kI cI m2 1024 bvl] → va_S A s.heap H locs → lv_has ls 9 [(5, vI (cL n cap ru re 0 k9.toNat zeroZ 0)), (6, vI (sumZ (fun x => cL n cap ru re 2 k9.toNat zeroZ x) (Int.toNat i))), (7, vI i), (3, vI (powZ n k9.toNat)), (4, vI (cL n cap ru re 0 k9.toNat zeroZ 0)), (0, .ref x0), (1, vI n), (2, vI k9)] → W p l e (gR 19 260 1560) s m args below meth c H locs (63 + 3 * Int.toNat i) (378 + 18 * Int.toNat i) Q (F0 m 73 ls []) := by
              intro nn
              induction nn using Nat.strongRecOn with
              | ind nn L73i =>
              intro i bru bre bar bfi bcap bst bwi bpl blk bky bvl H locs ls hmeas hi hP hD hS hl
              refine lv_iload hx hb dL_counts_73 (lv_at hl 2 rfl) ?_
              refine z_bipush hx hb dL_counts_75 (by decide +kernel) ?_
              refine z_icmp_ge (tgt := 98) hx hb dL_counts_77 (by decide) (by omega) (fun c77 => ?_) (fun c77 => ?_)
              · skip
                refine z_iconst hx hb dL_counts_98 ?_
                refine lv_istore (lv' := [(7, vI 1), (5, vI (cL n cap ru re 0 k9.toNat zeroZ 0)), (6, vI (sumZ (fun x => cL n cap ru re 2 k9.toNat zeroZ x) (Int.toNat i))), (3, vI (powZ n k9.toNat)), (4, vI (cL n cap ru re 0 k9.toNat zeroZ 0)), (0, .ref x0), (1, vI n), (2, vI k9)]) hx hb dL_counts_99 hl (by decide) rfl (fun ls hl => ?_)
                refine z_iconst hx hb dL_counts_101 ?_
                refine lv_istore (lv' := [(8, vI 0), (7, vI 1), (5, vI (cL n cap ru re 0 k9.toNat zeroZ 0)), (6, vI (sumZ (fun x => cL n cap ru re 2 k9.toNat zeroZ x) (Int.toNat i))), (3, vI (powZ n k9.toNat)), (4, vI (cL n cap ru re 0 k9.toNat zeroZ 0)), (0, .ref x0), (1, vI n), (2, vI k9)]) hx hb dL_counts_102 hl (by decide) rfl (fun ls hl => ?_)
                have L104 : ∀ (nn : Nat) (i : Int) (bru : Int) (bre : Int) (bar : Int) (bfi : Int) (bcap : Int → Int) (bst : Int → Int) (bwi : Int → Int) (bpl : Int → Int) (blk : Int → Int) (bky : Int → Int) (bvl : Int → Int) (H : Heap) (locs : List Loc) (ls : Array Slot), ((k9 + 1 - i).toNat) = nn → (0 ≤ i ∧ i ≤ k9) → va_P dd vwCl [kO x0 6 [vI n, .ref s0, .ref h0, .ref l0, .ref m0, .ref p0, .ref e0, .ref w0, .ref t0, vI tl], kO s0 5 [.ref s1, .ref s2, vI ct, vI ru, vI re], kI cI s1 8 cap, kI cI s2 9 wi, kO l0 1 [vI n, .ref l1, .ref l2, .ref l3, .ref l4, .ref l5, vI bru, vI bre, vI bar, vI bfi], kI cI l1 8 bcap, kI cI l2 8 bst, kI cI l3 9 bwi, kI cI l4 9 bpl, kI cI l5 9 blk, kO m0 2 [.ref m1, .ref m2], kL cJ m1 1024 bky, kI cI m2 1024 bvl] H → va_D A [kO x0 6 [vI n, .ref s0, .ref h0, .ref l0, .ref m0, .ref p0, .ref e0, .ref w0, .ref t0, vI tl], kO s0 5 [.ref s1, .ref s2, vI ct, vI ru, vI re], kI cI s1 8 cap, kI cI s2 9 wi, kO l0 1 [vI n, .ref l1, .ref l2, .ref l3, .ref l4, .ref l5, vI bru, vI bre, vI bar, vI bfi], kI cI l1 8 bcap, kI cI l2 8 bst, kI cI l3 9 bwi, kI cI l4 9 bpl, kI cI l5 9 blk, kO m0 2 [.ref m1, .ref m2], kL cJ m1 1024 bky, kI cI m2 1024 bvl] → va_S A s.heap H locs → lv_has ls 9 [(8, vI i), (7, vI (powZ n (Int.toNat i))), (6, vI (cL n cap ru re 0 k9.toNat zeroZ 0)), (5, vI (cL n cap ru re 0 k9.toNat zeroZ 0)), (3, vI (powZ n k9.toNat)), (4, vI (cL n cap ru re 0 k9.toNat zeroZ 0)), (0, .ref x0), (1, vI n), (2, vI k9)] → W p l e (gR 19 260 1560) s m args below meth c H locs 255 1530 Q (F0 m 104 ls []) := by
                  intro nn
                  induction nn using Nat.strongRecOn with
                  | ind nn L104i =>
                  intro i bru bre bar bfi bcap bst bwi bpl blk bky bvl H locs ls hmeas hi hP hD hS hl
                  refine lv_iload hx hb dL_counts_104 (lv_at hl 0 rfl) ?_
                  refine lv_iload_n hx hb dL_counts_106 rfl (lv_at hl 8 rfl) ?_
                  refine z_icmp_ge (tgt := 122) hx hb dL_counts_107 (by decide) (by omega) (fun c107 => ?_) (fun c107 => ?_)
                  · skip
                    refine lv_iload_n hx hb dL_counts_122 rfl (lv_at hl 4 rfl) ?_
                    refine lv_iload hx hb dL_counts_123 (lv_at hl 1 rfl) ?_
                    have heq_14 : (powZ n k9.toNat) = (powZ n (Int.toNat i)) := by rw [show i = k9 by omega]
                    refine z_ne_same (tgt := 146) hx hb heq_14 dL_counts_125 (by decide) ?_
                    refine lv_iload hx hb dL_counts_128 (lv_at hl 3 rfl) ?_
                    refine lv_iload hx hb dL_counts_130 (lv_at hl 5 rfl) ?_
                    have heq_15 : (cL n cap ru re 0 k9.toNat zeroZ 0) = cL n cap ru re 0 k9.toNat zeroZ 0 := rfl
                    refine z_ne_same (tgt := 146) hx hb heq_15 dL_counts_132 (by decide) ?_
                    refine lv_iload hx hb dL_counts_135 (lv_at hl 2 rfl) ?_
                    refine lv_iload hx hb dL_counts_137 (lv_at hl 5 rfl) ?_
                    have heq_16 : (cL n cap ru re 0 k9.toNat zeroZ 0) = cL n cap ru re 0 k9.toNat zeroZ 0 := rfl
                    refine z_ne_same (tgt := 146) hx hb heq_16 dL_counts_139 (by decide) ?_
                    refine z_iconst hx hb dL_counts_142 ?_
                    refine lv_goto (tgt := 147) hx hb dL_counts_143 (by decide) ?_
                    subst hQ
                    refine z_zret (z := 1) hx hb hr hlocks dL_counts_147 (by omega) (bru, bre, bar, bfi, bcap, bst, bwi, bpl, blk, bky, bvl) hK hS ⟨by omega, by omega⟩ hP hD ?_
                    first | rfl | trivial | omega
                  · skip
                    refine lv_iload hx hb dL_counts_110 (lv_at hl 1 rfl) ?_
                    refine lv_iload_n hx hb dL_counts_112 rfl (lv_at hl 7 rfl) ?_
                    refine z_imul (z := ((powZ n (Int.toNat i)) * n)) hx hb rfl dL_counts_113 ?_
                    refine lv_istore (lv' := [(7, vI ((powZ n (Int.toNat i)) * n)), (8, vI i), (6, vI (cL n cap ru re 0 k9.toNat zeroZ 0)), (5, vI (cL n cap ru re 0 k9.toNat zeroZ 0)), (3, vI (powZ n k9.toNat)), (4, vI (cL n cap ru re 0 k9.toNat zeroZ 0)), (0, .ref x0), (1, vI n), (2, vI k9)]) hx hb dL_counts_114 hl (by decide) rfl (fun ls hl => ?_)
                    refine z_iinc (a := i) (z := (i + 1)) (lv' := [(8, vI (i + 1)), (7, vI ((powZ n (Int.toNat i)) * n)), (6, vI (cL n cap ru re 0 k9.toNat zeroZ 0)), (5, vI (cL n cap ru re 0 k9.toNat zeroZ 0)), (3, vI (powZ n k9.toNat)), (4, vI (cL n cap ru re 0 k9.toNat zeroZ 0)), (0, .ref x0), (1, vI n), (2, vI k9)]) hx hb dL_counts_116 hl (k := 1) rfl rfl (by decide) rfl (fun ls hl => ?_)
                    refine lv_goto (tgt := 104) hx hb dL_counts_119 (by decide) ?_
                    have el_17 : vI ((powZ n (Int.toNat i)) * n) = vI (powZ n (Int.toNat (i + 1))) := congrArg _ ((powZ_s (by omega)).symm)
                    have hl := Eq.mp (congrArg (fun v9 => lv_has ls 9 [(8, vI (i + 1)), (7, v9), (6, vI (cL n cap ru re 0 k9.toNat zeroZ 0)), (5, vI (cL n cap ru re 0 k9.toNat zeroZ 0)), (3, vI (powZ n k9.toNat)), (4, vI (cL n cap ru re 0 k9.toNat zeroZ 0)), (0, .ref x0), (1, vI n), (2, vI k9)]) el_17) hl
                    exact L104i _ (by omega) (i + 1) bru bre bar bfi bcap bst bwi bpl blk bky bvl H locs ls rfl (by first | assumption | omega) hP hD hS hl
                have el_18 : vI 1 = vI (powZ n (Int.toNat 0)) := congrArg _ (rfl)
                have hl := Eq.mp (congrArg (fun v9 => lv_has ls 9 [(8, vI 0), (7, v9), (5, vI (cL n cap ru re 0 k9.toNat zeroZ 0)), (6, vI (sumZ (fun x => cL n cap ru re 2 k9.toNat zeroZ x) (Int.toNat i))), (3, vI (powZ n k9.toNat)), (4, vI (cL n cap ru re 0 k9.toNat zeroZ 0)), (0, .ref x0), (1, vI n), (2, vI k9)]) el_18) hl
                have el_19 : vI (sumZ (fun x => cL n cap ru re 2 k9.toNat zeroZ x) (Int.toNat i)) = vI (cL n cap ru re 0 k9.toNat zeroZ 0) := congrArg _ (by rw [show i = 64 by omega]; exact all_sums hn (by omega) (mul_le63 hn (by omega)))
                have hl := Eq.mp (congrArg (fun v9 => lv_has ls 9 [(8, vI 0), (7, vI (powZ n (Int.toNat 0))), (5, vI (cL n cap ru re 0 k9.toNat zeroZ 0)), (6, v9), (3, vI (powZ n k9.toNat)), (4, vI (cL n cap ru re 0 k9.toNat zeroZ 0)), (0, .ref x0), (1, vI n), (2, vI k9)]) el_19) hl
                refine W.widen (k := 255) (n := 1530) (by omega) (by omega) ?_
                exact L104 _ 0 bru bre bar bfi bcap bst bwi bpl blk bky bvl H locs ls rfl (by first | assumption | omega) hP hD hS (lv_sub hl [0, 1, 3, 2, 4, 5, 6, 7, 8] rfl)
              · skip
                refine lv_iload hx hb dL_counts_80 (lv_at hl 1 rfl) ?_
                refine lv_aload_n hx hb dL_counts_82 rfl (lv_at hl 5 rfl) ?_
                refine lv_iload_n hx hb dL_counts_83 rfl (lv_at hl 7 rfl) ?_
                refine lv_iload hx hb dL_counts_84 (lv_at hl 2 rfl) ?_
                refine g_hcallVi (own := RL) (n := 2) (mc := 3) (ms := 18) (As := [vI k9, vI i]) (rest := [vI (sumZ (fun x => cL n cap ru re 2 k9.toNat zeroZ x) (Int.toNat i))]) (wc := [kO x0 6 [vI n, .ref s0, .ref h0, .ref l0, .ref m0, .ref p0, .ref e0, .ref w0, .ref t0, vI tl], kO s0 5 [.ref s1, .ref s2, vI ct, vI ru, vI re], kI cI s1 8 cap, kI cI s2 9 wi, kO l0 1 [vI n, .ref l1, .ref l2, .ref l3, .ref l4, .ref l5, vI bru, vI bre, vI bar, vI bfi], kI cI l1 8 bcap, kI cI l2 8 bst, kI cI l3 9 bwi, kI cI l4 9 bpl, kI cI l5 9 blk, kO m0 2 [.ref m1, .ref m2], kL cJ m1 1024 bky, kI cI m2 1024 bvl]) (wr := []) hx hb hml hown hts hK hP hD hS hA [0, 1, 2, 3, 4, 5, 6, 7, 8, 9, 10, 11, 12] [] rfl rfl (by decide) (by decide) 6 0 rfl rfl (c_X6_countSum l hfl dd cI cJ cC cS x0 s0 h0 l0 m0 p0 e0 w0 t0 s1 s2 l1 l2 l3 l4 l5 m1 m2 n tl cap wi ct ru re bru bre bar bfi bcap bst bwi bpl blk bky bvl k9 i H.size (by first | assumption | omega) (by first | assumption | omega) (by first | assumption | (intro j h0 h1; omega)) (by first | assumption | (intro j h0 h1; omega)) (by first | assumption | omega) (by first | assumption | omega) (by first | assumption | omega) (by first | assumption | omega)) gL_counts_X6_countSum rfl (by decide +kernel) (by decide) (by decide) (by decide) (⟨by show _ ≤ 260; omega, by show _ ≤ 1560; omega⟩) rfl hl.1 rfl (Nat.le_of_ble_eq_true rfl) dL_counts_86 hE (fun E u_21 ce q9 H locs hpx hP hD hS hcell hv hcl => ?_) (fun z_20 u_21 H locs hp86 hP hD hS => ?_)
                · have hpx : (E = xIA ∧ ¬ ((0 ≤ k9 ∧ k9 ≤ 9) ∧ (0 ≤ i ∧ i ≤ 63))) ∨ (E = xIS ∧ ((0 ≤ k9 ∧ k9 ≤ 9) ∧ (0 ≤ i ∧ i ≤ 63)) ∧ 50000 < powZ n k9.toNat) := hpx
                  exfalso; have h9 := powZ_le (m := k9) hn (by omega); rcases hpx with ⟨_, h8⟩ | ⟨_, h8⟩ <;> omega
                · skip
                  obtain ⟨lru1_22, lre1_23, lar1_24, lfi1_25, lcap1_26, lst1_27, lwi1_28, lpl1_29, llk1_30, ky1_31, vl1_32⟩ := u_21
                  try dsimp only at hp86
                  obtain ⟨z_20e, hp86⟩ := hp86
                  subst z_20
                  have hP : va_P dd vwCl [kO x0 6 [vI n, .ref s0, .ref h0, .ref l0, .ref m0, .ref p0, .ref e0, .ref w0, .ref t0, vI tl], kO s0 5 [.ref s1, .ref s2, vI ct, vI ru, vI re], kI cI s1 8 cap, kI cI s2 9 wi, kO l0 1 [vI n, .ref l1, .ref l2, .ref l3, .ref l4, .ref l5, vI lru1_22, vI lre1_23, vI lar1_24, vI lfi1_25], kI cI l1 8 lcap1_26, kI cI l2 8 lst1_27, kI cI l3 9 lwi1_28, kI cI l4 9 lpl1_29, kI cI l5 9 llk1_30, kO m0 2 [.ref m1, .ref m2], kL cJ m1 1024 ky1_31, kI cI m2 1024 vl1_32] H := hP
                  have hD : va_D A [kO x0 6 [vI n, .ref s0, .ref h0, .ref l0, .ref m0, .ref p0, .ref e0, .ref w0, .ref t0, vI tl], kO s0 5 [.ref s1, .ref s2, vI ct, vI ru, vI re], kI cI s1 8 cap, kI cI s2 9 wi, kO l0 1 [vI n, .ref l1, .ref l2, .ref l3, .ref l4, .ref l5, vI lru1_22, vI lre1_23, vI lar1_24, vI lfi1_25], kI cI l1 8 lcap1_26, kI cI l2 8 lst1_27, kI cI l3 9 lwi1_28, kI cI l4 9 lpl1_29, kI cI l5 9 llk1_30, kO m0 2 [.ref m1, .ref m2], kL cJ m1 1024 ky1_31, kI cI m2 1024 vl1_32] := hD
                  refine z_iadd (z := ((sumZ (fun x => cL n cap ru re 2 k9.toNat zeroZ x) (Int.toNat i)) + cL n cap ru re 2 k9.toNat zeroZ i)) hx hb rfl dL_counts_89 ?_
                  refine lv_istore (lv' := [(6, vI ((sumZ (fun x => cL n cap ru re 2 k9.toNat zeroZ x) (Int.toNat i)) + cL n cap ru re 2 k9.toNat zeroZ i)), (5, vI (cL n cap ru re 0 k9.toNat zeroZ 0)), (7, vI i), (3, vI (powZ n k9.toNat)), (4, vI (cL n cap ru re 0 k9.toNat zeroZ 0)), (0, .ref x0), (1, vI n), (2, vI k9)]) hx hb dL_counts_90 hl (by decide) rfl (fun ls hl => ?_)
                  refine z_iinc (a := i) (z := (i + 1)) (lv' := [(7, vI (i + 1)), (6, vI ((sumZ (fun x => cL n cap ru re 2 k9.toNat zeroZ x) (Int.toNat i)) + cL n cap ru re 2 k9.toNat zeroZ i)), (5, vI (cL n cap ru re 0 k9.toNat zeroZ 0)), (3, vI (powZ n k9.toNat)), (4, vI (cL n cap ru re 0 k9.toNat zeroZ 0)), (0, .ref x0), (1, vI n), (2, vI k9)]) hx hb dL_counts_92 hl (k := 2) rfl rfl (by decide) rfl (fun ls hl => ?_)
                  refine lv_goto (tgt := 73) hx hb dL_counts_95 (by decide) ?_
                  have el_33 : vI ((sumZ (fun x => cL n cap ru re 2 k9.toNat zeroZ x) (Int.toNat i)) + cL n cap ru re 2 k9.toNat zeroZ i) = vI (sumZ (fun x => cL n cap ru re 2 k9.toNat zeroZ x) (Int.toNat (i + 1))) := congrArg _ ((sumZ_s (f := (fun x => cL n cap ru re 2 k9.toNat zeroZ x)) (by omega)).symm)
                  have hl := Eq.mp (congrArg (fun v9 => lv_has ls 9 [(7, vI (i + 1)), (6, v9), (5, vI (cL n cap ru re 0 k9.toNat zeroZ 0)), (3, vI (powZ n k9.toNat)), (4, vI (cL n cap ru re 0 k9.toNat zeroZ 0)), (0, .ref x0), (1, vI n), (2, vI k9)]) el_33) hl
                  refine W.widen (k := (63 + 3 * Int.toNat (i + 1))) (n := (378 + 18 * Int.toNat (i + 1))) (by omega) (by omega) ?_
                  exact L73i _ (by omega) (i + 1) lru1_22 lre1_23 lar1_24 lfi1_25 lcap1_26 lst1_27 lwi1_28 lpl1_29 llk1_30 ky1_31 vl1_32 H locs ls rfl (by first | assumption | omega) hP hD hS (lv_sub hl [2, 1, 0, 3, 4, 5, 6, 7] rfl)
            have el_34 : vI (sumZ (fun x => cL n cap ru re 1 k9.toNat zeroZ x) (Int.toNat i)) = vI (cL n cap ru re 0 k9.toNat zeroZ 0) := congrArg _ (by rw [show i = 10 by omega]; exact all_lucky hn (by omega))
            have hl := Eq.mp (congrArg (fun v9 => lv_has ls 9 [(7, vI 0), (3, vI (powZ n k9.toNat)), (5, v9), (6, vI 0), (4, vI (cL n cap ru re 0 k9.toNat zeroZ 0)), (0, .ref x0), (1, vI n), (2, vI k9)]) el_34) hl
            have el_35 : vI 0 = vI (sumZ (fun x => cL n cap ru re 2 k9.toNat zeroZ x) (Int.toNat 0)) := congrArg _ (rfl)
            have hl := Eq.mp (congrArg (fun v9 => lv_has ls 9 [(7, vI 0), (3, vI (powZ n k9.toNat)), (5, vI (cL n cap ru re 0 k9.toNat zeroZ 0)), (6, v9), (4, vI (cL n cap ru re 0 k9.toNat zeroZ 0)), (0, .ref x0), (1, vI n), (2, vI k9)]) el_35) hl
            refine W.widen (k := (63 + 3 * Int.toNat 0)) (n := (378 + 18 * Int.toNat 0)) (by omega) (by omega) ?_
            exact L73 _ 0 bru bre bar bfi bcap bst bwi bpl blk bky bvl H locs ls rfl (by first | assumption | omega) hP hD hS (lv_sub hl [2, 3, 0, 1, 4, 5, 6, 7] rfl)
          · skip
            refine lv_iload hx hb dL_counts_52 (lv_at hl 1 rfl) ?_
            refine lv_aload_n hx hb dL_counts_54 rfl (lv_at hl 5 rfl) ?_
            refine lv_iload_n hx hb dL_counts_55 rfl (lv_at hl 7 rfl) ?_
            refine lv_iload hx hb dL_counts_56 (lv_at hl 2 rfl) ?_
            refine g_hcallVi (own := RL) (n := 2) (mc := 3) (ms := 18) (As := [vI k9, vI i]) (rest := [vI (sumZ (fun x => cL n cap ru re 1 k9.toNat zeroZ x) (Int.toNat i))]) (wc := [kO x0 6 [vI n, .ref s0, .ref h0, .ref l0, .ref m0, .ref p0, .ref e0, .ref w0, .ref t0, vI tl], kO s0 5 [.ref s1, .ref s2, vI ct, vI ru, vI re], kI cI s1 8 cap, kI cI s2 9 wi, kO l0 1 [vI n, .ref l1, .ref l2, .ref l3, .ref l4, .ref l5, vI bru, vI bre, vI bar, vI bfi], kI cI l1 8 bcap, kI cI l2 8 bst, kI cI l3 9 bwi, kI cI l4 9 bpl, kI cI l5 9 blk, kO m0 2 [.ref m1, .ref m2], kL cJ m1 1024 bky, kI cI m2 1024 bvl]) (wr := []) hx hb hml hown hts hK hP hD hS hA [0, 1, 2, 3, 4, 5, 6, 7, 8, 9, 10, 11, 12] [] rfl rfl (by decide) (by decide) 6 0 rfl rfl (c_X6_countLucky l hfl dd cI cJ cC cS x0 s0 h0 l0 m0 p0 e0 w0 t0 s1 s2 l1 l2 l3 l4 l5 m1 m2 n tl cap wi ct ru re bru bre bar bfi bcap bst bwi bpl blk bky bvl k9 i H.size (by first | assumption | omega) (by first | assumption | omega) (by first | assumption | (intro j h0 h1; omega)) (by first | assumption | (intro j h0 h1; omega)) (by first | assumption | omega) (by first | assumption | omega) (by first | assumption | omega) (by first | assumption | omega)) gL_counts_X6_countLucky rfl (by decide +kernel) (by decide) (by decide) (by decide) (⟨by show _ ≤ 260; omega, by show _ ≤ 1560; omega⟩) rfl hl.1 rfl (Nat.le_of_ble_eq_true rfl) dL_counts_58 hE (fun E u_37 ce q9 H locs hpx hP hD hS hcell hv hcl => ?_) (fun z_36 u_37 H locs hp58 hP hD hS => ?_)
            · have hpx : (E = xIA ∧ ¬ ((0 ≤ k9 ∧ k9 ≤ 9) ∧ (0 ≤ i ∧ i ≤ 9))) ∨ (E = xIS ∧ ((0 ≤ k9 ∧ k9 ≤ 9) ∧ (0 ≤ i ∧ i ≤ 9)) ∧ 50000 < powZ n k9.toNat) := hpx
              exfalso; have h9 := powZ_le (m := k9) hn (by omega); rcases hpx with ⟨_, h8⟩ | ⟨_, h8⟩ <;> omega
            · skip
              obtain ⟨lru1_38, lre1_39, lar1_40, lfi1_41, lcap1_42, lst1_43, lwi1_44, lpl1_45, llk1_46, ky1_47, vl1_48⟩ := u_37
              try dsimp only at hp58
              obtain ⟨z_36e, hp58⟩ := hp58
              subst z_36
              have hP : va_P dd vwCl [kO x0 6 [vI n, .ref s0, .ref h0, .ref l0, .ref m0, .ref p0, .ref e0, .ref w0, .ref t0, vI tl], kO s0 5 [.ref s1, .ref s2, vI ct, vI ru, vI re], kI cI s1 8 cap, kI cI s2 9 wi, kO l0 1 [vI n, .ref l1, .ref l2, .ref l3, .ref l4, .ref l5, vI lru1_38, vI lre1_39, vI lar1_40, vI lfi1_41], kI cI l1 8 lcap1_42, kI cI l2 8 lst1_43, kI cI l3 9 lwi1_44, kI cI l4 9 lpl1_45, kI cI l5 9 llk1_46, kO m0 2 [.ref m1, .ref m2], kL cJ m1 1024 ky1_47, kI cI m2 1024 vl1_48] H := hP
              have hD : va_D A [kO x0 6 [vI n, .ref s0, .ref h0, .ref l0, .ref m0, .ref p0, .ref e0, .ref w0, .ref t0, vI tl], kO s0 5 [.ref s1, .ref s2, vI ct, vI ru, vI re], kI cI s1 8 cap, kI cI s2 9 wi, kO l0 1 [vI n, .ref l1, .ref l2, .ref l3, .ref l4, .ref l5, vI lru1_38, vI lre1_39, vI lar1_40, vI lfi1_41], kI cI l1 8 lcap1_42, kI cI l2 8 lst1_43, kI cI l3 9 lwi1_44, kI cI l4 9 lpl1_45, kI cI l5 9 llk1_46, kO m0 2 [.ref m1, .ref m2], kL cJ m1 1024 ky1_47, kI cI m2 1024 vl1_48] := hD
              refine z_iadd (z := ((sumZ (fun x => cL n cap ru re 1 k9.toNat zeroZ x) (Int.toNat i)) + cL n cap ru re 1 k9.toNat zeroZ i)) hx hb rfl dL_counts_61 ?_
              refine lv_istore (lv' := [(5, vI ((sumZ (fun x => cL n cap ru re 1 k9.toNat zeroZ x) (Int.toNat i)) + cL n cap ru re 1 k9.toNat zeroZ i)), (3, vI (powZ n k9.toNat)), (7, vI i), (6, vI 0), (4, vI (cL n cap ru re 0 k9.toNat zeroZ 0)), (0, .ref x0), (1, vI n), (2, vI k9)]) hx hb dL_counts_62 hl (by decide) rfl (fun ls hl => ?_)
              refine z_iinc (a := i) (z := (i + 1)) (lv' := [(7, vI (i + 1)), (5, vI ((sumZ (fun x => cL n cap ru re 1 k9.toNat zeroZ x) (Int.toNat i)) + cL n cap ru re 1 k9.toNat zeroZ i)), (3, vI (powZ n k9.toNat)), (6, vI 0), (4, vI (cL n cap ru re 0 k9.toNat zeroZ 0)), (0, .ref x0), (1, vI n), (2, vI k9)]) hx hb dL_counts_64 hl (k := 2) rfl rfl (by decide) rfl (fun ls hl => ?_)
              refine lv_goto (tgt := 45) hx hb dL_counts_67 (by decide) ?_
              have el_49 : vI ((sumZ (fun x => cL n cap ru re 1 k9.toNat zeroZ x) (Int.toNat i)) + cL n cap ru re 1 k9.toNat zeroZ i) = vI (sumZ (fun x => cL n cap ru re 1 k9.toNat zeroZ x) (Int.toNat (i + 1))) := congrArg _ ((sumZ_s (f := (fun x => cL n cap ru re 1 k9.toNat zeroZ x)) (by omega)).symm)
              have hl := Eq.mp (congrArg (fun v9 => lv_has ls 9 [(7, vI (i + 1)), (5, v9), (3, vI (powZ n k9.toNat)), (6, vI 0), (4, vI (cL n cap ru re 0 k9.toNat zeroZ 0)), (0, .ref x0), (1, vI n), (2, vI k9)]) el_49) hl
              refine W.widen (k := (33 + 3 * Int.toNat (i + 1))) (n := (198 + 18 * Int.toNat (i + 1))) (by omega) (by omega) ?_
              exact L45i _ (by omega) (i + 1) lru1_38 lre1_39 lar1_40 lfi1_41 lcap1_42 lst1_43 lwi1_44 lpl1_45 llk1_46 ky1_47 vl1_48 H locs ls rfl (by first | assumption | omega) hP hD hS (lv_sub hl [2, 1, 0, 3, 4, 5, 6, 7] rfl)
        have el_50 : vI (sumZ (fun x => cL n cap ru re 0 k9.toNat zeroZ x) (Int.toNat i)) = vI (powZ n k9.toNat) := congrArg _ (by rw [show i = 10 by omega]; exact all_defects hn (by omega))
        have hl := Eq.mp (congrArg (fun v9 => lv_has ls 9 [(7, vI 0), (6, vI 0), (5, vI 0), (3, v9), (4, vI (cL n cap ru re 0 k9.toNat zeroZ 0)), (0, .ref x0), (1, vI n), (2, vI k9)]) el_50) hl
        have el_51 : vI 0 = vI (sumZ (fun x => cL n cap ru re 1 k9.toNat zeroZ x) (Int.toNat 0)) := congrArg _ (rfl)
        have hl := Eq.mp (congrArg (fun v9 => lv_has ls 9 [(7, vI 0), (6, vI 0), (5, v9), (3, vI (powZ n k9.toNat)), (4, vI (cL n cap ru re 0 k9.toNat zeroZ 0)), (0, .ref x0), (1, vI n), (2, vI k9)]) el_51) hl
        refine W.widen (k := (33 + 3 * Int.toNat 0)) (n := (198 + 18 * Int.toNat 0)) (by omega) (by omega) ?_
        exact L45 _ 0 bru bre bar bfi bcap bst bwi bpl blk bky bvl H locs ls rfl (by first | assumption | omega) hP hD hS (lv_sub hl [3, 2, 0, 1, 4, 5, 6, 7] rfl)
      · skip
        refine lv_iload_n hx hb dL_counts_20 rfl (lv_at hl 0 rfl) ?_
        refine lv_aload_n hx hb dL_counts_21 rfl (lv_at hl 3 rfl) ?_
        refine lv_iload_n hx hb dL_counts_22 rfl (lv_at hl 5 rfl) ?_
        refine lv_iload hx hb dL_counts_23 (lv_at hl 1 rfl) ?_
        refine g_ycallSi (own := RL) (n := 3) (mc := 3) (ms := 18) (As := [.ref x0, vI k9, vI i]) (rest := [vI (sumZ (fun x => cL n cap ru re 0 k9.toNat zeroZ x) (Int.toNat i))]) (wc := [kO x0 6 [vI n, .ref s0, .ref h0, .ref l0, .ref m0, .ref p0, .ref e0, .ref w0, .ref t0, vI tl], kO s0 5 [.ref s1, .ref s2, vI ct, vI ru, vI re], kI cI s1 8 cap, kI cI s2 9 wi, kO l0 1 [vI n, .ref l1, .ref l2, .ref l3, .ref l4, .ref l5, vI bru, vI bre, vI bar, vI bfi], kI cI l1 8 bcap, kI cI l2 8 bst, kI cI l3 9 bwi, kI cI l4 9 bpl, kI cI l5 9 blk, kO m0 2 [.ref m1, .ref m2], kL cJ m1 1024 bky, kI cI m2 1024 bvl]) (wr := []) hx hb hml hown hts hK hP hD hS hA hE hC9 [0, 1, 2, 3, 4, 5, 6, 7, 8, 9, 10, 11, 12] [] rfl rfl (by decide) (by decide) (c_L_counted l hfl dd cI cJ cC cS x0 s0 h0 l0 m0 p0 e0 w0 t0 s1 s2 l1 l2 l3 l4 l5 m1 m2 n tl cap wi ct ru re bru bre bar bfi bcap bst bwi bpl blk bky bvl k9 i H.size (by first | assumption | omega) (by first | assumption | omega) (by first | assumption | (intro j h0 h1; omega)) (by first | assumption | (intro j h0 h1; omega)) (by first | assumption | omega) (by first | assumption | omega) (by first | assumption | omega) (by first | assumption | omega)) gL_counts_L_counted rfl (by decide +kernel) (by decide) (by decide) (by decide) (⟨by show _ ≤ 260; omega, by show _ ≤ 1560; omega⟩) rfl hl.1 rfl (Nat.le_of_ble_eq_true rfl) dL_counts_25 (fun z_52 u_53 H locs hp25 hP hD hS => ?_)
        obtain ⟨lru1_54, lre1_55, lar1_56, lfi1_57, lcap1_58, lst1_59, lwi1_60, lpl1_61, llk1_62, ky1_63, vl1_64⟩ := u_53
        try dsimp only at hp25
        rcases hp25 with ⟨hp25_0, hp25_1, hp25_z⟩ | ⟨hp25_0, hp25_z, hp25_o0, hp25_o1, hp25_o2, hp25_o3, hp25_o4, hp25_o5, hp25_o6, hp25_o7, hp25_o8, hp25_o9, hp25_o10⟩ | ⟨hp25_0, hp25_1, hp25_z, hp25_o0, hp25_o1, hp25_o2, hp25_o3, hp25_o4, hp25_o5, hp25_o6, hp25_o7, hp25_o8, hp25_o9, hp25_o10⟩
        · skip
          subst z_52
          have hP : va_P dd vwCl [kO x0 6 [vI n, .ref s0, .ref h0, .ref l0, .ref m0, .ref p0, .ref e0, .ref w0, .ref t0, vI tl], kO s0 5 [.ref s1, .ref s2, vI ct, vI ru, vI re], kI cI s1 8 cap, kI cI s2 9 wi, kO l0 1 [vI n, .ref l1, .ref l2, .ref l3, .ref l4, .ref l5, vI lru1_54, vI lre1_55, vI lar1_56, vI lfi1_57], kI cI l1 8 lcap1_58, kI cI l2 8 lst1_59, kI cI l3 9 lwi1_60, kI cI l4 9 lpl1_61, kI cI l5 9 llk1_62, kO m0 2 [.ref m1, .ref m2], kL cJ m1 1024 ky1_63, kI cI m2 1024 vl1_64] H := hP
          have hD : va_D A [kO x0 6 [vI n, .ref s0, .ref h0, .ref l0, .ref m0, .ref p0, .ref e0, .ref w0, .ref t0, vI tl], kO s0 5 [.ref s1, .ref s2, vI ct, vI ru, vI re], kI cI s1 8 cap, kI cI s2 9 wi, kO l0 1 [vI n, .ref l1, .ref l2, .ref l3, .ref l4, .ref l5, vI lru1_54, vI lre1_55, vI lar1_56, vI lfi1_57], kI cI l1 8 lcap1_58, kI cI l2 8 lst1_59, kI cI l3 9 lwi1_60, kI cI l4 9 lpl1_61, kI cI l5 9 llk1_62, kO m0 2 [.ref m1, .ref m2], kL cJ m1 1024 ky1_63, kI cI m2 1024 vl1_64] := hD
          refine z_iadd (z := ((sumZ (fun x => cL n cap ru re 0 k9.toNat zeroZ x) (Int.toNat i)) + cL n cap ru re 0 k9.toNat zeroZ i)) hx hb rfl dL_counts_28 ?_
          refine lv_istore_n (lv' := [(3, vI ((sumZ (fun x => cL n cap ru re 0 k9.toNat zeroZ x) (Int.toNat i)) + cL n cap ru re 0 k9.toNat zeroZ i)), (5, vI i), (4, vI (cL n cap ru re 0 k9.toNat zeroZ 0)), (0, .ref x0), (1, vI n), (2, vI k9)]) hx hb dL_counts_29 rfl hl (by decide) rfl (fun ls hl => ?_)
          refine z_iinc (a := i) (z := (i + 1)) (lv' := [(5, vI (i + 1)), (3, vI ((sumZ (fun x => cL n cap ru re 0 k9.toNat zeroZ x) (Int.toNat i)) + cL n cap ru re 0 k9.toNat zeroZ i)), (4, vI (cL n cap ru re 0 k9.toNat zeroZ 0)), (0, .ref x0), (1, vI n), (2, vI k9)]) hx hb dL_counts_30 hl (k := 1) rfl rfl (by decide) rfl (fun ls hl => ?_)
          refine lv_goto (tgt := 13) hx hb dL_counts_33 (by decide) ?_
          have el_65 : vI ((sumZ (fun x => cL n cap ru re 0 k9.toNat zeroZ x) (Int.toNat i)) + cL n cap ru re 0 k9.toNat zeroZ i) = vI (sumZ (fun x => cL n cap ru re 0 k9.toNat zeroZ x) (Int.toNat (i + 1))) := congrArg _ ((sumZ_s (f := (fun x => cL n cap ru re 0 k9.toNat zeroZ x)) (by omega)).symm)
          have hl := Eq.mp (congrArg (fun v9 => lv_has ls 9 [(5, vI (i + 1)), (3, v9), (4, vI (cL n cap ru re 0 k9.toNat zeroZ 0)), (0, .ref x0), (1, vI n), (2, vI k9)]) el_65) hl
          refine W.widen (k := (3 + 3 * Int.toNat (i + 1))) (n := (18 + 18 * Int.toNat (i + 1))) (by omega) (by omega) ?_
          exact L13i _ (by omega) (i + 1) lru1_54 lre1_55 lar1_56 lfi1_57 lcap1_58 lst1_59 lwi1_60 lpl1_61 llk1_62 ky1_63 vl1_64 H locs ls rfl (by first | assumption | omega) hP hD hS (lv_sub hl [1, 0, 2, 3, 4, 5] rfl)
        · skip
          exfalso; omega
        · skip
          exfalso; have h9 := powZ_le (m := k9) hn (by omega); omega
    have el_66 : vI 0 = vI (sumZ (fun x => cL n cap ru re 0 k9.toNat zeroZ x) (Int.toNat 0)) := congrArg _ (rfl)
    have hl := Eq.mp (congrArg (fun v9 => lv_has ls 9 [(5, vI 0), (4, vI (cL n cap ru re 0 k9.toNat zeroZ 0)), (3, v9), (0, .ref x0), (1, vI n), (2, vI k9)]) el_66) hl
    refine W.widen (k := (3 + 3 * Int.toNat 0)) (n := (18 + 18 * Int.toNat 0)) (by omega) (by omega) ?_
    exact L13 _ 0 lru1_3 lre1_4 lar1_5 lfi1_6 lcap1_7 lst1_8 lwi1_9 lpl1_10 llk1_11 ky1_12 vl1_13 H locs ls rfl (by first | assumption | omega) hP hD hS (lv_sub hl [2, 0, 1, 3, 4, 5] rfl)
  · skip
    exfalso; omega
  · skip
    exfalso; have h9 := powZ_le (m := k9) hn (by omega); omega

