/-! what is told of the list that lies hangs together -/
set_option maxHeartbeats 4000000 in
set_option maxRecDepth 100000 in
theorem c_L_agrees (l : Launch) (hfl : l.stackTraces = false) (dd : va_G) (cI cJ cC cS : ClassId) (x0 s0 h0 l0 m0 p0 e0 w0 t0 s1 s2 l1 l2 l3 l4 l5 c0 : Nat) (n tl : Int) (cap wi : Int → Int) (ct ru re : Int) (lru lre lar lfi : Int) (lcap lst lwi lpl llk : Int → Int) (cv : Int → Int) (sz : Nat) (hn : 1 ≤ n ∧ n ≤ 8) (hct : 0 ≤ ct ∧ ct ≤ 9) (hcap : ∀ j : Int, 0 ≤ j → j < n → 0 ≤ cap j ∧ cap j ≤ 3) (hwi : ∀ j : Int, 0 ≤ j → j < ct → 0 ≤ wi j ∧ wi j < n) (hru : 0 ≤ ru ∧ ru ≤ 3) (hre : 0 ≤ re ∧ re ≤ 8) (hcv : ∀ j : Int, 0 ≤ j → j < n → cv j = cap j) : gYi l yL_agrees wsL_agrees 13 190 1200 dd cI cJ cC cS [.ref x0, vI n, .ref c0] [kO x0 6 [vI n, .ref s0, .ref h0, .ref l0, .ref m0, .ref p0, .ref e0, .ref w0, .ref t0, vI tl], kO s0 5 [.ref s1, .ref s2, vI ct, vI ru, vI re], kI cI s1 8 cap, kI cI s2 9 wi, kO l0 1 [vI n, .ref l1, .ref l2, .ref l3, .ref l4, .ref l5, vI lru, vI lre, vI lar, vI lfi], kI cI l1 8 lcap, kI cI l2 8 lst, kI cI l3 9 lwi, kI cI l4 9 lpl, kI cI l5 9 llk, kI cI c0 8 cv] sz (fun (z : Int) (u : Int × Int × Int × Int × (Int → Int) × (Int → Int) × (Int → Int) × (Int → Int) × (Int → Int)) => z = 1) (fun (u : Int × Int × Int × Int × (Int → Int) × (Int → Int) × (Int → Int) × (Int → Int) × (Int → Int)) => [kO x0 6 [vI n, .ref s0, .ref h0, .ref l0, .ref m0, .ref p0, .ref e0, .ref w0, .ref t0, vI tl], kO s0 5 [.ref s1, .ref s2, vI ct, vI ru, vI re], kI cI s1 8 cap, kI cI s2 9 wi, kO l0 1 [vI n, .ref l1, .ref l2, .ref l3, .ref l4, .ref l5, vI u.1, vI u.2.1, vI u.2.2.1, vI u.2.2.2.1], kI cI l1 8 u.2.2.2.2.1, kI cI l2 8 u.2.2.2.2.2.1, kI cI l3 9 u.2.2.2.2.2.2.1, kI cI l4 9 u.2.2.2.2.2.2.2.1, kI cI l5 9 u.2.2.2.2.2.2.2.2, kI cI c0 8 cv]) := by
  refine gYi_ofC (cc := cL_agrees) (maxL := 11) (ret := (some .boolean)) (by decide) rfl (Nat.le_of_ble_eq_true rfl) ?_
  intro p e s m args below meth c A Q hQ hE hC9 hx hb hr hts hown hlocks hml H locs hP hK hD hA hS ls hl
  have hl : lv_has ls 11 [(0, .ref x0), (1, vI n), (2, .ref c0)] := hl
  refine lv_aload_n hx hb dL_agrees_0 rfl (lv_at hl 0 rfl) ?_
  refine g_callVi (own := RL) (n := 0) (mc := 0) (ms := 0) (As := []) (rest := []) (wc := [kO x0 6 [vI n, .ref s0, .ref h0, .ref l0, .ref m0, .ref p0, .ref e0, .ref w0, .ref t0, vI tl], kO s0 5 [.ref s1, .ref s2, vI ct, vI ru, vI re], kI cI s1 8 cap, kI cI s2 9 wi]) (wr := [kO l0 1 [vI n, .ref l1, .ref l2, .ref l3, .ref l4, .ref l5, vI lru, vI lre, vI lar, vI lfi], kI cI l1 8 lcap, kI cI l2 8 lst, kI cI l3 9 lwi, kI cI l4 9 lpl, kI cI l5 9 llk, kI cI c0 8 cv]) hx hb hml hown hts hK hP hD hS hA [0, 1, 2, 3] [4, 5, 6, 7, 8, 9, 10] rfl rfl (by decide) (by decide) 6 0 rfl rfl (c_X6_cars l dd cI cJ cC cS x0 s0 h0 l0 m0 p0 e0 w0 t0 s1 s2 n tl cap wi ct ru re H.size) gL_agrees_X6_cars rfl (by decide +kernel) (by decide) (by decide) (by decide) (⟨by show _ ≤ 190; omega, by show _ ≤ 1200; omega⟩) rfl hl.1 rfl (Nat.le_of_ble_eq_true rfl) dL_agrees_1 (fun z_1 u_2 H locs hp1 hP hD hS => ?_)
  subst z_1
  have hP : va_P dd vwCl [kO l0 1 [vI n, .ref l1, .ref l2, .ref l3, .ref l4, .ref l5, vI lru, vI lre, vI lar, vI lfi], kI cI l1 8 lcap, kI cI l2 8 lst, kI cI l3 9 lwi, kI cI l4 9 lpl, kI cI l5 9 llk, kI cI c0 8 cv, kO x0 6 [vI n, .ref s0, .ref h0, .ref l0, .ref m0, .ref p0, .ref e0, .ref w0, .ref t0, vI tl], kO s0 5 [.ref s1, .ref s2, vI ct, vI ru, vI re], kI cI s1 8 cap, kI cI s2 9 wi] H := hP
  have hD : va_D A [kO l0 1 [vI n, .ref l1, .ref l2, .ref l3, .ref l4, .ref l5, vI lru, vI lre, vI lar, vI lfi], kI cI l1 8 lcap, kI cI l2 8 lst, kI cI l3 9 lwi, kI cI l4 9 lpl, kI cI l5 9 llk, kI cI c0 8 cv, kO x0 6 [vI n, .ref s0, .ref h0, .ref l0, .ref m0, .ref p0, .ref e0, .ref w0, .ref t0, vI tl], kO s0 5 [.ref s1, .ref s2, vI ct, vI ru, vI re], kI cI s1 8 cap, kI cI s2 9 wi] := hD
  refine lv_istore_n (lv' := [(3, vI ct), (0, .ref x0), (1, vI n), (2, .ref c0)]) hx hb dL_agrees_4 rfl hl (by decide) rfl (fun ls hl => ?_)
  refine z_iconst hx hb dL_agrees_5 ?_
  refine lv_istore (lv' := [(4, vI 0), (3, vI ct), (0, .ref x0), (1, vI n), (2, .ref c0)]) hx hb dL_agrees_6 hl (by decide) rfl (fun ls hl => ?_)
  refine z_iconst hx hb dL_agrees_8 ?_
  refine lv_istore (lv' := [(5, vI 0), (4, vI 0), (3, vI ct), (0, .ref x0), (1, vI n), (2, .ref c0)]) hx hb dL_agrees_9 hl (by decide) rfl (fun ls hl => ?_)
  have L11 : ∀ (nn : Nat) (i : Int) (bru : Int) (bre : Int) (bar : Int) (bfi : Int) (bcap : Int → Int) (bst : Int → Int) (bwi : Int → Int) (bpl : Int → Int) (blk : Int → Int) (H : Heap) (locs : List Loc) (ls : Array Slot), ((n + 1 - i).toNat) = nn → (0 ≤ i ∧ i ≤ n) → va_P dd vwCl [kO x0 6 [vI n, .ref s0, .ref h0, .ref l0, .ref m0, .ref p0, .ref e0, .ref w0, .ref t0, vI tl], kO s0 5 [.ref s1, .ref s2, vI ct, vI ru, vI re], kI cI s1 8 cap, kI cI s2 9 wi, kO l0 1 [vI n, .ref l1, .ref l2, .ref l3, .ref l4, .ref l5, vI bru, vI bre, vI bar, vI bfi], kI cI l1 8 bcap, kI cI l2 8 bst, kI cI l3 9 bwi, kI cI l4 9 bpl, kI cI l5 9 blk, kI cI c0 8 cv] H → va_D A [kO x0 6 [vI n, .ref s0, .ref h0, .ref l0, .ref m0, .ref p0, .ref e0, .ref w0, .ref t0, vI tl], kO s0 5 [.ref s1, .ref s2, vI ct, vI ru, vI re], kI cI s1 8 cap, kI cI s2 9 wi, kO l0 1 [vI n, .ref l1, .ref l2, .ref l3, .ref l4, .ref l5, vI bru, vI bre, vI bar, vI bfi], kI cI l1 8 bcap, kI cI l2 8 bst, kI cI l3 9 bwi, kI cI l4 9 bpl, kI cI l5 9 blk, kI cI c0 8 cv] → va_S A s.heap H locs → lv_has ls 11 [(5, vI i), (4, vI (seZ (ppl n cap ru re wi) ct i)), (3, vI ct), (0, .ref x0), (1, vI n), (2, .ref c0)] → W p l e (gR 13 190 1200) s m args below meth c H locs (3 * Int.toNat i) (18 * Int.toNat i) Q (F0 m 11 ls []) := by
    intro nn
    induction nn using Nat.strongRecOn with
    | ind nn L11i =>
    intro i bru bre bar bfi bcap bst bwi bpl blk H locs ls hmeas hi hP hD hS hl
    refine lv_iload hx hb dL_agrees_11 (lv_at hl 0 rfl) ?_
    refine lv_iload_n hx hb dL_agrees_13 rfl (lv_at hl 4 rfl) ?_
    refine z_icmp_ge (tgt := 60) hx hb dL_agrees_14 (by decide) (by omega) (fun c14 => ?_) (fun c14 => ?_)
    · skip
      refine z_iconst hx hb dL_agrees_60 ?_
      refine lv_istore (lv' := [(5, vI 0), (4, vI (seZ (ppl n cap ru re wi) ct i)), (3, vI ct), (0, .ref x0), (1, vI n), (2, .ref c0)]) hx hb dL_agrees_61 hl (by decide) rfl (fun ls hl => ?_)
      refine z_iconst hx hb dL_agrees_63 ?_
      refine lv_istore (lv' := [(6, vI (-1)), (5, vI 0), (4, vI (seZ (ppl n cap ru re wi) ct i)), (3, vI ct), (0, .ref x0), (1, vI n), (2, .ref c0)]) hx hb dL_agrees_64 hl (by decide) rfl (fun ls hl => ?_)
      refine z_iconst hx hb dL_agrees_66 ?_
      refine lv_istore (lv' := [(7, vI 0), (6, vI (-1)), (5, vI 0), (4, vI (seZ (ppl n cap ru re wi) ct i)), (3, vI ct), (0, .ref x0), (1, vI n), (2, .ref c0)]) hx hb dL_agrees_67 hl (by decide) rfl (fun ls hl => ?_)
      refine z_iconst hx hb dL_agrees_69 ?_
      refine lv_istore (lv' := [(8, vI 0), (7, vI 0), (6, vI (-1)), (5, vI 0), (4, vI (seZ (ppl n cap ru re wi) ct i)), (3, vI ct), (0, .ref x0), (1, vI n), (2, .ref c0)]) hx hb dL_agrees_70 hl (by decide) rfl (fun ls hl => ?_)
      have L72 : ∀ (nn : Nat) (k : Int) (fi9 : Int) (bru : Int) (bre : Int) (bar : Int) (bfi : Int) (bcap : Int → Int) (bst : Int → Int) (bwi : Int → Int) (bpl : Int → Int) (blk : Int → Int) (H : Heap) (locs : List Loc) (ls : Array Slot), ((ct + 1 - k).toNat) = nn → (0 ≤ k ∧ k ≤ ct) → (FLV (ppl n cap ru re wi) k fi9) → va_P dd vwCl [kO x0 6 [vI n, .ref s0, .ref h0, .ref l0, .ref m0, .ref p0, .ref e0, .ref w0, .ref t0, vI tl], kO s0 5 [.ref s1, .ref s2, vI ct, vI ru, vI re], kI cI s1 8 cap, kI cI s2 9 wi, kO l0 1 [vI n, .ref l1, .ref l2, .ref l3, .ref l4, .ref l5, vI bru, vI bre, vI bar, vI bfi], kI cI l1 8 bcap, kI cI l2 8 bst, kI cI l3 9 bwi, kI cI l4 9 bpl, kI cI l5 9 blk, kI cI c0 8 cv] H → va_D A [kO x0 6 [vI n, .ref s0, .ref h0, .ref l0, .ref m0, .ref p0, .ref e0, .ref w0, .ref t0, vI tl], kO s0 5 [.ref s1, .ref s2, vI ct, vI ru, vI re], kI cI s1 8 cap, kI cI s2 9 wi, kO l0 1 [vI n, .ref l1, .ref l2, .ref l3, .ref l4, .ref l5, vI bru, vI bre, vI bar, vI bfi], kI cI l1 8 bcap, kI cI l2 8 bst, kI cI l3 9 bwi, kI cI l4 9 bpl, kI cI l5 9 blk, kI cI c0 8 cv] → va_S A s.heap H locs → lv_has ls 11 [(8, vI k), (4, vI (seZ (ppl n cap ru re wi) ct n)), (5, vI (sumZ (dpZ (ppl n cap ru re wi) wi) (Int.toNat k))), (6, vI fi9), (7, vI (sumZ (lcZ (ppl n cap ru re wi) wi) (Int.toNat k))), (0, .ref x0), (1, vI n), (2, .ref c0), (3, vI ct)] → W p l e (gR 13 190 1200) s m args below meth c H locs (24 + 18 * Int.toNat k) (144 + 108 * Int.toNat k) Q (F0 m 72 ls []) := by
        intro nn
        induction nn using Nat.strongRecOn with
        | ind nn L72i =>
        intro k fi9 bru bre bar bfi bcap bst bwi bpl blk H locs ls hmeas hk hfv hP hD hS hl
        refine lv_iload hx hb dL_agrees_72 (lv_at hl 0 rfl) ?_
        refine lv_iload_n hx hb dL_agrees_74 rfl (lv_at hl 8 rfl) ?_
        refine z_icmp_ge (tgt := 272) hx hb dL_agrees_75 (by decide) (by omega) (fun c75 => ?_) (fun c75 => ?_)
        · skip
          refine lv_iload hx hb dL_agrees_272 (lv_at hl 1 rfl) ?_
          refine lv_iload_n hx hb dL_agrees_274 rfl (lv_at hl 8 rfl) ?_
          refine lv_ishr hx hb dL_agrees_275 ?_
          refine z_bin (va := .null) (vb := .null) (y := zI ((seZ (ppl n cap ru re wi) ct n) / 2 ^ ct.toNat)) (zI_shr (by have := se_rg (P := (ppl n cap ru re wi)) hct n; omega)) ?_
          refine z_bin (va := .null) (vb := .null) (y := zI 0) (congrArg zI (se_top hct n)) ?_
          refine z_if_ne (tgt := 324) hx hb dL_agrees_276 (by decide) (by omega) (fun c276 => ?_) (fun c276 => ?_)
          · exact absurd c276 (by omega)
          · skip
            refine lv_aload_n hx hb dL_agrees_279 rfl (lv_at hl 5 rfl) ?_
            refine g_callVi (own := RL) (n := 0) (mc := 0) (ms := 0) (As := []) (rest := []) (wc := [kO x0 6 [vI n, .ref s0, .ref h0, .ref l0, .ref m0, .ref p0, .ref e0, .ref w0, .ref t0, vI tl], kO s0 5 [.ref s1, .ref s2, vI ct, vI ru, vI re], kI cI s1 8 cap, kI cI s2 9 wi, kO l0 1 [vI n, .ref l1, .ref l2, .ref l3, .ref l4, .ref l5, vI bru, vI bre, vI bar, vI bfi], kI cI l1 8 bcap, kI cI l2 8 bst, kI cI l3 9 bwi, kI cI l4 9 bpl, kI cI l5 9 blk]) (wr := [kI cI c0 8 cv]) hx hb hml hown hts hK hP hD hS hA [0, 1, 2, 3, 4, 5, 6, 7, 8, 9] [10] rfl rfl (by decide) (by decide) 6 0 rfl rfl (c_X6_defect l dd cI cJ cC cS x0 s0 h0 l0 m0 p0 e0 w0 t0 s1 s2 l1 l2 l3 l4 l5 n tl cap wi ct ru re bru bre bar bfi bcap bst bwi bpl blk H.size (by first | assumption | omega) (by first | assumption | omega) (by first | assumption | (intro j h0 h1; omega)) (by first | assumption | (intro j h0 h1; omega)) (by first | assumption | omega) (by first | assumption | omega)) gL_agrees_X6_defect rfl (by decide +kernel) (by decide) (by decide) (by decide) (⟨by show _ ≤ 190; omega, by show _ ≤ 1200; omega⟩) rfl hl.1 rfl (Nat.le_of_ble_eq_true rfl) dL_agrees_280 (fun z_3 u_4 H locs hp280 hP hD hS => ?_)
            obtain ⟨lcap1_5, lfi1_6, lst1_7, lwi1_8, lpl1_9, llk1_10⟩ := u_4
            try dsimp only at hp280
            subst z_3
            have hP : va_P dd vwCl [kI cI c0 8 cv, kO x0 6 [vI n, .ref s0, .ref h0, .ref l0, .ref m0, .ref p0, .ref e0, .ref w0, .ref t0, vI tl], kO s0 5 [.ref s1, .ref s2, vI ct, vI ru, vI re], kI cI s1 8 cap, kI cI s2 9 wi, kO l0 1 [vI n, .ref l1, .ref l2, .ref l3, .ref l4, .ref l5, vI ru, vI re, vI ct, vI lfi1_6], kI cI l1 8 lcap1_5, kI cI l2 8 lst1_7, kI cI l3 9 lwi1_8, kI cI l4 9 lpl1_9, kI cI l5 9 llk1_10] H := hP
            have hD : va_D A [kI cI c0 8 cv, kO x0 6 [vI n, .ref s0, .ref h0, .ref l0, .ref m0, .ref p0, .ref e0, .ref w0, .ref t0, vI tl], kO s0 5 [.ref s1, .ref s2, vI ct, vI ru, vI re], kI cI s1 8 cap, kI cI s2 9 wi, kO l0 1 [vI n, .ref l1, .ref l2, .ref l3, .ref l4, .ref l5, vI ru, vI re, vI ct, vI lfi1_6], kI cI l1 8 lcap1_5, kI cI l2 8 lst1_7, kI cI l3 9 lwi1_8, kI cI l4 9 lpl1_9, kI cI l5 9 llk1_10] := hD
            refine lv_iload_n hx hb dL_agrees_283 rfl (lv_at hl 8 rfl) ?_
            refine lv_iload hx hb dL_agrees_284 (lv_at hl 1 rfl) ?_
            refine g_callSi (own := RL) (n := 1) (mc := 0) (ms := 0) (As := [vI (seZ (ppl n cap ru re wi) ct n)]) (rest := [vI ct, vI (sumZ (fun c => if ppl n cap ru re wi c = -1 then 1 else 0) ct.toNat)]) (wc := []) (wr := [kI cI c0 8 cv, kO x0 6 [vI n, .ref s0, .ref h0, .ref l0, .ref m0, .ref p0, .ref e0, .ref w0, .ref t0, vI tl], kO s0 5 [.ref s1, .ref s2, vI ct, vI ru, vI re], kI cI s1 8 cap, kI cI s2 9 wi, kO l0 1 [vI n, .ref l1, .ref l2, .ref l3, .ref l4, .ref l5, vI ru, vI re, vI ct, vI lfi1_6], kI cI l1 8 lcap1_5, kI cI l2 8 lst1_7, kI cI l3 9 lwi1_8, kI cI l4 9 lpl1_9, kI cI l5 9 llk1_10]) hx hb hml hown hts hK hP hD hS hA [] [0, 1, 2, 3, 4, 5, 6, 7, 8, 9, 10] rfl rfl (by decide) (by decide) (c_L_countOf l dd cI cJ cC cS (seZ (ppl n cap ru re wi) ct n) H.size (se_rg hct _)) gL_agrees_L_countOf rfl (by decide +kernel) (by decide) (by decide) (by decide) (⟨by show _ ≤ 190; omega, by show _ ≤ 1200; omega⟩) rfl hl.1 rfl (Nat.le_of_ble_eq_true rfl) dL_agrees_286 (fun z_11 u_12 H locs hp286 hP hD hS => ?_)
            subst z_11
            have hP : va_P dd vwCl [kI cI c0 8 cv, kO x0 6 [vI n, .ref s0, .ref h0, .ref l0, .ref m0, .ref p0, .ref e0, .ref w0, .ref t0, vI tl], kO s0 5 [.ref s1, .ref s2, vI ct, vI ru, vI re], kI cI s1 8 cap, kI cI s2 9 wi, kO l0 1 [vI n, .ref l1, .ref l2, .ref l3, .ref l4, .ref l5, vI ru, vI re, vI ct, vI lfi1_6], kI cI l1 8 lcap1_5, kI cI l2 8 lst1_7, kI cI l3 9 lwi1_8, kI cI l4 9 lpl1_9, kI cI l5 9 llk1_10] H := hP
            have hD : va_D A [kI cI c0 8 cv, kO x0 6 [vI n, .ref s0, .ref h0, .ref l0, .ref m0, .ref p0, .ref e0, .ref w0, .ref t0, vI tl], kO s0 5 [.ref s1, .ref s2, vI ct, vI ru, vI re], kI cI s1 8 cap, kI cI s2 9 wi, kO l0 1 [vI n, .ref l1, .ref l2, .ref l3, .ref l4, .ref l5, vI ru, vI re, vI ct, vI lfi1_6], kI cI l1 8 lcap1_5, kI cI l2 8 lst1_7, kI cI l3 9 lwi1_8, kI cI l4 9 lpl1_9, kI cI l5 9 llk1_10] := hD
            refine z_isub (z := (ct - sumZ (bitZ (seZ (ppl n cap ru re wi) ct n)) 9)) hx hb rfl dL_agrees_289 ?_
            have heq_13 : sumZ (fun c => if ppl n cap ru re wi c = -1 then 1 else 0) ct.toNat = (ct - sumZ (bitZ (seZ (ppl n cap ru re wi) ct n)) 9) := se_defect hct (fun j a b => ppl_rg n cap ru re wi j)
            refine z_ne_same (tgt := 324) hx hb heq_13 dL_agrees_290 (by decide) ?_
            refine lv_aload_n hx hb dL_agrees_293 rfl (lv_at hl 5 rfl) ?_
            refine g_callVi (own := RL) (n := 0) (mc := 0) (ms := 0) (As := []) (rest := []) (wc := [kO x0 6 [vI n, .ref s0, .ref h0, .ref l0, .ref m0, .ref p0, .ref e0, .ref w0, .ref t0, vI tl], kO s0 5 [.ref s1, .ref s2, vI ct, vI ru, vI re], kI cI s1 8 cap, kI cI s2 9 wi, kO l0 1 [vI n, .ref l1, .ref l2, .ref l3, .ref l4, .ref l5, vI ru, vI re, vI ct, vI lfi1_6], kI cI l1 8 lcap1_5, kI cI l2 8 lst1_7, kI cI l3 9 lwi1_8, kI cI l4 9 lpl1_9, kI cI l5 9 llk1_10]) (wr := [kI cI c0 8 cv]) hx hb hml hown hts hK hP hD hS hA [1, 2, 3, 4, 5, 6, 7, 8, 9, 10] [0] rfl rfl (by decide) (by decide) 6 0 rfl rfl (c_X6_firstLeaving l dd cI cJ cC cS x0 s0 h0 l0 m0 p0 e0 w0 t0 s1 s2 l1 l2 l3 l4 l5 n tl cap wi ct ru re ru re ct lfi1_6 lcap1_5 lst1_7 lwi1_8 lpl1_9 llk1_10 H.size (by first | assumption | omega) (by first | assumption | omega) (by first | assumption | (intro j h0 h1; omega)) (by first | assumption | (intro j h0 h1; omega)) (by first | assumption | omega) (by first | assumption | omega)) gL_agrees_X6_firstLeaving rfl (by decide +kernel) (by decide) (by decide) (by decide) (⟨by show _ ≤ 190; omega, by show _ ≤ 1200; omega⟩) rfl hl.1 rfl (Nat.le_of_ble_eq_true rfl) dL_agrees_294 (fun z_14 u_15 H locs hp294 hP hD hS => ?_)
            obtain ⟨lcap1_16, lfi1_17, lst1_18, lwi1_19, lpl1_20, llk1_21⟩ := u_15
            try dsimp only at hp294
            have hP : va_P dd vwCl [kI cI c0 8 cv, kO x0 6 [vI n, .ref s0, .ref h0, .ref l0, .ref m0, .ref p0, .ref e0, .ref w0, .ref t0, vI tl], kO s0 5 [.ref s1, .ref s2, vI ct, vI ru, vI re], kI cI s1 8 cap, kI cI s2 9 wi, kO l0 1 [vI n, .ref l1, .ref l2, .ref l3, .ref l4, .ref l5, vI ru, vI re, vI ct, vI lfi1_17], kI cI l1 8 lcap1_16, kI cI l2 8 lst1_18, kI cI l3 9 lwi1_19, kI cI l4 9 lpl1_20, kI cI l5 9 llk1_21] H := hP
            have hD : va_D A [kI cI c0 8 cv, kO x0 6 [vI n, .ref s0, .ref h0, .ref l0, .ref m0, .ref p0, .ref e0, .ref w0, .ref t0, vI tl], kO s0 5 [.ref s1, .ref s2, vI ct, vI ru, vI re], kI cI s1 8 cap, kI cI s2 9 wi, kO l0 1 [vI n, .ref l1, .ref l2, .ref l3, .ref l4, .ref l5, vI ru, vI re, vI ct, vI lfi1_17], kI cI l1 8 lcap1_16, kI cI l2 8 lst1_18, kI cI l3 9 lwi1_19, kI cI l4 9 lpl1_20, kI cI l5 9 llk1_21] := hD
            have hfl9 : FLV (ppl n cap ru re wi) ct z_14 := hp294
            clear hp294
            refine lv_iload hx hb dL_agrees_297 (lv_at hl 3 rfl) ?_
            have heq_22 : z_14 = fi9 := flv_un hfl9 (by rw [show ct = k by omega]; exact hfv)
            refine z_ne_same (tgt := 324) hx hb heq_22 dL_agrees_299 (by decide) ?_
            refine lv_aload_n hx hb dL_agrees_302 rfl (lv_at hl 5 rfl) ?_
            refine g_callVi (own := RL) (n := 0) (mc := 0) (ms := 0) (As := []) (rest := []) (wc := [kO x0 6 [vI n, .ref s0, .ref h0, .ref l0, .ref m0, .ref p0, .ref e0, .ref w0, .ref t0, vI tl], kO s0 5 [.ref s1, .ref s2, vI ct, vI ru, vI re], kI cI s1 8 cap, kI cI s2 9 wi, kO l0 1 [vI n, .ref l1, .ref l2, .ref l3, .ref l4, .ref l5, vI ru, vI re, vI ct, vI lfi1_17], kI cI l1 8 lcap1_16, kI cI l2 8 lst1_18, kI cI l3 9 lwi1_19, kI cI l4 9 lpl1_20, kI cI l5 9 llk1_21]) (wr := [kI cI c0 8 cv]) hx hb hml hown hts hK hP hD hS hA [1, 2, 3, 4, 5, 6, 7, 8, 9, 10] [0] rfl rfl (by decide) (by decide) 6 0 rfl rfl (c_X6_lucky l dd cI cJ cC cS x0 s0 h0 l0 m0 p0 e0 w0 t0 s1 s2 l1 l2 l3 l4 l5 n tl cap wi ct ru re ru re ct lfi1_17 lcap1_16 lst1_18 lwi1_19 lpl1_20 llk1_21 H.size (by first | assumption | omega) (by first | assumption | omega) (by first | assumption | (intro j h0 h1; omega)) (by first | assumption | (intro j h0 h1; omega)) (by first | assumption | omega) (by first | assumption | omega)) gL_agrees_X6_lucky rfl (by decide +kernel) (by decide) (by decide) (by decide) (⟨by show _ ≤ 190; omega, by show _ ≤ 1200; omega⟩) rfl hl.1 rfl (Nat.le_of_ble_eq_true rfl) dL_agrees_303 (fun z_23 u_24 H locs hp303 hP hD hS => ?_)
            obtain ⟨lcap1_25, lfi1_26, lst1_27, lwi1_28, lpl1_29, llk1_30⟩ := u_24
            try dsimp only at hp303
            subst z_23
            have hP : va_P dd vwCl [kI cI c0 8 cv, kO x0 6 [vI n, .ref s0, .ref h0, .ref l0, .ref m0, .ref p0, .ref e0, .ref w0, .ref t0, vI tl], kO s0 5 [.ref s1, .ref s2, vI ct, vI ru, vI re], kI cI s1 8 cap, kI cI s2 9 wi, kO l0 1 [vI n, .ref l1, .ref l2, .ref l3, .ref l4, .ref l5, vI ru, vI re, vI ct, vI lfi1_26], kI cI l1 8 lcap1_25, kI cI l2 8 lst1_27, kI cI l3 9 lwi1_28, kI cI l4 9 lpl1_29, kI cI l5 9 llk1_30] H := hP
            have hD : va_D A [kI cI c0 8 cv, kO x0 6 [vI n, .ref s0, .ref h0, .ref l0, .ref m0, .ref p0, .ref e0, .ref w0, .ref t0, vI tl], kO s0 5 [.ref s1, .ref s2, vI ct, vI ru, vI re], kI cI s1 8 cap, kI cI s2 9 wi, kO l0 1 [vI n, .ref l1, .ref l2, .ref l3, .ref l4, .ref l5, vI ru, vI re, vI ct, vI lfi1_26], kI cI l1 8 lcap1_25, kI cI l2 8 lst1_27, kI cI l3 9 lwi1_28, kI cI l4 9 lpl1_29, kI cI l5 9 llk1_30] := hD
            refine lv_iload hx hb dL_agrees_306 (lv_at hl 4 rfl) ?_
            have heq_31 : sumZ (fun c => if ppl n cap ru re wi c = wi c then 2 ^ c.toNat else 0) ct.toNat = (sumZ (lcZ (ppl n cap ru re wi) wi) (Int.toNat k)) := by rw [show k = ct by omega]; rfl
            refine z_ne_same (tgt := 324) hx hb heq_31 dL_agrees_308 (by decide) ?_
            refine lv_aload_n hx hb dL_agrees_311 rfl (lv_at hl 5 rfl) ?_
            refine g_callVi (own := RL) (n := 0) (mc := 0) (ms := 0) (As := []) (rest := []) (wc := [kO x0 6 [vI n, .ref s0, .ref h0, .ref l0, .ref m0, .ref p0, .ref e0, .ref w0, .ref t0, vI tl], kO s0 5 [.ref s1, .ref s2, vI ct, vI ru, vI re], kI cI s1 8 cap, kI cI s2 9 wi, kO l0 1 [vI n, .ref l1, .ref l2, .ref l3, .ref l4, .ref l5, vI ru, vI re, vI ct, vI lfi1_26], kI cI l1 8 lcap1_25, kI cI l2 8 lst1_27, kI cI l3 9 lwi1_28, kI cI l4 9 lpl1_29, kI cI l5 9 llk1_30]) (wr := [kI cI c0 8 cv]) hx hb hml hown hts hK hP hD hS hA [1, 2, 3, 4, 5, 6, 7, 8, 9, 10] [0] rfl rfl (by decide) (by decide) 6 0 rfl rfl (c_X6_displacement l dd cI cJ cC cS x0 s0 h0 l0 m0 p0 e0 w0 t0 s1 s2 l1 l2 l3 l4 l5 n tl cap wi ct ru re ru re ct lfi1_26 lcap1_25 lst1_27 lwi1_28 lpl1_29 llk1_30 H.size (by first | assumption | omega) (by first | assumption | omega) (by first | assumption | (intro j h0 h1; omega)) (by first | assumption | (intro j h0 h1; omega)) (by first | assumption | omega) (by first | assumption | omega)) gL_agrees_X6_displacement rfl (by decide +kernel) (by decide) (by decide) (by decide) (⟨by show _ ≤ 190; omega, by show _ ≤ 1200; omega⟩) rfl hl.1 rfl (Nat.le_of_ble_eq_true rfl) dL_agrees_312 (fun z_32 u_33 H locs hp312 hP hD hS => ?_)
            obtain ⟨lcap1_34, lfi1_35, lst1_36, lwi1_37, lpl1_38, llk1_39⟩ := u_33
            try dsimp only at hp312
            subst z_32
            have hP : va_P dd vwCl [kI cI c0 8 cv, kO x0 6 [vI n, .ref s0, .ref h0, .ref l0, .ref m0, .ref p0, .ref e0, .ref w0, .ref t0, vI tl], kO s0 5 [.ref s1, .ref s2, vI ct, vI ru, vI re], kI cI s1 8 cap, kI cI s2 9 wi, kO l0 1 [vI n, .ref l1, .ref l2, .ref l3, .ref l4, .ref l5, vI ru, vI re, vI ct, vI lfi1_35], kI cI l1 8 lcap1_34, kI cI l2 8 lst1_36, kI cI l3 9 lwi1_37, kI cI l4 9 lpl1_38, kI cI l5 9 llk1_39] H := hP
            have hD : va_D A [kI cI c0 8 cv, kO x0 6 [vI n, .ref s0, .ref h0, .ref l0, .ref m0, .ref p0, .ref e0, .ref w0, .ref t0, vI tl], kO s0 5 [.ref s1, .ref s2, vI ct, vI ru, vI re], kI cI s1 8 cap, kI cI s2 9 wi, kO l0 1 [vI n, .ref l1, .ref l2, .ref l3, .ref l4, .ref l5, vI ru, vI re, vI ct, vI lfi1_35], kI cI l1 8 lcap1_34, kI cI l2 8 lst1_36, kI cI l3 9 lwi1_37, kI cI l4 9 lpl1_38, kI cI l5 9 llk1_39] := hD
            refine lv_iload hx hb dL_agrees_315 (lv_at hl 2 rfl) ?_
            have heq_40 : sumZ (fun c => if ppl n cap ru re wi c = -1 then 0 else if 0 ≤ ppl n cap ru re wi c - wi c then ppl n cap ru re wi c - wi c else -(ppl n cap ru re wi c - wi c)) ct.toNat = (sumZ (dpZ (ppl n cap ru re wi) wi) (Int.toNat k)) := by rw [show k = ct by omega]; rfl
            refine z_ne_same (tgt := 324) hx hb heq_40 dL_agrees_317 (by decide) ?_
            refine z_iconst hx hb dL_agrees_320 ?_
            refine lv_goto (tgt := 325) hx hb dL_agrees_321 (by decide) ?_
            subst hQ
            refine z_zret (z := 1) hx hb hr hlocks dL_agrees_325 (by omega) (ru, re, ct, lfi1_35, lcap1_34, lst1_36, lwi1_37, lpl1_38, llk1_39) hK hS ⟨by omega, by omega⟩ (hP.sub [1, 2, 3, 4, 5, 6, 7, 8, 9, 10, 0] rfl) (hD.sub [1, 2, 3, 4, 5, 6, 7, 8, 9, 10, 0] (by decide) rfl) ?_
            first | rfl | trivial | omega
        · skip
          refine lv_aload_n hx hb dL_agrees_78 rfl (lv_at hl 5 rfl) ?_
          refine lv_iload hx hb dL_agrees_79 (lv_at hl 0 rfl) ?_
          refine g_hcallVi (own := RL) (n := 1) (mc := 3) (ms := 18) (As := [vI k]) (rest := []) (wc := [kO x0 6 [vI n, .ref s0, .ref h0, .ref l0, .ref m0, .ref p0, .ref e0, .ref w0, .ref t0, vI tl], kO s0 5 [.ref s1, .ref s2, vI ct, vI ru, vI re], kI cI s1 8 cap, kI cI s2 9 wi, kO l0 1 [vI n, .ref l1, .ref l2, .ref l3, .ref l4, .ref l5, vI bru, vI bre, vI bar, vI bfi], kI cI l1 8 bcap, kI cI l2 8 bst, kI cI l3 9 bwi, kI cI l4 9 bpl, kI cI l5 9 blk]) (wr := [kI cI c0 8 cv]) hx hb hml hown hts hK hP hD hS hA [0, 1, 2, 3, 4, 5, 6, 7, 8, 9] [10] rfl rfl (by decide) (by decide) 6 0 rfl rfl (c_X6_spaceOf l hfl dd cI cJ cC cS x0 s0 h0 l0 m0 p0 e0 w0 t0 s1 s2 l1 l2 l3 l4 l5 n tl cap wi ct ru re bru bre bar bfi bcap bst bwi bpl blk k H.size (by first | assumption | omega) (by first | assumption | omega) (by first | assumption | (intro j h0 h1; omega)) (by first | assumption | (intro j h0 h1; omega)) (by first | assumption | omega) (by first | assumption | omega) (by first | assumption | omega)) gL_agrees_X6_spaceOf rfl (by decide +kernel) (by decide) (by decide) (by decide) (⟨by show _ ≤ 190; omega, by show _ ≤ 1200; omega⟩) rfl hl.1 rfl (Nat.le_of_ble_eq_true rfl) dL_agrees_81 hE (fun E u_42 ce q9 H locs hpx hP hD hS hcell hv hcl => ?_) (fun z_41 u_42 H locs hp81 hP hD hS => ?_)
          · have hpx : E = xIO ∧ ¬ (0 ≤ k ∧ k < ct) := hpx
            exfalso; first | omega | (obtain ⟨_, h9⟩ := hpx; omega) | (rcases hpx with ⟨_, h9⟩ | ⟨_, h9⟩ <;> omega)
          · skip
            obtain ⟨lcap1_43, lfi1_44, lst1_45, lwi1_46, lpl1_47, llk1_48⟩ := u_42
            try dsimp only at hp81
            obtain ⟨z_41e, hp81⟩ := hp81
            subst z_41
            have hP : va_P dd vwCl [kI cI c0 8 cv, kO x0 6 [vI n, .ref s0, .ref h0, .ref l0, .ref m0, .ref p0, .ref e0, .ref w0, .ref t0, vI tl], kO s0 5 [.ref s1, .ref s2, vI ct, vI ru, vI re], kI cI s1 8 cap, kI cI s2 9 wi, kO l0 1 [vI n, .ref l1, .ref l2, .ref l3, .ref l4, .ref l5, vI ru, vI re, vI ct, vI lfi1_44], kI cI l1 8 lcap1_43, kI cI l2 8 lst1_45, kI cI l3 9 lwi1_46, kI cI l4 9 lpl1_47, kI cI l5 9 llk1_48] H := hP
            have hD : va_D A [kI cI c0 8 cv, kO x0 6 [vI n, .ref s0, .ref h0, .ref l0, .ref m0, .ref p0, .ref e0, .ref w0, .ref t0, vI tl], kO s0 5 [.ref s1, .ref s2, vI ct, vI ru, vI re], kI cI s1 8 cap, kI cI s2 9 wi, kO l0 1 [vI n, .ref l1, .ref l2, .ref l3, .ref l4, .ref l5, vI ru, vI re, vI ct, vI lfi1_44], kI cI l1 8 lcap1_43, kI cI l2 8 lst1_45, kI cI l3 9 lwi1_46, kI cI l4 9 lpl1_47, kI cI l5 9 llk1_48] := hD
            have hpr := ppl_rg n cap ru re wi k
            have hwk := hwi k (by omega) (by omega)
            obtain ⟨hpf1, hpf2, hpf3⟩ := plk_facts (cap := cap) (wi := wi) (j := k) hn hru hre hwk
            by_cases hpos : 0 ≤ ppl n cap ru re wi k
            · skip
              have hpr := ppl_rg n cap ru re wi k
              have hwk := hwi k (by omega) (by omega)
              obtain ⟨hpf1, hpf2, hpf3⟩ := plk_facts (cap := cap) (wi := wi) (j := k) hn hru hre hwk
              refine lv_istore (lv' := [(9, vI (ppl n cap ru re wi k)), (8, vI k), (4, vI (seZ (ppl n cap ru re wi) ct n)), (5, vI (sumZ (dpZ (ppl n cap ru re wi) wi) (Int.toNat k))), (6, vI fi9), (7, vI (sumZ (lcZ (ppl n cap ru re wi) wi) (Int.toNat k))), (0, .ref x0), (1, vI n), (2, .ref c0), (3, vI ct)]) hx hb dL_agrees_84 hl (by decide) rfl (fun ls hl => ?_)
              refine lv_aload_n hx hb dL_agrees_86 rfl (lv_at hl 6 rfl) ?_
              refine lv_iload hx hb dL_agrees_87 (lv_at hl 1 rfl) ?_
              refine g_hcallVi (own := RL) (n := 1) (mc := 3) (ms := 18) (As := [vI k]) (rest := []) (wc := [kO x0 6 [vI n, .ref s0, .ref h0, .ref l0, .ref m0, .ref p0, .ref e0, .ref w0, .ref t0, vI tl], kO s0 5 [.ref s1, .ref s2, vI ct, vI ru, vI re], kI cI s1 8 cap, kI cI s2 9 wi]) (wr := [kI cI c0 8 cv, kO l0 1 [vI n, .ref l1, .ref l2, .ref l3, .ref l4, .ref l5, vI ru, vI re, vI ct, vI lfi1_44], kI cI l1 8 lcap1_43, kI cI l2 8 lst1_45, kI cI l3 9 lwi1_46, kI cI l4 9 lpl1_47, kI cI l5 9 llk1_48]) hx hb hml hown hts hK hP hD hS hA [1, 2, 3, 4] [0, 5, 6, 7, 8, 9, 10] rfl rfl (by decide) (by decide) 6 0 rfl rfl (c_X6_preference l hfl dd cI cJ cC cS x0 s0 h0 l0 m0 p0 e0 w0 t0 s1 s2 n tl cap wi ct ru re k H.size (by first | assumption | omega) (by first | assumption | omega) (by first | assumption | (intro j h0 h1; omega)) (by first | assumption | (intro j h0 h1; omega)) (by first | assumption | omega) (by first | assumption | omega) (by first | assumption | omega)) gL_agrees_X6_preference rfl (by decide +kernel) (by decide) (by decide) (by decide) (⟨by show _ ≤ 190; omega, by show _ ≤ 1200; omega⟩) rfl hl.1 rfl (Nat.le_of_ble_eq_true rfl) dL_agrees_89 hE (fun E u_50 ce q9 H locs hpx hP hD hS hcell hv hcl => ?_) (fun z_49 u_50 H locs hp89 hP hD hS => ?_)
              · have hpx : E = xIO ∧ ¬ (0 ≤ k ∧ k < ct) := hpx
                exfalso; first | omega | (obtain ⟨_, h9⟩ := hpx; omega) | (rcases hpx with ⟨_, h9⟩ | ⟨_, h9⟩ <;> omega)
              · skip
                obtain ⟨z_49e, hp89⟩ := hp89
                subst z_49
                have hP : va_P dd vwCl [kI cI c0 8 cv, kO l0 1 [vI n, .ref l1, .ref l2, .ref l3, .ref l4, .ref l5, vI ru, vI re, vI ct, vI lfi1_44], kI cI l1 8 lcap1_43, kI cI l2 8 lst1_45, kI cI l3 9 lwi1_46, kI cI l4 9 lpl1_47, kI cI l5 9 llk1_48, kO x0 6 [vI n, .ref s0, .ref h0, .ref l0, .ref m0, .ref p0, .ref e0, .ref w0, .ref t0, vI tl], kO s0 5 [.ref s1, .ref s2, vI ct, vI ru, vI re], kI cI s1 8 cap, kI cI s2 9 wi] H := hP
                have hD : va_D A [kI cI c0 8 cv, kO l0 1 [vI n, .ref l1, .ref l2, .ref l3, .ref l4, .ref l5, vI ru, vI re, vI ct, vI lfi1_44], kI cI l1 8 lcap1_43, kI cI l2 8 lst1_45, kI cI l3 9 lwi1_46, kI cI l4 9 lpl1_47, kI cI l5 9 llk1_48, kO x0 6 [vI n, .ref s0, .ref h0, .ref l0, .ref m0, .ref p0, .ref e0, .ref w0, .ref t0, vI tl], kO s0 5 [.ref s1, .ref s2, vI ct, vI ru, vI re], kI cI s1 8 cap, kI cI s2 9 wi] := hD
                refine lv_istore (lv' := [(10, vI (wi k)), (9, vI (ppl n cap ru re wi k)), (8, vI k), (4, vI (seZ (ppl n cap ru re wi) ct n)), (5, vI (sumZ (dpZ (ppl n cap ru re wi) wi) (Int.toNat k))), (6, vI fi9), (7, vI (sumZ (lcZ (ppl n cap ru re wi) wi) (Int.toNat k))), (0, .ref x0), (1, vI n), (2, .ref c0), (3, vI ct)]) hx hb dL_agrees_92 hl (by decide) rfl (fun ls hl => ?_)
                refine lv_iload hx hb dL_agrees_94 (lv_at hl 1 rfl) ?_
                refine z_iconst hx hb dL_agrees_96 ?_
                refine z_icmp_lt (tgt := 191) hx hb dL_agrees_97 (by decide) (by omega) (fun c97 => ?_) (fun c97 => ?_)
                · exact absurd c97 (by omega)
                · skip
                  refine lv_iload hx hb dL_agrees_100 (lv_at hl 1 rfl) ?_
                  refine lv_iload_n hx hb dL_agrees_102 rfl (lv_at hl 8 rfl) ?_
                  refine z_icmp_ge (tgt := 191) hx hb dL_agrees_103 (by decide) (by omega) (fun c103 => ?_) (fun c103 => ?_)
                  · exact absurd c103 (by omega)
                  · skip
                    refine lv_iload hx hb dL_agrees_106 (lv_at hl 1 rfl) ?_
                    refine z_if_lt (tgt := 115) hx hb dL_agrees_108 (by decide) (by omega) (fun c108 => ?_) (fun c108 => ?_)
                    · exact absurd c108 (by omega)
                    · skip
                      refine z_iconst hx hb dL_agrees_111 ?_
                      refine lv_goto (tgt := 116) hx hb dL_agrees_112 (by decide) ?_
                      refine lv_iload hx hb dL_agrees_116 (lv_at hl 3 rfl) ?_
                      refine lv_iload hx hb dL_agrees_118 (lv_at hl 2 rfl) ?_
                      refine lv_ishr hx hb dL_agrees_120 ?_
                      refine z_bin (va := .null) (vb := .null) (y := zI ((seZ (ppl n cap ru re wi) ct n) / 2 ^ k.toNat)) (zI_shr (by have := se_rg (P := (ppl n cap ru re wi)) hct n; omega)) ?_
                      refine z_iconst hx hb dL_agrees_121 ?_
                      refine lv_iand hx hb dL_agrees_122 ?_
                      refine z_bin (va := .null) (vb := .null) (y := zI (((seZ (ppl n cap ru re wi) ct n) / 2 ^ k.toNat) % 2)) (zI_and1 (Int.ediv_nonneg (se_rg (P := (ppl n cap ru re wi)) hct _).1 (Int.le_of_lt (pow_pos2 _)))) ?_
                      refine z_bin (va := .null) (vb := .null) (y := zI 1) (congrArg zI ((se_bit hct (by omega) (by omega)).trans (if_pos (by omega)))) ?_
                      refine z_iconst hx hb dL_agrees_123 ?_
                      refine z_icmp_ne (tgt := 131) hx hb dL_agrees_124 (by decide) (by omega) (fun c124 => ?_) (fun c124 => ?_)
                      · exact absurd c124 (by omega)
                      · skip
                        refine z_iconst hx hb dL_agrees_127 ?_
                        refine lv_goto (tgt := 132) hx hb dL_agrees_128 (by decide) ?_
                        refine z_icmp_ne (tgt := 191) hx hb dL_agrees_132 (by decide) (by omega) (fun c132 => ?_) (fun c132 => ?_)
                        · exact absurd c132 (by omega)
                        · skip
                          refine lv_iload hx hb dL_agrees_135 (lv_at hl 1 rfl) ?_
                          refine z_if_lt (tgt := 154) hx hb dL_agrees_137 (by decide) (by omega) (fun c137 => ?_) (fun c137 => ?_)
                          · exact absurd c137 (by omega)
                          · skip
                            refine lv_aload_n hx hb dL_agrees_140 rfl (lv_at hl 7 rfl) ?_
                            refine lv_iload hx hb dL_agrees_141 (lv_at hl 1 rfl) ?_
                            refine g_hcallVi (own := RL) (n := 1) (mc := 3) (ms := 18) (As := [vI (ppl n cap ru re wi k)]) (rest := []) (wc := [kO x0 6 [vI n, .ref s0, .ref h0, .ref l0, .ref m0, .ref p0, .ref e0, .ref w0, .ref t0, vI tl], kO s0 5 [.ref s1, .ref s2, vI ct, vI ru, vI re], kI cI s1 8 cap, kI cI s2 9 wi, kO l0 1 [vI n, .ref l1, .ref l2, .ref l3, .ref l4, .ref l5, vI ru, vI re, vI ct, vI lfi1_44], kI cI l1 8 lcap1_43, kI cI l2 8 lst1_45, kI cI l3 9 lwi1_46, kI cI l4 9 lpl1_47, kI cI l5 9 llk1_48]) (wr := [kI cI c0 8 cv]) hx hb hml hown hts hK hP hD hS hA [7, 8, 9, 10, 1, 2, 3, 4, 5, 6] [0] rfl rfl (by decide) (by decide) 6 0 rfl rfl (c_X6_carsIn l hfl dd cI cJ cC cS x0 s0 h0 l0 m0 p0 e0 w0 t0 s1 s2 l1 l2 l3 l4 l5 n tl cap wi ct ru re ru re ct lfi1_44 lcap1_43 lst1_45 lwi1_46 lpl1_47 llk1_48 (ppl n cap ru re wi k) H.size (by first | assumption | omega) (by first | assumption | omega) (by first | assumption | (intro j h0 h1; omega)) (by first | assumption | (intro j h0 h1; omega)) (by first | assumption | omega) (by first | assumption | omega) (by first | assumption | omega)) gL_agrees_X6_carsIn rfl (by decide +kernel) (by decide) (by decide) (by decide) (⟨by show _ ≤ 190; omega, by show _ ≤ 1200; omega⟩) rfl hl.1 rfl (Nat.le_of_ble_eq_true rfl) dL_agrees_143 hE (fun E u_52 ce q9 H locs hpx hP hD hS hcell hv hcl => ?_) (fun z_51 u_52 H locs hp143 hP hD hS => ?_)
                            · have hpx : E = xIO ∧ ¬ (0 ≤ (ppl n cap ru re wi k) ∧ (ppl n cap ru re wi k) < n) := hpx
                              exfalso; first | omega | (obtain ⟨_, h9⟩ := hpx; omega) | (rcases hpx with ⟨_, h9⟩ | ⟨_, h9⟩ <;> omega)
                            · skip
                              obtain ⟨lcap1_53, lfi1_54, lst1_55, lwi1_56, lpl1_57, llk1_58⟩ := u_52
                              try dsimp only at hp143
                              obtain ⟨z_51e, hp143⟩ := hp143
                              subst z_51
                              have hP : va_P dd vwCl [kI cI c0 8 cv, kO x0 6 [vI n, .ref s0, .ref h0, .ref l0, .ref m0, .ref p0, .ref e0, .ref w0, .ref t0, vI tl], kO s0 5 [.ref s1, .ref s2, vI ct, vI ru, vI re], kI cI s1 8 cap, kI cI s2 9 wi, kO l0 1 [vI n, .ref l1, .ref l2, .ref l3, .ref l4, .ref l5, vI ru, vI re, vI ct, vI lfi1_54], kI cI l1 8 lcap1_53, kI cI l2 8 lst1_55, kI cI l3 9 lwi1_56, kI cI l4 9 lpl1_57, kI cI l5 9 llk1_58] H := hP
                              have hD : va_D A [kI cI c0 8 cv, kO x0 6 [vI n, .ref s0, .ref h0, .ref l0, .ref m0, .ref p0, .ref e0, .ref w0, .ref t0, vI tl], kO s0 5 [.ref s1, .ref s2, vI ct, vI ru, vI re], kI cI s1 8 cap, kI cI s2 9 wi, kO l0 1 [vI n, .ref l1, .ref l2, .ref l3, .ref l4, .ref l5, vI ru, vI re, vI ct, vI lfi1_54], kI cI l1 8 lcap1_53, kI cI l2 8 lst1_55, kI cI l3 9 lwi1_56, kI cI l4 9 lpl1_57, kI cI l5 9 llk1_58] := hD
                              refine z_bin (va := .null) (vb := .null) (y := zI (svZ (ppl n cap ru re wi) ct (ppl n cap ru re wi k))) (congrArg zI (rfl)) ?_
                              refine lv_iload hx hb dL_agrees_146 (lv_at hl 2 rfl) ?_
                              refine lv_ishr hx hb dL_agrees_148 ?_
                              refine z_bin (va := .null) (vb := .null) (y := zI ((svZ (ppl n cap ru re wi) ct (ppl n cap ru re wi k)) / 2 ^ k.toNat)) (zI_shr (by have := sv_rg (P := (ppl n cap ru re wi)) hct (ppl n cap ru re wi k); omega)) ?_
                              refine z_iconst hx hb dL_agrees_149 ?_
                              refine lv_iand hx hb dL_agrees_150 ?_
                              refine z_bin (va := .null) (vb := .null) (y := zI (((svZ (ppl n cap ru re wi) ct (ppl n cap ru re wi k)) / 2 ^ k.toNat) % 2)) (zI_and1 (Int.ediv_nonneg (sv_rg (P := (ppl n cap ru re wi)) hct _).1 (Int.le_of_lt (pow_pos2 _)))) ?_
                              refine z_bin (va := .null) (vb := .null) (y := zI 1) (congrArg zI ((sv_bit hct (by omega) (by omega)).trans (if_pos rfl))) ?_
                              refine z_if_eq (tgt := 191) hx hb dL_agrees_151 (by decide) (by omega) (fun c151 => ?_) (fun c151 => ?_)
                              · exact absurd c151 (by omega)
                              · skip
                                refine lv_aload_n hx hb dL_agrees_154 rfl (lv_at hl 7 rfl) ?_
                                refine lv_iload hx hb dL_agrees_155 (lv_at hl 2 rfl) ?_
                                refine g_hcallVi (own := RL) (n := 1) (mc := 3) (ms := 18) (As := [vI k]) (rest := []) (wc := [kO x0 6 [vI n, .ref s0, .ref h0, .ref l0, .ref m0, .ref p0, .ref e0, .ref w0, .ref t0, vI tl], kO s0 5 [.ref s1, .ref s2, vI ct, vI ru, vI re], kI cI s1 8 cap, kI cI s2 9 wi, kO l0 1 [vI n, .ref l1, .ref l2, .ref l3, .ref l4, .ref l5, vI ru, vI re, vI ct, vI lfi1_54], kI cI l1 8 lcap1_53, kI cI l2 8 lst1_55, kI cI l3 9 lwi1_56, kI cI l4 9 lpl1_57, kI cI l5 9 llk1_58]) (wr := [kI cI c0 8 cv]) hx hb hml hown hts hK hP hD hS hA [1, 2, 3, 4, 5, 6, 7, 8, 9, 10] [0] rfl rfl (by decide) (by decide) 6 0 rfl rfl (c_X6_steps l hfl dd cI cJ cC cS x0 s0 h0 l0 m0 p0 e0 w0 t0 s1 s2 l1 l2 l3 l4 l5 n tl cap wi ct ru re ru re ct lfi1_54 lcap1_53 lst1_55 lwi1_56 lpl1_57 llk1_58 k H.size (by first | assumption | omega) (by first | assumption | omega) (by first | assumption | (intro j h0 h1; omega)) (by first | assumption | (intro j h0 h1; omega)) (by first | assumption | omega) (by first | assumption | omega) (by first | assumption | omega)) gL_agrees_X6_steps rfl (by decide +kernel) (by decide) (by decide) (by decide) (⟨by show _ ≤ 190; omega, by show _ ≤ 1200; omega⟩) rfl hl.1 rfl (Nat.le_of_ble_eq_true rfl) dL_agrees_157 hE (fun E u_60 ce q9 H locs hpx hP hD hS hcell hv hcl => ?_) (fun z_59 u_60 H locs hp157 hP hD hS => ?_)
                                · have hpx : E = xIO ∧ ¬ (0 ≤ k ∧ k < ct) := hpx
                                  exfalso; first | omega | (obtain ⟨_, h9⟩ := hpx; omega) | (rcases hpx with ⟨_, h9⟩ | ⟨_, h9⟩ <;> omega)
                                · skip
                                  obtain ⟨lcap1_61, lfi1_62, lst1_63, lwi1_64, lpl1_65, llk1_66⟩ := u_60
                                  try dsimp only at hp157
                                  obtain ⟨z_59e, hp157⟩ := hp157
                                  subst z_59
                                  have hP : va_P dd vwCl [kI cI c0 8 cv, kO x0 6 [vI n, .ref s0, .ref h0, .ref l0, .ref m0, .ref p0, .ref e0, .ref w0, .ref t0, vI tl], kO s0 5 [.ref s1, .ref s2, vI ct, vI ru, vI re], kI cI s1 8 cap, kI cI s2 9 wi, kO l0 1 [vI n, .ref l1, .ref l2, .ref l3, .ref l4, .ref l5, vI ru, vI re, vI ct, vI lfi1_62], kI cI l1 8 lcap1_61, kI cI l2 8 lst1_63, kI cI l3 9 lwi1_64, kI cI l4 9 lpl1_65, kI cI l5 9 llk1_66] H := hP
                                  have hD : va_D A [kI cI c0 8 cv, kO x0 6 [vI n, .ref s0, .ref h0, .ref l0, .ref m0, .ref p0, .ref e0, .ref w0, .ref t0, vI tl], kO s0 5 [.ref s1, .ref s2, vI ct, vI ru, vI re], kI cI s1 8 cap, kI cI s2 9 wi, kO l0 1 [vI n, .ref l1, .ref l2, .ref l3, .ref l4, .ref l5, vI ru, vI re, vI ct, vI lfi1_62], kI cI l1 8 lcap1_61, kI cI l2 8 lst1_63, kI cI l3 9 lwi1_64, kI cI l4 9 lpl1_65, kI cI l5 9 llk1_66] := hD
                                  refine z_iconst hx hb dL_agrees_160 ?_
                                  refine z_icmp_lt (tgt := 191) hx hb dL_agrees_161 (by decide) (by omega) (fun c161 => ?_) (fun c161 => ?_)
                                  · exact absurd c161 (by omega)
                                  · skip
                                    refine lv_aload_n hx hb dL_agrees_164 rfl (lv_at hl 7 rfl) ?_
                                    refine lv_iload hx hb dL_agrees_165 (lv_at hl 2 rfl) ?_
                                    refine g_hcallVi (own := RL) (n := 1) (mc := 3) (ms := 18) (As := [vI k]) (rest := []) (wc := [kO x0 6 [vI n, .ref s0, .ref h0, .ref l0, .ref m0, .ref p0, .ref e0, .ref w0, .ref t0, vI tl], kO s0 5 [.ref s1, .ref s2, vI ct, vI ru, vI re], kI cI s1 8 cap, kI cI s2 9 wi, kO l0 1 [vI n, .ref l1, .ref l2, .ref l3, .ref l4, .ref l5, vI ru, vI re, vI ct, vI lfi1_62], kI cI l1 8 lcap1_61, kI cI l2 8 lst1_63, kI cI l3 9 lwi1_64, kI cI l4 9 lpl1_65, kI cI l5 9 llk1_66]) (wr := [kI cI c0 8 cv]) hx hb hml hown hts hK hP hD hS hA [1, 2, 3, 4, 5, 6, 7, 8, 9, 10] [0] rfl rfl (by decide) (by decide) 6 0 rfl rfl (c_X6_steps l hfl dd cI cJ cC cS x0 s0 h0 l0 m0 p0 e0 w0 t0 s1 s2 l1 l2 l3 l4 l5 n tl cap wi ct ru re ru re ct lfi1_62 lcap1_61 lst1_63 lwi1_64 lpl1_65 llk1_66 k H.size (by first | assumption | omega) (by first | assumption | omega) (by first | assumption | (intro j h0 h1; omega)) (by first | assumption | (intro j h0 h1; omega)) (by first | assumption | omega) (by first | assumption | omega) (by first | assumption | omega)) gL_agrees_X6_steps rfl (by decide +kernel) (by decide) (by decide) (by decide) (⟨by show _ ≤ 190; omega, by show _ ≤ 1200; omega⟩) rfl hl.1 rfl (Nat.le_of_ble_eq_true rfl) dL_agrees_167 hE (fun E u_68 ce q9 H locs hpx hP hD hS hcell hv hcl => ?_) (fun z_67 u_68 H locs hp167 hP hD hS => ?_)
                                    · have hpx : E = xIO ∧ ¬ (0 ≤ k ∧ k < ct) := hpx
                                      exfalso; first | omega | (obtain ⟨_, h9⟩ := hpx; omega) | (rcases hpx with ⟨_, h9⟩ | ⟨_, h9⟩ <;> omega)
                                    · skip
                                      obtain ⟨lcap1_69, lfi1_70, lst1_71, lwi1_72, lpl1_73, llk1_74⟩ := u_68
                                      try dsimp only at hp167
                                      obtain ⟨z_67e, hp167⟩ := hp167
                                      subst z_67
                                      have hP : va_P dd vwCl [kI cI c0 8 cv, kO x0 6 [vI n, .ref s0, .ref h0, .ref l0, .ref m0, .ref p0, .ref e0, .ref w0, .ref t0, vI tl], kO s0 5 [.ref s1, .ref s2, vI ct, vI ru, vI re], kI cI s1 8 cap, kI cI s2 9 wi, kO l0 1 [vI n, .ref l1, .ref l2, .ref l3, .ref l4, .ref l5, vI ru, vI re, vI ct, vI lfi1_70], kI cI l1 8 lcap1_69, kI cI l2 8 lst1_71, kI cI l3 9 lwi1_72, kI cI l4 9 lpl1_73, kI cI l5 9 llk1_74] H := hP
                                      have hD : va_D A [kI cI c0 8 cv, kO x0 6 [vI n, .ref s0, .ref h0, .ref l0, .ref m0, .ref p0, .ref e0, .ref w0, .ref t0, vI tl], kO s0 5 [.ref s1, .ref s2, vI ct, vI ru, vI re], kI cI s1 8 cap, kI cI s2 9 wi, kO l0 1 [vI n, .ref l1, .ref l2, .ref l3, .ref l4, .ref l5, vI ru, vI re, vI ct, vI lfi1_70], kI cI l1 8 lcap1_69, kI cI l2 8 lst1_71, kI cI l3 9 lwi1_72, kI cI l4 9 lpl1_73, kI cI l5 9 llk1_74] := hD
                                      refine lv_iload_n hx hb dL_agrees_170 rfl (lv_at hl 8 rfl) ?_
                                      refine z_icmp_gt (tgt := 191) hx hb dL_agrees_171 (by decide) (by omega) (fun c171 => ?_) (fun c171 => ?_)
                                      · exact absurd c171 (by omega)
                                      · skip
                                        refine lv_iload hx hb dL_agrees_174 (lv_at hl 1 rfl) ?_
                                        refine lv_iload hx hb dL_agrees_176 (lv_at hl 0 rfl) ?_
                                        refine z_icmp_ne (tgt := 193) hx hb dL_agrees_178 (by decide) (by omega) (fun c178 => ?_) (fun c178 => ?_)
                                        · skip
                                          refine lv_iload hx hb dL_agrees_193 (lv_at hl 4 rfl) ?_
                                          refine lv_iload hx hb dL_agrees_195 (lv_at hl 1 rfl) ?_
                                          refine z_if_ge (tgt := 204) hx hb dL_agrees_197 (by decide) (by omega) (fun c197 => ?_) (fun c197 => ?_)
                                          · skip
                                            refine lv_iload hx hb dL_agrees_204 (lv_at hl 1 rfl) ?_
                                            refine lv_iload hx hb dL_agrees_206 (lv_at hl 0 rfl) ?_
                                            refine z_icmp_ge (tgt := 219) hx hb dL_agrees_208 (by decide) (by omega) (fun c208 => ?_) (fun c208 => ?_)
                                            · skip
                                              refine lv_iload hx hb dL_agrees_219 (lv_at hl 1 rfl) ?_
                                              refine lv_iload hx hb dL_agrees_221 (lv_at hl 0 rfl) ?_
                                              refine z_isub (z := (ppl n cap ru re wi k - wi k)) hx hb rfl dL_agrees_223 ?_
                                              refine z_iadd (z := ((sumZ (dpZ (ppl n cap ru re wi) wi) (Int.toNat k)) + (ppl n cap ru re wi k - wi k))) hx hb rfl dL_agrees_224 ?_
                                              refine lv_istore (lv' := [(5, vI ((sumZ (dpZ (ppl n cap ru re wi) wi) (Int.toNat k)) + (ppl n cap ru re wi k - wi k))), (10, vI (wi k)), (9, vI (ppl n cap ru re wi k)), (8, vI k), (4, vI (seZ (ppl n cap ru re wi) ct n)), (6, vI fi9), (7, vI (sumZ (lcZ (ppl n cap ru re wi) wi) (Int.toNat k))), (0, .ref x0), (1, vI n), (2, .ref c0), (3, vI ct)]) hx hb dL_agrees_225 hl (by decide) rfl (fun ls hl => ?_)
                                              refine lv_iload hx hb dL_agrees_227 (lv_at hl 2 rfl) ?_
                                              refine z_if_ge (tgt := 242) hx hb dL_agrees_229 (by decide) (by omega) (fun c229 => ?_) (fun c229 => ?_)
                                              · skip
                                                refine lv_iload hx hb dL_agrees_242 (lv_at hl 5 rfl) ?_
                                                refine lv_istore (lv' := [(6, vI fi9), (5, vI ((sumZ (dpZ (ppl n cap ru re wi) wi) (Int.toNat k)) + (ppl n cap ru re wi k - wi k))), (10, vI (wi k)), (9, vI (ppl n cap ru re wi k)), (8, vI k), (4, vI (seZ (ppl n cap ru re wi) ct n)), (7, vI (sumZ (lcZ (ppl n cap ru re wi) wi) (Int.toNat k))), (0, .ref x0), (1, vI n), (2, .ref c0), (3, vI ct)]) hx hb dL_agrees_244 hl (by decide) rfl (fun ls hl => ?_)
                                                refine lv_iload hx hb dL_agrees_246 (lv_at hl 6 rfl) ?_
                                                refine lv_iload hx hb dL_agrees_248 (lv_at hl 3 rfl) ?_
                                                refine lv_iload hx hb dL_agrees_250 (lv_at hl 2 rfl) ?_
                                                refine z_icmp_ne (tgt := 262) hx hb dL_agrees_252 (by decide) (by omega) (fun c252 => ?_) (fun c252 => ?_)
                                                · skip
                                                  refine z_iconst hx hb dL_agrees_262 ?_
                                                  refine lv_ior hx hb dL_agrees_263 ?_
                                                  refine z_bin (va := .null) (vb := .null) (y := zI ((sumZ (lcZ (ppl n cap ru re wi) wi) (Int.toNat k)) + 0)) (by first | exact zI_or0 _ | exact lc_or (by omega)) ?_
                                                  refine lv_istore (lv' := [(7, vI ((sumZ (lcZ (ppl n cap ru re wi) wi) (Int.toNat k)) + 0)), (6, vI fi9), (5, vI ((sumZ (dpZ (ppl n cap ru re wi) wi) (Int.toNat k)) + (ppl n cap ru re wi k - wi k))), (10, vI (wi k)), (9, vI (ppl n cap ru re wi k)), (8, vI k), (4, vI (seZ (ppl n cap ru re wi) ct n)), (0, .ref x0), (1, vI n), (2, .ref c0), (3, vI ct)]) hx hb dL_agrees_264 hl (by decide) rfl (fun ls hl => ?_)
                                                  refine z_iinc (a := k) (z := (k + 1)) (lv' := [(8, vI (k + 1)), (7, vI ((sumZ (lcZ (ppl n cap ru re wi) wi) (Int.toNat k)) + 0)), (6, vI fi9), (5, vI ((sumZ (dpZ (ppl n cap ru re wi) wi) (Int.toNat k)) + (ppl n cap ru re wi k - wi k))), (10, vI (wi k)), (9, vI (ppl n cap ru re wi k)), (4, vI (seZ (ppl n cap ru re wi) ct n)), (0, .ref x0), (1, vI n), (2, .ref c0), (3, vI ct)]) hx hb dL_agrees_266 hl (k := 5) rfl rfl (by decide) rfl (fun ls hl => ?_)
                                                  refine lv_goto (tgt := 72) hx hb dL_agrees_269 (by decide) ?_
                                                  have el_75 : vI ((sumZ (dpZ (ppl n cap ru re wi) wi) (Int.toNat k)) + (ppl n cap ru re wi k - wi k)) = vI (sumZ (dpZ (ppl n cap ru re wi) wi) (Int.toNat (k + 1))) := congrArg _ (by first | exact (dp_neg (by omega) (by omega)).symm | exact (dp_up (by omega) (by omega) (by omega)).symm | exact (dp_dn (by omega) (by omega) (by omega)).symm)
                                                  have hl := Eq.mp (congrArg (fun v9 => lv_has ls 11 [(8, vI (k + 1)), (7, vI ((sumZ (lcZ (ppl n cap ru re wi) wi) (Int.toNat k)) + 0)), (6, vI fi9), (5, v9), (10, vI (wi k)), (9, vI (ppl n cap ru re wi k)), (4, vI (seZ (ppl n cap ru re wi) ct n)), (0, .ref x0), (1, vI n), (2, .ref c0), (3, vI ct)]) el_75) hl
                                                  have el_76 : vI ((sumZ (lcZ (ppl n cap ru re wi) wi) (Int.toNat k)) + 0) = vI (sumZ (lcZ (ppl n cap ru re wi) wi) (Int.toNat (k + 1))) := congrArg _ (by first | exact (lc_eq (by omega) (by omega)).symm | exact (lc_ne (by omega) (by omega)).symm)
                                                  have hl := Eq.mp (congrArg (fun v9 => lv_has ls 11 [(8, vI (k + 1)), (7, v9), (6, vI fi9), (5, vI (sumZ (dpZ (ppl n cap ru re wi) wi) (Int.toNat (k + 1)))), (10, vI (wi k)), (9, vI (ppl n cap ru re wi k)), (4, vI (seZ (ppl n cap ru re wi) ct n)), (0, .ref x0), (1, vI n), (2, .ref c0), (3, vI ct)]) el_76) hl
                                                  refine W.widen (k := (24 + 18 * Int.toNat (k + 1))) (n := (144 + 108 * Int.toNat (k + 1))) (by omega) (by omega) ?_
                                                  exact L72i _ (by omega) (k + 1) fi9 ru re ct lfi1_70 lcap1_69 lst1_71 lwi1_72 lpl1_73 llk1_74 H locs ls rfl (by first | assumption | omega) (by first | exact flv_new hfv (by omega) (by omega) (by omega) | exact flv_no hfv (by omega) | exact flv_old hfv (by omega)) (hP.sub [1, 2, 3, 4, 5, 6, 7, 8, 9, 10, 0] rfl) (hD.sub [1, 2, 3, 4, 5, 6, 7, 8, 9, 10, 0] (by decide) rfl) hS (lv_sub hl [0, 6, 3, 2, 1, 7, 8, 9, 10] rfl)
                                                · skip
                                                  refine z_iconst hx hb dL_agrees_255 ?_
                                                  refine lv_iload hx hb dL_agrees_256 (lv_at hl 4 rfl) ?_
                                                  refine z_shl1 (z := (2 ^ k.toNat)) hx hb (by omega) rfl dL_agrees_258 ?_
                                                  refine lv_goto (tgt := 263) hx hb dL_agrees_259 (by decide) ?_
                                                  refine lv_ior hx hb dL_agrees_263 ?_
                                                  refine z_bin (va := .null) (vb := .null) (y := zI ((sumZ (lcZ (ppl n cap ru re wi) wi) (Int.toNat k)) + (2 ^ k.toNat))) (by first | exact zI_or0 _ | exact lc_or (by omega)) ?_
                                                  refine lv_istore (lv' := [(7, vI ((sumZ (lcZ (ppl n cap ru re wi) wi) (Int.toNat k)) + (2 ^ k.toNat))), (6, vI fi9), (5, vI ((sumZ (dpZ (ppl n cap ru re wi) wi) (Int.toNat k)) + (ppl n cap ru re wi k - wi k))), (10, vI (wi k)), (9, vI (ppl n cap ru re wi k)), (8, vI k), (4, vI (seZ (ppl n cap ru re wi) ct n)), (0, .ref x0), (1, vI n), (2, .ref c0), (3, vI ct)]) hx hb dL_agrees_264 hl (by decide) rfl (fun ls hl => ?_)
                                                  refine z_iinc (a := k) (z := (k + 1)) (lv' := [(8, vI (k + 1)), (7, vI ((sumZ (lcZ (ppl n cap ru re wi) wi) (Int.toNat k)) + (2 ^ k.toNat))), (6, vI fi9), (5, vI ((sumZ (dpZ (ppl n cap ru re wi) wi) (Int.toNat k)) + (ppl n cap ru re wi k - wi k))), (10, vI (wi k)), (9, vI (ppl n cap ru re wi k)), (4, vI (seZ (ppl n cap ru re wi) ct n)), (0, .ref x0), (1, vI n), (2, .ref c0), (3, vI ct)]) hx hb dL_agrees_266 hl (k := 5) rfl rfl (by decide) rfl (fun ls hl => ?_)
                                                  refine lv_goto (tgt := 72) hx hb dL_agrees_269 (by decide) ?_
                                                  have el_77 : vI ((sumZ (dpZ (ppl n cap ru re wi) wi) (Int.toNat k)) + (ppl n cap ru re wi k - wi k)) = vI (sumZ (dpZ (ppl n cap ru re wi) wi) (Int.toNat (k + 1))) := congrArg _ (by first | exact (dp_neg (by omega) (by omega)).symm | exact (dp_up (by omega) (by omega) (by omega)).symm | exact (dp_dn (by omega) (by omega) (by omega)).symm)
                                                  have hl := Eq.mp (congrArg (fun v9 => lv_has ls 11 [(8, vI (k + 1)), (7, vI ((sumZ (lcZ (ppl n cap ru re wi) wi) (Int.toNat k)) + (2 ^ k.toNat))), (6, vI fi9), (5, v9), (10, vI (wi k)), (9, vI (ppl n cap ru re wi k)), (4, vI (seZ (ppl n cap ru re wi) ct n)), (0, .ref x0), (1, vI n), (2, .ref c0), (3, vI ct)]) el_77) hl
                                                  have el_78 : vI ((sumZ (lcZ (ppl n cap ru re wi) wi) (Int.toNat k)) + (2 ^ k.toNat)) = vI (sumZ (lcZ (ppl n cap ru re wi) wi) (Int.toNat (k + 1))) := congrArg _ (by first | exact (lc_eq (by omega) (by omega)).symm | exact (lc_ne (by omega) (by omega)).symm)
                                                  have hl := Eq.mp (congrArg (fun v9 => lv_has ls 11 [(8, vI (k + 1)), (7, v9), (6, vI fi9), (5, vI (sumZ (dpZ (ppl n cap ru re wi) wi) (Int.toNat (k + 1)))), (10, vI (wi k)), (9, vI (ppl n cap ru re wi k)), (4, vI (seZ (ppl n cap ru re wi) ct n)), (0, .ref x0), (1, vI n), (2, .ref c0), (3, vI ct)]) el_78) hl
                                                  refine W.widen (k := (24 + 18 * Int.toNat (k + 1))) (n := (144 + 108 * Int.toNat (k + 1))) (by omega) (by omega) ?_
                                                  exact L72i _ (by omega) (k + 1) fi9 ru re ct lfi1_70 lcap1_69 lst1_71 lwi1_72 lpl1_73 llk1_74 H locs ls rfl (by first | assumption | omega) (by first | exact flv_new hfv (by omega) (by omega) (by omega) | exact flv_no hfv (by omega) | exact flv_old hfv (by omega)) (hP.sub [1, 2, 3, 4, 5, 6, 7, 8, 9, 10, 0] rfl) (hD.sub [1, 2, 3, 4, 5, 6, 7, 8, 9, 10, 0] (by decide) rfl) hS (lv_sub hl [0, 6, 3, 2, 1, 7, 8, 9, 10] rfl)
                                              · exact absurd c229 (by omega)
                                            · skip
                                              refine lv_iload hx hb dL_agrees_211 (lv_at hl 0 rfl) ?_
                                              refine lv_iload hx hb dL_agrees_213 (lv_at hl 1 rfl) ?_
                                              refine z_isub (z := (wi k - ppl n cap ru re wi k)) hx hb rfl dL_agrees_215 ?_
                                              refine lv_goto (tgt := 224) hx hb dL_agrees_216 (by decide) ?_
                                              refine z_iadd (z := ((sumZ (dpZ (ppl n cap ru re wi) wi) (Int.toNat k)) + (wi k - ppl n cap ru re wi k))) hx hb rfl dL_agrees_224 ?_
                                              refine lv_istore (lv' := [(5, vI ((sumZ (dpZ (ppl n cap ru re wi) wi) (Int.toNat k)) + (wi k - ppl n cap ru re wi k))), (10, vI (wi k)), (9, vI (ppl n cap ru re wi k)), (8, vI k), (4, vI (seZ (ppl n cap ru re wi) ct n)), (6, vI fi9), (7, vI (sumZ (lcZ (ppl n cap ru re wi) wi) (Int.toNat k))), (0, .ref x0), (1, vI n), (2, .ref c0), (3, vI ct)]) hx hb dL_agrees_225 hl (by decide) rfl (fun ls hl => ?_)
                                              refine lv_iload hx hb dL_agrees_227 (lv_at hl 2 rfl) ?_
                                              refine z_if_ge (tgt := 242) hx hb dL_agrees_229 (by decide) (by omega) (fun c229 => ?_) (fun c229 => ?_)
                                              · skip
                                                refine lv_iload hx hb dL_agrees_242 (lv_at hl 5 rfl) ?_
                                                refine lv_istore (lv' := [(6, vI fi9), (5, vI ((sumZ (dpZ (ppl n cap ru re wi) wi) (Int.toNat k)) + (wi k - ppl n cap ru re wi k))), (10, vI (wi k)), (9, vI (ppl n cap ru re wi k)), (8, vI k), (4, vI (seZ (ppl n cap ru re wi) ct n)), (7, vI (sumZ (lcZ (ppl n cap ru re wi) wi) (Int.toNat k))), (0, .ref x0), (1, vI n), (2, .ref c0), (3, vI ct)]) hx hb dL_agrees_244 hl (by decide) rfl (fun ls hl => ?_)
                                                refine lv_iload hx hb dL_agrees_246 (lv_at hl 6 rfl) ?_
                                                refine lv_iload hx hb dL_agrees_248 (lv_at hl 3 rfl) ?_
                                                refine lv_iload hx hb dL_agrees_250 (lv_at hl 2 rfl) ?_
                                                refine z_icmp_ne (tgt := 262) hx hb dL_agrees_252 (by decide) (by omega) (fun c252 => ?_) (fun c252 => ?_)
                                                · skip
                                                  refine z_iconst hx hb dL_agrees_262 ?_
                                                  refine lv_ior hx hb dL_agrees_263 ?_
                                                  refine z_bin (va := .null) (vb := .null) (y := zI ((sumZ (lcZ (ppl n cap ru re wi) wi) (Int.toNat k)) + 0)) (by first | exact zI_or0 _ | exact lc_or (by omega)) ?_
                                                  refine lv_istore (lv' := [(7, vI ((sumZ (lcZ (ppl n cap ru re wi) wi) (Int.toNat k)) + 0)), (6, vI fi9), (5, vI ((sumZ (dpZ (ppl n cap ru re wi) wi) (Int.toNat k)) + (wi k - ppl n cap ru re wi k))), (10, vI (wi k)), (9, vI (ppl n cap ru re wi k)), (8, vI k), (4, vI (seZ (ppl n cap ru re wi) ct n)), (0, .ref x0), (1, vI n), (2, .ref c0), (3, vI ct)]) hx hb dL_agrees_264 hl (by decide) rfl (fun ls hl => ?_)
                                                  refine z_iinc (a := k) (z := (k + 1)) (lv' := [(8, vI (k + 1)), (7, vI ((sumZ (lcZ (ppl n cap ru re wi) wi) (Int.toNat k)) + 0)), (6, vI fi9), (5, vI ((sumZ (dpZ (ppl n cap ru re wi) wi) (Int.toNat k)) + (wi k - ppl n cap ru re wi k))), (10, vI (wi k)), (9, vI (ppl n cap ru re wi k)), (4, vI (seZ (ppl n cap ru re wi) ct n)), (0, .ref x0), (1, vI n), (2, .ref c0), (3, vI ct)]) hx hb dL_agrees_266 hl (k := 5) rfl rfl (by decide) rfl (fun ls hl => ?_)
                                                  refine lv_goto (tgt := 72) hx hb dL_agrees_269 (by decide) ?_
                                                  have el_79 : vI ((sumZ (dpZ (ppl n cap ru re wi) wi) (Int.toNat k)) + (wi k - ppl n cap ru re wi k)) = vI (sumZ (dpZ (ppl n cap ru re wi) wi) (Int.toNat (k + 1))) := congrArg _ (by first | exact (dp_neg (by omega) (by omega)).symm | exact (dp_up (by omega) (by omega) (by omega)).symm | exact (dp_dn (by omega) (by omega) (by omega)).symm)
                                                  have hl := Eq.mp (congrArg (fun v9 => lv_has ls 11 [(8, vI (k + 1)), (7, vI ((sumZ (lcZ (ppl n cap ru re wi) wi) (Int.toNat k)) + 0)), (6, vI fi9), (5, v9), (10, vI (wi k)), (9, vI (ppl n cap ru re wi k)), (4, vI (seZ (ppl n cap ru re wi) ct n)), (0, .ref x0), (1, vI n), (2, .ref c0), (3, vI ct)]) el_79) hl
                                                  have el_80 : vI ((sumZ (lcZ (ppl n cap ru re wi) wi) (Int.toNat k)) + 0) = vI (sumZ (lcZ (ppl n cap ru re wi) wi) (Int.toNat (k + 1))) := congrArg _ (by first | exact (lc_eq (by omega) (by omega)).symm | exact (lc_ne (by omega) (by omega)).symm)
                                                  have hl := Eq.mp (congrArg (fun v9 => lv_has ls 11 [(8, vI (k + 1)), (7, v9), (6, vI fi9), (5, vI (sumZ (dpZ (ppl n cap ru re wi) wi) (Int.toNat (k + 1)))), (10, vI (wi k)), (9, vI (ppl n cap ru re wi k)), (4, vI (seZ (ppl n cap ru re wi) ct n)), (0, .ref x0), (1, vI n), (2, .ref c0), (3, vI ct)]) el_80) hl
                                                  refine W.widen (k := (24 + 18 * Int.toNat (k + 1))) (n := (144 + 108 * Int.toNat (k + 1))) (by omega) (by omega) ?_
                                                  exact L72i _ (by omega) (k + 1) fi9 ru re ct lfi1_70 lcap1_69 lst1_71 lwi1_72 lpl1_73 llk1_74 H locs ls rfl (by first | assumption | omega) (by first | exact flv_new hfv (by omega) (by omega) (by omega) | exact flv_no hfv (by omega) | exact flv_old hfv (by omega)) (hP.sub [1, 2, 3, 4, 5, 6, 7, 8, 9, 10, 0] rfl) (hD.sub [1, 2, 3, 4, 5, 6, 7, 8, 9, 10, 0] (by decide) rfl) hS (lv_sub hl [0, 6, 3, 2, 1, 7, 8, 9, 10] rfl)
                                                · skip
                                                  refine z_iconst hx hb dL_agrees_255 ?_
                                                  refine lv_iload hx hb dL_agrees_256 (lv_at hl 4 rfl) ?_
                                                  refine z_shl1 (z := (2 ^ k.toNat)) hx hb (by omega) rfl dL_agrees_258 ?_
                                                  refine lv_goto (tgt := 263) hx hb dL_agrees_259 (by decide) ?_
                                                  refine lv_ior hx hb dL_agrees_263 ?_
                                                  refine z_bin (va := .null) (vb := .null) (y := zI ((sumZ (lcZ (ppl n cap ru re wi) wi) (Int.toNat k)) + (2 ^ k.toNat))) (by first | exact zI_or0 _ | exact lc_or (by omega)) ?_
                                                  refine lv_istore (lv' := [(7, vI ((sumZ (lcZ (ppl n cap ru re wi) wi) (Int.toNat k)) + (2 ^ k.toNat))), (6, vI fi9), (5, vI ((sumZ (dpZ (ppl n cap ru re wi) wi) (Int.toNat k)) + (wi k - ppl n cap ru re wi k))), (10, vI (wi k)), (9, vI (ppl n cap ru re wi k)), (8, vI k), (4, vI (seZ (ppl n cap ru re wi) ct n)), (0, .ref x0), (1, vI n), (2, .ref c0), (3, vI ct)]) hx hb dL_agrees_264 hl (by decide) rfl (fun ls hl => ?_)
                                                  refine z_iinc (a := k) (z := (k + 1)) (lv' := [(8, vI (k + 1)), (7, vI ((sumZ (lcZ (ppl n cap ru re wi) wi) (Int.toNat k)) + (2 ^ k.toNat))), (6, vI fi9), (5, vI ((sumZ (dpZ (ppl n cap ru re wi) wi) (Int.toNat k)) + (wi k - ppl n cap ru re wi k))), (10, vI (wi k)), (9, vI (ppl n cap ru re wi k)), (4, vI (seZ (ppl n cap ru re wi) ct n)), (0, .ref x0), (1, vI n), (2, .ref c0), (3, vI ct)]) hx hb dL_agrees_266 hl (k := 5) rfl rfl (by decide) rfl (fun ls hl => ?_)
                                                  refine lv_goto (tgt := 72) hx hb dL_agrees_269 (by decide) ?_
                                                  have el_81 : vI ((sumZ (dpZ (ppl n cap ru re wi) wi) (Int.toNat k)) + (wi k - ppl n cap ru re wi k)) = vI (sumZ (dpZ (ppl n cap ru re wi) wi) (Int.toNat (k + 1))) := congrArg _ (by first | exact (dp_neg (by omega) (by omega)).symm | exact (dp_up (by omega) (by omega) (by omega)).symm | exact (dp_dn (by omega) (by omega) (by omega)).symm)
                                                  have hl := Eq.mp (congrArg (fun v9 => lv_has ls 11 [(8, vI (k + 1)), (7, vI ((sumZ (lcZ (ppl n cap ru re wi) wi) (Int.toNat k)) + (2 ^ k.toNat))), (6, vI fi9), (5, v9), (10, vI (wi k)), (9, vI (ppl n cap ru re wi k)), (4, vI (seZ (ppl n cap ru re wi) ct n)), (0, .ref x0), (1, vI n), (2, .ref c0), (3, vI ct)]) el_81) hl
                                                  have el_82 : vI ((sumZ (lcZ (ppl n cap ru re wi) wi) (Int.toNat k)) + (2 ^ k.toNat)) = vI (sumZ (lcZ (ppl n cap ru re wi) wi) (Int.toNat (k + 1))) := congrArg _ (by first | exact (lc_eq (by omega) (by omega)).symm | exact (lc_ne (by omega) (by omega)).symm)
                                                  have hl := Eq.mp (congrArg (fun v9 => lv_has ls 11 [(8, vI (k + 1)), (7, v9), (6, vI fi9), (5, vI (sumZ (dpZ (ppl n cap ru re wi) wi) (Int.toNat (k + 1)))), (10, vI (wi k)), (9, vI (ppl n cap ru re wi k)), (4, vI (seZ (ppl n cap ru re wi) ct n)), (0, .ref x0), (1, vI n), (2, .ref c0), (3, vI ct)]) el_82) hl
                                                  refine W.widen (k := (24 + 18 * Int.toNat (k + 1))) (n := (144 + 108 * Int.toNat (k + 1))) (by omega) (by omega) ?_
                                                  exact L72i _ (by omega) (k + 1) fi9 ru re ct lfi1_70 lcap1_69 lst1_71 lwi1_72 lpl1_73 llk1_74 H locs ls rfl (by first | assumption | omega) (by first | exact flv_new hfv (by omega) (by omega) (by omega) | exact flv_no hfv (by omega) | exact flv_old hfv (by omega)) (hP.sub [1, 2, 3, 4, 5, 6, 7, 8, 9, 10, 0] rfl) (hD.sub [1, 2, 3, 4, 5, 6, 7, 8, 9, 10, 0] (by decide) rfl) hS (lv_sub hl [0, 6, 3, 2, 1, 7, 8, 9, 10] rfl)
                                              · exact absurd c229 (by omega)
                                          · exact absurd c197 (by omega)
                                        · skip
                                          refine lv_aload_n hx hb dL_agrees_181 rfl (lv_at hl 7 rfl) ?_
                                          refine lv_iload hx hb dL_agrees_182 (lv_at hl 2 rfl) ?_
                                          refine g_hcallVi (own := RL) (n := 1) (mc := 3) (ms := 18) (As := [vI k]) (rest := []) (wc := [kO x0 6 [vI n, .ref s0, .ref h0, .ref l0, .ref m0, .ref p0, .ref e0, .ref w0, .ref t0, vI tl], kO s0 5 [.ref s1, .ref s2, vI ct, vI ru, vI re], kI cI s1 8 cap, kI cI s2 9 wi, kO l0 1 [vI n, .ref l1, .ref l2, .ref l3, .ref l4, .ref l5, vI ru, vI re, vI ct, vI lfi1_70], kI cI l1 8 lcap1_69, kI cI l2 8 lst1_71, kI cI l3 9 lwi1_72, kI cI l4 9 lpl1_73, kI cI l5 9 llk1_74]) (wr := [kI cI c0 8 cv]) hx hb hml hown hts hK hP hD hS hA [1, 2, 3, 4, 5, 6, 7, 8, 9, 10] [0] rfl rfl (by decide) (by decide) 6 0 rfl rfl (c_X6_steps l hfl dd cI cJ cC cS x0 s0 h0 l0 m0 p0 e0 w0 t0 s1 s2 l1 l2 l3 l4 l5 n tl cap wi ct ru re ru re ct lfi1_70 lcap1_69 lst1_71 lwi1_72 lpl1_73 llk1_74 k H.size (by first | assumption | omega) (by first | assumption | omega) (by first | assumption | (intro j h0 h1; omega)) (by first | assumption | (intro j h0 h1; omega)) (by first | assumption | omega) (by first | assumption | omega) (by first | assumption | omega)) gL_agrees_X6_steps rfl (by decide +kernel) (by decide) (by decide) (by decide) (⟨by show _ ≤ 190; omega, by show _ ≤ 1200; omega⟩) rfl hl.1 rfl (Nat.le_of_ble_eq_true rfl) dL_agrees_184 hE (fun E u_84 ce q9 H locs hpx hP hD hS hcell hv hcl => ?_) (fun z_83 u_84 H locs hp184 hP hD hS => ?_)
                                          · have hpx : E = xIO ∧ ¬ (0 ≤ k ∧ k < ct) := hpx
                                            exfalso; first | omega | (obtain ⟨_, h9⟩ := hpx; omega) | (rcases hpx with ⟨_, h9⟩ | ⟨_, h9⟩ <;> omega)
                                          · skip
                                            obtain ⟨lcap1_85, lfi1_86, lst1_87, lwi1_88, lpl1_89, llk1_90⟩ := u_84
                                            try dsimp only at hp184
                                            obtain ⟨z_83e, hp184⟩ := hp184
                                            subst z_83
                                            have hP : va_P dd vwCl [kI cI c0 8 cv, kO x0 6 [vI n, .ref s0, .ref h0, .ref l0, .ref m0, .ref p0, .ref e0, .ref w0, .ref t0, vI tl], kO s0 5 [.ref s1, .ref s2, vI ct, vI ru, vI re], kI cI s1 8 cap, kI cI s2 9 wi, kO l0 1 [vI n, .ref l1, .ref l2, .ref l3, .ref l4, .ref l5, vI ru, vI re, vI ct, vI lfi1_86], kI cI l1 8 lcap1_85, kI cI l2 8 lst1_87, kI cI l3 9 lwi1_88, kI cI l4 9 lpl1_89, kI cI l5 9 llk1_90] H := hP
                                            have hD : va_D A [kI cI c0 8 cv, kO x0 6 [vI n, .ref s0, .ref h0, .ref l0, .ref m0, .ref p0, .ref e0, .ref w0, .ref t0, vI tl], kO s0 5 [.ref s1, .ref s2, vI ct, vI ru, vI re], kI cI s1 8 cap, kI cI s2 9 wi, kO l0 1 [vI n, .ref l1, .ref l2, .ref l3, .ref l4, .ref l5, vI ru, vI re, vI ct, vI lfi1_86], kI cI l1 8 lcap1_85, kI cI l2 8 lst1_87, kI cI l3 9 lwi1_88, kI cI l4 9 lpl1_89, kI cI l5 9 llk1_90] := hD
                                            refine z_iconst hx hb dL_agrees_187 ?_
                                            refine z_icmp_eq (tgt := 193) hx hb dL_agrees_188 (by decide) (by omega) (fun c188 => ?_) (fun c188 => ?_)
                                            · skip
                                              refine lv_iload hx hb dL_agrees_193 (lv_at hl 4 rfl) ?_
                                              refine lv_iload hx hb dL_agrees_195 (lv_at hl 1 rfl) ?_
                                              refine z_if_ge (tgt := 204) hx hb dL_agrees_197 (by decide) (by omega) (fun c197 => ?_) (fun c197 => ?_)
                                              · skip
                                                refine lv_iload hx hb dL_agrees_204 (lv_at hl 1 rfl) ?_
                                                refine lv_iload hx hb dL_agrees_206 (lv_at hl 0 rfl) ?_
                                                refine z_icmp_ge (tgt := 219) hx hb dL_agrees_208 (by decide) (by omega) (fun c208 => ?_) (fun c208 => ?_)
                                                · skip
                                                  refine lv_iload hx hb dL_agrees_219 (lv_at hl 1 rfl) ?_
                                                  refine lv_iload hx hb dL_agrees_221 (lv_at hl 0 rfl) ?_
                                                  refine z_isub (z := (ppl n cap ru re wi k - wi k)) hx hb rfl dL_agrees_223 ?_
                                                  refine z_iadd (z := ((sumZ (dpZ (ppl n cap ru re wi) wi) (Int.toNat k)) + (ppl n cap ru re wi k - wi k))) hx hb rfl dL_agrees_224 ?_
                                                  refine lv_istore (lv' := [(5, vI ((sumZ (dpZ (ppl n cap ru re wi) wi) (Int.toNat k)) + (ppl n cap ru re wi k - wi k))), (10, vI (wi k)), (9, vI (ppl n cap ru re wi k)), (8, vI k), (4, vI (seZ (ppl n cap ru re wi) ct n)), (6, vI fi9), (7, vI (sumZ (lcZ (ppl n cap ru re wi) wi) (Int.toNat k))), (0, .ref x0), (1, vI n), (2, .ref c0), (3, vI ct)]) hx hb dL_agrees_225 hl (by decide) rfl (fun ls hl => ?_)
                                                  refine lv_iload hx hb dL_agrees_227 (lv_at hl 2 rfl) ?_
                                                  refine z_if_ge (tgt := 242) hx hb dL_agrees_229 (by decide) (by omega) (fun c229 => ?_) (fun c229 => ?_)
                                                  · skip
                                                    refine lv_iload hx hb dL_agrees_242 (lv_at hl 5 rfl) ?_
                                                    refine lv_istore (lv' := [(6, vI fi9), (5, vI ((sumZ (dpZ (ppl n cap ru re wi) wi) (Int.toNat k)) + (ppl n cap ru re wi k - wi k))), (10, vI (wi k)), (9, vI (ppl n cap ru re wi k)), (8, vI k), (4, vI (seZ (ppl n cap ru re wi) ct n)), (7, vI (sumZ (lcZ (ppl n cap ru re wi) wi) (Int.toNat k))), (0, .ref x0), (1, vI n), (2, .ref c0), (3, vI ct)]) hx hb dL_agrees_244 hl (by decide) rfl (fun ls hl => ?_)
                                                    refine lv_iload hx hb dL_agrees_246 (lv_at hl 6 rfl) ?_
                                                    refine lv_iload hx hb dL_agrees_248 (lv_at hl 3 rfl) ?_
                                                    refine lv_iload hx hb dL_agrees_250 (lv_at hl 2 rfl) ?_
                                                    refine z_icmp_ne (tgt := 262) hx hb dL_agrees_252 (by decide) (by omega) (fun c252 => ?_) (fun c252 => ?_)
                                                    · skip
                                                      refine z_iconst hx hb dL_agrees_262 ?_
                                                      refine lv_ior hx hb dL_agrees_263 ?_
                                                      refine z_bin (va := .null) (vb := .null) (y := zI ((sumZ (lcZ (ppl n cap ru re wi) wi) (Int.toNat k)) + 0)) (by first | exact zI_or0 _ | exact lc_or (by omega)) ?_
                                                      refine lv_istore (lv' := [(7, vI ((sumZ (lcZ (ppl n cap ru re wi) wi) (Int.toNat k)) + 0)), (6, vI fi9), (5, vI ((sumZ (dpZ (ppl n cap ru re wi) wi) (Int.toNat k)) + (ppl n cap ru re wi k - wi k))), (10, vI (wi k)), (9, vI (ppl n cap ru re wi k)), (8, vI k), (4, vI (seZ (ppl n cap ru re wi) ct n)), (0, .ref x0), (1, vI n), (2, .ref c0), (3, vI ct)]) hx hb dL_agrees_264 hl (by decide) rfl (fun ls hl => ?_)
                                                      refine z_iinc (a := k) (z := (k + 1)) (lv' := [(8, vI (k + 1)), (7, vI ((sumZ (lcZ (ppl n cap ru re wi) wi) (Int.toNat k)) + 0)), (6, vI fi9), (5, vI ((sumZ (dpZ (ppl n cap ru re wi) wi) (Int.toNat k)) + (ppl n cap ru re wi k - wi k))), (10, vI (wi k)), (9, vI (ppl n cap ru re wi k)), (4, vI (seZ (ppl n cap ru re wi) ct n)), (0, .ref x0), (1, vI n), (2, .ref c0), (3, vI ct)]) hx hb dL_agrees_266 hl (k := 5) rfl rfl (by decide) rfl (fun ls hl => ?_)
                                                      refine lv_goto (tgt := 72) hx hb dL_agrees_269 (by decide) ?_
                                                      have el_91 : vI ((sumZ (dpZ (ppl n cap ru re wi) wi) (Int.toNat k)) + (ppl n cap ru re wi k - wi k)) = vI (sumZ (dpZ (ppl n cap ru re wi) wi) (Int.toNat (k + 1))) := congrArg _ (by first | exact (dp_neg (by omega) (by omega)).symm | exact (dp_up (by omega) (by omega) (by omega)).symm | exact (dp_dn (by omega) (by omega) (by omega)).symm)
                                                      have hl := Eq.mp (congrArg (fun v9 => lv_has ls 11 [(8, vI (k + 1)), (7, vI ((sumZ (lcZ (ppl n cap ru re wi) wi) (Int.toNat k)) + 0)), (6, vI fi9), (5, v9), (10, vI (wi k)), (9, vI (ppl n cap ru re wi k)), (4, vI (seZ (ppl n cap ru re wi) ct n)), (0, .ref x0), (1, vI n), (2, .ref c0), (3, vI ct)]) el_91) hl
                                                      have el_92 : vI ((sumZ (lcZ (ppl n cap ru re wi) wi) (Int.toNat k)) + 0) = vI (sumZ (lcZ (ppl n cap ru re wi) wi) (Int.toNat (k + 1))) := congrArg _ (by first | exact (lc_eq (by omega) (by omega)).symm | exact (lc_ne (by omega) (by omega)).symm)
                                                      have hl := Eq.mp (congrArg (fun v9 => lv_has ls 11 [(8, vI (k + 1)), (7, v9), (6, vI fi9), (5, vI (sumZ (dpZ (ppl n cap ru re wi) wi) (Int.toNat (k + 1)))), (10, vI (wi k)), (9, vI (ppl n cap ru re wi k)), (4, vI (seZ (ppl n cap ru re wi) ct n)), (0, .ref x0), (1, vI n), (2, .ref c0), (3, vI ct)]) el_92) hl
                                                      refine W.widen (k := (24 + 18 * Int.toNat (k + 1))) (n := (144 + 108 * Int.toNat (k + 1))) (by omega) (by omega) ?_
                                                      exact L72i _ (by omega) (k + 1) fi9 ru re ct lfi1_86 lcap1_85 lst1_87 lwi1_88 lpl1_89 llk1_90 H locs ls rfl (by first | assumption | omega) (by first | exact flv_new hfv (by omega) (by omega) (by omega) | exact flv_no hfv (by omega) | exact flv_old hfv (by omega)) (hP.sub [1, 2, 3, 4, 5, 6, 7, 8, 9, 10, 0] rfl) (hD.sub [1, 2, 3, 4, 5, 6, 7, 8, 9, 10, 0] (by decide) rfl) hS (lv_sub hl [0, 6, 3, 2, 1, 7, 8, 9, 10] rfl)
                                                    · skip
                                                      refine z_iconst hx hb dL_agrees_255 ?_
                                                      refine lv_iload hx hb dL_agrees_256 (lv_at hl 4 rfl) ?_
                                                      refine z_shl1 (z := (2 ^ k.toNat)) hx hb (by omega) rfl dL_agrees_258 ?_
                                                      refine lv_goto (tgt := 263) hx hb dL_agrees_259 (by decide) ?_
                                                      refine lv_ior hx hb dL_agrees_263 ?_
                                                      refine z_bin (va := .null) (vb := .null) (y := zI ((sumZ (lcZ (ppl n cap ru re wi) wi) (Int.toNat k)) + (2 ^ k.toNat))) (by first | exact zI_or0 _ | exact lc_or (by omega)) ?_
                                                      refine lv_istore (lv' := [(7, vI ((sumZ (lcZ (ppl n cap ru re wi) wi) (Int.toNat k)) + (2 ^ k.toNat))), (6, vI fi9), (5, vI ((sumZ (dpZ (ppl n cap ru re wi) wi) (Int.toNat k)) + (ppl n cap ru re wi k - wi k))), (10, vI (wi k)), (9, vI (ppl n cap ru re wi k)), (8, vI k), (4, vI (seZ (ppl n cap ru re wi) ct n)), (0, .ref x0), (1, vI n), (2, .ref c0), (3, vI ct)]) hx hb dL_agrees_264 hl (by decide) rfl (fun ls hl => ?_)
                                                      refine z_iinc (a := k) (z := (k + 1)) (lv' := [(8, vI (k + 1)), (7, vI ((sumZ (lcZ (ppl n cap ru re wi) wi) (Int.toNat k)) + (2 ^ k.toNat))), (6, vI fi9), (5, vI ((sumZ (dpZ (ppl n cap ru re wi) wi) (Int.toNat k)) + (ppl n cap ru re wi k - wi k))), (10, vI (wi k)), (9, vI (ppl n cap ru re wi k)), (4, vI (seZ (ppl n cap ru re wi) ct n)), (0, .ref x0), (1, vI n), (2, .ref c0), (3, vI ct)]) hx hb dL_agrees_266 hl (k := 5) rfl rfl (by decide) rfl (fun ls hl => ?_)
                                                      refine lv_goto (tgt := 72) hx hb dL_agrees_269 (by decide) ?_
                                                      have el_93 : vI ((sumZ (dpZ (ppl n cap ru re wi) wi) (Int.toNat k)) + (ppl n cap ru re wi k - wi k)) = vI (sumZ (dpZ (ppl n cap ru re wi) wi) (Int.toNat (k + 1))) := congrArg _ (by first | exact (dp_neg (by omega) (by omega)).symm | exact (dp_up (by omega) (by omega) (by omega)).symm | exact (dp_dn (by omega) (by omega) (by omega)).symm)
                                                      have hl := Eq.mp (congrArg (fun v9 => lv_has ls 11 [(8, vI (k + 1)), (7, vI ((sumZ (lcZ (ppl n cap ru re wi) wi) (Int.toNat k)) + (2 ^ k.toNat))), (6, vI fi9), (5, v9), (10, vI (wi k)), (9, vI (ppl n cap ru re wi k)), (4, vI (seZ (ppl n cap ru re wi) ct n)), (0, .ref x0), (1, vI n), (2, .ref c0), (3, vI ct)]) el_93) hl
                                                      have el_94 : vI ((sumZ (lcZ (ppl n cap ru re wi) wi) (Int.toNat k)) + (2 ^ k.toNat)) = vI (sumZ (lcZ (ppl n cap ru re wi) wi) (Int.toNat (k + 1))) := congrArg _ (by first | exact (lc_eq (by omega) (by omega)).symm | exact (lc_ne (by omega) (by omega)).symm)
                                                      have hl := Eq.mp (congrArg (fun v9 => lv_has ls 11 [(8, vI (k + 1)), (7, v9), (6, vI fi9), (5, vI (sumZ (dpZ (ppl n cap ru re wi) wi) (Int.toNat (k + 1)))), (10, vI (wi k)), (9, vI (ppl n cap ru re wi k)), (4, vI (seZ (ppl n cap ru re wi) ct n)), (0, .ref x0), (1, vI n), (2, .ref c0), (3, vI ct)]) el_94) hl
                                                      refine W.widen (k := (24 + 18 * Int.toNat (k + 1))) (n := (144 + 108 * Int.toNat (k + 1))) (by omega) (by omega) ?_
                                                      exact L72i _ (by omega) (k + 1) fi9 ru re ct lfi1_86 lcap1_85 lst1_87 lwi1_88 lpl1_89 llk1_90 H locs ls rfl (by first | assumption | omega) (by first | exact flv_new hfv (by omega) (by omega) (by omega) | exact flv_no hfv (by omega) | exact flv_old hfv (by omega)) (hP.sub [1, 2, 3, 4, 5, 6, 7, 8, 9, 10, 0] rfl) (hD.sub [1, 2, 3, 4, 5, 6, 7, 8, 9, 10, 0] (by decide) rfl) hS (lv_sub hl [0, 6, 3, 2, 1, 7, 8, 9, 10] rfl)
                                                  · exact absurd c229 (by omega)
                                                · skip
                                                  refine lv_iload hx hb dL_agrees_211 (lv_at hl 0 rfl) ?_
                                                  refine lv_iload hx hb dL_agrees_213 (lv_at hl 1 rfl) ?_
                                                  refine z_isub (z := (wi k - ppl n cap ru re wi k)) hx hb rfl dL_agrees_215 ?_
                                                  refine lv_goto (tgt := 224) hx hb dL_agrees_216 (by decide) ?_
                                                  refine z_iadd (z := ((sumZ (dpZ (ppl n cap ru re wi) wi) (Int.toNat k)) + (wi k - ppl n cap ru re wi k))) hx hb rfl dL_agrees_224 ?_
                                                  refine lv_istore (lv' := [(5, vI ((sumZ (dpZ (ppl n cap ru re wi) wi) (Int.toNat k)) + (wi k - ppl n cap ru re wi k))), (10, vI (wi k)), (9, vI (ppl n cap ru re wi k)), (8, vI k), (4, vI (seZ (ppl n cap ru re wi) ct n)), (6, vI fi9), (7, vI (sumZ (lcZ (ppl n cap ru re wi) wi) (Int.toNat k))), (0, .ref x0), (1, vI n), (2, .ref c0), (3, vI ct)]) hx hb dL_agrees_225 hl (by decide) rfl (fun ls hl => ?_)
                                                  refine lv_iload hx hb dL_agrees_227 (lv_at hl 2 rfl) ?_
                                                  refine z_if_ge (tgt := 242) hx hb dL_agrees_229 (by decide) (by omega) (fun c229 => ?_) (fun c229 => ?_)
                                                  · skip
                                                    refine lv_iload hx hb dL_agrees_242 (lv_at hl 5 rfl) ?_
                                                    refine lv_istore (lv' := [(6, vI fi9), (5, vI ((sumZ (dpZ (ppl n cap ru re wi) wi) (Int.toNat k)) + (wi k - ppl n cap ru re wi k))), (10, vI (wi k)), (9, vI (ppl n cap ru re wi k)), (8, vI k), (4, vI (seZ (ppl n cap ru re wi) ct n)), (7, vI (sumZ (lcZ (ppl n cap ru re wi) wi) (Int.toNat k))), (0, .ref x0), (1, vI n), (2, .ref c0), (3, vI ct)]) hx hb dL_agrees_244 hl (by decide) rfl (fun ls hl => ?_)
                                                    refine lv_iload hx hb dL_agrees_246 (lv_at hl 6 rfl) ?_
                                                    refine lv_iload hx hb dL_agrees_248 (lv_at hl 3 rfl) ?_
                                                    refine lv_iload hx hb dL_agrees_250 (lv_at hl 2 rfl) ?_
                                                    refine z_icmp_ne (tgt := 262) hx hb dL_agrees_252 (by decide) (by omega) (fun c252 => ?_) (fun c252 => ?_)
                                                    · skip
                                                      refine z_iconst hx hb dL_agrees_262 ?_
                                                      refine lv_ior hx hb dL_agrees_263 ?_
                                                      refine z_bin (va := .null) (vb := .null) (y := zI ((sumZ (lcZ (ppl n cap ru re wi) wi) (Int.toNat k)) + 0)) (by first | exact zI_or0 _ | exact lc_or (by omega)) ?_
                                                      refine lv_istore (lv' := [(7, vI ((sumZ (lcZ (ppl n cap ru re wi) wi) (Int.toNat k)) + 0)), (6, vI fi9), (5, vI ((sumZ (dpZ (ppl n cap ru re wi) wi) (Int.toNat k)) + (wi k - ppl n cap ru re wi k))), (10, vI (wi k)), (9, vI (ppl n cap ru re wi k)), (8, vI k), (4, vI (seZ (ppl n cap ru re wi) ct n)), (0, .ref x0), (1, vI n), (2, .ref c0), (3, vI ct)]) hx hb dL_agrees_264 hl (by decide) rfl (fun ls hl => ?_)
                                                      refine z_iinc (a := k) (z := (k + 1)) (lv' := [(8, vI (k + 1)), (7, vI ((sumZ (lcZ (ppl n cap ru re wi) wi) (Int.toNat k)) + 0)), (6, vI fi9), (5, vI ((sumZ (dpZ (ppl n cap ru re wi) wi) (Int.toNat k)) + (wi k - ppl n cap ru re wi k))), (10, vI (wi k)), (9, vI (ppl n cap ru re wi k)), (4, vI (seZ (ppl n cap ru re wi) ct n)), (0, .ref x0), (1, vI n), (2, .ref c0), (3, vI ct)]) hx hb dL_agrees_266 hl (k := 5) rfl rfl (by decide) rfl (fun ls hl => ?_)
                                                      refine lv_goto (tgt := 72) hx hb dL_agrees_269 (by decide) ?_
                                                      have el_95 : vI ((sumZ (dpZ (ppl n cap ru re wi) wi) (Int.toNat k)) + (wi k - ppl n cap ru re wi k)) = vI (sumZ (dpZ (ppl n cap ru re wi) wi) (Int.toNat (k + 1))) := congrArg _ (by first | exact (dp_neg (by omega) (by omega)).symm | exact (dp_up (by omega) (by omega) (by omega)).symm | exact (dp_dn (by omega) (by omega) (by omega)).symm)
                                                      have hl := Eq.mp (congrArg (fun v9 => lv_has ls 11 [(8, vI (k + 1)), (7, vI ((sumZ (lcZ (ppl n cap ru re wi) wi) (Int.toNat k)) + 0)), (6, vI fi9), (5, v9), (10, vI (wi k)), (9, vI (ppl n cap ru re wi k)), (4, vI (seZ (ppl n cap ru re wi) ct n)), (0, .ref x0), (1, vI n), (2, .ref c0), (3, vI ct)]) el_95) hl
                                                      have el_96 : vI ((sumZ (lcZ (ppl n cap ru re wi) wi) (Int.toNat k)) + 0) = vI (sumZ (lcZ (ppl n cap ru re wi) wi) (Int.toNat (k + 1))) := congrArg _ (by first | exact (lc_eq (by omega) (by omega)).symm | exact (lc_ne (by omega) (by omega)).symm)
                                                      have hl := Eq.mp (congrArg (fun v9 => lv_has ls 11 [(8, vI (k + 1)), (7, v9), (6, vI fi9), (5, vI (sumZ (dpZ (ppl n cap ru re wi) wi) (Int.toNat (k + 1)))), (10, vI (wi k)), (9, vI (ppl n cap ru re wi k)), (4, vI (seZ (ppl n cap ru re wi) ct n)), (0, .ref x0), (1, vI n), (2, .ref c0), (3, vI ct)]) el_96) hl
                                                      refine W.widen (k := (24 + 18 * Int.toNat (k + 1))) (n := (144 + 108 * Int.toNat (k + 1))) (by omega) (by omega) ?_
                                                      exact L72i _ (by omega) (k + 1) fi9 ru re ct lfi1_86 lcap1_85 lst1_87 lwi1_88 lpl1_89 llk1_90 H locs ls rfl (by first | assumption | omega) (by first | exact flv_new hfv (by omega) (by omega) (by omega) | exact flv_no hfv (by omega) | exact flv_old hfv (by omega)) (hP.sub [1, 2, 3, 4, 5, 6, 7, 8, 9, 10, 0] rfl) (hD.sub [1, 2, 3, 4, 5, 6, 7, 8, 9, 10, 0] (by decide) rfl) hS (lv_sub hl [0, 6, 3, 2, 1, 7, 8, 9, 10] rfl)
                                                    · skip
                                                      refine z_iconst hx hb dL_agrees_255 ?_
                                                      refine lv_iload hx hb dL_agrees_256 (lv_at hl 4 rfl) ?_
                                                      refine z_shl1 (z := (2 ^ k.toNat)) hx hb (by omega) rfl dL_agrees_258 ?_
                                                      refine lv_goto (tgt := 263) hx hb dL_agrees_259 (by decide) ?_
                                                      refine lv_ior hx hb dL_agrees_263 ?_
                                                      refine z_bin (va := .null) (vb := .null) (y := zI ((sumZ (lcZ (ppl n cap ru re wi) wi) (Int.toNat k)) + (2 ^ k.toNat))) (by first | exact zI_or0 _ | exact lc_or (by omega)) ?_
                                                      refine lv_istore (lv' := [(7, vI ((sumZ (lcZ (ppl n cap ru re wi) wi) (Int.toNat k)) + (2 ^ k.toNat))), (6, vI fi9), (5, vI ((sumZ (dpZ (ppl n cap ru re wi) wi) (Int.toNat k)) + (wi k - ppl n cap ru re wi k))), (10, vI (wi k)), (9, vI (ppl n cap ru re wi k)), (8, vI k), (4, vI (seZ (ppl n cap ru re wi) ct n)), (0, .ref x0), (1, vI n), (2, .ref c0), (3, vI ct)]) hx hb dL_agrees_264 hl (by decide) rfl (fun ls hl => ?_)
                                                      refine z_iinc (a := k) (z := (k + 1)) (lv' := [(8, vI (k + 1)), (7, vI ((sumZ (lcZ (ppl n cap ru re wi) wi) (Int.toNat k)) + (2 ^ k.toNat))), (6, vI fi9), (5, vI ((sumZ (dpZ (ppl n cap ru re wi) wi) (Int.toNat k)) + (wi k - ppl n cap ru re wi k))), (10, vI (wi k)), (9, vI (ppl n cap ru re wi k)), (4, vI (seZ (ppl n cap ru re wi) ct n)), (0, .ref x0), (1, vI n), (2, .ref c0), (3, vI ct)]) hx hb dL_agrees_266 hl (k := 5) rfl rfl (by decide) rfl (fun ls hl => ?_)
                                                      refine lv_goto (tgt := 72) hx hb dL_agrees_269 (by decide) ?_
                                                      have el_97 : vI ((sumZ (dpZ (ppl n cap ru re wi) wi) (Int.toNat k)) + (wi k - ppl n cap ru re wi k)) = vI (sumZ (dpZ (ppl n cap ru re wi) wi) (Int.toNat (k + 1))) := congrArg _ (by first | exact (dp_neg (by omega) (by omega)).symm | exact (dp_up (by omega) (by omega) (by omega)).symm | exact (dp_dn (by omega) (by omega) (by omega)).symm)
                                                      have hl := Eq.mp (congrArg (fun v9 => lv_has ls 11 [(8, vI (k + 1)), (7, vI ((sumZ (lcZ (ppl n cap ru re wi) wi) (Int.toNat k)) + (2 ^ k.toNat))), (6, vI fi9), (5, v9), (10, vI (wi k)), (9, vI (ppl n cap ru re wi k)), (4, vI (seZ (ppl n cap ru re wi) ct n)), (0, .ref x0), (1, vI n), (2, .ref c0), (3, vI ct)]) el_97) hl
                                                      have el_98 : vI ((sumZ (lcZ (ppl n cap ru re wi) wi) (Int.toNat k)) + (2 ^ k.toNat)) = vI (sumZ (lcZ (ppl n cap ru re wi) wi) (Int.toNat (k + 1))) := congrArg _ (by first | exact (lc_eq (by omega) (by omega)).symm | exact (lc_ne (by omega) (by omega)).symm)
                                                      have hl := Eq.mp (congrArg (fun v9 => lv_has ls 11 [(8, vI (k + 1)), (7, v9), (6, vI fi9), (5, vI (sumZ (dpZ (ppl n cap ru re wi) wi) (Int.toNat (k + 1)))), (10, vI (wi k)), (9, vI (ppl n cap ru re wi k)), (4, vI (seZ (ppl n cap ru re wi) ct n)), (0, .ref x0), (1, vI n), (2, .ref c0), (3, vI ct)]) el_98) hl
                                                      refine W.widen (k := (24 + 18 * Int.toNat (k + 1))) (n := (144 + 108 * Int.toNat (k + 1))) (by omega) (by omega) ?_
                                                      exact L72i _ (by omega) (k + 1) fi9 ru re ct lfi1_86 lcap1_85 lst1_87 lwi1_88 lpl1_89 llk1_90 H locs ls rfl (by first | assumption | omega) (by first | exact flv_new hfv (by omega) (by omega) (by omega) | exact flv_no hfv (by omega) | exact flv_old hfv (by omega)) (hP.sub [1, 2, 3, 4, 5, 6, 7, 8, 9, 10, 0] rfl) (hD.sub [1, 2, 3, 4, 5, 6, 7, 8, 9, 10, 0] (by decide) rfl) hS (lv_sub hl [0, 6, 3, 2, 1, 7, 8, 9, 10] rfl)
                                                  · exact absurd c229 (by omega)
                                              · exact absurd c197 (by omega)
                                            · exact absurd c188 (by have := hpf3 (by omega); omega)
            · skip
              have hneg : ppl n cap ru re wi k = -1 := by omega
              refine z_bin (va := .null) (vb := .null) (y := zI (-1)) (congrArg zI (hneg)) ?_
              have hpr := ppl_rg n cap ru re wi k
              have hwk := hwi k (by omega) (by omega)
              obtain ⟨hpf1, hpf2, hpf3⟩ := plk_facts (cap := cap) (wi := wi) (j := k) hn hru hre hwk
              refine lv_istore (lv' := [(9, vI (-1)), (8, vI k), (4, vI (seZ (ppl n cap ru re wi) ct n)), (5, vI (sumZ (dpZ (ppl n cap ru re wi) wi) (Int.toNat k))), (6, vI fi9), (7, vI (sumZ (lcZ (ppl n cap ru re wi) wi) (Int.toNat k))), (0, .ref x0), (1, vI n), (2, .ref c0), (3, vI ct)]) hx hb dL_agrees_84 hl (by decide) rfl (fun ls hl => ?_)
              refine lv_aload_n hx hb dL_agrees_86 rfl (lv_at hl 6 rfl) ?_
              refine lv_iload hx hb dL_agrees_87 (lv_at hl 1 rfl) ?_
              refine g_hcallVi (own := RL) (n := 1) (mc := 3) (ms := 18) (As := [vI k]) (rest := []) (wc := [kO x0 6 [vI n, .ref s0, .ref h0, .ref l0, .ref m0, .ref p0, .ref e0, .ref w0, .ref t0, vI tl], kO s0 5 [.ref s1, .ref s2, vI ct, vI ru, vI re], kI cI s1 8 cap, kI cI s2 9 wi]) (wr := [kI cI c0 8 cv, kO l0 1 [vI n, .ref l1, .ref l2, .ref l3, .ref l4, .ref l5, vI ru, vI re, vI ct, vI lfi1_44], kI cI l1 8 lcap1_43, kI cI l2 8 lst1_45, kI cI l3 9 lwi1_46, kI cI l4 9 lpl1_47, kI cI l5 9 llk1_48]) hx hb hml hown hts hK hP hD hS hA [1, 2, 3, 4] [0, 5, 6, 7, 8, 9, 10] rfl rfl (by decide) (by decide) 6 0 rfl rfl (c_X6_preference l hfl dd cI cJ cC cS x0 s0 h0 l0 m0 p0 e0 w0 t0 s1 s2 n tl cap wi ct ru re k H.size (by first | assumption | omega) (by first | assumption | omega) (by first | assumption | (intro j h0 h1; omega)) (by first | assumption | (intro j h0 h1; omega)) (by first | assumption | omega) (by first | assumption | omega) (by first | assumption | omega)) gL_agrees_X6_preference rfl (by decide +kernel) (by decide) (by decide) (by decide) (⟨by show _ ≤ 190; omega, by show _ ≤ 1200; omega⟩) rfl hl.1 rfl (Nat.le_of_ble_eq_true rfl) dL_agrees_89 hE (fun E u_100 ce q9 H locs hpx hP hD hS hcell hv hcl => ?_) (fun z_99 u_100 H locs hp89_101 hP hD hS => ?_)
              · have hpx : E = xIO ∧ ¬ (0 ≤ k ∧ k < ct) := hpx
                exfalso; first | omega | (obtain ⟨_, h9⟩ := hpx; omega) | (rcases hpx with ⟨_, h9⟩ | ⟨_, h9⟩ <;> omega)
              · skip
                obtain ⟨z_99e, hp89_101⟩ := hp89_101
                subst z_99
                have hP : va_P dd vwCl [kI cI c0 8 cv, kO l0 1 [vI n, .ref l1, .ref l2, .ref l3, .ref l4, .ref l5, vI ru, vI re, vI ct, vI lfi1_44], kI cI l1 8 lcap1_43, kI cI l2 8 lst1_45, kI cI l3 9 lwi1_46, kI cI l4 9 lpl1_47, kI cI l5 9 llk1_48, kO x0 6 [vI n, .ref s0, .ref h0, .ref l0, .ref m0, .ref p0, .ref e0, .ref w0, .ref t0, vI tl], kO s0 5 [.ref s1, .ref s2, vI ct, vI ru, vI re], kI cI s1 8 cap, kI cI s2 9 wi] H := hP
                have hD : va_D A [kI cI c0 8 cv, kO l0 1 [vI n, .ref l1, .ref l2, .ref l3, .ref l4, .ref l5, vI ru, vI re, vI ct, vI lfi1_44], kI cI l1 8 lcap1_43, kI cI l2 8 lst1_45, kI cI l3 9 lwi1_46, kI cI l4 9 lpl1_47, kI cI l5 9 llk1_48, kO x0 6 [vI n, .ref s0, .ref h0, .ref l0, .ref m0, .ref p0, .ref e0, .ref w0, .ref t0, vI tl], kO s0 5 [.ref s1, .ref s2, vI ct, vI ru, vI re], kI cI s1 8 cap, kI cI s2 9 wi] := hD
                refine lv_istore (lv' := [(10, vI (wi k)), (9, vI (-1)), (8, vI k), (4, vI (seZ (ppl n cap ru re wi) ct n)), (5, vI (sumZ (dpZ (ppl n cap ru re wi) wi) (Int.toNat k))), (6, vI fi9), (7, vI (sumZ (lcZ (ppl n cap ru re wi) wi) (Int.toNat k))), (0, .ref x0), (1, vI n), (2, .ref c0), (3, vI ct)]) hx hb dL_agrees_92 hl (by decide) rfl (fun ls hl => ?_)
                refine lv_iload hx hb dL_agrees_94 (lv_at hl 1 rfl) ?_
                refine z_iconst hx hb dL_agrees_96 ?_
                refine z_icmp_lt (tgt := 191) hx hb dL_agrees_97 (by decide) (by omega) (fun c97 => ?_) (fun c97 => ?_)
                · exact absurd c97 (by omega)
                · skip
                  refine lv_iload hx hb dL_agrees_100 (lv_at hl 1 rfl) ?_
                  refine lv_iload_n hx hb dL_agrees_102 rfl (lv_at hl 8 rfl) ?_
                  refine z_icmp_ge (tgt := 191) hx hb dL_agrees_103 (by decide) (by omega) (fun c103 => ?_) (fun c103 => ?_)
                  · exact absurd c103 (by omega)
                  · skip
                    refine lv_iload hx hb dL_agrees_106 (lv_at hl 1 rfl) ?_
                    refine z_if_lt (tgt := 115) hx hb dL_agrees_108 (by decide) (by omega) (fun c108 => ?_) (fun c108 => ?_)
                    · skip
                      refine z_iconst hx hb dL_agrees_115 ?_
                      refine lv_iload hx hb dL_agrees_116 (lv_at hl 3 rfl) ?_
                      refine lv_iload hx hb dL_agrees_118 (lv_at hl 2 rfl) ?_
                      refine lv_ishr hx hb dL_agrees_120 ?_
                      refine z_bin (va := .null) (vb := .null) (y := zI ((seZ (ppl n cap ru re wi) ct n) / 2 ^ k.toNat)) (zI_shr (by have := se_rg (P := (ppl n cap ru re wi)) hct n; omega)) ?_
                      refine z_iconst hx hb dL_agrees_121 ?_
                      refine lv_iand hx hb dL_agrees_122 ?_
                      refine z_bin (va := .null) (vb := .null) (y := zI (((seZ (ppl n cap ru re wi) ct n) / 2 ^ k.toNat) % 2)) (zI_and1 (Int.ediv_nonneg (se_rg (P := (ppl n cap ru re wi)) hct _).1 (Int.le_of_lt (pow_pos2 _)))) ?_
                      refine z_bin (va := .null) (vb := .null) (y := zI 0) (congrArg zI ((se_bit hct (by omega) (by omega)).trans (if_neg (by omega)))) ?_
                      refine z_iconst hx hb dL_agrees_123 ?_
                      refine z_icmp_ne (tgt := 131) hx hb dL_agrees_124 (by decide) (by omega) (fun c124 => ?_) (fun c124 => ?_)
                      · skip
                        refine z_iconst hx hb dL_agrees_131 ?_
                        refine z_icmp_ne (tgt := 191) hx hb dL_agrees_132 (by decide) (by omega) (fun c132 => ?_) (fun c132 => ?_)
                        · exact absurd c132 (by omega)
                        · skip
                          refine lv_iload hx hb dL_agrees_135 (lv_at hl 1 rfl) ?_
                          refine z_if_lt (tgt := 154) hx hb dL_agrees_137 (by decide) (by omega) (fun c137 => ?_) (fun c137 => ?_)
                          · skip
                            refine lv_aload_n hx hb dL_agrees_154 rfl (lv_at hl 7 rfl) ?_
                            refine lv_iload hx hb dL_agrees_155 (lv_at hl 2 rfl) ?_
                            refine g_hcallVi (own := RL) (n := 1) (mc := 3) (ms := 18) (As := [vI k]) (rest := []) (wc := [kO x0 6 [vI n, .ref s0, .ref h0, .ref l0, .ref m0, .ref p0, .ref e0, .ref w0, .ref t0, vI tl], kO s0 5 [.ref s1, .ref s2, vI ct, vI ru, vI re], kI cI s1 8 cap, kI cI s2 9 wi, kO l0 1 [vI n, .ref l1, .ref l2, .ref l3, .ref l4, .ref l5, vI ru, vI re, vI ct, vI lfi1_44], kI cI l1 8 lcap1_43, kI cI l2 8 lst1_45, kI cI l3 9 lwi1_46, kI cI l4 9 lpl1_47, kI cI l5 9 llk1_48]) (wr := [kI cI c0 8 cv]) hx hb hml hown hts hK hP hD hS hA [7, 8, 9, 10, 1, 2, 3, 4, 5, 6] [0] rfl rfl (by decide) (by decide) 6 0 rfl rfl (c_X6_steps l hfl dd cI cJ cC cS x0 s0 h0 l0 m0 p0 e0 w0 t0 s1 s2 l1 l2 l3 l4 l5 n tl cap wi ct ru re ru re ct lfi1_44 lcap1_43 lst1_45 lwi1_46 lpl1_47 llk1_48 k H.size (by first | assumption | omega) (by first | assumption | omega) (by first | assumption | (intro j h0 h1; omega)) (by first | assumption | (intro j h0 h1; omega)) (by first | assumption | omega) (by first | assumption | omega) (by first | assumption | omega)) gL_agrees_X6_steps rfl (by decide +kernel) (by decide) (by decide) (by decide) (⟨by show _ ≤ 190; omega, by show _ ≤ 1200; omega⟩) rfl hl.1 rfl (Nat.le_of_ble_eq_true rfl) dL_agrees_157 hE (fun E u_103 ce q9 H locs hpx hP hD hS hcell hv hcl => ?_) (fun z_102 u_103 H locs hp157_104 hP hD hS => ?_)
                            · have hpx : E = xIO ∧ ¬ (0 ≤ k ∧ k < ct) := hpx
                              exfalso; first | omega | (obtain ⟨_, h9⟩ := hpx; omega) | (rcases hpx with ⟨_, h9⟩ | ⟨_, h9⟩ <;> omega)
                            · skip
                              obtain ⟨lcap1_105, lfi1_106, lst1_107, lwi1_108, lpl1_109, llk1_110⟩ := u_103
                              try dsimp only at hp157_104
                              obtain ⟨z_102e, hp157_104⟩ := hp157_104
                              subst z_102
                              have hP : va_P dd vwCl [kI cI c0 8 cv, kO x0 6 [vI n, .ref s0, .ref h0, .ref l0, .ref m0, .ref p0, .ref e0, .ref w0, .ref t0, vI tl], kO s0 5 [.ref s1, .ref s2, vI ct, vI ru, vI re], kI cI s1 8 cap, kI cI s2 9 wi, kO l0 1 [vI n, .ref l1, .ref l2, .ref l3, .ref l4, .ref l5, vI ru, vI re, vI ct, vI lfi1_106], kI cI l1 8 lcap1_105, kI cI l2 8 lst1_107, kI cI l3 9 lwi1_108, kI cI l4 9 lpl1_109, kI cI l5 9 llk1_110] H := hP
                              have hD : va_D A [kI cI c0 8 cv, kO x0 6 [vI n, .ref s0, .ref h0, .ref l0, .ref m0, .ref p0, .ref e0, .ref w0, .ref t0, vI tl], kO s0 5 [.ref s1, .ref s2, vI ct, vI ru, vI re], kI cI s1 8 cap, kI cI s2 9 wi, kO l0 1 [vI n, .ref l1, .ref l2, .ref l3, .ref l4, .ref l5, vI ru, vI re, vI ct, vI lfi1_106], kI cI l1 8 lcap1_105, kI cI l2 8 lst1_107, kI cI l3 9 lwi1_108, kI cI l4 9 lpl1_109, kI cI l5 9 llk1_110] := hD
                              refine z_iconst hx hb dL_agrees_160 ?_
                              refine z_icmp_lt (tgt := 191) hx hb dL_agrees_161 (by decide) (by omega) (fun c161 => ?_) (fun c161 => ?_)
                              · exact absurd c161 (by omega)
                              · skip
                                refine lv_aload_n hx hb dL_agrees_164 rfl (lv_at hl 7 rfl) ?_
                                refine lv_iload hx hb dL_agrees_165 (lv_at hl 2 rfl) ?_
                                refine g_hcallVi (own := RL) (n := 1) (mc := 3) (ms := 18) (As := [vI k]) (rest := []) (wc := [kO x0 6 [vI n, .ref s0, .ref h0, .ref l0, .ref m0, .ref p0, .ref e0, .ref w0, .ref t0, vI tl], kO s0 5 [.ref s1, .ref s2, vI ct, vI ru, vI re], kI cI s1 8 cap, kI cI s2 9 wi, kO l0 1 [vI n, .ref l1, .ref l2, .ref l3, .ref l4, .ref l5, vI ru, vI re, vI ct, vI lfi1_106], kI cI l1 8 lcap1_105, kI cI l2 8 lst1_107, kI cI l3 9 lwi1_108, kI cI l4 9 lpl1_109, kI cI l5 9 llk1_110]) (wr := [kI cI c0 8 cv]) hx hb hml hown hts hK hP hD hS hA [1, 2, 3, 4, 5, 6, 7, 8, 9, 10] [0] rfl rfl (by decide) (by decide) 6 0 rfl rfl (c_X6_steps l hfl dd cI cJ cC cS x0 s0 h0 l0 m0 p0 e0 w0 t0 s1 s2 l1 l2 l3 l4 l5 n tl cap wi ct ru re ru re ct lfi1_106 lcap1_105 lst1_107 lwi1_108 lpl1_109 llk1_110 k H.size (by first | assumption | omega) (by first | assumption | omega) (by first | assumption | (intro j h0 h1; omega)) (by first | assumption | (intro j h0 h1; omega)) (by first | assumption | omega) (by first | assumption | omega) (by first | assumption | omega)) gL_agrees_X6_steps rfl (by decide +kernel) (by decide) (by decide) (by decide) (⟨by show _ ≤ 190; omega, by show _ ≤ 1200; omega⟩) rfl hl.1 rfl (Nat.le_of_ble_eq_true rfl) dL_agrees_167 hE (fun E u_112 ce q9 H locs hpx hP hD hS hcell hv hcl => ?_) (fun z_111 u_112 H locs hp167_113 hP hD hS => ?_)
                                · have hpx : E = xIO ∧ ¬ (0 ≤ k ∧ k < ct) := hpx
                                  exfalso; first | omega | (obtain ⟨_, h9⟩ := hpx; omega) | (rcases hpx with ⟨_, h9⟩ | ⟨_, h9⟩ <;> omega)
                                · skip
                                  obtain ⟨lcap1_114, lfi1_115, lst1_116, lwi1_117, lpl1_118, llk1_119⟩ := u_112
                                  try dsimp only at hp167_113
                                  obtain ⟨z_111e, hp167_113⟩ := hp167_113
                                  subst z_111
                                  have hP : va_P dd vwCl [kI cI c0 8 cv, kO x0 6 [vI n, .ref s0, .ref h0, .ref l0, .ref m0, .ref p0, .ref e0, .ref w0, .ref t0, vI tl], kO s0 5 [.ref s1, .ref s2, vI ct, vI ru, vI re], kI cI s1 8 cap, kI cI s2 9 wi, kO l0 1 [vI n, .ref l1, .ref l2, .ref l3, .ref l4, .ref l5, vI ru, vI re, vI ct, vI lfi1_115], kI cI l1 8 lcap1_114, kI cI l2 8 lst1_116, kI cI l3 9 lwi1_117, kI cI l4 9 lpl1_118, kI cI l5 9 llk1_119] H := hP
                                  have hD : va_D A [kI cI c0 8 cv, kO x0 6 [vI n, .ref s0, .ref h0, .ref l0, .ref m0, .ref p0, .ref e0, .ref w0, .ref t0, vI tl], kO s0 5 [.ref s1, .ref s2, vI ct, vI ru, vI re], kI cI s1 8 cap, kI cI s2 9 wi, kO l0 1 [vI n, .ref l1, .ref l2, .ref l3, .ref l4, .ref l5, vI ru, vI re, vI ct, vI lfi1_115], kI cI l1 8 lcap1_114, kI cI l2 8 lst1_116, kI cI l3 9 lwi1_117, kI cI l4 9 lpl1_118, kI cI l5 9 llk1_119] := hD
                                  refine lv_iload_n hx hb dL_agrees_170 rfl (lv_at hl 8 rfl) ?_
                                  refine z_icmp_gt (tgt := 191) hx hb dL_agrees_171 (by decide) (by omega) (fun c171 => ?_) (fun c171 => ?_)
                                  · exact absurd c171 (by omega)
                                  · skip
                                    refine lv_iload hx hb dL_agrees_174 (lv_at hl 1 rfl) ?_
                                    refine lv_iload hx hb dL_agrees_176 (lv_at hl 0 rfl) ?_
                                    refine z_icmp_ne (tgt := 193) hx hb dL_agrees_178 (by decide) (by omega) (fun c178 => ?_) (fun c178 => ?_)
                                    · skip
                                      refine lv_iload hx hb dL_agrees_193 (lv_at hl 4 rfl) ?_
                                      refine lv_iload hx hb dL_agrees_195 (lv_at hl 1 rfl) ?_
                                      refine z_if_ge (tgt := 204) hx hb dL_agrees_197 (by decide) (by omega) (fun c197 => ?_) (fun c197 => ?_)
                                      · exact absurd c197 (by omega)
                                      · skip
                                        refine z_iconst hx hb dL_agrees_200 ?_
                                        refine lv_goto (tgt := 224) hx hb dL_agrees_201 (by decide) ?_
                                        refine z_iadd (z := (sumZ (dpZ (ppl n cap ru re wi) wi) (Int.toNat k))) hx hb (Int.add_zero _) dL_agrees_224 ?_
                                        refine lv_istore (lv' := [(5, vI (sumZ (dpZ (ppl n cap ru re wi) wi) (Int.toNat k))), (10, vI (wi k)), (9, vI (-1)), (8, vI k), (4, vI (seZ (ppl n cap ru re wi) ct n)), (6, vI fi9), (7, vI (sumZ (lcZ (ppl n cap ru re wi) wi) (Int.toNat k))), (0, .ref x0), (1, vI n), (2, .ref c0), (3, vI ct)]) hx hb dL_agrees_225 hl (by decide) rfl (fun ls hl => ?_)
                                        refine lv_iload hx hb dL_agrees_227 (lv_at hl 2 rfl) ?_
                                        refine z_if_ge (tgt := 242) hx hb dL_agrees_229 (by decide) (by omega) (fun c229 => ?_) (fun c229 => ?_)
                                        · exact absurd c229 (by omega)
                                        · skip
                                          refine lv_iload hx hb dL_agrees_232 (lv_at hl 5 rfl) ?_
                                          have hflr := flv_rg hfv
                                          refine z_if_ge (tgt := 242) hx hb dL_agrees_234 (by decide) (by omega) (fun c234 => ?_) (fun c234 => ?_)
                                          · skip
                                            refine lv_iload hx hb dL_agrees_242 (lv_at hl 5 rfl) ?_
                                            refine lv_istore (lv' := [(6, vI fi9), (5, vI (sumZ (dpZ (ppl n cap ru re wi) wi) (Int.toNat k))), (10, vI (wi k)), (9, vI (-1)), (8, vI k), (4, vI (seZ (ppl n cap ru re wi) ct n)), (7, vI (sumZ (lcZ (ppl n cap ru re wi) wi) (Int.toNat k))), (0, .ref x0), (1, vI n), (2, .ref c0), (3, vI ct)]) hx hb dL_agrees_244 hl (by decide) rfl (fun ls hl => ?_)
                                            refine lv_iload hx hb dL_agrees_246 (lv_at hl 6 rfl) ?_
                                            refine lv_iload hx hb dL_agrees_248 (lv_at hl 3 rfl) ?_
                                            refine lv_iload hx hb dL_agrees_250 (lv_at hl 2 rfl) ?_
                                            refine z_icmp_ne (tgt := 262) hx hb dL_agrees_252 (by decide) (by omega) (fun c252 => ?_) (fun c252 => ?_)
                                            · skip
                                              refine z_iconst hx hb dL_agrees_262 ?_
                                              refine lv_ior hx hb dL_agrees_263 ?_
                                              refine z_bin (va := .null) (vb := .null) (y := zI ((sumZ (lcZ (ppl n cap ru re wi) wi) (Int.toNat k)) + 0)) (by first | exact zI_or0 _ | exact lc_or (by omega)) ?_
                                              refine lv_istore (lv' := [(7, vI ((sumZ (lcZ (ppl n cap ru re wi) wi) (Int.toNat k)) + 0)), (6, vI fi9), (5, vI (sumZ (dpZ (ppl n cap ru re wi) wi) (Int.toNat k))), (10, vI (wi k)), (9, vI (-1)), (8, vI k), (4, vI (seZ (ppl n cap ru re wi) ct n)), (0, .ref x0), (1, vI n), (2, .ref c0), (3, vI ct)]) hx hb dL_agrees_264 hl (by decide) rfl (fun ls hl => ?_)
                                              refine z_iinc (a := k) (z := (k + 1)) (lv' := [(8, vI (k + 1)), (7, vI ((sumZ (lcZ (ppl n cap ru re wi) wi) (Int.toNat k)) + 0)), (6, vI fi9), (5, vI (sumZ (dpZ (ppl n cap ru re wi) wi) (Int.toNat k))), (10, vI (wi k)), (9, vI (-1)), (4, vI (seZ (ppl n cap ru re wi) ct n)), (0, .ref x0), (1, vI n), (2, .ref c0), (3, vI ct)]) hx hb dL_agrees_266 hl (k := 5) rfl rfl (by decide) rfl (fun ls hl => ?_)
                                              refine lv_goto (tgt := 72) hx hb dL_agrees_269 (by decide) ?_
                                              have el_120 : vI (sumZ (dpZ (ppl n cap ru re wi) wi) (Int.toNat k)) = vI (sumZ (dpZ (ppl n cap ru re wi) wi) (Int.toNat (k + 1))) := congrArg _ (by first | exact (dp_neg (by omega) (by omega)).symm | exact (dp_up (by omega) (by omega) (by omega)).symm | exact (dp_dn (by omega) (by omega) (by omega)).symm)
                                              have hl := Eq.mp (congrArg (fun v9 => lv_has ls 11 [(8, vI (k + 1)), (7, vI ((sumZ (lcZ (ppl n cap ru re wi) wi) (Int.toNat k)) + 0)), (6, vI fi9), (5, v9), (10, vI (wi k)), (9, vI (-1)), (4, vI (seZ (ppl n cap ru re wi) ct n)), (0, .ref x0), (1, vI n), (2, .ref c0), (3, vI ct)]) el_120) hl
                                              have el_121 : vI ((sumZ (lcZ (ppl n cap ru re wi) wi) (Int.toNat k)) + 0) = vI (sumZ (lcZ (ppl n cap ru re wi) wi) (Int.toNat (k + 1))) := congrArg _ (by first | exact (lc_eq (by omega) (by omega)).symm | exact (lc_ne (by omega) (by omega)).symm)
                                              have hl := Eq.mp (congrArg (fun v9 => lv_has ls 11 [(8, vI (k + 1)), (7, v9), (6, vI fi9), (5, vI (sumZ (dpZ (ppl n cap ru re wi) wi) (Int.toNat (k + 1)))), (10, vI (wi k)), (9, vI (-1)), (4, vI (seZ (ppl n cap ru re wi) ct n)), (0, .ref x0), (1, vI n), (2, .ref c0), (3, vI ct)]) el_121) hl
                                              refine W.widen (k := (24 + 18 * Int.toNat (k + 1))) (n := (144 + 108 * Int.toNat (k + 1))) (by omega) (by omega) ?_
                                              exact L72i _ (by omega) (k + 1) fi9 ru re ct lfi1_115 lcap1_114 lst1_116 lwi1_117 lpl1_118 llk1_119 H locs ls rfl (by first | assumption | omega) (by first | exact flv_new hfv (by omega) (by omega) (by omega) | exact flv_no hfv (by omega) | exact flv_old hfv (by omega)) (hP.sub [1, 2, 3, 4, 5, 6, 7, 8, 9, 10, 0] rfl) (hD.sub [1, 2, 3, 4, 5, 6, 7, 8, 9, 10, 0] (by decide) rfl) hS (lv_sub hl [0, 6, 3, 2, 1, 7, 8, 9, 10] rfl)
                                            · exact absurd c252 (by omega)
                                          · skip
                                            refine lv_iload hx hb dL_agrees_237 (lv_at hl 3 rfl) ?_
                                            refine lv_goto (tgt := 244) hx hb dL_agrees_239 (by decide) ?_
                                            refine lv_istore (lv' := [(6, vI k), (5, vI (sumZ (dpZ (ppl n cap ru re wi) wi) (Int.toNat k))), (10, vI (wi k)), (9, vI (-1)), (8, vI k), (4, vI (seZ (ppl n cap ru re wi) ct n)), (7, vI (sumZ (lcZ (ppl n cap ru re wi) wi) (Int.toNat k))), (0, .ref x0), (1, vI n), (2, .ref c0), (3, vI ct)]) hx hb dL_agrees_244 hl (by decide) rfl (fun ls hl => ?_)
                                            refine lv_iload hx hb dL_agrees_246 (lv_at hl 6 rfl) ?_
                                            refine lv_iload hx hb dL_agrees_248 (lv_at hl 3 rfl) ?_
                                            refine lv_iload hx hb dL_agrees_250 (lv_at hl 2 rfl) ?_
                                            refine z_icmp_ne (tgt := 262) hx hb dL_agrees_252 (by decide) (by omega) (fun c252 => ?_) (fun c252 => ?_)
                                            · skip
                                              refine z_iconst hx hb dL_agrees_262 ?_
                                              refine lv_ior hx hb dL_agrees_263 ?_
                                              refine z_bin (va := .null) (vb := .null) (y := zI ((sumZ (lcZ (ppl n cap ru re wi) wi) (Int.toNat k)) + 0)) (by first | exact zI_or0 _ | exact lc_or (by omega)) ?_
                                              refine lv_istore (lv' := [(7, vI ((sumZ (lcZ (ppl n cap ru re wi) wi) (Int.toNat k)) + 0)), (6, vI k), (5, vI (sumZ (dpZ (ppl n cap ru re wi) wi) (Int.toNat k))), (10, vI (wi k)), (9, vI (-1)), (8, vI k), (4, vI (seZ (ppl n cap ru re wi) ct n)), (0, .ref x0), (1, vI n), (2, .ref c0), (3, vI ct)]) hx hb dL_agrees_264 hl (by decide) rfl (fun ls hl => ?_)
                                              refine z_iinc (a := k) (z := (k + 1)) (lv' := [(8, vI (k + 1)), (7, vI ((sumZ (lcZ (ppl n cap ru re wi) wi) (Int.toNat k)) + 0)), (6, vI k), (5, vI (sumZ (dpZ (ppl n cap ru re wi) wi) (Int.toNat k))), (10, vI (wi k)), (9, vI (-1)), (4, vI (seZ (ppl n cap ru re wi) ct n)), (0, .ref x0), (1, vI n), (2, .ref c0), (3, vI ct)]) hx hb dL_agrees_266 hl (k := 5) rfl rfl (by decide) rfl (fun ls hl => ?_)
                                              refine lv_goto (tgt := 72) hx hb dL_agrees_269 (by decide) ?_
                                              have el_122 : vI (sumZ (dpZ (ppl n cap ru re wi) wi) (Int.toNat k)) = vI (sumZ (dpZ (ppl n cap ru re wi) wi) (Int.toNat (k + 1))) := congrArg _ (by first | exact (dp_neg (by omega) (by omega)).symm | exact (dp_up (by omega) (by omega) (by omega)).symm | exact (dp_dn (by omega) (by omega) (by omega)).symm)
                                              have hl := Eq.mp (congrArg (fun v9 => lv_has ls 11 [(8, vI (k + 1)), (7, vI ((sumZ (lcZ (ppl n cap ru re wi) wi) (Int.toNat k)) + 0)), (6, vI k), (5, v9), (10, vI (wi k)), (9, vI (-1)), (4, vI (seZ (ppl n cap ru re wi) ct n)), (0, .ref x0), (1, vI n), (2, .ref c0), (3, vI ct)]) el_122) hl
                                              have el_123 : vI ((sumZ (lcZ (ppl n cap ru re wi) wi) (Int.toNat k)) + 0) = vI (sumZ (lcZ (ppl n cap ru re wi) wi) (Int.toNat (k + 1))) := congrArg _ (by first | exact (lc_eq (by omega) (by omega)).symm | exact (lc_ne (by omega) (by omega)).symm)
                                              have hl := Eq.mp (congrArg (fun v9 => lv_has ls 11 [(8, vI (k + 1)), (7, v9), (6, vI k), (5, vI (sumZ (dpZ (ppl n cap ru re wi) wi) (Int.toNat (k + 1)))), (10, vI (wi k)), (9, vI (-1)), (4, vI (seZ (ppl n cap ru re wi) ct n)), (0, .ref x0), (1, vI n), (2, .ref c0), (3, vI ct)]) el_123) hl
                                              refine W.widen (k := (24 + 18 * Int.toNat (k + 1))) (n := (144 + 108 * Int.toNat (k + 1))) (by omega) (by omega) ?_
                                              exact L72i _ (by omega) (k + 1) k ru re ct lfi1_115 lcap1_114 lst1_116 lwi1_117 lpl1_118 llk1_119 H locs ls rfl (by first | assumption | omega) (by first | exact flv_new hfv (by omega) (by omega) (by omega) | exact flv_no hfv (by omega) | exact flv_old hfv (by omega)) (hP.sub [1, 2, 3, 4, 5, 6, 7, 8, 9, 10, 0] rfl) (hD.sub [1, 2, 3, 4, 5, 6, 7, 8, 9, 10, 0] (by decide) rfl) hS (lv_sub hl [0, 6, 3, 2, 1, 7, 8, 9, 10] rfl)
                                            · exact absurd c252 (by omega)
                                    · exact absurd c178 (by omega)
                          · exact absurd c137 (by omega)
                      · exact absurd c124 (by omega)
                    · exact absurd c108 (by omega)
      have el_124 : vI (seZ (ppl n cap ru re wi) ct i) = vI (seZ (ppl n cap ru re wi) ct n) := congrArg _ (by rw [show i = n by omega])
      have hl := Eq.mp (congrArg (fun v9 => lv_has ls 11 [(8, vI 0), (7, vI 0), (6, vI (-1)), (5, vI 0), (4, v9), (3, vI ct), (0, .ref x0), (1, vI n), (2, .ref c0)]) el_124) hl
      have el_125 : vI 0 = vI (sumZ (dpZ (ppl n cap ru re wi) wi) (Int.toNat 0)) := congrArg _ (rfl)
      have hl := Eq.mp (congrArg (fun v9 => lv_has ls 11 [(8, vI 0), (7, vI 0), (6, vI (-1)), (5, v9), (4, vI (seZ (ppl n cap ru re wi) ct n)), (3, vI ct), (0, .ref x0), (1, vI n), (2, .ref c0)]) el_125) hl
      have el_126 : vI 0 = vI (sumZ (lcZ (ppl n cap ru re wi) wi) (Int.toNat 0)) := congrArg _ (rfl)
      have hl := Eq.mp (congrArg (fun v9 => lv_has ls 11 [(8, vI 0), (7, v9), (6, vI (-1)), (5, vI (sumZ (dpZ (ppl n cap ru re wi) wi) (Int.toNat 0))), (4, vI (seZ (ppl n cap ru re wi) ct n)), (3, vI ct), (0, .ref x0), (1, vI n), (2, .ref c0)]) el_126) hl
      refine W.widen (k := (24 + 18 * Int.toNat 0)) (n := (144 + 108 * Int.toNat 0)) (by omega) (by omega) ?_
      exact L72 _ 0 (-1) bru bre bar bfi bcap bst bwi bpl blk H locs ls rfl (by first | assumption | omega) (flv_0 _) hP hD hS (lv_sub hl [0, 4, 3, 2, 1, 6, 7, 8, 5] rfl)
    · skip
      refine lv_aload_n hx hb dL_agrees_17 rfl (lv_at hl 3 rfl) ?_
      refine lv_iload hx hb dL_agrees_18 (lv_at hl 0 rfl) ?_
      refine g_hcallVi (own := RL) (n := 1) (mc := 3) (ms := 18) (As := [vI i]) (rest := []) (wc := [kO x0 6 [vI n, .ref s0, .ref h0, .ref l0, .ref m0, .ref p0, .ref e0, .ref w0, .ref t0, vI tl], kO s0 5 [.ref s1, .ref s2, vI ct, vI ru, vI re], kI cI s1 8 cap, kI cI s2 9 wi, kO l0 1 [vI n, .ref l1, .ref l2, .ref l3, .ref l4, .ref l5, vI bru, vI bre, vI bar, vI bfi], kI cI l1 8 bcap, kI cI l2 8 bst, kI cI l3 9 bwi, kI cI l4 9 bpl, kI cI l5 9 blk]) (wr := [kI cI c0 8 cv]) hx hb hml hown hts hK hP hD hS hA [0, 1, 2, 3, 4, 5, 6, 7, 8, 9] [10] rfl rfl (by decide) (by decide) 6 0 rfl rfl (c_X6_carsIn l hfl dd cI cJ cC cS x0 s0 h0 l0 m0 p0 e0 w0 t0 s1 s2 l1 l2 l3 l4 l5 n tl cap wi ct ru re bru bre bar bfi bcap bst bwi bpl blk i H.size (by first | assumption | omega) (by first | assumption | omega) (by first | assumption | (intro j h0 h1; omega)) (by first | assumption | (intro j h0 h1; omega)) (by first | assumption | omega) (by first | assumption | omega) (by first | assumption | omega)) gL_agrees_X6_carsIn rfl (by decide +kernel) (by decide) (by decide) (by decide) (⟨by show _ ≤ 190; omega, by show _ ≤ 1200; omega⟩) rfl hl.1 rfl (Nat.le_of_ble_eq_true rfl) dL_agrees_20 hE (fun E u_128 ce q9 H locs hpx hP hD hS hcell hv hcl => ?_) (fun z_127 u_128 H locs hp20 hP hD hS => ?_)
      · have hpx : E = xIO ∧ ¬ (0 ≤ i ∧ i < n) := hpx
        exfalso; first | omega | (obtain ⟨_, h9⟩ := hpx; omega) | (rcases hpx with ⟨_, h9⟩ | ⟨_, h9⟩ <;> omega)
      · skip
        obtain ⟨lcap1_129, lfi1_130, lst1_131, lwi1_132, lpl1_133, llk1_134⟩ := u_128
        try dsimp only at hp20
        obtain ⟨z_127e, hp20⟩ := hp20
        subst z_127
        have hP : va_P dd vwCl [kI cI c0 8 cv, kO x0 6 [vI n, .ref s0, .ref h0, .ref l0, .ref m0, .ref p0, .ref e0, .ref w0, .ref t0, vI tl], kO s0 5 [.ref s1, .ref s2, vI ct, vI ru, vI re], kI cI s1 8 cap, kI cI s2 9 wi, kO l0 1 [vI n, .ref l1, .ref l2, .ref l3, .ref l4, .ref l5, vI ru, vI re, vI ct, vI lfi1_130], kI cI l1 8 lcap1_129, kI cI l2 8 lst1_131, kI cI l3 9 lwi1_132, kI cI l4 9 lpl1_133, kI cI l5 9 llk1_134] H := hP
        have hD : va_D A [kI cI c0 8 cv, kO x0 6 [vI n, .ref s0, .ref h0, .ref l0, .ref m0, .ref p0, .ref e0, .ref w0, .ref t0, vI tl], kO s0 5 [.ref s1, .ref s2, vI ct, vI ru, vI re], kI cI s1 8 cap, kI cI s2 9 wi, kO l0 1 [vI n, .ref l1, .ref l2, .ref l3, .ref l4, .ref l5, vI ru, vI re, vI ct, vI lfi1_130], kI cI l1 8 lcap1_129, kI cI l2 8 lst1_131, kI cI l3 9 lwi1_132, kI cI l4 9 lpl1_133, kI cI l5 9 llk1_134] := hD
        refine z_bin (va := .null) (vb := .null) (y := zI (svZ (ppl n cap ru re wi) ct i)) (congrArg zI (rfl)) ?_
        refine lv_istore (lv' := [(6, vI (svZ (ppl n cap ru re wi) ct i)), (5, vI i), (4, vI (seZ (ppl n cap ru re wi) ct i)), (3, vI ct), (0, .ref x0), (1, vI n), (2, .ref c0)]) hx hb dL_agrees_23 hl (by decide) rfl (fun ls hl => ?_)
        refine lv_iload hx hb dL_agrees_25 (lv_at hl 0 rfl) ?_
        refine lv_iload hx hb dL_agrees_27 (lv_at hl 2 rfl) ?_
        refine lv_iand hx hb dL_agrees_29 ?_
        refine z_bin (va := .null) (vb := .null) (y := zI 0) (se_and hct _) ?_
        refine z_if_ne (tgt := 45) hx hb dL_agrees_30 (by decide) (by omega) (fun c30 => ?_) (fun c30 => ?_)
        · exact absurd c30 (by omega)
        · skip
          refine lv_iload hx hb dL_agrees_33 (lv_at hl 0 rfl) ?_
          refine g_callSi (own := RL) (n := 1) (mc := 0) (ms := 0) (As := [vI (svZ (ppl n cap ru re wi) ct i)]) (rest := []) (wc := []) (wr := [kI cI c0 8 cv, kO x0 6 [vI n, .ref s0, .ref h0, .ref l0, .ref m0, .ref p0, .ref e0, .ref w0, .ref t0, vI tl], kO s0 5 [.ref s1, .ref s2, vI ct, vI ru, vI re], kI cI s1 8 cap, kI cI s2 9 wi, kO l0 1 [vI n, .ref l1, .ref l2, .ref l3, .ref l4, .ref l5, vI ru, vI re, vI ct, vI lfi1_130], kI cI l1 8 lcap1_129, kI cI l2 8 lst1_131, kI cI l3 9 lwi1_132, kI cI l4 9 lpl1_133, kI cI l5 9 llk1_134]) hx hb hml hown hts hK hP hD hS hA [] [0, 1, 2, 3, 4, 5, 6, 7, 8, 9, 10] rfl rfl (by decide) (by decide) (c_L_countOf l dd cI cJ cC cS (svZ (ppl n cap ru re wi) ct i) H.size (sv_rg hct _)) gL_agrees_L_countOf rfl (by decide +kernel) (by decide) (by decide) (by decide) (⟨by show _ ≤ 190; omega, by show _ ≤ 1200; omega⟩) rfl hl.1 rfl (Nat.le_of_ble_eq_true rfl) dL_agrees_35 (fun z_135 u_136 H locs hp35 hP hD hS => ?_)
          subst z_135
          have hP : va_P dd vwCl [kI cI c0 8 cv, kO x0 6 [vI n, .ref s0, .ref h0, .ref l0, .ref m0, .ref p0, .ref e0, .ref w0, .ref t0, vI tl], kO s0 5 [.ref s1, .ref s2, vI ct, vI ru, vI re], kI cI s1 8 cap, kI cI s2 9 wi, kO l0 1 [vI n, .ref l1, .ref l2, .ref l3, .ref l4, .ref l5, vI ru, vI re, vI ct, vI lfi1_130], kI cI l1 8 lcap1_129, kI cI l2 8 lst1_131, kI cI l3 9 lwi1_132, kI cI l4 9 lpl1_133, kI cI l5 9 llk1_134] H := hP
          have hD : va_D A [kI cI c0 8 cv, kO x0 6 [vI n, .ref s0, .ref h0, .ref l0, .ref m0, .ref p0, .ref e0, .ref w0, .ref t0, vI tl], kO s0 5 [.ref s1, .ref s2, vI ct, vI ru, vI re], kI cI s1 8 cap, kI cI s2 9 wi, kO l0 1 [vI n, .ref l1, .ref l2, .ref l3, .ref l4, .ref l5, vI ru, vI re, vI ct, vI lfi1_130], kI cI l1 8 lcap1_129, kI cI l2 8 lst1_131, kI cI l3 9 lwi1_132, kI cI l4 9 lpl1_133, kI cI l5 9 llk1_134] := hD
          refine z_bin (va := .null) (vb := .null) (y := zI (cntE (ppl n cap ru re wi) i ct.toNat)) (congrArg zI (sv_cnt hct _)) ?_
          refine lv_aload_n hx hb dL_agrees_38 rfl (lv_at hl 6 rfl) ?_
          refine lv_iload hx hb dL_agrees_39 (lv_at hl 1 rfl) ?_
          refine z_iald hx hb hK hP 0 0 rfl rfl (i := i) (by omega) (by decide) dL_agrees_41 ?_
          have hcvi := hcv i (by omega) (by omega)
          have hcpi := hcap i (by omega) (by omega)
          have hle := cars_le (ru := ru) (re := re) (wi := wi) hcap ct.toNat (s := i) (by omega) (by omega)
          have hc0 := cntE_0 (ppl n cap ru re wi) i ct.toNat
          refine z_icmp_le (tgt := 47) hx hb dL_agrees_42 (by decide) (by omega) (fun c42 => ?_) (fun c42 => ?_)
          · skip
            refine lv_iload hx hb dL_agrees_47 (lv_at hl 2 rfl) ?_
            refine lv_iload hx hb dL_agrees_49 (lv_at hl 0 rfl) ?_
            refine lv_ior hx hb dL_agrees_51 ?_
            refine z_bin (va := .null) (vb := .null) (y := zI (seZ (ppl n cap ru re wi) ct (i + 1))) (se_or hct (by omega)) ?_
            refine lv_istore (lv' := [(4, vI (seZ (ppl n cap ru re wi) ct (i + 1))), (6, vI (svZ (ppl n cap ru re wi) ct i)), (5, vI i), (3, vI ct), (0, .ref x0), (1, vI n), (2, .ref c0)]) hx hb dL_agrees_52 hl (by decide) rfl (fun ls hl => ?_)
            refine z_iinc (a := i) (z := (i + 1)) (lv' := [(5, vI (i + 1)), (4, vI (seZ (ppl n cap ru re wi) ct (i + 1))), (6, vI (svZ (ppl n cap ru re wi) ct i)), (3, vI ct), (0, .ref x0), (1, vI n), (2, .ref c0)]) hx hb dL_agrees_54 hl (k := 2) rfl rfl (by decide) rfl (fun ls hl => ?_)
            refine lv_goto (tgt := 11) hx hb dL_agrees_57 (by decide) ?_
            refine W.widen (k := (3 * Int.toNat (i + 1))) (n := (18 * Int.toNat (i + 1))) (by omega) (by omega) ?_
            exact L11i _ (by omega) (i + 1) ru re ct lfi1_130 lcap1_129 lst1_131 lwi1_132 lpl1_133 llk1_134 H locs ls rfl (by first | assumption | omega) (hP.sub [1, 2, 3, 4, 5, 6, 7, 8, 9, 10, 0] rfl) (hD.sub [1, 2, 3, 4, 5, 6, 7, 8, 9, 10, 0] (by decide) rfl) hS (lv_sub hl [0, 1, 3, 4, 5, 6] rfl)
          · exact absurd c42 (by omega)
  have el_137 : vI 0 = vI (seZ (ppl n cap ru re wi) ct 0) := congrArg _ (se_0.symm)
  have hl := Eq.mp (congrArg (fun v9 => lv_has ls 11 [(5, vI 0), (4, v9), (3, vI ct), (0, .ref x0), (1, vI n), (2, .ref c0)]) el_137) hl
  refine W.widen (k := (3 * Int.toNat 0)) (n := (18 * Int.toNat 0)) (by omega) (by omega) ?_
  exact L11 _ 0 lru lre lar lfi lcap lst lwi lpl llk H locs ls rfl (by first | assumption | omega) (hP.sub [7, 8, 9, 10, 0, 1, 2, 3, 4, 5, 6] rfl) (hD.sub [7, 8, 9, 10, 0, 1, 2, 3, 4, 5, 6] (by decide) rfl) hS hl

