/-! the model: lists are counted -/
theorem dgZ_rg {n code q k : Int} (h : 1 ≤ n) : 0 ≤ dgZ n code q k ∧ dgZ n code q k < n := ⟨Int.emod_nonneg _ (by omega), Int.emod_lt_of_pos _ (by omega)⟩
theorem sprZ_at {n code q : Int} {mr : Int → Int} {j : Int} (h0 : 0 ≤ j) (h1 : j < q) : sprZ n code q mr 0 j = dgZ n code q j := if_pos ⟨h0, h1⟩
def lkZ (n : Int) (cap : Int → Int) (ru re : Int) (wi : Int → Int) (k : Nat) : Int := sumZ (fun c => if ppl n cap ru re wi c = wi c then 1 else 0) k
def meZ (wt n : Int) (cap : Int → Int) (ru re : Int) (wi : Int → Int) (k : Nat) : Int := if wt = 1 then lkZ n cap ru re wi k else if wt = 2 then sumZ wi k else lvZ n cap ru re wi k
/-- 1 where the list of a code is counted -/
def qI (wt x n : Int) (cap : Int → Int) (ru re q code : Int) : Int := if (wt = 0 ∨ lvZ n cap ru re (dgZ n code q) q.toNat = 0) ∧ meZ wt n cap ru re (dgZ n code q) q.toNat = x then 1 else 0
theorem qI_rg (wt x n : Int) (cap : Int → Int) (ru re q code : Int) : 0 ≤ qI wt x n cap ru re q code ∧ qI wt x n cap ru re q code ≤ 1 := by
  unfold qI
  split <;> omega
theorem me_0 {wt n : Int} {cap : Int → Int} {ru re : Int} {wi : Int → Int} {k : Nat} (h : wt = 0) : meZ wt n cap ru re wi k = lvZ n cap ru re wi k := by
  unfold meZ
  rw [if_neg (by omega), if_neg (by omega)]
theorem me_1 {wt n : Int} {cap : Int → Int} {ru re : Int} {wi : Int → Int} {k : Nat} (h : wt = 1) : meZ wt n cap ru re wi k = lkZ n cap ru re wi k := if_pos h
theorem me_2 {wt n : Int} {cap : Int → Int} {ru re : Int} {wi : Int → Int} {k : Nat} (h : wt = 2) : meZ wt n cap ru re wi k = sumZ wi k := by
  unfold meZ
  rw [if_neg (by omega), if_pos h]
theorem qI_d1 {wt x n : Int} {cap : Int → Int} {ru re q code : Int} (h : wt = 0) (h2 : lvZ n cap ru re (dgZ n code q) q.toNat = x) : qI wt x n cap ru re q code = 1 := if_pos ⟨Or.inl h, by rw [me_0 h]; exact h2⟩
theorem qI_d0 {wt x n : Int} {cap : Int → Int} {ru re q code : Int} (h : wt = 0) (h2 : lvZ n cap ru re (dgZ n code q) q.toNat ≠ x) : qI wt x n cap ru re q code = 0 := if_neg (fun u => h2 (by rw [← me_0 (wt := wt) h]; exact u.2))
theorem qI_n {wt x n : Int} {cap : Int → Int} {ru re q code : Int} (h : wt ≠ 0) (h2 : lvZ n cap ru re (dgZ n code q) q.toNat ≠ 0) : qI wt x n cap ru re q code = 0 := if_neg (fun u => u.1.elim h h2)
theorem qI_l1 {wt x n : Int} {cap : Int → Int} {ru re q code : Int} (h : wt = 1) (h2 : lvZ n cap ru re (dgZ n code q) q.toNat = 0) (h3 : lkZ n cap ru re (dgZ n code q) q.toNat = x) : qI wt x n cap ru re q code = 1 := if_pos ⟨Or.inr h2, by rw [me_1 h]; exact h3⟩
theorem qI_l0 {wt x n : Int} {cap : Int → Int} {ru re q code : Int} (h : wt = 1) (h3 : lkZ n cap ru re (dgZ n code q) q.toNat ≠ x) : qI wt x n cap ru re q code = 0 := if_neg (fun u => h3 (by rw [← me_1 (wt := wt) h]; exact u.2))
theorem qI_s1 {wt x n : Int} {cap : Int → Int} {ru re q code : Int} (h : wt = 2) (h2 : lvZ n cap ru re (dgZ n code q) q.toNat = 0) (h3 : sumZ (dgZ n code q) q.toNat = x) : qI wt x n cap ru re q code = 1 := if_pos ⟨Or.inr h2, by rw [me_2 h]; exact h3⟩
theorem qI_s0 {wt x n : Int} {cap : Int → Int} {ru re q code : Int} (h : wt = 2) (h3 : sumZ (dgZ n code q) q.toNat ≠ x) : qI wt x n cap ru re q code = 0 := if_neg (fun u => h3 (by rw [← me_2 (n := n) (cap := cap) (ru := ru) (re := re) (wt := wt) h]; exact u.2))
theorem sum01 {f : Int → Int} (h : ∀ j : Int, 0 ≤ f j ∧ f j ≤ 1) (k : Nat) : 0 ≤ sumZ f k ∧ sumZ f k ≤ k := by
  have := sumZ_rg (f := f) (c := 1) k (fun j _ _ => h j)
  omega
theorem wrP_congr {pa v w : Int → Int} {a i : Int} (h : ∀ j : Int, 0 ≤ j → j < i → v j = w j) : wrP pa v a i = wrP pa w a i := by
  funext k
  unfold wrP
  by_cases u : a ≤ k ∧ k < a + i
  · rw [if_pos u, if_pos u]
    exact h _ (by omega) (by omega)
  · rw [if_neg u, if_neg u]
/-- a list as a number -/
def codZ (n : Int) (w : Int → Int) : Nat → Int
  | 0 => 0
  | k + 1 => n * codZ n w k + w (k : Int)
theorem codZ_s {n : Int} {w : Int → Int} {i : Int} (h : 0 ≤ i) : codZ n w (i + 1).toNat = n * codZ n w i.toNat + w i := by
  obtain ⟨j, rfl⟩ := Int.eq_ofNat_of_zero_le h
  have e : ((j : Int) + 1).toNat = j + 1 := by omega
  rw [e, Int.toNat_natCast]
  rfl
theorem codZ_rg {n : Int} (hn : 1 ≤ n ∧ n ≤ 8) {w : Int → Int} : ∀ k : Nat, (∀ j : Int, 0 ≤ j → j < k → 0 ≤ w j ∧ w j < n) → 0 ≤ codZ n w k ∧ codZ n w k < powZ n k
  | 0, _ => (by decide : (0 : Int) ≤ 0 ∧ (0 : Int) < 1)
  | k + 1, h => by
    have h1 := codZ_rg hn k (fun j h0 h1 => h j h0 (by omega))
    have h2 := h (k : Int) (by omega) (by omega)
    show 0 ≤ n * codZ n w k + w (k : Int) ∧ n * codZ n w k + w (k : Int) < powZ n k * n
    have h3 : 0 ≤ n * codZ n w k := Int.mul_nonneg (by omega) h1.1
    have h4 : n * (codZ n w k + 1) ≤ n * powZ n k := Int.mul_le_mul_of_nonneg_left (by omega) (by omega)
    rw [Int.mul_add, Int.mul_one] at h4
    rw [Int.mul_comm (powZ n k) n]
    omega

set_option maxHeartbeats 4000000 in
set_option maxRecDepth 100000 in
theorem c_X7_counts (l : Launch) (dd : va_G) (cI cJ cC cS : ClassId) (y0 v0 a0 r0 f0 g0 d0 t9 : Nat) (n sts ty th : Int) (mv : Int → Int) (mr mf mg md : Int → Int) (q wt x mo : Int) (sz : Nat) (hn : 1 ≤ n ∧ n ≤ 8) (hc1 : 0 ≤ mv 1 ∧ mv 1 ≤ 3) (hc2 : 0 ≤ mv 2 ∧ mv 2 ≤ 8) (hcap : ∀ j : Int, 0 ≤ j → j < n → 0 ≤ mv (3 + j) ∧ mv (3 + j) ≤ 3) (hgq : rg q) (hgx : rg x) (hwt : 0 ≤ wt ∧ wt ≤ 2) (hmo : 0 ≤ mo ∧ mo ≤ 63) : gMi l yX7_counts wsX7_counts 4 0 0 dd cI cJ cC cS [.ref y0, vI q, vI wt, vI x, vI mo] [kO y0 7 [vI n, .ref v0, .ref a0, vI sts, .ref r0, .ref f0, .ref g0, .ref d0, .ref t9, vI ty, vI th], kI cI v0 21 mv, kI cI r0 9 mr, kI cI f0 9 mf, kI cI g0 9 mg, kI cI d0 8 md] sz (fun (z : Int) (u : Int × (Int → Int) × (Int → Int) × (Int → Int) × (Int → Int)) => (((0 ≤ q ∧ q ≤ 9) ∧ (0 ≤ x ∧ x ≤ mo) ∧ powZ n q.toNat ≤ 50000 ∧ z = sumZ (qI wt x n (rmc mv) (mv 1) (mv 2) q) (powZ n q.toNat).toNat ∧ u.1 = 0) ∨ (¬ ((0 ≤ q ∧ q ≤ 9) ∧ (0 ≤ x ∧ x ≤ mo)) ∧ z = 0 ∧ u.1 = 1) ∨ ((0 ≤ q ∧ q ≤ 9) ∧ (0 ≤ x ∧ x ≤ mo) ∧ 50000 < powZ n q.toNat ∧ z = 0 ∧ u.1 = 2))) (fun (u : Int × (Int → Int) × (Int → Int) × (Int → Int) × (Int → Int)) => [kO y0 7 [vI n, .ref v0, .ref a0, vI sts, .ref r0, .ref f0, .ref g0, .ref d0, .ref t9, vI ty, vI u.1], kI cI v0 21 mv, kI cI r0 9 u.2.1, kI cI f0 9 u.2.2.1, kI cI g0 9 u.2.2.2.1, kI cI d0 8 u.2.2.2.2]) := by
  refine gMi_of (cc := cX7_counts) (maxL := 9) (ret := (some .int)) (by decide) rfl (Nat.le_of_ble_eq_true rfl) ?_
  intro p e s m args below meth c A Q hQ hx hb hr hts hown hlocks hnm hml H locs hP hK hD hA hS ls hl
  have hi7 : ∀ w ∈ wsX70, w ∈ wsX7_counts := fun _ h => (List.mem_cons_of_mem _ (List.mem_append_right _ h))
  have hl : lv_has ls 9 [(0, .ref y0), (1, vI q), (2, vI wt), (3, vI x), (4, vI mo)] := hl
  refine lv_aload_n hx hb dX7_counts_0 rfl (lv_at hl 0 rfl) ?_
  refine lv_iload_n hx hb dX7_counts_1 rfl (lv_at hl 1 rfl) ?_
  refine z_iconst hx hb dX7_counts_2 ?_
  refine z_bipush hx hb dX7_counts_3 (by decide +kernel) ?_
  refine g_callSi (own := RX7) (n := 3) (mc := 0) (ms := 0) (As := [vI q, vI 0, vI 9]) (rest := [.ref y0]) (wc := []) (wr := [kO y0 7 [vI n, .ref v0, .ref a0, vI sts, .ref r0, .ref f0, .ref g0, .ref d0, .ref t9, vI ty, vI th], kI cI v0 21 mv, kI cI r0 9 mr, kI cI f0 9 mf, kI cI g0 9 mg, kI cI d0 8 md]) hx hb hml hown hts hK hP hD hS hA [] [0, 1, 2, 3, 4, 5] rfl rfl (by decide) (by decide) (c_X7_in l dd cI cJ cC cS q 0 9 H.size  (by first | assumption | omega) (by first | assumption | omega) (by first | assumption | omega)) gX7_counts_X7_in rfl (by decide +kernel) (by decide) (by decide) (by decide) (by decide) rfl hl.1 rfl (Nat.le_of_ble_eq_true rfl) dX7_counts_5 (fun z_1 u_2 H locs hp5 hP hD hS => ?_)
  rcases hp5 with ⟨hp5_0, hp5_1, hp5_z⟩ | ⟨hp5_0, hp5_z⟩
  · skip
    subst z_1
    have hP : va_P dd vwCl [kO y0 7 [vI n, .ref v0, .ref a0, vI sts, .ref r0, .ref f0, .ref g0, .ref d0, .ref t9, vI ty, vI th], kI cI v0 21 mv, kI cI r0 9 mr, kI cI f0 9 mf, kI cI g0 9 mg, kI cI d0 8 md] H := hP
    have hD : va_D A [kO y0 7 [vI n, .ref v0, .ref a0, vI sts, .ref r0, .ref f0, .ref g0, .ref d0, .ref t9, vI ty, vI th], kI cI v0 21 mv, kI cI r0 9 mr, kI cI f0 9 mf, kI cI g0 9 mg, kI cI d0 8 md] := hD
    refine z_if_eq (tgt := 21) hx hb dX7_counts_8 (by decide) (by omega) (fun c8 => ?_) (fun c8 => ?_)
    · exact absurd c8 (by omega)
    · skip
      refine lv_iload_n hx hb dX7_counts_11 rfl (lv_at hl 3 rfl) ?_
      refine z_iconst hx hb dX7_counts_12 ?_
      refine lv_iload hx hb dX7_counts_13 (lv_at hl 4 rfl) ?_
      refine g_callSi (own := RX7) (n := 3) (mc := 0) (ms := 0) (As := [vI x, vI 0, vI mo]) (rest := [.ref y0]) (wc := []) (wr := [kO y0 7 [vI n, .ref v0, .ref a0, vI sts, .ref r0, .ref f0, .ref g0, .ref d0, .ref t9, vI ty, vI th], kI cI v0 21 mv, kI cI r0 9 mr, kI cI f0 9 mf, kI cI g0 9 mg, kI cI d0 8 md]) hx hb hml hown hts hK hP hD hS hA [] [0, 1, 2, 3, 4, 5] rfl rfl (by decide) (by decide) (c_X7_in l dd cI cJ cC cS x 0 mo H.size  (by first | assumption | omega) (by first | assumption | omega) (by first | assumption | omega)) gX7_counts_X7_in rfl (by decide +kernel) (by decide) (by decide) (by decide) (by decide) rfl hl.1 rfl (Nat.le_of_ble_eq_true rfl) dX7_counts_15 (fun z_3 u_4 H locs hp15 hP hD hS => ?_)
      rcases hp15 with ⟨hp15_0, hp15_1, hp15_z⟩ | ⟨hp15_0, hp15_z⟩
      · skip
        subst z_3
        have hP : va_P dd vwCl [kO y0 7 [vI n, .ref v0, .ref a0, vI sts, .ref r0, .ref f0, .ref g0, .ref d0, .ref t9, vI ty, vI th], kI cI v0 21 mv, kI cI r0 9 mr, kI cI f0 9 mf, kI cI g0 9 mg, kI cI d0 8 md] H := hP
        have hD : va_D A [kO y0 7 [vI n, .ref v0, .ref a0, vI sts, .ref r0, .ref f0, .ref g0, .ref d0, .ref t9, vI ty, vI th], kI cI v0 21 mv, kI cI r0 9 mr, kI cI f0 9 mf, kI cI g0 9 mg, kI cI d0 8 md] := hD
        refine z_if_ne (tgt := 25) hx hb dX7_counts_18 (by decide) (by omega) (fun c18 => ?_) (fun c18 => ?_)
        · skip
          refine lv_aload_n hx hb dX7_counts_25 rfl (lv_at hl 0 rfl) ?_
          refine lv_iload_n hx hb dX7_counts_26 rfl (lv_at hl 1 rfl) ?_
          refine g_callVi (own := RX7) (n := 1) (mc := 0) (ms := 0) (As := [vI q]) (rest := [.ref y0]) (wc := [kO y0 7 [vI n, .ref v0, .ref a0, vI sts, .ref r0, .ref f0, .ref g0, .ref d0, .ref t9, vI ty, vI th]]) (wr := [kI cI v0 21 mv, kI cI r0 9 mr, kI cI f0 9 mf, kI cI g0 9 mg, kI cI d0 8 md]) hx hb hml hown hts hK hP hD hS hA [0] [1, 2, 3, 4, 5] rfl rfl (by decide) (by decide) 7 0 rfl rfl (c_X7_listsOf l dd cI cJ cC cS y0 v0 a0 r0 f0 g0 d0 t9 n sts ty th q H.size  (by first | assumption | omega) (by first | assumption | omega)) gX7_counts_X7_listsOf rfl (by decide +kernel) (by decide) (by decide) (by decide) (by decide) rfl hl.1 rfl (Nat.le_of_ble_eq_true rfl) dX7_counts_27 (fun z_5 u_6 H locs hp27 hP hD hS => ?_)
          rcases hp27 with ⟨hp27_0, hp27_z⟩ | ⟨hp27_0, hp27_z⟩
          · skip
            subst z_5
            have hP : va_P dd vwCl [kI cI v0 21 mv, kI cI r0 9 mr, kI cI f0 9 mf, kI cI g0 9 mg, kI cI d0 8 md, kO y0 7 [vI n, .ref v0, .ref a0, vI sts, .ref r0, .ref f0, .ref g0, .ref d0, .ref t9, vI ty, vI th]] H := hP
            have hD : va_D A [kI cI v0 21 mv, kI cI r0 9 mr, kI cI f0 9 mf, kI cI g0 9 mg, kI cI d0 8 md, kO y0 7 [vI n, .ref v0, .ref a0, vI sts, .ref r0, .ref f0, .ref g0, .ref d0, .ref t9, vI ty, vI th]] := hD
            have hp9 := powZ_9 hn (k := q.toNat) (by omega)
            refine z_if_ne (tgt := 37) hx hb dX7_counts_30 (by decide) (by omega) (fun c30 => ?_) (fun c30 => ?_)
            · skip
              refine z_iconst hx hb dX7_counts_37 ?_
              refine va_put (D := dd) (ci := 7) (v := vI 0) (ty := .int) (C := RX7) (T := TX7) (N := 11) hx hb hts hi7 tyX7 tyX7_ok nmX7 hown hK hP hD hS 5 rfl rfl 10 (by decide) (hts _ (List.mem_cons_of_mem _ (List.mem_append_left _ (List.mem_append_left _ (List.mem_of_getElem? (i := 0) rfl))))) (fun _ h9 => h9) rfl (by decide +kernel) rfl rfl (Nat.le_of_ble_eq_true rfl) dX7_counts_38 (fun H locs hP hD hS => ?_)
              have hP : va_P dd vwCl [kI cI v0 21 mv, kI cI r0 9 mr, kI cI f0 9 mf, kI cI g0 9 mg, kI cI d0 8 md, kO y0 7 [vI n, .ref v0, .ref a0, vI sts, .ref r0, .ref f0, .ref g0, .ref d0, .ref t9, vI ty, vI 0]] H := hP
              have hD : va_D A [kI cI v0 21 mv, kI cI r0 9 mr, kI cI f0 9 mf, kI cI g0 9 mg, kI cI d0 8 md, kO y0 7 [vI n, .ref v0, .ref a0, vI sts, .ref r0, .ref f0, .ref g0, .ref d0, .ref t9, vI ty, vI 0]] := hD
              refine lv_aload_n hx hb dX7_counts_41 rfl (lv_at hl 0 rfl) ?_
              refine va_get (D := dd) (ci := 7) (v := vI 0) (C := RX7) (T := TX7) (N := 11) hx hb hts hi7 hown hK hP 5 rfl rfl 10 (by decide) (hts _ (List.mem_cons_of_mem _ (List.mem_append_left _ (List.mem_append_left _ (List.mem_of_getElem? (i := 0) rfl))))) (fun _ h9 => h9) rfl dX7_counts_42 ?_
              refine z_if_eq (tgt := 50) hx hb dX7_counts_45 (by decide) (by omega) (fun c45 => ?_) (fun c45 => ?_)
              · skip
                refine z_iconst hx hb dX7_counts_50 ?_
                refine lv_istore (lv' := [(5, vI 0), (0, .ref y0), (1, vI q), (2, vI wt), (3, vI x), (4, vI mo)]) hx hb dX7_counts_51 hl (by decide) rfl (fun ls hl => ?_)
                refine z_iconst hx hb dX7_counts_53 ?_
                refine lv_istore (lv' := [(6, vI 0), (5, vI 0), (0, .ref y0), (1, vI q), (2, vI wt), (3, vI x), (4, vI mo)]) hx hb dX7_counts_54 hl (by decide) rfl (fun ls hl => ?_)
                have L56 : ∀ (nn : Nat) (i : Int) (b : Int) (mra : Int → Int) (mfa : Int → Int) (mga : Int → Int) (mda : Int → Int) (H : Heap) (locs : List Loc) (ls : Array Slot), ((powZ n q.toNat + 1 - i).toNat) = nn → (0 ≤ i ∧ i ≤ powZ n q.toNat) → (powZ n q.toNat ≤ 50000) → (0 ≤ q ∧ q ≤ 9) → (0 ≤ x ∧ x ≤ mo) → (b = sumZ (qI wt x n (rmc mv) (mv 1) (mv 2) q) i.toNat) → (0 ≤ b ∧ b ≤ i) → va_P dd vwCl [kO y0 7 [vI n, .ref v0, .ref a0, vI sts, .ref r0, .ref f0, .ref g0, .ref d0, .ref t9, vI ty, vI 0], kI cI v0 21 mv, kI cI r0 9 mra, kI cI f0 9 mfa, kI cI g0 9 mga, kI cI d0 8 mda] H → va_D A [kO y0 7 [vI n, .ref v0, .ref a0, vI sts, .ref r0, .ref f0, .ref g0, .ref d0, .ref t9, vI ty, vI 0], kI cI v0 21 mv, kI cI r0 9 mra, kI cI f0 9 mfa, kI cI g0 9 mga, kI cI d0 8 mda] → va_S A s.heap H locs → lv_has ls 9 [(5, vI b), (6, vI i), (0, .ref y0), (1, vI q), (2, vI wt), (3, vI x), (4, vI mo)] → W p l e (gR 4 0 0) s m args below meth c H locs 0 0 Q (F0 m 56 ls []) := by
                  intro nn
                  induction nn using Nat.strongRecOn with
                  | ind nn L56i =>
                  intro i b mra mfa mga mda H locs ls hmeas hi hp5 hq hx9 hbb hbr hP hD hS hl
                  refine lv_iload hx hb dX7_counts_56 (lv_at hl 1 rfl) ?_
                  refine lv_aload_n hx hb dX7_counts_58 rfl (lv_at hl 2 rfl) ?_
                  refine lv_iload_n hx hb dX7_counts_59 rfl (lv_at hl 3 rfl) ?_
                  refine g_callVi (own := RX7) (n := 1) (mc := 0) (ms := 0) (As := [vI q]) (rest := [vI i]) (wc := [kO y0 7 [vI n, .ref v0, .ref a0, vI sts, .ref r0, .ref f0, .ref g0, .ref d0, .ref t9, vI ty, vI 0]]) (wr := [kI cI v0 21 mv, kI cI r0 9 mra, kI cI f0 9 mfa, kI cI g0 9 mga, kI cI d0 8 mda]) hx hb hml hown hts hK hP hD hS hA [0] [1, 2, 3, 4, 5] rfl rfl (by decide) (by decide) 7 0 rfl rfl (c_X7_listsOf l dd cI cJ cC cS y0 v0 a0 r0 f0 g0 d0 t9 n sts ty 0 q H.size  (by first | assumption | omega) (by first | assumption | omega)) gX7_counts_X7_listsOf rfl (by decide +kernel) (by decide) (by decide) (by decide) (by decide) rfl hl.1 rfl (Nat.le_of_ble_eq_true rfl) dX7_counts_60 (fun z_7 u_8 H locs hp60 hP hD hS => ?_)
                  rcases hp60 with ⟨hp60_0, hp60_z⟩ | ⟨hp60_0, hp60_z⟩
                  · skip
                    subst z_7
                    have hP : va_P dd vwCl [kI cI v0 21 mv, kI cI r0 9 mra, kI cI f0 9 mfa, kI cI g0 9 mga, kI cI d0 8 mda, kO y0 7 [vI n, .ref v0, .ref a0, vI sts, .ref r0, .ref f0, .ref g0, .ref d0, .ref t9, vI ty, vI 0]] H := hP
                    have hD : va_D A [kI cI v0 21 mv, kI cI r0 9 mra, kI cI f0 9 mfa, kI cI g0 9 mga, kI cI d0 8 mda, kO y0 7 [vI n, .ref v0, .ref a0, vI sts, .ref r0, .ref f0, .ref g0, .ref d0, .ref t9, vI ty, vI 0]] := hD
                    refine z_icmp_ge (tgt := 157) hx hb dX7_counts_63 (by decide) (by omega) (fun c63 => ?_) (fun c63 => ?_)
                    · skip
                      refine lv_iload hx hb dX7_counts_157 (lv_at hl 0 rfl) ?_
                      subst hQ
                      refine z_iret (z := b) hx hb hr hlocks dX7_counts_159 (0, mra, mfa, mga, mda) hK hS ⟨by omega, by omega⟩ (hP.sub [5, 0, 1, 2, 3, 4] rfl) (hD.sub [5, 0, 1, 2, 3, 4] (by decide) rfl) ?_
                      exact Or.inl ⟨by omega, by omega, by omega, by rw [hbb, show i = powZ n q.toNat by omega], rfl⟩
                    · skip
                      refine lv_aload_n hx hb dX7_counts_66 rfl (lv_at hl 2 rfl) ?_
                      refine lv_iload hx hb dX7_counts_67 (lv_at hl 1 rfl) ?_
                      refine lv_iload_n hx hb dX7_counts_69 rfl (lv_at hl 3 rfl) ?_
                      refine g_callVv (own := RX7) (n := 2) (mc := 0) (ms := 0) (As := [vI i, vI q]) (rest := []) (wc := [kO y0 7 [vI n, .ref v0, .ref a0, vI sts, .ref r0, .ref f0, .ref g0, .ref d0, .ref t9, vI ty, vI 0], kI cI r0 9 mra]) (wr := [kI cI v0 21 mv, kI cI f0 9 mfa, kI cI g0 9 mga, kI cI d0 8 mda]) hx hb hml hown hts hK hP hD hS hA [5, 1] [0, 2, 3, 4] rfl rfl (by decide) (by decide) 7 0 rfl rfl (c_X7_spreads l dd cI cJ cC cS y0 v0 a0 r0 f0 g0 d0 t9 n sts ty 0 mra i q H.size  (by first | assumption | omega) (by first | assumption | omega) (by first | assumption | omega)) gX7_counts_X7_spreads rfl (by decide +kernel) (by decide) (by decide) (by decide) (by decide) rfl hl.1 rfl (Nat.le_of_ble_eq_true rfl) dX7_counts_70 (fun u_9 H locs hp70 hP hD hS => ?_)
                      have hP : va_P dd vwCl [kI cI v0 21 mv, kI cI f0 9 mfa, kI cI g0 9 mga, kI cI d0 8 mda, kO y0 7 [vI n, .ref v0, .ref a0, vI sts, .ref r0, .ref f0, .ref g0, .ref d0, .ref t9, vI ty, vI 0], kI cI r0 9 (sprZ n i q mra 0)] H := hP
                      have hD : va_D A [kI cI v0 21 mv, kI cI f0 9 mfa, kI cI g0 9 mga, kI cI d0 8 mda, kO y0 7 [vI n, .ref v0, .ref a0, vI sts, .ref r0, .ref f0, .ref g0, .ref d0, .ref t9, vI ty, vI 0], kI cI r0 9 (sprZ n i q mra 0)] := hD
                      refine lv_aload_n hx hb dX7_counts_73 rfl (lv_at hl 2 rfl) ?_
                      refine lv_iload_n hx hb dX7_counts_74 rfl (lv_at hl 3 rfl) ?_
                      refine g_callVi (own := RX7) (n := 1) (mc := 0) (ms := 0) (As := [vI q]) (rest := []) (wc := [kO y0 7 [vI n, .ref v0, .ref a0, vI sts, .ref r0, .ref f0, .ref g0, .ref d0, .ref t9, vI ty, vI 0], kI cI v0 21 mv, kI cI r0 9 (sprZ n i q mra 0), kI cI f0 9 mfa, kI cI g0 9 mga, kI cI d0 8 mda]) (wr := []) hx hb hml hown hts hK hP hD hS hA [4, 0, 5, 1, 2, 3] [] rfl rfl (by decide) (by decide) 7 0 rfl rfl (c_X7_parksAll l dd cI cJ cC cS y0 v0 a0 r0 f0 g0 d0 t9 n sts ty 0 mv (sprZ n i q mra 0) mfa mga mda q H.size  (by first | assumption | omega) (by first | assumption | omega) (by first | assumption | omega) (by first | assumption | (intro j h0 h1; omega)) (by first | assumption | omega) (fun j h0 h1 => by rw [sprZ_at h0 h1]; exact dgZ_rg hn.1)) gX7_counts_X7_parksAll rfl (by decide +kernel) (by decide) (by decide) (by decide) (by decide) rfl hl.1 rfl (Nat.le_of_ble_eq_true rfl) dX7_counts_75 (fun z_10 u_11 H locs hp75 hP hD hS => ?_)
                      obtain ⟨mfb, mgb, mdb⟩ := u_11
                      try dsimp only at hp75
                      obtain ⟨z_10e, hp75⟩ := hp75
                      subst z_10
                      have hP : va_P dd vwCl [kO y0 7 [vI n, .ref v0, .ref a0, vI sts, .ref r0, .ref f0, .ref g0, .ref d0, .ref t9, vI ty, vI 0], kI cI v0 21 mv, kI cI r0 9 (sprZ n i q mra 0), kI cI f0 9 mfb, kI cI g0 9 mgb, kI cI d0 8 mdb] H := hP
                      have hD : va_D A [kO y0 7 [vI n, .ref v0, .ref a0, vI sts, .ref r0, .ref f0, .ref g0, .ref d0, .ref t9, vI ty, vI 0], kI cI v0 21 mv, kI cI r0 9 (sprZ n i q mra 0), kI cI f0 9 mfb, kI cI g0 9 mgb, kI cI d0 8 mdb] := hD
                      have hlc : lvZ n (rmc mv) (mv 1) (mv 2) (sprZ n i q mra 0) (q).toNat = lvZ n (rmc mv) (mv 1) (mv 2) (dgZ n i q) (q).toNat := lvZ_congr _ (fun j h0 h1 => sprZ_at h0 (by omega))
                      have hlg := lvZ_rg (n := n) (cap := rmc mv) (ru := mv 1) (re := mv 2) (wi := dgZ n i q) (q).toNat
                      refine lv_istore (lv' := [(7, vI (lvZ n (rmc mv) (mv 1) (mv 2) (sprZ n i q mra 0) q.toNat)), (5, vI b), (6, vI i), (0, .ref y0), (1, vI q), (2, vI wt), (3, vI x), (4, vI mo)]) hx hb dX7_counts_78 hl (by decide) rfl (fun ls hl => ?_)
                      refine lv_iload_n hx hb dX7_counts_80 rfl (lv_at hl 5 rfl) ?_
                      refine z_if_ne (tgt := 98) hx hb dX7_counts_81 (by decide) (by omega) (fun c81 => ?_) (fun c81 => ?_)
                      · skip
                        refine lv_iload hx hb dX7_counts_98 (lv_at hl 0 rfl) ?_
                        refine z_if_ne (tgt := 133) hx hb dX7_counts_100 (by decide) (by omega) (fun c100 => ?_) (fun c100 => ?_)
                        · skip
                          refine z_iconst hx hb dX7_counts_133 ?_
                          refine lv_istore (lv' := [(8, vI 0), (7, vI (lvZ n (rmc mv) (mv 1) (mv 2) (sprZ n i q mra 0) q.toNat)), (5, vI b), (6, vI i), (0, .ref y0), (1, vI q), (2, vI wt), (3, vI x), (4, vI mo)]) hx hb dX7_counts_134 hl (by decide) rfl (fun ls hl => ?_)
                          refine lv_iload hx hb dX7_counts_136 (lv_at hl 2 rfl) ?_
                          refine lv_iload hx hb dX7_counts_138 (lv_at hl 0 rfl) ?_
                          refine z_if_eq (tgt := 147) hx hb dX7_counts_140 (by decide) (by omega) (fun c140 => ?_) (fun c140 => ?_)
                          · skip
                            refine z_iconst hx hb dX7_counts_147 ?_
                            refine z_iadd (z := b) hx hb (Int.add_zero _) dX7_counts_148 ?_
                            refine lv_istore (lv' := [(5, vI b), (8, vI 0), (7, vI (lvZ n (rmc mv) (mv 1) (mv 2) (sprZ n i q mra 0) q.toNat)), (6, vI i), (0, .ref y0), (1, vI q), (2, vI wt), (3, vI x), (4, vI mo)]) hx hb dX7_counts_149 hl (by decide) rfl (fun ls hl => ?_)
                            refine z_iinc (a := i) (z := (i + 1)) (lv' := [(6, vI (i + 1)), (5, vI b), (8, vI 0), (7, vI (lvZ n (rmc mv) (mv 1) (mv 2) (sprZ n i q mra 0) q.toNat)), (0, .ref y0), (1, vI q), (2, vI wt), (3, vI x), (4, vI mo)]) hx hb dX7_counts_151 hl (k := 3) rfl rfl (by decide) rfl (fun ls hl => ?_)
                            refine lv_goto (tgt := 56) hx hb dX7_counts_154 (by decide) ?_
                            exact L56i _ (by omega) (i + 1) b (sprZ n i q mra 0) mfb mgb mdb H locs ls rfl (by omega) (by omega) (by omega) (by omega) (by first | rfl | (rw [sumZ_s (by omega), hbb]; first | rw [qI_d1 (by omega) (by omega)] | rw [qI_d0 (by omega) (by omega), Int.add_zero] | rw [qI_n (by omega) (by omega), Int.add_zero] | rw [qI_l1 (by omega) (by omega) (by omega)] | rw [qI_l0 (by omega) (by omega), Int.add_zero] | rw [qI_s1 (by omega) (by omega) (by omega)] | rw [qI_s0 (by omega) (by omega), Int.add_zero])) (by omega) hP hD hS (lv_sub hl [1, 0, 4, 5, 6, 7, 8] rfl)
                          · exact absurd c140 (by omega)
                        · skip
                          refine lv_iload_n hx hb dX7_counts_103 rfl (lv_at hl 5 rfl) ?_
                          refine z_iconst hx hb dX7_counts_104 ?_
                          refine z_icmp_ne (tgt := 120) hx hb dX7_counts_105 (by decide) (by omega) (fun c105 => ?_) (fun c105 => ?_)
                          · skip
                            refine lv_aload_n hx hb dX7_counts_120 rfl (lv_at hl 3 rfl) ?_
                            refine lv_iload_n hx hb dX7_counts_121 rfl (lv_at hl 4 rfl) ?_
                            refine g_callVi (own := RX7) (n := 1) (mc := 0) (ms := 0) (As := [vI q]) (rest := []) (wc := [kO y0 7 [vI n, .ref v0, .ref a0, vI sts, .ref r0, .ref f0, .ref g0, .ref d0, .ref t9, vI ty, vI 0], kI cI r0 9 (sprZ n i q mra 0)]) (wr := [kI cI v0 21 mv, kI cI f0 9 mfb, kI cI g0 9 mgb, kI cI d0 8 mdb]) hx hb hml hown hts hK hP hD hS hA [0, 2] [1, 3, 4, 5] rfl rfl (by decide) (by decide) 7 0 rfl rfl (c_X7_sumOf l dd cI cJ cC cS y0 v0 a0 r0 f0 g0 d0 t9 n sts ty 0 (sprZ n i q mra 0) q H.size  (by first | assumption | omega)) gX7_counts_X7_sumOf rfl (by decide +kernel) (by decide) (by decide) (by decide) (by decide) rfl hl.1 rfl (Nat.le_of_ble_eq_true rfl) dX7_counts_122 (fun z_12 u_13 H locs hp122 hP hD hS => ?_)
                            subst z_12
                            have hP : va_P dd vwCl [kI cI v0 21 mv, kI cI f0 9 mfb, kI cI g0 9 mgb, kI cI d0 8 mdb, kO y0 7 [vI n, .ref v0, .ref a0, vI sts, .ref r0, .ref f0, .ref g0, .ref d0, .ref t9, vI ty, vI 0], kI cI r0 9 (sprZ n i q mra 0)] H := hP
                            have hD : va_D A [kI cI v0 21 mv, kI cI f0 9 mfb, kI cI g0 9 mgb, kI cI d0 8 mdb, kO y0 7 [vI n, .ref v0, .ref a0, vI sts, .ref r0, .ref f0, .ref g0, .ref d0, .ref t9, vI ty, vI 0], kI cI r0 9 (sprZ n i q mra 0)] := hD
                            have hsc : sumZ (sprZ n i q mra 0) q.toNat = sumZ (dgZ n i q) q.toNat := sumZ_congr _ (fun j h0 h1 => sprZ_at h0 (by omega))
                            have hsg := sumZ_rg (f := dgZ n i q) (c := 8) q.toNat (fun j _ _ => by have := dgZ_rg (n := n) (code := i) (q := q) (k := j) hn.1; omega)
                            refine lv_iload_n hx hb dX7_counts_125 rfl (lv_at hl 6 rfl) ?_
                            refine z_icmp_ne (tgt := 133) hx hb dX7_counts_126 (by decide) (by omega) (fun c126 => ?_) (fun c126 => ?_)
                            · skip
                              refine z_iconst hx hb dX7_counts_133 ?_
                              refine lv_istore (lv' := [(8, vI 0), (7, vI (lvZ n (rmc mv) (mv 1) (mv 2) (sprZ n i q mra 0) q.toNat)), (5, vI b), (6, vI i), (0, .ref y0), (1, vI q), (2, vI wt), (3, vI x), (4, vI mo)]) hx hb dX7_counts_134 hl (by decide) rfl (fun ls hl => ?_)
                              refine lv_iload hx hb dX7_counts_136 (lv_at hl 2 rfl) ?_
                              refine lv_iload hx hb dX7_counts_138 (lv_at hl 0 rfl) ?_
                              refine z_if_eq (tgt := 147) hx hb dX7_counts_140 (by decide) (by omega) (fun c140 => ?_) (fun c140 => ?_)
                              · skip
                                refine z_iconst hx hb dX7_counts_147 ?_
                                refine z_iadd (z := b) hx hb (Int.add_zero _) dX7_counts_148 ?_
                                refine lv_istore (lv' := [(5, vI b), (8, vI 0), (7, vI (lvZ n (rmc mv) (mv 1) (mv 2) (sprZ n i q mra 0) q.toNat)), (6, vI i), (0, .ref y0), (1, vI q), (2, vI wt), (3, vI x), (4, vI mo)]) hx hb dX7_counts_149 hl (by decide) rfl (fun ls hl => ?_)
                                refine z_iinc (a := i) (z := (i + 1)) (lv' := [(6, vI (i + 1)), (5, vI b), (8, vI 0), (7, vI (lvZ n (rmc mv) (mv 1) (mv 2) (sprZ n i q mra 0) q.toNat)), (0, .ref y0), (1, vI q), (2, vI wt), (3, vI x), (4, vI mo)]) hx hb dX7_counts_151 hl (k := 3) rfl rfl (by decide) rfl (fun ls hl => ?_)
                                refine lv_goto (tgt := 56) hx hb dX7_counts_154 (by decide) ?_
                                exact L56i _ (by omega) (i + 1) b (sprZ n i q mra 0) mfb mgb mdb H locs ls rfl (by omega) (by omega) (by omega) (by omega) (by first | rfl | (rw [sumZ_s (by omega), hbb]; first | rw [qI_d1 (by omega) (by omega)] | rw [qI_d0 (by omega) (by omega), Int.add_zero] | rw [qI_n (by omega) (by omega), Int.add_zero] | rw [qI_l1 (by omega) (by omega) (by omega)] | rw [qI_l0 (by omega) (by omega), Int.add_zero] | rw [qI_s1 (by omega) (by omega) (by omega)] | rw [qI_s0 (by omega) (by omega), Int.add_zero])) (by omega) (hP.sub [4, 0, 5, 1, 2, 3] rfl) (hD.sub [4, 0, 5, 1, 2, 3] (by decide) rfl) hS (lv_sub hl [1, 0, 4, 5, 6, 7, 8] rfl)
                              · exact absurd c140 (by omega)
                            · skip
                              refine z_iconst hx hb dX7_counts_129 ?_
                              refine lv_goto (tgt := 134) hx hb dX7_counts_130 (by decide) ?_
                              refine lv_istore (lv' := [(8, vI 1), (7, vI (lvZ n (rmc mv) (mv 1) (mv 2) (sprZ n i q mra 0) q.toNat)), (5, vI b), (6, vI i), (0, .ref y0), (1, vI q), (2, vI wt), (3, vI x), (4, vI mo)]) hx hb dX7_counts_134 hl (by decide) rfl (fun ls hl => ?_)
                              refine lv_iload hx hb dX7_counts_136 (lv_at hl 2 rfl) ?_
                              refine lv_iload hx hb dX7_counts_138 (lv_at hl 0 rfl) ?_
                              refine z_if_eq (tgt := 147) hx hb dX7_counts_140 (by decide) (by omega) (fun c140 => ?_) (fun c140 => ?_)
                              · exact absurd c140 (by omega)
                              · skip
                                refine z_iconst hx hb dX7_counts_143 ?_
                                refine lv_goto (tgt := 148) hx hb dX7_counts_144 (by decide) ?_
                                refine z_iadd (z := (b + 1)) hx hb rfl dX7_counts_148 ?_
                                refine lv_istore (lv' := [(5, vI (b + 1)), (8, vI 1), (7, vI (lvZ n (rmc mv) (mv 1) (mv 2) (sprZ n i q mra 0) q.toNat)), (6, vI i), (0, .ref y0), (1, vI q), (2, vI wt), (3, vI x), (4, vI mo)]) hx hb dX7_counts_149 hl (by decide) rfl (fun ls hl => ?_)
                                refine z_iinc (a := i) (z := (i + 1)) (lv' := [(6, vI (i + 1)), (5, vI (b + 1)), (8, vI 1), (7, vI (lvZ n (rmc mv) (mv 1) (mv 2) (sprZ n i q mra 0) q.toNat)), (0, .ref y0), (1, vI q), (2, vI wt), (3, vI x), (4, vI mo)]) hx hb dX7_counts_151 hl (k := 3) rfl rfl (by decide) rfl (fun ls hl => ?_)
                                refine lv_goto (tgt := 56) hx hb dX7_counts_154 (by decide) ?_
                                exact L56i _ (by omega) (i + 1) (b + 1) (sprZ n i q mra 0) mfb mgb mdb H locs ls rfl (by omega) (by omega) (by omega) (by omega) (by first | rfl | (rw [sumZ_s (by omega), hbb]; first | rw [qI_d1 (by omega) (by omega)] | rw [qI_d0 (by omega) (by omega), Int.add_zero] | rw [qI_n (by omega) (by omega), Int.add_zero] | rw [qI_l1 (by omega) (by omega) (by omega)] | rw [qI_l0 (by omega) (by omega), Int.add_zero] | rw [qI_s1 (by omega) (by omega) (by omega)] | rw [qI_s0 (by omega) (by omega), Int.add_zero])) (by omega) (hP.sub [4, 0, 5, 1, 2, 3] rfl) (hD.sub [4, 0, 5, 1, 2, 3] (by decide) rfl) hS (lv_sub hl [1, 0, 4, 5, 6, 7, 8] rfl)
                          · skip
                            refine lv_aload_n hx hb dX7_counts_108 rfl (lv_at hl 3 rfl) ?_
                            refine lv_iload_n hx hb dX7_counts_109 rfl (lv_at hl 4 rfl) ?_
                            refine g_callVi (own := RX7) (n := 1) (mc := 0) (ms := 0) (As := [vI q]) (rest := []) (wc := [kO y0 7 [vI n, .ref v0, .ref a0, vI sts, .ref r0, .ref f0, .ref g0, .ref d0, .ref t9, vI ty, vI 0], kI cI r0 9 (sprZ n i q mra 0), kI cI f0 9 mfb]) (wr := [kI cI v0 21 mv, kI cI g0 9 mgb, kI cI d0 8 mdb]) hx hb hml hown hts hK hP hD hS hA [0, 2, 3] [1, 4, 5] rfl rfl (by decide) (by decide) 7 0 rfl rfl (c_X7_luckyOf l dd cI cJ cC cS y0 v0 a0 r0 f0 g0 d0 t9 n sts ty 0 (sprZ n i q mra 0) mfb q H.size  (by first | assumption | omega) (fun j h0 h1 => by rw [sprZ_at h0 h1]; have := dgZ_rg (n := n) (code := i) (q := q) (k := j) hn.1; omega) (fun j h0 h1 => by have a1 := (hp75 j h0 h1).1; have a2 := ppl_rg n (rmc mv) (mv 1) (mv 2) (sprZ n i q mra 0) j; rw [a1]; omega)) gX7_counts_X7_luckyOf rfl (by decide +kernel) (by decide) (by decide) (by decide) (by decide) rfl hl.1 rfl (Nat.le_of_ble_eq_true rfl) dX7_counts_110 (fun z_14 u_15 H locs hp110 hP hD hS => ?_)
                            subst z_14
                            have hP : va_P dd vwCl [kI cI v0 21 mv, kI cI g0 9 mgb, kI cI d0 8 mdb, kO y0 7 [vI n, .ref v0, .ref a0, vI sts, .ref r0, .ref f0, .ref g0, .ref d0, .ref t9, vI ty, vI 0], kI cI r0 9 (sprZ n i q mra 0), kI cI f0 9 mfb] H := hP
                            have hD : va_D A [kI cI v0 21 mv, kI cI g0 9 mgb, kI cI d0 8 mdb, kO y0 7 [vI n, .ref v0, .ref a0, vI sts, .ref r0, .ref f0, .ref g0, .ref d0, .ref t9, vI ty, vI 0], kI cI r0 9 (sprZ n i q mra 0), kI cI f0 9 mfb] := hD
                            have hkc : sumZ (fun k => if mfb k = sprZ n i q mra 0 k then 1 else 0) q.toNat = lkZ n (rmc mv) (mv 1) (mv 2) (dgZ n i q) q.toNat := sumZ_congr _ (fun j h0 h1 => by
                              show (if _ then (1 : Int) else 0) = (if _ then (1 : Int) else 0)
                              rw [(hp75 j h0 (by omega)).1, sprZ_at h0 (by omega), ppl_congr (wj := dgZ n i q) h0 (fun u a b => sprZ_at a (by omega))])
                            have hkg := sum01 (f := fun c => if ppl n (rmc mv) (mv 1) (mv 2) (dgZ n i q) c = dgZ n i q c then (1 : Int) else 0) (fun j => by split <;> omega) q.toNat
                            have hkg2 : 0 ≤ lkZ n (rmc mv) (mv 1) (mv 2) (dgZ n i q) q.toNat ∧ lkZ n (rmc mv) (mv 1) (mv 2) (dgZ n i q) q.toNat ≤ q.toNat := hkg
                            refine lv_iload_n hx hb dX7_counts_113 rfl (lv_at hl 6 rfl) ?_
                            refine z_icmp_ne (tgt := 133) hx hb dX7_counts_114 (by decide) (by omega) (fun c114 => ?_) (fun c114 => ?_)
                            · skip
                              refine z_iconst hx hb dX7_counts_133 ?_
                              refine lv_istore (lv' := [(8, vI 0), (7, vI (lvZ n (rmc mv) (mv 1) (mv 2) (sprZ n i q mra 0) q.toNat)), (5, vI b), (6, vI i), (0, .ref y0), (1, vI q), (2, vI wt), (3, vI x), (4, vI mo)]) hx hb dX7_counts_134 hl (by decide) rfl (fun ls hl => ?_)
                              refine lv_iload hx hb dX7_counts_136 (lv_at hl 2 rfl) ?_
                              refine lv_iload hx hb dX7_counts_138 (lv_at hl 0 rfl) ?_
                              refine z_if_eq (tgt := 147) hx hb dX7_counts_140 (by decide) (by omega) (fun c140 => ?_) (fun c140 => ?_)
                              · skip
                                refine z_iconst hx hb dX7_counts_147 ?_
                                refine z_iadd (z := b) hx hb (Int.add_zero _) dX7_counts_148 ?_
                                refine lv_istore (lv' := [(5, vI b), (8, vI 0), (7, vI (lvZ n (rmc mv) (mv 1) (mv 2) (sprZ n i q mra 0) q.toNat)), (6, vI i), (0, .ref y0), (1, vI q), (2, vI wt), (3, vI x), (4, vI mo)]) hx hb dX7_counts_149 hl (by decide) rfl (fun ls hl => ?_)
                                refine z_iinc (a := i) (z := (i + 1)) (lv' := [(6, vI (i + 1)), (5, vI b), (8, vI 0), (7, vI (lvZ n (rmc mv) (mv 1) (mv 2) (sprZ n i q mra 0) q.toNat)), (0, .ref y0), (1, vI q), (2, vI wt), (3, vI x), (4, vI mo)]) hx hb dX7_counts_151 hl (k := 3) rfl rfl (by decide) rfl (fun ls hl => ?_)
                                refine lv_goto (tgt := 56) hx hb dX7_counts_154 (by decide) ?_
                                exact L56i _ (by omega) (i + 1) b (sprZ n i q mra 0) mfb mgb mdb H locs ls rfl (by omega) (by omega) (by omega) (by omega) (by first | rfl | (rw [sumZ_s (by omega), hbb]; first | rw [qI_d1 (by omega) (by omega)] | rw [qI_d0 (by omega) (by omega), Int.add_zero] | rw [qI_n (by omega) (by omega), Int.add_zero] | rw [qI_l1 (by omega) (by omega) (by omega)] | rw [qI_l0 (by omega) (by omega), Int.add_zero] | rw [qI_s1 (by omega) (by omega) (by omega)] | rw [qI_s0 (by omega) (by omega), Int.add_zero])) (by omega) (hP.sub [3, 0, 4, 5, 1, 2] rfl) (hD.sub [3, 0, 4, 5, 1, 2] (by decide) rfl) hS (lv_sub hl [1, 0, 4, 5, 6, 7, 8] rfl)
                              · exact absurd c140 (by omega)
                            · skip
                              refine lv_goto (tgt := 129) hx hb dX7_counts_117 (by decide) ?_
                              refine z_iconst hx hb dX7_counts_129 ?_
                              refine lv_goto (tgt := 134) hx hb dX7_counts_130 (by decide) ?_
                              refine lv_istore (lv' := [(8, vI 1), (7, vI (lvZ n (rmc mv) (mv 1) (mv 2) (sprZ n i q mra 0) q.toNat)), (5, vI b), (6, vI i), (0, .ref y0), (1, vI q), (2, vI wt), (3, vI x), (4, vI mo)]) hx hb dX7_counts_134 hl (by decide) rfl (fun ls hl => ?_)
                              refine lv_iload hx hb dX7_counts_136 (lv_at hl 2 rfl) ?_
                              refine lv_iload hx hb dX7_counts_138 (lv_at hl 0 rfl) ?_
                              refine z_if_eq (tgt := 147) hx hb dX7_counts_140 (by decide) (by omega) (fun c140 => ?_) (fun c140 => ?_)
                              · exact absurd c140 (by omega)
                              · skip
                                refine z_iconst hx hb dX7_counts_143 ?_
                                refine lv_goto (tgt := 148) hx hb dX7_counts_144 (by decide) ?_
                                refine z_iadd (z := (b + 1)) hx hb rfl dX7_counts_148 ?_
                                refine lv_istore (lv' := [(5, vI (b + 1)), (8, vI 1), (7, vI (lvZ n (rmc mv) (mv 1) (mv 2) (sprZ n i q mra 0) q.toNat)), (6, vI i), (0, .ref y0), (1, vI q), (2, vI wt), (3, vI x), (4, vI mo)]) hx hb dX7_counts_149 hl (by decide) rfl (fun ls hl => ?_)
                                refine z_iinc (a := i) (z := (i + 1)) (lv' := [(6, vI (i + 1)), (5, vI (b + 1)), (8, vI 1), (7, vI (lvZ n (rmc mv) (mv 1) (mv 2) (sprZ n i q mra 0) q.toNat)), (0, .ref y0), (1, vI q), (2, vI wt), (3, vI x), (4, vI mo)]) hx hb dX7_counts_151 hl (k := 3) rfl rfl (by decide) rfl (fun ls hl => ?_)
                                refine lv_goto (tgt := 56) hx hb dX7_counts_154 (by decide) ?_
                                exact L56i _ (by omega) (i + 1) (b + 1) (sprZ n i q mra 0) mfb mgb mdb H locs ls rfl (by omega) (by omega) (by omega) (by omega) (by first | rfl | (rw [sumZ_s (by omega), hbb]; first | rw [qI_d1 (by omega) (by omega)] | rw [qI_d0 (by omega) (by omega), Int.add_zero] | rw [qI_n (by omega) (by omega), Int.add_zero] | rw [qI_l1 (by omega) (by omega) (by omega)] | rw [qI_l0 (by omega) (by omega), Int.add_zero] | rw [qI_s1 (by omega) (by omega) (by omega)] | rw [qI_s0 (by omega) (by omega), Int.add_zero])) (by omega) (hP.sub [3, 0, 4, 5, 1, 2] rfl) (hD.sub [3, 0, 4, 5, 1, 2] (by decide) rfl) hS (lv_sub hl [1, 0, 4, 5, 6, 7, 8] rfl)
                      · skip
                        refine lv_iload hx hb dX7_counts_84 (lv_at hl 0 rfl) ?_
                        refine lv_iload_n hx hb dX7_counts_86 rfl (lv_at hl 6 rfl) ?_
                        refine z_icmp_ne (tgt := 94) hx hb dX7_counts_87 (by decide) (by omega) (fun c87 => ?_) (fun c87 => ?_)
                        · skip
                          refine z_iconst hx hb dX7_counts_94 ?_
                          refine lv_goto (tgt := 134) hx hb dX7_counts_95 (by decide) ?_
                          refine lv_istore (lv' := [(8, vI 0), (7, vI (lvZ n (rmc mv) (mv 1) (mv 2) (sprZ n i q mra 0) q.toNat)), (5, vI b), (6, vI i), (0, .ref y0), (1, vI q), (2, vI wt), (3, vI x), (4, vI mo)]) hx hb dX7_counts_134 hl (by decide) rfl (fun ls hl => ?_)
                          refine lv_iload hx hb dX7_counts_136 (lv_at hl 2 rfl) ?_
                          refine lv_iload hx hb dX7_counts_138 (lv_at hl 0 rfl) ?_
                          refine z_if_eq (tgt := 147) hx hb dX7_counts_140 (by decide) (by omega) (fun c140 => ?_) (fun c140 => ?_)
                          · skip
                            refine z_iconst hx hb dX7_counts_147 ?_
                            refine z_iadd (z := b) hx hb (Int.add_zero _) dX7_counts_148 ?_
                            refine lv_istore (lv' := [(5, vI b), (8, vI 0), (7, vI (lvZ n (rmc mv) (mv 1) (mv 2) (sprZ n i q mra 0) q.toNat)), (6, vI i), (0, .ref y0), (1, vI q), (2, vI wt), (3, vI x), (4, vI mo)]) hx hb dX7_counts_149 hl (by decide) rfl (fun ls hl => ?_)
                            refine z_iinc (a := i) (z := (i + 1)) (lv' := [(6, vI (i + 1)), (5, vI b), (8, vI 0), (7, vI (lvZ n (rmc mv) (mv 1) (mv 2) (sprZ n i q mra 0) q.toNat)), (0, .ref y0), (1, vI q), (2, vI wt), (3, vI x), (4, vI mo)]) hx hb dX7_counts_151 hl (k := 3) rfl rfl (by decide) rfl (fun ls hl => ?_)
                            refine lv_goto (tgt := 56) hx hb dX7_counts_154 (by decide) ?_
                            exact L56i _ (by omega) (i + 1) b (sprZ n i q mra 0) mfb mgb mdb H locs ls rfl (by omega) (by omega) (by omega) (by omega) (by first | rfl | (rw [sumZ_s (by omega), hbb]; first | rw [qI_d1 (by omega) (by omega)] | rw [qI_d0 (by omega) (by omega), Int.add_zero] | rw [qI_n (by omega) (by omega), Int.add_zero] | rw [qI_l1 (by omega) (by omega) (by omega)] | rw [qI_l0 (by omega) (by omega), Int.add_zero] | rw [qI_s1 (by omega) (by omega) (by omega)] | rw [qI_s0 (by omega) (by omega), Int.add_zero])) (by omega) hP hD hS (lv_sub hl [1, 0, 4, 5, 6, 7, 8] rfl)
                          · exact absurd c140 (by omega)
                        · skip
                          refine z_iconst hx hb dX7_counts_90 ?_
                          refine lv_goto (tgt := 134) hx hb dX7_counts_91 (by decide) ?_
                          refine lv_istore (lv' := [(8, vI 1), (7, vI (lvZ n (rmc mv) (mv 1) (mv 2) (sprZ n i q mra 0) q.toNat)), (5, vI b), (6, vI i), (0, .ref y0), (1, vI q), (2, vI wt), (3, vI x), (4, vI mo)]) hx hb dX7_counts_134 hl (by decide) rfl (fun ls hl => ?_)
                          refine lv_iload hx hb dX7_counts_136 (lv_at hl 2 rfl) ?_
                          refine lv_iload hx hb dX7_counts_138 (lv_at hl 0 rfl) ?_
                          refine z_if_eq (tgt := 147) hx hb dX7_counts_140 (by decide) (by omega) (fun c140 => ?_) (fun c140 => ?_)
                          · exact absurd c140 (by omega)
                          · skip
                            refine z_iconst hx hb dX7_counts_143 ?_
                            refine lv_goto (tgt := 148) hx hb dX7_counts_144 (by decide) ?_
                            refine z_iadd (z := (b + 1)) hx hb rfl dX7_counts_148 ?_
                            refine lv_istore (lv' := [(5, vI (b + 1)), (8, vI 1), (7, vI (lvZ n (rmc mv) (mv 1) (mv 2) (sprZ n i q mra 0) q.toNat)), (6, vI i), (0, .ref y0), (1, vI q), (2, vI wt), (3, vI x), (4, vI mo)]) hx hb dX7_counts_149 hl (by decide) rfl (fun ls hl => ?_)
                            refine z_iinc (a := i) (z := (i + 1)) (lv' := [(6, vI (i + 1)), (5, vI (b + 1)), (8, vI 1), (7, vI (lvZ n (rmc mv) (mv 1) (mv 2) (sprZ n i q mra 0) q.toNat)), (0, .ref y0), (1, vI q), (2, vI wt), (3, vI x), (4, vI mo)]) hx hb dX7_counts_151 hl (k := 3) rfl rfl (by decide) rfl (fun ls hl => ?_)
                            refine lv_goto (tgt := 56) hx hb dX7_counts_154 (by decide) ?_
                            exact L56i _ (by omega) (i + 1) (b + 1) (sprZ n i q mra 0) mfb mgb mdb H locs ls rfl (by omega) (by omega) (by omega) (by omega) (by first | rfl | (rw [sumZ_s (by omega), hbb]; first | rw [qI_d1 (by omega) (by omega)] | rw [qI_d0 (by omega) (by omega), Int.add_zero] | rw [qI_n (by omega) (by omega), Int.add_zero] | rw [qI_l1 (by omega) (by omega) (by omega)] | rw [qI_l0 (by omega) (by omega), Int.add_zero] | rw [qI_s1 (by omega) (by omega) (by omega)] | rw [qI_s0 (by omega) (by omega), Int.add_zero])) (by omega) hP hD hS (lv_sub hl [1, 0, 4, 5, 6, 7, 8] rfl)
                  · skip
                    subst z_7
                    have hP : va_P dd vwCl [kI cI v0 21 mv, kI cI r0 9 mra, kI cI f0 9 mfa, kI cI g0 9 mga, kI cI d0 8 mda, kO y0 7 [vI n, .ref v0, .ref a0, vI sts, .ref r0, .ref f0, .ref g0, .ref d0, .ref t9, vI ty, vI 0]] H := hP
                    have hD : va_D A [kI cI v0 21 mv, kI cI r0 9 mra, kI cI f0 9 mfa, kI cI g0 9 mga, kI cI d0 8 mda, kO y0 7 [vI n, .ref v0, .ref a0, vI sts, .ref r0, .ref f0, .ref g0, .ref d0, .ref t9, vI ty, vI 0]] := hD
                    exact absurd hp60_0 (by omega)
                exact L56 _ 0 0 mr mf mg md H locs ls rfl (by omega) (by omega) (by omega) (by omega) (by first | rfl | (rw [sumZ_s (by omega), hbb]; first | rw [qI_d1 (by omega) (by omega)] | rw [qI_d0 (by omega) (by omega), Int.add_zero] | rw [qI_n (by omega) (by omega), Int.add_zero] | rw [qI_l1 (by omega) (by omega) (by omega)] | rw [qI_l0 (by omega) (by omega), Int.add_zero] | rw [qI_s1 (by omega) (by omega) (by omega)] | rw [qI_s0 (by omega) (by omega), Int.add_zero])) (by omega) (hP.sub [5, 0, 1, 2, 3, 4] rfl) (hD.sub [5, 0, 1, 2, 3, 4] (by decide) rfl) hS (lv_sub hl [1, 0, 2, 3, 4, 5, 6] rfl)
              · exact absurd c45 (by omega)
            · skip
              refine z_iconst hx hb dX7_counts_33 ?_
              refine lv_goto (tgt := 38) hx hb dX7_counts_34 (by decide) ?_
              refine va_put (D := dd) (ci := 7) (v := vI 2) (ty := .int) (C := RX7) (T := TX7) (N := 11) hx hb hts hi7 tyX7 tyX7_ok nmX7 hown hK hP hD hS 5 rfl rfl 10 (by decide) (hts _ (List.mem_cons_of_mem _ (List.mem_append_left _ (List.mem_append_left _ (List.mem_of_getElem? (i := 0) rfl))))) (fun _ h9 => h9) rfl (by decide +kernel) rfl rfl (Nat.le_of_ble_eq_true rfl) dX7_counts_38 (fun H locs hP hD hS => ?_)
              have hP : va_P dd vwCl [kI cI v0 21 mv, kI cI r0 9 mr, kI cI f0 9 mf, kI cI g0 9 mg, kI cI d0 8 md, kO y0 7 [vI n, .ref v0, .ref a0, vI sts, .ref r0, .ref f0, .ref g0, .ref d0, .ref t9, vI ty, vI 2]] H := hP
              have hD : va_D A [kI cI v0 21 mv, kI cI r0 9 mr, kI cI f0 9 mf, kI cI g0 9 mg, kI cI d0 8 md, kO y0 7 [vI n, .ref v0, .ref a0, vI sts, .ref r0, .ref f0, .ref g0, .ref d0, .ref t9, vI ty, vI 2]] := hD
              refine lv_aload_n hx hb dX7_counts_41 rfl (lv_at hl 0 rfl) ?_
              refine va_get (D := dd) (ci := 7) (v := vI 2) (C := RX7) (T := TX7) (N := 11) hx hb hts hi7 hown hK hP 5 rfl rfl 10 (by decide) (hts _ (List.mem_cons_of_mem _ (List.mem_append_left _ (List.mem_append_left _ (List.mem_of_getElem? (i := 0) rfl))))) (fun _ h9 => h9) rfl dX7_counts_42 ?_
              refine z_if_eq (tgt := 50) hx hb dX7_counts_45 (by decide) (by omega) (fun c45 => ?_) (fun c45 => ?_)
              · exact absurd c45 (by omega)
              · skip
                refine z_iconst hx hb dX7_counts_48 ?_
                subst hQ
                refine z_iret (z := 0) hx hb hr hlocks dX7_counts_49 (2, mr, mf, mg, md) hK hS ⟨by omega, by omega⟩ (hP.sub [5, 0, 1, 2, 3, 4] rfl) (hD.sub [5, 0, 1, 2, 3, 4] (by decide) rfl) ?_
                first | (exfalso; omega) | exact Or.inr (Or.inl ⟨by omega, rfl, rfl⟩) | exact Or.inr (Or.inr ⟨by omega, by omega, by omega, rfl, rfl⟩)
          · skip
            subst z_5
            have hP : va_P dd vwCl [kI cI v0 21 mv, kI cI r0 9 mr, kI cI f0 9 mf, kI cI g0 9 mg, kI cI d0 8 md, kO y0 7 [vI n, .ref v0, .ref a0, vI sts, .ref r0, .ref f0, .ref g0, .ref d0, .ref t9, vI ty, vI th]] H := hP
            have hD : va_D A [kI cI v0 21 mv, kI cI r0 9 mr, kI cI f0 9 mf, kI cI g0 9 mg, kI cI d0 8 md, kO y0 7 [vI n, .ref v0, .ref a0, vI sts, .ref r0, .ref f0, .ref g0, .ref d0, .ref t9, vI ty, vI th]] := hD
            refine z_if_ne (tgt := 37) hx hb dX7_counts_30 (by decide) (by omega) (fun c30 => ?_) (fun c30 => ?_)
            · exact absurd c30 (by omega)
            · skip
              refine z_iconst hx hb dX7_counts_33 ?_
              refine lv_goto (tgt := 38) hx hb dX7_counts_34 (by decide) ?_
              refine va_put (D := dd) (ci := 7) (v := vI 2) (ty := .int) (C := RX7) (T := TX7) (N := 11) hx hb hts hi7 tyX7 tyX7_ok nmX7 hown hK hP hD hS 5 rfl rfl 10 (by decide) (hts _ (List.mem_cons_of_mem _ (List.mem_append_left _ (List.mem_append_left _ (List.mem_of_getElem? (i := 0) rfl))))) (fun _ h9 => h9) rfl (by decide +kernel) rfl rfl (Nat.le_of_ble_eq_true rfl) dX7_counts_38 (fun H locs hP hD hS => ?_)
              have hP : va_P dd vwCl [kI cI v0 21 mv, kI cI r0 9 mr, kI cI f0 9 mf, kI cI g0 9 mg, kI cI d0 8 md, kO y0 7 [vI n, .ref v0, .ref a0, vI sts, .ref r0, .ref f0, .ref g0, .ref d0, .ref t9, vI ty, vI 2]] H := hP
              have hD : va_D A [kI cI v0 21 mv, kI cI r0 9 mr, kI cI f0 9 mf, kI cI g0 9 mg, kI cI d0 8 md, kO y0 7 [vI n, .ref v0, .ref a0, vI sts, .ref r0, .ref f0, .ref g0, .ref d0, .ref t9, vI ty, vI 2]] := hD
              refine lv_aload_n hx hb dX7_counts_41 rfl (lv_at hl 0 rfl) ?_
              refine va_get (D := dd) (ci := 7) (v := vI 2) (C := RX7) (T := TX7) (N := 11) hx hb hts hi7 hown hK hP 5 rfl rfl 10 (by decide) (hts _ (List.mem_cons_of_mem _ (List.mem_append_left _ (List.mem_append_left _ (List.mem_of_getElem? (i := 0) rfl))))) (fun _ h9 => h9) rfl dX7_counts_42 ?_
              refine z_if_eq (tgt := 50) hx hb dX7_counts_45 (by decide) (by omega) (fun c45 => ?_) (fun c45 => ?_)
              · exact absurd c45 (by omega)
              · skip
                refine z_iconst hx hb dX7_counts_48 ?_
                subst hQ
                refine z_iret (z := 0) hx hb hr hlocks dX7_counts_49 (2, mr, mf, mg, md) hK hS ⟨by omega, by omega⟩ (hP.sub [5, 0, 1, 2, 3, 4] rfl) (hD.sub [5, 0, 1, 2, 3, 4] (by decide) rfl) ?_
                first | (exfalso; omega) | exact Or.inr (Or.inl ⟨by omega, rfl, rfl⟩) | exact Or.inr (Or.inr ⟨by omega, by omega, by omega, rfl, rfl⟩)
        · exact absurd c18 (by omega)
      · skip
        subst z_3
        have hP : va_P dd vwCl [kO y0 7 [vI n, .ref v0, .ref a0, vI sts, .ref r0, .ref f0, .ref g0, .ref d0, .ref t9, vI ty, vI th], kI cI v0 21 mv, kI cI r0 9 mr, kI cI f0 9 mf, kI cI g0 9 mg, kI cI d0 8 md] H := hP
        have hD : va_D A [kO y0 7 [vI n, .ref v0, .ref a0, vI sts, .ref r0, .ref f0, .ref g0, .ref d0, .ref t9, vI ty, vI th], kI cI v0 21 mv, kI cI r0 9 mr, kI cI f0 9 mf, kI cI g0 9 mg, kI cI d0 8 md] := hD
        refine z_if_ne (tgt := 25) hx hb dX7_counts_18 (by decide) (by omega) (fun c18 => ?_) (fun c18 => ?_)
        · exact absurd c18 (by omega)
        · skip
          refine z_iconst hx hb dX7_counts_21 ?_
          refine lv_goto (tgt := 38) hx hb dX7_counts_22 (by decide) ?_
          refine va_put (D := dd) (ci := 7) (v := vI 1) (ty := .int) (C := RX7) (T := TX7) (N := 11) hx hb hts hi7 tyX7 tyX7_ok nmX7 hown hK hP hD hS 0 rfl rfl 10 (by decide) (hts _ (List.mem_cons_of_mem _ (List.mem_append_left _ (List.mem_append_left _ (List.mem_of_getElem? (i := 0) rfl))))) (fun _ h9 => h9) rfl (by decide +kernel) rfl rfl (Nat.le_of_ble_eq_true rfl) dX7_counts_38 (fun H locs hP hD hS => ?_)
          have hP : va_P dd vwCl [kO y0 7 [vI n, .ref v0, .ref a0, vI sts, .ref r0, .ref f0, .ref g0, .ref d0, .ref t9, vI ty, vI 1], kI cI v0 21 mv, kI cI r0 9 mr, kI cI f0 9 mf, kI cI g0 9 mg, kI cI d0 8 md] H := hP
          have hD : va_D A [kO y0 7 [vI n, .ref v0, .ref a0, vI sts, .ref r0, .ref f0, .ref g0, .ref d0, .ref t9, vI ty, vI 1], kI cI v0 21 mv, kI cI r0 9 mr, kI cI f0 9 mf, kI cI g0 9 mg, kI cI d0 8 md] := hD
          refine lv_aload_n hx hb dX7_counts_41 rfl (lv_at hl 0 rfl) ?_
          refine va_get (D := dd) (ci := 7) (v := vI 1) (C := RX7) (T := TX7) (N := 11) hx hb hts hi7 hown hK hP 0 rfl rfl 10 (by decide) (hts _ (List.mem_cons_of_mem _ (List.mem_append_left _ (List.mem_append_left _ (List.mem_of_getElem? (i := 0) rfl))))) (fun _ h9 => h9) rfl dX7_counts_42 ?_
          refine z_if_eq (tgt := 50) hx hb dX7_counts_45 (by decide) (by omega) (fun c45 => ?_) (fun c45 => ?_)
          · exact absurd c45 (by omega)
          · skip
            refine z_iconst hx hb dX7_counts_48 ?_
            subst hQ
            refine z_iret (z := 0) hx hb hr hlocks dX7_counts_49 (1, mr, mf, mg, md) hK hS ⟨by omega, by omega⟩ hP hD ?_
            first | (exfalso; omega) | exact Or.inr (Or.inl ⟨by omega, rfl, rfl⟩) | exact Or.inr (Or.inr ⟨by omega, by omega, by omega, rfl, rfl⟩)
  · skip
    subst z_1
    have hP : va_P dd vwCl [kO y0 7 [vI n, .ref v0, .ref a0, vI sts, .ref r0, .ref f0, .ref g0, .ref d0, .ref t9, vI ty, vI th], kI cI v0 21 mv, kI cI r0 9 mr, kI cI f0 9 mf, kI cI g0 9 mg, kI cI d0 8 md] H := hP
    have hD : va_D A [kO y0 7 [vI n, .ref v0, .ref a0, vI sts, .ref r0, .ref f0, .ref g0, .ref d0, .ref t9, vI ty, vI th], kI cI v0 21 mv, kI cI r0 9 mr, kI cI f0 9 mf, kI cI g0 9 mg, kI cI d0 8 md] := hD
    refine z_if_eq (tgt := 21) hx hb dX7_counts_8 (by decide) (by omega) (fun c8 => ?_) (fun c8 => ?_)
    · skip
      refine z_iconst hx hb dX7_counts_21 ?_
      refine lv_goto (tgt := 38) hx hb dX7_counts_22 (by decide) ?_
      refine va_put (D := dd) (ci := 7) (v := vI 1) (ty := .int) (C := RX7) (T := TX7) (N := 11) hx hb hts hi7 tyX7 tyX7_ok nmX7 hown hK hP hD hS 0 rfl rfl 10 (by decide) (hts _ (List.mem_cons_of_mem _ (List.mem_append_left _ (List.mem_append_left _ (List.mem_of_getElem? (i := 0) rfl))))) (fun _ h9 => h9) rfl (by decide +kernel) rfl rfl (Nat.le_of_ble_eq_true rfl) dX7_counts_38 (fun H locs hP hD hS => ?_)
      have hP : va_P dd vwCl [kO y0 7 [vI n, .ref v0, .ref a0, vI sts, .ref r0, .ref f0, .ref g0, .ref d0, .ref t9, vI ty, vI 1], kI cI v0 21 mv, kI cI r0 9 mr, kI cI f0 9 mf, kI cI g0 9 mg, kI cI d0 8 md] H := hP
      have hD : va_D A [kO y0 7 [vI n, .ref v0, .ref a0, vI sts, .ref r0, .ref f0, .ref g0, .ref d0, .ref t9, vI ty, vI 1], kI cI v0 21 mv, kI cI r0 9 mr, kI cI f0 9 mf, kI cI g0 9 mg, kI cI d0 8 md] := hD
      refine lv_aload_n hx hb dX7_counts_41 rfl (lv_at hl 0 rfl) ?_
      refine va_get (D := dd) (ci := 7) (v := vI 1) (C := RX7) (T := TX7) (N := 11) hx hb hts hi7 hown hK hP 0 rfl rfl 10 (by decide) (hts _ (List.mem_cons_of_mem _ (List.mem_append_left _ (List.mem_append_left _ (List.mem_of_getElem? (i := 0) rfl))))) (fun _ h9 => h9) rfl dX7_counts_42 ?_
      refine z_if_eq (tgt := 50) hx hb dX7_counts_45 (by decide) (by omega) (fun c45 => ?_) (fun c45 => ?_)
      · exact absurd c45 (by omega)
      · skip
        refine z_iconst hx hb dX7_counts_48 ?_
        subst hQ
        refine z_iret (z := 0) hx hb hr hlocks dX7_counts_49 (1, mr, mf, mg, md) hK hS ⟨by omega, by omega⟩ hP hD ?_
        first | (exfalso; omega) | exact Or.inr (Or.inl ⟨by omega, rfl, rfl⟩) | exact Or.inr (Or.inr ⟨by omega, by omega, by omega, rfl, rfl⟩)
    · exact absurd c8 (by omega)

set_option maxHeartbeats 4000000 in
set_option maxRecDepth 100000 in
theorem c_X7_countDefect (l : Launch) (dd : va_G) (cI cJ cC cS : ClassId) (y0 v0 a0 r0 f0 g0 d0 t9 : Nat) (n sts ty th : Int) (mv : Int → Int) (mr mf mg md : Int → Int) (q x : Int) (sz : Nat) (hn : 1 ≤ n ∧ n ≤ 8) (hc1 : 0 ≤ mv 1 ∧ mv 1 ≤ 3) (hc2 : 0 ≤ mv 2 ∧ mv 2 ≤ 8) (hcap : ∀ j : Int, 0 ≤ j → j < n → 0 ≤ mv (3 + j) ∧ mv (3 + j) ≤ 3) (hgq : rg q) (hgx : rg x) : gMi l yX7_countDefect wsX7_countDefect 5 0 0 dd cI cJ cC cS [.ref y0, vI q, vI x] [kO y0 7 [vI n, .ref v0, .ref a0, vI sts, .ref r0, .ref f0, .ref g0, .ref d0, .ref t9, vI ty, vI th], kI cI v0 21 mv, kI cI r0 9 mr, kI cI f0 9 mf, kI cI g0 9 mg, kI cI d0 8 md] sz (fun (z : Int) (u : Int × (Int → Int) × (Int → Int) × (Int → Int) × (Int → Int)) => (((0 ≤ q ∧ q ≤ 9) ∧ (0 ≤ x ∧ x ≤ 9) ∧ powZ n q.toNat ≤ 50000 ∧ z = sumZ (qI 0 x n (rmc mv) (mv 1) (mv 2) q) (powZ n q.toNat).toNat ∧ u.1 = 0) ∨ (¬ ((0 ≤ q ∧ q ≤ 9) ∧ (0 ≤ x ∧ x ≤ 9)) ∧ z = 0 ∧ u.1 = 1) ∨ ((0 ≤ q ∧ q ≤ 9) ∧ (0 ≤ x ∧ x ≤ 9) ∧ 50000 < powZ n q.toNat ∧ z = 0 ∧ u.1 = 2))) (fun (u : Int × (Int → Int) × (Int → Int) × (Int → Int) × (Int → Int)) => [kO y0 7 [vI n, .ref v0, .ref a0, vI sts, .ref r0, .ref f0, .ref g0, .ref d0, .ref t9, vI ty, vI u.1], kI cI v0 21 mv, kI cI r0 9 u.2.1, kI cI f0 9 u.2.2.1, kI cI g0 9 u.2.2.2.1, kI cI d0 8 u.2.2.2.2]) := by
  refine gMi_of (cc := cX7_countDefect) (maxL := 3) (ret := (some .int)) (by decide) rfl (Nat.le_of_ble_eq_true rfl) ?_
  intro p e s m args below meth c A Q hQ hx hb hr hts hown hlocks hnm hml H locs hP hK hD hA hS ls hl
  have hl : lv_has ls 3 [(0, .ref y0), (1, vI q), (2, vI x)] := hl
  refine lv_aload_n hx hb dX7_countDefect_0 rfl (lv_at hl 0 rfl) ?_
  refine lv_iload_n hx hb dX7_countDefect_1 rfl (lv_at hl 1 rfl) ?_
  refine z_iconst hx hb dX7_countDefect_2 ?_
  refine lv_iload_n hx hb dX7_countDefect_3 rfl (lv_at hl 2 rfl) ?_
  refine z_bipush hx hb dX7_countDefect_4 (by decide +kernel) ?_
  refine g_callVi (own := RX7) (n := 4) (mc := 0) (ms := 0) (As := [vI q, vI 0, vI x, vI 9]) (rest := []) (wc := [kO y0 7 [vI n, .ref v0, .ref a0, vI sts, .ref r0, .ref f0, .ref g0, .ref d0, .ref t9, vI ty, vI th], kI cI v0 21 mv, kI cI r0 9 mr, kI cI f0 9 mf, kI cI g0 9 mg, kI cI d0 8 md]) (wr := []) hx hb hml hown hts hK hP hD hS hA [0, 1, 2, 3, 4, 5] [] rfl rfl (by decide) (by decide) 7 0 rfl rfl (c_X7_counts l dd cI cJ cC cS y0 v0 a0 r0 f0 g0 d0 t9 n sts ty th mv mr mf mg md q 0 x 9 H.size  (by first | assumption | omega) (by first | assumption | omega) (by first | assumption | omega) (by first | assumption | (intro j h0 h1; omega)) (by first | assumption | omega) (by first | assumption | omega) (by first | assumption | omega) (by first | assumption | omega)) gX7_countDefect_X7_counts rfl (by decide +kernel) (by decide) (by decide) (by decide) (by decide) rfl hl.1 rfl (Nat.le_of_ble_eq_true rfl) dX7_countDefect_6 (fun z_1 u_2 H locs hp6 hP hD hS => ?_)
  obtain ⟨th1_3, mr1_4, mf1_5, mg1_6, md1_7⟩ := u_2
  try dsimp only at hp6
  have hP : va_P dd vwCl [kO y0 7 [vI n, .ref v0, .ref a0, vI sts, .ref r0, .ref f0, .ref g0, .ref d0, .ref t9, vI ty, vI th1_3], kI cI v0 21 mv, kI cI r0 9 mr1_4, kI cI f0 9 mf1_5, kI cI g0 9 mg1_6, kI cI d0 8 md1_7] H := hP
  have hD : va_D A [kO y0 7 [vI n, .ref v0, .ref a0, vI sts, .ref r0, .ref f0, .ref g0, .ref d0, .ref t9, vI ty, vI th1_3], kI cI v0 21 mv, kI cI r0 9 mr1_4, kI cI f0 9 mf1_5, kI cI g0 9 mg1_6, kI cI d0 8 md1_7] := hD
  subst hQ
  refine z_iret (z := z_1) hx hb hr hlocks dX7_countDefect_9 (th1_3, mr1_4, mf1_5, mg1_6, md1_7) hK hS ⟨by omega, by omega⟩ hP hD ?_
  exact hp6

set_option maxHeartbeats 4000000 in
set_option maxRecDepth 100000 in
theorem c_X7_countLucky (l : Launch) (dd : va_G) (cI cJ cC cS : ClassId) (y0 v0 a0 r0 f0 g0 d0 t9 : Nat) (n sts ty th : Int) (mv : Int → Int) (mr mf mg md : Int → Int) (q x : Int) (sz : Nat) (hn : 1 ≤ n ∧ n ≤ 8) (hc1 : 0 ≤ mv 1 ∧ mv 1 ≤ 3) (hc2 : 0 ≤ mv 2 ∧ mv 2 ≤ 8) (hcap : ∀ j : Int, 0 ≤ j → j < n → 0 ≤ mv (3 + j) ∧ mv (3 + j) ≤ 3) (hgq : rg q) (hgx : rg x) : gMi l yX7_countLucky wsX7_countLucky 5 0 0 dd cI cJ cC cS [.ref y0, vI q, vI x] [kO y0 7 [vI n, .ref v0, .ref a0, vI sts, .ref r0, .ref f0, .ref g0, .ref d0, .ref t9, vI ty, vI th], kI cI v0 21 mv, kI cI r0 9 mr, kI cI f0 9 mf, kI cI g0 9 mg, kI cI d0 8 md] sz (fun (z : Int) (u : Int × (Int → Int) × (Int → Int) × (Int → Int) × (Int → Int)) => (((0 ≤ q ∧ q ≤ 9) ∧ (0 ≤ x ∧ x ≤ 9) ∧ powZ n q.toNat ≤ 50000 ∧ z = sumZ (qI 1 x n (rmc mv) (mv 1) (mv 2) q) (powZ n q.toNat).toNat ∧ u.1 = 0) ∨ (¬ ((0 ≤ q ∧ q ≤ 9) ∧ (0 ≤ x ∧ x ≤ 9)) ∧ z = 0 ∧ u.1 = 1) ∨ ((0 ≤ q ∧ q ≤ 9) ∧ (0 ≤ x ∧ x ≤ 9) ∧ 50000 < powZ n q.toNat ∧ z = 0 ∧ u.1 = 2))) (fun (u : Int × (Int → Int) × (Int → Int) × (Int → Int) × (Int → Int)) => [kO y0 7 [vI n, .ref v0, .ref a0, vI sts, .ref r0, .ref f0, .ref g0, .ref d0, .ref t9, vI ty, vI u.1], kI cI v0 21 mv, kI cI r0 9 u.2.1, kI cI f0 9 u.2.2.1, kI cI g0 9 u.2.2.2.1, kI cI d0 8 u.2.2.2.2]) := by
  refine gMi_of (cc := cX7_countLucky) (maxL := 3) (ret := (some .int)) (by decide) rfl (Nat.le_of_ble_eq_true rfl) ?_
  intro p e s m args below meth c A Q hQ hx hb hr hts hown hlocks hnm hml H locs hP hK hD hA hS ls hl
  have hl : lv_has ls 3 [(0, .ref y0), (1, vI q), (2, vI x)] := hl
  refine lv_aload_n hx hb dX7_countLucky_0 rfl (lv_at hl 0 rfl) ?_
  refine lv_iload_n hx hb dX7_countLucky_1 rfl (lv_at hl 1 rfl) ?_
  refine z_iconst hx hb dX7_countLucky_2 ?_
  refine lv_iload_n hx hb dX7_countLucky_3 rfl (lv_at hl 2 rfl) ?_
  refine z_bipush hx hb dX7_countLucky_4 (by decide +kernel) ?_
  refine g_callVi (own := RX7) (n := 4) (mc := 0) (ms := 0) (As := [vI q, vI 1, vI x, vI 9]) (rest := []) (wc := [kO y0 7 [vI n, .ref v0, .ref a0, vI sts, .ref r0, .ref f0, .ref g0, .ref d0, .ref t9, vI ty, vI th], kI cI v0 21 mv, kI cI r0 9 mr, kI cI f0 9 mf, kI cI g0 9 mg, kI cI d0 8 md]) (wr := []) hx hb hml hown hts hK hP hD hS hA [0, 1, 2, 3, 4, 5] [] rfl rfl (by decide) (by decide) 7 0 rfl rfl (c_X7_counts l dd cI cJ cC cS y0 v0 a0 r0 f0 g0 d0 t9 n sts ty th mv mr mf mg md q 1 x 9 H.size  (by first | assumption | omega) (by first | assumption | omega) (by first | assumption | omega) (by first | assumption | (intro j h0 h1; omega)) (by first | assumption | omega) (by first | assumption | omega) (by first | assumption | omega) (by first | assumption | omega)) gX7_countLucky_X7_counts rfl (by decide +kernel) (by decide) (by decide) (by decide) (by decide) rfl hl.1 rfl (Nat.le_of_ble_eq_true rfl) dX7_countLucky_6 (fun z_1 u_2 H locs hp6 hP hD hS => ?_)
  obtain ⟨th1_3, mr1_4, mf1_5, mg1_6, md1_7⟩ := u_2
  try dsimp only at hp6
  have hP : va_P dd vwCl [kO y0 7 [vI n, .ref v0, .ref a0, vI sts, .ref r0, .ref f0, .ref g0, .ref d0, .ref t9, vI ty, vI th1_3], kI cI v0 21 mv, kI cI r0 9 mr1_4, kI cI f0 9 mf1_5, kI cI g0 9 mg1_6, kI cI d0 8 md1_7] H := hP
  have hD : va_D A [kO y0 7 [vI n, .ref v0, .ref a0, vI sts, .ref r0, .ref f0, .ref g0, .ref d0, .ref t9, vI ty, vI th1_3], kI cI v0 21 mv, kI cI r0 9 mr1_4, kI cI f0 9 mf1_5, kI cI g0 9 mg1_6, kI cI d0 8 md1_7] := hD
  subst hQ
  refine z_iret (z := z_1) hx hb hr hlocks dX7_countLucky_9 (th1_3, mr1_4, mf1_5, mg1_6, md1_7) hK hS ⟨by omega, by omega⟩ hP hD ?_
  exact hp6

set_option maxHeartbeats 4000000 in
set_option maxRecDepth 100000 in
theorem c_X7_countSum (l : Launch) (dd : va_G) (cI cJ cC cS : ClassId) (y0 v0 a0 r0 f0 g0 d0 t9 : Nat) (n sts ty th : Int) (mv : Int → Int) (mr mf mg md : Int → Int) (q x : Int) (sz : Nat) (hn : 1 ≤ n ∧ n ≤ 8) (hc1 : 0 ≤ mv 1 ∧ mv 1 ≤ 3) (hc2 : 0 ≤ mv 2 ∧ mv 2 ≤ 8) (hcap : ∀ j : Int, 0 ≤ j → j < n → 0 ≤ mv (3 + j) ∧ mv (3 + j) ≤ 3) (hgq : rg q) (hgx : rg x) : gMi l yX7_countSum wsX7_countSum 5 0 0 dd cI cJ cC cS [.ref y0, vI q, vI x] [kO y0 7 [vI n, .ref v0, .ref a0, vI sts, .ref r0, .ref f0, .ref g0, .ref d0, .ref t9, vI ty, vI th], kI cI v0 21 mv, kI cI r0 9 mr, kI cI f0 9 mf, kI cI g0 9 mg, kI cI d0 8 md] sz (fun (z : Int) (u : Int × (Int → Int) × (Int → Int) × (Int → Int) × (Int → Int)) => (((0 ≤ q ∧ q ≤ 9) ∧ (0 ≤ x ∧ x ≤ 63) ∧ powZ n q.toNat ≤ 50000 ∧ z = sumZ (qI 2 x n (rmc mv) (mv 1) (mv 2) q) (powZ n q.toNat).toNat ∧ u.1 = 0) ∨ (¬ ((0 ≤ q ∧ q ≤ 9) ∧ (0 ≤ x ∧ x ≤ 63)) ∧ z = 0 ∧ u.1 = 1) ∨ ((0 ≤ q ∧ q ≤ 9) ∧ (0 ≤ x ∧ x ≤ 63) ∧ 50000 < powZ n q.toNat ∧ z = 0 ∧ u.1 = 2))) (fun (u : Int × (Int → Int) × (Int → Int) × (Int → Int) × (Int → Int)) => [kO y0 7 [vI n, .ref v0, .ref a0, vI sts, .ref r0, .ref f0, .ref g0, .ref d0, .ref t9, vI ty, vI u.1], kI cI v0 21 mv, kI cI r0 9 u.2.1, kI cI f0 9 u.2.2.1, kI cI g0 9 u.2.2.2.1, kI cI d0 8 u.2.2.2.2]) := by
  refine gMi_of (cc := cX7_countSum) (maxL := 3) (ret := (some .int)) (by decide) rfl (Nat.le_of_ble_eq_true rfl) ?_
  intro p e s m args below meth c A Q hQ hx hb hr hts hown hlocks hnm hml H locs hP hK hD hA hS ls hl
  have hl : lv_has ls 3 [(0, .ref y0), (1, vI q), (2, vI x)] := hl
  refine lv_aload_n hx hb dX7_countSum_0 rfl (lv_at hl 0 rfl) ?_
  refine lv_iload_n hx hb dX7_countSum_1 rfl (lv_at hl 1 rfl) ?_
  refine z_iconst hx hb dX7_countSum_2 ?_
  refine lv_iload_n hx hb dX7_countSum_3 rfl (lv_at hl 2 rfl) ?_
  refine z_bipush hx hb dX7_countSum_4 (by decide +kernel) ?_
  refine g_callVi (own := RX7) (n := 4) (mc := 0) (ms := 0) (As := [vI q, vI 2, vI x, vI 63]) (rest := []) (wc := [kO y0 7 [vI n, .ref v0, .ref a0, vI sts, .ref r0, .ref f0, .ref g0, .ref d0, .ref t9, vI ty, vI th], kI cI v0 21 mv, kI cI r0 9 mr, kI cI f0 9 mf, kI cI g0 9 mg, kI cI d0 8 md]) (wr := []) hx hb hml hown hts hK hP hD hS hA [0, 1, 2, 3, 4, 5] [] rfl rfl (by decide) (by decide) 7 0 rfl rfl (c_X7_counts l dd cI cJ cC cS y0 v0 a0 r0 f0 g0 d0 t9 n sts ty th mv mr mf mg md q 2 x 63 H.size  (by first | assumption | omega) (by first | assumption | omega) (by first | assumption | omega) (by first | assumption | (intro j h0 h1; omega)) (by first | assumption | omega) (by first | assumption | omega) (by first | assumption | omega) (by first | assumption | omega)) gX7_countSum_X7_counts rfl (by decide +kernel) (by decide) (by decide) (by decide) (by decide) rfl hl.1 rfl (Nat.le_of_ble_eq_true rfl) dX7_countSum_6 (fun z_1 u_2 H locs hp6 hP hD hS => ?_)
  obtain ⟨th1_3, mr1_4, mf1_5, mg1_6, md1_7⟩ := u_2
  try dsimp only at hp6
  have hP : va_P dd vwCl [kO y0 7 [vI n, .ref v0, .ref a0, vI sts, .ref r0, .ref f0, .ref g0, .ref d0, .ref t9, vI ty, vI th1_3], kI cI v0 21 mv, kI cI r0 9 mr1_4, kI cI f0 9 mf1_5, kI cI g0 9 mg1_6, kI cI d0 8 md1_7] H := hP
  have hD : va_D A [kO y0 7 [vI n, .ref v0, .ref a0, vI sts, .ref r0, .ref f0, .ref g0, .ref d0, .ref t9, vI ty, vI th1_3], kI cI v0 21 mv, kI cI r0 9 mr1_4, kI cI f0 9 mf1_5, kI cI g0 9 mg1_6, kI cI d0 8 md1_7] := hD
  subst hQ
  refine z_iret (z := z_1) hx hb hr hlocks dX7_countSum_9 (th1_3, mr1_4, mf1_5, mg1_6, md1_7) hK hS ⟨by omega, by omega⟩ hP hD ?_
  exact hp6

set_option maxHeartbeats 4000000 in
set_option maxRecDepth 100000 in
theorem c_X7_rank (l : Launch) (dd : va_G) (cI cJ cC cS : ClassId) (y0 v0 a0 r0 f0 g0 d0 t9 : Nat) (n sts ty th : Int) (mv : Int → Int) (mr mf mg md : Int → Int) (sz : Nat) (hn : 1 ≤ n ∧ n ≤ 8) (hc0 : 0 ≤ mv 0 ∧ mv 0 ≤ 9) (hc1 : 0 ≤ mv 1 ∧ mv 1 ≤ 3) (hc2 : 0 ≤ mv 2 ∧ mv 2 ≤ 8) (hcap : ∀ j : Int, 0 ≤ j → j < n → 0 ≤ mv (3 + j) ∧ mv (3 + j) ≤ 3) (hwi : ∀ j : Int, 0 ≤ j → j < mv 0 → 0 ≤ mv (12 + j) ∧ mv (12 + j) < n) : gMi l yX7_rank wsX7_rank 4 0 0 dd cI cJ cC cS [.ref y0] [kO y0 7 [vI n, .ref v0, .ref a0, vI sts, .ref r0, .ref f0, .ref g0, .ref d0, .ref t9, vI ty, vI th], kI cI v0 21 mv, kI cI r0 9 mr, kI cI f0 9 mf, kI cI g0 9 mg, kI cI d0 8 md] sz (fun (z : Int) (u : Int × (Int → Int) × (Int → Int) × (Int → Int) × (Int → Int)) => ((powZ n (mv 0).toNat ≤ 50000 ∧ z = sumZ (qI 0 0 n (rmc mv) (mv 1) (mv 2) (mv 0)) (codZ n (wv mv) (mv 0).toNat).toNat ∧ u.1 = 0) ∨ (50000 < powZ n (mv 0).toNat ∧ z = 0 ∧ u.1 = 1))) (fun (u : Int × (Int → Int) × (Int → Int) × (Int → Int) × (Int → Int)) => [kO y0 7 [vI n, .ref v0, .ref a0, vI sts, .ref r0, .ref f0, .ref g0, .ref d0, .ref t9, vI ty, vI u.1], kI cI v0 21 mv, kI cI r0 9 u.2.1, kI cI f0 9 u.2.2.1, kI cI g0 9 u.2.2.2.1, kI cI d0 8 u.2.2.2.2]) := by
  refine gMi_of (cc := cX7_rank) (maxL := 4) (ret := (some .int)) (by decide) rfl (Nat.le_of_ble_eq_true rfl) ?_
  intro p e s m args below meth c A Q hQ hx hb hr hts hown hlocks hnm hml H locs hP hK hD hA hS ls hl
  have hi7 : ∀ w ∈ wsX70, w ∈ wsX7_rank := fun _ h => (List.mem_cons_of_mem _ (List.mem_append_right _ h))
  have hl : lv_has ls 4 [(0, .ref y0)] := hl
  refine lv_aload_n hx hb dX7_rank_0 rfl (lv_at hl 0 rfl) ?_
  refine lv_aload_n hx hb dX7_rank_1 rfl (lv_at hl 0 rfl) ?_
  refine lv_aload_n hx hb dX7_rank_2 rfl (lv_at hl 0 rfl) ?_
  refine va_get (D := dd) (ci := 7) (v := .ref v0) (C := RX7) (T := TX7) (N := 11) hx hb hts hi7 hown hK hP 0 rfl rfl 1 (by decide) (hts _ (List.mem_cons_of_mem _ (List.mem_append_left _ (List.mem_append_left _ (List.mem_of_getElem? (i := 0) rfl))))) (fun _ h9 => h9) rfl dX7_rank_3 ?_
  refine z_iconst hx hb dX7_rank_6 ?_
  refine z_iald hx hb hK hP 1 0 rfl rfl (i := 0) (by omega) (by decide) dX7_rank_7 ?_
  refine g_callVi (own := RX7) (n := 1) (mc := 0) (ms := 0) (As := [vI (mv 0)]) (rest := [.ref y0]) (wc := [kO y0 7 [vI n, .ref v0, .ref a0, vI sts, .ref r0, .ref f0, .ref g0, .ref d0, .ref t9, vI ty, vI th]]) (wr := [kI cI v0 21 mv, kI cI r0 9 mr, kI cI f0 9 mf, kI cI g0 9 mg, kI cI d0 8 md]) hx hb hml hown hts hK hP hD hS hA [0] [1, 2, 3, 4, 5] rfl rfl (by decide) (by decide) 7 0 rfl rfl (c_X7_listsOf l dd cI cJ cC cS y0 v0 a0 r0 f0 g0 d0 t9 n sts ty th (mv 0) H.size  (by first | assumption | omega) (by first | assumption | omega)) gX7_rank_X7_listsOf rfl (by decide +kernel) (by decide) (by decide) (by decide) (by decide) rfl hl.1 rfl (Nat.le_of_ble_eq_true rfl) dX7_rank_8 (fun z_1 u_2 H locs hp8 hP hD hS => ?_)
  rcases hp8 with ⟨hp8_0, hp8_z⟩ | ⟨hp8_0, hp8_z⟩
  · skip
    subst z_1
    have hP : va_P dd vwCl [kI cI v0 21 mv, kI cI r0 9 mr, kI cI f0 9 mf, kI cI g0 9 mg, kI cI d0 8 md, kO y0 7 [vI n, .ref v0, .ref a0, vI sts, .ref r0, .ref f0, .ref g0, .ref d0, .ref t9, vI ty, vI th]] H := hP
    have hD : va_D A [kI cI v0 21 mv, kI cI r0 9 mr, kI cI f0 9 mf, kI cI g0 9 mg, kI cI d0 8 md, kO y0 7 [vI n, .ref v0, .ref a0, vI sts, .ref r0, .ref f0, .ref g0, .ref d0, .ref t9, vI ty, vI th]] := hD
    have hp9 := powZ_9 hn (k := (mv 0).toNat) (by omega)
    refine z_if_ne (tgt := 18) hx hb dX7_rank_11 (by decide) (by omega) (fun c11 => ?_) (fun c11 => ?_)
    · skip
      refine z_iconst hx hb dX7_rank_18 ?_
      refine va_put (D := dd) (ci := 7) (v := vI 0) (ty := .int) (C := RX7) (T := TX7) (N := 11) hx hb hts hi7 tyX7 tyX7_ok nmX7 hown hK hP hD hS 5 rfl rfl 10 (by decide) (hts _ (List.mem_cons_of_mem _ (List.mem_append_left _ (List.mem_append_left _ (List.mem_of_getElem? (i := 1) rfl))))) (fun _ h9 => h9) rfl (by decide +kernel) rfl rfl (Nat.le_of_ble_eq_true rfl) dX7_rank_19 (fun H locs hP hD hS => ?_)
      have hP : va_P dd vwCl [kI cI v0 21 mv, kI cI r0 9 mr, kI cI f0 9 mf, kI cI g0 9 mg, kI cI d0 8 md, kO y0 7 [vI n, .ref v0, .ref a0, vI sts, .ref r0, .ref f0, .ref g0, .ref d0, .ref t9, vI ty, vI 0]] H := hP
      have hD : va_D A [kI cI v0 21 mv, kI cI r0 9 mr, kI cI f0 9 mf, kI cI g0 9 mg, kI cI d0 8 md, kO y0 7 [vI n, .ref v0, .ref a0, vI sts, .ref r0, .ref f0, .ref g0, .ref d0, .ref t9, vI ty, vI 0]] := hD
      refine lv_aload_n hx hb dX7_rank_22 rfl (lv_at hl 0 rfl) ?_
      refine va_get (D := dd) (ci := 7) (v := vI 0) (C := RX7) (T := TX7) (N := 11) hx hb hts hi7 hown hK hP 5 rfl rfl 10 (by decide) (hts _ (List.mem_cons_of_mem _ (List.mem_append_left _ (List.mem_append_left _ (List.mem_of_getElem? (i := 1) rfl))))) (fun _ h9 => h9) rfl dX7_rank_23 ?_
      refine z_if_eq (tgt := 31) hx hb dX7_rank_26 (by decide) (by omega) (fun c26 => ?_) (fun c26 => ?_)
      · skip
        refine z_iconst hx hb dX7_rank_31 ?_
        refine lv_istore_n (lv' := [(1, vI 0), (0, .ref y0)]) hx hb dX7_rank_32 rfl hl (by decide) rfl (fun ls hl => ?_)
        refine z_iconst hx hb dX7_rank_33 ?_
        refine lv_istore_n (lv' := [(2, vI 0), (1, vI 0), (0, .ref y0)]) hx hb dX7_rank_34 rfl hl (by decide) rfl (fun ls hl => ?_)
        have L35 : ∀ (nn : Nat) (k : Int) (b : Int) (H : Heap) (locs : List Loc) (ls : Array Slot), ((mv 0 + 1 - k).toNat) = nn → (0 ≤ k ∧ k ≤ mv 0) → (powZ n (mv 0).toNat ≤ 50000) → (b = codZ n (wv mv) k.toNat) → va_P dd vwCl [kI cI v0 21 mv, kI cI r0 9 mr, kI cI f0 9 mf, kI cI g0 9 mg, kI cI d0 8 md, kO y0 7 [vI n, .ref v0, .ref a0, vI sts, .ref r0, .ref f0, .ref g0, .ref d0, .ref t9, vI ty, vI 0]] H → va_D A [kI cI v0 21 mv, kI cI r0 9 mr, kI cI f0 9 mf, kI cI g0 9 mg, kI cI d0 8 md, kO y0 7 [vI n, .ref v0, .ref a0, vI sts, .ref r0, .ref f0, .ref g0, .ref d0, .ref t9, vI ty, vI 0]] → va_S A s.heap H locs → lv_has ls 4 [(1, vI b), (2, vI k), (0, .ref y0)] → W p l e (gR 4 0 0) s m args below meth c H locs 0 0 Q (F0 m 35 ls []) := by
          intro nn
          induction nn using Nat.strongRecOn with
          | ind nn L35i =>
          intro k b H locs ls hmeas hk hp5 hbb hP hD hS hl
          refine lv_iload_n hx hb dX7_rank_35 rfl (lv_at hl 1 rfl) ?_
          refine lv_aload_n hx hb dX7_rank_36 rfl (lv_at hl 2 rfl) ?_
          refine va_get (D := dd) (ci := 7) (v := .ref v0) (C := RX7) (T := TX7) (N := 11) hx hb hts hi7 hown hK hP 5 rfl rfl 1 (by decide) (hts _ (List.mem_cons_of_mem _ (List.mem_append_left _ (List.mem_append_left _ (List.mem_of_getElem? (i := 0) rfl))))) (fun _ h9 => h9) rfl dX7_rank_37 ?_
          refine z_iconst hx hb dX7_rank_40 ?_
          refine z_iald hx hb hK hP 0 0 rfl rfl (i := 0) (by omega) (by decide) dX7_rank_41 ?_
          refine z_icmp_ge (tgt := 68) hx hb dX7_rank_42 (by decide) (by omega) (fun c42 => ?_) (fun c42 => ?_)
          · skip
            have hcg := codZ_rg hn (w := wv mv) (mv 0).toNat (fun j h0 h1 => hwi j h0 (by omega))
            rw [show k = mv 0 by omega] at hbb
            rw [← hbb] at hcg
            refine z_iconst hx hb dX7_rank_68 ?_
            refine lv_istore_n (lv' := [(2, vI 0), (1, vI b), (0, .ref y0)]) hx hb dX7_rank_69 rfl hl (by decide) rfl (fun ls hl => ?_)
            refine z_iconst hx hb dX7_rank_70 ?_
            refine lv_istore_n (lv' := [(3, vI 0), (2, vI 0), (1, vI b), (0, .ref y0)]) hx hb dX7_rank_71 rfl hl (by decide) rfl (fun ls hl => ?_)
            have L72 : ∀ (nn : Nat) (i : Int) (b9 : Int) (mra : Int → Int) (mfa : Int → Int) (mga : Int → Int) (mda : Int → Int) (H : Heap) (locs : List Loc) (ls : Array Slot), ((b + 1 - i).toNat) = nn → (0 ≤ i ∧ i ≤ b) → (b = codZ n (wv mv) (mv 0).toNat ∧ b < powZ n (mv 0).toNat) → (b9 = sumZ (qI 0 0 n (rmc mv) (mv 1) (mv 2) (mv 0)) i.toNat) → (0 ≤ b9 ∧ b9 ≤ i) → va_P dd vwCl [kO y0 7 [vI n, .ref v0, .ref a0, vI sts, .ref r0, .ref f0, .ref g0, .ref d0, .ref t9, vI ty, vI 0], kI cI v0 21 mv, kI cI r0 9 mra, kI cI f0 9 mfa, kI cI g0 9 mga, kI cI d0 8 mda] H → va_D A [kO y0 7 [vI n, .ref v0, .ref a0, vI sts, .ref r0, .ref f0, .ref g0, .ref d0, .ref t9, vI ty, vI 0], kI cI v0 21 mv, kI cI r0 9 mra, kI cI f0 9 mfa, kI cI g0 9 mga, kI cI d0 8 mda] → va_S A s.heap H locs → lv_has ls 4 [(2, vI b9), (3, vI i), (1, vI b), (0, .ref y0)] → W p l e (gR 4 0 0) s m args below meth c H locs 0 0 Q (F0 m 72 ls []) := by
              intro nn
              induction nn using Nat.strongRecOn with
              | ind nn L72i =>
              intro i b9 mra mfa mga mda H locs ls hmeas hi hb9 hb8 hbr hP hD hS hl
              refine lv_iload_n hx hb dX7_rank_72 rfl (lv_at hl 1 rfl) ?_
              refine lv_iload_n hx hb dX7_rank_73 rfl (lv_at hl 2 rfl) ?_
              refine z_icmp_ge (tgt := 115) hx hb dX7_rank_74 (by decide) (by omega) (fun c74 => ?_) (fun c74 => ?_)
              · skip
                refine lv_iload_n hx hb dX7_rank_115 rfl (lv_at hl 0 rfl) ?_
                subst hQ
                refine z_iret (z := b9) hx hb hr hlocks dX7_rank_116 (0, mra, mfa, mga, mda) hK hS ⟨by omega, by omega⟩ hP hD ?_
                exact Or.inl ⟨by omega, by rw [hb8, show i = b by omega, hb9.1], rfl⟩
              · skip
                refine lv_aload_n hx hb dX7_rank_77 rfl (lv_at hl 3 rfl) ?_
                refine lv_iload_n hx hb dX7_rank_78 rfl (lv_at hl 1 rfl) ?_
                refine lv_aload_n hx hb dX7_rank_79 rfl (lv_at hl 3 rfl) ?_
                refine va_get (D := dd) (ci := 7) (v := .ref v0) (C := RX7) (T := TX7) (N := 11) hx hb hts hi7 hown hK hP 0 rfl rfl 1 (by decide) (hts _ (List.mem_cons_of_mem _ (List.mem_append_left _ (List.mem_append_left _ (List.mem_of_getElem? (i := 0) rfl))))) (fun _ h9 => h9) rfl dX7_rank_80 ?_
                refine z_iconst hx hb dX7_rank_83 ?_
                refine z_iald hx hb hK hP 1 0 rfl rfl (i := 0) (by omega) (by decide) dX7_rank_84 ?_
                refine g_callVv (own := RX7) (n := 2) (mc := 0) (ms := 0) (As := [vI i, vI (mv 0)]) (rest := []) (wc := [kO y0 7 [vI n, .ref v0, .ref a0, vI sts, .ref r0, .ref f0, .ref g0, .ref d0, .ref t9, vI ty, vI 0], kI cI r0 9 mra]) (wr := [kI cI v0 21 mv, kI cI f0 9 mfa, kI cI g0 9 mga, kI cI d0 8 mda]) hx hb hml hown hts hK hP hD hS hA [0, 2] [1, 3, 4, 5] rfl rfl (by decide) (by decide) 7 0 rfl rfl (c_X7_spreads l dd cI cJ cC cS y0 v0 a0 r0 f0 g0 d0 t9 n sts ty 0 mra i (mv 0) H.size  (by first | assumption | omega) (by first | assumption | omega) (by first | assumption | omega)) gX7_rank_X7_spreads rfl (by decide +kernel) (by decide) (by decide) (by decide) (by decide) rfl hl.1 rfl (Nat.le_of_ble_eq_true rfl) dX7_rank_85 (fun u_3 H locs hp85 hP hD hS => ?_)
                have hP : va_P dd vwCl [kI cI v0 21 mv, kI cI f0 9 mfa, kI cI g0 9 mga, kI cI d0 8 mda, kO y0 7 [vI n, .ref v0, .ref a0, vI sts, .ref r0, .ref f0, .ref g0, .ref d0, .ref t9, vI ty, vI 0], kI cI r0 9 (sprZ n i (mv 0) mra 0)] H := hP
                have hD : va_D A [kI cI v0 21 mv, kI cI f0 9 mfa, kI cI g0 9 mga, kI cI d0 8 mda, kO y0 7 [vI n, .ref v0, .ref a0, vI sts, .ref r0, .ref f0, .ref g0, .ref d0, .ref t9, vI ty, vI 0], kI cI r0 9 (sprZ n i (mv 0) mra 0)] := hD
                refine lv_iload_n hx hb dX7_rank_88 rfl (lv_at hl 0 rfl) ?_
                refine lv_aload_n hx hb dX7_rank_89 rfl (lv_at hl 3 rfl) ?_
                refine lv_aload_n hx hb dX7_rank_90 rfl (lv_at hl 3 rfl) ?_
                refine va_get (D := dd) (ci := 7) (v := .ref v0) (C := RX7) (T := TX7) (N := 11) hx hb hts hi7 hown hK hP 4 rfl rfl 1 (by decide) (hts _ (List.mem_cons_of_mem _ (List.mem_append_left _ (List.mem_append_left _ (List.mem_of_getElem? (i := 0) rfl))))) (fun _ h9 => h9) rfl dX7_rank_91 ?_
                refine z_iconst hx hb dX7_rank_94 ?_
                refine z_iald hx hb hK hP 0 0 rfl rfl (i := 0) (by omega) (by decide) dX7_rank_95 ?_
                refine g_callVi (own := RX7) (n := 1) (mc := 0) (ms := 0) (As := [vI (mv 0)]) (rest := [vI b9]) (wc := [kO y0 7 [vI n, .ref v0, .ref a0, vI sts, .ref r0, .ref f0, .ref g0, .ref d0, .ref t9, vI ty, vI 0], kI cI v0 21 mv, kI cI r0 9 (sprZ n i (mv 0) mra 0), kI cI f0 9 mfa, kI cI g0 9 mga, kI cI d0 8 mda]) (wr := []) hx hb hml hown hts hK hP hD hS hA [4, 0, 5, 1, 2, 3] [] rfl rfl (by decide) (by decide) 7 0 rfl rfl (c_X7_parksAll l dd cI cJ cC cS y0 v0 a0 r0 f0 g0 d0 t9 n sts ty 0 mv (sprZ n i (mv 0) mra 0) mfa mga mda (mv 0) H.size  (by first | assumption | omega) (by first | assumption | omega) (by first | assumption | omega) (by first | assumption | (intro j h0 h1; omega)) (by first | assumption | omega) (fun j h0 h1 => by rw [sprZ_at h0 h1]; exact dgZ_rg hn.1)) gX7_rank_X7_parksAll rfl (by decide +kernel) (by decide) (by decide) (by decide) (by decide) rfl hl.1 rfl (Nat.le_of_ble_eq_true rfl) dX7_rank_96 (fun z_4 u_5 H locs hp96 hP hD hS => ?_)
                obtain ⟨mfb, mgb, mdb⟩ := u_5
                try dsimp only at hp96
                obtain ⟨z_4e, hp96⟩ := hp96
                subst z_4
                have hP : va_P dd vwCl [kO y0 7 [vI n, .ref v0, .ref a0, vI sts, .ref r0, .ref f0, .ref g0, .ref d0, .ref t9, vI ty, vI 0], kI cI v0 21 mv, kI cI r0 9 (sprZ n i (mv 0) mra 0), kI cI f0 9 mfb, kI cI g0 9 mgb, kI cI d0 8 mdb] H := hP
                have hD : va_D A [kO y0 7 [vI n, .ref v0, .ref a0, vI sts, .ref r0, .ref f0, .ref g0, .ref d0, .ref t9, vI ty, vI 0], kI cI v0 21 mv, kI cI r0 9 (sprZ n i (mv 0) mra 0), kI cI f0 9 mfb, kI cI g0 9 mgb, kI cI d0 8 mdb] := hD
                have hlc : lvZ n (rmc mv) (mv 1) (mv 2) (sprZ n i (mv 0) mra 0) ((mv 0)).toNat = lvZ n (rmc mv) (mv 1) (mv 2) (dgZ n i (mv 0)) ((mv 0)).toNat := lvZ_congr _ (fun j h0 h1 => sprZ_at h0 (by omega))
                have hlg := lvZ_rg (n := n) (cap := rmc mv) (ru := mv 1) (re := mv 2) (wi := dgZ n i (mv 0)) ((mv 0)).toNat
                refine z_if_ne (tgt := 106) hx hb dX7_rank_99 (by decide) (by omega) (fun c99 => ?_) (fun c99 => ?_)
                · skip
                  refine z_iconst hx hb dX7_rank_106 ?_
                  refine z_iadd (z := b9) hx hb (Int.add_zero _) dX7_rank_107 ?_
                  refine lv_istore_n (lv' := [(2, vI b9), (3, vI i), (1, vI b), (0, .ref y0)]) hx hb dX7_rank_108 rfl hl (by decide) rfl (fun ls hl => ?_)
                  refine z_iinc (a := i) (z := (i + 1)) (lv' := [(3, vI (i + 1)), (2, vI b9), (1, vI b), (0, .ref y0)]) hx hb dX7_rank_109 hl (k := 1) rfl rfl (by decide) rfl (fun ls hl => ?_)
                  refine lv_goto (tgt := 72) hx hb dX7_rank_112 (by decide) ?_
                  exact L72i _ (by omega) (i + 1) b9 (sprZ n i (mv 0) mra 0) mfb mgb mdb H locs ls rfl (by omega) (by omega) (by first | rfl | (rw [sumZ_s (by omega), hb8]; first | rw [qI_d1 rfl (by omega)] | rw [qI_d0 rfl (by omega), Int.add_zero])) (by omega) hP hD hS (lv_sub hl [1, 0, 2, 3] rfl)
                · skip
                  refine z_iconst hx hb dX7_rank_102 ?_
                  refine lv_goto (tgt := 107) hx hb dX7_rank_103 (by decide) ?_
                  refine z_iadd (z := (b9 + 1)) hx hb rfl dX7_rank_107 ?_
                  refine lv_istore_n (lv' := [(2, vI (b9 + 1)), (3, vI i), (1, vI b), (0, .ref y0)]) hx hb dX7_rank_108 rfl hl (by decide) rfl (fun ls hl => ?_)
                  refine z_iinc (a := i) (z := (i + 1)) (lv' := [(3, vI (i + 1)), (2, vI (b9 + 1)), (1, vI b), (0, .ref y0)]) hx hb dX7_rank_109 hl (k := 1) rfl rfl (by decide) rfl (fun ls hl => ?_)
                  refine lv_goto (tgt := 72) hx hb dX7_rank_112 (by decide) ?_
                  exact L72i _ (by omega) (i + 1) (b9 + 1) (sprZ n i (mv 0) mra 0) mfb mgb mdb H locs ls rfl (by omega) (by omega) (by first | rfl | (rw [sumZ_s (by omega), hb8]; first | rw [qI_d1 rfl (by omega)] | rw [qI_d0 rfl (by omega), Int.add_zero])) (by omega) hP hD hS (lv_sub hl [1, 0, 2, 3] rfl)
            exact L72 _ 0 0 mr mf mg md H locs ls rfl (by omega) (by omega) (by first | rfl | (rw [sumZ_s (by omega), hb8]; first | rw [qI_d1 rfl (by omega)] | rw [qI_d0 rfl (by omega), Int.add_zero])) (by omega) (hP.sub [5, 0, 1, 2, 3, 4] rfl) (hD.sub [5, 0, 1, 2, 3, 4] (by decide) rfl) hS (lv_sub hl [1, 0, 2, 3] rfl)
          · skip
            refine lv_aload_n hx hb dX7_rank_45 rfl (lv_at hl 2 rfl) ?_
            refine va_get (D := dd) (ci := 7) (v := vI n) (C := RX7) (T := TX7) (N := 11) hx hb hts hi7 hown hK hP 5 rfl rfl 0 (by decide) (hts _ (List.mem_cons_of_mem _ (List.mem_append_left _ (List.mem_append_left _ (List.mem_of_getElem? (i := 2) rfl))))) (fun _ h9 => h9) rfl dX7_rank_46 ?_
            refine lv_iload_n hx hb dX7_rank_49 rfl (lv_at hl 0 rfl) ?_
            refine z_imul (z := (n * b)) hx hb rfl dX7_rank_50 ?_
            refine lv_aload_n hx hb dX7_rank_51 rfl (lv_at hl 2 rfl) ?_
            refine va_get (D := dd) (ci := 7) (v := .ref v0) (C := RX7) (T := TX7) (N := 11) hx hb hts hi7 hown hK hP 5 rfl rfl 1 (by decide) (hts _ (List.mem_cons_of_mem _ (List.mem_append_left _ (List.mem_append_left _ (List.mem_of_getElem? (i := 0) rfl))))) (fun _ h9 => h9) rfl dX7_rank_52 ?_
            refine z_bipush hx hb dX7_rank_55 (by decide +kernel) ?_
            refine lv_iload_n hx hb dX7_rank_57 rfl (lv_at hl 1 rfl) ?_
            refine z_iadd (z := (12 + k)) hx hb rfl dX7_rank_58 ?_
            refine z_iald hx hb hK hP 0 0 rfl rfl (i := (12 + k)) (by omega) (by decide) dX7_rank_59 ?_
            refine z_iadd (z := ((n * b) + (mv (12 + k)))) hx hb rfl dX7_rank_60 ?_
            refine lv_istore_n (lv' := [(1, vI ((n * b) + (mv (12 + k)))), (2, vI k), (0, .ref y0)]) hx hb dX7_rank_61 rfl hl (by decide) rfl (fun ls hl => ?_)
            refine z_iinc (a := k) (z := (k + 1)) (lv' := [(2, vI (k + 1)), (1, vI ((n * b) + (mv (12 + k)))), (0, .ref y0)]) hx hb dX7_rank_62 hl (k := 1) rfl rfl (by decide) rfl (fun ls hl => ?_)
            refine lv_goto (tgt := 35) hx hb dX7_rank_65 (by decide) ?_
            exact L35i _ (by omega) (k + 1) ((n * b) + (mv (12 + k))) H locs ls rfl (by omega) (by omega) (by first | rfl | (rw [codZ_s (by omega), hbb]; rfl)) hP hD hS (lv_sub hl [1, 0, 2] rfl)
        exact L35 _ 0 0 H locs ls rfl (by omega) (by omega) (by first | rfl | (rw [codZ_s (by omega), hbb]; rfl)) hP hD hS (lv_sub hl [1, 0, 2] rfl)
      · exact absurd c26 (by omega)
    · skip
      refine z_iconst hx hb dX7_rank_14 ?_
      refine lv_goto (tgt := 19) hx hb dX7_rank_15 (by decide) ?_
      refine va_put (D := dd) (ci := 7) (v := vI 1) (ty := .int) (C := RX7) (T := TX7) (N := 11) hx hb hts hi7 tyX7 tyX7_ok nmX7 hown hK hP hD hS 5 rfl rfl 10 (by decide) (hts _ (List.mem_cons_of_mem _ (List.mem_append_left _ (List.mem_append_left _ (List.mem_of_getElem? (i := 1) rfl))))) (fun _ h9 => h9) rfl (by decide +kernel) rfl rfl (Nat.le_of_ble_eq_true rfl) dX7_rank_19 (fun H locs hP hD hS => ?_)
      have hP : va_P dd vwCl [kI cI v0 21 mv, kI cI r0 9 mr, kI cI f0 9 mf, kI cI g0 9 mg, kI cI d0 8 md, kO y0 7 [vI n, .ref v0, .ref a0, vI sts, .ref r0, .ref f0, .ref g0, .ref d0, .ref t9, vI ty, vI 1]] H := hP
      have hD : va_D A [kI cI v0 21 mv, kI cI r0 9 mr, kI cI f0 9 mf, kI cI g0 9 mg, kI cI d0 8 md, kO y0 7 [vI n, .ref v0, .ref a0, vI sts, .ref r0, .ref f0, .ref g0, .ref d0, .ref t9, vI ty, vI 1]] := hD
      refine lv_aload_n hx hb dX7_rank_22 rfl (lv_at hl 0 rfl) ?_
      refine va_get (D := dd) (ci := 7) (v := vI 1) (C := RX7) (T := TX7) (N := 11) hx hb hts hi7 hown hK hP 5 rfl rfl 10 (by decide) (hts _ (List.mem_cons_of_mem _ (List.mem_append_left _ (List.mem_append_left _ (List.mem_of_getElem? (i := 1) rfl))))) (fun _ h9 => h9) rfl dX7_rank_23 ?_
      refine z_if_eq (tgt := 31) hx hb dX7_rank_26 (by decide) (by omega) (fun c26 => ?_) (fun c26 => ?_)
      · exact absurd c26 (by omega)
      · skip
        refine z_iconst hx hb dX7_rank_29 ?_
        subst hQ
        refine z_iret (z := 0) hx hb hr hlocks dX7_rank_30 (1, mr, mf, mg, md) hK hS ⟨by omega, by omega⟩ (hP.sub [5, 0, 1, 2, 3, 4] rfl) (hD.sub [5, 0, 1, 2, 3, 4] (by decide) rfl) ?_
        first | (exfalso; omega) | exact Or.inr ⟨by omega, rfl, rfl⟩
  · skip
    subst z_1
    have hP : va_P dd vwCl [kI cI v0 21 mv, kI cI r0 9 mr, kI cI f0 9 mf, kI cI g0 9 mg, kI cI d0 8 md, kO y0 7 [vI n, .ref v0, .ref a0, vI sts, .ref r0, .ref f0, .ref g0, .ref d0, .ref t9, vI ty, vI th]] H := hP
    have hD : va_D A [kI cI v0 21 mv, kI cI r0 9 mr, kI cI f0 9 mf, kI cI g0 9 mg, kI cI d0 8 md, kO y0 7 [vI n, .ref v0, .ref a0, vI sts, .ref r0, .ref f0, .ref g0, .ref d0, .ref t9, vI ty, vI th]] := hD
    refine z_if_ne (tgt := 18) hx hb dX7_rank_11 (by decide) (by omega) (fun c11 => ?_) (fun c11 => ?_)
    · exact absurd c11 (by omega)
    · skip
      refine z_iconst hx hb dX7_rank_14 ?_
      refine lv_goto (tgt := 19) hx hb dX7_rank_15 (by decide) ?_
      refine va_put (D := dd) (ci := 7) (v := vI 1) (ty := .int) (C := RX7) (T := TX7) (N := 11) hx hb hts hi7 tyX7 tyX7_ok nmX7 hown hK hP hD hS 5 rfl rfl 10 (by decide) (hts _ (List.mem_cons_of_mem _ (List.mem_append_left _ (List.mem_append_left _ (List.mem_of_getElem? (i := 1) rfl))))) (fun _ h9 => h9) rfl (by decide +kernel) rfl rfl (Nat.le_of_ble_eq_true rfl) dX7_rank_19 (fun H locs hP hD hS => ?_)
      have hP : va_P dd vwCl [kI cI v0 21 mv, kI cI r0 9 mr, kI cI f0 9 mf, kI cI g0 9 mg, kI cI d0 8 md, kO y0 7 [vI n, .ref v0, .ref a0, vI sts, .ref r0, .ref f0, .ref g0, .ref d0, .ref t9, vI ty, vI 1]] H := hP
      have hD : va_D A [kI cI v0 21 mv, kI cI r0 9 mr, kI cI f0 9 mf, kI cI g0 9 mg, kI cI d0 8 md, kO y0 7 [vI n, .ref v0, .ref a0, vI sts, .ref r0, .ref f0, .ref g0, .ref d0, .ref t9, vI ty, vI 1]] := hD
      refine lv_aload_n hx hb dX7_rank_22 rfl (lv_at hl 0 rfl) ?_
      refine va_get (D := dd) (ci := 7) (v := vI 1) (C := RX7) (T := TX7) (N := 11) hx hb hts hi7 hown hK hP 5 rfl rfl 10 (by decide) (hts _ (List.mem_cons_of_mem _ (List.mem_append_left _ (List.mem_append_left _ (List.mem_of_getElem? (i := 1) rfl))))) (fun _ h9 => h9) rfl dX7_rank_23 ?_
      refine z_if_eq (tgt := 31) hx hb dX7_rank_26 (by decide) (by omega) (fun c26 => ?_) (fun c26 => ?_)
      · exact absurd c26 (by omega)
      · skip
        refine z_iconst hx hb dX7_rank_29 ?_
        subst hQ
        refine z_iret (z := 0) hx hb hr hlocks dX7_rank_30 (1, mr, mf, mg, md) hK hS ⟨by omega, by omega⟩ (hP.sub [5, 0, 1, 2, 3, 4] rfl) (hD.sub [5, 0, 1, 2, 3, 4] (by decide) rfl) ?_
        first | (exfalso; omega) | exact Or.inr ⟨by omega, rfl, rfl⟩

set_option maxHeartbeats 4000000 in
set_option maxRecDepth 100000 in
theorem c_X7_ranked (l : Launch) (dd : va_G) (cI cJ cC cS : ClassId) (y0 v0 a0 r0 f0 g0 d0 t9 : Nat) (n sts ty th : Int) (mv : Int → Int) (mr mf mg md : Int → Int) (q x : Int) (sz : Nat) (hn : 1 ≤ n ∧ n ≤ 8) (hc1 : 0 ≤ mv 1 ∧ mv 1 ≤ 3) (hc2 : 0 ≤ mv 2 ∧ mv 2 ≤ 8) (hcap : ∀ j : Int, 0 ≤ j → j < n → 0 ≤ mv (3 + j) ∧ mv (3 + j) ≤ 3) (hq : 0 ≤ q ∧ q ≤ 9) (hx9 : 0 ≤ x ∧ x < 2147483648) : gMi l yX7_ranked wsX7_ranked 4 0 0 dd cI cJ cC cS [.ref y0, vI q, vI x] [kO y0 7 [vI n, .ref v0, .ref a0, vI sts, .ref r0, .ref f0, .ref g0, .ref d0, .ref t9, vI ty, vI th], kI cI v0 21 mv, kI cI r0 9 mr, kI cI f0 9 mf, kI cI g0 9 mg, kI cI d0 8 md] sz (fun (z : Int) (u : (Int → Int) × (Int → Int) × (Int → Int) × (Int → Int)) => ((0 ≤ z ∧ z < powZ n q.toNat ∧ powZ n q.toNat ≤ 50000 ∧ (qI 0 0 n (rmc mv) (mv 1) (mv 2) q) z = 1 ∧ sumZ (qI 0 0 n (rmc mv) (mv 1) (mv 2) q) z.toNat = x) ∨ (z = -1 ∧ (50000 < powZ n q.toNat ∨ sumZ (qI 0 0 n (rmc mv) (mv 1) (mv 2) q) (powZ n q.toNat).toNat ≤ x)))) (fun (u : (Int → Int) × (Int → Int) × (Int → Int) × (Int → Int)) => [kO y0 7 [vI n, .ref v0, .ref a0, vI sts, .ref r0, .ref f0, .ref g0, .ref d0, .ref t9, vI ty, vI th], kI cI v0 21 mv, kI cI r0 9 u.1, kI cI f0 9 u.2.1, kI cI g0 9 u.2.2.1, kI cI d0 8 u.2.2.2]) := by
  refine gMi_of (cc := cX7_ranked) (maxL := 5) (ret := (some .int)) (by decide) rfl (Nat.le_of_ble_eq_true rfl) ?_
  intro p e s m args below meth c A Q hQ hx hb hr hts hown hlocks hnm hml H locs hP hK hD hA hS ls hl
  have hl : lv_has ls 5 [(0, .ref y0), (1, vI q), (2, vI x)] := hl
  refine lv_iload_n hx hb dX7_ranked_0 rfl (lv_at hl 2 rfl) ?_
  refine lv_istore_n (lv' := [(3, vI x), (0, .ref y0), (1, vI q), (2, vI x)]) hx hb dX7_ranked_1 rfl hl (by decide) rfl (fun ls hl => ?_)
  refine z_iconst hx hb dX7_ranked_2 ?_
  refine lv_istore (lv' := [(4, vI 0), (3, vI x), (0, .ref y0), (1, vI q), (2, vI x)]) hx hb dX7_ranked_3 hl (by decide) rfl (fun ls hl => ?_)
  have L5 : ∀ (nn : Nat) (i : Int) (b : Int) (mra : Int → Int) (mfa : Int → Int) (mga : Int → Int) (mda : Int → Int) (H : Heap) (locs : List Loc) (ls : Array Slot), ((powZ n q.toNat + 1 - i).toNat) = nn → (0 ≤ i ∧ i ≤ powZ n q.toNat) → (i = 0 ∨ powZ n q.toNat ≤ 50000) → (b = x - sumZ (qI 0 0 n (rmc mv) (mv 1) (mv 2) q) i.toNat) → (0 ≤ b ∧ b < 2147483648) → va_P dd vwCl [kO y0 7 [vI n, .ref v0, .ref a0, vI sts, .ref r0, .ref f0, .ref g0, .ref d0, .ref t9, vI ty, vI th], kI cI v0 21 mv, kI cI r0 9 mra, kI cI f0 9 mfa, kI cI g0 9 mga, kI cI d0 8 mda] H → va_D A [kO y0 7 [vI n, .ref v0, .ref a0, vI sts, .ref r0, .ref f0, .ref g0, .ref d0, .ref t9, vI ty, vI th], kI cI v0 21 mv, kI cI r0 9 mra, kI cI f0 9 mfa, kI cI g0 9 mga, kI cI d0 8 mda] → va_S A s.heap H locs → lv_has ls 5 [(3, vI b), (4, vI i), (0, .ref y0), (1, vI q), (2, vI x)] → W p l e (gR 4 0 0) s m args below meth c H locs 0 0 Q (F0 m 5 ls []) := by
    intro nn
    induction nn using Nat.strongRecOn with
    | ind nn L5i =>
    intro i b mra mfa mga mda H locs ls hmeas hi hi5 hbb hbr hP hD hS hl
    refine lv_iload hx hb dX7_ranked_5 (lv_at hl 1 rfl) ?_
    refine lv_aload_n hx hb dX7_ranked_7 rfl (lv_at hl 2 rfl) ?_
    refine lv_iload_n hx hb dX7_ranked_8 rfl (lv_at hl 3 rfl) ?_
    refine g_callVi (own := RX7) (n := 1) (mc := 0) (ms := 0) (As := [vI q]) (rest := [vI i]) (wc := [kO y0 7 [vI n, .ref v0, .ref a0, vI sts, .ref r0, .ref f0, .ref g0, .ref d0, .ref t9, vI ty, vI th]]) (wr := [kI cI v0 21 mv, kI cI r0 9 mra, kI cI f0 9 mfa, kI cI g0 9 mga, kI cI d0 8 mda]) hx hb hml hown hts hK hP hD hS hA [0] [1, 2, 3, 4, 5] rfl rfl (by decide) (by decide) 7 0 rfl rfl (c_X7_listsOf l dd cI cJ cC cS y0 v0 a0 r0 f0 g0 d0 t9 n sts ty th q H.size  (by first | assumption | omega) (by first | assumption | omega)) gX7_ranked_X7_listsOf rfl (by decide +kernel) (by decide) (by decide) (by decide) (by decide) rfl hl.1 rfl (Nat.le_of_ble_eq_true rfl) dX7_ranked_9 (fun z_1 u_2 H locs hp9 hP hD hS => ?_)
    rcases hp9 with ⟨hp9_0, hp9_z⟩ | ⟨hp9_0, hp9_z⟩
    · skip
      subst z_1
      have hP : va_P dd vwCl [kI cI v0 21 mv, kI cI r0 9 mra, kI cI f0 9 mfa, kI cI g0 9 mga, kI cI d0 8 mda, kO y0 7 [vI n, .ref v0, .ref a0, vI sts, .ref r0, .ref f0, .ref g0, .ref d0, .ref t9, vI ty, vI th]] H := hP
      have hD : va_D A [kI cI v0 21 mv, kI cI r0 9 mra, kI cI f0 9 mfa, kI cI g0 9 mga, kI cI d0 8 mda, kO y0 7 [vI n, .ref v0, .ref a0, vI sts, .ref r0, .ref f0, .ref g0, .ref d0, .ref t9, vI ty, vI th]] := hD
      refine z_icmp_ge (tgt := 46) hx hb dX7_ranked_12 (by decide) (by omega) (fun c12 => ?_) (fun c12 => ?_)
      · skip
        refine z_iconst hx hb dX7_ranked_46 ?_
        subst hQ
        refine z_iret (z := (-1)) hx hb hr hlocks dX7_ranked_47 (mra, mfa, mga, mda) hK hS ⟨by omega, by omega⟩ (hP.sub [5, 0, 1, 2, 3, 4] rfl) (hD.sub [5, 0, 1, 2, 3, 4] (by decide) rfl) ?_
        first | exact Or.inr ⟨rfl, Or.inl (by omega)⟩ | exact Or.inr ⟨rfl, Or.inr (by rw [show powZ n q.toNat = i by omega]; omega)⟩
      · skip
        refine lv_aload_n hx hb dX7_ranked_15 rfl (lv_at hl 2 rfl) ?_
        refine lv_iload hx hb dX7_ranked_16 (lv_at hl 1 rfl) ?_
        refine lv_iload_n hx hb dX7_ranked_18 rfl (lv_at hl 3 rfl) ?_
        refine g_callVv (own := RX7) (n := 2) (mc := 0) (ms := 0) (As := [vI i, vI q]) (rest := []) (wc := [kO y0 7 [vI n, .ref v0, .ref a0, vI sts, .ref r0, .ref f0, .ref g0, .ref d0, .ref t9, vI ty, vI th], kI cI r0 9 mra]) (wr := [kI cI v0 21 mv, kI cI f0 9 mfa, kI cI g0 9 mga, kI cI d0 8 mda]) hx hb hml hown hts hK hP hD hS hA [5, 1] [0, 2, 3, 4] rfl rfl (by decide) (by decide) 7 0 rfl rfl (c_X7_spreads l dd cI cJ cC cS y0 v0 a0 r0 f0 g0 d0 t9 n sts ty th mra i q H.size  (by first | assumption | omega) (by first | assumption | omega) (by omega)) gX7_ranked_X7_spreads rfl (by decide +kernel) (by decide) (by decide) (by decide) (by decide) rfl hl.1 rfl (Nat.le_of_ble_eq_true rfl) dX7_ranked_19 (fun u_3 H locs hp19 hP hD hS => ?_)
        have hP : va_P dd vwCl [kI cI v0 21 mv, kI cI f0 9 mfa, kI cI g0 9 mga, kI cI d0 8 mda, kO y0 7 [vI n, .ref v0, .ref a0, vI sts, .ref r0, .ref f0, .ref g0, .ref d0, .ref t9, vI ty, vI th], kI cI r0 9 (sprZ n i q mra 0)] H := hP
        have hD : va_D A [kI cI v0 21 mv, kI cI f0 9 mfa, kI cI g0 9 mga, kI cI d0 8 mda, kO y0 7 [vI n, .ref v0, .ref a0, vI sts, .ref r0, .ref f0, .ref g0, .ref d0, .ref t9, vI ty, vI th], kI cI r0 9 (sprZ n i q mra 0)] := hD
        refine lv_aload_n hx hb dX7_ranked_22 rfl (lv_at hl 2 rfl) ?_
        refine lv_iload_n hx hb dX7_ranked_23 rfl (lv_at hl 3 rfl) ?_
        refine g_callVi (own := RX7) (n := 1) (mc := 0) (ms := 0) (As := [vI q]) (rest := []) (wc := [kO y0 7 [vI n, .ref v0, .ref a0, vI sts, .ref r0, .ref f0, .ref g0, .ref d0, .ref t9, vI ty, vI th], kI cI v0 21 mv, kI cI r0 9 (sprZ n i q mra 0), kI cI f0 9 mfa, kI cI g0 9 mga, kI cI d0 8 mda]) (wr := []) hx hb hml hown hts hK hP hD hS hA [4, 0, 5, 1, 2, 3] [] rfl rfl (by decide) (by decide) 7 0 rfl rfl (c_X7_parksAll l dd cI cJ cC cS y0 v0 a0 r0 f0 g0 d0 t9 n sts ty th mv (sprZ n i q mra 0) mfa mga mda q H.size  (by first | assumption | omega) (by first | assumption | omega) (by first | assumption | omega) (by first | assumption | (intro j h0 h1; omega)) (by first | assumption | omega) (fun j h0 h1 => by rw [sprZ_at h0 h1]; exact dgZ_rg hn.1)) gX7_ranked_X7_parksAll rfl (by decide +kernel) (by decide) (by decide) (by decide) (by decide) rfl hl.1 rfl (Nat.le_of_ble_eq_true rfl) dX7_ranked_24 (fun z_4 u_5 H locs hp24 hP hD hS => ?_)
        obtain ⟨mfb, mgb, mdb⟩ := u_5
        try dsimp only at hp24
        obtain ⟨z_4e, hp24⟩ := hp24
        subst z_4
        have hP : va_P dd vwCl [kO y0 7 [vI n, .ref v0, .ref a0, vI sts, .ref r0, .ref f0, .ref g0, .ref d0, .ref t9, vI ty, vI th], kI cI v0 21 mv, kI cI r0 9 (sprZ n i q mra 0), kI cI f0 9 mfb, kI cI g0 9 mgb, kI cI d0 8 mdb] H := hP
        have hD : va_D A [kO y0 7 [vI n, .ref v0, .ref a0, vI sts, .ref r0, .ref f0, .ref g0, .ref d0, .ref t9, vI ty, vI th], kI cI v0 21 mv, kI cI r0 9 (sprZ n i q mra 0), kI cI f0 9 mfb, kI cI g0 9 mgb, kI cI d0 8 mdb] := hD
        have hlc : lvZ n (rmc mv) (mv 1) (mv 2) (sprZ n i q mra 0) (q).toNat = lvZ n (rmc mv) (mv 1) (mv 2) (dgZ n i q) (q).toNat := lvZ_congr _ (fun j h0 h1 => sprZ_at h0 (by omega))
        have hlg := lvZ_rg (n := n) (cap := rmc mv) (ru := mv 1) (re := mv 2) (wi := dgZ n i q) (q).toNat
        refine z_if_ne (tgt := 40) hx hb dX7_ranked_27 (by decide) (by omega) (fun c27 => ?_) (fun c27 => ?_)
        · skip
          refine z_iinc (a := i) (z := (i + 1)) (lv' := [(4, vI (i + 1)), (3, vI b), (0, .ref y0), (1, vI q), (2, vI x)]) hx hb dX7_ranked_40 hl (k := 1) rfl rfl (by decide) rfl (fun ls hl => ?_)
          refine lv_goto (tgt := 5) hx hb dX7_ranked_43 (by decide) ?_
          exact L5i _ (by omega) (i + 1) b (sprZ n i q mra 0) mfb mgb mdb H locs ls rfl (by omega) (by omega) (by first | exact (Int.sub_zero _).symm | (rw [sumZ_s (by omega)]; first | (rw [qI_d1 rfl (by omega)]; omega) | (rw [qI_d0 rfl (by omega)]; omega))) (by omega) hP hD hS (lv_sub hl [1, 0, 2, 3, 4] rfl)
        · skip
          refine lv_iload_n hx hb dX7_ranked_30 rfl (lv_at hl 0 rfl) ?_
          refine z_if_ne (tgt := 37) hx hb dX7_ranked_31 (by decide) (by omega) (fun c31 => ?_) (fun c31 => ?_)
          · skip
            refine z_iinc (a := b) (z := (b - 1)) (lv' := [(3, vI (b - 1)), (4, vI i), (0, .ref y0), (1, vI q), (2, vI x)]) hx hb dX7_ranked_37 hl (k := 0) rfl (by omega) (by decide) rfl (fun ls hl => ?_)
            refine z_iinc (a := i) (z := (i + 1)) (lv' := [(4, vI (i + 1)), (3, vI (b - 1)), (0, .ref y0), (1, vI q), (2, vI x)]) hx hb dX7_ranked_40 hl (k := 1) rfl rfl (by decide) rfl (fun ls hl => ?_)
            refine lv_goto (tgt := 5) hx hb dX7_ranked_43 (by decide) ?_
            exact L5i _ (by omega) (i + 1) (b - 1) (sprZ n i q mra 0) mfb mgb mdb H locs ls rfl (by omega) (by omega) (by first | exact (Int.sub_zero _).symm | (rw [sumZ_s (by omega)]; first | (rw [qI_d1 rfl (by omega)]; omega) | (rw [qI_d0 rfl (by omega)]; omega))) (by omega) hP hD hS (lv_sub hl [1, 0, 2, 3, 4] rfl)
          · skip
            refine lv_iload hx hb dX7_ranked_34 (lv_at hl 1 rfl) ?_
            subst hQ
            refine z_iret (z := i) hx hb hr hlocks dX7_ranked_36 ((sprZ n i q mra 0), mfb, mgb, mdb) hK hS ⟨by omega, by omega⟩ hP hD ?_
            exact Or.inl ⟨by omega, by omega, by omega, qI_d1 rfl (by omega), by omega⟩
    · skip
      subst z_1
      have hP : va_P dd vwCl [kI cI v0 21 mv, kI cI r0 9 mra, kI cI f0 9 mfa, kI cI g0 9 mga, kI cI d0 8 mda, kO y0 7 [vI n, .ref v0, .ref a0, vI sts, .ref r0, .ref f0, .ref g0, .ref d0, .ref t9, vI ty, vI th]] H := hP
      have hD : va_D A [kI cI v0 21 mv, kI cI r0 9 mra, kI cI f0 9 mfa, kI cI g0 9 mga, kI cI d0 8 mda, kO y0 7 [vI n, .ref v0, .ref a0, vI sts, .ref r0, .ref f0, .ref g0, .ref d0, .ref t9, vI ty, vI th]] := hD
      refine z_icmp_ge (tgt := 46) hx hb dX7_ranked_12 (by decide) (by omega) (fun c12 => ?_) (fun c12 => ?_)
      · skip
        refine z_iconst hx hb dX7_ranked_46 ?_
        subst hQ
        refine z_iret (z := (-1)) hx hb hr hlocks dX7_ranked_47 (mra, mfa, mga, mda) hK hS ⟨by omega, by omega⟩ (hP.sub [5, 0, 1, 2, 3, 4] rfl) (hD.sub [5, 0, 1, 2, 3, 4] (by decide) rfl) ?_
        first | exact Or.inr ⟨rfl, Or.inl (by omega)⟩ | exact Or.inr ⟨rfl, Or.inr (by rw [show powZ n q.toNat = i by omega]; omega)⟩
      · skip
        refine lv_aload_n hx hb dX7_ranked_15 rfl (lv_at hl 2 rfl) ?_
        refine lv_iload hx hb dX7_ranked_16 (lv_at hl 1 rfl) ?_
        refine lv_iload_n hx hb dX7_ranked_18 rfl (lv_at hl 3 rfl) ?_
        refine g_callVv (own := RX7) (n := 2) (mc := 0) (ms := 0) (As := [vI i, vI q]) (rest := []) (wc := [kO y0 7 [vI n, .ref v0, .ref a0, vI sts, .ref r0, .ref f0, .ref g0, .ref d0, .ref t9, vI ty, vI th], kI cI r0 9 mra]) (wr := [kI cI v0 21 mv, kI cI f0 9 mfa, kI cI g0 9 mga, kI cI d0 8 mda]) hx hb hml hown hts hK hP hD hS hA [5, 1] [0, 2, 3, 4] rfl rfl (by decide) (by decide) 7 0 rfl rfl (c_X7_spreads l dd cI cJ cC cS y0 v0 a0 r0 f0 g0 d0 t9 n sts ty th mra i q H.size  (by first | assumption | omega) (by first | assumption | omega) (by omega)) gX7_ranked_X7_spreads rfl (by decide +kernel) (by decide) (by decide) (by decide) (by decide) rfl hl.1 rfl (Nat.le_of_ble_eq_true rfl) dX7_ranked_19 (fun u_6 H locs hp19_7 hP hD hS => ?_)
        have hP : va_P dd vwCl [kI cI v0 21 mv, kI cI f0 9 mfa, kI cI g0 9 mga, kI cI d0 8 mda, kO y0 7 [vI n, .ref v0, .ref a0, vI sts, .ref r0, .ref f0, .ref g0, .ref d0, .ref t9, vI ty, vI th], kI cI r0 9 (sprZ n i q mra 0)] H := hP
        have hD : va_D A [kI cI v0 21 mv, kI cI f0 9 mfa, kI cI g0 9 mga, kI cI d0 8 mda, kO y0 7 [vI n, .ref v0, .ref a0, vI sts, .ref r0, .ref f0, .ref g0, .ref d0, .ref t9, vI ty, vI th], kI cI r0 9 (sprZ n i q mra 0)] := hD
        refine lv_aload_n hx hb dX7_ranked_22 rfl (lv_at hl 2 rfl) ?_
        refine lv_iload_n hx hb dX7_ranked_23 rfl (lv_at hl 3 rfl) ?_
        refine g_callVi (own := RX7) (n := 1) (mc := 0) (ms := 0) (As := [vI q]) (rest := []) (wc := [kO y0 7 [vI n, .ref v0, .ref a0, vI sts, .ref r0, .ref f0, .ref g0, .ref d0, .ref t9, vI ty, vI th], kI cI v0 21 mv, kI cI r0 9 (sprZ n i q mra 0), kI cI f0 9 mfa, kI cI g0 9 mga, kI cI d0 8 mda]) (wr := []) hx hb hml hown hts hK hP hD hS hA [4, 0, 5, 1, 2, 3] [] rfl rfl (by decide) (by decide) 7 0 rfl rfl (c_X7_parksAll l dd cI cJ cC cS y0 v0 a0 r0 f0 g0 d0 t9 n sts ty th mv (sprZ n i q mra 0) mfa mga mda q H.size  (by first | assumption | omega) (by first | assumption | omega) (by first | assumption | omega) (by first | assumption | (intro j h0 h1; omega)) (by first | assumption | omega) (fun j h0 h1 => by rw [sprZ_at h0 h1]; exact dgZ_rg hn.1)) gX7_ranked_X7_parksAll rfl (by decide +kernel) (by decide) (by decide) (by decide) (by decide) rfl hl.1 rfl (Nat.le_of_ble_eq_true rfl) dX7_ranked_24 (fun z_8 u_9 H locs hp24_10 hP hD hS => ?_)
        obtain ⟨mfb, mgb, mdb⟩ := u_9
        try dsimp only at hp24_10
        obtain ⟨z_8e, hp24_10⟩ := hp24_10
        subst z_8
        have hP : va_P dd vwCl [kO y0 7 [vI n, .ref v0, .ref a0, vI sts, .ref r0, .ref f0, .ref g0, .ref d0, .ref t9, vI ty, vI th], kI cI v0 21 mv, kI cI r0 9 (sprZ n i q mra 0), kI cI f0 9 mfb, kI cI g0 9 mgb, kI cI d0 8 mdb] H := hP
        have hD : va_D A [kO y0 7 [vI n, .ref v0, .ref a0, vI sts, .ref r0, .ref f0, .ref g0, .ref d0, .ref t9, vI ty, vI th], kI cI v0 21 mv, kI cI r0 9 (sprZ n i q mra 0), kI cI f0 9 mfb, kI cI g0 9 mgb, kI cI d0 8 mdb] := hD
        have hlc : lvZ n (rmc mv) (mv 1) (mv 2) (sprZ n i q mra 0) (q).toNat = lvZ n (rmc mv) (mv 1) (mv 2) (dgZ n i q) (q).toNat := lvZ_congr _ (fun j h0 h1 => sprZ_at h0 (by omega))
        have hlg := lvZ_rg (n := n) (cap := rmc mv) (ru := mv 1) (re := mv 2) (wi := dgZ n i q) (q).toNat
        refine z_if_ne (tgt := 40) hx hb dX7_ranked_27 (by decide) (by omega) (fun c27 => ?_) (fun c27 => ?_)
        · skip
          refine z_iinc (a := i) (z := (i + 1)) (lv' := [(4, vI (i + 1)), (3, vI b), (0, .ref y0), (1, vI q), (2, vI x)]) hx hb dX7_ranked_40 hl (k := 1) rfl rfl (by decide) rfl (fun ls hl => ?_)
          refine lv_goto (tgt := 5) hx hb dX7_ranked_43 (by decide) ?_
          exact L5i _ (by omega) (i + 1) b (sprZ n i q mra 0) mfb mgb mdb H locs ls rfl (by omega) (by omega) (by first | exact (Int.sub_zero _).symm | (rw [sumZ_s (by omega)]; first | (rw [qI_d1 rfl (by omega)]; omega) | (rw [qI_d0 rfl (by omega)]; omega))) (by omega) hP hD hS (lv_sub hl [1, 0, 2, 3, 4] rfl)
        · skip
          refine lv_iload_n hx hb dX7_ranked_30 rfl (lv_at hl 0 rfl) ?_
          refine z_if_ne (tgt := 37) hx hb dX7_ranked_31 (by decide) (by omega) (fun c31 => ?_) (fun c31 => ?_)
          · skip
            refine z_iinc (a := b) (z := (b - 1)) (lv' := [(3, vI (b - 1)), (4, vI i), (0, .ref y0), (1, vI q), (2, vI x)]) hx hb dX7_ranked_37 hl (k := 0) rfl (by omega) (by decide) rfl (fun ls hl => ?_)
            refine z_iinc (a := i) (z := (i + 1)) (lv' := [(4, vI (i + 1)), (3, vI (b - 1)), (0, .ref y0), (1, vI q), (2, vI x)]) hx hb dX7_ranked_40 hl (k := 1) rfl rfl (by decide) rfl (fun ls hl => ?_)
            refine lv_goto (tgt := 5) hx hb dX7_ranked_43 (by decide) ?_
            exact L5i _ (by omega) (i + 1) (b - 1) (sprZ n i q mra 0) mfb mgb mdb H locs ls rfl (by omega) (by omega) (by first | exact (Int.sub_zero _).symm | (rw [sumZ_s (by omega)]; first | (rw [qI_d1 rfl (by omega)]; omega) | (rw [qI_d0 rfl (by omega)]; omega))) (by omega) hP hD hS (lv_sub hl [1, 0, 2, 3, 4] rfl)
          · skip
            refine lv_iload hx hb dX7_ranked_34 (lv_at hl 1 rfl) ?_
            subst hQ
            refine z_iret (z := i) hx hb hr hlocks dX7_ranked_36 ((sprZ n i q mra 0), mfb, mgb, mdb) hK hS ⟨by omega, by omega⟩ hP hD ?_
            exact Or.inl ⟨by omega, by omega, by omega, qI_d1 rfl (by omega), by omega⟩
  exact L5 _ 0 x mr mf mg md H locs ls rfl (by have := powZ_9 hn (k := q.toNat) (by omega); omega) (by omega) (by first | exact (Int.sub_zero _).symm | (rw [sumZ_s (by omega)]; first | (rw [qI_d1 rfl (by omega)]; omega) | (rw [qI_d0 rfl (by omega)]; omega))) (by omega) hP hD hS (lv_sub hl [1, 0, 2, 3, 4] rfl)

set_option maxHeartbeats 4000000 in
set_option maxRecDepth 100000 in
theorem c_X7_setRank (l : Launch) (dd : va_G) (cI cJ cC cS : ClassId) (y0 v0 a0 r0 f0 g0 d0 t9 : Nat) (n sts ty th : Int) (mv : Int → Int) (mr mf mg md : Int → Int) (mp : Int → Int) (q x : Int) (sz : Nat) (hst : 0 ≤ sts ∧ sts ≤ 6) (hn : 1 ≤ n ∧ n ≤ 8) (hc0 : 0 ≤ mv 0 ∧ mv 0 ≤ 9) (hc1 : 0 ≤ mv 1 ∧ mv 1 ≤ 3) (hc2 : 0 ≤ mv 2 ∧ mv 2 ≤ 8) (hcap : ∀ j : Int, 0 ≤ j → j < n → 0 ≤ mv (3 + j) ∧ mv (3 + j) ≤ 3) (hwi : ∀ j : Int, 0 ≤ j → j < mv 0 → 0 ≤ mv (12 + j) ∧ mv (12 + j) < n) (hgq : rg q) (hgx : rg x) : gMi l yX7_setRank wsX7_setRank 5 0 0 dd cI cJ cC cS [.ref y0, vI q, vI x] [kO y0 7 [vI n, .ref v0, .ref a0, vI sts, .ref r0, .ref f0, .ref g0, .ref d0, .ref t9, vI ty, vI th], kI cI v0 21 mv, kI cI r0 9 mr, kI cI f0 9 mf, kI cI g0 9 mg, kI cI d0 8 md, kI cI a0 126 mp] sz (fun (z : Int) (u : Int × Int × (Int → Int) × (Int → Int) × (Int → Int) × (Int → Int) × (Int → Int) × (Int → Int)) => ((¬ ((0 ≤ q ∧ q ≤ 9) ∧ 0 ≤ x) ∧ z = 0 ∧ u.2.1 = 1 ∧ u.1 = sts ∧ u.2.2.1 = mv ∧ u.2.2.2.1 = mp) ∨ ((0 ≤ q ∧ q ≤ 9) ∧ 0 ≤ x ∧ (50000 < powZ n q.toNat ∨ sumZ (qI 0 0 n (rmc mv) (mv 1) (mv 2) q) (powZ n q.toNat).toNat ≤ x) ∧ z = 0 ∧ u.2.1 = 2 ∧ u.1 = sts ∧ u.2.2.1 = mv ∧ u.2.2.2.1 = mp) ∨ ((0 ≤ q ∧ q ≤ 9) ∧ 0 ≤ x ∧ powZ n q.toNat ≤ 50000 ∧ ∃ i : Int, 0 ≤ i ∧ i < powZ n q.toNat ∧ (qI 0 0 n (rmc mv) (mv 1) (mv 2) q) i = 1 ∧ sumZ (qI 0 0 n (rmc mv) (mv 1) (mv 2) q) i.toNat = x ∧ z = sumZ (dgZ n i q) q.toNat ∧ u.2.1 = 0 ∧ u.1 = acS sts ∧ u.2.2.2.1 = acP sts mp mv ∧ u.2.2.1 = wrP (uZ mv 0 q) (dgZ n i q) 12 q))) (fun (u : Int × Int × (Int → Int) × (Int → Int) × (Int → Int) × (Int → Int) × (Int → Int) × (Int → Int)) => [kO y0 7 [vI n, .ref v0, .ref a0, vI u.1, .ref r0, .ref f0, .ref g0, .ref d0, .ref t9, vI ty, vI u.2.1], kI cI v0 21 u.2.2.1, kI cI r0 9 u.2.2.2.2.1, kI cI f0 9 u.2.2.2.2.2.1, kI cI g0 9 u.2.2.2.2.2.2.1, kI cI d0 8 u.2.2.2.2.2.2.2, kI cI a0 126 u.2.2.2.1]) := by
  refine gMi_of (cc := cX7_setRank) (maxL := 4) (ret := (some .int)) (by decide) rfl (Nat.le_of_ble_eq_true rfl) ?_
  intro p e s m args below meth c A Q hQ hx hb hr hts hown hlocks hnm hml H locs hP hK hD hA hS ls hl
  have hi7 : ∀ w ∈ wsX70, w ∈ wsX7_setRank := fun _ h => (List.mem_cons_of_mem _ (List.mem_append_right _ h))
  have hl : lv_has ls 4 [(0, .ref y0), (1, vI q), (2, vI x)] := hl
  refine lv_aload_n hx hb dX7_setRank_0 rfl (lv_at hl 0 rfl) ?_
  refine z_iconst hx hb dX7_setRank_1 ?_
  refine va_put (D := dd) (ci := 7) (v := vI 0) (ty := .int) (C := RX7) (T := TX7) (N := 11) hx hb hts hi7 tyX7 tyX7_ok nmX7 hown hK hP hD hS 0 rfl rfl 10 (by decide) (hts _ (List.mem_cons_of_mem _ (List.mem_append_left _ (List.mem_append_left _ (List.mem_of_getElem? (i := 0) rfl))))) (fun _ h9 => h9) rfl (by decide +kernel) rfl rfl (Nat.le_of_ble_eq_true rfl) dX7_setRank_2 (fun H locs hP hD hS => ?_)
  have hP : va_P dd vwCl [kO y0 7 [vI n, .ref v0, .ref a0, vI sts, .ref r0, .ref f0, .ref g0, .ref d0, .ref t9, vI ty, vI 0], kI cI v0 21 mv, kI cI r0 9 mr, kI cI f0 9 mf, kI cI g0 9 mg, kI cI d0 8 md, kI cI a0 126 mp] H := hP
  have hD : va_D A [kO y0 7 [vI n, .ref v0, .ref a0, vI sts, .ref r0, .ref f0, .ref g0, .ref d0, .ref t9, vI ty, vI 0], kI cI v0 21 mv, kI cI r0 9 mr, kI cI f0 9 mf, kI cI g0 9 mg, kI cI d0 8 md, kI cI a0 126 mp] := hD
  refine lv_iload_n hx hb dX7_setRank_5 rfl (lv_at hl 1 rfl) ?_
  refine z_iconst hx hb dX7_setRank_6 ?_
  refine z_bipush hx hb dX7_setRank_7 (by decide +kernel) ?_
  refine g_callSi (own := RX7) (n := 3) (mc := 0) (ms := 0) (As := [vI q, vI 0, vI 9]) (rest := []) (wc := []) (wr := [kO y0 7 [vI n, .ref v0, .ref a0, vI sts, .ref r0, .ref f0, .ref g0, .ref d0, .ref t9, vI ty, vI 0], kI cI v0 21 mv, kI cI r0 9 mr, kI cI f0 9 mf, kI cI g0 9 mg, kI cI d0 8 md, kI cI a0 126 mp]) hx hb hml hown hts hK hP hD hS hA [] [0, 1, 2, 3, 4, 5, 6] rfl rfl (by decide) (by decide) (c_X7_in l dd cI cJ cC cS q 0 9 H.size  (by first | assumption | omega) (by first | assumption | omega) (by first | assumption | omega)) gX7_setRank_X7_in rfl (by decide +kernel) (by decide) (by decide) (by decide) (by decide) rfl hl.1 rfl (Nat.le_of_ble_eq_true rfl) dX7_setRank_9 (fun z_1 u_2 H locs hp9 hP hD hS => ?_)
  rcases hp9 with ⟨hp9_0, hp9_1, hp9_z⟩ | ⟨hp9_0, hp9_z⟩
  · skip
    subst z_1
    have hP : va_P dd vwCl [kO y0 7 [vI n, .ref v0, .ref a0, vI sts, .ref r0, .ref f0, .ref g0, .ref d0, .ref t9, vI ty, vI 0], kI cI v0 21 mv, kI cI r0 9 mr, kI cI f0 9 mf, kI cI g0 9 mg, kI cI d0 8 md, kI cI a0 126 mp] H := hP
    have hD : va_D A [kO y0 7 [vI n, .ref v0, .ref a0, vI sts, .ref r0, .ref f0, .ref g0, .ref d0, .ref t9, vI ty, vI 0], kI cI v0 21 mv, kI cI r0 9 mr, kI cI f0 9 mf, kI cI g0 9 mg, kI cI d0 8 md, kI cI a0 126 mp] := hD
    refine z_if_eq (tgt := 19) hx hb dX7_setRank_12 (by decide) (by omega) (fun c12 => ?_) (fun c12 => ?_)
    · exact absurd c12 (by omega)
    · skip
      refine lv_iload_n hx hb dX7_setRank_15 rfl (lv_at hl 2 rfl) ?_
      refine z_if_ge (tgt := 25) hx hb dX7_setRank_16 (by decide) (by omega) (fun c16 => ?_) (fun c16 => ?_)
      · skip
        refine lv_aload_n hx hb dX7_setRank_25 rfl (lv_at hl 0 rfl) ?_
        refine lv_iload_n hx hb dX7_setRank_26 rfl (lv_at hl 1 rfl) ?_
        refine lv_iload_n hx hb dX7_setRank_27 rfl (lv_at hl 2 rfl) ?_
        refine g_callVi (own := RX7) (n := 2) (mc := 0) (ms := 0) (As := [vI q, vI x]) (rest := []) (wc := [kO y0 7 [vI n, .ref v0, .ref a0, vI sts, .ref r0, .ref f0, .ref g0, .ref d0, .ref t9, vI ty, vI 0], kI cI v0 21 mv, kI cI r0 9 mr, kI cI f0 9 mf, kI cI g0 9 mg, kI cI d0 8 md]) (wr := [kI cI a0 126 mp]) hx hb hml hown hts hK hP hD hS hA [0, 1, 2, 3, 4, 5] [6] rfl rfl (by decide) (by decide) 7 0 rfl rfl (c_X7_ranked l dd cI cJ cC cS y0 v0 a0 r0 f0 g0 d0 t9 n sts ty 0 mv mr mf mg md q x H.size  (by first | assumption | omega) (by first | assumption | omega) (by first | assumption | omega) (by first | assumption | (intro j h0 h1; omega)) (by first | assumption | omega) (by first | assumption | omega)) gX7_setRank_X7_ranked rfl (by decide +kernel) (by decide) (by decide) (by decide) (by decide) rfl hl.1 rfl (Nat.le_of_ble_eq_true rfl) dX7_setRank_28 (fun z_3 u_4 H locs hp28 hP hD hS => ?_)
        obtain ⟨mrb, mfb, mgb, mdb⟩ := u_4
        try dsimp only at hp28
        have hP : va_P dd vwCl [kI cI a0 126 mp, kO y0 7 [vI n, .ref v0, .ref a0, vI sts, .ref r0, .ref f0, .ref g0, .ref d0, .ref t9, vI ty, vI 0], kI cI v0 21 mv, kI cI r0 9 mrb, kI cI f0 9 mfb, kI cI g0 9 mgb, kI cI d0 8 mdb] H := hP
        have hD : va_D A [kI cI a0 126 mp, kO y0 7 [vI n, .ref v0, .ref a0, vI sts, .ref r0, .ref f0, .ref g0, .ref d0, .ref t9, vI ty, vI 0], kI cI v0 21 mv, kI cI r0 9 mrb, kI cI f0 9 mfb, kI cI g0 9 mgb, kI cI d0 8 mdb] := hD
        have hp9 := powZ_9 hn (k := q.toNat) (by omega)
        have hz9 : -1 ≤ z_3 ∧ z_3 < 2147483648 ∧ (z_3 = -1 ∨ 0 ≤ z_3) := by
          rcases hp28 with ⟨a1, a2, a3, a4, a5⟩ | ⟨a1, a2⟩ <;> omega
        have hp28 : Hid _ := hp28
        refine lv_istore_n (lv' := [(3, vI z_3), (0, .ref y0), (1, vI q), (2, vI x)]) hx hb dX7_setRank_31 rfl hl (by decide) rfl (fun ls hl => ?_)
        refine lv_iload_n hx hb dX7_setRank_32 rfl (lv_at hl 0 rfl) ?_
        refine z_if_ge (tgt := 42) hx hb dX7_setRank_33 (by decide) (by omega) (fun c33 => ?_) (fun c33 => ?_)
        · skip
          refine lv_aload_n hx hb dX7_setRank_42 rfl (lv_at hl 1 rfl) ?_
          refine g_callVv (own := RX7) (n := 0) (mc := 0) (ms := 0) (As := []) (rest := []) (wc := [kO y0 7 [vI n, .ref v0, .ref a0, vI sts, .ref r0, .ref f0, .ref g0, .ref d0, .ref t9, vI ty, vI 0], kI cI v0 21 mv, kI cI a0 126 mp]) (wr := [kI cI r0 9 mrb, kI cI f0 9 mfb, kI cI g0 9 mgb, kI cI d0 8 mdb]) hx hb hml hown hts hK hP hD hS hA [1, 2, 0] [3, 4, 5, 6] rfl rfl (by decide) (by decide) 7 0 rfl rfl (c_X7_act l dd cI cJ cC cS y0 v0 a0 r0 f0 g0 d0 t9 n sts ty 0 mv mp H.size  (by first | assumption | omega)) gX7_setRank_X7_act rfl (by decide +kernel) (by decide) (by decide) (by decide) (by decide) rfl hl.1 rfl (Nat.le_of_ble_eq_true rfl) dX7_setRank_43 (fun u_5 H locs hp43 hP hD hS => ?_)
          have hP : va_P dd vwCl [kI cI r0 9 mrb, kI cI f0 9 mfb, kI cI g0 9 mgb, kI cI d0 8 mdb, kO y0 7 [vI n, .ref v0, .ref a0, vI (acS sts), .ref r0, .ref f0, .ref g0, .ref d0, .ref t9, vI ty, vI 0], kI cI v0 21 mv, kI cI a0 126 (acP sts mp mv)] H := hP
          have hD : va_D A [kI cI r0 9 mrb, kI cI f0 9 mfb, kI cI g0 9 mgb, kI cI d0 8 mdb, kO y0 7 [vI n, .ref v0, .ref a0, vI (acS sts), .ref r0, .ref f0, .ref g0, .ref d0, .ref t9, vI ty, vI 0], kI cI v0 21 mv, kI cI a0 126 (acP sts mp mv)] := hD
          refine lv_aload_n hx hb dX7_setRank_46 rfl (lv_at hl 1 rfl) ?_
          refine lv_iload_n hx hb dX7_setRank_47 rfl (lv_at hl 0 rfl) ?_
          refine lv_iload_n hx hb dX7_setRank_48 rfl (lv_at hl 2 rfl) ?_
          refine g_callVv (own := RX7) (n := 2) (mc := 0) (ms := 0) (As := [vI z_3, vI q]) (rest := []) (wc := [kO y0 7 [vI n, .ref v0, .ref a0, vI (acS sts), .ref r0, .ref f0, .ref g0, .ref d0, .ref t9, vI ty, vI 0], kI cI r0 9 mrb]) (wr := [kI cI f0 9 mfb, kI cI g0 9 mgb, kI cI d0 8 mdb, kI cI v0 21 mv, kI cI a0 126 (acP sts mp mv)]) hx hb hml hown hts hK hP hD hS hA [4, 0] [1, 2, 3, 5, 6] rfl rfl (by decide) (by decide) 7 0 rfl rfl (c_X7_spreads l dd cI cJ cC cS y0 v0 a0 r0 f0 g0 d0 t9 n (acS sts) ty 0 mrb z_3 q H.size  (by first | assumption | omega) (by first | assumption | omega) (by first | assumption | omega)) gX7_setRank_X7_spreads rfl (by decide +kernel) (by decide) (by decide) (by decide) (by decide) rfl hl.1 rfl (Nat.le_of_ble_eq_true rfl) dX7_setRank_49 (fun u_6 H locs hp49 hP hD hS => ?_)
          have hP : va_P dd vwCl [kI cI f0 9 mfb, kI cI g0 9 mgb, kI cI d0 8 mdb, kI cI v0 21 mv, kI cI a0 126 (acP sts mp mv), kO y0 7 [vI n, .ref v0, .ref a0, vI (acS sts), .ref r0, .ref f0, .ref g0, .ref d0, .ref t9, vI ty, vI 0], kI cI r0 9 (sprZ n z_3 q mrb 0)] H := hP
          have hD : va_D A [kI cI f0 9 mfb, kI cI g0 9 mgb, kI cI d0 8 mdb, kI cI v0 21 mv, kI cI a0 126 (acP sts mp mv), kO y0 7 [vI n, .ref v0, .ref a0, vI (acS sts), .ref r0, .ref f0, .ref g0, .ref d0, .ref t9, vI ty, vI 0], kI cI r0 9 (sprZ n z_3 q mrb 0)] := hD
          refine lv_aload_n hx hb dX7_setRank_52 rfl (lv_at hl 1 rfl) ?_
          refine lv_iload_n hx hb dX7_setRank_53 rfl (lv_at hl 2 rfl) ?_
          refine g_callVv (own := RX7) (n := 1) (mc := 0) (ms := 0) (As := [vI q]) (rest := []) (wc := [kO y0 7 [vI n, .ref v0, .ref a0, vI (acS sts), .ref r0, .ref f0, .ref g0, .ref d0, .ref t9, vI ty, vI 0], kI cI v0 21 mv, kI cI r0 9 (sprZ n z_3 q mrb 0)]) (wr := [kI cI f0 9 mfb, kI cI g0 9 mgb, kI cI d0 8 mdb, kI cI a0 126 (acP sts mp mv)]) hx hb hml hown hts hK hP hD hS hA [5, 3, 6] [0, 1, 2, 4] rfl rfl (by decide) (by decide) 7 0 rfl rfl (c_X7_lays l dd cI cJ cC cS y0 v0 a0 r0 f0 g0 d0 t9 n (acS sts) ty 0 mv (sprZ n z_3 q mrb 0) q H.size  (by first | assumption | omega)) gX7_setRank_X7_lays rfl (by decide +kernel) (by decide) (by decide) (by decide) (by decide) rfl hl.1 rfl (Nat.le_of_ble_eq_true rfl) dX7_setRank_54 (fun u_7 H locs hp54 hP hD hS => ?_)
          have hP : va_P dd vwCl [kI cI f0 9 mfb, kI cI g0 9 mgb, kI cI d0 8 mdb, kI cI a0 126 (acP sts mp mv), kO y0 7 [vI n, .ref v0, .ref a0, vI (acS sts), .ref r0, .ref f0, .ref g0, .ref d0, .ref t9, vI ty, vI 0], kI cI v0 21 (wrP (uZ mv 0 q) (sprZ n z_3 q mrb 0) 12 q), kI cI r0 9 (sprZ n z_3 q mrb 0)] H := hP
          have hD : va_D A [kI cI f0 9 mfb, kI cI g0 9 mgb, kI cI d0 8 mdb, kI cI a0 126 (acP sts mp mv), kO y0 7 [vI n, .ref v0, .ref a0, vI (acS sts), .ref r0, .ref f0, .ref g0, .ref d0, .ref t9, vI ty, vI 0], kI cI v0 21 (wrP (uZ mv 0 q) (sprZ n z_3 q mrb 0) 12 q), kI cI r0 9 (sprZ n z_3 q mrb 0)] := hD
          refine lv_aload_n hx hb dX7_setRank_57 rfl (lv_at hl 1 rfl) ?_
          refine lv_iload_n hx hb dX7_setRank_58 rfl (lv_at hl 2 rfl) ?_
          refine g_callVi (own := RX7) (n := 1) (mc := 0) (ms := 0) (As := [vI q]) (rest := []) (wc := [kO y0 7 [vI n, .ref v0, .ref a0, vI (acS sts), .ref r0, .ref f0, .ref g0, .ref d0, .ref t9, vI ty, vI 0], kI cI r0 9 (sprZ n z_3 q mrb 0)]) (wr := [kI cI f0 9 mfb, kI cI g0 9 mgb, kI cI d0 8 mdb, kI cI a0 126 (acP sts mp mv), kI cI v0 21 (wrP (uZ mv 0 q) (sprZ n z_3 q mrb 0) 12 q)]) hx hb hml hown hts hK hP hD hS hA [4, 6] [0, 1, 2, 3, 5] rfl rfl (by decide) (by decide) 7 0 rfl rfl (c_X7_sumOf l dd cI cJ cC cS y0 v0 a0 r0 f0 g0 d0 t9 n (acS sts) ty 0 (sprZ n z_3 q mrb 0) q H.size  (by first | assumption | omega)) gX7_setRank_X7_sumOf rfl (by decide +kernel) (by decide) (by decide) (by decide) (by decide) rfl hl.1 rfl (Nat.le_of_ble_eq_true rfl) dX7_setRank_59 (fun z_8 u_9 H locs hp59 hP hD hS => ?_)
          subst z_8
          have hP : va_P dd vwCl [kI cI f0 9 mfb, kI cI g0 9 mgb, kI cI d0 8 mdb, kI cI a0 126 (acP sts mp mv), kI cI v0 21 (wrP (uZ mv 0 q) (sprZ n z_3 q mrb 0) 12 q), kO y0 7 [vI n, .ref v0, .ref a0, vI (acS sts), .ref r0, .ref f0, .ref g0, .ref d0, .ref t9, vI ty, vI 0], kI cI r0 9 (sprZ n z_3 q mrb 0)] H := hP
          have hD : va_D A [kI cI f0 9 mfb, kI cI g0 9 mgb, kI cI d0 8 mdb, kI cI a0 126 (acP sts mp mv), kI cI v0 21 (wrP (uZ mv 0 q) (sprZ n z_3 q mrb 0) 12 q), kO y0 7 [vI n, .ref v0, .ref a0, vI (acS sts), .ref r0, .ref f0, .ref g0, .ref d0, .ref t9, vI ty, vI 0], kI cI r0 9 (sprZ n z_3 q mrb 0)] := hD
          subst hQ
          refine z_iret (z := sumZ (sprZ n z_3 q mrb 0) q.toNat) hx hb hr hlocks dX7_setRank_62 ((acS sts), 0, (wrP (uZ mv 0 q) (sprZ n z_3 q mrb 0) 12 q), (acP sts mp mv), (sprZ n z_3 q mrb 0), mfb, mgb, mdb) hK hS ⟨by omega, by omega⟩ (hP.sub [5, 4, 6, 0, 1, 2, 3] rfl) (hD.sub [5, 4, 6, 0, 1, 2, 3] (by decide) rfl) ?_
          unfold Hid at hp28
          rcases hp28 with ⟨a1, a2, a3, a4, a5⟩ | ⟨a1, a2⟩
          · refine Or.inr (Or.inr ⟨by omega, by omega, a3, _, a1, a2, a4, a5, ?_, rfl, rfl, rfl, ?_⟩)
            · exact sumZ_congr _ (fun j h0 h1 => sprZ_at h0 (by omega))
            · exact wrP_congr (fun j h0 h1 => sprZ_at h0 h1)
          · omega
        · skip
          refine lv_aload_n hx hb dX7_setRank_36 rfl (lv_at hl 1 rfl) ?_
          refine z_iconst hx hb dX7_setRank_37 ?_
          refine g_callVi (own := RX7) (n := 1) (mc := 0) (ms := 0) (As := [vI 2]) (rest := []) (wc := [kO y0 7 [vI n, .ref v0, .ref a0, vI sts, .ref r0, .ref f0, .ref g0, .ref d0, .ref t9, vI ty, vI 0]]) (wr := [kI cI a0 126 mp, kI cI v0 21 mv, kI cI r0 9 mrb, kI cI f0 9 mfb, kI cI g0 9 mgb, kI cI d0 8 mdb]) hx hb hml hown hts hK hP hD hS hA [1] [0, 2, 3, 4, 5, 6] rfl rfl (by decide) (by decide) 7 0 rfl rfl (c_X7_fails l dd cI cJ cC cS y0 v0 a0 r0 f0 g0 d0 t9 n sts ty 0 2 H.size) gX7_setRank_X7_fails rfl (by decide +kernel) (by decide) (by decide) (by decide) (by decide) rfl hl.1 rfl (Nat.le_of_ble_eq_true rfl) dX7_setRank_38 (fun z_10 u_11 H locs hp38 hP hD hS => ?_)
          subst z_10
          have hP : va_P dd vwCl [kI cI a0 126 mp, kI cI v0 21 mv, kI cI r0 9 mrb, kI cI f0 9 mfb, kI cI g0 9 mgb, kI cI d0 8 mdb, kO y0 7 [vI n, .ref v0, .ref a0, vI sts, .ref r0, .ref f0, .ref g0, .ref d0, .ref t9, vI ty, vI 2]] H := hP
          have hD : va_D A [kI cI a0 126 mp, kI cI v0 21 mv, kI cI r0 9 mrb, kI cI f0 9 mfb, kI cI g0 9 mgb, kI cI d0 8 mdb, kO y0 7 [vI n, .ref v0, .ref a0, vI sts, .ref r0, .ref f0, .ref g0, .ref d0, .ref t9, vI ty, vI 2]] := hD
          subst hQ
          refine z_iret (z := 0) hx hb hr hlocks dX7_setRank_41 (sts, 2, mv, mp, mrb, mfb, mgb, mdb) hK hS ⟨by omega, by omega⟩ (hP.sub [6, 1, 2, 3, 4, 5, 0] rfl) (hD.sub [6, 1, 2, 3, 4, 5, 0] (by decide) rfl) ?_
          unfold Hid at hp28
          rcases hp28 with ⟨a1, a2, a3, a4, a5⟩ | ⟨a1, a2⟩
          · omega
          · exact Or.inr (Or.inl ⟨by omega, by omega, a2, rfl, rfl, rfl, rfl, rfl⟩)
      · skip
        refine lv_aload_n hx hb dX7_setRank_19 rfl (lv_at hl 0 rfl) ?_
        refine z_iconst hx hb dX7_setRank_20 ?_
        refine g_callVi (own := RX7) (n := 1) (mc := 0) (ms := 0) (As := [vI 1]) (rest := []) (wc := [kO y0 7 [vI n, .ref v0, .ref a0, vI sts, .ref r0, .ref f0, .ref g0, .ref d0, .ref t9, vI ty, vI 0]]) (wr := [kI cI v0 21 mv, kI cI r0 9 mr, kI cI f0 9 mf, kI cI g0 9 mg, kI cI d0 8 md, kI cI a0 126 mp]) hx hb hml hown hts hK hP hD hS hA [0] [1, 2, 3, 4, 5, 6] rfl rfl (by decide) (by decide) 7 0 rfl rfl (c_X7_fails l dd cI cJ cC cS y0 v0 a0 r0 f0 g0 d0 t9 n sts ty 0 1 H.size) gX7_setRank_X7_fails rfl (by decide +kernel) (by decide) (by decide) (by decide) (by decide) rfl hl.1 rfl (Nat.le_of_ble_eq_true rfl) dX7_setRank_21 (fun z_12 u_13 H locs hp21 hP hD hS => ?_)
        subst z_12
        have hP : va_P dd vwCl [kI cI v0 21 mv, kI cI r0 9 mr, kI cI f0 9 mf, kI cI g0 9 mg, kI cI d0 8 md, kI cI a0 126 mp, kO y0 7 [vI n, .ref v0, .ref a0, vI sts, .ref r0, .ref f0, .ref g0, .ref d0, .ref t9, vI ty, vI 1]] H := hP
        have hD : va_D A [kI cI v0 21 mv, kI cI r0 9 mr, kI cI f0 9 mf, kI cI g0 9 mg, kI cI d0 8 md, kI cI a0 126 mp, kO y0 7 [vI n, .ref v0, .ref a0, vI sts, .ref r0, .ref f0, .ref g0, .ref d0, .ref t9, vI ty, vI 1]] := hD
        subst hQ
        refine z_iret (z := 0) hx hb hr hlocks dX7_setRank_24 (sts, 1, mv, mp, mr, mf, mg, md) hK hS ⟨by omega, by omega⟩ (hP.sub [6, 0, 1, 2, 3, 4, 5] rfl) (hD.sub [6, 0, 1, 2, 3, 4, 5] (by decide) rfl) ?_
        exact Or.inl ⟨by omega, rfl, rfl, rfl, rfl, rfl⟩
  · skip
    subst z_1
    have hP : va_P dd vwCl [kO y0 7 [vI n, .ref v0, .ref a0, vI sts, .ref r0, .ref f0, .ref g0, .ref d0, .ref t9, vI ty, vI 0], kI cI v0 21 mv, kI cI r0 9 mr, kI cI f0 9 mf, kI cI g0 9 mg, kI cI d0 8 md, kI cI a0 126 mp] H := hP
    have hD : va_D A [kO y0 7 [vI n, .ref v0, .ref a0, vI sts, .ref r0, .ref f0, .ref g0, .ref d0, .ref t9, vI ty, vI 0], kI cI v0 21 mv, kI cI r0 9 mr, kI cI f0 9 mf, kI cI g0 9 mg, kI cI d0 8 md, kI cI a0 126 mp] := hD
    refine z_if_eq (tgt := 19) hx hb dX7_setRank_12 (by decide) (by omega) (fun c12 => ?_) (fun c12 => ?_)
    · skip
      refine lv_aload_n hx hb dX7_setRank_19 rfl (lv_at hl 0 rfl) ?_
      refine z_iconst hx hb dX7_setRank_20 ?_
      refine g_callVi (own := RX7) (n := 1) (mc := 0) (ms := 0) (As := [vI 1]) (rest := []) (wc := [kO y0 7 [vI n, .ref v0, .ref a0, vI sts, .ref r0, .ref f0, .ref g0, .ref d0, .ref t9, vI ty, vI 0]]) (wr := [kI cI v0 21 mv, kI cI r0 9 mr, kI cI f0 9 mf, kI cI g0 9 mg, kI cI d0 8 md, kI cI a0 126 mp]) hx hb hml hown hts hK hP hD hS hA [0] [1, 2, 3, 4, 5, 6] rfl rfl (by decide) (by decide) 7 0 rfl rfl (c_X7_fails l dd cI cJ cC cS y0 v0 a0 r0 f0 g0 d0 t9 n sts ty 0 1 H.size) gX7_setRank_X7_fails rfl (by decide +kernel) (by decide) (by decide) (by decide) (by decide) rfl hl.1 rfl (Nat.le_of_ble_eq_true rfl) dX7_setRank_21 (fun z_14 u_15 H locs hp21_16 hP hD hS => ?_)
      subst z_14
      have hP : va_P dd vwCl [kI cI v0 21 mv, kI cI r0 9 mr, kI cI f0 9 mf, kI cI g0 9 mg, kI cI d0 8 md, kI cI a0 126 mp, kO y0 7 [vI n, .ref v0, .ref a0, vI sts, .ref r0, .ref f0, .ref g0, .ref d0, .ref t9, vI ty, vI 1]] H := hP
      have hD : va_D A [kI cI v0 21 mv, kI cI r0 9 mr, kI cI f0 9 mf, kI cI g0 9 mg, kI cI d0 8 md, kI cI a0 126 mp, kO y0 7 [vI n, .ref v0, .ref a0, vI sts, .ref r0, .ref f0, .ref g0, .ref d0, .ref t9, vI ty, vI 1]] := hD
      subst hQ
      refine z_iret (z := 0) hx hb hr hlocks dX7_setRank_24 (sts, 1, mv, mp, mr, mf, mg, md) hK hS ⟨by omega, by omega⟩ (hP.sub [6, 0, 1, 2, 3, 4, 5] rfl) (hD.sub [6, 0, 1, 2, 3, 4, 5] (by decide) rfl) ?_
      exact Or.inl ⟨by omega, rfl, rfl, rfl, rfl, rfl⟩
    · exact absurd c12 (by omega)

