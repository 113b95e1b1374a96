/-! orders of a list -/
def swZ (f : Int → Int) (i j : Int) : Int → Int := uZ (uZ f i (f j)) j (f i)
def rvP (f : Int → Int) (a b lo hi : Int) : Int → Int := fun k => if (a ≤ k ∧ k < lo) ∨ (hi < k ∧ k ≤ b) then f (a + b - k) else f k
def rvZ (f : Int → Int) (a b : Int) : Int → Int := fun k => if a ≤ k ∧ k ≤ b then f (a + b - k) else f k
theorem rvP_0 (f : Int → Int) (a b : Int) : f = rvP f a b a b := by
  funext k
  exact (if_neg (by omega)).symm
theorem rvP_s {f : Int → Int} {a b lo hi : Int} (h : a ≤ lo ∧ hi ≤ b ∧ lo < hi ∧ lo + hi = a + b) : swZ (rvP f a b lo hi) lo hi = rvP f a b (lo + 1) (hi - 1) := by
  funext k
  have e1 : rvP f a b lo hi lo = f lo := if_neg (by omega)
  have e2 : rvP f a b lo hi hi = f hi := if_neg (by omega)
  unfold swZ
  rw [e1, e2]
  by_cases q : k = hi
  · rw [q, uZ_same]
    refine Eq.symm ((if_pos (by omega)).trans ?_)
    rw [show a + b - hi = lo by omega]
  · rw [uZ_ne q]
    by_cases q2 : k = lo
    · rw [q2, uZ_same]
      refine Eq.symm ((if_pos (by omega)).trans ?_)
      rw [show a + b - lo = hi by omega]
    · rw [uZ_ne q2]
      unfold rvP
      by_cases q3 : (a ≤ k ∧ k < lo) ∨ (hi < k ∧ k ≤ b)
      · rw [if_pos q3, if_pos (by omega)]
      · rw [if_neg q3, if_neg (by omega)]
theorem rvP_end {f : Int → Int} {a b lo hi : Int} (h : hi ≤ lo ∧ lo ≤ hi + 1 ∧ lo + hi = a + b) : rvP f a b lo hi = rvZ f a b := by
  funext k
  unfold rvP rvZ
  by_cases q : a ≤ k ∧ k ≤ b
  · rw [if_pos q]
    by_cases q2 : (a ≤ k ∧ k < lo) ∨ (hi < k ∧ k ≤ b)
    · rw [if_pos q2]
    · rw [if_neg q2, show a + b - k = k by omega]
  · rw [if_neg q, if_neg (by omega)]

set_option maxHeartbeats 4000000 in
set_option maxRecDepth 100000 in
theorem c_X6_swap (l : Launch) (dd : va_G) (cI cJ cC cS : ClassId) (a0 : Nat) (f : Int → Int) (i j : Int) (sz : Nat) (hi : 0 ≤ i ∧ i < 9) (hj : 0 ≤ j ∧ j < 9) : gMv l yX6_swap wsX6_swap 1 0 0 dd cI cJ cC cS [.ref a0, vI i, vI j] [kI cI a0 9 f] sz (fun (_ : Unit) => True) (fun (_ : Unit) => [kI cI a0 9 (swZ f i j)]) := by
  refine gMv_of (cc := cX6_swap) (maxL := 4) (ret := none) (by decide) rfl (Nat.le_of_ble_eq_true rfl) ?_
  intro p e s m args below meth c A Q hQ hx hb hr hts hown hlocks hnm hml H locs hP hK hD hA hS ls hl
  have hl : lv_has ls 4 [(0, .ref a0), (1, vI i), (2, vI j)] := hl
  refine lv_aload_n hx hb dX6_swap_0 rfl (lv_at hl 0 rfl) ?_
  refine lv_iload_n hx hb dX6_swap_1 rfl (lv_at hl 1 rfl) ?_
  refine z_iald hx hb hK hP 0 0 rfl rfl (i := i) (by omega) (by decide) dX6_swap_2 ?_
  refine lv_istore_n (lv' := [(3, vI (f i)), (0, .ref a0), (1, vI i), (2, vI j)]) hx hb dX6_swap_3 rfl hl (by decide) rfl (fun ls hl => ?_)
  refine lv_aload_n hx hb dX6_swap_4 rfl (lv_at hl 1 rfl) ?_
  refine lv_iload_n hx hb dX6_swap_5 rfl (lv_at hl 2 rfl) ?_
  refine lv_aload_n hx hb dX6_swap_6 rfl (lv_at hl 1 rfl) ?_
  refine lv_iload_n hx hb dX6_swap_7 rfl (lv_at hl 3 rfl) ?_
  refine z_iald hx hb hK hP 0 0 rfl rfl (i := j) (by omega) (by decide) dX6_swap_8 ?_
  refine z_iast (ws' := [kI cI a0 9 (uZ f i (f j))]) hx hb hK hP hD hS 0 0 rfl rfl (i := i) (x := (f j)) (by omega) (by decide) dX6_swap_9 rfl (fun H locs hP hD hS => ?_)
  refine lv_aload_n hx hb dX6_swap_10 rfl (lv_at hl 1 rfl) ?_
  refine lv_iload_n hx hb dX6_swap_11 rfl (lv_at hl 3 rfl) ?_
  refine lv_iload_n hx hb dX6_swap_12 rfl (lv_at hl 0 rfl) ?_
  refine z_iast (ws' := [kI cI a0 9 (uZ (uZ f i (f j)) j (f i))]) hx hb hK hP hD hS 0 0 rfl rfl (i := j) (x := (f i)) (by omega) (by decide) dX6_swap_13 rfl (fun H locs hP hD hS => ?_)
  have ec_1 : kI cI a0 9 (uZ (uZ f i (f j)) j (f i)) = kI cI a0 9 (swZ f i j) := kI_congr (rfl)
  rw [ec_1] at hP hD
  subst hQ
  refine z_vret hx hb hr hlocks dX6_swap_14 () hK hS ⟨by omega, by omega⟩ hP hD ?_
  first | rfl | trivial | omega

set_option maxHeartbeats 4000000 in
set_option maxRecDepth 100000 in
theorem c_X6_toNextOrder (l : Launch) (dd : va_G) (cI cJ cC cS : ClassId) (a0 : Nat) (f : Int → Int) (ct : Int) (sz : Nat) (hct : 0 ≤ ct ∧ ct ≤ 9) (hff : ∀ j : Int, 0 ≤ j → j < ct → 0 ≤ f j ∧ f j ≤ 8) : gMi l yX6_toNextOrder wsX6_toNextOrder 2 0 0 dd cI cJ cC cS [.ref a0, vI ct] [kI cI a0 9 f] sz (fun (z : Int) (f1 : Int → Int) => ((z = 0 ∧ (∀ j : Int, 0 ≤ j → j + 1 < ct → f (j + 1) ≤ f j) ∧ f1 = rvZ f 0 (ct - 1)) ∨ (∃ p o : Int, 0 ≤ p ∧ p < o ∧ o < ct ∧ f p < f (p + 1) ∧ (∀ j : Int, p < j → j + 1 < ct → f (j + 1) ≤ f j) ∧ f p < f o ∧ (∀ q : Int, o < q → q < ct → f q ≤ f p) ∧ z = 1 ∧ f1 = rvZ (swZ f p o) (p + 1) (ct - 1)))) (fun (f1 : Int → Int) => [kI cI a0 9 f1]) := by
  refine gMi_of (cc := cX6_toNextOrder) (maxL := 5) (ret := (some .boolean)) (by decide) rfl (Nat.le_of_ble_eq_true rfl) ?_
  intro p e s m args below meth c A Q hQ hx hb hr hts hown hlocks hnm hml H locs hP hK hD hA hS ls hl
  have hl : lv_has ls 5 [(0, .ref a0), (1, vI ct)] := hl
  refine lv_iload_n hx hb dX6_toNextOrder_0 rfl (lv_at hl 1 rfl) ?_
  refine z_iconst hx hb dX6_toNextOrder_1 ?_
  refine z_isub (z := (ct - 2)) hx hb rfl dX6_toNextOrder_2 ?_
  refine lv_istore_n (lv' := [(2, vI (ct - 2)), (0, .ref a0), (1, vI ct)]) hx hb dX6_toNextOrder_3 rfl hl (by decide) rfl (fun ls hl => ?_)
  have L4 : ∀ (nn : Nat) (pi : Int) (H : Heap) (locs : List Loc) (ls : Array Slot), ((pi + 2).toNat) = nn → (-2 ≤ pi ∧ pi ≤ ct - 2 ∧ (-1 ≤ pi ∨ ct = 0)) → (∀ j : Int, pi < j → 0 ≤ j → j + 1 < ct → f (j + 1) ≤ f j) → va_P dd vwCl [kI cI a0 9 f] H → va_D A [kI cI a0 9 f] → va_S A s.heap H locs → lv_has ls 5 [(2, vI pi), (0, .ref a0), (1, vI ct)] → W p l e (gR 2 0 0) s m args below meth c H locs 0 0 Q (F0 m 4 ls []) := by
    intro nn
    induction nn using Nat.strongRecOn with
    | ind nn L4i =>
    intro pi H locs ls hmeas hpi hde hP hD hS hl
    refine lv_iload_n hx hb dX6_toNextOrder_4 rfl (lv_at hl 0 rfl) ?_
    refine z_if_lt (tgt := 25) hx hb dX6_toNextOrder_5 (by decide) (by omega) (fun c5 => ?_) (fun c5 => ?_)
    · skip
      refine lv_iload_n hx hb dX6_toNextOrder_25 rfl (lv_at hl 0 rfl) ?_
      refine z_if_lt (tgt := 59) hx hb dX6_toNextOrder_26 (by decide) (by omega) (fun c26 => ?_) (fun c26 => ?_)
      · skip
        refine lv_iload_n hx hb dX6_toNextOrder_59 rfl (lv_at hl 0 rfl) ?_
        refine z_iconst hx hb dX6_toNextOrder_60 ?_
        refine z_iadd (z := (pi + 1)) hx hb rfl dX6_toNextOrder_61 ?_
        refine lv_istore_n (lv' := [(3, vI (pi + 1)), (2, vI pi), (0, .ref a0), (1, vI ct)]) hx hb dX6_toNextOrder_62 rfl hl (by decide) rfl (fun ls hl => ?_)
        refine lv_iload_n hx hb dX6_toNextOrder_63 rfl (lv_at hl 3 rfl) ?_
        refine z_iconst hx hb dX6_toNextOrder_64 ?_
        refine z_isub (z := (ct - 1)) hx hb rfl dX6_toNextOrder_65 ?_
        refine lv_istore (lv' := [(4, vI (ct - 1)), (3, vI (pi + 1)), (2, vI pi), (0, .ref a0), (1, vI ct)]) hx hb dX6_toNextOrder_66 hl (by decide) rfl (fun ls hl => ?_)
        have L68 : ∀ (nn : Nat) (lo : Int) (hi : Int) (H : Heap) (locs : List Loc) (ls : Array Slot), ((hi + 1 - lo).toNat) = nn → (pi + 1 ≤ lo ∧ hi ≤ ct - 1 ∧ lo ≤ hi + 1 ∧ lo + hi = pi + 1 + (ct - 1)) → va_P dd vwCl [kI cI a0 9 (rvP f (pi + 1) (ct - 1) lo hi)] H → va_D A [kI cI a0 9 (rvP f (pi + 1) (ct - 1) lo hi)] → va_S A s.heap H locs → lv_has ls 5 [(3, vI lo), (4, vI hi), (2, vI pi), (0, .ref a0), (1, vI ct)] → W p l e (gR 2 0 0) s m args below meth c H locs 0 0 Q (F0 m 68 ls []) := by
          intro nn
          induction nn using Nat.strongRecOn with
          | ind nn L68i =>
          intro lo hi H locs ls hmeas hlh hP hD hS hl
          refine lv_iload_n hx hb dX6_toNextOrder_68 rfl (lv_at hl 0 rfl) ?_
          refine lv_iload hx hb dX6_toNextOrder_69 (lv_at hl 1 rfl) ?_
          refine z_icmp_ge (tgt := 90) hx hb dX6_toNextOrder_71 (by decide) (by omega) (fun c71 => ?_) (fun c71 => ?_)
          · skip
            refine lv_iload_n hx hb dX6_toNextOrder_90 rfl (lv_at hl 2 rfl) ?_
            refine z_if_lt (tgt := 98) hx hb dX6_toNextOrder_91 (by decide) (by omega) (fun c91 => ?_) (fun c91 => ?_)
            · skip
              refine z_iconst hx hb dX6_toNextOrder_98 ?_
              subst hQ
              refine z_zret (z := 0) hx hb hr hlocks dX6_toNextOrder_99 (by omega) (rvP f (pi + 1) (ct - 1) lo hi) hK hS ⟨by omega, by omega⟩ hP hD ?_
              first
              | (exfalso; omega)
              | (exact Or.inr ⟨pi, o, by omega, by omega, by omega, by omega, fun j h0 h1 => hde j h0 (by omega) h1, by omega, hgr, rfl, rvP_end (by omega)⟩)
              | (refine Or.inl ⟨rfl, fun j h0 h1 => hde j (by omega) h0 h1, ?_⟩
                 rw [rvP_end (by omega)]
                 funext k
                 unfold rvZ
                 by_cases q : pi + 1 ≤ k ∧ k ≤ ct - 1
                 · by_cases q2 : pi = -1
                   · rw [q2]
                     rfl
                   · rw [if_pos q, if_neg (by omega), show pi + 1 + (ct - 1) - k = k by omega]
                 · rw [if_neg q, if_neg (by omega)])
            · skip
              refine z_iconst hx hb dX6_toNextOrder_94 ?_
              refine lv_goto (tgt := 99) hx hb dX6_toNextOrder_95 (by decide) ?_
              subst hQ
              refine z_zret (z := 1) hx hb hr hlocks dX6_toNextOrder_99 (by omega) (rvP f (pi + 1) (ct - 1) lo hi) hK hS ⟨by omega, by omega⟩ hP hD ?_
              first
              | (exfalso; omega)
              | (exact Or.inr ⟨pi, o, by omega, by omega, by omega, by omega, fun j h0 h1 => hde j h0 (by omega) h1, by omega, hgr, rfl, rvP_end (by omega)⟩)
              | (refine Or.inl ⟨rfl, fun j h0 h1 => hde j (by omega) h0 h1, ?_⟩
                 rw [rvP_end (by omega)]
                 funext k
                 unfold rvZ
                 by_cases q : pi + 1 ≤ k ∧ k ≤ ct - 1
                 · by_cases q2 : pi = -1
                   · rw [q2]
                     rfl
                   · rw [if_pos q, if_neg (by omega), show pi + 1 + (ct - 1) - k = k by omega]
                 · rw [if_neg q, if_neg (by omega)])
          · skip
            refine lv_aload_n hx hb dX6_toNextOrder_74 rfl (lv_at hl 3 rfl) ?_
            refine lv_iload_n hx hb dX6_toNextOrder_75 rfl (lv_at hl 0 rfl) ?_
            refine lv_iload hx hb dX6_toNextOrder_76 (lv_at hl 1 rfl) ?_
            refine g_callSv (own := RX6) (n := 3) (mc := 0) (ms := 0) (As := [.ref a0, vI lo, vI hi]) (rest := []) (wc := [kI cI a0 9 (rvP f (pi + 1) (ct - 1) lo hi)]) (wr := []) hx hb hml hown hts hK hP hD hS hA [0] [] rfl rfl (by decide) (by decide) (c_X6_swap l dd cI cJ cC cS a0 (rvP f (pi + 1) (ct - 1) lo hi) lo hi H.size  (by first | assumption | omega) (by first | assumption | omega)) gX6_toNextOrder_X6_swap rfl (by decide +kernel) (by decide) (by decide) (by decide) (by decide) rfl hl.1 rfl (Nat.le_of_ble_eq_true rfl) dX6_toNextOrder_78 (fun u_1 H locs hp78 hP hD hS => ?_)
            have hP : va_P dd vwCl [kI cI a0 9 (swZ (rvP f (pi + 1) (ct - 1) lo hi) lo hi)] H := hP
            have hD : va_D A [kI cI a0 9 (swZ (rvP f (pi + 1) (ct - 1) lo hi) lo hi)] := hD
            refine z_iinc (a := lo) (z := (lo + 1)) (lv' := [(3, vI (lo + 1)), (4, vI hi), (2, vI pi), (0, .ref a0), (1, vI ct)]) hx hb dX6_toNextOrder_81 hl (k := 0) rfl rfl (by decide) rfl (fun ls hl => ?_)
            refine z_iinc (a := hi) (z := (hi - 1)) (lv' := [(4, vI (hi - 1)), (3, vI (lo + 1)), (2, vI pi), (0, .ref a0), (1, vI ct)]) hx hb dX6_toNextOrder_84 hl (k := 1) rfl (by omega) (by decide) rfl (fun ls hl => ?_)
            refine lv_goto (tgt := 68) hx hb dX6_toNextOrder_87 (by decide) ?_
            have el_2 : kI cI a0 9 (swZ (rvP f (pi + 1) (ct - 1) lo hi) lo hi) = kI cI a0 9 (rvP f (pi + 1) (ct - 1) (lo + 1) (hi - 1)) := kI_congr (congrArg aZ (by first | exact rvP_0 _ _ _ | exact rvP_s (by omega)))
            rw [el_2] at hP hD
            exact L68i _ (by omega) (lo + 1) (hi - 1) H locs ls rfl (by omega) hP hD hS (lv_sub hl [1, 0, 2, 3, 4] rfl)
        have el_3 : kI cI a0 9 f = kI cI a0 9 (rvP f (pi + 1) (ct - 1) (pi + 1) (ct - 1)) := kI_congr (congrArg aZ (by first | exact rvP_0 _ _ _ | exact rvP_s (by omega)))
        rw [el_3] at hP hD
        exact L68 _ (pi + 1) (ct - 1) H locs ls rfl (by omega) hP hD hS (lv_sub hl [1, 0, 2, 3, 4] rfl)
      · skip
        refine lv_iload_n hx hb dX6_toNextOrder_29 rfl (lv_at hl 2 rfl) ?_
        refine z_iconst hx hb dX6_toNextOrder_30 ?_
        refine z_isub (z := (ct - 1)) hx hb rfl dX6_toNextOrder_31 ?_
        refine lv_istore_n (lv' := [(3, vI (ct - 1)), (2, vI pi), (0, .ref a0), (1, vI ct)]) hx hb dX6_toNextOrder_32 rfl hl (by decide) rfl (fun ls hl => ?_)
        have L33 : ∀ (nn : Nat) (o : Int) (H : Heap) (locs : List Loc) (ls : Array Slot), ((o + 2).toNat) = nn → (pi ≤ o ∧ o ≤ ct - 1) → (∀ q : Int, o < q → q < ct → f q ≤ f pi) → va_P dd vwCl [kI cI a0 9 f] H → va_D A [kI cI a0 9 f] → va_S A s.heap H locs → lv_has ls 5 [(3, vI o), (2, vI pi), (0, .ref a0), (1, vI ct)] → W p l e (gR 2 0 0) s m args below meth c H locs 0 0 Q (F0 m 33 ls []) := by
          intro nn
          induction nn using Nat.strongRecOn with
          | ind nn L33i =>
          intro o H locs ls hmeas ho hgr hP hD hS hl
          refine lv_iload_n hx hb dX6_toNextOrder_33 rfl (lv_at hl 0 rfl) ?_
          refine lv_iload_n hx hb dX6_toNextOrder_34 rfl (lv_at hl 1 rfl) ?_
          have hop : pi < o := by
            by_cases q : o ≤ pi
            · exfalso
              first
              | omega
              | (have := hgr (pi + 1) (by omega) (by omega); omega)
            · omega
          refine z_icmp_le (tgt := 53) hx hb dX6_toNextOrder_35 (by decide) (by omega) (fun c35 => ?_) (fun c35 => ?_)
          · exact absurd c35 (by omega)
          · skip
            refine lv_aload_n hx hb dX6_toNextOrder_38 rfl (lv_at hl 2 rfl) ?_
            refine lv_iload_n hx hb dX6_toNextOrder_39 rfl (lv_at hl 0 rfl) ?_
            refine z_iald hx hb hK hP 0 0 rfl rfl (i := o) (by omega) (by decide) dX6_toNextOrder_40 ?_
            have f_4 := hff o (by omega) (by omega)
            refine lv_aload_n hx hb dX6_toNextOrder_41 rfl (lv_at hl 2 rfl) ?_
            refine lv_iload_n hx hb dX6_toNextOrder_42 rfl (lv_at hl 1 rfl) ?_
            refine z_iald hx hb hK hP 0 0 rfl rfl (i := pi) (by omega) (by decide) dX6_toNextOrder_43 ?_
            have f_5 := hff pi (by omega) (by omega)
            refine z_icmp_gt (tgt := 53) hx hb dX6_toNextOrder_44 (by decide) (by omega) (fun c44 => ?_) (fun c44 => ?_)
            · skip
              refine lv_aload_n hx hb dX6_toNextOrder_53 rfl (lv_at hl 2 rfl) ?_
              refine lv_iload_n hx hb dX6_toNextOrder_54 rfl (lv_at hl 1 rfl) ?_
              refine lv_iload_n hx hb dX6_toNextOrder_55 rfl (lv_at hl 0 rfl) ?_
              refine g_callSv (own := RX6) (n := 3) (mc := 0) (ms := 0) (As := [.ref a0, vI pi, vI o]) (rest := []) (wc := [kI cI a0 9 f]) (wr := []) hx hb hml hown hts hK hP hD hS hA [0] [] rfl rfl (by decide) (by decide) (c_X6_swap l dd cI cJ cC cS a0 f pi o H.size  (by first | assumption | omega) (by first | assumption | omega)) gX6_toNextOrder_X6_swap rfl (by decide +kernel) (by decide) (by decide) (by decide) (by decide) rfl hl.1 rfl (Nat.le_of_ble_eq_true rfl) dX6_toNextOrder_56 (fun u_6 H locs hp56 hP hD hS => ?_)
              have hP : va_P dd vwCl [kI cI a0 9 (swZ f pi o)] H := hP
              have hD : va_D A [kI cI a0 9 (swZ f pi o)] := hD
              refine lv_iload_n hx hb dX6_toNextOrder_59 rfl (lv_at hl 1 rfl) ?_
              refine z_iconst hx hb dX6_toNextOrder_60 ?_
              refine z_iadd (z := (pi + 1)) hx hb rfl dX6_toNextOrder_61 ?_
              refine lv_istore_n (lv' := [(3, vI (pi + 1)), (2, vI pi), (0, .ref a0), (1, vI ct)]) hx hb dX6_toNextOrder_62 rfl hl (by decide) rfl (fun ls hl => ?_)
              refine lv_iload_n hx hb dX6_toNextOrder_63 rfl (lv_at hl 3 rfl) ?_
              refine z_iconst hx hb dX6_toNextOrder_64 ?_
              refine z_isub (z := (ct - 1)) hx hb rfl dX6_toNextOrder_65 ?_
              refine lv_istore (lv' := [(4, vI (ct - 1)), (3, vI (pi + 1)), (2, vI pi), (0, .ref a0), (1, vI ct)]) hx hb dX6_toNextOrder_66 hl (by decide) rfl (fun ls hl => ?_)
              have L68 : ∀ (nn : Nat) (lo : Int) (hi : Int) (H : Heap) (locs : List Loc) (ls : Array Slot), ((hi + 1 - lo).toNat) = nn → (pi + 1 ≤ lo ∧ hi ≤ ct - 1 ∧ lo ≤ hi + 1 ∧ lo + hi = pi + 1 + (ct - 1)) → va_P dd vwCl [kI cI a0 9 (rvP (swZ f pi o) (pi + 1) (ct - 1) lo hi)] H → va_D A [kI cI a0 9 (rvP (swZ f pi o) (pi + 1) (ct - 1) lo hi)] → va_S A s.heap H locs → lv_has ls 5 [(3, vI lo), (4, vI hi), (2, vI pi), (0, .ref a0), (1, vI ct)] → W p l e (gR 2 0 0) s m args below meth c H locs 0 0 Q (F0 m 68 ls []) := by
                intro nn
                induction nn using Nat.strongRecOn with
                | ind nn L68i =>
                intro lo hi H locs ls hmeas hlh hP hD hS hl
                refine lv_iload_n hx hb dX6_toNextOrder_68 rfl (lv_at hl 0 rfl) ?_
                refine lv_iload hx hb dX6_toNextOrder_69 (lv_at hl 1 rfl) ?_
                refine z_icmp_ge (tgt := 90) hx hb dX6_toNextOrder_71 (by decide) (by omega) (fun c71 => ?_) (fun c71 => ?_)
                · skip
                  refine lv_iload_n hx hb dX6_toNextOrder_90 rfl (lv_at hl 2 rfl) ?_
                  refine z_if_lt (tgt := 98) hx hb dX6_toNextOrder_91 (by decide) (by omega) (fun c91 => ?_) (fun c91 => ?_)
                  · skip
                    refine z_iconst hx hb dX6_toNextOrder_98 ?_
                    subst hQ
                    refine z_zret (z := 0) hx hb hr hlocks dX6_toNextOrder_99 (by omega) (rvP (swZ f pi o) (pi + 1) (ct - 1) lo hi) hK hS ⟨by omega, by omega⟩ hP hD ?_
                    first
                    | (exfalso; omega)
                    | (exact Or.inr ⟨pi, o, by omega, by omega, by omega, by omega, fun j h0 h1 => hde j h0 (by omega) h1, by omega, hgr, rfl, rvP_end (by omega)⟩)
                    | (refine Or.inl ⟨rfl, fun j h0 h1 => hde j (by omega) h0 h1, ?_⟩
                       rw [rvP_end (by omega)]
                       funext k
                       unfold rvZ
                       by_cases q : pi + 1 ≤ k ∧ k ≤ ct - 1
                       · by_cases q2 : pi = -1
                         · rw [q2]
                           rfl
                         · rw [if_pos q, if_neg (by omega), show pi + 1 + (ct - 1) - k = k by omega]
                       · rw [if_neg q, if_neg (by omega)])
                  · skip
                    refine z_iconst hx hb dX6_toNextOrder_94 ?_
                    refine lv_goto (tgt := 99) hx hb dX6_toNextOrder_95 (by decide) ?_
                    subst hQ
                    refine z_zret (z := 1) hx hb hr hlocks dX6_toNextOrder_99 (by omega) (rvP (swZ f pi o) (pi + 1) (ct - 1) lo hi) hK hS ⟨by omega, by omega⟩ hP hD ?_
                    first
                    | (exfalso; omega)
                    | (exact Or.inr ⟨pi, o, by omega, by omega, by omega, by omega, fun j h0 h1 => hde j h0 (by omega) h1, by omega, hgr, rfl, rvP_end (by omega)⟩)
                    | (refine Or.inl ⟨rfl, fun j h0 h1 => hde j (by omega) h0 h1, ?_⟩
                       rw [rvP_end (by omega)]
                       funext k
                       unfold rvZ
                       by_cases q : pi + 1 ≤ k ∧ k ≤ ct - 1
                       · by_cases q2 : pi = -1
                         · rw [q2]
                           rfl
                         · rw [if_pos q, if_neg (by omega), show pi + 1 + (ct - 1) - k = k by omega]
                       · rw [if_neg q, if_neg (by omega)])
                · skip
                  refine lv_aload_n hx hb dX6_toNextOrder_74 rfl (lv_at hl 3 rfl) ?_
                  refine lv_iload_n hx hb dX6_toNextOrder_75 rfl (lv_at hl 0 rfl) ?_
                  refine lv_iload hx hb dX6_toNextOrder_76 (lv_at hl 1 rfl) ?_
                  refine g_callSv (own := RX6) (n := 3) (mc := 0) (ms := 0) (As := [.ref a0, vI lo, vI hi]) (rest := []) (wc := [kI cI a0 9 (rvP (swZ f pi o) (pi + 1) (ct - 1) lo hi)]) (wr := []) hx hb hml hown hts hK hP hD hS hA [0] [] rfl rfl (by decide) (by decide) (c_X6_swap l dd cI cJ cC cS a0 (rvP (swZ f pi o) (pi + 1) (ct - 1) lo hi) lo hi H.size  (by first | assumption | omega) (by first | assumption | omega)) gX6_toNextOrder_X6_swap rfl (by decide +kernel) (by decide) (by decide) (by decide) (by decide) rfl hl.1 rfl (Nat.le_of_ble_eq_true rfl) dX6_toNextOrder_78 (fun u_7 H locs hp78_8 hP hD hS => ?_)
                  have hP : va_P dd vwCl [kI cI a0 9 (swZ (rvP (swZ f pi o) (pi + 1) (ct - 1) lo hi) lo hi)] H := hP
                  have hD : va_D A [kI cI a0 9 (swZ (rvP (swZ f pi o) (pi + 1) (ct - 1) lo hi) lo hi)] := hD
                  refine z_iinc (a := lo) (z := (lo + 1)) (lv' := [(3, vI (lo + 1)), (4, vI hi), (2, vI pi), (0, .ref a0), (1, vI ct)]) hx hb dX6_toNextOrder_81 hl (k := 0) rfl rfl (by decide) rfl (fun ls hl => ?_)
                  refine z_iinc (a := hi) (z := (hi - 1)) (lv' := [(4, vI (hi - 1)), (3, vI (lo + 1)), (2, vI pi), (0, .ref a0), (1, vI ct)]) hx hb dX6_toNextOrder_84 hl (k := 1) rfl (by omega) (by decide) rfl (fun ls hl => ?_)
                  refine lv_goto (tgt := 68) hx hb dX6_toNextOrder_87 (by decide) ?_
                  have el_9 : kI cI a0 9 (swZ (rvP (swZ f pi o) (pi + 1) (ct - 1) lo hi) lo hi) = kI cI a0 9 (rvP (swZ f pi o) (pi + 1) (ct - 1) (lo + 1) (hi - 1)) := kI_congr (congrArg aZ (by first | exact rvP_0 _ _ _ | exact rvP_s (by omega)))
                  rw [el_9] at hP hD
                  exact L68i _ (by omega) (lo + 1) (hi - 1) H locs ls rfl (by omega) hP hD hS (lv_sub hl [1, 0, 2, 3, 4] rfl)
              have el_10 : kI cI a0 9 (swZ f pi o) = kI cI a0 9 (rvP (swZ f pi o) (pi + 1) (ct - 1) (pi + 1) (ct - 1)) := kI_congr (congrArg aZ (by first | exact rvP_0 _ _ _ | exact rvP_s (by omega)))
              rw [el_10] at hP hD
              exact L68 _ (pi + 1) (ct - 1) H locs ls rfl (by omega) hP hD hS (lv_sub hl [1, 0, 2, 3, 4] rfl)
            · skip
              refine z_iinc (a := o) (z := (o - 1)) (lv' := [(3, vI (o - 1)), (2, vI pi), (0, .ref a0), (1, vI ct)]) hx hb dX6_toNextOrder_47 hl (k := 0) rfl (by omega) (by decide) rfl (fun ls hl => ?_)
              refine lv_goto (tgt := 33) hx hb dX6_toNextOrder_50 (by decide) ?_
              exact L33i _ (by omega) (o - 1) H locs ls rfl (by omega) (by first | exact (fun q h0 h1 => absurd h0 (by omega)) | (intro q h0 h1; by_cases e : q = o; (rw [e]; omega); exact hgr q (by omega) h1)) hP hD hS hl
        exact L33 _ (ct - 1) H locs ls rfl (by omega) (by first | exact (fun q h0 h1 => absurd h0 (by omega)) | (intro q h0 h1; by_cases e : q = o; (rw [e]; omega); exact hgr q (by omega) h1)) hP hD hS hl
    · skip
      refine lv_aload_n hx hb dX6_toNextOrder_8 rfl (lv_at hl 1 rfl) ?_
      refine lv_iload_n hx hb dX6_toNextOrder_9 rfl (lv_at hl 0 rfl) ?_
      refine z_iald hx hb hK hP 0 0 rfl rfl (i := pi) (by omega) (by decide) dX6_toNextOrder_10 ?_
      have f_11 := hff pi (by omega) (by omega)
      refine lv_aload_n hx hb dX6_toNextOrder_11 rfl (lv_at hl 1 rfl) ?_
      refine lv_iload_n hx hb dX6_toNextOrder_12 rfl (lv_at hl 0 rfl) ?_
      refine z_iconst hx hb dX6_toNextOrder_13 ?_
      refine z_iadd (z := (pi + 1)) hx hb rfl dX6_toNextOrder_14 ?_
      refine z_iald hx hb hK hP 0 0 rfl rfl (i := (pi + 1)) (by omega) (by decide) dX6_toNextOrder_15 ?_
      have f_12 := hff (pi + 1) (by omega) (by omega)
      refine z_icmp_lt (tgt := 25) hx hb dX6_toNextOrder_16 (by decide) (by omega) (fun c16 => ?_) (fun c16 => ?_)
      · skip
        refine lv_iload_n hx hb dX6_toNextOrder_25 rfl (lv_at hl 0 rfl) ?_
        refine z_if_lt (tgt := 59) hx hb dX6_toNextOrder_26 (by decide) (by omega) (fun c26 => ?_) (fun c26 => ?_)
        · skip
          refine lv_iload_n hx hb dX6_toNextOrder_59 rfl (lv_at hl 0 rfl) ?_
          refine z_iconst hx hb dX6_toNextOrder_60 ?_
          refine z_iadd (z := (pi + 1)) hx hb rfl dX6_toNextOrder_61 ?_
          refine lv_istore_n (lv' := [(3, vI (pi + 1)), (2, vI pi), (0, .ref a0), (1, vI ct)]) hx hb dX6_toNextOrder_62 rfl hl (by decide) rfl (fun ls hl => ?_)
          refine lv_iload_n hx hb dX6_toNextOrder_63 rfl (lv_at hl 3 rfl) ?_
          refine z_iconst hx hb dX6_toNextOrder_64 ?_
          refine z_isub (z := (ct - 1)) hx hb rfl dX6_toNextOrder_65 ?_
          refine lv_istore (lv' := [(4, vI (ct - 1)), (3, vI (pi + 1)), (2, vI pi), (0, .ref a0), (1, vI ct)]) hx hb dX6_toNextOrder_66 hl (by decide) rfl (fun ls hl => ?_)
          have L68 : ∀ (nn : Nat) (lo : Int) (hi : Int) (H : Heap) (locs : List Loc) (ls : Array Slot), ((hi + 1 - lo).toNat) = nn → (pi + 1 ≤ lo ∧ hi ≤ ct - 1 ∧ lo ≤ hi + 1 ∧ lo + hi = pi + 1 + (ct - 1)) → va_P dd vwCl [kI cI a0 9 (rvP f (pi + 1) (ct - 1) lo hi)] H → va_D A [kI cI a0 9 (rvP f (pi + 1) (ct - 1) lo hi)] → va_S A s.heap H locs → lv_has ls 5 [(3, vI lo), (4, vI hi), (2, vI pi), (0, .ref a0), (1, vI ct)] → W p l e (gR 2 0 0) s m args below meth c H locs 0 0 Q (F0 m 68 ls []) := by
            intro nn
            induction nn using Nat.strongRecOn with
            | ind nn L68i =>
            intro lo hi H locs ls hmeas hlh hP hD hS hl
            refine lv_iload_n hx hb dX6_toNextOrder_68 rfl (lv_at hl 0 rfl) ?_
            refine lv_iload hx hb dX6_toNextOrder_69 (lv_at hl 1 rfl) ?_
            refine z_icmp_ge (tgt := 90) hx hb dX6_toNextOrder_71 (by decide) (by omega) (fun c71 => ?_) (fun c71 => ?_)
            · skip
              refine lv_iload_n hx hb dX6_toNextOrder_90 rfl (lv_at hl 2 rfl) ?_
              refine z_if_lt (tgt := 98) hx hb dX6_toNextOrder_91 (by decide) (by omega) (fun c91 => ?_) (fun c91 => ?_)
              · skip
                refine z_iconst hx hb dX6_toNextOrder_98 ?_
                subst hQ
                refine z_zret (z := 0) hx hb hr hlocks dX6_toNextOrder_99 (by omega) (rvP f (pi + 1) (ct - 1) lo hi) hK hS ⟨by omega, by omega⟩ hP hD ?_
                first
                | (exfalso; omega)
                | (exact Or.inr ⟨pi, o, by omega, by omega, by omega, by omega, fun j h0 h1 => hde j h0 (by omega) h1, by omega, hgr, rfl, rvP_end (by omega)⟩)
                | (refine Or.inl ⟨rfl, fun j h0 h1 => hde j (by omega) h0 h1, ?_⟩
                   rw [rvP_end (by omega)]
                   funext k
                   unfold rvZ
                   by_cases q : pi + 1 ≤ k ∧ k ≤ ct - 1
                   · by_cases q2 : pi = -1
                     · rw [q2]
                       rfl
                     · rw [if_pos q, if_neg (by omega), show pi + 1 + (ct - 1) - k = k by omega]
                   · rw [if_neg q, if_neg (by omega)])
              · skip
                refine z_iconst hx hb dX6_toNextOrder_94 ?_
                refine lv_goto (tgt := 99) hx hb dX6_toNextOrder_95 (by decide) ?_
                subst hQ
                refine z_zret (z := 1) hx hb hr hlocks dX6_toNextOrder_99 (by omega) (rvP f (pi + 1) (ct - 1) lo hi) hK hS ⟨by omega, by omega⟩ hP hD ?_
                first
                | (exfalso; omega)
                | (exact Or.inr ⟨pi, o, by omega, by omega, by omega, by omega, fun j h0 h1 => hde j h0 (by omega) h1, by omega, hgr, rfl, rvP_end (by omega)⟩)
                | (refine Or.inl ⟨rfl, fun j h0 h1 => hde j (by omega) h0 h1, ?_⟩
                   rw [rvP_end (by omega)]
                   funext k
                   unfold rvZ
                   by_cases q : pi + 1 ≤ k ∧ k ≤ ct - 1
                   · by_cases q2 : pi = -1
                     · rw [q2]
                       rfl
                     · rw [if_pos q, if_neg (by omega), show pi + 1 + (ct - 1) - k = k by omega]
                   · rw [if_neg q, if_neg (by omega)])
            · skip
              refine lv_aload_n hx hb dX6_toNextOrder_74 rfl (lv_at hl 3 rfl) ?_
              refine lv_iload_n hx hb dX6_toNextOrder_75 rfl (lv_at hl 0 rfl) ?_
              refine lv_iload hx hb dX6_toNextOrder_76 (lv_at hl 1 rfl) ?_
              refine g_callSv (own := RX6) (n := 3) (mc := 0) (ms := 0) (As := [.ref a0, vI lo, vI hi]) (rest := []) (wc := [kI cI a0 9 (rvP f (pi + 1) (ct - 1) lo hi)]) (wr := []) hx hb hml hown hts hK hP hD hS hA [0] [] rfl rfl (by decide) (by decide) (c_X6_swap l dd cI cJ cC cS a0 (rvP f (pi + 1) (ct - 1) lo hi) lo hi H.size  (by first | assumption | omega) (by first | assumption | omega)) gX6_toNextOrder_X6_swap rfl (by decide +kernel) (by decide) (by decide) (by decide) (by decide) rfl hl.1 rfl (Nat.le_of_ble_eq_true rfl) dX6_toNextOrder_78 (fun u_13 H locs hp78_14 hP hD hS => ?_)
              have hP : va_P dd vwCl [kI cI a0 9 (swZ (rvP f (pi + 1) (ct - 1) lo hi) lo hi)] H := hP
              have hD : va_D A [kI cI a0 9 (swZ (rvP f (pi + 1) (ct - 1) lo hi) lo hi)] := hD
              refine z_iinc (a := lo) (z := (lo + 1)) (lv' := [(3, vI (lo + 1)), (4, vI hi), (2, vI pi), (0, .ref a0), (1, vI ct)]) hx hb dX6_toNextOrder_81 hl (k := 0) rfl rfl (by decide) rfl (fun ls hl => ?_)
              refine z_iinc (a := hi) (z := (hi - 1)) (lv' := [(4, vI (hi - 1)), (3, vI (lo + 1)), (2, vI pi), (0, .ref a0), (1, vI ct)]) hx hb dX6_toNextOrder_84 hl (k := 1) rfl (by omega) (by decide) rfl (fun ls hl => ?_)
              refine lv_goto (tgt := 68) hx hb dX6_toNextOrder_87 (by decide) ?_
              have el_15 : kI cI a0 9 (swZ (rvP f (pi + 1) (ct - 1) lo hi) lo hi) = kI cI a0 9 (rvP f (pi + 1) (ct - 1) (lo + 1) (hi - 1)) := kI_congr (congrArg aZ (by first | exact rvP_0 _ _ _ | exact rvP_s (by omega)))
              rw [el_15] at hP hD
              exact L68i _ (by omega) (lo + 1) (hi - 1) H locs ls rfl (by omega) hP hD hS (lv_sub hl [1, 0, 2, 3, 4] rfl)
          have el_16 : kI cI a0 9 f = kI cI a0 9 (rvP f (pi + 1) (ct - 1) (pi + 1) (ct - 1)) := kI_congr (congrArg aZ (by first | exact rvP_0 _ _ _ | exact rvP_s (by omega)))
          rw [el_16] at hP hD
          exact L68 _ (pi + 1) (ct - 1) H locs ls rfl (by omega) hP hD hS (lv_sub hl [1, 0, 2, 3, 4] rfl)
        · skip
          refine lv_iload_n hx hb dX6_toNextOrder_29 rfl (lv_at hl 2 rfl) ?_
          refine z_iconst hx hb dX6_toNextOrder_30 ?_
          refine z_isub (z := (ct - 1)) hx hb rfl dX6_toNextOrder_31 ?_
          refine lv_istore_n (lv' := [(3, vI (ct - 1)), (2, vI pi), (0, .ref a0), (1, vI ct)]) hx hb dX6_toNextOrder_32 rfl hl (by decide) rfl (fun ls hl => ?_)
          have L33 : ∀ (nn : Nat) (o : Int) (H : Heap) (locs : List Loc) (ls : Array Slot), ((o + 2).toNat) = nn → (pi ≤ o ∧ o ≤ ct - 1) → (∀ q : Int, o < q → q < ct → f q ≤ f pi) → va_P dd vwCl [kI cI a0 9 f] H → va_D A [kI cI a0 9 f] → va_S A s.heap H locs → lv_has ls 5 [(3, vI o), (2, vI pi), (0, .ref a0), (1, vI ct)] → W p l e (gR 2 0 0) s m args below meth c H locs 0 0 Q (F0 m 33 ls []) := by
            intro nn
            induction nn using Nat.strongRecOn with
            | ind nn L33i =>
            intro o H locs ls hmeas ho hgr hP hD hS hl
            refine lv_iload_n hx hb dX6_toNextOrder_33 rfl (lv_at hl 0 rfl) ?_
            refine lv_iload_n hx hb dX6_toNextOrder_34 rfl (lv_at hl 1 rfl) ?_
            have hop : pi < o := by
              by_cases q : o ≤ pi
              · exfalso
                first
                | omega
                | (have := hgr (pi + 1) (by omega) (by omega); omega)
              · omega
            refine z_icmp_le (tgt := 53) hx hb dX6_toNextOrder_35 (by decide) (by omega) (fun c35 => ?_) (fun c35 => ?_)
            · exact absurd c35 (by omega)
            · skip
              refine lv_aload_n hx hb dX6_toNextOrder_38 rfl (lv_at hl 2 rfl) ?_
              refine lv_iload_n hx hb dX6_toNextOrder_39 rfl (lv_at hl 0 rfl) ?_
              refine z_iald hx hb hK hP 0 0 rfl rfl (i := o) (by omega) (by decide) dX6_toNextOrder_40 ?_
              have f_17 := hff o (by omega) (by omega)
              refine lv_aload_n hx hb dX6_toNextOrder_41 rfl (lv_at hl 2 rfl) ?_
              refine lv_iload_n hx hb dX6_toNextOrder_42 rfl (lv_at hl 1 rfl) ?_
              refine z_iald hx hb hK hP 0 0 rfl rfl (i := pi) (by omega) (by decide) dX6_toNextOrder_43 ?_
              have f_18 := hff pi (by omega) (by omega)
              refine z_icmp_gt (tgt := 53) hx hb dX6_toNextOrder_44 (by decide) (by omega) (fun c44 => ?_) (fun c44 => ?_)
              · skip
                refine lv_aload_n hx hb dX6_toNextOrder_53 rfl (lv_at hl 2 rfl) ?_
                refine lv_iload_n hx hb dX6_toNextOrder_54 rfl (lv_at hl 1 rfl) ?_
                refine lv_iload_n hx hb dX6_toNextOrder_55 rfl (lv_at hl 0 rfl) ?_
                refine g_callSv (own := RX6) (n := 3) (mc := 0) (ms := 0) (As := [.ref a0, vI pi, vI o]) (rest := []) (wc := [kI cI a0 9 f]) (wr := []) hx hb hml hown hts hK hP hD hS hA [0] [] rfl rfl (by decide) (by decide) (c_X6_swap l dd cI cJ cC cS a0 f pi o H.size  (by first | assumption | omega) (by first | assumption | omega)) gX6_toNextOrder_X6_swap rfl (by decide +kernel) (by decide) (by decide) (by decide) (by decide) rfl hl.1 rfl (Nat.le_of_ble_eq_true rfl) dX6_toNextOrder_56 (fun u_19 H locs hp56_20 hP hD hS => ?_)
                have hP : va_P dd vwCl [kI cI a0 9 (swZ f pi o)] H := hP
                have hD : va_D A [kI cI a0 9 (swZ f pi o)] := hD
                refine lv_iload_n hx hb dX6_toNextOrder_59 rfl (lv_at hl 1 rfl) ?_
                refine z_iconst hx hb dX6_toNextOrder_60 ?_
                refine z_iadd (z := (pi + 1)) hx hb rfl dX6_toNextOrder_61 ?_
                refine lv_istore_n (lv' := [(3, vI (pi + 1)), (2, vI pi), (0, .ref a0), (1, vI ct)]) hx hb dX6_toNextOrder_62 rfl hl (by decide) rfl (fun ls hl => ?_)
                refine lv_iload_n hx hb dX6_toNextOrder_63 rfl (lv_at hl 3 rfl) ?_
                refine z_iconst hx hb dX6_toNextOrder_64 ?_
                refine z_isub (z := (ct - 1)) hx hb rfl dX6_toNextOrder_65 ?_
                refine lv_istore (lv' := [(4, vI (ct - 1)), (3, vI (pi + 1)), (2, vI pi), (0, .ref a0), (1, vI ct)]) hx hb dX6_toNextOrder_66 hl (by decide) rfl (fun ls hl => ?_)
                have L68 : ∀ (nn : Nat) (lo : Int) (hi : Int) (H : Heap) (locs : List Loc) (ls : Array Slot), ((hi + 1 - lo).toNat) = nn → (pi + 1 ≤ lo ∧ hi ≤ ct - 1 ∧ lo ≤ hi + 1 ∧ lo + hi = pi + 1 + (ct - 1)) → va_P dd vwCl [kI cI a0 9 (rvP (swZ f pi o) (pi + 1) (ct - 1) lo hi)] H → va_D A [kI cI a0 9 (rvP (swZ f pi o) (pi + 1) (ct - 1) lo hi)] → va_S A s.heap H locs → lv_has ls 5 [(3, vI lo), (4, vI hi), (2, vI pi), (0, .ref a0), (1, vI ct)] → W p l e (gR 2 0 0) s m args below meth c H locs 0 0 Q (F0 m 68 ls []) := by
                  intro nn
                  induction nn using Nat.strongRecOn with
                  | ind nn L68i =>
                  intro lo hi H locs ls hmeas hlh hP hD hS hl
                  refine lv_iload_n hx hb dX6_toNextOrder_68 rfl (lv_at hl 0 rfl) ?_
                  refine lv_iload hx hb dX6_toNextOrder_69 (lv_at hl 1 rfl) ?_
                  refine z_icmp_ge (tgt := 90) hx hb dX6_toNextOrder_71 (by decide) (by omega) (fun c71 => ?_) (fun c71 => ?_)
                  · skip
                    refine lv_iload_n hx hb dX6_toNextOrder_90 rfl (lv_at hl 2 rfl) ?_
                    refine z_if_lt (tgt := 98) hx hb dX6_toNextOrder_91 (by decide) (by omega) (fun c91 => ?_) (fun c91 => ?_)
                    · skip
                      refine z_iconst hx hb dX6_toNextOrder_98 ?_
                      subst hQ
                      refine z_zret (z := 0) hx hb hr hlocks dX6_toNextOrder_99 (by omega) (rvP (swZ f pi o) (pi + 1) (ct - 1) lo hi) hK hS ⟨by omega, by omega⟩ hP hD ?_
                      first
                      | (exfalso; omega)
                      | (exact Or.inr ⟨pi, o, by omega, by omega, by omega, by omega, fun j h0 h1 => hde j h0 (by omega) h1, by omega, hgr, rfl, rvP_end (by omega)⟩)
                      | (refine Or.inl ⟨rfl, fun j h0 h1 => hde j (by omega) h0 h1, ?_⟩
                         rw [rvP_end (by omega)]
                         funext k
                         unfold rvZ
                         by_cases q : pi + 1 ≤ k ∧ k ≤ ct - 1
                         · by_cases q2 : pi = -1
                           · rw [q2]
                             rfl
                           · rw [if_pos q, if_neg (by omega), show pi + 1 + (ct - 1) - k = k by omega]
                         · rw [if_neg q, if_neg (by omega)])
                    · skip
                      refine z_iconst hx hb dX6_toNextOrder_94 ?_
                      refine lv_goto (tgt := 99) hx hb dX6_toNextOrder_95 (by decide) ?_
                      subst hQ
                      refine z_zret (z := 1) hx hb hr hlocks dX6_toNextOrder_99 (by omega) (rvP (swZ f pi o) (pi + 1) (ct - 1) lo hi) hK hS ⟨by omega, by omega⟩ hP hD ?_
                      first
                      | (exfalso; omega)
                      | (exact Or.inr ⟨pi, o, by omega, by omega, by omega, by omega, fun j h0 h1 => hde j h0 (by omega) h1, by omega, hgr, rfl, rvP_end (by omega)⟩)
                      | (refine Or.inl ⟨rfl, fun j h0 h1 => hde j (by omega) h0 h1, ?_⟩
                         rw [rvP_end (by omega)]
                         funext k
                         unfold rvZ
                         by_cases q : pi + 1 ≤ k ∧ k ≤ ct - 1
                         · by_cases q2 : pi = -1
                           · rw [q2]
                             rfl
                           · rw [if_pos q, if_neg (by omega), show pi + 1 + (ct - 1) - k = k by omega]
                         · rw [if_neg q, if_neg (by omega)])
                  · skip
                    refine lv_aload_n hx hb dX6_toNextOrder_74 rfl (lv_at hl 3 rfl) ?_
                    refine lv_iload_n hx hb dX6_toNextOrder_75 rfl (lv_at hl 0 rfl) ?_
                    refine lv_iload hx hb dX6_toNextOrder_76 (lv_at hl 1 rfl) ?_
                    refine g_callSv (own := RX6) (n := 3) (mc := 0) (ms := 0) (As := [.ref a0, vI lo, vI hi]) (rest := []) (wc := [kI cI a0 9 (rvP (swZ f pi o) (pi + 1) (ct - 1) lo hi)]) (wr := []) hx hb hml hown hts hK hP hD hS hA [0] [] rfl rfl (by decide) (by decide) (c_X6_swap l dd cI cJ cC cS a0 (rvP (swZ f pi o) (pi + 1) (ct - 1) lo hi) lo hi H.size  (by first | assumption | omega) (by first | assumption | omega)) gX6_toNextOrder_X6_swap rfl (by decide +kernel) (by decide) (by decide) (by decide) (by decide) rfl hl.1 rfl (Nat.le_of_ble_eq_true rfl) dX6_toNextOrder_78 (fun u_21 H locs hp78_22 hP hD hS => ?_)
                    have hP : va_P dd vwCl [kI cI a0 9 (swZ (rvP (swZ f pi o) (pi + 1) (ct - 1) lo hi) lo hi)] H := hP
                    have hD : va_D A [kI cI a0 9 (swZ (rvP (swZ f pi o) (pi + 1) (ct - 1) lo hi) lo hi)] := hD
                    refine z_iinc (a := lo) (z := (lo + 1)) (lv' := [(3, vI (lo + 1)), (4, vI hi), (2, vI pi), (0, .ref a0), (1, vI ct)]) hx hb dX6_toNextOrder_81 hl (k := 0) rfl rfl (by decide) rfl (fun ls hl => ?_)
                    refine z_iinc (a := hi) (z := (hi - 1)) (lv' := [(4, vI (hi - 1)), (3, vI (lo + 1)), (2, vI pi), (0, .ref a0), (1, vI ct)]) hx hb dX6_toNextOrder_84 hl (k := 1) rfl (by omega) (by decide) rfl (fun ls hl => ?_)
                    refine lv_goto (tgt := 68) hx hb dX6_toNextOrder_87 (by decide) ?_
                    have el_23 : kI cI a0 9 (swZ (rvP (swZ f pi o) (pi + 1) (ct - 1) lo hi) lo hi) = kI cI a0 9 (rvP (swZ f pi o) (pi + 1) (ct - 1) (lo + 1) (hi - 1)) := kI_congr (congrArg aZ (by first | exact rvP_0 _ _ _ | exact rvP_s (by omega)))
                    rw [el_23] at hP hD
                    exact L68i _ (by omega) (lo + 1) (hi - 1) H locs ls rfl (by omega) hP hD hS (lv_sub hl [1, 0, 2, 3, 4] rfl)
                have el_24 : kI cI a0 9 (swZ f pi o) = kI cI a0 9 (rvP (swZ f pi o) (pi + 1) (ct - 1) (pi + 1) (ct - 1)) := kI_congr (congrArg aZ (by first | exact rvP_0 _ _ _ | exact rvP_s (by omega)))
                rw [el_24] at hP hD
                exact L68 _ (pi + 1) (ct - 1) H locs ls rfl (by omega) hP hD hS (lv_sub hl [1, 0, 2, 3, 4] rfl)
              · skip
                refine z_iinc (a := o) (z := (o - 1)) (lv' := [(3, vI (o - 1)), (2, vI pi), (0, .ref a0), (1, vI ct)]) hx hb dX6_toNextOrder_47 hl (k := 0) rfl (by omega) (by decide) rfl (fun ls hl => ?_)
                refine lv_goto (tgt := 33) hx hb dX6_toNextOrder_50 (by decide) ?_
                exact L33i _ (by omega) (o - 1) H locs ls rfl (by omega) (by first | exact (fun q h0 h1 => absurd h0 (by omega)) | (intro q h0 h1; by_cases e : q = o; (rw [e]; omega); exact hgr q (by omega) h1)) hP hD hS hl
          exact L33 _ (ct - 1) H locs ls rfl (by omega) (by first | exact (fun q h0 h1 => absurd h0 (by omega)) | (intro q h0 h1; by_cases e : q = o; (rw [e]; omega); exact hgr q (by omega) h1)) hP hD hS hl
      · skip
        refine z_iinc (a := pi) (z := (pi - 1)) (lv' := [(2, vI (pi - 1)), (0, .ref a0), (1, vI ct)]) hx hb dX6_toNextOrder_19 hl (k := 0) rfl (by omega) (by decide) rfl (fun ls hl => ?_)
        refine lv_goto (tgt := 4) hx hb dX6_toNextOrder_22 (by decide) ?_
        exact L4i _ (by omega) (pi - 1) H locs ls rfl (by omega) (fun j h0 h1 h2 => by
          by_cases q : j = pi
          · rw [q]; omega
          · exact hde j (by omega) h1 h2) hP hD hS hl
  exact L4 _ (ct - 2) H locs ls rfl (by omega) (fun j h0 h1 h2 => absurd h0 (by omega)) hP hD hS hl

set_option maxHeartbeats 4000000 in
set_option maxRecDepth 100000 in
theorem c_X6_nextArrangement (l : Launch) (dd : va_G) (cI cJ cC cS : ClassId) (x0 s0 h0 l0 m0 p0 e0 w0 t0 s1 s2 h1 : Nat) (n tl : Int) (cap wi : Int → Int) (ct ru re : Int) (ya : Nat → Nat → Nat) (yc yw : Nat → Int → Int) (yt yu yr : Nat → Int) (ys : Int) (sz : Nat) (hn : 1 ≤ n ∧ n ≤ 8) (hct : 0 ≤ ct ∧ ct ≤ 9) (hcap : ∀ j : Int, 0 ≤ j → j < n → 0 ≤ cap j ∧ cap j ≤ 3) (hwi : ∀ j : Int, 0 ≤ j → j < ct → 0 ≤ wi j ∧ wi j < n) (hru : 0 ≤ ru ∧ ru ≤ 3) (hre : 0 ≤ re ∧ re ≤ 8) (hys : 0 ≤ ys ∧ ys ≤ 6) : gMi l yX6_nextArrangement wsX6_nextArrangement 12 0 0 dd cI cJ cC cS [.ref x0] [kO x0 6 [vI n, .ref s0, .ref h0, .ref l0, .ref m0, .ref p0, .ref e0, .ref w0, .ref t0, vI tl], kO s0 5 [.ref s1, .ref s2, vI ct, vI ru, vI re], kI cI s1 8 cap, kI cI s2 9 wi, kO h0 0 [.ref h1, vI ys], kR cS h1 6 (kfA ya), kO (ya 0 0) 5 [.ref (ya 0 1), .ref (ya 0 2), vI (yt 0), vI (yu 0), vI (yr 0)], kI cI (ya 0 1) 8 (yc 0), kI cI (ya 0 2) 9 (yw 0), kO (ya 1 0) 5 [.ref (ya 1 1), .ref (ya 1 2), vI (yt 1), vI (yu 1), vI (yr 1)], kI cI (ya 1 1) 8 (yc 1), kI cI (ya 1 2) 9 (yw 1), kO (ya 2 0) 5 [.ref (ya 2 1), .ref (ya 2 2), vI (yt 2), vI (yu 2), vI (yr 2)], kI cI (ya 2 1) 8 (yc 2), kI cI (ya 2 2) 9 (yw 2), kO (ya 3 0) 5 [.ref (ya 3 1), .ref (ya 3 2), vI (yt 3), vI (yu 3), vI (yr 3)], kI cI (ya 3 1) 8 (yc 3), kI cI (ya 3 2) 9 (yw 3), kO (ya 4 0) 5 [.ref (ya 4 1), .ref (ya 4 2), vI (yt 4), vI (yu 4), vI (yr 4)], kI cI (ya 4 1) 8 (yc 4), kI cI (ya 4 2) 9 (yw 4), kO (ya 5 0) 5 [.ref (ya 5 1), .ref (ya 5 2), vI (yt 5), vI (yu 5), vI (yr 5)], kI cI (ya 5 1) 8 (yc 5), kI cI (ya 5 2) 9 (yw 5)] sz (fun (z : Int) (u : (Int → Int) × Int × (Nat → Nat → Nat) × (Nat → Int → Int) × (Nat → Int → Int) × (Nat → Int) × (Nat → Int) × (Nat → Int)) => KEEP ys ya yc yw yt yu yr cap wi ct ru re u.2.1 u.2.2.1 u.2.2.2.1 u.2.2.2.2.1 u.2.2.2.2.2.1 u.2.2.2.2.2.2.1 u.2.2.2.2.2.2.2 ∧ ((z = 0 ∧ (∀ j : Int, 0 ≤ j → j + 1 < ct → wi (j + 1) ≤ wi j) ∧ u.1 = rvZ wi 0 (ct - 1)) ∨ (∃ p o : Int, 0 ≤ p ∧ p < o ∧ o < ct ∧ wi p < wi (p + 1) ∧ (∀ j : Int, p < j → j + 1 < ct → wi (j + 1) ≤ wi j) ∧ wi p < wi o ∧ (∀ q : Int, o < q → q < ct → wi q ≤ wi p) ∧ z = 1 ∧ u.1 = rvZ (swZ wi p o) (p + 1) (ct - 1)))) (fun (u : (Int → Int) × Int × (Nat → Nat → Nat) × (Nat → Int → Int) × (Nat → Int → Int) × (Nat → Int) × (Nat → Int) × (Nat → Int)) => [kO x0 6 [vI n, .ref s0, .ref h0, .ref l0, .ref m0, .ref p0, .ref e0, .ref w0, .ref t0, vI tl], kO s0 5 [.ref s1, .ref s2, vI ct, vI ru, vI re], kI cI s1 8 cap, kI cI s2 9 u.1, kO h0 0 [.ref h1, vI u.2.1], kR cS h1 6 (kfA u.2.2.1), kO (u.2.2.1 0 0) 5 [.ref (u.2.2.1 0 1), .ref (u.2.2.1 0 2), vI (u.2.2.2.2.2.1 0), vI (u.2.2.2.2.2.2.1 0), vI (u.2.2.2.2.2.2.2 0)], kI cI (u.2.2.1 0 1) 8 (u.2.2.2.1 0), kI cI (u.2.2.1 0 2) 9 (u.2.2.2.2.1 0), kO (u.2.2.1 1 0) 5 [.ref (u.2.2.1 1 1), .ref (u.2.2.1 1 2), vI (u.2.2.2.2.2.1 1), vI (u.2.2.2.2.2.2.1 1), vI (u.2.2.2.2.2.2.2 1)], kI cI (u.2.2.1 1 1) 8 (u.2.2.2.1 1), kI cI (u.2.2.1 1 2) 9 (u.2.2.2.2.1 1), kO (u.2.2.1 2 0) 5 [.ref (u.2.2.1 2 1), .ref (u.2.2.1 2 2), vI (u.2.2.2.2.2.1 2), vI (u.2.2.2.2.2.2.1 2), vI (u.2.2.2.2.2.2.2 2)], kI cI (u.2.2.1 2 1) 8 (u.2.2.2.1 2), kI cI (u.2.2.1 2 2) 9 (u.2.2.2.2.1 2), kO (u.2.2.1 3 0) 5 [.ref (u.2.2.1 3 1), .ref (u.2.2.1 3 2), vI (u.2.2.2.2.2.1 3), vI (u.2.2.2.2.2.2.1 3), vI (u.2.2.2.2.2.2.2 3)], kI cI (u.2.2.1 3 1) 8 (u.2.2.2.1 3), kI cI (u.2.2.1 3 2) 9 (u.2.2.2.2.1 3), kO (u.2.2.1 4 0) 5 [.ref (u.2.2.1 4 1), .ref (u.2.2.1 4 2), vI (u.2.2.2.2.2.1 4), vI (u.2.2.2.2.2.2.1 4), vI (u.2.2.2.2.2.2.2 4)], kI cI (u.2.2.1 4 1) 8 (u.2.2.2.1 4), kI cI (u.2.2.1 4 2) 9 (u.2.2.2.2.1 4), kO (u.2.2.1 5 0) 5 [.ref (u.2.2.1 5 1), .ref (u.2.2.1 5 2), vI (u.2.2.2.2.2.1 5), vI (u.2.2.2.2.2.2.1 5), vI (u.2.2.2.2.2.2.2 5)], kI cI (u.2.2.1 5 1) 8 (u.2.2.2.1 5), kI cI (u.2.2.1 5 2) 9 (u.2.2.2.2.1 5)]) := by
  refine gMi_of (cc := cX6_nextArrangement) (maxL := 1) (ret := (some .boolean)) (by decide) rfl (Nat.le_of_ble_eq_true rfl) ?_
  intro p e s m args below meth c A Q hQ hx hb hr hts hown hlocks hnm hml H locs hP hK hD hA hS ls hl
  have hi5 : ∀ w ∈ wsX50, w ∈ wsX6_nextArrangement := fun _ h => (List.mem_cons_of_mem _ (List.mem_append_left _ (List.mem_append_right _ h)))
  have hi6 : ∀ w ∈ wsX60, w ∈ wsX6_nextArrangement := fun _ h => (List.mem_cons_of_mem _ (List.mem_append_left _ (List.mem_append_left _ (List.mem_append_right _ h))))
  have hl : lv_has ls 1 [(0, .ref x0)] := hl
  refine lv_aload_n hx hb dX6_nextArrangement_0 rfl (lv_at hl 0 rfl) ?_
  refine va_get (D := dd) (ci := 6) (v := .ref h0) (C := RX6) (T := TX6) (N := 10) hx hb hts hi6 hown hK hP 0 rfl rfl 2 (by decide) (hts _ (List.mem_cons_of_mem _ (List.mem_append_left _ (List.mem_append_left _ (List.mem_append_left _ (List.mem_append_left _ (List.mem_of_getElem? (i := 0) rfl))))))) (fun _ h9 => h9) rfl dX6_nextArrangement_1 ?_
  refine lv_aload_n hx hb dX6_nextArrangement_4 rfl (lv_at hl 0 rfl) ?_
  refine va_get (D := dd) (ci := 6) (v := .ref s0) (C := RX6) (T := TX6) (N := 10) hx hb hts hi6 hown hK hP 0 rfl rfl 1 (by decide) (hts _ (List.mem_cons_of_mem _ (List.mem_append_left _ (List.mem_append_left _ (List.mem_append_left _ (List.mem_append_left _ (List.mem_of_getElem? (i := 1) rfl))))))) (fun _ h9 => h9) rfl dX6_nextArrangement_5 ?_
  refine g_callVv (own := RX6) (n := 1) (mc := 0) (ms := 0) (As := [.ref s0]) (rest := []) (wc := [kO h0 0 [.ref h1, vI ys], kR cS h1 6 (kfA ya), kO (ya 0 0) 5 [.ref (ya 0 1), .ref (ya 0 2), vI (yt 0), vI (yu 0), vI (yr 0)], kI cI (ya 0 1) 8 (yc 0), kI cI (ya 0 2) 9 (yw 0), kO (ya 1 0) 5 [.ref (ya 1 1), .ref (ya 1 2), vI (yt 1), vI (yu 1), vI (yr 1)], kI cI (ya 1 1) 8 (yc 1), kI cI (ya 1 2) 9 (yw 1), kO (ya 2 0) 5 [.ref (ya 2 1), .ref (ya 2 2), vI (yt 2), vI (yu 2), vI (yr 2)], kI cI (ya 2 1) 8 (yc 2), kI cI (ya 2 2) 9 (yw 2), kO (ya 3 0) 5 [.ref (ya 3 1), .ref (ya 3 2), vI (yt 3), vI (yu 3), vI (yr 3)], kI cI (ya 3 1) 8 (yc 3), kI cI (ya 3 2) 9 (yw 3), kO (ya 4 0) 5 [.ref (ya 4 1), .ref (ya 4 2), vI (yt 4), vI (yu 4), vI (yr 4)], kI cI (ya 4 1) 8 (yc 4), kI cI (ya 4 2) 9 (yw 4), kO (ya 5 0) 5 [.ref (ya 5 1), .ref (ya 5 2), vI (yt 5), vI (yu 5), vI (yr 5)], kI cI (ya 5 1) 8 (yc 5), kI cI (ya 5 2) 9 (yw 5), kO s0 5 [.ref s1, .ref s2, vI ct, vI ru, vI re], kI cI s1 8 cap, kI cI s2 9 wi]) (wr := [kO x0 6 [vI n, .ref s0, .ref h0, .ref l0, .ref m0, .ref p0, .ref e0, .ref w0, .ref t0, vI tl]]) hx hb hml hown hts hK hP hD hS hA [4, 5, 6, 7, 8, 9, 10, 11, 12, 13, 14, 15, 16, 17, 18, 19, 20, 21, 22, 23, 1, 2, 3] [0] rfl rfl (by decide) (by decide) 0 0 rfl rfl (c_X0_keep l dd cI cJ cC cS h0 h1 s0 s1 s2 ya yc yw yt yu yr ys cap wi ct ru re H.size  (by first | assumption | omega)) gX6_nextArrangement_X0_keep rfl (by decide +kernel) (by decide) (by decide) (by decide) (by decide) rfl hl.1 rfl (Nat.le_of_ble_eq_true rfl) dX6_nextArrangement_8 (fun u_1 H locs hkp hP hD hS => ?_)
  obtain ⟨ys1, ya1, yc1, yw1, yt1, yu1, yr1⟩ := u_1
  try dsimp only at hkp
  have hP : va_P dd vwCl [kO x0 6 [vI n, .ref s0, .ref h0, .ref l0, .ref m0, .ref p0, .ref e0, .ref w0, .ref t0, vI tl], kO h0 0 [.ref h1, vI ys1], kR cS h1 6 (kfA ya1), kO (ya1 0 0) 5 [.ref (ya1 0 1), .ref (ya1 0 2), vI (yt1 0), vI (yu1 0), vI (yr1 0)], kI cI (ya1 0 1) 8 (yc1 0), kI cI (ya1 0 2) 9 (yw1 0), kO (ya1 1 0) 5 [.ref (ya1 1 1), .ref (ya1 1 2), vI (yt1 1), vI (yu1 1), vI (yr1 1)], kI cI (ya1 1 1) 8 (yc1 1), kI cI (ya1 1 2) 9 (yw1 1), kO (ya1 2 0) 5 [.ref (ya1 2 1), .ref (ya1 2 2), vI (yt1 2), vI (yu1 2), vI (yr1 2)], kI cI (ya1 2 1) 8 (yc1 2), kI cI (ya1 2 2) 9 (yw1 2), kO (ya1 3 0) 5 [.ref (ya1 3 1), .ref (ya1 3 2), vI (yt1 3), vI (yu1 3), vI (yr1 3)], kI cI (ya1 3 1) 8 (yc1 3), kI cI (ya1 3 2) 9 (yw1 3), kO (ya1 4 0) 5 [.ref (ya1 4 1), .ref (ya1 4 2), vI (yt1 4), vI (yu1 4), vI (yr1 4)], kI cI (ya1 4 1) 8 (yc1 4), kI cI (ya1 4 2) 9 (yw1 4), kO (ya1 5 0) 5 [.ref (ya1 5 1), .ref (ya1 5 2), vI (yt1 5), vI (yu1 5), vI (yr1 5)], kI cI (ya1 5 1) 8 (yc1 5), kI cI (ya1 5 2) 9 (yw1 5), kO s0 5 [.ref s1, .ref s2, vI ct, vI ru, vI re], kI cI s1 8 cap, kI cI s2 9 wi] H := hP
  have hD : va_D A [kO x0 6 [vI n, .ref s0, .ref h0, .ref l0, .ref m0, .ref p0, .ref e0, .ref w0, .ref t0, vI tl], kO h0 0 [.ref h1, vI ys1], kR cS h1 6 (kfA ya1), kO (ya1 0 0) 5 [.ref (ya1 0 1), .ref (ya1 0 2), vI (yt1 0), vI (yu1 0), vI (yr1 0)], kI cI (ya1 0 1) 8 (yc1 0), kI cI (ya1 0 2) 9 (yw1 0), kO (ya1 1 0) 5 [.ref (ya1 1 1), .ref (ya1 1 2), vI (yt1 1), vI (yu1 1), vI (yr1 1)], kI cI (ya1 1 1) 8 (yc1 1), kI cI (ya1 1 2) 9 (yw1 1), kO (ya1 2 0) 5 [.ref (ya1 2 1), .ref (ya1 2 2), vI (yt1 2), vI (yu1 2), vI (yr1 2)], kI cI (ya1 2 1) 8 (yc1 2), kI cI (ya1 2 2) 9 (yw1 2), kO (ya1 3 0) 5 [.ref (ya1 3 1), .ref (ya1 3 2), vI (yt1 3), vI (yu1 3), vI (yr1 3)], kI cI (ya1 3 1) 8 (yc1 3), kI cI (ya1 3 2) 9 (yw1 3), kO (ya1 4 0) 5 [.ref (ya1 4 1), .ref (ya1 4 2), vI (yt1 4), vI (yu1 4), vI (yr1 4)], kI cI (ya1 4 1) 8 (yc1 4), kI cI (ya1 4 2) 9 (yw1 4), kO (ya1 5 0) 5 [.ref (ya1 5 1), .ref (ya1 5 2), vI (yt1 5), vI (yu1 5), vI (yr1 5)], kI cI (ya1 5 1) 8 (yc1 5), kI cI (ya1 5 2) 9 (yw1 5), kO s0 5 [.ref s1, .ref s2, vI ct, vI ru, vI re], kI cI s1 8 cap, kI cI s2 9 wi] := hD
  refine lv_aload_n hx hb dX6_nextArrangement_11 rfl (lv_at hl 0 rfl) ?_
  refine va_get (D := dd) (ci := 6) (v := .ref s0) (C := RX6) (T := TX6) (N := 10) hx hb hts hi6 hown hK hP 0 rfl rfl 1 (by decide) (hts _ (List.mem_cons_of_mem _ (List.mem_append_left _ (List.mem_append_left _ (List.mem_append_left _ (List.mem_append_left _ (List.mem_of_getElem? (i := 1) rfl))))))) (fun _ h9 => h9) rfl dX6_nextArrangement_12 ?_
  refine va_get (D := dd) (ci := 5) (v := .ref s2) (C := RX5) (T := TX5) (N := 5) hx hb hts hi5 hown hK hP 21 rfl rfl 1 (by decide) (hts _ (List.mem_cons_of_mem _ (List.mem_append_left _ (List.mem_append_left _ (List.mem_append_left _ (List.mem_append_left _ (List.mem_of_getElem? (i := 2) rfl))))))) (fun _ h9 => h9) rfl dX6_nextArrangement_15 ?_
  refine lv_aload_n hx hb dX6_nextArrangement_18 rfl (lv_at hl 0 rfl) ?_
  refine va_get (D := dd) (ci := 6) (v := .ref s0) (C := RX6) (T := TX6) (N := 10) hx hb hts hi6 hown hK hP 0 rfl rfl 1 (by decide) (hts _ (List.mem_cons_of_mem _ (List.mem_append_left _ (List.mem_append_left _ (List.mem_append_left _ (List.mem_append_left _ (List.mem_of_getElem? (i := 1) rfl))))))) (fun _ h9 => h9) rfl dX6_nextArrangement_19 ?_
  refine va_get (D := dd) (ci := 5) (v := vI ct) (C := RX5) (T := TX5) (N := 5) hx hb hts hi5 hown hK hP 21 rfl rfl 2 (by decide) (hts _ (List.mem_cons_of_mem _ (List.mem_append_left _ (List.mem_append_left _ (List.mem_append_left _ (List.mem_append_left _ (List.mem_of_getElem? (i := 3) rfl))))))) (fun _ h9 => h9) rfl dX6_nextArrangement_22 ?_
  refine g_callSi (own := RX6) (n := 2) (mc := 0) (ms := 0) (As := [.ref s2, vI ct]) (rest := []) (wc := [kI cI s2 9 wi]) (wr := [kO x0 6 [vI n, .ref s0, .ref h0, .ref l0, .ref m0, .ref p0, .ref e0, .ref w0, .ref t0, vI tl], kO h0 0 [.ref h1, vI ys1], kR cS h1 6 (kfA ya1), kO (ya1 0 0) 5 [.ref (ya1 0 1), .ref (ya1 0 2), vI (yt1 0), vI (yu1 0), vI (yr1 0)], kI cI (ya1 0 1) 8 (yc1 0), kI cI (ya1 0 2) 9 (yw1 0), kO (ya1 1 0) 5 [.ref (ya1 1 1), .ref (ya1 1 2), vI (yt1 1), vI (yu1 1), vI (yr1 1)], kI cI (ya1 1 1) 8 (yc1 1), kI cI (ya1 1 2) 9 (yw1 1), kO (ya1 2 0) 5 [.ref (ya1 2 1), .ref (ya1 2 2), vI (yt1 2), vI (yu1 2), vI (yr1 2)], kI cI (ya1 2 1) 8 (yc1 2), kI cI (ya1 2 2) 9 (yw1 2), kO (ya1 3 0) 5 [.ref (ya1 3 1), .ref (ya1 3 2), vI (yt1 3), vI (yu1 3), vI (yr1 3)], kI cI (ya1 3 1) 8 (yc1 3), kI cI (ya1 3 2) 9 (yw1 3), kO (ya1 4 0) 5 [.ref (ya1 4 1), .ref (ya1 4 2), vI (yt1 4), vI (yu1 4), vI (yr1 4)], kI cI (ya1 4 1) 8 (yc1 4), kI cI (ya1 4 2) 9 (yw1 4), kO (ya1 5 0) 5 [.ref (ya1 5 1), .ref (ya1 5 2), vI (yt1 5), vI (yu1 5), vI (yr1 5)], kI cI (ya1 5 1) 8 (yc1 5), kI cI (ya1 5 2) 9 (yw1 5), kO s0 5 [.ref s1, .ref s2, vI ct, vI ru, vI re], kI cI s1 8 cap]) hx hb hml hown hts hK hP hD hS hA [23] [0, 1, 2, 3, 4, 5, 6, 7, 8, 9, 10, 11, 12, 13, 14, 15, 16, 17, 18, 19, 20, 21, 22] rfl rfl (by decide) (by decide) (c_X6_toNextOrder l dd cI cJ cC cS s2 wi ct H.size  (by first | assumption | omega) (fun j h0 h1 => by have := hwi j h0 h1; omega)) gX6_nextArrangement_X6_toNextOrder rfl (by decide +kernel) (by decide) (by decide) (by decide) (by decide) rfl hl.1 rfl (Nat.le_of_ble_eq_true rfl) dX6_nextArrangement_25 (fun z_2 u_3 H locs hp25 hP hD hS => ?_)
  obtain ⟨f1_4, rfl⟩ : ∃ x, x = u_3 := ⟨_, rfl⟩
  try dsimp only at hp25
  have hP : va_P dd vwCl [kO x0 6 [vI n, .ref s0, .ref h0, .ref l0, .ref m0, .ref p0, .ref e0, .ref w0, .ref t0, vI tl], kO h0 0 [.ref h1, vI ys1], kR cS h1 6 (kfA ya1), kO (ya1 0 0) 5 [.ref (ya1 0 1), .ref (ya1 0 2), vI (yt1 0), vI (yu1 0), vI (yr1 0)], kI cI (ya1 0 1) 8 (yc1 0), kI cI (ya1 0 2) 9 (yw1 0), kO (ya1 1 0) 5 [.ref (ya1 1 1), .ref (ya1 1 2), vI (yt1 1), vI (yu1 1), vI (yr1 1)], kI cI (ya1 1 1) 8 (yc1 1), kI cI (ya1 1 2) 9 (yw1 1), kO (ya1 2 0) 5 [.ref (ya1 2 1), .ref (ya1 2 2), vI (yt1 2), vI (yu1 2), vI (yr1 2)], kI cI (ya1 2 1) 8 (yc1 2), kI cI (ya1 2 2) 9 (yw1 2), kO (ya1 3 0) 5 [.ref (ya1 3 1), .ref (ya1 3 2), vI (yt1 3), vI (yu1 3), vI (yr1 3)], kI cI (ya1 3 1) 8 (yc1 3), kI cI (ya1 3 2) 9 (yw1 3), kO (ya1 4 0) 5 [.ref (ya1 4 1), .ref (ya1 4 2), vI (yt1 4), vI (yu1 4), vI (yr1 4)], kI cI (ya1 4 1) 8 (yc1 4), kI cI (ya1 4 2) 9 (yw1 4), kO (ya1 5 0) 5 [.ref (ya1 5 1), .ref (ya1 5 2), vI (yt1 5), vI (yu1 5), vI (yr1 5)], kI cI (ya1 5 1) 8 (yc1 5), kI cI (ya1 5 2) 9 (yw1 5), kO s0 5 [.ref s1, .ref s2, vI ct, vI ru, vI re], kI cI s1 8 cap, kI cI s2 9 f1_4] H := hP
  have hD : va_D A [kO x0 6 [vI n, .ref s0, .ref h0, .ref l0, .ref m0, .ref p0, .ref e0, .ref w0, .ref t0, vI tl], kO h0 0 [.ref h1, vI ys1], kR cS h1 6 (kfA ya1), kO (ya1 0 0) 5 [.ref (ya1 0 1), .ref (ya1 0 2), vI (yt1 0), vI (yu1 0), vI (yr1 0)], kI cI (ya1 0 1) 8 (yc1 0), kI cI (ya1 0 2) 9 (yw1 0), kO (ya1 1 0) 5 [.ref (ya1 1 1), .ref (ya1 1 2), vI (yt1 1), vI (yu1 1), vI (yr1 1)], kI cI (ya1 1 1) 8 (yc1 1), kI cI (ya1 1 2) 9 (yw1 1), kO (ya1 2 0) 5 [.ref (ya1 2 1), .ref (ya1 2 2), vI (yt1 2), vI (yu1 2), vI (yr1 2)], kI cI (ya1 2 1) 8 (yc1 2), kI cI (ya1 2 2) 9 (yw1 2), kO (ya1 3 0) 5 [.ref (ya1 3 1), .ref (ya1 3 2), vI (yt1 3), vI (yu1 3), vI (yr1 3)], kI cI (ya1 3 1) 8 (yc1 3), kI cI (ya1 3 2) 9 (yw1 3), kO (ya1 4 0) 5 [.ref (ya1 4 1), .ref (ya1 4 2), vI (yt1 4), vI (yu1 4), vI (yr1 4)], kI cI (ya1 4 1) 8 (yc1 4), kI cI (ya1 4 2) 9 (yw1 4), kO (ya1 5 0) 5 [.ref (ya1 5 1), .ref (ya1 5 2), vI (yt1 5), vI (yu1 5), vI (yr1 5)], kI cI (ya1 5 1) 8 (yc1 5), kI cI (ya1 5 2) 9 (yw1 5), kO s0 5 [.ref s1, .ref s2, vI ct, vI ru, vI re], kI cI s1 8 cap, kI cI s2 9 f1_4] := hD
  have hz9 : 0 ≤ z_2 ∧ z_2 ≤ 1 := by
    rcases hp25 with ⟨a1, a2, a3⟩ | ⟨a, o, a1, a2, a3, a4, a5, a6, a7, a8, a9⟩
    · clear a2
      omega
    · clear a5 a7
      omega
  have hp25 : Hid _ := hp25
  subst hQ
  refine z_zret (z := z_2) hx hb hr hlocks dX6_nextArrangement_28 (by omega) (f1_4, ys1, ya1, yc1, yw1, yt1, yu1, yr1) hK hS ⟨by omega, by omega⟩ (hP.sub [0, 21, 22, 23, 1, 2, 3, 4, 5, 6, 7, 8, 9, 10, 11, 12, 13, 14, 15, 16, 17, 18, 19, 20] rfl) (hD.sub [0, 21, 22, 23, 1, 2, 3, 4, 5, 6, 7, 8, 9, 10, 11, 12, 13, 14, 15, 16, 17, 18, 19, 20] (by decide) rfl) ?_
  unfold Hid at hp25
  exact ⟨hkp, hp25⟩
