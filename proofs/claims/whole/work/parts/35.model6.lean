/-! the model: all lists, orders -/
theorem powZ_mono {n : Int} (h : 1 ≤ n ∧ n ≤ 8) (a : Nat) : ∀ b : Nat, a ≤ b → powZ n a ≤ powZ n b
  | 0, q => by rw [show a = 0 by omega]; exact Int.le_refl _
  | b + 1, q => by
    by_cases e : a = b + 1
    · rw [e]; exact Int.le_refl _
    · have h1 := powZ_mono h a b (by omega)
      have h2 := powZ_s (n := n) (i := (b : Int)) (by omega)
      have h3 := powZ_rg h b
      rw [show ((b : Int) + 1).toNat = b + 1 by omega, Int.toNat_natCast] at h2
      rw [h2]
      have h4 : powZ n b * 1 ≤ powZ n b * n := Int.mul_le_mul_of_nonneg_left h.1 (by omega)
      omega
def dgZ (n code q k : Int) : Int := code / powZ n (q - 1 - k).toNat % n
def sprZ (n code q : Int) (mr : Int → Int) (i : Int) : Int → Int := fun k => if i ≤ k ∧ k < q then dgZ n code q k else mr k
theorem sprZ_0 (n code q : Int) (mr : Int → Int) : mr = sprZ n code q mr (q - 1 + 1) := by
  funext k
  exact (if_neg (by omega)).symm
theorem sprZ_s {n code q k v : Int} {mr : Int → Int} (hk : 0 ≤ k ∧ k < q) (hv : v = dgZ n code q k) : uZ (sprZ n code q mr (k + 1)) k v = sprZ n code q mr (k - 1 + 1) := by
  funext j
  by_cases e : j = k
  · rw [e, uZ_same, hv]
    exact (if_pos (by omega)).symm
  · rw [uZ_ne e]
    unfold sprZ
    by_cases e2 : k + 1 ≤ j ∧ j < q
    · rw [if_pos e2, if_pos (by omega)]
    · rw [if_neg e2, if_neg (by omega)]
theorem div_s {n code q k : Int} (hn : 1 ≤ n ∧ n ≤ 8) (h : 0 ≤ k ∧ k < q) : code / powZ n (q - 1 - k).toNat / n = code / powZ n (q - 1 - (k - 1)).toNat := by
  have h2 := powZ_s (n := n) (i := q - 1 - k) (by omega)
  rw [show q - 1 - (k - 1) = q - 1 - k + 1 by omega, h2]
  rw [Int.ediv_ediv, if_neg (fun u => by have u1 := u.1; have := powZ_rg hn (q - 1 - k).toNat; omega), Int.sub_zero]

set_option maxHeartbeats 4000000 in
set_option maxRecDepth 100000 in
theorem c_X7_listsOf (l : Launch) (dd : va_G) (cI cJ cC cS : ClassId) (y0 v0 a0 r0 f0 g0 d0 t9 : Nat) (n sts ty th : Int) (q : Int) (sz : Nat) (hn : 1 ≤ n ∧ n ≤ 8) (hq : 0 ≤ q ∧ q ≤ 9) : gMi l yX7_listsOf wsX7_listsOf 1 0 0 dd cI cJ cC cS [.ref y0, vI q] [kO y0 7 [vI n, .ref v0, .ref a0, vI sts, .ref r0, .ref f0, .ref g0, .ref d0, .ref t9, vI ty, vI th]] sz (fun (z : Int) (_ : Unit) => ((powZ n q.toNat ≤ 50000) ∧ z = powZ n q.toNat) ∨ ((50000 < powZ n q.toNat) ∧ z = 0)) (fun (_ : Unit) => [kO y0 7 [vI n, .ref v0, .ref a0, vI sts, .ref r0, .ref f0, .ref g0, .ref d0, .ref t9, vI ty, vI th]]) := by
  refine gMi_of (cc := cX7_listsOf) (maxL := 4) (ret := (some .int)) (by decide) rfl (Nat.le_of_ble_eq_true rfl) ?_
  intro p e s m args below meth c A Q hQ hx hb hr hts hown hlocks hnm hml H locs hP hK hD hA hS ls hl
  have hi7 : ∀ w ∈ wsX70, w ∈ wsX7_listsOf := fun _ h => (List.mem_cons_of_mem _ (List.mem_append_right _ h))
  have hl : lv_has ls 4 [(0, .ref y0), (1, vI q)] := hl
  refine z_iconst hx hb dX7_listsOf_0 ?_
  refine lv_istore_n (lv' := [(2, vI 1), (0, .ref y0), (1, vI q)]) hx hb dX7_listsOf_1 rfl hl (by decide) rfl (fun ls hl => ?_)
  refine z_iconst hx hb dX7_listsOf_2 ?_
  refine lv_istore_n (lv' := [(3, vI 0), (2, vI 1), (0, .ref y0), (1, vI q)]) hx hb dX7_listsOf_3 rfl hl (by decide) rfl (fun ls hl => ?_)
  have L4 : ∀ (nn : Nat) (i : Int) (b : Int) (H : Heap) (locs : List Loc) (ls : Array Slot), ((q + 1 - i).toNat) = nn → (0 ≤ i ∧ i ≤ q) → (b = powZ n i.toNat) → (b ≤ 50000) → va_P dd vwCl [kO y0 7 [vI n, .ref v0, .ref a0, vI sts, .ref r0, .ref f0, .ref g0, .ref d0, .ref t9, vI ty, vI th]] H → va_D A [kO y0 7 [vI n, .ref v0, .ref a0, vI sts, .ref r0, .ref f0, .ref g0, .ref d0, .ref t9, vI ty, vI th]] → va_S A s.heap H locs → lv_has ls 4 [(2, vI b), (3, vI i), (0, .ref y0), (1, vI q)] → W p l e (gR 1 0 0) s m args below meth c H locs 0 0 Q (F0 m 4 ls []) := by
    intro nn
    induction nn using Nat.strongRecOn with
    | ind nn L4i =>
    intro i b H locs ls hmeas hi hbb hb5 hP hD hS hl
    refine lv_iload_n hx hb dX7_listsOf_4 rfl (lv_at hl 1 rfl) ?_
    refine lv_iload_n hx hb dX7_listsOf_5 rfl (lv_at hl 3 rfl) ?_
    refine z_icmp_ge (tgt := 30) hx hb dX7_listsOf_6 (by decide) (by omega) (fun c6 => ?_) (fun c6 => ?_)
    · skip
      refine lv_iload_n hx hb dX7_listsOf_30 rfl (lv_at hl 0 rfl) ?_
      subst hQ
      refine z_iret (z := b) hx hb hr hlocks dX7_listsOf_31 () hK hS ⟨by omega, by omega⟩ hP hD ?_
      rw [hbb, show i = q by omega] at hb5
      exact Or.inl ⟨hb5, by rw [hbb, show i = q by omega]⟩
    · skip
      have hp9 := powZ_9 hn (k := (i + 1).toNat) (by omega)
      have hps := powZ_s (n := n) (i := i) (by omega)
      have hpm := powZ_mono hn (i + 1).toNat q.toNat (by omega)
      rw [← hbb] at hps
      refine lv_iload_n hx hb dX7_listsOf_9 rfl (lv_at hl 0 rfl) ?_
      refine lv_aload_n hx hb dX7_listsOf_10 rfl (lv_at hl 2 rfl) ?_
      refine va_get (D := dd) (ci := 7) (v := vI n) (C := RX7) (T := TX7) (N := 11) hx hb hts hi7 hown hK hP 0 rfl rfl 0 (by decide) (hts _ (List.mem_cons_of_mem _ (List.mem_append_left _ (List.mem_of_getElem? (i := 0) rfl)))) (fun _ h9 => h9) rfl dX7_listsOf_11 ?_
      refine z_imul (z := (b * n)) hx hb rfl dX7_listsOf_14 ?_
      refine lv_istore_n (lv' := [(2, vI (b * n)), (3, vI i), (0, .ref y0), (1, vI q)]) hx hb dX7_listsOf_15 rfl hl (by decide) rfl (fun ls hl => ?_)
      refine lv_iload_n hx hb dX7_listsOf_16 rfl (lv_at hl 0 rfl) ?_
      refine W.ldc (own := RX7) (v := (50000)) hx hb hown (hts _ (List.mem_cons_of_mem _ (List.mem_append_left _ (List.mem_of_getElem? (i := 1) rfl)))) rfl dX7_listsOf_17 ?_
      refine z_eq (g2 := F0 m 19 ls (vI 50000 :: vI (b * n) :: [])) rfl ?_
      refine z_icmp_le (tgt := 24) hx hb dX7_listsOf_19 (by decide) (by omega) (fun c19 => ?_) (fun c19 => ?_)
      · skip
        refine z_iinc (a := i) (z := (i + 1)) (lv' := [(3, vI (i + 1)), (2, vI (b * n)), (0, .ref y0), (1, vI q)]) hx hb dX7_listsOf_24 hl (k := 1) rfl rfl (by decide) rfl (fun ls hl => ?_)
        refine lv_goto (tgt := 4) hx hb dX7_listsOf_27 (by decide) ?_
        exact L4i _ (by omega) (i + 1) (b * n) H locs ls rfl (by omega) (by rw [powZ_s (by omega), hbb]) (by omega) hP hD hS (lv_sub hl [1, 0, 2, 3] rfl)
      · skip
        refine z_iconst hx hb dX7_listsOf_22 ?_
        subst hQ
        refine z_iret (z := 0) hx hb hr hlocks dX7_listsOf_23 () hK hS ⟨by omega, by omega⟩ hP hD ?_
        exact Or.inr ⟨by omega, rfl⟩
  exact L4 _ 0 1 H locs ls rfl (by omega) (rfl) (by omega) hP hD hS (lv_sub hl [1, 0, 2, 3] rfl)

set_option maxHeartbeats 4000000 in
set_option maxRecDepth 100000 in
theorem c_X7_spreads (l : Launch) (dd : va_G) (cI cJ cC cS : ClassId) (y0 v0 a0 r0 f0 g0 d0 t9 : Nat) (n sts ty th : Int) (mr : Int → Int) (code q : Int) (sz : Nat) (hn : 1 ≤ n ∧ n ≤ 8) (hq : 0 ≤ q ∧ q ≤ 9) (hco : 0 ≤ code ∧ code < 2147483648) : gMv l yX7_spreads wsX7_spreads 1 0 0 dd cI cJ cC cS [.ref y0, vI code, vI q] [kO y0 7 [vI n, .ref v0, .ref a0, vI sts, .ref r0, .ref f0, .ref g0, .ref d0, .ref t9, vI ty, vI th], kI cI r0 9 mr] sz (fun (_ : Unit) => True) (fun (_ : Unit) => [kO y0 7 [vI n, .ref v0, .ref a0, vI sts, .ref r0, .ref f0, .ref g0, .ref d0, .ref t9, vI ty, vI th], kI cI r0 9 (sprZ n code q mr 0)]) := by
  refine gMv_of (cc := cX7_spreads) (maxL := 5) (ret := none) (by decide) rfl (Nat.le_of_ble_eq_true rfl) ?_
  intro p e s m args below meth c A Q hQ hx hb hr hts hown hlocks hnm hml H locs hP hK hD hA hS ls hl
  have hi7 : ∀ w ∈ wsX70, w ∈ wsX7_spreads := fun _ h => (List.mem_cons_of_mem _ (List.mem_append_right _ h))
  have hl : lv_has ls 5 [(0, .ref y0), (1, vI code), (2, vI q)] := hl
  refine lv_iload_n hx hb dX7_spreads_0 rfl (lv_at hl 1 rfl) ?_
  refine lv_istore_n (lv' := [(3, vI code), (0, .ref y0), (1, vI code), (2, vI q)]) hx hb dX7_spreads_1 rfl hl (by decide) rfl (fun ls hl => ?_)
  refine lv_iload_n hx hb dX7_spreads_2 rfl (lv_at hl 3 rfl) ?_
  refine z_iconst hx hb dX7_spreads_3 ?_
  refine z_isub (z := (q - 1)) hx hb rfl dX7_spreads_4 ?_
  refine lv_istore (lv' := [(4, vI (q - 1)), (3, vI code), (0, .ref y0), (1, vI code), (2, vI q)]) hx hb dX7_spreads_5 hl (by decide) rfl (fun ls hl => ?_)
  have L7 : ∀ (nn : Nat) (k : Int) (b : Int) (H : Heap) (locs : List Loc) (ls : Array Slot), ((k + 1).toNat) = nn → (-1 ≤ k ∧ k ≤ q - 1) → (b = code / powZ n (q - 1 - k).toNat) → (0 ≤ b ∧ b < 2147483648) → va_P dd vwCl [kO y0 7 [vI n, .ref v0, .ref a0, vI sts, .ref r0, .ref f0, .ref g0, .ref d0, .ref t9, vI ty, vI th], kI cI r0 9 (sprZ n code q mr (k + 1))] H → va_D A [kO y0 7 [vI n, .ref v0, .ref a0, vI sts, .ref r0, .ref f0, .ref g0, .ref d0, .ref t9, vI ty, vI th], kI cI r0 9 (sprZ n code q mr (k + 1))] → va_S A s.heap H locs → lv_has ls 5 [(3, vI b), (4, vI k), (0, .ref y0), (1, vI code), (2, vI q)] → W p l e (gR 1 0 0) s m args below meth c H locs 0 0 Q (F0 m 7 ls []) := by
    intro nn
    induction nn using Nat.strongRecOn with
    | ind nn L7i =>
    intro k b H locs ls hmeas hk hbb hbr hP hD hS hl
    refine lv_iload hx hb dX7_spreads_7 (lv_at hl 1 rfl) ?_
    refine z_if_lt (tgt := 38) hx hb dX7_spreads_9 (by decide) (by omega) (fun c9 => ?_) (fun c9 => ?_)
    · skip
      have ec_1 : kI cI r0 9 (sprZ n code q mr (k + 1)) = kI cI r0 9 (sprZ n code q mr 0) := kI_congr (by rw [show k + 1 = 0 by omega])
      rw [ec_1] at hP hD
      subst hQ
      refine z_vret hx hb hr hlocks dX7_spreads_38 () hK hS ⟨by omega, by omega⟩ hP hD ?_
      first | rfl | trivial | omega
    · skip
      refine lv_aload_n hx hb dX7_spreads_12 rfl (lv_at hl 2 rfl) ?_
      refine va_get (D := dd) (ci := 7) (v := .ref r0) (C := RX7) (T := TX7) (N := 11) hx hb hts hi7 hown hK hP 0 rfl rfl 4 (by decide) (hts _ (List.mem_cons_of_mem _ (List.mem_append_left _ (List.mem_of_getElem? (i := 0) rfl)))) (fun _ h9 => h9) rfl dX7_spreads_13 ?_
      refine lv_iload hx hb dX7_spreads_16 (lv_at hl 1 rfl) ?_
      refine lv_iload_n hx hb dX7_spreads_18 rfl (lv_at hl 0 rfl) ?_
      refine lv_aload_n hx hb dX7_spreads_19 rfl (lv_at hl 2 rfl) ?_
      refine va_get (D := dd) (ci := 7) (v := vI n) (C := RX7) (T := TX7) (N := 11) hx hb hts hi7 hown hK hP 0 rfl rfl 0 (by decide) (hts _ (List.mem_cons_of_mem _ (List.mem_append_left _ (List.mem_of_getElem? (i := 1) rfl)))) (fun _ h9 => h9) rfl dX7_spreads_20 ?_
      refine z_irem (z := (b % n)) hx hb (by omega) (Int.tmod_eq_emod_of_nonneg (by omega)) dX7_spreads_23 ?_
      refine z_iast (ws' := [kO y0 7 [vI n, .ref v0, .ref a0, vI sts, .ref r0, .ref f0, .ref g0, .ref d0, .ref t9, vI ty, vI th], kI cI r0 9 (uZ (sprZ n code q mr (k + 1)) k (b % n))]) hx hb hK hP hD hS 1 0 rfl rfl (i := k) (x := (b % n)) (by omega) (by decide) dX7_spreads_24 rfl (fun H locs hP hD hS => ?_)
      refine lv_iload_n hx hb dX7_spreads_25 rfl (lv_at hl 0 rfl) ?_
      refine lv_aload_n hx hb dX7_spreads_26 rfl (lv_at hl 2 rfl) ?_
      refine va_get (D := dd) (ci := 7) (v := vI n) (C := RX7) (T := TX7) (N := 11) hx hb hts hi7 hown hK hP 0 rfl rfl 0 (by decide) (hts _ (List.mem_cons_of_mem _ (List.mem_append_left _ (List.mem_of_getElem? (i := 1) rfl)))) (fun _ h9 => h9) rfl dX7_spreads_27 ?_
      refine z_idiv (z := (b / n)) hx hb (by omega) (Int.tdiv_eq_ediv_of_nonneg (by omega)) dX7_spreads_30 ?_
      refine lv_istore_n (lv' := [(3, vI (b / n)), (4, vI k), (0, .ref y0), (1, vI code), (2, vI q)]) hx hb dX7_spreads_31 rfl hl (by decide) rfl (fun ls hl => ?_)
      refine z_iinc (a := k) (z := (k - 1)) (lv' := [(4, vI (k - 1)), (3, vI (b / n)), (0, .ref y0), (1, vI code), (2, vI q)]) hx hb dX7_spreads_32 hl (k := 1) rfl (by omega) (by decide) rfl (fun ls hl => ?_)
      refine lv_goto (tgt := 7) hx hb dX7_spreads_35 (by decide) ?_
      have el_2 : kI cI r0 9 (uZ (sprZ n code q mr (k + 1)) k (b % n)) = kI cI r0 9 (sprZ n code q mr ((k - 1) + 1)) := kI_congr (congrArg aZ (sprZ_s (by omega) (by rw [hbb]; rfl)))
      rw [el_2] at hP hD
      exact L7i _ (by omega) (k - 1) (b / n) H locs ls rfl (by omega) (by rw [hbb]; exact div_s hn (by omega)) (⟨Int.ediv_nonneg (by omega) (by omega), Int.lt_of_le_of_lt (Int.ediv_le_self _ (by omega)) hbr.2⟩) hP hD hS (lv_sub hl [1, 0, 2, 3, 4] rfl)
  have el_3 : kI cI r0 9 mr = kI cI r0 9 (sprZ n code q mr ((q - 1) + 1)) := kI_congr (congrArg aZ (sprZ_0 n code q mr))
  rw [el_3] at hP hD
  exact L7 _ (q - 1) code H locs ls rfl (by omega) (by rw [show (q - 1 - (q - 1)).toNat = 0 by omega]; exact (Int.ediv_one _).symm) (by omega) hP hD hS (lv_sub hl [1, 0, 2, 3, 4] rfl)

set_option maxHeartbeats 4000000 in
set_option maxRecDepth 100000 in
theorem c_X7_goesOn (l : Launch) (dd : va_G) (cI cJ cC cS : ClassId) (y0 v0 a0 r0 f0 g0 d0 t9 : Nat) (n sts ty th : Int) (f : Int → Int) (ct : Int) (sz : Nat) (hct : 0 ≤ ct ∧ ct ≤ 9) (hff : ∀ j : Int, 0 ≤ j → j < ct → 0 ≤ f j ∧ f j ≤ 8) : gMi l yX7_goesOn wsX7_goesOn 2 0 0 dd cI cJ cC cS [.ref y0, vI ct] [kO y0 7 [vI n, .ref v0, .ref a0, vI sts, .ref r0, .ref f0, .ref g0, .ref d0, .ref t9, vI ty, vI th], kI cI r0 9 f] sz (fun (z : Int) (f1 : Int → Int) => ((z = 0 ∧ (∀ j : Int, 0 ≤ j → j + 1 < ct → f (j + 1) ≤ f j) ∧ f1 = rvZ f 0 (ct - 1)) ∨ (∃ p o : Int, 0 ≤ p ∧ p < o ∧ o < ct ∧ f p < f (p + 1) ∧ (∀ j : Int, p < j → j + 1 < ct → f (j + 1) ≤ f j) ∧ f p < f o ∧ (∀ q : Int, o < q → q < ct → f q ≤ f p) ∧ z = 1 ∧ f1 = rvZ (swZ f p o) (p + 1) (ct - 1)))) (fun (f1 : Int → Int) => [kO y0 7 [vI n, .ref v0, .ref a0, vI sts, .ref r0, .ref f0, .ref g0, .ref d0, .ref t9, vI ty, vI th], kI cI r0 9 f1]) := by
  refine gMi_of (cc := cX7_goesOn) (maxL := 5) (ret := (some .boolean)) (by decide) rfl (Nat.le_of_ble_eq_true rfl) ?_
  intro p e s m args below meth c A Q hQ hx hb hr hts hown hlocks hnm hml H locs hP hK hD hA hS ls hl
  have hi7 : ∀ w ∈ wsX70, w ∈ wsX7_goesOn := fun _ h => (List.mem_cons_of_mem _ (List.mem_append_right _ h))
  have hl : lv_has ls 5 [(0, .ref y0), (1, vI ct)] := hl
  refine lv_iload_n hx hb dX7_goesOn_0 rfl (lv_at hl 1 rfl) ?_
  refine z_iconst hx hb dX7_goesOn_1 ?_
  refine z_isub (z := (ct - 2)) hx hb rfl dX7_goesOn_2 ?_
  refine lv_istore_n (lv' := [(2, vI (ct - 2)), (0, .ref y0), (1, vI ct)]) hx hb dX7_goesOn_3 rfl hl (by decide) rfl (fun ls hl => ?_)
  have L4 : ∀ (nn : Nat) (pi : Int) (H : Heap) (locs : List Loc) (ls : Array Slot), ((pi + 2).toNat) = nn → (-2 ≤ pi ∧ pi ≤ ct - 2 ∧ (-1 ≤ pi ∨ ct = 0)) → (∀ j : Int, pi < j → 0 ≤ j → j + 1 < ct → f (j + 1) ≤ f j) → va_P dd vwCl [kO y0 7 [vI n, .ref v0, .ref a0, vI sts, .ref r0, .ref f0, .ref g0, .ref d0, .ref t9, vI ty, vI th], kI cI r0 9 f] H → va_D A [kO y0 7 [vI n, .ref v0, .ref a0, vI sts, .ref r0, .ref f0, .ref g0, .ref d0, .ref t9, vI ty, vI th], kI cI r0 9 f] → va_S A s.heap H locs → lv_has ls 5 [(2, vI pi), (0, .ref y0), (1, vI ct)] → W p l e (gR 2 0 0) s m args below meth c H locs 0 0 Q (F0 m 4 ls []) := by
    intro nn
    induction nn using Nat.strongRecOn with
    | ind nn L4i =>
    intro pi H locs ls hmeas hpi hde hP hD hS hl
    refine lv_iload_n hx hb dX7_goesOn_4 rfl (lv_at hl 0 rfl) ?_
    refine z_if_lt (tgt := 31) hx hb dX7_goesOn_5 (by decide) (by omega) (fun c5 => ?_) (fun c5 => ?_)
    · skip
      refine lv_iload_n hx hb dX7_goesOn_31 rfl (lv_at hl 0 rfl) ?_
      refine z_if_lt (tgt := 66) hx hb dX7_goesOn_32 (by decide) (by omega) (fun c32 => ?_) (fun c32 => ?_)
      · skip
        refine lv_iload_n hx hb dX7_goesOn_66 rfl (lv_at hl 0 rfl) ?_
        refine z_iconst hx hb dX7_goesOn_67 ?_
        refine z_iadd (z := (pi + 1)) hx hb rfl dX7_goesOn_68 ?_
        refine lv_istore_n (lv' := [(3, vI (pi + 1)), (2, vI pi), (0, .ref y0), (1, vI ct)]) hx hb dX7_goesOn_69 rfl hl (by decide) rfl (fun ls hl => ?_)
        refine lv_iload_n hx hb dX7_goesOn_70 rfl (lv_at hl 3 rfl) ?_
        refine z_iconst hx hb dX7_goesOn_71 ?_
        refine z_isub (z := (ct - 1)) hx hb rfl dX7_goesOn_72 ?_
        refine lv_istore (lv' := [(4, vI (ct - 1)), (3, vI (pi + 1)), (2, vI pi), (0, .ref y0), (1, vI ct)]) hx hb dX7_goesOn_73 hl (by decide) rfl (fun ls hl => ?_)
        have L75 : ∀ (nn : Nat) (lo : Int) (hi : Int) (H : Heap) (locs : List Loc) (ls : Array Slot), ((hi + 1 - lo).toNat) = nn → (pi + 1 ≤ lo ∧ hi ≤ ct - 1 ∧ lo ≤ hi + 1 ∧ lo + hi = pi + 1 + (ct - 1)) → va_P dd vwCl [kO y0 7 [vI n, .ref v0, .ref a0, vI sts, .ref r0, .ref f0, .ref g0, .ref d0, .ref t9, vI ty, vI th], kI cI r0 9 (rvP f (pi + 1) (ct - 1) lo hi)] H → va_D A [kO y0 7 [vI n, .ref v0, .ref a0, vI sts, .ref r0, .ref f0, .ref g0, .ref d0, .ref t9, vI ty, vI th], kI cI r0 9 (rvP f (pi + 1) (ct - 1) lo hi)] → va_S A s.heap H locs → lv_has ls 5 [(3, vI lo), (4, vI hi), (2, vI pi), (0, .ref y0), (1, vI ct)] → W p l e (gR 2 0 0) s m args below meth c H locs 0 0 Q (F0 m 75 ls []) := by
          intro nn
          induction nn using Nat.strongRecOn with
          | ind nn L75i =>
          intro lo hi H locs ls hmeas hlh hP hD hS hl
          refine lv_iload_n hx hb dX7_goesOn_75 rfl (lv_at hl 0 rfl) ?_
          refine lv_iload hx hb dX7_goesOn_76 (lv_at hl 1 rfl) ?_
          refine z_icmp_ge (tgt := 97) hx hb dX7_goesOn_78 (by decide) (by omega) (fun c78 => ?_) (fun c78 => ?_)
          · skip
            refine lv_iload_n hx hb dX7_goesOn_97 rfl (lv_at hl 2 rfl) ?_
            refine z_if_lt (tgt := 105) hx hb dX7_goesOn_98 (by decide) (by omega) (fun c98 => ?_) (fun c98 => ?_)
            · skip
              refine z_iconst hx hb dX7_goesOn_105 ?_
              subst hQ
              refine z_zret (z := 0) hx hb hr hlocks dX7_goesOn_106 (by omega) (rvP f (pi + 1) (ct - 1) lo hi) hK hS ⟨by omega, by omega⟩ hP hD ?_
              first
              | (exfalso; omega)
              | (exact Or.inr ⟨pi, o, by omega, by omega, by omega, by omega, fun j h0 h1 => hde j h0 (by omega) h1, by omega, hgr, rfl, rvP_end (by omega)⟩)
              | (refine Or.inl ⟨rfl, fun j h0 h1 => hde j (by omega) h0 h1, ?_⟩
                 rw [rvP_end (by omega)]
                 funext k
                 unfold rvZ
                 by_cases q : pi + 1 ≤ k ∧ k ≤ ct - 1
                 · by_cases q2 : pi = -1
                   · rw [q2]
                     rfl
                   · rw [if_pos q, if_neg (by omega), show pi + 1 + (ct - 1) - k = k by omega]
                 · rw [if_neg q, if_neg (by omega)])
            · skip
              refine z_iconst hx hb dX7_goesOn_101 ?_
              refine lv_goto (tgt := 106) hx hb dX7_goesOn_102 (by decide) ?_
              subst hQ
              refine z_zret (z := 1) hx hb hr hlocks dX7_goesOn_106 (by omega) (rvP f (pi + 1) (ct - 1) lo hi) hK hS ⟨by omega, by omega⟩ hP hD ?_
              first
              | (exfalso; omega)
              | (exact Or.inr ⟨pi, o, by omega, by omega, by omega, by omega, fun j h0 h1 => hde j h0 (by omega) h1, by omega, hgr, rfl, rvP_end (by omega)⟩)
              | (refine Or.inl ⟨rfl, fun j h0 h1 => hde j (by omega) h0 h1, ?_⟩
                 rw [rvP_end (by omega)]
                 funext k
                 unfold rvZ
                 by_cases q : pi + 1 ≤ k ∧ k ≤ ct - 1
                 · by_cases q2 : pi = -1
                   · rw [q2]
                     rfl
                   · rw [if_pos q, if_neg (by omega), show pi + 1 + (ct - 1) - k = k by omega]
                 · rw [if_neg q, if_neg (by omega)])
          · skip
            refine lv_aload_n hx hb dX7_goesOn_81 rfl (lv_at hl 3 rfl) ?_
            refine lv_iload_n hx hb dX7_goesOn_82 rfl (lv_at hl 0 rfl) ?_
            refine lv_iload hx hb dX7_goesOn_83 (lv_at hl 1 rfl) ?_
            refine g_callVv (own := RX7) (n := 2) (mc := 0) (ms := 0) (As := [vI lo, vI hi]) (rest := []) (wc := [kO y0 7 [vI n, .ref v0, .ref a0, vI sts, .ref r0, .ref f0, .ref g0, .ref d0, .ref t9, vI ty, vI th], kI cI r0 9 (rvP f (pi + 1) (ct - 1) lo hi)]) (wr := []) hx hb hml hown hts hK hP hD hS hA [0, 1] [] rfl rfl (by decide) (by decide) 7 0 rfl rfl (c_X7_swaps l dd cI cJ cC cS y0 v0 a0 r0 f0 g0 d0 t9 n sts ty th (rvP f (pi + 1) (ct - 1) lo hi) lo hi H.size  (by first | assumption | omega) (by first | assumption | omega)) gX7_goesOn_X7_swaps rfl (by decide +kernel) (by decide) (by decide) (by decide) (by decide) rfl hl.1 rfl (Nat.le_of_ble_eq_true rfl) dX7_goesOn_85 (fun u_1 H locs hp85 hP hD hS => ?_)
            have hP : va_P dd vwCl [kO y0 7 [vI n, .ref v0, .ref a0, vI sts, .ref r0, .ref f0, .ref g0, .ref d0, .ref t9, vI ty, vI th], kI cI r0 9 (swZ (rvP f (pi + 1) (ct - 1) lo hi) lo hi)] H := hP
            have hD : va_D A [kO y0 7 [vI n, .ref v0, .ref a0, vI sts, .ref r0, .ref f0, .ref g0, .ref d0, .ref t9, vI ty, vI th], kI cI r0 9 (swZ (rvP f (pi + 1) (ct - 1) lo hi) lo hi)] := hD
            refine z_iinc (a := hi) (z := (hi - 1)) (lv' := [(4, vI (hi - 1)), (3, vI lo), (2, vI pi), (0, .ref y0), (1, vI ct)]) hx hb dX7_goesOn_88 hl (k := 1) rfl (by omega) (by decide) rfl (fun ls hl => ?_)
            refine z_iinc (a := lo) (z := (lo + 1)) (lv' := [(3, vI (lo + 1)), (4, vI (hi - 1)), (2, vI pi), (0, .ref y0), (1, vI ct)]) hx hb dX7_goesOn_91 hl (k := 1) rfl rfl (by decide) rfl (fun ls hl => ?_)
            refine lv_goto (tgt := 75) hx hb dX7_goesOn_94 (by decide) ?_
            have el_2 : kI cI r0 9 (swZ (rvP f (pi + 1) (ct - 1) lo hi) lo hi) = kI cI r0 9 (rvP f (pi + 1) (ct - 1) (lo + 1) (hi - 1)) := kI_congr (congrArg aZ (by first | exact rvP_0 _ _ _ | exact rvP_s (by omega)))
            rw [el_2] at hP hD
            exact L75i _ (by omega) (lo + 1) (hi - 1) H locs ls rfl (by omega) hP hD hS hl
        have el_3 : kI cI r0 9 f = kI cI r0 9 (rvP f (pi + 1) (ct - 1) (pi + 1) (ct - 1)) := kI_congr (congrArg aZ (by first | exact rvP_0 _ _ _ | exact rvP_s (by omega)))
        rw [el_3] at hP hD
        exact L75 _ (pi + 1) (ct - 1) H locs ls rfl (by omega) hP hD hS (lv_sub hl [1, 0, 2, 3, 4] rfl)
      · skip
        refine lv_iload_n hx hb dX7_goesOn_35 rfl (lv_at hl 2 rfl) ?_
        refine z_iconst hx hb dX7_goesOn_36 ?_
        refine z_isub (z := (ct - 1)) hx hb rfl dX7_goesOn_37 ?_
        refine lv_istore_n (lv' := [(3, vI (ct - 1)), (2, vI pi), (0, .ref y0), (1, vI ct)]) hx hb dX7_goesOn_38 rfl hl (by decide) rfl (fun ls hl => ?_)
        have L39 : ∀ (nn : Nat) (o : Int) (H : Heap) (locs : List Loc) (ls : Array Slot), ((o + 2).toNat) = nn → (0 ≤ pi ∧ pi < o ∧ o ≤ ct - 1) → (∀ q : Int, o < q → q < ct → f q ≤ f pi) → va_P dd vwCl [kO y0 7 [vI n, .ref v0, .ref a0, vI sts, .ref r0, .ref f0, .ref g0, .ref d0, .ref t9, vI ty, vI th], kI cI r0 9 f] H → va_D A [kO y0 7 [vI n, .ref v0, .ref a0, vI sts, .ref r0, .ref f0, .ref g0, .ref d0, .ref t9, vI ty, vI th], kI cI r0 9 f] → va_S A s.heap H locs → lv_has ls 5 [(3, vI o), (2, vI pi), (0, .ref y0), (1, vI ct)] → W p l e (gR 2 0 0) s m args below meth c H locs 0 0 Q (F0 m 39 ls []) := by
          intro nn
          induction nn using Nat.strongRecOn with
          | ind nn L39i =>
          intro o H locs ls hmeas ho hgr hP hD hS hl
          refine lv_aload_n hx hb dX7_goesOn_39 rfl (lv_at hl 2 rfl) ?_
          refine va_get (D := dd) (ci := 7) (v := .ref r0) (C := RX7) (T := TX7) (N := 11) hx hb hts hi7 hown hK hP 0 rfl rfl 4 (by decide) (hts _ (List.mem_cons_of_mem _ (List.mem_append_left _ (List.mem_of_getElem? (i := 0) rfl)))) (fun _ h9 => h9) rfl dX7_goesOn_40 ?_
          refine lv_iload_n hx hb dX7_goesOn_43 rfl (lv_at hl 0 rfl) ?_
          refine z_iald hx hb hK hP 1 0 rfl rfl (i := o) (by omega) (by decide) dX7_goesOn_44 ?_
          have f_4 := hff o (by omega) (by omega)
          refine lv_aload_n hx hb dX7_goesOn_45 rfl (lv_at hl 2 rfl) ?_
          refine va_get (D := dd) (ci := 7) (v := .ref r0) (C := RX7) (T := TX7) (N := 11) hx hb hts hi7 hown hK hP 0 rfl rfl 4 (by decide) (hts _ (List.mem_cons_of_mem _ (List.mem_append_left _ (List.mem_of_getElem? (i := 0) rfl)))) (fun _ h9 => h9) rfl dX7_goesOn_46 ?_
          refine lv_iload_n hx hb dX7_goesOn_49 rfl (lv_at hl 1 rfl) ?_
          refine z_iald hx hb hK hP 1 0 rfl rfl (i := pi) (by omega) (by decide) dX7_goesOn_50 ?_
          have f_5 := hff pi (by omega) (by omega)
          refine z_icmp_gt (tgt := 60) hx hb dX7_goesOn_51 (by decide) (by omega) (fun c51 => ?_) (fun c51 => ?_)
          · skip
            refine lv_aload_n hx hb dX7_goesOn_60 rfl (lv_at hl 2 rfl) ?_
            refine lv_iload_n hx hb dX7_goesOn_61 rfl (lv_at hl 1 rfl) ?_
            refine lv_iload_n hx hb dX7_goesOn_62 rfl (lv_at hl 0 rfl) ?_
            refine g_callVv (own := RX7) (n := 2) (mc := 0) (ms := 0) (As := [vI pi, vI o]) (rest := []) (wc := [kO y0 7 [vI n, .ref v0, .ref a0, vI sts, .ref r0, .ref f0, .ref g0, .ref d0, .ref t9, vI ty, vI th], kI cI r0 9 f]) (wr := []) hx hb hml hown hts hK hP hD hS hA [0, 1] [] rfl rfl (by decide) (by decide) 7 0 rfl rfl (c_X7_swaps l dd cI cJ cC cS y0 v0 a0 r0 f0 g0 d0 t9 n sts ty th f pi o H.size  (by first | assumption | omega) (by first | assumption | omega)) gX7_goesOn_X7_swaps rfl (by decide +kernel) (by decide) (by decide) (by decide) (by decide) rfl hl.1 rfl (Nat.le_of_ble_eq_true rfl) dX7_goesOn_63 (fun u_6 H locs hp63 hP hD hS => ?_)
            have hP : va_P dd vwCl [kO y0 7 [vI n, .ref v0, .ref a0, vI sts, .ref r0, .ref f0, .ref g0, .ref d0, .ref t9, vI ty, vI th], kI cI r0 9 (swZ f pi o)] H := hP
            have hD : va_D A [kO y0 7 [vI n, .ref v0, .ref a0, vI sts, .ref r0, .ref f0, .ref g0, .ref d0, .ref t9, vI ty, vI th], kI cI r0 9 (swZ f pi o)] := hD
            refine lv_iload_n hx hb dX7_goesOn_66 rfl (lv_at hl 1 rfl) ?_
            refine z_iconst hx hb dX7_goesOn_67 ?_
            refine z_iadd (z := (pi + 1)) hx hb rfl dX7_goesOn_68 ?_
            refine lv_istore_n (lv' := [(3, vI (pi + 1)), (2, vI pi), (0, .ref y0), (1, vI ct)]) hx hb dX7_goesOn_69 rfl hl (by decide) rfl (fun ls hl => ?_)
            refine lv_iload_n hx hb dX7_goesOn_70 rfl (lv_at hl 3 rfl) ?_
            refine z_iconst hx hb dX7_goesOn_71 ?_
            refine z_isub (z := (ct - 1)) hx hb rfl dX7_goesOn_72 ?_
            refine lv_istore (lv' := [(4, vI (ct - 1)), (3, vI (pi + 1)), (2, vI pi), (0, .ref y0), (1, vI ct)]) hx hb dX7_goesOn_73 hl (by decide) rfl (fun ls hl => ?_)
            have L75 : ∀ (nn : Nat) (lo : Int) (hi : Int) (H : Heap) (locs : List Loc) (ls : Array Slot), ((hi + 1 - lo).toNat) = nn → (pi + 1 ≤ lo ∧ hi ≤ ct - 1 ∧ lo ≤ hi + 1 ∧ lo + hi = pi + 1 + (ct - 1)) → va_P dd vwCl [kO y0 7 [vI n, .ref v0, .ref a0, vI sts, .ref r0, .ref f0, .ref g0, .ref d0, .ref t9, vI ty, vI th], kI cI r0 9 (rvP (swZ f pi o) (pi + 1) (ct - 1) lo hi)] H → va_D A [kO y0 7 [vI n, .ref v0, .ref a0, vI sts, .ref r0, .ref f0, .ref g0, .ref d0, .ref t9, vI ty, vI th], kI cI r0 9 (rvP (swZ f pi o) (pi + 1) (ct - 1) lo hi)] → va_S A s.heap H locs → lv_has ls 5 [(3, vI lo), (4, vI hi), (2, vI pi), (0, .ref y0), (1, vI ct)] → W p l e (gR 2 0 0) s m args below meth c H locs 0 0 Q (F0 m 75 ls []) := by
              intro nn
              induction nn using Nat.strongRecOn with
              | ind nn L75i =>
              intro lo hi H locs ls hmeas hlh hP hD hS hl
              refine lv_iload_n hx hb dX7_goesOn_75 rfl (lv_at hl 0 rfl) ?_
              refine lv_iload hx hb dX7_goesOn_76 (lv_at hl 1 rfl) ?_
              refine z_icmp_ge (tgt := 97) hx hb dX7_goesOn_78 (by decide) (by omega) (fun c78 => ?_) (fun c78 => ?_)
              · skip
                refine lv_iload_n hx hb dX7_goesOn_97 rfl (lv_at hl 2 rfl) ?_
                refine z_if_lt (tgt := 105) hx hb dX7_goesOn_98 (by decide) (by omega) (fun c98 => ?_) (fun c98 => ?_)
                · skip
                  refine z_iconst hx hb dX7_goesOn_105 ?_
                  subst hQ
                  refine z_zret (z := 0) hx hb hr hlocks dX7_goesOn_106 (by omega) (rvP (swZ f pi o) (pi + 1) (ct - 1) lo hi) hK hS ⟨by omega, by omega⟩ hP hD ?_
                  first
                  | (exfalso; omega)
                  | (exact Or.inr ⟨pi, o, by omega, by omega, by omega, by omega, fun j h0 h1 => hde j h0 (by omega) h1, by omega, hgr, rfl, rvP_end (by omega)⟩)
                  | (refine Or.inl ⟨rfl, fun j h0 h1 => hde j (by omega) h0 h1, ?_⟩
                     rw [rvP_end (by omega)]
                     funext k
                     unfold rvZ
                     by_cases q : pi + 1 ≤ k ∧ k ≤ ct - 1
                     · by_cases q2 : pi = -1
                       · rw [q2]
                         rfl
                       · rw [if_pos q, if_neg (by omega), show pi + 1 + (ct - 1) - k = k by omega]
                     · rw [if_neg q, if_neg (by omega)])
                · skip
                  refine z_iconst hx hb dX7_goesOn_101 ?_
                  refine lv_goto (tgt := 106) hx hb dX7_goesOn_102 (by decide) ?_
                  subst hQ
                  refine z_zret (z := 1) hx hb hr hlocks dX7_goesOn_106 (by omega) (rvP (swZ f pi o) (pi + 1) (ct - 1) lo hi) hK hS ⟨by omega, by omega⟩ hP hD ?_
                  first
                  | (exfalso; omega)
                  | (exact Or.inr ⟨pi, o, by omega, by omega, by omega, by omega, fun j h0 h1 => hde j h0 (by omega) h1, by omega, hgr, rfl, rvP_end (by omega)⟩)
                  | (refine Or.inl ⟨rfl, fun j h0 h1 => hde j (by omega) h0 h1, ?_⟩
                     rw [rvP_end (by omega)]
                     funext k
                     unfold rvZ
                     by_cases q : pi + 1 ≤ k ∧ k ≤ ct - 1
                     · by_cases q2 : pi = -1
                       · rw [q2]
                         rfl
                       · rw [if_pos q, if_neg (by omega), show pi + 1 + (ct - 1) - k = k by omega]
                     · rw [if_neg q, if_neg (by omega)])
              · skip
                refine lv_aload_n hx hb dX7_goesOn_81 rfl (lv_at hl 3 rfl) ?_
                refine lv_iload_n hx hb dX7_goesOn_82 rfl (lv_at hl 0 rfl) ?_
                refine lv_iload hx hb dX7_goesOn_83 (lv_at hl 1 rfl) ?_
                refine g_callVv (own := RX7) (n := 2) (mc := 0) (ms := 0) (As := [vI lo, vI hi]) (rest := []) (wc := [kO y0 7 [vI n, .ref v0, .ref a0, vI sts, .ref r0, .ref f0, .ref g0, .ref d0, .ref t9, vI ty, vI th], kI cI r0 9 (rvP (swZ f pi o) (pi + 1) (ct - 1) lo hi)]) (wr := []) hx hb hml hown hts hK hP hD hS hA [0, 1] [] rfl rfl (by decide) (by decide) 7 0 rfl rfl (c_X7_swaps l dd cI cJ cC cS y0 v0 a0 r0 f0 g0 d0 t9 n sts ty th (rvP (swZ f pi o) (pi + 1) (ct - 1) lo hi) lo hi H.size  (by first | assumption | omega) (by first | assumption | omega)) gX7_goesOn_X7_swaps rfl (by decide +kernel) (by decide) (by decide) (by decide) (by decide) rfl hl.1 rfl (Nat.le_of_ble_eq_true rfl) dX7_goesOn_85 (fun u_7 H locs hp85_8 hP hD hS => ?_)
                have hP : va_P dd vwCl [kO y0 7 [vI n, .ref v0, .ref a0, vI sts, .ref r0, .ref f0, .ref g0, .ref d0, .ref t9, vI ty, vI th], kI cI r0 9 (swZ (rvP (swZ f pi o) (pi + 1) (ct - 1) lo hi) lo hi)] H := hP
                have hD : va_D A [kO y0 7 [vI n, .ref v0, .ref a0, vI sts, .ref r0, .ref f0, .ref g0, .ref d0, .ref t9, vI ty, vI th], kI cI r0 9 (swZ (rvP (swZ f pi o) (pi + 1) (ct - 1) lo hi) lo hi)] := hD
                refine z_iinc (a := hi) (z := (hi - 1)) (lv' := [(4, vI (hi - 1)), (3, vI lo), (2, vI pi), (0, .ref y0), (1, vI ct)]) hx hb dX7_goesOn_88 hl (k := 1) rfl (by omega) (by decide) rfl (fun ls hl => ?_)
                refine z_iinc (a := lo) (z := (lo + 1)) (lv' := [(3, vI (lo + 1)), (4, vI (hi - 1)), (2, vI pi), (0, .ref y0), (1, vI ct)]) hx hb dX7_goesOn_91 hl (k := 1) rfl rfl (by decide) rfl (fun ls hl => ?_)
                refine lv_goto (tgt := 75) hx hb dX7_goesOn_94 (by decide) ?_
                have el_9 : kI cI r0 9 (swZ (rvP (swZ f pi o) (pi + 1) (ct - 1) lo hi) lo hi) = kI cI r0 9 (rvP (swZ f pi o) (pi + 1) (ct - 1) (lo + 1) (hi - 1)) := kI_congr (congrArg aZ (by first | exact rvP_0 _ _ _ | exact rvP_s (by omega)))
                rw [el_9] at hP hD
                exact L75i _ (by omega) (lo + 1) (hi - 1) H locs ls rfl (by omega) hP hD hS hl
            have el_10 : kI cI r0 9 (swZ f pi o) = kI cI r0 9 (rvP (swZ f pi o) (pi + 1) (ct - 1) (pi + 1) (ct - 1)) := kI_congr (congrArg aZ (by first | exact rvP_0 _ _ _ | exact rvP_s (by omega)))
            rw [el_10] at hP hD
            exact L75 _ (pi + 1) (ct - 1) H locs ls rfl (by omega) hP hD hS (lv_sub hl [1, 0, 2, 3, 4] rfl)
          · skip
            refine z_iinc (a := o) (z := (o - 1)) (lv' := [(3, vI (o - 1)), (2, vI pi), (0, .ref y0), (1, vI ct)]) hx hb dX7_goesOn_54 hl (k := 0) rfl (by omega) (by decide) rfl (fun ls hl => ?_)
            refine lv_goto (tgt := 39) hx hb dX7_goesOn_57 (by decide) ?_
            exact L39i _ (by omega) (o - 1) H locs ls rfl (by
              by_cases e : o = pi + 1
              · rw [e] at c51
                omega
              · omega) (by first | exact (fun q h0 h1 => absurd h0 (by omega)) | (intro q h0 h1; by_cases e : q = o; (rw [e]; omega); exact hgr q (by omega) h1)) hP hD hS hl
        exact L39 _ (ct - 1) H locs ls rfl (by omega) (by first | exact (fun q h0 h1 => absurd h0 (by omega)) | (intro q h0 h1; by_cases e : q = o; (rw [e]; omega); exact hgr q (by omega) h1)) hP hD hS hl
    · skip
      refine lv_aload_n hx hb dX7_goesOn_8 rfl (lv_at hl 1 rfl) ?_
      refine va_get (D := dd) (ci := 7) (v := .ref r0) (C := RX7) (T := TX7) (N := 11) hx hb hts hi7 hown hK hP 0 rfl rfl 4 (by decide) (hts _ (List.mem_cons_of_mem _ (List.mem_append_left _ (List.mem_of_getElem? (i := 0) rfl)))) (fun _ h9 => h9) rfl dX7_goesOn_9 ?_
      refine lv_iload_n hx hb dX7_goesOn_12 rfl (lv_at hl 0 rfl) ?_
      refine z_iald hx hb hK hP 1 0 rfl rfl (i := pi) (by omega) (by decide) dX7_goesOn_13 ?_
      have f_11 := hff pi (by omega) (by omega)
      refine lv_aload_n hx hb dX7_goesOn_14 rfl (lv_at hl 1 rfl) ?_
      refine va_get (D := dd) (ci := 7) (v := .ref r0) (C := RX7) (T := TX7) (N := 11) hx hb hts hi7 hown hK hP 0 rfl rfl 4 (by decide) (hts _ (List.mem_cons_of_mem _ (List.mem_append_left _ (List.mem_of_getElem? (i := 0) rfl)))) (fun _ h9 => h9) rfl dX7_goesOn_15 ?_
      refine lv_iload_n hx hb dX7_goesOn_18 rfl (lv_at hl 0 rfl) ?_
      refine z_iconst hx hb dX7_goesOn_19 ?_
      refine z_iadd (z := (pi + 1)) hx hb rfl dX7_goesOn_20 ?_
      refine z_iald hx hb hK hP 1 0 rfl rfl (i := (pi + 1)) (by omega) (by decide) dX7_goesOn_21 ?_
      have f_12 := hff (pi + 1) (by omega) (by omega)
      refine z_icmp_lt (tgt := 31) hx hb dX7_goesOn_22 (by decide) (by omega) (fun c22 => ?_) (fun c22 => ?_)
      · skip
        refine lv_iload_n hx hb dX7_goesOn_31 rfl (lv_at hl 0 rfl) ?_
        refine z_if_lt (tgt := 66) hx hb dX7_goesOn_32 (by decide) (by omega) (fun c32 => ?_) (fun c32 => ?_)
        · skip
          refine lv_iload_n hx hb dX7_goesOn_66 rfl (lv_at hl 0 rfl) ?_
          refine z_iconst hx hb dX7_goesOn_67 ?_
          refine z_iadd (z := (pi + 1)) hx hb rfl dX7_goesOn_68 ?_
          refine lv_istore_n (lv' := [(3, vI (pi + 1)), (2, vI pi), (0, .ref y0), (1, vI ct)]) hx hb dX7_goesOn_69 rfl hl (by decide) rfl (fun ls hl => ?_)
          refine lv_iload_n hx hb dX7_goesOn_70 rfl (lv_at hl 3 rfl) ?_
          refine z_iconst hx hb dX7_goesOn_71 ?_
          refine z_isub (z := (ct - 1)) hx hb rfl dX7_goesOn_72 ?_
          refine lv_istore (lv' := [(4, vI (ct - 1)), (3, vI (pi + 1)), (2, vI pi), (0, .ref y0), (1, vI ct)]) hx hb dX7_goesOn_73 hl (by decide) rfl (fun ls hl => ?_)
          have L75 : ∀ (nn : Nat) (lo : Int) (hi : Int) (H : Heap) (locs : List Loc) (ls : Array Slot), ((hi + 1 - lo).toNat) = nn → (pi + 1 ≤ lo ∧ hi ≤ ct - 1 ∧ lo ≤ hi + 1 ∧ lo + hi = pi + 1 + (ct - 1)) → va_P dd vwCl [kO y0 7 [vI n, .ref v0, .ref a0, vI sts, .ref r0, .ref f0, .ref g0, .ref d0, .ref t9, vI ty, vI th], kI cI r0 9 (rvP f (pi + 1) (ct - 1) lo hi)] H → va_D A [kO y0 7 [vI n, .ref v0, .ref a0, vI sts, .ref r0, .ref f0, .ref g0, .ref d0, .ref t9, vI ty, vI th], kI cI r0 9 (rvP f (pi + 1) (ct - 1) lo hi)] → va_S A s.heap H locs → lv_has ls 5 [(3, vI lo), (4, vI hi), (2, vI pi), (0, .ref y0), (1, vI ct)] → W p l e (gR 2 0 0) s m args below meth c H locs 0 0 Q (F0 m 75 ls []) := by
            intro nn
            induction nn using Nat.strongRecOn with
            | ind nn L75i =>
            intro lo hi H locs ls hmeas hlh hP hD hS hl
            refine lv_iload_n hx hb dX7_goesOn_75 rfl (lv_at hl 0 rfl) ?_
            refine lv_iload hx hb dX7_goesOn_76 (lv_at hl 1 rfl) ?_
            refine z_icmp_ge (tgt := 97) hx hb dX7_goesOn_78 (by decide) (by omega) (fun c78 => ?_) (fun c78 => ?_)
            · skip
              refine lv_iload_n hx hb dX7_goesOn_97 rfl (lv_at hl 2 rfl) ?_
              refine z_if_lt (tgt := 105) hx hb dX7_goesOn_98 (by decide) (by omega) (fun c98 => ?_) (fun c98 => ?_)
              · skip
                refine z_iconst hx hb dX7_goesOn_105 ?_
                subst hQ
                refine z_zret (z := 0) hx hb hr hlocks dX7_goesOn_106 (by omega) (rvP f (pi + 1) (ct - 1) lo hi) hK hS ⟨by omega, by omega⟩ hP hD ?_
                first
                | (exfalso; omega)
                | (exact Or.inr ⟨pi, o, by omega, by omega, by omega, by omega, fun j h0 h1 => hde j h0 (by omega) h1, by omega, hgr, rfl, rvP_end (by omega)⟩)
                | (refine Or.inl ⟨rfl, fun j h0 h1 => hde j (by omega) h0 h1, ?_⟩
                   rw [rvP_end (by omega)]
                   funext k
                   unfold rvZ
                   by_cases q : pi + 1 ≤ k ∧ k ≤ ct - 1
                   · by_cases q2 : pi = -1
                     · rw [q2]
                       rfl
                     · rw [if_pos q, if_neg (by omega), show pi + 1 + (ct - 1) - k = k by omega]
                   · rw [if_neg q, if_neg (by omega)])
              · skip
                refine z_iconst hx hb dX7_goesOn_101 ?_
                refine lv_goto (tgt := 106) hx hb dX7_goesOn_102 (by decide) ?_
                subst hQ
                refine z_zret (z := 1) hx hb hr hlocks dX7_goesOn_106 (by omega) (rvP f (pi + 1) (ct - 1) lo hi) hK hS ⟨by omega, by omega⟩ hP hD ?_
                first
                | (exfalso; omega)
                | (exact Or.inr ⟨pi, o, by omega, by omega, by omega, by omega, fun j h0 h1 => hde j h0 (by omega) h1, by omega, hgr, rfl, rvP_end (by omega)⟩)
                | (refine Or.inl ⟨rfl, fun j h0 h1 => hde j (by omega) h0 h1, ?_⟩
                   rw [rvP_end (by omega)]
                   funext k
                   unfold rvZ
                   by_cases q : pi + 1 ≤ k ∧ k ≤ ct - 1
                   · by_cases q2 : pi = -1
                     · rw [q2]
                       rfl
                     · rw [if_pos q, if_neg (by omega), show pi + 1 + (ct - 1) - k = k by omega]
                   · rw [if_neg q, if_neg (by omega)])
            · skip
              refine lv_aload_n hx hb dX7_goesOn_81 rfl (lv_at hl 3 rfl) ?_
              refine lv_iload_n hx hb dX7_goesOn_82 rfl (lv_at hl 0 rfl) ?_
              refine lv_iload hx hb dX7_goesOn_83 (lv_at hl 1 rfl) ?_
              refine g_callVv (own := RX7) (n := 2) (mc := 0) (ms := 0) (As := [vI lo, vI hi]) (rest := []) (wc := [kO y0 7 [vI n, .ref v0, .ref a0, vI sts, .ref r0, .ref f0, .ref g0, .ref d0, .ref t9, vI ty, vI th], kI cI r0 9 (rvP f (pi + 1) (ct - 1) lo hi)]) (wr := []) hx hb hml hown hts hK hP hD hS hA [0, 1] [] rfl rfl (by decide) (by decide) 7 0 rfl rfl (c_X7_swaps l dd cI cJ cC cS y0 v0 a0 r0 f0 g0 d0 t9 n sts ty th (rvP f (pi + 1) (ct - 1) lo hi) lo hi H.size  (by first | assumption | omega) (by first | assumption | omega)) gX7_goesOn_X7_swaps rfl (by decide +kernel) (by decide) (by decide) (by decide) (by decide) rfl hl.1 rfl (Nat.le_of_ble_eq_true rfl) dX7_goesOn_85 (fun u_13 H locs hp85_14 hP hD hS => ?_)
              have hP : va_P dd vwCl [kO y0 7 [vI n, .ref v0, .ref a0, vI sts, .ref r0, .ref f0, .ref g0, .ref d0, .ref t9, vI ty, vI th], kI cI r0 9 (swZ (rvP f (pi + 1) (ct - 1) lo hi) lo hi)] H := hP
              have hD : va_D A [kO y0 7 [vI n, .ref v0, .ref a0, vI sts, .ref r0, .ref f0, .ref g0, .ref d0, .ref t9, vI ty, vI th], kI cI r0 9 (swZ (rvP f (pi + 1) (ct - 1) lo hi) lo hi)] := hD
              refine z_iinc (a := hi) (z := (hi - 1)) (lv' := [(4, vI (hi - 1)), (3, vI lo), (2, vI pi), (0, .ref y0), (1, vI ct)]) hx hb dX7_goesOn_88 hl (k := 1) rfl (by omega) (by decide) rfl (fun ls hl => ?_)
              refine z_iinc (a := lo) (z := (lo + 1)) (lv' := [(3, vI (lo + 1)), (4, vI (hi - 1)), (2, vI pi), (0, .ref y0), (1, vI ct)]) hx hb dX7_goesOn_91 hl (k := 1) rfl rfl (by decide) rfl (fun ls hl => ?_)
              refine lv_goto (tgt := 75) hx hb dX7_goesOn_94 (by decide) ?_
              have el_15 : kI cI r0 9 (swZ (rvP f (pi + 1) (ct - 1) lo hi) lo hi) = kI cI r0 9 (rvP f (pi + 1) (ct - 1) (lo + 1) (hi - 1)) := kI_congr (congrArg aZ (by first | exact rvP_0 _ _ _ | exact rvP_s (by omega)))
              rw [el_15] at hP hD
              exact L75i _ (by omega) (lo + 1) (hi - 1) H locs ls rfl (by omega) hP hD hS hl
          have el_16 : kI cI r0 9 f = kI cI r0 9 (rvP f (pi + 1) (ct - 1) (pi + 1) (ct - 1)) := kI_congr (congrArg aZ (by first | exact rvP_0 _ _ _ | exact rvP_s (by omega)))
          rw [el_16] at hP hD
          exact L75 _ (pi + 1) (ct - 1) H locs ls rfl (by omega) hP hD hS (lv_sub hl [1, 0, 2, 3, 4] rfl)
        · skip
          refine lv_iload_n hx hb dX7_goesOn_35 rfl (lv_at hl 2 rfl) ?_
          refine z_iconst hx hb dX7_goesOn_36 ?_
          refine z_isub (z := (ct - 1)) hx hb rfl dX7_goesOn_37 ?_
          refine lv_istore_n (lv' := [(3, vI (ct - 1)), (2, vI pi), (0, .ref y0), (1, vI ct)]) hx hb dX7_goesOn_38 rfl hl (by decide) rfl (fun ls hl => ?_)
          have L39 : ∀ (nn : Nat) (o : Int) (H : Heap) (locs : List Loc) (ls : Array Slot), ((o + 2).toNat) = nn → (0 ≤ pi ∧ pi < o ∧ o ≤ ct - 1) → (∀ q : Int, o < q → q < ct → f q ≤ f pi) → va_P dd vwCl [kO y0 7 [vI n, .ref v0, .ref a0, vI sts, .ref r0, .ref f0, .ref g0, .ref d0, .ref t9, vI ty, vI th], kI cI r0 9 f] H → va_D A [kO y0 7 [vI n, .ref v0, .ref a0, vI sts, .ref r0, .ref f0, .ref g0, .ref d0, .ref t9, vI ty, vI th], kI cI r0 9 f] → va_S A s.heap H locs → lv_has ls 5 [(3, vI o), (2, vI pi), (0, .ref y0), (1, vI ct)] → W p l e (gR 2 0 0) s m args below meth c H locs 0 0 Q (F0 m 39 ls []) := by
            intro nn
            induction nn using Nat.strongRecOn with
            | ind nn L39i =>
            intro o H locs ls hmeas ho hgr hP hD hS hl
            refine lv_aload_n hx hb dX7_goesOn_39 rfl (lv_at hl 2 rfl) ?_
            refine va_get (D := dd) (ci := 7) (v := .ref r0) (C := RX7) (T := TX7) (N := 11) hx hb hts hi7 hown hK hP 0 rfl rfl 4 (by decide) (hts _ (List.mem_cons_of_mem _ (List.mem_append_left _ (List.mem_of_getElem? (i := 0) rfl)))) (fun _ h9 => h9) rfl dX7_goesOn_40 ?_
            refine lv_iload_n hx hb dX7_goesOn_43 rfl (lv_at hl 0 rfl) ?_
            refine z_iald hx hb hK hP 1 0 rfl rfl (i := o) (by omega) (by decide) dX7_goesOn_44 ?_
            have f_17 := hff o (by omega) (by omega)
            refine lv_aload_n hx hb dX7_goesOn_45 rfl (lv_at hl 2 rfl) ?_
            refine va_get (D := dd) (ci := 7) (v := .ref r0) (C := RX7) (T := TX7) (N := 11) hx hb hts hi7 hown hK hP 0 rfl rfl 4 (by decide) (hts _ (List.mem_cons_of_mem _ (List.mem_append_left _ (List.mem_of_getElem? (i := 0) rfl)))) (fun _ h9 => h9) rfl dX7_goesOn_46 ?_
            refine lv_iload_n hx hb dX7_goesOn_49 rfl (lv_at hl 1 rfl) ?_
            refine z_iald hx hb hK hP 1 0 rfl rfl (i := pi) (by omega) (by decide) dX7_goesOn_50 ?_
            have f_18 := hff pi (by omega) (by omega)
            refine z_icmp_gt (tgt := 60) hx hb dX7_goesOn_51 (by decide) (by omega) (fun c51 => ?_) (fun c51 => ?_)
            · skip
              refine lv_aload_n hx hb dX7_goesOn_60 rfl (lv_at hl 2 rfl) ?_
              refine lv_iload_n hx hb dX7_goesOn_61 rfl (lv_at hl 1 rfl) ?_
              refine lv_iload_n hx hb dX7_goesOn_62 rfl (lv_at hl 0 rfl) ?_
              refine g_callVv (own := RX7) (n := 2) (mc := 0) (ms := 0) (As := [vI pi, vI o]) (rest := []) (wc := [kO y0 7 [vI n, .ref v0, .ref a0, vI sts, .ref r0, .ref f0, .ref g0, .ref d0, .ref t9, vI ty, vI th], kI cI r0 9 f]) (wr := []) hx hb hml hown hts hK hP hD hS hA [0, 1] [] rfl rfl (by decide) (by decide) 7 0 rfl rfl (c_X7_swaps l dd cI cJ cC cS y0 v0 a0 r0 f0 g0 d0 t9 n sts ty th f pi o H.size  (by first | assumption | omega) (by first | assumption | omega)) gX7_goesOn_X7_swaps rfl (by decide +kernel) (by decide) (by decide) (by decide) (by decide) rfl hl.1 rfl (Nat.le_of_ble_eq_true rfl) dX7_goesOn_63 (fun u_19 H locs hp63_20 hP hD hS => ?_)
              have hP : va_P dd vwCl [kO y0 7 [vI n, .ref v0, .ref a0, vI sts, .ref r0, .ref f0, .ref g0, .ref d0, .ref t9, vI ty, vI th], kI cI r0 9 (swZ f pi o)] H := hP
              have hD : va_D A [kO y0 7 [vI n, .ref v0, .ref a0, vI sts, .ref r0, .ref f0, .ref g0, .ref d0, .ref t9, vI ty, vI th], kI cI r0 9 (swZ f pi o)] := hD
              refine lv_iload_n hx hb dX7_goesOn_66 rfl (lv_at hl 1 rfl) ?_
              refine z_iconst hx hb dX7_goesOn_67 ?_
              refine z_iadd (z := (pi + 1)) hx hb rfl dX7_goesOn_68 ?_
              refine lv_istore_n (lv' := [(3, vI (pi + 1)), (2, vI pi), (0, .ref y0), (1, vI ct)]) hx hb dX7_goesOn_69 rfl hl (by decide) rfl (fun ls hl => ?_)
              refine lv_iload_n hx hb dX7_goesOn_70 rfl (lv_at hl 3 rfl) ?_
              refine z_iconst hx hb dX7_goesOn_71 ?_
              refine z_isub (z := (ct - 1)) hx hb rfl dX7_goesOn_72 ?_
              refine lv_istore (lv' := [(4, vI (ct - 1)), (3, vI (pi + 1)), (2, vI pi), (0, .ref y0), (1, vI ct)]) hx hb dX7_goesOn_73 hl (by decide) rfl (fun ls hl => ?_)
              have L75 : ∀ (nn : Nat) (lo : Int) (hi : Int) (H : Heap) (locs : List Loc) (ls : Array Slot), ((hi + 1 - lo).toNat) = nn → (pi + 1 ≤ lo ∧ hi ≤ ct - 1 ∧ lo ≤ hi + 1 ∧ lo + hi = pi + 1 + (ct - 1)) → va_P dd vwCl [kO y0 7 [vI n, .ref v0, .ref a0, vI sts, .ref r0, .ref f0, .ref g0, .ref d0, .ref t9, vI ty, vI th], kI cI r0 9 (rvP (swZ f pi o) (pi + 1) (ct - 1) lo hi)] H → va_D A [kO y0 7 [vI n, .ref v0, .ref a0, vI sts, .ref r0, .ref f0, .ref g0, .ref d0, .ref t9, vI ty, vI th], kI cI r0 9 (rvP (swZ f pi o) (pi + 1) (ct - 1) lo hi)] → va_S A s.heap H locs → lv_has ls 5 [(3, vI lo), (4, vI hi), (2, vI pi), (0, .ref y0), (1, vI ct)] → W p l e (gR 2 0 0) s m args below meth c H locs 0 0 Q (F0 m 75 ls []) := by
                intro nn
                induction nn using Nat.strongRecOn with
                | ind nn L75i =>
                intro lo hi H locs ls hmeas hlh hP hD hS hl
                refine lv_iload_n hx hb dX7_goesOn_75 rfl (lv_at hl 0 rfl) ?_
                refine lv_iload hx hb dX7_goesOn_76 (lv_at hl 1 rfl) ?_
                refine z_icmp_ge (tgt := 97) hx hb dX7_goesOn_78 (by decide) (by omega) (fun c78 => ?_) (fun c78 => ?_)
                · skip
                  refine lv_iload_n hx hb dX7_goesOn_97 rfl (lv_at hl 2 rfl) ?_
                  refine z_if_lt (tgt := 105) hx hb dX7_goesOn_98 (by decide) (by omega) (fun c98 => ?_) (fun c98 => ?_)
                  · skip
                    refine z_iconst hx hb dX7_goesOn_105 ?_
                    subst hQ
                    refine z_zret (z := 0) hx hb hr hlocks dX7_goesOn_106 (by omega) (rvP (swZ f pi o) (pi + 1) (ct - 1) lo hi) hK hS ⟨by omega, by omega⟩ hP hD ?_
                    first
                    | (exfalso; omega)
                    | (exact Or.inr ⟨pi, o, by omega, by omega, by omega, by omega, fun j h0 h1 => hde j h0 (by omega) h1, by omega, hgr, rfl, rvP_end (by omega)⟩)
                    | (refine Or.inl ⟨rfl, fun j h0 h1 => hde j (by omega) h0 h1, ?_⟩
                       rw [rvP_end (by omega)]
                       funext k
                       unfold rvZ
                       by_cases q : pi + 1 ≤ k ∧ k ≤ ct - 1
                       · by_cases q2 : pi = -1
                         · rw [q2]
                           rfl
                         · rw [if_pos q, if_neg (by omega), show pi + 1 + (ct - 1) - k = k by omega]
                       · rw [if_neg q, if_neg (by omega)])
                  · skip
                    refine z_iconst hx hb dX7_goesOn_101 ?_
                    refine lv_goto (tgt := 106) hx hb dX7_goesOn_102 (by decide) ?_
                    subst hQ
                    refine z_zret (z := 1) hx hb hr hlocks dX7_goesOn_106 (by omega) (rvP (swZ f pi o) (pi + 1) (ct - 1) lo hi) hK hS ⟨by omega, by omega⟩ hP hD ?_
                    first
                    | (exfalso; omega)
                    | (exact Or.inr ⟨pi, o, by omega, by omega, by omega, by omega, fun j h0 h1 => hde j h0 (by omega) h1, by omega, hgr, rfl, rvP_end (by omega)⟩)
                    | (refine Or.inl ⟨rfl, fun j h0 h1 => hde j (by omega) h0 h1, ?_⟩
                       rw [rvP_end (by omega)]
                       funext k
                       unfold rvZ
                       by_cases q : pi + 1 ≤ k ∧ k ≤ ct - 1
                       · by_cases q2 : pi = -1
                         · rw [q2]
                           rfl
                         · rw [if_pos q, if_neg (by omega), show pi + 1 + (ct - 1) - k = k by omega]
                       · rw [if_neg q, if_neg (by omega)])
                · skip
                  refine lv_aload_n hx hb dX7_goesOn_81 rfl (lv_at hl 3 rfl) ?_
                  refine lv_iload_n hx hb dX7_goesOn_82 rfl (lv_at hl 0 rfl) ?_
                  refine lv_iload hx hb dX7_goesOn_83 (lv_at hl 1 rfl) ?_
                  refine g_callVv (own := RX7) (n := 2) (mc := 0) (ms := 0) (As := [vI lo, vI hi]) (rest := []) (wc := [kO y0 7 [vI n, .ref v0, .ref a0, vI sts, .ref r0, .ref f0, .ref g0, .ref d0, .ref t9, vI ty, vI th], kI cI r0 9 (rvP (swZ f pi o) (pi + 1) (ct - 1) lo hi)]) (wr := []) hx hb hml hown hts hK hP hD hS hA [0, 1] [] rfl rfl (by decide) (by decide) 7 0 rfl rfl (c_X7_swaps l dd cI cJ cC cS y0 v0 a0 r0 f0 g0 d0 t9 n sts ty th (rvP (swZ f pi o) (pi + 1) (ct - 1) lo hi) lo hi H.size  (by first | assumption | omega) (by first | assumption | omega)) gX7_goesOn_X7_swaps rfl (by decide +kernel) (by decide) (by decide) (by decide) (by decide) rfl hl.1 rfl (Nat.le_of_ble_eq_true rfl) dX7_goesOn_85 (fun u_21 H locs hp85_22 hP hD hS => ?_)
                  have hP : va_P dd vwCl [kO y0 7 [vI n, .ref v0, .ref a0, vI sts, .ref r0, .ref f0, .ref g0, .ref d0, .ref t9, vI ty, vI th], kI cI r0 9 (swZ (rvP (swZ f pi o) (pi + 1) (ct - 1) lo hi) lo hi)] H := hP
                  have hD : va_D A [kO y0 7 [vI n, .ref v0, .ref a0, vI sts, .ref r0, .ref f0, .ref g0, .ref d0, .ref t9, vI ty, vI th], kI cI r0 9 (swZ (rvP (swZ f pi o) (pi + 1) (ct - 1) lo hi) lo hi)] := hD
                  refine z_iinc (a := hi) (z := (hi - 1)) (lv' := [(4, vI (hi - 1)), (3, vI lo), (2, vI pi), (0, .ref y0), (1, vI ct)]) hx hb dX7_goesOn_88 hl (k := 1) rfl (by omega) (by decide) rfl (fun ls hl => ?_)
                  refine z_iinc (a := lo) (z := (lo + 1)) (lv' := [(3, vI (lo + 1)), (4, vI (hi - 1)), (2, vI pi), (0, .ref y0), (1, vI ct)]) hx hb dX7_goesOn_91 hl (k := 1) rfl rfl (by decide) rfl (fun ls hl => ?_)
                  refine lv_goto (tgt := 75) hx hb dX7_goesOn_94 (by decide) ?_
                  have el_23 : kI cI r0 9 (swZ (rvP (swZ f pi o) (pi + 1) (ct - 1) lo hi) lo hi) = kI cI r0 9 (rvP (swZ f pi o) (pi + 1) (ct - 1) (lo + 1) (hi - 1)) := kI_congr (congrArg aZ (by first | exact rvP_0 _ _ _ | exact rvP_s (by omega)))
                  rw [el_23] at hP hD
                  exact L75i _ (by omega) (lo + 1) (hi - 1) H locs ls rfl (by omega) hP hD hS hl
              have el_24 : kI cI r0 9 (swZ f pi o) = kI cI r0 9 (rvP (swZ f pi o) (pi + 1) (ct - 1) (pi + 1) (ct - 1)) := kI_congr (congrArg aZ (by first | exact rvP_0 _ _ _ | exact rvP_s (by omega)))
              rw [el_24] at hP hD
              exact L75 _ (pi + 1) (ct - 1) H locs ls rfl (by omega) hP hD hS (lv_sub hl [1, 0, 2, 3, 4] rfl)
            · skip
              refine z_iinc (a := o) (z := (o - 1)) (lv' := [(3, vI (o - 1)), (2, vI pi), (0, .ref y0), (1, vI ct)]) hx hb dX7_goesOn_54 hl (k := 0) rfl (by omega) (by decide) rfl (fun ls hl => ?_)
              refine lv_goto (tgt := 39) hx hb dX7_goesOn_57 (by decide) ?_
              exact L39i _ (by omega) (o - 1) H locs ls rfl (by
                by_cases e : o = pi + 1
                · rw [e] at c51
                  omega
                · omega) (by first | exact (fun q h0 h1 => absurd h0 (by omega)) | (intro q h0 h1; by_cases e : q = o; (rw [e]; omega); exact hgr q (by omega) h1)) hP hD hS hl
          exact L39 _ (ct - 1) H locs ls rfl (by omega) (by first | exact (fun q h0 h1 => absurd h0 (by omega)) | (intro q h0 h1; by_cases e : q = o; (rw [e]; omega); exact hgr q (by omega) h1)) hP hD hS hl
      · skip
        refine z_iinc (a := pi) (z := (pi - 1)) (lv' := [(2, vI (pi - 1)), (0, .ref y0), (1, vI ct)]) hx hb dX7_goesOn_25 hl (k := 0) rfl (by omega) (by decide) rfl (fun ls hl => ?_)
        refine lv_goto (tgt := 4) hx hb dX7_goesOn_28 (by decide) ?_
        exact L4i _ (by omega) (pi - 1) H locs ls rfl (by omega) (fun j h0 h1 h2 => by
          by_cases q : j = pi
          · rw [q]; omega
          · exact hde j (by omega) h1 h2) hP hD hS hl
  exact L4 _ (ct - 2) H locs ls rfl (by omega) (fun j h0 h1 h2 => absurd h0 (by omega)) hP hD hS hl

