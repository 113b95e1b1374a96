/-! the model: circle and paths -/
theorem tmod_s {n s : Int} (h : 0 ≤ s ∧ s ≤ n) : Int.tmod (s + 1) (n + 1) = if s < n then s + 1 else 0 := by
  rw [Int.tmod_eq_emod_of_nonneg (by omega)]
  by_cases q : s < n
  · rw [if_pos q]
    exact Int.emod_eq_of_lt (by omega) (by omega)
  · rw [if_neg q, show s + 1 = n + 1 by omega, Int.emod_self]
theorem sh_mod {n x : Int} (h : 0 ≤ x + 2 * (n + 1)) : Int.tmod (x + 2 * (n + 1)) (n + 1) = x % (n + 1) := by
  rw [Int.tmod_eq_emod_of_nonneg h, Int.add_mul_emod_self_right]
theorem inZ_1 {la aa : Int → Int} {i j : Int} (h : (aa i = aa j ∧ la i < la j) ∨ (aa i = aa j + 1 ∧ la j < la i)) : inZ la aa i j = 1 := if_pos h
theorem inZ_0 {la aa : Int → Int} {i j : Int} (h : ¬ ((aa i = aa j ∧ la i < la j) ∨ (aa i = aa j + 1 ∧ la j < la i))) : inZ la aa i j = 0 := if_neg h
theorem rR_all {wi : Int → Int} {ct n : Int} (hc : 0 ≤ ct) (h : ∀ j : Int, 0 ≤ j → j < ct → wi j < n) : rR wi ct n 0 = ct := by
  rw [rR_0, cntB_all _ (fun j h0 h1 => h j h0 (by omega))]
  omega
theorem row_lo {wi : Int → Int} {ct s : Int} (hc : 0 ≤ ct) (i : Int) (h0 : 0 ≤ i) (h1 : i < rR wi ct s ct) (h2 : rR wi ct s ct ≤ ct) : i - arZ wi ct i ≤ s := by
  obtain ⟨q1, q2, q3⟩ := labZ_at (wi := wi) (ct := ct) (r := i) (by omega)
  unfold arZ
  by_cases u : s < wi (labZ wi ct i)
  · exfalso
    have a1 : rk wi ct (labZ wi ct i) = cntB wi (wi (labZ wi ct i)) ct.toNat + cntE wi (wi (labZ wi ct i)) (labZ wi ct i).toNat := rfl
    have a2 := cntB_mono wi (show s + 1 ≤ wi (labZ wi ct i) by omega) ct.toNat
    have a3 := cntE_rg wi (wi (labZ wi ct i)) (labZ wi ct i).toNat
    rw [rR_n] at h1
    omega
  · omega
theorem row_hi {wi : Int → Int} {ct s : Int} (i : Int) (h0 : 0 ≤ i) (h1 : rR wi ct s ct ≤ i) (h2 : i < ct) : s < i - arZ wi ct i := by
  obtain ⟨q1, q2, q3⟩ := labZ_at (wi := wi) (ct := ct) (r := i) (by omega)
  unfold arZ
  by_cases u : wi (labZ wi ct i) ≤ s
  · exfalso
    have := rk_lt (wi := wi) (ct := ct) (s := s) (c := ct) ⟨q1, q2⟩ (by omega)
    omega
  · omega

set_option maxHeartbeats 4000000 in
set_option maxRecDepth 100000 in
theorem c_X7_freeOne (l : Launch) (dd : va_G) (cI cJ cC cS : ClassId) (y0 v0 a0 r0 f0 g0 d0 t9 : Nat) (n sts ty th : Int) (mv : Int → Int) (sz : Nat) (hn : 1 ≤ n ∧ n ≤ 8) (hwi : ∀ j : Int, 0 ≤ j → j < n → 0 ≤ mv (12 + j) ∧ mv (12 + j) < n) : gMi l yX7_freeOne wsX7_freeOne 1 0 0 dd cI cJ cC cS [.ref y0] [kO y0 7 [vI n, .ref v0, .ref a0, vI sts, .ref r0, .ref f0, .ref g0, .ref d0, .ref t9, vI ty, vI th], kI cI v0 21 mv] sz (fun (z : Int) (_ : Unit) => z = gapZ n (wv mv)) (fun (_ : Unit) => [kO y0 7 [vI n, .ref v0, .ref a0, vI sts, .ref r0, .ref f0, .ref g0, .ref d0, .ref t9, vI ty, vI th], kI cI v0 21 mv]) := by
  refine gMi_of (cc := cX7_freeOne) (maxL := 4) (ret := (some .int)) (by decide) rfl (Nat.le_of_ble_eq_true rfl) ?_
  intro p e s m args below meth c A Q hQ hx hb hr hts hown hlocks hnm hml H locs hP hK hD hA hS ls hl
  have hi7 : ∀ w ∈ wsX70, w ∈ wsX7_freeOne := fun _ h => (List.mem_cons_of_mem _ (List.mem_append_right _ h))
  have hl : lv_has ls 4 [(0, .ref y0)] := hl
  refine z_iconst hx hb dX7_freeOne_0 ?_
  refine lv_istore_n (lv' := [(1, vI 0), (0, .ref y0)]) hx hb dX7_freeOne_1 rfl hl (by decide) rfl (fun ls hl => ?_)
  refine z_iconst hx hb dX7_freeOne_2 ?_
  refine lv_istore_n (lv' := [(2, vI 0), (1, vI 0), (0, .ref y0)]) hx hb dX7_freeOne_3 rfl hl (by decide) rfl (fun ls hl => ?_)
  have L4 : ∀ (nn : Nat) (i : Int) (t : Int) (H : Heap) (locs : List Loc) (ls : Array Slot), ((n + 1 - i).toNat) = nn → (0 ≤ i ∧ i ≤ n) → (t = tkZ n (wv mv) i.toNat) → va_P dd vwCl [kO y0 7 [vI n, .ref v0, .ref a0, vI sts, .ref r0, .ref f0, .ref g0, .ref d0, .ref t9, vI ty, vI th], kI cI v0 21 mv] H → va_D A [kO y0 7 [vI n, .ref v0, .ref a0, vI sts, .ref r0, .ref f0, .ref g0, .ref d0, .ref t9, vI ty, vI th], kI cI v0 21 mv] → va_S A s.heap H locs → lv_has ls 4 [(1, vI t), (2, vI i), (0, .ref y0)] → W p l e (gR 1 0 0) s m args below meth c H locs 0 0 Q (F0 m 4 ls []) := by
    intro nn
    induction nn using Nat.strongRecOn with
    | ind nn L4i =>
    intro i t H locs ls hmeas hi htk hP hD hS hl
    refine lv_iload_n hx hb dX7_freeOne_4 rfl (lv_at hl 1 rfl) ?_
    refine lv_aload_n hx hb dX7_freeOne_5 rfl (lv_at hl 2 rfl) ?_
    refine va_get (D := dd) (ci := 7) (v := vI n) (C := RX7) (T := TX7) (N := 11) hx hb hts hi7 hown hK hP 0 rfl rfl 0 (by decide) (hts _ (List.mem_cons_of_mem _ (List.mem_append_left _ (List.mem_of_getElem? (i := 0) rfl)))) (fun _ h9 => h9) rfl dX7_freeOne_6 ?_
    refine z_icmp_ge (tgt := 57) hx hb dX7_freeOne_9 (by decide) (by omega) (fun c9 => ?_) (fun c9 => ?_)
    · skip
      have hat := tk_at hn (wi := wv mv) (show ∀ j : Int, 0 ≤ j → j < n → 0 ≤ wv mv j ∧ wv mv j < n from hwi) (i := i) (by omega) (s := 0) (by omega)
      rw [← htk] at hat
      refine z_iconst hx hb dX7_freeOne_57 ?_
      refine lv_istore_n (lv' := [(2, vI 0), (1, vI t), (0, .ref y0)]) hx hb dX7_freeOne_58 rfl hl (by decide) rfl (fun ls hl => ?_)
      have L59 : ∀ (nn : Nat) (g : Int) (H : Heap) (locs : List Loc) (ls : Array Slot), ((n + 1 - g).toNat) = nn → (0 ≤ g ∧ g ≤ n) → (ffZ n t (n - g).toNat g = ffZ n t n.toNat 0) → va_P dd vwCl [kO y0 7 [vI n, .ref v0, .ref a0, vI sts, .ref r0, .ref f0, .ref g0, .ref d0, .ref t9, vI ty, vI th], kI cI v0 21 mv] H → va_D A [kO y0 7 [vI n, .ref v0, .ref a0, vI sts, .ref r0, .ref f0, .ref g0, .ref d0, .ref t9, vI ty, vI th], kI cI v0 21 mv] → va_S A s.heap H locs → lv_has ls 4 [(2, vI g), (1, vI t), (0, .ref y0)] → W p l e (gR 1 0 0) s m args below meth c H locs 0 0 Q (F0 m 59 ls []) := by
        intro nn
        induction nn using Nat.strongRecOn with
        | ind nn L59i =>
        intro g H locs ls hmeas hg hgf hP hD hS hl
        refine lv_iload_n hx hb dX7_freeOne_59 rfl (lv_at hl 1 rfl) ?_
        refine lv_iload_n hx hb dX7_freeOne_60 rfl (lv_at hl 0 rfl) ?_
        refine lv_ishr hx hb dX7_freeOne_61 ?_
        refine z_bin (va := .null) (vb := .null) (y := zI (t / 2 ^ g.toNat)) (zI_shr (by omega)) ?_
        refine z_iconst hx hb dX7_freeOne_62 ?_
        refine lv_iand hx hb dX7_freeOne_63 ?_
        refine z_bin (va := .null) (vb := .null) (y := zI ((t / 2 ^ g.toNat) % 2)) (zI_and1 (Int.ediv_nonneg (by omega) (Int.le_of_lt (pow_pos2 _)))) ?_
        refine z_iconst hx hb dX7_freeOne_64 ?_
        refine z_icmp_ne (tgt := 74) hx hb dX7_freeOne_65 (by decide) (by omega) (fun c65 => ?_) (fun c65 => ?_)
        · skip
          refine lv_iload_n hx hb dX7_freeOne_74 rfl (lv_at hl 0 rfl) ?_
          subst hQ
          refine z_iret (z := g) hx hb hr hlocks dX7_freeOne_75 () hK hS ⟨by omega, by omega⟩ hP hD ?_
          have hb0 : bitZ t g = 0 := by
            show t / 2 ^ g.toNat % 2 = 0
            omega
          have hst : ffZ n t n.toNat 0 = g := by
            rw [← hgf]
            by_cases u : g = n
            · rw [show (n - g).toNat = 0 by omega]
              exact ffZ_0 (by omega)
            · rw [show (n - g).toNat = (n - g - 1).toNat + 1 by omega]
              exact ffZ_t (by omega) (by omega) hb0
          rw [htk, show i = n by omega] at hst
          exact hst.symm
        · skip
          have hbt : bitZ t g ≠ 0 := fun u => by
            have u2 : t / 2 ^ g.toNat % 2 = 0 := u
            omega
          have hg1 : g < n := by
            by_cases u : g = n
            · exfalso
              rw [show (n - g).toNat = 0 by omega, ffZ_0 (by omega)] at hgf
              rw [← hgf] at hat
              exact hbt hat.2.2.2.2.1
            · omega
          refine z_iinc (a := g) (z := (g + 1)) (lv' := [(2, vI (g + 1)), (1, vI t), (0, .ref y0)]) hx hb dX7_freeOne_68 hl (k := 0) rfl rfl (by decide) rfl (fun ls hl => ?_)
          refine lv_goto (tgt := 59) hx hb dX7_freeOne_71 (by decide) ?_
          exact L59i _ (by omega) (g + 1) H locs ls rfl (by omega) (by rw [← hgf, show (n - g).toNat = (n - (g + 1)).toNat + 1 by omega, ffZ_f (by omega) (by omega) (by omega) hbt, if_pos (by omega)]) hP hD hS hl
      exact L59 _ 0 H locs ls rfl (by omega) (by rw [Int.sub_zero]) hP hD hS hl
    · skip
      have hw2 : 0 ≤ wv mv i ∧ wv mv i < n := hwi i (by omega) (by omega)
      have hat := tk_at hn (wi := wv mv) (show ∀ j : Int, 0 ≤ j → j < n → 0 ≤ wv mv j ∧ wv mv j < n from hwi) (i := i) (by omega) (s := wv mv i) (by omega)
      rw [← htk] at hat
      refine lv_aload_n hx hb dX7_freeOne_12 rfl (lv_at hl 2 rfl) ?_
      refine va_get (D := dd) (ci := 7) (v := .ref v0) (C := RX7) (T := TX7) (N := 11) hx hb hts hi7 hown hK hP 0 rfl rfl 1 (by decide) (hts _ (List.mem_cons_of_mem _ (List.mem_append_left _ (List.mem_of_getElem? (i := 1) rfl)))) (fun _ h9 => h9) rfl dX7_freeOne_13 ?_
      refine z_bipush hx hb dX7_freeOne_16 (by decide +kernel) ?_
      refine lv_iload_n hx hb dX7_freeOne_18 rfl (lv_at hl 1 rfl) ?_
      refine z_iadd (z := (12 + i)) hx hb rfl dX7_freeOne_19 ?_
      refine z_iald hx hb hK hP 1 0 rfl rfl (i := (12 + i)) (by omega) (by decide) dX7_freeOne_20 ?_
      refine z_bin (va := .null) (vb := .null) (y := zI (wv mv i)) (congrArg zI (rfl)) ?_
      refine lv_istore_n (lv' := [(3, vI (wv mv i)), (1, vI t), (2, vI i), (0, .ref y0)]) hx hb dX7_freeOne_21 rfl hl (by decide) rfl (fun ls hl => ?_)
      have L22 : ∀ (nn : Nat) (k9 : Int) (s9 : Int) (H : Heap) (locs : List Loc) (ls : Array Slot), ((k9 + 1).toNat) = nn → (0 ≤ k9 ∧ k9 ≤ n) → (0 ≤ s9 ∧ s9 ≤ n) → (ffZ n t k9.toNat s9 = ffZ n t n.toNat (wv mv i)) → va_P dd vwCl [kO y0 7 [vI n, .ref v0, .ref a0, vI sts, .ref r0, .ref f0, .ref g0, .ref d0, .ref t9, vI ty, vI th], kI cI v0 21 mv] H → va_D A [kO y0 7 [vI n, .ref v0, .ref a0, vI sts, .ref r0, .ref f0, .ref g0, .ref d0, .ref t9, vI ty, vI th], kI cI v0 21 mv] → va_S A s.heap H locs → lv_has ls 4 [(3, vI s9), (1, vI t), (2, vI i), (0, .ref y0)] → W p l e (gR 1 0 0) s m args below meth c H locs 0 0 Q (F0 m 22 ls []) := by
        intro nn
        induction nn using Nat.strongRecOn with
        | ind nn L22i =>
        intro k9 s9 H locs ls hmeas hk9 hs9 hff hP hD hS hl
        refine lv_iload_n hx hb dX7_freeOne_22 rfl (lv_at hl 1 rfl) ?_
        refine lv_iload_n hx hb dX7_freeOne_23 rfl (lv_at hl 0 rfl) ?_
        refine lv_ishr hx hb dX7_freeOne_24 ?_
        refine z_bin (va := .null) (vb := .null) (y := zI (t / 2 ^ s9.toNat)) (zI_shr (by omega)) ?_
        refine z_iconst hx hb dX7_freeOne_25 ?_
        refine lv_iand hx hb dX7_freeOne_26 ?_
        refine z_bin (va := .null) (vb := .null) (y := zI ((t / 2 ^ s9.toNat) % 2)) (zI_and1 (Int.ediv_nonneg (by omega) (Int.le_of_lt (pow_pos2 _)))) ?_
        refine z_iconst hx hb dX7_freeOne_27 ?_
        refine z_icmp_ne (tgt := 45) hx hb dX7_freeOne_28 (by decide) (by omega) (fun c28 => ?_) (fun c28 => ?_)
        · skip
          have hb0 : bitZ t s9 = 0 := by
            show t / 2 ^ s9.toNat % 2 = 0
            omega
          have hst : ffZ n t n.toNat (wv mv i) = s9 := by
            rw [← hff]
            by_cases u : k9 = 0
            · rw [u]
              exact ffZ_0 (by omega)
            · rw [show k9.toNat = (k9 - 1).toNat + 1 by omega]
              exact ffZ_t (by omega) (by omega) hb0
          rw [hst] at hat
          rw [htk] at hst
          refine lv_iload_n hx hb dX7_freeOne_45 rfl (lv_at hl 1 rfl) ?_
          refine z_iconst hx hb dX7_freeOne_46 ?_
          refine lv_iload_n hx hb dX7_freeOne_47 rfl (lv_at hl 0 rfl) ?_
          refine z_shl1 (z := (2 ^ s9.toNat)) hx hb (by omega) rfl dX7_freeOne_48 ?_
          refine lv_ior hx hb dX7_freeOne_49 ?_
          refine z_bin (va := .null) (vb := .null) (y := zI (t + (2 ^ s9.toNat))) (hat.2.2.2.2.2) ?_
          refine lv_istore_n (lv' := [(1, vI (t + (2 ^ s9.toNat))), (3, vI s9), (2, vI i), (0, .ref y0)]) hx hb dX7_freeOne_50 rfl hl (by decide) rfl (fun ls hl => ?_)
          refine z_iinc (a := i) (z := (i + 1)) (lv' := [(2, vI (i + 1)), (1, vI (t + (2 ^ s9.toNat))), (3, vI s9), (0, .ref y0)]) hx hb dX7_freeOne_51 hl (k := 2) rfl rfl (by decide) rfl (fun ls hl => ?_)
          refine lv_goto (tgt := 4) hx hb dX7_freeOne_54 (by decide) ?_
          exact L4i _ (by omega) (i + 1) (t + (2 ^ s9.toNat)) H locs ls rfl (by omega) (by first | rfl | rw [tkZ_s (by omega), hst, htk]) hP hD hS (lv_sub hl [1, 0, 3] rfl)
        · skip
          have hbt : bitZ t s9 ≠ 0 := fun u => by
            have u2 : t / 2 ^ s9.toNat % 2 = 0 := u
            omega
          have hk1 : 1 ≤ k9 := by
            by_cases u : k9 = 0
            · exfalso
              rw [show k9.toNat = 0 by omega, ffZ_0 (by omega)] at hff
              rw [← hff] at hat
              exact hbt hat.2.2.2.2.1
            · omega
          refine lv_iload_n hx hb dX7_freeOne_31 rfl (lv_at hl 0 rfl) ?_
          refine z_iconst hx hb dX7_freeOne_32 ?_
          refine z_iadd (z := (s9 + 1)) hx hb rfl dX7_freeOne_33 ?_
          refine lv_aload_n hx hb dX7_freeOne_34 rfl (lv_at hl 3 rfl) ?_
          refine va_get (D := dd) (ci := 7) (v := vI n) (C := RX7) (T := TX7) (N := 11) hx hb hts hi7 hown hK hP 0 rfl rfl 0 (by decide) (hts _ (List.mem_cons_of_mem _ (List.mem_append_left _ (List.mem_of_getElem? (i := 0) rfl)))) (fun _ h9 => h9) rfl dX7_freeOne_35 ?_
          refine z_iconst hx hb dX7_freeOne_38 ?_
          refine z_iadd (z := (n + 1)) hx hb rfl dX7_freeOne_39 ?_
          refine z_irem (z := (if s9 < n then s9 + 1 else 0)) hx hb (by omega) (tmod_s (by omega)) dX7_freeOne_40 ?_
          have hs8 : 0 ≤ (if s9 < n then s9 + 1 else 0) ∧ (if s9 < n then s9 + 1 else 0) ≤ n := by split <;> omega
          refine lv_istore_n (lv' := [(3, vI (if s9 < n then s9 + 1 else 0)), (1, vI t), (2, vI i), (0, .ref y0)]) hx hb dX7_freeOne_41 rfl hl (by decide) rfl (fun ls hl => ?_)
          refine lv_goto (tgt := 22) hx hb dX7_freeOne_42 (by decide) ?_
          exact L22i _ (by omega) (k9 - 1) (if s9 < n then s9 + 1 else 0) H locs ls rfl (by omega) (by omega) (by rw [← hff, show k9.toNat = (k9 - 1).toNat + 1 by omega, ffZ_f (by omega) (by omega) (by omega) hbt]) hP hD hS hl
      exact L22 _ n (wv mv i) H locs ls rfl (by omega) (by omega) (rfl) hP hD hS hl
  exact L4 _ 0 0 H locs ls rfl (by omega) (by first | rfl | rw [tkZ_s (by omega), hst, htk]) hP hD hS (lv_sub hl [1, 0, 2] rfl)

set_option maxHeartbeats 4000000 in
set_option maxRecDepth 100000 in
theorem c_X7_gap (l : Launch) (dd : va_G) (cI cJ cC cS : ClassId) (y0 v0 a0 r0 f0 g0 d0 t9 : Nat) (n sts ty th : Int) (mv : Int → Int) (sz : Nat) (hn : 1 ≤ n ∧ n ≤ 8) (hc0 : 0 ≤ mv 0 ∧ mv 0 ≤ 9) (hc1 : 0 ≤ mv 1 ∧ mv 1 ≤ 3) (hc2 : 0 ≤ mv 2 ∧ mv 2 ≤ 8) (hcap : ∀ j : Int, 0 ≤ j → j < n → 0 ≤ mv (3 + j) ∧ mv (3 + j) ≤ 3) (hwi : ∀ j : Int, 0 ≤ j → j < mv 0 → 0 ≤ mv (12 + j) ∧ mv (12 + j) < n) : gMi l yX7_gap wsX7_gap 2 0 0 dd cI cJ cC cS [.ref y0] [kO y0 7 [vI n, .ref v0, .ref a0, vI sts, .ref r0, .ref f0, .ref g0, .ref d0, .ref t9, vI ty, vI th], kI cI v0 21 mv] sz (fun (z : Int) (th1 : Int) => ((mv 0 = n ∧ z = gapZ n (wv mv) ∧ th1 = 0) ∨ (mv 0 ≠ n ∧ z = 0 ∧ th1 = 1))) (fun (th1 : Int) => [kO y0 7 [vI n, .ref v0, .ref a0, vI sts, .ref r0, .ref f0, .ref g0, .ref d0, .ref t9, vI ty, vI th1], kI cI v0 21 mv]) := by
  refine gMi_of (cc := cX7_gap) (maxL := 1) (ret := (some .int)) (by decide) rfl (Nat.le_of_ble_eq_true rfl) ?_
  intro p e s m args below meth c A Q hQ hx hb hr hts hown hlocks hnm hml H locs hP hK hD hA hS ls hl
  have hi7 : ∀ w ∈ wsX70, w ∈ wsX7_gap := fun _ h => (List.mem_cons_of_mem _ (List.mem_append_right _ h))
  have hl : lv_has ls 1 [(0, .ref y0)] := hl
  refine lv_aload_n hx hb dX7_gap_0 rfl (lv_at hl 0 rfl) ?_
  refine lv_aload_n hx hb dX7_gap_1 rfl (lv_at hl 0 rfl) ?_
  refine va_get (D := dd) (ci := 7) (v := .ref v0) (C := RX7) (T := TX7) (N := 11) hx hb hts hi7 hown hK hP 0 rfl rfl 1 (by decide) (hts _ (List.mem_cons_of_mem _ (List.mem_append_left _ (List.mem_of_getElem? (i := 0) rfl)))) (fun _ h9 => h9) rfl dX7_gap_2 ?_
  refine z_iconst hx hb dX7_gap_5 ?_
  refine z_iald hx hb hK hP 1 0 rfl rfl (i := 0) (by omega) (by decide) dX7_gap_6 ?_
  refine lv_aload_n hx hb dX7_gap_7 rfl (lv_at hl 0 rfl) ?_
  refine va_get (D := dd) (ci := 7) (v := vI n) (C := RX7) (T := TX7) (N := 11) hx hb hts hi7 hown hK hP 0 rfl rfl 0 (by decide) (hts _ (List.mem_cons_of_mem _ (List.mem_append_left _ (List.mem_of_getElem? (i := 1) rfl)))) (fun _ h9 => h9) rfl dX7_gap_8 ?_
  refine z_icmp_ne (tgt := 18) hx hb dX7_gap_11 (by decide) (by omega) (fun c11 => ?_) (fun c11 => ?_)
  · skip
    refine z_iconst hx hb dX7_gap_18 ?_
    refine va_put (D := dd) (ci := 7) (v := vI 1) (ty := .int) (C := RX7) (T := TX7) (N := 11) hx hb hts hi7 tyX7 tyX7_ok nmX7 hown hK hP hD hS 0 rfl rfl 10 (by decide) (hts _ (List.mem_cons_of_mem _ (List.mem_append_left _ (List.mem_of_getElem? (i := 2) rfl)))) (fun _ h9 => h9) rfl (by decide +kernel) rfl rfl (Nat.le_of_ble_eq_true rfl) dX7_gap_19 (fun H locs hP hD hS => ?_)
    have hP : va_P dd vwCl [kO y0 7 [vI n, .ref v0, .ref a0, vI sts, .ref r0, .ref f0, .ref g0, .ref d0, .ref t9, vI ty, vI 1], kI cI v0 21 mv] H := hP
    have hD : va_D A [kO y0 7 [vI n, .ref v0, .ref a0, vI sts, .ref r0, .ref f0, .ref g0, .ref d0, .ref t9, vI ty, vI 1], kI cI v0 21 mv] := hD
    refine lv_aload_n hx hb dX7_gap_22 rfl (lv_at hl 0 rfl) ?_
    refine va_get (D := dd) (ci := 7) (v := vI 1) (C := RX7) (T := TX7) (N := 11) hx hb hts hi7 hown hK hP 0 rfl rfl 10 (by decide) (hts _ (List.mem_cons_of_mem _ (List.mem_append_left _ (List.mem_of_getElem? (i := 2) rfl)))) (fun _ h9 => h9) rfl dX7_gap_23 ?_
    refine z_if_ne (tgt := 36) hx hb dX7_gap_26 (by decide) (by omega) (fun c26 => ?_) (fun c26 => ?_)
    · skip
      refine z_iconst hx hb dX7_gap_36 ?_
      subst hQ
      refine z_iret (z := 0) hx hb hr hlocks dX7_gap_37 1 hK hS ⟨by omega, by omega⟩ hP hD ?_
      first | exact Or.inl ⟨by omega, rfl, rfl⟩ | exact Or.inr ⟨by omega, rfl, rfl⟩
    · exact absurd c26 (by omega)
  · skip
    refine z_iconst hx hb dX7_gap_14 ?_
    refine lv_goto (tgt := 19) hx hb dX7_gap_15 (by decide) ?_
    refine va_put (D := dd) (ci := 7) (v := vI 0) (ty := .int) (C := RX7) (T := TX7) (N := 11) hx hb hts hi7 tyX7 tyX7_ok nmX7 hown hK hP hD hS 0 rfl rfl 10 (by decide) (hts _ (List.mem_cons_of_mem _ (List.mem_append_left _ (List.mem_of_getElem? (i := 2) rfl)))) (fun _ h9 => h9) rfl (by decide +kernel) rfl rfl (Nat.le_of_ble_eq_true rfl) dX7_gap_19 (fun H locs hP hD hS => ?_)
    have hP : va_P dd vwCl [kO y0 7 [vI n, .ref v0, .ref a0, vI sts, .ref r0, .ref f0, .ref g0, .ref d0, .ref t9, vI ty, vI 0], kI cI v0 21 mv] H := hP
    have hD : va_D A [kO y0 7 [vI n, .ref v0, .ref a0, vI sts, .ref r0, .ref f0, .ref g0, .ref d0, .ref t9, vI ty, vI 0], kI cI v0 21 mv] := hD
    refine lv_aload_n hx hb dX7_gap_22 rfl (lv_at hl 0 rfl) ?_
    refine va_get (D := dd) (ci := 7) (v := vI 0) (C := RX7) (T := TX7) (N := 11) hx hb hts hi7 hown hK hP 0 rfl rfl 10 (by decide) (hts _ (List.mem_cons_of_mem _ (List.mem_append_left _ (List.mem_of_getElem? (i := 2) rfl)))) (fun _ h9 => h9) rfl dX7_gap_23 ?_
    refine z_if_ne (tgt := 36) hx hb dX7_gap_26 (by decide) (by omega) (fun c26 => ?_) (fun c26 => ?_)
    · exact absurd c26 (by omega)
    · skip
      refine lv_aload_n hx hb dX7_gap_29 rfl (lv_at hl 0 rfl) ?_
      refine g_callVi (own := RX7) (n := 0) (mc := 0) (ms := 0) (As := []) (rest := []) (wc := [kO y0 7 [vI n, .ref v0, .ref a0, vI sts, .ref r0, .ref f0, .ref g0, .ref d0, .ref t9, vI ty, vI 0], kI cI v0 21 mv]) (wr := []) hx hb hml hown hts hK hP hD hS hA [0, 1] [] rfl rfl (by decide) (by decide) 7 0 rfl rfl (c_X7_freeOne l dd cI cJ cC cS y0 v0 a0 r0 f0 g0 d0 t9 n sts ty 0 mv H.size  (by first | assumption | omega) (fun j h0 h1 => hwi j h0 (by omega))) gX7_gap_X7_freeOne rfl (by decide +kernel) (by decide) (by decide) (by decide) (by decide) rfl hl.1 rfl (Nat.le_of_ble_eq_true rfl) dX7_gap_30 (fun z_1 u_2 H locs hp30 hP hD hS => ?_)
      subst z_1
      have hP : va_P dd vwCl [kO y0 7 [vI n, .ref v0, .ref a0, vI sts, .ref r0, .ref f0, .ref g0, .ref d0, .ref t9, vI ty, vI 0], kI cI v0 21 mv] H := hP
      have hD : va_D A [kO y0 7 [vI n, .ref v0, .ref a0, vI sts, .ref r0, .ref f0, .ref g0, .ref d0, .ref t9, vI ty, vI 0], kI cI v0 21 mv] := hD
      refine lv_goto (tgt := 37) hx hb dX7_gap_33 (by decide) ?_
      subst hQ
      refine z_iret (z := gapZ n (wv mv)) hx hb hr hlocks dX7_gap_37 0 hK hS ⟨by omega, by omega⟩ hP hD ?_
      first | exact Or.inl ⟨by omega, rfl, rfl⟩ | exact Or.inr ⟨by omega, rfl, rfl⟩

set_option maxHeartbeats 4000000 in
set_option maxRecDepth 100000 in
theorem c_X7_shift (l : Launch) (dd : va_G) (cI cJ cC cS : ClassId) (y0 v0 a0 r0 f0 g0 d0 t9 : Nat) (n sts ty th : Int) (mv : Int → Int) (mp : Int → Int) (sz : Nat) (hst : 0 ≤ sts ∧ sts ≤ 6) (hn : 1 ≤ n ∧ n ≤ 8) (hc0 : 0 ≤ mv 0 ∧ mv 0 ≤ 9) (hc1 : 0 ≤ mv 1 ∧ mv 1 ≤ 3) (hc2 : 0 ≤ mv 2 ∧ mv 2 ≤ 8) (hcap : ∀ j : Int, 0 ≤ j → j < n → 0 ≤ mv (3 + j) ∧ mv (3 + j) ≤ 3) (hwi : ∀ j : Int, 0 ≤ j → j < mv 0 → 0 ≤ mv (12 + j) ∧ mv (12 + j) < n) : gMi l yX7_shift wsX7_shift 3 0 0 dd cI cJ cC cS [.ref y0] [kO y0 7 [vI n, .ref v0, .ref a0, vI sts, .ref r0, .ref f0, .ref g0, .ref d0, .ref t9, vI ty, vI th], kI cI v0 21 mv, kI cI a0 126 mp] sz (fun (z : Int) (u : Int × Int × (Int → Int) × (Int → Int)) => ((mv 0 = n ∧ z = gapZ n (wv mv) ∧ u.2.1 = 0 ∧ u.1 = acS sts ∧ u.2.2.2 = acP sts mp mv ∧ u.2.2.1 = wrP mv (shfZ n (wv mv)) 12 n) ∨ (mv 0 ≠ n ∧ z = 0 ∧ u.2.1 = 1 ∧ u.1 = sts ∧ u.2.2.2 = mp ∧ u.2.2.1 = mv))) (fun (u : Int × Int × (Int → Int) × (Int → Int)) => [kO y0 7 [vI n, .ref v0, .ref a0, vI u.1, .ref r0, .ref f0, .ref g0, .ref d0, .ref t9, vI ty, vI u.2.1], kI cI v0 21 u.2.2.1, kI cI a0 126 u.2.2.2]) := by
  refine gMi_of (cc := cX7_shift) (maxL := 3) (ret := (some .int)) (by decide) rfl (Nat.le_of_ble_eq_true rfl) ?_
  intro p e s m args below meth c A Q hQ hx hb hr hts hown hlocks hnm hml H locs hP hK hD hA hS ls hl
  have hi7 : ∀ w ∈ wsX70, w ∈ wsX7_shift := fun _ h => (List.mem_cons_of_mem _ (List.mem_append_right _ h))
  have hl : lv_has ls 3 [(0, .ref y0)] := hl
  refine lv_aload_n hx hb dX7_shift_0 rfl (lv_at hl 0 rfl) ?_
  refine lv_aload_n hx hb dX7_shift_1 rfl (lv_at hl 0 rfl) ?_
  refine va_get (D := dd) (ci := 7) (v := .ref v0) (C := RX7) (T := TX7) (N := 11) hx hb hts hi7 hown hK hP 0 rfl rfl 1 (by decide) (hts _ (List.mem_cons_of_mem _ (List.mem_append_left _ (List.mem_of_getElem? (i := 0) rfl)))) (fun _ h9 => h9) rfl dX7_shift_2 ?_
  refine z_iconst hx hb dX7_shift_5 ?_
  refine z_iald hx hb hK hP 1 0 rfl rfl (i := 0) (by omega) (by decide) dX7_shift_6 ?_
  refine lv_aload_n hx hb dX7_shift_7 rfl (lv_at hl 0 rfl) ?_
  refine va_get (D := dd) (ci := 7) (v := vI n) (C := RX7) (T := TX7) (N := 11) hx hb hts hi7 hown hK hP 0 rfl rfl 0 (by decide) (hts _ (List.mem_cons_of_mem _ (List.mem_append_left _ (List.mem_of_getElem? (i := 1) rfl)))) (fun _ h9 => h9) rfl dX7_shift_8 ?_
  refine z_icmp_ne (tgt := 18) hx hb dX7_shift_11 (by decide) (by omega) (fun c11 => ?_) (fun c11 => ?_)
  · skip
    refine z_iconst hx hb dX7_shift_18 ?_
    refine va_put (D := dd) (ci := 7) (v := vI 1) (ty := .int) (C := RX7) (T := TX7) (N := 11) hx hb hts hi7 tyX7 tyX7_ok nmX7 hown hK hP hD hS 0 rfl rfl 10 (by decide) (hts _ (List.mem_cons_of_mem _ (List.mem_append_left _ (List.mem_of_getElem? (i := 2) rfl)))) (fun _ h9 => h9) rfl (by decide +kernel) rfl rfl (Nat.le_of_ble_eq_true rfl) dX7_shift_19 (fun H locs hP hD hS => ?_)
    have hP : va_P dd vwCl [kO y0 7 [vI n, .ref v0, .ref a0, vI sts, .ref r0, .ref f0, .ref g0, .ref d0, .ref t9, vI ty, vI 1], kI cI v0 21 mv, kI cI a0 126 mp] H := hP
    have hD : va_D A [kO y0 7 [vI n, .ref v0, .ref a0, vI sts, .ref r0, .ref f0, .ref g0, .ref d0, .ref t9, vI ty, vI 1], kI cI v0 21 mv, kI cI a0 126 mp] := hD
    refine lv_aload_n hx hb dX7_shift_22 rfl (lv_at hl 0 rfl) ?_
    refine va_get (D := dd) (ci := 7) (v := vI 1) (C := RX7) (T := TX7) (N := 11) hx hb hts hi7 hown hK hP 0 rfl rfl 10 (by decide) (hts _ (List.mem_cons_of_mem _ (List.mem_append_left _ (List.mem_of_getElem? (i := 2) rfl)))) (fun _ h9 => h9) rfl dX7_shift_23 ?_
    refine z_if_eq (tgt := 31) hx hb dX7_shift_26 (by decide) (by omega) (fun c26 => ?_) (fun c26 => ?_)
    · exact absurd c26 (by omega)
    · skip
      refine z_iconst hx hb dX7_shift_29 ?_
      subst hQ
      refine z_iret (z := 0) hx hb hr hlocks dX7_shift_30 (sts, 1, mv, mp) hK hS ⟨by omega, by omega⟩ hP hD ?_
      exact Or.inr ⟨by omega, rfl, rfl, rfl, rfl, rfl⟩
  · skip
    refine z_iconst hx hb dX7_shift_14 ?_
    refine lv_goto (tgt := 19) hx hb dX7_shift_15 (by decide) ?_
    refine va_put (D := dd) (ci := 7) (v := vI 0) (ty := .int) (C := RX7) (T := TX7) (N := 11) hx hb hts hi7 tyX7 tyX7_ok nmX7 hown hK hP hD hS 0 rfl rfl 10 (by decide) (hts _ (List.mem_cons_of_mem _ (List.mem_append_left _ (List.mem_of_getElem? (i := 2) rfl)))) (fun _ h9 => h9) rfl (by decide +kernel) rfl rfl (Nat.le_of_ble_eq_true rfl) dX7_shift_19 (fun H locs hP hD hS => ?_)
    have hP : va_P dd vwCl [kO y0 7 [vI n, .ref v0, .ref a0, vI sts, .ref r0, .ref f0, .ref g0, .ref d0, .ref t9, vI ty, vI 0], kI cI v0 21 mv, kI cI a0 126 mp] H := hP
    have hD : va_D A [kO y0 7 [vI n, .ref v0, .ref a0, vI sts, .ref r0, .ref f0, .ref g0, .ref d0, .ref t9, vI ty, vI 0], kI cI v0 21 mv, kI cI a0 126 mp] := hD
    refine lv_aload_n hx hb dX7_shift_22 rfl (lv_at hl 0 rfl) ?_
    refine va_get (D := dd) (ci := 7) (v := vI 0) (C := RX7) (T := TX7) (N := 11) hx hb hts hi7 hown hK hP 0 rfl rfl 10 (by decide) (hts _ (List.mem_cons_of_mem _ (List.mem_append_left _ (List.mem_of_getElem? (i := 2) rfl)))) (fun _ h9 => h9) rfl dX7_shift_23 ?_
    refine z_if_eq (tgt := 31) hx hb dX7_shift_26 (by decide) (by omega) (fun c26 => ?_) (fun c26 => ?_)
    · skip
      refine lv_aload_n hx hb dX7_shift_31 rfl (lv_at hl 0 rfl) ?_
      refine g_callVv (own := RX7) (n := 0) (mc := 0) (ms := 0) (As := []) (rest := []) (wc := [kO y0 7 [vI n, .ref v0, .ref a0, vI sts, .ref r0, .ref f0, .ref g0, .ref d0, .ref t9, vI ty, vI 0], kI cI v0 21 mv, kI cI a0 126 mp]) (wr := []) hx hb hml hown hts hK hP hD hS hA [0, 1, 2] [] rfl rfl (by decide) (by decide) 7 0 rfl rfl (c_X7_act l dd cI cJ cC cS y0 v0 a0 r0 f0 g0 d0 t9 n sts ty 0 mv mp H.size  (by first | assumption | omega)) gX7_shift_X7_act rfl (by decide +kernel) (by decide) (by decide) (by decide) (by decide) rfl hl.1 rfl (Nat.le_of_ble_eq_true rfl) dX7_shift_32 (fun u_1 H locs hp32 hP hD hS => ?_)
      have hP : va_P dd vwCl [kO y0 7 [vI n, .ref v0, .ref a0, vI (acS sts), .ref r0, .ref f0, .ref g0, .ref d0, .ref t9, vI ty, vI 0], kI cI v0 21 mv, kI cI a0 126 (acP sts mp mv)] H := hP
      have hD : va_D A [kO y0 7 [vI n, .ref v0, .ref a0, vI (acS sts), .ref r0, .ref f0, .ref g0, .ref d0, .ref t9, vI ty, vI 0], kI cI v0 21 mv, kI cI a0 126 (acP sts mp mv)] := hD
      refine lv_aload_n hx hb dX7_shift_35 rfl (lv_at hl 0 rfl) ?_
      refine g_callVi (own := RX7) (n := 0) (mc := 0) (ms := 0) (As := []) (rest := []) (wc := [kO y0 7 [vI n, .ref v0, .ref a0, vI (acS sts), .ref r0, .ref f0, .ref g0, .ref d0, .ref t9, vI ty, vI 0], kI cI v0 21 mv]) (wr := [kI cI a0 126 (acP sts mp mv)]) hx hb hml hown hts hK hP hD hS hA [0, 1] [2] rfl rfl (by decide) (by decide) 7 0 rfl rfl (c_X7_freeOne l dd cI cJ cC cS y0 v0 a0 r0 f0 g0 d0 t9 n (acS sts) ty 0 mv H.size  (by first | assumption | omega) (fun j h0 h1 => hwi j h0 (by omega))) gX7_shift_X7_freeOne rfl (by decide +kernel) (by decide) (by decide) (by decide) (by decide) rfl hl.1 rfl (Nat.le_of_ble_eq_true rfl) dX7_shift_36 (fun z_2 u_3 H locs hp36 hP hD hS => ?_)
      subst z_2
      have hP : va_P dd vwCl [kI cI a0 126 (acP sts mp mv), kO y0 7 [vI n, .ref v0, .ref a0, vI (acS sts), .ref r0, .ref f0, .ref g0, .ref d0, .ref t9, vI ty, vI 0], kI cI v0 21 mv] H := hP
      have hD : va_D A [kI cI a0 126 (acP sts mp mv), kO y0 7 [vI n, .ref v0, .ref a0, vI (acS sts), .ref r0, .ref f0, .ref g0, .ref d0, .ref t9, vI ty, vI 0], kI cI v0 21 mv] := hD
      have hat := tk_at hn (wi := wv mv) (fun j h0 h1 => hwi j h0 (by omega)) (i := n) (by omega) (s := 0) (by omega)
      have hgr : 0 ≤ gapZ n (wv mv) ∧ gapZ n (wv mv) ≤ n := ⟨hat.2.2.1, hat.2.2.2.1⟩
      refine lv_istore_n (lv' := [(1, vI (gapZ n (wv mv))), (0, .ref y0)]) hx hb dX7_shift_39 rfl hl (by decide) rfl (fun ls hl => ?_)
      refine z_iconst hx hb dX7_shift_40 ?_
      refine lv_istore_n (lv' := [(2, vI 0), (1, vI (gapZ n (wv mv))), (0, .ref y0)]) hx hb dX7_shift_41 rfl hl (by decide) rfl (fun ls hl => ?_)
      have L42 : ∀ (nn : Nat) (i : Int) (H : Heap) (locs : List Loc) (ls : Array Slot), ((n + 1 - i).toNat) = nn → (0 ≤ i ∧ i ≤ n) → va_P dd vwCl [kI cI a0 126 (acP sts mp mv), kO y0 7 [vI n, .ref v0, .ref a0, vI (acS sts), .ref r0, .ref f0, .ref g0, .ref d0, .ref t9, vI ty, vI 0], kI cI v0 21 (wrP mv (shfZ n (wv mv)) 12 i)] H → va_D A [kI cI a0 126 (acP sts mp mv), kO y0 7 [vI n, .ref v0, .ref a0, vI (acS sts), .ref r0, .ref f0, .ref g0, .ref d0, .ref t9, vI ty, vI 0], kI cI v0 21 (wrP mv (shfZ n (wv mv)) 12 i)] → va_S A s.heap H locs → lv_has ls 3 [(2, vI i), (1, vI (gapZ n (wv mv))), (0, .ref y0)] → W p l e (gR 3 0 0) s m args below meth c H locs 0 0 Q (F0 m 42 ls []) := by
        intro nn
        induction nn using Nat.strongRecOn with
        | ind nn L42i =>
        intro i H locs ls hmeas hi hP hD hS hl
        refine lv_iload_n hx hb dX7_shift_42 rfl (lv_at hl 0 rfl) ?_
        refine lv_aload_n hx hb dX7_shift_43 rfl (lv_at hl 2 rfl) ?_
        refine va_get (D := dd) (ci := 7) (v := vI n) (C := RX7) (T := TX7) (N := 11) hx hb hts hi7 hown hK hP 1 rfl rfl 0 (by decide) (hts _ (List.mem_cons_of_mem _ (List.mem_append_left _ (List.mem_of_getElem? (i := 1) rfl)))) (fun _ h9 => h9) rfl dX7_shift_44 ?_
        refine z_icmp_ge (tgt := 94) hx hb dX7_shift_47 (by decide) (by omega) (fun c47 => ?_) (fun c47 => ?_)
        · skip
          refine lv_iload_n hx hb dX7_shift_94 rfl (lv_at hl 1 rfl) ?_
          subst hQ
          refine z_iret (z := gapZ n (wv mv)) hx hb hr hlocks dX7_shift_95 ((acS sts), 0, (wrP mv (shfZ n (wv mv)) 12 i), (acP sts mp mv)) hK hS ⟨by omega, by omega⟩ (hP.sub [1, 2, 0] rfl) (hD.sub [1, 2, 0] (by decide) rfl) ?_
          exact Or.inl ⟨by omega, rfl, rfl, rfl, rfl, by rw [show i = n by omega]⟩
        · skip
          refine lv_aload_n hx hb dX7_shift_50 rfl (lv_at hl 2 rfl) ?_
          refine va_get (D := dd) (ci := 7) (v := .ref v0) (C := RX7) (T := TX7) (N := 11) hx hb hts hi7 hown hK hP 1 rfl rfl 1 (by decide) (hts _ (List.mem_cons_of_mem _ (List.mem_append_left _ (List.mem_of_getElem? (i := 0) rfl)))) (fun _ h9 => h9) rfl dX7_shift_51 ?_
          refine z_bipush hx hb dX7_shift_54 (by decide +kernel) ?_
          refine lv_iload_n hx hb dX7_shift_56 rfl (lv_at hl 0 rfl) ?_
          refine z_iadd (z := (12 + i)) hx hb rfl dX7_shift_57 ?_
          refine lv_aload_n hx hb dX7_shift_58 rfl (lv_at hl 2 rfl) ?_
          refine va_get (D := dd) (ci := 7) (v := .ref v0) (C := RX7) (T := TX7) (N := 11) hx hb hts hi7 hown hK hP 1 rfl rfl 1 (by decide) (hts _ (List.mem_cons_of_mem _ (List.mem_append_left _ (List.mem_of_getElem? (i := 0) rfl)))) (fun _ h9 => h9) rfl dX7_shift_59 ?_
          refine z_bipush hx hb dX7_shift_62 (by decide +kernel) ?_
          refine lv_iload_n hx hb dX7_shift_64 rfl (lv_at hl 0 rfl) ?_
          refine z_iadd (z := (12 + i)) hx hb rfl dX7_shift_65 ?_
          refine z_iald hx hb hK hP 2 0 rfl rfl (i := (12 + i)) (by omega) (by decide) dX7_shift_66 ?_
          refine z_bin (va := .null) (vb := .null) (y := zI (wv mv i)) (congrArg zI (if_neg (by omega))) ?_
          refine lv_iload_n hx hb dX7_shift_67 rfl (lv_at hl 1 rfl) ?_
          have hw2 : 0 ≤ wv mv i ∧ wv mv i < n := hwi i (by omega) (by omega)
          refine z_isub (z := ((wv mv i) - gapZ n (wv mv))) hx hb rfl dX7_shift_68 ?_
          refine z_iconst hx hb dX7_shift_69 ?_
          refine z_isub (z := (((wv mv i) - gapZ n (wv mv)) - 1)) hx hb rfl dX7_shift_70 ?_
          refine z_iconst hx hb dX7_shift_71 ?_
          refine lv_aload_n hx hb dX7_shift_72 rfl (lv_at hl 2 rfl) ?_
          refine va_get (D := dd) (ci := 7) (v := vI n) (C := RX7) (T := TX7) (N := 11) hx hb hts hi7 hown hK hP 1 rfl rfl 0 (by decide) (hts _ (List.mem_cons_of_mem _ (List.mem_append_left _ (List.mem_of_getElem? (i := 1) rfl)))) (fun _ h9 => h9) rfl dX7_shift_73 ?_
          refine z_iconst hx hb dX7_shift_76 ?_
          refine z_iadd (z := (n + 1)) hx hb rfl dX7_shift_77 ?_
          refine z_imul (z := (2 * (n + 1))) hx hb rfl dX7_shift_78 ?_
          refine z_iadd (z := ((((wv mv i) - gapZ n (wv mv)) - 1) + (2 * (n + 1)))) hx hb rfl dX7_shift_79 ?_
          refine lv_aload_n hx hb dX7_shift_80 rfl (lv_at hl 2 rfl) ?_
          refine va_get (D := dd) (ci := 7) (v := vI n) (C := RX7) (T := TX7) (N := 11) hx hb hts hi7 hown hK hP 1 rfl rfl 0 (by decide) (hts _ (List.mem_cons_of_mem _ (List.mem_append_left _ (List.mem_of_getElem? (i := 1) rfl)))) (fun _ h9 => h9) rfl dX7_shift_81 ?_
          refine z_iconst hx hb dX7_shift_84 ?_
          refine z_iadd (z := (n + 1)) hx hb rfl dX7_shift_85 ?_
          refine z_irem (z := (shfZ n (wv mv) i)) hx hb (by omega) (sh_mod (by omega)) dX7_shift_86 ?_
          refine z_iast (ws' := [kI cI a0 126 (acP sts mp mv), kO y0 7 [vI n, .ref v0, .ref a0, vI (acS sts), .ref r0, .ref f0, .ref g0, .ref d0, .ref t9, vI ty, vI 0], kI cI v0 21 (uZ (wrP mv (shfZ n (wv mv)) 12 i) (12 + i) (shfZ n (wv mv) i))]) hx hb hK hP hD hS 2 0 rfl rfl (i := (12 + i)) (x := (shfZ n (wv mv) i)) (by omega) (by decide) dX7_shift_87 rfl (fun H locs hP hD hS => ?_)
          refine z_iinc (a := i) (z := (i + 1)) (lv' := [(2, vI (i + 1)), (1, vI (gapZ n (wv mv))), (0, .ref y0)]) hx hb dX7_shift_88 hl (k := 0) rfl rfl (by decide) rfl (fun ls hl => ?_)
          refine lv_goto (tgt := 42) hx hb dX7_shift_91 (by decide) ?_
          have el_4 : kI cI v0 21 (uZ (wrP mv (shfZ n (wv mv)) 12 i) (12 + i) (shfZ n (wv mv) i)) = kI cI v0 21 (wrP mv (shfZ n (wv mv)) 12 (i + 1)) := kI_congr (congrArg aZ (by first | exact wrP_0 _ _ _ | exact wrP_s (by omega)))
          rw [el_4] at hP hD
          exact L42i _ (by omega) (i + 1) H locs ls rfl (by omega) hP hD hS hl
      have el_5 : kI cI v0 21 mv = kI cI v0 21 (wrP mv (shfZ n (wv mv)) 12 0) := kI_congr (congrArg aZ (by first | exact wrP_0 _ _ _ | exact wrP_s (by omega)))
      rw [el_5] at hP hD
      exact L42 _ 0 H locs ls rfl (by omega) hP hD hS hl
    · exact absurd c26 (by omega)

set_option maxHeartbeats 4000000 in
set_option maxRecDepth 100000 in
theorem c_X7_labelOf (l : Launch) (dd : va_G) (cI cJ cC cS : ClassId) (y0 v0 a0 r0 f0 g0 d0 t9 : Nat) (n sts ty th : Int) (mv : Int → Int) (v : Int) (sz : Nat) (hn : 1 ≤ n ∧ n ≤ 8) (hwi : ∀ j : Int, 0 ≤ j → j < n → 0 ≤ mv (12 + j) ∧ mv (12 + j) < n) (hrow : 0 ≤ v ∧ v < n) : gMi l yX7_labelOf wsX7_labelOf 1 0 0 dd cI cJ cC cS [.ref y0, vI v] [kO y0 7 [vI n, .ref v0, .ref a0, vI sts, .ref r0, .ref f0, .ref g0, .ref d0, .ref t9, vI ty, vI th], kI cI v0 21 mv] sz (fun (z : Int) (_ : Unit) => z = labZ (wv mv) n v) (fun (_ : Unit) => [kO y0 7 [vI n, .ref v0, .ref a0, vI sts, .ref r0, .ref f0, .ref g0, .ref d0, .ref t9, vI ty, vI th], kI cI v0 21 mv]) := by
  refine gMi_of (cc := cX7_labelOf) (maxL := 5) (ret := (some .int)) (by decide) rfl (Nat.le_of_ble_eq_true rfl) ?_
  intro p e s m args below meth c A Q hQ hx hb hr hts hown hlocks hnm hml H locs hP hK hD hA hS ls hl
  have hi7 : ∀ w ∈ wsX70, w ∈ wsX7_labelOf := fun _ h => (List.mem_cons_of_mem _ (List.mem_append_right _ h))
  have hl : lv_has ls 5 [(0, .ref y0), (1, vI v)] := hl
  refine lv_iload_n hx hb dX7_labelOf_0 rfl (lv_at hl 1 rfl) ?_
  refine lv_istore_n (lv' := [(2, vI v), (0, .ref y0), (1, vI v)]) hx hb dX7_labelOf_1 rfl hl (by decide) rfl (fun ls hl => ?_)
  refine z_iconst hx hb dX7_labelOf_2 ?_
  refine lv_istore_n (lv' := [(3, vI 0), (2, vI v), (0, .ref y0), (1, vI v)]) hx hb dX7_labelOf_3 rfl hl (by decide) rfl (fun ls hl => ?_)
  have L4 : ∀ (nn : Nat) (s9 : Int) (b : Int) (H : Heap) (locs : List Loc) (ls : Array Slot), ((n + 1 - s9).toNat) = nn → (0 ≤ s9 ∧ s9 ≤ n) → (0 ≤ b ∧ b ≤ n) → (b = v - rR (wv mv) n s9 0) → va_P dd vwCl [kO y0 7 [vI n, .ref v0, .ref a0, vI sts, .ref r0, .ref f0, .ref g0, .ref d0, .ref t9, vI ty, vI th], kI cI v0 21 mv] H → va_D A [kO y0 7 [vI n, .ref v0, .ref a0, vI sts, .ref r0, .ref f0, .ref g0, .ref d0, .ref t9, vI ty, vI th], kI cI v0 21 mv] → va_S A s.heap H locs → lv_has ls 5 [(2, vI b), (3, vI s9), (0, .ref y0), (1, vI v)] → W p l e (gR 1 0 0) s m args below meth c H locs 0 0 Q (F0 m 4 ls []) := by
    intro nn
    induction nn using Nat.strongRecOn with
    | ind nn L4i =>
    intro s9 b H locs ls hmeas hs9 hb9 hbb hP hD hS hl
    refine lv_iload_n hx hb dX7_labelOf_4 rfl (lv_at hl 1 rfl) ?_
    refine lv_aload_n hx hb dX7_labelOf_5 rfl (lv_at hl 2 rfl) ?_
    refine va_get (D := dd) (ci := 7) (v := vI n) (C := RX7) (T := TX7) (N := 11) hx hb hts hi7 hown hK hP 0 rfl rfl 0 (by decide) (hts _ (List.mem_cons_of_mem _ (List.mem_append_left _ (List.mem_of_getElem? (i := 0) rfl)))) (fun _ h9 => h9) rfl dX7_labelOf_6 ?_
    refine z_icmp_ge (tgt := 60) hx hb dX7_labelOf_9 (by decide) (by omega) (fun c9 => ?_) (fun c9 => ?_)
    · skip
      refine z_iconst hx hb dX7_labelOf_60 ?_
      subst hQ
      refine z_iret (z := (-1)) hx hb hr hlocks dX7_labelOf_61 () hK hS ⟨by omega, by omega⟩ hP hD ?_
      exfalso
      rw [show s9 = n by omega, rR_all (wi := wv mv) (by omega) (fun j h0 h1 => (hwi j h0 h1).2)] at hbb
      omega
    · skip
      refine z_iconst hx hb dX7_labelOf_12 ?_
      refine lv_istore (lv' := [(4, vI 0), (2, vI b), (3, vI s9), (0, .ref y0), (1, vI v)]) hx hb dX7_labelOf_13 hl (by decide) rfl (fun ls hl => ?_)
      have L15 : ∀ (nn : Nat) (c9 : Int) (b2 : Int) (H : Heap) (locs : List Loc) (ls : Array Slot), ((n + 1 - c9).toNat) = nn → (0 ≤ c9 ∧ c9 ≤ n) → (0 ≤ b2 ∧ b2 ≤ n) → (b2 = v - rR (wv mv) n s9 c9) → va_P dd vwCl [kO y0 7 [vI n, .ref v0, .ref a0, vI sts, .ref r0, .ref f0, .ref g0, .ref d0, .ref t9, vI ty, vI th], kI cI v0 21 mv] H → va_D A [kO y0 7 [vI n, .ref v0, .ref a0, vI sts, .ref r0, .ref f0, .ref g0, .ref d0, .ref t9, vI ty, vI th], kI cI v0 21 mv] → va_S A s.heap H locs → lv_has ls 5 [(2, vI b2), (4, vI c9), (3, vI s9), (0, .ref y0), (1, vI v)] → W p l e (gR 1 0 0) s m args below meth c H locs 0 0 Q (F0 m 15 ls []) := by
        intro nn
        induction nn using Nat.strongRecOn with
        | ind nn L15i =>
        intro c9 b2 H locs ls hmeas hc9 hb8 hb2 hP hD hS hl
        refine lv_iload hx hb dX7_labelOf_15 (lv_at hl 1 rfl) ?_
        refine lv_aload_n hx hb dX7_labelOf_17 rfl (lv_at hl 3 rfl) ?_
        refine va_get (D := dd) (ci := 7) (v := vI n) (C := RX7) (T := TX7) (N := 11) hx hb hts hi7 hown hK hP 0 rfl rfl 0 (by decide) (hts _ (List.mem_cons_of_mem _ (List.mem_append_left _ (List.mem_of_getElem? (i := 0) rfl)))) (fun _ h9 => h9) rfl dX7_labelOf_18 ?_
        refine z_icmp_ge (tgt := 54) hx hb dX7_labelOf_21 (by decide) (by omega) (fun c21 => ?_) (fun c21 => ?_)
        · skip
          refine z_iinc (a := s9) (z := (s9 + 1)) (lv' := [(3, vI (s9 + 1)), (2, vI b2), (4, vI c9), (0, .ref y0), (1, vI v)]) hx hb dX7_labelOf_54 hl (k := 2) rfl rfl (by decide) rfl (fun ls hl => ?_)
          refine lv_goto (tgt := 4) hx hb dX7_labelOf_57 (by decide) ?_
          exact L4i _ (by omega) (s9 + 1) b2 H locs ls rfl (by omega) (by omega) (by rw [rR_0, ← rR_n]; rw [show c9 = n by omega] at hb2; exact hb2) hP hD hS (lv_sub hl [1, 0, 3, 4] rfl)
        · skip
          refine lv_aload_n hx hb dX7_labelOf_24 rfl (lv_at hl 3 rfl) ?_
          refine va_get (D := dd) (ci := 7) (v := .ref v0) (C := RX7) (T := TX7) (N := 11) hx hb hts hi7 hown hK hP 0 rfl rfl 1 (by decide) (hts _ (List.mem_cons_of_mem _ (List.mem_append_left _ (List.mem_of_getElem? (i := 1) rfl)))) (fun _ h9 => h9) rfl dX7_labelOf_25 ?_
          refine z_bipush hx hb dX7_labelOf_28 (by decide +kernel) ?_
          refine lv_iload hx hb dX7_labelOf_30 (lv_at hl 1 rfl) ?_
          refine z_iadd (z := (12 + c9)) hx hb rfl dX7_labelOf_32 ?_
          refine z_iald hx hb hK hP 1 0 rfl rfl (i := (12 + c9)) (by omega) (by decide) dX7_labelOf_33 ?_
          have hw2 := hwi c9 (by omega) (by omega)
          have hwc : wv mv c9 = (mv (12 + c9)) := rfl
          refine lv_iload_n hx hb dX7_labelOf_34 rfl (lv_at hl 2 rfl) ?_
          refine z_icmp_ne (tgt := 48) hx hb dX7_labelOf_35 (by decide) (by omega) (fun c35 => ?_) (fun c35 => ?_)
          · skip
            refine z_iinc (a := c9) (z := (c9 + 1)) (lv' := [(4, vI (c9 + 1)), (2, vI b2), (3, vI s9), (0, .ref y0), (1, vI v)]) hx hb dX7_labelOf_48 hl (k := 1) rfl rfl (by decide) rfl (fun ls hl => ?_)
            refine lv_goto (tgt := 15) hx hb dX7_labelOf_51 (by decide) ?_
            exact L15i _ (by omega) (c9 + 1) b2 H locs ls rfl (by omega) (by omega) (by rw [rR_s (by omega), if_neg (fun u => c35 (hwc.symm.trans u))]; omega) hP hD hS (lv_sub hl [1, 0, 2, 3, 4] rfl)
          · skip
            refine lv_iload_n hx hb dX7_labelOf_38 rfl (lv_at hl 0 rfl) ?_
            refine z_if_ne (tgt := 45) hx hb dX7_labelOf_39 (by decide) (by omega) (fun c39 => ?_) (fun c39 => ?_)
            · skip
              refine z_iinc (a := b2) (z := (b2 - 1)) (lv' := [(2, vI (b2 - 1)), (4, vI c9), (3, vI s9), (0, .ref y0), (1, vI v)]) hx hb dX7_labelOf_45 hl (k := 0) rfl (by omega) (by decide) rfl (fun ls hl => ?_)
              refine z_iinc (a := c9) (z := (c9 + 1)) (lv' := [(4, vI (c9 + 1)), (2, vI (b2 - 1)), (3, vI s9), (0, .ref y0), (1, vI v)]) hx hb dX7_labelOf_48 hl (k := 1) rfl rfl (by decide) rfl (fun ls hl => ?_)
              refine lv_goto (tgt := 15) hx hb dX7_labelOf_51 (by decide) ?_
              exact L15i _ (by omega) (c9 + 1) (b2 - 1) H locs ls rfl (by omega) (by omega) (by rw [rR_s (by omega), if_pos (show wv mv c9 = s9 from hwc.trans c35)]; omega) hP hD hS (lv_sub hl [1, 0, 2, 3, 4] rfl)
            · skip
              refine lv_iload hx hb dX7_labelOf_42 (lv_at hl 1 rfl) ?_
              subst hQ
              refine z_iret (z := c9) hx hb hr hlocks dX7_labelOf_44 () hK hS ⟨by omega, by omega⟩ hP hD ?_
              have hk : rk (wv mv) n c9 = v := by
                show rR (wv mv) n (wv mv c9) c9 = v
                rw [show wv mv c9 = s9 from hwc.trans c35]
                omega
              rw [← hk, labZ_rk ⟨by omega, by omega⟩]
      exact L15 _ 0 b H locs ls rfl (by omega) (by omega) (hbb) hP hD hS (lv_sub hl [1, 0, 2, 3, 4] rfl)
  exact L4 _ 0 v H locs ls rfl (by omega) (by omega) (by rw [rR_0, cntB_0 (wi := wv mv) _ (fun j h0 h1 => (hwi j h0 (by omega)).1)]; omega) hP hD hS (lv_sub hl [1, 0, 2, 3] rfl)

set_option maxHeartbeats 4000000 in
set_option maxRecDepth 100000 in
theorem c_X7_areaAt (l : Launch) (dd : va_G) (cI cJ cC cS : ClassId) (y0 v0 a0 r0 f0 g0 d0 t9 : Nat) (n sts ty th : Int) (mv : Int → Int) (v : Int) (sz : Nat) (hn : 1 ≤ n ∧ n ≤ 8) (hwi : ∀ j : Int, 0 ≤ j → j < n → 0 ≤ mv (12 + j) ∧ mv (12 + j) < n) (hrow : 0 ≤ v ∧ v < n) : gMi l yX7_areaAt wsX7_areaAt 2 0 0 dd cI cJ cC cS [.ref y0, vI v] [kO y0 7 [vI n, .ref v0, .ref a0, vI sts, .ref r0, .ref f0, .ref g0, .ref d0, .ref t9, vI ty, vI th], kI cI v0 21 mv] sz (fun (z : Int) (_ : Unit) => z = arZ (wv mv) n v) (fun (_ : Unit) => [kO y0 7 [vI n, .ref v0, .ref a0, vI sts, .ref r0, .ref f0, .ref g0, .ref d0, .ref t9, vI ty, vI th], kI cI v0 21 mv]) := by
  refine gMi_of (cc := cX7_areaAt) (maxL := 2) (ret := (some .int)) (by decide) rfl (Nat.le_of_ble_eq_true rfl) ?_
  intro p e s m args below meth c A Q hQ hx hb hr hts hown hlocks hnm hml H locs hP hK hD hA hS ls hl
  have hi7 : ∀ w ∈ wsX70, w ∈ wsX7_areaAt := fun _ h => (List.mem_cons_of_mem _ (List.mem_append_right _ h))
  have hl : lv_has ls 2 [(0, .ref y0), (1, vI v)] := hl
  refine lv_iload_n hx hb dX7_areaAt_0 rfl (lv_at hl 1 rfl) ?_
  refine lv_aload_n hx hb dX7_areaAt_1 rfl (lv_at hl 0 rfl) ?_
  refine va_get (D := dd) (ci := 7) (v := .ref v0) (C := RX7) (T := TX7) (N := 11) hx hb hts hi7 hown hK hP 0 rfl rfl 1 (by decide) (hts _ (List.mem_cons_of_mem _ (List.mem_append_left _ (List.mem_of_getElem? (i := 0) rfl)))) (fun _ h9 => h9) rfl dX7_areaAt_2 ?_
  refine z_bipush hx hb dX7_areaAt_5 (by decide +kernel) ?_
  refine lv_aload_n hx hb dX7_areaAt_7 rfl (lv_at hl 0 rfl) ?_
  refine lv_iload_n hx hb dX7_areaAt_8 rfl (lv_at hl 1 rfl) ?_
  refine g_callVi (own := RX7) (n := 1) (mc := 0) (ms := 0) (As := [vI v]) (rest := [vI 12, .ref v0, vI v]) (wc := [kO y0 7 [vI n, .ref v0, .ref a0, vI sts, .ref r0, .ref f0, .ref g0, .ref d0, .ref t9, vI ty, vI th], kI cI v0 21 mv]) (wr := []) hx hb hml hown hts hK hP hD hS hA [0, 1] [] rfl rfl (by decide) (by decide) 7 0 rfl rfl (c_X7_labelOf l dd cI cJ cC cS y0 v0 a0 r0 f0 g0 d0 t9 n sts ty th mv v H.size  (by first | assumption | omega) (by first | assumption | (intro j h0 h1; omega)) (by first | assumption | omega)) gX7_areaAt_X7_labelOf rfl (by decide +kernel) (by decide) (by decide) (by decide) (by decide) rfl hl.1 rfl (Nat.le_of_ble_eq_true rfl) dX7_areaAt_9 (fun z_1 u_2 H locs hp9 hP hD hS => ?_)
  subst z_1
  have hP : va_P dd vwCl [kO y0 7 [vI n, .ref v0, .ref a0, vI sts, .ref r0, .ref f0, .ref g0, .ref d0, .ref t9, vI ty, vI th], kI cI v0 21 mv] H := hP
  have hD : va_D A [kO y0 7 [vI n, .ref v0, .ref a0, vI sts, .ref r0, .ref f0, .ref g0, .ref d0, .ref t9, vI ty, vI th], kI cI v0 21 mv] := hD
  have hla := labZ_at (wi := wv mv) (ct := n) (r := v) (by omega)
  refine z_iadd (z := (12 + labZ (wv mv) n v)) hx hb rfl dX7_areaAt_12 ?_
  refine z_iald hx hb hK hP 1 0 rfl rfl (i := (12 + labZ (wv mv) n v)) (by omega) (by decide) dX7_areaAt_13 ?_
  refine z_isub (z := (v - (mv (12 + labZ (wv mv) n v)))) hx hb rfl dX7_areaAt_14 ?_
  subst hQ
  refine z_iret (z := (v - (mv (12 + labZ (wv mv) n v)))) hx hb hr hlocks dX7_areaAt_15 () hK hS ⟨by omega, by omega⟩ hP hD ?_
  rfl

set_option maxHeartbeats 4000000 in
set_option maxRecDepth 100000 in
theorem c_X7_isWrong (l : Launch) (dd : va_G) (cI cJ cC cS : ClassId) (y0 v0 a0 r0 f0 g0 d0 t9 : Nat) (n sts ty th : Int) (mv : Int → Int) (v mo : Int) (sz : Nat) (hn : 1 ≤ n ∧ n ≤ 8) (hc0 : 0 ≤ mv 0 ∧ mv 0 ≤ 9) (hwi : ∀ j : Int, 0 ≤ j → j < mv 0 → 0 ≤ mv (12 + j) ∧ mv (12 + j) < n) (hgv : rg v) (hmo : 1 ≤ mo ∧ mo ≤ 24) : gMi l yX7_isWrong wsX7_isWrong 3 0 0 dd cI cJ cC cS [.ref y0, vI v, vI mo] [kO y0 7 [vI n, .ref v0, .ref a0, vI sts, .ref r0, .ref f0, .ref g0, .ref d0, .ref t9, vI ty, vI th], kI cI v0 21 mv] sz (fun (z : Int) (th1 : Int) => ((0 ≤ v ∧ v < mo) ∧ (stdB (wv mv) (mv 0) n) ∧ z = 0 ∧ th1 = 0) ∨ ((¬ (0 ≤ v ∧ v < mo)) ∧ z = 1 ∧ th1 = 1) ∨ ((0 ≤ v ∧ v < mo) ∧ (¬ stdB (wv mv) (mv 0) n) ∧ z = 1 ∧ th1 = 2)) (fun (th1 : Int) => [kO y0 7 [vI n, .ref v0, .ref a0, vI sts, .ref r0, .ref f0, .ref g0, .ref d0, .ref t9, vI ty, vI th1], kI cI v0 21 mv]) := by
  refine gMi_of (cc := cX7_isWrong) (maxL := 3) (ret := (some .boolean)) (by decide) rfl (Nat.le_of_ble_eq_true rfl) ?_
  intro p e s m args below meth c A Q hQ hx hb hr hts hown hlocks hnm hml H locs hP hK hD hA hS ls hl
  have hi7 : ∀ w ∈ wsX70, w ∈ wsX7_isWrong := fun _ h => (List.mem_cons_of_mem _ (List.mem_append_right _ h))
  have hl : lv_has ls 3 [(0, .ref y0), (1, vI v), (2, vI mo)] := hl
  refine lv_aload_n hx hb dX7_isWrong_0 rfl (lv_at hl 0 rfl) ?_
  refine lv_iload_n hx hb dX7_isWrong_1 rfl (lv_at hl 1 rfl) ?_
  refine z_iconst hx hb dX7_isWrong_2 ?_
  refine lv_iload_n hx hb dX7_isWrong_3 rfl (lv_at hl 2 rfl) ?_
  refine z_iconst hx hb dX7_isWrong_4 ?_
  refine z_isub (z := (mo - 1)) hx hb rfl dX7_isWrong_5 ?_
  refine g_callSi (own := RX7) (n := 3) (mc := 0) (ms := 0) (As := [vI v, vI 0, vI (mo - 1)]) (rest := [.ref y0]) (wc := []) (wr := [kO y0 7 [vI n, .ref v0, .ref a0, vI sts, .ref r0, .ref f0, .ref g0, .ref d0, .ref t9, vI ty, vI th], kI cI v0 21 mv]) hx hb hml hown hts hK hP hD hS hA [] [0, 1] rfl rfl (by decide) (by decide) (c_X7_in l dd cI cJ cC cS v 0 (mo - 1) H.size  (by first | assumption | omega) (by first | assumption | omega) (by first | assumption | omega)) gX7_isWrong_X7_in rfl (by decide +kernel) (by decide) (by decide) (by decide) (by decide) rfl hl.1 rfl (Nat.le_of_ble_eq_true rfl) dX7_isWrong_6 (fun z_1 u_2 H locs hp6 hP hD hS => ?_)
  rcases hp6 with ⟨hp6_0, hp6_1, hp6_z⟩ | ⟨hp6_0, hp6_z⟩
  · skip
    subst z_1
    have hP : va_P dd vwCl [kO y0 7 [vI n, .ref v0, .ref a0, vI sts, .ref r0, .ref f0, .ref g0, .ref d0, .ref t9, vI ty, vI th], kI cI v0 21 mv] H := hP
    have hD : va_D A [kO y0 7 [vI n, .ref v0, .ref a0, vI sts, .ref r0, .ref f0, .ref g0, .ref d0, .ref t9, vI ty, vI th], kI cI v0 21 mv] := hD
    refine z_if_ne (tgt := 16) hx hb dX7_isWrong_9 (by decide) (by omega) (fun c9 => ?_) (fun c9 => ?_)
    · skip
      refine lv_aload_n hx hb dX7_isWrong_16 rfl (lv_at hl 0 rfl) ?_
      refine g_callVi (own := RX7) (n := 0) (mc := 0) (ms := 0) (As := []) (rest := [.ref y0]) (wc := [kO y0 7 [vI n, .ref v0, .ref a0, vI sts, .ref r0, .ref f0, .ref g0, .ref d0, .ref t9, vI ty, vI th], kI cI v0 21 mv]) (wr := []) hx hb hml hown hts hK hP hD hS hA [0, 1] [] rfl rfl (by decide) (by decide) 7 0 rfl rfl (c_X7_standard l dd cI cJ cC cS y0 v0 a0 r0 f0 g0 d0 t9 n sts ty th mv H.size  (by first | assumption | omega) (by first | assumption | omega) (by first | assumption | (intro j h0 h1; omega))) gX7_isWrong_X7_standard rfl (by decide +kernel) (by decide) (by decide) (by decide) (by decide) rfl hl.1 rfl (Nat.le_of_ble_eq_true rfl) dX7_isWrong_17 (fun z_3 u_4 H locs hp17 hP hD hS => ?_)
      subst z_3
      have hP : va_P dd vwCl [kO y0 7 [vI n, .ref v0, .ref a0, vI sts, .ref r0, .ref f0, .ref g0, .ref d0, .ref t9, vI ty, vI th], kI cI v0 21 mv] H := hP
      have hD : va_D A [kO y0 7 [vI n, .ref v0, .ref a0, vI sts, .ref r0, .ref f0, .ref g0, .ref d0, .ref t9, vI ty, vI th], kI cI v0 21 mv] := hD
      have hz9 := stdZ_or (wv mv) (mv 0) n
      refine z_if_eq (tgt := 27) hx hb dX7_isWrong_20 (by decide) (by omega) (fun c20 => ?_) (fun c20 => ?_)
      · skip
        refine z_iconst hx hb dX7_isWrong_27 ?_
        refine va_put (D := dd) (ci := 7) (v := vI 2) (ty := .int) (C := RX7) (T := TX7) (N := 11) hx hb hts hi7 tyX7 tyX7_ok nmX7 hown hK hP hD hS 0 rfl rfl 10 (by decide) (hts _ (List.mem_cons_of_mem _ (List.mem_append_left _ (List.mem_of_getElem? (i := 0) rfl)))) (fun _ h9 => h9) rfl (by decide +kernel) rfl rfl (Nat.le_of_ble_eq_true rfl) dX7_isWrong_28 (fun H locs hP hD hS => ?_)
        have hP : va_P dd vwCl [kO y0 7 [vI n, .ref v0, .ref a0, vI sts, .ref r0, .ref f0, .ref g0, .ref d0, .ref t9, vI ty, vI 2], kI cI v0 21 mv] H := hP
        have hD : va_D A [kO y0 7 [vI n, .ref v0, .ref a0, vI sts, .ref r0, .ref f0, .ref g0, .ref d0, .ref t9, vI ty, vI 2], kI cI v0 21 mv] := hD
        refine lv_aload_n hx hb dX7_isWrong_31 rfl (lv_at hl 0 rfl) ?_
        refine va_get (D := dd) (ci := 7) (v := vI 2) (C := RX7) (T := TX7) (N := 11) hx hb hts hi7 hown hK hP 0 rfl rfl 10 (by decide) (hts _ (List.mem_cons_of_mem _ (List.mem_append_left _ (List.mem_of_getElem? (i := 0) rfl)))) (fun _ h9 => h9) rfl dX7_isWrong_32 ?_
        refine z_if_eq (tgt := 42) hx hb dX7_isWrong_35 (by decide) (by omega) (fun c35 => ?_) (fun c35 => ?_)
        · exact absurd c35 (by omega)
        · skip
          refine z_iconst hx hb dX7_isWrong_38 ?_
          refine lv_goto (tgt := 43) hx hb dX7_isWrong_39 (by decide) ?_
          subst hQ
          refine z_zret (z := 1) hx hb hr hlocks dX7_isWrong_43 (by omega) 2 hK hS ⟨by omega, by omega⟩ hP hD ?_
          first
          | exact Or.inl ⟨by omega, stdZ_iff.mp (by omega), rfl, rfl⟩
          | exact Or.inr (Or.inl ⟨by omega, rfl, rfl⟩)
          | exact Or.inr (Or.inr ⟨by omega, fun u => (by have := stdZ_1 u; omega), rfl, rfl⟩)
      · skip
        refine z_iconst hx hb dX7_isWrong_23 ?_
        refine lv_goto (tgt := 28) hx hb dX7_isWrong_24 (by decide) ?_
        refine va_put (D := dd) (ci := 7) (v := vI 0) (ty := .int) (C := RX7) (T := TX7) (N := 11) hx hb hts hi7 tyX7 tyX7_ok nmX7 hown hK hP hD hS 0 rfl rfl 10 (by decide) (hts _ (List.mem_cons_of_mem _ (List.mem_append_left _ (List.mem_of_getElem? (i := 0) rfl)))) (fun _ h9 => h9) rfl (by decide +kernel) rfl rfl (Nat.le_of_ble_eq_true rfl) dX7_isWrong_28 (fun H locs hP hD hS => ?_)
        have hP : va_P dd vwCl [kO y0 7 [vI n, .ref v0, .ref a0, vI sts, .ref r0, .ref f0, .ref g0, .ref d0, .ref t9, vI ty, vI 0], kI cI v0 21 mv] H := hP
        have hD : va_D A [kO y0 7 [vI n, .ref v0, .ref a0, vI sts, .ref r0, .ref f0, .ref g0, .ref d0, .ref t9, vI ty, vI 0], kI cI v0 21 mv] := hD
        refine lv_aload_n hx hb dX7_isWrong_31 rfl (lv_at hl 0 rfl) ?_
        refine va_get (D := dd) (ci := 7) (v := vI 0) (C := RX7) (T := TX7) (N := 11) hx hb hts hi7 hown hK hP 0 rfl rfl 10 (by decide) (hts _ (List.mem_cons_of_mem _ (List.mem_append_left _ (List.mem_of_getElem? (i := 0) rfl)))) (fun _ h9 => h9) rfl dX7_isWrong_32 ?_
        refine z_if_eq (tgt := 42) hx hb dX7_isWrong_35 (by decide) (by omega) (fun c35 => ?_) (fun c35 => ?_)
        · skip
          refine z_iconst hx hb dX7_isWrong_42 ?_
          subst hQ
          refine z_zret (z := 0) hx hb hr hlocks dX7_isWrong_43 (by omega) 0 hK hS ⟨by omega, by omega⟩ hP hD ?_
          first
          | exact Or.inl ⟨by omega, stdZ_iff.mp (by omega), rfl, rfl⟩
          | exact Or.inr (Or.inl ⟨by omega, rfl, rfl⟩)
          | exact Or.inr (Or.inr ⟨by omega, fun u => (by have := stdZ_1 u; omega), rfl, rfl⟩)
        · exact absurd c35 (by omega)
    · exact absurd c9 (by omega)
  · skip
    subst z_1
    have hP : va_P dd vwCl [kO y0 7 [vI n, .ref v0, .ref a0, vI sts, .ref r0, .ref f0, .ref g0, .ref d0, .ref t9, vI ty, vI th], kI cI v0 21 mv] H := hP
    have hD : va_D A [kO y0 7 [vI n, .ref v0, .ref a0, vI sts, .ref r0, .ref f0, .ref g0, .ref d0, .ref t9, vI ty, vI th], kI cI v0 21 mv] := hD
    refine z_if_ne (tgt := 16) hx hb dX7_isWrong_9 (by decide) (by omega) (fun c9 => ?_) (fun c9 => ?_)
    · exact absurd c9 (by omega)
    · skip
      refine z_iconst hx hb dX7_isWrong_12 ?_
      refine lv_goto (tgt := 28) hx hb dX7_isWrong_13 (by decide) ?_
      refine va_put (D := dd) (ci := 7) (v := vI 1) (ty := .int) (C := RX7) (T := TX7) (N := 11) hx hb hts hi7 tyX7 tyX7_ok nmX7 hown hK hP hD hS 0 rfl rfl 10 (by decide) (hts _ (List.mem_cons_of_mem _ (List.mem_append_left _ (List.mem_of_getElem? (i := 0) rfl)))) (fun _ h9 => h9) rfl (by decide +kernel) rfl rfl (Nat.le_of_ble_eq_true rfl) dX7_isWrong_28 (fun H locs hP hD hS => ?_)
      have hP : va_P dd vwCl [kO y0 7 [vI n, .ref v0, .ref a0, vI sts, .ref r0, .ref f0, .ref g0, .ref d0, .ref t9, vI ty, vI 1], kI cI v0 21 mv] H := hP
      have hD : va_D A [kO y0 7 [vI n, .ref v0, .ref a0, vI sts, .ref r0, .ref f0, .ref g0, .ref d0, .ref t9, vI ty, vI 1], kI cI v0 21 mv] := hD
      refine lv_aload_n hx hb dX7_isWrong_31 rfl (lv_at hl 0 rfl) ?_
      refine va_get (D := dd) (ci := 7) (v := vI 1) (C := RX7) (T := TX7) (N := 11) hx hb hts hi7 hown hK hP 0 rfl rfl 10 (by decide) (hts _ (List.mem_cons_of_mem _ (List.mem_append_left _ (List.mem_of_getElem? (i := 0) rfl)))) (fun _ h9 => h9) rfl dX7_isWrong_32 ?_
      refine z_if_eq (tgt := 42) hx hb dX7_isWrong_35 (by decide) (by omega) (fun c35 => ?_) (fun c35 => ?_)
      · exact absurd c35 (by omega)
      · skip
        refine z_iconst hx hb dX7_isWrong_38 ?_
        refine lv_goto (tgt := 43) hx hb dX7_isWrong_39 (by decide) ?_
        subst hQ
        refine z_zret (z := 1) hx hb hr hlocks dX7_isWrong_43 (by omega) 1 hK hS ⟨by omega, by omega⟩ hP hD ?_
        first
        | exact Or.inl ⟨by omega, stdZ_iff.mp (by omega), rfl, rfl⟩
        | exact Or.inr (Or.inl ⟨by omega, rfl, rfl⟩)
        | exact Or.inr (Or.inr ⟨by omega, fun u => (by have := stdZ_1 u; omega), rfl, rfl⟩)

set_option maxHeartbeats 4000000 in
set_option maxRecDepth 100000 in
theorem c_X7_label (l : Launch) (dd : va_G) (cI cJ cC cS : ClassId) (y0 v0 a0 r0 f0 g0 d0 t9 : Nat) (n sts ty th : Int) (mv : Int → Int) (v : Int) (sz : Nat) (hn : 1 ≤ n ∧ n ≤ 8) (hc0 : 0 ≤ mv 0 ∧ mv 0 ≤ 9) (hc1 : 0 ≤ mv 1 ∧ mv 1 ≤ 3) (hc2 : 0 ≤ mv 2 ∧ mv 2 ≤ 8) (hcap : ∀ j : Int, 0 ≤ j → j < n → 0 ≤ mv (3 + j) ∧ mv (3 + j) ≤ 3) (hwi : ∀ j : Int, 0 ≤ j → j < mv 0 → 0 ≤ mv (12 + j) ∧ mv (12 + j) < n) (hgv : rg v) : gMi l yX7_label wsX7_label 4 0 0 dd cI cJ cC cS [.ref y0, vI v] [kO y0 7 [vI n, .ref v0, .ref a0, vI sts, .ref r0, .ref f0, .ref g0, .ref d0, .ref t9, vI ty, vI th], kI cI v0 21 mv] sz (fun (z : Int) (th1 : Int) => ((0 ≤ v ∧ v < n ∧ stdB (wv mv) (mv 0) n ∧ z = labZ (wv mv) n v ∧ th1 = 0) ∨ (¬ (0 ≤ v ∧ v < n) ∧ z = 0 ∧ th1 = 1) ∨ (0 ≤ v ∧ v < n ∧ ¬ stdB (wv mv) (mv 0) n ∧ z = 0 ∧ th1 = 2))) (fun (th1 : Int) => [kO y0 7 [vI n, .ref v0, .ref a0, vI sts, .ref r0, .ref f0, .ref g0, .ref d0, .ref t9, vI ty, vI th1], kI cI v0 21 mv]) := by
  refine gMi_of (cc := cX7_label) (maxL := 2) (ret := (some .int)) (by decide) rfl (Nat.le_of_ble_eq_true rfl) ?_
  intro p e s m args below meth c A Q hQ hx hb hr hts hown hlocks hnm hml H locs hP hK hD hA hS ls hl
  have hi7 : ∀ w ∈ wsX70, w ∈ wsX7_label := fun _ h => (List.mem_cons_of_mem _ (List.mem_append_right _ h))
  have hl : lv_has ls 2 [(0, .ref y0), (1, vI v)] := hl
  refine lv_aload_n hx hb dX7_label_0 rfl (lv_at hl 0 rfl) ?_
  refine lv_iload_n hx hb dX7_label_1 rfl (lv_at hl 1 rfl) ?_
  refine lv_aload_n hx hb dX7_label_2 rfl (lv_at hl 0 rfl) ?_
  refine va_get (D := dd) (ci := 7) (v := vI n) (C := RX7) (T := TX7) (N := 11) hx hb hts hi7 hown hK hP 0 rfl rfl 0 (by decide) (hts _ (List.mem_cons_of_mem _ (List.mem_append_left _ (List.mem_of_getElem? (i := 0) rfl)))) (fun _ h9 => h9) rfl dX7_label_3 ?_
  refine g_callVi (own := RX7) (n := 2) (mc := 0) (ms := 0) (As := [vI v, vI n]) (rest := []) (wc := [kO y0 7 [vI n, .ref v0, .ref a0, vI sts, .ref r0, .ref f0, .ref g0, .ref d0, .ref t9, vI ty, vI th], kI cI v0 21 mv]) (wr := []) hx hb hml hown hts hK hP hD hS hA [0, 1] [] rfl rfl (by decide) (by decide) 7 0 rfl rfl (c_X7_isWrong l dd cI cJ cC cS y0 v0 a0 r0 f0 g0 d0 t9 n sts ty th mv v n H.size  (by first | assumption | omega) (by first | assumption | omega) (by first | assumption | (intro j h0 h1; omega)) (by first | assumption | omega) (by first | assumption | omega)) gX7_label_X7_isWrong rfl (by decide +kernel) (by decide) (by decide) (by decide) (by decide) rfl hl.1 rfl (Nat.le_of_ble_eq_true rfl) dX7_label_6 (fun z_1 u_2 H locs hp6 hP hD hS => ?_)
  obtain ⟨th1_3, rfl⟩ : ∃ x, x = u_2 := ⟨_, rfl⟩
  try dsimp only at hp6
  rcases hp6 with ⟨hp6_0, hp6_1, hp6_z, hp6_o0⟩ | ⟨hp6_0, hp6_z, hp6_o0⟩ | ⟨hp6_0, hp6_1, hp6_z, hp6_o0⟩
  · skip
    subst z_1 th1_3
    have hP : va_P dd vwCl [kO y0 7 [vI n, .ref v0, .ref a0, vI sts, .ref r0, .ref f0, .ref g0, .ref d0, .ref t9, vI ty, vI 0], kI cI v0 21 mv] H := hP
    have hD : va_D A [kO y0 7 [vI n, .ref v0, .ref a0, vI sts, .ref r0, .ref f0, .ref g0, .ref d0, .ref t9, vI ty, vI 0], kI cI v0 21 mv] := hD
    refine z_if_eq (tgt := 16) hx hb dX7_label_9 (by decide) (by omega) (fun c9 => ?_) (fun c9 => ?_)
    · skip
      refine lv_aload_n hx hb dX7_label_16 rfl (lv_at hl 0 rfl) ?_
      refine lv_iload_n hx hb dX7_label_17 rfl (lv_at hl 1 rfl) ?_
      refine g_callVi (own := RX7) (n := 1) (mc := 0) (ms := 0) (As := [vI v]) (rest := []) (wc := [kO y0 7 [vI n, .ref v0, .ref a0, vI sts, .ref r0, .ref f0, .ref g0, .ref d0, .ref t9, vI ty, vI 0], kI cI v0 21 mv]) (wr := []) hx hb hml hown hts hK hP hD hS hA [0, 1] [] rfl rfl (by decide) (by decide) 7 0 rfl rfl (c_X7_labelOf l dd cI cJ cC cS y0 v0 a0 r0 f0 g0 d0 t9 n sts ty 0 mv v H.size  (by first | assumption | omega) (fun j h0 h1 => hwi j h0 (by have := hp6_1.1; omega)) (hp6_0)) gX7_label_X7_labelOf rfl (by decide +kernel) (by decide) (by decide) (by decide) (by decide) rfl hl.1 rfl (Nat.le_of_ble_eq_true rfl) dX7_label_18 (fun z_4 u_5 H locs hp18 hP hD hS => ?_)
      subst z_4
      have hP : va_P dd vwCl [kO y0 7 [vI n, .ref v0, .ref a0, vI sts, .ref r0, .ref f0, .ref g0, .ref d0, .ref t9, vI ty, vI 0], kI cI v0 21 mv] H := hP
      have hD : va_D A [kO y0 7 [vI n, .ref v0, .ref a0, vI sts, .ref r0, .ref f0, .ref g0, .ref d0, .ref t9, vI ty, vI 0], kI cI v0 21 mv] := hD
      subst hQ
      refine z_iret (z := labZ (wv mv) n v) hx hb hr hlocks dX7_label_21 0 hK hS ⟨by omega, by omega⟩ hP hD ?_
      first
      | exact Or.inl ⟨hp6_0.1, hp6_0.2, hp6_1, rfl, rfl⟩
      | exact Or.inr (Or.inl ⟨hp6_0, rfl, rfl⟩)
      | exact Or.inr (Or.inr ⟨hp6_0.1, hp6_0.2, hp6_1, rfl, rfl⟩)
    · exact absurd c9 (by omega)
  · skip
    subst z_1 th1_3
    have hP : va_P dd vwCl [kO y0 7 [vI n, .ref v0, .ref a0, vI sts, .ref r0, .ref f0, .ref g0, .ref d0, .ref t9, vI ty, vI 1], kI cI v0 21 mv] H := hP
    have hD : va_D A [kO y0 7 [vI n, .ref v0, .ref a0, vI sts, .ref r0, .ref f0, .ref g0, .ref d0, .ref t9, vI ty, vI 1], kI cI v0 21 mv] := hD
    refine z_if_eq (tgt := 16) hx hb dX7_label_9 (by decide) (by omega) (fun c9 => ?_) (fun c9 => ?_)
    · exact absurd c9 (by omega)
    · skip
      refine z_iconst hx hb dX7_label_12 ?_
      refine lv_goto (tgt := 21) hx hb dX7_label_13 (by decide) ?_
      subst hQ
      refine z_iret (z := 0) hx hb hr hlocks dX7_label_21 1 hK hS ⟨by omega, by omega⟩ hP hD ?_
      first
      | exact Or.inl ⟨hp6_0.1, hp6_0.2, hp6_1, rfl, rfl⟩
      | exact Or.inr (Or.inl ⟨hp6_0, rfl, rfl⟩)
      | exact Or.inr (Or.inr ⟨hp6_0.1, hp6_0.2, hp6_1, rfl, rfl⟩)
  · skip
    subst z_1 th1_3
    have hP : va_P dd vwCl [kO y0 7 [vI n, .ref v0, .ref a0, vI sts, .ref r0, .ref f0, .ref g0, .ref d0, .ref t9, vI ty, vI 2], kI cI v0 21 mv] H := hP
    have hD : va_D A [kO y0 7 [vI n, .ref v0, .ref a0, vI sts, .ref r0, .ref f0, .ref g0, .ref d0, .ref t9, vI ty, vI 2], kI cI v0 21 mv] := hD
    refine z_if_eq (tgt := 16) hx hb dX7_label_9 (by decide) (by omega) (fun c9 => ?_) (fun c9 => ?_)
    · exact absurd c9 (by omega)
    · skip
      refine z_iconst hx hb dX7_label_12 ?_
      refine lv_goto (tgt := 21) hx hb dX7_label_13 (by decide) ?_
      subst hQ
      refine z_iret (z := 0) hx hb hr hlocks dX7_label_21 2 hK hS ⟨by omega, by omega⟩ hP hD ?_
      first
      | exact Or.inl ⟨hp6_0.1, hp6_0.2, hp6_1, rfl, rfl⟩
      | exact Or.inr (Or.inl ⟨hp6_0, rfl, rfl⟩)
      | exact Or.inr (Or.inr ⟨hp6_0.1, hp6_0.2, hp6_1, rfl, rfl⟩)

set_option maxHeartbeats 4000000 in
set_option maxRecDepth 100000 in
theorem c_X7_areaOf (l : Launch) (dd : va_G) (cI cJ cC cS : ClassId) (y0 v0 a0 r0 f0 g0 d0 t9 : Nat) (n sts ty th : Int) (mv : Int → Int) (v : Int) (sz : Nat) (hn : 1 ≤ n ∧ n ≤ 8) (hc0 : 0 ≤ mv 0 ∧ mv 0 ≤ 9) (hc1 : 0 ≤ mv 1 ∧ mv 1 ≤ 3) (hc2 : 0 ≤ mv 2 ∧ mv 2 ≤ 8) (hcap : ∀ j : Int, 0 ≤ j → j < n → 0 ≤ mv (3 + j) ∧ mv (3 + j) ≤ 3) (hwi : ∀ j : Int, 0 ≤ j → j < mv 0 → 0 ≤ mv (12 + j) ∧ mv (12 + j) < n) (hgv : rg v) : gMi l yX7_areaOf wsX7_areaOf 4 0 0 dd cI cJ cC cS [.ref y0, vI v] [kO y0 7 [vI n, .ref v0, .ref a0, vI sts, .ref r0, .ref f0, .ref g0, .ref d0, .ref t9, vI ty, vI th], kI cI v0 21 mv] sz (fun (z : Int) (th1 : Int) => ((0 ≤ v ∧ v < n ∧ stdB (wv mv) (mv 0) n ∧ z = arZ (wv mv) n v ∧ th1 = 0) ∨ (¬ (0 ≤ v ∧ v < n) ∧ z = 0 ∧ th1 = 1) ∨ (0 ≤ v ∧ v < n ∧ ¬ stdB (wv mv) (mv 0) n ∧ z = 0 ∧ th1 = 2))) (fun (th1 : Int) => [kO y0 7 [vI n, .ref v0, .ref a0, vI sts, .ref r0, .ref f0, .ref g0, .ref d0, .ref t9, vI ty, vI th1], kI cI v0 21 mv]) := by
  refine gMi_of (cc := cX7_areaOf) (maxL := 2) (ret := (some .int)) (by decide) rfl (Nat.le_of_ble_eq_true rfl) ?_
  intro p e s m args below meth c A Q hQ hx hb hr hts hown hlocks hnm hml H locs hP hK hD hA hS ls hl
  have hi7 : ∀ w ∈ wsX70, w ∈ wsX7_areaOf := fun _ h => (List.mem_cons_of_mem _ (List.mem_append_right _ h))
  have hl : lv_has ls 2 [(0, .ref y0), (1, vI v)] := hl
  refine lv_aload_n hx hb dX7_areaOf_0 rfl (lv_at hl 0 rfl) ?_
  refine lv_iload_n hx hb dX7_areaOf_1 rfl (lv_at hl 1 rfl) ?_
  refine lv_aload_n hx hb dX7_areaOf_2 rfl (lv_at hl 0 rfl) ?_
  refine va_get (D := dd) (ci := 7) (v := vI n) (C := RX7) (T := TX7) (N := 11) hx hb hts hi7 hown hK hP 0 rfl rfl 0 (by decide) (hts _ (List.mem_cons_of_mem _ (List.mem_append_left _ (List.mem_append_left _ (List.mem_of_getElem? (i := 0) rfl))))) (fun _ h9 => h9) rfl dX7_areaOf_3 ?_
  refine g_callVi (own := RX7) (n := 2) (mc := 0) (ms := 0) (As := [vI v, vI n]) (rest := []) (wc := [kO y0 7 [vI n, .ref v0, .ref a0, vI sts, .ref r0, .ref f0, .ref g0, .ref d0, .ref t9, vI ty, vI th], kI cI v0 21 mv]) (wr := []) hx hb hml hown hts hK hP hD hS hA [0, 1] [] rfl rfl (by decide) (by decide) 7 0 rfl rfl (c_X7_isWrong l dd cI cJ cC cS y0 v0 a0 r0 f0 g0 d0 t9 n sts ty th mv v n H.size  (by first | assumption | omega) (by first | assumption | omega) (by first | assumption | (intro j h0 h1; omega)) (by first | assumption | omega) (by first | assumption | omega)) gX7_areaOf_X7_isWrong rfl (by decide +kernel) (by decide) (by decide) (by decide) (by decide) rfl hl.1 rfl (Nat.le_of_ble_eq_true rfl) dX7_areaOf_6 (fun z_1 u_2 H locs hp6 hP hD hS => ?_)
  obtain ⟨th1_3, rfl⟩ : ∃ x, x = u_2 := ⟨_, rfl⟩
  try dsimp only at hp6
  rcases hp6 with ⟨hp6_0, hp6_1, hp6_z, hp6_o0⟩ | ⟨hp6_0, hp6_z, hp6_o0⟩ | ⟨hp6_0, hp6_1, hp6_z, hp6_o0⟩
  · skip
    subst z_1 th1_3
    have hP : va_P dd vwCl [kO y0 7 [vI n, .ref v0, .ref a0, vI sts, .ref r0, .ref f0, .ref g0, .ref d0, .ref t9, vI ty, vI 0], kI cI v0 21 mv] H := hP
    have hD : va_D A [kO y0 7 [vI n, .ref v0, .ref a0, vI sts, .ref r0, .ref f0, .ref g0, .ref d0, .ref t9, vI ty, vI 0], kI cI v0 21 mv] := hD
    refine z_if_eq (tgt := 16) hx hb dX7_areaOf_9 (by decide) (by omega) (fun c9 => ?_) (fun c9 => ?_)
    · skip
      refine lv_aload_n hx hb dX7_areaOf_16 rfl (lv_at hl 0 rfl) ?_
      refine lv_iload_n hx hb dX7_areaOf_17 rfl (lv_at hl 1 rfl) ?_
      refine g_callVi (own := RX7) (n := 1) (mc := 0) (ms := 0) (As := [vI v]) (rest := []) (wc := [kO y0 7 [vI n, .ref v0, .ref a0, vI sts, .ref r0, .ref f0, .ref g0, .ref d0, .ref t9, vI ty, vI 0], kI cI v0 21 mv]) (wr := []) hx hb hml hown hts hK hP hD hS hA [0, 1] [] rfl rfl (by decide) (by decide) 7 0 rfl rfl (c_X7_areaAt l dd cI cJ cC cS y0 v0 a0 r0 f0 g0 d0 t9 n sts ty 0 mv v H.size  (by first | assumption | omega) (fun j h0 h1 => hwi j h0 (by have := hp6_1.1; omega)) (hp6_0)) gX7_areaOf_X7_areaAt rfl (by decide +kernel) (by decide) (by decide) (by decide) (by decide) rfl hl.1 rfl (Nat.le_of_ble_eq_true rfl) dX7_areaOf_18 (fun z_4 u_5 H locs hp18 hP hD hS => ?_)
      subst z_4
      have hP : va_P dd vwCl [kO y0 7 [vI n, .ref v0, .ref a0, vI sts, .ref r0, .ref f0, .ref g0, .ref d0, .ref t9, vI ty, vI 0], kI cI v0 21 mv] H := hP
      have hD : va_D A [kO y0 7 [vI n, .ref v0, .ref a0, vI sts, .ref r0, .ref f0, .ref g0, .ref d0, .ref t9, vI ty, vI 0], kI cI v0 21 mv] := hD
      subst hQ
      refine z_iret (z := arZ (wv mv) n v) hx hb hr hlocks dX7_areaOf_21 0 hK hS ⟨by omega, by omega⟩ hP hD ?_
      first
      | exact Or.inl ⟨hp6_0.1, hp6_0.2, hp6_1, rfl, rfl⟩
      | exact Or.inr (Or.inl ⟨hp6_0, rfl, rfl⟩)
      | exact Or.inr (Or.inr ⟨hp6_0.1, hp6_0.2, hp6_1, rfl, rfl⟩)
    · exact absurd c9 (by omega)
  · skip
    subst z_1 th1_3
    have hP : va_P dd vwCl [kO y0 7 [vI n, .ref v0, .ref a0, vI sts, .ref r0, .ref f0, .ref g0, .ref d0, .ref t9, vI ty, vI 1], kI cI v0 21 mv] H := hP
    have hD : va_D A [kO y0 7 [vI n, .ref v0, .ref a0, vI sts, .ref r0, .ref f0, .ref g0, .ref d0, .ref t9, vI ty, vI 1], kI cI v0 21 mv] := hD
    refine z_if_eq (tgt := 16) hx hb dX7_areaOf_9 (by decide) (by omega) (fun c9 => ?_) (fun c9 => ?_)
    · exact absurd c9 (by omega)
    · skip
      refine z_iconst hx hb dX7_areaOf_12 ?_
      refine lv_goto (tgt := 21) hx hb dX7_areaOf_13 (by decide) ?_
      subst hQ
      refine z_iret (z := 0) hx hb hr hlocks dX7_areaOf_21 1 hK hS ⟨by omega, by omega⟩ hP hD ?_
      first
      | exact Or.inl ⟨hp6_0.1, hp6_0.2, hp6_1, rfl, rfl⟩
      | exact Or.inr (Or.inl ⟨hp6_0, rfl, rfl⟩)
      | exact Or.inr (Or.inr ⟨hp6_0.1, hp6_0.2, hp6_1, rfl, rfl⟩)
  · skip
    subst z_1 th1_3
    have hP : va_P dd vwCl [kO y0 7 [vI n, .ref v0, .ref a0, vI sts, .ref r0, .ref f0, .ref g0, .ref d0, .ref t9, vI ty, vI 2], kI cI v0 21 mv] H := hP
    have hD : va_D A [kO y0 7 [vI n, .ref v0, .ref a0, vI sts, .ref r0, .ref f0, .ref g0, .ref d0, .ref t9, vI ty, vI 2], kI cI v0 21 mv] := hD
    refine z_if_eq (tgt := 16) hx hb dX7_areaOf_9 (by decide) (by omega) (fun c9 => ?_) (fun c9 => ?_)
    · exact absurd c9 (by omega)
    · skip
      refine z_iconst hx hb dX7_areaOf_12 ?_
      refine lv_goto (tgt := 21) hx hb dX7_areaOf_13 (by decide) ?_
      subst hQ
      refine z_iret (z := 0) hx hb hr hlocks dX7_areaOf_21 2 hK hS ⟨by omega, by omega⟩ hP hD ?_
      first
      | exact Or.inl ⟨hp6_0.1, hp6_0.2, hp6_1, rfl, rfl⟩
      | exact Or.inr (Or.inl ⟨hp6_0, rfl, rfl⟩)
      | exact Or.inr (Or.inr ⟨hp6_0.1, hp6_0.2, hp6_1, rfl, rfl⟩)

set_option maxHeartbeats 4000000 in
set_option maxRecDepth 100000 in
theorem c_X7_wholeArea (l : Launch) (dd : va_G) (cI cJ cC cS : ClassId) (y0 v0 a0 r0 f0 g0 d0 t9 : Nat) (n sts ty th : Int) (mv : Int → Int) (sz : Nat) (hn : 1 ≤ n ∧ n ≤ 8) (hwi : ∀ j : Int, 0 ≤ j → j < n → 0 ≤ mv (12 + j) ∧ mv (12 + j) < n) : gMi l yX7_wholeArea wsX7_wholeArea 3 0 0 dd cI cJ cC cS [.ref y0] [kO y0 7 [vI n, .ref v0, .ref a0, vI sts, .ref r0, .ref f0, .ref g0, .ref d0, .ref t9, vI ty, vI th], kI cI v0 21 mv] sz (fun (z : Int) (_ : Unit) => z = sumZ (arZ (wv mv) n) n.toNat) (fun (_ : Unit) => [kO y0 7 [vI n, .ref v0, .ref a0, vI sts, .ref r0, .ref f0, .ref g0, .ref d0, .ref t9, vI ty, vI th], kI cI v0 21 mv]) := by
  refine gMi_of (cc := cX7_wholeArea) (maxL := 3) (ret := (some .int)) (by decide) rfl (Nat.le_of_ble_eq_true rfl) ?_
  intro p e s m args below meth c A Q hQ hx hb hr hts hown hlocks hnm hml H locs hP hK hD hA hS ls hl
  have hi7 : ∀ w ∈ wsX70, w ∈ wsX7_wholeArea := fun _ h => (List.mem_cons_of_mem _ (List.mem_append_right _ h))
  have hl : lv_has ls 3 [(0, .ref y0)] := hl
  refine z_iconst hx hb dX7_wholeArea_0 ?_
  refine lv_istore_n (lv' := [(1, vI 0), (0, .ref y0)]) hx hb dX7_wholeArea_1 rfl hl (by decide) rfl (fun ls hl => ?_)
  refine z_iconst hx hb dX7_wholeArea_2 ?_
  refine lv_istore_n (lv' := [(2, vI 0), (1, vI 0), (0, .ref y0)]) hx hb dX7_wholeArea_3 rfl hl (by decide) rfl (fun ls hl => ?_)
  have L4 : ∀ (nn : Nat) (i : Int) (b : Int) (H : Heap) (locs : List Loc) (ls : Array Slot), ((n + 1 - i).toNat) = nn → (0 ≤ i ∧ i ≤ n) → (b = sumZ (arZ (wv mv) n) i.toNat) → va_P dd vwCl [kO y0 7 [vI n, .ref v0, .ref a0, vI sts, .ref r0, .ref f0, .ref g0, .ref d0, .ref t9, vI ty, vI th], kI cI v0 21 mv] H → va_D A [kO y0 7 [vI n, .ref v0, .ref a0, vI sts, .ref r0, .ref f0, .ref g0, .ref d0, .ref t9, vI ty, vI th], kI cI v0 21 mv] → va_S A s.heap H locs → lv_has ls 3 [(1, vI b), (2, vI i), (0, .ref y0)] → W p l e (gR 3 0 0) s m args below meth c H locs 0 0 Q (F0 m 4 ls []) := by
    intro nn
    induction nn using Nat.strongRecOn with
    | ind nn L4i =>
    intro i b H locs ls hmeas hi hbb hP hD hS hl
    refine lv_iload_n hx hb dX7_wholeArea_4 rfl (lv_at hl 1 rfl) ?_
    refine lv_aload_n hx hb dX7_wholeArea_5 rfl (lv_at hl 2 rfl) ?_
    refine va_get (D := dd) (ci := 7) (v := vI n) (C := RX7) (T := TX7) (N := 11) hx hb hts hi7 hown hK hP 0 rfl rfl 0 (by decide) (hts _ (List.mem_cons_of_mem _ (List.mem_append_left _ (List.mem_of_getElem? (i := 0) rfl)))) (fun _ h9 => h9) rfl dX7_wholeArea_6 ?_
    refine z_icmp_ge (tgt := 26) hx hb dX7_wholeArea_9 (by decide) (by omega) (fun c9 => ?_) (fun c9 => ?_)
    · skip
      refine lv_iload_n hx hb dX7_wholeArea_26 rfl (lv_at hl 0 rfl) ?_
      subst hQ
      refine z_iret (z := b) hx hb hr hlocks dX7_wholeArea_27 () hK hS ⟨by omega, by omega⟩ hP hD ?_
      rw [hbb, show i = n by omega]
    · skip
      refine lv_iload_n hx hb dX7_wholeArea_12 rfl (lv_at hl 0 rfl) ?_
      refine lv_aload_n hx hb dX7_wholeArea_13 rfl (lv_at hl 2 rfl) ?_
      refine lv_iload_n hx hb dX7_wholeArea_14 rfl (lv_at hl 1 rfl) ?_
      refine g_callVi (own := RX7) (n := 1) (mc := 0) (ms := 0) (As := [vI i]) (rest := [vI b]) (wc := [kO y0 7 [vI n, .ref v0, .ref a0, vI sts, .ref r0, .ref f0, .ref g0, .ref d0, .ref t9, vI ty, vI th], kI cI v0 21 mv]) (wr := []) hx hb hml hown hts hK hP hD hS hA [0, 1] [] rfl rfl (by decide) (by decide) 7 0 rfl rfl (c_X7_areaAt l dd cI cJ cC cS y0 v0 a0 r0 f0 g0 d0 t9 n sts ty th mv i H.size  (by first | assumption | omega) (by first | assumption | (intro j h0 h1; omega)) (by first | assumption | omega)) gX7_wholeArea_X7_areaAt rfl (by decide +kernel) (by decide) (by decide) (by decide) (by decide) rfl hl.1 rfl (Nat.le_of_ble_eq_true rfl) dX7_wholeArea_15 (fun z_1 u_2 H locs hp15 hP hD hS => ?_)
      subst z_1
      have hP : va_P dd vwCl [kO y0 7 [vI n, .ref v0, .ref a0, vI sts, .ref r0, .ref f0, .ref g0, .ref d0, .ref t9, vI ty, vI th], kI cI v0 21 mv] H := hP
      have hD : va_D A [kO y0 7 [vI n, .ref v0, .ref a0, vI sts, .ref r0, .ref f0, .ref g0, .ref d0, .ref t9, vI ty, vI th], kI cI v0 21 mv] := hD
      refine z_iadd (z := (b + arZ (wv mv) n i)) hx hb rfl dX7_wholeArea_18 ?_
      refine lv_istore_n (lv' := [(1, vI (b + arZ (wv mv) n i)), (2, vI i), (0, .ref y0)]) hx hb dX7_wholeArea_19 rfl hl (by decide) rfl (fun ls hl => ?_)
      refine z_iinc (a := i) (z := (i + 1)) (lv' := [(2, vI (i + 1)), (1, vI (b + arZ (wv mv) n i)), (0, .ref y0)]) hx hb dX7_wholeArea_20 hl (k := 1) rfl rfl (by decide) rfl (fun ls hl => ?_)
      refine lv_goto (tgt := 4) hx hb dX7_wholeArea_23 (by decide) ?_
      exact L4i _ (by omega) (i + 1) (b + arZ (wv mv) n i) H locs ls rfl (by omega) (by first | rfl | rw [sumZ_s (by omega), hbb]) hP hD hS (lv_sub hl [1, 0, 2] rfl)
  exact L4 _ 0 0 H locs ls rfl (by omega) (by first | rfl | rw [sumZ_s (by omega), hbb]) hP hD hS (lv_sub hl [1, 0, 2] rfl)

set_option maxHeartbeats 4000000 in
set_option maxRecDepth 100000 in
theorem c_X7_area (l : Launch) (dd : va_G) (cI cJ cC cS : ClassId) (y0 v0 a0 r0 f0 g0 d0 t9 : Nat) (n sts ty th : Int) (mv : Int → Int) (sz : Nat) (hn : 1 ≤ n ∧ n ≤ 8) (hc0 : 0 ≤ mv 0 ∧ mv 0 ≤ 9) (hc1 : 0 ≤ mv 1 ∧ mv 1 ≤ 3) (hc2 : 0 ≤ mv 2 ∧ mv 2 ≤ 8) (hcap : ∀ j : Int, 0 ≤ j → j < n → 0 ≤ mv (3 + j) ∧ mv (3 + j) ≤ 3) (hwi : ∀ j : Int, 0 ≤ j → j < mv 0 → 0 ≤ mv (12 + j) ∧ mv (12 + j) < n) : gMi l yX7_area wsX7_area 4 0 0 dd cI cJ cC cS [.ref y0] [kO y0 7 [vI n, .ref v0, .ref a0, vI sts, .ref r0, .ref f0, .ref g0, .ref d0, .ref t9, vI ty, vI th], kI cI v0 21 mv] sz (fun (z : Int) (th1 : Int) => ((stdB (wv mv) (mv 0) n ∧ z = sumZ (arZ (wv mv) n) n.toNat ∧ th1 = 0) ∨ (¬ stdB (wv mv) (mv 0) n ∧ z = 0 ∧ th1 = 1))) (fun (th1 : Int) => [kO y0 7 [vI n, .ref v0, .ref a0, vI sts, .ref r0, .ref f0, .ref g0, .ref d0, .ref t9, vI ty, vI th1], kI cI v0 21 mv]) := by
  refine gMi_of (cc := cX7_area) (maxL := 1) (ret := (some .int)) (by decide) rfl (Nat.le_of_ble_eq_true rfl) ?_
  intro p e s m args below meth c A Q hQ hx hb hr hts hown hlocks hnm hml H locs hP hK hD hA hS ls hl
  have hi7 : ∀ w ∈ wsX70, w ∈ wsX7_area := fun _ h => (List.mem_cons_of_mem _ (List.mem_append_right _ h))
  have hl : lv_has ls 1 [(0, .ref y0)] := hl
  refine lv_aload_n hx hb dX7_area_0 rfl (lv_at hl 0 rfl) ?_
  refine lv_aload_n hx hb dX7_area_1 rfl (lv_at hl 0 rfl) ?_
  refine g_callVi (own := RX7) (n := 0) (mc := 0) (ms := 0) (As := []) (rest := [.ref y0]) (wc := [kO y0 7 [vI n, .ref v0, .ref a0, vI sts, .ref r0, .ref f0, .ref g0, .ref d0, .ref t9, vI ty, vI th], kI cI v0 21 mv]) (wr := []) hx hb hml hown hts hK hP hD hS hA [0, 1] [] rfl rfl (by decide) (by decide) 7 0 rfl rfl (c_X7_standard l dd cI cJ cC cS y0 v0 a0 r0 f0 g0 d0 t9 n sts ty th mv H.size  (by first | assumption | omega) (by first | assumption | omega) (by first | assumption | (intro j h0 h1; omega))) gX7_area_X7_standard rfl (by decide +kernel) (by decide) (by decide) (by decide) (by decide) rfl hl.1 rfl (Nat.le_of_ble_eq_true rfl) dX7_area_2 (fun z_1 u_2 H locs hp2 hP hD hS => ?_)
  subst z_1
  have hP : va_P dd vwCl [kO y0 7 [vI n, .ref v0, .ref a0, vI sts, .ref r0, .ref f0, .ref g0, .ref d0, .ref t9, vI ty, vI th], kI cI v0 21 mv] H := hP
  have hD : va_D A [kO y0 7 [vI n, .ref v0, .ref a0, vI sts, .ref r0, .ref f0, .ref g0, .ref d0, .ref t9, vI ty, vI th], kI cI v0 21 mv] := hD
  have hz9 := stdZ_or (wv mv) (mv 0) n
  refine z_if_eq (tgt := 12) hx hb dX7_area_5 (by decide) (by omega) (fun c5 => ?_) (fun c5 => ?_)
  · skip
    refine z_iconst hx hb dX7_area_12 ?_
    refine va_put (D := dd) (ci := 7) (v := vI 1) (ty := .int) (C := RX7) (T := TX7) (N := 11) hx hb hts hi7 tyX7 tyX7_ok nmX7 hown hK hP hD hS 0 rfl rfl 10 (by decide) (hts _ (List.mem_cons_of_mem _ (List.mem_append_left _ (List.mem_of_getElem? (i := 0) rfl)))) (fun _ h9 => h9) rfl (by decide +kernel) rfl rfl (Nat.le_of_ble_eq_true rfl) dX7_area_13 (fun H locs hP hD hS => ?_)
    have hP : va_P dd vwCl [kO y0 7 [vI n, .ref v0, .ref a0, vI sts, .ref r0, .ref f0, .ref g0, .ref d0, .ref t9, vI ty, vI 1], kI cI v0 21 mv] H := hP
    have hD : va_D A [kO y0 7 [vI n, .ref v0, .ref a0, vI sts, .ref r0, .ref f0, .ref g0, .ref d0, .ref t9, vI ty, vI 1], kI cI v0 21 mv] := hD
    refine lv_aload_n hx hb dX7_area_16 rfl (lv_at hl 0 rfl) ?_
    refine va_get (D := dd) (ci := 7) (v := vI 1) (C := RX7) (T := TX7) (N := 11) hx hb hts hi7 hown hK hP 0 rfl rfl 10 (by decide) (hts _ (List.mem_cons_of_mem _ (List.mem_append_left _ (List.mem_of_getElem? (i := 0) rfl)))) (fun _ h9 => h9) rfl dX7_area_17 ?_
    refine z_if_ne (tgt := 30) hx hb dX7_area_20 (by decide) (by omega) (fun c20 => ?_) (fun c20 => ?_)
    · skip
      refine z_iconst hx hb dX7_area_30 ?_
      subst hQ
      refine z_iret (z := 0) hx hb hr hlocks dX7_area_31 1 hK hS ⟨by omega, by omega⟩ hP hD ?_
      first | exact Or.inl ⟨hsb, rfl, rfl⟩ | exact Or.inr ⟨fun u => (by have := stdZ_1 u; omega), rfl, rfl⟩
    · exact absurd c20 (by omega)
  · skip
    refine z_iconst hx hb dX7_area_8 ?_
    refine lv_goto (tgt := 13) hx hb dX7_area_9 (by decide) ?_
    refine va_put (D := dd) (ci := 7) (v := vI 0) (ty := .int) (C := RX7) (T := TX7) (N := 11) hx hb hts hi7 tyX7 tyX7_ok nmX7 hown hK hP hD hS 0 rfl rfl 10 (by decide) (hts _ (List.mem_cons_of_mem _ (List.mem_append_left _ (List.mem_of_getElem? (i := 0) rfl)))) (fun _ h9 => h9) rfl (by decide +kernel) rfl rfl (Nat.le_of_ble_eq_true rfl) dX7_area_13 (fun H locs hP hD hS => ?_)
    have hP : va_P dd vwCl [kO y0 7 [vI n, .ref v0, .ref a0, vI sts, .ref r0, .ref f0, .ref g0, .ref d0, .ref t9, vI ty, vI 0], kI cI v0 21 mv] H := hP
    have hD : va_D A [kO y0 7 [vI n, .ref v0, .ref a0, vI sts, .ref r0, .ref f0, .ref g0, .ref d0, .ref t9, vI ty, vI 0], kI cI v0 21 mv] := hD
    refine lv_aload_n hx hb dX7_area_16 rfl (lv_at hl 0 rfl) ?_
    refine va_get (D := dd) (ci := 7) (v := vI 0) (C := RX7) (T := TX7) (N := 11) hx hb hts hi7 hown hK hP 0 rfl rfl 10 (by decide) (hts _ (List.mem_cons_of_mem _ (List.mem_append_left _ (List.mem_of_getElem? (i := 0) rfl)))) (fun _ h9 => h9) rfl dX7_area_17 ?_
    refine z_if_ne (tgt := 30) hx hb dX7_area_20 (by decide) (by omega) (fun c20 => ?_) (fun c20 => ?_)
    · exact absurd c20 (by omega)
    · skip
      refine lv_aload_n hx hb dX7_area_23 rfl (lv_at hl 0 rfl) ?_
      have hsb : stdB (wv mv) (mv 0) n := stdZ_iff.mp (by omega)
      refine g_callVi (own := RX7) (n := 0) (mc := 0) (ms := 0) (As := []) (rest := []) (wc := [kO y0 7 [vI n, .ref v0, .ref a0, vI sts, .ref r0, .ref f0, .ref g0, .ref d0, .ref t9, vI ty, vI 0], kI cI v0 21 mv]) (wr := []) hx hb hml hown hts hK hP hD hS hA [0, 1] [] rfl rfl (by decide) (by decide) 7 0 rfl rfl (c_X7_wholeArea l dd cI cJ cC cS y0 v0 a0 r0 f0 g0 d0 t9 n sts ty 0 mv H.size  (by first | assumption | omega) (fun j h0 h1 => hwi j h0 (by have := hsb.1; omega))) gX7_area_X7_wholeArea rfl (by decide +kernel) (by decide) (by decide) (by decide) (by decide) rfl hl.1 rfl (Nat.le_of_ble_eq_true rfl) dX7_area_24 (fun z_3 u_4 H locs hp24 hP hD hS => ?_)
      subst z_3
      have hP : va_P dd vwCl [kO y0 7 [vI n, .ref v0, .ref a0, vI sts, .ref r0, .ref f0, .ref g0, .ref d0, .ref t9, vI ty, vI 0], kI cI v0 21 mv] H := hP
      have hD : va_D A [kO y0 7 [vI n, .ref v0, .ref a0, vI sts, .ref r0, .ref f0, .ref g0, .ref d0, .ref t9, vI ty, vI 0], kI cI v0 21 mv] := hD
      refine lv_goto (tgt := 31) hx hb dX7_area_27 (by decide) ?_
      subst hQ
      refine z_iret (z := sumZ (arZ (wv mv) n) n.toNat) hx hb hr hlocks dX7_area_31 0 hK hS ⟨by omega, by omega⟩ hP hD ?_
      first | exact Or.inl ⟨hsb, rfl, rfl⟩ | exact Or.inr ⟨fun u => (by have := stdZ_1 u; omega), rfl, rfl⟩

set_option maxHeartbeats 4000000 in
set_option maxRecDepth 100000 in
theorem c_X7_inversions (l : Launch) (dd : va_G) (cI cJ cC cS : ClassId) (y0 v0 a0 r0 f0 g0 d0 t9 : Nat) (n sts ty th : Int) (mv : Int → Int) (sz : Nat) (hn : 1 ≤ n ∧ n ≤ 8) (hc0 : 0 ≤ mv 0 ∧ mv 0 ≤ 9) (hc1 : 0 ≤ mv 1 ∧ mv 1 ≤ 3) (hc2 : 0 ≤ mv 2 ∧ mv 2 ≤ 8) (hcap : ∀ j : Int, 0 ≤ j → j < n → 0 ≤ mv (3 + j) ∧ mv (3 + j) ≤ 3) (hwi : ∀ j : Int, 0 ≤ j → j < mv 0 → 0 ≤ mv (12 + j) ∧ mv (12 + j) < n) : gMi l yX7_inversions wsX7_inversions 4 0 0 dd cI cJ cC cS [.ref y0] [kO y0 7 [vI n, .ref v0, .ref a0, vI sts, .ref r0, .ref f0, .ref g0, .ref d0, .ref t9, vI ty, vI th], kI cI v0 21 mv] sz (fun (z : Int) (th1 : Int) => ((stdB (wv mv) (mv 0) n ∧ z = sumZ (fun i => inS (labZ (wv mv) n) (arZ (wv mv) n) n i) n.toNat ∧ th1 = 0) ∨ (¬ stdB (wv mv) (mv 0) n ∧ z = 0 ∧ th1 = 1))) (fun (th1 : Int) => [kO y0 7 [vI n, .ref v0, .ref a0, vI sts, .ref r0, .ref f0, .ref g0, .ref d0, .ref t9, vI ty, vI th1], kI cI v0 21 mv]) := by
  refine gMi_of (cc := cX7_inversions) (maxL := 6) (ret := (some .int)) (by decide) rfl (Nat.le_of_ble_eq_true rfl) ?_
  intro p e s m args below meth c A Q hQ hx hb hr hts hown hlocks hnm hml H locs hP hK hD hA hS ls hl
  have hi7 : ∀ w ∈ wsX70, w ∈ wsX7_inversions := fun _ h => (List.mem_cons_of_mem _ (List.mem_append_right _ h))
  have hl : lv_has ls 6 [(0, .ref y0)] := hl
  refine lv_aload_n hx hb dX7_inversions_0 rfl (lv_at hl 0 rfl) ?_
  refine lv_aload_n hx hb dX7_inversions_1 rfl (lv_at hl 0 rfl) ?_
  refine g_callVi (own := RX7) (n := 0) (mc := 0) (ms := 0) (As := []) (rest := [.ref y0]) (wc := [kO y0 7 [vI n, .ref v0, .ref a0, vI sts, .ref r0, .ref f0, .ref g0, .ref d0, .ref t9, vI ty, vI th], kI cI v0 21 mv]) (wr := []) hx hb hml hown hts hK hP hD hS hA [0, 1] [] rfl rfl (by decide) (by decide) 7 0 rfl rfl (c_X7_standard l dd cI cJ cC cS y0 v0 a0 r0 f0 g0 d0 t9 n sts ty th mv H.size  (by first | assumption | omega) (by first | assumption | omega) (by first | assumption | (intro j h0 h1; omega))) gX7_inversions_X7_standard rfl (by decide +kernel) (by decide) (by decide) (by decide) (by decide) rfl hl.1 rfl (Nat.le_of_ble_eq_true rfl) dX7_inversions_2 (fun z_1 u_2 H locs hp2 hP hD hS => ?_)
  subst z_1
  have hP : va_P dd vwCl [kO y0 7 [vI n, .ref v0, .ref a0, vI sts, .ref r0, .ref f0, .ref g0, .ref d0, .ref t9, vI ty, vI th], kI cI v0 21 mv] H := hP
  have hD : va_D A [kO y0 7 [vI n, .ref v0, .ref a0, vI sts, .ref r0, .ref f0, .ref g0, .ref d0, .ref t9, vI ty, vI th], kI cI v0 21 mv] := hD
  have hz9 := stdZ_or (wv mv) (mv 0) n
  refine z_if_eq (tgt := 12) hx hb dX7_inversions_5 (by decide) (by omega) (fun c5 => ?_) (fun c5 => ?_)
  · skip
    refine z_iconst hx hb dX7_inversions_12 ?_
    refine va_put (D := dd) (ci := 7) (v := vI 1) (ty := .int) (C := RX7) (T := TX7) (N := 11) hx hb hts hi7 tyX7 tyX7_ok nmX7 hown hK hP hD hS 0 rfl rfl 10 (by decide) (hts _ (List.mem_cons_of_mem _ (List.mem_append_left _ (List.mem_of_getElem? (i := 0) rfl)))) (fun _ h9 => h9) rfl (by decide +kernel) rfl rfl (Nat.le_of_ble_eq_true rfl) dX7_inversions_13 (fun H locs hP hD hS => ?_)
    have hP : va_P dd vwCl [kO y0 7 [vI n, .ref v0, .ref a0, vI sts, .ref r0, .ref f0, .ref g0, .ref d0, .ref t9, vI ty, vI 1], kI cI v0 21 mv] H := hP
    have hD : va_D A [kO y0 7 [vI n, .ref v0, .ref a0, vI sts, .ref r0, .ref f0, .ref g0, .ref d0, .ref t9, vI ty, vI 1], kI cI v0 21 mv] := hD
    refine lv_aload_n hx hb dX7_inversions_16 rfl (lv_at hl 0 rfl) ?_
    refine va_get (D := dd) (ci := 7) (v := vI 1) (C := RX7) (T := TX7) (N := 11) hx hb hts hi7 hown hK hP 0 rfl rfl 10 (by decide) (hts _ (List.mem_cons_of_mem _ (List.mem_append_left _ (List.mem_of_getElem? (i := 0) rfl)))) (fun _ h9 => h9) rfl dX7_inversions_17 ?_
    refine z_if_eq (tgt := 25) hx hb dX7_inversions_20 (by decide) (by omega) (fun c20 => ?_) (fun c20 => ?_)
    · exact absurd c20 (by omega)
    · skip
      refine z_iconst hx hb dX7_inversions_23 ?_
      subst hQ
      refine z_iret (z := 0) hx hb hr hlocks dX7_inversions_24 1 hK hS ⟨by omega, by omega⟩ hP hD ?_
      exact Or.inr ⟨fun u => (by have := stdZ_1 u; omega), rfl, rfl⟩
  · skip
    refine z_iconst hx hb dX7_inversions_8 ?_
    refine lv_goto (tgt := 13) hx hb dX7_inversions_9 (by decide) ?_
    refine va_put (D := dd) (ci := 7) (v := vI 0) (ty := .int) (C := RX7) (T := TX7) (N := 11) hx hb hts hi7 tyX7 tyX7_ok nmX7 hown hK hP hD hS 0 rfl rfl 10 (by decide) (hts _ (List.mem_cons_of_mem _ (List.mem_append_left _ (List.mem_of_getElem? (i := 0) rfl)))) (fun _ h9 => h9) rfl (by decide +kernel) rfl rfl (Nat.le_of_ble_eq_true rfl) dX7_inversions_13 (fun H locs hP hD hS => ?_)
    have hP : va_P dd vwCl [kO y0 7 [vI n, .ref v0, .ref a0, vI sts, .ref r0, .ref f0, .ref g0, .ref d0, .ref t9, vI ty, vI 0], kI cI v0 21 mv] H := hP
    have hD : va_D A [kO y0 7 [vI n, .ref v0, .ref a0, vI sts, .ref r0, .ref f0, .ref g0, .ref d0, .ref t9, vI ty, vI 0], kI cI v0 21 mv] := hD
    refine lv_aload_n hx hb dX7_inversions_16 rfl (lv_at hl 0 rfl) ?_
    refine va_get (D := dd) (ci := 7) (v := vI 0) (C := RX7) (T := TX7) (N := 11) hx hb hts hi7 hown hK hP 0 rfl rfl 10 (by decide) (hts _ (List.mem_cons_of_mem _ (List.mem_append_left _ (List.mem_of_getElem? (i := 0) rfl)))) (fun _ h9 => h9) rfl dX7_inversions_17 ?_
    refine z_if_eq (tgt := 25) hx hb dX7_inversions_20 (by decide) (by omega) (fun c20 => ?_) (fun c20 => ?_)
    · skip
      have hsb : stdB (wv mv) (mv 0) n := stdZ_iff.mp (by omega)
      have hwn : ∀ j : Int, 0 ≤ j → j < n → 0 ≤ wv mv j ∧ wv mv j < n := fun j h0 h1 => hwi j h0 (by have := hsb.1; omega)
      have hsn : stdB (wv mv) n n := by
        have u := hsb
        rw [hsb.1] at u
        exact u
      refine z_iconst hx hb dX7_inversions_25 ?_
      refine lv_istore_n (lv' := [(1, vI 0), (0, .ref y0)]) hx hb dX7_inversions_26 rfl hl (by decide) rfl (fun ls hl => ?_)
      refine z_iconst hx hb dX7_inversions_27 ?_
      refine lv_istore_n (lv' := [(2, vI 0), (1, vI 0), (0, .ref y0)]) hx hb dX7_inversions_28 rfl hl (by decide) rfl (fun ls hl => ?_)
      have L29 : ∀ (nn : Nat) (i : Int) (b : Int) (H : Heap) (locs : List Loc) (ls : Array Slot), ((n + 1 - i).toNat) = nn → (0 ≤ i ∧ i ≤ n) → (b = sumZ (fun i => inS (labZ (wv mv) n) (arZ (wv mv) n) n i) i.toNat) → va_P dd vwCl [kO y0 7 [vI n, .ref v0, .ref a0, vI sts, .ref r0, .ref f0, .ref g0, .ref d0, .ref t9, vI ty, vI 0], kI cI v0 21 mv] H → va_D A [kO y0 7 [vI n, .ref v0, .ref a0, vI sts, .ref r0, .ref f0, .ref g0, .ref d0, .ref t9, vI ty, vI 0], kI cI v0 21 mv] → va_S A s.heap H locs → lv_has ls 6 [(1, vI b), (2, vI i), (0, .ref y0)] → W p l e (gR 4 0 0) s m args below meth c H locs 0 0 Q (F0 m 29 ls []) := by
        intro nn
        induction nn using Nat.strongRecOn with
        | ind nn L29i =>
        intro i b H locs ls hmeas hi hbb hP hD hS hl
        refine lv_iload_n hx hb dX7_inversions_29 rfl (lv_at hl 1 rfl) ?_
        refine lv_aload_n hx hb dX7_inversions_30 rfl (lv_at hl 2 rfl) ?_
        refine va_get (D := dd) (ci := 7) (v := vI n) (C := RX7) (T := TX7) (N := 11) hx hb hts hi7 hown hK hP 0 rfl rfl 0 (by decide) (hts _ (List.mem_cons_of_mem _ (List.mem_append_left _ (List.mem_of_getElem? (i := 1) rfl)))) (fun _ h9 => h9) rfl dX7_inversions_31 ?_
        refine z_icmp_ge (tgt := 147) hx hb dX7_inversions_34 (by decide) (by omega) (fun c34 => ?_) (fun c34 => ?_)
        · skip
          refine lv_iload_n hx hb dX7_inversions_147 rfl (lv_at hl 0 rfl) ?_
          subst hQ
          refine z_iret (z := b) hx hb hr hlocks dX7_inversions_148 0 hK hS ⟨by omega, by omega⟩ hP hD ?_
          exact Or.inl ⟨hsb, by rw [hbb, show i = n by omega], rfl⟩
        · skip
          refine lv_iload_n hx hb dX7_inversions_37 rfl (lv_at hl 1 rfl) ?_
          refine z_iconst hx hb dX7_inversions_38 ?_
          refine z_iadd (z := (i + 1)) hx hb rfl dX7_inversions_39 ?_
          refine lv_istore_n (lv' := [(3, vI (i + 1)), (1, vI b), (2, vI i), (0, .ref y0)]) hx hb dX7_inversions_40 rfl hl (by decide) rfl (fun ls hl => ?_)
          have L41 : ∀ (nn : Nat) (j : Int) (b2 : Int) (H : Heap) (locs : List Loc) (ls : Array Slot), ((n + 1 - j).toNat) = nn → (i < j ∧ j ≤ n) → (b2 = sumZ (fun i => inS (labZ (wv mv) n) (arZ (wv mv) n) n i) i.toNat + sumZ (fun j => if i < j then inZ (labZ (wv mv) n) (arZ (wv mv) n) i j else 0) j.toNat) → va_P dd vwCl [kO y0 7 [vI n, .ref v0, .ref a0, vI sts, .ref r0, .ref f0, .ref g0, .ref d0, .ref t9, vI ty, vI 0], kI cI v0 21 mv] H → va_D A [kO y0 7 [vI n, .ref v0, .ref a0, vI sts, .ref r0, .ref f0, .ref g0, .ref d0, .ref t9, vI ty, vI 0], kI cI v0 21 mv] → va_S A s.heap H locs → lv_has ls 6 [(1, vI b2), (3, vI j), (2, vI i), (0, .ref y0)] → W p l e (gR 4 0 0) s m args below meth c H locs 0 0 Q (F0 m 41 ls []) := by
            intro nn
            induction nn using Nat.strongRecOn with
            | ind nn L41i =>
            intro j b2 H locs ls hmeas hj hb2 hP hD hS hl
            refine lv_iload_n hx hb dX7_inversions_41 rfl (lv_at hl 1 rfl) ?_
            refine lv_aload_n hx hb dX7_inversions_42 rfl (lv_at hl 3 rfl) ?_
            refine va_get (D := dd) (ci := 7) (v := vI n) (C := RX7) (T := TX7) (N := 11) hx hb hts hi7 hown hK hP 0 rfl rfl 0 (by decide) (hts _ (List.mem_cons_of_mem _ (List.mem_append_left _ (List.mem_of_getElem? (i := 1) rfl)))) (fun _ h9 => h9) rfl dX7_inversions_43 ?_
            refine z_icmp_ge (tgt := 141) hx hb dX7_inversions_46 (by decide) (by omega) (fun c46 => ?_) (fun c46 => ?_)
            · skip
              refine z_iinc (a := i) (z := (i + 1)) (lv' := [(2, vI (i + 1)), (1, vI b2), (3, vI j), (0, .ref y0)]) hx hb dX7_inversions_141 hl (k := 2) rfl rfl (by decide) rfl (fun ls hl => ?_)
              refine lv_goto (tgt := 29) hx hb dX7_inversions_144 (by decide) ?_
              exact L29i _ (by omega) (i + 1) b2 H locs ls rfl (by omega) (by rw [sumZ_s (by omega), hb2, show j = n by omega]; rfl) hP hD hS (lv_sub hl [1, 0, 3] rfl)
            · skip
              have hai := ar_ok (wi := wv mv) (ct := n) (n := n) hwn hsn i (by omega) (by omega)
              have haj := ar_ok (wi := wv mv) (ct := n) (n := n) hwn hsn j (by omega) (by omega)
              have hli := labZ_at (wi := wv mv) (ct := n) (r := i) (by omega)
              have hlj := labZ_at (wi := wv mv) (ct := n) (r := j) (by omega)
              refine lv_aload_n hx hb dX7_inversions_49 rfl (lv_at hl 3 rfl) ?_
              refine lv_iload_n hx hb dX7_inversions_50 rfl (lv_at hl 2 rfl) ?_
              refine g_callVi (own := RX7) (n := 1) (mc := 0) (ms := 0) (As := [vI i]) (rest := []) (wc := [kO y0 7 [vI n, .ref v0, .ref a0, vI sts, .ref r0, .ref f0, .ref g0, .ref d0, .ref t9, vI ty, vI 0], kI cI v0 21 mv]) (wr := []) hx hb hml hown hts hK hP hD hS hA [0, 1] [] rfl rfl (by decide) (by decide) 7 0 rfl rfl (c_X7_areaAt l dd cI cJ cC cS y0 v0 a0 r0 f0 g0 d0 t9 n sts ty 0 mv i H.size  (by first | assumption | omega) (fun j h0 h1 => hwi j h0 (by have := hsb.1; omega)) (by first | assumption | omega)) gX7_inversions_X7_areaAt rfl (by decide +kernel) (by decide) (by decide) (by decide) (by decide) rfl hl.1 rfl (Nat.le_of_ble_eq_true rfl) dX7_inversions_51 (fun z_3 u_4 H locs hp51 hP hD hS => ?_)
              subst z_3
              have hP : va_P dd vwCl [kO y0 7 [vI n, .ref v0, .ref a0, vI sts, .ref r0, .ref f0, .ref g0, .ref d0, .ref t9, vI ty, vI 0], kI cI v0 21 mv] H := hP
              have hD : va_D A [kO y0 7 [vI n, .ref v0, .ref a0, vI sts, .ref r0, .ref f0, .ref g0, .ref d0, .ref t9, vI ty, vI 0], kI cI v0 21 mv] := hD
              refine lv_aload_n hx hb dX7_inversions_54 rfl (lv_at hl 3 rfl) ?_
              refine lv_iload_n hx hb dX7_inversions_55 rfl (lv_at hl 1 rfl) ?_
              refine g_callVi (own := RX7) (n := 1) (mc := 0) (ms := 0) (As := [vI j]) (rest := [vI (arZ (wv mv) n i)]) (wc := [kO y0 7 [vI n, .ref v0, .ref a0, vI sts, .ref r0, .ref f0, .ref g0, .ref d0, .ref t9, vI ty, vI 0], kI cI v0 21 mv]) (wr := []) hx hb hml hown hts hK hP hD hS hA [0, 1] [] rfl rfl (by decide) (by decide) 7 0 rfl rfl (c_X7_areaAt l dd cI cJ cC cS y0 v0 a0 r0 f0 g0 d0 t9 n sts ty 0 mv j H.size  (by first | assumption | omega) (fun j h0 h1 => hwi j h0 (by have := hsb.1; omega)) (by first | assumption | omega)) gX7_inversions_X7_areaAt rfl (by decide +kernel) (by decide) (by decide) (by decide) (by decide) rfl hl.1 rfl (Nat.le_of_ble_eq_true rfl) dX7_inversions_56 (fun z_5 u_6 H locs hp56 hP hD hS => ?_)
              subst z_5
              have hP : va_P dd vwCl [kO y0 7 [vI n, .ref v0, .ref a0, vI sts, .ref r0, .ref f0, .ref g0, .ref d0, .ref t9, vI ty, vI 0], kI cI v0 21 mv] H := hP
              have hD : va_D A [kO y0 7 [vI n, .ref v0, .ref a0, vI sts, .ref r0, .ref f0, .ref g0, .ref d0, .ref t9, vI ty, vI 0], kI cI v0 21 mv] := hD
              refine z_icmp_ne (tgt := 79) hx hb dX7_inversions_59 (by decide) (by omega) (fun c59 => ?_) (fun c59 => ?_)
              · skip
                refine z_iconst hx hb dX7_inversions_79 ?_
                refine lv_istore (lv' := [(4, vI 0), (1, vI b2), (3, vI j), (2, vI i), (0, .ref y0)]) hx hb dX7_inversions_80 hl (by decide) rfl (fun ls hl => ?_)
                refine lv_aload_n hx hb dX7_inversions_82 rfl (lv_at hl 4 rfl) ?_
                refine lv_iload_n hx hb dX7_inversions_83 rfl (lv_at hl 3 rfl) ?_
                refine g_callVi (own := RX7) (n := 1) (mc := 0) (ms := 0) (As := [vI i]) (rest := []) (wc := [kO y0 7 [vI n, .ref v0, .ref a0, vI sts, .ref r0, .ref f0, .ref g0, .ref d0, .ref t9, vI ty, vI 0], kI cI v0 21 mv]) (wr := []) hx hb hml hown hts hK hP hD hS hA [0, 1] [] rfl rfl (by decide) (by decide) 7 0 rfl rfl (c_X7_areaAt l dd cI cJ cC cS y0 v0 a0 r0 f0 g0 d0 t9 n sts ty 0 mv i H.size  (by first | assumption | omega) (fun j h0 h1 => hwi j h0 (by have := hsb.1; omega)) (by first | assumption | omega)) gX7_inversions_X7_areaAt rfl (by decide +kernel) (by decide) (by decide) (by decide) (by decide) rfl hl.1 rfl (Nat.le_of_ble_eq_true rfl) dX7_inversions_84 (fun z_7 u_8 H locs hp84 hP hD hS => ?_)
                subst z_7
                have hP : va_P dd vwCl [kO y0 7 [vI n, .ref v0, .ref a0, vI sts, .ref r0, .ref f0, .ref g0, .ref d0, .ref t9, vI ty, vI 0], kI cI v0 21 mv] H := hP
                have hD : va_D A [kO y0 7 [vI n, .ref v0, .ref a0, vI sts, .ref r0, .ref f0, .ref g0, .ref d0, .ref t9, vI ty, vI 0], kI cI v0 21 mv] := hD
                refine lv_aload_n hx hb dX7_inversions_87 rfl (lv_at hl 4 rfl) ?_
                refine lv_iload_n hx hb dX7_inversions_88 rfl (lv_at hl 2 rfl) ?_
                refine g_callVi (own := RX7) (n := 1) (mc := 0) (ms := 0) (As := [vI j]) (rest := [vI (arZ (wv mv) n i)]) (wc := [kO y0 7 [vI n, .ref v0, .ref a0, vI sts, .ref r0, .ref f0, .ref g0, .ref d0, .ref t9, vI ty, vI 0], kI cI v0 21 mv]) (wr := []) hx hb hml hown hts hK hP hD hS hA [0, 1] [] rfl rfl (by decide) (by decide) 7 0 rfl rfl (c_X7_areaAt l dd cI cJ cC cS y0 v0 a0 r0 f0 g0 d0 t9 n sts ty 0 mv j H.size  (by first | assumption | omega) (fun j h0 h1 => hwi j h0 (by have := hsb.1; omega)) (by first | assumption | omega)) gX7_inversions_X7_areaAt rfl (by decide +kernel) (by decide) (by decide) (by decide) (by decide) rfl hl.1 rfl (Nat.le_of_ble_eq_true rfl) dX7_inversions_89 (fun z_9 u_10 H locs hp89 hP hD hS => ?_)
                subst z_9
                have hP : va_P dd vwCl [kO y0 7 [vI n, .ref v0, .ref a0, vI sts, .ref r0, .ref f0, .ref g0, .ref d0, .ref t9, vI ty, vI 0], kI cI v0 21 mv] H := hP
                have hD : va_D A [kO y0 7 [vI n, .ref v0, .ref a0, vI sts, .ref r0, .ref f0, .ref g0, .ref d0, .ref t9, vI ty, vI 0], kI cI v0 21 mv] := hD
                refine z_iconst hx hb dX7_inversions_92 ?_
                refine z_iadd (z := (arZ (wv mv) n j + 1)) hx hb rfl dX7_inversions_93 ?_
                refine z_icmp_ne (tgt := 114) hx hb dX7_inversions_94 (by decide) (by omega) (fun c94 => ?_) (fun c94 => ?_)
                · skip
                  refine z_iconst hx hb dX7_inversions_114 ?_
                  refine lv_istore (lv' := [(5, vI 0), (4, vI 0), (1, vI b2), (3, vI j), (2, vI i), (0, .ref y0)]) hx hb dX7_inversions_115 hl (by decide) rfl (fun ls hl => ?_)
                  refine lv_iload_n hx hb dX7_inversions_117 rfl (lv_at hl 2 rfl) ?_
                  refine lv_iload hx hb dX7_inversions_118 (lv_at hl 1 rfl) ?_
                  refine z_if_ne (tgt := 128) hx hb dX7_inversions_120 (by decide) (by omega) (fun c120 => ?_) (fun c120 => ?_)
                  · exact absurd c120 (by omega)
                  · skip
                    refine lv_iload hx hb dX7_inversions_123 (lv_at hl 0 rfl) ?_
                    refine z_if_eq (tgt := 132) hx hb dX7_inversions_125 (by decide) (by omega) (fun c125 => ?_) (fun c125 => ?_)
                    · skip
                      refine z_iconst hx hb dX7_inversions_132 ?_
                      refine z_iadd (z := b2) hx hb (Int.add_zero _) dX7_inversions_133 ?_
                      refine lv_istore_n (lv' := [(1, vI b2), (5, vI 0), (4, vI 0), (3, vI j), (2, vI i), (0, .ref y0)]) hx hb dX7_inversions_134 rfl hl (by decide) rfl (fun ls hl => ?_)
                      refine z_iinc (a := j) (z := (j + 1)) (lv' := [(3, vI (j + 1)), (1, vI b2), (5, vI 0), (4, vI 0), (2, vI i), (0, .ref y0)]) hx hb dX7_inversions_135 hl (k := 3) rfl rfl (by decide) rfl (fun ls hl => ?_)
                      refine lv_goto (tgt := 41) hx hb dX7_inversions_138 (by decide) ?_
                      exact L41i _ (by omega) (j + 1) b2 H locs ls rfl (by omega) (by rw [sumZ_s (f := fun j => if i < j then inZ (labZ (wv mv) n) (arZ (wv mv) n) i j else 0) (by omega), if_pos (by omega)]; first | (rw [inZ_1 (by omega)]; omega) | (rw [inZ_0 (by omega)]; omega)) hP hD hS (lv_sub hl [1, 0, 4, 5] rfl)
                    · exact absurd c125 (by omega)
                · skip
                  refine lv_aload_n hx hb dX7_inversions_97 rfl (lv_at hl 4 rfl) ?_
                  refine lv_iload_n hx hb dX7_inversions_98 rfl (lv_at hl 3 rfl) ?_
                  refine g_callVi (own := RX7) (n := 1) (mc := 0) (ms := 0) (As := [vI i]) (rest := []) (wc := [kO y0 7 [vI n, .ref v0, .ref a0, vI sts, .ref r0, .ref f0, .ref g0, .ref d0, .ref t9, vI ty, vI 0], kI cI v0 21 mv]) (wr := []) hx hb hml hown hts hK hP hD hS hA [0, 1] [] rfl rfl (by decide) (by decide) 7 0 rfl rfl (c_X7_labelOf l dd cI cJ cC cS y0 v0 a0 r0 f0 g0 d0 t9 n sts ty 0 mv i H.size  (by first | assumption | omega) (fun j h0 h1 => hwi j h0 (by have := hsb.1; omega)) (by first | assumption | omega)) gX7_inversions_X7_labelOf rfl (by decide +kernel) (by decide) (by decide) (by decide) (by decide) rfl hl.1 rfl (Nat.le_of_ble_eq_true rfl) dX7_inversions_99 (fun z_11 u_12 H locs hp99 hP hD hS => ?_)
                  subst z_11
                  have hP : va_P dd vwCl [kO y0 7 [vI n, .ref v0, .ref a0, vI sts, .ref r0, .ref f0, .ref g0, .ref d0, .ref t9, vI ty, vI 0], kI cI v0 21 mv] H := hP
                  have hD : va_D A [kO y0 7 [vI n, .ref v0, .ref a0, vI sts, .ref r0, .ref f0, .ref g0, .ref d0, .ref t9, vI ty, vI 0], kI cI v0 21 mv] := hD
                  refine lv_aload_n hx hb dX7_inversions_102 rfl (lv_at hl 4 rfl) ?_
                  refine lv_iload_n hx hb dX7_inversions_103 rfl (lv_at hl 2 rfl) ?_
                  refine g_callVi (own := RX7) (n := 1) (mc := 0) (ms := 0) (As := [vI j]) (rest := [vI (labZ (wv mv) n i)]) (wc := [kO y0 7 [vI n, .ref v0, .ref a0, vI sts, .ref r0, .ref f0, .ref g0, .ref d0, .ref t9, vI ty, vI 0], kI cI v0 21 mv]) (wr := []) hx hb hml hown hts hK hP hD hS hA [0, 1] [] rfl rfl (by decide) (by decide) 7 0 rfl rfl (c_X7_labelOf l dd cI cJ cC cS y0 v0 a0 r0 f0 g0 d0 t9 n sts ty 0 mv j H.size  (by first | assumption | omega) (fun j h0 h1 => hwi j h0 (by have := hsb.1; omega)) (by first | assumption | omega)) gX7_inversions_X7_labelOf rfl (by decide +kernel) (by decide) (by decide) (by decide) (by decide) rfl hl.1 rfl (Nat.le_of_ble_eq_true rfl) dX7_inversions_104 (fun z_13 u_14 H locs hp104 hP hD hS => ?_)
                  subst z_13
                  have hP : va_P dd vwCl [kO y0 7 [vI n, .ref v0, .ref a0, vI sts, .ref r0, .ref f0, .ref g0, .ref d0, .ref t9, vI ty, vI 0], kI cI v0 21 mv] H := hP
                  have hD : va_D A [kO y0 7 [vI n, .ref v0, .ref a0, vI sts, .ref r0, .ref f0, .ref g0, .ref d0, .ref t9, vI ty, vI 0], kI cI v0 21 mv] := hD
                  refine z_icmp_le (tgt := 114) hx hb dX7_inversions_107 (by decide) (by omega) (fun c107 => ?_) (fun c107 => ?_)
                  · skip
                    refine z_iconst hx hb dX7_inversions_114 ?_
                    refine lv_istore (lv' := [(5, vI 0), (4, vI 0), (1, vI b2), (3, vI j), (2, vI i), (0, .ref y0)]) hx hb dX7_inversions_115 hl (by decide) rfl (fun ls hl => ?_)
                    refine lv_iload_n hx hb dX7_inversions_117 rfl (lv_at hl 2 rfl) ?_
                    refine lv_iload hx hb dX7_inversions_118 (lv_at hl 1 rfl) ?_
                    refine z_if_ne (tgt := 128) hx hb dX7_inversions_120 (by decide) (by omega) (fun c120 => ?_) (fun c120 => ?_)
                    · exact absurd c120 (by omega)
                    · skip
                      refine lv_iload hx hb dX7_inversions_123 (lv_at hl 0 rfl) ?_
                      refine z_if_eq (tgt := 132) hx hb dX7_inversions_125 (by decide) (by omega) (fun c125 => ?_) (fun c125 => ?_)
                      · skip
                        refine z_iconst hx hb dX7_inversions_132 ?_
                        refine z_iadd (z := b2) hx hb (Int.add_zero _) dX7_inversions_133 ?_
                        refine lv_istore_n (lv' := [(1, vI b2), (5, vI 0), (4, vI 0), (3, vI j), (2, vI i), (0, .ref y0)]) hx hb dX7_inversions_134 rfl hl (by decide) rfl (fun ls hl => ?_)
                        refine z_iinc (a := j) (z := (j + 1)) (lv' := [(3, vI (j + 1)), (1, vI b2), (5, vI 0), (4, vI 0), (2, vI i), (0, .ref y0)]) hx hb dX7_inversions_135 hl (k := 3) rfl rfl (by decide) rfl (fun ls hl => ?_)
                        refine lv_goto (tgt := 41) hx hb dX7_inversions_138 (by decide) ?_
                        exact L41i _ (by omega) (j + 1) b2 H locs ls rfl (by omega) (by rw [sumZ_s (f := fun j => if i < j then inZ (labZ (wv mv) n) (arZ (wv mv) n) i j else 0) (by omega), if_pos (by omega)]; first | (rw [inZ_1 (by omega)]; omega) | (rw [inZ_0 (by omega)]; omega)) hP hD hS (lv_sub hl [1, 0, 4, 5] rfl)
                      · exact absurd c125 (by omega)
                  · skip
                    refine z_iconst hx hb dX7_inversions_110 ?_
                    refine lv_goto (tgt := 115) hx hb dX7_inversions_111 (by decide) ?_
                    refine lv_istore (lv' := [(5, vI 1), (4, vI 0), (1, vI b2), (3, vI j), (2, vI i), (0, .ref y0)]) hx hb dX7_inversions_115 hl (by decide) rfl (fun ls hl => ?_)
                    refine lv_iload_n hx hb dX7_inversions_117 rfl (lv_at hl 2 rfl) ?_
                    refine lv_iload hx hb dX7_inversions_118 (lv_at hl 1 rfl) ?_
                    refine z_if_ne (tgt := 128) hx hb dX7_inversions_120 (by decide) (by omega) (fun c120 => ?_) (fun c120 => ?_)
                    · exact absurd c120 (by omega)
                    · skip
                      refine lv_iload hx hb dX7_inversions_123 (lv_at hl 0 rfl) ?_
                      refine z_if_eq (tgt := 132) hx hb dX7_inversions_125 (by decide) (by omega) (fun c125 => ?_) (fun c125 => ?_)
                      · exact absurd c125 (by omega)
                      · skip
                        refine z_iconst hx hb dX7_inversions_128 ?_
                        refine lv_goto (tgt := 133) hx hb dX7_inversions_129 (by decide) ?_
                        refine z_iadd (z := (b2 + 1)) hx hb rfl dX7_inversions_133 ?_
                        refine lv_istore_n (lv' := [(1, vI (b2 + 1)), (5, vI 1), (4, vI 0), (3, vI j), (2, vI i), (0, .ref y0)]) hx hb dX7_inversions_134 rfl hl (by decide) rfl (fun ls hl => ?_)
                        refine z_iinc (a := j) (z := (j + 1)) (lv' := [(3, vI (j + 1)), (1, vI (b2 + 1)), (5, vI 1), (4, vI 0), (2, vI i), (0, .ref y0)]) hx hb dX7_inversions_135 hl (k := 3) rfl rfl (by decide) rfl (fun ls hl => ?_)
                        refine lv_goto (tgt := 41) hx hb dX7_inversions_138 (by decide) ?_
                        exact L41i _ (by omega) (j + 1) (b2 + 1) H locs ls rfl (by omega) (by rw [sumZ_s (f := fun j => if i < j then inZ (labZ (wv mv) n) (arZ (wv mv) n) i j else 0) (by omega), if_pos (by omega)]; first | (rw [inZ_1 (by omega)]; omega) | (rw [inZ_0 (by omega)]; omega)) hP hD hS (lv_sub hl [1, 0, 4, 5] rfl)
              · skip
                refine lv_aload_n hx hb dX7_inversions_62 rfl (lv_at hl 3 rfl) ?_
                refine lv_iload_n hx hb dX7_inversions_63 rfl (lv_at hl 2 rfl) ?_
                refine g_callVi (own := RX7) (n := 1) (mc := 0) (ms := 0) (As := [vI i]) (rest := []) (wc := [kO y0 7 [vI n, .ref v0, .ref a0, vI sts, .ref r0, .ref f0, .ref g0, .ref d0, .ref t9, vI ty, vI 0], kI cI v0 21 mv]) (wr := []) hx hb hml hown hts hK hP hD hS hA [0, 1] [] rfl rfl (by decide) (by decide) 7 0 rfl rfl (c_X7_labelOf l dd cI cJ cC cS y0 v0 a0 r0 f0 g0 d0 t9 n sts ty 0 mv i H.size  (by first | assumption | omega) (fun j h0 h1 => hwi j h0 (by have := hsb.1; omega)) (by first | assumption | omega)) gX7_inversions_X7_labelOf rfl (by decide +kernel) (by decide) (by decide) (by decide) (by decide) rfl hl.1 rfl (Nat.le_of_ble_eq_true rfl) dX7_inversions_64 (fun z_15 u_16 H locs hp64 hP hD hS => ?_)
                subst z_15
                have hP : va_P dd vwCl [kO y0 7 [vI n, .ref v0, .ref a0, vI sts, .ref r0, .ref f0, .ref g0, .ref d0, .ref t9, vI ty, vI 0], kI cI v0 21 mv] H := hP
                have hD : va_D A [kO y0 7 [vI n, .ref v0, .ref a0, vI sts, .ref r0, .ref f0, .ref g0, .ref d0, .ref t9, vI ty, vI 0], kI cI v0 21 mv] := hD
                refine lv_aload_n hx hb dX7_inversions_67 rfl (lv_at hl 3 rfl) ?_
                refine lv_iload_n hx hb dX7_inversions_68 rfl (lv_at hl 1 rfl) ?_
                refine g_callVi (own := RX7) (n := 1) (mc := 0) (ms := 0) (As := [vI j]) (rest := [vI (labZ (wv mv) n i)]) (wc := [kO y0 7 [vI n, .ref v0, .ref a0, vI sts, .ref r0, .ref f0, .ref g0, .ref d0, .ref t9, vI ty, vI 0], kI cI v0 21 mv]) (wr := []) hx hb hml hown hts hK hP hD hS hA [0, 1] [] rfl rfl (by decide) (by decide) 7 0 rfl rfl (c_X7_labelOf l dd cI cJ cC cS y0 v0 a0 r0 f0 g0 d0 t9 n sts ty 0 mv j H.size  (by first | assumption | omega) (fun j h0 h1 => hwi j h0 (by have := hsb.1; omega)) (by first | assumption | omega)) gX7_inversions_X7_labelOf rfl (by decide +kernel) (by decide) (by decide) (by decide) (by decide) rfl hl.1 rfl (Nat.le_of_ble_eq_true rfl) dX7_inversions_69 (fun z_17 u_18 H locs hp69 hP hD hS => ?_)
                subst z_17
                have hP : va_P dd vwCl [kO y0 7 [vI n, .ref v0, .ref a0, vI sts, .ref r0, .ref f0, .ref g0, .ref d0, .ref t9, vI ty, vI 0], kI cI v0 21 mv] H := hP
                have hD : va_D A [kO y0 7 [vI n, .ref v0, .ref a0, vI sts, .ref r0, .ref f0, .ref g0, .ref d0, .ref t9, vI ty, vI 0], kI cI v0 21 mv] := hD
                refine z_icmp_ge (tgt := 79) hx hb dX7_inversions_72 (by decide) (by omega) (fun c72 => ?_) (fun c72 => ?_)
                · skip
                  refine z_iconst hx hb dX7_inversions_79 ?_
                  refine lv_istore (lv' := [(4, vI 0), (1, vI b2), (3, vI j), (2, vI i), (0, .ref y0)]) hx hb dX7_inversions_80 hl (by decide) rfl (fun ls hl => ?_)
                  refine lv_aload_n hx hb dX7_inversions_82 rfl (lv_at hl 4 rfl) ?_
                  refine lv_iload_n hx hb dX7_inversions_83 rfl (lv_at hl 3 rfl) ?_
                  refine g_callVi (own := RX7) (n := 1) (mc := 0) (ms := 0) (As := [vI i]) (rest := []) (wc := [kO y0 7 [vI n, .ref v0, .ref a0, vI sts, .ref r0, .ref f0, .ref g0, .ref d0, .ref t9, vI ty, vI 0], kI cI v0 21 mv]) (wr := []) hx hb hml hown hts hK hP hD hS hA [0, 1] [] rfl rfl (by decide) (by decide) 7 0 rfl rfl (c_X7_areaAt l dd cI cJ cC cS y0 v0 a0 r0 f0 g0 d0 t9 n sts ty 0 mv i H.size  (by first | assumption | omega) (fun j h0 h1 => hwi j h0 (by have := hsb.1; omega)) (by first | assumption | omega)) gX7_inversions_X7_areaAt rfl (by decide +kernel) (by decide) (by decide) (by decide) (by decide) rfl hl.1 rfl (Nat.le_of_ble_eq_true rfl) dX7_inversions_84 (fun z_19 u_20 H locs hp84_21 hP hD hS => ?_)
                  subst z_19
                  have hP : va_P dd vwCl [kO y0 7 [vI n, .ref v0, .ref a0, vI sts, .ref r0, .ref f0, .ref g0, .ref d0, .ref t9, vI ty, vI 0], kI cI v0 21 mv] H := hP
                  have hD : va_D A [kO y0 7 [vI n, .ref v0, .ref a0, vI sts, .ref r0, .ref f0, .ref g0, .ref d0, .ref t9, vI ty, vI 0], kI cI v0 21 mv] := hD
                  refine lv_aload_n hx hb dX7_inversions_87 rfl (lv_at hl 4 rfl) ?_
                  refine lv_iload_n hx hb dX7_inversions_88 rfl (lv_at hl 2 rfl) ?_
                  refine g_callVi (own := RX7) (n := 1) (mc := 0) (ms := 0) (As := [vI j]) (rest := [vI (arZ (wv mv) n i)]) (wc := [kO y0 7 [vI n, .ref v0, .ref a0, vI sts, .ref r0, .ref f0, .ref g0, .ref d0, .ref t9, vI ty, vI 0], kI cI v0 21 mv]) (wr := []) hx hb hml hown hts hK hP hD hS hA [0, 1] [] rfl rfl (by decide) (by decide) 7 0 rfl rfl (c_X7_areaAt l dd cI cJ cC cS y0 v0 a0 r0 f0 g0 d0 t9 n sts ty 0 mv j H.size  (by first | assumption | omega) (fun j h0 h1 => hwi j h0 (by have := hsb.1; omega)) (by first | assumption | omega)) gX7_inversions_X7_areaAt rfl (by decide +kernel) (by decide) (by decide) (by decide) (by decide) rfl hl.1 rfl (Nat.le_of_ble_eq_true rfl) dX7_inversions_89 (fun z_22 u_23 H locs hp89_24 hP hD hS => ?_)
                  subst z_22
                  have hP : va_P dd vwCl [kO y0 7 [vI n, .ref v0, .ref a0, vI sts, .ref r0, .ref f0, .ref g0, .ref d0, .ref t9, vI ty, vI 0], kI cI v0 21 mv] H := hP
                  have hD : va_D A [kO y0 7 [vI n, .ref v0, .ref a0, vI sts, .ref r0, .ref f0, .ref g0, .ref d0, .ref t9, vI ty, vI 0], kI cI v0 21 mv] := hD
                  refine z_iconst hx hb dX7_inversions_92 ?_
                  refine z_iadd (z := (arZ (wv mv) n j + 1)) hx hb rfl dX7_inversions_93 ?_
                  refine z_icmp_ne (tgt := 114) hx hb dX7_inversions_94 (by decide) (by omega) (fun c94 => ?_) (fun c94 => ?_)
                  · skip
                    refine z_iconst hx hb dX7_inversions_114 ?_
                    refine lv_istore (lv' := [(5, vI 0), (4, vI 0), (1, vI b2), (3, vI j), (2, vI i), (0, .ref y0)]) hx hb dX7_inversions_115 hl (by decide) rfl (fun ls hl => ?_)
                    refine lv_iload_n hx hb dX7_inversions_117 rfl (lv_at hl 2 rfl) ?_
                    refine lv_iload hx hb dX7_inversions_118 (lv_at hl 1 rfl) ?_
                    refine z_if_ne (tgt := 128) hx hb dX7_inversions_120 (by decide) (by omega) (fun c120 => ?_) (fun c120 => ?_)
                    · exact absurd c120 (by omega)
                    · skip
                      refine lv_iload hx hb dX7_inversions_123 (lv_at hl 0 rfl) ?_
                      refine z_if_eq (tgt := 132) hx hb dX7_inversions_125 (by decide) (by omega) (fun c125 => ?_) (fun c125 => ?_)
                      · skip
                        refine z_iconst hx hb dX7_inversions_132 ?_
                        refine z_iadd (z := b2) hx hb (Int.add_zero _) dX7_inversions_133 ?_
                        refine lv_istore_n (lv' := [(1, vI b2), (5, vI 0), (4, vI 0), (3, vI j), (2, vI i), (0, .ref y0)]) hx hb dX7_inversions_134 rfl hl (by decide) rfl (fun ls hl => ?_)
                        refine z_iinc (a := j) (z := (j + 1)) (lv' := [(3, vI (j + 1)), (1, vI b2), (5, vI 0), (4, vI 0), (2, vI i), (0, .ref y0)]) hx hb dX7_inversions_135 hl (k := 3) rfl rfl (by decide) rfl (fun ls hl => ?_)
                        refine lv_goto (tgt := 41) hx hb dX7_inversions_138 (by decide) ?_
                        exact L41i _ (by omega) (j + 1) b2 H locs ls rfl (by omega) (by rw [sumZ_s (f := fun j => if i < j then inZ (labZ (wv mv) n) (arZ (wv mv) n) i j else 0) (by omega), if_pos (by omega)]; first | (rw [inZ_1 (by omega)]; omega) | (rw [inZ_0 (by omega)]; omega)) hP hD hS (lv_sub hl [1, 0, 4, 5] rfl)
                      · exact absurd c125 (by omega)
                  · skip
                    refine lv_aload_n hx hb dX7_inversions_97 rfl (lv_at hl 4 rfl) ?_
                    refine lv_iload_n hx hb dX7_inversions_98 rfl (lv_at hl 3 rfl) ?_
                    refine g_callVi (own := RX7) (n := 1) (mc := 0) (ms := 0) (As := [vI i]) (rest := []) (wc := [kO y0 7 [vI n, .ref v0, .ref a0, vI sts, .ref r0, .ref f0, .ref g0, .ref d0, .ref t9, vI ty, vI 0], kI cI v0 21 mv]) (wr := []) hx hb hml hown hts hK hP hD hS hA [0, 1] [] rfl rfl (by decide) (by decide) 7 0 rfl rfl (c_X7_labelOf l dd cI cJ cC cS y0 v0 a0 r0 f0 g0 d0 t9 n sts ty 0 mv i H.size  (by first | assumption | omega) (fun j h0 h1 => hwi j h0 (by have := hsb.1; omega)) (by first | assumption | omega)) gX7_inversions_X7_labelOf rfl (by decide +kernel) (by decide) (by decide) (by decide) (by decide) rfl hl.1 rfl (Nat.le_of_ble_eq_true rfl) dX7_inversions_99 (fun z_25 u_26 H locs hp99_27 hP hD hS => ?_)
                    subst z_25
                    have hP : va_P dd vwCl [kO y0 7 [vI n, .ref v0, .ref a0, vI sts, .ref r0, .ref f0, .ref g0, .ref d0, .ref t9, vI ty, vI 0], kI cI v0 21 mv] H := hP
                    have hD : va_D A [kO y0 7 [vI n, .ref v0, .ref a0, vI sts, .ref r0, .ref f0, .ref g0, .ref d0, .ref t9, vI ty, vI 0], kI cI v0 21 mv] := hD
                    refine lv_aload_n hx hb dX7_inversions_102 rfl (lv_at hl 4 rfl) ?_
                    refine lv_iload_n hx hb dX7_inversions_103 rfl (lv_at hl 2 rfl) ?_
                    refine g_callVi (own := RX7) (n := 1) (mc := 0) (ms := 0) (As := [vI j]) (rest := [vI (labZ (wv mv) n i)]) (wc := [kO y0 7 [vI n, .ref v0, .ref a0, vI sts, .ref r0, .ref f0, .ref g0, .ref d0, .ref t9, vI ty, vI 0], kI cI v0 21 mv]) (wr := []) hx hb hml hown hts hK hP hD hS hA [0, 1] [] rfl rfl (by decide) (by decide) 7 0 rfl rfl (c_X7_labelOf l dd cI cJ cC cS y0 v0 a0 r0 f0 g0 d0 t9 n sts ty 0 mv j H.size  (by first | assumption | omega) (fun j h0 h1 => hwi j h0 (by have := hsb.1; omega)) (by first | assumption | omega)) gX7_inversions_X7_labelOf rfl (by decide +kernel) (by decide) (by decide) (by decide) (by decide) rfl hl.1 rfl (Nat.le_of_ble_eq_true rfl) dX7_inversions_104 (fun z_28 u_29 H locs hp104_30 hP hD hS => ?_)
                    subst z_28
                    have hP : va_P dd vwCl [kO y0 7 [vI n, .ref v0, .ref a0, vI sts, .ref r0, .ref f0, .ref g0, .ref d0, .ref t9, vI ty, vI 0], kI cI v0 21 mv] H := hP
                    have hD : va_D A [kO y0 7 [vI n, .ref v0, .ref a0, vI sts, .ref r0, .ref f0, .ref g0, .ref d0, .ref t9, vI ty, vI 0], kI cI v0 21 mv] := hD
                    refine z_icmp_le (tgt := 114) hx hb dX7_inversions_107 (by decide) (by omega) (fun c107 => ?_) (fun c107 => ?_)
                    · skip
                      refine z_iconst hx hb dX7_inversions_114 ?_
                      refine lv_istore (lv' := [(5, vI 0), (4, vI 0), (1, vI b2), (3, vI j), (2, vI i), (0, .ref y0)]) hx hb dX7_inversions_115 hl (by decide) rfl (fun ls hl => ?_)
                      refine lv_iload_n hx hb dX7_inversions_117 rfl (lv_at hl 2 rfl) ?_
                      refine lv_iload hx hb dX7_inversions_118 (lv_at hl 1 rfl) ?_
                      refine z_if_ne (tgt := 128) hx hb dX7_inversions_120 (by decide) (by omega) (fun c120 => ?_) (fun c120 => ?_)
                      · exact absurd c120 (by omega)
                      · skip
                        refine lv_iload hx hb dX7_inversions_123 (lv_at hl 0 rfl) ?_
                        refine z_if_eq (tgt := 132) hx hb dX7_inversions_125 (by decide) (by omega) (fun c125 => ?_) (fun c125 => ?_)
                        · skip
                          refine z_iconst hx hb dX7_inversions_132 ?_
                          refine z_iadd (z := b2) hx hb (Int.add_zero _) dX7_inversions_133 ?_
                          refine lv_istore_n (lv' := [(1, vI b2), (5, vI 0), (4, vI 0), (3, vI j), (2, vI i), (0, .ref y0)]) hx hb dX7_inversions_134 rfl hl (by decide) rfl (fun ls hl => ?_)
                          refine z_iinc (a := j) (z := (j + 1)) (lv' := [(3, vI (j + 1)), (1, vI b2), (5, vI 0), (4, vI 0), (2, vI i), (0, .ref y0)]) hx hb dX7_inversions_135 hl (k := 3) rfl rfl (by decide) rfl (fun ls hl => ?_)
                          refine lv_goto (tgt := 41) hx hb dX7_inversions_138 (by decide) ?_
                          exact L41i _ (by omega) (j + 1) b2 H locs ls rfl (by omega) (by rw [sumZ_s (f := fun j => if i < j then inZ (labZ (wv mv) n) (arZ (wv mv) n) i j else 0) (by omega), if_pos (by omega)]; first | (rw [inZ_1 (by omega)]; omega) | (rw [inZ_0 (by omega)]; omega)) hP hD hS (lv_sub hl [1, 0, 4, 5] rfl)
                        · exact absurd c125 (by omega)
                    · skip
                      refine z_iconst hx hb dX7_inversions_110 ?_
                      refine lv_goto (tgt := 115) hx hb dX7_inversions_111 (by decide) ?_
                      refine lv_istore (lv' := [(5, vI 1), (4, vI 0), (1, vI b2), (3, vI j), (2, vI i), (0, .ref y0)]) hx hb dX7_inversions_115 hl (by decide) rfl (fun ls hl => ?_)
                      refine lv_iload_n hx hb dX7_inversions_117 rfl (lv_at hl 2 rfl) ?_
                      refine lv_iload hx hb dX7_inversions_118 (lv_at hl 1 rfl) ?_
                      refine z_if_ne (tgt := 128) hx hb dX7_inversions_120 (by decide) (by omega) (fun c120 => ?_) (fun c120 => ?_)
                      · exact absurd c120 (by omega)
                      · skip
                        refine lv_iload hx hb dX7_inversions_123 (lv_at hl 0 rfl) ?_
                        refine z_if_eq (tgt := 132) hx hb dX7_inversions_125 (by decide) (by omega) (fun c125 => ?_) (fun c125 => ?_)
                        · exact absurd c125 (by omega)
                        · skip
                          refine z_iconst hx hb dX7_inversions_128 ?_
                          refine lv_goto (tgt := 133) hx hb dX7_inversions_129 (by decide) ?_
                          refine z_iadd (z := (b2 + 1)) hx hb rfl dX7_inversions_133 ?_
                          refine lv_istore_n (lv' := [(1, vI (b2 + 1)), (5, vI 1), (4, vI 0), (3, vI j), (2, vI i), (0, .ref y0)]) hx hb dX7_inversions_134 rfl hl (by decide) rfl (fun ls hl => ?_)
                          refine z_iinc (a := j) (z := (j + 1)) (lv' := [(3, vI (j + 1)), (1, vI (b2 + 1)), (5, vI 1), (4, vI 0), (2, vI i), (0, .ref y0)]) hx hb dX7_inversions_135 hl (k := 3) rfl rfl (by decide) rfl (fun ls hl => ?_)
                          refine lv_goto (tgt := 41) hx hb dX7_inversions_138 (by decide) ?_
                          exact L41i _ (by omega) (j + 1) (b2 + 1) H locs ls rfl (by omega) (by rw [sumZ_s (f := fun j => if i < j then inZ (labZ (wv mv) n) (arZ (wv mv) n) i j else 0) (by omega), if_pos (by omega)]; first | (rw [inZ_1 (by omega)]; omega) | (rw [inZ_0 (by omega)]; omega)) hP hD hS (lv_sub hl [1, 0, 4, 5] rfl)
                · skip
                  refine z_iconst hx hb dX7_inversions_75 ?_
                  refine lv_goto (tgt := 80) hx hb dX7_inversions_76 (by decide) ?_
                  refine lv_istore (lv' := [(4, vI 1), (1, vI b2), (3, vI j), (2, vI i), (0, .ref y0)]) hx hb dX7_inversions_80 hl (by decide) rfl (fun ls hl => ?_)
                  refine lv_aload_n hx hb dX7_inversions_82 rfl (lv_at hl 4 rfl) ?_
                  refine lv_iload_n hx hb dX7_inversions_83 rfl (lv_at hl 3 rfl) ?_
                  refine g_callVi (own := RX7) (n := 1) (mc := 0) (ms := 0) (As := [vI i]) (rest := []) (wc := [kO y0 7 [vI n, .ref v0, .ref a0, vI sts, .ref r0, .ref f0, .ref g0, .ref d0, .ref t9, vI ty, vI 0], kI cI v0 21 mv]) (wr := []) hx hb hml hown hts hK hP hD hS hA [0, 1] [] rfl rfl (by decide) (by decide) 7 0 rfl rfl (c_X7_areaAt l dd cI cJ cC cS y0 v0 a0 r0 f0 g0 d0 t9 n sts ty 0 mv i H.size  (by first | assumption | omega) (fun j h0 h1 => hwi j h0 (by have := hsb.1; omega)) (by first | assumption | omega)) gX7_inversions_X7_areaAt rfl (by decide +kernel) (by decide) (by decide) (by decide) (by decide) rfl hl.1 rfl (Nat.le_of_ble_eq_true rfl) dX7_inversions_84 (fun z_31 u_32 H locs hp84_33 hP hD hS => ?_)
                  subst z_31
                  have hP : va_P dd vwCl [kO y0 7 [vI n, .ref v0, .ref a0, vI sts, .ref r0, .ref f0, .ref g0, .ref d0, .ref t9, vI ty, vI 0], kI cI v0 21 mv] H := hP
                  have hD : va_D A [kO y0 7 [vI n, .ref v0, .ref a0, vI sts, .ref r0, .ref f0, .ref g0, .ref d0, .ref t9, vI ty, vI 0], kI cI v0 21 mv] := hD
                  refine lv_aload_n hx hb dX7_inversions_87 rfl (lv_at hl 4 rfl) ?_
                  refine lv_iload_n hx hb dX7_inversions_88 rfl (lv_at hl 2 rfl) ?_
                  refine g_callVi (own := RX7) (n := 1) (mc := 0) (ms := 0) (As := [vI j]) (rest := [vI (arZ (wv mv) n i)]) (wc := [kO y0 7 [vI n, .ref v0, .ref a0, vI sts, .ref r0, .ref f0, .ref g0, .ref d0, .ref t9, vI ty, vI 0], kI cI v0 21 mv]) (wr := []) hx hb hml hown hts hK hP hD hS hA [0, 1] [] rfl rfl (by decide) (by decide) 7 0 rfl rfl (c_X7_areaAt l dd cI cJ cC cS y0 v0 a0 r0 f0 g0 d0 t9 n sts ty 0 mv j H.size  (by first | assumption | omega) (fun j h0 h1 => hwi j h0 (by have := hsb.1; omega)) (by first | assumption | omega)) gX7_inversions_X7_areaAt rfl (by decide +kernel) (by decide) (by decide) (by decide) (by decide) rfl hl.1 rfl (Nat.le_of_ble_eq_true rfl) dX7_inversions_89 (fun z_34 u_35 H locs hp89_36 hP hD hS => ?_)
                  subst z_34
                  have hP : va_P dd vwCl [kO y0 7 [vI n, .ref v0, .ref a0, vI sts, .ref r0, .ref f0, .ref g0, .ref d0, .ref t9, vI ty, vI 0], kI cI v0 21 mv] H := hP
                  have hD : va_D A [kO y0 7 [vI n, .ref v0, .ref a0, vI sts, .ref r0, .ref f0, .ref g0, .ref d0, .ref t9, vI ty, vI 0], kI cI v0 21 mv] := hD
                  refine z_iconst hx hb dX7_inversions_92 ?_
                  refine z_iadd (z := (arZ (wv mv) n j + 1)) hx hb rfl dX7_inversions_93 ?_
                  refine z_icmp_ne (tgt := 114) hx hb dX7_inversions_94 (by decide) (by omega) (fun c94 => ?_) (fun c94 => ?_)
                  · skip
                    refine z_iconst hx hb dX7_inversions_114 ?_
                    refine lv_istore (lv' := [(5, vI 0), (4, vI 1), (1, vI b2), (3, vI j), (2, vI i), (0, .ref y0)]) hx hb dX7_inversions_115 hl (by decide) rfl (fun ls hl => ?_)
                    refine lv_iload_n hx hb dX7_inversions_117 rfl (lv_at hl 2 rfl) ?_
                    refine lv_iload hx hb dX7_inversions_118 (lv_at hl 1 rfl) ?_
                    refine z_if_ne (tgt := 128) hx hb dX7_inversions_120 (by decide) (by omega) (fun c120 => ?_) (fun c120 => ?_)
                    · skip
                      refine z_iconst hx hb dX7_inversions_128 ?_
                      refine lv_goto (tgt := 133) hx hb dX7_inversions_129 (by decide) ?_
                      refine z_iadd (z := (b2 + 1)) hx hb rfl dX7_inversions_133 ?_
                      refine lv_istore_n (lv' := [(1, vI (b2 + 1)), (5, vI 0), (4, vI 1), (3, vI j), (2, vI i), (0, .ref y0)]) hx hb dX7_inversions_134 rfl hl (by decide) rfl (fun ls hl => ?_)
                      refine z_iinc (a := j) (z := (j + 1)) (lv' := [(3, vI (j + 1)), (1, vI (b2 + 1)), (5, vI 0), (4, vI 1), (2, vI i), (0, .ref y0)]) hx hb dX7_inversions_135 hl (k := 3) rfl rfl (by decide) rfl (fun ls hl => ?_)
                      refine lv_goto (tgt := 41) hx hb dX7_inversions_138 (by decide) ?_
                      exact L41i _ (by omega) (j + 1) (b2 + 1) H locs ls rfl (by omega) (by rw [sumZ_s (f := fun j => if i < j then inZ (labZ (wv mv) n) (arZ (wv mv) n) i j else 0) (by omega), if_pos (by omega)]; first | (rw [inZ_1 (by omega)]; omega) | (rw [inZ_0 (by omega)]; omega)) hP hD hS (lv_sub hl [1, 0, 4, 5] rfl)
                    · exact absurd c120 (by omega)
                  · skip
                    refine lv_aload_n hx hb dX7_inversions_97 rfl (lv_at hl 4 rfl) ?_
                    refine lv_iload_n hx hb dX7_inversions_98 rfl (lv_at hl 3 rfl) ?_
                    refine g_callVi (own := RX7) (n := 1) (mc := 0) (ms := 0) (As := [vI i]) (rest := []) (wc := [kO y0 7 [vI n, .ref v0, .ref a0, vI sts, .ref r0, .ref f0, .ref g0, .ref d0, .ref t9, vI ty, vI 0], kI cI v0 21 mv]) (wr := []) hx hb hml hown hts hK hP hD hS hA [0, 1] [] rfl rfl (by decide) (by decide) 7 0 rfl rfl (c_X7_labelOf l dd cI cJ cC cS y0 v0 a0 r0 f0 g0 d0 t9 n sts ty 0 mv i H.size  (by first | assumption | omega) (fun j h0 h1 => hwi j h0 (by have := hsb.1; omega)) (by first | assumption | omega)) gX7_inversions_X7_labelOf rfl (by decide +kernel) (by decide) (by decide) (by decide) (by decide) rfl hl.1 rfl (Nat.le_of_ble_eq_true rfl) dX7_inversions_99 (fun z_37 u_38 H locs hp99_39 hP hD hS => ?_)
                    subst z_37
                    have hP : va_P dd vwCl [kO y0 7 [vI n, .ref v0, .ref a0, vI sts, .ref r0, .ref f0, .ref g0, .ref d0, .ref t9, vI ty, vI 0], kI cI v0 21 mv] H := hP
                    have hD : va_D A [kO y0 7 [vI n, .ref v0, .ref a0, vI sts, .ref r0, .ref f0, .ref g0, .ref d0, .ref t9, vI ty, vI 0], kI cI v0 21 mv] := hD
                    refine lv_aload_n hx hb dX7_inversions_102 rfl (lv_at hl 4 rfl) ?_
                    refine lv_iload_n hx hb dX7_inversions_103 rfl (lv_at hl 2 rfl) ?_
                    refine g_callVi (own := RX7) (n := 1) (mc := 0) (ms := 0) (As := [vI j]) (rest := [vI (labZ (wv mv) n i)]) (wc := [kO y0 7 [vI n, .ref v0, .ref a0, vI sts, .ref r0, .ref f0, .ref g0, .ref d0, .ref t9, vI ty, vI 0], kI cI v0 21 mv]) (wr := []) hx hb hml hown hts hK hP hD hS hA [0, 1] [] rfl rfl (by decide) (by decide) 7 0 rfl rfl (c_X7_labelOf l dd cI cJ cC cS y0 v0 a0 r0 f0 g0 d0 t9 n sts ty 0 mv j H.size  (by first | assumption | omega) (fun j h0 h1 => hwi j h0 (by have := hsb.1; omega)) (by first | assumption | omega)) gX7_inversions_X7_labelOf rfl (by decide +kernel) (by decide) (by decide) (by decide) (by decide) rfl hl.1 rfl (Nat.le_of_ble_eq_true rfl) dX7_inversions_104 (fun z_40 u_41 H locs hp104_42 hP hD hS => ?_)
                    subst z_40
                    have hP : va_P dd vwCl [kO y0 7 [vI n, .ref v0, .ref a0, vI sts, .ref r0, .ref f0, .ref g0, .ref d0, .ref t9, vI ty, vI 0], kI cI v0 21 mv] H := hP
                    have hD : va_D A [kO y0 7 [vI n, .ref v0, .ref a0, vI sts, .ref r0, .ref f0, .ref g0, .ref d0, .ref t9, vI ty, vI 0], kI cI v0 21 mv] := hD
                    refine z_icmp_le (tgt := 114) hx hb dX7_inversions_107 (by decide) (by omega) (fun c107 => ?_) (fun c107 => ?_)
                    · skip
                      refine z_iconst hx hb dX7_inversions_114 ?_
                      refine lv_istore (lv' := [(5, vI 0), (4, vI 1), (1, vI b2), (3, vI j), (2, vI i), (0, .ref y0)]) hx hb dX7_inversions_115 hl (by decide) rfl (fun ls hl => ?_)
                      refine lv_iload_n hx hb dX7_inversions_117 rfl (lv_at hl 2 rfl) ?_
                      refine lv_iload hx hb dX7_inversions_118 (lv_at hl 1 rfl) ?_
                      refine z_if_ne (tgt := 128) hx hb dX7_inversions_120 (by decide) (by omega) (fun c120 => ?_) (fun c120 => ?_)
                      · skip
                        refine z_iconst hx hb dX7_inversions_128 ?_
                        refine lv_goto (tgt := 133) hx hb dX7_inversions_129 (by decide) ?_
                        refine z_iadd (z := (b2 + 1)) hx hb rfl dX7_inversions_133 ?_
                        refine lv_istore_n (lv' := [(1, vI (b2 + 1)), (5, vI 0), (4, vI 1), (3, vI j), (2, vI i), (0, .ref y0)]) hx hb dX7_inversions_134 rfl hl (by decide) rfl (fun ls hl => ?_)
                        refine z_iinc (a := j) (z := (j + 1)) (lv' := [(3, vI (j + 1)), (1, vI (b2 + 1)), (5, vI 0), (4, vI 1), (2, vI i), (0, .ref y0)]) hx hb dX7_inversions_135 hl (k := 3) rfl rfl (by decide) rfl (fun ls hl => ?_)
                        refine lv_goto (tgt := 41) hx hb dX7_inversions_138 (by decide) ?_
                        exact L41i _ (by omega) (j + 1) (b2 + 1) H locs ls rfl (by omega) (by rw [sumZ_s (f := fun j => if i < j then inZ (labZ (wv mv) n) (arZ (wv mv) n) i j else 0) (by omega), if_pos (by omega)]; first | (rw [inZ_1 (by omega)]; omega) | (rw [inZ_0 (by omega)]; omega)) hP hD hS (lv_sub hl [1, 0, 4, 5] rfl)
                      · exact absurd c120 (by omega)
                    · skip
                      refine z_iconst hx hb dX7_inversions_110 ?_
                      refine lv_goto (tgt := 115) hx hb dX7_inversions_111 (by decide) ?_
                      refine lv_istore (lv' := [(5, vI 1), (4, vI 1), (1, vI b2), (3, vI j), (2, vI i), (0, .ref y0)]) hx hb dX7_inversions_115 hl (by decide) rfl (fun ls hl => ?_)
                      refine lv_iload_n hx hb dX7_inversions_117 rfl (lv_at hl 2 rfl) ?_
                      refine lv_iload hx hb dX7_inversions_118 (lv_at hl 1 rfl) ?_
                      refine z_if_ne (tgt := 128) hx hb dX7_inversions_120 (by decide) (by omega) (fun c120 => ?_) (fun c120 => ?_)
                      · skip
                        refine z_iconst hx hb dX7_inversions_128 ?_
                        refine lv_goto (tgt := 133) hx hb dX7_inversions_129 (by decide) ?_
                        refine z_iadd (z := (b2 + 1)) hx hb rfl dX7_inversions_133 ?_
                        refine lv_istore_n (lv' := [(1, vI (b2 + 1)), (5, vI 1), (4, vI 1), (3, vI j), (2, vI i), (0, .ref y0)]) hx hb dX7_inversions_134 rfl hl (by decide) rfl (fun ls hl => ?_)
                        refine z_iinc (a := j) (z := (j + 1)) (lv' := [(3, vI (j + 1)), (1, vI (b2 + 1)), (5, vI 1), (4, vI 1), (2, vI i), (0, .ref y0)]) hx hb dX7_inversions_135 hl (k := 3) rfl rfl (by decide) rfl (fun ls hl => ?_)
                        refine lv_goto (tgt := 41) hx hb dX7_inversions_138 (by decide) ?_
                        exact L41i _ (by omega) (j + 1) (b2 + 1) H locs ls rfl (by omega) (by rw [sumZ_s (f := fun j => if i < j then inZ (labZ (wv mv) n) (arZ (wv mv) n) i j else 0) (by omega), if_pos (by omega)]; first | (rw [inZ_1 (by omega)]; omega) | (rw [inZ_0 (by omega)]; omega)) hP hD hS (lv_sub hl [1, 0, 4, 5] rfl)
                      · exact absurd c120 (by omega)
          exact L41 _ (i + 1) b H locs ls rfl (by omega) (by rw [sumZ_0 (i + 1).toNat (fun j h0 h1 => if_neg (by omega)), hbb, Int.add_zero]) hP hD hS (lv_sub hl [1, 0, 2, 3] rfl)
      exact L29 _ 0 0 H locs ls rfl (by omega) (rfl) hP hD hS (lv_sub hl [1, 0, 2] rfl)
    · exact absurd c20 (by omega)

set_option maxHeartbeats 4000000 in
set_option maxRecDepth 100000 in
theorem c_X7_word (l : Launch) (dd : va_G) (cI cJ cC cS : ClassId) (y0 v0 a0 r0 f0 g0 d0 t9 : Nat) (n sts ty th : Int) (mv : Int → Int) (v : Int) (sz : Nat) (hn : 1 ≤ n ∧ n ≤ 8) (hc0 : 0 ≤ mv 0 ∧ mv 0 ≤ 9) (hc1 : 0 ≤ mv 1 ∧ mv 1 ≤ 3) (hc2 : 0 ≤ mv 2 ∧ mv 2 ≤ 8) (hcap : ∀ j : Int, 0 ≤ j → j < n → 0 ≤ mv (3 + j) ∧ mv (3 + j) ≤ 3) (hwi : ∀ j : Int, 0 ≤ j → j < mv 0 → 0 ≤ mv (12 + j) ∧ mv (12 + j) < n) (hgv : rg v) : gMi l yX7_word wsX7_word 4 0 0 dd cI cJ cC cS [.ref y0, vI v] [kO y0 7 [vI n, .ref v0, .ref a0, vI sts, .ref r0, .ref f0, .ref g0, .ref d0, .ref t9, vI ty, vI th], kI cI v0 21 mv] sz (fun (z : Int) (th1 : Int) => ((0 ≤ v ∧ v < n ∧ stdB (wv mv) (mv 0) n ∧ (∃ r : Int, 0 ≤ r ∧ r < n ∧ v = vW (arZ (wv mv) n) n (arZ (wv mv) n r) r ∧ z = labZ (wv mv) n r) ∧ th1 = 0) ∨ (¬ (0 ≤ v ∧ v < n) ∧ z = 0 ∧ th1 = 1) ∨ (0 ≤ v ∧ v < n ∧ ¬ stdB (wv mv) (mv 0) n ∧ z = 0 ∧ th1 = 2))) (fun (th1 : Int) => [kO y0 7 [vI n, .ref v0, .ref a0, vI sts, .ref r0, .ref f0, .ref g0, .ref d0, .ref t9, vI ty, vI th1], kI cI v0 21 mv]) := by
  refine gMi_of (cc := cX7_word) (maxL := 5) (ret := (some .int)) (by decide) rfl (Nat.le_of_ble_eq_true rfl) ?_
  intro p e s m args below meth c A Q hQ hx hb hr hts hown hlocks hnm hml H locs hP hK hD hA hS ls hl
  have hi7 : ∀ w ∈ wsX70, w ∈ wsX7_word := fun _ h => (List.mem_cons_of_mem _ (List.mem_append_right _ h))
  have hl : lv_has ls 5 [(0, .ref y0), (1, vI v)] := hl
  refine lv_aload_n hx hb dX7_word_0 rfl (lv_at hl 0 rfl) ?_
  refine lv_iload_n hx hb dX7_word_1 rfl (lv_at hl 1 rfl) ?_
  refine lv_aload_n hx hb dX7_word_2 rfl (lv_at hl 0 rfl) ?_
  refine va_get (D := dd) (ci := 7) (v := vI n) (C := RX7) (T := TX7) (N := 11) hx hb hts hi7 hown hK hP 0 rfl rfl 0 (by decide) (hts _ (List.mem_cons_of_mem _ (List.mem_append_left _ (List.mem_append_left _ (List.mem_of_getElem? (i := 0) rfl))))) (fun _ h9 => h9) rfl dX7_word_3 ?_
  refine g_callVi (own := RX7) (n := 2) (mc := 0) (ms := 0) (As := [vI v, vI n]) (rest := []) (wc := [kO y0 7 [vI n, .ref v0, .ref a0, vI sts, .ref r0, .ref f0, .ref g0, .ref d0, .ref t9, vI ty, vI th], kI cI v0 21 mv]) (wr := []) hx hb hml hown hts hK hP hD hS hA [0, 1] [] rfl rfl (by decide) (by decide) 7 0 rfl rfl (c_X7_isWrong l dd cI cJ cC cS y0 v0 a0 r0 f0 g0 d0 t9 n sts ty th mv v n H.size  (by first | assumption | omega) (by first | assumption | omega) (by first | assumption | (intro j h0 h1; omega)) (by first | assumption | omega) (by first | assumption | omega)) gX7_word_X7_isWrong rfl (by decide +kernel) (by decide) (by decide) (by decide) (by decide) rfl hl.1 rfl (Nat.le_of_ble_eq_true rfl) dX7_word_6 (fun z_1 u_2 H locs hp6 hP hD hS => ?_)
  obtain ⟨th1_3, rfl⟩ : ∃ x, x = u_2 := ⟨_, rfl⟩
  try dsimp only at hp6
  rcases hp6 with ⟨hp6_0, hp6_1, hp6_z, hp6_o0⟩ | ⟨hp6_0, hp6_z, hp6_o0⟩ | ⟨hp6_0, hp6_1, hp6_z, hp6_o0⟩
  · skip
    subst z_1 th1_3
    have hP : va_P dd vwCl [kO y0 7 [vI n, .ref v0, .ref a0, vI sts, .ref r0, .ref f0, .ref g0, .ref d0, .ref t9, vI ty, vI 0], kI cI v0 21 mv] H := hP
    have hD : va_D A [kO y0 7 [vI n, .ref v0, .ref a0, vI sts, .ref r0, .ref f0, .ref g0, .ref d0, .ref t9, vI ty, vI 0], kI cI v0 21 mv] := hD
    refine z_if_eq (tgt := 14) hx hb dX7_word_9 (by decide) (by omega) (fun c9 => ?_) (fun c9 => ?_)
    · skip
      have hsb := hp6_1
      have hwn : ∀ j : Int, 0 ≤ j → j < n → 0 ≤ wv mv j ∧ wv mv j < n := fun j h0 h1 => hwi j h0 (by have := hsb.1; omega)
      have hsn : stdB (wv mv) n n := by
        have u := hsb
        rw [hsb.1] at u
        exact u
      have haa : ∀ j : Int, 0 ≤ j → j < n → 0 ≤ arZ (wv mv) n j ∧ arZ (wv mv) n j ≤ n - 1 := fun j h0 h1 => by
        have := ar_ok (wi := wv mv) (ct := n) (n := n) hwn hsn j h0 h1
        omega
      refine lv_iload_n hx hb dX7_word_14 rfl (lv_at hl 1 rfl) ?_
      refine lv_istore_n (lv' := [(2, vI v), (0, .ref y0), (1, vI v)]) hx hb dX7_word_15 rfl hl (by decide) rfl (fun ls hl => ?_)
      refine lv_aload_n hx hb dX7_word_16 rfl (lv_at hl 1 rfl) ?_
      refine va_get (D := dd) (ci := 7) (v := vI n) (C := RX7) (T := TX7) (N := 11) hx hb hts hi7 hown hK hP 0 rfl rfl 0 (by decide) (hts _ (List.mem_cons_of_mem _ (List.mem_append_left _ (List.mem_append_left _ (List.mem_of_getElem? (i := 0) rfl))))) (fun _ h9 => h9) rfl dX7_word_17 ?_
      refine lv_istore_n (lv' := [(3, vI n), (2, vI v), (0, .ref y0), (1, vI v)]) hx hb dX7_word_20 rfl hl (by decide) rfl (fun ls hl => ?_)
      have L21 : ∀ (nn : Nat) (w : Int) (b : Int) (H : Heap) (locs : List Loc) (ls : Array Slot), ((w + 1).toNat) = nn → (-1 ≤ w ∧ w ≤ n) → (0 ≤ b ∧ b ≤ n) → (b = v - vW (arZ (wv mv) n) n w (n - 1)) → va_P dd vwCl [kO y0 7 [vI n, .ref v0, .ref a0, vI sts, .ref r0, .ref f0, .ref g0, .ref d0, .ref t9, vI ty, vI 0], kI cI v0 21 mv] H → va_D A [kO y0 7 [vI n, .ref v0, .ref a0, vI sts, .ref r0, .ref f0, .ref g0, .ref d0, .ref t9, vI ty, vI 0], kI cI v0 21 mv] → va_S A s.heap H locs → lv_has ls 5 [(2, vI b), (3, vI w), (0, .ref y0), (1, vI v)] → W p l e (gR 4 0 0) s m args below meth c H locs 0 0 Q (F0 m 21 ls []) := by
        intro nn
        induction nn using Nat.strongRecOn with
        | ind nn L21i =>
        intro w b H locs ls hmeas hw hb9 hbb hP hD hS hl
        refine lv_iload_n hx hb dX7_word_21 rfl (lv_at hl 1 rfl) ?_
        refine z_if_lt (tgt := 74) hx hb dX7_word_22 (by decide) (by omega) (fun c22 => ?_) (fun c22 => ?_)
        · skip
          refine z_iconst hx hb dX7_word_74 ?_
          subst hQ
          refine z_iret (z := 0) hx hb hr hlocks dX7_word_75 0 hK hS ⟨by omega, by omega⟩ hP hD ?_
          exfalso
          rw [show w = -1 by omega, vW_end (by omega) haa] at hbb
          omega
        · skip
          refine lv_aload_n hx hb dX7_word_25 rfl (lv_at hl 2 rfl) ?_
          refine va_get (D := dd) (ci := 7) (v := vI n) (C := RX7) (T := TX7) (N := 11) hx hb hts hi7 hown hK hP 0 rfl rfl 0 (by decide) (hts _ (List.mem_cons_of_mem _ (List.mem_append_left _ (List.mem_append_left _ (List.mem_of_getElem? (i := 0) rfl))))) (fun _ h9 => h9) rfl dX7_word_26 ?_
          refine z_iconst hx hb dX7_word_29 ?_
          refine z_isub (z := (n - 1)) hx hb rfl dX7_word_30 ?_
          refine lv_istore (lv' := [(4, vI (n - 1)), (2, vI b), (3, vI w), (0, .ref y0), (1, vI v)]) hx hb dX7_word_31 hl (by decide) rfl (fun ls hl => ?_)
          have L33 : ∀ (nn : Nat) (r : Int) (b2 : Int) (H : Heap) (locs : List Loc) (ls : Array Slot), ((r + 1).toNat) = nn → (-1 ≤ r ∧ r ≤ n - 1) → (0 ≤ b2 ∧ b2 ≤ n) → (b2 = v - vW (arZ (wv mv) n) n w r) → va_P dd vwCl [kO y0 7 [vI n, .ref v0, .ref a0, vI sts, .ref r0, .ref f0, .ref g0, .ref d0, .ref t9, vI ty, vI 0], kI cI v0 21 mv] H → va_D A [kO y0 7 [vI n, .ref v0, .ref a0, vI sts, .ref r0, .ref f0, .ref g0, .ref d0, .ref t9, vI ty, vI 0], kI cI v0 21 mv] → va_S A s.heap H locs → lv_has ls 5 [(2, vI b2), (4, vI r), (3, vI w), (0, .ref y0), (1, vI v)] → W p l e (gR 4 0 0) s m args below meth c H locs 0 0 Q (F0 m 33 ls []) := by
            intro nn
            induction nn using Nat.strongRecOn with
            | ind nn L33i =>
            intro r b2 H locs ls hmeas hr9 hb8 hb2 hP hD hS hl
            refine lv_iload hx hb dX7_word_33 (lv_at hl 1 rfl) ?_
            refine z_if_lt (tgt := 68) hx hb dX7_word_35 (by decide) (by omega) (fun c35 => ?_) (fun c35 => ?_)
            · skip
              refine z_iinc (a := w) (z := (w - 1)) (lv' := [(3, vI (w - 1)), (2, vI b2), (4, vI r), (0, .ref y0), (1, vI v)]) hx hb dX7_word_68 hl (k := 2) rfl (by omega) (by decide) rfl (fun ls hl => ?_)
              refine lv_goto (tgt := 21) hx hb dX7_word_71 (by decide) ?_
              exact L21i _ (by omega) (w - 1) b2 H locs ls rfl (by omega) (by omega) (by rw [vW_next, show (-1 : Int) = r by omega]; exact hb2) hP hD hS (lv_sub hl [1, 0, 3, 4] rfl)
            · skip
              have har := haa r (by omega) (by omega)
              refine lv_aload_n hx hb dX7_word_38 rfl (lv_at hl 3 rfl) ?_
              refine lv_iload hx hb dX7_word_39 (lv_at hl 1 rfl) ?_
              refine g_callVi (own := RX7) (n := 1) (mc := 0) (ms := 0) (As := [vI r]) (rest := []) (wc := [kO y0 7 [vI n, .ref v0, .ref a0, vI sts, .ref r0, .ref f0, .ref g0, .ref d0, .ref t9, vI ty, vI 0], kI cI v0 21 mv]) (wr := []) hx hb hml hown hts hK hP hD hS hA [0, 1] [] rfl rfl (by decide) (by decide) 7 0 rfl rfl (c_X7_areaAt l dd cI cJ cC cS y0 v0 a0 r0 f0 g0 d0 t9 n sts ty 0 mv r H.size  (by first | assumption | omega) (fun j h0 h1 => hwi j h0 (by have := hsb.1; omega)) (by first | assumption | omega)) gX7_word_X7_areaAt rfl (by decide +kernel) (by decide) (by decide) (by decide) (by decide) rfl hl.1 rfl (Nat.le_of_ble_eq_true rfl) dX7_word_41 (fun z_4 u_5 H locs hp41 hP hD hS => ?_)
              subst z_4
              have hP : va_P dd vwCl [kO y0 7 [vI n, .ref v0, .ref a0, vI sts, .ref r0, .ref f0, .ref g0, .ref d0, .ref t9, vI ty, vI 0], kI cI v0 21 mv] H := hP
              have hD : va_D A [kO y0 7 [vI n, .ref v0, .ref a0, vI sts, .ref r0, .ref f0, .ref g0, .ref d0, .ref t9, vI ty, vI 0], kI cI v0 21 mv] := hD
              refine lv_iload_n hx hb dX7_word_44 rfl (lv_at hl 2 rfl) ?_
              refine z_icmp_ne (tgt := 62) hx hb dX7_word_45 (by decide) (by omega) (fun c45 => ?_) (fun c45 => ?_)
              · skip
                refine z_iinc (a := r) (z := (r - 1)) (lv' := [(4, vI (r - 1)), (2, vI b2), (3, vI w), (0, .ref y0), (1, vI v)]) hx hb dX7_word_62 hl (k := 1) rfl (by omega) (by decide) rfl (fun ls hl => ?_)
                refine lv_goto (tgt := 33) hx hb dX7_word_65 (by decide) ?_
                exact L33i _ (by omega) (r - 1) b2 H locs ls rfl (by omega) (by omega) (by rw [vW_s (by omega), if_neg (by omega)]; omega) hP hD hS (lv_sub hl [1, 0, 2, 3, 4] rfl)
              · skip
                refine lv_iload_n hx hb dX7_word_48 rfl (lv_at hl 0 rfl) ?_
                refine z_if_ne (tgt := 59) hx hb dX7_word_49 (by decide) (by omega) (fun c49 => ?_) (fun c49 => ?_)
                · skip
                  refine z_iinc (a := b2) (z := (b2 - 1)) (lv' := [(2, vI (b2 - 1)), (4, vI r), (3, vI w), (0, .ref y0), (1, vI v)]) hx hb dX7_word_59 hl (k := 0) rfl (by omega) (by decide) rfl (fun ls hl => ?_)
                  refine z_iinc (a := r) (z := (r - 1)) (lv' := [(4, vI (r - 1)), (2, vI (b2 - 1)), (3, vI w), (0, .ref y0), (1, vI v)]) hx hb dX7_word_62 hl (k := 1) rfl (by omega) (by decide) rfl (fun ls hl => ?_)
                  refine lv_goto (tgt := 33) hx hb dX7_word_65 (by decide) ?_
                  exact L33i _ (by omega) (r - 1) (b2 - 1) H locs ls rfl (by omega) (by omega) (by rw [vW_s (by omega), if_pos (by omega)]; omega) hP hD hS (lv_sub hl [1, 0, 2, 3, 4] rfl)
                · skip
                  refine lv_aload_n hx hb dX7_word_52 rfl (lv_at hl 3 rfl) ?_
                  refine lv_iload hx hb dX7_word_53 (lv_at hl 1 rfl) ?_
                  refine g_callVi (own := RX7) (n := 1) (mc := 0) (ms := 0) (As := [vI r]) (rest := []) (wc := [kO y0 7 [vI n, .ref v0, .ref a0, vI sts, .ref r0, .ref f0, .ref g0, .ref d0, .ref t9, vI ty, vI 0], kI cI v0 21 mv]) (wr := []) hx hb hml hown hts hK hP hD hS hA [0, 1] [] rfl rfl (by decide) (by decide) 7 0 rfl rfl (c_X7_labelOf l dd cI cJ cC cS y0 v0 a0 r0 f0 g0 d0 t9 n sts ty 0 mv r H.size  (by first | assumption | omega) (fun j h0 h1 => hwi j h0 (by have := hsb.1; omega)) (by first | assumption | omega)) gX7_word_X7_labelOf rfl (by decide +kernel) (by decide) (by decide) (by decide) (by decide) rfl hl.1 rfl (Nat.le_of_ble_eq_true rfl) dX7_word_55 (fun z_6 u_7 H locs hp55 hP hD hS => ?_)
                  subst z_6
                  have hP : va_P dd vwCl [kO y0 7 [vI n, .ref v0, .ref a0, vI sts, .ref r0, .ref f0, .ref g0, .ref d0, .ref t9, vI ty, vI 0], kI cI v0 21 mv] H := hP
                  have hD : va_D A [kO y0 7 [vI n, .ref v0, .ref a0, vI sts, .ref r0, .ref f0, .ref g0, .ref d0, .ref t9, vI ty, vI 0], kI cI v0 21 mv] := hD
                  subst hQ
                  refine z_iret (z := labZ (wv mv) n r) hx hb hr hlocks dX7_word_58 0 hK hS ⟨by omega, by omega⟩ hP hD ?_
                  exact Or.inl ⟨hp6_0.1, hp6_0.2, hsb, ⟨r, by omega, by omega, by rw [show arZ (wv mv) n r = w by omega]; omega, rfl⟩, rfl⟩
          exact L33 _ (n - 1) b H locs ls rfl (by omega) (by omega) (hbb) hP hD hS (lv_sub hl [1, 0, 2, 3, 4] rfl)
      exact L21 _ n v H locs ls rfl (by omega) (by omega) (by rw [show vW (arZ (wv mv) n) n n (n - 1) = 0 from sumZ_0 _ (fun j h0 h1 => if_neg (by have := haa j h0 (by omega); omega))]; omega) hP hD hS (lv_sub hl [1, 0, 2, 3] rfl)
    · exact absurd c9 (by omega)
  · skip
    subst z_1 th1_3
    have hP : va_P dd vwCl [kO y0 7 [vI n, .ref v0, .ref a0, vI sts, .ref r0, .ref f0, .ref g0, .ref d0, .ref t9, vI ty, vI 1], kI cI v0 21 mv] H := hP
    have hD : va_D A [kO y0 7 [vI n, .ref v0, .ref a0, vI sts, .ref r0, .ref f0, .ref g0, .ref d0, .ref t9, vI ty, vI 1], kI cI v0 21 mv] := hD
    refine z_if_eq (tgt := 14) hx hb dX7_word_9 (by decide) (by omega) (fun c9 => ?_) (fun c9 => ?_)
    · exact absurd c9 (by omega)
    · skip
      refine z_iconst hx hb dX7_word_12 ?_
      subst hQ
      refine z_iret (z := 0) hx hb hr hlocks dX7_word_13 1 hK hS ⟨by omega, by omega⟩ hP hD ?_
      first
      | exact Or.inr (Or.inl ⟨hp6_0, rfl, rfl⟩)
      | exact Or.inr (Or.inr ⟨hp6_0.1, hp6_0.2, hp6_1, rfl, rfl⟩)
  · skip
    subst z_1 th1_3
    have hP : va_P dd vwCl [kO y0 7 [vI n, .ref v0, .ref a0, vI sts, .ref r0, .ref f0, .ref g0, .ref d0, .ref t9, vI ty, vI 2], kI cI v0 21 mv] H := hP
    have hD : va_D A [kO y0 7 [vI n, .ref v0, .ref a0, vI sts, .ref r0, .ref f0, .ref g0, .ref d0, .ref t9, vI ty, vI 2], kI cI v0 21 mv] := hD
    refine z_if_eq (tgt := 14) hx hb dX7_word_9 (by decide) (by omega) (fun c9 => ?_) (fun c9 => ?_)
    · exact absurd c9 (by omega)
    · skip
      refine z_iconst hx hb dX7_word_12 ?_
      subst hQ
      refine z_iret (z := 0) hx hb hr hlocks dX7_word_13 2 hK hS ⟨by omega, by omega⟩ hP hD ?_
      first
      | exact Or.inr (Or.inl ⟨hp6_0, rfl, rfl⟩)
      | exact Or.inr (Or.inr ⟨hp6_0.1, hp6_0.2, hp6_1, rfl, rfl⟩)

set_option maxHeartbeats 4000000 in
set_option maxRecDepth 100000 in
theorem c_X7_pathChar (l : Launch) (dd : va_G) (cI cJ cC cS : ClassId) (y0 v0 a0 r0 f0 g0 d0 t9 : Nat) (n sts ty th : Int) (mv : Int → Int) (v : Int) (sz : Nat) (hn : 1 ≤ n ∧ n ≤ 8) (hc0 : 0 ≤ mv 0 ∧ mv 0 ≤ 9) (hc1 : 0 ≤ mv 1 ∧ mv 1 ≤ 3) (hc2 : 0 ≤ mv 2 ∧ mv 2 ≤ 8) (hcap : ∀ j : Int, 0 ≤ j → j < n → 0 ≤ mv (3 + j) ∧ mv (3 + j) ≤ 3) (hwi : ∀ j : Int, 0 ≤ j → j < mv 0 → 0 ≤ mv (12 + j) ∧ mv (12 + j) < n) (hgv : rg v) : gMi l yX7_pathChar wsX7_pathChar 4 0 0 dd cI cJ cC cS [.ref y0, vI v] [kO y0 7 [vI n, .ref v0, .ref a0, vI sts, .ref r0, .ref f0, .ref g0, .ref d0, .ref t9, vI ty, vI th], kI cI v0 21 mv] sz (fun (z : Int) (th1 : Int) => ((0 ≤ v ∧ v < 3 * n ∧ stdB (wv mv) (mv 0) n ∧ ((∃ r : Int, 0 ≤ r ∧ r < n ∧ v = 2 * r + (r - arZ (wv mv) n r) ∧ z = 78) ∨ (∃ r : Int, 0 ≤ r ∧ r < n ∧ v = 2 * r + (r - arZ (wv mv) n r) + 1 ∧ z = 48 + labZ (wv mv) n r) ∨ (∃ r s9 : Int, 0 ≤ r ∧ r ≤ n ∧ 0 ≤ s9 ∧ s9 < n ∧ (∀ i : Int, 0 ≤ i → i < r → i - arZ (wv mv) n i ≤ s9) ∧ (∀ i : Int, r ≤ i → i < n → s9 < i - arZ (wv mv) n i) ∧ v = 2 * r + s9 ∧ z = 69)) ∧ th1 = 0) ∨ (¬ (0 ≤ v ∧ v < 3 * n) ∧ z = 0 ∧ th1 = 1) ∨ (0 ≤ v ∧ v < 3 * n ∧ ¬ stdB (wv mv) (mv 0) n ∧ z = 0 ∧ th1 = 2))) (fun (th1 : Int) => [kO y0 7 [vI n, .ref v0, .ref a0, vI sts, .ref r0, .ref f0, .ref g0, .ref d0, .ref t9, vI ty, vI th1], kI cI v0 21 mv]) := by
  refine gMi_of (cc := cX7_pathChar) (maxL := 5) (ret := (some .int)) (by decide) rfl (Nat.le_of_ble_eq_true rfl) ?_
  intro p e s m args below meth c A Q hQ hx hb hr hts hown hlocks hnm hml H locs hP hK hD hA hS ls hl
  have hi7 : ∀ w ∈ wsX70, w ∈ wsX7_pathChar := fun _ h => (List.mem_cons_of_mem _ (List.mem_append_right _ h))
  have hl : lv_has ls 5 [(0, .ref y0), (1, vI v)] := hl
  refine lv_aload_n hx hb dX7_pathChar_0 rfl (lv_at hl 0 rfl) ?_
  refine lv_iload_n hx hb dX7_pathChar_1 rfl (lv_at hl 1 rfl) ?_
  refine z_iconst hx hb dX7_pathChar_2 ?_
  refine lv_aload_n hx hb dX7_pathChar_3 rfl (lv_at hl 0 rfl) ?_
  refine va_get (D := dd) (ci := 7) (v := vI n) (C := RX7) (T := TX7) (N := 11) hx hb hts hi7 hown hK hP 0 rfl rfl 0 (by decide) (hts _ (List.mem_cons_of_mem _ (List.mem_append_left _ (List.mem_of_getElem? (i := 0) rfl)))) (fun _ h9 => h9) rfl dX7_pathChar_4 ?_
  refine z_imul (z := (3 * n)) hx hb rfl dX7_pathChar_7 ?_
  refine g_callVi (own := RX7) (n := 2) (mc := 0) (ms := 0) (As := [vI v, vI (3 * n)]) (rest := []) (wc := [kO y0 7 [vI n, .ref v0, .ref a0, vI sts, .ref r0, .ref f0, .ref g0, .ref d0, .ref t9, vI ty, vI th], kI cI v0 21 mv]) (wr := []) hx hb hml hown hts hK hP hD hS hA [0, 1] [] rfl rfl (by decide) (by decide) 7 0 rfl rfl (c_X7_isWrong l dd cI cJ cC cS y0 v0 a0 r0 f0 g0 d0 t9 n sts ty th mv v (3 * n) H.size  (by first | assumption | omega) (by first | assumption | omega) (by first | assumption | (intro j h0 h1; omega)) (by first | assumption | omega) (by first | assumption | omega)) gX7_pathChar_X7_isWrong rfl (by decide +kernel) (by decide) (by decide) (by decide) (by decide) rfl hl.1 rfl (Nat.le_of_ble_eq_true rfl) dX7_pathChar_8 (fun z_1 u_2 H locs hp8 hP hD hS => ?_)
  obtain ⟨th1_3, rfl⟩ : ∃ x, x = u_2 := ⟨_, rfl⟩
  try dsimp only at hp8
  rcases hp8 with ⟨hp8_0, hp8_1, hp8_z, hp8_o0⟩ | ⟨hp8_0, hp8_z, hp8_o0⟩ | ⟨hp8_0, hp8_1, hp8_z, hp8_o0⟩
  · skip
    subst z_1 th1_3
    have hP : va_P dd vwCl [kO y0 7 [vI n, .ref v0, .ref a0, vI sts, .ref r0, .ref f0, .ref g0, .ref d0, .ref t9, vI ty, vI 0], kI cI v0 21 mv] H := hP
    have hD : va_D A [kO y0 7 [vI n, .ref v0, .ref a0, vI sts, .ref r0, .ref f0, .ref g0, .ref d0, .ref t9, vI ty, vI 0], kI cI v0 21 mv] := hD
    refine z_if_eq (tgt := 16) hx hb dX7_pathChar_11 (by decide) (by omega) (fun c11 => ?_) (fun c11 => ?_)
    · skip
      have hsb := hp8_1
      have hwn : ∀ j : Int, 0 ≤ j → j < n → 0 ≤ wv mv j ∧ wv mv j < n := fun j h0 h1 => hwi j h0 (by have := hsb.1; omega)
      have hsn : stdB (wv mv) n n := by
        have u := hsb
        rw [hsb.1] at u
        exact u
      have haa : ∀ j : Int, 0 ≤ j → j < n → 0 ≤ arZ (wv mv) n j ∧ arZ (wv mv) n j ≤ n - 1 := fun j h0 h1 => by
        have := ar_ok (wi := wv mv) (ct := n) (n := n) hwn hsn j h0 h1
        omega
      refine z_iconst hx hb dX7_pathChar_16 ?_
      refine lv_istore_n (lv' := [(2, vI 0), (0, .ref y0), (1, vI v)]) hx hb dX7_pathChar_17 rfl hl (by decide) rfl (fun ls hl => ?_)
      refine z_iconst hx hb dX7_pathChar_18 ?_
      refine lv_istore_n (lv' := [(3, vI 0), (2, vI 0), (0, .ref y0), (1, vI v)]) hx hb dX7_pathChar_19 rfl hl (by decide) rfl (fun ls hl => ?_)
      have L20 : ∀ (nn : Nat) (s9 : Int) (x9 : Int) (H : Heap) (locs : List Loc) (ls : Array Slot), ((n + 1 - s9).toNat) = nn → (0 ≤ s9 ∧ s9 ≤ n) → (x9 = 2 * rR (wv mv) n s9 0 + s9) → (0 ≤ x9 ∧ x9 ≤ v) → va_P dd vwCl [kO y0 7 [vI n, .ref v0, .ref a0, vI sts, .ref r0, .ref f0, .ref g0, .ref d0, .ref t9, vI ty, vI 0], kI cI v0 21 mv] H → va_D A [kO y0 7 [vI n, .ref v0, .ref a0, vI sts, .ref r0, .ref f0, .ref g0, .ref d0, .ref t9, vI ty, vI 0], kI cI v0 21 mv] → va_S A s.heap H locs → lv_has ls 5 [(2, vI x9), (3, vI s9), (0, .ref y0), (1, vI v)] → W p l e (gR 4 0 0) s m args below meth c H locs 0 0 Q (F0 m 20 ls []) := by
        intro nn
        induction nn using Nat.strongRecOn with
        | ind nn L20i =>
        intro s9 x9 H locs ls hmeas hs9 hx9 hxv hP hD hS hl
        refine lv_iload_n hx hb dX7_pathChar_20 rfl (lv_at hl 1 rfl) ?_
        refine lv_aload_n hx hb dX7_pathChar_21 rfl (lv_at hl 2 rfl) ?_
        refine va_get (D := dd) (ci := 7) (v := vI n) (C := RX7) (T := TX7) (N := 11) hx hb hts hi7 hown hK hP 0 rfl rfl 0 (by decide) (hts _ (List.mem_cons_of_mem _ (List.mem_append_left _ (List.mem_of_getElem? (i := 0) rfl)))) (fun _ h9 => h9) rfl dX7_pathChar_22 ?_
        refine z_icmp_ge (tgt := 101) hx hb dX7_pathChar_25 (by decide) (by omega) (fun c25 => ?_) (fun c25 => ?_)
        · skip
          refine z_iconst hx hb dX7_pathChar_101 ?_
          subst hQ
          refine z_iret (z := 0) hx hb hr hlocks dX7_pathChar_102 0 hK hS ⟨by omega, by omega⟩ hP hD ?_
          exfalso
          rw [show s9 = n by omega, rR_all (wi := wv mv) (by omega) (fun j h0 h1 => (hwn j h0 h1).2)] at hx9
          omega
        · skip
          refine z_iconst hx hb dX7_pathChar_28 ?_
          refine lv_istore (lv' := [(4, vI 0), (2, vI x9), (3, vI s9), (0, .ref y0), (1, vI v)]) hx hb dX7_pathChar_29 hl (by decide) rfl (fun ls hl => ?_)
          have L31 : ∀ (nn : Nat) (c9 : Int) (x8 : Int) (H : Heap) (locs : List Loc) (ls : Array Slot), ((n + 1 - c9).toNat) = nn → (0 ≤ c9 ∧ c9 ≤ n) → (x8 = 2 * rR (wv mv) n s9 c9 + s9) → (0 ≤ x8 ∧ x8 ≤ v) → va_P dd vwCl [kO y0 7 [vI n, .ref v0, .ref a0, vI sts, .ref r0, .ref f0, .ref g0, .ref d0, .ref t9, vI ty, vI 0], kI cI v0 21 mv] H → va_D A [kO y0 7 [vI n, .ref v0, .ref a0, vI sts, .ref r0, .ref f0, .ref g0, .ref d0, .ref t9, vI ty, vI 0], kI cI v0 21 mv] → va_S A s.heap H locs → lv_has ls 5 [(2, vI x8), (4, vI c9), (3, vI s9), (0, .ref y0), (1, vI v)] → W p l e (gR 4 0 0) s m args below meth c H locs 0 0 Q (F0 m 31 ls []) := by
            intro nn
            induction nn using Nat.strongRecOn with
            | ind nn L31i =>
            intro c9 x8 H locs ls hmeas hc9 hx8 hxw hP hD hS hl
            refine lv_iload hx hb dX7_pathChar_31 (lv_at hl 1 rfl) ?_
            refine lv_aload_n hx hb dX7_pathChar_33 rfl (lv_at hl 3 rfl) ?_
            refine va_get (D := dd) (ci := 7) (v := vI n) (C := RX7) (T := TX7) (N := 11) hx hb hts hi7 hown hK hP 0 rfl rfl 0 (by decide) (hts _ (List.mem_cons_of_mem _ (List.mem_append_left _ (List.mem_of_getElem? (i := 0) rfl)))) (fun _ h9 => h9) rfl dX7_pathChar_34 ?_
            refine z_icmp_ge (tgt := 84) hx hb dX7_pathChar_37 (by decide) (by omega) (fun c37 => ?_) (fun c37 => ?_)
            · skip
              refine lv_iload_n hx hb dX7_pathChar_84 rfl (lv_at hl 0 rfl) ?_
              refine lv_iload_n hx hb dX7_pathChar_85 rfl (lv_at hl 4 rfl) ?_
              refine z_icmp_ne (tgt := 92) hx hb dX7_pathChar_86 (by decide) (by omega) (fun c86 => ?_) (fun c86 => ?_)
              · skip
                refine z_iinc (a := x8) (z := (x8 + 1)) (lv' := [(2, vI (x8 + 1)), (4, vI c9), (3, vI s9), (0, .ref y0), (1, vI v)]) hx hb dX7_pathChar_92 hl (k := 0) rfl rfl (by decide) rfl (fun ls hl => ?_)
                refine z_iinc (a := s9) (z := (s9 + 1)) (lv' := [(3, vI (s9 + 1)), (2, vI (x8 + 1)), (4, vI c9), (0, .ref y0), (1, vI v)]) hx hb dX7_pathChar_95 hl (k := 2) rfl rfl (by decide) rfl (fun ls hl => ?_)
                refine lv_goto (tgt := 20) hx hb dX7_pathChar_98 (by decide) ?_
                exact L20i _ (by omega) (s9 + 1) (x8 + 1) H locs ls rfl (by omega) (by rw [rR_0, ← rR_n]; rw [show c9 = n by omega] at hx8; omega) (by omega) hP hD hS (lv_sub hl [1, 0, 3, 4] rfl)
              · skip
                refine z_bipush hx hb dX7_pathChar_89 (by decide +kernel) ?_
                subst hQ
                refine z_iret (z := 69) hx hb hr hlocks dX7_pathChar_91 0 hK hS ⟨by omega, by omega⟩ hP hD ?_
                have hrn := rR_rg (wi := wv mv) (ct := n) (s := s9) (c := n) (by omega)
                rw [show c9 = n by omega] at hx8
                exact Or.inl ⟨hp8_0.1, hp8_0.2, hsb, Or.inr (Or.inr ⟨rR (wv mv) n s9 n, s9, by omega, by omega, by omega, by omega, fun i a b => row_lo (by omega) i a b (by omega), fun i a b => row_hi i (by omega) a b, by omega, rfl⟩), rfl⟩
            · skip
              refine lv_aload_n hx hb dX7_pathChar_40 rfl (lv_at hl 3 rfl) ?_
              refine va_get (D := dd) (ci := 7) (v := .ref v0) (C := RX7) (T := TX7) (N := 11) hx hb hts hi7 hown hK hP 0 rfl rfl 1 (by decide) (hts _ (List.mem_cons_of_mem _ (List.mem_append_left _ (List.mem_of_getElem? (i := 1) rfl)))) (fun _ h9 => h9) rfl dX7_pathChar_41 ?_
              refine z_bipush hx hb dX7_pathChar_44 (by decide +kernel) ?_
              refine lv_iload hx hb dX7_pathChar_46 (lv_at hl 1 rfl) ?_
              refine z_iadd (z := (12 + c9)) hx hb rfl dX7_pathChar_48 ?_
              refine z_iald hx hb hK hP 1 0 rfl rfl (i := (12 + c9)) (by omega) (by decide) dX7_pathChar_49 ?_
              have hw2 := hwn c9 (by omega) (by omega)
              have hwc : wv mv c9 = (mv (12 + c9)) := rfl
              refine lv_iload_n hx hb dX7_pathChar_50 rfl (lv_at hl 2 rfl) ?_
              refine z_icmp_ne (tgt := 78) hx hb dX7_pathChar_51 (by decide) (by omega) (fun c51 => ?_) (fun c51 => ?_)
              · skip
                refine z_iinc (a := c9) (z := (c9 + 1)) (lv' := [(4, vI (c9 + 1)), (2, vI x8), (3, vI s9), (0, .ref y0), (1, vI v)]) hx hb dX7_pathChar_78 hl (k := 1) rfl rfl (by decide) rfl (fun ls hl => ?_)
                refine lv_goto (tgt := 31) hx hb dX7_pathChar_81 (by decide) ?_
                exact L31i _ (by omega) (c9 + 1) x8 H locs ls rfl (by omega) (by rw [rR_s (by omega), if_neg (fun u => c51 (hwc.symm.trans u))]; omega) (by omega) hP hD hS (lv_sub hl [1, 0, 2, 3, 4] rfl)
              · skip
                refine lv_iload_n hx hb dX7_pathChar_54 rfl (lv_at hl 0 rfl) ?_
                refine lv_iload_n hx hb dX7_pathChar_55 rfl (lv_at hl 4 rfl) ?_
                refine z_icmp_ne (tgt := 62) hx hb dX7_pathChar_56 (by decide) (by omega) (fun c56 => ?_) (fun c56 => ?_)
                · skip
                  refine lv_iload_n hx hb dX7_pathChar_62 rfl (lv_at hl 0 rfl) ?_
                  refine z_iconst hx hb dX7_pathChar_63 ?_
                  refine z_iadd (z := (x8 + 1)) hx hb rfl dX7_pathChar_64 ?_
                  refine lv_iload_n hx hb dX7_pathChar_65 rfl (lv_at hl 4 rfl) ?_
                  refine z_icmp_ne (tgt := 75) hx hb dX7_pathChar_66 (by decide) (by omega) (fun c66 => ?_) (fun c66 => ?_)
                  · skip
                    refine z_iinc (a := x8) (z := (x8 + 2)) (lv' := [(2, vI (x8 + 2)), (4, vI c9), (3, vI s9), (0, .ref y0), (1, vI v)]) hx hb dX7_pathChar_75 hl (k := 0) rfl rfl (by decide) rfl (fun ls hl => ?_)
                    refine z_iinc (a := c9) (z := (c9 + 1)) (lv' := [(4, vI (c9 + 1)), (2, vI (x8 + 2)), (3, vI s9), (0, .ref y0), (1, vI v)]) hx hb dX7_pathChar_78 hl (k := 1) rfl rfl (by decide) rfl (fun ls hl => ?_)
                    refine lv_goto (tgt := 31) hx hb dX7_pathChar_81 (by decide) ?_
                    exact L31i _ (by omega) (c9 + 1) (x8 + 2) H locs ls rfl (by omega) (by rw [rR_s (by omega), if_pos (show wv mv c9 = s9 from hwc.trans c51)]; omega) (by omega) hP hD hS (lv_sub hl [1, 0, 2, 3, 4] rfl)
                  · skip
                    refine z_bipush hx hb dX7_pathChar_69 (by decide +kernel) ?_
                    refine lv_iload hx hb dX7_pathChar_71 (lv_at hl 1 rfl) ?_
                    refine z_iadd (z := (48 + c9)) hx hb rfl dX7_pathChar_73 ?_
                    subst hQ
                    refine z_iret (z := (48 + c9)) hx hb hr hlocks dX7_pathChar_74 0 hK hS ⟨by omega, by omega⟩ hP hD ?_
                    have hk : rk (wv mv) n c9 = rR (wv mv) n s9 c9 := by
                      show rR (wv mv) n (wv mv c9) c9 = _
                      rw [show wv mv c9 = s9 from hwc.trans c51]
                    have hlk := labZ_rk (wi := wv mv) (ct := n) (j := c9) ⟨by omega, by omega⟩
                    have hrg := rk_rg (wi := wv mv) (ct := n) (j := c9) ⟨by omega, by omega⟩
                    rw [hk] at hlk hrg
                    have har : rR (wv mv) n s9 c9 - arZ (wv mv) n (rR (wv mv) n s9 c9) = s9 := by
                      unfold arZ
                      rw [hlk, show wv mv c9 = s9 from hwc.trans c51]
                      omega
                    exact Or.inl ⟨hp8_0.1, hp8_0.2, hsb, Or.inr (Or.inl ⟨_, hrg.1, hrg.2, by omega, by rw [hlk]⟩), rfl⟩
                · skip
                  refine z_bipush hx hb dX7_pathChar_59 (by decide +kernel) ?_
                  subst hQ
                  refine z_iret (z := 78) hx hb hr hlocks dX7_pathChar_61 0 hK hS ⟨by omega, by omega⟩ hP hD ?_
                  have hk : rk (wv mv) n c9 = rR (wv mv) n s9 c9 := by
                    show rR (wv mv) n (wv mv c9) c9 = _
                    rw [show wv mv c9 = s9 from hwc.trans c51]
                  have hlk := labZ_rk (wi := wv mv) (ct := n) (j := c9) ⟨by omega, by omega⟩
                  have hrg := rk_rg (wi := wv mv) (ct := n) (j := c9) ⟨by omega, by omega⟩
                  rw [hk] at hlk hrg
                  have har : rR (wv mv) n s9 c9 - arZ (wv mv) n (rR (wv mv) n s9 c9) = s9 := by
                    unfold arZ
                    rw [hlk, show wv mv c9 = s9 from hwc.trans c51]
                    omega
                  exact Or.inl ⟨hp8_0.1, hp8_0.2, hsb, Or.inl ⟨_, hrg.1, hrg.2, by omega, rfl⟩, rfl⟩
          exact L31 _ 0 x9 H locs ls rfl (by omega) (hx9) (by omega) hP hD hS (lv_sub hl [1, 0, 2, 3, 4] rfl)
      exact L20 _ 0 0 H locs ls rfl (by omega) (by rw [rR_0, cntB_0 (wi := wv mv) _ (fun j h0 h1 => (hwn j h0 (by omega)).1)]; omega) (by omega) hP hD hS (lv_sub hl [1, 0, 2, 3] rfl)
    · exact absurd c11 (by omega)
  · skip
    subst z_1 th1_3
    have hP : va_P dd vwCl [kO y0 7 [vI n, .ref v0, .ref a0, vI sts, .ref r0, .ref f0, .ref g0, .ref d0, .ref t9, vI ty, vI 1], kI cI v0 21 mv] H := hP
    have hD : va_D A [kO y0 7 [vI n, .ref v0, .ref a0, vI sts, .ref r0, .ref f0, .ref g0, .ref d0, .ref t9, vI ty, vI 1], kI cI v0 21 mv] := hD
    refine z_if_eq (tgt := 16) hx hb dX7_pathChar_11 (by decide) (by omega) (fun c11 => ?_) (fun c11 => ?_)
    · exact absurd c11 (by omega)
    · skip
      refine z_iconst hx hb dX7_pathChar_14 ?_
      subst hQ
      refine z_iret (z := 0) hx hb hr hlocks dX7_pathChar_15 1 hK hS ⟨by omega, by omega⟩ hP hD ?_
      first
      | exact Or.inr (Or.inl ⟨hp8_0, rfl, rfl⟩)
      | exact Or.inr (Or.inr ⟨hp8_0.1, hp8_0.2, hp8_1, rfl, rfl⟩)
  · skip
    subst z_1 th1_3
    have hP : va_P dd vwCl [kO y0 7 [vI n, .ref v0, .ref a0, vI sts, .ref r0, .ref f0, .ref g0, .ref d0, .ref t9, vI ty, vI 2], kI cI v0 21 mv] H := hP
    have hD : va_D A [kO y0 7 [vI n, .ref v0, .ref a0, vI sts, .ref r0, .ref f0, .ref g0, .ref d0, .ref t9, vI ty, vI 2], kI cI v0 21 mv] := hD
    refine z_if_eq (tgt := 16) hx hb dX7_pathChar_11 (by decide) (by omega) (fun c11 => ?_) (fun c11 => ?_)
    · exact absurd c11 (by omega)
    · skip
      refine z_iconst hx hb dX7_pathChar_14 ?_
      subst hQ
      refine z_iret (z := 0) hx hb hr hlocks dX7_pathChar_15 2 hK hS ⟨by omega, by omega⟩ hP hD ?_
      first
      | exact Or.inr (Or.inl ⟨hp8_0, rfl, rfl⟩)
      | exact Or.inr (Or.inr ⟨hp8_0.1, hp8_0.2, hp8_1, rfl, rfl⟩)

