/-! the model: its state and the states before -/
def acS (sts : Int) : Int := if sts = 6 then 6 else sts + 1
def acA (sts : Int) : Int := if sts = 6 then 5 else sts
def shP (pa : Int → Int) (i : Int) : Int → Int := fun k => if k < i then pa (k + 21) else pa k
def wrP (pa v : Int → Int) (a i : Int) : Int → Int := fun k => if a ≤ k ∧ k < a + i then v (k - a) else pa k
def acP (sts : Int) (pa v : Int → Int) : Int → Int := wrP (if sts = 6 then shP pa 105 else pa) v (21 * acA sts) 21
theorem shP_0 (pa : Int → Int) : aZ pa = aZ (shP pa 0) := by
  funext j
  show zI (pa (j : Int)) = zI (if (j : Int) < 0 then pa ((j : Int) + 21) else pa (j : Int))
  rw [if_neg (by omega)]
theorem shP_s {pa : Int → Int} {i : Int} : uZ (shP pa i) i (shP pa i (i + 21)) = shP pa (i + 1) := by
  funext k
  have e : shP pa i (i + 21) = pa (i + 21) := if_neg (by omega)
  rw [e]
  by_cases q : k = i
  · rw [q, uZ_same]
    exact (if_pos (by omega)).symm
  · rw [uZ_ne q]
    unfold shP
    by_cases q2 : k < i
    · rw [if_pos q2, if_pos (by omega)]
    · rw [if_neg q2, if_neg (by omega)]
theorem wrP_0 (pa v : Int → Int) (a : Int) : pa = wrP pa v a 0 := by
  funext k
  exact (if_neg (by omega)).symm
theorem wrP_s {pa v : Int → Int} {a i : Int} (h : 0 ≤ i) : uZ (wrP pa v a i) (a + i) (v i) = wrP pa v a (i + 1) := by
  funext k
  by_cases q : k = a + i
  · rw [q, uZ_same]
    refine Eq.symm ((if_pos (by omega)).trans ?_)
    rw [show a + i - a = i by omega]
  · rw [uZ_ne q]
    unfold wrP
    by_cases q2 : a ≤ k ∧ k < a + i
    · rw [if_pos q2, if_pos (by omega)]
    · rw [if_neg q2, if_neg (by omega)]

set_option maxHeartbeats 4000000 in
set_option maxRecDepth 100000 in
theorem c_X7_in (l : Launch) (dd : va_G) (cI cJ cC cS : ClassId) (v lo hi : Int) (sz : Nat) (hgv : rg v) (hglo : rg lo) (hghi : rg hi) : gMi l yX7_in wsX7_in 1 0 0 dd cI cJ cC cS [vI v, vI lo, vI hi] [] sz (fun (z : Int) (_ : Unit) => ((lo ≤ v) ∧ (v ≤ hi) ∧ z = 1) ∨ ((v < lo ∨ hi < v) ∧ z = 0)) (fun (_ : Unit) => []) := by
  refine gMi_of (cc := cX7_in) (maxL := 3) (ret := (some .boolean)) (by decide) rfl (Nat.le_of_ble_eq_true rfl) ?_
  intro p e s m args below meth c A Q hQ hx hb hr hts hown hlocks hnm hml H locs hP hK hD hA hS ls hl
  have hl : lv_has ls 3 [(0, vI v), (1, vI lo), (2, vI hi)] := hl
  refine lv_iload_n hx hb dX7_in_0 rfl (lv_at hl 0 rfl) ?_
  refine lv_iload_n hx hb dX7_in_1 rfl (lv_at hl 1 rfl) ?_
  refine z_icmp_lt (tgt := 14) hx hb dX7_in_2 (by decide) (by omega) (fun c2 => ?_) (fun c2 => ?_)
  · skip
    refine z_iconst hx hb dX7_in_14 ?_
    subst hQ
    refine z_zret (z := 0) hx hb hr hlocks dX7_in_15 (by omega) () hK hS ⟨by omega, by omega⟩ hP hD ?_
    first | exact Or.inl ⟨by omega, by omega, rfl⟩ | exact Or.inr ⟨by omega, rfl⟩
  · skip
    refine lv_iload_n hx hb dX7_in_5 rfl (lv_at hl 0 rfl) ?_
    refine lv_iload_n hx hb dX7_in_6 rfl (lv_at hl 2 rfl) ?_
    refine z_icmp_gt (tgt := 14) hx hb dX7_in_7 (by decide) (by omega) (fun c7 => ?_) (fun c7 => ?_)
    · skip
      refine z_iconst hx hb dX7_in_14 ?_
      subst hQ
      refine z_zret (z := 0) hx hb hr hlocks dX7_in_15 (by omega) () hK hS ⟨by omega, by omega⟩ hP hD ?_
      first | exact Or.inl ⟨by omega, by omega, rfl⟩ | exact Or.inr ⟨by omega, rfl⟩
    · skip
      refine z_iconst hx hb dX7_in_10 ?_
      refine lv_goto (tgt := 15) hx hb dX7_in_11 (by decide) ?_
      subst hQ
      refine z_zret (z := 1) hx hb hr hlocks dX7_in_15 (by omega) () hK hS ⟨by omega, by omega⟩ hP hD ?_
      first | exact Or.inl ⟨by omega, by omega, rfl⟩ | exact Or.inr ⟨by omega, rfl⟩

set_option maxHeartbeats 4000000 in
set_option maxRecDepth 100000 in
theorem c_X7_thrown (l : Launch) (dd : va_G) (cI cJ cC cS : ClassId) (y0 v0 a0 r0 f0 g0 d0 t9 : Nat) (n sts ty th : Int) (sz : Nat)  : gMi l yX7_thrown wsX7_thrown 1 0 0 dd cI cJ cC cS [.ref y0] [kO y0 7 [vI n, .ref v0, .ref a0, vI sts, .ref r0, .ref f0, .ref g0, .ref d0, .ref t9, vI ty, vI th]] sz (fun (z : Int) (_ : Unit) => z = th) (fun (_ : Unit) => [kO y0 7 [vI n, .ref v0, .ref a0, vI sts, .ref r0, .ref f0, .ref g0, .ref d0, .ref t9, vI ty, vI th]]) := by
  refine gMi_of (cc := cX7_thrown) (maxL := 1) (ret := (some .int)) (by decide) rfl (Nat.le_of_ble_eq_true rfl) ?_
  intro p e s m args below meth c A Q hQ hx hb hr hts hown hlocks hnm hml H locs hP hK hD hA hS ls hl
  have hi7 : ∀ w ∈ wsX70, w ∈ wsX7_thrown := fun _ h => (List.mem_cons_of_mem _ (List.mem_append_right _ h))
  have hl : lv_has ls 1 [(0, .ref y0)] := hl
  refine lv_aload_n hx hb dX7_thrown_0 rfl (lv_at hl 0 rfl) ?_
  refine va_get (D := dd) (ci := 7) (v := vI th) (C := RX7) (T := TX7) (N := 11) hx hb hts hi7 hown hK hP 0 rfl rfl 10 (by decide) (hts _ (List.mem_cons_of_mem _ (List.mem_append_left _ (List.mem_of_getElem? (i := 0) rfl)))) (fun _ h9 => h9) rfl dX7_thrown_1 ?_
  subst hQ
  refine z_iret (z := th) hx hb hr hlocks dX7_thrown_4 () hK hS ⟨by omega, by omega⟩ hP hD ?_
  first | rfl | trivial | omega

set_option maxHeartbeats 4000000 in
set_option maxRecDepth 100000 in
theorem c_X7_fails (l : Launch) (dd : va_G) (cI cJ cC cS : ClassId) (y0 v0 a0 r0 f0 g0 d0 t9 : Nat) (n sts ty th : Int) (v : Int) (sz : Nat)  : gMi l yX7_fails wsX7_fails 1 0 0 dd cI cJ cC cS [.ref y0, vI v] [kO y0 7 [vI n, .ref v0, .ref a0, vI sts, .ref r0, .ref f0, .ref g0, .ref d0, .ref t9, vI ty, vI th]] sz (fun (z : Int) (_ : Unit) => z = 0) (fun (_ : Unit) => [kO y0 7 [vI n, .ref v0, .ref a0, vI sts, .ref r0, .ref f0, .ref g0, .ref d0, .ref t9, vI ty, vI v]]) := by
  refine gMi_of (cc := cX7_fails) (maxL := 2) (ret := (some .int)) (by decide) rfl (Nat.le_of_ble_eq_true rfl) ?_
  intro p e s m args below meth c A Q hQ hx hb hr hts hown hlocks hnm hml H locs hP hK hD hA hS ls hl
  have hi7 : ∀ w ∈ wsX70, w ∈ wsX7_fails := fun _ h => (List.mem_cons_of_mem _ (List.mem_append_right _ h))
  have hl : lv_has ls 2 [(0, .ref y0), (1, vI v)] := hl
  refine lv_aload_n hx hb dX7_fails_0 rfl (lv_at hl 0 rfl) ?_
  refine lv_iload_n hx hb dX7_fails_1 rfl (lv_at hl 1 rfl) ?_
  refine va_put (D := dd) (ci := 7) (v := vI v) (ty := .int) (C := RX7) (T := TX7) (N := 11) hx hb hts hi7 tyX7 tyX7_ok nmX7 hown hK hP hD hS 0 rfl rfl 10 (by decide) (hts _ (List.mem_cons_of_mem _ (List.mem_append_left _ (List.mem_of_getElem? (i := 0) rfl)))) (fun _ h9 => h9) rfl (by decide +kernel) rfl rfl (Nat.le_of_ble_eq_true rfl) dX7_fails_2 (fun H locs hP hD hS => ?_)
  have hP : va_P dd vwCl [kO y0 7 [vI n, .ref v0, .ref a0, vI sts, .ref r0, .ref f0, .ref g0, .ref d0, .ref t9, vI ty, vI v]] H := hP
  have hD : va_D A [kO y0 7 [vI n, .ref v0, .ref a0, vI sts, .ref r0, .ref f0, .ref g0, .ref d0, .ref t9, vI ty, vI v]] := hD
  refine z_iconst hx hb dX7_fails_5 ?_
  subst hQ
  refine z_iret (z := 0) hx hb hr hlocks dX7_fails_6 () hK hS ⟨by omega, by omega⟩ hP hD ?_
  first | rfl | trivial | omega

set_option maxHeartbeats 4000000 in
set_option maxRecDepth 100000 in
theorem c_X7_act (l : Launch) (dd : va_G) (cI cJ cC cS : ClassId) (y0 v0 a0 r0 f0 g0 d0 t9 : Nat) (n sts ty th : Int) (mv : Int → Int) (mp : Int → Int) (sz : Nat) (hst : 0 ≤ sts ∧ sts ≤ 6) : gMv l yX7_act wsX7_act 1 0 0 dd cI cJ cC cS [.ref y0] [kO y0 7 [vI n, .ref v0, .ref a0, vI sts, .ref r0, .ref f0, .ref g0, .ref d0, .ref t9, vI ty, vI th], kI cI v0 21 mv, kI cI a0 126 mp] sz (fun (_ : Unit) => True) (fun (_ : Unit) => [kO y0 7 [vI n, .ref v0, .ref a0, vI (acS sts), .ref r0, .ref f0, .ref g0, .ref d0, .ref t9, vI ty, vI th], kI cI v0 21 mv, kI cI a0 126 (acP sts mp mv)]) := by
  refine gMv_of (cc := cX7_act) (maxL := 2) (ret := none) (by decide) rfl (Nat.le_of_ble_eq_true rfl) ?_
  intro p e s m args below meth c A Q hQ hx hb hr hts hown hlocks hnm hml H locs hP hK hD hA hS ls hl
  have hi7 : ∀ w ∈ wsX70, w ∈ wsX7_act := fun _ h => (List.mem_cons_of_mem _ (List.mem_append_right _ h))
  have hl : lv_has ls 2 [(0, .ref y0)] := hl
  refine lv_aload_n hx hb dX7_act_0 rfl (lv_at hl 0 rfl) ?_
  refine va_get (D := dd) (ci := 7) (v := vI sts) (C := RX7) (T := TX7) (N := 11) hx hb hts hi7 hown hK hP 0 rfl rfl 3 (by decide) (hts _ (List.mem_cons_of_mem _ (List.mem_append_left _ (List.mem_of_getElem? (i := 0) rfl)))) (fun _ h9 => h9) rfl dX7_act_1 ?_
  refine z_bipush hx hb dX7_act_4 (by decide +kernel) ?_
  refine z_icmp_ne (tgt := 48) hx hb dX7_act_6 (by decide) (by omega) (fun c6 => ?_) (fun c6 => ?_)
  · skip
    refine z_iconst hx hb dX7_act_48 ?_
    refine lv_istore_n (lv' := [(1, vI 0), (0, .ref y0)]) hx hb dX7_act_49 rfl hl (by decide) rfl (fun ls hl => ?_)
    have L50 : ∀ (nn : Nat) (j : Int) (H : Heap) (locs : List Loc) (ls : Array Slot), ((22 - j).toNat) = nn → (0 ≤ j ∧ j ≤ 21) → va_P dd vwCl [kO y0 7 [vI n, .ref v0, .ref a0, vI sts, .ref r0, .ref f0, .ref g0, .ref d0, .ref t9, vI ty, vI th], kI cI v0 21 mv, kI cI a0 126 (wrP mp mv (21 * sts) j)] H → va_D A [kO y0 7 [vI n, .ref v0, .ref a0, vI sts, .ref r0, .ref f0, .ref g0, .ref d0, .ref t9, vI ty, vI th], kI cI v0 21 mv, kI cI a0 126 (wrP mp mv (21 * sts) j)] → va_S A s.heap H locs → lv_has ls 2 [(1, vI j), (0, .ref y0)] → W p l e (gR 1 0 0) s m args below meth c H locs 0 0 Q (F0 m 50 ls []) := by
      intro nn
      induction nn using Nat.strongRecOn with
      | ind nn L50i =>
      intro j H locs ls hmeas hj hP hD hS hl
      refine lv_iload_n hx hb dX7_act_50 rfl (lv_at hl 0 rfl) ?_
      refine z_bipush hx hb dX7_act_51 (by decide +kernel) ?_
      refine z_icmp_ge (tgt := 82) hx hb dX7_act_53 (by decide) (by omega) (fun c53 => ?_) (fun c53 => ?_)
      · skip
        refine lv_aload_n hx hb dX7_act_82 rfl (lv_at hl 1 rfl) ?_
        refine lv_dup hx hb dX7_act_83 rfl ?_
        refine va_get (D := dd) (ci := 7) (v := vI sts) (C := RX7) (T := TX7) (N := 11) hx hb hts hi7 hown hK hP 0 rfl rfl 3 (by decide) (hts _ (List.mem_cons_of_mem _ (List.mem_append_left _ (List.mem_of_getElem? (i := 0) rfl)))) (fun _ h9 => h9) rfl dX7_act_84 ?_
        refine z_iconst hx hb dX7_act_87 ?_
        refine z_iadd (z := (sts + 1)) hx hb rfl dX7_act_88 ?_
        refine va_put (D := dd) (ci := 7) (v := vI (sts + 1)) (ty := .int) (C := RX7) (T := TX7) (N := 11) hx hb hts hi7 tyX7 tyX7_ok nmX7 hown hK hP hD hS 0 rfl rfl 3 (by decide) (hts _ (List.mem_cons_of_mem _ (List.mem_append_left _ (List.mem_of_getElem? (i := 0) rfl)))) (fun _ h9 => h9) rfl (by decide +kernel) rfl rfl (Nat.le_of_ble_eq_true rfl) dX7_act_89 (fun H locs hP hD hS => ?_)
        have hP : va_P dd vwCl [kO y0 7 [vI n, .ref v0, .ref a0, vI (sts + 1), .ref r0, .ref f0, .ref g0, .ref d0, .ref t9, vI ty, vI th], kI cI v0 21 mv, kI cI a0 126 (wrP mp mv (21 * sts) j)] H := hP
        have hD : va_D A [kO y0 7 [vI n, .ref v0, .ref a0, vI (sts + 1), .ref r0, .ref f0, .ref g0, .ref d0, .ref t9, vI ty, vI th], kI cI v0 21 mv, kI cI a0 126 (wrP mp mv (21 * sts) j)] := hD
        have ec_1 : vI (sts + 1) = vI (acS sts) := congrArg _ (by unfold acS; split <;> omega)
        rw [ec_1] at hP hD
        have ec_2 : kI cI a0 126 (wrP mp mv (21 * sts) j) = kI cI a0 126 (acP sts mp mv) := kI_congr (by
          have h21 : j = 21 := by omega
          subst h21
          unfold acP acA
          first
          | (rw [if_pos (by omega), if_pos (by omega), show i = 105 by omega, show sts - 1 = 5 by omega])
          | (rw [if_neg (by omega), if_neg (by omega)]))
        rw [ec_2] at hP hD
        subst hQ
        refine z_vret hx hb hr hlocks dX7_act_92 () hK hS ⟨by omega, by omega⟩ hP hD ?_
        first | rfl | trivial | omega
      · skip
        refine lv_aload_n hx hb dX7_act_56 rfl (lv_at hl 1 rfl) ?_
        refine va_get (D := dd) (ci := 7) (v := .ref a0) (C := RX7) (T := TX7) (N := 11) hx hb hts hi7 hown hK hP 0 rfl rfl 2 (by decide) (hts _ (List.mem_cons_of_mem _ (List.mem_append_left _ (List.mem_of_getElem? (i := 1) rfl)))) (fun _ h9 => h9) rfl dX7_act_57 ?_
        refine z_bipush hx hb dX7_act_60 (by decide +kernel) ?_
        refine lv_aload_n hx hb dX7_act_62 rfl (lv_at hl 1 rfl) ?_
        refine va_get (D := dd) (ci := 7) (v := vI sts) (C := RX7) (T := TX7) (N := 11) hx hb hts hi7 hown hK hP 0 rfl rfl 3 (by decide) (hts _ (List.mem_cons_of_mem _ (List.mem_append_left _ (List.mem_of_getElem? (i := 0) rfl)))) (fun _ h9 => h9) rfl dX7_act_63 ?_
        refine z_imul (z := (21 * sts)) hx hb rfl dX7_act_66 ?_
        refine lv_iload_n hx hb dX7_act_67 rfl (lv_at hl 0 rfl) ?_
        refine z_iadd (z := ((21 * sts) + j)) hx hb rfl dX7_act_68 ?_
        refine lv_aload_n hx hb dX7_act_69 rfl (lv_at hl 1 rfl) ?_
        refine va_get (D := dd) (ci := 7) (v := .ref v0) (C := RX7) (T := TX7) (N := 11) hx hb hts hi7 hown hK hP 0 rfl rfl 1 (by decide) (hts _ (List.mem_cons_of_mem _ (List.mem_append_left _ (List.mem_of_getElem? (i := 2) rfl)))) (fun _ h9 => h9) rfl dX7_act_70 ?_
        refine lv_iload_n hx hb dX7_act_73 rfl (lv_at hl 0 rfl) ?_
        refine z_iald hx hb hK hP 1 0 rfl rfl (i := j) (by omega) (by decide) dX7_act_74 ?_
        refine z_iast (ws' := [kO y0 7 [vI n, .ref v0, .ref a0, vI sts, .ref r0, .ref f0, .ref g0, .ref d0, .ref t9, vI ty, vI th], kI cI v0 21 mv, kI cI a0 126 (uZ (wrP mp mv (21 * sts) j) ((21 * sts) + j) (mv j))]) hx hb hK hP hD hS 2 0 rfl rfl (i := ((21 * sts) + j)) (x := (mv j)) (by omega) (by decide) dX7_act_75 rfl (fun H locs hP hD hS => ?_)
        refine z_iinc (a := j) (z := (j + 1)) (lv' := [(1, vI (j + 1)), (0, .ref y0)]) hx hb dX7_act_76 hl (k := 0) rfl rfl (by decide) rfl (fun ls hl => ?_)
        refine lv_goto (tgt := 50) hx hb dX7_act_79 (by decide) ?_
        have el_3 : kI cI a0 126 (uZ (wrP mp mv (21 * sts) j) ((21 * sts) + j) (mv j)) = kI cI a0 126 (wrP mp mv (21 * sts) (j + 1)) := kI_congr (congrArg aZ (wrP_s (by omega)))
        rw [el_3] at hP hD
        exact L50i _ (by omega) (j + 1) H locs ls rfl (by omega) hP hD hS hl
    have el_4 : kI cI a0 126 mp = kI cI a0 126 (wrP mp mv (21 * sts) 0) := kI_congr (congrArg aZ (wrP_0 _ _ _))
    rw [el_4] at hP hD
    exact L50 _ 0 H locs ls rfl (by omega) hP hD hS hl
  · skip
    refine z_iconst hx hb dX7_act_9 ?_
    refine lv_istore_n (lv' := [(1, vI 0), (0, .ref y0)]) hx hb dX7_act_10 rfl hl (by decide) rfl (fun ls hl => ?_)
    have L11 : ∀ (nn : Nat) (i : Int) (H : Heap) (locs : List Loc) (ls : Array Slot), ((106 - i).toNat) = nn → (0 ≤ i ∧ i ≤ 105) → va_P dd vwCl [kO y0 7 [vI n, .ref v0, .ref a0, vI sts, .ref r0, .ref f0, .ref g0, .ref d0, .ref t9, vI ty, vI th], kI cI v0 21 mv, kI cI a0 126 (shP mp i)] H → va_D A [kO y0 7 [vI n, .ref v0, .ref a0, vI sts, .ref r0, .ref f0, .ref g0, .ref d0, .ref t9, vI ty, vI th], kI cI v0 21 mv, kI cI a0 126 (shP mp i)] → va_S A s.heap H locs → lv_has ls 2 [(1, vI i), (0, .ref y0)] → W p l e (gR 1 0 0) s m args below meth c H locs 0 0 Q (F0 m 11 ls []) := by
      intro nn
      induction nn using Nat.strongRecOn with
      | ind nn L11i =>
      intro i H locs ls hmeas hi hP hD hS hl
      refine lv_iload_n hx hb dX7_act_11 rfl (lv_at hl 0 rfl) ?_
      refine z_bipush hx hb dX7_act_12 (by decide +kernel) ?_
      refine z_icmp_ge (tgt := 38) hx hb dX7_act_14 (by decide) (by omega) (fun c14 => ?_) (fun c14 => ?_)
      · skip
        refine lv_aload_n hx hb dX7_act_38 rfl (lv_at hl 1 rfl) ?_
        refine lv_dup hx hb dX7_act_39 rfl ?_
        refine va_get (D := dd) (ci := 7) (v := vI sts) (C := RX7) (T := TX7) (N := 11) hx hb hts hi7 hown hK hP 0 rfl rfl 3 (by decide) (hts _ (List.mem_cons_of_mem _ (List.mem_append_left _ (List.mem_of_getElem? (i := 0) rfl)))) (fun _ h9 => h9) rfl dX7_act_40 ?_
        refine z_iconst hx hb dX7_act_43 ?_
        refine z_isub (z := (sts - 1)) hx hb rfl dX7_act_44 ?_
        refine va_put (D := dd) (ci := 7) (v := vI (sts - 1)) (ty := .int) (C := RX7) (T := TX7) (N := 11) hx hb hts hi7 tyX7 tyX7_ok nmX7 hown hK hP hD hS 0 rfl rfl 3 (by decide) (hts _ (List.mem_cons_of_mem _ (List.mem_append_left _ (List.mem_of_getElem? (i := 0) rfl)))) (fun _ h9 => h9) rfl (by decide +kernel) rfl rfl (Nat.le_of_ble_eq_true rfl) dX7_act_45 (fun H locs hP hD hS => ?_)
        have hP : va_P dd vwCl [kO y0 7 [vI n, .ref v0, .ref a0, vI (sts - 1), .ref r0, .ref f0, .ref g0, .ref d0, .ref t9, vI ty, vI th], kI cI v0 21 mv, kI cI a0 126 (shP mp i)] H := hP
        have hD : va_D A [kO y0 7 [vI n, .ref v0, .ref a0, vI (sts - 1), .ref r0, .ref f0, .ref g0, .ref d0, .ref t9, vI ty, vI th], kI cI v0 21 mv, kI cI a0 126 (shP mp i)] := hD
        refine z_iconst hx hb dX7_act_48 ?_
        refine lv_istore_n (lv' := [(1, vI 0), (0, .ref y0)]) hx hb dX7_act_49 rfl hl (by decide) rfl (fun ls hl => ?_)
        have L50 : ∀ (nn : Nat) (j : Int) (H : Heap) (locs : List Loc) (ls : Array Slot), ((22 - j).toNat) = nn → (0 ≤ j ∧ j ≤ 21) → va_P dd vwCl [kO y0 7 [vI n, .ref v0, .ref a0, vI (sts - 1), .ref r0, .ref f0, .ref g0, .ref d0, .ref t9, vI ty, vI th], kI cI v0 21 mv, kI cI a0 126 (wrP (shP mp i) mv (21 * (sts - 1)) j)] H → va_D A [kO y0 7 [vI n, .ref v0, .ref a0, vI (sts - 1), .ref r0, .ref f0, .ref g0, .ref d0, .ref t9, vI ty, vI th], kI cI v0 21 mv, kI cI a0 126 (wrP (shP mp i) mv (21 * (sts - 1)) j)] → va_S A s.heap H locs → lv_has ls 2 [(1, vI j), (0, .ref y0)] → W p l e (gR 1 0 0) s m args below meth c H locs 0 0 Q (F0 m 50 ls []) := by
          intro nn
          induction nn using Nat.strongRecOn with
          | ind nn L50i =>
          intro j H locs ls hmeas hj hP hD hS hl
          refine lv_iload_n hx hb dX7_act_50 rfl (lv_at hl 0 rfl) ?_
          refine z_bipush hx hb dX7_act_51 (by decide +kernel) ?_
          refine z_icmp_ge (tgt := 82) hx hb dX7_act_53 (by decide) (by omega) (fun c53 => ?_) (fun c53 => ?_)
          · skip
            refine lv_aload_n hx hb dX7_act_82 rfl (lv_at hl 1 rfl) ?_
            refine lv_dup hx hb dX7_act_83 rfl ?_
            refine va_get (D := dd) (ci := 7) (v := vI (sts - 1)) (C := RX7) (T := TX7) (N := 11) hx hb hts hi7 hown hK hP 0 rfl rfl 3 (by decide) (hts _ (List.mem_cons_of_mem _ (List.mem_append_left _ (List.mem_of_getElem? (i := 0) rfl)))) (fun _ h9 => h9) rfl dX7_act_84 ?_
            refine z_iconst hx hb dX7_act_87 ?_
            refine z_iadd (z := sts) hx hb (by omega) dX7_act_88 ?_
            refine va_put (D := dd) (ci := 7) (v := vI sts) (ty := .int) (C := RX7) (T := TX7) (N := 11) hx hb hts hi7 tyX7 tyX7_ok nmX7 hown hK hP hD hS 0 rfl rfl 3 (by decide) (hts _ (List.mem_cons_of_mem _ (List.mem_append_left _ (List.mem_of_getElem? (i := 0) rfl)))) (fun _ h9 => h9) rfl (by decide +kernel) rfl rfl (Nat.le_of_ble_eq_true rfl) dX7_act_89 (fun H locs hP hD hS => ?_)
            have hP : va_P dd vwCl [kO y0 7 [vI n, .ref v0, .ref a0, vI sts, .ref r0, .ref f0, .ref g0, .ref d0, .ref t9, vI ty, vI th], kI cI v0 21 mv, kI cI a0 126 (wrP (shP mp i) mv (21 * (sts - 1)) j)] H := hP
            have hD : va_D A [kO y0 7 [vI n, .ref v0, .ref a0, vI sts, .ref r0, .ref f0, .ref g0, .ref d0, .ref t9, vI ty, vI th], kI cI v0 21 mv, kI cI a0 126 (wrP (shP mp i) mv (21 * (sts - 1)) j)] := hD
            have ec_5 : vI sts = vI (acS sts) := congrArg _ (by unfold acS; split <;> omega)
            rw [ec_5] at hP hD
            have ec_6 : kI cI a0 126 (wrP (shP mp i) mv (21 * (sts - 1)) j) = kI cI a0 126 (acP sts mp mv) := kI_congr (by
              have h21 : j = 21 := by omega
              subst h21
              unfold acP acA
              first
              | (rw [if_pos (by omega), if_pos (by omega), show i = 105 by omega, show sts - 1 = 5 by omega])
              | (rw [if_neg (by omega), if_neg (by omega)]))
            rw [ec_6] at hP hD
            subst hQ
            refine z_vret hx hb hr hlocks dX7_act_92 () hK hS ⟨by omega, by omega⟩ hP hD ?_
            first | rfl | trivial | omega
          · skip
            refine lv_aload_n hx hb dX7_act_56 rfl (lv_at hl 1 rfl) ?_
            refine va_get (D := dd) (ci := 7) (v := .ref a0) (C := RX7) (T := TX7) (N := 11) hx hb hts hi7 hown hK hP 0 rfl rfl 2 (by decide) (hts _ (List.mem_cons_of_mem _ (List.mem_append_left _ (List.mem_of_getElem? (i := 1) rfl)))) (fun _ h9 => h9) rfl dX7_act_57 ?_
            refine z_bipush hx hb dX7_act_60 (by decide +kernel) ?_
            refine lv_aload_n hx hb dX7_act_62 rfl (lv_at hl 1 rfl) ?_
            refine va_get (D := dd) (ci := 7) (v := vI (sts - 1)) (C := RX7) (T := TX7) (N := 11) hx hb hts hi7 hown hK hP 0 rfl rfl 3 (by decide) (hts _ (List.mem_cons_of_mem _ (List.mem_append_left _ (List.mem_of_getElem? (i := 0) rfl)))) (fun _ h9 => h9) rfl dX7_act_63 ?_
            refine z_imul (z := (21 * (sts - 1))) hx hb rfl dX7_act_66 ?_
            refine lv_iload_n hx hb dX7_act_67 rfl (lv_at hl 0 rfl) ?_
            refine z_iadd (z := ((21 * (sts - 1)) + j)) hx hb rfl dX7_act_68 ?_
            refine lv_aload_n hx hb dX7_act_69 rfl (lv_at hl 1 rfl) ?_
            refine va_get (D := dd) (ci := 7) (v := .ref v0) (C := RX7) (T := TX7) (N := 11) hx hb hts hi7 hown hK hP 0 rfl rfl 1 (by decide) (hts _ (List.mem_cons_of_mem _ (List.mem_append_left _ (List.mem_of_getElem? (i := 2) rfl)))) (fun _ h9 => h9) rfl dX7_act_70 ?_
            refine lv_iload_n hx hb dX7_act_73 rfl (lv_at hl 0 rfl) ?_
            refine z_iald hx hb hK hP 1 0 rfl rfl (i := j) (by omega) (by decide) dX7_act_74 ?_
            refine z_iast (ws' := [kO y0 7 [vI n, .ref v0, .ref a0, vI (sts - 1), .ref r0, .ref f0, .ref g0, .ref d0, .ref t9, vI ty, vI th], kI cI v0 21 mv, kI cI a0 126 (uZ (wrP (shP mp i) mv (21 * (sts - 1)) j) ((21 * (sts - 1)) + j) (mv j))]) hx hb hK hP hD hS 2 0 rfl rfl (i := ((21 * (sts - 1)) + j)) (x := (mv j)) (by omega) (by decide) dX7_act_75 rfl (fun H locs hP hD hS => ?_)
            refine z_iinc (a := j) (z := (j + 1)) (lv' := [(1, vI (j + 1)), (0, .ref y0)]) hx hb dX7_act_76 hl (k := 0) rfl rfl (by decide) rfl (fun ls hl => ?_)
            refine lv_goto (tgt := 50) hx hb dX7_act_79 (by decide) ?_
            have el_7 : kI cI a0 126 (uZ (wrP (shP mp i) mv (21 * (sts - 1)) j) ((21 * (sts - 1)) + j) (mv j)) = kI cI a0 126 (wrP (shP mp i) mv (21 * (sts - 1)) (j + 1)) := kI_congr (congrArg aZ (wrP_s (by omega)))
            rw [el_7] at hP hD
            exact L50i _ (by omega) (j + 1) H locs ls rfl (by omega) hP hD hS hl
        have el_8 : kI cI a0 126 (shP mp i) = kI cI a0 126 (wrP (shP mp i) mv (21 * (sts - 1)) 0) := kI_congr (congrArg aZ (wrP_0 _ _ _))
        rw [el_8] at hP hD
        exact L50 _ 0 H locs ls rfl (by omega) hP hD hS hl
      · skip
        refine lv_aload_n hx hb dX7_act_17 rfl (lv_at hl 1 rfl) ?_
        refine va_get (D := dd) (ci := 7) (v := .ref a0) (C := RX7) (T := TX7) (N := 11) hx hb hts hi7 hown hK hP 0 rfl rfl 2 (by decide) (hts _ (List.mem_cons_of_mem _ (List.mem_append_left _ (List.mem_of_getElem? (i := 1) rfl)))) (fun _ h9 => h9) rfl dX7_act_18 ?_
        refine lv_iload_n hx hb dX7_act_21 rfl (lv_at hl 0 rfl) ?_
        refine lv_aload_n hx hb dX7_act_22 rfl (lv_at hl 1 rfl) ?_
        refine va_get (D := dd) (ci := 7) (v := .ref a0) (C := RX7) (T := TX7) (N := 11) hx hb hts hi7 hown hK hP 0 rfl rfl 2 (by decide) (hts _ (List.mem_cons_of_mem _ (List.mem_append_left _ (List.mem_of_getElem? (i := 1) rfl)))) (fun _ h9 => h9) rfl dX7_act_23 ?_
        refine lv_iload_n hx hb dX7_act_26 rfl (lv_at hl 0 rfl) ?_
        refine z_bipush hx hb dX7_act_27 (by decide +kernel) ?_
        refine z_iadd (z := (i + 21)) hx hb rfl dX7_act_29 ?_
        refine z_iald hx hb hK hP 2 0 rfl rfl (i := (i + 21)) (by omega) (by decide) dX7_act_30 ?_
        refine z_iast (ws' := [kO y0 7 [vI n, .ref v0, .ref a0, vI sts, .ref r0, .ref f0, .ref g0, .ref d0, .ref t9, vI ty, vI th], kI cI v0 21 mv, kI cI a0 126 (uZ (shP mp i) i ((shP mp i) (i + 21)))]) hx hb hK hP hD hS 2 0 rfl rfl (i := i) (x := ((shP mp i) (i + 21))) (by omega) (by decide) dX7_act_31 rfl (fun H locs hP hD hS => ?_)
        refine z_iinc (a := i) (z := (i + 1)) (lv' := [(1, vI (i + 1)), (0, .ref y0)]) hx hb dX7_act_32 hl (k := 0) rfl rfl (by decide) rfl (fun ls hl => ?_)
        refine lv_goto (tgt := 11) hx hb dX7_act_35 (by decide) ?_
        have el_9 : kI cI a0 126 (uZ (shP mp i) i ((shP mp i) (i + 21))) = kI cI a0 126 (shP mp (i + 1)) := kI_congr (congrArg aZ shP_s)
        rw [el_9] at hP hD
        exact L11i _ (by omega) (i + 1) H locs ls rfl (by omega) hP hD hS hl
    have el_10 : kI cI a0 126 mp = kI cI a0 126 (shP mp 0) := kI_congr (shP_0 mp)
    rw [el_10] at hP hD
    exact L11 _ 0 H locs ls rfl (by omega) hP hD hS hl

