/-! a text read as a path: ups, rights, label before, a label is due, preferences, sum of areas -/
abbrev RS : Type := Int × Int × Int × Int × (Int → Int) × Int
def rst (n : Int) (S : RS) (x : Int) : Option RS :=
  if S.2.2.2.1 ≠ 0 then (if 0 ≤ x - 48 ∧ x - 48 < n ∧ S.2.2.2.2.1 (x - 48) = -1 ∧ S.2.2.1 < x - 48 then some (S.1 + 1, S.2.1, x - 48, 0, uZ S.2.2.2.2.1 (x - 48) S.2.1, S.2.2.2.2.2 + (S.1 - S.2.1)) else none)
  else if x = 78 ∧ S.1 < n then some (S.1, S.2.1, S.2.2.1, 1, S.2.2.2.2.1, S.2.2.2.2.2)
  else if x = 69 ∧ S.2.1 < S.1 then some (S.1, S.2.1 + 1, -1, 0, S.2.2.2.2.1, S.2.2.2.2.2)
  else none
def rrun (n : Int) (tx : Int → Int) : Nat → Option RS
  | 0 => some (0, 0, -1, 0, kZ (-1), 0)
  | k + 1 => (rrun n tx k).bind (fun S => rst n S (tx (k : Int)))
theorem rrun_s {n : Int} {tx : Int → Int} {i : Int} {S : RS} (h0 : 0 ≤ i) (h : rrun n tx i.toNat = some S) : rrun n tx (i + 1).toNat = rst n S (tx i) := by
  obtain ⟨j, rfl⟩ := Int.eq_ofNat_of_zero_le h0
  have e : ((j : Int) + 1).toNat = j + 1 := by omega
  rw [e]
  rw [Int.toNat_natCast] at h
  show (rrun n tx j).bind (fun S => rst n S (tx (j : Int))) = _
  rw [h]
  rfl
theorem rst_lab {n u r b d a x : Int} {w : Int → Int} (hd : d ≠ 0) (h : 0 ≤ x - 48 ∧ x - 48 < n ∧ w (x - 48) = -1 ∧ b < x - 48) : rst n (u, r, b, d, w, a) x = some (u + 1, r, x - 48, 0, uZ w (x - 48) r, a + (u - r)) := by
  unfold rst
  rw [if_pos hd, if_pos h]
theorem rst_labn {n u r b d a x : Int} {w : Int → Int} (hd : d ≠ 0) (h : ¬ (0 ≤ x - 48 ∧ x - 48 < n ∧ w (x - 48) = -1 ∧ b < x - 48)) : rst n (u, r, b, d, w, a) x = none := by
  unfold rst
  rw [if_pos hd, if_neg h]
theorem rst_N {n u r b d a x : Int} {w : Int → Int} (hd : d = 0) (h : x = 78 ∧ u < n) : rst n (u, r, b, d, w, a) x = some (u, r, b, 1, w, a) := by
  unfold rst
  rw [if_neg (fun q => q hd), if_pos h]
theorem rst_E {n u r b d a x : Int} {w : Int → Int} (hd : d = 0) (h1 : ¬ (x = 78 ∧ u < n)) (h : x = 69 ∧ r < u) : rst n (u, r, b, d, w, a) x = some (u, r + 1, -1, 0, w, a) := by
  unfold rst
  rw [if_neg (fun q => q hd), if_neg h1, if_pos h]
theorem rst_no {n u r b d a x : Int} {w : Int → Int} (hd : d = 0) (h1 : ¬ (x = 78 ∧ u < n)) (h : ¬ (x = 69 ∧ r < u)) : rst n (u, r, b, d, w, a) x = none := by
  unfold rst
  rw [if_neg (fun q => q hd), if_neg h1, if_neg h]

set_option maxHeartbeats 4000000 in
set_option maxRecDepth 100000 in
theorem c_X4_begin (l : Launch) (dd : va_G) (cI cJ cC cS : ClassId) (e0 e1 : Nat) (n es eu er eb ed : Int) (ew : Int → Int) (sz : Nat) (hn : 1 ≤ n ∧ n ≤ 8) : gMv l yX4_begin wsX4_begin 1 0 0 dd cI cJ cC cS [.ref e0] [kO e0 4 [vI n, .ref e1, vI es, vI eu, vI er, vI eb, vI ed], kI cI e1 8 ew] sz (fun (_ : Unit) => True) (fun (_ : Unit) => [kO e0 4 [vI n, .ref e1, vI 0, vI 0, vI 0, vI (-1), vI 0], kI cI e1 8 (cpZ (kZ (-1)) ew n)]) := by
  refine gMv_of (cc := cX4_begin) (maxL := 2) (ret := none) (by decide) rfl (Nat.le_of_ble_eq_true rfl) ?_
  intro p e s m args below meth c A Q hQ hx hb hr hts hown hlocks hnm hml H locs hP hK hD hA hS ls hl
  have hi4 : ∀ w ∈ wsX40, w ∈ wsX4_begin := fun _ h => (List.mem_cons_of_mem _ (List.mem_append_right _ h))
  have hl : lv_has ls 2 [(0, .ref e0)] := hl
  refine z_iconst hx hb dX4_begin_0 ?_
  refine lv_istore_n (lv' := [(1, vI 0), (0, .ref e0)]) hx hb dX4_begin_1 rfl hl (by decide) rfl (fun ls hl => ?_)
  have L2 : ∀ (nn : Nat) (i : Int) (H : Heap) (locs : List Loc) (ls : Array Slot), ((n + 1 - i).toNat) = nn → (0 ≤ i ∧ i ≤ n) → va_P dd vwCl [kO e0 4 [vI n, .ref e1, vI es, vI eu, vI er, vI eb, vI ed], kI cI e1 8 (cpZ (kZ (-1)) ew i)] H → va_D A [kO e0 4 [vI n, .ref e1, vI es, vI eu, vI er, vI eb, vI ed], kI cI e1 8 (cpZ (kZ (-1)) ew i)] → va_S A s.heap H locs → lv_has ls 2 [(1, vI i), (0, .ref e0)] → W p l e (gR 1 0 0) s m args below meth c H locs 0 0 Q (F0 m 2 ls []) := by
    intro nn
    induction nn using Nat.strongRecOn with
    | ind nn L2i =>
    intro i H locs ls hmeas hi hP hD hS hl
    refine lv_iload_n hx hb dX4_begin_2 rfl (lv_at hl 0 rfl) ?_
    refine lv_aload_n hx hb dX4_begin_3 rfl (lv_at hl 1 rfl) ?_
    refine va_get (D := dd) (ci := 4) (v := vI n) (C := RX4) (T := TX4) (N := 7) hx hb hts hi4 hown hK hP 0 rfl rfl 0 (by decide) (hts _ (List.mem_cons_of_mem _ (List.mem_append_left _ (List.mem_of_getElem? (i := 0) rfl)))) (fun _ h9 => h9) rfl dX4_begin_4 ?_
    refine z_icmp_ge (tgt := 23) hx hb dX4_begin_7 (by decide) (by omega) (fun c7 => ?_) (fun c7 => ?_)
    · skip
      refine lv_aload_n hx hb dX4_begin_23 rfl (lv_at hl 1 rfl) ?_
      refine z_iconst hx hb dX4_begin_24 ?_
      refine va_put (D := dd) (ci := 4) (v := vI 0) (ty := .int) (C := RX4) (T := TX4) (N := 7) hx hb hts hi4 tyX4 tyX4_ok nmX4 hown hK hP hD hS 0 rfl rfl 2 (by decide) (hts _ (List.mem_cons_of_mem _ (List.mem_append_left _ (List.mem_of_getElem? (i := 2) rfl)))) (fun _ h9 => h9) rfl (by decide +kernel) rfl rfl (Nat.le_of_ble_eq_true rfl) dX4_begin_25 (fun H locs hP hD hS => ?_)
      have hP : va_P dd vwCl [kO e0 4 [vI n, .ref e1, vI 0, vI eu, vI er, vI eb, vI ed], kI cI e1 8 (cpZ (kZ (-1)) ew i)] H := hP
      have hD : va_D A [kO e0 4 [vI n, .ref e1, vI 0, vI eu, vI er, vI eb, vI ed], kI cI e1 8 (cpZ (kZ (-1)) ew i)] := hD
      refine lv_aload_n hx hb dX4_begin_28 rfl (lv_at hl 1 rfl) ?_
      refine z_iconst hx hb dX4_begin_29 ?_
      refine va_put (D := dd) (ci := 4) (v := vI 0) (ty := .int) (C := RX4) (T := TX4) (N := 7) hx hb hts hi4 tyX4 tyX4_ok nmX4 hown hK hP hD hS 0 rfl rfl 3 (by decide) (hts _ (List.mem_cons_of_mem _ (List.mem_append_left _ (List.mem_of_getElem? (i := 3) rfl)))) (fun _ h9 => h9) rfl (by decide +kernel) rfl rfl (Nat.le_of_ble_eq_true rfl) dX4_begin_30 (fun H locs hP hD hS => ?_)
      have hP : va_P dd vwCl [kO e0 4 [vI n, .ref e1, vI 0, vI 0, vI er, vI eb, vI ed], kI cI e1 8 (cpZ (kZ (-1)) ew i)] H := hP
      have hD : va_D A [kO e0 4 [vI n, .ref e1, vI 0, vI 0, vI er, vI eb, vI ed], kI cI e1 8 (cpZ (kZ (-1)) ew i)] := hD
      refine lv_aload_n hx hb dX4_begin_33 rfl (lv_at hl 1 rfl) ?_
      refine z_iconst hx hb dX4_begin_34 ?_
      refine va_put (D := dd) (ci := 4) (v := vI 0) (ty := .int) (C := RX4) (T := TX4) (N := 7) hx hb hts hi4 tyX4 tyX4_ok nmX4 hown hK hP hD hS 0 rfl rfl 4 (by decide) (hts _ (List.mem_cons_of_mem _ (List.mem_append_left _ (List.mem_of_getElem? (i := 4) rfl)))) (fun _ h9 => h9) rfl (by decide +kernel) rfl rfl (Nat.le_of_ble_eq_true rfl) dX4_begin_35 (fun H locs hP hD hS => ?_)
      have hP : va_P dd vwCl [kO e0 4 [vI n, .ref e1, vI 0, vI 0, vI 0, vI eb, vI ed], kI cI e1 8 (cpZ (kZ (-1)) ew i)] H := hP
      have hD : va_D A [kO e0 4 [vI n, .ref e1, vI 0, vI 0, vI 0, vI eb, vI ed], kI cI e1 8 (cpZ (kZ (-1)) ew i)] := hD
      refine lv_aload_n hx hb dX4_begin_38 rfl (lv_at hl 1 rfl) ?_
      refine z_iconst hx hb dX4_begin_39 ?_
      refine va_put (D := dd) (ci := 4) (v := vI (-1)) (ty := .int) (C := RX4) (T := TX4) (N := 7) hx hb hts hi4 tyX4 tyX4_ok nmX4 hown hK hP hD hS 0 rfl rfl 5 (by decide) (hts _ (List.mem_cons_of_mem _ (List.mem_append_left _ (List.mem_of_getElem? (i := 5) rfl)))) (fun _ h9 => h9) rfl (by decide +kernel) rfl rfl (Nat.le_of_ble_eq_true rfl) dX4_begin_40 (fun H locs hP hD hS => ?_)
      have hP : va_P dd vwCl [kO e0 4 [vI n, .ref e1, vI 0, vI 0, vI 0, vI (-1), vI ed], kI cI e1 8 (cpZ (kZ (-1)) ew i)] H := hP
      have hD : va_D A [kO e0 4 [vI n, .ref e1, vI 0, vI 0, vI 0, vI (-1), vI ed], kI cI e1 8 (cpZ (kZ (-1)) ew i)] := hD
      refine lv_aload_n hx hb dX4_begin_43 rfl (lv_at hl 1 rfl) ?_
      refine z_iconst hx hb dX4_begin_44 ?_
      refine va_put (D := dd) (ci := 4) (v := vI 0) (ty := .boolean) (C := RX4) (T := TX4) (N := 7) hx hb hts hi4 tyX4 tyX4_ok nmX4 hown hK hP hD hS 0 rfl rfl 6 (by decide) (hts _ (List.mem_cons_of_mem _ (List.mem_append_left _ (List.mem_of_getElem? (i := 6) rfl)))) (fun _ h9 => h9) rfl (by decide +kernel) (by decide +kernel) (by decide +kernel) (Nat.le_of_ble_eq_true rfl) dX4_begin_45 (fun H locs hP hD hS => ?_)
      have hP : va_P dd vwCl [kO e0 4 [vI n, .ref e1, vI 0, vI 0, vI 0, vI (-1), vI 0], kI cI e1 8 (cpZ (kZ (-1)) ew i)] H := hP
      have hD : va_D A [kO e0 4 [vI n, .ref e1, vI 0, vI 0, vI 0, vI (-1), vI 0], kI cI e1 8 (cpZ (kZ (-1)) ew i)] := hD
      have ec_1 : kI cI e1 8 (cpZ (kZ (-1)) ew i) = kI cI e1 8 (cpZ (kZ (-1)) ew n) := kI_congr (by rw [show i = n by omega])
      rw [ec_1] at hP hD
      subst hQ
      refine z_vret hx hb hr hlocks dX4_begin_48 () hK hS ⟨by omega, by omega⟩ hP hD ?_
      first | rfl | trivial | omega
    · skip
      refine lv_aload_n hx hb dX4_begin_10 rfl (lv_at hl 1 rfl) ?_
      refine va_get (D := dd) (ci := 4) (v := .ref e1) (C := RX4) (T := TX4) (N := 7) hx hb hts hi4 hown hK hP 0 rfl rfl 1 (by decide) (hts _ (List.mem_cons_of_mem _ (List.mem_append_left _ (List.mem_of_getElem? (i := 1) rfl)))) (fun _ h9 => h9) rfl dX4_begin_11 ?_
      refine lv_iload_n hx hb dX4_begin_14 rfl (lv_at hl 0 rfl) ?_
      refine z_iconst hx hb dX4_begin_15 ?_
      refine z_iast (ws' := [kO e0 4 [vI n, .ref e1, vI es, vI eu, vI er, vI eb, vI ed], kI cI e1 8 (uZ (cpZ (kZ (-1)) ew i) i (-1))]) hx hb hK hP hD hS 1 0 rfl rfl (i := i) (x := (-1)) (by omega) (by decide) dX4_begin_16 rfl (fun H locs hP hD hS => ?_)
      refine z_iinc (a := i) (z := (i + 1)) (lv' := [(1, vI (i + 1)), (0, .ref e0)]) hx hb dX4_begin_17 hl (k := 0) rfl rfl (by decide) rfl (fun ls hl => ?_)
      refine lv_goto (tgt := 2) hx hb dX4_begin_20 (by decide) ?_
      have el_2 : kI cI e1 8 (uZ (cpZ (kZ (-1)) ew i) i (-1)) = kI cI e1 8 (cpZ (kZ (-1)) ew (i + 1)) := kI_congr (congrArg aZ (cpZ_s (kZ (-1)) ew i))
      rw [el_2] at hP hD
      exact L2i _ (by omega) (i + 1) H locs ls rfl (by omega) hP hD hS hl
  have el_3 : kI cI e1 8 ew = kI cI e1 8 (cpZ (kZ (-1)) ew 0) := kI_congr ((aZ_cp0 (kZ (-1)) ew).symm)
  rw [el_3] at hP hD
  exact L2 _ 0 H locs ls rfl (by omega) hP hD hS hl

set_option maxHeartbeats 4000000 in
set_option maxRecDepth 100000 in
theorem c_X4_takesLabel (l : Launch) (dd : va_G) (cI cJ cC cS : ClassId) (e0 e1 : Nat) (n es eu er eb ed : Int) (ew : Int → Int) (x : Int) (sz : Nat) (hn : 1 ≤ n ∧ n ≤ 8) (hru : 0 ≤ er ∧ er ≤ eu ∧ eu ≤ n) (hreb : -1 ≤ eb ∧ eb ≤ 8) (hew : ∀ j : Int, 0 ≤ j → j < n → -1 ≤ ew j ∧ ew j ≤ 8) (hx0 : -100 ≤ x ∧ x ≤ 200) : gMi l yX4_takesLabel wsX4_takesLabel 1 0 0 dd cI cJ cC cS [.ref e0, vI x] [kO e0 4 [vI n, .ref e1, vI es, vI eu, vI er, vI eb, vI ed], kI cI e1 8 ew] sz (fun (z : Int) (u : Int × Int × Int × Int × Int × (Int → Int)) => ((0 ≤ x) ∧ (x < n) ∧ (ew x = -1) ∧ (eb < x) ∧ z = 1 ∧ u.1 = (es + (eu - er)) ∧ u.2.1 = (eu + 1) ∧ u.2.2.1 = er ∧ u.2.2.2.1 = x ∧ u.2.2.2.2.1 = 0 ∧ u.2.2.2.2.2 = (uZ ew x er)) ∨ ((¬ (0 ≤ x ∧ x < n ∧ ew x = -1 ∧ eb < x)) ∧ z = 0 ∧ u.1 = es ∧ u.2.1 = eu ∧ u.2.2.1 = er ∧ u.2.2.2.1 = eb ∧ u.2.2.2.2.1 = ed ∧ u.2.2.2.2.2 = ew)) (fun (u : Int × Int × Int × Int × Int × (Int → Int)) => [kO e0 4 [vI n, .ref e1, vI u.1, vI u.2.1, vI u.2.2.1, vI u.2.2.2.1, vI u.2.2.2.2.1], kI cI e1 8 u.2.2.2.2.2]) := by
  refine gMi_of (cc := cX4_takesLabel) (maxL := 2) (ret := (some .boolean)) (by decide) rfl (Nat.le_of_ble_eq_true rfl) ?_
  intro p e s m args below meth c A Q hQ hx hb hr hts hown hlocks hnm hml H locs hP hK hD hA hS ls hl
  have hi4 : ∀ w ∈ wsX40, w ∈ wsX4_takesLabel := fun _ h => (List.mem_cons_of_mem _ (List.mem_append_right _ h))
  have hl : lv_has ls 2 [(0, .ref e0), (1, vI x)] := hl
  refine lv_iload_n hx hb dX4_takesLabel_0 rfl (lv_at hl 1 rfl) ?_
  refine z_if_lt (tgt := 30) hx hb dX4_takesLabel_1 (by decide) (by omega) (fun c1 => ?_) (fun c1 => ?_)
  · skip
    refine z_iconst hx hb dX4_takesLabel_30 ?_
    subst hQ
    refine z_zret (z := 0) hx hb hr hlocks dX4_takesLabel_31 (by omega) (es, eu, er, eb, ed, ew) hK hS ⟨by omega, by omega⟩ hP hD ?_
    exact Or.inr ⟨fun q => by omega, rfl, rfl, rfl, rfl, rfl, rfl, rfl⟩
  · skip
    refine lv_iload_n hx hb dX4_takesLabel_4 rfl (lv_at hl 1 rfl) ?_
    refine lv_aload_n hx hb dX4_takesLabel_5 rfl (lv_at hl 0 rfl) ?_
    refine va_get (D := dd) (ci := 4) (v := vI n) (C := RX4) (T := TX4) (N := 7) hx hb hts hi4 hown hK hP 0 rfl rfl 0 (by decide) (hts _ (List.mem_cons_of_mem _ (List.mem_append_left _ (List.mem_of_getElem? (i := 0) rfl)))) (fun _ h9 => h9) rfl dX4_takesLabel_6 ?_
    refine z_icmp_ge (tgt := 30) hx hb dX4_takesLabel_9 (by decide) (by omega) (fun c9 => ?_) (fun c9 => ?_)
    · skip
      refine z_iconst hx hb dX4_takesLabel_30 ?_
      subst hQ
      refine z_zret (z := 0) hx hb hr hlocks dX4_takesLabel_31 (by omega) (es, eu, er, eb, ed, ew) hK hS ⟨by omega, by omega⟩ hP hD ?_
      exact Or.inr ⟨fun q => by omega, rfl, rfl, rfl, rfl, rfl, rfl, rfl⟩
    · skip
      refine lv_aload_n hx hb dX4_takesLabel_12 rfl (lv_at hl 0 rfl) ?_
      refine va_get (D := dd) (ci := 4) (v := .ref e1) (C := RX4) (T := TX4) (N := 7) hx hb hts hi4 hown hK hP 0 rfl rfl 1 (by decide) (hts _ (List.mem_cons_of_mem _ (List.mem_append_left _ (List.mem_of_getElem? (i := 1) rfl)))) (fun _ h9 => h9) rfl dX4_takesLabel_13 ?_
      refine lv_iload_n hx hb dX4_takesLabel_16 rfl (lv_at hl 1 rfl) ?_
      refine z_iald hx hb hK hP 1 0 rfl rfl (i := x) (by omega) (by decide) dX4_takesLabel_17 ?_
      have f_1 := hew x (by omega) (by omega)
      refine z_iconst hx hb dX4_takesLabel_18 ?_
      refine z_icmp_ne (tgt := 30) hx hb dX4_takesLabel_19 (by decide) (by omega) (fun c19 => ?_) (fun c19 => ?_)
      · skip
        refine z_iconst hx hb dX4_takesLabel_30 ?_
        subst hQ
        refine z_zret (z := 0) hx hb hr hlocks dX4_takesLabel_31 (by omega) (es, eu, er, eb, ed, ew) hK hS ⟨by omega, by omega⟩ hP hD ?_
        exact Or.inr ⟨fun q => by omega, rfl, rfl, rfl, rfl, rfl, rfl, rfl⟩
      · skip
        refine lv_iload_n hx hb dX4_takesLabel_22 rfl (lv_at hl 1 rfl) ?_
        refine lv_aload_n hx hb dX4_takesLabel_23 rfl (lv_at hl 0 rfl) ?_
        refine va_get (D := dd) (ci := 4) (v := vI eb) (C := RX4) (T := TX4) (N := 7) hx hb hts hi4 hown hK hP 0 rfl rfl 5 (by decide) (hts _ (List.mem_cons_of_mem _ (List.mem_append_left _ (List.mem_of_getElem? (i := 2) rfl)))) (fun _ h9 => h9) rfl dX4_takesLabel_24 ?_
        refine z_icmp_gt (tgt := 32) hx hb dX4_takesLabel_27 (by decide) (by omega) (fun c27 => ?_) (fun c27 => ?_)
        · skip
          refine lv_aload_n hx hb dX4_takesLabel_32 rfl (lv_at hl 0 rfl) ?_
          refine va_get (D := dd) (ci := 4) (v := .ref e1) (C := RX4) (T := TX4) (N := 7) hx hb hts hi4 hown hK hP 0 rfl rfl 1 (by decide) (hts _ (List.mem_cons_of_mem _ (List.mem_append_left _ (List.mem_of_getElem? (i := 1) rfl)))) (fun _ h9 => h9) rfl dX4_takesLabel_33 ?_
          refine lv_iload_n hx hb dX4_takesLabel_36 rfl (lv_at hl 1 rfl) ?_
          refine lv_aload_n hx hb dX4_takesLabel_37 rfl (lv_at hl 0 rfl) ?_
          refine va_get (D := dd) (ci := 4) (v := vI er) (C := RX4) (T := TX4) (N := 7) hx hb hts hi4 hown hK hP 0 rfl rfl 4 (by decide) (hts _ (List.mem_cons_of_mem _ (List.mem_append_left _ (List.mem_of_getElem? (i := 3) rfl)))) (fun _ h9 => h9) rfl dX4_takesLabel_38 ?_
          refine z_iast (ws' := [kO e0 4 [vI n, .ref e1, vI es, vI eu, vI er, vI eb, vI ed], kI cI e1 8 (uZ ew x er)]) hx hb hK hP hD hS 1 0 rfl rfl (i := x) (x := er) (by omega) (by decide) dX4_takesLabel_41 rfl (fun H locs hP hD hS => ?_)
          refine lv_aload_n hx hb dX4_takesLabel_42 rfl (lv_at hl 0 rfl) ?_
          refine lv_dup hx hb dX4_takesLabel_43 rfl ?_
          refine va_get (D := dd) (ci := 4) (v := vI es) (C := RX4) (T := TX4) (N := 7) hx hb hts hi4 hown hK hP 0 rfl rfl 2 (by decide) (hts _ (List.mem_cons_of_mem _ (List.mem_append_left _ (List.mem_of_getElem? (i := 4) rfl)))) (fun _ h9 => h9) rfl dX4_takesLabel_44 ?_
          refine lv_aload_n hx hb dX4_takesLabel_47 rfl (lv_at hl 0 rfl) ?_
          refine va_get (D := dd) (ci := 4) (v := vI eu) (C := RX4) (T := TX4) (N := 7) hx hb hts hi4 hown hK hP 0 rfl rfl 3 (by decide) (hts _ (List.mem_cons_of_mem _ (List.mem_append_left _ (List.mem_of_getElem? (i := 5) rfl)))) (fun _ h9 => h9) rfl dX4_takesLabel_48 ?_
          refine lv_aload_n hx hb dX4_takesLabel_51 rfl (lv_at hl 0 rfl) ?_
          refine va_get (D := dd) (ci := 4) (v := vI er) (C := RX4) (T := TX4) (N := 7) hx hb hts hi4 hown hK hP 0 rfl rfl 4 (by decide) (hts _ (List.mem_cons_of_mem _ (List.mem_append_left _ (List.mem_of_getElem? (i := 3) rfl)))) (fun _ h9 => h9) rfl dX4_takesLabel_52 ?_
          refine z_isub (z := (eu - er)) hx hb rfl dX4_takesLabel_55 ?_
          refine z_iadd (z := (es + (eu - er))) hx hb rfl dX4_takesLabel_56 ?_
          refine va_put (D := dd) (ci := 4) (v := vI (es + (eu - er))) (ty := .int) (C := RX4) (T := TX4) (N := 7) hx hb hts hi4 tyX4 tyX4_ok nmX4 hown hK hP hD hS 0 rfl rfl 2 (by decide) (hts _ (List.mem_cons_of_mem _ (List.mem_append_left _ (List.mem_of_getElem? (i := 4) rfl)))) (fun _ h9 => h9) rfl (by decide +kernel) rfl rfl (Nat.le_of_ble_eq_true rfl) dX4_takesLabel_57 (fun H locs hP hD hS => ?_)
          have hP : va_P dd vwCl [kO e0 4 [vI n, .ref e1, vI (es + (eu - er)), vI eu, vI er, vI eb, vI ed], kI cI e1 8 (uZ ew x er)] H := hP
          have hD : va_D A [kO e0 4 [vI n, .ref e1, vI (es + (eu - er)), vI eu, vI er, vI eb, vI ed], kI cI e1 8 (uZ ew x er)] := hD
          refine lv_aload_n hx hb dX4_takesLabel_60 rfl (lv_at hl 0 rfl) ?_
          refine lv_dup hx hb dX4_takesLabel_61 rfl ?_
          refine va_get (D := dd) (ci := 4) (v := vI eu) (C := RX4) (T := TX4) (N := 7) hx hb hts hi4 hown hK hP 0 rfl rfl 3 (by decide) (hts _ (List.mem_cons_of_mem _ (List.mem_append_left _ (List.mem_of_getElem? (i := 5) rfl)))) (fun _ h9 => h9) rfl dX4_takesLabel_62 ?_
          refine z_iconst hx hb dX4_takesLabel_65 ?_
          refine z_iadd (z := (eu + 1)) hx hb rfl dX4_takesLabel_66 ?_
          refine va_put (D := dd) (ci := 4) (v := vI (eu + 1)) (ty := .int) (C := RX4) (T := TX4) (N := 7) hx hb hts hi4 tyX4 tyX4_ok nmX4 hown hK hP hD hS 0 rfl rfl 3 (by decide) (hts _ (List.mem_cons_of_mem _ (List.mem_append_left _ (List.mem_of_getElem? (i := 5) rfl)))) (fun _ h9 => h9) rfl (by decide +kernel) rfl rfl (Nat.le_of_ble_eq_true rfl) dX4_takesLabel_67 (fun H locs hP hD hS => ?_)
          have hP : va_P dd vwCl [kO e0 4 [vI n, .ref e1, vI (es + (eu - er)), vI (eu + 1), vI er, vI eb, vI ed], kI cI e1 8 (uZ ew x er)] H := hP
          have hD : va_D A [kO e0 4 [vI n, .ref e1, vI (es + (eu - er)), vI (eu + 1), vI er, vI eb, vI ed], kI cI e1 8 (uZ ew x er)] := hD
          refine lv_aload_n hx hb dX4_takesLabel_70 rfl (lv_at hl 0 rfl) ?_
          refine lv_iload_n hx hb dX4_takesLabel_71 rfl (lv_at hl 1 rfl) ?_
          refine va_put (D := dd) (ci := 4) (v := vI x) (ty := .int) (C := RX4) (T := TX4) (N := 7) hx hb hts hi4 tyX4 tyX4_ok nmX4 hown hK hP hD hS 0 rfl rfl 5 (by decide) (hts _ (List.mem_cons_of_mem _ (List.mem_append_left _ (List.mem_of_getElem? (i := 2) rfl)))) (fun _ h9 => h9) rfl (by decide +kernel) rfl rfl (Nat.le_of_ble_eq_true rfl) dX4_takesLabel_72 (fun H locs hP hD hS => ?_)
          have hP : va_P dd vwCl [kO e0 4 [vI n, .ref e1, vI (es + (eu - er)), vI (eu + 1), vI er, vI x, vI ed], kI cI e1 8 (uZ ew x er)] H := hP
          have hD : va_D A [kO e0 4 [vI n, .ref e1, vI (es + (eu - er)), vI (eu + 1), vI er, vI x, vI ed], kI cI e1 8 (uZ ew x er)] := hD
          refine lv_aload_n hx hb dX4_takesLabel_75 rfl (lv_at hl 0 rfl) ?_
          refine z_iconst hx hb dX4_takesLabel_76 ?_
          refine va_put (D := dd) (ci := 4) (v := vI 0) (ty := .boolean) (C := RX4) (T := TX4) (N := 7) hx hb hts hi4 tyX4 tyX4_ok nmX4 hown hK hP hD hS 0 rfl rfl 6 (by decide) (hts _ (List.mem_cons_of_mem _ (List.mem_append_left _ (List.mem_of_getElem? (i := 6) rfl)))) (fun _ h9 => h9) rfl (by decide +kernel) (by decide +kernel) (by decide +kernel) (Nat.le_of_ble_eq_true rfl) dX4_takesLabel_77 (fun H locs hP hD hS => ?_)
          have hP : va_P dd vwCl [kO e0 4 [vI n, .ref e1, vI (es + (eu - er)), vI (eu + 1), vI er, vI x, vI 0], kI cI e1 8 (uZ ew x er)] H := hP
          have hD : va_D A [kO e0 4 [vI n, .ref e1, vI (es + (eu - er)), vI (eu + 1), vI er, vI x, vI 0], kI cI e1 8 (uZ ew x er)] := hD
          refine z_iconst hx hb dX4_takesLabel_80 ?_
          subst hQ
          refine z_zret (z := 1) hx hb hr hlocks dX4_takesLabel_81 (by omega) ((es + (eu - er)), (eu + 1), er, x, 0, (uZ ew x er)) hK hS ⟨by omega, by omega⟩ hP hD ?_
          exact Or.inl ⟨by omega, by omega, by omega, by omega, rfl, rfl, rfl, rfl, rfl, rfl, rfl⟩
        · skip
          refine z_iconst hx hb dX4_takesLabel_30 ?_
          subst hQ
          refine z_zret (z := 0) hx hb hr hlocks dX4_takesLabel_31 (by omega) (es, eu, er, eb, ed, ew) hK hS ⟨by omega, by omega⟩ hP hD ?_
          exact Or.inr ⟨fun q => by omega, rfl, rfl, rfl, rfl, rfl, rfl, rfl⟩

set_option maxHeartbeats 4000000 in
set_option maxRecDepth 100000 in
theorem c_X4_takes (l : Launch) (dd : va_G) (cI cJ cC cS : ClassId) (e0 e1 : Nat) (n es eu er eb ed : Int) (ew : Int → Int) (x : Int) (sz : Nat) (hn : 1 ≤ n ∧ n ≤ 8) (hru : 0 ≤ er ∧ er ≤ eu ∧ eu ≤ n) (hreb : -1 ≤ eb ∧ eb ≤ 8) (hew : ∀ j : Int, 0 ≤ j → j < n → -1 ≤ ew j ∧ ew j ≤ 8) (hed : ed = 0 ∨ ed = 1) (hx0 : 0 ≤ x ∧ x < 128) : gMi l yX4_takes wsX4_takes 2 0 0 dd cI cJ cC cS [.ref e0, vI x] [kO e0 4 [vI n, .ref e1, vI es, vI eu, vI er, vI eb, vI ed], kI cI e1 8 ew] sz (fun (z : Int) (u : Int × Int × Int × Int × Int × (Int → Int)) => ((ed ≠ 0) ∧ (0 ≤ (x - 48)) ∧ ((x - 48) < n) ∧ (ew (x - 48) = -1) ∧ (eb < (x - 48)) ∧ z = 1 ∧ u.1 = (es + (eu - er)) ∧ u.2.1 = (eu + 1) ∧ u.2.2.1 = er ∧ u.2.2.2.1 = (x - 48) ∧ u.2.2.2.2.1 = 0 ∧ u.2.2.2.2.2 = (uZ ew (x - 48) er)) ∨ ((ed ≠ 0) ∧ (¬ (0 ≤ (x - 48) ∧ (x - 48) < n ∧ ew (x - 48) = -1 ∧ eb < (x - 48))) ∧ z = 0 ∧ u.1 = es ∧ u.2.1 = eu ∧ u.2.2.1 = er ∧ u.2.2.2.1 = eb ∧ u.2.2.2.2.1 = ed ∧ u.2.2.2.2.2 = ew) ∨ ((ed = 0) ∧ (x = 78 ∧ eu < n) ∧ z = 1 ∧ u.1 = es ∧ u.2.1 = eu ∧ u.2.2.1 = er ∧ u.2.2.2.1 = eb ∧ u.2.2.2.2.1 = 1 ∧ u.2.2.2.2.2 = ew) ∨ ((ed = 0) ∧ (¬ (x = 78 ∧ eu < n)) ∧ (x = 69 ∧ er < eu) ∧ z = 1 ∧ u.1 = es ∧ u.2.1 = eu ∧ u.2.2.1 = (er + 1) ∧ u.2.2.2.1 = (-1) ∧ u.2.2.2.2.1 = ed ∧ u.2.2.2.2.2 = ew) ∨ ((ed = 0) ∧ (¬ (x = 78 ∧ eu < n)) ∧ (¬ (x = 69 ∧ er < eu)) ∧ z = 0 ∧ u.1 = es ∧ u.2.1 = eu ∧ u.2.2.1 = er ∧ u.2.2.2.1 = eb ∧ u.2.2.2.2.1 = ed ∧ u.2.2.2.2.2 = ew)) (fun (u : Int × Int × Int × Int × Int × (Int → Int)) => [kO e0 4 [vI n, .ref e1, vI u.1, vI u.2.1, vI u.2.2.1, vI u.2.2.2.1, vI u.2.2.2.2.1], kI cI e1 8 u.2.2.2.2.2]) := by
  refine gMi_of (cc := cX4_takes) (maxL := 2) (ret := (some .boolean)) (by decide) rfl (Nat.le_of_ble_eq_true rfl) ?_
  intro p e s m args below meth c A Q hQ hx hb hr hts hown hlocks hnm hml H locs hP hK hD hA hS ls hl
  have hi4 : ∀ w ∈ wsX40, w ∈ wsX4_takes := fun _ h => (List.mem_cons_of_mem _ (List.mem_append_right _ h))
  have hl : lv_has ls 2 [(0, .ref e0), (1, vI x)] := hl
  refine lv_aload_n hx hb dX4_takes_0 rfl (lv_at hl 0 rfl) ?_
  refine va_get (D := dd) (ci := 4) (v := vI ed) (C := RX4) (T := TX4) (N := 7) hx hb hts hi4 hown hK hP 0 rfl rfl 6 (by decide) (hts _ (List.mem_cons_of_mem _ (List.mem_append_left _ (List.mem_of_getElem? (i := 0) rfl)))) (fun _ h9 => h9) rfl dX4_takes_1 ?_
  refine z_if_eq (tgt := 16) hx hb dX4_takes_4 (by decide) (by omega) (fun c4 => ?_) (fun c4 => ?_)
  · skip
    refine lv_iload_n hx hb dX4_takes_16 rfl (lv_at hl 1 rfl) ?_
    refine z_bipush hx hb dX4_takes_17 (by decide +kernel) ?_
    refine z_icmp_ne (tgt := 40) hx hb dX4_takes_19 (by decide) (by omega) (fun c19 => ?_) (fun c19 => ?_)
    · skip
      refine lv_iload_n hx hb dX4_takes_40 rfl (lv_at hl 1 rfl) ?_
      refine z_bipush hx hb dX4_takes_41 (by decide +kernel) ?_
      refine z_icmp_ne (tgt := 74) hx hb dX4_takes_43 (by decide) (by omega) (fun c43 => ?_) (fun c43 => ?_)
      · skip
        refine z_iconst hx hb dX4_takes_74 ?_
        subst hQ
        refine z_zret (z := 0) hx hb hr hlocks dX4_takes_75 (by omega) (es, eu, er, eb, ed, ew) hK hS ⟨by omega, by omega⟩ hP hD ?_
        exact Or.inr (Or.inr (Or.inr (Or.inr ⟨by omega, by omega, by omega, rfl, rfl, rfl, rfl, rfl, rfl, rfl⟩)))
      · skip
        refine lv_aload_n hx hb dX4_takes_46 rfl (lv_at hl 0 rfl) ?_
        refine va_get (D := dd) (ci := 4) (v := vI er) (C := RX4) (T := TX4) (N := 7) hx hb hts hi4 hown hK hP 0 rfl rfl 4 (by decide) (hts _ (List.mem_cons_of_mem _ (List.mem_append_left _ (List.mem_of_getElem? (i := 3) rfl)))) (fun _ h9 => h9) rfl dX4_takes_47 ?_
        refine lv_aload_n hx hb dX4_takes_50 rfl (lv_at hl 0 rfl) ?_
        refine va_get (D := dd) (ci := 4) (v := vI eu) (C := RX4) (T := TX4) (N := 7) hx hb hts hi4 hown hK hP 0 rfl rfl 3 (by decide) (hts _ (List.mem_cons_of_mem _ (List.mem_append_left _ (List.mem_of_getElem? (i := 1) rfl)))) (fun _ h9 => h9) rfl dX4_takes_51 ?_
        refine z_icmp_ge (tgt := 74) hx hb dX4_takes_54 (by decide) (by omega) (fun c54 => ?_) (fun c54 => ?_)
        · skip
          refine z_iconst hx hb dX4_takes_74 ?_
          subst hQ
          refine z_zret (z := 0) hx hb hr hlocks dX4_takes_75 (by omega) (es, eu, er, eb, ed, ew) hK hS ⟨by omega, by omega⟩ hP hD ?_
          exact Or.inr (Or.inr (Or.inr (Or.inr ⟨by omega, by omega, by omega, rfl, rfl, rfl, rfl, rfl, rfl, rfl⟩)))
        · skip
          refine lv_aload_n hx hb dX4_takes_57 rfl (lv_at hl 0 rfl) ?_
          refine lv_dup hx hb dX4_takes_58 rfl ?_
          refine va_get (D := dd) (ci := 4) (v := vI er) (C := RX4) (T := TX4) (N := 7) hx hb hts hi4 hown hK hP 0 rfl rfl 4 (by decide) (hts _ (List.mem_cons_of_mem _ (List.mem_append_left _ (List.mem_of_getElem? (i := 3) rfl)))) (fun _ h9 => h9) rfl dX4_takes_59 ?_
          refine z_iconst hx hb dX4_takes_62 ?_
          refine z_iadd (z := (er + 1)) hx hb rfl dX4_takes_63 ?_
          refine va_put (D := dd) (ci := 4) (v := vI (er + 1)) (ty := .int) (C := RX4) (T := TX4) (N := 7) hx hb hts hi4 tyX4 tyX4_ok nmX4 hown hK hP hD hS 0 rfl rfl 4 (by decide) (hts _ (List.mem_cons_of_mem _ (List.mem_append_left _ (List.mem_of_getElem? (i := 3) rfl)))) (fun _ h9 => h9) rfl (by decide +kernel) rfl rfl (Nat.le_of_ble_eq_true rfl) dX4_takes_64 (fun H locs hP hD hS => ?_)
          have hP : va_P dd vwCl [kO e0 4 [vI n, .ref e1, vI es, vI eu, vI (er + 1), vI eb, vI ed], kI cI e1 8 ew] H := hP
          have hD : va_D A [kO e0 4 [vI n, .ref e1, vI es, vI eu, vI (er + 1), vI eb, vI ed], kI cI e1 8 ew] := hD
          refine lv_aload_n hx hb dX4_takes_67 rfl (lv_at hl 0 rfl) ?_
          refine z_iconst hx hb dX4_takes_68 ?_
          refine va_put (D := dd) (ci := 4) (v := vI (-1)) (ty := .int) (C := RX4) (T := TX4) (N := 7) hx hb hts hi4 tyX4 tyX4_ok nmX4 hown hK hP hD hS 0 rfl rfl 5 (by decide) (hts _ (List.mem_cons_of_mem _ (List.mem_append_left _ (List.mem_of_getElem? (i := 4) rfl)))) (fun _ h9 => h9) rfl (by decide +kernel) rfl rfl (Nat.le_of_ble_eq_true rfl) dX4_takes_69 (fun H locs hP hD hS => ?_)
          have hP : va_P dd vwCl [kO e0 4 [vI n, .ref e1, vI es, vI eu, vI (er + 1), vI (-1), vI ed], kI cI e1 8 ew] H := hP
          have hD : va_D A [kO e0 4 [vI n, .ref e1, vI es, vI eu, vI (er + 1), vI (-1), vI ed], kI cI e1 8 ew] := hD
          refine z_iconst hx hb dX4_takes_72 ?_
          subst hQ
          refine z_zret (z := 1) hx hb hr hlocks dX4_takes_73 (by omega) (es, eu, (er + 1), (-1), ed, ew) hK hS ⟨by omega, by omega⟩ hP hD ?_
          exact Or.inr (Or.inr (Or.inr (Or.inl ⟨by omega, by omega, ⟨by omega, by omega⟩, rfl, rfl, rfl, rfl, rfl, rfl, rfl⟩)))
    · skip
      refine lv_aload_n hx hb dX4_takes_22 rfl (lv_at hl 0 rfl) ?_
      refine va_get (D := dd) (ci := 4) (v := vI eu) (C := RX4) (T := TX4) (N := 7) hx hb hts hi4 hown hK hP 0 rfl rfl 3 (by decide) (hts _ (List.mem_cons_of_mem _ (List.mem_append_left _ (List.mem_of_getElem? (i := 1) rfl)))) (fun _ h9 => h9) rfl dX4_takes_23 ?_
      refine lv_aload_n hx hb dX4_takes_26 rfl (lv_at hl 0 rfl) ?_
      refine va_get (D := dd) (ci := 4) (v := vI n) (C := RX4) (T := TX4) (N := 7) hx hb hts hi4 hown hK hP 0 rfl rfl 0 (by decide) (hts _ (List.mem_cons_of_mem _ (List.mem_append_left _ (List.mem_of_getElem? (i := 2) rfl)))) (fun _ h9 => h9) rfl dX4_takes_27 ?_
      refine z_icmp_ge (tgt := 40) hx hb dX4_takes_30 (by decide) (by omega) (fun c30 => ?_) (fun c30 => ?_)
      · skip
        refine lv_iload_n hx hb dX4_takes_40 rfl (lv_at hl 1 rfl) ?_
        refine z_bipush hx hb dX4_takes_41 (by decide +kernel) ?_
        refine z_icmp_ne (tgt := 74) hx hb dX4_takes_43 (by decide) (by omega) (fun c43 => ?_) (fun c43 => ?_)
        · skip
          refine z_iconst hx hb dX4_takes_74 ?_
          subst hQ
          refine z_zret (z := 0) hx hb hr hlocks dX4_takes_75 (by omega) (es, eu, er, eb, ed, ew) hK hS ⟨by omega, by omega⟩ hP hD ?_
          exact Or.inr (Or.inr (Or.inr (Or.inr ⟨by omega, by omega, by omega, rfl, rfl, rfl, rfl, rfl, rfl, rfl⟩)))
        · skip
          refine lv_aload_n hx hb dX4_takes_46 rfl (lv_at hl 0 rfl) ?_
          refine va_get (D := dd) (ci := 4) (v := vI er) (C := RX4) (T := TX4) (N := 7) hx hb hts hi4 hown hK hP 0 rfl rfl 4 (by decide) (hts _ (List.mem_cons_of_mem _ (List.mem_append_left _ (List.mem_of_getElem? (i := 3) rfl)))) (fun _ h9 => h9) rfl dX4_takes_47 ?_
          refine lv_aload_n hx hb dX4_takes_50 rfl (lv_at hl 0 rfl) ?_
          refine va_get (D := dd) (ci := 4) (v := vI eu) (C := RX4) (T := TX4) (N := 7) hx hb hts hi4 hown hK hP 0 rfl rfl 3 (by decide) (hts _ (List.mem_cons_of_mem _ (List.mem_append_left _ (List.mem_of_getElem? (i := 1) rfl)))) (fun _ h9 => h9) rfl dX4_takes_51 ?_
          refine z_icmp_ge (tgt := 74) hx hb dX4_takes_54 (by decide) (by omega) (fun c54 => ?_) (fun c54 => ?_)
          · skip
            refine z_iconst hx hb dX4_takes_74 ?_
            subst hQ
            refine z_zret (z := 0) hx hb hr hlocks dX4_takes_75 (by omega) (es, eu, er, eb, ed, ew) hK hS ⟨by omega, by omega⟩ hP hD ?_
            exact Or.inr (Or.inr (Or.inr (Or.inr ⟨by omega, by omega, by omega, rfl, rfl, rfl, rfl, rfl, rfl, rfl⟩)))
          · skip
            refine lv_aload_n hx hb dX4_takes_57 rfl (lv_at hl 0 rfl) ?_
            refine lv_dup hx hb dX4_takes_58 rfl ?_
            refine va_get (D := dd) (ci := 4) (v := vI er) (C := RX4) (T := TX4) (N := 7) hx hb hts hi4 hown hK hP 0 rfl rfl 4 (by decide) (hts _ (List.mem_cons_of_mem _ (List.mem_append_left _ (List.mem_of_getElem? (i := 3) rfl)))) (fun _ h9 => h9) rfl dX4_takes_59 ?_
            refine z_iconst hx hb dX4_takes_62 ?_
            refine z_iadd (z := (er + 1)) hx hb rfl dX4_takes_63 ?_
            refine va_put (D := dd) (ci := 4) (v := vI (er + 1)) (ty := .int) (C := RX4) (T := TX4) (N := 7) hx hb hts hi4 tyX4 tyX4_ok nmX4 hown hK hP hD hS 0 rfl rfl 4 (by decide) (hts _ (List.mem_cons_of_mem _ (List.mem_append_left _ (List.mem_of_getElem? (i := 3) rfl)))) (fun _ h9 => h9) rfl (by decide +kernel) rfl rfl (Nat.le_of_ble_eq_true rfl) dX4_takes_64 (fun H locs hP hD hS => ?_)
            have hP : va_P dd vwCl [kO e0 4 [vI n, .ref e1, vI es, vI eu, vI (er + 1), vI eb, vI ed], kI cI e1 8 ew] H := hP
            have hD : va_D A [kO e0 4 [vI n, .ref e1, vI es, vI eu, vI (er + 1), vI eb, vI ed], kI cI e1 8 ew] := hD
            refine lv_aload_n hx hb dX4_takes_67 rfl (lv_at hl 0 rfl) ?_
            refine z_iconst hx hb dX4_takes_68 ?_
            refine va_put (D := dd) (ci := 4) (v := vI (-1)) (ty := .int) (C := RX4) (T := TX4) (N := 7) hx hb hts hi4 tyX4 tyX4_ok nmX4 hown hK hP hD hS 0 rfl rfl 5 (by decide) (hts _ (List.mem_cons_of_mem _ (List.mem_append_left _ (List.mem_of_getElem? (i := 4) rfl)))) (fun _ h9 => h9) rfl (by decide +kernel) rfl rfl (Nat.le_of_ble_eq_true rfl) dX4_takes_69 (fun H locs hP hD hS => ?_)
            have hP : va_P dd vwCl [kO e0 4 [vI n, .ref e1, vI es, vI eu, vI (er + 1), vI (-1), vI ed], kI cI e1 8 ew] H := hP
            have hD : va_D A [kO e0 4 [vI n, .ref e1, vI es, vI eu, vI (er + 1), vI (-1), vI ed], kI cI e1 8 ew] := hD
            refine z_iconst hx hb dX4_takes_72 ?_
            subst hQ
            refine z_zret (z := 1) hx hb hr hlocks dX4_takes_73 (by omega) (es, eu, (er + 1), (-1), ed, ew) hK hS ⟨by omega, by omega⟩ hP hD ?_
            exact Or.inr (Or.inr (Or.inr (Or.inl ⟨by omega, by omega, ⟨by omega, by omega⟩, rfl, rfl, rfl, rfl, rfl, rfl, rfl⟩)))
      · skip
        refine lv_aload_n hx hb dX4_takes_33 rfl (lv_at hl 0 rfl) ?_
        refine z_iconst hx hb dX4_takes_34 ?_
        refine va_put (D := dd) (ci := 4) (v := vI 1) (ty := .boolean) (C := RX4) (T := TX4) (N := 7) hx hb hts hi4 tyX4 tyX4_ok nmX4 hown hK hP hD hS 0 rfl rfl 6 (by decide) (hts _ (List.mem_cons_of_mem _ (List.mem_append_left _ (List.mem_of_getElem? (i := 0) rfl)))) (fun _ h9 => h9) rfl (by decide +kernel) (by decide +kernel) (by decide +kernel) (Nat.le_of_ble_eq_true rfl) dX4_takes_35 (fun H locs hP hD hS => ?_)
        have hP : va_P dd vwCl [kO e0 4 [vI n, .ref e1, vI es, vI eu, vI er, vI eb, vI 1], kI cI e1 8 ew] H := hP
        have hD : va_D A [kO e0 4 [vI n, .ref e1, vI es, vI eu, vI er, vI eb, vI 1], kI cI e1 8 ew] := hD
        refine z_iconst hx hb dX4_takes_38 ?_
        subst hQ
        refine z_zret (z := 1) hx hb hr hlocks dX4_takes_39 (by omega) (es, eu, er, eb, 1, ew) hK hS ⟨by omega, by omega⟩ hP hD ?_
        exact Or.inr (Or.inr (Or.inl ⟨by omega, ⟨by omega, by omega⟩, rfl, rfl, rfl, rfl, rfl, rfl, rfl⟩))
  · skip
    refine lv_aload_n hx hb dX4_takes_7 rfl (lv_at hl 0 rfl) ?_
    refine lv_iload_n hx hb dX4_takes_8 rfl (lv_at hl 1 rfl) ?_
    refine z_bipush hx hb dX4_takes_9 (by decide +kernel) ?_
    refine z_isub (z := (x - 48)) hx hb rfl dX4_takes_11 ?_
    refine g_callVi (own := RX4) (n := 1) (mc := 0) (ms := 0) (As := [vI (x - 48)]) (rest := []) (wc := [kO e0 4 [vI n, .ref e1, vI es, vI eu, vI er, vI eb, vI ed], kI cI e1 8 ew]) (wr := []) hx hb hml hown hts hK hP hD hS hA [0, 1] [] rfl rfl (by decide) (by decide) 4 0 rfl rfl (c_X4_takesLabel l dd cI cJ cC cS e0 e1 n es eu er eb ed ew (x - 48) H.size  (by first | assumption | omega) (by first | assumption | omega) (by first | assumption | omega) (by first | assumption | (intro j h0 h1; omega)) (by first | assumption | omega)) gX4_takes_X4_takesLabel rfl (by decide +kernel) (by decide) (by decide) (by decide) (by decide) rfl hl.1 rfl (Nat.le_of_ble_eq_true rfl) dX4_takes_12 (fun z_1 u_2 H locs hp12 hP hD hS => ?_)
    obtain ⟨es1_3, eu1_4, er1_5, eb1_6, ed1_7, ew1_8⟩ := u_2
    try dsimp only at hp12
    rcases hp12 with ⟨hp12_0, hp12_1, hp12_2, hp12_3, hp12_z, hp12_o0, hp12_o1, hp12_o2, hp12_o3, hp12_o4, hp12_o5⟩ | ⟨hp12_0, hp12_z, hp12_o0, hp12_o1, hp12_o2, hp12_o3, hp12_o4, hp12_o5⟩
    · skip
      subst z_1 es1_3 eu1_4 er1_5 eb1_6 ed1_7 ew1_8
      have hP : va_P dd vwCl [kO e0 4 [vI n, .ref e1, vI (es + (eu - er)), vI (eu + 1), vI er, vI (x - 48), vI 0], kI cI e1 8 (uZ ew (x - 48) er)] H := hP
      have hD : va_D A [kO e0 4 [vI n, .ref e1, vI (es + (eu - er)), vI (eu + 1), vI er, vI (x - 48), vI 0], kI cI e1 8 (uZ ew (x - 48) er)] := hD
      subst hQ
      refine z_zret (z := 1) hx hb hr hlocks dX4_takes_15 (by omega) ((es + (eu - er)), (eu + 1), er, (x - 48), 0, (uZ ew (x - 48) er)) hK hS ⟨by omega, by omega⟩ hP hD ?_
      exact Or.inl ⟨by omega, by omega, by omega, by omega, by omega, rfl, rfl, rfl, rfl, rfl, rfl, rfl⟩
    · skip
      subst z_1 es1_3 eu1_4 er1_5 eb1_6 ed1_7 ew1_8
      have hP : va_P dd vwCl [kO e0 4 [vI n, .ref e1, vI es, vI eu, vI er, vI eb, vI ed], kI cI e1 8 ew] H := hP
      have hD : va_D A [kO e0 4 [vI n, .ref e1, vI es, vI eu, vI er, vI eb, vI ed], kI cI e1 8 ew] := hD
      subst hQ
      refine z_zret (z := 0) hx hb hr hlocks dX4_takes_15 (by omega) (es, eu, er, eb, ed, ew) hK hS ⟨by omega, by omega⟩ hP hD ?_
      exact Or.inr (Or.inl ⟨by omega, hp12_0, rfl, rfl, rfl, rfl, rfl, rfl, rfl⟩)

set_option maxHeartbeats 4000000 in
set_option maxRecDepth 100000 in
theorem c_X4_firstWrong (l : Launch) (dd : va_G) (cI cJ cC cS : ClassId) (e0 e1 t0 : Nat) (n es eu er eb ed : Int) (ew : Int → Int) (tx : Int → Int) (len : Int) (sz : Nat) (hn : 1 ≤ n ∧ n ≤ 8) (htx : ∀ j : Int, 0 ≤ j → j < len → 0 ≤ tx j ∧ tx j < 128) (hlen : 0 ≤ len ∧ len ≤ 40) : gMi l yX4_firstWrong wsX4_firstWrong 3 0 0 dd cI cJ cC cS [.ref e0, .ref t0, vI len] [kO e0 4 [vI n, .ref e1, vI es, vI eu, vI er, vI eb, vI ed], kI cI e1 8 ew, kI cC t0 40 tx] sz (fun (z : Int) (u : Int × Int × Int × Int × Int × (Int → Int)) => ((∃ i : Int, 0 ≤ i ∧ i < len ∧ (∃ S, rrun n tx i.toNat = some S) ∧ rrun n tx (i + 1).toNat = none ∧ z = i) ∨ (∃ w : Int → Int, rrun n tx len.toNat = some (u.2.1, u.2.2.1, u.2.2.2.1, u.2.2.2.2.1, w, u.1) ∧ (∀ j : Int, 0 ≤ j → j < n → u.2.2.2.2.2 j = w j) ∧ z = (if u.2.1 = n ∧ u.2.2.1 = n then -1 else len)))) (fun (u : Int × Int × Int × Int × Int × (Int → Int)) => [kO e0 4 [vI n, .ref e1, vI u.1, vI u.2.1, vI u.2.2.1, vI u.2.2.2.1, vI u.2.2.2.2.1], kI cI e1 8 u.2.2.2.2.2, kI cC t0 40 tx]) := by
  refine gMi_of (cc := cX4_firstWrong) (maxL := 4) (ret := (some .int)) (by decide) rfl (Nat.le_of_ble_eq_true rfl) ?_
  intro p e s m args below meth c A Q hQ hx hb hr hts hown hlocks hnm hml H locs hP hK hD hA hS ls hl
  have hi4 : ∀ w ∈ wsX40, w ∈ wsX4_firstWrong := fun _ h => (List.mem_cons_of_mem _ (List.mem_append_right _ h))
  have hl : lv_has ls 4 [(0, .ref e0), (1, .ref t0), (2, vI len)] := hl
  refine lv_aload_n hx hb dX4_firstWrong_0 rfl (lv_at hl 0 rfl) ?_
  refine g_callVv (own := RX4) (n := 0) (mc := 0) (ms := 0) (As := []) (rest := []) (wc := [kO e0 4 [vI n, .ref e1, vI es, vI eu, vI er, vI eb, vI ed], kI cI e1 8 ew]) (wr := [kI cC t0 40 tx]) hx hb hml hown hts hK hP hD hS hA [0, 1] [2] rfl rfl (by decide) (by decide) 4 0 rfl rfl (c_X4_begin l dd cI cJ cC cS e0 e1 n es eu er eb ed ew H.size  (by first | assumption | omega)) gX4_firstWrong_X4_begin rfl (by decide +kernel) (by decide) (by decide) (by decide) (by decide) rfl hl.1 rfl (Nat.le_of_ble_eq_true rfl) dX4_firstWrong_1 (fun u_1 H locs hp1 hP hD hS => ?_)
  have hP : va_P dd vwCl [kI cC t0 40 tx, kO e0 4 [vI n, .ref e1, vI 0, vI 0, vI 0, vI (-1), vI 0], kI cI e1 8 (cpZ (kZ (-1)) ew n)] H := hP
  have hD : va_D A [kI cC t0 40 tx, kO e0 4 [vI n, .ref e1, vI 0, vI 0, vI 0, vI (-1), vI 0], kI cI e1 8 (cpZ (kZ (-1)) ew n)] := hD
  refine z_iconst hx hb dX4_firstWrong_4 ?_
  refine lv_istore_n (lv' := [(3, vI 0), (0, .ref e0), (1, .ref t0), (2, vI len)]) hx hb dX4_firstWrong_5 rfl hl (by decide) rfl (fun ls hl => ?_)
  have L6 : ∀ (nn : Nat) (i : Int) (esa : Int) (eua : Int) (era : Int) (eba : Int) (eda : Int) (ewa : Int → Int) (w : Int → Int) (H : Heap) (locs : List Loc) (ls : Array Slot), ((len + 1 - i).toNat) = nn → (0 ≤ i ∧ i ≤ len) → (rrun n tx i.toNat = some (eua, era, eba, eda, w, esa)) → (∀ j : Int, 0 ≤ j → j < n → ewa j = w j) → (0 ≤ era ∧ era ≤ eua ∧ eua ≤ n) → (-1 ≤ eba ∧ eba ≤ 8) → (eda = 0 ∨ eda = 1) → (eda = 0 ∨ eua < n) → (∀ j : Int, 0 ≤ j → j < n → -1 ≤ ewa j ∧ ewa j ≤ 8) → va_P dd vwCl [kO e0 4 [vI n, .ref e1, vI esa, vI eua, vI era, vI eba, vI eda], kI cI e1 8 ewa, kI cC t0 40 tx] H → va_D A [kO e0 4 [vI n, .ref e1, vI esa, vI eua, vI era, vI eba, vI eda], kI cI e1 8 ewa, kI cC t0 40 tx] → va_S A s.heap H locs → lv_has ls 4 [(3, vI i), (0, .ref e0), (1, .ref t0), (2, vI len)] → W p l e (gR 3 0 0) s m args below meth c H locs 0 0 Q (F0 m 6 ls []) := by
    intro nn
    induction nn using Nat.strongRecOn with
    | ind nn L6i =>
    intro i esa eua era eba eda ewa w H locs ls hmeas hi hrn hww hru hreb hed hdn hewa hP hD hS hl
    refine lv_iload_n hx hb dX4_firstWrong_6 rfl (lv_at hl 0 rfl) ?_
    refine lv_iload_n hx hb dX4_firstWrong_7 rfl (lv_at hl 3 rfl) ?_
    refine z_icmp_ge (tgt := 35) hx hb dX4_firstWrong_8 (by decide) (by omega) (fun c8 => ?_) (fun c8 => ?_)
    · skip
      refine lv_aload_n hx hb dX4_firstWrong_35 rfl (lv_at hl 1 rfl) ?_
      refine va_get (D := dd) (ci := 4) (v := vI eua) (C := RX4) (T := TX4) (N := 7) hx hb hts hi4 hown hK hP 0 rfl rfl 3 (by decide) (hts _ (List.mem_cons_of_mem _ (List.mem_append_left _ (List.mem_of_getElem? (i := 0) rfl)))) (fun _ h9 => h9) rfl dX4_firstWrong_36 ?_
      refine lv_aload_n hx hb dX4_firstWrong_39 rfl (lv_at hl 1 rfl) ?_
      refine va_get (D := dd) (ci := 4) (v := vI n) (C := RX4) (T := TX4) (N := 7) hx hb hts hi4 hown hK hP 0 rfl rfl 0 (by decide) (hts _ (List.mem_cons_of_mem _ (List.mem_append_left _ (List.mem_of_getElem? (i := 1) rfl)))) (fun _ h9 => h9) rfl dX4_firstWrong_40 ?_
      refine z_icmp_ne (tgt := 61) hx hb dX4_firstWrong_43 (by decide) (by omega) (fun c43 => ?_) (fun c43 => ?_)
      · skip
        refine lv_iload_n hx hb dX4_firstWrong_61 rfl (lv_at hl 3 rfl) ?_
        subst hQ
        refine z_iret (z := len) hx hb hr hlocks dX4_firstWrong_62 (esa, eua, era, eba, eda, ewa) hK hS ⟨by omega, by omega⟩ hP hD ?_
        rw [show i = len by omega] at hrn
        exact Or.inr ⟨w, hrn, hww, by first | exact (if_pos ⟨by omega, by omega⟩).symm | exact (if_neg (fun q => by dsimp only at q; omega)).symm⟩
      · skip
        refine lv_aload_n hx hb dX4_firstWrong_46 rfl (lv_at hl 1 rfl) ?_
        refine va_get (D := dd) (ci := 4) (v := vI era) (C := RX4) (T := TX4) (N := 7) hx hb hts hi4 hown hK hP 0 rfl rfl 4 (by decide) (hts _ (List.mem_cons_of_mem _ (List.mem_append_left _ (List.mem_of_getElem? (i := 2) rfl)))) (fun _ h9 => h9) rfl dX4_firstWrong_47 ?_
        refine lv_aload_n hx hb dX4_firstWrong_50 rfl (lv_at hl 1 rfl) ?_
        refine va_get (D := dd) (ci := 4) (v := vI n) (C := RX4) (T := TX4) (N := 7) hx hb hts hi4 hown hK hP 0 rfl rfl 0 (by decide) (hts _ (List.mem_cons_of_mem _ (List.mem_append_left _ (List.mem_of_getElem? (i := 1) rfl)))) (fun _ h9 => h9) rfl dX4_firstWrong_51 ?_
        refine z_icmp_ne (tgt := 61) hx hb dX4_firstWrong_54 (by decide) (by omega) (fun c54 => ?_) (fun c54 => ?_)
        · skip
          refine lv_iload_n hx hb dX4_firstWrong_61 rfl (lv_at hl 3 rfl) ?_
          subst hQ
          refine z_iret (z := len) hx hb hr hlocks dX4_firstWrong_62 (esa, eua, era, eba, eda, ewa) hK hS ⟨by omega, by omega⟩ hP hD ?_
          rw [show i = len by omega] at hrn
          exact Or.inr ⟨w, hrn, hww, by first | exact (if_pos ⟨by omega, by omega⟩).symm | exact (if_neg (fun q => by dsimp only at q; omega)).symm⟩
        · skip
          refine z_iconst hx hb dX4_firstWrong_57 ?_
          refine lv_goto (tgt := 62) hx hb dX4_firstWrong_58 (by decide) ?_
          subst hQ
          refine z_iret (z := (-1)) hx hb hr hlocks dX4_firstWrong_62 (esa, eua, era, eba, eda, ewa) hK hS ⟨by omega, by omega⟩ hP hD ?_
          rw [show i = len by omega] at hrn
          exact Or.inr ⟨w, hrn, hww, by first | exact (if_pos ⟨by omega, by omega⟩).symm | exact (if_neg (fun q => by dsimp only at q; omega)).symm⟩
    · skip
      refine lv_iload_n hx hb dX4_firstWrong_11 rfl (lv_at hl 0 rfl) ?_
      refine lv_aload_n hx hb dX4_firstWrong_12 rfl (lv_at hl 2 rfl) ?_
      refine va_alen (v := zI 40) hx hb hK hP 2 2 rfl rfl rfl dX4_firstWrong_13 ?_
      refine z_icmp_ge (tgt := 35) hx hb dX4_firstWrong_14 (by decide) (by omega) (fun c14 => ?_) (fun c14 => ?_)
      · skip
        refine lv_aload_n hx hb dX4_firstWrong_35 rfl (lv_at hl 1 rfl) ?_
        refine va_get (D := dd) (ci := 4) (v := vI eua) (C := RX4) (T := TX4) (N := 7) hx hb hts hi4 hown hK hP 0 rfl rfl 3 (by decide) (hts _ (List.mem_cons_of_mem _ (List.mem_append_left _ (List.mem_of_getElem? (i := 0) rfl)))) (fun _ h9 => h9) rfl dX4_firstWrong_36 ?_
        refine lv_aload_n hx hb dX4_firstWrong_39 rfl (lv_at hl 1 rfl) ?_
        refine va_get (D := dd) (ci := 4) (v := vI n) (C := RX4) (T := TX4) (N := 7) hx hb hts hi4 hown hK hP 0 rfl rfl 0 (by decide) (hts _ (List.mem_cons_of_mem _ (List.mem_append_left _ (List.mem_of_getElem? (i := 1) rfl)))) (fun _ h9 => h9) rfl dX4_firstWrong_40 ?_
        refine z_icmp_ne (tgt := 61) hx hb dX4_firstWrong_43 (by decide) (by omega) (fun c43 => ?_) (fun c43 => ?_)
        · skip
          refine lv_iload_n hx hb dX4_firstWrong_61 rfl (lv_at hl 3 rfl) ?_
          subst hQ
          refine z_iret (z := len) hx hb hr hlocks dX4_firstWrong_62 (esa, eua, era, eba, eda, ewa) hK hS ⟨by omega, by omega⟩ hP hD ?_
          rw [show i = len by omega] at hrn
          exact Or.inr ⟨w, hrn, hww, by first | exact (if_pos ⟨by omega, by omega⟩).symm | exact (if_neg (fun q => by dsimp only at q; omega)).symm⟩
        · skip
          refine lv_aload_n hx hb dX4_firstWrong_46 rfl (lv_at hl 1 rfl) ?_
          refine va_get (D := dd) (ci := 4) (v := vI era) (C := RX4) (T := TX4) (N := 7) hx hb hts hi4 hown hK hP 0 rfl rfl 4 (by decide) (hts _ (List.mem_cons_of_mem _ (List.mem_append_left _ (List.mem_of_getElem? (i := 2) rfl)))) (fun _ h9 => h9) rfl dX4_firstWrong_47 ?_
          refine lv_aload_n hx hb dX4_firstWrong_50 rfl (lv_at hl 1 rfl) ?_
          refine va_get (D := dd) (ci := 4) (v := vI n) (C := RX4) (T := TX4) (N := 7) hx hb hts hi4 hown hK hP 0 rfl rfl 0 (by decide) (hts _ (List.mem_cons_of_mem _ (List.mem_append_left _ (List.mem_of_getElem? (i := 1) rfl)))) (fun _ h9 => h9) rfl dX4_firstWrong_51 ?_
          refine z_icmp_ne (tgt := 61) hx hb dX4_firstWrong_54 (by decide) (by omega) (fun c54 => ?_) (fun c54 => ?_)
          · skip
            refine lv_iload_n hx hb dX4_firstWrong_61 rfl (lv_at hl 3 rfl) ?_
            subst hQ
            refine z_iret (z := len) hx hb hr hlocks dX4_firstWrong_62 (esa, eua, era, eba, eda, ewa) hK hS ⟨by omega, by omega⟩ hP hD ?_
            rw [show i = len by omega] at hrn
            exact Or.inr ⟨w, hrn, hww, by first | exact (if_pos ⟨by omega, by omega⟩).symm | exact (if_neg (fun q => by dsimp only at q; omega)).symm⟩
          · skip
            refine z_iconst hx hb dX4_firstWrong_57 ?_
            refine lv_goto (tgt := 62) hx hb dX4_firstWrong_58 (by decide) ?_
            subst hQ
            refine z_iret (z := (-1)) hx hb hr hlocks dX4_firstWrong_62 (esa, eua, era, eba, eda, ewa) hK hS ⟨by omega, by omega⟩ hP hD ?_
            rw [show i = len by omega] at hrn
            exact Or.inr ⟨w, hrn, hww, by first | exact (if_pos ⟨by omega, by omega⟩).symm | exact (if_neg (fun q => by dsimp only at q; omega)).symm⟩
      · skip
        refine lv_aload_n hx hb dX4_firstWrong_17 rfl (lv_at hl 1 rfl) ?_
        refine lv_aload_n hx hb dX4_firstWrong_18 rfl (lv_at hl 2 rfl) ?_
        refine lv_iload_n hx hb dX4_firstWrong_19 rfl (lv_at hl 0 rfl) ?_
        refine z_cald hx hb hK hP 2 2 rfl rfl (i := i) (by omega) (by decide) dX4_firstWrong_20 ?_
        have f_2 := htx i (by omega) (by omega)
        refine g_callVi (own := RX4) (n := 1) (mc := 0) (ms := 0) (As := [vI (tx i)]) (rest := []) (wc := [kO e0 4 [vI n, .ref e1, vI esa, vI eua, vI era, vI eba, vI eda], kI cI e1 8 ewa]) (wr := [kI cC t0 40 tx]) hx hb hml hown hts hK hP hD hS hA [0, 1] [2] rfl rfl (by decide) (by decide) 4 0 rfl rfl (c_X4_takes l dd cI cJ cC cS e0 e1 n esa eua era eba eda ewa (tx i) H.size  (by first | assumption | omega) (by first | assumption | omega) (by first | assumption | omega) (by first | assumption | (intro j h0 h1; omega)) (by first | assumption | omega) (by first | assumption | omega)) gX4_firstWrong_X4_takes rfl (by decide +kernel) (by decide) (by decide) (by decide) (by decide) rfl hl.1 rfl (Nat.le_of_ble_eq_true rfl) dX4_firstWrong_21 (fun z_3 u_4 H locs hp21 hP hD hS => ?_)
        obtain ⟨es1_5, eu1_6, er1_7, eb1_8, ed1_9, ew1_10⟩ := u_4
        try dsimp only at hp21
        rcases hp21 with ⟨hp21_0, hp21_1, hp21_2, hp21_3, hp21_4, hp21_z, hp21_o0, hp21_o1, hp21_o2, hp21_o3, hp21_o4, hp21_o5⟩ | ⟨hp21_0, hp21_1, hp21_z, hp21_o0, hp21_o1, hp21_o2, hp21_o3, hp21_o4, hp21_o5⟩ | ⟨hp21_0, hp21_1, hp21_z, hp21_o0, hp21_o1, hp21_o2, hp21_o3, hp21_o4, hp21_o5⟩ | ⟨hp21_0, hp21_1, hp21_2, hp21_z, hp21_o0, hp21_o1, hp21_o2, hp21_o3, hp21_o4, hp21_o5⟩ | ⟨hp21_0, hp21_1, hp21_2, hp21_z, hp21_o0, hp21_o1, hp21_o2, hp21_o3, hp21_o4, hp21_o5⟩
        · skip
          subst z_3 es1_5 eu1_6 er1_7 eb1_8 ed1_9 ew1_10
          have hP : va_P dd vwCl [kI cC t0 40 tx, kO e0 4 [vI n, .ref e1, vI (esa + (eua - era)), vI (eua + 1), vI era, vI ((tx i) - 48), vI 0], kI cI e1 8 (uZ ewa ((tx i) - 48) era)] H := hP
          have hD : va_D A [kI cC t0 40 tx, kO e0 4 [vI n, .ref e1, vI (esa + (eua - era)), vI (eua + 1), vI era, vI ((tx i) - 48), vI 0], kI cI e1 8 (uZ ewa ((tx i) - 48) era)] := hD
          refine z_if_ne (tgt := 29) hx hb dX4_firstWrong_24 (by decide) (by omega) (fun c24 => ?_) (fun c24 => ?_)
          · skip
            refine z_iinc (a := i) (z := (i + 1)) (lv' := [(3, vI (i + 1)), (0, .ref e0), (1, .ref t0), (2, vI len)]) hx hb dX4_firstWrong_29 hl (k := 0) rfl rfl (by decide) rfl (fun ls hl => ?_)
            refine lv_goto (tgt := 6) hx hb dX4_firstWrong_32 (by decide) ?_
            exact L6i _ (by omega) (i + 1) (esa + (eua - era)) (eua + 1) era ((tx i) - 48) 0 (uZ ewa ((tx i) - 48) era) (uZ w (tx i - 48) era) H locs ls rfl (by omega) (by rw [rrun_s (by omega) hrn, rst_lab hp21_0 ⟨hp21_1, hp21_2, by rw [← hww _ hp21_1 hp21_2]; exact hp21_3, hp21_4⟩]) (fun j h0 h1 => by
              unfold uZ
              rw [hww j h0 h1]) (by omega) (by omega) (by omega) (by omega) (fun j h0 h1 => by
              have := hewa j h0 h1
              unfold uZ
              split <;> omega) (hP.sub [1, 2, 0] rfl) (hD.sub [1, 2, 0] (by decide) rfl) hS hl
          · exact absurd c24 (by omega)
        · skip
          subst z_3 es1_5 eu1_6 er1_7 eb1_8 ed1_9 ew1_10
          have hP : va_P dd vwCl [kI cC t0 40 tx, kO e0 4 [vI n, .ref e1, vI esa, vI eua, vI era, vI eba, vI eda], kI cI e1 8 ewa] H := hP
          have hD : va_D A [kI cC t0 40 tx, kO e0 4 [vI n, .ref e1, vI esa, vI eua, vI era, vI eba, vI eda], kI cI e1 8 ewa] := hD
          refine z_if_ne (tgt := 29) hx hb dX4_firstWrong_24 (by decide) (by omega) (fun c24 => ?_) (fun c24 => ?_)
          · exact absurd c24 (by omega)
          · skip
            refine lv_iload_n hx hb dX4_firstWrong_27 rfl (lv_at hl 0 rfl) ?_
            subst hQ
            refine z_iret (z := i) hx hb hr hlocks dX4_firstWrong_28 (esa, eua, era, eba, eda, ewa) hK hS ⟨by omega, by omega⟩ (hP.sub [1, 2, 0] rfl) (hD.sub [1, 2, 0] (by decide) rfl) ?_
            exact Or.inl ⟨i, by omega, by omega, ⟨_, hrn⟩, by rw [rrun_s (by omega) hrn, rst_labn hp21_0 (fun q => hp21_1 ⟨q.1, q.2.1, by rw [hww _ q.1 q.2.1]; exact q.2.2.1, q.2.2.2⟩)], rfl⟩
        · skip
          subst z_3 es1_5 eu1_6 er1_7 eb1_8 ed1_9 ew1_10
          have hP : va_P dd vwCl [kI cC t0 40 tx, kO e0 4 [vI n, .ref e1, vI esa, vI eua, vI era, vI eba, vI 1], kI cI e1 8 ewa] H := hP
          have hD : va_D A [kI cC t0 40 tx, kO e0 4 [vI n, .ref e1, vI esa, vI eua, vI era, vI eba, vI 1], kI cI e1 8 ewa] := hD
          refine z_if_ne (tgt := 29) hx hb dX4_firstWrong_24 (by decide) (by omega) (fun c24 => ?_) (fun c24 => ?_)
          · skip
            refine z_iinc (a := i) (z := (i + 1)) (lv' := [(3, vI (i + 1)), (0, .ref e0), (1, .ref t0), (2, vI len)]) hx hb dX4_firstWrong_29 hl (k := 0) rfl rfl (by decide) rfl (fun ls hl => ?_)
            refine lv_goto (tgt := 6) hx hb dX4_firstWrong_32 (by decide) ?_
            exact L6i _ (by omega) (i + 1) esa eua era eba 1 ewa w H locs ls rfl (by omega) (by rw [rrun_s (by omega) hrn, rst_N hp21_0 hp21_1]) (hww) (by omega) (by omega) (by omega) (by omega) (hewa) (hP.sub [1, 2, 0] rfl) (hD.sub [1, 2, 0] (by decide) rfl) hS hl
          · exact absurd c24 (by omega)
        · skip
          subst z_3 es1_5 eu1_6 er1_7 eb1_8 ed1_9 ew1_10
          have hP : va_P dd vwCl [kI cC t0 40 tx, kO e0 4 [vI n, .ref e1, vI esa, vI eua, vI (era + 1), vI (-1), vI eda], kI cI e1 8 ewa] H := hP
          have hD : va_D A [kI cC t0 40 tx, kO e0 4 [vI n, .ref e1, vI esa, vI eua, vI (era + 1), vI (-1), vI eda], kI cI e1 8 ewa] := hD
          refine z_if_ne (tgt := 29) hx hb dX4_firstWrong_24 (by decide) (by omega) (fun c24 => ?_) (fun c24 => ?_)
          · skip
            refine z_iinc (a := i) (z := (i + 1)) (lv' := [(3, vI (i + 1)), (0, .ref e0), (1, .ref t0), (2, vI len)]) hx hb dX4_firstWrong_29 hl (k := 0) rfl rfl (by decide) rfl (fun ls hl => ?_)
            refine lv_goto (tgt := 6) hx hb dX4_firstWrong_32 (by decide) ?_
            exact L6i _ (by omega) (i + 1) esa eua (era + 1) (-1) eda ewa w H locs ls rfl (by omega) (by rw [rrun_s (by omega) hrn, rst_E hp21_0 hp21_1 hp21_2, hp21_0]) (hww) (by omega) (by omega) (by omega) (by omega) (hewa) (hP.sub [1, 2, 0] rfl) (hD.sub [1, 2, 0] (by decide) rfl) hS hl
          · exact absurd c24 (by omega)
        · skip
          subst z_3 es1_5 eu1_6 er1_7 eb1_8 ed1_9 ew1_10
          have hP : va_P dd vwCl [kI cC t0 40 tx, kO e0 4 [vI n, .ref e1, vI esa, vI eua, vI era, vI eba, vI eda], kI cI e1 8 ewa] H := hP
          have hD : va_D A [kI cC t0 40 tx, kO e0 4 [vI n, .ref e1, vI esa, vI eua, vI era, vI eba, vI eda], kI cI e1 8 ewa] := hD
          refine z_if_ne (tgt := 29) hx hb dX4_firstWrong_24 (by decide) (by omega) (fun c24 => ?_) (fun c24 => ?_)
          · exact absurd c24 (by omega)
          · skip
            refine lv_iload_n hx hb dX4_firstWrong_27 rfl (lv_at hl 0 rfl) ?_
            subst hQ
            refine z_iret (z := i) hx hb hr hlocks dX4_firstWrong_28 (esa, eua, era, eba, eda, ewa) hK hS ⟨by omega, by omega⟩ (hP.sub [1, 2, 0] rfl) (hD.sub [1, 2, 0] (by decide) rfl) ?_
            exact Or.inl ⟨i, by omega, by omega, ⟨_, hrn⟩, by rw [rrun_s (by omega) hrn, rst_no hp21_0 hp21_1 hp21_2], rfl⟩
  exact L6 _ 0 0 0 0 (-1) 0 (cpZ (kZ (-1)) ew n) (kZ (-1)) H locs ls rfl (by omega) (rfl) (fun j h0 h1 => if_pos h1) (by omega) (by omega) (by omega) (by omega) (fun j h0 h1 => by rw [show cpZ (kZ (-1)) ew n j = -1 from if_pos h1]; omega) (hP.sub [1, 2, 0] rfl) (hD.sub [1, 2, 0] (by decide) rfl) hS hl

