/-- how many of the first wishes lie below x -/
def cntB (wi : Int → Int) (x : Int) : Nat → Int
  | 0 => 0
  | k + 1 => cntB wi x k + (if wi (k : Int) < x then 1 else 0)
theorem cntB_s {wi : Int → Int} {x i : Int} (h : 0 ≤ i) : cntB wi x (i + 1).toNat = cntB wi x i.toNat + (if wi i < x then 1 else 0) := by
  obtain ⟨j, rfl⟩ := Int.eq_ofNat_of_zero_le h
  have e : ((j : Int) + 1).toNat = j + 1 := by omega
  rw [e, Int.toNat_natCast]
  rfl
theorem cntB_rg (wi : Int → Int) (x : Int) : ∀ k : Nat, 0 ≤ cntB wi x k ∧ cntB wi x k ≤ k
  | 0 => ⟨Int.le_refl _, Int.le_refl _⟩
  | k + 1 => by
    have := cntB_rg wi x k
    show 0 ≤ cntB wi x k + _ ∧ cntB wi x k + _ ≤ _
    split <;> omega
/-- the list stands by rule 0 with one car a space -/
def stdB (wi : Int → Int) (ct n : Int) : Prop := ct = n ∧ ∀ j : Int, 1 ≤ j → j ≤ n → j ≤ cntB wi j ct.toNat
noncomputable def stdZ (wi : Int → Int) (ct n : Int) : Int := @ite Int (stdB wi ct n) (Classical.propDecidable _) 1 0
theorem stdZ_1 {wi : Int → Int} {ct n : Int} (h : stdB wi ct n) : stdZ wi ct n = 1 := if_pos h
theorem stdZ_0 {wi : Int → Int} {ct n : Int} (h : ¬ stdB wi ct n) : stdZ wi ct n = 0 := if_neg h
theorem stdZ_or (wi : Int → Int) (ct n : Int) : stdZ wi ct n = 0 ∨ stdZ wi ct n = 1 := by
  by_cases h : stdB wi ct n
  · exact Or.inr (stdZ_1 h)
  · exact Or.inl (stdZ_0 h)
theorem stdZ_iff {wi : Int → Int} {ct n : Int} : stdZ wi ct n = 1 ↔ stdB wi ct n := by
  by_cases h : stdB wi ct n
  · simp [stdZ_1 h, h]
  · simp [stdZ_0 h, h]

set_option maxHeartbeats 4000000 in
set_option maxRecDepth 100000 in
theorem c_X5_ruleNumber (l : Launch) (dd : va_G) (cI cJ cC cS : ClassId) (q0 q1 q2 : Nat) (cap wi : Int → Int) (ct ru re : Int) (sz : Nat)  : gMi l yX5_ruleNumber wsX5_ruleNumber 1 0 0 dd cI cJ cC cS [.ref q0] [kO q0 5 [.ref q1, .ref q2, vI ct, vI ru, vI re], kI cI q1 8 cap, kI cI q2 9 wi] sz (fun (z : Int) (_ : Unit) => z = 10 * ru + re) (fun (_ : Unit) => [kO q0 5 [.ref q1, .ref q2, vI ct, vI ru, vI re], kI cI q1 8 cap, kI cI q2 9 wi]) := by
  refine gMi_of (cc := cX5_ruleNumber) (maxL := 1) (ret := (some .int)) (by decide) rfl (Nat.le_of_ble_eq_true rfl) ?_
  intro p e s m args below meth c A Q hQ hx hb hr hts hown hlocks hnm hml H locs hP hK hD hA hS ls hl
  have hi5 : ∀ w ∈ wsX50, w ∈ wsX5_ruleNumber := fun _ h => (List.mem_cons_of_mem _ (List.mem_append_right _ h))
  have hl : lv_has ls 1 [(0, .ref q0)] := hl
  refine z_bipush hx hb dX5_ruleNumber_0 (by decide +kernel) ?_
  refine lv_aload_n hx hb dX5_ruleNumber_2 rfl (lv_at hl 0 rfl) ?_
  refine va_get (D := dd) (ci := 5) (v := vI ru) (C := RX5) (T := TX5) (N := 5) hx hb hts hi5 hown hK hP 0 rfl rfl 3 (by decide) (hts _ (List.mem_cons_of_mem _ (List.mem_append_left _ (List.mem_of_getElem? (i := 0) rfl)))) (fun _ h9 => h9) rfl dX5_ruleNumber_3 ?_
  refine z_imul (z := (10 * ru)) hx hb rfl dX5_ruleNumber_6 ?_
  refine lv_aload_n hx hb dX5_ruleNumber_7 rfl (lv_at hl 0 rfl) ?_
  refine va_get (D := dd) (ci := 5) (v := vI re) (C := RX5) (T := TX5) (N := 5) hx hb hts hi5 hown hK hP 0 rfl rfl 4 (by decide) (hts _ (List.mem_cons_of_mem _ (List.mem_append_left _ (List.mem_of_getElem? (i := 1) rfl)))) (fun _ h9 => h9) rfl dX5_ruleNumber_8 ?_
  refine z_iadd (z := ((10 * ru) + re)) hx hb rfl dX5_ruleNumber_11 ?_
  subst hQ
  refine z_iret (z := ((10 * ru) + re)) hx hb hr hlocks dX5_ruleNumber_12 () hK hS ⟨by omega, by omega⟩ hP hD ?_
  first | rfl | trivial | omega

set_option maxHeartbeats 4000000 in
set_option maxRecDepth 100000 in
theorem c_X5_countOfWishesBelow (l : Launch) (dd : va_G) (cI cJ cC cS : ClassId) (q0 q1 q2 : Nat) (cap wi : Int → Int) (ct ru re : Int) (x : Int) (sz : Nat) (hct : 0 ≤ ct ∧ ct ≤ 9) (hwi : ∀ j : Int, 0 ≤ j → j < ct → -1 ≤ wi j ∧ wi j ≤ 8) (hx0 : -100 ≤ x ∧ x ≤ 100) : gMi l yX5_countOfWishesBelow wsX5_countOfWishesBelow 1 0 0 dd cI cJ cC cS [.ref q0, vI x] [kO q0 5 [.ref q1, .ref q2, vI ct, vI ru, vI re], kI cI q1 8 cap, kI cI q2 9 wi] sz (fun (z : Int) (_ : Unit) => z = cntB wi x ct.toNat) (fun (_ : Unit) => [kO q0 5 [.ref q1, .ref q2, vI ct, vI ru, vI re], kI cI q1 8 cap, kI cI q2 9 wi]) := by
  refine gMi_of (cc := cX5_countOfWishesBelow) (maxL := 4) (ret := (some .int)) (by decide) rfl (Nat.le_of_ble_eq_true rfl) ?_
  intro p e s m args below meth c A Q hQ hx hb hr hts hown hlocks hnm hml H locs hP hK hD hA hS ls hl
  have hi5 : ∀ w ∈ wsX50, w ∈ wsX5_countOfWishesBelow := fun _ h => (List.mem_cons_of_mem _ (List.mem_append_right _ h))
  have hl : lv_has ls 4 [(0, .ref q0), (1, vI x)] := hl
  refine z_iconst hx hb dX5_countOfWishesBelow_0 ?_
  refine lv_istore_n (lv' := [(2, vI 0), (0, .ref q0), (1, vI x)]) hx hb dX5_countOfWishesBelow_1 rfl hl (by decide) rfl (fun ls hl => ?_)
  refine z_iconst hx hb dX5_countOfWishesBelow_2 ?_
  refine lv_istore_n (lv' := [(3, vI 0), (2, vI 0), (0, .ref q0), (1, vI x)]) hx hb dX5_countOfWishesBelow_3 rfl hl (by decide) rfl (fun ls hl => ?_)
  have L4 : ∀ (nn : Nat) (i : Int) (b : Int) (H : Heap) (locs : List Loc) (ls : Array Slot), ((ct + 1 - i).toNat) = nn → (0 ≤ i ∧ i ≤ ct) → (b = cntB wi x i.toNat) → va_P dd vwCl [kO q0 5 [.ref q1, .ref q2, vI ct, vI ru, vI re], kI cI q1 8 cap, kI cI q2 9 wi] H → va_D A [kO q0 5 [.ref q1, .ref q2, vI ct, vI ru, vI re], kI cI q1 8 cap, kI cI q2 9 wi] → va_S A s.heap H locs → lv_has ls 4 [(2, vI b), (3, vI i), (0, .ref q0), (1, vI x)] → W p l e (gR 1 0 0) s m args below meth c H locs 0 0 Q (F0 m 4 ls []) := by
    intro nn
    induction nn using Nat.strongRecOn with
    | ind nn L4i =>
    intro i b H locs ls hmeas hi hbb hP hD hS hl
    refine lv_iload_n hx hb dX5_countOfWishesBelow_4 rfl (lv_at hl 1 rfl) ?_
    refine lv_aload_n hx hb dX5_countOfWishesBelow_5 rfl (lv_at hl 2 rfl) ?_
    refine va_get (D := dd) (ci := 5) (v := vI ct) (C := RX5) (T := TX5) (N := 5) hx hb hts hi5 hown hK hP 0 rfl rfl 2 (by decide) (hts _ (List.mem_cons_of_mem _ (List.mem_append_left _ (List.mem_of_getElem? (i := 0) rfl)))) (fun _ h9 => h9) rfl dX5_countOfWishesBelow_6 ?_
    refine z_icmp_ge (tgt := 31) hx hb dX5_countOfWishesBelow_9 (by decide) (by omega) (fun c9 => ?_) (fun c9 => ?_)
    · skip
      refine lv_iload_n hx hb dX5_countOfWishesBelow_31 rfl (lv_at hl 0 rfl) ?_
      subst hQ
      refine z_iret (z := b) hx hb hr hlocks dX5_countOfWishesBelow_32 () hK hS ⟨by omega, by omega⟩ hP hD ?_
      rw [hbb, show i = ct by omega]
    · skip
      refine lv_aload_n hx hb dX5_countOfWishesBelow_12 rfl (lv_at hl 2 rfl) ?_
      refine va_get (D := dd) (ci := 5) (v := .ref q2) (C := RX5) (T := TX5) (N := 5) hx hb hts hi5 hown hK hP 0 rfl rfl 1 (by decide) (hts _ (List.mem_cons_of_mem _ (List.mem_append_left _ (List.mem_of_getElem? (i := 1) rfl)))) (fun _ h9 => h9) rfl dX5_countOfWishesBelow_13 ?_
      refine lv_iload_n hx hb dX5_countOfWishesBelow_16 rfl (lv_at hl 1 rfl) ?_
      refine z_iald hx hb hK hP 2 0 rfl rfl (i := i) (by omega) (by decide) dX5_countOfWishesBelow_17 ?_
      have f_1 := hwi i (by omega) (by omega)
      refine lv_iload_n hx hb dX5_countOfWishesBelow_18 rfl (lv_at hl 3 rfl) ?_
      refine z_icmp_ge (tgt := 25) hx hb dX5_countOfWishesBelow_19 (by decide) (by omega) (fun c19 => ?_) (fun c19 => ?_)
      · skip
        refine z_iinc (a := i) (z := (i + 1)) (lv' := [(3, vI (i + 1)), (2, vI b), (0, .ref q0), (1, vI x)]) hx hb dX5_countOfWishesBelow_25 hl (k := 1) rfl rfl (by decide) rfl (fun ls hl => ?_)
        refine lv_goto (tgt := 4) hx hb dX5_countOfWishesBelow_28 (by decide) ?_
        exact L4i _ (by omega) (i + 1) b H locs ls rfl (by omega) (by first | rfl | (rw [cntB_s (by omega)]; split <;> omega)) hP hD hS (lv_sub hl [1, 0, 2, 3] rfl)
      · skip
        refine z_iinc (a := b) (z := (b + 1)) (lv' := [(2, vI (b + 1)), (3, vI i), (0, .ref q0), (1, vI x)]) hx hb dX5_countOfWishesBelow_22 hl (k := 0) rfl rfl (by decide) rfl (fun ls hl => ?_)
        refine z_iinc (a := i) (z := (i + 1)) (lv' := [(3, vI (i + 1)), (2, vI (b + 1)), (0, .ref q0), (1, vI x)]) hx hb dX5_countOfWishesBelow_25 hl (k := 1) rfl rfl (by decide) rfl (fun ls hl => ?_)
        refine lv_goto (tgt := 4) hx hb dX5_countOfWishesBelow_28 (by decide) ?_
        exact L4i _ (by omega) (i + 1) (b + 1) H locs ls rfl (by omega) (by first | rfl | (rw [cntB_s (by omega)]; split <;> omega)) hP hD hS (lv_sub hl [1, 0, 2, 3] rfl)
  exact L4 _ 0 0 H locs ls rfl (by omega) (by first | rfl | (rw [cntB_s (by omega)]; split <;> omega)) hP hD hS (lv_sub hl [1, 0, 2, 3] rfl)

set_option maxHeartbeats 4000000 in
set_option maxRecDepth 100000 in
theorem c_X5_countOfWishes (l : Launch) (dd : va_G) (cI cJ cC cS : ClassId) (q0 q1 q2 : Nat) (cap wi : Int → Int) (ct ru re : Int) (x : Int) (sz : Nat) (hct : 0 ≤ ct ∧ ct ≤ 9) (hwi : ∀ j : Int, 0 ≤ j → j < ct → -1 ≤ wi j ∧ wi j ≤ 8) (hx0 : -50 ≤ x ∧ x ≤ 50) : gMi l yX5_countOfWishes wsX5_countOfWishes 2 0 0 dd cI cJ cC cS [.ref q0, vI x] [kO q0 5 [.ref q1, .ref q2, vI ct, vI ru, vI re], kI cI q1 8 cap, kI cI q2 9 wi] sz (fun (z : Int) (_ : Unit) => z = cntB wi (x + 1) ct.toNat - cntB wi x ct.toNat) (fun (_ : Unit) => [kO q0 5 [.ref q1, .ref q2, vI ct, vI ru, vI re], kI cI q1 8 cap, kI cI q2 9 wi]) := by
  refine gMi_of (cc := cX5_countOfWishes) (maxL := 2) (ret := (some .int)) (by decide) rfl (Nat.le_of_ble_eq_true rfl) ?_
  intro p e s m args below meth c A Q hQ hx hb hr hts hown hlocks hnm hml H locs hP hK hD hA hS ls hl
  have hl : lv_has ls 2 [(0, .ref q0), (1, vI x)] := hl
  refine lv_aload_n hx hb dX5_countOfWishes_0 rfl (lv_at hl 0 rfl) ?_
  refine lv_iload_n hx hb dX5_countOfWishes_1 rfl (lv_at hl 1 rfl) ?_
  refine z_iconst hx hb dX5_countOfWishes_2 ?_
  refine z_iadd (z := (x + 1)) hx hb rfl dX5_countOfWishes_3 ?_
  refine g_callVi (own := RX5) (n := 1) (mc := 0) (ms := 0) (As := [vI (x + 1)]) (rest := []) (wc := [kO q0 5 [.ref q1, .ref q2, vI ct, vI ru, vI re], kI cI q1 8 cap, kI cI q2 9 wi]) (wr := []) hx hb hml hown hts hK hP hD hS hA [0, 1, 2] [] rfl rfl (by decide) (by decide) 5 0 rfl rfl (c_X5_countOfWishesBelow l dd cI cJ cC cS q0 q1 q2 cap wi ct ru re (x + 1) H.size  (by first | assumption | omega) (by first | assumption | (intro j h0 h1; omega)) (by first | assumption | omega)) gX5_countOfWishes_X5_countOfWishesBelow rfl (by decide +kernel) (by decide) (by decide) (by decide) (by decide) rfl hl.1 rfl (Nat.le_of_ble_eq_true rfl) dX5_countOfWishes_4 (fun z_1 u_2 H locs hp4 hP hD hS => ?_)
  subst z_1
  have hP : va_P dd vwCl [kO q0 5 [.ref q1, .ref q2, vI ct, vI ru, vI re], kI cI q1 8 cap, kI cI q2 9 wi] H := hP
  have hD : va_D A [kO q0 5 [.ref q1, .ref q2, vI ct, vI ru, vI re], kI cI q1 8 cap, kI cI q2 9 wi] := hD
  refine lv_aload_n hx hb dX5_countOfWishes_7 rfl (lv_at hl 0 rfl) ?_
  refine lv_iload_n hx hb dX5_countOfWishes_8 rfl (lv_at hl 1 rfl) ?_
  refine g_callVi (own := RX5) (n := 1) (mc := 0) (ms := 0) (As := [vI x]) (rest := [vI (cntB wi (x + 1) ct.toNat)]) (wc := [kO q0 5 [.ref q1, .ref q2, vI ct, vI ru, vI re], kI cI q1 8 cap, kI cI q2 9 wi]) (wr := []) hx hb hml hown hts hK hP hD hS hA [0, 1, 2] [] rfl rfl (by decide) (by decide) 5 0 rfl rfl (c_X5_countOfWishesBelow l dd cI cJ cC cS q0 q1 q2 cap wi ct ru re x H.size  (by first | assumption | omega) (by first | assumption | (intro j h0 h1; omega)) (by first | assumption | omega)) gX5_countOfWishes_X5_countOfWishesBelow rfl (by decide +kernel) (by decide) (by decide) (by decide) (by decide) rfl hl.1 rfl (Nat.le_of_ble_eq_true rfl) dX5_countOfWishes_9 (fun z_3 u_4 H locs hp9 hP hD hS => ?_)
  subst z_3
  have hP : va_P dd vwCl [kO q0 5 [.ref q1, .ref q2, vI ct, vI ru, vI re], kI cI q1 8 cap, kI cI q2 9 wi] H := hP
  have hD : va_D A [kO q0 5 [.ref q1, .ref q2, vI ct, vI ru, vI re], kI cI q1 8 cap, kI cI q2 9 wi] := hD
  refine z_isub (z := (cntB wi (x + 1) ct.toNat - cntB wi x ct.toNat)) hx hb rfl dX5_countOfWishes_12 ?_
  subst hQ
  refine z_iret (z := (cntB wi (x + 1) ct.toNat - cntB wi x ct.toNat)) hx hb hr hlocks dX5_countOfWishes_13 () hK hS ⟨by omega, by omega⟩ hP hD ?_
  first | rfl | trivial | omega

set_option maxHeartbeats 4000000 in
set_option maxRecDepth 100000 in
theorem c_X5_isStandardFor (l : Launch) (dd : va_G) (cI cJ cC cS : ClassId) (q0 q1 q2 : Nat) (cap wi : Int → Int) (ct ru re : Int) (n : Int) (sz : Nat) (hct : 0 ≤ ct ∧ ct ≤ 9) (hwi : ∀ j : Int, 0 ≤ j → j < ct → -1 ≤ wi j ∧ wi j ≤ 8) (hn : 1 ≤ n ∧ n ≤ 8) : gMi l yX5_isStandardFor wsX5_isStandardFor 2 0 0 dd cI cJ cC cS [.ref q0, vI n] [kO q0 5 [.ref q1, .ref q2, vI ct, vI ru, vI re], kI cI q1 8 cap, kI cI q2 9 wi] sz (fun (z : Int) (_ : Unit) => z = stdZ wi ct n) (fun (_ : Unit) => [kO q0 5 [.ref q1, .ref q2, vI ct, vI ru, vI re], kI cI q1 8 cap, kI cI q2 9 wi]) := by
  refine gMi_of (cc := cX5_isStandardFor) (maxL := 3) (ret := (some .boolean)) (by decide) rfl (Nat.le_of_ble_eq_true rfl) ?_
  intro p e s m args below meth c A Q hQ hx hb hr hts hown hlocks hnm hml H locs hP hK hD hA hS ls hl
  have hi5 : ∀ w ∈ wsX50, w ∈ wsX5_isStandardFor := fun _ h => (List.mem_cons_of_mem _ (List.mem_append_right _ h))
  have hl : lv_has ls 3 [(0, .ref q0), (1, vI n)] := hl
  refine lv_aload_n hx hb dX5_isStandardFor_0 rfl (lv_at hl 0 rfl) ?_
  refine va_get (D := dd) (ci := 5) (v := vI ct) (C := RX5) (T := TX5) (N := 5) hx hb hts hi5 hown hK hP 0 rfl rfl 2 (by decide) (hts _ (List.mem_cons_of_mem _ (List.mem_append_left _ (List.mem_of_getElem? (i := 0) rfl)))) (fun _ h9 => h9) rfl dX5_isStandardFor_1 ?_
  refine lv_iload_n hx hb dX5_isStandardFor_4 rfl (lv_at hl 1 rfl) ?_
  refine z_icmp_eq (tgt := 10) hx hb dX5_isStandardFor_5 (by decide) (by omega) (fun c5 => ?_) (fun c5 => ?_)
  · skip
    refine z_iconst hx hb dX5_isStandardFor_10 ?_
    refine lv_istore_n (lv' := [(2, vI 1), (0, .ref q0), (1, vI n)]) hx hb dX5_isStandardFor_11 rfl hl (by decide) rfl (fun ls hl => ?_)
    have L12 : ∀ (nn : Nat) (j : Int) (H : Heap) (locs : List Loc) (ls : Array Slot), ((n + 2 - j).toNat) = nn → (1 ≤ j ∧ j ≤ n + 1) → (ct = n) → (∀ i : Int, 1 ≤ i → i < j → i ≤ cntB wi i ct.toNat) → va_P dd vwCl [kO q0 5 [.ref q1, .ref q2, vI ct, vI ru, vI re], kI cI q1 8 cap, kI cI q2 9 wi] H → va_D A [kO q0 5 [.ref q1, .ref q2, vI ct, vI ru, vI re], kI cI q1 8 cap, kI cI q2 9 wi] → va_S A s.heap H locs → lv_has ls 3 [(2, vI j), (0, .ref q0), (1, vI n)] → W p l e (gR 2 0 0) s m args below meth c H locs 0 0 Q (F0 m 12 ls []) := by
      intro nn
      induction nn using Nat.strongRecOn with
      | ind nn L12i =>
      intro j H locs ls hmeas hj hcn hall hP hD hS hl
      refine lv_iload_n hx hb dX5_isStandardFor_12 rfl (lv_at hl 0 rfl) ?_
      refine lv_iload_n hx hb dX5_isStandardFor_13 rfl (lv_at hl 2 rfl) ?_
      refine z_icmp_gt (tgt := 34) hx hb dX5_isStandardFor_14 (by decide) (by omega) (fun c14 => ?_) (fun c14 => ?_)
      · skip
        refine z_iconst hx hb dX5_isStandardFor_34 ?_
        subst hQ
        refine z_zret (z := 1) hx hb hr hlocks dX5_isStandardFor_35 (by omega) () hK hS ⟨by omega, by omega⟩ hP hD ?_
        exact (stdZ_1 ⟨hcn, fun i h1 h2 => hall i h1 (by omega)⟩).symm
      · skip
        refine lv_aload_n hx hb dX5_isStandardFor_17 rfl (lv_at hl 1 rfl) ?_
        refine lv_iload_n hx hb dX5_isStandardFor_18 rfl (lv_at hl 0 rfl) ?_
        refine g_callVi (own := RX5) (n := 1) (mc := 0) (ms := 0) (As := [vI j]) (rest := []) (wc := [kO q0 5 [.ref q1, .ref q2, vI ct, vI ru, vI re], kI cI q1 8 cap, kI cI q2 9 wi]) (wr := []) hx hb hml hown hts hK hP hD hS hA [0, 1, 2] [] rfl rfl (by decide) (by decide) 5 0 rfl rfl (c_X5_countOfWishesBelow l dd cI cJ cC cS q0 q1 q2 cap wi ct ru re j H.size  (by first | assumption | omega) (by first | assumption | (intro j h0 h1; omega)) (by first | assumption | omega)) gX5_isStandardFor_X5_countOfWishesBelow rfl (by decide +kernel) (by decide) (by decide) (by decide) (by decide) rfl hl.1 rfl (Nat.le_of_ble_eq_true rfl) dX5_isStandardFor_19 (fun z_1 u_2 H locs hp19 hP hD hS => ?_)
        subst z_1
        have hP : va_P dd vwCl [kO q0 5 [.ref q1, .ref q2, vI ct, vI ru, vI re], kI cI q1 8 cap, kI cI q2 9 wi] H := hP
        have hD : va_D A [kO q0 5 [.ref q1, .ref q2, vI ct, vI ru, vI re], kI cI q1 8 cap, kI cI q2 9 wi] := hD
        have hcr := cntB_rg wi j ct.toNat
        refine lv_iload_n hx hb dX5_isStandardFor_22 rfl (lv_at hl 0 rfl) ?_
        refine z_icmp_ge (tgt := 28) hx hb dX5_isStandardFor_23 (by decide) (by omega) (fun c23 => ?_) (fun c23 => ?_)
        · skip
          refine z_iinc (a := j) (z := (j + 1)) (lv' := [(2, vI (j + 1)), (0, .ref q0), (1, vI n)]) hx hb dX5_isStandardFor_28 hl (k := 0) rfl rfl (by decide) rfl (fun ls hl => ?_)
          refine lv_goto (tgt := 12) hx hb dX5_isStandardFor_31 (by decide) ?_
          exact L12i _ (by omega) (j + 1) H locs ls rfl (by omega) (by omega) (by
            intro i h1 h2
            by_cases e : i = j
            · subst e; omega
            · exact hall i h1 (by omega)) hP hD hS hl
        · skip
          refine z_iconst hx hb dX5_isStandardFor_26 ?_
          subst hQ
          refine z_zret (z := 0) hx hb hr hlocks dX5_isStandardFor_27 (by omega) () hK hS ⟨by omega, by omega⟩ hP hD ?_
          exact (stdZ_0 (fun h => absurd (h.2 j (by omega) (by omega)) (by omega))).symm
    exact L12 _ 1 H locs ls rfl (by omega) (by omega) (fun i h1 h2 => absurd h1 (by omega)) hP hD hS hl
  · skip
    refine z_iconst hx hb dX5_isStandardFor_8 ?_
    subst hQ
    refine z_zret (z := 0) hx hb hr hlocks dX5_isStandardFor_9 (by omega) () hK hS ⟨by omega, by omega⟩ hP hD ?_
    exact (stdZ_0 (fun h => absurd h.1 (by omega))).symm

set_option maxHeartbeats 4000000 in
set_option maxRecDepth 100000 in
theorem c_X5_copyFrom (l : Launch) (dd : va_G) (cI cJ cC cS : ClassId) (q0 q1 q2 r0 r1 r2 : Nat) (cap wi cap2 wi2 : Int → Int) (ct ru re ct2 ru2 re2 : Int) (sz : Nat)  : gMv l yX5_copyFrom wsX5_copyFrom 1 0 0 dd cI cJ cC cS [.ref q0, .ref r0] [kO q0 5 [.ref q1, .ref q2, vI ct, vI ru, vI re], kI cI q1 8 cap, kI cI q2 9 wi, kO r0 5 [.ref r1, .ref r2, vI ct2, vI ru2, vI re2], kI cI r1 8 cap2, kI cI r2 9 wi2] sz (fun (_ : Unit) => True) (fun (_ : Unit) => [kO q0 5 [.ref q1, .ref q2, vI ct2, vI ru2, vI re2], kI cI q1 8 (cpZ cap2 cap 8), kI cI q2 9 (cpZ wi2 wi 9), kO r0 5 [.ref r1, .ref r2, vI ct2, vI ru2, vI re2], kI cI r1 8 cap2, kI cI r2 9 wi2]) := by
  refine gMv_of (cc := cX5_copyFrom) (maxL := 2) (ret := none) (by decide) rfl (Nat.le_of_ble_eq_true rfl) ?_
  intro p e s m args below meth c A Q hQ hx hb hr hts hown hlocks hnm hml H locs hP hK hD hA hS ls hl
  have hi5 : ∀ w ∈ wsX50, w ∈ wsX5_copyFrom := fun _ h => (List.mem_cons_of_mem _ (List.mem_append_right _ h))
  have hl : lv_has ls 2 [(0, .ref q0), (1, .ref r0)] := hl
  refine lv_aload_n hx hb dX5_copyFrom_0 rfl (lv_at hl 1 rfl) ?_
  refine va_get (D := dd) (ci := 5) (v := .ref r1) (C := RX5) (T := TX5) (N := 5) hx hb hts hi5 hown hK hP 3 rfl rfl 0 (by decide) (hts _ (List.mem_cons_of_mem _ (List.mem_append_left _ (List.mem_of_getElem? (i := 0) rfl)))) (fun _ h9 => h9) rfl dX5_copyFrom_1 ?_
  refine z_iconst hx hb dX5_copyFrom_4 ?_
  refine lv_aload_n hx hb dX5_copyFrom_5 rfl (lv_at hl 0 rfl) ?_
  refine va_get (D := dd) (ci := 5) (v := .ref q1) (C := RX5) (T := TX5) (N := 5) hx hb hts hi5 hown hK hP 0 rfl rfl 0 (by decide) (hts _ (List.mem_cons_of_mem _ (List.mem_append_left _ (List.mem_of_getElem? (i := 0) rfl)))) (fun _ h9 => h9) rfl dX5_copyFrom_6 ?_
  refine z_iconst hx hb dX5_copyFrom_9 ?_
  refine z_bipush hx hb dX5_copyFrom_10 (by decide +kernel) ?_
  refine z_copy (ws' := [kO q0 5 [.ref q1, .ref q2, vI ct, vI ru, vI re], kI cI q1 8 (cpZ cap2 cap 8), kI cI q2 9 wi, kO r0 5 [.ref r1, .ref r2, vI ct2, vI ru2, vI re2], kI cI r1 8 cap2, kI cI r2 9 wi2]) hx hb (hml.trans hl.1.symm) hown (hts _ (List.mem_cons_of_mem _ (List.mem_append_left _ (List.mem_of_getElem? (i := 1) rfl)))) (hts _ (List.mem_cons_of_mem _ (List.mem_append_left _ (List.mem_of_getElem? (i := 2) rfl)))) (hts _ (List.mem_cons_of_mem _ (List.mem_append_left _ (List.mem_of_getElem? (i := 3) rfl)))) (hts _ (List.mem_cons_of_mem _ (List.mem_append_left _ (List.mem_of_getElem? (i := 4) rfl)))) hK hP hD hS 4 1 rfl rfl (t0 := 0) (t1 := 0) rfl rfl (n := 8) (by decide) (by decide) (by decide) dX5_copyFrom_12 rfl (fun H locs hP hD hS => ?_)
  refine lv_aload_n hx hb dX5_copyFrom_15 rfl (lv_at hl 1 rfl) ?_
  refine va_get (D := dd) (ci := 5) (v := .ref r2) (C := RX5) (T := TX5) (N := 5) hx hb hts hi5 hown hK hP 3 rfl rfl 1 (by decide) (hts _ (List.mem_cons_of_mem _ (List.mem_append_left _ (List.mem_of_getElem? (i := 5) rfl)))) (fun _ h9 => h9) rfl dX5_copyFrom_16 ?_
  refine z_iconst hx hb dX5_copyFrom_19 ?_
  refine lv_aload_n hx hb dX5_copyFrom_20 rfl (lv_at hl 0 rfl) ?_
  refine va_get (D := dd) (ci := 5) (v := .ref q2) (C := RX5) (T := TX5) (N := 5) hx hb hts hi5 hown hK hP 0 rfl rfl 1 (by decide) (hts _ (List.mem_cons_of_mem _ (List.mem_append_left _ (List.mem_of_getElem? (i := 5) rfl)))) (fun _ h9 => h9) rfl dX5_copyFrom_21 ?_
  refine z_iconst hx hb dX5_copyFrom_24 ?_
  refine z_bipush hx hb dX5_copyFrom_25 (by decide +kernel) ?_
  refine z_copy (ws' := [kO q0 5 [.ref q1, .ref q2, vI ct, vI ru, vI re], kI cI q1 8 (cpZ cap2 cap 8), kI cI q2 9 (cpZ wi2 wi 9), kO r0 5 [.ref r1, .ref r2, vI ct2, vI ru2, vI re2], kI cI r1 8 cap2, kI cI r2 9 wi2]) hx hb (hml.trans hl.1.symm) hown (hts _ (List.mem_cons_of_mem _ (List.mem_append_left _ (List.mem_of_getElem? (i := 1) rfl)))) (hts _ (List.mem_cons_of_mem _ (List.mem_append_left _ (List.mem_of_getElem? (i := 2) rfl)))) (hts _ (List.mem_cons_of_mem _ (List.mem_append_left _ (List.mem_of_getElem? (i := 3) rfl)))) (hts _ (List.mem_cons_of_mem _ (List.mem_append_left _ (List.mem_of_getElem? (i := 4) rfl)))) hK hP hD hS 5 2 rfl rfl (t0 := 0) (t1 := 0) rfl rfl (n := 9) (by decide) (by decide) (by decide) dX5_copyFrom_27 rfl (fun H locs hP hD hS => ?_)
  refine lv_aload_n hx hb dX5_copyFrom_30 rfl (lv_at hl 0 rfl) ?_
  refine lv_aload_n hx hb dX5_copyFrom_31 rfl (lv_at hl 1 rfl) ?_
  refine va_get (D := dd) (ci := 5) (v := vI ct2) (C := RX5) (T := TX5) (N := 5) hx hb hts hi5 hown hK hP 3 rfl rfl 2 (by decide) (hts _ (List.mem_cons_of_mem _ (List.mem_append_left _ (List.mem_of_getElem? (i := 6) rfl)))) (fun _ h9 => h9) rfl dX5_copyFrom_32 ?_
  refine va_put (D := dd) (ci := 5) (v := vI ct2) (ty := .int) (C := RX5) (T := TX5) (N := 5) hx hb hts hi5 tyX5 tyX5_ok nmX5 hown hK hP hD hS 0 rfl rfl 2 (by decide) (hts _ (List.mem_cons_of_mem _ (List.mem_append_left _ (List.mem_of_getElem? (i := 6) rfl)))) (fun _ h9 => h9) rfl (by decide +kernel) rfl rfl (Nat.le_of_ble_eq_true rfl) dX5_copyFrom_35 (fun H locs hP hD hS => ?_)
  have hP : va_P dd vwCl [kO q0 5 [.ref q1, .ref q2, vI ct2, vI ru, vI re], kI cI q1 8 (cpZ cap2 cap 8), kI cI q2 9 (cpZ wi2 wi 9), kO r0 5 [.ref r1, .ref r2, vI ct2, vI ru2, vI re2], kI cI r1 8 cap2, kI cI r2 9 wi2] H := hP
  have hD : va_D A [kO q0 5 [.ref q1, .ref q2, vI ct2, vI ru, vI re], kI cI q1 8 (cpZ cap2 cap 8), kI cI q2 9 (cpZ wi2 wi 9), kO r0 5 [.ref r1, .ref r2, vI ct2, vI ru2, vI re2], kI cI r1 8 cap2, kI cI r2 9 wi2] := hD
  refine lv_aload_n hx hb dX5_copyFrom_38 rfl (lv_at hl 0 rfl) ?_
  refine lv_aload_n hx hb dX5_copyFrom_39 rfl (lv_at hl 1 rfl) ?_
  refine va_get (D := dd) (ci := 5) (v := vI ru2) (C := RX5) (T := TX5) (N := 5) hx hb hts hi5 hown hK hP 3 rfl rfl 3 (by decide) (hts _ (List.mem_cons_of_mem _ (List.mem_append_left _ (List.mem_of_getElem? (i := 7) rfl)))) (fun _ h9 => h9) rfl dX5_copyFrom_40 ?_
  refine va_put (D := dd) (ci := 5) (v := vI ru2) (ty := .int) (C := RX5) (T := TX5) (N := 5) hx hb hts hi5 tyX5 tyX5_ok nmX5 hown hK hP hD hS 0 rfl rfl 3 (by decide) (hts _ (List.mem_cons_of_mem _ (List.mem_append_left _ (List.mem_of_getElem? (i := 7) rfl)))) (fun _ h9 => h9) rfl (by decide +kernel) rfl rfl (Nat.le_of_ble_eq_true rfl) dX5_copyFrom_43 (fun H locs hP hD hS => ?_)
  have hP : va_P dd vwCl [kO q0 5 [.ref q1, .ref q2, vI ct2, vI ru2, vI re], kI cI q1 8 (cpZ cap2 cap 8), kI cI q2 9 (cpZ wi2 wi 9), kO r0 5 [.ref r1, .ref r2, vI ct2, vI ru2, vI re2], kI cI r1 8 cap2, kI cI r2 9 wi2] H := hP
  have hD : va_D A [kO q0 5 [.ref q1, .ref q2, vI ct2, vI ru2, vI re], kI cI q1 8 (cpZ cap2 cap 8), kI cI q2 9 (cpZ wi2 wi 9), kO r0 5 [.ref r1, .ref r2, vI ct2, vI ru2, vI re2], kI cI r1 8 cap2, kI cI r2 9 wi2] := hD
  refine lv_aload_n hx hb dX5_copyFrom_46 rfl (lv_at hl 0 rfl) ?_
  refine lv_aload_n hx hb dX5_copyFrom_47 rfl (lv_at hl 1 rfl) ?_
  refine va_get (D := dd) (ci := 5) (v := vI re2) (C := RX5) (T := TX5) (N := 5) hx hb hts hi5 hown hK hP 3 rfl rfl 4 (by decide) (hts _ (List.mem_cons_of_mem _ (List.mem_append_left _ (List.mem_of_getElem? (i := 8) rfl)))) (fun _ h9 => h9) rfl dX5_copyFrom_48 ?_
  refine va_put (D := dd) (ci := 5) (v := vI re2) (ty := .int) (C := RX5) (T := TX5) (N := 5) hx hb hts hi5 tyX5 tyX5_ok nmX5 hown hK hP hD hS 0 rfl rfl 4 (by decide) (hts _ (List.mem_cons_of_mem _ (List.mem_append_left _ (List.mem_of_getElem? (i := 8) rfl)))) (fun _ h9 => h9) rfl (by decide +kernel) rfl rfl (Nat.le_of_ble_eq_true rfl) dX5_copyFrom_51 (fun H locs hP hD hS => ?_)
  have hP : va_P dd vwCl [kO q0 5 [.ref q1, .ref q2, vI ct2, vI ru2, vI re2], kI cI q1 8 (cpZ cap2 cap 8), kI cI q2 9 (cpZ wi2 wi 9), kO r0 5 [.ref r1, .ref r2, vI ct2, vI ru2, vI re2], kI cI r1 8 cap2, kI cI r2 9 wi2] H := hP
  have hD : va_D A [kO q0 5 [.ref q1, .ref q2, vI ct2, vI ru2, vI re2], kI cI q1 8 (cpZ cap2 cap 8), kI cI q2 9 (cpZ wi2 wi 9), kO r0 5 [.ref r1, .ref r2, vI ct2, vI ru2, vI re2], kI cI r1 8 cap2, kI cI r2 9 wi2] := hD
  subst hQ
  refine z_vret hx hb hr hlocks dX5_copyFrom_54 () hK hS ⟨by omega, by omega⟩ hP hD ?_
  first | rfl | trivial | omega
