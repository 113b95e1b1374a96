/-! new arrays -/
section ZN
variable {p : Program} {l : Launch} {e : Env} {R : Room} {s : State} {m : MethodId} {args : Array Value} {below : List Frame} {meth : Method} {c : Code} {H : Heap} {locs : List Loc} {cells slots : Nat} {Q : State → Prop} {pc : Nat} {ls : Array Slot} {rest : List Value} {cc : ByteArray} {dd : va_G} {cI cJ cC cS : ClassId} {ws : va_W} {A : Nat → Prop} {H0 : Heap}
theorem z_newi (hx : p.tables.exec = Jvm.exec) (hb : c.code = cc) (harr : (Cond.arrayClass .int).before args s = true) (hK : va_K dd vwCl (gty cI cJ cC cS) s) (hP : va_P dd vwCl ws H) (hD : va_D A ws) (hS : va_S A H0 H locs) (hA : ∀ q : Nat, H0.size ≤ q → A q) {n : Int} (N : Nat) (hn : n = N ∧ N < 2000) (hcells : cells + 1 ≤ R.cells) (hslots : slots + N ≤ R.slots) (hdg : decode cc pc = .ok (.newarray .int, 2))
    (kk : ∀ (q : Nat) (H1 : Heap), va_P dd vwCl (ws ++ [kI cI q N zeroZ]) H1 → va_D A (ws ++ [kI cI q N zeroZ]) → va_S A H0 H1 locs → W p l e R s m args below meth c H1 locs (cells + 1) (slots + N) Q (F0 m (pc + 2) ls (.ref q :: rest))) : W p l e R s m args below meth c H locs cells slots Q (F0 m pc ls (.int (zI n) :: rest)) := by
  obtain ⟨rfl, hN⟩ := hn
  refine va_newa hx hb (atype := .int) (ty := .int) (a0 := (N, .inl (aZ zeroZ))) harr rfl hK hP hD hS hA (fun cA => rfl) ?_ (zI_clamp (by omega) (by omega)) ?_ hcells hslots hdg (fun q cA H1 h1 h2 h3 h4 => ?_)
  · intro q
    rw [zI_0] at q
    have := (zI_lt ⟨by omega, by omega⟩ ⟨by omega, by omega⟩).mp q
    omega
  · have e : componentBytes .int ≤ 8 := by decide
    exact Nat.le_trans (Nat.mul_le_mul (Nat.le_of_lt hN) e) (by decide)
  · have e1 := (hK.2 0 _ rfl).2
    have e2 := (h1.2 4 _ rfl).2
    have e3 : cI = cA := Option.some.inj (e1.symm.trans e2)
    subst e3
    exact kk q H1 h2 h3 h4
theorem z_newc (hx : p.tables.exec = Jvm.exec) (hb : c.code = cc) (harr : (Cond.arrayClass .char).before args s = true) (hK : va_K dd vwCl (gty cI cJ cC cS) s) (hP : va_P dd vwCl ws H) (hD : va_D A ws) (hS : va_S A H0 H locs) (hA : ∀ q : Nat, H0.size ≤ q → A q) {n : Int} (N : Nat) (hn : n = N ∧ N < 2000) (hcells : cells + 1 ≤ R.cells) (hslots : slots + N ≤ R.slots) (hdg : decode cc pc = .ok (.newarray .char, 2))
    (kk : ∀ (q : Nat) (H1 : Heap), va_P dd vwCl (ws ++ [kI cC q N zeroZ]) H1 → va_D A (ws ++ [kI cC q N zeroZ]) → va_S A H0 H1 locs → W p l e R s m args below meth c H1 locs (cells + 1) (slots + N) Q (F0 m (pc + 2) ls (.ref q :: rest))) : W p l e R s m args below meth c H locs cells slots Q (F0 m pc ls (.int (zI n) :: rest)) := by
  obtain ⟨rfl, hN⟩ := hn
  refine va_newa hx hb (atype := .char) (ty := .char) (a0 := (N, .inl (aZ zeroZ))) harr rfl hK hP hD hS hA (fun cA => rfl) ?_ (zI_clamp (by omega) (by omega)) ?_ hcells hslots hdg (fun q cA H1 h1 h2 h3 h4 => ?_)
  · intro q
    rw [zI_0] at q
    have := (zI_lt ⟨by omega, by omega⟩ ⟨by omega, by omega⟩).mp q
    omega
  · have e : componentBytes .char ≤ 8 := by decide
    exact Nat.le_trans (Nat.mul_le_mul (Nat.le_of_lt hN) e) (by decide)
  · have e1 := (hK.2 2 _ rfl).2
    have e2 := (h1.2 4 _ rfl).2
    have e3 : cC = cA := Option.some.inj (e1.symm.trans e2)
    subst e3
    exact kk q H1 h2 h3 h4
theorem z_newl (hx : p.tables.exec = Jvm.exec) (hb : c.code = cc) (harr : (Cond.arrayClass .long).before args s = true) (hK : va_K dd vwCl (gty cI cJ cC cS) s) (hP : va_P dd vwCl ws H) (hD : va_D A ws) (hS : va_S A H0 H locs) (hA : ∀ q : Nat, H0.size ≤ q → A q) {n : Int} (N : Nat) (hn : n = N ∧ N < 2000) (hcells : cells + 1 ≤ R.cells) (hslots : slots + N ≤ R.slots) (hdg : decode cc pc = .ok (.newarray .long, 2))
    (kk : ∀ (q : Nat) (H1 : Heap), va_P dd vwCl (ws ++ [kL cJ q N zeroZ]) H1 → va_D A (ws ++ [kL cJ q N zeroZ]) → va_S A H0 H1 locs → W p l e R s m args below meth c H1 locs (cells + 1) (slots + N) Q (F0 m (pc + 2) ls (.ref q :: rest))) : W p l e R s m args below meth c H locs cells slots Q (F0 m pc ls (.int (zI n) :: rest)) := by
  obtain ⟨rfl, hN⟩ := hn
  refine va_newa hx hb (atype := .long) (ty := .long) (a0 := (N, .inr (.inl (aL zeroZ)))) harr rfl hK hP hD hS hA (fun cA => rfl) ?_ (zI_clamp (by omega) (by omega)) ?_ hcells hslots hdg (fun q cA H1 h1 h2 h3 h4 => ?_)
  · intro q
    rw [zI_0] at q
    have := (zI_lt ⟨by omega, by omega⟩ ⟨by omega, by omega⟩).mp q
    omega
  · have e : componentBytes .long ≤ 8 := by decide
    exact Nat.le_trans (Nat.mul_le_mul (Nat.le_of_lt hN) e) (by decide)
  · have e1 := (hK.2 1 _ rfl).2
    have e2 := (h1.2 4 _ rfl).2
    have e3 : cJ = cA := Option.some.inj (e1.symm.trans e2)
    subst e3
    exact kk q H1 h2 h3 h4
end ZN

set_option maxHeartbeats 4000000 in
set_option maxRecDepth 100000 in
theorem c_X2_init (l : Launch) (dd : va_G) (cI cJ cC cS : ClassId) (q0 : Nat) (sz : Nat)  : gMv l yX2_init wsX2_init 1 2 2048 dd cI cJ cC cS [.ref q0] [kO q0 2 [.null, .null]] sz (fun (u : Nat × Nat) => True) (fun (u : Nat × Nat) => [kO q0 2 [.ref u.1, .ref u.2], kL cJ u.1 1024 zeroZ, kI cI u.2 1024 zeroZ]) := by
  refine gMv_of (cc := cX2_init) (maxL := 1) (ret := none) (by decide) rfl (Nat.le_of_ble_eq_true rfl) ?_
  intro p e s m args below meth c A Q hQ hx hb hr hts hown hlocks hnm hml H locs hP hK hD hA hS ls hl
  have hi2 : ∀ w ∈ wsX20, w ∈ wsX2_init := fun _ h => (List.mem_cons_of_mem _ (List.mem_append_right _ h))
  have hl : lv_has ls 1 [(0, .ref q0)] := hl
  refine lv_aload_n hx hb dX2_init_0 rfl (lv_at hl 0 rfl) ?_
  refine W.objInit hx hb hown (hts _ (List.mem_cons_of_mem _ (List.mem_append_left _ (List.mem_of_getElem? (i := 0) rfl)))) (hts _ (List.mem_cons_of_mem _ (List.mem_append_left _ (List.mem_of_getElem? (i := 1) rfl)))) (hts _ (List.mem_cons_of_mem _ (List.mem_append_left _ (List.mem_of_getElem? (i := 2) rfl)))) rfl (by rw [hml]; exact hl.1) rfl dX2_init_1 (Nat.le_of_ble_eq_true rfl) (Nat.le_of_ble_eq_true rfl) ?_
  refine W.eq (g2 := F0 m 4 ls []) rfl ?_
  refine lv_aload_n hx hb dX2_init_4 rfl (lv_at hl 0 rfl) ?_
  refine z_sipush hx hb dX2_init_5 (by decide +kernel) ?_
  refine z_newl hx hb (hts _ (List.mem_cons_of_mem _ (List.mem_append_left _ (List.mem_of_getElem? (i := 3) rfl)))) hK hP hD hS hA 1024 (by decide) (by decide) (by decide) dX2_init_8 (fun q_1 H hP hD hS => ?_)
  have hP : va_P dd vwCl [kO q0 2 [.null, .null], kL cJ q_1 1024 zeroZ] H := hP
  have hD : va_D A [kO q0 2 [.null, .null], kL cJ q_1 1024 zeroZ] := hD
  refine va_putF (D := dd) (ci := 2) (v := .ref q_1) (ty := .array .long) (C := RX2) (T := TX2) (N := 2) hx hb hts hi2 tyX2 tyX2_ok nmX2 hown hK hP hD hS 0 rfl rfl 0 (by decide) (hts _ (List.mem_cons_of_mem _ (List.mem_append_left _ (List.mem_of_getElem? (i := 4) rfl)))) (fun _ h9 => h9) rfl hnm rfl (by decide +kernel) rfl rfl (Nat.le_of_ble_eq_true rfl) dX2_init_10 (fun H locs hP hD hS => ?_)
  have hP : va_P dd vwCl [kO q0 2 [.ref q_1, .null], kL cJ q_1 1024 zeroZ] H := hP
  have hD : va_D A [kO q0 2 [.ref q_1, .null], kL cJ q_1 1024 zeroZ] := hD
  refine lv_aload_n hx hb dX2_init_13 rfl (lv_at hl 0 rfl) ?_
  refine z_sipush hx hb dX2_init_14 (by decide +kernel) ?_
  refine z_newi hx hb (hts _ (List.mem_cons_of_mem _ (List.mem_append_left _ (List.mem_of_getElem? (i := 5) rfl)))) hK hP hD hS hA 1024 (by decide) (by decide) (by decide) dX2_init_17 (fun q_2 H hP hD hS => ?_)
  have hP : va_P dd vwCl [kO q0 2 [.ref q_1, .null], kL cJ q_1 1024 zeroZ, kI cI q_2 1024 zeroZ] H := hP
  have hD : va_D A [kO q0 2 [.ref q_1, .null], kL cJ q_1 1024 zeroZ, kI cI q_2 1024 zeroZ] := hD
  refine va_putF (D := dd) (ci := 2) (v := .ref q_2) (ty := .array .int) (C := RX2) (T := TX2) (N := 2) hx hb hts hi2 tyX2 tyX2_ok nmX2 hown hK hP hD hS 0 rfl rfl 1 (by decide) (hts _ (List.mem_cons_of_mem _ (List.mem_append_left _ (List.mem_of_getElem? (i := 6) rfl)))) (fun _ h9 => h9) rfl hnm rfl (by decide +kernel) rfl rfl (Nat.le_of_ble_eq_true rfl) dX2_init_19 (fun H locs hP hD hS => ?_)
  have hP : va_P dd vwCl [kO q0 2 [.ref q_1, .ref q_2], kL cJ q_1 1024 zeroZ, kI cI q_2 1024 zeroZ] H := hP
  have hD : va_D A [kO q0 2 [.ref q_1, .ref q_2], kL cJ q_1 1024 zeroZ, kI cI q_2 1024 zeroZ] := hD
  subst hQ
  refine z_vret hx hb hr hlocks dX2_init_22 (q_1, q_2) hK hS ⟨by omega, by omega⟩ (hP.sub [0, 1, 2] rfl) (hD.sub [0, 1, 2] (by decide) rfl) ?_
  first | rfl | trivial | omega

set_option maxHeartbeats 4000000 in
set_option maxRecDepth 100000 in
theorem c_X3_init (l : Launch) (dd : va_G) (cI cJ cC cS : ClassId) (q0 : Nat) (n : Int) (sz : Nat)  : gMv l yX3_init wsX3_init 1 2 16 dd cI cJ cC cS [.ref q0, vI n] [kO q0 3 [vI 0, .null, .null]] sz (fun (u : Nat × Nat) => True) (fun (u : Nat × Nat) => [kO q0 3 [vI n, .ref u.1, .ref u.2], kI cI u.1 8 zeroZ, kI cI u.2 8 zeroZ]) := by
  refine gMv_of (cc := cX3_init) (maxL := 2) (ret := none) (by decide) rfl (Nat.le_of_ble_eq_true rfl) ?_
  intro p e s m args below meth c A Q hQ hx hb hr hts hown hlocks hnm hml H locs hP hK hD hA hS ls hl
  have hi3 : ∀ w ∈ wsX30, w ∈ wsX3_init := fun _ h => (List.mem_cons_of_mem _ (List.mem_append_right _ h))
  have hl : lv_has ls 2 [(0, .ref q0), (1, vI n)] := hl
  refine lv_aload_n hx hb dX3_init_0 rfl (lv_at hl 0 rfl) ?_
  refine W.objInit hx hb hown (hts _ (List.mem_cons_of_mem _ (List.mem_append_left _ (List.mem_of_getElem? (i := 0) rfl)))) (hts _ (List.mem_cons_of_mem _ (List.mem_append_left _ (List.mem_of_getElem? (i := 1) rfl)))) (hts _ (List.mem_cons_of_mem _ (List.mem_append_left _ (List.mem_of_getElem? (i := 2) rfl)))) rfl (by rw [hml]; exact hl.1) rfl dX3_init_1 (Nat.le_of_ble_eq_true rfl) (Nat.le_of_ble_eq_true rfl) ?_
  refine W.eq (g2 := F0 m 4 ls []) rfl ?_
  refine lv_aload_n hx hb dX3_init_4 rfl (lv_at hl 0 rfl) ?_
  refine lv_iload_n hx hb dX3_init_5 rfl (lv_at hl 1 rfl) ?_
  refine va_putF (D := dd) (ci := 3) (v := vI n) (ty := .int) (C := RX3) (T := TX3) (N := 3) hx hb hts hi3 tyX3 tyX3_ok nmX3 hown hK hP hD hS 0 rfl rfl 0 (by decide) (hts _ (List.mem_cons_of_mem _ (List.mem_append_left _ (List.mem_of_getElem? (i := 3) rfl)))) (fun _ h9 => h9) rfl hnm rfl (by decide +kernel) rfl rfl (Nat.le_of_ble_eq_true rfl) dX3_init_6 (fun H locs hP hD hS => ?_)
  have hP : va_P dd vwCl [kO q0 3 [vI n, .null, .null]] H := hP
  have hD : va_D A [kO q0 3 [vI n, .null, .null]] := hD
  refine lv_aload_n hx hb dX3_init_9 rfl (lv_at hl 0 rfl) ?_
  refine z_bipush hx hb dX3_init_10 (by decide +kernel) ?_
  refine z_newi hx hb (hts _ (List.mem_cons_of_mem _ (List.mem_append_left _ (List.mem_of_getElem? (i := 4) rfl)))) hK hP hD hS hA 8 (by decide) (by decide) (by decide) dX3_init_12 (fun q_1 H hP hD hS => ?_)
  have hP : va_P dd vwCl [kO q0 3 [vI n, .null, .null], kI cI q_1 8 zeroZ] H := hP
  have hD : va_D A [kO q0 3 [vI n, .null, .null], kI cI q_1 8 zeroZ] := hD
  refine va_putF (D := dd) (ci := 3) (v := .ref q_1) (ty := .array .int) (C := RX3) (T := TX3) (N := 3) hx hb hts hi3 tyX3 tyX3_ok nmX3 hown hK hP hD hS 0 rfl rfl 1 (by decide) (hts _ (List.mem_cons_of_mem _ (List.mem_append_left _ (List.mem_of_getElem? (i := 5) rfl)))) (fun _ h9 => h9) rfl hnm rfl (by decide +kernel) rfl rfl (Nat.le_of_ble_eq_true rfl) dX3_init_14 (fun H locs hP hD hS => ?_)
  have hP : va_P dd vwCl [kO q0 3 [vI n, .ref q_1, .null], kI cI q_1 8 zeroZ] H := hP
  have hD : va_D A [kO q0 3 [vI n, .ref q_1, .null], kI cI q_1 8 zeroZ] := hD
  refine lv_aload_n hx hb dX3_init_17 rfl (lv_at hl 0 rfl) ?_
  refine z_bipush hx hb dX3_init_18 (by decide +kernel) ?_
  refine z_newi hx hb (hts _ (List.mem_cons_of_mem _ (List.mem_append_left _ (List.mem_of_getElem? (i := 4) rfl)))) hK hP hD hS hA 8 (by decide) (by decide) (by decide) dX3_init_20 (fun q_2 H hP hD hS => ?_)
  have hP : va_P dd vwCl [kO q0 3 [vI n, .ref q_1, .null], kI cI q_1 8 zeroZ, kI cI q_2 8 zeroZ] H := hP
  have hD : va_D A [kO q0 3 [vI n, .ref q_1, .null], kI cI q_1 8 zeroZ, kI cI q_2 8 zeroZ] := hD
  refine va_putF (D := dd) (ci := 3) (v := .ref q_2) (ty := .array .int) (C := RX3) (T := TX3) (N := 3) hx hb hts hi3 tyX3 tyX3_ok nmX3 hown hK hP hD hS 0 rfl rfl 2 (by decide) (hts _ (List.mem_cons_of_mem _ (List.mem_append_left _ (List.mem_of_getElem? (i := 6) rfl)))) (fun _ h9 => h9) rfl hnm rfl (by decide +kernel) rfl rfl (Nat.le_of_ble_eq_true rfl) dX3_init_22 (fun H locs hP hD hS => ?_)
  have hP : va_P dd vwCl [kO q0 3 [vI n, .ref q_1, .ref q_2], kI cI q_1 8 zeroZ, kI cI q_2 8 zeroZ] H := hP
  have hD : va_D A [kO q0 3 [vI n, .ref q_1, .ref q_2], kI cI q_1 8 zeroZ, kI cI q_2 8 zeroZ] := hD
  subst hQ
  refine z_vret hx hb hr hlocks dX3_init_25 (q_1, q_2) hK hS ⟨by omega, by omega⟩ (hP.sub [0, 1, 2] rfl) (hD.sub [0, 1, 2] (by decide) rfl) ?_
  first | rfl | trivial | omega

set_option maxHeartbeats 4000000 in
set_option maxRecDepth 100000 in
theorem c_X4_init (l : Launch) (dd : va_G) (cI cJ cC cS : ClassId) (q0 : Nat) (n : Int) (sz : Nat)  : gMv l yX4_init wsX4_init 1 1 8 dd cI cJ cC cS [.ref q0, vI n] [kO q0 4 [vI 0, .null, vI 0, vI 0, vI 0, vI 0, vI 0]] sz (fun (a1 : Nat) => True) (fun (a1 : Nat) => [kO q0 4 [vI n, .ref a1, vI 0, vI 0, vI 0, vI 0, vI 0], kI cI a1 8 zeroZ]) := by
  refine gMv_of (cc := cX4_init) (maxL := 2) (ret := none) (by decide) rfl (Nat.le_of_ble_eq_true rfl) ?_
  intro p e s m args below meth c A Q hQ hx hb hr hts hown hlocks hnm hml H locs hP hK hD hA hS ls hl
  have hi4 : ∀ w ∈ wsX40, w ∈ wsX4_init := fun _ h => (List.mem_cons_of_mem _ (List.mem_append_right _ h))
  have hl : lv_has ls 2 [(0, .ref q0), (1, vI n)] := hl
  refine lv_aload_n hx hb dX4_init_0 rfl (lv_at hl 0 rfl) ?_
  refine W.objInit hx hb hown (hts _ (List.mem_cons_of_mem _ (List.mem_append_left _ (List.mem_of_getElem? (i := 0) rfl)))) (hts _ (List.mem_cons_of_mem _ (List.mem_append_left _ (List.mem_of_getElem? (i := 1) rfl)))) (hts _ (List.mem_cons_of_mem _ (List.mem_append_left _ (List.mem_of_getElem? (i := 2) rfl)))) rfl (by rw [hml]; exact hl.1) rfl dX4_init_1 (Nat.le_of_ble_eq_true rfl) (Nat.le_of_ble_eq_true rfl) ?_
  refine W.eq (g2 := F0 m 4 ls []) rfl ?_
  refine lv_aload_n hx hb dX4_init_4 rfl (lv_at hl 0 rfl) ?_
  refine lv_iload_n hx hb dX4_init_5 rfl (lv_at hl 1 rfl) ?_
  refine va_putF (D := dd) (ci := 4) (v := vI n) (ty := .int) (C := RX4) (T := TX4) (N := 7) hx hb hts hi4 tyX4 tyX4_ok nmX4 hown hK hP hD hS 0 rfl rfl 0 (by decide) (hts _ (List.mem_cons_of_mem _ (List.mem_append_left _ (List.mem_of_getElem? (i := 3) rfl)))) (fun _ h9 => h9) rfl hnm rfl (by decide +kernel) rfl rfl (Nat.le_of_ble_eq_true rfl) dX4_init_6 (fun H locs hP hD hS => ?_)
  have hP : va_P dd vwCl [kO q0 4 [vI n, .null, vI 0, vI 0, vI 0, vI 0, vI 0]] H := hP
  have hD : va_D A [kO q0 4 [vI n, .null, vI 0, vI 0, vI 0, vI 0, vI 0]] := hD
  refine lv_aload_n hx hb dX4_init_9 rfl (lv_at hl 0 rfl) ?_
  refine z_bipush hx hb dX4_init_10 (by decide +kernel) ?_
  refine z_newi hx hb (hts _ (List.mem_cons_of_mem _ (List.mem_append_left _ (List.mem_of_getElem? (i := 4) rfl)))) hK hP hD hS hA 8 (by decide) (by decide) (by decide) dX4_init_12 (fun q_1 H hP hD hS => ?_)
  have hP : va_P dd vwCl [kO q0 4 [vI n, .null, vI 0, vI 0, vI 0, vI 0, vI 0], kI cI q_1 8 zeroZ] H := hP
  have hD : va_D A [kO q0 4 [vI n, .null, vI 0, vI 0, vI 0, vI 0, vI 0], kI cI q_1 8 zeroZ] := hD
  refine va_putF (D := dd) (ci := 4) (v := .ref q_1) (ty := .array .int) (C := RX4) (T := TX4) (N := 7) hx hb hts hi4 tyX4 tyX4_ok nmX4 hown hK hP hD hS 0 rfl rfl 1 (by decide) (hts _ (List.mem_cons_of_mem _ (List.mem_append_left _ (List.mem_of_getElem? (i := 5) rfl)))) (fun _ h9 => h9) rfl hnm rfl (by decide +kernel) rfl rfl (Nat.le_of_ble_eq_true rfl) dX4_init_14 (fun H locs hP hD hS => ?_)
  have hP : va_P dd vwCl [kO q0 4 [vI n, .ref q_1, vI 0, vI 0, vI 0, vI 0, vI 0], kI cI q_1 8 zeroZ] H := hP
  have hD : va_D A [kO q0 4 [vI n, .ref q_1, vI 0, vI 0, vI 0, vI 0, vI 0], kI cI q_1 8 zeroZ] := hD
  subst hQ
  refine z_vret hx hb hr hlocks dX4_init_17 q_1 hK hS ⟨by omega, by omega⟩ (hP.sub [0, 1] rfl) (hD.sub [0, 1] (by decide) rfl) ?_
  first | rfl | trivial | omega

set_option maxHeartbeats 4000000 in
set_option maxRecDepth 100000 in
theorem c_X1_init (l : Launch) (dd : va_G) (cI cJ cC cS : ClassId) (q0 : Nat) (n : Int) (sz : Nat)  : gMv l yX1_init wsX1_init 1 5 43 dd cI cJ cC cS [.ref q0, vI n] [kO q0 1 [vI 0, .null, .null, .null, .null, .null, vI 0, vI 0, vI 0, vI 0]] sz (fun (u : Nat × Nat × Nat × Nat × Nat) => True) (fun (u : Nat × Nat × Nat × Nat × Nat) => [kO q0 1 [vI n, .ref u.1, .ref u.2.1, .ref u.2.2.1, .ref u.2.2.2.1, .ref u.2.2.2.2, vI 0, vI 0, vI 0, vI 0], kI cI u.1 8 zeroZ, kI cI u.2.1 8 zeroZ, kI cI u.2.2.1 9 zeroZ, kI cI u.2.2.2.1 9 zeroZ, kI cI u.2.2.2.2 9 zeroZ]) := by
  refine gMv_of (cc := cX1_init) (maxL := 2) (ret := none) (by decide) rfl (Nat.le_of_ble_eq_true rfl) ?_
  intro p e s m args below meth c A Q hQ hx hb hr hts hown hlocks hnm hml H locs hP hK hD hA hS ls hl
  have hi1 : ∀ w ∈ wsX10, w ∈ wsX1_init := fun _ h => (List.mem_cons_of_mem _ (List.mem_append_right _ h))
  have hl : lv_has ls 2 [(0, .ref q0), (1, vI n)] := hl
  refine lv_aload_n hx hb dX1_init_0 rfl (lv_at hl 0 rfl) ?_
  refine W.objInit hx hb hown (hts _ (List.mem_cons_of_mem _ (List.mem_append_left _ (List.mem_of_getElem? (i := 0) rfl)))) (hts _ (List.mem_cons_of_mem _ (List.mem_append_left _ (List.mem_of_getElem? (i := 1) rfl)))) (hts _ (List.mem_cons_of_mem _ (List.mem_append_left _ (List.mem_of_getElem? (i := 2) rfl)))) rfl (by rw [hml]; exact hl.1) rfl dX1_init_1 (Nat.le_of_ble_eq_true rfl) (Nat.le_of_ble_eq_true rfl) ?_
  refine W.eq (g2 := F0 m 4 ls []) rfl ?_
  refine lv_aload_n hx hb dX1_init_4 rfl (lv_at hl 0 rfl) ?_
  refine lv_iload_n hx hb dX1_init_5 rfl (lv_at hl 1 rfl) ?_
  refine va_putF (D := dd) (ci := 1) (v := vI n) (ty := .int) (C := RX1) (T := TX1) (N := 10) hx hb hts hi1 tyX1 tyX1_ok nmX1 hown hK hP hD hS 0 rfl rfl 0 (by decide) (hts _ (List.mem_cons_of_mem _ (List.mem_append_left _ (List.mem_of_getElem? (i := 3) rfl)))) (fun _ h9 => h9) rfl hnm rfl (by decide +kernel) rfl rfl (Nat.le_of_ble_eq_true rfl) dX1_init_6 (fun H locs hP hD hS => ?_)
  have hP : va_P dd vwCl [kO q0 1 [vI n, .null, .null, .null, .null, .null, vI 0, vI 0, vI 0, vI 0]] H := hP
  have hD : va_D A [kO q0 1 [vI n, .null, .null, .null, .null, .null, vI 0, vI 0, vI 0, vI 0]] := hD
  refine lv_aload_n hx hb dX1_init_9 rfl (lv_at hl 0 rfl) ?_
  refine z_bipush hx hb dX1_init_10 (by decide +kernel) ?_
  refine z_newi hx hb (hts _ (List.mem_cons_of_mem _ (List.mem_append_left _ (List.mem_of_getElem? (i := 4) rfl)))) hK hP hD hS hA 8 (by decide) (by decide) (by decide) dX1_init_12 (fun q_1 H hP hD hS => ?_)
  have hP : va_P dd vwCl [kO q0 1 [vI n, .null, .null, .null, .null, .null, vI 0, vI 0, vI 0, vI 0], kI cI q_1 8 zeroZ] H := hP
  have hD : va_D A [kO q0 1 [vI n, .null, .null, .null, .null, .null, vI 0, vI 0, vI 0, vI 0], kI cI q_1 8 zeroZ] := hD
  refine va_putF (D := dd) (ci := 1) (v := .ref q_1) (ty := .array .int) (C := RX1) (T := TX1) (N := 10) hx hb hts hi1 tyX1 tyX1_ok nmX1 hown hK hP hD hS 0 rfl rfl 1 (by decide) (hts _ (List.mem_cons_of_mem _ (List.mem_append_left _ (List.mem_of_getElem? (i := 5) rfl)))) (fun _ h9 => h9) rfl hnm rfl (by decide +kernel) rfl rfl (Nat.le_of_ble_eq_true rfl) dX1_init_14 (fun H locs hP hD hS => ?_)
  have hP : va_P dd vwCl [kO q0 1 [vI n, .ref q_1, .null, .null, .null, .null, vI 0, vI 0, vI 0, vI 0], kI cI q_1 8 zeroZ] H := hP
  have hD : va_D A [kO q0 1 [vI n, .ref q_1, .null, .null, .null, .null, vI 0, vI 0, vI 0, vI 0], kI cI q_1 8 zeroZ] := hD
  refine lv_aload_n hx hb dX1_init_17 rfl (lv_at hl 0 rfl) ?_
  refine z_bipush hx hb dX1_init_18 (by decide +kernel) ?_
  refine z_newi hx hb (hts _ (List.mem_cons_of_mem _ (List.mem_append_left _ (List.mem_of_getElem? (i := 4) rfl)))) hK hP hD hS hA 8 (by decide) (by decide) (by decide) dX1_init_20 (fun q_2 H hP hD hS => ?_)
  have hP : va_P dd vwCl [kO q0 1 [vI n, .ref q_1, .null, .null, .null, .null, vI 0, vI 0, vI 0, vI 0], kI cI q_1 8 zeroZ, kI cI q_2 8 zeroZ] H := hP
  have hD : va_D A [kO q0 1 [vI n, .ref q_1, .null, .null, .null, .null, vI 0, vI 0, vI 0, vI 0], kI cI q_1 8 zeroZ, kI cI q_2 8 zeroZ] := hD
  refine va_putF (D := dd) (ci := 1) (v := .ref q_2) (ty := .array .int) (C := RX1) (T := TX1) (N := 10) hx hb hts hi1 tyX1 tyX1_ok nmX1 hown hK hP hD hS 0 rfl rfl 2 (by decide) (hts _ (List.mem_cons_of_mem _ (List.mem_append_left _ (List.mem_of_getElem? (i := 6) rfl)))) (fun _ h9 => h9) rfl hnm rfl (by decide +kernel) rfl rfl (Nat.le_of_ble_eq_true rfl) dX1_init_22 (fun H locs hP hD hS => ?_)
  have hP : va_P dd vwCl [kO q0 1 [vI n, .ref q_1, .ref q_2, .null, .null, .null, vI 0, vI 0, vI 0, vI 0], kI cI q_1 8 zeroZ, kI cI q_2 8 zeroZ] H := hP
  have hD : va_D A [kO q0 1 [vI n, .ref q_1, .ref q_2, .null, .null, .null, vI 0, vI 0, vI 0, vI 0], kI cI q_1 8 zeroZ, kI cI q_2 8 zeroZ] := hD
  refine lv_aload_n hx hb dX1_init_25 rfl (lv_at hl 0 rfl) ?_
  refine z_bipush hx hb dX1_init_26 (by decide +kernel) ?_
  refine z_newi hx hb (hts _ (List.mem_cons_of_mem _ (List.mem_append_left _ (List.mem_of_getElem? (i := 4) rfl)))) hK hP hD hS hA 9 (by decide) (by decide) (by decide) dX1_init_28 (fun q_3 H hP hD hS => ?_)
  have hP : va_P dd vwCl [kO q0 1 [vI n, .ref q_1, .ref q_2, .null, .null, .null, vI 0, vI 0, vI 0, vI 0], kI cI q_1 8 zeroZ, kI cI q_2 8 zeroZ, kI cI q_3 9 zeroZ] H := hP
  have hD : va_D A [kO q0 1 [vI n, .ref q_1, .ref q_2, .null, .null, .null, vI 0, vI 0, vI 0, vI 0], kI cI q_1 8 zeroZ, kI cI q_2 8 zeroZ, kI cI q_3 9 zeroZ] := hD
  refine va_putF (D := dd) (ci := 1) (v := .ref q_3) (ty := .array .int) (C := RX1) (T := TX1) (N := 10) hx hb hts hi1 tyX1 tyX1_ok nmX1 hown hK hP hD hS 0 rfl rfl 3 (by decide) (hts _ (List.mem_cons_of_mem _ (List.mem_append_left _ (List.mem_of_getElem? (i := 7) rfl)))) (fun _ h9 => h9) rfl hnm rfl (by decide +kernel) rfl rfl (Nat.le_of_ble_eq_true rfl) dX1_init_30 (fun H locs hP hD hS => ?_)
  have hP : va_P dd vwCl [kO q0 1 [vI n, .ref q_1, .ref q_2, .ref q_3, .null, .null, vI 0, vI 0, vI 0, vI 0], kI cI q_1 8 zeroZ, kI cI q_2 8 zeroZ, kI cI q_3 9 zeroZ] H := hP
  have hD : va_D A [kO q0 1 [vI n, .ref q_1, .ref q_2, .ref q_3, .null, .null, vI 0, vI 0, vI 0, vI 0], kI cI q_1 8 zeroZ, kI cI q_2 8 zeroZ, kI cI q_3 9 zeroZ] := hD
  refine lv_aload_n hx hb dX1_init_33 rfl (lv_at hl 0 rfl) ?_
  refine z_bipush hx hb dX1_init_34 (by decide +kernel) ?_
  refine z_newi hx hb (hts _ (List.mem_cons_of_mem _ (List.mem_append_left _ (List.mem_of_getElem? (i := 4) rfl)))) hK hP hD hS hA 9 (by decide) (by decide) (by decide) dX1_init_36 (fun q_4 H hP hD hS => ?_)
  have hP : va_P dd vwCl [kO q0 1 [vI n, .ref q_1, .ref q_2, .ref q_3, .null, .null, vI 0, vI 0, vI 0, vI 0], kI cI q_1 8 zeroZ, kI cI q_2 8 zeroZ, kI cI q_3 9 zeroZ, kI cI q_4 9 zeroZ] H := hP
  have hD : va_D A [kO q0 1 [vI n, .ref q_1, .ref q_2, .ref q_3, .null, .null, vI 0, vI 0, vI 0, vI 0], kI cI q_1 8 zeroZ, kI cI q_2 8 zeroZ, kI cI q_3 9 zeroZ, kI cI q_4 9 zeroZ] := hD
  refine va_putF (D := dd) (ci := 1) (v := .ref q_4) (ty := .array .int) (C := RX1) (T := TX1) (N := 10) hx hb hts hi1 tyX1 tyX1_ok nmX1 hown hK hP hD hS 0 rfl rfl 4 (by decide) (hts _ (List.mem_cons_of_mem _ (List.mem_append_left _ (List.mem_of_getElem? (i := 8) rfl)))) (fun _ h9 => h9) rfl hnm rfl (by decide +kernel) rfl rfl (Nat.le_of_ble_eq_true rfl) dX1_init_38 (fun H locs hP hD hS => ?_)
  have hP : va_P dd vwCl [kO q0 1 [vI n, .ref q_1, .ref q_2, .ref q_3, .ref q_4, .null, vI 0, vI 0, vI 0, vI 0], kI cI q_1 8 zeroZ, kI cI q_2 8 zeroZ, kI cI q_3 9 zeroZ, kI cI q_4 9 zeroZ] H := hP
  have hD : va_D A [kO q0 1 [vI n, .ref q_1, .ref q_2, .ref q_3, .ref q_4, .null, vI 0, vI 0, vI 0, vI 0], kI cI q_1 8 zeroZ, kI cI q_2 8 zeroZ, kI cI q_3 9 zeroZ, kI cI q_4 9 zeroZ] := hD
  refine lv_aload_n hx hb dX1_init_41 rfl (lv_at hl 0 rfl) ?_
  refine z_bipush hx hb dX1_init_42 (by decide +kernel) ?_
  refine z_newi hx hb (hts _ (List.mem_cons_of_mem _ (List.mem_append_left _ (List.mem_of_getElem? (i := 4) rfl)))) hK hP hD hS hA 9 (by decide) (by decide) (by decide) dX1_init_44 (fun q_5 H hP hD hS => ?_)
  have hP : va_P dd vwCl [kO q0 1 [vI n, .ref q_1, .ref q_2, .ref q_3, .ref q_4, .null, vI 0, vI 0, vI 0, vI 0], kI cI q_1 8 zeroZ, kI cI q_2 8 zeroZ, kI cI q_3 9 zeroZ, kI cI q_4 9 zeroZ, kI cI q_5 9 zeroZ] H := hP
  have hD : va_D A [kO q0 1 [vI n, .ref q_1, .ref q_2, .ref q_3, .ref q_4, .null, vI 0, vI 0, vI 0, vI 0], kI cI q_1 8 zeroZ, kI cI q_2 8 zeroZ, kI cI q_3 9 zeroZ, kI cI q_4 9 zeroZ, kI cI q_5 9 zeroZ] := hD
  refine va_putF (D := dd) (ci := 1) (v := .ref q_5) (ty := .array .int) (C := RX1) (T := TX1) (N := 10) hx hb hts hi1 tyX1 tyX1_ok nmX1 hown hK hP hD hS 0 rfl rfl 5 (by decide) (hts _ (List.mem_cons_of_mem _ (List.mem_append_left _ (List.mem_of_getElem? (i := 9) rfl)))) (fun _ h9 => h9) rfl hnm rfl (by decide +kernel) rfl rfl (Nat.le_of_ble_eq_true rfl) dX1_init_46 (fun H locs hP hD hS => ?_)
  have hP : va_P dd vwCl [kO q0 1 [vI n, .ref q_1, .ref q_2, .ref q_3, .ref q_4, .ref q_5, vI 0, vI 0, vI 0, vI 0], kI cI q_1 8 zeroZ, kI cI q_2 8 zeroZ, kI cI q_3 9 zeroZ, kI cI q_4 9 zeroZ, kI cI q_5 9 zeroZ] H := hP
  have hD : va_D A [kO q0 1 [vI n, .ref q_1, .ref q_2, .ref q_3, .ref q_4, .ref q_5, vI 0, vI 0, vI 0, vI 0], kI cI q_1 8 zeroZ, kI cI q_2 8 zeroZ, kI cI q_3 9 zeroZ, kI cI q_4 9 zeroZ, kI cI q_5 9 zeroZ] := hD
  subst hQ
  refine z_vret hx hb hr hlocks dX1_init_49 (q_1, q_2, q_3, q_4, q_5) hK hS ⟨by omega, by omega⟩ (hP.sub [0, 1, 2, 3, 4, 5] rfl) (hD.sub [0, 1, 2, 3, 4, 5] (by decide) rfl) ?_
  first | rfl | trivial | omega

set_option maxHeartbeats 4000000 in
set_option maxRecDepth 100000 in
theorem c_X5_init (l : Launch) (dd : va_G) (cI cJ cC cS : ClassId) (q0 : Nat) (sz : Nat)  : gMv l yX5_init wsX5_init 1 2 17 dd cI cJ cC cS [.ref q0] [kO q0 5 [.null, .null, vI 0, vI 0, vI 0]] sz (fun (u : Nat × Nat) => True) (fun (u : Nat × Nat) => [kO q0 5 [.ref u.1, .ref u.2, vI 0, vI 0, vI 0], kI cI u.1 8 (cpZ (kZ 1) zeroZ 8), kI cI u.2 9 zeroZ]) := by
  refine gMv_of (cc := cX5_init) (maxL := 2) (ret := none) (by decide) rfl (Nat.le_of_ble_eq_true rfl) ?_
  intro p e s m args below meth c A Q hQ hx hb hr hts hown hlocks hnm hml H locs hP hK hD hA hS ls hl
  have hi5 : ∀ w ∈ wsX50, w ∈ wsX5_init := fun _ h => (List.mem_cons_of_mem _ (List.mem_append_right _ h))
  have hl : lv_has ls 2 [(0, .ref q0)] := hl
  refine lv_aload_n hx hb dX5_init_0 rfl (lv_at hl 0 rfl) ?_
  refine W.objInit hx hb hown (hts _ (List.mem_cons_of_mem _ (List.mem_append_left _ (List.mem_of_getElem? (i := 0) rfl)))) (hts _ (List.mem_cons_of_mem _ (List.mem_append_left _ (List.mem_of_getElem? (i := 1) rfl)))) (hts _ (List.mem_cons_of_mem _ (List.mem_append_left _ (List.mem_of_getElem? (i := 2) rfl)))) rfl (by rw [hml]; exact hl.1) rfl dX5_init_1 (Nat.le_of_ble_eq_true rfl) (Nat.le_of_ble_eq_true rfl) ?_
  refine W.eq (g2 := F0 m 4 ls []) rfl ?_
  refine lv_aload_n hx hb dX5_init_4 rfl (lv_at hl 0 rfl) ?_
  refine z_bipush hx hb dX5_init_5 (by decide +kernel) ?_
  refine z_newi hx hb (hts _ (List.mem_cons_of_mem _ (List.mem_append_left _ (List.mem_of_getElem? (i := 3) rfl)))) hK hP hD hS hA 8 (by decide) (by decide) (by decide) dX5_init_7 (fun q_1 H hP hD hS => ?_)
  have hP : va_P dd vwCl [kO q0 5 [.null, .null, vI 0, vI 0, vI 0], kI cI q_1 8 zeroZ] H := hP
  have hD : va_D A [kO q0 5 [.null, .null, vI 0, vI 0, vI 0], kI cI q_1 8 zeroZ] := hD
  refine va_putF (D := dd) (ci := 5) (v := .ref q_1) (ty := .array .int) (C := RX5) (T := TX5) (N := 5) hx hb hts hi5 tyX5 tyX5_ok nmX5 hown hK hP hD hS 0 rfl rfl 0 (by decide) (hts _ (List.mem_cons_of_mem _ (List.mem_append_left _ (List.mem_of_getElem? (i := 4) rfl)))) (fun _ h9 => h9) rfl hnm rfl (by decide +kernel) rfl rfl (Nat.le_of_ble_eq_true rfl) dX5_init_9 (fun H locs hP hD hS => ?_)
  have hP : va_P dd vwCl [kO q0 5 [.ref q_1, .null, vI 0, vI 0, vI 0], kI cI q_1 8 zeroZ] H := hP
  have hD : va_D A [kO q0 5 [.ref q_1, .null, vI 0, vI 0, vI 0], kI cI q_1 8 zeroZ] := hD
  refine lv_aload_n hx hb dX5_init_12 rfl (lv_at hl 0 rfl) ?_
  refine z_bipush hx hb dX5_init_13 (by decide +kernel) ?_
  refine z_newi hx hb (hts _ (List.mem_cons_of_mem _ (List.mem_append_left _ (List.mem_of_getElem? (i := 3) rfl)))) hK hP hD hS hA 9 (by decide) (by decide) (by decide) dX5_init_15 (fun q_2 H hP hD hS => ?_)
  have hP : va_P dd vwCl [kO q0 5 [.ref q_1, .null, vI 0, vI 0, vI 0], kI cI q_1 8 zeroZ, kI cI q_2 9 zeroZ] H := hP
  have hD : va_D A [kO q0 5 [.ref q_1, .null, vI 0, vI 0, vI 0], kI cI q_1 8 zeroZ, kI cI q_2 9 zeroZ] := hD
  refine va_putF (D := dd) (ci := 5) (v := .ref q_2) (ty := .array .int) (C := RX5) (T := TX5) (N := 5) hx hb hts hi5 tyX5 tyX5_ok nmX5 hown hK hP hD hS 0 rfl rfl 1 (by decide) (hts _ (List.mem_cons_of_mem _ (List.mem_append_left _ (List.mem_of_getElem? (i := 5) rfl)))) (fun _ h9 => h9) rfl hnm rfl (by decide +kernel) rfl rfl (Nat.le_of_ble_eq_true rfl) dX5_init_17 (fun H locs hP hD hS => ?_)
  have hP : va_P dd vwCl [kO q0 5 [.ref q_1, .ref q_2, vI 0, vI 0, vI 0], kI cI q_1 8 zeroZ, kI cI q_2 9 zeroZ] H := hP
  have hD : va_D A [kO q0 5 [.ref q_1, .ref q_2, vI 0, vI 0, vI 0], kI cI q_1 8 zeroZ, kI cI q_2 9 zeroZ] := hD
  refine z_iconst hx hb dX5_init_20 ?_
  refine lv_istore_n (lv' := [(1, vI 0), (0, .ref q0)]) hx hb dX5_init_21 rfl hl (by decide) rfl (fun ls hl => ?_)
  have L22 : ∀ (nn : Nat) (i : Int) (H : Heap) (locs : List Loc) (ls : Array Slot), ((9 - i).toNat) = nn → (0 ≤ i ∧ i ≤ 8) → va_P dd vwCl [kO q0 5 [.ref q_1, .ref q_2, vI 0, vI 0, vI 0], kI cI q_1 8 (cpZ (kZ 1) zeroZ i), kI cI q_2 9 zeroZ] H → va_D A [kO q0 5 [.ref q_1, .ref q_2, vI 0, vI 0, vI 0], kI cI q_1 8 (cpZ (kZ 1) zeroZ i), kI cI q_2 9 zeroZ] → va_S A s.heap H locs → lv_has ls 2 [(1, vI i), (0, .ref q0)] → W p l e (gR 1 2 17) s m args below meth c H locs ((0 + 1) + 1) ((0 + 8) + 9) Q (F0 m 22 ls []) := by
    intro nn
    induction nn using Nat.strongRecOn with
    | ind nn L22i =>
    intro i H locs ls hmeas hi hP hD hS hl
    refine lv_iload_n hx hb dX5_init_22 rfl (lv_at hl 0 rfl) ?_
    refine z_bipush hx hb dX5_init_23 (by decide +kernel) ?_
    refine z_icmp_ge (tgt := 41) hx hb dX5_init_25 (by decide) (by omega) (fun c25 => ?_) (fun c25 => ?_)
    · skip
      have h8 : i = 8 := by omega
      subst h8
      subst hQ
      refine z_vret hx hb hr hlocks dX5_init_41 (q_1, q_2) hK hS ⟨by omega, by omega⟩ (hP.sub [0, 1, 2] rfl) (hD.sub [0, 1, 2] (by decide) rfl) ?_
      first | rfl | trivial | omega
    · skip
      refine lv_aload_n hx hb dX5_init_28 rfl (lv_at hl 1 rfl) ?_
      refine va_get (D := dd) (ci := 5) (v := .ref q_1) (C := RX5) (T := TX5) (N := 5) hx hb hts hi5 hown hK hP 0 rfl rfl 0 (by decide) (hts _ (List.mem_cons_of_mem _ (List.mem_append_left _ (List.mem_of_getElem? (i := 4) rfl)))) (fun _ h9 => h9) rfl dX5_init_29 ?_
      refine lv_iload_n hx hb dX5_init_32 rfl (lv_at hl 0 rfl) ?_
      refine z_iconst hx hb dX5_init_33 ?_
      refine z_iast (ws' := [kO q0 5 [.ref q_1, .ref q_2, vI 0, vI 0, vI 0], kI cI q_1 8 (uZ (cpZ (kZ 1) zeroZ i) i 1), kI cI q_2 9 zeroZ]) hx hb hK hP hD hS 1 0 rfl rfl (i := i) (x := 1) (by omega) (by decide) dX5_init_34 rfl (fun H locs hP hD hS => ?_)
      refine z_iinc (a := i) (z := (i + 1)) (lv' := [(1, vI (i + 1)), (0, .ref q0)]) hx hb dX5_init_35 hl (k := 0) rfl rfl (by decide) rfl (fun ls hl => ?_)
      refine lv_goto (tgt := 22) hx hb dX5_init_38 (by decide) ?_
      have el_3 : kI cI q_1 8 (uZ (cpZ (kZ 1) zeroZ i) i 1) = kI cI q_1 8 (cpZ (kZ 1) zeroZ (i + 1)) := kI_congr (congrArg aZ (cpZ_s (kZ 1) zeroZ i))
      rw [el_3] at hP hD
      exact L22i _ (by omega) (i + 1) H locs ls rfl (by omega) hP hD hS hl
  have el_4 : kI cI q_1 8 zeroZ = kI cI q_1 8 (cpZ (kZ 1) zeroZ 0) := kI_congr ((aZ_cp0 (kZ 1) zeroZ).symm)
  rw [el_4] at hP hD
  exact L22 _ 0 H locs ls rfl (by omega) hP hD hS hl
