/-! the fingerprint's chains; reading -/
def Hid (p : Prop) : Prop := p
theorem fm2_len (f g : Nat → Int) : ∀ q : List Nat, (q.flatMap (fun i => [f i, g i])).length = 2 * q.length
  | [] => rfl
  | i :: r => by
    rw [List.flatMap_cons, List.length_append, fm2_len f g r]
    show 2 + 2 * r.length = 2 * (r.length + 1)
    omega
theorem pseq_len {ru re n p : Int} (h : 0 ≤ re ∧ re ≤ 8 ∧ 1 ≤ n ∧ n ≤ 8 ∧ 0 ≤ p ∧ p ≤ 8) : (pseq ru re n p).length ≤ 30 := by
  unfold pseq
  split
  · simp only [List.length_append, upL, dnL, List.length_map, List.length_range]
    omega
  · split
    · simp only [upL, List.length_map, List.length_range]
      omega
    · split
      · unfold arL
        rw [List.length_cons, fm2_len, List.length_range]
        omega
      · simp only [upL, List.length_map, List.length_range]
        omega
theorem plk_rg {n : Int} {cap : Int → Int} {ru re : Int} {wi : Int → Int} {j : Int} (h : 0 ≤ re ∧ re ≤ 8 ∧ 1 ≤ n ∧ n ≤ 8 ∧ 0 ≤ wi j ∧ wi j ≤ 8) : 0 ≤ plk n cap ru re wi j ∧ plk n cap ru re wi j ≤ 30 := by
  have h1 := pv_len n cap (pst n cap ru re wi j.toNat) (pseq ru re n (wi j))
  have h2 := pseq_len (ru := ru) h
  have e : plk n cap ru re wi j = (pv n cap (pst n cap ru re wi j.toNat) (pseq ru re n (wi j))).1 := rfl
  omega
theorem fq1 (pl : Int → Int) {k : Int} (hk : 0 ≤ k ∧ k ≤ 9) : 0 ≤ sumZ (fun c => if pl c = -1 then 1 else 0) k.toNat ∧ sumZ (fun c => if pl c = -1 then 1 else 0) k.toNat ≤ 9 := by
  have h := sumZ_rg (f := fun c => if pl c = -1 then 1 else 0) (c := 1) k.toNat (fun j _ _ => by
    show 0 ≤ (if pl j = -1 then (1 : Int) else 0) ∧ (if pl j = -1 then (1 : Int) else 0) ≤ 1
    split <;> omega)
  omega
theorem fq0 : ∀ x : Nat, x < 9 → (2 : Int) ^ x ≤ 256 := by decide
theorem fq2 (pl wi : Int → Int) {k : Int} (hk : 0 ≤ k ∧ k ≤ 9) : 0 ≤ sumZ (fun c => if pl c = wi c then 2 ^ c.toNat else 0) k.toNat ∧ sumZ (fun c => if pl c = wi c then 2 ^ c.toNat else 0) k.toNat ≤ 2304 := by
  have h := sumZ_rg (f := fun c => if pl c = wi c then 2 ^ c.toNat else 0) (c := 256) k.toNat (fun j h0 h1 => by
    show 0 ≤ (if pl j = wi j then (2 : Int) ^ j.toNat else 0) ∧ (if pl j = wi j then (2 : Int) ^ j.toNat else 0) ≤ 256
    have a1 := pow_pos2 j.toNat
    have a2 := fq0 j.toNat (by omega)
    split <;> omega)
  omega
theorem fq3 {pl wi : Int → Int} {k : Int} (hk : 0 ≤ k ∧ k ≤ 9) (hpl : ∀ j : Int, 0 ≤ j → j < k → -1 ≤ pl j ∧ pl j ≤ 8) (hwi : ∀ j : Int, 0 ≤ j → j < k → 0 ≤ wi j ∧ wi j ≤ 8) : 0 ≤ sumZ (fun c => if pl c = -1 then 0 else if 0 ≤ pl c - wi c then pl c - wi c else -(pl c - wi c)) k.toNat ∧ sumZ (fun c => if pl c = -1 then 0 else if 0 ≤ pl c - wi c then pl c - wi c else -(pl c - wi c)) k.toNat ≤ 90 := by
  have h := sumZ_rg (f := fun c => if pl c = -1 then 0 else if 0 ≤ pl c - wi c then pl c - wi c else -(pl c - wi c)) (c := 10) k.toNat (fun j h0 h1 => by
    show 0 ≤ (if pl j = -1 then (0 : Int) else if 0 ≤ pl j - wi j then pl j - wi j else -(pl j - wi j)) ∧ (if pl j = -1 then (0 : Int) else if 0 ≤ pl j - wi j then pl j - wi j else -(pl j - wi j)) ≤ 10
    have a1 := hpl j h0 (by omega)
    have a2 := hwi j h0 (by omega)
    split
    · omega
    · split <;> omega)
  omega
def fpC (n : Int) (cap : Int → Int) : Nat → Int
  | 0 => 31 * 61 + n
  | k + 1 => 31 * fpC n cap k + cap (k : Int)
theorem fpC_s {n : Int} {cap : Int → Int} {i : Int} (h : 0 ≤ i) : fpC n cap (i + 1).toNat = 31 * fpC n cap i.toNat + cap i := by
  obtain ⟨j, rfl⟩ := Int.eq_ofNat_of_zero_le h
  have e : ((j : Int) + 1).toNat = j + 1 := by omega
  rw [e, Int.toNat_natCast]
  rfl
def fpW (f0 : Int) (wi pl lk : Int → Int) : Nat → Int
  | 0 => f0
  | k + 1 => 31 * (31 * (31 * fpW f0 wi pl lk k + wi (k : Int)) + pl (k : Int)) + lk (k : Int)
theorem fpW_s {f0 : Int} {wi pl lk : Int → Int} {i : Int} (h : 0 ≤ i) : fpW f0 wi pl lk (i + 1).toNat = 31 * (31 * (31 * fpW f0 wi pl lk i.toNat + wi i) + pl i) + lk i := by
  obtain ⟨j, rfl⟩ := Int.eq_ofNat_of_zero_le h
  have e : ((j : Int) + 1).toNat = j + 1 := by omega
  rw [e, Int.toNat_natCast]
  rfl
theorem fpW_congr {f0 : Int} {wi pl pm lk lm : Int → Int} : ∀ k : Nat, (∀ j : Int, 0 ≤ j → j < k → pl j = pm j ∧ lk j = lm j) → fpW f0 wi pl lk k = fpW f0 wi pm lm k
  | 0, _ => rfl
  | k + 1, h => by
    show 31 * (31 * (31 * fpW f0 wi pl lk k + wi (k : Int)) + pl (k : Int)) + lk (k : Int) = 31 * (31 * (31 * fpW f0 wi pm lm k + wi (k : Int)) + pm (k : Int)) + lm (k : Int)
    rw [fpW_congr k (fun j h0 h1 => h j h0 (by omega)), (h (k : Int) (by omega) (by omega)).1, (h (k : Int) (by omega) (by omega)).2]
def fpF (n : Int) (cap wi : Int → Int) (ct ru re : Int) (pl lk : Int → Int) : Int := fpW (31 * (31 * fpC n cap n.toNat + (10 * ru + re)) + ct) wi pl lk ct.toNat
def fpr (n : Int) (cap wi : Int → Int) (ct ru re : Int) : Int := 31 * (31 * (31 * fpF n cap wi ct ru re (ppl n cap ru re wi) (plk n cap ru re wi) + sumZ (fun c => if ppl n cap ru re wi c = -1 then 1 else 0) ct.toNat) + sumZ (fun c => if ppl n cap ru re wi c = wi c then 2 ^ c.toNat else 0) ct.toNat) + sumZ (fun c => if ppl n cap ru re wi c = -1 then 0 else if 0 ≤ ppl n cap ru re wi c - wi c then ppl n cap ru re wi c - wi c else -(ppl n cap ru re wi c - wi c)) ct.toNat

set_option maxHeartbeats 4000000 in
set_option maxRecDepth 100000 in
theorem c_X6_fingerprint (l : Launch) (dd : va_G) (cI cJ cC cS : ClassId) (x0 s0 h0 l0 m0 p0 e0 w0 t0 s1 s2 l1 l2 l3 l4 l5 : Nat) (n tl : Int) (cap wi : Int → Int) (ct ru re : Int) (lru lre lar lfi : Int) (lcap lst lwi lpl llk : Int → Int) (sz : Nat) (hn : 1 ≤ n ∧ n ≤ 8) (hct : 0 ≤ ct ∧ ct ≤ 9) (hcap : ∀ j : Int, 0 ≤ j → j < n → 0 ≤ cap j ∧ cap j ≤ 3) (hwi : ∀ j : Int, 0 ≤ j → j < ct → 0 ≤ wi j ∧ wi j < n) (hru : 0 ≤ ru ∧ ru ≤ 3) (hre : 0 ≤ re ∧ re ≤ 8) : gMl l yX6_fingerprint wsX6_fingerprint 12 0 0 dd cI cJ cC cS [.ref x0] [kO x0 6 [vI n, .ref s0, .ref h0, .ref l0, .ref m0, .ref p0, .ref e0, .ref w0, .ref t0, vI tl], kO s0 5 [.ref s1, .ref s2, vI ct, vI ru, vI re], kI cI s1 8 cap, kI cI s2 9 wi, kO l0 1 [vI n, .ref l1, .ref l2, .ref l3, .ref l4, .ref l5, vI lru, vI lre, vI lar, vI lfi], kI cI l1 8 lcap, kI cI l2 8 lst, kI cI l3 9 lwi, kI cI l4 9 lpl, kI cI l5 9 llk] sz (fun (z : Int) (u : (Int → Int) × Int × (Int → Int) × (Int → Int) × (Int → Int) × (Int → Int)) => z = fpr n cap wi ct ru re) (fun (u : (Int → Int) × Int × (Int → Int) × (Int → Int) × (Int → Int) × (Int → Int)) => [kO x0 6 [vI n, .ref s0, .ref h0, .ref l0, .ref m0, .ref p0, .ref e0, .ref w0, .ref t0, vI tl], kO s0 5 [.ref s1, .ref s2, vI ct, vI ru, vI re], kI cI s1 8 cap, kI cI s2 9 wi, kO l0 1 [vI n, .ref l1, .ref l2, .ref l3, .ref l4, .ref l5, vI ru, vI re, vI ct, vI u.2.1], kI cI l1 8 u.1, kI cI l2 8 u.2.2.1, kI cI l3 9 u.2.2.2.1, kI cI l4 9 u.2.2.2.2.1, kI cI l5 9 u.2.2.2.2.2]) := by
  refine gMl_of (cc := cX6_fingerprint) (maxL := 4) (ret := (some .long)) (by decide) rfl (Nat.le_of_ble_eq_true rfl) ?_
  intro p e s m args below meth c A Q hQ hx hb hr hts hown hlocks hnm hml H locs hP hK hD hA hS ls hl
  have hi1 : ∀ w ∈ wsX10, w ∈ wsX6_fingerprint := fun _ h => (List.mem_cons_of_mem _ (List.mem_append_right _ h))
  have hi5 : ∀ w ∈ wsX50, w ∈ wsX6_fingerprint := fun _ h => (List.mem_cons_of_mem _ (List.mem_append_left _ (List.mem_append_right _ h)))
  have hi6 : ∀ w ∈ wsX60, w ∈ wsX6_fingerprint := fun _ h => (List.mem_cons_of_mem _ (List.mem_append_left _ (List.mem_append_left _ (List.mem_append_right _ h))))
  have hl : lv_has ls 4 [(0, .ref x0)] := hl
  refine lv_aload_n hx hb dX6_fingerprint_0 rfl (lv_at hl 0 rfl) ?_
  refine g_callVv (own := RX6) (n := 0) (mc := 0) (ms := 0) (As := []) (rest := []) (wc := [kO x0 6 [vI n, .ref s0, .ref h0, .ref l0, .ref m0, .ref p0, .ref e0, .ref w0, .ref t0, vI tl], kO s0 5 [.ref s1, .ref s2, vI ct, vI ru, vI re], kI cI s1 8 cap, kI cI s2 9 wi, kO l0 1 [vI n, .ref l1, .ref l2, .ref l3, .ref l4, .ref l5, vI lru, vI lre, vI lar, vI lfi], kI cI l1 8 lcap, kI cI l2 8 lst, kI cI l3 9 lwi, kI cI l4 9 lpl, kI cI l5 9 llk]) (wr := []) hx hb hml hown hts hK hP hD hS hA [0, 1, 2, 3, 4, 5, 6, 7, 8, 9] [] rfl rfl (by decide) (by decide) 6 0 rfl rfl (c_X6_parkAll l dd cI cJ cC cS x0 s0 h0 l0 m0 p0 e0 w0 t0 s1 s2 l1 l2 l3 l4 l5 n tl cap wi ct ru re lru lre lar lfi lcap lst lwi lpl llk H.size  (by first | assumption | omega) (by first | assumption | omega) (by first | assumption | (intro j h0 h1; omega)) (by first | assumption | (intro j h0 h1; omega)) (by first | assumption | omega) (by first | assumption | omega)) gX6_fingerprint_X6_parkAll rfl (by decide +kernel) (by decide) (by decide) (by decide) (by decide) rfl hl.1 rfl (Nat.le_of_ble_eq_true rfl) dX6_fingerprint_1 (fun u_1 H locs hp1 hP hD hS => ?_)
  obtain ⟨lfi1, lst1, lwi1, lpl1, llk1⟩ := u_1
  try dsimp only at hp1
  have hP : va_P dd vwCl [kO x0 6 [vI n, .ref s0, .ref h0, .ref l0, .ref m0, .ref p0, .ref e0, .ref w0, .ref t0, vI tl], kO s0 5 [.ref s1, .ref s2, vI ct, vI ru, vI re], kI cI s1 8 cap, kI cI s2 9 wi, kO l0 1 [vI n, .ref l1, .ref l2, .ref l3, .ref l4, .ref l5, vI ru, vI re, vI ct, vI lfi1], kI cI l1 8 (cpZ cap lcap n), kI cI l2 8 lst1, kI cI l3 9 lwi1, kI cI l4 9 lpl1, kI cI l5 9 llk1] H := hP
  have hD : va_D A [kO x0 6 [vI n, .ref s0, .ref h0, .ref l0, .ref m0, .ref p0, .ref e0, .ref w0, .ref t0, vI tl], kO s0 5 [.ref s1, .ref s2, vI ct, vI ru, vI re], kI cI s1 8 cap, kI cI s2 9 wi, kO l0 1 [vI n, .ref l1, .ref l2, .ref l3, .ref l4, .ref l5, vI ru, vI re, vI ct, vI lfi1], kI cI l1 8 (cpZ cap lcap n), kI cI l2 8 lst1, kI cI l3 9 lwi1, kI cI l4 9 lpl1, kI cI l5 9 llk1] := hD
  refine W.ldc2 (own := RX6) (v := (61)) hx hb hown (hts _ (List.mem_cons_of_mem _ (List.mem_append_left _ (List.mem_append_left _ (List.mem_append_left _ (List.mem_append_left _ (List.mem_of_getElem? (i := 0) rfl))))))) rfl dX6_fingerprint_4 ?_
  refine z_eq (g2 := F0 m 7 ls [vL 61]) rfl ?_
  refine lv_aload_n hx hb dX6_fingerprint_7 rfl (lv_at hl 0 rfl) ?_
  refine va_get (D := dd) (ci := 6) (v := vI n) (C := RX6) (T := TX6) (N := 10) hx hb hts hi6 hown hK hP 0 rfl rfl 0 (by decide) (hts _ (List.mem_cons_of_mem _ (List.mem_append_left _ (List.mem_append_left _ (List.mem_append_left _ (List.mem_append_left _ (List.mem_of_getElem? (i := 1) rfl))))))) (fun _ h9 => h9) rfl dX6_fingerprint_8 ?_
  refine lv_i2l (v := zL n) hx hb dX6_fingerprint_11 (zL_of (by omega)) ?_
  refine g_callSl (own := RX6) (n := 2) (mc := 0) (ms := 0) (As := [vL 61, vL n]) (rest := []) (wc := []) (wr := [kO x0 6 [vI n, .ref s0, .ref h0, .ref l0, .ref m0, .ref p0, .ref e0, .ref w0, .ref t0, vI tl], kO s0 5 [.ref s1, .ref s2, vI ct, vI ru, vI re], kI cI s1 8 cap, kI cI s2 9 wi, kO l0 1 [vI n, .ref l1, .ref l2, .ref l3, .ref l4, .ref l5, vI ru, vI re, vI ct, vI lfi1], kI cI l1 8 (cpZ cap lcap n), kI cI l2 8 lst1, kI cI l3 9 lwi1, kI cI l4 9 lpl1, kI cI l5 9 llk1]) hx hb hml hown hts hK hP hD hS hA [] [0, 1, 2, 3, 4, 5, 6, 7, 8, 9] rfl rfl (by decide) (by decide) (c_X6_mix l dd cI cJ cC cS 61 n H.size) gX6_fingerprint_X6_mix rfl (by decide +kernel) (by decide) (by decide) (by decide) (by decide) rfl hl.1 rfl (Nat.le_of_ble_eq_true rfl) dX6_fingerprint_12 (fun z_2 u_3 H locs hp12 hP hD hS => ?_)
  subst z_2
  have hP : va_P dd vwCl [kO x0 6 [vI n, .ref s0, .ref h0, .ref l0, .ref m0, .ref p0, .ref e0, .ref w0, .ref t0, vI tl], kO s0 5 [.ref s1, .ref s2, vI ct, vI ru, vI re], kI cI s1 8 cap, kI cI s2 9 wi, kO l0 1 [vI n, .ref l1, .ref l2, .ref l3, .ref l4, .ref l5, vI ru, vI re, vI ct, vI lfi1], kI cI l1 8 (cpZ cap lcap n), kI cI l2 8 lst1, kI cI l3 9 lwi1, kI cI l4 9 lpl1, kI cI l5 9 llk1] H := hP
  have hD : va_D A [kO x0 6 [vI n, .ref s0, .ref h0, .ref l0, .ref m0, .ref p0, .ref e0, .ref w0, .ref t0, vI tl], kO s0 5 [.ref s1, .ref s2, vI ct, vI ru, vI re], kI cI s1 8 cap, kI cI s2 9 wi, kO l0 1 [vI n, .ref l1, .ref l2, .ref l3, .ref l4, .ref l5, vI ru, vI re, vI ct, vI lfi1], kI cI l1 8 (cpZ cap lcap n), kI cI l2 8 lst1, kI cI l3 9 lwi1, kI cI l4 9 lpl1, kI cI l5 9 llk1] := hD
  refine lv_lstore_n (lv' := [(1, vL (31 * 61 + n)), (0, .ref x0)]) hx hb dX6_fingerprint_15 rfl hl (by decide) rfl (fun ls hl => ?_)
  refine z_iconst hx hb dX6_fingerprint_16 ?_
  refine lv_istore_n (lv' := [(3, vI 0), (1, vL (31 * 61 + n)), (0, .ref x0)]) hx hb dX6_fingerprint_17 rfl hl (by decide) rfl (fun ls hl => ?_)
  have L18 : ∀ (nn : Nat) (i : Int) (b : Int) (H : Heap) (locs : List Loc) (ls : Array Slot), ((n + 1 - i).toNat) = nn → (0 ≤ i ∧ i ≤ n) → (b = fpC n cap i.toNat) → va_P dd vwCl [kO x0 6 [vI n, .ref s0, .ref h0, .ref l0, .ref m0, .ref p0, .ref e0, .ref w0, .ref t0, vI tl], kO s0 5 [.ref s1, .ref s2, vI ct, vI ru, vI re], kI cI s1 8 cap, kI cI s2 9 wi, kO l0 1 [vI n, .ref l1, .ref l2, .ref l3, .ref l4, .ref l5, vI ru, vI re, vI ct, vI lfi1], kI cI l1 8 (cpZ cap lcap n), kI cI l2 8 lst1, kI cI l3 9 lwi1, kI cI l4 9 lpl1, kI cI l5 9 llk1] H → va_D A [kO x0 6 [vI n, .ref s0, .ref h0, .ref l0, .ref m0, .ref p0, .ref e0, .ref w0, .ref t0, vI tl], kO s0 5 [.ref s1, .ref s2, vI ct, vI ru, vI re], kI cI s1 8 cap, kI cI s2 9 wi, kO l0 1 [vI n, .ref l1, .ref l2, .ref l3, .ref l4, .ref l5, vI ru, vI re, vI ct, vI lfi1], kI cI l1 8 (cpZ cap lcap n), kI cI l2 8 lst1, kI cI l3 9 lwi1, kI cI l4 9 lpl1, kI cI l5 9 llk1] → va_S A s.heap H locs → lv_has ls 4 [(1, vL b), (3, vI i), (0, .ref x0)] → W p l e (gR 12 0 0) s m args below meth c H locs 0 0 Q (F0 m 18 ls []) := by
    intro nn
    induction nn using Nat.strongRecOn with
    | ind nn L18i =>
    intro i b H locs ls hmeas hi hbb hP hD hS hl
    refine lv_iload_n hx hb dX6_fingerprint_18 rfl (lv_at hl 1 rfl) ?_
    refine lv_aload_n hx hb dX6_fingerprint_19 rfl (lv_at hl 2 rfl) ?_
    refine va_get (D := dd) (ci := 6) (v := vI n) (C := RX6) (T := TX6) (N := 10) hx hb hts hi6 hown hK hP 0 rfl rfl 0 (by decide) (hts _ (List.mem_cons_of_mem _ (List.mem_append_left _ (List.mem_append_left _ (List.mem_append_left _ (List.mem_append_left _ (List.mem_of_getElem? (i := 1) rfl))))))) (fun _ h9 => h9) rfl dX6_fingerprint_20 ?_
    refine z_icmp_ge (tgt := 47) hx hb dX6_fingerprint_23 (by decide) (by omega) (fun c23 => ?_) (fun c23 => ?_)
    · skip
      refine lv_lload_n hx hb dX6_fingerprint_47 rfl (lv_at hl 0 rfl) ?_
      refine lv_aload_n hx hb dX6_fingerprint_48 rfl (lv_at hl 2 rfl) ?_
      refine va_get (D := dd) (ci := 6) (v := .ref s0) (C := RX6) (T := TX6) (N := 10) hx hb hts hi6 hown hK hP 0 rfl rfl 1 (by decide) (hts _ (List.mem_cons_of_mem _ (List.mem_append_left _ (List.mem_append_left _ (List.mem_append_left _ (List.mem_append_left _ (List.mem_of_getElem? (i := 2) rfl))))))) (fun _ h9 => h9) rfl dX6_fingerprint_49 ?_
      refine g_callVi (own := RX6) (n := 0) (mc := 0) (ms := 0) (As := []) (rest := [vL b]) (wc := [kO s0 5 [.ref s1, .ref s2, vI ct, vI ru, vI re], kI cI s1 8 cap, kI cI s2 9 wi]) (wr := [kO x0 6 [vI n, .ref s0, .ref h0, .ref l0, .ref m0, .ref p0, .ref e0, .ref w0, .ref t0, vI tl], kO l0 1 [vI n, .ref l1, .ref l2, .ref l3, .ref l4, .ref l5, vI ru, vI re, vI ct, vI lfi1], kI cI l1 8 (cpZ cap lcap n), kI cI l2 8 lst1, kI cI l3 9 lwi1, kI cI l4 9 lpl1, kI cI l5 9 llk1]) hx hb hml hown hts hK hP hD hS hA [1, 2, 3] [0, 4, 5, 6, 7, 8, 9] rfl rfl (by decide) (by decide) 5 0 rfl rfl (c_X5_ruleNumber l dd cI cJ cC cS s0 s1 s2 cap wi ct ru re H.size) gX6_fingerprint_X5_ruleNumber rfl (by decide +kernel) (by decide) (by decide) (by decide) (by decide) rfl hl.1 rfl (Nat.le_of_ble_eq_true rfl) dX6_fingerprint_52 (fun z_4 u_5 H locs hp52 hP hD hS => ?_)
      subst z_4
      have hP : va_P dd vwCl [kO x0 6 [vI n, .ref s0, .ref h0, .ref l0, .ref m0, .ref p0, .ref e0, .ref w0, .ref t0, vI tl], kO l0 1 [vI n, .ref l1, .ref l2, .ref l3, .ref l4, .ref l5, vI ru, vI re, vI ct, vI lfi1], kI cI l1 8 (cpZ cap lcap n), kI cI l2 8 lst1, kI cI l3 9 lwi1, kI cI l4 9 lpl1, kI cI l5 9 llk1, kO s0 5 [.ref s1, .ref s2, vI ct, vI ru, vI re], kI cI s1 8 cap, kI cI s2 9 wi] H := hP
      have hD : va_D A [kO x0 6 [vI n, .ref s0, .ref h0, .ref l0, .ref m0, .ref p0, .ref e0, .ref w0, .ref t0, vI tl], kO l0 1 [vI n, .ref l1, .ref l2, .ref l3, .ref l4, .ref l5, vI ru, vI re, vI ct, vI lfi1], kI cI l1 8 (cpZ cap lcap n), kI cI l2 8 lst1, kI cI l3 9 lwi1, kI cI l4 9 lpl1, kI cI l5 9 llk1, kO s0 5 [.ref s1, .ref s2, vI ct, vI ru, vI re], kI cI s1 8 cap, kI cI s2 9 wi] := hD
      refine lv_i2l (v := zL (10 * ru + re)) hx hb dX6_fingerprint_55 (zL_of (by omega)) ?_
      refine g_callSl (own := RX6) (n := 2) (mc := 0) (ms := 0) (As := [vL b, vL (10 * ru + re)]) (rest := []) (wc := []) (wr := [kO x0 6 [vI n, .ref s0, .ref h0, .ref l0, .ref m0, .ref p0, .ref e0, .ref w0, .ref t0, vI tl], kO l0 1 [vI n, .ref l1, .ref l2, .ref l3, .ref l4, .ref l5, vI ru, vI re, vI ct, vI lfi1], kI cI l1 8 (cpZ cap lcap n), kI cI l2 8 lst1, kI cI l3 9 lwi1, kI cI l4 9 lpl1, kI cI l5 9 llk1, kO s0 5 [.ref s1, .ref s2, vI ct, vI ru, vI re], kI cI s1 8 cap, kI cI s2 9 wi]) hx hb hml hown hts hK hP hD hS hA [] [0, 1, 2, 3, 4, 5, 6, 7, 8, 9] rfl rfl (by decide) (by decide) (c_X6_mix l dd cI cJ cC cS b (10 * ru + re) H.size) gX6_fingerprint_X6_mix rfl (by decide +kernel) (by decide) (by decide) (by decide) (by decide) rfl hl.1 rfl (Nat.le_of_ble_eq_true rfl) dX6_fingerprint_56 (fun z_6 u_7 H locs hp56 hP hD hS => ?_)
      subst z_6
      have hP : va_P dd vwCl [kO x0 6 [vI n, .ref s0, .ref h0, .ref l0, .ref m0, .ref p0, .ref e0, .ref w0, .ref t0, vI tl], kO l0 1 [vI n, .ref l1, .ref l2, .ref l3, .ref l4, .ref l5, vI ru, vI re, vI ct, vI lfi1], kI cI l1 8 (cpZ cap lcap n), kI cI l2 8 lst1, kI cI l3 9 lwi1, kI cI l4 9 lpl1, kI cI l5 9 llk1, kO s0 5 [.ref s1, .ref s2, vI ct, vI ru, vI re], kI cI s1 8 cap, kI cI s2 9 wi] H := hP
      have hD : va_D A [kO x0 6 [vI n, .ref s0, .ref h0, .ref l0, .ref m0, .ref p0, .ref e0, .ref w0, .ref t0, vI tl], kO l0 1 [vI n, .ref l1, .ref l2, .ref l3, .ref l4, .ref l5, vI ru, vI re, vI ct, vI lfi1], kI cI l1 8 (cpZ cap lcap n), kI cI l2 8 lst1, kI cI l3 9 lwi1, kI cI l4 9 lpl1, kI cI l5 9 llk1, kO s0 5 [.ref s1, .ref s2, vI ct, vI ru, vI re], kI cI s1 8 cap, kI cI s2 9 wi] := hD
      refine lv_lstore_n (lv' := [(1, vL (31 * b + (10 * ru + re))), (3, vI i), (0, .ref x0)]) hx hb dX6_fingerprint_59 rfl hl (by decide) rfl (fun ls hl => ?_)
      refine lv_lload_n hx hb dX6_fingerprint_60 rfl (lv_at hl 0 rfl) ?_
      refine lv_aload_n hx hb dX6_fingerprint_61 rfl (lv_at hl 2 rfl) ?_
      refine va_get (D := dd) (ci := 6) (v := .ref s0) (C := RX6) (T := TX6) (N := 10) hx hb hts hi6 hown hK hP 0 rfl rfl 1 (by decide) (hts _ (List.mem_cons_of_mem _ (List.mem_append_left _ (List.mem_append_left _ (List.mem_append_left _ (List.mem_append_left _ (List.mem_of_getElem? (i := 2) rfl))))))) (fun _ h9 => h9) rfl dX6_fingerprint_62 ?_
      refine va_get (D := dd) (ci := 5) (v := vI ct) (C := RX5) (T := TX5) (N := 5) hx hb hts hi5 hown hK hP 7 rfl rfl 2 (by decide) (hts _ (List.mem_cons_of_mem _ (List.mem_append_left _ (List.mem_append_left _ (List.mem_append_left _ (List.mem_append_left _ (List.mem_of_getElem? (i := 4) rfl))))))) (fun _ h9 => h9) rfl dX6_fingerprint_65 ?_
      refine lv_i2l (v := zL ct) hx hb dX6_fingerprint_68 (zL_of (by omega)) ?_
      refine g_callSl (own := RX6) (n := 2) (mc := 0) (ms := 0) (As := [vL (31 * b + (10 * ru + re)), vL ct]) (rest := []) (wc := []) (wr := [kO x0 6 [vI n, .ref s0, .ref h0, .ref l0, .ref m0, .ref p0, .ref e0, .ref w0, .ref t0, vI tl], kO l0 1 [vI n, .ref l1, .ref l2, .ref l3, .ref l4, .ref l5, vI ru, vI re, vI ct, vI lfi1], kI cI l1 8 (cpZ cap lcap n), kI cI l2 8 lst1, kI cI l3 9 lwi1, kI cI l4 9 lpl1, kI cI l5 9 llk1, kO s0 5 [.ref s1, .ref s2, vI ct, vI ru, vI re], kI cI s1 8 cap, kI cI s2 9 wi]) hx hb hml hown hts hK hP hD hS hA [] [0, 1, 2, 3, 4, 5, 6, 7, 8, 9] rfl rfl (by decide) (by decide) (c_X6_mix l dd cI cJ cC cS (31 * b + (10 * ru + re)) ct H.size) gX6_fingerprint_X6_mix rfl (by decide +kernel) (by decide) (by decide) (by decide) (by decide) rfl hl.1 rfl (Nat.le_of_ble_eq_true rfl) dX6_fingerprint_69 (fun z_8 u_9 H locs hp69 hP hD hS => ?_)
      subst z_8
      have hP : va_P dd vwCl [kO x0 6 [vI n, .ref s0, .ref h0, .ref l0, .ref m0, .ref p0, .ref e0, .ref w0, .ref t0, vI tl], kO l0 1 [vI n, .ref l1, .ref l2, .ref l3, .ref l4, .ref l5, vI ru, vI re, vI ct, vI lfi1], kI cI l1 8 (cpZ cap lcap n), kI cI l2 8 lst1, kI cI l3 9 lwi1, kI cI l4 9 lpl1, kI cI l5 9 llk1, kO s0 5 [.ref s1, .ref s2, vI ct, vI ru, vI re], kI cI s1 8 cap, kI cI s2 9 wi] H := hP
      have hD : va_D A [kO x0 6 [vI n, .ref s0, .ref h0, .ref l0, .ref m0, .ref p0, .ref e0, .ref w0, .ref t0, vI tl], kO l0 1 [vI n, .ref l1, .ref l2, .ref l3, .ref l4, .ref l5, vI ru, vI re, vI ct, vI lfi1], kI cI l1 8 (cpZ cap lcap n), kI cI l2 8 lst1, kI cI l3 9 lwi1, kI cI l4 9 lpl1, kI cI l5 9 llk1, kO s0 5 [.ref s1, .ref s2, vI ct, vI ru, vI re], kI cI s1 8 cap, kI cI s2 9 wi] := hD
      refine lv_lstore_n (lv' := [(1, vL (31 * (31 * b + (10 * ru + re)) + ct)), (3, vI i), (0, .ref x0)]) hx hb dX6_fingerprint_72 rfl hl (by decide) rfl (fun ls hl => ?_)
      refine z_iconst hx hb dX6_fingerprint_73 ?_
      refine lv_istore_n (lv' := [(3, vI 0), (1, vL (31 * (31 * b + (10 * ru + re)) + ct)), (0, .ref x0)]) hx hb dX6_fingerprint_74 rfl hl (by decide) rfl (fun ls hl => ?_)
      have L75 : ∀ (nn : Nat) (j : Int) (b2 : Int) (H : Heap) (locs : List Loc) (ls : Array Slot), ((ct + 1 - j).toNat) = nn → (0 ≤ j ∧ j ≤ ct) → (b2 = fpW (31 * (31 * fpC n cap n.toNat + (10 * ru + re)) + ct) wi lpl1 llk1 j.toNat) → va_P dd vwCl [kO x0 6 [vI n, .ref s0, .ref h0, .ref l0, .ref m0, .ref p0, .ref e0, .ref w0, .ref t0, vI tl], kO l0 1 [vI n, .ref l1, .ref l2, .ref l3, .ref l4, .ref l5, vI ru, vI re, vI ct, vI lfi1], kI cI l1 8 (cpZ cap lcap n), kI cI l2 8 lst1, kI cI l3 9 lwi1, kI cI l4 9 lpl1, kI cI l5 9 llk1, kO s0 5 [.ref s1, .ref s2, vI ct, vI ru, vI re], kI cI s1 8 cap, kI cI s2 9 wi] H → va_D A [kO x0 6 [vI n, .ref s0, .ref h0, .ref l0, .ref m0, .ref p0, .ref e0, .ref w0, .ref t0, vI tl], kO l0 1 [vI n, .ref l1, .ref l2, .ref l3, .ref l4, .ref l5, vI ru, vI re, vI ct, vI lfi1], kI cI l1 8 (cpZ cap lcap n), kI cI l2 8 lst1, kI cI l3 9 lwi1, kI cI l4 9 lpl1, kI cI l5 9 llk1, kO s0 5 [.ref s1, .ref s2, vI ct, vI ru, vI re], kI cI s1 8 cap, kI cI s2 9 wi] → va_S A s.heap H locs → lv_has ls 4 [(1, vL b2), (3, vI j), (0, .ref x0)] → W p l e (gR 12 0 0) s m args below meth c H locs 0 0 Q (F0 m 75 ls []) := by
        intro nn
        induction nn using Nat.strongRecOn with
        | ind nn L75i =>
        intro j b2 H locs ls hmeas hj hb2 hP hD hS hl
        refine lv_iload_n hx hb dX6_fingerprint_75 rfl (lv_at hl 1 rfl) ?_
        refine lv_aload_n hx hb dX6_fingerprint_76 rfl (lv_at hl 2 rfl) ?_
        refine va_get (D := dd) (ci := 6) (v := .ref s0) (C := RX6) (T := TX6) (N := 10) hx hb hts hi6 hown hK hP 0 rfl rfl 1 (by decide) (hts _ (List.mem_cons_of_mem _ (List.mem_append_left _ (List.mem_append_left _ (List.mem_append_left _ (List.mem_append_left _ (List.mem_of_getElem? (i := 2) rfl))))))) (fun _ h9 => h9) rfl dX6_fingerprint_77 ?_
        refine va_get (D := dd) (ci := 5) (v := vI ct) (C := RX5) (T := TX5) (N := 5) hx hb hts hi5 hown hK hP 7 rfl rfl 2 (by decide) (hts _ (List.mem_cons_of_mem _ (List.mem_append_left _ (List.mem_append_left _ (List.mem_append_left _ (List.mem_append_left _ (List.mem_of_getElem? (i := 4) rfl))))))) (fun _ h9 => h9) rfl dX6_fingerprint_80 ?_
        refine z_icmp_ge (tgt := 137) hx hb dX6_fingerprint_83 (by decide) (by omega) (fun c83 => ?_) (fun c83 => ?_)
        · skip
          refine lv_lload_n hx hb dX6_fingerprint_137 rfl (lv_at hl 0 rfl) ?_
          refine lv_aload_n hx hb dX6_fingerprint_138 rfl (lv_at hl 2 rfl) ?_
          refine va_get (D := dd) (ci := 6) (v := .ref l0) (C := RX6) (T := TX6) (N := 10) hx hb hts hi6 hown hK hP 0 rfl rfl 3 (by decide) (hts _ (List.mem_cons_of_mem _ (List.mem_append_left _ (List.mem_append_left _ (List.mem_append_left _ (List.mem_append_left _ (List.mem_of_getElem? (i := 6) rfl))))))) (fun _ h9 => h9) rfl dX6_fingerprint_139 ?_
          refine g_callVi (own := RX6) (n := 0) (mc := 0) (ms := 0) (As := []) (rest := [vL b2]) (wc := [kO l0 1 [vI n, .ref l1, .ref l2, .ref l3, .ref l4, .ref l5, vI ru, vI re, vI ct, vI lfi1], kI cI l1 8 (cpZ cap lcap n), kI cI l2 8 lst1, kI cI l3 9 lwi1, kI cI l4 9 lpl1, kI cI l5 9 llk1]) (wr := [kO x0 6 [vI n, .ref s0, .ref h0, .ref l0, .ref m0, .ref p0, .ref e0, .ref w0, .ref t0, vI tl], kO s0 5 [.ref s1, .ref s2, vI ct, vI ru, vI re], kI cI s1 8 cap, kI cI s2 9 wi]) hx hb hml hown hts hK hP hD hS hA [1, 2, 3, 4, 5, 6] [0, 7, 8, 9] rfl rfl (by decide) (by decide) 1 0 rfl rfl (c_X1_countOfLeavers l dd cI cJ cC cS l0 l1 l2 l3 l4 l5 n ru re ct lfi1 (cpZ cap lcap n) lst1 lwi1 lpl1 llk1 H.size  (by first | assumption | omega) (fun j h0 h1 => by have a1 := (hp1 j h0 h1).1; have a2 := ppl_rg n cap ru re wi j; rw [a1]; omega)) gX6_fingerprint_X1_countOfLeavers rfl (by decide +kernel) (by decide) (by decide) (by decide) (by decide) rfl hl.1 rfl (Nat.le_of_ble_eq_true rfl) dX6_fingerprint_142 (fun z_10 u_11 H locs hp142 hP hD hS => ?_)
          subst z_10
          have hP : va_P dd vwCl [kO x0 6 [vI n, .ref s0, .ref h0, .ref l0, .ref m0, .ref p0, .ref e0, .ref w0, .ref t0, vI tl], kO s0 5 [.ref s1, .ref s2, vI ct, vI ru, vI re], kI cI s1 8 cap, kI cI s2 9 wi, kO l0 1 [vI n, .ref l1, .ref l2, .ref l3, .ref l4, .ref l5, vI ru, vI re, vI ct, vI lfi1], kI cI l1 8 (cpZ cap lcap n), kI cI l2 8 lst1, kI cI l3 9 lwi1, kI cI l4 9 lpl1, kI cI l5 9 llk1] H := hP
          have hD : va_D A [kO x0 6 [vI n, .ref s0, .ref h0, .ref l0, .ref m0, .ref p0, .ref e0, .ref w0, .ref t0, vI tl], kO s0 5 [.ref s1, .ref s2, vI ct, vI ru, vI re], kI cI s1 8 cap, kI cI s2 9 wi, kO l0 1 [vI n, .ref l1, .ref l2, .ref l3, .ref l4, .ref l5, vI ru, vI re, vI ct, vI lfi1], kI cI l1 8 (cpZ cap lcap n), kI cI l2 8 lst1, kI cI l3 9 lwi1, kI cI l4 9 lpl1, kI cI l5 9 llk1] := hD
          have hq1 := fq1 lpl1 (k := ct) (by omega)
          refine lv_i2l (v := zL (sumZ (fun c => if lpl1 c = -1 then 1 else 0) ct.toNat)) hx hb dX6_fingerprint_145 (zL_of (by omega)) ?_
          refine g_callSl (own := RX6) (n := 2) (mc := 0) (ms := 0) (As := [vL b2, vL (sumZ (fun c => if lpl1 c = -1 then 1 else 0) ct.toNat)]) (rest := []) (wc := []) (wr := [kO x0 6 [vI n, .ref s0, .ref h0, .ref l0, .ref m0, .ref p0, .ref e0, .ref w0, .ref t0, vI tl], kO s0 5 [.ref s1, .ref s2, vI ct, vI ru, vI re], kI cI s1 8 cap, kI cI s2 9 wi, kO l0 1 [vI n, .ref l1, .ref l2, .ref l3, .ref l4, .ref l5, vI ru, vI re, vI ct, vI lfi1], kI cI l1 8 (cpZ cap lcap n), kI cI l2 8 lst1, kI cI l3 9 lwi1, kI cI l4 9 lpl1, kI cI l5 9 llk1]) hx hb hml hown hts hK hP hD hS hA [] [0, 1, 2, 3, 4, 5, 6, 7, 8, 9] rfl rfl (by decide) (by decide) (c_X6_mix l dd cI cJ cC cS b2 (sumZ (fun c => if lpl1 c = -1 then 1 else 0) ct.toNat) H.size) gX6_fingerprint_X6_mix rfl (by decide +kernel) (by decide) (by decide) (by decide) (by decide) rfl hl.1 rfl (Nat.le_of_ble_eq_true rfl) dX6_fingerprint_146 (fun z_12 u_13 H locs hp146 hP hD hS => ?_)
          subst z_12
          have hP : va_P dd vwCl [kO x0 6 [vI n, .ref s0, .ref h0, .ref l0, .ref m0, .ref p0, .ref e0, .ref w0, .ref t0, vI tl], kO s0 5 [.ref s1, .ref s2, vI ct, vI ru, vI re], kI cI s1 8 cap, kI cI s2 9 wi, kO l0 1 [vI n, .ref l1, .ref l2, .ref l3, .ref l4, .ref l5, vI ru, vI re, vI ct, vI lfi1], kI cI l1 8 (cpZ cap lcap n), kI cI l2 8 lst1, kI cI l3 9 lwi1, kI cI l4 9 lpl1, kI cI l5 9 llk1] H := hP
          have hD : va_D A [kO x0 6 [vI n, .ref s0, .ref h0, .ref l0, .ref m0, .ref p0, .ref e0, .ref w0, .ref t0, vI tl], kO s0 5 [.ref s1, .ref s2, vI ct, vI ru, vI re], kI cI s1 8 cap, kI cI s2 9 wi, kO l0 1 [vI n, .ref l1, .ref l2, .ref l3, .ref l4, .ref l5, vI ru, vI re, vI ct, vI lfi1], kI cI l1 8 (cpZ cap lcap n), kI cI l2 8 lst1, kI cI l3 9 lwi1, kI cI l4 9 lpl1, kI cI l5 9 llk1] := hD
          refine lv_lstore_n (lv' := [(1, vL (31 * b2 + (sumZ (fun c => if lpl1 c = -1 then 1 else 0) ct.toNat))), (3, vI j), (0, .ref x0)]) hx hb dX6_fingerprint_149 rfl hl (by decide) rfl (fun ls hl => ?_)
          refine lv_lload_n hx hb dX6_fingerprint_150 rfl (lv_at hl 0 rfl) ?_
          refine lv_aload_n hx hb dX6_fingerprint_151 rfl (lv_at hl 2 rfl) ?_
          refine va_get (D := dd) (ci := 6) (v := .ref l0) (C := RX6) (T := TX6) (N := 10) hx hb hts hi6 hown hK hP 0 rfl rfl 3 (by decide) (hts _ (List.mem_cons_of_mem _ (List.mem_append_left _ (List.mem_append_left _ (List.mem_append_left _ (List.mem_append_left _ (List.mem_of_getElem? (i := 6) rfl))))))) (fun _ h9 => h9) rfl dX6_fingerprint_152 ?_
          refine g_callVi (own := RX6) (n := 0) (mc := 0) (ms := 0) (As := []) (rest := [vL (31 * b2 + (sumZ (fun c => if lpl1 c = -1 then 1 else 0) ct.toNat))]) (wc := [kO l0 1 [vI n, .ref l1, .ref l2, .ref l3, .ref l4, .ref l5, vI ru, vI re, vI ct, vI lfi1], kI cI l1 8 (cpZ cap lcap n), kI cI l2 8 lst1, kI cI l3 9 lwi1, kI cI l4 9 lpl1, kI cI l5 9 llk1]) (wr := [kO x0 6 [vI n, .ref s0, .ref h0, .ref l0, .ref m0, .ref p0, .ref e0, .ref w0, .ref t0, vI tl], kO s0 5 [.ref s1, .ref s2, vI ct, vI ru, vI re], kI cI s1 8 cap, kI cI s2 9 wi]) hx hb hml hown hts hK hP hD hS hA [4, 5, 6, 7, 8, 9] [0, 1, 2, 3] rfl rfl (by decide) (by decide) 1 0 rfl rfl (c_X1_setOfLuckyCars l dd cI cJ cC cS l0 l1 l2 l3 l4 l5 n ru re ct lfi1 (cpZ cap lcap n) lst1 lwi1 lpl1 llk1 H.size  (by first | assumption | omega) (fun j h0 h1 => by have a1 := (hp1 j h0 h1).1; have a2 := ppl_rg n cap ru re wi j; rw [a1]; omega) (fun j h0 h1 => by have a1 := (hp1 j h0 h1).2.2; have a2 := hwi j h0 h1; rw [a1]; omega)) gX6_fingerprint_X1_setOfLuckyCars rfl (by decide +kernel) (by decide) (by decide) (by decide) (by decide) rfl hl.1 rfl (Nat.le_of_ble_eq_true rfl) dX6_fingerprint_155 (fun z_14 u_15 H locs hp155 hP hD hS => ?_)
          subst z_14
          have hP : va_P dd vwCl [kO x0 6 [vI n, .ref s0, .ref h0, .ref l0, .ref m0, .ref p0, .ref e0, .ref w0, .ref t0, vI tl], kO s0 5 [.ref s1, .ref s2, vI ct, vI ru, vI re], kI cI s1 8 cap, kI cI s2 9 wi, kO l0 1 [vI n, .ref l1, .ref l2, .ref l3, .ref l4, .ref l5, vI ru, vI re, vI ct, vI lfi1], kI cI l1 8 (cpZ cap lcap n), kI cI l2 8 lst1, kI cI l3 9 lwi1, kI cI l4 9 lpl1, kI cI l5 9 llk1] H := hP
          have hD : va_D A [kO x0 6 [vI n, .ref s0, .ref h0, .ref l0, .ref m0, .ref p0, .ref e0, .ref w0, .ref t0, vI tl], kO s0 5 [.ref s1, .ref s2, vI ct, vI ru, vI re], kI cI s1 8 cap, kI cI s2 9 wi, kO l0 1 [vI n, .ref l1, .ref l2, .ref l3, .ref l4, .ref l5, vI ru, vI re, vI ct, vI lfi1], kI cI l1 8 (cpZ cap lcap n), kI cI l2 8 lst1, kI cI l3 9 lwi1, kI cI l4 9 lpl1, kI cI l5 9 llk1] := hD
          have hq2 := fq2 lpl1 lwi1 (k := ct) (by omega)
          refine lv_i2l (v := zL (sumZ (fun c => if lpl1 c = lwi1 c then 2 ^ c.toNat else 0) ct.toNat)) hx hb dX6_fingerprint_158 (zL_of (by omega)) ?_
          refine g_callSl (own := RX6) (n := 2) (mc := 0) (ms := 0) (As := [vL (31 * b2 + (sumZ (fun c => if lpl1 c = -1 then 1 else 0) ct.toNat)), vL (sumZ (fun c => if lpl1 c = lwi1 c then 2 ^ c.toNat else 0) ct.toNat)]) (rest := []) (wc := []) (wr := [kO x0 6 [vI n, .ref s0, .ref h0, .ref l0, .ref m0, .ref p0, .ref e0, .ref w0, .ref t0, vI tl], kO s0 5 [.ref s1, .ref s2, vI ct, vI ru, vI re], kI cI s1 8 cap, kI cI s2 9 wi, kO l0 1 [vI n, .ref l1, .ref l2, .ref l3, .ref l4, .ref l5, vI ru, vI re, vI ct, vI lfi1], kI cI l1 8 (cpZ cap lcap n), kI cI l2 8 lst1, kI cI l3 9 lwi1, kI cI l4 9 lpl1, kI cI l5 9 llk1]) hx hb hml hown hts hK hP hD hS hA [] [0, 1, 2, 3, 4, 5, 6, 7, 8, 9] rfl rfl (by decide) (by decide) (c_X6_mix l dd cI cJ cC cS (31 * b2 + (sumZ (fun c => if lpl1 c = -1 then 1 else 0) ct.toNat)) (sumZ (fun c => if lpl1 c = lwi1 c then 2 ^ c.toNat else 0) ct.toNat) H.size) gX6_fingerprint_X6_mix rfl (by decide +kernel) (by decide) (by decide) (by decide) (by decide) rfl hl.1 rfl (Nat.le_of_ble_eq_true rfl) dX6_fingerprint_159 (fun z_16 u_17 H locs hp159 hP hD hS => ?_)
          subst z_16
          have hP : va_P dd vwCl [kO x0 6 [vI n, .ref s0, .ref h0, .ref l0, .ref m0, .ref p0, .ref e0, .ref w0, .ref t0, vI tl], kO s0 5 [.ref s1, .ref s2, vI ct, vI ru, vI re], kI cI s1 8 cap, kI cI s2 9 wi, kO l0 1 [vI n, .ref l1, .ref l2, .ref l3, .ref l4, .ref l5, vI ru, vI re, vI ct, vI lfi1], kI cI l1 8 (cpZ cap lcap n), kI cI l2 8 lst1, kI cI l3 9 lwi1, kI cI l4 9 lpl1, kI cI l5 9 llk1] H := hP
          have hD : va_D A [kO x0 6 [vI n, .ref s0, .ref h0, .ref l0, .ref m0, .ref p0, .ref e0, .ref w0, .ref t0, vI tl], kO s0 5 [.ref s1, .ref s2, vI ct, vI ru, vI re], kI cI s1 8 cap, kI cI s2 9 wi, kO l0 1 [vI n, .ref l1, .ref l2, .ref l3, .ref l4, .ref l5, vI ru, vI re, vI ct, vI lfi1], kI cI l1 8 (cpZ cap lcap n), kI cI l2 8 lst1, kI cI l3 9 lwi1, kI cI l4 9 lpl1, kI cI l5 9 llk1] := hD
          refine lv_lstore_n (lv' := [(1, vL (31 * (31 * b2 + (sumZ (fun c => if lpl1 c = -1 then 1 else 0) ct.toNat)) + (sumZ (fun c => if lpl1 c = lwi1 c then 2 ^ c.toNat else 0) ct.toNat))), (3, vI j), (0, .ref x0)]) hx hb dX6_fingerprint_162 rfl hl (by decide) rfl (fun ls hl => ?_)
          refine lv_lload_n hx hb dX6_fingerprint_163 rfl (lv_at hl 0 rfl) ?_
          refine lv_aload_n hx hb dX6_fingerprint_164 rfl (lv_at hl 2 rfl) ?_
          refine va_get (D := dd) (ci := 6) (v := .ref l0) (C := RX6) (T := TX6) (N := 10) hx hb hts hi6 hown hK hP 0 rfl rfl 3 (by decide) (hts _ (List.mem_cons_of_mem _ (List.mem_append_left _ (List.mem_append_left _ (List.mem_append_left _ (List.mem_append_left _ (List.mem_of_getElem? (i := 6) rfl))))))) (fun _ h9 => h9) rfl dX6_fingerprint_165 ?_
          refine g_callVi (own := RX6) (n := 0) (mc := 0) (ms := 0) (As := []) (rest := [vL (31 * (31 * b2 + (sumZ (fun c => if lpl1 c = -1 then 1 else 0) ct.toNat)) + (sumZ (fun c => if lpl1 c = lwi1 c then 2 ^ c.toNat else 0) ct.toNat))]) (wc := [kO l0 1 [vI n, .ref l1, .ref l2, .ref l3, .ref l4, .ref l5, vI ru, vI re, vI ct, vI lfi1], kI cI l1 8 (cpZ cap lcap n), kI cI l2 8 lst1, kI cI l3 9 lwi1, kI cI l4 9 lpl1, kI cI l5 9 llk1]) (wr := [kO x0 6 [vI n, .ref s0, .ref h0, .ref l0, .ref m0, .ref p0, .ref e0, .ref w0, .ref t0, vI tl], kO s0 5 [.ref s1, .ref s2, vI ct, vI ru, vI re], kI cI s1 8 cap, kI cI s2 9 wi]) hx hb hml hown hts hK hP hD hS hA [4, 5, 6, 7, 8, 9] [0, 1, 2, 3] rfl rfl (by decide) (by decide) 1 0 rfl rfl (c_X1_sumOfDistances l dd cI cJ cC cS l0 l1 l2 l3 l4 l5 n ru re ct lfi1 (cpZ cap lcap n) lst1 lwi1 lpl1 llk1 H.size  (by first | assumption | omega) (fun j h0 h1 => by have a1 := (hp1 j h0 h1).1; have a2 := ppl_rg n cap ru re wi j; rw [a1]; omega) (fun j h0 h1 => by have a1 := (hp1 j h0 h1).2.2; have a2 := hwi j h0 h1; rw [a1]; omega)) gX6_fingerprint_X1_sumOfDistances rfl (by decide +kernel) (by decide) (by decide) (by decide) (by decide) rfl hl.1 rfl (Nat.le_of_ble_eq_true rfl) dX6_fingerprint_168 (fun z_18 u_19 H locs hp168 hP hD hS => ?_)
          subst z_18
          have hP : va_P dd vwCl [kO x0 6 [vI n, .ref s0, .ref h0, .ref l0, .ref m0, .ref p0, .ref e0, .ref w0, .ref t0, vI tl], kO s0 5 [.ref s1, .ref s2, vI ct, vI ru, vI re], kI cI s1 8 cap, kI cI s2 9 wi, kO l0 1 [vI n, .ref l1, .ref l2, .ref l3, .ref l4, .ref l5, vI ru, vI re, vI ct, vI lfi1], kI cI l1 8 (cpZ cap lcap n), kI cI l2 8 lst1, kI cI l3 9 lwi1, kI cI l4 9 lpl1, kI cI l5 9 llk1] H := hP
          have hD : va_D A [kO x0 6 [vI n, .ref s0, .ref h0, .ref l0, .ref m0, .ref p0, .ref e0, .ref w0, .ref t0, vI tl], kO s0 5 [.ref s1, .ref s2, vI ct, vI ru, vI re], kI cI s1 8 cap, kI cI s2 9 wi, kO l0 1 [vI n, .ref l1, .ref l2, .ref l3, .ref l4, .ref l5, vI ru, vI re, vI ct, vI lfi1], kI cI l1 8 (cpZ cap lcap n), kI cI l2 8 lst1, kI cI l3 9 lwi1, kI cI l4 9 lpl1, kI cI l5 9 llk1] := hD
          have hq3 := fq3 (pl := lpl1) (wi := lwi1) (k := ct) (by omega) (fun j h0 h1 => by have a1 := (hp1 j h0 h1).1; have a2 := ppl_rg n cap ru re wi j; rw [a1]; omega) (fun j h0 h1 => by have a1 := (hp1 j h0 h1).2.2; have a2 := hwi j h0 h1; rw [a1]; omega)
          refine lv_i2l (v := zL (sumZ (fun c => if lpl1 c = -1 then 0 else if 0 ≤ lpl1 c - lwi1 c then lpl1 c - lwi1 c else -(lpl1 c - lwi1 c)) ct.toNat)) hx hb dX6_fingerprint_171 (zL_of (by omega)) ?_
          refine g_callSl (own := RX6) (n := 2) (mc := 0) (ms := 0) (As := [vL (31 * (31 * b2 + (sumZ (fun c => if lpl1 c = -1 then 1 else 0) ct.toNat)) + (sumZ (fun c => if lpl1 c = lwi1 c then 2 ^ c.toNat else 0) ct.toNat)), vL (sumZ (fun c => if lpl1 c = -1 then 0 else if 0 ≤ lpl1 c - lwi1 c then lpl1 c - lwi1 c else -(lpl1 c - lwi1 c)) ct.toNat)]) (rest := []) (wc := []) (wr := [kO x0 6 [vI n, .ref s0, .ref h0, .ref l0, .ref m0, .ref p0, .ref e0, .ref w0, .ref t0, vI tl], kO s0 5 [.ref s1, .ref s2, vI ct, vI ru, vI re], kI cI s1 8 cap, kI cI s2 9 wi, kO l0 1 [vI n, .ref l1, .ref l2, .ref l3, .ref l4, .ref l5, vI ru, vI re, vI ct, vI lfi1], kI cI l1 8 (cpZ cap lcap n), kI cI l2 8 lst1, kI cI l3 9 lwi1, kI cI l4 9 lpl1, kI cI l5 9 llk1]) hx hb hml hown hts hK hP hD hS hA [] [0, 1, 2, 3, 4, 5, 6, 7, 8, 9] rfl rfl (by decide) (by decide) (c_X6_mix l dd cI cJ cC cS (31 * (31 * b2 + (sumZ (fun c => if lpl1 c = -1 then 1 else 0) ct.toNat)) + (sumZ (fun c => if lpl1 c = lwi1 c then 2 ^ c.toNat else 0) ct.toNat)) (sumZ (fun c => if lpl1 c = -1 then 0 else if 0 ≤ lpl1 c - lwi1 c then lpl1 c - lwi1 c else -(lpl1 c - lwi1 c)) ct.toNat) H.size) gX6_fingerprint_X6_mix rfl (by decide +kernel) (by decide) (by decide) (by decide) (by decide) rfl hl.1 rfl (Nat.le_of_ble_eq_true rfl) dX6_fingerprint_172 (fun z_20 u_21 H locs hp172 hP hD hS => ?_)
          subst z_20
          have hP : va_P dd vwCl [kO x0 6 [vI n, .ref s0, .ref h0, .ref l0, .ref m0, .ref p0, .ref e0, .ref w0, .ref t0, vI tl], kO s0 5 [.ref s1, .ref s2, vI ct, vI ru, vI re], kI cI s1 8 cap, kI cI s2 9 wi, kO l0 1 [vI n, .ref l1, .ref l2, .ref l3, .ref l4, .ref l5, vI ru, vI re, vI ct, vI lfi1], kI cI l1 8 (cpZ cap lcap n), kI cI l2 8 lst1, kI cI l3 9 lwi1, kI cI l4 9 lpl1, kI cI l5 9 llk1] H := hP
          have hD : va_D A [kO x0 6 [vI n, .ref s0, .ref h0, .ref l0, .ref m0, .ref p0, .ref e0, .ref w0, .ref t0, vI tl], kO s0 5 [.ref s1, .ref s2, vI ct, vI ru, vI re], kI cI s1 8 cap, kI cI s2 9 wi, kO l0 1 [vI n, .ref l1, .ref l2, .ref l3, .ref l4, .ref l5, vI ru, vI re, vI ct, vI lfi1], kI cI l1 8 (cpZ cap lcap n), kI cI l2 8 lst1, kI cI l3 9 lwi1, kI cI l4 9 lpl1, kI cI l5 9 llk1] := hD
          subst hQ
          refine z_lret (z := 31 * (31 * (31 * b2 + (sumZ (fun c => if lpl1 c = -1 then 1 else 0) ct.toNat)) + (sumZ (fun c => if lpl1 c = lwi1 c then 2 ^ c.toNat else 0) ct.toNat)) + (sumZ (fun c => if lpl1 c = -1 then 0 else if 0 ≤ lpl1 c - lwi1 c then lpl1 c - lwi1 c else -(lpl1 c - lwi1 c)) ct.toNat)) hx hb hr hlocks dX6_fingerprint_175 ((cpZ cap lcap n), lfi1, lst1, lwi1, lpl1, llk1) hK hS ⟨by omega, by omega⟩ hP hD ?_
          rw [hb2, show j = ct by omega]
          unfold fpr fpF
          rw [fpW_congr (pl := ppl n cap ru re wi) (pm := lpl1) (lk := plk n cap ru re wi) (lm := llk1) ct.toNat (fun j h0 h1 => by
            have a1 := hp1 j h0 (by omega)
            exact ⟨a1.1.symm, a1.2.1.symm⟩)]
          rw [sumZ_congr (f := fun c => if ppl n cap ru re wi c = -1 then 1 else 0) (g := fun c => if lpl1 c = -1 then 1 else 0) ct.toNat (fun j h0 h1 => by
            have a1 := hp1 j h0 (by omega)
            show (if _ then _ else _) = (if _ then _ else _)
            rw [a1.1])]
          rw [sumZ_congr (f := fun c => if ppl n cap ru re wi c = wi c then 2 ^ c.toNat else 0) (g := fun c => if lpl1 c = lwi1 c then 2 ^ c.toNat else 0) ct.toNat (fun j h0 h1 => by
            have a1 := hp1 j h0 (by omega)
            show (if _ then _ else _) = (if _ then _ else _)
            rw [a1.1, a1.2.2])]
          rw [sumZ_congr (f := fun c => if ppl n cap ru re wi c = -1 then 0 else if 0 ≤ ppl n cap ru re wi c - wi c then ppl n cap ru re wi c - wi c else -(ppl n cap ru re wi c - wi c)) (g := fun c => if lpl1 c = -1 then 0 else if 0 ≤ lpl1 c - lwi1 c then lpl1 c - lwi1 c else -(lpl1 c - lwi1 c)) ct.toNat (fun j h0 h1 => by
            have a1 := hp1 j h0 (by omega)
            show (if _ then _ else _) = (if _ then _ else _)
            rw [a1.1, a1.2.2])]
        · skip
          have hr1 := hp1 j (by omega) (by omega)
          have hr2 := ppl_rg n cap ru re wi j
          have hr4 := hwi j (by omega) (by omega)
          have hr3 := plk_rg (n := n) (cap := cap) (ru := ru) (re := re) (wi := wi) (j := j) (by omega)
          refine lv_lload_n hx hb dX6_fingerprint_86 rfl (lv_at hl 0 rfl) ?_
          refine lv_aload_n hx hb dX6_fingerprint_87 rfl (lv_at hl 2 rfl) ?_
          refine va_get (D := dd) (ci := 6) (v := .ref s0) (C := RX6) (T := TX6) (N := 10) hx hb hts hi6 hown hK hP 0 rfl rfl 1 (by decide) (hts _ (List.mem_cons_of_mem _ (List.mem_append_left _ (List.mem_append_left _ (List.mem_append_left _ (List.mem_append_left _ (List.mem_of_getElem? (i := 2) rfl))))))) (fun _ h9 => h9) rfl dX6_fingerprint_88 ?_
          refine va_get (D := dd) (ci := 5) (v := .ref s2) (C := RX5) (T := TX5) (N := 5) hx hb hts hi5 hown hK hP 7 rfl rfl 1 (by decide) (hts _ (List.mem_cons_of_mem _ (List.mem_append_left _ (List.mem_append_left _ (List.mem_append_left _ (List.mem_append_left _ (List.mem_of_getElem? (i := 5) rfl))))))) (fun _ h9 => h9) rfl dX6_fingerprint_91 ?_
          refine lv_iload_n hx hb dX6_fingerprint_94 rfl (lv_at hl 1 rfl) ?_
          refine z_iald hx hb hK hP 9 0 rfl rfl (i := j) (by omega) (by decide) dX6_fingerprint_95 ?_
          have f_22 := hwi j (by omega) (by omega)
          refine lv_i2l (v := zL (wi j)) hx hb dX6_fingerprint_96 (zL_of (by omega)) ?_
          refine g_callSl (own := RX6) (n := 2) (mc := 0) (ms := 0) (As := [vL b2, vL (wi j)]) (rest := []) (wc := []) (wr := [kO x0 6 [vI n, .ref s0, .ref h0, .ref l0, .ref m0, .ref p0, .ref e0, .ref w0, .ref t0, vI tl], kO l0 1 [vI n, .ref l1, .ref l2, .ref l3, .ref l4, .ref l5, vI ru, vI re, vI ct, vI lfi1], kI cI l1 8 (cpZ cap lcap n), kI cI l2 8 lst1, kI cI l3 9 lwi1, kI cI l4 9 lpl1, kI cI l5 9 llk1, kO s0 5 [.ref s1, .ref s2, vI ct, vI ru, vI re], kI cI s1 8 cap, kI cI s2 9 wi]) hx hb hml hown hts hK hP hD hS hA [] [0, 1, 2, 3, 4, 5, 6, 7, 8, 9] rfl rfl (by decide) (by decide) (c_X6_mix l dd cI cJ cC cS b2 (wi j) H.size) gX6_fingerprint_X6_mix rfl (by decide +kernel) (by decide) (by decide) (by decide) (by decide) rfl hl.1 rfl (Nat.le_of_ble_eq_true rfl) dX6_fingerprint_97 (fun z_23 u_24 H locs hp97 hP hD hS => ?_)
          subst z_23
          have hP : va_P dd vwCl [kO x0 6 [vI n, .ref s0, .ref h0, .ref l0, .ref m0, .ref p0, .ref e0, .ref w0, .ref t0, vI tl], kO l0 1 [vI n, .ref l1, .ref l2, .ref l3, .ref l4, .ref l5, vI ru, vI re, vI ct, vI lfi1], kI cI l1 8 (cpZ cap lcap n), kI cI l2 8 lst1, kI cI l3 9 lwi1, kI cI l4 9 lpl1, kI cI l5 9 llk1, kO s0 5 [.ref s1, .ref s2, vI ct, vI ru, vI re], kI cI s1 8 cap, kI cI s2 9 wi] H := hP
          have hD : va_D A [kO x0 6 [vI n, .ref s0, .ref h0, .ref l0, .ref m0, .ref p0, .ref e0, .ref w0, .ref t0, vI tl], kO l0 1 [vI n, .ref l1, .ref l2, .ref l3, .ref l4, .ref l5, vI ru, vI re, vI ct, vI lfi1], kI cI l1 8 (cpZ cap lcap n), kI cI l2 8 lst1, kI cI l3 9 lwi1, kI cI l4 9 lpl1, kI cI l5 9 llk1, kO s0 5 [.ref s1, .ref s2, vI ct, vI ru, vI re], kI cI s1 8 cap, kI cI s2 9 wi] := hD
          refine lv_lstore_n (lv' := [(1, vL (31 * b2 + (wi j))), (3, vI j), (0, .ref x0)]) hx hb dX6_fingerprint_100 rfl hl (by decide) rfl (fun ls hl => ?_)
          refine lv_lload_n hx hb dX6_fingerprint_101 rfl (lv_at hl 0 rfl) ?_
          refine lv_aload_n hx hb dX6_fingerprint_102 rfl (lv_at hl 2 rfl) ?_
          refine va_get (D := dd) (ci := 6) (v := .ref l0) (C := RX6) (T := TX6) (N := 10) hx hb hts hi6 hown hK hP 0 rfl rfl 3 (by decide) (hts _ (List.mem_cons_of_mem _ (List.mem_append_left _ (List.mem_append_left _ (List.mem_append_left _ (List.mem_append_left _ (List.mem_of_getElem? (i := 6) rfl))))))) (fun _ h9 => h9) rfl dX6_fingerprint_103 ?_
          refine va_get (D := dd) (ci := 1) (v := .ref l4) (C := RX1) (T := TX1) (N := 10) hx hb hts hi1 hown hK hP 1 rfl rfl 4 (by decide) (hts _ (List.mem_cons_of_mem _ (List.mem_append_left _ (List.mem_append_left _ (List.mem_append_left _ (List.mem_append_left _ (List.mem_of_getElem? (i := 7) rfl))))))) (fun _ h9 => h9) rfl dX6_fingerprint_106 ?_
          refine lv_iload_n hx hb dX6_fingerprint_109 rfl (lv_at hl 1 rfl) ?_
          refine z_iald hx hb hK hP 5 0 rfl rfl (i := j) (by omega) (by decide) dX6_fingerprint_110 ?_
          refine lv_i2l (v := zL (lpl1 j)) hx hb dX6_fingerprint_111 (zL_of (by omega)) ?_
          refine g_callSl (own := RX6) (n := 2) (mc := 0) (ms := 0) (As := [vL (31 * b2 + (wi j)), vL (lpl1 j)]) (rest := []) (wc := []) (wr := [kO x0 6 [vI n, .ref s0, .ref h0, .ref l0, .ref m0, .ref p0, .ref e0, .ref w0, .ref t0, vI tl], kO l0 1 [vI n, .ref l1, .ref l2, .ref l3, .ref l4, .ref l5, vI ru, vI re, vI ct, vI lfi1], kI cI l1 8 (cpZ cap lcap n), kI cI l2 8 lst1, kI cI l3 9 lwi1, kI cI l4 9 lpl1, kI cI l5 9 llk1, kO s0 5 [.ref s1, .ref s2, vI ct, vI ru, vI re], kI cI s1 8 cap, kI cI s2 9 wi]) hx hb hml hown hts hK hP hD hS hA [] [0, 1, 2, 3, 4, 5, 6, 7, 8, 9] rfl rfl (by decide) (by decide) (c_X6_mix l dd cI cJ cC cS (31 * b2 + (wi j)) (lpl1 j) H.size) gX6_fingerprint_X6_mix rfl (by decide +kernel) (by decide) (by decide) (by decide) (by decide) rfl hl.1 rfl (Nat.le_of_ble_eq_true rfl) dX6_fingerprint_112 (fun z_25 u_26 H locs hp112 hP hD hS => ?_)
          subst z_25
          have hP : va_P dd vwCl [kO x0 6 [vI n, .ref s0, .ref h0, .ref l0, .ref m0, .ref p0, .ref e0, .ref w0, .ref t0, vI tl], kO l0 1 [vI n, .ref l1, .ref l2, .ref l3, .ref l4, .ref l5, vI ru, vI re, vI ct, vI lfi1], kI cI l1 8 (cpZ cap lcap n), kI cI l2 8 lst1, kI cI l3 9 lwi1, kI cI l4 9 lpl1, kI cI l5 9 llk1, kO s0 5 [.ref s1, .ref s2, vI ct, vI ru, vI re], kI cI s1 8 cap, kI cI s2 9 wi] H := hP
          have hD : va_D A [kO x0 6 [vI n, .ref s0, .ref h0, .ref l0, .ref m0, .ref p0, .ref e0, .ref w0, .ref t0, vI tl], kO l0 1 [vI n, .ref l1, .ref l2, .ref l3, .ref l4, .ref l5, vI ru, vI re, vI ct, vI lfi1], kI cI l1 8 (cpZ cap lcap n), kI cI l2 8 lst1, kI cI l3 9 lwi1, kI cI l4 9 lpl1, kI cI l5 9 llk1, kO s0 5 [.ref s1, .ref s2, vI ct, vI ru, vI re], kI cI s1 8 cap, kI cI s2 9 wi] := hD
          refine lv_lstore_n (lv' := [(1, vL (31 * (31 * b2 + (wi j)) + (lpl1 j))), (3, vI j), (0, .ref x0)]) hx hb dX6_fingerprint_115 rfl hl (by decide) rfl (fun ls hl => ?_)
          refine lv_lload_n hx hb dX6_fingerprint_116 rfl (lv_at hl 0 rfl) ?_
          refine lv_aload_n hx hb dX6_fingerprint_117 rfl (lv_at hl 2 rfl) ?_
          refine va_get (D := dd) (ci := 6) (v := .ref l0) (C := RX6) (T := TX6) (N := 10) hx hb hts hi6 hown hK hP 0 rfl rfl 3 (by decide) (hts _ (List.mem_cons_of_mem _ (List.mem_append_left _ (List.mem_append_left _ (List.mem_append_left _ (List.mem_append_left _ (List.mem_of_getElem? (i := 6) rfl))))))) (fun _ h9 => h9) rfl dX6_fingerprint_118 ?_
          refine va_get (D := dd) (ci := 1) (v := .ref l5) (C := RX1) (T := TX1) (N := 10) hx hb hts hi1 hown hK hP 1 rfl rfl 5 (by decide) (hts _ (List.mem_cons_of_mem _ (List.mem_append_left _ (List.mem_append_left _ (List.mem_append_left _ (List.mem_append_left _ (List.mem_of_getElem? (i := 8) rfl))))))) (fun _ h9 => h9) rfl dX6_fingerprint_121 ?_
          refine lv_iload_n hx hb dX6_fingerprint_124 rfl (lv_at hl 1 rfl) ?_
          refine z_iald hx hb hK hP 6 0 rfl rfl (i := j) (by omega) (by decide) dX6_fingerprint_125 ?_
          refine lv_i2l (v := zL (llk1 j)) hx hb dX6_fingerprint_126 (zL_of (by omega)) ?_
          refine g_callSl (own := RX6) (n := 2) (mc := 0) (ms := 0) (As := [vL (31 * (31 * b2 + (wi j)) + (lpl1 j)), vL (llk1 j)]) (rest := []) (wc := []) (wr := [kO x0 6 [vI n, .ref s0, .ref h0, .ref l0, .ref m0, .ref p0, .ref e0, .ref w0, .ref t0, vI tl], kO l0 1 [vI n, .ref l1, .ref l2, .ref l3, .ref l4, .ref l5, vI ru, vI re, vI ct, vI lfi1], kI cI l1 8 (cpZ cap lcap n), kI cI l2 8 lst1, kI cI l3 9 lwi1, kI cI l4 9 lpl1, kI cI l5 9 llk1, kO s0 5 [.ref s1, .ref s2, vI ct, vI ru, vI re], kI cI s1 8 cap, kI cI s2 9 wi]) hx hb hml hown hts hK hP hD hS hA [] [0, 1, 2, 3, 4, 5, 6, 7, 8, 9] rfl rfl (by decide) (by decide) (c_X6_mix l dd cI cJ cC cS (31 * (31 * b2 + (wi j)) + (lpl1 j)) (llk1 j) H.size) gX6_fingerprint_X6_mix rfl (by decide +kernel) (by decide) (by decide) (by decide) (by decide) rfl hl.1 rfl (Nat.le_of_ble_eq_true rfl) dX6_fingerprint_127 (fun z_27 u_28 H locs hp127 hP hD hS => ?_)
          subst z_27
          have hP : va_P dd vwCl [kO x0 6 [vI n, .ref s0, .ref h0, .ref l0, .ref m0, .ref p0, .ref e0, .ref w0, .ref t0, vI tl], kO l0 1 [vI n, .ref l1, .ref l2, .ref l3, .ref l4, .ref l5, vI ru, vI re, vI ct, vI lfi1], kI cI l1 8 (cpZ cap lcap n), kI cI l2 8 lst1, kI cI l3 9 lwi1, kI cI l4 9 lpl1, kI cI l5 9 llk1, kO s0 5 [.ref s1, .ref s2, vI ct, vI ru, vI re], kI cI s1 8 cap, kI cI s2 9 wi] H := hP
          have hD : va_D A [kO x0 6 [vI n, .ref s0, .ref h0, .ref l0, .ref m0, .ref p0, .ref e0, .ref w0, .ref t0, vI tl], kO l0 1 [vI n, .ref l1, .ref l2, .ref l3, .ref l4, .ref l5, vI ru, vI re, vI ct, vI lfi1], kI cI l1 8 (cpZ cap lcap n), kI cI l2 8 lst1, kI cI l3 9 lwi1, kI cI l4 9 lpl1, kI cI l5 9 llk1, kO s0 5 [.ref s1, .ref s2, vI ct, vI ru, vI re], kI cI s1 8 cap, kI cI s2 9 wi] := hD
          refine lv_lstore_n (lv' := [(1, vL (31 * (31 * (31 * b2 + (wi j)) + (lpl1 j)) + (llk1 j))), (3, vI j), (0, .ref x0)]) hx hb dX6_fingerprint_130 rfl hl (by decide) rfl (fun ls hl => ?_)
          refine z_iinc (a := j) (z := (j + 1)) (lv' := [(3, vI (j + 1)), (1, vL (31 * (31 * (31 * b2 + (wi j)) + (lpl1 j)) + (llk1 j))), (0, .ref x0)]) hx hb dX6_fingerprint_131 hl (k := 1) rfl rfl (by decide) rfl (fun ls hl => ?_)
          refine lv_goto (tgt := 75) hx hb dX6_fingerprint_134 (by decide) ?_
          exact L75i _ (by omega) (j + 1) (31 * (31 * (31 * b2 + (wi j)) + (lpl1 j)) + (llk1 j)) H locs ls rfl (by omega) (by rw [fpW_s (by omega), hb2]) hP hD hS (lv_sub hl [1, 0, 2] rfl)
      exact L75 _ 0 (31 * (31 * b + (10 * ru + re)) + ct) H locs ls rfl (by omega) (by rw [hbb, show i = n by omega]; rfl) hP hD hS (lv_sub hl [1, 0, 2] rfl)
    · skip
      refine lv_lload_n hx hb dX6_fingerprint_26 rfl (lv_at hl 0 rfl) ?_
      refine lv_aload_n hx hb dX6_fingerprint_27 rfl (lv_at hl 2 rfl) ?_
      refine va_get (D := dd) (ci := 6) (v := .ref s0) (C := RX6) (T := TX6) (N := 10) hx hb hts hi6 hown hK hP 0 rfl rfl 1 (by decide) (hts _ (List.mem_cons_of_mem _ (List.mem_append_left _ (List.mem_append_left _ (List.mem_append_left _ (List.mem_append_left _ (List.mem_of_getElem? (i := 2) rfl))))))) (fun _ h9 => h9) rfl dX6_fingerprint_28 ?_
      refine va_get (D := dd) (ci := 5) (v := .ref s1) (C := RX5) (T := TX5) (N := 5) hx hb hts hi5 hown hK hP 1 rfl rfl 0 (by decide) (hts _ (List.mem_cons_of_mem _ (List.mem_append_left _ (List.mem_append_left _ (List.mem_append_left _ (List.mem_append_left _ (List.mem_of_getElem? (i := 3) rfl))))))) (fun _ h9 => h9) rfl dX6_fingerprint_31 ?_
      refine lv_iload_n hx hb dX6_fingerprint_34 rfl (lv_at hl 1 rfl) ?_
      refine z_iald hx hb hK hP 2 0 rfl rfl (i := i) (by omega) (by decide) dX6_fingerprint_35 ?_
      have f_29 := hcap i (by omega) (by omega)
      refine lv_i2l (v := zL (cap i)) hx hb dX6_fingerprint_36 (zL_of (by omega)) ?_
      refine g_callSl (own := RX6) (n := 2) (mc := 0) (ms := 0) (As := [vL b, vL (cap i)]) (rest := []) (wc := []) (wr := [kO x0 6 [vI n, .ref s0, .ref h0, .ref l0, .ref m0, .ref p0, .ref e0, .ref w0, .ref t0, vI tl], kO s0 5 [.ref s1, .ref s2, vI ct, vI ru, vI re], kI cI s1 8 cap, kI cI s2 9 wi, kO l0 1 [vI n, .ref l1, .ref l2, .ref l3, .ref l4, .ref l5, vI ru, vI re, vI ct, vI lfi1], kI cI l1 8 (cpZ cap lcap n), kI cI l2 8 lst1, kI cI l3 9 lwi1, kI cI l4 9 lpl1, kI cI l5 9 llk1]) hx hb hml hown hts hK hP hD hS hA [] [0, 1, 2, 3, 4, 5, 6, 7, 8, 9] rfl rfl (by decide) (by decide) (c_X6_mix l dd cI cJ cC cS b (cap i) H.size) gX6_fingerprint_X6_mix rfl (by decide +kernel) (by decide) (by decide) (by decide) (by decide) rfl hl.1 rfl (Nat.le_of_ble_eq_true rfl) dX6_fingerprint_37 (fun z_30 u_31 H locs hp37 hP hD hS => ?_)
      subst z_30
      have hP : va_P dd vwCl [kO x0 6 [vI n, .ref s0, .ref h0, .ref l0, .ref m0, .ref p0, .ref e0, .ref w0, .ref t0, vI tl], kO s0 5 [.ref s1, .ref s2, vI ct, vI ru, vI re], kI cI s1 8 cap, kI cI s2 9 wi, kO l0 1 [vI n, .ref l1, .ref l2, .ref l3, .ref l4, .ref l5, vI ru, vI re, vI ct, vI lfi1], kI cI l1 8 (cpZ cap lcap n), kI cI l2 8 lst1, kI cI l3 9 lwi1, kI cI l4 9 lpl1, kI cI l5 9 llk1] H := hP
      have hD : va_D A [kO x0 6 [vI n, .ref s0, .ref h0, .ref l0, .ref m0, .ref p0, .ref e0, .ref w0, .ref t0, vI tl], kO s0 5 [.ref s1, .ref s2, vI ct, vI ru, vI re], kI cI s1 8 cap, kI cI s2 9 wi, kO l0 1 [vI n, .ref l1, .ref l2, .ref l3, .ref l4, .ref l5, vI ru, vI re, vI ct, vI lfi1], kI cI l1 8 (cpZ cap lcap n), kI cI l2 8 lst1, kI cI l3 9 lwi1, kI cI l4 9 lpl1, kI cI l5 9 llk1] := hD
      refine lv_lstore_n (lv' := [(1, vL (31 * b + (cap i))), (3, vI i), (0, .ref x0)]) hx hb dX6_fingerprint_40 rfl hl (by decide) rfl (fun ls hl => ?_)
      refine z_iinc (a := i) (z := (i + 1)) (lv' := [(3, vI (i + 1)), (1, vL (31 * b + (cap i))), (0, .ref x0)]) hx hb dX6_fingerprint_41 hl (k := 1) rfl rfl (by decide) rfl (fun ls hl => ?_)
      refine lv_goto (tgt := 18) hx hb dX6_fingerprint_44 (by decide) ?_
      exact L18i _ (by omega) (i + 1) (31 * b + (cap i)) H locs ls rfl (by omega) (by rw [fpC_s (by omega), hbb]) hP hD hS (lv_sub hl [1, 0, 2] rfl)
  exact L18 _ 0 (31 * 61 + n) H locs ls rfl (by omega) (rfl) hP hD hS (lv_sub hl [1, 0, 2] rfl)
