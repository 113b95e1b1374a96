/-! paths: rows by spaces and cars -/
def cntE (wi : Int → Int) (x : Int) : Nat → Int
  | 0 => 0
  | k + 1 => cntE wi x k + (if wi (k : Int) = x then 1 else 0)
theorem cntE_s {wi : Int → Int} {x i : Int} (h : 0 ≤ i) : cntE wi x (i + 1).toNat = cntE wi x i.toNat + (if wi i = x then 1 else 0) := by
  obtain ⟨j, rfl⟩ := Int.eq_ofNat_of_zero_le h
  have e : ((j : Int) + 1).toNat = j + 1 := by omega
  rw [e, Int.toNat_natCast]
  rfl
theorem cntE_rg (wi : Int → Int) (x : Int) : ∀ k : Nat, 0 ≤ cntE wi x k ∧ cntE wi x k ≤ k
  | 0 => ⟨Int.le_refl _, Int.le_refl _⟩
  | k + 1 => by
    have := cntE_rg wi x k
    show 0 ≤ cntE wi x k + _ ∧ cntE wi x k + _ ≤ _
    split <;> omega
theorem cntB_E (wi : Int → Int) (x : Int) : ∀ k : Nat, cntB wi (x + 1) k = cntB wi x k + cntE wi x k
  | 0 => rfl
  | k + 1 => by
    show cntB wi (x + 1) k + _ = cntB wi x k + _ + (cntE wi x k + _)
    rw [cntB_E wi x k]
    by_cases h : wi k < x
    · rw [if_pos (by omega), if_pos h, if_neg (by omega)]; omega
    · by_cases h2 : wi k = x
      · rw [if_pos (by omega), if_neg h, if_pos h2]; omega
      · rw [if_neg (by omega), if_neg h, if_neg h2]; omega
theorem cntE_mono (wi : Int → Int) (x : Int) (i : Nat) : ∀ k : Nat, i ≤ k → cntE wi x i ≤ cntE wi x k
  | 0, h => by rw [show i = 0 by omega]; exact Int.le_refl _
  | k + 1, h => by
    show cntE wi x i ≤ cntE wi x k + _
    by_cases q : i = k + 1
    · rw [q]
      show cntE wi x k + _ ≤ _
      exact Int.le_refl _
    · have := cntE_mono wi x i k (by omega)
      split <;> omega
theorem cntB_mono (wi : Int → Int) {x y : Int} (h : x ≤ y) : ∀ k : Nat, cntB wi x k ≤ cntB wi y k
  | 0 => Int.le_refl _
  | k + 1 => by
    have := cntB_mono wi h k
    show cntB wi x k + _ ≤ cntB wi y k + _
    split <;> split <;> omega
theorem cntB_0 {wi : Int → Int} : ∀ k : Nat, (∀ j : Int, 0 ≤ j → j < k → 0 ≤ wi j) → cntB wi 0 k = 0
  | 0, _ => rfl
  | k + 1, h => by
    show cntB wi 0 k + _ = 0
    have := h k (by omega) (by omega)
    rw [cntB_0 k (fun j h0 h1 => h j h0 (by omega)), if_neg (by omega)]
    rfl
/-- the row of a car -/
def rk (wi : Int → Int) (ct j : Int) : Int := cntB wi (wi j) ct.toNat + cntE wi (wi j) j.toNat
def rR (wi : Int → Int) (ct s c : Int) : Int := cntB wi s ct.toNat + cntE wi s c.toNat
theorem rR_0 (wi : Int → Int) (ct s : Int) : rR wi ct s 0 = cntB wi s ct.toNat := Int.add_zero _
theorem rR_rg {wi : Int → Int} {ct s c : Int} (hc : 0 ≤ c ∧ c ≤ ct) : 0 ≤ rR wi ct s c ∧ rR wi ct s c ≤ ct := by
  have h1 := cntB_rg wi s ct.toNat
  have h2 := cntE_rg wi s c.toNat
  have h3 := cntE_mono wi s c.toNat ct.toNat (by omega)
  have h4 := cntB_E wi s ct.toNat
  have h5 := cntB_rg wi (s + 1) ct.toNat
  unfold rR
  omega
theorem rR_s {wi : Int → Int} {ct s c : Int} (h : 0 ≤ c) : rR wi ct s (c + 1) = rR wi ct s c + (if wi c = s then 1 else 0) := by
  unfold rR
  rw [cntE_s h, Int.add_assoc]
theorem rR_n {wi : Int → Int} {ct s : Int} : rR wi ct s ct = cntB wi (s + 1) ct.toNat := (cntB_E wi s ct.toNat).symm
theorem rk_lt {wi : Int → Int} {ct s c j : Int} (hj : 0 ≤ j ∧ j < ct) (h : wi j < s ∨ (wi j = s ∧ j < c)) : rk wi ct j < rR wi ct s c := by
  rcases h with h | ⟨h1, h2⟩
  · have h1 := rR_s (wi := wi) (ct := ct) (s := wi j) hj.1
    rw [if_pos rfl] at h1
    have h2 : rR wi ct (wi j) (j + 1) ≤ rR wi ct (wi j) ct := by
      unfold rR
      have := cntE_mono wi (wi j) (j + 1).toNat ct.toNat (by omega)
      omega
    rw [rR_n] at h2
    have h3 := cntB_mono wi (show wi j + 1 ≤ s by omega) ct.toNat
    have h4 := cntE_rg wi s c.toNat
    have e1 : rk wi ct j = rR wi ct (wi j) j := rfl
    have e2 : rR wi ct s c = cntB wi s ct.toNat + cntE wi s c.toNat := rfl
    omega
  · have h3 := rR_s (wi := wi) (ct := ct) (s := wi j) hj.1
    rw [if_pos rfl] at h3
    have h4 : rR wi ct (wi j) (j + 1) ≤ rR wi ct (wi j) c := by
      unfold rR
      have := cntE_mono wi (wi j) (j + 1).toNat c.toNat (by omega)
      omega
    have e1 : rk wi ct j = rR wi ct (wi j) j := rfl
    rw [← h1]
    omega
def drawn (wi : Int → Int) (ct s c : Int) (la aa : Int → Int) : Prop := ∀ j : Int, 0 ≤ j → j < ct → 0 ≤ wi j → (wi j < s ∨ (wi j = s ∧ j < c)) → la (rk wi ct j) = j ∧ aa (rk wi ct j) = rk wi ct j - wi j
theorem drawn_0 {wi : Int → Int} {ct : Int} {la aa : Int → Int} : drawn wi ct 0 0 la aa := fun j h0 _ h2 h3 => absurd h3 (by omega)
theorem drawn_put {wi : Int → Int} {ct s c r : Int} {la aa : Int → Int} (h : drawn wi ct s c la aa) (hc : 0 ≤ c) (hw : wi c = s) (hr : r = rR wi ct s c) : drawn wi ct s (c + 1) (uZ la r c) (uZ aa r (r - s)) := by
  intro j h0 h1 h2 h3
  by_cases q : j = c
  · subst q
    have e : rk wi ct j = r := by rw [hr, ← hw]; rfl
    rw [e, uZ_same, uZ_same, hw]
    exact ⟨rfl, rfl⟩
  · have h4 : wi j < s ∨ (wi j = s ∧ j < c) := by omega
    have h5 := rk_lt ⟨h0, h1⟩ h4
    rw [uZ_ne (by omega), uZ_ne (by omega)]
    exact h j h0 h1 h2 h4
theorem drawn_skip {wi : Int → Int} {ct s c : Int} {la aa : Int → Int} (h : drawn wi ct s c la aa) (hw : wi c ≠ s) : drawn wi ct s (c + 1) la aa := by
  intro j h0 h1 h2 h3
  refine h j h0 h1 h2 ?_
  rcases h3 with h3 | ⟨h3, h4⟩
  · exact Or.inl h3
  · right
    refine ⟨h3, ?_⟩
    by_cases q : j = c
    · subst q; exact absurd h3 hw
    · omega
theorem drawn_next {wi : Int → Int} {ct s : Int} {la aa : Int → Int} (h : drawn wi ct s ct la aa) : drawn wi ct (s + 1) 0 la aa := fun j h0 h1 h2 h3 => h j h0 h1 h2 (by omega)
/-- rows seen before, from the greatest area on -/
def vW (aa : Int → Int) (n w r : Int) : Int := sumZ (fun i => if w < aa i ∨ (w = aa i ∧ r < i) then 1 else 0) n.toNat
theorem vW_rg (aa : Int → Int) {n : Int} (hn : 0 ≤ n) (w r : Int) : 0 ≤ vW aa n w r ∧ vW aa n w r ≤ n := by
  have h := sumZ_rg (f := fun i => if w < aa i ∨ (w = aa i ∧ r < i) then (1 : Int) else 0) (c := 1) n.toNat (fun j _ _ => by
    show 0 ≤ (if _ then (1 : Int) else 0) ∧ (if _ then (1 : Int) else 0) ≤ 1
    split <;> omega)
  unfold vW
  omega
theorem vW_s {aa : Int → Int} {n w r : Int} (hr : 0 ≤ r ∧ r < n) : vW aa n w (r - 1) = vW aa n w r + (if aa r = w then 1 else 0) := by
  unfold vW
  rw [sum_upd (fun i => if w < aa i ∨ (w = aa i ∧ r < i) then (1 : Int) else 0) (fun i => if w < aa i ∨ (w = aa i ∧ r - 1 < i) then (1 : Int) else 0) r (if aa r = w then 1 else 0) hr.1 n.toNat ?_ ?_, if_pos (by omega)]
  · intro j h0 h1
    by_cases q : w < aa j ∨ (w = aa j ∧ r < j)
    · rw [if_pos q, if_pos (by omega)]
    · rw [if_neg q, if_neg (by omega)]
  · by_cases q : aa r = w
    · rw [if_pos q, if_pos (by omega), if_neg (by omega)]; rfl
    · rw [if_neg q]
      by_cases q2 : w < aa r
      · rw [if_pos (Or.inl q2), if_pos (Or.inl q2)]; rfl
      · rw [if_neg (by omega), if_neg (by omega)]; rfl
theorem vW_next {aa : Int → Int} {n w : Int} : vW aa n (w - 1) (n - 1) = vW aa n w (-1) := by
  refine sumZ_congr _ (fun j h0 h1 => ?_)
  by_cases q : w < aa j ∨ (w = aa j ∧ -1 < j)
  · rw [if_pos q, if_pos (by omega)]
  · rw [if_neg q, if_neg (by omega)]
theorem sumZ_0 {f : Int → Int} : ∀ k : Nat, (∀ j : Int, 0 ≤ j → j < k → f j = 0) → sumZ f k = 0
  | 0, _ => rfl
  | k + 1, h => by
    show sumZ f k + f k = 0
    rw [sumZ_0 k (fun j h0 h1 => h j h0 (by omega)), h k (by omega) (by omega)]
    rfl
theorem sumZ_1 {f : Int → Int} : ∀ k : Nat, (∀ j : Int, 0 ≤ j → j < k → f j = 1) → sumZ f k = k
  | 0, _ => rfl
  | k + 1, h => by
    show sumZ f k + f k = ((k + 1 : Nat) : Int)
    rw [sumZ_1 k (fun j h0 h1 => h j h0 (by omega)), h k (by omega) (by omega)]
    omega
theorem vW_top {aa : Int → Int} {n : Int} (h : ∀ j : Int, 0 ≤ j → j < n → 0 ≤ aa j ∧ aa j ≤ n - 1) : vW aa n (n - 1) (n - 1) = 0 := sumZ_0 _ (fun j h0 h1 => by
  have := h j h0 (by omega)
  exact if_neg (by omega))
theorem vW_end {aa : Int → Int} {n : Int} (hn : 0 ≤ n) (h : ∀ j : Int, 0 ≤ j → j < n → 0 ≤ aa j ∧ aa j ≤ n - 1) : vW aa n (-1) (n - 1) = n := by
  have e := sumZ_1 (f := fun i => if (-1 : Int) < aa i ∨ (-1 = aa i ∧ n - 1 < i) then (1 : Int) else 0) n.toNat (fun j h0 h1 => by
    have := h j h0 (by omega)
    exact if_pos (by omega))
  unfold vW
  rw [e]
  omega
def inZ (la aa : Int → Int) (i j : Int) : Int := if (aa i = aa j ∧ la i < la j) ∨ (aa i = aa j + 1 ∧ la j < la i) then 1 else 0
theorem inZ_rg (la aa : Int → Int) (i j : Int) : 0 ≤ inZ la aa i j ∧ inZ la aa i j ≤ 1 := by
  unfold inZ
  split <;> omega
def inS (la aa : Int → Int) (n i : Int) : Int := sumZ (fun j => if i < j then inZ la aa i j else 0) n.toNat

set_option maxHeartbeats 4000000 in
set_option maxRecDepth 100000 in
theorem c_X3_draw (l : Launch) (dd : va_G) (cI cJ cC cS : ClassId) (q0 q1 q2 s0 s1 s2 : Nat) (n : Int) (la aa : Int → Int) (cap wi : Int → Int) (ct ru re : Int) (sz : Nat) (hn : 1 ≤ n ∧ n ≤ 8) (hct : ct = n) (hwi : ∀ j : Int, 0 ≤ j → j < ct → 0 ≤ wi j ∧ wi j ≤ 8) : gMv l yX3_draw wsX3_draw 1 0 0 dd cI cJ cC cS [.ref q0, .ref s0] [kO q0 3 [vI n, .ref q1, .ref q2], kI cI q1 8 la, kI cI q2 8 aa, kO s0 5 [.ref s1, .ref s2, vI ct, vI ru, vI re], kI cI s1 8 cap, kI cI s2 9 wi] sz (fun (u : (Int → Int) × (Int → Int)) => drawn wi ct n 0 u.1 u.2) (fun (u : (Int → Int) × (Int → Int)) => [kO q0 3 [vI n, .ref q1, .ref q2], kI cI q1 8 u.1, kI cI q2 8 u.2, kO s0 5 [.ref s1, .ref s2, vI ct, vI ru, vI re], kI cI s1 8 cap, kI cI s2 9 wi]) := by
  refine gMv_of (cc := cX3_draw) (maxL := 5) (ret := none) (by decide) rfl (Nat.le_of_ble_eq_true rfl) ?_
  intro p e s m args below meth c A Q hQ hx hb hr hts hown hlocks hnm hml H locs hP hK hD hA hS ls hl
  have hi3 : ∀ w ∈ wsX30, w ∈ wsX3_draw := fun _ h => (List.mem_cons_of_mem _ (List.mem_append_left _ (List.mem_append_right _ h)))
  have hi5 : ∀ w ∈ wsX50, w ∈ wsX3_draw := fun _ h => (List.mem_cons_of_mem _ (List.mem_append_right _ h))
  have hl : lv_has ls 5 [(0, .ref q0), (1, .ref s0)] := hl
  refine z_iconst hx hb dX3_draw_0 ?_
  refine lv_istore_n (lv' := [(2, vI 0), (0, .ref q0), (1, .ref s0)]) hx hb dX3_draw_1 rfl hl (by decide) rfl (fun ls hl => ?_)
  refine z_iconst hx hb dX3_draw_2 ?_
  refine lv_istore_n (lv' := [(3, vI 0), (2, vI 0), (0, .ref q0), (1, .ref s0)]) hx hb dX3_draw_3 rfl hl (by decide) rfl (fun ls hl => ?_)
  have L4 : ∀ (nn : Nat) (s9 : Int) (r : Int) (lb : Int → Int) (ab : Int → Int) (H : Heap) (locs : List Loc) (ls : Array Slot), ((n + 1 - s9).toNat) = nn → (0 ≤ s9 ∧ s9 ≤ n) → (r = rR wi ct s9 0) → (drawn wi ct s9 0 lb ab) → va_P dd vwCl [kO q0 3 [vI n, .ref q1, .ref q2], kI cI q1 8 lb, kI cI q2 8 ab, kO s0 5 [.ref s1, .ref s2, vI ct, vI ru, vI re], kI cI s1 8 cap, kI cI s2 9 wi] H → va_D A [kO q0 3 [vI n, .ref q1, .ref q2], kI cI q1 8 lb, kI cI q2 8 ab, kO s0 5 [.ref s1, .ref s2, vI ct, vI ru, vI re], kI cI s1 8 cap, kI cI s2 9 wi] → va_S A s.heap H locs → lv_has ls 5 [(2, vI r), (3, vI s9), (0, .ref q0), (1, .ref s0)] → W p l e (gR 1 0 0) s m args below meth c H locs 0 0 Q (F0 m 4 ls []) := by
    intro nn
    induction nn using Nat.strongRecOn with
    | ind nn L4i =>
    intro s9 r lb ab H locs ls hmeas hs9 hrr hdr hP hD hS hl
    refine lv_iload_n hx hb dX3_draw_4 rfl (lv_at hl 1 rfl) ?_
    refine lv_aload_n hx hb dX3_draw_5 rfl (lv_at hl 2 rfl) ?_
    refine va_get (D := dd) (ci := 3) (v := vI n) (C := RX3) (T := TX3) (N := 3) hx hb hts hi3 hown hK hP 0 rfl rfl 0 (by decide) (hts _ (List.mem_cons_of_mem _ (List.mem_append_left _ (List.mem_append_left _ (List.mem_of_getElem? (i := 0) rfl))))) (fun _ h9 => h9) rfl dX3_draw_6 ?_
    refine z_icmp_ge (tgt := 75) hx hb dX3_draw_9 (by decide) (by omega) (fun c9 => ?_) (fun c9 => ?_)
    · skip
      subst hQ
      refine z_vret hx hb hr hlocks dX3_draw_75 (lb, ab) hK hS ⟨by omega, by omega⟩ hP hD ?_
      rw [show n = s9 by omega]
      exact hdr
    · skip
      refine z_iconst hx hb dX3_draw_12 ?_
      refine lv_istore (lv' := [(4, vI 0), (2, vI r), (3, vI s9), (0, .ref q0), (1, .ref s0)]) hx hb dX3_draw_13 hl (by decide) rfl (fun ls hl => ?_)
      have L15 : ∀ (nn : Nat) (cr : Int) (r2 : Int) (lc : Int → Int) (ac : Int → Int) (H : Heap) (locs : List Loc) (ls : Array Slot), ((ct + 1 - cr).toNat) = nn → (0 ≤ cr ∧ cr ≤ ct) → (r2 = rR wi ct s9 cr) → (drawn wi ct s9 cr lc ac) → va_P dd vwCl [kO q0 3 [vI n, .ref q1, .ref q2], kI cI q1 8 lc, kI cI q2 8 ac, kO s0 5 [.ref s1, .ref s2, vI ct, vI ru, vI re], kI cI s1 8 cap, kI cI s2 9 wi] H → va_D A [kO q0 3 [vI n, .ref q1, .ref q2], kI cI q1 8 lc, kI cI q2 8 ac, kO s0 5 [.ref s1, .ref s2, vI ct, vI ru, vI re], kI cI s1 8 cap, kI cI s2 9 wi] → va_S A s.heap H locs → lv_has ls 5 [(4, vI cr), (2, vI r2), (3, vI s9), (0, .ref q0), (1, .ref s0)] → W p l e (gR 1 0 0) s m args below meth c H locs 0 0 Q (F0 m 15 ls []) := by
        intro nn
        induction nn using Nat.strongRecOn with
        | ind nn L15i =>
        intro cr r2 lc ac H locs ls hmeas hc hr2 hdr2 hP hD hS hl
        refine lv_iload hx hb dX3_draw_15 (lv_at hl 0 rfl) ?_
        refine lv_aload_n hx hb dX3_draw_17 rfl (lv_at hl 4 rfl) ?_
        refine va_get (D := dd) (ci := 5) (v := vI ct) (C := RX5) (T := TX5) (N := 5) hx hb hts hi5 hown hK hP 3 rfl rfl 2 (by decide) (hts _ (List.mem_cons_of_mem _ (List.mem_append_left _ (List.mem_append_left _ (List.mem_of_getElem? (i := 1) rfl))))) (fun _ h9 => h9) rfl dX3_draw_18 ?_
        refine z_icmp_ge (tgt := 69) hx hb dX3_draw_21 (by decide) (by omega) (fun c21 => ?_) (fun c21 => ?_)
        · skip
          refine z_iinc (a := s9) (z := (s9 + 1)) (lv' := [(3, vI (s9 + 1)), (4, vI cr), (2, vI r2), (0, .ref q0), (1, .ref s0)]) hx hb dX3_draw_69 hl (k := 2) rfl rfl (by decide) rfl (fun ls hl => ?_)
          refine lv_goto (tgt := 4) hx hb dX3_draw_72 (by decide) ?_
          exact L4i _ (by omega) (s9 + 1) r2 lc ac H locs ls rfl (by omega) (by rw [hr2, show cr = ct by omega, rR_n, rR_0]) (drawn_next (by rw [show ct = cr by omega] at hdr2 ⊢; exact hdr2)) hP hD hS (lv_sub hl [2, 0, 3, 4] rfl)
        · skip
          refine lv_aload_n hx hb dX3_draw_24 rfl (lv_at hl 4 rfl) ?_
          refine va_get (D := dd) (ci := 5) (v := .ref s2) (C := RX5) (T := TX5) (N := 5) hx hb hts hi5 hown hK hP 3 rfl rfl 1 (by decide) (hts _ (List.mem_cons_of_mem _ (List.mem_append_left _ (List.mem_append_left _ (List.mem_of_getElem? (i := 2) rfl))))) (fun _ h9 => h9) rfl dX3_draw_25 ?_
          refine lv_iload hx hb dX3_draw_28 (lv_at hl 0 rfl) ?_
          refine z_iald hx hb hK hP 5 0 rfl rfl (i := cr) (by omega) (by decide) dX3_draw_30 ?_
          have f_1 := hwi cr (by omega) (by omega)
          refine lv_iload_n hx hb dX3_draw_31 rfl (lv_at hl 2 rfl) ?_
          refine z_icmp_ne (tgt := 63) hx hb dX3_draw_32 (by decide) (by omega) (fun c32 => ?_) (fun c32 => ?_)
          · skip
            refine z_iinc (a := cr) (z := (cr + 1)) (lv' := [(4, vI (cr + 1)), (2, vI r2), (3, vI s9), (0, .ref q0), (1, .ref s0)]) hx hb dX3_draw_63 hl (k := 0) rfl rfl (by decide) rfl (fun ls hl => ?_)
            refine lv_goto (tgt := 15) hx hb dX3_draw_66 (by decide) ?_
            exact L15i _ (by omega) (cr + 1) r2 lc ac H locs ls rfl (by omega) (by rw [rR_s (by omega), if_neg (by omega)]; omega) (drawn_skip hdr2 (by omega)) hP hD hS hl
          · skip
            have hR1 := rR_rg (wi := wi) (ct := ct) (s := s9) (c := cr) (by omega)
            have hR2 := rR_rg (wi := wi) (ct := ct) (s := s9) (c := cr + 1) (by omega)
            rw [rR_s (by omega), if_pos (by omega)] at hR2
            refine lv_iload_n hx hb dX3_draw_35 rfl (lv_at hl 1 rfl) ?_
            refine lv_aload_n hx hb dX3_draw_36 rfl (lv_at hl 3 rfl) ?_
            refine va_get (D := dd) (ci := 3) (v := vI n) (C := RX3) (T := TX3) (N := 3) hx hb hts hi3 hown hK hP 0 rfl rfl 0 (by decide) (hts _ (List.mem_cons_of_mem _ (List.mem_append_left _ (List.mem_append_left _ (List.mem_of_getElem? (i := 0) rfl))))) (fun _ h9 => h9) rfl dX3_draw_37 ?_
            refine z_icmp_ge (tgt := 63) hx hb dX3_draw_40 (by decide) (by omega) (fun c40 => ?_) (fun c40 => ?_)
            · exact absurd c40 (by omega)
            · skip
              refine lv_aload_n hx hb dX3_draw_43 rfl (lv_at hl 3 rfl) ?_
              refine va_get (D := dd) (ci := 3) (v := .ref q1) (C := RX3) (T := TX3) (N := 3) hx hb hts hi3 hown hK hP 0 rfl rfl 1 (by decide) (hts _ (List.mem_cons_of_mem _ (List.mem_append_left _ (List.mem_append_left _ (List.mem_of_getElem? (i := 3) rfl))))) (fun _ h9 => h9) rfl dX3_draw_44 ?_
              refine lv_iload_n hx hb dX3_draw_47 rfl (lv_at hl 1 rfl) ?_
              refine lv_iload hx hb dX3_draw_48 (lv_at hl 0 rfl) ?_
              refine z_iast (ws' := [kO q0 3 [vI n, .ref q1, .ref q2], kI cI q1 8 (uZ lc r2 cr), kI cI q2 8 ac, kO s0 5 [.ref s1, .ref s2, vI ct, vI ru, vI re], kI cI s1 8 cap, kI cI s2 9 wi]) hx hb hK hP hD hS 1 0 rfl rfl (i := r2) (x := cr) (by omega) (by decide) dX3_draw_50 rfl (fun H locs hP hD hS => ?_)
              refine lv_aload_n hx hb dX3_draw_51 rfl (lv_at hl 3 rfl) ?_
              refine va_get (D := dd) (ci := 3) (v := .ref q2) (C := RX3) (T := TX3) (N := 3) hx hb hts hi3 hown hK hP 0 rfl rfl 2 (by decide) (hts _ (List.mem_cons_of_mem _ (List.mem_append_left _ (List.mem_append_left _ (List.mem_of_getElem? (i := 4) rfl))))) (fun _ h9 => h9) rfl dX3_draw_52 ?_
              refine lv_iload_n hx hb dX3_draw_55 rfl (lv_at hl 1 rfl) ?_
              refine lv_iload_n hx hb dX3_draw_56 rfl (lv_at hl 1 rfl) ?_
              refine lv_iload_n hx hb dX3_draw_57 rfl (lv_at hl 2 rfl) ?_
              refine z_isub (z := (r2 - s9)) hx hb rfl dX3_draw_58 ?_
              refine z_iast (ws' := [kO q0 3 [vI n, .ref q1, .ref q2], kI cI q1 8 (uZ lc r2 cr), kI cI q2 8 (uZ ac r2 (r2 - s9)), kO s0 5 [.ref s1, .ref s2, vI ct, vI ru, vI re], kI cI s1 8 cap, kI cI s2 9 wi]) hx hb hK hP hD hS 2 0 rfl rfl (i := r2) (x := (r2 - s9)) (by omega) (by decide) dX3_draw_59 rfl (fun H locs hP hD hS => ?_)
              refine z_iinc (a := r2) (z := (r2 + 1)) (lv' := [(2, vI (r2 + 1)), (4, vI cr), (3, vI s9), (0, .ref q0), (1, .ref s0)]) hx hb dX3_draw_60 hl (k := 1) rfl rfl (by decide) rfl (fun ls hl => ?_)
              refine z_iinc (a := cr) (z := (cr + 1)) (lv' := [(4, vI (cr + 1)), (2, vI (r2 + 1)), (3, vI s9), (0, .ref q0), (1, .ref s0)]) hx hb dX3_draw_63 hl (k := 1) rfl rfl (by decide) rfl (fun ls hl => ?_)
              refine lv_goto (tgt := 15) hx hb dX3_draw_66 (by decide) ?_
              exact L15i _ (by omega) (cr + 1) (r2 + 1) (uZ lc r2 cr) (uZ ac r2 (r2 - s9)) H locs ls rfl (by omega) (by rw [rR_s (by omega), if_pos (by omega)]; omega) (drawn_put hdr2 (by omega) (by omega) hr2) hP hD hS hl
      exact L15 _ 0 r lb ab H locs ls rfl (by omega) (hrr) (hdr) hP hD hS hl
  exact L4 _ 0 0 la aa H locs ls rfl (by omega) (by rw [rR_0, cntB_0 _ (fun j h0 h1 => (hwi j h0 (by omega)).1)]) (drawn_0) hP hD hS (lv_sub hl [1, 0, 2, 3] rfl)

set_option maxHeartbeats 4000000 in
set_option maxRecDepth 100000 in
theorem c_X3_sumOfAreas (l : Launch) (dd : va_G) (cI cJ cC cS : ClassId) (q0 q1 q2 : Nat) (n : Int) (la aa : Int → Int) (sz : Nat) (hn : 1 ≤ n ∧ n ≤ 8) : gMi l yX3_sumOfAreas wsX3_sumOfAreas 1 0 0 dd cI cJ cC cS [.ref q0] [kO q0 3 [vI n, .ref q1, .ref q2], kI cI q1 8 la, kI cI q2 8 aa] sz (fun (z : Int) (_ : Unit) => z = sumZ aa n.toNat) (fun (_ : Unit) => [kO q0 3 [vI n, .ref q1, .ref q2], kI cI q1 8 la, kI cI q2 8 aa]) := by
  refine gMi_of (cc := cX3_sumOfAreas) (maxL := 3) (ret := (some .int)) (by decide) rfl (Nat.le_of_ble_eq_true rfl) ?_
  intro p e s m args below meth c A Q hQ hx hb hr hts hown hlocks hnm hml H locs hP hK hD hA hS ls hl
  have hi3 : ∀ w ∈ wsX30, w ∈ wsX3_sumOfAreas := fun _ h => (List.mem_cons_of_mem _ (List.mem_append_right _ h))
  have hl : lv_has ls 3 [(0, .ref q0)] := hl
  refine z_iconst hx hb dX3_sumOfAreas_0 ?_
  refine lv_istore_n (lv' := [(1, vI 0), (0, .ref q0)]) hx hb dX3_sumOfAreas_1 rfl hl (by decide) rfl (fun ls hl => ?_)
  refine z_iconst hx hb dX3_sumOfAreas_2 ?_
  refine lv_istore_n (lv' := [(2, vI 0), (1, vI 0), (0, .ref q0)]) hx hb dX3_sumOfAreas_3 rfl hl (by decide) rfl (fun ls hl => ?_)
  have L4 : ∀ (nn : Nat) (i : Int) (b : Int) (H : Heap) (locs : List Loc) (ls : Array Slot), ((n + 1 - i).toNat) = nn → (0 ≤ i ∧ i ≤ n) → (b = sumZ aa i.toNat) → va_P dd vwCl [kO q0 3 [vI n, .ref q1, .ref q2], kI cI q1 8 la, kI cI q2 8 aa] H → va_D A [kO q0 3 [vI n, .ref q1, .ref q2], kI cI q1 8 la, kI cI q2 8 aa] → va_S A s.heap H locs → lv_has ls 3 [(1, vI b), (2, vI i), (0, .ref q0)] → W p l e (gR 1 0 0) s m args below meth c H locs 0 0 Q (F0 m 4 ls []) := by
    intro nn
    induction nn using Nat.strongRecOn with
    | ind nn L4i =>
    intro i b H locs ls hmeas hi hbb hP hD hS hl
    refine lv_iload_n hx hb dX3_sumOfAreas_4 rfl (lv_at hl 1 rfl) ?_
    refine lv_aload_n hx hb dX3_sumOfAreas_5 rfl (lv_at hl 2 rfl) ?_
    refine va_get (D := dd) (ci := 3) (v := vI n) (C := RX3) (T := TX3) (N := 3) hx hb hts hi3 hown hK hP 0 rfl rfl 0 (by decide) (hts _ (List.mem_cons_of_mem _ (List.mem_append_left _ (List.mem_of_getElem? (i := 0) rfl)))) (fun _ h9 => h9) rfl dX3_sumOfAreas_6 ?_
    refine z_icmp_ge (tgt := 27) hx hb dX3_sumOfAreas_9 (by decide) (by omega) (fun c9 => ?_) (fun c9 => ?_)
    · skip
      refine lv_iload_n hx hb dX3_sumOfAreas_27 rfl (lv_at hl 0 rfl) ?_
      subst hQ
      refine z_iret (z := b) hx hb hr hlocks dX3_sumOfAreas_28 () hK hS ⟨by omega, by omega⟩ hP hD ?_
      rw [hbb, show i = n by omega]
    · skip
      refine lv_iload_n hx hb dX3_sumOfAreas_12 rfl (lv_at hl 0 rfl) ?_
      refine lv_aload_n hx hb dX3_sumOfAreas_13 rfl (lv_at hl 2 rfl) ?_
      refine va_get (D := dd) (ci := 3) (v := .ref q2) (C := RX3) (T := TX3) (N := 3) hx hb hts hi3 hown hK hP 0 rfl rfl 2 (by decide) (hts _ (List.mem_cons_of_mem _ (List.mem_append_left _ (List.mem_of_getElem? (i := 1) rfl)))) (fun _ h9 => h9) rfl dX3_sumOfAreas_14 ?_
      refine lv_iload_n hx hb dX3_sumOfAreas_17 rfl (lv_at hl 1 rfl) ?_
      refine z_iald hx hb hK hP 2 0 rfl rfl (i := i) (by omega) (by decide) dX3_sumOfAreas_18 ?_
      refine z_iadd (z := (b + (aa i))) hx hb rfl dX3_sumOfAreas_19 ?_
      refine lv_istore_n (lv' := [(1, vI (b + (aa i))), (2, vI i), (0, .ref q0)]) hx hb dX3_sumOfAreas_20 rfl hl (by decide) rfl (fun ls hl => ?_)
      refine z_iinc (a := i) (z := (i + 1)) (lv' := [(2, vI (i + 1)), (1, vI (b + (aa i))), (0, .ref q0)]) hx hb dX3_sumOfAreas_21 hl (k := 1) rfl rfl (by decide) rfl (fun ls hl => ?_)
      refine lv_goto (tgt := 4) hx hb dX3_sumOfAreas_24 (by decide) ?_
      exact L4i _ (by omega) (i + 1) (b + (aa i)) H locs ls rfl (by omega) (by rw [sumZ_s (by omega), hbb]) hP hD hS (lv_sub hl [1, 0, 2] rfl)
  exact L4 _ 0 0 H locs ls rfl (by omega) (rfl) hP hD hS (lv_sub hl [1, 0, 2] rfl)

set_option maxHeartbeats 4000000 in
set_option maxRecDepth 100000 in
theorem c_X3_isInversion (l : Launch) (dd : va_G) (cI cJ cC cS : ClassId) (q0 q1 q2 : Nat) (n : Int) (la aa : Int → Int) (i j : Int) (sz : Nat) (hn : 1 ≤ n ∧ n ≤ 8) (hla : ∀ j : Int, 0 ≤ j → j < n → 0 ≤ la j ∧ la j ≤ 8) (haa : ∀ j : Int, 0 ≤ j → j < n → 0 ≤ aa j ∧ aa j ≤ n - 1) (hij : 0 ≤ i ∧ i < n ∧ 0 ≤ j ∧ j < n) : gMi l yX3_isInversion wsX3_isInversion 1 0 0 dd cI cJ cC cS [.ref q0, vI i, vI j] [kO q0 3 [vI n, .ref q1, .ref q2], kI cI q1 8 la, kI cI q2 8 aa] sz (fun (z : Int) (_ : Unit) => z = inZ la aa i j) (fun (_ : Unit) => [kO q0 3 [vI n, .ref q1, .ref q2], kI cI q1 8 la, kI cI q2 8 aa]) := by
  refine gMi_of (cc := cX3_isInversion) (maxL := 3) (ret := (some .boolean)) (by decide) rfl (Nat.le_of_ble_eq_true rfl) ?_
  intro p e s m args below meth c A Q hQ hx hb hr hts hown hlocks hnm hml H locs hP hK hD hA hS ls hl
  have hi3 : ∀ w ∈ wsX30, w ∈ wsX3_isInversion := fun _ h => (List.mem_cons_of_mem _ (List.mem_append_right _ h))
  have hl : lv_has ls 3 [(0, .ref q0), (1, vI i), (2, vI j)] := hl
  refine lv_aload_n hx hb dX3_isInversion_0 rfl (lv_at hl 0 rfl) ?_
  refine va_get (D := dd) (ci := 3) (v := .ref q2) (C := RX3) (T := TX3) (N := 3) hx hb hts hi3 hown hK hP 0 rfl rfl 2 (by decide) (hts _ (List.mem_cons_of_mem _ (List.mem_append_left _ (List.mem_of_getElem? (i := 0) rfl)))) (fun _ h9 => h9) rfl dX3_isInversion_1 ?_
  refine lv_iload_n hx hb dX3_isInversion_4 rfl (lv_at hl 1 rfl) ?_
  refine z_iald hx hb hK hP 2 0 rfl rfl (i := i) (by omega) (by decide) dX3_isInversion_5 ?_
  have f_1 := haa i (by omega) (by omega)
  refine lv_aload_n hx hb dX3_isInversion_6 rfl (lv_at hl 0 rfl) ?_
  refine va_get (D := dd) (ci := 3) (v := .ref q2) (C := RX3) (T := TX3) (N := 3) hx hb hts hi3 hown hK hP 0 rfl rfl 2 (by decide) (hts _ (List.mem_cons_of_mem _ (List.mem_append_left _ (List.mem_of_getElem? (i := 0) rfl)))) (fun _ h9 => h9) rfl dX3_isInversion_7 ?_
  refine lv_iload_n hx hb dX3_isInversion_10 rfl (lv_at hl 2 rfl) ?_
  refine z_iald hx hb hK hP 2 0 rfl rfl (i := j) (by omega) (by decide) dX3_isInversion_11 ?_
  have f_2 := haa j (by omega) (by omega)
  refine z_icmp_ne (tgt := 30) hx hb dX3_isInversion_12 (by decide) (by omega) (fun c12 => ?_) (fun c12 => ?_)
  · skip
    refine lv_aload_n hx hb dX3_isInversion_30 rfl (lv_at hl 0 rfl) ?_
    refine va_get (D := dd) (ci := 3) (v := .ref q2) (C := RX3) (T := TX3) (N := 3) hx hb hts hi3 hown hK hP 0 rfl rfl 2 (by decide) (hts _ (List.mem_cons_of_mem _ (List.mem_append_left _ (List.mem_of_getElem? (i := 0) rfl)))) (fun _ h9 => h9) rfl dX3_isInversion_31 ?_
    refine lv_iload_n hx hb dX3_isInversion_34 rfl (lv_at hl 1 rfl) ?_
    refine z_iald hx hb hK hP 2 0 rfl rfl (i := i) (by omega) (by decide) dX3_isInversion_35 ?_
    have f_3 := haa i (by omega) (by omega)
    refine lv_aload_n hx hb dX3_isInversion_36 rfl (lv_at hl 0 rfl) ?_
    refine va_get (D := dd) (ci := 3) (v := .ref q2) (C := RX3) (T := TX3) (N := 3) hx hb hts hi3 hown hK hP 0 rfl rfl 2 (by decide) (hts _ (List.mem_cons_of_mem _ (List.mem_append_left _ (List.mem_of_getElem? (i := 0) rfl)))) (fun _ h9 => h9) rfl dX3_isInversion_37 ?_
    refine lv_iload_n hx hb dX3_isInversion_40 rfl (lv_at hl 2 rfl) ?_
    refine z_iald hx hb hK hP 2 0 rfl rfl (i := j) (by omega) (by decide) dX3_isInversion_41 ?_
    have f_4 := haa j (by omega) (by omega)
    refine z_iconst hx hb dX3_isInversion_42 ?_
    refine z_iadd (z := ((aa j) + 1)) hx hb rfl dX3_isInversion_43 ?_
    refine z_icmp_ne (tgt := 66) hx hb dX3_isInversion_44 (by decide) (by omega) (fun c44 => ?_) (fun c44 => ?_)
    · skip
      refine z_iconst hx hb dX3_isInversion_66 ?_
      subst hQ
      refine z_zret (z := 0) hx hb hr hlocks dX3_isInversion_67 (by omega) () hK hS ⟨by omega, by omega⟩ hP hD ?_
      unfold inZ
      first | (rw [if_pos (by omega)]; done) | (rw [if_neg (by omega)]; done)
    · skip
      refine lv_aload_n hx hb dX3_isInversion_47 rfl (lv_at hl 0 rfl) ?_
      refine va_get (D := dd) (ci := 3) (v := .ref q1) (C := RX3) (T := TX3) (N := 3) hx hb hts hi3 hown hK hP 0 rfl rfl 1 (by decide) (hts _ (List.mem_cons_of_mem _ (List.mem_append_left _ (List.mem_of_getElem? (i := 1) rfl)))) (fun _ h9 => h9) rfl dX3_isInversion_48 ?_
      refine lv_iload_n hx hb dX3_isInversion_51 rfl (lv_at hl 1 rfl) ?_
      refine z_iald hx hb hK hP 1 0 rfl rfl (i := i) (by omega) (by decide) dX3_isInversion_52 ?_
      have f_5 := hla i (by omega) (by omega)
      refine lv_aload_n hx hb dX3_isInversion_53 rfl (lv_at hl 0 rfl) ?_
      refine va_get (D := dd) (ci := 3) (v := .ref q1) (C := RX3) (T := TX3) (N := 3) hx hb hts hi3 hown hK hP 0 rfl rfl 1 (by decide) (hts _ (List.mem_cons_of_mem _ (List.mem_append_left _ (List.mem_of_getElem? (i := 1) rfl)))) (fun _ h9 => h9) rfl dX3_isInversion_54 ?_
      refine lv_iload_n hx hb dX3_isInversion_57 rfl (lv_at hl 2 rfl) ?_
      refine z_iald hx hb hK hP 1 0 rfl rfl (i := j) (by omega) (by decide) dX3_isInversion_58 ?_
      have f_6 := hla j (by omega) (by omega)
      refine z_icmp_le (tgt := 66) hx hb dX3_isInversion_59 (by decide) (by omega) (fun c59 => ?_) (fun c59 => ?_)
      · skip
        refine z_iconst hx hb dX3_isInversion_66 ?_
        subst hQ
        refine z_zret (z := 0) hx hb hr hlocks dX3_isInversion_67 (by omega) () hK hS ⟨by omega, by omega⟩ hP hD ?_
        unfold inZ
        first | (rw [if_pos (by omega)]; done) | (rw [if_neg (by omega)]; done)
      · skip
        refine z_iconst hx hb dX3_isInversion_62 ?_
        refine lv_goto (tgt := 67) hx hb dX3_isInversion_63 (by decide) ?_
        subst hQ
        refine z_zret (z := 1) hx hb hr hlocks dX3_isInversion_67 (by omega) () hK hS ⟨by omega, by omega⟩ hP hD ?_
        unfold inZ
        first | (rw [if_pos (by omega)]; done) | (rw [if_neg (by omega)]; done)
  · skip
    refine lv_aload_n hx hb dX3_isInversion_15 rfl (lv_at hl 0 rfl) ?_
    refine va_get (D := dd) (ci := 3) (v := .ref q1) (C := RX3) (T := TX3) (N := 3) hx hb hts hi3 hown hK hP 0 rfl rfl 1 (by decide) (hts _ (List.mem_cons_of_mem _ (List.mem_append_left _ (List.mem_of_getElem? (i := 1) rfl)))) (fun _ h9 => h9) rfl dX3_isInversion_16 ?_
    refine lv_iload_n hx hb dX3_isInversion_19 rfl (lv_at hl 1 rfl) ?_
    refine z_iald hx hb hK hP 1 0 rfl rfl (i := i) (by omega) (by decide) dX3_isInversion_20 ?_
    have f_7 := hla i (by omega) (by omega)
    refine lv_aload_n hx hb dX3_isInversion_21 rfl (lv_at hl 0 rfl) ?_
    refine va_get (D := dd) (ci := 3) (v := .ref q1) (C := RX3) (T := TX3) (N := 3) hx hb hts hi3 hown hK hP 0 rfl rfl 1 (by decide) (hts _ (List.mem_cons_of_mem _ (List.mem_append_left _ (List.mem_of_getElem? (i := 1) rfl)))) (fun _ h9 => h9) rfl dX3_isInversion_22 ?_
    refine lv_iload_n hx hb dX3_isInversion_25 rfl (lv_at hl 2 rfl) ?_
    refine z_iald hx hb hK hP 1 0 rfl rfl (i := j) (by omega) (by decide) dX3_isInversion_26 ?_
    have f_8 := hla j (by omega) (by omega)
    refine z_icmp_lt (tgt := 62) hx hb dX3_isInversion_27 (by decide) (by omega) (fun c27 => ?_) (fun c27 => ?_)
    · skip
      refine z_iconst hx hb dX3_isInversion_62 ?_
      refine lv_goto (tgt := 67) hx hb dX3_isInversion_63 (by decide) ?_
      subst hQ
      refine z_zret (z := 1) hx hb hr hlocks dX3_isInversion_67 (by omega) () hK hS ⟨by omega, by omega⟩ hP hD ?_
      unfold inZ
      first | (rw [if_pos (by omega)]; done) | (rw [if_neg (by omega)]; done)
    · skip
      refine lv_aload_n hx hb dX3_isInversion_30 rfl (lv_at hl 0 rfl) ?_
      refine va_get (D := dd) (ci := 3) (v := .ref q2) (C := RX3) (T := TX3) (N := 3) hx hb hts hi3 hown hK hP 0 rfl rfl 2 (by decide) (hts _ (List.mem_cons_of_mem _ (List.mem_append_left _ (List.mem_of_getElem? (i := 0) rfl)))) (fun _ h9 => h9) rfl dX3_isInversion_31 ?_
      refine lv_iload_n hx hb dX3_isInversion_34 rfl (lv_at hl 1 rfl) ?_
      refine z_iald hx hb hK hP 2 0 rfl rfl (i := i) (by omega) (by decide) dX3_isInversion_35 ?_
      have f_9 := haa i (by omega) (by omega)
      refine lv_aload_n hx hb dX3_isInversion_36 rfl (lv_at hl 0 rfl) ?_
      refine va_get (D := dd) (ci := 3) (v := .ref q2) (C := RX3) (T := TX3) (N := 3) hx hb hts hi3 hown hK hP 0 rfl rfl 2 (by decide) (hts _ (List.mem_cons_of_mem _ (List.mem_append_left _ (List.mem_of_getElem? (i := 0) rfl)))) (fun _ h9 => h9) rfl dX3_isInversion_37 ?_
      refine lv_iload_n hx hb dX3_isInversion_40 rfl (lv_at hl 2 rfl) ?_
      refine z_iald hx hb hK hP 2 0 rfl rfl (i := j) (by omega) (by decide) dX3_isInversion_41 ?_
      have f_10 := haa j (by omega) (by omega)
      refine z_iconst hx hb dX3_isInversion_42 ?_
      refine z_iadd (z := ((aa j) + 1)) hx hb rfl dX3_isInversion_43 ?_
      refine z_icmp_ne (tgt := 66) hx hb dX3_isInversion_44 (by decide) (by omega) (fun c44 => ?_) (fun c44 => ?_)
      · skip
        refine z_iconst hx hb dX3_isInversion_66 ?_
        subst hQ
        refine z_zret (z := 0) hx hb hr hlocks dX3_isInversion_67 (by omega) () hK hS ⟨by omega, by omega⟩ hP hD ?_
        unfold inZ
        first | (rw [if_pos (by omega)]; done) | (rw [if_neg (by omega)]; done)
      · skip
        refine lv_aload_n hx hb dX3_isInversion_47 rfl (lv_at hl 0 rfl) ?_
        refine va_get (D := dd) (ci := 3) (v := .ref q1) (C := RX3) (T := TX3) (N := 3) hx hb hts hi3 hown hK hP 0 rfl rfl 1 (by decide) (hts _ (List.mem_cons_of_mem _ (List.mem_append_left _ (List.mem_of_getElem? (i := 1) rfl)))) (fun _ h9 => h9) rfl dX3_isInversion_48 ?_
        refine lv_iload_n hx hb dX3_isInversion_51 rfl (lv_at hl 1 rfl) ?_
        refine z_iald hx hb hK hP 1 0 rfl rfl (i := i) (by omega) (by decide) dX3_isInversion_52 ?_
        have f_11 := hla i (by omega) (by omega)
        refine lv_aload_n hx hb dX3_isInversion_53 rfl (lv_at hl 0 rfl) ?_
        refine va_get (D := dd) (ci := 3) (v := .ref q1) (C := RX3) (T := TX3) (N := 3) hx hb hts hi3 hown hK hP 0 rfl rfl 1 (by decide) (hts _ (List.mem_cons_of_mem _ (List.mem_append_left _ (List.mem_of_getElem? (i := 1) rfl)))) (fun _ h9 => h9) rfl dX3_isInversion_54 ?_
        refine lv_iload_n hx hb dX3_isInversion_57 rfl (lv_at hl 2 rfl) ?_
        refine z_iald hx hb hK hP 1 0 rfl rfl (i := j) (by omega) (by decide) dX3_isInversion_58 ?_
        have f_12 := hla j (by omega) (by omega)
        refine z_icmp_le (tgt := 66) hx hb dX3_isInversion_59 (by decide) (by omega) (fun c59 => ?_) (fun c59 => ?_)
        · skip
          refine z_iconst hx hb dX3_isInversion_66 ?_
          subst hQ
          refine z_zret (z := 0) hx hb hr hlocks dX3_isInversion_67 (by omega) () hK hS ⟨by omega, by omega⟩ hP hD ?_
          unfold inZ
          first | (rw [if_pos (by omega)]; done) | (rw [if_neg (by omega)]; done)
        · skip
          refine z_iconst hx hb dX3_isInversion_62 ?_
          refine lv_goto (tgt := 67) hx hb dX3_isInversion_63 (by decide) ?_
          subst hQ
          refine z_zret (z := 1) hx hb hr hlocks dX3_isInversion_67 (by omega) () hK hS ⟨by omega, by omega⟩ hP hD ?_
          unfold inZ
          first | (rw [if_pos (by omega)]; done) | (rw [if_neg (by omega)]; done)

set_option maxHeartbeats 4000000 in
set_option maxRecDepth 100000 in
theorem c_X3_countOfInversions (l : Launch) (dd : va_G) (cI cJ cC cS : ClassId) (q0 q1 q2 : Nat) (n : Int) (la aa : Int → Int) (sz : Nat) (hn : 1 ≤ n ∧ n ≤ 8) (hla : ∀ j : Int, 0 ≤ j → j < n → 0 ≤ la j ∧ la j ≤ 8) (haa : ∀ j : Int, 0 ≤ j → j < n → 0 ≤ aa j ∧ aa j ≤ n - 1) : gMi l yX3_countOfInversions wsX3_countOfInversions 2 0 0 dd cI cJ cC cS [.ref q0] [kO q0 3 [vI n, .ref q1, .ref q2], kI cI q1 8 la, kI cI q2 8 aa] sz (fun (z : Int) (_ : Unit) => z = sumZ (fun i => inS la aa n i) n.toNat) (fun (_ : Unit) => [kO q0 3 [vI n, .ref q1, .ref q2], kI cI q1 8 la, kI cI q2 8 aa]) := by
  refine gMi_of (cc := cX3_countOfInversions) (maxL := 4) (ret := (some .int)) (by decide) rfl (Nat.le_of_ble_eq_true rfl) ?_
  intro p e s m args below meth c A Q hQ hx hb hr hts hown hlocks hnm hml H locs hP hK hD hA hS ls hl
  have hi3 : ∀ w ∈ wsX30, w ∈ wsX3_countOfInversions := fun _ h => (List.mem_cons_of_mem _ (List.mem_append_right _ h))
  have hl : lv_has ls 4 [(0, .ref q0)] := hl
  refine z_iconst hx hb dX3_countOfInversions_0 ?_
  refine lv_istore_n (lv' := [(1, vI 0), (0, .ref q0)]) hx hb dX3_countOfInversions_1 rfl hl (by decide) rfl (fun ls hl => ?_)
  refine z_iconst hx hb dX3_countOfInversions_2 ?_
  refine lv_istore_n (lv' := [(2, vI 0), (1, vI 0), (0, .ref q0)]) hx hb dX3_countOfInversions_3 rfl hl (by decide) rfl (fun ls hl => ?_)
  have L4 : ∀ (nn : Nat) (i : Int) (b : Int) (H : Heap) (locs : List Loc) (ls : Array Slot), ((n + 1 - i).toNat) = nn → (0 ≤ i ∧ i ≤ n) → (b = sumZ (fun i => inS la aa n i) i.toNat) → va_P dd vwCl [kO q0 3 [vI n, .ref q1, .ref q2], kI cI q1 8 la, kI cI q2 8 aa] H → va_D A [kO q0 3 [vI n, .ref q1, .ref q2], kI cI q1 8 la, kI cI q2 8 aa] → va_S A s.heap H locs → lv_has ls 4 [(1, vI b), (2, vI i), (0, .ref q0)] → W p l e (gR 2 0 0) s m args below meth c H locs 0 0 Q (F0 m 4 ls []) := by
    intro nn
    induction nn using Nat.strongRecOn with
    | ind nn L4i =>
    intro i b H locs ls hmeas hi hbb hP hD hS hl
    refine lv_iload_n hx hb dX3_countOfInversions_4 rfl (lv_at hl 1 rfl) ?_
    refine lv_aload_n hx hb dX3_countOfInversions_5 rfl (lv_at hl 2 rfl) ?_
    refine va_get (D := dd) (ci := 3) (v := vI n) (C := RX3) (T := TX3) (N := 3) hx hb hts hi3 hown hK hP 0 rfl rfl 0 (by decide) (hts _ (List.mem_cons_of_mem _ (List.mem_append_left _ (List.mem_of_getElem? (i := 0) rfl)))) (fun _ h9 => h9) rfl dX3_countOfInversions_6 ?_
    refine z_icmp_ge (tgt := 48) hx hb dX3_countOfInversions_9 (by decide) (by omega) (fun c9 => ?_) (fun c9 => ?_)
    · skip
      refine lv_iload_n hx hb dX3_countOfInversions_48 rfl (lv_at hl 0 rfl) ?_
      subst hQ
      refine z_iret (z := b) hx hb hr hlocks dX3_countOfInversions_49 () hK hS ⟨by omega, by omega⟩ hP hD ?_
      rw [hbb, show i = n by omega]
    · skip
      refine lv_iload_n hx hb dX3_countOfInversions_12 rfl (lv_at hl 1 rfl) ?_
      refine z_iconst hx hb dX3_countOfInversions_13 ?_
      refine z_iadd (z := (i + 1)) hx hb rfl dX3_countOfInversions_14 ?_
      refine lv_istore_n (lv' := [(3, vI (i + 1)), (1, vI b), (2, vI i), (0, .ref q0)]) hx hb dX3_countOfInversions_15 rfl hl (by decide) rfl (fun ls hl => ?_)
      have L16 : ∀ (nn : Nat) (j : Int) (b2 : Int) (H : Heap) (locs : List Loc) (ls : Array Slot), ((n + 1 - j).toNat) = nn → (i < j ∧ j ≤ n) → (b2 = sumZ (fun i => inS la aa n i) i.toNat + sumZ (fun j => if i < j then inZ la aa i j else 0) j.toNat) → va_P dd vwCl [kO q0 3 [vI n, .ref q1, .ref q2], kI cI q1 8 la, kI cI q2 8 aa] H → va_D A [kO q0 3 [vI n, .ref q1, .ref q2], kI cI q1 8 la, kI cI q2 8 aa] → va_S A s.heap H locs → lv_has ls 4 [(1, vI b2), (3, vI j), (2, vI i), (0, .ref q0)] → W p l e (gR 2 0 0) s m args below meth c H locs 0 0 Q (F0 m 16 ls []) := by
        intro nn
        induction nn using Nat.strongRecOn with
        | ind nn L16i =>
        intro j b2 H locs ls hmeas hj hb2 hP hD hS hl
        refine lv_iload_n hx hb dX3_countOfInversions_16 rfl (lv_at hl 1 rfl) ?_
        refine lv_aload_n hx hb dX3_countOfInversions_17 rfl (lv_at hl 3 rfl) ?_
        refine va_get (D := dd) (ci := 3) (v := vI n) (C := RX3) (T := TX3) (N := 3) hx hb hts hi3 hown hK hP 0 rfl rfl 0 (by decide) (hts _ (List.mem_cons_of_mem _ (List.mem_append_left _ (List.mem_of_getElem? (i := 0) rfl)))) (fun _ h9 => h9) rfl dX3_countOfInversions_18 ?_
        refine z_icmp_ge (tgt := 42) hx hb dX3_countOfInversions_21 (by decide) (by omega) (fun c21 => ?_) (fun c21 => ?_)
        · skip
          refine z_iinc (a := i) (z := (i + 1)) (lv' := [(2, vI (i + 1)), (1, vI b2), (3, vI j), (0, .ref q0)]) hx hb dX3_countOfInversions_42 hl (k := 2) rfl rfl (by decide) rfl (fun ls hl => ?_)
          refine lv_goto (tgt := 4) hx hb dX3_countOfInversions_45 (by decide) ?_
          exact L4i _ (by omega) (i + 1) b2 H locs ls rfl (by omega) (by rw [sumZ_s (by omega), hb2, show j = n by omega]; rfl) hP hD hS (lv_sub hl [1, 0, 3] rfl)
        · skip
          refine lv_aload_n hx hb dX3_countOfInversions_24 rfl (lv_at hl 3 rfl) ?_
          refine lv_iload_n hx hb dX3_countOfInversions_25 rfl (lv_at hl 2 rfl) ?_
          refine lv_iload_n hx hb dX3_countOfInversions_26 rfl (lv_at hl 1 rfl) ?_
          refine g_callVi (own := RX3) (n := 2) (mc := 0) (ms := 0) (As := [vI i, vI j]) (rest := []) (wc := [kO q0 3 [vI n, .ref q1, .ref q2], kI cI q1 8 la, kI cI q2 8 aa]) (wr := []) hx hb hml hown hts hK hP hD hS hA [0, 1, 2] [] rfl rfl (by decide) (by decide) 3 0 rfl rfl (c_X3_isInversion l dd cI cJ cC cS q0 q1 q2 n la aa i j H.size  (by first | assumption | omega) (by first | assumption | (intro j h0 h1; omega)) (by first | assumption | (intro j h0 h1; omega)) (by first | assumption | omega)) gX3_countOfInversions_X3_isInversion rfl (by decide +kernel) (by decide) (by decide) (by decide) (by decide) rfl hl.1 rfl (Nat.le_of_ble_eq_true rfl) dX3_countOfInversions_27 (fun z_1 u_2 H locs hp27 hP hD hS => ?_)
          subst z_1
          have hP : va_P dd vwCl [kO q0 3 [vI n, .ref q1, .ref q2], kI cI q1 8 la, kI cI q2 8 aa] H := hP
          have hD : va_D A [kO q0 3 [vI n, .ref q1, .ref q2], kI cI q1 8 la, kI cI q2 8 aa] := hD
          have hir := inZ_rg la aa i j
          refine z_if_eq (tgt := 36) hx hb dX3_countOfInversions_30 (by decide) (by omega) (fun c30 => ?_) (fun c30 => ?_)
          · skip
            refine z_iinc (a := j) (z := (j + 1)) (lv' := [(3, vI (j + 1)), (1, vI b2), (2, vI i), (0, .ref q0)]) hx hb dX3_countOfInversions_36 hl (k := 1) rfl rfl (by decide) rfl (fun ls hl => ?_)
            refine lv_goto (tgt := 16) hx hb dX3_countOfInversions_39 (by decide) ?_
            exact L16i _ (by omega) (j + 1) b2 H locs ls rfl (by omega) (by rw [sumZ_s (f := fun j => if i < j then inZ la aa i j else 0) (by omega), if_pos (by omega)]; omega) hP hD hS (lv_sub hl [1, 0, 2, 3] rfl)
          · skip
            refine z_iinc (a := b2) (z := (b2 + 1)) (lv' := [(1, vI (b2 + 1)), (3, vI j), (2, vI i), (0, .ref q0)]) hx hb dX3_countOfInversions_33 hl (k := 0) rfl rfl (by decide) rfl (fun ls hl => ?_)
            refine z_iinc (a := j) (z := (j + 1)) (lv' := [(3, vI (j + 1)), (1, vI (b2 + 1)), (2, vI i), (0, .ref q0)]) hx hb dX3_countOfInversions_36 hl (k := 1) rfl rfl (by decide) rfl (fun ls hl => ?_)
            refine lv_goto (tgt := 16) hx hb dX3_countOfInversions_39 (by decide) ?_
            exact L16i _ (by omega) (j + 1) (b2 + 1) H locs ls rfl (by omega) (by rw [sumZ_s (f := fun j => if i < j then inZ la aa i j else 0) (by omega), if_pos (by omega)]; omega) hP hD hS (lv_sub hl [1, 0, 2, 3] rfl)
      exact L16 _ (i + 1) b H locs ls rfl (by omega) (by rw [sumZ_0 (i + 1).toNat (fun j h0 h1 => if_neg (by omega)), hbb, Int.add_zero]) hP hD hS (lv_sub hl [1, 0, 2, 3] rfl)
  exact L4 _ 0 0 H locs ls rfl (by omega) (rfl) hP hD hS (lv_sub hl [1, 0, 2] rfl)

set_option maxHeartbeats 4000000 in
set_option maxRecDepth 100000 in
theorem c_X3_labelInWord (l : Launch) (dd : va_G) (cI cJ cC cS : ClassId) (q0 q1 q2 : Nat) (n : Int) (la aa : Int → Int) (k : Int) (sz : Nat) (hn : 1 ≤ n ∧ n ≤ 8) (hla : ∀ j : Int, 0 ≤ j → j < n → 0 ≤ la j ∧ la j ≤ 8) (haa : ∀ j : Int, 0 ≤ j → j < n → 0 ≤ aa j ∧ aa j ≤ n - 1) (hk0 : 0 ≤ k ∧ k < n) : gMi l yX3_labelInWord wsX3_labelInWord 1 0 0 dd cI cJ cC cS [.ref q0, vI k] [kO q0 3 [vI n, .ref q1, .ref q2], kI cI q1 8 la, kI cI q2 8 aa] sz (fun (z : Int) (_ : Unit) => (∃ r : Int, 0 ≤ r ∧ r < n ∧ k = vW aa n (aa r) r ∧ z = la r)) (fun (_ : Unit) => [kO q0 3 [vI n, .ref q1, .ref q2], kI cI q1 8 la, kI cI q2 8 aa]) := by
  refine gMi_of (cc := cX3_labelInWord) (maxL := 5) (ret := (some .int)) (by decide) rfl (Nat.le_of_ble_eq_true rfl) ?_
  intro p e s m args below meth c A Q hQ hx hb hr hts hown hlocks hnm hml H locs hP hK hD hA hS ls hl
  have hi3 : ∀ w ∈ wsX30, w ∈ wsX3_labelInWord := fun _ h => (List.mem_cons_of_mem _ (List.mem_append_right _ h))
  have hl : lv_has ls 5 [(0, .ref q0), (1, vI k)] := hl
  refine z_iconst hx hb dX3_labelInWord_0 ?_
  refine lv_istore_n (lv' := [(2, vI 0), (0, .ref q0), (1, vI k)]) hx hb dX3_labelInWord_1 rfl hl (by decide) rfl (fun ls hl => ?_)
  refine lv_aload_n hx hb dX3_labelInWord_2 rfl (lv_at hl 1 rfl) ?_
  refine va_get (D := dd) (ci := 3) (v := vI n) (C := RX3) (T := TX3) (N := 3) hx hb hts hi3 hown hK hP 0 rfl rfl 0 (by decide) (hts _ (List.mem_cons_of_mem _ (List.mem_append_left _ (List.mem_of_getElem? (i := 0) rfl)))) (fun _ h9 => h9) rfl dX3_labelInWord_3 ?_
  refine z_iconst hx hb dX3_labelInWord_6 ?_
  refine z_isub (z := (n - 1)) hx hb rfl dX3_labelInWord_7 ?_
  refine lv_istore_n (lv' := [(3, vI (n - 1)), (2, vI 0), (0, .ref q0), (1, vI k)]) hx hb dX3_labelInWord_8 rfl hl (by decide) rfl (fun ls hl => ?_)
  have L9 : ∀ (nn : Nat) (w : Int) (x : Int) (H : Heap) (locs : List Loc) (ls : Array Slot), ((w + 1).toNat) = nn → (-1 ≤ w ∧ w ≤ n - 1) → (x = vW aa n w (n - 1)) → (x ≤ k) → va_P dd vwCl [kO q0 3 [vI n, .ref q1, .ref q2], kI cI q1 8 la, kI cI q2 8 aa] H → va_D A [kO q0 3 [vI n, .ref q1, .ref q2], kI cI q1 8 la, kI cI q2 8 aa] → va_S A s.heap H locs → lv_has ls 5 [(2, vI x), (3, vI w), (0, .ref q0), (1, vI k)] → W p l e (gR 1 0 0) s m args below meth c H locs 0 0 Q (F0 m 9 ls []) := by
    intro nn
    induction nn using Nat.strongRecOn with
    | ind nn L9i =>
    intro w x H locs ls hmeas hw hxx hxk hP hD hS hl
    refine lv_iload_n hx hb dX3_labelInWord_9 rfl (lv_at hl 1 rfl) ?_
    refine z_if_lt (tgt := 65) hx hb dX3_labelInWord_10 (by decide) (by omega) (fun c10 => ?_) (fun c10 => ?_)
    · skip
      refine z_iconst hx hb dX3_labelInWord_65 ?_
      subst hQ
      refine z_iret (z := (-1)) hx hb hr hlocks dX3_labelInWord_66 () hK hS ⟨by omega, by omega⟩ hP hD ?_
      rw [show w = -1 by omega, vW_end (by omega) haa] at hxx
      omega
    · skip
      refine lv_aload_n hx hb dX3_labelInWord_13 rfl (lv_at hl 2 rfl) ?_
      refine va_get (D := dd) (ci := 3) (v := vI n) (C := RX3) (T := TX3) (N := 3) hx hb hts hi3 hown hK hP 0 rfl rfl 0 (by decide) (hts _ (List.mem_cons_of_mem _ (List.mem_append_left _ (List.mem_of_getElem? (i := 0) rfl)))) (fun _ h9 => h9) rfl dX3_labelInWord_14 ?_
      refine z_iconst hx hb dX3_labelInWord_17 ?_
      refine z_isub (z := (n - 1)) hx hb rfl dX3_labelInWord_18 ?_
      refine lv_istore (lv' := [(4, vI (n - 1)), (2, vI x), (3, vI w), (0, .ref q0), (1, vI k)]) hx hb dX3_labelInWord_19 hl (by decide) rfl (fun ls hl => ?_)
      have L21 : ∀ (nn : Nat) (r : Int) (x2 : Int) (H : Heap) (locs : List Loc) (ls : Array Slot), ((r + 1).toNat) = nn → (-1 ≤ r ∧ r ≤ n - 1) → (x2 = vW aa n w r) → (x2 ≤ k) → va_P dd vwCl [kO q0 3 [vI n, .ref q1, .ref q2], kI cI q1 8 la, kI cI q2 8 aa] H → va_D A [kO q0 3 [vI n, .ref q1, .ref q2], kI cI q1 8 la, kI cI q2 8 aa] → va_S A s.heap H locs → lv_has ls 5 [(2, vI x2), (4, vI r), (3, vI w), (0, .ref q0), (1, vI k)] → W p l e (gR 1 0 0) s m args below meth c H locs 0 0 Q (F0 m 21 ls []) := by
        intro nn
        induction nn using Nat.strongRecOn with
        | ind nn L21i =>
        intro r x2 H locs ls hmeas hr9 hx2 hxk2 hP hD hS hl
        refine lv_iload hx hb dX3_labelInWord_21 (lv_at hl 1 rfl) ?_
        refine z_if_lt (tgt := 59) hx hb dX3_labelInWord_23 (by decide) (by omega) (fun c23 => ?_) (fun c23 => ?_)
        · skip
          refine z_iinc (a := w) (z := (w - 1)) (lv' := [(3, vI (w - 1)), (2, vI x2), (4, vI r), (0, .ref q0), (1, vI k)]) hx hb dX3_labelInWord_59 hl (k := 2) rfl (by omega) (by decide) rfl (fun ls hl => ?_)
          refine lv_goto (tgt := 9) hx hb dX3_labelInWord_62 (by decide) ?_
          exact L9i _ (by omega) (w - 1) x2 H locs ls rfl (by omega) (by rw [vW_next, hx2, show r = -1 by omega]) (by omega) hP hD hS (lv_sub hl [1, 0, 3, 4] rfl)
        · skip
          have hvr := vW_rg aa (n := n) (by omega) w r
          refine lv_aload_n hx hb dX3_labelInWord_26 rfl (lv_at hl 3 rfl) ?_
          refine va_get (D := dd) (ci := 3) (v := .ref q2) (C := RX3) (T := TX3) (N := 3) hx hb hts hi3 hown hK hP 0 rfl rfl 2 (by decide) (hts _ (List.mem_cons_of_mem _ (List.mem_append_left _ (List.mem_of_getElem? (i := 1) rfl)))) (fun _ h9 => h9) rfl dX3_labelInWord_27 ?_
          refine lv_iload hx hb dX3_labelInWord_30 (lv_at hl 1 rfl) ?_
          refine z_iald hx hb hK hP 2 0 rfl rfl (i := r) (by omega) (by decide) dX3_labelInWord_32 ?_
          have f_1 := haa r (by omega) (by omega)
          refine lv_iload_n hx hb dX3_labelInWord_33 rfl (lv_at hl 2 rfl) ?_
          refine z_icmp_ne (tgt := 53) hx hb dX3_labelInWord_34 (by decide) (by omega) (fun c34 => ?_) (fun c34 => ?_)
          · skip
            refine z_iinc (a := r) (z := (r - 1)) (lv' := [(4, vI (r - 1)), (2, vI x2), (3, vI w), (0, .ref q0), (1, vI k)]) hx hb dX3_labelInWord_53 hl (k := 1) rfl (by omega) (by decide) rfl (fun ls hl => ?_)
            refine lv_goto (tgt := 21) hx hb dX3_labelInWord_56 (by decide) ?_
            exact L21i _ (by omega) (r - 1) x2 H locs ls rfl (by omega) (by rw [vW_s (by omega), if_neg (by omega)]; omega) (by omega) hP hD hS (lv_sub hl [1, 0, 2, 3, 4] rfl)
          · skip
            refine lv_iload_n hx hb dX3_labelInWord_37 rfl (lv_at hl 0 rfl) ?_
            refine lv_iload_n hx hb dX3_labelInWord_38 rfl (lv_at hl 4 rfl) ?_
            refine z_icmp_ne (tgt := 50) hx hb dX3_labelInWord_39 (by decide) (by omega) (fun c39 => ?_) (fun c39 => ?_)
            · skip
              refine z_iinc (a := x2) (z := (x2 + 1)) (lv' := [(2, vI (x2 + 1)), (4, vI r), (3, vI w), (0, .ref q0), (1, vI k)]) hx hb dX3_labelInWord_50 hl (k := 0) rfl rfl (by decide) rfl (fun ls hl => ?_)
              refine z_iinc (a := r) (z := (r - 1)) (lv' := [(4, vI (r - 1)), (2, vI (x2 + 1)), (3, vI w), (0, .ref q0), (1, vI k)]) hx hb dX3_labelInWord_53 hl (k := 1) rfl (by omega) (by decide) rfl (fun ls hl => ?_)
              refine lv_goto (tgt := 21) hx hb dX3_labelInWord_56 (by decide) ?_
              exact L21i _ (by omega) (r - 1) (x2 + 1) H locs ls rfl (by omega) (by rw [vW_s (by omega), if_pos (by omega)]; omega) (by omega) hP hD hS (lv_sub hl [1, 0, 2, 3, 4] rfl)
            · skip
              refine lv_aload_n hx hb dX3_labelInWord_42 rfl (lv_at hl 3 rfl) ?_
              refine va_get (D := dd) (ci := 3) (v := .ref q1) (C := RX3) (T := TX3) (N := 3) hx hb hts hi3 hown hK hP 0 rfl rfl 1 (by decide) (hts _ (List.mem_cons_of_mem _ (List.mem_append_left _ (List.mem_of_getElem? (i := 2) rfl)))) (fun _ h9 => h9) rfl dX3_labelInWord_43 ?_
              refine lv_iload hx hb dX3_labelInWord_46 (lv_at hl 1 rfl) ?_
              refine z_iald hx hb hK hP 1 0 rfl rfl (i := r) (by omega) (by decide) dX3_labelInWord_48 ?_
              have f_2 := hla r (by omega) (by omega)
              subst hQ
              refine z_iret (z := (la r)) hx hb hr hlocks dX3_labelInWord_49 () hK hS ⟨by omega, by omega⟩ hP hD ?_
              exact ⟨r, by omega, by omega, by rw [show aa r = w by omega]; omega, rfl⟩
      exact L21 _ (n - 1) x H locs ls rfl (by omega) (hxx) (by omega) hP hD hS (lv_sub hl [1, 0, 2, 3, 4] rfl)
  exact L9 _ (n - 1) 0 H locs ls rfl (by omega) ((vW_top haa).symm) (by omega) hP hD hS (lv_sub hl [1, 0, 2, 3] rfl)

set_option maxHeartbeats 4000000 in
set_option maxRecDepth 100000 in
theorem c_X3_charOfText (l : Launch) (dd : va_G) (cI cJ cC cS : ClassId) (q0 q1 q2 : Nat) (n : Int) (la aa : Int → Int) (k : Int) (sz : Nat) (hn : 1 ≤ n ∧ n ≤ 8) (hla : ∀ j : Int, 0 ≤ j → j < n → 0 ≤ la j ∧ la j ≤ 8) (haa : ∀ j : Int, 0 ≤ j → j < n → 0 ≤ aa j ∧ aa j ≤ n - 1) (hk0 : 0 ≤ k ∧ k < 3 * n) (hmo : ∀ i j : Int, 0 ≤ i → i ≤ j → j < n → i - aa i ≤ j - aa j) (hle : ∀ j : Int, 0 ≤ j → j < n → aa j ≤ j) : gMi l yX3_charOfText wsX3_charOfText 1 0 0 dd cI cJ cC cS [.ref q0, vI k] [kO q0 3 [vI n, .ref q1, .ref q2], kI cI q1 8 la, kI cI q2 8 aa] sz (fun (z : Int) (_ : Unit) => ((∃ r : Int, 0 ≤ r ∧ r < n ∧ k = 2 * r + (r - aa r) ∧ z = 78) ∨ (∃ r : Int, 0 ≤ r ∧ r < n ∧ k = 2 * r + (r - aa r) + 1 ∧ z = 48 + la r) ∨ (∃ r s9 : Int, 0 ≤ r ∧ r ≤ n ∧ 0 ≤ s9 ∧ s9 < n ∧ (∀ i : Int, 0 ≤ i → i < r → i - aa i ≤ s9) ∧ (∀ i : Int, r ≤ i → i < n → s9 < i - aa i) ∧ k = 2 * r + s9 ∧ z = 69))) (fun (_ : Unit) => [kO q0 3 [vI n, .ref q1, .ref q2], kI cI q1 8 la, kI cI q2 8 aa]) := by
  refine gMi_of (cc := cX3_charOfText) (maxL := 5) (ret := (some .int)) (by decide) rfl (Nat.le_of_ble_eq_true rfl) ?_
  intro p e s m args below meth c A Q hQ hx hb hr hts hown hlocks hnm hml H locs hP hK hD hA hS ls hl
  have hi3 : ∀ w ∈ wsX30, w ∈ wsX3_charOfText := fun _ h => (List.mem_cons_of_mem _ (List.mem_append_right _ h))
  have hl : lv_has ls 5 [(0, .ref q0), (1, vI k)] := hl
  refine z_iconst hx hb dX3_charOfText_0 ?_
  refine lv_istore_n (lv' := [(2, vI 0), (0, .ref q0), (1, vI k)]) hx hb dX3_charOfText_1 rfl hl (by decide) rfl (fun ls hl => ?_)
  refine z_iconst hx hb dX3_charOfText_2 ?_
  refine lv_istore_n (lv' := [(3, vI 0), (2, vI 0), (0, .ref q0), (1, vI k)]) hx hb dX3_charOfText_3 rfl hl (by decide) rfl (fun ls hl => ?_)
  refine z_iconst hx hb dX3_charOfText_4 ?_
  refine lv_istore (lv' := [(4, vI 0), (3, vI 0), (2, vI 0), (0, .ref q0), (1, vI k)]) hx hb dX3_charOfText_5 hl (by decide) rfl (fun ls hl => ?_)
  have L7 : ∀ (nn : Nat) (s9 : Int) (r : Int) (x : Int) (H : Heap) (locs : List Loc) (ls : Array Slot), ((n + 1 - s9).toNat) = nn → (0 ≤ s9 ∧ s9 ≤ n ∧ 0 ≤ r ∧ r ≤ n) → (x = 2 * r + s9 ∧ x ≤ k) → (∀ i : Int, 0 ≤ i → i < r → i - aa i < s9) → (∀ i : Int, r ≤ i → i < n → s9 ≤ i - aa i) → va_P dd vwCl [kO q0 3 [vI n, .ref q1, .ref q2], kI cI q1 8 la, kI cI q2 8 aa] H → va_D A [kO q0 3 [vI n, .ref q1, .ref q2], kI cI q1 8 la, kI cI q2 8 aa] → va_S A s.heap H locs → lv_has ls 5 [(2, vI x), (3, vI r), (4, vI s9), (0, .ref q0), (1, vI k)] → W p l e (gR 1 0 0) s m args below meth c H locs 0 0 Q (F0 m 7 ls []) := by
    intro nn
    induction nn using Nat.strongRecOn with
    | ind nn L7i =>
    intro s9 r x H locs ls hmeas hsr hxx hlo hhi hP hD hS hl
    refine lv_iload hx hb dX3_charOfText_7 (lv_at hl 2 rfl) ?_
    refine lv_aload_n hx hb dX3_charOfText_9 rfl (lv_at hl 3 rfl) ?_
    refine va_get (D := dd) (ci := 3) (v := vI n) (C := RX3) (T := TX3) (N := 3) hx hb hts hi3 hown hK hP 0 rfl rfl 0 (by decide) (hts _ (List.mem_cons_of_mem _ (List.mem_append_left _ (List.mem_of_getElem? (i := 0) rfl)))) (fun _ h9 => h9) rfl dX3_charOfText_10 ?_
    refine z_icmp_ge (tgt := 88) hx hb dX3_charOfText_13 (by decide) (by omega) (fun c13 => ?_) (fun c13 => ?_)
    · skip
      refine z_iconst hx hb dX3_charOfText_88 ?_
      subst hQ
      refine z_iret (z := (-1)) hx hb hr hlocks dX3_charOfText_89 () hK hS ⟨by omega, by omega⟩ hP hD ?_
      exfalso
      by_cases q : r = n
      · omega
      · have a1 := hhi r (by omega) (by omega)
        have a2 := haa r (by omega) (by omega)
        omega
    · skip
      have L16 : ∀ (nn : Nat) (r2 : Int) (x2 : Int) (H : Heap) (locs : List Loc) (ls : Array Slot), ((n + 1 - r2).toNat) = nn → (0 ≤ r2 ∧ r2 ≤ n) → (x2 = 2 * r2 + s9 ∧ x2 ≤ k) → (∀ i : Int, 0 ≤ i → i < r2 → i - aa i ≤ s9) → (∀ i : Int, r2 ≤ i → i < n → s9 ≤ i - aa i) → va_P dd vwCl [kO q0 3 [vI n, .ref q1, .ref q2], kI cI q1 8 la, kI cI q2 8 aa] H → va_D A [kO q0 3 [vI n, .ref q1, .ref q2], kI cI q1 8 la, kI cI q2 8 aa] → va_S A s.heap H locs → lv_has ls 5 [(2, vI x2), (3, vI r2), (4, vI s9), (0, .ref q0), (1, vI k)] → W p l e (gR 1 0 0) s m args below meth c H locs 0 0 Q (F0 m 16 ls []) := by
        intro nn
        induction nn using Nat.strongRecOn with
        | ind nn L16i =>
        intro r2 x2 H locs ls hmeas hr2 hx2 hlo2 hhi2 hP hD hS hl
        refine lv_iload_n hx hb dX3_charOfText_16 rfl (lv_at hl 1 rfl) ?_
        refine lv_aload_n hx hb dX3_charOfText_17 rfl (lv_at hl 3 rfl) ?_
        refine va_get (D := dd) (ci := 3) (v := vI n) (C := RX3) (T := TX3) (N := 3) hx hb hts hi3 hown hK hP 0 rfl rfl 0 (by decide) (hts _ (List.mem_cons_of_mem _ (List.mem_append_left _ (List.mem_of_getElem? (i := 0) rfl)))) (fun _ h9 => h9) rfl dX3_charOfText_18 ?_
        refine z_icmp_ge (tgt := 71) hx hb dX3_charOfText_21 (by decide) (by omega) (fun c21 => ?_) (fun c21 => ?_)
        · skip
          have hgt : ∀ i : Int, r2 ≤ i → i < n → s9 < i - aa i := by
            intro i h0 h1
            have a1 := hhi2 i h0 h1
            have a2 := hhi2 r2 (by omega) (by omega)
            have a3 := hmo r2 i (by omega) h0 h1
            omega
          refine lv_iload_n hx hb dX3_charOfText_71 rfl (lv_at hl 0 rfl) ?_
          refine lv_iload_n hx hb dX3_charOfText_72 rfl (lv_at hl 4 rfl) ?_
          refine z_icmp_ne (tgt := 79) hx hb dX3_charOfText_73 (by decide) (by omega) (fun c73 => ?_) (fun c73 => ?_)
          · skip
            refine z_iinc (a := x2) (z := (x2 + 1)) (lv' := [(2, vI (x2 + 1)), (3, vI r2), (4, vI s9), (0, .ref q0), (1, vI k)]) hx hb dX3_charOfText_79 hl (k := 0) rfl rfl (by decide) rfl (fun ls hl => ?_)
            refine z_iinc (a := s9) (z := (s9 + 1)) (lv' := [(4, vI (s9 + 1)), (2, vI (x2 + 1)), (3, vI r2), (0, .ref q0), (1, vI k)]) hx hb dX3_charOfText_82 hl (k := 2) rfl rfl (by decide) rfl (fun ls hl => ?_)
            refine lv_goto (tgt := 7) hx hb dX3_charOfText_85 (by decide) ?_
            exact L7i _ (by omega) (s9 + 1) r2 (x2 + 1) H locs ls rfl (by omega) (by omega) (fun i h0 h1 => by have := hlo2 i h0 h1; omega) (fun i h0 h1 => by have := hgt i h0 h1; omega) hP hD hS (lv_sub hl [1, 2, 0, 3, 4] rfl)
          · skip
            refine z_bipush hx hb dX3_charOfText_76 (by decide +kernel) ?_
            subst hQ
            refine z_iret (z := 69) hx hb hr hlocks dX3_charOfText_78 () hK hS ⟨by omega, by omega⟩ hP hD ?_
            exact Or.inr (Or.inr ⟨r2, s9, by omega, by omega, by omega, by omega, hlo2, hgt, by omega, rfl⟩)
        · skip
          refine lv_iload_n hx hb dX3_charOfText_24 rfl (lv_at hl 1 rfl) ?_
          refine lv_aload_n hx hb dX3_charOfText_25 rfl (lv_at hl 3 rfl) ?_
          refine va_get (D := dd) (ci := 3) (v := .ref q2) (C := RX3) (T := TX3) (N := 3) hx hb hts hi3 hown hK hP 0 rfl rfl 2 (by decide) (hts _ (List.mem_cons_of_mem _ (List.mem_append_left _ (List.mem_of_getElem? (i := 1) rfl)))) (fun _ h9 => h9) rfl dX3_charOfText_26 ?_
          refine lv_iload_n hx hb dX3_charOfText_29 rfl (lv_at hl 1 rfl) ?_
          refine z_iald hx hb hK hP 2 0 rfl rfl (i := r2) (by omega) (by decide) dX3_charOfText_30 ?_
          have f_1 := haa r2 (by omega) (by omega)
          refine z_isub (z := (r2 - (aa r2))) hx hb rfl dX3_charOfText_31 ?_
          refine lv_iload hx hb dX3_charOfText_32 (lv_at hl 2 rfl) ?_
          refine z_icmp_ne (tgt := 71) hx hb dX3_charOfText_34 (by decide) (by omega) (fun c34 => ?_) (fun c34 => ?_)
          · skip
            have hgt : ∀ i : Int, r2 ≤ i → i < n → s9 < i - aa i := by
              intro i h0 h1
              have a1 := hhi2 i h0 h1
              have a2 := hhi2 r2 (by omega) (by omega)
              have a3 := hmo r2 i (by omega) h0 h1
              omega
            refine lv_iload_n hx hb dX3_charOfText_71 rfl (lv_at hl 0 rfl) ?_
            refine lv_iload_n hx hb dX3_charOfText_72 rfl (lv_at hl 4 rfl) ?_
            refine z_icmp_ne (tgt := 79) hx hb dX3_charOfText_73 (by decide) (by omega) (fun c73 => ?_) (fun c73 => ?_)
            · skip
              refine z_iinc (a := x2) (z := (x2 + 1)) (lv' := [(2, vI (x2 + 1)), (3, vI r2), (4, vI s9), (0, .ref q0), (1, vI k)]) hx hb dX3_charOfText_79 hl (k := 0) rfl rfl (by decide) rfl (fun ls hl => ?_)
              refine z_iinc (a := s9) (z := (s9 + 1)) (lv' := [(4, vI (s9 + 1)), (2, vI (x2 + 1)), (3, vI r2), (0, .ref q0), (1, vI k)]) hx hb dX3_charOfText_82 hl (k := 2) rfl rfl (by decide) rfl (fun ls hl => ?_)
              refine lv_goto (tgt := 7) hx hb dX3_charOfText_85 (by decide) ?_
              exact L7i _ (by omega) (s9 + 1) r2 (x2 + 1) H locs ls rfl (by omega) (by omega) (fun i h0 h1 => by have := hlo2 i h0 h1; omega) (fun i h0 h1 => by have := hgt i h0 h1; omega) hP hD hS (lv_sub hl [1, 2, 0, 3, 4] rfl)
            · skip
              refine z_bipush hx hb dX3_charOfText_76 (by decide +kernel) ?_
              subst hQ
              refine z_iret (z := 69) hx hb hr hlocks dX3_charOfText_78 () hK hS ⟨by omega, by omega⟩ hP hD ?_
              exact Or.inr (Or.inr ⟨r2, s9, by omega, by omega, by omega, by omega, hlo2, hgt, by omega, rfl⟩)
          · skip
            refine lv_iload_n hx hb dX3_charOfText_37 rfl (lv_at hl 0 rfl) ?_
            refine lv_iload_n hx hb dX3_charOfText_38 rfl (lv_at hl 4 rfl) ?_
            refine z_icmp_ne (tgt := 45) hx hb dX3_charOfText_39 (by decide) (by omega) (fun c39 => ?_) (fun c39 => ?_)
            · skip
              refine lv_iload_n hx hb dX3_charOfText_45 rfl (lv_at hl 0 rfl) ?_
              refine z_iconst hx hb dX3_charOfText_46 ?_
              refine z_iadd (z := (x2 + 1)) hx hb rfl dX3_charOfText_47 ?_
              refine lv_iload_n hx hb dX3_charOfText_48 rfl (lv_at hl 4 rfl) ?_
              refine z_icmp_ne (tgt := 62) hx hb dX3_charOfText_49 (by decide) (by omega) (fun c49 => ?_) (fun c49 => ?_)
              · skip
                refine z_iinc (a := x2) (z := (x2 + 2)) (lv' := [(2, vI (x2 + 2)), (3, vI r2), (4, vI s9), (0, .ref q0), (1, vI k)]) hx hb dX3_charOfText_62 hl (k := 0) rfl rfl (by decide) rfl (fun ls hl => ?_)
                refine z_iinc (a := r2) (z := (r2 + 1)) (lv' := [(3, vI (r2 + 1)), (2, vI (x2 + 2)), (4, vI s9), (0, .ref q0), (1, vI k)]) hx hb dX3_charOfText_65 hl (k := 1) rfl rfl (by decide) rfl (fun ls hl => ?_)
                refine lv_goto (tgt := 16) hx hb dX3_charOfText_68 (by decide) ?_
                exact L16i _ (by omega) (r2 + 1) (x2 + 2) H locs ls rfl (by omega) (by omega) (fun i h0 h1 => by
                  by_cases q : i = r2
                  · subst q; omega
                  · exact hlo2 i h0 (by omega)) (fun i h0 h1 => hhi2 i (by omega) h1) hP hD hS (lv_sub hl [1, 0, 2, 3, 4] rfl)
              · skip
                refine z_bipush hx hb dX3_charOfText_52 (by decide +kernel) ?_
                refine lv_aload_n hx hb dX3_charOfText_54 rfl (lv_at hl 3 rfl) ?_
                refine va_get (D := dd) (ci := 3) (v := .ref q1) (C := RX3) (T := TX3) (N := 3) hx hb hts hi3 hown hK hP 0 rfl rfl 1 (by decide) (hts _ (List.mem_cons_of_mem _ (List.mem_append_left _ (List.mem_of_getElem? (i := 2) rfl)))) (fun _ h9 => h9) rfl dX3_charOfText_55 ?_
                refine lv_iload_n hx hb dX3_charOfText_58 rfl (lv_at hl 1 rfl) ?_
                refine z_iald hx hb hK hP 1 0 rfl rfl (i := r2) (by omega) (by decide) dX3_charOfText_59 ?_
                have f_2 := hla r2 (by omega) (by omega)
                refine z_iadd (z := (48 + (la r2))) hx hb rfl dX3_charOfText_60 ?_
                subst hQ
                refine z_iret (z := (48 + (la r2))) hx hb hr hlocks dX3_charOfText_61 () hK hS ⟨by omega, by omega⟩ hP hD ?_
                exact Or.inr (Or.inl ⟨r2, by omega, by omega, by omega, rfl⟩)
            · skip
              refine z_bipush hx hb dX3_charOfText_42 (by decide +kernel) ?_
              subst hQ
              refine z_iret (z := 78) hx hb hr hlocks dX3_charOfText_44 () hK hS ⟨by omega, by omega⟩ hP hD ?_
              exact Or.inl ⟨r2, by omega, by omega, by omega, rfl⟩
      exact L16 _ r x H locs ls rfl (by omega) (by omega) (fun i h0 h1 => by have := hlo i h0 h1; omega) (hhi) hP hD hS hl
  exact L7 _ 0 0 0 H locs ls rfl (by omega) (by omega) (fun i h0 h1 => absurd h1 (by omega)) (fun i h0 h1 => by have := hle i h0 h1; omega) hP hD hS (lv_sub hl [2, 1, 0, 3, 4] rfl)

