/-! the model: a text is read; the fingerprint -/
theorem bitU : ∀ t : Nat, t < 256 → ∀ j : Nat, j < 8 → t / 2 ^ j % 2 = 0 → t ||| 2 ^ j = t + 2 ^ j ∧ t + 2 ^ j < 256 ∧ ∀ k : Nat, k < 8 → (t + 2 ^ j) / 2 ^ k % 2 = if k = j then 1 else t / 2 ^ k % 2 := by decide +kernel
theorem or_bit {t s : Int} (ht : 0 ≤ t ∧ t < 256) (hs : 0 ≤ s ∧ s < 8) (hb : bitZ t s = 0) : zI t ||| zI (2 ^ s.toNat) = zI (t + 2 ^ s.toNat) ∧ 0 ≤ t + 2 ^ s.toNat ∧ t + 2 ^ s.toNat < 256 ∧ ∀ k : Int, 0 ≤ k → k < 8 → bitZ (t + 2 ^ s.toNat) k = if k = s then 1 else bitZ t k := by
  rw [bitZ_nat ht.1] at hb
  obtain ⟨h1, h2, h3⟩ := bitU t.toNat (by omega) s.toNat (by omega) (by omega)
  have e2 : ((2 : Int) ^ s.toNat) = ((2 ^ s.toNat : Nat) : Int) := by simp
  have e3 : (t + 2 ^ s.toNat).toNat = t.toNat + 2 ^ s.toNat := by
    rw [e2]
    generalize (2 : Nat) ^ s.toNat = y
    omega
  have e4 : 0 ≤ t + 2 ^ s.toNat := by
    have := pow_pos2 s.toNat
    omega
  refine ⟨zI_orN ht.1 (Int.le_of_lt (pow_pos2 _)) (by rw [e2, Int.toNat_natCast]; exact h1), e4, by omega, fun k k0 k1 => ?_⟩
  rw [bitZ_nat e4, e3, h3 k.toNat (by omega), bitZ_nat ht.1]
  by_cases u : k = s
  · rw [if_pos u, if_pos (by omega)]
    rfl
  · rw [if_neg u, if_neg (by omega)]
/-- what holds along a text that is read -/
def rok (n : Int) (S : RS) : Prop := (0 ≤ S.2.1 ∧ S.2.1 ≤ S.1 ∧ S.1 ≤ n) ∧ (-1 ≤ S.2.2.1 ∧ S.2.2.1 < n) ∧ (S.2.2.2.1 = 0 ∨ (S.2.2.2.1 = 1 ∧ S.1 < n)) ∧ (∀ j : Int, S.2.2.2.2.1 j = -1 ∨ (0 ≤ S.2.2.2.2.1 j ∧ S.2.2.2.2.1 j < n)) ∧ S.1 = sumZ (fun j => if S.2.2.2.2.1 j = -1 then 0 else 1) n.toNat ∧ S.2.2.2.2.2 = sumZ (fun r => r) S.1.toNat - sumZ (fun j => if S.2.2.2.2.1 j = -1 then 0 else S.2.2.2.2.1 j) n.toNat
theorem rst_ok {n : Int} (hn : 1 ≤ n) {S T : RS} {x : Int} (h : rok n S) (e : rst n S x = some T) : rok n T := by
  obtain ⟨u, r, b, d, w, a⟩ := S
  obtain ⟨⟨h1, h2, h3⟩, h4, h5, h6, h7, h8⟩ := h
  dsimp only at h1 h2 h3 h4 h5 h6 h7 h8
  by_cases hd : d = 0
  · by_cases q1 : x = 78 ∧ u < n
    · rw [rst_N hd q1] at e
      obtain rfl := Option.some.inj e
      exact ⟨⟨h1, h2, h3⟩, h4, Or.inr ⟨rfl, q1.2⟩, h6, h7, h8⟩
    · by_cases q2 : x = 69 ∧ r < u
      · rw [rst_E hd q1 q2] at e
        obtain rfl := Option.some.inj e
        exact ⟨⟨show 0 ≤ r + 1 by omega, show r + 1 ≤ u by omega, h3⟩, ⟨Int.le_refl _, show -1 < n by omega⟩, Or.inl rfl, h6, h7, h8⟩
      · rw [rst_no hd q1 q2] at e
        cases e
  · by_cases q1 : 0 ≤ x - 48 ∧ x - 48 < n ∧ w (x - 48) = -1 ∧ b < x - 48
    · rw [rst_lab hd q1] at e
      obtain rfl := Option.some.inj e
      have hu : u < n := by
        rcases h5 with h5 | h5
        · exact absurd h5 hd
        · exact h5.2
      refine ⟨⟨h1, show r ≤ u + 1 by omega, show u + 1 ≤ n by omega⟩, ⟨show -1 ≤ x - 48 by omega, q1.2.1⟩, Or.inl rfl, fun j => ?_, ?_, ?_⟩
      · show uZ w (x - 48) r j = -1 ∨ (0 ≤ uZ w (x - 48) r j ∧ uZ w (x - 48) r j < n)
        by_cases v : j = x - 48
        · rw [v, uZ_same]
          exact Or.inr ⟨h1, by omega⟩
        · rw [uZ_ne v]
          exact h6 j
      · show u + 1 = sumZ (fun j => if uZ w (x - 48) r j = -1 then 0 else 1) n.toNat
        rw [sum_upd (fun j => if w j = -1 then (0 : Int) else 1) (fun j => if uZ w (x - 48) r j = -1 then (0 : Int) else 1) (x - 48) 1 q1.1 n.toNat (fun j _ v => by
          show (if uZ w (x - 48) r j = -1 then (0 : Int) else 1) = (if w j = -1 then (0 : Int) else 1)
          rw [uZ_ne v]) (by
          show (if uZ w (x - 48) r (x - 48) = -1 then (0 : Int) else 1) = (if w (x - 48) = -1 then (0 : Int) else 1) + 1
          rw [uZ_same, if_neg (by omega), if_pos q1.2.2.1]
          rfl), if_pos (by omega), ← h7]
      · show a + (u - r) = sumZ (fun r => r) (u + 1).toNat - sumZ (fun j => if uZ w (x - 48) r j = -1 then 0 else uZ w (x - 48) r j) n.toNat
        rw [sum_upd (fun j => if w j = -1 then (0 : Int) else w j) (fun j => if uZ w (x - 48) r j = -1 then (0 : Int) else uZ w (x - 48) r j) (x - 48) r q1.1 n.toNat (fun j _ v => by
          show (if uZ w (x - 48) r j = -1 then (0 : Int) else uZ w (x - 48) r j) = (if w j = -1 then (0 : Int) else w j)
          rw [uZ_ne v]) (by
          show (if uZ w (x - 48) r (x - 48) = -1 then (0 : Int) else uZ w (x - 48) r (x - 48)) = (if w (x - 48) = -1 then (0 : Int) else w (x - 48)) + r
          rw [uZ_same, if_neg (by omega), if_pos q1.2.2.1, Int.zero_add]), if_pos (by omega), sumZ_s (by omega), h8]
        omega
    · rw [rst_labn hd q1] at e
      cases e
theorem rrun_ok {n : Int} (hn : 1 ≤ n) {tx : Int → Int} : ∀ (k : Nat) (S : RS), rrun n tx k = some S → rok n S
  | 0, S, h => by
    obtain rfl := Option.some.inj h
    exact ⟨⟨Int.le_refl _, Int.le_refl _, show (0 : Int) ≤ n by omega⟩, ⟨Int.le_refl _, show (-1 : Int) < n by omega⟩, Or.inl rfl, fun j => Or.inl rfl, (sumZ_0 _ (fun j _ _ => if_pos rfl)).symm, by
      have e0 : sumZ (fun j : Int => if kZ (-1) j = -1 then (0 : Int) else kZ (-1) j) n.toNat = 0 := sumZ_0 _ (fun j _ _ => if_pos rfl)
      show (0 : Int) = 0 - sumZ (fun j : Int => if kZ (-1) j = -1 then (0 : Int) else kZ (-1) j) n.toNat
      rw [e0]
      rfl⟩
  | k + 1, T, h => by
    have h2 : (rrun n tx k).bind (fun S => rst n S (tx (k : Int))) = some T := h
    cases e : rrun n tx k with
    | none =>
      rw [e] at h2
      cases h2
    | some S =>
      rw [e] at h2
      exact rst_ok hn (rrun_ok hn k S e) h2
theorem sum_full {f : Int → Int} (h : ∀ j : Int, 0 ≤ f j ∧ f j ≤ 1) : ∀ k : Nat, (k : Int) ≤ sumZ f k → ∀ j : Int, 0 ≤ j → j < k → f j = 1
  | 0, _ => fun j a b => absurd b (by omega)
  | k + 1, q => by
    have q2 : ((k + 1 : Nat) : Int) ≤ sumZ f k + f (k : Int) := q
    have h1 := sum01 h k
    have h2 := h (k : Int)
    intro j a b
    by_cases e : j = k
    · rw [e]
      omega
    · exact sum_full h k (by omega) j a (by omega)
/-- a whole path: every car has its preference -/
theorem rok_all {n r b d a : Int} {w : Int → Int} (hn : 1 ≤ n) (h : rok n (n, r, b, d, w, a)) (j : Int) (h0 : 0 ≤ j) (h1 : j < n) : 0 ≤ w j ∧ w j < n := by
  obtain ⟨_, _, _, h6, h7, _⟩ := h
  dsimp only at h6 h7
  have e := sum_full (f := fun j => if w j = -1 then (0 : Int) else 1) (fun j => by split <;> omega) n.toNat (by omega) j h0 (by omega)
  have e2 : (if w j = -1 then (0 : Int) else 1) = 1 := e
  rcases h6 j with q | q
  · rw [if_pos q] at e2
    omega
  · exact q
theorem sum_swap (f : Int → Int → Int) (p : Nat) : ∀ k : Nat, sumZ (fun i => sumZ (fun j => f i j) p) k = sumZ (fun j => sumZ (fun i => f i j) k) p
  | 0 => (sumZ_0 _ (fun _ _ _ => rfl)).symm
  | k + 1 => by
    show sumZ (fun i => sumZ (fun j => f i j) p) k + sumZ (fun j => f (k : Int) j) p = _
    rw [sum_swap f p k]
    have add : ∀ (g h : Int → Int) (m : Nat), sumZ g m + sumZ h m = sumZ (fun j => g j + h j) m := by
      intro g h m
      induction m with
      | zero => rfl
      | succ m ih =>
        show (sumZ g m + g (m : Int)) + (sumZ h m + h (m : Int)) = sumZ (fun j => g j + h j) m + (g (m : Int) + h (m : Int))
        rw [← ih]
        omega
    exact add _ _ p
theorem sum_one {k : Nat} {x v : Int} (h : 0 ≤ x ∧ x < k) : sumZ (fun r => if r = x then v else 0) k = v := by
  rw [sum_upd (fun _ => 0) (fun r => if r = x then v else 0) x v h.1 k (fun j _ u => if_neg u) (by
    show (if x = x then v else 0) = 0 + v
    rw [if_pos rfl, Int.zero_add]), sumZ_0 _ (fun _ _ _ => rfl), if_pos h.2, Int.zero_add]
theorem sum_sub (g h : Int → Int) : ∀ m : Nat, sumZ (fun j => g j - h j) m = sumZ g m - sumZ h m
  | 0 => rfl
  | m + 1 => by
    show sumZ (fun j => g j - h j) m + (g (m : Int) - h (m : Int)) = (sumZ g m + g (m : Int)) - (sumZ h m + h (m : Int))
    rw [sum_sub g h m]
    omega
theorem sum_lab {wi : Int → Int} {n : Int} (hn : 0 ≤ n) : sumZ (fun r => wi (labZ wi n r)) n.toNat = sumZ wi n.toNat := by
  have e1 : sumZ (fun r => wi (labZ wi n r)) n.toNat = sumZ (fun r => sumZ (fun j => if r = rk wi n j then wi j else 0) n.toNat) n.toNat := by
    refine sumZ_congr _ (fun r h0 h1 => ?_)
    obtain ⟨q1, q2, q3⟩ := labZ_at (wi := wi) (ct := n) (r := r) (by omega)
    have e2 : sumZ (fun j => if r = rk wi n j then wi j else 0) n.toNat = sumZ (fun j => if j = labZ wi n r then wi (labZ wi n r) else 0) n.toNat := by
      refine sumZ_congr _ (fun j j0 j1 => ?_)
      by_cases u : r = rk wi n j
      · have e3 : j = labZ wi n r := by rw [u, labZ_rk ⟨j0, by omega⟩]
        rw [if_pos u, if_pos e3, ← e3]
      · rw [if_neg u, if_neg (fun v => u (by rw [v, q3]))]
    show wi (labZ wi n r) = _
    rw [e2, sum_one (by omega)]
  rw [e1, sum_swap (fun r j => if r = rk wi n j then wi j else 0)]
  refine sumZ_congr _ (fun j h0 h1 => ?_)
  have := rk_rg (wi := wi) (ct := n) (j := j) (by omega)
  exact sum_one (by omega)
theorem area_ok {n r b d a : Int} {w wi : Int → Int} (hn : 1 ≤ n) (h : rok n (n, r, b, d, w, a)) (hw : ∀ j : Int, 0 ≤ j → j < n → wi j = w j) : sumZ (arZ wi n) n.toNat = a := by
  have ha := rok_all hn h
  obtain ⟨_, _, _, _, _, h8⟩ := h
  dsimp only at h8
  have e1 : sumZ (arZ wi n) n.toNat = sumZ (fun r => r) n.toNat - sumZ (fun r => wi (labZ wi n r)) n.toNat := sum_sub (fun r => r) (fun r => wi (labZ wi n r)) n.toNat
  rw [e1, sum_lab (by omega), h8]
  have e2 : sumZ wi n.toNat = sumZ (fun j => if w j = -1 then 0 else w j) n.toNat := by
    refine sumZ_congr _ (fun j h0 h1 => ?_)
    have := ha j h0 (by omega)
    rw [hw j h0 (by omega), if_neg (by omega)]
  rw [e2]

set_option maxHeartbeats 4000000 in
set_option maxRecDepth 100000 in
theorem c_X7_reads (l : Launch) (dd : va_G) (cI cJ cC cS : ClassId) (y0 v0 a0 r0 f0 g0 d0 t9 : Nat) (n sts ty th : Int)  (mr mt : Int → Int) (sz : Nat) (hn : 1 ≤ n ∧ n ≤ 8) (hty : 0 ≤ ty ∧ ty ≤ 40) (hmt : ∀ j : Int, 0 ≤ j → j < ty → 32 ≤ mt j ∧ mt j ≤ 126) : gMi l yX7_reads wsX7_reads 2 0 0 dd cI cJ cC cS [.ref y0] [kO y0 7 [vI n, .ref v0, .ref a0, vI sts, .ref r0, .ref f0, .ref g0, .ref d0, .ref t9, vI ty, vI th], kI cI r0 9 mr, kI cI t9 40 mt] sz (fun (z : Int) (mr1 : Int → Int) => ((0 ≤ z ∧ z ≤ ty ∧ ((z < ty ∧ (∃ S, rrun n mt (z).toNat = some S) ∧ rrun n mt (z + 1).toNat = none) ∨ (z = ty ∧ ∃ (u2 r2 b2 d2 a2 : Int) (w : Int → Int), rrun n mt ty.toNat = some (u2, r2, b2, d2, w, a2) ∧ ¬ (u2 = n ∧ r2 = n)))) ∨ (z = -1 ∧ ∃ (b2 d2 a2 : Int) (w : Int → Int), rrun n mt ty.toNat = some (n, n, b2, d2, w, a2) ∧ ∀ j : Int, 0 ≤ j → j < n → mr1 j = w j))) (fun (mr1 : Int → Int) => [kO y0 7 [vI n, .ref v0, .ref a0, vI sts, .ref r0, .ref f0, .ref g0, .ref d0, .ref t9, vI ty, vI th], kI cI r0 9 mr1, kI cI t9 40 mt]) := by
  refine gMi_of (cc := cX7_reads) (maxL := 9) (ret := (some .int)) (by decide) rfl (Nat.le_of_ble_eq_true rfl) ?_
  intro p e s m args below meth c A Q hQ hx hb hr hts hown hlocks hnm hml H locs hP hK hD hA hS ls hl
  have hi7 : ∀ w ∈ wsX70, w ∈ wsX7_reads := fun _ h => (List.mem_cons_of_mem _ (List.mem_append_right _ h))
  have hl : lv_has ls 9 [(0, .ref y0)] := hl
  refine z_iconst hx hb dX7_reads_0 ?_
  refine lv_istore_n (lv' := [(1, vI 0), (0, .ref y0)]) hx hb dX7_reads_1 rfl hl (by decide) rfl (fun ls hl => ?_)
  refine z_iconst hx hb dX7_reads_2 ?_
  refine lv_istore_n (lv' := [(2, vI 0), (1, vI 0), (0, .ref y0)]) hx hb dX7_reads_3 rfl hl (by decide) rfl (fun ls hl => ?_)
  refine z_iconst hx hb dX7_reads_4 ?_
  refine lv_istore_n (lv' := [(3, vI 0), (2, vI 0), (1, vI 0), (0, .ref y0)]) hx hb dX7_reads_5 rfl hl (by decide) rfl (fun ls hl => ?_)
  refine z_iconst hx hb dX7_reads_6 ?_
  refine lv_istore (lv' := [(4, vI (-1)), (3, vI 0), (2, vI 0), (1, vI 0), (0, .ref y0)]) hx hb dX7_reads_7 hl (by decide) rfl (fun ls hl => ?_)
  refine z_iconst hx hb dX7_reads_9 ?_
  refine lv_istore (lv' := [(5, vI 0), (4, vI (-1)), (3, vI 0), (2, vI 0), (1, vI 0), (0, .ref y0)]) hx hb dX7_reads_10 hl (by decide) rfl (fun ls hl => ?_)
  refine z_iconst hx hb dX7_reads_12 ?_
  refine lv_istore (lv' := [(6, vI 0), (5, vI 0), (4, vI (-1)), (3, vI 0), (2, vI 0), (1, vI 0), (0, .ref y0)]) hx hb dX7_reads_13 hl (by decide) rfl (fun ls hl => ?_)
  have L15 : ∀ (nn : Nat) (i : Int) (u : Int) (r : Int) (t : Int) (b : Int) (d : Int) (mra : Int → Int) (w : Int → Int) (a : Int) (H : Heap) (locs : List Loc) (ls : Array Slot), ((ty + 1 - i).toNat) = nn → (0 ≤ i ∧ i ≤ ty) → (rrun n mt i.toNat = some (u, r, b, d, w, a)) → (0 ≤ t ∧ t < 256) → (∀ j : Int, 0 ≤ j → j < n → bitZ t j = (if w j = -1 then 0 else 1)) → (∀ j : Int, 0 ≤ j → j < n → w j ≠ -1 → mra j = w j) → va_P dd vwCl [kO y0 7 [vI n, .ref v0, .ref a0, vI sts, .ref r0, .ref f0, .ref g0, .ref d0, .ref t9, vI ty, vI th], kI cI r0 9 mra, kI cI t9 40 mt] H → va_D A [kO y0 7 [vI n, .ref v0, .ref a0, vI sts, .ref r0, .ref f0, .ref g0, .ref d0, .ref t9, vI ty, vI th], kI cI r0 9 mra, kI cI t9 40 mt] → va_S A s.heap H locs → lv_has ls 9 [(1, vI u), (2, vI r), (3, vI t), (4, vI b), (5, vI d), (6, vI i), (0, .ref y0)] → W p l e (gR 2 0 0) s m args below meth c H locs 0 0 Q (F0 m 15 ls []) := by
    intro nn
    induction nn using Nat.strongRecOn with
    | ind nn L15i =>
    intro i u r t b d mra w a H locs ls hmeas hi hrn htr hbit hmr hP hD hS hl
    have hok := rrun_ok hn.1 _ _ hrn
    obtain ⟨hk1, hk2, hk3, hk4, hk5, hk6⟩ := hok
    dsimp only at hk1 hk2 hk3 hk4 hk5 hk6
    refine lv_iload hx hb dX7_reads_15 (lv_at hl 5 rfl) ?_
    refine lv_aload_n hx hb dX7_reads_17 rfl (lv_at hl 6 rfl) ?_
    refine va_get (D := dd) (ci := 7) (v := vI ty) (C := RX7) (T := TX7) (N := 11) hx hb hts hi7 hown hK hP 0 rfl rfl 9 (by decide) (hts _ (List.mem_cons_of_mem _ (List.mem_append_left _ (List.mem_of_getElem? (i := 0) rfl)))) (fun _ h9 => h9) rfl dX7_reads_18 ?_
    refine z_icmp_ge (tgt := 159) hx hb dX7_reads_21 (by decide) (by omega) (fun c21 => ?_) (fun c21 => ?_)
    · skip
      refine lv_iload_n hx hb dX7_reads_159 rfl (lv_at hl 1 rfl) ?_
      refine lv_aload_n hx hb dX7_reads_160 rfl (lv_at hl 6 rfl) ?_
      refine va_get (D := dd) (ci := 7) (v := vI n) (C := RX7) (T := TX7) (N := 11) hx hb hts hi7 hown hK hP 0 rfl rfl 0 (by decide) (hts _ (List.mem_cons_of_mem _ (List.mem_append_left _ (List.mem_of_getElem? (i := 2) rfl)))) (fun _ h9 => h9) rfl dX7_reads_161 ?_
      refine z_icmp_ne (tgt := 171) hx hb dX7_reads_164 (by decide) (by omega) (fun c164 => ?_) (fun c164 => ?_)
      · skip
        refine lv_aload_n hx hb dX7_reads_171 rfl (lv_at hl 6 rfl) ?_
        refine va_get (D := dd) (ci := 7) (v := vI ty) (C := RX7) (T := TX7) (N := 11) hx hb hts hi7 hown hK hP 0 rfl rfl 9 (by decide) (hts _ (List.mem_cons_of_mem _ (List.mem_append_left _ (List.mem_of_getElem? (i := 0) rfl)))) (fun _ h9 => h9) rfl dX7_reads_172 ?_
        subst hQ
        refine z_iret (z := ty) hx hb hr hlocks dX7_reads_175 mra hK hS ⟨by omega, by omega⟩ hP hD ?_
        rw [show i = ty by omega] at hrn
        exact Or.inl ⟨by omega, by omega, Or.inr ⟨rfl, u, r, b, d, a, w, hrn, fun v => by omega⟩⟩
      · skip
        refine z_iconst hx hb dX7_reads_167 ?_
        refine lv_goto (tgt := 175) hx hb dX7_reads_168 (by decide) ?_
        subst hQ
        refine z_iret (z := (-1)) hx hb hr hlocks dX7_reads_175 mra hK hS ⟨by omega, by omega⟩ hP hD ?_
        rw [show i = ty by omega, show u = n by omega, show r = n by omega] at hrn
        refine Or.inr ⟨rfl, b, d, a, w, hrn, fun j h0 h1 => hmr j h0 h1 (fun v => ?_)⟩
        have hk9 := rok_all hn.1 (rrun_ok hn.1 _ _ hrn) j h0 h1
        omega
    · skip
      refine lv_aload_n hx hb dX7_reads_24 rfl (lv_at hl 6 rfl) ?_
      refine va_get (D := dd) (ci := 7) (v := .ref t9) (C := RX7) (T := TX7) (N := 11) hx hb hts hi7 hown hK hP 0 rfl rfl 8 (by decide) (hts _ (List.mem_cons_of_mem _ (List.mem_append_left _ (List.mem_of_getElem? (i := 1) rfl)))) (fun _ h9 => h9) rfl dX7_reads_25 ?_
      refine lv_iload hx hb dX7_reads_28 (lv_at hl 5 rfl) ?_
      refine z_iald hx hb hK hP 2 0 rfl rfl (i := i) (by omega) (by decide) dX7_reads_30 ?_
      have f_1 := hmt i (by omega) (by omega)
      refine lv_istore (lv' := [(7, vI (mt i)), (1, vI u), (2, vI r), (3, vI t), (4, vI b), (5, vI d), (6, vI i), (0, .ref y0)]) hx hb dX7_reads_31 hl (by decide) rfl (fun ls hl => ?_)
      refine lv_iload hx hb dX7_reads_33 (lv_at hl 5 rfl) ?_
      refine z_if_eq (tgt := 108) hx hb dX7_reads_35 (by decide) (by omega) (fun c35 => ?_) (fun c35 => ?_)
      · skip
        refine lv_iload hx hb dX7_reads_108 (lv_at hl 0 rfl) ?_
        refine z_bipush hx hb dX7_reads_110 (by decide +kernel) ?_
        refine z_icmp_ne (tgt := 129) hx hb dX7_reads_112 (by decide) (by omega) (fun c112 => ?_) (fun c112 => ?_)
        · skip
          refine lv_iload hx hb dX7_reads_129 (lv_at hl 0 rfl) ?_
          refine z_bipush hx hb dX7_reads_131 (by decide +kernel) ?_
          refine z_icmp_ne (tgt := 150) hx hb dX7_reads_133 (by decide) (by omega) (fun c133 => ?_) (fun c133 => ?_)
          · skip
            refine lv_iload hx hb dX7_reads_150 (lv_at hl 6 rfl) ?_
            subst hQ
            refine z_iret (z := i) hx hb hr hlocks dX7_reads_152 mra hK hS ⟨by omega, by omega⟩ hP hD ?_
            refine Or.inl ⟨by omega, by omega, Or.inl ⟨by omega, ⟨_, hrn⟩, ?_⟩⟩
            rw [rrun_s (by omega) hrn]
            exact rst_no (by omega) (by omega) (by omega)
          · skip
            refine lv_iload_n hx hb dX7_reads_136 rfl (lv_at hl 2 rfl) ?_
            refine lv_iload_n hx hb dX7_reads_137 rfl (lv_at hl 1 rfl) ?_
            refine z_icmp_ge (tgt := 150) hx hb dX7_reads_138 (by decide) (by omega) (fun c138 => ?_) (fun c138 => ?_)
            · skip
              refine lv_iload hx hb dX7_reads_150 (lv_at hl 6 rfl) ?_
              subst hQ
              refine z_iret (z := i) hx hb hr hlocks dX7_reads_152 mra hK hS ⟨by omega, by omega⟩ hP hD ?_
              refine Or.inl ⟨by omega, by omega, Or.inl ⟨by omega, ⟨_, hrn⟩, ?_⟩⟩
              rw [rrun_s (by omega) hrn]
              exact rst_no (by omega) (by omega) (by omega)
            · skip
              refine z_iinc (a := r) (z := (r + 1)) (lv' := [(2, vI (r + 1)), (7, vI (mt i)), (1, vI u), (3, vI t), (4, vI b), (5, vI d), (6, vI i), (0, .ref y0)]) hx hb dX7_reads_141 hl (k := 2) rfl rfl (by decide) rfl (fun ls hl => ?_)
              refine z_iconst hx hb dX7_reads_144 ?_
              refine lv_istore (lv' := [(4, vI (-1)), (2, vI (r + 1)), (7, vI (mt i)), (1, vI u), (3, vI t), (5, vI d), (6, vI i), (0, .ref y0)]) hx hb dX7_reads_145 hl (by decide) rfl (fun ls hl => ?_)
              refine lv_goto (tgt := 153) hx hb dX7_reads_147 (by decide) ?_
              refine z_iinc (a := i) (z := (i + 1)) (lv' := [(6, vI (i + 1)), (4, vI (-1)), (2, vI (r + 1)), (7, vI (mt i)), (1, vI u), (3, vI t), (5, vI d), (0, .ref y0)]) hx hb dX7_reads_153 hl (k := 6) rfl rfl (by decide) rfl (fun ls hl => ?_)
              refine lv_goto (tgt := 15) hx hb dX7_reads_156 (by decide) ?_
              exact L15i _ (by omega) (i + 1) u (r + 1) t (-1) d mra w a H locs ls rfl (by omega) (by rw [rrun_s (by omega) hrn, rst_E (by omega) (by omega) ⟨by omega, by omega⟩, show d = 0 by omega]) (by omega) (hbit) (hmr) hP hD hS (lv_sub hl [4, 2, 5, 1, 6, 0, 7] rfl)
        · skip
          refine lv_iload_n hx hb dX7_reads_115 rfl (lv_at hl 1 rfl) ?_
          refine lv_aload_n hx hb dX7_reads_116 rfl (lv_at hl 7 rfl) ?_
          refine va_get (D := dd) (ci := 7) (v := vI n) (C := RX7) (T := TX7) (N := 11) hx hb hts hi7 hown hK hP 0 rfl rfl 0 (by decide) (hts _ (List.mem_cons_of_mem _ (List.mem_append_left _ (List.mem_of_getElem? (i := 2) rfl)))) (fun _ h9 => h9) rfl dX7_reads_117 ?_
          refine z_icmp_ge (tgt := 129) hx hb dX7_reads_120 (by decide) (by omega) (fun c120 => ?_) (fun c120 => ?_)
          · skip
            refine lv_iload hx hb dX7_reads_129 (lv_at hl 0 rfl) ?_
            refine z_bipush hx hb dX7_reads_131 (by decide +kernel) ?_
            refine z_icmp_ne (tgt := 150) hx hb dX7_reads_133 (by decide) (by omega) (fun c133 => ?_) (fun c133 => ?_)
            · skip
              refine lv_iload hx hb dX7_reads_150 (lv_at hl 6 rfl) ?_
              subst hQ
              refine z_iret (z := i) hx hb hr hlocks dX7_reads_152 mra hK hS ⟨by omega, by omega⟩ hP hD ?_
              refine Or.inl ⟨by omega, by omega, Or.inl ⟨by omega, ⟨_, hrn⟩, ?_⟩⟩
              rw [rrun_s (by omega) hrn]
              exact rst_no (by omega) (by omega) (by omega)
            · skip
              refine lv_iload_n hx hb dX7_reads_136 rfl (lv_at hl 2 rfl) ?_
              refine lv_iload_n hx hb dX7_reads_137 rfl (lv_at hl 1 rfl) ?_
              refine z_icmp_ge (tgt := 150) hx hb dX7_reads_138 (by decide) (by omega) (fun c138 => ?_) (fun c138 => ?_)
              · skip
                refine lv_iload hx hb dX7_reads_150 (lv_at hl 6 rfl) ?_
                subst hQ
                refine z_iret (z := i) hx hb hr hlocks dX7_reads_152 mra hK hS ⟨by omega, by omega⟩ hP hD ?_
                refine Or.inl ⟨by omega, by omega, Or.inl ⟨by omega, ⟨_, hrn⟩, ?_⟩⟩
                rw [rrun_s (by omega) hrn]
                exact rst_no (by omega) (by omega) (by omega)
              · skip
                refine z_iinc (a := r) (z := (r + 1)) (lv' := [(2, vI (r + 1)), (7, vI (mt i)), (1, vI u), (3, vI t), (4, vI b), (5, vI d), (6, vI i), (0, .ref y0)]) hx hb dX7_reads_141 hl (k := 2) rfl rfl (by decide) rfl (fun ls hl => ?_)
                refine z_iconst hx hb dX7_reads_144 ?_
                refine lv_istore (lv' := [(4, vI (-1)), (2, vI (r + 1)), (7, vI (mt i)), (1, vI u), (3, vI t), (5, vI d), (6, vI i), (0, .ref y0)]) hx hb dX7_reads_145 hl (by decide) rfl (fun ls hl => ?_)
                refine lv_goto (tgt := 153) hx hb dX7_reads_147 (by decide) ?_
                refine z_iinc (a := i) (z := (i + 1)) (lv' := [(6, vI (i + 1)), (4, vI (-1)), (2, vI (r + 1)), (7, vI (mt i)), (1, vI u), (3, vI t), (5, vI d), (0, .ref y0)]) hx hb dX7_reads_153 hl (k := 6) rfl rfl (by decide) rfl (fun ls hl => ?_)
                refine lv_goto (tgt := 15) hx hb dX7_reads_156 (by decide) ?_
                exact L15i _ (by omega) (i + 1) u (r + 1) t (-1) d mra w a H locs ls rfl (by omega) (by rw [rrun_s (by omega) hrn, rst_E (by omega) (by omega) ⟨by omega, by omega⟩, show d = 0 by omega]) (by omega) (hbit) (hmr) hP hD hS (lv_sub hl [4, 2, 5, 1, 6, 0, 7] rfl)
          · skip
            refine z_iconst hx hb dX7_reads_123 ?_
            refine lv_istore (lv' := [(5, vI 1), (7, vI (mt i)), (1, vI u), (2, vI r), (3, vI t), (4, vI b), (6, vI i), (0, .ref y0)]) hx hb dX7_reads_124 hl (by decide) rfl (fun ls hl => ?_)
            refine lv_goto (tgt := 153) hx hb dX7_reads_126 (by decide) ?_
            refine z_iinc (a := i) (z := (i + 1)) (lv' := [(6, vI (i + 1)), (5, vI 1), (7, vI (mt i)), (1, vI u), (2, vI r), (3, vI t), (4, vI b), (0, .ref y0)]) hx hb dX7_reads_153 hl (k := 6) rfl rfl (by decide) rfl (fun ls hl => ?_)
            refine lv_goto (tgt := 15) hx hb dX7_reads_156 (by decide) ?_
            exact L15i _ (by omega) (i + 1) u r t b 1 mra w a H locs ls rfl (by omega) (by rw [rrun_s (by omega) hrn, rst_N (by omega) ⟨by omega, by omega⟩]) (by omega) (hbit) (hmr) hP hD hS (lv_sub hl [3, 4, 5, 6, 1, 0, 7] rfl)
      · skip
        refine lv_iload hx hb dX7_reads_38 (lv_at hl 0 rfl) ?_
        refine z_bipush hx hb dX7_reads_40 (by decide +kernel) ?_
        refine z_isub (z := ((mt i) - 48)) hx hb rfl dX7_reads_42 ?_
        refine lv_istore (lv' := [(8, vI ((mt i) - 48)), (7, vI (mt i)), (1, vI u), (2, vI r), (3, vI t), (4, vI b), (5, vI d), (6, vI i), (0, .ref y0)]) hx hb dX7_reads_43 hl (by decide) rfl (fun ls hl => ?_)
        refine lv_iload hx hb dX7_reads_45 (lv_at hl 0 rfl) ?_
        refine z_iconst hx hb dX7_reads_47 ?_
        refine lv_aload_n hx hb dX7_reads_48 rfl (lv_at hl 8 rfl) ?_
        refine va_get (D := dd) (ci := 7) (v := vI n) (C := RX7) (T := TX7) (N := 11) hx hb hts hi7 hown hK hP 0 rfl rfl 0 (by decide) (hts _ (List.mem_cons_of_mem _ (List.mem_append_left _ (List.mem_of_getElem? (i := 2) rfl)))) (fun _ h9 => h9) rfl dX7_reads_49 ?_
        refine z_iconst hx hb dX7_reads_52 ?_
        refine z_isub (z := (n - 1)) hx hb rfl dX7_reads_53 ?_
        refine g_callSi (own := RX7) (n := 3) (mc := 0) (ms := 0) (As := [vI ((mt i) - 48), vI 0, vI (n - 1)]) (rest := []) (wc := []) (wr := [kO y0 7 [vI n, .ref v0, .ref a0, vI sts, .ref r0, .ref f0, .ref g0, .ref d0, .ref t9, vI ty, vI th], kI cI r0 9 mra, kI cI t9 40 mt]) hx hb hml hown hts hK hP hD hS hA [] [0, 1, 2] rfl rfl (by decide) (by decide) (c_X7_in l dd cI cJ cC cS ((mt i) - 48) 0 (n - 1) H.size  (by first | assumption | omega) (by first | assumption | omega) (by first | assumption | omega)) gX7_reads_X7_in rfl (by decide +kernel) (by decide) (by decide) (by decide) (by decide) rfl hl.1 rfl (Nat.le_of_ble_eq_true rfl) dX7_reads_54 (fun z_2 u_3 H locs hp54 hP hD hS => ?_)
        rcases hp54 with ⟨hp54_0, hp54_1, hp54_z⟩ | ⟨hp54_0, hp54_z⟩
        · skip
          subst z_2
          have hP : va_P dd vwCl [kO y0 7 [vI n, .ref v0, .ref a0, vI sts, .ref r0, .ref f0, .ref g0, .ref d0, .ref t9, vI ty, vI th], kI cI r0 9 mra, kI cI t9 40 mt] H := hP
          have hD : va_D A [kO y0 7 [vI n, .ref v0, .ref a0, vI sts, .ref r0, .ref f0, .ref g0, .ref d0, .ref t9, vI ty, vI th], kI cI r0 9 mra, kI cI t9 40 mt] := hD
          refine z_if_eq (tgt := 77) hx hb dX7_reads_57 (by decide) (by omega) (fun c57 => ?_) (fun c57 => ?_)
          · exact absurd c57 (by omega)
          · skip
            refine lv_iload_n hx hb dX7_reads_60 rfl (lv_at hl 4 rfl) ?_
            refine lv_iload hx hb dX7_reads_61 (lv_at hl 0 rfl) ?_
            refine lv_ishr hx hb dX7_reads_63 ?_
            refine z_bin (va := .null) (vb := .null) (y := zI (t / 2 ^ ((mt i) - 48).toNat)) (zI_shr (by omega)) ?_
            refine z_iconst hx hb dX7_reads_64 ?_
            refine lv_iand hx hb dX7_reads_65 ?_
            refine z_bin (va := .null) (vb := .null) (y := zI ((t / 2 ^ ((mt i) - 48).toNat) % 2)) (zI_and1 (Int.ediv_nonneg (by omega) (Int.le_of_lt (pow_pos2 _)))) ?_
            refine z_iconst hx hb dX7_reads_66 ?_
            refine z_icmp_eq (tgt := 77) hx hb dX7_reads_67 (by decide) (by omega) (fun c67 => ?_) (fun c67 => ?_)
            · skip
              refine lv_iload hx hb dX7_reads_77 (lv_at hl 7 rfl) ?_
              subst hQ
              refine z_iret (z := i) hx hb hr hlocks dX7_reads_79 mra hK hS ⟨by omega, by omega⟩ hP hD ?_
              refine Or.inl ⟨by omega, by omega, Or.inl ⟨by omega, ⟨_, hrn⟩, ?_⟩⟩
              rw [rrun_s (by omega) hrn]
              refine rst_labn (by omega) (fun q => ?_)
              first
              | omega
              | (have hq := hbit (mt i - 48) q.1 q.2.1
                 rw [if_pos q.2.2.1] at hq
                 have hq2 : t / 2 ^ (mt i - 48).toNat % 2 = 0 := hq
                 omega)
            · skip
              refine lv_iload hx hb dX7_reads_70 (lv_at hl 0 rfl) ?_
              refine lv_iload hx hb dX7_reads_72 (lv_at hl 5 rfl) ?_
              refine z_icmp_gt (tgt := 80) hx hb dX7_reads_74 (by decide) (by omega) (fun c74 => ?_) (fun c74 => ?_)
              · skip
                refine lv_iload_n hx hb dX7_reads_80 rfl (lv_at hl 4 rfl) ?_
                refine z_iconst hx hb dX7_reads_81 ?_
                refine lv_iload hx hb dX7_reads_82 (lv_at hl 0 rfl) ?_
                have hwm : w (mt i - 48) = -1 := by
                  by_cases v : w (mt i - 48) = -1
                  · exact v
                  · have v2 := hbit (mt i - 48) (by omega) (by omega)
                    rw [if_neg v] at v2
                    have v3 : t / 2 ^ (mt i - 48).toNat % 2 = 1 := v2
                    omega
                have hob := or_bit (t := t) (s := (mt i - 48)) htr (by omega) (by rw [hbit (mt i - 48) (by omega) (by omega), if_pos hwm])
                refine z_shl1 (z := (2 ^ ((mt i) - 48).toNat)) hx hb (by omega) rfl dX7_reads_84 ?_
                refine lv_ior hx hb dX7_reads_85 ?_
                refine z_bin (va := .null) (vb := .null) (y := zI (t + (2 ^ ((mt i) - 48).toNat))) (hob.1) ?_
                refine lv_istore_n (lv' := [(3, vI (t + (2 ^ ((mt i) - 48).toNat))), (8, vI ((mt i) - 48)), (7, vI (mt i)), (1, vI u), (2, vI r), (4, vI b), (5, vI d), (6, vI i), (0, .ref y0)]) hx hb dX7_reads_86 rfl hl (by decide) rfl (fun ls hl => ?_)
                refine lv_iload hx hb dX7_reads_87 (lv_at hl 1 rfl) ?_
                refine lv_istore (lv' := [(4, vI ((mt i) - 48)), (3, vI (t + (2 ^ ((mt i) - 48).toNat))), (8, vI ((mt i) - 48)), (7, vI (mt i)), (1, vI u), (2, vI r), (5, vI d), (6, vI i), (0, .ref y0)]) hx hb dX7_reads_89 hl (by decide) rfl (fun ls hl => ?_)
                refine lv_aload_n hx hb dX7_reads_91 rfl (lv_at hl 8 rfl) ?_
                refine va_get (D := dd) (ci := 7) (v := .ref r0) (C := RX7) (T := TX7) (N := 11) hx hb hts hi7 hown hK hP 0 rfl rfl 4 (by decide) (hts _ (List.mem_cons_of_mem _ (List.mem_append_left _ (List.mem_of_getElem? (i := 3) rfl)))) (fun _ h9 => h9) rfl dX7_reads_92 ?_
                refine lv_iload hx hb dX7_reads_95 (lv_at hl 2 rfl) ?_
                refine lv_iload_n hx hb dX7_reads_97 rfl (lv_at hl 5 rfl) ?_
                refine z_iast (ws' := [kO y0 7 [vI n, .ref v0, .ref a0, vI sts, .ref r0, .ref f0, .ref g0, .ref d0, .ref t9, vI ty, vI th], kI cI r0 9 (uZ mra ((mt i) - 48) r), kI cI t9 40 mt]) hx hb hK hP hD hS 1 0 rfl rfl (i := ((mt i) - 48)) (x := r) (by omega) (by decide) dX7_reads_98 rfl (fun H locs hP hD hS => ?_)
                refine z_iinc (a := u) (z := (u + 1)) (lv' := [(1, vI (u + 1)), (4, vI ((mt i) - 48)), (3, vI (t + (2 ^ ((mt i) - 48).toNat))), (8, vI ((mt i) - 48)), (7, vI (mt i)), (2, vI r), (5, vI d), (6, vI i), (0, .ref y0)]) hx hb dX7_reads_99 hl (k := 4) rfl rfl (by decide) rfl (fun ls hl => ?_)
                refine z_iconst hx hb dX7_reads_102 ?_
                refine lv_istore (lv' := [(5, vI 0), (1, vI (u + 1)), (4, vI ((mt i) - 48)), (3, vI (t + (2 ^ ((mt i) - 48).toNat))), (8, vI ((mt i) - 48)), (7, vI (mt i)), (2, vI r), (6, vI i), (0, .ref y0)]) hx hb dX7_reads_103 hl (by decide) rfl (fun ls hl => ?_)
                refine lv_goto (tgt := 153) hx hb dX7_reads_105 (by decide) ?_
                refine z_iinc (a := i) (z := (i + 1)) (lv' := [(6, vI (i + 1)), (5, vI 0), (1, vI (u + 1)), (4, vI ((mt i) - 48)), (3, vI (t + (2 ^ ((mt i) - 48).toNat))), (8, vI ((mt i) - 48)), (7, vI (mt i)), (2, vI r), (0, .ref y0)]) hx hb dX7_reads_153 hl (k := 7) rfl rfl (by decide) rfl (fun ls hl => ?_)
                refine lv_goto (tgt := 15) hx hb dX7_reads_156 (by decide) ?_
                exact L15i _ (by omega) (i + 1) (u + 1) r (t + (2 ^ ((mt i) - 48).toNat)) ((mt i) - 48) 0 (uZ mra ((mt i) - 48) r) (uZ w (mt i - 48) r) (a + (u - r)) H locs ls rfl (by omega) (by rw [rrun_s (by omega) hrn, rst_lab (by omega) ⟨by omega, by omega, hwm, by omega⟩]) (⟨hob.2.1, hob.2.2.1⟩) (fun j h0 h1 => by
                  rw [hob.2.2.2 j h0 (by omega)]
                  by_cases v : j = (mt i - 48)
                  · rw [if_pos v, v, uZ_same, if_neg (by omega)]
                  · rw [if_neg v, uZ_ne v]
                    exact hbit j h0 h1) (fun j h0 h1 v => by
                  by_cases v2 : j = (mt i - 48)
                  · rw [v2, uZ_same, uZ_same]
                  · rw [uZ_ne v2] at v ⊢
                    rw [uZ_ne v2]
                    exact hmr j h0 h1 v) hP hD hS (lv_sub hl [2, 7, 4, 3, 1, 0, 8] rfl)
              · skip
                refine lv_iload hx hb dX7_reads_77 (lv_at hl 7 rfl) ?_
                subst hQ
                refine z_iret (z := i) hx hb hr hlocks dX7_reads_79 mra hK hS ⟨by omega, by omega⟩ hP hD ?_
                refine Or.inl ⟨by omega, by omega, Or.inl ⟨by omega, ⟨_, hrn⟩, ?_⟩⟩
                rw [rrun_s (by omega) hrn]
                refine rst_labn (by omega) (fun q => ?_)
                first
                | omega
                | (have hq := hbit (mt i - 48) q.1 q.2.1
                   rw [if_pos q.2.2.1] at hq
                   have hq2 : t / 2 ^ (mt i - 48).toNat % 2 = 0 := hq
                   omega)
        · skip
          subst z_2
          have hP : va_P dd vwCl [kO y0 7 [vI n, .ref v0, .ref a0, vI sts, .ref r0, .ref f0, .ref g0, .ref d0, .ref t9, vI ty, vI th], kI cI r0 9 mra, kI cI t9 40 mt] H := hP
          have hD : va_D A [kO y0 7 [vI n, .ref v0, .ref a0, vI sts, .ref r0, .ref f0, .ref g0, .ref d0, .ref t9, vI ty, vI th], kI cI r0 9 mra, kI cI t9 40 mt] := hD
          refine z_if_eq (tgt := 77) hx hb dX7_reads_57 (by decide) (by omega) (fun c57 => ?_) (fun c57 => ?_)
          · skip
            refine lv_iload hx hb dX7_reads_77 (lv_at hl 7 rfl) ?_
            subst hQ
            refine z_iret (z := i) hx hb hr hlocks dX7_reads_79 mra hK hS ⟨by omega, by omega⟩ hP hD ?_
            refine Or.inl ⟨by omega, by omega, Or.inl ⟨by omega, ⟨_, hrn⟩, ?_⟩⟩
            rw [rrun_s (by omega) hrn]
            refine rst_labn (by omega) (fun q => ?_)
            first
            | omega
            | (have hq := hbit (mt i - 48) q.1 q.2.1
               rw [if_pos q.2.2.1] at hq
               have hq2 : t / 2 ^ (mt i - 48).toNat % 2 = 0 := hq
               omega)
          · exact absurd c57 (by omega)
  exact L15 _ 0 0 0 0 (-1) 0 mr (kZ (-1)) 0 H locs ls rfl (by omega) (rfl) (by omega) (fun j h0 h1 => by
    rw [if_pos (show kZ (-1) j = -1 from rfl)]
    unfold bitZ
    rw [Int.zero_ediv]
    rfl) (fun j h0 h1 v => absurd rfl v) hP hD hS (lv_sub hl [5, 4, 3, 2, 1, 0, 6] rfl)

set_option maxHeartbeats 4000000 in
set_option maxRecDepth 100000 in
theorem c_X7_readPath (l : Launch) (dd : va_G) (cI cJ cC cS : ClassId) (y0 v0 a0 r0 f0 g0 d0 t9 : Nat) (n sts ty th : Int) (mv : Int → Int) (mp : Int → Int) (mr mt : Int → Int) (sz : Nat) (hst : 0 ≤ sts ∧ sts ≤ 6) (hn : 1 ≤ n ∧ n ≤ 8) (hty : 0 ≤ ty ∧ ty ≤ 40) (hmt : ∀ j : Int, 0 ≤ j → j < ty → 32 ≤ mt j ∧ mt j ≤ 126) : gMi l yX7_readPath wsX7_readPath 4 0 0 dd cI cJ cC cS [.ref y0] [kO y0 7 [vI n, .ref v0, .ref a0, vI sts, .ref r0, .ref f0, .ref g0, .ref d0, .ref t9, vI ty, vI th], kI cI v0 21 mv, kI cI a0 126 mp, kI cI r0 9 mr, kI cI t9 40 mt] sz (fun (z : Int) (u : Int × Int × (Int → Int) × (Int → Int) × (Int → Int)) => ((∃ i : Int, 0 ≤ i ∧ i ≤ ty ∧ ((i < ty ∧ (∃ S, rrun n mt (i).toNat = some S) ∧ rrun n mt (i + 1).toNat = none) ∨ (i = ty ∧ ∃ (u2 r2 b2 d2 a2 : Int) (w : Int → Int), rrun n mt ty.toNat = some (u2, r2, b2, d2, w, a2) ∧ ¬ (u2 = n ∧ r2 = n))) ∧ z = -1 - i ∧ u.1 = sts ∧ u.2.1 = ty ∧ u.2.2.1 = mv ∧ u.2.2.2.1 = mp) ∨ (∃ (b2 d2 : Int) (w : Int → Int), rrun n mt ty.toNat = some (n, n, b2, d2, w, z) ∧ u.1 = acS sts ∧ u.2.1 = 0 ∧ u.2.2.1 = wrP (uZ mv 0 n) w 12 n ∧ u.2.2.2.1 = acP sts mp mv))) (fun (u : Int × Int × (Int → Int) × (Int → Int) × (Int → Int)) => [kO y0 7 [vI n, .ref v0, .ref a0, vI u.1, .ref r0, .ref f0, .ref g0, .ref d0, .ref t9, vI u.2.1, vI 0], kI cI v0 21 u.2.2.1, kI cI a0 126 u.2.2.2.1, kI cI r0 9 u.2.2.2.2, kI cI t9 40 mt]) := by
  refine gMi_of (cc := cX7_readPath) (maxL := 2) (ret := (some .int)) (by decide) rfl (Nat.le_of_ble_eq_true rfl) ?_
  intro p e s m args below meth c A Q hQ hx hb hr hts hown hlocks hnm hml H locs hP hK hD hA hS ls hl
  have hi7 : ∀ w ∈ wsX70, w ∈ wsX7_readPath := fun _ h => (List.mem_cons_of_mem _ (List.mem_append_right _ h))
  have hl : lv_has ls 2 [(0, .ref y0)] := hl
  refine lv_aload_n hx hb dX7_readPath_0 rfl (lv_at hl 0 rfl) ?_
  refine z_iconst hx hb dX7_readPath_1 ?_
  refine va_put (D := dd) (ci := 7) (v := vI 0) (ty := .int) (C := RX7) (T := TX7) (N := 11) hx hb hts hi7 tyX7 tyX7_ok nmX7 hown hK hP hD hS 0 rfl rfl 10 (by decide) (hts _ (List.mem_cons_of_mem _ (List.mem_append_left _ (List.mem_append_left _ (List.mem_of_getElem? (i := 0) rfl))))) (fun _ h9 => h9) rfl (by decide +kernel) rfl rfl (Nat.le_of_ble_eq_true rfl) dX7_readPath_2 (fun H locs hP hD hS => ?_)
  have hP : va_P dd vwCl [kO y0 7 [vI n, .ref v0, .ref a0, vI sts, .ref r0, .ref f0, .ref g0, .ref d0, .ref t9, vI ty, vI 0], kI cI v0 21 mv, kI cI a0 126 mp, kI cI r0 9 mr, kI cI t9 40 mt] H := hP
  have hD : va_D A [kO y0 7 [vI n, .ref v0, .ref a0, vI sts, .ref r0, .ref f0, .ref g0, .ref d0, .ref t9, vI ty, vI 0], kI cI v0 21 mv, kI cI a0 126 mp, kI cI r0 9 mr, kI cI t9 40 mt] := hD
  refine lv_aload_n hx hb dX7_readPath_5 rfl (lv_at hl 0 rfl) ?_
  refine g_callVi (own := RX7) (n := 0) (mc := 0) (ms := 0) (As := []) (rest := []) (wc := [kO y0 7 [vI n, .ref v0, .ref a0, vI sts, .ref r0, .ref f0, .ref g0, .ref d0, .ref t9, vI ty, vI 0], kI cI r0 9 mr, kI cI t9 40 mt]) (wr := [kI cI v0 21 mv, kI cI a0 126 mp]) hx hb hml hown hts hK hP hD hS hA [0, 3, 4] [1, 2] rfl rfl (by decide) (by decide) 7 0 rfl rfl (c_X7_reads l dd cI cJ cC cS y0 v0 a0 r0 f0 g0 d0 t9 n sts ty 0 mr mt H.size  (by first | assumption | omega) (by first | assumption | omega) (by first | assumption | (intro j h0 h1; omega))) gX7_readPath_X7_reads rfl (by decide +kernel) (by decide) (by decide) (by decide) (by decide) rfl hl.1 rfl (Nat.le_of_ble_eq_true rfl) dX7_readPath_6 (fun z_1 u_2 H locs hp6 hP hD hS => ?_)
  obtain ⟨mrb, rfl⟩ : ∃ x, x = u_2 := ⟨_, rfl⟩
  try dsimp only at hp6
  have hP : va_P dd vwCl [kI cI v0 21 mv, kI cI a0 126 mp, kO y0 7 [vI n, .ref v0, .ref a0, vI sts, .ref r0, .ref f0, .ref g0, .ref d0, .ref t9, vI ty, vI 0], kI cI r0 9 mrb, kI cI t9 40 mt] H := hP
  have hD : va_D A [kI cI v0 21 mv, kI cI a0 126 mp, kO y0 7 [vI n, .ref v0, .ref a0, vI sts, .ref r0, .ref f0, .ref g0, .ref d0, .ref t9, vI ty, vI 0], kI cI r0 9 mrb, kI cI t9 40 mt] := hD
  have hz9 : -1 ≤ z_1 ∧ z_1 ≤ 40 := by
    rcases hp6 with ⟨a1, a2, a3⟩ | ⟨a1, a2⟩
    · clear a3
      omega
    · clear a2
      omega
  have hp6 : Hid _ := hp6
  refine lv_istore_n (lv' := [(1, vI z_1), (0, .ref y0)]) hx hb dX7_readPath_9 rfl hl (by decide) rfl (fun ls hl => ?_)
  refine lv_iload_n hx hb dX7_readPath_10 rfl (lv_at hl 0 rfl) ?_
  refine z_if_lt (tgt := 18) hx hb dX7_readPath_11 (by decide) (by omega) (fun c11 => ?_) (fun c11 => ?_)
  · skip
    refine lv_aload_n hx hb dX7_readPath_18 rfl (lv_at hl 1 rfl) ?_
    refine g_callVv (own := RX7) (n := 0) (mc := 0) (ms := 0) (As := []) (rest := []) (wc := [kO y0 7 [vI n, .ref v0, .ref a0, vI sts, .ref r0, .ref f0, .ref g0, .ref d0, .ref t9, vI ty, vI 0], kI cI v0 21 mv, kI cI a0 126 mp]) (wr := [kI cI r0 9 mrb, kI cI t9 40 mt]) hx hb hml hown hts hK hP hD hS hA [2, 0, 1] [3, 4] rfl rfl (by decide) (by decide) 7 0 rfl rfl (c_X7_act l dd cI cJ cC cS y0 v0 a0 r0 f0 g0 d0 t9 n sts ty 0 mv mp H.size  (by first | assumption | omega)) gX7_readPath_X7_act rfl (by decide +kernel) (by decide) (by decide) (by decide) (by decide) rfl hl.1 rfl (Nat.le_of_ble_eq_true rfl) dX7_readPath_19 (fun u_3 H locs hp19 hP hD hS => ?_)
    have hP : va_P dd vwCl [kI cI r0 9 mrb, kI cI t9 40 mt, kO y0 7 [vI n, .ref v0, .ref a0, vI (acS sts), .ref r0, .ref f0, .ref g0, .ref d0, .ref t9, vI ty, vI 0], kI cI v0 21 mv, kI cI a0 126 (acP sts mp mv)] H := hP
    have hD : va_D A [kI cI r0 9 mrb, kI cI t9 40 mt, kO y0 7 [vI n, .ref v0, .ref a0, vI (acS sts), .ref r0, .ref f0, .ref g0, .ref d0, .ref t9, vI ty, vI 0], kI cI v0 21 mv, kI cI a0 126 (acP sts mp mv)] := hD
    refine lv_aload_n hx hb dX7_readPath_22 rfl (lv_at hl 1 rfl) ?_
    refine lv_aload_n hx hb dX7_readPath_23 rfl (lv_at hl 1 rfl) ?_
    refine va_get (D := dd) (ci := 7) (v := vI n) (C := RX7) (T := TX7) (N := 11) hx hb hts hi7 hown hK hP 2 rfl rfl 0 (by decide) (hts _ (List.mem_cons_of_mem _ (List.mem_append_left _ (List.mem_append_left _ (List.mem_of_getElem? (i := 1) rfl))))) (fun _ h9 => h9) rfl dX7_readPath_24 ?_
    refine g_callVv (own := RX7) (n := 1) (mc := 0) (ms := 0) (As := [vI n]) (rest := []) (wc := [kO y0 7 [vI n, .ref v0, .ref a0, vI (acS sts), .ref r0, .ref f0, .ref g0, .ref d0, .ref t9, vI ty, vI 0], kI cI v0 21 mv, kI cI r0 9 mrb]) (wr := [kI cI t9 40 mt, kI cI a0 126 (acP sts mp mv)]) hx hb hml hown hts hK hP hD hS hA [2, 3, 0] [1, 4] rfl rfl (by decide) (by decide) 7 0 rfl rfl (c_X7_lays l dd cI cJ cC cS y0 v0 a0 r0 f0 g0 d0 t9 n (acS sts) ty 0 mv mrb n H.size  (by first | assumption | omega)) gX7_readPath_X7_lays rfl (by decide +kernel) (by decide) (by decide) (by decide) (by decide) rfl hl.1 rfl (Nat.le_of_ble_eq_true rfl) dX7_readPath_27 (fun u_4 H locs hp27 hP hD hS => ?_)
    have hP : va_P dd vwCl [kI cI t9 40 mt, kI cI a0 126 (acP sts mp mv), kO y0 7 [vI n, .ref v0, .ref a0, vI (acS sts), .ref r0, .ref f0, .ref g0, .ref d0, .ref t9, vI ty, vI 0], kI cI v0 21 (wrP (uZ mv 0 n) mrb 12 n), kI cI r0 9 mrb] H := hP
    have hD : va_D A [kI cI t9 40 mt, kI cI a0 126 (acP sts mp mv), kO y0 7 [vI n, .ref v0, .ref a0, vI (acS sts), .ref r0, .ref f0, .ref g0, .ref d0, .ref t9, vI ty, vI 0], kI cI v0 21 (wrP (uZ mv 0 n) mrb 12 n), kI cI r0 9 mrb] := hD
    refine lv_aload_n hx hb dX7_readPath_30 rfl (lv_at hl 1 rfl) ?_
    refine z_iconst hx hb dX7_readPath_31 ?_
    refine va_put (D := dd) (ci := 7) (v := vI 0) (ty := .int) (C := RX7) (T := TX7) (N := 11) hx hb hts hi7 tyX7 tyX7_ok nmX7 hown hK hP hD hS 2 rfl rfl 9 (by decide) (hts _ (List.mem_cons_of_mem _ (List.mem_append_left _ (List.mem_append_left _ (List.mem_of_getElem? (i := 2) rfl))))) (fun _ h9 => h9) rfl (by decide +kernel) rfl rfl (Nat.le_of_ble_eq_true rfl) dX7_readPath_32 (fun H locs hP hD hS => ?_)
    have hP : va_P dd vwCl [kI cI t9 40 mt, kI cI a0 126 (acP sts mp mv), kO y0 7 [vI n, .ref v0, .ref a0, vI (acS sts), .ref r0, .ref f0, .ref g0, .ref d0, .ref t9, vI 0, vI 0], kI cI v0 21 (wrP (uZ mv 0 n) mrb 12 n), kI cI r0 9 mrb] H := hP
    have hD : va_D A [kI cI t9 40 mt, kI cI a0 126 (acP sts mp mv), kO y0 7 [vI n, .ref v0, .ref a0, vI (acS sts), .ref r0, .ref f0, .ref g0, .ref d0, .ref t9, vI 0, vI 0], kI cI v0 21 (wrP (uZ mv 0 n) mrb 12 n), kI cI r0 9 mrb] := hD
    refine lv_aload_n hx hb dX7_readPath_35 rfl (lv_at hl 1 rfl) ?_
    have hpw : ∃ (b2 d2 a2 : Int) (w : Int → Int), rrun n mt ty.toNat = some (n, n, b2, d2, w, a2) ∧ ∀ j : Int, 0 ≤ j → j < n → mrb j = w j := by
      unfold Hid at hp6
      rcases hp6 with ⟨a1, a2, a3⟩ | ⟨a1, a2⟩
      · clear a3
        omega
      · exact a2
    obtain ⟨b2, d2, a2, w, hrn, hrw⟩ := hpw
    have hwr : ∀ j : Int, 0 ≤ j → j < n → (wrP (uZ mv 0 n) mrb 12 n) (12 + j) = w j := fun j h0 h1 => by
      have e9 : (wrP (uZ mv 0 n) mrb 12 n) (12 + j) = mrb (12 + j - 12) := if_pos ⟨by omega, by omega⟩
      rw [e9, show 12 + j - 12 = j by omega]
      exact hrw j h0 h1
    have hka := rrun_ok hn.1 _ _ hrn
    have hkb := rok_all hn.1 hka
    refine g_callVi (own := RX7) (n := 0) (mc := 0) (ms := 0) (As := []) (rest := []) (wc := [kO y0 7 [vI n, .ref v0, .ref a0, vI (acS sts), .ref r0, .ref f0, .ref g0, .ref d0, .ref t9, vI 0, vI 0], kI cI v0 21 (wrP (uZ mv 0 n) mrb 12 n)]) (wr := [kI cI t9 40 mt, kI cI a0 126 (acP sts mp mv), kI cI r0 9 mrb]) hx hb hml hown hts hK hP hD hS hA [2, 3] [0, 1, 4] rfl rfl (by decide) (by decide) 7 0 rfl rfl (c_X7_wholeArea l dd cI cJ cC cS y0 v0 a0 r0 f0 g0 d0 t9 n (acS sts) 0 0 (wrP (uZ mv 0 n) mrb 12 n) H.size  (by first | assumption | omega) (fun j h0 h1 => by rw [hwr j h0 h1]; exact hkb j h0 h1)) gX7_readPath_X7_wholeArea rfl (by decide +kernel) (by decide) (by decide) (by decide) (by decide) rfl hl.1 rfl (Nat.le_of_ble_eq_true rfl) dX7_readPath_36 (fun z_5 u_6 H locs hp36 hP hD hS => ?_)
    subst z_5
    have hP : va_P dd vwCl [kI cI t9 40 mt, kI cI a0 126 (acP sts mp mv), kI cI r0 9 mrb, kO y0 7 [vI n, .ref v0, .ref a0, vI (acS sts), .ref r0, .ref f0, .ref g0, .ref d0, .ref t9, vI 0, vI 0], kI cI v0 21 (wrP (uZ mv 0 n) mrb 12 n)] H := hP
    have hD : va_D A [kI cI t9 40 mt, kI cI a0 126 (acP sts mp mv), kI cI r0 9 mrb, kO y0 7 [vI n, .ref v0, .ref a0, vI (acS sts), .ref r0, .ref f0, .ref g0, .ref d0, .ref t9, vI 0, vI 0], kI cI v0 21 (wrP (uZ mv 0 n) mrb 12 n)] := hD
    subst hQ
    refine z_iret (z := sumZ (arZ (wv (wrP (uZ mv 0 n) mrb 12 n)) n) n.toNat) hx hb hr hlocks dX7_readPath_39 ((acS sts), 0, (wrP (uZ mv 0 n) mrb 12 n), (acP sts mp mv), mrb) hK hS ⟨by omega, by omega⟩ (hP.sub [3, 4, 1, 2, 0] rfl) (hD.sub [3, 4, 1, 2, 0] (by decide) rfl) ?_
    have har := area_ok (wi := wv (wrP (uZ mv 0 n) mrb 12 n)) hn.1 hka hwr
    exact Or.inr ⟨b2, d2, w, by rw [har]; exact hrn, rfl, rfl, wrP_congr hrw, rfl⟩
  · skip
    refine z_iconst hx hb dX7_readPath_14 ?_
    refine lv_iload_n hx hb dX7_readPath_15 rfl (lv_at hl 0 rfl) ?_
    refine z_isub (z := ((-1) - z_1)) hx hb rfl dX7_readPath_16 ?_
    subst hQ
    refine z_iret (z := ((-1) - z_1)) hx hb hr hlocks dX7_readPath_17 (sts, ty, mv, mp, mrb) hK hS ⟨by omega, by omega⟩ (hP.sub [2, 0, 1, 3, 4] rfl) (hD.sub [2, 0, 1, 3, 4] (by decide) rfl) ?_
    unfold Hid at hp6
    rcases hp6 with ⟨a1, a2, a3⟩ | ⟨a1, b2, d2, a2, w, a3, a4⟩
    · exact Or.inl ⟨_, a1, a2, a3, rfl, rfl, rfl, rfl, rfl⟩
    · clear a3 a4
      omega

set_option maxHeartbeats 4000000 in
set_option maxRecDepth 100000 in
theorem c_X7_fingerprint (l : Launch) (dd : va_G) (cI cJ cC cS : ClassId) (y0 v0 a0 r0 f0 g0 d0 t9 : Nat) (n sts ty th : Int) (mv : Int → Int) (mr mf mg md : Int → Int) (sz : Nat) (hn : 1 ≤ n ∧ n ≤ 8) (hc0 : 0 ≤ mv 0 ∧ mv 0 ≤ 9) (hc1 : 0 ≤ mv 1 ∧ mv 1 ≤ 3) (hc2 : 0 ≤ mv 2 ∧ mv 2 ≤ 8) (hcap : ∀ j : Int, 0 ≤ j → j < n → 0 ≤ mv (3 + j) ∧ mv (3 + j) ≤ 3) (hwi : ∀ j : Int, 0 ≤ j → j < mv 0 → 0 ≤ mv (12 + j) ∧ mv (12 + j) < n) : gMl l yX7_fingerprint wsX7_fingerprint 6 0 0 dd cI cJ cC cS [.ref y0] [kO y0 7 [vI n, .ref v0, .ref a0, vI sts, .ref r0, .ref f0, .ref g0, .ref d0, .ref t9, vI ty, vI th], kI cI v0 21 mv, kI cI r0 9 mr, kI cI f0 9 mf, kI cI g0 9 mg, kI cI d0 8 md] sz (fun (z : Int) (u : (Int → Int) × (Int → Int) × (Int → Int) × (Int → Int)) => z = fpr n (rmc mv) (wv mv) (mv 0) (mv 1) (mv 2)) (fun (u : (Int → Int) × (Int → Int) × (Int → Int) × (Int → Int)) => [kO y0 7 [vI n, .ref v0, .ref a0, vI sts, .ref r0, .ref f0, .ref g0, .ref d0, .ref t9, vI ty, vI 0], kI cI v0 21 mv, kI cI r0 9 u.1, kI cI f0 9 u.2.1, kI cI g0 9 u.2.2.1, kI cI d0 8 u.2.2.2]) := by
  refine gMl_of (cc := cX7_fingerprint) (maxL := 5) (ret := (some .long)) (by decide) rfl (Nat.le_of_ble_eq_true rfl) ?_
  intro p e s m args below meth c A Q hQ hx hb hr hts hown hlocks hnm hml H locs hP hK hD hA hS ls hl
  have hi7 : ∀ w ∈ wsX70, w ∈ wsX7_fingerprint := fun _ h => (List.mem_cons_of_mem _ (List.mem_append_right _ h))
  have hl : lv_has ls 5 [(0, .ref y0)] := hl
  refine lv_aload_n hx hb dX7_fingerprint_0 rfl (lv_at hl 0 rfl) ?_
  refine z_iconst hx hb dX7_fingerprint_1 ?_
  refine va_put (D := dd) (ci := 7) (v := vI 0) (ty := .int) (C := RX7) (T := TX7) (N := 11) hx hb hts hi7 tyX7 tyX7_ok nmX7 hown hK hP hD hS 0 rfl rfl 10 (by decide) (hts _ (List.mem_cons_of_mem _ (List.mem_append_left _ (List.mem_append_left _ (List.mem_of_getElem? (i := 0) rfl))))) (fun _ h9 => h9) rfl (by decide +kernel) rfl rfl (Nat.le_of_ble_eq_true rfl) dX7_fingerprint_2 (fun H locs hP hD hS => ?_)
  have hP : va_P dd vwCl [kO y0 7 [vI n, .ref v0, .ref a0, vI sts, .ref r0, .ref f0, .ref g0, .ref d0, .ref t9, vI ty, vI 0], kI cI v0 21 mv, kI cI r0 9 mr, kI cI f0 9 mf, kI cI g0 9 mg, kI cI d0 8 md] H := hP
  have hD : va_D A [kO y0 7 [vI n, .ref v0, .ref a0, vI sts, .ref r0, .ref f0, .ref g0, .ref d0, .ref t9, vI ty, vI 0], kI cI v0 21 mv, kI cI r0 9 mr, kI cI f0 9 mf, kI cI g0 9 mg, kI cI d0 8 md] := hD
  refine W.ldc2 (own := RX7) (v := (1891)) hx hb hown (hts _ (List.mem_cons_of_mem _ (List.mem_append_left _ (List.mem_append_left _ (List.mem_of_getElem? (i := 1) rfl))))) rfl dX7_fingerprint_5 ?_
  refine z_eq (g2 := F0 m 8 ls [vL 1891]) rfl ?_
  refine lv_aload_n hx hb dX7_fingerprint_8 rfl (lv_at hl 0 rfl) ?_
  refine va_get (D := dd) (ci := 7) (v := vI n) (C := RX7) (T := TX7) (N := 11) hx hb hts hi7 hown hK hP 0 rfl rfl 0 (by decide) (hts _ (List.mem_cons_of_mem _ (List.mem_append_left _ (List.mem_append_left _ (List.mem_of_getElem? (i := 2) rfl))))) (fun _ h9 => h9) rfl dX7_fingerprint_9 ?_
  refine lv_i2l (v := zL n) hx hb dX7_fingerprint_12 (zL_of (by omega)) ?_
  refine lv_ladd hx hb dX7_fingerprint_13 ?_
  refine z_binl (y := zL (1891 + n)) (zL_add _ _) ?_
  refine lv_lstore_n (lv' := [(1, vL (1891 + n)), (0, .ref y0)]) hx hb dX7_fingerprint_14 rfl hl (by decide) rfl (fun ls hl => ?_)
  refine z_iconst hx hb dX7_fingerprint_15 ?_
  refine lv_istore_n (lv' := [(3, vI 0), (1, vL (1891 + n)), (0, .ref y0)]) hx hb dX7_fingerprint_16 rfl hl (by decide) rfl (fun ls hl => ?_)
  have L17 : ∀ (nn : Nat) (i : Int) (b : Int) (H : Heap) (locs : List Loc) (ls : Array Slot), ((n + 1 - i).toNat) = nn → (0 ≤ i ∧ i ≤ n) → (b = fpC n (rmc mv) i.toNat) → va_P dd vwCl [kO y0 7 [vI n, .ref v0, .ref a0, vI sts, .ref r0, .ref f0, .ref g0, .ref d0, .ref t9, vI ty, vI 0], kI cI v0 21 mv, kI cI r0 9 mr, kI cI f0 9 mf, kI cI g0 9 mg, kI cI d0 8 md] H → va_D A [kO y0 7 [vI n, .ref v0, .ref a0, vI sts, .ref r0, .ref f0, .ref g0, .ref d0, .ref t9, vI ty, vI 0], kI cI v0 21 mv, kI cI r0 9 mr, kI cI f0 9 mf, kI cI g0 9 mg, kI cI d0 8 md] → va_S A s.heap H locs → lv_has ls 5 [(1, vL b), (3, vI i), (0, .ref y0)] → W p l e (gR 6 0 0) s m args below meth c H locs 0 0 Q (F0 m 17 ls []) := by
    intro nn
    induction nn using Nat.strongRecOn with
    | ind nn L17i =>
    intro i b H locs ls hmeas hi hbb hP hD hS hl
    refine lv_iload_n hx hb dX7_fingerprint_17 rfl (lv_at hl 1 rfl) ?_
    refine lv_aload_n hx hb dX7_fingerprint_18 rfl (lv_at hl 2 rfl) ?_
    refine va_get (D := dd) (ci := 7) (v := vI n) (C := RX7) (T := TX7) (N := 11) hx hb hts hi7 hown hK hP 0 rfl rfl 0 (by decide) (hts _ (List.mem_cons_of_mem _ (List.mem_append_left _ (List.mem_append_left _ (List.mem_of_getElem? (i := 2) rfl))))) (fun _ h9 => h9) rfl dX7_fingerprint_19 ?_
    refine z_icmp_ge (tgt := 47) hx hb dX7_fingerprint_22 (by decide) (by omega) (fun c22 => ?_) (fun c22 => ?_)
    · skip
      refine W.ldc2 (own := RX7) (v := (31)) hx hb hown (hts _ (List.mem_cons_of_mem _ (List.mem_append_left _ (List.mem_append_left _ (List.mem_of_getElem? (i := 3) rfl))))) rfl dX7_fingerprint_47 ?_
      refine z_eq (g2 := F0 m 50 ls [vL 31]) rfl ?_
      refine lv_lload_n hx hb dX7_fingerprint_50 rfl (lv_at hl 0 rfl) ?_
      refine lv_lmul hx hb dX7_fingerprint_51 ?_
      refine z_binl (y := zL (31 * b)) (zL_mul _ _) ?_
      refine z_bipush hx hb dX7_fingerprint_52 (by decide +kernel) ?_
      refine lv_aload_n hx hb dX7_fingerprint_54 rfl (lv_at hl 2 rfl) ?_
      refine va_get (D := dd) (ci := 7) (v := .ref v0) (C := RX7) (T := TX7) (N := 11) hx hb hts hi7 hown hK hP 0 rfl rfl 1 (by decide) (hts _ (List.mem_cons_of_mem _ (List.mem_append_left _ (List.mem_append_left _ (List.mem_of_getElem? (i := 4) rfl))))) (fun _ h9 => h9) rfl dX7_fingerprint_55 ?_
      refine z_iconst hx hb dX7_fingerprint_58 ?_
      refine z_iald hx hb hK hP 1 0 rfl rfl (i := 1) (by omega) (by decide) dX7_fingerprint_59 ?_
      refine z_imul (z := (10 * (mv 1))) hx hb rfl dX7_fingerprint_60 ?_
      refine lv_i2l (v := zL (10 * (mv 1))) hx hb dX7_fingerprint_61 (zL_of (by omega)) ?_
      refine lv_ladd hx hb dX7_fingerprint_62 ?_
      refine z_binl (y := zL ((31 * b) + (10 * (mv 1)))) (zL_add _ _) ?_
      refine lv_aload_n hx hb dX7_fingerprint_63 rfl (lv_at hl 2 rfl) ?_
      refine va_get (D := dd) (ci := 7) (v := .ref v0) (C := RX7) (T := TX7) (N := 11) hx hb hts hi7 hown hK hP 0 rfl rfl 1 (by decide) (hts _ (List.mem_cons_of_mem _ (List.mem_append_left _ (List.mem_append_left _ (List.mem_of_getElem? (i := 4) rfl))))) (fun _ h9 => h9) rfl dX7_fingerprint_64 ?_
      refine z_iconst hx hb dX7_fingerprint_67 ?_
      refine z_iald hx hb hK hP 1 0 rfl rfl (i := 2) (by omega) (by decide) dX7_fingerprint_68 ?_
      refine lv_i2l (v := zL (mv 2)) hx hb dX7_fingerprint_69 (zL_of (by omega)) ?_
      refine lv_ladd hx hb dX7_fingerprint_70 ?_
      refine z_binl (y := zL (((31 * b) + (10 * (mv 1))) + (mv 2))) (zL_add _ _) ?_
      refine lv_lstore_n (lv' := [(1, vL (((31 * b) + (10 * (mv 1))) + (mv 2))), (3, vI i), (0, .ref y0)]) hx hb dX7_fingerprint_71 rfl hl (by decide) rfl (fun ls hl => ?_)
      refine W.ldc2 (own := RX7) (v := (31)) hx hb hown (hts _ (List.mem_cons_of_mem _ (List.mem_append_left _ (List.mem_append_left _ (List.mem_of_getElem? (i := 3) rfl))))) rfl dX7_fingerprint_72 ?_
      refine z_eq (g2 := F0 m 75 ls [vL 31]) rfl ?_
      refine lv_lload_n hx hb dX7_fingerprint_75 rfl (lv_at hl 0 rfl) ?_
      refine lv_lmul hx hb dX7_fingerprint_76 ?_
      refine z_binl (y := zL (31 * (((31 * b) + (10 * (mv 1))) + (mv 2)))) (zL_mul _ _) ?_
      refine lv_aload_n hx hb dX7_fingerprint_77 rfl (lv_at hl 2 rfl) ?_
      refine va_get (D := dd) (ci := 7) (v := .ref v0) (C := RX7) (T := TX7) (N := 11) hx hb hts hi7 hown hK hP 0 rfl rfl 1 (by decide) (hts _ (List.mem_cons_of_mem _ (List.mem_append_left _ (List.mem_append_left _ (List.mem_of_getElem? (i := 4) rfl))))) (fun _ h9 => h9) rfl dX7_fingerprint_78 ?_
      refine z_iconst hx hb dX7_fingerprint_81 ?_
      refine z_iald hx hb hK hP 1 0 rfl rfl (i := 0) (by omega) (by decide) dX7_fingerprint_82 ?_
      refine lv_i2l (v := zL (mv 0)) hx hb dX7_fingerprint_83 (zL_of (by omega)) ?_
      refine lv_ladd hx hb dX7_fingerprint_84 ?_
      refine z_binl (y := zL ((31 * (((31 * b) + (10 * (mv 1))) + (mv 2))) + (mv 0))) (zL_add _ _) ?_
      refine lv_lstore_n (lv' := [(1, vL ((31 * (((31 * b) + (10 * (mv 1))) + (mv 2))) + (mv 0))), (3, vI i), (0, .ref y0)]) hx hb dX7_fingerprint_85 rfl hl (by decide) rfl (fun ls hl => ?_)
      refine lv_aload_n hx hb dX7_fingerprint_86 rfl (lv_at hl 2 rfl) ?_
      refine g_callVi (own := RX7) (n := 0) (mc := 0) (ms := 0) (As := []) (rest := []) (wc := [kO y0 7 [vI n, .ref v0, .ref a0, vI sts, .ref r0, .ref f0, .ref g0, .ref d0, .ref t9, vI ty, vI 0], kI cI v0 21 mv, kI cI r0 9 mr, kI cI f0 9 mf, kI cI g0 9 mg, kI cI d0 8 md]) (wr := []) hx hb hml hown hts hK hP hD hS hA [0, 1, 2, 3, 4, 5] [] rfl rfl (by decide) (by decide) 7 0 rfl rfl (c_X7_parksNow l dd cI cJ cC cS y0 v0 a0 r0 f0 g0 d0 t9 n sts ty 0 mv mr mf mg md H.size  (by first | assumption | omega) (by first | assumption | omega) (by first | assumption | omega) (by first | assumption | omega) (by first | assumption | (intro j h0 h1; omega)) (by first | assumption | (intro j h0 h1; omega))) gX7_fingerprint_X7_parksNow rfl (by decide +kernel) (by decide) (by decide) (by decide) (by decide) rfl hl.1 rfl (Nat.le_of_ble_eq_true rfl) dX7_fingerprint_87 (fun z_1 u_2 H locs hp87 hP hD hS => ?_)
      obtain ⟨mra, mfa, mga, mda⟩ := u_2
      try dsimp only at hp87
      obtain ⟨z_1e, hp87⟩ := hp87
      subst z_1
      have hP : va_P dd vwCl [kO y0 7 [vI n, .ref v0, .ref a0, vI sts, .ref r0, .ref f0, .ref g0, .ref d0, .ref t9, vI ty, vI 0], kI cI v0 21 mv, kI cI r0 9 mra, kI cI f0 9 mfa, kI cI g0 9 mga, kI cI d0 8 mda] H := hP
      have hD : va_D A [kO y0 7 [vI n, .ref v0, .ref a0, vI sts, .ref r0, .ref f0, .ref g0, .ref d0, .ref t9, vI ty, vI 0], kI cI v0 21 mv, kI cI r0 9 mra, kI cI f0 9 mfa, kI cI g0 9 mga, kI cI d0 8 mda] := hD
      have hlv := lvZ_rg (n := n) (cap := rmc mv) (ru := mv 1) (re := mv 2) (wi := wv mv) (mv 0).toNat
      refine lv_istore_n (lv' := [(3, vI (lvZ n (rmc mv) (mv 1) (mv 2) (wv mv) (mv 0).toNat)), (1, vL ((31 * (((31 * b) + (10 * (mv 1))) + (mv 2))) + (mv 0))), (0, .ref y0)]) hx hb dX7_fingerprint_90 rfl hl (by decide) rfl (fun ls hl => ?_)
      refine z_iconst hx hb dX7_fingerprint_91 ?_
      refine lv_istore (lv' := [(4, vI 0), (3, vI (lvZ n (rmc mv) (mv 1) (mv 2) (wv mv) (mv 0).toNat)), (1, vL ((31 * (((31 * b) + (10 * (mv 1))) + (mv 2))) + (mv 0))), (0, .ref y0)]) hx hb dX7_fingerprint_92 hl (by decide) rfl (fun ls hl => ?_)
      have L94 : ∀ (nn : Nat) (j : Int) (b2 : Int) (H : Heap) (locs : List Loc) (ls : Array Slot), ((mv 0 + 1 - j).toNat) = nn → (0 ≤ j ∧ j ≤ mv 0) → (b2 = fpW (31 * (31 * fpC n (rmc mv) n.toNat + (10 * mv 1 + mv 2)) + mv 0) (wv mv) mfa mga j.toNat) → va_P dd vwCl [kO y0 7 [vI n, .ref v0, .ref a0, vI sts, .ref r0, .ref f0, .ref g0, .ref d0, .ref t9, vI ty, vI 0], kI cI v0 21 mv, kI cI r0 9 mra, kI cI f0 9 mfa, kI cI g0 9 mga, kI cI d0 8 mda] H → va_D A [kO y0 7 [vI n, .ref v0, .ref a0, vI sts, .ref r0, .ref f0, .ref g0, .ref d0, .ref t9, vI ty, vI 0], kI cI v0 21 mv, kI cI r0 9 mra, kI cI f0 9 mfa, kI cI g0 9 mga, kI cI d0 8 mda] → va_S A s.heap H locs → lv_has ls 5 [(1, vL b2), (4, vI j), (3, vI (lvZ n (rmc mv) (mv 1) (mv 2) (wv mv) (mv 0).toNat)), (0, .ref y0)] → W p l e (gR 6 0 0) s m args below meth c H locs 0 0 Q (F0 m 94 ls []) := by
        intro nn
        induction nn using Nat.strongRecOn with
        | ind nn L94i =>
        intro j b2 H locs ls hmeas hj hb2 hP hD hS hl
        refine lv_iload hx hb dX7_fingerprint_94 (lv_at hl 1 rfl) ?_
        refine lv_aload_n hx hb dX7_fingerprint_96 rfl (lv_at hl 3 rfl) ?_
        refine va_get (D := dd) (ci := 7) (v := .ref v0) (C := RX7) (T := TX7) (N := 11) hx hb hts hi7 hown hK hP 0 rfl rfl 1 (by decide) (hts _ (List.mem_cons_of_mem _ (List.mem_append_left _ (List.mem_append_left _ (List.mem_of_getElem? (i := 4) rfl))))) (fun _ h9 => h9) rfl dX7_fingerprint_97 ?_
        refine z_iconst hx hb dX7_fingerprint_100 ?_
        refine z_iald hx hb hK hP 1 0 rfl rfl (i := 0) (by omega) (by decide) dX7_fingerprint_101 ?_
        refine z_icmp_ge (tgt := 159) hx hb dX7_fingerprint_102 (by decide) (by omega) (fun c102 => ?_) (fun c102 => ?_)
        · skip
          refine W.ldc2 (own := RX7) (v := (31)) hx hb hown (hts _ (List.mem_cons_of_mem _ (List.mem_append_left _ (List.mem_append_left _ (List.mem_of_getElem? (i := 3) rfl))))) rfl dX7_fingerprint_159 ?_
          refine z_eq (g2 := F0 m 162 ls [vL 31]) rfl ?_
          refine lv_lload_n hx hb dX7_fingerprint_162 rfl (lv_at hl 0 rfl) ?_
          refine lv_lmul hx hb dX7_fingerprint_163 ?_
          refine z_binl (y := zL (31 * b2)) (zL_mul _ _) ?_
          refine lv_iload_n hx hb dX7_fingerprint_164 rfl (lv_at hl 2 rfl) ?_
          refine lv_i2l (v := zL (lvZ n (rmc mv) (mv 1) (mv 2) (wv mv) (mv 0).toNat)) hx hb dX7_fingerprint_165 (zL_of (by omega)) ?_
          refine lv_ladd hx hb dX7_fingerprint_166 ?_
          refine z_binl (y := zL ((31 * b2) + lvZ n (rmc mv) (mv 1) (mv 2) (wv mv) (mv 0).toNat)) (zL_add _ _) ?_
          refine lv_lstore_n (lv' := [(1, vL ((31 * b2) + lvZ n (rmc mv) (mv 1) (mv 2) (wv mv) (mv 0).toNat)), (4, vI j), (3, vI (lvZ n (rmc mv) (mv 1) (mv 2) (wv mv) (mv 0).toNat)), (0, .ref y0)]) hx hb dX7_fingerprint_167 rfl hl (by decide) rfl (fun ls hl => ?_)
          refine W.ldc2 (own := RX7) (v := (31)) hx hb hown (hts _ (List.mem_cons_of_mem _ (List.mem_append_left _ (List.mem_append_left _ (List.mem_of_getElem? (i := 3) rfl))))) rfl dX7_fingerprint_168 ?_
          refine z_eq (g2 := F0 m 171 ls [vL 31]) rfl ?_
          refine W.ldc2 (own := RX7) (v := (31)) hx hb hown (hts _ (List.mem_cons_of_mem _ (List.mem_append_left _ (List.mem_append_left _ (List.mem_of_getElem? (i := 3) rfl))))) rfl dX7_fingerprint_171 ?_
          refine z_eq (g2 := F0 m 174 ls [vL 31, vL 31]) rfl ?_
          refine lv_lload_n hx hb dX7_fingerprint_174 rfl (lv_at hl 0 rfl) ?_
          refine lv_lmul hx hb dX7_fingerprint_175 ?_
          refine z_binl (y := zL (31 * ((31 * b2) + lvZ n (rmc mv) (mv 1) (mv 2) (wv mv) (mv 0).toNat))) (zL_mul _ _) ?_
          refine lv_aload_n hx hb dX7_fingerprint_176 rfl (lv_at hl 3 rfl) ?_
          refine g_callVi (own := RX7) (n := 0) (mc := 0) (ms := 0) (As := []) (rest := [vL (31 * ((31 * b2) + lvZ n (rmc mv) (mv 1) (mv 2) (wv mv) (mv 0).toNat)), vL 31]) (wc := [kO y0 7 [vI n, .ref v0, .ref a0, vI sts, .ref r0, .ref f0, .ref g0, .ref d0, .ref t9, vI ty, vI 0], kI cI v0 21 mv, kI cI r0 9 mra, kI cI f0 9 mfa, kI cI g0 9 mga, kI cI d0 8 mda]) (wr := []) hx hb hml hown hts hK hP hD hS hA [0, 1, 2, 3, 4, 5] [] rfl rfl (by decide) (by decide) 7 0 rfl rfl (c_X7_luckyNow l dd cI cJ cC cS y0 v0 a0 r0 f0 g0 d0 t9 n sts ty 0 mv mra mfa mga mda H.size  (by first | assumption | omega) (by first | assumption | omega) (by first | assumption | omega) (by first | assumption | omega) (by first | assumption | (intro j h0 h1; omega)) (by first | assumption | (intro j h0 h1; omega))) gX7_fingerprint_X7_luckyNow rfl (by decide +kernel) (by decide) (by decide) (by decide) (by decide) rfl hl.1 rfl (Nat.le_of_ble_eq_true rfl) dX7_fingerprint_177 (fun z_3 u_4 H locs hp177 hP hD hS => ?_)
          obtain ⟨mr1_5, mf1_6, mg1_7, md1_8⟩ := u_4
          try dsimp only at hp177
          subst z_3
          have hP : va_P dd vwCl [kO y0 7 [vI n, .ref v0, .ref a0, vI sts, .ref r0, .ref f0, .ref g0, .ref d0, .ref t9, vI ty, vI 0], kI cI v0 21 mv, kI cI r0 9 mr1_5, kI cI f0 9 mf1_6, kI cI g0 9 mg1_7, kI cI d0 8 md1_8] H := hP
          have hD : va_D A [kO y0 7 [vI n, .ref v0, .ref a0, vI sts, .ref r0, .ref f0, .ref g0, .ref d0, .ref t9, vI ty, vI 0], kI cI v0 21 mv, kI cI r0 9 mr1_5, kI cI f0 9 mf1_6, kI cI g0 9 mg1_7, kI cI d0 8 md1_8] := hD
          have hq2 := fq2 (ppl n (rmc mv) (mv 1) (mv 2) (wv mv)) (wv mv) (k := mv 0) (by omega)
          refine lv_i2l (v := zL (sumZ (fun c => if ppl n (rmc mv) (mv 1) (mv 2) (wv mv) c = wv mv c then 2 ^ c.toNat else 0) (mv 0).toNat)) hx hb dX7_fingerprint_180 (zL_of (by omega)) ?_
          refine lv_ladd hx hb dX7_fingerprint_181 ?_
          refine z_binl (y := zL ((31 * ((31 * b2) + lvZ n (rmc mv) (mv 1) (mv 2) (wv mv) (mv 0).toNat)) + sumZ (fun c => if ppl n (rmc mv) (mv 1) (mv 2) (wv mv) c = wv mv c then 2 ^ c.toNat else 0) (mv 0).toNat)) (zL_add _ _) ?_
          refine lv_lmul hx hb dX7_fingerprint_182 ?_
          refine z_binl (y := zL (31 * ((31 * ((31 * b2) + lvZ n (rmc mv) (mv 1) (mv 2) (wv mv) (mv 0).toNat)) + sumZ (fun c => if ppl n (rmc mv) (mv 1) (mv 2) (wv mv) c = wv mv c then 2 ^ c.toNat else 0) (mv 0).toNat))) (zL_mul _ _) ?_
          refine lv_aload_n hx hb dX7_fingerprint_183 rfl (lv_at hl 3 rfl) ?_
          refine g_callVi (own := RX7) (n := 0) (mc := 0) (ms := 0) (As := []) (rest := [vL (31 * ((31 * ((31 * b2) + lvZ n (rmc mv) (mv 1) (mv 2) (wv mv) (mv 0).toNat)) + sumZ (fun c => if ppl n (rmc mv) (mv 1) (mv 2) (wv mv) c = wv mv c then 2 ^ c.toNat else 0) (mv 0).toNat))]) (wc := [kO y0 7 [vI n, .ref v0, .ref a0, vI sts, .ref r0, .ref f0, .ref g0, .ref d0, .ref t9, vI ty, vI 0], kI cI v0 21 mv, kI cI r0 9 mr1_5, kI cI f0 9 mf1_6, kI cI g0 9 mg1_7, kI cI d0 8 md1_8]) (wr := []) hx hb hml hown hts hK hP hD hS hA [0, 1, 2, 3, 4, 5] [] rfl rfl (by decide) (by decide) 7 0 rfl rfl (c_X7_moved l dd cI cJ cC cS y0 v0 a0 r0 f0 g0 d0 t9 n sts ty 0 mv mr1_5 mf1_6 mg1_7 md1_8 H.size  (by first | assumption | omega) (by first | assumption | omega) (by first | assumption | omega) (by first | assumption | omega) (by first | assumption | (intro j h0 h1; omega)) (by first | assumption | (intro j h0 h1; omega))) gX7_fingerprint_X7_moved rfl (by decide +kernel) (by decide) (by decide) (by decide) (by decide) rfl hl.1 rfl (Nat.le_of_ble_eq_true rfl) dX7_fingerprint_184 (fun z_9 u_10 H locs hp184 hP hD hS => ?_)
          obtain ⟨mr1_11, mf1_12, mg1_13, md1_14⟩ := u_10
          try dsimp only at hp184
          subst z_9
          have hP : va_P dd vwCl [kO y0 7 [vI n, .ref v0, .ref a0, vI sts, .ref r0, .ref f0, .ref g0, .ref d0, .ref t9, vI ty, vI 0], kI cI v0 21 mv, kI cI r0 9 mr1_11, kI cI f0 9 mf1_12, kI cI g0 9 mg1_13, kI cI d0 8 md1_14] H := hP
          have hD : va_D A [kO y0 7 [vI n, .ref v0, .ref a0, vI sts, .ref r0, .ref f0, .ref g0, .ref d0, .ref t9, vI ty, vI 0], kI cI v0 21 mv, kI cI r0 9 mr1_11, kI cI f0 9 mf1_12, kI cI g0 9 mg1_13, kI cI d0 8 md1_14] := hD
          have hq3 := fq3 (pl := ppl n (rmc mv) (mv 1) (mv 2) (wv mv)) (wi := wv mv) (k := mv 0) (by omega) (fun j h0 h1 => by have := ppl_rg n (rmc mv) (mv 1) (mv 2) (wv mv) j; omega) (fun j h0 h1 => by have : 0 ≤ wv mv j ∧ wv mv j < n := hwi j h0 h1; omega)
          refine lv_i2l (v := zL (sumZ (fun c => if ppl n (rmc mv) (mv 1) (mv 2) (wv mv) c = -1 then 0 else if 0 ≤ ppl n (rmc mv) (mv 1) (mv 2) (wv mv) c - wv mv c then ppl n (rmc mv) (mv 1) (mv 2) (wv mv) c - wv mv c else -(ppl n (rmc mv) (mv 1) (mv 2) (wv mv) c - wv mv c)) (mv 0).toNat)) hx hb dX7_fingerprint_187 (zL_of (by omega)) ?_
          refine lv_ladd hx hb dX7_fingerprint_188 ?_
          refine z_binl (y := zL ((31 * ((31 * ((31 * b2) + lvZ n (rmc mv) (mv 1) (mv 2) (wv mv) (mv 0).toNat)) + sumZ (fun c => if ppl n (rmc mv) (mv 1) (mv 2) (wv mv) c = wv mv c then 2 ^ c.toNat else 0) (mv 0).toNat)) + sumZ (fun c => if ppl n (rmc mv) (mv 1) (mv 2) (wv mv) c = -1 then 0 else if 0 ≤ ppl n (rmc mv) (mv 1) (mv 2) (wv mv) c - wv mv c then ppl n (rmc mv) (mv 1) (mv 2) (wv mv) c - wv mv c else -(ppl n (rmc mv) (mv 1) (mv 2) (wv mv) c - wv mv c)) (mv 0).toNat)) (zL_add _ _) ?_
          subst hQ
          refine z_lret (z := ((31 * ((31 * ((31 * b2) + lvZ n (rmc mv) (mv 1) (mv 2) (wv mv) (mv 0).toNat)) + sumZ (fun c => if ppl n (rmc mv) (mv 1) (mv 2) (wv mv) c = wv mv c then 2 ^ c.toNat else 0) (mv 0).toNat)) + sumZ (fun c => if ppl n (rmc mv) (mv 1) (mv 2) (wv mv) c = -1 then 0 else if 0 ≤ ppl n (rmc mv) (mv 1) (mv 2) (wv mv) c - wv mv c then ppl n (rmc mv) (mv 1) (mv 2) (wv mv) c - wv mv c else -(ppl n (rmc mv) (mv 1) (mv 2) (wv mv) c - wv mv c)) (mv 0).toNat)) hx hb hr hlocks dX7_fingerprint_189 (mr1_11, mf1_12, mg1_13, md1_14) hK hS ⟨by omega, by omega⟩ hP hD ?_
          rw [hb2, show j = mv 0 by omega]
          unfold fpr fpF
          rw [fpW_congr (pl := ppl n (rmc mv) (mv 1) (mv 2) (wv mv)) (pm := mfa) (lk := plk n (rmc mv) (mv 1) (mv 2) (wv mv)) (lm := mga) (mv 0).toNat (fun j h0 h1 => by
            have a1 := hp87 j h0 (by omega)
            exact ⟨a1.1.symm, a1.2.1.symm⟩)]
          rfl
        · skip
          refine W.ldc2 (own := RX7) (v := (31)) hx hb hown (hts _ (List.mem_cons_of_mem _ (List.mem_append_left _ (List.mem_append_left _ (List.mem_of_getElem? (i := 3) rfl))))) rfl dX7_fingerprint_105 ?_
          refine z_eq (g2 := F0 m 108 ls [vL 31]) rfl ?_
          refine lv_lload_n hx hb dX7_fingerprint_108 rfl (lv_at hl 0 rfl) ?_
          refine lv_lmul hx hb dX7_fingerprint_109 ?_
          refine z_binl (y := zL (31 * b2)) (zL_mul _ _) ?_
          refine lv_aload_n hx hb dX7_fingerprint_110 rfl (lv_at hl 3 rfl) ?_
          refine va_get (D := dd) (ci := 7) (v := .ref v0) (C := RX7) (T := TX7) (N := 11) hx hb hts hi7 hown hK hP 0 rfl rfl 1 (by decide) (hts _ (List.mem_cons_of_mem _ (List.mem_append_left _ (List.mem_append_left _ (List.mem_of_getElem? (i := 4) rfl))))) (fun _ h9 => h9) rfl dX7_fingerprint_111 ?_
          refine z_bipush hx hb dX7_fingerprint_114 (by decide +kernel) ?_
          refine lv_iload hx hb dX7_fingerprint_116 (lv_at hl 1 rfl) ?_
          refine z_iadd (z := (12 + j)) hx hb rfl dX7_fingerprint_118 ?_
          refine z_iald hx hb hK hP 1 0 rfl rfl (i := (12 + j)) (by omega) (by decide) dX7_fingerprint_119 ?_
          have hw2 : 0 ≤ wv mv j ∧ wv mv j < n := hwi j (by omega) (by omega)
          have hw3 := hwi j (by omega) (by omega)
          have hr1 := hp87 j (by omega) (by omega)
          have hr2 := ppl_rg n (rmc mv) (mv 1) (mv 2) (wv mv) j
          have hr3 := plk_rg (n := n) (cap := rmc mv) (ru := mv 1) (re := mv 2) (wi := wv mv) (j := j) (by omega)
          refine lv_i2l (v := zL (mv (12 + j))) hx hb dX7_fingerprint_120 (zL_of (by omega)) ?_
          refine lv_ladd hx hb dX7_fingerprint_121 ?_
          refine z_binl (y := zL ((31 * b2) + (mv (12 + j)))) (zL_add _ _) ?_
          refine lv_lstore_n (lv' := [(1, vL ((31 * b2) + (mv (12 + j)))), (4, vI j), (3, vI (lvZ n (rmc mv) (mv 1) (mv 2) (wv mv) (mv 0).toNat)), (0, .ref y0)]) hx hb dX7_fingerprint_122 rfl hl (by decide) rfl (fun ls hl => ?_)
          refine W.ldc2 (own := RX7) (v := (31)) hx hb hown (hts _ (List.mem_cons_of_mem _ (List.mem_append_left _ (List.mem_append_left _ (List.mem_of_getElem? (i := 3) rfl))))) rfl dX7_fingerprint_123 ?_
          refine z_eq (g2 := F0 m 126 ls [vL 31]) rfl ?_
          refine lv_lload_n hx hb dX7_fingerprint_126 rfl (lv_at hl 0 rfl) ?_
          refine lv_lmul hx hb dX7_fingerprint_127 ?_
          refine z_binl (y := zL (31 * ((31 * b2) + (mv (12 + j))))) (zL_mul _ _) ?_
          refine lv_aload_n hx hb dX7_fingerprint_128 rfl (lv_at hl 3 rfl) ?_
          refine va_get (D := dd) (ci := 7) (v := .ref f0) (C := RX7) (T := TX7) (N := 11) hx hb hts hi7 hown hK hP 0 rfl rfl 5 (by decide) (hts _ (List.mem_cons_of_mem _ (List.mem_append_left _ (List.mem_append_left _ (List.mem_of_getElem? (i := 5) rfl))))) (fun _ h9 => h9) rfl dX7_fingerprint_129 ?_
          refine lv_iload hx hb dX7_fingerprint_132 (lv_at hl 1 rfl) ?_
          refine z_iald hx hb hK hP 3 0 rfl rfl (i := j) (by omega) (by decide) dX7_fingerprint_134 ?_
          refine lv_i2l (v := zL (mfa j)) hx hb dX7_fingerprint_135 (zL_of (by omega)) ?_
          refine lv_ladd hx hb dX7_fingerprint_136 ?_
          refine z_binl (y := zL ((31 * ((31 * b2) + (mv (12 + j)))) + (mfa j))) (zL_add _ _) ?_
          refine lv_lstore_n (lv' := [(1, vL ((31 * ((31 * b2) + (mv (12 + j)))) + (mfa j))), (4, vI j), (3, vI (lvZ n (rmc mv) (mv 1) (mv 2) (wv mv) (mv 0).toNat)), (0, .ref y0)]) hx hb dX7_fingerprint_137 rfl hl (by decide) rfl (fun ls hl => ?_)
          refine W.ldc2 (own := RX7) (v := (31)) hx hb hown (hts _ (List.mem_cons_of_mem _ (List.mem_append_left _ (List.mem_append_left _ (List.mem_of_getElem? (i := 3) rfl))))) rfl dX7_fingerprint_138 ?_
          refine z_eq (g2 := F0 m 141 ls [vL 31]) rfl ?_
          refine lv_lload_n hx hb dX7_fingerprint_141 rfl (lv_at hl 0 rfl) ?_
          refine lv_lmul hx hb dX7_fingerprint_142 ?_
          refine z_binl (y := zL (31 * ((31 * ((31 * b2) + (mv (12 + j)))) + (mfa j)))) (zL_mul _ _) ?_
          refine lv_aload_n hx hb dX7_fingerprint_143 rfl (lv_at hl 3 rfl) ?_
          refine va_get (D := dd) (ci := 7) (v := .ref g0) (C := RX7) (T := TX7) (N := 11) hx hb hts hi7 hown hK hP 0 rfl rfl 6 (by decide) (hts _ (List.mem_cons_of_mem _ (List.mem_append_left _ (List.mem_append_left _ (List.mem_of_getElem? (i := 6) rfl))))) (fun _ h9 => h9) rfl dX7_fingerprint_144 ?_
          refine lv_iload hx hb dX7_fingerprint_147 (lv_at hl 1 rfl) ?_
          refine z_iald hx hb hK hP 4 0 rfl rfl (i := j) (by omega) (by decide) dX7_fingerprint_149 ?_
          refine lv_i2l (v := zL (mga j)) hx hb dX7_fingerprint_150 (zL_of (by omega)) ?_
          refine lv_ladd hx hb dX7_fingerprint_151 ?_
          refine z_binl (y := zL ((31 * ((31 * ((31 * b2) + (mv (12 + j)))) + (mfa j))) + (mga j))) (zL_add _ _) ?_
          refine lv_lstore_n (lv' := [(1, vL ((31 * ((31 * ((31 * b2) + (mv (12 + j)))) + (mfa j))) + (mga j))), (4, vI j), (3, vI (lvZ n (rmc mv) (mv 1) (mv 2) (wv mv) (mv 0).toNat)), (0, .ref y0)]) hx hb dX7_fingerprint_152 rfl hl (by decide) rfl (fun ls hl => ?_)
          refine z_iinc (a := j) (z := (j + 1)) (lv' := [(4, vI (j + 1)), (1, vL ((31 * ((31 * ((31 * b2) + (mv (12 + j)))) + (mfa j))) + (mga j))), (3, vI (lvZ n (rmc mv) (mv 1) (mv 2) (wv mv) (mv 0).toNat)), (0, .ref y0)]) hx hb dX7_fingerprint_153 hl (k := 1) rfl rfl (by decide) rfl (fun ls hl => ?_)
          refine lv_goto (tgt := 94) hx hb dX7_fingerprint_156 (by decide) ?_
          exact L94i _ (by omega) (j + 1) ((31 * ((31 * ((31 * b2) + (mv (12 + j)))) + (mfa j))) + (mga j)) H locs ls rfl (by omega) (by rw [fpW_s (by omega), hb2]; rfl) hP hD hS (lv_sub hl [1, 0, 2, 3] rfl)
      exact L94 _ 0 ((31 * (((31 * b) + (10 * (mv 1))) + (mv 2))) + (mv 0)) H locs ls rfl (by omega) (by
        rw [hbb, show i = n by omega]
        show _ = 31 * (31 * fpC n (rmc mv) n.toNat + (10 * mv 1 + mv 2)) + mv 0
        omega) hP hD hS (lv_sub hl [2, 0, 1, 3] rfl)
    · skip
      refine W.ldc2 (own := RX7) (v := (31)) hx hb hown (hts _ (List.mem_cons_of_mem _ (List.mem_append_left _ (List.mem_append_left _ (List.mem_of_getElem? (i := 3) rfl))))) rfl dX7_fingerprint_25 ?_
      refine z_eq (g2 := F0 m 28 ls [vL 31]) rfl ?_
      refine lv_lload_n hx hb dX7_fingerprint_28 rfl (lv_at hl 0 rfl) ?_
      refine lv_lmul hx hb dX7_fingerprint_29 ?_
      refine z_binl (y := zL (31 * b)) (zL_mul _ _) ?_
      refine lv_aload_n hx hb dX7_fingerprint_30 rfl (lv_at hl 2 rfl) ?_
      refine va_get (D := dd) (ci := 7) (v := .ref v0) (C := RX7) (T := TX7) (N := 11) hx hb hts hi7 hown hK hP 0 rfl rfl 1 (by decide) (hts _ (List.mem_cons_of_mem _ (List.mem_append_left _ (List.mem_append_left _ (List.mem_of_getElem? (i := 4) rfl))))) (fun _ h9 => h9) rfl dX7_fingerprint_31 ?_
      refine z_iconst hx hb dX7_fingerprint_34 ?_
      refine lv_iload_n hx hb dX7_fingerprint_35 rfl (lv_at hl 1 rfl) ?_
      refine z_iadd (z := (3 + i)) hx hb rfl dX7_fingerprint_36 ?_
      refine z_iald hx hb hK hP 1 0 rfl rfl (i := (3 + i)) (by omega) (by decide) dX7_fingerprint_37 ?_
      have hcp := hcap i (by omega) (by omega)
      refine lv_i2l (v := zL (mv (3 + i))) hx hb dX7_fingerprint_38 (zL_of (by omega)) ?_
      refine lv_ladd hx hb dX7_fingerprint_39 ?_
      refine z_binl (y := zL ((31 * b) + (mv (3 + i)))) (zL_add _ _) ?_
      refine lv_lstore_n (lv' := [(1, vL ((31 * b) + (mv (3 + i)))), (3, vI i), (0, .ref y0)]) hx hb dX7_fingerprint_40 rfl hl (by decide) rfl (fun ls hl => ?_)
      refine z_iinc (a := i) (z := (i + 1)) (lv' := [(3, vI (i + 1)), (1, vL ((31 * b) + (mv (3 + i)))), (0, .ref y0)]) hx hb dX7_fingerprint_41 hl (k := 1) rfl rfl (by decide) rfl (fun ls hl => ?_)
      refine lv_goto (tgt := 17) hx hb dX7_fingerprint_44 (by decide) ?_
      exact L17i _ (by omega) (i + 1) ((31 * b) + (mv (3 + i))) H locs ls rfl (by omega) (by rw [fpC_s (by omega), hbb]; rfl) hP hD hS (lv_sub hl [1, 0, 2] rfl)
  exact L17 _ 0 (1891 + n) H locs ls rfl (by omega) (rfl) hP hD hS (lv_sub hl [1, 0, 2] rfl)

