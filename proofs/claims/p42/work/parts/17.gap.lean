/-! the circle -/
def bitZ (t s : Int) : Int := t / 2 ^ s.toNat % 2
theorem zI_sh31 : ∀ j : Nat, j < 31 → ((zI (j : Int) &&& 31).toBitVec.smod 32).toNat = j := by decide +kernel
theorem zI_shr {t s : Int} (h : 0 ≤ t ∧ t < 2147483648 ∧ 0 ≤ s ∧ s < 31) : zI t >>> (zI s &&& 31) = zI (t / 2 ^ s.toNat) := by
  obtain ⟨x, rfl⟩ := Int.eq_ofNat_of_zero_le h.1
  obtain ⟨j, rfl⟩ := Int.eq_ofNat_of_zero_le h.2.2.1
  rw [zI_nI x, pk_shrN (by omega) (zI (j : Int) &&& 31) j (zI_sh31 j (by omega)), ← zI_nI]
  congr 1
theorem zI_and1 {a : Int} (h : 0 ≤ a) : zI a &&& zI 1 = zI (a % 2) := by
  obtain ⟨x, rfl⟩ := Int.eq_ofNat_of_zero_le h
  have e1 : zI 1 = nI 1 := rfl
  rw [e1, zI_nI, fa_and, Nat.and_one_is_mod, ← zI_nI]
  congr 1
theorem zI_orN {a b : Int} (ha : 0 ≤ a) (hb : 0 ≤ b) (h : a.toNat ||| b.toNat = a.toNat + b.toNat) : zI a ||| zI b = zI (a + b) := by
  obtain ⟨x, rfl⟩ := Int.eq_ofNat_of_zero_le ha
  obtain ⟨y, rfl⟩ := Int.eq_ofNat_of_zero_le hb
  rw [Int.toNat_natCast, Int.toNat_natCast] at h
  rw [zI_nI, zI_nI, fa_or, h, ← zI_nI]
  congr 1
/-- As gMi_of, for a method whose class has natives of her own, but none for this name. -/
theorem gMi_ofF {l : Launch} {y : MethodName} {wsy ws' : List Cond} {k mc ms : Nat} {dd : va_G} {cI cJ cC cS : ClassId} {av : List Value} {wc : va_W} {sz : Nat} {S : Type} {post : Int → S → Prop} {w1 : S → va_W} {cc : ByteArray} {maxL : Nat} {ret : Option FieldType}
    (hy : plainFor y = true) (hw : wsy = Cond.code y cc maxL ret :: ws') (hav : (lg_sl av).length ≤ maxL)
    (body : ∀ (p : Program) (e : Env) (s : State) (m : MethodId) (args : Array Value) (below : List Frame) (meth : Method) (c : Code) (A : Nat → Prop) (Q : State → Prop), Q = MQ below (va_Qi (fun r u => ∃ z : Int, r = zI z ∧ post z u) (gAt dd cI cJ cC cS w1 A) A) args s mc ms A → p.tables.exec = Jvm.exec → c.code = cc → meth.sig.returnType = ret → (∀ w ∈ wsy, w.before args s = true) → s.vm.findClass y.cls = some m.cls → meth.locks = false → meth.name = y.name → c.maxLocals = maxL → ∀ (H : Heap) (locs : List Loc), va_P dd vwCl wc H → va_K dd vwCl (gty cI cJ cC cS) s → va_D A wc → (∀ q : Nat, s.heap.size ≤ q → A q) → va_S A s.heap H locs →
      ∀ ls : Array Slot, lv_has ls maxL (lv_args 0 av) → W p l e (gR k mc ms) s m args below meth c H locs 0 0 Q (F0 m 0 ls [])) :
    gMi l y wsy k mc ms dd cI cJ cC cS av wc sz post w1 := by
  unfold gMi
  refine MetFree.of_bodySF (code := cc) (maxLocals := maxL) (ret := ret) hy ?_ ?_
  · intro args s m h hn
    obtain ⟨meth, c, q1, q2, q3, q4, q5, q6, -, -⟩ := Cond.code_spec hn (atoms_spec (ws := wsy) h _ (by rw [hw]; exact List.mem_cons_self))
    exact ⟨meth, c, q1, q2, q3, q4, q5, q6⟩
  · intro p e s m args below meth c u B hml hv _
    obtain ⟨rfl, hsz, hP, hK, hD0⟩ := hv
    subst hsz
    have hD := hD0.self (sz := s.heap.size)
    have hl := lv_entry av (n := maxL) hav
    have hu : u.heap = s.heap := by
      rw [B.state]
      rfl
    have key : W p l e (gR k mc ms) s m av.toArray below meth c s.heap [] 0 0 (MQ below (va_Qi (fun r u => ∃ z : Int, r = zI z ∧ post z u) (gAt dd cI cJ cC cS w1 (va_A wc s.heap.size)) (va_A wc s.heap.size)) av.toArray s mc ms (va_A wc s.heap.size)) (entryFrame m av.toArray maxL) := by
      rw [lg_entry_eq]
      generalize (lg_sl av ++ List.replicate (maxL - (lg_sl av).length) Slot.unset).toArray = ls at hl ⊢
      exact body p e s m av.toArray below meth c (va_A wc s.heap.size) _ rfl B.exec B.bytes B.returns (atoms_spec (ws := wsy) B.pre) (findClass_of_methodNamed B.named) B.notSynchronized (name_of_methodNamed B.named B.method).1 hml s.heap [] hP hK hD (fun q h => Or.inr h) va_S.rf ls hl
    obtain ⟨t, d1, o, d2, d3, d4⟩ := key u hu (Stand.of_body B)
    exact ⟨t, o, d1, d2, d3, ⟨d4.1, d4.2⟩⟩
def ffN (n t : Nat) : Nat → Nat → Nat
  | 0, s => s
  | k + 1, s => if t / 2 ^ s % 2 = 0 then s else ffN n t k (if s < n then s + 1 else 0)
def ffZ (n t : Int) (k : Nat) (s : Int) : Int := ((ffN n.toNat t.toNat k s.toNat : Nat) : Int)
theorem bitZ_nat {t s : Int} (h : 0 ≤ t) : bitZ t s = ((t.toNat / 2 ^ s.toNat % 2 : Nat) : Int) := by
  obtain ⟨x, rfl⟩ := Int.eq_ofNat_of_zero_le h
  unfold bitZ
  rw [Int.toNat_natCast]
  simp
theorem ffZ_0 {n t s : Int} (h : 0 ≤ s) : ffZ n t 0 s = s := by
  show ((s.toNat : Nat) : Int) = s
  omega
theorem ffZ_t {n t s : Int} {k : Nat} (h0 : 0 ≤ t) (h : 0 ≤ s) (hb : bitZ t s = 0) : ffZ n t (k + 1) s = s := by
  rw [bitZ_nat h0] at hb
  show ((if t.toNat / 2 ^ s.toNat % 2 = 0 then s.toNat else ffN n.toNat t.toNat k (if s.toNat < n.toNat then s.toNat + 1 else 0) : Nat) : Int) = s
  rw [if_pos (by omega)]
  omega
theorem ffZ_f {n t s : Int} {k : Nat} (hn : 0 ≤ n) (h0 : 0 ≤ t) (h : 0 ≤ s) (hb : bitZ t s ≠ 0) : ffZ n t (k + 1) s = ffZ n t k (if s < n then s + 1 else 0) := by
  rw [bitZ_nat h0] at hb
  show ((if t.toNat / 2 ^ s.toNat % 2 = 0 then s.toNat else ffN n.toNat t.toNat k (if s.toNat < n.toNat then s.toNat + 1 else 0) : Nat) : Int) = _
  rw [if_neg (by omega)]
  unfold ffZ
  by_cases q : s < n
  · rw [if_pos q, if_pos (by omega), show (s + 1).toNat = s.toNat + 1 by omega]
  · rw [if_neg q, if_neg (by omega)]
    rfl
def pcN (t : Nat) : Nat → Nat
  | 0 => 0
  | k + 1 => pcN t k + t / 2 ^ k % 2
def gapQ (n t s : Nat) : Bool := decide (t / 2 ^ (ffN n t n s) % 2 = 0) && decide (ffN n t n s ≤ n) && decide (t + 2 ^ (ffN n t n s) < 2 ^ (n + 1)) && decide (pcN (t + 2 ^ (ffN n t n s)) 9 = pcN t 9 + 1) && decide (t ||| 2 ^ (ffN n t n s) = t + 2 ^ (ffN n t n s))
def gapB : Bool := (List.range 9).all fun n => n == 0 || (List.range (2 ^ (n + 1))).all fun t => decide (n < pcN t 9) || (List.range (n + 1)).all fun s => gapQ n t s
set_option maxRecDepth 100000 in
theorem gapBt : gapB = true := by decide +kernel
theorem gapF (n : Nat) (hn : n < 9) (h1 : 1 ≤ n) (t : Nat) (ht : t < 2 ^ (n + 1)) (hp : pcN t 9 ≤ n) (s : Nat) (hs : s < n + 1) : (t / 2 ^ (ffN n t n s) % 2 = 0 ∧ ffN n t n s ≤ n ∧ t + 2 ^ (ffN n t n s) < 2 ^ (n + 1) ∧ pcN (t + 2 ^ (ffN n t n s)) 9 = pcN t 9 + 1 ∧ t ||| 2 ^ (ffN n t n s) = t + 2 ^ (ffN n t n s)) := by
  have a := List.all_eq_true.mp gapBt n (List.mem_range.mpr hn)
  rcases Bool.or_eq_true_iff.mp a with a | a
  · have := beq_iff_eq.mp a
    omega
  · have b := List.all_eq_true.mp a t (List.mem_range.mpr ht)
    rcases Bool.or_eq_true_iff.mp b with b | b
    · have := of_decide_eq_true b
      omega
    · have c := List.all_eq_true.mp b s (List.mem_range.mpr hs)
      unfold gapQ at c
      rw [Bool.and_eq_true, Bool.and_eq_true, Bool.and_eq_true, Bool.and_eq_true] at c
      obtain ⟨⟨⟨⟨c1, c2⟩, c3⟩, c4⟩, c5⟩ := c
      exact ⟨of_decide_eq_true c1, of_decide_eq_true c2, of_decide_eq_true c3, of_decide_eq_true c4, of_decide_eq_true c5⟩
def tkZ (n : Int) (wi : Int → Int) : Nat → Int
  | 0 => 0
  | k + 1 => tkZ n wi k + 2 ^ (ffZ n (tkZ n wi k) n.toNat (wi (k : Int))).toNat
theorem tkZ_s {n : Int} {wi : Int → Int} {i : Int} (h : 0 ≤ i) : tkZ n wi (i + 1).toNat = tkZ n wi i.toNat + 2 ^ (ffZ n (tkZ n wi i.toNat) n.toNat (wi i)).toNat := by
  obtain ⟨j, rfl⟩ := Int.eq_ofNat_of_zero_le h
  have e : ((j : Int) + 1).toNat = j + 1 := by omega
  rw [e, Int.toNat_natCast]
  rfl
theorem tk_ok {n : Int} {wi : Int → Int} (hn : 1 ≤ n ∧ n ≤ 8) (hw : ∀ j : Int, 0 ≤ j → j < n → 0 ≤ wi j ∧ wi j < n) : ∀ k : Nat, k ≤ n.toNat → 0 ≤ tkZ n wi k ∧ (tkZ n wi k).toNat < 2 ^ (n.toNat + 1) ∧ pcN (tkZ n wi k).toNat 9 = k
  | 0, _ => by
    show 0 ≤ (0 : Int) ∧ (0 : Int).toNat < 2 ^ (n.toNat + 1) ∧ pcN (0 : Int).toNat 9 = 0
    refine ⟨Int.le_refl _, Nat.pos_of_ne_zero (by simp), by decide⟩
  | k + 1, hk => by
    obtain ⟨h1, h2, h3⟩ := tk_ok hn hw k (by omega)
    have h4 := hw k (by omega) (by omega)
    obtain ⟨g1, g2, g3, g4, g5⟩ := gapF n.toNat (by omega) (by omega) (tkZ n wi k).toNat h2 (by omega) (wi k).toNat (by omega)
    have e : (tkZ n wi (k + 1)).toNat = (tkZ n wi k).toNat + 2 ^ (ffN n.toNat (tkZ n wi k).toNat n.toNat (wi k).toNat) := by
      show (tkZ n wi k + 2 ^ (ffZ n (tkZ n wi k) n.toNat (wi (k : Int))).toNat).toNat = _
      unfold ffZ
      rw [Int.toNat_natCast]
      generalize ffN n.toNat (tkZ n wi k).toNat n.toNat (wi k).toNat = x
      have e2 : ((2 : Int) ^ x) = ((2 ^ x : Nat) : Int) := by simp
      rw [e2]
      generalize (2 : Nat) ^ x = y
      omega
    have e0 : 0 ≤ tkZ n wi (k + 1) := by
      show 0 ≤ tkZ n wi k + 2 ^ (ffZ n (tkZ n wi k) n.toNat (wi (k : Int))).toNat
      have := pow_pos2 (ffZ n (tkZ n wi k) n.toNat (wi (k : Int))).toNat
      omega
    exact ⟨e0, by rw [e]; exact g3, by rw [e, g4, h3]⟩
theorem tk_at {n : Int} {wi : Int → Int} (hn : 1 ≤ n ∧ n ≤ 8) (hw : ∀ j : Int, 0 ≤ j → j < n → 0 ≤ wi j ∧ wi j < n) {i : Int} (hi : 0 ≤ i ∧ i ≤ n) {s : Int} (hs : 0 ≤ s ∧ s ≤ n) : 0 ≤ tkZ n wi i.toNat ∧ tkZ n wi i.toNat < 512 ∧ 0 ≤ ffZ n (tkZ n wi i.toNat) n.toNat s ∧ ffZ n (tkZ n wi i.toNat) n.toNat s ≤ n ∧ bitZ (tkZ n wi i.toNat) (ffZ n (tkZ n wi i.toNat) n.toNat s) = 0 ∧ zI (tkZ n wi i.toNat) ||| zI (2 ^ (ffZ n (tkZ n wi i.toNat) n.toNat s).toNat) = zI (tkZ n wi i.toNat + 2 ^ (ffZ n (tkZ n wi i.toNat) n.toNat s).toNat) := by
  obtain ⟨h1, h2, h3⟩ := tk_ok hn hw i.toNat (by omega)
  obtain ⟨g1, g2, g3, g4, g5⟩ := gapF n.toNat (by omega) (by omega) (tkZ n wi i.toNat).toNat h2 (by omega) s.toNat (by omega)
  have p9 : ∀ k : Nat, k ≤ 9 → 2 ^ k ≤ 512 := by decide
  have := p9 (n.toNat + 1) (by omega)
  have ef : (ffZ n (tkZ n wi i.toNat) n.toNat s).toNat = ffN n.toNat (tkZ n wi i.toNat).toNat n.toNat s.toNat := by
    unfold ffZ
    rw [Int.toNat_natCast]
  refine ⟨h1, by omega, by unfold ffZ; omega, by unfold ffZ; omega, ?_, ?_⟩
  · rw [bitZ_nat h1, ef, g1]
    rfl
  · refine zI_orN h1 (by have := pow_pos2 (ffZ n (tkZ n wi i.toNat) n.toNat s).toNat; omega) ?_
    rw [ef]
    have e2 : ((2 : Int) ^ (ffN n.toNat (tkZ n wi i.toNat).toNat n.toNat s.toNat)).toNat = 2 ^ (ffN n.toNat (tkZ n wi i.toNat).toNat n.toNat s.toNat) := by
      generalize ffN n.toNat (tkZ n wi i.toNat).toNat n.toNat s.toNat = x
      have e2 : ((2 : Int) ^ x) = ((2 ^ x : Nat) : Int) := by simp
      rw [e2, Int.toNat_natCast]
    rw [e2]
    exact g5
def gapZ (n : Int) (wi : Int → Int) : Int := ffZ n (tkZ n wi n.toNat) n.toNat 0
def shfZ (n : Int) (wi : Int → Int) : Int → Int := fun j => (wi j - gapZ n wi - 1) % (n + 1)
theorem xor_b : ∀ i : Nat, i < 21 → ∀ j : Nat, j < 10 → ((zI ((i : Int) - 10) ^^^ zI ((j : Int) + 1)).toInt < 0 ↔ (i : Int) - 10 < 0) := by decide +kernel
theorem xor_s {x y : Int} (hx : -10 ≤ x ∧ x ≤ 10) (hy : 1 ≤ y ∧ y ≤ 10) : (zI x ^^^ zI y).toInt < 0 ↔ x < 0 := by
  have h := xor_b (x + 10).toNat (by omega) (y - 1).toNat (by omega)
  have e1 : (((x + 10).toNat : Nat) : Int) - 10 = x := by omega
  have e2 : (((y - 1).toNat : Nat) : Int) + 1 = y := by omega
  rw [e1, e2] at h
  exact h
theorem fm_b : ∀ i : Nat, i < 21 → ∀ j : Nat, j < 10 → ((if (i : Int) - 10 < 0 ∧ Int.tmod ((i : Int) - 10) ((j : Int) + 1) ≠ 0 then Int.tmod ((i : Int) - 10) ((j : Int) + 1) + ((j : Int) + 1) else Int.tmod ((i : Int) - 10) ((j : Int) + 1)) = ((i : Int) - 10) % ((j : Int) + 1)) ∧ -10 ≤ Int.tmod ((i : Int) - 10) ((j : Int) + 1) ∧ Int.tmod ((i : Int) - 10) ((j : Int) + 1) ≤ 10 := by decide +kernel
theorem fm_s {x y : Int} (hx : -10 ≤ x ∧ x ≤ 10) (hy : 1 ≤ y ∧ y ≤ 10) : (if x < 0 ∧ Int.tmod x y ≠ 0 then Int.tmod x y + y else Int.tmod x y) = x % y ∧ -10 ≤ Int.tmod x y ∧ Int.tmod x y ≤ 10 := by
  have h := fm_b (x + 10).toNat (by omega) (y - 1).toNat (by omega)
  have e1 : (((x + 10).toNat : Nat) : Int) - 10 = x := by omega
  have e2 : (((y - 1).toNat : Nat) : Int) + 1 = y := by omega
  rw [e1, e2] at h
  exact h

set_option maxHeartbeats 4000000 in
set_option maxRecDepth 100000 in
theorem c_J9_floorMod_7cf53 (l : Launch) (dd : va_G) (cI cJ cC cS : ClassId) (x y : Int) (sz : Nat) (hx0 : -10 ≤ x ∧ x ≤ 10) (hy0 : 1 ≤ y ∧ y ≤ 10) : gMi l yJ9_floorMod_7cf53 wsJ9_floorMod_7cf53 1 0 0 dd cI cJ cC cS [vI x, vI y] [] sz (fun (z : Int) (_ : Unit) => z = x % y) (fun (_ : Unit) => []) := by
  refine gMi_ofF (cc := cJ9_floorMod_7cf53) (maxL := 3) (ret := (some .int)) (by decide +kernel) rfl (Nat.le_of_ble_eq_true rfl) ?_
  intro p e s m args below meth c A Q hQ hx hb hr hts hown hlocks hnm hml H locs hP hK hD hA hS ls hl
  have hl : lv_has ls 3 [(0, vI x), (1, vI y)] := hl
  have hxs := xor_s hx0 hy0
  have hxr := zI_rg (zI x ^^^ zI y)
  obtain ⟨hfm, hf1, hf2⟩ := fm_s hx0 hy0
  refine lv_iload_n hx hb dJ9_floorMod_7cf53_0 rfl (lv_at hl 0 rfl) ?_
  refine lv_iload_n hx hb dJ9_floorMod_7cf53_1 rfl (lv_at hl 1 rfl) ?_
  refine z_irem (z := (Int.tmod x y)) hx hb (by omega) rfl dJ9_floorMod_7cf53_2 ?_
  refine lv_istore_n (lv' := [(2, vI (Int.tmod x y)), (0, vI x), (1, vI y)]) hx hb dJ9_floorMod_7cf53_3 rfl hl (by decide) rfl (fun ls hl => ?_)
  refine lv_iload_n hx hb dJ9_floorMod_7cf53_4 rfl (lv_at hl 1 rfl) ?_
  refine lv_iload_n hx hb dJ9_floorMod_7cf53_5 rfl (lv_at hl 2 rfl) ?_
  refine lv_ixor hx hb dJ9_floorMod_7cf53_6 ?_
  refine z_bin (va := .null) (vb := .null) (y := zI ((zI x ^^^ zI y).toInt)) (zI_of _) ?_
  refine z_if_ge (tgt := 18) hx hb dJ9_floorMod_7cf53_7 (by decide) (by omega) (fun c7 => ?_) (fun c7 => ?_)
  · skip
    refine lv_iload_n hx hb dJ9_floorMod_7cf53_18 rfl (lv_at hl 0 rfl) ?_
    subst hQ
    refine z_iret (z := (Int.tmod x y)) hx hb hr hlocks dJ9_floorMod_7cf53_19 () hK hS ⟨by omega, by omega⟩ hP hD ?_
    rw [← hfm, if_neg]
    intro q
    first | exact absurd (hxs.mpr q.1) (by omega) | exact q.2 (by omega)
  · skip
    refine lv_iload_n hx hb dJ9_floorMod_7cf53_10 rfl (lv_at hl 0 rfl) ?_
    refine z_if_eq (tgt := 18) hx hb dJ9_floorMod_7cf53_11 (by decide) (by omega) (fun c11 => ?_) (fun c11 => ?_)
    · skip
      refine lv_iload_n hx hb dJ9_floorMod_7cf53_18 rfl (lv_at hl 0 rfl) ?_
      subst hQ
      refine z_iret (z := (Int.tmod x y)) hx hb hr hlocks dJ9_floorMod_7cf53_19 () hK hS ⟨by omega, by omega⟩ hP hD ?_
      rw [← hfm, if_neg]
      intro q
      first | exact absurd (hxs.mpr q.1) (by omega) | exact q.2 (by omega)
    · skip
      refine lv_iload_n hx hb dJ9_floorMod_7cf53_14 rfl (lv_at hl 0 rfl) ?_
      refine lv_iload_n hx hb dJ9_floorMod_7cf53_15 rfl (lv_at hl 2 rfl) ?_
      refine z_iadd (z := ((Int.tmod x y) + y)) hx hb rfl dJ9_floorMod_7cf53_16 ?_
      subst hQ
      refine z_iret (z := ((Int.tmod x y) + y)) hx hb hr hlocks dJ9_floorMod_7cf53_17 () hK hS ⟨by omega, by omega⟩ hP hD ?_
      rw [← hfm, if_pos ⟨hxs.mp (by omega), by omega⟩]

set_option maxHeartbeats 4000000 in
set_option maxRecDepth 100000 in
theorem c_X6_firstFreeOnCircle (l : Launch) (dd : va_G) (cI cJ cC cS : ClassId) (x0 s0 h0 l0 m0 p0 e0 w0 t0 : Nat) (n tl : Int) (t fr : Int) (sz : Nat) (hn : 1 ≤ n ∧ n ≤ 8) (ht : 0 ≤ t ∧ t < 512) (hfr : 0 ≤ fr ∧ fr ≤ n) : gMi l yX6_firstFreeOnCircle wsX6_firstFreeOnCircle 1 0 0 dd cI cJ cC cS [.ref x0, vI t, vI fr] [kO x0 6 [vI n, .ref s0, .ref h0, .ref l0, .ref m0, .ref p0, .ref e0, .ref w0, .ref t0, vI tl]] sz (fun (z : Int) (_ : Unit) => z = ffZ n t n.toNat fr) (fun (_ : Unit) => [kO x0 6 [vI n, .ref s0, .ref h0, .ref l0, .ref m0, .ref p0, .ref e0, .ref w0, .ref t0, vI tl]]) := by
  refine gMi_of (cc := cX6_firstFreeOnCircle) (maxL := 5) (ret := (some .int)) (by decide) rfl (Nat.le_of_ble_eq_true rfl) ?_
  intro p e s m args below meth c A Q hQ hx hb hr hts hown hlocks hnm hml H locs hP hK hD hA hS ls hl
  have hi6 : ∀ w ∈ wsX60, w ∈ wsX6_firstFreeOnCircle := fun _ h => (List.mem_cons_of_mem _ (List.mem_append_right _ h))
  have hl : lv_has ls 5 [(0, .ref x0), (1, vI t), (2, vI fr)] := hl
  refine lv_iload_n hx hb dX6_firstFreeOnCircle_0 rfl (lv_at hl 2 rfl) ?_
  refine lv_istore_n (lv' := [(3, vI fr), (0, .ref x0), (1, vI t), (2, vI fr)]) hx hb dX6_firstFreeOnCircle_1 rfl hl (by decide) rfl (fun ls hl => ?_)
  refine z_iconst hx hb dX6_firstFreeOnCircle_2 ?_
  refine lv_istore (lv' := [(4, vI 0), (3, vI fr), (0, .ref x0), (1, vI t), (2, vI fr)]) hx hb dX6_firstFreeOnCircle_3 hl (by decide) rfl (fun ls hl => ?_)
  have L5 : ∀ (nn : Nat) (j : Int) (s9 : Int) (H : Heap) (locs : List Loc) (ls : Array Slot), ((n + 1 - j).toNat) = nn → (0 ≤ j ∧ j ≤ n) → (0 ≤ s9 ∧ s9 ≤ n) → (ffZ n t (n - j).toNat s9 = ffZ n t n.toNat fr) → va_P dd vwCl [kO x0 6 [vI n, .ref s0, .ref h0, .ref l0, .ref m0, .ref p0, .ref e0, .ref w0, .ref t0, vI tl]] H → va_D A [kO x0 6 [vI n, .ref s0, .ref h0, .ref l0, .ref m0, .ref p0, .ref e0, .ref w0, .ref t0, vI tl]] → va_S A s.heap H locs → lv_has ls 5 [(3, vI s9), (4, vI j), (0, .ref x0), (1, vI t), (2, vI fr)] → W p l e (gR 1 0 0) s m args below meth c H locs 0 0 Q (F0 m 5 ls []) := by
    intro nn
    induction nn using Nat.strongRecOn with
    | ind nn L5i =>
    intro j s9 H locs ls hmeas hj hs9 hff hP hD hS hl
    refine lv_iload hx hb dX6_firstFreeOnCircle_5 (lv_at hl 1 rfl) ?_
    refine lv_aload_n hx hb dX6_firstFreeOnCircle_7 rfl (lv_at hl 2 rfl) ?_
    refine va_get (D := dd) (ci := 6) (v := vI n) (C := RX6) (T := TX6) (N := 10) hx hb hts hi6 hown hK hP 0 rfl rfl 0 (by decide) (hts _ (List.mem_cons_of_mem _ (List.mem_append_left _ (List.mem_of_getElem? (i := 0) rfl)))) (fun _ h9 => h9) rfl dX6_firstFreeOnCircle_8 ?_
    refine z_icmp_ge (tgt := 44) hx hb dX6_firstFreeOnCircle_11 (by decide) (by omega) (fun c11 => ?_) (fun c11 => ?_)
    · skip
      refine lv_iload_n hx hb dX6_firstFreeOnCircle_44 rfl (lv_at hl 0 rfl) ?_
      subst hQ
      refine z_iret (z := s9) hx hb hr hlocks dX6_firstFreeOnCircle_45 () hK hS ⟨by omega, by omega⟩ hP hD ?_
      rw [show (n - j).toNat = 0 by omega, ffZ_0 hs9.1] at hff
      exact hff
    · skip
      refine lv_iload_n hx hb dX6_firstFreeOnCircle_14 rfl (lv_at hl 3 rfl) ?_
      refine lv_iload_n hx hb dX6_firstFreeOnCircle_15 rfl (lv_at hl 0 rfl) ?_
      refine lv_ishr hx hb dX6_firstFreeOnCircle_16 ?_
      refine z_bin (va := .null) (vb := .null) (y := zI (t / 2 ^ s9.toNat)) (zI_shr (by omega)) ?_
      refine z_iconst hx hb dX6_firstFreeOnCircle_17 ?_
      refine lv_iand hx hb dX6_firstFreeOnCircle_18 ?_
      refine z_bin (va := .null) (vb := .null) (y := zI ((t / 2 ^ s9.toNat) % 2)) (zI_and1 (Int.ediv_nonneg ht.1 (Int.le_of_lt (pow_pos2 _)))) ?_
      refine z_if_eq (tgt := 44) hx hb dX6_firstFreeOnCircle_19 (by decide) (by omega) (fun c19 => ?_) (fun c19 => ?_)
      · skip
        refine lv_iload_n hx hb dX6_firstFreeOnCircle_44 rfl (lv_at hl 0 rfl) ?_
        subst hQ
        refine z_iret (z := s9) hx hb hr hlocks dX6_firstFreeOnCircle_45 () hK hS ⟨by omega, by omega⟩ hP hD ?_
        rw [show (n - j).toNat = (n - (j + 1)).toNat + 1 by omega, ffZ_t ht.1 hs9.1 c19] at hff
        exact hff
      · skip
        refine lv_iload_n hx hb dX6_firstFreeOnCircle_22 rfl (lv_at hl 0 rfl) ?_
        refine lv_aload_n hx hb dX6_firstFreeOnCircle_23 rfl (lv_at hl 2 rfl) ?_
        refine va_get (D := dd) (ci := 6) (v := vI n) (C := RX6) (T := TX6) (N := 10) hx hb hts hi6 hown hK hP 0 rfl rfl 0 (by decide) (hts _ (List.mem_cons_of_mem _ (List.mem_append_left _ (List.mem_of_getElem? (i := 0) rfl)))) (fun _ h9 => h9) rfl dX6_firstFreeOnCircle_24 ?_
        refine z_icmp_ge (tgt := 36) hx hb dX6_firstFreeOnCircle_27 (by decide) (by omega) (fun c27 => ?_) (fun c27 => ?_)
        · skip
          refine z_iconst hx hb dX6_firstFreeOnCircle_36 ?_
          refine lv_istore_n (lv' := [(3, vI 0), (4, vI j), (0, .ref x0), (1, vI t), (2, vI fr)]) hx hb dX6_firstFreeOnCircle_37 rfl hl (by decide) rfl (fun ls hl => ?_)
          refine z_iinc (a := j) (z := (j + 1)) (lv' := [(4, vI (j + 1)), (3, vI 0), (0, .ref x0), (1, vI t), (2, vI fr)]) hx hb dX6_firstFreeOnCircle_38 hl (k := 1) rfl rfl (by decide) rfl (fun ls hl => ?_)
          refine lv_goto (tgt := 5) hx hb dX6_firstFreeOnCircle_41 (by decide) ?_
          exact L5i _ (by omega) (j + 1) 0 H locs ls rfl (by omega) (by omega) (by rw [← hff, show (n - j).toNat = (n - (j + 1)).toNat + 1 by omega, ffZ_f (by omega) ht.1 hs9.1 c19, if_neg (by omega)]) hP hD hS (lv_sub hl [1, 0, 2, 3, 4] rfl)
        · skip
          refine lv_iload_n hx hb dX6_firstFreeOnCircle_30 rfl (lv_at hl 0 rfl) ?_
          refine z_iconst hx hb dX6_firstFreeOnCircle_31 ?_
          refine z_iadd (z := (s9 + 1)) hx hb rfl dX6_firstFreeOnCircle_32 ?_
          refine lv_goto (tgt := 37) hx hb dX6_firstFreeOnCircle_33 (by decide) ?_
          refine lv_istore_n (lv' := [(3, vI (s9 + 1)), (4, vI j), (0, .ref x0), (1, vI t), (2, vI fr)]) hx hb dX6_firstFreeOnCircle_37 rfl hl (by decide) rfl (fun ls hl => ?_)
          refine z_iinc (a := j) (z := (j + 1)) (lv' := [(4, vI (j + 1)), (3, vI (s9 + 1)), (0, .ref x0), (1, vI t), (2, vI fr)]) hx hb dX6_firstFreeOnCircle_38 hl (k := 1) rfl rfl (by decide) rfl (fun ls hl => ?_)
          refine lv_goto (tgt := 5) hx hb dX6_firstFreeOnCircle_41 (by decide) ?_
          exact L5i _ (by omega) (j + 1) (s9 + 1) H locs ls rfl (by omega) (by omega) (by rw [← hff, show (n - j).toNat = (n - (j + 1)).toNat + 1 by omega, ffZ_f (by omega) ht.1 hs9.1 c19, if_pos (by omega)]) hP hD hS (lv_sub hl [1, 0, 2, 3, 4] rfl)
  exact L5 _ 0 fr H locs ls rfl (by omega) (by omega) (by rw [Int.sub_zero]) hP hD hS (lv_sub hl [1, 0, 2, 3, 4] rfl)

set_option maxHeartbeats 4000000 in
set_option maxRecDepth 100000 in
theorem c_X6_gapOnCircle (l : Launch) (dd : va_G) (cI cJ cC cS : ClassId) (x0 s0 h0 l0 m0 p0 e0 w0 t0 s1 s2 : Nat) (n tl : Int) (cap wi : Int → Int) (ct ru re : Int) (sz : Nat) (hn : 1 ≤ n ∧ n ≤ 8) (hct : ct = n) (hwi : ∀ j : Int, 0 ≤ j → j < ct → 0 ≤ wi j ∧ wi j < n) : gMi l yX6_gapOnCircle wsX6_gapOnCircle 2 0 0 dd cI cJ cC cS [.ref x0] [kO x0 6 [vI n, .ref s0, .ref h0, .ref l0, .ref m0, .ref p0, .ref e0, .ref w0, .ref t0, vI tl], kO s0 5 [.ref s1, .ref s2, vI ct, vI ru, vI re], kI cI s1 8 cap, kI cI s2 9 wi] sz (fun (z : Int) (_ : Unit) => z = gapZ n wi) (fun (_ : Unit) => [kO x0 6 [vI n, .ref s0, .ref h0, .ref l0, .ref m0, .ref p0, .ref e0, .ref w0, .ref t0, vI tl], kO s0 5 [.ref s1, .ref s2, vI ct, vI ru, vI re], kI cI s1 8 cap, kI cI s2 9 wi]) := by
  refine gMi_of (cc := cX6_gapOnCircle) (maxL := 3) (ret := (some .int)) (by decide) rfl (Nat.le_of_ble_eq_true rfl) ?_
  intro p e s m args below meth c A Q hQ hx hb hr hts hown hlocks hnm hml H locs hP hK hD hA hS ls hl
  have hi5 : ∀ w ∈ wsX50, w ∈ wsX6_gapOnCircle := fun _ h => (List.mem_cons_of_mem _ (List.mem_append_right _ h))
  have hi6 : ∀ w ∈ wsX60, w ∈ wsX6_gapOnCircle := fun _ h => (List.mem_cons_of_mem _ (List.mem_append_left _ (List.mem_append_right _ h)))
  have hl : lv_has ls 3 [(0, .ref x0)] := hl
  refine z_iconst hx hb dX6_gapOnCircle_0 ?_
  refine lv_istore_n (lv' := [(1, vI 0), (0, .ref x0)]) hx hb dX6_gapOnCircle_1 rfl hl (by decide) rfl (fun ls hl => ?_)
  refine z_iconst hx hb dX6_gapOnCircle_2 ?_
  refine lv_istore_n (lv' := [(2, vI 0), (1, vI 0), (0, .ref x0)]) hx hb dX6_gapOnCircle_3 rfl hl (by decide) rfl (fun ls hl => ?_)
  have L4 : ∀ (nn : Nat) (i : Int) (t : Int) (H : Heap) (locs : List Loc) (ls : Array Slot), ((n + 1 - i).toNat) = nn → (0 ≤ i ∧ i ≤ n) → (t = tkZ n wi i.toNat) → va_P dd vwCl [kO x0 6 [vI n, .ref s0, .ref h0, .ref l0, .ref m0, .ref p0, .ref e0, .ref w0, .ref t0, vI tl], kO s0 5 [.ref s1, .ref s2, vI ct, vI ru, vI re], kI cI s1 8 cap, kI cI s2 9 wi] H → va_D A [kO x0 6 [vI n, .ref s0, .ref h0, .ref l0, .ref m0, .ref p0, .ref e0, .ref w0, .ref t0, vI tl], kO s0 5 [.ref s1, .ref s2, vI ct, vI ru, vI re], kI cI s1 8 cap, kI cI s2 9 wi] → va_S A s.heap H locs → lv_has ls 3 [(1, vI t), (2, vI i), (0, .ref x0)] → W p l e (gR 2 0 0) s m args below meth c H locs 0 0 Q (F0 m 4 ls []) := by
    intro nn
    induction nn using Nat.strongRecOn with
    | ind nn L4i =>
    intro i t H locs ls hmeas hi htk hP hD hS hl
    refine lv_iload_n hx hb dX6_gapOnCircle_4 rfl (lv_at hl 1 rfl) ?_
    refine lv_aload_n hx hb dX6_gapOnCircle_5 rfl (lv_at hl 2 rfl) ?_
    refine va_get (D := dd) (ci := 6) (v := .ref s0) (C := RX6) (T := TX6) (N := 10) hx hb hts hi6 hown hK hP 0 rfl rfl 1 (by decide) (hts _ (List.mem_cons_of_mem _ (List.mem_append_left _ (List.mem_append_left _ (List.mem_of_getElem? (i := 0) rfl))))) (fun _ h9 => h9) rfl dX6_gapOnCircle_6 ?_
    refine va_get (D := dd) (ci := 5) (v := vI ct) (C := RX5) (T := TX5) (N := 5) hx hb hts hi5 hown hK hP 1 rfl rfl 2 (by decide) (hts _ (List.mem_cons_of_mem _ (List.mem_append_left _ (List.mem_append_left _ (List.mem_of_getElem? (i := 1) rfl))))) (fun _ h9 => h9) rfl dX6_gapOnCircle_9 ?_
    refine z_icmp_ge (tgt := 40) hx hb dX6_gapOnCircle_12 (by decide) (by omega) (fun c12 => ?_) (fun c12 => ?_)
    · skip
      have hat := tk_at hn (wi := wi) (fun j h0 h1 => hwi j h0 (by omega)) (i := i) (by omega) (s := 0) (by omega)
      rw [← htk] at hat
      refine lv_aload_n hx hb dX6_gapOnCircle_40 rfl (lv_at hl 2 rfl) ?_
      refine lv_iload_n hx hb dX6_gapOnCircle_41 rfl (lv_at hl 0 rfl) ?_
      refine z_iconst hx hb dX6_gapOnCircle_42 ?_
      refine g_callVi (own := RX6) (n := 2) (mc := 0) (ms := 0) (As := [vI t, vI 0]) (rest := []) (wc := [kO x0 6 [vI n, .ref s0, .ref h0, .ref l0, .ref m0, .ref p0, .ref e0, .ref w0, .ref t0, vI tl]]) (wr := [kO s0 5 [.ref s1, .ref s2, vI ct, vI ru, vI re], kI cI s1 8 cap, kI cI s2 9 wi]) hx hb hml hown hts hK hP hD hS hA [0] [1, 2, 3] rfl rfl (by decide) (by decide) 6 0 rfl rfl (c_X6_firstFreeOnCircle l dd cI cJ cC cS x0 s0 h0 l0 m0 p0 e0 w0 t0 n tl t 0 H.size  (by first | assumption | omega) (by first | assumption | omega) (by first | assumption | omega)) gX6_gapOnCircle_X6_firstFreeOnCircle rfl (by decide +kernel) (by decide) (by decide) (by decide) (by decide) rfl hl.1 rfl (Nat.le_of_ble_eq_true rfl) dX6_gapOnCircle_43 (fun z_1 u_2 H locs hp43 hP hD hS => ?_)
      subst z_1
      have hP : va_P dd vwCl [kO s0 5 [.ref s1, .ref s2, vI ct, vI ru, vI re], kI cI s1 8 cap, kI cI s2 9 wi, kO x0 6 [vI n, .ref s0, .ref h0, .ref l0, .ref m0, .ref p0, .ref e0, .ref w0, .ref t0, vI tl]] H := hP
      have hD : va_D A [kO s0 5 [.ref s1, .ref s2, vI ct, vI ru, vI re], kI cI s1 8 cap, kI cI s2 9 wi, kO x0 6 [vI n, .ref s0, .ref h0, .ref l0, .ref m0, .ref p0, .ref e0, .ref w0, .ref t0, vI tl]] := hD
      subst hQ
      refine z_iret (z := ffZ n t n.toNat 0) hx hb hr hlocks dX6_gapOnCircle_46 () hK hS ⟨by omega, by omega⟩ (hP.sub [3, 0, 1, 2] rfl) (hD.sub [3, 0, 1, 2] (by decide) rfl) ?_
      rw [htk, show i = n by omega]
      rfl
    · skip
      have hw2 := hwi i (by omega) (by omega)
      have hat := tk_at hn (wi := wi) (fun j h0 h1 => hwi j h0 (by omega)) (i := i) (by omega) (s := wi i) (by omega)
      rw [← htk] at hat
      refine lv_iload_n hx hb dX6_gapOnCircle_15 rfl (lv_at hl 0 rfl) ?_
      refine z_iconst hx hb dX6_gapOnCircle_16 ?_
      refine lv_aload_n hx hb dX6_gapOnCircle_17 rfl (lv_at hl 2 rfl) ?_
      refine lv_iload_n hx hb dX6_gapOnCircle_18 rfl (lv_at hl 0 rfl) ?_
      refine lv_aload_n hx hb dX6_gapOnCircle_19 rfl (lv_at hl 2 rfl) ?_
      refine va_get (D := dd) (ci := 6) (v := .ref s0) (C := RX6) (T := TX6) (N := 10) hx hb hts hi6 hown hK hP 0 rfl rfl 1 (by decide) (hts _ (List.mem_cons_of_mem _ (List.mem_append_left _ (List.mem_append_left _ (List.mem_of_getElem? (i := 0) rfl))))) (fun _ h9 => h9) rfl dX6_gapOnCircle_20 ?_
      refine va_get (D := dd) (ci := 5) (v := .ref s2) (C := RX5) (T := TX5) (N := 5) hx hb hts hi5 hown hK hP 1 rfl rfl 1 (by decide) (hts _ (List.mem_cons_of_mem _ (List.mem_append_left _ (List.mem_append_left _ (List.mem_of_getElem? (i := 2) rfl))))) (fun _ h9 => h9) rfl dX6_gapOnCircle_23 ?_
      refine lv_iload_n hx hb dX6_gapOnCircle_26 rfl (lv_at hl 1 rfl) ?_
      refine z_iald hx hb hK hP 3 0 rfl rfl (i := i) (by omega) (by decide) dX6_gapOnCircle_27 ?_
      have f_3 := hwi i (by omega) (by omega)
      refine g_callVi (own := RX6) (n := 2) (mc := 0) (ms := 0) (As := [vI t, vI (wi i)]) (rest := [vI 1, vI t]) (wc := [kO x0 6 [vI n, .ref s0, .ref h0, .ref l0, .ref m0, .ref p0, .ref e0, .ref w0, .ref t0, vI tl]]) (wr := [kO s0 5 [.ref s1, .ref s2, vI ct, vI ru, vI re], kI cI s1 8 cap, kI cI s2 9 wi]) hx hb hml hown hts hK hP hD hS hA [0] [1, 2, 3] rfl rfl (by decide) (by decide) 6 0 rfl rfl (c_X6_firstFreeOnCircle l dd cI cJ cC cS x0 s0 h0 l0 m0 p0 e0 w0 t0 n tl t (wi i) H.size  (by first | assumption | omega) (by first | assumption | omega) (by first | assumption | omega)) gX6_gapOnCircle_X6_firstFreeOnCircle rfl (by decide +kernel) (by decide) (by decide) (by decide) (by decide) rfl hl.1 rfl (Nat.le_of_ble_eq_true rfl) dX6_gapOnCircle_28 (fun z_4 u_5 H locs hp28 hP hD hS => ?_)
      subst z_4
      have hP : va_P dd vwCl [kO s0 5 [.ref s1, .ref s2, vI ct, vI ru, vI re], kI cI s1 8 cap, kI cI s2 9 wi, kO x0 6 [vI n, .ref s0, .ref h0, .ref l0, .ref m0, .ref p0, .ref e0, .ref w0, .ref t0, vI tl]] H := hP
      have hD : va_D A [kO s0 5 [.ref s1, .ref s2, vI ct, vI ru, vI re], kI cI s1 8 cap, kI cI s2 9 wi, kO x0 6 [vI n, .ref s0, .ref h0, .ref l0, .ref m0, .ref p0, .ref e0, .ref w0, .ref t0, vI tl]] := hD
      refine z_shl1 (z := (2 ^ (ffZ n t n.toNat (wi i)).toNat)) hx hb (by omega) rfl dX6_gapOnCircle_31 ?_
      refine lv_ior hx hb dX6_gapOnCircle_32 ?_
      refine z_bin (va := .null) (vb := .null) (y := zI (t + (2 ^ (ffZ n t n.toNat (wi i)).toNat))) (hat.2.2.2.2.2) ?_
      refine lv_istore_n (lv' := [(1, vI (t + (2 ^ (ffZ n t n.toNat (wi i)).toNat))), (2, vI i), (0, .ref x0)]) hx hb dX6_gapOnCircle_33 rfl hl (by decide) rfl (fun ls hl => ?_)
      refine z_iinc (a := i) (z := (i + 1)) (lv' := [(2, vI (i + 1)), (1, vI (t + (2 ^ (ffZ n t n.toNat (wi i)).toNat))), (0, .ref x0)]) hx hb dX6_gapOnCircle_34 hl (k := 1) rfl rfl (by decide) rfl (fun ls hl => ?_)
      refine lv_goto (tgt := 4) hx hb dX6_gapOnCircle_37 (by decide) ?_
      exact L4i _ (by omega) (i + 1) (t + (2 ^ (ffZ n t n.toNat (wi i)).toNat)) H locs ls rfl (by omega) (by rw [tkZ_s (by omega), htk]) (hP.sub [3, 0, 1, 2] rfl) (hD.sub [3, 0, 1, 2] (by decide) rfl) hS (lv_sub hl [1, 0, 2] rfl)
  exact L4 _ 0 0 H locs ls rfl (by omega) (rfl) hP hD hS (lv_sub hl [1, 0, 2] rfl)

set_option maxHeartbeats 4000000 in
set_option maxRecDepth 100000 in
theorem c_X6_shift (l : Launch) (hfl : l.stackTraces = false) (dd : va_G) (cI cJ cC cS : ClassId) (x0 s0 h0 l0 m0 p0 e0 w0 t0 s1 s2 h1 : Nat) (n tl : Int) (cap wi : Int → Int) (ct ru re : Int) (ya : Nat → Nat → Nat) (yc yw : Nat → Int → Int) (yt yu yr : Nat → Int) (ys : Int) (sz : Nat) (hn : 1 ≤ n ∧ n ≤ 8) (hct : 0 ≤ ct ∧ ct ≤ 9) (hcap : ∀ j : Int, 0 ≤ j → j < n → 0 ≤ cap j ∧ cap j ≤ 3) (hwi : ∀ j : Int, 0 ≤ j → j < ct → 0 ≤ wi j ∧ wi j < n) (hru : 0 ≤ ru ∧ ru ≤ 3) (hre : 0 ≤ re ∧ re ≤ 8) (hys : 0 ≤ ys ∧ ys ≤ 6) : gXi l yX6_shift wsX6_shift 12 3 18 dd cI cJ cC cS [.ref x0] [kO x0 6 [vI n, .ref s0, .ref h0, .ref l0, .ref m0, .ref p0, .ref e0, .ref w0, .ref t0, vI tl], kO s0 5 [.ref s1, .ref s2, vI ct, vI ru, vI re], kI cI s1 8 cap, kI cI s2 9 wi, kO h0 0 [.ref h1, vI ys], kR cS h1 6 (kfA ya), kO (ya 0 0) 5 [.ref (ya 0 1), .ref (ya 0 2), vI (yt 0), vI (yu 0), vI (yr 0)], kI cI (ya 0 1) 8 (yc 0), kI cI (ya 0 2) 9 (yw 0), kO (ya 1 0) 5 [.ref (ya 1 1), .ref (ya 1 2), vI (yt 1), vI (yu 1), vI (yr 1)], kI cI (ya 1 1) 8 (yc 1), kI cI (ya 1 2) 9 (yw 1), kO (ya 2 0) 5 [.ref (ya 2 1), .ref (ya 2 2), vI (yt 2), vI (yu 2), vI (yr 2)], kI cI (ya 2 1) 8 (yc 2), kI cI (ya 2 2) 9 (yw 2), kO (ya 3 0) 5 [.ref (ya 3 1), .ref (ya 3 2), vI (yt 3), vI (yu 3), vI (yr 3)], kI cI (ya 3 1) 8 (yc 3), kI cI (ya 3 2) 9 (yw 3), kO (ya 4 0) 5 [.ref (ya 4 1), .ref (ya 4 2), vI (yt 4), vI (yu 4), vI (yr 4)], kI cI (ya 4 1) 8 (yc 4), kI cI (ya 4 2) 9 (yw 4), kO (ya 5 0) 5 [.ref (ya 5 1), .ref (ya 5 2), vI (yt 5), vI (yu 5), vI (yr 5)], kI cI (ya 5 1) 8 (yc 5), kI cI (ya 5 2) 9 (yw 5)] sz (fun (z : Int) (u : Int × (Nat → Nat → Nat) × (Nat → Int → Int) × (Nat → Int → Int) × (Nat → Int) × (Nat → Int) × (Nat → Int)) => z = gapZ n wi ∧ KEEP ys ya yc yw yt yu yr cap wi ct ru re u.1 u.2.1 u.2.2.1 u.2.2.2.1 u.2.2.2.2.1 u.2.2.2.2.2.1 u.2.2.2.2.2.2 ∧ ct = n) (fun (u : Int × (Nat → Nat → Nat) × (Nat → Int → Int) × (Nat → Int → Int) × (Nat → Int) × (Nat → Int) × (Nat → Int)) => [kO x0 6 [vI n, .ref s0, .ref h0, .ref l0, .ref m0, .ref p0, .ref e0, .ref w0, .ref t0, vI tl], kO s0 5 [.ref s1, .ref s2, vI ct, vI ru, vI re], kI cI s1 8 cap, kI cI s2 9 (cpZ (shfZ n wi) wi n), kO h0 0 [.ref h1, vI u.1], kR cS h1 6 (kfA u.2.1), kO (u.2.1 0 0) 5 [.ref (u.2.1 0 1), .ref (u.2.1 0 2), vI (u.2.2.2.2.1 0), vI (u.2.2.2.2.2.1 0), vI (u.2.2.2.2.2.2 0)], kI cI (u.2.1 0 1) 8 (u.2.2.1 0), kI cI (u.2.1 0 2) 9 (u.2.2.2.1 0), kO (u.2.1 1 0) 5 [.ref (u.2.1 1 1), .ref (u.2.1 1 2), vI (u.2.2.2.2.1 1), vI (u.2.2.2.2.2.1 1), vI (u.2.2.2.2.2.2 1)], kI cI (u.2.1 1 1) 8 (u.2.2.1 1), kI cI (u.2.1 1 2) 9 (u.2.2.2.1 1), kO (u.2.1 2 0) 5 [.ref (u.2.1 2 1), .ref (u.2.1 2 2), vI (u.2.2.2.2.1 2), vI (u.2.2.2.2.2.1 2), vI (u.2.2.2.2.2.2 2)], kI cI (u.2.1 2 1) 8 (u.2.2.1 2), kI cI (u.2.1 2 2) 9 (u.2.2.2.1 2), kO (u.2.1 3 0) 5 [.ref (u.2.1 3 1), .ref (u.2.1 3 2), vI (u.2.2.2.2.1 3), vI (u.2.2.2.2.2.1 3), vI (u.2.2.2.2.2.2 3)], kI cI (u.2.1 3 1) 8 (u.2.2.1 3), kI cI (u.2.1 3 2) 9 (u.2.2.2.1 3), kO (u.2.1 4 0) 5 [.ref (u.2.1 4 1), .ref (u.2.1 4 2), vI (u.2.2.2.2.1 4), vI (u.2.2.2.2.2.1 4), vI (u.2.2.2.2.2.2 4)], kI cI (u.2.1 4 1) 8 (u.2.2.1 4), kI cI (u.2.1 4 2) 9 (u.2.2.2.1 4), kO (u.2.1 5 0) 5 [.ref (u.2.1 5 1), .ref (u.2.1 5 2), vI (u.2.2.2.2.1 5), vI (u.2.2.2.2.2.1 5), vI (u.2.2.2.2.2.2 5)], kI cI (u.2.1 5 1) 8 (u.2.2.1 5), kI cI (u.2.1 5 2) 9 (u.2.2.2.1 5)]) (fun (E : String) (_ : Unit) => E = xIS ∧ ct ≠ n) (fun (_ : Unit) => [kO x0 6 [vI n, .ref s0, .ref h0, .ref l0, .ref m0, .ref p0, .ref e0, .ref w0, .ref t0, vI tl], kO s0 5 [.ref s1, .ref s2, vI ct, vI ru, vI re], kI cI s1 8 cap, kI cI s2 9 wi, kO h0 0 [.ref h1, vI ys], kR cS h1 6 (kfA ya), kO (ya 0 0) 5 [.ref (ya 0 1), .ref (ya 0 2), vI (yt 0), vI (yu 0), vI (yr 0)], kI cI (ya 0 1) 8 (yc 0), kI cI (ya 0 2) 9 (yw 0), kO (ya 1 0) 5 [.ref (ya 1 1), .ref (ya 1 2), vI (yt 1), vI (yu 1), vI (yr 1)], kI cI (ya 1 1) 8 (yc 1), kI cI (ya 1 2) 9 (yw 1), kO (ya 2 0) 5 [.ref (ya 2 1), .ref (ya 2 2), vI (yt 2), vI (yu 2), vI (yr 2)], kI cI (ya 2 1) 8 (yc 2), kI cI (ya 2 2) 9 (yw 2), kO (ya 3 0) 5 [.ref (ya 3 1), .ref (ya 3 2), vI (yt 3), vI (yu 3), vI (yr 3)], kI cI (ya 3 1) 8 (yc 3), kI cI (ya 3 2) 9 (yw 3), kO (ya 4 0) 5 [.ref (ya 4 1), .ref (ya 4 2), vI (yt 4), vI (yu 4), vI (yr 4)], kI cI (ya 4 1) 8 (yc 4), kI cI (ya 4 2) 9 (yw 4), kO (ya 5 0) 5 [.ref (ya 5 1), .ref (ya 5 2), vI (yt 5), vI (yu 5), vI (yr 5)], kI cI (ya 5 1) 8 (yc 5), kI cI (ya 5 2) 9 (yw 5)]) := by
  refine gXi_of (cc := cX6_shift) (maxL := 3) (ret := (some .int)) (by decide) rfl (Nat.le_of_ble_eq_true rfl) ?_
  intro p e s m args below meth c A Q hQ hE htb hx hb hr hts hown hlocks hnm hml H locs hP hK hD hA hS ls hl
  have hi5 : ∀ w ∈ wsX50, w ∈ wsX6_shift := fun _ h => (List.mem_cons_of_mem _ (List.mem_append_left _ (List.mem_append_left _ (List.mem_append_right _ h))))
  have hi6 : ∀ w ∈ wsX60, w ∈ wsX6_shift := fun _ h => (List.mem_cons_of_mem _ (List.mem_append_left _ (List.mem_append_left _ (List.mem_append_left _ (List.mem_append_right _ h)))))
  have hl : lv_has ls 3 [(0, .ref x0)] := hl
  refine lv_aload_n hx hb dX6_shift_0 rfl (lv_at hl 0 rfl) ?_
  refine va_get (D := dd) (ci := 6) (v := .ref s0) (C := RX6) (T := TX6) (N := 10) hx hb hts hi6 hown hK hP 0 rfl rfl 1 (by decide) (hts _ (List.mem_cons_of_mem _ (List.mem_append_left _ (List.mem_append_left _ (List.mem_append_left _ (List.mem_append_left _ (List.mem_append_left _ (List.mem_of_getElem? (i := 0) rfl)))))))) (fun _ h9 => h9) rfl dX6_shift_1 ?_
  refine va_get (D := dd) (ci := 5) (v := vI ct) (C := RX5) (T := TX5) (N := 5) hx hb hts hi5 hown hK hP 1 rfl rfl 2 (by decide) (hts _ (List.mem_cons_of_mem _ (List.mem_append_left _ (List.mem_append_left _ (List.mem_append_left _ (List.mem_append_left _ (List.mem_append_left _ (List.mem_of_getElem? (i := 1) rfl)))))))) (fun _ h9 => h9) rfl dX6_shift_4 ?_
  refine lv_aload_n hx hb dX6_shift_7 rfl (lv_at hl 0 rfl) ?_
  refine va_get (D := dd) (ci := 6) (v := vI n) (C := RX6) (T := TX6) (N := 10) hx hb hts hi6 hown hK hP 0 rfl rfl 0 (by decide) (hts _ (List.mem_cons_of_mem _ (List.mem_append_left _ (List.mem_append_left _ (List.mem_append_left _ (List.mem_append_left _ (List.mem_append_left _ (List.mem_of_getElem? (i := 2) rfl)))))))) (fun _ h9 => h9) rfl dX6_shift_8 ?_
  refine z_icmp_ne (tgt := 18) hx hb dX6_shift_11 (by decide) (by omega) (fun c11 => ?_) (fun c11 => ?_)
  · skip
    refine z_iconst hx hb dX6_shift_18 ?_
    refine g_xcallSv (own := RX6) (n := 1) (mc := 1) (ms := 6) (As := [vI 0]) (rest := []) (wc := []) (wr := [kO x0 6 [vI n, .ref s0, .ref h0, .ref l0, .ref m0, .ref p0, .ref e0, .ref w0, .ref t0, vI tl], kO s0 5 [.ref s1, .ref s2, vI ct, vI ru, vI re], kI cI s1 8 cap, kI cI s2 9 wi, kO h0 0 [.ref h1, vI ys], kR cS h1 6 (kfA ya), kO (ya 0 0) 5 [.ref (ya 0 1), .ref (ya 0 2), vI (yt 0), vI (yu 0), vI (yr 0)], kI cI (ya 0 1) 8 (yc 0), kI cI (ya 0 2) 9 (yw 0), kO (ya 1 0) 5 [.ref (ya 1 1), .ref (ya 1 2), vI (yt 1), vI (yu 1), vI (yr 1)], kI cI (ya 1 1) 8 (yc 1), kI cI (ya 1 2) 9 (yw 1), kO (ya 2 0) 5 [.ref (ya 2 1), .ref (ya 2 2), vI (yt 2), vI (yu 2), vI (yr 2)], kI cI (ya 2 1) 8 (yc 2), kI cI (ya 2 2) 9 (yw 2), kO (ya 3 0) 5 [.ref (ya 3 1), .ref (ya 3 2), vI (yt 3), vI (yu 3), vI (yr 3)], kI cI (ya 3 1) 8 (yc 3), kI cI (ya 3 2) 9 (yw 3), kO (ya 4 0) 5 [.ref (ya 4 1), .ref (ya 4 2), vI (yt 4), vI (yu 4), vI (yr 4)], kI cI (ya 4 1) 8 (yc 4), kI cI (ya 4 2) 9 (yw 4), kO (ya 5 0) 5 [.ref (ya 5 1), .ref (ya 5 2), vI (yt 5), vI (yu 5), vI (yr 5)], kI cI (ya 5 1) 8 (yc 5), kI cI (ya 5 2) 9 (yw 5)]) hx hb hml hown hts hK hP hD hS hA [] [0, 1, 2, 3, 4, 5, 6, 7, 8, 9, 10, 11, 12, 13, 14, 15, 16, 17, 18, 19, 20, 21, 22, 23] rfl rfl (by decide) (by decide) (c_X6_requireState l hfl dd cI cJ cC cS 0 H.size  (by first | assumption | omega)) gX6_shift_X6_requireState rfl (by decide +kernel) (by decide) (by decide) (by decide) (by decide) rfl hl.1 rfl (Nat.le_of_ble_eq_true rfl) dX6_shift_19 hE htb hlocks hQ ⟨by omega, by omega⟩ (fun E u hu => ⟨(), (by obtain ⟨he, hu⟩ := hu; first | exact ⟨he, by omega⟩ | exact Or.inl ⟨he, by omega⟩ | exact Or.inr ⟨he, by omega⟩ | exact Or.inr (Or.inl ⟨he, by omega⟩) | exact Or.inr (Or.inr ⟨he, by omega⟩)), fun H1 h => h.sub [0, 1, 2, 3, 4, 5, 6, 7, 8, 9, 10, 11, 12, 13, 14, 15, 16, 17, 18, 19, 20, 21, 22, 23] rfl, fun h => h.sub [0, 1, 2, 3, 4, 5, 6, 7, 8, 9, 10, 11, 12, 13, 14, 15, 16, 17, 18, 19, 20, 21, 22, 23] (by decide) rfl⟩) (fun u_1 H locs hp19 hP hD hS => ?_)
    exact absurd rfl hp19
  · skip
    refine z_iconst hx hb dX6_shift_14 ?_
    refine lv_goto (tgt := 19) hx hb dX6_shift_15 (by decide) ?_
    refine g_xcallSv (own := RX6) (n := 1) (mc := 1) (ms := 6) (As := [vI 1]) (rest := []) (wc := []) (wr := [kO x0 6 [vI n, .ref s0, .ref h0, .ref l0, .ref m0, .ref p0, .ref e0, .ref w0, .ref t0, vI tl], kO s0 5 [.ref s1, .ref s2, vI ct, vI ru, vI re], kI cI s1 8 cap, kI cI s2 9 wi, kO h0 0 [.ref h1, vI ys], kR cS h1 6 (kfA ya), kO (ya 0 0) 5 [.ref (ya 0 1), .ref (ya 0 2), vI (yt 0), vI (yu 0), vI (yr 0)], kI cI (ya 0 1) 8 (yc 0), kI cI (ya 0 2) 9 (yw 0), kO (ya 1 0) 5 [.ref (ya 1 1), .ref (ya 1 2), vI (yt 1), vI (yu 1), vI (yr 1)], kI cI (ya 1 1) 8 (yc 1), kI cI (ya 1 2) 9 (yw 1), kO (ya 2 0) 5 [.ref (ya 2 1), .ref (ya 2 2), vI (yt 2), vI (yu 2), vI (yr 2)], kI cI (ya 2 1) 8 (yc 2), kI cI (ya 2 2) 9 (yw 2), kO (ya 3 0) 5 [.ref (ya 3 1), .ref (ya 3 2), vI (yt 3), vI (yu 3), vI (yr 3)], kI cI (ya 3 1) 8 (yc 3), kI cI (ya 3 2) 9 (yw 3), kO (ya 4 0) 5 [.ref (ya 4 1), .ref (ya 4 2), vI (yt 4), vI (yu 4), vI (yr 4)], kI cI (ya 4 1) 8 (yc 4), kI cI (ya 4 2) 9 (yw 4), kO (ya 5 0) 5 [.ref (ya 5 1), .ref (ya 5 2), vI (yt 5), vI (yu 5), vI (yr 5)], kI cI (ya 5 1) 8 (yc 5), kI cI (ya 5 2) 9 (yw 5)]) hx hb hml hown hts hK hP hD hS hA [] [0, 1, 2, 3, 4, 5, 6, 7, 8, 9, 10, 11, 12, 13, 14, 15, 16, 17, 18, 19, 20, 21, 22, 23] rfl rfl (by decide) (by decide) (c_X6_requireState l hfl dd cI cJ cC cS 1 H.size  (by first | assumption | omega)) gX6_shift_X6_requireState rfl (by decide +kernel) (by decide) (by decide) (by decide) (by decide) rfl hl.1 rfl (Nat.le_of_ble_eq_true rfl) dX6_shift_19 hE htb hlocks hQ ⟨by omega, by omega⟩ (fun E u hu => ⟨(), (by obtain ⟨he, hu⟩ := hu; first | exact ⟨he, by omega⟩ | exact Or.inl ⟨he, by omega⟩ | exact Or.inr ⟨he, by omega⟩ | exact Or.inr (Or.inl ⟨he, by omega⟩) | exact Or.inr (Or.inr ⟨he, by omega⟩)), fun H1 h => h.sub [0, 1, 2, 3, 4, 5, 6, 7, 8, 9, 10, 11, 12, 13, 14, 15, 16, 17, 18, 19, 20, 21, 22, 23] rfl, fun h => h.sub [0, 1, 2, 3, 4, 5, 6, 7, 8, 9, 10, 11, 12, 13, 14, 15, 16, 17, 18, 19, 20, 21, 22, 23] (by decide) rfl⟩) (fun u_2 H locs hp19_3 hP hD hS => ?_)
    have hP : va_P dd vwCl [kO x0 6 [vI n, .ref s0, .ref h0, .ref l0, .ref m0, .ref p0, .ref e0, .ref w0, .ref t0, vI tl], kO s0 5 [.ref s1, .ref s2, vI ct, vI ru, vI re], kI cI s1 8 cap, kI cI s2 9 wi, kO h0 0 [.ref h1, vI ys], kR cS h1 6 (kfA ya), kO (ya 0 0) 5 [.ref (ya 0 1), .ref (ya 0 2), vI (yt 0), vI (yu 0), vI (yr 0)], kI cI (ya 0 1) 8 (yc 0), kI cI (ya 0 2) 9 (yw 0), kO (ya 1 0) 5 [.ref (ya 1 1), .ref (ya 1 2), vI (yt 1), vI (yu 1), vI (yr 1)], kI cI (ya 1 1) 8 (yc 1), kI cI (ya 1 2) 9 (yw 1), kO (ya 2 0) 5 [.ref (ya 2 1), .ref (ya 2 2), vI (yt 2), vI (yu 2), vI (yr 2)], kI cI (ya 2 1) 8 (yc 2), kI cI (ya 2 2) 9 (yw 2), kO (ya 3 0) 5 [.ref (ya 3 1), .ref (ya 3 2), vI (yt 3), vI (yu 3), vI (yr 3)], kI cI (ya 3 1) 8 (yc 3), kI cI (ya 3 2) 9 (yw 3), kO (ya 4 0) 5 [.ref (ya 4 1), .ref (ya 4 2), vI (yt 4), vI (yu 4), vI (yr 4)], kI cI (ya 4 1) 8 (yc 4), kI cI (ya 4 2) 9 (yw 4), kO (ya 5 0) 5 [.ref (ya 5 1), .ref (ya 5 2), vI (yt 5), vI (yu 5), vI (yr 5)], kI cI (ya 5 1) 8 (yc 5), kI cI (ya 5 2) 9 (yw 5)] H := hP
    have hD : va_D A [kO x0 6 [vI n, .ref s0, .ref h0, .ref l0, .ref m0, .ref p0, .ref e0, .ref w0, .ref t0, vI tl], kO s0 5 [.ref s1, .ref s2, vI ct, vI ru, vI re], kI cI s1 8 cap, kI cI s2 9 wi, kO h0 0 [.ref h1, vI ys], kR cS h1 6 (kfA ya), kO (ya 0 0) 5 [.ref (ya 0 1), .ref (ya 0 2), vI (yt 0), vI (yu 0), vI (yr 0)], kI cI (ya 0 1) 8 (yc 0), kI cI (ya 0 2) 9 (yw 0), kO (ya 1 0) 5 [.ref (ya 1 1), .ref (ya 1 2), vI (yt 1), vI (yu 1), vI (yr 1)], kI cI (ya 1 1) 8 (yc 1), kI cI (ya 1 2) 9 (yw 1), kO (ya 2 0) 5 [.ref (ya 2 1), .ref (ya 2 2), vI (yt 2), vI (yu 2), vI (yr 2)], kI cI (ya 2 1) 8 (yc 2), kI cI (ya 2 2) 9 (yw 2), kO (ya 3 0) 5 [.ref (ya 3 1), .ref (ya 3 2), vI (yt 3), vI (yu 3), vI (yr 3)], kI cI (ya 3 1) 8 (yc 3), kI cI (ya 3 2) 9 (yw 3), kO (ya 4 0) 5 [.ref (ya 4 1), .ref (ya 4 2), vI (yt 4), vI (yu 4), vI (yr 4)], kI cI (ya 4 1) 8 (yc 4), kI cI (ya 4 2) 9 (yw 4), kO (ya 5 0) 5 [.ref (ya 5 1), .ref (ya 5 2), vI (yt 5), vI (yu 5), vI (yr 5)], kI cI (ya 5 1) 8 (yc 5), kI cI (ya 5 2) 9 (yw 5)] := hD
    refine lv_aload_n hx hb dX6_shift_22 rfl (lv_at hl 0 rfl) ?_
    refine g_callVi (own := RX6) (n := 0) (mc := 0) (ms := 0) (As := []) (rest := []) (wc := [kO x0 6 [vI n, .ref s0, .ref h0, .ref l0, .ref m0, .ref p0, .ref e0, .ref w0, .ref t0, vI tl], kO s0 5 [.ref s1, .ref s2, vI ct, vI ru, vI re], kI cI s1 8 cap, kI cI s2 9 wi]) (wr := [kO h0 0 [.ref h1, vI ys], kR cS h1 6 (kfA ya), kO (ya 0 0) 5 [.ref (ya 0 1), .ref (ya 0 2), vI (yt 0), vI (yu 0), vI (yr 0)], kI cI (ya 0 1) 8 (yc 0), kI cI (ya 0 2) 9 (yw 0), kO (ya 1 0) 5 [.ref (ya 1 1), .ref (ya 1 2), vI (yt 1), vI (yu 1), vI (yr 1)], kI cI (ya 1 1) 8 (yc 1), kI cI (ya 1 2) 9 (yw 1), kO (ya 2 0) 5 [.ref (ya 2 1), .ref (ya 2 2), vI (yt 2), vI (yu 2), vI (yr 2)], kI cI (ya 2 1) 8 (yc 2), kI cI (ya 2 2) 9 (yw 2), kO (ya 3 0) 5 [.ref (ya 3 1), .ref (ya 3 2), vI (yt 3), vI (yu 3), vI (yr 3)], kI cI (ya 3 1) 8 (yc 3), kI cI (ya 3 2) 9 (yw 3), kO (ya 4 0) 5 [.ref (ya 4 1), .ref (ya 4 2), vI (yt 4), vI (yu 4), vI (yr 4)], kI cI (ya 4 1) 8 (yc 4), kI cI (ya 4 2) 9 (yw 4), kO (ya 5 0) 5 [.ref (ya 5 1), .ref (ya 5 2), vI (yt 5), vI (yu 5), vI (yr 5)], kI cI (ya 5 1) 8 (yc 5), kI cI (ya 5 2) 9 (yw 5)]) hx hb hml hown hts hK hP hD hS hA [0, 1, 2, 3] [4, 5, 6, 7, 8, 9, 10, 11, 12, 13, 14, 15, 16, 17, 18, 19, 20, 21, 22, 23] rfl rfl (by decide) (by decide) 6 0 rfl rfl (c_X6_gapOnCircle l dd cI cJ cC cS x0 s0 h0 l0 m0 p0 e0 w0 t0 s1 s2 n tl cap wi ct ru re H.size  (by first | assumption | omega) (by omega) (by first | assumption | (intro j h0 h1; omega))) gX6_shift_X6_gapOnCircle rfl (by decide +kernel) (by decide) (by decide) (by decide) (by decide) rfl hl.1 rfl (Nat.le_of_ble_eq_true rfl) dX6_shift_23 (fun z_4 u_5 H locs hp23 hP hD hS => ?_)
    subst z_4
    have hP : va_P dd vwCl [kO h0 0 [.ref h1, vI ys], kR cS h1 6 (kfA ya), kO (ya 0 0) 5 [.ref (ya 0 1), .ref (ya 0 2), vI (yt 0), vI (yu 0), vI (yr 0)], kI cI (ya 0 1) 8 (yc 0), kI cI (ya 0 2) 9 (yw 0), kO (ya 1 0) 5 [.ref (ya 1 1), .ref (ya 1 2), vI (yt 1), vI (yu 1), vI (yr 1)], kI cI (ya 1 1) 8 (yc 1), kI cI (ya 1 2) 9 (yw 1), kO (ya 2 0) 5 [.ref (ya 2 1), .ref (ya 2 2), vI (yt 2), vI (yu 2), vI (yr 2)], kI cI (ya 2 1) 8 (yc 2), kI cI (ya 2 2) 9 (yw 2), kO (ya 3 0) 5 [.ref (ya 3 1), .ref (ya 3 2), vI (yt 3), vI (yu 3), vI (yr 3)], kI cI (ya 3 1) 8 (yc 3), kI cI (ya 3 2) 9 (yw 3), kO (ya 4 0) 5 [.ref (ya 4 1), .ref (ya 4 2), vI (yt 4), vI (yu 4), vI (yr 4)], kI cI (ya 4 1) 8 (yc 4), kI cI (ya 4 2) 9 (yw 4), kO (ya 5 0) 5 [.ref (ya 5 1), .ref (ya 5 2), vI (yt 5), vI (yu 5), vI (yr 5)], kI cI (ya 5 1) 8 (yc 5), kI cI (ya 5 2) 9 (yw 5), kO x0 6 [vI n, .ref s0, .ref h0, .ref l0, .ref m0, .ref p0, .ref e0, .ref w0, .ref t0, vI tl], kO s0 5 [.ref s1, .ref s2, vI ct, vI ru, vI re], kI cI s1 8 cap, kI cI s2 9 wi] H := hP
    have hD : va_D A [kO h0 0 [.ref h1, vI ys], kR cS h1 6 (kfA ya), kO (ya 0 0) 5 [.ref (ya 0 1), .ref (ya 0 2), vI (yt 0), vI (yu 0), vI (yr 0)], kI cI (ya 0 1) 8 (yc 0), kI cI (ya 0 2) 9 (yw 0), kO (ya 1 0) 5 [.ref (ya 1 1), .ref (ya 1 2), vI (yt 1), vI (yu 1), vI (yr 1)], kI cI (ya 1 1) 8 (yc 1), kI cI (ya 1 2) 9 (yw 1), kO (ya 2 0) 5 [.ref (ya 2 1), .ref (ya 2 2), vI (yt 2), vI (yu 2), vI (yr 2)], kI cI (ya 2 1) 8 (yc 2), kI cI (ya 2 2) 9 (yw 2), kO (ya 3 0) 5 [.ref (ya 3 1), .ref (ya 3 2), vI (yt 3), vI (yu 3), vI (yr 3)], kI cI (ya 3 1) 8 (yc 3), kI cI (ya 3 2) 9 (yw 3), kO (ya 4 0) 5 [.ref (ya 4 1), .ref (ya 4 2), vI (yt 4), vI (yu 4), vI (yr 4)], kI cI (ya 4 1) 8 (yc 4), kI cI (ya 4 2) 9 (yw 4), kO (ya 5 0) 5 [.ref (ya 5 1), .ref (ya 5 2), vI (yt 5), vI (yu 5), vI (yr 5)], kI cI (ya 5 1) 8 (yc 5), kI cI (ya 5 2) 9 (yw 5), kO x0 6 [vI n, .ref s0, .ref h0, .ref l0, .ref m0, .ref p0, .ref e0, .ref w0, .ref t0, vI tl], kO s0 5 [.ref s1, .ref s2, vI ct, vI ru, vI re], kI cI s1 8 cap, kI cI s2 9 wi] := hD
    have hat := tk_at hn (wi := wi) (fun j h0 h1 => hwi j h0 (by omega)) (i := n) (by omega) (s := 0) (by omega)
    refine lv_istore_n (lv' := [(1, vI (gapZ n wi)), (0, .ref x0)]) hx hb dX6_shift_26 rfl hl (by decide) rfl (fun ls hl => ?_)
    refine lv_aload_n hx hb dX6_shift_27 rfl (lv_at hl 1 rfl) ?_
    refine va_get (D := dd) (ci := 6) (v := .ref h0) (C := RX6) (T := TX6) (N := 10) hx hb hts hi6 hown hK hP 20 rfl rfl 2 (by decide) (hts _ (List.mem_cons_of_mem _ (List.mem_append_left _ (List.mem_append_left _ (List.mem_append_left _ (List.mem_append_left _ (List.mem_append_left _ (List.mem_of_getElem? (i := 3) rfl)))))))) (fun _ h9 => h9) rfl dX6_shift_28 ?_
    refine lv_aload_n hx hb dX6_shift_31 rfl (lv_at hl 1 rfl) ?_
    refine va_get (D := dd) (ci := 6) (v := .ref s0) (C := RX6) (T := TX6) (N := 10) hx hb hts hi6 hown hK hP 20 rfl rfl 1 (by decide) (hts _ (List.mem_cons_of_mem _ (List.mem_append_left _ (List.mem_append_left _ (List.mem_append_left _ (List.mem_append_left _ (List.mem_append_left _ (List.mem_of_getElem? (i := 0) rfl)))))))) (fun _ h9 => h9) rfl dX6_shift_32 ?_
    refine g_callVv (own := RX6) (n := 1) (mc := 0) (ms := 0) (As := [.ref s0]) (rest := []) (wc := [kO h0 0 [.ref h1, vI ys], kR cS h1 6 (kfA ya), kO (ya 0 0) 5 [.ref (ya 0 1), .ref (ya 0 2), vI (yt 0), vI (yu 0), vI (yr 0)], kI cI (ya 0 1) 8 (yc 0), kI cI (ya 0 2) 9 (yw 0), kO (ya 1 0) 5 [.ref (ya 1 1), .ref (ya 1 2), vI (yt 1), vI (yu 1), vI (yr 1)], kI cI (ya 1 1) 8 (yc 1), kI cI (ya 1 2) 9 (yw 1), kO (ya 2 0) 5 [.ref (ya 2 1), .ref (ya 2 2), vI (yt 2), vI (yu 2), vI (yr 2)], kI cI (ya 2 1) 8 (yc 2), kI cI (ya 2 2) 9 (yw 2), kO (ya 3 0) 5 [.ref (ya 3 1), .ref (ya 3 2), vI (yt 3), vI (yu 3), vI (yr 3)], kI cI (ya 3 1) 8 (yc 3), kI cI (ya 3 2) 9 (yw 3), kO (ya 4 0) 5 [.ref (ya 4 1), .ref (ya 4 2), vI (yt 4), vI (yu 4), vI (yr 4)], kI cI (ya 4 1) 8 (yc 4), kI cI (ya 4 2) 9 (yw 4), kO (ya 5 0) 5 [.ref (ya 5 1), .ref (ya 5 2), vI (yt 5), vI (yu 5), vI (yr 5)], kI cI (ya 5 1) 8 (yc 5), kI cI (ya 5 2) 9 (yw 5), kO s0 5 [.ref s1, .ref s2, vI ct, vI ru, vI re], kI cI s1 8 cap, kI cI s2 9 wi]) (wr := [kO x0 6 [vI n, .ref s0, .ref h0, .ref l0, .ref m0, .ref p0, .ref e0, .ref w0, .ref t0, vI tl]]) hx hb hml hown hts hK hP hD hS hA [0, 1, 2, 3, 4, 5, 6, 7, 8, 9, 10, 11, 12, 13, 14, 15, 16, 17, 18, 19, 21, 22, 23] [20] rfl rfl (by decide) (by decide) 0 0 rfl rfl (c_X0_keep l dd cI cJ cC cS h0 h1 s0 s1 s2 ya yc yw yt yu yr ys cap wi ct ru re H.size  (by first | assumption | omega)) gX6_shift_X0_keep rfl (by decide +kernel) (by decide) (by decide) (by decide) (by decide) rfl hl.1 rfl (Nat.le_of_ble_eq_true rfl) dX6_shift_35 (fun u_6 H locs hkp hP hD hS => ?_)
    obtain ⟨ys1, ya1, yc1, yw1, yt1, yu1, yr1⟩ := u_6
    try dsimp only at hkp
    have hP : va_P dd vwCl [kO x0 6 [vI n, .ref s0, .ref h0, .ref l0, .ref m0, .ref p0, .ref e0, .ref w0, .ref t0, vI tl], kO h0 0 [.ref h1, vI ys1], kR cS h1 6 (kfA ya1), kO (ya1 0 0) 5 [.ref (ya1 0 1), .ref (ya1 0 2), vI (yt1 0), vI (yu1 0), vI (yr1 0)], kI cI (ya1 0 1) 8 (yc1 0), kI cI (ya1 0 2) 9 (yw1 0), kO (ya1 1 0) 5 [.ref (ya1 1 1), .ref (ya1 1 2), vI (yt1 1), vI (yu1 1), vI (yr1 1)], kI cI (ya1 1 1) 8 (yc1 1), kI cI (ya1 1 2) 9 (yw1 1), kO (ya1 2 0) 5 [.ref (ya1 2 1), .ref (ya1 2 2), vI (yt1 2), vI (yu1 2), vI (yr1 2)], kI cI (ya1 2 1) 8 (yc1 2), kI cI (ya1 2 2) 9 (yw1 2), kO (ya1 3 0) 5 [.ref (ya1 3 1), .ref (ya1 3 2), vI (yt1 3), vI (yu1 3), vI (yr1 3)], kI cI (ya1 3 1) 8 (yc1 3), kI cI (ya1 3 2) 9 (yw1 3), kO (ya1 4 0) 5 [.ref (ya1 4 1), .ref (ya1 4 2), vI (yt1 4), vI (yu1 4), vI (yr1 4)], kI cI (ya1 4 1) 8 (yc1 4), kI cI (ya1 4 2) 9 (yw1 4), kO (ya1 5 0) 5 [.ref (ya1 5 1), .ref (ya1 5 2), vI (yt1 5), vI (yu1 5), vI (yr1 5)], kI cI (ya1 5 1) 8 (yc1 5), kI cI (ya1 5 2) 9 (yw1 5), kO s0 5 [.ref s1, .ref s2, vI ct, vI ru, vI re], kI cI s1 8 cap, kI cI s2 9 wi] H := hP
    have hD : va_D A [kO x0 6 [vI n, .ref s0, .ref h0, .ref l0, .ref m0, .ref p0, .ref e0, .ref w0, .ref t0, vI tl], kO h0 0 [.ref h1, vI ys1], kR cS h1 6 (kfA ya1), kO (ya1 0 0) 5 [.ref (ya1 0 1), .ref (ya1 0 2), vI (yt1 0), vI (yu1 0), vI (yr1 0)], kI cI (ya1 0 1) 8 (yc1 0), kI cI (ya1 0 2) 9 (yw1 0), kO (ya1 1 0) 5 [.ref (ya1 1 1), .ref (ya1 1 2), vI (yt1 1), vI (yu1 1), vI (yr1 1)], kI cI (ya1 1 1) 8 (yc1 1), kI cI (ya1 1 2) 9 (yw1 1), kO (ya1 2 0) 5 [.ref (ya1 2 1), .ref (ya1 2 2), vI (yt1 2), vI (yu1 2), vI (yr1 2)], kI cI (ya1 2 1) 8 (yc1 2), kI cI (ya1 2 2) 9 (yw1 2), kO (ya1 3 0) 5 [.ref (ya1 3 1), .ref (ya1 3 2), vI (yt1 3), vI (yu1 3), vI (yr1 3)], kI cI (ya1 3 1) 8 (yc1 3), kI cI (ya1 3 2) 9 (yw1 3), kO (ya1 4 0) 5 [.ref (ya1 4 1), .ref (ya1 4 2), vI (yt1 4), vI (yu1 4), vI (yr1 4)], kI cI (ya1 4 1) 8 (yc1 4), kI cI (ya1 4 2) 9 (yw1 4), kO (ya1 5 0) 5 [.ref (ya1 5 1), .ref (ya1 5 2), vI (yt1 5), vI (yu1 5), vI (yr1 5)], kI cI (ya1 5 1) 8 (yc1 5), kI cI (ya1 5 2) 9 (yw1 5), kO s0 5 [.ref s1, .ref s2, vI ct, vI ru, vI re], kI cI s1 8 cap, kI cI s2 9 wi] := hD
    refine z_iconst hx hb dX6_shift_38 ?_
    refine lv_istore_n (lv' := [(2, vI 0), (1, vI (gapZ n wi)), (0, .ref x0)]) hx hb dX6_shift_39 rfl hl (by decide) rfl (fun ls hl => ?_)
    have L40 : ∀ (nn : Nat) (i : Int) (H : Heap) (locs : List Loc) (ls : Array Slot), ((n + 1 - i).toNat) = nn → (0 ≤ i ∧ i ≤ n) → va_P dd vwCl [kO x0 6 [vI n, .ref s0, .ref h0, .ref l0, .ref m0, .ref p0, .ref e0, .ref w0, .ref t0, vI tl], kO h0 0 [.ref h1, vI ys1], kR cS h1 6 (kfA ya1), kO (ya1 0 0) 5 [.ref (ya1 0 1), .ref (ya1 0 2), vI (yt1 0), vI (yu1 0), vI (yr1 0)], kI cI (ya1 0 1) 8 (yc1 0), kI cI (ya1 0 2) 9 (yw1 0), kO (ya1 1 0) 5 [.ref (ya1 1 1), .ref (ya1 1 2), vI (yt1 1), vI (yu1 1), vI (yr1 1)], kI cI (ya1 1 1) 8 (yc1 1), kI cI (ya1 1 2) 9 (yw1 1), kO (ya1 2 0) 5 [.ref (ya1 2 1), .ref (ya1 2 2), vI (yt1 2), vI (yu1 2), vI (yr1 2)], kI cI (ya1 2 1) 8 (yc1 2), kI cI (ya1 2 2) 9 (yw1 2), kO (ya1 3 0) 5 [.ref (ya1 3 1), .ref (ya1 3 2), vI (yt1 3), vI (yu1 3), vI (yr1 3)], kI cI (ya1 3 1) 8 (yc1 3), kI cI (ya1 3 2) 9 (yw1 3), kO (ya1 4 0) 5 [.ref (ya1 4 1), .ref (ya1 4 2), vI (yt1 4), vI (yu1 4), vI (yr1 4)], kI cI (ya1 4 1) 8 (yc1 4), kI cI (ya1 4 2) 9 (yw1 4), kO (ya1 5 0) 5 [.ref (ya1 5 1), .ref (ya1 5 2), vI (yt1 5), vI (yu1 5), vI (yr1 5)], kI cI (ya1 5 1) 8 (yc1 5), kI cI (ya1 5 2) 9 (yw1 5), kO s0 5 [.ref s1, .ref s2, vI ct, vI ru, vI re], kI cI s1 8 cap, kI cI s2 9 (cpZ (shfZ n wi) wi i)] H → va_D A [kO x0 6 [vI n, .ref s0, .ref h0, .ref l0, .ref m0, .ref p0, .ref e0, .ref w0, .ref t0, vI tl], kO h0 0 [.ref h1, vI ys1], kR cS h1 6 (kfA ya1), kO (ya1 0 0) 5 [.ref (ya1 0 1), .ref (ya1 0 2), vI (yt1 0), vI (yu1 0), vI (yr1 0)], kI cI (ya1 0 1) 8 (yc1 0), kI cI (ya1 0 2) 9 (yw1 0), kO (ya1 1 0) 5 [.ref (ya1 1 1), .ref (ya1 1 2), vI (yt1 1), vI (yu1 1), vI (yr1 1)], kI cI (ya1 1 1) 8 (yc1 1), kI cI (ya1 1 2) 9 (yw1 1), kO (ya1 2 0) 5 [.ref (ya1 2 1), .ref (ya1 2 2), vI (yt1 2), vI (yu1 2), vI (yr1 2)], kI cI (ya1 2 1) 8 (yc1 2), kI cI (ya1 2 2) 9 (yw1 2), kO (ya1 3 0) 5 [.ref (ya1 3 1), .ref (ya1 3 2), vI (yt1 3), vI (yu1 3), vI (yr1 3)], kI cI (ya1 3 1) 8 (yc1 3), kI cI (ya1 3 2) 9 (yw1 3), kO (ya1 4 0) 5 [.ref (ya1 4 1), .ref (ya1 4 2), vI (yt1 4), vI (yu1 4), vI (yr1 4)], kI cI (ya1 4 1) 8 (yc1 4), kI cI (ya1 4 2) 9 (yw1 4), kO (ya1 5 0) 5 [.ref (ya1 5 1), .ref (ya1 5 2), vI (yt1 5), vI (yu1 5), vI (yr1 5)], kI cI (ya1 5 1) 8 (yc1 5), kI cI (ya1 5 2) 9 (yw1 5), kO s0 5 [.ref s1, .ref s2, vI ct, vI ru, vI re], kI cI s1 8 cap, kI cI s2 9 (cpZ (shfZ n wi) wi i)] → va_S A s.heap H locs → lv_has ls 3 [(2, vI i), (1, vI (gapZ n wi)), (0, .ref x0)] → W p l e (gR 12 3 18) s m args below meth c H locs (0 + 1) (0 + 6) Q (F0 m 40 ls []) := by
      intro nn
      induction nn using Nat.strongRecOn with
      | ind nn L40i =>
      intro i H locs ls hmeas hi hP hD hS hl
      refine lv_iload_n hx hb dX6_shift_40 rfl (lv_at hl 0 rfl) ?_
      refine lv_aload_n hx hb dX6_shift_41 rfl (lv_at hl 2 rfl) ?_
      refine va_get (D := dd) (ci := 6) (v := vI n) (C := RX6) (T := TX6) (N := 10) hx hb hts hi6 hown hK hP 0 rfl rfl 0 (by decide) (hts _ (List.mem_cons_of_mem _ (List.mem_append_left _ (List.mem_append_left _ (List.mem_append_left _ (List.mem_append_left _ (List.mem_append_left _ (List.mem_of_getElem? (i := 2) rfl)))))))) (fun _ h9 => h9) rfl dX6_shift_42 ?_
      refine z_icmp_ge (tgt := 85) hx hb dX6_shift_45 (by decide) (by omega) (fun c45 => ?_) (fun c45 => ?_)
      · skip
        refine lv_iload_n hx hb dX6_shift_85 rfl (lv_at hl 1 rfl) ?_
        have ec_7 : kI cI s2 9 (cpZ (shfZ n wi) wi i) = kI cI s2 9 (cpZ (shfZ n wi) wi n) := kI_congr (by rw [show i = n by omega])
        rw [ec_7] at hP hD
        subst hQ
        refine vx_ret ?_
        refine z_iret (z := gapZ n wi) hx hb hr hlocks dX6_shift_86 (ys1, ya1, yc1, yw1, yt1, yu1, yr1) hK hS ⟨by omega, by omega⟩ (hP.sub [0, 21, 22, 23, 1, 2, 3, 4, 5, 6, 7, 8, 9, 10, 11, 12, 13, 14, 15, 16, 17, 18, 19, 20] rfl) (hD.sub [0, 21, 22, 23, 1, 2, 3, 4, 5, 6, 7, 8, 9, 10, 11, 12, 13, 14, 15, 16, 17, 18, 19, 20] (by decide) rfl) ?_
        exact ⟨rfl, hkp, by omega⟩
      · skip
        refine lv_aload_n hx hb dX6_shift_48 rfl (lv_at hl 2 rfl) ?_
        refine va_get (D := dd) (ci := 6) (v := .ref s0) (C := RX6) (T := TX6) (N := 10) hx hb hts hi6 hown hK hP 0 rfl rfl 1 (by decide) (hts _ (List.mem_cons_of_mem _ (List.mem_append_left _ (List.mem_append_left _ (List.mem_append_left _ (List.mem_append_left _ (List.mem_append_left _ (List.mem_of_getElem? (i := 0) rfl)))))))) (fun _ h9 => h9) rfl dX6_shift_49 ?_
        refine va_get (D := dd) (ci := 5) (v := .ref s2) (C := RX5) (T := TX5) (N := 5) hx hb hts hi5 hown hK hP 21 rfl rfl 1 (by decide) (hts _ (List.mem_cons_of_mem _ (List.mem_append_left _ (List.mem_append_left _ (List.mem_append_left _ (List.mem_append_left _ (List.mem_append_left _ (List.mem_of_getElem? (i := 4) rfl)))))))) (fun _ h9 => h9) rfl dX6_shift_52 ?_
        refine lv_iload_n hx hb dX6_shift_55 rfl (lv_at hl 0 rfl) ?_
        refine lv_aload_n hx hb dX6_shift_56 rfl (lv_at hl 2 rfl) ?_
        refine va_get (D := dd) (ci := 6) (v := .ref s0) (C := RX6) (T := TX6) (N := 10) hx hb hts hi6 hown hK hP 0 rfl rfl 1 (by decide) (hts _ (List.mem_cons_of_mem _ (List.mem_append_left _ (List.mem_append_left _ (List.mem_append_left _ (List.mem_append_left _ (List.mem_append_left _ (List.mem_of_getElem? (i := 0) rfl)))))))) (fun _ h9 => h9) rfl dX6_shift_57 ?_
        refine va_get (D := dd) (ci := 5) (v := .ref s2) (C := RX5) (T := TX5) (N := 5) hx hb hts hi5 hown hK hP 21 rfl rfl 1 (by decide) (hts _ (List.mem_cons_of_mem _ (List.mem_append_left _ (List.mem_append_left _ (List.mem_append_left _ (List.mem_append_left _ (List.mem_append_left _ (List.mem_of_getElem? (i := 4) rfl)))))))) (fun _ h9 => h9) rfl dX6_shift_60 ?_
        refine lv_iload_n hx hb dX6_shift_63 rfl (lv_at hl 0 rfl) ?_
        refine z_iald hx hb hK hP 23 0 rfl rfl (i := i) (by omega) (by decide) dX6_shift_64 ?_
        have hw9 := hwi i (by omega) (by omega)
        have hgz : 0 ≤ gapZ n wi ∧ gapZ n wi ≤ n := ⟨hat.2.2.1, hat.2.2.2.1⟩
        refine z_bin (va := .null) (vb := .null) (y := zI (wi i)) (congrArg zI (by unfold cpZ; rw [if_neg (by omega)])) ?_
        refine lv_iload_n hx hb dX6_shift_65 rfl (lv_at hl 1 rfl) ?_
        refine z_isub (z := (wi i - gapZ n wi)) hx hb rfl dX6_shift_66 ?_
        refine z_iconst hx hb dX6_shift_67 ?_
        refine z_isub (z := ((wi i - gapZ n wi) - 1)) hx hb rfl dX6_shift_68 ?_
        refine lv_aload_n hx hb dX6_shift_69 rfl (lv_at hl 2 rfl) ?_
        refine va_get (D := dd) (ci := 6) (v := vI n) (C := RX6) (T := TX6) (N := 10) hx hb hts hi6 hown hK hP 0 rfl rfl 0 (by decide) (hts _ (List.mem_cons_of_mem _ (List.mem_append_left _ (List.mem_append_left _ (List.mem_append_left _ (List.mem_append_left _ (List.mem_append_left _ (List.mem_of_getElem? (i := 2) rfl)))))))) (fun _ h9 => h9) rfl dX6_shift_70 ?_
        refine z_iconst hx hb dX6_shift_73 ?_
        refine z_iadd (z := (n + 1)) hx hb rfl dX6_shift_74 ?_
        refine g_callSi (own := RX6) (n := 2) (mc := 0) (ms := 0) (As := [vI ((wi i - gapZ n wi) - 1), vI (n + 1)]) (rest := [vI i, .ref s2]) (wc := []) (wr := [kO x0 6 [vI n, .ref s0, .ref h0, .ref l0, .ref m0, .ref p0, .ref e0, .ref w0, .ref t0, vI tl], kO h0 0 [.ref h1, vI ys1], kR cS h1 6 (kfA ya1), kO (ya1 0 0) 5 [.ref (ya1 0 1), .ref (ya1 0 2), vI (yt1 0), vI (yu1 0), vI (yr1 0)], kI cI (ya1 0 1) 8 (yc1 0), kI cI (ya1 0 2) 9 (yw1 0), kO (ya1 1 0) 5 [.ref (ya1 1 1), .ref (ya1 1 2), vI (yt1 1), vI (yu1 1), vI (yr1 1)], kI cI (ya1 1 1) 8 (yc1 1), kI cI (ya1 1 2) 9 (yw1 1), kO (ya1 2 0) 5 [.ref (ya1 2 1), .ref (ya1 2 2), vI (yt1 2), vI (yu1 2), vI (yr1 2)], kI cI (ya1 2 1) 8 (yc1 2), kI cI (ya1 2 2) 9 (yw1 2), kO (ya1 3 0) 5 [.ref (ya1 3 1), .ref (ya1 3 2), vI (yt1 3), vI (yu1 3), vI (yr1 3)], kI cI (ya1 3 1) 8 (yc1 3), kI cI (ya1 3 2) 9 (yw1 3), kO (ya1 4 0) 5 [.ref (ya1 4 1), .ref (ya1 4 2), vI (yt1 4), vI (yu1 4), vI (yr1 4)], kI cI (ya1 4 1) 8 (yc1 4), kI cI (ya1 4 2) 9 (yw1 4), kO (ya1 5 0) 5 [.ref (ya1 5 1), .ref (ya1 5 2), vI (yt1 5), vI (yu1 5), vI (yr1 5)], kI cI (ya1 5 1) 8 (yc1 5), kI cI (ya1 5 2) 9 (yw1 5), kO s0 5 [.ref s1, .ref s2, vI ct, vI ru, vI re], kI cI s1 8 cap, kI cI s2 9 (cpZ (shfZ n wi) wi i)]) hx hb hml hown hts hK hP hD hS hA [] [0, 1, 2, 3, 4, 5, 6, 7, 8, 9, 10, 11, 12, 13, 14, 15, 16, 17, 18, 19, 20, 21, 22, 23] rfl rfl (by decide) (by decide) (c_J9_floorMod_7cf53 l dd cI cJ cC cS ((wi i - gapZ n wi) - 1) (n + 1) H.size  (by first | assumption | omega) (by first | assumption | omega)) gX6_shift_J9_floorMod_7cf53 rfl (by decide +kernel) (by decide) (by decide) (by decide) (by decide) rfl hl.1 rfl (Nat.le_of_ble_eq_true rfl) dX6_shift_75 (fun z_8 u_9 H locs hp75 hP hD hS => ?_)
        subst z_8
        have hP : va_P dd vwCl [kO x0 6 [vI n, .ref s0, .ref h0, .ref l0, .ref m0, .ref p0, .ref e0, .ref w0, .ref t0, vI tl], kO h0 0 [.ref h1, vI ys1], kR cS h1 6 (kfA ya1), kO (ya1 0 0) 5 [.ref (ya1 0 1), .ref (ya1 0 2), vI (yt1 0), vI (yu1 0), vI (yr1 0)], kI cI (ya1 0 1) 8 (yc1 0), kI cI (ya1 0 2) 9 (yw1 0), kO (ya1 1 0) 5 [.ref (ya1 1 1), .ref (ya1 1 2), vI (yt1 1), vI (yu1 1), vI (yr1 1)], kI cI (ya1 1 1) 8 (yc1 1), kI cI (ya1 1 2) 9 (yw1 1), kO (ya1 2 0) 5 [.ref (ya1 2 1), .ref (ya1 2 2), vI (yt1 2), vI (yu1 2), vI (yr1 2)], kI cI (ya1 2 1) 8 (yc1 2), kI cI (ya1 2 2) 9 (yw1 2), kO (ya1 3 0) 5 [.ref (ya1 3 1), .ref (ya1 3 2), vI (yt1 3), vI (yu1 3), vI (yr1 3)], kI cI (ya1 3 1) 8 (yc1 3), kI cI (ya1 3 2) 9 (yw1 3), kO (ya1 4 0) 5 [.ref (ya1 4 1), .ref (ya1 4 2), vI (yt1 4), vI (yu1 4), vI (yr1 4)], kI cI (ya1 4 1) 8 (yc1 4), kI cI (ya1 4 2) 9 (yw1 4), kO (ya1 5 0) 5 [.ref (ya1 5 1), .ref (ya1 5 2), vI (yt1 5), vI (yu1 5), vI (yr1 5)], kI cI (ya1 5 1) 8 (yc1 5), kI cI (ya1 5 2) 9 (yw1 5), kO s0 5 [.ref s1, .ref s2, vI ct, vI ru, vI re], kI cI s1 8 cap, kI cI s2 9 (cpZ (shfZ n wi) wi i)] H := hP
        have hD : va_D A [kO x0 6 [vI n, .ref s0, .ref h0, .ref l0, .ref m0, .ref p0, .ref e0, .ref w0, .ref t0, vI tl], kO h0 0 [.ref h1, vI ys1], kR cS h1 6 (kfA ya1), kO (ya1 0 0) 5 [.ref (ya1 0 1), .ref (ya1 0 2), vI (yt1 0), vI (yu1 0), vI (yr1 0)], kI cI (ya1 0 1) 8 (yc1 0), kI cI (ya1 0 2) 9 (yw1 0), kO (ya1 1 0) 5 [.ref (ya1 1 1), .ref (ya1 1 2), vI (yt1 1), vI (yu1 1), vI (yr1 1)], kI cI (ya1 1 1) 8 (yc1 1), kI cI (ya1 1 2) 9 (yw1 1), kO (ya1 2 0) 5 [.ref (ya1 2 1), .ref (ya1 2 2), vI (yt1 2), vI (yu1 2), vI (yr1 2)], kI cI (ya1 2 1) 8 (yc1 2), kI cI (ya1 2 2) 9 (yw1 2), kO (ya1 3 0) 5 [.ref (ya1 3 1), .ref (ya1 3 2), vI (yt1 3), vI (yu1 3), vI (yr1 3)], kI cI (ya1 3 1) 8 (yc1 3), kI cI (ya1 3 2) 9 (yw1 3), kO (ya1 4 0) 5 [.ref (ya1 4 1), .ref (ya1 4 2), vI (yt1 4), vI (yu1 4), vI (yr1 4)], kI cI (ya1 4 1) 8 (yc1 4), kI cI (ya1 4 2) 9 (yw1 4), kO (ya1 5 0) 5 [.ref (ya1 5 1), .ref (ya1 5 2), vI (yt1 5), vI (yu1 5), vI (yr1 5)], kI cI (ya1 5 1) 8 (yc1 5), kI cI (ya1 5 2) 9 (yw1 5), kO s0 5 [.ref s1, .ref s2, vI ct, vI ru, vI re], kI cI s1 8 cap, kI cI s2 9 (cpZ (shfZ n wi) wi i)] := hD
        refine z_iast (ws' := [kO x0 6 [vI n, .ref s0, .ref h0, .ref l0, .ref m0, .ref p0, .ref e0, .ref w0, .ref t0, vI tl], kO h0 0 [.ref h1, vI ys1], kR cS h1 6 (kfA ya1), kO (ya1 0 0) 5 [.ref (ya1 0 1), .ref (ya1 0 2), vI (yt1 0), vI (yu1 0), vI (yr1 0)], kI cI (ya1 0 1) 8 (yc1 0), kI cI (ya1 0 2) 9 (yw1 0), kO (ya1 1 0) 5 [.ref (ya1 1 1), .ref (ya1 1 2), vI (yt1 1), vI (yu1 1), vI (yr1 1)], kI cI (ya1 1 1) 8 (yc1 1), kI cI (ya1 1 2) 9 (yw1 1), kO (ya1 2 0) 5 [.ref (ya1 2 1), .ref (ya1 2 2), vI (yt1 2), vI (yu1 2), vI (yr1 2)], kI cI (ya1 2 1) 8 (yc1 2), kI cI (ya1 2 2) 9 (yw1 2), kO (ya1 3 0) 5 [.ref (ya1 3 1), .ref (ya1 3 2), vI (yt1 3), vI (yu1 3), vI (yr1 3)], kI cI (ya1 3 1) 8 (yc1 3), kI cI (ya1 3 2) 9 (yw1 3), kO (ya1 4 0) 5 [.ref (ya1 4 1), .ref (ya1 4 2), vI (yt1 4), vI (yu1 4), vI (yr1 4)], kI cI (ya1 4 1) 8 (yc1 4), kI cI (ya1 4 2) 9 (yw1 4), kO (ya1 5 0) 5 [.ref (ya1 5 1), .ref (ya1 5 2), vI (yt1 5), vI (yu1 5), vI (yr1 5)], kI cI (ya1 5 1) 8 (yc1 5), kI cI (ya1 5 2) 9 (yw1 5), kO s0 5 [.ref s1, .ref s2, vI ct, vI ru, vI re], kI cI s1 8 cap, kI cI s2 9 (uZ (cpZ (shfZ n wi) wi i) i (((wi i - gapZ n wi) - 1) % (n + 1)))]) hx hb hK hP hD hS 23 0 rfl rfl (i := i) (x := (((wi i - gapZ n wi) - 1) % (n + 1))) (by omega) (by decide) dX6_shift_78 rfl (fun H locs hP hD hS => ?_)
        refine z_iinc (a := i) (z := (i + 1)) (lv' := [(2, vI (i + 1)), (1, vI (gapZ n wi)), (0, .ref x0)]) hx hb dX6_shift_79 hl (k := 0) rfl rfl (by decide) rfl (fun ls hl => ?_)
        refine lv_goto (tgt := 40) hx hb dX6_shift_82 (by decide) ?_
        have el_10 : kI cI s2 9 (uZ (cpZ (shfZ n wi) wi i) i (((wi i - gapZ n wi) - 1) % (n + 1))) = kI cI s2 9 (cpZ (shfZ n wi) wi (i + 1)) := kI_congr (congrArg aZ (cpZ_s (shfZ n wi) wi i))
        rw [el_10] at hP hD
        exact L40i _ (by omega) (i + 1) H locs ls rfl (by omega) hP hD hS hl
    have el_11 : kI cI s2 9 wi = kI cI s2 9 (cpZ (shfZ n wi) wi 0) := kI_congr ((aZ_cp0 (shfZ n wi) wi).symm)
    rw [el_11] at hP hD
    exact L40 _ 0 H locs ls rfl (by omega) hP hD hS hl
