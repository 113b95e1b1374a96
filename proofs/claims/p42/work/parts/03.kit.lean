/-! ints as integers, contracts of one shape, calls of one shape -/
def zI (a : Int) : Int32 := Int32.ofInt a
def zL (a : Int) : Int64 := Int64.ofInt a
def aZ (f : Int → Int) : Nat → Int32 := fun j => zI (f (j : Int))
def aL (f : Int → Int) : Nat → Int64 := fun j => zL (f (j : Int))
def uZ (f : Int → Int) (i x : Int) : Int → Int := fun j => if j = i then x else f j
abbrev rg (a : Int) : Prop := -2147483648 ≤ a ∧ a < 2147483648
abbrev rgL (a : Int) : Prop := -9223372036854775808 ≤ a ∧ a < 9223372036854775808
theorem uZ_same (f : Int → Int) (i x : Int) : uZ f i x i = x := by simp [uZ]
theorem uZ_ne {f : Int → Int} {i x j : Int} (h : j ≠ i) : uZ f i x j = f j := by simp [uZ, h]
theorem zI_toInt {a : Int} (h : rg a) : (zI a).toInt = a := Int32.toInt_ofInt_of_le (by have := h.1; omega) (by have := h.2; omega)
theorem zL_toInt {a : Int} (h : rgL a) : (zL a).toInt = a := Int64.toInt_ofInt_of_le (by have := h.1; omega) (by have := h.2; omega)
theorem zI_of (x : Int32) : x = zI x.toInt := (Int32.ofInt_toInt x).symm
theorem zI_rg (x : Int32) : rg x.toInt := ⟨by have := Int32.le_toInt x; omega, by have := Int32.toInt_lt x; omega⟩
theorem zI_0 : (0 : Int32) = zI 0 := by decide +kernel
theorem zI_lt {a b : Int} (ha : rg a) (hb : rg b) : zI a < zI b ↔ a < b := by rw [Int32.lt_iff_toInt_lt, zI_toInt ha, zI_toInt hb]
theorem zI_le {a b : Int} (ha : rg a) (hb : rg b) : zI a ≤ zI b ↔ a ≤ b := by rw [Int32.le_iff_toInt_le, zI_toInt ha, zI_toInt hb]
theorem zI_eq {a b : Int} (ha : rg a) (hb : rg b) : zI a = zI b ↔ a = b := by
  constructor
  · intro h
    have h2 := congrArg Int32.toInt h
    rwa [zI_toInt ha, zI_toInt hb] at h2
  · intro h; rw [h]
theorem zL_eq {a b : Int} (ha : rgL a) (hb : rgL b) : zL a = zL b ↔ a = b := by
  constructor
  · intro h
    have h2 := congrArg Int64.toInt h
    rwa [zL_toInt ha, zL_toInt hb] at h2
  · intro h; rw [h]
theorem zI_clamp {a : Int} (h0 : 0 ≤ a) (h1 : a < 2147483648) : (zI a).toNatClampNeg = a.toNat := Int32.toNatClampNeg_ofInt_of_le (by omega) (by omega)
theorem zI_in {a : Int} {n : Nat} (h0 : 0 ≤ a) (h1 : a < n) (hn : n < 2147483648) : vp_in (zI a) n := by
  unfold vp_in
  intro h
  rcases h with h | h
  · rw [Int32.lt_iff_toInt_lt, zI_toInt ⟨by omega, by omega⟩, Int32.toInt_zero] at h
    omega
  · rw [zI_clamp h0 (by omega)] at h
    omega
theorem zI_add (a b : Int) : zI a + zI b = zI (a + b) := (Int32.ofInt_add a b).symm
theorem zI_sub (a b : Int) : zI a - zI b = zI (a - b) := (Int32.ofInt_sub a b).symm
theorem zI_mul (a b : Int) : zI a * zI b = zI (a * b) := (Int32.ofInt_mul a b).symm
theorem zI_neg (a : Int) : -zI a = zI (-a) := (Int32.ofInt_neg a).symm
theorem zL_add (a b : Int) : zL a + zL b = zL (a + b) := (Int64.ofInt_add a b).symm
theorem zL_mul (a b : Int) : zL a * zL b = zL (a * b) := (Int64.ofInt_mul a b).symm
theorem zI_div {a b : Int} (ha : rg a) (hb : rg b) (h : b ≠ -1) : zI a / zI b = zI (a.tdiv b) := by
  apply Int32.toInt_inj.mp
  have hne : zI b ≠ -1 := by
    intro q
    have q2 := congrArg Int32.toInt q
    rw [zI_toInt hb] at q2
    exact h q2
  rw [Int32.toInt_div_of_ne_right _ _ hne, zI_toInt ha, zI_toInt hb, zI_toInt]
  have h1 : (a.tdiv b).natAbs ≤ a.natAbs := by
    rw [Int.natAbs_tdiv]
    exact Nat.div_le_self _ _
  have h2 := ha.1
  have h3 := ha.2
  constructor
  · omega
  · by_cases q : a = -2147483648
    · subst q
      by_cases q2 : b = 0
      · subst q2; decide
      · have : (Int.tdiv (-2147483648) b).natAbs ≤ 1073741824 ∨ b = 1 := by
          by_cases q3 : b = 1
          · exact Or.inr q3
          · left
            rw [Int.natAbs_tdiv]
            have : 2 ≤ b.natAbs := by omega
            exact Nat.le_trans (Nat.div_le_div_left this (by omega)) (by decide)
        rcases this with q4 | q4
        · omega
        · subst q4; decide
    · omega
theorem zI_rem {a b : Int} (ha : rg a) (hb : rg b) (h : b ≠ -1) : zI a - zI a / zI b * zI b = zI (a.tmod b) := by
  rw [zI_div ha hb h, zI_mul, zI_sub]
  congr 1
  have := Int.mul_tdiv_add_tmod a b
  rw [Int.mul_comm] at this
  omega
theorem zI_shl1 : ∀ j : Nat, j < 31 → (zI 1 <<< (zI (j : Int) &&& 31)) = zI (2 ^ j) := by decide +kernel
theorem zI_bit {k : Int} (h0 : 0 ≤ k) (h1 : k < 31) : (zI 1 <<< (zI k &&& 31)) = zI (2 ^ k.toNat) := by
  obtain ⟨j, rfl⟩ := Int.eq_ofNat_of_zero_le h0
  exact zI_shl1 j (by omega)
theorem aZ_at {f : Int → Int} {i : Int} (h0 : 0 ≤ i) : aZ f i.toNat = zI (f i) := by
  show zI (f ((i.toNat : Nat) : Int)) = zI (f i)
  rw [Int.toNat_of_nonneg h0]
theorem aL_at {f : Int → Int} {i : Int} (h0 : 0 ≤ i) : aL f i.toNat = zL (f i) := by
  show zL (f ((i.toNat : Nat) : Int)) = zL (f i)
  rw [Int.toNat_of_nonneg h0]
theorem aZ_upd {f : Int → Int} {i x : Int} (h0 : 0 ≤ i) : upd (aZ f) i.toNat (zI x) = aZ (uZ f i x) := by
  funext j
  show (if j = i.toNat then zI x else zI (f (j : Int))) = zI (if (j : Int) = i then x else f (j : Int))
  by_cases h : j = i.toNat
  · rw [if_pos h, if_pos (by omega)]
  · rw [if_neg h, if_neg (by omega)]
theorem aL_upd {f : Int → Int} {i x : Int} (h0 : 0 ≤ i) : vp_updL (aL f) i.toNat (zL x) = aL (uZ f i x) := by
  funext j
  show (if j = i.toNat then zL x else zL (f (j : Int))) = zL (if (j : Int) = i then x else f (j : Int))
  by_cases h : j = i.toNat
  · rw [if_pos h, if_pos (by omega)]
  · rw [if_neg h, if_neg (by omega)]
theorem aZ_ext {f g : Int → Int} {n : Nat} (h : ∀ j : Int, 0 ≤ j → f j = g j) : aZ f = aZ g := by
  funext j
  show zI (f j) = zI (g j)
  rw [h j (by omega)]
theorem aZ_of (f : Nat → Int32) : f = aZ (fun j => (f j.toNat).toInt) := by
  funext j
  show f j = zI ((f ((j : Int)).toNat).toInt)
  rw [Int.toNat_natCast]
  exact zI_of _
theorem zL_of {a : Int} (h : rg a) : (zI a).toInt64 = zL a := by
  have e : Int32.maxValue.toInt = 2147483647 := by decide +kernel
  have e2 : Int32.minValue.toInt = -2147483648 := by decide +kernel
  exact Int32.toInt64_ofInt (by rw [e2]; exact h.1) (by rw [e]; have := h.2; omega)
theorem zI_ofL (a : Int) : (zL a).toInt32 = zI a := Int64.toInt32_ofInt
theorem zL_lt {a b : Int} (ha : rgL a) (hb : rgL b) : zL a < zL b ↔ a < b := by rw [Int64.lt_iff_toInt_lt, zL_toInt ha, zL_toInt hb]
theorem zL_cmp {a b : Int} (h : rgL a ∧ rgL b) : lg_cmp (zL a) (zL b) = zI (if b < a then 1 else if a = b then 0 else -1) := by
  unfold lg_cmp
  by_cases h1 : b < a
  · rw [if_pos h1, if_pos (show zL b < zL a from (zL_lt h.2 h.1).mpr h1)]; rfl
  · rw [if_neg h1, if_neg (fun q : zL b < zL a => h1 ((zL_lt h.2 h.1).mp q))]
    by_cases h2 : a = b
    · rw [if_pos h2, if_pos (by rw [h2])]; rfl
    · rw [if_neg h2, if_neg (fun q => h2 ((zL_eq h.1 h.2).mp q))]; rfl
theorem zI_abs {a : Int} (h : rg a) : (if 0 ≤ zI a then zI a else 0 - zI a) = zI (if 0 ≤ a then a else -a) := by
  have e : (0 ≤ zI a) ↔ 0 ≤ a := by rw [zI_0]; exact zI_le ⟨by omega, by omega⟩ h
  by_cases q : 0 ≤ a
  · rw [if_pos q, if_pos (e.mpr q)]
  · rw [if_neg q, if_neg (fun z => q (e.mp z)), zI_0, zI_sub, Int.zero_sub]
theorem zI_max {a b : Int} (h : rg a ∧ rg b) : (if zI a < zI b then zI b else zI a) = zI (if a < b then b else a) := by
  by_cases q : a < b
  · rw [if_pos q, if_pos ((zI_lt h.1 h.2).mpr q)]
  · rw [if_neg q, if_neg (fun z => q ((zI_lt h.1 h.2).mp z))]
theorem zI_min {a b : Int} (h : rg a ∧ rg b) : (if zI b < zI a then zI b else zI a) = zI (if b < a then b else a) := by
  by_cases q : b < a
  · rw [if_pos q, if_pos ((zI_lt h.2 h.1).mpr q)]
  · rw [if_neg q, if_neg (fun z => q ((zI_lt h.2 h.1).mp z))]
def cpZ (f g : Int → Int) (n : Int) : Int → Int := fun j => if j < n then f j else g j
theorem aZ_cpy {f g : Int → Int} {n : Int} : va_cpy (aZ f) (aZ g) 0 0 n.toNat = aZ (cpZ f g n) := by
  funext k
  show (if 0 ≤ k ∧ k < 0 + n.toNat then zI (f ((0 + (k - 0) : Nat) : Int)) else zI (g (k : Int))) = zI (if (k : Int) < n then f k else g k)
  by_cases h : (k : Int) < n
  · rw [if_pos h, if_pos (by omega)]
    congr 2
    omega
  · rw [if_neg h, if_neg (by omega)]
theorem zI_c128 : ∀ n : Nat, n < 128 → ((zI (n : Int)).toUInt32 % 65536).toInt32 = zI (n : Int) ∧ vp_nar .char (zI (n : Int)) = zI (n : Int) := by decide +kernel
theorem zI_char {a : Int} (h : 0 ≤ a ∧ a < 128) : ((zI a).toUInt32 % 65536).toInt32 = zI a := by
  obtain ⟨j, rfl⟩ := Int.eq_ofNat_of_zero_le h.1
  exact (zI_c128 j (by omega)).1
theorem zI_narc {a : Int} (h : 0 ≤ a ∧ a < 128) : vp_nar .char (zI a) = zI a := by
  obtain ⟨j, rfl⟩ := Int.eq_ofNat_of_zero_le h.1
  exact (zI_c128 j (by omega)).2
abbrev kI (cI : ClassId) (q n : Nat) (f : Int → Int) : Nat × va_E := (q, .inl (cI, n, .inl (aZ f)))
abbrev kL (cJ : ClassId) (q n : Nat) (f : Int → Int) : Nat × va_E := (q, .inl (cJ, n, .inr (.inl (aL f))))
abbrev kR (cS : ClassId) (q n : Nat) (f : Nat → Option Nat) : Nat × va_E := (q, .inl (cS, n, .inr (.inr (.inr (.inr f)))))
theorem kI_congr {cI : ClassId} {q n : Nat} {f g : Int → Int} (h : aZ f = aZ g) : kI cI q n f = kI cI q n g := by
  show (q, (Sum.inl (cI, n, Sum.inl (aZ f)) : va_E)) = (q, Sum.inl (cI, n, Sum.inl (aZ g)))
  rw [h]
theorem kL_congr {cJ : ClassId} {q n : Nat} {f g : Int → Int} (h : aL f = aL g) : kL cJ q n f = kL cJ q n g := by
  show (q, (Sum.inl (cJ, n, Sum.inr (Sum.inl (aL f))) : va_E)) = (q, Sum.inl (cJ, n, Sum.inr (Sum.inl (aL g))))
  rw [h]
abbrev kO (q ci : Nat) (fs : List Value) : Nat × va_E := (q, .inr (ci, fs))
abbrev vI (a : Int) : Value := .int (zI a)
abbrev vL (a : Int) : Value := .long (zL a)
abbrev gty (cI cJ cC cS : ClassId) : List (ClassId × FieldType) := [(cI, .int), (cJ, .long), (cC, .char), (cS, .object RX5)]
abbrev gR (k mc ms : Nat) : Room := { frames := k, cells := mc, slots := ms, locals := 40 * k }
def gPre (dd : va_G) (cI cJ cC cS : ClassId) (ws : va_W) (sz : Nat) : State → Prop := fun U => U.heap.size = sz ∧ va_P dd vwCl ws U.heap ∧ va_K dd vwCl (gty cI cJ cC cS) U ∧ va_D (fun _ => True) ws
def gAt (dd : va_G) (cI cJ cC cS : ClassId) {S : Type} (w1 : S → va_W) (A : Nat → Prop) : S → State → Prop := fun u t => va_P dd vwCl (w1 u) t.heap ∧ va_K dd vwCl (gty cI cJ cC cS) t ∧ va_D A (w1 u)
theorem gPre_blind {dd : va_G} {cI cJ cC cS : ClassId} {av : List Value} {wc : va_W} {sz : Nat} : FrameBlind (va_Pc av (gPre dd cI cJ cC cS wc sz)) := fun a U g mk q => by
  obtain ⟨h1, h2, h3, h4, h5⟩ := q
  exact ⟨h1, h2, h3, va_K.moved (u := U) (U := U.calling g mk a) (Vm.Alike.refl U.vm) h4, h5⟩
theorem g_fm {α : Type} {is : List Nat} {ws wc : List α} (h : is.map (fun i => ws[i]?) = wc.map some) : is.filterMap (fun i => ws[i]?) = wc := by
  have h2 : (is.map (fun i => ws[i]?)).filterMap id = (wc.map some).filterMap id := by rw [h]
  rw [List.filterMap_map, List.filterMap_map] at h2
  have h3 : wc.filterMap (id ∘ some) = wc := by
    have : (id ∘ some : α → Option α) = some := rfl
    rw [this, List.filterMap_some]
  rw [h3] at h2
  exact h2

def gMi (l : Launch) (y : MethodName) (wsy : List Cond) (k mc ms : Nat) (dd : va_G) (cI cJ cC cS : ClassId) (av : List Value) (wc : va_W) (sz : Nat) {S : Type} (post : Int → S → Prop) (w1 : S → va_W) : Prop :=
  Met l y wsy (gR k mc ms) (va_Pc av (gPre dd cI cJ cC cS wc sz)) (va_Qi (fun r u => ∃ z : Int, r = zI z ∧ post z u) (gAt dd cI cJ cC cS w1 (va_A wc sz)) (va_A wc sz)) mc ms (va_A wc sz)
def gMl (l : Launch) (y : MethodName) (wsy : List Cond) (k mc ms : Nat) (dd : va_G) (cI cJ cC cS : ClassId) (av : List Value) (wc : va_W) (sz : Nat) {S : Type} (post : Int → S → Prop) (w1 : S → va_W) : Prop :=
  Met l y wsy (gR k mc ms) (va_Pc av (gPre dd cI cJ cC cS wc sz)) (va_Ql (fun r u => ∃ z : Int, r = zL z ∧ post z u) (gAt dd cI cJ cC cS w1 (va_A wc sz)) (va_A wc sz)) mc ms (va_A wc sz)
def gMv (l : Launch) (y : MethodName) (wsy : List Cond) (k mc ms : Nat) (dd : va_G) (cI cJ cC cS : ClassId) (av : List Value) (wc : va_W) (sz : Nat) {S : Type} (post : S → Prop) (w1 : S → va_W) : Prop :=
  Met l y wsy (gR k mc ms) (va_Pc av (gPre dd cI cJ cC cS wc sz)) (va_Qv post (gAt dd cI cJ cC cS w1 (va_A wc sz)) (va_A wc sz)) mc ms (va_A wc sz)
theorem g_of {Qc : (Nat → Prop) → Array Value → State → Outcome → State → Prop} {l : Launch} {y : MethodName} {wsy ws' : List Cond} {k mc ms : Nat} {dd : va_G} {cI cJ cC cS : ClassId} {av : List Value} {wc : va_W} {sz : Nat} {cc : ByteArray} {maxL : Nat} {ret : Option FieldType}
    (hy : plainName y.cls = true) (hw : wsy = Cond.code y cc maxL ret :: ws') (hav : (lg_sl av).length ≤ maxL)
    (body : ∀ (p : Program) (e : Env) (s : State) (m : MethodId) (args : Array Value) (below : List Frame) (meth : Method) (c : Code) (A : Nat → Prop) (Q : State → Prop), Q = MQ below (Qc A) args s mc ms A → p.tables.exec = Jvm.exec → c.code = cc → meth.sig.returnType = ret → (∀ w ∈ wsy, w.before args s = true) → s.vm.findClass y.cls = some m.cls → meth.locks = false → meth.name = y.name → c.maxLocals = maxL → ∀ (H : Heap) (locs : List Loc), va_P dd vwCl wc H → va_K dd vwCl (gty cI cJ cC cS) s → va_D A wc → (∀ q : Nat, s.heap.size ≤ q → A q) → va_S A s.heap H locs →
      ∀ ls : Array Slot, lv_has ls maxL (lv_args 0 av) → W p l e (gR k mc ms) s m args below meth c H locs 0 0 Q (F0 m 0 ls [])) :
    Met l y wsy (gR k mc ms) (va_Pc av (gPre dd cI cJ cC cS wc sz)) (Qc (va_A wc sz)) mc ms (va_A wc sz) := by
  refine Met.ofW (cc := cc) (maxL := maxL) (ret := ret) hy hw ?_
  intro p e s m args below meth c s₁ B hml hv
  obtain ⟨rfl, hsz, hP, hK, hD0⟩ := hv
  subst hsz
  have hD := hD0.self (sz := s.heap.size)
  have hl := lv_entry av (n := maxL) hav
  rw [lg_entry_eq]
  generalize (lg_sl av ++ List.replicate (maxL - (lg_sl av).length) Slot.unset).toArray = ls at hl ⊢
  exact body p e s m _ below meth c (va_A wc s.heap.size) _ rfl B.exec B.bytes B.returns (atoms_spec (ws := wsy) B.pre) (findClass_of_methodNamed B.named) B.notSynchronized (name_of_methodNamed B.named B.method).1 hml s.heap [] hP hK hD (fun q h => Or.inr h) va_S.rf ls hl
theorem gMi_of {l : Launch} {y : MethodName} {wsy ws' : List Cond} {k mc ms : Nat} {dd : va_G} {cI cJ cC cS : ClassId} {av : List Value} {wc : va_W} {sz : Nat} {S : Type} {post : Int → S → Prop} {w1 : S → va_W} {cc : ByteArray} {maxL : Nat} {ret : Option FieldType}
    (hy : plainName y.cls = true) (hw : wsy = Cond.code y cc maxL ret :: ws') (hav : (lg_sl av).length ≤ maxL)
    (body : ∀ (p : Program) (e : Env) (s : State) (m : MethodId) (args : Array Value) (below : List Frame) (meth : Method) (c : Code) (A : Nat → Prop) (Q : State → Prop), Q = MQ below (va_Qi (fun r u => ∃ z : Int, r = zI z ∧ post z u) (gAt dd cI cJ cC cS w1 A) A) args s mc ms A → p.tables.exec = Jvm.exec → c.code = cc → meth.sig.returnType = ret → (∀ w ∈ wsy, w.before args s = true) → s.vm.findClass y.cls = some m.cls → meth.locks = false → meth.name = y.name → c.maxLocals = maxL → ∀ (H : Heap) (locs : List Loc), va_P dd vwCl wc H → va_K dd vwCl (gty cI cJ cC cS) s → va_D A wc → (∀ q : Nat, s.heap.size ≤ q → A q) → va_S A s.heap H locs →
      ∀ ls : Array Slot, lv_has ls maxL (lv_args 0 av) → W p l e (gR k mc ms) s m args below meth c H locs 0 0 Q (F0 m 0 ls [])) :
    gMi l y wsy k mc ms dd cI cJ cC cS av wc sz post w1 := g_of (Qc := fun A => va_Qi (fun r u => ∃ z : Int, r = zI z ∧ post z u) (gAt dd cI cJ cC cS w1 A) A) hy hw hav body
theorem gMl_of {l : Launch} {y : MethodName} {wsy ws' : List Cond} {k mc ms : Nat} {dd : va_G} {cI cJ cC cS : ClassId} {av : List Value} {wc : va_W} {sz : Nat} {S : Type} {post : Int → S → Prop} {w1 : S → va_W} {cc : ByteArray} {maxL : Nat} {ret : Option FieldType}
    (hy : plainName y.cls = true) (hw : wsy = Cond.code y cc maxL ret :: ws') (hav : (lg_sl av).length ≤ maxL)
    (body : ∀ (p : Program) (e : Env) (s : State) (m : MethodId) (args : Array Value) (below : List Frame) (meth : Method) (c : Code) (A : Nat → Prop) (Q : State → Prop), Q = MQ below (va_Ql (fun r u => ∃ z : Int, r = zL z ∧ post z u) (gAt dd cI cJ cC cS w1 A) A) args s mc ms A → p.tables.exec = Jvm.exec → c.code = cc → meth.sig.returnType = ret → (∀ w ∈ wsy, w.before args s = true) → s.vm.findClass y.cls = some m.cls → meth.locks = false → meth.name = y.name → c.maxLocals = maxL → ∀ (H : Heap) (locs : List Loc), va_P dd vwCl wc H → va_K dd vwCl (gty cI cJ cC cS) s → va_D A wc → (∀ q : Nat, s.heap.size ≤ q → A q) → va_S A s.heap H locs →
      ∀ ls : Array Slot, lv_has ls maxL (lv_args 0 av) → W p l e (gR k mc ms) s m args below meth c H locs 0 0 Q (F0 m 0 ls [])) :
    gMl l y wsy k mc ms dd cI cJ cC cS av wc sz post w1 := g_of (Qc := fun A => va_Ql (fun r u => ∃ z : Int, r = zL z ∧ post z u) (gAt dd cI cJ cC cS w1 A) A) hy hw hav body
theorem gMv_of {l : Launch} {y : MethodName} {wsy ws' : List Cond} {k mc ms : Nat} {dd : va_G} {cI cJ cC cS : ClassId} {av : List Value} {wc : va_W} {sz : Nat} {S : Type} {post : S → Prop} {w1 : S → va_W} {cc : ByteArray} {maxL : Nat} {ret : Option FieldType}
    (hy : plainName y.cls = true) (hw : wsy = Cond.code y cc maxL ret :: ws') (hav : (lg_sl av).length ≤ maxL)
    (body : ∀ (p : Program) (e : Env) (s : State) (m : MethodId) (args : Array Value) (below : List Frame) (meth : Method) (c : Code) (A : Nat → Prop) (Q : State → Prop), Q = MQ below (va_Qv post (gAt dd cI cJ cC cS w1 A) A) args s mc ms A → p.tables.exec = Jvm.exec → c.code = cc → meth.sig.returnType = ret → (∀ w ∈ wsy, w.before args s = true) → s.vm.findClass y.cls = some m.cls → meth.locks = false → meth.name = y.name → c.maxLocals = maxL → ∀ (H : Heap) (locs : List Loc), va_P dd vwCl wc H → va_K dd vwCl (gty cI cJ cC cS) s → va_D A wc → (∀ q : Nat, s.heap.size ≤ q → A q) → va_S A s.heap H locs →
      ∀ ls : Array Slot, lv_has ls maxL (lv_args 0 av) → W p l e (gR k mc ms) s m args below meth c H locs 0 0 Q (F0 m 0 ls [])) :
    gMv l y wsy k mc ms dd cI cJ cC cS av wc sz post w1 := g_of (Qc := fun A => va_Qv post (gAt dd cI cJ cC cS w1 A) A) hy hw hav body
section ZK
variable {p : Program} {l : Launch} {e : Env} {R : Room} {s : State} {m : MethodId} {args : Array Value} {below : List Frame} {meth : Method} {c : Code} {H : Heap} {locs : List Loc} {cells slots : Nat} {Q : State → Prop} {pc : Nat} {ls : Array Slot} {rest : List Value} {cc : ByteArray}
theorem z_iconst (hx : p.tables.exec = Jvm.exec) (hb : c.code = cc) {n : Int} (hdg : decode cc pc = .ok (.iconst n, 1)) (k : W p l e R s m args below meth c H locs cells slots Q (F0 m (pc + 1) ls (.int (zI n) :: rest))) : W p l e R s m args below meth c H locs cells slots Q (F0 m pc ls rest) := lv_iconst hx hb hdg rfl k
theorem z_bipush (hx : p.tables.exec = Jvm.exec) (hb : c.code = cc) {n : Int} (hdg : decode cc pc = .ok (.bipush n, 2)) (hv : (Int8.ofInt n).toInt32 = zI n) (k : W p l e R s m args below meth c H locs cells slots Q (F0 m (pc + 2) ls (.int (zI n) :: rest))) : W p l e R s m args below meth c H locs cells slots Q (F0 m pc ls rest) := lv_bipush hx hb hdg hv k
theorem z_sipush (hx : p.tables.exec = Jvm.exec) (hb : c.code = cc) {n : Int} (hdg : decode cc pc = .ok (.sipush n, 3)) (hv : (Int16.ofInt n).toInt32 = zI n) (k : W p l e R s m args below meth c H locs cells slots Q (F0 m (pc + 3) ls (.int (zI n) :: rest))) : W p l e R s m args below meth c H locs cells slots Q (F0 m pc ls rest) := lv_sipush hx hb hdg hv k
theorem z_iadd (hx : p.tables.exec = Jvm.exec) (hb : c.code = cc) {a b z : Int} (hz : a + b = z) (hdg : decode cc pc = .ok (.iadd, 1)) (k : W p l e R s m args below meth c H locs cells slots Q (F0 m (pc + 1) ls (.int (zI z) :: rest))) : W p l e R s m args below meth c H locs cells slots Q (F0 m pc ls (.int (zI b) :: .int (zI a) :: rest)) := lv_iadd hx hb hdg (by rw [zI_add, hz]; exact k)
theorem z_isub (hx : p.tables.exec = Jvm.exec) (hb : c.code = cc) {a b z : Int} (hz : a - b = z) (hdg : decode cc pc = .ok (.isub, 1)) (k : W p l e R s m args below meth c H locs cells slots Q (F0 m (pc + 1) ls (.int (zI z) :: rest))) : W p l e R s m args below meth c H locs cells slots Q (F0 m pc ls (.int (zI b) :: .int (zI a) :: rest)) := lv_isub hx hb hdg (by rw [zI_sub, hz]; exact k)
theorem z_imul (hx : p.tables.exec = Jvm.exec) (hb : c.code = cc) {a b z : Int} (hz : a * b = z) (hdg : decode cc pc = .ok (.imul, 1)) (k : W p l e R s m args below meth c H locs cells slots Q (F0 m (pc + 1) ls (.int (zI z) :: rest))) : W p l e R s m args below meth c H locs cells slots Q (F0 m pc ls (.int (zI b) :: .int (zI a) :: rest)) := lv_imul hx hb hdg (by rw [zI_mul, hz]; exact k)
theorem z_ineg (hx : p.tables.exec = Jvm.exec) (hb : c.code = cc) {a z : Int} (hz : -a = z) (hdg : decode cc pc = .ok (.ineg, 1)) (k : W p l e R s m args below meth c H locs cells slots Q (F0 m (pc + 1) ls (.int (zI z) :: rest))) : W p l e R s m args below meth c H locs cells slots Q (F0 m pc ls (.int (zI a) :: rest)) := lv_ineg hx hb hdg (by rw [zI_neg, hz]; exact k)
theorem z_bin {va vb : Value} {z y : Int32} (hz : z = y) (k : W p l e R s m args below meth c H locs cells slots Q (F0 m pc ls (.int y :: rest))) : W p l e R s m args below meth c H locs cells slots Q (F0 m pc ls (.int z :: rest)) := by rw [hz]; exact k
theorem z_idiv (hx : p.tables.exec = Jvm.exec) (hb : c.code = cc) {a b z : Int} (ha : rg a ∧ rg b ∧ b ≠ 0 ∧ b ≠ -1) (hz : a.tdiv b = z) (hdg : decode cc pc = .ok (.idiv, 1)) (k : W p l e R s m args below meth c H locs cells slots Q (F0 m (pc + 1) ls (.int (zI z) :: rest))) : W p l e R s m args below meth c H locs cells slots Q (F0 m pc ls (.int (zI b) :: .int (zI a) :: rest)) := lv_idiv hx hb hdg (fun q => ha.2.2.1 ((zI_eq ha.2.1 ⟨by omega, by omega⟩).mp (q.trans zI_0))) (by rw [zI_div ha.1 ha.2.1 ha.2.2.2, hz]; exact k)
theorem z_irem (hx : p.tables.exec = Jvm.exec) (hb : c.code = cc) {a b z : Int} (ha : rg a ∧ rg b ∧ b ≠ 0 ∧ b ≠ -1) (hz : a.tmod b = z) (hdg : decode cc pc = .ok (.irem, 1)) (k : W p l e R s m args below meth c H locs cells slots Q (F0 m (pc + 1) ls (.int (zI z) :: rest))) : W p l e R s m args below meth c H locs cells slots Q (F0 m pc ls (.int (zI b) :: .int (zI a) :: rest)) := lv_irem hx hb hdg (fun q => ha.2.2.1 ((zI_eq ha.2.1 ⟨by omega, by omega⟩).mp (q.trans zI_0))) (by rw [zI_rem ha.1 ha.2.1 ha.2.2.2, hz]; exact k)
theorem z_shl1 (hx : p.tables.exec = Jvm.exec) (hb : c.code = cc) {k z : Int} (h : 0 ≤ k ∧ k < 31) (hz : 2 ^ k.toNat = z) (hdg : decode cc pc = .ok (.ishl, 1)) (kk : W p l e R s m args below meth c H locs cells slots Q (F0 m (pc + 1) ls (.int (zI z) :: rest))) : W p l e R s m args below meth c H locs cells slots Q (F0 m pc ls (.int (zI k) :: .int (zI 1) :: rest)) := lv_ishl hx hb hdg (by rw [zI_bit h.1 h.2, hz]; exact kk)
theorem z_iinc (hx : p.tables.exec = Jvm.exec) (hb : c.code = cc) {i nL k : Nat} {n a z : Int} {lv lv' : List (Nat × Value)} (hdg : decode cc pc = .ok (.iinc i n, 3)) (h : lv_has ls nL lv) (hk : lv[k]? = some (i, .int (zI a))) (hz : a + n = z) (hn : i < nL) (hl : (i, Value.int (zI z)) :: lv.filter (fun q => !(q.1 == i) && !(q.1 + 1 == i && q.2.category == 2)) = lv')
    (kk : ∀ ls' : Array Slot, lv_has ls' nL lv' → W p l e R s m args below meth c H locs cells slots Q (F0 m (pc + 3) ls' rest)) : W p l e R s m args below meth c H locs cells slots Q (F0 m pc ls rest) := lv_iinc hx hb hdg h hk (by show zI a + zI n = zI z; rw [zI_add, hz]) hn hl kk
theorem z_icmp_eq (hx : p.tables.exec = Jvm.exec) (hb : c.code = cc) {a b : Int} {off : Int} {tgt : Nat} (hdg : decode cc pc = .ok (.if_icmp .eq off, 3)) (ht : (pc : Int) + off = (tgt : Int)) (h : rg a ∧ rg b) (kt : a = b → W p l e R s m args below meth c H locs cells slots Q (F0 m tgt ls rest)) (kf : a ≠ b → W p l e R s m args below meth c H locs cells slots Q (F0 m (pc + 3) ls rest)) : W p l e R s m args below meth c H locs cells slots Q (F0 m pc ls (.int (zI b) :: .int (zI a) :: rest)) := lv_icmp_eq hx hb hdg ht (fun q => kt ((zI_eq h.1 h.2).mp q)) (fun q => kf (fun z => q ((zI_eq h.1 h.2).mpr z)))
theorem z_if_eq (hx : p.tables.exec = Jvm.exec) (hb : c.code = cc) {a : Int} {off : Int} {tgt : Nat} (hdg : decode cc pc = .ok (.ifCond .eq off, 3)) (ht : (pc : Int) + off = (tgt : Int)) (h0 : rg a) (kt : a = 0 → W p l e R s m args below meth c H locs cells slots Q (F0 m tgt ls rest)) (kf : a ≠ 0 → W p l e R s m args below meth c H locs cells slots Q (F0 m (pc + 3) ls rest)) : W p l e R s m args below meth c H locs cells slots Q (F0 m pc ls (.int (zI a) :: rest)) := by
  have h : rg a ∧ rg 0 := ⟨h0, by omega, by omega⟩
  refine lv_if_eq hx hb hdg ht ?_ ?_ <;> rw [zI_0]
  · exact fun q => kt ((zI_eq h.1 h.2).mp q)
  · exact fun q => kf (fun z => q ((zI_eq h.1 h.2).mpr z))
theorem z_icmp_ne (hx : p.tables.exec = Jvm.exec) (hb : c.code = cc) {a b : Int} {off : Int} {tgt : Nat} (hdg : decode cc pc = .ok (.if_icmp .ne off, 3)) (ht : (pc : Int) + off = (tgt : Int)) (h : rg a ∧ rg b) (kt : a ≠ b → W p l e R s m args below meth c H locs cells slots Q (F0 m tgt ls rest)) (kf : a = b → W p l e R s m args below meth c H locs cells slots Q (F0 m (pc + 3) ls rest)) : W p l e R s m args below meth c H locs cells slots Q (F0 m pc ls (.int (zI b) :: .int (zI a) :: rest)) := lv_icmp_ne hx hb hdg ht (fun q => kt (fun z => q ((zI_eq h.1 h.2).mpr z))) (fun q => kf (by first | exact (zI_eq h.1 h.2).mp q | exact (zI_eq h.1 h.2).mp (Classical.not_not.mp q)))
theorem z_if_ne (hx : p.tables.exec = Jvm.exec) (hb : c.code = cc) {a : Int} {off : Int} {tgt : Nat} (hdg : decode cc pc = .ok (.ifCond .ne off, 3)) (ht : (pc : Int) + off = (tgt : Int)) (h0 : rg a) (kt : a ≠ 0 → W p l e R s m args below meth c H locs cells slots Q (F0 m tgt ls rest)) (kf : a = 0 → W p l e R s m args below meth c H locs cells slots Q (F0 m (pc + 3) ls rest)) : W p l e R s m args below meth c H locs cells slots Q (F0 m pc ls (.int (zI a) :: rest)) := by
  have h : rg a ∧ rg 0 := ⟨h0, by omega, by omega⟩
  refine lv_if_ne hx hb hdg ht ?_ ?_ <;> rw [zI_0]
  · exact fun q => kt (fun z => q ((zI_eq h.1 h.2).mpr z))
  · exact fun q => kf (by first | exact (zI_eq h.1 h.2).mp q | exact (zI_eq h.1 h.2).mp (Classical.not_not.mp q))
theorem z_icmp_lt (hx : p.tables.exec = Jvm.exec) (hb : c.code = cc) {a b : Int} {off : Int} {tgt : Nat} (hdg : decode cc pc = .ok (.if_icmp .lt off, 3)) (ht : (pc : Int) + off = (tgt : Int)) (h : rg a ∧ rg b) (kt : a < b → W p l e R s m args below meth c H locs cells slots Q (F0 m tgt ls rest)) (kf : b ≤ a → W p l e R s m args below meth c H locs cells slots Q (F0 m (pc + 3) ls rest)) : W p l e R s m args below meth c H locs cells slots Q (F0 m pc ls (.int (zI b) :: .int (zI a) :: rest)) := lv_icmp_lt hx hb hdg ht (fun q => kt ((zI_lt h.1 h.2).mp q)) (fun q => kf (Int.not_lt.mp (fun z => q ((zI_lt h.1 h.2).mpr z))))
theorem z_if_lt (hx : p.tables.exec = Jvm.exec) (hb : c.code = cc) {a : Int} {off : Int} {tgt : Nat} (hdg : decode cc pc = .ok (.ifCond .lt off, 3)) (ht : (pc : Int) + off = (tgt : Int)) (h0 : rg a) (kt : a < 0 → W p l e R s m args below meth c H locs cells slots Q (F0 m tgt ls rest)) (kf : 0 ≤ a → W p l e R s m args below meth c H locs cells slots Q (F0 m (pc + 3) ls rest)) : W p l e R s m args below meth c H locs cells slots Q (F0 m pc ls (.int (zI a) :: rest)) := by
  have h : rg a ∧ rg 0 := ⟨h0, by omega, by omega⟩
  refine lv_if_lt hx hb hdg ht ?_ ?_ <;> rw [zI_0]
  · exact fun q => kt ((zI_lt h.1 h.2).mp q)
  · exact fun q => kf (Int.not_lt.mp (fun z => q ((zI_lt h.1 h.2).mpr z)))
theorem z_icmp_ge (hx : p.tables.exec = Jvm.exec) (hb : c.code = cc) {a b : Int} {off : Int} {tgt : Nat} (hdg : decode cc pc = .ok (.if_icmp .ge off, 3)) (ht : (pc : Int) + off = (tgt : Int)) (h : rg a ∧ rg b) (kt : b ≤ a → W p l e R s m args below meth c H locs cells slots Q (F0 m tgt ls rest)) (kf : a < b → W p l e R s m args below meth c H locs cells slots Q (F0 m (pc + 3) ls rest)) : W p l e R s m args below meth c H locs cells slots Q (F0 m pc ls (.int (zI b) :: .int (zI a) :: rest)) := lv_icmp_ge hx hb hdg ht (fun q => kt ((zI_le h.2 h.1).mp q)) (fun q => kf (Int.not_le.mp (fun z => q ((zI_le h.2 h.1).mpr z))))
theorem z_if_ge (hx : p.tables.exec = Jvm.exec) (hb : c.code = cc) {a : Int} {off : Int} {tgt : Nat} (hdg : decode cc pc = .ok (.ifCond .ge off, 3)) (ht : (pc : Int) + off = (tgt : Int)) (h0 : rg a) (kt : 0 ≤ a → W p l e R s m args below meth c H locs cells slots Q (F0 m tgt ls rest)) (kf : a < 0 → W p l e R s m args below meth c H locs cells slots Q (F0 m (pc + 3) ls rest)) : W p l e R s m args below meth c H locs cells slots Q (F0 m pc ls (.int (zI a) :: rest)) := by
  have h : rg a ∧ rg 0 := ⟨h0, by omega, by omega⟩
  refine lv_if_ge hx hb hdg ht ?_ ?_ <;> rw [zI_0]
  · exact fun q => kt ((zI_le h.2 h.1).mp q)
  · exact fun q => kf (Int.not_le.mp (fun z => q ((zI_le h.2 h.1).mpr z)))
theorem z_icmp_gt (hx : p.tables.exec = Jvm.exec) (hb : c.code = cc) {a b : Int} {off : Int} {tgt : Nat} (hdg : decode cc pc = .ok (.if_icmp .gt off, 3)) (ht : (pc : Int) + off = (tgt : Int)) (h : rg a ∧ rg b) (kt : b < a → W p l e R s m args below meth c H locs cells slots Q (F0 m tgt ls rest)) (kf : a ≤ b → W p l e R s m args below meth c H locs cells slots Q (F0 m (pc + 3) ls rest)) : W p l e R s m args below meth c H locs cells slots Q (F0 m pc ls (.int (zI b) :: .int (zI a) :: rest)) := lv_icmp_gt hx hb hdg ht (fun q => kt ((zI_lt h.2 h.1).mp q)) (fun q => kf (Int.not_lt.mp (fun z => q ((zI_lt h.2 h.1).mpr z))))
theorem z_if_gt (hx : p.tables.exec = Jvm.exec) (hb : c.code = cc) {a : Int} {off : Int} {tgt : Nat} (hdg : decode cc pc = .ok (.ifCond .gt off, 3)) (ht : (pc : Int) + off = (tgt : Int)) (h0 : rg a) (kt : 0 < a → W p l e R s m args below meth c H locs cells slots Q (F0 m tgt ls rest)) (kf : a ≤ 0 → W p l e R s m args below meth c H locs cells slots Q (F0 m (pc + 3) ls rest)) : W p l e R s m args below meth c H locs cells slots Q (F0 m pc ls (.int (zI a) :: rest)) := by
  have h : rg a ∧ rg 0 := ⟨h0, by omega, by omega⟩
  refine lv_if_gt hx hb hdg ht ?_ ?_ <;> rw [zI_0]
  · exact fun q => kt ((zI_lt h.2 h.1).mp q)
  · exact fun q => kf (Int.not_lt.mp (fun z => q ((zI_lt h.2 h.1).mpr z)))
theorem z_icmp_le (hx : p.tables.exec = Jvm.exec) (hb : c.code = cc) {a b : Int} {off : Int} {tgt : Nat} (hdg : decode cc pc = .ok (.if_icmp .le off, 3)) (ht : (pc : Int) + off = (tgt : Int)) (h : rg a ∧ rg b) (kt : a ≤ b → W p l e R s m args below meth c H locs cells slots Q (F0 m tgt ls rest)) (kf : b < a → W p l e R s m args below meth c H locs cells slots Q (F0 m (pc + 3) ls rest)) : W p l e R s m args below meth c H locs cells slots Q (F0 m pc ls (.int (zI b) :: .int (zI a) :: rest)) := lv_icmp_le hx hb hdg ht (fun q => kt ((zI_le h.1 h.2).mp q)) (fun q => kf (Int.not_le.mp (fun z => q ((zI_le h.1 h.2).mpr z))))
theorem z_if_le (hx : p.tables.exec = Jvm.exec) (hb : c.code = cc) {a : Int} {off : Int} {tgt : Nat} (hdg : decode cc pc = .ok (.ifCond .le off, 3)) (ht : (pc : Int) + off = (tgt : Int)) (h0 : rg a) (kt : a ≤ 0 → W p l e R s m args below meth c H locs cells slots Q (F0 m tgt ls rest)) (kf : 0 < a → W p l e R s m args below meth c H locs cells slots Q (F0 m (pc + 3) ls rest)) : W p l e R s m args below meth c H locs cells slots Q (F0 m pc ls (.int (zI a) :: rest)) := by
  have h : rg a ∧ rg 0 := ⟨h0, by omega, by omega⟩
  refine lv_if_le hx hb hdg ht ?_ ?_ <;> rw [zI_0]
  · exact fun q => kt ((zI_le h.1 h.2).mp q)
  · exact fun q => kf (Int.not_le.mp (fun z => q ((zI_le h.1 h.2).mpr z)))
theorem z_iald {D : va_G} {cl : List vw_C} {tys : List (ClassId × FieldType)} {ws : va_W} {a : Nat} (hx : p.tables.exec = Jvm.exec) (hb : c.code = cc) (hK : va_K D cl tys s) (hP : va_P D cl ws H) (q0 t0 : Nat) {cA : ClassId} {n : Nat} {f : Int → Int} (ha : ws[q0]? = some (a, .inl (cA, n, .inl (aZ f)))) (ht : tys[t0]? = some (cA, .int)) {i : Int} (h : 0 ≤ i ∧ i < n) (hn : n < 2147483648) (hdg : decode cc pc = .ok (.iaload, 1))
    (kk : W p l e R s m args below meth c H locs cells slots Q (F0 m (pc + 1) ls (.int (zI (f i)) :: rest))) : W p l e R s m args below meth c H locs cells slots Q (F0 m pc ls (.int (zI i) :: .ref a :: rest)) := by
  refine va_iald hx hb hK hP q0 t0 ha ht (zI_in h.1 h.2 hn) hdg ?_
  rw [zI_clamp h.1 (by omega), aZ_at h.1]
  exact kk
theorem z_cald {D : va_G} {cl : List vw_C} {tys : List (ClassId × FieldType)} {ws : va_W} {a : Nat} (hx : p.tables.exec = Jvm.exec) (hb : c.code = cc) (hK : va_K D cl tys s) (hP : va_P D cl ws H) (q0 t0 : Nat) {cA : ClassId} {n : Nat} {f : Int → Int} (ha : ws[q0]? = some (a, .inl (cA, n, .inl (aZ f)))) (ht : tys[t0]? = some (cA, .char)) {i : Int} (h : 0 ≤ i ∧ i < n) (hn : n < 2147483648) (hdg : decode cc pc = .ok (.caload, 1))
    (kk : W p l e R s m args below meth c H locs cells slots Q (F0 m (pc + 1) ls (.int (zI (f i)) :: rest))) : W p l e R s m args below meth c H locs cells slots Q (F0 m pc ls (.int (zI i) :: .ref a :: rest)) := by
  refine va_cald hx hb hK hP q0 t0 ha ht (zI_in h.1 h.2 hn) hdg ?_
  rw [zI_clamp h.1 (by omega), aZ_at h.1]
  exact kk
theorem z_lald {D : va_G} {cl : List vw_C} {tys : List (ClassId × FieldType)} {ws : va_W} {a : Nat} (hx : p.tables.exec = Jvm.exec) (hb : c.code = cc) (hK : va_K D cl tys s) (hP : va_P D cl ws H) (q0 t0 : Nat) {cA : ClassId} {n : Nat} {f : Int → Int} (ha : ws[q0]? = some (a, .inl (cA, n, .inr (.inl (aL f))))) (ht : tys[t0]? = some (cA, .long)) {i : Int} (h : 0 ≤ i ∧ i < n) (hn : n < 2147483648) (hdg : decode cc pc = .ok (.laload, 1))
    (kk : W p l e R s m args below meth c H locs cells slots Q (F0 m (pc + 1) ls (.long (zL (f i)) :: rest))) : W p l e R s m args below meth c H locs cells slots Q (F0 m pc ls (.int (zI i) :: .ref a :: rest)) := by
  refine va_lald hx hb hK hP q0 t0 ha ht (zI_in h.1 h.2 hn) hdg ?_
  rw [zI_clamp h.1 (by omega), aL_at h.1]
  exact kk
theorem z_iast {D : va_G} {cl : List vw_C} {tys : List (ClassId × FieldType)} {ws : va_W} {A : Nat → Prop} {H0 : Heap} {a : Nat} (hx : p.tables.exec = Jvm.exec) (hb : c.code = cc) (hK : va_K D cl tys s) (hP : va_P D cl ws H) (hD : va_D A ws) (hS : va_S A H0 H locs) (q0 t0 : Nat) {cA : ClassId} {n : Nat} {f : Int → Int} (ha : ws[q0]? = some (a, .inl (cA, n, .inl (aZ f)))) (ht : tys[t0]? = some (cA, .int)) {i x : Int} (h : 0 ≤ i ∧ i < n) (hn : n < 2147483648) (hdg : decode cc pc = .ok (.iastore, 1)) {ws' : va_W} (hw : ws.set q0 (a, .inl (cA, n, .inl (aZ (uZ f i x)))) = ws')
    (kk : ∀ (H1 : Heap) (locs1 : List Loc), va_P D cl ws' H1 → va_D A ws' → va_S A H0 H1 locs1 → W p l e R s m args below meth c H1 locs1 cells slots Q (F0 m (pc + 1) ls rest)) : W p l e R s m args below meth c H locs cells slots Q (F0 m pc ls (.int (zI x) :: .int (zI i) :: .ref a :: rest)) := by
  refine va_iast hx hb hK hP hD hS q0 t0 ha ht (zI_in h.1 h.2 hn) hdg (fun H1 locs1 h1 h2 h3 => ?_)
  rw [zI_clamp h.1 (by omega), aZ_upd h.1, hw] at h1 h2
  exact kk H1 locs1 h1 h2 h3
theorem z_last {D : va_G} {cl : List vw_C} {tys : List (ClassId × FieldType)} {ws : va_W} {A : Nat → Prop} {H0 : Heap} {a : Nat} (hx : p.tables.exec = Jvm.exec) (hb : c.code = cc) (hK : va_K D cl tys s) (hP : va_P D cl ws H) (hD : va_D A ws) (hS : va_S A H0 H locs) (q0 t0 : Nat) {cA : ClassId} {n : Nat} {f : Int → Int} (ha : ws[q0]? = some (a, .inl (cA, n, .inr (.inl (aL f))))) (ht : tys[t0]? = some (cA, .long)) {i x : Int} (h : 0 ≤ i ∧ i < n) (hn : n < 2147483648) (hdg : decode cc pc = .ok (.lastore, 1)) {ws' : va_W} (hw : ws.set q0 (a, .inl (cA, n, .inr (.inl (aL (uZ f i x))))) = ws')
    (kk : ∀ (H1 : Heap) (locs1 : List Loc), va_P D cl ws' H1 → va_D A ws' → va_S A H0 H1 locs1 → W p l e R s m args below meth c H1 locs1 cells slots Q (F0 m (pc + 1) ls rest)) : W p l e R s m args below meth c H locs cells slots Q (F0 m pc ls (.long (zL x) :: .int (zI i) :: .ref a :: rest)) := by
  refine va_last hx hb hK hP hD hS q0 t0 ha ht (zI_in h.1 h.2 hn) hdg (fun H1 locs1 h1 h2 h3 => ?_)
  rw [zI_clamp h.1 (by omega), aL_upd h.1, hw] at h1 h2
  exact kk H1 locs1 h1 h2 h3
theorem z_eq {g g2 : JFrame} (h : g = g2) (k : W p l e R s m args below meth c H locs cells slots Q g2) : W p l e R s m args below meth c H locs cells slots Q g := h ▸ k
/-- a world in another order, or a part of it -/
theorem z_iret {dd : va_G} {cI cJ cC cS : ClassId} {A : Nat → Prop} {mc ms : Nat} {S : Type} {post : Int → S → Prop} {w1 : S → va_W} (hx : p.tables.exec = Jvm.exec) (hb : c.code = cc) (hr : meth.sig.returnType = some .int) (hlocks : meth.locks = false) (hdg : decode cc pc = .ok (.ireturn, 1)) {z : Int} (u : S) (hK : va_K dd vwCl (gty cI cJ cC cS) s) (hS : va_S A s.heap H locs) (hc : cells ≤ mc ∧ slots ≤ ms) (hP : va_P dd vwCl (w1 u) H) (hD : va_D A (w1 u)) (hp : post z u) :
    W p l e R s m args below meth c H locs cells slots (MQ below (va_Qi (fun r u => ∃ z : Int, r = zI z ∧ post z u) (gAt dd cI cJ cC cS w1 A) A) args s mc ms A) (F0 m pc ls [.int (zI z)]) := by
  refine W.widen hc.1 hc.2 ?_
  exact W.iret hx hb hr (fun t ht hW => ⟨⟨_, u, rfl, ⟨z, rfl, hp⟩, by rw [ht]; exact hP, va_K.moved hW.alike hK, hD⟩, hS.F ht⟩) hS.2.2 hdg hlocks
theorem z_zret {dd : va_G} {cI cJ cC cS : ClassId} {A : Nat → Prop} {mc ms : Nat} {S : Type} {post : Int → S → Prop} {w1 : S → va_W} (hx : p.tables.exec = Jvm.exec) (hb : c.code = cc) (hr : meth.sig.returnType = some .boolean) (hlocks : meth.locks = false) (hdg : decode cc pc = .ok (.ireturn, 1)) {z : Int} (hz : z = 0 ∨ z = 1) (u : S) (hK : va_K dd vwCl (gty cI cJ cC cS) s) (hS : va_S A s.heap H locs) (hc : cells ≤ mc ∧ slots ≤ ms) (hP : va_P dd vwCl (w1 u) H) (hD : va_D A (w1 u)) (hp : post z u) :
    W p l e R s m args below meth c H locs cells slots (MQ below (va_Qi (fun r u => ∃ z : Int, r = zI z ∧ post z u) (gAt dd cI cJ cC cS w1 A) A) args s mc ms A) (F0 m pc ls [.int (zI z)]) := by
  refine W.widen hc.1 hc.2 ?_
  exact W.zret hx hb hr (by rcases hz with rfl | rfl <;> decide +kernel) (fun t ht hW => ⟨⟨_, u, rfl, ⟨z, rfl, hp⟩, by rw [ht]; exact hP, va_K.moved hW.alike hK, hD⟩, hS.F ht⟩) hS.2.2 hdg hlocks
theorem z_lret {dd : va_G} {cI cJ cC cS : ClassId} {A : Nat → Prop} {mc ms : Nat} {S : Type} {post : Int → S → Prop} {w1 : S → va_W} (hx : p.tables.exec = Jvm.exec) (hb : c.code = cc) (hr : meth.sig.returnType = some .long) (hlocks : meth.locks = false) (hdg : decode cc pc = .ok (.lreturn, 1)) {z : Int} (u : S) (hK : va_K dd vwCl (gty cI cJ cC cS) s) (hS : va_S A s.heap H locs) (hc : cells ≤ mc ∧ slots ≤ ms) (hP : va_P dd vwCl (w1 u) H) (hD : va_D A (w1 u)) (hp : post z u) :
    W p l e R s m args below meth c H locs cells slots (MQ below (va_Ql (fun r u => ∃ z : Int, r = zL z ∧ post z u) (gAt dd cI cJ cC cS w1 A) A) args s mc ms A) (F0 m pc ls [.long (zL z)]) := by
  refine W.widen hc.1 hc.2 ?_
  exact W.lret hx hb hr (fun t ht hW => ⟨⟨_, u, rfl, ⟨z, rfl, hp⟩, by rw [ht]; exact hP, va_K.moved hW.alike hK, hD⟩, hS.F ht⟩) hS.2.2 hdg hlocks
theorem z_vret {dd : va_G} {cI cJ cC cS : ClassId} {A : Nat → Prop} {mc ms : Nat} {S : Type} {post : S → Prop} {w1 : S → va_W} (hx : p.tables.exec = Jvm.exec) (hb : c.code = cc) (hr : meth.sig.returnType = none) (hlocks : meth.locks = false) (hdg : decode cc pc = .ok (.return_, 1)) (u : S) (hK : va_K dd vwCl (gty cI cJ cC cS) s) (hS : va_S A s.heap H locs) (hc : cells ≤ mc ∧ slots ≤ ms) (hP : va_P dd vwCl (w1 u) H) (hD : va_D A (w1 u)) (hp : post u) :
    W p l e R s m args below meth c H locs cells slots (MQ below (va_Qv post (gAt dd cI cJ cC cS w1 A) A) args s mc ms A) (F0 m pc ls []) := by
  refine W.widen hc.1 hc.2 ?_
  exact W.vret hx hb hr (fun t ht hW => ⟨⟨u, rfl, hp, by rw [ht]; exact hP, va_K.moved hW.alike hK, hD⟩, hS.F ht⟩) hS.2.2 hdg hlocks
theorem z_binl {z y : Int64} (hz : z = y) (k : W p l e R s m args below meth c H locs cells slots Q (F0 m pc ls (.long y :: rest))) : W p l e R s m args below meth c H locs cells slots Q (F0 m pc ls (.long z :: rest)) := by rw [hz]; exact k
theorem z_tabIn (hx : p.tables.exec = Jvm.exec) (hb : c.code = cc) {dflt lo hi : Int} {offs : Array Int} {len : Nat} {x k off : Int} {tgt : Nat} (hdg : decode cc pc = .ok (.tableswitch dflt lo hi offs, len)) (hg : rg k ∧ lo ≤ k ∧ k ≤ hi) (hv : x = k) (ho : offs[(k - lo).toNat]? = some off) (ht : (pc : Int) + off = (tgt : Int)) (kk : W p l e R s m args below meth c H locs cells slots Q (F0 m tgt ls rest)) : W p l e R s m args below meth c H locs cells slots Q (F0 m pc ls (.int (zI x) :: rest)) := by
  subst hv
  exact lv_tableIn hx hb hdg (by rw [zI_toInt hg.1]; omega) (by rw [zI_toInt hg.1]; omega) (by rw [zI_toInt hg.1]; exact ho) ht kk
theorem z_tabOut (hx : p.tables.exec = Jvm.exec) (hb : c.code = cc) {dflt lo hi : Int} {offs : Array Int} {len : Nat} {x : Int} {tgt : Nat} (hdg : decode cc pc = .ok (.tableswitch dflt lo hi offs, len)) (hg : rg x) (h : x < lo ∨ hi < x) (ht : (pc : Int) + dflt = (tgt : Int)) (kk : W p l e R s m args below meth c H locs cells slots Q (F0 m tgt ls rest)) : W p l e R s m args below meth c H locs cells slots Q (F0 m pc ls (.int (zI x) :: rest)) :=
  lv_tableOut hx hb hdg (by rw [zI_toInt hg]; exact h) ht kk
theorem z_look (hx : p.tables.exec = Jvm.exec) (hb : c.code = cc) {dflt : Int} {ps : Array (Int × Int)} {len : Nat} {x k off : Int} {tgt : Nat} (hdg : decode cc pc = .ok (.lookupswitch dflt ps, len)) (hv : x = k) (hg : rg k) (hp : (ps.toList.zip (ps.toList.drop 1)).all (fun (a, next) => a.1 < next.1) = true) (ho : Op.lookupswitch.offset ps.toList dflt k = off) (ht : (pc : Int) + off = (tgt : Int)) (kk : W p l e R s m args below meth c H locs cells slots Q (F0 m tgt ls rest)) : W p l e R s m args below meth c H locs cells slots Q (F0 m pc ls (.int (zI x) :: rest)) := by
  subst hv
  exact lv_lookup hx hb hdg hp (by rw [zI_toInt hg]; exact ho) ht kk
theorem z_cast {D : va_G} {cl : List vw_C} {tys : List (ClassId × FieldType)} {ws : va_W} {A : Nat → Prop} {H0 : Heap} {a : Nat} (hx : p.tables.exec = Jvm.exec) (hb : c.code = cc) (hK : va_K D cl tys s) (hP : va_P D cl ws H) (hD : va_D A ws) (hS : va_S A H0 H locs) (q0 t0 : Nat) {cA : ClassId} {n : Nat} {f : Int → Int} (ha : ws[q0]? = some (a, .inl (cA, n, .inl (aZ f)))) (ht : tys[t0]? = some (cA, .char)) {i x : Int} (h : 0 ≤ i ∧ i < n) (hc : 0 ≤ x ∧ x < 128) (hn : n < 2147483648) (hdg : decode cc pc = .ok (.castore, 1)) {ws' : va_W} (hw : ws.set q0 (a, .inl (cA, n, .inl (aZ (uZ f i x)))) = ws')
    (kk : ∀ (H1 : Heap) (locs1 : List Loc), va_P D cl ws' H1 → va_D A ws' → va_S A H0 H1 locs1 → W p l e R s m args below meth c H1 locs1 cells slots Q (F0 m (pc + 1) ls rest)) : W p l e R s m args below meth c H locs cells slots Q (F0 m pc ls (.int (zI x) :: .int (zI i) :: .ref a :: rest)) := by
  refine va_cast hx hb hK hP hD hS q0 t0 ha ht (zI_in h.1 h.2 hn) hdg (fun H1 locs1 h1 h2 h3 => ?_)
  rw [zI_clamp h.1 (by omega), zI_narc hc, aZ_upd h.1, hw] at h1 h2
  exact kk H1 locs1 h1 h2 h3
theorem z_copy {D : va_G} {cl : List vw_C} {tys : List (ClassId × FieldType)} {ws : va_W} {A : Nat → Prop} {H0 : Heap} {a : Nat} (hx : p.tables.exec = Jvm.exec) (hb : c.code = cc) (hml : c.maxLocals = ls.size) {own : String} {index : Nat} (hown : s.vm.findClass own = some m.cls) (hlink : (Cond.methodLink own index arraycopyName).before args s = true) (hnat : (Cond.native arraycopyName).before args s = true) (hstat : (Cond.static arraycopyName).before args s = true) (hini : (Cond.initialized "java/lang/System").before args s = true)
    (hK : va_K D cl tys s) (hP : va_P D cl ws H) (hD : va_D A ws) (hS : va_S A H0 H locs) (q0 q1 : Nat) {a0 : Nat} {c0 c1 : ClassId} {n0 n1 : Nat} {f g : Int → Int} (ha0 : ws[q0]? = some (a0, .inl (c0, n0, .inl (aZ f)))) (ha1 : ws[q1]? = some (a, .inl (c1, n1, .inl (aZ g)))) {t0 t1 : Nat} (ht0 : tys[t0]? = some (c0, .int)) (ht1 : tys[t1]? = some (c1, .int)) {n : Int} (h : 0 ≤ n ∧ n ≤ n0 ∧ n ≤ n1 ∧ n < 2147483648) (hframes : 1 ≤ R.frames) (hlocals : (rest.map fun v => v.category).sum + (nativeFrameWords "java/lang/System" "arraycopy" 5 + 11) ≤ R.locals) (hdg : decode cc pc = .ok (.invokestatic index, 3)) {ws' : va_W} (hw : ws.set q1 (a, .inl (c1, n1, .inl (aZ (cpZ f g n)))) = ws')
    (kk : ∀ (H1 : Heap) (locs1 : List Loc), va_P D cl ws' H1 → va_D A ws' → va_S A H0 H1 locs1 → W p l e R s m args below meth c H1 locs1 cells slots Q (F0 m (pc + 3) ls rest)) : W p l e R s m args below meth c H locs cells slots Q (F0 m pc ls (.int (zI n) :: .int (zI 0) :: .ref a :: .int (zI 0) :: .ref a0 :: rest)) := by
  have e0 : (zI 0).toNatClampNeg = 0 := by decide +kernel
  have e1 : ¬ zI 0 < 0 := by decide +kernel
  have en : (zI n).toNatClampNeg = n.toNat := zI_clamp h.1 h.2.2.2
  have en1 : ¬ zI n < 0 := by
    intro q
    rw [zI_0] at q
    have := (zI_lt ⟨by omega, by omega⟩ ⟨by omega, by omega⟩).mp q
    omega
  refine va_copyi hx hb hml hown hlink hnat hstat hini hK hP hD hS q0 q1 t0 t1 ha0 ha1 ht0 ht1 rfl e1 e1 en1 (by rw [e0, en]; omega) (by rw [e0, en]; omega) (fun _ _ => rfl) hframes hlocals hdg (fun H1 locs1 h1 h2 h3 => ?_)
  rw [e0, en, aZ_cpy, hw] at h1 h2
  exact kk H1 locs1 h1 h2 h3
theorem g_callVi {dd : va_G} {cI cJ cC cS : ClassId} {own C : String} {index : Nat} {y : MethodName} {bytes : ByteArray} {maxL nL k' mc ms n : Nat} {ret : Option FieldType} {wsy ws' Ts : List Cond} {b : Addr} {As st : List Value} {ws wc wr : va_W} {A0 : Nat → Prop} {S : Type} {post : Int → S → Prop} {w1 : S → va_W} {r0 : u_T × Nat} {fs : List Value}
    (hx : p.tables.exec = Jvm.exec) (hb : c.code = cc) (hml : c.maxLocals = nL) (hown : s.vm.findClass own = some m.cls) (hts : ∀ w ∈ Ts, w.before args s = true)
    (hK : va_K dd vwCl (gty cI cJ cC cS) s) (hP : va_P dd vwCl ws H) (hD : va_D A0 ws) (hS : va_S A0 s.heap H locs) (hA : ∀ q : Nat, s.heap.size ≤ q → A0 q)
    (isC isR : List Nat) (hC : isC.map (fun i => ws[i]?) = wc.map some) (hR : isR.map (fun i => ws[i]?) = wr.map some) (hn : va_nd isC = true ∧ va_nd isR = true) (hdis : ∀ i ∈ isR, i ∉ isC)
    (ci q0 : Nat) (hci : vwCl[ci]? = some (C, r0)) (hself : wc[q0]? = some (b, .inr (ci, fs)))
    (hM : gMi l y wsy k' mc ms dd cI cJ cC cS (.ref b :: As) wc H.size post w1)
    (hG : GoodIn Ts (wsV own index C y wsy)) (hw : wsy = Cond.code y bytes maxL ret :: ws') (hd : y.cls = C ∧ y.cls ≠ "java/lang/invoke/MethodHandle" ∧ y.cls ≠ "java/lang/invoke/VarHandle" ∧ (parseMethodDescriptor y.desc).map (fun d => d.parameters.length) = some n) (hmx : maxL ≤ 21) (hRf : k' + 1 ≤ R.frames) (hRl : 40 * (k' + 1) ≤ R.locals)
    (hf : cells + mc ≤ R.cells ∧ slots + ms ≤ R.slots) (hlen : As.length = n) (hsz : ls.size = nL) (hst : st = As.reverse ++ .ref b :: rest) (hcat : (rest.map fun v => v.category).sum ≤ 8) (hdg : decode cc pc = .ok (.invokevirtual index, 3))
    (kk : ∀ (z : Int) (u : S) (H1 : Heap) (locs1 : List Loc), post z u → va_P dd vwCl (wr ++ w1 u) H1 → va_D A0 (wr ++ w1 u) → va_S A0 s.heap H1 locs1 → W p l e R s m args below meth c H1 locs1 (cells + mc) (slots + ms) Q (F0 m (pc + 3) ls (.int (zI z) :: rest))) :
    W p l e R s m args below meth c H locs cells slots Q (F0 m pc ls st) := by
  have hPc := hP.sub (ws' := wc) isC (g_fm hC)
  have hDc := hD.sub (ws' := wc) isC hn.1 hC
  have hFc := va_free (wc := wc) hD hS hA isC hC
  subst hst
  refine va_calli (va_runV (As := As) (rest := rest) ⟨hx, hb, hml, hown, hts⟩ hM (cwV n hts hG hw rfl rfl hd ⟨hRf, by show 8 + (maxL + 11) + 40 * k' ≤ _; omega⟩) ⟨gPre_blind, va_recv hK hPc hci hself, fun U hU hW => ⟨rfl, by rw [hU], by rw [hU]; exact hPc, va_K.moved hW.alike hK, hDc.weaken (fun _ _ _ _ => trivial)⟩⟩ rfl hlen hsz rfl (lv_room hcat) hdg hf) hS (fun q _ h => hFc q h) hFc (fun r u t H1 locs1 ht hvm hp hB hz1 hk1 hS1 => ?_)
  obtain ⟨z, rfl, hp⟩ := hp
  obtain ⟨hP1, hK1, hD1⟩ := hB
  rw [ht] at hP1
  obtain ⟨hP2, hD2⟩ := va_join hP hD isC isR hC hR hn.2 hdis hk1 hFc hP1 hD1
  exact kk z u H1 locs1 hp hP2 hD2 hS1
theorem g_callVl {dd : va_G} {cI cJ cC cS : ClassId} {own C : String} {index : Nat} {y : MethodName} {bytes : ByteArray} {maxL nL k' mc ms n : Nat} {ret : Option FieldType} {wsy ws' Ts : List Cond} {b : Addr} {As st : List Value} {ws wc wr : va_W} {A0 : Nat → Prop} {S : Type} {post : Int → S → Prop} {w1 : S → va_W} {r0 : u_T × Nat} {fs : List Value}
    (hx : p.tables.exec = Jvm.exec) (hb : c.code = cc) (hml : c.maxLocals = nL) (hown : s.vm.findClass own = some m.cls) (hts : ∀ w ∈ Ts, w.before args s = true)
    (hK : va_K dd vwCl (gty cI cJ cC cS) s) (hP : va_P dd vwCl ws H) (hD : va_D A0 ws) (hS : va_S A0 s.heap H locs) (hA : ∀ q : Nat, s.heap.size ≤ q → A0 q)
    (isC isR : List Nat) (hC : isC.map (fun i => ws[i]?) = wc.map some) (hR : isR.map (fun i => ws[i]?) = wr.map some) (hn : va_nd isC = true ∧ va_nd isR = true) (hdis : ∀ i ∈ isR, i ∉ isC)
    (ci q0 : Nat) (hci : vwCl[ci]? = some (C, r0)) (hself : wc[q0]? = some (b, .inr (ci, fs)))
    (hM : gMl l y wsy k' mc ms dd cI cJ cC cS (.ref b :: As) wc H.size post w1)
    (hG : GoodIn Ts (wsV own index C y wsy)) (hw : wsy = Cond.code y bytes maxL ret :: ws') (hd : y.cls = C ∧ y.cls ≠ "java/lang/invoke/MethodHandle" ∧ y.cls ≠ "java/lang/invoke/VarHandle" ∧ (parseMethodDescriptor y.desc).map (fun d => d.parameters.length) = some n) (hmx : maxL ≤ 21) (hRf : k' + 1 ≤ R.frames) (hRl : 40 * (k' + 1) ≤ R.locals)
    (hf : cells + mc ≤ R.cells ∧ slots + ms ≤ R.slots) (hlen : As.length = n) (hsz : ls.size = nL) (hst : st = As.reverse ++ .ref b :: rest) (hcat : (rest.map fun v => v.category).sum ≤ 8) (hdg : decode cc pc = .ok (.invokevirtual index, 3))
    (kk : ∀ (z : Int) (u : S) (H1 : Heap) (locs1 : List Loc), post z u → va_P dd vwCl (wr ++ w1 u) H1 → va_D A0 (wr ++ w1 u) → va_S A0 s.heap H1 locs1 → W p l e R s m args below meth c H1 locs1 (cells + mc) (slots + ms) Q (F0 m (pc + 3) ls (.long (zL z) :: rest))) :
    W p l e R s m args below meth c H locs cells slots Q (F0 m pc ls st) := by
  have hPc := hP.sub (ws' := wc) isC (g_fm hC)
  have hDc := hD.sub (ws' := wc) isC hn.1 hC
  have hFc := va_free (wc := wc) hD hS hA isC hC
  subst hst
  refine va_calll (va_runV (As := As) (rest := rest) ⟨hx, hb, hml, hown, hts⟩ hM (cwV n hts hG hw rfl rfl hd ⟨hRf, by show 8 + (maxL + 11) + 40 * k' ≤ _; omega⟩) ⟨gPre_blind, va_recv hK hPc hci hself, fun U hU hW => ⟨rfl, by rw [hU], by rw [hU]; exact hPc, va_K.moved hW.alike hK, hDc.weaken (fun _ _ _ _ => trivial)⟩⟩ rfl hlen hsz rfl (lv_room hcat) hdg hf) hS (fun q _ h => hFc q h) hFc (fun r u t H1 locs1 ht hvm hp hB hz1 hk1 hS1 => ?_)
  obtain ⟨z, rfl, hp⟩ := hp
  obtain ⟨hP1, hK1, hD1⟩ := hB
  rw [ht] at hP1
  obtain ⟨hP2, hD2⟩ := va_join hP hD isC isR hC hR hn.2 hdis hk1 hFc hP1 hD1
  exact kk z u H1 locs1 hp hP2 hD2 hS1
theorem g_callVv {dd : va_G} {cI cJ cC cS : ClassId} {own C : String} {index : Nat} {y : MethodName} {bytes : ByteArray} {maxL nL k' mc ms n : Nat} {ret : Option FieldType} {wsy ws' Ts : List Cond} {b : Addr} {As st : List Value} {ws wc wr : va_W} {A0 : Nat → Prop} {S : Type} {post : S → Prop} {w1 : S → va_W} {r0 : u_T × Nat} {fs : List Value}
    (hx : p.tables.exec = Jvm.exec) (hb : c.code = cc) (hml : c.maxLocals = nL) (hown : s.vm.findClass own = some m.cls) (hts : ∀ w ∈ Ts, w.before args s = true)
    (hK : va_K dd vwCl (gty cI cJ cC cS) s) (hP : va_P dd vwCl ws H) (hD : va_D A0 ws) (hS : va_S A0 s.heap H locs) (hA : ∀ q : Nat, s.heap.size ≤ q → A0 q)
    (isC isR : List Nat) (hC : isC.map (fun i => ws[i]?) = wc.map some) (hR : isR.map (fun i => ws[i]?) = wr.map some) (hn : va_nd isC = true ∧ va_nd isR = true) (hdis : ∀ i ∈ isR, i ∉ isC)
    (ci q0 : Nat) (hci : vwCl[ci]? = some (C, r0)) (hself : wc[q0]? = some (b, .inr (ci, fs)))
    (hM : gMv l y wsy k' mc ms dd cI cJ cC cS (.ref b :: As) wc H.size post w1)
    (hG : GoodIn Ts (wsV own index C y wsy)) (hw : wsy = Cond.code y bytes maxL ret :: ws') (hd : y.cls = C ∧ y.cls ≠ "java/lang/invoke/MethodHandle" ∧ y.cls ≠ "java/lang/invoke/VarHandle" ∧ (parseMethodDescriptor y.desc).map (fun d => d.parameters.length) = some n) (hmx : maxL ≤ 21) (hRf : k' + 1 ≤ R.frames) (hRl : 40 * (k' + 1) ≤ R.locals)
    (hf : cells + mc ≤ R.cells ∧ slots + ms ≤ R.slots) (hlen : As.length = n) (hsz : ls.size = nL) (hst : st = As.reverse ++ .ref b :: rest) (hcat : (rest.map fun v => v.category).sum ≤ 8) (hdg : decode cc pc = .ok (.invokevirtual index, 3))
    (kk : ∀ (u : S) (H1 : Heap) (locs1 : List Loc), post u → va_P dd vwCl (wr ++ w1 u) H1 → va_D A0 (wr ++ w1 u) → va_S A0 s.heap H1 locs1 → W p l e R s m args below meth c H1 locs1 (cells + mc) (slots + ms) Q (F0 m (pc + 3) ls (rest))) :
    W p l e R s m args below meth c H locs cells slots Q (F0 m pc ls st) := by
  have hPc := hP.sub (ws' := wc) isC (g_fm hC)
  have hDc := hD.sub (ws' := wc) isC hn.1 hC
  have hFc := va_free (wc := wc) hD hS hA isC hC
  subst hst
  refine va_callv (va_runV (As := As) (rest := rest) ⟨hx, hb, hml, hown, hts⟩ hM (cwV n hts hG hw rfl rfl hd ⟨hRf, by show 8 + (maxL + 11) + 40 * k' ≤ _; omega⟩) ⟨gPre_blind, va_recv hK hPc hci hself, fun U hU hW => ⟨rfl, by rw [hU], by rw [hU]; exact hPc, va_K.moved hW.alike hK, hDc.weaken (fun _ _ _ _ => trivial)⟩⟩ rfl hlen hsz rfl (lv_room hcat) hdg hf) hS (fun q _ h => hFc q h) hFc (fun u t H1 locs1 ht hvm hp hB hz1 hk1 hS1 => ?_)
  skip
  obtain ⟨hP1, hK1, hD1⟩ := hB
  rw [ht] at hP1
  obtain ⟨hP2, hD2⟩ := va_join hP hD isC isR hC hR hn.2 hdis hk1 hFc hP1 hD1
  exact kk u H1 locs1 hp hP2 hD2 hS1
theorem g_callSi {dd : va_G} {cI cJ cC cS : ClassId} {own : String} {index : Nat} {y : MethodName} {bytes : ByteArray} {maxL nL k' mc ms n : Nat} {ret : Option FieldType} {wsy ws' Ts : List Cond} {As st : List Value} {ws wc wr : va_W} {A0 : Nat → Prop} {S : Type} {post : Int → S → Prop} {w1 : S → va_W} 
    (hx : p.tables.exec = Jvm.exec) (hb : c.code = cc) (hml : c.maxLocals = nL) (hown : s.vm.findClass own = some m.cls) (hts : ∀ w ∈ Ts, w.before args s = true)
    (hK : va_K dd vwCl (gty cI cJ cC cS) s) (hP : va_P dd vwCl ws H) (hD : va_D A0 ws) (hS : va_S A0 s.heap H locs) (hA : ∀ q : Nat, s.heap.size ≤ q → A0 q)
    (isC isR : List Nat) (hC : isC.map (fun i => ws[i]?) = wc.map some) (hR : isR.map (fun i => ws[i]?) = wr.map some) (hn : va_nd isC = true ∧ va_nd isR = true) (hdis : ∀ i ∈ isR, i ∉ isC)
    
    (hM : gMi l y wsy k' mc ms dd cI cJ cC cS As wc H.size post w1)
    (hG : GoodIn Ts (va_wsS own index y wsy)) (hw : wsy = Cond.code y bytes maxL ret :: ws') (hd : y.cls ≠ "java/lang/invoke/MethodHandle" ∧ y.cls ≠ "java/lang/invoke/VarHandle" ∧ (parseMethodDescriptor y.desc).map (fun d => d.parameters.length) = some n) (hmx : maxL ≤ 21) (hRf : k' + 1 ≤ R.frames) (hRl : 40 * (k' + 1) ≤ R.locals)
    (hf : cells + mc ≤ R.cells ∧ slots + ms ≤ R.slots) (hlen : As.length = n) (hsz : ls.size = nL) (hst : st = As.reverse ++ rest) (hcat : (rest.map fun v => v.category).sum ≤ 8) (hdg : decode cc pc = .ok (.invokestatic index, 3))
    (kk : ∀ (z : Int) (u : S) (H1 : Heap) (locs1 : List Loc), post z u → va_P dd vwCl (wr ++ w1 u) H1 → va_D A0 (wr ++ w1 u) → va_S A0 s.heap H1 locs1 → W p l e R s m args below meth c H1 locs1 (cells + mc) (slots + ms) Q (F0 m (pc + 3) ls (.int (zI z) :: rest))) :
    W p l e R s m args below meth c H locs cells slots Q (F0 m pc ls st) := by
  have hPc := hP.sub (ws' := wc) isC (g_fm hC)
  have hDc := hD.sub (ws' := wc) isC hn.1 hC
  have hFc := va_free (wc := wc) hD hS hA isC hC
  subst hst
  refine va_calli (va_runS (As := As) (rest := rest) ⟨hx, hb, hml, hown, hts⟩ hM (va_cwS n hts hG hw rfl rfl hd ⟨hRf, by show 8 + (maxL + 11) + 40 * k' ≤ _; omega⟩) ⟨gPre_blind, fun U hU hW => ⟨rfl, by rw [hU], by rw [hU]; exact hPc, va_K.moved hW.alike hK, hDc.weaken (fun _ _ _ _ => trivial)⟩⟩ rfl hlen hsz rfl (lv_room hcat) hdg hf) hS (fun q _ h => hFc q h) hFc (fun r u t H1 locs1 ht hvm hp hB hz1 hk1 hS1 => ?_)
  obtain ⟨z, rfl, hp⟩ := hp
  obtain ⟨hP1, hK1, hD1⟩ := hB
  rw [ht] at hP1
  obtain ⟨hP2, hD2⟩ := va_join hP hD isC isR hC hR hn.2 hdis hk1 hFc hP1 hD1
  exact kk z u H1 locs1 hp hP2 hD2 hS1
theorem g_callSl {dd : va_G} {cI cJ cC cS : ClassId} {own : String} {index : Nat} {y : MethodName} {bytes : ByteArray} {maxL nL k' mc ms n : Nat} {ret : Option FieldType} {wsy ws' Ts : List Cond} {As st : List Value} {ws wc wr : va_W} {A0 : Nat → Prop} {S : Type} {post : Int → S → Prop} {w1 : S → va_W} 
    (hx : p.tables.exec = Jvm.exec) (hb : c.code = cc) (hml : c.maxLocals = nL) (hown : s.vm.findClass own = some m.cls) (hts : ∀ w ∈ Ts, w.before args s = true)
    (hK : va_K dd vwCl (gty cI cJ cC cS) s) (hP : va_P dd vwCl ws H) (hD : va_D A0 ws) (hS : va_S A0 s.heap H locs) (hA : ∀ q : Nat, s.heap.size ≤ q → A0 q)
    (isC isR : List Nat) (hC : isC.map (fun i => ws[i]?) = wc.map some) (hR : isR.map (fun i => ws[i]?) = wr.map some) (hn : va_nd isC = true ∧ va_nd isR = true) (hdis : ∀ i ∈ isR, i ∉ isC)
    
    (hM : gMl l y wsy k' mc ms dd cI cJ cC cS As wc H.size post w1)
    (hG : GoodIn Ts (va_wsS own index y wsy)) (hw : wsy = Cond.code y bytes maxL ret :: ws') (hd : y.cls ≠ "java/lang/invoke/MethodHandle" ∧ y.cls ≠ "java/lang/invoke/VarHandle" ∧ (parseMethodDescriptor y.desc).map (fun d => d.parameters.length) = some n) (hmx : maxL ≤ 21) (hRf : k' + 1 ≤ R.frames) (hRl : 40 * (k' + 1) ≤ R.locals)
    (hf : cells + mc ≤ R.cells ∧ slots + ms ≤ R.slots) (hlen : As.length = n) (hsz : ls.size = nL) (hst : st = As.reverse ++ rest) (hcat : (rest.map fun v => v.category).sum ≤ 8) (hdg : decode cc pc = .ok (.invokestatic index, 3))
    (kk : ∀ (z : Int) (u : S) (H1 : Heap) (locs1 : List Loc), post z u → va_P dd vwCl (wr ++ w1 u) H1 → va_D A0 (wr ++ w1 u) → va_S A0 s.heap H1 locs1 → W p l e R s m args below meth c H1 locs1 (cells + mc) (slots + ms) Q (F0 m (pc + 3) ls (.long (zL z) :: rest))) :
    W p l e R s m args below meth c H locs cells slots Q (F0 m pc ls st) := by
  have hPc := hP.sub (ws' := wc) isC (g_fm hC)
  have hDc := hD.sub (ws' := wc) isC hn.1 hC
  have hFc := va_free (wc := wc) hD hS hA isC hC
  subst hst
  refine va_calll (va_runS (As := As) (rest := rest) ⟨hx, hb, hml, hown, hts⟩ hM (va_cwS n hts hG hw rfl rfl hd ⟨hRf, by show 8 + (maxL + 11) + 40 * k' ≤ _; omega⟩) ⟨gPre_blind, fun U hU hW => ⟨rfl, by rw [hU], by rw [hU]; exact hPc, va_K.moved hW.alike hK, hDc.weaken (fun _ _ _ _ => trivial)⟩⟩ rfl hlen hsz rfl (lv_room hcat) hdg hf) hS (fun q _ h => hFc q h) hFc (fun r u t H1 locs1 ht hvm hp hB hz1 hk1 hS1 => ?_)
  obtain ⟨z, rfl, hp⟩ := hp
  obtain ⟨hP1, hK1, hD1⟩ := hB
  rw [ht] at hP1
  obtain ⟨hP2, hD2⟩ := va_join hP hD isC isR hC hR hn.2 hdis hk1 hFc hP1 hD1
  exact kk z u H1 locs1 hp hP2 hD2 hS1
theorem g_callSv {dd : va_G} {cI cJ cC cS : ClassId} {own : String} {index : Nat} {y : MethodName} {bytes : ByteArray} {maxL nL k' mc ms n : Nat} {ret : Option FieldType} {wsy ws' Ts : List Cond} {As st : List Value} {ws wc wr : va_W} {A0 : Nat → Prop} {S : Type} {post : S → Prop} {w1 : S → va_W} 
    (hx : p.tables.exec = Jvm.exec) (hb : c.code = cc) (hml : c.maxLocals = nL) (hown : s.vm.findClass own = some m.cls) (hts : ∀ w ∈ Ts, w.before args s = true)
    (hK : va_K dd vwCl (gty cI cJ cC cS) s) (hP : va_P dd vwCl ws H) (hD : va_D A0 ws) (hS : va_S A0 s.heap H locs) (hA : ∀ q : Nat, s.heap.size ≤ q → A0 q)
    (isC isR : List Nat) (hC : isC.map (fun i => ws[i]?) = wc.map some) (hR : isR.map (fun i => ws[i]?) = wr.map some) (hn : va_nd isC = true ∧ va_nd isR = true) (hdis : ∀ i ∈ isR, i ∉ isC)
    
    (hM : gMv l y wsy k' mc ms dd cI cJ cC cS As wc H.size post w1)
    (hG : GoodIn Ts (va_wsS own index y wsy)) (hw : wsy = Cond.code y bytes maxL ret :: ws') (hd : y.cls ≠ "java/lang/invoke/MethodHandle" ∧ y.cls ≠ "java/lang/invoke/VarHandle" ∧ (parseMethodDescriptor y.desc).map (fun d => d.parameters.length) = some n) (hmx : maxL ≤ 21) (hRf : k' + 1 ≤ R.frames) (hRl : 40 * (k' + 1) ≤ R.locals)
    (hf : cells + mc ≤ R.cells ∧ slots + ms ≤ R.slots) (hlen : As.length = n) (hsz : ls.size = nL) (hst : st = As.reverse ++ rest) (hcat : (rest.map fun v => v.category).sum ≤ 8) (hdg : decode cc pc = .ok (.invokestatic index, 3))
    (kk : ∀ (u : S) (H1 : Heap) (locs1 : List Loc), post u → va_P dd vwCl (wr ++ w1 u) H1 → va_D A0 (wr ++ w1 u) → va_S A0 s.heap H1 locs1 → W p l e R s m args below meth c H1 locs1 (cells + mc) (slots + ms) Q (F0 m (pc + 3) ls (rest))) :
    W p l e R s m args below meth c H locs cells slots Q (F0 m pc ls st) := by
  have hPc := hP.sub (ws' := wc) isC (g_fm hC)
  have hDc := hD.sub (ws' := wc) isC hn.1 hC
  have hFc := va_free (wc := wc) hD hS hA isC hC
  subst hst
  refine va_callv (va_runS (As := As) (rest := rest) ⟨hx, hb, hml, hown, hts⟩ hM (va_cwS n hts hG hw rfl rfl hd ⟨hRf, by show 8 + (maxL + 11) + 40 * k' ≤ _; omega⟩) ⟨gPre_blind, fun U hU hW => ⟨rfl, by rw [hU], by rw [hU]; exact hPc, va_K.moved hW.alike hK, hDc.weaken (fun _ _ _ _ => trivial)⟩⟩ rfl hlen hsz rfl (lv_room hcat) hdg hf) hS (fun q _ h => hFc q h) hFc (fun u t H1 locs1 ht hvm hp hB hz1 hk1 hS1 => ?_)
  skip
  obtain ⟨hP1, hK1, hD1⟩ := hB
  rw [ht] at hP1
  obtain ⟨hP2, hD2⟩ := va_join hP hD isC isR hC hR hn.2 hdis hk1 hFc hP1 hD1
  exact kk u H1 locs1 hp hP2 hD2 hS1
theorem g_callIv {dd : va_G} {cI cJ cC cS : ClassId} {own : String} {index : Nat} {y : MethodName} {bytes : ByteArray} {maxL nL k' mc ms n : Nat} {wsy ws' Ts : List Cond} {b : Addr} {As st : List Value} {ws wc wr : va_W} {A0 : Nat → Prop} {S : Type} {post : S → Prop} {w1 : S → va_W} 
    (hx : p.tables.exec = Jvm.exec) (hb : c.code = cc) (hml : c.maxLocals = nL) (hown : s.vm.findClass own = some m.cls) (hts : ∀ w ∈ Ts, w.before args s = true)
    (hK : va_K dd vwCl (gty cI cJ cC cS) s) (hP : va_P dd vwCl ws H) (hD : va_D A0 ws) (hS : va_S A0 s.heap H locs) (hA : ∀ q : Nat, s.heap.size ≤ q → A0 q)
    (isC isR : List Nat) (hC : isC.map (fun i => ws[i]?) = wc.map some) (hR : isR.map (fun i => ws[i]?) = wr.map some) (hn : va_nd isC = true ∧ va_nd isR = true) (hdis : ∀ i ∈ isR, i ∉ isC)
    
    (hM : gMv l y wsy k' mc ms dd cI cJ cC cS (.ref b :: As) wc H.size post w1)
    (hG : GoodIn Ts wsy) (hw : wsy = Cond.code y bytes maxL none :: ws') (hini : (Cond.initialized y.cls).before args s = true) (hl1 : (Cond.methodLink own index y).before args s = true) (hin1 : (Cond.instanceMethod y).before args s = true) (hy1 : y.name = "<init>") (hd : y.cls ≠ "java/lang/invoke/MethodHandle" ∧ y.cls ≠ "java/lang/invoke/VarHandle" ∧ (parseMethodDescriptor y.desc).map (fun d => d.parameters.length) = some n) (hmx : maxL ≤ 21) (hRf : k' + 1 ≤ R.frames) (hRl : 40 * (k' + 1) ≤ R.locals)
    (hf : cells + mc ≤ R.cells ∧ slots + ms ≤ R.slots) (hlen : As.length = n) (hsz : ls.size = nL) (hst : st = As.reverse ++ .ref b :: rest) (hcat : (rest.map fun v => v.category).sum ≤ 8) (hdg : decode cc pc = .ok (.invokespecial index, 3))
    (kk : ∀ (u : S) (H1 : Heap) (locs1 : List Loc), post u → va_P dd vwCl (wr ++ w1 u) H1 → va_D A0 (wr ++ w1 u) → va_S A0 s.heap H1 locs1 → W p l e R s m args below meth c H1 locs1 (cells + mc) (slots + ms) Q (F0 m (pc + 3) ls (rest))) :
    W p l e R s m args below meth c H locs cells slots Q (F0 m pc ls st) := by
  have hPc := hP.sub (ws' := wc) isC (g_fm hC)
  have hDc := hD.sub (ws' := wc) isC hn.1 hC
  have hFc := va_free (wc := wc) hD hS hA isC hC
  subst hst
  refine va_callv (va_runI (As := As) (rest := rest) ⟨hx, hb, hml, hown, hts⟩ hM (cwI n hts hG hw rfl rfl hini hl1 hin1 hy1 hd ⟨hRf, by show 8 + (maxL + 11) + 40 * k' ≤ _; omega⟩) ⟨gPre_blind, fun U hU hW => ⟨rfl, by rw [hU], by rw [hU]; exact hPc, va_K.moved hW.alike hK, hDc.weaken (fun _ _ _ _ => trivial)⟩⟩ rfl hlen hsz rfl (lv_room hcat) hdg hf) hS (fun q _ h => hFc q h) hFc (fun u t H1 locs1 ht hvm hp hB hz1 hk1 hS1 => ?_)
  skip
  obtain ⟨hP1, hK1, hD1⟩ := hB
  rw [ht] at hP1
  obtain ⟨hP2, hD2⟩ := va_join hP hD isC isR hC hR hn.2 hdis hk1 hFc hP1 hD1
  exact kk u H1 locs1 hp hP2 hD2 hS1
end ZK
