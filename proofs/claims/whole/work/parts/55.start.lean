/-! the start of the law -/
def gPreS (dd : va_G) (cI cJ cC cS : ClassId) (b L : Nat) (xs : Nat → Int32) (wc : va_W) (sz : Nat) : State → Prop := fun U => gPre dd cI cJ cC cS wc sz U ∧ va_X b L xs U U.heap ∧ b < sz
theorem gPreS_blind {dd : va_G} {cI cJ cC cS : ClassId} {b L : Nat} {xs : Nat → Int32} {av : List Value} {wc : va_W} {sz : Nat} : FrameBlind (va_Pc av (gPreS dd cI cJ cC cS b L xs wc sz)) := fun a U g mk q => by
  obtain ⟨h1, ⟨h2, h3, h4, h5⟩, h6, h7⟩ := q
  exact ⟨h1, ⟨h2, h3, va_K.moved (u := U) (U := U.calling g mk a) (Vm.Alike.refl U.vm) h4, h5⟩, va_X.moved (u := U) (U := U.calling g mk a) (Vm.Alike.refl U.vm) h6, h7⟩
def gSi (l : Launch) (y : MethodName) (wsy : List Cond) (k mc ms : Nat) (dd : va_G) (cI cJ cC cS : ClassId) (b L : Nat) (xs : Nat → Int32) (av : List Value) (wc : va_W) (sz : Nat) {S : Type} (post : Int → S → Prop) (w1 : S → va_W) : Prop :=
  Met l y wsy (gR k mc ms) (va_Pc av (gPreS dd cI cJ cC cS b L xs wc sz)) (va_Qi (fun r u => ∃ z : Int, r = zI z ∧ post z u) (gAt dd cI cJ cC cS w1 (va_A wc sz)) (va_A wc sz)) mc ms (va_A wc sz)
section ZS
variable {p : Program} {l : Launch} {e : Env} {R : Room} {s : State} {m : MethodId} {args : Array Value} {below : List Frame} {meth : Method} {c : Code} {H : Heap} {locs : List Loc} {cells slots : Nat} {Q : State → Prop} {pc : Nat} {ls : Array Slot} {rest : List Value} {cc : ByteArray}
theorem g_scallSi {dd : va_G} {b9 L9 : Nat} {xs9 : Nat → Int32} {cI cJ cC cS : ClassId} {own : String} {index : Nat} {y : MethodName} {bytes : ByteArray} {maxL nL k' mc ms n : Nat} {ret : Option FieldType} {wsy ws' Ts : List Cond} {As st : List Value} {ws wc wr : va_W} {A0 : Nat → Prop} {S : Type} {post : Int → S → Prop} {w1 : S → va_W} 
    (hx : p.tables.exec = Jvm.exec) (hb : c.code = cc) (hml : c.maxLocals = nL) (hown : s.vm.findClass own = some m.cls) (hts : ∀ w ∈ Ts, w.before args s = true)
    (hK : va_K dd vwCl (gty cI cJ cC cS) s) (hP : va_P dd vwCl ws H) (hD : va_D A0 ws) (hS : va_S A0 s.heap H locs) (hA : ∀ q : Nat, s.heap.size ≤ q → A0 q) (hX : va_X b9 L9 xs9 s s.heap) (hbl : b9 < s.heap.size) (hbA : ¬ A0 b9)
    (isC isR : List Nat) (hC : isC.map (fun i => ws[i]?) = wc.map some) (hR : isR.map (fun i => ws[i]?) = wr.map some) (hn : va_nd isC = true ∧ va_nd isR = true) (hdis : ∀ i ∈ isR, i ∉ isC)
    
    (hM : gSi l y wsy k' mc ms dd cI cJ cC cS b9 L9 xs9 As wc H.size post w1)
    (hG : GoodIn Ts (va_wsS own index y wsy)) (hw : wsy = Cond.code y bytes maxL ret :: ws') (hd : y.cls ≠ "java/lang/invoke/MethodHandle" ∧ y.cls ≠ "java/lang/invoke/VarHandle" ∧ (parseMethodDescriptor y.desc).map (fun d => d.parameters.length) = some n) (hmx : maxL ≤ 21) (hRf : k' + 1 ≤ R.frames) (hRl : 40 * (k' + 1) ≤ R.locals)
    (hf : cells + mc ≤ R.cells ∧ slots + ms ≤ R.slots) (hlen : As.length = n) (hsz : ls.size = nL) (hst : st = As.reverse ++ rest) (hcat : (rest.map fun v => v.category).sum ≤ 8) (hdg : decode cc pc = .ok (.invokestatic index, 3))
    (kk : ∀ (z : Int) (u : S) (H1 : Heap) (locs1 : List Loc), post z u → va_P dd vwCl (wr ++ w1 u) H1 → va_D A0 (wr ++ w1 u) → va_S A0 s.heap H1 locs1 → W p l e R s m args below meth c H1 locs1 (cells + mc) (slots + ms) Q (F0 m (pc + 3) ls (.int (zI z) :: rest))) :
    W p l e R s m args below meth c H locs cells slots Q (F0 m pc ls st) := by
  have hPc := hP.sub (ws' := wc) isC (g_fm hC)
  have hDc := hD.sub (ws' := wc) isC hn.1 hC
  have hFc := va_free (wc := wc) hD hS hA isC hC
  subst hst
  refine va_calli (va_runS (As := As) (rest := rest) ⟨hx, hb, hml, hown, hts⟩ hM (va_cwS n hts hG hw rfl rfl hd ⟨hRf, by show 8 + (maxL + 11) + 40 * k' ≤ _; omega⟩) ⟨gPreS_blind, fun U hU hW => ⟨rfl, ⟨by rw [hU], by rw [hU]; exact hPc, va_K.moved hW.alike hK, hDc.weaken (fun _ _ _ _ => trivial)⟩, by rw [hU]; exact (va_X.moved hW.alike hX).kept (hS.2.1 b9 hbl hbA), Nat.lt_of_lt_of_le hbl hS.1⟩⟩ rfl hlen hsz rfl (lv_room hcat) hdg hf) hS (fun q _ h => hFc q h) hFc (fun r u t H1 locs1 ht hvm hp hB hz1 hk1 hS1 => ?_)
  obtain ⟨z, rfl, hp⟩ := hp
  obtain ⟨hP1, hK1, hD1⟩ := hB
  rw [ht] at hP1
  obtain ⟨hP2, hD2⟩ := va_join hP hD isC isR hC hR hn.2 hdis hk1 hFc hP1 hD1
  exact kk z u H1 locs1 hp hP2 hD2 hS1
end ZS
set_option maxHeartbeats 4000000 in
set_option maxRecDepth 100000 in
theorem c_L_cell (l : Launch) (dd : va_G) (cI cJ cC cS : ClassId) (b L : Nat) (xs : Nat → Int32) (sz : Nat) (hL : L < 2147483648) : gSi l yL_cell wsL_cell 1 0 0 dd cI cJ cC cS b L xs [.ref b, vI 0] [] sz (fun (z : Int) (_ : Unit) => z = if (L : Int) ≤ 0 then 0 else sc xs 0) (fun (_ : Unit) => []) := by
  unfold gSi
  refine Met.ofW (cc := cL_cell) (maxL := 2) (ret := some .int) (by decide) rfl ?_
  intro p e s m args below meth c s₁ B hml hv
  obtain ⟨rfl, ⟨hsz, hP, hK, hD0⟩, hX, hbl⟩ := hv
  have hx := B.exec
  have hb := B.bytes
  have hr := B.returns
  have hlocks := B.notSynchronized
  subst hsz
  have hD := hD0.self (sz := s.heap.size)
  have hS : va_S (va_A [] s.heap.size) s.heap s.heap [] := va_S.rf
  have hbA : ¬ va_A [] s.heap.size b := fun q => by
    rcases q with ⟨k, x, h⟩ | q
    · simp at h
    · omega
  have hl := lv_entry ([.ref b, vI 0]) (n := 2) (Nat.le_of_ble_eq_true rfl)
  rw [lg_entry_eq]
  generalize (lg_sl ([.ref b, vI 0]) ++ List.replicate (2 - (lg_sl ([.ref b, vI 0])).length) Slot.unset).toArray = ls at hl ⊢
  have hl : lv_has ls 2 [(0, .ref b), (1, vI 0)] := hl
  refine lv_iload_n hx hb dL_cell_0 rfl (lv_at hl 1 rfl) ?_
  refine lv_aload_n hx hb dL_cell_1 rfl (lv_at hl 0 rfl) ?_
  refine va_slen hx hb hX hbl hbA hS dL_cell_2 ?_
  refine z_bin (va := .null) (vb := .null) (y := zI (L : Int)) Int32.ofInt_eq_ofNat.symm ?_
  refine z_icmp_ge (tgt := 12) hx hb dL_cell_3 (by decide) (by omega) (fun c3 => ?_) (fun c3 => ?_)
  · refine z_iconst hx hb dL_cell_12 ?_
    refine z_iret (z := 0) hx hb hr hlocks dL_cell_13 () hK hS ⟨Nat.le_refl _, Nat.le_refl _⟩ hP hD ?_
    exact (if_pos c3).symm
  · refine lv_aload_n hx hb dL_cell_6 rfl (lv_at hl 0 rfl) ?_
    refine lv_iload_n hx hb dL_cell_7 rfl (lv_at hl 1 rfl) ?_
    refine z_sld hx hb hX hbl hbA hS (i := 0) (by omega) hL dL_cell_8 ?_
    refine lv_goto (tgt := 13) hx hb dL_cell_9 (by decide) ?_
    refine z_iret (z := sc xs 0) hx hb hr hlocks dL_cell_13 () hK hS ⟨Nat.le_refl _, Nat.le_refl _⟩ hP hD ?_
    exact (if_neg (by omega)).symm
theorem arr_k {args : Array Value} {s : State} {ty : FieldType} (h : (Cond.arrayClass ty).before args s = true) : ∃ c, s.vm.findClass ("[" ++ ty.toString) = some c ∧ ArrOfT s c ty := by
  obtain ⟨c, k, comp, h1, h2, h3⟩ := Cond.arrayClass_spec h
  exact ⟨c, h1, fun n z => ⟨(fun k h => by cases h), k, h2, comp, h3⟩⟩
theorem tb (i : Nat) {w : Cond} (h : tables_1[i]? = some w) : w ∈ lw_tbl := List.mem_append_right _ (List.mem_of_getElem? h)
/-! THE CLAIM OUT OF ONE WALK OF THE LAW'S BODY. Your part is whole_start (and what it stands on); all else here is the same for every law, but numbers. -/
def R_law : String := "ParkingRulesLaw"
def lw_P (b : Addr) (xs : List Int32) (args : Array Value) (s : State) : Prop := args = #[.ref b] ∧ s.IntsAt b xs ∧ xs.length ≤ 1537 ∧ (Jvm.Cond.and given_1 narrow_1).before args s = true
def lw_Q (_ : Array Value) (s : State) (o : Outcome) (t : State) : Prop := o = .returned (some (.int 1)) ∧ Framed s o t [] 601024 7293000
def lw_Z (below : List Frame) (a : Array Value) (s : State) : State → Prop := fun t => ∃ o, t.status = .running ∧ Ended t below o ∧ lw_Q a s o t
/-- the law's own end, with 1 on the stack, nothing written that was there before, its room as the claim has it -/
theorem lw_ret {p : Program} {l : Launch} {e : Env} {s : State} {m : MethodId} {below : List Frame} {meth : Method} {c : Code} {b : Nat} (hx : p.tables.exec = Jvm.exec) (hb : c.code = code) (hr : meth.sig.returnType = ret) (hlocks : meth.locks = false) {pc : Nat} {H : Heap} {ls : Array Slot} (hdg : decode code pc = .ok (.ireturn, 1)) : W p l e room_1 s m #[Value.ref b] below meth c H [] 601024 7293000 (lw_Z below #[Value.ref b] s) (F0 m pc ls [.int 1]) := by
  intro T hT X
  obtain ⟨fs, hret, hrun, hended, hW, hframe⟩ := X.leave (v := some (.int 1)) (hlocks := hlocks) (fun h => by rw [hr] at h; cases h)
  have hmeth' : T.vm.method? m = some meth := X.method'
  refine ⟨T.setFrames fs, ?_, .returned (some (.int 1)), hrun, hended, rfl, ⟨_, rfl⟩, hW, hframe⟩
  jvm_step X.here [X.here.top, hx, hb, hdg, hmeth', hr, ret, narrow_b1]
  (try refine ⟨rfl, ?_⟩); (try refine ⟨rfl, ?_⟩)
  first | (intro acts; rw [hret _ acts rfl rfl rfl]) | rw [hret _ _ rfl rfl rfl]
  exact Steps.refl _
/-- what holds at the law's entry: the machine, the code, the tables' words (any of lw_tbl by 'hts w (by decide +kernel)'), the script of L ints xs at the cell b, what the Statement gives of the start (any of its parts by flat_of_before) -/
def lw_At (p : Program) (s : State) (m : MethodId) (meth : Method) (c : Code) (b L : Nat) (xs : Nat → Int32) : Prop :=
  p.tables.exec = Jvm.exec ∧ c.code = code ∧ meth.sig.returnType = ret ∧ c.maxLocals = 7 ∧ s.vm.findClass R_law = some m.cls ∧ (∀ w ∈ lw_tbl, w.before #[Value.ref b] s = true) ∧ va_X b L xs s s.heap ∧ b < s.heap.size ∧ meth.locks = false ∧ (Jvm.Cond.and given_1 narrow_1).before #[Value.ref b] s = true
set_option maxHeartbeats 8000000 in
set_option maxRecDepth 100000 in
/-- the law, from its entry -/
theorem whole_start {p : Program} {e : Env} {s : State} {m : MethodId} {below : List Frame} {meth : Method} {c : Code} (l : Launch) (hflags : l.flags = flags0) {b L : Nat} {xs : Nat → Int32} (hL : L ≤ 1537) (C0 : lw_At p s m meth c b L xs) : W p l e room_1 s m #[Value.ref b] below meth c s.heap [] 0 0 (lw_Z below #[Value.ref b] s) (entryFrame m ([Value.ref b] : List Value).toArray 7) := by
  obtain ⟨hx, hb, hr, hml, hownL, htsT, hX, hbl, hlocks, hgv⟩ := id C0
  have hown : s.vm.findClass RL = some m.cls := hownL
  have hts : ∀ w ∈ wsL_law, w.before #[Value.ref b] s = true := fun w h => htsT w (wsL_law_in w h)
  have hfl : l.stackTraces = false := by
    unfold Launch.stackTraces
    rw [hflags]
    decide +kernel
  have hLL : L < 2147483648 := by omega
  obtain ⟨c0, i0, hKn0⟩ := u_known (C := RX0) (T := TX0) (N := 2) (n := 2) htsT inX0 (htsT (.instantiable RX0 2) (tb 66 (by decide +kernel)))
  obtain ⟨c1, i1, hKn1⟩ := u_known (C := RX1) (T := TX1) (N := 10) (n := 10) htsT inX1 (htsT (.instantiable RX1 10) (tb 83 (by decide +kernel)))
  obtain ⟨c2, i2, hKn2⟩ := u_known (C := RX2) (T := TX2) (N := 2) (n := 2) htsT inX2 (htsT (.instantiable RX2 2) (tb 126 (by decide +kernel)))
  obtain ⟨c3, i3, hKn3⟩ := u_known (C := RX3) (T := TX3) (N := 3) (n := 3) htsT inX3 (htsT (.instantiable RX3 3) (tb 140 (by decide +kernel)))
  obtain ⟨c4, i4, hKn4⟩ := u_known (C := RX4) (T := TX4) (N := 7) (n := 7) htsT inX4 (htsT (.instantiable RX4 7) (tb 158 (by decide +kernel)))
  obtain ⟨c5, i5, hKn5⟩ := u_known (C := RX5) (T := TX5) (N := 5) (n := 5) htsT inX5 (htsT (.instantiable RX5 5) (tb 33 (by decide +kernel)))
  obtain ⟨c6, i6, hKn6⟩ := u_known (C := RX6) (T := TX6) (N := 10) (n := 10) htsT inX6 (htsT (.instantiable RX6 10) (tb 19 (by decide +kernel)))
  obtain ⟨c7, i7, hKn7⟩ := u_known (C := RX7) (T := TX7) (N := 11) (n := 11) htsT inX7 (htsT (.instantiable RX7 11) (tb 796 (by decide +kernel)))
  obtain ⟨dC, dI, hKc⟩ : ∃ (dC : Nat → ClassId) (dI : Nat → Nat → Nat), ∀ (k : Nat) (q : vw_C), vwCl[k]? = some q → u_Kn s q.1 q.2.1 q.2.2 (dC k) (dI k) := by
    refine ⟨fun k => if k = 0 then c0 else if k = 1 then c1 else if k = 2 then c2 else if k = 3 then c3 else if k = 4 then c4 else if k = 5 then c5 else if k = 6 then c6 else c7, fun k => if k = 0 then i0 else if k = 1 then i1 else if k = 2 then i2 else if k = 3 then i3 else if k = 4 then i4 else if k = 5 then i5 else if k = 6 then i6 else i7, ?_⟩
    intro k q hq
    match k, hq with
    | 0, hq => cases hq; exact hKn0
    | 1, hq => cases hq; exact hKn1
    | 2, hq => cases hq; exact hKn2
    | 3, hq => cases hq; exact hKn3
    | 4, hq => cases hq; exact hKn4
    | 5, hq => cases hq; exact hKn5
    | 6, hq => cases hq; exact hKn6
    | 7, hq => cases hq; exact hKn7
    | k + 8, hq => simp [vwCl] at hq
  obtain ⟨cI, fI, aI⟩ := arr_k (htsT (Cond.arrayClass .int) (tb 64 (by decide +kernel)))
  obtain ⟨cJ, fJ, aJ⟩ := arr_k (htsT (Cond.arrayClass .long) (tb 138 (by decide +kernel)))
  obtain ⟨cC, fC, aC⟩ := arr_k (htsT (Cond.arrayClass .char) (tb 218 (by decide +kernel)))
  have hAO : va_AO RX5 s := va_AO.of (htsT (Cond.arrayOver (.object RX5)) (tb 72 (by decide +kernel)))
  obtain ⟨cmp, cS, kS, g1, g2, g3, g4, g5⟩ := Cond.arrayOver_spec (htsT (Cond.arrayOver (.object RX5)) (tb 72 (by decide +kernel)))
  obtain ⟨dd, hdd⟩ : ∃ dd : va_G, dd = (dC, dI) := ⟨_, rfl⟩
  have hK : va_K dd vwCl (gty cI cJ cC cS) s := by
    subst hdd
    refine ⟨hKc, fun k q h => ?_⟩
    match k, h with
    | 0, h => cases h; exact ⟨aI, fI⟩
    | 1, h => cases h; exact ⟨aJ, fJ⟩
    | 2, h => cases h; exact ⟨aC, fC⟩
    | 3, h => cases h; exact ⟨fun n z => ⟨(fun k h => by cases h), kS, g3, cmp, g4⟩, kS, cmp, g3, g4, g1, g5⟩
    | k + 4, h => simp [gty] at h
  obtain ⟨A, hAe⟩ : ∃ A : Nat → Prop, A = fun q : Nat => s.heap.size ≤ q := ⟨_, rfl⟩
  have hA : ∀ q : Nat, s.heap.size ≤ q → A q := fun q h => by rw [hAe]; exact h
  have hnA : ∀ a : Nat, a < s.heap.size → ¬ A a := fun a h q => by rw [hAe] at q; exact absurd q (Nat.not_le.mpr h)
  have hbA : ¬ A b := hnA b hbl
  have hns := flat_of_before _ hgv
  obtain ⟨_, _, _, a286, _, _, _, _, _, s286⟩ := Cond.stringRef_spec hKn6.2.1 (htsT (Cond.stringRef RX6 286 "there is nothing with this number") (tb 528 (by decide +kernel)))
  obtain ⟨_, _, _, a293, _, _, _, _, _, s293⟩ := Cond.stringRef_spec hKn6.2.1 (htsT (Cond.stringRef RX6 293 "an argument is out of its range") (tb 481 (by decide +kernel)))
  obtain ⟨_, _, _, a298, _, _, _, _, _, s298⟩ := Cond.stringRef_spec hKn6.2.1 (htsT (Cond.stringRef RX6 298 "the call is not possible now") (tb 555 (by decide +kernel)))
  have hE : gE A s s.heap := by
    refine ⟨vx_Zqof (htsT (Cond.laysStatic Bundle.tN "UNASSIGNED_STACK" Bundle.steD) (tb 467 (by decide +kernel))) (htsT (Cond.initialized Bundle.tN) (tb 10 (by decide +kernel))) (hns (Cond.isRef (.static Bundle.tN "UNASSIGNED_STACK" Bundle.steD)) (by decide +kernel)) hnA, vx_Zqof (htsT (Cond.laysStatic Bundle.tN "SUPPRESSED_SENTINEL" Bundle.listD) (tb 469 (by decide +kernel))) (htsT (Cond.initialized Bundle.tN) (tb 10 (by decide +kernel))) (hns (Cond.isRef (.static Bundle.tN "SUPPRESSED_SENTINEL" Bundle.listD)) (by decide +kernel)) hnA, ⟨a286, vk_R.of (htsT (Cond.stringRef RX6 286 "there is nothing with this number") (tb 528 (by decide +kernel))) s286⟩, ⟨a293, vk_R.of (htsT (Cond.stringRef RX6 293 "an argument is out of its range") (tb 481 (by decide +kernel))) s293⟩, ⟨a298, vk_R.of (htsT (Cond.stringRef RX6 298 "the call is not possible now") (tb 555 (by decide +kernel))) s298⟩, ?_⟩
    unfold xB
    exact List.forall_mem_cons.mpr ⟨va_Nw.of rfl (htsT _ (tb 444 (by decide +kernel))), List.forall_mem_cons.mpr ⟨va_Nw.of rfl (htsT _ (tb 446 (by decide +kernel))), List.forall_mem_cons.mpr ⟨va_Nw.of rfl (htsT _ (tb 448 (by decide +kernel))), List.forall_mem_cons.mpr ⟨va_Nw.of rfl (htsT _ (tb 521 (by decide +kernel))), List.forall_mem_cons.mpr ⟨va_Nw.of rfl (htsT _ (tb 442 (by decide +kernel))), List.forall_mem_cons.mpr ⟨va_Nw.of rfl (htsT _ (tb 548 (by decide +kernel))), fun _ h => nomatch h⟩⟩⟩⟩⟩⟩
  have hC9 : gC s := ⟨va_Nc.of (hns (Cond.not (.castable xIA xIO)) (by decide +kernel)), va_Nc.of (hns (Cond.not (.castable xIS xIO)) (by decide +kernel)), va_Nc.of (hns (Cond.not (.castable xIS xIA)) (by decide +kernel))⟩
  have KE : ∀ (H : Heap) (locs : List Loc) (ls : Array Slot), va_S A s.heap H locs → W p l e room_1 s m #[Value.ref b] below meth c H locs 601024 7293000 (lw_Z below #[Value.ref b] s) (F0 m 1767 ls [.int (zI 1)]) := fun H locs ls hS => by
    have e1 : zI 1 = (1 : Int32) := by decide +kernel
    rw [e1]
    refine va_forget (fun q hq => by have := hS.2.2 q hq; rw [hAe] at this; exact this) ?_
    exact lw_ret hx hb hr hlocks dL_law_1767
  have hS : va_S A s.heap s.heap [] := va_S.rf
  have hP : va_P dd vwCl [] s.heap := fun k q h => by simp at h
  have hD : va_D A [] := ⟨fun i j p q h => by simp at h, fun k q h => by simp at h⟩
  have hl := lv_entry ([.ref b]) (n := 7) (Nat.le_of_ble_eq_true rfl)
  rw [lg_entry_eq]
  generalize (lg_sl ([.ref b]) ++ List.replicate (7 - (lg_sl ([.ref b])).length) Slot.unset).toArray = ls at hl ⊢
  have hl : lv_has ls 7 [(0, .ref b)] := hl
  clear hgv hns C0
  refine va_new (ci := 6) (fs := [vI 0, .null, .null, .null, .null, .null, .null, .null, .null, vI 0]) (C := RX6) (T := TX6) (N := 10) hx hb hts inlX6 tyX6 tyX6_ok hown (hts _ (List.mem_append_left _ (List.mem_append_left _ (List.mem_append_left _ (List.mem_append_left _ (List.mem_append_left _ (List.mem_append_left _ (List.mem_append_left _ (List.mem_append_left _ (List.mem_append_left _ (List.mem_append_left _ (List.mem_append_left _ (List.mem_append_left _ (List.mem_append_left _ (List.mem_of_getElem? (i := 0) rfl))))))))))))))) (hts _ (List.mem_append_left _ (List.mem_append_left _ (List.mem_append_left _ (List.mem_append_left _ (List.mem_append_left _ (List.mem_append_left _ (List.mem_append_left _ (List.mem_append_left _ (List.mem_append_left _ (List.mem_append_left _ (List.mem_append_left _ (List.mem_append_left _ (List.mem_append_left _ (List.mem_of_getElem? (i := 1) rfl))))))))))))))) (hts _ (List.mem_append_left _ (List.mem_append_left _ (List.mem_append_left _ (List.mem_append_left _ (List.mem_append_left _ (List.mem_append_left _ (List.mem_append_left _ (List.mem_append_left _ (List.mem_append_left _ (List.mem_append_left _ (List.mem_append_left _ (List.mem_append_left _ (List.mem_append_left _ (List.mem_of_getElem? (i := 2) rfl))))))))))))))) hK hP hD hS hA rfl (fun j hj => by rcases (show j = 0 ∨ j = 1 ∨ j = 2 ∨ j = 3 ∨ j = 4 ∨ j = 5 ∨ j = 6 ∨ j = 7 ∨ j = 8 ∨ j = 9 by omega) with rfl | rfl | rfl | rfl | rfl | rfl | rfl | rfl | rfl | rfl <;> rfl) (Nat.le_of_ble_eq_true rfl) (Nat.le_of_ble_eq_true rfl) dL_law_0 (fun q_1 H hP hD hS => ?_)
  have hP : va_P dd vwCl [kO q_1 6 [vI 0, .null, .null, .null, .null, .null, .null, .null, .null, vI 0]] H := hP
  have hD : va_D A [kO q_1 6 [vI 0, .null, .null, .null, .null, .null, .null, .null, .null, vI 0]] := hD
  refine lv_dup hx hb dL_law_3 rfl ?_
  refine lv_aload_n hx hb dL_law_4 rfl (lv_at hl 0 rfl) ?_
  refine z_iconst hx hb dL_law_5 ?_
  refine g_scallSi (own := RL) (n := 2) (mc := 0) (ms := 0) (As := [.ref b, vI 0]) (rest := [.ref q_1, .ref q_1]) (wc := []) (wr := [kO q_1 6 [vI 0, .null, .null, .null, .null, .null, .null, .null, .null, vI 0]]) hx hb hml hown hts hK hP hD hS hA hX hbl hbA [] [0] rfl rfl (by decide) (by decide) (c_L_cell l dd cI cJ cC cS b L xs H.size hLL) gL_law_L_cell rfl (by decide +kernel) (by decide) (Nat.le_of_ble_eq_true rfl) (Nat.le_of_ble_eq_true rfl) (⟨by show _ ≤ 601024; omega, by show _ ≤ 7293000; omega⟩) rfl hl.1 rfl (Nat.le_of_ble_eq_true rfl) dL_law_6 (fun zv u9 H locs hzv hP hD hS => ?_)
  have hP : va_P dd vwCl [kO q_1 6 [vI 0, .null, .null, .null, .null, .null, .null, .null, .null, vI 0]] H := hP
  have hD : va_D A [kO q_1 6 [vI 0, .null, .null, .null, .null, .null, .null, .null, .null, vI 0]] := hD
  obtain ⟨v, hv9, hvr⟩ : ∃ v : Int, zI zv = zI v ∧ rg v := ⟨_, zI_of _, zI_rg _⟩
  refine z_bin (va := .null) (vb := .null) (y := zI v) hv9 ?_
  have hzv0 := hzv
  obtain ⟨zv0, hz0⟩ : ∃ q : Int, q = zv := ⟨_, rfl⟩
  rw [← hz0] at hzv0 hv9
  refine g_callNIv (own := RL) (n := 1) (mc := 39) (ms := 2347) (As := [vI v]) (rest := [.ref q_1]) (wc := [kO q_1 6 [vI 0, .null, .null, .null, .null, .null, .null, .null, .null, vI 0]]) (wr := []) hx hb hml hown hts hK hP hD hS hA hAO [0] [] rfl rfl (by decide) (by decide) (c_X6_init l dd cI cJ cC cS q_1 v H.size  (hvr)) gL_law_X6_init rfl (hts _ (List.mem_append_left _ (List.mem_append_left _ (List.mem_append_left _ (List.mem_append_left _ (List.mem_append_left _ (List.mem_append_left _ (List.mem_append_left _ (List.mem_append_left _ (List.mem_append_left _ (List.mem_append_left _ (List.mem_append_left _ (List.mem_append_left _ (List.mem_append_left _ (List.mem_of_getElem? (i := 2) rfl))))))))))))))) (hts _ (List.mem_append_left _ (List.mem_append_left _ (List.mem_append_left _ (List.mem_append_left _ (List.mem_append_left _ (List.mem_append_left _ (List.mem_append_left _ (List.mem_append_left _ (List.mem_append_left _ (List.mem_append_left _ (List.mem_append_left _ (List.mem_append_left _ (List.mem_append_left _ (List.mem_of_getElem? (i := 11) rfl))))))))))))))) (hts _ (List.mem_append_left _ (List.mem_append_left _ (List.mem_append_left _ (List.mem_append_left _ (List.mem_append_left _ (List.mem_append_left _ (List.mem_append_left _ (List.mem_append_left _ (List.mem_append_left _ (List.mem_append_left _ (List.mem_append_left _ (List.mem_append_left _ (List.mem_append_left _ (List.mem_of_getElem? (i := 12) rfl))))))))))))))) rfl (by decide +kernel) (by decide) (Nat.le_of_ble_eq_true rfl) (Nat.le_of_ble_eq_true rfl) (⟨by show _ ≤ 601024; omega, by show _ ≤ 7293000; omega⟩) rfl hl.1 rfl (Nat.le_of_ble_eq_true rfl) dL_law_9 (fun u_2 H locs hp9 hP hD hS => ?_)
  obtain ⟨s0, s1, s2, h0, h1, l0, l1, l2, l3, l4, l5, m0, m1, m2, p0, p1, p2, e0, e1, w0, t0, ya⟩ := u_2
  try dsimp only at hp9
  have hP : va_P dd vwCl [kO q_1 6 [vI (nZ v), .ref s0, .ref h0, .ref l0, .ref m0, .ref p0, .ref e0, .ref w0, .ref t0, vI 0], kO s0 5 [.ref s1, .ref s2, vI 0, vI 0, vI 0], kI cI s1 8 (cpZ (kZ 1) zeroZ 8), kI cI s2 9 zeroZ, kO h0 0 [.ref h1, vI 0], kR cS h1 6 (kfA ya), kO (ya 0 0) 5 [.ref (ya 0 1), .ref (ya 0 2), vI 0, vI 0, vI 0], kI cI (ya 0 1) 8 (cpZ (kZ 1) zeroZ 8), kI cI (ya 0 2) 9 zeroZ, kO (ya 1 0) 5 [.ref (ya 1 1), .ref (ya 1 2), vI 0, vI 0, vI 0], kI cI (ya 1 1) 8 (cpZ (kZ 1) zeroZ 8), kI cI (ya 1 2) 9 zeroZ, kO (ya 2 0) 5 [.ref (ya 2 1), .ref (ya 2 2), vI 0, vI 0, vI 0], kI cI (ya 2 1) 8 (cpZ (kZ 1) zeroZ 8), kI cI (ya 2 2) 9 zeroZ, kO (ya 3 0) 5 [.ref (ya 3 1), .ref (ya 3 2), vI 0, vI 0, vI 0], kI cI (ya 3 1) 8 (cpZ (kZ 1) zeroZ 8), kI cI (ya 3 2) 9 zeroZ, kO (ya 4 0) 5 [.ref (ya 4 1), .ref (ya 4 2), vI 0, vI 0, vI 0], kI cI (ya 4 1) 8 (cpZ (kZ 1) zeroZ 8), kI cI (ya 4 2) 9 zeroZ, kO (ya 5 0) 5 [.ref (ya 5 1), .ref (ya 5 2), vI 0, vI 0, vI 0], kI cI (ya 5 1) 8 (cpZ (kZ 1) zeroZ 8), kI cI (ya 5 2) 9 zeroZ, kO l0 1 [vI (nZ v), .ref l1, .ref l2, .ref l3, .ref l4, .ref l5, vI 0, vI 0, vI 0, vI 0], kI cI l1 8 zeroZ, kI cI l2 8 zeroZ, kI cI l3 9 zeroZ, kI cI l4 9 zeroZ, kI cI l5 9 zeroZ, kO m0 2 [.ref m1, .ref m2], kL cJ m1 1024 zeroZ, kI cI m2 1024 zeroZ, kO p0 3 [vI (nZ v), .ref p1, .ref p2], kI cI p1 8 zeroZ, kI cI p2 8 zeroZ, kO e0 4 [vI (nZ v), .ref e1, vI 0, vI 0, vI 0, vI 0, vI 0], kI cI e1 8 zeroZ, kI cI w0 8 zeroZ, kI cC t0 40 zeroZ] H := hP
  have hD : va_D A [kO q_1 6 [vI (nZ v), .ref s0, .ref h0, .ref l0, .ref m0, .ref p0, .ref e0, .ref w0, .ref t0, vI 0], kO s0 5 [.ref s1, .ref s2, vI 0, vI 0, vI 0], kI cI s1 8 (cpZ (kZ 1) zeroZ 8), kI cI s2 9 zeroZ, kO h0 0 [.ref h1, vI 0], kR cS h1 6 (kfA ya), kO (ya 0 0) 5 [.ref (ya 0 1), .ref (ya 0 2), vI 0, vI 0, vI 0], kI cI (ya 0 1) 8 (cpZ (kZ 1) zeroZ 8), kI cI (ya 0 2) 9 zeroZ, kO (ya 1 0) 5 [.ref (ya 1 1), .ref (ya 1 2), vI 0, vI 0, vI 0], kI cI (ya 1 1) 8 (cpZ (kZ 1) zeroZ 8), kI cI (ya 1 2) 9 zeroZ, kO (ya 2 0) 5 [.ref (ya 2 1), .ref (ya 2 2), vI 0, vI 0, vI 0], kI cI (ya 2 1) 8 (cpZ (kZ 1) zeroZ 8), kI cI (ya 2 2) 9 zeroZ, kO (ya 3 0) 5 [.ref (ya 3 1), .ref (ya 3 2), vI 0, vI 0, vI 0], kI cI (ya 3 1) 8 (cpZ (kZ 1) zeroZ 8), kI cI (ya 3 2) 9 zeroZ, kO (ya 4 0) 5 [.ref (ya 4 1), .ref (ya 4 2), vI 0, vI 0, vI 0], kI cI (ya 4 1) 8 (cpZ (kZ 1) zeroZ 8), kI cI (ya 4 2) 9 zeroZ, kO (ya 5 0) 5 [.ref (ya 5 1), .ref (ya 5 2), vI 0, vI 0, vI 0], kI cI (ya 5 1) 8 (cpZ (kZ 1) zeroZ 8), kI cI (ya 5 2) 9 zeroZ, kO l0 1 [vI (nZ v), .ref l1, .ref l2, .ref l3, .ref l4, .ref l5, vI 0, vI 0, vI 0, vI 0], kI cI l1 8 zeroZ, kI cI l2 8 zeroZ, kI cI l3 9 zeroZ, kI cI l4 9 zeroZ, kI cI l5 9 zeroZ, kO m0 2 [.ref m1, .ref m2], kL cJ m1 1024 zeroZ, kI cI m2 1024 zeroZ, kO p0 3 [vI (nZ v), .ref p1, .ref p2], kI cI p1 8 zeroZ, kI cI p2 8 zeroZ, kO e0 4 [vI (nZ v), .ref e1, vI 0, vI 0, vI 0, vI 0, vI 0], kI cI e1 8 zeroZ, kI cI w0 8 zeroZ, kI cC t0 40 zeroZ] := hD
  refine lv_astore_n (lv' := [(1, .ref q_1), (0, .ref b)]) hx hb dL_law_12 rfl hl (by decide) rfl (fun ls hl => ?_)
  refine va_new (ci := 7) (fs := [vI 0, .null, .null, vI 0, .null, .null, .null, .null, .null, vI 0, vI 0]) (C := RX7) (T := TX7) (N := 11) hx hb hts inlX7 tyX7 tyX7_ok hown (hts _ (List.mem_append_left _ (List.mem_append_left _ (List.mem_append_left _ (List.mem_append_left _ (List.mem_append_left _ (List.mem_append_left _ (List.mem_append_left _ (List.mem_append_left _ (List.mem_append_left _ (List.mem_append_left _ (List.mem_append_left _ (List.mem_append_left _ (List.mem_append_left _ (List.mem_of_getElem? (i := 3) rfl))))))))))))))) (hts _ (List.mem_append_left _ (List.mem_append_left _ (List.mem_append_left _ (List.mem_append_left _ (List.mem_append_left _ (List.mem_append_left _ (List.mem_append_left _ (List.mem_append_left _ (List.mem_append_left _ (List.mem_append_left _ (List.mem_append_left _ (List.mem_append_left _ (List.mem_append_left _ (List.mem_of_getElem? (i := 4) rfl))))))))))))))) (hts _ (List.mem_append_left _ (List.mem_append_left _ (List.mem_append_left _ (List.mem_append_left _ (List.mem_append_left _ (List.mem_append_left _ (List.mem_append_left _ (List.mem_append_left _ (List.mem_append_left _ (List.mem_append_left _ (List.mem_append_left _ (List.mem_append_left _ (List.mem_append_left _ (List.mem_of_getElem? (i := 5) rfl))))))))))))))) hK hP hD hS hA rfl (fun j hj => by rcases (show j = 0 ∨ j = 1 ∨ j = 2 ∨ j = 3 ∨ j = 4 ∨ j = 5 ∨ j = 6 ∨ j = 7 ∨ j = 8 ∨ j = 9 ∨ j = 10 by omega) with rfl | rfl | rfl | rfl | rfl | rfl | rfl | rfl | rfl | rfl | rfl <;> rfl) (by show _ ≤ 601024; omega) (by show _ ≤ 7293000; omega) dL_law_13 (fun q_3 H hP hD hS => ?_)
  have hP : va_P dd vwCl [kO q_1 6 [vI (nZ v), .ref s0, .ref h0, .ref l0, .ref m0, .ref p0, .ref e0, .ref w0, .ref t0, vI 0], kO s0 5 [.ref s1, .ref s2, vI 0, vI 0, vI 0], kI cI s1 8 (cpZ (kZ 1) zeroZ 8), kI cI s2 9 zeroZ, kO h0 0 [.ref h1, vI 0], kR cS h1 6 (kfA ya), kO (ya 0 0) 5 [.ref (ya 0 1), .ref (ya 0 2), vI 0, vI 0, vI 0], kI cI (ya 0 1) 8 (cpZ (kZ 1) zeroZ 8), kI cI (ya 0 2) 9 zeroZ, kO (ya 1 0) 5 [.ref (ya 1 1), .ref (ya 1 2), vI 0, vI 0, vI 0], kI cI (ya 1 1) 8 (cpZ (kZ 1) zeroZ 8), kI cI (ya 1 2) 9 zeroZ, kO (ya 2 0) 5 [.ref (ya 2 1), .ref (ya 2 2), vI 0, vI 0, vI 0], kI cI (ya 2 1) 8 (cpZ (kZ 1) zeroZ 8), kI cI (ya 2 2) 9 zeroZ, kO (ya 3 0) 5 [.ref (ya 3 1), .ref (ya 3 2), vI 0, vI 0, vI 0], kI cI (ya 3 1) 8 (cpZ (kZ 1) zeroZ 8), kI cI (ya 3 2) 9 zeroZ, kO (ya 4 0) 5 [.ref (ya 4 1), .ref (ya 4 2), vI 0, vI 0, vI 0], kI cI (ya 4 1) 8 (cpZ (kZ 1) zeroZ 8), kI cI (ya 4 2) 9 zeroZ, kO (ya 5 0) 5 [.ref (ya 5 1), .ref (ya 5 2), vI 0, vI 0, vI 0], kI cI (ya 5 1) 8 (cpZ (kZ 1) zeroZ 8), kI cI (ya 5 2) 9 zeroZ, kO l0 1 [vI (nZ v), .ref l1, .ref l2, .ref l3, .ref l4, .ref l5, vI 0, vI 0, vI 0, vI 0], kI cI l1 8 zeroZ, kI cI l2 8 zeroZ, kI cI l3 9 zeroZ, kI cI l4 9 zeroZ, kI cI l5 9 zeroZ, kO m0 2 [.ref m1, .ref m2], kL cJ m1 1024 zeroZ, kI cI m2 1024 zeroZ, kO p0 3 [vI (nZ v), .ref p1, .ref p2], kI cI p1 8 zeroZ, kI cI p2 8 zeroZ, kO e0 4 [vI (nZ v), .ref e1, vI 0, vI 0, vI 0, vI 0, vI 0], kI cI e1 8 zeroZ, kI cI w0 8 zeroZ, kI cC t0 40 zeroZ, kO q_3 7 [vI 0, .null, .null, vI 0, .null, .null, .null, .null, .null, vI 0, vI 0]] H := hP
  have hD : va_D A [kO q_1 6 [vI (nZ v), .ref s0, .ref h0, .ref l0, .ref m0, .ref p0, .ref e0, .ref w0, .ref t0, vI 0], kO s0 5 [.ref s1, .ref s2, vI 0, vI 0, vI 0], kI cI s1 8 (cpZ (kZ 1) zeroZ 8), kI cI s2 9 zeroZ, kO h0 0 [.ref h1, vI 0], kR cS h1 6 (kfA ya), kO (ya 0 0) 5 [.ref (ya 0 1), .ref (ya 0 2), vI 0, vI 0, vI 0], kI cI (ya 0 1) 8 (cpZ (kZ 1) zeroZ 8), kI cI (ya 0 2) 9 zeroZ, kO (ya 1 0) 5 [.ref (ya 1 1), .ref (ya 1 2), vI 0, vI 0, vI 0], kI cI (ya 1 1) 8 (cpZ (kZ 1) zeroZ 8), kI cI (ya 1 2) 9 zeroZ, kO (ya 2 0) 5 [.ref (ya 2 1), .ref (ya 2 2), vI 0, vI 0, vI 0], kI cI (ya 2 1) 8 (cpZ (kZ 1) zeroZ 8), kI cI (ya 2 2) 9 zeroZ, kO (ya 3 0) 5 [.ref (ya 3 1), .ref (ya 3 2), vI 0, vI 0, vI 0], kI cI (ya 3 1) 8 (cpZ (kZ 1) zeroZ 8), kI cI (ya 3 2) 9 zeroZ, kO (ya 4 0) 5 [.ref (ya 4 1), .ref (ya 4 2), vI 0, vI 0, vI 0], kI cI (ya 4 1) 8 (cpZ (kZ 1) zeroZ 8), kI cI (ya 4 2) 9 zeroZ, kO (ya 5 0) 5 [.ref (ya 5 1), .ref (ya 5 2), vI 0, vI 0, vI 0], kI cI (ya 5 1) 8 (cpZ (kZ 1) zeroZ 8), kI cI (ya 5 2) 9 zeroZ, kO l0 1 [vI (nZ v), .ref l1, .ref l2, .ref l3, .ref l4, .ref l5, vI 0, vI 0, vI 0, vI 0], kI cI l1 8 zeroZ, kI cI l2 8 zeroZ, kI cI l3 9 zeroZ, kI cI l4 9 zeroZ, kI cI l5 9 zeroZ, kO m0 2 [.ref m1, .ref m2], kL cJ m1 1024 zeroZ, kI cI m2 1024 zeroZ, kO p0 3 [vI (nZ v), .ref p1, .ref p2], kI cI p1 8 zeroZ, kI cI p2 8 zeroZ, kO e0 4 [vI (nZ v), .ref e1, vI 0, vI 0, vI 0, vI 0, vI 0], kI cI e1 8 zeroZ, kI cI w0 8 zeroZ, kI cC t0 40 zeroZ, kO q_3 7 [vI 0, .null, .null, vI 0, .null, .null, .null, .null, .null, vI 0, vI 0]] := hD
  refine lv_dup hx hb dL_law_16 rfl ?_
  refine lv_aload_n hx hb dL_law_17 rfl (lv_at hl 1 rfl) ?_
  refine z_iconst hx hb dL_law_18 ?_
  refine g_scallSi (own := RL) (n := 2) (mc := 0) (ms := 0) (As := [.ref b, vI 0]) (rest := [.ref q_3, .ref q_3]) (wc := []) (wr := [kO q_1 6 [vI (nZ v), .ref s0, .ref h0, .ref l0, .ref m0, .ref p0, .ref e0, .ref w0, .ref t0, vI 0], kO s0 5 [.ref s1, .ref s2, vI 0, vI 0, vI 0], kI cI s1 8 (cpZ (kZ 1) zeroZ 8), kI cI s2 9 zeroZ, kO h0 0 [.ref h1, vI 0], kR cS h1 6 (kfA ya), kO (ya 0 0) 5 [.ref (ya 0 1), .ref (ya 0 2), vI 0, vI 0, vI 0], kI cI (ya 0 1) 8 (cpZ (kZ 1) zeroZ 8), kI cI (ya 0 2) 9 zeroZ, kO (ya 1 0) 5 [.ref (ya 1 1), .ref (ya 1 2), vI 0, vI 0, vI 0], kI cI (ya 1 1) 8 (cpZ (kZ 1) zeroZ 8), kI cI (ya 1 2) 9 zeroZ, kO (ya 2 0) 5 [.ref (ya 2 1), .ref (ya 2 2), vI 0, vI 0, vI 0], kI cI (ya 2 1) 8 (cpZ (kZ 1) zeroZ 8), kI cI (ya 2 2) 9 zeroZ, kO (ya 3 0) 5 [.ref (ya 3 1), .ref (ya 3 2), vI 0, vI 0, vI 0], kI cI (ya 3 1) 8 (cpZ (kZ 1) zeroZ 8), kI cI (ya 3 2) 9 zeroZ, kO (ya 4 0) 5 [.ref (ya 4 1), .ref (ya 4 2), vI 0, vI 0, vI 0], kI cI (ya 4 1) 8 (cpZ (kZ 1) zeroZ 8), kI cI (ya 4 2) 9 zeroZ, kO (ya 5 0) 5 [.ref (ya 5 1), .ref (ya 5 2), vI 0, vI 0, vI 0], kI cI (ya 5 1) 8 (cpZ (kZ 1) zeroZ 8), kI cI (ya 5 2) 9 zeroZ, kO l0 1 [vI (nZ v), .ref l1, .ref l2, .ref l3, .ref l4, .ref l5, vI 0, vI 0, vI 0, vI 0], kI cI l1 8 zeroZ, kI cI l2 8 zeroZ, kI cI l3 9 zeroZ, kI cI l4 9 zeroZ, kI cI l5 9 zeroZ, kO m0 2 [.ref m1, .ref m2], kL cJ m1 1024 zeroZ, kI cI m2 1024 zeroZ, kO p0 3 [vI (nZ v), .ref p1, .ref p2], kI cI p1 8 zeroZ, kI cI p2 8 zeroZ, kO e0 4 [vI (nZ v), .ref e1, vI 0, vI 0, vI 0, vI 0, vI 0], kI cI e1 8 zeroZ, kI cI w0 8 zeroZ, kI cC t0 40 zeroZ, kO q_3 7 [vI 0, .null, .null, vI 0, .null, .null, .null, .null, .null, vI 0, vI 0]]) hx hb hml hown hts hK hP hD hS hA hX hbl hbA [] [0, 1, 2, 3, 4, 5, 6, 7, 8, 9, 10, 11, 12, 13, 14, 15, 16, 17, 18, 19, 20, 21, 22, 23, 24, 25, 26, 27, 28, 29, 30, 31, 32, 33, 34, 35, 36, 37, 38, 39, 40] rfl rfl (by decide) (by decide) (c_L_cell l dd cI cJ cC cS b L xs H.size hLL) gL_law_L_cell rfl (by decide +kernel) (by decide) (Nat.le_of_ble_eq_true rfl) (Nat.le_of_ble_eq_true rfl) (⟨by show _ ≤ 601024; omega, by show _ ≤ 7293000; omega⟩) rfl hl.1 rfl (Nat.le_of_ble_eq_true rfl) dL_law_19 (fun zv u9 H locs hzv hP hD hS => ?_)
  have hP : va_P dd vwCl [kO q_1 6 [vI (nZ v), .ref s0, .ref h0, .ref l0, .ref m0, .ref p0, .ref e0, .ref w0, .ref t0, vI 0], kO s0 5 [.ref s1, .ref s2, vI 0, vI 0, vI 0], kI cI s1 8 (cpZ (kZ 1) zeroZ 8), kI cI s2 9 zeroZ, kO h0 0 [.ref h1, vI 0], kR cS h1 6 (kfA ya), kO (ya 0 0) 5 [.ref (ya 0 1), .ref (ya 0 2), vI 0, vI 0, vI 0], kI cI (ya 0 1) 8 (cpZ (kZ 1) zeroZ 8), kI cI (ya 0 2) 9 zeroZ, kO (ya 1 0) 5 [.ref (ya 1 1), .ref (ya 1 2), vI 0, vI 0, vI 0], kI cI (ya 1 1) 8 (cpZ (kZ 1) zeroZ 8), kI cI (ya 1 2) 9 zeroZ, kO (ya 2 0) 5 [.ref (ya 2 1), .ref (ya 2 2), vI 0, vI 0, vI 0], kI cI (ya 2 1) 8 (cpZ (kZ 1) zeroZ 8), kI cI (ya 2 2) 9 zeroZ, kO (ya 3 0) 5 [.ref (ya 3 1), .ref (ya 3 2), vI 0, vI 0, vI 0], kI cI (ya 3 1) 8 (cpZ (kZ 1) zeroZ 8), kI cI (ya 3 2) 9 zeroZ, kO (ya 4 0) 5 [.ref (ya 4 1), .ref (ya 4 2), vI 0, vI 0, vI 0], kI cI (ya 4 1) 8 (cpZ (kZ 1) zeroZ 8), kI cI (ya 4 2) 9 zeroZ, kO (ya 5 0) 5 [.ref (ya 5 1), .ref (ya 5 2), vI 0, vI 0, vI 0], kI cI (ya 5 1) 8 (cpZ (kZ 1) zeroZ 8), kI cI (ya 5 2) 9 zeroZ, kO l0 1 [vI (nZ v), .ref l1, .ref l2, .ref l3, .ref l4, .ref l5, vI 0, vI 0, vI 0, vI 0], kI cI l1 8 zeroZ, kI cI l2 8 zeroZ, kI cI l3 9 zeroZ, kI cI l4 9 zeroZ, kI cI l5 9 zeroZ, kO m0 2 [.ref m1, .ref m2], kL cJ m1 1024 zeroZ, kI cI m2 1024 zeroZ, kO p0 3 [vI (nZ v), .ref p1, .ref p2], kI cI p1 8 zeroZ, kI cI p2 8 zeroZ, kO e0 4 [vI (nZ v), .ref e1, vI 0, vI 0, vI 0, vI 0, vI 0], kI cI e1 8 zeroZ, kI cI w0 8 zeroZ, kI cC t0 40 zeroZ, kO q_3 7 [vI 0, .null, .null, vI 0, .null, .null, .null, .null, .null, vI 0, vI 0]] H := hP
  have hD : va_D A [kO q_1 6 [vI (nZ v), .ref s0, .ref h0, .ref l0, .ref m0, .ref p0, .ref e0, .ref w0, .ref t0, vI 0], kO s0 5 [.ref s1, .ref s2, vI 0, vI 0, vI 0], kI cI s1 8 (cpZ (kZ 1) zeroZ 8), kI cI s2 9 zeroZ, kO h0 0 [.ref h1, vI 0], kR cS h1 6 (kfA ya), kO (ya 0 0) 5 [.ref (ya 0 1), .ref (ya 0 2), vI 0, vI 0, vI 0], kI cI (ya 0 1) 8 (cpZ (kZ 1) zeroZ 8), kI cI (ya 0 2) 9 zeroZ, kO (ya 1 0) 5 [.ref (ya 1 1), .ref (ya 1 2), vI 0, vI 0, vI 0], kI cI (ya 1 1) 8 (cpZ (kZ 1) zeroZ 8), kI cI (ya 1 2) 9 zeroZ, kO (ya 2 0) 5 [.ref (ya 2 1), .ref (ya 2 2), vI 0, vI 0, vI 0], kI cI (ya 2 1) 8 (cpZ (kZ 1) zeroZ 8), kI cI (ya 2 2) 9 zeroZ, kO (ya 3 0) 5 [.ref (ya 3 1), .ref (ya 3 2), vI 0, vI 0, vI 0], kI cI (ya 3 1) 8 (cpZ (kZ 1) zeroZ 8), kI cI (ya 3 2) 9 zeroZ, kO (ya 4 0) 5 [.ref (ya 4 1), .ref (ya 4 2), vI 0, vI 0, vI 0], kI cI (ya 4 1) 8 (cpZ (kZ 1) zeroZ 8), kI cI (ya 4 2) 9 zeroZ, kO (ya 5 0) 5 [.ref (ya 5 1), .ref (ya 5 2), vI 0, vI 0, vI 0], kI cI (ya 5 1) 8 (cpZ (kZ 1) zeroZ 8), kI cI (ya 5 2) 9 zeroZ, kO l0 1 [vI (nZ v), .ref l1, .ref l2, .ref l3, .ref l4, .ref l5, vI 0, vI 0, vI 0, vI 0], kI cI l1 8 zeroZ, kI cI l2 8 zeroZ, kI cI l3 9 zeroZ, kI cI l4 9 zeroZ, kI cI l5 9 zeroZ, kO m0 2 [.ref m1, .ref m2], kL cJ m1 1024 zeroZ, kI cI m2 1024 zeroZ, kO p0 3 [vI (nZ v), .ref p1, .ref p2], kI cI p1 8 zeroZ, kI cI p2 8 zeroZ, kO e0 4 [vI (nZ v), .ref e1, vI 0, vI 0, vI 0, vI 0, vI 0], kI cI e1 8 zeroZ, kI cI w0 8 zeroZ, kI cC t0 40 zeroZ, kO q_3 7 [vI 0, .null, .null, vI 0, .null, .null, .null, .null, .null, vI 0, vI 0]] := hD
  have hzz : zv = zv0 := hzv.trans hzv0.symm
  refine z_bin (va := .null) (vb := .null) (y := zI v) (by rw [hzz]; exact hv9) ?_
  refine g_callIv (own := RL) (n := 1) (mc := 7) (ms := 222) (As := [vI v]) (rest := [.ref q_3]) (wc := [kO q_3 7 [vI 0, .null, .null, vI 0, .null, .null, .null, .null, .null, vI 0, vI 0]]) (wr := [kO q_1 6 [vI (nZ v), .ref s0, .ref h0, .ref l0, .ref m0, .ref p0, .ref e0, .ref w0, .ref t0, vI 0], kO s0 5 [.ref s1, .ref s2, vI 0, vI 0, vI 0], kI cI s1 8 (cpZ (kZ 1) zeroZ 8), kI cI s2 9 zeroZ, kO h0 0 [.ref h1, vI 0], kR cS h1 6 (kfA ya), kO (ya 0 0) 5 [.ref (ya 0 1), .ref (ya 0 2), vI 0, vI 0, vI 0], kI cI (ya 0 1) 8 (cpZ (kZ 1) zeroZ 8), kI cI (ya 0 2) 9 zeroZ, kO (ya 1 0) 5 [.ref (ya 1 1), .ref (ya 1 2), vI 0, vI 0, vI 0], kI cI (ya 1 1) 8 (cpZ (kZ 1) zeroZ 8), kI cI (ya 1 2) 9 zeroZ, kO (ya 2 0) 5 [.ref (ya 2 1), .ref (ya 2 2), vI 0, vI 0, vI 0], kI cI (ya 2 1) 8 (cpZ (kZ 1) zeroZ 8), kI cI (ya 2 2) 9 zeroZ, kO (ya 3 0) 5 [.ref (ya 3 1), .ref (ya 3 2), vI 0, vI 0, vI 0], kI cI (ya 3 1) 8 (cpZ (kZ 1) zeroZ 8), kI cI (ya 3 2) 9 zeroZ, kO (ya 4 0) 5 [.ref (ya 4 1), .ref (ya 4 2), vI 0, vI 0, vI 0], kI cI (ya 4 1) 8 (cpZ (kZ 1) zeroZ 8), kI cI (ya 4 2) 9 zeroZ, kO (ya 5 0) 5 [.ref (ya 5 1), .ref (ya 5 2), vI 0, vI 0, vI 0], kI cI (ya 5 1) 8 (cpZ (kZ 1) zeroZ 8), kI cI (ya 5 2) 9 zeroZ, kO l0 1 [vI (nZ v), .ref l1, .ref l2, .ref l3, .ref l4, .ref l5, vI 0, vI 0, vI 0, vI 0], kI cI l1 8 zeroZ, kI cI l2 8 zeroZ, kI cI l3 9 zeroZ, kI cI l4 9 zeroZ, kI cI l5 9 zeroZ, kO m0 2 [.ref m1, .ref m2], kL cJ m1 1024 zeroZ, kI cI m2 1024 zeroZ, kO p0 3 [vI (nZ v), .ref p1, .ref p2], kI cI p1 8 zeroZ, kI cI p2 8 zeroZ, kO e0 4 [vI (nZ v), .ref e1, vI 0, vI 0, vI 0, vI 0, vI 0], kI cI e1 8 zeroZ, kI cI w0 8 zeroZ, kI cC t0 40 zeroZ]) hx hb hml hown hts hK hP hD hS hA [40] [0, 1, 2, 3, 4, 5, 6, 7, 8, 9, 10, 11, 12, 13, 14, 15, 16, 17, 18, 19, 20, 21, 22, 23, 24, 25, 26, 27, 28, 29, 30, 31, 32, 33, 34, 35, 36, 37, 38, 39] rfl rfl (by decide) (by decide) (c_X7_init l dd cI cJ cC cS q_3 v H.size  (hvr)) gL_law_X7_init rfl (hts _ (List.mem_append_left _ (List.mem_append_left _ (List.mem_append_left _ (List.mem_append_left _ (List.mem_append_left _ (List.mem_append_left _ (List.mem_append_left _ (List.mem_append_left _ (List.mem_append_left _ (List.mem_append_left _ (List.mem_append_left _ (List.mem_append_left _ (List.mem_append_left _ (List.mem_of_getElem? (i := 5) rfl))))))))))))))) (hts _ (List.mem_append_left _ (List.mem_append_left _ (List.mem_append_left _ (List.mem_append_left _ (List.mem_append_left _ (List.mem_append_left _ (List.mem_append_left _ (List.mem_append_left _ (List.mem_append_left _ (List.mem_append_left _ (List.mem_append_left _ (List.mem_append_left _ (List.mem_append_right _ (List.mem_append_right _ (List.mem_append_right _ (List.mem_append_right _ (List.mem_append_left _ (List.mem_of_getElem? (i := 0) rfl))))))))))))))))))) (hts _ (List.mem_append_left _ (List.mem_append_left _ (List.mem_append_left _ (List.mem_append_left _ (List.mem_append_left _ (List.mem_append_left _ (List.mem_append_left _ (List.mem_append_left _ (List.mem_append_left _ (List.mem_append_left _ (List.mem_append_left _ (List.mem_append_left _ (List.mem_append_right _ (List.mem_append_right _ (List.mem_append_right _ (List.mem_append_right _ (List.mem_append_left _ (List.mem_of_getElem? (i := 1) rfl))))))))))))))))))) rfl (by decide +kernel) (by decide) (Nat.le_of_ble_eq_true rfl) (Nat.le_of_ble_eq_true rfl) (⟨by show _ ≤ 601024; omega, by show _ ≤ 7293000; omega⟩) rfl hl.1 rfl (Nat.le_of_ble_eq_true rfl) dL_law_22 (fun u_4 H locs hp22 hP hD hS => ?_)
  obtain ⟨v0, a0, r0, f0, g0, d0, t9⟩ := u_4
  try dsimp only at hp22
  have hP : va_P dd vwCl [kO q_1 6 [vI (nZ v), .ref s0, .ref h0, .ref l0, .ref m0, .ref p0, .ref e0, .ref w0, .ref t0, vI 0], kO s0 5 [.ref s1, .ref s2, vI 0, vI 0, vI 0], kI cI s1 8 (cpZ (kZ 1) zeroZ 8), kI cI s2 9 zeroZ, kO h0 0 [.ref h1, vI 0], kR cS h1 6 (kfA ya), kO (ya 0 0) 5 [.ref (ya 0 1), .ref (ya 0 2), vI 0, vI 0, vI 0], kI cI (ya 0 1) 8 (cpZ (kZ 1) zeroZ 8), kI cI (ya 0 2) 9 zeroZ, kO (ya 1 0) 5 [.ref (ya 1 1), .ref (ya 1 2), vI 0, vI 0, vI 0], kI cI (ya 1 1) 8 (cpZ (kZ 1) zeroZ 8), kI cI (ya 1 2) 9 zeroZ, kO (ya 2 0) 5 [.ref (ya 2 1), .ref (ya 2 2), vI 0, vI 0, vI 0], kI cI (ya 2 1) 8 (cpZ (kZ 1) zeroZ 8), kI cI (ya 2 2) 9 zeroZ, kO (ya 3 0) 5 [.ref (ya 3 1), .ref (ya 3 2), vI 0, vI 0, vI 0], kI cI (ya 3 1) 8 (cpZ (kZ 1) zeroZ 8), kI cI (ya 3 2) 9 zeroZ, kO (ya 4 0) 5 [.ref (ya 4 1), .ref (ya 4 2), vI 0, vI 0, vI 0], kI cI (ya 4 1) 8 (cpZ (kZ 1) zeroZ 8), kI cI (ya 4 2) 9 zeroZ, kO (ya 5 0) 5 [.ref (ya 5 1), .ref (ya 5 2), vI 0, vI 0, vI 0], kI cI (ya 5 1) 8 (cpZ (kZ 1) zeroZ 8), kI cI (ya 5 2) 9 zeroZ, kO l0 1 [vI (nZ v), .ref l1, .ref l2, .ref l3, .ref l4, .ref l5, vI 0, vI 0, vI 0, vI 0], kI cI l1 8 zeroZ, kI cI l2 8 zeroZ, kI cI l3 9 zeroZ, kI cI l4 9 zeroZ, kI cI l5 9 zeroZ, kO m0 2 [.ref m1, .ref m2], kL cJ m1 1024 zeroZ, kI cI m2 1024 zeroZ, kO p0 3 [vI (nZ v), .ref p1, .ref p2], kI cI p1 8 zeroZ, kI cI p2 8 zeroZ, kO e0 4 [vI (nZ v), .ref e1, vI 0, vI 0, vI 0, vI 0, vI 0], kI cI e1 8 zeroZ, kI cI w0 8 zeroZ, kI cC t0 40 zeroZ, kO q_3 7 [vI (nZ v), .ref v0, .ref a0, vI 0, .ref r0, .ref f0, .ref g0, .ref d0, .ref t9, vI 0, vI 0], kI cI v0 21 (iniZ (nZ v)), kI cI a0 126 zeroZ, kI cI r0 9 zeroZ, kI cI f0 9 zeroZ, kI cI g0 9 zeroZ, kI cI d0 8 zeroZ, kI cI t9 40 zeroZ] H := hP
  have hD : va_D A [kO q_1 6 [vI (nZ v), .ref s0, .ref h0, .ref l0, .ref m0, .ref p0, .ref e0, .ref w0, .ref t0, vI 0], kO s0 5 [.ref s1, .ref s2, vI 0, vI 0, vI 0], kI cI s1 8 (cpZ (kZ 1) zeroZ 8), kI cI s2 9 zeroZ, kO h0 0 [.ref h1, vI 0], kR cS h1 6 (kfA ya), kO (ya 0 0) 5 [.ref (ya 0 1), .ref (ya 0 2), vI 0, vI 0, vI 0], kI cI (ya 0 1) 8 (cpZ (kZ 1) zeroZ 8), kI cI (ya 0 2) 9 zeroZ, kO (ya 1 0) 5 [.ref (ya 1 1), .ref (ya 1 2), vI 0, vI 0, vI 0], kI cI (ya 1 1) 8 (cpZ (kZ 1) zeroZ 8), kI cI (ya 1 2) 9 zeroZ, kO (ya 2 0) 5 [.ref (ya 2 1), .ref (ya 2 2), vI 0, vI 0, vI 0], kI cI (ya 2 1) 8 (cpZ (kZ 1) zeroZ 8), kI cI (ya 2 2) 9 zeroZ, kO (ya 3 0) 5 [.ref (ya 3 1), .ref (ya 3 2), vI 0, vI 0, vI 0], kI cI (ya 3 1) 8 (cpZ (kZ 1) zeroZ 8), kI cI (ya 3 2) 9 zeroZ, kO (ya 4 0) 5 [.ref (ya 4 1), .ref (ya 4 2), vI 0, vI 0, vI 0], kI cI (ya 4 1) 8 (cpZ (kZ 1) zeroZ 8), kI cI (ya 4 2) 9 zeroZ, kO (ya 5 0) 5 [.ref (ya 5 1), .ref (ya 5 2), vI 0, vI 0, vI 0], kI cI (ya 5 1) 8 (cpZ (kZ 1) zeroZ 8), kI cI (ya 5 2) 9 zeroZ, kO l0 1 [vI (nZ v), .ref l1, .ref l2, .ref l3, .ref l4, .ref l5, vI 0, vI 0, vI 0, vI 0], kI cI l1 8 zeroZ, kI cI l2 8 zeroZ, kI cI l3 9 zeroZ, kI cI l4 9 zeroZ, kI cI l5 9 zeroZ, kO m0 2 [.ref m1, .ref m2], kL cJ m1 1024 zeroZ, kI cI m2 1024 zeroZ, kO p0 3 [vI (nZ v), .ref p1, .ref p2], kI cI p1 8 zeroZ, kI cI p2 8 zeroZ, kO e0 4 [vI (nZ v), .ref e1, vI 0, vI 0, vI 0, vI 0, vI 0], kI cI e1 8 zeroZ, kI cI w0 8 zeroZ, kI cC t0 40 zeroZ, kO q_3 7 [vI (nZ v), .ref v0, .ref a0, vI 0, .ref r0, .ref f0, .ref g0, .ref d0, .ref t9, vI 0, vI 0], kI cI v0 21 (iniZ (nZ v)), kI cI a0 126 zeroZ, kI cI r0 9 zeroZ, kI cI f0 9 zeroZ, kI cI g0 9 zeroZ, kI cI d0 8 zeroZ, kI cI t9 40 zeroZ] := hD
  refine lv_astore_n (lv' := [(2, .ref q_3), (1, .ref q_1), (0, .ref b)]) hx hb dL_law_25 rfl hl (by decide) rfl (fun ls hl => ?_)
  refine z_iconst hx hb dL_law_26 ?_
  refine z_newl hx hb (hts _ (List.mem_append_left _ (List.mem_append_left _ (List.mem_append_left _ (List.mem_append_left _ (List.mem_append_left _ (List.mem_append_left _ (List.mem_append_left _ (List.mem_append_left _ (List.mem_append_left _ (List.mem_append_left _ (List.mem_append_left _ (List.mem_append_left _ (List.mem_append_left _ (List.mem_of_getElem? (i := 6) rfl))))))))))))))) hK hP hD hS hA 1 (by decide) (by show _ ≤ 601024; omega) (by show _ ≤ 7293000; omega) dL_law_27 (fun q_5 H hP hD hS => ?_)
  have hP : va_P dd vwCl [kO q_1 6 [vI (nZ v), .ref s0, .ref h0, .ref l0, .ref m0, .ref p0, .ref e0, .ref w0, .ref t0, vI 0], kO s0 5 [.ref s1, .ref s2, vI 0, vI 0, vI 0], kI cI s1 8 (cpZ (kZ 1) zeroZ 8), kI cI s2 9 zeroZ, kO h0 0 [.ref h1, vI 0], kR cS h1 6 (kfA ya), kO (ya 0 0) 5 [.ref (ya 0 1), .ref (ya 0 2), vI 0, vI 0, vI 0], kI cI (ya 0 1) 8 (cpZ (kZ 1) zeroZ 8), kI cI (ya 0 2) 9 zeroZ, kO (ya 1 0) 5 [.ref (ya 1 1), .ref (ya 1 2), vI 0, vI 0, vI 0], kI cI (ya 1 1) 8 (cpZ (kZ 1) zeroZ 8), kI cI (ya 1 2) 9 zeroZ, kO (ya 2 0) 5 [.ref (ya 2 1), .ref (ya 2 2), vI 0, vI 0, vI 0], kI cI (ya 2 1) 8 (cpZ (kZ 1) zeroZ 8), kI cI (ya 2 2) 9 zeroZ, kO (ya 3 0) 5 [.ref (ya 3 1), .ref (ya 3 2), vI 0, vI 0, vI 0], kI cI (ya 3 1) 8 (cpZ (kZ 1) zeroZ 8), kI cI (ya 3 2) 9 zeroZ, kO (ya 4 0) 5 [.ref (ya 4 1), .ref (ya 4 2), vI 0, vI 0, vI 0], kI cI (ya 4 1) 8 (cpZ (kZ 1) zeroZ 8), kI cI (ya 4 2) 9 zeroZ, kO (ya 5 0) 5 [.ref (ya 5 1), .ref (ya 5 2), vI 0, vI 0, vI 0], kI cI (ya 5 1) 8 (cpZ (kZ 1) zeroZ 8), kI cI (ya 5 2) 9 zeroZ, kO l0 1 [vI (nZ v), .ref l1, .ref l2, .ref l3, .ref l4, .ref l5, vI 0, vI 0, vI 0, vI 0], kI cI l1 8 zeroZ, kI cI l2 8 zeroZ, kI cI l3 9 zeroZ, kI cI l4 9 zeroZ, kI cI l5 9 zeroZ, kO m0 2 [.ref m1, .ref m2], kL cJ m1 1024 zeroZ, kI cI m2 1024 zeroZ, kO p0 3 [vI (nZ v), .ref p1, .ref p2], kI cI p1 8 zeroZ, kI cI p2 8 zeroZ, kO e0 4 [vI (nZ v), .ref e1, vI 0, vI 0, vI 0, vI 0, vI 0], kI cI e1 8 zeroZ, kI cI w0 8 zeroZ, kI cC t0 40 zeroZ, kO q_3 7 [vI (nZ v), .ref v0, .ref a0, vI 0, .ref r0, .ref f0, .ref g0, .ref d0, .ref t9, vI 0, vI 0], kI cI v0 21 (iniZ (nZ v)), kI cI a0 126 zeroZ, kI cI r0 9 zeroZ, kI cI f0 9 zeroZ, kI cI g0 9 zeroZ, kI cI d0 8 zeroZ, kI cI t9 40 zeroZ, kL cJ q_5 1 zeroZ] H := hP
  have hD : va_D A [kO q_1 6 [vI (nZ v), .ref s0, .ref h0, .ref l0, .ref m0, .ref p0, .ref e0, .ref w0, .ref t0, vI 0], kO s0 5 [.ref s1, .ref s2, vI 0, vI 0, vI 0], kI cI s1 8 (cpZ (kZ 1) zeroZ 8), kI cI s2 9 zeroZ, kO h0 0 [.ref h1, vI 0], kR cS h1 6 (kfA ya), kO (ya 0 0) 5 [.ref (ya 0 1), .ref (ya 0 2), vI 0, vI 0, vI 0], kI cI (ya 0 1) 8 (cpZ (kZ 1) zeroZ 8), kI cI (ya 0 2) 9 zeroZ, kO (ya 1 0) 5 [.ref (ya 1 1), .ref (ya 1 2), vI 0, vI 0, vI 0], kI cI (ya 1 1) 8 (cpZ (kZ 1) zeroZ 8), kI cI (ya 1 2) 9 zeroZ, kO (ya 2 0) 5 [.ref (ya 2 1), .ref (ya 2 2), vI 0, vI 0, vI 0], kI cI (ya 2 1) 8 (cpZ (kZ 1) zeroZ 8), kI cI (ya 2 2) 9 zeroZ, kO (ya 3 0) 5 [.ref (ya 3 1), .ref (ya 3 2), vI 0, vI 0, vI 0], kI cI (ya 3 1) 8 (cpZ (kZ 1) zeroZ 8), kI cI (ya 3 2) 9 zeroZ, kO (ya 4 0) 5 [.ref (ya 4 1), .ref (ya 4 2), vI 0, vI 0, vI 0], kI cI (ya 4 1) 8 (cpZ (kZ 1) zeroZ 8), kI cI (ya 4 2) 9 zeroZ, kO (ya 5 0) 5 [.ref (ya 5 1), .ref (ya 5 2), vI 0, vI 0, vI 0], kI cI (ya 5 1) 8 (cpZ (kZ 1) zeroZ 8), kI cI (ya 5 2) 9 zeroZ, kO l0 1 [vI (nZ v), .ref l1, .ref l2, .ref l3, .ref l4, .ref l5, vI 0, vI 0, vI 0, vI 0], kI cI l1 8 zeroZ, kI cI l2 8 zeroZ, kI cI l3 9 zeroZ, kI cI l4 9 zeroZ, kI cI l5 9 zeroZ, kO m0 2 [.ref m1, .ref m2], kL cJ m1 1024 zeroZ, kI cI m2 1024 zeroZ, kO p0 3 [vI (nZ v), .ref p1, .ref p2], kI cI p1 8 zeroZ, kI cI p2 8 zeroZ, kO e0 4 [vI (nZ v), .ref e1, vI 0, vI 0, vI 0, vI 0, vI 0], kI cI e1 8 zeroZ, kI cI w0 8 zeroZ, kI cC t0 40 zeroZ, kO q_3 7 [vI (nZ v), .ref v0, .ref a0, vI 0, .ref r0, .ref f0, .ref g0, .ref d0, .ref t9, vI 0, vI 0], kI cI v0 21 (iniZ (nZ v)), kI cI a0 126 zeroZ, kI cI r0 9 zeroZ, kI cI f0 9 zeroZ, kI cI g0 9 zeroZ, kI cI d0 8 zeroZ, kI cI t9 40 zeroZ, kL cJ q_5 1 zeroZ] := hD
  refine lv_astore_n (lv' := [(3, .ref q_5), (2, .ref q_3), (1, .ref q_1), (0, .ref b)]) hx hb dL_law_29 rfl hl (by decide) rfl (fun ls hl => ?_)
  refine z_iconst hx hb dL_law_30 ?_
  refine lv_istore (lv' := [(4, vI 1), (3, .ref q_5), (2, .ref q_3), (1, .ref q_1), (0, .ref b)]) hx hb dL_law_31 hl (by decide) rfl (fun ls hl => ?_)
  have es_6 : vI 0 = vI ((iniZ (nZ v)) 0) := congrArg _ (by rfl)
  have es_7 : vI 0 = vI ((iniZ (nZ v)) 1) := congrArg _ (by rfl)
  have es_8 : vI 0 = vI ((iniZ (nZ v)) 2) := congrArg _ (by rfl)
  have es_9 : kI cI s1 8 (cpZ (kZ 1) zeroZ 8) = kI cI s1 8 (capM (nZ v) (iniZ (nZ v))) := kI_congr (cap_to (fun j a b => by rw [cpZ_lt (by have := nZ_rg v; omega)]; exact (if_pos (by omega)).symm) (fun j a b => rfl))
  rw [es_9] at hP hD
  have es_10 : kI cI s2 9 zeroZ = kI cI s2 9 (wv (iniZ (nZ v))) := kI_congr (wv_to (fun j a => (if_neg (by have := nZ_rg v; omega)).symm))
  rw [es_10] at hP hD
  have es_11 : vI 0 = vI ((fun _ => 0) 0) := congrArg _ (by rfl)
  have es_12 : vI 0 = vI ((fun _ => 0) 0) := congrArg _ (by rfl)
  have es_13 : vI 0 = vI ((fun _ => 0) 0) := congrArg _ (by rfl)
  have es_14 : vI 0 = vI ((fun _ => 0) 1) := congrArg _ (by rfl)
  have es_15 : vI 0 = vI ((fun _ => 0) 1) := congrArg _ (by rfl)
  have es_16 : vI 0 = vI ((fun _ => 0) 1) := congrArg _ (by rfl)
  have es_17 : vI 0 = vI ((fun _ => 0) 2) := congrArg _ (by rfl)
  have es_18 : vI 0 = vI ((fun _ => 0) 2) := congrArg _ (by rfl)
  have es_19 : vI 0 = vI ((fun _ => 0) 2) := congrArg _ (by rfl)
  have es_20 : vI 0 = vI ((fun _ => 0) 3) := congrArg _ (by rfl)
  have es_21 : vI 0 = vI ((fun _ => 0) 3) := congrArg _ (by rfl)
  have es_22 : vI 0 = vI ((fun _ => 0) 3) := congrArg _ (by rfl)
  have es_23 : vI 0 = vI ((fun _ => 0) 4) := congrArg _ (by rfl)
  have es_24 : vI 0 = vI ((fun _ => 0) 4) := congrArg _ (by rfl)
  have es_25 : vI 0 = vI ((fun _ => 0) 4) := congrArg _ (by rfl)
  have es_26 : vI 0 = vI ((fun _ => 0) 5) := congrArg _ (by rfl)
  have es_27 : vI 0 = vI ((fun _ => 0) 5) := congrArg _ (by rfl)
  have es_28 : vI 0 = vI ((fun _ => 0) 5) := congrArg _ (by rfl)
  have hP : va_P dd vwCl [kO q_1 6 [vI (nZ v), .ref s0, .ref h0, .ref l0, .ref m0, .ref p0, .ref e0, .ref w0, .ref t0, vI 0], kO s0 5 [.ref s1, .ref s2, vI ((iniZ (nZ v)) 0), vI ((iniZ (nZ v)) 1), vI ((iniZ (nZ v)) 2)], kI cI s1 8 (capM (nZ v) (iniZ (nZ v))), kI cI s2 9 (wv (iniZ (nZ v))), kO h0 0 [.ref h1, vI 0], kR cS h1 6 (kfA ya), kO (ya 0 0) 5 [.ref (ya 0 1), .ref (ya 0 2), vI ((fun _ => 0) 0), vI ((fun _ => 0) 0), vI ((fun _ => 0) 0)], kI cI (ya 0 1) 8 ((fun _ => cpZ (kZ 1) zeroZ 8) 0), kI cI (ya 0 2) 9 ((fun _ => zeroZ) 0), kO (ya 1 0) 5 [.ref (ya 1 1), .ref (ya 1 2), vI ((fun _ => 0) 1), vI ((fun _ => 0) 1), vI ((fun _ => 0) 1)], kI cI (ya 1 1) 8 ((fun _ => cpZ (kZ 1) zeroZ 8) 1), kI cI (ya 1 2) 9 ((fun _ => zeroZ) 1), kO (ya 2 0) 5 [.ref (ya 2 1), .ref (ya 2 2), vI ((fun _ => 0) 2), vI ((fun _ => 0) 2), vI ((fun _ => 0) 2)], kI cI (ya 2 1) 8 ((fun _ => cpZ (kZ 1) zeroZ 8) 2), kI cI (ya 2 2) 9 ((fun _ => zeroZ) 2), kO (ya 3 0) 5 [.ref (ya 3 1), .ref (ya 3 2), vI ((fun _ => 0) 3), vI ((fun _ => 0) 3), vI ((fun _ => 0) 3)], kI cI (ya 3 1) 8 ((fun _ => cpZ (kZ 1) zeroZ 8) 3), kI cI (ya 3 2) 9 ((fun _ => zeroZ) 3), kO (ya 4 0) 5 [.ref (ya 4 1), .ref (ya 4 2), vI ((fun _ => 0) 4), vI ((fun _ => 0) 4), vI ((fun _ => 0) 4)], kI cI (ya 4 1) 8 ((fun _ => cpZ (kZ 1) zeroZ 8) 4), kI cI (ya 4 2) 9 ((fun _ => zeroZ) 4), kO (ya 5 0) 5 [.ref (ya 5 1), .ref (ya 5 2), vI ((fun _ => 0) 5), vI ((fun _ => 0) 5), vI ((fun _ => 0) 5)], kI cI (ya 5 1) 8 ((fun _ => cpZ (kZ 1) zeroZ 8) 5), kI cI (ya 5 2) 9 ((fun _ => zeroZ) 5), kO l0 1 [vI (nZ v), .ref l1, .ref l2, .ref l3, .ref l4, .ref l5, vI 0, vI 0, vI 0, vI 0], kI cI l1 8 zeroZ, kI cI l2 8 zeroZ, kI cI l3 9 zeroZ, kI cI l4 9 zeroZ, kI cI l5 9 zeroZ, kO m0 2 [.ref m1, .ref m2], kL cJ m1 1024 zeroZ, kI cI m2 1024 zeroZ, kO p0 3 [vI (nZ v), .ref p1, .ref p2], kI cI p1 8 zeroZ, kI cI p2 8 zeroZ, kO e0 4 [vI (nZ v), .ref e1, vI 0, vI 0, vI 0, vI 0, vI 0], kI cI e1 8 zeroZ, kI cC t0 40 zeroZ, kI cI w0 8 zeroZ, kO q_3 7 [vI (nZ v), .ref v0, .ref a0, vI 0, .ref r0, .ref f0, .ref g0, .ref d0, .ref t9, vI 0, vI 0], kI cI v0 21 (iniZ (nZ v)), kI cI a0 126 zeroZ, kI cI r0 9 zeroZ, kI cI f0 9 zeroZ, kI cI g0 9 zeroZ, kI cI d0 8 zeroZ, kI cI t9 40 zeroZ, kL cJ q_5 1 zeroZ] H := hP.sub [0, 1, 2, 3, 4, 5, 6, 7, 8, 9, 10, 11, 12, 13, 14, 15, 16, 17, 18, 19, 20, 21, 22, 23, 24, 25, 26, 27, 28, 29, 30, 31, 32, 33, 34, 35, 36, 37, 39, 38, 40, 41, 42, 43, 44, 45, 46, 47, 48] rfl
  have hD : va_D A [kO q_1 6 [vI (nZ v), .ref s0, .ref h0, .ref l0, .ref m0, .ref p0, .ref e0, .ref w0, .ref t0, vI 0], kO s0 5 [.ref s1, .ref s2, vI ((iniZ (nZ v)) 0), vI ((iniZ (nZ v)) 1), vI ((iniZ (nZ v)) 2)], kI cI s1 8 (capM (nZ v) (iniZ (nZ v))), kI cI s2 9 (wv (iniZ (nZ v))), kO h0 0 [.ref h1, vI 0], kR cS h1 6 (kfA ya), kO (ya 0 0) 5 [.ref (ya 0 1), .ref (ya 0 2), vI ((fun _ => 0) 0), vI ((fun _ => 0) 0), vI ((fun _ => 0) 0)], kI cI (ya 0 1) 8 ((fun _ => cpZ (kZ 1) zeroZ 8) 0), kI cI (ya 0 2) 9 ((fun _ => zeroZ) 0), kO (ya 1 0) 5 [.ref (ya 1 1), .ref (ya 1 2), vI ((fun _ => 0) 1), vI ((fun _ => 0) 1), vI ((fun _ => 0) 1)], kI cI (ya 1 1) 8 ((fun _ => cpZ (kZ 1) zeroZ 8) 1), kI cI (ya 1 2) 9 ((fun _ => zeroZ) 1), kO (ya 2 0) 5 [.ref (ya 2 1), .ref (ya 2 2), vI ((fun _ => 0) 2), vI ((fun _ => 0) 2), vI ((fun _ => 0) 2)], kI cI (ya 2 1) 8 ((fun _ => cpZ (kZ 1) zeroZ 8) 2), kI cI (ya 2 2) 9 ((fun _ => zeroZ) 2), kO (ya 3 0) 5 [.ref (ya 3 1), .ref (ya 3 2), vI ((fun _ => 0) 3), vI ((fun _ => 0) 3), vI ((fun _ => 0) 3)], kI cI (ya 3 1) 8 ((fun _ => cpZ (kZ 1) zeroZ 8) 3), kI cI (ya 3 2) 9 ((fun _ => zeroZ) 3), kO (ya 4 0) 5 [.ref (ya 4 1), .ref (ya 4 2), vI ((fun _ => 0) 4), vI ((fun _ => 0) 4), vI ((fun _ => 0) 4)], kI cI (ya 4 1) 8 ((fun _ => cpZ (kZ 1) zeroZ 8) 4), kI cI (ya 4 2) 9 ((fun _ => zeroZ) 4), kO (ya 5 0) 5 [.ref (ya 5 1), .ref (ya 5 2), vI ((fun _ => 0) 5), vI ((fun _ => 0) 5), vI ((fun _ => 0) 5)], kI cI (ya 5 1) 8 ((fun _ => cpZ (kZ 1) zeroZ 8) 5), kI cI (ya 5 2) 9 ((fun _ => zeroZ) 5), kO l0 1 [vI (nZ v), .ref l1, .ref l2, .ref l3, .ref l4, .ref l5, vI 0, vI 0, vI 0, vI 0], kI cI l1 8 zeroZ, kI cI l2 8 zeroZ, kI cI l3 9 zeroZ, kI cI l4 9 zeroZ, kI cI l5 9 zeroZ, kO m0 2 [.ref m1, .ref m2], kL cJ m1 1024 zeroZ, kI cI m2 1024 zeroZ, kO p0 3 [vI (nZ v), .ref p1, .ref p2], kI cI p1 8 zeroZ, kI cI p2 8 zeroZ, kO e0 4 [vI (nZ v), .ref e1, vI 0, vI 0, vI 0, vI 0, vI 0], kI cI e1 8 zeroZ, kI cC t0 40 zeroZ, kI cI w0 8 zeroZ, kO q_3 7 [vI (nZ v), .ref v0, .ref a0, vI 0, .ref r0, .ref f0, .ref g0, .ref d0, .ref t9, vI 0, vI 0], kI cI v0 21 (iniZ (nZ v)), kI cI a0 126 zeroZ, kI cI r0 9 zeroZ, kI cI f0 9 zeroZ, kI cI g0 9 zeroZ, kI cI d0 8 zeroZ, kI cI t9 40 zeroZ, kL cJ q_5 1 zeroZ] := hD.sub [0, 1, 2, 3, 4, 5, 6, 7, 8, 9, 10, 11, 12, 13, 14, 15, 16, 17, 18, 19, 20, 21, 22, 23, 24, 25, 26, 27, 28, 29, 30, 31, 32, 33, 34, 35, 36, 37, 39, 38, 40, 41, 42, 43, 44, 45, 46, 47, 48] (by decide) rfl
  have hnz := nZ_rg v
  have hVi : VAL (nZ v) (iniZ (nZ v)) := by
    have e : ∀ j : Int, (j < 3 ∨ 3 + nZ v ≤ j) → iniZ (nZ v) j = 0 := fun j h => if_neg (by omega)
    refine VAL_of (by rw [e 0 (by omega)]; decide) (by rw [e 1 (by omega)]; decide) (by rw [e 2 (by omega)]; decide) (fun j a b => ?_) (fun j a b => ?_)
    · rw [show iniZ (nZ v) (3 + j) = 1 from if_pos (by omega)]; decide
    · rw [e 0 (by omega)] at b; omega
  exact law_loop l hfl dd cI cJ cC cS q_1 s0 h0 l0 m0 p0 e0 w0 t0 s1 s2 h1 l1 l2 l3 l4 l5 m1 m2 p1 p2 e1 q_3 v0 a0 r0 f0 g0 d0 t9 q_5 b L xs hLL hx hb hml hown hts hK A hA hE hC9 hX hbl hbA (nZ v) hnz hL KE (L + 3) 1 _ _ (by omega) (by decide) (by omega) (by omega) (iniZ (nZ v)) zeroZ zeroZ 0 0 0 ya (fun _ => cpZ (kZ 1) zeroZ 8) (fun _ => zeroZ) (fun _ => 0) (fun _ => 0) (fun _ => 0) 0 0 0 0 zeroZ zeroZ zeroZ zeroZ zeroZ zeroZ zeroZ zeroZ zeroZ 0 0 0 0 0 zeroZ zeroZ zeroZ zeroZ zeroZ zeroZ zeroZ H locs ls hVi (fun i hi => absurd hi (by omega)) (by decide) (by decide) (fun j a b => absurd b (by omega)) (fun j a b => ⟨Int.le_refl _, by show (0 : Int) ≤ 9; omega⟩) hP hD hS (lv_sub hl [0, 4, 3, 2, 1] rfl)
set_option maxHeartbeats 4000000 in
theorem lw_walk (l : Launch) (hflags : l.flags = flags0) (b : Addr) (xs : List Int32) : MetFree l x (headSpec (Jvm.Cond.code x code maxLocals ret :: tables_1) room_1) (lw_P b xs) (fun _ _ _ _ _ => True) lw_Q := by
  refine MetFree.of_bodyS (code := code) (maxLocals := maxLocals) (ret := ret) (by decide) ?_ ?_
  · intro args s m h hn
    obtain ⟨meth, c, h1, h2, h3, h4, h5, h6, -, -⟩ := Cond.code_spec hn (atoms_spec (ws := Jvm.Cond.code x code maxLocals ret :: tables_1) h _ List.mem_cons_self)
    exact ⟨meth, c, h1, h2, h3, h4, h5, h6⟩
  · intro p e s m args below meth c s₁ B hml0 hP _
    obtain ⟨rfl, hx, hbd, hgv⟩ := hP
    obtain ⟨scr, harrAt, hlist, hof, hsmall⟩ := hx
    obtain ⟨hcb, hkn, -, -⟩ := State.arrayAt?_spec harrAt
    have hown : s.vm.findClass R_law = some m.cls := findClass_of_methodNamed B.named
    have hts0 : ∀ c ∈ (Jvm.Cond.code x code maxLocals ret :: tables_1), c.before #[Value.ref b] s = true := atoms_spec (ws := Jvm.Cond.code x code maxLocals ret :: tables_1) B.pre
    have hts : ∀ w ∈ lw_tbl, w.before #[Value.ref b] s = true := k2_hts_sels lw_privs (fun w hw => hts0 w (List.mem_cons_of_mem _ hw)) lw_privs_ok
    have hml : c.maxLocals = 7 := B.maxLocals_eq (hts0 _ List.mem_cons_self)
    have X₀ : Stand p l e room_1 s m #[Value.ref b] below meth c s₁ [] 0 0 := Stand.of_body B
    have hh0 : s₁.heap = s.heap := by rw [B.state]; rfl
    have hsz : scr.slots.size = xs.length := by rw [← Array.length_toList, hlist, List.length_map]
    have hval : ∀ j : Nat, j < xs.length → scr.slots[j]? = some (.int (xs.getD j 0)) := fun j hj => by
      rw [← Array.getElem?_toList, hlist]
      simp [hj]
    have hbl : b < s.heap.size := (Array.getElem?_eq_some_iff.mp hcb).1
    have hX : va_X b xs.length (fun j => xs.getD j 0) s s.heap := ⟨scr, hcb, hof, hkn, hsz, hval⟩
    have K : W p l e room_1 s m #[Value.ref b] below meth c s₁.heap [] 0 0 (lw_Z below #[Value.ref b] s) (entryFrame m ([Value.ref b] : List Value).toArray 7) := by
      rw [hh0]
      exact whole_start l hflags hbd ⟨B.exec, B.bytes, B.returns, hml, hown, hts, hX, hbl, B.notSynchronized, hgv⟩
    obtain ⟨t, a1, o, b1, b2, b3⟩ := K s₁ rfl X₀
    exact ⟨t, o, a1, b1, b2, b3⟩
theorem lw_pre_spec {args : Array Value} {s : State} (h : (Jvm.Cond.and given_1 narrow_1).before args s = true) (hr : rest_1_c.before args s = true) : ∃ (b : Addr) (xs : List Int32), lw_P b xs args s := by
  have hs := flat_of_before _ h
  have hq := flat_of_before _ hr
  have hc : (Cond.count 1).before args s = true := hs _ (by decide +kernel)
  have harr : (Cond.arrayOf (.arg 0) .int).before args s = true := hs _ (by decide +kernel)
  have hle : (Cond.le (.length (.arg 0)) (.int 1537)).before args s = true := hs _ (by decide +kernel)
  have hlen : (Cond.isInt (.length (.arg 0))).before args s = true := hq _ (by decide +kernel)
  have hall : (Cond.all (.arg 0) (.isInt (.elem (.arg 0) (.index 0)))).before args s = true := hq _ (by decide +kernel)
  obtain ⟨b, xs, hb, hx⟩ := State.ints_of_pre rfl harr hlen hall
  have hsm : xs.length < 2 ^ 31 := hx.choose_spec.2.2.2
  have hev : (Term.length (.arg 0)).eval args s none [] s = some (.int xs.length.toInt32) := hx.length_eval hb
  have hv := Cond.le_ints hev (show (Term.int 1537).eval args s none [] s = some (.int 1537) from rfl)
  have hd : xs.length.toInt32 ≤ 1537 := by
    simpa [Cond.before, Cond.holds, hv] using hle
  have hN : xs.length ≤ 1537 := (Int32.ofNat_le_ofNat hsm (by decide)).mp (show Int32.ofNat xs.length ≤ Int32.ofNat 1537 from hd)
  exact ⟨b, xs, Cond.one_arg hc (show args[0]? = some (.ref b) from hb), hx, hN, h⟩
theorem lw_comes (l : Launch) (hflags : l.flags = flags0) : Comes l x (Jvm.Cond.code x code maxLocals ret :: tables_1) room_1 (fun tb e args s => Calls_1 tb e args s ∧ rest_1 tb e args s ∧ Pre_1 tb e args s)
    (fun _ _ args s o t => lw_Q args s o t) := by
  intro p e ha hc hk s m args below hf hfit hheap happ hpre
  obtain ⟨b, xs, hP⟩ := lw_pre_spec hpre.2.2 hpre.2.1
  obtain ⟨k, o, h1, h2, h3, hQ⟩ := lw_walk l hflags b xs p e ha hc hk s m args below hf ((Spec.applies_iff_loose hf).mp happ).1 hP trivial
  exact ⟨k, o, h1, h2, h3, hQ⟩
theorem lw_frame {s t : State} {o : Outcome} {args : Array Value} (h : Framed s o t [] 601024 7293000) :
    Framed s o t (fieldLocs frame_1_writes args s ++ arrayLocs frame_1_arrays args s ++ staticLocs frame_1_statics s) 601024 7293000 := h
theorem lw_limb (L : Cond) (hL : ∀ (args : Array Value) (s t : State), L.after args s (.returned (some (.int 1))) t = true) :
    ArmFor flags0 classFile x code maxLocals ret World_1 tables_1 room_1 Calls_1 rest_1 Pre_1
      (fun tb e a s o t => postC L tb e a s o t ∧ Framed s o t (fieldLocs frame_1_writes a s ++ arrayLocs frame_1_arrays a s ++ staticLocs frame_1_statics s) 601024 7293000) := by
  intro l hflags _ _ p e ha hc hk s m args below hf hfit hheap happ hpre
  obtain ⟨k, o, h1, h2, h3, rfl, hF⟩ := lw_comes l hflags p e ha hc hk s m args below hf hfit hheap happ hpre
  exact ⟨k, _, h1, h2, h3, hL args s _, lw_frame hF⟩
theorem i_vc : Claimed_1_1 ∧ Claimed_1_2 := ⟨lw_limb limb_1_1 (fun args s t => by simp [limb_1_1, Cond.after, Cond.holds, Cond.value]), lw_limb limb_1_2 (fun args s t => Cond.after_iff.mpr (by
  first | (rw [show limb_1_2 = Cond.eq .result (.int 1) from rfl, Cond.eq_ints (x := 1) (y := 1) rfl rfl]; simp; done) | (simp [limb_1_2, Cond.value, Term.eval]; done)))⟩
