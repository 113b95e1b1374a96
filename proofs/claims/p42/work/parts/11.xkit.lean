/-! methods that return or throw: contracts of one shape -/
def xIO : String := "java/lang/IndexOutOfBoundsException"
def xIA : String := "java/lang/IllegalArgumentException"
def xIS : String := "java/lang/IllegalStateException"
def xB : List Cond := [.declares ⟨"java/lang/RuntimeException", "<init>", "(Ljava/lang/String;)V"⟩, .declares ⟨"java/lang/Exception", "<init>", "(Ljava/lang/String;)V"⟩, .declares ⟨"java/lang/Throwable", "<init>", "(Ljava/lang/String;)V"⟩, .castable xIO xIO, .castable xIA xIA, .castable xIS xIS]
def gE (A : Nat → Prop) (U : State) (H : Heap) : Prop := vx_Zq Bundle.tN "UNASSIGNED_STACK" Bundle.steD A U H ∧ vx_Zq Bundle.tN "SUPPRESSED_SENTINEL" Bundle.listD A U H ∧ (∃ a, vk_R RX6 286 "there is nothing with this number" a U) ∧ (∃ a, vk_R RX6 293 "an argument is out of its range" a U) ∧ (∃ a, vk_R RX6 298 "the call is not possible now" a U) ∧ ∀ w ∈ xB, va_Nw w U
theorem xB_warm {s U : State} (hW : s.WarmedH U.vm) (h : ∀ w ∈ xB, va_Nw w s) : ∀ w ∈ xB, va_Nw w U := by
  unfold xB at h ⊢
  refine List.forall_mem_cons.mpr ⟨va_Nw.warmD hW (h _ (List.mem_of_getElem? (i := 0) rfl)), List.forall_mem_cons.mpr ⟨va_Nw.warmD hW (h _ (List.mem_of_getElem? (i := 1) rfl)), List.forall_mem_cons.mpr ⟨va_Nw.warmD hW (h _ (List.mem_of_getElem? (i := 2) rfl)), List.forall_mem_cons.mpr ⟨va_Nw.warmC hW (h _ (List.mem_of_getElem? (i := 3) rfl)), List.forall_mem_cons.mpr ⟨va_Nw.warmC hW (h _ (List.mem_of_getElem? (i := 4) rfl)), List.forall_mem_cons.mpr ⟨va_Nw.warmC hW (h _ (List.mem_of_getElem? (i := 5) rfl)), fun _ h => nomatch h⟩⟩⟩⟩⟩⟩
theorem xB_same {s U : State} (hvm : s.vm = U.vm) (h : ∀ w ∈ xB, va_Nw w s) : ∀ w ∈ xB, va_Nw w U := by
  unfold xB at h ⊢
  refine List.forall_mem_cons.mpr ⟨va_Nw.same rfl hvm (h _ (List.mem_of_getElem? (i := 0) rfl)), List.forall_mem_cons.mpr ⟨va_Nw.same rfl hvm (h _ (List.mem_of_getElem? (i := 1) rfl)), List.forall_mem_cons.mpr ⟨va_Nw.same rfl hvm (h _ (List.mem_of_getElem? (i := 2) rfl)), List.forall_mem_cons.mpr ⟨va_Nw.same rfl hvm (h _ (List.mem_of_getElem? (i := 3) rfl)), List.forall_mem_cons.mpr ⟨va_Nw.same rfl hvm (h _ (List.mem_of_getElem? (i := 4) rfl)), List.forall_mem_cons.mpr ⟨va_Nw.same rfl hvm (h _ (List.mem_of_getElem? (i := 5) rfl)), fun _ h => nomatch h⟩⟩⟩⟩⟩⟩
theorem gE_calling {A : Nat → Prop} {U : State} {g : JFrame} {mk : MethodId} {a : Array Value} (h : gE A U U.heap) : gE A (U.calling g mk a) (U.calling g mk a).heap := by
  obtain ⟨h1, h2, ⟨a3, h3⟩, ⟨a4, h4⟩, ⟨a5, h5⟩, h6⟩ := h
  exact ⟨vx_Zq.moved (u := U) (U := U.calling g mk a) (Vm.Alike.refl U.vm) h1, vx_Zq.moved (u := U) (U := U.calling g mk a) (Vm.Alike.refl U.vm) h2, ⟨a3, vk_R.same rfl h3⟩, ⟨a4, vk_R.same rfl h4⟩, ⟨a5, vk_R.same rfl h5⟩, xB_same (s := U) (U := U.calling g mk a) rfl h6⟩
theorem gE_call {A0 B : Nat → Prop} {s U : State} {H : Heap} {locs : List Loc} (h : gE A0 s s.heap) (hS : va_S A0 s.heap H locs) (hB : ∀ q, B q → A0 q) (hU : U.heap = H) (hW : s.WarmedH U.vm) : gE B U U.heap := by
  obtain ⟨h1, h2, ⟨a3, h3⟩, ⟨a4, h4⟩, ⟨a5, h5⟩, h6⟩ := h
  rw [hU]
  exact ⟨((h1.kept (fun a q1 q2 => hS.2.1 a q1 q2)).narrow hB).moved hW.alike, ((h2.kept (fun a q1 q2 => hS.2.1 a q1 q2)).narrow hB).moved hW.alike, ⟨a3, vk_R.warm hW h3⟩, ⟨a4, vk_R.warm hW h4⟩, ⟨a5, vk_R.warm hW h5⟩, xB_warm hW h6⟩
def gPreX (dd : va_G) (cI cJ cC cS : ClassId) (wc : va_W) (sz : Nat) : State → Prop := fun U => gPre dd cI cJ cC cS wc sz U ∧ gE (va_A wc sz) U U.heap
theorem gPreX_blind {dd : va_G} {cI cJ cC cS : ClassId} {av : List Value} {wc : va_W} {sz : Nat} : FrameBlind (va_Pc av (gPreX dd cI cJ cC cS wc sz)) := fun a U g mk q => by
  obtain ⟨h1, ⟨h2, h3, h4, h5⟩, h6⟩ := q
  exact ⟨h1, ⟨h2, h3, va_K.moved (u := U) (U := U.calling g mk a) (Vm.Alike.refl U.vm) h4, h5⟩, gE_calling h6⟩
def gXQ (dd : va_G) (cI cJ cC cS : ClassId) {SX : Type} (px : String → SX → Prop) (wx : SX → va_W) (A : Nat → Prop) : String → State → State → Prop := vx_X (S := String × SX) (fun u => px u.1 u.2) (fun E u t => E = u.1 ∧ gAt dd cI cJ cC cS wx A u.2 t) A
def gXi (l : Launch) (y : MethodName) (wsy : List Cond) (k mc ms : Nat) (dd : va_G) (cI cJ cC cS : ClassId) (av : List Value) (wc : va_W) (sz : Nat) {S SX : Type} (post : Int → S → Prop) (w1 : S → va_W) (px : String → SX → Prop) (wx : SX → va_W) : Prop :=
  vx_Met l y wsy (gR k mc ms) (va_Pc av (gPreX dd cI cJ cC cS wc sz)) (va_Qi (fun r u => ∃ z : Int, r = zI z ∧ post z u) (gAt dd cI cJ cC cS w1 (va_A wc sz)) (va_A wc sz)) (gXQ dd cI cJ cC cS px wx (va_A wc sz)) mc ms (va_A wc sz)
theorem gXi_of {l : Launch} {y : MethodName} {wsy ws' : List Cond} {k mc ms : Nat} {dd : va_G} {cI cJ cC cS : ClassId} {av : List Value} {wc : va_W} {sz : Nat} {S SX : Type} {post : Int → S → Prop} {w1 : S → va_W} {px : String → SX → Prop} {wx : SX → va_W} {cc : ByteArray} {maxL : Nat} {ret : Option FieldType}
    (hy : plainName y.cls = true) (hw : wsy = Cond.code y cc maxL ret :: ws') (hav : (lg_sl av).length ≤ maxL)
    (body : ∀ (p : Program) (e : Env) (s : State) (m : MethodId) (args : Array Value) (below : List Frame) (meth : Method) (c : Code) (A : Nat → Prop) (Q : State → Prop), Q = vx_MQ below (va_Qi (fun r u => ∃ z : Int, r = zI z ∧ post z u) (gAt dd cI cJ cC cS w1 A) A) (gXQ dd cI cJ cC cS px wx A) args s mc ms A → gE A s s.heap → (∀ x ∈ c.exceptionTable.toList, False) → p.tables.exec = Jvm.exec → c.code = cc → meth.sig.returnType = ret → (∀ w ∈ wsy, w.before args s = true) → s.vm.findClass y.cls = some m.cls → meth.locks = false → meth.name = y.name → c.maxLocals = maxL → ∀ (H : Heap) (locs : List Loc), va_P dd vwCl wc H → va_K dd vwCl (gty cI cJ cC cS) s → va_D A wc → (∀ q : Nat, s.heap.size ≤ q → A q) → va_S A s.heap H locs →
      ∀ ls : Array Slot, lv_has ls maxL (lv_args 0 av) → W p l e (gR k mc ms) s m args below meth c H locs 0 0 Q (F0 m 0 ls [])) :
    gXi l y wsy k mc ms dd cI cJ cC cS av wc sz post w1 px wx := by
  refine vx_ofW (cc := cc) (maxL := maxL) (ret := ret) hy hw ?_
  intro p e s m args below meth c s₁ B hml htb hv
  obtain ⟨rfl, ⟨hsz, hP, hK, hD0⟩, hE⟩ := hv
  subst hsz
  have hD := hD0.self (sz := s.heap.size)
  have hl := lv_entry av (n := maxL) hav
  rw [lg_entry_eq]
  generalize (lg_sl av ++ List.replicate (maxL - (lg_sl av).length) Slot.unset).toArray = ls at hl ⊢
  exact body p e s m _ below meth c (va_A wc s.heap.size) _ rfl hE htb B.exec B.bytes B.returns (atoms_spec (ws := wsy) B.pre) (findClass_of_methodNamed B.named) B.notSynchronized (name_of_methodNamed B.named B.method).1 hml s.heap [] hP hK hD (fun q h => Or.inr h) va_S.rf ls hl
def gXv (l : Launch) (y : MethodName) (wsy : List Cond) (k mc ms : Nat) (dd : va_G) (cI cJ cC cS : ClassId) (av : List Value) (wc : va_W) (sz : Nat) {S SX : Type} (post : S → Prop) (w1 : S → va_W) (px : String → SX → Prop) (wx : SX → va_W) : Prop :=
  vx_Met l y wsy (gR k mc ms) (va_Pc av (gPreX dd cI cJ cC cS wc sz)) (va_Qv post (gAt dd cI cJ cC cS w1 (va_A wc sz)) (va_A wc sz)) (gXQ dd cI cJ cC cS px wx (va_A wc sz)) mc ms (va_A wc sz)
theorem gXv_of {l : Launch} {y : MethodName} {wsy ws' : List Cond} {k mc ms : Nat} {dd : va_G} {cI cJ cC cS : ClassId} {av : List Value} {wc : va_W} {sz : Nat} {S SX : Type} {post : S → Prop} {w1 : S → va_W} {px : String → SX → Prop} {wx : SX → va_W} {cc : ByteArray} {maxL : Nat} {ret : Option FieldType}
    (hy : plainName y.cls = true) (hw : wsy = Cond.code y cc maxL ret :: ws') (hav : (lg_sl av).length ≤ maxL)
    (body : ∀ (p : Program) (e : Env) (s : State) (m : MethodId) (args : Array Value) (below : List Frame) (meth : Method) (c : Code) (A : Nat → Prop) (Q : State → Prop), Q = vx_MQ below (va_Qv post (gAt dd cI cJ cC cS w1 A) A) (gXQ dd cI cJ cC cS px wx A) args s mc ms A → gE A s s.heap → (∀ x ∈ c.exceptionTable.toList, False) → p.tables.exec = Jvm.exec → c.code = cc → meth.sig.returnType = ret → (∀ w ∈ wsy, w.before args s = true) → s.vm.findClass y.cls = some m.cls → meth.locks = false → meth.name = y.name → c.maxLocals = maxL → ∀ (H : Heap) (locs : List Loc), va_P dd vwCl wc H → va_K dd vwCl (gty cI cJ cC cS) s → va_D A wc → (∀ q : Nat, s.heap.size ≤ q → A q) → va_S A s.heap H locs →
      ∀ ls : Array Slot, lv_has ls maxL (lv_args 0 av) → W p l e (gR k mc ms) s m args below meth c H locs 0 0 Q (F0 m 0 ls [])) :
    gXv l y wsy k mc ms dd cI cJ cC cS av wc sz post w1 px wx := by
  refine vx_ofW (cc := cc) (maxL := maxL) (ret := ret) hy hw ?_
  intro p e s m args below meth c s₁ B hml htb hv
  obtain ⟨rfl, ⟨hsz, hP, hK, hD0⟩, hE⟩ := hv
  subst hsz
  have hD := hD0.self (sz := s.heap.size)
  have hl := lv_entry av (n := maxL) hav
  rw [lg_entry_eq]
  generalize (lg_sl av ++ List.replicate (maxL - (lg_sl av).length) Slot.unset).toArray = ls at hl ⊢
  exact body p e s m _ below meth c (va_A wc s.heap.size) _ rfl hE htb B.exec B.bytes B.returns (atoms_spec (ws := wsy) B.pre) (findClass_of_methodNamed B.named) B.notSynchronized (name_of_methodNamed B.named B.method).1 hml s.heap [] hP hK hD (fun q h => Or.inr h) va_S.rf ls hl
section ZX
variable {p : Program} {l : Launch} {e : Env} {R : Room} {s : State} {m : MethodId} {args : Array Value} {below : List Frame} {meth : Method} {c : Code} {H : Heap} {locs : List Loc} {cells slots : Nat} {Q : State → Prop} {pc : Nat} {ls : Array Slot} {rest : List Value} {cc : ByteArray}
theorem x_throw {dd : va_G} {cI cJ cC cS : ClassId} {A : Nat → Prop} {mc ms : Nat} {Qc : Array Value → State → Outcome → State → Prop} {SX : Type} {px : String → SX → Prop} {wx : SX → va_W} {own cls text : String} {ik is ic sa : Nat} {Ts : List Cond} (hx : p.tables.exec = Jvm.exec) (hb : c.code = cc) (hfl : l.stackTraces = false) (hown : s.vm.findClass own = some m.cls) (hcls : Bundle.fit cls = true) (hts : ∀ w ∈ Ts, w.before args s = true)
    (hk : Cond.classLink own ik cls ∈ Ts) (hini : Cond.initialized cls ∈ Ts) (hstr : vk_R own is text sa s) (hin : ∀ w ∈ (vx_atS own ic cls ["java/lang/RuntimeException", "java/lang/Exception"]).filter goodWord, w ∈ Ts) (hbad : ∀ w ∈ (vx_atS own ic cls ["java/lang/RuntimeException", "java/lang/Exception"]).filter (fun w => !goodWord w), w ∈ xB)
    (hgood : ∀ w ∈ Cond.classLink own ik cls :: Cond.initialized cls :: vx_atS own ic cls ["java/lang/RuntimeException", "java/lang/Exception"], vx_ot w = true) (hE : gE A s s.heap) (hK : va_K dd vwCl (gty cI cJ cC cS) s) (hS : va_S A s.heap H locs) (hsize : ls.size = c.maxLocals) (htb : ∀ x ∈ c.exceptionTable.toList, False)
    (d0 : decode cc pc = .ok (.new ik, 3)) (d3 : decode cc (pc + 3) = .ok (.dup, 1)) (d4 : decode cc (pc + 4) = .ok (.ldc_w is, 3)) (d7 : decode cc (pc + 7) = .ok (.invokespecial ic, 3)) (d10 : decode cc (pc + 10) = .ok (.athrow, 1))
    (hRf : 6 ≤ R.frames) (hRl : (rest.map fun v => v.category).sum + 90 ≤ R.locals) (hRc : cells + 1 ≤ R.cells) (hRs : slots + 6 ≤ R.slots) (hlocks : meth.locks = false) (hc : cells + 1 ≤ mc) (hs : slots + 6 ≤ ms)
    (u : SX) (hpx : px cls u) (hP : va_P dd vwCl (wx u) H) (hD : va_D A (wx u)) :
    W p l e R s m args below meth c H locs cells slots (vx_MQ below Qc (gXQ dd cI cJ cC cS px wx A) args s mc ms A) (F0 m pc ls rest) := by
  obtain ⟨h1, h2, -, -, -, h6⟩ := hE
  refine vx_throwSW (A := A) (names := ["java/lang/RuntimeException", "java/lang/Exception"]) hx hb hfl hown hcls (by decide +kernel) (hts _ hk) (hts _ hini) hstr ?_ hgood h1 h2 hS hsize d0 d3 d4 d7 d10 (fun x hx => (htb x hx).elim) (Nat.lt_of_lt_of_le (by decide) hRf) (Nat.le_trans (Nat.add_le_add_left (by decide) _) hRl) hRc hRs hlocks ?_ hS.2.2 hc hs
  · refine vx_hat (fun w hw => hts w (hin w hw)) hbad (fun w hw => va_Nw.use ?_ (h6 w hw))
    exact (by decide +kernel : ∀ w ∈ xB, w.onTables = true) w hw
  · intro t hvm hz hk2
    have hP2 : va_P dd vwCl (wx u) t.heap := hP.kept (fun k q hq => hk2 q.1 (hP k q hq).lt)
    refine ⟨(cls, u), hpx, ⟨rfl, hP2, va_K.moved hvm hK, hD⟩, Nat.le_trans hS.1 hz, fun q q1 q2 => ?_⟩
    rw [hk2 q (Nat.lt_of_lt_of_le q1 hS.1)]
    exact hS.2.1 q q1 q2

theorem g_xcallVi {dd : va_G} {cI cJ cC cS : ClassId} {own C : String} {index : Nat} {y : MethodName} {bytes : ByteArray} {maxL nL k' mc ms n mcX msX : Nat} {ret : Option FieldType} {wsy ws' Ts : List Cond} {b : Addr} {As st : List Value} {ws wc wr : va_W} {A0 : Nat → Prop} {S SX SX0 : Type} {post : Int → S → Prop} {w1 : S → va_W} {px : String → SX → Prop} {wx : SX → va_W} {px0 : String → SX0 → Prop} {wx0 : SX0 → va_W} {Qc : Array Value → State → Outcome → State → Prop} {r0 : u_T × Nat} {fs : List Value}
    (hx : p.tables.exec = Jvm.exec) (hb : c.code = cc) (hml : c.maxLocals = nL) (hown : s.vm.findClass own = some m.cls) (hts : ∀ w ∈ Ts, w.before args s = true)
    (hK : va_K dd vwCl (gty cI cJ cC cS) s) (hP : va_P dd vwCl ws H) (hD : va_D A0 ws) (hS : va_S A0 s.heap H locs) (hA : ∀ q : Nat, s.heap.size ≤ q → A0 q)
    (isC isR : List Nat) (hC : isC.map (fun i => ws[i]?) = wc.map some) (hR : isR.map (fun i => ws[i]?) = wr.map some) (hn : va_nd isC = true ∧ va_nd isR = true) (hdis : ∀ i ∈ isR, i ∉ isC)
    (ci q0 : Nat) (hci : vwCl[ci]? = some (C, r0)) (hself : wc[q0]? = some (b, .inr (ci, fs)))
    (hM : gXi l y wsy k' mc ms dd cI cJ cC cS (.ref b :: As) wc H.size post w1 px wx)
    (hG : GoodIn Ts (wsV own index C y wsy)) (hw : wsy = Cond.code y bytes maxL ret :: ws') (hd : y.cls = C ∧ y.cls ≠ "java/lang/invoke/MethodHandle" ∧ y.cls ≠ "java/lang/invoke/VarHandle" ∧ (parseMethodDescriptor y.desc).map (fun d => d.parameters.length) = some n) (hmx : maxL ≤ 21) (hRf : k' + 1 ≤ R.frames) (hRl : 40 * (k' + 1) ≤ R.locals)
    (hf : cells + mc ≤ R.cells ∧ slots + ms ≤ R.slots) (hlen : As.length = n) (hsz : ls.size = nL) (hst : st = As.reverse ++ .ref b :: rest) (hcat : (rest.map fun v => v.category).sum ≤ 8) (hdg : decode cc pc = .ok (.invokevirtual index, 3))
    (hE : gE A0 s s.heap) (htb : ∀ x ∈ c.exceptionTable.toList, False) (hlocks : meth.locks = false) (hQ : Q = vx_MQ below Qc (gXQ dd cI cJ cC cS px0 wx0 A0) args s mcX msX A0) (hcX : cells + mc ≤ mcX ∧ slots + ms ≤ msX)
    (kx : ∀ (E : String) (u : SX), px E u → ∃ u0 : SX0, px0 E u0 ∧ (∀ H1, va_P dd vwCl (wr ++ wx u) H1 → va_P dd vwCl (wx0 u0) H1) ∧ (va_D A0 (wr ++ wx u) → va_D A0 (wx0 u0)))
    (kk : ∀ (z : Int) (u : S) (H1 : Heap) (locs1 : List Loc), post z u → va_P dd vwCl (wr ++ w1 u) H1 → va_D A0 (wr ++ w1 u) → va_S A0 s.heap H1 locs1 → W p l e R s m args below meth c H1 locs1 (cells + mc) (slots + ms) Q (F0 m (pc + 3) ls (.int (zI z) :: rest))) :
    W p l e R s m args below meth c H locs cells slots Q (F0 m pc ls st) := by
  have hPc := hP.sub (ws' := wc) isC (g_fm hC)
  have hDc := hD.sub (ws' := wc) isC hn.1 hC
  have hFc := va_free (wc := wc) hD hS hA isC hC
  subst hst
  refine vx_calli (vx_runV (As := As) (rest := rest) ⟨hx, hb, hml, hown, hts⟩ hM (cwV n hts hG hw rfl rfl hd ⟨hRf, by show 8 + (maxL + 11) + 40 * k' ≤ _; omega⟩) ⟨gPreX_blind, va_recv hK hPc hci hself, fun U hU hW => ⟨rfl, ⟨by rw [hU], by rw [hU]; exact hPc, va_K.moved hW.alike hK, hDc.weaken (fun _ _ _ _ => trivial)⟩, gE_call hE hS hFc hU hW⟩⟩ rfl hlen hsz rfl (lv_room hcat) hdg hf) hS (fun q _ h => hFc q h) hFc (fun q _ h => hFc q h) (fun E ce q9 u t H1 locs1 ht hvm hp hB hz1 hk1 hS1 hcell hv hcl => ?_) (fun r u t H1 locs1 ht hvm hp hB hz1 hk1 hS1 => ?_)
  · obtain ⟨hEu, hP1, hK1, hD1⟩ := hB
    subst hEu
    rw [ht] at hP1
    obtain ⟨hP2, hD2⟩ := va_join hP hD isC isR hC hR hn.2 hdis hk1 hFc hP1 hD1
    obtain ⟨u0, k1, k2, k3⟩ := kx u.1 u.2 hp
    subst hQ
    refine vx_out (fun x hx => (htb x hx).elim) hlocks hcell hv hcl (fun t2 ht2 hvm2 => ?_) hS1.2.2 hcX.1 hcX.2
    exact ⟨(u.1, u0), k1, ⟨rfl, by rw [ht2]; exact k2 _ hP2, va_K.moved hvm2 hK, k3 hD2⟩, hS1.F ht2⟩
  · obtain ⟨z, rfl, hp⟩ := hp
    obtain ⟨hP1, hK1, hD1⟩ := hB
    rw [ht] at hP1
    obtain ⟨hP2, hD2⟩ := va_join hP hD isC isR hC hR hn.2 hdis hk1 hFc hP1 hD1
    exact kk z u H1 locs1 hp hP2 hD2 hS1
theorem g_xcallVv {dd : va_G} {cI cJ cC cS : ClassId} {own C : String} {index : Nat} {y : MethodName} {bytes : ByteArray} {maxL nL k' mc ms n mcX msX : Nat} {ret : Option FieldType} {wsy ws' Ts : List Cond} {b : Addr} {As st : List Value} {ws wc wr : va_W} {A0 : Nat → Prop} {S SX SX0 : Type} {post : S → Prop} {w1 : S → va_W} {px : String → SX → Prop} {wx : SX → va_W} {px0 : String → SX0 → Prop} {wx0 : SX0 → va_W} {Qc : Array Value → State → Outcome → State → Prop} {r0 : u_T × Nat} {fs : List Value}
    (hx : p.tables.exec = Jvm.exec) (hb : c.code = cc) (hml : c.maxLocals = nL) (hown : s.vm.findClass own = some m.cls) (hts : ∀ w ∈ Ts, w.before args s = true)
    (hK : va_K dd vwCl (gty cI cJ cC cS) s) (hP : va_P dd vwCl ws H) (hD : va_D A0 ws) (hS : va_S A0 s.heap H locs) (hA : ∀ q : Nat, s.heap.size ≤ q → A0 q)
    (isC isR : List Nat) (hC : isC.map (fun i => ws[i]?) = wc.map some) (hR : isR.map (fun i => ws[i]?) = wr.map some) (hn : va_nd isC = true ∧ va_nd isR = true) (hdis : ∀ i ∈ isR, i ∉ isC)
    (ci q0 : Nat) (hci : vwCl[ci]? = some (C, r0)) (hself : wc[q0]? = some (b, .inr (ci, fs)))
    (hM : gXv l y wsy k' mc ms dd cI cJ cC cS (.ref b :: As) wc H.size post w1 px wx)
    (hG : GoodIn Ts (wsV own index C y wsy)) (hw : wsy = Cond.code y bytes maxL ret :: ws') (hd : y.cls = C ∧ y.cls ≠ "java/lang/invoke/MethodHandle" ∧ y.cls ≠ "java/lang/invoke/VarHandle" ∧ (parseMethodDescriptor y.desc).map (fun d => d.parameters.length) = some n) (hmx : maxL ≤ 21) (hRf : k' + 1 ≤ R.frames) (hRl : 40 * (k' + 1) ≤ R.locals)
    (hf : cells + mc ≤ R.cells ∧ slots + ms ≤ R.slots) (hlen : As.length = n) (hsz : ls.size = nL) (hst : st = As.reverse ++ .ref b :: rest) (hcat : (rest.map fun v => v.category).sum ≤ 8) (hdg : decode cc pc = .ok (.invokevirtual index, 3))
    (hE : gE A0 s s.heap) (htb : ∀ x ∈ c.exceptionTable.toList, False) (hlocks : meth.locks = false) (hQ : Q = vx_MQ below Qc (gXQ dd cI cJ cC cS px0 wx0 A0) args s mcX msX A0) (hcX : cells + mc ≤ mcX ∧ slots + ms ≤ msX)
    (kx : ∀ (E : String) (u : SX), px E u → ∃ u0 : SX0, px0 E u0 ∧ (∀ H1, va_P dd vwCl (wr ++ wx u) H1 → va_P dd vwCl (wx0 u0) H1) ∧ (va_D A0 (wr ++ wx u) → va_D A0 (wx0 u0)))
    (kk : ∀ (u : S) (H1 : Heap) (locs1 : List Loc), post u → va_P dd vwCl (wr ++ w1 u) H1 → va_D A0 (wr ++ w1 u) → va_S A0 s.heap H1 locs1 → W p l e R s m args below meth c H1 locs1 (cells + mc) (slots + ms) Q (F0 m (pc + 3) ls (rest))) :
    W p l e R s m args below meth c H locs cells slots Q (F0 m pc ls st) := by
  have hPc := hP.sub (ws' := wc) isC (g_fm hC)
  have hDc := hD.sub (ws' := wc) isC hn.1 hC
  have hFc := va_free (wc := wc) hD hS hA isC hC
  subst hst
  refine vx_callv (vx_runV (As := As) (rest := rest) ⟨hx, hb, hml, hown, hts⟩ hM (cwV n hts hG hw rfl rfl hd ⟨hRf, by show 8 + (maxL + 11) + 40 * k' ≤ _; omega⟩) ⟨gPreX_blind, va_recv hK hPc hci hself, fun U hU hW => ⟨rfl, ⟨by rw [hU], by rw [hU]; exact hPc, va_K.moved hW.alike hK, hDc.weaken (fun _ _ _ _ => trivial)⟩, gE_call hE hS hFc hU hW⟩⟩ rfl hlen hsz rfl (lv_room hcat) hdg hf) hS (fun q _ h => hFc q h) hFc (fun q _ h => hFc q h) (fun E ce q9 u t H1 locs1 ht hvm hp hB hz1 hk1 hS1 hcell hv hcl => ?_) (fun u t H1 locs1 ht hvm hp hB hz1 hk1 hS1 => ?_)
  · obtain ⟨hEu, hP1, hK1, hD1⟩ := hB
    subst hEu
    rw [ht] at hP1
    obtain ⟨hP2, hD2⟩ := va_join hP hD isC isR hC hR hn.2 hdis hk1 hFc hP1 hD1
    obtain ⟨u0, k1, k2, k3⟩ := kx u.1 u.2 hp
    subst hQ
    refine vx_out (fun x hx => (htb x hx).elim) hlocks hcell hv hcl (fun t2 ht2 hvm2 => ?_) hS1.2.2 hcX.1 hcX.2
    exact ⟨(u.1, u0), k1, ⟨rfl, by rw [ht2]; exact k2 _ hP2, va_K.moved hvm2 hK, k3 hD2⟩, hS1.F ht2⟩
  · skip
    obtain ⟨hP1, hK1, hD1⟩ := hB
    rw [ht] at hP1
    obtain ⟨hP2, hD2⟩ := va_join hP hD isC isR hC hR hn.2 hdis hk1 hFc hP1 hD1
    exact kk u H1 locs1 hp hP2 hD2 hS1
theorem g_xcallSi {dd : va_G} {cI cJ cC cS : ClassId} {own : String} {index : Nat} {y : MethodName} {bytes : ByteArray} {maxL nL k' mc ms n mcX msX : Nat} {ret : Option FieldType} {wsy ws' Ts : List Cond} {As st : List Value} {ws wc wr : va_W} {A0 : Nat → Prop} {S SX SX0 : Type} {post : Int → S → Prop} {w1 : S → va_W} {px : String → SX → Prop} {wx : SX → va_W} {px0 : String → SX0 → Prop} {wx0 : SX0 → va_W} {Qc : Array Value → State → Outcome → State → Prop} 
    (hx : p.tables.exec = Jvm.exec) (hb : c.code = cc) (hml : c.maxLocals = nL) (hown : s.vm.findClass own = some m.cls) (hts : ∀ w ∈ Ts, w.before args s = true)
    (hK : va_K dd vwCl (gty cI cJ cC cS) s) (hP : va_P dd vwCl ws H) (hD : va_D A0 ws) (hS : va_S A0 s.heap H locs) (hA : ∀ q : Nat, s.heap.size ≤ q → A0 q)
    (isC isR : List Nat) (hC : isC.map (fun i => ws[i]?) = wc.map some) (hR : isR.map (fun i => ws[i]?) = wr.map some) (hn : va_nd isC = true ∧ va_nd isR = true) (hdis : ∀ i ∈ isR, i ∉ isC)
    
    (hM : gXi l y wsy k' mc ms dd cI cJ cC cS As wc H.size post w1 px wx)
    (hG : GoodIn Ts (va_wsS own index y wsy)) (hw : wsy = Cond.code y bytes maxL ret :: ws') (hd : y.cls ≠ "java/lang/invoke/MethodHandle" ∧ y.cls ≠ "java/lang/invoke/VarHandle" ∧ (parseMethodDescriptor y.desc).map (fun d => d.parameters.length) = some n) (hmx : maxL ≤ 21) (hRf : k' + 1 ≤ R.frames) (hRl : 40 * (k' + 1) ≤ R.locals)
    (hf : cells + mc ≤ R.cells ∧ slots + ms ≤ R.slots) (hlen : As.length = n) (hsz : ls.size = nL) (hst : st = As.reverse ++ rest) (hcat : (rest.map fun v => v.category).sum ≤ 8) (hdg : decode cc pc = .ok (.invokestatic index, 3))
    (hE : gE A0 s s.heap) (htb : ∀ x ∈ c.exceptionTable.toList, False) (hlocks : meth.locks = false) (hQ : Q = vx_MQ below Qc (gXQ dd cI cJ cC cS px0 wx0 A0) args s mcX msX A0) (hcX : cells + mc ≤ mcX ∧ slots + ms ≤ msX)
    (kx : ∀ (E : String) (u : SX), px E u → ∃ u0 : SX0, px0 E u0 ∧ (∀ H1, va_P dd vwCl (wr ++ wx u) H1 → va_P dd vwCl (wx0 u0) H1) ∧ (va_D A0 (wr ++ wx u) → va_D A0 (wx0 u0)))
    (kk : ∀ (z : Int) (u : S) (H1 : Heap) (locs1 : List Loc), post z u → va_P dd vwCl (wr ++ w1 u) H1 → va_D A0 (wr ++ w1 u) → va_S A0 s.heap H1 locs1 → W p l e R s m args below meth c H1 locs1 (cells + mc) (slots + ms) Q (F0 m (pc + 3) ls (.int (zI z) :: rest))) :
    W p l e R s m args below meth c H locs cells slots Q (F0 m pc ls st) := by
  have hPc := hP.sub (ws' := wc) isC (g_fm hC)
  have hDc := hD.sub (ws' := wc) isC hn.1 hC
  have hFc := va_free (wc := wc) hD hS hA isC hC
  subst hst
  refine vx_calli (vx_runS (As := As) (rest := rest) ⟨hx, hb, hml, hown, hts⟩ hM (va_cwS n hts hG hw rfl rfl hd ⟨hRf, by show 8 + (maxL + 11) + 40 * k' ≤ _; omega⟩) ⟨gPreX_blind, fun U hU hW => ⟨rfl, ⟨by rw [hU], by rw [hU]; exact hPc, va_K.moved hW.alike hK, hDc.weaken (fun _ _ _ _ => trivial)⟩, gE_call hE hS hFc hU hW⟩⟩ rfl hlen hsz rfl (lv_room hcat) hdg hf) hS (fun q _ h => hFc q h) hFc (fun q _ h => hFc q h) (fun E ce q9 u t H1 locs1 ht hvm hp hB hz1 hk1 hS1 hcell hv hcl => ?_) (fun r u t H1 locs1 ht hvm hp hB hz1 hk1 hS1 => ?_)
  · obtain ⟨hEu, hP1, hK1, hD1⟩ := hB
    subst hEu
    rw [ht] at hP1
    obtain ⟨hP2, hD2⟩ := va_join hP hD isC isR hC hR hn.2 hdis hk1 hFc hP1 hD1
    obtain ⟨u0, k1, k2, k3⟩ := kx u.1 u.2 hp
    subst hQ
    refine vx_out (fun x hx => (htb x hx).elim) hlocks hcell hv hcl (fun t2 ht2 hvm2 => ?_) hS1.2.2 hcX.1 hcX.2
    exact ⟨(u.1, u0), k1, ⟨rfl, by rw [ht2]; exact k2 _ hP2, va_K.moved hvm2 hK, k3 hD2⟩, hS1.F ht2⟩
  · obtain ⟨z, rfl, hp⟩ := hp
    obtain ⟨hP1, hK1, hD1⟩ := hB
    rw [ht] at hP1
    obtain ⟨hP2, hD2⟩ := va_join hP hD isC isR hC hR hn.2 hdis hk1 hFc hP1 hD1
    exact kk z u H1 locs1 hp hP2 hD2 hS1
theorem g_xcallSv {dd : va_G} {cI cJ cC cS : ClassId} {own : String} {index : Nat} {y : MethodName} {bytes : ByteArray} {maxL nL k' mc ms n mcX msX : Nat} {ret : Option FieldType} {wsy ws' Ts : List Cond} {As st : List Value} {ws wc wr : va_W} {A0 : Nat → Prop} {S SX SX0 : Type} {post : S → Prop} {w1 : S → va_W} {px : String → SX → Prop} {wx : SX → va_W} {px0 : String → SX0 → Prop} {wx0 : SX0 → va_W} {Qc : Array Value → State → Outcome → State → Prop} 
    (hx : p.tables.exec = Jvm.exec) (hb : c.code = cc) (hml : c.maxLocals = nL) (hown : s.vm.findClass own = some m.cls) (hts : ∀ w ∈ Ts, w.before args s = true)
    (hK : va_K dd vwCl (gty cI cJ cC cS) s) (hP : va_P dd vwCl ws H) (hD : va_D A0 ws) (hS : va_S A0 s.heap H locs) (hA : ∀ q : Nat, s.heap.size ≤ q → A0 q)
    (isC isR : List Nat) (hC : isC.map (fun i => ws[i]?) = wc.map some) (hR : isR.map (fun i => ws[i]?) = wr.map some) (hn : va_nd isC = true ∧ va_nd isR = true) (hdis : ∀ i ∈ isR, i ∉ isC)
    
    (hM : gXv l y wsy k' mc ms dd cI cJ cC cS As wc H.size post w1 px wx)
    (hG : GoodIn Ts (va_wsS own index y wsy)) (hw : wsy = Cond.code y bytes maxL ret :: ws') (hd : y.cls ≠ "java/lang/invoke/MethodHandle" ∧ y.cls ≠ "java/lang/invoke/VarHandle" ∧ (parseMethodDescriptor y.desc).map (fun d => d.parameters.length) = some n) (hmx : maxL ≤ 21) (hRf : k' + 1 ≤ R.frames) (hRl : 40 * (k' + 1) ≤ R.locals)
    (hf : cells + mc ≤ R.cells ∧ slots + ms ≤ R.slots) (hlen : As.length = n) (hsz : ls.size = nL) (hst : st = As.reverse ++ rest) (hcat : (rest.map fun v => v.category).sum ≤ 8) (hdg : decode cc pc = .ok (.invokestatic index, 3))
    (hE : gE A0 s s.heap) (htb : ∀ x ∈ c.exceptionTable.toList, False) (hlocks : meth.locks = false) (hQ : Q = vx_MQ below Qc (gXQ dd cI cJ cC cS px0 wx0 A0) args s mcX msX A0) (hcX : cells + mc ≤ mcX ∧ slots + ms ≤ msX)
    (kx : ∀ (E : String) (u : SX), px E u → ∃ u0 : SX0, px0 E u0 ∧ (∀ H1, va_P dd vwCl (wr ++ wx u) H1 → va_P dd vwCl (wx0 u0) H1) ∧ (va_D A0 (wr ++ wx u) → va_D A0 (wx0 u0)))
    (kk : ∀ (u : S) (H1 : Heap) (locs1 : List Loc), post u → va_P dd vwCl (wr ++ w1 u) H1 → va_D A0 (wr ++ w1 u) → va_S A0 s.heap H1 locs1 → W p l e R s m args below meth c H1 locs1 (cells + mc) (slots + ms) Q (F0 m (pc + 3) ls (rest))) :
    W p l e R s m args below meth c H locs cells slots Q (F0 m pc ls st) := by
  have hPc := hP.sub (ws' := wc) isC (g_fm hC)
  have hDc := hD.sub (ws' := wc) isC hn.1 hC
  have hFc := va_free (wc := wc) hD hS hA isC hC
  subst hst
  refine vx_callv (vx_runS (As := As) (rest := rest) ⟨hx, hb, hml, hown, hts⟩ hM (va_cwS n hts hG hw rfl rfl hd ⟨hRf, by show 8 + (maxL + 11) + 40 * k' ≤ _; omega⟩) ⟨gPreX_blind, fun U hU hW => ⟨rfl, ⟨by rw [hU], by rw [hU]; exact hPc, va_K.moved hW.alike hK, hDc.weaken (fun _ _ _ _ => trivial)⟩, gE_call hE hS hFc hU hW⟩⟩ rfl hlen hsz rfl (lv_room hcat) hdg hf) hS (fun q _ h => hFc q h) hFc (fun q _ h => hFc q h) (fun E ce q9 u t H1 locs1 ht hvm hp hB hz1 hk1 hS1 hcell hv hcl => ?_) (fun u t H1 locs1 ht hvm hp hB hz1 hk1 hS1 => ?_)
  · obtain ⟨hEu, hP1, hK1, hD1⟩ := hB
    subst hEu
    rw [ht] at hP1
    obtain ⟨hP2, hD2⟩ := va_join hP hD isC isR hC hR hn.2 hdis hk1 hFc hP1 hD1
    obtain ⟨u0, k1, k2, k3⟩ := kx u.1 u.2 hp
    subst hQ
    refine vx_out (fun x hx => (htb x hx).elim) hlocks hcell hv hcl (fun t2 ht2 hvm2 => ?_) hS1.2.2 hcX.1 hcX.2
    exact ⟨(u.1, u0), k1, ⟨rfl, by rw [ht2]; exact k2 _ hP2, va_K.moved hvm2 hK, k3 hD2⟩, hS1.F ht2⟩
  · skip
    obtain ⟨hP1, hK1, hD1⟩ := hB
    rw [ht] at hP1
    obtain ⟨hP2, hD2⟩ := va_join hP hD isC isR hC hR hn.2 hdis hk1 hFc hP1 hD1
    exact kk u H1 locs1 hp hP2 hD2 hS1
theorem z_aldq {D : va_G} {cl : List vw_C} {tys : List (ClassId × FieldType)} {ws : va_W} {a : Nat} (hx : p.tables.exec = Jvm.exec) (hb : c.code = cc) (hK : va_K D cl tys s) (hP : va_P D cl ws H) (q0 t0 : Nat) {cA : ClassId} {n : Nat} {f : Nat → Option Nat} (ha : ws[q0]? = some (a, .inl (cA, n, .inr (.inr (.inr (.inr f)))))) (ht : tys[t0]? = some (cA, .object RX5)) {i : Int} (h : 0 ≤ i ∧ i < n) (hn : n < 2147483648) {b : Nat} (hf : f i.toNat = some b) (hdg : decode cc pc = .ok (.aaload, 1))
    (kk : W p l e R s m args below meth c H locs cells slots Q (F0 m (pc + 1) ls (.ref b :: rest))) : W p l e R s m args below meth c H locs cells slots Q (F0 m pc ls (.int (zI i) :: .ref a :: rest)) := by
  refine va_aldq hx hb hK hP q0 t0 ha ht (zI_in h.1 h.2 hn) hdg ?_
  rw [zI_clamp h.1 (by omega), hf]
  exact kk
theorem z_astq {D : va_G} {cl : List vw_C} {tys : List (ClassId × FieldType)} {ws : va_W} {A : Nat → Prop} {H0 : Heap} {a : Nat} (hx : p.tables.exec = Jvm.exec) (hb : c.code = cc) (hK : va_K D cl tys s) (hP : va_P D cl ws H) (hD : va_D A ws) (hS : va_S A H0 H locs) (q0 t0 qk ci : Nat) {cA : ClassId} {r : vw_C} {n v : Nat} {vs : List Value} {f : Nat → Option Nat} (ha : ws[q0]? = some (a, .inl (cA, n, .inr (.inr (.inr (.inr f)))))) (ht : tys[t0]? = some (cA, .object r.1)) (hv : ws[qk]? = some (v, .inr (ci, vs))) (hc : cl[ci]? = some r) {i : Int} (h : 0 ≤ i ∧ i < n) (hn : n < 2147483648) (hdg : decode cc pc = .ok (.aastore, 1)) {ws' : va_W} (hw : ws.set q0 (a, .inl (cA, n, .inr (.inr (.inr (.inr (va_up f i.toNat (some v))))))) = ws')
    (kk : ∀ (H1 : Heap) (locs1 : List Loc), va_P D cl ws' H1 → va_D A ws' → va_S A H0 H1 locs1 → W p l e R s m args below meth c H1 locs1 cells slots Q (F0 m (pc + 1) ls rest)) : W p l e R s m args below meth c H locs cells slots Q (F0 m pc ls (.ref v :: .int (zI i) :: .ref a :: rest)) := by
  refine va_astq hx hb hK hP hD hS q0 t0 qk ci ha ht hv hc (zI_in h.1 h.2 hn) hdg (fun H1 locs1 h1 h2 h3 => ?_)
  rw [zI_clamp h.1 (by omega), hw] at h1 h2
  exact kk H1 locs1 h1 h2 h3
end ZX
set_option maxHeartbeats 4000000 in
set_option maxRecDepth 100000 in
theorem c_X6_requireArgument (l : Launch) (hfl : l.stackTraces = false) (dd : va_G) (cI cJ cC cS : ClassId) (v : Int) (sz : Nat) (hv : rg v) : gXv l yX6_requireArgument wsX6_requireArgument 8 1 6 dd cI cJ cC cS [vI v] [] sz (fun (_ : Unit) => v ≠ 0) (fun (_ : Unit) => []) (fun E (_ : Unit) => E = xIA ∧ v = 0) (fun (_ : Unit) => []) := by
  refine gXv_of (cc := cX6_requireArgument) (maxL := 1) (ret := none) (by decide) rfl (Nat.le_of_ble_eq_true rfl) ?_
  intro p e s m args below meth c A Q hQ hE htb hx hb hr hts hown hlocks hnm hml H locs hP hK hD hA hS ls hl
  have hl : lv_has ls 1 [(0, vI v)] := hl
  refine lv_iload_n hx hb dX6_requireArgument_0 rfl (lv_at hl 0 rfl) ?_
  refine z_if_ne (tgt := 15) hx hb dX6_requireArgument_1 (by decide) hv (fun c1 => ?_) (fun c1 => ?_)
  · subst hQ
    refine vx_ret ?_
    exact z_vret hx hb hr hlocks dX6_requireArgument_15 () hK hS ⟨by omega, by omega⟩ hP hD c1
  · subst hQ
    obtain ⟨-, -, -, ⟨sa, hst⟩, -, -⟩ := id hE
    exact x_throw (own := RX6) (cls := xIA) (text := "an argument is out of its range") (sa := sa) hx hb hfl hown (by decide +kernel) hts (List.mem_cons_of_mem _ (List.mem_append_left _ (List.mem_of_getElem? (i := 0) rfl))) (List.mem_cons_of_mem _ (List.mem_append_left _ (List.mem_of_getElem? (i := 1) rfl))) hst (fun w h => List.mem_cons_of_mem _ (List.mem_append_right _ h)) (by decide +kernel) (by decide +kernel) hE hK hS (hl.1.trans hml.symm) htb dX6_requireArgument_4 dX6_requireArgument_7 dX6_requireArgument_8 dX6_requireArgument_11 dX6_requireArgument_14 (by decide) (by decide) (by decide) (by decide) hlocks (by decide) (by decide) () ⟨rfl, c1⟩ hP hD
set_option maxHeartbeats 4000000 in
set_option maxRecDepth 100000 in
theorem c_X6_requireState (l : Launch) (hfl : l.stackTraces = false) (dd : va_G) (cI cJ cC cS : ClassId) (v : Int) (sz : Nat) (hv : rg v) : gXv l yX6_requireState wsX6_requireState 8 1 6 dd cI cJ cC cS [vI v] [] sz (fun (_ : Unit) => v ≠ 0) (fun (_ : Unit) => []) (fun E (_ : Unit) => E = xIS ∧ v = 0) (fun (_ : Unit) => []) := by
  refine gXv_of (cc := cX6_requireState) (maxL := 1) (ret := none) (by decide) rfl (Nat.le_of_ble_eq_true rfl) ?_
  intro p e s m args below meth c A Q hQ hE htb hx hb hr hts hown hlocks hnm hml H locs hP hK hD hA hS ls hl
  have hl : lv_has ls 1 [(0, vI v)] := hl
  refine lv_iload_n hx hb dX6_requireState_0 rfl (lv_at hl 0 rfl) ?_
  refine z_if_ne (tgt := 15) hx hb dX6_requireState_1 (by decide) hv (fun c1 => ?_) (fun c1 => ?_)
  · subst hQ
    refine vx_ret ?_
    exact z_vret hx hb hr hlocks dX6_requireState_15 () hK hS ⟨by omega, by omega⟩ hP hD c1
  · subst hQ
    obtain ⟨-, -, -, -, ⟨sa, hst⟩, -⟩ := id hE
    exact x_throw (own := RX6) (cls := xIS) (text := "the call is not possible now") (sa := sa) hx hb hfl hown (by decide +kernel) hts (List.mem_cons_of_mem _ (List.mem_append_left _ (List.mem_of_getElem? (i := 0) rfl))) (List.mem_cons_of_mem _ (List.mem_append_left _ (List.mem_of_getElem? (i := 1) rfl))) hst (fun w h => List.mem_cons_of_mem _ (List.mem_append_right _ h)) (by decide +kernel) (by decide +kernel) hE hK hS (hl.1.trans hml.symm) htb dX6_requireState_4 dX6_requireState_7 dX6_requireState_8 dX6_requireState_11 dX6_requireState_14 (by decide) (by decide) (by decide) (by decide) hlocks (by decide) (by decide) () ⟨rfl, c1⟩ hP hD
set_option maxHeartbeats 4000000 in
set_option maxRecDepth 100000 in
theorem c_X6_requireIndex (l : Launch) (hfl : l.stackTraces = false) (dd : va_G) (cI cJ cC cS : ClassId) (v n : Int) (sz : Nat) (hv : rg v) (hn : rg n) : gXv l yX6_requireIndex wsX6_requireIndex 8 1 6 dd cI cJ cC cS [vI v, vI n] [] sz (fun (_ : Unit) => 0 ≤ v ∧ v < n) (fun (_ : Unit) => []) (fun E (_ : Unit) => E = xIO ∧ (v < 0 ∨ n ≤ v)) (fun (_ : Unit) => []) := by
  refine gXv_of (cc := cX6_requireIndex) (maxL := 2) (ret := none) (by decide) rfl (Nat.le_of_ble_eq_true rfl) ?_
  intro p e s m args below meth c A Q hQ hE htb hx hb hr hts hown hlocks hnm hml H locs hP hK hD hA hS ls hl
  have hl : lv_has ls 2 [(0, vI v), (1, vI n)] := hl
  subst hQ
  obtain ⟨-, -, ⟨sa, hst⟩, -, -, -⟩ := id hE
  refine lv_iload_n hx hb dX6_requireIndex_0 rfl (lv_at hl 0 rfl) ?_
  refine z_if_lt (tgt := 9) hx hb dX6_requireIndex_1 (by decide) hv (fun c1 => ?_) (fun c1 => ?_)
  · exact x_throw (own := RX6) (cls := xIO) (text := "there is nothing with this number") (sa := sa) hx hb hfl hown (by decide +kernel) hts (List.mem_cons_of_mem _ (List.mem_append_left _ (List.mem_of_getElem? (i := 0) rfl))) (List.mem_cons_of_mem _ (List.mem_append_left _ (List.mem_of_getElem? (i := 1) rfl))) hst (fun w h => List.mem_cons_of_mem _ (List.mem_append_right _ h)) (by decide +kernel) (by decide +kernel) hE hK hS (hl.1.trans hml.symm) htb dX6_requireIndex_9 dX6_requireIndex_12 dX6_requireIndex_13 dX6_requireIndex_16 dX6_requireIndex_19 (by decide) (by decide) (by decide) (by decide) hlocks (by decide) (by decide) () ⟨rfl, by omega⟩ hP hD
  · refine lv_iload_n hx hb dX6_requireIndex_4 rfl (lv_at hl 0 rfl) ?_
    refine lv_iload_n hx hb dX6_requireIndex_5 rfl (lv_at hl 1 rfl) ?_
    refine z_icmp_lt (tgt := 20) hx hb dX6_requireIndex_6 (by decide) ⟨hv, hn⟩ (fun c6 => ?_) (fun c6 => ?_)
    · refine vx_ret ?_
      exact z_vret hx hb hr hlocks dX6_requireIndex_20 () hK hS ⟨by omega, by omega⟩ hP hD ⟨c1, c6⟩
    · exact x_throw (own := RX6) (cls := xIO) (text := "there is nothing with this number") (sa := sa) hx hb hfl hown (by decide +kernel) hts (List.mem_cons_of_mem _ (List.mem_append_left _ (List.mem_of_getElem? (i := 0) rfl))) (List.mem_cons_of_mem _ (List.mem_append_left _ (List.mem_of_getElem? (i := 1) rfl))) hst (fun w h => List.mem_cons_of_mem _ (List.mem_append_right _ h)) (by decide +kernel) (by decide +kernel) hE hK hS (hl.1.trans hml.symm) htb dX6_requireIndex_9 dX6_requireIndex_12 dX6_requireIndex_13 dX6_requireIndex_16 dX6_requireIndex_19 (by decide) (by decide) (by decide) (by decide) hlocks (by decide) (by decide) () ⟨rfl, by omega⟩ hP hD
