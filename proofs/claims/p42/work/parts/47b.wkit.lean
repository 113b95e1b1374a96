/-! the law's own methods: they catch what is thrown -/
def gC (U : State) : Prop := va_Nc xIA xIO U ∧ va_Nc xIS xIO U ∧ va_Nc xIS xIA U
theorem gC.moved {u U : State} (hvm : u.vm.Alike U.vm) (h : gC u) : gC U := ⟨va_Nc.moved hvm h.1, va_Nc.moved hvm h.2.1, va_Nc.moved hvm h.2.2⟩
def gPreY (dd : va_G) (cI cJ cC cS : ClassId) (wc : va_W) (sz : Nat) : State → Prop := fun U => gPreX dd cI cJ cC cS wc sz U ∧ gC U
theorem gPreY_blind {dd : va_G} {cI cJ cC cS : ClassId} {av : List Value} {wc : va_W} {sz : Nat} : FrameBlind (va_Pc av (gPreY dd cI cJ cC cS wc sz)) := fun a U g mk q => by
  obtain ⟨h1, ⟨⟨h2, h3, h4, h5⟩, h6⟩, h7⟩ := q
  exact ⟨h1, ⟨⟨h2, h3, va_K.moved (u := U) (U := U.calling g mk a) (Vm.Alike.refl U.vm) h4, h5⟩, gE_calling h6⟩, gC.moved (u := U) (U := U.calling g mk a) (Vm.Alike.refl U.vm) h7⟩
def gYi (l : Launch) (y : MethodName) (wsy : List Cond) (k mc ms : Nat) (dd : va_G) (cI cJ cC cS : ClassId) (av : List Value) (wc : va_W) (sz : Nat) {S : Type} (post : Int → S → Prop) (w1 : S → va_W) : Prop :=
  Met l y wsy (gR k mc ms) (va_Pc av (gPreY dd cI cJ cC cS wc sz)) (va_Qi (fun r u => ∃ z : Int, r = zI z ∧ post z u) (gAt dd cI cJ cC cS w1 (va_A wc sz)) (va_A wc sz)) mc ms (va_A wc sz)
theorem gYi_of {l : Launch} {y : MethodName} {wsy ws' : List Cond} {k mc ms : Nat} {dd : va_G} {cI cJ cC cS : ClassId} {av : List Value} {wc : va_W} {sz : Nat} {S : Type} {post : Int → S → Prop} {w1 : S → va_W} {cc : ByteArray} {maxL : Nat} {ret : Option FieldType} {hh : List (Nat × Nat × Nat × Nat)}
    (hy : plainName y.cls = true) (hw : wsy = Cond.codeWith y cc maxL ret hh :: ws') (hav : (lg_sl av).length ≤ maxL)
    (body : ∀ (p : Program) (e : Env) (s : State) (m : MethodId) (args : Array Value) (below : List Frame) (meth : Method) (c : Code) (A : Nat → Prop) (Q : State → Prop), Q = MQ below (va_Qi (fun r u => ∃ z : Int, r = zI z ∧ post z u) (gAt dd cI cJ cC cS w1 A) A) args s mc ms A → gE A s s.heap → gC s → c.exceptionTable.toList = tableOf hh → p.tables.exec = Jvm.exec → c.code = cc → meth.sig.returnType = ret → (∀ w ∈ wsy, w.before args s = true) → s.vm.findClass y.cls = some m.cls → meth.locks = false → c.maxLocals = maxL → ∀ (H : Heap) (locs : List Loc), va_P dd vwCl wc H → va_K dd vwCl (gty cI cJ cC cS) s → va_D A wc → (∀ q : Nat, s.heap.size ≤ q → A q) → va_S A s.heap H locs →
      ∀ ls : Array Slot, lv_has ls maxL (lv_args 0 av) → W p l e (gR k mc ms) s m args below meth c H locs 0 0 Q (F0 m 0 ls [])) :
    gYi l y wsy k mc ms dd cI cJ cC cS av wc sz post w1 := by
  unfold gYi
  refine MetFree.of_bodyS (code := cc) (maxLocals := maxL) (ret := ret) hy ?_ ?_
  · intro args s m h hn
    obtain ⟨m9, meth, c, hn9, h1, h2, h3, h4, -, h5, h6, -⟩ := Cond.codeWith_spec (atoms_spec (ws := wsy) h _ (by rw [hw]; exact List.mem_cons_self))
    cases hn.symm.trans hn9
    exact ⟨meth, c, h1, h2, h3, h4, h5, h6⟩
  · intro p e s m args below meth c s₁ B hml hv _
    have hh0 : s₁.heap = s.heap := by rw [B.state]; rfl
    have hts := atoms_spec (ws := wsy) B.pre
    have hext := vx_table (x := y) B (hts (Cond.codeWith y cc maxL ret hh) (by rw [hw]; exact List.mem_cons_self))
    obtain ⟨rfl, ⟨⟨hsz, hP, hK, hD0⟩, hE⟩, hC⟩ := hv
    subst hsz
    have hD := hD0.self (sz := s.heap.size)
    have hl := lv_entry av (n := maxL) hav
    have key : W p l e (gR k mc ms) s m av.toArray below meth c s.heap [] 0 0 (MQ below (va_Qi (fun r u => ∃ z : Int, r = zI z ∧ post z u) (gAt dd cI cJ cC cS w1 (va_A wc s.heap.size)) (va_A wc s.heap.size)) av.toArray s mc ms (va_A wc s.heap.size)) (entryFrame m av.toArray maxL) := by
      rw [lg_entry_eq]
      generalize (lg_sl av ++ List.replicate (maxL - (lg_sl av).length) Slot.unset).toArray = ls at hl ⊢
      exact body p e s m av.toArray below meth c (va_A wc s.heap.size) _ rfl hE hC hext B.exec B.bytes B.returns hts (findClass_of_methodNamed B.named) B.notSynchronized hml s.heap [] hP hK hD (fun q h => Or.inr h) va_S.rf ls hl
    obtain ⟨t, a1, o, b1, b2, b3⟩ := key s₁ hh0 (Stand.of_body B)
    exact ⟨t, o, a1, b1, b2, ⟨b3.1, b3.2⟩⟩
/-- what a method of the law answers: 0 and the value in the row, or the number of what was thrown -/
def wP {S SX : Type} (post : Int → S → Prop) (px : String → SX → Prop) (cd : String → Int) (ov : Int → Int) : Int → (S ⊕ SX) × (Int → Int) → Prop := fun z u => match u.1 with
  | .inl x => z = 0 ∧ ∃ r : Int, post r x ∧ u.2 = uZ ov 0 (zI r).toInt
  | .inr x => ∃ E : String, px E x ∧ z = cd E ∧ u.2 = ov
def wW {S SX : Type} (w1 : S → va_W) (wx : SX → va_W) (cJ : ClassId) (o : Nat) : (S ⊕ SX) × (Int → Int) → va_W := fun u => match u.1 with
  | .inl x => w1 x ++ [kL cJ o 1 u.2]
  | .inr x => wx x ++ [kL cJ o 1 u.2]
section ZW
variable {p : Program} {l : Launch} {e : Env} {R : Room} {s : State} {m : MethodId} {args : Array Value} {below : List Frame} {meth : Method} {c : Code} {H : Heap} {locs : List Loc} {cells slots : Nat} {Q : State → Prop} {pc : Nat} {ls : Array Slot} {rest : List Value} {cc : ByteArray}
theorem g_hcallVi {dd : va_G} {cI cJ cC cS : ClassId} {own C : String} {index : Nat} {y : MethodName} {bytes : ByteArray} {maxL nL k' mc ms n : Nat} {ret : Option FieldType} {wsy ws' Ts : List Cond} {b : Addr} {As st : List Value} {ws wc wr : va_W} {A0 : Nat → Prop} {S SX : Type} {post : Int → S → Prop} {w1 : S → va_W} {px : String → SX → Prop} {wx : SX → va_W} {r0 : u_T × Nat} {fs : List Value}
    (hx : p.tables.exec = Jvm.exec) (hb : c.code = cc) (hml : c.maxLocals = nL) (hown : s.vm.findClass own = some m.cls) (hts : ∀ w ∈ Ts, w.before args s = true)
    (hK : va_K dd vwCl (gty cI cJ cC cS) s) (hP : va_P dd vwCl ws H) (hD : va_D A0 ws) (hS : va_S A0 s.heap H locs) (hA : ∀ q : Nat, s.heap.size ≤ q → A0 q)
    (isC isR : List Nat) (hC : isC.map (fun i => ws[i]?) = wc.map some) (hR : isR.map (fun i => ws[i]?) = wr.map some) (hn : va_nd isC = true ∧ va_nd isR = true) (hdis : ∀ i ∈ isR, i ∉ isC)
    (ci q0 : Nat) (hci : vwCl[ci]? = some (C, r0)) (hself : wc[q0]? = some (b, .inr (ci, fs)))
    (hM : gXi l y wsy k' mc ms dd cI cJ cC cS (.ref b :: As) wc H.size post w1 px wx)
    (hG : GoodIn Ts (wsV own index C y wsy)) (hw : wsy = Cond.code y bytes maxL ret :: ws') (hd : y.cls = C ∧ y.cls ≠ "java/lang/invoke/MethodHandle" ∧ y.cls ≠ "java/lang/invoke/VarHandle" ∧ (parseMethodDescriptor y.desc).map (fun d => d.parameters.length) = some n) (hmx : maxL ≤ 21) (hRf : k' + 1 ≤ R.frames) (hRl : 40 * (k' + 1) ≤ R.locals)
    (hf : cells + mc ≤ R.cells ∧ slots + ms ≤ R.slots) (hlen : As.length = n) (hsz : ls.size = nL) (hst : st = As.reverse ++ .ref b :: rest) (hcat : (rest.map fun v => v.category).sum ≤ 8) (hdg : decode cc pc = .ok (.invokevirtual index, 3))
    (hE : gE A0 s s.heap)
    (kx : ∀ (E : String) (u : SX) (ce : Cell) (q9 : Addr) (H1 : Heap) (locs1 : List Loc), px E u → va_P dd vwCl (wr ++ wx u) H1 → va_D A0 (wr ++ wx u) → va_S A0 s.heap H1 locs1 → H1[q9]? = some ce → ce.vm = .none → s.vm.findClass E = some ce.cls → vx_W p l e R s m args below meth c H1 locs1 (cells + mc) (slots + ms) Q (F0 m pc ls rest) q9)
    (kk : ∀ (z : Int) (u : S) (H1 : Heap) (locs1 : List Loc), post z u → va_P dd vwCl (wr ++ w1 u) H1 → va_D A0 (wr ++ w1 u) → va_S A0 s.heap H1 locs1 → W p l e R s m args below meth c H1 locs1 (cells + mc) (slots + ms) Q (F0 m (pc + 3) ls (.int (zI z) :: rest))) :
    W p l e R s m args below meth c H locs cells slots Q (F0 m pc ls st) := by
  have hPc := hP.sub (ws' := wc) isC (g_fm hC)
  have hDc := hD.sub (ws' := wc) isC hn.1 hC
  have hFc := va_free (wc := wc) hD hS hA isC hC
  subst hst
  refine vx_calli (vx_runV (As := As) (rest := rest) ⟨hx, hb, hml, hown, hts⟩ hM (cwV n hts hG hw rfl rfl hd ⟨hRf, by show 8 + (maxL + 11) + 40 * k' ≤ _; omega⟩) ⟨gPreX_blind, va_recv hK hPc hci hself, fun U hU hW => ⟨rfl, ⟨by rw [hU], by rw [hU]; exact hPc, va_K.moved hW.alike hK, hDc.weaken (fun _ _ _ _ => trivial)⟩, gE_call hE hS hFc hU hW⟩⟩ rfl hlen hsz rfl (lv_room hcat) hdg hf) hS (fun q _ h => hFc q h) hFc (fun q _ h => hFc q h) (fun E ce q9 u t H1 locs1 ht hvm hp hB hz1 hk1 hS1 hcell hv hcl => ?_) (fun r u t H1 locs1 ht hvm hp hB hz1 hk1 hS1 => ?_)
  · obtain ⟨hEu, hP1, hK1, hD1⟩ := hB
    subst hEu
    rw [ht] at hP1
    obtain ⟨hP2, hD2⟩ := va_join hP hD isC isR hC hR hn.2 hdis hk1 hFc hP1 hD1
    exact kx u.1 u.2 ce q9 H1 locs1 hp hP2 hD2 hS1 hcell hv hcl
  · obtain ⟨z, rfl, hp⟩ := hp
    obtain ⟨hP1, hK1, hD1⟩ := hB
    rw [ht] at hP1
    obtain ⟨hP2, hD2⟩ := va_join hP hD isC isR hC hR hn.2 hdis hk1 hFc hP1 hD1
    exact kk z u H1 locs1 hp hP2 hD2 hS1
theorem g_ycallSi {dd : va_G} {cI cJ cC cS : ClassId} {own : String} {index : Nat} {y : MethodName} {bytes : ByteArray} {maxL nL k' mc ms n : Nat} {ret : Option FieldType} {hh : List (Nat × Nat × Nat × Nat)} {wsy ws' Ts : List Cond} {As st : List Value} {ws wc wr : va_W} {A0 : Nat → Prop} {S : Type} {post : Int → S → Prop} {w1 : S → va_W} 
    (hx : p.tables.exec = Jvm.exec) (hb : c.code = cc) (hml : c.maxLocals = nL) (hown : s.vm.findClass own = some m.cls) (hts : ∀ w ∈ Ts, w.before args s = true)
    (hK : va_K dd vwCl (gty cI cJ cC cS) s) (hP : va_P dd vwCl ws H) (hD : va_D A0 ws) (hS : va_S A0 s.heap H locs) (hA : ∀ q : Nat, s.heap.size ≤ q → A0 q) (hE : gE A0 s s.heap) (hC9 : gC s)
    (isC isR : List Nat) (hC : isC.map (fun i => ws[i]?) = wc.map some) (hR : isR.map (fun i => ws[i]?) = wr.map some) (hn : va_nd isC = true ∧ va_nd isR = true) (hdis : ∀ i ∈ isR, i ∉ isC)
    
    (hM : gYi l y wsy k' mc ms dd cI cJ cC cS As wc H.size post w1)
    (hG : GoodIn Ts (va_wsS own index y wsy)) (hw : wsy = Cond.codeWith y bytes maxL ret hh :: ws') (hd : y.cls ≠ "java/lang/invoke/MethodHandle" ∧ y.cls ≠ "java/lang/invoke/VarHandle" ∧ (parseMethodDescriptor y.desc).map (fun d => d.parameters.length) = some n) (hmx : maxL ≤ 21) (hRf : k' + 1 ≤ R.frames) (hRl : 40 * (k' + 1) ≤ R.locals)
    (hf : cells + mc ≤ R.cells ∧ slots + ms ≤ R.slots) (hlen : As.length = n) (hsz : ls.size = nL) (hst : st = As.reverse ++ rest) (hcat : (rest.map fun v => v.category).sum ≤ 8) (hdg : decode cc pc = .ok (.invokestatic index, 3))
    (kk : ∀ (z : Int) (u : S) (H1 : Heap) (locs1 : List Loc), post z u → va_P dd vwCl (wr ++ w1 u) H1 → va_D A0 (wr ++ w1 u) → va_S A0 s.heap H1 locs1 → W p l e R s m args below meth c H1 locs1 (cells + mc) (slots + ms) Q (F0 m (pc + 3) ls (.int (zI z) :: rest))) :
    W p l e R s m args below meth c H locs cells slots Q (F0 m pc ls st) := by
  have hPc := hP.sub (ws' := wc) isC (g_fm hC)
  have hDc := hD.sub (ws' := wc) isC hn.1 hC
  have hFc := va_free (wc := wc) hD hS hA isC hC
  subst hst
  refine va_calli (vx_runSW (As := As) (rest := rest) ⟨hx, hb, hml, hown, hts⟩ hM (vx_cwSW n hts hG hw rfl rfl hd ⟨hRf, by show 8 + (maxL + 11) + 40 * k' ≤ _; omega⟩) ⟨gPreY_blind, fun U hU hW => ⟨rfl, ⟨⟨by rw [hU], by rw [hU]; exact hPc, va_K.moved hW.alike hK, hDc.weaken (fun _ _ _ _ => trivial)⟩, gE_call hE hS hFc hU hW⟩, gC.moved hW.alike hC9⟩⟩ rfl hlen hsz rfl (lv_room hcat) hdg hf) hS (fun q _ h => hFc q h) hFc (fun r u t H1 locs1 ht hvm hp hB hz1 hk1 hS1 => ?_)
  obtain ⟨z, rfl, hp⟩ := hp
  obtain ⟨hP1, hK1, hD1⟩ := hB
  rw [ht] at hP1
  obtain ⟨hP2, hD2⟩ := va_join hP hD isC isR hC hR hn.2 hdis hk1 hFc hP1 hD1
  exact kk z u H1 locs1 hp hP2 hD2 hS1
end ZW
