/-! constructors that make arrays of setups -/
def gPreN (dd : va_G) (cI cJ cC cS : ClassId) (ws : va_W) (sz : Nat) : State → Prop := fun U => gPre dd cI cJ cC cS ws sz U ∧ va_AO RX5 U
theorem gPreN_blind {dd : va_G} {cI cJ cC cS : ClassId} {av : List Value} {wc : va_W} {sz : Nat} : FrameBlind (va_Pc av (gPreN dd cI cJ cC cS wc sz)) := fun a U g mk q => by
  obtain ⟨h1, ⟨h2, h3, h4, h5⟩, h6⟩ := q
  exact ⟨h1, ⟨h2, h3, va_K.moved (u := U) (U := U.calling g mk a) (Vm.Alike.refl U.vm) h4, h5⟩, va_AO.moved (u := U) (U := U.calling g mk a) (Vm.Alike.refl U.vm) h6⟩
def gNv (l : Launch) (y : MethodName) (wsy : List Cond) (k mc ms : Nat) (dd : va_G) (cI cJ cC cS : ClassId) (av : List Value) (wc : va_W) (sz : Nat) {S : Type} (post : S → Prop) (w1 : S → va_W) : Prop :=
  Met l y wsy (gR k mc ms) (va_Pc av (gPreN dd cI cJ cC cS wc sz)) (va_Qv post (gAt dd cI cJ cC cS w1 (va_A wc sz)) (va_A wc sz)) mc ms (va_A wc sz)
theorem gNv_of {S : Type} {post : S → Prop} {w1 : S → va_W} {l : Launch} {y : MethodName} {wsy ws' : List Cond} {k mc ms : Nat} {dd : va_G} {cI cJ cC cS : ClassId} {av : List Value} {wc : va_W} {sz : Nat} {cc : ByteArray} {maxL : Nat} {ret : Option FieldType}
    (hy : plainName y.cls = true) (hw : wsy = Cond.code y cc maxL ret :: ws') (hav : (lg_sl av).length ≤ maxL)
    (body : ∀ (p : Program) (e : Env) (s : State) (m : MethodId) (args : Array Value) (below : List Frame) (meth : Method) (c : Code) (A : Nat → Prop) (Q : State → Prop), Q = MQ below (va_Qv post (gAt dd cI cJ cC cS w1 A) A) args s mc ms A → va_AO RX5 s → p.tables.exec = Jvm.exec → c.code = cc → meth.sig.returnType = ret → (∀ w ∈ wsy, w.before args s = true) → s.vm.findClass y.cls = some m.cls → meth.locks = false → meth.name = y.name → c.maxLocals = maxL → ∀ (H : Heap) (locs : List Loc), va_P dd vwCl wc H → va_K dd vwCl (gty cI cJ cC cS) s → va_D A wc → (∀ q : Nat, s.heap.size ≤ q → A q) → va_S A s.heap H locs →
      ∀ ls : Array Slot, lv_has ls maxL (lv_args 0 av) → W p l e (gR k mc ms) s m args below meth c H locs 0 0 Q (F0 m 0 ls [])) :
    gNv l y wsy k mc ms dd cI cJ cC cS av wc sz post w1 := by
  refine Met.ofW (cc := cc) (maxL := maxL) (ret := ret) hy hw ?_
  intro p e s m args below meth c s₁ B hml hv
  obtain ⟨rfl, ⟨hsz, hP, hK, hD0⟩, hAO⟩ := hv
  subst hsz
  have hD := hD0.self (sz := s.heap.size)
  have hl := lv_entry av (n := maxL) hav
  rw [lg_entry_eq]
  generalize (lg_sl av ++ List.replicate (maxL - (lg_sl av).length) Slot.unset).toArray = ls at hl ⊢
  exact body p e s m _ below meth c (va_A wc s.heap.size) _ rfl hAO B.exec B.bytes B.returns (atoms_spec (ws := wsy) B.pre) (findClass_of_methodNamed B.named) B.notSynchronized (name_of_methodNamed B.named B.method).1 hml s.heap [] hP hK hD (fun q h => Or.inr h) va_S.rf ls hl
section ZN2
variable {p : Program} {l : Launch} {e : Env} {R : Room} {s : State} {m : MethodId} {args : Array Value} {below : List Frame} {meth : Method} {c : Code} {H : Heap} {locs : List Loc} {cells slots : Nat} {Q : State → Prop} {pc : Nat} {ls : Array Slot} {rest : List Value} {cc : ByteArray}
theorem g_callNIv {dd : va_G} {cI cJ cC cS : ClassId} {own : String} {index : Nat} {y : MethodName} {bytes : ByteArray} {maxL nL k' mc ms n : Nat} {wsy ws' Ts : List Cond} {b : Addr} {As st : List Value} {ws wc wr : va_W} {A0 : Nat → Prop} {S : Type} {post : S → Prop} {w1 : S → va_W} 
    (hx : p.tables.exec = Jvm.exec) (hb : c.code = cc) (hml : c.maxLocals = nL) (hown : s.vm.findClass own = some m.cls) (hts : ∀ w ∈ Ts, w.before args s = true)
    (hK : va_K dd vwCl (gty cI cJ cC cS) s) (hP : va_P dd vwCl ws H) (hD : va_D A0 ws) (hS : va_S A0 s.heap H locs) (hA : ∀ q : Nat, s.heap.size ≤ q → A0 q) (hAO : va_AO RX5 s)
    (isC isR : List Nat) (hC : isC.map (fun i => ws[i]?) = wc.map some) (hR : isR.map (fun i => ws[i]?) = wr.map some) (hn : va_nd isC = true ∧ va_nd isR = true) (hdis : ∀ i ∈ isR, i ∉ isC)
    
    (hM : gNv l y wsy k' mc ms dd cI cJ cC cS (.ref b :: As) wc H.size post w1)
    (hG : GoodIn Ts wsy) (hw : wsy = Cond.code y bytes maxL none :: ws') (hini : (Cond.initialized y.cls).before args s = true) (hl1 : (Cond.methodLink own index y).before args s = true) (hin1 : (Cond.instanceMethod y).before args s = true) (hy1 : y.name = "<init>") (hd : y.cls ≠ "java/lang/invoke/MethodHandle" ∧ y.cls ≠ "java/lang/invoke/VarHandle" ∧ (parseMethodDescriptor y.desc).map (fun d => d.parameters.length) = some n) (hmx : maxL ≤ 21) (hRf : k' + 1 ≤ R.frames) (hRl : 40 * (k' + 1) ≤ R.locals)
    (hf : cells + mc ≤ R.cells ∧ slots + ms ≤ R.slots) (hlen : As.length = n) (hsz : ls.size = nL) (hst : st = As.reverse ++ .ref b :: rest) (hcat : (rest.map fun v => v.category).sum ≤ 8) (hdg : decode cc pc = .ok (.invokespecial index, 3))
    (kk : ∀ (u : S) (H1 : Heap) (locs1 : List Loc), post u → va_P dd vwCl (wr ++ w1 u) H1 → va_D A0 (wr ++ w1 u) → va_S A0 s.heap H1 locs1 → W p l e R s m args below meth c H1 locs1 (cells + mc) (slots + ms) Q (F0 m (pc + 3) ls (rest))) :
    W p l e R s m args below meth c H locs cells slots Q (F0 m pc ls st) := by
  have hPc := hP.sub (ws' := wc) isC (g_fm hC)
  have hDc := hD.sub (ws' := wc) isC hn.1 hC
  have hFc := va_free (wc := wc) hD hS hA isC hC
  subst hst
  refine va_callv (va_runI (As := As) (rest := rest) ⟨hx, hb, hml, hown, hts⟩ hM (cwI n hts hG hw rfl rfl hini hl1 hin1 hy1 hd ⟨hRf, by show 8 + (maxL + 11) + 40 * k' ≤ _; omega⟩) ⟨gPreN_blind, fun U hU hW => ⟨rfl, ⟨by rw [hU], by rw [hU]; exact hPc, va_K.moved hW.alike hK, hDc.weaken (fun _ _ _ _ => trivial)⟩, va_AO.moved hW.alike hAO⟩⟩ rfl hlen hsz rfl (lv_room hcat) hdg hf) hS (fun q _ h => hFc q h) hFc (fun u t H1 locs1 ht hvm hp hB hz1 hk1 hS1 => ?_)
  skip
  obtain ⟨hP1, hK1, hD1⟩ := hB
  rw [ht] at hP1
  obtain ⟨hP2, hD2⟩ := va_join hP hD isC isR hC hR hn.2 hdis hk1 hFc hP1 hD1
  exact kk u H1 locs1 hp hP2 hD2 hS1
theorem z_newq {dd : va_G} {cI cJ cC cS : ClassId} {ws : va_W} {A : Nat → Prop} {H0 : Heap} (hx : p.tables.exec = Jvm.exec) (hb : c.code = cc) {own : String} {index : Nat} (hown : s.vm.findClass own = some m.cls) (hlink : (Cond.classLink own index RX5).before args s = true) (hAO : va_AO RX5 s) (hK : va_K dd vwCl (gty cI cJ cC cS) s) (hP : va_P dd vwCl ws H) (hD : va_D A ws) (hS : va_S A H0 H locs) (hA : ∀ q : Nat, H0.size ≤ q → A q) {n : Int} (N : Nat) (hn : n = N ∧ N < 2000) (hcells : cells + 1 ≤ R.cells) (hslots : slots + N ≤ R.slots) (hdg : decode cc pc = .ok (.anewarray index, 3))
    (kk : ∀ (q : Nat) (H1 : Heap), va_P dd vwCl (ws ++ [kR cS q N (fun _ => none)]) H1 → va_D A (ws ++ [kR cS q N (fun _ => none)]) → va_S A H0 H1 locs → W p l e R s m args below meth c H1 locs (cells + 1) (slots + N) Q (F0 m (pc + 3) ls (.ref q :: rest))) : W p l e R s m args below meth c H locs cells slots Q (F0 m pc ls (.int (zI n) :: rest)) := by
  obtain ⟨rfl, hN⟩ := hn
  refine va_newq hx hb hown hlink hAO hK hP hD hS hA ?_ (zI_clamp (by omega) (by omega)) (by omega) hcells hslots hdg (fun q cA H1 h1 h2 h3 h4 => ?_)
  · intro q
    rw [zI_0] at q
    have := (zI_lt ⟨by omega, by omega⟩ ⟨by omega, by omega⟩).mp q
    omega
  · obtain ⟨_, _, _, _, _, e1⟩ := (hK.2 3 _ rfl).2
    obtain ⟨_, _, _, _, _, e2⟩ := (h1.2 4 _ rfl).2
    have e3 : cS = cA := Option.some.inj (e1.symm.trans e2)
    subst e3
    exact kk q H1 h2 h3 h4
end ZN2

