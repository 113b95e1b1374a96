/-! the script's ints -/
def sc (xs : Nat → Int32) (i : Int) : Int := (xs i.toNat).toInt
def gPreS (dd : va_G) (cI cJ cC cS : ClassId) (b L : Nat) (xs : Nat → Int32) (wc : va_W) (sz : Nat) : State → Prop := fun U => gPre dd cI cJ cC cS wc sz U ∧ va_X b L xs U U.heap ∧ b < sz
theorem gPreS_blind {dd : va_G} {cI cJ cC cS : ClassId} {b L : Nat} {xs : Nat → Int32} {av : List Value} {wc : va_W} {sz : Nat} : FrameBlind (va_Pc av (gPreS dd cI cJ cC cS b L xs wc sz)) := fun a U g mk q => by
  obtain ⟨h1, ⟨h2, h3, h4, h5⟩, h6, h7⟩ := q
  exact ⟨h1, ⟨h2, h3, va_K.moved (u := U) (U := U.calling g mk a) (Vm.Alike.refl U.vm) h4, h5⟩, va_X.moved (u := U) (U := U.calling g mk a) (Vm.Alike.refl U.vm) h6, h7⟩
def gSi (l : Launch) (y : MethodName) (wsy : List Cond) (k mc ms : Nat) (dd : va_G) (cI cJ cC cS : ClassId) (b L : Nat) (xs : Nat → Int32) (av : List Value) (wc : va_W) (sz : Nat) {S : Type} (post : Int → S → Prop) (w1 : S → va_W) : Prop :=
  Met l y wsy (gR k mc ms) (va_Pc av (gPreS dd cI cJ cC cS b L xs wc sz)) (va_Qi (fun r u => ∃ z : Int, r = zI z ∧ post z u) (gAt dd cI cJ cC cS w1 (va_A wc sz)) (va_A wc sz)) mc ms (va_A wc sz)
section ZS
variable {p : Program} {l : Launch} {e : Env} {R : Room} {s : State} {m : MethodId} {args : Array Value} {below : List Frame} {meth : Method} {c : Code} {H : Heap} {locs : List Loc} {cells slots : Nat} {Q : State → Prop} {pc : Nat} {ls : Array Slot} {rest : List Value} {cc : ByteArray}
theorem g_scallSi {dd : va_G} {b9 L9 : Nat} {xs9 : Nat → Int32} {cI cJ cC cS : ClassId} {own : String} {index : Nat} {y : MethodName} {bytes : ByteArray} {maxL nL k' mc ms n : Nat} {ret : Option FieldType} {wsy ws' Ts : List Cond} {As st : List Value} {ws wc wr : va_W} {A0 : Nat → Prop} {S : Type} {post : Int → S → Prop} {w1 : S → va_W} 
    (hx : p.tables.exec = Jvm.exec) (hb : c.code = cc) (hml : c.maxLocals = nL) (hown : s.vm.findClass own = some m.cls) (hts : ∀ w ∈ Ts, w.before args s = true)
    (hK : va_K dd vwCl (gty cI cJ cC cS) s) (hP : va_P dd vwCl ws H) (hD : va_D A0 ws) (hS : va_S A0 s.heap H locs) (hA : ∀ q : Nat, s.heap.size ≤ q → A0 q) (hX : va_X b9 L9 xs9 s s.heap) (hbl : b9 < s.heap.size) (hbA : ¬ A0 b9)
    (isC isR : List Nat) (hC : isC.map (fun i => ws[i]?) = wc.map some) (hR : isR.map (fun i => ws[i]?) = wr.map some) (hn : va_nd isC = true ∧ va_nd isR = true) (hdis : ∀ i ∈ isR, i ∉ isC)
    
    (hM : gSi l y wsy k' mc ms dd cI cJ cC cS b9 L9 xs9 As wc H.size post w1)
    (hG : GoodIn Ts (va_wsS own index y wsy)) (hw : wsy = Cond.code y bytes maxL ret :: ws') (hd : y.cls ≠ "java/lang/invoke/MethodHandle" ∧ y.cls ≠ "java/lang/invoke/VarHandle" ∧ (parseMethodDescriptor y.desc).map (fun d => d.parameters.length) = some n) (hmx : maxL ≤ 21) (hRf : k' + 1 ≤ R.frames) (hRl : 40 * (k' + 1) ≤ R.locals)
    (hf : cells + mc ≤ R.cells ∧ slots + ms ≤ R.slots) (hlen : As.length = n) (hsz : ls.size = nL) (hst : st = As.reverse ++ rest) (hcat : (rest.map fun v => v.category).sum ≤ 8) (hdg : decode cc pc = .ok (.invokestatic index, 3))
    (kk : ∀ (z : Int) (u : S) (H1 : Heap) (locs1 : List Loc), post z u → va_P dd vwCl (wr ++ w1 u) H1 → va_D A0 (wr ++ w1 u) → va_S A0 s.heap H1 locs1 → W p l e R s m args below meth c H1 locs1 (cells + mc) (slots + ms) Q (F0 m (pc + 3) ls (.int (zI z) :: rest))) :
    W p l e R s m args below meth c H locs cells slots Q (F0 m pc ls st) := by
  have hPc := hP.sub (ws' := wc) isC (g_fm hC)
  have hDc := hD.sub (ws' := wc) isC hn.1 hC
  have hFc := va_free (wc := wc) hD hS hA isC hC
  subst hst
  refine va_calli (va_runS (As := As) (rest := rest) ⟨hx, hb, hml, hown, hts⟩ hM (va_cwS n hts hG hw rfl rfl hd ⟨hRf, by show 8 + (maxL + 11) + 40 * k' ≤ _; omega⟩) ⟨gPreS_blind, fun U hU hW => ⟨rfl, ⟨by rw [hU], by rw [hU]; exact hPc, va_K.moved hW.alike hK, hDc.weaken (fun _ _ _ _ => trivial)⟩, by rw [hU]; exact (va_X.moved hW.alike hX).kept (hS.2.1 b9 hbl hbA), Nat.lt_of_lt_of_le hbl hS.1⟩⟩ rfl hlen hsz rfl (lv_room hcat) hdg hf) hS (fun q _ h => hFc q h) hFc (fun r u t H1 locs1 ht hvm hp hB hz1 hk1 hS1 => ?_)
  obtain ⟨z, rfl, hp⟩ := hp
  obtain ⟨hP1, hK1, hD1⟩ := hB
  rw [ht] at hP1
  obtain ⟨hP2, hD2⟩ := va_join hP hD isC isR hC hR hn.2 hdis hk1 hFc hP1 hD1
  exact kk z u H1 locs1 hp hP2 hD2 hS1
theorem z_sld (hx : p.tables.exec = Jvm.exec) (hb : c.code = cc) {b L : Nat} {xs : Nat → Int32} {A : Nat → Prop} {H0 : Heap} (hX : va_X b L xs s H0) (hbl : b < H0.size) (hbA : ¬ A b) (hS : va_S A H0 H locs) {i : Int} (h : 0 ≤ i ∧ i < L) (hL : L < 2147483648) (hdg : decode cc pc = .ok (.iaload, 1)) (k : W p l e R s m args below meth c H locs cells slots Q (F0 m (pc + 1) ls (.int (zI (sc xs i)) :: rest))) : W p l e R s m args below meth c H locs cells slots Q (F0 m pc ls (.int (zI i) :: .ref b :: rest)) := by
  refine va_sld hx hb hX hbl hbA hS (zI_in h.1 h.2 hL) hdg ?_
  rw [zI_clamp h.1 (by omega), zI_of (xs i.toNat)]
  exact k
end ZS
set_option maxHeartbeats 4000000 in
set_option maxRecDepth 100000 in
theorem c_L_cell (l : Launch) (dd : va_G) (cI cJ cC cS : ClassId) (b L : Nat) (xs : Nat → Int32) (k9 : Int) (sz : Nat) (hL : L < 2147483648) (hk : 0 ≤ k9 ∧ k9 < 1000) : gSi l yL_cell wsL_cell 1 0 0 dd cI cJ cC cS b L xs [.ref b, vI k9] [] sz (fun (_ : Int) (_ : Unit) => True) (fun (_ : Unit) => []) := by
  unfold gSi
  refine Met.ofW (cc := cL_cell) (maxL := 2) (ret := some .int) (by decide) rfl ?_
  intro p e s m args below meth c s₁ B hml hv
  obtain ⟨rfl, ⟨hsz, hP, hK, hD0⟩, hX, hbl⟩ := hv
  have hx := B.exec
  have hb := B.bytes
  have hr := B.returns
  have hlocks := B.notSynchronized
  have hts := atoms_spec (ws := wsL_cell) B.pre
  have hown : s.vm.findClass RL = some m.cls := findClass_of_methodNamed B.named
  subst hsz
  have hD := hD0.self (sz := s.heap.size)
  have hS : va_S (va_A [] s.heap.size) s.heap s.heap [] := va_S.rf
  have hbA : ¬ va_A [] s.heap.size b := fun q => by
    rcases q with ⟨k, x, h⟩ | q
    · simp at h
    · omega
  have hl := lv_entry ([.ref b, vI k9]) (n := 2) (Nat.le_of_ble_eq_true rfl)
  rw [lg_entry_eq]
  generalize (lg_sl ([.ref b, vI k9]) ++ List.replicate (2 - (lg_sl ([.ref b, vI k9])).length) Slot.unset).toArray = ls at hl ⊢
  have hl : lv_has ls 2 [(0, .ref b), (1, vI k9)] := hl
  refine lv_iload_n hx hb dL_cell_0 rfl (lv_at hl 1 rfl) ?_
  refine lv_aload_n hx hb dL_cell_1 rfl (lv_at hl 0 rfl) ?_
  refine va_slen hx hb hX hbl hbA hS dL_cell_2 ?_
  refine z_bin (va := .null) (vb := .null) (y := zI (L : Int)) Int32.ofInt_eq_ofNat.symm ?_
  refine z_icmp_ge (tgt := 12) hx hb dL_cell_3 (by decide) (by omega) (fun c3 => ?_) (fun c3 => ?_)
  · refine W.ldc (own := RL) (v := (763049417)) hx hb hown (hts _ (List.mem_cons_of_mem _ (List.mem_of_getElem? (i := 0) rfl))) rfl dL_cell_12 ?_
    refine z_eq (g2 := F0 m 14 ls (vI 763049417 :: [])) rfl ?_
    refine lv_iload_n hx hb dL_cell_14 rfl (lv_at hl 1 rfl) ?_
    refine z_iconst hx hb dL_cell_15 ?_
    refine z_iadd (z := (k9 + 3)) hx hb rfl dL_cell_16 ?_
    refine z_imul (z := (763049417 * (k9 + 3))) hx hb rfl dL_cell_17 ?_
    refine z_iret (z := (763049417 * (k9 + 3))) hx hb hr hlocks dL_cell_18 () hK hS ⟨Nat.le_refl _, Nat.le_refl _⟩ hP hD ?_
    exact trivial
  · refine lv_aload_n hx hb dL_cell_6 rfl (lv_at hl 0 rfl) ?_
    refine lv_iload_n hx hb dL_cell_7 rfl (lv_at hl 1 rfl) ?_
    refine z_sld hx hb hX hbl hbA hS (i := k9) (by omega) hL dL_cell_8 ?_
    refine lv_goto (tgt := 18) hx hb dL_cell_9 (by decide) ?_
    refine z_iret (z := sc xs k9) hx hb hr hlocks dL_cell_18 () hK hS ⟨Nat.le_refl _, Nat.le_refl _⟩ hP hD ?_
    exact trivial
