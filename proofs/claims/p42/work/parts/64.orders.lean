/-! all arrangements, one after the other, come back to the first -/
section PO
variable {n : Int} {cap : Int → Int} {ru re : Int} {w f f1 : Int → Int} {q k fo gr fo1 gr1 z pk : Int}
theorem aI_01 (c : Int) : 0 ≤ aI pk n cap ru re w q c ∧ aI pk n cap ru re w q c ≤ 1 := by
  unfold aI
  by_cases u : sameC (dgZ n c q) w q.toNat ∧ (pk = 0 ∨ lvZ n cap ru re (dgZ n c q) q.toNat = 0)
  · rw [if_pos u]; omega
  · rw [if_neg u]; omega
/-- arrangements (pk = 1: those that park) ahead of a list -/
noncomputable def pC (pk n : Int) (cap : Int → Int) (ru re : Int) (w : Int → Int) (q : Int) (f : Int → Int) : Int := sumZ (aI pk n cap ru re w q) (codZ n f q.toNat).toNat
noncomputable def pN (pk n : Int) (cap : Int → Int) (ru re : Int) (w : Int → Int) (q : Int) : Int := sumZ (aI pk n cap ru re w q) (powZ n q.toNat).toNat
def ARI (n : Int) (cap : Int → Int) (ru re : Int) (w : Int → Int) (q : Int) (f : Int → Int) (k fo gr : Int) : Prop :=
  (∀ j : Int, 0 ≤ j → j < q → 0 ≤ f j ∧ f j < n) ∧ sameC f w q.toNat ∧
  ((pC 0 n cap ru re w q f = pC 0 n cap ru re w q w + k ∧ fo = pC 1 n cap ru re w q f - pC 1 n cap ru re w q w ∧ gr = k) ∨
   (1 ≤ k ∧ pC 0 n cap ru re w q f = pC 0 n cap ru re w q w + k - pN 0 n cap ru re w q ∧ fo = pC 1 n cap ru re w q f - pC 1 n cap ru re w q w + pN 1 n cap ru re w q ∧ gr = k - 1))
theorem ari_0 (hw : ∀ j : Int, 0 ≤ j → j < q → 0 ≤ w j ∧ w j < n) : ARI n cap ru re w q w 0 0 0 := ⟨hw, fun _ => rfl, Or.inl ⟨by omega, by omega, rfl⟩⟩
theorem pC_lt (hn : 1 ≤ n ∧ n ≤ 8) (hq : 0 ≤ q) (hf : ∀ j : Int, 0 ≤ j → j < q → 0 ≤ f j ∧ f j < n) (hs : sameC f w q.toNat) : 0 ≤ pC 0 n cap ru re w q f ∧ pC 0 n cap ru re w q f < pN 0 n cap ru re w q := by
  have hr := codZ_rg hn q.toNat (fun j a b => hf j a (by omega))
  exact ⟨(sum01 (fun j => aI_01 j) _).1, sum_lt (fun j => aI_01 j) hr.1 hr.2 ((aI_at hn hq hf hs).1 (Or.inl rfl))⟩
theorem ari_s (hn : 1 ≤ n ∧ n ≤ 8) (hq : 0 ≤ q) (hw : ∀ j : Int, 0 ≤ j → j < q → 0 ≤ w j ∧ w j < n) (h : ARI n cap ru re w q f k fo gr) (hk : 0 ≤ k ∧ k < pN 0 n cap ru re w q) (hgo : GO n q f f1 z) (hfo : (lvZ n cap ru re f q.toNat = 0 ∧ fo1 = fo + 1) ∨ (lvZ n cap ru re f q.toNat ≠ 0 ∧ fo1 = fo)) (hgr : gr1 = gr + z) : ARI n cap ru re w q f1 (k + 1) fo1 gr1 := by
  obtain ⟨hf, hs, hd⟩ := h
  have hs1 : sameC f1 w q.toNat := fun s => (hgo.2.1 s).trans (hs s)
  have ha0 : aI 0 n cap ru re w q (codZ n f q.toNat) = 1 := (aI_at hn hq hf hs).1 (Or.inl rfl)
  have ha1 : fo1 = fo + aI 1 n cap ru re w q (codZ n f q.toNat) := by
    rcases hfo with ⟨u, v⟩ | ⟨u, v⟩
    · rw [(aI_at hn hq hf hs).1 (Or.inr u)]
      exact v
    · rw [(aI_at hn hq hf hs).2 (by decide) u, v, Int.add_zero]
  have hw0 := pC_lt (cap := cap) (ru := ru) (re := re) hn hq hw (fun _ => rfl)
  refine ⟨hgo.1, hs1, ?_⟩
  have hz := go_z hgo
  by_cases e : z = 1
  · have g0 := go1_1 (pk := 0) (cap := cap) (ru := ru) (re := re) (w := w) hgo e hn hq hf hs
    have g1 := go1_1 (pk := 1) (cap := cap) (ru := ru) (re := re) (w := w) hgo e hn hq hf hs
    have g0' : pC 0 n cap ru re w q f1 = pC 0 n cap ru re w q f + aI 0 n cap ru re w q (codZ n f q.toNat) := g0
    have g1' : pC 1 n cap ru re w q f1 = pC 1 n cap ru re w q f + aI 1 n cap ru re w q (codZ n f q.toNat) := g1
    rw [ha0] at g0'
    rcases hd with ⟨a, b, c⟩ | ⟨y, a, b, c⟩
    · exact Or.inl ⟨by omega, by omega, by omega⟩
    · exact Or.inr ⟨by omega, by omega, by omega, by omega⟩
  · have e : z = 0 := by omega
    have g0 := go0_1 (pk := 0) (cap := cap) (ru := ru) (re := re) (w := w) hgo e hn hq hf hs
    have g1 := go0_1 (pk := 1) (cap := cap) (ru := ru) (re := re) (w := w) hgo e hn hq hf hs
    have g0' : pN 0 n cap ru re w q = pC 0 n cap ru re w q f + aI 0 n cap ru re w q (codZ n f q.toNat) := g0
    have g1' : pN 1 n cap ru re w q = pC 1 n cap ru re w q f + aI 1 n cap ru re w q (codZ n f q.toNat) := g1
    have s0 : pC 0 n cap ru re w q f1 = 0 := go_s hgo e hn hs
    have s1 : pC 1 n cap ru re w q f1 = 0 := go_s hgo e hn hs
    rw [ha0] at g0'
    rcases hd with ⟨a, b, c⟩ | ⟨y, a, b, c⟩
    · exact Or.inr ⟨by omega, by omega, by omega, by omega⟩
    · exfalso
      omega
theorem ari_end (hn : 1 ≤ n ∧ n ≤ 8) (hq : 0 ≤ q) (hw : ∀ j : Int, 0 ≤ j → j < q → 0 ≤ w j ∧ w j < n) (h : ARI n cap ru re w q f (pN 0 n cap ru re w q) fo gr) : (∀ j : Int, 0 ≤ j → j < q → f j = w j) ∧ fo = pN 1 n cap ru re w q ∧ gr = pN 0 n cap ru re w q - 1 := by
  obtain ⟨hf, hs, hd⟩ := h
  have hw0 := pC_lt (cap := cap) (ru := ru) (re := re) hn hq hw (fun _ => rfl)
  have hf0 := pC_lt (cap := cap) (ru := ru) (re := re) hn hq hf hs
  rcases hd with ⟨a, b, c⟩ | ⟨y, a, b, c⟩
  · exfalso
    omega
  · have hcf := codZ_rg hn q.toNat (fun j a b => hf j a (by omega))
    have hcw := codZ_rg hn q.toNat (fun j a b => hw j a (by omega))
    have hc : codZ n f q.toNat = codZ n w q.toNat := by
      rcases Int.lt_trichotomy (codZ n f q.toNat) (codZ n w q.toNat) with u | u | u
      · have := sum_lt (f := aI 0 n cap ru re w q) (fun j => aI_01 j) hcf.1 u ((aI_at hn hq hf hs).1 (Or.inl rfl))
        have e1 : pC 0 n cap ru re w q f < pC 0 n cap ru re w q w := this
        omega
      · exact u
      · have := sum_lt (f := aI 0 n cap ru re w q) (fun j => aI_01 j) hcw.1 u ((aI_at hn hq hw (fun _ => rfl)).1 (Or.inl rfl))
        have e1 : pC 0 n cap ru re w q w < pC 0 n cap ru re w q f := this
        omega
    have hp : pC 1 n cap ru re w q f = pC 1 n cap ru re w q w := by
      unfold pC
      rw [hc]
    refine ⟨fun j h0 h1 => ?_, by omega, by omega⟩
    rw [← dg_cod hn hq hf j h0 h1, ← dg_cod hn hq hw j h0 h1, hc]
theorem arW_ext {ct : Int} (h : ∀ j : Int, 0 ≤ j → j < ct → f j = w j) : ∀ k : Nat, arW f ct k = arW w ct k
  | 0 => rfl
  | k + 1 => by
    show arW f ct k * chZ (cntB f ((k : Int) + 1) ct.toNat) (cntB f ((k : Int) + 1) ct.toNat - cntB f (k : Int) ct.toNat) = arW w ct k * chZ (cntB w ((k : Int) + 1) ct.toNat) (cntB w ((k : Int) + 1) ct.toNat - cntB w (k : Int) ct.toNat)
    rw [arW_ext h k, cntB_cg (f := f) (g := w) ct.toNat (fun j a b => h j a (by omega)), cntB_cg (f := f) (g := w) ct.toNat (fun j a b => h j a (by omega))]
theorem arW_rg {ct : Int} (hc : 0 ≤ ct ∧ ct ≤ 9) (hw : ∀ j : Int, 0 ≤ j → j < ct → 0 ≤ w j) (k : Nat) : 0 ≤ arW w ct k ∧ arW w ct k ≤ 362880 := by
  have h := arW_b hc hw k
  have h2 := cntB_rg w (k : Int) ct.toNat
  have h3 := fctZ_b (a := cntB w (k : Int) ct.toNat) (by omega)
  omega
end PO
