/-! the model: the list parks -/
theorem lvZ_congr {n : Int} {cap : Int → Int} {ru re : Int} {wi wj : Int → Int} (k : Nat) (h : ∀ j : Int, 0 ≤ j → j < k → wi j = wj j) : lvZ n cap ru re wi k = lvZ n cap ru re wj k := sumZ_congr _ (fun c h0 h1 => by
  show (if _ then (1 : Int) else 0) = (if _ then (1 : Int) else 0)
  rw [ppl_congr (wj := wj) h0 (fun i a b => h i a (by omega))])
