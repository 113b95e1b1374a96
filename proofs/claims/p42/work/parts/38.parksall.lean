/-! the model: all cars park -/
def lvZ (n : Int) (cap : Int → Int) (ru re : Int) (wi : Int → Int) (k : Nat) : Int := sumZ (fun c => if ppl n cap ru re wi c = -1 then 1 else 0) k
