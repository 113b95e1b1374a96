/-! the model: lists tried -/
def wv (mv : Int → Int) : Int → Int := fun j => mv (12 + j)
def udZ (mp : Int → Int) (sts : Int) : Int → Int := fun k => mp (21 * sts + k)
