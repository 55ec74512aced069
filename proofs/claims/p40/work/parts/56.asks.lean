/-! ===== the chain of chosen spans ===== -/
def frP (t : Int) : Int → Bool := fun c => decide (t < c % 100)
noncomputable def chn (F : Int → Int) : Nat → Int
  | 0 => lst F (frP (-1))
  | n + 1 => if chn F n = -1 then -1 else lst F (frP (chn F n / 100))
noncomputable def eN (F : Int → Int) : Nat → Int
  | 0 => -1
  | n + 1 => chn F n / 100
/-! the class's chain -/
