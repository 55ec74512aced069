/-! ===== links ===== -/
def hoP (p : Int) : Int → Bool := fun c => decide (c % 100 ≤ p ∧ p ≤ c / 100)
noncomputable def gh (F : Int → Int) (p : Int) : Int := grt F (hoP p)
noncomputable def pl (F : Int → Int) (a : Int) : Nat → Int
  | 0 => a
  | n + 1 => gh F (pl F a n) / 100 + 1
