/-! ===== rows of codes: what the model's helpers answer ===== -/
def mt (f : Int → Int) (k r : Int) : Prop := f k % 100 ≤ f r / 100 ∧ f r % 100 ≤ f k / 100
