/-! the reference as its constructor leaves it -/
def yZ : Nat → Nat → Int32 := yS (fun _ _ => 0) 2 (-1)
def rI0 : Nat → Int32 := va_up (va_up (va_up (fun _ => 0) 1 8) 2 2) 3 6
def rI1 : Nat → Int32 := rAddsCloud rI0 0 0
def rI2 : Nat → Int32 := rAddsCloud rI1 1 3
def rI3 : Nat → Int32 := rAddsCloud rI2 2 9
def rI4 : Nat → Int32 := rAddsClerk rI3 0 3 20
def rI5 : Nat → Int32 := rAddsClerk rI4 1 7 5
def rI6 : Nat → Int32 := rFiles rI5 0 4 0 5
def rI7 : Nat → Int32 := rFiles rI6 1 4 1 2
def rI8 : Nat → Int32 := rFiles rI7 2 9 2 6
def rI9 : Nat → Int32 := rFiles rI8 3 30 3 9
theorem rI_c : rI0 4 = nI 0 ∧ rI1 4 = nI 1 ∧ rI2 4 = nI 2 := by decide +kernel
theorem rI_k : rI3 5 = nI 0 ∧ rI4 5 = nI 1 := by decide +kernel
theorem rI_n : rI5 6 = nI 0 ∧ rI6 6 = nI 1 ∧ rI7 6 = nI 2 ∧ rI8 6 = nI 3 := by decide +kernel
def yI0 : Nat → Nat → Int32 := va_up yZ 1 rI9
