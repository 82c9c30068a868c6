/-! the pads, alike -/
def PadR (G : GS) (n : Nat) : Prop := n ≤ 80 ∧ G.1 0 25 0 = nI n ∧ G.1 0 29 7 = nI n ∧ ∀ i, i < n → G.2.1 0 26 i = G.2.1 0 34 i
def fI (x : Int32) : Int64 := x.toInt64
def fZ (x : Int32) : Int64 := if x = 0 then 0 else 1
