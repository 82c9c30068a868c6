/-! The world at the loop's start, and that class and reference agree there. -/
def iF : Nat → Nat → Int32 := fun o k => if o = 1 ∧ k = 0 then 1 else if o = 4 ∧ k ≤ 1 then 1 else 0
def iA : Nat → Nat → Int32 := fun o => if o = 5 then upd (fun _ => 0) 0 (-1) else if o = 6 then upd (fun _ => 0) 0 0 else if o = 7 then upd (fun _ => 0) 0 15 else (fun _ => 0)
def iw : Nat → Int32 := fF (upd (fun _ => 0) 0 1)
theorem rel0_c : (∀ u, u < 12 → ∀ a, a < 8 → bt (iA 2 u) a = bt (iw (2 + a)) u) ∧ (∀ a, a < 8 → iA 3 a = iw (10 + a)) ∧ (∀ o, o < 20 → bt (iF 4 0) o = decide (iw (oA o 0) = 1)) := by decide +kernel
