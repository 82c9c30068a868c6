/-! The world at the loop's start, and that class and reference agree there. -/
def iF : Nat → Nat → Int32 := fun o k => if o = 1 ∧ k = 0 then 1 else if o = 4 ∧ k ≤ 1 then 1 else 0
def iA : Nat → Nat → Int32 := fun o => if o = 5 then upd (fun _ => 0) 0 (-1) else if o = 6 then upd (fun _ => 0) 0 0 else if o = 7 then upd (fun _ => 0) 0 15 else (fun _ => 0)
def fF (f : Nat → Int32) : Nat → Int32 := upd (upd (upd (upd (upd f 18 1) 19 (-1)) 20 0) 21 15) 22 1
def iw : Nat → Int32 := fF (upd (fun _ => 0) 0 1)
theorem rel0_c : (∀ u, u < 12 → ∀ a, a < 8 → bt (iA 2 u) a = bt (iw (2 + a)) u) ∧ (∀ a, a < 8 → iA 3 a = iw (10 + a)) ∧ (∀ o, o < 20 → bt (iF 4 0) o = decide (iw (oA o 0) = 1)) := by decide +kernel
theorem bLt0 (n : Nat) : bLt 0 n := by intro i _; simp [bt]
theorem bLt1 : bLt 1 20 := by
  intro i hi
  by_cases h : i < 32
  · exact (by decide : ∀ i, i < 32 → 20 ≤ i → bt 1 i = false) i h hi
  · exact BitVec.getLsbD_of_ge _ _ (by omega)
theorem rUG0 : rUG iF iA iw :=
  ⟨by decide +kernel, by decide +kernel, fun u _ => by rw [show iA 2 u = 0 from rfl]; exact bLt0 _, fun a ha => by rw [(by decide +kernel : ∀ a, a < 8 → iw (2 + a) = 0) a ha]; exact bLt0 _, fun u a hu ha => rel0_c.1 u hu a ha, rel0_c.2.1, fun a ha => by rw [(by decide +kernel : ∀ a, a < 8 → iw (10 + a) = 0) a ha]; exact bLt0 _, fun a _ ha => (by decide +kernel : ∀ a, a < 8 → iw (10 + a) = 0) a ha⟩
theorem rTr0 : rTr iF iA iw :=
  ⟨bLt1, by decide +kernel, rel0_c.2.2, by decide +kernel, by decide +kernel, fun o h0 ho h1 => absurd h1 ((by decide +kernel : ∀ o, o < 20 → 0 < o → ¬ iw (oA o 0) = 1) o ho h0), by decide +kernel⟩
theorem rLs0 : rLs iA iw := fun o ho => ⟨(by decide +kernel : ∀ o, o < 20 → iA 9 o = iw (oA o 5)) o ho, fun _ => (by decide +kernel : ∀ o, o < 20 → iw (oA o 5) = 0) o ho, fun i hi => absurd hi (by rw [(by decide +kernel : ∀ o, o < 20 → mCt iw o = 0) o ho]; exact Nat.not_lt_zero i)⟩
theorem rLg0 (t : Nat) : rLg iF iA iw t := ⟨0, Nat.zero_le t, by decide +kernel, by decide +kernel, by decide +kernel, by decide +kernel, fun a ha => absurd ha (by simp)⟩
theorem mOk0 : mOk iw :=
  ⟨by decide +kernel, by decide +kernel, by decide +kernel, by decide +kernel, fun o i ho hi h => absurd h ((by decide +kernel : ∀ o, o < 20 → ∀ i, i < 6 → ¬ iw (enA o i 0) = 1) o ho i hi), fun o => if o = 0 then 0 else 1, fun o ho => ⟨by show (if o = 0 then 0 else 1) < 20; split <;> decide, by
    by_cases h : o = 0
    · subst h; exact Or.inl (by decide +kernel)
    · exact Or.inr ⟨0, by decide, (by decide +kernel : ∀ o, o < 20 → ¬ o = 0 → iw (oA o 1) = nI 0) o ho h, by show (if 0 = 0 then 0 else 1) < (if o = 0 then 0 else 1); rw [if_neg h]; decide⟩⟩⟩
theorem rel0 (t : Nat) : Rel iF iA iw t := ⟨rUG0, rTr0, rLs0, rLg0 t, mOk0⟩
/-- the world when all is made -/
def G0 : GS := (fun _ o => if o = 27 then (fun k => if k = 1 then -1 else 0) else iF o, fun _ o => if o = 30 then iw else iA o, fun _ => false, 0)
theorem sim0 : Sim G0 0 :=
  ⟨rel0 0, ⟨0, 0, by decide, by decide, rfl, rfl, rfl, fun i hi => absurd hi (Nat.not_lt_zero i)⟩, fun j _ => Or.inr ⟨rfl, rfl⟩, ⟨0, by decide, rfl, rfl, fun i hi => absurd hi (Nat.not_lt_zero i)⟩, ⟨0, rfl, by decide⟩, ⟨0, rfl, by decide⟩⟩
/-! the law's rows at the loop's start -/
def pI (n : Nat) : Nat → Int32 := fun k => if k < n then (if k = 0 then -1 else -2) else 0
theorem pI_0 : pI 0 = fun _ => 0 := by funext k; rfl
theorem pI_s (n : Nat) (v : Int32) (h : v = if n = 0 then -1 else -2) : upd (pI n) n v = pI (n + 1) := by
  subst h
  funext k
  unfold pI
  by_cases hk : k = n
  · subst hk; rw [upd_s, if_pos (Nat.lt_succ_self k)]
  · rw [upd_n hk]
    by_cases h2 : k < n
    · rw [if_pos h2, if_pos (show k < n + 1 by omega)]
    · rw [if_neg h2, if_neg (show ¬ k < n + 1 by omega)]
def p0 : Nat → Int32 := upd (upd (pI 10) 20 15) 30 1
def t0 : Nat → Int32 := upd (upd (fun _ => 0) 0 1) 2 1
theorem lrq0_c : ((∀ a, a < 8 → (0 : Int32) = iw (2 + a)) ∧ (∀ a, a < 8 → ∀ b, b < 8 → bt 0 b = bt (iw (10 + b)) a)) ∧ (∀ k, k < 10 → ((p0 k = -2 ↔ ¬ iw (oA k 0) = 1) ∧ (iw (oA k 0) = 1 → p0 k = iw (oA k 1) ∧ p0 (10 + k) = iw (oA k 2) ∧ p0 (20 + k) = iw (oA k 3) ∧ p0 (30 + k) = iw (oA k 4) ∧ p0 (40 + k) = iw (oA k 5)))) ∧ (∀ k, k < 20 → 10 ≤ k → ¬ iw (oA k 0) = 1) := by decide +kernel
theorem lrq0_d : (∀ k, k < 10 → mCt iw k = 0) ∧ (t0 0 = iw 0 ∧ t0 1 = iw 1 ∧ t0 2 = mHo iw 20 0 0) ∧ (t0 3 = iw 763 ∧ t0 4 = iw 764) ∧ (iw 763 = nI 0 ∧ iw 762 = nI (min 8 0)) ∧ (∀ k, k < 10 → iw (oA k 0) = 1 → iw (oA k 4) = 0 ∨ iw (oA k 4) = 1) := by decide +kernel
theorem lrq0 : LRq iw (fun _ => 0) p0 (fun _ => 0) (fun _ => 0) t0 :=
  ⟨⟨lrq0_c.1.1, fun a _ => bLt0 _, fun a b ha hb => lrq0_c.1.2 a ha b hb⟩, ⟨lrq0_c.2.1, fun k h1 h2 => lrq0_c.2.2 k h2 h1⟩, fun k i hk _ hi => absurd hi (by rw [lrq0_d.1 k hk]; exact Nat.not_lt_zero i), lrq0_d.2.1, ⟨lrq0_d.2.2.1, 0, by decide, lrq0_d.2.2.2.1.1, lrq0_d.2.2.2.1.2, fun a ha => absurd ha (by simp)⟩, lrq0_d.2.2.2.2⟩
