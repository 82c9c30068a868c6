/-! texts are read -/
/-- the pads are alike -/
def PadR (G : GS) (n : Nat) : Prop := n ≤ 80 ∧ G.1 0 25 0 = nI n ∧ G.1 0 29 7 = nI n ∧ ∀ i, i < n → G.2.1 0 26 i = G.2.1 0 34 i
def sg (G : GS) (n sp : Nat) (c : Int32) : Bool := decide (sp < n) && decide (G.2.1 0 34 sp = c)
def sn (G : GS) (n sp : Nat) (c : Int32) : Nat := if sg G n sp c = true then sp + 1 else sp
section RD
variable {G : GS} {n : Nat}
theorem sn_le {sp : Nat} {c : Int32} (hs : sp ≤ n) : sn G n sp c ≤ n := by
  unfold sn
  by_cases h : sg G n sp c = true
  · rw [if_pos h]
    have := of_decide_eq_true (Bool.and_eq_true_iff.mp h).1
    omega
  · rw [if_neg h]; exact hs
theorem pS_at (hp : PadR G n) {sp : Nat} (hs : sp ≤ n) : pS G (nI sp) = if sp < n then G.2.1 0 34 sp else -1 := by
  obtain ⟨h80, e1, e2, e3⟩ := hp
  unfold pS sSign
  rw [e1, nI_clamp (by omega)]
  by_cases h : sp < n
  · rw [if_pos h, if_pos ⟨nI_pos' (by omega), nI_lt h (by omega), nI_lt (b := 80) (by omega) (by decide)⟩, e3 sp h]
  · rw [if_neg h, if_neg (fun z => absurd z.2.1 (nI_nlt (by omega) (by omega)))]
theorem nSee_at (hp : PadR G n) {sp : Nat} (hs : sp ≤ n) (a b : Int32) : nSee G sp a b = (decide (sp < n) && mIn (G.2.1 0 34 sp) a b) := by
  obtain ⟨h80, e1, e2, e3⟩ := hp
  unfold nSee
  rw [e2]
  congr 1
  rw [decide_eq_decide]
  exact nI_ltI (by omega) (by omega)
theorem mIn_eq (x c : Int32) : mIn x c c = decide (x = c) := by
  unfold mIn
  rw [Bool.eq_iff_iff, Bool.and_eq_true, decide_eq_true_eq, decide_eq_true_eq, decide_eq_true_eq]
  exact ⟨fun h => Int32.le_antisymm h.2 h.1, fun h => by subst h; exact ⟨Int32.le_refl _, Int32.le_refl _⟩⟩
theorem nSg_at (hp : PadR G n) {sp : Nat} (hs : sp ≤ n) (c : Int32) (mr : Int32 × (Nat × (Int32 × (Nat → Int32)))) : nSg G c (sp, mr) = (sg G n sp c, (sn G n sp c, mr)) := by
  unfold nSg sn
  rw [nSee_at hp hs, mIn_eq]
  show (if sg G n sp c = true then _ else _) = _
  by_cases h : sg G n sp c = true
  · rw [if_pos h, if_pos h, h]
  · rw [if_neg h, if_neg h, Bool.eq_false_iff.mpr h]
theorem tk_at (hp : PadR G n) {sp : Nat} (hs : sp ≤ n) {c : Int32} (hc : ¬ c = -1) (r : Int32 × (Int32 × (Nat → Int32))) : tk G c (nI sp, r) = (sg G n sp c, (nI (sn G n sp c), r)) := by
  unfold tk
  try dsimp only
  rw [pS_at hp hs]
  by_cases h : sg G n sp c = true
  · obtain ⟨h1, h2⟩ := Bool.and_eq_true_iff.mp h
    rw [if_pos (of_decide_eq_true h1), if_pos (of_decide_eq_true h2), sn, if_pos h, h, nI_1]
  · rw [sn, if_neg h, if_neg, Bool.eq_false_iff.mpr h]
    intro z
    by_cases h1 : sp < n
    · rw [if_pos h1] at z
      exact h (by unfold sg; rw [decide_eq_true h1, decide_eq_true z]; rfl)
    · rw [if_neg h1] at z; exact hc z.symm
theorem i32_48 {x : Int32} (h1 : 48 ≤ x) (h2 : x ≤ 57) : ∃ d : Nat, d < 10 ∧ x = nI (48 + d) := by
  rw [Int32.le_iff_toInt_le] at h1 h2
  have e1 : (48 : Int32).toInt = 48 := rfl
  have e2 : (57 : Int32).toInt = 57 := rfl
  rw [e1] at h1; rw [e2] at h2
  refine ⟨(x.toInt - 48).toNat, by omega, ?_⟩
  apply Int32.toInt_inj.mp
  rw [nI_toInt (by omega)]
  omega
/-- a digit, or none -/
theorem dg_at (hp : PadR G n) {sp : Nat} (hs : sp ≤ n) : (∃ d, d < 10 ∧ sp < n ∧ G.2.1 0 34 sp = nI (48 + d) ∧ dg G (nI sp) = nI d ∧ ∀ k, k < 10 → nSee G sp 48 (nI (48 + k)) = decide (d ≤ k)) ∨ (dg G (nI sp) = -1 ∧ ∀ k, k < 10 → nSee G sp 48 (nI (48 + k)) = false) := by
  by_cases h : sp < n ∧ 48 ≤ G.2.1 0 34 sp ∧ G.2.1 0 34 sp ≤ 57
  · obtain ⟨h1, h2, h3⟩ := h
    obtain ⟨d, hd, e⟩ := i32_48 h2 h3
    refine Or.inl ⟨d, hd, h1, e, ?_, fun k hk => ?_⟩
    · unfold dg
      rw [pS_at hp hs, if_pos h1, if_pos ⟨h2, h3⟩, e, show (48 : Int32) = nI 48 from rfl, pk_sub (by omega), Nat.add_sub_cancel_left]
    · rw [nSee_at hp hs, decide_eq_true h1, Bool.true_and, e]
      unfold mIn
      rw [decide_eq_true (show (48 : Int32) ≤ nI (48 + d) from nI_le (a := 48) (by omega) (by omega)), Bool.true_and, decide_eq_decide, nI_leI (by omega) (by omega)]
      omega
  · refine Or.inr ⟨?_, fun k hk => ?_⟩
    · unfold dg
      rw [pS_at hp hs, if_neg]
      rintro ⟨h1, h2⟩
      by_cases h3 : sp < n
      · rw [if_pos h3] at h1 h2; exact h ⟨h3, h1, h2⟩
      · rw [if_neg h3] at h1; exact absurd h1 (by decide)
    · rw [nSee_at hp hs, ← Bool.not_eq_true, Bool.and_eq_true]
      rintro ⟨h1, h2⟩
      unfold mIn at h2
      obtain ⟨h3, h4⟩ := Bool.and_eq_true_iff.mp h2
      refine h ⟨of_decide_eq_true h1, of_decide_eq_true h3, Int32.le_trans (of_decide_eq_true h4) (show nI (48 + k) ≤ 57 from nI_le (b := 57) (by omega) (by decide))⟩
/-- a number below L -/
theorem num_at (hp : PadR G n) {sp L : Nat} (hs : sp ≤ n) (hL : L = 20 ∨ L = 12 ∨ L = 8) (r : Int32 × (Int32 × (Nat → Int32))) (mr : Int32 × (Nat × (Int32 × (Nat → Int32)))) :
    (tn G (nI L) (nI sp, r) = (-1, (nI sp, r)) ∧ nNm G (nI (L - 1)) (sp, mr) = (false, (sp, mr))) ∨ ∃ v sp2, v < L ∧ sp2 ≤ n ∧ tn G (nI L) (nI sp, r) = (nI v, (nI sp2, r)) ∧ nNm G (nI (L - 1)) (sp, mr) = (true, (sp2, mr.1, mr.2.1, nI v, mr.2.2.2)) := by
  have h80 := hp.1
  have em : (48 : Int32) + (if nI (L - 1) < 9 then nI (L - 1) else 9) = nI (48 + min (L - 1) 9) := by
    rcases hL with rfl | rfl | rfl <;> decide
  rcases dg_at hp hs with ⟨d, hd, h1, e1, e2, e3⟩ | ⟨e2, e3⟩
  · by_cases hdL : d ≤ min (L - 1) 9
    · right
      have c1 : ¬ (nI d = -1 ∨ nI L ≤ nI d) := by
        rintro (z | z)
        · exact neg1_ne (by omega) z.symm
        · rw [nI_leI (by omega) (by omega)] at z; omega
      have s1 : nSee G sp 48 (nI (48 + min (L - 1) 9)) = true := by rw [e3 _ (by omega), decide_eq_true hdL]
      have n0 : nN0 G (sp, mr) = nI d := by
        unfold nN0
        rw [show G.2.1 0 34 (sp, mr).1 = nI (48 + d) from e1, show (48 : Int32) = nI 48 from rfl, pk_sub (by omega), Nat.add_sub_cancel_left]
      rcases dg_at hp (show sp + 1 ≤ n by omega) with ⟨e, he, h2, f1, f2, f3⟩ | ⟨f2, f3⟩
      · by_cases hb : d = 1 ∧ 8 < L ∧ 10 + e < L
        · obtain ⟨rfl, hb1, hb2⟩ := hb
          refine ⟨10 + e, sp + 2, hb2, by omega, ?_, ?_⟩
          · unfold tn
            try dsimp only
            have h10 : nI 1 * 10 + nI e = nI (10 + e) := by rw [show (10 : Int32) = nI 10 from rfl, nI_mul, nI_add]
            have hcond : ¬ (nI e = -1 ∨ nI L ≤ nI (10 + e)) := by
              rintro (z | z)
              · exact neg1_ne (by omega) z.symm
              · rw [nI_leI (by omega) (by omega)] at z; omega
            rw [e2, if_neg c1, nI_1, tn2, if_neg (show ¬ nI 1 = 0 by decide), (show dg G (nI (sp + 1), r).1 = nI e from f2), h10, if_neg hcond, nI_1]
          · unfold nNm
            rw [em, show (sp, mr).1 = sp from rfl, if_pos s1, n0, if_pos]
            · show (true, (sp + 1 + 1, mr.1, mr.2.1, 10 + G.2.1 0 34 (sp + 1) - 48, mr.2.2.2)) = _
              rw [f1, show (10 : Int32) = nI 10 from rfl, nI_add, show (48 : Int32) = nI 48 from rfl, pk_sub (by omega), show 10 + (48 + e) - 48 = 10 + e by omega]
            · refine ⟨rfl, show nI 9 < nI (L - 1) from nI_lt (by omega) (by omega), ?_⟩
              have e10 : (48 : Int32) + nI (L - 1) - 10 = nI (48 + (L - 1 - 10)) := by
                rw [show (48 : Int32) = nI 48 from rfl, nI_add, show (10 : Int32) = nI 10 from rfl, pk_sub (by omega)]
                refine congrArg nI ?_
                omega
              rw [e10, f3 _ (by omega), decide_eq_true_eq]
              omega
        · refine ⟨d, sp + 1, by omega, by omega, ?_, ?_⟩
          · unfold tn
            try dsimp only
            rw [e2, if_neg c1, nI_1, if_pos]
            rw [tn2]
            by_cases hz : d = 0
            · left; rw [if_pos (by rw [hz]; rfl)]
            · right
              rw [if_neg (show ¬ nI d = 0 from fun z => hz ((nI_eq (b := 0) (by omega) (by decide)).mp z)), (show dg G (nI (sp + 1), r).1 = nI e from f2), show (10 : Int32) = nI 10 from rfl, nI_mul, nI_add, nI_leI (by omega) (by omega)]
              rcases hL with rfl | rfl | rfl <;> omega
          · unfold nNm
            rw [em, show (sp, mr).1 = sp from rfl, if_pos s1, n0, if_neg]
            · unfold nN1
              rw [n0]
            · rintro ⟨z1, z2, z3⟩
              have hd1 : d = 1 := (nI_eq (b := 1) (by omega) (by decide)).mp z1
              have hL9 : 9 < L - 1 := (nI_ltI (a := 9) (by omega) (by omega)).mp z2
              have e10 : (48 : Int32) + nI (L - 1) - 10 = nI (48 + (L - 1 - 10)) := by
                rw [show (48 : Int32) = nI 48 from rfl, nI_add, show (10 : Int32) = nI 10 from rfl, pk_sub (by omega)]
                refine congrArg nI ?_
                omega
              rw [e10, f3 _ (by omega), decide_eq_true_eq] at z3
              exact hb ⟨hd1, by omega, by omega⟩
      · refine ⟨d, sp + 1, by omega, by omega, ?_, ?_⟩
        · unfold tn
          try dsimp only
          rw [e2, if_neg c1, nI_1, if_pos]
          left
          rw [tn2]
          by_cases hz : nI d = 0
          · rw [if_pos hz]
          · rw [if_neg hz]; exact f2
        · unfold nNm
          rw [em, show (sp, mr).1 = sp from rfl, if_pos s1, n0, if_neg]
          · unfold nN1
            rw [n0]
          · rintro ⟨z1, z2, z3⟩
            have hL9 : 9 < L - 1 := (nI_ltI (a := 9) (by omega) (by omega)).mp z2
            have e10 : (48 : Int32) + nI (L - 1) - 10 = nI (48 + (L - 1 - 10)) := by
              rw [show (48 : Int32) = nI 48 from rfl, nI_add, show (10 : Int32) = nI 10 from rfl, pk_sub (by omega)]
              refine congrArg nI ?_
              omega
            rw [e10, f3 _ (by omega)] at z3
            cases z3
    · left
      constructor
      · unfold tn
        try dsimp only
        rw [e2, if_pos]
        right
        rw [nI_leI (by omega) (by omega)]
        omega
      · unfold nNm
        rw [em, show (sp, mr).1 = sp from rfl, e3 _ (by omega), if_neg]
        rw [decide_eq_true_eq]
        exact hdL
  · left
    constructor
    · unfold tn
      try dsimp only
      rw [e2, if_pos (Or.inl rfl)]
    · unfold nNm
      rw [em, show (sp, mr).1 = sp from rfl, e3 _ (by omega), if_neg (by decide)]
end RD
