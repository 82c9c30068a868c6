/-! entries are read -/
section RE
variable {G : GS} {n : Nat}
theorem kind_at (hp : PadR G n) {sp : Nat} (hs : sp ≤ n) (r : Int32 × (Int32 × (Nat → Int32))) (told : Int32) (pa : Nat) (val : Int32) (part : Nat → Int32) :
    ∃ sp2 val2 part2, sp2 ≤ n ∧ (tnf G (tkd G 4 0 (nI sp, r)).1 (tkd G 4 0 (nI sp, r)).2).2 = (nI sp2, r) ∧ (nWh G (sp, told, pa, val, part)).2 = (sp2, told, pa, val2, part2) ∧ (∀ j, j < 5 * pa → part2 j = part j) ∧
      (((nWh G (sp, told, pa, val, part)).1 = false ∧ ((tkd G 4 0 (nI sp, r)).1 = -1 ∨ (tnf G (tkd G 4 0 (nI sp, r)).1 (tkd G 4 0 (nI sp, r)).2).1 = -1)) ∨ ((nWh G (sp, told, pa, val, part)).1 = true ∧ ∃ kd m, kd < 4 ∧ m < 12 ∧ (kd = 1 → m < 8) ∧ (tkd G 4 0 (nI sp, r)).1 = nI kd ∧ (tnf G (tkd G 4 0 (nI sp, r)).1 (tkd G 4 0 (nI sp, r)).2).1 = nI m ∧ part2 (5 * pa) = nI kd ∧ part2 (5 * pa + 1) = nI m)) := by
  have h80 := hp.1
  have t1 := tk_at hp hs (c := 117) (by decide) r
  have t2 := tk_at hp hs (c := 103) (by decide) r
  have t3 := tk_at hp hs (c := 111) (by decide) r
  have t4 := tk_at hp hs (c := 97) (by decide) r
  have hn : ∀ c, sg G n sp c = false → sn G n sp c = sp := fun c h => by unfold sn; rw [if_neg (by rw [h]; decide)]
  have g1 : (sTx 0).getD 0 0 = 117 := rfl
  have g2 : (sTx 0).getD 1 0 = 103 := rfl
  have g3 : (sTx 0).getD 2 0 = 111 := rfl
  have g4 : (sTx 0).getD 3 0 = 97 := rfl
  have ep : nPt 1 0 (sp, told, pa, val, part) = (sp, told, pa, val, upd part (5 * pa + 1) 0) := rfl
  by_cases c1 : sg G n sp 117 = true
  · have eK : tkd G 4 0 (nI sp, r) = (nI 0, (nI (sn G n sp 117), r)) := by rw [tkd, g1, t1, if_pos c1]
    have eW : nWh G (sp, told, pa, val, part) = nWu G 0 11 (sn G n sp 117, told, pa, val, upd part (5 * pa + 1) 0) := by
      unfold nWh; rw [ep, nSg_at hp hs, if_pos c1]
    rw [eK, eW]
    have eT : tnf G (nI 0) (nI (sn G n sp 117), r) = tn G (nI 12) (nI (sn G n sp 117), r) := by unfold tnf; rw [if_pos (by decide)]; rfl
    try dsimp only
    rw [eT]
    have hs1 : sn G n sp 117 ≤ n := sn_le hs
    rcases num_at hp hs1 (L := 12) (Or.inr (Or.inl rfl)) r (told, pa, val, upd part (5 * pa + 1) 0) with ⟨h1, h2⟩ | ⟨v, sp2, h1, h2, h3, h4⟩
    · have h2' : nNm G 11 (sn G n sp 117, told, pa, val, upd part (5 * pa + 1) 0) = (false, (sn G n sp 117, told, pa, val, upd part (5 * pa + 1) 0)) := h2
      refine ⟨sn G n sp 117, val, upd (upd (upd part (5 * pa + 1) 0) (5 * pa + 0) 0) (5 * pa + 1) val, hs1, by rw [h1], by unfold nWu; rw [h2']; rfl, ?_, Or.inl ⟨by unfold nWu; rw [h2'], Or.inr (by rw [h1])⟩⟩
      intro j hj
      simp only [upd]
      rw [if_neg (by omega), if_neg (by omega), if_neg (by omega)]
    · have h4' : nNm G 11 (sn G n sp 117, told, pa, val, upd part (5 * pa + 1) 0) = (true, (sp2, told, pa, nI v, upd part (5 * pa + 1) 0)) := h4
      refine ⟨sp2, nI v, upd (upd (upd part (5 * pa + 1) 0) (5 * pa + 0) 0) (5 * pa + 1) (nI v), h2, by rw [h3], by unfold nWu; rw [h4']; rfl, ?_, Or.inr ⟨by unfold nWu; rw [h4'], 0, v, by decide, h1, by omega, rfl, by rw [h3], ?_, ?_⟩⟩
      · intro j hj
        simp only [upd]
        rw [if_neg (by omega), if_neg (by omega), if_neg (by omega)]
      · simp only [upd]
        rw [if_neg (by omega), if_pos (by omega)]; rfl
      · simp only [upd]
        rw [if_pos trivial]
  · have f1 := Bool.eq_false_iff.mpr c1
    by_cases c2 : sg G n sp 103 = true
    · have eK : tkd G 4 0 (nI sp, r) = (nI 1, (nI (sn G n sp 103), r)) := by
        rw [tkd, g1, t1, if_neg c1]; (try dsimp only); rw [hn _ f1, tkd, g2, t2, if_pos c2]
      have eW : nWh G (sp, told, pa, val, part) = nWu G 1 7 (sn G n sp 103, told, pa, val, upd part (5 * pa + 1) 0) := by
        unfold nWh; rw [ep, nSg_at hp hs, if_neg c1]; (try dsimp only); rw [hn _ f1]; unfold nW2; rw [nSg_at hp hs, if_pos c2]
      rw [eK, eW]
      have eT : tnf G (nI 1) (nI (sn G n sp 103), r) = tn G (nI 8) (nI (sn G n sp 103), r) := by unfold tnf; rw [if_neg (by decide), if_pos (by decide)]; rfl
      try dsimp only
      rw [eT]
      have hs1 : sn G n sp 103 ≤ n := sn_le hs
      rcases num_at hp hs1 (L := 8) (Or.inr (Or.inr rfl)) r (told, pa, val, upd part (5 * pa + 1) 0) with ⟨h1, h2⟩ | ⟨v, sp2, h1, h2, h3, h4⟩
      · have h2' : nNm G 7 (sn G n sp 103, told, pa, val, upd part (5 * pa + 1) 0) = (false, (sn G n sp 103, told, pa, val, upd part (5 * pa + 1) 0)) := h2
        refine ⟨sn G n sp 103, val, upd (upd (upd part (5 * pa + 1) 0) (5 * pa + 0) 1) (5 * pa + 1) val, hs1, by rw [h1], by unfold nWu; rw [h2']; rfl, ?_, Or.inl ⟨by unfold nWu; rw [h2'], Or.inr (by rw [h1])⟩⟩
        intro j hj
        simp only [upd]
        rw [if_neg (by omega), if_neg (by omega), if_neg (by omega)]
      · have h4' : nNm G 7 (sn G n sp 103, told, pa, val, upd part (5 * pa + 1) 0) = (true, (sp2, told, pa, nI v, upd part (5 * pa + 1) 0)) := h4
        refine ⟨sp2, nI v, upd (upd (upd part (5 * pa + 1) 0) (5 * pa + 0) 1) (5 * pa + 1) (nI v), h2, by rw [h3], by unfold nWu; rw [h4']; rfl, ?_, Or.inr ⟨by unfold nWu; rw [h4'], 1, v, by decide, by omega, fun _ => h1, rfl, by rw [h3], ?_, ?_⟩⟩
        · intro j hj
          simp only [upd]
          rw [if_neg (by omega), if_neg (by omega), if_neg (by omega)]
        · simp only [upd]
          rw [if_neg (by omega), if_pos (by omega)]; rfl
        · simp only [upd]
          rw [if_pos trivial]
    · have f2 := Bool.eq_false_iff.mpr c2
      by_cases c3 : sg G n sp 111 = true
      · have eK : tkd G 4 0 (nI sp, r) = (nI 2, (nI (sn G n sp 111), r)) := by
          rw [tkd, g1, t1, if_neg c1]; (try dsimp only); rw [hn _ f1, tkd, g2, t2, if_neg c2]; (try dsimp only); rw [hn _ f2, tkd, g3, t3, if_pos c3]
        have eW : nWh G (sp, told, pa, val, part) = (true, (sn G n sp 111, told, pa, val, upd (upd part (5 * pa + 1) 0) (5 * pa + 0) 2)) := by
          unfold nWh; rw [ep, nSg_at hp hs, if_neg c1]; (try dsimp only); rw [hn _ f1]; unfold nW2; rw [nSg_at hp hs, if_neg c2]; (try dsimp only); rw [hn _ f2]; unfold nW3; rw [nSg_at hp hs, if_pos c3]; rfl
        rw [eK, eW]
        have eT : tnf G (nI 2) (nI (sn G n sp 111), r) = (0, (nI (sn G n sp 111), r)) := by unfold tnf; rw [if_neg (by decide), if_neg (by decide)]
        try dsimp only
        rw [eT]
        refine ⟨_, _, _, sn_le hs, rfl, rfl, ?_, Or.inr ⟨rfl, 2, 0, by decide, by decide, by decide, rfl, rfl, ?_, ?_⟩⟩
        · intro j hj
          simp only [upd]
          rw [if_neg (by omega), if_neg (by omega)]
        · simp only [upd]
          rw [if_pos (by omega)]; rfl
        · simp only [upd]
          rw [if_neg (by omega), if_pos trivial]; rfl
      · have f3 := Bool.eq_false_iff.mpr c3
        have eW : nWh G (sp, told, pa, val, part) = (sg G n sp 97, (sn G n sp 97, told, pa, val, upd (upd part (5 * pa + 1) 0) (5 * pa + 0) 3)) := by
          unfold nWh; rw [ep, nSg_at hp hs, if_neg c1]; (try dsimp only); rw [hn _ f1]; unfold nW2; rw [nSg_at hp hs, if_neg c2]; (try dsimp only); rw [hn _ f2]; unfold nW3; rw [nSg_at hp hs, if_neg c3]; (try dsimp only); rw [hn _ f3]
          exact nSg_at hp hs 97 _
        by_cases c4 : sg G n sp 97 = true
        · have eK : tkd G 4 0 (nI sp, r) = (nI 3, (nI (sn G n sp 97), r)) := by
            rw [tkd, g1, t1, if_neg c1]; (try dsimp only); rw [hn _ f1, tkd, g2, t2, if_neg c2]; (try dsimp only); rw [hn _ f2, tkd, g3, t3, if_neg c3]; (try dsimp only); rw [hn _ f3, tkd, g4, t4, if_pos c4]
          rw [eK, eW]
          have eT : tnf G (nI 3) (nI (sn G n sp 97), r) = (0, (nI (sn G n sp 97), r)) := by unfold tnf; rw [if_neg (by decide), if_neg (by decide)]
          try dsimp only
          rw [eT]
          refine ⟨_, _, _, sn_le hs, rfl, rfl, ?_, Or.inr ⟨c4, 3, 0, by decide, by decide, by decide, rfl, rfl, ?_, ?_⟩⟩
          · intro j hj
            simp only [upd]
            rw [if_neg (by omega), if_neg (by omega)]
          · simp only [upd]
            rw [if_pos (by omega)]; rfl
          · simp only [upd]
            rw [if_neg (by omega), if_pos trivial]; rfl
        · have f4 := Bool.eq_false_iff.mpr c4
          have eK : tkd G 4 0 (nI sp, r) = (-1, (nI sp, r)) := by
            rw [tkd, g1, t1, if_neg c1]; (try dsimp only); rw [hn _ f1, tkd, g2, t2, if_neg c2]; (try dsimp only); rw [hn _ f2, tkd, g3, t3, if_neg c3]; (try dsimp only); rw [hn _ f3, tkd, g4, t4, if_neg c4]; (try dsimp only); rw [hn _ f4, tkd]
          rw [eK, eW]
          have eT : tnf G (-1) (nI sp, r) = (0, (nI sp, r)) := by unfold tnf; rw [if_neg (by decide), if_neg (by decide)]
          try dsimp only
          rw [eT, hn _ f4]
          refine ⟨_, _, _, hs, rfl, rfl, ?_, Or.inl ⟨f4, Or.inl rfl⟩⟩
          intro j hj
          simp only [upd]
          rw [if_neg (by omega), if_neg (by omega)]
/-- one right is taken -/
theorem or_pw : ∀ j, j < 4 → ∀ v, v < 2 ^ j → nI v ||| ((1 : Int32) <<< (nI j &&& 31)) = nI (v + 2 ^ j) := by decide
theorem trg_st (hp : PadR G n) {sp j v k : Nat} {c : Int32} (hs : sp ≤ n) (hj : j < 4) (hv : v < 2 ^ j) (hc : (sTx 1).getD j 0 = c) (hc1 : ¬ c = -1) (r : Int32 × (Int32 × (Nat → Int32))) : trg G (k + 1) j (nI v) (nI sp, r) = trg G k (j + 1) (nI (if sg G n sp c = true then v + 2 ^ j else v)) (nI (sn G n sp c), r) := by
  rw [trg, hc, tk_at hp hs hc1]
  by_cases h : sg G n sp c = true
  · rw [if_pos h, if_pos h, or_pw j hj v hv]
  · rw [if_neg h, if_neg h]
theorem rights_at (hp : PadR G n) {sp : Nat} (hs : sp ≤ n) (b : Bool) (r : Int32 × (Int32 × (Nat → Int32))) (mr : Int32 × (Nat × (Int32 × (Nat → Int32)))) : ∃ v sp2, v < 16 ∧ sp2 ≤ n ∧ trg G 4 0 0 (nI sp, r) = (nI v, (nI sp2, r)) ∧ nE1 G b (sp, mr) = nE5 G b (nI v) (sp2, mr) := by
  have e0 : trg G 4 0 0 (nI sp, r) = trg G 4 0 (nI 0) (nI sp, r) := rfl
  rw [e0, trg_st hp hs (k := 3) (c := 114) (by decide) (by decide) rfl (by decide)]
  have b1 : (if sg G n sp 114 = true then 0 + 2 ^ 0 else 0) < 2 ^ 1 := by by_cases h : sg G n sp 114 = true <;> simp [h]
  have s1 : sn G n sp 114 ≤ n := sn_le hs
  have m1 : nE1 G b (sp, mr) = nE2 G b (nI (if sg G n sp 114 = true then 0 + 2 ^ 0 else 0)) (sn G n sp 114, mr) := by
    unfold nE1; rw [nSg_at hp hs]; try dsimp only
    by_cases h : sg G n sp 114 = true
    · rw [if_pos h, if_pos h]; rfl
    · rw [if_neg h, if_neg h]; rfl
  rw [m1]
  generalize (if sg G n sp 114 = true then 0 + 2 ^ 0 else 0) = v1 at b1
  generalize sn G n sp 114 = q1 at s1
  rw [trg_st hp s1 (k := 2) (c := 119) (by decide) b1 rfl (by decide)]
  have b2 : (if sg G n q1 119 = true then v1 + 2 ^ 1 else v1) < 2 ^ 2 := by by_cases h : sg G n q1 119 = true <;> simp [h] <;> omega
  have s2 : sn G n q1 119 ≤ n := sn_le s1
  have m2 : nE2 G b (nI v1) (q1, mr) = nE3 G b (nI (if sg G n q1 119 = true then v1 + 2 ^ 1 else v1)) (sn G n q1 119, mr) := by
    unfold nE2; rw [nSg_at hp s1]; try dsimp only
    by_cases h : sg G n q1 119 = true
    · rw [if_pos h, if_pos h, ← nI_add]; rfl
    · rw [if_neg h, if_neg h, Int32.add_zero]
  rw [m2]
  generalize (if sg G n q1 119 = true then v1 + 2 ^ 1 else v1) = v2 at b2
  generalize sn G n q1 119 = q2 at s2
  rw [trg_st hp s2 (k := 1) (c := 120) (by decide) b2 rfl (by decide)]
  have b3 : (if sg G n q2 120 = true then v2 + 2 ^ 2 else v2) < 2 ^ 3 := by by_cases h : sg G n q2 120 = true <;> simp [h] <;> omega
  have s3 : sn G n q2 120 ≤ n := sn_le s2
  have m3 : nE3 G b (nI v2) (q2, mr) = nE4 G b (nI (if sg G n q2 120 = true then v2 + 2 ^ 2 else v2)) (sn G n q2 120, mr) := by
    unfold nE3; rw [nSg_at hp s2]; try dsimp only
    by_cases h : sg G n q2 120 = true
    · rw [if_pos h, if_pos h, ← nI_add]; rfl
    · rw [if_neg h, if_neg h, Int32.add_zero]
  rw [m3]
  generalize (if sg G n q2 120 = true then v2 + 2 ^ 2 else v2) = v3 at b3
  generalize sn G n q2 120 = q3 at s3
  rw [trg_st hp s3 (k := 0) (c := 109) (by decide) b3 rfl (by decide)]
  have b4 : (if sg G n q3 109 = true then v3 + 2 ^ 3 else v3) < 16 := by by_cases h : sg G n q3 109 = true <;> simp [h] <;> omega
  have m4 : nE4 G b (nI v3) (q3, mr) = nE5 G b (nI (if sg G n q3 109 = true then v3 + 2 ^ 3 else v3)) (sn G n q3 109, mr) := by
    unfold nE4; rw [nSg_at hp s3]; try dsimp only
    by_cases h : sg G n q3 109 = true
    · rw [if_pos h, if_pos h, ← nI_add]; rfl
    · rw [if_neg h, if_neg h, Int32.add_zero]
  rw [m4]
  exact ⟨_, _, b4, sn_le s3, rfl, rfl⟩
/-- the part k is the entry k -/
def PE (e p : Nat → Int32) (k : Nat) : Prop := e k = eCode (p (5 * k)) (p (5 * k + 1)) (p (5 * k + 2)) (decide (p (5 * k + 3) = 1)) (decide (p (5 * k + 4) = 1)) ∧ ∃ kd m r : Nat, kd < 4 ∧ m < 12 ∧ (kd = 1 → m < 8) ∧ (1 ≤ r ∧ r < 16) ∧ p (5 * k) = nI kd ∧ p (5 * k + 1) = nI m ∧ p (5 * k + 2) = nI r
theorem PE.congr {e p e2 p2 : Nat → Int32} {k : Nat} (h : PE e p k) (he : e2 k = e k) (hp : ∀ j, 5 * k ≤ j → j < 5 * k + 5 → p2 j = p j) : PE e2 p2 k := by
  unfold PE
  rw [he, hp (5 * k) (by omega) (by omega), hp (5 * k + 1) (by omega) (by omega), hp (5 * k + 2) (by omega) (by omega), hp (5 * k + 3) (by omega) (by omega), hp (5 * k + 4) (by omega) (by omega)]
  exact h
/-- how far both have come -/
def TR (n : Nat) (q : lT) (m : nT) : Prop := q.1 = nI m.1 ∧ m.1 ≤ n ∧ q.2.2.1 = nI m.2.2.1 ∧ ∀ k, k < m.2.2.1 → PE q.2.2.2 m.2.2.2.2 k
theorem ent2_at (hp : PadR G n) {sp : Nat} (hs : sp ≤ n) (al : Bool) {ob : Int32} {pa : Nat} (hpa : pa < 6) (en : Nat → Int32) (told val : Int32) (part : Nat → Int32) (hk : ∀ k, k < pa → PE en part k) :
    (te2 G al (nI sp, ob, nI pa, en)).1 = (nE0 G al (sp, told, pa, val, part)).1 ∧ TR n (te2 G al (nI sp, ob, nI pa, en)).2 (nE0 G al (sp, told, pa, val, part)).2 ∧ (te2 G al (nI sp, ob, nI pa, en)).2.2.1 = ob ∧ (nE0 G al (sp, told, pa, val, part)).2.2.1 = told ∧ (nE0 G al (sp, told, pa, val, part)).2.2.2.1 = (if (nE0 G al (sp, told, pa, val, part)).1 = true then pa + 1 else pa) := by
  have h80 := hp.1
  obtain ⟨sp2, val2, part2, h1, h2, h3, h4, h5⟩ := kind_at hp hs (ob, nI pa, en) told pa val part
  have hk2 : ∀ k, k < pa → PE en part2 k := fun k hk3 => (hk k hk3).congr rfl (fun j h6 h7 => h4 j (by omega))
  unfold te2 te3
  rw [h2]
  rcases h5 with ⟨h6, h7⟩ | ⟨h6, kd, m, hkd, hm, hm8, k1, k2, k3, k4⟩
  · have eW : nE0 G al (sp, told, pa, val, part) = (false, (sp2, told, pa, val2, part2)) := by
      unfold nE0; rw [if_neg (by rw [h6]; decide), h3]
    rw [if_pos h7, eW]
    exact ⟨rfl, ⟨rfl, h1, rfl, hk2⟩, rfl, rfl, rfl⟩
  · rw [if_neg (by rw [k2, k1]; exact fun z => z.elim (fun z => neg1_ne (by omega) z.symm) (fun z => neg1_ne (by omega) z.symm)), tk_at hp h1 (by decide)]
    have eW : nE0 G al (sp, told, pa, val, part) = (if sg G n sp2 61 = true then nE1 G al (sn G n sp2 61, told, pa, val2, part2) else (false, (sn G n sp2 61, told, pa, val2, part2))) := by
      unfold nE0; rw [if_pos h6, h3, nSg_at hp h1]
    rw [eW]
    have s2 : sn G n sp2 61 ≤ n := sn_le h1
    by_cases c1 : sg G n sp2 61 = true
    · rw [if_neg (show ¬ sg G n sp2 61 = false by rw [c1]; decide), if_pos c1]
      try dsimp only
      obtain ⟨v, sp3, r1, r2, r3, r4⟩ := rights_at hp s2 al (ob, nI pa, en) (told, pa, val2, part2)
      rw [r3, r4]
      unfold te4 nE5
      try dsimp only
      by_cases hv : nI v = 0
      · rw [if_pos (Or.inl hv), if_pos hv]
        exact ⟨rfl, ⟨rfl, r2, rfl, hk2⟩, rfl, rfl, rfl⟩
      · have hj6 : jIdx (nI pa) 6 = true := jIdx6 hpa
        have hv1 : 1 ≤ v := by
          rcases Nat.eq_zero_or_pos v with z | z
          · exact absurd (by rw [z]; rfl) hv
          · exact z
        rw [if_neg (by rw [hj6]; exact fun z => z.elim hv (fun z => by cases z)), if_neg hv]
        unfold te5 nE6
        rw [tk_at hp r2 (by decide)]
        have e3 : nPt 3 (b2i al) (nPt 2 (nI v) (sp3, told, pa, val2, part2)) = (sp3, told, pa, val2, upd (upd part2 (5 * pa + 2) (nI v)) (5 * pa + 3) (b2i al)) := rfl
        rw [e3, nSg_at hp r2]
        try dsimp only
        refine ⟨rfl, ⟨rfl, sn_le r2, ?_, ?_⟩, rfl, rfl, rfl⟩
        · show nI pa + 1 = nI (pa + 1)
          exact nI_1 pa
        · intro k hk3
          have hk4 : k < pa + 1 := hk3
          show PE (upd en (nI pa).toNatClampNeg (eCode (tkd G 4 0 (nI sp, ob, nI pa, en)).1 _ (nI v) al (sg G n sp3 42))) (upd (upd (upd part2 (5 * pa + 2) (nI v)) (5 * pa + 3) (b2i al)) (5 * pa + 4) (b2i (sg G n sp3 42))) k
          rw [nI_clamp (by omega), k2, k1]
          by_cases hke : k = pa
          · subst hke
            have u0 : (upd (upd (upd part2 (5 * k + 2) (nI v)) (5 * k + 3) (b2i al)) (5 * k + 4) (b2i (sg G n sp3 42))) (5 * k) = nI kd := by
              simp only [upd]; rw [if_neg (by omega), if_neg (by omega), if_neg (by omega)]; exact k3
            have u1 : (upd (upd (upd part2 (5 * k + 2) (nI v)) (5 * k + 3) (b2i al)) (5 * k + 4) (b2i (sg G n sp3 42))) (5 * k + 1) = nI m := by
              simp only [upd]; rw [if_neg (by omega), if_neg (by omega), if_neg (by omega)]; exact k4
            have u2 : (upd (upd (upd part2 (5 * k + 2) (nI v)) (5 * k + 3) (b2i al)) (5 * k + 4) (b2i (sg G n sp3 42))) (5 * k + 2) = nI v := by
              simp only [upd]; rw [if_neg (by omega), if_neg (by omega), if_pos trivial]
            have u3 : (upd (upd (upd part2 (5 * k + 2) (nI v)) (5 * k + 3) (b2i al)) (5 * k + 4) (b2i (sg G n sp3 42))) (5 * k + 3) = b2i al := by
              simp only [upd]; rw [if_neg (by omega), if_pos trivial]
            have u4 : (upd (upd (upd part2 (5 * k + 2) (nI v)) (5 * k + 3) (b2i al)) (5 * k + 4) (b2i (sg G n sp3 42))) (5 * k + 4) = b2i (sg G n sp3 42) := by
              simp only [upd]; rw [if_pos trivial]
            have db : ∀ b : Bool, decide (b2i b = 1) = b := by decide
            unfold PE
            rw [u0, u1, u2, u3, u4, db, db]
            refine ⟨?_, kd, m, v, hkd, hm, hm8, ⟨hv1, r1⟩, rfl, rfl, rfl⟩
            rw [upd, if_pos rfl]
          · refine (hk2 k (by omega)).congr (by rw [upd, if_neg hke]) (fun j h8 h9 => ?_)
            simp only [upd]
            rw [if_neg (by omega), if_neg (by omega), if_neg (by omega)]
    · rw [if_pos (Bool.eq_false_iff.mpr c1), if_neg c1]
      exact ⟨rfl, ⟨rfl, s2, rfl, hk2⟩, rfl, rfl, rfl⟩
theorem ent_at (hp : PadR G n) {sp : Nat} (hs : sp ≤ n) {ob : Int32} {pa : Nat} (hpa : pa < 6) (en : Nat → Int32) (told val : Int32) (part : Nat → Int32) (hk : ∀ k, k < pa → PE en part k) :
    (te G (nI sp, ob, nI pa, en)).1 = (nEn G (sp, told, pa, val, part)).1 ∧ TR n (te G (nI sp, ob, nI pa, en)).2 (nEn G (sp, told, pa, val, part)).2 ∧ (te G (nI sp, ob, nI pa, en)).2.2.1 = ob ∧ (nEn G (sp, told, pa, val, part)).2.2.1 = told ∧ (nEn G (sp, told, pa, val, part)).2.2.2.1 = (if (nEn G (sp, told, pa, val, part)).1 = true then pa + 1 else pa) := by
  have hn : ∀ c, sg G n sp c = false → sn G n sp c = sp := fun c h => by unfold sn; rw [if_neg (by rw [h]; decide)]
  unfold te nEn
  rw [tk_at hp hs (by decide), nSg_at hp hs]
  by_cases c1 : sg G n sp 43 = true
  · rw [if_pos c1, if_pos c1]
    exact ent2_at hp (sn_le hs) true hpa en told val part hk
  · have f1 := Bool.eq_false_iff.mpr c1
    rw [if_neg c1, if_neg c1]
    try dsimp only
    rw [hn _ f1, tk_at hp hs (by decide), nSg_at hp hs]
    by_cases c2 : sg G n sp 45 = true
    · rw [if_pos c2, if_pos c2]
      exact ent2_at hp (sn_le hs) false hpa en told val part hk
    · rw [if_neg c2, if_neg c2]
      exact ⟨rfl, ⟨rfl, sn_le hs, rfl, hk⟩, rfl, rfl, rfl⟩
/-- what the reading ends with -/
def RdE (q : Bool × lT) (m : Int32 × nT) : Prop := (q.1 = true → m.1 = -1 ∧ q.2.2.1 = m.2.2.1 ∧ m.2.2.2.1 ≤ 6 ∧ q.2.2.2.1 = nI m.2.2.2.1 ∧ ∀ k, k < m.2.2.2.1 → PE q.2.2.2.2 m.2.2.2.2.2 k) ∧ (q.1 = false → m.1 = q.2.1 ∧ ¬ m.1 = -1) ∧ m.2.1 ≤ 80 ∧ m.2.2.2.1 ≤ 6
theorem RdE_fin (hp : PadR G n) {q : lT} {m : nT} (h : TR n q m) (ht : q.2.1 = m.2.1) (h6 : m.2.2.1 ≤ 6) : RdE (decide (q.1 = G.1 0 25 0), q) (nFi G m) := by
  have h80 := hp.1
  obtain ⟨t1, t2, t3, t4⟩ := h
  unfold nFi
  rw [hp.2.1, hp.2.2.1, t1]
  by_cases c : nI m.1 = nI n
  · rw [decide_eq_true c, if_pos c]
    exact ⟨fun _ => ⟨rfl, ht, h6, t3, t4⟩, (fun z => by cases z), by show m.1 ≤ 80; omega, h6⟩
  · rw [decide_eq_false c, if_neg c]
    exact ⟨fun z => (by cases z), fun _ => ⟨t1.symm, fun z => neg1_ne (by omega) z.symm⟩, by show m.1 ≤ 80; omega, h6⟩
theorem RdE_no {q : lT} {m : nT} (h : TR n q m) (hn : n ≤ 80) (h6 : m.2.2.1 ≤ 6) : RdE (false, q) (nI m.1, m) :=
  ⟨fun z => (by cases z), fun _ => ⟨h.1.symm, fun z => neg1_ne (by have := h.2.1; omega) z.symm⟩, by have := h.2.1; show m.1 ≤ 80; omega, h6⟩
theorem loop_at (hp : PadR G n) : ∀ (k pa : Nat) (sp : Nat) (ob told val : Int32) (en part : Nat → Int32), k + pa = 6 → pa < 6 → sp ≤ n → ob = told → (∀ k, k < pa → PE en part k) → RdE (rdL G k (pa + 1) (nI sp, ob, nI pa, en)) (nWL G (k + 1) true (sp, told, pa, val, part)) := by
  intro k
  induction k with
  | zero => intro pa sp ob told val en part h1 h2; omega
  | succ k ih =>
    intro pa sp ob told val en part h1 h2 h3 h4 h5
    obtain ⟨e1, e2, e3, e4, e5⟩ := ent_at hp h3 (ob := ob) h2 en told val part h5
    rw [rdL, nWL, if_neg (show ¬ true = false by decide), e1]
    by_cases c1 : (nEn G (sp, told, pa, val, part)).1 = false
    · rw [if_pos c1, if_pos c1]
      exact RdE_no e2 hp.1 (by rw [e5, if_neg (by rw [c1]; decide)]; omega)
    · have c1t : (nEn G (sp, told, pa, val, part)).1 = true := by cases h : (nEn G (sp, told, pa, val, part)).1 with | true => rfl | false => exact absurd h c1
      rw [c1t, if_pos rfl] at e5
      rw [if_neg c1, if_neg c1, e5]
      by_cases c6 : pa + 1 = 6
      · rw [if_pos (by rw [c6]; rfl), if_neg (by omega)]
        have hfin := RdE_fin hp e2 (by rw [e3, e4, h4]) (by rw [e5]; omega)
        cases k with
        | zero => rw [nWL, if_pos rfl]; exact hfin
        | succ k => omega
      · rw [if_neg (show ¬ nI (pa + 1) = 6 from fun z => c6 ((nI_eq (b := 6) (by omega) (by decide)).mp z)), if_pos (show pa + 1 < 6 by omega)]
        obtain ⟨t1, t2, t3, t4⟩ := e2
        rw [e5] at t3 t4
        have eq1 : (te G (nI sp, ob, nI pa, en)).2 = (nI (nEn G (sp, told, pa, val, part)).2.1, ob, nI (pa + 1), (te G (nI sp, ob, nI pa, en)).2.2.2.2) := Prod.ext t1 (Prod.ext e3 (Prod.ext t3 rfl))
        have eq2 : (nEn G (sp, told, pa, val, part)).2 = ((nEn G (sp, told, pa, val, part)).2.1, told, pa + 1, (nEn G (sp, told, pa, val, part)).2.2.2.2.1, (nEn G (sp, told, pa, val, part)).2.2.2.2.2) := Prod.ext rfl (Prod.ext e4 (Prod.ext e5 rfl))
        rw [eq1, eq2, tk_at hp t2 (by decide), nSg_at hp t2]
        have s2 : sn G n (nEn G (sp, told, pa, val, part)).2.1 59 ≤ n := sn_le t2
        by_cases c2 : sg G n (nEn G (sp, told, pa, val, part)).2.1 59 = true
        · rw [if_pos c2]
          try dsimp only
          rw [c2]
          exact ih (pa + 1) _ _ _ _ _ _ (by omega) (by omega) s2 h4 t4
        · rw [if_neg c2]
          try dsimp only
          rw [Bool.eq_false_iff.mpr c2]
          have hfin := RdE_fin hp (q := (nI (sn G n (nEn G (sp, told, pa, val, part)).2.1 59), ob, nI (pa + 1), (te G (nI sp, ob, nI pa, en)).2.2.2.2)) (m := (sn G n (nEn G (sp, told, pa, val, part)).2.1 59, told, pa + 1, (nEn G (sp, told, pa, val, part)).2.2.2.2.1, (nEn G (sp, told, pa, val, part)).2.2.2.2.2)) ⟨rfl, s2, rfl, t4⟩ h4 (show pa + 1 ≤ 6 by omega)
          cases k with
          | zero => rw [nWL]; exact hfin
          | succ k => rw [nWL, if_pos rfl]; exact hfin
/-- the whole reading -/
theorem read_at (hp : PadR G n) (q : lT) (m : nT) : RdE (rd G q) (nWr G m) := by
  have h80 := hp.1
  unfold rd rd1 nWr
  rw [show (0 : Int32) = nI 0 from rfl]
  rcases num_at hp (Nat.zero_le n) (L := 20) (Or.inl rfl) (q.2.1, nI 0, q.2.2.2) (m.2.1, 0, m.2.2.2) with ⟨h1, h2⟩ | ⟨v, sp2, h1, h2, h3, h4⟩
  · have h1' : tn G 20 (nI 0, q.2.1, nI 0, q.2.2.2) = (-1, (nI 0, q.2.1, nI 0, q.2.2.2)) := h1
    have h2' : nNm G 19 (0, m.2.1, 0, m.2.2.2) = (false, (0, m.2.1, 0, m.2.2.2)) := h2
    rw [h1', h2', if_pos rfl, if_pos rfl]
    exact ⟨fun z => (by cases z), fun _ => ⟨rfl, by show ¬ nI 0 = -1; decide⟩, Nat.zero_le 80, Nat.zero_le 6⟩
  · have h3' : tn G 20 (nI 0, q.2.1, nI 0, q.2.2.2) = (nI v, (nI sp2, q.2.1, nI 0, q.2.2.2)) := h3
    have h4' : nNm G 19 (0, m.2.1, 0, m.2.2.2) = (true, (sp2, m.2.1, 0, nI v, m.2.2.2.2)) := h4
    rw [h3', h4', if_neg (show ¬ nI v = -1 from fun z => neg1_ne (by omega) z.symm), if_neg (show ¬ true = false by decide)]
    try dsimp only
    unfold rd2
    rw [tk_at hp h2 (by decide), nSg_at hp h2]
    try dsimp only
    have s2 : sn G n sp2 58 ≤ n := sn_le h2
    by_cases c1 : sg G n sp2 58 = true
    · rw [if_neg (show ¬ sg G n sp2 58 = false by rw [c1]; decide), if_neg (show ¬ sg G n sp2 58 = false by rw [c1]; decide), hp.2.1, hp.2.2.1]
      unfold nWv
      try dsimp only
      by_cases c2 : nI (sn G n sp2 58) = nI n
      · rw [if_pos c2, c2, decide_eq_false (fun z => absurd z (Int32.lt_irrefl)), nWL, if_pos rfl]
        unfold nFi
        rw [hp.2.2.1, if_pos c2]
        exact ⟨fun _ => ⟨rfl, rfl, Nat.zero_le _, rfl, fun k hk => absurd hk (Nat.not_lt_zero k)⟩, (fun z => by cases z), by show sn G n sp2 58 ≤ 80; omega, Nat.zero_le 6⟩
      · rw [if_neg c2]
        have hlt : sn G n sp2 58 < n := by
          rcases Nat.lt_or_ge (sn G n sp2 58) n with z | z
          · exact z
          · exact absurd (by rw [show sn G n sp2 58 = n by omega]) c2
        rw [decide_eq_true (nI_lt hlt (by omega))]
        exact loop_at hp 6 0 _ _ _ _ _ _ rfl (by decide) s2 rfl (fun k hk => absurd hk (Nat.not_lt_zero k))
    · rw [if_pos (Bool.eq_false_iff.mpr c1), if_pos (Bool.eq_false_iff.mpr c1)]
      exact ⟨fun z => (by cases z), fun _ => ⟨rfl, fun z => neg1_ne (by omega) z.symm⟩, by show sn G n sp2 58 ≤ 80; omega, Nat.zero_le 6⟩
end RE
