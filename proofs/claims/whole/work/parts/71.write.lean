/-! texts are written -/
/-- the same text, of b signs at most -/
def WR (q : pT) (m : mpT) (b : Nat) : Prop := q.1 = nI m.1 ∧ m.1 ≤ b ∧ ∀ i, i < m.1 → q.2 i = m.2 i
theorem WR.put {q : pT} {m : mpT} {b : Nat} (x : Int32) (h : WR q m b) (hb : b < 80) : WR (pPut x q) (mPt x m) (b + 1) := by
  obtain ⟨h1, h2, h3⟩ := h
  unfold pPut mPt
  rw [h1, if_pos (jIdx80 (by omega)), nI_clamp (by omega), nI_1]
  refine ⟨rfl, by show m.1 + 1 ≤ b + 1; omega, fun i hi => ?_⟩
  have hi2 : i < m.1 + 1 := hi
  show upd q.2 m.1 x i = upd m.2 m.1 x i
  unfold upd
  by_cases hc : i = m.1
  · rw [if_pos hc, if_pos hc]
  · rw [if_neg hc, if_neg hc]
    exact h3 i (by omega)
theorem WR.le {q : pT} {m : mpT} {b c : Nat} (h : WR q m b) (hc : b ≤ c) : WR q m c := ⟨h.1, Nat.le_trans h.2.1 hc, h.2.2⟩
theorem ten_le (x : Int32) : 10 ≤ x ↔ 9 < x := by
  rw [Int32.le_iff_toInt_le, Int32.lt_iff_toInt_lt]
  have e1 : (10 : Int32).toInt = 10 := rfl
  have e2 : (9 : Int32).toInt = 9 := rfl
  rw [e1, e2]
  omega
theorem WR.num {q : pT} {m : mpT} {b : Nat} (x : Int32) (h : WR q m b) (hb : b + 1 < 80) : WR (pPutN x q) (mPn x m) (b + 2) := by
  unfold pPutN mPn
  by_cases hc : 9 < x
  · rw [if_pos ((ten_le x).mpr hc), if_pos hc]
    exact (h.put _ (by omega)).put _ hb
  · rw [if_neg (fun z => hc ((ten_le x).mp z)), if_neg hc]
    exact (h.put _ (by omega)).le (by omega)
theorem WR.iff {q : pT} {m : mpT} {b : Nat} {p p2 : Prop} [Decidable p] [Decidable p2] (hp : p ↔ p2) (x : Int32) (h : WR q m b) (hb : b < 80) : WR (if p then pPut x q else q) (if p2 then mPt x m else m) (b + 1) := by
  by_cases hc : p
  · rw [if_pos hc, if_pos (hp.mp hc)]; exact h.put x hb
  · rw [if_neg hc, if_neg (fun z => hc (hp.mpr z))]; exact h.le (by omega)
theorem WR.rgt {q : pT} {m : mpT} {b : Nat} (x : Int32) (h : WR q m b) (hb : b + 3 < 80) : WR (wR x 4 0 q) (mPr (eRights x) 3 109 (mPr (eRights x) 2 120 (mPr (eRights x) 1 119 (mPr (eRights x) 0 114 m)))) (b + 4) := by
  have g1 : (sTx 1).getD 0 0 = 114 := rfl
  have g2 : (sTx 1).getD 1 0 = 119 := rfl
  have g3 : (sTx 1).getD 2 0 = 120 := rfl
  have g4 : (sTx 1).getD 3 0 = 109 := rfl
  have e : ∀ j : Nat, j < 4 → (jHas (eRights x) (nI j) = true ↔ mHas (eRights x) (nI j) = true) := fun j hj => by rw [jHas_bt _ (by omega), mHas_bt _ (by omega)]
  rw [wR, wR, wR, wR, wR, g1, g2, g3, g4]
  unfold mPr
  exact (((h.iff (e 0 (by decide)) 114 (by omega)).iff (e 1 (by decide)) 119 (by omega)).iff (e 2 (by decide)) 120 (by omega)).iff (e 3 (by decide)) 109 (by omega)
theorem WR.ent {w : Nat → Int32} {o i : Nat} {q : pT} {m : mpT} {b : Nat} (he : eOk w o i) (h : WR q m b) (hb : b + 9 < 80) : WR (wE (eC w o i) q) (mPe w o i m) (b + 10) := by
  obtain ⟨d1, d2, d3, d4, d5⟩ := eC_d he
  obtain ⟨kd, nn, r, hkd, hn, hr, k1, k2, k3⟩ := he
  have s1 : WR (wE1 (eC w o i) q) (mQ1 w o i m) (b + 1) := by
    unfold wE1 mQ1
    rw [d2]
    by_cases hc : w (enA o i 3) = 1
    · rw [decide_eq_true hc, if_pos rfl, if_pos hc]; exact h.put _ (by omega)
    · rw [decide_eq_false hc, if_neg (by decide), if_neg hc]; exact h.put _ (by omega)
  have s2 : WR (wE2 (eC w o i) (wE1 (eC w o i) q)) (mQ2 w o i m) (b + 2) := by
    unfold wE2 mQ2
    rw [d4, k1, if_pos (jIdx4 hkd), nI_clamp (by omega)]
    have e : (sTx 0).getD kd 0 = mK2 (nI kd) := by
      rcases kd with _ | _ | _ | _ | kd
      · rfl
      · rfl
      · rfl
      · rfl
      · omega
    rw [e]
    exact s1.put _ (by omega)
  have s3 : WR (wE3 (eC w o i) (wE2 (eC w o i) (wE1 (eC w o i) q))) (mQ3x w o i m) (b + 4) := by
    unfold wE3 mQ3x
    rw [d4, d5, k1]
    have e : (nI kd = 0 ∨ nI kd = 1) ↔ nI kd < 2 := by
      rcases kd with _ | _ | _ | _ | kd
      · decide
      · decide
      · decide
      · decide
      · omega
    by_cases hc : nI kd < 2
    · rw [if_pos (e.mpr hc), if_pos hc]; exact s2.num _ (by omega)
    · rw [if_neg (fun z => hc (e.mp z)), if_neg hc]; exact s2.le (by omega)
  have s4 : WR (wE4 (eC w o i) (wE3 (eC w o i) (wE2 (eC w o i) (wE1 (eC w o i) q)))) (mQ4 w o i m) (b + 9) := by
    unfold wE4 mQ4
    have h5 := (s3.put 61 (by omega)).rgt (eC w o i) (by omega)
    rw [d1] at h5
    exact h5
  unfold wE mPe
  exact s4.iff (by rw [d3, decide_eq_true_eq]) 42 (by omega)
section WRT
variable {F A : Nat → Nat → Int32} {w : Nat → Int32} {t : Nat}
theorem Rel.wloop (h : Rel F A w t) {o : Nat} (ho : o < 20) : ∀ (n m j : Nat) (q : pT) (p : mpT), m + j = mCt w o → n + j = 6 → WR q p (3 + 11 * j) → WR (wL (A 10) (nI (mCt w o)) (nI o) n j q) (mWL w o m j p) 80 := by
  have h6 := h.ok.ct6 ho
  intro n
  induction n with
  | zero =>
    intro m j q p hm hn hq
    rw [show m = 0 by omega, wL, mWL]
    exact hq.le (by omega)
  | succ n ih =>
    intro m j q p hm hn hq
    rw [wL]
    cases m with
    | zero =>
      rw [if_neg (nI_nlt (by omega) (by omega)), mWL]
      exact hq.le (by omega)
    | succ m =>
      rw [if_pos (nI_lt (by omega) (by omega)), sEnt_at _ ho (by omega), h.en ho (by omega), mWL]
      refine ih m (j + 1) _ _ (by omega) (by omega) ?_
      have s1 := hq.iff (p := 0 < nI j) (p2 := 0 < j) (nI_ltI (a := 0) (by decide) (by omega)) 59 (by omega)
      exact (s1.ent (h.eo ho (by omega)) (by omega)).le (by omega)
end WRT
theorem Rel.writeAll {G : GS} {w : Nat → Int32} {t : Nat} (h : Rel (G.1 0) (G.2.1 0) w t) {o : Nat} (ho : o < 20) (q : pT) (z : Nat → Int32) : WR (wAll G (nI o) q) (mWE w o z) 80 := by
  unfold wAll mWE
  rw [h.cnt ho]
  refine h.wloop ho 6 (mCt w o) 0 _ _ rfl rfl ?_
  have h0 : WR (0, q.2) (0, z) 0 := ⟨rfl, Nat.le_refl _, fun i hi => absurd hi (Nat.not_lt_zero i)⟩
  exact ((h0.num (nI o) (by decide)).put 58 (by decide)).le (by decide)
