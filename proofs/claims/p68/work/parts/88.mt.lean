/-! the answers of the operations that change something, and the model's row behind them -/
def pQ (G : GS) (t : Nat) (v : Int32) (w2 : Nat → Int32) : cOut → GS → Prop := fun o G1 => o = .inl (some (.int v)) ∧ Sim G1 t ∧ G1.2.1 0 30 = w2 ∧ (∀ o, 40 ≤ o → o < 48 → G1.2.1 0 o = G.2.1 0 o) ∧ G1.2.2.1 = G.2.2.1
theorem pQ_k {G : GS} {t : Nat} {v : Int32} {w2 : Nat → Int32} {P : Option Value → GS → Prop} (h : ∀ G1, Sim G1 t → G1.2.1 0 30 = w2 → (∀ o, 40 ≤ o → o < 48 → G1.2.1 0 o = G.2.1 0 o) → G1.2.2.1 = G.2.2.1 → P (some (.int v)) G1) : ∀ r G9, pQ G t v w2 (.inl r) G9 → P r G9 := by
  rintro r G9 ⟨h1, h2, h3, h4, h5⟩
  cases h1
  exact h G9 h2 h3 h4 h5
theorem pQ_n {G : GS} {t : Nat} {v : Int32} {w2 : Nat → Int32} : ∀ E G9, pQ G t v w2 (.inr E) G9 → False := by
  rintro E G9 ⟨h1, -⟩
  cases h1
theorem mt_gen {G G0 : GS} {t t2 : Nat} {f : Int32 → Int64} {g : Int32 → Int32} {cs : List String} {Qc : cOut → GS → Prop} {Qm : GS → cOut → GS → Prop} {v : Int32} {w2 : Nat → Int32} (hO : OpI G f cs Qc Qm t2) (h0 : Nx G0 G t) (hg : ∀ x y, f y = f x → g x = g y) (hcs : ∀ E ∈ cs, ¬ cdE cs 1 E = 0) (hQ : ∀ Y : GS, Y.2.1 0 30 = G0.2.1 0 30 → ∃ (y : Int32) (Z : GS), Qm Y (.inl (some (.int y))) Z ∧ Gh Y Z ∧ Z.2.1 0 30 = w2 ∧ v = (if Z.1 0 29 5 = 0 then g y else -100 - Z.1 0 29 5)) : ∀ o G1, wP g cs Qc o G1 → ∃ G2, Gh G1 G2 ∧ pQ G0 t2 v w2 o G2 := by
  intro o G1 h
  rcases h with ⟨x, G9, h1, rfl, rfl⟩ | ⟨E, G9, h1, rfl, rfl⟩
  · obtain ⟨x2, e2, hA, h2⟩ := hO.1 _ _ h1
    cases e2
    obtain ⟨y, Z, h3, h4, h5, h6⟩ := hQ (setO G1 (f x)) ((hA.2 30 (by decide) (by decide)).trans h0.w)
    obtain ⟨y2, e3, e4, -, e6, e7⟩ := h2 _ _ h3
    cases e3
    have hG : Gh G1 Z := (Gh.refl G1).o.trans h4
    refine ⟨Z, hG, ?_, e7, h5, fun o h7 h8 => (hG.1 0 o (by omega)).2.trans ((hA.2 o (by omega) h8).trans (h0.a h7 h8)), hG.2.trans (hA.1.2.trans h0.2.2.2)⟩
    rw [h6, if_pos e6, hg _ _ e4]
  · obtain ⟨hE, hA, h2⟩ := hO.2 _ _ h1
    obtain ⟨y, Z, h3, h4, h5, h6⟩ := hQ G1 ((hA.2 30 (by decide) (by decide)).trans h0.w)
    obtain ⟨y2, e3, e4, e5⟩ := h2 _ _ h3
    refine ⟨Z, h4, ?_, e5, h5, fun o h7 h8 => (h4.1 0 o (by omega)).2.trans ((hA.2 o (by omega) h8).trans (h0.a h7 h8)), h4.2.trans (hA.1.2.trans h0.2.2.2)⟩
    rw [h6, if_neg (by rw [e4]; exact hcs E hE), e4]
theorem mMv_old (w old : Nat → Int32) (o i t : Nat) : mMv w old o i t = mMv w w o i t := by
  unfold mMv mPu
  funext k
  by_cases h : enA o t 0 ≤ k ∧ k < enA o t 0 + 5
  · rw [if_pos h, if_pos h]
    unfold mOneK
    rw [if_pos (by omega), if_pos (by omega)]
  · rw [if_neg h, if_neg h]
theorem mUl_congr {w a b : Nat → Int32} : ∀ (n k : Nat) (t : Int32), (∀ i, k ≤ i → i < k + n → a i = b i) → mUl w a n k t = mUl w b n k t := by
  intro n
  induction n with
  | zero => intro k t _; rfl
  | succ n ih =>
    intro k t h
    rw [mUl, mUl, h k (Nat.le_refl _) (by omega), ih (k + 1) _ (fun i h1 h2 => h i (by omega) (by omega))]
theorem mUl_nt (w2 w old : Nat → Int32) : mUl w2 (mNtK w old 240) 240 0 0 = mUl w2 (mNt w) 240 0 0 := mUl_congr 240 0 0 fun i _ h => by
  unfold mNtK
  rw [if_pos (by omega)]
theorem r_addUser {l : Launch} (hl : l.stackTraces = false) (Θ : cTH) {G0 G : GS} {t : Nat} (h0 : Nx G0 G t) (ht : t < 2 ^ 20) : CtR l yL_addUserOf cL_addUserOf 2 (some .int) [(0, 4, 5, 15)] rm_L_addUserOf Θ [.ref (tR Θ 0 14)] G (pQ G0 (t + 1) (if (!decide (G0.2.1 0 30 0 = 12)) = true then (gI (G0.2.1 0 30 0 + 1 - 1)) else -101) (if (!decide (G0.2.1 0 30 0 = 12)) = true then (upd (G0.2.1 0 30) 0 (G0.2.1 0 30 0 + 1)) else G0.2.1 0 30)) := by
  have hS := h0.1
  have hO := op_addUser hS ht 
  refine ⟨_, w_L_addUserOf hl Θ  G (c_X11_addUser hl Θ  G) hO.v (fun E G9 h9 => mem1 (hO.2 E G9 h9).1), mt_gen hO h0 (fun _ _ => gI_f) cd1 fun Y hY => ?_⟩
  have hC : (mC Y).2.1 0 30 = G0.2.1 0 30 := (mC_a Y (by decide)).trans hY
  by_cases c0 : (!decide (G0.2.1 0 30 0 = 12)) = true
  · rw [if_pos c0, if_pos c0]
    refine ⟨(mC Y).2.1 0 30 0 + 1 - 1, mUp 0 ((mC Y).2.1 0 30 0 + 1) (mC Y), ?_, (Gh.refl Y).mC_.up _ _, ?_, ?_⟩
    · try dsimp only
      try unfold mAdQ
      try unfold mQ3
      rw [hY, mg_t c0]
      first | exact ⟨rfl, rfl⟩ | (refine ⟨?_, ?_⟩ <;> simp only [hY])
    · show (mUp 0 ((mC Y).2.1 0 30 0 + 1) (mC Y)).2.1 0 30 = _
      simp only [mUp, mWr, mAd, putA_same, hC, hY]
    · rw [if_pos (show (mUp 0 ((mC Y).2.1 0 30 0 + 1) (mC Y)).1 0 29 5 = 0 from mC_5 Y)]
      first | simp only [mUp, mWr, mAd, putA_same, hC, hY] | rfl
  · rw [if_neg c0, if_neg c0]
    refine ⟨0, ms 1 Y, ?_, (Gh.refl Y).ms_ _, hY, by rw [ms_5]; rfl⟩
    try dsimp only
    try unfold mAdQ
    try unfold mQ3
    rw [hY]
    unfold mg
    rw [if_neg c0]
    exact ⟨rfl, rfl⟩
theorem r_addGroup {l : Launch} (hl : l.stackTraces = false) (Θ : cTH) {G0 G : GS} {t : Nat} (h0 : Nx G0 G t) (ht : t < 2 ^ 20) : CtR l yL_addGroupOf cL_addGroupOf 2 (some .int) [(0, 4, 5, 15)] rm_L_addGroupOf Θ [.ref (tR Θ 0 14)] G (pQ G0 (t + 1) (if (!decide (G0.2.1 0 30 1 = 8)) = true then (gI (G0.2.1 0 30 1 + 1 - 1)) else -101) (if (!decide (G0.2.1 0 30 1 = 8)) = true then (upd (G0.2.1 0 30) 1 (G0.2.1 0 30 1 + 1)) else G0.2.1 0 30)) := by
  have hS := h0.1
  have hO := op_addGroup hS ht 
  refine ⟨_, w_L_addGroupOf hl Θ  G (c_X11_addGroup hl Θ  G) hO.v (fun E G9 h9 => mem1 (hO.2 E G9 h9).1), mt_gen hO h0 (fun _ _ => gI_f) cd1 fun Y hY => ?_⟩
  have hC : (mC Y).2.1 0 30 = G0.2.1 0 30 := (mC_a Y (by decide)).trans hY
  by_cases c0 : (!decide (G0.2.1 0 30 1 = 8)) = true
  · rw [if_pos c0, if_pos c0]
    refine ⟨(mC Y).2.1 0 30 1 + 1 - 1, mUp 1 ((mC Y).2.1 0 30 1 + 1) (mC Y), ?_, (Gh.refl Y).mC_.up _ _, ?_, ?_⟩
    · try dsimp only
      try unfold mAdQ
      try unfold mQ3
      rw [hY, mg_t c0]
      first | exact ⟨rfl, rfl⟩ | (refine ⟨?_, ?_⟩ <;> simp only [hY])
    · show (mUp 1 ((mC Y).2.1 0 30 1 + 1) (mC Y)).2.1 0 30 = _
      simp only [mUp, mWr, mAd, putA_same, hC, hY]
    · rw [if_pos (show (mUp 1 ((mC Y).2.1 0 30 1 + 1) (mC Y)).1 0 29 5 = 0 from mC_5 Y)]
      first | simp only [mUp, mWr, mAd, putA_same, hC, hY] | rfl
  · rw [if_neg c0, if_neg c0]
    refine ⟨0, ms 1 Y, ?_, (Gh.refl Y).ms_ _, hY, by rw [ms_5]; rfl⟩
    try dsimp only
    try unfold mAdQ
    try unfold mQ3
    rw [hY]
    unfold mg
    rw [if_neg c0]
    exact ⟨rfl, rfl⟩
theorem r_join {l : Launch} (hl : l.stackTraces = false) (Θ : cTH) {G0 G : GS} {t : Nat} (h0 : Nx G0 G t) (ht : t < 2 ^ 20) (a0 : Int32) (a1 : Int32) : CtR l yL_joinOf cL_joinOf 4 (some .int) [(0, 6, 7, 24), (0, 6, 11, 15)] rm_L_joinOf Θ [.ref (tR Θ 0 14), .int a0, .int a1] G (pQ G0 (t + 1) (if (mIn a0 0 (G0.2.1 0 30 0 - 1) && mIn a1 0 (G0.2.1 0 30 1 - 1)) = true then (if (!mHas (G0.2.1 0 30 (2 + a1.toNatClampNeg)) a0) = true then (gI (mHow ((upd (G0.2.1 0 30) (2 + a1.toNatClampNeg) (G0.2.1 0 30 (2 + a1.toNatClampNeg) ||| ((1 : Int32) <<< (a0 &&& 31))))) (mGs (G0.2.1 0 30)) a1.toNatClampNeg (mUs (G0.2.1 0 30)) 0 0)) else -102) else -101) (if (mIn a0 0 (G0.2.1 0 30 0 - 1) && mIn a1 0 (G0.2.1 0 30 1 - 1)) = true then (if (!mHas (G0.2.1 0 30 (2 + a1.toNatClampNeg)) a0) = true then (upd (G0.2.1 0 30) (2 + a1.toNatClampNeg) (G0.2.1 0 30 (2 + a1.toNatClampNeg) ||| ((1 : Int32) <<< (a0 &&& 31)))) else G0.2.1 0 30) else G0.2.1 0 30)) := by
  have hS := h0.1
  have hO := op_join hS ht a0 a1
  refine ⟨_, w_L_joinOf hl Θ a0 a1 G (c_X11_join hl Θ a0 a1 G hS.1.gOk_) hO.v (fun E G9 h9 => mem2 (hO.2 E G9 h9).1), mt_gen hO h0 (fun _ _ => gI_f) cd2 fun Y hY => ?_⟩
  have hC : (mC Y).2.1 0 30 = G0.2.1 0 30 := (mC_a Y (by decide)).trans hY
  by_cases c0 : (mIn a0 0 (G0.2.1 0 30 0 - 1) && mIn a1 0 (G0.2.1 0 30 1 - 1)) = true
  · rw [if_pos c0, if_pos c0]
    by_cases c1 : (!mHas (G0.2.1 0 30 (2 + a1.toNatClampNeg)) a0) = true
    · rw [if_pos c1, if_pos c1]
      refine ⟨mHow ((mUp (2 + a1.toNatClampNeg) ((mC Y).2.1 0 30 (2 + a1.toNatClampNeg) ||| ((1 : Int32) <<< (a0 &&& 31))) (mC Y)).2.1 0 30) (mGs (Y.2.1 0 30)) a1.toNatClampNeg (mUs (Y.2.1 0 30)) 0 0, mUp (2 + a1.toNatClampNeg) ((mC Y).2.1 0 30 (2 + a1.toNatClampNeg) ||| ((1 : Int32) <<< (a0 &&& 31))) (mC Y), ?_, (Gh.refl Y).mC_.up _ _, ?_, ?_⟩
      · try dsimp only
        try unfold mAdQ
        try unfold mQ3
        rw [hY, mg_t c0, mg_t c1]
        first | exact ⟨rfl, rfl⟩ | (refine ⟨?_, ?_⟩ <;> simp only [hY])
      · show (mUp (2 + a1.toNatClampNeg) ((mC Y).2.1 0 30 (2 + a1.toNatClampNeg) ||| ((1 : Int32) <<< (a0 &&& 31))) (mC Y)).2.1 0 30 = _
        simp only [mUp, mWr, mAd, putA_same, hC, hY]
      · rw [if_pos (show (mUp (2 + a1.toNatClampNeg) ((mC Y).2.1 0 30 (2 + a1.toNatClampNeg) ||| ((1 : Int32) <<< (a0 &&& 31))) (mC Y)).1 0 29 5 = 0 from mC_5 Y)]
        first | simp only [mUp, mWr, mAd, putA_same, hC, hY] | rfl
    · rw [if_neg c1, if_neg c1]
      refine ⟨0, ms 2 Y, ?_, (Gh.refl Y).ms_ _, hY, by rw [ms_5]; rfl⟩
      try dsimp only
      try unfold mAdQ
      try unfold mQ3
      rw [hY, mg_t c0]
      unfold mg
      rw [if_neg c1]
      exact ⟨rfl, rfl⟩
  · rw [if_neg c0, if_neg c0]
    refine ⟨0, ms 1 Y, ?_, (Gh.refl Y).ms_ _, hY, by rw [ms_5]; rfl⟩
    try dsimp only
    try unfold mAdQ
    try unfold mQ3
    rw [hY]
    unfold mg
    rw [if_neg c0]
    exact ⟨rfl, rfl⟩
theorem r_leave {l : Launch} (hl : l.stackTraces = false) (Θ : cTH) {G0 G : GS} {t : Nat} (h0 : Nx G0 G t) (ht : t < 2 ^ 20) (a0 : Int32) (a1 : Int32) : CtR l yL_leaveOf cL_leaveOf 4 (some .int) [(0, 6, 7, 24), (0, 6, 11, 15)] rm_L_leaveOf Θ [.ref (tR Θ 0 14), .int a0, .int a1] G (pQ G0 (t + 1) (if (mIn a0 0 (G0.2.1 0 30 0 - 1) && mIn a1 0 (G0.2.1 0 30 1 - 1)) = true then (if (mHas (G0.2.1 0 30 (2 + a1.toNatClampNeg)) a0) = true then (gI (mHow ((upd (G0.2.1 0 30) (2 + a1.toNatClampNeg) (G0.2.1 0 30 (2 + a1.toNatClampNeg) - ((1 : Int32) <<< (a0 &&& 31))))) (mGs (G0.2.1 0 30)) a1.toNatClampNeg (mUs (G0.2.1 0 30)) 0 0)) else -102) else -101) (if (mIn a0 0 (G0.2.1 0 30 0 - 1) && mIn a1 0 (G0.2.1 0 30 1 - 1)) = true then (if (mHas (G0.2.1 0 30 (2 + a1.toNatClampNeg)) a0) = true then (upd (G0.2.1 0 30) (2 + a1.toNatClampNeg) (G0.2.1 0 30 (2 + a1.toNatClampNeg) - ((1 : Int32) <<< (a0 &&& 31)))) else G0.2.1 0 30) else G0.2.1 0 30)) := by
  have hS := h0.1
  have hO := op_leave hS ht a0 a1
  refine ⟨_, w_L_leaveOf hl Θ a0 a1 G (c_X11_leave hl Θ a0 a1 G hS.1.gOk_) hO.v (fun E G9 h9 => mem2 (hO.2 E G9 h9).1), mt_gen hO h0 (fun _ _ => gI_f) cd2 fun Y hY => ?_⟩
  have hC : (mC Y).2.1 0 30 = G0.2.1 0 30 := (mC_a Y (by decide)).trans hY
  by_cases c0 : (mIn a0 0 (G0.2.1 0 30 0 - 1) && mIn a1 0 (G0.2.1 0 30 1 - 1)) = true
  · rw [if_pos c0, if_pos c0]
    by_cases c1 : (mHas (G0.2.1 0 30 (2 + a1.toNatClampNeg)) a0) = true
    · rw [if_pos c1, if_pos c1]
      refine ⟨mHow ((mUp (2 + a1.toNatClampNeg) ((mC Y).2.1 0 30 (2 + a1.toNatClampNeg) - ((1 : Int32) <<< (a0 &&& 31))) (mC Y)).2.1 0 30) (mGs (Y.2.1 0 30)) a1.toNatClampNeg (mUs (Y.2.1 0 30)) 0 0, mUp (2 + a1.toNatClampNeg) ((mC Y).2.1 0 30 (2 + a1.toNatClampNeg) - ((1 : Int32) <<< (a0 &&& 31))) (mC Y), ?_, (Gh.refl Y).mC_.up _ _, ?_, ?_⟩
      · try dsimp only
        try unfold mAdQ
        try unfold mQ3
        rw [hY, mg_t c0, mg_t c1]
        first | exact ⟨rfl, rfl⟩ | (refine ⟨?_, ?_⟩ <;> simp only [hY])
      · show (mUp (2 + a1.toNatClampNeg) ((mC Y).2.1 0 30 (2 + a1.toNatClampNeg) - ((1 : Int32) <<< (a0 &&& 31))) (mC Y)).2.1 0 30 = _
        simp only [mUp, mWr, mAd, putA_same, hC, hY]
      · rw [if_pos (show (mUp (2 + a1.toNatClampNeg) ((mC Y).2.1 0 30 (2 + a1.toNatClampNeg) - ((1 : Int32) <<< (a0 &&& 31))) (mC Y)).1 0 29 5 = 0 from mC_5 Y)]
        first | simp only [mUp, mWr, mAd, putA_same, hC, hY] | rfl
    · rw [if_neg c1, if_neg c1]
      refine ⟨0, ms 2 Y, ?_, (Gh.refl Y).ms_ _, hY, by rw [ms_5]; rfl⟩
      try dsimp only
      try unfold mAdQ
      try unfold mQ3
      rw [hY, mg_t c0]
      unfold mg
      rw [if_neg c1]
      exact ⟨rfl, rfl⟩
  · rw [if_neg c0, if_neg c0]
    refine ⟨0, ms 1 Y, ?_, (Gh.refl Y).ms_ _, hY, by rw [ms_5]; rfl⟩
    try dsimp only
    try unfold mAdQ
    try unfold mQ3
    rw [hY]
    unfold mg
    rw [if_neg c0]
    exact ⟨rfl, rfl⟩
theorem r_nest {l : Launch} (hl : l.stackTraces = false) (Θ : cTH) {G0 G : GS} {t : Nat} (h0 : Nx G0 G t) (ht : t < 2 ^ 20) (a0 : Int32) (a1 : Int32) : CtR l yL_nestOf cL_nestOf 4 (some .int) [(0, 6, 7, 24), (0, 6, 11, 15)] rm_L_nestOf Θ [.ref (tR Θ 0 14), .int a0, .int a1] G (pQ G0 (t + 1) (if (mIn a0 0 (G0.2.1 0 30 1 - 1) && mIn a1 0 (G0.2.1 0 30 1 - 1)) = true then (if (!(decide (a0 = a1) || (mHas (G0.2.1 0 30 (10 + a0.toNatClampNeg)) a1 || mHas (mOut (G0.2.1 0 30) a1.toNatClampNeg) a0))) = true then (gI (mHow ((upd (G0.2.1 0 30) (10 + a0.toNatClampNeg) (G0.2.1 0 30 (10 + a0.toNatClampNeg) ||| ((1 : Int32) <<< (a1 &&& 31))))) (mGs (G0.2.1 0 30)) a1.toNatClampNeg (mUs (G0.2.1 0 30)) 0 0)) else -102) else -101) (if (mIn a0 0 (G0.2.1 0 30 1 - 1) && mIn a1 0 (G0.2.1 0 30 1 - 1)) = true then (if (!(decide (a0 = a1) || (mHas (G0.2.1 0 30 (10 + a0.toNatClampNeg)) a1 || mHas (mOut (G0.2.1 0 30) a1.toNatClampNeg) a0))) = true then (upd (G0.2.1 0 30) (10 + a0.toNatClampNeg) (G0.2.1 0 30 (10 + a0.toNatClampNeg) ||| ((1 : Int32) <<< (a1 &&& 31)))) else G0.2.1 0 30) else G0.2.1 0 30)) := by
  have hS := h0.1
  have hO := op_nest hS ht a0 a1
  refine ⟨_, w_L_nestOf hl Θ a0 a1 G (c_X11_nest hl Θ a0 a1 G hS.1.gOk_) hO.v (fun E G9 h9 => mem2 (hO.2 E G9 h9).1), mt_gen hO h0 (fun _ _ => gI_f) cd2 fun Y hY => ?_⟩
  have hC : (mC Y).2.1 0 30 = G0.2.1 0 30 := (mC_a Y (by decide)).trans hY
  by_cases c0 : (mIn a0 0 (G0.2.1 0 30 1 - 1) && mIn a1 0 (G0.2.1 0 30 1 - 1)) = true
  · rw [if_pos c0, if_pos c0]
    by_cases c1 : (!(decide (a0 = a1) || (mHas (G0.2.1 0 30 (10 + a0.toNatClampNeg)) a1 || mHas (mOut (G0.2.1 0 30) a1.toNatClampNeg) a0))) = true
    · rw [if_pos c1, if_pos c1]
      refine ⟨mHow ((mUp (10 + a0.toNatClampNeg) ((mC Y).2.1 0 30 (10 + a0.toNatClampNeg) ||| ((1 : Int32) <<< (a1 &&& 31))) (mC Y)).2.1 0 30) (mGs (Y.2.1 0 30)) a1.toNatClampNeg (mUs (Y.2.1 0 30)) 0 0, mUp (10 + a0.toNatClampNeg) ((mC Y).2.1 0 30 (10 + a0.toNatClampNeg) ||| ((1 : Int32) <<< (a1 &&& 31))) (mC Y), ?_, (Gh.refl Y).mC_.up _ _, ?_, ?_⟩
      · try dsimp only
        try unfold mAdQ
        try unfold mQ3
        rw [hY, mg_t c0, mg_t c1]
        first | exact ⟨rfl, rfl⟩ | (refine ⟨?_, ?_⟩ <;> simp only [hY])
      · show (mUp (10 + a0.toNatClampNeg) ((mC Y).2.1 0 30 (10 + a0.toNatClampNeg) ||| ((1 : Int32) <<< (a1 &&& 31))) (mC Y)).2.1 0 30 = _
        simp only [mUp, mWr, mAd, putA_same, hC, hY]
      · rw [if_pos (show (mUp (10 + a0.toNatClampNeg) ((mC Y).2.1 0 30 (10 + a0.toNatClampNeg) ||| ((1 : Int32) <<< (a1 &&& 31))) (mC Y)).1 0 29 5 = 0 from mC_5 Y)]
        first | simp only [mUp, mWr, mAd, putA_same, hC, hY] | rfl
    · rw [if_neg c1, if_neg c1]
      refine ⟨0, ms 2 Y, ?_, (Gh.refl Y).ms_ _, hY, by rw [ms_5]; rfl⟩
      try dsimp only
      try unfold mAdQ
      try unfold mQ3
      rw [hY, mg_t c0]
      unfold mg
      rw [if_neg c1]
      exact ⟨rfl, rfl⟩
  · rw [if_neg c0, if_neg c0]
    refine ⟨0, ms 1 Y, ?_, (Gh.refl Y).ms_ _, hY, by rw [ms_5]; rfl⟩
    try dsimp only
    try unfold mAdQ
    try unfold mQ3
    rw [hY]
    unfold mg
    rw [if_neg c0]
    exact ⟨rfl, rfl⟩
theorem r_unnest {l : Launch} (hl : l.stackTraces = false) (Θ : cTH) {G0 G : GS} {t : Nat} (h0 : Nx G0 G t) (ht : t < 2 ^ 20) (a0 : Int32) (a1 : Int32) : CtR l yL_unnestOf cL_unnestOf 4 (some .int) [(0, 6, 7, 24), (0, 6, 11, 15)] rm_L_unnestOf Θ [.ref (tR Θ 0 14), .int a0, .int a1] G (pQ G0 (t + 1) (if (mIn a0 0 (G0.2.1 0 30 1 - 1) && mIn a1 0 (G0.2.1 0 30 1 - 1)) = true then (if (mHas (G0.2.1 0 30 (10 + a0.toNatClampNeg)) a1) = true then (gI (mHow ((upd (G0.2.1 0 30) (10 + a0.toNatClampNeg) (G0.2.1 0 30 (10 + a0.toNatClampNeg) - ((1 : Int32) <<< (a1 &&& 31))))) (mGs (G0.2.1 0 30)) a1.toNatClampNeg (mUs (G0.2.1 0 30)) 0 0)) else -102) else -101) (if (mIn a0 0 (G0.2.1 0 30 1 - 1) && mIn a1 0 (G0.2.1 0 30 1 - 1)) = true then (if (mHas (G0.2.1 0 30 (10 + a0.toNatClampNeg)) a1) = true then (upd (G0.2.1 0 30) (10 + a0.toNatClampNeg) (G0.2.1 0 30 (10 + a0.toNatClampNeg) - ((1 : Int32) <<< (a1 &&& 31)))) else G0.2.1 0 30) else G0.2.1 0 30)) := by
  have hS := h0.1
  have hO := op_unnest hS ht a0 a1
  refine ⟨_, w_L_unnestOf hl Θ a0 a1 G (c_X11_unnest hl Θ a0 a1 G hS.1.gOk_) hO.v (fun E G9 h9 => mem2 (hO.2 E G9 h9).1), mt_gen hO h0 (fun _ _ => gI_f) cd2 fun Y hY => ?_⟩
  have hC : (mC Y).2.1 0 30 = G0.2.1 0 30 := (mC_a Y (by decide)).trans hY
  by_cases c0 : (mIn a0 0 (G0.2.1 0 30 1 - 1) && mIn a1 0 (G0.2.1 0 30 1 - 1)) = true
  · rw [if_pos c0, if_pos c0]
    by_cases c1 : (mHas (G0.2.1 0 30 (10 + a0.toNatClampNeg)) a1) = true
    · rw [if_pos c1, if_pos c1]
      refine ⟨mHow ((mUp (10 + a0.toNatClampNeg) ((mC Y).2.1 0 30 (10 + a0.toNatClampNeg) - ((1 : Int32) <<< (a1 &&& 31))) (mC Y)).2.1 0 30) (mGs (Y.2.1 0 30)) a1.toNatClampNeg (mUs (Y.2.1 0 30)) 0 0, mUp (10 + a0.toNatClampNeg) ((mC Y).2.1 0 30 (10 + a0.toNatClampNeg) - ((1 : Int32) <<< (a1 &&& 31))) (mC Y), ?_, (Gh.refl Y).mC_.up _ _, ?_, ?_⟩
      · try dsimp only
        try unfold mAdQ
        try unfold mQ3
        rw [hY, mg_t c0, mg_t c1]
        first | exact ⟨rfl, rfl⟩ | (refine ⟨?_, ?_⟩ <;> simp only [hY])
      · show (mUp (10 + a0.toNatClampNeg) ((mC Y).2.1 0 30 (10 + a0.toNatClampNeg) - ((1 : Int32) <<< (a1 &&& 31))) (mC Y)).2.1 0 30 = _
        simp only [mUp, mWr, mAd, putA_same, hC, hY]
      · rw [if_pos (show (mUp (10 + a0.toNatClampNeg) ((mC Y).2.1 0 30 (10 + a0.toNatClampNeg) - ((1 : Int32) <<< (a1 &&& 31))) (mC Y)).1 0 29 5 = 0 from mC_5 Y)]
        first | simp only [mUp, mWr, mAd, putA_same, hC, hY] | rfl
    · rw [if_neg c1, if_neg c1]
      refine ⟨0, ms 2 Y, ?_, (Gh.refl Y).ms_ _, hY, by rw [ms_5]; rfl⟩
      try dsimp only
      try unfold mAdQ
      try unfold mQ3
      rw [hY, mg_t c0]
      unfold mg
      rw [if_neg c1]
      exact ⟨rfl, rfl⟩
  · rw [if_neg c0, if_neg c0]
    refine ⟨0, ms 1 Y, ?_, (Gh.refl Y).ms_ _, hY, by rw [ms_5]; rfl⟩
    try dsimp only
    try unfold mAdQ
    try unfold mQ3
    rw [hY]
    unfold mg
    rw [if_neg c0]
    exact ⟨rfl, rfl⟩
theorem r_giveTo {l : Launch} (hl : l.stackTraces = false) (Θ : cTH) {G0 G : GS} {t : Nat} (h0 : Nx G0 G t) (ht : t < 2 ^ 20) (a0 : Int32) (a1 : Int32) : CtR l yL_giveToOf cL_giveToOf 4 (some .int) [(0, 6, 7, 24)] rm_L_giveToOf Θ [.ref (tR Θ 0 14), .int a0, .int a1] G (pQ G0 (t + 1) (if (mHold (G0.2.1 0 30) a0 && mIn a1 0 (G0.2.1 0 30 0 - 1)) = true then (gI (G0.2.1 0 30 (oA a0.toNatClampNeg 2))) else -101) (if (mHold (G0.2.1 0 30) a0 && mIn a1 0 (G0.2.1 0 30 0 - 1)) = true then (upd (G0.2.1 0 30) (oA a0.toNatClampNeg 2) a1) else G0.2.1 0 30)) := by
  have hS := h0.1
  have hO := op_giveTo hS ht a0 a1
  refine ⟨_, w_L_giveToOf hl Θ a0 a1 G (c_X11_giveTo hl Θ a0 a1 G) hO.v (fun E G9 h9 => mem1 (hO.2 E G9 h9).1), mt_gen hO h0 (fun _ _ => gI_f) cd1 fun Y hY => ?_⟩
  have hC : (mC Y).2.1 0 30 = G0.2.1 0 30 := (mC_a Y (by decide)).trans hY
  by_cases c0 : (mHold (G0.2.1 0 30) a0 && mIn a1 0 (G0.2.1 0 30 0 - 1)) = true
  · rw [if_pos c0, if_pos c0]
    refine ⟨(mC Y).2.1 0 30 (oA a0.toNatClampNeg 2), mUp (oA a0.toNatClampNeg 2) a1 (mC Y), ?_, (Gh.refl Y).mC_.up _ _, ?_, ?_⟩
    · try dsimp only
      try unfold mAdQ
      try unfold mQ3
      rw [hY, mg_t c0]
      first | exact ⟨rfl, rfl⟩ | (refine ⟨?_, ?_⟩ <;> simp only [hY])
    · show (mUp (oA a0.toNatClampNeg 2) a1 (mC Y)).2.1 0 30 = _
      simp only [mUp, mWr, mAd, putA_same, hC, hY]
    · rw [if_pos (show (mUp (oA a0.toNatClampNeg 2) a1 (mC Y)).1 0 29 5 = 0 from mC_5 Y)]
      first | simp only [mUp, mWr, mAd, putA_same, hC, hY] | rfl
  · rw [if_neg c0, if_neg c0]
    refine ⟨0, ms 1 Y, ?_, (Gh.refl Y).ms_ _, hY, by rw [ms_5]; rfl⟩
    try dsimp only
    try unfold mAdQ
    try unfold mQ3
    rw [hY]
    unfold mg
    rw [if_neg c0]
    exact ⟨rfl, rfl⟩
theorem r_setMask {l : Launch} (hl : l.stackTraces = false) (Θ : cTH) {G0 G : GS} {t : Nat} (h0 : Nx G0 G t) (ht : t < 2 ^ 20) (a0 : Int32) (a1 : Int32) : CtR l yL_setMaskOf cL_setMaskOf 4 (some .int) [(0, 6, 7, 24), (0, 6, 11, 51)] rm_L_setMaskOf Θ [.ref (tR Θ 0 14), .int a0, .int a1] G (pQ G0 (t + 1) (if (mHold (G0.2.1 0 30) a0) = true then (if (mIn a1 0 15) = true then (gI (G0.2.1 0 30 (oA a0.toNatClampNeg 3))) else -102) else -101) (if (mHold (G0.2.1 0 30) a0) = true then (if (mIn a1 0 15) = true then (upd (G0.2.1 0 30) (oA a0.toNatClampNeg 3) a1) else G0.2.1 0 30) else G0.2.1 0 30)) := by
  have hS := h0.1
  have hO := op_setMask hS ht a0 a1
  refine ⟨_, w_L_setMaskOf hl Θ a0 a1 G (c_X11_setMask hl Θ a0 a1 G) hO.v (fun E G9 h9 => mem2 (hO.2 E G9 h9).1), mt_gen hO h0 (fun _ _ => gI_f) cd2 fun Y hY => ?_⟩
  have hC : (mC Y).2.1 0 30 = G0.2.1 0 30 := (mC_a Y (by decide)).trans hY
  by_cases c0 : (mHold (G0.2.1 0 30) a0) = true
  · rw [if_pos c0, if_pos c0]
    by_cases c1 : (mIn a1 0 15) = true
    · rw [if_pos c1, if_pos c1]
      refine ⟨(mC Y).2.1 0 30 (oA a0.toNatClampNeg 3), mUp (oA a0.toNatClampNeg 3) a1 (mC Y), ?_, (Gh.refl Y).mC_.up _ _, ?_, ?_⟩
      · try dsimp only
        try unfold mAdQ
        try unfold mQ3
        rw [hY, mg_t c0, mg_t c1]
        first | exact ⟨rfl, rfl⟩ | (refine ⟨?_, ?_⟩ <;> simp only [hY])
      · show (mUp (oA a0.toNatClampNeg 3) a1 (mC Y)).2.1 0 30 = _
        simp only [mUp, mWr, mAd, putA_same, hC, hY]
      · rw [if_pos (show (mUp (oA a0.toNatClampNeg 3) a1 (mC Y)).1 0 29 5 = 0 from mC_5 Y)]
        first | simp only [mUp, mWr, mAd, putA_same, hC, hY] | rfl
    · rw [if_neg c1, if_neg c1]
      refine ⟨0, ms 2 Y, ?_, (Gh.refl Y).ms_ _, hY, by rw [ms_5]; rfl⟩
      try dsimp only
      try unfold mAdQ
      try unfold mQ3
      rw [hY, mg_t c0]
      unfold mg
      rw [if_neg c1]
      exact ⟨rfl, rfl⟩
  · rw [if_neg c0, if_neg c0]
    refine ⟨0, ms 1 Y, ?_, (Gh.refl Y).ms_ _, hY, by rw [ms_5]; rfl⟩
    try dsimp only
    try unfold mAdQ
    try unfold mQ3
    rw [hY]
    unfold mg
    rw [if_neg c0]
    exact ⟨rfl, rfl⟩
theorem r_setInheriting {l : Launch} (hl : l.stackTraces = false) (Θ : cTH) {G0 G : GS} {t : Nat} (h0 : Nx G0 G t) (ht : t < 2 ^ 20) (a0 : Int32) (a1 : Bool) : CtR l yL_setInheritingOf cL_setInheritingOf 4 (some .int) [(0, 14, 15, 24)] rm_L_setInheritingOf Θ [.ref (tR Θ 0 14), .int a0, .int (b2i a1)] G (pQ G0 (t + 1) (if (mHold (G0.2.1 0 30) a0) = true then (gZ (b2i (decide (G0.2.1 0 30 (oA a0.toNatClampNeg 4) = 1)))) else -101) (if (mHold (G0.2.1 0 30) a0) = true then (upd (G0.2.1 0 30) (oA a0.toNatClampNeg 4) (b2i a1)) else G0.2.1 0 30)) := by
  have hS := h0.1
  have hO := op_setInheriting hS ht a0 a1
  refine ⟨_, w_L_setInheritingOf hl Θ a0 (b2i a1) G (c_X11_setInheriting hl Θ a0 a1 G) hO.v (fun E G9 h9 => mem1 (hO.2 E G9 h9).1), mt_gen hO h0 (fun _ _ => gZ_f) cd1 fun Y hY => ?_⟩
  have hC : (mC Y).2.1 0 30 = G0.2.1 0 30 := (mC_a Y (by decide)).trans hY
  by_cases c0 : (mHold (G0.2.1 0 30) a0) = true
  · rw [if_pos c0, if_pos c0]
    refine ⟨b2i (decide ((mC Y).2.1 0 30 (oA a0.toNatClampNeg 4) = 1)), mUp (oA a0.toNatClampNeg 4) (b2i a1) (mC Y), ?_, (Gh.refl Y).mC_.up _ _, ?_, ?_⟩
    · try dsimp only
      try unfold mAdQ
      try unfold mQ3
      rw [hY, mg_t c0]
      first | exact ⟨rfl, rfl⟩ | (refine ⟨?_, ?_⟩ <;> simp only [hY])
    · show (mUp (oA a0.toNatClampNeg 4) (b2i a1) (mC Y)).2.1 0 30 = _
      simp only [mUp, mWr, mAd, putA_same, hC, hY]
    · rw [if_pos (show (mUp (oA a0.toNatClampNeg 4) (b2i a1) (mC Y)).1 0 29 5 = 0 from mC_5 Y)]
      first | simp only [mUp, mWr, mAd, putA_same, hC, hY] | rfl
  · rw [if_neg c0, if_neg c0]
    refine ⟨0, ms 1 Y, ?_, (Gh.refl Y).ms_ _, hY, by rw [ms_5]; rfl⟩
    try dsimp only
    try unfold mAdQ
    try unfold mQ3
    rw [hY]
    unfold mg
    rw [if_neg c0]
    exact ⟨rfl, rfl⟩
theorem r_make {l : Launch} (hl : l.stackTraces = false) (Θ : cTH) {G0 G : GS} {t : Nat} (h0 : Nx G0 G t) (ht : t < 2 ^ 20) (a0 : Int32) (a1 : Int32) : CtR l yL_makeOf cL_makeOf 4 (some .int) [(0, 6, 7, 24), (0, 6, 11, 15)] rm_L_makeOf Θ [.ref (tR Θ 0 14), .int a0, .int a1] G (pQ G0 (t + 1) (if (mHold (G0.2.1 0 30) a0 && mIn a1 0 (G0.2.1 0 30 0 - 1)) = true then (if (!decide (mHo (G0.2.1 0 30) 20 0 0 = 20)) = true then (gI (nI (mFr (G0.2.1 0 30) 20 0))) else -102) else -101) (if (mHold (G0.2.1 0 30) a0 && mIn a1 0 (G0.2.1 0 30 0 - 1)) = true then (if (!decide (mHo (G0.2.1 0 30) 20 0 0 = 20)) = true then (mFnd (G0.2.1 0 30) (mFr (G0.2.1 0 30) 20 0) a0 a1) else G0.2.1 0 30) else G0.2.1 0 30)) := by
  have hS := h0.1
  have hO := op_make hS ht a0 a1
  refine ⟨_, w_L_makeOf hl Θ a0 a1 G (c_X11_make hl Θ a0 a1 G) hO.v (fun E G9 h9 => mem2 (hO.2 E G9 h9).1), mt_gen hO h0 (fun _ _ => gI_f) cd2 fun Y hY => ?_⟩
  have hC : (mC Y).2.1 0 30 = G0.2.1 0 30 := (mC_a Y (by decide)).trans hY
  by_cases c0 : (mHold (G0.2.1 0 30) a0 && mIn a1 0 (G0.2.1 0 30 0 - 1)) = true
  · rw [if_pos c0, if_pos c0]
    by_cases c1 : (!decide (mHo (G0.2.1 0 30) 20 0 0 = 20)) = true
    · rw [if_pos c1, if_pos c1]
      refine ⟨nI (mFr (Y.2.1 0 30) 20 0), mWr (mFnd (Y.2.1 0 30) (mFr (Y.2.1 0 30) 20 0) a0 a1) (mC Y), ?_, (Gh.refl Y).mC_.wr _, ?_, ?_⟩
      · try dsimp only
        try unfold mAdQ
        try unfold mQ3
        rw [hY, mg_t c0, mg_t c1]
        first | exact ⟨rfl, rfl⟩ | (refine ⟨?_, ?_⟩ <;> simp only [hY])
      · show (mWr (mFnd (Y.2.1 0 30) (mFr (Y.2.1 0 30) 20 0) a0 a1) (mC Y)).2.1 0 30 = _
        simp only [mUp, mWr, mAd, putA_same, hC, hY]
      · rw [if_pos (show (mWr (mFnd (Y.2.1 0 30) (mFr (Y.2.1 0 30) 20 0) a0 a1) (mC Y)).1 0 29 5 = 0 from mC_5 Y)]
        first | simp only [mUp, mWr, mAd, putA_same, hC, hY] | rfl
    · rw [if_neg c1, if_neg c1]
      refine ⟨0, ms 2 Y, ?_, (Gh.refl Y).ms_ _, hY, by rw [ms_5]; rfl⟩
      try dsimp only
      try unfold mAdQ
      try unfold mQ3
      rw [hY, mg_t c0]
      unfold mg
      rw [if_neg c1]
      exact ⟨rfl, rfl⟩
  · rw [if_neg c0, if_neg c0]
    refine ⟨0, ms 1 Y, ?_, (Gh.refl Y).ms_ _, hY, by rw [ms_5]; rfl⟩
    try dsimp only
    try unfold mAdQ
    try unfold mQ3
    rw [hY]
    unfold mg
    rw [if_neg c0]
    exact ⟨rfl, rfl⟩
theorem r_remove {l : Launch} (hl : l.stackTraces = false) (Θ : cTH) {G0 G : GS} {t : Nat} (h0 : Nx G0 G t) (ht : t < 2 ^ 20) (a0 : Int32) : CtR l yL_removeOf cL_removeOf 3 (some .int) [(0, 5, 6, 24), (0, 5, 10, 15)] rm_L_removeOf Θ [.ref (tR Θ 0 14), .int a0] G (pQ G0 (t + 1) (if (mHold (G0.2.1 0 30) a0) = true then (if (!(decide (a0 = 0) || decide (0 < mBls (G0.2.1 0 30) a0 20 0 0))) = true then (gI (mHo (mZk (G0.2.1 0 30) a0.toNatClampNeg 36) 20 0 0)) else -102) else -101) (if (mHold (G0.2.1 0 30) a0) = true then (if (!(decide (a0 = 0) || decide (0 < mBls (G0.2.1 0 30) a0 20 0 0))) = true then (mZk (G0.2.1 0 30) a0.toNatClampNeg 36) else G0.2.1 0 30) else G0.2.1 0 30)) := by
  have hS := h0.1
  have hO := op_remove hS ht a0
  refine ⟨_, w_L_removeOf hl Θ a0 G (c_X11_remove hl Θ a0 G) hO.v (fun E G9 h9 => mem2 (hO.2 E G9 h9).1), mt_gen hO h0 (fun _ _ => gI_f) cd2 fun Y hY => ?_⟩
  have hC : (mC Y).2.1 0 30 = G0.2.1 0 30 := (mC_a Y (by decide)).trans hY
  by_cases c0 : (mHold (G0.2.1 0 30) a0) = true
  · rw [if_pos c0, if_pos c0]
    by_cases c1 : (!(decide (a0 = 0) || decide (0 < mBls (G0.2.1 0 30) a0 20 0 0))) = true
    · rw [if_pos c1, if_pos c1]
      refine ⟨mHo (mZk (Y.2.1 0 30) a0.toNatClampNeg 36) 20 0 0, mWr (mZk (Y.2.1 0 30) a0.toNatClampNeg 36) (mC Y), ?_, (Gh.refl Y).mC_.wr _, ?_, ?_⟩
      · try dsimp only
        try unfold mAdQ
        try unfold mQ3
        rw [hY, mg_t c0, mg_t c1]
        first | exact ⟨rfl, rfl⟩ | (refine ⟨?_, ?_⟩ <;> simp only [hY])
      · show (mWr (mZk (Y.2.1 0 30) a0.toNatClampNeg 36) (mC Y)).2.1 0 30 = _
        simp only [mUp, mWr, mAd, putA_same, hC, hY]
      · rw [if_pos (show (mWr (mZk (Y.2.1 0 30) a0.toNatClampNeg 36) (mC Y)).1 0 29 5 = 0 from mC_5 Y)]
        first | simp only [mUp, mWr, mAd, putA_same, hC, hY] | rfl
    · rw [if_neg c1, if_neg c1]
      refine ⟨0, ms 2 Y, ?_, (Gh.refl Y).ms_ _, hY, by rw [ms_5]; rfl⟩
      try dsimp only
      try unfold mAdQ
      try unfold mQ3
      rw [hY, mg_t c0]
      unfold mg
      rw [if_neg c1]
      exact ⟨rfl, rfl⟩
  · rw [if_neg c0, if_neg c0]
    refine ⟨0, ms 1 Y, ?_, (Gh.refl Y).ms_ _, hY, by rw [ms_5]; rfl⟩
    try dsimp only
    try unfold mAdQ
    try unfold mQ3
    rw [hY]
    unfold mg
    rw [if_neg c0]
    exact ⟨rfl, rfl⟩
theorem r_move {l : Launch} (hl : l.stackTraces = false) (Θ : cTH) {G0 G : GS} {t : Nat} (h0 : Nx G0 G t) (ht : t < 2 ^ 20) (a0 : Int32) (a1 : Int32) : CtR l yL_moveOf cL_moveOf 4 (some .int) [(0, 6, 7, 24), (0, 6, 11, 15)] rm_L_moveOf Θ [.ref (tR Θ 0 14), .int a0, .int a1] G (pQ G0 (t + 1) (if (mHold (G0.2.1 0 30) a0 && mHold (G0.2.1 0 30) a1) = true then (if (!(decide (a0 = 0) || (decide (a1 = a0) || mBlw (G0.2.1 0 30) a1.toNatClampNeg a0))) = true then (gI (G0.2.1 0 30 (oA a0.toNatClampNeg 1))) else -102) else -101) (if (mHold (G0.2.1 0 30) a0 && mHold (G0.2.1 0 30) a1) = true then (if (!(decide (a0 = 0) || (decide (a1 = a0) || mBlw (G0.2.1 0 30) a1.toNatClampNeg a0))) = true then (upd (G0.2.1 0 30) (oA a0.toNatClampNeg 1) a1) else G0.2.1 0 30) else G0.2.1 0 30)) := by
  have hS := h0.1
  have hO := op_move hS ht a0 a1
  refine ⟨_, w_L_moveOf hl Θ a0 a1 G (c_X11_move hl Θ a0 a1 G) hO.v (fun E G9 h9 => mem2 (hO.2 E G9 h9).1), mt_gen hO h0 (fun _ _ => gI_f) cd2 fun Y hY => ?_⟩
  have hC : (mC Y).2.1 0 30 = G0.2.1 0 30 := (mC_a Y (by decide)).trans hY
  by_cases c0 : (mHold (G0.2.1 0 30) a0 && mHold (G0.2.1 0 30) a1) = true
  · rw [if_pos c0, if_pos c0]
    by_cases c1 : (!(decide (a0 = 0) || (decide (a1 = a0) || mBlw (G0.2.1 0 30) a1.toNatClampNeg a0))) = true
    · rw [if_pos c1, if_pos c1]
      refine ⟨(mC Y).2.1 0 30 (oA a0.toNatClampNeg 1), mUp (oA a0.toNatClampNeg 1) a1 (mC Y), ?_, (Gh.refl Y).mC_.up _ _, ?_, ?_⟩
      · try dsimp only
        try unfold mAdQ
        try unfold mQ3
        rw [hY, mg_t c0, mg_t c1]
        first | exact ⟨rfl, rfl⟩ | (refine ⟨?_, ?_⟩ <;> simp only [hY])
      · show (mUp (oA a0.toNatClampNeg 1) a1 (mC Y)).2.1 0 30 = _
        simp only [mUp, mWr, mAd, putA_same, hC, hY]
      · rw [if_pos (show (mUp (oA a0.toNatClampNeg 1) a1 (mC Y)).1 0 29 5 = 0 from mC_5 Y)]
        first | simp only [mUp, mWr, mAd, putA_same, hC, hY] | rfl
    · rw [if_neg c1, if_neg c1]
      refine ⟨0, ms 2 Y, ?_, (Gh.refl Y).ms_ _, hY, by rw [ms_5]; rfl⟩
      try dsimp only
      try unfold mAdQ
      try unfold mQ3
      rw [hY, mg_t c0]
      unfold mg
      rw [if_neg c1]
      exact ⟨rfl, rfl⟩
  · rw [if_neg c0, if_neg c0]
    refine ⟨0, ms 1 Y, ?_, (Gh.refl Y).ms_ _, hY, by rw [ms_5]; rfl⟩
    try dsimp only
    try unfold mAdQ
    try unfold mQ3
    rw [hY]
    unfold mg
    rw [if_neg c0]
    exact ⟨rfl, rfl⟩
theorem r_addForUser {l : Launch} (hl : l.stackTraces = false) (Θ : cTH) {G0 G : GS} {t : Nat} (h0 : Nx G0 G t) (ht : t < 2 ^ 20) (a0 : Int32) (a1 : Int32) (a2 : Int32) (a3 : Bool) (a4 : Bool) : CtR l yL_addForUserOf cL_addForUserOf 7 (some .int) [(0, 11, 12, 24), (0, 11, 17, 51), (0, 11, 22, 15)] rm_L_addForUserOf Θ [.ref (tR Θ 0 14), .int a0, .int a1, .int a2, .int (b2i a3), .int (b2i a4)] G (pQ G0 (t + 1) (if (mThr (G0.2.1 0 30) a0 0 a1) = true then (if (mIn a2 1 15) = true then (if (!decide (G0.2.1 0 30 (oA a0.toNatClampNeg 5) = 6)) = true then (gI (nI (mCt (G0.2.1 0 30) a0.toNatClampNeg + 1))) else -103) else -102) else -101) (if (mThr (G0.2.1 0 30) a0 0 a1) = true then (if (mIn a2 1 15) = true then (if (!decide (G0.2.1 0 30 (oA a0.toNatClampNeg 5) = 6)) = true then (mWrt (upd (G0.2.1 0 30) (oA a0.toNatClampNeg 5) (nI (mCt (G0.2.1 0 30) a0.toNatClampNeg + 1))) a0.toNatClampNeg (mCt (G0.2.1 0 30) a0.toNatClampNeg) 0 a1 a2 a3 a4) else G0.2.1 0 30) else G0.2.1 0 30) else G0.2.1 0 30)) := by
  have hS := h0.1
  have hO := op_addForUser hS ht a0 a1 a2 a3 a4
  refine ⟨_, w_L_addForUserOf hl Θ a0 a1 a2 (b2i a3) (b2i a4) G (c_X11_addForUser hl Θ a0 a1 a2 a3 a4 G) hO.v (fun E G9 h9 => mem3 (hO.2 E G9 h9).1), mt_gen hO h0 (fun _ _ => gI_f) cd3 fun Y hY => ?_⟩
  have hC : (mC Y).2.1 0 30 = G0.2.1 0 30 := (mC_a Y (by decide)).trans hY
  by_cases c0 : (mThr (G0.2.1 0 30) a0 0 a1) = true
  · rw [if_pos c0, if_pos c0]
    by_cases c1 : (mIn a2 1 15) = true
    · rw [if_pos c1, if_pos c1]
      by_cases c2 : (!decide (G0.2.1 0 30 (oA a0.toNatClampNeg 5) = 6)) = true
      · rw [if_pos c2, if_pos c2]
        refine ⟨nI (mCt (Y.2.1 0 30) a0.toNatClampNeg + 1), mAd a0.toNatClampNeg 0 a1 a2 a3 a4 Y, ?_, (Gh.refl Y).mC_.wr _, ?_, ?_⟩
        · try dsimp only
          try unfold mAdQ
          try unfold mQ3
          rw [hY, mg_t c0, mg_t c1, mg_t c2]
          first | exact ⟨rfl, rfl⟩ | (refine ⟨?_, ?_⟩ <;> simp only [hY])
        · show (mAd a0.toNatClampNeg 0 a1 a2 a3 a4 Y).2.1 0 30 = _
          simp only [mUp, mWr, mAd, putA_same, hC, hY]
        · rw [if_pos (show (mAd a0.toNatClampNeg 0 a1 a2 a3 a4 Y).1 0 29 5 = 0 from mC_5 Y)]
          first | simp only [mUp, mWr, mAd, putA_same, hC, hY] | rfl
      · rw [if_neg c2, if_neg c2]
        refine ⟨0, ms 3 Y, ?_, (Gh.refl Y).ms_ _, hY, by rw [ms_5]; rfl⟩
        try dsimp only
        try unfold mAdQ
        try unfold mQ3
        rw [hY, mg_t c0, mg_t c1]
        unfold mg
        rw [if_neg c2]
        exact ⟨rfl, rfl⟩
    · rw [if_neg c1, if_neg c1]
      refine ⟨0, ms 2 Y, ?_, (Gh.refl Y).ms_ _, hY, by rw [ms_5]; rfl⟩
      try dsimp only
      try unfold mAdQ
      try unfold mQ3
      rw [hY, mg_t c0]
      unfold mg
      rw [if_neg c1]
      exact ⟨rfl, rfl⟩
  · rw [if_neg c0, if_neg c0]
    refine ⟨0, ms 1 Y, ?_, (Gh.refl Y).ms_ _, hY, by rw [ms_5]; rfl⟩
    try dsimp only
    try unfold mAdQ
    try unfold mQ3
    rw [hY]
    unfold mg
    rw [if_neg c0]
    exact ⟨rfl, rfl⟩
theorem r_addForGroup {l : Launch} (hl : l.stackTraces = false) (Θ : cTH) {G0 G : GS} {t : Nat} (h0 : Nx G0 G t) (ht : t < 2 ^ 20) (a0 : Int32) (a1 : Int32) (a2 : Int32) (a3 : Bool) (a4 : Bool) : CtR l yL_addForGroupOf cL_addForGroupOf 7 (some .int) [(0, 11, 12, 24), (0, 11, 17, 51), (0, 11, 22, 15)] rm_L_addForGroupOf Θ [.ref (tR Θ 0 14), .int a0, .int a1, .int a2, .int (b2i a3), .int (b2i a4)] G (pQ G0 (t + 1) (if (mThr (G0.2.1 0 30) a0 1 a1) = true then (if (mIn a2 1 15) = true then (if (!decide (G0.2.1 0 30 (oA a0.toNatClampNeg 5) = 6)) = true then (gI (nI (mCt (G0.2.1 0 30) a0.toNatClampNeg + 1))) else -103) else -102) else -101) (if (mThr (G0.2.1 0 30) a0 1 a1) = true then (if (mIn a2 1 15) = true then (if (!decide (G0.2.1 0 30 (oA a0.toNatClampNeg 5) = 6)) = true then (mWrt (upd (G0.2.1 0 30) (oA a0.toNatClampNeg 5) (nI (mCt (G0.2.1 0 30) a0.toNatClampNeg + 1))) a0.toNatClampNeg (mCt (G0.2.1 0 30) a0.toNatClampNeg) 1 a1 a2 a3 a4) else G0.2.1 0 30) else G0.2.1 0 30) else G0.2.1 0 30)) := by
  have hS := h0.1
  have hO := op_addForGroup hS ht a0 a1 a2 a3 a4
  refine ⟨_, w_L_addForGroupOf hl Θ a0 a1 a2 (b2i a3) (b2i a4) G (c_X11_addForGroup hl Θ a0 a1 a2 a3 a4 G) hO.v (fun E G9 h9 => mem3 (hO.2 E G9 h9).1), mt_gen hO h0 (fun _ _ => gI_f) cd3 fun Y hY => ?_⟩
  have hC : (mC Y).2.1 0 30 = G0.2.1 0 30 := (mC_a Y (by decide)).trans hY
  by_cases c0 : (mThr (G0.2.1 0 30) a0 1 a1) = true
  · rw [if_pos c0, if_pos c0]
    by_cases c1 : (mIn a2 1 15) = true
    · rw [if_pos c1, if_pos c1]
      by_cases c2 : (!decide (G0.2.1 0 30 (oA a0.toNatClampNeg 5) = 6)) = true
      · rw [if_pos c2, if_pos c2]
        refine ⟨nI (mCt (Y.2.1 0 30) a0.toNatClampNeg + 1), mAd a0.toNatClampNeg 1 a1 a2 a3 a4 Y, ?_, (Gh.refl Y).mC_.wr _, ?_, ?_⟩
        · try dsimp only
          try unfold mAdQ
          try unfold mQ3
          rw [hY, mg_t c0, mg_t c1, mg_t c2]
          first | exact ⟨rfl, rfl⟩ | (refine ⟨?_, ?_⟩ <;> simp only [hY])
        · show (mAd a0.toNatClampNeg 1 a1 a2 a3 a4 Y).2.1 0 30 = _
          simp only [mUp, mWr, mAd, putA_same, hC, hY]
        · rw [if_pos (show (mAd a0.toNatClampNeg 1 a1 a2 a3 a4 Y).1 0 29 5 = 0 from mC_5 Y)]
          first | simp only [mUp, mWr, mAd, putA_same, hC, hY] | rfl
      · rw [if_neg c2, if_neg c2]
        refine ⟨0, ms 3 Y, ?_, (Gh.refl Y).ms_ _, hY, by rw [ms_5]; rfl⟩
        try dsimp only
        try unfold mAdQ
        try unfold mQ3
        rw [hY, mg_t c0, mg_t c1]
        unfold mg
        rw [if_neg c2]
        exact ⟨rfl, rfl⟩
    · rw [if_neg c1, if_neg c1]
      refine ⟨0, ms 2 Y, ?_, (Gh.refl Y).ms_ _, hY, by rw [ms_5]; rfl⟩
      try dsimp only
      try unfold mAdQ
      try unfold mQ3
      rw [hY, mg_t c0]
      unfold mg
      rw [if_neg c1]
      exact ⟨rfl, rfl⟩
  · rw [if_neg c0, if_neg c0]
    refine ⟨0, ms 1 Y, ?_, (Gh.refl Y).ms_ _, hY, by rw [ms_5]; rfl⟩
    try dsimp only
    try unfold mAdQ
    try unfold mQ3
    rw [hY]
    unfold mg
    rw [if_neg c0]
    exact ⟨rfl, rfl⟩
theorem r_addForOwner {l : Launch} (hl : l.stackTraces = false) (Θ : cTH) {G0 G : GS} {t : Nat} (h0 : Nx G0 G t) (ht : t < 2 ^ 20) (a0 : Int32) (a1 : Int32) (a2 : Bool) (a3 : Bool) : CtR l yL_addForOwnerOf cL_addForOwnerOf 6 (some .int) [(0, 9, 10, 24), (0, 9, 15, 51), (0, 9, 20, 15)] rm_L_addForOwnerOf Θ [.ref (tR Θ 0 14), .int a0, .int a1, .int (b2i a2), .int (b2i a3)] G (pQ G0 (t + 1) (if (mThr (G0.2.1 0 30) a0 2 0) = true then (if (mIn a1 1 15) = true then (if (!decide (G0.2.1 0 30 (oA a0.toNatClampNeg 5) = 6)) = true then (gI (nI (mCt (G0.2.1 0 30) a0.toNatClampNeg + 1))) else -103) else -102) else -101) (if (mThr (G0.2.1 0 30) a0 2 0) = true then (if (mIn a1 1 15) = true then (if (!decide (G0.2.1 0 30 (oA a0.toNatClampNeg 5) = 6)) = true then (mWrt (upd (G0.2.1 0 30) (oA a0.toNatClampNeg 5) (nI (mCt (G0.2.1 0 30) a0.toNatClampNeg + 1))) a0.toNatClampNeg (mCt (G0.2.1 0 30) a0.toNatClampNeg) 2 0 a1 a2 a3) else G0.2.1 0 30) else G0.2.1 0 30) else G0.2.1 0 30)) := by
  have hS := h0.1
  have hO := op_addForOwner hS ht a0 a1 a2 a3
  refine ⟨_, w_L_addForOwnerOf hl Θ a0 a1 (b2i a2) (b2i a3) G (c_X11_addForOwner hl Θ a0 a1 a2 a3 G) hO.v (fun E G9 h9 => mem3 (hO.2 E G9 h9).1), mt_gen hO h0 (fun _ _ => gI_f) cd3 fun Y hY => ?_⟩
  have hC : (mC Y).2.1 0 30 = G0.2.1 0 30 := (mC_a Y (by decide)).trans hY
  by_cases c0 : (mThr (G0.2.1 0 30) a0 2 0) = true
  · rw [if_pos c0, if_pos c0]
    by_cases c1 : (mIn a1 1 15) = true
    · rw [if_pos c1, if_pos c1]
      by_cases c2 : (!decide (G0.2.1 0 30 (oA a0.toNatClampNeg 5) = 6)) = true
      · rw [if_pos c2, if_pos c2]
        refine ⟨nI (mCt (Y.2.1 0 30) a0.toNatClampNeg + 1), mAd a0.toNatClampNeg 2 0 a1 a2 a3 Y, ?_, (Gh.refl Y).mC_.wr _, ?_, ?_⟩
        · try dsimp only
          try unfold mAdQ
          try unfold mQ3
          rw [hY, mg_t c0, mg_t c1, mg_t c2]
          first | exact ⟨rfl, rfl⟩ | (refine ⟨?_, ?_⟩ <;> simp only [hY])
        · show (mAd a0.toNatClampNeg 2 0 a1 a2 a3 Y).2.1 0 30 = _
          simp only [mUp, mWr, mAd, putA_same, hC, hY]
        · rw [if_pos (show (mAd a0.toNatClampNeg 2 0 a1 a2 a3 Y).1 0 29 5 = 0 from mC_5 Y)]
          first | simp only [mUp, mWr, mAd, putA_same, hC, hY] | rfl
      · rw [if_neg c2, if_neg c2]
        refine ⟨0, ms 3 Y, ?_, (Gh.refl Y).ms_ _, hY, by rw [ms_5]; rfl⟩
        try dsimp only
        try unfold mAdQ
        try unfold mQ3
        rw [hY, mg_t c0, mg_t c1]
        unfold mg
        rw [if_neg c2]
        exact ⟨rfl, rfl⟩
    · rw [if_neg c1, if_neg c1]
      refine ⟨0, ms 2 Y, ?_, (Gh.refl Y).ms_ _, hY, by rw [ms_5]; rfl⟩
      try dsimp only
      try unfold mAdQ
      try unfold mQ3
      rw [hY, mg_t c0]
      unfold mg
      rw [if_neg c1]
      exact ⟨rfl, rfl⟩
  · rw [if_neg c0, if_neg c0]
    refine ⟨0, ms 1 Y, ?_, (Gh.refl Y).ms_ _, hY, by rw [ms_5]; rfl⟩
    try dsimp only
    try unfold mAdQ
    try unfold mQ3
    rw [hY]
    unfold mg
    rw [if_neg c0]
    exact ⟨rfl, rfl⟩
theorem r_addForAll {l : Launch} (hl : l.stackTraces = false) (Θ : cTH) {G0 G : GS} {t : Nat} (h0 : Nx G0 G t) (ht : t < 2 ^ 20) (a0 : Int32) (a1 : Int32) (a2 : Bool) (a3 : Bool) : CtR l yL_addForAllOf cL_addForAllOf 6 (some .int) [(0, 9, 10, 24), (0, 9, 15, 51), (0, 9, 20, 15)] rm_L_addForAllOf Θ [.ref (tR Θ 0 14), .int a0, .int a1, .int (b2i a2), .int (b2i a3)] G (pQ G0 (t + 1) (if (mThr (G0.2.1 0 30) a0 3 0) = true then (if (mIn a1 1 15) = true then (if (!decide (G0.2.1 0 30 (oA a0.toNatClampNeg 5) = 6)) = true then (gI (nI (mCt (G0.2.1 0 30) a0.toNatClampNeg + 1))) else -103) else -102) else -101) (if (mThr (G0.2.1 0 30) a0 3 0) = true then (if (mIn a1 1 15) = true then (if (!decide (G0.2.1 0 30 (oA a0.toNatClampNeg 5) = 6)) = true then (mWrt (upd (G0.2.1 0 30) (oA a0.toNatClampNeg 5) (nI (mCt (G0.2.1 0 30) a0.toNatClampNeg + 1))) a0.toNatClampNeg (mCt (G0.2.1 0 30) a0.toNatClampNeg) 3 0 a1 a2 a3) else G0.2.1 0 30) else G0.2.1 0 30) else G0.2.1 0 30)) := by
  have hS := h0.1
  have hO := op_addForAll hS ht a0 a1 a2 a3
  refine ⟨_, w_L_addForAllOf hl Θ a0 a1 (b2i a2) (b2i a3) G (c_X11_addForAll hl Θ a0 a1 a2 a3 G) hO.v (fun E G9 h9 => mem3 (hO.2 E G9 h9).1), mt_gen hO h0 (fun _ _ => gI_f) cd3 fun Y hY => ?_⟩
  have hC : (mC Y).2.1 0 30 = G0.2.1 0 30 := (mC_a Y (by decide)).trans hY
  by_cases c0 : (mThr (G0.2.1 0 30) a0 3 0) = true
  · rw [if_pos c0, if_pos c0]
    by_cases c1 : (mIn a1 1 15) = true
    · rw [if_pos c1, if_pos c1]
      by_cases c2 : (!decide (G0.2.1 0 30 (oA a0.toNatClampNeg 5) = 6)) = true
      · rw [if_pos c2, if_pos c2]
        refine ⟨nI (mCt (Y.2.1 0 30) a0.toNatClampNeg + 1), mAd a0.toNatClampNeg 3 0 a1 a2 a3 Y, ?_, (Gh.refl Y).mC_.wr _, ?_, ?_⟩
        · try dsimp only
          try unfold mAdQ
          try unfold mQ3
          rw [hY, mg_t c0, mg_t c1, mg_t c2]
          first | exact ⟨rfl, rfl⟩ | (refine ⟨?_, ?_⟩ <;> simp only [hY])
        · show (mAd a0.toNatClampNeg 3 0 a1 a2 a3 Y).2.1 0 30 = _
          simp only [mUp, mWr, mAd, putA_same, hC, hY]
        · rw [if_pos (show (mAd a0.toNatClampNeg 3 0 a1 a2 a3 Y).1 0 29 5 = 0 from mC_5 Y)]
          first | simp only [mUp, mWr, mAd, putA_same, hC, hY] | rfl
      · rw [if_neg c2, if_neg c2]
        refine ⟨0, ms 3 Y, ?_, (Gh.refl Y).ms_ _, hY, by rw [ms_5]; rfl⟩
        try dsimp only
        try unfold mAdQ
        try unfold mQ3
        rw [hY, mg_t c0, mg_t c1]
        unfold mg
        rw [if_neg c2]
        exact ⟨rfl, rfl⟩
    · rw [if_neg c1, if_neg c1]
      refine ⟨0, ms 2 Y, ?_, (Gh.refl Y).ms_ _, hY, by rw [ms_5]; rfl⟩
      try dsimp only
      try unfold mAdQ
      try unfold mQ3
      rw [hY, mg_t c0]
      unfold mg
      rw [if_neg c1]
      exact ⟨rfl, rfl⟩
  · rw [if_neg c0, if_neg c0]
    refine ⟨0, ms 1 Y, ?_, (Gh.refl Y).ms_ _, hY, by rw [ms_5]; rfl⟩
    try dsimp only
    try unfold mAdQ
    try unfold mQ3
    rw [hY]
    unfold mg
    rw [if_neg c0]
    exact ⟨rfl, rfl⟩
theorem r_removeEntry {l : Launch} (hl : l.stackTraces = false) (Θ : cTH) {G0 G : GS} {t : Nat} (h0 : Nx G0 G t) (ht : t < 2 ^ 20) (a0 : Int32) (a1 : Int32) : CtR l yL_removeEntryOf cL_removeEntryOf 4 (some .int) [(0, 6, 7, 24)] rm_L_removeEntryOf Θ [.ref (tR Θ 0 14), .int a0, .int a1] G (pQ G0 (t + 1) (if (mEnt (G0.2.1 0 30) a0 a1) = true then (gI (nI (mCt (G0.2.1 0 30) a0.toNatClampNeg - 1))) else -101) (if (mEnt (G0.2.1 0 30) a0 a1) = true then (mTo (G0.2.1 0 30) a0.toNatClampNeg a1.toNatClampNeg (mCt (G0.2.1 0 30) a0.toNatClampNeg)) else G0.2.1 0 30)) := by
  have hS := h0.1
  have hO := op_removeEntry hS ht a0 a1
  refine ⟨_, w_L_removeEntryOf hl Θ a0 a1 G (c_X11_removeEntry hl Θ a0 a1 G) hO.v (fun E G9 h9 => mem1 (hO.2 E G9 h9).1), mt_gen hO h0 (fun _ _ => gI_f) cd1 fun Y hY => ?_⟩
  have hC : (mC Y).2.1 0 30 = G0.2.1 0 30 := (mC_a Y (by decide)).trans hY
  by_cases c0 : (mEnt (G0.2.1 0 30) a0 a1) = true
  · rw [if_pos c0, if_pos c0]
    refine ⟨nI (mCt (Y.2.1 0 30) a0.toNatClampNeg - 1), mWr (mTo (Y.2.1 0 30) a0.toNatClampNeg a1.toNatClampNeg (mCt (Y.2.1 0 30) a0.toNatClampNeg)) (mC Y), ?_, (Gh.refl Y).mC_.wr _, ?_, ?_⟩
    · try dsimp only
      try unfold mAdQ
      try unfold mQ3
      rw [hY, mg_t c0]
      first | exact ⟨rfl, rfl⟩ | (refine ⟨?_, ?_⟩ <;> simp only [hY])
    · show (mWr (mTo (Y.2.1 0 30) a0.toNatClampNeg a1.toNatClampNeg (mCt (Y.2.1 0 30) a0.toNatClampNeg)) (mC Y)).2.1 0 30 = _
      simp only [mUp, mWr, mAd, putA_same, hC, hY]
    · rw [if_pos (show (mWr (mTo (Y.2.1 0 30) a0.toNatClampNeg a1.toNatClampNeg (mCt (Y.2.1 0 30) a0.toNatClampNeg)) (mC Y)).1 0 29 5 = 0 from mC_5 Y)]
      first | simp only [mUp, mWr, mAd, putA_same, hC, hY] | rfl
  · rw [if_neg c0, if_neg c0]
    refine ⟨0, ms 1 Y, ?_, (Gh.refl Y).ms_ _, hY, by rw [ms_5]; rfl⟩
    try dsimp only
    try unfold mAdQ
    try unfold mQ3
    rw [hY]
    unfold mg
    rw [if_neg c0]
    exact ⟨rfl, rfl⟩
theorem r_ask {l : Launch} (hl : l.stackTraces = false) (Θ : cTH) {G0 G : GS} {t : Nat} (h0 : Nx G0 G t) (ht : t < 2 ^ 20) (a0 : Int32) (a1 : Int32) (a2 : Int32) : CtR l yL_askOf cL_askOf 5 (some .int) [(0, 15, 16, 24), (0, 15, 21, 51)] rm_L_askOf Θ [.ref (tR Θ 0 14), .int a0, .int a1, .int a2] G (pQ G0 (t + 1) (if (mIn a0 0 (G0.2.1 0 30 0 - 1) && mHold (G0.2.1 0 30) a1) = true then (if (mIn a2 0 3) = true then (gZ (b2i (mAl (G0.2.1 0 30) a0 a1.toNatClampNeg a2))) else -102) else -101) (if (mIn a0 0 (G0.2.1 0 30 0 - 1) && mHold (G0.2.1 0 30) a1) = true then (if (mIn a2 0 3) = true then (mLog (G0.2.1 0 30) a0 a1 (mAl (G0.2.1 0 30) a0 a1.toNatClampNeg a2)) else G0.2.1 0 30) else G0.2.1 0 30)) := by
  have hS := h0.1
  have hO := op_ask hS ht a0 a1 a2
  refine ⟨_, w_L_askOf hl Θ a0 a1 a2 G (c_X11_ask hl Θ a0 a1 a2 G hS.1.gOk_) hO.v (fun E G9 h9 => mem2 (hO.2 E G9 h9).1), mt_gen hO h0 (fun _ _ => gZ_f) cd2 fun Y hY => ?_⟩
  have hC : (mC Y).2.1 0 30 = G0.2.1 0 30 := (mC_a Y (by decide)).trans hY
  by_cases c0 : (mIn a0 0 (G0.2.1 0 30 0 - 1) && mHold (G0.2.1 0 30) a1) = true
  · rw [if_pos c0, if_pos c0]
    by_cases c1 : (mIn a2 0 3) = true
    · rw [if_pos c1, if_pos c1]
      refine ⟨b2i (mAl (Y.2.1 0 30) a0 a1.toNatClampNeg a2), mWr (mLog (Y.2.1 0 30) a0 a1 (mAl (Y.2.1 0 30) a0 a1.toNatClampNeg a2)) (mC Y), ?_, (Gh.refl Y).mC_.wr _, ?_, ?_⟩
      · try dsimp only
        try unfold mAdQ
        try unfold mQ3
        rw [hY, mg_t c0, mg_t c1]
        first | exact ⟨rfl, rfl⟩ | (refine ⟨?_, ?_⟩ <;> simp only [hY])
      · show (mWr (mLog (Y.2.1 0 30) a0 a1 (mAl (Y.2.1 0 30) a0 a1.toNatClampNeg a2)) (mC Y)).2.1 0 30 = _
        simp only [mUp, mWr, mAd, putA_same, hC, hY]
      · rw [if_pos (show (mWr (mLog (Y.2.1 0 30) a0 a1 (mAl (Y.2.1 0 30) a0 a1.toNatClampNeg a2)) (mC Y)).1 0 29 5 = 0 from mC_5 Y)]
        first | simp only [mUp, mWr, mAd, putA_same, hC, hY] | rfl
    · rw [if_neg c1, if_neg c1]
      refine ⟨0, ms 2 Y, ?_, (Gh.refl Y).ms_ _, hY, by rw [ms_5]; rfl⟩
      try dsimp only
      try unfold mAdQ
      try unfold mQ3
      rw [hY, mg_t c0]
      unfold mg
      rw [if_neg c1]
      exact ⟨rfl, rfl⟩
  · rw [if_neg c0, if_neg c0]
    refine ⟨0, ms 1 Y, ?_, (Gh.refl Y).ms_ _, hY, by rw [ms_5]; rfl⟩
    try dsimp only
    try unfold mAdQ
    try unfold mQ3
    rw [hY]
    unfold mg
    rw [if_neg c0]
    exact ⟨rfl, rfl⟩
theorem r_share {l : Launch} (hl : l.stackTraces = false) (Θ : cTH) {G0 G : GS} {t : Nat} (h0 : Nx G0 G t) (ht : t < 2 ^ 20) (a0 : Int32) (a1 : Int32) (a2 : Int32) (a3 : Int32) : CtR l yL_shareOf cL_shareOf 6 (some .int) [(0, 9, 10, 24), (0, 9, 15, 51), (0, 9, 20, 15)] rm_L_shareOf Θ [.ref (tR Θ 0 14), .int a0, .int a1, .int a2, .int a3] G (pQ G0 (t + 1) (if (mIn a0 0 (G0.2.1 0 30 0 - 1) && (mHold (G0.2.1 0 30) a1 && mIn a2 0 (G0.2.1 0 30 0 - 1))) = true then (if (mIn a3 1 15) = true then (if (!(!decide (mRg (G0.2.1 0 30) a0 a1.toNatClampNeg &&& (a3 ||| 8) = a3 ||| 8) || decide (G0.2.1 0 30 (oA a1.toNatClampNeg 5) = 6))) = true then (gI (mRg (mSh (G0.2.1 0 30) a1.toNatClampNeg a2 a3) a2 a1.toNatClampNeg)) else -103) else -102) else -101) (if (mIn a0 0 (G0.2.1 0 30 0 - 1) && (mHold (G0.2.1 0 30) a1 && mIn a2 0 (G0.2.1 0 30 0 - 1))) = true then (if (mIn a3 1 15) = true then (if (!(!decide (mRg (G0.2.1 0 30) a0 a1.toNatClampNeg &&& (a3 ||| 8) = a3 ||| 8) || decide (G0.2.1 0 30 (oA a1.toNatClampNeg 5) = 6))) = true then (mSh (G0.2.1 0 30) a1.toNatClampNeg a2 a3) else G0.2.1 0 30) else G0.2.1 0 30) else G0.2.1 0 30)) := by
  have hS := h0.1
  have hO := op_share hS ht a0 a1 a2 a3
  refine ⟨_, w_L_shareOf hl Θ a0 a1 a2 a3 G (c_X11_share hl Θ a0 a1 a2 a3 G hS.1.gOk_) hO.v (fun E G9 h9 => mem3 (hO.2 E G9 h9).1), mt_gen hO h0 (fun _ _ => gI_f) cd3 fun Y hY => ?_⟩
  have hC : (mC Y).2.1 0 30 = G0.2.1 0 30 := (mC_a Y (by decide)).trans hY
  by_cases c0 : (mIn a0 0 (G0.2.1 0 30 0 - 1) && (mHold (G0.2.1 0 30) a1 && mIn a2 0 (G0.2.1 0 30 0 - 1))) = true
  · rw [if_pos c0, if_pos c0]
    by_cases c1 : (mIn a3 1 15) = true
    · rw [if_pos c1, if_pos c1]
      by_cases c2 : (!(!decide (mRg (G0.2.1 0 30) a0 a1.toNatClampNeg &&& (a3 ||| 8) = a3 ||| 8) || decide (G0.2.1 0 30 (oA a1.toNatClampNeg 5) = 6))) = true
      · rw [if_pos c2, if_pos c2]
        refine ⟨mRg (mSh (Y.2.1 0 30) a1.toNatClampNeg a2 a3) a2 a1.toNatClampNeg, mWr (mSh (Y.2.1 0 30) a1.toNatClampNeg a2 a3) (mC Y), ?_, (Gh.refl Y).mC_.wr _, ?_, ?_⟩
        · try dsimp only
          try unfold mAdQ
          try unfold mQ3
          rw [hY, mg_t c0, mg_t c1, mg_t c2]
          first | exact ⟨rfl, rfl⟩ | (refine ⟨?_, ?_⟩ <;> simp only [hY])
        · show (mWr (mSh (Y.2.1 0 30) a1.toNatClampNeg a2 a3) (mC Y)).2.1 0 30 = _
          simp only [mUp, mWr, mAd, putA_same, hC, hY]
        · rw [if_pos (show (mWr (mSh (Y.2.1 0 30) a1.toNatClampNeg a2 a3) (mC Y)).1 0 29 5 = 0 from mC_5 Y)]
          first | simp only [mUp, mWr, mAd, putA_same, hC, hY] | rfl
      · rw [if_neg c2, if_neg c2]
        refine ⟨0, ms 3 Y, ?_, (Gh.refl Y).ms_ _, hY, by rw [ms_5]; rfl⟩
        try dsimp only
        try unfold mAdQ
        try unfold mQ3
        rw [hY, mg_t c0, mg_t c1]
        unfold mg
        rw [if_neg c2]
        exact ⟨rfl, rfl⟩
    · rw [if_neg c1, if_neg c1]
      refine ⟨0, ms 2 Y, ?_, (Gh.refl Y).ms_ _, hY, by rw [ms_5]; rfl⟩
      try dsimp only
      try unfold mAdQ
      try unfold mQ3
      rw [hY, mg_t c0]
      unfold mg
      rw [if_neg c1]
      exact ⟨rfl, rfl⟩
  · rw [if_neg c0, if_neg c0]
    refine ⟨0, ms 1 Y, ?_, (Gh.refl Y).ms_ _, hY, by rw [ms_5]; rfl⟩
    try dsimp only
    try unfold mAdQ
    try unfold mQ3
    rw [hY]
    unfold mg
    rw [if_neg c0]
    exact ⟨rfl, rfl⟩
theorem r_moveEntry {l : Launch} (hl : l.stackTraces = false) (Θ : cTH) {G0 G : GS} {t : Nat} (h0 : Nx G0 G t) (ht : t < 2 ^ 20) (a0 : Int32) (a1 : Int32) (a2 : Int32) : CtR l yL_moveEntryOf cL_moveEntryOf 5 (some .int) [(0, 7, 8, 24)] rm_L_moveEntryOf Θ [.ref (tR Θ 0 14), .int a0, .int a1, .int a2] G (pQ G0 (t + 1) (if (mEnt (G0.2.1 0 30) a0 a1 && mEnt (G0.2.1 0 30) a0 a2) = true then (gI (mUl (mMv (G0.2.1 0 30) (G0.2.1 0 30) a0.toNatClampNeg a1.toNatClampNeg a2.toNatClampNeg) (mNt (G0.2.1 0 30)) 240 0 0)) else -101) (if (mEnt (G0.2.1 0 30) a0 a1 && mEnt (G0.2.1 0 30) a0 a2) = true then (mMv (G0.2.1 0 30) (G0.2.1 0 30) a0.toNatClampNeg a1.toNatClampNeg a2.toNatClampNeg) else G0.2.1 0 30)) := by
  have hS := h0.1
  have hO := op_moveEntry hS ht a0 a1 a2
  refine ⟨_, w_L_moveEntryOf hl Θ a0 a1 a2 G (c_X11_moveEntry hl Θ a0 a1 a2 G hS.1.gOk_) hO.v (fun E G9 h9 => mem1 (hO.2 E G9 h9).1), mt_gen hO h0 (fun _ _ => gI_f) cd1 fun Y hY => ?_⟩
  have hC : (mC Y).2.1 0 30 = G0.2.1 0 30 := (mC_a Y (by decide)).trans hY
  by_cases c0 : (mEnt (G0.2.1 0 30) a0 a1 && mEnt (G0.2.1 0 30) a0 a2) = true
  · rw [if_pos c0, if_pos c0]
    refine ⟨mUl (mMv (Y.2.1 0 30) (Y.2.1 0 36) a0.toNatClampNeg a1.toNatClampNeg a2.toNatClampNeg) (mNtK (Y.2.1 0 30) (Y.2.1 0 35) 240) 240 0 0, mWr (mMv (Y.2.1 0 30) (Y.2.1 0 36) a0.toNatClampNeg a1.toNatClampNeg a2.toNatClampNeg) (mKp a0.toNatClampNeg a1.toNatClampNeg (mNo (mC Y))), ?_, ((((Gh.refl Y).mC_.a (o := 35) (by decide)).a (o := 36) (by decide)).wr _), ?_, ?_⟩
    · try dsimp only
      try unfold mAdQ
      try unfold mQ3
      rw [hY, mg_t c0]
      first | exact ⟨rfl, rfl⟩ | (refine ⟨?_, ?_⟩ <;> simp only [hY])
    · show (mWr (mMv (Y.2.1 0 30) (Y.2.1 0 36) a0.toNatClampNeg a1.toNatClampNeg a2.toNatClampNeg) (mKp a0.toNatClampNeg a1.toNatClampNeg (mNo (mC Y)))).2.1 0 30 = _
      rw [mWr, putA_same, mMv_old, hY]
    · rw [if_pos (show (mWr (mMv (Y.2.1 0 30) (Y.2.1 0 36) a0.toNatClampNeg a1.toNatClampNeg a2.toNatClampNeg) (mKp a0.toNatClampNeg a1.toNatClampNeg (mNo (mC Y)))).1 0 29 5 = 0 from mC_5 Y)]
      rw [mMv_old (Y.2.1 0 30) (Y.2.1 0 36), mUl_nt, hY]
  · rw [if_neg c0, if_neg c0]
    refine ⟨0, ms 1 Y, ?_, (Gh.refl Y).ms_ _, hY, by rw [ms_5]; rfl⟩
    try dsimp only
    try unfold mAdQ
    try unfold mQ3
    rw [hY]
    unfold mg
    rw [if_neg c0]
    exact ⟨rfl, rfl⟩
theorem r_isNeedless0 {l : Launch} (hl : l.stackTraces = false) (Θ : cTH) {G0 G : GS} {t : Nat} (h0 : Nx G0 G t) (ht : t < 2 ^ 20) (a0 : Int32) (a1 : Int32) : CtR l yL_isNeedlessOf cL_isNeedlessOf 4 (some .int) [(0, 14, 15, 24)] rm_L_isNeedlessOf Θ [.ref (tR Θ 0 14), .int a0, .int a1] G (pQ G0 (t + 1) (if (mEnt (G0.2.1 0 30) a0 a1) = true then (gZ (b2i (decide (mUl (mTo (G0.2.1 0 30) a0.toNatClampNeg a1.toNatClampNeg (mCt (G0.2.1 0 30) a0.toNatClampNeg)) (mNt (G0.2.1 0 30)) 240 0 0 = 0)))) else -101) (if (mEnt (G0.2.1 0 30) a0 a1) = true then (mMv (G0.2.1 0 30) (G0.2.1 0 30) a0.toNatClampNeg a1.toNatClampNeg a1.toNatClampNeg) else G0.2.1 0 30)) := by
  have hS := h0.1
  have hO := op_isNeedless hS ht a0 a1
  refine ⟨_, w_L_isNeedlessOf hl Θ a0 a1 G (c_X11_isNeedless hl Θ a0 a1 G hS.1.gOk_) hO.v (fun E G9 h9 => mem1 (hO.2 E G9 h9).1), mt_gen hO h0 (fun _ _ => gZ_f) cd1 fun Y hY => ?_⟩
  have hC : (mC Y).2.1 0 30 = G0.2.1 0 30 := (mC_a Y (by decide)).trans hY
  by_cases c0 : (mEnt (G0.2.1 0 30) a0 a1) = true
  · rw [if_pos c0, if_pos c0]
    refine ⟨b2i (decide (mUl (mTo (Y.2.1 0 30) a0.toNatClampNeg a1.toNatClampNeg (mCt (Y.2.1 0 30) a0.toNatClampNeg)) (mNtK (Y.2.1 0 30) (Y.2.1 0 35) 240) 240 0 0 = 0)), mWr (mMv (Y.2.1 0 30) (Y.2.1 0 36) a0.toNatClampNeg a1.toNatClampNeg a1.toNatClampNeg) (mKp a0.toNatClampNeg a1.toNatClampNeg (mNo (ms 0 Y))), ?_, ((((Gh.refl Y).ms_ 0).a (o := 35) (by decide)).a (o := 36) (by decide)).wr _, ?_, ?_⟩
    · try dsimp only
      try unfold mAdQ
      try unfold mQ3
      rw [hY, mg_t c0]
      first | exact ⟨rfl, rfl⟩ | (refine ⟨?_, ?_⟩ <;> simp only [hY])
    · show (mWr (mMv (Y.2.1 0 30) (Y.2.1 0 36) a0.toNatClampNeg a1.toNatClampNeg a1.toNatClampNeg) (mKp a0.toNatClampNeg a1.toNatClampNeg (mNo (ms 0 Y)))).2.1 0 30 = _
      rw [mWr, putA_same, mMv_old, hY]
    · rw [if_pos (show (mWr (mMv (Y.2.1 0 30) (Y.2.1 0 36) a0.toNatClampNeg a1.toNatClampNeg a1.toNatClampNeg) (mKp a0.toNatClampNeg a1.toNatClampNeg (mNo (ms 0 Y)))).1 0 29 5 = 0 from ms_5 0 Y)]
      rw [mUl_nt, hY]
  · rw [if_neg c0, if_neg c0]
    refine ⟨0, ms 1 Y, ?_, (Gh.refl Y).ms_ _, hY, by rw [ms_5]; rfl⟩
    try dsimp only
    try unfold mAdQ
    try unfold mQ3
    rw [hY]
    unfold mg
    rw [if_neg c0]
    exact ⟨rfl, rfl⟩
theorem mMv_id {w : Nat → Int32} {o i : Nat} (hc : w (oA o 5) = nI (mCt w o)) (hi : i < mCt w o) (x : Nat) : mMv w w o i i x = w x := by
  unfold mMv mPu
  by_cases h : enA o i 0 ≤ x ∧ x < enA o i 0 + 5
  · rw [if_pos h]
    unfold mOneK
    rw [if_pos (by omega)]
    refine congrArg w ?_
    unfold enA at h ⊢
    omega
  · rw [if_neg h]
    unfold mOpn
    by_cases h5 : x = oA o 5
    · subst h5
      rw [upd_s, hc]
      refine congrArg nI ?_
      omega
    · rw [upd_n h5]
      unfold mOpK
      by_cases h6 : enA o i 4 < x ∧ x ≤ enA o (mCt w o - 1) 4
      · rw [if_pos h6]
        unfold mTo mTk
        rw [if_pos (by unfold enA at h h6 ⊢; omega), show x - 5 + 5 = x by unfold enA at h6; omega, upd_n h5]
      · rw [if_neg h6]
        unfold mTo mTk
        rw [if_neg (by unfold enA at h h6 ⊢; omega), upd_n h5]
theorem Sim.re {Z : GS} {t : Nat} {w : Nat → Int32} (h : Sim Z t) (hw : ∀ x, x < 765 → w x = Z.2.1 0 30 x) : Sim (putA Z 0 30 w) t :=
  h.ag ((AgX.refl Z).a (by decide)) (h.2.2.2.ag ((AgP.refl Z).a (by decide))) (by
    rw [putA_same]
    exact h.1.congr ⟨⟨rfl, rfl, rfl, rfl, rfl, rfl, rfl⟩, putA_o _ _ (by decide), putA_o _ _ (by decide), putA_o _ _ (by decide), putA_o _ _ (by decide), putA_o _ _ (by decide), putA_o _ _ (by decide), putA_o _ _ (by decide), putA_o _ _ (by decide), putA_o _ _ (by decide)⟩ hw (Nat.le_refl t)) (Nat.le_refl t)
theorem r_isNeedless {l : Launch} (hl : l.stackTraces = false) (Θ : cTH) {G0 G : GS} {t : Nat} (h0 : Nx G0 G t) (ht : t < 2 ^ 20) (a0 : Int32) (a1 : Int32) : CtR l yL_isNeedlessOf cL_isNeedlessOf 4 (some .int) [(0, 14, 15, 24)] rm_L_isNeedlessOf Θ [.ref (tR Θ 0 14), .int a0, .int a1] G (rQ G0 (t + 1) (if (mEnt (G0.2.1 0 30) a0 a1) = true then (gZ (b2i (decide (mUl (mTo (G0.2.1 0 30) a0.toNatClampNeg a1.toNatClampNeg (mCt (G0.2.1 0 30) a0.toNatClampNeg)) (mNt (G0.2.1 0 30)) 240 0 0 = 0)))) else -101)) := by
  obtain ⟨Q, h1, h2⟩ := r_isNeedless0 hl Θ h0 ht a0 a1
  refine ⟨Q, h1, fun o G1 h => ?_⟩
  obtain ⟨G2, h3, h4, h5, h6, h7, h8⟩ := h2 o G1 h
  have hok : mOk (G0.2.1 0 30) := by rw [← h0.w]; exact h0.1.1.ok
  refine ⟨putA G2 0 30 (G0.2.1 0 30), h3.a (by decide), h4, h5.re fun x hx => ?_, putA_same _ _ _ _, fun o h9 h10 => (putA_o _ _ (by omega)).trans (h7 o h9 h10), h8⟩
  rw [h6]
  by_cases c0 : (mEnt (G0.2.1 0 30) a0 a1) = true
  · rw [if_pos c0]
    obtain ⟨j, k, hj, hk, rfl, rfl⟩ := mEnt_nI hok c0
    have h9 := hok.ct6 hj
    rw [nI_clamp (by omega), nI_clamp (by omega), mMv_id (hok.ct hj) hk]
  · rw [if_neg c0]
