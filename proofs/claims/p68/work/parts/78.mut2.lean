/-! the operations that change objects and lists -/
theorem AgK.w5 {G X : GS} (h : AgK (sKeep G) X) (v : Int64) : (setO X v).2.1 0 30 = G.2.1 0 30 := h.w
theorem AgK.sArr_ (K : GS) (o : Nat) (n i x : Int32) (ho : o < 14) : AgK K (sArr K 0 o n i x) := (AgK.refl K).sA ho
theorem op_giveTo {G : GS} {t : Nat} (hS : Sim G t) (ht : t < 2 ^ 20) (a0 : Int32) (a1 : Int32) : OpI G fI [eX] (gt (tHold (G.1 0 4 0) a0) eX (gt (jIdx a1 (G.1 0 1 0)) eX (fR (some (.int (tAt ((sKeep G).1 0 4 0) ((sKeep G).2.1 0 6) a0 (-1)))) (sArr (sKeep G) 0 6 20 a0 a1)) (G)) (G)) (fun Y => mg (mHold (Y.2.1 0 30) a0 && mIn a1 0 (Y.2.1 0 30 0 - 1)) 1 (fR (some (.int ((mC Y).2.1 0 30 (oA a0.toNatClampNeg 2)))) (mUp (oA a0.toNatClampNeg 2) a1 (mC Y))) (Y)) (t + 1) := by
  have h := hS.1
  by_cases c0 : tHold (G.1 0 4 0) a0 = true
  · by_cases c1 : jIdx a1 (G.1 0 1 0) = true
    · obtain ⟨j, hj, rfl, h1⟩ := h.hold_ex c0
      have hX := AgK.sArr_ (sKeep G) 6 20 (nI j) a1 (by decide)
      refine OpI.t c0 (OpI.t c1 (OpI.m (upd (G.2.1 0 30) (oA j 2) a1) hS (Nat.le_succ t) hX ((h.keep.giveTo a1 hj).mono (Nat.le_succ t)) fun o2 G2 h2 => ?_))
      rw [hX.w5] at h2
      rw [mg_t (by rw [h.uIdx, h.hold, c0, c1]; rfl), mC_w, hX.w5, nI_clamp (show j < 2 ^ 31 by omega)] at h2
      obtain ⟨rfl, rfl⟩ := h2
      refine ⟨_, _, rfl, ?_, AgZ.refl _, ?_⟩
      · rw [h.keep.tAt6 hj h1]
      · rw [mUp, mC_w, hX.w5]; rfl
    · refine OpI.t c0 ?_
      exact OpI.n hS (Nat.le_succ t) (Bool.eq_false_iff.mpr c1) (by decide) rfl (AgR.refl G) fun o2 G2 h2 => mg_n (by rw [h.uIdx, h.hold, c0, Bool.eq_false_iff.mpr c1]; rfl) h2
  · exact OpI.n hS (Nat.le_succ t) (Bool.eq_false_iff.mpr c0) (by decide) rfl (AgR.refl G) fun o2 G2 h2 => mg_n (by rw [h.hold, Bool.eq_false_iff.mpr c0]; rfl) h2
theorem op_setMask {G : GS} {t : Nat} (hS : Sim G t) (ht : t < 2 ^ 20) (a0 : Int32) (a1 : Int32) : OpI G fI [eX, eA] (gt (tHold (G.1 0 4 0) a0) eX (gt (decide (0 ≤ a1) && decide (a1 ≤ 15)) eA (fR (some (.int (tAt ((sKeep G).1 0 4 0) ((sKeep G).2.1 0 7) a0 0))) (sArr (sKeep G) 0 7 20 a0 a1)) (G)) (G)) (fun Y => mg (mHold (Y.2.1 0 30) a0) 1 (mg (mIn a1 0 15) 2 (fR (some (.int ((mC Y).2.1 0 30 (oA a0.toNatClampNeg 3)))) (mUp (oA a0.toNatClampNeg 3) a1 (mC Y))) (Y)) (Y)) (t + 1) := by
  have h := hS.1
  by_cases c0 : tHold (G.1 0 4 0) a0 = true
  · by_cases c1 : (decide (0 ≤ a1) && decide (a1 ≤ 15)) = true
    · obtain ⟨j, hj, rfl, h1⟩ := h.hold_ex c0
      have hX := AgK.sArr_ (sKeep G) 7 20 (nI j) a1 (by decide)
      refine OpI.t c0 (OpI.t c1 (OpI.m (upd (G.2.1 0 30) (oA j 3) a1) hS (Nat.le_succ t) hX ((h.keep.setMask a1 hj).mono (Nat.le_succ t)) fun o2 G2 h2 => ?_))
      rw [hX.w5] at h2
      rw [mg_t (by rw [h.hold]; exact c0), mg_t (show mIn a1 0 15 = true from c1), mC_w, hX.w5, nI_clamp (show j < 2 ^ 31 by omega)] at h2
      obtain ⟨rfl, rfl⟩ := h2
      refine ⟨_, _, rfl, ?_, AgZ.refl _, ?_⟩
      · rw [h.keep.tAt7 hj h1]
      · rw [mUp, mC_w, hX.w5]; rfl
    · refine OpI.t c0 ?_
      exact OpI.n hS (Nat.le_succ t) (Bool.eq_false_iff.mpr c1) (by decide) rfl (AgR.refl G) fun o2 G2 h2 => by
        rw [mg_t (by rw [h.hold]; exact c0)] at h2
        exact mg_n (show mIn a1 0 15 = false from Bool.eq_false_iff.mpr c1) h2
  · exact OpI.n hS (Nat.le_succ t) (Bool.eq_false_iff.mpr c0) (by decide) rfl (AgR.refl G) fun o2 G2 h2 => mg_n (by rw [h.hold, Bool.eq_false_iff.mpr c0]) h2
theorem op_setInheriting {G : GS} {t : Nat} (hS : Sim G t) (ht : t < 2 ^ 20) (a0 : Int32) (a1 : Bool) : OpI G fZ [eX] (gt (tHold (G.1 0 4 0) a0) eX (fR (some (.int (b2i (jHas ((sKeep G).1 0 4 1) a0)))) (putF (sKeep G) 0 4 1 (jChg ((sKeep G).1 0 4 1) a0 a1))) (G)) (fun Y => mg (mHold (Y.2.1 0 30) a0) 1 (fR (some (.int (b2i (decide ((mC Y).2.1 0 30 (oA a0.toNatClampNeg 4) = 1))))) (mUp (oA a0.toNatClampNeg 4) (b2i a1) (mC Y))) (Y)) (t + 1) := by
  have h := hS.1
  by_cases c0 : tHold (G.1 0 4 0) a0 = true
  · obtain ⟨j, hj, rfl, h1⟩ := h.hold_ex c0
    have hX : AgK (sKeep G) (putF (sKeep G) 0 4 1 (jChg ((sKeep G).1 0 4 1) (nI j) a1)) := (AgK.refl _).f (by decide)
    refine OpI.t c0 (OpI.m (upd (G.2.1 0 30) (oA j 4) (b2i a1)) hS (Nat.le_succ t) hX ((h.keep.setInh a1 hj).mono (Nat.le_succ t)) fun o2 G2 h2 => ?_)
    rw [hX.w5] at h2
    rw [mg_t (by rw [h.hold]; exact c0), mC_w, hX.w5, nI_clamp (show j < 2 ^ 31 by omega)] at h2
    obtain ⟨rfl, rfl⟩ := h2
    refine ⟨_, _, rfl, ?_, AgZ.refl _, ?_⟩
    · rw [h.keep.inh hj h1]
    · rw [mUp, mC_w, hX.w5]; rfl
  · exact OpI.n hS (Nat.le_succ t) (Bool.eq_false_iff.mpr c0) (by decide) rfl (AgR.refl G) fun o2 G2 h2 => mg_n (by rw [h.hold, Bool.eq_false_iff.mpr c0]) h2
theorem op_make {G : GS} {t : Nat} (hS : Sim G t) (ht : t < 2 ^ 20) (a0 : Int32) (a1 : Int32) : OpI G fI [eX, eS] (gt (tHold (G.1 0 4 0) a0) eX (gt (jIdx a1 (G.1 0 1 0)) eX (gt (!decide (lFree (G.1 0 4 0) 20 0 = -1)) eS (fR (some (.int (lFree (G.1 0 4 0) 20 0))) (sMake (lFree (G.1 0 4 0) 20 0) a0 a1 (sKeep G))) (G)) (G)) (G)) (fun Y => mg (mHold (Y.2.1 0 30) a0 && mIn a1 0 (Y.2.1 0 30 0 - 1)) 1 (mg (!decide (mHo (Y.2.1 0 30) 20 0 0 = 20)) 2 (fR (some (.int (nI (mFr (Y.2.1 0 30) 20 0)))) (mWr (mFnd (Y.2.1 0 30) (mFr (Y.2.1 0 30) 20 0) a0 a1) (mC Y))) (Y)) (Y)) (t + 1) := by
  have h := hS.1
  by_cases c0 : tHold (G.1 0 4 0) a0 = true
  · by_cases c1 : jIdx a1 (G.1 0 1 0) = true
    · obtain ⟨j, hj, rfl, h1⟩ := h.hold_ex c0
      refine OpI.t c0 (OpI.t c1 ?_)
      rcases h.full with ⟨f1, f2⟩ | ⟨f1, f2, f3, f4⟩
      · refine OpI.n hS (Nat.le_succ t) (by rw [decide_eq_true f1]; rfl) (by decide) rfl (AgR.refl G) fun o2 G2 h2 => ?_
        rw [mg_t (by rw [h.uIdx, h.hold, c0, c1]; rfl)] at h2
        exact mg_n (by rw [decide_eq_true f2]; rfl) h2
      · have hX : AgK (sKeep G) (sMake (lFree (G.1 0 4 0) 20 0) (nI j) a1 (sKeep G)) := (AgK.refl _).sM _ _ _
        have hr := h.keep.make a1 f2 f3 hj h1
        rw [← f1] at hr
        refine OpI.t (by rw [decide_eq_false (show ¬ lFree (G.1 0 4 0) 20 0 = -1 by rw [f1]; exact fun z => neg1_ne (by omega) z.symm)]; rfl) (OpI.m (mFnd (G.2.1 0 30) (mFr (G.2.1 0 30) 20 0) (nI j) a1) hS (Nat.le_succ t) hX (hr.mono (Nat.le_succ t)) fun o2 G2 h2 => ?_)
        rw [hX.w5] at h2
        rw [mg_t (by rw [h.uIdx, h.hold, c0, c1]; rfl), mg_t (by rw [decide_eq_false f4]; rfl)] at h2
        obtain ⟨rfl, rfl⟩ := h2
        refine ⟨_, _, rfl, ?_, AgZ.refl _, rfl⟩
        rw [f1]
    · refine OpI.t c0 ?_
      exact OpI.n hS (Nat.le_succ t) (Bool.eq_false_iff.mpr c1) (by decide) rfl (AgR.refl G) fun o2 G2 h2 => mg_n (by rw [h.uIdx, h.hold, c0, Bool.eq_false_iff.mpr c1]; rfl) h2
  · exact OpI.n hS (Nat.le_succ t) (Bool.eq_false_iff.mpr c0) (by decide) rfl (AgR.refl G) fun o2 G2 h2 => mg_n (by rw [h.hold, Bool.eq_false_iff.mpr c0]; rfl) h2
theorem z_iff {j : Nat} (hj : j < 20) : decide (nI j = 0) = decide (j = 0) := by
  rw [decide_eq_decide]
  exact nI_eq (b := 0) (by omega) (by decide)
theorem op_remove {G : GS} {t : Nat} (hS : Sim G t) (ht : t < 2 ^ 20) (a0 : Int32) : OpI G fI [eX, eS] (gt (tHold (G.1 0 4 0) a0) eX (gt (!(decide (a0 = 0) || decide (0 < cUnd (G.1 0 4 0) (G.2.1 0 5) a0 20 0 0))) eS (fR (some (.int (jBc (jChg (G.1 0 4 0) a0 false)))) (sArr (putF (sKeep G) 0 4 0 (jChg ((sKeep G).1 0 4 0) a0 false)) 0 9 20 a0 0)) (G)) (G)) (fun Y => mg (mHold (Y.2.1 0 30) a0) 1 (mg (!(decide (a0 = 0) || decide (0 < mBls (Y.2.1 0 30) a0 20 0 0))) 2 (fR (some (.int (mHo (mZk (Y.2.1 0 30) a0.toNatClampNeg 36) 20 0 0))) (mWr (mZk (Y.2.1 0 30) a0.toNatClampNeg 36) (mC Y))) (Y)) (Y)) (t + 1) := by
  have h := hS.1
  by_cases c0 : tHold (G.1 0 4 0) a0 = true
  · obtain ⟨j, hj, rfl, h1⟩ := h.hold_ex c0
    refine OpI.t c0 ?_
    have eb : (decide (nI j = 0) || decide (0 < cUnd (G.1 0 4 0) (G.2.1 0 5) (nI j) 20 0 0)) = (decide (nI j = 0) || decide (0 < mBls (G.2.1 0 30) (nI j) 20 0 0)) := by rw [h.cund hj 20 0 0 (by decide)]
    by_cases c1 : (decide (nI j = 0) || decide (0 < mBls (G.2.1 0 30) (nI j) 20 0 0)) = true
    · refine OpI.n hS (Nat.le_succ t) (by rw [eb, c1]; rfl) (by decide) rfl (AgR.refl G) fun o2 G2 h2 => ?_
      rw [mg_t (by rw [h.hold]; exact c0)] at h2
      exact mg_n (by rw [c1]; rfl) h2
    · have c2 := Bool.eq_false_iff.mpr c1
      rw [Bool.or_eq_false_iff, z_iff hj, decide_eq_false_iff_not, decide_eq_false_iff_not] at c2
      have hX : AgK (sKeep G) (sArr (putF (sKeep G) 0 4 0 (jChg ((sKeep G).1 0 4 0) (nI j) false)) 0 9 20 (nI j) 0) := ((AgK.refl _).f (o := 4) (by decide)).sA (by decide)
      have hr := h.keep.remove hj (by omega) h1 c2.2
      refine OpI.t (by rw [eb, Bool.eq_false_iff.mpr c1]; rfl) (OpI.m (mZk (G.2.1 0 30) j 36) hS (Nat.le_succ t) hX (hr.mono (Nat.le_succ t)) fun o2 G2 h2 => ?_)
      rw [hX.w5] at h2
      rw [mg_t (by rw [h.hold]; exact c0), mg_t (by rw [Bool.eq_false_iff.mpr c1]; rfl), nI_clamp (show j < 2 ^ 31 by omega)] at h2
      obtain ⟨rfl, rfl⟩ := h2
      refine ⟨_, _, rfl, ?_, AgZ.refl _, rfl⟩
      rw [hr.count, sArr_n _ 9 _ hj, putA_fld, putF_v, sKeep_fld G (by decide)]
  · exact OpI.n hS (Nat.le_succ t) (Bool.eq_false_iff.mpr c0) (by decide) rfl (AgR.refl G) fun o2 G2 h2 => mg_n (by rw [h.hold, Bool.eq_false_iff.mpr c0]) h2
theorem op_move {G : GS} {t : Nat} (hS : Sim G t) (ht : t < 2 ^ 20) (a0 : Int32) (a1 : Int32) : OpI G fI [eX, eS] (gt (tHold (G.1 0 4 0) a0) eX (gt (tHold (G.1 0 4 0) a1) eX (gt (!(decide (a0 = 0) || (decide (a1 = a0) || sUnder (G.1 0 4 0) (G.2.1 0 5) a1 a0))) eS (fR (some (.int (tAt ((sKeep G).1 0 4 0) ((sKeep G).2.1 0 5) a0 (-1)))) (sArr (sKeep G) 0 5 20 a0 a1)) (G)) (G)) (G)) (fun Y => mg (mHold (Y.2.1 0 30) a0 && mHold (Y.2.1 0 30) a1) 1 (mg (!(decide (a0 = 0) || (decide (a1 = a0) || mBlw (Y.2.1 0 30) a1.toNatClampNeg a0))) 2 (fR (some (.int ((mC Y).2.1 0 30 (oA a0.toNatClampNeg 1)))) (mUp (oA a0.toNatClampNeg 1) a1 (mC Y))) (Y)) (Y)) (t + 1) := by
  have h := hS.1
  by_cases c0 : tHold (G.1 0 4 0) a0 = true
  · by_cases c1 : tHold (G.1 0 4 0) a1 = true
    · obtain ⟨j, hj, rfl, h1⟩ := h.hold_ex c0
      obtain ⟨p, hp, rfl, hp1⟩ := h.hold_ex c1
      refine OpI.t c0 (OpI.t c1 ?_)
      have eb : (decide (nI j = 0) || (decide (nI p = nI j) || sUnder (G.1 0 4 0) (G.2.1 0 5) (nI p) (nI j))) = (decide (nI j = 0) || (decide (nI p = nI j) || mBlw (G.2.1 0 30) p (nI j))) := by rw [h.under hp hp1 hj]
      by_cases c2 : (decide (nI j = 0) || (decide (nI p = nI j) || mBlw (G.2.1 0 30) p (nI j))) = true
      · refine OpI.n hS (Nat.le_succ t) (by rw [eb, c2]; rfl) (by decide) rfl (AgR.refl G) fun o2 G2 h2 => ?_
        rw [mg_t (by rw [h.hold, h.hold, c0, c1]; rfl)] at h2
        exact mg_n (by rw [nI_clamp (show p < 2 ^ 31 by omega), c2]; rfl) h2
      · have c3 := Bool.eq_false_iff.mpr c2
        rw [Bool.or_eq_false_iff, z_iff hj, decide_eq_false_iff_not, Bool.or_eq_false_iff, decide_eq_false_iff_not] at c3
        have hX := AgK.sArr_ (sKeep G) 5 20 (nI j) (nI p) (by decide)
        have hr := h.keep.move hj (by omega) h1 hp hp1 (fun z => c3.2.1 (by rw [z])) c3.2.2
        refine OpI.t (by rw [eb, Bool.eq_false_iff.mpr c2]; rfl) (OpI.m (upd (G.2.1 0 30) (oA j 1) (nI p)) hS (Nat.le_succ t) hX (hr.mono (Nat.le_succ t)) fun o2 G2 h2 => ?_)
        rw [hX.w5] at h2
        rw [mg_t (by rw [h.hold, h.hold, c0, c1]; rfl), mg_t (by rw [nI_clamp (show p < 2 ^ 31 by omega), Bool.eq_false_iff.mpr c2]; rfl), mC_w, hX.w5, nI_clamp (show j < 2 ^ 31 by omega)] at h2
        obtain ⟨rfl, rfl⟩ := h2
        refine ⟨_, _, rfl, ?_, AgZ.refl _, ?_⟩
        · rw [h.keep.tAt5 hj h1]
        · rw [mUp, mC_w, hX.w5]; rfl
    · refine OpI.t c0 ?_
      exact OpI.n hS (Nat.le_succ t) (Bool.eq_false_iff.mpr c1) (by decide) rfl (AgR.refl G) fun o2 G2 h2 => mg_n (by rw [h.hold, h.hold, c0, Bool.eq_false_iff.mpr c1]; rfl) h2
  · exact OpI.n hS (Nat.le_succ t) (Bool.eq_false_iff.mpr c0) (by decide) rfl (AgR.refl G) fun o2 G2 h2 => mg_n (by rw [h.hold, Bool.eq_false_iff.mpr c0]; rfl) h2
/-! lists -/
theorem Rel.pL {K : GS} {w w2 : Nat → Int32} {t : Nat} {q : (Nat → Int32) × (Nat → Int32)} (h : Rel (K.1 0) (setLs (K.2.1 0) q) w2 t) : Rel ((putLs K q).1 0) ((putLs K q).2.1 0) w2 t := by
  have e : (putLs K q).2.1 0 = setLs (K.2.1 0) q := by
    funext o
    unfold putLs setLs
    rw [putA_get]
    by_cases h9 : o = 9
    · rw [if_pos ⟨rfl, h9⟩, if_pos h9]
    · rw [if_neg (fun z => h9 z.2), if_neg h9, putA_get]
      by_cases h10 : o = 10
      · rw [if_pos ⟨rfl, h10⟩, if_pos h10]
      · rw [if_neg (fun z => h10 z.2), if_neg h10]
  rw [e]
  exact h
/-- an entry is added at the end of a list -/
theorem Rel.add {K : GS} {w : Nat → Int32} {t : Nat} (h : Rel (K.1 0) (K.2.1 0) w t) {j i kd n r : Nat} (a b : Bool) {w2 : Nat → Int32} (hj : j < 20) (h1 : w (oA j 0) = 1) (h5 : mCt w j ≤ 5) (hi : i ≤ mCt w j) (hkd : kd < 4) (hn : n < 12) (hn8 : kd = 1 → n < 8) (hr : 1 ≤ r ∧ r < 16) (hv : ∀ x, ¬ (enA j i 0 ≤ x ∧ x < enA j i 5) → w2 x = mOpn w j i (mCt w j) x) (e0 : w2 (enA j i 0) = nI kd) (e1 : w2 (enA j i 1) = nI n) (e2 : w2 (enA j i 2) = nI r) (e3 : w2 (enA j i 3) = b2i a) (e4 : w2 (enA j i 4) = b2i b) : Rel ((putLs K (sPutIn (K.2.1 0 9) (K.2.1 0 10) (nI j) (nI i) (eCode (nI kd) (nI n) (nI r) a b))).1 0) ((putLs K (sPutIn (K.2.1 0 9) (K.2.1 0 10) (nI j) (nI i) (eCode (nI kd) (nI n) (nI r) a b))).2.1 0) w2 t := by
  have db : ∀ b : Bool, decide (b2i b = 1) = b := by decide
  refine Rel.pL (w := w) (h.put hj h1 h5 hi hv ⟨kd, n, r, hkd, hn, hr, e0, e1, e2⟩ (fun hk => ⟨n, hn8 ?_, e1⟩) ?_)
  · rw [e0] at hk
    exact (nI_eq (b := 1) (by omega) (by decide)).mp hk
  · unfold eC
    rw [e0, e1, e2, e3, e4, db, db]
theorem mWrt_0 (w : Nat → Int32) (o i : Nat) (k n r : Int32) (a b : Bool) : mWrt w o i k n r a b (enA o i 0) = k ∧ mWrt w o i k n r a b (enA o i 1) = n ∧ mWrt w o i k n r a b (enA o i 2) = r ∧ mWrt w o i k n r a b (enA o i 3) = b2i a ∧ mWrt w o i k n r a b (enA o i 4) = b2i b := by
  unfold mWrt
  refine ⟨?_, ?_, ?_, ?_, ?_⟩
  · rw [upd_n (by unfold enA; omega), upd_n (by unfold enA; omega), upd_n (by unfold enA; omega), upd_n (by unfold enA; omega), upd_s]
  · rw [upd_n (by unfold enA; omega), upd_n (by unfold enA; omega), upd_n (by unfold enA; omega), upd_s]
  · rw [upd_n (by unfold enA; omega), upd_n (by unfold enA; omega), upd_s]
  · rw [upd_n (by unfold enA; omega), upd_s]
  · rw [upd_s]
theorem mWrt_o (w : Nat → Int32) {o i x : Nat} (k n r : Int32) (a b : Bool) (hx : ¬ (enA o i 0 ≤ x ∧ x < enA o i 5)) : mWrt w o i k n r a b x = w x := by
  unfold mWrt
  rw [upd_n (by unfold enA at *; omega), upd_n (by unfold enA at *; omega), upd_n (by unfold enA at *; omega), upd_n (by unfold enA at *; omega), upd_n (by unfold enA at *; omega)]
theorem mOpn_end (w : Nat → Int32) (o c : Nat) : mOpn w o c c = upd w (oA o 5) (nI (c + 1)) := by
  unfold mOpn
  rw [mOpK_0]
theorem r15_ex {r : Int32} (h : (decide (1 ≤ r) && decide (r ≤ 15)) = true) : ∃ j : Nat, (1 ≤ j ∧ j < 16) ∧ r = nI j := by
  obtain ⟨h1, h2⟩ := Bool.and_eq_true_iff.mp h
  have h3 := Int32.le_iff_toInt_le.mp (of_decide_eq_true h1)
  have h4 := Int32.le_iff_toInt_le.mp (of_decide_eq_true h2)
  have e1 : (1 : Int32).toInt = 1 := rfl
  have e2 : (15 : Int32).toInt = 15 := rfl
  rw [e1] at h3; rw [e2] at h4
  refine ⟨r.toInt.toNat, by omega, ?_⟩
  apply Int32.toInt_inj.mp
  rw [nI_toInt (by omega)]
  omega
/-- the last place of a list, in the class and in the model -/
theorem OpI.add {G : GS} {t : Nat} (hS : Sim G t) {j kd n : Nat} (r : Int32) (a b : Bool) (hj : j < 20) (h1 : G.2.1 0 30 (oA j 0) = 1) (hkd : kd < 4) (hn : n < 12) (hn8 : kd = 1 → n < 8) (hth : mThr (G.2.1 0 30) (nI j) (nI kd) (nI n) = true) : OpI G fI [eX, eA, eS] (adQ (nI j) (nI kd) (nI n) r a b G) (fun Y => mAdQ (nI j) (nI kd) (nI n) r a b Y) (t + 1) := by
  have h := hS.1
  have h6 := h.ok.ct6 hj
  have ect := h.cnt hj
  unfold adQ
  by_cases c1 : (decide (1 ≤ r) && decide (r ≤ 15)) = true
  · refine OpI.t c1 ?_
    by_cases c2 : mCt (G.2.1 0 30) j = 6
    · refine OpI.n hS (Nat.le_succ t) (decide_eq_false (by rw [ect, c2]; decide)) (by decide) rfl (AgR.refl G) fun o2 G2 h2 => ?_
      rw [mAdQ, mg_t hth, mg_t (show mIn r 1 15 = true from c1)] at h2
      refine mg_n ?_ h2
      rw [nI_clamp (show j < 2 ^ 31 by omega), h.ok.ct hj, c2]; rfl
    · obtain ⟨r2, hr2, rfl⟩ := r15_ex c1
      have hX : AgK (sKeep G) (adL (nI j) (nI kd) (nI n) (nI r2) a b (sKeep G)) := (AgK.refl _).pL _
      obtain ⟨m0, m1, m2, m3, m4⟩ := mWrt_0 (upd (G.2.1 0 30) (oA j 5) (nI (mCt (G.2.1 0 30) j + 1))) j (mCt (G.2.1 0 30) j) (nI kd) (nI n) (nI r2) a b
      have hr := h.keep.add (i := mCt (G.2.1 0 30) j) a b hj h1 (by omega) (Nat.le_refl _) hkd hn hn8 hr2 (w2 := mWrt (upd (G.2.1 0 30) (oA j 5) (nI (mCt (G.2.1 0 30) j + 1))) j (mCt (G.2.1 0 30) j) (nI kd) (nI n) (nI r2) a b) (fun x hx => by rw [mWrt_o _ _ _ _ _ _ hx, mOpn_end]) m0 m1 m2 m3 m4
      have eX : adL (nI j) (nI kd) (nI n) (nI r2) a b (sKeep G) = putLs (sKeep G) (sPutIn ((sKeep G).2.1 0 9) ((sKeep G).2.1 0 10) (nI j) (nI (mCt (G.2.1 0 30) j)) (eCode (nI kd) (nI n) (nI r2) a b)) := by
        unfold adL
        rw [h.keep.cnt hj]
      rw [← eX] at hr
      have ecv : sCnt ((adL (nI j) (nI kd) (nI n) (nI r2) a b (sKeep G)).2.1 0 9) (nI j) = nI (mCt (G.2.1 0 30) j + 1) := by
        rw [hr.cnt hj]
        refine congrArg nI ?_
        refine mCt_n ?_ (by omega)
        rw [mWrt_o _ _ _ _ _ _ (by unfold enA oA; omega), upd_s]
      refine OpI.t (decide_eq_true (by rw [ect]; exact nI_lt (b := 6) (by omega) (by decide))) (OpI.m _ hS (Nat.le_succ t) hX (hr.mono (Nat.le_succ t)) fun o2 G2 h2 => ?_)
      rw [mAdQ, hX.w5] at h2
      rw [mg_t hth, mg_t (show mIn (nI r2) 1 15 = true from c1), mg_t (by rw [nI_clamp (show j < 2 ^ 31 by omega), h.ok.ct hj, decide_eq_false (show ¬ nI (mCt (G.2.1 0 30) j) = 6 from fun z => c2 ((nI_eq (b := 6) (by omega) (by decide)).mp z))]; rfl), nI_clamp (show j < 2 ^ 31 by omega), mAd, hX.w5] at h2
      obtain ⟨rfl, rfl⟩ := h2
      refine ⟨_, _, rfl, ?_, AgZ.refl _, rfl⟩
      rw [ecv]
  · exact OpI.n hS (Nat.le_succ t) (Bool.eq_false_iff.mpr c1) (by decide) rfl (AgR.refl G) fun o2 G2 h2 => by
      rw [mAdQ, mg_t hth] at h2
      exact mg_n (show mIn r 1 15 = false from Bool.eq_false_iff.mpr c1) h2
theorem op_addForUser {G : GS} {t : Nat} (hS : Sim G t) (ht : t < 2 ^ 20) (a0 : Int32) (a1 : Int32) (a2 : Int32) (a3 : Bool) (a4 : Bool) : OpI G fI [eX, eA, eS] (gt (tHold (G.1 0 4 0) a0) eX (gt (jIdx a1 (G.1 0 1 0)) eX (adQ a0 0 a1 a2 a3 a4 G) (G)) (G)) (fun Y => mAdQ a0 0 a1 a2 a3 a4 Y) (t + 1) := by
  have h := hS.1
  by_cases c0 : tHold (G.1 0 4 0) a0 = true
  · by_cases c1 : jIdx a1 (G.1 0 1 0) = true
    · obtain ⟨j, hj, rfl, h1⟩ := h.hold_ex c0
      obtain ⟨u, hu, hu12, rfl⟩ := h.u_ex c1
      refine OpI.t c0 (OpI.t c1 ?_)
      exact OpI.add hS (kd := 0) a2 a3 a4 hj h1 (by decide) hu12 (fun z => by cases z) (by unfold mThr; rw [h.hold, c0, h.uIdx, c1]; rfl)
    · refine OpI.t c0 ?_
      exact OpI.n hS (Nat.le_succ t) (Bool.eq_false_iff.mpr c1) (by decide) rfl (AgR.refl G) fun o2 G2 h2 => by
        rw [mAdQ] at h2
        exact mg_n (by unfold mThr; rw [h.uIdx, Bool.eq_false_iff.mpr c1, h.hold, c0]; rfl) h2
  · exact OpI.n hS (Nat.le_succ t) (Bool.eq_false_iff.mpr c0) (by decide) rfl (AgR.refl G) fun o2 G2 h2 => by
      rw [mAdQ] at h2
      exact mg_n (by unfold mThr; rw [h.hold, Bool.eq_false_iff.mpr c0]; rfl) h2
theorem op_addForGroup {G : GS} {t : Nat} (hS : Sim G t) (ht : t < 2 ^ 20) (a0 : Int32) (a1 : Int32) (a2 : Int32) (a3 : Bool) (a4 : Bool) : OpI G fI [eX, eA, eS] (gt (tHold (G.1 0 4 0) a0) eX (gt (jIdx a1 (G.1 0 1 1)) eX (adQ a0 1 a1 a2 a3 a4 G) (G)) (G)) (fun Y => mAdQ a0 1 a1 a2 a3 a4 Y) (t + 1) := by
  have h := hS.1
  by_cases c0 : tHold (G.1 0 4 0) a0 = true
  · by_cases c1 : jIdx a1 (G.1 0 1 1) = true
    · obtain ⟨j, hj, rfl, h1⟩ := h.hold_ex c0
      obtain ⟨u, hu, hu8, rfl⟩ := h.g_ex c1
      refine OpI.t c0 (OpI.t c1 ?_)
      exact OpI.add hS (kd := 1) a2 a3 a4 hj h1 (by decide) (by omega) (fun _ => hu8) (by unfold mThr; rw [h.hold, c0, h.gIdx, c1]; rfl)
    · refine OpI.t c0 ?_
      exact OpI.n hS (Nat.le_succ t) (Bool.eq_false_iff.mpr c1) (by decide) rfl (AgR.refl G) fun o2 G2 h2 => by
        rw [mAdQ] at h2
        exact mg_n (by unfold mThr; rw [h.gIdx, Bool.eq_false_iff.mpr c1, h.hold, c0]; rfl) h2
  · exact OpI.n hS (Nat.le_succ t) (Bool.eq_false_iff.mpr c0) (by decide) rfl (AgR.refl G) fun o2 G2 h2 => by
      rw [mAdQ] at h2
      exact mg_n (by unfold mThr; rw [h.hold, Bool.eq_false_iff.mpr c0]; rfl) h2
theorem op_addForOwner {G : GS} {t : Nat} (hS : Sim G t) (ht : t < 2 ^ 20) (a0 : Int32) (a1 : Int32) (a2 : Bool) (a3 : Bool) : OpI G fI [eX, eA, eS] (gt (tHold (G.1 0 4 0) a0) eX (adQ a0 2 0 a1 a2 a3 G) (G)) (fun Y => mAdQ a0 2 0 a1 a2 a3 Y) (t + 1) := by
  have h := hS.1
  by_cases c0 : tHold (G.1 0 4 0) a0 = true
  · obtain ⟨j, hj, rfl, h1⟩ := h.hold_ex c0
    refine OpI.t c0 ?_
    exact OpI.add hS (kd := 2) (n := 0) a1 a2 a3 hj h1 (by decide) (by decide) (fun z => by cases z) (by unfold mThr; rw [h.hold, c0]; rfl)
  · exact OpI.n hS (Nat.le_succ t) (Bool.eq_false_iff.mpr c0) (by decide) rfl (AgR.refl G) fun o2 G2 h2 => by
      rw [mAdQ] at h2
      exact mg_n (by unfold mThr; rw [h.hold, Bool.eq_false_iff.mpr c0]; rfl) h2
theorem op_addForAll {G : GS} {t : Nat} (hS : Sim G t) (ht : t < 2 ^ 20) (a0 : Int32) (a1 : Int32) (a2 : Bool) (a3 : Bool) : OpI G fI [eX, eA, eS] (gt (tHold (G.1 0 4 0) a0) eX (adQ a0 3 0 a1 a2 a3 G) (G)) (fun Y => mAdQ a0 3 0 a1 a2 a3 Y) (t + 1) := by
  have h := hS.1
  by_cases c0 : tHold (G.1 0 4 0) a0 = true
  · obtain ⟨j, hj, rfl, h1⟩ := h.hold_ex c0
    refine OpI.t c0 ?_
    exact OpI.add hS (kd := 3) (n := 0) a1 a2 a3 hj h1 (by decide) (by decide) (fun z => by cases z) (by unfold mThr; rw [h.hold, c0]; rfl)
  · exact OpI.n hS (Nat.le_succ t) (Bool.eq_false_iff.mpr c0) (by decide) rfl (AgR.refl G) fun o2 G2 h2 => by
      rw [mAdQ] at h2
      exact mg_n (by unfold mThr; rw [h.hold, Bool.eq_false_iff.mpr c0]; rfl) h2
theorem op_removeEntry {G : GS} {t : Nat} (hS : Sim G t) (ht : t < 2 ^ 20) (a0 : Int32) (a1 : Int32) : OpI G fI [eX] (gt (tHold (G.1 0 4 0) a0 && jIdx a1 (sCnt (G.2.1 0 9) a0)) eX (fR (some (.int (sCnt (sTake ((sKeep G).2.1 0 9) ((sKeep G).2.1 0 10) a0 a1).2.1 a0))) (putLs (sKeep G) (sTake ((sKeep G).2.1 0 9) ((sKeep G).2.1 0 10) a0 a1).2)) (G)) (fun Y => mg (mEnt (Y.2.1 0 30) a0 a1) 1 (fR (some (.int (nI (mCt (Y.2.1 0 30) a0.toNatClampNeg - 1)))) (mWr (mTo (Y.2.1 0 30) a0.toNatClampNeg a1.toNatClampNeg (mCt (Y.2.1 0 30) a0.toNatClampNeg)) (mC Y))) Y) (t + 1) := by
  have h := hS.1
  by_cases c0 : (tHold (G.1 0 4 0) a0 && jIdx a1 (sCnt (G.2.1 0 9) a0)) = true
  · obtain ⟨j, k, hj, hk, hk6, rfl, rfl, h1⟩ := h.ent_ex c0
    have h6 := h.ok.ct6 hj
    obtain ⟨t1, t2⟩ := h.keep.take hj h1 hk
    have hr := Rel.pL (w := G.2.1 0 30) t2
    have hX : AgK (sKeep G) (putLs (sKeep G) (sTake ((sKeep G).2.1 0 9) ((sKeep G).2.1 0 10) (nI j) (nI k)).2) := (AgK.refl _).pL _
    refine OpI.t c0 (OpI.m _ hS (Nat.le_succ t) hX (hr.mono (Nat.le_succ t)) fun o2 G2 h2 => ?_)
    rw [hX.w5] at h2
    rw [mg_t (by rw [h.entE]; exact c0), nI_clamp (show j < 2 ^ 31 by omega), nI_clamp (show k < 2 ^ 31 by omega)] at h2
    obtain ⟨rfl, rfl⟩ := h2
    refine ⟨_, _, rfl, ?_, AgZ.refl _, rfl⟩
    have e := t2.cnt hj
    rw [mCt_to h6] at e
    exact congrArg fI e.symm
  · exact OpI.n hS (Nat.le_succ t) (Bool.eq_false_iff.mpr c0) (by decide) rfl (AgR.refl G) fun o2 G2 h2 => mg_n (by rw [h.entE]; exact Bool.eq_false_iff.mpr c0) h2
