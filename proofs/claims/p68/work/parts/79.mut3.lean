/-! requests, shared rights, moved and needless entries -/
theorem OpI.from {G G9 : GS} {f : Int32 → Int64} {cs : List String} {Qc : cOut → GS → Prop} {Qm : GS → cOut → GS → Prop} {t : Nat} (hC : AgC G G9) (h : OpI G9 f cs Qc Qm t) : OpI G f cs Qc Qm t := by
  refine ⟨fun v G1 h1 => ?_, fun E G1 h1 => ?_⟩
  · obtain ⟨x, h2, h3, h4⟩ := h.1 v G1 h1
    exact ⟨x, h2, hC.trans h3, h4⟩
  · obtain ⟨h2, h3, h4⟩ := h.2 E G1 h1
    exact ⟨h2, hC.trans h3, h4⟩
theorem op_ask {G : GS} {t : Nat} (hS : Sim G t) (ht : t < 2 ^ 20) (a0 : Int32) (a1 : Int32) (a2 : Int32) : OpI G fZ [eX, eA] (gt (jIdx a0 (G.1 0 1 0)) eX (gt (tHold (G.1 0 4 0) a1) eX (gt (jIdx a2 4) eA (fR (some (.int (b2i (jHas (rAt (sKeep G) a0 a1) a2)))) (sLog a0 a1 (jHas (rAt (sKeep G) a0 a1) a2) (jA (sKeep G) a0 a1))) (G)) (G)) (G)) (fun Y => mQ3 a0 a1 a2 (fR (some (.int (b2i (mAl (Y.2.1 0 30) a0 a1.toNatClampNeg a2)))) (mWr (mLog (Y.2.1 0 30) a0 a1 (mAl (Y.2.1 0 30) a0 a1.toNatClampNeg a2)) (mC Y))) Y) (t + 1) := by
  have h := hS.1
  by_cases c0 : jIdx a0 (G.1 0 1 0) = true
  · by_cases c1 : tHold (G.1 0 4 0) a1 = true
    · by_cases c2 : jIdx a2 4 = true
      · obtain ⟨u, hu, hu12, rfl⟩ := h.u_ex c0
        obtain ⟨j, hj, rfl, h1⟩ := h.hold_ex c1
        obtain ⟨r, hr, rfl⟩ := r_ex c2
        have eg : jHas (rAt (sKeep G) (nI u) (nI j)) (nI r) = mAl (G.2.1 0 30) (nI u) j (nI r) := by
          rw [h.keep.rAt_ hu hj h1, jHas_bt _ (by omega), mRg_bt _ _ _ hr]
        rw [eg]
        have hX : AgK (sKeep G) (sLog (nI u) (nI j) (mAl (G.2.1 0 30) (nI u) j (nI r)) (jA (sKeep G) (nI u) (nI j))) := ((AgK.refl _).jS_ _ _).sL _ _ _
        have hK : Rel ((jA (sKeep G) (nI u) (nI j)).1 0) ((jA (sKeep G) (nI u) (nI j)).2.1 0) (G.2.1 0 30) t := h.keep.congr ((AgR.refl (sKeep G)).jS_ _ _).2.2 (fun _ _ => rfl) (Nat.le_refl t)
        refine OpI.t c0 (OpI.t c1 (OpI.t c2 (OpI.m (mLog (G.2.1 0 30) (nI u) (nI j) (mAl (G.2.1 0 30) (nI u) j (nI r))) hS (Nat.le_succ t) hX (hK.log (nI u) (nI j) (mAl (G.2.1 0 30) (nI u) j (nI r)) ht) fun o2 G2 h2 => ?_)))
        rw [mQ3] at h2
        rw [hX.w5] at h2
        rw [mg_t (by rw [h.uIdx, h.hold, c0, c1]; rfl), mg_t (by rw [mIn_r]; exact c2), nI_clamp (show j < 2 ^ 31 by omega)] at h2
        obtain ⟨rfl, rfl⟩ := h2
        exact ⟨_, _, rfl, rfl, AgZ.refl _, rfl⟩
      · refine OpI.t c0 (OpI.t c1 ?_)
        exact OpI.n hS (Nat.le_succ t) (Bool.eq_false_iff.mpr c2) (by decide) rfl (AgR.refl G) fun o2 G2 h2 => by
          rw [mQ3, mg_t (by rw [h.uIdx, h.hold, c0, c1]; rfl)] at h2
          exact mg_n (by rw [mIn_r]; exact Bool.eq_false_iff.mpr c2) h2
    · refine OpI.t c0 ?_
      exact OpI.n hS (Nat.le_succ t) (Bool.eq_false_iff.mpr c1) (by decide) rfl (AgR.refl G) fun o2 G2 h2 => mg_n (by rw [h.uIdx, h.hold, c0, Bool.eq_false_iff.mpr c1]; rfl) h2
  · exact OpI.n hS (Nat.le_succ t) (Bool.eq_false_iff.mpr c0) (by decide) rfl (AgR.refl G) fun o2 G2 h2 => mg_n (by rw [h.uIdx, Bool.eq_false_iff.mpr c0]; rfl) h2
theorem mSh_eq {w : Nat → Int32} {o : Nat} (u r : Int32) : (∀ x, ¬ (enA o 0 0 ≤ x ∧ x < enA o 0 5) → mSh w o u r x = mOpn w o 0 (mCt w o) x) ∧ mSh w o u r (enA o 0 0) = nI 0 ∧ mSh w o u r (enA o 0 1) = u ∧ mSh w o u r (enA o 0 2) = r ∧ mSh w o u r (enA o 0 3) = b2i true ∧ mSh w o u r (enA o 0 4) = b2i false := by
  unfold mSh
  obtain ⟨m0, m1, m2, m3, m4⟩ := mWrt_0 (mOpn w o 0 (mCt w o)) o 0 0 u r true false
  exact ⟨fun x hx => mWrt_o _ _ _ _ _ _ hx, m0, m1, m2, m3, m4⟩
theorem op_share {G : GS} {t : Nat} (hS : Sim G t) (ht : t < 2 ^ 20) (a0 : Int32) (a1 : Int32) (a2 : Int32) (a3 : Int32) : OpI G fI [eX, eA, eS] (gt (jIdx a0 (G.1 0 1 0)) eX (gt (tHold (G.1 0 4 0) a1) eX (gt (jIdx a2 (G.1 0 1 0)) eX (gt (decide (1 ≤ a3) && decide (a3 ≤ 15)) eA (gt (decide (rAt G a0 a1 &&& (a3 ||| 8) = a3 ||| 8)) eS (gt (decide (sCnt ((jA G a0 a1).2.1 0 9) a1 < 6)) eS (fR (some (.int (rAt (shG a0 a1 a2 a3 G) a2 a1))) (jA (shG a0 a1 a2 a3 G) a2 a1)) (jA G a0 a1)) (jA G a0 a1)) (G)) (G)) (G)) (G)) (fun Y => mg (mIn a0 0 (Y.2.1 0 30 0 - 1) && (mHold (Y.2.1 0 30) a1 && mIn a2 0 (Y.2.1 0 30 0 - 1))) 1 (mg (mIn a3 1 15) 2 (mg (!(!decide (mRg (Y.2.1 0 30) a0 a1.toNatClampNeg &&& (a3 ||| 8) = a3 ||| 8) || decide (Y.2.1 0 30 (oA a1.toNatClampNeg 5) = 6))) 3 (fR (some (.int (mRg (mSh (Y.2.1 0 30) a1.toNatClampNeg a2 a3) a2 a1.toNatClampNeg))) (mWr (mSh (Y.2.1 0 30) a1.toNatClampNeg a2 a3) (mC Y))) (Y)) (Y)) (Y)) (t + 1) := by
  have h := hS.1
  by_cases c0 : jIdx a0 (G.1 0 1 0) = true
  · by_cases c1 : tHold (G.1 0 4 0) a1 = true
    · by_cases c2 : jIdx a2 (G.1 0 1 0) = true
      · obtain ⟨v, hv, hv12, rfl⟩ := h.u_ex c0
        obtain ⟨j, hj, rfl, h1⟩ := h.hold_ex c1
        obtain ⟨u, hu, hu12, rfl⟩ := h.u_ex c2
        have h6 := h.ok.ct6 hj
        have g1 : (mIn (nI v) 0 (G.2.1 0 30 0 - 1) && (mHold (G.2.1 0 30) (nI j) && mIn (nI u) 0 (G.2.1 0 30 0 - 1))) = true := by rw [h.uIdx, h.uIdx, h.hold, c0, c1, c2]; rfl
        refine OpI.t c0 (OpI.t c1 (OpI.t c2 ?_))
        by_cases c3 : (decide (1 ≤ a3) && decide (a3 ≤ 15)) = true
        · refine OpI.t c3 ?_
          have hR : AgR G (jA G (nI v) (nI j)) := (AgR.refl G).jS_ _ _
          have eA : (jA G (nI v) (nI j)).2.1 0 30 = G.2.1 0 30 := hR.w
          rw [h.rAt_ hv hj h1]
          by_cases c4 : mRg (G.2.1 0 30) (nI v) j &&& (a3 ||| 8) = a3 ||| 8
          · refine OpI.t (decide_eq_true c4) ?_
            have ect : sCnt ((jA G (nI v) (nI j)).2.1 0 9) (nI j) = nI (mCt (G.2.1 0 30) j) := h.cnt hj
            rw [ect]
            by_cases c5 : mCt (G.2.1 0 30) j = 6
            · refine OpI.n hS (Nat.le_succ t) (decide_eq_false (by rw [c5]; decide)) (by decide) rfl hR fun o2 G2 h2 => ?_
              rw [eA] at h2
              rw [mg_t g1, mg_t (show mIn a3 1 15 = true from c3)] at h2
              exact mg_n (by rw [nI_clamp (show j < 2 ^ 31 by omega), h.ok.ct hj, c5, decide_eq_true (show nI 6 = 6 from rfl), Bool.or_true]; rfl) h2
            · obtain ⟨r2, hr2, rfl⟩ := r15_ex c3
              refine OpI.t (decide_eq_true (nI_lt (b := 6) (by omega) (by decide))) (OpI.from hR.2.1 ?_)
              have hS2 := hS.agR hR (Nat.le_refl t)
              have h2 := hS2.1
              rw [eA] at h2
              have hK := h2.keep
              obtain ⟨m, m0, m1, m2, m3, m4⟩ := mSh_eq (w := G.2.1 0 30) (o := j) (nI u) (nI r2)
              have hr := hK.add (i := 0) true false hj h1 (by omega) (Nat.zero_le _) (kd := 0) (by decide) hu12 (fun z => by cases z) hr2 (w2 := mSh (G.2.1 0 30) j (nI u) (nI r2)) m m0 m1 m2 m3 m4
              have hX : AgK (sKeep (jA G (nI v) (nI j))) (jA (shG (nI v) (nI j) (nI u) (nI r2) G) (nI u) (nI j)) := ((AgK.refl _).pL _).jS_ _ _
              have hus : mUs (mSh (G.2.1 0 30) j (nI u) (nI r2)) = mUs (G.2.1 0 30) := by
                unfold mUs
                rw [m 0 (by unfold enA; omega), mOpn_at _ _ _ _ _ (by unfold oA; omega) (by unfold enA; omega)]
              have h1b : mSh (G.2.1 0 30) j (nI u) (nI r2) (oA j 0) = 1 := by
                rw [m _ (by unfold enA oA; omega), mOpn_at _ _ _ _ _ (by unfold oA; omega) (by unfold enA oA; omega)]; exact h1
              refine OpI.m (mSh (G.2.1 0 30) j (nI u) (nI r2)) hS2 (Nat.le_succ t) hX ?_ fun o2 G2 h2 => ?_
              · exact hr.congr ((AgR.refl (shG (nI v) (nI j) (nI u) (nI r2) G)).jS_ _ _).2.2 (fun _ _ => rfl) (Nat.le_succ t)
              · rw [hX.w5, eA] at h2
                rw [mg_t g1, mg_t (show mIn (nI r2) 1 15 = true from c3), nI_clamp (show j < 2 ^ 31 by omega), mg_t (by rw [h.ok.ct hj, decide_eq_true c4, decide_eq_false (show ¬ nI (mCt (G.2.1 0 30) j) = 6 from fun z => c5 ((nI_eq (b := 6) (by omega) (by decide)).mp z))]; rfl)] at h2
                obtain ⟨rfl, rfl⟩ := h2
                refine ⟨_, _, rfl, ?_, AgZ.refl _, rfl⟩
                have e := Rel.rAt_ (G := shG (nI v) (nI j) (nI u) (nI r2) G) hr (u := u) (o := j) (by rw [hus]; exact hu) hj h1b
                rw [e]
          · refine OpI.n hS (Nat.le_succ t) (decide_eq_false c4) (by decide) rfl hR fun o2 G2 h2 => ?_
            rw [eA] at h2
            rw [mg_t g1, mg_t (show mIn a3 1 15 = true from c3)] at h2
            exact mg_n (by rw [nI_clamp (show j < 2 ^ 31 by omega), decide_eq_false c4]; rfl) h2
        · exact OpI.n hS (Nat.le_succ t) (Bool.eq_false_iff.mpr c3) (by decide) rfl (AgR.refl G) fun o2 G2 h2 => by
            rw [mg_t g1] at h2
            exact mg_n (show mIn a3 1 15 = false from Bool.eq_false_iff.mpr c3) h2
      · refine OpI.t c0 (OpI.t c1 ?_)
        exact OpI.n hS (Nat.le_succ t) (Bool.eq_false_iff.mpr c2) (by decide) rfl (AgR.refl G) fun o2 G2 h2 => mg_n (by rw [h.uIdx, h.uIdx, h.hold, c0, c1, Bool.eq_false_iff.mpr c2]; rfl) h2
    · refine OpI.t c0 ?_
      exact OpI.n hS (Nat.le_succ t) (Bool.eq_false_iff.mpr c1) (by decide) rfl (AgR.refl G) fun o2 G2 h2 => mg_n (by rw [h.uIdx, h.uIdx, h.hold, c0, Bool.eq_false_iff.mpr c1]; rfl) h2
  · exact OpI.n hS (Nat.le_succ t) (Bool.eq_false_iff.mpr c0) (by decide) rfl (AgR.refl G) fun o2 G2 h2 => mg_n (by rw [h.uIdx, Bool.eq_false_iff.mpr c0]; rfl) h2
/-! an entry is taken out and put in elsewhere -/
theorem mMv_eq {w old : Nat → Int32} {o i t : Nat} (hc : mCt w o ≤ 6) : (∀ x, ¬ (enA o t 0 ≤ x ∧ x < enA o t 5) → mMv w old o i t x = mOpn (mTo w o i (mCt w o)) o t (mCt (mTo w o i (mCt w o)) o) x) ∧ ∀ k, k < 5 → mMv w old o i t (enA o t k) = w (enA o i k) := by
  refine ⟨fun x hx => ?_, fun k hk => ?_⟩
  · rw [mMv, mPu, if_neg (by unfold enA at *; omega), mCt_to hc]
  · rw [mMv, mPu, if_pos (by unfold enA; omega), mOneK, if_pos (by unfold enA; omega)]
    refine congrArg w ?_
    unfold enA; omega
/-- the lists of any world whose state is K's -/
theorem Rel.takeS {S : GS} {w : Nat → Int32} {t : Nat} (h : Rel (S.1 0) (S.2.1 0) w t) {j i : Nat} (hj : j < 20) (h1 : w (oA j 0) = 1) (hi : i < mCt w j) : mvC (nI j) (nI i) S = eC w j i ∧ Rel ((mvT (nI j) (nI i) S).1 0) ((mvT (nI j) (nI i) S).2.1 0) (mTo w j i (mCt w j)) t := by
  obtain ⟨t1, t2⟩ := h.take hj h1 hi
  exact ⟨t1, Rel.pL (w := w) t2⟩
theorem Rel.moveS {T : GS} {w old : Nat → Int32} {t j i q : Nat} {v : Int32} {F A : Nat → Nat → Int32} (h0 : Rel F A w t) (hT : Rel (T.1 0) (T.2.1 0) (mTo w j i (mCt w j)) t) (hj : j < 20) (h1 : w (oA j 0) = 1) (hi : i < mCt w j) (hq : q < mCt w j) (hv : v = eC w j i) : Rel ((mvP (nI j) (nI q) v T).1 0) ((mvP (nI j) (nI q) v T).2.1 0) (mMv w old j i q) t := by
  have h6 := h0.ok.ct6 hj
  obtain ⟨m1, m2⟩ := mMv_eq (w := w) (old := old) (o := j) (i := i) (t := q) h6
  have hmc := mCt_to (w := w) (o := j) (i := i) h6
  have h1b : mTo w j i (mCt w j) (oA j 0) = 1 := by
    rw [mTo, mTk, if_neg (by unfold enA oA; omega), upd_n (by unfold oA; omega)]; exact h1
  have hc := eC_congr (w := w) (w2 := mMv w old j i q) (o := j) (i := q) (o2 := j) (i2 := i) m2
  refine Rel.pL (w := w) (hT.put hj h1b (by omega) (by omega) m1 (hc.2 (h0.eo hj hi)) (fun hk => ?_) (by rw [hv, hc.1]))
  rw [m2 0 (by decide)] at hk
  rw [m2 1 (by decide)]
  exact h0.ok.who hj (by omega) hk
theorem tb_eq {K : GS} {w old : Nat → Int32} {t : Nat} (h : Rel (K.1 0) (K.2.1 0) w t) (v : Nat → Int32) : ∀ k, k < 240 → tbO K 240 v k = mNtK w old 240 k := by
  intro k hk
  unfold tbO mNtK
  rw [if_pos hk, if_pos hk, h.rAtN hk]
theorem mNtK_lt (w old : Nat → Int32) : ∀ k, k < 240 → bLt (mNtK w old 240 k) 4 := by
  intro k hk
  unfold mNtK
  rw [if_pos hk]
  exact mNt_lt w k
theorem op_moveEntry {G : GS} {t : Nat} (hS : Sim G t) (ht : t < 2 ^ 20) (a0 : Int32) (a1 : Int32) (a2 : Int32) : OpI G fI [eX] (gt (tHold (G.1 0 4 0) a0 && jIdx a1 (sCnt (G.2.1 0 9) a0)) eX (gt (tHold (G.1 0 4 0) a0 && jIdx a2 (sCnt (G.2.1 0 9) a0)) eX (mvQ a0 a1 a2 G) (G)) (G)) (fun Y => mg (mEnt (Y.2.1 0 30) a0 a1 && mEnt (Y.2.1 0 30) a0 a2) 1 (fR (some (.int (mUl (mMv (Y.2.1 0 30) (Y.2.1 0 36) a0.toNatClampNeg a1.toNatClampNeg a2.toNatClampNeg) (mNtK (Y.2.1 0 30) (Y.2.1 0 35) 240) 240 0 0))) (mWr (mMv (Y.2.1 0 30) (Y.2.1 0 36) a0.toNatClampNeg a1.toNatClampNeg a2.toNatClampNeg) (mKp a0.toNatClampNeg a1.toNatClampNeg (mNo (mC Y))))) (Y)) (t + 1) := by
  have h := hS.1
  by_cases c0 : (tHold (G.1 0 4 0) a0 && jIdx a1 (sCnt (G.2.1 0 9) a0)) = true
  · by_cases c1 : (tHold (G.1 0 4 0) a0 && jIdx a2 (sCnt (G.2.1 0 9) a0)) = true
    · obtain ⟨j, k, hj, hk, hk6, rfl, rfl, h1⟩ := h.ent_ex c0
      obtain ⟨j2, q, hj2, hq, hq6, ej, rfl, -⟩ := h.ent_ex c1
      have ejj : j = j2 := (nI_eq (by omega) (by omega)).mp ej
      subst ejj
      refine OpI.t c0 (OpI.t c1 ⟨fun v G1 hq9 => ?_, fun E G1 hq9 => ?_⟩)
      · obtain ⟨ja, jb, ja2, jb2, e1, e2⟩ := hq9
        cases e1
        subst e2
        have hS0 : AgK (sKeep G) (jS (jTb (sKeep G)) ja jb) := ((AgK.refl _).a (o := 21) (by decide)).jS_ _ _
        have hR0 : AgR (sKeep G) (jS (jTb (sKeep G)) ja jb) := ((AgR.refl _).a (o := 21) (by decide)).jS_ _ _
        have hr0 : Rel ((jS (jTb (sKeep G)) ja jb).1 0) ((jS (jTb (sKeep G)) ja jb).2.1 0) (G.2.1 0 30) t := h.keep.congr hR0.2.2 (fun _ _ => rfl) (Nat.le_refl t)
        obtain ⟨t1, t2⟩ := hr0.takeS hj h1 hk
        have hr := h.moveS (old := G.2.1 0 36) t2 hj h1 hk hq t1
        have hX : AgK (sKeep G) (jS (mvE (nI j) (nI k) (nI q) (jS (jTb (sKeep G)) ja jb)) ja2 jb2) := ((hS0.pL _).pL _).jS_ _ _
        have hval := hr.unlike (tb := (mvE (nI j) (nI k) (nI q) (jS (jTb (sKeep G)) ja jb)).2.1 0 21) (was := mNtK (G.2.1 0 30) (G.2.1 0 35) 240) (tb_eq h.keep _) (mNtK_lt _ _)
        refine (OpI.m (f := fI) (cs := [eX]) (Qm := fun Y => mg (mEnt (Y.2.1 0 30) (nI j) (nI k) && mEnt (Y.2.1 0 30) (nI j) (nI q)) 1 (fR (some (.int (mUl (mMv (Y.2.1 0 30) (Y.2.1 0 36) (nI j).toNatClampNeg (nI k).toNatClampNeg (nI q).toNatClampNeg) (mNtK (Y.2.1 0 30) (Y.2.1 0 35) 240) 240 0 0))) (mWr (mMv (Y.2.1 0 30) (Y.2.1 0 36) (nI j).toNatClampNeg (nI k).toNatClampNeg (nI q).toNatClampNeg) (mKp (nI j).toNatClampNeg (nI k).toNatClampNeg (mNo (mC Y))))) (Y)) (mMv (G.2.1 0 30) (G.2.1 0 36) j k q) hS (Nat.le_succ t) hX (hr.congr ((AgR.refl _).jS_ _ _).2.2 (fun _ _ => rfl) (Nat.le_succ t)) fun o2 G2 h2 => ?_).1 _ _ ⟨rfl, rfl⟩
        have e30 := hX.w5 (fI (foldI (cdO (mvE (nI j) (nI k) (nI q) (jS (jTb (sKeep G)) ja jb)) ((mvE (nI j) (nI k) (nI q) (jS (jTb (sKeep G)) ja jb)).2.1 0 21)) 12 0 0))
        have e36 : (setO (jS (mvE (nI j) (nI k) (nI q) (jS (jTb (sKeep G)) ja jb)) ja2 jb2) (fI (foldI (cdO (mvE (nI j) (nI k) (nI q) (jS (jTb (sKeep G)) ja jb)) ((mvE (nI j) (nI k) (nI q) (jS (jTb (sKeep G)) ja jb)).2.1 0 21)) 12 0 0))).2.1 0 36 = G.2.1 0 36 := by
          show (jS (mvE (nI j) (nI k) (nI q) (jS (jTb (sKeep G)) ja jb)) ja2 jb2).2.1 0 36 = _
          rw [hX.2.2 36 (by decide) (by decide), sKeep_row]
        have e35 : (setO (jS (mvE (nI j) (nI k) (nI q) (jS (jTb (sKeep G)) ja jb)) ja2 jb2) (fI (foldI (cdO (mvE (nI j) (nI k) (nI q) (jS (jTb (sKeep G)) ja jb)) ((mvE (nI j) (nI k) (nI q) (jS (jTb (sKeep G)) ja jb)).2.1 0 21)) 12 0 0))).2.1 0 35 = G.2.1 0 35 := by
          show (jS (mvE (nI j) (nI k) (nI q) (jS (jTb (sKeep G)) ja jb)) ja2 jb2).2.1 0 35 = _
          rw [hX.2.2 35 (by decide) (by decide), sKeep_row]
        rw [e30, e36, e35] at h2
        rw [mg_t (by rw [h.entE, h.entE, c0, c1]; rfl), nI_clamp (show j < 2 ^ 31 by omega), nI_clamp (show k < 2 ^ 31 by omega), nI_clamp (show q < 2 ^ 31 by omega)] at h2
        obtain ⟨rfl, rfl⟩ := h2
        refine ⟨_, _, rfl, congrArg fI hval.symm, ?_, rfl⟩
        exact ((AgZ.refl _).a (o := 35) (by decide)).a (o := 36) (by decide)
      · obtain ⟨ja, jb, ja2, jb2, e1, e2⟩ := hq9
        cases e1
    · refine OpI.t c0 ?_
      exact OpI.n hS (Nat.le_succ t) (Bool.eq_false_iff.mpr c1) (by decide) rfl (AgR.refl G) fun o2 G2 h2 => mg_n (by rw [h.entE, h.entE, c0, Bool.eq_false_iff.mpr c1]; rfl) h2
  · exact OpI.n hS (Nat.le_succ t) (Bool.eq_false_iff.mpr c0) (by decide) rfl (AgR.refl G) fun o2 G2 h2 => mg_n (by rw [h.entE, Bool.eq_false_iff.mpr c0]; rfl) h2
theorem nd_ag (X : GS) (v : Int64) (j k : Nat) (w : Nat → Int32) : AgX X (mWr w (mKp j k (mNo (ms 0 (setO X v))))) ∧ AgP X (mWr w (mKp j k (mNo (ms 0 (setO X v))))) ∧ SmR (X.1 0) (X.2.1 0) ((mWr w (mKp j k (mNo (ms 0 (setO X v))))).1 0) ((mWr w (mKp j k (mNo (ms 0 (setO X v))))).2.1 0) ∧ (mWr w (mKp j k (mNo (ms 0 (setO X v))))).1 0 29 5 = 0 ∧ (mWr w (mKp j k (mNo (ms 0 (setO X v))))).2.2.2 = v := by
  unfold mWr mKp mNo
  refine ⟨?_, ?_, ?_, ?_, rfl⟩
  · exact (((((AgX.refl X).o (v := v)).f (o := 29) (k := 5) (v := 0) (by decide)).a (o := 35) (by decide)).a (o := 36) (by decide)).a (o := 30) (by decide)
  · exact (((((AgP.refl X).o (v := v)).f (o := 29) (k := 5) (v := 0) (by decide)).a (o := 35) (by decide)).a (o := 36) (by decide)).a (o := 30) (by decide)
  · exact (((SmR.f (G := setO X v) (SmR.refl (X.1 0) (X.2.1 0)) (o := 29) (k := 5) (v := 0) (by decide)).a (o := 35) (by decide)).a (o := 36) (by decide)).a (o := 30) (by decide)
  · rw [putA_fld, putA_fld, putA_fld, ms_5]
theorem op_isNeedless {G : GS} {t : Nat} (hS : Sim G t) (ht : t < 2 ^ 20) (a0 : Int32) (a1 : Int32) : OpI G fZ [eX] (gt (tHold (G.1 0 4 0) a0 && jIdx a1 (sCnt (G.2.1 0 9) a0)) eX (ndQ a0 a1 G) (G)) (fun Y => mg (mEnt (Y.2.1 0 30) a0 a1) 1 (fR (some (.int (b2i (decide (mUl (mTo (Y.2.1 0 30) a0.toNatClampNeg a1.toNatClampNeg (mCt (Y.2.1 0 30) a0.toNatClampNeg)) (mNtK (Y.2.1 0 30) (Y.2.1 0 35) 240) 240 0 0 = 0))))) (mWr (mMv (Y.2.1 0 30) (Y.2.1 0 36) a0.toNatClampNeg a1.toNatClampNeg a1.toNatClampNeg) (mKp a0.toNatClampNeg a1.toNatClampNeg (mNo (ms 0 Y))))) (Y)) (t + 1) := by
  have h := hS.1
  by_cases c0 : (tHold (G.1 0 4 0) a0 && jIdx a1 (sCnt (G.2.1 0 9) a0)) = true
  · obtain ⟨j, k, hj, hk, hk6, rfl, rfl, h1⟩ := h.ent_ex c0
    refine OpI.t c0 ⟨fun v G1 hq9 => ?_, fun E G1 hq9 => ?_⟩
    · obtain ⟨ja, jb, ja2, jb2, e1, e2⟩ := hq9
      cases e1
      subst e2
      have hK0 : AgK G (jS (jTb G) ja jb) := ((AgK.refl _).a (o := 21) (by decide)).jS_ _ _
      have hR0 : AgR G (jS (jTb G) ja jb) := ((AgR.refl _).a (o := 21) (by decide)).jS_ _ _
      have hr0 : Rel ((jS (jTb G) ja jb).1 0) ((jS (jTb G) ja jb).2.1 0) (G.2.1 0 30) t := h.congr hR0.2.2 (fun _ _ => rfl) (Nat.le_refl t)
      obtain ⟨t1, t2⟩ := hr0.takeS hj h1 hk
      have t3 : Rel ((jS (mvT (nI j) (nI k) (jS (jTb G) ja jb)) ja2 jb2).1 0) ((jS (mvT (nI j) (nI k) (jS (jTb G) ja jb)) ja2 jb2).2.1 0) (mTo (G.2.1 0 30) j k (mCt (G.2.1 0 30) j)) t := t2.congr ((AgR.refl _).jS_ _ _).2.2 (fun _ _ => rfl) (Nat.le_refl t)
      have hr := h.moveS (old := G.2.1 0 36) t3 hj h1 hk hk t1
      have hX : AgK G (mvP (nI j) (nI k) (mvC (nI j) (nI k) (jS (jTb G) ja jb)) (jS (mvT (nI j) (nI k) (jS (jTb G) ja jb)) ja2 jb2)) := ((hK0.pL _).jS_ _ _).pL _
      have hval := t2.unlike (tb := (mvT (nI j) (nI k) (jS (jTb G) ja jb)).2.1 0 21) (was := mNtK (G.2.1 0 30) (G.2.1 0 35) 240) (tb_eq h _) (mNtK_lt _ _)
      refine ⟨_, rfl, hX.2, fun o2 G2 h2 => ?_⟩
      rw [hval] at h2 ⊢
      generalize hGX : mvP (nI j) (nI k) (mvC (nI j) (nI k) (jS (jTb G) ja jb)) (jS (mvT (nI j) (nI k) (jS (jTb G) ja jb)) ja2 jb2) = X at hX hr h2
      have e30 : ∀ v : Int64, (setO X v).2.1 0 30 = G.2.1 0 30 := fun _ => hX.2.2 30 (by decide) (by decide)
      have e36 : ∀ v : Int64, (setO X v).2.1 0 36 = G.2.1 0 36 := fun _ => hX.2.2 36 (by decide) (by decide)
      have e35 : ∀ v : Int64, (setO X v).2.1 0 35 = G.2.1 0 35 := fun _ => hX.2.2 35 (by decide) (by decide)
      rw [e30, e36, e35] at h2
      rw [mg_t (by rw [h.entE]; exact c0), nI_clamp (show j < 2 ^ 31 by omega), nI_clamp (show k < 2 ^ 31 by omega)] at h2
      generalize b2i (decide (mUl (mTo (G.2.1 0 30) j k (mCt (G.2.1 0 30) j)) (mNtK (G.2.1 0 30) (G.2.1 0 35) 240) 240 0 0 = 0)) = x at h2 ⊢
      obtain ⟨rfl, rfl⟩ := h2
      obtain ⟨n1, n2, n3, n4, n5⟩ := nd_ag X (fZ x) j k (mMv (G.2.1 0 30) (G.2.1 0 36) j k k)
      exact ⟨x, rfl, rfl, n5, n4, hS.ag (hX.1.1.trans n1) (hS.2.2.2.ag (hX.1.2.trans n2)) (by rw [mWr_row]; exact hr.congr n3 (fun _ _ => rfl) (Nat.le_succ t)) (Nat.le_succ t)⟩
    · obtain ⟨ja, jb, ja2, jb2, e1, e2⟩ := hq9
      cases e1
  · exact OpI.n hS (Nat.le_succ t) (Bool.eq_false_iff.mpr c0) (by decide) rfl (AgR.refl G) fun o2 G2 h2 => mg_n (by rw [h.entE]; exact Bool.eq_false_iff.mpr c0) h2
