/-! loadEntries, save -/
section LOAD
variable {K : GS} {w p : Nat → Int32} {t o : Nat}
def wLd (w p : Nat → Int32) (o j : Nat) : Nat → Int32 := nLd (upd w (oA o 5) (nI j)) p o (5 * j)
theorem wLd_in (w p : Nat → Int32) {o j i k : Nat} (hi : i < j) (hk : k < 5) : wLd w p o j (enA o i k) = p (5 * i + k) := by
  unfold wLd
  rw [nLd, if_pos (by unfold enA; omega)]
  refine congrArg p ?_
  unfold enA; omega
theorem wLd_5 (w p : Nat → Int32) (o j : Nat) : wLd w p o j (oA o 5) = nI j := by
  unfold wLd
  rw [nLd, if_neg (by unfold enA oA; omega), upd_s]
theorem wLd_out (w p : Nat → Int32) {o j x : Nat} (hx : ¬ (enA o 0 0 ≤ x ∧ x < enA o 0 0 + 5 * j)) (h5 : ¬ x = oA o 5) : wLd w p o j x = w x := by
  unfold wLd
  rw [nLd, if_neg hx, upd_n h5]
theorem Rel.empty {K : GS} {w p : Nat → Int32} {t o : Nat} (h : Rel (K.1 0) (K.2.1 0) w t) (ho : o < 20) : Rel ((sArr K 0 9 20 (nI o) 0).1 0) ((sArr K 0 9 20 (nI o) 0).2.1 0) (wLd w p o 0) t := by
  rw [sArr_n K 9 0 ho]
  have e : ∀ x, ¬ x = oA o 5 → wLd w p o 0 x = w x := fun x hx => wLd_out w p (by omega) hx
  have e5 : wLd w p o 0 (oA o 5) = 0 := wLd_5 w p o 0
  refine h.setL (fun f h9 _ => putA_o _ _ h9) (fun x hx => e x (by unfold oA; omega)) (fun j k _ hk => e _ (by unfold oA; omega)) (fun j hj => ?_) (mOk_mk h.ok (e _ (by unfold oA; omega)) (e _ (by unfold oA; omega)) (fun j _ => e _ (by unfold oA; omega)) (fun j _ => e _ (by unfold oA; omega)) (fun j hj => ?_) (fun j i hj hi h1 => ?_))
  · show upd (K.2.1 0 9) o 0 j = _ ∧ _
    by_cases hc : j = o
    · subst hc
      have em : mCt (wLd w p j 0) j = 0 := by unfold mCt; rw [e5]; rfl
      rw [upd_s, e5]
      exact ⟨rfl, fun _ => rfl, fun i hi => by rw [em] at hi; omega⟩
    · have e6 : wLd w p o 0 (oA j 5) = w (oA j 5) := e _ (by unfold oA; omega)
      rw [upd_n hc, e6, e _ (by unfold oA; omega)]
      refine ⟨h.ct hj, h.cz hj, fun i hi => ?_⟩
      rw [mCt_eq e6] at hi
      have h6 := h.ok.ct6 hj
      have hcc := eC_congr (w := w) (w2 := wLd w p o 0) (o := j) (i := i) (o2 := j) (i2 := i) (fun k hk => e _ (enA_oA (by omega) hk (by decide)))
      rw [hcc.1]
      exact ⟨h.en hj hi, hcc.2 (h.eo hj hi)⟩
  · by_cases hc : j = o
    · subst hc; exact ⟨0, by decide, e5⟩
    · exact ⟨mCt w j, h.ok.ct6 hj, by rw [e _ (by unfold oA; omega)]; exact h.ok.ct hj⟩
  · have e7 : ∀ k, k < 5 → wLd w p o 0 (enA j i k) = w (enA j i k) := fun k hk => e _ (enA_oA hi hk (by decide))
    rw [e7 0 (by decide)] at h1
    rw [e7 1 (by decide)]
    exact h.ok.who hj hi h1
theorem PE_code {e p : Nat → Int32} {k : Nat} (h : PE e p k) : eKind (e k) = p (5 * k) ∧ eNum (e k) = p (5 * k + 1) := by
  obtain ⟨h1, kd, m, r, hkd, hm, _, hr, e0, e1, e2⟩ := h
  rw [h1, e0, e1, e2]
  exact ⟨(eCode_d kd hkd m hm r hr.2 _ _).2.2.2.1, (eCode_d kd hkd m hm r hr.2 _ _).2.2.2.2⟩
theorem Rel.load1 {T : GS} {w p e : Nat → Int32} {t o j : Nat} (h : Rel (T.1 0) (T.2.1 0) (wLd w p o j) t) (ho : o < 20) (h1 : w (oA o 0) = 1) (hj : j < 6) (hP : PE e p j) : Rel ((mvP (nI o) (nI j) (e j) T).1 0) ((mvP (nI o) (nI j) (e j) T).2.1 0) (wLd w p o (j + 1)) t := by
  have hmc : mCt (wLd w p o j) o = j := mCt_n (wLd_5 w p o j) (by omega)
  have h1b : wLd w p o j (oA o 0) = 1 := by rw [wLd_out w p (by unfold enA oA; omega) (by unfold oA; omega)]; exact h1
  obtain ⟨c1, kd, m, r, hkd, hm, hm8, hr, p0, p1, p2⟩ := hP
  have q : ∀ k, k < 5 → wLd w p o (j + 1) (enA o j k) = p (5 * j + k) := fun k hk => wLd_in w p (by omega) hk
  refine Rel.pL (w := w) (h.put ho h1b (by omega) (by omega) (fun x hx => ?_) ⟨kd, m, r, hkd, hm, hr, (q 0 (by decide)).trans p0, (q 1 (by decide)).trans p1, (q 2 (by decide)).trans p2⟩ (fun hk => ⟨m, hm8 ?_, (q 1 (by decide)).trans p1⟩) ?_)
  · rw [hmc, mOpn_end]
    by_cases h5 : x = oA o 5
    · rw [h5, wLd_5, upd_s]
    · rw [upd_n h5]
      by_cases hc : enA o 0 0 ≤ x ∧ x < enA o 0 0 + 5 * j
      · unfold wLd
        rw [nLd, if_pos (by omega), nLd, if_pos hc]
      · rw [wLd_out w p hc h5, wLd_out w p (by unfold enA at *; omega) h5]
  · rw [(q 0 (by decide)).trans p0] at hk
    exact (nI_eq (b := 1) (by omega) (by decide)).mp hk
  · unfold eC
    rw [q 0 (by decide), q 1 (by decide), q 2 (by decide), q 3 (by decide), q 4 (by decide)]
    exact c1
theorem Rel.loadL {w p : Nat → Int32} {t o n : Nat} {q : lT} (ho : o < 20) (h1 : w (oA o 0) = 1) (hn : n ≤ 6) (hq1 : q.2.1 = nI o) (hq2 : q.2.2.1 = nI n) (hP : ∀ k, k < n → PE q.2.2.2 p k) : ∀ (m j : Nat) (T : GS), m + j = 6 → j ≤ n → Rel (T.1 0) (T.2.1 0) (wLd w p o j) t → Rel ((ldL q m j T).1 0) ((ldL q m j T).2.1 0) (wLd w p o n) t := by
  intro m
  induction m with
  | zero =>
    intro j T hm hj h
    rw [ldL, show n = j by omega]
    exact h
  | succ m ih =>
    intro j T hm hj h
    rw [ldL, hq1, hq2]
    by_cases hc : j < n
    · rw [if_pos (nI_lt hc (by omega))]
      exact ih (j + 1) _ (by omega) (by omega) (h.load1 ho h1 (by omega) (hP j hc))
    · rw [if_neg (nI_nlt (by omega) (by omega)), show n = j by omega]
      exact h
theorem AgK.ld {K : GS} (q : lT) : ∀ (m j : Nat) (T : GS), AgK K T → AgK K (ldL q m j T) := by
  intro m
  induction m with
  | zero => intro j T h; exact h
  | succ m ih =>
    intro j T h
    rw [ldL]
    by_cases hc : nI j < q.2.2.1
    · rw [if_pos hc]; exact ih _ _ (h.pL _)
    · rw [if_neg hc]; exact h
theorem Rel.known {G : GS} {w p : Nat → Int32} {t n : Nat} {q : lT} (h : Rel (G.1 0) (G.2.1 0) w t) (hn : n ≤ 6) (hq2 : q.2.2.1 = nI n) (hP : ∀ k, k < n → PE q.2.2.2 p k) : ∀ (m k j : Nat), m + j = 6 → k + j = n → knL G q m j = nTL w p k j true := by
  intro m
  induction m with
  | zero => intro k j hm hk; rw [show k = 0 by omega]; rfl
  | succ m ih =>
    intro k j hm hk
    rw [knL, hq2]
    cases k with
    | zero => rw [if_neg (nI_nlt (by omega) (by omega))]; rfl
    | succ k =>
      obtain ⟨k1, k2⟩ := PE_code (hP j (by omega))
      rw [if_pos (nI_lt (by omega) (by omega)), nTL, k1, k2, h.uIdx, h.gIdx, Bool.true_and]
      by_cases hc : (p (5 * j) = 0 ∧ jIdx (p (5 * j + 1)) (G.1 0 1 0) = false) ∨ (p (5 * j) = 1 ∧ jIdx (p (5 * j + 1)) (G.1 0 1 1) = false)
      · rw [if_pos hc]
        have e : ((!decide (p (5 * j) = 0) || jIdx (p (5 * j + 1)) (G.1 0 1 0)) && (!decide (p (5 * j) = 1) || jIdx (p (5 * j + 1)) (G.1 0 1 1))) = false := by
          rcases hc with ⟨c1, c2⟩ | ⟨c1, c2⟩
          · rw [c2, decide_eq_true c1]; rfl
          · rw [c2, decide_eq_true c1]; simp
        rw [e, nTL_f]
      · rw [if_neg hc]
        have e : ((!decide (p (5 * j) = 0) || jIdx (p (5 * j + 1)) (G.1 0 1 0)) && (!decide (p (5 * j) = 1) || jIdx (p (5 * j + 1)) (G.1 0 1 1))) = true := by
          rw [Bool.and_eq_true]
          constructor
          · by_cases c1 : p (5 * j) = 0
            · cases c2 : jIdx (p (5 * j + 1)) (G.1 0 1 0) with
              | true => exact Bool.or_true _
              | false => exact absurd (Or.inl ⟨c1, c2⟩) hc
            · rw [decide_eq_false c1]; rfl
          · by_cases c1 : p (5 * j) = 1
            · cases c2 : jIdx (p (5 * j + 1)) (G.1 0 1 1) with
              | true => exact Bool.or_true _
              | false => exact absurd (Or.inr ⟨c1, c2⟩) hc
            · rw [decide_eq_false c1]; rfl
        rw [e]
        exact ih k (j + 1) (by omega) (by omega)
end LOAD
theorem nR_setO (X : GS) (v : Int64) : nR (setO X v) = nR X := by
  have e1 : nG (setO X v) = nG X := rfl
  have e7 : (ms 0 (setO X v)).1 0 29 7 = (ms 0 X).1 0 29 7 := rfl
  have e34 : (ms 0 (setO X v)).2.1 0 34 = (ms 0 X).2.1 0 34 := rfl
  unfold nR
  rw [e1]
  exact nWr_c e7 e34 _
theorem nLQ_f {Y : GS} {M : Int32 × nT} (e : nR Y = M) (h : (decide (M.1 = -1) && nTh (Y.2.1 0 30) M.2) = false) {o2 : cOut} {G2 : GS} (h2 : nLQ Y o2 G2) : o2 = .inl (some (.int 0)) ∧ G2 = nP (ms 1 Y) M.2 := by
  unfold nLQ at h2
  rw [e, if_neg (by rw [h]; decide)] at h2
  exact h2
theorem nP_5 (G : GS) (q : nT) : (nP G q).1 0 29 5 = G.1 0 29 5 := by
  unfold nP
  rw [putA_fld, putF_k _ _ (by decide), putF_k _ _ (by decide), putF_k _ _ (by decide), putF_k _ _ (by decide)]
theorem ld_fail {G : GS} {t : Nat} {R : Bool × lT} {M : Int32 × nT} (hS : Sim G t) (eM : nR (lP G R.2) = M) (r3 : M.2.1 ≤ 80) (r4 : M.2.2.2.1 ≤ 6) (hf : (decide (M.1 = -1) && nTh (G.2.1 0 30) M.2) = false) {b : Bool} {X : cOut → GS → Prop} (hb : b = false) : OpI G fI [eS] (gt b eS X (lP G R.2)) (fun Y => nLQ Y) (t + 1) := by
  have hR : AgR G (lP G R.2) := (AgR.refl G).lP_ _
  refine ⟨fun v G1 h => ?_, fun E1 G1 h => ?_⟩
  · unfold gt at h
    rw [if_neg (by rw [hb]; decide)] at h
    cases h.1
  · unfold gt at h
    rw [if_neg (by rw [hb]; decide)] at h
    obtain ⟨h1, rfl⟩ := h
    cases h1
    refine ⟨by decide, hR.2.1, fun o2 G2 h2 => ?_⟩
    obtain ⟨rfl, rfl⟩ := nLQ_f eM hf h2
    exact ⟨0, rfl, by rw [nP_5, ms_5]; rfl, ((hS.agR hR (Nat.le_refl t)).ms_ 1 (Nat.le_refl t)).nP_ _ r3 r4 (Nat.le_succ t)⟩
theorem op_loadEntries {G : GS} {t : Nat} (hS : Sim G t) (ht : t < 2 ^ 20)  : OpI G fI [eS] (gt (rdG G).1 eS (gt (kn G (rdG G).2) eS (fR (some (.int (sCnt ((ldG (rdG G).2 G).2.1 0 9) (rdG G).2.2.1))) (lP (ldG (rdG G).2 G) (rdG G).2)) (lP G (rdG G).2)) (lP G (rdG G).2)) (fun Y => nLQ Y) (t + 1) := by
  have h := hS.1
  obtain ⟨⟨n, hp⟩, ⟨a, ea, ha⟩, ⟨b, eb, hb⟩⟩ := hS.2.2.2
  have hE : RdE (rdG G) (nWr G (nG G)) := read_at hp (lG G) (nG G)
  have eM0 : ∀ q : lT, nR (lP G q) = nWr G (nG G) := nR_lP G
  generalize rdG G = R at hE ⊢
  generalize nWr G (nG G) = M at hE eM0
  obtain ⟨r1, r2, r3, r4⟩ := hE
  by_cases c0 : R.1 = true
  · obtain ⟨m1, m2, m3, m4, m5⟩ := r1 c0
    have ek : kn G R.2 = nTh (G.2.1 0 30) M.2 := by
      unfold kn nTh
      rw [← h.hold, m2]
      by_cases hh : mHold (G.2.1 0 30) M.2.2.1 = true
      · rw [if_pos hh, hh]
        exact h.known m3 m4 m5 6 M.2.2.2.1 0 rfl rfl
      · rw [if_neg hh, Bool.eq_false_iff.mpr hh, nTL_f]
    refine OpI.t c0 ?_
    by_cases c1 : kn G R.2 = true
    · have hth : nTh (G.2.1 0 30) M.2 = true := by rw [← ek]; exact c1
      obtain ⟨o, ho, eo⟩ := mHold_nI (nTh_hold hth)
      have h1 : G.2.1 0 30 (oA o 0) = 1 := by
        have := nTh_hold hth
        rw [eo, h.hold, h.holdn ho, decide_eq_true_eq] at this
        exact this
      have hKr : Rel ((ldL R.2 6 0 (sArr (sKeep G) 0 9 20 R.2.2.1 0)).1 0) ((ldL R.2 6 0 (sArr (sKeep G) 0 9 20 R.2.2.1 0)).2.1 0) (wLd (G.2.1 0 30) M.2.2.2.2.2 o M.2.2.2.1) t := by
        rw [m2, eo]
        exact Rel.loadL ho h1 m3 (m2.trans eo) m4 m5 6 0 _ rfl (Nat.zero_le _) (h.keep.empty ho)
      have hT : AgK (sKeep G) (ldL R.2 6 0 (sArr (sKeep G) 0 9 20 R.2.2.1 0)) := AgK.ld _ _ _ _ ((AgK.refl _).sA (by decide))
      have hcnt : sCnt ((ldG R.2 G).2.1 0 9) R.2.2.1 = nI M.2.2.2.1 := by
        rw [m2, eo]
        have := hKr.cnt ho
        rw [mCt_n (wLd_5 _ _ _ _) (by omega)] at this
        rw [← eo, ← m2] at this ⊢
        exact this
      rw [hcnt]
      have hT2 : AgX (sKeep G) (lP (ldG R.2 G) R.2) := ((((hT.1.1.f (o := 25) (k := 0) (by decide)).f (o := 27) (k := 0) (by decide)).f (o := 27) (k := 1) (by decide)).f (o := 27) (k := 2) (by decide)).a (o := 28) (by decide)
      have hT3 : AgC (sKeep G) (lP (ldG R.2 G) R.2) := ((((hT.2.f (o := 25) (k := 0) (by decide)).f (o := 27) (k := 0) (by decide)).f (o := 27) (k := 1) (by decide)).f (o := 27) (k := 2) (by decide)).a (o := 28) (by decide)
      have hT4 : SmR ((ldL R.2 6 0 (sArr (sKeep G) 0 9 20 R.2.2.1 0)).1 0) ((ldL R.2 6 0 (sArr (sKeep G) 0 9 20 R.2.2.1 0)).2.1 0) ((lP (ldG R.2 G) R.2).1 0) ((lP (ldG R.2 G) R.2).2.1 0) := (((((SmR.refl _ _).f (G := ldL R.2 6 0 (sArr (sKeep G) 0 9 20 R.2.2.1 0)) (o := 25) (k := 0) (by decide)).f (o := 27) (k := 0) (by decide)).f (o := 27) (k := 1) (by decide)).f (o := 27) (k := 2) (by decide)).a (o := 28) (by decide)
      have hP0 : (lP (ldG R.2 G) R.2).1 0 25 0 = 0 := by
        unfold lP ldG
        rw [putA_fld, putF_o _ _ _ (by decide), putF_o _ _ _ (by decide), putF_o _ _ _ (by decide), putF_v]
      have eR : nR (lP (ldG R.2 G) R.2) = M := by
        rw [nR_lP, ← eM0 R.2, nR_lP]
        have f29 : (ldG R.2 G).1 0 29 = G.1 0 29 := by
          unfold ldG
          rw [putF_o _ _ _ (by decide), hT.2.1, sKeep_fld G (by decide)]
        have f34 : (ldG R.2 G).2.1 0 34 = G.2.1 0 34 := (hT.2.2 34 (by decide) (by decide)).trans (congrFun (sKeep_row G) 34)
        have f37 : (ldG R.2 G).2.1 0 37 = G.2.1 0 37 := (hT.2.2 37 (by decide) (by decide)).trans (congrFun (sKeep_row G) 37)
        have eg : nG (ldG R.2 G) = nG G := by unfold nG; rw [f29, f37]
        rw [eg]
        exact nWr_c (by rw [f29]) f34 _
      generalize lP (ldG R.2 G) R.2 = X at hT2 hT3 hT4 hP0 eR ⊢
      have e30 : X.2.1 0 30 = G.2.1 0 30 := (hT3.2 30 (by decide) (by decide)).trans (congrFun (sKeep_row G) 30)
      refine OpI.t c1 (OpI.l ((AgC.keep G).trans hT3) fun o2 G2 h2 => ?_)
      have eRo : nR (setO X (fI (nI M.2.2.2.1))) = M := (nR_setO X _).trans eR
      have h2 : nLQ (setO X (fI (nI M.2.2.2.1))) o2 G2 := h2
      unfold nLQ at h2
      rw [eRo] at h2
      rw [if_pos (by rw [decide_eq_true m1, Bool.true_and]; show nTh (X.2.1 0 30) M.2 = true; rw [e30]; exact hth)] at h2
      obtain ⟨rfl, rfl⟩ := h2
      have eW : nLw ((setO X (fI (nI M.2.2.2.1))).2.1 0 30) M.2 M.2.2.1.toNatClampNeg = wLd (G.2.1 0 30) M.2.2.2.2.2 o M.2.2.2.1 := by
        show nLw (X.2.1 0 30) M.2 M.2.2.1.toNatClampNeg = _
        rw [e30, eo, nI_clamp (by omega)]
        rfl
      refine ⟨_, rfl, rfl, ?_, ?_, ?_⟩
      · show (mC (setO X (fI (nI M.2.2.2.1)))).2.2.2 = _
        rw [mC_lv]; rfl
      · unfold nLq
        rw [nP_5, putF_k _ _ (by decide)]
        show (mC (setO X (fI (nI M.2.2.2.1)))).1 0 29 5 = 0
        exact mC_5 _
      · unfold nLq nP mWr
        rw [eW]
        have hY : AgX (sKeep G) (setO X (fI (nI M.2.2.2.1))) := hT2
        have x25 : (mC (setO X (fI (nI M.2.2.2.1)))).1 0 25 0 = 0 := by
          rw [mC_f _ (by decide)]; exact hP0
        generalize hv9 : setO X (fI (nI M.2.2.2.1)) = Y at hY x25 ⊢
        have hYr : Y.2.1 0 30 = (sKeep G).2.1 0 30 := by rw [← hv9]; exact hT3.2 30 (by decide) (by decide)
        have hYs : Rel (Y.1 0) (Y.2.1 0) (wLd (G.2.1 0 30) M.2.2.2.2.2 o M.2.2.2.1) (t + 1) := by rw [← hv9]; exact hKr.congr hT4 (fun _ _ => rfl) (Nat.le_succ t)
        refine hS.op (X := Y) hY hYr ((((((((AgX.refl (mC Y)).a (o := 30) (by decide)).f (o := 29) (k := 7) (by decide)).f (o := 29) (k := 10) (by decide)).f (o := 29) (k := 11) (by decide)).f (o := 29) (k := 12) (by decide)).f (o := 29) (k := 13) (by decide)).a (o := 37) (by decide)) ((((((((AgM.refl (mC Y)).a (o := 30) (by decide)).f (k := 7)).f (k := 10)).f (k := 11)).f (k := 12)).f (k := 13)).a (o := 37) (by decide)) ⟨⟨0, by decide, ?_, ?_, fun i hi => absurd hi (Nat.not_lt_zero i)⟩, ⟨M.2.1, ?_, by omega⟩, ⟨M.2.2.2.1, ?_, by omega⟩⟩ (w2 := wLd (G.2.1 0 30) M.2.2.2.2.2 o M.2.2.2.1) ?_ hYs (Nat.le_succ t)
        · rw [putA_fld, putF_o _ _ _ (by decide), putF_o _ _ _ (by decide), putF_o _ _ _ (by decide), putF_o _ _ _ (by decide), putF_o _ _ _ (by decide), putA_fld]
          exact x25
        · rw [putA_fld, putF_k _ _ (by decide), putF_k _ _ (by decide), putF_k _ _ (by decide), putF_k _ _ (by decide), putF_v]; rfl
        · rw [putA_fld, putF_k _ _ (by decide), putF_k _ _ (by decide), putF_k _ _ (by decide), putF_v]
        · rw [putA_fld, putF_k _ _ (by decide), putF_v]
        · rw [putA_o _ _ (by decide)]
          show (putA (mC Y) 0 30 (wLd (G.2.1 0 30) M.2.2.2.2.2 o M.2.2.2.1)).2.1 0 30 = _
          exact putA_same _ _ _ _
    · exact ld_fail (R := R) hS (eM0 R.2) r3 r4 (by rw [← ek, Bool.eq_false_iff.mpr c1, Bool.and_false]) (Bool.eq_false_iff.mpr c1)
  · obtain ⟨q1, q2⟩ := r2 (Bool.eq_false_iff.mpr c0)
    exact ld_fail (R := R) hS (eM0 R.2) r3 r4 (by rw [decide_eq_false q2]; rfl) (Bool.eq_false_iff.mpr c0)
