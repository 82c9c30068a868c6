/-! undo, restore, openness -/
theorem mRd_lt (a b : Nat → Int32) (t n : Nat) {x : Nat} (hx : x < n) : mRd a b t n x = b (t + x) := by rw [mRd, if_pos hx]
theorem op_undo {G : GS} {t : Nat} (hS : Sim G t) (ht : t < 2 ^ 20)  : OpI G fI [eS] (gt (decide (0 < G.1 0 15 0)) eS (fR (some (.int ((sBack G).1 0 15 0))) (sBack G)) (G)) (fun Y => mg (!decide (mQ Y = 0)) 1 (fR (some (.int (nI (mQ Y - 1)))) (mWr (mRd (Y.2.1 0 30) (Y.2.1 0 31) (765 * (mQ Y - 1)) 765) (mUd Y (mQ Y - 1)))) (Y)) (t + 1) := by
  have h := hS.1
  obtain ⟨hR, ⟨kq, od, h1, h2, h3, h4, h5, h6⟩, hSl, hP⟩ := hS
  have hS : Sim G t := ⟨hR, ⟨kq, od, h1, h2, h3, h4, h5, h6⟩, hSl, hP⟩
  have eq : mQ G = kq := by unfold mQ; rw [h5, nI_clamp (by omega)]
  by_cases c0 : kq = 0
  · refine OpI.n hS (Nat.le_succ t) (decide_eq_false (by rw [h3, c0]; decide)) (by decide) rfl (AgR.refl G) fun o2 G2 h2 => mg_n ?_ h2
    rw [eq, decide_eq_true c0]; rfl
  · have erow : (jMod (G.1 0 15 1 + (G.1 0 15 0 - 1)) 5).toNatClampNeg + 1 = (od + (kq - 1)) % 5 + 1 := by
      rw [h3, h4, nI_m1 (by omega), nI_add, jMod5n _ (by omega), nI_clamp (by omega)]
    have eX : sBack G = cpState 0 ((od + (kq - 1)) % 5 + 1) (putF G 0 15 0 (nI (kq - 1))) := by
      unfold sBack
      rw [erow, h3, nI_m1 (by omega)]
    rw [eX]
    have hcp := cp_to (a := 0) (b := (od + (kq - 1)) % 5 + 1) (putF G 0 15 0 (nI (kq - 1))) (by omega)
    have hoth : ∀ r, (cpState 0 ((od + (kq - 1)) % 5 + 1) (putF G 0 15 0 (nI (kq - 1)))).1 (r + 1) = G.1 (r + 1) ∧ (cpState 0 ((od + (kq - 1)) % 5 + 1) (putF G 0 15 0 (nI (kq - 1)))).2.1 (r + 1) = G.2.1 (r + 1) := by
      intro r
      obtain ⟨z1, z2⟩ := cp_oth (a := 0) (b := (od + (kq - 1)) % 5 + 1) (r := r + 1) (putF G 0 15 0 (nI (kq - 1))) (by omega)
      exact ⟨z1.trans (putF_s _ _ _ _ _), z2⟩
    have hown : ∀ o, 14 ≤ o → (cpState 0 ((od + (kq - 1)) % 5 + 1) (putF G 0 15 0 (nI (kq - 1)))).1 0 o = (putF G 0 15 0 (nI (kq - 1))).1 0 o ∧ (cpState 0 ((od + (kq - 1)) % 5 + 1) (putF G 0 15 0 (nI (kq - 1)))).2.1 0 o = G.2.1 0 o := fun o ho => cp_own (a := 0) _ ho
    have hlv : (cpState 0 ((od + (kq - 1)) % 5 + 1) (putF G 0 15 0 (nI (kq - 1)))).2.2 = G.2.2 := rfl
    generalize cpState 0 ((od + (kq - 1)) % 5 + 1) (putF G 0 15 0 (nI (kq - 1))) = X at hcp hoth hown hlv ⊢
    have hC : AgC G X := ⟨by rw [(hown 29 (by decide)).1, putF_o _ _ _ (by decide)], fun o ho _ => (hown o (by omega)).2⟩
    refine OpI.t (decide_eq_true (by rw [h3]; exact nI_lt (a := 0) (by omega) (by omega))) (OpI.l hC fun o2 G2 hh => ?_)
    have e15 : X.1 0 15 0 = nI (kq - 1) := by rw [(hown 15 (by decide)).1, putF_v]
    rw [e15] at hh ⊢
    have e4 : (setO X (fI (nI (kq - 1)))).1 0 29 = G.1 0 29 := hC.1
    have eqY : mQ (setO X (fI (nI (kq - 1)))) = kq := by
      unfold mQ
      rw [e4, h5, nI_clamp (by omega)]
    have e30 : (setO X (fI (nI (kq - 1)))).2.1 0 30 = G.2.1 0 30 := hC.2 30 (by decide) (by decide)
    have e31 : (setO X (fI (nI (kq - 1)))).2.1 0 31 = G.2.1 0 31 := hC.2 31 (by decide) (by decide)
    rw [eqY, e30, e31, mg_t (by rw [decide_eq_false c0]; rfl)] at hh
    obtain ⟨rfl, rfl⟩ := hh
    have x29 : ∀ k, ¬ k = 4 → ¬ k = 5 → (mWr (mRd (G.2.1 0 30) (G.2.1 0 31) (765 * (kq - 1)) 765) (mUd (setO X (fI (nI (kq - 1)))) (kq - 1))).1 0 29 k = G.1 0 29 k := fun k hk4 hk5 => by
      unfold mWr mUd ms
      rw [putA_fld, putF_k _ _ hk4, putF_k _ _ hk5]
      exact congrFun e4 k
    have x4 : (mWr (mRd (G.2.1 0 30) (G.2.1 0 31) (765 * (kq - 1)) 765) (mUd (setO X (fI (nI (kq - 1)))) (kq - 1))).1 0 29 4 = nI (kq - 1) := by
      unfold mWr mUd
      rw [putA_fld, putF_v]
    have xo : ∀ o, ¬ o = 29 → (mWr (mRd (G.2.1 0 30) (G.2.1 0 31) (765 * (kq - 1)) 765) (mUd (setO X (fI (nI (kq - 1)))) (kq - 1))).1 0 o = X.1 0 o := fun o ho => by
      unfold mWr mUd ms
      rw [putA_fld, putF_o _ _ _ ho, putF_o _ _ _ ho]
      rfl
    have xs : ∀ r, (mWr (mRd (G.2.1 0 30) (G.2.1 0 31) (765 * (kq - 1)) 765) (mUd (setO X (fI (nI (kq - 1)))) (kq - 1))).1 (r + 1) = G.1 (r + 1) := fun r => by
      unfold mWr mUd ms
      rw [putA_fld, putF_s, putF_s]
      exact (hoth r).1
    have ys : ∀ r, (mWr (mRd (G.2.1 0 30) (G.2.1 0 31) (765 * (kq - 1)) 765) (mUd (setO X (fI (nI (kq - 1)))) (kq - 1))).2.1 (r + 1) = G.2.1 (r + 1) := fun r => by
      unfold mWr
      rw [putA_s]
      exact (hoth r).2
    have yo : ∀ o, ¬ o = 30 → (mWr (mRd (G.2.1 0 30) (G.2.1 0 31) (765 * (kq - 1)) 765) (mUd (setO X (fI (nI (kq - 1)))) (kq - 1))).2.1 0 o = X.2.1 0 o := fun o ho => by
      unfold mWr
      rw [putA_o _ _ ho]
      rfl
    have y30 : (mWr (mRd (G.2.1 0 30) (G.2.1 0 31) (765 * (kq - 1)) 765) (mUd (setO X (fI (nI (kq - 1)))) (kq - 1))).2.1 0 30 = mRd (G.2.1 0 30) (G.2.1 0 31) (765 * (kq - 1)) 765 := putA_same _ _ _ _
    have z2 : (mWr (mRd (G.2.1 0 30) (G.2.1 0 31) (765 * (kq - 1)) 765) (mUd (setO X (fI (nI (kq - 1)))) (kq - 1))).2.2.1 = G.2.2.1 := (show X.2.2.1 = G.2.2.1 from congrArg Prod.fst hlv)
    refine ⟨_, rfl, rfl, rfl, ?_, ?_⟩
    · unfold mWr mUd
      rw [putA_fld, putF_k _ _ (by decide), ms_5]
    · generalize mWr (mRd (G.2.1 0 30) (G.2.1 0 31) (765 * (kq - 1)) 765) (mUd (setO X (fI (nI (kq - 1)))) (kq - 1)) = Z at x29 x4 xo xs ys yo y30 z2
      refine ⟨?_, ⟨kq - 1, od, by omega, h2, by rw [xo 15 (by decide)]; exact e15, ?_, x4, ?_⟩, ?_, ?_⟩
      · rw [y30]
        have hrel := h6 (kq - 1) (by omega)
        refine hrel.congr ?_ (fun x hx => by rw [mRd_lt _ _ _ _ hx]) (Nat.le_succ t)
        have hb1 : (putF G 0 15 0 (nI (kq - 1))).1 ((od + (kq - 1)) % 5 + 1) = G.1 ((od + (kq - 1)) % 5 + 1) := putF_s _ _ _ _ _
        have hb2 : (putF G 0 15 0 (nI (kq - 1))).2.1 ((od + (kq - 1)) % 5 + 1) = G.2.1 ((od + (kq - 1)) % 5 + 1) := rfl
        rw [hb1, hb2] at hcp
        refine SmR.trans hcp ⟨⟨?_, ?_, ?_, ?_, ?_, ?_, ?_⟩, ?_, ?_, ?_, ?_, ?_, ?_, ?_, ?_, ?_⟩
        all_goals first
          | rw [xo _ (by decide)]
          | rw [yo _ (by decide)]
      · rw [xo 15 (by decide), (hown 15 (by decide)).1, putF_k _ _ (by decide)]; exact h4
      · intro i hi
        rw [xs, ys, yo 31 (by decide), (hown 31 (by decide)).2]
        exact (h6 i (by omega)).mono (Nat.le_succ t)
      · intro j hj
        rw [xs (j + 5), ys (j + 5), yo 33 (by decide), yo 32 (by decide), (hown 33 (by decide)).2, (hown 32 (by decide)).2, z2]
        rcases hSl j hj with ⟨i1, i2, i3⟩ | i1
        · exact Or.inl ⟨i1, i2, i3.mono (Nat.le_succ t)⟩
        · exact Or.inr i1
      · refine hP.ag ⟨⟨?_, ?_, ?_, ?_⟩, ?_, ?_⟩
        · rw [xo 25 (by decide), (hown 25 (by decide)).1, putF_o _ _ _ (by decide)]
        · rw [yo 26 (by decide), (hown 26 (by decide)).2]
        · rw [x29 7 (by decide) (by decide)]
        · rw [yo 34 (by decide), (hown 34 (by decide)).2]
        · rw [x29 10 (by decide) (by decide)]
        · rw [x29 12 (by decide) (by decide)]
theorem AgK.cp {K : GS} (b : Nat) : AgK K (cpState 0 (b + 1) K) := by
  have hoth : ∀ r, (cpState 0 (b + 1) K).1 (r + 1) = K.1 (r + 1) ∧ (cpState 0 (b + 1) K).2.1 (r + 1) = K.2.1 (r + 1) := fun r => cp_oth (a := 0) (r := r + 1) K (by omega)
  have hown : ∀ o, 14 ≤ o → (cpState 0 (b + 1) K).1 0 o = K.1 0 o ∧ (cpState 0 (b + 1) K).2.1 0 o = K.2.1 0 o := fun o ho => cp_own (a := 0) K ho
  refine ⟨⟨⟨hoth, ⟨?_, ?_, ?_, ?_, ?_, ?_⟩, rfl⟩, ⟨⟨?_, ?_, ?_, ?_⟩, ?_, ?_⟩⟩, ⟨?_, fun o h1 _ => (hown o (by omega)).2⟩⟩
  all_goals first
    | rw [(hown _ (by decide)).1]
    | rw [(hown _ (by decide)).2]
theorem lv_eq {G : GS} {t j : Nat} (h : SimS G t) (hj : j < 2) : (!decide (G.2.1 0 33 j = 0)) = G.2.2.1 j := by
  rcases h j hj with ⟨h1, h2, -⟩ | ⟨h1, h2⟩
  · rw [h1, h2]; rfl
  · rw [h1, h2]; rfl
theorem op_restore {G : GS} {t : Nat} (hS : Sim G t) (ht : t < 2 ^ 20) (a0 : Int32) : OpI G fI [eA, eS] (gt (jIdx a0 2) eA (gt (G.2.2.1 a0.toNatClampNeg) eS (fR (some (.int (jBc ((rsG a0.toNatClampNeg G).1 0 4 0)))) (rsG a0.toNatClampNeg G)) G) G) (fun Y => mg (mIn a0 0 1) 1 (mg (!decide (Y.2.1 0 33 a0.toNatClampNeg = 0)) 2 (fR (some (.int (mHo (mRd (Y.2.1 0 30) (Y.2.1 0 32) (765 * a0.toNatClampNeg) 765) 20 0 0))) (mWr (mRd (Y.2.1 0 30) (Y.2.1 0 32) (765 * a0.toNatClampNeg) 765) (mC Y))) (Y)) (Y)) (t + 1) := by
  have h := hS.1
  have hb : mIn a0 0 1 = jIdx a0 2 := mIn_idx (n := 2) (by decide) a0
  by_cases c0 : jIdx a0 2 = true
  · obtain ⟨j, hj, rfl⟩ := jIdx_ex (n := 2) (by decide) c0
    refine OpI.t c0 ?_
    rw [nI_clamp (show j < 2 ^ 31 by omega)]
    have elv := lv_eq hS.2.2.1 hj
    rcases hS.2.2.1 j hj with ⟨i1, i2, i3⟩ | ⟨i1, i2⟩
    · have hcp := cp_to (a := 0) (b := j + 6) (sKeep G) (by omega)
      have hreg : (sKeep G).1 (j + 6) = G.1 (j + 6) ∧ (sKeep G).2.1 (j + 6) = G.2.1 (j + 6) := by
        obtain ⟨G1, g1, g2, g3, g4, g5, eK⟩ := sKeep_eq G
        have hkr : ¬ j + 6 = kRow G := by
          unfold kRow
          have := jMod5 ((if G.1 0 15 0 < 5 then G.1 0 15 1 else jMod (G.1 0 15 1 + 1) 5) + (if G.1 0 15 0 < 5 then G.1 0 15 0 else G.1 0 15 0 - 1))
          have h5 : ¬ 5 ≤ (jMod ((if G.1 0 15 0 < 5 then G.1 0 15 1 else jMod (G.1 0 15 1 + 1) 5) + (if G.1 0 15 0 < 5 then G.1 0 15 0 else G.1 0 15 0 - 1)) 5).toNatClampNeg := fun z => this (Or.inr z)
          omega
        obtain ⟨z1, z2⟩ := cp_oth (a := kRow G) (b := 0) (r := j + 6) G1 hkr
        rw [eK]
        refine ⟨?_, ?_⟩
        · rw [show j + 6 = (j + 5) + 1 from rfl, putF_s]
          exact z1.trans (g1 (j + 5))
        · exact z2.trans (by rw [g3])
      rw [hreg.1, hreg.2] at hcp
      have hX : AgK (sKeep G) (rsG j G) := AgK.cp (j + 5)
      have hr : Rel ((rsG j G).1 0) ((rsG j G).2.1 0) (mRd (G.2.1 0 30) (G.2.1 0 32) (765 * j) 765) (t + 1) := i3.congr hcp (fun x hx => by rw [mRd_lt _ _ _ _ hx]) (Nat.le_succ t)
      refine OpI.t i1 (OpI.m (mRd (G.2.1 0 30) (G.2.1 0 32) (765 * j) 765) hS (Nat.le_succ t) hX hr fun o2 G2 h2 => ?_)
      have e33 : ∀ v : Int64, (setO (rsG j G) v).2.1 0 33 = G.2.1 0 33 := fun _ => by
        show (rsG j G).2.1 0 33 = _
        rw [hX.2.2 33 (by decide) (by decide), sKeep_row]
      have e32 : ∀ v : Int64, (setO (rsG j G) v).2.1 0 32 = G.2.1 0 32 := fun _ => by
        show (rsG j G).2.1 0 32 = _
        rw [hX.2.2 32 (by decide) (by decide), sKeep_row]
      rw [e33, e32, hX.w5] at h2
      rw [mg_t (by rw [hb]; exact c0), mg_t (by rw [elv]; exact i1)] at h2
      obtain ⟨rfl, rfl⟩ := h2
      refine ⟨_, _, rfl, ?_, AgZ.refl _, rfl⟩
      rw [hr.count]
    · refine OpI.n hS (Nat.le_succ t) i1 (by decide) rfl (AgR.refl G) fun o2 G2 h2 => ?_
      rw [mg_t (by rw [hb]; exact c0)] at h2
      exact mg_n (by rw [elv]; exact i1) h2
  · exact OpI.n hS (Nat.le_succ t) (Bool.eq_false_iff.mpr c0) (by decide) rfl (AgR.refl G) fun o2 G2 h2 => mg_n (by rw [hb]; exact Bool.eq_false_iff.mpr c0) h2
