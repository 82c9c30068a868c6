/-! the operations that only read -/
theorem Rel.entE {F A : Nat → Nat → Int32} {w : Nat → Int32} {t : Nat} (h : Rel F A w t) (o i : Int32) : mEnt w o i = (tHold (F 4 0) o && jIdx i (sCnt (A 9) o)) := by
  unfold mEnt
  rw [h.hold]
  by_cases hc : tHold (F 4 0) o = true
  · obtain ⟨j, hj, rfl, h1⟩ := h.hold_ex hc
    rw [hc, Bool.true_and, Bool.true_and, nI_clamp (by omega), h.ok.ct hj, h.cnt hj, mIn_idx (by have := h.ok.ct6 hj; omega)]
  · rw [Bool.eq_false_iff.mpr hc, Bool.false_and, Bool.false_and]
theorem Rel.ent_ex {F A : Nat → Nat → Int32} {w : Nat → Int32} {t : Nat} (h : Rel F A w t) {o i : Int32} (hc : (tHold (F 4 0) o && jIdx i (sCnt (A 9) o)) = true) : ∃ j k, j < 20 ∧ k < mCt w j ∧ k < 6 ∧ o = nI j ∧ i = nI k ∧ w (oA j 0) = 1 := by
  obtain ⟨h1, h2⟩ := Bool.and_eq_true_iff.mp hc
  obtain ⟨j, hj, rfl, h3⟩ := h.hold_ex h1
  rw [h.cnt hj] at h2
  have h6 := h.ok.ct6 hj
  obtain ⟨k, hk, rfl⟩ := jIdx_ex (by omega) h2
  exact ⟨j, k, hj, hk, by omega, rfl, rfl, h3⟩
theorem Rel.u_ex {F A : Nat → Nat → Int32} {w : Nat → Int32} {t : Nat} (h : Rel F A w t) {u : Int32} (hc : jIdx u (F 1 0) = true) : ∃ j, j < mUs w ∧ j < 12 ∧ u = nI j := by
  have h12 := h.ok.us12
  rw [h.us] at hc
  obtain ⟨j, hj, rfl⟩ := jIdx_ex (by omega) hc
  exact ⟨j, hj, by omega, rfl⟩
theorem Rel.g_ex {F A : Nat → Nat → Int32} {w : Nat → Int32} {t : Nat} (h : Rel F A w t) {u : Int32} (hc : jIdx u (F 1 1) = true) : ∃ j, j < mGs w ∧ j < 8 ∧ u = nI j := by
  have h12 := h.ok.gs8
  rw [h.gs] at hc
  obtain ⟨j, hj, rfl⟩ := jIdx_ex (by omega) hc
  exact ⟨j, hj, by omega, rfl⟩
theorem mIn_r (r : Int32) : mIn r 0 3 = jIdx r 4 := mIn_idx (n := 4) (by decide) r
theorem r_ex {r : Int32} (hc : jIdx r 4 = true) : ∃ j, j < 4 ∧ r = nI j := jIdx_ex (n := 4) (by decide) hc
theorem dec_neg {x : Int32} {n : Nat} (h : x = -1 ∨ x = nI n) (hn : n < 2 ^ 31) : (x = -1) ↔ (x < 0) := by
  rcases h with rfl | rfl
  · exact ⟨fun _ => by decide, fun _ => rfl⟩
  · exact ⟨fun z => absurd z.symm (neg1_ne hn), fun z => absurd z (nI_pos hn)⟩
theorem op_parentOf {G : GS} {t : Nat} (hS : Sim G t) (ht : t < 2 ^ 20) (a0 : Int32) : OpI G fI [eX] (gt (tHold (G.1 0 4 0) a0) eX (fR (some (.int (tAt (G.1 0 4 0) (G.2.1 0 5) a0 (-1)))) G) (G)) (fun Y => mOv (mHold (Y.2.1 0 30) a0) (Y.2.1 0 30 (oA a0.toNatClampNeg 1)) Y) t := by
  have h := hS.1
  by_cases c0 : tHold (G.1 0 4 0) a0 = true
  · obtain ⟨j, hj, rfl, h1⟩ := h.hold_ex c0
    refine OpI.t c0 ?_
    have hR : AgR G G := AgR.refl G
    refine OpI.r (y := G.2.1 0 30 (oA (nI j).toNatClampNeg 1)) hS (Nat.le_refl t) hR ?_ fun o2 G2 h2 => ?_
    · rw [nI_clamp (show j < 2 ^ 31 by omega), h.tAt5 hj h1]
    · have e30 := hR.w
      rw [show ∀ v : Int64, (setO G v).2.1 0 30 = G.2.1 0 30 from fun _ => e30] at h2
      rw [mOv, mg_t (by rw [h.hold]; exact c0)] at h2
      exact h2
  · exact OpI.n hS (Nat.le_refl t) (Bool.eq_false_iff.mpr c0) (by decide) rfl (AgR.refl G) fun o2 G2 h2 => mg_n (by rw [h.hold]; exact Bool.eq_false_iff.mpr c0) h2
theorem op_ownerOf {G : GS} {t : Nat} (hS : Sim G t) (ht : t < 2 ^ 20) (a0 : Int32) : OpI G fI [eX] (gt (tHold (G.1 0 4 0) a0) eX (fR (some (.int (tAt (G.1 0 4 0) (G.2.1 0 6) a0 (-1)))) G) (G)) (fun Y => mOv (mHold (Y.2.1 0 30) a0) (Y.2.1 0 30 (oA a0.toNatClampNeg 2)) Y) t := by
  have h := hS.1
  by_cases c0 : tHold (G.1 0 4 0) a0 = true
  · obtain ⟨j, hj, rfl, h1⟩ := h.hold_ex c0
    refine OpI.t c0 ?_
    have hR : AgR G G := AgR.refl G
    refine OpI.r (y := G.2.1 0 30 (oA (nI j).toNatClampNeg 2)) hS (Nat.le_refl t) hR ?_ fun o2 G2 h2 => ?_
    · rw [nI_clamp (show j < 2 ^ 31 by omega), h.tAt6 hj h1]
    · have e30 := hR.w
      rw [show ∀ v : Int64, (setO G v).2.1 0 30 = G.2.1 0 30 from fun _ => e30] at h2
      rw [mOv, mg_t (by rw [h.hold]; exact c0)] at h2
      exact h2
  · exact OpI.n hS (Nat.le_refl t) (Bool.eq_false_iff.mpr c0) (by decide) rfl (AgR.refl G) fun o2 G2 h2 => mg_n (by rw [h.hold]; exact Bool.eq_false_iff.mpr c0) h2
theorem op_maskOf {G : GS} {t : Nat} (hS : Sim G t) (ht : t < 2 ^ 20) (a0 : Int32) : OpI G fI [eX] (gt (tHold (G.1 0 4 0) a0) eX (fR (some (.int (tAt (G.1 0 4 0) (G.2.1 0 7) a0 0))) G) (G)) (fun Y => mOv (mHold (Y.2.1 0 30) a0) (Y.2.1 0 30 (oA a0.toNatClampNeg 3)) Y) t := by
  have h := hS.1
  by_cases c0 : tHold (G.1 0 4 0) a0 = true
  · obtain ⟨j, hj, rfl, h1⟩ := h.hold_ex c0
    refine OpI.t c0 ?_
    have hR : AgR G G := AgR.refl G
    refine OpI.r (y := G.2.1 0 30 (oA (nI j).toNatClampNeg 3)) hS (Nat.le_refl t) hR ?_ fun o2 G2 h2 => ?_
    · rw [nI_clamp (show j < 2 ^ 31 by omega), h.tAt7 hj h1]
    · have e30 := hR.w
      rw [show ∀ v : Int64, (setO G v).2.1 0 30 = G.2.1 0 30 from fun _ => e30] at h2
      rw [mOv, mg_t (by rw [h.hold]; exact c0)] at h2
      exact h2
  · exact OpI.n hS (Nat.le_refl t) (Bool.eq_false_iff.mpr c0) (by decide) rfl (AgR.refl G) fun o2 G2 h2 => mg_n (by rw [h.hold]; exact Bool.eq_false_iff.mpr c0) h2
theorem op_isInheriting {G : GS} {t : Nat} (hS : Sim G t) (ht : t < 2 ^ 20) (a0 : Int32) : OpI G fZ [eX] (gt (tHold (G.1 0 4 0) a0) eX (fR (some (.int (b2i (jHas (G.1 0 4 1) a0)))) G) (G)) (fun Y => mOv (mHold (Y.2.1 0 30) a0) (b2i (decide (Y.2.1 0 30 (oA a0.toNatClampNeg 4) = 1))) Y) t := by
  have h := hS.1
  by_cases c0 : tHold (G.1 0 4 0) a0 = true
  · obtain ⟨j, hj, rfl, h1⟩ := h.hold_ex c0
    refine OpI.t c0 ?_
    have hR : AgR G G := AgR.refl G
    refine OpI.r (y := b2i (decide (G.2.1 0 30 (oA (nI j).toNatClampNeg 4) = 1))) hS (Nat.le_refl t) hR ?_ fun o2 G2 h2 => ?_
    · rw [nI_clamp (show j < 2 ^ 31 by omega), h.inh hj h1]
    · have e30 := hR.w
      rw [show ∀ v : Int64, (setO G v).2.1 0 30 = G.2.1 0 30 from fun _ => e30] at h2
      rw [mOv, mg_t (by rw [h.hold]; exact c0)] at h2
      exact h2
  · exact OpI.n hS (Nat.le_refl t) (Bool.eq_false_iff.mpr c0) (by decide) rfl (AgR.refl G) fun o2 G2 h2 => mg_n (by rw [h.hold]; exact Bool.eq_false_iff.mpr c0) h2
theorem op_below {G : GS} {t : Nat} (hS : Sim G t) (ht : t < 2 ^ 20) (a0 : Int32) : OpI G fI [eX] (gt (tHold (G.1 0 4 0) a0) eX (fR (some (.int (cUnd (G.1 0 4 0) (G.2.1 0 5) a0 20 0 0))) G) (G)) (fun Y => mOv (mHold (Y.2.1 0 30) a0) (mBls (Y.2.1 0 30) a0 20 0 0) Y) t := by
  have h := hS.1
  by_cases c0 : tHold (G.1 0 4 0) a0 = true
  · obtain ⟨j, hj, rfl, h1⟩ := h.hold_ex c0
    refine OpI.t c0 ?_
    have hR : AgR G G := AgR.refl G
    refine OpI.r (y := mBls (G.2.1 0 30) (nI j) 20 0 0) hS (Nat.le_refl t) hR ?_ fun o2 G2 h2 => ?_
    · rw [h.cund hj 20 0 0 (by decide)]
    · have e30 := hR.w
      rw [show ∀ v : Int64, (setO G v).2.1 0 30 = G.2.1 0 30 from fun _ => e30] at h2
      rw [mOv, mg_t (by rw [h.hold]; exact c0)] at h2
      exact h2
  · exact OpI.n hS (Nat.le_refl t) (Bool.eq_false_iff.mpr c0) (by decide) rfl (AgR.refl G) fun o2 G2 h2 => mg_n (by rw [h.hold]; exact Bool.eq_false_iff.mpr c0) h2
theorem op_entriesOf {G : GS} {t : Nat} (hS : Sim G t) (ht : t < 2 ^ 20) (a0 : Int32) : OpI G fI [eX] (gt (tHold (G.1 0 4 0) a0) eX (fR (some (.int (sCnt (G.2.1 0 9) a0))) G) (G)) (fun Y => mOv (mHold (Y.2.1 0 30) a0) (Y.2.1 0 30 (oA a0.toNatClampNeg 5)) Y) t := by
  have h := hS.1
  by_cases c0 : tHold (G.1 0 4 0) a0 = true
  · obtain ⟨j, hj, rfl, h1⟩ := h.hold_ex c0
    refine OpI.t c0 ?_
    have hR : AgR G G := AgR.refl G
    refine OpI.r (y := G.2.1 0 30 (oA (nI j).toNatClampNeg 5)) hS (Nat.le_refl t) hR ?_ fun o2 G2 h2 => ?_
    · rw [nI_clamp (show j < 2 ^ 31 by omega), h.cnt hj, h.ok.ct hj]
    · have e30 := hR.w
      rw [show ∀ v : Int64, (setO G v).2.1 0 30 = G.2.1 0 30 from fun _ => e30] at h2
      rw [mOv, mg_t (by rw [h.hold]; exact c0)] at h2
      exact h2
  · exact OpI.n hS (Nat.le_refl t) (Bool.eq_false_iff.mpr c0) (by decide) rfl (AgR.refl G) fun o2 G2 h2 => mg_n (by rw [h.hold]; exact Bool.eq_false_iff.mpr c0) h2
theorem op_isAllowing {G : GS} {t : Nat} (hS : Sim G t) (ht : t < 2 ^ 20) (a0 : Int32) (a1 : Int32) : OpI G fZ [eX] (gt (tHold (G.1 0 4 0) a0 && jIdx a1 (sCnt (G.2.1 0 9) a0)) eX (fR (some (.int (b2i (eAllows (sEnt (G.2.1 0 10) a0 a1))))) G) (G)) (fun Y => mOv (mEnt (Y.2.1 0 30) a0 a1) (b2i (decide (Y.2.1 0 30 (enA a0.toNatClampNeg a1.toNatClampNeg 3) = 1))) Y) t := by
  have h := hS.1
  by_cases c0 : (tHold (G.1 0 4 0) a0 && jIdx a1 (sCnt (G.2.1 0 9) a0)) = true
  · obtain ⟨j, k, hj, hk, hk6, rfl, rfl, h1⟩ := h.ent_ex c0
    have he := h.eo hj hk
    have hd := eC_d he
    have hen := h.en hj hk
    refine OpI.t c0 ?_
    have hR : AgR G G := AgR.refl G
    refine OpI.r (y := b2i (decide (G.2.1 0 30 (enA (nI j).toNatClampNeg (nI k).toNatClampNeg 3) = 1))) hS (Nat.le_refl t) hR ?_ fun o2 G2 h2 => ?_
    · rw [nI_clamp (show j < 2 ^ 31 by omega), nI_clamp (show k < 2 ^ 31 by omega), sEnt_at _ hj hk6, hen]
      rw [hd.2.1]
    · have e30 := hR.w
      rw [show ∀ v : Int64, (setO G v).2.1 0 30 = G.2.1 0 30 from fun _ => e30] at h2
      rw [mOv, mg_t (by rw [h.entE]; exact c0)] at h2
      exact h2
  · exact OpI.n hS (Nat.le_refl t) (Bool.eq_false_iff.mpr c0) (by decide) rfl (AgR.refl G) fun o2 G2 h2 => mg_n (by rw [h.entE]; exact Bool.eq_false_iff.mpr c0) h2
theorem op_rightsOfEntry {G : GS} {t : Nat} (hS : Sim G t) (ht : t < 2 ^ 20) (a0 : Int32) (a1 : Int32) : OpI G fI [eX] (gt (tHold (G.1 0 4 0) a0 && jIdx a1 (sCnt (G.2.1 0 9) a0)) eX (fR (some (.int (eRights (sEnt (G.2.1 0 10) a0 a1)))) G) (G)) (fun Y => mOv (mEnt (Y.2.1 0 30) a0 a1) (Y.2.1 0 30 (enA a0.toNatClampNeg a1.toNatClampNeg 2)) Y) t := by
  have h := hS.1
  by_cases c0 : (tHold (G.1 0 4 0) a0 && jIdx a1 (sCnt (G.2.1 0 9) a0)) = true
  · obtain ⟨j, k, hj, hk, hk6, rfl, rfl, h1⟩ := h.ent_ex c0
    have he := h.eo hj hk
    have hd := eC_d he
    have hen := h.en hj hk
    refine OpI.t c0 ?_
    have hR : AgR G G := AgR.refl G
    refine OpI.r (y := G.2.1 0 30 (enA (nI j).toNatClampNeg (nI k).toNatClampNeg 2)) hS (Nat.le_refl t) hR ?_ fun o2 G2 h2 => ?_
    · rw [nI_clamp (show j < 2 ^ 31 by omega), nI_clamp (show k < 2 ^ 31 by omega), sEnt_at _ hj hk6, hen]
      rw [hd.1]
    · have e30 := hR.w
      rw [show ∀ v : Int64, (setO G v).2.1 0 30 = G.2.1 0 30 from fun _ => e30] at h2
      rw [mOv, mg_t (by rw [h.entE]; exact c0)] at h2
      exact h2
  · exact OpI.n hS (Nat.le_refl t) (Bool.eq_false_iff.mpr c0) (by decide) rfl (AgR.refl G) fun o2 G2 h2 => mg_n (by rw [h.entE]; exact Bool.eq_false_iff.mpr c0) h2
theorem op_isForBelow {G : GS} {t : Nat} (hS : Sim G t) (ht : t < 2 ^ 20) (a0 : Int32) (a1 : Int32) : OpI G fZ [eX] (gt (tHold (G.1 0 4 0) a0 && jIdx a1 (sCnt (G.2.1 0 9) a0)) eX (fR (some (.int (b2i (eBelow (sEnt (G.2.1 0 10) a0 a1))))) G) (G)) (fun Y => mOv (mEnt (Y.2.1 0 30) a0 a1) (b2i (decide (Y.2.1 0 30 (enA a0.toNatClampNeg a1.toNatClampNeg 4) = 1))) Y) t := by
  have h := hS.1
  by_cases c0 : (tHold (G.1 0 4 0) a0 && jIdx a1 (sCnt (G.2.1 0 9) a0)) = true
  · obtain ⟨j, k, hj, hk, hk6, rfl, rfl, h1⟩ := h.ent_ex c0
    have he := h.eo hj hk
    have hd := eC_d he
    have hen := h.en hj hk
    refine OpI.t c0 ?_
    have hR : AgR G G := AgR.refl G
    refine OpI.r (y := b2i (decide (G.2.1 0 30 (enA (nI j).toNatClampNeg (nI k).toNatClampNeg 4) = 1))) hS (Nat.le_refl t) hR ?_ fun o2 G2 h2 => ?_
    · rw [nI_clamp (show j < 2 ^ 31 by omega), nI_clamp (show k < 2 ^ 31 by omega), sEnt_at _ hj hk6, hen]
      rw [hd.2.2.1]
    · have e30 := hR.w
      rw [show ∀ v : Int64, (setO G v).2.1 0 30 = G.2.1 0 30 from fun _ => e30] at h2
      rw [mOv, mg_t (by rw [h.entE]; exact c0)] at h2
      exact h2
  · exact OpI.n hS (Nat.le_refl t) (Bool.eq_false_iff.mpr c0) (by decide) rfl (AgR.refl G) fun o2 G2 h2 => mg_n (by rw [h.entE]; exact Bool.eq_false_iff.mpr c0) h2
theorem op_isForOwner {G : GS} {t : Nat} (hS : Sim G t) (ht : t < 2 ^ 20) (a0 : Int32) (a1 : Int32) : OpI G fZ [eX] (gt (tHold (G.1 0 4 0) a0 && jIdx a1 (sCnt (G.2.1 0 9) a0)) eX (fR (some (.int (b2i (decide (eKind (sEnt (G.2.1 0 10) a0 a1) = 2))))) G) (G)) (fun Y => mOv (mEnt (Y.2.1 0 30) a0 a1) (b2i (decide (Y.2.1 0 30 (enA a0.toNatClampNeg a1.toNatClampNeg 0) = 2))) Y) t := by
  have h := hS.1
  by_cases c0 : (tHold (G.1 0 4 0) a0 && jIdx a1 (sCnt (G.2.1 0 9) a0)) = true
  · obtain ⟨j, k, hj, hk, hk6, rfl, rfl, h1⟩ := h.ent_ex c0
    have he := h.eo hj hk
    have hd := eC_d he
    have hen := h.en hj hk
    refine OpI.t c0 ?_
    have hR : AgR G G := AgR.refl G
    refine OpI.r (y := b2i (decide (G.2.1 0 30 (enA (nI j).toNatClampNeg (nI k).toNatClampNeg 0) = 2))) hS (Nat.le_refl t) hR ?_ fun o2 G2 h2 => ?_
    · rw [nI_clamp (show j < 2 ^ 31 by omega), nI_clamp (show k < 2 ^ 31 by omega), sEnt_at _ hj hk6, hen]
      rw [hd.2.2.2.1]
    · have e30 := hR.w
      rw [show ∀ v : Int64, (setO G v).2.1 0 30 = G.2.1 0 30 from fun _ => e30] at h2
      rw [mOv, mg_t (by rw [h.entE]; exact c0)] at h2
      exact h2
  · exact OpI.n hS (Nat.le_refl t) (Bool.eq_false_iff.mpr c0) (by decide) rfl (AgR.refl G) fun o2 G2 h2 => mg_n (by rw [h.entE]; exact Bool.eq_false_iff.mpr c0) h2
theorem op_userOfEntry {G : GS} {t : Nat} (hS : Sim G t) (ht : t < 2 ^ 20) (a0 : Int32) (a1 : Int32) : OpI G fI [eX] (gt (tHold (G.1 0 4 0) a0 && jIdx a1 (sCnt (G.2.1 0 9) a0)) eX (fR (some (.int (if eKind (sEnt (G.2.1 0 10) a0 a1) = 0 then eNum (sEnt (G.2.1 0 10) a0 a1) else -1))) G) (G)) (fun Y => mOv (mEnt (Y.2.1 0 30) a0 a1) (if Y.2.1 0 30 (enA a0.toNatClampNeg a1.toNatClampNeg 0) = 0 then Y.2.1 0 30 (enA a0.toNatClampNeg a1.toNatClampNeg 1) else -1) Y) t := by
  have h := hS.1
  by_cases c0 : (tHold (G.1 0 4 0) a0 && jIdx a1 (sCnt (G.2.1 0 9) a0)) = true
  · obtain ⟨j, k, hj, hk, hk6, rfl, rfl, h1⟩ := h.ent_ex c0
    have he := h.eo hj hk
    have hd := eC_d he
    have hen := h.en hj hk
    refine OpI.t c0 ?_
    have hR : AgR G G := AgR.refl G
    refine OpI.r (y := if G.2.1 0 30 (enA (nI j).toNatClampNeg (nI k).toNatClampNeg 0) = 0 then G.2.1 0 30 (enA (nI j).toNatClampNeg (nI k).toNatClampNeg 1) else -1) hS (Nat.le_refl t) hR ?_ fun o2 G2 h2 => ?_
    · rw [nI_clamp (show j < 2 ^ 31 by omega), nI_clamp (show k < 2 ^ 31 by omega), sEnt_at _ hj hk6, hen]
      rw [hd.2.2.2.1, hd.2.2.2.2]
    · have e30 := hR.w
      rw [show ∀ v : Int64, (setO G v).2.1 0 30 = G.2.1 0 30 from fun _ => e30] at h2
      rw [mOv, mg_t (by rw [h.entE]; exact c0)] at h2
      exact h2
  · exact OpI.n hS (Nat.le_refl t) (Bool.eq_false_iff.mpr c0) (by decide) rfl (AgR.refl G) fun o2 G2 h2 => mg_n (by rw [h.entE]; exact Bool.eq_false_iff.mpr c0) h2
theorem op_groupOfEntry {G : GS} {t : Nat} (hS : Sim G t) (ht : t < 2 ^ 20) (a0 : Int32) (a1 : Int32) : OpI G fI [eX] (gt (tHold (G.1 0 4 0) a0 && jIdx a1 (sCnt (G.2.1 0 9) a0)) eX (fR (some (.int (if eKind (sEnt (G.2.1 0 10) a0 a1) = 1 then eNum (sEnt (G.2.1 0 10) a0 a1) else -1))) G) (G)) (fun Y => mOv (mEnt (Y.2.1 0 30) a0 a1) (if Y.2.1 0 30 (enA a0.toNatClampNeg a1.toNatClampNeg 0) = 1 then Y.2.1 0 30 (enA a0.toNatClampNeg a1.toNatClampNeg 1) else -1) Y) t := by
  have h := hS.1
  by_cases c0 : (tHold (G.1 0 4 0) a0 && jIdx a1 (sCnt (G.2.1 0 9) a0)) = true
  · obtain ⟨j, k, hj, hk, hk6, rfl, rfl, h1⟩ := h.ent_ex c0
    have he := h.eo hj hk
    have hd := eC_d he
    have hen := h.en hj hk
    refine OpI.t c0 ?_
    have hR : AgR G G := AgR.refl G
    refine OpI.r (y := if G.2.1 0 30 (enA (nI j).toNatClampNeg (nI k).toNatClampNeg 0) = 1 then G.2.1 0 30 (enA (nI j).toNatClampNeg (nI k).toNatClampNeg 1) else -1) hS (Nat.le_refl t) hR ?_ fun o2 G2 h2 => ?_
    · rw [nI_clamp (show j < 2 ^ 31 by omega), nI_clamp (show k < 2 ^ 31 by omega), sEnt_at _ hj hk6, hen]
      rw [hd.2.2.2.1, hd.2.2.2.2]
    · have e30 := hR.w
      rw [show ∀ v : Int64, (setO G v).2.1 0 30 = G.2.1 0 30 from fun _ => e30] at h2
      rw [mOv, mg_t (by rw [h.entE]; exact c0)] at h2
      exact h2
  · exact OpI.n hS (Nat.le_refl t) (Bool.eq_false_iff.mpr c0) (by decide) rfl (AgR.refl G) fun o2 G2 h2 => mg_n (by rw [h.entE]; exact Bool.eq_false_iff.mpr c0) h2
theorem op_isMember {G : GS} {t : Nat} (hS : Sim G t) (ht : t < 2 ^ 20) (a0 : Int32) (a1 : Int32) : OpI G fZ [eX] (gt (jIdx a0 (G.1 0 1 0)) eX (gt (jIdx a1 (G.1 0 1 1)) eX (fR (some (.int (b2i (sMem (G.2.1 0 2) a1 a0)))) G) (G)) (G)) (fun Y => mg (mIn a0 0 (Y.2.1 0 30 0 - 1) && mIn a1 0 (Y.2.1 0 30 1 - 1)) 1 (fR (some (.int (b2i (mHas (Y.2.1 0 30 (2 + a1.toNatClampNeg)) a0)))) (ms 0 Y)) (Y)) t := by
  have h := hS.1
  by_cases c0 : jIdx a0 (G.1 0 1 0) = true
  · by_cases c1 : jIdx a1 (G.1 0 1 1) = true
    · obtain ⟨u, hu, hu12, rfl⟩ := h.u_ex c0
      obtain ⟨g, hg, hg8, rfl⟩ := h.g_ex c1
      refine OpI.t c0 (OpI.t c1 ?_)
      have hR : AgR G G := AgR.refl G
      refine OpI.r (y := b2i (mHas (G.2.1 0 30 (2 + (nI g).toNatClampNeg)) (nI u))) hS (Nat.le_refl t) hR ?_ fun o2 G2 h2 => ?_
      · unfold sMem
        rw [nI_clamp (show g < 2 ^ 31 by omega), nI_clamp (show u < 2 ^ 31 by omega), jIdx12 hu12, Bool.true_and, jHas_bt _ (by omega), mHas_bt _ (by omega), h.mm hu12 hg8]
      · have e30 := hR.w
        rw [show ∀ v : Int64, (setO G v).2.1 0 30 = G.2.1 0 30 from fun _ => e30] at h2
        rw [mg_t (by rw [h.uIdx, h.gIdx, c0, c1]; rfl)] at h2
        exact h2
    · refine OpI.t c0 ?_
      exact OpI.n hS (Nat.le_refl t) (Bool.eq_false_iff.mpr c1) (by decide) rfl (AgR.refl G) fun o2 G2 h2 => mg_n (by rw [h.uIdx, h.gIdx, c0, Bool.eq_false_iff.mpr c1]; rfl) h2
  · exact OpI.n hS (Nat.le_refl t) (Bool.eq_false_iff.mpr c0) (by decide) rfl (AgR.refl G) fun o2 G2 h2 => mg_n (by rw [h.uIdx, Bool.eq_false_iff.mpr c0]; rfl) h2
theorem op_isNested {G : GS} {t : Nat} (hS : Sim G t) (ht : t < 2 ^ 20) (a0 : Int32) (a1 : Int32) : OpI G fZ [eX] (gt (jIdx a0 (G.1 0 1 1)) eX (gt (jIdx a1 (G.1 0 1 1)) eX (fR (some (.int (b2i (sInn (G.2.1 0 3) a1 a0)))) G) (G)) (G)) (fun Y => mg (mIn a0 0 (Y.2.1 0 30 1 - 1) && mIn a1 0 (Y.2.1 0 30 1 - 1)) 1 (fR (some (.int (b2i (mHas (Y.2.1 0 30 (10 + a0.toNatClampNeg)) a1)))) (ms 0 Y)) (Y)) t := by
  have h := hS.1
  by_cases c0 : jIdx a0 (G.1 0 1 1) = true
  · by_cases c1 : jIdx a1 (G.1 0 1 1) = true
    · obtain ⟨i, hi, hi8, rfl⟩ := h.g_ex c0
      obtain ⟨g, hg, hg8, rfl⟩ := h.g_ex c1
      refine OpI.t c0 (OpI.t c1 ?_)
      have hR : AgR G G := AgR.refl G
      refine OpI.r (y := b2i (mHas (G.2.1 0 30 (10 + (nI i).toNatClampNeg)) (nI g))) hS (Nat.le_refl t) hR ?_ fun o2 G2 h2 => ?_
      · unfold sInn
        rw [nI_clamp (show i < 2 ^ 31 by omega), jIdx8 hi8, Bool.true_and, jHas_bt _ (by omega), mHas_bt _ (by omega), h.nn hi8]
      · have e30 := hR.w
        rw [show ∀ v : Int64, (setO G v).2.1 0 30 = G.2.1 0 30 from fun _ => e30] at h2
        rw [mg_t (by rw [h.gIdx, h.gIdx, c0, c1]; rfl)] at h2
        exact h2
    · refine OpI.t c0 ?_
      exact OpI.n hS (Nat.le_refl t) (Bool.eq_false_iff.mpr c1) (by decide) rfl (AgR.refl G) fun o2 G2 h2 => mg_n (by rw [h.gIdx, h.gIdx, c0, Bool.eq_false_iff.mpr c1]; rfl) h2
  · exact OpI.n hS (Nat.le_refl t) (Bool.eq_false_iff.mpr c0) (by decide) rfl (AgR.refl G) fun o2 G2 h2 => mg_n (by rw [h.gIdx, Bool.eq_false_iff.mpr c0]; rfl) h2
theorem op_belongs {G : GS} {t : Nat} (hS : Sim G t) (ht : t < 2 ^ 20) (a0 : Int32) (a1 : Int32) : OpI G fZ [eX] (gt (jIdx a0 (G.1 0 1 0)) eX (gt (jIdx a1 (G.1 0 1 1)) eX (fR (some (.int (b2i (jHas (dGs G a0) a1)))) G) (G)) (G)) (fun Y => mOGQ a0 a1 Y) t := by
  have h := hS.1
  by_cases c0 : jIdx a0 (G.1 0 1 0) = true
  · by_cases c1 : jIdx a1 (G.1 0 1 1) = true
    · obtain ⟨u, hu, hu12, rfl⟩ := h.u_ex c0
      obtain ⟨g, hg, hg8, rfl⟩ := h.g_ex c1
      refine OpI.t c0 (OpI.t c1 ?_)
      have hR : AgR G G := AgR.refl G
      refine OpI.r (y := b2i (mIsOf (G.2.1 0 30) (mGs (G.2.1 0 30)) (nI u) (nI g).toNatClampNeg)) hS (Nat.le_refl t) hR ?_ fun o2 G2 h2 => ?_
      · rw [nI_clamp (show g < 2 ^ 31 by omega), h.dGs_ hu12, jHas_bt _ (by omega), h.groups hu12 hg8]
      · have e30 := hR.w
        rw [mOGQ] at h2
        rw [show ∀ v : Int64, (setO G v).2.1 0 30 = G.2.1 0 30 from fun _ => e30] at h2
        rw [mg_t (by rw [h.uIdx, h.gIdx, c0, c1]; rfl)] at h2
        exact h2
    · refine OpI.t c0 ?_
      exact OpI.n hS (Nat.le_refl t) (Bool.eq_false_iff.mpr c1) (by decide) rfl (AgR.refl G) fun o2 G2 h2 => mg_n (by rw [h.uIdx, h.gIdx, c0, Bool.eq_false_iff.mpr c1]; rfl) h2
  · exact OpI.n hS (Nat.le_refl t) (Bool.eq_false_iff.mpr c0) (by decide) rfl (AgR.refl G) fun o2 G2 h2 => mg_n (by rw [h.uIdx, Bool.eq_false_iff.mpr c0]; rfl) h2
theorem op_belongsByMembers {G : GS} {t : Nat} (hS : Sim G t) (ht : t < 2 ^ 20) (a0 : Int32) (a1 : Int32) : OpI G fZ [eX] (gt (jIdx a0 (G.1 0 1 0)) eX (gt (jIdx a1 (G.1 0 1 1)) eX (fR (some (.int (b2i (jHas (sUsersIn (G.2.1 0 2) (G.2.1 0 3) (gN G) a1) a0)))) G) (G)) (G)) (fun Y => mOGQ a0 a1 Y) t := by
  have h := hS.1
  by_cases c0 : jIdx a0 (G.1 0 1 0) = true
  · by_cases c1 : jIdx a1 (G.1 0 1 1) = true
    · obtain ⟨u, hu, hu12, rfl⟩ := h.u_ex c0
      obtain ⟨g, hg, hg8, rfl⟩ := h.g_ex c1
      refine OpI.t c0 (OpI.t c1 ?_)
      have hR : AgR G G := AgR.refl G
      refine OpI.r (y := b2i (mIsOf (G.2.1 0 30) (mGs (G.2.1 0 30)) (nI u) (nI g).toNatClampNeg)) hS (Nat.le_refl t) hR ?_ fun o2 G2 h2 => ?_
      · rw [nI_clamp (show g < 2 ^ 31 by omega), h.gN_, jHas_bt _ (by omega), h.members hu12 hg]
      · have e30 := hR.w
        rw [mOGQ] at h2
        rw [show ∀ v : Int64, (setO G v).2.1 0 30 = G.2.1 0 30 from fun _ => e30] at h2
        rw [mg_t (by rw [h.uIdx, h.gIdx, c0, c1]; rfl)] at h2
        exact h2
    · refine OpI.t c0 ?_
      exact OpI.n hS (Nat.le_refl t) (Bool.eq_false_iff.mpr c1) (by decide) rfl (AgR.refl G) fun o2 G2 h2 => mg_n (by rw [h.uIdx, h.gIdx, c0, Bool.eq_false_iff.mpr c1]; rfl) h2
  · exact OpI.n hS (Nat.le_refl t) (Bool.eq_false_iff.mpr c0) (by decide) rfl (AgR.refl G) fun o2 G2 h2 => mg_n (by rw [h.uIdx, Bool.eq_false_iff.mpr c0]; rfl) h2
theorem op_rightsOf {G : GS} {t : Nat} (hS : Sim G t) (ht : t < 2 ^ 20) (a0 : Int32) (a1 : Int32) : OpI G fI [eX] (gt (jIdx a0 (G.1 0 1 0)) eX (gt (tHold (G.1 0 4 0) a1) eX (fR (some (.int (rAt G a0 a1))) (jA G a0 a1)) (G)) (G)) (fun Y => mOv (mIn a0 0 (Y.2.1 0 30 0 - 1) && mHold (Y.2.1 0 30) a1) (mRg (Y.2.1 0 30) a0 a1.toNatClampNeg) Y) t := by
  have h := hS.1
  by_cases c0 : jIdx a0 (G.1 0 1 0) = true
  · by_cases c1 : tHold (G.1 0 4 0) a1 = true
    · obtain ⟨u, hu, hu12, rfl⟩ := h.u_ex c0
      obtain ⟨j, hj, rfl, h1⟩ := h.hold_ex c1
      refine OpI.t c0 (OpI.t c1 ?_)
      have hR : AgR G (jA G (nI u) (nI j)) := (AgR.refl G).jS_ _ _
      refine OpI.r (y := mRg (G.2.1 0 30) (nI u) (nI j).toNatClampNeg) hS (Nat.le_refl t) hR ?_ fun o2 G2 h2 => ?_
      · rw [nI_clamp (show j < 2 ^ 31 by omega), h.rAt_ hu hj h1]
      · have e30 := hR.w
        rw [show ∀ v : Int64, (setO (jA G (nI u) (nI j)) v).2.1 0 30 = G.2.1 0 30 from fun _ => e30] at h2
        rw [mOv, mg_t (by rw [h.uIdx, h.hold, c0, c1]; rfl)] at h2
        exact h2
    · refine OpI.t c0 ?_
      exact OpI.n hS (Nat.le_refl t) (Bool.eq_false_iff.mpr c1) (by decide) rfl (AgR.refl G) fun o2 G2 h2 => mg_n (by rw [h.uIdx, h.hold, c0, Bool.eq_false_iff.mpr c1]; rfl) h2
  · exact OpI.n hS (Nat.le_refl t) (Bool.eq_false_iff.mpr c0) (by decide) rfl (AgR.refl G) fun o2 G2 h2 => mg_n (by rw [h.uIdx, Bool.eq_false_iff.mpr c0]; rfl) h2
theorem op_rightsThrough {G : GS} {t : Nat} (hS : Sim G t) (ht : t < 2 ^ 20) (a0 : Int32) (a1 : Int32) : OpI G fI [eX] (gt (jIdx a0 (G.1 0 1 0)) eX (gt (jIdx a1 (G.1 0 1 1)) eX (jQ (some (.int (foldI (ctF G a0 a1) 20 0 0))) G) (G)) (G)) (fun Y => mg (mIn a0 0 (Y.2.1 0 30 0 - 1) && mIn a1 0 (Y.2.1 0 30 1 - 1)) 1 (fR (some (.int (mTr (Y.2.1 0 30) a0 a1 80 0 0))) (ms 0 Y)) (Y)) t := by
  have h := hS.1
  by_cases c0 : jIdx a0 (G.1 0 1 0) = true
  · by_cases c1 : jIdx a1 (G.1 0 1 1) = true
    · obtain ⟨u, hu, hu12, rfl⟩ := h.u_ex c0
      obtain ⟨g, hg, hg8, rfl⟩ := h.g_ex c1
      refine OpI.t c0 (OpI.t c1 ?_)
      refine OpI.jq fun ja jb => ?_
      have hR : AgR G (jS G ja jb) := (AgR.refl G).jS_ ja jb
      refine OpI.r (y := mTr (G.2.1 0 30) (nI u) (nI g) 80 0 0) hS (Nat.le_refl t) hR ?_ fun o2 G2 h2 => ?_
      · rw [h.through hu]
      · have e30 := hR.w
        rw [show ∀ v : Int64, (setO (jS G ja jb) v).2.1 0 30 = G.2.1 0 30 from fun _ => e30] at h2
        rw [mg_t (by rw [h.uIdx, h.gIdx, c0, c1]; rfl)] at h2
        exact h2
    · refine OpI.t c0 ?_
      exact OpI.n hS (Nat.le_refl t) (Bool.eq_false_iff.mpr c1) (by decide) rfl (AgR.refl G) fun o2 G2 h2 => mg_n (by rw [h.uIdx, h.gIdx, c0, Bool.eq_false_iff.mpr c1]; rfl) h2
  · exact OpI.n hS (Nat.le_refl t) (Bool.eq_false_iff.mpr c0) (by decide) rfl (AgR.refl G) fun o2 G2 h2 => mg_n (by rw [h.uIdx, Bool.eq_false_iff.mpr c0]; rfl) h2
theorem op_isAllowed {G : GS} {t : Nat} (hS : Sim G t) (ht : t < 2 ^ 20) (a0 : Int32) (a1 : Int32) (a2 : Int32) : OpI G fZ [eX, eA] (gt (jIdx a0 (G.1 0 1 0)) eX (gt (tHold (G.1 0 4 0) a1) eX (gt (jIdx a2 4) eA (fR (some (.int (b2i (jHas (rAt G a0 a1) a2)))) (jA G a0 a1)) (G)) (G)) (G)) (fun Y => mQ3 a0 a1 a2 (fR (some (.int (b2i (mAl (Y.2.1 0 30) a0 a1.toNatClampNeg a2)))) (ms 0 Y)) Y) t := by
  have h := hS.1
  by_cases c0 : jIdx a0 (G.1 0 1 0) = true
  · by_cases c1 : tHold (G.1 0 4 0) a1 = true
    · by_cases c2 : jIdx a2 4 = true
      · obtain ⟨u, hu, hu12, rfl⟩ := h.u_ex c0
        obtain ⟨j, hj, rfl, h1⟩ := h.hold_ex c1
        obtain ⟨r, hr, rfl⟩ := r_ex c2
        refine OpI.t c0 (OpI.t c1 (OpI.t c2 ?_))
        have hR : AgR G (jA G (nI u) (nI j)) := (AgR.refl G).jS_ _ _
        refine OpI.r (y := b2i (mAl (G.2.1 0 30) (nI u) (nI j).toNatClampNeg (nI r))) hS (Nat.le_refl t) hR ?_ fun o2 G2 h2 => ?_
        · rw [nI_clamp (show j < 2 ^ 31 by omega)]
          rw [h.rAt_ hu hj h1, jHas_bt _ (by omega), mRg_bt _ _ _ hr]
        · have e30 := hR.w
          rw [mQ3] at h2
          rw [show ∀ v : Int64, (setO (jA G (nI u) (nI j)) v).2.1 0 30 = G.2.1 0 30 from fun _ => e30] at h2
          rw [mg_t (by rw [h.uIdx, h.hold, c0, c1]; rfl), mg_t (by rw [mIn_r]; exact c2)] at h2
          exact h2
      · refine OpI.t c0 (OpI.t c1 ?_)
        exact OpI.n hS (Nat.le_refl t) (Bool.eq_false_iff.mpr c2) (by decide) rfl (AgR.refl G) fun o2 G2 h2 => by
          rw [mQ3, mg_t (by rw [h.uIdx, h.hold, c0, c1]; rfl)] at h2
          exact mg_n (by rw [mIn_r]; exact Bool.eq_false_iff.mpr c2) h2
    · refine OpI.t c0 ?_
      exact OpI.n hS (Nat.le_refl t) (Bool.eq_false_iff.mpr c1) (by decide) rfl (AgR.refl G) fun o2 G2 h2 => mg_n (by rw [h.uIdx, h.hold, c0, Bool.eq_false_iff.mpr c1]; rfl) h2
  · exact OpI.n hS (Nat.le_refl t) (Bool.eq_false_iff.mpr c0) (by decide) rfl (AgR.refl G) fun o2 G2 h2 => mg_n (by rw [h.uIdx, Bool.eq_false_iff.mpr c0]; rfl) h2
theorem op_isAllowedByHandingDown {G : GS} {t : Nat} (hS : Sim G t) (ht : t < 2 ^ 20) (a0 : Int32) (a1 : Int32) (a2 : Int32) : OpI G fZ [eX, eA] (gt (jIdx a0 (G.1 0 1 0)) eX (gt (tHold (G.1 0 4 0) a1) eX (gt (jIdx a2 4) eA (fR (some (.int (b2i (hGr G a0 a1 a2)))) (hP G (hAll G))) (G)) (G)) (G)) (fun Y => mQ3 a0 a1 a2 (fR (some (.int (b2i (mAl (Y.2.1 0 30) a0 a1.toNatClampNeg a2)))) (ms 0 Y)) Y) t := by
  have h := hS.1
  by_cases c0 : jIdx a0 (G.1 0 1 0) = true
  · by_cases c1 : tHold (G.1 0 4 0) a1 = true
    · by_cases c2 : jIdx a2 4 = true
      · obtain ⟨u, hu, hu12, rfl⟩ := h.u_ex c0
        obtain ⟨j, hj, rfl, h1⟩ := h.hold_ex c1
        obtain ⟨r, hr, rfl⟩ := r_ex c2
        refine OpI.t c0 (OpI.t c1 (OpI.t c2 ?_))
        have hR : AgR G (hP G (hAll G)) := (AgR.refl G).hP_ _
        refine OpI.r (y := b2i (mAl (G.2.1 0 30) (nI u) (nI j).toNatClampNeg (nI r))) hS (Nat.le_refl t) hR ?_ fun o2 G2 h2 => ?_
        · rw [nI_clamp (show j < 2 ^ 31 by omega)]
          rw [h.hGr_ hu12 hj h1 hr]
        · have e30 := hR.w
          rw [mQ3] at h2
          rw [show ∀ v : Int64, (setO (hP G (hAll G)) v).2.1 0 30 = G.2.1 0 30 from fun _ => e30] at h2
          rw [mg_t (by rw [h.uIdx, h.hold, c0, c1]; rfl), mg_t (by rw [mIn_r]; exact c2)] at h2
          exact h2
      · refine OpI.t c0 (OpI.t c1 ?_)
        exact OpI.n hS (Nat.le_refl t) (Bool.eq_false_iff.mpr c2) (by decide) rfl (AgR.refl G) fun o2 G2 h2 => by
          rw [mQ3, mg_t (by rw [h.uIdx, h.hold, c0, c1]; rfl)] at h2
          exact mg_n (by rw [mIn_r]; exact Bool.eq_false_iff.mpr c2) h2
    · refine OpI.t c0 ?_
      exact OpI.n hS (Nat.le_refl t) (Bool.eq_false_iff.mpr c1) (by decide) rfl (AgR.refl G) fun o2 G2 h2 => mg_n (by rw [h.uIdx, h.hold, c0, Bool.eq_false_iff.mpr c1]; rfl) h2
  · exact OpI.n hS (Nat.le_refl t) (Bool.eq_false_iff.mpr c0) (by decide) rfl (AgR.refl G) fun o2 G2 h2 => mg_n (by rw [h.uIdx, Bool.eq_false_iff.mpr c0]; rfl) h2
theorem op_decidingObject {G : GS} {t : Nat} (hS : Sim G t) (ht : t < 2 ^ 20) (a0 : Int32) (a1 : Int32) (a2 : Int32) : OpI G fI [eX, eA] (gt (jIdx a0 (G.1 0 1 0)) eX (gt (tHold (G.1 0 4 0) a1) eX (gt (jIdx a2 4) eA (fR (some (.int (if dPl G a0 a1 a2 = -1 then -1 else dPl G a0 a1 a2 / 6))) (jB G a0 a1)) (G)) (G)) (G)) (fun Y => mQ3 a0 a1 a2 (fR (some (.int (if mDec (Y.2.1 0 30) a0 a1.toNatClampNeg a2 < 0 then -1 else mDec (Y.2.1 0 30) a0 a1.toNatClampNeg a2 / 6))) (ms 0 Y)) Y) t := by
  have h := hS.1
  by_cases c0 : jIdx a0 (G.1 0 1 0) = true
  · by_cases c1 : tHold (G.1 0 4 0) a1 = true
    · by_cases c2 : jIdx a2 4 = true
      · obtain ⟨u, hu, hu12, rfl⟩ := h.u_ex c0
        obtain ⟨j, hj, rfl, h1⟩ := h.hold_ex c1
        obtain ⟨r, hr, rfl⟩ := r_ex c2
        refine OpI.t c0 (OpI.t c1 (OpI.t c2 ?_))
        have hR : AgR G (jB G (nI u) (nI j)) := (AgR.refl G).jS_ _ _
        refine OpI.r (y := if mDec (G.2.1 0 30) (nI u) (nI j).toNatClampNeg (nI r) < 0 then -1 else mDec (G.2.1 0 30) (nI u) (nI j).toNatClampNeg (nI r) / 6) hS (Nat.le_refl t) hR ?_ fun o2 G2 h2 => ?_
        · rw [nI_clamp (show j < 2 ^ 31 by omega)]
          have ed : dPl G (nI u) (nI j) (nI r) = mDec (G.2.1 0 30) (nI u) j (nI r) := by
            unfold dPl
            rw [if_pos c2, nI_clamp (show r < 2 ^ 31 by omega), (h.res hu12 hj h1 hr).1]
          rw [ed]
          have hneg : (mDec (G.2.1 0 30) (nI u) j (nI r) = -1) ↔ (mDec (G.2.1 0 30) (nI u) j (nI r) < 0) := by
            rcases h.dec (nI u) hj (nI r) with ⟨h2, _⟩ | ⟨li, i, h2, h3, _, h4, _⟩
            · exact dec_neg (n := 0) (Or.inl h2) (by decide)
            · exact dec_neg (n := 6 * li + i) (Or.inr h4) (by omega)
          by_cases hc : mDec (G.2.1 0 30) (nI u) j (nI r) = -1
          · rw [if_pos hc, if_pos (hneg.mp hc)]
          · rw [if_neg hc, if_neg (fun z => hc (hneg.mpr z))]
        · have e30 := hR.w
          rw [mQ3] at h2
          rw [show ∀ v : Int64, (setO (jB G (nI u) (nI j)) v).2.1 0 30 = G.2.1 0 30 from fun _ => e30] at h2
          rw [mg_t (by rw [h.uIdx, h.hold, c0, c1]; rfl), mg_t (by rw [mIn_r]; exact c2)] at h2
          exact h2
      · refine OpI.t c0 (OpI.t c1 ?_)
        exact OpI.n hS (Nat.le_refl t) (Bool.eq_false_iff.mpr c2) (by decide) rfl (AgR.refl G) fun o2 G2 h2 => by
          rw [mQ3, mg_t (by rw [h.uIdx, h.hold, c0, c1]; rfl)] at h2
          exact mg_n (by rw [mIn_r]; exact Bool.eq_false_iff.mpr c2) h2
    · refine OpI.t c0 ?_
      exact OpI.n hS (Nat.le_refl t) (Bool.eq_false_iff.mpr c1) (by decide) rfl (AgR.refl G) fun o2 G2 h2 => mg_n (by rw [h.uIdx, h.hold, c0, Bool.eq_false_iff.mpr c1]; rfl) h2
  · exact OpI.n hS (Nat.le_refl t) (Bool.eq_false_iff.mpr c0) (by decide) rfl (AgR.refl G) fun o2 G2 h2 => mg_n (by rw [h.uIdx, Bool.eq_false_iff.mpr c0]; rfl) h2
theorem op_decidingEntry {G : GS} {t : Nat} (hS : Sim G t) (ht : t < 2 ^ 20) (a0 : Int32) (a1 : Int32) (a2 : Int32) : OpI G fI [eX, eA] (gt (jIdx a0 (G.1 0 1 0)) eX (gt (tHold (G.1 0 4 0) a1) eX (gt (jIdx a2 4) eA (fR (some (.int (if dPl G a0 a1 a2 = -1 then -1 else dPl G a0 a1 a2 - (dPl G a0 a1 a2 / 6) * 6))) (jB G a0 a1)) (G)) (G)) (G)) (fun Y => mQ3 a0 a1 a2 (fR (some (.int (if mDec (Y.2.1 0 30) a0 a1.toNatClampNeg a2 < 0 then -1 else mDec (Y.2.1 0 30) a0 a1.toNatClampNeg a2 - (mDec (Y.2.1 0 30) a0 a1.toNatClampNeg a2 / 6) * 6))) (ms 0 Y)) Y) t := by
  have h := hS.1
  by_cases c0 : jIdx a0 (G.1 0 1 0) = true
  · by_cases c1 : tHold (G.1 0 4 0) a1 = true
    · by_cases c2 : jIdx a2 4 = true
      · obtain ⟨u, hu, hu12, rfl⟩ := h.u_ex c0
        obtain ⟨j, hj, rfl, h1⟩ := h.hold_ex c1
        obtain ⟨r, hr, rfl⟩ := r_ex c2
        refine OpI.t c0 (OpI.t c1 (OpI.t c2 ?_))
        have hR : AgR G (jB G (nI u) (nI j)) := (AgR.refl G).jS_ _ _
        refine OpI.r (y := if mDec (G.2.1 0 30) (nI u) (nI j).toNatClampNeg (nI r) < 0 then -1 else mDec (G.2.1 0 30) (nI u) (nI j).toNatClampNeg (nI r) - (mDec (G.2.1 0 30) (nI u) (nI j).toNatClampNeg (nI r) / 6) * 6) hS (Nat.le_refl t) hR ?_ fun o2 G2 h2 => ?_
        · rw [nI_clamp (show j < 2 ^ 31 by omega)]
          have ed : dPl G (nI u) (nI j) (nI r) = mDec (G.2.1 0 30) (nI u) j (nI r) := by
            unfold dPl
            rw [if_pos c2, nI_clamp (show r < 2 ^ 31 by omega), (h.res hu12 hj h1 hr).1]
          rw [ed]
          have hneg : (mDec (G.2.1 0 30) (nI u) j (nI r) = -1) ↔ (mDec (G.2.1 0 30) (nI u) j (nI r) < 0) := by
            rcases h.dec (nI u) hj (nI r) with ⟨h2, _⟩ | ⟨li, i, h2, h3, _, h4, _⟩
            · exact dec_neg (n := 0) (Or.inl h2) (by decide)
            · exact dec_neg (n := 6 * li + i) (Or.inr h4) (by omega)
          by_cases hc : mDec (G.2.1 0 30) (nI u) j (nI r) = -1
          · rw [if_pos hc, if_pos (hneg.mp hc)]
          · rw [if_neg hc, if_neg (fun z => hc (hneg.mpr z))]
        · have e30 := hR.w
          rw [mQ3] at h2
          rw [show ∀ v : Int64, (setO (jB G (nI u) (nI j)) v).2.1 0 30 = G.2.1 0 30 from fun _ => e30] at h2
          rw [mg_t (by rw [h.uIdx, h.hold, c0, c1]; rfl), mg_t (by rw [mIn_r]; exact c2)] at h2
          exact h2
      · refine OpI.t c0 (OpI.t c1 ?_)
        exact OpI.n hS (Nat.le_refl t) (Bool.eq_false_iff.mpr c2) (by decide) rfl (AgR.refl G) fun o2 G2 h2 => by
          rw [mQ3, mg_t (by rw [h.uIdx, h.hold, c0, c1]; rfl)] at h2
          exact mg_n (by rw [mIn_r]; exact Bool.eq_false_iff.mpr c2) h2
    · refine OpI.t c0 ?_
      exact OpI.n hS (Nat.le_refl t) (Bool.eq_false_iff.mpr c1) (by decide) rfl (AgR.refl G) fun o2 G2 h2 => mg_n (by rw [h.uIdx, h.hold, c0, Bool.eq_false_iff.mpr c1]; rfl) h2
  · exact OpI.n hS (Nat.le_refl t) (Bool.eq_false_iff.mpr c0) (by decide) rfl (AgR.refl G) fun o2 G2 h2 => mg_n (by rw [h.uIdx, Bool.eq_false_iff.mpr c0]; rfl) h2
theorem op_isStoppedByMask {G : GS} {t : Nat} (hS : Sim G t) (ht : t < 2 ^ 20) (a0 : Int32) (a1 : Int32) (a2 : Int32) : OpI G fZ [eX, eA] (gt (jIdx a0 (G.1 0 1 0)) eX (gt (tHold (G.1 0 4 0) a1) eX (gt (jIdx a2 4) eA (fR (some (.int (b2i (jStp G a0 a1 a2)))) (jA G a0 a1)) (G)) (G)) (G)) (fun Y => mQ3 a0 a1 a2 (fR (some (.int (b2i (!mAl (Y.2.1 0 30) a0 a1.toNatClampNeg a2 && mByL (Y.2.1 0 30) a0 a1.toNatClampNeg a2)))) (ms 0 Y)) Y) t := by
  have h := hS.1
  by_cases c0 : jIdx a0 (G.1 0 1 0) = true
  · by_cases c1 : tHold (G.1 0 4 0) a1 = true
    · by_cases c2 : jIdx a2 4 = true
      · obtain ⟨u, hu, hu12, rfl⟩ := h.u_ex c0
        obtain ⟨j, hj, rfl, h1⟩ := h.hold_ex c1
        obtain ⟨r, hr, rfl⟩ := r_ex c2
        refine OpI.t c0 (OpI.t c1 (OpI.t c2 ?_))
        have hR : AgR G (jA G (nI u) (nI j)) := (AgR.refl G).jS_ _ _
        refine OpI.r (y := b2i (!mAl (G.2.1 0 30) (nI u) (nI j).toNatClampNeg (nI r) && mByL (G.2.1 0 30) (nI u) (nI j).toNatClampNeg (nI r))) hS (Nat.le_refl t) hR ?_ fun o2 G2 h2 => ?_
        · rw [nI_clamp (show j < 2 ^ 31 by omega)]
          unfold jStp jStop jD
          rw [if_pos (h.dOk_ hu hj h1), nI_clamp (show r < 2 ^ 31 by omega), (h.res hu12 hj h1 hr).2, h.byL _ hj _, h.rAt_ hu hj h1, jHas_bt _ (by omega), mRg_bt _ _ _ hr, c2, Bool.true_and]
        · have e30 := hR.w
          rw [mQ3] at h2
          rw [show ∀ v : Int64, (setO (jA G (nI u) (nI j)) v).2.1 0 30 = G.2.1 0 30 from fun _ => e30] at h2
          rw [mg_t (by rw [h.uIdx, h.hold, c0, c1]; rfl), mg_t (by rw [mIn_r]; exact c2)] at h2
          exact h2
      · refine OpI.t c0 (OpI.t c1 ?_)
        exact OpI.n hS (Nat.le_refl t) (Bool.eq_false_iff.mpr c2) (by decide) rfl (AgR.refl G) fun o2 G2 h2 => by
          rw [mQ3, mg_t (by rw [h.uIdx, h.hold, c0, c1]; rfl)] at h2
          exact mg_n (by rw [mIn_r]; exact Bool.eq_false_iff.mpr c2) h2
    · refine OpI.t c0 ?_
      exact OpI.n hS (Nat.le_refl t) (Bool.eq_false_iff.mpr c1) (by decide) rfl (AgR.refl G) fun o2 G2 h2 => mg_n (by rw [h.uIdx, h.hold, c0, Bool.eq_false_iff.mpr c1]; rfl) h2
  · exact OpI.n hS (Nat.le_refl t) (Bool.eq_false_iff.mpr c0) (by decide) rfl (AgR.refl G) fun o2 G2 h2 => mg_n (by rw [h.uIdx, Bool.eq_false_iff.mpr c0]; rfl) h2
theorem op_usersWith {G : GS} {t : Nat} (hS : Sim G t) (ht : t < 2 ^ 20) (a0 : Int32) (a1 : Int32) : OpI G fI [eX, eA] (gt (tHold (G.1 0 4 0) a0) eX (gt (jIdx a1 4) eA (jQ (some (.int (cuAt G a0 a1))) G) (G)) (G)) (fun Y => mg (mHold (Y.2.1 0 30) a0) 1 (mg (mIn a1 0 3) 2 (fR (some (.int (mCuL (Y.2.1 0 30) a0.toNatClampNeg a1 (mUs (Y.2.1 0 30)) 0 0))) (ms 0 Y)) (Y)) (Y)) t := by
  have h := hS.1
  by_cases c1 : tHold (G.1 0 4 0) a0 = true
  · by_cases c2 : jIdx a1 4 = true
    · obtain ⟨j, hj, rfl, h1⟩ := h.hold_ex c1
      obtain ⟨r, hr, rfl⟩ := r_ex c2
      refine OpI.t c1 (OpI.t c2 ?_)
      refine OpI.jq fun ja jb => ?_
      have hR : AgR G (jS G ja jb) := (AgR.refl G).jS_ ja jb
      refine OpI.r (y := mCuL (G.2.1 0 30) (nI j).toNatClampNeg (nI r) (mUs (G.2.1 0 30)) 0 0) hS (Nat.le_refl t) hR ?_ fun o2 G2 h2 => ?_
      · rw [nI_clamp (show j < 2 ^ 31 by omega), h.usersWith hj h1 hr]
      · have e30 := hR.w
        rw [show ∀ v : Int64, (setO (jS G ja jb) v).2.1 0 30 = G.2.1 0 30 from fun _ => e30] at h2
        rw [mg_t (by rw [h.hold]; exact c1), mg_t (by rw [mIn_r]; exact c2)] at h2
        exact h2
    · refine OpI.t c1 ?_
      exact OpI.n hS (Nat.le_refl t) (Bool.eq_false_iff.mpr c2) (by decide) rfl (AgR.refl G) fun o2 G2 h2 => by
        rw [mg_t (by rw [h.hold]; exact c1)] at h2
        exact mg_n (by rw [mIn_r]; exact Bool.eq_false_iff.mpr c2) h2
  · exact OpI.n hS (Nat.le_refl t) (Bool.eq_false_iff.mpr c1) (by decide) rfl (AgR.refl G) fun o2 G2 h2 => mg_n (by rw [h.hold]; exact Bool.eq_false_iff.mpr c1) h2
theorem op_userOfRequest {G : GS} {t : Nat} (hS : Sim G t) (ht : t < 2 ^ 20) (a0 : Int32) : OpI G fI [eX] (gt (jIdx a0 (sKept G)) eX (fR (some (.int (G.2.1 0 12 (lPlace (G.1 0 11 0) a0).toNatClampNeg))) G) (G)) (fun Y => mOv (mLgd (Y.2.1 0 30) a0) (Y.2.1 0 30 (738 + 3 * a0.toNatClampNeg + 0)) Y) t := by
  have h := hS.1
  obtain ⟨q, q1, q2, q3, q4, q5, q6⟩ := h.place ht
  have hb : mLgd (G.2.1 0 30) a0 = jIdx a0 (sKept G) := by
    unfold mLgd
    rw [q4, mIn_idx (by omega)]
    unfold sKept
    rw [q5]
  by_cases c0 : jIdx a0 (sKept G) = true
  · have c9 := c0
    unfold sKept at c9
    rw [q5] at c9
    obtain ⟨a, ha, rfl⟩ := jIdx_ex (by omega) c9
    obtain ⟨z1, z2, z3⟩ := q6 a ha
    refine OpI.t c0 ?_
    have hR : AgR G G := AgR.refl G
    refine OpI.r (y := G.2.1 0 30 (738 + 3 * (nI a).toNatClampNeg + 0)) hS (Nat.le_refl t) hR ?_ fun o2 G2 h2 => ?_
    · rw [nI_clamp (show a < 2 ^ 31 by omega)]
      rw [z1]
      rfl
    · have e30 := hR.w
      rw [show ∀ v : Int64, (setO G v).2.1 0 30 = G.2.1 0 30 from fun _ => e30] at h2
      rw [mOv, mg_t (by rw [hb]; exact c0)] at h2
      exact h2
  · exact OpI.n hS (Nat.le_refl t) (Bool.eq_false_iff.mpr c0) (by decide) rfl (AgR.refl G) fun o2 G2 h2 => mg_n (by rw [hb]; exact Bool.eq_false_iff.mpr c0) h2
theorem op_objectOfRequest {G : GS} {t : Nat} (hS : Sim G t) (ht : t < 2 ^ 20) (a0 : Int32) : OpI G fI [eX] (gt (jIdx a0 (sKept G)) eX (fR (some (.int (G.2.1 0 13 (lPlace (G.1 0 11 0) a0).toNatClampNeg))) G) (G)) (fun Y => mOv (mLgd (Y.2.1 0 30) a0) (Y.2.1 0 30 (738 + 3 * a0.toNatClampNeg + 1)) Y) t := by
  have h := hS.1
  obtain ⟨q, q1, q2, q3, q4, q5, q6⟩ := h.place ht
  have hb : mLgd (G.2.1 0 30) a0 = jIdx a0 (sKept G) := by
    unfold mLgd
    rw [q4, mIn_idx (by omega)]
    unfold sKept
    rw [q5]
  by_cases c0 : jIdx a0 (sKept G) = true
  · have c9 := c0
    unfold sKept at c9
    rw [q5] at c9
    obtain ⟨a, ha, rfl⟩ := jIdx_ex (by omega) c9
    obtain ⟨z1, z2, z3⟩ := q6 a ha
    refine OpI.t c0 ?_
    have hR : AgR G G := AgR.refl G
    refine OpI.r (y := G.2.1 0 30 (738 + 3 * (nI a).toNatClampNeg + 1)) hS (Nat.le_refl t) hR ?_ fun o2 G2 h2 => ?_
    · rw [nI_clamp (show a < 2 ^ 31 by omega)]
      rw [z2, show 738 + 3 * a + 1 = 739 + 3 * a by omega]
    · have e30 := hR.w
      rw [show ∀ v : Int64, (setO G v).2.1 0 30 = G.2.1 0 30 from fun _ => e30] at h2
      rw [mOv, mg_t (by rw [hb]; exact c0)] at h2
      exact h2
  · exact OpI.n hS (Nat.le_refl t) (Bool.eq_false_iff.mpr c0) (by decide) rfl (AgR.refl G) fun o2 G2 h2 => mg_n (by rw [hb]; exact Bool.eq_false_iff.mpr c0) h2
theorem op_wasAllowed {G : GS} {t : Nat} (hS : Sim G t) (ht : t < 2 ^ 20) (a0 : Int32) : OpI G fZ [eX] (gt (jIdx a0 (sKept G)) eX (fR (some (.int (b2i (jHas (G.1 0 11 2) (lPlace (G.1 0 11 0) a0))))) G) (G)) (fun Y => mOv (mLgd (Y.2.1 0 30) a0) (b2i (decide (Y.2.1 0 30 (738 + 3 * a0.toNatClampNeg + 2) = 1))) Y) t := by
  have h := hS.1
  obtain ⟨q, q1, q2, q3, q4, q5, q6⟩ := h.place ht
  have hb : mLgd (G.2.1 0 30) a0 = jIdx a0 (sKept G) := by
    unfold mLgd
    rw [q4, mIn_idx (by omega)]
    unfold sKept
    rw [q5]
  by_cases c0 : jIdx a0 (sKept G) = true
  · have c9 := c0
    unfold sKept at c9
    rw [q5] at c9
    obtain ⟨a, ha, rfl⟩ := jIdx_ex (by omega) c9
    obtain ⟨z1, z2, z3⟩ := q6 a ha
    refine OpI.t c0 ?_
    have hR : AgR G G := AgR.refl G
    refine OpI.r (y := b2i (decide (G.2.1 0 30 (738 + 3 * (nI a).toNatClampNeg + 2) = 1))) hS (Nat.le_refl t) hR ?_ fun o2 G2 h2 => ?_
    · rw [nI_clamp (show a < 2 ^ 31 by omega)]
      rw [z3, show 738 + 3 * a + 2 = 740 + 3 * a by omega]
    · have e30 := hR.w
      rw [show ∀ v : Int64, (setO G v).2.1 0 30 = G.2.1 0 30 from fun _ => e30] at h2
      rw [mOv, mg_t (by rw [hb]; exact c0)] at h2
      exact h2
  · exact OpI.n hS (Nat.le_refl t) (Bool.eq_false_iff.mpr c0) (by decide) rfl (AgR.refl G) fun o2 G2 h2 => mg_n (by rw [hb]; exact Bool.eq_false_iff.mpr c0) h2
