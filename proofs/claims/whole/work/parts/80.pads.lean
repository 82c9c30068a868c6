/-! the pads; what is compared at once -/
/-- no wrapper: the answers are compared -/
def OpD (G : GS) (Qc : cOut → GS → Prop) (Qm : GS → cOut → GS → Prop) (t : Nat) : Prop :=
  ∀ o1 G1, Qc o1 G1 → ∃ x, o1 = .inl (some (.int x)) ∧ AgC G G1 ∧ ∀ o2 G2, Qm G1 o2 G2 → o2 = .inl (some (.int x)) ∧ Sim G2 t
theorem OpD.r {G G1 : GS} {Qm : GS → cOut → GS → Prop} {t t2 : Nat} {x : Int32} (hS : Sim G t) (ht : t ≤ t2) (hR : AgR G G1) (hm : ∀ o2 G2, Qm G1 o2 G2 → o2 = .inl (some (.int x)) ∧ G2 = ms 0 G1) : OpD G (fR (some (.int x)) G1) Qm t2 := by
  rintro o1 G9 ⟨rfl, rfl⟩
  refine ⟨x, rfl, hR.2.1, fun o2 G2 h2 => ?_⟩
  obtain ⟨rfl, rfl⟩ := hm o2 G2 h2
  exact ⟨rfl, (hS.agR hR ht).ms_ 0 (Nat.le_refl _)⟩
theorem op_users {G : GS} {t : Nat} (hS : Sim G t)  : OpD G (fR (some (.int (G.1 0 1 0))) G) (fun Y => fR (some (.int (Y.2.1 0 30 0))) (ms 0 Y)) (t + 1) := by
  have h := hS.1
  exact OpD.r hS (Nat.le_succ t) (AgR.refl G) fun o2 G2 h2 => by rw [h.us, ← h.ok.us]; exact h2
theorem op_groups {G : GS} {t : Nat} (hS : Sim G t)  : OpD G (fR (some (.int (G.1 0 1 1))) G) (fun Y => fR (some (.int (Y.2.1 0 30 1))) (ms 0 Y)) (t + 1) := by
  have h := hS.1
  exact OpD.r hS (Nat.le_succ t) (AgR.refl G) fun o2 G2 h2 => by rw [h.gs, ← h.ok.gs]; exact h2
theorem op_objects {G : GS} {t : Nat} (hS : Sim G t)  : OpD G (fR (some (.int (jBc (G.1 0 4 0)))) G) (fun Y => fR (some (.int (mHo (Y.2.1 0 30) 20 0 0))) (ms 0 Y)) (t + 1) := by
  have h := hS.1
  exact OpD.r hS (Nat.le_succ t) (AgR.refl G) fun o2 G2 h2 => by rw [← h.count]; exact h2
theorem op_isThere {G : GS} {t : Nat} (hS : Sim G t) (a0 : Int32) : OpD G (fR (some (.int (b2i (tHold (G.1 0 4 0) a0)))) G) (fun Y => fR (some (.int (b2i (mHold (Y.2.1 0 30) a0)))) (ms 0 Y)) (t + 1) := by
  have h := hS.1
  exact OpD.r hS (Nat.le_succ t) (AgR.refl G) fun o2 G2 h2 => by rw [← h.hold]; exact h2
theorem op_requests {G : GS} {t : Nat} (hS : Sim G t)  : OpD G (fR (some (.int (G.1 0 11 0))) G) (fun Y => fR (some (.int (Y.2.1 0 30 763))) (ms 0 Y)) (t + 1) := by
  have h := hS.1
  obtain ⟨q, h1, h2, h3, h4, h5, h6⟩ := h.lg
  exact OpD.r hS (Nat.le_succ t) (AgR.refl G) fun o2 G2 h9 => by rw [h2, ← h3]; exact h9
theorem op_refusals {G : GS} {t : Nat} (hS : Sim G t)  : OpD G (fR (some (.int (G.1 0 11 1))) G) (fun Y => fR (some (.int (Y.2.1 0 30 764))) (ms 0 Y)) (t + 1) := by
  have h := hS.1
  obtain ⟨q, h1, h2, h3, h4, h5, h6⟩ := h.lg
  exact OpD.r hS (Nat.le_succ t) (AgR.refl G) fun o2 G2 h9 => by rw [h4]; exact h9
theorem op_allRights {G : GS} {t : Nat} (hS : Sim G t)  : OpD G (jQ (some (.int (foldI (caO G) 12 0 0))) G) (fun Y => fR (some (.int (mEv (Y.2.1 0 30) (mUs (Y.2.1 0 30)) 0 0))) (ms 0 Y)) (t + 1) := by
  have h := hS.1
  rintro o1 G1 ⟨rfl, ja, jb, rfl⟩
  have hR : AgR G (jS G ja jb) := (AgR.refl G).jS_ ja jb
  refine ⟨_, rfl, hR.2.1, fun o2 G2 h2 => ?_⟩
  obtain ⟨rfl, rfl⟩ := h2
  exact ⟨by rw [h.everything]; rfl, (hS.agR hR (Nat.le_succ t)).ms_ 0 (Nat.le_refl _)⟩
theorem SmR.o {F A : Nat → Nat → Int32} {G : GS} (h : SmR F A (G.1 0) (G.2.1 0)) (v : Int64) : SmR F A ((setO G v).1 0) ((setO G v).2.1 0) := h
theorem op_clear {G : GS} {t : Nat} (hS : Sim G t)  : OpD G (fR (some (.int (G.1 0 25 0))) (putF G 0 25 0 0)) (fun Y => fR (some (.int (Y.1 0 29 7))) (putF (ms 0 Y) 0 29 7 0)) (t + 1) := by
  have h := hS.1
  rintro o1 G1 ⟨rfl, rfl⟩
  obtain ⟨⟨n, hp⟩, ⟨a, ea, ha⟩, ⟨b, eb, hb⟩⟩ := hS.2.2.2
  refine ⟨_, rfl, (AgC.refl G).f (by decide), fun o2 G2 h2 => ?_⟩
  obtain ⟨rfl, rfl⟩ := h2
  have e7 : (putF G 0 25 0 0).1 0 29 7 = G.1 0 29 7 := by rw [putF_o _ _ _ (by decide)]
  refine ⟨by rw [e7, hp.2.1, hp.2.2.1], ?_⟩
  refine hS.ag ((((AgX.refl G).f (o := 25) (k := 0) (v := 0) (by decide)).f (o := 29) (k := 5) (v := 0) (by decide)).f (o := 29) (k := 7) (v := 0) (by decide)) ⟨⟨0, by decide, ?_, ?_, fun i hi => absurd hi (Nat.not_lt_zero i)⟩, ⟨a, ?_, ha⟩, ⟨b, ?_, hb⟩⟩ ?_ (Nat.le_succ t)
  · rw [putF_o _ _ _ (by decide), ms, putF_o _ _ _ (by decide), putF_v]; rfl
  · rw [putF_v]; rfl
  · rw [putF_k _ _ (by decide), ms, putF_k _ _ (by decide), putF_o _ _ _ (by decide)]; exact ea
  · rw [putF_k _ _ (by decide), ms, putF_k _ _ (by decide), putF_o _ _ _ (by decide)]; exact eb
  · exact h.congr ((((SmR.refl (G.1 0) (G.2.1 0)).f (o := 25) (k := 0) (v := 0) (by decide)).f (o := 29) (k := 5) (v := 0) (by decide)).f (o := 29) (k := 7) (v := 0) (by decide)) (fun _ _ => rfl) (Nat.le_succ t)
/-! the model's reading sees the pad alone -/
section NC
variable {G Y : GS} (e7 : Y.1 0 29 7 = G.1 0 29 7) (e34 : Y.2.1 0 34 = G.2.1 0 34)
theorem nSee_c (e7 : Y.1 0 29 7 = G.1 0 29 7) (e34 : Y.2.1 0 34 = G.2.1 0 34) : nSee Y = nSee G := by funext sp a b; unfold nSee; rw [e7, e34]
theorem nSg_c (e7 : Y.1 0 29 7 = G.1 0 29 7) (e34 : Y.2.1 0 34 = G.2.1 0 34) : nSg Y = nSg G := by funext x q; unfold nSg; rw [nSee_c e7 e34]
theorem nNm_c (e7 : Y.1 0 29 7 = G.1 0 29 7) (e34 : Y.2.1 0 34 = G.2.1 0 34) : nNm Y = nNm G := by funext x q; unfold nNm nN1 nN0; rw [nSee_c e7 e34, e34]
theorem nWu_c (e7 : Y.1 0 29 7 = G.1 0 29 7) (e34 : Y.2.1 0 34 = G.2.1 0 34) : nWu Y = nWu G := by funext a x q; unfold nWu; rw [nNm_c e7 e34]
theorem nWh_c (e7 : Y.1 0 29 7 = G.1 0 29 7) (e34 : Y.2.1 0 34 = G.2.1 0 34) : nWh Y = nWh G := by funext q; unfold nWh nW2 nW3; rw [nWu_c e7 e34, nSg_c e7 e34]
theorem nE1_c (e7 : Y.1 0 29 7 = G.1 0 29 7) (e34 : Y.2.1 0 34 = G.2.1 0 34) : nE1 Y = nE1 G := by funext b q; unfold nE1 nE2 nE3 nE4 nE5 nE6; rw [nSg_c e7 e34]
theorem nE0_c (e7 : Y.1 0 29 7 = G.1 0 29 7) (e34 : Y.2.1 0 34 = G.2.1 0 34) : nE0 Y = nE0 G := by funext b q; unfold nE0; rw [nSg_c e7 e34, nWh_c e7 e34, nE1_c e7 e34]
theorem nEn_c (e7 : Y.1 0 29 7 = G.1 0 29 7) (e34 : Y.2.1 0 34 = G.2.1 0 34) : nEn Y = nEn G := by funext q; unfold nEn; rw [nSg_c e7 e34, nE0_c e7 e34]
theorem nFi_c (e7 : Y.1 0 29 7 = G.1 0 29 7) : nFi Y = nFi G := by funext q; unfold nFi; rw [e7]
theorem nWL_c (e7 : Y.1 0 29 7 = G.1 0 29 7) (e34 : Y.2.1 0 34 = G.2.1 0 34) : ∀ (n : Nat) (b : Bool) (q : nT), nWL Y n b q = nWL G n b q := by
  intro n
  induction n with
  | zero => intro b q; rw [nWL, nWL, nFi_c e7]
  | succ n ih => intro b q; rw [nWL, nWL, nFi_c e7, nEn_c e7 e34, nSg_c e7 e34, ih, ih]
theorem nWr_c (e7 : Y.1 0 29 7 = G.1 0 29 7) (e34 : Y.2.1 0 34 = G.2.1 0 34) (m : nT) : nWr Y m = nWr G m := by unfold nWr; rw [nSg_c e7 e34, nNm_c e7 e34, e7, nWL_c e7 e34]
end NC
/-- what the model's reading lays down is no matter -/
theorem Sim.nP_ {G : GS} {t t2 : Nat} (h : Sim G t) (q : nT) (h1 : q.1 ≤ 80) (h2 : q.2.2.1 ≤ 6) (ht : t ≤ t2) : Sim (nP G q) t2 := by
  obtain ⟨⟨n, hp1, hp2, hp3, hp4⟩, -, -⟩ := h.2.2.2
  unfold nP
  refine h.ag (((((AgX.refl G).f (o := 29) (k := 10) (by decide)).f (o := 29) (k := 11) (by decide)).f (o := 29) (k := 12) (by decide)).f (o := 29) (k := 13) (by decide) |>.a (o := 37) (by decide)) ⟨⟨n, hp1, ?_, ?_, hp4⟩, ⟨q.1, ?_, by omega⟩, ⟨q.2.2.1, ?_, by omega⟩⟩ ?_ ht
  · rw [putA_fld, putF_o _ _ _ (by decide), putF_o _ _ _ (by decide), putF_o _ _ _ (by decide), putF_o _ _ _ (by decide)]; exact hp2
  · rw [putA_fld, putF_k _ _ (by decide), putF_k _ _ (by decide), putF_k _ _ (by decide), putF_k _ _ (by decide)]; exact hp3
  · rw [putA_fld, putF_k _ _ (by decide), putF_k _ _ (by decide), putF_k _ _ (by decide), putF_v]
  · rw [putA_fld, putF_k _ _ (by decide), putF_v]
  · exact h.1.congr (((((SmR.refl (G.1 0) (G.2.1 0)).f (o := 29) (k := 10) (by decide)).f (o := 29) (k := 11) (by decide)).f (o := 29) (k := 12) (by decide)).f (o := 29) (k := 13) (by decide) |>.a (o := 37) (by decide)) (fun _ _ => rfl) ht
theorem nR_lP (G : GS) (q : lT) : nR (lP G q) = nWr G (nG G) := by
  have e1 : nG (lP G q) = nG G := rfl
  have e7 : (ms 0 (lP G q)).1 0 29 7 = G.1 0 29 7 := by
    rw [ms_fld _ _ (by decide)]
    unfold lP
    rw [putA_fld, putF_o _ _ _ (by decide), putF_o _ _ _ (by decide), putF_o _ _ _ (by decide)]
  have e34 : (ms 0 (lP G q)).2.1 0 34 = G.2.1 0 34 := rfl
  unfold nR
  rw [e1]
  exact nWr_c e7 e34 _
theorem op_fault {G : GS} {t : Nat} (hS : Sim G t)  : OpD G (fR (some (.int (if (rdG G).1 = true then -1 else (rdG G).2.1))) (lP G (rdG G).2)) (fun Y => fR (some (.int (nR Y).1)) (nP (ms 0 Y) (nR Y).2)) (t + 1) := by
  have h := hS.1
  rintro o1 G1 ⟨rfl, rfl⟩
  obtain ⟨⟨n, hp⟩, -⟩ := hS.2.2.2
  have hE : RdE (rdG G) (nWr G (nG G)) := read_at hp (lG G) (nG G)
  generalize rdG G = R at hE ⊢
  obtain ⟨r1, r2, r3, r4⟩ := hE
  have hR : AgR G (lP G R.2) := (AgR.refl G).lP_ _
  refine ⟨_, rfl, hR.2.1, fun o2 G2 h2 => ?_⟩
  have h2 : fR (some (.int (nR (lP G R.2)).1)) (nP (ms 0 (lP G R.2)) (nR (lP G R.2)).2) o2 G2 := h2
  rw [nR_lP] at h2
  generalize nWr G (nG G) = M at h2 r1 r2 r3 r4
  obtain ⟨rfl, rfl⟩ := h2
  refine ⟨?_, ((hS.agR hR (Nat.le_refl t)).ms_ 0 (Nat.le_refl t)).nP_ _ r3 r4 (Nat.le_succ t)⟩
  by_cases c : R.1 = true
  · rw [if_pos c, (r1 c).1]
  · rw [if_neg c, (r2 (Bool.eq_false_iff.mpr c)).1]
theorem i126 (x : Int32) : mIn x 33 126 = (decide (33 ≤ x) && decide (x ≤ 126)) := rfl
/-- append -/
theorem op_append {G : GS} {t n : Nat} (hS : Sim G t) (hp : PadR G n) (a0 : Int32) : OpI G fI [eA, eS] (gt (decide (33 ≤ a0) && decide (a0 ≤ 126)) eA (gt (decide (G.1 0 25 0 < 80)) eS (fR (some (.int ((sPut a0 G).1 0 25 0))) (sPut a0 G)) (G)) (G)) (fun Y => mg (mIn a0 33 126) 1 (mg (!decide (n = 80)) 2 (fR (some (.int (nI (n + 1)))) (mD (ms 0 Y) (n + 1, upd (Y.2.1 0 34) n a0))) (Y)) (Y)) (t + 1) := by
  have h := hS.1
  obtain ⟨-, ⟨a, ea, ha⟩, ⟨b, eb, hb⟩⟩ := hS.2.2.2
  have h80 := hp.1
  by_cases c0 : (decide (33 ≤ a0) && decide (a0 ≤ 126)) = true
  · refine OpI.t c0 ?_
    by_cases c1 : n = 80
    · refine OpI.n hS (Nat.le_succ t) (decide_eq_false (by rw [hp.2.1, c1]; decide)) (by decide) rfl (AgR.refl G) fun o2 G2 h2 => ?_
      rw [mg_t (by rw [i126]; exact c0)] at h2
      exact mg_n (by rw [decide_eq_true c1]; rfl) h2
    · have eX : sPut a0 G = putF (putA G 0 26 (upd (G.2.1 0 26) n a0)) 0 25 0 (nI (n + 1)) := by
        unfold sPut
        rw [hp.2.1, if_pos (jIdx80 (show n < 80 by omega)), nI_clamp (by omega), nI_1]
      rw [eX]
      refine OpI.t (decide_eq_true (by rw [hp.2.1]; exact nI_lt (b := 80) (by omega) (by decide))) (OpI.l (((AgC.refl G).a (o := 26) (by decide)).f (o := 25) (by decide)) fun o2 G2 h2 => ?_)
      rw [mg_t (by rw [i126]; exact c0), mg_t (by rw [decide_eq_false c1]; rfl)] at h2
      obtain ⟨rfl, rfl⟩ := h2
      refine ⟨_, rfl, by rw [putF_v], rfl, ?_, ?_⟩
      · unfold mD
        rw [putF_k _ _ (by decide), putA_fld, ms_5]
      · unfold mD
        refine hS.ag ((((((AgX.refl G).a (o := 26) (by decide)).f (o := 25) (k := 0) (by decide)).o).f (o := 29) (k := 5) (by decide)).a (o := 34) (by decide) |>.f (o := 29) (k := 7) (by decide)) ⟨⟨n + 1, by omega, ?_, ?_, fun i hi => ?_⟩, ⟨a, ?_, ha⟩, ⟨b, ?_, hb⟩⟩ ?_ (Nat.le_succ t)
        · rw [putF_o _ _ _ (by decide), putA_fld, ms, putF_o _ _ _ (by decide)]
          show (putF (putA G 0 26 (upd (G.2.1 0 26) n a0)) 0 25 0 (nI (n + 1))).1 0 25 0 = _
          rw [putF_v]
        · rw [putF_v]
        · show upd (G.2.1 0 26) n a0 i = upd (G.2.1 0 34) n a0 i
          unfold upd
          by_cases hc : i = n
          · rw [if_pos hc, if_pos hc]
          · rw [if_neg hc, if_neg hc]; exact hp.2.2.2 i (by omega)
        · rw [putF_k _ _ (by decide), putA_fld, ms, putF_k _ _ (by decide)]
          exact ea
        · rw [putF_k _ _ (by decide), putA_fld, ms, putF_k _ _ (by decide)]
          exact eb
        · exact h.congr ((((((SmR.refl (G.1 0) (G.2.1 0)).a (o := 26) (by decide)).f (o := 25) (k := 0) (by decide)).f (o := 29) (k := 5) (by decide)).a (o := 34) (by decide)).f (o := 29) (k := 7) (by decide)) (fun _ _ => rfl) (Nat.le_succ t)
  · exact OpI.n hS (Nat.le_succ t) (Bool.eq_false_iff.mpr c0) (by decide) rfl (AgR.refl G) fun o2 G2 h2 => mg_n (by rw [i126]; exact Bool.eq_false_iff.mpr c0) h2
theorem op_writeEntries {G : GS} {t : Nat} (hS : Sim G t) (ht : t < 2 ^ 20) (a0 : Int32) : OpI G fI [eX] (gt (tHold (G.1 0 4 0) a0) eX (fR (some (.int (wAll G a0 (pG G)).1)) (pP G (wAll G a0 (pG G)))) (G)) (fun Y => mg (mHold (Y.2.1 0 30) a0) 1 (fR (some (.int (nI (mWE (Y.2.1 0 30) a0.toNatClampNeg (Y.2.1 0 34)).1))) (mD (ms 0 Y) (mWE (Y.2.1 0 30) a0.toNatClampNeg (Y.2.1 0 34)))) (Y)) (t + 1) := by
  have h := hS.1
  obtain ⟨-, ⟨a, ea, ha⟩, ⟨b, eb, hb⟩⟩ := hS.2.2.2
  by_cases c0 : tHold (G.1 0 4 0) a0 = true
  · obtain ⟨j, hj, rfl, h1⟩ := h.hold_ex c0
    obtain ⟨w1, w2, w3⟩ := h.writeAll hj (pG G) (G.2.1 0 34)
    have hC : AgC G (pP G (wAll G (nI j) (pG G))) := ((AgC.refl G).a (o := 26) (by decide)).f (o := 25) (by decide)
    refine OpI.t c0 (OpI.l hC fun o2 G2 h2 => ?_)
    have e30 : ∀ v : Int64, (setO (pP G (wAll G (nI j) (pG G))) v).2.1 0 30 = G.2.1 0 30 := fun _ => rfl
    have e34 : ∀ v : Int64, (setO (pP G (wAll G (nI j) (pG G))) v).2.1 0 34 = G.2.1 0 34 := fun _ => rfl
    rw [e30, e34] at h2
    rw [mg_t (by rw [h.hold]; exact c0), nI_clamp (show j < 2 ^ 31 by omega)] at h2
    generalize mWE (G.2.1 0 30) j (G.2.1 0 34) = M at h2 w1 w2 w3
    generalize wAll G (nI j) (pG G) = P at h2 w1 w3 ⊢
    obtain ⟨rfl, rfl⟩ := h2
    refine ⟨_, rfl, by rw [w1], rfl, ?_, ?_⟩
    · unfold mD
      rw [putF_k _ _ (by decide), putA_fld, ms_5]
    · unfold mD pP
      refine hS.ag ((((((AgX.refl G).a (o := 26) (by decide)).f (o := 25) (k := 0) (by decide)).o).f (o := 29) (k := 5) (by decide)).a (o := 34) (by decide) |>.f (o := 29) (k := 7) (by decide)) ⟨⟨M.1, w2, ?_, ?_, fun i hi => w3 i hi⟩, ⟨a, ?_, ha⟩, ⟨b, ?_, hb⟩⟩ ?_ (Nat.le_succ t)
      · rw [putF_o _ _ _ (by decide), putA_fld, ms, putF_o _ _ _ (by decide)]
        show (putF (putA G 0 26 P.2) 0 25 0 P.1).1 0 25 0 = _
        rw [putF_v]
        exact w1
      · rw [putF_v]
      · rw [putF_k _ _ (by decide), putA_fld, ms, putF_k _ _ (by decide)]
        exact ea
      · rw [putF_k _ _ (by decide), putA_fld, ms, putF_k _ _ (by decide)]
        exact eb
      · exact h.congr ((((((SmR.refl (G.1 0) (G.2.1 0)).a (o := 26) (by decide)).f (o := 25) (k := 0) (by decide)).f (o := 29) (k := 5) (by decide)).a (o := 34) (by decide)).f (o := 29) (k := 7) (by decide)) (fun _ _ => rfl) (Nat.le_succ t)
  · exact OpI.n hS (Nat.le_succ t) (Bool.eq_false_iff.mpr c0) (by decide) rfl (AgR.refl G) fun o2 G2 h2 => mg_n (by rw [h.hold]; exact Bool.eq_false_iff.mpr c0) h2
