/-! the operations that change the state -/
def AgK (K X : GS) : Prop := (AgX K X ∧ AgP K X) ∧ AgC K X
theorem AgK.refl (K : GS) : AgK K K := ⟨⟨AgX.refl K, AgP.refl K⟩, AgC.refl K⟩
theorem AgK.f {K X : GS} (h : AgK K X) {o k : Nat} {v : Int32} (ho : o < 15 ∨ o = 22 ∨ o = 27) : AgK K (putF X 0 o k v) := ⟨⟨h.1.1.f (by omega), h.1.2.f (by omega)⟩, h.2.f (by omega)⟩
theorem AgK.a {K X : GS} (h : AgK K X) {o : Nat} {a : Nat → Int32} (ho : o < 26 ∨ o = 28) : AgK K (putA X 0 o a) := ⟨⟨h.1.1.a (by omega), h.1.2.a (by omega)⟩, h.2.a (by omega)⟩
theorem AgK.i {K X X2 : GS} {p : Prop} [Decidable p] (h : AgK K X) (h2 : AgK K X2) : AgK K (if p then X else X2) := by
  by_cases hp : p
  · rw [if_pos hp]; exact h
  · rw [if_neg hp]; exact h2
theorem AgK.sA {K X : GS} (h : AgK K X) {o : Nat} {n i x : Int32} (ho : o < 14) : AgK K (sArr X 0 o n i x) := (h.a (o := o) (Or.inl (by omega))).i h
theorem AgK.pL {K X : GS} (h : AgK K X) (q : (Nat → Int32) × (Nat → Int32)) : AgK K (putLs X q) := (h.a (o := 10) (by decide)).a (o := 9) (by decide)
theorem AgK.jS_ {K X : GS} (h : AgK K X) (a b : Nat → Int32) : AgK K (jS X a b) := (h.a (o := 19) (by decide)).a (o := 20) (by decide)
theorem AgK.sM {K X : GS} (h : AgK K X) (o pa ow : Int32) : AgK K (sMake o pa ow X) := ((((h.f (o := 4) (by decide)).sA (o := 5) (by decide)).sA (o := 6) (by decide)).sA (o := 7) (by decide)).f (o := 4) (by decide)
theorem AgK.sL {K X : GS} (h : AgK K X) (u o : Int32) (b : Bool) : AgK K (sLog u o b X) := ((((h.f (o := 11) (by decide)).f (o := 11) (by decide)).a (o := 12) (by decide)).a (o := 13) (by decide)).f (o := 11) (by decide)
theorem AgK.trans {K X X2 : GS} (h : AgK K X) (h2 : AgK X X2) : AgK K X2 := ⟨⟨h.1.1.trans h2.1.1, h.1.2.trans h2.1.2⟩, h.2.trans h2.2⟩
theorem AgP.keep (G : GS) : AgP G (sKeep G) := by
  refine ⟨⟨?_, ?_, ?_, ?_⟩, ?_, ?_⟩
  · rw [sKeep_fld G (by decide)]
  · rw [sKeep_row]
  · rw [sKeep_fld G (by decide)]
  · rw [sKeep_row]
  · rw [sKeep_fld G (by decide)]
  · rw [sKeep_fld G (by decide)]
theorem AgP.mC_ (G : GS) : AgP G (mC G) := ⟨⟨by rw [mC_f _ (by decide)], mC_a _ (by decide), mC_f29 _ (by decide) (by decide), mC_a _ (by decide)⟩, mC_f29 _ (by decide) (by decide), mC_f29 _ (by decide) (by decide)⟩
theorem AgK.w {G X : GS} (h : AgK (sKeep G) X) : X.2.1 0 30 = G.2.1 0 30 := by rw [h.2.2 30 (by decide) (by decide), sKeep_row]
/-- the model's changes beside its row -/
def AgZ (Y Z : GS) : Prop := (AgX Y Z ∧ AgP Y Z) ∧ AgM Y Z ∧ Z.1 0 29 5 = Y.1 0 29 5
theorem AgZ.refl (Y : GS) : AgZ Y Y := ⟨⟨AgX.refl Y, AgP.refl Y⟩, AgM.refl Y, rfl⟩
theorem AgZ.a {Y Z : GS} (h : AgZ Y Z) {o : Nat} {a : Nat → Int32} (ho : o = 30 ∨ o = 35 ∨ o = 36) : AgZ Y (putA Z 0 o a) := ⟨⟨h.1.1.a (by omega), h.1.2.a (by omega)⟩, h.2.1.a (by omega), h.2.2⟩
/-- a change's end -/
theorem OpI.m {G X : GS} {f : Int32 → Int64} {cs : List String} {Qm : GS → cOut → GS → Prop} {t t2 : Nat} {x : Int32} (w2 : Nat → Int32) (hS : Sim G t) (ht : t ≤ t2) (hX : AgK (sKeep G) X) (hr : Rel (X.1 0) (X.2.1 0) w2 t2) (hm : ∀ o2 G2, Qm (setO X (f x)) o2 G2 → ∃ y Z, o2 = .inl (some (.int y)) ∧ f y = f x ∧ AgZ (mC (setO X (f x))) Z ∧ G2 = mWr w2 Z) : OpI G f cs (fR (some (.int x)) X) Qm t2 := by
  refine OpI.l ((AgC.keep G).trans hX.2) fun o2 G2 h2 => ?_
  obtain ⟨y, Z, e1, e2, ⟨⟨z1, z2⟩, z3, z4⟩, rfl⟩ := hm o2 G2 h2
  refine ⟨y, e1, e2, ?_, ?_, ?_⟩
  · show Z.2.2.2 = _
    rw [z3.2.2, mC_lv]
    rfl
  · show Z.1 0 29 5 = 0
    rw [z4, mC_5]
  · refine hS.op (X := setO X (f x)) hX.1.1 ?_ (z1.a (by decide)) (z3.a (by decide)) ?_ (putA_same _ _ _ _) hr ht
    · show X.2.1 0 30 = _
      rw [hX.2.2 30 (by decide) (by decide)]
    · exact hS.2.2.2.ag (((((AgP.keep G).trans hX.1.2).o (v := f x)).trans (AgP.mC_ _)).trans (z2.a (by decide)))
theorem op_addUser {G : GS} {t : Nat} (hS : Sim G t) (ht : t < 2 ^ 20)  : OpI G fI [eS] (gt (decide (G.1 0 1 0 < 12)) eS (fR (some (.int ((sKeep G).1 0 1 0))) (putF (sKeep G) 0 1 0 ((sKeep G).1 0 1 0 + 1))) (G)) (fun Y => mg (!decide (Y.2.1 0 30 0 = 12)) 1 (fR (some (.int ((mC Y).2.1 0 30 0 + 1 - 1))) (mUp 0 ((mC Y).2.1 0 30 0 + 1) (mC Y))) (Y)) (t + 1) := by
  have h := hS.1
  have h12 := h.ok.us12
  by_cases c : mUs (G.2.1 0 30) < 12
  · refine OpI.t (decide_eq_true (by rw [h.us]; exact nI_lt (b := 12) c (by decide))) ?_
    refine OpI.m (upd (G.2.1 0 30) 0 (G.2.1 0 30 0 + 1)) hS (Nat.le_succ t) ((AgK.refl _).f (by decide)) ((h.keep.addUser c).mono (Nat.le_succ t)) fun o2 G2 h2 => ?_
    have e30 : (setO (putF (sKeep G) 0 1 0 ((sKeep G).1 0 1 0 + 1)) (fI ((sKeep G).1 0 1 0))).2.1 0 30 = G.2.1 0 30 := congrFun (sKeep_row G) 30
    rw [mg_t (by rw [e30, h.ok.us, decide_eq_false (show ¬ nI (mUs (G.2.1 0 30)) = 12 from fun z => absurd ((nI_eq (b := 12) (by omega) (by decide)).mp z) (by omega))]; rfl)] at h2
    obtain ⟨rfl, rfl⟩ := h2
    refine ⟨_, _, rfl, ?_, AgZ.refl _, ?_⟩
    · rw [mC_w, e30, Int32.add_sub_cancel, h.ok.us, sKeep_fld G (by decide), h.us]
    · rw [mUp, mC_w, e30]; rfl
  · refine OpI.n hS (Nat.le_succ t) (decide_eq_false (by rw [h.us]; exact nI_nlt (b := 12) (by omega) (by omega))) (by decide) rfl (AgR.refl G) fun o2 G2 h2 => mg_n ?_ h2
    rw [h.ok.us, show mUs (G.2.1 0 30) = 12 by omega]; rfl
theorem op_addGroup {G : GS} {t : Nat} (hS : Sim G t) (ht : t < 2 ^ 20)  : OpI G fI [eS] (gt (decide (G.1 0 1 1 < 8)) eS (fR (some (.int ((sKeep G).1 0 1 1))) (putF (sKeep G) 0 1 1 ((sKeep G).1 0 1 1 + 1))) (G)) (fun Y => mg (!decide (Y.2.1 0 30 1 = 8)) 1 (fR (some (.int ((mC Y).2.1 0 30 1 + 1 - 1))) (mUp 1 ((mC Y).2.1 0 30 1 + 1) (mC Y))) (Y)) (t + 1) := by
  have h := hS.1
  have h12 := h.ok.gs8
  by_cases c : mGs (G.2.1 0 30) < 8
  · refine OpI.t (decide_eq_true (by rw [h.gs]; exact nI_lt (b := 8) c (by decide))) ?_
    refine OpI.m (upd (G.2.1 0 30) 1 (G.2.1 0 30 1 + 1)) hS (Nat.le_succ t) ((AgK.refl _).f (by decide)) ((h.keep.addGroup c).mono (Nat.le_succ t)) fun o2 G2 h2 => ?_
    have e30 : (setO (putF (sKeep G) 0 1 1 ((sKeep G).1 0 1 1 + 1)) (fI ((sKeep G).1 0 1 1))).2.1 0 30 = G.2.1 0 30 := congrFun (sKeep_row G) 30
    rw [mg_t (by rw [e30, h.ok.gs, decide_eq_false (show ¬ nI (mGs (G.2.1 0 30)) = 8 from fun z => absurd ((nI_eq (b := 8) (by omega) (by decide)).mp z) (by omega))]; rfl)] at h2
    obtain ⟨rfl, rfl⟩ := h2
    refine ⟨_, _, rfl, ?_, AgZ.refl _, ?_⟩
    · rw [mC_w, e30, Int32.add_sub_cancel, h.ok.gs, sKeep_fld G (by decide), h.gs]
    · rw [mUp, mC_w, e30]; rfl
  · refine OpI.n hS (Nat.le_succ t) (decide_eq_false (by rw [h.gs]; exact nI_nlt (b := 8) (by omega) (by omega))) (by decide) rfl (AgR.refl G) fun o2 G2 h2 => mg_n ?_ h2
    rw [h.ok.gs, show mGs (G.2.1 0 30) = 8 by omega]; rfl
theorem AgK.sSetM_ (K : GS) (g u : Int32) (b : Bool) : AgK K (sSetM g u b K) := ((AgK.refl K).a (o := 2) (by decide)).i (AgK.refl K)
theorem AgK.sSetI_ (K : GS) (g u : Int32) (b : Bool) : AgK K (sSetI g u b K) := ((AgK.refl K).a (o := 3) (by decide)).i (AgK.refl K)
theorem Rel.mem {F A : Nat → Nat → Int32} {w : Nat → Int32} {t : Nat} (h : Rel F A w t) {u g : Nat} (hu : u < 12) (hg : g < 8) : sMem (A 2) (nI g) (nI u) = mHas (w (2 + g)) (nI u) := by
  unfold sMem
  rw [nI_clamp (show u < 2 ^ 31 by omega), jIdx12 hu, Bool.true_and, jHas_bt _ (by omega), mHas_bt _ (by omega), h.mm hu hg]
theorem Rel.inn {F A : Nat → Nat → Int32} {w : Nat → Int32} {t : Nat} (h : Rel F A w t) {x y : Nat} (hx : x < 8) (hy : y < 8) : sInn (A 3) (nI x) (nI y) = mHas (w (10 + y)) (nI x) := by
  unfold sInn
  rw [nI_clamp (show y < 2 ^ 31 by omega), jIdx8 hy, Bool.true_and, jHas_bt _ (by omega), mHas_bt _ (by omega), h.nn hy]
theorem Rel.uCnt_ {X : GS} {w : Nat → Int32} {t : Nat} (h : Rel (X.1 0) (X.2.1 0) w t) {g n : Nat} (hg : g < mGs w) (hn : n = mGs w) : uCnt X n (nI g) = mHow w (mGs w) g (mUs w) 0 0 := by
  subst hn
  exact h.howMany hg
theorem op_join {G : GS} {t : Nat} (hS : Sim G t) (ht : t < 2 ^ 20) (a0 : Int32) (a1 : Int32) : OpI G fI [eX, eS] (gt (jIdx a0 (G.1 0 1 0)) eX (gt (jIdx a1 (G.1 0 1 1)) eX (gt (!sMem (G.2.1 0 2) a1 a0) eS (fR (some (.int (uCnt (sSetM a1 a0 true (sKeep G)) (gN G) a1))) (sSetM a1 a0 true (sKeep G))) (G)) (G)) (G)) (fun Y => mg (mIn a0 0 (Y.2.1 0 30 0 - 1) && mIn a1 0 (Y.2.1 0 30 1 - 1)) 1 (mg (!mHas (Y.2.1 0 30 (2 + a1.toNatClampNeg)) a0) 2 (fR (some (.int (mHow ((mUp (2 + a1.toNatClampNeg) ((mC Y).2.1 0 30 (2 + a1.toNatClampNeg) ||| ((1 : Int32) <<< (a0 &&& 31))) (mC Y)).2.1 0 30) (mGs (Y.2.1 0 30)) a1.toNatClampNeg (mUs (Y.2.1 0 30)) 0 0))) (mUp (2 + a1.toNatClampNeg) ((mC Y).2.1 0 30 (2 + a1.toNatClampNeg) ||| ((1 : Int32) <<< (a0 &&& 31))) (mC Y))) (Y)) (Y)) (t + 1) := by
  have h := hS.1
  have h12 := h.ok.us12
  have h8 := h.ok.gs8
  by_cases c0 : jIdx a0 (G.1 0 1 0) = true
  · by_cases c1 : jIdx a1 (G.1 0 1 1) = true
    · obtain ⟨u, hu, hu12, rfl⟩ := h.u_ex c0
      obtain ⟨g, hg, hg8, rfl⟩ := h.g_ex c1
      have em := h.mem hu12 hg8
      refine OpI.t c0 (OpI.t c1 ?_)
      by_cases c2 : mHas (G.2.1 0 30 (2 + g)) (nI u) = true
      · refine OpI.n hS (Nat.le_succ t) (by rw [em, c2]; rfl) (by decide) rfl (AgR.refl G) fun o2 G2 h2 => ?_
        rw [mg_t (by rw [h.uIdx, h.gIdx, c0, c1]; rfl)] at h2
        exact mg_n (by rw [nI_clamp (show g < 2 ^ 31 by omega), c2]; rfl) h2
      · have hr := h.keep.setM true hu hg
        refine OpI.t (by rw [em, Bool.eq_false_iff.mpr c2]; rfl) (OpI.m (upd (G.2.1 0 30) (2 + g) (jChg (G.2.1 0 30 (2 + g)) (nI u) true)) hS (Nat.le_succ t) (AgK.sSetM_ _ _ _ _) (hr.mono (Nat.le_succ t)) fun o2 G2 h2 => ?_)
        have e30 : (setO (sSetM (nI g) (nI u) true (sKeep G)) (fI (uCnt (sSetM (nI g) (nI u) true (sKeep G)) (gN G) (nI g)))).2.1 0 30 = G.2.1 0 30 := (AgK.sSetM_ (sKeep G) (nI g) (nI u) true).w
        rw [mg_t (by rw [e30, h.uIdx, h.gIdx, c0, c1]; rfl), mg_t (by rw [e30, nI_clamp (show g < 2 ^ 31 by omega), Bool.eq_false_iff.mpr c2]; rfl)] at h2
        rw [nI_clamp (show g < 2 ^ 31 by omega), mUp_row, mC_w, e30, or_p] at h2
        obtain ⟨rfl, rfl⟩ := h2
        refine ⟨_, _, rfl, ?_, AgZ.refl _, ?_⟩
        · have eg : mGs (upd (G.2.1 0 30) (2 + g) (jChg (G.2.1 0 30 (2 + g)) (nI u) true)) = mGs (G.2.1 0 30) := by unfold mGs; rw [upd_n (by omega)]
          have eu : mUs (upd (G.2.1 0 30) (2 + g) (jChg (G.2.1 0 30 (2 + g)) (nI u) true)) = mUs (G.2.1 0 30) := by unfold mUs; rw [upd_n (by omega)]
          rw [hr.uCnt_ (by rw [eg]; exact hg) (by rw [eg]; exact h.gN_), eg, eu]
        · rw [mUp, mC_w, e30]; rfl
    · refine OpI.t c0 ?_
      exact OpI.n hS (Nat.le_succ t) (Bool.eq_false_iff.mpr c1) (by decide) rfl (AgR.refl G) fun o2 G2 h2 => mg_n (by rw [h.uIdx, h.gIdx, c0, Bool.eq_false_iff.mpr c1]; rfl) h2
  · exact OpI.n hS (Nat.le_succ t) (Bool.eq_false_iff.mpr c0) (by decide) rfl (AgR.refl G) fun o2 G2 h2 => mg_n (by rw [h.uIdx, Bool.eq_false_iff.mpr c0]; rfl) h2
theorem op_leave {G : GS} {t : Nat} (hS : Sim G t) (ht : t < 2 ^ 20) (a0 : Int32) (a1 : Int32) : OpI G fI [eX, eS] (gt (jIdx a0 (G.1 0 1 0)) eX (gt (jIdx a1 (G.1 0 1 1)) eX (gt (sMem (G.2.1 0 2) a1 a0) eS (fR (some (.int (uCnt (sSetM a1 a0 false (sKeep G)) (gN G) a1))) (sSetM a1 a0 false (sKeep G))) (G)) (G)) (G)) (fun Y => mg (mIn a0 0 (Y.2.1 0 30 0 - 1) && mIn a1 0 (Y.2.1 0 30 1 - 1)) 1 (mg (mHas (Y.2.1 0 30 (2 + a1.toNatClampNeg)) a0) 2 (fR (some (.int (mHow ((mUp (2 + a1.toNatClampNeg) ((mC Y).2.1 0 30 (2 + a1.toNatClampNeg) - ((1 : Int32) <<< (a0 &&& 31))) (mC Y)).2.1 0 30) (mGs (Y.2.1 0 30)) a1.toNatClampNeg (mUs (Y.2.1 0 30)) 0 0))) (mUp (2 + a1.toNatClampNeg) ((mC Y).2.1 0 30 (2 + a1.toNatClampNeg) - ((1 : Int32) <<< (a0 &&& 31))) (mC Y))) (Y)) (Y)) (t + 1) := by
  have h := hS.1
  have h12 := h.ok.us12
  have h8 := h.ok.gs8
  by_cases c0 : jIdx a0 (G.1 0 1 0) = true
  · by_cases c1 : jIdx a1 (G.1 0 1 1) = true
    · obtain ⟨u, hu, hu12, rfl⟩ := h.u_ex c0
      obtain ⟨g, hg, hg8, rfl⟩ := h.g_ex c1
      have em := h.mem hu12 hg8
      refine OpI.t c0 (OpI.t c1 ?_)
      by_cases c2 : mHas (G.2.1 0 30 (2 + g)) (nI u) = true
      · have hr := h.keep.setM false hu hg
        refine OpI.t (by rw [em, c2]) (OpI.m (upd (G.2.1 0 30) (2 + g) (jChg (G.2.1 0 30 (2 + g)) (nI u) false)) hS (Nat.le_succ t) (AgK.sSetM_ _ _ _ _) (hr.mono (Nat.le_succ t)) fun o2 G2 h2 => ?_)
        have e30 : (setO (sSetM (nI g) (nI u) false (sKeep G)) (fI (uCnt (sSetM (nI g) (nI u) false (sKeep G)) (gN G) (nI g)))).2.1 0 30 = G.2.1 0 30 := (AgK.sSetM_ (sKeep G) (nI g) (nI u) false).w
        rw [mg_t (by rw [e30, h.uIdx, h.gIdx, c0, c1]; rfl), mg_t (by rw [e30, nI_clamp (show g < 2 ^ 31 by omega)]; exact c2)] at h2
        have ebt : bt (G.2.1 0 30 (2 + g)) u = true := by rw [← mHas_bt _ (by omega)]; exact c2
        rw [nI_clamp (show g < 2 ^ 31 by omega), mUp_row, mC_w, e30, sub_p _ (by omega) ebt] at h2
        obtain ⟨rfl, rfl⟩ := h2
        refine ⟨_, _, rfl, ?_, AgZ.refl _, ?_⟩
        · have eg : mGs (upd (G.2.1 0 30) (2 + g) (jChg (G.2.1 0 30 (2 + g)) (nI u) false)) = mGs (G.2.1 0 30) := by unfold mGs; rw [upd_n (by omega)]
          have eu : mUs (upd (G.2.1 0 30) (2 + g) (jChg (G.2.1 0 30 (2 + g)) (nI u) false)) = mUs (G.2.1 0 30) := by unfold mUs; rw [upd_n (by omega)]
          rw [hr.uCnt_ (by rw [eg]; exact hg) (by rw [eg]; exact h.gN_), eg, eu]
        · rw [mUp, mC_w, e30]; rfl
      · refine OpI.n hS (Nat.le_succ t) (by rw [em]; exact Bool.eq_false_iff.mpr c2) (by decide) rfl (AgR.refl G) fun o2 G2 h2 => ?_
        rw [mg_t (by rw [h.uIdx, h.gIdx, c0, c1]; rfl)] at h2
        exact mg_n (by rw [nI_clamp (show g < 2 ^ 31 by omega)]; exact Bool.eq_false_iff.mpr c2) h2
    · refine OpI.t c0 ?_
      exact OpI.n hS (Nat.le_succ t) (Bool.eq_false_iff.mpr c1) (by decide) rfl (AgR.refl G) fun o2 G2 h2 => mg_n (by rw [h.uIdx, h.gIdx, c0, Bool.eq_false_iff.mpr c1]; rfl) h2
  · exact OpI.n hS (Nat.le_succ t) (Bool.eq_false_iff.mpr c0) (by decide) rfl (AgR.refl G) fun o2 G2 h2 => mg_n (by rw [h.uIdx, Bool.eq_false_iff.mpr c0]; rfl) h2
theorem op_nest {G : GS} {t : Nat} (hS : Sim G t) (ht : t < 2 ^ 20) (a0 : Int32) (a1 : Int32) : OpI G fI [eX, eS] (gt (jIdx a0 (G.1 0 1 1)) eX (gt (jIdx a1 (G.1 0 1 1)) eX (gt (!(decide (a0 = a1) || (sInn (G.2.1 0 3) a1 a0 || (jIdx a1 8 && jHas (cUp (G.2.1 0 3) (gN G) (G.2.1 0 3 a1.toNatClampNeg)) a0)))) eS (fR (some (.int (uCnt (sSetI a1 a0 true (sKeep G)) (gN G) a1))) (sSetI a1 a0 true (sKeep G))) (G)) (G)) (G)) (fun Y => mg (mIn a0 0 (Y.2.1 0 30 1 - 1) && mIn a1 0 (Y.2.1 0 30 1 - 1)) 1 (mg (!(decide (a0 = a1) || (mHas (Y.2.1 0 30 (10 + a0.toNatClampNeg)) a1 || mHas (mOut (Y.2.1 0 30) a1.toNatClampNeg) a0))) 2 (fR (some (.int (mHow ((mUp (10 + a0.toNatClampNeg) ((mC Y).2.1 0 30 (10 + a0.toNatClampNeg) ||| ((1 : Int32) <<< (a1 &&& 31))) (mC Y)).2.1 0 30) (mGs (Y.2.1 0 30)) a1.toNatClampNeg (mUs (Y.2.1 0 30)) 0 0))) (mUp (10 + a0.toNatClampNeg) ((mC Y).2.1 0 30 (10 + a0.toNatClampNeg) ||| ((1 : Int32) <<< (a1 &&& 31))) (mC Y))) (Y)) (Y)) (t + 1) := by
  have h := hS.1
  have h12 := h.ok.us12
  have h8 := h.ok.gs8
  by_cases c0 : jIdx a0 (G.1 0 1 1) = true
  · by_cases c1 : jIdx a1 (G.1 0 1 1) = true
    · obtain ⟨i, hi, hi8, rfl⟩ := h.g_ex c0
      obtain ⟨g, hg, hg8, rfl⟩ := h.g_ex c1
      have em := h.inn hg8 hi8
      have eb : (decide (nI i = nI g) || (sInn (G.2.1 0 3) (nI g) (nI i) || (jIdx (nI g) 8 && jHas (cUp (G.2.1 0 3) (gN G) (G.2.1 0 3 (nI g).toNatClampNeg)) (nI i)))) = (decide (nI i = nI g) || (mHas (G.2.1 0 30 (10 + i)) (nI g) || mHas (mOut (G.2.1 0 30) g) (nI i))) := by
        rw [em, jIdx8 hg8, Bool.true_and, nI_clamp (show g < 2 ^ 31 by omega), h.gN_, jHas_bt _ (by omega), h.out hg8, mHas_bt (mOut _ _) (by omega)]
      refine OpI.t c0 (OpI.t c1 ?_)
      by_cases c2 : (decide (nI i = nI g) || (mHas (G.2.1 0 30 (10 + i)) (nI g) || mHas (mOut (G.2.1 0 30) g) (nI i))) = true
      · refine OpI.n hS (Nat.le_succ t) (by rw [eb, c2]; rfl) (by decide) rfl (AgR.refl G) fun o2 G2 h2 => ?_
        rw [mg_t (by rw [h.gIdx, h.gIdx, c0, c1]; rfl)] at h2
        exact mg_n (by rw [nI_clamp (show g < 2 ^ 31 by omega), nI_clamp (show i < 2 ^ 31 by omega), c2]; rfl) h2
      · have hr := h.keep.setI true hg hi
        refine OpI.t (by rw [eb, Bool.eq_false_iff.mpr c2]; rfl) (OpI.m (upd (G.2.1 0 30) (10 + i) (jChg (G.2.1 0 30 (10 + i)) (nI g) true)) hS (Nat.le_succ t) (AgK.sSetI_ _ _ _ _) (hr.mono (Nat.le_succ t)) fun o2 G2 h2 => ?_)
        have e30 : (setO (sSetI (nI g) (nI i) true (sKeep G)) (fI (uCnt (sSetI (nI g) (nI i) true (sKeep G)) (gN G) (nI g)))).2.1 0 30 = G.2.1 0 30 := (AgK.sSetI_ (sKeep G) (nI g) (nI i) true).w
        rw [mg_t (by rw [e30, h.gIdx, h.gIdx, c0, c1]; rfl), mg_t (by rw [e30, nI_clamp (show g < 2 ^ 31 by omega), nI_clamp (show i < 2 ^ 31 by omega), Bool.eq_false_iff.mpr c2]; rfl)] at h2
        rw [nI_clamp (show g < 2 ^ 31 by omega), nI_clamp (show i < 2 ^ 31 by omega), mUp_row, mC_w, e30, or_p] at h2
        obtain ⟨rfl, rfl⟩ := h2
        refine ⟨_, _, rfl, ?_, AgZ.refl _, ?_⟩
        · have eg : mGs (upd (G.2.1 0 30) (10 + i) (jChg (G.2.1 0 30 (10 + i)) (nI g) true)) = mGs (G.2.1 0 30) := by unfold mGs; rw [upd_n (by omega)]
          have eu : mUs (upd (G.2.1 0 30) (10 + i) (jChg (G.2.1 0 30 (10 + i)) (nI g) true)) = mUs (G.2.1 0 30) := by unfold mUs; rw [upd_n (by omega)]
          rw [hr.uCnt_ (by rw [eg]; exact hg) (by rw [eg]; exact h.gN_), eg, eu]
        · rw [mUp, mC_w, e30]; rfl
    · refine OpI.t c0 ?_
      exact OpI.n hS (Nat.le_succ t) (Bool.eq_false_iff.mpr c1) (by decide) rfl (AgR.refl G) fun o2 G2 h2 => mg_n (by rw [h.gIdx, h.gIdx, c0, Bool.eq_false_iff.mpr c1]; rfl) h2
  · exact OpI.n hS (Nat.le_succ t) (Bool.eq_false_iff.mpr c0) (by decide) rfl (AgR.refl G) fun o2 G2 h2 => mg_n (by rw [h.gIdx, Bool.eq_false_iff.mpr c0]; rfl) h2
theorem op_unnest {G : GS} {t : Nat} (hS : Sim G t) (ht : t < 2 ^ 20) (a0 : Int32) (a1 : Int32) : OpI G fI [eX, eS] (gt (jIdx a0 (G.1 0 1 1)) eX (gt (jIdx a1 (G.1 0 1 1)) eX (gt (sInn (G.2.1 0 3) a1 a0) eS (fR (some (.int (uCnt (sSetI a1 a0 false (sKeep G)) (gN G) a1))) (sSetI a1 a0 false (sKeep G))) (G)) (G)) (G)) (fun Y => mg (mIn a0 0 (Y.2.1 0 30 1 - 1) && mIn a1 0 (Y.2.1 0 30 1 - 1)) 1 (mg (mHas (Y.2.1 0 30 (10 + a0.toNatClampNeg)) a1) 2 (fR (some (.int (mHow ((mUp (10 + a0.toNatClampNeg) ((mC Y).2.1 0 30 (10 + a0.toNatClampNeg) - ((1 : Int32) <<< (a1 &&& 31))) (mC Y)).2.1 0 30) (mGs (Y.2.1 0 30)) a1.toNatClampNeg (mUs (Y.2.1 0 30)) 0 0))) (mUp (10 + a0.toNatClampNeg) ((mC Y).2.1 0 30 (10 + a0.toNatClampNeg) - ((1 : Int32) <<< (a1 &&& 31))) (mC Y))) (Y)) (Y)) (t + 1) := by
  have h := hS.1
  have h12 := h.ok.us12
  have h8 := h.ok.gs8
  by_cases c0 : jIdx a0 (G.1 0 1 1) = true
  · by_cases c1 : jIdx a1 (G.1 0 1 1) = true
    · obtain ⟨i, hi, hi8, rfl⟩ := h.g_ex c0
      obtain ⟨g, hg, hg8, rfl⟩ := h.g_ex c1
      have em := h.inn hg8 hi8
      refine OpI.t c0 (OpI.t c1 ?_)
      by_cases c2 : mHas (G.2.1 0 30 (10 + i)) (nI g) = true
      · have hr := h.keep.setI false hg hi
        refine OpI.t (by rw [em, c2]) (OpI.m (upd (G.2.1 0 30) (10 + i) (jChg (G.2.1 0 30 (10 + i)) (nI g) false)) hS (Nat.le_succ t) (AgK.sSetI_ _ _ _ _) (hr.mono (Nat.le_succ t)) fun o2 G2 h2 => ?_)
        have e30 : (setO (sSetI (nI g) (nI i) false (sKeep G)) (fI (uCnt (sSetI (nI g) (nI i) false (sKeep G)) (gN G) (nI g)))).2.1 0 30 = G.2.1 0 30 := (AgK.sSetI_ (sKeep G) (nI g) (nI i) false).w
        rw [mg_t (by rw [e30, h.gIdx, h.gIdx, c0, c1]; rfl), mg_t (by rw [e30, nI_clamp (show i < 2 ^ 31 by omega)]; exact c2)] at h2
        have ebt : bt (G.2.1 0 30 (10 + i)) g = true := by rw [← mHas_bt _ (by omega)]; exact c2
        rw [nI_clamp (show g < 2 ^ 31 by omega), nI_clamp (show i < 2 ^ 31 by omega), mUp_row, mC_w, e30, sub_p _ (by omega) ebt] at h2
        obtain ⟨rfl, rfl⟩ := h2
        refine ⟨_, _, rfl, ?_, AgZ.refl _, ?_⟩
        · have eg : mGs (upd (G.2.1 0 30) (10 + i) (jChg (G.2.1 0 30 (10 + i)) (nI g) false)) = mGs (G.2.1 0 30) := by unfold mGs; rw [upd_n (by omega)]
          have eu : mUs (upd (G.2.1 0 30) (10 + i) (jChg (G.2.1 0 30 (10 + i)) (nI g) false)) = mUs (G.2.1 0 30) := by unfold mUs; rw [upd_n (by omega)]
          rw [hr.uCnt_ (by rw [eg]; exact hg) (by rw [eg]; exact h.gN_), eg, eu]
        · rw [mUp, mC_w, e30]; rfl
      · refine OpI.n hS (Nat.le_succ t) (by rw [em]; exact Bool.eq_false_iff.mpr c2) (by decide) rfl (AgR.refl G) fun o2 G2 h2 => ?_
        rw [mg_t (by rw [h.gIdx, h.gIdx, c0, c1]; rfl)] at h2
        exact mg_n (by rw [nI_clamp (show i < 2 ^ 31 by omega)]; exact Bool.eq_false_iff.mpr c2) h2
    · refine OpI.t c0 ?_
      exact OpI.n hS (Nat.le_succ t) (Bool.eq_false_iff.mpr c1) (by decide) rfl (AgR.refl G) fun o2 G2 h2 => mg_n (by rw [h.gIdx, h.gIdx, c0, Bool.eq_false_iff.mpr c1]; rfl) h2
  · exact OpI.n hS (Nat.le_succ t) (Bool.eq_false_iff.mpr c0) (by decide) rfl (AgR.refl G) fun o2 G2 h2 => mg_n (by rw [h.gIdx, Bool.eq_false_iff.mpr c0]; rfl) h2
