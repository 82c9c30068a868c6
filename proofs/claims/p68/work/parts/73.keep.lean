/-! what is kept -/
theorem mC_f (G : GS) {r o : Nat} (h : ¬ (r = 0 ∧ o = 29)) : (mC G).1 r o = G.1 r o := by
  funext k
  unfold mC mCh ms
  by_cases h1 : mQ G = 5
  · simp only [if_pos h1, mChS, putF_get, putA_fld]
    rw [if_neg (fun z => h ⟨z.1, z.2.1⟩), if_neg (fun z => h ⟨z.1, z.2.1⟩)]
  · simp only [if_neg h1, mChS, putF_get, putA_fld]
    rw [if_neg (fun z => h ⟨z.1, z.2.1⟩), if_neg (fun z => h ⟨z.1, z.2.1⟩)]
theorem mC_f29 (G : GS) {k : Nat} (h4 : ¬ k = 4) (h5 : ¬ k = 5) : (mC G).1 0 29 k = G.1 0 29 k := by
  unfold mC mCh ms
  by_cases h1 : mQ G = 5
  · simp [if_pos h1, mChS, putF_get, putA_fld, h4, h5]
  · simp [if_neg h1, mChS, putF_get, putA_fld, h4, h5]
theorem mC_4 (G : GS) : (mC G).1 0 29 4 = nI (if mQ G = 5 then 5 else mQ G + 1) := by
  unfold mC mCh ms
  by_cases h1 : mQ G = 5
  · simp [if_pos h1, mChS, putF_get]
  · simp [if_neg h1, mChS, putF_get]
theorem mC_5 (G : GS) : (mC G).1 0 29 5 = 0 := by
  unfold mC mCh ms
  by_cases h1 : mQ G = 5
  · simp [if_pos h1, mChS, putF_get, putA_fld]
  · simp [if_neg h1, mChS, putF_get, putA_fld]
theorem mC_a (G : GS) {r o : Nat} (h : ¬ (r = 0 ∧ o = 31)) : (mC G).2.1 r o = G.2.1 r o := by
  unfold mC mCh ms
  by_cases h1 : mQ G = 5
  · simp only [if_pos h1, mChS, putA_get, putF_row]
    rw [if_neg h]
  · simp only [if_neg h1, mChS, putA_get, putF_row]
    rw [if_neg h]
theorem mC_31 (G : GS) : (mC G).2.1 0 31 = if mQ G = 5 then mCpK (mShK (G.2.1 0 31) 3060) (G.2.1 0 30) 3060 765 else mCpK (G.2.1 0 31) (G.2.1 0 30) (765 * mQ G) 765 := by
  unfold mC mCh ms
  by_cases h1 : mQ G = 5
  · simp [if_pos h1, mChS, putA_get, putF_row]
  · simp [if_neg h1, mChS, putA_get, putF_row]
theorem mC_lv (G : GS) : (mC G).2.2 = G.2.2 := by
  unfold mC mCh
  by_cases h1 : mQ G = 5
  · rw [if_pos h1]; rfl
  · rw [if_neg h1]; rfl
theorem mC_fs (G : GS) (r : Nat) : (mC G).1 (r + 1) = G.1 (r + 1) := funext fun _ => mC_f G (by omega)
theorem mC_as (G : GS) (r : Nat) : (mC G).2.1 (r + 1) = G.2.1 (r + 1) := funext fun _ => mC_a G (by omega)
/-- the row that is written -/
def kRow (G : GS) : Nat := (jMod ((if G.1 0 15 0 < 5 then G.1 0 15 1 else jMod (G.1 0 15 1 + 1) 5) + (if G.1 0 15 0 < 5 then G.1 0 15 0 else G.1 0 15 0 - 1)) 5).toNatClampNeg + 1
theorem sKeep_eq (G : GS) : ∃ G1 : GS, (∀ r, G1.1 (r + 1) = G.1 (r + 1)) ∧ (∀ o, ¬ o = 15 → G1.1 0 o = G.1 0 o) ∧ G1.2 = G.2 ∧ G1.1 0 15 0 = (if G.1 0 15 0 < 5 then G.1 0 15 0 else G.1 0 15 0 - 1) ∧ G1.1 0 15 1 = (if G.1 0 15 0 < 5 then G.1 0 15 1 else jMod (G.1 0 15 1 + 1) 5) ∧ sKeep G = putF (cpState (kRow G) 0 G1) 0 15 0 (G1.1 0 15 0 + 1) := by
  unfold sKeep kRow
  by_cases h : G.1 0 15 0 < 5
  · refine ⟨G, fun _ => rfl, fun _ _ => rfl, rfl, ?_, ?_, ?_⟩
    · rw [if_pos h]
    · rw [if_pos h]
    · simp only [if_pos h]
  · refine ⟨putF (putF G 0 15 1 (jMod (G.1 0 15 1 + 1) 5)) 0 15 0 (G.1 0 15 0 - 1), fun r => ?_, fun o ho => ?_, rfl, ?_, ?_, ?_⟩
    · funext o k; simp [putF_get]
    · funext k; simp [putF_get, ho]
    · rw [if_neg h]; simp [putF_get]
    · rw [if_neg h]; simp [putF_get]
    · simp only [if_neg h]
      simp only [putF_get]
      rfl
theorem jMod5n (a : Nat) (h : a < 2 ^ 31) : jMod (nI a) 5 = nI (a % 5) := jMod_nI (b := 5) h (by decide) (by decide)
theorem Sim.keep {G : GS} {t : Nat} (h : Sim G t) : Sim (mC (sKeep G)) t := by
  obtain ⟨hR, ⟨kq, od, h1, h2, h3, h4, h5, h6⟩, hS, hP⟩ := h
  obtain ⟨G1, g1, g2, g3, g4, g5, eK⟩ := sKeep_eq G
  have f0 : ∀ o, ¬ o = 15 → (sKeep G).1 0 o = G.1 0 o := fun o ho => sKeep_fld G ho
  have r0 : ∀ o, (sKeep G).2.1 0 o = G.2.1 0 o := fun o => congrFun (sKeep_row G) o
  have eq : mQ (sKeep G) = kq := by unfold mQ; rw [f0 29 (by decide), h5, nI_clamp (by omega)]
  have hc : (G.1 0 15 0 < 5) ↔ kq < 5 := by rw [h3]; exact nI_ltI (b := 5) (by omega) (by decide)
  -- the row written, the count, the oldest
  have hrow : kRow G = (if kq < 5 then (od + kq) % 5 else ((od + 1) % 5 + 4) % 5) + 1 := by
    unfold kRow
    by_cases z : kq < 5
    · rw [if_pos (hc.mpr z), if_pos (hc.mpr z), if_pos z, h3, h4, nI_add, jMod5n _ (by omega), nI_clamp (by omega)]
    · have z5 : kq = 5 := by omega
      rw [if_neg (fun y => z (hc.mp y)), if_neg (fun y => z (hc.mp y)), if_neg z, h3, h4, nI_1, jMod5n _ (by omega), z5, nI_m1 (by omega), nI_add, jMod5n _ (by omega), nI_clamp (by omega)]
  have hkr : 1 ≤ kRow G ∧ kRow G ≤ 5 := by
    rw [hrow]
    have := Nat.mod_lt (od + kq) (show 0 < 5 by decide)
    have := Nat.mod_lt ((od + 1) % 5 + 4) (show 0 < 5 by decide)
    by_cases z : kq < 5
    · rw [if_pos z]; omega
    · rw [if_neg z]; omega
  have hcp : SmR (G.1 0) (G.2.1 0) ((sKeep G).1 (kRow G)) ((sKeep G).2.1 (kRow G)) := by
    have hh := cp_to (a := kRow G) (b := 0) G1 (by omega)
    have e1 : (sKeep G).1 (kRow G) = (cpState (kRow G) 0 G1).1 (kRow G) := by
      rw [eK]; funext o k; rw [putF_get, if_neg (by omega)]
    have e2 : (sKeep G).2.1 (kRow G) = (cpState (kRow G) 0 G1).2.1 (kRow G) := by rw [eK]; rfl
    rw [e1, e2]
    obtain ⟨⟨a1, a2, a3, a4, a5, a6, a7⟩, b1, b2, b3, b4, b5, b6, b7, b8, b9⟩ := hh
    have k1 := g2 1 (by decide)
    have k4 := g2 4 (by decide)
    have k11 := g2 11 (by decide)
    have ka : G1.2.1 0 = G.2.1 0 := by rw [g3]
    rw [k1] at a1 a2; rw [k4] at a3 a4; rw [k11] at a5 a6 a7
    rw [ka] at b1 b2 b3 b4 b5 b6 b7 b8 b9
    exact ⟨⟨a1, a2, a3, a4, a5, a6, a7⟩, b1, b2, b3, b4, b5, b6, b7, b8, b9⟩
  have hoth : ∀ r, ¬ r + 1 = kRow G → (sKeep G).1 (r + 1) = G.1 (r + 1) ∧ (sKeep G).2.1 (r + 1) = G.2.1 (r + 1) := by
    intro r hr
    have hh := cp_oth (a := kRow G) (b := 0) (r := r + 1) G1 hr
    rw [eK]
    refine ⟨?_, ?_⟩
    · rw [← g1 r, ← hh.1]
      funext o k
      rw [putF_get, if_neg (by omega)]
    · show (cpState (kRow G) 0 G1).2.1 (r + 1) = _
      rw [hh.2, g3]
  have hlv : (sKeep G).2.2 = G.2.2 := sKeep_lv G
  have k0 : (sKeep G).1 0 15 0 = nI (if kq < 5 then kq + 1 else 5) := by
    rw [eK, putF_get, if_pos ⟨rfl, rfl, rfl⟩, g4, h3]
    by_cases z : kq < 5
    · rw [if_pos (by rw [← h3]; exact hc.mpr z), if_pos z, nI_1]
    · have z5 : kq = 5 := by omega
      rw [if_neg (by rw [← h3]; exact fun y => z (hc.mp y)), if_neg z, z5]
      decide
  have k1 : (sKeep G).1 0 15 1 = nI (if kq < 5 then od else (od + 1) % 5) := by
    have e15 : (cpState (kRow G) 0 G1).1 0 15 1 = G1.1 0 15 1 := by
      rw [(cp_oth (a := kRow G) (b := 0) (r := 0) G1 (by omega)).1]
    rw [eK, putF_get, if_neg (by decide), e15, g5, h4]
    by_cases z : kq < 5
    · rw [if_pos (hc.mpr z), if_pos z]
    · rw [if_neg (fun y => z (hc.mp y)), if_neg z, nI_1, jMod5n _ (by omega)]
  refine ⟨?_, ?_, ?_, ?_⟩
  · rw [mC_w, r0]
    refine hR.congr ?_ (fun _ _ => rfl) (Nat.le_refl t)
    refine ⟨⟨?_, ?_, ?_, ?_, ?_, ?_, ?_⟩, ?_, ?_, ?_, ?_, ?_, ?_, ?_, ?_, ?_⟩
    all_goals first
      | rw [mC_f _ (by decide), f0 _ (by decide)]
      | rw [mC_a _ (by decide), r0]
  · refine ⟨if kq < 5 then kq + 1 else 5, if kq < 5 then od else (od + 1) % 5, ?_, ?_, ?_, ?_, ?_, ?_⟩
    · by_cases z : kq < 5
      · rw [if_pos z]; omega
      · rw [if_neg z]; omega
    · by_cases z : kq < 5
      · rw [if_pos z]; exact h2
      · rw [if_neg z]; exact Nat.mod_lt _ (by decide)
    · rw [mC_f _ (by decide)]; exact k0
    · rw [mC_f _ (by decide)]; exact k1
    · rw [mC_4, eq]
      by_cases z : kq < 5
      · rw [if_pos z, if_neg (by omega)]
      · rw [if_neg z, if_pos (by omega)]
    · intro i hi
      rw [mC_fs, mC_as, mC_31, eq, r0, r0]
      by_cases z : kq < 5
      · rw [if_pos z] at hi
        rw [if_pos z] at hrow
        rw [if_pos z, if_neg (show ¬ kq = 5 by omega)]
        by_cases hik : i = kq
        · subst hik
          rw [← hrow]
          refine hR.congr hcp (fun x hx => ?_) (Nat.le_refl t)
          rw [mCpK, if_pos (by omega), Nat.add_sub_cancel_left]
        · have hne : ¬ (od + i) % 5 + 1 = kRow G := by rw [hrow]; omega
          rw [(hoth _ hne).1, (hoth _ hne).2]
          refine (h6 i (by omega)).congr (SmR.refl _ _) (fun x hx => ?_) (Nat.le_refl t)
          rw [mCpK, if_neg (by omega)]
      · rw [if_neg z] at hi
        rw [if_neg z] at hrow
        have z5 : kq = 5 := by omega
        rw [if_neg z, if_pos z5]
        by_cases hik : i = 4
        · subst hik
          rw [← hrow]
          refine hR.congr hcp (fun x hx => ?_) (Nat.le_refl t)
          rw [mCpK, if_pos (by omega)]
          refine congrArg (G.2.1 0 30) ?_
          omega
        · have hne : ¬ ((od + 1) % 5 + i) % 5 + 1 = kRow G := by rw [hrow]; omega
          rw [(hoth _ hne).1, (hoth _ hne).2, show ((od + 1) % 5 + i) % 5 = (od + (i + 1)) % 5 by omega]
          refine (h6 (i + 1) (by omega)).congr (SmR.refl _ _) (fun x hx => ?_) (Nat.le_refl t)
          rw [mCpK, if_neg (by omega), mShK, if_pos (by omega)]
          refine congrArg (G.2.1 0 31) ?_
          omega
  · intro j hj
    rw [mC_fs _ (j + 5), mC_as _ (j + 5), mC_a _ (by decide), mC_a _ (by decide), mC_lv, hlv, r0, r0, (hoth (j + 5) (by omega)).1, (hoth (j + 5) (by omega)).2]
    exact hS j hj
  · refine hP.ag ⟨⟨?_, ?_, ?_, ?_⟩, ?_, ?_⟩
    · rw [mC_f _ (by decide), f0 _ (by decide)]
    · rw [mC_a _ (by decide), r0]
    · rw [mC_f29 _ (by decide) (by decide), f0 _ (by decide)]
    · rw [mC_a _ (by decide), r0]
    · rw [mC_f29 _ (by decide) (by decide), f0 _ (by decide)]
    · rw [mC_f29 _ (by decide) (by decide), f0 _ (by decide)]
/-! agreeing, cell by cell -/
theorem putF_s (G : GS) (o k r : Nat) (v : Int32) : (putF G 0 o k v).1 (r + 1) = G.1 (r + 1) := by
  funext o2 k2; rw [putF_get, if_neg (by omega)]
theorem putF_o (G : GS) {o o2 : Nat} (k : Nat) (v : Int32) (h : ¬ o2 = o) : (putF G 0 o k v).1 0 o2 = G.1 0 o2 := by
  funext k2; rw [putF_get, if_neg (fun z => h z.2.1)]
theorem putF_k (G : GS) {o k k2 : Nat} (v : Int32) (h : ¬ k2 = k) : (putF G 0 o k v).1 0 o k2 = G.1 0 o k2 := by
  rw [putF_get, if_neg (fun z => h z.2.2)]
theorem putF_v (G : GS) (o k : Nat) (v : Int32) : (putF G 0 o k v).1 0 o k = v := by rw [putF_get, if_pos ⟨rfl, rfl, rfl⟩]
theorem putA_s (G : GS) (o r : Nat) (a : Nat → Int32) : (putA G 0 o a).2.1 (r + 1) = G.2.1 (r + 1) := by
  funext o2; rw [putA_get, if_neg (by omega)]
theorem putA_o (G : GS) {o o2 : Nat} (a : Nat → Int32) (h : ¬ o2 = o) : (putA G 0 o a).2.1 0 o2 = G.2.1 0 o2 := by rw [putA_get, if_neg (fun z => h z.2)]
theorem AgX.f {G G2 : GS} (h : AgX G G2) {o k : Nat} {v : Int32} (ho : ¬ o = 15 ∧ (o = 29 → ¬ k = 4)) : AgX G (putF G2 0 o k v) := by
  refine h.trans ⟨fun r => ⟨putF_s _ _ _ _ _, rfl⟩, ⟨?_, ?_, ?_, rfl, rfl, rfl⟩, rfl⟩
  · rw [putF_o _ _ _ (fun z => ho.1 z.symm)]
  · rw [putF_o _ _ _ (fun z => ho.1 z.symm)]
  · rw [putF_get, if_neg (fun z => ho.2 z.2.1.symm z.2.2.symm)]
theorem AgX.a {G G2 : GS} (h : AgX G G2) {o : Nat} {a : Nat → Int32} (ho : ¬ o = 31 ∧ ¬ o = 32 ∧ ¬ o = 33) : AgX G (putA G2 0 o a) :=
  h.trans ⟨fun r => ⟨rfl, putA_s _ _ _ _⟩, ⟨rfl, rfl, rfl, putA_o _ _ (fun z => ho.1 z.symm), putA_o _ _ (fun z => ho.2.1 z.symm), putA_o _ _ (fun z => ho.2.2 z.symm)⟩, rfl⟩
theorem AgX.o {G G2 : GS} (h : AgX G G2) {v : Int64} : AgX G (setO G2 v) := h
theorem AgP.f {G G2 : GS} (h : AgP G G2) {o k : Nat} {v : Int32} (ho : (o = 25 → ¬ k = 0) ∧ (o = 29 → ¬ k = 7 ∧ ¬ k = 10 ∧ ¬ k = 12)) : AgP G (putF G2 0 o k v) := by
  refine h.trans ⟨⟨?_, rfl, ?_, rfl⟩, ?_, ?_⟩
  · rw [putF_get, if_neg (fun z => ho.1 z.2.1.symm z.2.2.symm)]
  · rw [putF_get, if_neg (fun z => (ho.2 z.2.1.symm).1 z.2.2.symm)]
  · rw [putF_get, if_neg (fun z => (ho.2 z.2.1.symm).2.1 z.2.2.symm)]
  · rw [putF_get, if_neg (fun z => (ho.2 z.2.1.symm).2.2 z.2.2.symm)]
theorem AgP.a {G G2 : GS} (h : AgP G G2) {o : Nat} {a : Nat → Int32} (ho : ¬ o = 26 ∧ ¬ o = 34) : AgP G (putA G2 0 o a) :=
  h.trans ⟨⟨rfl, putA_o _ _ (fun z => ho.1 z.symm), rfl, putA_o _ _ (fun z => ho.2 z.symm)⟩, rfl, rfl⟩
theorem AgP.o {G G2 : GS} (h : AgP G G2) {v : Int64} : AgP G (setO G2 v) := h
theorem AgC.refl (G : GS) : AgC G G := ⟨⟨rfl, rfl⟩, fun _ _ _ => rfl⟩
theorem AgC.trans {G G2 G3 : GS} (h : AgC G G2) (h2 : AgC G2 G3) : AgC G G3 := ⟨⟨h2.1.1.trans h.1.1, h2.1.2.trans h.1.2⟩, fun o h3 h4 => (h2.2 o h3 h4).trans (h.2 o h3 h4)⟩
theorem AgC.f {G G2 : GS} (h : AgC G G2) {o k : Nat} {v : Int32} (ho : ¬ o = 29) : AgC G (putF G2 0 o k v) := h.trans ⟨⟨putF_o _ _ _ (fun z => ho z.symm), rfl⟩, fun _ _ _ => rfl⟩
theorem AgC.a {G G2 : GS} (h : AgC G G2) {o : Nat} {a : Nat → Int32} (ho : o < 30 ∨ 48 ≤ o) : AgC G (putA G2 0 o a) := h.trans ⟨⟨rfl, rfl⟩, fun o2 h3 h4 => putA_o _ _ (by omega)⟩
theorem AgC.o {G G2 : GS} (h : AgC G G2) {v : Int64} : AgC G (setO G2 v) := h
theorem AgC.keep (G : GS) : AgC G (sKeep G) := ⟨⟨sKeep_fld G (by decide), congrArg Prod.fst (sKeep_lv G)⟩, fun o _ _ => congrFun (sKeep_row G) o⟩
/-- only cells of the model were changed -/
def AgM (G G2 : GS) : Prop := (∀ o, ¬ o = 29 → G2.1 0 o = G.1 0 o) ∧ (∀ o, o < 30 → G2.2.1 0 o = G.2.1 0 o) ∧ G2.2.2.2 = G.2.2.2
theorem AgM.refl (G : GS) : AgM G G := ⟨fun _ _ => rfl, fun _ _ => rfl, rfl⟩
theorem AgM.trans {G G2 G3 : GS} (h : AgM G G2) (h2 : AgM G2 G3) : AgM G G3 := ⟨fun o h3 => (h2.1 o h3).trans (h.1 o h3), fun o h3 => (h2.2.1 o h3).trans (h.2.1 o h3), h2.2.2.trans h.2.2⟩
theorem AgM.f {G G2 : GS} (h : AgM G G2) {k : Nat} {v : Int32} : AgM G (putF G2 0 29 k v) := h.trans ⟨fun _ ho => putF_o _ _ _ ho, fun _ _ => rfl, rfl⟩
theorem AgM.a {G G2 : GS} (h : AgM G G2) {o : Nat} {a : Nat → Int32} (ho : 30 ≤ o) : AgM G (putA G2 0 o a) := h.trans ⟨fun _ _ => rfl, fun o2 h3 => putA_o _ _ (by omega), rfl⟩
theorem AgM.mC_ (G : GS) : AgM G (mC G) := ⟨fun _ ho => mC_f _ (fun z => ho z.2), fun _ ho => mC_a _ (by omega), congrArg Prod.snd (mC_lv G)⟩
theorem AgM.smr {G G2 : GS} (h : AgM G G2) : SmR (G.1 0) (G.2.1 0) (G2.1 0) (G2.2.1 0) := by
  obtain ⟨h1, h2, -⟩ := h
  refine ⟨⟨?_, ?_, ?_, ?_, ?_, ?_, ?_⟩, ?_, ?_, ?_, ?_, ?_, ?_, ?_, ?_, ?_⟩
  all_goals first
    | rw [h1 _ (by decide)]
    | rw [h2 _ (by decide)]
theorem AgX.mC2 {K X : GS} (h : AgX K X) (h30 : X.2.1 0 30 = K.2.1 0 30) : AgX (mC K) (mC X) := by
  obtain ⟨a1, ⟨b1, b2, b3, b4, b5, b6⟩, c1⟩ := h
  have eq : mQ X = mQ K := by unfold mQ; rw [b3]
  refine ⟨fun r => ⟨?_, ?_⟩, ⟨?_, ?_, ?_, ?_, ?_, ?_⟩, ?_⟩
  · funext o; rw [mC_f _ (by omega), mC_f _ (by omega), (a1 r).1]
  · funext o; rw [mC_a _ (by omega), mC_a _ (by omega), (a1 r).2]
  · rw [mC_f _ (by decide), mC_f _ (by decide), b1]
  · rw [mC_f _ (by decide), mC_f _ (by decide), b2]
  · rw [mC_4, mC_4, eq]
  · rw [mC_31, mC_31, eq, b4, h30]
  · rw [mC_a _ (by decide), mC_a _ (by decide), b5]
  · rw [mC_a _ (by decide), mC_a _ (by decide), b6]
  · rw [mC_lv, mC_lv, c1]
/-- a change, in the class and in the model -/
theorem Sim.op {G X G2 : GS} {t t2 : Nat} {w2 : Nat → Int32} (h : Sim G t) (hX : AgX (sKeep G) X) (h30 : X.2.1 0 30 = (sKeep G).2.1 0 30) (h2 : AgX (mC X) G2) (hM : AgM (mC X) G2) (hp : SimP G2) (h230 : G2.2.1 0 30 = w2) (hr : Rel (X.1 0) (X.2.1 0) w2 t2) (ht : t ≤ t2) : Sim G2 t2 := by
  refine h.keep.ag ((hX.mC2 h30).trans h2) hp ?_ ht
  rw [h230]
  exact hr.congr ((AgM.mC_ X).trans hM).smr (fun _ _ => rfl) (Nat.le_refl _)
theorem Rel.keep {G : GS} {w : Nat → Int32} {t : Nat} (h : Rel (G.1 0) (G.2.1 0) w t) : Rel ((sKeep G).1 0) ((sKeep G).2.1 0) w t := by
  refine h.congr ?_ (fun _ _ => rfl) (Nat.le_refl _)
  rw [sKeep_row]
  refine ⟨⟨?_, ?_, ?_, ?_, ?_, ?_, ?_⟩, rfl, rfl, rfl, rfl, rfl, rfl, rfl, rfl, rfl⟩
  all_goals rw [sKeep_fld G (by decide)]
