/-! class and model: the same, state by state -/
section CONG
variable {F A F2 A2 : Nat → Nat → Int32} {w w2 : Nat → Int32} {t t2 : Nat}
theorem rUG_congr (h : rUG F A w) (e0 : F2 1 0 = F 1 0) (e1 : F2 1 1 = F 1 1) (e2 : ∀ u, u < 12 → A2 2 u = A 2 u) (e3 : ∀ a, a < 8 → A2 3 a = A 3 a) (hw : ∀ x, x < 18 → w2 x = w x) : rUG F2 A2 w2 := by
  have eus : mUs w2 = mUs w := by unfold mUs; rw [hw 0 (by omega)]
  have egs : mGs w2 = mGs w := by unfold mGs; rw [hw 1 (by omega)]
  obtain ⟨⟨h1, h2⟩, h3, h4, h5, h6, h7, h8, h9⟩ := h
  refine ⟨⟨by rw [e0, eus]; exact h1, by rw [eus]; exact h2⟩, by rw [e1, egs]; exact h3, ?_, ?_, ?_, ?_, ?_, ?_⟩
  · intro u hu; rw [e2 u hu, egs]; exact h4 u hu
  · intro a ha; rw [hw (2 + a) (by omega), eus]; exact h5 a ha
  · intro u a hu ha; rw [e2 u hu, hw (2 + a) (by omega)]; exact h6 u a hu ha
  · intro a ha; rw [e3 a ha, hw (10 + a) (by omega)]; exact h7 a ha
  · intro a ha; rw [hw (10 + a) (by omega), egs]; exact h8 a ha
  · intro a hg ha; rw [hw (10 + a) (by omega)]; exact h9 a (by rw [← egs]; exact hg) ha
theorem rTr_congr (h : rTr F A w) (e0 : F2 4 0 = F 4 0) (e1 : F2 4 1 = F 4 1) (hA : ∀ o, o < 20 → A2 5 o = A 5 o ∧ A2 6 o = A 6 o ∧ A2 7 o = A 7 o) (hk : ∀ o k, o < 20 → k < 5 → w2 (oA o k) = w (oA o k)) : rTr F2 A2 w2 := by
  obtain ⟨h1, h2, h3, h4, h5, h6, h7⟩ := h
  refine ⟨by rw [e0]; exact h1, by rw [hk 0 0 (by decide) (by decide)]; exact h2, ?_, ?_, by rw [hk 0 1 (by decide) (by decide)]; exact h5, ?_, ?_⟩
  · intro o ho; rw [e0, hk o 0 ho (by decide)]; exact h3 o ho
  · intro o ho hz
    rw [hk o 0 ho (by decide)] at hz
    rw [(hA o ho).1, (hA o ho).2.1, (hA o ho).2.2, e1, hk o 1 ho (by decide), hk o 2 ho (by decide), hk o 3 ho (by decide), hk o 4 ho (by decide)]
    exact h4 o ho hz
  · intro o h0 ho hz
    rw [hk o 0 ho (by decide)] at hz
    obtain ⟨j, i1, i2, i3⟩ := h6 o h0 ho hz
    exact ⟨j, i1, by rw [hk o 1 ho (by decide)]; exact i2, by rw [hk j 0 i1 (by decide)]; exact i3⟩
  · intro o ho hz
    rw [hk o 0 ho (by decide)] at hz
    rw [hk o 1 ho (by decide)]
    exact h7 o ho hz
theorem rLs_congr (h : rLs A w) (hm : ∀ o, o < 20 → mCt w o ≤ 6) (e9 : ∀ o, o < 20 → A2 9 o = A 9 o) (e10 : ∀ x, x < 120 → A2 10 x = A 10 x) (hk : ∀ o, o < 20 → w2 (oA o 0) = w (oA o 0) ∧ w2 (oA o 5) = w (oA o 5) ∧ ∀ i k, i < 6 → k < 5 → w2 (enA o i k) = w (enA o i k)) : rLs A2 w2 := by
  intro o ho
  obtain ⟨k0, k5, ke⟩ := hk o ho
  obtain ⟨h1, h2, h3⟩ := h o ho
  have emc : mCt w2 o = mCt w o := by unfold mCt; rw [k5]
  refine ⟨by rw [e9 o ho, k5]; exact h1, by rw [k0, k5]; exact h2, fun i hi => ?_⟩
  rw [emc] at hi
  have h6 := hm o ho
  have hc := eC_congr (w := w) (w2 := w2) (o := o) (i := i) (o2 := o) (i2 := i) (fun k hk2 => ke i k (by omega) hk2)
  rw [e10 _ (by omega), hc.1]
  exact ⟨(h3 i hi).1, hc.2 (h3 i hi).2⟩
theorem rLg_congr (h : rLg F A w t) (e0 : F2 11 0 = F 11 0) (e1 : F2 11 1 = F 11 1) (e2 : F2 11 2 = F 11 2) (eA : ∀ a, a < 8 → A2 12 a = A 12 a ∧ A2 13 a = A 13 a) (hw : ∀ x, 738 ≤ x → x < 765 → w2 x = w x) (ht : t ≤ t2) : rLg F2 A2 w2 t2 := by
  obtain ⟨q, h1, h2, h3, h4, h5, h6⟩ := h
  refine ⟨q, by omega, by rw [e0]; exact h2, by rw [hw _ (by omega) (by omega)]; exact h3, by rw [e1, hw _ (by omega) (by omega)]; exact h4, by rw [hw _ (by omega) (by omega)]; exact h5, fun a ha => ?_⟩
  have h8 : (q - 1 - a) % 8 < 8 := Nat.mod_lt _ (by decide)
  rw [(eA _ h8).1, (eA _ h8).2, e2, hw (738 + 3 * a) (by omega) (by omega), hw (739 + 3 * a) (by omega) (by omega), hw (740 + 3 * a) (by omega) (by omega)]
  exact h6 a ha
theorem mOk_congr (h : mOk w) (hw : ∀ x, x < 738 → w2 x = w x) : mOk w2 := by
  refine mOk_mk h (hw 0 (by omega)) (hw 1 (by omega)) (fun o ho => hw _ (by unfold oA; omega)) (fun o ho => hw _ (by unfold oA; omega)) (fun o ho => ⟨mCt w o, h.ct6 ho, by rw [hw _ (by unfold oA; omega)]; exact h.ct ho⟩) (fun o i ho hi h1 => ?_)
  rw [hw _ (by unfold enA; omega)] at h1
  rw [hw _ (by unfold enA; omega)]
  exact h.who ho hi h1
/-- the state's cells, alike -/
def SmR (F A F2 A2 : Nat → Nat → Int32) : Prop := (F2 1 0 = F 1 0 ∧ F2 1 1 = F 1 1 ∧ F2 4 0 = F 4 0 ∧ F2 4 1 = F 4 1 ∧ F2 11 0 = F 11 0 ∧ F2 11 1 = F 11 1 ∧ F2 11 2 = F 11 2) ∧ (A2 2 = A 2 ∧ A2 3 = A 3 ∧ A2 5 = A 5 ∧ A2 6 = A 6 ∧ A2 7 = A 7 ∧ A2 9 = A 9 ∧ A2 10 = A 10 ∧ A2 12 = A 12 ∧ A2 13 = A 13)
theorem SmR.refl (F A : Nat → Nat → Int32) : SmR F A F A := ⟨⟨rfl, rfl, rfl, rfl, rfl, rfl, rfl⟩, ⟨rfl, rfl, rfl, rfl, rfl, rfl, rfl, rfl, rfl⟩⟩
theorem Rel.congr (h : Rel F A w t) (hs : SmR F A F2 A2) (hw : ∀ x, x < 765 → w2 x = w x) (ht : t ≤ t2) : Rel F2 A2 w2 t2 := by
  obtain ⟨⟨a1, a2, a3, a4, a5, a6, a7⟩, b1, b2, b3, b4, b5, b6, b7, b8, b9⟩ := hs
  refine ⟨rUG_congr h.1 a1 a2 (fun u _ => by rw [b1]) (fun a _ => by rw [b2]) (fun x hx => hw x (by omega)), rTr_congr h.2.1 a3 a4 (fun o _ => by rw [b3, b4, b5]; exact ⟨rfl, rfl, rfl⟩) (fun o k ho hk => hw _ (by unfold oA; omega)), rLs_congr h.2.2.1 (fun o ho => h.ok.ct6 ho) (fun o _ => by rw [b6]) (fun x _ => by rw [b7]) (fun o ho => ⟨hw _ (by unfold oA; omega), hw _ (by unfold oA; omega), fun i k hi hk => hw _ (by unfold enA; omega)⟩), rLg_congr h.lg a5 a6 a7 (fun a _ => by rw [b8, b9]; exact ⟨rfl, rfl⟩) (fun x _ hx => hw x hx) ht, mOk_congr h.ok (fun x hx => hw x (by omega))⟩
end CONG
def SimH (G : GS) (t : Nat) : Prop := ∃ kq od, kq ≤ 5 ∧ od < 5 ∧ G.1 0 15 0 = nI kq ∧ G.1 0 15 1 = nI od ∧ G.1 0 29 4 = nI kq ∧ ∀ i, i < kq → Rel (G.1 ((od + i) % 5 + 1)) (G.2.1 ((od + i) % 5 + 1)) (fun x => G.2.1 0 31 (765 * i + x)) t
def SimS (G : GS) (t : Nat) : Prop := ∀ j, j < 2 → (G.2.2.1 j = true ∧ G.2.1 0 33 j = 1 ∧ Rel (G.1 (j + 6)) (G.2.1 (j + 6)) (fun x => G.2.1 0 32 (765 * j + x)) t) ∨ (G.2.2.1 j = false ∧ G.2.1 0 33 j = 0)
def SimP (G : GS) : Prop := (∃ n, PadR G n) ∧ (∃ a : Nat, G.1 0 29 10 = nI a ∧ a < 2 ^ 31) ∧ (∃ a : Nat, G.1 0 29 12 = nI a ∧ a < 2 ^ 31)
def Sim (G : GS) (t : Nat) : Prop := Rel (G.1 0) (G.2.1 0) (G.2.1 0 30) t ∧ SimH G t ∧ SimS G t ∧ SimP G
/-- what the model's methods want -/
def SimM (G : GS) : Prop := mInv G ∧ nInv G ∧ ∃ n, n ≤ 8 ∧ G.2.1 0 30 762 = nI n
theorem nInv_of {G : GS} (h : SimP G) : nInv G := by
  obtain ⟨⟨n, hp⟩, ⟨a, ea, ha⟩, ⟨b, eb, hb⟩⟩ := h
  refine ⟨⟨?_, ?_⟩, n, hp.2.2.1, hp.1⟩
  · show G.1 0 29 10 = nI (G.1 0 29 10).toNatClampNeg
    rw [ea, nI_clamp ha]
  · show G.1 0 29 12 = nI (G.1 0 29 12).toNatClampNeg
    rw [eb, nI_clamp hb]
theorem mInv_of {G : GS} {t : Nat} (hH : SimH G t) (hw : mOk (G.2.1 0 30)) : mInv G := by
  obtain ⟨kq, od, h1, _, _, _, h5, _⟩ := hH
  refine ⟨⟨?_, ?_⟩, hw⟩
  · show G.1 0 29 4 = nI (G.1 0 29 4).toNatClampNeg
    rw [h5, nI_clamp (by omega)]
  · show (G.1 0 29 4).toNatClampNeg ≤ 5
    rw [h5, nI_clamp (by omega)]; exact h1
theorem Sim.M {G : GS} {t : Nat} (h : Sim G t) : SimM G := by
  refine ⟨mInv_of h.2.1 h.1.ok, nInv_of h.2.2.2, ?_⟩
  obtain ⟨q, _, _, _, _, h5, _⟩ := h.1.lg
  exact ⟨min 8 q, Nat.min_le_left _ _, h5⟩
/-- only cells of the class were changed -/
def AgC (G G2 : GS) : Prop := (G2.1 0 29 = G.1 0 29 ∧ G2.2.2.1 = G.2.2.1) ∧ ∀ o, 30 ≤ o → o < 48 → G2.2.1 0 o = G.2.1 0 o
theorem SimM.agC {G G2 : GS} (h : SimM G) (ha : AgC G G2) : SimM G2 := by
  obtain ⟨h1, h2, h3⟩ := h
  have e30 := ha.2 30 (by decide) (by decide)
  have e37 := ha.2 37 (by decide) (by decide)
  unfold SimM mInv nInv mQ nG at *
  try dsimp only at *
  rw [ha.1.1, e30]
  exact ⟨h1, h2, h3⟩
/-- all that matters beside the state and the model's row was kept -/
def AgX (G G2 : GS) : Prop := (∀ r, G2.1 (r + 1) = G.1 (r + 1) ∧ G2.2.1 (r + 1) = G.2.1 (r + 1)) ∧ (G2.1 0 15 0 = G.1 0 15 0 ∧ G2.1 0 15 1 = G.1 0 15 1 ∧ G2.1 0 29 4 = G.1 0 29 4 ∧ G2.2.1 0 31 = G.2.1 0 31 ∧ G2.2.1 0 32 = G.2.1 0 32 ∧ G2.2.1 0 33 = G.2.1 0 33) ∧ G2.2.2.1 = G.2.2.1
theorem AgX.refl (G : GS) : AgX G G := ⟨fun _ => ⟨rfl, rfl⟩, ⟨rfl, rfl, rfl, rfl, rfl, rfl⟩, rfl⟩
theorem AgX.trans {G G2 G3 : GS} (h : AgX G G2) (h2 : AgX G2 G3) : AgX G G3 := by
  obtain ⟨a1, ⟨b1, b2, b3, b4, b5, b6⟩, c1⟩ := h
  obtain ⟨a2, ⟨d1, d2, d3, d4, d5, d6⟩, c2⟩ := h2
  exact ⟨fun r => ⟨(a2 r).1.trans (a1 r).1, (a2 r).2.trans (a1 r).2⟩, ⟨d1.trans b1, d2.trans b2, d3.trans b3, d4.trans b4, d5.trans b5, d6.trans b6⟩, c2.trans c1⟩
/-- what matters of the pads -/
def AgP (G G2 : GS) : Prop := (G2.1 0 25 0 = G.1 0 25 0 ∧ G2.2.1 0 26 = G.2.1 0 26 ∧ G2.1 0 29 7 = G.1 0 29 7 ∧ G2.2.1 0 34 = G.2.1 0 34) ∧ (G2.1 0 29 10 = G.1 0 29 10 ∧ G2.1 0 29 12 = G.1 0 29 12)
theorem AgP.refl (G : GS) : AgP G G := ⟨⟨rfl, rfl, rfl, rfl⟩, rfl, rfl⟩
theorem AgP.trans {G G2 G3 : GS} (h : AgP G G2) (h2 : AgP G2 G3) : AgP G G3 := by
  obtain ⟨⟨a1, a2, a3, a4⟩, a5, a6⟩ := h
  obtain ⟨⟨b1, b2, b3, b4⟩, b5, b6⟩ := h2
  exact ⟨⟨b1.trans a1, b2.trans a2, b3.trans a3, b4.trans a4⟩, b5.trans a5, b6.trans a6⟩
theorem SimP.ag {G G2 : GS} (h : SimP G) (ha : AgP G G2) : SimP G2 := by
  obtain ⟨⟨a1, a2, a3, a4⟩, a5, a6⟩ := ha
  unfold SimP PadR at *
  rw [a1, a2, a3, a4, a5, a6]
  exact h
theorem Rel.mono {F A : Nat → Nat → Int32} {w : Nat → Int32} {t t2 : Nat} (h : Rel F A w t) (ht : t ≤ t2) : Rel F A w t2 := h.congr (SmR.refl _ _) (fun _ _ => rfl) ht
theorem SimH.ag {G G2 : GS} {t t2 : Nat} (h : SimH G t) (ha : AgX G G2) (ht : t ≤ t2) : SimH G2 t2 := by
  obtain ⟨kq, od, h1, h2, h3, h4, h5, h6⟩ := h
  obtain ⟨a1, ⟨b1, b2, b3, b4, b5, b6⟩, c1⟩ := ha
  refine ⟨kq, od, h1, h2, by rw [b1]; exact h3, by rw [b2]; exact h4, by rw [b3]; exact h5, fun i hi => ?_⟩
  rw [(a1 _).1, (a1 _).2, b4]
  exact (h6 i hi).mono ht
theorem SimS.ag {G G2 : GS} {t t2 : Nat} (h : SimS G t) (ha : AgX G G2) (ht : t ≤ t2) : SimS G2 t2 := by
  obtain ⟨a1, ⟨b1, b2, b3, b4, b5, b6⟩, c1⟩ := ha
  intro j hj
  rw [(a1 (j + 5)).1, (a1 (j + 5)).2, b5, b6, c1]
  rcases h j hj with ⟨h1, h2, h3⟩ | h1
  · exact Or.inl ⟨h1, h2, h3.mono ht⟩
  · exact Or.inr h1
theorem Sim.ag {G G2 : GS} {t t2 : Nat} (h : Sim G t) (ha : AgX G G2) (hp : SimP G2) (hr : Rel (G2.1 0) (G2.2.1 0) (G2.2.1 0 30) t2) (ht : t ≤ t2) : Sim G2 t2 :=
  ⟨hr, h.2.1.ag ha ht, h.2.2.1.ag ha ht, hp⟩
theorem Sim.mono {G : GS} {t t2 : Nat} (h : Sim G t) (ht : t ≤ t2) : Sim G t2 := h.ag (AgX.refl G) h.2.2.2 (h.1.mono ht) ht
/-! the copies -/
theorem cp_to {a b : Nat} (G : GS) (hab : ¬ a = b) : SmR (G.1 b) (G.2.1 b) ((cpState a b G).1 a) ((cpState a b G).2.1 a) := by
  have hba : ¬ b = a := fun z => hab z.symm
  refine ⟨⟨?_, ?_, ?_, ?_, ?_, ?_, ?_⟩, ?_, ?_, ?_, ?_, ?_, ?_, ?_, ?_, ?_⟩ <;> simp [cpState, cpLog, cpLists, cpTree, cpClub, putF_get, putA_fld, putA_get, putF_row, hba]
theorem cp_oth {a b r : Nat} (G : GS) (hr : ¬ r = a) : (cpState a b G).1 r = G.1 r ∧ (cpState a b G).2.1 r = G.2.1 r := by
  constructor
  · funext o k
    simp [cpState, cpLog, cpLists, cpTree, cpClub, putF_get, putA_fld, hr]
  · funext o
    simp [cpState, cpLog, cpLists, cpTree, cpClub, putA_get, putF_row, hr]
theorem cp_own {a b : Nat} (G : GS) {o : Nat} (ho : 14 ≤ o) : (cpState a b G).1 a o = G.1 a o ∧ (cpState a b G).2.1 a o = G.2.1 a o := by
  have h1 : ¬ o = 1 := by omega
  have h2 : ¬ o = 2 := by omega
  have h3 : ¬ o = 3 := by omega
  have h4 : ¬ o = 4 := by omega
  have h5 : ¬ o = 5 := by omega
  have h6 : ¬ o = 6 := by omega
  have h7 : ¬ o = 7 := by omega
  have h9 : ¬ o = 9 := by omega
  have h10 : ¬ o = 10 := by omega
  have h11 : ¬ o = 11 := by omega
  have h12 : ¬ o = 12 := by omega
  have h13 : ¬ o = 13 := by omega
  constructor
  · funext k
    simp [cpState, cpLog, cpLists, cpTree, cpClub, putF_get, putA_fld, h1, h4, h11]
  · simp [cpState, cpLog, cpLists, cpTree, cpClub, putA_get, putF_row, h2, h3, h5, h6, h7, h9, h10, h12, h13]
theorem cp_lv (a b : Nat) (G : GS) : (cpState a b G).2.2 = G.2.2 := rfl
