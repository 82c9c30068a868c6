/-! the changes, one by one -/
/-- a rank that isn't bounded will do -/
theorem mRk_of {w : Nat → Int32} (rk : Nat → Nat) (h : ∀ o, o < 20 → w (oA o 1) = -1 ∨ ∃ j, j < 20 ∧ w (oA o 1) = nI j ∧ rk j < rk o) : mRk w := by
  refine ⟨fun o => cF (fun j => decide (rk j < rk o)) 20 0, fun o ho => ⟨?_, ?_⟩⟩
  · have h1 := cF_lt (p := fun j => decide (rk j < rk o)) (q := fun _ => true) 20 0 o (fun _ _ _ _ => rfl) (Nat.zero_le _) (by omega) (decide_eq_false (Nat.lt_irrefl _)) rfl
    have h2 := cF_le (fun _ => true) 20 0
    try dsimp only
    omega
  · rcases h o ho with z | ⟨j, h1, h2, h3⟩
    · exact Or.inl z
    · refine Or.inr ⟨j, h1, h2, ?_⟩
      refine cF_lt 20 0 j (fun i _ _ hi => ?_) (Nat.zero_le _) (by omega) (decide_eq_false (Nat.lt_irrefl _)) (decide_eq_true h3)
      rw [decide_eq_true_eq] at hi ⊢
      omega
theorem sArr_n (K : GS) {o : Nat} (off : Nat) (x : Int32) (ho : o < 20) : sArr K 0 off 20 (nI o) x = putA K 0 off (upd (K.2.1 0 off) o x) := by
  unfold sArr
  rw [if_pos (jIdx20 ho), nI_clamp (by omega)]
theorem upd_n {f : Nat → Int32} {k x : Nat} {v : Int32} (h : ¬ x = k) : upd f k v x = f x := by rw [upd, if_neg h]
theorem upd_s (f : Nat → Int32) (k : Nat) (v : Int32) : upd f k v k = v := by rw [upd, if_pos rfl]
theorem enA_oA {o2 i k2 o k : Nat} (hi : i < 6) (hk2 : k2 < 5) (hk : k < 6) : ¬ enA o2 i k2 = oA o k := by
  unfold enA oA
  rcases Nat.lt_trichotomy o2 o with h | h | h <;> omega
section MUT
variable {K : GS} {w : Nat → Int32} {t : Nat}
theorem Rel.mct6 {F A : Nat → Nat → Int32} (h : Rel F A w t) : ∀ o, o < 20 → mCt w o ≤ 6 := fun _ ho => h.ok.ct6 ho
theorem Rel.addUser (h : Rel (K.1 0) (K.2.1 0) w t) (hu : mUs w < 12) : Rel ((putF K 0 1 0 (K.1 0 1 0 + 1)).1 0) ((putF K 0 1 0 (K.1 0 1 0 + 1)).2.1 0) (upd w 0 (w 0 + 1)) t := by
  have e0 : upd w 0 (w 0 + 1) 0 = nI (mUs w + 1) := by rw [upd_s, h.ok.us, nI_1]
  have eus : mUs (upd w 0 (w 0 + 1)) = mUs w + 1 := by unfold mUs at e0 ⊢; rw [e0, nI_clamp (by unfold mUs at hu; omega)]
  have egs : mGs (upd w 0 (w 0 + 1)) = mGs w := by unfold mGs; rw [upd_n (by decide)]
  have ho : ∀ x, 0 < x → upd w 0 (w 0 + 1) x = w x := fun x hx => upd_n (by omega)
  refine ⟨⟨⟨?_, by omega⟩, ?_, ?_, ?_, ?_, ?_, ?_, ?_⟩, rTr_congr h.2.1 (by rw [putF_o _ _ _ (by decide)]) (by rw [putF_o _ _ _ (by decide)]) (fun _ _ => ⟨rfl, rfl, rfl⟩) (fun o k _ _ => ho _ (by unfold oA; omega)), rLs_congr h.2.2.1 h.mct6 (fun _ _ => rfl) (fun _ _ => rfl) (fun o _ => ⟨ho _ (by unfold oA; omega), ho _ (by unfold oA; omega), fun i k _ _ => ho _ (by unfold enA; omega)⟩), rLg_congr h.lg (by rw [putF_o _ _ _ (by decide)]) (by rw [putF_o _ _ _ (by decide)]) (by rw [putF_o _ _ _ (by decide)]) (fun _ _ => ⟨rfl, rfl⟩) (fun x h1 _ => ho x (by omega)) (Nat.le_refl _), ?_⟩
  · rw [putF_v, eus, h.us, nI_1]
  · rw [putF_k _ _ (by decide), egs]; exact h.gs
  · intro u hu2; rw [egs]; exact h.ml hu2
  · intro a ha; rw [ho _ (by omega), eus]; exact bLt_mono (h.wl ha) (by omega)
  · intro u a hu2 ha; rw [ho _ (by omega)]; exact h.mm hu2 ha
  · intro a ha; rw [ho _ (by omega)]; exact h.nn ha
  · intro a ha; rw [ho _ (by omega), egs]; exact h.nl ha
  · intro a hg ha; rw [egs] at hg; rw [ho _ (by omega)]; exact h.nz hg ha
  · refine ⟨⟨by rw [eus]; exact e0, by omega⟩, ⟨by rw [ho _ (by omega), egs]; exact h.ok.gs, by rw [egs]; exact h.ok.gs8⟩, fun o ho2 => ?_, fun o ho2 => ?_, fun o i ho2 hi h1 => ?_, ?_⟩
    · have e5 := ho (oA o 5) (by unfold oA; omega)
      have em : mCt (upd w 0 (w 0 + 1)) o = mCt w o := by unfold mCt; rw [e5]
      rw [em, e5]; exact ⟨h.ok.ct ho2, h.ok.ct6 ho2⟩
    · rw [ho _ (by unfold oA; omega)]; exact h.ok.th ho2
    · rw [ho _ (by unfold enA; omega)] at h1 ⊢; exact h.ok.who ho2 hi h1
    · obtain ⟨rk, hrk⟩ := h.ok.rk
      exact ⟨rk, fun o ho2 => by rw [ho (oA o 1) (by unfold oA; omega)]; exact hrk o ho2⟩
theorem Rel.addGroup (h : Rel (K.1 0) (K.2.1 0) w t) (hu : mGs w < 8) : Rel ((putF K 0 1 1 (K.1 0 1 1 + 1)).1 0) ((putF K 0 1 1 (K.1 0 1 1 + 1)).2.1 0) (upd w 1 (w 1 + 1)) t := by
  have e0 : upd w 1 (w 1 + 1) 1 = nI (mGs w + 1) := by rw [upd_s, h.ok.gs, nI_1]
  have egs : mGs (upd w 1 (w 1 + 1)) = mGs w + 1 := by unfold mGs at e0 ⊢; rw [e0, nI_clamp (by unfold mGs at hu; omega)]
  have eus : mUs (upd w 1 (w 1 + 1)) = mUs w := by unfold mUs; rw [upd_n (by decide)]
  have ho : ∀ x, ¬ x = 1 → upd w 1 (w 1 + 1) x = w x := fun x hx => upd_n (by omega)
  refine ⟨⟨⟨?_, by rw [eus]; exact h.us1⟩, ?_, ?_, ?_, ?_, ?_, ?_, ?_⟩, rTr_congr h.2.1 (by rw [putF_o _ _ _ (by decide)]) (by rw [putF_o _ _ _ (by decide)]) (fun _ _ => ⟨rfl, rfl, rfl⟩) (fun o k _ _ => ho _ (by unfold oA; omega)), rLs_congr h.2.2.1 h.mct6 (fun _ _ => rfl) (fun _ _ => rfl) (fun o _ => ⟨ho _ (by unfold oA; omega), ho _ (by unfold oA; omega), fun i k _ _ => ho _ (by unfold enA; omega)⟩), rLg_congr h.lg (by rw [putF_o _ _ _ (by decide)]) (by rw [putF_o _ _ _ (by decide)]) (by rw [putF_o _ _ _ (by decide)]) (fun _ _ => ⟨rfl, rfl⟩) (fun x h1 _ => ho x (by omega)) (Nat.le_refl _), ?_⟩
  · rw [putF_k _ _ (by decide), eus]; exact h.us
  · rw [putF_v, egs, h.gs, nI_1]
  · intro u hu2; rw [egs]; exact bLt_mono (h.ml hu2) (by omega)
  · intro a ha; rw [ho _ (by omega), eus]; exact h.wl ha
  · intro u a hu2 ha; rw [ho _ (by omega)]; exact h.mm hu2 ha
  · intro a ha; rw [ho _ (by omega)]; exact h.nn ha
  · intro a ha; rw [ho _ (by omega), egs]; exact bLt_mono (h.nl ha) (by omega)
  · intro a hg ha; rw [egs] at hg; rw [ho _ (by omega)]; exact h.nz (by omega) ha
  · refine ⟨⟨by rw [ho _ (by omega), eus]; exact h.ok.us, by rw [eus]; exact h.ok.us12⟩, ⟨by rw [egs]; exact e0, by omega⟩, fun o ho2 => ?_, fun o ho2 => ?_, fun o i ho2 hi h1 => ?_, ?_⟩
    · have e5 := ho (oA o 5) (by unfold oA; omega)
      have em : mCt (upd w 1 (w 1 + 1)) o = mCt w o := by unfold mCt; rw [e5]
      rw [em, e5]; exact ⟨h.ok.ct ho2, h.ok.ct6 ho2⟩
    · rw [ho _ (by unfold oA; omega)]; exact h.ok.th ho2
    · rw [ho _ (by unfold enA; omega)] at h1 ⊢; exact h.ok.who ho2 hi h1
    · obtain ⟨rk, hrk⟩ := h.ok.rk
      exact ⟨rk, fun o ho2 => by rw [ho (oA o 1) (by unfold oA; omega)]; exact hrk o ho2⟩
theorem Rel.setM (h : Rel (K.1 0) (K.2.1 0) w t) {u g : Nat} (b : Bool) (hu : u < mUs w) (hg : g < mGs w) : Rel ((sSetM (nI g) (nI u) b K).1 0) ((sSetM (nI g) (nI u) b K).2.1 0) (upd w (2 + g) (jChg (w (2 + g)) (nI u) b)) t := by
  have h12 := h.ok.us12
  have h8 := h.ok.gs8
  have eX : sSetM (nI g) (nI u) b K = putA K 0 2 (upd (K.2.1 0 2) u (jChg (K.2.1 0 2 u) (nI g) b)) := by
    unfold sSetM
    rw [if_pos (jIdx12 (by omega)), nI_clamp (by omega)]
  rw [eX]
  have ho : ∀ x, ¬ x = 2 + g → upd w (2 + g) (jChg (w (2 + g)) (nI u) b) x = w x := fun x hx => upd_n hx
  have eus : mUs (upd w (2 + g) (jChg (w (2 + g)) (nI u) b)) = mUs w := by unfold mUs; rw [ho _ (by omega)]
  have egs : mGs (upd w (2 + g) (jChg (w (2 + g)) (nI u) b)) = mGs w := by unfold mGs; rw [ho _ (by omega)]
  refine ⟨⟨⟨?_, by rw [eus]; exact h.us1⟩, ?_, ?_, ?_, ?_, ?_, ?_, ?_⟩, rTr_congr h.2.1 rfl rfl (fun _ _ => ⟨rfl, rfl, rfl⟩) (fun o k _ _ => ho _ (by unfold oA; omega)), rLs_congr h.2.2.1 h.mct6 (fun _ _ => rfl) (fun _ _ => rfl) (fun o _ => ⟨ho _ (by unfold oA; omega), ho _ (by unfold oA; omega), fun i k _ _ => ho _ (by unfold enA; omega)⟩), rLg_congr h.lg rfl rfl rfl (fun _ _ => ⟨rfl, rfl⟩) (fun x h1 _ => ho x (by omega)) (Nat.le_refl _), mOk_mk h.ok (ho _ (by omega)) (ho _ (by omega)) (fun o _ => ho _ (by unfold oA; omega)) (fun o _ => ho _ (by unfold oA; omega)) (fun o ho2 => ⟨mCt w o, h.ok.ct6 ho2, by rw [ho _ (by unfold oA; omega)]; exact h.ok.ct ho2⟩) (fun o i ho2 hi h1 => by rw [ho _ (by unfold enA; omega)] at h1 ⊢; exact h.ok.who ho2 hi h1)⟩
  · rw [eus]; exact h.us
  · rw [egs]; exact h.gs
  · intro u2 hu2
    rw [egs]
    show bLt (upd (K.2.1 0 2) u (jChg (K.2.1 0 2 u) (nI g) b) u2) (mGs w)
    by_cases hc : u2 = u
    · subst hc; rw [upd_s]; exact bLt_chg (h.ml hu2) (by omega) (fun _ => hg)
    · rw [upd_n hc]; exact h.ml hu2
  · intro a ha
    rw [eus]
    by_cases hc : a = g
    · subst hc; rw [upd_s]; exact bLt_chg (h.wl ha) (by omega) (fun _ => hu)
    · rw [ho _ (by omega)]; exact h.wl ha
  · intro u2 a hu2 ha
    show bt (upd (K.2.1 0 2) u (jChg (K.2.1 0 2 u) (nI g) b) u2) a = _
    have hm := h.mm hu2 ha
    by_cases hc : u2 = u
    · subst hc
      rw [upd_s, jChg_bt _ (by omega) b (by omega)]
      by_cases hd : a = g
      · subst hd; rw [if_pos rfl, upd_s, jChg_bt _ (by omega) b (by omega), if_pos rfl]
      · rw [if_neg hd, ho _ (by omega)]; exact hm
    · rw [upd_n hc]
      by_cases hd : a = g
      · subst hd; rw [upd_s, jChg_bt _ (by omega) b (by omega), if_neg hc]; exact hm
      · rw [ho _ (by omega)]; exact hm
  · intro a ha; rw [ho _ (by omega)]; exact h.nn ha
  · intro a ha; rw [ho _ (by omega), egs]; exact h.nl ha
  · intro a hg2 ha; rw [egs] at hg2; rw [ho _ (by omega)]; exact h.nz hg2 ha
theorem Rel.setI (h : Rel (K.1 0) (K.2.1 0) w t) {x y : Nat} (b : Bool) (hx : x < mGs w) (hy : y < mGs w) : Rel ((sSetI (nI x) (nI y) b K).1 0) ((sSetI (nI x) (nI y) b K).2.1 0) (upd w (10 + y) (jChg (w (10 + y)) (nI x) b)) t := by
  have h8 := h.ok.gs8
  have eX : sSetI (nI x) (nI y) b K = putA K 0 3 (upd (K.2.1 0 3) y (jChg (K.2.1 0 3 y) (nI x) b)) := by
    unfold sSetI
    rw [if_pos (jIdx8 (by omega)), nI_clamp (by omega)]
  rw [eX]
  have ho : ∀ z, ¬ z = 10 + y → upd w (10 + y) (jChg (w (10 + y)) (nI x) b) z = w z := fun z hz => upd_n hz
  have eus : mUs (upd w (10 + y) (jChg (w (10 + y)) (nI x) b)) = mUs w := by unfold mUs; rw [ho _ (by omega)]
  have egs : mGs (upd w (10 + y) (jChg (w (10 + y)) (nI x) b)) = mGs w := by unfold mGs; rw [ho _ (by omega)]
  refine ⟨⟨⟨?_, by rw [eus]; exact h.us1⟩, ?_, ?_, ?_, ?_, ?_, ?_, ?_⟩, rTr_congr h.2.1 rfl rfl (fun _ _ => ⟨rfl, rfl, rfl⟩) (fun o k _ _ => ho _ (by unfold oA; omega)), rLs_congr h.2.2.1 h.mct6 (fun _ _ => rfl) (fun _ _ => rfl) (fun o _ => ⟨ho _ (by unfold oA; omega), ho _ (by unfold oA; omega), fun i k _ _ => ho _ (by unfold enA; omega)⟩), rLg_congr h.lg rfl rfl rfl (fun _ _ => ⟨rfl, rfl⟩) (fun z h1 _ => ho z (by omega)) (Nat.le_refl _), mOk_mk h.ok (ho _ (by omega)) (ho _ (by omega)) (fun o _ => ho _ (by unfold oA; omega)) (fun o _ => ho _ (by unfold oA; omega)) (fun o ho2 => ⟨mCt w o, h.ok.ct6 ho2, by rw [ho _ (by unfold oA; omega)]; exact h.ok.ct ho2⟩) (fun o i ho2 hi h1 => by rw [ho _ (by unfold enA; omega)] at h1 ⊢; exact h.ok.who ho2 hi h1)⟩
  · rw [eus]; exact h.us
  · rw [egs]; exact h.gs
  · intro u2 hu2; rw [egs]; exact h.ml hu2
  · intro a ha; rw [eus, ho _ (by omega)]; exact h.wl ha
  · intro u2 a hu2 ha; rw [ho _ (by omega)]; exact h.mm hu2 ha
  · intro a ha
    show upd (K.2.1 0 3) y (jChg (K.2.1 0 3 y) (nI x) b) a = _
    by_cases hc : a = y
    · subst hc; rw [upd_s, upd_s, h.nn ha]
    · rw [upd_n hc, ho _ (by omega)]; exact h.nn ha
  · intro a ha
    rw [egs]
    by_cases hc : a = y
    · subst hc; rw [upd_s]; exact bLt_chg (h.nl ha) (by omega) (fun _ => hx)
    · rw [ho _ (by omega)]; exact h.nl ha
  · intro a hg2 ha; rw [egs] at hg2; rw [ho _ (by omega)]; exact h.nz hg2 ha
/-- one cell of an object's row, but for 'there', the parent and the count -/
theorem Rel.cell (h : Rel (K.1 0) (K.2.1 0) w t) {X : GS} {o k : Nat} {v : Int32} (ho : o < 20) (hk : k = 2 ∨ k = 3 ∨ k = 4) (hF : ∀ f j, ¬ (f = 4 ∧ j = 1) → X.1 0 f j = K.1 0 f j) (hA : ∀ f, ¬ f = 6 → ¬ f = 7 → X.2.1 0 f = K.2.1 0 f)
    (h6 : X.2.1 0 6 = if k = 2 then upd (K.2.1 0 6) o v else K.2.1 0 6) (h7 : X.2.1 0 7 = if k = 3 then upd (K.2.1 0 7) o v else K.2.1 0 7) (h4 : ∀ j, j < 20 → bt (X.1 0 4 1) j = if k = 4 ∧ j = o then decide (v = 1) else bt (K.1 0 4 1) j) : Rel (X.1 0) (X.2.1 0) (upd w (oA o k) v) t := by
  have hw : ∀ x, ¬ x = oA o k → upd w (oA o k) v x = w x := fun x hx => upd_n hx
  have e01 := hF 1 0 (by decide)
  have e11 := hF 1 1 (by decide)
  have e40 := hF 4 0 (by decide)
  have a2 := hA 2 (by decide) (by decide)
  have a3 := hA 3 (by decide) (by decide)
  have a5 := hA 5 (by decide) (by decide)
  have a9 := hA 9 (by decide) (by decide)
  have a10 := hA 10 (by decide) (by decide)
  have a12 := hA 12 (by decide) (by decide)
  have a13 := hA 13 (by decide) (by decide)
  refine ⟨rUG_congr h.1 e01 e11 (fun _ _ => by rw [a2]) (fun _ _ => by rw [a3]) (fun x hx => hw x (by unfold oA; omega)), ⟨by rw [e40]; exact h.tb, by rw [hw _ (by unfold oA; omega)]; exact h.t0, ?_, ?_, by rw [hw _ (by unfold oA; omega)]; exact h.p0, ?_, ?_⟩, rLs_congr h.2.2.1 h.mct6 (fun _ _ => by rw [a9]) (fun _ _ => by rw [a10]) (fun o2 _ => ⟨hw _ (by unfold oA; omega), hw _ (by unfold oA; omega), fun i k2 _ _ => hw _ (enA_oA (by omega) (by omega) (by omega))⟩), rLg_congr h.lg (hF 11 0 (by decide)) (hF 11 1 (by decide)) (hF 11 2 (by decide)) (fun _ _ => by rw [a12, a13]; exact ⟨rfl, rfl⟩) (fun x h1 _ => hw x (by unfold oA; omega)) (Nat.le_refl _), mOk_mk h.ok (hw _ (by unfold oA; omega)) (hw _ (by unfold oA; omega)) (fun o2 _ => hw _ (by unfold oA; omega)) (fun o2 _ => hw _ (by unfold oA; omega)) (fun o2 ho2 => ⟨mCt w o2, h.ok.ct6 ho2, by rw [hw _ (by unfold oA; omega)]; exact h.ok.ct ho2⟩) (fun o2 i ho2 hi h1 => by rw [hw _ (enA_oA (by omega) (by omega) (by omega))] at h1 ⊢; exact h.ok.who ho2 hi h1)⟩
  · intro o2 ho2; rw [e40, hw _ (by unfold oA; omega)]; exact h.th ho2
  · intro o2 ho2 hz
    rw [hw _ (by unfold oA; omega)] at hz
    obtain ⟨i1, i2, i3, i4⟩ := h.to ho2 hz
    rw [a5, h6, h7, h4 o2 ho2, hw (oA o2 1) (by unfold oA; omega)]
    refine ⟨i1, ?_, ?_, ?_⟩
    · by_cases hc : k = 2
      · rw [if_pos hc]
        by_cases hd : o2 = o
        · subst hd; subst hc; rw [upd_s, upd_s]
        · rw [upd_n hd, hw _ (by unfold oA; omega)]; exact i2
      · rw [if_neg hc, hw _ (by unfold oA; omega)]; exact i2
    · by_cases hc : k = 3
      · rw [if_pos hc]
        by_cases hd : o2 = o
        · subst hd; subst hc; rw [upd_s, upd_s]
        · rw [upd_n hd, hw _ (by unfold oA; omega)]; exact i3
      · rw [if_neg hc, hw _ (by unfold oA; omega)]; exact i3
    · by_cases hc : k = 4 ∧ o2 = o
      · rw [if_pos hc]
        obtain ⟨rfl, rfl⟩ := hc
        rw [upd_s]
      · rw [if_neg hc, hw _ (by unfold oA; omega)]; exact i4
  · intro o2 h0 ho2 hz
    rw [hw _ (by unfold oA; omega)] at hz
    obtain ⟨j, i1, i2, i3⟩ := h.pa h0 ho2 hz
    exact ⟨j, i1, by rw [hw _ (by unfold oA; omega)]; exact i2, by rw [hw _ (by unfold oA; omega)]; exact i3⟩
  · intro o2 ho2 hz
    rw [hw _ (by unfold oA; omega)] at hz
    rw [hw _ (by unfold oA; omega)]
    exact h.pz ho2 hz
theorem Rel.giveTo (h : Rel (K.1 0) (K.2.1 0) w t) {o : Nat} (v : Int32) (ho : o < 20) : Rel ((sArr K 0 6 20 (nI o) v).1 0) ((sArr K 0 6 20 (nI o) v).2.1 0) (upd w (oA o 2) v) t := by
  rw [sArr_n K 6 v ho]
  exact h.cell (v := v) ho (Or.inl rfl) (fun _ _ _ => rfl) (fun f hf _ => putA_o _ _ hf) rfl rfl (fun j _ => by rw [if_neg (by omega)]; rfl)
theorem Rel.setMask (h : Rel (K.1 0) (K.2.1 0) w t) {o : Nat} (v : Int32) (ho : o < 20) : Rel ((sArr K 0 7 20 (nI o) v).1 0) ((sArr K 0 7 20 (nI o) v).2.1 0) (upd w (oA o 3) v) t := by
  rw [sArr_n K 7 v ho]
  exact h.cell (v := v) ho (Or.inr (Or.inl rfl)) (fun _ _ _ => rfl) (fun f _ hf => putA_o _ _ hf) rfl rfl (fun j _ => by rw [if_neg (by omega)]; rfl)
theorem Rel.setInh (h : Rel (K.1 0) (K.2.1 0) w t) {o : Nat} (b : Bool) (ho : o < 20) : Rel ((putF K 0 4 1 (jChg (K.1 0 4 1) (nI o) b)).1 0) ((putF K 0 4 1 (jChg (K.1 0 4 1) (nI o) b)).2.1 0) (upd w (oA o 4) (b2i b)) t := by
  refine h.cell (v := b2i b) ho (Or.inr (Or.inr rfl)) (fun f j hf => ?_) (fun _ _ _ => rfl) rfl rfl (fun j hj => ?_)
  · rw [putF_get, if_neg (fun z => hf ⟨z.2.1, z.2.2⟩)]
  · rw [putF_v, jChg_bt _ (by omega) b (by omega)]
    by_cases hc : j = o
    · rw [if_pos hc, if_pos ⟨rfl, hc⟩]; cases b <;> rfl
    · rw [if_neg hc, if_neg (fun z => hc z.2)]
/-! moving -/
theorem mBel_fuel {rk : Nat → Nat} (hrk : ∀ o, o < 20 → rk o < 20 ∧ (w (oA o 1) = -1 ∨ ∃ j, j < 20 ∧ w (oA o 1) = nI j ∧ rk j < rk o)) (ot : Int32) : ∀ (n m : Nat) (x : Int32), (x = -1 ∨ ∃ k, k < 20 ∧ x = nI k ∧ rk k < n ∧ rk k < m) → mBel w ot n x = mBel w ot m x := by
  intro n
  induction n with
  | zero =>
    rintro m x (rfl | ⟨k, _, _, h3, _⟩)
    · cases m with
      | zero => rfl
      | succ m => rw [mBel, mBel, if_pos (by decide)]
    · omega
  | succ n ih =>
    rintro m x (rfl | ⟨k, h1, rfl, h3, h4⟩)
    · cases m with
      | zero => rw [mBel, mBel, if_pos (by decide)]
      | succ m => rw [mBel, mBel, if_pos (by decide), if_pos (by decide)]
    · cases m with
      | zero => omega
      | succ m =>
        rw [mBel, mBel, if_neg (nI_pos (by omega)), if_neg (nI_pos (by omega)), nI_clamp (by omega)]
        by_cases hc : nI k = ot
        · rw [if_pos hc, if_pos hc]
        · rw [if_neg hc, if_neg hc]
          refine ih m _ ?_
          rcases (hrk k h1).2 with z | ⟨k2, h5, h6, h7⟩
          · exact Or.inl z
          · exact Or.inr ⟨k2, h5, h6, by omega, by omega⟩
theorem mBlw_st {rk : Nat → Nat} (hrk : ∀ o, o < 20 → rk o < 20 ∧ (w (oA o 1) = -1 ∨ ∃ j, j < 20 ∧ w (oA o 1) = nI j ∧ rk j < rk o)) {o x y : Nat} (ho : o < 20) (hx : x < 20) (hy : y < 20) (e : w (oA x 1) = nI y) : mBlw w x (nI o) = (decide (y = o) || mBlw w y (nI o)) := by
  unfold mBlw
  rw [e, show (20 : Nat) = 19 + 1 from rfl, mBel, if_neg (nI_pos (by omega)), nI_clamp (by omega)]
  by_cases hc : y = o
  · rw [if_pos (by rw [hc]), decide_eq_true hc, Bool.true_or]
  · rw [if_neg (fun z => hc ((nI_eq (by omega) (by omega)).mp z)), decide_eq_false hc, Bool.false_or]
    refine mBel_fuel hrk (nI o) 19 (19 + 1) _ ?_
    rcases (hrk y hy).2 with z | ⟨k2, h5, h6, h7⟩
    · exact Or.inl z
    · have := (hrk y hy).1
      exact Or.inr ⟨k2, h5, h6, by omega, by omega⟩
theorem mRk_mv (h : mOk w) {o p : Nat} (ho : o < 20) (hp : p < 20) (hpo : ¬ p = o) (hb : mBlw w p (nI o) = false) {w2 : Nat → Int32} (e1 : w2 (oA o 1) = nI p) (e2 : ∀ x, x < 20 → ¬ x = o → w2 (oA x 1) = w (oA x 1)) : mRk w2 := by
  obtain ⟨rk, hrk⟩ := h.rk
  refine mRk_of (fun x => rk x + if x = o ∨ mBlw w x (nI o) = true then rk p + 1 else 0) fun x hx => ?_
  by_cases hc : x = o
  · subst hc
    refine Or.inr ⟨p, hp, e1, ?_⟩
    try dsimp only
    rw [if_neg (by rw [hb]; exact fun z => z.elim hpo (fun z => by cases z)), if_pos (Or.inl rfl)]
    omega
  · rw [e2 x hx hc]
    rcases (hrk x hx).2 with z | ⟨y, h5, h6, h7⟩
    · exact Or.inl z
    · refine Or.inr ⟨y, h5, h6, ?_⟩
      have hst := mBlw_st hrk ho hx h5 h6
      try dsimp only
      by_cases hd : y = o ∨ mBlw w y (nI o) = true
      · rw [if_pos hd, if_pos (Or.inr (by rw [hst]; rcases hd with z | z; rw [decide_eq_true z]; rfl; rw [z, Bool.or_true]))]
        omega
      · have hd2 : ¬ (x = o ∨ mBlw w x (nI o) = true) := by
          rintro (z | z)
          · exact hc z
          · rw [hst, Bool.or_eq_true, decide_eq_true_eq] at z
            exact hd z
        rw [if_neg hd, if_neg hd2]
        omega
theorem Rel.move (h : Rel (K.1 0) (K.2.1 0) w t) {o p : Nat} (ho : o < 20) (h0 : 0 < o) (h1 : w (oA o 0) = 1) (hp : p < 20) (hp1 : w (oA p 0) = 1) (hpo : ¬ p = o) (hb : mBlw w p (nI o) = false) : Rel ((sArr K 0 5 20 (nI o) (nI p)).1 0) ((sArr K 0 5 20 (nI o) (nI p)).2.1 0) (upd w (oA o 1) (nI p)) t := by
  rw [sArr_n K 5 _ ho]
  have hw : ∀ x, ¬ x = oA o 1 → upd w (oA o 1) (nI p) x = w x := fun x hx => upd_n hx
  refine ⟨rUG_congr h.1 rfl rfl (fun _ _ => rfl) (fun _ _ => rfl) (fun x hx => hw x (by unfold oA; omega)), ⟨h.tb, by rw [hw _ (by unfold oA; omega)]; exact h.t0, ?_, ?_, by rw [hw _ (by unfold oA; omega)]; exact h.p0, ?_, ?_⟩, rLs_congr h.2.2.1 h.mct6 (fun _ _ => rfl) (fun _ _ => rfl) (fun o2 _ => ⟨hw _ (by unfold oA; omega), hw _ (by unfold oA; omega), fun i k2 _ _ => hw _ (enA_oA (by omega) (by omega) (by omega))⟩), rLg_congr h.lg rfl rfl rfl (fun _ _ => ⟨rfl, rfl⟩) (fun x h1 _ => hw x (by unfold oA; omega)) (Nat.le_refl _), ?_⟩
  · intro o2 ho2; rw [hw _ (by unfold oA; omega)]; exact h.th ho2
  · intro o2 ho2 hz
    rw [hw _ (by unfold oA; omega)] at hz
    obtain ⟨i1, i2, i3, i4⟩ := h.to ho2 hz
    rw [hw (oA o2 2) (by unfold oA; omega), hw (oA o2 3) (by unfold oA; omega), hw (oA o2 4) (by unfold oA; omega)]
    refine ⟨?_, i2, i3, i4⟩
    show upd (K.2.1 0 5) o (nI p) o2 = _
    by_cases hd : o2 = o
    · subst hd; rw [upd_s, upd_s]
    · rw [upd_n hd, hw _ (by unfold oA; omega)]; exact i1
  · intro o2 h02 ho2 hz
    rw [hw _ (by unfold oA; omega)] at hz
    by_cases hd : o2 = o
    · subst hd; exact ⟨p, hp, upd_s _ _ _, by rw [hw _ (by unfold oA; omega)]; exact hp1⟩
    · obtain ⟨j, i1, i2, i3⟩ := h.pa h02 ho2 hz
      exact ⟨j, i1, by rw [hw _ (by unfold oA; omega)]; exact i2, by rw [hw _ (by unfold oA; omega)]; exact i3⟩
  · intro o2 ho2 hz
    rw [hw _ (by unfold oA; omega)] at hz
    by_cases hd : o2 = o
    · subst hd; exact absurd h1 hz
    · rw [hw _ (by unfold oA; omega)]; exact h.pz ho2 hz
  · obtain ⟨⟨u1, u2⟩, ⟨g1, g2⟩, c1, c2, c3, c4⟩ := h.ok
    have eus : mUs (upd w (oA o 1) (nI p)) = mUs w := by unfold mUs; rw [hw _ (by unfold oA; omega)]
    have egs : mGs (upd w (oA o 1) (nI p)) = mGs w := by unfold mGs; rw [hw _ (by unfold oA; omega)]
    refine ⟨⟨by rw [hw _ (by unfold oA; omega), eus]; exact u1, by rw [eus]; exact u2⟩, ⟨by rw [hw _ (by unfold oA; omega), egs]; exact g1, by rw [egs]; exact g2⟩, fun o2 ho2 => ?_, fun o2 ho2 => ?_, fun o2 i ho2 hi hz => ?_, ?_⟩
    · have e5 := hw (oA o2 5) (by unfold oA; omega)
      have em : mCt (upd w (oA o 1) (nI p)) o2 = mCt w o2 := by unfold mCt; rw [e5]
      rw [em, e5]; exact c1 o2 ho2
    · rw [hw _ (by unfold oA; omega)]; exact c2 o2 ho2
    · rw [hw _ (enA_oA (by omega) (by omega) (by omega))] at hz ⊢; exact c3 o2 i ho2 hi hz
    · exact mRk_mv h.ok ho hp hpo hb (upd_s _ _ _) (fun x _ hx => hw _ (by unfold oA; omega))
/-! making and removing -/
theorem Rel.make (h : Rel (K.1 0) (K.2.1 0) w t) {o p : Nat} (ow : Int32) (ho : o < 20) (h1 : ¬ w (oA o 0) = 1) (hp : p < 20) (hp1 : w (oA p 0) = 1) : Rel ((sMake (nI o) (nI p) ow K).1 0) ((sMake (nI o) (nI p) ow K).2.1 0) (mFnd w o (nI p) ow) t := by
  have h0 : 0 < o := by
    rcases Nat.eq_zero_or_pos o with z | z
    · subst z; exact absurd h.t0 h1
    · exact z
  have hne : ¬ p = o := fun z => by subst z; exact h1 hp1
  have eX : sMake (nI o) (nI p) ow K = putF (putA (putA (putA (putF K 0 4 0 (jChg (K.1 0 4 0) (nI o) true)) 0 5 (upd (K.2.1 0 5) o (nI p))) 0 6 (upd (K.2.1 0 6) o ow)) 0 7 (upd (K.2.1 0 7) o 15)) 0 4 1 (jChg (K.1 0 4 1) (nI o) true) := by
    unfold sMake
    try dsimp only
    rw [sArr_n _ 5 _ ho, sArr_n _ 6 _ ho, sArr_n _ 7 _ ho]
    rfl
  rw [eX]
  have w0 : mFnd w o (nI p) ow (oA o 0) = 1 := by unfold mFnd; rw [upd_n (by unfold oA; omega), upd_n (by unfold oA; omega), upd_n (by unfold oA; omega), upd_n (by unfold oA; omega), upd_s]
  have w1 : mFnd w o (nI p) ow (oA o 1) = nI p := by unfold mFnd; rw [upd_n (by unfold oA; omega), upd_n (by unfold oA; omega), upd_n (by unfold oA; omega), upd_s]
  have w2 : mFnd w o (nI p) ow (oA o 2) = ow := by unfold mFnd; rw [upd_n (by unfold oA; omega), upd_n (by unfold oA; omega), upd_s]
  have w3 : mFnd w o (nI p) ow (oA o 3) = 15 := by unfold mFnd; rw [upd_n (by unfold oA; omega), upd_s]
  have w4 : mFnd w o (nI p) ow (oA o 4) = 1 := by unfold mFnd; rw [upd_s]
  have wz : ∀ x, oA o 5 ≤ x → x < oA o 36 → mFnd w o (nI p) ow x = 0 := fun x hx hx2 => by
    unfold mFnd
    rw [upd_n (by unfold oA at *; omega), upd_n (by unfold oA at *; omega), upd_n (by unfold oA at *; omega), upd_n (by unfold oA at *; omega), upd_n (by unfold oA at *; omega), mZk, if_pos (by unfold oA at *; omega)]
  have wo : ∀ x, (x < oA o 0 ∨ oA o 36 ≤ x) → mFnd w o (nI p) ow x = w x := fun x hx => by
    unfold mFnd
    rw [upd_n (by unfold oA at *; omega), upd_n (by unfold oA at *; omega), upd_n (by unfold oA at *; omega), upd_n (by unfold oA at *; omega), upd_n (by unfold oA at *; omega), mZk, if_neg (by unfold oA at *; omega)]
  have wj : ∀ j k, ¬ j = o → j < 20 → k < 36 → mFnd w o (nI p) ow (oA j k) = w (oA j k) := fun j k hj _ hk => wo _ (by unfold oA; omega)
  refine ⟨rUG_congr h.1 rfl rfl (fun _ _ => rfl) (fun _ _ => rfl) (fun x hx => wo x (by unfold oA; omega)), ⟨?_, by rw [wj 0 0 (by omega) (by decide) (by decide)]; exact h.t0, ?_, ?_, by rw [wj 0 1 (by omega) (by decide) (by decide)]; exact h.p0, ?_, ?_⟩, ?_, rLg_congr h.lg rfl rfl rfl (fun _ _ => ⟨rfl, rfl⟩) (fun x h1 _ => wo x (by unfold oA; omega)) (Nat.le_refl _), ?_⟩
  · show bLt (jChg (K.1 0 4 0) (nI o) true) 20
    exact bLt_chg h.tb (by omega) (fun _ => ho)
  · intro j hj
    show bt (jChg (K.1 0 4 0) (nI o) true) j = _
    rw [jChg_bt _ (by omega) true (by omega)]
    by_cases hc : j = o
    · subst hc; rw [if_pos rfl, w0]; rfl
    · rw [if_neg hc, wj j 0 hc hj (by decide)]; exact h.th hj
  · intro j hj hz
    show upd (K.2.1 0 5) o (nI p) j = _ ∧ upd (K.2.1 0 6) o ow j = _ ∧ upd (K.2.1 0 7) o 15 j = _ ∧ bt (jChg (K.1 0 4 1) (nI o) true) j = _
    rw [jChg_bt _ (by omega) true (by omega)]
    by_cases hc : j = o
    · subst hc
      rw [upd_s, upd_s, upd_s, if_pos rfl, w1, w2, w3, w4]
      exact ⟨rfl, rfl, rfl, rfl⟩
    · rw [wj j 0 hc hj (by decide)] at hz
      rw [upd_n hc, upd_n hc, upd_n hc, if_neg hc, wj j 1 hc hj (by decide), wj j 2 hc hj (by decide), wj j 3 hc hj (by decide), wj j 4 hc hj (by decide)]
      exact h.to hj hz
  · intro j hj0 hj hz
    by_cases hc : j = o
    · subst hc; exact ⟨p, hp, w1, by rw [wj p 0 hne hp (by decide)]; exact hp1⟩
    · rw [wj j 0 hc hj (by decide)] at hz
      obtain ⟨k, i1, i2, i3⟩ := h.pa hj0 hj hz
      have hk : ¬ k = o := fun z => by subst z; exact h1 i3
      exact ⟨k, i1, by rw [wj j 1 hc hj (by decide)]; exact i2, by rw [wj k 0 hk i1 (by decide)]; exact i3⟩
  · intro j hj hz
    by_cases hc : j = o
    · subst hc; exact absurd w0 hz
    · rw [wj j 0 hc hj (by decide)] at hz
      rw [wj j 1 hc hj (by decide)]
      exact h.pz hj hz
  · intro j hj
    by_cases hc : j = o
    · subst hc
      have e5 : mFnd w j (nI p) ow (oA j 5) = 0 := wz _ (by unfold oA; omega) (by unfold oA; omega)
      have em : mCt (mFnd w j (nI p) ow) j = 0 := by unfold mCt; rw [e5]; rfl
      refine ⟨?_, fun z => absurd w0 z, fun i hi => ?_⟩
      · rw [e5]
        show K.2.1 0 9 j = 0
        rw [h.ct hj, h.cz hj h1]
      · rw [em] at hi; omega
    · have em : mCt (mFnd w o (nI p) ow) j = mCt w j := by unfold mCt; rw [wj j 5 hc hj (by decide)]
      refine ⟨by rw [wj j 5 hc hj (by decide)]; exact h.ct hj, by rw [wj j 0 hc hj (by decide), wj j 5 hc hj (by decide)]; exact h.cz hj, fun i hi => ?_⟩
      rw [em] at hi
      have h6 := h.ok.ct6 hj
      have hcc := eC_congr (w := w) (w2 := mFnd w o (nI p) ow) (o := j) (i := i) (o2 := j) (i2 := i) (fun k hk => wo _ (by unfold enA oA; omega))
      rw [hcc.1]
      exact ⟨h.en hj hi, hcc.2 (h.eo hj hi)⟩
  · obtain ⟨⟨u1, u2⟩, ⟨g1, g2⟩, c1, c2, c3, c4⟩ := h.ok
    have eus : mUs (mFnd w o (nI p) ow) = mUs w := by unfold mUs; rw [wo _ (by unfold oA; omega)]
    have egs : mGs (mFnd w o (nI p) ow) = mGs w := by unfold mGs; rw [wo _ (by unfold oA; omega)]
    refine ⟨⟨by rw [wo _ (by unfold oA; omega), eus]; exact u1, by rw [eus]; exact u2⟩, ⟨by rw [wo _ (by unfold oA; omega), egs]; exact g1, by rw [egs]; exact g2⟩, fun j hj => ?_, fun j hj => ?_, fun j i hj hi hz => ?_, ?_⟩
    · by_cases hc : j = o
      · subst hc
        have e5 : mFnd w j (nI p) ow (oA j 5) = 0 := wz _ (by unfold oA; omega) (by unfold oA; omega)
        have em : mCt (mFnd w j (nI p) ow) j = 0 := by unfold mCt; rw [e5]; rfl
        rw [em, e5]; exact ⟨rfl, by decide⟩
      · have em : mCt (mFnd w o (nI p) ow) j = mCt w j := by unfold mCt; rw [wj j 5 hc hj (by decide)]
        rw [em, wj j 5 hc hj (by decide)]; exact c1 j hj
    · by_cases hc : j = o
      · subst hc; exact Or.inr w0
      · rw [wj j 0 hc hj (by decide)]; exact c2 j hj
    · by_cases hc : j = o
      · subst hc
        rw [wz _ (by unfold enA oA; omega) (by unfold enA oA; omega)] at hz
        exact absurd hz (by decide)
      · rw [wo _ (by unfold enA oA; omega)] at hz
        rw [wo _ (by unfold enA oA; omega)]
        exact c3 j i hj hi hz
    · obtain ⟨rk, hrk⟩ := c4
      refine mRk_of (fun x => if x = o then rk p + 1 else rk x) fun j hj => ?_
      by_cases hc : j = o
      · subst hc
        refine Or.inr ⟨p, hp, w1, ?_⟩
        try dsimp only
        rw [if_neg hne, if_pos rfl]; omega
      · rw [wj j 1 hc hj (by decide)]
        rcases (hrk j hj).2 with z | ⟨k, i1, i2, i3⟩
        · exact Or.inl z
        · refine Or.inr ⟨k, i1, i2, ?_⟩
          have hk : ¬ k = o := by
            intro z
            subst z
            rcases Nat.eq_zero_or_pos j with z0 | z0
            · subst z0; rw [h.p0] at i2; exact neg1_ne (by omega) i2
            · by_cases hj1 : w (oA j 0) = 1
              · obtain ⟨k3, i4, i5, i6⟩ := h.pa z0 hj hj1
                rw [i2, nI_eq (by omega) (by omega)] at i5
                subst i5
                exact h1 i6
              · rw [h.pz hj hj1] at i2
                have := (nI_eq (a := 0) (by decide) (by omega)).mp i2
                omega
          try dsimp only
          rw [if_neg hk, if_neg hc]; exact i3
theorem Rel.bls0 {F A : Nat → Nat → Int32} (h : Rel F A w t) {o : Nat} (hz : ¬ 0 < mBls w (nI o) 20 0 0) {j : Nat} (hj : j < 20) (h1 : w (oA j 0) = 1) : mBlw w j (nI o) = false := by
  have e : mBls w (nI o) 20 0 0 = 0 + nI (sF (fun k => (mHold w (nI k) && mBlw w k (nI o)).toNat) 20 0) :=
    loop_c (f := mBls w (nI o)) (a := fun j => if (mHold w (nI j) && mBlw w j (nI o)) = true then 1 else 0) (fun _ _ => rfl) (fun _ _ _ => rfl) 20 0 0 (fun i _ _ => (nI_bN _).symm)
  have hle := cF_le (fun k => mHold w (nI k) && mBlw w k (nI o)) 20 0
  cases hb : mBlw w j (nI o) with
  | false => rfl
  | true =>
    exfalso
    apply hz
    have h2 : 0 < cF (fun k => mHold w (nI k) && mBlw w k (nI o)) 20 0 := by
      have := cF_lt (p := fun _ => false) (q := fun k => mHold w (nI k) && mBlw w k (nI o)) 20 0 j (fun _ _ _ z => by cases z) (Nat.zero_le _) (by omega) rfl (by (try dsimp only); rw [hb, h.hold, h.holdn hj, decide_eq_true h1]; rfl)
      omega
    rw [e, Int32.zero_add]
    have hle2 : sF (fun k => (mHold w (nI k) && mBlw w k (nI o)).toNat) 20 0 ≤ 20 := hle
    exact nI_lt (a := 0) h2 (by omega)
theorem Rel.remove (h : Rel (K.1 0) (K.2.1 0) w t) {o : Nat} (ho : o < 20) (h0 : 0 < o) (h1 : w (oA o 0) = 1) (hz : ¬ 0 < mBls w (nI o) 20 0 0) : Rel ((sArr (putF K 0 4 0 (jChg (K.1 0 4 0) (nI o) false)) 0 9 20 (nI o) 0).1 0) ((sArr (putF K 0 4 0 (jChg (K.1 0 4 0) (nI o) false)) 0 9 20 (nI o) 0).2.1 0) (mZk w o 36) t := by
  rw [sArr_n _ 9 _ ho]
  have wz : ∀ x, oA o 0 ≤ x → x < oA o 36 → mZk w o 36 x = 0 := fun x hx hx2 => by rw [mZk, if_pos (by unfold oA at *; omega)]
  have wo : ∀ x, (x < oA o 0 ∨ oA o 36 ≤ x) → mZk w o 36 x = w x := fun x hx => by rw [mZk, if_neg (by unfold oA at *; omega)]
  have wj : ∀ j k, ¬ j = o → j < 20 → k < 36 → mZk w o 36 (oA j k) = w (oA j k) := fun j k hj _ hk => wo _ (by unfold oA; omega)
  have wk : ∀ k, k < 36 → mZk w o 36 (oA o k) = 0 := fun k hk => wz _ (by unfold oA; omega) (by unfold oA; omega)
  obtain ⟨rk, hrk⟩ := h.ok.rk
  -- no one has o as its parent
  have hch : ∀ j k, j < 20 → w (oA j 1) = nI k → k < 20 → ¬ k = o := by
    intro j k hj e hk z
    subst z
    rcases Nat.eq_zero_or_pos j with z0 | z0
    · subst z0; rw [h.p0] at e; exact neg1_ne (by omega) e
    · by_cases hj1 : w (oA j 0) = 1
      · have hb := h.bls0 hz hj hj1
        rw [mBlw_st hrk ho hj hk e, decide_eq_true rfl] at hb
        cases hb
      · rw [h.pz hj hj1] at e
        have := (nI_eq (a := 0) (by decide) (by omega)).mp e
        omega
  refine ⟨rUG_congr h.1 rfl rfl (fun _ _ => rfl) (fun _ _ => rfl) (fun x hx => wo x (by unfold oA; omega)), ⟨?_, by rw [wj 0 0 (by omega) (by decide) (by decide)]; exact h.t0, ?_, ?_, by rw [wj 0 1 (by omega) (by decide) (by decide)]; exact h.p0, ?_, ?_⟩, ?_, rLg_congr h.lg rfl rfl rfl (fun _ _ => ⟨rfl, rfl⟩) (fun x h1 _ => wo x (by unfold oA; omega)) (Nat.le_refl _), ?_⟩
  · show bLt (jChg (K.1 0 4 0) (nI o) false) 20
    exact bLt_chg h.tb (by omega) (fun z => by cases z)
  · intro j hj
    show bt (jChg (K.1 0 4 0) (nI o) false) j = _
    rw [jChg_bt _ (by omega) false (by omega)]
    by_cases hc : j = o
    · subst hc; rw [if_pos rfl, wk 0 (by decide)]; rfl
    · rw [if_neg hc, wj j 0 hc hj (by decide)]; exact h.th hj
  · intro j hj hz2
    by_cases hc : j = o
    · subst hc; rw [wk 0 (by decide)] at hz2; exact absurd hz2 (by decide)
    · rw [wj j 0 hc hj (by decide)] at hz2
      rw [wj j 1 hc hj (by decide), wj j 2 hc hj (by decide), wj j 3 hc hj (by decide), wj j 4 hc hj (by decide)]
      exact h.to hj hz2
  · intro j hj0 hj hz2
    by_cases hc : j = o
    · subst hc; rw [wk 0 (by decide)] at hz2; exact absurd hz2 (by decide)
    · rw [wj j 0 hc hj (by decide)] at hz2
      obtain ⟨k, i1, i2, i3⟩ := h.pa hj0 hj hz2
      exact ⟨k, i1, by rw [wj j 1 hc hj (by decide)]; exact i2, by rw [wj k 0 (hch j k hj i2 i1) i1 (by decide)]; exact i3⟩
  · intro j hj hz2
    by_cases hc : j = o
    · subst hc; exact wk 1 (by decide)
    · rw [wj j 0 hc hj (by decide)] at hz2
      rw [wj j 1 hc hj (by decide)]
      exact h.pz hj hz2
  · intro j hj
    by_cases hc : j = o
    · subst hc
      have em : mCt (mZk w j 36) j = 0 := by unfold mCt; rw [wk 5 (by decide)]; rfl
      refine ⟨?_, fun _ => wk 5 (by decide), fun i hi => by rw [em] at hi; omega⟩
      rw [wk 5 (by decide)]
      show upd (K.2.1 0 9) j 0 j = 0
      rw [upd_s]
    · have em : mCt (mZk w o 36) j = mCt w j := by unfold mCt; rw [wj j 5 hc hj (by decide)]
      refine ⟨?_, by rw [wj j 0 hc hj (by decide), wj j 5 hc hj (by decide)]; exact h.cz hj, fun i hi => ?_⟩
      · rw [wj j 5 hc hj (by decide)]
        show upd (K.2.1 0 9) o 0 j = _
        rw [upd_n hc]; exact h.ct hj
      · rw [em] at hi
        have h6 := h.ok.ct6 hj
        have hcc := eC_congr (w := w) (w2 := mZk w o 36) (o := j) (i := i) (o2 := j) (i2 := i) (fun k hk => wo _ (by unfold enA oA; omega))
        rw [hcc.1]
        exact ⟨h.en hj hi, hcc.2 (h.eo hj hi)⟩
  · obtain ⟨⟨u1, u2⟩, ⟨g1, g2⟩, c1, c2, c3, c4⟩ := h.ok
    have eus : mUs (mZk w o 36) = mUs w := by unfold mUs; rw [wo _ (by unfold oA; omega)]
    have egs : mGs (mZk w o 36) = mGs w := by unfold mGs; rw [wo _ (by unfold oA; omega)]
    refine ⟨⟨by rw [wo _ (by unfold oA; omega), eus]; exact u1, by rw [eus]; exact u2⟩, ⟨by rw [wo _ (by unfold oA; omega), egs]; exact g1, by rw [egs]; exact g2⟩, fun j hj => ?_, fun j hj => ?_, fun j i hj hi hz2 => ?_, ?_⟩
    · by_cases hc : j = o
      · subst hc
        have em : mCt (mZk w j 36) j = 0 := by unfold mCt; rw [wk 5 (by decide)]; rfl
        rw [em, wk 5 (by decide)]; exact ⟨rfl, by decide⟩
      · have em : mCt (mZk w o 36) j = mCt w j := by unfold mCt; rw [wj j 5 hc hj (by decide)]
        rw [em, wj j 5 hc hj (by decide)]; exact c1 j hj
    · by_cases hc : j = o
      · subst hc; exact Or.inl (wk 0 (by decide))
      · rw [wj j 0 hc hj (by decide)]; exact c2 j hj
    · by_cases hc : j = o
      · subst hc
        rw [wz _ (by unfold enA oA; omega) (by unfold enA oA; omega)] at hz2
        exact absurd hz2 (by decide)
      · rw [wo _ (by unfold enA oA; omega)] at hz2
        rw [wo _ (by unfold enA oA; omega)]
        exact c3 j i hj hi hz2
    · refine mRk_of (fun x => if x = o then rk 0 + 1 else rk x) fun j hj => ?_
      by_cases hc : j = o
      · subst hc
        refine Or.inr ⟨0, by decide, wk 1 (by decide), ?_⟩
        try dsimp only
        rw [if_neg (by omega), if_pos rfl]; omega
      · rw [wj j 1 hc hj (by decide)]
        rcases (hrk j hj).2 with z | ⟨k, i1, i2, i3⟩
        · exact Or.inl z
        · refine Or.inr ⟨k, i1, i2, ?_⟩
          try dsimp only
          rw [if_neg (hch j k hj i2 i1), if_neg hc]; exact i3
end MUT
