/-! lists -/
theorem sSetE_at (v : Nat → Int32) {o i : Nat} (x : Int32) (ho : o < 20) (hi : i < 6) : sSetE v (nI o) (nI i) x = upd v (o * 6 + i) x := by
  unfold sSetE
  rw [if_pos ⟨jIdx20 ho, jIdx6 hi⟩, show (6 : Int32) = nI 6 from rfl, nI_mul, nI_add, nI_clamp (by omega)]
theorem insSh_at {o p : Nat} (ho : o < 20) (hp : p < 6) : ∀ (n : Nat) (v : Nat → Int32) (x : Nat), n ≤ 5 → insSh (nI o) (nI p) n v x = if o * 6 + p < x ∧ x ≤ o * 6 + n then v (x - 1) else v x := by
  intro n
  induction n with
  | zero => intro v x _; rw [insSh, if_neg (by omega)]
  | succ n ih =>
    intro v x hn
    rw [insSh]
    by_cases hc : p < n + 1
    · rw [if_pos (nI_lt hc (by omega)), show nI (n + 1) - 1 = nI n from nI_pred n, sEnt_at _ ho (by omega), sSetE_at _ _ ho (by omega), ih _ x (by omega)]
      unfold upd
      by_cases h1 : o * 6 + p < x ∧ x ≤ o * 6 + n
      · rw [if_pos h1, if_neg (by omega), if_pos (by omega)]
      · rw [if_neg h1]
        by_cases h2 : x = o * 6 + (n + 1)
        · rw [if_pos h2, if_pos (by omega), h2]; rfl
        · rw [if_neg h2, if_neg (by omega)]
    · rw [if_neg (nI_nlt (by omega) (by omega)), if_neg (by omega)]
theorem delSh_at {o : Nat} (ho : o < 20) : ∀ (n p : Nat) (v : Nat → Int32) (x : Nat), p + n = 5 → delSh (nI o) n p v x = if o * 6 + p ≤ x ∧ x < o * 6 + 5 then v (x + 1) else v x := by
  intro n
  induction n with
  | zero => intro p v x hp; rw [delSh, if_neg (by omega)]
  | succ n ih =>
    intro p v x hp
    rw [delSh, nI_1, sEnt_at _ ho (by omega), sSetE_at _ _ ho (by omega), ih (p + 1) _ x (by omega)]
    unfold upd
    by_cases h1 : o * 6 + (p + 1) ≤ x ∧ x < o * 6 + 5
    · rw [if_pos h1, if_neg (by omega), if_pos (by omega)]
    · rw [if_neg h1]
      by_cases h2 : x = o * 6 + p
      · rw [if_pos h2, if_pos (by omega), h2]; rfl
      · rw [if_neg h2, if_neg (by omega)]
theorem mCt_eq {v w : Nat → Int32} {j : Nat} (h : v (oA j 5) = w (oA j 5)) : mCt v j = mCt w j := by unfold mCt; rw [h]
theorem mCt_n {v : Nat → Int32} {j c : Nat} (h : v (oA j 5) = nI c) (hc : c < 2 ^ 31) : mCt v j = c := by unfold mCt; rw [h, nI_clamp hc]
def setLs (A : Nat → Nat → Int32) (q : (Nat → Int32) × (Nat → Int32)) : Nat → Nat → Int32 := fun o => if o = 9 then q.1 else if o = 10 then q.2 else A o
section LST
variable {F A : Nat → Nat → Int32} {w w2 : Nat → Int32} {t : Nat}
theorem eC_congr {o i o2 i2 : Nat} (h : ∀ k, k < 5 → w2 (enA o i k) = w (enA o2 i2 k)) : eC w2 o i = eC w o2 i2 ∧ (eOk w o2 i2 → eOk w2 o i) := by
  unfold eC eOk
  rw [h 0 (by decide), h 1 (by decide), h 2 (by decide), h 3 (by decide), h 4 (by decide)]
  exact ⟨rfl, id⟩
theorem Rel.setL (h : Rel F A w t) {A2 : Nat → Nat → Int32} (hA : ∀ o, ¬ o = 9 → ¬ o = 10 → A2 o = A o) (hw : ∀ x, x < 18 ∨ 738 ≤ x → w2 x = w x) (hk : ∀ o k, o < 20 → k < 5 → w2 (oA o k) = w (oA o k)) (hl : rLs A2 w2) (hm : mOk w2) : Rel F A2 w2 t := by
  have eus : mUs w2 = mUs w := by unfold mUs; rw [hw 0 (by omega)]
  have egs : mGs w2 = mGs w := by unfold mGs; rw [hw 1 (by omega)]
  refine ⟨⟨⟨by rw [eus]; exact h.us, by rw [eus]; exact h.us1⟩, by rw [egs]; exact h.gs, ?_, ?_, ?_, ?_, ?_, ?_⟩, ⟨h.tb, by rw [hk 0 0 (by decide) (by decide)]; exact h.t0, ?_, ?_, by rw [hk 0 1 (by decide) (by decide)]; exact h.p0, ?_, ?_⟩, hl, ?_, hm⟩
  · intro u hu; rw [hA 2 (by decide) (by decide), egs]; exact h.ml hu
  · intro a ha; rw [hw (2 + a) (by omega), eus]; exact h.wl ha
  · intro u a hu ha; rw [hA 2 (by decide) (by decide), hw (2 + a) (by omega)]; exact h.mm hu ha
  · intro a ha; rw [hA 3 (by decide) (by decide), hw (10 + a) (by omega)]; exact h.nn ha
  · intro a ha; rw [hw (10 + a) (by omega), egs]; exact h.nl ha
  · intro a hg ha; rw [hw (10 + a) (by omega)]; exact h.nz (by rw [← egs]; exact hg) ha
  · intro o ho; rw [hk o 0 ho (by decide)]; exact h.th ho
  · intro o ho h1
    rw [hk o 0 ho (by decide)] at h1
    rw [hA 5 (by decide) (by decide), hA 6 (by decide) (by decide), hA 7 (by decide) (by decide), hk o 1 ho (by decide), hk o 2 ho (by decide), hk o 3 ho (by decide), hk o 4 ho (by decide)]
    exact h.to ho h1
  · intro o h0 ho h1
    rw [hk o 0 ho (by decide)] at h1
    obtain ⟨j, h2, h3, h4⟩ := h.pa h0 ho h1
    exact ⟨j, h2, by rw [hk o 1 ho (by decide)]; exact h3, by rw [hk j 0 h2 (by decide)]; exact h4⟩
  · intro o ho h1
    rw [hk o 0 ho (by decide)] at h1
    rw [hk o 1 ho (by decide)]
    exact h.pz ho h1
  · obtain ⟨q, h1, h2, h3, h4, h5, h6⟩ := h.lg
    refine ⟨q, h1, h2, by rw [hw _ (by omega)]; exact h3, by rw [hw _ (by omega)]; exact h4, by rw [hw _ (by omega)]; exact h5, fun a ha => ?_⟩
    rw [hA 12 (by decide) (by decide), hA 13 (by decide) (by decide), hw (738 + 3 * a) (by omega), hw (739 + 3 * a) (by omega), hw (740 + 3 * a) (by omega)]
    exact h6 a ha
theorem Rel.take (h : Rel F A w t) {o i : Nat} (ho : o < 20) (h1 : w (oA o 0) = 1) (hi : i < mCt w o) : (sTake (A 9) (A 10) (nI o) (nI i)).1 = eC w o i ∧ Rel F (setLs A (sTake (A 9) (A 10) (nI o) (nI i)).2) (mTo w o i (mCt w o)) t := by
  have h6 := h.ok.ct6 ho
  have hcond : jIdx (nI o) 20 = true ∧ jIdx (nI i) (A 9 (nI o).toNatClampNeg) = true := by
    refine ⟨jIdx20 ho, ?_⟩
    rw [nI_clamp (by omega), h.ct ho, h.ok.ct ho]
    exact jIdx_n hi (by omega)
  have e : sTake (A 9) (A 10) (nI o) (nI i) = (A 10 (o * 6 + i), (upd (A 9) o (nI (mCt w o) - 1), delSh (nI o) (5 - i) i (A 10))) := by
    unfold sTake
    rw [if_pos hcond, sEnt_at _ ho (by omega), nI_clamp (by omega), nI_clamp (by omega), h.ct ho, h.ok.ct ho]
  rw [e]
  refine ⟨h.en ho hi, ?_⟩
  have hout : ∀ x, ¬ (enA o i 0 ≤ x ∧ x < enA o (mCt w o - 1) 0) → ¬ x = oA o 5 → mTo w o i (mCt w o) x = w x := by
    intro x hx hx5
    rw [mTo, mTk, if_neg hx, upd, if_neg hx5]
  refine h.setL (fun o2 h9 h10 => by unfold setLs; rw [if_neg h9, if_neg h10]) (fun x hx => hout x (by unfold enA; omega) (by unfold oA; omega)) (fun j k hj hk => hout _ (by unfold enA oA; omega) (by unfold oA; omega)) ?_ (mOk_to h.ok ho hi)
  intro j hj
  have hset9 : setLs A (upd (A 9) o (nI (mCt w o) - 1), delSh (nI o) (5 - i) i (A 10)) 9 = upd (A 9) o (nI (mCt w o) - 1) := rfl
  have hset10 : setLs A (upd (A 9) o (nI (mCt w o) - 1), delSh (nI o) (5 - i) i (A 10)) 10 = delSh (nI o) (5 - i) i (A 10) := rfl
  rw [hset9, hset10]
  by_cases hjo : j = o
  · subst hjo
    refine ⟨by rw [upd, if_pos rfl, mTo_5, nI_m1 (by omega)], ?_, ?_⟩
    · intro h2
      rw [hout _ (by unfold enA oA; omega) (by unfold oA; omega)] at h2
      exact absurd h1 h2
    · intro e2 he
      rw [mCt_to h6] at he
      rw [delSh_at ho _ _ _ _ (by omega)]
      by_cases hl : e2 < i
      · have hc := eC_congr (w := w) (w2 := mTo w j i (mCt w j)) (o := j) (i := e2) (o2 := j) (i2 := e2) (fun k hk => hout _ (by unfold enA; omega) (by unfold enA oA; omega))
        rw [if_neg (by omega), hc.1]
        exact ⟨h.en ho (by omega), hc.2 (h.eo ho (by omega))⟩
      · have hc := eC_congr (w := w) (w2 := mTo w j i (mCt w j)) (o := j) (i := e2) (o2 := j) (i2 := e2 + 1) (fun k hk => by
          rw [mTo, mTk, if_pos (by unfold enA; omega), upd, if_neg (by unfold enA oA; omega)]
          refine congrArg w ?_
          unfold enA; omega)
        rw [if_pos (by omega), hc.1]
        exact ⟨h.en ho (i := e2 + 1) (by omega), hc.2 (h.eo ho (by omega))⟩
  · have hct : mTo w o i (mCt w o) (oA j 5) = w (oA j 5) := hout _ (by unfold enA oA; omega) (by unfold oA; omega)
    refine ⟨by rw [upd, if_neg hjo, hct]; exact h.ct hj, ?_, ?_⟩
    · intro h2
      rw [hout _ (by unfold enA oA; omega) (by unfold oA; omega)] at h2
      rw [hct]
      exact h.cz hj h2
    · intro e2 he
      have he2 : e2 < mCt w j := by rw [mCt_eq hct] at he; exact he
      have hj6 := h.ok.ct6 hj
      have hc := eC_congr (w := w) (w2 := mTo w o i (mCt w o)) (o := j) (i := e2) (o2 := j) (i2 := e2) (fun k hk => hout _ (by unfold enA; omega) (by unfold enA oA; omega))
      rw [delSh_at ho _ _ _ _ (by omega), if_neg (by omega), hc.1]
      exact ⟨h.en hj he2, hc.2 (h.eo hj he2)⟩
theorem Rel.put (h : Rel F A w t) {o i : Nat} (ho : o < 20) (h1 : w (oA o 0) = 1) (h5 : mCt w o ≤ 5) (hi : i ≤ mCt w o) (hv : ∀ x, ¬ (enA o i 0 ≤ x ∧ x < enA o i 5) → w2 x = mOpn w o i (mCt w o) x) (he : eOk w2 o i) (hk8 : w2 (enA o i 0) = 1 → ∃ j, j < 8 ∧ w2 (enA o i 1) = nI j) {v : Int32} (hvv : v = eC w2 o i) : Rel F (setLs A (sPutIn (A 9) (A 10) (nI o) (nI i) v)) w2 t := by
  have hcond : jIdx (nI o) 20 = true ∧ jIdx (nI i) 6 = true ∧ A 9 (nI o).toNatClampNeg < 6 := by
    refine ⟨jIdx20 ho, jIdx6 (by omega), ?_⟩
    rw [nI_clamp (by omega), h.ct ho, h.ok.ct ho]
    exact nI_lt (b := 6) (by omega) (by decide)
  have e : sPutIn (A 9) (A 10) (nI o) (nI i) v = (upd (A 9) o (nI (mCt w o + 1)), upd (insSh (nI o) (nI i) 5 (A 10)) (o * 6 + i) v) := by
    unfold sPutIn
    rw [if_pos hcond, sSetE_at _ _ ho (by omega), nI_clamp (by omega), h.ct ho, h.ok.ct ho, nI_1]
  rw [e]
  have hout : ∀ x, ¬ (enA o i 0 ≤ x ∧ x ≤ enA o (mCt w o) 4) → ¬ x = oA o 5 → w2 x = w x := by
    intro x hx hx5
    rw [hv x (by unfold enA at *; omega), mOpn_at w o i (mCt w o) x hx5 (by unfold enA at *; omega)]
  have hct5 : w2 (oA o 5) = nI (mCt w o + 1) := by
    rw [hv _ (by unfold enA oA; omega), mOpn, upd, if_pos rfl]
  have hmc : mCt w2 o = mCt w o + 1 := mCt_n hct5 (by omega)
  refine h.setL (fun o2 h9 h10 => by unfold setLs; rw [if_neg h9, if_neg h10]) (fun x hx => hout x (by unfold enA; omega) (by unfold oA; omega)) (fun j k hj hk => hout _ (by unfold enA oA; omega) (by unfold oA; omega)) ?_ (mOk_ins h.ok ho h5 hi hv hk8)
  intro j hj
  have hset9 : setLs A (upd (A 9) o (nI (mCt w o + 1)), upd (insSh (nI o) (nI i) 5 (A 10)) (o * 6 + i) v) 9 = upd (A 9) o (nI (mCt w o + 1)) := rfl
  have hset10 : setLs A (upd (A 9) o (nI (mCt w o + 1)), upd (insSh (nI o) (nI i) 5 (A 10)) (o * 6 + i) v) 10 = upd (insSh (nI o) (nI i) 5 (A 10)) (o * 6 + i) v := rfl
  rw [hset9, hset10]
  by_cases hjo : j = o
  · subst hjo
    refine ⟨by rw [upd, if_pos rfl, hct5], ?_, ?_⟩
    · intro h2
      rw [hout _ (by unfold enA oA; omega) (by unfold oA; omega)] at h2
      exact absurd h1 h2
    · intro e2 he2
      rw [hmc] at he2
      unfold upd
      by_cases hl : e2 = i
      · subst hl
        rw [if_pos rfl]
        exact ⟨hvv, he⟩
      · rw [if_neg (by omega), insSh_at ho (by omega) _ _ _ (Nat.le_refl _)]
        by_cases hl2 : e2 < i
        · have hc := eC_congr (w := w) (w2 := w2) (o := j) (i := e2) (o2 := j) (i2 := e2) (fun k hk => hout _ (by unfold enA; omega) (by unfold enA oA; omega))
          rw [if_neg (by omega), hc.1]
          exact ⟨h.en ho (by omega), hc.2 (h.eo ho (by omega))⟩
        · have hc := eC_congr (w := w) (w2 := w2) (o := j) (i := e2) (o2 := j) (i2 := e2 - 1) (fun k hk => by
            rw [hv _ (by unfold enA; omega), mOpn, upd, if_neg (by unfold enA oA; omega), mOpK, if_pos (by unfold enA; omega)]
            refine congrArg w ?_
            unfold enA; omega)
          rw [if_pos (by omega), hc.1, show j * 6 + e2 - 1 = j * 6 + (e2 - 1) by omega]
          exact ⟨h.en ho (by omega), hc.2 (h.eo ho (by omega))⟩
  · have hct : w2 (oA j 5) = w (oA j 5) := hout _ (by unfold enA oA; omega) (by unfold oA; omega)
    refine ⟨by rw [upd, if_neg hjo, hct]; exact h.ct hj, ?_, ?_⟩
    · intro h2
      rw [hout _ (by unfold enA oA; omega) (by unfold oA; omega)] at h2
      rw [hct]
      exact h.cz hj h2
    · intro e2 he2
      have he3 : e2 < mCt w j := by rw [mCt_eq hct] at he2; exact he2
      have hj6 := h.ok.ct6 hj
      have hc := eC_congr (w := w) (w2 := w2) (o := j) (i := e2) (o2 := j) (i2 := e2) (fun k hk => hout _ (by unfold enA; omega) (by unfold enA oA; omega))
      rw [upd, if_neg (by omega), insSh_at ho (by omega) _ _ _ (Nat.le_refl _), if_neg (by omega), hc.1]
      exact ⟨h.en hj he3, hc.2 (h.eo hj he3)⟩
end LST
