/-! rows of the model that agree in part; an entry that gives nothing -/
section CONG
variable {w v : Nat → Int32}
theorem mOK_congr (h : ∀ x, x < 18 → v x = w x) : ∀ (n j : Nat) (x : Int32), j + n ≤ 8 → mOK v n j x = mOK w n j x := by
  intro n
  induction n with
  | zero => intro j x _; rfl
  | succ n ih =>
    intro j x hj
    rw [mOK, mOK, h (10 + j) (by omega), ih (j + 1) _ (by omega)]
theorem mOR_congr (h : ∀ x, x < 18 → v x = w x) : ∀ (n : Nat) (x : Int32), mOR v n x = mOR w n x := by
  intro n
  induction n with
  | zero => intro x; rfl
  | succ n ih =>
    intro x
    rw [mOR, mOR, mOK_congr h 8 0 x (by decide), ih]
theorem mOut_congr (h : ∀ x, x < 18 → v x = w x) {j : Nat} (hj : j < 8) : mOut v j = mOut w j := by
  unfold mOut
  rw [mOR_congr h, h (10 + j) (by omega)]
theorem mOf_congr (h : ∀ x, x < 18 → v x = w x) (u : Int32) (g : Nat) : ∀ (n j : Nat) (b : Bool), j + n ≤ 8 → mOf v u g n j b = mOf w u g n j b := by
  intro n
  induction n with
  | zero => intro j b _; rfl
  | succ n ih =>
    intro j b hj
    rw [mOf, mOf, h (2 + j) (by omega), mOut_congr h (by omega), ih (j + 1) _ (by omega)]
theorem mIsOf_congr (h : ∀ x, x < 18 → v x = w x) {gs : Nat} (hgs : gs ≤ 8) (u : Int32) {g : Nat} (hg : g < 8) : mIsOf v gs u g = mIsOf w gs u g := by
  unfold mIsOf
  rw [h (2 + g) (by omega), mOf_congr h u g gs 0 _ (by omega)]
theorem mGs_congr (h : ∀ x, x < 18 → v x = w x) : mGs v = mGs w := by
  unfold mGs
  rw [h 1 (by decide)]
theorem mUs_congr (h : ∀ x, x < 18 → v x = w x) : mUs v = mUs w := by
  unfold mUs
  rw [h 0 (by decide)]
/-- the same entry elsewhere -/
theorem mCo_congr (h : ∀ x, x < 18 → v x = w x) (hg8 : mGs w ≤ 8) (u : Int32) {o : Nat} (ho : v (oA o 2) = w (oA o 2)) (r : Int32) {li i i2 : Nat} (he : ∀ k, k < 5 → v (enA li i2 k) = w (enA li i k)) (hwho : w (enA li i 0) = 1 → ∃ j, j < 8 ∧ w (enA li i 1) = nI j) : mCo v u o r li i2 = mCo w u o r li i := by
  have hf : mFor v u o li i2 = mFor w u o li i := by
    unfold mFor
    rw [he 0 (by decide), he 1 (by decide), ho, mGs_congr h]
    by_cases h0 : w (enA li i 0) = 0
    · rw [if_pos h0, if_pos h0]
    · rw [if_neg h0, if_neg h0]
      by_cases h1 : w (enA li i 0) = 1
      · rw [if_pos h1, if_pos h1]
        obtain ⟨j, hj, e⟩ := hwho h1
        rw [e, nI_clamp (by omega), mIsOf_congr h hg8 u hj]
      · rw [if_neg h1, if_neg h1]
  unfold mCo
  rw [he 4 (by decide), he 2 (by decide), hf]
theorem lCd_congr {o i o2 i2 : Nat} {x : Int32} (he : ∀ k, k < 5 → v (enA o2 i2 k) = w (enA o i k)) (h : lCd w o i x) : lCd v o2 i2 x := by
  obtain ⟨kd, n, r, a, b, h1, h2, ⟨h3, h4, h5⟩, h6, h7⟩ := h
  exact ⟨kd, n, r, a, b, h1, h2, ⟨by rw [he 0 (by decide)]; exact h3, by rw [he 1 (by decide)]; exact h4, by rw [he 2 (by decide)]; exact h5⟩, by rw [he 3 (by decide)]; exact h6, by rw [he 4 (by decide)]; exact h7⟩
theorem LD_congr {m p e e2 : Nat → Int32} (hL : LD w m p e) (h : ∀ x, x < 18 → v x = w x) (ho : ∀ o k, o < 20 → k < 5 → v (oA o k) = w (oA o k)) (hz : ∀ o, o < 20 → ¬ w (oA o 0) = 1 → v (oA o 5) = 0) (hp : ∀ o, o < 10 → w (oA o 0) = 1 → p (40 + o) = v (oA o 5)) (hv : mOk v) (he : LEn v e2) : LD v m p e2 := by
  obtain ⟨⟨h1, ⟨h2, h3⟩, h4, h5⟩, ⟨h6, h7, h8⟩, ⟨h9, h10⟩, h11⟩ := hL
  refine ⟨⟨hv, ⟨?_, ?_⟩, ?_, ?_⟩, ⟨?_, h7, ?_⟩, ⟨?_, ?_⟩, he⟩
  · intro a ha
    rw [h (10 + a) (by omega), mGs_congr h]
    exact h2 a ha
  · intro a hg ha
    rw [h (10 + a) (by omega)]
    exact h3 a (by rw [← mGs_congr h]; exact hg) ha
  · intro j hj hj1
    rw [ho j 0 hj (by decide)] at hj1
    rcases h4 j hj hj1 with h12 | ⟨k, h12, h13, h14⟩
    · exact Or.inl (by rw [ho j 1 hj (by decide)]; exact h12)
    · exact Or.inr ⟨k, h12, by rw [ho j 1 hj (by decide)]; exact h13, by rw [ho k 0 h12 (by decide)]; exact h14⟩
  · intro o hoo ho1
    rw [ho o 0 hoo (by decide)] at ho1
    exact hz o hoo ho1
  · intro a ha
    rw [h (2 + a) (by omega)]
    exact h6 a ha
  · intro a b ha hb
    rw [h (10 + b) (by omega)]
    exact h8 a b ha hb
  · intro k hk
    obtain ⟨a1, a2⟩ := h9 k hk
    rw [ho k 0 (by omega) (by decide)]
    refine ⟨a1, fun hk1 => ?_⟩
    obtain ⟨b1, b2, b3, b4, b5⟩ := a2 hk1
    rw [ho k 1 (by omega) (by decide), ho k 2 (by omega) (by decide), ho k 3 (by omega) (by decide), ho k 4 (by omega) (by decide)]
    exact ⟨b1, b2, b3, b4, hp k hk hk1⟩
  · intro k hk1 hk2
    rw [ho k 0 hk2 (by decide)]
    exact h10 k hk1 hk2
end CONG
/-- the rights are the same where the lists decide alike -/
theorem mRg_by {w v : Nat → Int32} {u : Int32} {o : Nat} (h2 : v (oA o 2) = w (oA o 2)) (h3 : v (oA o 3) = w (oA o 3)) (hB : ∀ r, r < 4 → mByL v u o (nI r) = mByL w u o (nI r)) : mRg v u o = mRg w u o := by
  unfold mRg
  rw [mRi_rAcc, mRi_rAcc]
  refine rAcc_congr 4 0 0 fun i _ hi => ?_
  (try dsimp only)
  unfold mAl
  rw [h2, h3, hB i (by omega)]
theorem en_oA {o i o2 k : Nat} (hi : i < 6) (hk : k < 6) : ¬ (enA o i 0 ≤ oA o2 k ∧ oA o2 k < enA o i 5) := by
  unfold enA oA
  intro h
  rcases Nat.lt_trichotomy o2 o with h2 | h2 | h2 <;> omega
theorem en_en {o i o2 i2 k : Nat} (hi : i < 6) (hi2 : i2 < 6) (hk : k < 5) (hne : ¬ (o2 = o ∧ i2 = i)) : ¬ (enA o i 0 ≤ enA o2 i2 k ∧ enA o2 i2 k < enA o i 5) := by
  unfold enA
  intro h
  rcases Nat.lt_trichotomy o2 o with h2 | h2 | h2
  · omega
  · rcases Nat.lt_trichotomy i2 i with h3 | h3 | h3 <;> omega
  · omega
theorem to_oA {o i c o2 k : Nat} (hc : c ≤ 6) (hk : k < 6) : ¬ (enA o i 0 ≤ oA o2 k ∧ oA o2 k < enA o (c - 1) 0) := by
  unfold enA oA
  intro h
  rcases Nat.lt_trichotomy o2 o with h2 | h2 | h2 <;> omega
theorem to_en {o i c o2 i2 k : Nat} (hc : c ≤ 6) (hi2 : i2 < 6) (hk : k < 5) (hne : ¬ o2 = o) : ¬ (enA o i 0 ≤ enA o2 i2 k ∧ enA o2 i2 k < enA o (c - 1) 0) := by
  unfold enA
  intro h
  rcases Nat.lt_trichotomy o2 o with h2 | h2 | h2 <;> omega
theorem oA_ne5 {o o2 k : Nat} (hk : k < 5) : ¬ oA o2 k = oA o 5 := by
  unfold oA; omega
theorem enA_ne5 {o o2 i k : Nat} (hi : i < 6) (hk : k < 5) : ¬ enA o2 i k = oA o 5 := by
  unfold oA enA
  intro h
  rcases Nat.lt_trichotomy o2 o with h2 | h2 | h2 <;> omega
/-- as w, but the entry i of o gives nothing -/
def mVd (w : Nat → Int32) (o i : Nat) : Nat → Int32 := mWrt w o i 3 0 0 false false
theorem mVd_n {w : Nat → Int32} {o i x : Nat} (h : ¬ (enA o i 0 ≤ x ∧ x < enA o i 5)) : mVd w o i x = w x := mWrt_out _ _ _ _ _ _ _ _ _ h
theorem mVd_e (w : Nat → Int32) (o i : Nat) : mVd w o i (enA o i 0) = 3 ∧ mVd w o i (enA o i 1) = 0 ∧ mVd w o i (enA o i 2) = 0 ∧ mVd w o i (enA o i 3) = b2i false ∧ mVd w o i (enA o i 4) = b2i false := by
  unfold mVd mWrt
  refine ⟨?_, ?_, ?_, ?_, ?_⟩
  · rw [upd_n (by unfold enA; omega), upd_n (by unfold enA; omega), upd_n (by unfold enA; omega), upd_n (by unfold enA; omega), upd_s]
  · rw [upd_n (by unfold enA; omega), upd_n (by unfold enA; omega), upd_n (by unfold enA; omega), upd_s]
  · rw [upd_n (by unfold enA; omega), upd_n (by unfold enA; omega), upd_s]
  · rw [upd_n (by unfold enA; omega), upd_s]
  · rw [upd_s]
theorem mOk_vd {w : Nat → Int32} (h : mOk w) {o i : Nat} (ho : o < 20) (hi : i < 6) : mOk (mVd w o i) := by
  have e : ∀ x, ¬ (enA o i 0 ≤ x ∧ x < enA o i 5) → mVd w o i x = w x := fun x hx => mVd_n hx
  refine mOk_mk h (e _ (by unfold enA; omega)) (e _ (by unfold enA; omega)) (fun o2 ho2 => e _ (en_oA hi (by decide))) (fun o2 ho2 => e _ (en_oA hi (by decide))) (fun o2 ho2 => ⟨mCt w o2, h.ct6 ho2, by rw [e _ (en_oA hi (by decide))]; exact h.ct ho2⟩) (fun o2 i2 ho2 hi2 h1 => ?_)
  by_cases hc : o2 = o ∧ i2 = i
  · obtain ⟨rfl, rfl⟩ := hc
    rw [(mVd_e w o2 i2).1] at h1
    exact absurd h1 (by decide)
  · rw [e _ (en_en hi hi2 (by decide) hc)] at h1
    rw [e _ (en_en hi hi2 (by decide) hc)]
    exact h.who ho2 hi2 h1
theorem mTo_lo {w : Nat → Int32} {o i x : Nat} (hi : i < mCt w o) (h5 : ¬ x = oA o 5) (hx : ¬ (enA o i 0 ≤ x ∧ x < enA o (mCt w o - 1) 0)) : mTo w o i (mCt w o) x = w x := by
  unfold mTo mTk
  rw [if_neg hx, upd_n h5]
theorem mTo_ct {w : Nat → Int32} {o i : Nat} (hi : i < mCt w o) : mTo w o i (mCt w o) (oA o 5) = nI (mCt w o - 1) := by
  unfold mTo mTk
  rw [if_neg (by unfold oA enA; omega), upd_s]
theorem mTo_hi {w : Nat → Int32} {o i x : Nat} (hx : enA o i 0 ≤ x ∧ x < enA o (mCt w o - 1) 0) : mTo w o i (mCt w o) x = w (x + 5) := by
  unfold mTo mTk
  rw [if_pos hx, upd_n (by unfold oA enA at *; omega)]
theorem void_byL {w : Nat → Int32} (hw : mOk w) {ob en : Nat} (hob : ob < 20) (hen : en < mCt w ob) (u : Int32) {o r : Nat} (ho : o < 20) (hr : r < 4) : mByL (mVd w ob en) u o (nI r) = mByL (mTo w ob en (mCt w ob)) u o (nI r) := by
  have hc6 := hw.ct6 hob
  have hv := mOk_vd hw hob (show en < 6 by omega)
  have hx := mOk_to hw hob hen
  have v18 : ∀ x, x < 18 → mVd w ob en x = w x := fun x hx => mVd_n (by unfold enA; omega)
  have x18 : ∀ x, x < 18 → mTo w ob en (mCt w ob) x = w x := fun x hx => mTo_lo hen (by unfold oA; omega) (by unfold enA; omega)
  have vo : ∀ o2 k, k < 6 → mVd w ob en (oA o2 k) = w (oA o2 k) := fun o2 k hk => mVd_n (en_oA (by omega) hk)
  have xo : ∀ o2 k, k < 5 → mTo w ob en (mCt w ob) (oA o2 k) = w (oA o2 k) := fun o2 k hk => mTo_lo hen (oA_ne5 hk) (to_oA hc6 (by omega))
  have ctv : ∀ li, mCt (mVd w ob en) li = mCt w li := fun li => by unfold mCt; rw [vo li 5 (by decide)]
  have ctx : ∀ li, ¬ li = ob → mCt (mTo w ob en (mCt w ob)) li = mCt w li := fun li h => by
    have e := mTo_lo (x := oA li 5) hen (by unfold oA; omega) (to_oA hc6 (by decide))
    show (mTo w ob en (mCt w ob) (oA li 5)).toNatClampNeg = (w (oA li 5)).toNatClampNeg
    rw [e]
  have ctx2 : mCt (mTo w ob en (mCt w ob)) ob = mCt w ob - 1 := by
    show (mTo w ob en (mCt w ob) (oA ob 5)).toNatClampNeg = _
    rw [mTo_ct hen, nI_clamp (by omega)]
  obtain ⟨rk, hrk⟩ := hw.rk
  -- list by list
  have hA : ∀ li, li < 20 → pA (mVd w ob en) u o (nI r) li (mCt w li) 0 = pA (mTo w ob en (mCt w ob)) u o (nI r) li (mCt (mTo w ob en (mCt w ob)) li) 0 := by
    intro li hli
    by_cases hlo : li = ob
    · subst hlo
      rw [ctx2]
      refine void_pA hen u o (nI r) (fun i hi => ?_) ?_ (fun i h1 h2 => ?_)
      · have e1 : ∀ k, k < 5 → mVd w li en (enA li i k) = w (enA li i k) := fun k hk => mVd_n (by unfold enA; omega)
        have e2 : ∀ k, k < 5 → mTo w li en (mCt w li) (enA li i k) = w (enA li i k) := fun k hk => mTo_lo hen (by unfold oA enA; omega) (by unfold enA; omega)
        refine ⟨(mCo_congr v18 hw.gs8 u (vo o 2 (by decide)) _ e1 (hw.who hli (by omega))).trans (mCo_congr x18 hw.gs8 u (xo o 2 (by decide)) _ e2 (hw.who hli (by omega))).symm, ?_⟩
        rw [e1 3 (by decide), e2 3 (by decide)]
      · unfold mCo
        rw [(mVd_e w li en).2.2.1]
        have h9 : mHas 0 (nI r) = false := by
          rw [mHas_bt _ (by omega), b_0]
        rw [h9, Bool.false_and, Bool.and_false]
      · have e1 : ∀ k, k < 5 → mVd w li en (enA li (i + 1) k) = w (enA li (i + 1) k) := fun k hk => mVd_n (by unfold enA; omega)
        have e2 : ∀ k, k < 5 → mTo w li en (mCt w li) (enA li i k) = w (enA li (i + 1) k) := fun k hk => by
          rw [mTo_hi (by unfold enA; omega)]
          refine congrArg w ?_
          unfold enA; omega
        refine ⟨(mCo_congr v18 hw.gs8 u (vo o 2 (by decide)) _ e1 (hw.who hli (by omega))).trans (mCo_congr x18 hw.gs8 u (xo o 2 (by decide)) _ e2 (hw.who hli (by omega))).symm, ?_⟩
        rw [e1 3 (by decide), e2 3 (by decide)]
    · rw [ctx li hlo]
      have hl6 := hw.ct6 hli
      have g : ∀ n i, n + i ≤ mCt w li → pA (mVd w ob en) u o (nI r) li n i = pA (mTo w ob en (mCt w ob)) u o (nI r) li n i := by
        intro n
        induction n with
        | zero => intro i _; rfl
        | succ n ih =>
          intro i h1
          have e1 : ∀ k, k < 5 → mVd w ob en (enA li i k) = w (enA li i k) := fun k hk => mVd_n (en_en (by omega) (by omega) hk (fun z => hlo z.1))
          have e2 : ∀ k, k < 5 → mTo w ob en (mCt w ob) (enA li i k) = w (enA li i k) := fun k hk => mTo_lo hen (enA_ne5 (by omega) hk) (to_en hc6 (by omega) hk hlo)
          rw [pA, pA, mCo_congr v18 hw.gs8 u (vo o 2 (by decide)) _ e1 (hw.who hli (by omega)), mCo_congr x18 hw.gs8 u (xo o 2 (by decide)) _ e2 (hw.who hli (by omega)), e1 3 (by decide), e2 3 (by decide), ih (i + 1) (by omega)]
      exact g _ 0 (by omega)
  have hB : ∀ (n : Nat) (x : Int32), (x = -1 ∨ ∃ j, j < 20 ∧ x = nI j) → pB (mVd w ob en) u o (nI r) n x = pB (mTo w ob en (mCt w ob)) u o (nI r) n x := by
    intro n
    induction n with
    | zero => intro x _; rfl
    | succ n ih =>
      intro x hx2
      rcases hx2 with rfl | ⟨j, hj, rfl⟩
      · rw [pB, pB, if_pos (by decide), if_pos (by decide)]
      · rw [pB, pB, if_neg (nI_pos (by omega)), if_neg (nI_pos (by omega)), nI_clamp (by omega), ctv, hA j hj, vo j 4 (by decide), vo j 1 (by decide), xo j 4 (by decide), xo j 1 (by decide)]
        cases pA (mTo w ob en (mCt w ob)) u o (nI r) j (mCt (mTo w ob en (mCt w ob)) j) 0 with
        | some b => rfl
        | none =>
          (try dsimp only)
          by_cases h4 : w (oA j 4) = 1
          · rw [if_pos h4]
            rcases (hrk j hj).2 with h5 | ⟨j2, h5, h7, _⟩
            · exact ih _ (Or.inl h5)
            · exact ih _ (Or.inr ⟨j2, h5, h7⟩)
          · rw [if_neg h4]
            exact ih _ (Or.inl rfl)
  rw [mByL_pB hv u ho, mByL_pB hx u ho]
  exact hB 20 _ (Or.inr ⟨o, ho, rfl⟩)
theorem void_nt {w : Nat → Int32} (hw : mOk w) {ob en : Nat} (hob : ob < 20) (hen : en < mCt w ob) (k : Nat) : mNt (mVd w ob en) k = mNt (mTo w ob en (mCt w ob)) k := by
  have hc6 := hw.ct6 hob
  have vo : ∀ o2 k, k < 6 → mVd w ob en (oA o2 k) = w (oA o2 k) := fun o2 k hk => mVd_n (en_oA (by omega) hk)
  have xo : ∀ o2 k, k < 5 → mTo w ob en (mCt w ob) (oA o2 k) = w (oA o2 k) := fun o2 k hk => mTo_lo hen (oA_ne5 hk) (to_oA hc6 (by omega))
  have e0 : mVd w ob en 0 = mTo w ob en (mCt w ob) 0 := by
    rw [mVd_n (by unfold enA; omega), mTo_lo hen (by unfold oA; omega) (by unfold enA; omega)]
  have eh : mHold (mVd w ob en) (nI (k % 20)) = mHold (mTo w ob en (mCt w ob)) (nI (k % 20)) := by
    unfold mHold
    rw [vo _ 0 (by decide), xo _ 0 (by decide)]
  unfold mNt
  rw [e0, eh]
  have hm : k % 20 < 20 := Nat.mod_lt _ (by decide)
  by_cases hc : nI (k / 20) < mTo w ob en (mCt w ob) 0 ∧ mHold (mTo w ob en (mCt w ob)) (nI (k % 20)) = true
  · rw [if_pos hc, if_pos hc]
    exact mRg_by (by rw [vo _ 2 (by decide), xo _ 2 (by decide)]) (by rw [vo _ 3 (by decide), xo _ 3 (by decide)]) fun r hr => void_byL hw hob hen _ hm hr
  · rw [if_neg hc, if_neg hc]
/-- beyond the objects of the law nobody has a right -/
theorem mNt_no {w : Nat → Int32} {u k : Nat} (hk : k < 20) (h : mHold w (nI k) = false) : mNt w (20 * u + k) = 0 := by
  unfold mNt
  rw [show (20 * u + k) % 20 = k by omega, h, if_neg (fun z => absurd z.2 (by decide))]
theorem mNt_nu {w : Nat → Int32} (hw : mOk w) {u k : Nat} (hu : mUs w ≤ u) (hu2 : u < 2 ^ 20) (hk : k < 20) : mNt w (20 * u + k) = 0 := by
  unfold mNt
  rw [show (20 * u + k) / 20 = u by omega, if_neg (fun z => ?_)]
  have h1 := z.1
  rw [hw.us] at h1
  exact nI_nlt hu (by omega) h1
