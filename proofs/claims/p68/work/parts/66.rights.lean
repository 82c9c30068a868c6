/-! rights, counts -/
theorem loop_g {f : Nat → Nat → Int32 → Int32} {g : Nat → Int32 → Int32} {b : Nat → Nat} (h0 : ∀ j t, f 0 j t = t) (h1 : ∀ n j t, f (n + 1) j t = f n (j + 1) (g j t)) : ∀ (n j : Nat) (t : Int32), (∀ i, j ≤ i → i < j + n → ∀ t, g i t = t + nI (b i)) → f n j t = t + nI (sF b n j) := by
  intro n
  induction n with
  | zero => intro j t h; rw [h0]; exact (Int32.add_zero t).symm
  | succ n ih =>
    intro j t h
    rw [h1, ih (j + 1) _ (fun i h2 h3 => h i (by omega) (by omega)), h j (Nat.le_refl _) (by omega), sF, ← nI_add, Int32.add_assoc]
theorem foldI_c {f : Nat → Int32 → Int32} {b : Nat → Nat} (n j : Nat) (t : Int32) (h : ∀ i, j ≤ i → i < j + n → ∀ t, f i t = t + nI (b i)) : foldI f n j t = t + nI (sF b n j) :=
  loop_g (f := foldI f) (fun _ _ => rfl) (fun _ _ _ => rfl) n j t h
theorem sF_mul (b : Nat → Nat) (n : Nat) : ∀ m : Nat, sF b (m * n) 0 = sF (fun u => sF (fun o => b (u * n + o)) n 0) m 0 := by
  intro m
  induction m with
  | zero => rw [Nat.zero_mul]; rfl
  | succ m ih =>
    rw [Nat.succ_mul, sF_add, ih, sF_last, Nat.zero_add, Nat.zero_add]
    congr 1
    have := sF_shift b (m * n) n 0
    rw [Nat.zero_add] at this
    rw [this]
    exact sF_congr n 0 fun i _ _ => by (try dsimp only); rw [Nat.add_comm]
theorem rAcc_bt (f : Nat → Bool) : ∀ (n j : Nat) (s : Int32), j + n ≤ 32 → ∀ k, bt (rAcc f n j s) k = (bt s k || (decide (j ≤ k ∧ k < j + n) && f k)) := by
  intro n
  induction n with
  | zero =>
    intro j s _ k
    rw [rAcc, decide_eq_false (by omega), Bool.false_and, Bool.or_false]
  | succ n ih =>
    intro j s hj k
    rw [rAcc, ih (j + 1) _ (by omega)]
    by_cases hk : k = j
    · subst hk
      rw [decide_eq_false (show ¬ (k + 1 ≤ k ∧ k < k + 1 + n) by omega), decide_eq_true (show k ≤ k ∧ k < k + (n + 1) by omega), Bool.false_and, Bool.or_false, Bool.true_and]
      by_cases hf : f k = true
      · rw [if_pos hf, b_or, b_p k (by omega) (by omega), decide_eq_true rfl, hf]
      · rw [if_neg hf, Bool.eq_false_iff.mpr hf, Bool.or_false]
    · have e : bt (if f j = true then s ||| ((1 : Int32) <<< (nI j &&& 31)) else s) k = bt s k := by
        by_cases hf : f j = true
        · rw [if_pos hf, b_or]
          rcases Nat.lt_or_ge k 32 with z | z
          · rw [b_p j (by omega) z, decide_eq_false hk, Bool.or_false]
          · rw [b_big z, b_big z]; rfl
        · rw [if_neg hf]
      rw [e]
      congr 2
      rw [decide_eq_decide]
      omega
theorem mRi_rAcc (f : Nat → Bool) : ∀ (n j : Nat) (s : Int32), mRi f n j s = rAcc f n j s := by
  intro n
  induction n with
  | zero => intro j s; rfl
  | succ n ih =>
    intro j s
    rw [mRi, rAcc, ih]
    by_cases hf : f j = true
    · rw [if_pos hf, if_pos hf]
    · rw [if_neg hf, if_neg hf, Int32.or_zero]
theorem rAcc_congr {f g : Nat → Bool} : ∀ (n j : Nat) (s : Int32), (∀ i, j ≤ i → i < j + n → f i = g i) → rAcc f n j s = rAcc g n j s := by
  intro n
  induction n with
  | zero => intro j s _; rfl
  | succ n ih =>
    intro j s h
    rw [rAcc, rAcc, h j (Nat.le_refl _) (by omega), ih (j + 1) _ (fun i h1 h2 => h i (by omega) (by omega))]
theorem rAcc_lt (f : Nat → Bool) : bLt (rAcc f 4 0 0) 4 := by
  intro i hi
  rw [rAcc_bt f 4 0 0 (by decide), b_0, decide_eq_false (by omega)]
  rfl
theorem mRg_lt (w : Nat → Int32) (u : Int32) (o : Nat) : bLt (mRg w u o) 4 := by
  rw [mRg, mRi_rAcc]
  exact rAcc_lt _
theorem mRg_bt (w : Nat → Int32) (u : Int32) (o : Nat) {r : Nat} (hr : r < 4) : bt (mRg w u o) r = mAl w u o (nI r) := by
  rw [mRg, mRi_rAcc, rAcc_bt _ 4 0 0 (by decide), b_0, decide_eq_true (by omega), Bool.false_or, Bool.true_and]
section RGT
variable {G : GS} {w : Nat → Int32} {t : Nat}
theorem Rel.gN_ (h : Rel (G.1 0) (G.2.1 0) w t) : gN G = mGs w := by
  unfold gN
  rw [h.gs, nI_clamp (by have := h.ok.gs8; omega)]
theorem Rel.gOk_ (h : Rel (G.1 0) (G.2.1 0) w t) : gOk G := by
  unfold gOk
  rw [h.gN_]
  exact ⟨h.gs, h.ok.gs8⟩
theorem Rel.dGs_ (h : Rel (G.1 0) (G.2.1 0) w t) {u : Nat} (hu : u < 12) : dGs G (nI u) = cUp (G.2.1 0 3) (mGs w) (G.2.1 0 2 u) := by
  unfold dGs
  rw [if_pos (jIdx12 hu), h.gN_, nI_clamp (by omega)]
theorem Rel.dOwn_ (h : Rel (G.1 0) (G.2.1 0) w t) {o : Nat} (ho : o < 20) (h1 : w (oA o 0) = 1) (u : Int32) : dOwn G u (nI o) = decide (w (oA o 2) = u) := by
  unfold dOwn
  rw [h.tAt6 ho h1]
theorem b_15 : ∀ r, r < 4 → bt 15 r = true := by decide +kernel
theorem Rel.res (h : Rel (G.1 0) (G.2.1 0) w t) {u o r : Nat} (hu : u < 12) (ho : o < 20) (h1 : w (oA o 0) = 1) (hr : r < 4) : (dRes G (nI u) (nI o)).1 r = mDec w (nI u) o (nI r) ∧ (dRes G (nI u) (nI o)).2 r = cdOf (G.2.1 0) (mDec w (nI u) o (nI r)) := by
  obtain ⟨rk, hrk⟩ := h.ok.rk
  exact h.lev hrk hr hu ho (h.dGs_ hu) (h.dOwn_ ho h1 _) 20 0 (nI o) ((fun _ => -1, fun _ => 0), 15) rfl (Or.inr ⟨o, ho, h1, rfl, Or.inl ⟨rfl, rfl⟩⟩) ⟨b_15 r hr, rfl, rfl⟩
theorem eAllows_0 : eAllows 0 = false := by decide
/-- the deciding entry, where there is one -/
theorem Rel.dec (h : Rel (G.1 0) (G.2.1 0) w t) (u : Int32) {o : Nat} (ho : o < 20) (r : Int32) : (mDec w u o r = -1 ∧ cdOf (G.2.1 0) (mDec w u o r) = 0) ∨ ∃ li i, li < 20 ∧ i < 6 ∧ i < mCt w li ∧ mDec w u o r = nI (6 * li + i) ∧ cdOf (G.2.1 0) (mDec w u o r) = eC w li i ∧ eOk w li i := by
  rcases mDec_rng h.ok u ho r with h1 | ⟨li, i, h2, h3, h4, h5⟩
  · exact Or.inl ⟨h1, by rw [h1]; rfl⟩
  · refine Or.inr ⟨li, i, h2, h3, h4, h5, ?_, h.eo h2 h4⟩
    rw [h5, cdOf, if_neg (nI_pos (by omega)), nI_clamp (by omega), ← h.en h2 h4, Nat.mul_comm]
theorem Rel.byL (h : Rel (G.1 0) (G.2.1 0) w t) (u : Int32) {o : Nat} (ho : o < 20) (r : Int32) : eAllows (cdOf (G.2.1 0) (mDec w u o r)) = mByL w u o r := by
  unfold mByL
  rcases h.dec u ho r with ⟨h1, h2⟩ | ⟨li, i, h1, h2, h3, h4, h5, h6⟩
  · rw [h2, h1, if_pos (by decide)]; rfl
  · rw [h5, h4, if_neg (nI_pos (by omega)), nI_clamp (by omega), (eC_d h6).2.1, show (6 * li + i) / 6 = li by omega, show (6 * li + i) % 6 = i by omega]
theorem Rel.sGr_ (h : Rel (G.1 0) (G.2.1 0) w t) (u : Int32) {o r : Nat} (ho : o < 20) (h1 : w (oA o 0) = 1) (hr : r < 4) {d : Int32} (hd : eAllows d = mByL w u o (nI r)) : sGr (G.1 0 4 0) (G.2.1 0 6) (G.2.1 0 7) u (nI o) (nI r) d = mAl w u o (nI r) := by
  unfold sGr mAl
  rw [h.tAt6 ho h1, h.tAt7 ho h1, hd, jHas_bt _ (by omega), mHas_bt _ (by omega), Bool.and_comm (mByL w u o (nI r))]
theorem Rel.dSet_ (h : Rel (G.1 0) (G.2.1 0) w t) {u o : Nat} (hu : u < 12) (ho : o < 20) (h1 : w (oA o 0) = 1) : dSet G (nI u) (nI o) = mRg w (nI u) o := by
  unfold dSet
  rw [mRg, mRi_rAcc]
  refine rAcc_congr 4 0 0 fun r _ hr => ?_
  rw [(h.res hu ho h1 (by omega)).2]
  exact h.sGr_ _ ho h1 (by omega) (h.byL _ ho _)
theorem Rel.dOk_ (h : Rel (G.1 0) (G.2.1 0) w t) {u o : Nat} (hu : u < mUs w) (ho : o < 20) (h1 : w (oA o 0) = 1) : dOk G (nI u) (nI o) = true := by
  unfold dOk
  have := h.ok.us12
  rw [h.us, jIdx_n hu (by omega), h.holdn ho, decide_eq_true h1]
  rfl
theorem Rel.rAt_ (h : Rel (G.1 0) (G.2.1 0) w t) {u o : Nat} (hu : u < mUs w) (ho : o < 20) (h1 : w (oA o 0) = 1) : rAt G (nI u) (nI o) = mRg w (nI u) o := by
  have := h.ok.us12
  unfold rAt
  rw [if_pos (h.dOk_ hu ho h1), h.dSet_ (by omega) ho h1]
theorem Rel.rAtN (h : Rel (G.1 0) (G.2.1 0) w t) {k : Nat} (hk : k < 240) : rAt G (nI (k / 20)) (nI (k % 20)) = mNt w k := by
  have h12 := h.ok.us12
  unfold mNt
  rw [h.hold, h.holdn (by omega), h.ok.us]
  by_cases hc : nI (k / 20) < nI (mUs w) ∧ decide (w (oA (k % 20) 0) = 1) = true
  · rw [if_pos hc]
    exact h.rAt_ ((nI_ltI (by omega) (by omega)).mp hc.1) (by omega) (of_decide_eq_true hc.2)
  · rw [if_neg hc]
    unfold rAt
    rw [if_neg]
    unfold dOk
    rw [h.us, Bool.and_eq_true, h.holdn (by omega)]
    rintro ⟨h2, h3⟩
    refine hc ⟨?_, h3⟩
    unfold jIdx at h2
    exact of_decide_eq_true (Bool.and_eq_true_iff.mp h2).2
theorem mNt_lt (w : Nat → Int32) (k : Nat) : bLt (mNt w k) 4 := by
  unfold mNt
  by_cases hc : nI (k / 20) < w 0 ∧ mHold w (nI (k % 20)) = true
  · rw [if_pos hc]; exact mRg_lt _ _ _
  · rw [if_neg hc]; intro i _; exact b_0 i
theorem Rel.rAtB (h : Rel (G.1 0) (G.2.1 0) w t) {u o : Nat} (hu : u < 12) (ho : o < 20) : rAt G (nI u) (nI o) = mNt w (u * 20 + o) := by
  rw [← h.rAtN (k := u * 20 + o) (by omega), show (u * 20 + o) / 20 = u by omega, show (u * 20 + o) % 20 = o by omega]
theorem jBc_4 {x : Int32} (h : bLt x 4) : jBc x = nI (cF (bt x) 4 0) := by
  rw [jBc_bt (bLt_mono h (by decide)), show (20 : Nat) = 4 + 16 from rfl, cF_add, cF_zero (n := 16) (fun i h1 _ => h i (by omega)), Nat.add_zero]
theorem Rel.everything (h : Rel (G.1 0) (G.2.1 0) w t) : foldI (caO G) 12 0 0 = mEv w (mUs w) 0 0 := by
  have h12 := h.ok.us12
  have e1 : foldI (caO G) 12 0 0 = 0 + nI (sF (fun u => sF (fun o => cF (bt (mNt w (u * 20 + o))) 20 0) 20 0) 12 0) := foldI_c 12 0 0 fun u _ hu t => by
    unfold caO
    refine foldI_c 20 0 t fun o _ ho t => ?_
    unfold caF
    rw [h.rAtB (by omega) (by omega), jBc_bt (bLt_mono (mNt_lt w _) (by decide))]
  have e2 : mEv w (mUs w) 0 0 = 0 + nI (sF (fun u => sF (fun o => cF (bt (mNt w (u * 20 + o))) 20 0) 20 0) (mUs w) 0) := by
    refine loop_g (f := mEv w) (fun _ _ => rfl) (fun _ _ _ => rfl) (mUs w) 0 0 fun u _ hu t => ?_
    refine loop_g (f := mEvO w (nI u)) (g := fun j t => t + (if mHold w (nI j) = true then mSz (mRg w (nI u) j) 20 0 0 else 0)) (fun _ _ => rfl) (fun _ _ _ => rfl) 20 0 t fun o _ ho t => ?_
    try dsimp only
    refine congrArg (fun z => t + z) ?_
    unfold mNt
    rw [show (u * 20 + o) / 20 = u by omega, show (u * 20 + o) % 20 = o by omega]
    by_cases hc : mHold w (nI o) = true
    · rw [if_pos hc, if_pos ⟨by rw [h.ok.us]; exact nI_lt (by omega) (by omega), hc⟩, mSz_c]
    · rw [if_neg hc, if_neg (fun z => hc z.2), show bt (0 : Int32) = fun _ => false from funext b_0, cF_zero (fun _ _ _ => rfl)]
      rfl
  rw [e1, e2]
  refine congrArg (fun z => 0 + nI z) ?_
  rw [show (12 : Nat) = mUs w + (12 - mUs w) by omega, sF_add, Nat.add_eq_left]
  refine sF_zero _ _ fun u h1 h2 => ?_
  try dsimp only
  refine sF_zero _ _ fun o h3 h4 => ?_
  try dsimp only
  unfold mNt
  rw [show (u * 20 + o) / 20 = u by omega, if_neg (fun z => absurd z.1 (by rw [h.ok.us]; exact nI_nlt (by omega) (by omega))), show bt (0 : Int32) = fun _ => false from funext b_0, cF_zero (fun _ _ _ => rfl)]
theorem mUlR_c {x y : Int32} (hx : bLt x 4) (hy : bLt y 4) (t : Int32) : mUlR x y 4 0 t = t + jBc (y ^^^ x) := by
  have hxy : bLt (y ^^^ x) 4 := fun i hi => by rw [b_xor, hx i hi, hy i hi]; rfl
  rw [jBc_4 hxy]
  refine loop_c (f := mUlR x y) (a := fun j => if mHas x (nI j) = mHas y (nI j) then 0 else 1) (fun _ _ => rfl) (fun _ _ _ => rfl) 4 0 t fun i _ hi => ?_
  try dsimp only
  rw [mHas_bt _ (by omega), mHas_bt _ (by omega), b_xor]
  cases bt x i <;> cases bt y i <;> rfl
/-- the differences between a table and what is allowed -/
theorem Rel.unlike (h : Rel (G.1 0) (G.2.1 0) w t) {tb was : Nat → Int32} (he : ∀ k, k < 240 → tb k = was k) (hl : ∀ k, k < 240 → bLt (was k) 4) : foldI (cdO G tb) 12 0 0 = mUl w was 240 0 0 := by
  have hx : ∀ k, k < 240 → bLt (was k ^^^ mNt w k) 4 := fun k hk i hi => by rw [b_xor, hl k hk i hi, mNt_lt w k i hi]; rfl
  have e1 : foldI (cdO G tb) 12 0 0 = 0 + nI (sF (fun u => sF (fun o => cF (bt (was (u * 20 + o) ^^^ mNt w (u * 20 + o))) 4 0) 20 0) 12 0) := foldI_c 12 0 0 fun u _ hu t => by
    unfold cdO
    refine foldI_c 20 0 t fun o _ ho t => ?_
    unfold cdF
    rw [h.rAtB (by omega) (by omega), he _ (by omega), jBc_4 (hx _ (by omega))]
  have e2 : mUl w was 240 0 0 = 0 + nI (sF (fun k => cF (bt (was k ^^^ mNt w k)) 4 0) 240 0) := by
    refine loop_g (f := mUl w was) (g := fun k t => mUlR (mNt w k) (was k) 4 0 t) (fun _ _ => rfl) (fun _ _ _ => rfl) 240 0 0 fun k _ hk t => ?_
    try dsimp only
    rw [mUlR_c (mNt_lt w k) (hl k (by omega)), jBc_4 (hx k (by omega))]
  rw [e1, e2, show (240 : Nat) = 12 * 20 from rfl, sF_mul]
theorem Rel.usersWith (h : Rel (G.1 0) (G.2.1 0) w t) {o r : Nat} (ho : o < 20) (h1 : w (oA o 0) = 1) (hr : r < 4) : cuAt G (nI o) (nI r) = mCuL w o (nI r) (mUs w) 0 0 := by
  have h12 := h.ok.us12
  have L : ∀ (n m j : Nat) (t : Int32), n + j = 12 → m + j = mUs w → cuL (fun j => jHas (rAt G (nI j) (nI o)) (nI r)) (nI (mUs w)) n j t = mCuL w o (nI r) m j t := by
    intro n
    induction n with
    | zero => intro m j t h2 h3; rw [show m = 0 by omega]; rfl
    | succ n ih =>
      intro m j t h2 h3
      rw [cuL]
      cases m with
      | zero => rw [if_neg (nI_nlt (by omega) (by omega))]; rfl
      | succ m =>
        rw [if_pos (nI_lt (by omega) (by omega)), mCuL, ih m (j + 1) _ (by omega) (by omega), h.rAt_ (by omega) ho h1, jHas_bt _ (by omega), mRg_bt _ _ _ hr]
        congr 1
        by_cases hc : mAl w (nI j) o (nI r) = true
        · rw [if_pos hc, if_pos hc]
        · rw [if_neg hc, if_neg hc, Int32.add_zero]
  unfold cuAt
  rw [h.us]
  exact L 12 (mUs w) 0 0 rfl rfl
theorem Rel.through (h : Rel (G.1 0) (G.2.1 0) w t) {u : Nat} (hu : u < mUs w) (g : Int32) : foldI (ctF G (nI u) g) 20 0 0 = mTr w (nI u) g 80 0 0 := by
  have h12 := h.ok.us12
  have e1 : foldI (ctF G (nI u) g) 20 0 0 = 0 + nI (sF (fun o => cF (fun r => mHold w (nI o) && mTh w (nI u) o (nI r) g) 4 0) 20 0) := foldI_c 20 0 0 fun o _ ho t => by
    unfold ctF
    rw [show (cF (fun r => mHold w (nI o) && mTh w (nI u) o (nI r) g) 4 0) = cF (fun r => mHold w (nI o) && mTh w (nI u) o (nI r) g) 4 0 from rfl]
    by_cases h1 : w (oA o 0) = 1
    · have hr := h.rAt_ hu (o := o) (by omega) h1
      rw [hr]
      have hand : bLt (mRg w (nI u) o &&& dFor (dRes G (nI u) (nI o)).2 g) 4 := fun i hi => by rw [b_and, mRg_lt w (nI u) o i hi]; rfl
      have hbit : ∀ r, 0 ≤ r → r < 0 + 4 → (mHold w (nI o) && mTh w (nI u) o (nI r) g) = bt (mRg w (nI u) o &&& dFor (dRes G (nI u) (nI o)).2 g) r := by
        intro r _ hr4
        rw [h.hold, h.holdn (by omega), decide_eq_true h1, Bool.true_and, b_and, mRg_bt _ _ _ (by omega), dFor, rAcc_bt _ 4 0 0 (by decide), b_0, decide_eq_true (by omega), Bool.false_or, Bool.true_and, (h.res (by omega) (by omega) h1 (by omega)).2, mTh]
        congr 1
        unfold dForP
        rcases h.dec (nI u) (o := o) (by omega) (nI r) with ⟨h2, h3⟩ | ⟨li, i, h2, h3, h4, h5, h6, h7⟩
        · rw [h3, h2]; rfl
        · rw [h6, h5, nI_clamp (by omega), show (6 * li + i) / 6 = li by omega, show (6 * li + i) % 6 = i by omega, (eC_d h7).2.1, (eC_d h7).2.2.2.1, (eC_d h7).2.2.2.2, decide_eq_false (nI_pos (by omega)), Bool.not_false, Bool.true_and]
      rw [cF_congr hbit, jBc_4 hand]
      by_cases hz : mRg w (nI u) o = 0
      · rw [if_pos hz, hz, cF_zero (fun i _ _ => by rw [b_and, b_0]; rfl)]
        exact (Int32.add_zero t).symm
      · rw [if_neg hz]
    · have hz : rAt G (nI u) (nI o) = 0 := by
        unfold rAt
        rw [if_neg]
        unfold dOk
        rw [h.holdn (by omega), decide_eq_false h1, Bool.and_false]
        decide
      rw [if_pos hz, cF_zero (fun r _ _ => by rw [h.hold, h.holdn (by omega), decide_eq_false h1]; rfl)]
      exact (Int32.add_zero t).symm
  have e2 : mTr w (nI u) g 80 0 0 = 0 + nI (sF (fun k => (mHold w (nI (k / 4)) && mTh w (nI u) (k / 4) (nI (k % 4)) g).toNat) 80 0) :=
    loop_c (f := mTr w (nI u) g) (a := fun j => if (mHold w (nI (j / 4)) && mTh w (nI u) (j / 4) (nI (j % 4)) g) = true then 1 else 0) (fun _ _ => rfl) (fun _ _ _ => rfl) 80 0 0 (fun i _ _ => (nI_bN _).symm)
  rw [e1, e2, show (80 : Nat) = 20 * 4 from rfl, sF_mul]
  refine congrArg (fun z => 0 + nI z) ?_
  refine sF_congr 20 0 fun o _ _ => ?_
  try dsimp only
  unfold cF
  refine sF_congr 4 0 fun r _ hr => ?_
  try dsimp only
  rw [show (o * 4 + r) / 4 = o by omega, show (o * 4 + r) % 4 = r by omega]
end RGT
