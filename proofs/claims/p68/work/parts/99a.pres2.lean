/-! what the law writes into a list keeps it beside the model's -/
def tkE (e : Nat → Int32) (a b : Nat) : Nat → Int32 := fun k => if a ≤ k ∧ k < b then e (k + 1) else e k
theorem tkE_0 (e : Nat → Int32) (a : Nat) : tkE e a a = e := by
  funext k
  unfold tkE
  rw [if_neg (by omega)]
theorem tkE_step (e : Nat → Int32) {a b : Nat} (h : a ≤ b) : upd (tkE e a b) b (tkE e a b (b + 1)) = tkE e a (b + 1) := by
  funext k
  unfold tkE
  by_cases h1 : k = b
  · subst h1
    rw [upd_s, if_neg (by omega), if_pos (by omega)]
  · rw [upd_n h1]
    by_cases h2 : a ≤ k ∧ k < b
    · rw [if_pos h2, if_pos (by omega)]
    · rw [if_neg h2, if_neg (by omega)]
def opE (e : Nat → Int32) (b t : Nat) : Nat → Int32 := fun k => if b < k ∧ k ≤ t then e (k - 1) else e k
theorem opE_0 (e : Nat → Int32) (t : Nat) : opE e t t = e := by
  funext k
  unfold opE
  rw [if_neg (by omega)]
theorem opE_step (e : Nat → Int32) {b t : Nat} (h : b + 1 ≤ t) : upd (opE e (b + 1) t) (b + 1) (opE e (b + 1) t b) = opE e b t := by
  funext k
  unfold opE
  by_cases h1 : k = b + 1
  · subst h1
    rw [upd_s, if_neg (by omega), if_pos (by omega)]; rfl
  · rw [upd_n h1]
    by_cases h2 : b + 1 < k ∧ k ≤ t
    · rw [if_pos h2, if_pos (by omega)]
    · rw [if_neg h2, if_neg (by omega)]
/-- where the entry k was before one went from i to pl -/
def sgm (i pl k : Nat) : Nat := if k = pl then i else if k < pl then (if k < i then k else k + 1) else (if k - 1 < i then k - 1 else k)
def mvRw (e : Nat → Int32) (o i pl : Nat) : Nat → Int32 := if i ≤ pl then upd (tkE e (6 * o + i) (6 * o + pl)) (6 * o + pl) (e (6 * o + i)) else upd (opE e (6 * o + pl) (6 * o + i)) (6 * o + pl) (e (6 * o + i))
theorem mvRw_at (e : Nat → Int32) (o i pl k : Nat) : mvRw e o i pl (6 * o + k) = e (6 * o + sgm i pl k) := by
  unfold mvRw sgm
  by_cases h1 : i ≤ pl
  · rw [if_pos h1]
    by_cases h2 : k = pl
    · subst h2; rw [upd_s, if_pos rfl]
    · rw [upd_n (by omega), if_neg h2]
      unfold tkE
      by_cases h3 : k < pl
      · rw [if_pos h3]
        by_cases h4 : k < i
        · rw [if_pos h4, if_neg (by omega)]
        · rw [if_neg h4, if_pos (by omega), show 6 * o + k + 1 = 6 * o + (k + 1) by omega]
      · rw [if_neg h3, if_neg (show ¬ k - 1 < i by omega), if_neg (by omega)]
  · rw [if_neg h1]
    by_cases h2 : k = pl
    · subst h2; rw [upd_s, if_pos rfl]
    · rw [upd_n (by omega), if_neg h2]
      unfold opE
      by_cases h3 : k < pl
      · rw [if_pos h3, if_pos (show k < i by omega), if_neg (by omega)]
      · rw [if_neg h3]
        by_cases h4 : k - 1 < i
        · rw [if_pos h4, if_pos (by omega), show 6 * o + k - 1 = 6 * o + (k - 1) by omega]
        · rw [if_neg h4, if_neg (by omega)]
theorem mvRw_o (e : Nat → Int32) {o i pl x : Nat} (hi : i < 6) (hp : pl < 6) (hx : ¬ (6 * o ≤ x ∧ x < 6 * o + 6)) : mvRw e o i pl x = e x := by
  unfold mvRw
  by_cases h1 : i ≤ pl
  · rw [if_pos h1, upd_n (by omega), tkE, if_neg (by omega)]
  · rw [if_neg h1, upd_n (by omega), opE, if_neg (by omega)]
theorem mOpn_hi (w : Nat → Int32) {o i c x : Nat} (h1 : ¬ x = oA o 5) (h2 : enA o i 4 < x ∧ x ≤ enA o c 4) : mOpn w o i c x = w (x - 5) := by
  rw [mOpn, upd_n h1, mOpK, if_pos h2]
theorem mMv_at {w : Nat → Int32} {o i pl k q : Nat} (hc : mCt w o ≤ 6) (hi : i < mCt w o) (hp : pl < mCt w o) (hk : k < mCt w o) (hq : q < 5) : mMv w w o i pl (enA o k q) = w (enA o (sgm i pl k) q) := by
  obtain ⟨m1, m2⟩ := mMv_eq (w := w) (old := w) (o := o) (i := i) (t := pl) hc
  unfold sgm
  by_cases h1 : k = pl
  · subst h1; rw [if_pos rfl]; exact m2 q hq
  · rw [if_neg h1, m1 _ (by unfold enA; omega), mCt_to hc]
    by_cases h2 : k < pl
    · rw [if_pos h2, mOpn_at _ _ _ _ _ (by unfold enA oA; omega) (by unfold enA; omega)]
      by_cases h3 : k < i
      · rw [if_pos h3, mTo_lo hi (by unfold enA oA; omega) (by unfold enA; omega)]
      · rw [if_neg h3, mTo_hi (by unfold enA; omega)]
        refine congrArg w ?_
        unfold enA; omega
    · rw [if_neg h2, mOpn_hi _ (by unfold enA oA; omega) (by unfold enA; omega)]
      by_cases h3 : k - 1 < i
      · rw [if_pos h3, mTo_lo hi (by unfold enA oA; omega) (by unfold enA; omega)]
        refine congrArg w ?_
        unfold enA; omega
      · rw [if_neg h3, mTo_hi (by unfold enA; omega)]
        refine congrArg w ?_
        unfold enA; omega
theorem mMv_o {w : Nat → Int32} {o i pl x : Nat} (hc : mCt w o ≤ 6) (hi : i < mCt w o) (hp : pl < mCt w o) (h5 : ¬ x = oA o 5) (hx : ¬ (enA o 0 0 ≤ x ∧ x < enA o 6 0)) : mMv w w o i pl x = w x := by
  obtain ⟨m1, m2⟩ := mMv_eq (w := w) (old := w) (o := o) (i := i) (t := pl) hc
  rw [m1 _ (by unfold enA at *; omega), mOpn_at _ _ _ _ _ h5 (by rw [mCt_to hc]; unfold enA at *; omega), mTo_lo hi h5 (by unfold enA at *; omega)]
theorem mMv_5 {w : Nat → Int32} {o i pl : Nat} (hc : mCt w o ≤ 6) (hi : i < mCt w o) : mMv w w o i pl (oA o 5) = nI (mCt w o) := by
  obtain ⟨m1, m2⟩ := mMv_eq (w := w) (old := w) (o := o) (i := i) (t := pl) hc
  rw [m1 _ (by unfold enA oA; omega), mOpn, upd_s, mCt_to hc, show mCt w o - 1 + 1 = mCt w o by omega]
section PRES2
variable {w m p e l t : Nat → Int32}
theorem LRq.add (h : LRq w m p e l t) (hc : ∀ k, k < 10 → mCt w k ≤ 6) {o n kd who r : Nat} {kI wI : Int32} {a b : Bool} (ho : o < 10) (h1 : w (oA o 0) = 1) (hn : mCt w o = n) (hn6 : n < 6) (hk : kI = nI kd) (hw : wI = nI who) (hb : kd < 4 ∧ who < 12 ∧ r < 16) : LRq (mWrt (upd w (oA o 5) (nI (n + 1))) o n kI wI (nI r) a b) m (upd p (40 + o) (nI (n + 1))) (upd e (6 * o + n) (nI (lCode kd who r a b))) l t := by
  refine h.list hc ho h1 (fun x h5 hx => ?_) ?_ (by omega) (fun x hx => upd_n (by omega)) (fun i hi => ?_)
  · rw [mWrt_o _ _ _ _ _ _ (by unfold enA at *; omega), upd_n h5]
  · rw [mWrt_o _ _ _ _ _ _ (by unfold enA oA; omega), upd_s]
  · by_cases hin : i = n
    · subst hin
      obtain ⟨m0, m1, m2, m3, m4⟩ := mWrt_0 (upd w (oA o 5) (nI (i + 1))) o i kI wI (nI r) a b
      rw [upd_s]
      exact ⟨kd, who, r, a, b, hb, rfl, ⟨m0.trans hk, m1.trans hw, m2⟩, m3, m4⟩
    · rw [upd_n (by omega)]
      exact lCd_congr (fun q hq => by rw [mWrt_o _ _ _ _ _ _ (by unfold enA; omega), upd_n (by unfold enA oA; omega)]) (h.2.2.1 o i ho h1 (by omega))
theorem LRq.cut (h : LRq w m p e l t) (hc : ∀ k, k < 10 → mCt w k ≤ 6) {o n i : Nat} (ho : o < 10) (h1 : w (oA o 0) = 1) (hn : mCt w o = n) (hi : i < n) : LRq (mTo w o i n) m (upd p (40 + o) (nI (n - 1))) (tkE e (6 * o + i) (6 * o + (n - 1))) l t := by
  subst hn
  have h6 := hc o ho
  refine h.list hc ho h1 (fun x h5 hx => mTo_lo hi h5 (by unfold enA at *; omega)) (mTo_ct hi) (by omega) (fun x hx => by rw [tkE, if_neg (by omega)]) (fun j hj => ?_)
  unfold tkE
  by_cases hji : j < i
  · rw [if_neg (by omega)]
    exact lCd_congr (fun q hq => mTo_lo hi (by unfold enA oA; omega) (by unfold enA; omega)) (h.2.2.1 o j ho h1 (by omega))
  · rw [if_pos (by omega)]
    exact lCd_congr (fun q hq => by
      rw [mTo_hi (by unfold enA; omega)]
      refine congrArg w ?_
      show enA o j q + 5 = enA o (j + 1) q
      unfold enA; omega) (h.2.2.1 o (j + 1) ho h1 (by omega))
theorem LRq.mv (h : LRq w m p e l t) (hc : ∀ k, k < 10 → mCt w k ≤ 6) {o i pl : Nat} (ho : o < 10) (h1 : w (oA o 0) = 1) (h5 : w (oA o 5) = nI (mCt w o)) (hi : i < mCt w o) (hp : pl < mCt w o) : LRq (mMv w w o i pl) m p (mvRw e o i pl) l t := by
  have h6 := hc o ho
  have hs : ∀ k, k < mCt w o → sgm i pl k < mCt w o := by
    intro k hk
    unfold sgm
    by_cases h1 : k = pl
    · rw [if_pos h1]; exact hi
    · rw [if_neg h1]
      by_cases h2 : k < pl
      · rw [if_pos h2]
        by_cases h3 : k < i
        · rw [if_pos h3]; exact hk
        · rw [if_neg h3]; omega
      · rw [if_neg h2]
        by_cases h3 : k - 1 < i
        · rw [if_pos h3]; omega
        · rw [if_neg h3]; exact hk
  have h9 := h.list (w2 := mMv w w o i pl) (e2 := mvRw e o i pl) (c := mCt w o) hc ho h1 (fun x h5 hx => mMv_o h6 hi hp h5 hx) (mMv_5 h6 hi) h6 (fun x hx => mvRw_o e (by omega) (by omega) hx) (fun k hk => by
    rw [mvRw_at]
    exact lCd_congr (fun q hq => mMv_at h6 hi hp hk hq) (h.2.2.1 o (sgm i pl k) ho h1 (hs k hk)))
  rw [upd_same] at h9
  · exact h9
  · rw [((h.2.1.1 o ho).2 h1).2.2.2.2, h5]
theorem LD_mv {e2 : Nat → Int32} (hL : LD w m p e) {o i pl : Nat} (ho : o < 10) (hi : i < mCt w o) (hp : pl < mCt w o) (he : LEn (mMv w w o i pl) e2) : LD (mMv w w o i pl) m p e2 := by
  have h6 := hL.ok.ct6 (show o < 20 by omega)
  have h1 := hL.th (show o < 20 by omega) hi
  have e5 : ∀ k, mMv w w o i pl (oA k 5) = w (oA k 5) := fun k => by
    by_cases hk : k = o
    · subst hk; rw [mMv_5 h6 hi, hL.ok.ct (by omega)]
    · exact mMv_o h6 hi hp (by unfold oA; omega) (by
        unfold oA enA
        intro z
        rcases Nat.lt_trichotomy k o with h2 | h2 | h2 <;> omega)
  refine LD_congr hL (fun x hx => mMv_o h6 hi hp (by unfold oA; omega) (by unfold enA; omega)) (fun k q _ hq => mMv_o h6 hi hp (by unfold oA; omega) (by
    unfold oA enA
    intro z
    rcases Nat.lt_trichotomy k o with h2 | h2 | h2 <;> omega)) (fun k hk hk1 => ?_) (fun k hk hk1 => ?_) (mOk_mv hL.ok w (by omega) hi hp) he
  · rw [e5 k]; exact hL.1.2.2.2 k hk hk1
  · rw [e5 k]; exact hL.pc hk hk1
end PRES2
