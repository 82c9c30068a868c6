/-! what the law writes into its rows keeps them beside the model's row -/
def LRq (w m p e l t : Nat → Int32) : Prop := LGm w m ∧ LOp w p ∧ LEn w e ∧ (t 0 = w 0 ∧ t 1 = w 1 ∧ t 2 = mHo w 20 0 0) ∧ LLo w l t ∧ ∀ k, k < 10 → w (oA k 0) = 1 → w (oA k 4) = 0 ∨ w (oA k 4) = 1
theorem LR.q {G : GS} (h : LR G) : LRq (G.2.1 0 30) (G.2.1 0 40) (G.2.1 0 41) (G.2.1 0 42) (G.2.1 0 43) (G.2.1 0 44) := ⟨h.1.2.1, h.1.2.2.1, h.1.2.2.2, ⟨h.2.1.1.trans h.1.ok.us.symm, h.2.2.1.trans h.1.ok.gs.symm, h.2.2.2.1⟩, h.2.2.2.2.1, h.2.2.2.2.2⟩
theorem LR.of {G : GS} {t : Nat} (hS : Sim G t) (h : LRq (G.2.1 0 30) (G.2.1 0 40) (G.2.1 0 41) (G.2.1 0 42) (G.2.1 0 43) (G.2.1 0 44)) : LR G := by
  have hR := hS.1
  obtain ⟨h1, h2, h3, ⟨h4, h5, h6⟩, h7, h8⟩ := h
  exact ⟨⟨⟨hR.ok, ⟨fun a ha => hR.nl ha, fun a hg ha => hR.nz hg ha⟩, fun j hj h1 => hR.par hj h1, fun o ho h1 => hR.cz ho h1⟩, h1, h2, h3⟩, ⟨h4.trans hR.ok.us, hR.us1⟩, h5.trans hR.ok.gs, h6, h7, h8⟩
theorem enA_ne5' {o o2 i k q : Nat} (hq : q < 5) (hi : i < 6) (hk : k < 5) : ¬ enA o2 i k = oA o q := by
  unfold oA enA
  intro h
  rcases Nat.lt_trichotomy o2 o with h2 | h2 | h2 <;> omega
section PRES
variable {w w2 m m2 p p2 e e2 l l2 t t2 : Nat → Int32}
theorem mHo_congr (h : ∀ j, j < 20 → w2 (oA j 0) = w (oA j 0)) : ∀ (n j : Nat) (x : Int32), n + j ≤ 20 → mHo w2 n j x = mHo w n j x := by
  intro n
  induction n with
  | zero => intro j x _; rfl
  | succ n ih =>
    intro j x hj
    rw [mHo, mHo, h j (by omega), ih (j + 1) _ (by omega)]
/-- one object more, one less -/
theorem mHo_one {k : Nat} (h : ∀ j, j < 20 → ¬ j = k → w2 (oA j 0) = w (oA j 0)) : ∀ (n j : Nat) (x : Int32), n + j ≤ 20 → mHo w2 n j x = mHo w n j x + (if j ≤ k ∧ k < n + j then w2 (oA k 0) - w (oA k 0) else 0) := by
  intro n
  induction n with
  | zero =>
    intro j x _
    rw [mHo, mHo, if_neg (by omega), Int32.add_zero]
  | succ n ih =>
    intro j x hj
    have hadd : ∀ (n j : Nat) (x y : Int32), mHo w n j (x + y) = mHo w n j x + y := by
      intro n
      induction n with
      | zero => intro j x y; rfl
      | succ n ih2 =>
        intro j x y
        rw [mHo, mHo, show x + y + w (oA j 0) = x + w (oA j 0) + y by rw [Int32.add_assoc, Int32.add_comm y, ← Int32.add_assoc], ih2]
    rw [mHo, mHo, ih (j + 1) _ (by omega)]
    by_cases hk : j = k
    · subst hk
      rw [if_neg (by omega), if_pos (by omega), Int32.add_zero, show x + w2 (oA j 0) = x + w (oA j 0) + (w2 (oA j 0) - w (oA j 0)) by
        rw [Int32.add_assoc, Int32.add_comm (w (oA j 0)), Int32.sub_add_cancel], hadd]
    · rw [h j (by omega) hk]
      by_cases h9 : j ≤ k ∧ k < n + 1 + j
      · rw [if_pos h9, if_pos (by omega)]
      · rw [if_neg h9, if_neg (by omega)]
theorem LEn_congr (h : LEn w e) (ho : ∀ k, k < 10 → w2 (oA k 0) = w (oA k 0) ∧ w2 (oA k 5) = w (oA k 5)) (he : ∀ k i q, k < 10 → i < 6 → q < 5 → w2 (enA k i q) = w (enA k i q)) (hc : ∀ k, k < 10 → mCt w k ≤ 6) : LEn w2 e := by
  intro k i hk hk1 hi
  have e5 : mCt w2 k = mCt w k := by unfold mCt; rw [(ho k hk).2]
  rw [(ho k hk).1] at hk1
  rw [e5] at hi
  have h6 := hc k hk
  exact lCd_congr (fun q hq => he k i q hk (by omega) hq) (h k i hk hk1 hi)
theorem LLo_congr (h : LLo w l t) (hw : ∀ x, 738 ≤ x → x < 765 → w2 x = w x) (h3 : t2 3 = t 3) (h4 : t2 4 = t 4) : LLo w2 l t2 := by
  obtain ⟨⟨a1, a2⟩, q, b1, b2, b3, b4⟩ := h
  refine ⟨⟨by rw [h3, hw 763 (by decide) (by decide)]; exact a1, by rw [h4, hw 764 (by decide) (by decide)]; exact a2⟩, q, b1, by rw [hw 763 (by decide) (by decide)]; exact b2, by rw [hw 762 (by decide) (by decide)]; exact b3, fun a ha => ?_⟩
  obtain ⟨u, o, b, c1, c2, c3, c4, c5⟩ := b4 a ha
  exact ⟨u, o, b, c1, by rw [hw _ (by omega) (by omega)]; exact c2, by rw [hw _ (by omega) (by omega)]; exact c3, by rw [hw _ (by omega) (by omega)]; exact c4, c5⟩
/-- groups and users alone -/
theorem LRq.grp (h : LRq w m p e l t) (hc : ∀ k, k < 10 → mCt w k ≤ 6) (hw : ∀ x, 18 ≤ x → w2 x = w x) (hm : LGm w2 m2) (h0 : t2 0 = w2 0) (h1 : t2 1 = w2 1) (h2 : t2 2 = t 2 ∧ t2 3 = t 3 ∧ t2 4 = t 4) : LRq w2 m2 p e l t2 := by
  obtain ⟨-, ⟨a1, a2⟩, a3, ⟨-, -, a4⟩, a5, a6⟩ := h
  have ho : ∀ k q, w2 (oA k q) = w (oA k q) := fun k q => hw _ (by unfold oA; omega)
  refine ⟨hm, ⟨fun k hk => ?_, fun k h3 h4 => ?_⟩, LEn_congr a3 (fun k _ => ⟨ho k 0, ho k 5⟩) (fun k i q _ _ _ => hw _ (by unfold enA; omega)) hc, ⟨h0, h1, ?_⟩, LLo_congr a5 (fun x h3 _ => hw x (by omega)) h2.2.1 h2.2.2, fun k hk hk1 => ?_⟩
  · rw [ho, ho, ho, ho, ho, ho]
    exact a1 k hk
  · rw [ho]; exact a2 k h3 h4
  · rw [h2.1, a4, mHo_congr (fun j _ => ho j 0) 20 0 0 (by decide)]
  · rw [ho] at hk1 ⊢
    exact a6 k hk hk1
/-- objects and lists alone -/
theorem LRq.obj (h : LRq w m p e l t) (hw : ∀ x, x < 18 → w2 x = w x) (hl : ∀ x, 738 ≤ x → x < 765 → w2 x = w x) (hp : LOp w2 p2) (he : LEn w2 e2) (h2 : t2 2 = mHo w2 20 0 0) (ht : t2 0 = t 0 ∧ t2 1 = t 1 ∧ t2 3 = t 3 ∧ t2 4 = t 4) (hi : ∀ k, k < 10 → w2 (oA k 0) = 1 → w2 (oA k 4) = 0 ∨ w2 (oA k 4) = 1) : LRq w2 m p2 e2 l t2 := by
  obtain ⟨⟨b1, b2, b3⟩, -, -, ⟨a3, a4, -⟩, a5, -⟩ := h
  refine ⟨⟨fun a ha => ?_, b2, fun a b ha hb => ?_⟩, hp, he, ⟨?_, ?_, h2⟩, LLo_congr a5 hl ht.2.2.1 ht.2.2.2, hi⟩
  · rw [hw _ (by omega)]; exact b1 a ha
  · rw [hw _ (by omega)]; exact b3 a b ha hb
  · rw [ht.1, hw 0 (by decide)]; exact a3
  · rw [ht.2.1, hw 1 (by decide)]; exact a4
theorem LRq.addUser (h : LRq w m p e l t) (hc : ∀ k, k < 10 → mCt w k ≤ 6) : LRq (upd w 0 (w 0 + 1)) m p e l (upd t 0 (t 0 + 1)) := by
  have h9 := h
  obtain ⟨⟨b1, b2, b3⟩, -, -, ⟨a3, a4, -⟩, -⟩ := h9
  refine h.grp hc (fun x hx => upd_n (by omega)) ⟨fun a ha => ?_, b2, fun a b ha hb => ?_⟩ ?_ ?_ ⟨upd_n (by decide), upd_n (by decide), upd_n (by decide)⟩
  · rw [upd_n (by omega)]; exact b1 a ha
  · rw [upd_n (by omega)]; exact b3 a b ha hb
  · rw [upd_s, upd_s, a3]
  · rw [upd_n (by decide), upd_n (by decide)]; exact a4
theorem LRq.addGroup (h : LRq w m p e l t) (hc : ∀ k, k < 10 → mCt w k ≤ 6) : LRq (upd w 1 (w 1 + 1)) m p e l (upd t 1 (t 1 + 1)) := by
  have h9 := h
  obtain ⟨⟨b1, b2, b3⟩, -, -, ⟨a3, a4, -⟩, -⟩ := h9
  refine h.grp hc (fun x hx => upd_n (by omega)) ⟨fun a ha => ?_, b2, fun a b ha hb => ?_⟩ ?_ ?_ ⟨upd_n (by decide), upd_n (by decide), upd_n (by decide)⟩
  · rw [upd_n (by omega)]; exact b1 a ha
  · rw [upd_n (by omega)]; exact b3 a b ha hb
  · rw [upd_n (by decide), upd_n (by decide)]; exact a3
  · rw [upd_s, upd_s, a4]
/-- a bit that isn't there, added -/
theorem add_p (x : Int32) {k : Nat} (hk : k < 32) (h : bt x k = false) : x + ((1 : Int32) <<< (nI k &&& 31)) = x ||| ((1 : Int32) <<< (nI k &&& 31)) := by
  rw [or_p]
  have h1 : bt (jChg x (nI k) true) k = true := by rw [jChg_bt x hk true hk, if_pos rfl]
  have h2 := sub_p (jChg x (nI k) true) hk h1
  have h3 : jChg (jChg x (nI k) true) (nI k) false = x := b_ext fun i hi => by
    rw [jChg_bt _ hk false hi, jChg_bt _ hk true hi]
    by_cases hik : i = k
    · rw [if_pos hik, hik]; exact h.symm
    · rw [if_neg hik, if_neg hik]
  rw [h3] at h2
  have h4 := congrArg (fun z => z + ((1 : Int32) <<< (nI k &&& 31))) h2
  (try dsimp only at h4)
  rw [Int32.sub_add_cancel] at h4
  exact h4.symm
theorem LRq.mem (h : LRq w m p e l t) (hc : ∀ k, k < 10 → mCt w k ≤ 6) {g : Nat} (hg : g < 8) (x : Int32) : LRq (upd w (2 + g) x) (upd m g x) p e l t := by
  have h9 := h
  obtain ⟨⟨b1, b2, b3⟩, -, -, ⟨a3, a4, -⟩, -⟩ := h9
  refine h.grp hc (fun x hx => upd_n (by omega)) ⟨fun a ha => ?_, fun a ha => ?_, fun a b ha hb => ?_⟩ ?_ ?_ ⟨rfl, rfl, rfl⟩
  · by_cases hag : a = g
    · subst hag; rw [upd_s, upd_s]
    · rw [upd_n hag, upd_n (by omega)]; exact b1 a ha
  · rw [upd_n (by omega)]; exact b2 a ha
  · rw [upd_n (by omega), upd_n (by omega)]; exact b3 a b ha hb
  · rw [upd_n (by omega)]; exact a3
  · rw [upd_n (by omega)]; exact a4
/-- i within o, or no more -/
theorem LRq.inn (h : LRq w m p e l t) (hc : ∀ k, k < 10 → mCt w k ≤ 6) {i o : Nat} (hi : i < 8) (ho : o < 8) (b : Bool) : LRq (upd w (10 + i) (jChg (w (10 + i)) (nI o) b)) (upd m (8 + o) (jChg (m (8 + o)) (nI i) b)) p e l t := by
  have h9 := h
  obtain ⟨⟨b1, b2, b3⟩, -, -, ⟨a3, a4, -⟩, -⟩ := h9
  refine h.grp hc (fun x hx => upd_n (by omega)) ⟨fun a ha => ?_, fun a ha => ?_, fun a c ha hc => ?_⟩ ?_ ?_ ⟨rfl, rfl, rfl⟩
  · rw [upd_n (by omega), upd_n (by omega)]; exact b1 a ha
  · by_cases hao : a = o
    · subst hao
      rw [upd_s]
      exact bLt_chg (b2 a ha) (by omega) (fun _ => hi)
    · rw [upd_n (by omega)]; exact b2 a ha
  · by_cases hao : a = o
    · subst hao
      rw [upd_s, jChg_bt _ (by omega) b (by omega)]
      by_cases hci : c = i
      · subst hci
        rw [if_pos rfl, upd_s, jChg_bt _ (by omega) b (by omega), if_pos rfl]
      · rw [if_neg hci, upd_n (by omega)]; exact b3 a c ha hc
    · rw [upd_n (by omega)]
      by_cases hci : c = i
      · subst hci
        rw [upd_s, jChg_bt _ (by omega) b (by omega), if_neg hao]; exact b3 a c ha hc
      · rw [upd_n (by omega)]; exact b3 a c ha hc
  · rw [upd_n (by omega)]; exact a3
  · rw [upd_n (by omega)]; exact a4
theorem many_how (hL : LD w m p e) (hwl : ∀ a, a < 8 → bLt (w (2 + a)) (mUs w)) {g : Nat} (hg : g < 8) : mSz (lBe m g) 20 0 0 = mHow w (mGs w) g (mUs w) 0 0 := by
  have h12 := hL.ok.us12
  rw [mSz_c, mHow_c, Int32.zero_add]
  refine congrArg nI ?_
  have e1 : cF (bt (lBe m g)) 20 0 = cF (bt (lBe m g)) (mUs w) 0 + cF (bt (lBe m g)) (20 - mUs w) (0 + mUs w) := by
    unfold cF
    rw [← sF_add, show mUs w + (20 - mUs w) = 20 by omega]
  have e2 : cF (bt (lBe m g)) (20 - mUs w) (0 + mUs w) = 0 := by
    refine sF_zero _ _ fun i h1 h2 => ?_
    (try dsimp only)
    have h3 : bt (lBe m g) i = false := by
      refine Bool.eq_false_iff.mpr fun z => ?_
      unfold lBe at z
      rcases (lBo_bt m _ 8 0 0 (by omega) i).mp z with z | ⟨j, -, hj, -, z⟩
      · rw [b_0] at z; cases z
      · rw [hL.gm (by omega), hwl j (by omega) i (by omega)] at z; cases z
    rw [h3]; rfl
  rw [e1, e2, Nat.add_zero]
  exact cF_congr fun i _ hi => hL.belong hg (by omega)
/-- one field of one object -/
theorem LRq.fld (h : LRq w m p e l t) (hc : ∀ k, k < 10 → mCt w k ≤ 6) {o q : Nat} (ho : o < 10) (h1 : w (oA o 0) = 1) (hq : 1 ≤ q ∧ q < 5) (x : Int32) (hx : q = 1 → ¬ x = -2) (hx4 : q = 4 → x = 0 ∨ x = 1) : LRq (upd w (oA o q) x) m (upd p (10 * (q - 1) + o) x) e l t := by
  have h9 := h
  obtain ⟨-, ⟨b1, b2⟩, b3, ⟨a3, a4, a5⟩, -, b5⟩ := h9
  have h0 : ∀ k, upd w (oA o q) x (oA k 0) = w (oA k 0) := fun k => upd_n (by unfold oA; omega)
  have h5 : ∀ k, upd w (oA o q) x (oA k 5) = w (oA k 5) := fun k => upd_n (by unfold oA; omega)
  have hoq : ∀ k q2, q2 < 6 → (¬ (k = o ∧ q2 = q)) → upd w (oA o q) x (oA k q2) = w (oA k q2) := fun k q2 h6 h7 => upd_n (by unfold oA; omega)
  have hpn : ∀ k q2, k < 10 → q2 < 6 → 1 ≤ q2 → (¬ (k = o ∧ q2 = q)) → upd p (10 * (q - 1) + o) x (10 * (q2 - 1) + k) = p (10 * (q2 - 1) + k) := fun k q2 h6 h7 h8 h9 => upd_n (by omega)
  have key : ∀ k q2, k < 10 → 1 ≤ q2 → q2 < 6 → p (10 * (q2 - 1) + k) = w (oA k q2) → upd p (10 * (q - 1) + o) x (10 * (q2 - 1) + k) = upd w (oA o q) x (oA k q2) := by
    intro k q2 hk h6 h7 h8
    by_cases hh : k = o ∧ q2 = q
    · obtain ⟨rfl, rfl⟩ := hh
      rw [upd_s, upd_s]
    · rw [hpn k q2 hk h7 h6 hh, hoq k q2 h7 hh]; exact h8
  refine h.obj (fun x hx => upd_n (by unfold oA; omega)) (fun x h6 h7 => upd_n (by unfold oA; omega)) ⟨fun k hk => ?_, fun k h6 h7 => ?_⟩ (LEn_congr b3 (fun k _ => ⟨h0 k, h5 k⟩) (fun k i q2 _ h7 h8 => upd_n (fun z => (enA_ne5' (o := o) (q := q) hq.2 h7 h8) z)) hc) ?_ ⟨rfl, rfl, rfl, rfl⟩ (fun k hk hk1 => ?_)
  · rw [h0]
    obtain ⟨c1, c2⟩ := b1 k hk
    refine ⟨?_, fun hk1 => ?_⟩
    · by_cases hh : k = o ∧ 1 = q
      · obtain ⟨rfl, rfl⟩ := hh
        rw [show 10 * (1 - 1) + k = k by omega, upd_s]
        exact ⟨fun z => absurd z (hx rfl), fun z => absurd h1 z⟩
      · have := hpn k 1 hk (by decide) (by decide) hh
        rw [show 10 * (1 - 1) + k = k by omega] at this
        rw [this]; exact c1
    · obtain ⟨d1, d2, d3, d4, d5⟩ := c2 hk1
      have f1 := key k 1 hk (by decide) (by decide) (by rw [show 10 * (1 - 1) + k = k by omega]; exact d1)
      rw [show 10 * (1 - 1) + k = k by omega] at f1
      exact ⟨f1, key k 2 hk (by decide) (by decide) d2, key k 3 hk (by decide) (by decide) d3, key k 4 hk (by decide) (by decide) d4, key k 5 hk (by decide) (by decide) d5⟩
  · rw [h0]; exact b2 k h6 h7
  · rw [a5, mHo_congr (fun j _ => h0 j) 20 0 0 (by decide)]
  · rw [h0] at hk1
    by_cases hh : k = o ∧ 4 = q
    · obtain ⟨rfl, rfl⟩ := hh
      rw [upd_s]; exact hx4 rfl
    · rw [hoq k 4 (by decide) hh]; exact b5 k hk hk1
/-- a field of an object that isn't there -/
theorem LRq.nofld (h : LRq w m p e l t) {o q : Nat} (ho : o < 10) (h1 : ¬ w (oA o 0) = 1) (hq : 2 ≤ q ∧ q < 6) (x : Int32) : LRq w m (upd p (10 * (q - 1) + o) x) e l t := by
  obtain ⟨a1, ⟨b1, b2⟩, b3, a4, a5, a6⟩ := h
  refine ⟨a1, ⟨fun k hk => ?_, b2⟩, b3, a4, a5, a6⟩
  obtain ⟨c1, c2⟩ := b1 k hk
  refine ⟨by rw [upd_n (by omega)]; exact c1, fun hk1 => ?_⟩
  have hne : ¬ k = o := fun z => h1 (by rw [← z]; exact hk1)
  obtain ⟨d1, d2, d3, d4, d5⟩ := c2 hk1
  exact ⟨by rw [upd_n (by omega)]; exact d1, by rw [upd_n (by omega)]; exact d2, by rw [upd_n (by omega)]; exact d3, by rw [upd_n (by omega)]; exact d4, by rw [upd_n (by omega)]; exact d5⟩
/-- an object made -/
theorem LRq.make (h : LRq w m p e l t) (hc : ∀ k, k < 10 → mCt w k ≤ 6) (hth : ∀ o, o < 20 → w (oA o 0) = 0 ∨ w (oA o 0) = 1) {k : Nat} (hk : k < 10) (h1 : ¬ w (oA k 0) = 1) (pa ow : Int32) (hpa : ¬ pa = -2) : LRq (mFnd w k pa ow) m (upd (upd (upd (upd (upd p k pa) (10 + k) ow) (20 + k) 15) (30 + k) 1) (40 + k) 0) e l (upd t 2 (t 2 + 1)) := by
  have h9 := h
  obtain ⟨-, ⟨b1, b2⟩, b3, ⟨a3, a4, a5⟩, -, b5⟩ := h9
  have en : ∀ x, ¬ (oA k 0 ≤ x ∧ x < oA k 0 + 36) → mFnd w k pa ow x = w x := by
    intro x hx
    unfold mFnd
    rw [upd_n (by unfold oA at *; omega), upd_n (by unfold oA at *; omega), upd_n (by unfold oA at *; omega), upd_n (by unfold oA at *; omega), upd_n (by unfold oA at *; omega), mZk, if_neg hx]
  have e0 : mFnd w k pa ow (oA k 0) = 1 := by
    unfold mFnd
    rw [upd_n (by unfold oA; omega), upd_n (by unfold oA; omega), upd_n (by unfold oA; omega), upd_n (by unfold oA; omega), upd_s]
  have e1 : mFnd w k pa ow (oA k 1) = pa := by
    unfold mFnd
    rw [upd_n (by unfold oA; omega), upd_n (by unfold oA; omega), upd_n (by unfold oA; omega), upd_s]
  have e2 : mFnd w k pa ow (oA k 2) = ow := by
    unfold mFnd
    rw [upd_n (by unfold oA; omega), upd_n (by unfold oA; omega), upd_s]
  have e3 : mFnd w k pa ow (oA k 3) = 15 := by
    unfold mFnd
    rw [upd_n (by unfold oA; omega), upd_s]
  have e4 : mFnd w k pa ow (oA k 4) = 1 := by
    unfold mFnd
    rw [upd_s]
  have e5 : mFnd w k pa ow (oA k 5) = 0 := by
    unfold mFnd
    rw [upd_n (by unfold oA; omega), upd_n (by unfold oA; omega), upd_n (by unfold oA; omega), upd_n (by unfold oA; omega), upd_n (by unfold oA; omega), mZk, if_pos (by unfold oA; omega)]
  have eo : ∀ j q, ¬ j = k → q < 36 → mFnd w k pa ow (oA j q) = w (oA j q) := fun j q hj hq => en _ (by
    unfold oA
    intro z
    rcases Nat.lt_trichotomy j k with h2 | h2 | h2 <;> omega)
  refine h.obj (fun x hx => en x (by unfold oA; omega)) (fun x h6 h7 => en x (by unfold oA; omega)) ⟨fun j hj => ?_, fun j h6 h7 => ?_⟩ (fun j i hj hj1 hi => ?_) ?_ ⟨upd_n (by decide), upd_n (by decide), upd_n (by decide), upd_n (by decide)⟩ (fun j hj hj1 => ?_)
  · by_cases hjk : j = k
    · subst hjk
      rw [e0, e1, e2, e3, e4, e5]
      refine ⟨?_, fun _ => ⟨?_, ?_, ?_, ?_, ?_⟩⟩
      · rw [upd_n (by omega), upd_n (by omega), upd_n (by omega), upd_n (by omega), upd_s]
        exact ⟨fun z => absurd z hpa, fun z => absurd rfl z⟩
      · rw [upd_n (by omega), upd_n (by omega), upd_n (by omega), upd_n (by omega), upd_s]
      · rw [upd_n (by omega), upd_n (by omega), upd_n (by omega), upd_s]
      · rw [upd_n (by omega), upd_n (by omega), upd_s]
      · rw [upd_n (by omega), upd_s]
      · rw [upd_s]
    · rw [eo j 0 hjk (by decide), eo j 1 hjk (by decide), eo j 2 hjk (by decide), eo j 3 hjk (by decide), eo j 4 hjk (by decide), eo j 5 hjk (by decide)]
      have hp : ∀ c, (c = 0 ∨ c = 10 ∨ c = 20 ∨ c = 30 ∨ c = 40) → upd (upd (upd (upd (upd p k pa) (10 + k) ow) (20 + k) 15) (30 + k) 1) (40 + k) 0 (c + j) = p (c + j) := fun c hc2 => by
        rw [upd_n (by omega), upd_n (by omega), upd_n (by omega), upd_n (by omega), upd_n (by omega)]
      have hp0 := hp 0 (Or.inl rfl)
      rw [Nat.zero_add] at hp0
      rw [hp0, hp 10 (by decide), hp 20 (by decide), hp 30 (by decide), hp 40 (by decide)]
      exact b1 j hj
  · rw [eo j 0 (by omega) (by decide)]; exact b2 j h6 h7
  · by_cases hjk : j = k
    · subst hjk
      unfold mCt at hi
      rw [e5] at hi
      have z0 : (0 : Int32).toNatClampNeg = 0 := by decide
      omega
    · rw [eo j 0 hjk (by decide)] at hj1
      have e6 : mCt (mFnd w k pa ow) j = mCt w j := by unfold mCt; rw [eo j 5 hjk (by decide)]
      rw [e6] at hi
      have h6 := hc j hj
      exact lCd_congr (fun q hq => by
        have := eo j (6 + 5 * i + q) hjk (by omega)
        rw [show oA j (6 + 5 * i + q) = enA j i q by unfold oA enA; omega] at this
        exact this) (b3 j i hj hj1 hi)
  · rw [upd_s, a5, mHo_one (k := k) (fun j hj hjk => eo j 0 hjk (by decide)) 20 0 0 (by decide), if_pos (by omega), e0, (hth k (by omega)).resolve_right h1]
    rfl
  · by_cases hjk : j = k
    · subst hjk; exact Or.inr e4
    · rw [eo j 0 hjk (by decide)] at hj1
      rw [eo j 4 hjk (by decide)]; exact b5 j hj hj1
/-- an object removed -/
theorem LRq.remove (h : LRq w m p e l t) (hc : ∀ k, k < 10 → mCt w k ≤ 6) {k : Nat} (hk : k < 10) (h1 : w (oA k 0) = 1) : LRq (mZk w k 36) m (upd p k (-2)) e l (upd t 2 (t 2 - 1)) := by
  have h9 := h
  obtain ⟨-, ⟨b1, b2⟩, b3, ⟨a3, a4, a5⟩, -, b5⟩ := h9
  have en : ∀ x, ¬ (oA k 0 ≤ x ∧ x < oA k 0 + 36) → mZk w k 36 x = w x := fun x hx => by rw [mZk, if_neg hx]
  have e0 : mZk w k 36 (oA k 0) = 0 := by rw [mZk, if_pos (by omega)]
  have eo : ∀ j q, ¬ j = k → q < 36 → mZk w k 36 (oA j q) = w (oA j q) := fun j q hj hq => en _ (by
    unfold oA
    intro z
    rcases Nat.lt_trichotomy j k with h2 | h2 | h2 <;> omega)
  refine h.obj (fun x hx => en x (by unfold oA; omega)) (fun x h6 h7 => en x (by unfold oA; omega)) ⟨fun j hj => ?_, fun j h6 h7 => ?_⟩ (fun j i hj hj1 hi => ?_) ?_ ⟨upd_n (by decide), upd_n (by decide), upd_n (by decide), upd_n (by decide)⟩ (fun j hj hj1 => ?_)
  · by_cases hjk : j = k
    · subst hjk
      rw [e0, upd_s]
      exact ⟨⟨fun _ => by decide, fun _ => rfl⟩, fun z => absurd z (by decide)⟩
    · rw [eo j 0 hjk (by decide), eo j 1 hjk (by decide), eo j 2 hjk (by decide), eo j 3 hjk (by decide), eo j 4 hjk (by decide), eo j 5 hjk (by decide), upd_n hjk, upd_n (by omega), upd_n (by omega), upd_n (by omega), upd_n (by omega)]
      exact b1 j hj
  · rw [eo j 0 (by omega) (by decide)]; exact b2 j h6 h7
  · by_cases hjk : j = k
    · subst hjk
      rw [e0] at hj1
      exact absurd hj1 (by decide)
    · rw [eo j 0 hjk (by decide)] at hj1
      have e6 : mCt (mZk w k 36) j = mCt w j := by unfold mCt; rw [eo j 5 hjk (by decide)]
      rw [e6] at hi
      have h6 := hc j hj
      exact lCd_congr (fun q hq => by
        have := eo j (6 + 5 * i + q) hjk (by omega)
        rw [show oA j (6 + 5 * i + q) = enA j i q by unfold oA enA; omega] at this
        exact this) (b3 j i hj hj1 hi)
  · rw [upd_s, a5, mHo_one (k := k) (fun j hj hjk => eo j 0 hjk (by decide)) 20 0 0 (by decide), if_pos (by omega), e0, h1]
    rw [Int32.sub_eq_add_neg]; rfl
  · by_cases hjk : j = k
    · subst hjk
      rw [e0] at hj1
      exact absurd hj1 (by decide)
    · rw [eo j 0 hjk (by decide)] at hj1
      rw [eo j 4 hjk (by decide)]; exact b5 j hj hj1
/-- one list alone: its entries and how many -/
theorem LRq.list (h : LRq w m p e l t) (hc : ∀ k, k < 10 → mCt w k ≤ 6) {o c : Nat} (ho : o < 10) (h1 : w (oA o 0) = 1) (hw : ∀ x, ¬ x = oA o 5 → ¬ (enA o 0 0 ≤ x ∧ x < enA o 6 0) → w2 x = w x) (h5 : w2 (oA o 5) = nI c) (hc6 : c ≤ 6) (he : ∀ x, (¬ (6 * o ≤ x ∧ x < 6 * o + 6)) → e2 x = e x) (hn : ∀ i, i < c → lCd w2 o i (e2 (6 * o + i))) : LRq w2 m (upd p (40 + o) (nI c)) e2 l t := by
  have h9 := h
  obtain ⟨-, ⟨b1, b2⟩, b3, ⟨a3, a4, a5⟩, -, b5⟩ := h9
  have eo : ∀ j q, q < 5 → w2 (oA j q) = w (oA j q) := fun j q hq => hw _ (by unfold oA; omega) (by
    unfold oA enA
    intro z
    rcases Nat.lt_trichotomy j o with h2 | h2 | h2 <;> omega)
  have e5 : ∀ j, ¬ j = o → w2 (oA j 5) = w (oA j 5) := fun j hj => hw _ (by unfold oA; omega) (by
    unfold oA enA
    intro z
    rcases Nat.lt_trichotomy j o with h2 | h2 | h2 <;> omega)
  refine h.obj (fun x hx => hw x (by unfold oA; omega) (by unfold enA; omega)) (fun x h6 h7 => hw x (by unfold oA; omega) (by unfold enA; omega)) ⟨fun j hj => ?_, fun j h6 h7 => ?_⟩ (fun j i hj hj1 hi => ?_) ?_ ⟨rfl, rfl, rfl, rfl⟩ (fun j hj hj1 => ?_)
  · rw [eo j 0 (by decide), eo j 1 (by decide), eo j 2 (by decide), eo j 3 (by decide), eo j 4 (by decide), upd_n (by omega), upd_n (by omega), upd_n (by omega), upd_n (by omega)]
    refine ⟨(b1 j hj).1, fun hj1 => ?_⟩
    obtain ⟨d1, d2, d3, d4, d5⟩ := (b1 j hj).2 hj1
    refine ⟨d1, d2, d3, d4, ?_⟩
    by_cases hjo : j = o
    · subst hjo; rw [upd_s, h5]
    · rw [upd_n (by omega), e5 j hjo]; exact d5
  · rw [eo j 0 (by decide)]; exact b2 j h6 h7
  · by_cases hjo : j = o
    · subst hjo
      unfold mCt at hi
      rw [h5, nI_clamp (by omega)] at hi
      exact hn i hi
    · rw [eo j 0 (by decide)] at hj1
      have e6 : mCt w2 j = mCt w j := by unfold mCt; rw [e5 j hjo]
      rw [e6] at hi
      have h6 := hc j hj
      rw [he _ (by
        intro z
        rcases Nat.lt_trichotomy j o with h2 | h2 | h2 <;> omega)]
      exact lCd_congr (fun q hq => hw _ (enA_ne5 (by omega) hq) (by
        unfold enA
        intro z
        rcases Nat.lt_trichotomy j o with h2 | h2 | h2 <;> omega)) (b3 j i hj hj1 hi)
  · rw [a5, mHo_congr (fun j _ => eo j 0 (by decide)) 20 0 0 (by decide)]
  · rw [eo j 0 (by decide)] at hj1
    rw [eo j 4 (by decide)]; exact b5 j hj hj1
/-- a request in the log -/
theorem LRq.log (h : LRq w m p e l t) (hc : ∀ k, k < 10 → mCt w k ≤ 6) {u o q : Nat} {b : Bool} (hu : u < 12) (ho : o < 10) (hq : w 763 = nI q) (hq2 : q + 1 < 2 ^ 20) (hl : ∀ a, l2 a = if a = 0 then nI (100 * u + 2 * o + b.toNat) else if a < 8 then l (a - 1) else l a) : LRq (mLog w (nI u) (nI o) b) m p e l2 (upd (upd t 3 (t 3 + 1)) 4 (t 4 + (if b = true then 0 else 1))) := by
  obtain ⟨⟨g1, g2, g3⟩, ⟨b1, b2⟩, b3, ⟨a3, a4, a5⟩, ⟨⟨t3, t4⟩, q0, c1, c2, c3, c4⟩, b5⟩ := h
  have e0 : q0 = q := (nI_eq (by omega) (by omega)).mp (c2.symm.trans hq)
  subst e0
  have wl : ∀ x, x < 738 → mLog w (nI u) (nI o) b x = w x := by
    intro x hx
    unfold mLog mL5 mL4 mL3
    rw [upd_n (by omega), upd_n (by omega), upd_n (by omega), upd_n (by omega), upd_n (by omega), upd_n (by omega), mLgK, if_neg (by omega)]
  have f762 : mL3 w (nI u) (nI o) b 762 = w 762 := by
    unfold mL3
    rw [upd_n (by decide), upd_n (by decide), upd_n (by decide), mLgK, if_neg (by omega)]
  have f763 : mL4 w (nI u) (nI o) b 763 = w 763 := by
    unfold mL4 mL3
    rw [upd_n (by decide), upd_n (by decide), upd_n (by decide), upd_n (by decide), mLgK, if_neg (by omega)]
  have f764 : mL5 w (nI u) (nI o) b 764 = w 764 := by
    unfold mL5 mL4 mL3
    rw [upd_n (by decide), upd_n (by decide), upd_n (by decide), upd_n (by decide), upd_n (by decide), mLgK, if_neg (by omega)]
  have w762 : mLog w (nI u) (nI o) b 762 = nI (min 8 (q0 + 1)) := by
    unfold mLog mL5 mL4
    rw [upd_n (by decide), upd_n (by decide), upd_s, f762, c3]
    by_cases hc8 : q0 < 8
    · rw [if_pos (show nI (min 8 q0) < 8 from nI_lt (b := 8) (by omega) (by decide)), nI_1]
      refine congrArg nI ?_; omega
    · rw [if_neg (show ¬ nI (min 8 q0) < 8 from nI_nlt (b := 8) (by omega) (by omega)), Int32.add_zero]
      refine congrArg nI ?_; omega
  have w763 : mLog w (nI u) (nI o) b 763 = nI (q0 + 1) := by
    unfold mLog mL5
    rw [upd_n (by decide), upd_s, f763, c2, nI_1]
  have w764 : mLog w (nI u) (nI o) b 764 = w 764 + (if b = true then 0 else 1) := by
    unfold mLog
    rw [upd_s, f764]
  have w3 : ∀ x, x < 762 → mLog w (nI u) (nI o) b x = mL3 w (nI u) (nI o) b x := by
    intro x hx
    unfold mLog mL5 mL4
    rw [upd_n (by omega), upd_n (by omega), upd_n (by omega)]
  have wo : ∀ k r, k < 20 → r < 36 → mLog w (nI u) (nI o) b (oA k r) = w (oA k r) := fun k r hk hr => wl _ (by unfold oA; omega)
  refine ⟨⟨fun a ha => by rw [wl _ (by omega)]; exact g1 a ha, g2, fun a c ha hc2 => by rw [wl _ (by omega)]; exact g3 a c ha hc2⟩, ⟨fun k hk => ?_, fun k h6 h7 => ?_⟩, LEn_congr b3 (fun k hk => ⟨wo k 0 (by omega) (by decide), wo k 5 (by omega) (by decide)⟩) (fun k i r hk hi hr => wl _ (by unfold enA; omega)) hc, ⟨?_, ?_, ?_⟩, ⟨⟨?_, ?_⟩, q0 + 1, hq2, w763, w762, fun a ha => ?_⟩, fun k hk hk1 => ?_⟩
  · rw [wo k 0 (by omega) (by decide), wo k 1 (by omega) (by decide), wo k 2 (by omega) (by decide), wo k 3 (by omega) (by decide), wo k 4 (by omega) (by decide), wo k 5 (by omega) (by decide)]
    exact b1 k hk
  · rw [wo k 0 h7 (by decide)]; exact b2 k h6 h7
  · rw [upd_n (by decide), upd_n (by decide), wl _ (by decide)]; exact a3
  · rw [upd_n (by decide), upd_n (by decide), wl _ (by decide)]; exact a4
  · rw [upd_n (by decide), upd_n (by decide), mHo_congr (fun j hj => wo j 0 hj (by decide)) 20 0 0 (by decide)]; exact a5
  · rw [upd_n (by decide), upd_s, w763, t3, c2, nI_1]
  · rw [upd_s, w764, t4]
  · rw [hl a, w3 _ (by omega), w3 _ (by omega), w3 _ (by omega)]
    by_cases ha0 : a = 0
    · subst ha0
      rw [if_pos rfl]
      refine ⟨u, o, b, ⟨hu, ho⟩, ?_, ?_, ?_, rfl⟩
      · unfold mL3; rw [upd_n (by decide), upd_n (by decide), upd_s]
      · unfold mL3; rw [upd_n (by decide), upd_s]
      · unfold mL3; rw [upd_s]
    · rw [if_neg ha0, if_pos (by omega)]
      obtain ⟨u2, o2, b9, d1, d2, d3, d4, d5⟩ := c4 (a - 1) (by omega)
      have m3 : ∀ x, 741 ≤ x → x < 762 → mL3 w (nI u) (nI o) b x = w (x - 3) := by
        intro x h1 h2
        unfold mL3
        rw [upd_n (by omega), upd_n (by omega), upd_n (by omega), mLgK, if_pos (by omega)]
      refine ⟨u2, o2, b9, d1, ?_, ?_, ?_, d5⟩
      · rw [m3 _ (by omega) (by omega), show 738 + 3 * a - 3 = 738 + 3 * (a - 1) by omega]; exact d2
      · rw [m3 _ (by omega) (by omega), show 739 + 3 * a - 3 = 739 + 3 * (a - 1) by omega]; exact d3
      · rw [m3 _ (by omega) (by omega), show 740 + 3 * a - 3 = 740 + 3 * (a - 1) by omega]; exact d4
  · rw [wo k 0 (by omega) (by decide)] at hk1
    rw [wo k 4 (by omega) (by decide)]; exact b5 k hk hk1
end PRES
