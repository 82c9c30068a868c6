/-! the law's own rows and the model's row: groups, objects, entries -/
def lCode (kd n r : Nat) (a b : Bool) : Nat := ((16 * kd + n) * 16 + r) * 4 + 2 * a.toNat + b.toNat
theorem lCode_d1 : ∀ kd, kd < 4 → ∀ n, n < 12 → ∀ r, r < 16 → ∀ a b : Bool, (nI (lCode kd n r a b) >>> (6 &&& 31)) &&& 15 = nI n := by decide +kernel
theorem lCode_d2 : ∀ kd, kd < 4 → ∀ n, n < 12 → ∀ r, r < 16 → ∀ a b : Bool, nI (lCode kd n r a b) >>> (10 &&& 31) = nI kd := by decide +kernel
theorem lCode_d3 : ∀ kd, kd < 4 → ∀ n, n < 12 → ∀ r, r < 16 → ∀ a b : Bool, (nI (lCode kd n r a b) >>> (2 &&& 31)) &&& 15 = nI r := by decide +kernel
theorem lCode_d4 : ∀ kd, kd < 4 → ∀ n, n < 12 → ∀ r, r < 16 → ∀ a b : Bool, (nI (lCode kd n r a b) >>> (1 &&& 31)) &&& 1 = b2i a := by decide +kernel
theorem lCode_d5 : ∀ kd, kd < 4 → ∀ n, n < 12 → ∀ r, r < 16 → ∀ a b : Bool, nI (lCode kd n r a b) &&& 1 = b2i b := by decide +kernel
theorem lCode_d6 : ∀ kd, kd < 4 → ∀ n, n < 12 → ∀ r, r < 16 → ∀ a b : Bool, (nI (lCode kd n r a b) &&& 2 = 2 ↔ a = true) := by decide +kernel
theorem lCode_d7 : ∀ kd, kd < 4 → ∀ n, n < 12 → ∀ r, r < 16 → ∀ a b : Bool, nI (lCode kd n r a b) >>> (6 &&& 31) = nI (16 * kd + n) := by decide +kernel
theorem lCode_d (kd : Nat) (hk : kd < 4) (n : Nat) (hn : n < 12) (r : Nat) (hr : r < 16) (a b : Bool) : ((nI (lCode kd n r a b) >>> (6 &&& 31)) &&& 15 = nI n ∧ nI (lCode kd n r a b) >>> (10 &&& 31) = nI kd) ∧ ((nI (lCode kd n r a b) >>> (2 &&& 31)) &&& 15 = nI r ∧ (nI (lCode kd n r a b) >>> (1 &&& 31)) &&& 1 = b2i a) ∧ (nI (lCode kd n r a b) &&& 1 = b2i b ∧ (nI (lCode kd n r a b) &&& 2 = 2 ↔ a = true)) ∧ nI (lCode kd n r a b) >>> (6 &&& 31) = nI (16 * kd + n) := ⟨⟨lCode_d1 kd hk n hn r hr a b, lCode_d2 kd hk n hn r hr a b⟩, ⟨lCode_d3 kd hk n hn r hr a b, lCode_d4 kd hk n hn r hr a b⟩, ⟨lCode_d5 kd hk n hn r hr a b, lCode_d6 kd hk n hn r hr a b⟩, lCode_d7 kd hk n hn r hr a b⟩
/-- x is the entry i of the object k, as the law writes it -/
def lCd (w : Nat → Int32) (k i : Nat) (x : Int32) : Prop := ∃ (kd n r : Nat) (a b : Bool), (kd < 4 ∧ n < 12 ∧ r < 16) ∧ x = nI (lCode kd n r a b) ∧ (w (enA k i 0) = nI kd ∧ w (enA k i 1) = nI n ∧ w (enA k i 2) = nI r) ∧ w (enA k i 3) = b2i a ∧ w (enA k i 4) = b2i b
def LGm (w m : Nat → Int32) : Prop := (∀ a, a < 8 → m a = w (2 + a)) ∧ (∀ a, a < 8 → bLt (m (8 + a)) 8) ∧ ∀ a b, a < 8 → b < 8 → bt (m (8 + a)) b = bt (w (10 + b)) a
def LOp (w p : Nat → Int32) : Prop := (∀ k, k < 10 → (p k = -2 ↔ ¬ w (oA k 0) = 1) ∧ (w (oA k 0) = 1 → p k = w (oA k 1) ∧ p (10 + k) = w (oA k 2) ∧ p (20 + k) = w (oA k 3) ∧ p (30 + k) = w (oA k 4) ∧ p (40 + k) = w (oA k 5))) ∧ ∀ k, 10 ≤ k → k < 20 → ¬ w (oA k 0) = 1
def LEn (w e : Nat → Int32) : Prop := ∀ k i, k < 10 → w (oA k 0) = 1 → i < mCt w k → lCd w k i (e (6 * k + i))
/-- what the class's state says of the model's row -/
def WG (w : Nat → Int32) : Prop := (∀ a, a < 8 → bLt (w (10 + a)) (mGs w)) ∧ (∀ a, mGs w ≤ a → a < 8 → w (10 + a) = 0)
def WT (w : Nat → Int32) : Prop := (∀ j, j < 20 → w (oA j 0) = 1 → (w (oA j 1) = -1) ∨ ∃ k, k < 20 ∧ w (oA j 1) = nI k ∧ w (oA k 0) = 1) ∧ ∀ o, o < 20 → ¬ w (oA o 0) = 1 → w (oA o 5) = 0
def LD (w m p e : Nat → Int32) : Prop := (mOk w ∧ WG w ∧ WT w) ∧ LGm w m ∧ LOp w p ∧ LEn w e
section LD
variable {w m p e : Nat → Int32}
theorem LD.ok (h : LD w m p e) : mOk w := h.1.1
theorem LD.gm (h : LD w m p e) {a : Nat} (ha : a < 8) : m a = w (2 + a) := h.2.1.1 a ha
theorem LD.g8 (h : LD w m p e) : ∀ a, a < 8 → bLt (m (8 + a)) 8 := h.2.1.2.1
theorem LD.gt (h : LD w m p e) {a b : Nat} (ha : a < 8) (hb : b < 8) : bt (m (8 + a)) b = bt (w (10 + b)) a := h.2.1.2.2 a b ha hb
theorem LD.p2 (h : LD w m p e) {k : Nat} (hk : k < 10) : p k = -2 ↔ ¬ w (oA k 0) = 1 := (h.2.2.1.1 k hk).1
theorem LD.p1 (h : LD w m p e) {k : Nat} (hk : k < 10) (h1 : w (oA k 0) = 1) : p k = w (oA k 1) := ((h.2.2.1.1 k hk).2 h1).1
theorem LD.po (h : LD w m p e) {k : Nat} (hk : k < 10) (h1 : w (oA k 0) = 1) : p (10 + k) = w (oA k 2) := ((h.2.2.1.1 k hk).2 h1).2.1
theorem LD.pm (h : LD w m p e) {k : Nat} (hk : k < 10) (h1 : w (oA k 0) = 1) : p (20 + k) = w (oA k 3) := ((h.2.2.1.1 k hk).2 h1).2.2.1
theorem LD.pi (h : LD w m p e) {k : Nat} (hk : k < 10) (h1 : w (oA k 0) = 1) : p (30 + k) = w (oA k 4) := ((h.2.2.1.1 k hk).2 h1).2.2.2.1
theorem LD.pc (h : LD w m p e) {k : Nat} (hk : k < 10) (h1 : w (oA k 0) = 1) : p (40 + k) = w (oA k 5) := ((h.2.2.1.1 k hk).2 h1).2.2.2.2
theorem LD.no (h : LD w m p e) {k : Nat} (h1 : 10 ≤ k) (h2 : k < 20) : ¬ w (oA k 0) = 1 := h.2.2.1.2 k h1 h2
theorem LD.lt (h : LD w m p e) {k : Nat} (hk : k < 20) (h1 : w (oA k 0) = 1) : k < 10 := by
  rcases Nat.lt_or_ge k 10 with h2 | h2
  · exact h2
  · exact absurd h1 (h.no h2 hk)
theorem LD.ce (h : LD w m p e) {k i : Nat} (hk : k < 10) (h1 : w (oA k 0) = 1) (hi : i < mCt w k) : lCd w k i (e (6 * k + i)) := h.2.2.2 k i hk h1 hi
theorem LD.th (h : LD w m p e) {k i : Nat} (hk : k < 20) (hi : i < mCt w k) : w (oA k 0) = 1 := by
  refine Classical.byContradiction fun hn => ?_
  have h0 := h.1.2.2.2 k hk hn
  unfold mCt at hi
  rw [h0] at hi
  have e0 : (0 : Int32).toNatClampNeg = 0 := by decide
  omega
theorem LD.par (h : LD w m p e) {rk : Nat → Nat} (hrk : ∀ o, o < 20 → rk o < 20 ∧ (w (oA o 1) = -1 ∨ ∃ j, j < 20 ∧ w (oA o 1) = nI j ∧ rk j < rk o)) {k : Nat} (hk : k < 10) (h1 : w (oA k 0) = 1) : w (oA k 1) = -1 ∨ ∃ j, j < 10 ∧ w (oA k 1) = nI j ∧ w (oA j 0) = 1 ∧ rk j < rk k := by
  rcases h.1.2.2.1 k (by omega) h1 with h2 | ⟨j, h2, h3, h4⟩
  · exact Or.inl h2
  · rcases (hrk k (by omega)).2 with h5 | ⟨j2, h5, h6, h7⟩
    · exact Or.inl h5
    · have e1 : j = j2 := (nI_eq (by omega) (by omega)).mp (h3.symm.trans h6)
      subst e1
      exact Or.inr ⟨j, h.lt h2 h4, h3, h4, h7⟩
/-! who belongs -/
theorem lWi_iff (hm : ∀ a, a < 8 → bLt (m (8 + a)) 8) {g : Nat} (hg : g < 8) (k : Nat) : bt (lWi m g) k = true ↔ Rch (fun a => m (8 + a)) (fun a => a = g) k := by
  have hf : (fun k => lW m (10 + k)) = fun a => m (8 + a) := funext (lW_at m)
  have hD : Done (fun k => lW m (10 + k)) (fun a => a = g) (lWi m g) := by
    refine mOR_done (w := lW m) (g := 8) (lW_lt hm) (fun a => a = g) 8 _ (bLt_p hg) ?_ ?_ (by omega)
    · rintro a rfl
      rw [b_p a (by omega) (by omega)]
      exact decide_eq_true rfl
    · intro k hk
      refine Rch.base ?_
      rcases Nat.lt_or_ge k 32 with h | h
      · rw [b_p g (by omega) h] at hk
        exact of_decide_eq_true hk
      · rw [b_big h] at hk; cases hk
  rw [hf] at hD
  exact hD.iff k
theorem lBo_bt (m : Nat → Int32) (s : Int32) : ∀ (n j : Nat) (x : Int32), j + n ≤ 32 → ∀ k, bt (lBo m s n j x) k = true ↔ (bt x k = true ∨ ∃ i, j ≤ i ∧ i < j + n ∧ bt s i = true ∧ bt (m i) k = true) := by
  intro n
  induction n with
  | zero =>
    intro j x _ k
    rw [lBo]
    exact ⟨Or.inl, fun h => h.elim id (fun ⟨i, h1, h2, _⟩ => absurd h2 (by omega))⟩
  | succ n ih =>
    intro j x hj k
    rw [lBo, ih (j + 1) _ (by omega), b_or, Bool.or_eq_true]
    have e9 : bt (if mHas s (nI j) = true then m j else 0) k = true ↔ (bt s j = true ∧ bt (m j) k = true) := by
      rw [mHas_bt s (show j < 32 by omega)]
      by_cases hp : bt s j = true
      · rw [if_pos hp]; exact ⟨fun h => ⟨hp, h⟩, fun h => h.2⟩
      · rw [if_neg hp, b_0]; exact ⟨fun h => absurd h (by decide), fun h => absurd h.1 hp⟩
    rw [e9]
    constructor
    · rintro ((h | h) | ⟨i, h1, h2, h3⟩)
      · exact Or.inl h
      · exact Or.inr ⟨j, Nat.le_refl _, by omega, h⟩
      · exact Or.inr ⟨i, by omega, by omega, h3⟩
    · rintro (h | ⟨i, h1, h2, h3⟩)
      · exact Or.inl (Or.inl h)
      · by_cases hi : i = j
        · subst hi; exact Or.inl (Or.inr h3)
        · exact Or.inr ⟨i, by omega, by omega, h3⟩
/-- down from x to k, up from k to x -/
theorem LD.down (h : LD w m p e) {x k : Nat} (hx : x < 8) : Rch (fun a => m (8 + a)) (fun a => a = x) k ↔ (k = x ∨ (k < 8 ∧ Rch (fun a => w (10 + a)) (fun b => bt (w (10 + k)) b = true) x)) := by
  have hg8 := h.ok.gs8
  have hlt : ∀ a b, a < 8 → bt (w (10 + a)) b = true → b < 8 := fun a b ha hb => by
    rcases Nat.lt_or_ge b (mGs w) with h1 | h1
    · omega
    · rw [h.1.2.1.1 a ha b h1] at hb; cases hb
  have hmt : ∀ a b, a < 8 → bt (m (8 + a)) b = true → b < 8 := fun a b ha hb => by
    rcases Nat.lt_or_ge b 8 with h1 | h1
    · exact h1
    · rw [h.g8 a ha b h1] at hb; cases hb
  constructor
  · intro h1
    have h2 := h1 (fun k => Bck (fun a => w (10 + a)) x k) (fun a ha => Or.inl ha) (fun a b ha ha8 hb => by
      have hb8 := hmt a b ha8 hb
      rw [h.gt ha8 hb8] at hb
      exact Bck.step (o := fun a => w (10 + a)) hb8 hb ha)
    exact h2
  · rintro (rfl | ⟨hk, h1⟩)
    · exact Rch.base rfl
    · have h2 := h1 (fun y => y < 8 ∧ Rch (fun a => m (8 + a)) (fun a => a = y) k) (fun b hb => by
        have hb8 := hlt k b hk hb
        refine ⟨hb8, (Rch.base (s := fun a => a = b) rfl).step (b := k) hb8 ?_⟩
        show bt (m (8 + b)) k = true
        rw [h.gt hb8 hk]; exact hb) (fun a b ha ha8 hb => by
        have hb8 := hlt a b ha8 hb
        refine ⟨hb8, ha.2.mono fun y hy => ?_⟩
        subst hy
        refine (Rch.base (s := fun y => y = b) rfl).step (b := y) hb8 ?_
        show bt (m (8 + b)) y = true
        rw [h.gt hb8 ha8]; exact hb)
      exact h2.2
theorem LD.within (h : LD w m p e) {x k : Nat} (hx : x < 8) : bt (lWi m x) k = true ↔ (k = x ∨ (k < 8 ∧ Rch (fun a => w (10 + a)) (fun b => bt (w (10 + k)) b = true) x)) := (lWi_iff h.g8 hx k).trans (h.down hx)
theorem LD.belong (h : LD w m p e) {g u : Nat} (hg : g < 8) (hu : u < 32) : bt (lBe m g) u = mIsOf w (mGs w) (nI u) g := by
  have hg8 := h.ok.gs8
  have hlt : ∀ a, a < 8 → bLt (w (10 + a)) (mGs w) := h.1.2.1.1
  refine Bool.eq_iff_iff.mpr ?_
  unfold lBe mIsOf
  rw [lBo_bt m _ 8 0 0 (by omega), mOf_iff w u hu g (mGs w) 0 _ (by omega), mHas_bt _ hu]
  constructor
  · rintro (h1 | ⟨i, -, hi, h2, h3⟩)
    · rw [b_0] at h1; cases h1
    · rw [h.gm (by omega)] at h3
      rcases (h.within hg).mp h2 with rfl | ⟨h8, h4⟩
      · exact Or.inl h3
      · refine Or.inr ⟨i, Nat.zero_le _, ?_, h3, (mOut_iff hlt hg8 h8 g).mpr h4⟩
        rcases Nat.lt_or_ge i (mGs w) with h5 | h5
        · omega
        · have h6 := h4 (fun _ => False) (fun b hb => by
            rw [h.1.2.1.2 i h5 h8, b_0] at hb; cases hb) (fun _ _ z _ _ => z)
          exact h6.elim
  · rintro (h1 | ⟨i, -, hi, h2, h3⟩)
    · refine Or.inr ⟨g, Nat.zero_le _, by omega, (h.within hg).mpr (Or.inl rfl), ?_⟩
      rw [h.gm hg]; exact h1
    · have h8 : i < 8 := by omega
      refine Or.inr ⟨i, Nat.zero_le _, by omega, (h.within hg).mpr (Or.inr ⟨h8, (mOut_iff hlt hg8 h8 g).mp h3⟩), ?_⟩
      rw [h.gm h8]; exact h2
end LD
