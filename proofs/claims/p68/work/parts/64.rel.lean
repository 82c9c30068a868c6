/-! the class's state and the model's row -/
def eC (w : Nat → Int32) (o i : Nat) : Int32 := eCode (w (enA o i 0)) (w (enA o i 1)) (w (enA o i 2)) (decide (w (enA o i 3) = 1)) (decide (w (enA o i 4) = 1))
def eOk (w : Nat → Int32) (o i : Nat) : Prop := ∃ kd n r : Nat, kd < 4 ∧ n < 12 ∧ (1 ≤ r ∧ r < 16) ∧ w (enA o i 0) = nI kd ∧ w (enA o i 1) = nI n ∧ w (enA o i 2) = nI r
def rUG (F A : Nat → Nat → Int32) (w : Nat → Int32) : Prop :=
  (F 1 0 = nI (mUs w) ∧ 1 ≤ mUs w) ∧ F 1 1 = nI (mGs w) ∧ (∀ u, u < 12 → bLt (A 2 u) (mGs w)) ∧ (∀ a, a < 8 → bLt (w (2 + a)) (mUs w)) ∧ (∀ u a, u < 12 → a < 8 → bt (A 2 u) a = bt (w (2 + a)) u) ∧ (∀ a, a < 8 → A 3 a = w (10 + a)) ∧ (∀ a, a < 8 → bLt (w (10 + a)) (mGs w)) ∧ (∀ a, mGs w ≤ a → a < 8 → w (10 + a) = 0)
def rTr (F A : Nat → Nat → Int32) (w : Nat → Int32) : Prop :=
  bLt (F 4 0) 20 ∧ w (oA 0 0) = 1 ∧ (∀ o, o < 20 → bt (F 4 0) o = decide (w (oA o 0) = 1)) ∧ (∀ o, o < 20 → w (oA o 0) = 1 → A 5 o = w (oA o 1) ∧ A 6 o = w (oA o 2) ∧ A 7 o = w (oA o 3) ∧ bt (F 4 1) o = decide (w (oA o 4) = 1)) ∧ w (oA 0 1) = -1 ∧ (∀ o, 0 < o → o < 20 → w (oA o 0) = 1 → ∃ j, j < 20 ∧ w (oA o 1) = nI j ∧ w (oA j 0) = 1) ∧ (∀ o, o < 20 → ¬ w (oA o 0) = 1 → w (oA o 1) = 0)
def rLs (A : Nat → Nat → Int32) (w : Nat → Int32) : Prop :=
  ∀ o, o < 20 → A 9 o = w (oA o 5) ∧ (¬ w (oA o 0) = 1 → w (oA o 5) = 0) ∧ ∀ i, i < mCt w o → A 10 (o * 6 + i) = eC w o i ∧ eOk w o i
def rLg (F A : Nat → Nat → Int32) (w : Nat → Int32) (t : Nat) : Prop :=
  ∃ q, q ≤ t ∧ F 11 0 = nI q ∧ w 763 = nI q ∧ F 11 1 = w 764 ∧ w 762 = nI (min 8 q) ∧ ∀ a, a < min 8 q → A 12 ((q - 1 - a) % 8) = w (738 + 3 * a) ∧ A 13 ((q - 1 - a) % 8) = w (739 + 3 * a) ∧ bt (F 11 2) ((q - 1 - a) % 8) = decide (w (740 + 3 * a) = 1)
def Rel (F A : Nat → Nat → Int32) (w : Nat → Int32) (t : Nat) : Prop := rUG F A w ∧ rTr F A w ∧ rLs A w ∧ rLg F A w t ∧ mOk w
section REL
variable {F A : Nat → Nat → Int32} {w : Nat → Int32} {t : Nat}
theorem Rel.us (h : Rel F A w t) : F 1 0 = nI (mUs w) := h.1.1.1
theorem Rel.us1 (h : Rel F A w t) : 1 ≤ mUs w := h.1.1.2
theorem Rel.gs (h : Rel F A w t) : F 1 1 = nI (mGs w) := h.1.2.1
theorem Rel.ml (h : Rel F A w t) {u : Nat} (hu : u < 12) : bLt (A 2 u) (mGs w) := h.1.2.2.1 u hu
theorem Rel.wl (h : Rel F A w t) {a : Nat} (ha : a < 8) : bLt (w (2 + a)) (mUs w) := h.1.2.2.2.1 a ha
theorem Rel.mm (h : Rel F A w t) {u a : Nat} (hu : u < 12) (ha : a < 8) : bt (A 2 u) a = bt (w (2 + a)) u := h.1.2.2.2.2.1 u a hu ha
theorem Rel.nn (h : Rel F A w t) {a : Nat} (ha : a < 8) : A 3 a = w (10 + a) := h.1.2.2.2.2.2.1 a ha
theorem Rel.nl (h : Rel F A w t) {a : Nat} (ha : a < 8) : bLt (w (10 + a)) (mGs w) := h.1.2.2.2.2.2.2.1 a ha
theorem Rel.nz (h : Rel F A w t) {a : Nat} (hg : mGs w ≤ a) (ha : a < 8) : w (10 + a) = 0 := h.1.2.2.2.2.2.2.2 a hg ha
theorem Rel.ok (h : Rel F A w t) : mOk w := h.2.2.2.2
theorem Rel.tb (h : Rel F A w t) : bLt (F 4 0) 20 := h.2.1.1
theorem Rel.t0 (h : Rel F A w t) : w (oA 0 0) = 1 := h.2.1.2.1
theorem Rel.th (h : Rel F A w t) {o : Nat} (ho : o < 20) : bt (F 4 0) o = decide (w (oA o 0) = 1) := h.2.1.2.2.1 o ho
theorem Rel.to (h : Rel F A w t) {o : Nat} (ho : o < 20) (h1 : w (oA o 0) = 1) : A 5 o = w (oA o 1) ∧ A 6 o = w (oA o 2) ∧ A 7 o = w (oA o 3) ∧ bt (F 4 1) o = decide (w (oA o 4) = 1) := h.2.1.2.2.2.1 o ho h1
theorem Rel.p0 (h : Rel F A w t) : w (oA 0 1) = -1 := h.2.1.2.2.2.2.1
theorem Rel.pa (h : Rel F A w t) {o : Nat} (h0 : 0 < o) (ho : o < 20) (h1 : w (oA o 0) = 1) : ∃ j, j < 20 ∧ w (oA o 1) = nI j ∧ w (oA j 0) = 1 := h.2.1.2.2.2.2.2.1 o h0 ho h1
theorem Rel.pz (h : Rel F A w t) {o : Nat} (ho : o < 20) (h1 : ¬ w (oA o 0) = 1) : w (oA o 1) = 0 := h.2.1.2.2.2.2.2.2 o ho h1
theorem Rel.ct (h : Rel F A w t) {o : Nat} (ho : o < 20) : A 9 o = w (oA o 5) := (h.2.2.1 o ho).1
theorem Rel.cz (h : Rel F A w t) {o : Nat} (ho : o < 20) (h1 : ¬ w (oA o 0) = 1) : w (oA o 5) = 0 := (h.2.2.1 o ho).2.1 h1
theorem Rel.en (h : Rel F A w t) {o i : Nat} (ho : o < 20) (hi : i < mCt w o) : A 10 (o * 6 + i) = eC w o i := ((h.2.2.1 o ho).2.2 i hi).1
theorem Rel.eo (h : Rel F A w t) {o i : Nat} (ho : o < 20) (hi : i < mCt w o) : eOk w o i := ((h.2.2.1 o ho).2.2 i hi).2
theorem Rel.lg (h : Rel F A w t) : rLg F A w t := h.2.2.2.1
theorem Rel.ow (h : Rel F A w t) {a : Nat} (ha : a < 8) : bLt (A 3 a) (mGs w) := by rw [h.nn ha]; exact h.nl ha
theorem Rel.oz (h : Rel F A w t) {a : Nat} (hg : mGs w ≤ a) (ha : a < 8) : A 3 a = 0 := by rw [h.nn ha]; exact h.nz hg ha
theorem mIn_idx {n : Nat} (hn : n < 2 ^ 30) (u : Int32) : mIn u 0 (nI n - 1) = jIdx u (nI n) := by
  unfold mIn jIdx
  congr 1
  rw [Bool.eq_iff_iff, decide_eq_true_eq, decide_eq_true_eq, Int32.le_iff_toInt_le, Int32.lt_iff_toInt_lt]
  have h1 : (nI n - 1).toInt = (n : Int) - 1 := pk_sub_toInt (b := 1) hn (by decide)
  rw [h1, nI_toInt (by omega)]
  omega
theorem jIdx_ex {u : Int32} {n : Nat} (hn : n < 2 ^ 31) (h : jIdx u (nI n) = true) : ∃ j, j < n ∧ u = nI j := jIdx_nI h (N := n) (nI_toInt hn) hn
theorem jIdx_n {j n : Nat} (h : j < n) (hn : n < 2 ^ 31) : jIdx (nI j) (nI n) = true := by
  unfold jIdx
  rw [decide_eq_true (nI_pos' (by omega)), decide_eq_true (nI_lt h hn)]
  rfl
theorem jIdx4 {j : Nat} (h : j < 4) : jIdx (nI j) 4 = true := jIdx_n (n := 4) h (by decide)
theorem jIdx6 {j : Nat} (h : j < 6) : jIdx (nI j) 6 = true := jIdx_n (n := 6) h (by decide)
theorem jIdx8 {j : Nat} (h : j < 8) : jIdx (nI j) 8 = true := jIdx_n (n := 8) h (by decide)
theorem jIdx12 {j : Nat} (h : j < 12) : jIdx (nI j) 12 = true := jIdx_n (n := 12) h (by decide)
theorem jIdx20 {j : Nat} (h : j < 20) : jIdx (nI j) 20 = true := jIdx_n (n := 20) h (by decide)
theorem jIdx80 {j : Nat} (h : j < 80) : jIdx (nI j) 80 = true := jIdx_n (n := 80) h (by decide)
theorem jIdx120 {j : Nat} (h : j < 120) : jIdx (nI j) 120 = true := jIdx_n (n := 120) h (by decide)
theorem Rel.uIdx (h : Rel F A w t) (u : Int32) : mIn u 0 (w 0 - 1) = jIdx u (F 1 0) := by
  rw [h.ok.us, h.us]
  exact mIn_idx (by have := h.ok.us12; omega) u
theorem Rel.gIdx (h : Rel F A w t) (u : Int32) : mIn u 0 (w 1 - 1) = jIdx u (F 1 1) := by
  rw [h.ok.gs, h.gs]
  exact mIn_idx (by have := h.ok.gs8; omega) u
theorem Rel.hold (h : Rel F A w t) (o : Int32) : mHold w o = tHold (F 4 0) o := by
  by_cases hi : ∃ j, j < 20 ∧ o = nI j
  · obtain ⟨j, hj, rfl⟩ := hi
    rw [tHold_bt _ hj, h.th hj]
    unfold mHold
    rw [nI_clamp (by omega), show mIn (nI j) 0 19 = true by
      unfold mIn
      rw [decide_eq_true (nI_pos' (by omega)), decide_eq_true (show nI j ≤ 19 from nI_le (b := 19) (by omega) (by decide))]; rfl, Bool.true_and]
  · cases h1 : mHold w o with
    | true =>
      obtain ⟨j, hj, e⟩ := mHold_nI h1
      exact absurd ⟨j, hj, e⟩ hi
    | false =>
      cases h2 : tHold (F 4 0) o with
      | false => rfl
      | true =>
        obtain ⟨j, hj, e, _⟩ := tHold_ex h2
        exact absurd ⟨j, hj, e⟩ hi
theorem Rel.holdn (h : Rel F A w t) {j : Nat} (hj : j < 20) : tHold (F 4 0) (nI j) = decide (w (oA j 0) = 1) := by rw [tHold_bt _ hj, h.th hj]
theorem Rel.hold_ex (h : Rel F A w t) {o : Int32} (h1 : tHold (F 4 0) o = true) : ∃ j, j < 20 ∧ o = nI j ∧ w (oA j 0) = 1 := by
  obtain ⟨j, hj, e, h2⟩ := tHold_ex h1
  rw [h.th hj] at h2
  exact ⟨j, hj, e, of_decide_eq_true h2⟩
theorem jHas_neg (x : Int32) : jHas x (-1) = false := by
  unfold jHas
  rw [show decide ((0 : Int32) ≤ -1) = false from by decide]
  rfl
theorem Rel.count (h : Rel F A w t) : mHo w 20 0 0 = jBc (F 4 0) := by
  have h1 := loop_c (f := mHo w) (a := fun j => w (oA j 0)) (b := fun j => (bt (F 4 0) j).toNat) (fun _ _ => rfl) (fun _ _ _ => rfl) 20 0 0 (fun i _ h2 => by
    try dsimp only
    rw [h.th (by omega), nI_bN]
    rcases h.ok.th (o := i) (by omega) with z | z
    · rw [z]; rfl
    · rw [z]; rfl)
  rw [h1, jBc_bt h.tb, Int32.zero_add]
  rfl
/-- what an object has, in the class -/
theorem Rel.tAt5 (h : Rel F A w t) {j : Nat} (hj : j < 20) (h1 : w (oA j 0) = 1) (d : Int32) : tAt (F 4 0) (A 5) (nI j) d = w (oA j 1) := by
  rw [tAt, if_pos (by rw [h.holdn hj, decide_eq_true h1]), nI_clamp (by omega), (h.to hj h1).1]
theorem Rel.tAt6 (h : Rel F A w t) {j : Nat} (hj : j < 20) (h1 : w (oA j 0) = 1) (d : Int32) : tAt (F 4 0) (A 6) (nI j) d = w (oA j 2) := by
  rw [tAt, if_pos (by rw [h.holdn hj, decide_eq_true h1]), nI_clamp (by omega), (h.to hj h1).2.1]
theorem Rel.tAt7 (h : Rel F A w t) {j : Nat} (hj : j < 20) (h1 : w (oA j 0) = 1) (d : Int32) : tAt (F 4 0) (A 7) (nI j) d = w (oA j 3) := by
  rw [tAt, if_pos (by rw [h.holdn hj, decide_eq_true h1]), nI_clamp (by omega), (h.to hj h1).2.2.1]
theorem Rel.tAtN (h : Rel F A w t) {j : Nat} (hj : j < 20) (h1 : ¬ w (oA j 0) = 1) (v : Nat → Int32) (d : Int32) : tAt (F 4 0) v (nI j) d = d := by
  rw [tAt, if_neg (by rw [h.holdn hj, decide_eq_false h1]; decide)]
theorem Rel.inh (h : Rel F A w t) {j : Nat} (hj : j < 20) (h1 : w (oA j 0) = 1) : jHas (F 4 1) (nI j) = decide (w (oA j 4) = 1) := by rw [jHas_bt _ (by omega), (h.to hj h1).2.2.2]
theorem tAt_m1 (x : Int32) (v : Nat → Int32) (d : Int32) : tAt x v (-1) d = d := by
  rw [tAt, if_neg]
  rw [tHold_jh, jHas_neg, Bool.and_false]
  decide
/-- the parent: none, or an object that is there -/
theorem Rel.par (h : Rel F A w t) {j : Nat} (hj : j < 20) (h1 : w (oA j 0) = 1) : (w (oA j 1) = -1) ∨ ∃ k, k < 20 ∧ w (oA j 1) = nI k ∧ w (oA k 0) = 1 := by
  rcases Nat.eq_zero_or_pos j with rfl | h0
  · exact Or.inl h.p0
  · exact Or.inr (h.pa h0 hj h1)
theorem neg1_ne {j : Nat} (hj : j < 2 ^ 31) : ¬ (-1 : Int32) = nI j := by
  intro e
  have h := nI_pos hj
  rw [← e] at h
  exact h (by decide)
theorem Rel.under (h : Rel F A w t) {j u : Nat} (hj : j < 20) (h1 : w (oA j 0) = 1) (hu : u < 20) : sUnder (F 4 0) (A 5) (nI j) (nI u) = mBlw w j (nI u) := by
  obtain ⟨rk, hrk⟩ := h.ok.rk
  have L : ∀ (n : Nat) (x : Int32), (x = -1 ∨ ∃ k, k < 20 ∧ w (oA k 0) = 1 ∧ x = nI k ∧ rk k < n) → udr (fun x => tAt (F 4 0) (A 5) x (-1)) (nI u) n x = mBel w (nI u) n x := by
    intro n
    induction n with
    | zero =>
      rintro x (rfl | ⟨k, _, _, _, h4⟩)
      · rw [udr, mBel, decide_eq_false (neg1_ne (by omega))]
      · omega
    | succ n ih =>
      rintro x (rfl | ⟨k, hk, h2, rfl, h4⟩)
      · rw [udr, mBel, if_pos rfl, if_pos (by decide), decide_eq_false (neg1_ne (by omega))]
      · rw [udr, mBel, if_neg (fun z => neg1_ne (j := k) (by omega) z.symm), if_neg (nI_pos (by omega)), nI_clamp (by omega)]
        by_cases e : nI k = nI u
        · rw [if_pos e, if_pos e]
        · rw [if_neg e, if_neg e]
          try dsimp only
          rw [h.tAt5 hk h2]
          refine ih _ ?_
          rcases h.par hk h2 with z | ⟨k2, h5, h6, h7⟩
          · exact Or.inl z
          · refine Or.inr ⟨k2, h5, h7, h6, ?_⟩
            rcases (hrk k hk).2 with z | ⟨k3, h8, h9, h10⟩
            · rw [h6] at z; exact absurd z.symm (neg1_ne (by omega))
            · rw [h6, nI_eq (by omega) (by omega)] at h9
              subst h9
              omega
  unfold sUnder mBlw
  rw [h.tAt5 hj h1]
  refine L 20 _ ?_
  rcases h.par hj h1 with z | ⟨k, h5, h6, h7⟩
  · exact Or.inl z
  · exact Or.inr ⟨k, h5, h7, h6, (hrk k h5).1⟩
theorem Rel.underN (h : Rel F A w t) {j : Nat} (hj : j < 20) (h1 : ¬ w (oA j 0) = 1) (u : Int32) : sUnder (F 4 0) (A 5) (nI j) u = false := by
  unfold sUnder
  rw [h.tAtN hj h1, udr, if_pos rfl]
theorem Rel.cund (h : Rel F A w t) {u : Nat} (hu : u < 20) : ∀ (n j : Nat) (k : Int32), j + n ≤ 20 → cUnd (F 4 0) (A 5) (nI u) n j k = mBls w (nI u) n j k := by
  intro n
  induction n with
  | zero => intro j k _; rfl
  | succ n ih =>
    intro j k hj
    rw [cUnd, mBls, ih (j + 1) _ (by omega), h.hold, h.holdn (by omega)]
    congr 1
    by_cases h1 : w (oA j 0) = 1
    · rw [h.under (by omega) h1 hu, decide_eq_true h1, Bool.true_and]
      by_cases h2 : mBlw w j (nI u) = true
      · rw [if_pos h2, if_pos h2]
      · rw [if_neg h2, if_neg h2, Int32.add_zero]
    · rw [h.underN (by omega) h1, decide_eq_false h1, Bool.false_and]
      simp
theorem Rel.free (h : Rel F A w t) : ∀ (n j : Nat), j + n ≤ 20 → (lFree (F 4 0) n j = -1 ∧ (∀ i, j ≤ i → i < j + n → w (oA i 0) = 1)) ∨ (lFree (F 4 0) n j = nI (mFr w n j) ∧ mFr w n j < j + n ∧ ¬ w (oA (mFr w n j) 0) = 1) := by
  intro n
  induction n with
  | zero => intro j _; exact Or.inl ⟨rfl, fun i h1 h2 => absurd h2 (by omega)⟩
  | succ n ih =>
    intro j hj
    rw [lFree, mFr, h.hold, h.holdn (by omega), jHas_bt _ (by omega), h.th (by omega)]
    by_cases h1 : w (oA j 0) = 1
    · rw [decide_eq_true h1, if_pos rfl, if_pos rfl]
      rcases ih (j + 1) (by omega) with ⟨h2, h3⟩ | ⟨h2, h3, h4⟩
      · refine Or.inl ⟨h2, fun i h4 h5 => ?_⟩
        by_cases hi : i = j
        · subst hi; exact h1
        · exact h3 i (by omega) (by omega)
      · exact Or.inr ⟨h2, by omega, h4⟩
    · rw [decide_eq_false h1, if_neg (by decide), if_neg (by decide)]
      exact Or.inr ⟨rfl, by omega, h1⟩
/-- no place is free: there are twenty -/
theorem Rel.full (h : Rel F A w t) : (lFree (F 4 0) 20 0 = -1 ∧ mHo w 20 0 0 = 20) ∨ (lFree (F 4 0) 20 0 = nI (mFr w 20 0) ∧ mFr w 20 0 < 20 ∧ ¬ w (oA (mFr w 20 0) 0) = 1 ∧ ¬ mHo w 20 0 0 = 20) := by
  rcases h.free 20 0 (by decide) with ⟨h1, h2⟩ | ⟨h1, h2, h3⟩
  · refine Or.inl ⟨h1, ?_⟩
    rw [mHo_sum w 20 0 0 h2]
    decide
  · refine Or.inr ⟨h1, h2, h3, fun h4 => ?_⟩
    rw [h.count, jBc_bt h.tb, show (20 : Int32) = nI 20 from rfl, nI_eq (by have := cF_le (bt (F 4 0)) 20 0; omega) (by decide)] at h4
    have h5 := cF_full (p := bt (F 4 0)) 20 0 (by omega) (mFr w 20 0) (Nat.zero_le _) h2
    rw [h.th (by omega), decide_eq_true_eq] at h5
    exact h3 h5
/-- groups -/
theorem Rel.groups (h : Rel F A w t) {u k : Nat} (hu : u < 12) (hk : k < 8) : mIsOf w (mGs w) (nI u) k = bt (cUp (A 3) (mGs w) (A 2 u)) k :=
  isOf_eq (fun _ ha => h.ow ha) h.ok.gs8 (h.ml hu) (fun _ ha => h.nn ha) (by omega) (fun _ ha => h.mm hu ha) hk
theorem Rel.members (h : Rel F A w t) {u x : Nat} (hu : u < 12) (hx : x < mGs w) : bt (sUsersIn (A 2) (A 3) (mGs w) (nI x)) u = mIsOf w (mGs w) (nI u) x :=
  usersIn_eq (fun _ ha => h.ow ha) (fun _ hg ha => h.oz hg ha) h.ok.gs8 (fun _ ha => h.nn ha) hu (h.ml hu) (fun _ ha => h.mm hu ha) hx
theorem Rel.howMany (h : Rel F A w t) {x : Nat} (hx : x < mGs w) : jBc (sUsersIn (A 2) (A 3) (mGs w) (nI x)) = mHow w (mGs w) x (mUs w) 0 0 :=
  howMany_eq (fun _ ha => h.ow ha) (fun _ hg ha => h.oz hg ha) h.ok.gs8 (fun _ ha => h.nn ha) (fun _ hu => h.ml hu) (fun _ _ hu ha => h.mm hu ha) h.ok.us12 (fun _ ha => h.wl ha) hx
theorem Rel.out (h : Rel F A w t) {j : Nat} (hj : j < 8) (k : Nat) : bt (cUp (A 3) (mGs w) (A 3 j)) k = bt (mOut w j) k := by
  rw [Bool.eq_iff_iff, cUp_iff (fun _ ha => h.ow ha) (h.ow hj), mOut_iff (fun _ ha => h.nl ha) h.ok.gs8 hj]
  constructor
  · intro hr S h1 h2
    exact hr S (fun a ha => h1 a (by rw [← h.nn hj]; exact ha)) (fun a b ha h8 hb => h2 a b ha h8 (by show bt (w (10 + a)) b = true; rw [← h.nn h8]; exact hb))
  · intro hr S h1 h2
    exact hr S (fun a ha => h1 a (by rw [h.nn hj]; exact ha)) (fun a b ha h8 hb => h2 a b ha h8 (by show bt (A 3 a) b = true; rw [h.nn h8]; exact hb))
end REL
