/-! who belongs: reaching -/
/-- k is reached from the set s by the rows o -/
def Rch (o : Nat → Int32) (s : Nat → Prop) (k : Nat) : Prop := ∀ S : Nat → Prop, (∀ a, s a → S a) → (∀ a b, S a → a < 8 → bt (o a) b = true → S b) → S k
theorem Rch.base {o : Nat → Int32} {s : Nat → Prop} {k : Nat} (h : s k) : Rch o s k := fun _ h1 _ => h1 k h
theorem Rch.step {o : Nat → Int32} {s : Nat → Prop} {a b : Nat} (h : Rch o s a) (ha : a < 8) (hb : bt (o a) b = true) : Rch o s b := fun S h1 h2 => h2 a b (h S h1 h2) ha hb
theorem Rch.mono {o : Nat → Int32} {s s2 : Nat → Prop} {k : Nat} (h : Rch o s k) (hs : ∀ a, s a → Rch o s2 a) : Rch o s2 k := fun S h1 h2 => h S (fun a ha => hs a ha S h1 h2) h2
theorem Rch.into {o : Nat → Int32} {s : Nat → Prop} {j k : Nat} (hj : s j) (hj8 : j < 8) (h : Rch o (fun b => bt (o j) b = true) k) : Rch o s k := h.mono fun _ hb => (Rch.base hj).step hj8 hb
theorem Rch.cases {o : Nat → Int32} {s : Nat → Prop} {k : Nat} (hs : ∀ a, s a → a < 8) (h : Rch o s k) : s k ∨ ∃ j, s j ∧ Rch o (fun b => bt (o j) b = true) k := by
  refine h (fun k => s k ∨ ∃ j, s j ∧ Rch o (fun b => bt (o j) b = true) k) (fun a ha => Or.inl ha) ?_
  rintro a b (ha | ⟨j, hj, hr⟩) h8 hb
  · exact Or.inr ⟨a, ha, Rch.base hb⟩
  · exact Or.inr ⟨j, hj, hr.step h8 hb⟩
theorem cF_mono {p q : Nat → Bool} : ∀ (n j : Nat), (∀ i, j ≤ i → i < j + n → p i = true → q i = true) → cF p n j ≤ cF q n j := by
  intro n
  induction n with
  | zero => intro j h; exact Nat.le_refl _
  | succ n ih =>
    intro j h
    have h1 := ih (j + 1) (fun i h1 h2 => h i (by omega) (by omega))
    have h2 := h j (Nat.le_refl _) (by omega)
    unfold cF at h1 ⊢
    rw [sF, sF]
    cases hp : p j with
    | false => have := Nat.zero_le (q j).toNat; simp only [Bool.toNat_false]; omega
    | true => rw [h2 hp]; omega
theorem cF_lt {p q : Nat → Bool} : ∀ (n j k : Nat), (∀ i, j ≤ i → i < j + n → p i = true → q i = true) → j ≤ k → k < j + n → p k = false → q k = true → cF p n j < cF q n j := by
  intro n
  induction n with
  | zero => intro j k h h1 h2; omega
  | succ n ih =>
    intro j k h h1 h2 h3 h4
    by_cases hk : k = j
    · subst hk
      have h5 := cF_mono n (k + 1) (fun i h1 h2 => h i (by omega) (by omega))
      unfold cF at h5 ⊢
      rw [sF, sF, h3, h4]
      simp only [Bool.toNat_false, Bool.toNat_true]
      omega
    · have h5 := ih (j + 1) k (fun i h1 h2 => h i (by omega) (by omega)) (by omega) (by omega) h3 h4
      have h6 := h j (Nat.le_refl _) (by omega)
      unfold cF at h5 ⊢
      rw [sF, sF]
      cases hp : p j with
      | false => have := Nat.zero_le (q j).toNat; simp only [Bool.toNat_false]; omega
      | true => rw [h6 hp]; omega
theorem cF_full {p : Nat → Bool} : ∀ (n j : Nat), n ≤ cF p n j → ∀ i, j ≤ i → i < j + n → p i = true := by
  intro n
  induction n with
  | zero => intro j h i h1 h2; omega
  | succ n ih =>
    intro j h i h1 h2
    have h3 := cF_le p n (j + 1)
    have h5 : cF p (n + 1) j = (p j).toNat + cF p n (j + 1) := rfl
    have h4 := bN_le (p j)
    by_cases hi : i = j
    · subst hi
      cases hp : p i with
      | true => rfl
      | false => rw [hp] at h5; simp only [Bool.toNat_false] at h5; omega
    · exact ih (j + 1) (by omega) i (by omega) (by omega)
theorem b_ne {x y : Int32} (h : ¬ x = y) (hle : ∀ i, bt y i = true → bt x i = true) : ∃ k, k < 32 ∧ bt y k = false ∧ bt x k = true := by
  refine Classical.byContradiction fun hn => h (b_ext fun i hi => ?_)
  cases hy : bt y i with
  | true => exact hle i hy
  | false =>
    cases hx : bt x i with
    | false => rfl
    | true => exact absurd ⟨i, hi, hy, hx⟩ hn
/-- one round grows the set, up to what is reached -/
def Grow (o : Nat → Int32) (g : Nat) (r r2 : Int32) : Prop := (∀ i, bt r i = true → bt r2 i = true) ∧ (∀ k, bt r2 k = true → Rch o (fun a => bt r a = true) k) ∧ (∀ a b, bt r a = true → a < 8 → bt (o a) b = true → bt r2 b = true) ∧ (bLt r g → bLt r2 g)
def Closd (o : Nat → Int32) (r : Int32) : Prop := ∀ a b, bt r a = true → a < 8 → bt (o a) b = true → bt r b = true
theorem closd_full {o : Nat → Int32} {g : Nat} {r : Int32} (ho : ∀ a, a < 8 → bLt (o a) g) (h : g ≤ cF (bt r) g 0) : Closd o r := by
  intro a b _ ha hb
  refine cF_full g 0 h b (Nat.zero_le _) ?_
  rcases Nat.lt_or_ge b g with z | z
  · omega
  · exact absurd hb (by rw [ho a ha b z]; decide)
theorem grow_cnt {o : Nat → Int32} {g : Nat} {r r2 : Int32} (hG : Grow o g r r2) (hr : bLt r g) (hne : ¬ r2 = r) : cF (bt r) g 0 + 1 ≤ cF (bt r2) g 0 := by
  obtain ⟨k, hk, h1, h2⟩ := b_ne hne hG.1
  refine cF_lt g 0 k (fun i _ _ h => hG.1 i h) (Nat.zero_le _) ?_ h1 h2
  rcases Nat.lt_or_ge k g with z | z
  · omega
  · exact absurd h2 (by rw [hG.2.2.2 hr k z]; decide)
/-- what is known at the end: the start is in it, it is closed, all of it is reached -/
def Done (o : Nat → Int32) (s : Nat → Prop) (r : Int32) : Prop := (∀ a, s a → bt r a = true) ∧ Closd o r ∧ ∀ k, bt r k = true → Rch o s k
theorem Done.iff {o : Nat → Int32} {s : Nat → Prop} {r : Int32} (h : Done o s r) (k : Nat) : bt r k = true ↔ Rch o s k := ⟨h.2.2 k, fun hr => hr (fun k => bt r k = true) h.1 h.2.1⟩
theorem cIn_bt (o : Nat → Int32) (b : Int32) : ∀ (n j : Nat) (r : Int32), j + n ≤ 32 → ∀ k, bt (cIn o b n j r) k = true ↔ (bt r k = true ∨ ∃ i, j ≤ i ∧ i < j + n ∧ bt b i = true ∧ bt (o i) k = true) := by
  intro n
  induction n with
  | zero =>
    intro j r _ k
    rw [cIn]
    exact ⟨Or.inl, fun h => h.elim id (fun ⟨i, h1, h2, _⟩ => absurd h2 (by omega))⟩
  | succ n ih =>
    intro j r hj k
    rw [cIn, ih (j + 1) _ (by omega), jHas_bt b (by omega)]
    constructor
    · rintro (h | ⟨i, h1, h2, h3⟩)
      · by_cases hb : bt b j = true
        · rw [if_pos hb, b_or, Bool.or_eq_true] at h
          exact h.elim Or.inl (fun h => Or.inr ⟨j, Nat.le_refl _, by omega, hb, h⟩)
        · rw [if_neg hb] at h; exact Or.inl h
      · exact Or.inr ⟨i, by omega, by omega, h3⟩
    · rintro (h | ⟨i, h1, h2, h3, h4⟩)
      · left
        by_cases hb : bt b j = true
        · rw [if_pos hb, b_or, h, Bool.true_or]
        · rw [if_neg hb]; exact h
      · by_cases hi : i = j
        · subst hi
          left
          rw [if_pos h3, b_or, h4, Bool.or_true]
        · exact Or.inr ⟨i, by omega, by omega, h3, h4⟩
theorem cIn_grow {o : Nat → Int32} {g : Nat} (ho : ∀ a, a < 8 → bLt (o a) g) (r : Int32) : Grow o g r (cIn o r 8 0 r) := by
  refine ⟨fun i h => (cIn_bt o r 8 0 r (by decide) i).mpr (Or.inl h), ?_, ?_, ?_⟩
  · intro k hk
    rcases (cIn_bt o r 8 0 r (by decide) k).mp hk with h | ⟨i, _, h2, h3, h4⟩
    · exact Rch.base h
    · exact (Rch.base (s := fun a => bt r a = true) h3).step (by omega) h4
  · intro a b h1 h2 h3
    exact (cIn_bt o r 8 0 r (by decide) b).mpr (Or.inr ⟨a, Nat.zero_le _, by omega, h1, h3⟩)
  · intro hr i hi
    cases h : bt (cIn o r 8 0 r) i with
    | false => rfl
    | true =>
      rcases (cIn_bt o r 8 0 r (by decide) i).mp h with h1 | ⟨j, _, h2, _, h4⟩
      · rw [hr i hi] at h1; cases h1
      · rw [ho j (by omega) i hi] at h4; cases h4
theorem cUp_done {o : Nat → Int32} {g : Nat} (ho : ∀ a, a < 8 → bLt (o a) g) (s : Nat → Prop) : ∀ (n : Nat) (r : Int32), bLt r g → (∀ a, s a → bt r a = true) → (∀ k, bt r k = true → Rch o s k) → g ≤ cF (bt r) g 0 + n → Done o s (cUp o n r) := by
  intro n
  induction n with
  | zero => intro r hr h1 h2 h3; rw [cUp]; exact ⟨h1, closd_full ho h3, h2⟩
  | succ n ih =>
    intro r hr h1 h2 h3
    have hG := cIn_grow ho r
    rw [cUp]
    by_cases he : cIn o r 8 0 r = r
    · rw [if_pos he]
      refine ⟨h1, fun a b ha h8 hb => ?_, h2⟩
      have := hG.2.2.1 a b ha h8 hb
      rwa [he] at this
    · rw [if_neg he]
      refine ih _ (hG.2.2.2 hr) (fun a ha => hG.1 a (h1 a ha)) (fun k hk => (hG.2.1 k hk).mono (fun a ha => h2 a ha)) ?_
      have := grow_cnt hG hr he
      omega
theorem mOK_bt (w : Nat → Int32) : ∀ (n j : Nat) (x : Int32), j + n ≤ 8 → Grow (fun k => w (10 + k)) 8 x (mOK w n j x) ∨ True := fun _ _ _ _ => Or.inr trivial
theorem mOK_le (w : Nat → Int32) : ∀ (n j : Nat) (x : Int32) (k : Nat), bt x k = true → bt (mOK w n j x) k = true := by
  intro n
  induction n with
  | zero => intro j x k h; exact h
  | succ n ih => intro j x k h; rw [mOK]; exact ih _ _ _ (by rw [b_or, h, Bool.true_or])
theorem mOK_has (w : Nat → Int32) : ∀ (n j : Nat) (x : Int32) (a b : Nat), j + n ≤ 32 → j ≤ a → a < j + n → bt x a = true → bt (w (10 + a)) b = true → bt (mOK w n j x) b = true := by
  intro n
  induction n with
  | zero => intro j x a b _ h1 h2; omega
  | succ n ih =>
    intro j x a b hj h1 h2 h3 h4
    rw [mOK, mHas_bt x (by omega)]
    by_cases ha : a = j
    · subst ha
      exact mOK_le w n _ _ _ (by rw [if_pos h3, b_or, h4, Bool.or_true])
    · exact ih _ _ a b (by omega) (by omega) (by omega) (by rw [b_or, h3, Bool.true_or]) h4
theorem mOK_rch (w : Nat → Int32) (s : Nat → Prop) : ∀ (n j : Nat) (x : Int32), j + n ≤ 8 → (∀ k, bt x k = true → Rch (fun k => w (10 + k)) s k) → ∀ k, bt (mOK w n j x) k = true → Rch (fun k => w (10 + k)) s k := by
  intro n
  induction n with
  | zero => intro j x _ h; exact h
  | succ n ih =>
    intro j x hj h k
    rw [mOK, mHas_bt x (by omega)]
    refine ih (j + 1) _ (by omega) (fun k hk => ?_) k
    rw [b_or, Bool.or_eq_true] at hk
    rcases hk with hk | hk
    · exact h k hk
    · by_cases hb : bt x j = true
      · rw [if_pos hb] at hk
        exact (h j hb).step (by omega) hk
      · rw [if_neg hb, b_0] at hk; cases hk
theorem mOK_lt (w : Nat → Int32) {g : Nat} : ∀ (n j : Nat) (x : Int32), j + n ≤ 8 → (∀ a, a < 8 → bLt (w (10 + a)) g) → bLt x g → bLt (mOK w n j x) g := by
  intro n
  induction n with
  | zero => intro j x _ _ h; exact h
  | succ n ih =>
    intro j x hj ho h
    rw [mOK]
    refine ih (j + 1) _ (by omega) ho (fun i hi => ?_)
    rw [b_or, h i hi, Bool.false_or]
    by_cases hb : mHas x (nI j) = true
    · rw [if_pos hb]; exact ho j (by omega) i hi
    · rw [if_neg hb]; exact b_0 i
theorem mOK_grow (w : Nat → Int32) {g : Nat} (ho : ∀ a, a < 8 → bLt (w (10 + a)) g) (x : Int32) : Grow (fun k => w (10 + k)) g x (mOK w 8 0 x) :=
  ⟨fun i h => mOK_le w 8 0 x i h, mOK_rch w _ 8 0 x (by decide) (fun _ h => Rch.base h), fun a b h1 h2 h3 => mOK_has w 8 0 x a b (by decide) (Nat.zero_le _) (by omega) h1 h3, fun hr => mOK_lt w 8 0 x (by decide) ho hr⟩
theorem mOR_fix (w : Nat → Int32) {x : Int32} (h : mOK w 8 0 x = x) : ∀ n, mOR w n x = x := by
  intro n
  induction n with
  | zero => rfl
  | succ n ih => rw [mOR, h, ih]
theorem mOR_done {w : Nat → Int32} {g : Nat} (ho : ∀ a, a < 8 → bLt (w (10 + a)) g) (s : Nat → Prop) : ∀ (n : Nat) (r : Int32), bLt r g → (∀ a, s a → bt r a = true) → (∀ k, bt r k = true → Rch (fun k => w (10 + k)) s k) → g ≤ cF (bt r) g 0 + n → Done (fun k => w (10 + k)) s (mOR w n r) := by
  intro n
  induction n with
  | zero => intro r hr h1 h2 h3; rw [mOR]; exact ⟨h1, closd_full ho h3, h2⟩
  | succ n ih =>
    intro r hr h1 h2 h3
    have hG := mOK_grow w ho r
    by_cases he : mOK w 8 0 r = r
    · rw [mOR_fix w he (n + 1)]
      refine ⟨h1, fun a b ha h8 hb => ?_, h2⟩
      have := hG.2.2.1 a b ha h8 hb
      rwa [he] at this
    · rw [mOR]
      refine ih _ (hG.2.2.2 hr) (fun a ha => hG.1 a (h1 a ha)) (fun k hk => (hG.2.1 k hk).mono (fun a ha => h2 a ha)) ?_
      have := grow_cnt hG hr he
      omega
theorem mOut_iff {w : Nat → Int32} {g : Nat} (ho : ∀ a, a < 8 → bLt (w (10 + a)) g) (hg : g ≤ 8) {j : Nat} (hj : j < 8) (k : Nat) : bt (mOut w j) k = true ↔ Rch (fun k => w (10 + k)) (fun b => bt (w (10 + j)) b = true) k := by
  unfold mOut
  exact (mOR_done ho (fun b => bt (w (10 + j)) b = true) 8 _ (ho j hj) (fun _ h => h) (fun _ h => Rch.base h) (by omega)).iff k
theorem cUp_iff {o : Nat → Int32} {g : Nat} (ho : ∀ a, a < 8 → bLt (o a) g) {r : Int32} (hr : bLt r g) (k : Nat) : bt (cUp o g r) k = true ↔ Rch o (fun b => bt r b = true) k :=
  (cUp_done ho (fun b => bt r b = true) g r hr (fun _ h => h) (fun _ h => Rch.base h) (by omega)).iff k
theorem mOf_iff (w : Nat → Int32) (u : Nat) (hu : u < 32) (g : Nat) : ∀ (n j : Nat) (b : Bool), g < 32 → (mOf w (nI u) g n j b = true ↔ (b = true ∨ ∃ i, j ≤ i ∧ i < j + n ∧ bt (w (2 + i)) u = true ∧ bt (mOut w i) g = true)) := by
  intro n
  induction n with
  | zero =>
    intro j b _
    rw [mOf]
    exact ⟨Or.inl, fun h => h.elim id (fun ⟨i, h1, h2, _⟩ => absurd h2 (by omega))⟩
  | succ n ih =>
    intro j b hg
    rw [mOf, ih (j + 1) _ hg, mHas_bt _ hu, mHas_bt _ hg, Bool.or_eq_true, Bool.and_eq_true]
    constructor
    · rintro ((h | ⟨h1, h2⟩) | ⟨i, h1, h2, h3⟩)
      · exact Or.inl h
      · exact Or.inr ⟨j, Nat.le_refl _, by omega, h1, h2⟩
      · exact Or.inr ⟨i, by omega, by omega, h3⟩
    · rintro (h | ⟨i, h1, h2, h3, h4⟩)
      · exact Or.inl (Or.inl h)
      · by_cases hi : i = j
        · subst hi; exact Or.inl (Or.inr ⟨h3, h4⟩)
        · exact Or.inr ⟨i, by omega, by omega, h3, h4⟩
/-- the class's groups of a user are the model's -/
theorem isOf_eq {o w : Nat → Int32} {g : Nat} {r : Int32} (ho : ∀ a, a < 8 → bLt (o a) g) (hg : g ≤ 8) (hr : bLt r g) (hw : ∀ a, a < 8 → o a = w (10 + a)) {u : Nat} (hu : u < 32) (hm : ∀ a, a < 8 → bt r a = bt (w (2 + a)) u) {k : Nat} (hk : k < 8) : mIsOf w g (nI u) k = bt (cUp o g r) k := by
  have how : ∀ a, a < 8 → bLt (w (10 + a)) g := fun a ha => by rw [← hw a ha]; exact ho a ha
  have hR : ∀ (s : Nat → Prop) (j : Nat), Rch o s j ↔ Rch (fun k => w (10 + k)) s j := by
    intro s j
    constructor
    · intro h S h1 h2
      exact h S h1 (fun a b ha h8 hb => h2 a b ha h8 (by show bt (w (10 + a)) b = true; rw [← hw a h8]; exact hb))
    · intro h S h1 h2
      exact h S h1 (fun a b ha h8 hb => h2 a b ha h8 (by rw [hw a h8]; exact hb))
  rw [Bool.eq_iff_iff, cUp_iff ho hr, mIsOf, mOf_iff w u hu k g 0 _ (by omega), mHas_bt _ hu]
  have h8 : ∀ a, bt r a = true → a < g := by
    intro a ha
    rcases Nat.lt_or_ge a g with z | z
    · exact z
    · rw [hr a z] at ha; cases ha
  constructor
  · rintro (h | ⟨i, _, h2, h3, h4⟩)
    · exact Rch.base (by rw [hm k hk]; exact h)
    · rw [mOut_iff how hg (by omega)] at h4
      rw [hR]
      exact h4.mono fun b hb => (Rch.base (s := fun b => bt r b = true) (by rw [hm i (by omega)]; exact h3)).step (by omega) hb
  · intro h
    rcases Rch.cases (fun a ha => Nat.lt_of_lt_of_le (h8 a ha) hg) h with h1 | ⟨j, hj, h2⟩
    · exact Or.inl (by rw [← hm k hk]; exact h1)
    · have hjg := h8 j hj
      refine Or.inr ⟨j, Nat.zero_le _, by omega, by rw [← hm j (by omega)]; exact hj, ?_⟩
      rw [mOut_iff how hg (by omega), ← hw j (by omega)]
      exact (hR _ _).mp h2
