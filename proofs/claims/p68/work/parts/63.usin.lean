/-! who belongs: by members -/
theorem and_ne {x y : Int32} : ¬ x &&& y = 0 ↔ ∃ k, k < 32 ∧ bt x k = true ∧ bt y k = true := by
  constructor
  · intro h
    refine Classical.byContradiction fun hn => h (b_ext fun i hi => ?_)
    rw [b_and, b_0]
    cases hx : bt x i with
    | false => rfl
    | true =>
      cases hy : bt y i with
      | false => rfl
      | true => exact absurd ⟨i, hi, hx, hy⟩ hn
  · rintro ⟨k, _, h1, h2⟩ h
    have h3 := congrArg (fun z => bt z k) h
    try dsimp only at h3
    rw [b_and, h1, h2, b_0] at h3
    cases h3
theorem setL_bt (p : Nat → Prop) [DecidablePred p] (f : Nat → Nat → Int32 → Int32) (h0 : ∀ j r, f 0 j r = r) (h1 : ∀ n j r, f (n + 1) j r = f n (j + 1) (if p j then r else r ||| ((1 : Int32) <<< (nI j &&& 31)))) : ∀ (n j : Nat) (r : Int32), j + n ≤ 32 → ∀ k, bt (f n j r) k = true ↔ (bt r k = true ∨ (j ≤ k ∧ k < j + n ∧ ¬ p k)) := by
  intro n
  induction n with
  | zero =>
    intro j r _ k
    rw [h0]
    exact ⟨Or.inl, fun h => h.elim id (fun ⟨h1, h2, _⟩ => absurd h2 (by omega))⟩
  | succ n ih =>
    intro j r hj k
    rw [h1, ih (j + 1) _ (by omega)]
    have e : bt (if p j then r else r ||| ((1 : Int32) <<< (nI j &&& 31))) k = true ↔ (bt r k = true ∨ (k = j ∧ ¬ p j)) := by
      by_cases hp : p j
      · rw [if_pos hp]
        exact ⟨Or.inl, fun h => h.elim id (fun ⟨_, h⟩ => absurd hp h)⟩
      · rw [if_neg hp, b_or, Bool.or_eq_true]
        rcases Nat.lt_or_ge k 32 with hk | hk
        · rw [b_p j (by omega) hk, decide_eq_true_eq]
          exact ⟨fun h => h.elim Or.inl (fun h => Or.inr ⟨h, hp⟩), fun h => h.elim Or.inl (fun h => Or.inr h.1)⟩
        · rw [b_big hk, b_big hk]
          exact ⟨fun h => h.elim Or.inl (fun h => absurd h (by decide)), fun h => h.elim Or.inl (fun h => absurd h.1 (by omega))⟩
    rw [e]
    constructor
    · rintro ((h | ⟨rfl, h⟩) | ⟨h1, h2, h3⟩)
      · exact Or.inl h
      · exact Or.inr ⟨Nat.le_refl _, by omega, h⟩
      · exact Or.inr ⟨by omega, by omega, h3⟩
    · rintro (h | ⟨h1, h2, h3⟩)
      · exact Or.inl (Or.inl h)
      · by_cases hk : k = j
        · subst hk; exact Or.inl (Or.inr ⟨rfl, h3⟩)
        · exact Or.inr ⟨by omega, by omega, h3⟩
theorem dIn_bt (o : Nat → Int32) (b : Int32) (n j : Nat) (r : Int32) (hj : j + n ≤ 32) (k : Nat) : bt (dIn o b n j r) k = true ↔ (bt r k = true ∨ (j ≤ k ∧ k < j + n ∧ ¬ o k &&& b = 0)) :=
  setL_bt (fun j => o j &&& b = 0) (dIn o b) (fun _ _ => rfl) (fun _ _ _ => rfl) n j r hj k
theorem uIn_bt (w : Nat → Int32) (b : Int32) (n j : Nat) (r : Int32) (hj : j + n ≤ 32) (k : Nat) : bt (uIn w b n j r) k = true ↔ (bt r k = true ∨ (j ≤ k ∧ k < j + n ∧ ¬ w k &&& b = 0)) :=
  setL_bt (fun j => w j &&& b = 0) (uIn w b) (fun _ _ => rfl) (fun _ _ _ => rfl) n j r hj k
/-- from k x is reached -/
def Bck (o : Nat → Int32) (x k : Nat) : Prop := k = x ∨ (k < 8 ∧ Rch o (fun b => bt (o k) b = true) x)
theorem Bck.step {o : Nat → Int32} {x j b : Nat} (hj : j < 8) (hb : bt (o j) b = true) (h : Bck o x b) : Bck o x j := by
  rcases h with rfl | ⟨h8, h⟩
  · exact Or.inr ⟨hj, Rch.base hb⟩
  · exact Or.inr ⟨hj, Rch.into (s := fun b => bt (o j) b = true) hb h8 h⟩
theorem dUp_done {o : Nat → Int32} {g x : Nat} (hz : ∀ a, g ≤ a → a < 8 → o a = 0) (hg : g ≤ 8) : ∀ (n : Nat) (r : Int32), bLt r g → bt r x = true → (∀ k, bt r k = true → Bck o x k) → g ≤ cF (bt r) g 0 + n → bt (dUp o n r) x = true ∧ (∀ j b, j < 8 → bt (o j) b = true → bt (dUp o n r) b = true → bt (dUp o n r) j = true) ∧ (∀ k, bt (dUp o n r) k = true → Bck o x k) := by
  intro n
  induction n with
  | zero =>
    intro r hr h1 h2 h3
    rw [dUp]
    refine ⟨h1, fun j b hj hb _ => ?_, h2⟩
    rcases Nat.lt_or_ge j g with z | z
    · exact cF_full g 0 h3 j (Nat.zero_le _) (by omega)
    · rw [hz j z hj, b_0] at hb; cases hb
  | succ n ih =>
    intro r hr h1 h2 h3
    have hbt := dIn_bt o r 8 0 r (by decide)
    rw [dUp]
    by_cases he : dIn o r 8 0 r = r
    · rw [if_pos he]
      refine ⟨h1, fun j b hj hb h4 => ?_, h2⟩
      have h5 := (hbt j).mpr (Or.inr ⟨Nat.zero_le _, by omega, and_ne.mpr ⟨b, ?_, hb, h4⟩⟩)
      · rwa [he] at h5
      · rcases Nat.lt_or_ge b 32 with z | z
        · exact z
        · rw [b_big z] at hb; cases hb
    · rw [if_neg he]
      have hle : ∀ i, bt r i = true → bt (dIn o r 8 0 r) i = true := fun i h => (hbt i).mpr (Or.inl h)
      have hlt : bLt (dIn o r 8 0 r) g := by
        intro i hi
        cases h : bt (dIn o r 8 0 r) i with
        | false => rfl
        | true =>
          rcases (hbt i).mp h with h4 | ⟨_, h5, h6⟩
          · rw [hr i hi] at h4; cases h4
          · exact absurd (by rw [hz i hi (by omega)]; exact Int32.zero_and) h6
      refine ih _ hlt (hle _ h1) (fun k hk => ?_) ?_
      · rcases (hbt k).mp hk with h4 | ⟨_, h5, h6⟩
        · exact h2 k h4
        · obtain ⟨b, _, h7, h8⟩ := and_ne.mp h6
          exact Bck.step (by omega) h7 (h2 b h8)
      · obtain ⟨k, hk, h4, h5⟩ := b_ne he hle
        have := cF_lt g 0 k (fun i _ _ h => hle i h) (Nat.zero_le _) (by
          rcases Nat.lt_or_ge k g with z | z
          · omega
          · rw [hlt k z] at h5; cases h5) h4 h5
        omega
theorem dUp_iff {o : Nat → Int32} {g x : Nat} (hz : ∀ a, g ≤ a → a < 8 → o a = 0) (hg : g ≤ 8) (hx : x < g) (k : Nat) : bt (dUp o g ((1 : Int32) <<< (nI x &&& 31))) k = true ↔ Bck o x k := by
  have hp : ∀ i, bt ((1 : Int32) <<< (nI x &&& 31)) i = true → i = x := by
    intro i h
    rcases Nat.lt_or_ge i 32 with z | z
    · rw [b_p x (by omega) z, decide_eq_true_eq] at h; exact h
    · rw [b_big z] at h; cases h
  have hxx : bt ((1 : Int32) <<< (nI x &&& 31)) x = true := by rw [b_p x (by omega) (by omega), decide_eq_true rfl]
  obtain ⟨h1, h2, h3⟩ := dUp_done (x := x) hz hg g ((1 : Int32) <<< (nI x &&& 31)) (fun i hi => by
    cases h : bt ((1 : Int32) <<< (nI x &&& 31)) i with
    | false => rfl
    | true => have := hp i h; omega) hxx (fun k hk => Or.inl (hp k hk)) (by omega)
  refine ⟨h3 k, ?_⟩
  rintro (rfl | ⟨h8, hr⟩)
  · exact h1
  · refine hr (fun b => bt (dUp o g ((1 : Int32) <<< (nI x &&& 31))) b = true → bt (dUp o g ((1 : Int32) <<< (nI x &&& 31))) k = true) (fun a ha hb => h2 k a h8 ha hb) (fun a b ha ha8 hb hR => ha (h2 a b ha8 hb hR)) h1
theorem usersIn_eq {o w A2 : Nat → Int32} {g : Nat} (ho : ∀ a, a < 8 → bLt (o a) g) (hz : ∀ a, g ≤ a → a < 8 → o a = 0) (hg : g ≤ 8) (hw : ∀ a, a < 8 → o a = w (10 + a)) {u : Nat} (hu : u < 12) (hr : bLt (A2 u) g) (hm : ∀ a, a < 8 → bt (A2 u) a = bt (w (2 + a)) u) {x : Nat} (hx : x < g) : bt (sUsersIn A2 o g (nI x)) u = mIsOf w g (nI u) x := by
  rw [isOf_eq ho hg hr hw (by omega) hm (by omega), Bool.eq_iff_iff, cUp_iff ho hr, sUsersIn, uIn_bt _ _ 12 0 0 (by decide), b_0]
  have h8 : ∀ a, bt (A2 u) a = true → a < g := by
    intro a ha
    rcases Nat.lt_or_ge a g with z | z
    · exact z
    · rw [hr a z] at ha; cases ha
  constructor
  · rintro (h | ⟨_, _, h⟩)
    · cases h
    · obtain ⟨k, _, h1, h2⟩ := and_ne.mp h
      rcases (dUp_iff hz hg hx k).mp h2 with rfl | ⟨h3, h4⟩
      · exact Rch.base h1
      · exact Rch.into (s := fun b => bt (A2 u) b = true) h1 h3 h4
  · intro h
    right
    refine ⟨Nat.zero_le _, by omega, and_ne.mpr ?_⟩
    rcases Rch.cases (fun a ha => Nat.lt_of_lt_of_le (h8 a ha) hg) h with h1 | ⟨j, hj, h2⟩
    · exact ⟨x, by omega, h1, (dUp_iff hz hg hx x).mpr (Or.inl rfl)⟩
    · have := h8 j hj
      exact ⟨j, by omega, hj, (dUp_iff hz hg hx j).mpr (Or.inr ⟨by omega, h2⟩)⟩
theorem usersIn_lt (A2 o : Nat → Int32) (g : Nat) (x : Int32) : bLt (sUsersIn A2 o g x) 12 := by
  intro i hi
  cases h : bt (sUsersIn A2 o g x) i with
  | false => rfl
  | true =>
    rcases (uIn_bt _ _ 12 0 0 (by decide) i).mp h with h1 | ⟨_, h2, _⟩
    · rw [b_0] at h1; cases h1
    · omega
theorem mHow_c (w : Nat → Int32) (gs g : Nat) (n j : Nat) (t : Int32) : mHow w gs g n j t = t + nI (cF (fun k => mIsOf w gs (nI k) g) n j) :=
  loop_c (f := mHow w gs g) (a := fun j => if mIsOf w gs (nI j) g = true then 1 else 0) (b := fun k => (mIsOf w gs (nI k) g).toNat) (fun _ _ => rfl) (fun _ _ _ => rfl) n j t (fun i _ _ => (nI_bN _).symm)
theorem cF_add (p : Nat → Bool) (n m j : Nat) : cF p (n + m) j = cF p n j + cF p m (j + n) := sF_add _ n m j
theorem cF_zero {p : Nat → Bool} {n j : Nat} (h : ∀ i, j ≤ i → i < j + n → p i = false) : cF p n j = 0 := sF_zero n j (fun i h1 h2 => by (try dsimp only); rw [h i h1 h2]; rfl)
theorem howMany_eq {o w A2 : Nat → Int32} {g us : Nat} (ho : ∀ a, a < 8 → bLt (o a) g) (hz : ∀ a, g ≤ a → a < 8 → o a = 0) (hg : g ≤ 8) (hw : ∀ a, a < 8 → o a = w (10 + a)) (hr : ∀ u, u < 12 → bLt (A2 u) g) (hm : ∀ u a, u < 12 → a < 8 → bt (A2 u) a = bt (w (2 + a)) u) (hus : us ≤ 12) (hl : ∀ a, a < 8 → bLt (w (2 + a)) us) {x : Nat} (hx : x < g) : jBc (sUsersIn A2 o g (nI x)) = mHow w g x us 0 0 := by
  rw [jBc_bt (bLt_mono (usersIn_lt A2 o g (nI x)) (by decide)), mHow_c, Int32.zero_add]
  refine congrArg nI ?_
  rw [show (20 : Nat) = us + (20 - us) by omega, cF_add, cF_zero (n := 20 - us) (fun i h1 h2 => ?_), Nat.add_zero]
  · exact cF_congr fun i _ h2 => usersIn_eq ho hz hg hw (by omega) (hr i (by omega)) (fun a ha => hm i a (by omega) ha) hx
  · rcases Nat.lt_or_ge i 12 with z | z
    · rw [usersIn_eq ho hz hg hw z (hr i z) (fun a ha => hm i a z ha) hx, mIsOf, ← Bool.not_eq_true, mOf_iff w i (by omega) x g 0 _ (by omega), mHas_bt _ (by omega), hl x (by omega) i (by omega)]
      rintro (h | ⟨j, _, h3, h4, _⟩)
      · cases h
      · rw [hl j (by omega) i (by omega)] at h4; cases h4
    · exact usersIn_lt A2 o g (nI x) i z
