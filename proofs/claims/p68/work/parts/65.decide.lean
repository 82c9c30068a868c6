/-! what is decided -/
theorem eCode_d : ∀ kd, kd < 4 → ∀ n, n < 12 → ∀ r, r < 16 → ∀ a b : Bool, eRights (eCode (nI kd) (nI n) (nI r) a b) = nI r ∧ eAllows (eCode (nI kd) (nI n) (nI r) a b) = a ∧ eBelow (eCode (nI kd) (nI n) (nI r) a b) = b ∧ eKind (eCode (nI kd) (nI n) (nI r) a b) = nI kd ∧ eNum (eCode (nI kd) (nI n) (nI r) a b) = nI n := by decide +kernel
theorem eC_d {w : Nat → Int32} {o i : Nat} (h : eOk w o i) : eRights (eC w o i) = w (enA o i 2) ∧ eAllows (eC w o i) = decide (w (enA o i 3) = 1) ∧ eBelow (eC w o i) = decide (w (enA o i 4) = 1) ∧ eKind (eC w o i) = w (enA o i 0) ∧ eNum (eC w o i) = w (enA o i 1) := by
  obtain ⟨kd, n, r, h1, h2, h3, e1, e2, e3⟩ := h
  unfold eC
  rw [e1, e2, e3]
  exact eCode_d kd h1 n h2 r h3.2 _ _
theorem stl_at (rs pl cd : Int32) : ∀ (n j : Nat) (q : pRow) (r : Nat), j + n ≤ 32 → (stl rs pl cd n j q).1 r = (if (j ≤ r ∧ r < j + n) ∧ bt rs r = true then pl else q.1 r) ∧ (stl rs pl cd n j q).2 r = (if (j ≤ r ∧ r < j + n) ∧ bt rs r = true then cd else q.2 r) := by
  intro n
  induction n with
  | zero =>
    intro j q r _
    have hn : ¬ ((j ≤ r ∧ r < j + 0) ∧ bt rs r = true) := fun z => absurd z.1 (by omega)
    rw [stl, if_neg hn, if_neg hn]
    exact ⟨rfl, rfl⟩
  | succ n ih =>
    intro j q r hj
    rw [stl, jHas_bt rs (by omega)]
    obtain ⟨i1, i2⟩ := ih (j + 1) (if bt rs j = true then (upd q.1 j pl, upd q.2 j cd) else q) r (by omega)
    rw [i1, i2]
    by_cases hr : r = j
    · subst hr
      have hn : ¬ ((r + 1 ≤ r ∧ r < r + 1 + n) ∧ bt rs r = true) := fun z => absurd z.1.1 (by omega)
      rw [if_neg hn, if_neg hn]
      by_cases hb : bt rs r = true
      · rw [if_pos hb, if_pos ⟨⟨Nat.le_refl _, by omega⟩, hb⟩, if_pos ⟨⟨Nat.le_refl _, by omega⟩, hb⟩]
        exact ⟨if_pos rfl, if_pos rfl⟩
      · rw [if_neg hb, if_neg (fun z => hb z.2), if_neg (fun z => hb z.2)]
        exact ⟨rfl, rfl⟩
    · have e : ((j + 1 ≤ r ∧ r < j + 1 + n) ∧ bt rs r = true) ↔ ((j ≤ r ∧ r < j + (n + 1)) ∧ bt rs r = true) := by
        constructor
        · rintro ⟨h1, h2⟩; exact ⟨by omega, h2⟩
        · rintro ⟨h1, h2⟩; exact ⟨by omega, h2⟩
      have e2 : (if bt rs j = true then (upd q.1 j pl, upd q.2 j cd) else q).1 r = q.1 r ∧ (if bt rs j = true then (upd q.1 j pl, upd q.2 j cd) else q).2 r = q.2 r := by
        by_cases hb : bt rs j = true
        · rw [if_pos hb]; exact ⟨if_neg hr, if_neg hr⟩
        · rw [if_neg hb]; exact ⟨rfl, rfl⟩
      rw [e2.1, e2.2]
      by_cases hc : (j ≤ r ∧ r < j + (n + 1)) ∧ bt rs r = true
      · rw [if_pos hc, if_pos hc, if_pos (e.mpr hc), if_pos (e.mpr hc)]; exact ⟨rfl, rfl⟩
      · rw [if_neg hc, if_neg hc, if_neg (fun z => hc (e.mp z)), if_neg (fun z => hc (e.mp z))]; exact ⟨rfl, rfl⟩
/-- what stands for right r: still open, or decided by (d, x) -/
def Stt (q : pRow × Int32) (r : Nat) (v : Option (Int32 × Int32)) : Prop := match v with
  | none => bt q.2 r = true ∧ q.1.1 r = -1 ∧ q.1.2 r = 0
  | some z => bt q.2 r = false ∧ q.1.1 r = z.1 ∧ q.1.2 r = z.2
theorem dStep_open {u gs : Int32} {own cts : Bool} {pl x : Int32} {q : pRow × Int32} {r : Nat} (hr : r < 4) (h : Stt q r none) : Stt (dStep u gs own cts pl x q) r (if (cts && eFor x u gs own) = true ∧ bt (eRights x) r = true then some (pl, x) else none) := by
  obtain ⟨h1, h2, h3⟩ := h
  unfold dStep
  by_cases hc : (cts && eFor x u gs own) = true
  · rw [if_pos hc]
    obtain ⟨s1, s2⟩ := stl_at (eRights x &&& q.2) pl x 4 0 q.1 r (by decide)
    by_cases hb : bt (eRights x) r = true
    · rw [if_pos ⟨hc, hb⟩]
      have e : (0 ≤ r ∧ r < 0 + 4) ∧ bt (eRights x &&& q.2) r = true := ⟨⟨Nat.zero_le _, by omega⟩, by rw [b_and, hb, h1]; rfl⟩
      rw [if_pos e] at s1 s2
      exact ⟨by rw [b_and, b_not _ (by omega), hb]; simp, s1, s2⟩
    · rw [if_neg (fun z => hb z.2)]
      have e : ¬ ((0 ≤ r ∧ r < 0 + 4) ∧ bt (eRights x &&& q.2) r = true) := by
        rintro ⟨_, z⟩
        rw [b_and, Bool.and_eq_true] at z
        exact hb z.1
      rw [if_neg e] at s1 s2
      refine ⟨?_, s1.trans h2, s2.trans h3⟩
      rw [b_and, b_not _ (by omega), h1, Bool.eq_false_iff.mpr hb]
      rfl
  · rw [if_neg hc, if_neg (fun z => hc z.1)]
    exact ⟨h1, h2, h3⟩
theorem dStep_done {u gs : Int32} {own cts : Bool} {pl x : Int32} {q : pRow × Int32} {r : Nat} {z : Int32 × Int32} (h : Stt q r (some z)) : Stt (dStep u gs own cts pl x q) r (some z) := by
  obtain ⟨h1, h2, h3⟩ := h
  unfold dStep
  by_cases hc : (cts && eFor x u gs own) = true
  · rw [if_pos hc]
    obtain ⟨s1, s2⟩ := stl_at (eRights x &&& q.2) pl x 4 0 q.1 r (by decide)
    have e : ¬ ((0 ≤ r ∧ r < 0 + 4) ∧ bt (eRights x &&& q.2) r = true) := by
      rintro ⟨_, z⟩
      rw [b_and, h1, Bool.and_false] at z
      cases z
    rw [if_neg e] at s1 s2
    exact ⟨by rw [b_and, h1, Bool.false_and], s1.trans h2, s2.trans h3⟩
  · rw [if_neg hc]
    exact ⟨h1, h2, h3⟩
theorem dEnt_done {en : Nat → Int32} {u gs : Int32} {own l0 : Bool} {o cnt : Int32} {r : Nat} {z : Int32 × Int32} : ∀ (n j : Nat) (q : pRow × Int32), Stt q r (some z) → Stt (dEnt en u gs own l0 o cnt n j q) r (some z) := by
  intro n
  induction n with
  | zero => intro j q h; exact h
  | succ n ih =>
    intro j q h
    rw [dEnt]
    by_cases hc : nI j < cnt
    · rw [if_pos hc]; exact ih _ _ (dStep_done h)
    · rw [if_neg hc]; exact h
theorem dLev_done {ct en : Nat → Int32} {up : Int32 → Int32} {u gs : Int32} {own : Bool} {r : Nat} {z : Int32 × Int32} : ∀ (n lv : Nat) (o : Int32) (q : pRow × Int32), Stt q r (some z) → (dLev ct en up u gs own n lv o q).1 r = z.1 ∧ (dLev ct en up u gs own n lv o q).2 r = z.2 := by
  intro n
  induction n with
  | zero => intro lv o q h; exact ⟨h.2.1, h.2.2⟩
  | succ n ih =>
    intro lv o q h
    rw [dLev]
    by_cases hc : o = -1 ∨ q.2 = 0
    · rw [if_pos hc]; exact ⟨h.2.1, h.2.2⟩
    · rw [if_neg hc]; exact ih _ _ _ (dEnt_done 6 0 q h)
/-- the deciding entry's code -/
def cdOf (A : Nat → Nat → Int32) (d : Int32) : Int32 := if d < 0 then 0 else A 10 d.toNatClampNeg
section DEC
variable {F A : Nat → Nat → Int32} {w : Nat → Int32} {t : Nat}
theorem sEnt_at (v : Nat → Int32) {o i : Nat} (ho : o < 20) (hi : i < 6) : sEnt v (nI o) (nI i) = v (o * 6 + i) := by
  unfold sEnt
  rw [if_pos ⟨jIdx20 ho, jIdx6 hi⟩, show (6 : Int32) = nI 6 from rfl, nI_mul, nI_add, nI_clamp (by omega)]
theorem sCnt_at (v : Nat → Int32) {o : Nat} (ho : o < 20) : sCnt v (nI o) = v o := by
  unfold sCnt
  rw [if_pos (jIdx20 ho), nI_clamp (by omega)]
theorem Rel.cnt (h : Rel F A w t) {o : Nat} (ho : o < 20) : sCnt (A 9) (nI o) = nI (mCt w o) := by rw [sCnt_at _ ho, h.ct ho, h.ok.ct ho]
/-- the entry counts for the user -/
theorem Rel.for (h : Rel F A w t) {gs : Int32} {own : Bool} {o li i u : Nat} (hu : u < 12) (hli : li < 20) (hi : i < mCt w li) (hgs : gs = cUp (A 3) (mGs w) (A 2 u)) (hown : own = decide (w (oA o 2) = nI u)) : eFor (eC w li i) (nI u) gs own = mFor w (nI u) o li i := by
  have he := h.eo hli hi
  obtain ⟨-, -, -, e4, e5⟩ := eC_d he
  obtain ⟨kd, n, r, h1, h2, h3, k1, k2, k3⟩ := he
  have h6 := h.ok.ct6 hli
  unfold eFor mFor
  rw [e4, e5]
  by_cases c0 : w (enA li i 0) = 0
  · rw [if_pos c0, if_pos c0]
  · rw [if_neg c0, if_neg c0]
    by_cases c1 : w (enA li i 0) = 1
    · rw [if_pos c1, if_pos c1]
      obtain ⟨j, hj, ej⟩ := h.ok.who hli (by omega) c1
      rw [ej, nI_clamp (by omega), jHas_bt _ (by omega), h.groups hu hj, hgs]
    · rw [if_neg c1, if_neg c1, hown]
theorem Rel.ent (h : Rel F A w t) {gs : Int32} {own l0 : Bool} {o li u r : Nat} (hr : r < 4) (hu : u < 12) (hli : li < 20) (hgs : gs = cUp (A 3) (mGs w) (A 2 u)) (hown : own = decide (w (oA o 2) = nI u)) (hl0 : l0 = decide (nI li = nI o)) : ∀ (n m j : Nat) (q : pRow × Int32), m + j = mCt w li → n + j = 6 → Stt q r none → Stt (dEnt (A 10) (nI u) gs own l0 (nI li) (nI (mCt w li)) n j q) r ((mDeI w (nI u) o (nI r) li m j).map fun i => (nI (6 * li + i), A 10 (6 * li + i))) := by
  have h6 := h.ok.ct6 hli
  intro n
  induction n with
  | zero =>
    intro m j q hm hn hq
    rw [show m = 0 by omega, mDeI, dEnt]
    exact hq
  | succ n ih =>
    intro m j q hm hn hq
    rw [dEnt]
    cases m with
    | zero =>
      rw [if_neg (nI_nlt (by omega) (by omega)), mDeI]
      exact hq
    | succ m =>
      have hi : j < mCt w li := by omega
      rw [if_pos (nI_lt hi (by omega)), sEnt_at _ hli (by omega), h.en hli hi, mDeI]
      have hs := dStep_open (u := nI u) (gs := gs) (own := own) (cts := l0 || eBelow (eC w li j)) (pl := nI li * 6 + nI j) (x := eC w li j) hr hq
      obtain ⟨d1, -, d3, -, -⟩ := eC_d (h.eo hli hi)
      have hco : ((l0 || eBelow (eC w li j)) && eFor (eC w li j) (nI u) gs own) = true ∧ bt (eRights (eC w li j)) r = true ↔ mCo w (nI u) o (nI r) li j = true := by
        rw [h.for hu hli hi hgs hown, d1, d3, hl0]
        unfold mCo
        rw [mHas_bt _ (by omega)]
        simp only [Bool.and_eq_true]
        constructor
        · rintro ⟨⟨h1, h2⟩, h3⟩; exact ⟨h1, h3, h2⟩
        · rintro ⟨h1, h3, h2⟩; exact ⟨⟨h1, h2⟩, h3⟩
      by_cases hc : mCo w (nI u) o (nI r) li j = true
      · rw [if_pos hc]
        rw [if_pos (hco.mpr hc)] at hs
        have := dEnt_done (en := A 10) (u := nI u) (gs := gs) (own := own) (l0 := l0) (o := nI li) (cnt := nI (mCt w li)) n (j + 1) _ hs
        rw [Option.map_some, ← show nI li * 6 + nI j = nI (6 * li + j) by rw [show (6 : Int32) = nI 6 from rfl, nI_mul, nI_add, Nat.mul_comm], show A 10 (6 * li + j) = eC w li j by rw [← h.en hli hi, Nat.mul_comm]]
        exact this
      · rw [if_neg hc]
        rw [if_neg (fun z => hc (hco.mp z))] at hs
        exact ih m (j + 1) _ (by omega) (by omega) hs
theorem Rel.up (h : Rel F A w t) {j : Nat} (hj : j < 20) (h1 : w (oA j 0) = 1) : tUp (F 4 0) (F 4 1) (A 5) (nI j) = (if w (oA j 4) = 1 then w (oA j 1) else -1) := by
  unfold tUp
  rw [h.inh hj h1]
  by_cases h2 : w (oA j 4) = 1
  · rw [if_pos h2, decide_eq_true h2, if_pos rfl, h.tAt5 hj h1]
  · rw [if_neg h2, decide_eq_false h2, if_neg (by decide)]
/-- a climb, seen from one right -/
theorem Rel.lev (h : Rel F A w t) {gs : Int32} {own : Bool} {o u r : Nat} {rk : Nat → Nat} (hrk : ∀ o, o < 20 → rk o < 20 ∧ (w (oA o 1) = -1 ∨ ∃ j, j < 20 ∧ w (oA o 1) = nI j ∧ rk j < rk o)) (hr : r < 4) (hu : u < 12) (ho : o < 20) (hgs : gs = cUp (A 3) (mGs w) (A 2 u)) (hown : own = decide (w (oA o 2) = nI u)) : ∀ (n lv : Nat) (x : Int32) (q : pRow × Int32), n + lv = 20 → (x = -1 ∧ 0 < lv ∨ ∃ j, j < 20 ∧ w (oA j 0) = 1 ∧ x = nI j ∧ (lv = 0 ∧ j = o ∨ 0 < lv ∧ rk j < rk o)) → Stt q r none →
    (dLev (A 9) (A 10) (tUp (F 4 0) (F 4 1) (A 5)) (nI u) gs own n lv x q).1 r = mDe w (nI u) o (nI r) n x ∧ (dLev (A 9) (A 10) (tUp (F 4 0) (F 4 1) (A 5)) (nI u) gs own n lv x q).2 r = cdOf A (mDe w (nI u) o (nI r) n x) := by
  intro n
  induction n with
  | zero =>
    intro lv x q _ _ hq
    rw [dLev, mDe]
    exact ⟨hq.2.1, hq.2.2⟩
  | succ n ih =>
    intro lv x q hn hx hq
    have hop : ¬ q.2 = 0 := by
      intro z
      have := hq.1
      rw [z, b_0] at this
      cases this
    rw [dLev]
    rcases hx with ⟨rfl, hlv⟩ | ⟨j, hj, h1, rfl, hlv⟩
    · rw [if_pos (Or.inl rfl), mDe_m1]
      exact ⟨hq.2.1, hq.2.2⟩
    · rw [if_neg (fun z => z.elim (fun z => neg1_ne (by omega) z.symm) hop), mDe, if_neg (nI_pos (by omega)), nI_clamp (by omega), h.cnt hj, h.up hj h1]
      have hl0 : decide (nI lv = (0 : Int32)) = decide (nI j = nI o) := by
        rw [Bool.eq_iff_iff, decide_eq_true_eq, decide_eq_true_eq, show (0 : Int32) = nI 0 from rfl, nI_eq (by omega) (by decide), nI_eq (by omega) (by omega)]
        rcases hlv with ⟨h2, h3⟩ | ⟨h2, h3⟩
        · exact ⟨fun _ => h3, fun _ => h2⟩
        · constructor
          · intro z; omega
          · intro z; subst z; omega
      have hE := h.ent (q := q) hr hu hj hgs hown hl0 6 (mCt w j) 0 rfl rfl hq
      cases hm : mDeI w (nI u) o (nI r) j (mCt w j) 0 with
      | some i =>
        rw [hm] at hE
        have hD := dLev_done (ct := A 9) (en := A 10) (up := tUp (F 4 0) (F 4 1) (A 5)) (u := nI u) (gs := gs) (own := own) n (lv + 1) (if w (oA j 4) = 1 then w (oA j 1) else -1) _ hE
        have hlt := mDeI_lt _ _ hm
        have h6 := h.ok.ct6 hj
        refine ⟨hD.1, ?_⟩
        show _ = cdOf A (nI (6 * j + i))
        rw [cdOf, if_neg (nI_pos (by omega)), nI_clamp (by omega)]
        exact hD.2
      | none =>
        rw [hm] at hE
        try dsimp only
        refine ih (lv + 1) _ _ (by omega) ?_ hE
        by_cases h2 : w (oA j 4) = 1
        · rw [if_pos h2]
          rcases h.par hj h1 with z | ⟨k, h3, h4, h5⟩
          · exact Or.inl ⟨z, by omega⟩
          · refine Or.inr ⟨k, h3, h5, h4, Or.inr ⟨by omega, ?_⟩⟩
            rcases (hrk j hj).2 with z | ⟨k3, h8, h9, h10⟩
            · rw [h4] at z; exact absurd z.symm (neg1_ne (by omega))
            · rw [h4, nI_eq (by omega) (by omega)] at h9
              subst h9
              rcases hlv with ⟨_, rfl⟩ | ⟨_, h11⟩
              · exact h10
              · omega
        · rw [if_neg h2]; exact Or.inl ⟨rfl, by omega⟩
end DEC
