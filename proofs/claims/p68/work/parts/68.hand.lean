/-! handing down -/
def ownL (f : Nat → Int32) : Nat → Nat → List Int32
  | 0, _ => []
  | n + 1, j => f j :: ownL f n (j + 1)
theorem ownL_len (f : Nat → Int32) : ∀ n j, (ownL f n j).length = n := by
  intro n
  induction n with
  | zero => intro j; rfl
  | succ n ih => intro j; rw [ownL, List.length_cons, ih]
/-- the list that is handed down to o -/
def LH (w : Nat → Int32) : Nat → Nat → List Int32
  | 0, _ => []
  | n + 1, o => ownL (eC w o) (mCt w o) 0 ++ (if w (oA o 4) = 1 ∧ ¬ w (oA o 1) < 0 then (LH w n (w (oA o 1)).toNatClampNeg).filter eBelow else [])
/-- what is laid down for o -/
def hL (q : hT) (o : Nat) (l : List Int32) : Prop := q.2.1 o = nI l.length ∧ l.length ≤ 120 ∧ ∀ i, i < l.length → q.2.2 (o * 120 + i) = l.getD i 0
theorem hPut_in {q : hT} {o : Nat} {l : List Int32} (x : Int32) (ho : o < 20) (h : hL q o l) (hl : l.length < 120) : hPut (nI o) x q = (q.1, upd q.2.1 o (nI (l.length + 1)), upd q.2.2 (o * 120 + l.length) x) := by
  obtain ⟨h1, h2, h3⟩ := h
  unfold hPut
  rw [nI_clamp (show o < 2 ^ 31 by omega), h1, if_pos ⟨jIdx20 ho, jIdx120 hl⟩, nI_1, show (120 : Int32) = nI 120 from rfl, nI_mul, nI_add, nI_clamp (by omega)]
theorem getD_app1 (l : List Int32) (x : Int32) (i : Nat) (h : i < l.length + 1) : (l ++ [x]).getD i 0 = if i = l.length then x else l.getD i 0 := by
  by_cases hi : i = l.length
  · rw [if_pos hi, hi]; simp
  · rw [if_neg hi, List.getD_eq_getElem?_getD, List.getD_eq_getElem?_getD, List.getElem?_append_left (by omega)]
theorem hPut_own {q : hT} {o : Nat} {l : List Int32} (x : Int32) (ho : o < 20) (h : hL q o l) (hl : l.length < 120) : hL (hPut (nI o) x q) o (l ++ [x]) := by
  rw [hPut_in x ho h hl]
  refine ⟨?_, ?_, ?_⟩
  · show upd q.2.1 o (nI (l.length + 1)) o = _
    rw [upd, if_pos rfl, List.length_append]
    rfl
  · rw [List.length_append]; show l.length + 1 ≤ 120; omega
  · intro i hi
    rw [List.length_append] at hi
    have hi2 : i < l.length + 1 := hi
    rw [getD_app1 l x i hi2]
    show upd q.2.2 (o * 120 + l.length) x (o * 120 + i) = _
    unfold upd
    by_cases h2 : i = l.length
    · rw [if_pos (by omega), if_pos h2]
    · rw [if_neg (by omega), if_neg h2]
      exact h.2.2 i (by omega)
theorem hPut_oth {q : hT} {o o2 : Nat} {l l2 : List Int32} (x : Int32) (ho : o < 20) (h : hL q o l) (hl : l.length < 120) (hne : ¬ o2 = o) (h2 : hL q o2 l2) : hL (hPut (nI o) x q) o2 l2 := by
  rw [hPut_in x ho h hl]
  refine ⟨?_, h2.2.1, ?_⟩
  · show upd q.2.1 o (nI (l.length + 1)) o2 = _
    rw [upd, if_neg hne]; exact h2.1
  · intro i hi
    have := h2.2.1
    show upd q.2.2 (o * 120 + l.length) x (o2 * 120 + i) = _
    rw [upd, if_neg (by omega)]
    exact h2.2.2 i hi
/-- q2 is q, but for o's list, which is l now -/
def hTo (q q2 : hT) (o : Nat) (l : List Int32) : Prop := q2.1 = q.1 ∧ hL q2 o l ∧ (∀ o2, ¬ o2 = o → q2.2.1 o2 = q.2.1 o2) ∧ ∀ o2 l2, ¬ o2 = o → hL q o2 l2 → hL q2 o2 l2
theorem hTo_put {q : hT} {o : Nat} {l : List Int32} (x : Int32) (ho : o < 20) (h : hL q o l) (hl : l.length < 120) : hTo q (hPut (nI o) x q) o (l ++ [x]) := by
  refine ⟨by rw [hPut_in x ho h hl], hPut_own x ho h hl, fun o2 hne => ?_, fun o2 l2 hne h2 => hPut_oth x ho h hl hne h2⟩
  rw [hPut_in x ho h hl]
  show upd q.2.1 o (nI (l.length + 1)) o2 = _
  rw [upd, if_neg hne]
theorem hTo.trans {q q2 q3 : hT} {o : Nat} {l l3 : List Int32} (h : hTo q q2 o l) (h2 : hTo q2 q3 o l3) : hTo q q3 o l3 :=
  ⟨h2.1.trans h.1, h2.2.1, fun o2 hne => (h2.2.2.1 o2 hne).trans (h.2.2.1 o2 hne), fun o2 l2 hne h5 => h2.2.2.2 o2 l2 hne (h.2.2.2 o2 l2 hne h5)⟩
theorem hTo.refl {q : hT} {o : Nat} {l : List Int32} (h : hL q o l) : hTo q q o l := ⟨rfl, h, fun _ _ => rfl, fun _ _ _ h => h⟩
section HND
variable {F A : Nat → Nat → Int32} {w : Nat → Int32} {t : Nat}
theorem Rel.ownLoop (h : Rel F A w t) {o : Nat} (ho : o < 20) : ∀ (n m j : Nat) (q : hT) (l : List Int32), m + j = mCt w o → n + j = 6 → hL q o l → l.length + m ≤ 120 → hTo q (hOwL (A 10) (nI o) (nI (mCt w o)) n j q) o (l ++ ownL (eC w o) m j) := by
  have h6 := h.ok.ct6 ho
  intro n
  induction n with
  | zero =>
    intro m j q l hm hn hq _
    rw [show m = 0 by omega, ownL, List.append_nil, hOwL]
    exact hTo.refl hq
  | succ n ih =>
    intro m j q l hm hn hq hl
    rw [hOwL]
    cases m with
    | zero =>
      rw [if_neg (nI_nlt (by omega) (by omega)), ownL, List.append_nil]
      exact hTo.refl hq
    | succ m =>
      rw [if_pos (nI_lt (by omega) (by omega)), sEnt_at _ ho (by omega), h.en ho (by omega), ownL]
      have h1 := hTo_put (eC w o j) ho hq (by omega)
      have h2 := ih m (j + 1) _ _ (by omega) (by omega) h1.2.1 (by rw [List.length_append]; show l.length + 1 + m ≤ 120; omega)
      rw [List.append_assoc] at h2
      exact h1.trans h2
theorem drop_cons9 (l : List Int32) (j : Nat) (h : j < l.length) : l.drop j = l.getD j 0 :: l.drop (j + 1) := by
  rw [List.getD_eq_getElem?_getD, List.getElem?_eq_getElem h, Option.getD_some]
  exact List.drop_eq_getElem_cons h
theorem hCode_at (v : Nat → Int32) {o i : Nat} (ho : o < 20) (hi : i < 120) : hCode v (nI o) (nI i) = v (o * 120 + i) := by
  unfold hCode
  rw [if_pos ⟨jIdx20 ho, jIdx120 hi⟩, show (120 : Int32) = nI 120 from rfl, nI_mul, nI_add, nI_clamp (by omega)]
theorem handLoop {p o : Nat} (hp : p < 20) (ho : o < 20) (hne : ¬ p = o) {lp : List Int32} : ∀ (n j : Nat) (q : hT) (l : List Int32), n + j = 120 → hL q p lp → hL q o l → l.length + (lp.drop j).length ≤ 120 → hTo q (hHL (nI p) (nI o) n j q) o (l ++ (lp.drop j).filter eBelow) := by
  intro n
  induction n with
  | zero =>
    intro j q l hn hqp hq hl
    have h0 : lp.drop j = [] := List.drop_eq_nil_of_le (by have := hqp.2.1; omega)
    rw [hHL, h0, List.filter_nil, List.append_nil]
    exact hTo.refl hq
  | succ n ih =>
    intro j q l hn hqp hq hl
    rw [hHL, sCnt_at _ hp, hqp.1]
    have h120 := hqp.2.1
    by_cases hj : j < lp.length
    · rw [if_pos (nI_lt hj (by omega)), hCode_at _ hp (by omega), hqp.2.2 j hj, drop_cons9 lp j hj, List.filter_cons]
      rw [drop_cons9 lp j hj, List.length_cons] at hl
      by_cases hb : eBelow (lp.getD j 0) = true
      · rw [if_pos hb, if_pos hb]
        have h1 := hTo_put (lp.getD j 0) ho hq (by omega)
        have h2 := ih (j + 1) _ _ (by omega) (h1.2.2.2 p lp hne hqp) h1.2.1 (by rw [List.length_append]; show l.length + 1 + _ ≤ 120; omega)
        rw [List.append_assoc] at h2
        exact h1.trans h2
      · rw [if_neg hb, if_neg hb]
        exact ih (j + 1) q l (by omega) hqp hq (by omega)
    · rw [if_neg (nI_nlt (by omega) (by omega)), List.drop_eq_nil_of_le (by omega), List.filter_nil, List.append_nil]
      exact hTo.refl hq
theorem LH_len (h : Rel F A w t) {rk : Nat → Nat} (hrk : ∀ o, o < 20 → rk o < 20 ∧ (w (oA o 1) = -1 ∨ ∃ j, j < 20 ∧ w (oA o 1) = nI j ∧ rk j < rk o)) : ∀ (n o : Nat), o < 20 → (LH w n o).length ≤ 6 * n := by
  intro n
  induction n with
  | zero => intro o _; exact Nat.le_refl _
  | succ n ih =>
    intro o ho
    have h6 := h.ok.ct6 ho
    rw [LH, List.length_append, ownL_len]
    by_cases hc : w (oA o 4) = 1 ∧ ¬ w (oA o 1) < 0
    · rw [if_pos hc]
      rcases (hrk o ho).2 with z | ⟨j, h1, h2, -⟩
      · exact absurd (by rw [z]; decide) hc.2
      · have h3 := List.length_filter_le eBelow (LH w n (w (oA o 1)).toNatClampNeg)
        rw [h2, nI_clamp (by omega)] at h3 ⊢
        have := ih j h1
        omega
    · rw [if_neg hc]
      show mCt w o + 0 ≤ _
      omega
theorem LH_fuel {rk : Nat → Nat} (hrk : ∀ o, o < 20 → rk o < 20 ∧ (w (oA o 1) = -1 ∨ ∃ j, j < 20 ∧ w (oA o 1) = nI j ∧ rk j < rk o)) : ∀ (n m o : Nat), o < 20 → rk o < n → rk o < m → LH w n o = LH w m o := by
  intro n
  induction n with
  | zero => intro m o _ h; omega
  | succ n ih =>
    intro m o ho h1 h2
    cases m with
    | zero => omega
    | succ m =>
      rw [LH, LH]
      congr 1
      by_cases hc : w (oA o 4) = 1 ∧ ¬ w (oA o 1) < 0
      · rw [if_pos hc, if_pos hc]
        rcases (hrk o ho).2 with z | ⟨j, h3, h4, h5⟩
        · exact absurd (by rw [z]; decide) hc.2
        · rw [h4, nI_clamp (by omega), ih m j h3 (by omega) (by omega)]
      · rw [if_neg hc, if_neg hc]
/-- what holds while it is handed down -/
def hInv (w : Nat → Int32) (q : hT) : Prop := (∀ o, o < 20 → bt q.1 o = true → w (oA o 0) = 1 ∧ hL q o (LH w 20 o)) ∧ (∀ o, o < 20 → bt q.1 o = false → q.2.1 o = 0) ∧ bt q.1 0 = true
theorem hL_nil {q : hT} {o : Nat} (h : q.2.1 o = 0) : hL q o [] := ⟨h, by decide, fun i hi => absurd hi (Nat.not_lt_zero i)⟩
theorem Rel.own (h : Rel F A w t) {G : GS} (e9 : G.2.1 0 9 = A 9) (e10 : G.2.1 0 10 = A 10) {o : Nat} (ho : o < 20) {q : hT} (hz : q.2.1 o = 0) : hTo (jChg q.1 (nI o) true, q.2) (hOwn G (nI o) q) o (ownL (eC w o) (mCt w o) 0) := by
  have h6 := h.ok.ct6 ho
  unfold hOwn
  rw [e9, e10, h.cnt ho]
  exact h.ownLoop ho 6 (mCt w o) 0 _ [] rfl rfl (hL_nil hz) (by show 0 + _ ≤ 120; omega)
theorem Rel.hSt_ (h : Rel F A w t) {G : GS} (e4 : G.1 0 4 = F 4) (e5 : G.2.1 0 5 = A 5) (e9 : G.2.1 0 9 = A 9) (e10 : G.2.1 0 10 = A 10) {o : Nat} (h0 : 0 < o) (ho : o < 20) {q : hT} (hq : hInv w q) : hInv w (hSt G (nI o) q) ∧ (∀ o2, bt q.1 o2 = true → bt (hSt G (nI o) q).1 o2 = true) ∧ (∀ p, p < 20 → w (oA o 0) = 1 → w (oA o 1) = nI p → bt q.1 p = true → bt (hSt G (nI o) q).1 o = true) := by
  obtain ⟨rk, hrk⟩ := h.ok.rk
  unfold hSt
  rw [e4, e5, jHas_bt _ (by omega)]
  by_cases h1 : w (oA o 0) = 1
  · obtain ⟨p, hp, e1, hpt⟩ := h.pa h0 ho h1
    rw [h.tAt5 ho h1, e1, jHas_bt _ (by omega), h.inh ho h1]
    by_cases hc : bt q.1 o = false ∧ bt q.1 p = true
    · rw [if_pos hc]
      have hpo : rk p < rk o := by
        rcases (hrk o ho).2 with z | ⟨k3, h8, h9, h10⟩
        · rw [e1] at z; exact absurd z.symm (neg1_ne (by omega))
        · rw [e1, nI_eq (by omega) (by omega)] at h9
          subst h9
          exact h10
      have hro := (hrk o ho).1
      have hne : ¬ p = o := fun z => by subst z; omega
      have ht := h.own e9 e10 ho (hq.2.1 o ho hc.1)
      have h6 := h.ok.ct6 ho
      have hlp : LH w 20 p = LH w (rk p + 1) p := LH_fuel hrk 20 (rk p + 1) p hp (hrk p hp).1 (by omega)
      have hlo : LH w 20 o = LH w (rk o + 1) o := LH_fuel hrk 20 (rk o + 1) o ho (hrk o ho).1 (by omega)
      have hpl := LH_len h hrk (rk p + 1) p hp
      have hfin : hTo (jChg q.1 (nI o) true, q.2) (hHd (nI p) (nI o) (decide (w (oA o 4) = 1)) (hOwn G (nI o) q)) o (LH w 20 o) := by
        have hpq : hL (jChg q.1 (nI o) true, q.2) p (LH w 20 p) := (hq.1 p hp hc.2).2
        have hp2 := ht.2.2.2 p _ hne hpq
        unfold hHd
        rw [hlo, LH, e1, nI_clamp (by omega)]
        by_cases h4 : w (oA o 4) = 1
        · rw [decide_eq_true h4, if_pos rfl, if_pos ⟨h4, nI_pos (by omega)⟩]
          have h7 := handLoop hp ho hne 120 0 _ _ rfl hp2 ht.2.1 (by rw [ownL_len, List.drop_zero, hlp]; omega)
          rw [List.drop_zero] at h7
          rw [show LH w (rk o) p = LH w 20 p from LH_fuel hrk (rk o) 20 p hp hpo (hrk p hp).1]
          exact ht.trans h7
        · rw [decide_eq_false h4, if_neg (by decide), if_neg (fun z => h4 z.1), List.append_nil]
          exact ht
      have hb : ∀ o2, o2 < 32 → bt (hHd (nI p) (nI o) (decide (w (oA o 4) = 1)) (hOwn G (nI o) q)).1 o2 = if o2 = o then true else bt q.1 o2 := fun o2 ho2 => by rw [hfin.1]; exact jChg_bt q.1 (by omega) true ho2
      refine ⟨⟨?_, ?_, ?_⟩, ?_, ?_⟩
      · intro o2 ho2 hb2
        rw [hb o2 (by omega)] at hb2
        by_cases h7 : o2 = o
        · subst h7; exact ⟨h1, hfin.2.1⟩
        · rw [if_neg h7] at hb2
          have h8 := hq.1 o2 ho2 hb2
          exact ⟨h8.1, hfin.2.2.2 o2 _ h7 h8.2⟩
      · intro o2 ho2 hb2
        rw [hb o2 (by omega)] at hb2
        by_cases h7 : o2 = o
        · rw [if_pos h7] at hb2; cases hb2
        · rw [if_neg h7] at hb2
          rw [hfin.2.2.1 o2 h7]
          exact hq.2.1 o2 ho2 hb2
      · rw [hb 0 (by decide), hq.2.2]
        by_cases h7 : 0 = o
        · rw [if_pos h7]
        · rw [if_neg h7]
      · intro o2 hb2
        rcases Nat.lt_or_ge o2 32 with z | z
        · rw [hb o2 z, hb2]
          by_cases h7 : o2 = o
          · rw [if_pos h7]
          · rw [if_neg h7]
        · rw [b_big z] at hb2; cases hb2
      · intro _ _ _ _ _
        rw [hb o (by omega), if_pos rfl]
    · rw [if_neg hc]
      refine ⟨hq, fun _ h => h, fun p2 hp2 _ e2 hb => ?_⟩
      rw [nI_eq (by omega) (by omega)] at e2
      subst e2
      cases hbo : bt q.1 o with
      | true => rfl
      | false => exact absurd ⟨hbo, hb⟩ hc
  · rw [h.tAtN ho h1, if_neg (fun z => absurd z.2 (by rw [jHas_neg]; decide))]
    exact ⟨hq, fun _ h => h, fun _ _ h2 => absurd h2 h1⟩
theorem Rel.hOb_ (h : Rel F A w t) {G : GS} (e4 : G.1 0 4 = F 4) (e5 : G.2.1 0 5 = A 5) (e9 : G.2.1 0 9 = A 9) (e10 : G.2.1 0 10 = A 10) : ∀ (n j : Nat) (q : hT), 0 < j → j + n = 20 → hInv w q → hInv w (hOb G n j q) ∧ (∀ o2, bt q.1 o2 = true → bt (hOb G n j q).1 o2 = true) ∧ (∀ o p, j ≤ o → o < 20 → p < 20 → w (oA o 0) = 1 → w (oA o 1) = nI p → bt q.1 p = true → bt (hOb G n j q).1 o = true) := by
  intro n
  induction n with
  | zero => intro j q _ hj hq; exact ⟨hq, fun _ h => h, fun o p h1 h2 => absurd h2 (by omega)⟩
  | succ n ih =>
    intro j q h0 hj hq
    obtain ⟨s1, s2, s3⟩ := h.hSt_ e4 e5 e9 e10 h0 (show j < 20 by omega) hq
    obtain ⟨i1, i2, i3⟩ := ih (j + 1) _ (by omega) (by omega) s1
    rw [hOb]
    refine ⟨i1, fun o2 hb => i2 o2 (s2 o2 hb), fun o p h1 h2 h3 h4 h5 h6 => ?_⟩
    by_cases ho : o = j
    · subst ho; exact i2 o (s3 p h3 h4 h5 h6)
    · exact i3 o p (by omega) h2 h3 h4 h5 (s2 p h6)
theorem Rel.hRd_ (h : Rel F A w t) {G : GS} (e4 : G.1 0 4 = F 4) (e5 : G.2.1 0 5 = A 5) (e9 : G.2.1 0 9 = A 9) (e10 : G.2.1 0 10 = A 10) {rk : Nat → Nat} (hrk : ∀ o, o < 20 → rk o < 20 ∧ (w (oA o 1) = -1 ∨ ∃ j, j < 20 ∧ w (oA o 1) = nI j ∧ rk j < rk o)) : ∀ (n k : Nat) (q : hT), hInv w q → (∀ o, o < 20 → w (oA o 0) = 1 → rk o ≤ k → bt q.1 o = true) → hInv w (hRd G n q) ∧ (∀ o, o < 20 → w (oA o 0) = 1 → rk o ≤ k + n → bt (hRd G n q).1 o = true) := by
  intro n
  induction n with
  | zero => intro k q hq hr; exact ⟨hq, hr⟩
  | succ n ih =>
    intro k q hq hr
    obtain ⟨i1, i2, i3⟩ := h.hOb_ e4 e5 e9 e10 19 1 q (by decide) rfl hq
    rw [hRd]
    have h2 := ih (k + 1) _ i1 (fun o ho h1 h3 => ?_)
    · refine ⟨h2.1, fun o ho h1 h3 => h2.2 o ho h1 (by omega)⟩
    · rcases Nat.eq_zero_or_pos o with z | z
      · rw [z]; exact i1.2.2
      · rcases h.par ho h1 with z2 | ⟨p, h4, h5, h6⟩
        · obtain ⟨p, h4, h5, h6⟩ := h.pa z ho h1
          rw [z2] at h5
          exact absurd h5 (neg1_ne (by omega))
        · refine i3 o p z ho h4 h1 h5 (hr p h4 h6 ?_)
          rcases (hrk o ho).2 with z3 | ⟨k3, h8, h9, h10⟩
          · rw [h5] at z3; exact absurd z3.symm (neg1_ne (by omega))
          · rw [h5, nI_eq (by omega) (by omega)] at h9
            subst h9
            omega
theorem Rel.hAll_ (h : Rel F A w t) {G : GS} (e4 : G.1 0 4 = F 4) (e5 : G.2.1 0 5 = A 5) (e9 : G.2.1 0 9 = A 9) (e10 : G.2.1 0 10 = A 10) {o : Nat} (ho : o < 20) (h1 : w (oA o 0) = 1) : hL (hAll G) o (LH w 20 o) := by
  obtain ⟨rk, hrk⟩ := h.ok.rk
  have ht := h.own e9 e10 (o := 0) (by decide) (q := (0, fun _ => 0, G.2.1 0 24)) rfl
  have hb : ∀ o2, o2 < 32 → bt (hOwn G 0 (0, fun _ => 0, G.2.1 0 24)).1 o2 = decide (o2 = 0) := fun o2 ho2 => by
    rw [show (hOwn G 0 (0, fun _ => 0, G.2.1 0 24)).1 = jChg 0 (nI 0) true from ht.1, jChg_bt 0 (by decide) true ho2, b_0]
    by_cases z : o2 = 0
    · rw [if_pos z, decide_eq_true z]
    · rw [if_neg z, decide_eq_false z]
  have hL0 : LH w 20 0 = ownL (eC w 0) (mCt w 0) 0 := by
    rw [LH, if_neg (fun z => z.2 (by rw [h.p0]; decide)), List.append_nil]
  have hI : hInv w (hOwn G 0 (0, fun _ => 0, G.2.1 0 24)) := by
    refine ⟨fun o2 ho2 hb2 => ?_, fun o2 ho2 hb2 => ?_, by rw [hb 0 (by decide)]; rfl⟩
    · rw [hb o2 (by omega), decide_eq_true_eq] at hb2
      subst hb2
      exact ⟨h.t0, by rw [hL0]; exact ht.2.1⟩
    · rw [hb o2 (by omega), decide_eq_false_iff_not] at hb2
      exact ht.2.2.1 o2 hb2
  have hR := h.hRd_ e4 e5 e9 e10 hrk 19 0 _ hI (fun o2 ho2 h2 h3 => by
    rw [hb o2 (by omega), decide_eq_true_eq]
    rcases Nat.eq_zero_or_pos o2 with z | z
    · exact z
    · obtain ⟨p, h4, h5, h6⟩ := h.pa z ho2 h2
      rcases (hrk o2 ho2).2 with z3 | ⟨k3, h8, h9, h10⟩
      · rw [h5] at z3; exact absurd z3.symm (neg1_ne (by omega))
      · omega)
  exact (hR.1.1 o ho (hR.2 o ho h1 (by have := (hrk o ho).1; omega))).2
/-- the first that counts -/
def fstD (p : Int32 → Bool) (l : List Int32) : Int32 := (l.find? p).getD 0
theorem hDc_fst {q : hT} {u gs : Int32} {own : Bool} {o : Nat} {r : Int32} {l : List Int32} (ho : o < 20) (h : hL q o l) : ∀ (n j : Nat), n + j = 120 → hDcL q u gs own (nI o) r n j = fstD (fun x => jHas (eRights x) r && eFor x u gs own) (l.drop j) := by
  have h120 := h.2.1
  intro n
  induction n with
  | zero =>
    intro j hj
    rw [hDcL, List.drop_eq_nil_of_le (by omega)]
    rfl
  | succ n ih =>
    intro j hj
    rw [hDcL, sCnt_at _ ho, h.1]
    by_cases hl : j < l.length
    · rw [if_pos (nI_lt hl (by omega)), hCode_at _ ho (by omega), h.2.2 j hl, drop_cons9 l j hl, fstD, List.find?_cons]
      by_cases hc : (jHas (eRights (l.getD j 0)) r && eFor (l.getD j 0) u gs own) = true
      · rw [if_pos hc, hc]; rfl
      · rw [if_neg hc, Bool.eq_false_iff.mpr hc, ih (j + 1) (by omega)]; rfl
    · rw [if_neg (nI_nlt (by omega) (by omega)), List.drop_eq_nil_of_le (by omega)]
      rfl
theorem own_find (w : Nat → Int32) (u : Int32) (o : Nat) (r : Int32) (li : Nat) (p : Int32 → Bool) : ∀ (n i : Nat), (∀ k, i ≤ k → k < i + n → p (eC w li k) = mCo w u o r li k) → (ownL (eC w li) n i).find? p = (mDeI w u o r li n i).map (eC w li) := by
  intro n
  induction n with
  | zero => intro i _; rfl
  | succ n ih =>
    intro i h
    rw [ownL, List.find?_cons, mDeI, h i (Nat.le_refl _) (by omega)]
    by_cases hc : mCo w u o r li i = true
    · rw [if_pos hc, hc]; rfl
    · rw [if_neg hc, Bool.eq_false_iff.mpr hc]
      exact ih (i + 1) (fun k h1 h2 => h k (by omega) (by omega))
theorem Rel.pred (h : Rel F A w t) {gs : Int32} {own : Bool} {o li i u r : Nat} (hr : r < 4) (hu : u < 12) (hli : li < 20) (hi : i < mCt w li) (hgs : gs = cUp (A 3) (mGs w) (A 2 u)) (hown : own = decide (w (oA o 2) = nI u)) : (jHas (eRights (eC w li i)) (nI r) && eFor (eC w li i) (nI u) gs own) = (mHas (w (enA li i 2)) (nI r) && mFor w (nI u) o li i) := by
  rw [h.for hu hli hi hgs hown, (eC_d (h.eo hli hi)).1, jHas_bt _ (by omega), mHas_bt _ (by omega)]
theorem cdOf_at (h : Rel F A w t) {j i : Nat} (hj : j < 20) (hi : i < mCt w j) : cdOf A (nI (6 * j + i)) = eC w j i := by
  have h6 := h.ok.ct6 hj
  rw [cdOf, if_neg (nI_pos (by omega)), nI_clamp (by omega), ← h.en hj hi, Nat.mul_comm]
theorem fstD_app (p : Int32 → Bool) (l l2 : List Int32) : fstD p (l ++ l2) = match l.find? p with | some x => x | none => fstD p l2 := by
  unfold fstD
  rw [List.find?_append]
  cases l.find? p <;> rfl
theorem dand (a b : Bool) : decide (a = true ∧ b = true) = (a && b) := by cases a <;> cases b <;> rfl
/-- the climb above the first list -/
theorem Rel.climb (h : Rel F A w t) {gs : Int32} {own : Bool} {o u r : Nat} {rk : Nat → Nat} (hrk : ∀ o, o < 20 → rk o < 20 ∧ (w (oA o 1) = -1 ∨ ∃ j, j < 20 ∧ w (oA o 1) = nI j ∧ rk j < rk o)) (hr : r < 4) (hu : u < 12) (ho : o < 20) (hgs : gs = cUp (A 3) (mGs w) (A 2 u)) (hown : own = decide (w (oA o 2) = nI u)) : ∀ (n j : Nat), j < 20 → w (oA j 0) = 1 → rk j < rk o → cdOf A (mDe w (nI u) o (nI r) n (nI j)) = fstD (fun x => jHas (eRights x) (nI r) && eFor x (nI u) gs own) ((LH w n j).filter eBelow) := by
  intro n
  induction n with
  | zero => intro j _ _ _; rfl
  | succ n ih =>
    intro j hj h1 hrj
    have hjo : ¬ nI j = nI o := fun z => by rw [nI_eq (by omega) (by omega)] at z; subst z; omega
    rw [mDe, if_neg (nI_pos (by omega)), nI_clamp (by omega), LH, List.filter_append, fstD_app, List.find?_filter, own_find w (nI u) o (nI r) j _ (mCt w j) 0 (fun k _ hk => by
      have hk2 : k < mCt w j := by omega
      try dsimp only
      rw [dand, h.pred hr hu hj hk2 hgs hown, (eC_d (h.eo hj hk2)).2.2.1, mCo, decide_eq_false hjo, Bool.false_or])]
    cases hm : mDeI w (nI u) o (nI r) j (mCt w j) 0 with
    | some i =>
      have hlt := mDeI_lt _ _ hm
      show cdOf A (nI (6 * j + i)) = eC w j i
      exact cdOf_at h hj (by omega)
    | none =>
      show cdOf A (mDe w (nI u) o (nI r) n (if w (oA j 4) = 1 then w (oA j 1) else -1)) = _
      dsimp only [Option.map_none]
      by_cases h4 : w (oA j 4) = 1
      · rw [if_pos h4]
        rcases h.par hj h1 with z | ⟨k, h3, h5, h6⟩
        · rw [z, mDe_m1, if_neg (fun y => y.2 (by decide))]; rfl
        · rw [h5, if_pos ⟨h4, nI_pos (by omega)⟩, nI_clamp (by omega), List.filter_filter, show (fun a => eBelow a && eBelow a) = eBelow from funext fun a => Bool.and_self _]
          refine ih k h3 h6 ?_
          rcases (hrk j hj).2 with z3 | ⟨k3, h8, h9, h10⟩
          · rw [h5] at z3; exact absurd z3.symm (neg1_ne (by omega))
          · rw [h5, nI_eq (by omega) (by omega)] at h9
            subst h9
            omega
      · rw [if_neg h4, if_neg (fun y => h4 y.1), mDe_m1]; rfl
theorem Rel.handed (h : Rel F A w t) {gs : Int32} {own : Bool} {o u r : Nat} (hr : r < 4) (hu : u < 12) (ho : o < 20) (h1 : w (oA o 0) = 1) (hgs : gs = cUp (A 3) (mGs w) (A 2 u)) (hown : own = decide (w (oA o 2) = nI u)) : fstD (fun x => jHas (eRights x) (nI r) && eFor x (nI u) gs own) (LH w 20 o) = cdOf A (mDec w (nI u) o (nI r)) := by
  obtain ⟨rk, hrk⟩ := h.ok.rk
  symm
  unfold mDec
  rw [show (20 : Nat) = 19 + 1 from rfl, mDe, if_neg (nI_pos (by omega)), nI_clamp (by omega), LH, fstD_app, own_find w (nI u) o (nI r) o _ (mCt w o) 0 (fun k _ hk => by
      have hk2 : k < mCt w o := by omega
      try dsimp only
      rw [h.pred hr hu ho hk2 hgs hown]
      unfold mCo
      rw [decide_eq_true rfl, Bool.true_or, Bool.true_and])]
  cases hm : mDeI w (nI u) o (nI r) o (mCt w o) 0 with
  | some i =>
    have hlt := mDeI_lt _ _ hm
    show cdOf A (nI (6 * o + i)) = eC w o i
    exact cdOf_at h ho (by omega)
  | none =>
    show cdOf A (mDe w (nI u) o (nI r) 19 (if w (oA o 4) = 1 then w (oA o 1) else -1)) = _
    dsimp only [Option.map_none]
    by_cases h4 : w (oA o 4) = 1
    · rw [if_pos h4]
      rcases h.par ho h1 with z | ⟨k, h3, h5, h6⟩
      · rw [z, mDe_m1, if_neg (fun y => y.2 (by decide))]; rfl
      · rw [h5, if_pos ⟨h4, nI_pos (by omega)⟩, nI_clamp (by omega)]
        refine h.climb hrk hr hu ho hgs hown 19 k h3 h6 ?_
        rcases (hrk o ho).2 with z3 | ⟨k3, h8, h9, h10⟩
        · rw [h5] at z3; exact absurd z3.symm (neg1_ne (by omega))
        · rw [h5, nI_eq (by omega) (by omega)] at h9
          subst h9
          exact h10
    · rw [if_neg h4, if_neg (fun y => h4 y.1), mDe_m1]; rfl
end HND
theorem Rel.hGr_ {G : GS} {w : Nat → Int32} {t : Nat} (h : Rel (G.1 0) (G.2.1 0) w t) {u o r : Nat} (hu : u < 12) (ho : o < 20) (h1 : w (oA o 0) = 1) (hr : r < 4) : hGr G (nI u) (nI o) (nI r) = mAl w (nI u) o (nI r) := by
  unfold hGr
  refine h.sGr_ _ ho h1 hr ?_
  unfold hDec
  rw [hDc_fst ho (h.hAll_ rfl rfl rfl rfl ho h1) 120 0 rfl, List.drop_zero, h.handed hr hu ho h1 (h.dGs_ hu) (h.dOwn_ ho h1 _)]
  exact h.byL _ ho _
