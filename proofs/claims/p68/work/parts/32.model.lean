theorem putF_comm (G : GS) (r o k k2 : Nat) (v w : Int32) (h : ¬ k2 = k) : putF (putF G r o k v) r o k2 w = putF (putF G r o k2 w) r o k v := by
  refine Prod.ext ?_ rfl
  funext r' o' k'
  simp only [putF_get]
  by_cases h1 : r' = r ∧ o' = o ∧ k' = k2
  · rw [if_pos h1, if_neg (fun z => h (h1.2.2.symm.trans z.2.2)), if_pos h1]
  · rw [if_neg h1]
    by_cases h2 : r' = r ∧ o' = o ∧ k' = k
    · rw [if_pos h2, if_pos h2]
    · rw [if_neg h2, if_neg h2, if_neg h1]
theorem putF_self (G : GS) (r o k : Nat) : putF G r o k (G.1 r o k) = G := by
  refine Prod.ext ?_ rfl
  funext r' o' k'
  simp only [putF_get]
  by_cases h1 : r' = r ∧ o' = o ∧ k' = k
  · rw [if_pos h1]
    obtain ⟨rfl, rfl, rfl⟩ := h1
    rfl
  · rw [if_neg h1]
-- 30.model1
/-! The reference: PermissionDeskModel -/
section NROWS
variable {p : Program} {l : Launch} {e : Env} {R : Room} {s : State} {m : MethodId} {args : Array Value} {below : List Frame} {meth : Method} {c : Code} {cc : ByteArray} {nL : Nat} {own : String} {Θ : cTH} {Qp : cOut → GS → Prop} {Q9 : State → Prop} {mc ms k n pc q : Nat} {LS : List (Option Value)} {rest : List Value} {G : GS}
end NROWS
def mIn (v a b : Int32) : Bool := decide (a ≤ v) && decide (v ≤ b)
def oA (o k : Nat) : Nat := 18 + 36 * o + k
def enA (o i k : Nat) : Nat := 24 + 36 * o + 5 * i + k
theorem oA_e (o k : Nat) : (18 : Int32) + 36 * nI o + nI k = nI (oA o k) := by
  rw [show (36 : Int32) = nI 36 from rfl, nI_mul, show (18 : Int32) = nI 18 from rfl, nI_add, nI_add]
  rfl
theorem enA_e (o i k : Nat) : nI (oA o 6) + 5 * nI i + nI k = nI (enA o i k) := by
  rw [show (5 : Int32) = nI 5 from rfl, nI_mul, nI_add, nI_add]
  congr 1
  unfold oA enA
  omega
theorem mIn_in {x : Int32} {a : Nat} (h : mIn x 0 (nI a) = true) (ha : a < 2 ^ 31) : ∃ j : Nat, j ≤ a ∧ x = nI j := by
  simp only [mIn, Bool.and_eq_true, decide_eq_true_eq] at h
  obtain ⟨j, hj, rfl⟩ := nI_of (x := x) (Int32.not_lt.mpr h.1)
  refine ⟨j, ?_, rfl⟩
  rcases Nat.lt_or_ge a j with h2 | h2
  · exact absurd h.2 (nI_ge h2 hj)
  · exact h2
/-- what is wrong, laid down -/
def ms (x : Int32) (G : GS) : GS := putF G 0 29 5 x
theorem ms_ms (x y : Int32) (G : GS) : ms x (ms y G) = ms x G := putF_putF _ _ _ _ _ _
theorem ms_at (x : Int32) (G : GS) : (ms x G).1 0 29 5 = x := by simp [ms, putF_get]
theorem ms_row (x : Int32) (G : GS) : (ms x G).2 = G.2 := rfl
def mHold (w : Nat → Int32) (o : Int32) : Bool := mIn o 0 19 && decide (w (oA o.toNatClampNeg 0) = 1)
theorem mHold_in {w : Nat → Int32} {o : Int32} (h : mHold w o = true) : mIn o 0 19 = true := by
  unfold mHold at h
  exact (Bool.and_eq_true_iff.mp h).1
theorem mHold_nI {w : Nat → Int32} {o : Int32} (h : mHold w o = true) : ∃ j : Nat, j < 20 ∧ o = nI j := by
  obtain ⟨j, hj, e⟩ := mIn_in (a := 19) (mHold_in h) (by decide)
  exact ⟨j, by omega, e⟩
def mEnt (w : Nat → Int32) (o i : Int32) : Bool := mHold w o && mIn i 0 (w (oA o.toNatClampNeg 5) - 1)
def mHas (x k : Int32) : Bool := decide ((x >>> (k &&& 31)) &&& 1 = 1)
def mSz (x : Int32) : Nat → Nat → Int32 → Int32
  | 0, _, t => t
  | n + 1, j, t => mSz x n (j + 1) (t + (if mHas x (nI j) = true then 1 else 0))
/-- groups -/
def mOK (w : Nat → Int32) : Nat → Nat → Int32 → Int32
  | 0, _, x => x
  | n + 1, j, x => mOK w n (j + 1) (x ||| (if mHas x (nI j) = true then w (10 + j) else 0))
def mOR (w : Nat → Int32) : Nat → Int32 → Int32
  | 0, x => x
  | n + 1, x => mOR w n (mOK w 8 0 x)
def mOut (w : Nat → Int32) (g : Nat) : Int32 := mOR w 8 (w (10 + g))
def mOf (w : Nat → Int32) (u : Int32) (g : Nat) : Nat → Nat → Bool → Bool
  | 0, _, b => b
  | n + 1, j, b => mOf w u g n (j + 1) (b || (mHas (w (2 + j)) u && mHas (mOut w j) (nI g)))
def mIsOf (w : Nat → Int32) (gs : Nat) (u : Int32) (g : Nat) : Bool := mOf w u g gs 0 (mHas (w (2 + g)) u)
def mHow (w : Nat → Int32) (gs g : Nat) : Nat → Nat → Int32 → Int32
  | 0, _, t => t
  | n + 1, j, t => mHow w gs g n (j + 1) (t + (if mIsOf w gs (nI j) g = true then 1 else 0))
-- 31.model2
/-! The reference: changes, users, groups, objects -/
def mUs (w : Nat → Int32) : Nat := (w 0).toNatClampNeg
def mGs (w : Nat → Int32) : Nat := (w 1).toNatClampNeg
def mCt (w : Nat → Int32) (o : Nat) : Nat := (w (oA o 5)).toNatClampNeg
def mRk (w : Nat → Int32) : Prop := ∃ rk : Nat → Nat, ∀ o, o < 20 → rk o < 20 ∧ (w (oA o 1) = -1 ∨ ∃ j, j < 20 ∧ w (oA o 1) = nI j ∧ rk j < rk o)
def mOk (w : Nat → Int32) : Prop :=
  (w 0 = nI (mUs w) ∧ mUs w ≤ 12) ∧ (w 1 = nI (mGs w) ∧ mGs w ≤ 8) ∧ (∀ o, o < 20 → w (oA o 5) = nI (mCt w o) ∧ mCt w o ≤ 6) ∧ (∀ o, o < 20 → w (oA o 0) = 0 ∨ w (oA o 0) = 1) ∧ (∀ o i, o < 20 → i < 6 → w (enA o i 0) = 1 → ∃ j, j < 8 ∧ w (enA o i 1) = nI j) ∧ mRk w
theorem mOk.us {w : Nat → Int32} (h : mOk w) : w 0 = nI (mUs w) := h.1.1
theorem mOk.us12 {w : Nat → Int32} (h : mOk w) : mUs w ≤ 12 := h.1.2
theorem mOk.gs {w : Nat → Int32} (h : mOk w) : w 1 = nI (mGs w) := h.2.1.1
theorem mOk.gs8 {w : Nat → Int32} (h : mOk w) : mGs w ≤ 8 := h.2.1.2
theorem mOk.ct {w : Nat → Int32} (h : mOk w) {o : Nat} (ho : o < 20) : w (oA o 5) = nI (mCt w o) := (h.2.2.1 o ho).1
theorem mOk.ct6 {w : Nat → Int32} (h : mOk w) {o : Nat} (ho : o < 20) : mCt w o ≤ 6 := (h.2.2.1 o ho).2
theorem mOk.th {w : Nat → Int32} (h : mOk w) {o : Nat} (ho : o < 20) : w (oA o 0) = 0 ∨ w (oA o 0) = 1 := h.2.2.2.1 o ho
theorem mOk.who {w : Nat → Int32} (h : mOk w) {o i : Nat} (ho : o < 20) (hi : i < 6) (h1 : w (enA o i 0) = 1) : ∃ j, j < 8 ∧ w (enA o i 1) = nI j := h.2.2.2.2.1 o i ho hi h1
theorem mOk.rk {w : Nat → Int32} (h : mOk w) : mRk w := h.2.2.2.2.2
def mQ (G : GS) : Nat := (G.1 0 29 4).toNatClampNeg
def mInv (G : GS) : Prop := (G.1 0 29 4 = nI (mQ G) ∧ mQ G ≤ 5) ∧ mOk (G.2.1 0 30)
/-- a guard: where it fails, k is laid down and 0 answered -/
def mg (b : Bool) (k : Int32) (X : cOut → GS → Prop) (G : GS) : cOut → GS → Prop := fun o G1 => if b = true then X o G1 else (o = .inl (some (.int 0)) ∧ G1 = ms k G)
theorem mg_t {b : Bool} {k : Int32} {X : cOut → GS → Prop} {G : GS} (h : b = true) : mg b k X G = X := by
  funext o G1
  rw [mg, if_pos h]
theorem mg_f {b : Bool} {k : Int32} {X : cOut → GS → Prop} {G : GS} (h : b = false) : mg b k X G (.inl (some (.int 0))) (ms k G) := by
  rw [mg, if_neg (by rw [h]; decide)]
  exact ⟨rfl, rfl⟩
theorem ms_fld (x : Int32) (G : GS) {k : Nat} (h : ¬ k = 5) : (ms x G).1 0 29 k = G.1 0 29 k := by simp [ms, putF_get, h]
/-- s written at a place -/
def mUp (i : Nat) (x : Int32) (G : GS) : GS := putA G 0 30 (upd (G.2.1 0 30) i x)
theorem mUp_row (i : Nat) (x : Int32) (G : GS) : (mUp i x G).2.1 0 30 = upd (G.2.1 0 30) i x := putA_same _ _ _ _
theorem mUp_fld (i : Nat) (x : Int32) (G : GS) : (mUp i x G).1 = G.1 := rfl
def mWr (w : Nat → Int32) (G : GS) : GS := putA G 0 30 w
theorem mWr_row (w : Nat → Int32) (G : GS) : (mWr w G).2.1 0 30 = w := putA_same _ _ _ _
theorem mWr_mWr (w w2 : Nat → Int32) (G : GS) : mWr w (mWr w2 G) = mWr w G := putA_putA _ _ _ _ _
theorem mWr_self (G : GS) : mWr (G.2.1 0 30) G = G := putA_self _ _ _
def mChS (G : GS) (pt : Nat → Int32) (x : Int32) : GS := putF (putA G 0 31 pt) 0 29 4 x
theorem mChS_A (G : GS) (pt pt2 : Nat → Int32) (x : Int32) : putA (mChS G pt x) 0 31 pt2 = mChS G pt2 x := by
  unfold mChS
  rw [show putA (putF (putA G 0 31 pt) 0 29 4 x) 0 31 pt2 = putF (putA (putA G 0 31 pt) 0 31 pt2) 0 29 4 x from rfl, putA_putA]
theorem mChS_F (G : GS) (pt : Nat → Int32) (x y : Int32) : putF (mChS G pt x) 0 29 4 y = mChS G pt y := putF_putF _ _ _ _ _ _
theorem mChS_self (G : GS) : mChS G (G.2.1 0 31) (G.1 0 29 4) = G := by
  unfold mChS
  rw [putA_self, putF_self]
theorem mChS_31 (G : GS) (pt : Nat → Int32) (x : Int32) : (mChS G pt x).2.1 0 31 = pt := putA_same _ _ _ _
section MROWS
variable {p : Program} {l : Launch} {e : Env} {R : Room} {s : State} {m : MethodId} {args : Array Value} {below : List Frame} {meth : Method} {c : Code} {cc : ByteArray} {nL : Nat} {own : String} {Θ : cTH} {Qp : cOut → GS → Prop} {Q9 : State → Prop} {mc ms2 k n pc q : Nat} {LS : List (Option Value)} {rest : List Value} {G : GS}
end MROWS
def mShK (a : Nat → Int32) (n : Nat) : Nat → Int32 := fun k => if k < n then a (k + 765) else a k
theorem mShK_step (a : Nat → Int32) (n : Nat) : upd (mShK a n) n (mShK a n (n + 765)) = mShK a (n + 1) := by
  funext k
  unfold upd mShK
  by_cases h : k = n
  · subst h
    rw [if_pos rfl, if_neg (by omega), if_pos (by omega)]
  · rw [if_neg h]
    by_cases h2 : k < n
    · rw [if_pos h2, if_pos (by omega)]
    · rw [if_neg h2, if_neg (by omega)]
theorem mShK_0 (a : Nat → Int32) : mShK a 0 = a := by
  funext k
  rw [mShK, if_neg (by omega)]
/-- a copied to b, n places of it, from the place t of b on -/
def mCpK (b a : Nat → Int32) (t n : Nat) : Nat → Int32 := fun k => if t ≤ k ∧ k < t + n then a (k - t) else b k
theorem mCpK_step (b a : Nat → Int32) (t n : Nat) : upd (mCpK b a t n) (t + n) (a n) = mCpK b a t (n + 1) := by
  funext k
  unfold upd mCpK
  by_cases h : k = t + n
  · subst h
    rw [if_pos rfl, if_pos (by omega)]
    congr 1
    omega
  · rw [if_neg h]
    by_cases h2 : t ≤ k ∧ k < t + n
    · rw [if_pos h2, if_pos (by omega)]
    · rw [if_neg h2, if_neg (by omega)]
theorem mCpK_0 (b a : Nat → Int32) (t : Nat) : mCpK b a t 0 = b := by
  funext k
  rw [mCpK, if_neg (by omega)]
theorem nI_mulL (a b : Nat) {x : Int32} (h : x = nI a) : x * nI b = nI (a * b) := by rw [h, nI_mul]
def mCh (q : Nat) (G : GS) : GS := if q = 5 then mChS G (mCpK (mShK (G.2.1 0 31) 3060) (G.2.1 0 30) 3060 765) (nI 5) else mChS G (mCpK (G.2.1 0 31) (G.2.1 0 30) (765 * q) 765) (nI (q + 1))
theorem mCh_row (q : Nat) (G : GS) {o : Nat} (h : ¬ o = 31) : (mCh q G).2.1 0 o = G.2.1 0 o := by
  unfold mCh mChS
  by_cases h1 : q = 5
  · rw [if_pos h1, putF_row, putA_get, if_neg (by omega)]
  · rw [if_neg h1, putF_row, putA_get, if_neg (by omega)]
theorem mCh_fld (q : Nat) (G : GS) {k : Nat} (h : ¬ k = 4) : (mCh q G).1 0 29 k = G.1 0 29 k := by
  unfold mCh mChS
  by_cases h1 : q = 5
  · rw [if_pos h1, putF_get, if_neg (by omega)]; rfl
  · rw [if_neg h1, putF_get, if_neg (by omega)]; rfl
/-- after the change is noted -/
def mC (G : GS) : GS := mCh (mQ G) (ms 0 G)
theorem mC_row (G : GS) {o : Nat} (h : ¬ o = 31) : (mC G).2.1 0 o = G.2.1 0 o := mCh_row _ _ h
theorem mC_w (G : GS) : (mC G).2.1 0 30 = G.2.1 0 30 := mCh_row _ _ (by decide)
theorem mIn_lt {x y : Int32} {g : Nat} (h : mIn x 0 (y - 1) = true) (hy : y = nI g) (hg : g < 2 ^ 31) : ∃ j : Nat, j < g ∧ x = nI j := by
  subst hy
  rcases g with _ | g
  · simp only [mIn, Bool.and_eq_true, decide_eq_true_eq] at h
    exact absurd (Int32.le_trans h.1 h.2) (by decide)
  · rw [show nI (g + 1) - 1 = nI g from by rw [← nI_1, Int32.add_sub_cancel]] at h
    obtain ⟨j, hj, e⟩ := mIn_in h (by omega)
    exact ⟨j, by omega, e⟩
-- nest
-- 32.model3
/-! The reference: objects -/
theorem mUp_mWr (i : Nat) (x : Int32) (w : Nat → Int32) (G : GS) : mUp i x (mWr w G) = mWr (upd w i x) G := by
  unfold mUp
  rw [mWr_row]
  exact mWr_mWr _ _ _
section MROWS2
variable {p : Program} {l : Launch} {e : Env} {R : Room} {s : State} {m : MethodId} {args : Array Value} {below : List Frame} {meth : Method} {c : Code} {cc : ByteArray} {nL : Nat} {own : String} {Θ : cTH} {Qp : cOut → GS → Prop} {Q9 : State → Prop} {mc ms2 k n pc q : Nat} {LS : List (Option Value)} {rest : List Value} {G : GS}
end MROWS2
/-- n places of the object o emptied -/
def mZk (w : Nat → Int32) (o n : Nat) : Nat → Int32 := fun i => if oA o 0 ≤ i ∧ i < oA o 0 + n then 0 else w i
theorem mZk_0 (w : Nat → Int32) (o : Nat) : mZk w o 0 = w := by
  funext i
  rw [mZk, if_neg (by omega)]
theorem mZk_step (w : Nat → Int32) (o n : Nat) : upd (mZk w o n) (oA o n) 0 = mZk w o (n + 1) := by
  funext i
  unfold upd mZk oA
  by_cases h : i = 18 + 36 * o + n
  · subst h
    rw [if_pos rfl, if_pos (by omega)]
  · rw [if_neg h]
    by_cases h2 : 18 + 36 * o + 0 ≤ i ∧ i < 18 + 36 * o + 0 + n
    · rw [if_pos h2, if_pos (by omega)]
    · rw [if_neg h2, if_neg (by omega)]
def mFnd (w : Nat → Int32) (o : Nat) (pa ow : Int32) : Nat → Int32 := upd (upd (upd (upd (upd (mZk w o 36) (oA o 0) 1) (oA o 1) pa) (oA o 2) ow) (oA o 3) 15) (oA o 4) 1
def mHo (w : Nat → Int32) : Nat → Nat → Int32 → Int32
  | 0, _, t => t
  | n + 1, j, t => mHo w n (j + 1) (t + w (oA j 0))
theorem mHo_sum (w : Nat → Int32) : ∀ (n j : Nat) (t : Int32), (∀ i, j ≤ i → i < j + n → w (oA i 0) = 1) → mHo w n j t = t + nI n := by
  intro n
  induction n with
  | zero => intro j t h; rw [mHo]; exact (Int32.add_zero t).symm
  | succ n ih =>
    intro j t h
    rw [mHo, ih (j + 1) _ (fun i h1 h2 => h i (by omega) (by omega)), h j (Nat.le_refl _) (by omega), Int32.add_assoc]
    congr 1
    rw [show (1 : Int32) = nI 1 from rfl, nI_add, Nat.add_comm]
theorem mHold_1 {w : Nat → Int32} {j : Nat} (hj : j < 2 ^ 31) (h : mHold w (nI j) = true) : w (oA j 0) = 1 := by
  have h2 := (Bool.and_eq_true_iff.mp h).2
  rw [nI_clamp hj] at h2
  exact of_decide_eq_true h2
/-- is it below: climbing, n steps at most -/
def mBel (w : Nat → Int32) (ot : Int32) : Nat → Int32 → Bool
  | 0, x => decide (x = ot)
  | n + 1, x => if x < 0 then decide (x = ot) else if x = ot then true else mBel w ot n (w (oA x.toNatClampNeg 1))
def mBlw (w : Nat → Int32) (o : Nat) (ot : Int32) : Bool := mBel w ot 20 (w (oA o 1))
def mBls (w : Nat → Int32) (ot : Int32) : Nat → Nat → Int32 → Int32
  | 0, _, t => t
  | n + 1, j, t => mBls w ot n (j + 1) (t + (if (mHold w (nI j) && mBlw w j ot) = true then 1 else 0))
/-- the first place that is free -/
def mFr (w : Nat → Int32) : Nat → Nat → Nat
  | 0, j => j
  | n + 1, j => if mHold w (nI j) = true then mFr w n (j + 1) else j
-- 33.model4
/-! The reference: entries, what is decided -/
theorem nI_p (a b : Nat) {x : Int32} (h : x = nI a) : x + nI b = nI (a + b) := by rw [h, nI_add]
theorem nI_m1 {a : Nat} (h : 1 ≤ a) : nI a - 1 = nI (a - 1) := pk_sub h
def mTk (w : Nat → Int32) (a b : Nat) : Nat → Int32 := fun k => if a ≤ k ∧ k < b then w (k + 5) else w k
theorem mTk_0 (w : Nat → Int32) (a : Nat) : mTk w a a = w := by
  funext k
  rw [mTk, if_neg (by omega)]
theorem mTk_step (w : Nat → Int32) (a b : Nat) (h : a ≤ b) : upd (mTk w a b) b (mTk w a b (b + 5)) = mTk w a (b + 1) := by
  funext k
  unfold upd mTk
  by_cases h1 : k = b
  · subst h1
    rw [if_pos rfl, if_neg (by omega), if_pos (by omega)]
  · rw [if_neg h1]
    by_cases h2 : a ≤ k ∧ k < b
    · rw [if_pos h2, if_pos (by omega)]
    · rw [if_neg h2, if_neg (by omega)]
def mTo (w : Nat → Int32) (o i c : Nat) : Nat → Int32 := mTk (upd w (oA o 5) (nI (c - 1))) (enA o i 0) (enA o (c - 1) 0)
/-- room is made: what lies above b, up to t, was moved up -/
def mOpK (w : Nat → Int32) (b t : Nat) : Nat → Int32 := fun k => if b < k ∧ k ≤ t then w (k - 5) else w k
theorem mOpK_0 (w : Nat → Int32) (t : Nat) : mOpK w t t = w := by
  funext k
  rw [mOpK, if_neg (by omega)]
theorem mOpK_step (w : Nat → Int32) (b t : Nat) (h : b + 1 ≤ t) : upd (mOpK w (b + 1) t) (b + 1) (mOpK w (b + 1) t (b + 1 - 5)) = mOpK w b t := by
  funext k
  unfold upd mOpK
  by_cases h1 : k = b + 1
  · subst h1
    rw [if_pos rfl, if_neg (by omega), if_pos (by omega)]
  · rw [if_neg h1]
    by_cases h2 : b + 1 < k ∧ k ≤ t
    · rw [if_pos h2, if_pos (by omega)]
    · rw [if_neg h2, if_neg (by omega)]
def mOpn (w : Nat → Int32) (o i c : Nat) : Nat → Int32 := upd (mOpK w (enA o i 4) (enA o c 4)) (oA o 5) (nI (c + 1))
def mWrt (w : Nat → Int32) (o i : Nat) (kind who rg : Int32) (a b : Bool) : Nat → Int32 := upd (upd (upd (upd (upd w (enA o i 0) kind) (enA o i 1) who) (enA o i 2) rg) (enA o i 3) (b2i a)) (enA o i 4) (b2i b)
def mThr (w : Nat → Int32) (o kind who : Int32) : Bool := mHold w o && ((!decide (kind = 0) || mIn who 0 (w 0 - 1)) && (!decide (kind = 1) || mIn who 0 (w 1 - 1)))
def mAd (o : Nat) (kind who rg : Int32) (a b : Bool) (G : GS) : GS := mWr (mWrt (upd (G.2.1 0 30) (oA o 5) (nI (mCt (G.2.1 0 30) o + 1))) o (mCt (G.2.1 0 30) o) kind who rg a b) (mC G)
def mAdQ (o kind who rg : Int32) (a b : Bool) (G : GS) : cOut → GS → Prop := mg (mThr (G.2.1 0 30) o kind who) 1 (mg (mIn rg 1 15) 2 (mg (!decide (G.2.1 0 30 (oA o.toNatClampNeg 5) = 6)) 3 (fR (some (.int (nI (mCt (G.2.1 0 30) o.toNatClampNeg + 1)))) (mAd o.toNatClampNeg kind who rg a b G)) G) G) G
theorem mAdQ_k {o kind who rg : Int32} {a b : Bool} {G G1 : GS} {v : Option Value} (h : mAdQ o kind who rg a b G (.inl v) G1) : ∃ x : Int32, v = some (.int x) := by
  unfold mAdQ mg at h
  by_cases h1 : mThr (G.2.1 0 30) o kind who = true
  · rw [if_pos h1] at h
    by_cases h2 : mIn rg 1 15 = true
    · rw [if_pos h2] at h
      by_cases h3 : (!decide (G.2.1 0 30 (oA o.toNatClampNeg 5) = 6)) = true
      · rw [if_pos h3] at h
        have h4 := h.1
        cases h4
        exact ⟨_, rfl⟩
      · rw [if_neg h3] at h
        have h4 := h.1
        cases h4
        exact ⟨_, rfl⟩
    · rw [if_neg h2] at h
      have h4 := h.1
      cases h4
      exact ⟨_, rfl⟩
  · rw [if_neg h1] at h
    have h4 := h.1
    cases h4
    exact ⟨_, rfl⟩
theorem mEnt_nI {w : Nat → Int32} {o i : Int32} (hw : mOk w) (h : mEnt w o i = true) : ∃ j k : Nat, j < 20 ∧ k < mCt w j ∧ o = nI j ∧ i = nI k := by
  obtain ⟨h1, h2⟩ := Bool.and_eq_true_iff.mp h
  obtain ⟨j, hj, rfl⟩ := mHold_nI h1
  rw [nI_clamp (by omega)] at h2
  obtain ⟨k, hk, e⟩ := mIn_lt h2 (hw.ct hj) (by have := hw.ct6 hj; omega)
  exact ⟨j, k, hj, hk, rfl, e⟩
def mOneK (w old : Nat → Int32) (o i n : Nat) : Nat → Int32 := fun k => if k < n then w (enA o i k) else old k
theorem mOneK_0 (w old : Nat → Int32) (o i : Nat) : mOneK w old o i 0 = old := by
  funext k
  rw [mOneK, if_neg (by omega)]
theorem mOneK_step (w old : Nat → Int32) (o i n : Nat) : upd (mOneK w old o i n) n (w (enA o i n)) = mOneK w old o i (n + 1) := by
  funext k
  unfold upd mOneK
  by_cases h1 : k = n
  · subst h1
    rw [if_pos rfl, if_pos (by omega)]
  · rw [if_neg h1]
    by_cases h2 : k < n
    · rw [if_pos h2, if_pos (by omega)]
    · rw [if_neg h2, if_neg (by omega)]
def mKp (o i : Nat) (G : GS) : GS := putA G 0 36 (mOneK (G.2.1 0 30) (G.2.1 0 36) o i 5)
def mPu (w one : Nat → Int32) (o i n : Nat) : Nat → Int32 := fun k => if enA o i 0 ≤ k ∧ k < enA o i 0 + n then one (k - enA o i 0) else w k
theorem mPu_0 (w one : Nat → Int32) (o i : Nat) : mPu w one o i 0 = w := by
  funext k
  rw [mPu, if_neg (by omega)]
theorem mPu_step (w one : Nat → Int32) (o i n : Nat) : upd (mPu w one o i n) (enA o i n) (one n) = mPu w one o i (n + 1) := by
  funext k
  unfold upd mPu
  by_cases h1 : k = enA o i n
  · subst h1
    rw [if_pos rfl, if_pos (by unfold enA; omega)]
    congr 1
    unfold enA
    omega
  · rw [if_neg h1]
    by_cases h2 : enA o i 0 ≤ k ∧ k < enA o i 0 + n
    · rw [if_pos h2, if_pos (by omega)]
    · rw [if_neg h2, if_neg (by unfold enA at *; omega)]
/-- for whom an entry is -/
def mFor (w : Nat → Int32) (u : Int32) (o li i : Nat) : Bool := if w (enA li i 0) = 0 then decide (w (enA li i 1) = u) else if w (enA li i 0) = 1 then mIsOf w (mGs w) u (w (enA li i 1)).toNatClampNeg else if w (enA li i 0) = 2 then decide (w (oA o 2) = u) else true
/-- the first entry of a list that decides -/
def mCo (w : Nat → Int32) (u : Int32) (o : Nat) (r : Int32) (li i : Nat) : Bool := (decide (nI li = nI o) || decide (w (enA li i 4) = 1)) && (mHas (w (enA li i 2)) r && mFor w u o li i)
def mDeI (w : Nat → Int32) (u : Int32) (o : Nat) (r : Int32) (li : Nat) : Nat → Nat → Option Nat
  | 0, _ => none
  | n + 1, i => if mCo w u o r li i = true then some i else mDeI w u o r li n (i + 1)
def mDe (w : Nat → Int32) (u : Int32) (o : Nat) (r : Int32) : Nat → Int32 → Int32
  | 0, _ => -1
  | n + 1, x => if x < 0 then -1 else match mDeI w u o r x.toNatClampNeg (mCt w x.toNatClampNeg) 0 with
    | some i => nI (6 * x.toNatClampNeg + i)
    | none => mDe w u o r n (if w (oA x.toNatClampNeg 4) = 1 then w (oA x.toNatClampNeg 1) else -1)
theorem mDe_m1 (w : Nat → Int32) (u : Int32) (o : Nat) (r : Int32) (n : Nat) : mDe w u o r n (-1) = -1 := by
  cases n with
  | zero => rw [mDe]
  | succ n => rw [mDe, if_pos (by decide)]
def mDec (w : Nat → Int32) (u : Int32) (o : Nat) (r : Int32) : Int32 := mDe w u o r 20 (nI o)
-- 34.model5
/-! The reference: what is allowed -/
theorem mDeI_lt {w : Nat → Int32} {u : Int32} {o : Nat} {r : Int32} {li : Nat} : ∀ (n i : Nat) {k : Nat}, mDeI w u o r li n i = some k → k < n + i := by
  intro n
  induction n with
  | zero => intro i k h; rw [mDeI] at h; cases h
  | succ n ih =>
    intro i k h
    rw [mDeI] at h
    by_cases h1 : mCo w u o r li i = true
    · rw [if_pos h1] at h
      cases h
      omega
    · rw [if_neg h1] at h
      have := ih (i + 1) h
      omega
theorem mDe_rng {w : Nat → Int32} (hw : mOk w) (u : Int32) (o : Nat) (r : Int32) : ∀ (n : Nat) (x : Int32), (x = -1 ∨ ∃ j, j < 20 ∧ x = nI j) → mDe w u o r n x = -1 ∨ ∃ li i, li < 20 ∧ i < 6 ∧ i < mCt w li ∧ mDe w u o r n x = nI (6 * li + i) := by
  intro n
  induction n with
  | zero => intro x _; exact Or.inl (by rw [mDe])
  | succ n ih =>
    rintro x (rfl | ⟨j, hj, rfl⟩)
    · exact Or.inl (mDe_m1 _ _ _ _ _)
    · rw [mDe, if_neg (nI_pos (by omega)), nI_clamp (by omega)]
      cases h : mDeI w u o r j (mCt w j) 0 with
      | some k =>
        have h1 := mDeI_lt _ _ h
        have h6 := hw.ct6 hj
        exact Or.inr ⟨j, k, hj, by omega, by omega, rfl⟩
      | none =>
        dsimp only
        obtain ⟨rk, hrk⟩ := hw.rk
        by_cases h4 : w (oA j 4) = 1
        · rw [if_pos h4]
          refine ih _ ?_
          rcases (hrk j hj).2 with z | ⟨j2, h5, h6, h7⟩
          · exact Or.inl z
          · exact Or.inr ⟨j2, h5, h6⟩
        · rw [if_neg h4]
          exact Or.inl (mDe_m1 _ _ _ _ _)
theorem mDec_rng {w : Nat → Int32} (hw : mOk w) (u : Int32) {o : Nat} (ho : o < 20) (r : Int32) : mDec w u o r = -1 ∨ ∃ li i, li < 20 ∧ i < 6 ∧ i < mCt w li ∧ mDec w u o r = nI (6 * li + i) := mDe_rng hw u o r 20 _ (Or.inr ⟨o, ho, rfl⟩)
def mByL (w : Nat → Int32) (u : Int32) (o : Nat) (r : Int32) : Bool := if mDec w u o r < 0 then false else decide (w (enA ((mDec w u o r).toNatClampNeg / 6) ((mDec w u o r).toNatClampNeg % 6) 3) = 1)
def mAl (w : Nat → Int32) (u : Int32) (o : Nat) (r : Int32) : Bool := decide (u = 0) || ((decide (r = 3) && decide (w (oA o 2) = u)) || (mHas (w (oA o 3)) r && mByL w u o r))
def mRi (f : Nat → Bool) : Nat → Nat → Int32 → Int32
  | 0, _, x => x
  | n + 1, j, x => mRi f n (j + 1) (x ||| (if f j = true then ((1 : Int32) <<< (nI j &&& 31)) else 0))
def mRg (w : Nat → Int32) (u : Int32) (o : Nat) : Int32 := mRi (fun j => mAl w u o (nI j)) 4 0 0
def mEvO (w : Nat → Int32) (u : Int32) : Nat → Nat → Int32 → Int32
  | 0, _, t => t
  | n + 1, j, t => mEvO w u n (j + 1) (t + (if mHold w (nI j) = true then mSz (mRg w u j) 20 0 0 else 0))
def mEv (w : Nat → Int32) : Nat → Nat → Int32 → Int32
  | 0, _, t => t
  | n + 1, j, t => mEv w n (j + 1) (mEvO w (nI j) 20 0 t)
/-- what is noted of the k-th pair -/
def mNt (w : Nat → Int32) (k : Nat) : Int32 := if nI (k / 20) < w 0 ∧ mHold w (nI (k % 20)) = true then mRg w (nI (k / 20)) (k % 20) else 0
def mNtK (w old : Nat → Int32) (n : Nat) : Nat → Int32 := fun k => if k < n then mNt w k else old k
theorem mNtK_0 (w old : Nat → Int32) : mNtK w old 0 = old := by
  funext k
  rw [mNtK, if_neg (by omega)]
theorem mNtK_step (w old : Nat → Int32) (n : Nat) : upd (mNtK w old n) n (mNt w n) = mNtK w old (n + 1) := by
  funext k
  unfold upd mNtK
  by_cases h1 : k = n
  · subst h1
    rw [if_pos rfl, if_pos (by omega)]
  · rw [if_neg h1]
    by_cases h2 : k < n
    · rw [if_pos h2, if_pos (by omega)]
    · rw [if_neg h2, if_neg (by omega)]
theorem div20 {k : Nat} (h : k < 240) : nI k / 20 = nI (k / 20) := pk_div (d := 20) (by omega) (by decide) (by decide)
theorem rem20 {k : Nat} (h : k < 240) : nI k - nI k / 20 * 20 = nI (k % 20) := pk_rem (d := 20) (by omega) (by decide) (by decide)
def mNo (G : GS) : GS := putA G 0 35 (mNtK (G.2.1 0 30) (G.2.1 0 35) 240)
def mUlR (x y : Int32) : Nat → Nat → Int32 → Int32
  | 0, _, t => t
  | n + 1, j, t => mUlR x y n (j + 1) (t + (if mHas x (nI j) = mHas y (nI j) then 0 else 1))
def mUl (w was : Nat → Int32) : Nat → Nat → Int32 → Int32
  | 0, _, t => t
  | n + 1, k, t => mUl w was n (k + 1) (mUlR (mNt w k) (was k) 4 0 t)
theorem b2i_inj {a b : Bool} : b2i a = b2i b ↔ a = b := by cases a <;> cases b <;> simp [b2i]
-- what keeps the row in order
theorem mOk_mk {w v : Nat → Int32} (h : mOk w) (h0 : v 0 = w 0) (h1 : v 1 = w 1) (h2 : ∀ o, o < 20 → v (oA o 0) = w (oA o 0)) (h3 : ∀ o, o < 20 → v (oA o 1) = w (oA o 1)) (h4 : ∀ o, o < 20 → ∃ c, c ≤ 6 ∧ v (oA o 5) = nI c) (h5 : ∀ o i, o < 20 → i < 6 → v (enA o i 0) = 1 → ∃ j, j < 8 ∧ v (enA o i 1) = nI j) : mOk v := by
  refine ⟨?_, ?_, ?_, ?_, h5, ?_⟩
  · unfold mUs; rw [h0]; exact h.1
  · unfold mGs; rw [h1]; exact h.2.1
  · intro o ho
    obtain ⟨c, hc, e⟩ := h4 o ho
    unfold mCt
    rw [e, nI_clamp (by omega)]
    exact ⟨rfl, hc⟩
  · intro o ho
    rw [h2 o ho]
    exact h.th ho
  · obtain ⟨rk, hrk⟩ := h.rk
    refine ⟨rk, fun o ho => ?_⟩
    rw [h3 o ho]
    exact hrk o ho
theorem mOk_to {w : Nat → Int32} (h : mOk w) {o i : Nat} (ho : o < 20) (hi : i < mCt w o) : mOk (mTo w o i (mCt w o)) := by
  have hc6 := h.ct6 ho
  have e : ∀ x : Nat, ¬ x = oA o 5 → ¬ (enA o i 0 ≤ x ∧ x < enA o (mCt w o - 1) 0) → mTo w o i (mCt w o) x = w x := by
    intro x h1 h2
    rw [mTo, mTk, if_neg h2, upd, if_neg h1]
  refine mOk_mk h (e _ (by unfold oA; omega) (by unfold enA; omega)) (e _ (by unfold oA; omega) (by unfold enA; omega)) (fun o2 ho2 => e _ (by unfold oA; omega) (by unfold oA enA; omega)) (fun o2 ho2 => e _ (by unfold oA; omega) (by unfold oA enA; omega)) ?_ ?_
  · intro o2 ho2
    by_cases h2 : o2 = o
    · subst h2
      refine ⟨mCt w o2 - 1, by omega, ?_⟩
      rw [mTo, mTk, if_neg (by unfold oA enA; omega), upd, if_pos rfl]
    · exact ⟨mCt w o2, h.ct6 ho2, by rw [e _ (by unfold oA; omega) (by unfold oA enA; omega)]; exact h.ct ho2⟩
  · intro o2 i2 ho2 hi2 hk
    by_cases h2 : enA o i 0 ≤ enA o2 i2 0 ∧ enA o2 i2 0 < enA o (mCt w o - 1) 0
    · have eo : o2 = o := by unfold enA at h2; rcases Nat.lt_trichotomy o2 o with z | z | z <;> omega
      subst eo
      have e0 : ∀ k, k < 2 → mTo w o2 i (mCt w o2) (enA o2 i2 k) = w (enA o2 (i2 + 1) k) := by
        intro k hk2
        rw [mTo, mTk, if_pos (by unfold enA at *; omega), upd, if_neg (by unfold oA enA at *; omega)]
        congr 1
        unfold enA
        omega
      rw [e0 0 (by omega)] at hk
      rw [e0 1 (by omega)]
      exact h.who ho2 (by unfold enA at h2; omega) hk
    · rw [e _ (by unfold oA enA; omega) h2] at hk
      rw [e _ (by unfold oA enA; omega) (by unfold enA at *; omega)]
      exact h.who ho2 hi2 hk
theorem mOpn_at (w : Nat → Int32) (o i c x : Nat) (h1 : ¬ x = oA o 5) (h2 : ¬ (enA o i 4 < x ∧ x ≤ enA o c 4)) : mOpn w o i c x = w x := by
  rw [mOpn, upd, if_neg h1, mOpK, if_neg h2]
/-- an entry is put in at a place: o with c entries, at i -/
theorem mOk_ins {w v : Nat → Int32} (h : mOk w) {o i : Nat} (ho : o < 20) (hc : mCt w o ≤ 5) (hi : i ≤ mCt w o) (hv : ∀ x : Nat, ¬ (enA o i 0 ≤ x ∧ x < enA o i 5) → v x = mOpn w o i (mCt w o) x) (hk : v (enA o i 0) = 1 → ∃ j, j < 8 ∧ v (enA o i 1) = nI j) : mOk v := by
  have e : ∀ x : Nat, ¬ x = oA o 5 → ¬ (enA o i 0 ≤ x ∧ x ≤ enA o (mCt w o) 4) → v x = w x := by
    intro x h1 h2
    rw [hv x (by unfold enA at *; omega), mOpn_at _ _ _ _ _ h1 (by unfold enA at *; omega)]
  refine mOk_mk h (e _ (by unfold oA; omega) (by unfold enA; omega)) (e _ (by unfold oA; omega) (by unfold enA; omega)) (fun o2 ho2 => e _ (by unfold oA; omega) (by unfold oA enA; omega)) (fun o2 ho2 => e _ (by unfold oA; omega) (by unfold oA enA; omega)) ?_ ?_
  · intro o2 ho2
    by_cases h2 : o2 = o
    · subst h2
      refine ⟨mCt w o2 + 1, by omega, ?_⟩
      rw [hv _ (by unfold oA enA; omega), mOpn, upd, if_pos rfl]
    · exact ⟨mCt w o2, h.ct6 ho2, by rw [e _ (by unfold oA; omega) (by unfold oA enA; omega)]; exact h.ct ho2⟩
  · intro o2 i2 ho2 hi2 hk2
    by_cases h3 : o2 = o ∧ i2 = i
    · obtain ⟨rfl, rfl⟩ := h3
      exact hk hk2
    · by_cases h2 : enA o i 4 < enA o2 i2 0 ∧ enA o2 i2 0 ≤ enA o (mCt w o) 4
      · have eo : o2 = o := by unfold enA at h2; rcases Nat.lt_trichotomy o2 o with z | z | z <;> omega
        subst eo
        have e0 : ∀ k, k < 2 → v (enA o2 i2 k) = w (enA o2 (i2 - 1) k) := by
          intro k hk3
          rw [hv _ (by unfold enA at *; omega), mOpn, upd, if_neg (by unfold oA enA at *; omega), mOpK, if_pos (by unfold enA at *; omega)]
          congr 1
          unfold enA at *
          omega
        rw [e0 0 (by omega)] at hk2
        rw [e0 1 (by omega)]
        exact h.who ho2 (by omega) hk2
      · have n0 : ∀ k, k < 2 → ¬ (enA o i 0 ≤ enA o2 i2 k ∧ enA o2 i2 k < enA o i 5) := by
          intro k hk3
          unfold enA at *
          rcases Nat.lt_trichotomy o2 o with z | z | z <;> omega
        rw [hv _ (n0 0 (by omega)), mOpn_at _ _ _ _ _ (by unfold oA enA; omega) h2] at hk2
        rw [hv _ (n0 1 (by omega)), mOpn_at _ _ _ _ _ (by unfold oA enA; omega) (by unfold enA at *; omega)]
        exact h.who ho2 hi2 hk2
-- 35.model6
/-! The reference: moves, requests, questions -/
theorem mCt_to {w : Nat → Int32} {o i c0 : Nat} (h1 : c0 ≤ 6) : mCt (mTo w o i c0) o = c0 - 1 := by
  rw [mCt, mTo, mTk, if_neg (by unfold oA enA; omega), upd, if_pos rfl, nI_clamp (by omega)]
theorem mTo_5 {w : Nat → Int32} {o i c0 : Nat} : mTo w o i c0 (oA o 5) = nI (c0 - 1) := by
  rw [mTo, mTk, if_neg (by unfold oA enA; omega), upd, if_pos rfl]
/-- the entry i of o taken out and put in at the place t -/
def mMv (w old : Nat → Int32) (o i t : Nat) : Nat → Int32 := mPu (mOpn (mTo w o i (mCt w o)) o t (mCt w o - 1)) (mOneK w old o i 5) o t 5
theorem mOk_mv {w : Nat → Int32} (h : mOk w) (old : Nat → Int32) {o i t : Nat} (ho : o < 20) (hi : i < mCt w o) (ht : t < mCt w o) : mOk (mMv w old o i t) := by
  have hc6 := h.ct6 ho
  have e := mCt_to (w := w) (o := o) (i := i) hc6
  refine mOk_ins (w := mTo w o i (mCt w o)) (mOk_to h ho hi) ho (i := t) (by omega) (by omega) ?_ ?_
  · intro x hx
    rw [mMv, mPu, if_neg (by unfold enA at *; omega), e]
  · intro hk
    rw [mMv, mPu, if_pos (by unfold enA; omega), mOneK, if_pos (by unfold enA; omega), show enA o t 0 - enA o t 0 = 0 by omega] at hk
    obtain ⟨j, hj, e2⟩ := h.who ho (by omega : i < 6) hk
    refine ⟨j, hj, ?_⟩
    rw [mMv, mPu, if_pos (by unfold enA; omega), mOneK, if_pos (by unfold enA; omega), show enA o t 1 - enA o t 0 = 1 by unfold enA; omega]
    exact e2
/-- the log makes room -/
def mLgK (w : Nat → Int32) (b : Nat) : Nat → Int32 := fun k => if b < k ∧ k ≤ 761 then w (k - 3) else w k
theorem mLgK_0 (w : Nat → Int32) : mLgK w 761 = w := by
  funext k
  rw [mLgK, if_neg (by omega)]
theorem mLgK_step (w : Nat → Int32) (b : Nat) (h : b + 1 ≤ 761) (h3 : 3 ≤ b + 1) : upd (mLgK w (b + 1)) (b + 1) (mLgK w (b + 1) (b + 1 - 3)) = mLgK w b := by
  funext k
  unfold upd mLgK
  by_cases h1 : k = b + 1
  · subst h1
    rw [if_pos rfl, if_neg (by omega), if_pos (by omega)]
  · rw [if_neg h1]
    by_cases h2 : b + 1 < k ∧ k ≤ 761
    · rw [if_pos h2, if_pos (by omega)]
    · rw [if_neg h2, if_neg (by omega)]
def mL3 (w : Nat → Int32) (u o : Int32) (b : Bool) : Nat → Int32 := upd (upd (upd (mLgK w 740) 738 u) 739 o) 740 (b2i b)
def mL4 (w : Nat → Int32) (u o : Int32) (b : Bool) : Nat → Int32 := upd (mL3 w u o b) 762 (mL3 w u o b 762 + (if mL3 w u o b 762 < 8 then 1 else 0))
def mL5 (w : Nat → Int32) (u o : Int32) (b : Bool) : Nat → Int32 := upd (mL4 w u o b) 763 (mL4 w u o b 763 + 1)
def mLog (w : Nat → Int32) (u o : Int32) (b : Bool) : Nat → Int32 := upd (mL5 w u o b) 764 (mL5 w u o b 764 + (if b = true then 0 else 1))
def mQc (w : Nat → Int32) (u o r : Int32) : Int32 := if (mIn u 0 (w 0 - 1) && mHold w o) = true then (if mIn r 0 3 = true then 0 else 2) else 1
def mQ3 (u o r : Int32) (X : cOut → GS → Prop) (G : GS) : cOut → GS → Prop := mg (mIn u 0 (G.2.1 0 30 0 - 1) && mHold (G.2.1 0 30) o) 1 (mg (mIn r 0 3) 2 X G) G
theorem mQ3_t {u o r : Int32} {X : cOut → GS → Prop} {G : GS} (h : mQc (G.2.1 0 30) u o r = 0) : mQ3 u o r X G = X ∧ (mIn u 0 (G.2.1 0 30 0 - 1) = true ∧ mHold (G.2.1 0 30) o = true) ∧ mIn r 0 3 = true := by
  unfold mQc at h
  by_cases h1 : (mIn u 0 (G.2.1 0 30 0 - 1) && mHold (G.2.1 0 30) o) = true
  · rw [if_pos h1] at h
    by_cases h2 : mIn r 0 3 = true
    · exact ⟨by rw [mQ3, mg_t h1, mg_t h2], Bool.and_eq_true_iff.mp h1, h2⟩
    · rw [if_neg h2] at h
      exact absurd h (by decide)
  · rw [if_neg h1] at h
    exact absurd h (by decide)
theorem mQ3_f {u o r : Int32} {X : cOut → GS → Prop} {G : GS} (h : ¬ mQc (G.2.1 0 30) u o r = 0) : mQ3 u o r X G (.inl (some (.int 0))) (ms (mQc (G.2.1 0 30) u o r) G) := by
  unfold mQ3 mQc at *
  by_cases h1 : (mIn u 0 (G.2.1 0 30 0 - 1) && mHold (G.2.1 0 30) o) = true
  · rw [if_pos h1] at h ⊢
    rw [mg_t h1]
    by_cases h2 : mIn r 0 3 = true
    · rw [if_pos h2] at h
      exact absurd rfl h
    · rw [if_neg h2]
      exact mg_f (by simpa using h2)
  · rw [if_neg h1]
    exact mg_f (by simpa using h1)
-- 36.model7
/-! The reference: share, questions, as they are, the log -/
/-- an entry for a user, ahead of the others -/
def mSh (w : Nat → Int32) (o : Nat) (u r : Int32) : Nat → Int32 := mWrt (mOpn w o 0 (mCt w o)) o 0 0 u r true false
theorem mWrt_out (w : Nat → Int32) (o i : Nat) (kind who rg : Int32) (a b : Bool) (x : Nat) (h : ¬ (enA o i 0 ≤ x ∧ x < enA o i 5)) : mWrt w o i kind who rg a b x = w x := by
  unfold mWrt upd
  rw [if_neg (by unfold enA at *; omega), if_neg (by unfold enA at *; omega), if_neg (by unfold enA at *; omega), if_neg (by unfold enA at *; omega), if_neg (by unfold enA at *; omega)]
theorem mOk_sh {w : Nat → Int32} (h : mOk w) {o : Nat} (u r : Int32) (ho : o < 20) (hc : mCt w o ≤ 5) : mOk (mSh w o u r) := by
  refine mOk_ins h ho (i := 0) hc (by omega) (fun x hx => mWrt_out _ _ _ _ _ _ _ _ _ hx) ?_
  intro hk
  have e : mSh w o u r (enA o 0 0) = 0 := by
    unfold mSh mWrt upd
    rw [if_neg (by unfold enA; omega), if_neg (by unfold enA; omega), if_neg (by unfold enA; omega), if_neg (by unfold enA; omega), if_pos rfl]
  rw [e] at hk
  exact absurd hk (by decide)
theorem mCt_lt {w : Nat → Int32} (h : mOk w) {j : Nat} (hj : j < 20) (c : ¬ w (oA j 5) = 6) : mCt w j < 6 := by
  have h6 := h.ct6 hj
  rcases Nat.lt_or_ge (mCt w j) 6 with z | z
  · exact z
  · exact absurd (show w (oA j 5) = 6 by rw [h.ct hj, show mCt w j = 6 by omega]; rfl) c
theorem mQc_cases {w : Nat → Int32} {u o r : Int32} : mQc w u o r = 0 ∨ mQc w u o r = 1 ∨ mQc w u o r = 2 := by
  unfold mQc
  by_cases h1 : (mIn u 0 (w 0 - 1) && mHold w o) = true
  · rw [if_pos h1]
    by_cases h2 : mIn r 0 3 = true
    · rw [if_pos h2]; exact Or.inl rfl
    · rw [if_neg h2]; exact Or.inr (Or.inr rfl)
  · rw [if_neg h1]; exact Or.inr (Or.inl rfl)
theorem isq_fin {w : Nat → Int32} {u o r : Int32} {G : GS} {x : Int32} {b : Bool} (h : mQc w u o r = x) (hb : decide (x = 0) = b) : fR (some (.int (b2i (decide (mQc w u o r = 0))))) (ms (mQc w u o r) G) (.inl (some (.int (b2i b)))) (ms x G) := by
  subst h
  subst hb
  exact ⟨rfl, rfl⟩
theorem deq0 {x : Int32} (h : decide (x = 0) = true) : x = 0 := of_decide_eq_true h
theorem dne0 {x : Int32} (h : decide (x = 0) = false) : ¬ x = 0 := of_decide_eq_false h
-- as they are
def mOGQ (u g : Int32) (G : GS) : cOut → GS → Prop := mg (mIn u 0 (G.2.1 0 30 0 - 1) && mIn g 0 (G.2.1 0 30 1 - 1)) 1 (fR (some (.int (b2i (mIsOf (G.2.1 0 30) (mGs (G.2.1 0 30)) u g.toNatClampNeg)))) (ms 0 G)) (G)
theorem mg_k {b : Bool} {k : Int32} {v : Int32} {G1 G G2 : GS} {r : Option Value} (h : mg b k (fR (some (.int v)) G1) G (.inl r) G2) : ∃ x : Int32, r = some (.int x) := by
  unfold mg at h
  by_cases h1 : b = true
  · rw [if_pos h1] at h
    have h4 := h.1
    cases h4
    exact ⟨_, rfl⟩
  · rw [if_neg h1] at h
    have h4 := h.1
    cases h4
    exact ⟨_, rfl⟩
/-- what is answered of an object or an entry, as a number -/
def mOv (b : Bool) (x : Int32) (G : GS) : cOut → GS → Prop := mg b 1 (fR (some (.int x)) (ms 0 G)) G
theorem mOv_c {b : Bool} {x : Int32} {G G2 : GS} {r : Option Value} (h : mOv b x G (.inl r) G2) : (b = true ∧ r = some (.int x) ∧ G2 = ms 0 G) ∨ (b = false ∧ r = some (.int 0) ∧ G2 = ms 1 G) := by
  unfold mOv mg at h
  by_cases h1 : b = true
  · rw [if_pos h1] at h
    have h4 := h.1
    cases h4
    exact Or.inl ⟨h1, rfl, h.2⟩
  · rw [if_neg h1] at h
    have h4 := h.1
    cases h4
    exact Or.inr ⟨by simpa using h1, rfl, h.2⟩
theorem mOv_x {b : Bool} {x : Int32} {G G2 : GS} {E : String} {Q : cOut → GS → Prop} (h : mOv b x G (.inr E) G2) : Q (.inr E) G2 := by
  unfold mOv mg at h
  by_cases h1 : b = true
  · rw [if_pos h1] at h
    cases h.1
  · rw [if_neg h1] at h
    cases h.1
theorem mOv_t {b : Bool} {x : Int32} {G : GS} (h : b = true) : mOv b x G (.inl (some (.int x))) (ms 0 G) := by
  unfold mOv
  rw [mg_t h]
  exact ⟨rfl, rfl⟩
theorem mOv_f {b : Bool} {x : Int32} {G : GS} (h : b = false) : mOv b x G (.inl (some (.int 0))) (ms 1 G) := mg_f h
def mLgd (w : Nat → Int32) (a : Int32) : Bool := mIn a 0 (w 762 - 1)
-- 37.model8
/-! The reference: counts, texts -/
def mCuL (w : Nat → Int32) (o : Nat) (r : Int32) : Nat → Nat → Int32 → Int32
  | 0, _, t => t
  | n + 1, j, t => mCuL w o r n (j + 1) (t + (if mAl w (nI j) o r = true then 1 else 0))
/-- is a right allowed through a group -/
def mTh (w : Nat → Int32) (u : Int32) (o : Nat) (r g : Int32) : Bool := mAl w u o r && (!decide (mDec w u o r < 0) && (decide (w (enA ((mDec w u o r).toNatClampNeg / 6) ((mDec w u o r).toNatClampNeg % 6) 3) = 1) && (decide (w (enA ((mDec w u o r).toNatClampNeg / 6) ((mDec w u o r).toNatClampNeg % 6) 0) = 1) && decide (w (enA ((mDec w u o r).toNatClampNeg / 6) ((mDec w u o r).toNatClampNeg % 6) 1) = g))))
def mTr (w : Nat → Int32) (u g : Int32) : Nat → Nat → Int32 → Int32
  | 0, _, t => t
  | n + 1, j, t => mTr w u g n (j + 1) (t + (if (mHold w (nI (j / 4)) && mTh w u (j / 4) (nI (j % 4)) g) = true then 1 else 0))
theorem div4 {k : Nat} (h : k < 80) : nI k / 4 = nI (k / 4) := pk_div (d := 4) (by omega) (by decide) (by decide)
theorem rem4 {k : Nat} (h : k < 80) : nI k - nI k / 4 * 4 = nI (k % 4) := pk_rem (d := 4) (by omega) (by decide) (by decide)
-- 38.model9
/-! The reference: texts are read -/
abbrev nT := Nat × (Int32 × (Nat × (Int32 × (Nat → Int32))))
def nP (G : GS) (q : nT) : GS := putA (putF (putF (putF (putF G 0 29 10 (nI q.1)) 0 29 11 q.2.1) 0 29 12 (nI q.2.2.1)) 0 29 13 q.2.2.2.1) 0 37 q.2.2.2.2
theorem nP_37 (G : GS) (q : nT) (w : Nat → Int32) : putA (nP G q) 0 37 w = nP G (q.1, q.2.1, q.2.2.1, q.2.2.2.1, w) := putA_putA _ _ _ _ _
theorem nP_10 (G : GS) (q : nT) (x : Nat) : putF (nP G q) 0 29 10 (nI x) = nP G (x, q.2) := by
  unfold nP
  rw [putF_putA, putF_comm _ _ _ 13 10 _ _ (by decide), putF_comm _ _ _ 12 10 _ _ (by decide), putF_comm _ _ _ 11 10 _ _ (by decide), putF_putF]
theorem nP_11 (G : GS) (q : nT) (x : Int32) : putF (nP G q) 0 29 11 x = nP G (q.1, x, q.2.2) := by
  unfold nP
  rw [putF_putA, putF_comm _ _ _ 13 11 _ _ (by decide), putF_comm _ _ _ 12 11 _ _ (by decide), putF_putF]
theorem nP_12 (G : GS) (q : nT) (x : Nat) : putF (nP G q) 0 29 12 (nI x) = nP G (q.1, q.2.1, x, q.2.2.2) := by
  unfold nP
  rw [putF_putA, putF_comm _ _ _ 13 12 _ _ (by decide), putF_putF]
theorem nP_13 (G : GS) (q : nT) (x : Int32) : putF (nP G q) 0 29 13 x = nP G (q.1, q.2.1, q.2.2.1, x, q.2.2.2.2) := by
  unfold nP
  rw [putF_putA, putF_putF]
def nG (G : GS) : nT := ((G.1 0 29 10).toNatClampNeg, G.1 0 29 11, (G.1 0 29 12).toNatClampNeg, G.1 0 29 13, G.2.1 0 37)
section NROWS2
variable {p : Program} {l : Launch} {e : Env} {R : Room} {s : State} {m : MethodId} {args : Array Value} {below : List Frame} {meth : Method} {c : Code} {cc : ByteArray} {nL : Nat} {own : String} {Θ : cTH} {Qp : cOut → GS → Prop} {Q9 : State → Prop} {mc ms2 k n pc q : Nat} {LS : List (Option Value)} {rest : List Value} {G : GS} {q9 : nT}
end NROWS2
/-- the place is in the text -/
def nTy (G : GS) (sp : Nat) : Prop := ∃ ty, G.1 0 29 7 = nI ty ∧ ty ≤ 80 ∧ sp ≤ ty
theorem nTy_lt {G : GS} {sp : Nat} (h : nTy G sp) (h2 : ¬ G.1 0 29 7 ≤ nI sp) : sp < 80 ∧ nTy G (sp + 1) := by
  obtain ⟨ty, e, h80, hs⟩ := h
  have h3 : sp < ty := by
    rcases Nat.lt_or_ge sp ty with z | z
    · exact z
    · exact absurd (by rw [e]; exact nI_le z (by omega)) h2
  exact ⟨by omega, ty, e, h80, h3⟩
def nSee (G : GS) (sp : Nat) (a b : Int32) : Bool := decide (nI sp < G.1 0 29 7) && mIn (G.2.1 0 34 sp) a b
theorem nSee_ty {G : GS} {sp : Nat} {a b : Int32} (h : nTy G sp) (h2 : nSee G sp a b = true) : sp < 80 ∧ nTy G (sp + 1) := nTy_lt h (Int32.not_le.mpr (of_decide_eq_true (Bool.and_eq_true_iff.mp h2).1))
def nSg (G : GS) (x : Int32) (q : nT) : Bool × nT := if nSee G q.1 x x = true then (true, (q.1 + 1, q.2)) else (false, q)
theorem nSg_ty {G : GS} {x : Int32} {q : nT} (h : nTy G q.1) : nTy G (nSg G x q).2.1 := by
  unfold nSg
  by_cases h2 : nSee G q.1 x x = true
  · rw [if_pos h2]; exact (nSee_ty h h2).2
  · rw [if_neg h2]; exact h
theorem nSg_pa {G : GS} {x : Int32} {q : nT} : (nSg G x q).2.2 = q.2 := by
  unfold nSg
  by_cases h2 : nSee G q.1 x x = true
  · rw [if_pos h2]
  · rw [if_neg h2]
/-- a number -/
def nN0 (G : GS) (q : nT) : Int32 := G.2.1 0 34 q.1 - 48
def nN1 (G : GS) (q : nT) : nT := (q.1 + 1, q.2.1, q.2.2.1, nN0 G q, q.2.2.2.2)
def nNm (G : GS) (mo : Int32) (q : nT) : Bool × nT :=
  if nSee G q.1 48 (48 + (if mo < 9 then mo else 9)) = true then
    (if nN0 G q = 1 ∧ 9 < mo ∧ nSee G (q.1 + 1) 48 (48 + mo - 10) = true then (true, (q.1 + 1 + 1, q.2.1, q.2.2.1, 10 + G.2.1 0 34 (q.1 + 1) - 48, q.2.2.2.2)) else (true, nN1 G q))
  else (false, q)
theorem nNm_ty {G : GS} {mo : Int32} {q : nT} (h : nTy G q.1) : nTy G (nNm G mo q).2.1 := by
  unfold nNm
  by_cases h2 : nSee G q.1 48 (48 + (if mo < 9 then mo else 9)) = true
  · rw [if_pos h2]
    have h3 := (nSee_ty h h2).2
    by_cases h4 : nN0 G q = 1 ∧ 9 < mo ∧ nSee G (q.1 + 1) 48 (48 + mo - 10) = true
    · rw [if_pos h4]
      exact (nSee_ty h3 h4.2.2).2
    · rw [if_neg h4]
      exact h3
  · rw [if_neg h2]
    exact h
theorem nNm_pa {G : GS} {mo : Int32} {q : nT} : (nNm G mo q).2.2.2.1 = q.2.2.1 := by
  unfold nNm
  by_cases h2 : nSee G q.1 48 (48 + (if mo < 9 then mo else 9)) = true
  · rw [if_pos h2]
    by_cases h4 : nN0 G q = 1 ∧ 9 < mo ∧ nSee G (q.1 + 1) 48 (48 + mo - 10) = true
    · rw [if_pos h4]
    · rw [if_neg h4]; rfl
  · rw [if_neg h2]
/-- a place of the part that is being read -/
def nPt (k : Nat) (x : Int32) (q : nT) : nT := (q.1, q.2.1, q.2.2.1, q.2.2.2.1, upd q.2.2.2.2 (5 * q.2.2.1 + k) x)
theorem v_npt_hx {a : Nat} (k : Nat) : (5 : Int32) * nI a + nI k = nI (5 * a + k) := by
  rw [show (5 : Int32) = nI 5 from rfl, nI_mul, nI_add]
def nWu (G : GS) (kind mo : Int32) (q : nT) : Bool × nT := ((nNm G mo q).1, nPt 1 (nPt 0 kind (nNm G mo q).2).2.2.2.1 (nPt 0 kind (nNm G mo q).2))
def nW3 (G : GS) (q : nT) : Bool × nT := if (nSg G 111 q).1 = true then (true, nPt 0 2 (nSg G 111 q).2) else nSg G 97 (nPt 0 3 (nSg G 111 q).2)
def nW2 (G : GS) (q : nT) : Bool × nT := if (nSg G 103 q).1 = true then nWu G 1 7 (nSg G 103 q).2 else nW3 G (nSg G 103 q).2
def nWh (G : GS) (q : nT) : Bool × nT := if (nSg G 117 (nPt 1 0 q)).1 = true then nWu G 0 11 (nSg G 117 (nPt 1 0 q)).2 else nW2 G (nSg G 117 (nPt 1 0 q)).2
theorem nPt_sp (k : Nat) (x : Int32) (q : nT) : (nPt k x q).1 = q.1 := rfl
theorem nPt_pa (k : Nat) (x : Int32) (q : nT) : (nPt k x q).2.2.1 = q.2.2.1 := rfl
theorem nSg_pa2 {G : GS} {x : Int32} {q : nT} : (nSg G x q).2.2.2.1 = q.2.2.1 := by rw [nSg_pa]
theorem nWu_ty {G : GS} {k mo : Int32} {q : nT} (h : nTy G q.1) : nTy G (nWu G k mo q).2.1 := nNm_ty h
theorem nWu_pa {G : GS} {k mo : Int32} {q : nT} : (nWu G k mo q).2.2.2.1 = q.2.2.1 := nNm_pa
theorem nWh_ty {G : GS} {q : nT} (h : nTy G q.1) : nTy G (nWh G q).2.1 := by
  unfold nWh
  have h1 : nTy G (nSg G 117 (nPt 1 0 q)).2.1 := nSg_ty h
  by_cases c1 : (nSg G 117 (nPt 1 0 q)).1 = true
  · rw [if_pos c1]; exact nWu_ty h1
  · rw [if_neg c1]
    unfold nW2
    have h2 : nTy G (nSg G 103 (nSg G 117 (nPt 1 0 q)).2).2.1 := nSg_ty h1
    by_cases c2 : (nSg G 103 (nSg G 117 (nPt 1 0 q)).2).1 = true
    · rw [if_pos c2]; exact nWu_ty h2
    · rw [if_neg c2]
      unfold nW3
      have h3 : nTy G (nSg G 111 (nSg G 103 (nSg G 117 (nPt 1 0 q)).2).2).2.1 := nSg_ty h2
      by_cases c3 : (nSg G 111 (nSg G 103 (nSg G 117 (nPt 1 0 q)).2).2).1 = true
      · rw [if_pos c3]; exact h3
      · rw [if_neg c3]; exact nSg_ty h3
theorem nWh_pa {G : GS} {q : nT} : (nWh G q).2.2.2.1 = q.2.2.1 := by
  unfold nWh
  by_cases c1 : (nSg G 117 (nPt 1 0 q)).1 = true
  · rw [if_pos c1, nWu_pa, nSg_pa2]; rfl
  · rw [if_neg c1]
    unfold nW2
    by_cases c2 : (nSg G 103 (nSg G 117 (nPt 1 0 q)).2).1 = true
    · rw [if_pos c2, nWu_pa, nSg_pa2, nSg_pa2]; rfl
    · rw [if_neg c2]
      unfold nW3
      by_cases c3 : (nSg G 111 (nSg G 103 (nSg G 117 (nPt 1 0 q)).2).2).1 = true
      · rw [if_pos c3, nPt_pa, nSg_pa2, nSg_pa2, nSg_pa2]; rfl
      · rw [if_neg c3, nSg_pa2, nPt_pa, nSg_pa2, nSg_pa2, nSg_pa2]; rfl
-- 39.model10
/-! The reference: an entry, a list, what is wrong -/
def nPp (q : nT) : nT := (q.1, q.2.1, q.2.2.1 + 1, q.2.2.2)
def nE6 (G : GS) (b : Bool) (x : Int32) (q : nT) : Bool × nT := (true, nPp (nPt 4 (b2i (nSg G 42 (nPt 3 (b2i b) (nPt 2 x q))).1) (nSg G 42 (nPt 3 (b2i b) (nPt 2 x q))).2))
def nE5 (G : GS) (b : Bool) (x : Int32) (q : nT) : Bool × nT := if x = 0 then (false, q) else nE6 G b x q
def nE4 (G : GS) (b : Bool) (x : Int32) (q : nT) : Bool × nT := nE5 G b (x + (if (nSg G 109 q).1 = true then 8 else 0)) (nSg G 109 q).2
def nE3 (G : GS) (b : Bool) (x : Int32) (q : nT) : Bool × nT := nE4 G b (x + (if (nSg G 120 q).1 = true then 4 else 0)) (nSg G 120 q).2
def nE2 (G : GS) (b : Bool) (x : Int32) (q : nT) : Bool × nT := nE3 G b (x + (if (nSg G 119 q).1 = true then 2 else 0)) (nSg G 119 q).2
def nE1 (G : GS) (b : Bool) (q : nT) : Bool × nT := nE2 G b (if (nSg G 114 q).1 = true then 1 else 0) (nSg G 114 q).2
def nE0 (G : GS) (b : Bool) (q : nT) : Bool × nT := if (nWh G q).1 = true then (if (nSg G 61 (nWh G q).2).1 = true then nE1 G b (nSg G 61 (nWh G q).2).2 else (false, (nSg G 61 (nWh G q).2).2)) else (false, (nWh G q).2)
def nEn (G : GS) (q : nT) : Bool × nT := if (nSg G 43 q).1 = true then nE0 G true (nSg G 43 q).2 else if (nSg G 45 (nSg G 43 q).2).1 = true then nE0 G false (nSg G 45 (nSg G 43 q).2).2 else (false, (nSg G 45 (nSg G 43 q).2).2)
/-- place and parts behind an entry -/
def nOk (G : GS) (q : nT) (r : Bool × nT) : Prop := nTy G r.2.1 ∧ r.2.2.2.1 = (if r.1 = true then q.2.2.1 + 1 else q.2.2.1)
theorem nE5_ok {G : GS} {b : Bool} {x : Int32} {q : nT} (h : nTy G q.1) : nOk G q (nE5 G b x q) := by
  unfold nE5
  by_cases h1 : x = 0
  · rw [if_pos h1]; exact ⟨h, rfl⟩
  · rw [if_neg h1]
    refine ⟨nSg_ty h, ?_⟩
    show (nSg G 42 (nPt 3 (b2i b) (nPt 2 x q))).2.2.2.1 + 1 = _
    rw [nSg_pa2]
    rfl
theorem nOk_pa {G : GS} {q q2 : nT} {r : Bool × nT} (h : nOk G q2 r) (e : q2.2.2.1 = q.2.2.1) : nOk G q r := by
  obtain ⟨h1, h2⟩ := h
  exact ⟨h1, by rw [h2, e]⟩
theorem nE1_ok {G : GS} {b : Bool} {q : nT} (h : nTy G q.1) : nOk G q (nE1 G b q) := by
  unfold nE1 nE2 nE3 nE4
  exact nOk_pa (nE5_ok (nSg_ty (nSg_ty (nSg_ty (nSg_ty h))))) (by rw [nSg_pa2, nSg_pa2, nSg_pa2, nSg_pa2])
theorem nE0_ok {G : GS} {b : Bool} {q : nT} (h : nTy G q.1) : nOk G q (nE0 G b q) := by
  unfold nE0
  by_cases h1 : (nWh G q).1 = true
  · rw [if_pos h1]
    by_cases h2 : (nSg G 61 (nWh G q).2).1 = true
    · rw [if_pos h2]; exact nOk_pa (nE1_ok (nSg_ty (nWh_ty h))) (by rw [nSg_pa2, nWh_pa])
    · rw [if_neg h2]; exact ⟨nSg_ty (nWh_ty h), by rw [nSg_pa2, nWh_pa]; rfl⟩
  · rw [if_neg h1]; exact ⟨nWh_ty h, by rw [nWh_pa]; rfl⟩
theorem nEn_ok {G : GS} {q : nT} (h : nTy G q.1) : nOk G q (nEn G q) := by
  unfold nEn
  by_cases h1 : (nSg G 43 q).1 = true
  · rw [if_pos h1]; exact nOk_pa (nE0_ok (nSg_ty h)) (by rw [nSg_pa2])
  · rw [if_neg h1]
    by_cases h2 : (nSg G 45 (nSg G 43 q).2).1 = true
    · rw [if_pos h2]; exact nOk_pa (nE0_ok (nSg_ty (nSg_ty h))) (by rw [nSg_pa2, nSg_pa2])
    · rw [if_neg h2]; exact ⟨nSg_ty (nSg_ty h), by rw [nSg_pa2, nSg_pa2]; rfl⟩
def nFi (G : GS) (q : nT) : Int32 × nT := (if nI q.1 = G.1 0 29 7 then -1 else nI q.1, q)
def nWL (G : GS) : Nat → Bool → nT → Int32 × nT
  | 0, _, q => nFi G q
  | n + 1, b, q => if b = false then nFi G q else if (nEn G q).1 = false then (nI (nEn G q).2.1, (nEn G q).2) else if (nEn G q).2.2.2.1 < 6 then nWL G n (nSg G 59 (nEn G q).2).1 (nSg G 59 (nEn G q).2).2 else nWL G n false (nEn G q).2
def nW0 (q : nT) : nT := (q.1, 0, q.2.2)
def nWv (q : nT) : nT := (q.1, q.2.2.2.1, q.2.2)
def nWr (G : GS) (q : nT) : Int32 × nT :=
  if (nNm G 19 (0, q.2.1, 0, q.2.2.2)).1 = false then (nI (nNm G 19 (0, q.2.1, 0, q.2.2.2)).2.1, nW0 (nNm G 19 (0, q.2.1, 0, q.2.2.2)).2)
  else if (nSg G 58 (nNm G 19 (0, q.2.1, 0, q.2.2.2)).2).1 = false then (nI (nSg G 58 (nNm G 19 (0, q.2.1, 0, q.2.2.2)).2).2.1, nW0 (nSg G 58 (nNm G 19 (0, q.2.1, 0, q.2.2.2)).2).2)
  else nWL G 7 (decide (nI (nSg G 58 (nNm G 19 (0, q.2.1, 0, q.2.2.2)).2).2.1 < G.1 0 29 7)) (nWv (nSg G 58 (nNm G 19 (0, q.2.1, 0, q.2.2.2)).2).2)
theorem nSg_pa3 {G : GS} {x : Int32} {q : nT} (h : q.2.2.1 ≤ 6) : (nSg G x q).2.2.2.1 ≤ 6 := by rw [nSg_pa2]; exact h
-- 40.model11
/-! The reference: loading, writing, the pad, undo, slots, openness -/
theorem mCh_nP (k : Nat) (G : GS) (q : nT) : mCh k (nP G q) = nP (mCh k G) q := by
  have e1 : ∀ (pt : Nat → Int32) (x : Int32), mChS (nP G q) pt x = nP (mChS G pt x) q := by
    intro pt x
    unfold mChS nP
    rw [putA_commO _ _ _ _ _ _ _ (by decide), putF_putA, putF_putA, putF_comm _ _ _ 13 4 _ _ (by decide), putF_comm _ _ _ 12 4 _ _ (by decide), putF_comm _ _ _ 11 4 _ _ (by decide), putF_comm _ _ _ 10 4 _ _ (by decide)]
    rfl
  unfold mCh
  by_cases h : k = 5
  · rw [if_pos h, if_pos h, e1]; rfl
  · rw [if_neg h, if_neg h, e1]; rfl
theorem mWr_nP (w : Nat → Int32) (G : GS) (q : nT) : mWr w (nP G q) = nP (mWr w G) q := by
  unfold mWr nP
  rw [putA_commO _ _ _ _ _ _ _ (by decide)]
  rfl
theorem ms_nP (x : Int32) (G : GS) (q : nT) : ms x (nP G q) = nP (ms x G) q := by
  unfold ms nP
  rw [putF_putA, putF_comm _ _ _ 13 5 _ _ (by decide), putF_comm _ _ _ 12 5 _ _ (by decide), putF_comm _ _ _ 11 5 _ _ (by decide), putF_comm _ _ _ 10 5 _ _ (by decide)]
theorem nP_self {G : GS} (h10 : G.1 0 29 10 = nI (nG G).1) (h12 : G.1 0 29 12 = nI (nG G).2.2.1) : nP G (nG G) = G := by
  unfold nP
  rw [← h10, ← h12]
  unfold nG
  dsimp only
  rw [putF_self, putF_self, putF_self, putF_self, putA_self]
theorem nP_30 (G : GS) (q : nT) : (nP G q).2.1 0 30 = G.2.1 0 30 := rfl
/-- text fields in order -/
def nInv (G : GS) : Prop := (G.1 0 29 10 = nI (nG G).1 ∧ G.1 0 29 12 = nI (nG G).2.2.1) ∧ ∃ ty, G.1 0 29 7 = nI ty ∧ ty ≤ 80
def nR (G : GS) : Int32 × nT := nWr (ms 0 G) (nG G)
def nTL (w pt : Nat → Int32) : Nat → Nat → Bool → Bool
  | 0, _, b => b
  | n + 1, j, b => nTL w pt n (j + 1) (b && ((!decide (pt (5 * j) = 0) || mIn (pt (5 * j + 1)) 0 (w 0 - 1)) && (!decide (pt (5 * j) = 1) || mIn (pt (5 * j + 1)) 0 (w 1 - 1))))
def nTh (w : Nat → Int32) (q : nT) : Bool := nTL w q.2.2.2.2 q.2.2.1 0 (mHold w q.2.1)
theorem nTL_f (w pt : Nat → Int32) : ∀ n j, nTL w pt n j false = false := by
  intro n
  induction n with
  | zero => intro j; rfl
  | succ n ih => intro j; rw [nTL]; exact ih (j + 1)
theorem nTh_hold {w : Nat → Int32} {q : nT} (h : nTh w q = true) : mHold w q.2.1 = true := by
  rcases (Bool.eq_false_or_eq_true (mHold w q.2.1)).symm with z | z
  · unfold nTh at h
    rw [z, nTL_f] at h
    exact absurd h (by decide)
  · exact z
/-- n places of a row r taken over into the entries of o -/
def nLd (w r : Nat → Int32) (o n : Nat) : Nat → Int32 := fun k => if enA o 0 0 ≤ k ∧ k < enA o 0 0 + n then r (k - enA o 0 0) else w k
theorem nLd_0 (w r : Nat → Int32) (o : Nat) : nLd w r o 0 = w := by
  funext k
  rw [nLd, if_neg (by omega)]
theorem nLd_step (w r : Nat → Int32) (o n : Nat) : upd (nLd w r o n) (enA o 0 n) (r n) = nLd w r o (n + 1) := by
  funext k
  unfold upd nLd
  by_cases h1 : k = enA o 0 n
  · subst h1
    rw [if_pos rfl, if_pos (by unfold enA; omega)]
    congr 1
    unfold enA
    omega
  · rw [if_neg h1]
    by_cases h2 : enA o 0 0 ≤ k ∧ k < enA o 0 0 + n
    · rw [if_pos h2, if_pos (by omega)]
    · rw [if_neg h2, if_neg (by unfold enA at *; omega)]
def nLw (w : Nat → Int32) (q : nT) (o : Nat) : Nat → Int32 := nLd (upd w (oA o 5) (nI q.2.2.1)) q.2.2.2.2 o (5 * q.2.2.1)
theorem nP_7 (G : GS) (q : nT) (x : Int32) : putF (nP G q) 0 29 7 x = nP (putF G 0 29 7 x) q := by
  unfold nP
  rw [putF_putA, putF_comm _ _ _ 13 7 _ _ (by decide), putF_comm _ _ _ 12 7 _ _ (by decide), putF_comm _ _ _ 11 7 _ _ (by decide), putF_comm _ _ _ 10 7 _ _ (by decide)]
def nLq (q : nT) (G : GS) : GS := nP (putF (mWr (nLw (G.2.1 0 30) q q.2.1.toNatClampNeg) (mC G)) 0 29 7 0) q
theorem nWL_pa {G : GS} : ∀ (n : Nat) (b : Bool) (q : nT), nTy G q.1 → q.2.2.1 ≤ 6 → (b = true → q.2.2.1 ≤ 5) → (nWL G n b q).2.2.2.1 ≤ 6 := by
  intro n
  induction n with
  | zero => intro b q h1 h2 _; rw [nWL]; exact h2
  | succ n ih =>
    intro b q h1 h2 h3
    rw [nWL]
    cases b with
    | false => rw [if_pos rfl]; exact h2
    | true =>
      rw [if_neg (by decide)]
      obtain ⟨k1, k2⟩ := nEn_ok h1
      have h5 := h3 rfl
      by_cases c1 : (nEn G q).1 = false
      · rw [if_pos c1]
        rw [if_neg (by rw [c1]; decide)] at k2
        show (nEn G q).2.2.2.1 ≤ 6
        omega
      · rw [if_neg c1]
        rw [if_pos (by simpa using c1)] at k2
        by_cases c2 : (nEn G q).2.2.2.1 < 6
        · rw [if_pos c2]
          exact ih _ _ (nSg_ty k1) (by rw [nSg_pa2]; omega) (fun _ => by rw [nSg_pa2]; omega)
        · rw [if_neg c2]
          exact ih _ _ k1 (by omega) (fun z => absurd z (by decide))
theorem nWr_pa {G : GS} {q : nT} (hty : ∃ ty, G.1 0 29 7 = nI ty ∧ ty ≤ 80) : (nWr G q).2.2.2.1 ≤ 6 := by
  have ht : nTy G 0 := by
    obtain ⟨ty, e9, h9⟩ := hty
    exact ⟨ty, e9, h9, Nat.zero_le _⟩
  have e0 : (nNm G 19 (0, q.2.1, 0, q.2.2.2)).2.2.2.1 = 0 := by rw [nNm_pa]
  have e1 : (nSg G 58 (nNm G 19 (0, q.2.1, 0, q.2.2.2)).2).2.2.2.1 = 0 := by rw [nSg_pa2, e0]
  unfold nWr
  by_cases c1 : (nNm G 19 (0, q.2.1, 0, q.2.2.2)).1 = false
  · rw [if_pos c1]
    show (nNm G 19 (0, q.2.1, 0, q.2.2.2)).2.2.2.1 ≤ 6
    omega
  · rw [if_neg c1]
    by_cases c2 : (nSg G 58 (nNm G 19 (0, q.2.1, 0, q.2.2.2)).2).1 = false
    · rw [if_pos c2]
      show (nSg G 58 (nNm G 19 (0, q.2.1, 0, q.2.2.2)).2).2.2.2.1 ≤ 6
      omega
    · rw [if_neg c2]
      have e2 : (nWv (nSg G 58 (nNm G 19 (0, q.2.1, 0, q.2.2.2)).2).2).2.2.1 = 0 := e1
      exact nWL_pa 7 _ _ (nSg_ty (nNm_ty ht)) (by omega) (fun _ => by omega)
def nLQ (G : GS) : cOut → GS → Prop := if (decide ((nR G).1 = -1) && nTh (G.2.1 0 30) (nR G).2) = true then fR (some (.int (nI (nR G).2.2.2.1))) (nLq (nR G).2 G) else fR (some (.int 0)) (nP (ms 1 G) (nR G).2)
-- 41.model12
/-! The reference: the pad, undo, slots, openness -/
abbrev mpT := Nat × (Nat → Int32)
def mD (G : GS) (q : mpT) : GS := putF (putA G 0 34 q.2) 0 29 7 (nI q.1)
theorem mD_7 (G : GS) (q : mpT) (x : Nat) : putF (mD G q) 0 29 7 (nI x) = mD G (x, q.2) := putF_putF _ _ _ _ _ _
theorem mD_34 (G : GS) (q : mpT) (w : Nat → Int32) : putA (mD G q) 0 34 w = mD G (q.1, w) := by
  unfold mD
  rw [show putA (putF (putA G 0 34 q.2) 0 29 7 (nI q.1)) 0 34 w = putF (putA (putA G 0 34 q.2) 0 34 w) 0 29 7 (nI q.1) from rfl, putA_putA]
theorem mD_0 (G : GS) (x : Nat) : putF G 0 29 7 (nI x) = mD G (x, G.2.1 0 34) := by
  unfold mD
  rw [putA_self]
section DROWS
variable {p : Program} {l : Launch} {e : Env} {R : Room} {s : State} {m : MethodId} {args : Array Value} {below : List Frame} {meth : Method} {c : Code} {cc : ByteArray} {nL : Nat} {own : String} {Θ : cTH} {Qp : cOut → GS → Prop} {Q9 : State → Prop} {mc ms2 k n pc q : Nat} {LS : List (Option Value)} {rest : List Value} {G : GS} {q9 : mpT}
end DROWS
def mPt (x : Int32) (q : mpT) : mpT := (q.1 + 1, upd q.2 q.1 x)
def mPn (x : Int32) (q : mpT) : mpT := mPt (48 + (x - x / 10 * 10)) (if 9 < x then mPt (48 + x / 10) q else q)
theorem mPn_le (x : Int32) (q : mpT) : (mPn x q).1 ≤ q.1 + 2 := by
  unfold mPn
  by_cases h : 9 < x
  · rw [if_pos h]; show q.1 + 1 + 1 ≤ _; omega
  · rw [if_neg h]; show q.1 + 1 ≤ _; omega
def mPr (x k z : Int32) (q : mpT) : mpT := if mHas x k = true then mPt z q else q
theorem mPr_le (x k z : Int32) (q : mpT) : (mPr x k z q).1 ≤ q.1 + 1 := by
  unfold mPr
  by_cases h : mHas x k = true
  · rw [if_pos h]; exact Nat.le_refl _
  · rw [if_neg h]; omega
def mK2 (k : Int32) : Int32 := if k = 0 then 117 else if k = 1 then 103 else if k = 2 then 111 else 97
def mQ1 (w : Nat → Int32) (o i : Nat) (q : mpT) : mpT := mPt (if w (enA o i 3) = 1 then 43 else 45) q
def mQ2 (w : Nat → Int32) (o i : Nat) (q : mpT) : mpT := mPt (mK2 (w (enA o i 0))) (mQ1 w o i q)
def mQ3x (w : Nat → Int32) (o i : Nat) (q : mpT) : mpT := if w (enA o i 0) < 2 then mPn (w (enA o i 1)) (mQ2 w o i q) else mQ2 w o i q
def mQ4 (w : Nat → Int32) (o i : Nat) (q : mpT) : mpT := mPr (w (enA o i 2)) 3 109 (mPr (w (enA o i 2)) 2 120 (mPr (w (enA o i 2)) 1 119 (mPr (w (enA o i 2)) 0 114 (mPt 61 (mQ3x w o i q)))))
def mPe (w : Nat → Int32) (o i : Nat) (q : mpT) : mpT := if w (enA o i 4) = 1 then mPt 42 (mQ4 w o i q) else mQ4 w o i q
theorem mQ3x_le (w : Nat → Int32) (o i : Nat) (q : mpT) : (mQ3x w o i q).1 ≤ q.1 + 4 := by
  unfold mQ3x
  by_cases h : w (enA o i 0) < 2
  · rw [if_pos h]
    have := mPn_le (w (enA o i 1)) (mQ2 w o i q)
    have e : (mQ2 w o i q).1 = q.1 + 1 + 1 := rfl
    omega
  · rw [if_neg h]; show q.1 + 1 + 1 ≤ _; omega
theorem mQ4_le (w : Nat → Int32) (o i : Nat) (q : mpT) : (mQ4 w o i q).1 ≤ q.1 + 9 := by
  unfold mQ4
  have h0 := mQ3x_le w o i q
  have h1 := mPr_le (w (enA o i 2)) 0 114 (mPt 61 (mQ3x w o i q))
  have h2 := mPr_le (w (enA o i 2)) 1 119 (mPr (w (enA o i 2)) 0 114 (mPt 61 (mQ3x w o i q)))
  have h3 := mPr_le (w (enA o i 2)) 2 120 (mPr (w (enA o i 2)) 1 119 (mPr (w (enA o i 2)) 0 114 (mPt 61 (mQ3x w o i q))))
  have h4 := mPr_le (w (enA o i 2)) 3 109 (mPr (w (enA o i 2)) 2 120 (mPr (w (enA o i 2)) 1 119 (mPr (w (enA o i 2)) 0 114 (mPt 61 (mQ3x w o i q)))))
  have h5 : (mPt 61 (mQ3x w o i q)).1 = (mQ3x w o i q).1 + 1 := rfl
  omega
theorem mPe_le (w : Nat → Int32) (o i : Nat) (q : mpT) : (mPe w o i q).1 ≤ q.1 + 10 := by
  unfold mPe
  have h := mQ4_le w o i q
  by_cases h1 : w (enA o i 4) = 1
  · rw [if_pos h1]; show (mQ4 w o i q).1 + 1 ≤ _; omega
  · rw [if_neg h1]; omega
def mWL (w : Nat → Int32) (o : Nat) : Nat → Nat → mpT → mpT
  | 0, _, q => q
  | n + 1, k, q => mWL w o n (k + 1) (mPe w o k (if 0 < k then mPt 59 q else q))
def mWE (w : Nat → Int32) (o : Nat) (z : Nat → Int32) : mpT := mWL w o (mCt w o) 0 (mPt 58 (mPn (nI o) (0, z)))
theorem mD_ms {G : GS} {ty : Nat} (e7 : G.1 0 29 7 = nI ty) (x : Int32) : mD (ms x G) (ty, G.2.1 0 34) = ms x G := by
  have h : mD (ms x G) (ty, G.2.1 0 34) = putF (ms x G) 0 29 7 (nI ty) := (mD_0 (ms x G) ty).symm
  rw [h, ← e7, ← ms_fld x G (k := 7) (by decide), putF_self]
theorem mD_mss (x : Int32) (q : mpT) (G : GS) : ms x (mD G q) = mD (ms x G) q := by
  unfold ms mD
  rw [putF_comm _ _ _ 7 5 _ _ (by decide)]
  rfl
-- 42.model13
/-! The reference: undo, slots, openness -/
section ZROWS
variable {p : Program} {l : Launch} {e : Env} {R : Room} {s : State} {m : MethodId} {args : Array Value} {below : List Frame} {meth : Method} {c : Code} {cc : ByteArray} {nL : Nat} {own : String} {Θ : cTH} {Qp : cOut → GS → Prop} {Q9 : State → Prop} {mc ms2 k n pc q : Nat} {LS : List (Option Value)} {rest : List Value} {G : GS}
end ZROWS
/-- n places of b, from t on, over a -/
def mRd (a b : Nat → Int32) (t n : Nat) : Nat → Int32 := fun k => if k < n then b (t + k) else a k
theorem mRd_0 (a b : Nat → Int32) (t : Nat) : mRd a b t 0 = a := by
  funext k
  rw [mRd, if_neg (by omega)]
theorem mRd_step (a b : Nat → Int32) (t n : Nat) : upd (mRd a b t n) n (b (t + n)) = mRd a b t (n + 1) := by
  funext k
  unfold upd mRd
  by_cases h : k = n
  · subst h
    rw [if_pos rfl, if_pos (by omega)]
  · rw [if_neg h]
    by_cases h2 : k < n
    · rw [if_pos h2, if_pos (by omega)]
    · rw [if_neg h2, if_neg (by omega)]
theorem e765 (a b : Nat) : (765 : Int32) * nI a + nI b = nI (765 * a + b) := by
  rw [show (765 : Int32) = nI 765 from rfl, nI_mul, nI_add]
def mUd (G : GS) (r : Nat) : GS := putF (ms 0 G) 0 29 4 (nI r)
def mSv (t n : Nat) (G : GS) : GS := putA (putA (ms 0 G) 0 33 (upd (G.2.1 0 33) t 1)) 0 32 (mCpK (G.2.1 0 32) (G.2.1 0 30) (765 * t) n)
theorem mSv_step (t j : Nat) (G : GS) : putA (mSv t j G) 0 32 (upd ((mSv t j G).2.1 0 32) (765 * t + j) ((mSv t j G).2.1 0 30 j)) = mSv t (j + 1) G := by
  unfold mSv
  rw [putA_putA, putA_same, show (putA (putA (ms 0 G) 0 33 (upd (G.2.1 0 33) t 1)) 0 32 (mCpK (G.2.1 0 32) (G.2.1 0 30) (765 * t) j)).2.1 0 30 j = G.2.1 0 30 j from rfl, mCpK_step]
theorem mSv_0 (t : Nat) (G : GS) : mSv t 0 G = putA (ms 0 G) 0 33 (upd (G.2.1 0 33) t 1) := by
  unfold mSv
  rw [mCpK_0, show G.2.1 0 32 = (putA (ms 0 G) 0 33 (upd (G.2.1 0 33) t 1)).2.1 0 32 from rfl, putA_self]
def mOM (G : GS) : Int32 := 4 * G.2.1 0 30 0 * mHo (G.2.1 0 30) 20 0 0
def mOA (G : GS) : Int32 := mEv (G.2.1 0 30) (mUs (G.2.1 0 30)) 0 0
