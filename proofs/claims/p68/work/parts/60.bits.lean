/-! bits and counts, pure -/
def bt (x : Int32) (i : Nat) : Bool := x.toBitVec.getLsbD i
theorem b_ext {x y : Int32} (h : ∀ i, i < 32 → bt x i = bt y i) : x = y := Int32.toBitVec_inj.mp (BitVec.eq_of_getLsbD_eq (fun i hi => h i hi))
theorem b_or (x y : Int32) (i : Nat) : bt (x ||| y) i = (bt x i || bt y i) := by unfold bt; rw [Int32.toBitVec_or, BitVec.getLsbD_or]
theorem b_and (x y : Int32) (i : Nat) : bt (x &&& y) i = (bt x i && bt y i) := by unfold bt; rw [Int32.toBitVec_and, BitVec.getLsbD_and]
theorem b_xor (x y : Int32) (i : Nat) : bt (x ^^^ y) i = (bt x i ^^ bt y i) := by unfold bt; rw [Int32.toBitVec_xor, BitVec.getLsbD_xor]
theorem b_big {x : Int32} {i : Nat} (h : 32 ≤ i) : bt x i = false := BitVec.getLsbD_of_ge _ _ h
theorem b_m1 : ∀ i, i < 32 → bt (-1) i = true := by decide +kernel
theorem b_0 (i : Nat) : bt 0 i = false := BitVec.getLsbD_zero
theorem s_l : ∀ n, n < 32 → ((nI n &&& 31).toBitVec.smod 32).toNat = n := by decide +kernel
theorem s_u : ∀ n, n < 32 → (((nI n).toUInt32 &&& Int32.toUInt32 31).toBitVec % 32).toNat = n := by decide +kernel
theorem b_shl (n : Nat) (hn : n < 32) (x : Int32) {i : Nat} (hi : i < 32) : bt (x <<< (nI n &&& 31)) i = (decide (n ≤ i) && bt x (i - n)) := by
  unfold bt
  rw [Int32.toBitVec_shiftLeft]
  show (x.toBitVec <<< ((nI n &&& 31).toBitVec.smod 32).toNat).getLsbD i = _
  rw [s_l n hn, BitVec.getLsbD_shiftLeft]
  rcases Nat.lt_or_ge i n with h | h
  · simp [h, Nat.not_le.mpr h]
  · simp [hi, h, Nat.not_lt.mpr h]
theorem b_ushr (n : Nat) (hn : n < 32) (x : Int32) (i : Nat) : bt ((x.toUInt32 >>> ((nI n).toUInt32 &&& Int32.toUInt32 31)).toInt32) i = bt x (n + i) := by
  show (x.toUInt32 >>> ((nI n).toUInt32 &&& Int32.toUInt32 31)).toBitVec.getLsbD i = x.toUInt32.toBitVec.getLsbD (n + i)
  rw [UInt32.toBitVec_shiftRight]
  show (x.toUInt32.toBitVec >>> (((nI n).toUInt32 &&& Int32.toUInt32 31).toBitVec % 32).toNat).getLsbD i = _
  rw [s_u n hn, BitVec.getLsbD_ushiftRight]
theorem b_sshr (n : Nat) (hn : n < 32) (x : Int32) {i : Nat} (hi : i < 32) : bt (x >>> (nI n &&& 31)) i = if n + i < 32 then bt x (n + i) else bt x 31 := by
  unfold bt
  rw [Int32.toBitVec_shiftRight]
  show (x.toBitVec.sshiftRight ((nI n &&& 31).toBitVec.smod 32).toNat).getLsbD i = _
  rw [s_l n hn, BitVec.getLsbD_sshiftRight, BitVec.msb_eq_getLsbD_last]
  simp [hi]

theorem b_1 : ∀ i, i < 32 → bt 1 i = decide (i = 0) := by decide +kernel
theorem b_p (n : Nat) (hn : n < 32) {i : Nat} (hi : i < 32) : bt ((1 : Int32) <<< (nI n &&& 31)) i = decide (i = n) := by
  rw [b_shl n hn 1 hi, b_1 _ (by omega), Bool.eq_iff_iff]
  simp only [Bool.and_eq_true, decide_eq_true_eq]
  omega
theorem b_not (x : Int32) {i : Nat} (hi : i < 32) : bt (x ^^^ (-1)) i = !bt x i := by rw [b_xor, b_m1 i hi, Bool.xor_true]
theorem b_one (y : Int32) : y &&& 1 = 1 ↔ bt y 0 = true := by
  constructor
  · intro h
    have h2 := congrArg (fun z => bt z 0) h
    simp only [b_and, b_1 0 (by decide), decide_true, Bool.and_true] at h2
    exact h2
  · intro h
    refine b_ext fun i hi => ?_
    rw [b_and, b_1 i hi]
    by_cases h0 : i = 0
    · subst h0; rw [h]; rfl
    · rw [decide_eq_false h0, Bool.and_false]
theorem b_z (y : Int32) : y &&& 1 = 0 ↔ bt y 0 = false := by
  constructor
  · intro h
    have h2 := congrArg (fun z => bt z 0) h
    simp only [b_and, b_1 0 (by decide), decide_true, Bool.and_true, b_0] at h2
    exact h2
  · intro h
    refine b_ext fun i hi => ?_
    rw [b_and, b_1 i hi, b_0]
    by_cases h0 : i = 0
    · subst h0; rw [h]; rfl
    · rw [decide_eq_false h0, Bool.and_false]
theorem b_nI {n i : Nat} (hi : i < 32) : bt (nI n) i = n.testBit i := by
  show (BitVec.ofNat 32 n).getLsbD i = _
  rw [BitVec.getLsbD_ofNat]
  simp [hi]
theorem nI_eta (x : Int32) : x = nI x.toBitVec.toNat := by
  apply Int32.toBitVec_inj.mp
  show x.toBitVec = BitVec.ofNat 32 x.toBitVec.toNat
  rw [BitVec.ofNat_toNat, BitVec.setWidth_eq]
theorem jHas_bt (x : Int32) {k : Nat} (hk : k < 32) : jHas x (nI k) = bt x k := by
  unfold jHas
  rw [decide_eq_true (nI_pos' (show k < 2 ^ 31 by omega)), decide_eq_true (show nI k < 32 from nI_lt (b := 32) hk (by decide)), Bool.true_and, Bool.true_and, Bool.eq_iff_iff, decide_eq_true_eq, b_one, b_ushr k hk, Nat.add_zero]
theorem jHas_ex {x k : Int32} (h : jHas x k = true) : ∃ j : Nat, j < 32 ∧ k = nI j ∧ bt x j = true := by
  have h1 : jIdx k 32 = true := by
    unfold jHas at h
    unfold jIdx
    simp only [Bool.and_eq_true, decide_eq_true_eq] at h ⊢
    exact ⟨h.1, h.2.1⟩
  obtain ⟨j, hj, rfl⟩ := jIdx_nI h1 (N := 32) rfl (by decide)
  exact ⟨j, hj, rfl, by rw [← jHas_bt x hj]; exact h⟩
theorem tHold_jh (x k : Int32) : tHold x k = (decide (k < 20) && jHas x k) := by
  unfold tHold jHas
  by_cases h1 : k < 20
  · have h2 : k < 32 := Int32.lt_of_lt_of_le h1 (by decide)
    rw [decide_eq_true h1, decide_eq_true h2]
    rfl
  · rw [decide_eq_false h1]
    simp
theorem tHold_bt (x : Int32) {k : Nat} (hk : k < 20) : tHold x (nI k) = bt x k := by
  rw [tHold_jh, jHas_bt x (by omega), decide_eq_true (show nI k < 20 from nI_lt (b := 20) hk (by decide)), Bool.true_and]
theorem tHold_ex {x k : Int32} (h : tHold x k = true) : ∃ j : Nat, j < 20 ∧ k = nI j ∧ bt x j = true := by
  obtain ⟨j, hj, rfl⟩ := vp_in_of (tHold_in h) (by decide)
  exact ⟨j, hj, rfl, by rw [← tHold_bt x hj]; exact h⟩
theorem mHas_bt (x : Int32) {k : Nat} (hk : k < 32) : mHas x (nI k) = bt x k := by
  unfold mHas
  rw [Bool.eq_iff_iff, decide_eq_true_eq, b_one, b_sshr k hk x (by decide), Nat.add_zero, if_pos hk]
theorem jChg_bt (x : Int32) {k : Nat} (hk : k < 32) (b : Bool) {i : Nat} (hi : i < 32) : bt (jChg x (nI k) b) i = if i = k then b else bt x i := by
  unfold jChg
  cases b with
  | true =>
    rw [if_pos rfl, b_or, b_p k hk hi]
    by_cases h : i = k
    · rw [if_pos h, decide_eq_true h, Bool.or_true]
    · rw [if_neg h, decide_eq_false h, Bool.or_false]
  | false =>
    rw [if_neg (by decide), b_and, b_not _ hi, b_p k hk hi]
    by_cases h : i = k
    · rw [if_pos h, decide_eq_true h]; simp
    · rw [if_neg h, decide_eq_false h]; simp
theorem sub_p (x : Int32) {k : Nat} (hk : k < 32) (h : bt x k = true) : x - ((1 : Int32) <<< (nI k &&& 31)) = jChg x (nI k) false := by
  have e : x = jChg x (nI k) false ||| ((1 : Int32) <<< (nI k &&& 31)) := by
    refine b_ext fun i hi => ?_
    rw [b_or, jChg_bt x hk false hi, b_p k hk hi]
    by_cases h1 : i = k
    · subst h1; rw [if_pos rfl, h]; simp
    · rw [if_neg h1, decide_eq_false h1, Bool.or_false]
  have hz : (jChg x (nI k) false).toBitVec &&& ((1 : Int32) <<< (nI k &&& 31)).toBitVec = 0#32 := by
    have e2 : jChg x (nI k) false &&& ((1 : Int32) <<< (nI k &&& 31)) = 0 := by
      refine b_ext fun i hi => ?_
      rw [b_and, jChg_bt x hk false hi, b_p k hk hi, b_0]
      by_cases h1 : i = k
      · subst h1; rw [if_pos rfl]; rfl
      · rw [decide_eq_false h1, Bool.and_false]
    have e3 := congrArg Int32.toBitVec e2
    rw [Int32.toBitVec_and] at e3
    exact e3
  have e4 : jChg x (nI k) false + ((1 : Int32) <<< (nI k &&& 31)) = x := by
    apply Int32.toBitVec_inj.mp
    rw [Int32.toBitVec_add, BitVec.add_eq_or_of_and_eq_zero _ _ hz, ← Int32.toBitVec_or, ← e]
  have e5 : jChg x (nI k) false + ((1 : Int32) <<< (nI k &&& 31)) - ((1 : Int32) <<< (nI k &&& 31)) = jChg x (nI k) false := Int32.add_sub_cancel _ _
  rw [e4] at e5
  exact e5
theorem or_p (x : Int32) (k : Int32) : x ||| ((1 : Int32) <<< (k &&& 31)) = jChg x k true := rfl
/-- no bit from n on -/
def bLt (x : Int32) (n : Nat) : Prop := ∀ i, n ≤ i → bt x i = false
theorem bLt_chg {x : Int32} {n k : Nat} {b : Bool} (h : bLt x n) (hk : k < 32) (hn : b = true → k < n) : bLt (jChg x (nI k) b) n := by
  intro i hi
  rcases Nat.lt_or_ge i 32 with h2 | h2
  · rw [jChg_bt x hk b h2]
    by_cases h1 : i = k
    · rw [if_pos h1]
      cases b with
      | false => rfl
      | true => exact absurd (hn rfl) (by omega)
    · rw [if_neg h1]; exact h i hi
  · exact b_big h2
theorem bLt_lt {x : Int32} {n : Nat} (h : bLt x n) (hn : n < 32) : ∃ v : Nat, v < 2 ^ n ∧ x = nI v := by
  refine ⟨x.toBitVec.toNat, ?_, nI_eta x⟩
  refine Nat.lt_pow_two_of_testBit _ fun i hi => ?_
  have h2 := h i hi
  unfold bt at h2
  rw [BitVec.getLsbD] at h2
  exact h2
/-- sums -/
def sF (b : Nat → Nat) : Nat → Nat → Nat
  | 0, _ => 0
  | n + 1, j => b j + sF b n (j + 1)
theorem sF_congr {b c : Nat → Nat} : ∀ (n j : Nat), (∀ i, j ≤ i → i < j + n → b i = c i) → sF b n j = sF c n j := by
  intro n
  induction n with
  | zero => intro j h; rfl
  | succ n ih =>
    intro j h
    rw [sF, sF, h j (Nat.le_refl _) (by omega), ih (j + 1) (fun i h1 h2 => h i (by omega) (by omega))]
theorem sF_le {b : Nat → Nat} {m : Nat} (h : ∀ i, b i ≤ m) : ∀ (n j : Nat), sF b n j ≤ m * n := by
  intro n
  induction n with
  | zero => intro j; exact Nat.zero_le _
  | succ n ih =>
    intro j
    rw [sF, Nat.mul_succ]
    have h1 := h j
    have h2 := ih (j + 1)
    omega
theorem sF_last (b : Nat → Nat) : ∀ (n j : Nat), sF b (n + 1) j = sF b n j + b (j + n) := by
  intro n
  induction n with
  | zero => intro j; simp [sF]
  | succ n ih =>
    intro j
    rw [sF, ih (j + 1), sF, Nat.add_assoc (b j), show j + 1 + n = j + (n + 1) by omega]
theorem sF_add (b : Nat → Nat) : ∀ (n m j : Nat), sF b (n + m) j = sF b n j + sF b m (j + n) := by
  intro n
  induction n with
  | zero => intro m j; simp [sF]
  | succ n ih =>
    intro m j
    rw [show n + 1 + m = (n + m) + 1 by omega, sF, ih m (j + 1), sF, Nat.add_assoc (b j), show j + 1 + n = j + (n + 1) by omega]
theorem sF_shift (b : Nat → Nat) (d : Nat) : ∀ (n j : Nat), sF b n (j + d) = sF (fun i => b (i + d)) n j := by
  intro n
  induction n with
  | zero => intro j; rfl
  | succ n ih =>
    intro j
    rw [sF, sF, show j + d + 1 = j + 1 + d by omega, ih (j + 1)]
theorem sF_zero {b : Nat → Nat} : ∀ (n j : Nat), (∀ i, j ≤ i → i < j + n → b i = 0) → sF b n j = 0 := by
  intro n
  induction n with
  | zero => intro j h; rfl
  | succ n ih =>
    intro j h
    rw [sF, h j (Nat.le_refl _) (by omega), ih (j + 1) (fun i h1 h2 => h i (by omega) (by omega))]
/-- counts -/
def cF (p : Nat → Bool) (n j : Nat) : Nat := sF (fun k => (p k).toNat) n j
theorem bN_le (b : Bool) : b.toNat ≤ 1 := by cases b <;> decide
theorem cF_le (p : Nat → Bool) (n j : Nat) : cF p n j ≤ n := by
  have h := sF_le (b := fun k => (p k).toNat) (m := 1) (fun i => bN_le (p i)) n j
  rw [Nat.one_mul] at h
  exact h
theorem cF_congr {p q : Nat → Bool} {n j : Nat} (h : ∀ i, j ≤ i → i < j + n → p i = q i) : cF p n j = cF q n j := sF_congr n j (fun i h1 h2 => by (try dsimp only); rw [h i h1 h2])
theorem nI_bN (b : Bool) : nI b.toNat = if b = true then 1 else 0 := by cases b <;> rfl
/-- a loop that counts -/
theorem loop_c {f : Nat → Nat → Int32 → Int32} {a : Nat → Int32} {b : Nat → Nat} (h0 : ∀ j t, f 0 j t = t) (h1 : ∀ n j t, f (n + 1) j t = f n (j + 1) (t + a j)) : ∀ (n j : Nat) (t : Int32), (∀ i, j ≤ i → i < j + n → a i = nI (b i)) → f n j t = t + nI (sF b n j) := by
  intro n
  induction n with
  | zero => intro j t h; rw [h0]; exact (Int32.add_zero t).symm
  | succ n ih =>
    intro j t h
    rw [h1, ih (j + 1) _ (fun i h2 h3 => h i (by omega) (by omega)), h j (Nat.le_refl _) (by omega), sF, ← nI_add, Int32.add_assoc]
theorem mSz_c (x : Int32) : mSz x 20 0 0 = nI (cF (bt x) 20 0) := by
  have h := loop_c (f := mSz x) (a := fun j => if mHas x (nI j) = true then 1 else 0) (b := fun k => (bt x k).toNat) (fun _ _ => rfl) (fun _ _ _ => rfl) 20 0 0 (fun i _ h2 => by
    try dsimp only
    rw [nI_bN, mHas_bt x (by omega)])
  rw [h, Int32.zero_add]
  rfl
