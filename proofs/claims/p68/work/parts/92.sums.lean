/-! sums: openness, how many differ, an entry that gives nothing -/
theorem enc_rr (A B : Nat) (e : Int) : Jvm.FP.Core.encode Jvm.FP.Core.b64 (Jvm.FP.Core.roundRatio Jvm.FP.Core.b64 false A B e) ≤ 2047 * 2 ^ 52 := by
  have ht : Jvm.FP.Core.Fmt.tails Jvm.FP.Core.b64 = 2 ^ 52 := by decide +kernel
  have hx : Jvm.FP.Core.Fmt.exps Jvm.FP.Core.b64 = 2048 := by decide +kernel
  have hq : Jvm.FP.Core.Fmt.qmax Jvm.FP.Core.b64 = 971 := by decide +kernel
  have hm : Jvm.FP.Core.Fmt.qmin Jvm.FP.Core.b64 = -1074 := by decide +kernel
  have hb : ∀ (c : Nat) (q : Int), c < 2 ^ 53 → Jvm.FP.Core.encode Jvm.FP.Core.b64 (Jvm.FP.Core.bound Jvm.FP.Core.b64 false c q) ≤ 2047 * 2 ^ 52 := by
    intro c q hc
    unfold Jvm.FP.Core.bound
    rw [hq]
    by_cases h : q ≤ 971
    · rw [if_pos h]
      unfold Jvm.FP.Core.encode
      simp only [Jvm.FP.Core.assemble, ht, hx, hm]
      by_cases h2 : c < 2 ^ 52
      · rw [if_pos h2]
        simp only [Bool.toNat_false]
        omega
      · rw [if_neg h2]
        simp only [Bool.toNat_false]
        have h3 : (q - -1074).toNat ≤ 2045 := by omega
        omega
    · rw [if_neg h]
      unfold Jvm.FP.Core.encode
      simp only [Jvm.FP.Core.assemble, ht, hx, Bool.toNat_false]
      decide
  unfold Jvm.FP.Core.roundRatio
  by_cases h0 : A = 0
  · rw [if_pos h0]
    unfold Jvm.FP.Core.encode
    simp only [Jvm.FP.Core.assemble, ht, hx, Bool.toNat_false]
    rw [if_pos (by decide)]
    decide
  · rw [if_neg h0]
    unfold Jvm.FP.Core.roundAt Jvm.FP.Core.settle
    have hp : (2 : Nat) ^ Jvm.FP.Core.Fmt.p Jvm.FP.Core.b64 = 2 ^ 53 := by decide +kernel
    rw [hp]
    by_cases h1 : Jvm.FP.Core.nearest (Jvm.FP.Core.unitsNum A e (Jvm.FP.Core.quantum Jvm.FP.Core.b64 A B e)) (Jvm.FP.Core.unitsDen B e (Jvm.FP.Core.quantum Jvm.FP.Core.b64 A B e)) < 2 ^ 53
    · rw [if_pos h1]; exact hb _ _ h1
    · rw [if_neg h1]; exact hb _ _ (by rw [ht]; decide)
def dFin (x : UInt64) (z : Bool) : Bool := match Jvm.FP.Core.decode Jvm.FP.Core.b64 x.toNat with
  | .fin false c _ => (z || decide (c ≠ 0))
  | _ => false
theorem i2d_all : ∀ i, i < 31 → ∀ j, j < 32 → dFin (FP.i2d (nI (32 * i + j))) (decide (32 * i + j = 0)) = true := by decide +kernel
theorem n64_div {a b : Nat} (ha : a < 992) (hb : b < 992) (h0 : 0 < b) : vf_n64 (FP.ddiv (FP.i2d (nI a)) (FP.i2d (nI b))) := by
  have ha2 := i2d_all (a / 32) (by omega) (a % 32) (Nat.mod_lt _ (by decide))
  have hb2 := i2d_all (b / 32) (by omega) (b % 32) (Nat.mod_lt _ (by decide))
  rw [Nat.div_add_mod] at ha2 hb2
  rw [decide_eq_false (show ¬ b = 0 by omega)] at hb2
  unfold dFin at ha2 hb2
  have key : ∃ A B e, FP.ddiv (FP.i2d (nI a)) (FP.i2d (nI b)) = UInt64.ofNat (Jvm.FP.Core.encode Jvm.FP.Core.b64 (Jvm.FP.Core.roundRatio Jvm.FP.Core.b64 false A B e)) := by
    show ∃ A B e, Jvm.FP.Core.ddiv (FP.i2d (nI a)) (FP.i2d (nI b)) = _
    unfold Jvm.FP.Core.ddiv Jvm.FP.Core.div
    cases hx : Jvm.FP.Core.decode Jvm.FP.Core.b64 (FP.i2d (nI a)).toNat with
    | nan => rw [hx] at ha2; cases ha2
    | inf s => rw [hx] at ha2; cases ha2
    | fin s c q =>
      rw [hx] at ha2
      cases s with
      | true => cases ha2
      | false =>
        cases hy : Jvm.FP.Core.decode Jvm.FP.Core.b64 (FP.i2d (nI b)).toNat with
        | nan => rw [hy] at hb2; cases hb2
        | inf s => rw [hy] at hb2; cases hb2
        | fin s d r =>
          rw [hy] at hb2
          cases s with
          | true => cases hb2
          | false =>
            have hd : d ≠ 0 := by simpa using hb2
            refine ⟨c, d, q - r, ?_⟩
            unfold Jvm.FP.Core.quotient
            simp only [if_neg hd, bne_self_eq_false]
  obtain ⟨A, B, e, hk⟩ := key
  rw [hk]
  have hle := enc_rr A B e
  generalize Jvm.FP.Core.encode Jvm.FP.Core.b64 (Jvm.FP.Core.roundRatio Jvm.FP.Core.b64 false A B e) = m at hle
  unfold vf_n64
  rw [UInt64.le_iff_toNat_le, UInt64.toNat_and]
  have h1 : (UInt64.ofNat m).toNat = m := by
    rw [UInt64.toNat_ofNat']
    exact Nat.mod_eq_of_lt (by omega)
  rw [h1, show (0x7ff0000000000000 : UInt64).toNat = 2047 * 2 ^ 52 from by decide]
  exact Nat.le_trans Nat.and_le_left hle
theorem Rel.cnt1 {F A : Nat → Nat → Int32} {w : Nat → Int32} {t : Nat} (h : Rel F A w t) : ∃ c, 1 ≤ c ∧ c ≤ 20 ∧ jBc (F 4 0) = nI c := by
  refine ⟨cF (bt (F 4 0)) 20 0, ?_, cF_le _ _ _, jBc_bt h.tb⟩
  have h1 := cF_lt (p := fun _ => false) (q := bt (F 4 0)) 20 0 0 (fun _ _ _ z => by cases z) (Nat.le_refl _) (by decide) rfl (by rw [h.th (by decide), decide_eq_true h.t0])
  omega
theorem sF_le2 {b : Nat → Nat} {m : Nat} : ∀ (n j : Nat), (∀ i, j ≤ i → i < j + n → b i ≤ m) → sF b n j ≤ m * n := by
  intro n
  induction n with
  | zero => intro j _; exact Nat.zero_le _
  | succ n ih =>
    intro j h
    rw [sF, Nat.mul_succ]
    have h1 := h j (Nat.le_refl _) (by omega)
    have h2 := ih (j + 1) (fun i h3 h4 => h i (by omega) (by omega))
    omega
theorem Rel.allR {G : GS} {w : Nat → Int32} {t : Nat} (h : Rel (G.1 0) (G.2.1 0) w t) : ∃ a, a ≤ 960 ∧ foldI (caO G) 12 0 0 = nI a := by
  refine ⟨sF (fun u => sF (fun o => cF (bt (mNt w (u * 20 + o))) 4 0) 20 0) 12 0, ?_, ?_⟩
  · have h1 := sF_le2 (b := fun u => sF (fun o => cF (bt (mNt w (u * 20 + o))) 4 0) 20 0) (m := 80) 12 0 (fun u _ _ => sF_le2 (b := fun o => cF (bt (mNt w (u * 20 + o))) 4 0) (m := 4) 20 0 (fun o _ _ => cF_le _ _ _))
    omega
  · have h2 := foldI_c (f := caO G) (b := fun u => sF (fun o => cF (bt (mNt w (u * 20 + o))) 4 0) 20 0) 12 0 0 fun u _ hu t => by
      unfold caO
      refine foldI_c 20 0 t fun o _ ho t => ?_
      unfold caF
      rw [h.rAtB (by omega) (by omega), jBc_4 (mNt_lt w _)]
    rw [h2, Int32.zero_add]
theorem Rel.opn {G : GS} {t : Nat} (h : Rel (G.1 0) (G.2.1 0) (G.2.1 0 30) t) : (0 < opM G) ∧ vf_n64 (FP.ddiv (FP.i2d (opA G)) (FP.i2d (opM G))) ∧ opM G = mOM G ∧ opA G = mOA G := by
  obtain ⟨c, c1, c2, c3⟩ := h.cnt1
  obtain ⟨a, a1, a2⟩ := h.allR
  have us1 := h.us1
  have us12 := h.ok.us12
  have hle : 4 * mUs (G.2.1 0 30) * c ≤ 960 := by
    have h1 : mUs (G.2.1 0 30) * c ≤ 12 * 20 := Nat.mul_le_mul us12 c2
    rw [Nat.mul_assoc]
    omega
  have hpos : 0 < 4 * mUs (G.2.1 0 30) * c := Nat.mul_pos (by omega) (by omega)
  have eM : opM G = nI (4 * mUs (G.2.1 0 30) * c) := by
    unfold opM
    rw [h.us, c3, show (4 : Int32) = nI 4 from rfl, nI_mul, nI_mul]
  have eA : opA G = nI a := a2
  refine ⟨by rw [eM]; exact nI_lt (a := 0) hpos (by omega), ?_, ?_, ?_⟩
  · rw [eM, eA]
    exact n64_div (by omega) (by omega) hpos
  · unfold opM mOM
    rw [h.count, h.us, ← h.ok.us]
  · unfold opA mOA
    exact h.everything
theorem cmp_self (a : Int) : compare a a = .eq := by simp [compare, compareOfLessAndEq]
theorem dcmp_self {d : UInt64} (h : vf_n64 d) : Op.cmpValue (FP.dcmp d d) .l = 0 := by
  have ht : Jvm.FP.Core.Fmt.tails Jvm.FP.Core.b64 = 2 ^ 52 := by decide +kernel
  have hx : Jvm.FP.Core.Fmt.exps Jvm.FP.Core.b64 = 2048 := by decide +kernel
  have h2 : Jvm.FP.Core.decode Jvm.FP.Core.b64 d.toNat ≠ .nan := by
    intro hn
    unfold vf_n64 at h
    rw [UInt64.le_iff_toNat_le, UInt64.toNat_and, show (0x7fffffffffffffff : UInt64).toNat = 2 ^ 63 - 1 from by decide, Nat.and_two_pow_sub_one_eq_mod, show (0x7ff0000000000000 : UInt64).toNat = 2047 * 2 ^ 52 from by decide] at h
    unfold Jvm.FP.Core.decode at hn
    by_cases h3 : Jvm.FP.Core.fieldE Jvm.FP.Core.b64 d.toNat = Jvm.FP.Core.Fmt.exps Jvm.FP.Core.b64 - 1
    · rw [if_pos h3] at hn
      by_cases h4 : Jvm.FP.Core.fieldT Jvm.FP.Core.b64 d.toNat = 0
      · rw [if_pos h4] at hn; cases hn
      · unfold Jvm.FP.Core.fieldE at h3
        unfold Jvm.FP.Core.fieldT at h4
        rw [ht, hx] at h3
        rw [ht] at h4
        omega
    · rw [if_neg h3] at hn
      by_cases h4 : Jvm.FP.Core.fieldE Jvm.FP.Core.b64 d.toNat = 0
      · rw [if_pos h4] at hn; cases hn
      · rw [if_neg h4] at hn; cases hn
  show Op.cmpValue (Jvm.FP.Core.order (Jvm.FP.Core.decode Jvm.FP.Core.b64 d.toNat) (Jvm.FP.Core.decode Jvm.FP.Core.b64 d.toNat)) .l = 0
  cases hx2 : Jvm.FP.Core.decode Jvm.FP.Core.b64 d.toNat with
  | nan => exact absurd hx2 h2
  | inf s =>
    show Op.cmpValue (some (compare _ _)) .l = 0
    rw [cmp_self]; rfl
  | fin s c q =>
    show Op.cmpValue (some (compare _ _)) .l = 0
    rw [cmp_self]; rfl
/-! how many rights differ -/
def dfN (x y : Int32) : Nat := sF (fun r => if bt x r = bt y r then 0 else 1) 4 0
theorem mUlR_N (x y : Int32) (t : Int32) : mUlR x y 4 0 t = t + nI (dfN x y) := by
  refine loop_c (f := mUlR x y) (a := fun j => if mHas x (nI j) = mHas y (nI j) then 0 else 1) (b := fun r => if bt x r = bt y r then 0 else 1) (fun _ _ => rfl) (fun _ _ _ => rfl) 4 0 t fun i _ hi => ?_
  (try dsimp only)
  rw [mHas_bt x (by omega), mHas_bt y (by omega)]
  by_cases h : bt x i = bt y i
  · rw [if_pos h, if_pos h]; rfl
  · rw [if_neg h, if_neg h]; rfl
theorem mUl_N (w was : Nat → Int32) : mUl w was 240 0 0 = nI (sF (fun u => sF (fun o => dfN (mNt w (20 * u + o)) (was (20 * u + o))) 20 0) 12 0) := by
  have h := loop_g (f := mUl w was) (g := fun k t => mUlR (mNt w k) (was k) 4 0 t) (b := fun k => dfN (mNt w k) (was k)) (fun _ _ => rfl) (fun _ _ _ => rfl) 240 0 0 (fun i _ _ t => mUlR_N _ _ t)
  rw [h, Int32.zero_add, show 240 = 12 * 20 from rfl, sF_mul]
  refine congrArg nI (sF_congr 12 0 fun u _ _ => sF_congr 20 0 fun o _ _ => ?_)
  (try dsimp only)
  rw [Nat.mul_comm u 20]
theorem dfN_comm (x y : Int32) : dfN x y = dfN y x := by
  unfold dfN
  refine sF_congr 4 0 fun r _ _ => ?_
  (try dsimp only)
  by_cases h : bt x r = bt y r
  · rw [if_pos h, if_pos h.symm]
  · rw [if_neg h, if_neg (fun z => h z.symm)]
theorem sF_rev10 (b : Nat → Nat) : sF (fun i => b (9 - i)) 10 0 = sF b 10 0 := by
  show b 9 + (b 8 + (b 7 + (b 6 + (b 5 + (b 4 + (b 3 + (b 2 + (b 1 + (b 0 + 0))))))))) = b 0 + (b 1 + (b 2 + (b 3 + (b 4 + (b 5 + (b 6 + (b 7 + (b 8 + (b 9 + 0)))))))))
  omega
theorem lN_b {a b : Bool} : (lN a.toNat = lN b.toNat) ↔ a = b := by
  cases a <;> cases b <;> decide
theorem lUb_N {f g : Nat → Int32} (hf : ∀ k, bLt (f k) 4) (hg : ∀ k, bLt (g k) 4) (t : Int32) : lUb (pkL f) (pkL g) 40 0 t = t + nI (sF (fun k => dfN (f k) (g k)) 10 0) := by
  have h := loop_c (f := lUb (pkL f) (pkL g)) (a := fun j => if lBit (pkL f) j = lBit (pkL g) j then 0 else 1) (b := fun j => if lBit (pkL f) j = lBit (pkL g) j then 0 else 1) (fun _ _ => rfl) (fun _ _ _ => rfl) 40 0 t (fun i _ _ => by
    (try dsimp only)
    by_cases h : lBit (pkL f) i = lBit (pkL g) i
    · rw [if_pos h, if_pos h]; rfl
    · rw [if_neg h, if_neg h]; rfl)
  rw [h, show 40 = 10 * 4 from rfl, sF_mul]
  refine congrArg (fun z => t + nI z) ?_
  rw [← sF_rev10 (fun k => dfN (f k) (g k))]
  refine sF_congr 10 0 fun i _ hi => ?_
  (try dsimp only)
  unfold dfN
  refine sF_congr 4 0 fun r _ hr => ?_
  (try dsimp only)
  have e1 := pkL_bit hf (i := 9 - i) (r := r) (by omega) (by omega)
  have e2 := pkL_bit hg (i := 9 - i) (r := r) (by omega) (by omega)
  rw [show 4 * (9 - (9 - i)) + r = i * 4 + r by omega] at e1 e2
  rw [e1, e2]
  by_cases h9 : bt (f (9 - i)) r = bt (g (9 - i)) r
  · rw [if_pos h9, if_pos (lN_b.mpr h9)]
  · rw [if_neg h9, if_neg (fun z => h9 (lN_b.mp z))]
theorem lUo_N {a b : Nat → Int32} (h : ∀ u, u < 12 → ∃ f g : Nat → Int32, (∀ k, bLt (f k) 4) ∧ (∀ k, bLt (g k) 4) ∧ (∀ k, k < 10 → a (10 * u + k) = f k ∧ b (10 * u + k) = g k)) : lUo a b 12 0 0 = nI (sF (fun u => sF (fun k => dfN (a (10 * u + k)) (b (10 * u + k))) 10 0) 12 0) := by
  have h9 := loop_g (f := lUo a b) (g := fun u t => lUb (pkL (fun k => a (10 * u + k))) (pkL (fun k => b (10 * u + k))) 40 0 t) (b := fun u => sF (fun k => dfN (a (10 * u + k)) (b (10 * u + k))) 10 0) (fun _ _ => rfl) (fun _ _ _ => rfl) 12 0 0 (fun u _ hu t => by
    obtain ⟨f, g, h1, h2, h3⟩ := h u (by omega)
    (try dsimp only)
    rw [pkL_congr (fun k hk => (h3 k hk).1), pkL_congr (fun k hk => (h3 k hk).2), lUb_N h1 h2]
    refine congrArg (fun z => t + nI z) (sF_congr 10 0 fun k _ hk => ?_)
    (try dsimp only)
    rw [(h3 k (by omega)).1, (h3 k (by omega)).2])
  rw [h9, Int32.zero_add]
/-- the law's count of what differs is the model's -/
theorem lUo_mUl {w w2 a b : Nat → Int32} (ha : ∀ u k, u < 12 → k < 10 → a (10 * u + k) = mNt w (20 * u + k)) (hb : ∀ u k, u < 12 → k < 10 → b (10 * u + k) = mNt w2 (20 * u + k)) (h0 : ∀ u k, u < 12 → 10 ≤ k → k < 20 → mNt w (20 * u + k) = mNt w2 (20 * u + k)) : lUo a b 12 0 0 = mUl w2 (mNt w) 240 0 0 := by
  rw [lUo_N (fun u hu => ⟨fun k => mNt w (20 * u + k), fun k => mNt w2 (20 * u + k), fun k => mNt_lt w _, fun k => mNt_lt w2 _, fun k hk => ⟨ha u k hu hk, hb u k hu hk⟩⟩), mUl_N]
  refine congrArg nI (sF_congr 12 0 fun u _ hu => ?_)
  (try dsimp only)
  rw [show 20 = 10 + 10 from rfl, sF_add, sF_zero (b := fun o => dfN (mNt w2 (20 * u + o)) (mNt w (20 * u + o))) 10 (0 + 10) (fun k h1 h2 => by
    (try dsimp only)
    rw [h0 u k (by omega) (by omega) (by omega)]
    refine sF_zero 4 0 fun r _ _ => ?_
    (try dsimp only)
    rw [if_pos rfl]), Nat.add_zero]
  refine sF_congr 10 0 fun k _ hk => ?_
  (try dsimp only)
  rw [ha u k (by omega) (by omega), hb u k (by omega) (by omega), dfN_comm]
/-! an entry that gives nothing, and an entry that isn't there -/
def pA (w : Nat → Int32) (u : Int32) (o : Nat) (r : Int32) (li : Nat) : Nat → Nat → Option Bool
  | 0, _ => none
  | n + 1, i => if mCo w u o r li i = true then some (decide (w (enA li i 3) = 1)) else pA w u o r li n (i + 1)
def pB (w : Nat → Int32) (u : Int32) (o : Nat) (r : Int32) : Nat → Int32 → Bool
  | 0, _ => false
  | n + 1, x => if x < 0 then false else match pA w u o r x.toNatClampNeg (mCt w x.toNatClampNeg) 0 with
    | some b => b
    | none => pB w u o r n (if w (oA x.toNatClampNeg 4) = 1 then w (oA x.toNatClampNeg 1) else -1)
theorem pA_map (w : Nat → Int32) (u : Int32) (o : Nat) (r : Int32) (li : Nat) : ∀ n i, pA w u o r li n i = (mDeI w u o r li n i).map (fun i => decide (w (enA li i 3) = 1)) := by
  intro n
  induction n with
  | zero => intro i; rfl
  | succ n ih =>
    intro i
    rw [pA, mDeI]
    by_cases h : mCo w u o r li i = true
    · rw [if_pos h, if_pos h]; rfl
    · rw [if_neg h, if_neg h]; exact ih (i + 1)
theorem pB_eq {w : Nat → Int32} (hw : mOk w) (u : Int32) (o : Nat) (r : Int32) : ∀ (n : Nat) (x : Int32), (x = -1 ∨ ∃ j, j < 20 ∧ x = nI j) → (if mDe w u o r n x < 0 then false else decide (w (enA ((mDe w u o r n x).toNatClampNeg / 6) ((mDe w u o r n x).toNatClampNeg % 6) 3) = 1)) = pB w u o r n x := by
  obtain ⟨rk, hrk⟩ := hw.rk
  intro n
  induction n with
  | zero => intro x _; rw [mDe, pB, if_pos (by decide)]
  | succ n ih =>
    intro x hx
    rcases hx with rfl | ⟨j, hj, rfl⟩
    · rw [mDe_m1, pB, if_pos (by decide), if_pos (by decide)]
    · rw [mDe_s _ _ _ _ _ (by omega), pB, if_neg (nI_pos (by omega)), nI_clamp (by omega), pA_map]
      have h6 := hw.ct6 hj
      cases hm : mDeI w u o r j (mCt w j) 0 with
      | some i =>
        have := mDeI_lt _ _ hm
        (try dsimp only [Option.map])
        rw [if_neg (nI_pos (by omega)), nI_clamp (by omega), show (6 * j + i) / 6 = j by omega, show (6 * j + i) % 6 = i by omega]
      | none =>
        (try dsimp only [Option.map])
        by_cases h4 : w (oA j 4) = 1
        · rw [if_pos h4]
          rcases (hrk j hj).2 with h5 | ⟨j2, h5, h7, _⟩
          · exact ih _ (Or.inl h5)
          · exact ih _ (Or.inr ⟨j2, h5, h7⟩)
        · rw [if_neg h4]
          exact ih _ (Or.inl rfl)
theorem mByL_pB {w : Nat → Int32} (hw : mOk w) (u : Int32) {o : Nat} (ho : o < 20) (r : Int32) : mByL w u o r = pB w u o r 20 (nI o) := pB_eq hw u o r 20 _ (Or.inr ⟨o, ho, rfl⟩)
/-- v: as w, but the entry i of the object o gives nothing; x: as w without it -/
theorem void_pA {v x : Nat → Int32} {ob en c : Nat} (hen : en < c) (u : Int32) (o : Nat) (r : Int32) (h1 : ∀ i, i < en → mCo v u o r ob i = mCo x u o r ob i ∧ v (enA ob i 3) = x (enA ob i 3)) (h2 : mCo v u o r ob en = false) (h3 : ∀ i, en ≤ i → i + 1 < c → mCo v u o r ob (i + 1) = mCo x u o r ob i ∧ v (enA ob (i + 1) 3) = x (enA ob i 3)) : pA v u o r ob c 0 = pA x u o r ob (c - 1) 0 := by
  have a1 : ∀ n i, en ≤ i → n + i + 1 = c → pA v u o r ob n (i + 1) = pA x u o r ob n i := by
    intro n
    induction n with
    | zero => intro i _ _; rfl
    | succ n ih =>
      intro i h4 h5
      obtain ⟨h6, h7⟩ := h3 i h4 (by omega)
      rw [pA, pA, h6, h7, ih (i + 1) (by omega) (by omega)]
  have a2 : ∀ n i, i + n = en → pA v u o r ob (c - i) i = pA x u o r ob (c - 1 - i) i := by
    intro n
    induction n with
    | zero =>
      intro i h4
      have hi : i = en := by omega
      subst hi
      rw [show c - i = (c - 1 - i) + 1 by omega, pA, h2, if_neg (by decide)]
      exact a1 _ i (Nat.le_refl _) (by omega)
    | succ n ih =>
      intro i h4
      obtain ⟨h6, h7⟩ := h1 i (by omega)
      rw [show c - i = (c - (i + 1)) + 1 by omega, show c - 1 - i = (c - 1 - (i + 1)) + 1 by omega, pA, pA, h6, h7, ih (i + 1) (by omega)]
  exact a2 en 0 (by omega)
