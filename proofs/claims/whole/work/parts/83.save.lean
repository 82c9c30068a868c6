/-! save; openness -/
/-- the state is copied into slot j, which is filled then -/
def svQ (x : Int32) (G : GS) : cOut → GS → Prop := gt (jIdx x 2) eA (fun o1 G1 => ∃ G0 : GS, (∀ r, ¬ r = x.toNatClampNeg + 6 → G0.1 r = G.1 r ∧ G0.2.1 r = G.2.1 r) ∧ G0.2.2.2 = G.2.2.2 ∧ (∀ i, G0.2.2.1 i = if i = x.toNatClampNeg then true else G.2.2.1 i) ∧ o1 = .inl (some (.int (jBc (G.1 0 4 0)))) ∧ G1 = cpState (x.toNatClampNeg + 6) 0 G0) G
theorem op_save {G : GS} {t : Nat} (hS : Sim G t) (ht : t < 2 ^ 20) (a0 : Int32) : OpI G fI [eA] (svQ a0 G) (fun Y => mg (mIn a0 0 1) 1 (fR (some (.int (mHo (Y.2.1 0 30) 20 0 0))) (mSv a0.toNatClampNeg 765 Y)) (Y)) (t + 1) := by
  have h := hS.1
  have hb : mIn a0 0 1 = jIdx a0 2 := mIn_idx (n := 2) (by decide) a0
  unfold svQ
  by_cases c0 : jIdx a0 2 = true
  · obtain ⟨j, hj, rfl⟩ := jIdx_ex (n := 2) (by decide) c0
    rw [nI_clamp (show j < 2 ^ 31 by omega)]
    refine OpI.t c0 ⟨fun v G1 hq => ?_, fun E G1 hq => ?_⟩
    · obtain ⟨G0, g1, g2, g3, e1, e2⟩ := hq
      cases e1
      have hcp := cp_to (a := j + 6) (b := 0) G0 (by omega)
      have hoth : ∀ r, ¬ r = j + 6 → (cpState (j + 6) 0 G0).1 r = G.1 r ∧ (cpState (j + 6) 0 G0).2.1 r = G.2.1 r := fun r hr => ⟨((cp_oth G0 hr).1).trans (g1 r hr).1, ((cp_oth G0 hr).2).trans (g1 r hr).2⟩
      have hlv : (cpState (j + 6) 0 G0).2.2.1 = G0.2.2.1 := rfl
      rw [(g1 0 (by omega)).1, (g1 0 (by omega)).2] at hcp
      rw [← e2] at hcp hoth hlv
      have h0 := hoth 0 (by omega)
      refine ⟨_, rfl, ⟨by rw [h0.1], fun o _ _ => by rw [h0.2]⟩, fun o2 G2 h2 => ?_⟩
      have h2 : mg (mIn (nI j) 0 1) 1 (fR (some (.int (mHo ((setO G1 (fI (jBc (G.1 0 4 0)))).2.1 0 30) 20 0 0))) (mSv j 765 (setO G1 (fI (jBc (G.1 0 4 0)))))) (setO G1 (fI (jBc (G.1 0 4 0)))) o2 G2 := h2
      rw [mg_t (by rw [hb]; exact c0), show (setO G1 (fI (jBc (G.1 0 4 0)))).2.1 0 30 = G.2.1 0 30 from congrFun h0.2 30] at h2
      obtain ⟨rfl, rfl⟩ := h2
      generalize hv9 : fI (jBc (G.1 0 4 0)) = v9
      have zf : ∀ o, ¬ o = 29 → (mSv j 765 (setO G1 v9)).1 0 o = G.1 0 o := fun o ho => by
        unfold mSv ms
        rw [putA_fld, putA_fld, putF_o _ _ _ ho]
        exact congrFun h0.1 o
      have z29 : ∀ k, ¬ k = 5 → (mSv j 765 (setO G1 v9)).1 0 29 k = G.1 0 29 k := fun k hk => by
        unfold mSv ms
        rw [putA_fld, putA_fld, putF_k _ _ hk]
        exact congrFun (congrFun h0.1 29) k
      have zs : ∀ r, (mSv j 765 (setO G1 v9)).1 (r + 1) = G1.1 (r + 1) := fun r => by
        unfold mSv ms
        rw [putA_fld, putA_fld, putF_s]
        rfl
      have ys : ∀ r, (mSv j 765 (setO G1 v9)).2.1 (r + 1) = G1.2.1 (r + 1) := fun r => by
        unfold mSv
        rw [putA_s, putA_s]
        rfl
      have yo : ∀ o, ¬ o = 32 → ¬ o = 33 → (mSv j 765 (setO G1 v9)).2.1 0 o = G.2.1 0 o := fun o h32 h33 => by
        unfold mSv
        rw [putA_o _ _ h32, putA_o _ _ h33]
        exact congrFun h0.2 o
      have y33 : (mSv j 765 (setO G1 v9)).2.1 0 33 = upd (G.2.1 0 33) j 1 := by
        unfold mSv
        rw [putA_o _ _ (by decide), putA_same]
        show upd (G1.2.1 0 33) j 1 = _
        rw [h0.2]
      have y32 : (mSv j 765 (setO G1 v9)).2.1 0 32 = mCpK (G.2.1 0 32) (G.2.1 0 30) (765 * j) 765 := by
        unfold mSv
        rw [putA_same]
        show mCpK (G1.2.1 0 32) (G1.2.1 0 30) (765 * j) 765 = _
        rw [h0.2]
      have zl : (mSv j 765 (setO G1 v9)).2.2.1 = G1.2.2.1 := rfl
      have z5 : (mSv j 765 (setO G1 v9)).1 0 29 5 = 0 := by
        unfold mSv
        rw [putA_fld, putA_fld, ms_5]
      refine ⟨_, rfl, by rw [h.count], by rw [hv9]; rfl, z5, ?_⟩
      generalize mSv j 765 (setO G1 v9) = Z at zf z29 zs ys yo y33 y32 zl
      obtain ⟨kq, od, h1, h3, h4, h5, h6, h7⟩ := hS.2.1
      refine ⟨?_, ⟨kq, od, h1, h3, by rw [zf 15 (by decide)]; exact h4, by rw [zf 15 (by decide)]; exact h5, by rw [z29 4 (by decide)]; exact h6, fun i hi => ?_⟩, fun i hi => ?_, hS.2.2.2.ag ⟨⟨by rw [zf 25 (by decide)], yo 26 (by decide) (by decide), z29 7 (by decide), yo 34 (by decide) (by decide)⟩, z29 10 (by decide), z29 12 (by decide)⟩⟩
      · rw [yo 30 (by decide) (by decide)]
        refine h.congr ?_ (fun _ _ => rfl) (Nat.le_succ t)
        refine ⟨⟨?_, ?_, ?_, ?_, ?_, ?_, ?_⟩, ?_, ?_, ?_, ?_, ?_, ?_, ?_, ?_, ?_⟩
        all_goals first
          | rw [zf _ (by decide)]
          | rw [yo _ (by decide) (by decide)]
      · have hne : ¬ (od + i) % 5 + 1 = j + 6 := by have := Nat.mod_lt (od + i) (show 0 < 5 by decide); omega
        rw [zs, ys, (hoth _ hne).1, (hoth _ hne).2, yo 31 (by decide) (by decide)]
        exact (h7 i hi).mono (Nat.le_succ t)
      · rw [zs (i + 5), ys (i + 5), y33, y32, zl, hlv, g3]
        by_cases hc : i = j
        · subst hc
          refine Or.inl ⟨if_pos rfl, upd_s _ _ _, h.congr hcp (fun x hx => ?_) (Nat.le_succ t)⟩
          rw [mCpK, if_pos (by omega), Nat.add_sub_cancel_left]
        · rw [if_neg hc, upd_n hc, (hoth (i + 6) (by omega)).1, (hoth (i + 6) (by omega)).2]
          rcases hS.2.2.1 i hi with ⟨i1, i2, i3⟩ | i1
          · refine Or.inl ⟨i1, i2, i3.congr (SmR.refl _ _) (fun x hx => ?_) (Nat.le_succ t)⟩
            rw [mCpK, if_neg (by omega)]
          · exact Or.inr i1
    · obtain ⟨G0, g1, g2, g3, e1, e2⟩ := hq
      cases e1
  · exact OpI.n hS (Nat.le_succ t) (Bool.eq_false_iff.mpr c0) (by decide) rfl (AgR.refl G) fun o2 G2 h2 => mg_n (by rw [hb]; exact Bool.eq_false_iff.mpr c0) h2
/-! doubles -/
theorem enc_rr (A B : Nat) (e : Int) : Jvm.FP.Core.encode Jvm.FP.Core.b64 (Jvm.FP.Core.roundRatio Jvm.FP.Core.b64 false A B e) ≤ 2047 * 2 ^ 52 := by
  have ht : Jvm.FP.Core.Fmt.tails Jvm.FP.Core.b64 = 2 ^ 52 := by decide +kernel
  have hx : Jvm.FP.Core.Fmt.exps Jvm.FP.Core.b64 = 2048 := by decide +kernel
  have hq : Jvm.FP.Core.Fmt.qmax Jvm.FP.Core.b64 = 971 := by decide +kernel
  have hm : Jvm.FP.Core.Fmt.qmin Jvm.FP.Core.b64 = -1074 := by decide +kernel
  have hb : ∀ (c : Nat) (q : Int), c < 2 ^ 53 → Jvm.FP.Core.encode Jvm.FP.Core.b64 (Jvm.FP.Core.bound Jvm.FP.Core.b64 false c q) ≤ 2047 * 2 ^ 52 := by
    intro c q hc
    unfold Jvm.FP.Core.bound
    rw [hq]
    by_cases h : q ≤ 971
    · rw [if_pos h]
      unfold Jvm.FP.Core.encode
      simp only [Jvm.FP.Core.assemble, ht, hx, hm]
      by_cases h2 : c < 2 ^ 52
      · rw [if_pos h2]
        simp only [Bool.toNat_false]
        omega
      · rw [if_neg h2]
        simp only [Bool.toNat_false]
        have h3 : (q - -1074).toNat ≤ 2045 := by omega
        omega
    · rw [if_neg h]
      unfold Jvm.FP.Core.encode
      simp only [Jvm.FP.Core.assemble, ht, hx, Bool.toNat_false]
      decide
  unfold Jvm.FP.Core.roundRatio
  by_cases h0 : A = 0
  · rw [if_pos h0]
    unfold Jvm.FP.Core.encode
    simp only [Jvm.FP.Core.assemble, ht, hx, Bool.toNat_false]
    rw [if_pos (by decide)]
    decide
  · rw [if_neg h0]
    unfold Jvm.FP.Core.roundAt Jvm.FP.Core.settle
    have hp : (2 : Nat) ^ Jvm.FP.Core.Fmt.p Jvm.FP.Core.b64 = 2 ^ 53 := by decide +kernel
    rw [hp]
    by_cases h1 : Jvm.FP.Core.nearest (Jvm.FP.Core.unitsNum A e (Jvm.FP.Core.quantum Jvm.FP.Core.b64 A B e)) (Jvm.FP.Core.unitsDen B e (Jvm.FP.Core.quantum Jvm.FP.Core.b64 A B e)) < 2 ^ 53
    · rw [if_pos h1]; exact hb _ _ h1
    · rw [if_neg h1]; exact hb _ _ (by rw [ht]; decide)
def dFin (x : UInt64) (z : Bool) : Bool := match Jvm.FP.Core.decode Jvm.FP.Core.b64 x.toNat with
  | .fin false c _ => (z || decide (c ≠ 0))
  | _ => false
theorem i2d_all : ∀ i, i < 31 → ∀ j, j < 32 → dFin (FP.i2d (nI (32 * i + j))) (decide (32 * i + j = 0)) = true := by decide +kernel
theorem n64_div {a b : Nat} (ha : a < 992) (hb : b < 992) (h0 : 0 < b) : vf_n64 (FP.ddiv (FP.i2d (nI a)) (FP.i2d (nI b))) := by
  have ha2 := i2d_all (a / 32) (by omega) (a % 32) (Nat.mod_lt _ (by decide))
  have hb2 := i2d_all (b / 32) (by omega) (b % 32) (Nat.mod_lt _ (by decide))
  rw [Nat.div_add_mod] at ha2 hb2
  rw [decide_eq_false (show ¬ b = 0 by omega)] at hb2
  unfold dFin at ha2 hb2
  have key : ∃ A B e, FP.ddiv (FP.i2d (nI a)) (FP.i2d (nI b)) = UInt64.ofNat (Jvm.FP.Core.encode Jvm.FP.Core.b64 (Jvm.FP.Core.roundRatio Jvm.FP.Core.b64 false A B e)) := by
    show ∃ A B e, Jvm.FP.Core.ddiv (FP.i2d (nI a)) (FP.i2d (nI b)) = _
    unfold Jvm.FP.Core.ddiv Jvm.FP.Core.div
    cases hx : Jvm.FP.Core.decode Jvm.FP.Core.b64 (FP.i2d (nI a)).toNat with
    | nan => rw [hx] at ha2; cases ha2
    | inf s => rw [hx] at ha2; cases ha2
    | fin s c q =>
      rw [hx] at ha2
      cases s with
      | true => cases ha2
      | false =>
        cases hy : Jvm.FP.Core.decode Jvm.FP.Core.b64 (FP.i2d (nI b)).toNat with
        | nan => rw [hy] at hb2; cases hb2
        | inf s => rw [hy] at hb2; cases hb2
        | fin s d r =>
          rw [hy] at hb2
          cases s with
          | true => cases hb2
          | false =>
            have hd : d ≠ 0 := by simpa using hb2
            refine ⟨c, d, q - r, ?_⟩
            unfold Jvm.FP.Core.quotient
            simp only [if_neg hd, bne_self_eq_false]
  obtain ⟨A, B, e, hk⟩ := key
  rw [hk]
  have hle := enc_rr A B e
  generalize Jvm.FP.Core.encode Jvm.FP.Core.b64 (Jvm.FP.Core.roundRatio Jvm.FP.Core.b64 false A B e) = m at hle
  unfold vf_n64
  rw [UInt64.le_iff_toNat_le, UInt64.toNat_and]
  have h1 : (UInt64.ofNat m).toNat = m := by
    rw [UInt64.toNat_ofNat']
    exact Nat.mod_eq_of_lt (by omega)
  rw [h1, show (0x7ff0000000000000 : UInt64).toNat = 2047 * 2 ^ 52 from by decide]
  exact Nat.le_trans Nat.and_le_left hle
theorem Rel.cnt1 {F A : Nat → Nat → Int32} {w : Nat → Int32} {t : Nat} (h : Rel F A w t) : ∃ c, 1 ≤ c ∧ c ≤ 20 ∧ jBc (F 4 0) = nI c := by
  refine ⟨cF (bt (F 4 0)) 20 0, ?_, cF_le _ _ _, jBc_bt h.tb⟩
  have h1 := cF_lt (p := fun _ => false) (q := bt (F 4 0)) 20 0 0 (fun _ _ _ z => by cases z) (Nat.le_refl _) (by decide) rfl (by rw [h.th (by decide), decide_eq_true h.t0])
  omega
theorem sF_le2 {b : Nat → Nat} {m : Nat} : ∀ (n j : Nat), (∀ i, j ≤ i → i < j + n → b i ≤ m) → sF b n j ≤ m * n := by
  intro n
  induction n with
  | zero => intro j _; exact Nat.zero_le _
  | succ n ih =>
    intro j h
    rw [sF, Nat.mul_succ]
    have h1 := h j (Nat.le_refl _) (by omega)
    have h2 := ih (j + 1) (fun i h3 h4 => h i (by omega) (by omega))
    omega
theorem Rel.allR {G : GS} {w : Nat → Int32} {t : Nat} (h : Rel (G.1 0) (G.2.1 0) w t) : ∃ a, a ≤ 960 ∧ foldI (caO G) 12 0 0 = nI a := by
  refine ⟨sF (fun u => sF (fun o => cF (bt (mNt w (u * 20 + o))) 4 0) 20 0) 12 0, ?_, ?_⟩
  · have h1 := sF_le2 (b := fun u => sF (fun o => cF (bt (mNt w (u * 20 + o))) 4 0) 20 0) (m := 80) 12 0 (fun u _ _ => sF_le2 (b := fun o => cF (bt (mNt w (u * 20 + o))) 4 0) (m := 4) 20 0 (fun o _ _ => cF_le _ _ _))
    omega
  · have h2 := foldI_c (f := caO G) (b := fun u => sF (fun o => cF (bt (mNt w (u * 20 + o))) 4 0) 20 0) 12 0 0 fun u _ hu t => by
      unfold caO
      refine foldI_c 20 0 t fun o _ ho t => ?_
      unfold caF
      rw [h.rAtB (by omega) (by omega), jBc_4 (mNt_lt w _)]
    rw [h2, Int32.zero_add]
/-- openness: one double in both -/
theorem Rel.opn {G : GS} {t : Nat} (h : Rel (G.1 0) (G.2.1 0) (G.2.1 0 30) t) : (0 < opM G) ∧ vf_n64 (FP.ddiv (FP.i2d (opA G)) (FP.i2d (opM G))) ∧ opM G = mOM G ∧ opA G = mOA G := by
  obtain ⟨c, c1, c2, c3⟩ := h.cnt1
  obtain ⟨a, a1, a2⟩ := h.allR
  have us1 := h.us1
  have us12 := h.ok.us12
  have hle : 4 * mUs (G.2.1 0 30) * c ≤ 960 := by
    have h1 : mUs (G.2.1 0 30) * c ≤ 12 * 20 := Nat.mul_le_mul us12 c2
    rw [Nat.mul_assoc]
    omega
  have hpos : 0 < 4 * mUs (G.2.1 0 30) * c := Nat.mul_pos (by omega) (by omega)
  have eM : opM G = nI (4 * mUs (G.2.1 0 30) * c) := by
    unfold opM
    rw [h.us, c3, show (4 : Int32) = nI 4 from rfl, nI_mul, nI_mul]
  have eA : opA G = nI a := a2
  refine ⟨by rw [eM]; exact nI_lt (a := 0) hpos (by omega), ?_, ?_, ?_⟩
  · rw [eM, eA]
    exact n64_div (by omega) (by omega) hpos
  · unfold opM mOM
    rw [h.count, h.us, ← h.ok.us]
  · unfold opA mOA
    exact h.everything
