/-! changes of objects -/
theorem mFr_min {w : Nat → Int32} : ∀ (n j : Nat), j + n ≤ 20 → (∃ i, j ≤ i ∧ i < j + n ∧ ¬ w (oA i 0) = 1) → j ≤ mFr w n j ∧ mFr w n j < j + n ∧ ¬ w (oA (mFr w n j) 0) = 1 ∧ ∀ i, j ≤ i → i < mFr w n j → w (oA i 0) = 1 := by
  intro n
  induction n with
  | zero => rintro j _ ⟨i, h1, h2, _⟩; omega
  | succ n ih =>
    rintro j hj ⟨i, h1, h2, h3⟩
    have hh : mHold w (nI j) = decide (w (oA j 0) = 1) := by
      unfold mHold
      rw [nI_clamp (by omega), show mIn (nI j) 0 19 = true from by
        unfold mIn
        rw [decide_eq_true (nI_pos' (by omega)), decide_eq_true (show nI j ≤ 19 from nI_le (b := 19) (by omega) (by decide))]; rfl, Bool.true_and]
    rw [mFr, hh]
    by_cases hc : w (oA j 0) = 1
    · rw [if_pos (decide_eq_true hc)]
      have hne : ¬ i = j := fun z => h3 (z ▸ hc)
      obtain ⟨a1, a2, a3, a4⟩ := ih (j + 1) (by omega) ⟨i, by omega, by omega, h3⟩
      refine ⟨by omega, by omega, a3, fun q h4 h5 => ?_⟩
      by_cases hq : q = j
      · rw [hq]; exact hc
      · exact a4 q (by omega) h5
    · rw [if_neg (by rw [decide_eq_false hc]; decide)]
      exact ⟨Nat.le_refl _, by omega, hc, fun q h4 h5 => absurd h5 (by omega)⟩
theorem mHo_split (w : Nat → Int32) (b : Nat) : ∀ (a j : Nat) (t : Int32), mHo w (a + b) j t = mHo w b (j + a) (mHo w a j t) := by
  intro a
  induction a with
  | zero => intro j t; rw [Nat.zero_add, mHo]; rfl
  | succ a ih =>
    intro j t
    rw [show a + 1 + b = (a + b) + 1 by omega, mHo, mHo, ih, show j + 1 + a = j + (a + 1) by omega]
theorem mHo_none {w : Nat → Int32} : ∀ (n j : Nat) (t : Int32), (∀ i, j ≤ i → i < j + n → w (oA i 0) = 0) → mHo w n j t = t := by
  intro n
  induction n with
  | zero => intro j t _; rfl
  | succ n ih =>
    intro j t h
    rw [mHo, h j (Nat.le_refl _) (by omega), Int32.add_zero]
    exact ih (j + 1) t (fun i h1 h2 => h i (by omega) (by omega))
theorem LD.free {w m p e : Nat → Int32} (h : LD w m p e) (hne : ¬ mHo w 20 0 0 = 10) : ∃ i, i < 10 ∧ ¬ w (oA i 0) = 1 := by
  refine Classical.byContradiction fun hn => hne ?_
  have hall : ∀ i, i < 10 → w (oA i 0) = 1 := fun i hi => Classical.byContradiction fun z => hn ⟨i, hi, z⟩
  rw [show (20 : Nat) = 10 + 10 from rfl, mHo_split, mHo_none 10 (0 + 10) _ (fun i h1 h2 => (h.ok.th (by omega)).resolve_right (h.no (by omega) (by omega))), mHo_sum w 10 0 0 (fun i _ h2 => hall i (by omega))]
  rfl
theorem mBls_N (w : Nat → Int32) (ot : Int32) : mBls w ot 20 0 0 = nI (cF (fun j => mHold w (nI j) && mBlw w j ot) 20 0) := by
  have h := loop_c (f := mBls w ot) (a := fun j => if (mHold w (nI j) && mBlw w j ot) = true then 1 else 0) (b := fun j => (mHold w (nI j) && mBlw w j ot).toNat) (fun _ _ => rfl) (fun _ _ _ => rfl) 20 0 0 (fun i _ _ => (nI_bN _).symm)
  rw [h, Int32.zero_add]
  rfl
/-- what lies below has, somewhere, the object itself as its parent -/
theorem mBel_par {w m p e : Nat → Int32} (hD : LD w m p e) {u : Nat} (hu : u < 10) : ∀ (n j : Nat), j < 10 → w (oA j 0) = 1 → mBel w (nI u) n (w (oA j 1)) = true → ∃ k, k < 10 ∧ w (oA k 0) = 1 ∧ w (oA k 1) = nI u := by
  obtain ⟨rk, hrk⟩ := hD.ok.rk
  intro n
  induction n with
  | zero =>
    intro j hj hj1 h
    rw [mBel] at h
    exact ⟨j, hj, hj1, of_decide_eq_true h⟩
  | succ n ih =>
    intro j hj hj1 h
    rw [mBel] at h
    by_cases h1 : w (oA j 1) < 0
    · rw [if_pos h1] at h
      exact ⟨j, hj, hj1, of_decide_eq_true h⟩
    · rw [if_neg h1] at h
      by_cases h2 : w (oA j 1) = nI u
      · exact ⟨j, hj, hj1, h2⟩
      · rw [if_neg h2] at h
        rcases hD.par hrk hj hj1 with h3 | ⟨k, h3, h4, h5, _⟩
        · rw [h3] at h1; exact absurd (by decide) h1
        · rw [h4, nI_clamp (by omega)] at h
          exact ih k h3 h5 h
theorem LD.bare {w m p e : Nat → Int32} (hD : LD w m p e) {u : Nat} (hu : u < 10) : (∀ i, i < 10 → ¬ p i = nI u) ↔ ¬ 0 < mBls w (nI u) 20 0 0 := by
  have hle := cF_le (fun j => mHold w (nI j) && mBlw w j (nI u)) 20 0
  rw [mBls_N]
  have hpos : (0 < nI (cF (fun j => mHold w (nI j) && mBlw w j (nI u)) 20 0)) ↔ 0 < cF (fun j => mHold w (nI j) && mBlw w j (nI u)) 20 0 := nI_ltI (a := 0) (by decide) (by omega)
  rw [hpos]
  constructor
  · intro h hc
    have hex : ∃ j, j < 20 ∧ (mHold w (nI j) && mBlw w j (nI u)) = true := Classical.byContradiction fun hn => by
      have h0 : cF (fun j => mHold w (nI j) && mBlw w j (nI u)) 20 0 = 0 := sF_zero 20 0 fun i _ hi => by
        (try dsimp only)
        rw [show (mHold w (nI i) && mBlw w i (nI u)) = false from Bool.eq_false_iff.mpr fun z => hn ⟨i, by omega, z⟩]
        rfl
      omega
    obtain ⟨j, hj, hj2⟩ := hex
    obtain ⟨z1, z2⟩ := Bool.and_eq_true_iff.mp hj2
    rw [hD.hold hj] at z1
    have hj1 := of_decide_eq_true z1
    have hj10 := hD.lt hj hj1
    obtain ⟨k, hk, hk1, hk2⟩ := mBel_par hD hu 20 j hj10 hj1 z2
    exact h k hk (by rw [hD.p1 hk hk1]; exact hk2)
  · intro hc i hi hpi
    have hi1 : w (oA i 0) = 1 := Classical.byContradiction fun z => by
      rw [(hD.p2 hi).mpr z] at hpi
      exact absurd hpi (by
        intro z9
        have := congrArg Int32.toInt z9
        rw [nI_toInt (by omega)] at this
        have h2 : (-2 : Int32).toInt = -2 := by decide
        omega)
    rw [hD.p1 hi hi1] at hpi
    have hb : mBlw w i (nI u) = true := by
      unfold mBlw
      rw [hpi, mBel, if_neg (nI_pos (by omega)), if_pos rfl]
    have h2 := cF_lt (p := fun _ => false) (q := fun j => mHold w (nI j) && mBlw w j (nI u)) 20 0 i (fun _ _ _ z => by cases z) (Nat.zero_le _) (by omega) rfl (by
      (try dsimp only)
      rw [hD.hold (by omega), decide_eq_true hi1, hb]; rfl)
    omega
theorem m2_ne {a : Nat} (ha : a < 2 ^ 31) : ¬ nI a = -2 := by
  intro z
  have := congrArg Int32.toInt z
  rw [nI_toInt ha] at this
  have h2 : (-2 : Int32).toInt = -2 := by decide
  omega
abbrev rm_L_ofObjects : Room := { frames := 9, locals := 158, cells := 21, slots := 126 }
set_option maxHeartbeats 4000000 in
set_option maxRecDepth 20000 in
theorem c_L_ofObjects {l : Launch} (hl : l.stackTraces = false) (Θ : cTH) (way y t : Nat) (G : GS) (hS : Sim G t) (hL : LR G) (ht : t < 2 ^ 20) (hlv : noT G.2.2.1 2) (hw : way < 8) (hy : y < 2 ^ 31) : Ct l yL_ofObjects cL_ofObjects 11 (some .boolean) rm_L_ofObjects Θ [.ref (tR Θ 0 14), .ref (tR Θ 0 41), .ref (tR Θ 0 44), .int (nI way), .int (nI y)] (G) (fQ t) := by
  refine ct_of (LS := [some (.ref (tR Θ 0 14)), some (.ref (tR Θ 0 41)), some (.ref (tR Θ 0 44)), some (.int (nI way)), some (.int (nI y)), none, none, none, none, none, none]) hl (by decide +kernel) rfl (Nat.le_of_ble_eq_true rfl) rfl ?_
  intro p e s m args below meth c hC hr
  have hLq := hL.q
  have hL2 := hL
  obtain ⟨hD, ⟨e0, us1⟩, e1, e2, -, hI⟩ := hL
  have hU := hD.ok.us12
  have hc : ∀ k, k < 10 → mCt (G.2.1 0 30) k ≤ 6 := fun k hk => hD.ok.ct6 (by omega)
  have z0 : Nx G G t := Nx.refl hS
  have Wp : ∀ a, Sim (putA G 0 41 a) t := fun a => hS.pa (by decide)
  have q10 : nI y / 10 = nI (y / 10) := pk_div (d := 10) hy (by decide) (by decide)
  have D : ∀ (ob ot us : Nat), ob < 10 → ot < 10 → us < 12 → V p l e rm_L_ofObjects s m args below meth c 11 Θ (fQ t) 21 126 0 0 27 [some (.ref (tR Θ 0 14)), some (.ref (tR Θ 0 41)), some (.ref (tR Θ 0 44)), some (.int (nI way)), some (.int (nI y)), some (.int (nI ob)), some (.int (nI ot)), some (.int (nI us)), none, none, none] [] (G) := by
    intro ob ot us hob hot hus
    have eob : (nI ob).toNatClampNeg = ob := nI_clamp (by omega)
    have eot : (nI ot).toNatClampNeg = ot := nI_clamp (by omega)
    have hh := hD.hold (show ob < 20 by omega)
    have ix : ∀ a : Nat, nI a + nI ob = nI (a + ob) := fun a => nI_add a ob
    -- whether the object is there
    have E : ∀ (tv : Int32), (tv = b2i (decide (G.2.1 0 30 (oA ob 0) = 1))) → V p l e rm_L_ofObjects s m args below meth c 11 Θ (fQ t) 21 126 0 0 43 [some (.ref (tR Θ 0 14)), some (.ref (tR Θ 0 41)), some (.ref (tR Θ 0 44)), some (.int (nI way)), some (.int (nI y)), some (.int (nI ob)), some (.int (nI ot)), some (.int (nI us)), some (.int tv), none, none] [] (G) := by
      intro tv etv
      subst etv
      by_cases h3 : way < 3
      · have n3 : nI way < 3 := nI_lt (b := 3) h3 (by decide)
        by_cases hcan : G.2.1 0 30 (oA ob 0) = 1 ∧ us < mUs (G.2.1 0 30)
        · obtain ⟨hc1, hcu⟩ := hcan
          have cg : (mHold (G.2.1 0 30) (nI ob) && mIn (nI us) 0 (G.2.1 0 30 0 - 1)) = true := by
            rw [hh, hD.mU (by omega), decide_eq_true hc1, decide_eq_true hcu]; rfl
          rw [decide_eq_true hc1]
          by_cases h10 : mHo (G.2.1 0 30) 20 0 0 = 10
          · refine v_iload_n (i := 3) (q := 44) hC dL_ofObjects_43 rfl rfl rfl ?_
            refine v_iconst (q := 45) (v := 3) hC dL_ofObjects_44 rfl (by decide) ?_
            refine v_icmp_ge (q := 187) (q2 := 48) hC dL_ofObjects_45 (by decide) rfl (fun c_45 => ?_) (fun c_45 => ?_)
            · exact absurd n3 (Int32.not_lt.mpr c_45)
            · refine v_iload (q := 50) hC dL_ofObjects_48 rfl rfl ?_
              refine v_if_eq (q := 71) (q2 := 53) hC dL_ofObjects_50 (by decide) rfl (fun c_50 => ?_) (fun c_50 => ?_)
              · exact absurd c_50 (by decide)
              · refine v_iload (q := 55) hC dL_ofObjects_53 rfl rfl ?_
                refine v_aload_n (i := 2) (q := 56) hC dL_ofObjects_55 rfl rfl rfl ?_
                refine v_iconst (q := 57) (v := 0) hC dL_ofObjects_56 rfl (by decide) ?_
                refine v_ialdV (q := 58) hC dL_ofObjects_57 rfl rfl rfl (i := 0) (rfl) (by first | decide | omega) (by decide) (e0) ?_
                refine v_icmp_ge (q := 71) (q2 := 61) hC dL_ofObjects_58 (by decide) rfl (fun c_58 => ?_) (fun c_58 => ?_)
                · exact absurd c_58 (nI_ge hcu (by omega))
                · refine v_aload_n (i := 2) (q := 62) hC dL_ofObjects_61 rfl rfl rfl ?_
                  refine v_iconst (q := 63) (v := 2) hC dL_ofObjects_62 rfl (by decide) ?_
                  refine v_ialdV (q := 64) hC dL_ofObjects_63 rfl rfl rfl (i := 2) (rfl) (by first | decide | omega) (by decide) (e2) ?_
                  refine v_bipush (q := 66) (v := 10) hC dL_ofObjects_64 rfl (by decide) ?_
                  refine v_icmp_ne (q := 71) (q2 := 69) hC dL_ofObjects_66 (by decide) rfl (fun c_66 => ?_) (fun c_66 => ?_)
                  · exact absurd h10 c_66
                  · refine v_iconst (q := 70) (v := 1) hC dL_ofObjects_69 rfl (by decide) ?_
                    refine v_iret hC dL_ofObjects_70 hr (rfl) ?_ (show _ ≤ 21 by omega) (show _ ≤ 126 by omega)
                    exact ⟨rfl, hS.mono (Nat.le_succ t), hL2, hlv⟩
          · obtain ⟨k0, hk0, hk1⟩ := hD.free h10
            obtain ⟨-, a2, a3, a4⟩ := mFr_min (w := G.2.1 0 30) 20 0 (by decide) ⟨k0, by omega, by omega, hk1⟩
            have hK : mFr (G.2.1 0 30) 20 0 < 10 := by
              rcases Nat.lt_or_ge k0 (mFr (G.2.1 0 30) 20 0) with h9 | h9
              · exact absurd (a4 k0 (by omega) h9) hk1
              · omega
            have hn20 : ¬ mHo (G.2.1 0 30) 20 0 0 = 20 := by
              rcases hS.1.full with ⟨f1, _⟩ | ⟨_, _, _, f2⟩
              · rcases hS.1.free 20 0 (by decide) with ⟨_, f3⟩ | ⟨f3, f4, _⟩
                · exact absurd (f3 10 (by omega) (by omega)) (hD.no (by decide) (by decide))
                · rw [f1] at f3
                  exact absurd f3 (neg1_ne (by omega))
              · exact f2
            have c1 : (!decide (mHo (G.2.1 0 30) 20 0 0 = 20)) = true := by rw [decide_eq_false hn20]; rfl
            generalize hKe : mFr (G.2.1 0 30) 20 0 = K at hK a2 a3 a4
            have hpK : G.2.1 0 41 K = -2 := (hD.p2 hK).mpr a3
            have L : ∀ (n j : Nat), n + j = K → V p l e rm_L_ofObjects s m args below meth c 11 Θ (fQ t) 21 126 0 0 106 [some (.ref (tR Θ 0 14)), some (.ref (tR Θ 0 41)), some (.ref (tR Θ 0 44)), some (.int (nI way)), some (.int (nI y)), some (.int (nI ob)), some (.int (nI ot)), some (.int (nI us)), some (.int 1), some (.int (nI j)), none] [] (G) := by
              intro n
              induction n with
              | zero =>
                intro j hj
                have hj2 : j = K := by omega
                subst hj2
                have hq := hLq.make hc (fun o ho => hD.ok.th ho) hK a3 (nI ob) (nI us) (m2_ne (by omega))
                refine v_aload_n (i := 1) (q := 107) hC dL_ofObjects_106 rfl rfl rfl ?_
                refine v_iload (q := 109) hC dL_ofObjects_107 rfl rfl ?_
                refine v_ialdV (q := 110) hC dL_ofObjects_109 rfl rfl rfl (i := j) (rfl) (by first | decide | omega) (by decide) (hpK) ?_
                refine v_bipush (q := 112) (v := (-2)) hC dL_ofObjects_110 rfl (by decide) ?_
                refine v_icmp_eq (q := 121) (q2 := 115) hC dL_ofObjects_112 (by decide) rfl (fun c_112 => ?_) (fun c_112 => ?_)
                · refine v_aload_n (i := 1) (q := 122) hC dL_ofObjects_121 rfl rfl rfl ?_
                  refine v_iload (q := 124) hC dL_ofObjects_122 rfl rfl ?_
                  refine v_iload (q := 126) hC dL_ofObjects_124 rfl rfl ?_
                  refine v_iastN (q := 127) hC dL_ofObjects_126 rfl rfl (fun _ => rfl) (i := j) (rfl) (by first | decide | omega | (unfold oA; omega) | (unfold enA; omega)) (by decide) ?_
                  refine v_aload_n (i := 1) (q := 128) hC dL_ofObjects_127 rfl rfl rfl ?_
                  refine v_bipush (q := 130) (v := 10) hC dL_ofObjects_128 rfl (by decide) ?_
                  refine v_iload (q := 132) hC dL_ofObjects_130 rfl rfl ?_
                  refine v_iadd (q := 133) hC dL_ofObjects_132 rfl ?_
                  refine v_iload (q := 135) hC dL_ofObjects_133 rfl rfl ?_
                  refine v_iastN (q := 136) hC dL_ofObjects_135 rfl rfl (fun _ => rfl) (i := 10 + j) (nI_add 10 j) (by first | decide | omega | (unfold oA; omega) | (unfold enA; omega)) (by decide) ?_
                  refine v_aload_n (i := 1) (q := 137) hC dL_ofObjects_136 rfl rfl rfl ?_
                  refine v_bipush (q := 139) (v := 20) hC dL_ofObjects_137 rfl (by decide) ?_
                  refine v_iload (q := 141) hC dL_ofObjects_139 rfl rfl ?_
                  refine v_iadd (q := 142) hC dL_ofObjects_141 rfl ?_
                  refine v_bipush (q := 144) (v := 15) hC dL_ofObjects_142 rfl (by decide) ?_
                  refine v_iastN (q := 145) hC dL_ofObjects_144 rfl rfl (fun _ => rfl) (i := 20 + j) (nI_add 20 j) (by first | decide | omega | (unfold oA; omega) | (unfold enA; omega)) (by decide) ?_
                  refine v_aload_n (i := 1) (q := 146) hC dL_ofObjects_145 rfl rfl rfl ?_
                  refine v_bipush (q := 148) (v := 30) hC dL_ofObjects_146 rfl (by decide) ?_
                  refine v_iload (q := 150) hC dL_ofObjects_148 rfl rfl ?_
                  refine v_iadd (q := 151) hC dL_ofObjects_150 rfl ?_
                  refine v_iconst (q := 152) (v := 1) hC dL_ofObjects_151 rfl (by decide) ?_
                  refine v_iastN (q := 153) hC dL_ofObjects_152 rfl rfl (fun _ => rfl) (i := 30 + j) (nI_add 30 j) (by first | decide | omega | (unfold oA; omega) | (unfold enA; omega)) (by decide) ?_
                  refine v_aload_n (i := 1) (q := 154) hC dL_ofObjects_153 rfl rfl rfl ?_
                  refine v_bipush (q := 156) (v := 40) hC dL_ofObjects_154 rfl (by decide) ?_
                  refine v_iload (q := 158) hC dL_ofObjects_156 rfl rfl ?_
                  refine v_iadd (q := 159) hC dL_ofObjects_158 rfl ?_
                  refine v_iconst (q := 160) (v := 0) hC dL_ofObjects_159 rfl (by decide) ?_
                  refine v_iastN (q := 161) hC dL_ofObjects_160 rfl rfl (fun _ => rfl) (i := 40 + j) (nI_add 40 j) (by first | decide | omega | (unfold oA; omega) | (unfold enA; omega)) (by decide) ?_
                  refine v_aload_n (i := 2) (q := 162) hC dL_ofObjects_161 rfl rfl rfl ?_
                  refine v_iconst (q := 163) (v := 2) hC dL_ofObjects_162 rfl (by decide) ?_
                  refine v_dup2 (q := 164) hC dL_ofObjects_163 rfl rfl rfl ?_
                  refine v_ialdV (q := 165) hC dL_ofObjects_164 rfl rfl rfl (i := 2) (rfl) (by first | decide | omega) (by decide) (rfl) ?_
                  refine v_iconst (q := 166) (v := 1) hC dL_ofObjects_165 rfl (by decide) ?_
                  refine v_iadd (q := 167) hC dL_ofObjects_166 rfl ?_
                  refine v_iastN (q := 168) hC dL_ofObjects_167 rfl rfl (fun _ => rfl) (i := 2) (rfl) (by first | decide | omega | (unfold oA; omega) | (unfold enA; omega)) (by decide) ?_
                  refine v_aload_n (i := 0) (q := 169) hC dL_ofObjects_168 rfl rfl rfl ?_
                  refine v_iload (q := 171) hC dL_ofObjects_169 rfl rfl ?_
                  refine v_iload (q := 173) hC dL_ofObjects_171 rfl rfl ?_
                  refine v_callR (q := 176) (rm := rm_L_makeOf) hC ((r_make hl Θ (Nx.refl ((((((Wp _).pa (by decide)).pa (by decide)).pa (by decide)).pa (by decide)).pa (by decide))) ht (nI ob) (nI us)).p (v2 := nI j) (w2 := mFnd (G.2.1 0 30) j (nI ob) (nI us)) ((if_pos cg).trans ((if_pos c1).trans (congrArg nI hKe))) ((if_pos cg).trans ((if_pos c1).trans (congrArg (fun z => mFnd (G.2.1 0 30) z (nI ob) (nI us)) hKe)))) kh_L_makeOf ml_RL_350 dL_ofObjects_173 rfl rfl rfl (Nat.le_of_ble_eq_true rfl) ⟨Nat.le_of_ble_eq_true rfl, Nat.le_of_ble_eq_true rfl⟩ (c1 := 3) (s1 := 18) rfl rfl ⟨show _ + 3 ≤ 21 by omega, show _ + 18 ≤ 126 by omega⟩ (pQ_k (fun G_173 s_173 w_173 a_173 l_173 => ?_)) pQ_n
                  try dsimp only [Option.toList, List.cons_append, List.nil_append]
                  refine v_iload (q := 178) hC dL_ofObjects_176 rfl rfl ?_
                  refine v_icmp_ne (q := 185) (q2 := 181) hC dL_ofObjects_178 (by decide) rfl (fun c_178 => ?_) (fun c_178 => ?_)
                  · exact absurd rfl c_178
                  · refine v_iconst (q := 182) (v := 1) hC dL_ofObjects_181 rfl (by decide) ?_
                    refine v_goto (q := 186) hC dL_ofObjects_182 (by decide) ?_
                    refine v_iret hC dL_ofObjects_186 hr (rfl) ?_ (show _ ≤ 21 by omega) (show _ ≤ 126 by omega)
                    exact fQ_mk s_173 w_173 a_173 l_173 hlv hq
                · exact absurd rfl c_112
              | succ n ih =>
                intro j hj
                have hjt := a4 j (by omega) (by omega)
                refine v_aload_n (i := 1) (q := 107) hC dL_ofObjects_106 rfl rfl rfl ?_
                refine v_iload (q := 109) hC dL_ofObjects_107 rfl rfl ?_
                refine v_ialdV (q := 110) hC dL_ofObjects_109 rfl rfl rfl (i := j) (rfl) (by first | decide | omega) (by decide) (rfl) ?_
                refine v_bipush (q := 112) (v := (-2)) hC dL_ofObjects_110 rfl (by decide) ?_
                refine v_icmp_eq (q := 121) (q2 := 115) hC dL_ofObjects_112 (by decide) rfl (fun c_112 => ?_) (fun c_112 => ?_)
                · exact absurd hjt ((hD.p2 (by omega)).mp c_112)
                · refine v_iinc (q := 118) (v := nI (j + 1)) hC dL_ofObjects_115 rfl rfl (nI_1 j) (lvc rfl) (Nat.le_of_ble_eq_true rfl) (Nat.le_of_ble_eq_true rfl) rfl ?_
                  refine v_goto (q := 106) hC dL_ofObjects_118 (by decide) ?_
                  exact ih (j + 1) (by omega)
            refine v_iload_n (i := 3) (q := 44) hC dL_ofObjects_43 rfl rfl rfl ?_
            refine v_iconst (q := 45) (v := 3) hC dL_ofObjects_44 rfl (by decide) ?_
            refine v_icmp_ge (q := 187) (q2 := 48) hC dL_ofObjects_45 (by decide) rfl (fun c_45 => ?_) (fun c_45 => ?_)
            · exact absurd n3 (Int32.not_lt.mpr c_45)
            · refine v_iload (q := 50) hC dL_ofObjects_48 rfl rfl ?_
              refine v_if_eq (q := 71) (q2 := 53) hC dL_ofObjects_50 (by decide) rfl (fun c_50 => ?_) (fun c_50 => ?_)
              · exact absurd c_50 (by decide)
              · refine v_iload (q := 55) hC dL_ofObjects_53 rfl rfl ?_
                refine v_aload_n (i := 2) (q := 56) hC dL_ofObjects_55 rfl rfl rfl ?_
                refine v_iconst (q := 57) (v := 0) hC dL_ofObjects_56 rfl (by decide) ?_
                refine v_ialdV (q := 58) hC dL_ofObjects_57 rfl rfl rfl (i := 0) (rfl) (by first | decide | omega) (by decide) (e0) ?_
                refine v_icmp_ge (q := 71) (q2 := 61) hC dL_ofObjects_58 (by decide) rfl (fun c_58 => ?_) (fun c_58 => ?_)
                · exact absurd c_58 (nI_ge hcu (by omega))
                · refine v_aload_n (i := 2) (q := 62) hC dL_ofObjects_61 rfl rfl rfl ?_
                  refine v_iconst (q := 63) (v := 2) hC dL_ofObjects_62 rfl (by decide) ?_
                  refine v_ialdV (q := 64) hC dL_ofObjects_63 rfl rfl rfl (i := 2) (rfl) (by first | decide | omega) (by decide) (e2) ?_
                  refine v_bipush (q := 66) (v := 10) hC dL_ofObjects_64 rfl (by decide) ?_
                  refine v_icmp_ne (q := 71) (q2 := 69) hC dL_ofObjects_66 (by decide) rfl (fun c_66 => ?_) (fun c_66 => ?_)
                  · refine v_iload (q := 73) hC dL_ofObjects_71 rfl rfl ?_
                    refine v_if_eq (q := 84) (q2 := 76) hC dL_ofObjects_73 (by decide) rfl (fun c_73 => ?_) (fun c_73 => ?_)
                    · exact absurd c_73 (by decide)
                    · refine v_iload (q := 78) hC dL_ofObjects_76 rfl rfl ?_
                      refine v_aload_n (i := 2) (q := 79) hC dL_ofObjects_78 rfl rfl rfl ?_
                      refine v_iconst (q := 80) (v := 0) hC dL_ofObjects_79 rfl (by decide) ?_
                      refine v_ialdV (q := 81) hC dL_ofObjects_80 rfl rfl rfl (i := 0) (rfl) (by first | decide | omega) (by decide) (e0) ?_
                      refine v_icmp_lt (q := 103) (q2 := 84) hC dL_ofObjects_81 (by decide) rfl (fun c_81 => ?_) (fun c_81 => ?_)
                      · refine v_iconst (q := 104) (v := 0) hC dL_ofObjects_103 rfl (by decide) ?_
                        refine v_istore (q := 106) hC dL_ofObjects_104 rfl (lvc rfl) (Nat.le_of_ble_eq_true rfl) (Nat.le_of_ble_eq_true rfl) rfl ?_
                        exact L K 0 rfl
                      · exact absurd (nI_lt hcu (by omega)) c_81
                  · exact absurd c_66 h10
        · have cg : ¬ (mHold (G.2.1 0 30) (nI ob) && mIn (nI us) 0 (G.2.1 0 30 0 - 1)) = true := by
            rw [hh, hD.mU (by omega)]
            intro z
            obtain ⟨z1, z2⟩ := Bool.and_eq_true_iff.mp z
            exact hcan ⟨of_decide_eq_true z1, of_decide_eq_true z2⟩
          have vM := (r_make hl Θ z0 ht (nI ob) (nI us)).p (v2 := -101) (w2 := G.2.1 0 30) (if_neg cg) (if_neg cg)
          by_cases hc1 : G.2.1 0 30 (oA ob 0) = 1
          · rw [decide_eq_true hc1]
            have hcu : ¬ us < mUs (G.2.1 0 30) := fun z => hcan ⟨hc1, z⟩
            refine v_iload_n (i := 3) (q := 44) hC dL_ofObjects_43 rfl rfl rfl ?_
            refine v_iconst (q := 45) (v := 3) hC dL_ofObjects_44 rfl (by decide) ?_
            refine v_icmp_ge (q := 187) (q2 := 48) hC dL_ofObjects_45 (by decide) rfl (fun c_45 => ?_) (fun c_45 => ?_)
            · exact absurd n3 (Int32.not_lt.mpr c_45)
            · refine v_iload (q := 50) hC dL_ofObjects_48 rfl rfl ?_
              refine v_if_eq (q := 71) (q2 := 53) hC dL_ofObjects_50 (by decide) rfl (fun c_50 => ?_) (fun c_50 => ?_)
              · exact absurd c_50 (by decide)
              · refine v_iload (q := 55) hC dL_ofObjects_53 rfl rfl ?_
                refine v_aload_n (i := 2) (q := 56) hC dL_ofObjects_55 rfl rfl rfl ?_
                refine v_iconst (q := 57) (v := 0) hC dL_ofObjects_56 rfl (by decide) ?_
                refine v_ialdV (q := 58) hC dL_ofObjects_57 rfl rfl rfl (i := 0) (rfl) (by first | decide | omega) (by decide) (e0) ?_
                refine v_icmp_ge (q := 71) (q2 := 61) hC dL_ofObjects_58 (by decide) rfl (fun c_58 => ?_) (fun c_58 => ?_)
                · refine v_iload (q := 73) hC dL_ofObjects_71 rfl rfl ?_
                  refine v_if_eq (q := 84) (q2 := 76) hC dL_ofObjects_73 (by decide) rfl (fun c_73 => ?_) (fun c_73 => ?_)
                  · exact absurd c_73 (by decide)
                  · refine v_iload (q := 78) hC dL_ofObjects_76 rfl rfl ?_
                    refine v_aload_n (i := 2) (q := 79) hC dL_ofObjects_78 rfl rfl rfl ?_
                    refine v_iconst (q := 80) (v := 0) hC dL_ofObjects_79 rfl (by decide) ?_
                    refine v_ialdV (q := 81) hC dL_ofObjects_80 rfl rfl rfl (i := 0) (rfl) (by first | decide | omega) (by decide) (e0) ?_
                    refine v_icmp_lt (q := 103) (q2 := 84) hC dL_ofObjects_81 (by decide) rfl (fun c_81 => ?_) (fun c_81 => ?_)
                    · exact absurd c_81 (nI_nlt (by omega) (by omega))
                    · refine v_aload_n (i := 0) (q := 85) hC dL_ofObjects_84 rfl rfl rfl ?_
                      refine v_iload (q := 87) hC dL_ofObjects_85 rfl rfl ?_
                      refine v_iload (q := 89) hC dL_ofObjects_87 rfl rfl ?_
                      refine v_callR (q := 92) (rm := rm_L_makeOf) hC (vM) kh_L_makeOf ml_RL_350 dL_ofObjects_89 rfl rfl rfl (Nat.le_of_ble_eq_true rfl) ⟨Nat.le_of_ble_eq_true rfl, Nat.le_of_ble_eq_true rfl⟩ (c1 := 3) (s1 := 18) rfl rfl ⟨show _ + 3 ≤ 21 by omega, show _ + 18 ≤ 126 by omega⟩ (pQ_k (fun G_89 s_89 w_89 a_89 l_89 => ?_)) pQ_n
                      try dsimp only [Option.toList, List.cons_append, List.nil_append]
                      refine v_bipush (q := 94) (v := (-101)) hC dL_ofObjects_92 rfl (by decide) ?_
                      refine v_icmp_ne (q := 101) (q2 := 97) hC dL_ofObjects_94 (by decide) rfl (fun c_94 => ?_) (fun c_94 => ?_)
                      · exact absurd rfl c_94
                      · refine v_iconst (q := 98) (v := 1) hC dL_ofObjects_97 rfl (by decide) ?_
                        refine v_goto (q := 102) hC dL_ofObjects_98 (by decide) ?_
                        refine v_iret hC dL_ofObjects_102 hr (rfl) ?_ (show _ ≤ 21 by omega) (show _ ≤ 126 by omega)
                        exact fQ_mk s_89 w_89 a_89 l_89 hlv hLq
                · exact absurd (nI_le (by omega) (by omega)) c_58
          · rw [decide_eq_false hc1]
            refine v_iload_n (i := 3) (q := 44) hC dL_ofObjects_43 rfl rfl rfl ?_
            refine v_iconst (q := 45) (v := 3) hC dL_ofObjects_44 rfl (by decide) ?_
            refine v_icmp_ge (q := 187) (q2 := 48) hC dL_ofObjects_45 (by decide) rfl (fun c_45 => ?_) (fun c_45 => ?_)
            · exact absurd n3 (Int32.not_lt.mpr c_45)
            · refine v_iload (q := 50) hC dL_ofObjects_48 rfl rfl ?_
              refine v_if_eq (q := 71) (q2 := 53) hC dL_ofObjects_50 (by decide) rfl (fun c_50 => ?_) (fun c_50 => ?_)
              · refine v_iload (q := 73) hC dL_ofObjects_71 rfl rfl ?_
                refine v_if_eq (q := 84) (q2 := 76) hC dL_ofObjects_73 (by decide) rfl (fun c_73 => ?_) (fun c_73 => ?_)
                · refine v_aload_n (i := 0) (q := 85) hC dL_ofObjects_84 rfl rfl rfl ?_
                  refine v_iload (q := 87) hC dL_ofObjects_85 rfl rfl ?_
                  refine v_iload (q := 89) hC dL_ofObjects_87 rfl rfl ?_
                  refine v_callR (q := 92) (rm := rm_L_makeOf) hC (vM) kh_L_makeOf ml_RL_350 dL_ofObjects_89 rfl rfl rfl (Nat.le_of_ble_eq_true rfl) ⟨Nat.le_of_ble_eq_true rfl, Nat.le_of_ble_eq_true rfl⟩ (c1 := 3) (s1 := 18) rfl rfl ⟨show _ + 3 ≤ 21 by omega, show _ + 18 ≤ 126 by omega⟩ (pQ_k (fun G_89 s_89 w_89 a_89 l_89 => ?_)) pQ_n
                  try dsimp only [Option.toList, List.cons_append, List.nil_append]
                  refine v_bipush (q := 94) (v := (-101)) hC dL_ofObjects_92 rfl (by decide) ?_
                  refine v_icmp_ne (q := 101) (q2 := 97) hC dL_ofObjects_94 (by decide) rfl (fun c_94 => ?_) (fun c_94 => ?_)
                  · exact absurd rfl c_94
                  · refine v_iconst (q := 98) (v := 1) hC dL_ofObjects_97 rfl (by decide) ?_
                    refine v_goto (q := 102) hC dL_ofObjects_98 (by decide) ?_
                    refine v_iret hC dL_ofObjects_102 hr (rfl) ?_ (show _ ≤ 21 by omega) (show _ ≤ 126 by omega)
                    exact fQ_mk s_89 w_89 a_89 l_89 hlv hLq
                · exact absurd rfl c_73
              · exact absurd rfl c_50
      have n3 : ¬ nI way < 3 := nI_nlt (b := 3) (by omega) (by omega)
      by_cases hw3 : way = 3
      · -- remove
        subst hw3
        have hbare := hD.bare hob
        have R : ∀ (ba : Bool), (ba = true ↔ ∀ i, i < 10 → ¬ G.2.1 0 41 i = nI ob) → V p l e rm_L_ofObjects s m args below meth c 11 Θ (fQ t) 21 126 0 0 232 [some (.ref (tR Θ 0 14)), some (.ref (tR Θ 0 41)), some (.ref (tR Θ 0 44)), some (.int (nI 3)), some (.int (nI y)), some (.int (nI ob)), some (.int (nI ot)), some (.int (nI us)), some (.int (b2i (decide (G.2.1 0 30 (oA ob 0) = 1)))), some (.int (b2i ba)), some (.int (nI 10))] [] (G) := by
          intro ba hba
          by_cases hc1 : G.2.1 0 30 (oA ob 0) = 1
          · have cg : mHold (G.2.1 0 30) (nI ob) = true := by rw [hh]; exact decide_eq_true hc1
            rw [decide_eq_true hc1]
            by_cases hcan : ¬ ob = 0 ∧ ba = true
            · obtain ⟨hob0, hba1⟩ := hcan
              have c1 : (!(decide (nI ob = 0) || decide (0 < mBls (G.2.1 0 30) (nI ob) 20 0 0))) = true := by
                rw [decide_eq_false (show ¬ nI ob = 0 from fun z => hob0 ((nI_eq (b := 0) (by omega) (by decide)).mp z)), decide_eq_false (hbare.mp (hba.mp hba1))]; rfl
              have hq := hLq.remove hc hob hc1
              subst hba1
              refine v_iload (q := 234) hC dL_ofObjects_232 rfl rfl ?_
              refine v_if_eq (q := 247) (q2 := 237) hC dL_ofObjects_234 (by decide) rfl (fun c_234 => ?_) (fun c_234 => ?_)
              · exact absurd c_234 (by decide)
              · refine v_iload (q := 239) hC dL_ofObjects_237 rfl rfl ?_
                refine v_if_eq (q := 247) (q2 := 242) hC dL_ofObjects_239 (by decide) rfl (fun c_239 => ?_) (fun c_239 => ?_)
                · exact absurd ((nI_eq (b := 0) (by omega) (by decide)).mp c_239) hob0
                · refine v_iload (q := 244) hC dL_ofObjects_242 rfl rfl ?_
                  refine v_if_ne (q := 274) (q2 := 247) hC dL_ofObjects_244 (by decide) rfl (fun c_244 => ?_) (fun c_244 => ?_)
                  · refine v_aload_n (i := 1) (q := 275) hC dL_ofObjects_274 rfl rfl rfl ?_
                    refine v_iload (q := 277) hC dL_ofObjects_275 rfl rfl ?_
                    refine v_bipush (q := 279) (v := (-2)) hC dL_ofObjects_277 rfl (by decide) ?_
                    refine v_iastN (q := 280) hC dL_ofObjects_279 rfl rfl (fun _ => rfl) (i := ob) (rfl) (by first | decide | omega | (unfold oA; omega) | (unfold enA; omega)) (by decide) ?_
                    refine v_aload_n (i := 2) (q := 281) hC dL_ofObjects_280 rfl rfl rfl ?_
                    refine v_iconst (q := 282) (v := 2) hC dL_ofObjects_281 rfl (by decide) ?_
                    refine v_dup2 (q := 283) hC dL_ofObjects_282 rfl rfl rfl ?_
                    refine v_ialdV (q := 284) hC dL_ofObjects_283 rfl rfl rfl (i := 2) (rfl) (by first | decide | omega) (by decide) (rfl) ?_
                    refine v_iconst (q := 285) (v := 1) hC dL_ofObjects_284 rfl (by decide) ?_
                    refine v_isub (q := 286) hC dL_ofObjects_285 rfl ?_
                    refine v_iastN (q := 287) hC dL_ofObjects_286 rfl rfl (fun _ => rfl) (i := 2) (rfl) (by first | decide | omega | (unfold oA; omega) | (unfold enA; omega)) (by decide) ?_
                    refine v_aload_n (i := 0) (q := 288) hC dL_ofObjects_287 rfl rfl rfl ?_
                    refine v_iload (q := 290) hC dL_ofObjects_288 rfl rfl ?_
                    refine v_callR (q := 293) (rm := rm_L_removeOf) hC ((r_remove hl Θ (Nx.refl ((Wp _).pa (by decide))) ht (nI ob)).p (v2 := G.2.1 0 44 2 - 1) (w2 := mZk (G.2.1 0 30) ob 36) ((if_pos cg).trans ((if_pos c1).trans (by
                      show gI (mHo (mZk (G.2.1 0 30) (nI ob).toNatClampNeg 36) 20 0 0) = _
                      rw [eob, gI, ← hq.2.2.2.1.2.2, upd_s]))) ((if_pos cg).trans ((if_pos c1).trans (congrArg (fun z => mZk (G.2.1 0 30) z 36) eob)))) kh_L_removeOf ml_RL_353 dL_ofObjects_290 rfl rfl rfl (Nat.le_of_ble_eq_true rfl) ⟨Nat.le_of_ble_eq_true rfl, Nat.le_of_ble_eq_true rfl⟩ (c1 := 2) (s1 := 12) rfl rfl ⟨show _ + 2 ≤ 21 by omega, show _ + 12 ≤ 126 by omega⟩ (pQ_k (fun G_290 s_290 w_290 a_290 l_290 => ?_)) pQ_n
                    try dsimp only [Option.toList, List.cons_append, List.nil_append]
                    refine v_aload_n (i := 2) (q := 294) hC dL_ofObjects_293 rfl rfl rfl ?_
                    refine v_iconst (q := 295) (v := 2) hC dL_ofObjects_294 rfl (by decide) ?_
                    refine v_ialdV (q := 296) hC dL_ofObjects_295 rfl rfl rfl (i := 2) (rfl) (by first | decide | omega) (by decide) ((congrFun (a_290 44 (by decide) (by decide)) 2).trans ((congrFun (putA_same _ _ _ _) 2).trans (upd_s _ _ _))) ?_
                    refine v_icmp_ne (q := 303) (q2 := 299) hC dL_ofObjects_296 (by decide) rfl (fun c_296 => ?_) (fun c_296 => ?_)
                    · exact absurd rfl c_296
                    · refine v_iconst (q := 300) (v := 1) hC dL_ofObjects_299 rfl (by decide) ?_
                      refine v_goto (q := 304) hC dL_ofObjects_300 (by decide) ?_
                      refine v_iret hC dL_ofObjects_304 hr (rfl) ?_ (show _ ≤ 21 by omega) (show _ ≤ 126 by omega)
                      exact fQ_mk s_290 w_290 a_290 l_290 hlv hq
                  · exact absurd c_244 (by decide)
            · have c1 : ¬ (!(decide (nI ob = 0) || decide (0 < mBls (G.2.1 0 30) (nI ob) 20 0 0))) = true := by
                intro z
                refine hcan ⟨fun q => ?_, hba.mpr (hbare.mpr fun q => ?_)⟩
                · subst q
                  rw [show decide (nI 0 = 0) = true from rfl] at z
                  exact absurd z (by simp)
                · rw [decide_eq_true q, Bool.or_true] at z
                  exact absurd z (by decide)
              have vR := (r_remove hl Θ z0 ht (nI ob)).p (v2 := -102) (w2 := G.2.1 0 30) ((if_pos cg).trans (if_neg c1)) ((if_pos cg).trans (if_neg c1))
              by_cases hob0 : ob = 0
              · refine v_iload (q := 234) hC dL_ofObjects_232 rfl rfl ?_
                refine v_if_eq (q := 247) (q2 := 237) hC dL_ofObjects_234 (by decide) rfl (fun c_234 => ?_) (fun c_234 => ?_)
                · exact absurd c_234 (by decide)
                · refine v_iload (q := 239) hC dL_ofObjects_237 rfl rfl ?_
                  refine v_if_eq (q := 247) (q2 := 242) hC dL_ofObjects_239 (by decide) rfl (fun c_239 => ?_) (fun c_239 => ?_)
                  · refine v_aload_n (i := 0) (q := 248) hC dL_ofObjects_247 rfl rfl rfl ?_
                    refine v_iload (q := 250) hC dL_ofObjects_248 rfl rfl ?_
                    refine v_callR (q := 253) (rm := rm_L_removeOf) hC (vR) kh_L_removeOf ml_RL_353 dL_ofObjects_250 rfl rfl rfl (Nat.le_of_ble_eq_true rfl) ⟨Nat.le_of_ble_eq_true rfl, Nat.le_of_ble_eq_true rfl⟩ (c1 := 2) (s1 := 12) rfl rfl ⟨show _ + 2 ≤ 21 by omega, show _ + 12 ≤ 126 by omega⟩ (pQ_k (fun G_250 s_250 w_250 a_250 l_250 => ?_)) pQ_n
                    try dsimp only [Option.toList, List.cons_append, List.nil_append]
                    refine v_iload (q := 255) hC dL_ofObjects_253 rfl rfl ?_
                    refine v_if_eq (q := 263) (q2 := 258) hC dL_ofObjects_255 (by decide) rfl (fun c_255 => ?_) (fun c_255 => ?_)
                    · exact absurd c_255 (by decide)
                    · refine v_bipush (q := 260) (v := (-102)) hC dL_ofObjects_258 rfl (by decide) ?_
                      refine v_goto (q := 265) hC dL_ofObjects_260 (by decide) ?_
                      refine v_icmp_ne (q := 272) (q2 := 268) hC dL_ofObjects_265 (by decide) rfl (fun c_265 => ?_) (fun c_265 => ?_)
                      · exact absurd rfl c_265
                      · refine v_iconst (q := 269) (v := 1) hC dL_ofObjects_268 rfl (by decide) ?_
                        refine v_goto (q := 273) hC dL_ofObjects_269 (by decide) ?_
                        refine v_iret hC dL_ofObjects_273 hr (rfl) ?_ (show _ ≤ 21 by omega) (show _ ≤ 126 by omega)
                        exact fQ_mk s_250 w_250 a_250 l_250 hlv hLq
                  · exact absurd (by rw [hob0]; rfl) c_239
              · have hba0 : ba = false := Bool.eq_false_iff.mpr fun z => hcan ⟨hob0, z⟩
                subst hba0
                refine v_iload (q := 234) hC dL_ofObjects_232 rfl rfl ?_
                refine v_if_eq (q := 247) (q2 := 237) hC dL_ofObjects_234 (by decide) rfl (fun c_234 => ?_) (fun c_234 => ?_)
                · exact absurd c_234 (by decide)
                · refine v_iload (q := 239) hC dL_ofObjects_237 rfl rfl ?_
                  refine v_if_eq (q := 247) (q2 := 242) hC dL_ofObjects_239 (by decide) rfl (fun c_239 => ?_) (fun c_239 => ?_)
                  · exact absurd ((nI_eq (b := 0) (by omega) (by decide)).mp c_239) hob0
                  · refine v_iload (q := 244) hC dL_ofObjects_242 rfl rfl ?_
                    refine v_if_ne (q := 274) (q2 := 247) hC dL_ofObjects_244 (by decide) rfl (fun c_244 => ?_) (fun c_244 => ?_)
                    · exact absurd rfl c_244
                    · refine v_aload_n (i := 0) (q := 248) hC dL_ofObjects_247 rfl rfl rfl ?_
                      refine v_iload (q := 250) hC dL_ofObjects_248 rfl rfl ?_
                      refine v_callR (q := 253) (rm := rm_L_removeOf) hC (vR) kh_L_removeOf ml_RL_353 dL_ofObjects_250 rfl rfl rfl (Nat.le_of_ble_eq_true rfl) ⟨Nat.le_of_ble_eq_true rfl, Nat.le_of_ble_eq_true rfl⟩ (c1 := 2) (s1 := 12) rfl rfl ⟨show _ + 2 ≤ 21 by omega, show _ + 12 ≤ 126 by omega⟩ (pQ_k (fun G_250 s_250 w_250 a_250 l_250 => ?_)) pQ_n
                      try dsimp only [Option.toList, List.cons_append, List.nil_append]
                      refine v_iload (q := 255) hC dL_ofObjects_253 rfl rfl ?_
                      refine v_if_eq (q := 263) (q2 := 258) hC dL_ofObjects_255 (by decide) rfl (fun c_255 => ?_) (fun c_255 => ?_)
                      · exact absurd c_255 (by decide)
                      · refine v_bipush (q := 260) (v := (-102)) hC dL_ofObjects_258 rfl (by decide) ?_
                        refine v_goto (q := 265) hC dL_ofObjects_260 (by decide) ?_
                        refine v_icmp_ne (q := 272) (q2 := 268) hC dL_ofObjects_265 (by decide) rfl (fun c_265 => ?_) (fun c_265 => ?_)
                        · exact absurd rfl c_265
                        · refine v_iconst (q := 269) (v := 1) hC dL_ofObjects_268 rfl (by decide) ?_
                          refine v_goto (q := 273) hC dL_ofObjects_269 (by decide) ?_
                          refine v_iret hC dL_ofObjects_273 hr (rfl) ?_ (show _ ≤ 21 by omega) (show _ ≤ 126 by omega)
                          exact fQ_mk s_250 w_250 a_250 l_250 hlv hLq
          · have cg : ¬ mHold (G.2.1 0 30) (nI ob) = true := by rw [hh, decide_eq_false hc1]; decide
            rw [decide_eq_false hc1]
            refine v_iload (q := 234) hC dL_ofObjects_232 rfl rfl ?_
            refine v_if_eq (q := 247) (q2 := 237) hC dL_ofObjects_234 (by decide) rfl (fun c_234 => ?_) (fun c_234 => ?_)
            · refine v_aload_n (i := 0) (q := 248) hC dL_ofObjects_247 rfl rfl rfl ?_
              refine v_iload (q := 250) hC dL_ofObjects_248 rfl rfl ?_
              refine v_callR (q := 253) (rm := rm_L_removeOf) hC ((r_remove hl Θ z0 ht (nI ob)).p (v2 := -101) (w2 := G.2.1 0 30) (if_neg cg) (if_neg cg)) kh_L_removeOf ml_RL_353 dL_ofObjects_250 rfl rfl rfl (Nat.le_of_ble_eq_true rfl) ⟨Nat.le_of_ble_eq_true rfl, Nat.le_of_ble_eq_true rfl⟩ (c1 := 2) (s1 := 12) rfl rfl ⟨show _ + 2 ≤ 21 by omega, show _ + 12 ≤ 126 by omega⟩ (pQ_k (fun G_250 s_250 w_250 a_250 l_250 => ?_)) pQ_n
              try dsimp only [Option.toList, List.cons_append, List.nil_append]
              refine v_iload (q := 255) hC dL_ofObjects_253 rfl rfl ?_
              refine v_if_eq (q := 263) (q2 := 258) hC dL_ofObjects_255 (by decide) rfl (fun c_255 => ?_) (fun c_255 => ?_)
              · refine v_bipush (q := 265) (v := (-101)) hC dL_ofObjects_263 rfl (by decide) ?_
                refine v_icmp_ne (q := 272) (q2 := 268) hC dL_ofObjects_265 (by decide) rfl (fun c_265 => ?_) (fun c_265 => ?_)
                · exact absurd rfl c_265
                · refine v_iconst (q := 269) (v := 1) hC dL_ofObjects_268 rfl (by decide) ?_
                  refine v_goto (q := 273) hC dL_ofObjects_269 (by decide) ?_
                  refine v_iret hC dL_ofObjects_273 hr (rfl) ?_ (show _ ≤ 21 by omega) (show _ ≤ 126 by omega)
                  exact fQ_mk s_250 w_250 a_250 l_250 hlv hLq
              · exact absurd rfl c_255
            · exact absurd rfl c_234
        have L : ∀ (n j : Nat) (ba : Bool), n + j = 10 → (ba = true ↔ ∀ i, i < j → ¬ G.2.1 0 41 i = nI ob) → V p l e rm_L_ofObjects s m args below meth c 11 Θ (fQ t) 21 126 0 0 198 [some (.ref (tR Θ 0 14)), some (.ref (tR Θ 0 41)), some (.ref (tR Θ 0 44)), some (.int (nI 3)), some (.int (nI y)), some (.int (nI ob)), some (.int (nI ot)), some (.int (nI us)), some (.int (b2i (decide (G.2.1 0 30 (oA ob 0) = 1)))), some (.int (b2i ba)), some (.int (nI j))] [] (G) := by
          intro n
          induction n with
          | zero =>
            intro j ba hj hba
            have hj2 : j = 10 := by omega
            subst hj2
            refine v_iload (q := 200) hC dL_ofObjects_198 rfl rfl ?_
            refine v_bipush (q := 202) (v := 10) hC dL_ofObjects_200 rfl (by decide) ?_
            refine v_icmp_ge (q := 232) (q2 := 205) hC dL_ofObjects_202 (by decide) rfl (fun c_202 => ?_) (fun c_202 => ?_)
            · exact R ba hba
            · exact absurd (by decide) c_202
          | succ n ih =>
            intro j ba hj hba
            have step : ∀ (b2 : Bool), (b2 = true ↔ (ba = true ∧ ¬ G.2.1 0 41 j = nI ob)) → (b2 = true ↔ ∀ i, i < j + 1 → ¬ G.2.1 0 41 i = nI ob) := by
              intro b2 hb2
              rw [hb2, hba]
              constructor
              · rintro ⟨g1, g2⟩ i hi
                by_cases hij : i = j
                · rw [hij]; exact g2
                · exact g1 i (by omega)
              · intro g1
                exact ⟨fun i hi => g1 i (by omega), g1 j (by omega)⟩
            cases ba with
            | false =>
              refine v_iload (q := 200) hC dL_ofObjects_198 rfl rfl ?_
              refine v_bipush (q := 202) (v := 10) hC dL_ofObjects_200 rfl (by decide) ?_
              refine v_icmp_ge (q := 232) (q2 := 205) hC dL_ofObjects_202 (by decide) rfl (fun c_202 => ?_) (fun c_202 => ?_)
              · exact absurd c_202 (by rw [show (10 : Int32) = nI 10 from rfl]; exact nI_ge (by omega) (by omega))
              · refine v_iload (q := 207) hC dL_ofObjects_205 rfl rfl ?_
                refine v_if_eq (q := 223) (q2 := 210) hC dL_ofObjects_207 (by decide) rfl (fun c_207 => ?_) (fun c_207 => ?_)
                · refine v_iconst (q := 224) (v := 0) hC dL_ofObjects_223 rfl (by decide) ?_
                  refine v_istore (q := 226) hC dL_ofObjects_224 rfl (lvc rfl) (Nat.le_of_ble_eq_true rfl) (Nat.le_of_ble_eq_true rfl) rfl ?_
                  refine v_iinc (q := 229) (v := nI (j + 1)) hC dL_ofObjects_226 rfl rfl (nI_1 j) (lvc rfl) (Nat.le_of_ble_eq_true rfl) (Nat.le_of_ble_eq_true rfl) rfl ?_
                  refine v_goto (q := 198) hC dL_ofObjects_229 (by decide) ?_
                  exact ih (j + 1) false (by omega) (step false ⟨fun z => absurd z (by decide), fun z => absurd z.1 (by decide)⟩)
                · exact absurd rfl c_207
            | true =>
              refine v_iload (q := 200) hC dL_ofObjects_198 rfl rfl ?_
              refine v_bipush (q := 202) (v := 10) hC dL_ofObjects_200 rfl (by decide) ?_
              refine v_icmp_ge (q := 232) (q2 := 205) hC dL_ofObjects_202 (by decide) rfl (fun c_202 => ?_) (fun c_202 => ?_)
              · exact absurd c_202 (by rw [show (10 : Int32) = nI 10 from rfl]; exact nI_ge (by omega) (by omega))
              · refine v_iload (q := 207) hC dL_ofObjects_205 rfl rfl ?_
                refine v_if_eq (q := 223) (q2 := 210) hC dL_ofObjects_207 (by decide) rfl (fun c_207 => ?_) (fun c_207 => ?_)
                · exact absurd c_207 (by decide)
                · refine v_aload_n (i := 1) (q := 211) hC dL_ofObjects_210 rfl rfl rfl ?_
                  refine v_iload (q := 213) hC dL_ofObjects_211 rfl rfl ?_
                  refine v_ialdV (q := 214) hC dL_ofObjects_213 rfl rfl rfl (i := j) (rfl) (by first | decide | omega) (by decide) (rfl) ?_
                  refine v_iload (q := 216) hC dL_ofObjects_214 rfl rfl ?_
                  refine v_icmp_eq (q := 223) (q2 := 219) hC dL_ofObjects_216 (by decide) rfl (fun c_216 => ?_) (fun c_216 => ?_)
                  · refine v_iconst (q := 224) (v := 0) hC dL_ofObjects_223 rfl (by decide) ?_
                    refine v_istore (q := 226) hC dL_ofObjects_224 rfl (lvc rfl) (Nat.le_of_ble_eq_true rfl) (Nat.le_of_ble_eq_true rfl) rfl ?_
                    refine v_iinc (q := 229) (v := nI (j + 1)) hC dL_ofObjects_226 rfl rfl (nI_1 j) (lvc rfl) (Nat.le_of_ble_eq_true rfl) (Nat.le_of_ble_eq_true rfl) rfl ?_
                    refine v_goto (q := 198) hC dL_ofObjects_229 (by decide) ?_
                    first
                    | exact ih (j + 1) false (by omega) (step false ⟨fun z => absurd z (by decide), fun z => absurd c_216 z.2⟩)
                    | exact ih (j + 1) true (by omega) (step true ⟨fun _ => ⟨rfl, c_216⟩, fun _ => rfl⟩)
                  · refine v_iconst (q := 220) (v := 1) hC dL_ofObjects_219 rfl (by decide) ?_
                    refine v_goto (q := 224) hC dL_ofObjects_220 (by decide) ?_
                    refine v_istore (q := 226) hC dL_ofObjects_224 rfl (lvc rfl) (Nat.le_of_ble_eq_true rfl) (Nat.le_of_ble_eq_true rfl) rfl ?_
                    refine v_iinc (q := 229) (v := nI (j + 1)) hC dL_ofObjects_226 rfl rfl (nI_1 j) (lvc rfl) (Nat.le_of_ble_eq_true rfl) (Nat.le_of_ble_eq_true rfl) rfl ?_
                    refine v_goto (q := 198) hC dL_ofObjects_229 (by decide) ?_
                    first
                    | exact ih (j + 1) false (by omega) (step false ⟨fun z => absurd z (by decide), fun z => absurd c_216 z.2⟩)
                    | exact ih (j + 1) true (by omega) (step true ⟨fun _ => ⟨rfl, c_216⟩, fun _ => rfl⟩)
        refine v_iload_n (i := 3) (q := 44) hC dL_ofObjects_43 rfl rfl rfl ?_
        refine v_iconst (q := 45) (v := 3) hC dL_ofObjects_44 rfl (by decide) ?_
        refine v_icmp_ge (q := 187) (q2 := 48) hC dL_ofObjects_45 (by decide) rfl (fun c_45 => ?_) (fun c_45 => ?_)
        · refine v_iload_n (i := 3) (q := 188) hC dL_ofObjects_187 rfl rfl rfl ?_
          refine v_iconst (q := 189) (v := 3) hC dL_ofObjects_188 rfl (by decide) ?_
          refine v_icmp_ne (q := 305) (q2 := 192) hC dL_ofObjects_189 (by decide) rfl (fun c_189 => ?_) (fun c_189 => ?_)
          · exact absurd rfl c_189
          · refine v_iconst (q := 193) (v := 1) hC dL_ofObjects_192 rfl (by decide) ?_
            refine v_istore (q := 195) hC dL_ofObjects_193 rfl (lvc rfl) (Nat.le_of_ble_eq_true rfl) (Nat.le_of_ble_eq_true rfl) rfl ?_
            refine v_iconst (q := 196) (v := 0) hC dL_ofObjects_195 rfl (by decide) ?_
            refine v_istore (q := 198) hC dL_ofObjects_196 rfl (lvc rfl) (Nat.le_of_ble_eq_true rfl) (Nat.le_of_ble_eq_true rfl) rfl ?_
            exact L 10 0 true rfl ⟨fun _ i hi => absurd hi (by omega), fun _ => rfl⟩
        · exact absurd (Int32.not_le.mp c_45) n3
      have ne3 : ¬ nI way = 3 := fun z => hw3 ((nI_eq (b := 3) (by omega) (by decide)).mp z)
      by_cases hw4 : way = 4
      · -- move
        subst hw4
        by_cases hboth : G.2.1 0 30 (oA ob 0) = 1 ∧ G.2.1 0 30 (oA ot 0) = 1
        · obtain ⟨hc1, ht1⟩ := hboth
          have cg : (mHold (G.2.1 0 30) (nI ob) && mHold (G.2.1 0 30) (nI ot)) = true := by
            rw [hh, hD.hold (show ot < 20 by omega), decide_eq_true hc1, decide_eq_true ht1]; rfl
          rw [decide_eq_true hc1]
          have hpt : ¬ G.2.1 0 41 ot = -2 := fun z => (hD.p2 hot).mp z ht1
          by_cases hcan : (!(decide (nI ob = 0) || (decide (nI ot = nI ob) || mBlw (G.2.1 0 30) ot (nI ob)))) = true
          · have h9 : ¬ nI ob = 0 ∧ ¬ nI ot = nI ob ∧ mBlw (G.2.1 0 30) ot (nI ob) = false := by
              by_cases q1 : nI ob = 0
              · rw [decide_eq_true q1, Bool.true_or] at hcan; exact absurd hcan (by decide)
              by_cases q2 : nI ot = nI ob
              · rw [decide_eq_true q2, Bool.true_or, Bool.or_true] at hcan; exact absurd hcan (by decide)
              refine ⟨q1, q2, Bool.eq_false_iff.mpr fun z => ?_⟩
              rw [z, Bool.or_true, Bool.or_true] at hcan; exact absurd hcan (by decide)
            have hq := hLq.fld hc hob hc1 (q := 1) (by decide) (nI ot) (fun _ => m2_ne (by omega)) (fun z => absurd z (by decide))
            rw [show 10 * (1 - 1) + ob = ob by omega] at hq
            refine v_iload_n (i := 3) (q := 44) hC dL_ofObjects_43 rfl rfl rfl ?_
            refine v_iconst (q := 45) (v := 3) hC dL_ofObjects_44 rfl (by decide) ?_
            refine v_icmp_ge (q := 187) (q2 := 48) hC dL_ofObjects_45 (by decide) rfl (fun c_45 => ?_) (fun c_45 => ?_)
            · refine v_iload_n (i := 3) (q := 188) hC dL_ofObjects_187 rfl rfl rfl ?_
              refine v_iconst (q := 189) (v := 3) hC dL_ofObjects_188 rfl (by decide) ?_
              refine v_icmp_ne (q := 305) (q2 := 192) hC dL_ofObjects_189 (by decide) rfl (fun c_189 => ?_) (fun c_189 => ?_)
              · refine v_iload_n (i := 3) (q := 306) hC dL_ofObjects_305 rfl rfl rfl ?_
                refine v_iconst (q := 307) (v := 4) hC dL_ofObjects_306 rfl (by decide) ?_
                refine v_icmp_ne (q := 419) (q2 := 310) hC dL_ofObjects_307 (by decide) rfl (fun c_307 => ?_) (fun c_307 => ?_)
                · exact absurd rfl c_307
                · refine v_iload (q := 312) hC dL_ofObjects_310 rfl rfl ?_
                  refine v_if_eq (q := 328) (q2 := 315) hC dL_ofObjects_312 (by decide) rfl (fun c_312 => ?_) (fun c_312 => ?_)
                  · exact absurd c_312 (by decide)
                  · refine v_aload_n (i := 1) (q := 316) hC dL_ofObjects_315 rfl rfl rfl ?_
                    refine v_iload (q := 318) hC dL_ofObjects_316 rfl rfl ?_
                    refine v_ialdV (q := 319) hC dL_ofObjects_318 rfl rfl rfl (i := ot) (rfl) (by first | decide | omega) (by decide) (rfl) ?_
                    refine v_bipush (q := 321) (v := (-2)) hC dL_ofObjects_319 rfl (by decide) ?_
                    refine v_icmp_eq (q := 328) (q2 := 324) hC dL_ofObjects_321 (by decide) rfl (fun c_321 => ?_) (fun c_321 => ?_)
                    · exact absurd c_321 hpt
                    · refine v_iconst (q := 325) (v := 1) hC dL_ofObjects_324 rfl (by decide) ?_
                      refine v_goto (q := 329) hC dL_ofObjects_325 (by decide) ?_
                      refine v_istore (q := 331) hC dL_ofObjects_329 rfl (lvc rfl) (Nat.le_of_ble_eq_true rfl) (Nat.le_of_ble_eq_true rfl) rfl ?_
                      refine v_iload (q := 333) hC dL_ofObjects_331 rfl rfl ?_
                      refine v_if_eq (q := 359) (q2 := 336) hC dL_ofObjects_333 (by decide) rfl (fun c_333 => ?_) (fun c_333 => ?_)
                      · exact absurd c_333 (by decide)
                      · refine v_iload (q := 338) hC dL_ofObjects_336 rfl rfl ?_
                        refine v_if_eq (q := 359) (q2 := 341) hC dL_ofObjects_338 (by decide) rfl (fun c_338 => ?_) (fun c_338 => ?_)
                        · exact absurd c_338 h9.1
                        · refine v_iload (q := 343) hC dL_ofObjects_341 rfl rfl ?_
                          refine v_iload (q := 345) hC dL_ofObjects_343 rfl rfl ?_
                          refine v_icmp_eq (q := 359) (q2 := 348) hC dL_ofObjects_345 (by decide) rfl (fun c_345 => ?_) (fun c_345 => ?_)
                          · exact absurd c_345 h9.2.1
                          · refine v_aload_n (i := 1) (q := 349) hC dL_ofObjects_348 rfl rfl rfl ?_
                            refine v_iload (q := 351) hC dL_ofObjects_349 rfl rfl ?_
                            refine v_iload (q := 353) hC dL_ofObjects_351 rfl rfl ?_
                            refine v_callSN (q := 356) (rm := rm_L_isUnder) hC (c_L_isUnder hl Θ ot ob _ _ _ hD hot ht1 hob) k_L_isUnder st_yL_isUnder ml_RL_234 dL_ofObjects_353 rfl rfl rfl (Nat.le_of_ble_eq_true rfl) ⟨Nat.le_of_ble_eq_true rfl, Nat.le_of_ble_eq_true rfl⟩ (c1 := 0) (s1 := 0) rfl rfl ⟨show _ + 0 ≤ 21 by omega, show _ + 0 ≤ 126 by omega⟩ (fR_k ?_) fR_n
                            try dsimp only [Option.toList, List.cons_append, List.nil_append]
                            rw [h9.2.2]
                            refine v_ifb_eq (q := 388) (q2 := 359) hC dL_ofObjects_356 (by decide) rfl (fun c_356 => ?_) (fun c_356 => ?_)
                            · refine v_aload_n (i := 1) (q := 389) hC dL_ofObjects_388 rfl rfl rfl ?_
                              refine v_iload (q := 391) hC dL_ofObjects_389 rfl rfl ?_
                              refine v_ialdV (q := 392) hC dL_ofObjects_391 rfl rfl rfl (i := ob) (rfl) (by first | decide | omega) (by decide) (hD.p1 hob hc1) ?_
                              refine v_istore (q := 394) hC dL_ofObjects_392 rfl (lvc rfl) (Nat.le_of_ble_eq_true rfl) (Nat.le_of_ble_eq_true rfl) rfl ?_
                              refine v_aload_n (i := 1) (q := 395) hC dL_ofObjects_394 rfl rfl rfl ?_
                              refine v_iload (q := 397) hC dL_ofObjects_395 rfl rfl ?_
                              refine v_iload (q := 399) hC dL_ofObjects_397 rfl rfl ?_
                              refine v_iastN (q := 400) hC dL_ofObjects_399 rfl rfl (fun _ => rfl) (i := ob) (rfl) (by first | decide | omega | (unfold oA; omega) | (unfold enA; omega)) (by decide) ?_
                              refine v_aload_n (i := 0) (q := 401) hC dL_ofObjects_400 rfl rfl rfl ?_
                              refine v_iload (q := 403) hC dL_ofObjects_401 rfl rfl ?_
                              refine v_iload (q := 405) hC dL_ofObjects_403 rfl rfl ?_
                              refine v_callR (q := 408) (rm := rm_L_moveOf) hC ((r_move hl Θ (Nx.refl (Wp _)) ht (nI ob) (nI ot)).p (v2 := G.2.1 0 30 (oA ob 1)) (w2 := upd (G.2.1 0 30) (oA ob 1) (nI ot)) (by rw [eob, eot]; exact (if_pos cg).trans (if_pos hcan)) (by rw [eob, eot]; exact (if_pos cg).trans (if_pos hcan))) kh_L_moveOf ml_RL_356 dL_ofObjects_405 rfl rfl rfl (Nat.le_of_ble_eq_true rfl) ⟨Nat.le_of_ble_eq_true rfl, Nat.le_of_ble_eq_true rfl⟩ (c1 := 3) (s1 := 18) rfl rfl ⟨show _ + 3 ≤ 21 by omega, show _ + 18 ≤ 126 by omega⟩ (pQ_k (fun G_405 s_405 w_405 a_405 l_405 => ?_)) pQ_n
                              try dsimp only [Option.toList, List.cons_append, List.nil_append]
                              refine v_iload (q := 410) hC dL_ofObjects_408 rfl rfl ?_
                              refine v_icmp_ne (q := 417) (q2 := 413) hC dL_ofObjects_410 (by decide) rfl (fun c_410 => ?_) (fun c_410 => ?_)
                              · exact absurd rfl c_410
                              · refine v_iconst (q := 414) (v := 1) hC dL_ofObjects_413 rfl (by decide) ?_
                                refine v_goto (q := 418) hC dL_ofObjects_414 (by decide) ?_
                                refine v_iret hC dL_ofObjects_418 hr (rfl) ?_ (show _ ≤ 21 by omega) (show _ ≤ 126 by omega)
                                exact fQ_mk s_405 w_405 a_405 l_405 hlv hq
                            · exact absurd c_356 (by decide)
              · exact absurd c_189 ne3
            · exact absurd (Int32.not_le.mp c_45) n3
          · have vV := (r_move hl Θ z0 ht (nI ob) (nI ot)).p (v2 := -102) (w2 := G.2.1 0 30) (by rw [eob, eot]; exact (if_pos cg).trans (if_neg hcan)) (by rw [eob, eot]; exact (if_pos cg).trans (if_neg hcan))
            refine v_iload_n (i := 3) (q := 44) hC dL_ofObjects_43 rfl rfl rfl ?_
            refine v_iconst (q := 45) (v := 3) hC dL_ofObjects_44 rfl (by decide) ?_
            refine v_icmp_ge (q := 187) (q2 := 48) hC dL_ofObjects_45 (by decide) rfl (fun c_45 => ?_) (fun c_45 => ?_)
            · refine v_iload_n (i := 3) (q := 188) hC dL_ofObjects_187 rfl rfl rfl ?_
              refine v_iconst (q := 189) (v := 3) hC dL_ofObjects_188 rfl (by decide) ?_
              refine v_icmp_ne (q := 305) (q2 := 192) hC dL_ofObjects_189 (by decide) rfl (fun c_189 => ?_) (fun c_189 => ?_)
              · refine v_iload_n (i := 3) (q := 306) hC dL_ofObjects_305 rfl rfl rfl ?_
                refine v_iconst (q := 307) (v := 4) hC dL_ofObjects_306 rfl (by decide) ?_
                refine v_icmp_ne (q := 419) (q2 := 310) hC dL_ofObjects_307 (by decide) rfl (fun c_307 => ?_) (fun c_307 => ?_)
                · exact absurd rfl c_307
                · refine v_iload (q := 312) hC dL_ofObjects_310 rfl rfl ?_
                  refine v_if_eq (q := 328) (q2 := 315) hC dL_ofObjects_312 (by decide) rfl (fun c_312 => ?_) (fun c_312 => ?_)
                  · exact absurd c_312 (by decide)
                  · refine v_aload_n (i := 1) (q := 316) hC dL_ofObjects_315 rfl rfl rfl ?_
                    refine v_iload (q := 318) hC dL_ofObjects_316 rfl rfl ?_
                    refine v_ialdV (q := 319) hC dL_ofObjects_318 rfl rfl rfl (i := ot) (rfl) (by first | decide | omega) (by decide) (rfl) ?_
                    refine v_bipush (q := 321) (v := (-2)) hC dL_ofObjects_319 rfl (by decide) ?_
                    refine v_icmp_eq (q := 328) (q2 := 324) hC dL_ofObjects_321 (by decide) rfl (fun c_321 => ?_) (fun c_321 => ?_)
                    · exact absurd c_321 hpt
                    · refine v_iconst (q := 325) (v := 1) hC dL_ofObjects_324 rfl (by decide) ?_
                      refine v_goto (q := 329) hC dL_ofObjects_325 (by decide) ?_
                      refine v_istore (q := 331) hC dL_ofObjects_329 rfl (lvc rfl) (Nat.le_of_ble_eq_true rfl) (Nat.le_of_ble_eq_true rfl) rfl ?_
                      refine v_iload (q := 333) hC dL_ofObjects_331 rfl rfl ?_
                      refine v_if_eq (q := 359) (q2 := 336) hC dL_ofObjects_333 (by decide) rfl (fun c_333 => ?_) (fun c_333 => ?_)
                      · exact absurd c_333 (by decide)
                      · refine v_iload (q := 338) hC dL_ofObjects_336 rfl rfl ?_
                        refine v_if_eq (q := 359) (q2 := 341) hC dL_ofObjects_338 (by decide) rfl (fun c_338 => ?_) (fun c_338 => ?_)
                        · refine v_aload_n (i := 0) (q := 360) hC dL_ofObjects_359 rfl rfl rfl ?_
                          refine v_iload (q := 362) hC dL_ofObjects_360 rfl rfl ?_
                          refine v_iload (q := 364) hC dL_ofObjects_362 rfl rfl ?_
                          refine v_callR (q := 367) (rm := rm_L_moveOf) hC (vV) kh_L_moveOf ml_RL_356 dL_ofObjects_364 rfl rfl rfl (Nat.le_of_ble_eq_true rfl) ⟨Nat.le_of_ble_eq_true rfl, Nat.le_of_ble_eq_true rfl⟩ (c1 := 3) (s1 := 18) rfl rfl ⟨show _ + 3 ≤ 21 by omega, show _ + 18 ≤ 126 by omega⟩ (pQ_k (fun G_364 s_364 w_364 a_364 l_364 => ?_)) pQ_n
                          try dsimp only [Option.toList, List.cons_append, List.nil_append]
                          refine v_iload (q := 369) hC dL_ofObjects_367 rfl rfl ?_
                          refine v_if_eq (q := 377) (q2 := 372) hC dL_ofObjects_369 (by decide) rfl (fun c_369 => ?_) (fun c_369 => ?_)
                          · exact absurd c_369 (by decide)
                          · refine v_bipush (q := 374) (v := (-102)) hC dL_ofObjects_372 rfl (by decide) ?_
                            refine v_goto (q := 379) hC dL_ofObjects_374 (by decide) ?_
                            refine v_icmp_ne (q := 386) (q2 := 382) hC dL_ofObjects_379 (by decide) rfl (fun c_379 => ?_) (fun c_379 => ?_)
                            · exact absurd rfl c_379
                            · refine v_iconst (q := 383) (v := 1) hC dL_ofObjects_382 rfl (by decide) ?_
                              refine v_goto (q := 387) hC dL_ofObjects_383 (by decide) ?_
                              refine v_iret hC dL_ofObjects_387 hr (rfl) ?_ (show _ ≤ 21 by omega) (show _ ≤ 126 by omega)
                              exact fQ_mk s_364 w_364 a_364 l_364 hlv hLq
                        · refine v_iload (q := 343) hC dL_ofObjects_341 rfl rfl ?_
                          refine v_iload (q := 345) hC dL_ofObjects_343 rfl rfl ?_
                          refine v_icmp_eq (q := 359) (q2 := 348) hC dL_ofObjects_345 (by decide) rfl (fun c_345 => ?_) (fun c_345 => ?_)
                          · refine v_aload_n (i := 0) (q := 360) hC dL_ofObjects_359 rfl rfl rfl ?_
                            refine v_iload (q := 362) hC dL_ofObjects_360 rfl rfl ?_
                            refine v_iload (q := 364) hC dL_ofObjects_362 rfl rfl ?_
                            refine v_callR (q := 367) (rm := rm_L_moveOf) hC (vV) kh_L_moveOf ml_RL_356 dL_ofObjects_364 rfl rfl rfl (Nat.le_of_ble_eq_true rfl) ⟨Nat.le_of_ble_eq_true rfl, Nat.le_of_ble_eq_true rfl⟩ (c1 := 3) (s1 := 18) rfl rfl ⟨show _ + 3 ≤ 21 by omega, show _ + 18 ≤ 126 by omega⟩ (pQ_k (fun G_364 s_364 w_364 a_364 l_364 => ?_)) pQ_n
                            try dsimp only [Option.toList, List.cons_append, List.nil_append]
                            refine v_iload (q := 369) hC dL_ofObjects_367 rfl rfl ?_
                            refine v_if_eq (q := 377) (q2 := 372) hC dL_ofObjects_369 (by decide) rfl (fun c_369 => ?_) (fun c_369 => ?_)
                            · exact absurd c_369 (by decide)
                            · refine v_bipush (q := 374) (v := (-102)) hC dL_ofObjects_372 rfl (by decide) ?_
                              refine v_goto (q := 379) hC dL_ofObjects_374 (by decide) ?_
                              refine v_icmp_ne (q := 386) (q2 := 382) hC dL_ofObjects_379 (by decide) rfl (fun c_379 => ?_) (fun c_379 => ?_)
                              · exact absurd rfl c_379
                              · refine v_iconst (q := 383) (v := 1) hC dL_ofObjects_382 rfl (by decide) ?_
                                refine v_goto (q := 387) hC dL_ofObjects_383 (by decide) ?_
                                refine v_iret hC dL_ofObjects_387 hr (rfl) ?_ (show _ ≤ 21 by omega) (show _ ≤ 126 by omega)
                                exact fQ_mk s_364 w_364 a_364 l_364 hlv hLq
                          · refine v_aload_n (i := 1) (q := 349) hC dL_ofObjects_348 rfl rfl rfl ?_
                            refine v_iload (q := 351) hC dL_ofObjects_349 rfl rfl ?_
                            refine v_iload (q := 353) hC dL_ofObjects_351 rfl rfl ?_
                            refine v_callSN (q := 356) (rm := rm_L_isUnder) hC (c_L_isUnder hl Θ ot ob _ _ _ hD hot ht1 hob) k_L_isUnder st_yL_isUnder ml_RL_234 dL_ofObjects_353 rfl rfl rfl (Nat.le_of_ble_eq_true rfl) ⟨Nat.le_of_ble_eq_true rfl, Nat.le_of_ble_eq_true rfl⟩ (c1 := 0) (s1 := 0) rfl rfl ⟨show _ + 0 ≤ 21 by omega, show _ + 0 ≤ 126 by omega⟩ (fR_k ?_) fR_n
                            try dsimp only [Option.toList, List.cons_append, List.nil_append]
                            refine v_ifb_eq (q := 388) (q2 := 359) hC dL_ofObjects_356 (by decide) rfl (fun c_356 => ?_) (fun c_356 => ?_)
                            · refine absurd ?_ hcan
                              rw [decide_eq_false c_338, decide_eq_false c_345, c_356]; rfl
                            · refine v_aload_n (i := 0) (q := 360) hC dL_ofObjects_359 rfl rfl rfl ?_
                              refine v_iload (q := 362) hC dL_ofObjects_360 rfl rfl ?_
                              refine v_iload (q := 364) hC dL_ofObjects_362 rfl rfl ?_
                              refine v_callR (q := 367) (rm := rm_L_moveOf) hC (vV) kh_L_moveOf ml_RL_356 dL_ofObjects_364 rfl rfl rfl (Nat.le_of_ble_eq_true rfl) ⟨Nat.le_of_ble_eq_true rfl, Nat.le_of_ble_eq_true rfl⟩ (c1 := 3) (s1 := 18) rfl rfl ⟨show _ + 3 ≤ 21 by omega, show _ + 18 ≤ 126 by omega⟩ (pQ_k (fun G_364 s_364 w_364 a_364 l_364 => ?_)) pQ_n
                              try dsimp only [Option.toList, List.cons_append, List.nil_append]
                              refine v_iload (q := 369) hC dL_ofObjects_367 rfl rfl ?_
                              refine v_if_eq (q := 377) (q2 := 372) hC dL_ofObjects_369 (by decide) rfl (fun c_369 => ?_) (fun c_369 => ?_)
                              · exact absurd c_369 (by decide)
                              · refine v_bipush (q := 374) (v := (-102)) hC dL_ofObjects_372 rfl (by decide) ?_
                                refine v_goto (q := 379) hC dL_ofObjects_374 (by decide) ?_
                                refine v_icmp_ne (q := 386) (q2 := 382) hC dL_ofObjects_379 (by decide) rfl (fun c_379 => ?_) (fun c_379 => ?_)
                                · exact absurd rfl c_379
                                · refine v_iconst (q := 383) (v := 1) hC dL_ofObjects_382 rfl (by decide) ?_
                                  refine v_goto (q := 387) hC dL_ofObjects_383 (by decide) ?_
                                  refine v_iret hC dL_ofObjects_387 hr (rfl) ?_ (show _ ≤ 21 by omega) (show _ ≤ 126 by omega)
                                  exact fQ_mk s_364 w_364 a_364 l_364 hlv hLq
              · exact absurd c_189 ne3
            · exact absurd (Int32.not_le.mp c_45) n3
        · have cg : ¬ (mHold (G.2.1 0 30) (nI ob) && mHold (G.2.1 0 30) (nI ot)) = true := by
            rw [hh, hD.hold (show ot < 20 by omega)]
            intro z
            obtain ⟨z1, z2⟩ := Bool.and_eq_true_iff.mp z
            exact hboth ⟨of_decide_eq_true z1, of_decide_eq_true z2⟩
          have vV := (r_move hl Θ z0 ht (nI ob) (nI ot)).p (v2 := -101) (w2 := G.2.1 0 30) (if_neg cg) (if_neg cg)
          by_cases hc1 : G.2.1 0 30 (oA ob 0) = 1
          · rw [decide_eq_true hc1]
            have hpt : G.2.1 0 41 ot = -2 := (hD.p2 hot).mpr fun z => hboth ⟨hc1, z⟩
            refine v_iload_n (i := 3) (q := 44) hC dL_ofObjects_43 rfl rfl rfl ?_
            refine v_iconst (q := 45) (v := 3) hC dL_ofObjects_44 rfl (by decide) ?_
            refine v_icmp_ge (q := 187) (q2 := 48) hC dL_ofObjects_45 (by decide) rfl (fun c_45 => ?_) (fun c_45 => ?_)
            · refine v_iload_n (i := 3) (q := 188) hC dL_ofObjects_187 rfl rfl rfl ?_
              refine v_iconst (q := 189) (v := 3) hC dL_ofObjects_188 rfl (by decide) ?_
              refine v_icmp_ne (q := 305) (q2 := 192) hC dL_ofObjects_189 (by decide) rfl (fun c_189 => ?_) (fun c_189 => ?_)
              · refine v_iload_n (i := 3) (q := 306) hC dL_ofObjects_305 rfl rfl rfl ?_
                refine v_iconst (q := 307) (v := 4) hC dL_ofObjects_306 rfl (by decide) ?_
                refine v_icmp_ne (q := 419) (q2 := 310) hC dL_ofObjects_307 (by decide) rfl (fun c_307 => ?_) (fun c_307 => ?_)
                · exact absurd rfl c_307
                · refine v_iload (q := 312) hC dL_ofObjects_310 rfl rfl ?_
                  refine v_if_eq (q := 328) (q2 := 315) hC dL_ofObjects_312 (by decide) rfl (fun c_312 => ?_) (fun c_312 => ?_)
                  · exact absurd c_312 (by decide)
                  · refine v_aload_n (i := 1) (q := 316) hC dL_ofObjects_315 rfl rfl rfl ?_
                    refine v_iload (q := 318) hC dL_ofObjects_316 rfl rfl ?_
                    refine v_ialdV (q := 319) hC dL_ofObjects_318 rfl rfl rfl (i := ot) (rfl) (by first | decide | omega) (by decide) (hpt) ?_
                    refine v_bipush (q := 321) (v := (-2)) hC dL_ofObjects_319 rfl (by decide) ?_
                    refine v_icmp_eq (q := 328) (q2 := 324) hC dL_ofObjects_321 (by decide) rfl (fun c_321 => ?_) (fun c_321 => ?_)
                    · refine v_iconst (q := 329) (v := 0) hC dL_ofObjects_328 rfl (by decide) ?_
                      refine v_istore (q := 331) hC dL_ofObjects_329 rfl (lvc rfl) (Nat.le_of_ble_eq_true rfl) (Nat.le_of_ble_eq_true rfl) rfl ?_
                      refine v_iload (q := 333) hC dL_ofObjects_331 rfl rfl ?_
                      refine v_if_eq (q := 359) (q2 := 336) hC dL_ofObjects_333 (by decide) rfl (fun c_333 => ?_) (fun c_333 => ?_)
                      · refine v_aload_n (i := 0) (q := 360) hC dL_ofObjects_359 rfl rfl rfl ?_
                        refine v_iload (q := 362) hC dL_ofObjects_360 rfl rfl ?_
                        refine v_iload (q := 364) hC dL_ofObjects_362 rfl rfl ?_
                        refine v_callR (q := 367) (rm := rm_L_moveOf) hC (vV) kh_L_moveOf ml_RL_356 dL_ofObjects_364 rfl rfl rfl (Nat.le_of_ble_eq_true rfl) ⟨Nat.le_of_ble_eq_true rfl, Nat.le_of_ble_eq_true rfl⟩ (c1 := 3) (s1 := 18) rfl rfl ⟨show _ + 3 ≤ 21 by omega, show _ + 18 ≤ 126 by omega⟩ (pQ_k (fun G_364 s_364 w_364 a_364 l_364 => ?_)) pQ_n
                        try dsimp only [Option.toList, List.cons_append, List.nil_append]
                        refine v_iload (q := 369) hC dL_ofObjects_367 rfl rfl ?_
                        refine v_if_eq (q := 377) (q2 := 372) hC dL_ofObjects_369 (by decide) rfl (fun c_369 => ?_) (fun c_369 => ?_)
                        · refine v_bipush (q := 379) (v := (-101)) hC dL_ofObjects_377 rfl (by decide) ?_
                          refine v_icmp_ne (q := 386) (q2 := 382) hC dL_ofObjects_379 (by decide) rfl (fun c_379 => ?_) (fun c_379 => ?_)
                          · exact absurd rfl c_379
                          · refine v_iconst (q := 383) (v := 1) hC dL_ofObjects_382 rfl (by decide) ?_
                            refine v_goto (q := 387) hC dL_ofObjects_383 (by decide) ?_
                            refine v_iret hC dL_ofObjects_387 hr (rfl) ?_ (show _ ≤ 21 by omega) (show _ ≤ 126 by omega)
                            exact fQ_mk s_364 w_364 a_364 l_364 hlv hLq
                        · exact absurd rfl c_369
                      · exact absurd rfl c_333
                    · exact absurd rfl c_321
              · exact absurd c_189 ne3
            · exact absurd (Int32.not_le.mp c_45) n3
          · rw [decide_eq_false hc1]
            refine v_iload_n (i := 3) (q := 44) hC dL_ofObjects_43 rfl rfl rfl ?_
            refine v_iconst (q := 45) (v := 3) hC dL_ofObjects_44 rfl (by decide) ?_
            refine v_icmp_ge (q := 187) (q2 := 48) hC dL_ofObjects_45 (by decide) rfl (fun c_45 => ?_) (fun c_45 => ?_)
            · refine v_iload_n (i := 3) (q := 188) hC dL_ofObjects_187 rfl rfl rfl ?_
              refine v_iconst (q := 189) (v := 3) hC dL_ofObjects_188 rfl (by decide) ?_
              refine v_icmp_ne (q := 305) (q2 := 192) hC dL_ofObjects_189 (by decide) rfl (fun c_189 => ?_) (fun c_189 => ?_)
              · refine v_iload_n (i := 3) (q := 306) hC dL_ofObjects_305 rfl rfl rfl ?_
                refine v_iconst (q := 307) (v := 4) hC dL_ofObjects_306 rfl (by decide) ?_
                refine v_icmp_ne (q := 419) (q2 := 310) hC dL_ofObjects_307 (by decide) rfl (fun c_307 => ?_) (fun c_307 => ?_)
                · exact absurd rfl c_307
                · refine v_iload (q := 312) hC dL_ofObjects_310 rfl rfl ?_
                  refine v_if_eq (q := 328) (q2 := 315) hC dL_ofObjects_312 (by decide) rfl (fun c_312 => ?_) (fun c_312 => ?_)
                  · refine v_iconst (q := 329) (v := 0) hC dL_ofObjects_328 rfl (by decide) ?_
                    refine v_istore (q := 331) hC dL_ofObjects_329 rfl (lvc rfl) (Nat.le_of_ble_eq_true rfl) (Nat.le_of_ble_eq_true rfl) rfl ?_
                    refine v_iload (q := 333) hC dL_ofObjects_331 rfl rfl ?_
                    refine v_if_eq (q := 359) (q2 := 336) hC dL_ofObjects_333 (by decide) rfl (fun c_333 => ?_) (fun c_333 => ?_)
                    · refine v_aload_n (i := 0) (q := 360) hC dL_ofObjects_359 rfl rfl rfl ?_
                      refine v_iload (q := 362) hC dL_ofObjects_360 rfl rfl ?_
                      refine v_iload (q := 364) hC dL_ofObjects_362 rfl rfl ?_
                      refine v_callR (q := 367) (rm := rm_L_moveOf) hC (vV) kh_L_moveOf ml_RL_356 dL_ofObjects_364 rfl rfl rfl (Nat.le_of_ble_eq_true rfl) ⟨Nat.le_of_ble_eq_true rfl, Nat.le_of_ble_eq_true rfl⟩ (c1 := 3) (s1 := 18) rfl rfl ⟨show _ + 3 ≤ 21 by omega, show _ + 18 ≤ 126 by omega⟩ (pQ_k (fun G_364 s_364 w_364 a_364 l_364 => ?_)) pQ_n
                      try dsimp only [Option.toList, List.cons_append, List.nil_append]
                      refine v_iload (q := 369) hC dL_ofObjects_367 rfl rfl ?_
                      refine v_if_eq (q := 377) (q2 := 372) hC dL_ofObjects_369 (by decide) rfl (fun c_369 => ?_) (fun c_369 => ?_)
                      · refine v_bipush (q := 379) (v := (-101)) hC dL_ofObjects_377 rfl (by decide) ?_
                        refine v_icmp_ne (q := 386) (q2 := 382) hC dL_ofObjects_379 (by decide) rfl (fun c_379 => ?_) (fun c_379 => ?_)
                        · exact absurd rfl c_379
                        · refine v_iconst (q := 383) (v := 1) hC dL_ofObjects_382 rfl (by decide) ?_
                          refine v_goto (q := 387) hC dL_ofObjects_383 (by decide) ?_
                          refine v_iret hC dL_ofObjects_387 hr (rfl) ?_ (show _ ≤ 21 by omega) (show _ ≤ 126 by omega)
                          exact fQ_mk s_364 w_364 a_364 l_364 hlv hLq
                      · exact absurd rfl c_369
                    · exact absurd rfl c_333
                  · exact absurd rfl c_312
              · exact absurd c_189 ne3
            · exact absurd (Int32.not_le.mp c_45) n3
      have ne4 : ¬ nI way = 4 := fun z => hw4 ((nI_eq (b := 4) (by omega) (by decide)).mp z)
      by_cases hw5 : way = 5
      · -- giveTo
        subst hw5
        by_cases hcan : G.2.1 0 30 (oA ob 0) = 1 ∧ us < mUs (G.2.1 0 30)
        · obtain ⟨hc1, hcu⟩ := hcan
          have cg : (mHold (G.2.1 0 30) (nI ob) && mIn (nI us) 0 (G.2.1 0 30 0 - 1)) = true := by
            rw [hh, hD.mU (by omega), decide_eq_true hc1, decide_eq_true hcu]; rfl
          rw [decide_eq_true hc1]
          have hq := hLq.fld hc hob hc1 (q := 2) (by decide) (nI us) (fun z => absurd z (by decide)) (fun z => absurd z (by decide))
          refine v_iload_n (i := 3) (q := 44) hC dL_ofObjects_43 rfl rfl rfl ?_
          refine v_iconst (q := 45) (v := 3) hC dL_ofObjects_44 rfl (by decide) ?_
          refine v_icmp_ge (q := 187) (q2 := 48) hC dL_ofObjects_45 (by decide) rfl (fun c_45 => ?_) (fun c_45 => ?_)
          · refine v_iload_n (i := 3) (q := 188) hC dL_ofObjects_187 rfl rfl rfl ?_
            refine v_iconst (q := 189) (v := 3) hC dL_ofObjects_188 rfl (by decide) ?_
            refine v_icmp_ne (q := 305) (q2 := 192) hC dL_ofObjects_189 (by decide) rfl (fun c_189 => ?_) (fun c_189 => ?_)
            · refine v_iload_n (i := 3) (q := 306) hC dL_ofObjects_305 rfl rfl rfl ?_
              refine v_iconst (q := 307) (v := 4) hC dL_ofObjects_306 rfl (by decide) ?_
              refine v_icmp_ne (q := 419) (q2 := 310) hC dL_ofObjects_307 (by decide) rfl (fun c_307 => ?_) (fun c_307 => ?_)
              · refine v_iload_n (i := 3) (q := 420) hC dL_ofObjects_419 rfl rfl rfl ?_
                refine v_iconst (q := 421) (v := 5) hC dL_ofObjects_420 rfl (by decide) ?_
                refine v_icmp_ne (q := 501) (q2 := 424) hC dL_ofObjects_421 (by decide) rfl (fun c_421 => ?_) (fun c_421 => ?_)
                · exact absurd rfl c_421
                · refine v_aload_n (i := 1) (q := 425) hC dL_ofObjects_424 rfl rfl rfl ?_
                  refine v_bipush (q := 427) (v := 10) hC dL_ofObjects_425 rfl (by decide) ?_
                  refine v_iload (q := 429) hC dL_ofObjects_427 rfl rfl ?_
                  refine v_iadd (q := 430) hC dL_ofObjects_429 rfl ?_
                  refine v_ialdV (q := 431) hC dL_ofObjects_430 rfl rfl rfl (i := 10 + ob) (nI_add 10 ob) (by first | decide | omega) (by decide) (hD.po hob hc1) ?_
                  refine v_istore (q := 433) hC dL_ofObjects_431 rfl (lvc rfl) (Nat.le_of_ble_eq_true rfl) (Nat.le_of_ble_eq_true rfl) rfl ?_
                  refine v_iload (q := 435) hC dL_ofObjects_433 rfl rfl ?_
                  refine v_if_eq (q := 450) (q2 := 438) hC dL_ofObjects_435 (by decide) rfl (fun c_435 => ?_) (fun c_435 => ?_)
                  · exact absurd c_435 (by decide)
                  · refine v_iload (q := 440) hC dL_ofObjects_438 rfl rfl ?_
                    refine v_aload_n (i := 2) (q := 441) hC dL_ofObjects_440 rfl rfl rfl ?_
                    refine v_iconst (q := 442) (v := 0) hC dL_ofObjects_441 rfl (by decide) ?_
                    refine v_ialdV (q := 443) hC dL_ofObjects_442 rfl rfl rfl (i := 0) (rfl) (by first | decide | omega) (by decide) (e0) ?_
                    refine v_icmp_ge (q := 450) (q2 := 446) hC dL_ofObjects_443 (by decide) rfl (fun c_443 => ?_) (fun c_443 => ?_)
                    · exact absurd c_443 (nI_ge hcu (by omega))
                    · refine v_iconst (q := 447) (v := 1) hC dL_ofObjects_446 rfl (by decide) ?_
                      refine v_goto (q := 451) hC dL_ofObjects_447 (by decide) ?_
                      refine v_istore (q := 453) hC dL_ofObjects_451 rfl (lvc rfl) (Nat.le_of_ble_eq_true rfl) (Nat.le_of_ble_eq_true rfl) rfl ?_
                      refine v_aload_n (i := 1) (q := 454) hC dL_ofObjects_453 rfl rfl rfl ?_
                      refine v_bipush (q := 456) (v := 10) hC dL_ofObjects_454 rfl (by decide) ?_
                      refine v_iload (q := 458) hC dL_ofObjects_456 rfl rfl ?_
                      refine v_iadd (q := 459) hC dL_ofObjects_458 rfl ?_
                      refine v_iload (q := 461) hC dL_ofObjects_459 rfl rfl ?_
                      refine v_if_eq (q := 469) (q2 := 464) hC dL_ofObjects_461 (by decide) rfl (fun c_461 => ?_) (fun c_461 => ?_)
                      · exact absurd c_461 (by decide)
                      · refine v_iload (q := 466) hC dL_ofObjects_464 rfl rfl ?_
                        refine v_goto (q := 471) hC dL_ofObjects_466 (by decide) ?_
                        refine v_iastN (q := 472) hC dL_ofObjects_471 rfl rfl (fun _ => rfl) (i := 10 + ob) (nI_add 10 ob) (by first | decide | omega | (unfold oA; omega) | (unfold enA; omega)) (by decide) ?_
                        refine v_aload_n (i := 0) (q := 473) hC dL_ofObjects_472 rfl rfl rfl ?_
                        refine v_iload (q := 475) hC dL_ofObjects_473 rfl rfl ?_
                        refine v_iload (q := 477) hC dL_ofObjects_475 rfl rfl ?_
                        refine v_callR (q := 480) (rm := rm_L_giveToOf) hC ((r_giveTo hl Θ (Nx.refl (Wp _)) ht (nI ob) (nI us)).p (v2 := G.2.1 0 30 (oA ob 2)) (w2 := upd (G.2.1 0 30) (oA ob 2) (nI us)) (by rw [eob]; exact if_pos cg) (by rw [eob]; exact if_pos cg)) kh_L_giveToOf ml_RL_359 dL_ofObjects_477 rfl rfl rfl (Nat.le_of_ble_eq_true rfl) ⟨Nat.le_of_ble_eq_true rfl, Nat.le_of_ble_eq_true rfl⟩ (c1 := 2) (s1 := 12) rfl rfl ⟨show _ + 2 ≤ 21 by omega, show _ + 12 ≤ 126 by omega⟩ (pQ_k (fun G_477 s_477 w_477 a_477 l_477 => ?_)) pQ_n
                        try dsimp only [Option.toList, List.cons_append, List.nil_append]
                        refine v_iload (q := 482) hC dL_ofObjects_480 rfl rfl ?_
                        refine v_if_eq (q := 490) (q2 := 485) hC dL_ofObjects_482 (by decide) rfl (fun c_482 => ?_) (fun c_482 => ?_)
                        · exact absurd c_482 (by decide)
                        · refine v_iload (q := 487) hC dL_ofObjects_485 rfl rfl ?_
                          refine v_goto (q := 492) hC dL_ofObjects_487 (by decide) ?_
                          refine v_icmp_ne (q := 499) (q2 := 495) hC dL_ofObjects_492 (by decide) rfl (fun c_492 => ?_) (fun c_492 => ?_)
                          · exact absurd rfl c_492
                          · refine v_iconst (q := 496) (v := 1) hC dL_ofObjects_495 rfl (by decide) ?_
                            refine v_goto (q := 500) hC dL_ofObjects_496 (by decide) ?_
                            refine v_iret hC dL_ofObjects_500 hr (rfl) ?_ (show _ ≤ 21 by omega) (show _ ≤ 126 by omega)
                            exact fQ_mk s_477 w_477 a_477 l_477 hlv hq
              · exact absurd c_307 ne4
            · exact absurd c_189 ne3
          · exact absurd (Int32.not_le.mp c_45) n3
        · have cg : ¬ (mHold (G.2.1 0 30) (nI ob) && mIn (nI us) 0 (G.2.1 0 30 0 - 1)) = true := by
            rw [hh, hD.mU (by omega)]
            intro z
            obtain ⟨z1, z2⟩ := Bool.and_eq_true_iff.mp z
            exact hcan ⟨of_decide_eq_true z1, of_decide_eq_true z2⟩
          have hq : LRq (G.2.1 0 30) (G.2.1 0 40) (upd (G.2.1 0 41) (10 + ob) (G.2.1 0 41 (10 + ob))) (G.2.1 0 42) (G.2.1 0 43) (G.2.1 0 44) := by
            rw [upd_same _ _ rfl]; exact hLq
          by_cases hc1 : G.2.1 0 30 (oA ob 0) = 1
          · rw [decide_eq_true hc1]
            have hcu : ¬ us < mUs (G.2.1 0 30) := fun z => hcan ⟨hc1, z⟩
            refine v_iload_n (i := 3) (q := 44) hC dL_ofObjects_43 rfl rfl rfl ?_
            refine v_iconst (q := 45) (v := 3) hC dL_ofObjects_44 rfl (by decide) ?_
            refine v_icmp_ge (q := 187) (q2 := 48) hC dL_ofObjects_45 (by decide) rfl (fun c_45 => ?_) (fun c_45 => ?_)
            · refine v_iload_n (i := 3) (q := 188) hC dL_ofObjects_187 rfl rfl rfl ?_
              refine v_iconst (q := 189) (v := 3) hC dL_ofObjects_188 rfl (by decide) ?_
              refine v_icmp_ne (q := 305) (q2 := 192) hC dL_ofObjects_189 (by decide) rfl (fun c_189 => ?_) (fun c_189 => ?_)
              · refine v_iload_n (i := 3) (q := 306) hC dL_ofObjects_305 rfl rfl rfl ?_
                refine v_iconst (q := 307) (v := 4) hC dL_ofObjects_306 rfl (by decide) ?_
                refine v_icmp_ne (q := 419) (q2 := 310) hC dL_ofObjects_307 (by decide) rfl (fun c_307 => ?_) (fun c_307 => ?_)
                · refine v_iload_n (i := 3) (q := 420) hC dL_ofObjects_419 rfl rfl rfl ?_
                  refine v_iconst (q := 421) (v := 5) hC dL_ofObjects_420 rfl (by decide) ?_
                  refine v_icmp_ne (q := 501) (q2 := 424) hC dL_ofObjects_421 (by decide) rfl (fun c_421 => ?_) (fun c_421 => ?_)
                  · exact absurd rfl c_421
                  · refine v_aload_n (i := 1) (q := 425) hC dL_ofObjects_424 rfl rfl rfl ?_
                    refine v_bipush (q := 427) (v := 10) hC dL_ofObjects_425 rfl (by decide) ?_
                    refine v_iload (q := 429) hC dL_ofObjects_427 rfl rfl ?_
                    refine v_iadd (q := 430) hC dL_ofObjects_429 rfl ?_
                    refine v_ialdV (q := 431) hC dL_ofObjects_430 rfl rfl rfl (i := 10 + ob) (nI_add 10 ob) (by first | decide | omega) (by decide) (rfl) ?_
                    refine v_istore (q := 433) hC dL_ofObjects_431 rfl (lvc rfl) (Nat.le_of_ble_eq_true rfl) (Nat.le_of_ble_eq_true rfl) rfl ?_
                    refine v_iload (q := 435) hC dL_ofObjects_433 rfl rfl ?_
                    refine v_if_eq (q := 450) (q2 := 438) hC dL_ofObjects_435 (by decide) rfl (fun c_435 => ?_) (fun c_435 => ?_)
                    · exact absurd c_435 (by decide)
                    · refine v_iload (q := 440) hC dL_ofObjects_438 rfl rfl ?_
                      refine v_aload_n (i := 2) (q := 441) hC dL_ofObjects_440 rfl rfl rfl ?_
                      refine v_iconst (q := 442) (v := 0) hC dL_ofObjects_441 rfl (by decide) ?_
                      refine v_ialdV (q := 443) hC dL_ofObjects_442 rfl rfl rfl (i := 0) (rfl) (by first | decide | omega) (by decide) (e0) ?_
                      refine v_icmp_ge (q := 450) (q2 := 446) hC dL_ofObjects_443 (by decide) rfl (fun c_443 => ?_) (fun c_443 => ?_)
                      · refine v_iconst (q := 451) (v := 0) hC dL_ofObjects_450 rfl (by decide) ?_
                        refine v_istore (q := 453) hC dL_ofObjects_451 rfl (lvc rfl) (Nat.le_of_ble_eq_true rfl) (Nat.le_of_ble_eq_true rfl) rfl ?_
                        refine v_aload_n (i := 1) (q := 454) hC dL_ofObjects_453 rfl rfl rfl ?_
                        refine v_bipush (q := 456) (v := 10) hC dL_ofObjects_454 rfl (by decide) ?_
                        refine v_iload (q := 458) hC dL_ofObjects_456 rfl rfl ?_
                        refine v_iadd (q := 459) hC dL_ofObjects_458 rfl ?_
                        refine v_iload (q := 461) hC dL_ofObjects_459 rfl rfl ?_
                        refine v_if_eq (q := 469) (q2 := 464) hC dL_ofObjects_461 (by decide) rfl (fun c_461 => ?_) (fun c_461 => ?_)
                        · refine v_iload (q := 471) hC dL_ofObjects_469 rfl rfl ?_
                          refine v_iastN (q := 472) hC dL_ofObjects_471 rfl rfl (fun _ => rfl) (i := 10 + ob) (nI_add 10 ob) (by first | decide | omega | (unfold oA; omega) | (unfold enA; omega)) (by decide) ?_
                          refine v_aload_n (i := 0) (q := 473) hC dL_ofObjects_472 rfl rfl rfl ?_
                          refine v_iload (q := 475) hC dL_ofObjects_473 rfl rfl ?_
                          refine v_iload (q := 477) hC dL_ofObjects_475 rfl rfl ?_
                          refine v_callR (q := 480) (rm := rm_L_giveToOf) hC ((r_giveTo hl Θ (Nx.refl (Wp _)) ht (nI ob) (nI us)).p (v2 := -101) (w2 := G.2.1 0 30) (if_neg cg) (if_neg cg)) kh_L_giveToOf ml_RL_359 dL_ofObjects_477 rfl rfl rfl (Nat.le_of_ble_eq_true rfl) ⟨Nat.le_of_ble_eq_true rfl, Nat.le_of_ble_eq_true rfl⟩ (c1 := 2) (s1 := 12) rfl rfl ⟨show _ + 2 ≤ 21 by omega, show _ + 12 ≤ 126 by omega⟩ (pQ_k (fun G_477 s_477 w_477 a_477 l_477 => ?_)) pQ_n
                          try dsimp only [Option.toList, List.cons_append, List.nil_append]
                          refine v_iload (q := 482) hC dL_ofObjects_480 rfl rfl ?_
                          refine v_if_eq (q := 490) (q2 := 485) hC dL_ofObjects_482 (by decide) rfl (fun c_482 => ?_) (fun c_482 => ?_)
                          · refine v_bipush (q := 492) (v := (-101)) hC dL_ofObjects_490 rfl (by decide) ?_
                            refine v_icmp_ne (q := 499) (q2 := 495) hC dL_ofObjects_492 (by decide) rfl (fun c_492 => ?_) (fun c_492 => ?_)
                            · exact absurd rfl c_492
                            · refine v_iconst (q := 496) (v := 1) hC dL_ofObjects_495 rfl (by decide) ?_
                              refine v_goto (q := 500) hC dL_ofObjects_496 (by decide) ?_
                              refine v_iret hC dL_ofObjects_500 hr (rfl) ?_ (show _ ≤ 21 by omega) (show _ ≤ 126 by omega)
                              exact fQ_mk s_477 w_477 a_477 l_477 hlv hq
                          · exact absurd rfl c_482
                        · exact absurd rfl c_461
                      · exact absurd (nI_le (by omega) (by omega)) c_443
                · exact absurd c_307 ne4
              · exact absurd c_189 ne3
            · exact absurd (Int32.not_le.mp c_45) n3
          · rw [decide_eq_false hc1]
            refine v_iload_n (i := 3) (q := 44) hC dL_ofObjects_43 rfl rfl rfl ?_
            refine v_iconst (q := 45) (v := 3) hC dL_ofObjects_44 rfl (by decide) ?_
            refine v_icmp_ge (q := 187) (q2 := 48) hC dL_ofObjects_45 (by decide) rfl (fun c_45 => ?_) (fun c_45 => ?_)
            · refine v_iload_n (i := 3) (q := 188) hC dL_ofObjects_187 rfl rfl rfl ?_
              refine v_iconst (q := 189) (v := 3) hC dL_ofObjects_188 rfl (by decide) ?_
              refine v_icmp_ne (q := 305) (q2 := 192) hC dL_ofObjects_189 (by decide) rfl (fun c_189 => ?_) (fun c_189 => ?_)
              · refine v_iload_n (i := 3) (q := 306) hC dL_ofObjects_305 rfl rfl rfl ?_
                refine v_iconst (q := 307) (v := 4) hC dL_ofObjects_306 rfl (by decide) ?_
                refine v_icmp_ne (q := 419) (q2 := 310) hC dL_ofObjects_307 (by decide) rfl (fun c_307 => ?_) (fun c_307 => ?_)
                · refine v_iload_n (i := 3) (q := 420) hC dL_ofObjects_419 rfl rfl rfl ?_
                  refine v_iconst (q := 421) (v := 5) hC dL_ofObjects_420 rfl (by decide) ?_
                  refine v_icmp_ne (q := 501) (q2 := 424) hC dL_ofObjects_421 (by decide) rfl (fun c_421 => ?_) (fun c_421 => ?_)
                  · exact absurd rfl c_421
                  · refine v_aload_n (i := 1) (q := 425) hC dL_ofObjects_424 rfl rfl rfl ?_
                    refine v_bipush (q := 427) (v := 10) hC dL_ofObjects_425 rfl (by decide) ?_
                    refine v_iload (q := 429) hC dL_ofObjects_427 rfl rfl ?_
                    refine v_iadd (q := 430) hC dL_ofObjects_429 rfl ?_
                    refine v_ialdV (q := 431) hC dL_ofObjects_430 rfl rfl rfl (i := 10 + ob) (nI_add 10 ob) (by first | decide | omega) (by decide) (rfl) ?_
                    refine v_istore (q := 433) hC dL_ofObjects_431 rfl (lvc rfl) (Nat.le_of_ble_eq_true rfl) (Nat.le_of_ble_eq_true rfl) rfl ?_
                    refine v_iload (q := 435) hC dL_ofObjects_433 rfl rfl ?_
                    refine v_if_eq (q := 450) (q2 := 438) hC dL_ofObjects_435 (by decide) rfl (fun c_435 => ?_) (fun c_435 => ?_)
                    · refine v_iconst (q := 451) (v := 0) hC dL_ofObjects_450 rfl (by decide) ?_
                      refine v_istore (q := 453) hC dL_ofObjects_451 rfl (lvc rfl) (Nat.le_of_ble_eq_true rfl) (Nat.le_of_ble_eq_true rfl) rfl ?_
                      refine v_aload_n (i := 1) (q := 454) hC dL_ofObjects_453 rfl rfl rfl ?_
                      refine v_bipush (q := 456) (v := 10) hC dL_ofObjects_454 rfl (by decide) ?_
                      refine v_iload (q := 458) hC dL_ofObjects_456 rfl rfl ?_
                      refine v_iadd (q := 459) hC dL_ofObjects_458 rfl ?_
                      refine v_iload (q := 461) hC dL_ofObjects_459 rfl rfl ?_
                      refine v_if_eq (q := 469) (q2 := 464) hC dL_ofObjects_461 (by decide) rfl (fun c_461 => ?_) (fun c_461 => ?_)
                      · refine v_iload (q := 471) hC dL_ofObjects_469 rfl rfl ?_
                        refine v_iastN (q := 472) hC dL_ofObjects_471 rfl rfl (fun _ => rfl) (i := 10 + ob) (nI_add 10 ob) (by first | decide | omega | (unfold oA; omega) | (unfold enA; omega)) (by decide) ?_
                        refine v_aload_n (i := 0) (q := 473) hC dL_ofObjects_472 rfl rfl rfl ?_
                        refine v_iload (q := 475) hC dL_ofObjects_473 rfl rfl ?_
                        refine v_iload (q := 477) hC dL_ofObjects_475 rfl rfl ?_
                        refine v_callR (q := 480) (rm := rm_L_giveToOf) hC ((r_giveTo hl Θ (Nx.refl (Wp _)) ht (nI ob) (nI us)).p (v2 := -101) (w2 := G.2.1 0 30) (if_neg cg) (if_neg cg)) kh_L_giveToOf ml_RL_359 dL_ofObjects_477 rfl rfl rfl (Nat.le_of_ble_eq_true rfl) ⟨Nat.le_of_ble_eq_true rfl, Nat.le_of_ble_eq_true rfl⟩ (c1 := 2) (s1 := 12) rfl rfl ⟨show _ + 2 ≤ 21 by omega, show _ + 12 ≤ 126 by omega⟩ (pQ_k (fun G_477 s_477 w_477 a_477 l_477 => ?_)) pQ_n
                        try dsimp only [Option.toList, List.cons_append, List.nil_append]
                        refine v_iload (q := 482) hC dL_ofObjects_480 rfl rfl ?_
                        refine v_if_eq (q := 490) (q2 := 485) hC dL_ofObjects_482 (by decide) rfl (fun c_482 => ?_) (fun c_482 => ?_)
                        · refine v_bipush (q := 492) (v := (-101)) hC dL_ofObjects_490 rfl (by decide) ?_
                          refine v_icmp_ne (q := 499) (q2 := 495) hC dL_ofObjects_492 (by decide) rfl (fun c_492 => ?_) (fun c_492 => ?_)
                          · exact absurd rfl c_492
                          · refine v_iconst (q := 496) (v := 1) hC dL_ofObjects_495 rfl (by decide) ?_
                            refine v_goto (q := 500) hC dL_ofObjects_496 (by decide) ?_
                            refine v_iret hC dL_ofObjects_500 hr (rfl) ?_ (show _ ≤ 21 by omega) (show _ ≤ 126 by omega)
                            exact fQ_mk s_477 w_477 a_477 l_477 hlv hq
                        · exact absurd rfl c_482
                      · exact absurd rfl c_461
                    · exact absurd rfl c_435
                · exact absurd c_307 ne4
              · exact absurd c_189 ne3
            · exact absurd (Int32.not_le.mp c_45) n3
      have ne5 : ¬ nI way = 5 := fun z => hw5 ((nI_eq (b := 5) (by omega) (by decide)).mp z)
      by_cases hw6 : way = 6
      · -- setMask
        subst hw6
        have d4 : nI y / 10 - nI y / 10 / 16 * 16 = nI (y / 10 % 16) := by
          rw [q10]; exact pk_rem (d := 16) (by omega) (by decide) (by decide)
        have hx : y / 10 % 16 < 16 := Nat.mod_lt _ (by decide)
        generalize y / 10 % 16 = x at d4 hx
        have c15 : mIn (nI x) 0 15 = true := by
          unfold mIn
          rw [decide_eq_true (nI_pos' (by omega)), decide_eq_true (show nI x ≤ 15 from nI_le (b := 15) (by omega) (by decide))]; rfl
        by_cases hc1 : G.2.1 0 30 (oA ob 0) = 1
        · have cg : mHold (G.2.1 0 30) (nI ob) = true := by rw [hh]; exact decide_eq_true hc1
          rw [decide_eq_true hc1]
          have hq := hLq.fld hc hob hc1 (q := 3) (by decide) (nI x) (fun z => absurd z (by decide)) (fun z => absurd z (by decide))
          refine v_iload_n (i := 3) (q := 44) hC dL_ofObjects_43 rfl rfl rfl ?_
          refine v_iconst (q := 45) (v := 3) hC dL_ofObjects_44 rfl (by decide) ?_
          refine v_icmp_ge (q := 187) (q2 := 48) hC dL_ofObjects_45 (by decide) rfl (fun c_45 => ?_) (fun c_45 => ?_)
          · refine v_iload_n (i := 3) (q := 188) hC dL_ofObjects_187 rfl rfl rfl ?_
            refine v_iconst (q := 189) (v := 3) hC dL_ofObjects_188 rfl (by decide) ?_
            refine v_icmp_ne (q := 305) (q2 := 192) hC dL_ofObjects_189 (by decide) rfl (fun c_189 => ?_) (fun c_189 => ?_)
            · refine v_iload_n (i := 3) (q := 306) hC dL_ofObjects_305 rfl rfl rfl ?_
              refine v_iconst (q := 307) (v := 4) hC dL_ofObjects_306 rfl (by decide) ?_
              refine v_icmp_ne (q := 419) (q2 := 310) hC dL_ofObjects_307 (by decide) rfl (fun c_307 => ?_) (fun c_307 => ?_)
              · refine v_iload_n (i := 3) (q := 420) hC dL_ofObjects_419 rfl rfl rfl ?_
                refine v_iconst (q := 421) (v := 5) hC dL_ofObjects_420 rfl (by decide) ?_
                refine v_icmp_ne (q := 501) (q2 := 424) hC dL_ofObjects_421 (by decide) rfl (fun c_421 => ?_) (fun c_421 => ?_)
                · refine v_iload_n (i := 3) (q := 502) hC dL_ofObjects_501 rfl rfl rfl ?_
                  refine v_bipush (q := 504) (v := 6) hC dL_ofObjects_502 rfl (by decide) ?_
                  refine v_icmp_ne (q := 566) (q2 := 507) hC dL_ofObjects_504 (by decide) rfl (fun c_504 => ?_) (fun c_504 => ?_)
                  · exact absurd rfl c_504
                  · refine v_aload_n (i := 1) (q := 508) hC dL_ofObjects_507 rfl rfl rfl ?_
                    refine v_bipush (q := 510) (v := 20) hC dL_ofObjects_508 rfl (by decide) ?_
                    refine v_iload (q := 512) hC dL_ofObjects_510 rfl rfl ?_
                    refine v_iadd (q := 513) hC dL_ofObjects_512 rfl ?_
                    refine v_ialdV (q := 514) hC dL_ofObjects_513 rfl rfl rfl (i := 20 + ob) (nI_add 20 ob) (by first | decide | omega) (by decide) (hD.pm hob hc1) ?_
                    refine v_istore (q := 516) hC dL_ofObjects_514 rfl (lvc rfl) (Nat.le_of_ble_eq_true rfl) (Nat.le_of_ble_eq_true rfl) rfl ?_
                    refine v_aload_n (i := 1) (q := 517) hC dL_ofObjects_516 rfl rfl rfl ?_
                    refine v_bipush (q := 519) (v := 20) hC dL_ofObjects_517 rfl (by decide) ?_
                    refine v_iload (q := 521) hC dL_ofObjects_519 rfl rfl ?_
                    refine v_iadd (q := 522) hC dL_ofObjects_521 rfl ?_
                    refine v_iload (q := 524) hC dL_ofObjects_522 rfl rfl ?_
                    refine v_bipush (q := 526) (v := 10) hC dL_ofObjects_524 rfl (by decide) ?_
                    refine v_idiv (q := 527) hC dL_ofObjects_526 rfl (by decide) ?_
                    refine v_bipush (q := 529) (v := 16) hC dL_ofObjects_527 rfl (by decide) ?_
                    refine v_irem (q := 530) hC dL_ofObjects_529 rfl (by decide) ?_
                    rw [d4]
                    refine v_iastN (q := 531) hC dL_ofObjects_530 rfl rfl (fun _ => rfl) (i := 20 + ob) (nI_add 20 ob) (by first | decide | omega | (unfold oA; omega) | (unfold enA; omega)) (by decide) ?_
                    refine v_aload_n (i := 0) (q := 532) hC dL_ofObjects_531 rfl rfl rfl ?_
                    refine v_iload (q := 534) hC dL_ofObjects_532 rfl rfl ?_
                    refine v_iload (q := 536) hC dL_ofObjects_534 rfl rfl ?_
                    refine v_bipush (q := 538) (v := 10) hC dL_ofObjects_536 rfl (by decide) ?_
                    refine v_idiv (q := 539) hC dL_ofObjects_538 rfl (by decide) ?_
                    refine v_bipush (q := 541) (v := 16) hC dL_ofObjects_539 rfl (by decide) ?_
                    refine v_irem (q := 542) hC dL_ofObjects_541 rfl (by decide) ?_
                    rw [d4]
                    refine v_callR (q := 545) (rm := rm_L_setMaskOf) hC ((r_setMask hl Θ (Nx.refl (Wp _)) ht (nI ob) (nI x)).p (v2 := G.2.1 0 30 (oA ob 3)) (w2 := upd (G.2.1 0 30) (oA ob 3) (nI x)) (by rw [eob]; exact (if_pos cg).trans (if_pos c15)) (by rw [eob]; exact (if_pos cg).trans (if_pos c15))) kh_L_setMaskOf ml_RL_362 dL_ofObjects_542 rfl rfl rfl (Nat.le_of_ble_eq_true rfl) ⟨Nat.le_of_ble_eq_true rfl, Nat.le_of_ble_eq_true rfl⟩ (c1 := 2) (s1 := 12) rfl rfl ⟨show _ + 2 ≤ 21 by omega, show _ + 12 ≤ 126 by omega⟩ (pQ_k (fun G_542 s_542 w_542 a_542 l_542 => ?_)) pQ_n
                    try dsimp only [Option.toList, List.cons_append, List.nil_append]
                    refine v_iload (q := 547) hC dL_ofObjects_545 rfl rfl ?_
                    refine v_if_eq (q := 555) (q2 := 550) hC dL_ofObjects_547 (by decide) rfl (fun c_547 => ?_) (fun c_547 => ?_)
                    · exact absurd c_547 (by decide)
                    · refine v_iload (q := 552) hC dL_ofObjects_550 rfl rfl ?_
                      refine v_goto (q := 557) hC dL_ofObjects_552 (by decide) ?_
                      refine v_icmp_ne (q := 564) (q2 := 560) hC dL_ofObjects_557 (by decide) rfl (fun c_557 => ?_) (fun c_557 => ?_)
                      · exact absurd rfl c_557
                      · refine v_iconst (q := 561) (v := 1) hC dL_ofObjects_560 rfl (by decide) ?_
                        refine v_goto (q := 565) hC dL_ofObjects_561 (by decide) ?_
                        refine v_iret hC dL_ofObjects_565 hr (rfl) ?_ (show _ ≤ 21 by omega) (show _ ≤ 126 by omega)
                        exact fQ_mk s_542 w_542 a_542 l_542 hlv hq
                · exact absurd c_421 ne5
              · exact absurd c_307 ne4
            · exact absurd c_189 ne3
          · exact absurd (Int32.not_le.mp c_45) n3
        · have cg : ¬ mHold (G.2.1 0 30) (nI ob) = true := by rw [hh, decide_eq_false hc1]; decide
          rw [decide_eq_false hc1]
          have hq := hLq.nofld hob hc1 (q := 3) (by decide) (nI x)
          refine v_iload_n (i := 3) (q := 44) hC dL_ofObjects_43 rfl rfl rfl ?_
          refine v_iconst (q := 45) (v := 3) hC dL_ofObjects_44 rfl (by decide) ?_
          refine v_icmp_ge (q := 187) (q2 := 48) hC dL_ofObjects_45 (by decide) rfl (fun c_45 => ?_) (fun c_45 => ?_)
          · refine v_iload_n (i := 3) (q := 188) hC dL_ofObjects_187 rfl rfl rfl ?_
            refine v_iconst (q := 189) (v := 3) hC dL_ofObjects_188 rfl (by decide) ?_
            refine v_icmp_ne (q := 305) (q2 := 192) hC dL_ofObjects_189 (by decide) rfl (fun c_189 => ?_) (fun c_189 => ?_)
            · refine v_iload_n (i := 3) (q := 306) hC dL_ofObjects_305 rfl rfl rfl ?_
              refine v_iconst (q := 307) (v := 4) hC dL_ofObjects_306 rfl (by decide) ?_
              refine v_icmp_ne (q := 419) (q2 := 310) hC dL_ofObjects_307 (by decide) rfl (fun c_307 => ?_) (fun c_307 => ?_)
              · refine v_iload_n (i := 3) (q := 420) hC dL_ofObjects_419 rfl rfl rfl ?_
                refine v_iconst (q := 421) (v := 5) hC dL_ofObjects_420 rfl (by decide) ?_
                refine v_icmp_ne (q := 501) (q2 := 424) hC dL_ofObjects_421 (by decide) rfl (fun c_421 => ?_) (fun c_421 => ?_)
                · refine v_iload_n (i := 3) (q := 502) hC dL_ofObjects_501 rfl rfl rfl ?_
                  refine v_bipush (q := 504) (v := 6) hC dL_ofObjects_502 rfl (by decide) ?_
                  refine v_icmp_ne (q := 566) (q2 := 507) hC dL_ofObjects_504 (by decide) rfl (fun c_504 => ?_) (fun c_504 => ?_)
                  · exact absurd rfl c_504
                  · refine v_aload_n (i := 1) (q := 508) hC dL_ofObjects_507 rfl rfl rfl ?_
                    refine v_bipush (q := 510) (v := 20) hC dL_ofObjects_508 rfl (by decide) ?_
                    refine v_iload (q := 512) hC dL_ofObjects_510 rfl rfl ?_
                    refine v_iadd (q := 513) hC dL_ofObjects_512 rfl ?_
                    refine v_ialdV (q := 514) hC dL_ofObjects_513 rfl rfl rfl (i := 20 + ob) (nI_add 20 ob) (by first | decide | omega) (by decide) (rfl) ?_
                    refine v_istore (q := 516) hC dL_ofObjects_514 rfl (lvc rfl) (Nat.le_of_ble_eq_true rfl) (Nat.le_of_ble_eq_true rfl) rfl ?_
                    refine v_aload_n (i := 1) (q := 517) hC dL_ofObjects_516 rfl rfl rfl ?_
                    refine v_bipush (q := 519) (v := 20) hC dL_ofObjects_517 rfl (by decide) ?_
                    refine v_iload (q := 521) hC dL_ofObjects_519 rfl rfl ?_
                    refine v_iadd (q := 522) hC dL_ofObjects_521 rfl ?_
                    refine v_iload (q := 524) hC dL_ofObjects_522 rfl rfl ?_
                    refine v_bipush (q := 526) (v := 10) hC dL_ofObjects_524 rfl (by decide) ?_
                    refine v_idiv (q := 527) hC dL_ofObjects_526 rfl (by decide) ?_
                    refine v_bipush (q := 529) (v := 16) hC dL_ofObjects_527 rfl (by decide) ?_
                    refine v_irem (q := 530) hC dL_ofObjects_529 rfl (by decide) ?_
                    rw [d4]
                    refine v_iastN (q := 531) hC dL_ofObjects_530 rfl rfl (fun _ => rfl) (i := 20 + ob) (nI_add 20 ob) (by first | decide | omega | (unfold oA; omega) | (unfold enA; omega)) (by decide) ?_
                    refine v_aload_n (i := 0) (q := 532) hC dL_ofObjects_531 rfl rfl rfl ?_
                    refine v_iload (q := 534) hC dL_ofObjects_532 rfl rfl ?_
                    refine v_iload (q := 536) hC dL_ofObjects_534 rfl rfl ?_
                    refine v_bipush (q := 538) (v := 10) hC dL_ofObjects_536 rfl (by decide) ?_
                    refine v_idiv (q := 539) hC dL_ofObjects_538 rfl (by decide) ?_
                    refine v_bipush (q := 541) (v := 16) hC dL_ofObjects_539 rfl (by decide) ?_
                    refine v_irem (q := 542) hC dL_ofObjects_541 rfl (by decide) ?_
                    rw [d4]
                    refine v_callR (q := 545) (rm := rm_L_setMaskOf) hC ((r_setMask hl Θ (Nx.refl (Wp _)) ht (nI ob) (nI x)).p (v2 := -101) (w2 := G.2.1 0 30) (if_neg cg) (if_neg cg)) kh_L_setMaskOf ml_RL_362 dL_ofObjects_542 rfl rfl rfl (Nat.le_of_ble_eq_true rfl) ⟨Nat.le_of_ble_eq_true rfl, Nat.le_of_ble_eq_true rfl⟩ (c1 := 2) (s1 := 12) rfl rfl ⟨show _ + 2 ≤ 21 by omega, show _ + 12 ≤ 126 by omega⟩ (pQ_k (fun G_542 s_542 w_542 a_542 l_542 => ?_)) pQ_n
                    try dsimp only [Option.toList, List.cons_append, List.nil_append]
                    refine v_iload (q := 547) hC dL_ofObjects_545 rfl rfl ?_
                    refine v_if_eq (q := 555) (q2 := 550) hC dL_ofObjects_547 (by decide) rfl (fun c_547 => ?_) (fun c_547 => ?_)
                    · refine v_bipush (q := 557) (v := (-101)) hC dL_ofObjects_555 rfl (by decide) ?_
                      refine v_icmp_ne (q := 564) (q2 := 560) hC dL_ofObjects_557 (by decide) rfl (fun c_557 => ?_) (fun c_557 => ?_)
                      · exact absurd rfl c_557
                      · refine v_iconst (q := 561) (v := 1) hC dL_ofObjects_560 rfl (by decide) ?_
                        refine v_goto (q := 565) hC dL_ofObjects_561 (by decide) ?_
                        refine v_iret hC dL_ofObjects_565 hr (rfl) ?_ (show _ ≤ 21 by omega) (show _ ≤ 126 by omega)
                        exact fQ_mk s_542 w_542 a_542 l_542 hlv hq
                    · exact absurd rfl c_547
                · exact absurd c_421 ne5
              · exact absurd c_307 ne4
            · exact absurd c_189 ne3
          · exact absurd (Int32.not_le.mp c_45) n3
      · -- setInheriting
        have ne6 : ¬ nI way = 6 := fun z => hw6 ((nI_eq (b := 6) (by omega) (by decide)).mp z)
        have d4 : nI y / 10 - nI y / 10 / 2 * 2 = nI (y / 10 % 2) := by
          rw [q10]; exact pk_rem (d := 2) (by omega) (by decide) (by decide)
        have hx : y / 10 % 2 < 2 := Nat.mod_lt _ (by decide)
        generalize y / 10 % 2 = x at d4 hx
        by_cases hc1 : G.2.1 0 30 (oA ob 0) = 1
        · have cg : mHold (G.2.1 0 30) (nI ob) = true := by rw [hh]; exact decide_eq_true hc1
          rw [decide_eq_true hc1]
          have hi4 := hI ob hob hc1
          have v4 : ∀ b : Bool, gZ (b2i (decide (G.2.1 0 30 (oA (nI ob).toNatClampNeg 4) = 1))) = G.2.1 0 30 (oA ob 4) := fun _ => by
            rw [gZ_b, eob]; rcases hi4 with h9 | h9 <;> rw [h9] <;> rfl
          have hq : ∀ b : Bool, nI x = b2i b → LRq (upd (G.2.1 0 30) (oA ob 4) (b2i b)) (G.2.1 0 40) (upd (G.2.1 0 41) (30 + ob) (nI x)) (G.2.1 0 42) (G.2.1 0 43) (G.2.1 0 44) := fun b hb => by
            rw [hb]
            exact hLq.fld hc hob hc1 (q := 4) (by decide) (b2i b) (fun z => absurd z (by decide)) (fun _ => by cases b <;> decide)
          rcases (show x = 0 ∨ x = 1 by omega) with hx0 | hx0
          · subst hx0
            refine v_iload_n (i := 3) (q := 44) hC dL_ofObjects_43 rfl rfl rfl ?_
            refine v_iconst (q := 45) (v := 3) hC dL_ofObjects_44 rfl (by decide) ?_
            refine v_icmp_ge (q := 187) (q2 := 48) hC dL_ofObjects_45 (by decide) rfl (fun c_45 => ?_) (fun c_45 => ?_)
            · refine v_iload_n (i := 3) (q := 188) hC dL_ofObjects_187 rfl rfl rfl ?_
              refine v_iconst (q := 189) (v := 3) hC dL_ofObjects_188 rfl (by decide) ?_
              refine v_icmp_ne (q := 305) (q2 := 192) hC dL_ofObjects_189 (by decide) rfl (fun c_189 => ?_) (fun c_189 => ?_)
              · refine v_iload_n (i := 3) (q := 306) hC dL_ofObjects_305 rfl rfl rfl ?_
                refine v_iconst (q := 307) (v := 4) hC dL_ofObjects_306 rfl (by decide) ?_
                refine v_icmp_ne (q := 419) (q2 := 310) hC dL_ofObjects_307 (by decide) rfl (fun c_307 => ?_) (fun c_307 => ?_)
                · refine v_iload_n (i := 3) (q := 420) hC dL_ofObjects_419 rfl rfl rfl ?_
                  refine v_iconst (q := 421) (v := 5) hC dL_ofObjects_420 rfl (by decide) ?_
                  refine v_icmp_ne (q := 501) (q2 := 424) hC dL_ofObjects_421 (by decide) rfl (fun c_421 => ?_) (fun c_421 => ?_)
                  · refine v_iload_n (i := 3) (q := 502) hC dL_ofObjects_501 rfl rfl rfl ?_
                    refine v_bipush (q := 504) (v := 6) hC dL_ofObjects_502 rfl (by decide) ?_
                    refine v_icmp_ne (q := 566) (q2 := 507) hC dL_ofObjects_504 (by decide) rfl (fun c_504 => ?_) (fun c_504 => ?_)
                    · refine v_aload_n (i := 1) (q := 567) hC dL_ofObjects_566 rfl rfl rfl ?_
                      refine v_bipush (q := 569) (v := 30) hC dL_ofObjects_567 rfl (by decide) ?_
                      refine v_iload (q := 571) hC dL_ofObjects_569 rfl rfl ?_
                      refine v_iadd (q := 572) hC dL_ofObjects_571 rfl ?_
                      refine v_ialdV (q := 573) hC dL_ofObjects_572 rfl rfl rfl (i := 30 + ob) (nI_add 30 ob) (by first | decide | omega) (by decide) (hD.pi hob hc1) ?_
                      refine v_istore (q := 575) hC dL_ofObjects_573 rfl (lvc rfl) (Nat.le_of_ble_eq_true rfl) (Nat.le_of_ble_eq_true rfl) rfl ?_
                      refine v_aload_n (i := 1) (q := 576) hC dL_ofObjects_575 rfl rfl rfl ?_
                      refine v_bipush (q := 578) (v := 30) hC dL_ofObjects_576 rfl (by decide) ?_
                      refine v_iload (q := 580) hC dL_ofObjects_578 rfl rfl ?_
                      refine v_iadd (q := 581) hC dL_ofObjects_580 rfl ?_
                      refine v_iload (q := 583) hC dL_ofObjects_581 rfl rfl ?_
                      refine v_bipush (q := 585) (v := 10) hC dL_ofObjects_583 rfl (by decide) ?_
                      refine v_idiv (q := 586) hC dL_ofObjects_585 rfl (by decide) ?_
                      refine v_iconst (q := 587) (v := 2) hC dL_ofObjects_586 rfl (by decide) ?_
                      refine v_irem (q := 588) hC dL_ofObjects_587 rfl (by decide) ?_
                      rw [d4]
                      refine v_iastN (q := 589) hC dL_ofObjects_588 rfl rfl (fun _ => rfl) (i := 30 + ob) (nI_add 30 ob) (by first | decide | omega | (unfold oA; omega) | (unfold enA; omega)) (by decide) ?_
                      refine v_aload_n (i := 0) (q := 590) hC dL_ofObjects_589 rfl rfl rfl ?_
                      refine v_iload (q := 592) hC dL_ofObjects_590 rfl rfl ?_
                      refine v_iload (q := 594) hC dL_ofObjects_592 rfl rfl ?_
                      refine v_bipush (q := 596) (v := 10) hC dL_ofObjects_594 rfl (by decide) ?_
                      refine v_idiv (q := 597) hC dL_ofObjects_596 rfl (by decide) ?_
                      refine v_iconst (q := 598) (v := 2) hC dL_ofObjects_597 rfl (by decide) ?_
                      refine v_irem (q := 599) hC dL_ofObjects_598 rfl (by decide) ?_
                      rw [d4]
                      refine v_iconst (q := 600) (v := 1) hC dL_ofObjects_599 rfl (by decide) ?_
                      refine v_icmp_ne (q := 607) (q2 := 603) hC dL_ofObjects_600 (by decide) rfl (fun c_600 => ?_) (fun c_600 => ?_)
                      · refine v_iconst (q := 608) (v := 0) hC dL_ofObjects_607 rfl (by decide) ?_
                        refine v_callR (q := 611) (rm := rm_L_setInheritingOf) hC ((r_setInheriting hl Θ (Nx.refl (Wp _)) ht (nI ob) false).p (v2 := G.2.1 0 30 (oA ob 4)) (w2 := upd (G.2.1 0 30) (oA ob 4) (b2i false)) ((if_pos cg).trans (v4 true)) ((if_pos cg).trans (by rw [eob]; rfl))) kh_L_setInheritingOf ml_RL_365 dL_ofObjects_608 rfl rfl rfl (Nat.le_of_ble_eq_true rfl) ⟨Nat.le_of_ble_eq_true rfl, Nat.le_of_ble_eq_true rfl⟩ (c1 := 1) (s1 := 6) rfl rfl ⟨show _ + 1 ≤ 21 by omega, show _ + 6 ≤ 126 by omega⟩ (pQ_k (fun G_608 s_608 w_608 a_608 l_608 => ?_)) pQ_n
                        try dsimp only [Option.toList, List.cons_append, List.nil_append]
                        refine v_iload (q := 613) hC dL_ofObjects_611 rfl rfl ?_
                        refine v_if_eq (q := 621) (q2 := 616) hC dL_ofObjects_613 (by decide) rfl (fun c_613 => ?_) (fun c_613 => ?_)
                        · exact absurd c_613 (by decide)
                        · refine v_iload (q := 618) hC dL_ofObjects_616 rfl rfl ?_
                          refine v_goto (q := 623) hC dL_ofObjects_618 (by decide) ?_
                          refine v_icmp_ne (q := 630) (q2 := 626) hC dL_ofObjects_623 (by decide) rfl (fun c_623 => ?_) (fun c_623 => ?_)
                          · exact absurd rfl c_623
                          · refine v_iconst (q := 627) (v := 1) hC dL_ofObjects_626 rfl (by decide) ?_
                            refine v_goto (q := 631) hC dL_ofObjects_627 (by decide) ?_
                            refine v_iret hC dL_ofObjects_631 hr (rfl) ?_ (show _ ≤ 21 by omega) (show _ ≤ 126 by omega)
                            exact fQ_mk s_608 w_608 a_608 l_608 hlv (hq false rfl)
                      · exact absurd c_600 (by decide)
                    · exact absurd c_504 ne6
                  · exact absurd c_421 ne5
                · exact absurd c_307 ne4
              · exact absurd c_189 ne3
            · exact absurd (Int32.not_le.mp c_45) n3
          · subst hx0
            refine v_iload_n (i := 3) (q := 44) hC dL_ofObjects_43 rfl rfl rfl ?_
            refine v_iconst (q := 45) (v := 3) hC dL_ofObjects_44 rfl (by decide) ?_
            refine v_icmp_ge (q := 187) (q2 := 48) hC dL_ofObjects_45 (by decide) rfl (fun c_45 => ?_) (fun c_45 => ?_)
            · refine v_iload_n (i := 3) (q := 188) hC dL_ofObjects_187 rfl rfl rfl ?_
              refine v_iconst (q := 189) (v := 3) hC dL_ofObjects_188 rfl (by decide) ?_
              refine v_icmp_ne (q := 305) (q2 := 192) hC dL_ofObjects_189 (by decide) rfl (fun c_189 => ?_) (fun c_189 => ?_)
              · refine v_iload_n (i := 3) (q := 306) hC dL_ofObjects_305 rfl rfl rfl ?_
                refine v_iconst (q := 307) (v := 4) hC dL_ofObjects_306 rfl (by decide) ?_
                refine v_icmp_ne (q := 419) (q2 := 310) hC dL_ofObjects_307 (by decide) rfl (fun c_307 => ?_) (fun c_307 => ?_)
                · refine v_iload_n (i := 3) (q := 420) hC dL_ofObjects_419 rfl rfl rfl ?_
                  refine v_iconst (q := 421) (v := 5) hC dL_ofObjects_420 rfl (by decide) ?_
                  refine v_icmp_ne (q := 501) (q2 := 424) hC dL_ofObjects_421 (by decide) rfl (fun c_421 => ?_) (fun c_421 => ?_)
                  · refine v_iload_n (i := 3) (q := 502) hC dL_ofObjects_501 rfl rfl rfl ?_
                    refine v_bipush (q := 504) (v := 6) hC dL_ofObjects_502 rfl (by decide) ?_
                    refine v_icmp_ne (q := 566) (q2 := 507) hC dL_ofObjects_504 (by decide) rfl (fun c_504 => ?_) (fun c_504 => ?_)
                    · refine v_aload_n (i := 1) (q := 567) hC dL_ofObjects_566 rfl rfl rfl ?_
                      refine v_bipush (q := 569) (v := 30) hC dL_ofObjects_567 rfl (by decide) ?_
                      refine v_iload (q := 571) hC dL_ofObjects_569 rfl rfl ?_
                      refine v_iadd (q := 572) hC dL_ofObjects_571 rfl ?_
                      refine v_ialdV (q := 573) hC dL_ofObjects_572 rfl rfl rfl (i := 30 + ob) (nI_add 30 ob) (by first | decide | omega) (by decide) (hD.pi hob hc1) ?_
                      refine v_istore (q := 575) hC dL_ofObjects_573 rfl (lvc rfl) (Nat.le_of_ble_eq_true rfl) (Nat.le_of_ble_eq_true rfl) rfl ?_
                      refine v_aload_n (i := 1) (q := 576) hC dL_ofObjects_575 rfl rfl rfl ?_
                      refine v_bipush (q := 578) (v := 30) hC dL_ofObjects_576 rfl (by decide) ?_
                      refine v_iload (q := 580) hC dL_ofObjects_578 rfl rfl ?_
                      refine v_iadd (q := 581) hC dL_ofObjects_580 rfl ?_
                      refine v_iload (q := 583) hC dL_ofObjects_581 rfl rfl ?_
                      refine v_bipush (q := 585) (v := 10) hC dL_ofObjects_583 rfl (by decide) ?_
                      refine v_idiv (q := 586) hC dL_ofObjects_585 rfl (by decide) ?_
                      refine v_iconst (q := 587) (v := 2) hC dL_ofObjects_586 rfl (by decide) ?_
                      refine v_irem (q := 588) hC dL_ofObjects_587 rfl (by decide) ?_
                      rw [d4]
                      refine v_iastN (q := 589) hC dL_ofObjects_588 rfl rfl (fun _ => rfl) (i := 30 + ob) (nI_add 30 ob) (by first | decide | omega | (unfold oA; omega) | (unfold enA; omega)) (by decide) ?_
                      refine v_aload_n (i := 0) (q := 590) hC dL_ofObjects_589 rfl rfl rfl ?_
                      refine v_iload (q := 592) hC dL_ofObjects_590 rfl rfl ?_
                      refine v_iload (q := 594) hC dL_ofObjects_592 rfl rfl ?_
                      refine v_bipush (q := 596) (v := 10) hC dL_ofObjects_594 rfl (by decide) ?_
                      refine v_idiv (q := 597) hC dL_ofObjects_596 rfl (by decide) ?_
                      refine v_iconst (q := 598) (v := 2) hC dL_ofObjects_597 rfl (by decide) ?_
                      refine v_irem (q := 599) hC dL_ofObjects_598 rfl (by decide) ?_
                      rw [d4]
                      refine v_iconst (q := 600) (v := 1) hC dL_ofObjects_599 rfl (by decide) ?_
                      refine v_icmp_ne (q := 607) (q2 := 603) hC dL_ofObjects_600 (by decide) rfl (fun c_600 => ?_) (fun c_600 => ?_)
                      · exact absurd rfl c_600
                      · refine v_iconst (q := 604) (v := 1) hC dL_ofObjects_603 rfl (by decide) ?_
                        refine v_goto (q := 608) hC dL_ofObjects_604 (by decide) ?_
                        refine v_callR (q := 611) (rm := rm_L_setInheritingOf) hC ((r_setInheriting hl Θ (Nx.refl (Wp _)) ht (nI ob) true).p (v2 := G.2.1 0 30 (oA ob 4)) (w2 := upd (G.2.1 0 30) (oA ob 4) (b2i true)) ((if_pos cg).trans (v4 true)) ((if_pos cg).trans (by rw [eob]; rfl))) kh_L_setInheritingOf ml_RL_365 dL_ofObjects_608 rfl rfl rfl (Nat.le_of_ble_eq_true rfl) ⟨Nat.le_of_ble_eq_true rfl, Nat.le_of_ble_eq_true rfl⟩ (c1 := 1) (s1 := 6) rfl rfl ⟨show _ + 1 ≤ 21 by omega, show _ + 6 ≤ 126 by omega⟩ (pQ_k (fun G_608 s_608 w_608 a_608 l_608 => ?_)) pQ_n
                        try dsimp only [Option.toList, List.cons_append, List.nil_append]
                        refine v_iload (q := 613) hC dL_ofObjects_611 rfl rfl ?_
                        refine v_if_eq (q := 621) (q2 := 616) hC dL_ofObjects_613 (by decide) rfl (fun c_613 => ?_) (fun c_613 => ?_)
                        · exact absurd c_613 (by decide)
                        · refine v_iload (q := 618) hC dL_ofObjects_616 rfl rfl ?_
                          refine v_goto (q := 623) hC dL_ofObjects_618 (by decide) ?_
                          refine v_icmp_ne (q := 630) (q2 := 626) hC dL_ofObjects_623 (by decide) rfl (fun c_623 => ?_) (fun c_623 => ?_)
                          · exact absurd rfl c_623
                          · refine v_iconst (q := 627) (v := 1) hC dL_ofObjects_626 rfl (by decide) ?_
                            refine v_goto (q := 631) hC dL_ofObjects_627 (by decide) ?_
                            refine v_iret hC dL_ofObjects_631 hr (rfl) ?_ (show _ ≤ 21 by omega) (show _ ≤ 126 by omega)
                            exact fQ_mk s_608 w_608 a_608 l_608 hlv (hq true rfl)
                    · exact absurd c_504 ne6
                  · exact absurd c_421 ne5
                · exact absurd c_307 ne4
              · exact absurd c_189 ne3
            · exact absurd (Int32.not_le.mp c_45) n3
        · have cg : ¬ mHold (G.2.1 0 30) (nI ob) = true := by rw [hh, decide_eq_false hc1]; decide
          rw [decide_eq_false hc1]
          have hq := hLq.nofld hob hc1 (q := 4) (by decide) (nI x)
          rcases (show x = 0 ∨ x = 1 by omega) with hx0 | hx0
          · subst hx0
            refine v_iload_n (i := 3) (q := 44) hC dL_ofObjects_43 rfl rfl rfl ?_
            refine v_iconst (q := 45) (v := 3) hC dL_ofObjects_44 rfl (by decide) ?_
            refine v_icmp_ge (q := 187) (q2 := 48) hC dL_ofObjects_45 (by decide) rfl (fun c_45 => ?_) (fun c_45 => ?_)
            · refine v_iload_n (i := 3) (q := 188) hC dL_ofObjects_187 rfl rfl rfl ?_
              refine v_iconst (q := 189) (v := 3) hC dL_ofObjects_188 rfl (by decide) ?_
              refine v_icmp_ne (q := 305) (q2 := 192) hC dL_ofObjects_189 (by decide) rfl (fun c_189 => ?_) (fun c_189 => ?_)
              · refine v_iload_n (i := 3) (q := 306) hC dL_ofObjects_305 rfl rfl rfl ?_
                refine v_iconst (q := 307) (v := 4) hC dL_ofObjects_306 rfl (by decide) ?_
                refine v_icmp_ne (q := 419) (q2 := 310) hC dL_ofObjects_307 (by decide) rfl (fun c_307 => ?_) (fun c_307 => ?_)
                · refine v_iload_n (i := 3) (q := 420) hC dL_ofObjects_419 rfl rfl rfl ?_
                  refine v_iconst (q := 421) (v := 5) hC dL_ofObjects_420 rfl (by decide) ?_
                  refine v_icmp_ne (q := 501) (q2 := 424) hC dL_ofObjects_421 (by decide) rfl (fun c_421 => ?_) (fun c_421 => ?_)
                  · refine v_iload_n (i := 3) (q := 502) hC dL_ofObjects_501 rfl rfl rfl ?_
                    refine v_bipush (q := 504) (v := 6) hC dL_ofObjects_502 rfl (by decide) ?_
                    refine v_icmp_ne (q := 566) (q2 := 507) hC dL_ofObjects_504 (by decide) rfl (fun c_504 => ?_) (fun c_504 => ?_)
                    · refine v_aload_n (i := 1) (q := 567) hC dL_ofObjects_566 rfl rfl rfl ?_
                      refine v_bipush (q := 569) (v := 30) hC dL_ofObjects_567 rfl (by decide) ?_
                      refine v_iload (q := 571) hC dL_ofObjects_569 rfl rfl ?_
                      refine v_iadd (q := 572) hC dL_ofObjects_571 rfl ?_
                      refine v_ialdV (q := 573) hC dL_ofObjects_572 rfl rfl rfl (i := 30 + ob) (nI_add 30 ob) (by first | decide | omega) (by decide) (rfl) ?_
                      refine v_istore (q := 575) hC dL_ofObjects_573 rfl (lvc rfl) (Nat.le_of_ble_eq_true rfl) (Nat.le_of_ble_eq_true rfl) rfl ?_
                      refine v_aload_n (i := 1) (q := 576) hC dL_ofObjects_575 rfl rfl rfl ?_
                      refine v_bipush (q := 578) (v := 30) hC dL_ofObjects_576 rfl (by decide) ?_
                      refine v_iload (q := 580) hC dL_ofObjects_578 rfl rfl ?_
                      refine v_iadd (q := 581) hC dL_ofObjects_580 rfl ?_
                      refine v_iload (q := 583) hC dL_ofObjects_581 rfl rfl ?_
                      refine v_bipush (q := 585) (v := 10) hC dL_ofObjects_583 rfl (by decide) ?_
                      refine v_idiv (q := 586) hC dL_ofObjects_585 rfl (by decide) ?_
                      refine v_iconst (q := 587) (v := 2) hC dL_ofObjects_586 rfl (by decide) ?_
                      refine v_irem (q := 588) hC dL_ofObjects_587 rfl (by decide) ?_
                      rw [d4]
                      refine v_iastN (q := 589) hC dL_ofObjects_588 rfl rfl (fun _ => rfl) (i := 30 + ob) (nI_add 30 ob) (by first | decide | omega | (unfold oA; omega) | (unfold enA; omega)) (by decide) ?_
                      refine v_aload_n (i := 0) (q := 590) hC dL_ofObjects_589 rfl rfl rfl ?_
                      refine v_iload (q := 592) hC dL_ofObjects_590 rfl rfl ?_
                      refine v_iload (q := 594) hC dL_ofObjects_592 rfl rfl ?_
                      refine v_bipush (q := 596) (v := 10) hC dL_ofObjects_594 rfl (by decide) ?_
                      refine v_idiv (q := 597) hC dL_ofObjects_596 rfl (by decide) ?_
                      refine v_iconst (q := 598) (v := 2) hC dL_ofObjects_597 rfl (by decide) ?_
                      refine v_irem (q := 599) hC dL_ofObjects_598 rfl (by decide) ?_
                      rw [d4]
                      refine v_iconst (q := 600) (v := 1) hC dL_ofObjects_599 rfl (by decide) ?_
                      refine v_icmp_ne (q := 607) (q2 := 603) hC dL_ofObjects_600 (by decide) rfl (fun c_600 => ?_) (fun c_600 => ?_)
                      · refine v_iconst (q := 608) (v := 0) hC dL_ofObjects_607 rfl (by decide) ?_
                        refine v_callR (q := 611) (rm := rm_L_setInheritingOf) hC ((r_setInheriting hl Θ (Nx.refl (Wp _)) ht (nI ob) false).p (v2 := -101) (w2 := G.2.1 0 30) (if_neg cg) (if_neg cg)) kh_L_setInheritingOf ml_RL_365 dL_ofObjects_608 rfl rfl rfl (Nat.le_of_ble_eq_true rfl) ⟨Nat.le_of_ble_eq_true rfl, Nat.le_of_ble_eq_true rfl⟩ (c1 := 1) (s1 := 6) rfl rfl ⟨show _ + 1 ≤ 21 by omega, show _ + 6 ≤ 126 by omega⟩ (pQ_k (fun G_608 s_608 w_608 a_608 l_608 => ?_)) pQ_n
                        try dsimp only [Option.toList, List.cons_append, List.nil_append]
                        refine v_iload (q := 613) hC dL_ofObjects_611 rfl rfl ?_
                        refine v_if_eq (q := 621) (q2 := 616) hC dL_ofObjects_613 (by decide) rfl (fun c_613 => ?_) (fun c_613 => ?_)
                        · refine v_bipush (q := 623) (v := (-101)) hC dL_ofObjects_621 rfl (by decide) ?_
                          refine v_icmp_ne (q := 630) (q2 := 626) hC dL_ofObjects_623 (by decide) rfl (fun c_623 => ?_) (fun c_623 => ?_)
                          · exact absurd rfl c_623
                          · refine v_iconst (q := 627) (v := 1) hC dL_ofObjects_626 rfl (by decide) ?_
                            refine v_goto (q := 631) hC dL_ofObjects_627 (by decide) ?_
                            refine v_iret hC dL_ofObjects_631 hr (rfl) ?_ (show _ ≤ 21 by omega) (show _ ≤ 126 by omega)
                            exact fQ_mk s_608 w_608 a_608 l_608 hlv hq
                        · exact absurd rfl c_613
                      · exact absurd c_600 (by decide)
                    · exact absurd c_504 ne6
                  · exact absurd c_421 ne5
                · exact absurd c_307 ne4
              · exact absurd c_189 ne3
            · exact absurd (Int32.not_le.mp c_45) n3
          · subst hx0
            refine v_iload_n (i := 3) (q := 44) hC dL_ofObjects_43 rfl rfl rfl ?_
            refine v_iconst (q := 45) (v := 3) hC dL_ofObjects_44 rfl (by decide) ?_
            refine v_icmp_ge (q := 187) (q2 := 48) hC dL_ofObjects_45 (by decide) rfl (fun c_45 => ?_) (fun c_45 => ?_)
            · refine v_iload_n (i := 3) (q := 188) hC dL_ofObjects_187 rfl rfl rfl ?_
              refine v_iconst (q := 189) (v := 3) hC dL_ofObjects_188 rfl (by decide) ?_
              refine v_icmp_ne (q := 305) (q2 := 192) hC dL_ofObjects_189 (by decide) rfl (fun c_189 => ?_) (fun c_189 => ?_)
              · refine v_iload_n (i := 3) (q := 306) hC dL_ofObjects_305 rfl rfl rfl ?_
                refine v_iconst (q := 307) (v := 4) hC dL_ofObjects_306 rfl (by decide) ?_
                refine v_icmp_ne (q := 419) (q2 := 310) hC dL_ofObjects_307 (by decide) rfl (fun c_307 => ?_) (fun c_307 => ?_)
                · refine v_iload_n (i := 3) (q := 420) hC dL_ofObjects_419 rfl rfl rfl ?_
                  refine v_iconst (q := 421) (v := 5) hC dL_ofObjects_420 rfl (by decide) ?_
                  refine v_icmp_ne (q := 501) (q2 := 424) hC dL_ofObjects_421 (by decide) rfl (fun c_421 => ?_) (fun c_421 => ?_)
                  · refine v_iload_n (i := 3) (q := 502) hC dL_ofObjects_501 rfl rfl rfl ?_
                    refine v_bipush (q := 504) (v := 6) hC dL_ofObjects_502 rfl (by decide) ?_
                    refine v_icmp_ne (q := 566) (q2 := 507) hC dL_ofObjects_504 (by decide) rfl (fun c_504 => ?_) (fun c_504 => ?_)
                    · refine v_aload_n (i := 1) (q := 567) hC dL_ofObjects_566 rfl rfl rfl ?_
                      refine v_bipush (q := 569) (v := 30) hC dL_ofObjects_567 rfl (by decide) ?_
                      refine v_iload (q := 571) hC dL_ofObjects_569 rfl rfl ?_
                      refine v_iadd (q := 572) hC dL_ofObjects_571 rfl ?_
                      refine v_ialdV (q := 573) hC dL_ofObjects_572 rfl rfl rfl (i := 30 + ob) (nI_add 30 ob) (by first | decide | omega) (by decide) (rfl) ?_
                      refine v_istore (q := 575) hC dL_ofObjects_573 rfl (lvc rfl) (Nat.le_of_ble_eq_true rfl) (Nat.le_of_ble_eq_true rfl) rfl ?_
                      refine v_aload_n (i := 1) (q := 576) hC dL_ofObjects_575 rfl rfl rfl ?_
                      refine v_bipush (q := 578) (v := 30) hC dL_ofObjects_576 rfl (by decide) ?_
                      refine v_iload (q := 580) hC dL_ofObjects_578 rfl rfl ?_
                      refine v_iadd (q := 581) hC dL_ofObjects_580 rfl ?_
                      refine v_iload (q := 583) hC dL_ofObjects_581 rfl rfl ?_
                      refine v_bipush (q := 585) (v := 10) hC dL_ofObjects_583 rfl (by decide) ?_
                      refine v_idiv (q := 586) hC dL_ofObjects_585 rfl (by decide) ?_
                      refine v_iconst (q := 587) (v := 2) hC dL_ofObjects_586 rfl (by decide) ?_
                      refine v_irem (q := 588) hC dL_ofObjects_587 rfl (by decide) ?_
                      rw [d4]
                      refine v_iastN (q := 589) hC dL_ofObjects_588 rfl rfl (fun _ => rfl) (i := 30 + ob) (nI_add 30 ob) (by first | decide | omega | (unfold oA; omega) | (unfold enA; omega)) (by decide) ?_
                      refine v_aload_n (i := 0) (q := 590) hC dL_ofObjects_589 rfl rfl rfl ?_
                      refine v_iload (q := 592) hC dL_ofObjects_590 rfl rfl ?_
                      refine v_iload (q := 594) hC dL_ofObjects_592 rfl rfl ?_
                      refine v_bipush (q := 596) (v := 10) hC dL_ofObjects_594 rfl (by decide) ?_
                      refine v_idiv (q := 597) hC dL_ofObjects_596 rfl (by decide) ?_
                      refine v_iconst (q := 598) (v := 2) hC dL_ofObjects_597 rfl (by decide) ?_
                      refine v_irem (q := 599) hC dL_ofObjects_598 rfl (by decide) ?_
                      rw [d4]
                      refine v_iconst (q := 600) (v := 1) hC dL_ofObjects_599 rfl (by decide) ?_
                      refine v_icmp_ne (q := 607) (q2 := 603) hC dL_ofObjects_600 (by decide) rfl (fun c_600 => ?_) (fun c_600 => ?_)
                      · exact absurd rfl c_600
                      · refine v_iconst (q := 604) (v := 1) hC dL_ofObjects_603 rfl (by decide) ?_
                        refine v_goto (q := 608) hC dL_ofObjects_604 (by decide) ?_
                        refine v_callR (q := 611) (rm := rm_L_setInheritingOf) hC ((r_setInheriting hl Θ (Nx.refl (Wp _)) ht (nI ob) true).p (v2 := -101) (w2 := G.2.1 0 30) (if_neg cg) (if_neg cg)) kh_L_setInheritingOf ml_RL_365 dL_ofObjects_608 rfl rfl rfl (Nat.le_of_ble_eq_true rfl) ⟨Nat.le_of_ble_eq_true rfl, Nat.le_of_ble_eq_true rfl⟩ (c1 := 1) (s1 := 6) rfl rfl ⟨show _ + 1 ≤ 21 by omega, show _ + 6 ≤ 126 by omega⟩ (pQ_k (fun G_608 s_608 w_608 a_608 l_608 => ?_)) pQ_n
                        try dsimp only [Option.toList, List.cons_append, List.nil_append]
                        refine v_iload (q := 613) hC dL_ofObjects_611 rfl rfl ?_
                        refine v_if_eq (q := 621) (q2 := 616) hC dL_ofObjects_613 (by decide) rfl (fun c_613 => ?_) (fun c_613 => ?_)
                        · refine v_bipush (q := 623) (v := (-101)) hC dL_ofObjects_621 rfl (by decide) ?_
                          refine v_icmp_ne (q := 630) (q2 := 626) hC dL_ofObjects_623 (by decide) rfl (fun c_623 => ?_) (fun c_623 => ?_)
                          · exact absurd rfl c_623
                          · refine v_iconst (q := 627) (v := 1) hC dL_ofObjects_626 rfl (by decide) ?_
                            refine v_goto (q := 631) hC dL_ofObjects_627 (by decide) ?_
                            refine v_iret hC dL_ofObjects_631 hr (rfl) ?_ (show _ ≤ 21 by omega) (show _ ≤ 126 by omega)
                            exact fQ_mk s_608 w_608 a_608 l_608 hlv hq
                        · exact absurd rfl c_613
                    · exact absurd c_504 ne6
                  · exact absurd c_421 ne5
                · exact absurd c_307 ne4
              · exact absurd c_189 ne3
            · exact absurd (Int32.not_le.mp c_45) n3
    by_cases hc1 : G.2.1 0 30 (oA ob 0) = 1
    · refine v_aload_n (i := 1) (q := 28) hC dL_ofObjects_27 rfl rfl rfl ?_
      refine v_iload (q := 30) hC dL_ofObjects_28 rfl rfl ?_
      refine v_ialdV (q := 31) hC dL_ofObjects_30 rfl rfl rfl (i := ob) (rfl) (by first | decide | omega) (by decide) (rfl) ?_
      refine v_bipush (q := 33) (v := (-2)) hC dL_ofObjects_31 rfl (by decide) ?_
      refine v_icmp_eq (q := 40) (q2 := 36) hC dL_ofObjects_33 (by decide) rfl (fun c_33 => ?_) (fun c_33 => ?_)
      · exact absurd hc1 ((hD.p2 hob).mp c_33)
      · refine v_iconst (q := 37) (v := 1) hC dL_ofObjects_36 rfl (by decide) ?_
        refine v_goto (q := 41) hC dL_ofObjects_37 (by decide) ?_
        refine v_istore (q := 43) hC dL_ofObjects_41 rfl (lvc rfl) (Nat.le_of_ble_eq_true rfl) (Nat.le_of_ble_eq_true rfl) rfl ?_
        exact E 1 (by rw [decide_eq_true hc1]; rfl)
    · refine v_aload_n (i := 1) (q := 28) hC dL_ofObjects_27 rfl rfl rfl ?_
      refine v_iload (q := 30) hC dL_ofObjects_28 rfl rfl ?_
      refine v_ialdV (q := 31) hC dL_ofObjects_30 rfl rfl rfl (i := ob) (rfl) (by first | decide | omega) (by decide) (rfl) ?_
      refine v_bipush (q := 33) (v := (-2)) hC dL_ofObjects_31 rfl (by decide) ?_
      refine v_icmp_eq (q := 40) (q2 := 36) hC dL_ofObjects_33 (by decide) rfl (fun c_33 => ?_) (fun c_33 => ?_)
      · refine v_iconst (q := 41) (v := 0) hC dL_ofObjects_40 rfl (by decide) ?_
        refine v_istore (q := 43) hC dL_ofObjects_41 rfl (lvc rfl) (Nat.le_of_ble_eq_true rfl) (Nat.le_of_ble_eq_true rfl) rfl ?_
        exact E 0 (by rw [decide_eq_false hc1]; rfl)
      · exact absurd ((hD.p2 hob).mpr hc1) c_33
  have d1 : nI y - nI y / 10 * 10 = nI (y % 10) := pk_rem (d := 10) hy (by decide) (by decide)
  have d2 : nI y / 10 - nI y / 10 / 10 * 10 = nI (y / 10 % 10) := by
    rw [q10]; exact pk_rem (d := 10) (by omega) (by decide) (by decide)
  have q3 : nI y / 100 = nI (y / 100) := pk_div (d := 100) hy (by decide) (by decide)
  have d3 : nI y / 100 - nI y / 100 / 12 * 12 = nI (y / 100 % 12) := by
    rw [q3]; exact pk_rem (d := 12) (by omega) (by decide) (by decide)
  refine v_iload (q := 2) hC dL_ofObjects_0 rfl rfl ?_
  refine v_bipush (q := 4) (v := 10) hC dL_ofObjects_2 rfl (by decide) ?_
  refine v_irem (q := 5) hC dL_ofObjects_4 rfl (by decide) ?_
  rw [d1]
  refine v_istore (q := 7) hC dL_ofObjects_5 rfl (lvc rfl) (Nat.le_of_ble_eq_true rfl) (Nat.le_of_ble_eq_true rfl) rfl ?_
  refine v_iload (q := 9) hC dL_ofObjects_7 rfl rfl ?_
  refine v_bipush (q := 11) (v := 10) hC dL_ofObjects_9 rfl (by decide) ?_
  refine v_idiv (q := 12) hC dL_ofObjects_11 rfl (by decide) ?_
  refine v_bipush (q := 14) (v := 10) hC dL_ofObjects_12 rfl (by decide) ?_
  refine v_irem (q := 15) hC dL_ofObjects_14 rfl (by decide) ?_
  rw [d2]
  refine v_istore (q := 17) hC dL_ofObjects_15 rfl (lvc rfl) (Nat.le_of_ble_eq_true rfl) (Nat.le_of_ble_eq_true rfl) rfl ?_
  refine v_iload (q := 19) hC dL_ofObjects_17 rfl rfl ?_
  refine v_bipush (q := 21) (v := 100) hC dL_ofObjects_19 rfl (by decide) ?_
  refine v_idiv (q := 22) hC dL_ofObjects_21 rfl (by decide) ?_
  refine v_bipush (q := 24) (v := 12) hC dL_ofObjects_22 rfl (by decide) ?_
  refine v_irem (q := 25) hC dL_ofObjects_24 rfl (by decide) ?_
  rw [d3]
  refine v_istore (q := 27) hC dL_ofObjects_25 rfl (lvc rfl) (Nat.le_of_ble_eq_true rfl) (Nat.le_of_ble_eq_true rfl) rfl ?_
  exact D _ _ _ (Nat.mod_lt _ (by decide)) (Nat.mod_lt _ (by decide)) (Nat.mod_lt _ (by decide))
