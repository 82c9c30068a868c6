/-! The law's own helpers: rows of long, ten sets of rights in each. -/
theorem wb_tb (n : Nat) : (lN n).toBitVec = BitVec.ofNat 64 n := rfl
theorem wb_inj {a b : Int64} (h : a.toBitVec = b.toBitVec) : a = b := Int64.toBitVec_inj.mp h
theorem wb_tn {n : Nat} (h : n < 2 ^ 64) : (lN n).toBitVec.toNat = n := by rw [wb_tb, BitVec.toNat_ofNat, Nat.mod_eq_of_lt h]
theorem wb_c : ∀ k, k < 64 → ((nI k).toInt64 &&& 63) = lN k := by decide +kernel
theorem g_and {a b c : Nat} (ha : a < 2 ^ 64) (hb : b < 2 ^ 64) (hc : a &&& b = c) : lN a &&& lN b = lN c := by
  subst hc
  apply wb_inj
  rw [Int64.toBitVec_and]
  apply BitVec.eq_of_toNat_eq
  rw [BitVec.toNat_and, wb_tn ha, wb_tn hb, wb_tn (Nat.and_lt_two_pow a hb)]
theorem g_and1 {a : Nat} (ha : a < 2 ^ 64) : lN a &&& 1 = lN (a % 2) := g_and (b := 1) ha (by decide) (Nat.and_two_pow_sub_one_eq_mod a 1)
theorem g_mask {a s p : Nat} (hp : 2 ^ s = p) (hs : s < 64) (ha : a < 2 ^ 64) : lN a &&& lN (p - 1) = lN (a % p) := by
  subst hp
  have := Nat.pow_lt_pow_right (show 1 < 2 by decide) hs
  exact g_and ha (by omega) (Nat.and_two_pow_sub_one_eq_mod a s)
/-- ten sets as a number -/
def pkN (v : Nat → Nat) : Nat → Nat
  | 0 => 0
  | n + 1 => 16 * pkN v n + v n
theorem pkN_lt {v : Nat → Nat} (hv : ∀ k, v k < 16) : ∀ n, pkN v n < 16 ^ n := by
  intro n
  induction n with
  | zero => exact Nat.one_pos
  | succ n ih =>
    have := hv n
    rw [pkN, Nat.pow_succ]; omega
theorem pkF_N {f : Nat → Int32} {v : Nat → Nat} (hf : ∀ k, f k = nI (v k)) (hv : ∀ k, v k < 16) : ∀ n, pkF f n = lN (pkN v n) := by
  intro n
  induction n with
  | zero => rfl
  | succ n ih =>
    rw [pkF, pkN, ih, hf n, nI_l (by have := hv n; omega), show (16 : Int64) = lN 16 from rfl, lN_mul, lN_add]
theorem pkN_bit {v : Nat → Nat} (hv : ∀ k, v k < 16) : ∀ n i r, i < n → r < 4 → (pkN v n).testBit (4 * (n - 1 - i) + r) = (v i).testBit r := by
  intro n
  induction n with
  | zero => intro i r h; omega
  | succ n ih =>
    intro i r hi hr
    have h2 := Nat.testBit_two_pow_mul_add (i := 4) (pkN v n) (hv n) (4 * (n + 1 - 1 - i) + r)
    rw [pkN, show 16 * pkN v n + v n = 2 ^ 4 * pkN v n + v n from rfl, h2]
    by_cases he : i = n
    · subst he
      rw [show 4 * (i + 1 - 1 - i) + r = r by omega, if_pos hr]
    · rw [if_neg (by omega), ← ih i r (by omega) hr]
      refine congrArg _ ?_
      omega
/-- arithmetic shift of a number that isn't negative -/
theorem lN_shr {n k : Nat} (hn : n < 2 ^ 63) (hk : k < 64) : (lN n) >>> ((nI k).toInt64 &&& 63) = lN (n / 2 ^ k) := by
  rw [wb_c k hk]
  apply Int64.toBitVec_inj.mp
  rw [Int64.toBitVec_shiftRight]
  have e1 : ((lN k).toBitVec.smod 64).toNat = k := by
    have : ∀ k, k < 64 → ((lN k).toBitVec.smod 64).toNat = k := by decide +kernel
    exact this k hk
  rw [BitVec.sshiftRight_eq', e1]
  have hm : (lN n).toBitVec.msb = false := by
    rw [BitVec.msb_eq_decide, wb_tn (by omega)]
    exact decide_eq_false (by omega)
  rw [BitVec.sshiftRight_eq_of_msb_false hm]
  apply BitVec.eq_of_toNat_eq
  rw [BitVec.toNat_ushiftRight, wb_tn (by omega), wb_tn (by have := Nat.div_le_self n (2 ^ k); omega), Nat.shiftRight_eq_div_pow]
/-- one bit of a long -/
def lBit (x : Int64) (j : Nat) : Int64 := (x >>> ((nI j).toInt64 &&& 63)) &&& 1
theorem lBit_N {n j : Nat} (hn : n < 2 ^ 63) (hj : j < 64) : lBit (lN n) j = lN (n.testBit j).toNat := by
  unfold lBit
  rw [lN_shr hn hj, g_and1 (by have := Nat.div_le_self n (2 ^ j); omega)]
  refine congrArg lN ?_
  rw [Nat.testBit_eq_decide_div_mod_eq]
  have := Nat.mod_two_eq_zero_or_one (n / 2 ^ j)
  rcases this with h | h <;> rw [h] <;> rfl
theorem nat4 {f : Nat → Int32} (hf : ∀ k, bLt (f k) 4) : ∃ v : Nat → Nat, (∀ k, f k = nI (v k)) ∧ ∀ k, v k < 16 := by
  have h := fun k => bLt_lt (hf k) (by decide)
  exact ⟨fun k => (h k).choose, fun k => (h k).choose_spec.2, fun k => (h k).choose_spec.1⟩
theorem pkL_bit {f : Nat → Int32} (hf : ∀ k, bLt (f k) 4) {i r : Nat} (hi : i < 10) (hr : r < 4) : lBit (pkL f) (4 * (9 - i) + r) = lN (bt (f i) r).toNat := by
  obtain ⟨v, h1, h2⟩ := nat4 hf
  have h3 := pkN_lt h2 10
  unfold pkL
  rw [pkF_N h1 h2, lBit_N (by omega) (by omega), show 4 * (9 - i) + r = 4 * (10 - 1 - i) + r from rfl, pkN_bit h2 10 i r hi hr, h1 i, b_nI (by omega)]
/-- one set out of a long -/
theorem pkL_set {f : Nat → Int32} (hf : ∀ k, bLt (f k) 4) {i : Nat} (hi : i < 10) : ((pkL f >>> ((nI (36 - 4 * i)).toInt64 &&& 63)) &&& 15).toInt32 = f i := by
  obtain ⟨v, h1, h2⟩ := nat4 hf
  have h3 := pkN_lt h2 10
  unfold pkL
  have h4 := Nat.div_le_self (pkN v 10) (2 ^ (36 - 4 * i))
  rw [pkF_N h1 h2, lN_shr (by omega) (by omega), show (15 : Int64) = lN (16 - 1) from rfl, g_mask (s := 4) (p := 16) rfl (by decide) (by omega), lN_i, h1 i]
  refine congrArg nI ?_
  apply Nat.eq_of_testBit_eq
  intro r
  rw [show 16 = 2 ^ 4 from rfl, Nat.testBit_mod_two_pow, Nat.testBit_div_two_pow]
  by_cases hr : r < 4
  · rw [decide_eq_true hr, Bool.true_and, ← pkN_bit h2 10 i r hi hr]
    refine congrArg _ ?_
    omega
  · rw [decide_eq_false hr, Bool.false_and]
    refine (Nat.testBit_lt_two_pow ?_).symm
    have := h2 i
    exact Nat.lt_of_lt_of_le this (Nat.pow_le_pow_right (n := 2) (i := 4) (by decide) (by omega))
theorem mNt_at {w : Nat → Int32} (hw : mOk w) {u k : Nat} (hu : u < mUs w) (hk : k < 20) : mNt w (20 * u + k) = if w (oA k 0) = 1 then mRg w (nI u) k else 0 := by
  have h12 := hw.us12
  unfold mNt
  rw [show (20 * u + k) / 20 = u by omega, show (20 * u + k) % 20 = k by omega]
  have h1 : nI u < w 0 := by rw [hw.us]; exact nI_lt hu (by omega)
  have h2 : mHold w (nI k) = decide (w (oA k 0) = 1) := by
    unfold mHold
    rw [nI_clamp (by omega), show mIn (nI k) 0 19 = true from by
      unfold mIn
      rw [decide_eq_true (nI_pos' (by omega)), decide_eq_true (show nI k ≤ 19 from nI_le (b := 19) (by omega) (by decide))]; rfl, Bool.true_and]
  rw [h2]
  by_cases hc : w (oA k 0) = 1
  · rw [if_pos ⟨h1, decide_eq_true hc⟩, if_pos hc]
  · rw [if_neg (fun z => hc (of_decide_eq_true z.2)), if_neg hc]
/-- the law's notes of n users -/
def lNt (w a : Nat → Int32) (n : Nat) : Nat → Int32 := fun x => if x < 10 * n then mNt w (20 * (x / 10) + x % 10) else a x
theorem lNt_0 (w a : Nat → Int32) : lNt w a 0 = a := by
  funext x
  unfold lNt
  rw [if_neg (by omega)]
theorem lNt_s (w a : Nat → Int32) (u : Nat) : pkU (lNt w a u) u (fun k => mNt w (20 * u + k)) = lNt w a (u + 1) := by
  funext x
  unfold pkU lNt
  by_cases h : 10 * u ≤ x ∧ x < 10 * u + 10
  · rw [if_pos h, if_pos (by omega), show x / 10 = u by omega, show x % 10 = x - 10 * u by omega]
  · rw [if_neg h]
    by_cases h2 : x < 10 * u
    · rw [if_pos h2, if_pos (by omega)]
    · rw [if_neg h2, if_neg (by omega)]
set_option maxHeartbeats 4000000 in
set_option maxRecDepth 20000 in
theorem c_L_notes {l : Launch} (hl : l.stackTraces = false) (Θ : cTH) (q : Nat) (G : GS) (hq : q = 45 ∨ q = 46) (hid : okI G.2.2.1 0 q = true) (hD : LD (G.2.1 0 30) (G.2.1 0 40) (G.2.1 0 41) (G.2.1 0 42)) (ht : G.2.1 0 44 0 = nI (mUs (G.2.1 0 30))) : Ct l yL_notes cL_notes 9 none rm_L_notes Θ [.ref (tR Θ 0 40), .ref (tR Θ 0 41), .ref (tR Θ 0 42), .ref (tR Θ 0 44), .ref (tR Θ 0 q)] (G) (fR none (putA G 0 q (lNt (G.2.1 0 30) (G.2.1 0 q) (mUs (G.2.1 0 30))))) := by
  refine ct_of (LS := [some (.ref (tR Θ 0 40)), some (.ref (tR Θ 0 41)), some (.ref (tR Θ 0 42)), some (.ref (tR Θ 0 44)), some (.ref (tR Θ 0 q)), none, none, none, none]) hl (by decide +kernel) rfl (Nat.le_of_ble_eq_true rfl) rfl ?_
  intro p e s m args below meth c hC hr
  have hU := hD.ok.us12
  have r30 : ∀ a, (putA G 0 q a).2.1 0 30 = G.2.1 0 30 := fun a => putA_o _ _ (by omega)
  have r40 : ∀ a, (putA G 0 q a).2.1 0 40 = G.2.1 0 40 := fun a => putA_o _ _ (by omega)
  have r41 : ∀ a, (putA G 0 q a).2.1 0 41 = G.2.1 0 41 := fun a => putA_o _ _ (by omega)
  have r42 : ∀ a, (putA G 0 q a).2.1 0 42 = G.2.1 0 42 := fun a => putA_o _ _ (by omega)
  have r44 : ∀ a, (putA G 0 q a).2.1 0 44 = G.2.1 0 44 := fun a => putA_o _ _ (by omega)
  have hD2 : ∀ a, LD ((putA G 0 q a).2.1 0 30) ((putA G 0 q a).2.1 0 40) ((putA G 0 q a).2.1 0 41) ((putA G 0 q a).2.1 0 42) := fun a => by rw [r30, r40, r41, r42]; exact hD
  have hce : ∀ (K : GS) (a : Nat → Int32), cellS Θ 0 q (K.1 0 q) a K.2.2 = .inl (tJ Θ, 12, .inr (.inl (fun u => pkL (fun k => a (10 * u + k))))) := by
    intro K a
    rcases hq with rfl | rfl <;> rfl
  have L : ∀ (n u : Nat) (x6 x8 : Option Value), n + u = mUs (G.2.1 0 30) → V p l e rm_L_notes s m args below meth c 9 Θ (fR none (putA G 0 q (lNt (G.2.1 0 30) (G.2.1 0 q) (mUs (G.2.1 0 30))))) 0 0 0 0 3 [some (.ref (tR Θ 0 40)), some (.ref (tR Θ 0 41)), some (.ref (tR Θ 0 42)), some (.ref (tR Θ 0 44)), some (.ref (tR Θ 0 q)), some (.int (nI u)), x6, none, x8] [] (putA G 0 q (lNt (G.2.1 0 30) (G.2.1 0 q) u)) := by
    intro n
    induction n with
    | zero =>
      intro u x6 x8 h1
      have hu : u = mUs (G.2.1 0 30) := by omega
      subst hu
      refine v_iload (q := 5) hC dL_notes_3 rfl rfl ?_
      refine v_aload_n (i := 3) (q := 6) hC dL_notes_5 rfl rfl rfl ?_
      refine v_iconst (q := 7) (v := 0) hC dL_notes_6 rfl (by decide) ?_
      refine v_ialdV (q := 8) hC dL_notes_7 rfl rfl rfl (i := 0) (rfl) (by first | decide | omega) (by decide) ((congrFun (r44 _) 0).trans ht) ?_
      refine v_icmp_ge (q := 76) (q2 := 11) hC dL_notes_8 (by decide) rfl (fun c_8 => ?_) (fun c_8 => ?_)
      · refine v_vret hC dL_notes_76 hr ?_ (Nat.le_of_ble_eq_true rfl) (Nat.le_of_ble_eq_true rfl)
        exact ⟨rfl, rfl⟩
      · exact absurd (nI_le (Nat.le_refl _) (by omega)) c_8
    | succ n ih =>
      intro u x6 x8 h1
      have hu12 : u < 12 := by omega
      have huU : u < mUs (G.2.1 0 30) := by omega
      have L2 : ∀ (n2 k : Nat), n2 + k = 10 → V p l e rm_L_notes s m args below meth c 9 Θ (fR none (putA G 0 q (lNt (G.2.1 0 30) (G.2.1 0 q) (mUs (G.2.1 0 30))))) 0 0 0 0 17 [some (.ref (tR Θ 0 40)), some (.ref (tR Θ 0 41)), some (.ref (tR Θ 0 42)), some (.ref (tR Θ 0 44)), some (.ref (tR Θ 0 q)), some (.int (nI u)), some (.long (pkF (fun k => mNt (G.2.1 0 30) (20 * u + k)) k)), none, some (.int (nI k))] [] (putA G 0 q (lNt (G.2.1 0 30) (G.2.1 0 q) u)) := by
        intro n2
        induction n2 with
        | zero =>
          intro k h2
          have hk : k = 10 := by omega
          subst hk
          refine v_iload (q := 19) hC dL_notes_17 rfl rfl ?_
          refine v_bipush (q := 21) (v := 10) hC dL_notes_19 rfl (by decide) ?_
          refine v_icmp_ge (q := 63) (q2 := 24) hC dL_notes_21 (by decide) rfl (fun c_21 => ?_) (fun c_21 => ?_)
          · refine v_aload (q := 65) hC dL_notes_63 rfl rfl ?_
            refine v_iload (q := 67) hC dL_notes_65 rfl rfl ?_
            refine v_lload (q := 69) hC dL_notes_67 rfl rfl ?_
            refine v_lastP (q := 70) (o := q) (u := u) (f := fun k => mNt (G.2.1 0 30) (20 * u + k)) hC dL_notes_69 rfl hid (fun a => hce _ a) hu12 ?_
            rw [putA_putA, show (putA G 0 q (lNt (G.2.1 0 30) (G.2.1 0 q) u)).2.1 0 q = lNt (G.2.1 0 30) (G.2.1 0 q) u from putA_same _ _ _ _, lNt_s]
            refine v_iinc (q := 73) (v := nI (u + 1)) hC dL_notes_70 rfl rfl (nI_1 u) (lvc rfl) (Nat.le_of_ble_eq_true rfl) (Nat.le_of_ble_eq_true rfl) rfl ?_
            refine v_goto (q := 3) hC dL_notes_73 (by decide) ?_
            exact ih (u + 1) _ _ (by omega)
          · exact absurd (by decide) c_21
        | succ n2 ih2 =>
          intro k h2
          have hk : k < 10 := by omega
          have hm := mNt_at hD.ok huU (show k < 20 by omega)
          have hp2 := hD.p2 hk
          have e9 : pkF (fun k => mNt (G.2.1 0 30) (20 * u + k)) (k + 1) = 16 * pkF (fun k => mNt (G.2.1 0 30) (20 * u + k)) k + (mNt (G.2.1 0 30) (20 * u + k)).toInt64 := by rw [pkF]
          by_cases hc : G.2.1 0 30 (oA k 0) = 1
          · rw [if_pos hc] at hm
            refine v_iload (q := 19) hC dL_notes_17 rfl rfl ?_
            refine v_bipush (q := 21) (v := 10) hC dL_notes_19 rfl (by decide) ?_
            refine v_icmp_ge (q := 63) (q2 := 24) hC dL_notes_21 (by decide) rfl (fun c_21 => ?_) (fun c_21 => ?_)
            · exact absurd c_21 (by rw [show (10 : Int32) = nI 10 from rfl]; exact nI_ge (by omega) (by omega))
            · refine v_ldc2 (q := 27) hC co_RL_196 dL_notes_24 rfl ?_
              refine v_lload (q := 29) hC dL_notes_27 rfl rfl ?_
              refine v_lmul (q := 30) hC dL_notes_29 rfl ?_
              refine v_aload_n (i := 1) (q := 31) hC dL_notes_30 rfl rfl rfl ?_
              refine v_iload (q := 33) hC dL_notes_31 rfl rfl ?_
              refine v_ialdV (q := 34) hC dL_notes_33 rfl rfl rfl (i := k) (rfl) (by first | decide | omega) (by decide) (congrFun (r41 _) k) ?_
              refine v_bipush (q := 36) (v := (-2)) hC dL_notes_34 rfl (by decide) ?_
              refine v_icmp_ne (q := 43) (q2 := 39) hC dL_notes_36 (by decide) rfl (fun c_36 => ?_) (fun c_36 => ?_)
              · refine v_aload_n (i := 0) (q := 44) hC dL_notes_43 rfl rfl rfl ?_
                refine v_aload_n (i := 1) (q := 45) hC dL_notes_44 rfl rfl rfl ?_
                refine v_aload_n (i := 2) (q := 46) hC dL_notes_45 rfl rfl rfl ?_
                refine v_iload (q := 48) hC dL_notes_46 rfl rfl ?_
                refine v_iload (q := 50) hC dL_notes_48 rfl rfl ?_
                refine v_callSN (q := 53) (rm := rm_L_rights) hC (c_L_rights hl Θ u k _ (hD2 _) hu12 hk (by rw [r30]; exact hc)) k_L_rights st_yL_rights ml_RL_198 dL_notes_50 rfl rfl rfl (Nat.le_of_ble_eq_true rfl) ⟨Nat.le_of_ble_eq_true rfl, Nat.le_of_ble_eq_true rfl⟩ (c1 := 0) (s1 := 0) rfl rfl ⟨Nat.le_of_ble_eq_true rfl, Nat.le_of_ble_eq_true rfl⟩ (fR_k ?_) fR_n
                try dsimp only [Option.toList, List.cons_append, List.nil_append]
                rw [r30]
                refine v_i2l (q := 54) hC dL_notes_53 rfl ?_
                refine v_ladd (q := 55) hC dL_notes_54 rfl ?_
                refine v_lstore (q := 57) hC dL_notes_55 rfl (lvc rfl) rfl (Nat.le_of_ble_eq_true rfl) (Nat.le_of_ble_eq_true rfl) rfl ?_
                refine v_iinc (q := 60) (v := nI (k + 1)) hC dL_notes_57 rfl rfl (nI_1 k) (lvc rfl) (Nat.le_of_ble_eq_true rfl) (Nat.le_of_ble_eq_true rfl) rfl ?_
                refine v_goto (q := 17) hC dL_notes_60 (by decide) ?_
                have h8 := ih2 (k + 1) (by omega)
                rw [e9, hm] at h8
                exact h8
              · exact absurd hc (hp2.mp c_36)
          · rw [if_neg hc] at hm
            refine v_iload (q := 19) hC dL_notes_17 rfl rfl ?_
            refine v_bipush (q := 21) (v := 10) hC dL_notes_19 rfl (by decide) ?_
            refine v_icmp_ge (q := 63) (q2 := 24) hC dL_notes_21 (by decide) rfl (fun c_21 => ?_) (fun c_21 => ?_)
            · exact absurd c_21 (by rw [show (10 : Int32) = nI 10 from rfl]; exact nI_ge (by omega) (by omega))
            · refine v_ldc2 (q := 27) hC co_RL_196 dL_notes_24 rfl ?_
              refine v_lload (q := 29) hC dL_notes_27 rfl rfl ?_
              refine v_lmul (q := 30) hC dL_notes_29 rfl ?_
              refine v_aload_n (i := 1) (q := 31) hC dL_notes_30 rfl rfl rfl ?_
              refine v_iload (q := 33) hC dL_notes_31 rfl rfl ?_
              refine v_ialdV (q := 34) hC dL_notes_33 rfl rfl rfl (i := k) (rfl) (by first | decide | omega) (by decide) (congrFun (r41 _) k) ?_
              refine v_bipush (q := 36) (v := (-2)) hC dL_notes_34 rfl (by decide) ?_
              refine v_icmp_ne (q := 43) (q2 := 39) hC dL_notes_36 (by decide) rfl (fun c_36 => ?_) (fun c_36 => ?_)
              · exact absurd (hp2.mpr hc) c_36
              · refine v_lconst (q := 40) (v := 0) hC dL_notes_39 rfl rfl ?_
                refine v_goto (q := 54) hC dL_notes_40 (by decide) ?_
                refine v_ladd (q := 55) hC dL_notes_54 rfl ?_
                refine v_lstore (q := 57) hC dL_notes_55 rfl (lvc rfl) rfl (Nat.le_of_ble_eq_true rfl) (Nat.le_of_ble_eq_true rfl) rfl ?_
                refine v_iinc (q := 60) (v := nI (k + 1)) hC dL_notes_57 rfl rfl (nI_1 k) (lvc rfl) (Nat.le_of_ble_eq_true rfl) (Nat.le_of_ble_eq_true rfl) rfl ?_
                refine v_goto (q := 17) hC dL_notes_60 (by decide) ?_
                have h8 := ih2 (k + 1) (by omega)
                rw [e9, hm] at h8
                exact h8
      refine v_iload (q := 5) hC dL_notes_3 rfl rfl ?_
      refine v_aload_n (i := 3) (q := 6) hC dL_notes_5 rfl rfl rfl ?_
      refine v_iconst (q := 7) (v := 0) hC dL_notes_6 rfl (by decide) ?_
      refine v_ialdV (q := 8) hC dL_notes_7 rfl rfl rfl (i := 0) (rfl) (by first | decide | omega) (by decide) ((congrFun (r44 _) 0).trans ht) ?_
      refine v_icmp_ge (q := 76) (q2 := 11) hC dL_notes_8 (by decide) rfl (fun c_8 => ?_) (fun c_8 => ?_)
      · exact absurd c_8 (nI_ge (by omega) (by omega))
      · refine v_lconst (q := 12) (v := 0) hC dL_notes_11 rfl rfl ?_
        refine v_lstore (q := 14) hC dL_notes_12 rfl (lvc rfl) rfl (Nat.le_of_ble_eq_true rfl) (Nat.le_of_ble_eq_true rfl) rfl ?_
        refine v_iconst (q := 15) (v := 0) hC dL_notes_14 rfl (by decide) ?_
        refine v_istore (q := 17) hC dL_notes_15 rfl (lvc rfl) (Nat.le_of_ble_eq_true rfl) (Nat.le_of_ble_eq_true rfl) rfl ?_
        exact L2 10 0 rfl
  have h0 := L (mUs (G.2.1 0 30)) 0 none none rfl
  rw [lNt_0, show putA G 0 q (G.2.1 0 q) = G from putA_self _ _ _] at h0
  refine v_iconst (q := 1) (v := 0) hC dL_notes_0 rfl (by decide) ?_
  refine v_istore (q := 3) hC dL_notes_1 rfl (lvc rfl) (Nat.le_of_ble_eq_true rfl) (Nat.le_of_ble_eq_true rfl) rfl ?_
  exact h0
theorem lg_cmp0 {x y : Int64} : lg_cmp x y = 0 ↔ x = y := by
  constructor
  · intro h
    unfold lg_cmp at h
    refine Classical.byContradiction fun hn => ?_
    by_cases h1 : x > y
    · rw [if_pos h1] at h; exact absurd h (by decide)
    · rw [if_neg h1, if_neg hn] at h; exact absurd h (by decide)
  · rintro rfl
    unfold lg_cmp
    rw [if_neg (by simp), if_pos rfl]
def lUb (x y : Int64) : Nat → Nat → Int32 → Int32
  | 0, _, t => t
  | n + 1, j, t => lUb x y n (j + 1) (t + (if lBit x j = lBit y j then 0 else 1))
def lUo (a b : Nat → Int32) : Nat → Nat → Int32 → Int32
  | 0, _, t => t
  | n + 1, u, t => lUo a b n (u + 1) (lUb (pkL (fun k => a (10 * u + k))) (pkL (fun k => b (10 * u + k))) 40 0 t)
set_option maxHeartbeats 4000000 in
set_option maxRecDepth 20000 in
theorem c_L_unlike {l : Launch} (hl : l.stackTraces = false) (Θ : cTH) (G : GS) (h1 : okI G.2.2.1 0 45 = true) (h2 : okI G.2.2.1 0 46 = true) : Ct l yL_unlike cL_unlike 5 (some .int) rm_L_unlike Θ [.ref (tR Θ 0 45), .ref (tR Θ 0 46)] (G) (fR (some (.int (lUo (G.2.1 0 45) (G.2.1 0 46) 12 0 0))) G) := by
  refine ct_of (LS := [some (.ref (tR Θ 0 45)), some (.ref (tR Θ 0 46)), none, none, none]) hl (by decide +kernel) rfl (Nat.le_of_ble_eq_true rfl) rfl ?_
  intro p e s m args below meth c hC hr
  have L : ∀ (n u : Nat) (t : Int32) (x4 : Option Value), n + u = 12 → lUo (G.2.1 0 45) (G.2.1 0 46) n u t = lUo (G.2.1 0 45) (G.2.1 0 46) 12 0 0 → V p l e rm_L_unlike s m args below meth c 5 Θ (fR (some (.int (lUo (G.2.1 0 45) (G.2.1 0 46) 12 0 0))) G) 0 0 0 0 4 [some (.ref (tR Θ 0 45)), some (.ref (tR Θ 0 46)), some (.int t), some (.int (nI u)), x4] [] (G) := by
    intro n
    induction n with
    | zero =>
      intro u t x4 h3 h4
      refine v_iload_n (i := 3) (q := 5) hC dL_unlike_4 rfl rfl rfl ?_
      refine v_bipush (q := 7) (v := 12) hC dL_unlike_5 rfl (by decide) ?_
      refine v_icmp_ge (q := 60) (q2 := 10) hC dL_unlike_7 (by decide) rfl (fun c_7 => ?_) (fun c_7 => ?_)
      · refine v_iload_n (i := 2) (q := 61) hC dL_unlike_60 rfl rfl rfl ?_
        refine v_iret hC dL_unlike_61 hr (rfl) ?_ (Nat.le_of_ble_eq_true rfl) (Nat.le_of_ble_eq_true rfl)
        exact ⟨by rw [← h4, lUo], rfl⟩
      · exact absurd (by rw [show u = 12 by omega]; decide) c_7
    | succ n ih =>
      intro u t x4 h3 h4
      rw [lUo] at h4
      have L2 : ∀ (n2 j : Nat) (t2 : Int32), n2 + j = 40 → lUb (pkL (fun k => G.2.1 0 45 (10 * u + k))) (pkL (fun k => G.2.1 0 46 (10 * u + k))) n2 j t2 = lUb (pkL (fun k => G.2.1 0 45 (10 * u + k))) (pkL (fun k => G.2.1 0 46 (10 * u + k))) 40 0 t → V p l e rm_L_unlike s m args below meth c 5 Θ (fR (some (.int (lUo (G.2.1 0 45) (G.2.1 0 46) 12 0 0))) G) 0 0 0 0 13 [some (.ref (tR Θ 0 45)), some (.ref (tR Θ 0 46)), some (.int t2), some (.int (nI u)), some (.int (nI j))] [] (G) := by
        intro n2
        induction n2 with
        | zero =>
          intro j t2 h5 h6
          refine v_iload (q := 15) hC dL_unlike_13 rfl rfl ?_
          refine v_bipush (q := 17) (v := 40) hC dL_unlike_15 rfl (by decide) ?_
          refine v_icmp_ge (q := 54) (q2 := 20) hC dL_unlike_17 (by decide) rfl (fun c_17 => ?_) (fun c_17 => ?_)
          · refine v_iinc (q := 57) (v := nI (u + 1)) hC dL_unlike_54 rfl rfl (nI_1 u) (lvc rfl) (Nat.le_of_ble_eq_true rfl) (Nat.le_of_ble_eq_true rfl) rfl ?_
            refine v_goto (q := 4) hC dL_unlike_57 (by decide) ?_
            exact ih (u + 1) _ _ (by omega) (by rw [← h4, ← h6, lUb])
          · exact absurd (by rw [show j = 40 by omega]; decide) c_17
        | succ n2 ih2 =>
          intro j t2 h5 h6
          rw [lUb] at h6
          refine v_iload (q := 15) hC dL_unlike_13 rfl rfl ?_
          refine v_bipush (q := 17) (v := 40) hC dL_unlike_15 rfl (by decide) ?_
          refine v_icmp_ge (q := 54) (q2 := 20) hC dL_unlike_17 (by decide) rfl (fun c_17 => ?_) (fun c_17 => ?_)
          · exact absurd c_17 (by rw [show (40 : Int32) = nI 40 from rfl]; exact nI_ge (by omega) (by omega))
          · refine v_iload_n (i := 2) (q := 21) hC dL_unlike_20 rfl rfl rfl ?_
            refine v_aload_n (i := 0) (q := 22) hC dL_unlike_21 rfl rfl rfl ?_
            refine v_iload_n (i := 3) (q := 23) hC dL_unlike_22 rfl rfl rfl ?_
            refine v_laldP (q := 24) (o := 45) (u := u) hC dL_unlike_23 rfl h1 (fun a => rfl) (by omega) ?_
            refine v_iload (q := 26) hC dL_unlike_24 rfl rfl ?_
            refine v_lshr (q := 27) hC dL_unlike_26 rfl ?_
            refine v_lconst (q := 28) (v := 1) hC dL_unlike_27 rfl rfl ?_
            refine v_land (q := 29) hC dL_unlike_28 rfl ?_
            refine v_aload_n (i := 1) (q := 30) hC dL_unlike_29 rfl rfl rfl ?_
            refine v_iload_n (i := 3) (q := 31) hC dL_unlike_30 rfl rfl rfl ?_
            refine v_laldP (q := 32) (o := 46) (u := u) hC dL_unlike_31 rfl h2 (fun a => rfl) (by omega) ?_
            refine v_iload (q := 34) hC dL_unlike_32 rfl rfl ?_
            refine v_lshr (q := 35) hC dL_unlike_34 rfl ?_
            refine v_lconst (q := 36) (v := 1) hC dL_unlike_35 rfl rfl ?_
            refine v_land (q := 37) hC dL_unlike_36 rfl ?_
            refine v_lcmp (q := 38) hC dL_unlike_37 rfl ?_
            refine v_if_eq (q := 45) (q2 := 41) hC dL_unlike_38 (by decide) rfl (fun c_38 => ?_) (fun c_38 => ?_)
            · refine v_iconst (q := 46) (v := 0) hC dL_unlike_45 rfl (by decide) ?_
              refine v_iadd (q := 47) hC dL_unlike_46 rfl ?_
              refine v_istore_n (i := 2) (q := 48) hC dL_unlike_47 rfl rfl (lvc rfl) (Nat.le_of_ble_eq_true rfl) (Nat.le_of_ble_eq_true rfl) rfl ?_
              refine v_iinc (q := 51) (v := nI (j + 1)) hC dL_unlike_48 rfl rfl (nI_1 j) (lvc rfl) (Nat.le_of_ble_eq_true rfl) (Nat.le_of_ble_eq_true rfl) rfl ?_
              refine v_goto (q := 13) hC dL_unlike_51 (by decide) ?_
              refine ih2 (j + 1) _ (by omega) ?_
              rw [← h6]
              first | rw [if_pos (show lBit _ _ = lBit _ _ from lg_cmp0.mp c_38)] | rw [if_neg (show ¬ lBit _ _ = lBit _ _ from fun z => c_38 (lg_cmp0.mpr z))]
            · refine v_iconst (q := 42) (v := 1) hC dL_unlike_41 rfl (by decide) ?_
              refine v_goto (q := 46) hC dL_unlike_42 (by decide) ?_
              refine v_iadd (q := 47) hC dL_unlike_46 rfl ?_
              refine v_istore_n (i := 2) (q := 48) hC dL_unlike_47 rfl rfl (lvc rfl) (Nat.le_of_ble_eq_true rfl) (Nat.le_of_ble_eq_true rfl) rfl ?_
              refine v_iinc (q := 51) (v := nI (j + 1)) hC dL_unlike_48 rfl rfl (nI_1 j) (lvc rfl) (Nat.le_of_ble_eq_true rfl) (Nat.le_of_ble_eq_true rfl) rfl ?_
              refine v_goto (q := 13) hC dL_unlike_51 (by decide) ?_
              refine ih2 (j + 1) _ (by omega) ?_
              rw [← h6]
              first | rw [if_pos (show lBit _ _ = lBit _ _ from lg_cmp0.mp c_38)] | rw [if_neg (show ¬ lBit _ _ = lBit _ _ from fun z => c_38 (lg_cmp0.mpr z))]
      refine v_iload_n (i := 3) (q := 5) hC dL_unlike_4 rfl rfl rfl ?_
      refine v_bipush (q := 7) (v := 12) hC dL_unlike_5 rfl (by decide) ?_
      refine v_icmp_ge (q := 60) (q2 := 10) hC dL_unlike_7 (by decide) rfl (fun c_7 => ?_) (fun c_7 => ?_)
      · exact absurd c_7 (by rw [show (12 : Int32) = nI 12 from rfl]; exact nI_ge (by omega) (by omega))
      · refine v_iconst (q := 11) (v := 0) hC dL_unlike_10 rfl (by decide) ?_
        refine v_istore (q := 13) hC dL_unlike_11 rfl (lvc rfl) (Nat.le_of_ble_eq_true rfl) (Nat.le_of_ble_eq_true rfl) rfl ?_
        exact L2 40 0 t rfl rfl
  refine v_iconst (q := 1) (v := 0) hC dL_unlike_0 rfl (by decide) ?_
  refine v_istore_n (i := 2) (q := 2) hC dL_unlike_1 rfl rfl (lvc rfl) (Nat.le_of_ble_eq_true rfl) (Nat.le_of_ble_eq_true rfl) rfl ?_
  refine v_iconst (q := 3) (v := 0) hC dL_unlike_2 rfl (by decide) ?_
  refine v_istore_n (i := 3) (q := 4) hC dL_unlike_3 rfl rfl (lvc rfl) (Nat.le_of_ble_eq_true rfl) (Nat.le_of_ble_eq_true rfl) rfl ?_
  exact L 12 0 0 none rfl rfl
