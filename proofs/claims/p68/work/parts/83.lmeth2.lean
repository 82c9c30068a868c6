/-! The law's own helpers: what lies under an object, whom an entry is for, what decides, what is allowed. -/
theorem ls2 {x : Int32} (h : ¬ x < 0) : 0 ≤ x := Int32.not_lt.mp h
set_option maxHeartbeats 4000000 in
set_option maxRecDepth 20000 in
theorem c_L_isUnder {l : Launch} (hl : l.stackTraces = false) (Θ : cTH) (j u : Nat) (m e0 : Nat → Int32) (G : GS) (hD : LD (G.2.1 0 30) m (G.2.1 0 41) e0) (hj : j < 10) (h1 : G.2.1 0 30 (oA j 0) = 1) (hu : u < 10) : Ct l yL_isUnder cL_isUnder 4 (some .boolean) rm_L_isUnder Θ [.ref (tR Θ 0 41), .int (nI j), .int (nI u)] (G) (fR (some (.int (b2i (mBlw (G.2.1 0 30) j (nI u))))) G) := by
  refine ct_of (LS := [some (.ref (tR Θ 0 41)), some (.int (nI j)), some (.int (nI u)), none]) hl (by decide +kernel) rfl (Nat.le_of_ble_eq_true rfl) rfl ?_
  intro p e s m args below meth c hC hr
  obtain ⟨rk, hrk⟩ := hD.ok.rk
  have E : ∀ x, (x < 0 ∨ x = nI u) → decide (x = nI u) = mBlw (G.2.1 0 30) j (nI u) → V p l e rm_L_isUnder s m args below meth c 4 Θ (fR (some (.int (b2i (mBlw (G.2.1 0 30) j (nI u))))) G) 0 0 0 0 4 [some (.ref (tR Θ 0 41)), some (.int (nI j)), some (.int (nI u)), some (.int x)] [] (G) := by
    intro x hx h2
    refine v_iload_n (i := 3) (q := 5) hC dL_isUnder_4 rfl rfl rfl ?_
    refine v_if_lt (q := 20) (q2 := 8) hC dL_isUnder_5 (by decide) rfl (fun c_5 => ?_) (fun c_5 => ?_)
    · refine v_iload_n (i := 3) (q := 21) hC dL_isUnder_20 rfl rfl rfl ?_
      refine v_iload_n (i := 2) (q := 22) hC dL_isUnder_21 rfl rfl rfl ?_
      refine v_icmp_ne (q := 29) (q2 := 25) hC dL_isUnder_22 (by decide) rfl (fun c_22 => ?_) (fun c_22 => ?_)
      · refine v_iconst (q := 30) (v := 0) hC dL_isUnder_29 rfl (by decide) ?_
        refine v_iret hC dL_isUnder_30 hr (by first | rfl | exact nar_b) ?_ (Nat.le_of_ble_eq_true rfl) (Nat.le_of_ble_eq_true rfl)
        exact ⟨by rw [← h2]; first | (rw [decide_eq_true c_22]; rfl) | (rw [decide_eq_false c_22]; rfl), rfl⟩
      · refine v_iconst (q := 26) (v := 1) hC dL_isUnder_25 rfl (by decide) ?_
        refine v_goto (q := 30) hC dL_isUnder_26 (by decide) ?_
        refine v_iret hC dL_isUnder_30 hr (by first | rfl | exact nar_b) ?_ (Nat.le_of_ble_eq_true rfl) (Nat.le_of_ble_eq_true rfl)
        exact ⟨by rw [← h2]; first | (rw [decide_eq_true c_22]; rfl) | (rw [decide_eq_false c_22]; rfl), rfl⟩
    · refine v_iload_n (i := 3) (q := 9) hC dL_isUnder_8 rfl rfl rfl ?_
      refine v_iload_n (i := 2) (q := 10) hC dL_isUnder_9 rfl rfl rfl ?_
      refine v_icmp_eq (q := 20) (q2 := 13) hC dL_isUnder_10 (by decide) rfl (fun c_10 => ?_) (fun c_10 => ?_)
      · refine v_iload_n (i := 3) (q := 21) hC dL_isUnder_20 rfl rfl rfl ?_
        refine v_iload_n (i := 2) (q := 22) hC dL_isUnder_21 rfl rfl rfl ?_
        refine v_icmp_ne (q := 29) (q2 := 25) hC dL_isUnder_22 (by decide) rfl (fun c_22 => ?_) (fun c_22 => ?_)
        · refine v_iconst (q := 30) (v := 0) hC dL_isUnder_29 rfl (by decide) ?_
          refine v_iret hC dL_isUnder_30 hr (by first | rfl | exact nar_b) ?_ (Nat.le_of_ble_eq_true rfl) (Nat.le_of_ble_eq_true rfl)
          exact ⟨by rw [← h2]; first | (rw [decide_eq_true c_22]; rfl) | (rw [decide_eq_false c_22]; rfl), rfl⟩
        · refine v_iconst (q := 26) (v := 1) hC dL_isUnder_25 rfl (by decide) ?_
          refine v_goto (q := 30) hC dL_isUnder_26 (by decide) ?_
          refine v_iret hC dL_isUnder_30 hr (by first | rfl | exact nar_b) ?_ (Nat.le_of_ble_eq_true rfl) (Nat.le_of_ble_eq_true rfl)
          exact ⟨by rw [← h2]; first | (rw [decide_eq_true c_22]; rfl) | (rw [decide_eq_false c_22]; rfl), rfl⟩
      · exact absurd (hx.resolve_left c_5) c_10
  have L : ∀ (n k : Nat), k < 10 → G.2.1 0 30 (oA k 0) = 1 → rk k < n → mBel (G.2.1 0 30) (nI u) n (nI k) = mBlw (G.2.1 0 30) j (nI u) → V p l e rm_L_isUnder s m args below meth c 4 Θ (fR (some (.int (b2i (mBlw (G.2.1 0 30) j (nI u))))) G) 0 0 0 0 4 [some (.ref (tR Θ 0 41)), some (.int (nI j)), some (.int (nI u)), some (.int (nI k))] [] (G) := by
    intro n
    induction n with
    | zero => intro k _ _ h; exact absurd h (by omega)
    | succ n ih =>
      intro k hk hk1 hr h2
      rw [mBel, if_neg (nI_pos (by omega)), nI_clamp (by omega)] at h2
      by_cases hc : nI k = nI u
      · rw [if_pos hc] at h2
        exact E _ (Or.inr hc) (by rw [decide_eq_true hc]; exact h2)
      · rw [if_neg hc] at h2
        refine v_iload_n (i := 3) (q := 5) hC dL_isUnder_4 rfl rfl rfl ?_
        refine v_if_lt (q := 20) (q2 := 8) hC dL_isUnder_5 (by decide) rfl (fun c_5 => ?_) (fun c_5 => ?_)
        · exact absurd c_5 (nI_pos (by omega))
        · refine v_iload_n (i := 3) (q := 9) hC dL_isUnder_8 rfl rfl rfl ?_
          refine v_iload_n (i := 2) (q := 10) hC dL_isUnder_9 rfl rfl rfl ?_
          refine v_icmp_eq (q := 20) (q2 := 13) hC dL_isUnder_10 (by decide) rfl (fun c_10 => ?_) (fun c_10 => ?_)
          · exact absurd c_10 hc
          · refine v_aload_n (i := 0) (q := 14) hC dL_isUnder_13 rfl rfl rfl ?_
            refine v_iload_n (i := 3) (q := 15) hC dL_isUnder_14 rfl rfl rfl ?_
            refine v_ialdN (q := 16) hC dL_isUnder_15 rfl rfl rfl (i := k) (rfl) (by first | decide | omega | (unfold oA; omega) | (unfold enA; omega)) (by decide) ?_
            refine v_istore_n (i := 3) (q := 17) hC dL_isUnder_16 rfl rfl (lvc rfl) (Nat.le_of_ble_eq_true rfl) (Nat.le_of_ble_eq_true rfl) rfl ?_
            refine v_goto (q := 4) hC dL_isUnder_17 (by decide) ?_
            rw [hD.p1 hk hk1]
            rcases hD.par hrk hk hk1 with h5 | ⟨k2, h5, h6, h7, h8⟩
            · rw [h5] at h2 ⊢
              refine E _ (Or.inl (by decide)) ?_
              rw [← h2]
              cases n with
              | zero => rw [mBel]
              | succ n => rw [mBel, if_pos (by decide)]
            · rw [h6] at h2 ⊢
              exact ih k2 h5 h7 (by omega) h2
  refine v_aload_n (i := 0) (q := 1) hC dL_isUnder_0 rfl rfl rfl ?_
  refine v_iload_n (i := 1) (q := 2) hC dL_isUnder_1 rfl rfl rfl ?_
  refine v_ialdN (q := 3) hC dL_isUnder_2 rfl rfl rfl (i := j) (rfl) (by first | decide | omega | (unfold oA; omega) | (unfold enA; omega)) (by decide) ?_
  refine v_istore_n (i := 3) (q := 4) hC dL_isUnder_3 rfl rfl (lvc rfl) (Nat.le_of_ble_eq_true rfl) (Nat.le_of_ble_eq_true rfl) rfl ?_
  rw [hD.p1 hj h1]
  rcases hD.par hrk hj h1 with h5 | ⟨k2, h5, h6, h7, h8⟩
  · rw [h5]
    refine E _ (Or.inl (by decide)) ?_
    unfold mBlw
    rw [h5, mBel, if_pos (by decide)]
  · rw [h6]
    exact L 20 k2 h5 h7 (by have := (hrk j (by omega)).1; omega) (by unfold mBlw; rw [h6])
theorem mHas_i (x : Int32) {u : Nat} (hu : u < 32) : mHas x (nI u) = bt x u := mHas_bt x hu
set_option maxHeartbeats 4000000 in
set_option maxRecDepth 20000 in
theorem c_L_isFor {l : Launch} (hl : l.stackTraces = false) (Θ : cTH) (li i u o : Nat) (v : Int32) (e0 : Nat → Int32) (G : GS) (hD : LD (G.2.1 0 30) (G.2.1 0 40) (G.2.1 0 41) e0) (hli : li < 20) (hi : i < 6) (hu : u < 12) (ho : o < 10) (h1 : G.2.1 0 30 (oA o 0) = 1) (hc : lCd (G.2.1 0 30) li i v) : Ct l yL_isFor cL_isFor 7 (some .boolean) rm_L_isFor Θ [.ref (tR Θ 0 40), .ref (tR Θ 0 41), .int v, .int (nI u), .int (nI o)] (G) (fR (some (.int (b2i (mFor (G.2.1 0 30) (nI u) o li i)))) G) := by
  refine ct_of (LS := [some (.ref (tR Θ 0 40)), some (.ref (tR Θ 0 41)), some (.int v), some (.int (nI u)), some (.int (nI o)), none, none]) hl (by decide +kernel) rfl (Nat.le_of_ble_eq_true rfl) rfl ?_
  intro p e s m args below meth c hC hr
  obtain ⟨kd, n, r, a, b, ⟨hk, hn, hr4⟩, rfl, ⟨e1, e2, e3⟩, e4, e5⟩ := hc
  obtain ⟨⟨d1, d2⟩, -⟩ := lCode_d kd hk n hn r hr4 a b
  have hF : mFor (G.2.1 0 30) (nI u) o li i = (if nI kd = 0 then decide (nI n = nI u) else if nI kd = 1 then mIsOf (G.2.1 0 30) (mGs (G.2.1 0 30)) (nI u) n else if nI kd = 2 then decide (G.2.1 0 30 (oA o 2) = nI u) else true) := by
    unfold mFor
    rw [e1, e2, nI_clamp (by omega)]
  have hpo := hD.po ho h1
  have R : ∀ b9 : Bool, mFor (G.2.1 0 30) (nI u) o li i = b9 → fR (some (.int (b2i (mFor (G.2.1 0 30) (nI u) o li i)))) G (.inl (some (.int (b2i b9)))) G := fun b9 h9 => ⟨by rw [h9], rfl⟩
  rcases (show kd = 0 ∨ kd = 1 ∨ kd = 2 ∨ kd = 3 by omega) with rfl | rfl | rfl | rfl
  · rw [if_pos (by decide)] at hF
    refine v_iload_n (i := 2) (q := 1) hC dL_isFor_0 rfl rfl rfl ?_
    refine v_bipush (q := 3) (v := 6) hC dL_isFor_1 rfl (by decide) ?_
    refine v_ishr (q := 4) hC dL_isFor_3 rfl ?_
    refine v_bipush (q := 6) (v := 15) hC dL_isFor_4 rfl (by decide) ?_
    refine v_iand (q := 7) hC dL_isFor_6 rfl ?_
    rw [d1]
    refine v_istore (q := 9) hC dL_isFor_7 rfl (lvc rfl) (Nat.le_of_ble_eq_true rfl) (Nat.le_of_ble_eq_true rfl) rfl ?_
    refine v_iload_n (i := 2) (q := 10) hC dL_isFor_9 rfl rfl rfl ?_
    refine v_bipush (q := 12) (v := 10) hC dL_isFor_10 rfl (by decide) ?_
    refine v_ishr (q := 13) hC dL_isFor_12 rfl ?_
    rw [d2]
    refine v_istore (q := 15) hC dL_isFor_13 rfl (lvc rfl) (Nat.le_of_ble_eq_true rfl) (Nat.le_of_ble_eq_true rfl) rfl ?_
    refine v_iload (q := 17) hC dL_isFor_15 rfl rfl ?_
    refine v_iconst (q := 18) (v := 3) hC dL_isFor_17 rfl (by decide) ?_
    refine v_icmp_eq (q := 68) (q2 := 21) hC dL_isFor_18 (by decide) rfl (fun c_18 => ?_) (fun c_18 => ?_)
    · exact absurd c_18 (by decide)
    · refine v_iload (q := 23) hC dL_isFor_21 rfl rfl ?_
      refine v_iconst (q := 24) (v := 2) hC dL_isFor_23 rfl (by decide) ?_
      refine v_icmp_ne (q := 38) (q2 := 27) hC dL_isFor_24 (by decide) rfl (fun c_24 => ?_) (fun c_24 => ?_)
      · refine v_iload (q := 40) hC dL_isFor_38 rfl rfl ?_
        refine v_iconst (q := 41) (v := 1) hC dL_isFor_40 rfl (by decide) ?_
        refine v_icmp_ne (q := 57) (q2 := 44) hC dL_isFor_41 (by decide) rfl (fun c_41 => ?_) (fun c_41 => ?_)
        · refine v_iload (q := 59) hC dL_isFor_57 rfl rfl ?_
          refine v_if_ne (q := 72) (q2 := 62) hC dL_isFor_59 (by decide) rfl (fun c_59 => ?_) (fun c_59 => ?_)
          · exact absurd c_59 (by decide)
          · refine v_iload (q := 64) hC dL_isFor_62 rfl rfl ?_
            refine v_iload_n (i := 3) (q := 65) hC dL_isFor_64 rfl rfl rfl ?_
            refine v_icmp_ne (q := 72) (q2 := 68) hC dL_isFor_65 (by decide) rfl (fun c_65 => ?_) (fun c_65 => ?_)
            · refine v_iconst (q := 73) (v := 0) hC dL_isFor_72 rfl (by decide) ?_
              refine v_iret hC dL_isFor_73 hr (by first | rfl | exact nar_b) ?_ (Nat.le_of_ble_eq_true rfl) (Nat.le_of_ble_eq_true rfl)
              first | exact R true (hF.trans (decide_eq_true (Classical.not_not.mp c_65))) | exact R true (hF.trans (decide_eq_true c_65)) | exact R false (hF.trans (decide_eq_false c_65))
            · refine v_iconst (q := 69) (v := 1) hC dL_isFor_68 rfl (by decide) ?_
              refine v_goto (q := 73) hC dL_isFor_69 (by decide) ?_
              refine v_iret hC dL_isFor_73 hr (by first | rfl | exact nar_b) ?_ (Nat.le_of_ble_eq_true rfl) (Nat.le_of_ble_eq_true rfl)
              first | exact R true (hF.trans (decide_eq_true (Classical.not_not.mp c_65))) | exact R true (hF.trans (decide_eq_true c_65)) | exact R false (hF.trans (decide_eq_false c_65))
        · exact absurd c_41 (by decide)
      · exact absurd c_24 (by decide)
  · rw [if_neg (by decide), if_pos (by decide)] at hF
    obtain ⟨g, hg, eg⟩ := hD.ok.who hli hi e1
    have hng : n = g := (nI_eq (by omega) (by omega)).mp (e2.symm.trans eg)
    have hn8 : n < 8 := by omega
    have hb := hD.belong hn8 (u := u) (by omega)
    refine v_iload_n (i := 2) (q := 1) hC dL_isFor_0 rfl rfl rfl ?_
    refine v_bipush (q := 3) (v := 6) hC dL_isFor_1 rfl (by decide) ?_
    refine v_ishr (q := 4) hC dL_isFor_3 rfl ?_
    refine v_bipush (q := 6) (v := 15) hC dL_isFor_4 rfl (by decide) ?_
    refine v_iand (q := 7) hC dL_isFor_6 rfl ?_
    rw [d1]
    refine v_istore (q := 9) hC dL_isFor_7 rfl (lvc rfl) (Nat.le_of_ble_eq_true rfl) (Nat.le_of_ble_eq_true rfl) rfl ?_
    refine v_iload_n (i := 2) (q := 10) hC dL_isFor_9 rfl rfl rfl ?_
    refine v_bipush (q := 12) (v := 10) hC dL_isFor_10 rfl (by decide) ?_
    refine v_ishr (q := 13) hC dL_isFor_12 rfl ?_
    rw [d2]
    refine v_istore (q := 15) hC dL_isFor_13 rfl (lvc rfl) (Nat.le_of_ble_eq_true rfl) (Nat.le_of_ble_eq_true rfl) rfl ?_
    refine v_iload (q := 17) hC dL_isFor_15 rfl rfl ?_
    refine v_iconst (q := 18) (v := 3) hC dL_isFor_17 rfl (by decide) ?_
    refine v_icmp_eq (q := 68) (q2 := 21) hC dL_isFor_18 (by decide) rfl (fun c_18 => ?_) (fun c_18 => ?_)
    · exact absurd c_18 (by decide)
    · refine v_iload (q := 23) hC dL_isFor_21 rfl rfl ?_
      refine v_iconst (q := 24) (v := 2) hC dL_isFor_23 rfl (by decide) ?_
      refine v_icmp_ne (q := 38) (q2 := 27) hC dL_isFor_24 (by decide) rfl (fun c_24 => ?_) (fun c_24 => ?_)
      · refine v_iload (q := 40) hC dL_isFor_38 rfl rfl ?_
        refine v_iconst (q := 41) (v := 1) hC dL_isFor_40 rfl (by decide) ?_
        refine v_icmp_ne (q := 57) (q2 := 44) hC dL_isFor_41 (by decide) rfl (fun c_41 => ?_) (fun c_41 => ?_)
        · exact absurd rfl c_41
        · refine v_aload_n (i := 0) (q := 45) hC dL_isFor_44 rfl rfl rfl ?_
          refine v_iload (q := 47) hC dL_isFor_45 rfl rfl ?_
          refine v_callSN (q := 50) (rm := rm_L_belong) hC (c_L_belong hl Θ n _ hn8 hD.g8) k_L_belong st_yL_belong ml_RL_181 dL_isFor_47 rfl rfl rfl (Nat.le_of_ble_eq_true rfl) ⟨Nat.le_of_ble_eq_true rfl, Nat.le_of_ble_eq_true rfl⟩ (c1 := 0) (s1 := 0) rfl rfl ⟨Nat.le_of_ble_eq_true rfl, Nat.le_of_ble_eq_true rfl⟩ (fR_k ?_) fR_n
          try dsimp only [Option.toList, List.cons_append, List.nil_append]
          refine v_iload_n (i := 3) (q := 51) hC dL_isFor_50 rfl rfl rfl ?_
          refine v_callSN (q := 54) (rm := rm_L_has) hC (c_L_has hl Θ _ _ _) k_L_has st_yL_has ml_RL_172 dL_isFor_51 rfl rfl rfl (Nat.le_of_ble_eq_true rfl) ⟨Nat.le_of_ble_eq_true rfl, Nat.le_of_ble_eq_true rfl⟩ (c1 := 0) (s1 := 0) rfl rfl ⟨Nat.le_of_ble_eq_true rfl, Nat.le_of_ble_eq_true rfl⟩ (fR_k ?_) fR_n
          try dsimp only [Option.toList, List.cons_append, List.nil_append]
          refine v_ifb_ne (q := 68) (q2 := 57) hC dL_isFor_54 (by decide) rfl (fun c_54 => ?_) (fun c_54 => ?_)
          · refine v_iconst (q := 69) (v := 1) hC dL_isFor_68 rfl (by decide) ?_
            refine v_goto (q := 73) hC dL_isFor_69 (by decide) ?_
            refine v_iret hC dL_isFor_73 hr (by first | rfl | exact nar_b) ?_ (Nat.le_of_ble_eq_true rfl) (Nat.le_of_ble_eq_true rfl)
            first | exact R true (hF.trans (hb.symm.trans ((mHas_i _ (by omega)).symm.trans c_54))) | exact R false (hF.trans (hb.symm.trans ((mHas_i _ (by omega)).symm.trans c_54)))
          · refine v_iload (q := 59) hC dL_isFor_57 rfl rfl ?_
            refine v_if_ne (q := 72) (q2 := 62) hC dL_isFor_59 (by decide) rfl (fun c_59 => ?_) (fun c_59 => ?_)
            · refine v_iconst (q := 73) (v := 0) hC dL_isFor_72 rfl (by decide) ?_
              refine v_iret hC dL_isFor_73 hr (by first | rfl | exact nar_b) ?_ (Nat.le_of_ble_eq_true rfl) (Nat.le_of_ble_eq_true rfl)
              first | exact R true (hF.trans (hb.symm.trans ((mHas_i _ (by omega)).symm.trans c_54))) | exact R false (hF.trans (hb.symm.trans ((mHas_i _ (by omega)).symm.trans c_54)))
            · exact absurd c_59 (by decide)
      · exact absurd c_24 (by decide)
  · rw [if_neg (by decide), if_neg (by decide), if_pos (by decide)] at hF
    refine v_iload_n (i := 2) (q := 1) hC dL_isFor_0 rfl rfl rfl ?_
    refine v_bipush (q := 3) (v := 6) hC dL_isFor_1 rfl (by decide) ?_
    refine v_ishr (q := 4) hC dL_isFor_3 rfl ?_
    refine v_bipush (q := 6) (v := 15) hC dL_isFor_4 rfl (by decide) ?_
    refine v_iand (q := 7) hC dL_isFor_6 rfl ?_
    rw [d1]
    refine v_istore (q := 9) hC dL_isFor_7 rfl (lvc rfl) (Nat.le_of_ble_eq_true rfl) (Nat.le_of_ble_eq_true rfl) rfl ?_
    refine v_iload_n (i := 2) (q := 10) hC dL_isFor_9 rfl rfl rfl ?_
    refine v_bipush (q := 12) (v := 10) hC dL_isFor_10 rfl (by decide) ?_
    refine v_ishr (q := 13) hC dL_isFor_12 rfl ?_
    rw [d2]
    refine v_istore (q := 15) hC dL_isFor_13 rfl (lvc rfl) (Nat.le_of_ble_eq_true rfl) (Nat.le_of_ble_eq_true rfl) rfl ?_
    refine v_iload (q := 17) hC dL_isFor_15 rfl rfl ?_
    refine v_iconst (q := 18) (v := 3) hC dL_isFor_17 rfl (by decide) ?_
    refine v_icmp_eq (q := 68) (q2 := 21) hC dL_isFor_18 (by decide) rfl (fun c_18 => ?_) (fun c_18 => ?_)
    · exact absurd c_18 (by decide)
    · refine v_iload (q := 23) hC dL_isFor_21 rfl rfl ?_
      refine v_iconst (q := 24) (v := 2) hC dL_isFor_23 rfl (by decide) ?_
      refine v_icmp_ne (q := 38) (q2 := 27) hC dL_isFor_24 (by decide) rfl (fun c_24 => ?_) (fun c_24 => ?_)
      · exact absurd rfl c_24
      · refine v_aload_n (i := 1) (q := 28) hC dL_isFor_27 rfl rfl rfl ?_
        refine v_bipush (q := 30) (v := 10) hC dL_isFor_28 rfl (by decide) ?_
        refine v_iload (q := 32) hC dL_isFor_30 rfl rfl ?_
        refine v_iadd (q := 33) hC dL_isFor_32 rfl ?_
        refine v_ialdV (q := 34) hC dL_isFor_33 rfl rfl rfl (i := 10 + o) (nI_add 10 o) (by first | decide | omega) (by decide) (hpo) ?_
        refine v_iload_n (i := 3) (q := 35) hC dL_isFor_34 rfl rfl rfl ?_
        refine v_icmp_eq (q := 68) (q2 := 38) hC dL_isFor_35 (by decide) rfl (fun c_35 => ?_) (fun c_35 => ?_)
        · refine v_iconst (q := 69) (v := 1) hC dL_isFor_68 rfl (by decide) ?_
          refine v_goto (q := 73) hC dL_isFor_69 (by decide) ?_
          refine v_iret hC dL_isFor_73 hr (by first | rfl | exact nar_b) ?_ (Nat.le_of_ble_eq_true rfl) (Nat.le_of_ble_eq_true rfl)
          first | exact R true (hF.trans (decide_eq_true c_35)) | exact R false (hF.trans (decide_eq_false c_35))
        · refine v_iload (q := 40) hC dL_isFor_38 rfl rfl ?_
          refine v_iconst (q := 41) (v := 1) hC dL_isFor_40 rfl (by decide) ?_
          refine v_icmp_ne (q := 57) (q2 := 44) hC dL_isFor_41 (by decide) rfl (fun c_41 => ?_) (fun c_41 => ?_)
          · refine v_iload (q := 59) hC dL_isFor_57 rfl rfl ?_
            refine v_if_ne (q := 72) (q2 := 62) hC dL_isFor_59 (by decide) rfl (fun c_59 => ?_) (fun c_59 => ?_)
            · refine v_iconst (q := 73) (v := 0) hC dL_isFor_72 rfl (by decide) ?_
              refine v_iret hC dL_isFor_73 hr (by first | rfl | exact nar_b) ?_ (Nat.le_of_ble_eq_true rfl) (Nat.le_of_ble_eq_true rfl)
              first | exact R true (hF.trans (decide_eq_true c_35)) | exact R false (hF.trans (decide_eq_false c_35))
            · exact absurd c_59 (by decide)
          · exact absurd c_41 (by decide)
  · rw [if_neg (by decide), if_neg (by decide), if_neg (by decide)] at hF
    refine v_iload_n (i := 2) (q := 1) hC dL_isFor_0 rfl rfl rfl ?_
    refine v_bipush (q := 3) (v := 6) hC dL_isFor_1 rfl (by decide) ?_
    refine v_ishr (q := 4) hC dL_isFor_3 rfl ?_
    refine v_bipush (q := 6) (v := 15) hC dL_isFor_4 rfl (by decide) ?_
    refine v_iand (q := 7) hC dL_isFor_6 rfl ?_
    rw [d1]
    refine v_istore (q := 9) hC dL_isFor_7 rfl (lvc rfl) (Nat.le_of_ble_eq_true rfl) (Nat.le_of_ble_eq_true rfl) rfl ?_
    refine v_iload_n (i := 2) (q := 10) hC dL_isFor_9 rfl rfl rfl ?_
    refine v_bipush (q := 12) (v := 10) hC dL_isFor_10 rfl (by decide) ?_
    refine v_ishr (q := 13) hC dL_isFor_12 rfl ?_
    rw [d2]
    refine v_istore (q := 15) hC dL_isFor_13 rfl (lvc rfl) (Nat.le_of_ble_eq_true rfl) (Nat.le_of_ble_eq_true rfl) rfl ?_
    refine v_iload (q := 17) hC dL_isFor_15 rfl rfl ?_
    refine v_iconst (q := 18) (v := 3) hC dL_isFor_17 rfl (by decide) ?_
    refine v_icmp_eq (q := 68) (q2 := 21) hC dL_isFor_18 (by decide) rfl (fun c_18 => ?_) (fun c_18 => ?_)
    · refine v_iconst (q := 69) (v := 1) hC dL_isFor_68 rfl (by decide) ?_
      refine v_goto (q := 73) hC dL_isFor_69 (by decide) ?_
      refine v_iret hC dL_isFor_73 hr (by first | rfl | exact nar_b) ?_ (Nat.le_of_ble_eq_true rfl) (Nat.le_of_ble_eq_true rfl)
      exact R true hF
    · exact absurd rfl c_18
