/-! The reference: what is allowed -/
theorem mDeI_lt {w : Nat → Int32} {u : Int32} {o : Nat} {r : Int32} {li : Nat} : ∀ (n i : Nat) {k : Nat}, mDeI w u o r li n i = some k → k < n + i := by
  intro n
  induction n with
  | zero => intro i k h; rw [mDeI] at h; cases h
  | succ n ih =>
    intro i k h
    rw [mDeI] at h
    by_cases h1 : mCo w u o r li i = true
    · rw [if_pos h1] at h
      cases h
      omega
    · rw [if_neg h1] at h
      have := ih (i + 1) h
      omega
theorem mDe_rng {w : Nat → Int32} (hw : mOk w) (u : Int32) (o : Nat) (r : Int32) : ∀ (n : Nat) (x : Int32), (x = -1 ∨ ∃ j, j < 20 ∧ x = nI j) → mDe w u o r n x = -1 ∨ ∃ li i, li < 20 ∧ i < 6 ∧ i < mCt w li ∧ mDe w u o r n x = nI (6 * li + i) := by
  intro n
  induction n with
  | zero => intro x _; exact Or.inl (by rw [mDe])
  | succ n ih =>
    rintro x (rfl | ⟨j, hj, rfl⟩)
    · exact Or.inl (mDe_m1 _ _ _ _ _)
    · rw [mDe, if_neg (nI_pos (by omega)), nI_clamp (by omega)]
      cases h : mDeI w u o r j (mCt w j) 0 with
      | some k =>
        have h1 := mDeI_lt _ _ h
        have h6 := hw.ct6 hj
        exact Or.inr ⟨j, k, hj, by omega, by omega, rfl⟩
      | none =>
        dsimp only
        obtain ⟨rk, hrk⟩ := hw.rk
        by_cases h4 : w (oA j 4) = 1
        · rw [if_pos h4]
          refine ih _ ?_
          rcases (hrk j hj).2 with z | ⟨j2, h5, h6, h7⟩
          · exact Or.inl z
          · exact Or.inr ⟨j2, h5, h6⟩
        · rw [if_neg h4]
          exact Or.inl (mDe_m1 _ _ _ _ _)
theorem mDec_rng {w : Nat → Int32} (hw : mOk w) (u : Int32) {o : Nat} (ho : o < 20) (r : Int32) : mDec w u o r = -1 ∨ ∃ li i, li < 20 ∧ i < 6 ∧ i < mCt w li ∧ mDec w u o r = nI (6 * li + i) := mDe_rng hw u o r 20 _ (Or.inr ⟨o, ho, rfl⟩)
def mByL (w : Nat → Int32) (u : Int32) (o : Nat) (r : Int32) : Bool := if mDec w u o r < 0 then false else decide (w (enA ((mDec w u o r).toNatClampNeg / 6) ((mDec w u o r).toNatClampNeg % 6) 3) = 1)
set_option maxHeartbeats 4000000 in
set_option maxRecDepth 20000 in
theorem c_X12_isByList {l : Launch} (hl : l.stackTraces = false) (Θ : cTH) (u : Int32) (o : Nat) (r : Int32) (G : GS) (hm : mOk (G.2.1 0 30)) (ho : o < 20) : Ct l yX12_isByList cX12_isByList 5 (some .boolean) rm_X12_isByList Θ [.ref (tR Θ 0 29), .int u, .int (nI o), .int r] (G) (fR (some (.int (b2i (mByL (G.2.1 0 30) u o r)))) G) := by
  refine ct_of (LS := [some (.ref (tR Θ 0 29)), some (.int u), some (.int (nI o)), some (.int r), none]) hl (by decide +kernel) rfl (Nat.le_of_ble_eq_true rfl) rfl ?_
  intro p e s m args below meth c hC hr
  rcases mDec_rng hm u ho r with h | ⟨li, i, hl2, hi, -, h⟩
  ·
    refine v_aload_n (i := 0) (q := 1) hC dX12_isByList_0 rfl rfl rfl ?_
    refine v_iload_n (i := 1) (q := 2) hC dX12_isByList_1 rfl rfl rfl ?_
    refine v_iload_n (i := 2) (q := 3) hC dX12_isByList_2 rfl rfl rfl ?_
    refine v_iload_n (i := 3) (q := 4) hC dX12_isByList_3 rfl rfl rfl ?_
    refine v_callV (q := 7) (rm := rm_X12_decides) hC (c_X12_decides hl Θ _ o _ _ hm ho) k_X12_decides im_yX12_decides se_yX12_decides ml_RX12_144 dX12_isByList_4 rfl rfl rfl rfl rfl rfl (Nat.le_of_ble_eq_true rfl) ⟨Nat.le_of_ble_eq_true rfl, Nat.le_of_ble_eq_true rfl⟩ ⟨Nat.le_of_ble_eq_true rfl, Nat.le_of_ble_eq_true rfl⟩ (fR_k ?_) fR_x (Nat.le_of_ble_eq_true rfl) (Nat.le_of_ble_eq_true rfl)
    try dsimp only [Option.toList, List.cons_append, List.nil_append]
    rw [h]
    refine v_istore (q := 9) hC dX12_isByList_7 rfl (lvc rfl) (Nat.le_of_ble_eq_true rfl) (Nat.le_of_ble_eq_true rfl) rfl ?_
    refine v_iload (q := 11) hC dX12_isByList_9 rfl rfl ?_
    refine v_if_lt (q := 37) (q2 := 14) hC dX12_isByList_11 (by decide) rfl (fun c_11 => ?_) (fun c_11 => ?_)
    · refine v_iconst (q := 38) (v := 0) hC dX12_isByList_37 rfl (by decide) ?_
      refine v_iret hC dX12_isByList_38 hr (by first | rfl | exact nar_b) ?_ (Nat.le_of_ble_eq_true rfl) (Nat.le_of_ble_eq_true rfl)
      exact ⟨by rw [mByL, h, if_pos (by decide)]; rfl, rfl⟩
    · exact absurd (by decide) c_11
  ·
    refine v_aload_n (i := 0) (q := 1) hC dX12_isByList_0 rfl rfl rfl ?_
    refine v_iload_n (i := 1) (q := 2) hC dX12_isByList_1 rfl rfl rfl ?_
    refine v_iload_n (i := 2) (q := 3) hC dX12_isByList_2 rfl rfl rfl ?_
    refine v_iload_n (i := 3) (q := 4) hC dX12_isByList_3 rfl rfl rfl ?_
    refine v_callV (q := 7) (rm := rm_X12_decides) hC (c_X12_decides hl Θ _ o _ _ hm ho) k_X12_decides im_yX12_decides se_yX12_decides ml_RX12_144 dX12_isByList_4 rfl rfl rfl rfl rfl rfl (Nat.le_of_ble_eq_true rfl) ⟨Nat.le_of_ble_eq_true rfl, Nat.le_of_ble_eq_true rfl⟩ ⟨Nat.le_of_ble_eq_true rfl, Nat.le_of_ble_eq_true rfl⟩ (fR_k ?_) fR_x (Nat.le_of_ble_eq_true rfl) (Nat.le_of_ble_eq_true rfl)
    try dsimp only [Option.toList, List.cons_append, List.nil_append]
    rw [h]
    refine v_istore (q := 9) hC dX12_isByList_7 rfl (lvc rfl) (Nat.le_of_ble_eq_true rfl) (Nat.le_of_ble_eq_true rfl) rfl ?_
    refine v_iload (q := 11) hC dX12_isByList_9 rfl rfl ?_
    refine v_if_lt (q := 37) (q2 := 14) hC dX12_isByList_11 (by decide) rfl (fun c_11 => ?_) (fun c_11 => ?_)
    · exact absurd c_11 (nI_pos (by omega))
    · refine v_aload_n (i := 0) (q := 15) hC dX12_isByList_14 rfl rfl rfl ?_
      refine v_iload (q := 17) hC dX12_isByList_15 rfl rfl ?_
      refine v_bipush (q := 19) (v := 6) hC dX12_isByList_17 rfl (by decide) ?_
      refine v_idiv (q := 20) hC dX12_isByList_19 rfl (by decide) ?_
      refine v_iload (q := 22) hC dX12_isByList_20 rfl rfl ?_
      refine v_bipush (q := 24) (v := 6) hC dX12_isByList_22 rfl (by decide) ?_
      refine v_irem (q := 25) hC dX12_isByList_24 rfl (by decide) ?_
      rw [show (6 : Int32) = nI 6 from rfl, pk_rem (by omega) (by decide) (by decide), pk_div (by omega) (by decide) (by decide), show (6 * li + i) / 6 = li by omega, show (6 * li + i) % 6 = i by omega]
      refine v_iconst (q := 26) (v := 3) hC dX12_isByList_25 rfl (by decide) ?_
      refine v_callV (q := 29) (rm := rm_X12_ofEntry) hC (c_X12_ofEntry hl Θ li i 3 _ (by unfold enA; omega)) k_X12_ofEntry im_yX12_ofEntry se_yX12_ofEntry ml_RX12_122 dX12_isByList_26 rfl rfl rfl rfl rfl rfl (Nat.le_of_ble_eq_true rfl) ⟨Nat.le_of_ble_eq_true rfl, Nat.le_of_ble_eq_true rfl⟩ ⟨Nat.le_of_ble_eq_true rfl, Nat.le_of_ble_eq_true rfl⟩ (fR_k ?_) fR_x (Nat.le_of_ble_eq_true rfl) (Nat.le_of_ble_eq_true rfl)
      try dsimp only [Option.toList, List.cons_append, List.nil_append]
      refine v_iconst (q := 30) (v := 1) hC dX12_isByList_29 rfl (by decide) ?_
      refine v_icmp_ne (q := 37) (q2 := 33) hC dX12_isByList_30 (by decide) rfl (fun c_30 => ?_) (fun c_30 => ?_)
      · refine v_iconst (q := 38) (v := 0) hC dX12_isByList_37 rfl (by decide) ?_
        refine v_iret hC dX12_isByList_38 hr (by first | rfl | exact nar_b) ?_ (Nat.le_of_ble_eq_true rfl) (Nat.le_of_ble_eq_true rfl)
        refine ⟨?_, rfl⟩
        rw [mByL, h, if_neg (nI_pos (by omega)), nI_clamp (by omega), show (6 * li + i) / 6 = li by omega, show (6 * li + i) % 6 = i by omega]
        first | (rw [decide_eq_true c_30]; rfl) | (rw [decide_eq_false c_30]; rfl)
      · refine v_iconst (q := 34) (v := 1) hC dX12_isByList_33 rfl (by decide) ?_
        refine v_goto (q := 38) hC dX12_isByList_34 (by decide) ?_
        refine v_iret hC dX12_isByList_38 hr (by first | rfl | exact nar_b) ?_ (Nat.le_of_ble_eq_true rfl) (Nat.le_of_ble_eq_true rfl)
        refine ⟨?_, rfl⟩
        rw [mByL, h, if_neg (nI_pos (by omega)), nI_clamp (by omega), show (6 * li + i) / 6 = li by omega, show (6 * li + i) % 6 = i by omega]
        first | (rw [decide_eq_true c_30]; rfl) | (rw [decide_eq_false c_30]; rfl)
def mAl (w : Nat → Int32) (u : Int32) (o : Nat) (r : Int32) : Bool := decide (u = 0) || ((decide (r = 3) && decide (w (oA o 2) = u)) || (mHas (w (oA o 3)) r && mByL w u o r))
set_option maxHeartbeats 4000000 in
set_option maxRecDepth 20000 in
theorem c_X12_allows {l : Launch} (hl : l.stackTraces = false) (Θ : cTH) (u : Int32) (o : Nat) (r : Int32) (G : GS) (hm : mOk (G.2.1 0 30)) (ho : o < 20) : Ct l yX12_allows cX12_allows 4 (some .boolean) rm_X12_allows Θ [.ref (tR Θ 0 29), .int u, .int (nI o), .int r] (G) (fR (some (.int (b2i (mAl (G.2.1 0 30) u o r)))) G) := by
  refine ct_of (LS := [some (.ref (tR Θ 0 29)), some (.int u), some (.int (nI o)), some (.int r)]) hl (by decide +kernel) rfl (Nat.le_of_ble_eq_true rfl) rfl ?_
  intro p e s m args below meth c hC hr
  refine v_iload_n (i := 1) (q := 1) hC dX12_allows_0 rfl rfl rfl ?_
  refine v_if_eq (q := 42) (q2 := 4) hC dX12_allows_1 (by decide) rfl (fun c_1 => ?_) (fun c_1 => ?_)
  · refine v_iconst (q := 43) (v := 1) hC dX12_allows_42 rfl (by decide) ?_
    refine v_goto (q := 47) hC dX12_allows_43 (by decide) ?_
    refine v_iret hC dX12_allows_47 hr (by first | rfl | exact nar_b) ?_ (Nat.le_of_ble_eq_true rfl) (Nat.le_of_ble_eq_true rfl)
    exact ⟨by simp_all [mAl, b2i], rfl⟩
  · refine v_iload_n (i := 3) (q := 5) hC dX12_allows_4 rfl rfl rfl ?_
    refine v_iconst (q := 6) (v := 3) hC dX12_allows_5 rfl (by decide) ?_
    refine v_icmp_ne (q := 19) (q2 := 9) hC dX12_allows_6 (by decide) rfl (fun c_6 => ?_) (fun c_6 => ?_)
    · refine v_aload_n (i := 0) (q := 20) hC dX12_allows_19 rfl rfl rfl ?_
      refine v_iload_n (i := 2) (q := 21) hC dX12_allows_20 rfl rfl rfl ?_
      refine v_iconst (q := 22) (v := 3) hC dX12_allows_21 rfl (by decide) ?_
      refine v_callV (q := 25) (rm := rm_X12_of) hC (c_X12_of hl Θ _ 3 _ (by unfold oA; omega)) k_X12_of im_yX12_of se_yX12_of ml_RX12_54 dX12_allows_22 rfl rfl rfl rfl rfl rfl (Nat.le_of_ble_eq_true rfl) ⟨Nat.le_of_ble_eq_true rfl, Nat.le_of_ble_eq_true rfl⟩ ⟨Nat.le_of_ble_eq_true rfl, Nat.le_of_ble_eq_true rfl⟩ (fR_k ?_) fR_x (Nat.le_of_ble_eq_true rfl) (Nat.le_of_ble_eq_true rfl)
      try dsimp only [Option.toList, List.cons_append, List.nil_append]
      refine v_iload_n (i := 3) (q := 26) hC dX12_allows_25 rfl rfl rfl ?_
      refine v_callS (q := 29) (rm := rm_X12_has) hC (c_X12_has hl Θ _ _ _) k_X12_has st_yX12_has ml_RX12_65 dX12_allows_26 rfl  rfl rfl (Nat.le_of_ble_eq_true rfl) ⟨Nat.le_of_ble_eq_true rfl, Nat.le_of_ble_eq_true rfl⟩ ⟨Nat.le_of_ble_eq_true rfl, Nat.le_of_ble_eq_true rfl⟩ (fR_k ?_) fR_x (Nat.le_of_ble_eq_true rfl) (Nat.le_of_ble_eq_true rfl)
      try dsimp only [Option.toList, List.cons_append, List.nil_append]
      refine v_ifb_eq (q := 46) (q2 := 32) hC dX12_allows_29 (by decide) rfl (fun c_29 => ?_) (fun c_29 => ?_)
      · refine v_iconst (q := 47) (v := 0) hC dX12_allows_46 rfl (by decide) ?_
        refine v_iret hC dX12_allows_47 hr (by first | rfl | exact nar_b) ?_ (Nat.le_of_ble_eq_true rfl) (Nat.le_of_ble_eq_true rfl)
        exact ⟨by simp_all [mAl, b2i], rfl⟩
      · refine v_aload_n (i := 0) (q := 33) hC dX12_allows_32 rfl rfl rfl ?_
        refine v_iload_n (i := 1) (q := 34) hC dX12_allows_33 rfl rfl rfl ?_
        refine v_iload_n (i := 2) (q := 35) hC dX12_allows_34 rfl rfl rfl ?_
        refine v_iload_n (i := 3) (q := 36) hC dX12_allows_35 rfl rfl rfl ?_
        refine v_callV (q := 39) (rm := rm_X12_isByList) hC (c_X12_isByList hl Θ _ o _ _ hm ho) k_X12_isByList im_yX12_isByList se_yX12_isByList ml_RX12_147 dX12_allows_36 rfl rfl rfl rfl rfl rfl (Nat.le_of_ble_eq_true rfl) ⟨Nat.le_of_ble_eq_true rfl, Nat.le_of_ble_eq_true rfl⟩ ⟨Nat.le_of_ble_eq_true rfl, Nat.le_of_ble_eq_true rfl⟩ (fR_k ?_) fR_x (Nat.le_of_ble_eq_true rfl) (Nat.le_of_ble_eq_true rfl)
        try dsimp only [Option.toList, List.cons_append, List.nil_append]
        refine v_ifb_eq (q := 46) (q2 := 42) hC dX12_allows_39 (by decide) rfl (fun c_39 => ?_) (fun c_39 => ?_)
        · refine v_iconst (q := 47) (v := 0) hC dX12_allows_46 rfl (by decide) ?_
          refine v_iret hC dX12_allows_47 hr (by first | rfl | exact nar_b) ?_ (Nat.le_of_ble_eq_true rfl) (Nat.le_of_ble_eq_true rfl)
          exact ⟨by simp_all [mAl, b2i], rfl⟩
        · refine v_iconst (q := 43) (v := 1) hC dX12_allows_42 rfl (by decide) ?_
          refine v_goto (q := 47) hC dX12_allows_43 (by decide) ?_
          refine v_iret hC dX12_allows_47 hr (by first | rfl | exact nar_b) ?_ (Nat.le_of_ble_eq_true rfl) (Nat.le_of_ble_eq_true rfl)
          exact ⟨by simp_all [mAl, b2i], rfl⟩
    · refine v_aload_n (i := 0) (q := 10) hC dX12_allows_9 rfl rfl rfl ?_
      refine v_iload_n (i := 2) (q := 11) hC dX12_allows_10 rfl rfl rfl ?_
      refine v_iconst (q := 12) (v := 2) hC dX12_allows_11 rfl (by decide) ?_
      refine v_callV (q := 15) (rm := rm_X12_of) hC (c_X12_of hl Θ _ 2 _ (by unfold oA; omega)) k_X12_of im_yX12_of se_yX12_of ml_RX12_54 dX12_allows_12 rfl rfl rfl rfl rfl rfl (Nat.le_of_ble_eq_true rfl) ⟨Nat.le_of_ble_eq_true rfl, Nat.le_of_ble_eq_true rfl⟩ ⟨Nat.le_of_ble_eq_true rfl, Nat.le_of_ble_eq_true rfl⟩ (fR_k ?_) fR_x (Nat.le_of_ble_eq_true rfl) (Nat.le_of_ble_eq_true rfl)
      try dsimp only [Option.toList, List.cons_append, List.nil_append]
      refine v_iload_n (i := 1) (q := 16) hC dX12_allows_15 rfl rfl rfl ?_
      refine v_icmp_eq (q := 42) (q2 := 19) hC dX12_allows_16 (by decide) rfl (fun c_16 => ?_) (fun c_16 => ?_)
      · refine v_iconst (q := 43) (v := 1) hC dX12_allows_42 rfl (by decide) ?_
        refine v_goto (q := 47) hC dX12_allows_43 (by decide) ?_
        refine v_iret hC dX12_allows_47 hr (by first | rfl | exact nar_b) ?_ (Nat.le_of_ble_eq_true rfl) (Nat.le_of_ble_eq_true rfl)
        exact ⟨by simp_all [mAl, b2i], rfl⟩
      · refine v_aload_n (i := 0) (q := 20) hC dX12_allows_19 rfl rfl rfl ?_
        refine v_iload_n (i := 2) (q := 21) hC dX12_allows_20 rfl rfl rfl ?_
        refine v_iconst (q := 22) (v := 3) hC dX12_allows_21 rfl (by decide) ?_
        refine v_callV (q := 25) (rm := rm_X12_of) hC (c_X12_of hl Θ _ 3 _ (by unfold oA; omega)) k_X12_of im_yX12_of se_yX12_of ml_RX12_54 dX12_allows_22 rfl rfl rfl rfl rfl rfl (Nat.le_of_ble_eq_true rfl) ⟨Nat.le_of_ble_eq_true rfl, Nat.le_of_ble_eq_true rfl⟩ ⟨Nat.le_of_ble_eq_true rfl, Nat.le_of_ble_eq_true rfl⟩ (fR_k ?_) fR_x (Nat.le_of_ble_eq_true rfl) (Nat.le_of_ble_eq_true rfl)
        try dsimp only [Option.toList, List.cons_append, List.nil_append]
        refine v_iload_n (i := 3) (q := 26) hC dX12_allows_25 rfl rfl rfl ?_
        refine v_callS (q := 29) (rm := rm_X12_has) hC (c_X12_has hl Θ _ _ _) k_X12_has st_yX12_has ml_RX12_65 dX12_allows_26 rfl  rfl rfl (Nat.le_of_ble_eq_true rfl) ⟨Nat.le_of_ble_eq_true rfl, Nat.le_of_ble_eq_true rfl⟩ ⟨Nat.le_of_ble_eq_true rfl, Nat.le_of_ble_eq_true rfl⟩ (fR_k ?_) fR_x (Nat.le_of_ble_eq_true rfl) (Nat.le_of_ble_eq_true rfl)
        try dsimp only [Option.toList, List.cons_append, List.nil_append]
        refine v_ifb_eq (q := 46) (q2 := 32) hC dX12_allows_29 (by decide) rfl (fun c_29 => ?_) (fun c_29 => ?_)
        · refine v_iconst (q := 47) (v := 0) hC dX12_allows_46 rfl (by decide) ?_
          refine v_iret hC dX12_allows_47 hr (by first | rfl | exact nar_b) ?_ (Nat.le_of_ble_eq_true rfl) (Nat.le_of_ble_eq_true rfl)
          exact ⟨by simp_all [mAl, b2i], rfl⟩
        · refine v_aload_n (i := 0) (q := 33) hC dX12_allows_32 rfl rfl rfl ?_
          refine v_iload_n (i := 1) (q := 34) hC dX12_allows_33 rfl rfl rfl ?_
          refine v_iload_n (i := 2) (q := 35) hC dX12_allows_34 rfl rfl rfl ?_
          refine v_iload_n (i := 3) (q := 36) hC dX12_allows_35 rfl rfl rfl ?_
          refine v_callV (q := 39) (rm := rm_X12_isByList) hC (c_X12_isByList hl Θ _ o _ _ hm ho) k_X12_isByList im_yX12_isByList se_yX12_isByList ml_RX12_147 dX12_allows_36 rfl rfl rfl rfl rfl rfl (Nat.le_of_ble_eq_true rfl) ⟨Nat.le_of_ble_eq_true rfl, Nat.le_of_ble_eq_true rfl⟩ ⟨Nat.le_of_ble_eq_true rfl, Nat.le_of_ble_eq_true rfl⟩ (fR_k ?_) fR_x (Nat.le_of_ble_eq_true rfl) (Nat.le_of_ble_eq_true rfl)
          try dsimp only [Option.toList, List.cons_append, List.nil_append]
          refine v_ifb_eq (q := 46) (q2 := 42) hC dX12_allows_39 (by decide) rfl (fun c_39 => ?_) (fun c_39 => ?_)
          · refine v_iconst (q := 47) (v := 0) hC dX12_allows_46 rfl (by decide) ?_
            refine v_iret hC dX12_allows_47 hr (by first | rfl | exact nar_b) ?_ (Nat.le_of_ble_eq_true rfl) (Nat.le_of_ble_eq_true rfl)
            exact ⟨by simp_all [mAl, b2i], rfl⟩
          · refine v_iconst (q := 43) (v := 1) hC dX12_allows_42 rfl (by decide) ?_
            refine v_goto (q := 47) hC dX12_allows_43 (by decide) ?_
            refine v_iret hC dX12_allows_47 hr (by first | rfl | exact nar_b) ?_ (Nat.le_of_ble_eq_true rfl) (Nat.le_of_ble_eq_true rfl)
            exact ⟨by simp_all [mAl, b2i], rfl⟩
def mRi (f : Nat → Bool) : Nat → Nat → Int32 → Int32
  | 0, _, x => x
  | n + 1, j, x => mRi f n (j + 1) (x ||| (if f j = true then ((1 : Int32) <<< (nI j &&& 31)) else 0))
def mRg (w : Nat → Int32) (u : Int32) (o : Nat) : Int32 := mRi (fun j => mAl w u o (nI j)) 4 0 0
set_option maxHeartbeats 4000000 in
set_option maxRecDepth 20000 in
theorem c_X12_rights {l : Launch} (hl : l.stackTraces = false) (Θ : cTH) (u : Int32) (o : Nat) (G : GS) (hm : mOk (G.2.1 0 30)) (ho : o < 20) : Ct l yX12_rights cX12_rights 5 (some .int) rm_X12_rights Θ [.ref (tR Θ 0 29), .int u, .int (nI o)] (G) (fR (some (.int (mRg (G.2.1 0 30) u o))) G) := by
  refine ct_of (LS := [some (.ref (tR Θ 0 29)), some (.int u), some (.int (nI o)), none, none]) hl (by decide +kernel) rfl (Nat.le_of_ble_eq_true rfl) rfl ?_
  intro p e s m args below meth c hC hr
  have L : ∀ (n j : Nat) (x : Int32), n + j = 4 → mRi (fun j => mAl (G.2.1 0 30) u o (nI j)) n j x = mRg (G.2.1 0 30) u o → V p l e rm_X12_rights s m args below meth c 5 Θ (fR (some (.int (mRg (G.2.1 0 30) u o))) G) 0 0 0 0 5 [some (.ref (tR Θ 0 29)), some (.int u), some (.int (nI o)), some (.int x), some (.int (nI j))] [] (G) := by
    intro n
    induction n with
    | zero =>
      intro j x h1 h2
      refine v_iload (q := 7) hC dX12_rights_5 rfl rfl ?_
      refine v_iconst (q := 8) (v := 3) hC dX12_rights_7 rfl (by decide) ?_
      refine v_icmp_gt (q := 39) (q2 := 11) hC dX12_rights_8 (by decide) rfl (fun c_8 => ?_) (fun c_8 => ?_)
      · refine v_iload_n (i := 3) (q := 40) hC dX12_rights_39 rfl rfl rfl ?_
        refine v_iret hC dX12_rights_40 hr (rfl) ?_ (Nat.le_of_ble_eq_true rfl) (Nat.le_of_ble_eq_true rfl)
        exact ⟨by rw [← h2, mRi], rfl⟩
      · exact absurd (by rw [show j = 4 by omega]; decide) c_8
    | succ n ih =>
      intro j x h1 h2
      rw [mRi] at h2
      refine v_iload (q := 7) hC dX12_rights_5 rfl rfl ?_
      refine v_iconst (q := 8) (v := 3) hC dX12_rights_7 rfl (by decide) ?_
      refine v_icmp_gt (q := 39) (q2 := 11) hC dX12_rights_8 (by decide) rfl (fun c_8 => ?_) (fun c_8 => ?_)
      · exact absurd c_8 (nI_nlt (b := j) (a := 3) (by omega) (by decide))
      · refine v_iload_n (i := 3) (q := 12) hC dX12_rights_11 rfl rfl rfl ?_
        refine v_aload_n (i := 0) (q := 13) hC dX12_rights_12 rfl rfl rfl ?_
        refine v_iload_n (i := 1) (q := 14) hC dX12_rights_13 rfl rfl rfl ?_
        refine v_iload_n (i := 2) (q := 15) hC dX12_rights_14 rfl rfl rfl ?_
        refine v_iload (q := 17) hC dX12_rights_15 rfl rfl ?_
        refine v_callV (q := 20) (rm := rm_X12_allows) hC (c_X12_allows hl Θ _ o _ _ hm ho) k_X12_allows im_yX12_allows se_yX12_allows ml_RX12_150 dX12_rights_17 rfl rfl rfl rfl rfl rfl (Nat.le_of_ble_eq_true rfl) ⟨Nat.le_of_ble_eq_true rfl, Nat.le_of_ble_eq_true rfl⟩ ⟨Nat.le_of_ble_eq_true rfl, Nat.le_of_ble_eq_true rfl⟩ (fR_k ?_) fR_x (Nat.le_of_ble_eq_true rfl) (Nat.le_of_ble_eq_true rfl)
        try dsimp only [Option.toList, List.cons_append, List.nil_append]
        refine v_ifb_eq (q := 30) (q2 := 23) hC dX12_rights_20 (by decide) rfl (fun c_20 => ?_) (fun c_20 => ?_)
        · refine v_iconst (q := 31) (v := 0) hC dX12_rights_30 rfl (by decide) ?_
          refine v_ior (q := 32) hC dX12_rights_31 rfl ?_
          refine v_istore_n (i := 3) (q := 33) hC dX12_rights_32 rfl rfl (lvc rfl) (Nat.le_of_ble_eq_true rfl) (Nat.le_of_ble_eq_true rfl) rfl ?_
          refine v_iinc (q := 36) (v := nI (j + 1)) hC dX12_rights_33 rfl rfl (nI_1 j) (lvc rfl) (Nat.le_of_ble_eq_true rfl) (Nat.le_of_ble_eq_true rfl) rfl ?_
          refine v_goto (q := 5) hC dX12_rights_36 (by decide) ?_
          refine ih (j + 1) _ (by omega) ?_
          rw [← h2]
          first | rw [if_pos c_20] | rw [if_neg (by rw [c_20]; decide)]
        · refine v_iconst (q := 24) (v := 1) hC dX12_rights_23 rfl (by decide) ?_
          refine v_iload (q := 26) hC dX12_rights_24 rfl rfl ?_
          refine v_ishl (q := 27) hC dX12_rights_26 rfl ?_
          refine v_goto (q := 31) hC dX12_rights_27 (by decide) ?_
          refine v_ior (q := 32) hC dX12_rights_31 rfl ?_
          refine v_istore_n (i := 3) (q := 33) hC dX12_rights_32 rfl rfl (lvc rfl) (Nat.le_of_ble_eq_true rfl) (Nat.le_of_ble_eq_true rfl) rfl ?_
          refine v_iinc (q := 36) (v := nI (j + 1)) hC dX12_rights_33 rfl rfl (nI_1 j) (lvc rfl) (Nat.le_of_ble_eq_true rfl) (Nat.le_of_ble_eq_true rfl) rfl ?_
          refine v_goto (q := 5) hC dX12_rights_36 (by decide) ?_
          refine ih (j + 1) _ (by omega) ?_
          rw [← h2]
          first | rw [if_pos c_20] | rw [if_neg (by rw [c_20]; decide)]
  refine v_iconst (q := 1) (v := 0) hC dX12_rights_0 rfl (by decide) ?_
  refine v_istore_n (i := 3) (q := 2) hC dX12_rights_1 rfl rfl (lvc rfl) (Nat.le_of_ble_eq_true rfl) (Nat.le_of_ble_eq_true rfl) rfl ?_
  refine v_iconst (q := 3) (v := 0) hC dX12_rights_2 rfl (by decide) ?_
  refine v_istore (q := 5) hC dX12_rights_3 rfl (lvc rfl) (Nat.le_of_ble_eq_true rfl) (Nat.le_of_ble_eq_true rfl) rfl ?_
  exact L 4 0 0 rfl rfl
def mEvO (w : Nat → Int32) (u : Int32) : Nat → Nat → Int32 → Int32
  | 0, _, t => t
  | n + 1, j, t => mEvO w u n (j + 1) (t + (if mHold w (nI j) = true then mSz (mRg w u j) 20 0 0 else 0))
def mEv (w : Nat → Int32) : Nat → Nat → Int32 → Int32
  | 0, _, t => t
  | n + 1, j, t => mEv w n (j + 1) (mEvO w (nI j) 20 0 t)
set_option maxHeartbeats 4000000 in
set_option maxRecDepth 20000 in
theorem c_X12_everything {l : Launch} (hl : l.stackTraces = false) (Θ : cTH) (G : GS) (hm : mOk (G.2.1 0 30)) : Ct l yX12_everything cX12_everything 4 (some .int) rm_X12_everything Θ [.ref (tR Θ 0 29)] (G) (fR (some (.int (mEv (G.2.1 0 30) (mUs (G.2.1 0 30)) 0 0))) G) := by
  refine ct_of (LS := [some (.ref (tR Θ 0 29)), none, none, none]) hl (by decide +kernel) rfl (Nat.le_of_ble_eq_true rfl) rfl ?_
  intro p e s m args below meth c hC hr
  have hu := hm.us
  have hu12 := hm.us12
  have L : ∀ (n j : Nat) (t : Int32) (x3 : Option Value), n + j = mUs (G.2.1 0 30) → mEv (G.2.1 0 30) n j t = mEv (G.2.1 0 30) (mUs (G.2.1 0 30)) 0 0 → V p l e rm_X12_everything s m args below meth c 4 Θ (fR (some (.int (mEv (G.2.1 0 30) (mUs (G.2.1 0 30)) 0 0))) G) 0 0 0 0 4 [some (.ref (tR Θ 0 29)), some (.int t), some (.int (nI j)), x3] [] (G) := by
    intro n
    induction n with
    | zero =>
      intro j t x3 h1 h2
      refine v_iload_n (i := 2) (q := 5) hC dX12_everything_4 rfl rfl rfl ?_
      refine v_aload_n (i := 0) (q := 6) hC dX12_everything_5 rfl rfl rfl ?_
      refine g_X12_0 (q := 9) hC dX12_everything_6 rfl rfl fl_RX12_7 ?_
      refine v_iconst (q := 10) (v := 0) hC dX12_everything_9 rfl (by decide) ?_
      refine v_ialdN (q := 11) hC dX12_everything_10 rfl rfl rfl (i := 0) (rfl) (by first | decide | omega | (unfold oA; omega) | (unfold enA; omega)) (by decide) ?_
      refine v_icmp_ge (q := 58) (q2 := 14) hC dX12_everything_11 (by decide) rfl (fun c_11 => ?_) (fun c_11 => ?_)
      · refine v_iload_n (i := 1) (q := 59) hC dX12_everything_58 rfl rfl rfl ?_
        refine v_iret hC dX12_everything_59 hr (rfl) ?_ (Nat.le_of_ble_eq_true rfl) (Nat.le_of_ble_eq_true rfl)
        exact ⟨by rw [← h2, mEv], rfl⟩
      · exact absurd (by rw [hu]; exact nI_le (by omega) (by omega)) c_11
    | succ n ih =>
      intro j t x3 h1 h2
      rw [mEv] at h2
      have L2 : ∀ (n2 i : Nat) (t2 : Int32), n2 + i = 20 → mEvO (G.2.1 0 30) (nI j) n2 i t2 = mEvO (G.2.1 0 30) (nI j) 20 0 t → V p l e rm_X12_everything s m args below meth c 4 Θ (fR (some (.int (mEv (G.2.1 0 30) (mUs (G.2.1 0 30)) 0 0))) G) 0 0 0 0 16 [some (.ref (tR Θ 0 29)), some (.int t2), some (.int (nI j)), some (.int (nI i))] [] (G) := by
        intro n2
        induction n2 with
        | zero =>
          intro i t2 h3 h4
          refine v_iload_n (i := 3) (q := 17) hC dX12_everything_16 rfl rfl rfl ?_
          refine v_bipush (q := 19) (v := 20) hC dX12_everything_17 rfl (by decide) ?_
          refine v_icmp_ge (q := 52) (q2 := 22) hC dX12_everything_19 (by decide) rfl (fun c_19 => ?_) (fun c_19 => ?_)
          · refine v_iinc (q := 55) (v := nI (j + 1)) hC dX12_everything_52 rfl rfl (nI_1 j) (lvc rfl) (Nat.le_of_ble_eq_true rfl) (Nat.le_of_ble_eq_true rfl) rfl ?_
            refine v_goto (q := 4) hC dX12_everything_55 (by decide) ?_
            exact ih (j + 1) _ _ (by omega) (by rw [← h2, ← h4, mEvO])
          · exact absurd (by rw [show i = 20 by omega]; decide) c_19
        | succ n2 ih2 =>
          intro i t2 h3 h4
          rw [mEvO] at h4
          refine v_iload_n (i := 3) (q := 17) hC dX12_everything_16 rfl rfl rfl ?_
          refine v_bipush (q := 19) (v := 20) hC dX12_everything_17 rfl (by decide) ?_
          refine v_icmp_ge (q := 52) (q2 := 22) hC dX12_everything_19 (by decide) rfl (fun c_19 => ?_) (fun c_19 => ?_)
          · exact absurd c_19 (by rw [show (20 : Int32) = nI 20 from rfl]; exact nI_ge (by omega) (by omega))
          · refine v_iload_n (i := 1) (q := 23) hC dX12_everything_22 rfl rfl rfl ?_
            refine v_aload_n (i := 0) (q := 24) hC dX12_everything_23 rfl rfl rfl ?_
            refine v_iload_n (i := 3) (q := 25) hC dX12_everything_24 rfl rfl rfl ?_
            refine v_callV (q := 28) (rm := rm_X12_isObject) hC (c_X12_isObject hl Θ _ _) k_X12_isObject im_yX12_isObject se_yX12_isObject ml_RX12_57 dX12_everything_25 rfl rfl rfl rfl rfl rfl (Nat.le_of_ble_eq_true rfl) ⟨Nat.le_of_ble_eq_true rfl, Nat.le_of_ble_eq_true rfl⟩ ⟨Nat.le_of_ble_eq_true rfl, Nat.le_of_ble_eq_true rfl⟩ (fR_k ?_) fR_x (Nat.le_of_ble_eq_true rfl) (Nat.le_of_ble_eq_true rfl)
            try dsimp only [Option.toList, List.cons_append, List.nil_append]
            refine v_ifb_eq (q := 43) (q2 := 31) hC dX12_everything_28 (by decide) rfl (fun c_28 => ?_) (fun c_28 => ?_)
            · refine v_iconst (q := 44) (v := 0) hC dX12_everything_43 rfl (by decide) ?_
              refine v_iadd (q := 45) hC dX12_everything_44 rfl ?_
              refine v_istore_n (i := 1) (q := 46) hC dX12_everything_45 rfl rfl (lvc rfl) (Nat.le_of_ble_eq_true rfl) (Nat.le_of_ble_eq_true rfl) rfl ?_
              refine v_iinc (q := 49) (v := nI (i + 1)) hC dX12_everything_46 rfl rfl (nI_1 i) (lvc rfl) (Nat.le_of_ble_eq_true rfl) (Nat.le_of_ble_eq_true rfl) rfl ?_
              refine v_goto (q := 16) hC dX12_everything_49 (by decide) ?_
              refine ih2 (i + 1) _ (by omega) ?_
              rw [← h4]
              first | rw [if_pos c_28] | rw [if_neg (by rw [c_28]; decide)]
            · refine v_aload_n (i := 0) (q := 32) hC dX12_everything_31 rfl rfl rfl ?_
              refine v_iload_n (i := 2) (q := 33) hC dX12_everything_32 rfl rfl rfl ?_
              refine v_iload_n (i := 3) (q := 34) hC dX12_everything_33 rfl rfl rfl ?_
              refine v_callV (q := 37) (rm := rm_X12_rights) hC (c_X12_rights hl Θ _ i _ hm (by omega)) k_X12_rights im_yX12_rights se_yX12_rights ml_RX12_119 dX12_everything_34 rfl rfl rfl rfl rfl rfl (Nat.le_of_ble_eq_true rfl) ⟨Nat.le_of_ble_eq_true rfl, Nat.le_of_ble_eq_true rfl⟩ ⟨Nat.le_of_ble_eq_true rfl, Nat.le_of_ble_eq_true rfl⟩ (fR_k ?_) fR_x (Nat.le_of_ble_eq_true rfl) (Nat.le_of_ble_eq_true rfl)
              try dsimp only [Option.toList, List.cons_append, List.nil_append]
              refine v_callS (q := 40) (rm := rm_X12_size) hC (c_X12_size hl Θ _ _) k_X12_size st_yX12_size ml_RX12_153 dX12_everything_37 rfl  rfl rfl (Nat.le_of_ble_eq_true rfl) ⟨Nat.le_of_ble_eq_true rfl, Nat.le_of_ble_eq_true rfl⟩ ⟨Nat.le_of_ble_eq_true rfl, Nat.le_of_ble_eq_true rfl⟩ (fR_k ?_) fR_x (Nat.le_of_ble_eq_true rfl) (Nat.le_of_ble_eq_true rfl)
              try dsimp only [Option.toList, List.cons_append, List.nil_append]
              refine v_goto (q := 44) hC dX12_everything_40 (by decide) ?_
              refine v_iadd (q := 45) hC dX12_everything_44 rfl ?_
              refine v_istore_n (i := 1) (q := 46) hC dX12_everything_45 rfl rfl (lvc rfl) (Nat.le_of_ble_eq_true rfl) (Nat.le_of_ble_eq_true rfl) rfl ?_
              refine v_iinc (q := 49) (v := nI (i + 1)) hC dX12_everything_46 rfl rfl (nI_1 i) (lvc rfl) (Nat.le_of_ble_eq_true rfl) (Nat.le_of_ble_eq_true rfl) rfl ?_
              refine v_goto (q := 16) hC dX12_everything_49 (by decide) ?_
              refine ih2 (i + 1) _ (by omega) ?_
              rw [← h4]
              first | rw [if_pos c_28] | rw [if_neg (by rw [c_28]; decide)]
      refine v_iload_n (i := 2) (q := 5) hC dX12_everything_4 rfl rfl rfl ?_
      refine v_aload_n (i := 0) (q := 6) hC dX12_everything_5 rfl rfl rfl ?_
      refine g_X12_0 (q := 9) hC dX12_everything_6 rfl rfl fl_RX12_7 ?_
      refine v_iconst (q := 10) (v := 0) hC dX12_everything_9 rfl (by decide) ?_
      refine v_ialdN (q := 11) hC dX12_everything_10 rfl rfl rfl (i := 0) (rfl) (by first | decide | omega | (unfold oA; omega) | (unfold enA; omega)) (by decide) ?_
      refine v_icmp_ge (q := 58) (q2 := 14) hC dX12_everything_11 (by decide) rfl (fun c_11 => ?_) (fun c_11 => ?_)
      · exact absurd c_11 (by rw [hu]; exact nI_ge (by omega) (by omega))
      · refine v_iconst (q := 15) (v := 0) hC dX12_everything_14 rfl (by decide) ?_
        refine v_istore_n (i := 3) (q := 16) hC dX12_everything_15 rfl rfl (lvc rfl) (Nat.le_of_ble_eq_true rfl) (Nat.le_of_ble_eq_true rfl) rfl ?_
        exact L2 20 0 t rfl rfl
  refine v_iconst (q := 1) (v := 0) hC dX12_everything_0 rfl (by decide) ?_
  refine v_istore_n (i := 1) (q := 2) hC dX12_everything_1 rfl rfl (lvc rfl) (Nat.le_of_ble_eq_true rfl) (Nat.le_of_ble_eq_true rfl) rfl ?_
  refine v_iconst (q := 3) (v := 0) hC dX12_everything_2 rfl (by decide) ?_
  refine v_istore_n (i := 2) (q := 4) hC dX12_everything_3 rfl rfl (lvc rfl) (Nat.le_of_ble_eq_true rfl) (Nat.le_of_ble_eq_true rfl) rfl ?_
  exact L _ 0 0 none rfl rfl
/-- what is noted of the k-th pair -/
def mNt (w : Nat → Int32) (k : Nat) : Int32 := if nI (k / 20) < w 0 ∧ mHold w (nI (k % 20)) = true then mRg w (nI (k / 20)) (k % 20) else 0
def mNtK (w old : Nat → Int32) (n : Nat) : Nat → Int32 := fun k => if k < n then mNt w k else old k
theorem mNtK_0 (w old : Nat → Int32) : mNtK w old 0 = old := by
  funext k
  rw [mNtK, if_neg (by omega)]
theorem mNtK_step (w old : Nat → Int32) (n : Nat) : upd (mNtK w old n) n (mNt w n) = mNtK w old (n + 1) := by
  funext k
  unfold upd mNtK
  by_cases h1 : k = n
  · subst h1
    rw [if_pos rfl, if_pos (by omega)]
  · rw [if_neg h1]
    by_cases h2 : k < n
    · rw [if_pos h2, if_pos (by omega)]
    · rw [if_neg h2, if_neg (by omega)]
theorem div20 {k : Nat} (h : k < 240) : nI k / 20 = nI (k / 20) := pk_div (d := 20) (by omega) (by decide) (by decide)
theorem rem20 {k : Nat} (h : k < 240) : nI k - nI k / 20 * 20 = nI (k % 20) := pk_rem (d := 20) (by omega) (by decide) (by decide)
def mNo (G : GS) : GS := putA G 0 35 (mNtK (G.2.1 0 30) (G.2.1 0 35) 240)
set_option maxHeartbeats 4000000 in
set_option maxRecDepth 20000 in
theorem c_X12_notes {l : Launch} (hl : l.stackTraces = false) (Θ : cTH) (G : GS) (hm : mOk (G.2.1 0 30)) : Ct l yX12_notes cX12_notes 2 none rm_X12_notes Θ [.ref (tR Θ 0 29)] (G) (fR none (mNo G)) := by
  refine ct_of (LS := [some (.ref (tR Θ 0 29)), none]) hl (by decide +kernel) rfl (Nat.le_of_ble_eq_true rfl) rfl ?_
  intro p e s m args below meth c hC hr
  have L : ∀ (n j : Nat), n + j = 240 → V p l e rm_X12_notes s m args below meth c 2 Θ (fR none (mNo G)) 0 0 0 0 2 [some (.ref (tR Θ 0 29)), some (.int (nI j))] [] (putA G 0 35 (mNtK (G.2.1 0 30) (G.2.1 0 35) j)) := by
    intro n
    induction n with
    | zero =>
      intro j h1
      refine v_iload_n (i := 1) (q := 3) hC dX12_notes_2 rfl rfl rfl ?_
      refine v_sipush (q := 6) (v := 240) hC dX12_notes_3 rfl (by decide) ?_
      refine v_icmp_ge (q := 61) (q2 := 9) hC dX12_notes_6 (by decide) rfl (fun c_6 => ?_) (fun c_6 => ?_)
      · refine v_vret hC dX12_notes_61 hr ?_ (Nat.le_of_ble_eq_true rfl) (Nat.le_of_ble_eq_true rfl)
        exact ⟨rfl, by rw [show j = 240 by omega]; rfl⟩
      · exact absurd (by rw [show j = 240 by omega]; decide) c_6
    | succ n ih =>
      intro j h1
      have hj : j < 240 := by omega
      have hj20 : j % 20 < 20 := by omega
      refine v_iload_n (i := 1) (q := 3) hC dX12_notes_2 rfl rfl rfl ?_
      refine v_sipush (q := 6) (v := 240) hC dX12_notes_3 rfl (by decide) ?_
      refine v_icmp_ge (q := 61) (q2 := 9) hC dX12_notes_6 (by decide) rfl (fun c_6 => ?_) (fun c_6 => ?_)
      · exact absurd c_6 (by rw [show (240 : Int32) = nI 240 from rfl]; exact nI_ge (by omega) (by omega))
      · refine v_aload_n (i := 0) (q := 10) hC dX12_notes_9 rfl rfl rfl ?_
        refine g_X12_8 (q := 13) hC dX12_notes_10 rfl rfl fl_RX12_26 ?_
        refine v_iload_n (i := 1) (q := 14) hC dX12_notes_13 rfl rfl rfl ?_
        refine v_iload_n (i := 1) (q := 15) hC dX12_notes_14 rfl rfl rfl ?_
        refine v_bipush (q := 17) (v := 20) hC dX12_notes_15 rfl (by decide) ?_
        refine v_idiv (q := 18) hC dX12_notes_17 rfl (by decide) ?_
        rw [div20 hj]
        refine v_aload_n (i := 0) (q := 19) hC dX12_notes_18 rfl rfl rfl ?_
        refine g_X12_0 (q := 22) hC dX12_notes_19 rfl rfl fl_RX12_7 ?_
        refine v_iconst (q := 23) (v := 0) hC dX12_notes_22 rfl (by decide) ?_
        refine v_ialdN (q := 24) hC dX12_notes_23 rfl rfl rfl (i := 0) (rfl) (by first | decide | omega | (unfold oA; omega) | (unfold enA; omega)) (by decide) ?_
        refine v_icmp_ge (q := 53) (q2 := 27) hC dX12_notes_24 (by decide) rfl (fun c_24 => ?_) (fun c_24 => ?_)
        · refine v_iconst (q := 54) (v := 0) hC dX12_notes_53 rfl (by decide) ?_
          refine v_iastN (q := 55) hC dX12_notes_54 rfl rfl (fun _ => rfl) (i := j) (rfl) (by omega) (by decide) ?_
          refine v_iinc (q := 58) (v := nI (j + 1)) hC dX12_notes_55 rfl rfl (nI_1 j) (lvc rfl) (Nat.le_of_ble_eq_true rfl) (Nat.le_of_ble_eq_true rfl) rfl ?_
          refine v_goto (q := 2) hC dX12_notes_58 (by decide) ?_
          rw [putA_putA, putA_same]
          have e9 : ∀ x : Int32, x = mNt (G.2.1 0 30) j → upd (mNtK (G.2.1 0 30) (G.2.1 0 35) j) j x = mNtK (G.2.1 0 30) (G.2.1 0 35) (j + 1) := fun x z => by rw [z]; exact mNtK_step _ _ _
          rw [e9]
          · exact ih (j + 1) (by omega)
          · rw [mNt]
            first | (rw [if_pos ⟨Int32.not_le.mp c_24, c_35⟩]; rfl) | (rw [if_neg (fun z => absurd (z.2.symm.trans c_35) (by decide))]) | (rw [if_neg (fun z => Int32.not_lt.mpr c_24 z.1)])
        · refine v_aload_n (i := 0) (q := 28) hC dX12_notes_27 rfl rfl rfl ?_
          refine v_iload_n (i := 1) (q := 29) hC dX12_notes_28 rfl rfl rfl ?_
          refine v_bipush (q := 31) (v := 20) hC dX12_notes_29 rfl (by decide) ?_
          refine v_irem (q := 32) hC dX12_notes_31 rfl (by decide) ?_
          rw [rem20 hj]
          refine v_callV (q := 35) (rm := rm_X12_isObject) hC (c_X12_isObject hl Θ _ _) k_X12_isObject im_yX12_isObject se_yX12_isObject ml_RX12_57 dX12_notes_32 rfl rfl rfl rfl rfl rfl (Nat.le_of_ble_eq_true rfl) ⟨Nat.le_of_ble_eq_true rfl, Nat.le_of_ble_eq_true rfl⟩ ⟨Nat.le_of_ble_eq_true rfl, Nat.le_of_ble_eq_true rfl⟩ (fR_k ?_) fR_x (Nat.le_of_ble_eq_true rfl) (Nat.le_of_ble_eq_true rfl)
          try dsimp only [Option.toList, List.cons_append, List.nil_append]
          refine v_ifb_eq (q := 53) (q2 := 38) hC dX12_notes_35 (by decide) rfl (fun c_35 => ?_) (fun c_35 => ?_)
          · refine v_iconst (q := 54) (v := 0) hC dX12_notes_53 rfl (by decide) ?_
            refine v_iastN (q := 55) hC dX12_notes_54 rfl rfl (fun _ => rfl) (i := j) (rfl) (by omega) (by decide) ?_
            refine v_iinc (q := 58) (v := nI (j + 1)) hC dX12_notes_55 rfl rfl (nI_1 j) (lvc rfl) (Nat.le_of_ble_eq_true rfl) (Nat.le_of_ble_eq_true rfl) rfl ?_
            refine v_goto (q := 2) hC dX12_notes_58 (by decide) ?_
            rw [putA_putA, putA_same]
            have e9 : ∀ x : Int32, x = mNt (G.2.1 0 30) j → upd (mNtK (G.2.1 0 30) (G.2.1 0 35) j) j x = mNtK (G.2.1 0 30) (G.2.1 0 35) (j + 1) := fun x z => by rw [z]; exact mNtK_step _ _ _
            rw [e9]
            · exact ih (j + 1) (by omega)
            · rw [mNt]
              first | (rw [if_pos ⟨Int32.not_le.mp c_24, c_35⟩]; rfl) | (rw [if_neg (fun z => absurd (z.2.symm.trans c_35) (by decide))]) | (rw [if_neg (fun z => Int32.not_lt.mpr c_24 z.1)])
          · refine v_aload_n (i := 0) (q := 39) hC dX12_notes_38 rfl rfl rfl ?_
            refine v_iload_n (i := 1) (q := 40) hC dX12_notes_39 rfl rfl rfl ?_
            refine v_bipush (q := 42) (v := 20) hC dX12_notes_40 rfl (by decide) ?_
            refine v_idiv (q := 43) hC dX12_notes_42 rfl (by decide) ?_
            refine v_iload_n (i := 1) (q := 44) hC dX12_notes_43 rfl rfl rfl ?_
            refine v_bipush (q := 46) (v := 20) hC dX12_notes_44 rfl (by decide) ?_
            refine v_irem (q := 47) hC dX12_notes_46 rfl (by decide) ?_
            rw [rem20 hj, div20 hj]
            refine v_callV (q := 50) (rm := rm_X12_rights) hC (c_X12_rights hl Θ _ (j % 20) _ hm hj20) k_X12_rights im_yX12_rights se_yX12_rights ml_RX12_119 dX12_notes_47 rfl rfl rfl rfl rfl rfl (Nat.le_of_ble_eq_true rfl) ⟨Nat.le_of_ble_eq_true rfl, Nat.le_of_ble_eq_true rfl⟩ ⟨Nat.le_of_ble_eq_true rfl, Nat.le_of_ble_eq_true rfl⟩ (fR_k ?_) fR_x (Nat.le_of_ble_eq_true rfl) (Nat.le_of_ble_eq_true rfl)
            try dsimp only [Option.toList, List.cons_append, List.nil_append]
            refine v_goto (q := 54) hC dX12_notes_50 (by decide) ?_
            refine v_iastN (q := 55) hC dX12_notes_54 rfl rfl (fun _ => rfl) (i := j) (rfl) (by omega) (by decide) ?_
            refine v_iinc (q := 58) (v := nI (j + 1)) hC dX12_notes_55 rfl rfl (nI_1 j) (lvc rfl) (Nat.le_of_ble_eq_true rfl) (Nat.le_of_ble_eq_true rfl) rfl ?_
            refine v_goto (q := 2) hC dX12_notes_58 (by decide) ?_
            rw [putA_putA, putA_same]
            have e9 : ∀ x : Int32, x = mNt (G.2.1 0 30) j → upd (mNtK (G.2.1 0 30) (G.2.1 0 35) j) j x = mNtK (G.2.1 0 30) (G.2.1 0 35) (j + 1) := fun x z => by rw [z]; exact mNtK_step _ _ _
            rw [e9]
            · exact ih (j + 1) (by omega)
            · rw [mNt]
              first | (rw [if_pos ⟨Int32.not_le.mp c_24, c_35⟩]; rfl) | (rw [if_neg (fun z => absurd (z.2.symm.trans c_35) (by decide))]) | (rw [if_neg (fun z => Int32.not_lt.mpr c_24 z.1)])
  refine v_iconst (q := 1) (v := 0) hC dX12_notes_0 rfl (by decide) ?_
  refine v_istore_n (i := 1) (q := 2) hC dX12_notes_1 rfl rfl (lvc rfl) (Nat.le_of_ble_eq_true rfl) (Nat.le_of_ble_eq_true rfl) rfl ?_
  have h := L 240 0 rfl
  rw [mNtK_0, putA_self] at h
  exact h
def mUlR (x y : Int32) : Nat → Nat → Int32 → Int32
  | 0, _, t => t
  | n + 1, j, t => mUlR x y n (j + 1) (t + (if mHas x (nI j) = mHas y (nI j) then 0 else 1))
def mUl (w was : Nat → Int32) : Nat → Nat → Int32 → Int32
  | 0, _, t => t
  | n + 1, k, t => mUl w was n (k + 1) (mUlR (mNt w k) (was k) 4 0 t)
theorem b2i_inj {a b : Bool} : b2i a = b2i b ↔ a = b := by cases a <;> cases b <;> simp [b2i]
set_option maxHeartbeats 4000000 in
set_option maxRecDepth 20000 in
theorem c_X12_unlike {l : Launch} (hl : l.stackTraces = false) (Θ : cTH) (G : GS) (hm : mOk (G.2.1 0 30)) : Ct l yX12_unlike cX12_unlike 5 (some .int) rm_X12_unlike Θ [.ref (tR Θ 0 29)] (G) (fR (some (.int (mUl (G.2.1 0 30) (G.2.1 0 35) 240 0 0))) G) := by
  refine ct_of (LS := [some (.ref (tR Θ 0 29)), none, none, none, none]) hl (by decide +kernel) rfl (Nat.le_of_ble_eq_true rfl) rfl ?_
  intro p e s m args below meth c hC hr
  have L : ∀ (n j : Nat) (t : Int32) (x3 x4 : Option Value), n + j = 240 → mUl (G.2.1 0 30) (G.2.1 0 35) n j t = mUl (G.2.1 0 30) (G.2.1 0 35) 240 0 0 → V p l e rm_X12_unlike s m args below meth c 5 Θ (fR (some (.int (mUl (G.2.1 0 30) (G.2.1 0 35) 240 0 0))) G) 0 0 0 0 4 [some (.ref (tR Θ 0 29)), some (.int t), some (.int (nI j)), x3, x4] [] (G) := by
    intro n
    induction n with
    | zero =>
      intro j t x3 x4 h1 h2
      refine v_iload_n (i := 2) (q := 5) hC dX12_unlike_4 rfl rfl rfl ?_
      refine v_sipush (q := 8) (v := 240) hC dX12_unlike_5 rfl (by decide) ?_
      refine v_icmp_ge (q := 101) (q2 := 11) hC dX12_unlike_8 (by decide) rfl (fun c_8 => ?_) (fun c_8 => ?_)
      · refine v_iload_n (i := 1) (q := 102) hC dX12_unlike_101 rfl rfl rfl ?_
        refine v_iret hC dX12_unlike_102 hr (rfl) ?_ (Nat.le_of_ble_eq_true rfl) (Nat.le_of_ble_eq_true rfl)
        exact ⟨by rw [← h2, mUl], rfl⟩
      · exact absurd (by rw [show j = 240 by omega]; decide) c_8
    | succ n ih =>
      intro j t x3 x4 h1 h2
      rw [mUl] at h2
      have hj : j < 240 := by omega
      have hj20 : j % 20 < 20 := by omega
      have L2 : ∀ (n2 i : Nat) (t2 : Int32), n2 + i = 4 → mUlR (mNt (G.2.1 0 30) j) (G.2.1 0 35 j) n2 i t2 = mUlR (mNt (G.2.1 0 30) j) (G.2.1 0 35 j) 4 0 t → V p l e rm_X12_unlike s m args below meth c 5 Θ (fR (some (.int (mUl (G.2.1 0 30) (G.2.1 0 35) 240 0 0))) G) 0 0 0 0 55 [some (.ref (tR Θ 0 29)), some (.int t2), some (.int (nI j)), some (.int (mNt (G.2.1 0 30) j)), some (.int (nI i))] [] (G) := by
        intro n2
        induction n2 with
        | zero =>
          intro i t2 h3 h4
          refine v_iload (q := 57) hC dX12_unlike_55 rfl rfl ?_
          refine v_iconst (q := 58) (v := 3) hC dX12_unlike_57 rfl (by decide) ?_
          refine v_icmp_gt (q := 95) (q2 := 61) hC dX12_unlike_58 (by decide) rfl (fun c_58 => ?_) (fun c_58 => ?_)
          · refine v_iinc (q := 98) (v := nI (j + 1)) hC dX12_unlike_95 rfl rfl (nI_1 j) (lvc rfl) (Nat.le_of_ble_eq_true rfl) (Nat.le_of_ble_eq_true rfl) rfl ?_
            refine v_goto (q := 4) hC dX12_unlike_98 (by decide) ?_
            exact ih (j + 1) _ _ _ (by omega) (by rw [← h2, ← h4, mUlR])
          · exact absurd (by rw [show i = 4 by omega]; decide) c_58
        | succ n2 ih2 =>
          intro i t2 h3 h4
          rw [mUlR] at h4
          refine v_iload (q := 57) hC dX12_unlike_55 rfl rfl ?_
          refine v_iconst (q := 58) (v := 3) hC dX12_unlike_57 rfl (by decide) ?_
          refine v_icmp_gt (q := 95) (q2 := 61) hC dX12_unlike_58 (by decide) rfl (fun c_58 => ?_) (fun c_58 => ?_)
          · exact absurd c_58 (nI_nlt (b := i) (a := 3) (by omega) (by decide))
          · refine v_iload_n (i := 1) (q := 62) hC dX12_unlike_61 rfl rfl rfl ?_
            refine v_iload_n (i := 3) (q := 63) hC dX12_unlike_62 rfl rfl rfl ?_
            refine v_iload (q := 65) hC dX12_unlike_63 rfl rfl ?_
            refine v_callS (q := 68) (rm := rm_X12_has) hC (c_X12_has hl Θ _ _ _) k_X12_has st_yX12_has ml_RX12_65 dX12_unlike_65 rfl  rfl rfl (Nat.le_of_ble_eq_true rfl) ⟨Nat.le_of_ble_eq_true rfl, Nat.le_of_ble_eq_true rfl⟩ ⟨Nat.le_of_ble_eq_true rfl, Nat.le_of_ble_eq_true rfl⟩ (fR_k ?_) fR_x (Nat.le_of_ble_eq_true rfl) (Nat.le_of_ble_eq_true rfl)
            try dsimp only [Option.toList, List.cons_append, List.nil_append]
            refine v_aload_n (i := 0) (q := 69) hC dX12_unlike_68 rfl rfl rfl ?_
            refine g_X12_8 (q := 72) hC dX12_unlike_69 rfl rfl fl_RX12_26 ?_
            refine v_iload_n (i := 2) (q := 73) hC dX12_unlike_72 rfl rfl rfl ?_
            refine v_ialdN (q := 74) hC dX12_unlike_73 rfl rfl rfl (i := j) (rfl) (by omega) (by decide) ?_
            refine v_iload (q := 76) hC dX12_unlike_74 rfl rfl ?_
            refine v_callS (q := 79) (rm := rm_X12_has) hC (c_X12_has hl Θ _ _ _) k_X12_has st_yX12_has ml_RX12_65 dX12_unlike_76 rfl  rfl rfl (Nat.le_of_ble_eq_true rfl) ⟨Nat.le_of_ble_eq_true rfl, Nat.le_of_ble_eq_true rfl⟩ ⟨Nat.le_of_ble_eq_true rfl, Nat.le_of_ble_eq_true rfl⟩ (fR_k ?_) fR_x (Nat.le_of_ble_eq_true rfl) (Nat.le_of_ble_eq_true rfl)
            try dsimp only [Option.toList, List.cons_append, List.nil_append]
            refine v_icmp_ne (q := 86) (q2 := 82) hC dX12_unlike_79 (by decide) rfl (fun c_79 => ?_) (fun c_79 => ?_)
            · refine v_iconst (q := 87) (v := 1) hC dX12_unlike_86 rfl (by decide) ?_
              refine v_iadd (q := 88) hC dX12_unlike_87 rfl ?_
              refine v_istore_n (i := 1) (q := 89) hC dX12_unlike_88 rfl rfl (lvc rfl) (Nat.le_of_ble_eq_true rfl) (Nat.le_of_ble_eq_true rfl) rfl ?_
              refine v_iinc (q := 92) (v := nI (i + 1)) hC dX12_unlike_89 rfl rfl (nI_1 i) (lvc rfl) (Nat.le_of_ble_eq_true rfl) (Nat.le_of_ble_eq_true rfl) rfl ?_
              refine v_goto (q := 55) hC dX12_unlike_92 (by decide) ?_
              refine ih2 (i + 1) _ (by omega) ?_
              rw [← h4]
              first | rw [if_pos (b2i_inj.mp c_79)] | rw [if_neg (fun z => c_79 (b2i_inj.mpr z))]
            · refine v_iconst (q := 83) (v := 0) hC dX12_unlike_82 rfl (by decide) ?_
              refine v_goto (q := 87) hC dX12_unlike_83 (by decide) ?_
              refine v_iadd (q := 88) hC dX12_unlike_87 rfl ?_
              refine v_istore_n (i := 1) (q := 89) hC dX12_unlike_88 rfl rfl (lvc rfl) (Nat.le_of_ble_eq_true rfl) (Nat.le_of_ble_eq_true rfl) rfl ?_
              refine v_iinc (q := 92) (v := nI (i + 1)) hC dX12_unlike_89 rfl rfl (nI_1 i) (lvc rfl) (Nat.le_of_ble_eq_true rfl) (Nat.le_of_ble_eq_true rfl) rfl ?_
              refine v_goto (q := 55) hC dX12_unlike_92 (by decide) ?_
              refine ih2 (i + 1) _ (by omega) ?_
              rw [← h4]
              first | rw [if_pos (b2i_inj.mp c_79)] | rw [if_neg (fun z => c_79 (b2i_inj.mpr z))]
      have L3 : ∀ x : Int32, x = mNt (G.2.1 0 30) j → V p l e rm_X12_unlike s m args below meth c 5 Θ (fR (some (.int (mUl (G.2.1 0 30) (G.2.1 0 35) 240 0 0))) G) 0 0 0 0 51 [some (.ref (tR Θ 0 29)), some (.int t), some (.int (nI j)), x3, x4] [.int x] (G) := by
        intro x hx
        subst hx
        refine v_istore_n (i := 3) (q := 52) hC dX12_unlike_51 rfl rfl (lvc rfl) (Nat.le_of_ble_eq_true rfl) (Nat.le_of_ble_eq_true rfl) rfl ?_
        refine v_iconst (q := 53) (v := 0) hC dX12_unlike_52 rfl (by decide) ?_
        refine v_istore (q := 55) hC dX12_unlike_53 rfl (lvc rfl) (Nat.le_of_ble_eq_true rfl) (Nat.le_of_ble_eq_true rfl) rfl ?_
        exact L2 4 0 t rfl rfl
      refine v_iload_n (i := 2) (q := 5) hC dX12_unlike_4 rfl rfl rfl ?_
      refine v_sipush (q := 8) (v := 240) hC dX12_unlike_5 rfl (by decide) ?_
      refine v_icmp_ge (q := 101) (q2 := 11) hC dX12_unlike_8 (by decide) rfl (fun c_8 => ?_) (fun c_8 => ?_)
      · exact absurd c_8 (by rw [show (240 : Int32) = nI 240 from rfl]; exact nI_ge (by omega) (by omega))
      · refine v_iload_n (i := 2) (q := 12) hC dX12_unlike_11 rfl rfl rfl ?_
        refine v_bipush (q := 14) (v := 20) hC dX12_unlike_12 rfl (by decide) ?_
        refine v_idiv (q := 15) hC dX12_unlike_14 rfl (by decide) ?_
        rw [div20 hj]
        refine v_aload_n (i := 0) (q := 16) hC dX12_unlike_15 rfl rfl rfl ?_
        refine g_X12_0 (q := 19) hC dX12_unlike_16 rfl rfl fl_RX12_7 ?_
        refine v_iconst (q := 20) (v := 0) hC dX12_unlike_19 rfl (by decide) ?_
        refine v_ialdN (q := 21) hC dX12_unlike_20 rfl rfl rfl (i := 0) (rfl) (by first | decide | omega | (unfold oA; omega) | (unfold enA; omega)) (by decide) ?_
        refine v_icmp_ge (q := 50) (q2 := 24) hC dX12_unlike_21 (by decide) rfl (fun c_21 => ?_) (fun c_21 => ?_)
        · refine v_iconst (q := 51) (v := 0) hC dX12_unlike_50 rfl (by decide) ?_
          refine L3 _ ?_
          rw [mNt]
          first | (rw [if_pos ⟨Int32.not_le.mp c_21, c_32⟩]; done) | (rw [if_pos ⟨Int32.not_le.mp c_21, c_32⟩]; rfl) | (rw [if_neg (fun z => absurd (z.2.symm.trans c_32) (by decide))]) | (rw [if_neg (fun z => Int32.not_lt.mpr c_21 z.1)])
        · refine v_aload_n (i := 0) (q := 25) hC dX12_unlike_24 rfl rfl rfl ?_
          refine v_iload_n (i := 2) (q := 26) hC dX12_unlike_25 rfl rfl rfl ?_
          refine v_bipush (q := 28) (v := 20) hC dX12_unlike_26 rfl (by decide) ?_
          refine v_irem (q := 29) hC dX12_unlike_28 rfl (by decide) ?_
          rw [rem20 hj]
          refine v_callV (q := 32) (rm := rm_X12_isObject) hC (c_X12_isObject hl Θ _ _) k_X12_isObject im_yX12_isObject se_yX12_isObject ml_RX12_57 dX12_unlike_29 rfl rfl rfl rfl rfl rfl (Nat.le_of_ble_eq_true rfl) ⟨Nat.le_of_ble_eq_true rfl, Nat.le_of_ble_eq_true rfl⟩ ⟨Nat.le_of_ble_eq_true rfl, Nat.le_of_ble_eq_true rfl⟩ (fR_k ?_) fR_x (Nat.le_of_ble_eq_true rfl) (Nat.le_of_ble_eq_true rfl)
          try dsimp only [Option.toList, List.cons_append, List.nil_append]
          refine v_ifb_eq (q := 50) (q2 := 35) hC dX12_unlike_32 (by decide) rfl (fun c_32 => ?_) (fun c_32 => ?_)
          · refine v_iconst (q := 51) (v := 0) hC dX12_unlike_50 rfl (by decide) ?_
            refine L3 _ ?_
            rw [mNt]
            first | (rw [if_pos ⟨Int32.not_le.mp c_21, c_32⟩]; done) | (rw [if_pos ⟨Int32.not_le.mp c_21, c_32⟩]; rfl) | (rw [if_neg (fun z => absurd (z.2.symm.trans c_32) (by decide))]) | (rw [if_neg (fun z => Int32.not_lt.mpr c_21 z.1)])
          · refine v_aload_n (i := 0) (q := 36) hC dX12_unlike_35 rfl rfl rfl ?_
            refine v_iload_n (i := 2) (q := 37) hC dX12_unlike_36 rfl rfl rfl ?_
            refine v_bipush (q := 39) (v := 20) hC dX12_unlike_37 rfl (by decide) ?_
            refine v_idiv (q := 40) hC dX12_unlike_39 rfl (by decide) ?_
            refine v_iload_n (i := 2) (q := 41) hC dX12_unlike_40 rfl rfl rfl ?_
            refine v_bipush (q := 43) (v := 20) hC dX12_unlike_41 rfl (by decide) ?_
            refine v_irem (q := 44) hC dX12_unlike_43 rfl (by decide) ?_
            rw [rem20 hj, div20 hj]
            refine v_callV (q := 47) (rm := rm_X12_rights) hC (c_X12_rights hl Θ _ (j % 20) _ hm hj20) k_X12_rights im_yX12_rights se_yX12_rights ml_RX12_119 dX12_unlike_44 rfl rfl rfl rfl rfl rfl (Nat.le_of_ble_eq_true rfl) ⟨Nat.le_of_ble_eq_true rfl, Nat.le_of_ble_eq_true rfl⟩ ⟨Nat.le_of_ble_eq_true rfl, Nat.le_of_ble_eq_true rfl⟩ (fR_k ?_) fR_x (Nat.le_of_ble_eq_true rfl) (Nat.le_of_ble_eq_true rfl)
            try dsimp only [Option.toList, List.cons_append, List.nil_append]
            refine v_goto (q := 51) hC dX12_unlike_47 (by decide) ?_
            refine L3 _ ?_
            rw [mNt]
            first | (rw [if_pos ⟨Int32.not_le.mp c_21, c_32⟩]; done) | (rw [if_pos ⟨Int32.not_le.mp c_21, c_32⟩]; rfl) | (rw [if_neg (fun z => absurd (z.2.symm.trans c_32) (by decide))]) | (rw [if_neg (fun z => Int32.not_lt.mpr c_21 z.1)])
  refine v_iconst (q := 1) (v := 0) hC dX12_unlike_0 rfl (by decide) ?_
  refine v_istore_n (i := 1) (q := 2) hC dX12_unlike_1 rfl rfl (lvc rfl) (Nat.le_of_ble_eq_true rfl) (Nat.le_of_ble_eq_true rfl) rfl ?_
  refine v_iconst (q := 3) (v := 0) hC dX12_unlike_2 rfl (by decide) ?_
  refine v_istore_n (i := 2) (q := 4) hC dX12_unlike_3 rfl rfl (lvc rfl) (Nat.le_of_ble_eq_true rfl) (Nat.le_of_ble_eq_true rfl) rfl ?_
  exact L 240 0 0 none none rfl rfl
-- what keeps the row in order
theorem mOk_mk {w v : Nat → Int32} (h : mOk w) (h0 : v 0 = w 0) (h1 : v 1 = w 1) (h2 : ∀ o, o < 20 → v (oA o 0) = w (oA o 0)) (h3 : ∀ o, o < 20 → v (oA o 1) = w (oA o 1)) (h4 : ∀ o, o < 20 → ∃ c, c ≤ 6 ∧ v (oA o 5) = nI c) (h5 : ∀ o i, o < 20 → i < 6 → v (enA o i 0) = 1 → ∃ j, j < 8 ∧ v (enA o i 1) = nI j) : mOk v := by
  refine ⟨?_, ?_, ?_, ?_, h5, ?_⟩
  · unfold mUs; rw [h0]; exact h.1
  · unfold mGs; rw [h1]; exact h.2.1
  · intro o ho
    obtain ⟨c, hc, e⟩ := h4 o ho
    unfold mCt
    rw [e, nI_clamp (by omega)]
    exact ⟨rfl, hc⟩
  · intro o ho
    rw [h2 o ho]
    exact h.th ho
  · obtain ⟨rk, hrk⟩ := h.rk
    refine ⟨rk, fun o ho => ?_⟩
    rw [h3 o ho]
    exact hrk o ho
theorem mOk_to {w : Nat → Int32} (h : mOk w) {o i : Nat} (ho : o < 20) (hi : i < mCt w o) : mOk (mTo w o i (mCt w o)) := by
  have hc6 := h.ct6 ho
  have e : ∀ x : Nat, ¬ x = oA o 5 → ¬ (enA o i 0 ≤ x ∧ x < enA o (mCt w o - 1) 0) → mTo w o i (mCt w o) x = w x := by
    intro x h1 h2
    rw [mTo, mTk, if_neg h2, upd, if_neg h1]
  refine mOk_mk h (e _ (by unfold oA; omega) (by unfold enA; omega)) (e _ (by unfold oA; omega) (by unfold enA; omega)) (fun o2 ho2 => e _ (by unfold oA; omega) (by unfold oA enA; omega)) (fun o2 ho2 => e _ (by unfold oA; omega) (by unfold oA enA; omega)) ?_ ?_
  · intro o2 ho2
    by_cases h2 : o2 = o
    · subst h2
      refine ⟨mCt w o2 - 1, by omega, ?_⟩
      rw [mTo, mTk, if_neg (by unfold oA enA; omega), upd, if_pos rfl]
    · exact ⟨mCt w o2, h.ct6 ho2, by rw [e _ (by unfold oA; omega) (by unfold oA enA; omega)]; exact h.ct ho2⟩
  · intro o2 i2 ho2 hi2 hk
    by_cases h2 : enA o i 0 ≤ enA o2 i2 0 ∧ enA o2 i2 0 < enA o (mCt w o - 1) 0
    · have eo : o2 = o := by unfold enA at h2; rcases Nat.lt_trichotomy o2 o with z | z | z <;> omega
      subst eo
      have e0 : ∀ k, k < 2 → mTo w o2 i (mCt w o2) (enA o2 i2 k) = w (enA o2 (i2 + 1) k) := by
        intro k hk2
        rw [mTo, mTk, if_pos (by unfold enA at *; omega), upd, if_neg (by unfold oA enA at *; omega)]
        congr 1
        unfold enA
        omega
      rw [e0 0 (by omega)] at hk
      rw [e0 1 (by omega)]
      exact h.who ho2 (by unfold enA at h2; omega) hk
    · rw [e _ (by unfold oA enA; omega) h2] at hk
      rw [e _ (by unfold oA enA; omega) (by unfold enA at *; omega)]
      exact h.who ho2 hi2 hk
theorem mOpn_at (w : Nat → Int32) (o i c x : Nat) (h1 : ¬ x = oA o 5) (h2 : ¬ (enA o i 4 < x ∧ x ≤ enA o c 4)) : mOpn w o i c x = w x := by
  rw [mOpn, upd, if_neg h1, mOpK, if_neg h2]
/-- an entry is put in at a place: o with c entries, at i -/
theorem mOk_ins {w v : Nat → Int32} (h : mOk w) {o i : Nat} (ho : o < 20) (hc : mCt w o ≤ 5) (hi : i ≤ mCt w o) (hv : ∀ x : Nat, ¬ (enA o i 0 ≤ x ∧ x < enA o i 5) → v x = mOpn w o i (mCt w o) x) (hk : v (enA o i 0) = 1 → ∃ j, j < 8 ∧ v (enA o i 1) = nI j) : mOk v := by
  have e : ∀ x : Nat, ¬ x = oA o 5 → ¬ (enA o i 0 ≤ x ∧ x ≤ enA o (mCt w o) 4) → v x = w x := by
    intro x h1 h2
    rw [hv x (by unfold enA at *; omega), mOpn_at _ _ _ _ _ h1 (by unfold enA at *; omega)]
  refine mOk_mk h (e _ (by unfold oA; omega) (by unfold enA; omega)) (e _ (by unfold oA; omega) (by unfold enA; omega)) (fun o2 ho2 => e _ (by unfold oA; omega) (by unfold oA enA; omega)) (fun o2 ho2 => e _ (by unfold oA; omega) (by unfold oA enA; omega)) ?_ ?_
  · intro o2 ho2
    by_cases h2 : o2 = o
    · subst h2
      refine ⟨mCt w o2 + 1, by omega, ?_⟩
      rw [hv _ (by unfold oA enA; omega), mOpn, upd, if_pos rfl]
    · exact ⟨mCt w o2, h.ct6 ho2, by rw [e _ (by unfold oA; omega) (by unfold oA enA; omega)]; exact h.ct ho2⟩
  · intro o2 i2 ho2 hi2 hk2
    by_cases h3 : o2 = o ∧ i2 = i
    · obtain ⟨rfl, rfl⟩ := h3
      exact hk hk2
    · by_cases h2 : enA o i 4 < enA o2 i2 0 ∧ enA o2 i2 0 ≤ enA o (mCt w o) 4
      · have eo : o2 = o := by unfold enA at h2; rcases Nat.lt_trichotomy o2 o with z | z | z <;> omega
        subst eo
        have e0 : ∀ k, k < 2 → v (enA o2 i2 k) = w (enA o2 (i2 - 1) k) := by
          intro k hk3
          rw [hv _ (by unfold enA at *; omega), mOpn, upd, if_neg (by unfold oA enA at *; omega), mOpK, if_pos (by unfold enA at *; omega)]
          congr 1
          unfold enA at *
          omega
        rw [e0 0 (by omega)] at hk2
        rw [e0 1 (by omega)]
        exact h.who ho2 (by omega) hk2
      · have n0 : ∀ k, k < 2 → ¬ (enA o i 0 ≤ enA o2 i2 k ∧ enA o2 i2 k < enA o i 5) := by
          intro k hk3
          unfold enA at *
          rcases Nat.lt_trichotomy o2 o with z | z | z <;> omega
        rw [hv _ (n0 0 (by omega)), mOpn_at _ _ _ _ _ (by unfold oA enA; omega) h2] at hk2
        rw [hv _ (n0 1 (by omega)), mOpn_at _ _ _ _ _ (by unfold oA enA; omega) (by unfold enA at *; omega)]
        exact h.who ho2 hi2 hk2
