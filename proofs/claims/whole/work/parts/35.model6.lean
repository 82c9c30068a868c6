/-! The reference: moves, requests, questions -/
theorem mCt_to {w : Nat → Int32} {o i c0 : Nat} (h1 : c0 ≤ 6) : mCt (mTo w o i c0) o = c0 - 1 := by
  rw [mCt, mTo, mTk, if_neg (by unfold oA enA; omega), upd, if_pos rfl, nI_clamp (by omega)]
theorem mTo_5 {w : Nat → Int32} {o i c0 : Nat} : mTo w o i c0 (oA o 5) = nI (c0 - 1) := by
  rw [mTo, mTk, if_neg (by unfold oA enA; omega), upd, if_pos rfl]
/-- the entry i of o taken out and put in at the place t -/
def mMv (w old : Nat → Int32) (o i t : Nat) : Nat → Int32 := mPu (mOpn (mTo w o i (mCt w o)) o t (mCt w o - 1)) (mOneK w old o i 5) o t 5
theorem mOk_mv {w : Nat → Int32} (h : mOk w) (old : Nat → Int32) {o i t : Nat} (ho : o < 20) (hi : i < mCt w o) (ht : t < mCt w o) : mOk (mMv w old o i t) := by
  have hc6 := h.ct6 ho
  have e := mCt_to (w := w) (o := o) (i := i) hc6
  refine mOk_ins (w := mTo w o i (mCt w o)) (mOk_to h ho hi) ho (i := t) (by omega) (by omega) ?_ ?_
  · intro x hx
    rw [mMv, mPu, if_neg (by unfold enA at *; omega), e]
  · intro hk
    rw [mMv, mPu, if_pos (by unfold enA; omega), mOneK, if_pos (by unfold enA; omega), show enA o t 0 - enA o t 0 = 0 by omega] at hk
    obtain ⟨j, hj, e2⟩ := h.who ho (by omega : i < 6) hk
    refine ⟨j, hj, ?_⟩
    rw [mMv, mPu, if_pos (by unfold enA; omega), mOneK, if_pos (by unfold enA; omega), show enA o t 1 - enA o t 0 = 1 by unfold enA; omega]
    exact e2
set_option maxHeartbeats 4000000 in
set_option maxRecDepth 20000 in
theorem c_X12_moveEntry {l : Launch} (hl : l.stackTraces = false) (Θ : cTH) (o i t : Int32) (G : GS) (hm : mInv G) : Ct l yX12_moveEntry cX12_moveEntry 4 (some .int) rm_X12_moveEntry Θ [.ref (tR Θ 0 29), .int o, .int i, .int t] (G) (mg (mEnt (G.2.1 0 30) o i && mEnt (G.2.1 0 30) o t) 1 (fR (some (.int (mUl (mMv (G.2.1 0 30) (G.2.1 0 36) o.toNatClampNeg i.toNatClampNeg t.toNatClampNeg) (mNtK (G.2.1 0 30) (G.2.1 0 35) 240) 240 0 0))) (mWr (mMv (G.2.1 0 30) (G.2.1 0 36) o.toNatClampNeg i.toNatClampNeg t.toNatClampNeg) (mKp o.toNatClampNeg i.toNatClampNeg (mNo (mC G))))) (G)) := by
  refine ct_of (LS := [some (.ref (tR Θ 0 29)), some (.int o), some (.int i), some (.int t)]) hl (by decide +kernel) rfl (Nat.le_of_ble_eq_true rfl) rfl ?_
  intro p e s m args below meth c hC hr
  refine v_aload_n (i := 0) (q := 1) hC dX12_moveEntry_0 rfl rfl rfl ?_
  refine v_iconst (q := 2) (v := 0) hC dX12_moveEntry_1 rfl (by decide) ?_
  refine pm_last (q := 5) hC dX12_moveEntry_2 rfl rfl fl_RX12_39 ?_
  refine v_aload_n (i := 0) (q := 6) hC dX12_moveEntry_5 rfl rfl rfl ?_
  refine v_iload_n (i := 1) (q := 7) hC dX12_moveEntry_6 rfl rfl rfl ?_
  refine v_iload_n (i := 2) (q := 8) hC dX12_moveEntry_7 rfl rfl rfl ?_
  refine v_callV (q := 11) (rm := rm_X12_isEntry) hC (c_X12_isEntry hl Θ _ _ _) k_X12_isEntry im_yX12_isEntry se_yX12_isEntry ml_RX12_112 dX12_moveEntry_8 rfl rfl rfl rfl rfl rfl (Nat.le_of_ble_eq_true rfl) ⟨Nat.le_of_ble_eq_true rfl, Nat.le_of_ble_eq_true rfl⟩ ⟨Nat.le_of_ble_eq_true rfl, Nat.le_of_ble_eq_true rfl⟩ (fR_k ?_) fR_x (Nat.le_of_ble_eq_true rfl) (Nat.le_of_ble_eq_true rfl)
  try dsimp only [Option.toList, List.cons_append, List.nil_append]
  refine v_ifb_eq (q := 23) (q2 := 14) hC dX12_moveEntry_11 (by decide) rfl (fun c_11 => ?_) (fun c_11 => ?_)
  · refine v_aload_n (i := 0) (q := 24) hC dX12_moveEntry_23 rfl rfl rfl ?_
    refine v_iconst (q := 25) (v := 1) hC dX12_moveEntry_24 rfl (by decide) ?_
    refine v_callV (q := 28) (rm := rm_X12_fails) hC (c_fl hl Θ _ _ _) k_X12_fails im_yX12_fails se_yX12_fails ml_RX12_76 dX12_moveEntry_25 rfl rfl rfl rfl rfl rfl (Nat.le_of_ble_eq_true rfl) ⟨Nat.le_of_ble_eq_true rfl, Nat.le_of_ble_eq_true rfl⟩ ⟨Nat.le_of_ble_eq_true rfl, Nat.le_of_ble_eq_true rfl⟩ (fR_k ?_) fR_x (Nat.le_of_ble_eq_true rfl) (Nat.le_of_ble_eq_true rfl)
    try dsimp only [Option.toList, List.cons_append, List.nil_append]
    refine v_iret hC dX12_moveEntry_28 hr (rfl) ?_ (Nat.le_of_ble_eq_true rfl) (Nat.le_of_ble_eq_true rfl)
    exact mg_f (by first | (rw [show mEnt (G.2.1 0 30) o i = false from c_11]; rfl) | (rw [show mEnt (G.2.1 0 30) o t = false from c_20, Bool.and_false]))
  · refine v_aload_n (i := 0) (q := 15) hC dX12_moveEntry_14 rfl rfl rfl ?_
    refine v_iload_n (i := 1) (q := 16) hC dX12_moveEntry_15 rfl rfl rfl ?_
    refine v_iload_n (i := 3) (q := 17) hC dX12_moveEntry_16 rfl rfl rfl ?_
    refine v_callV (q := 20) (rm := rm_X12_isEntry) hC (c_X12_isEntry hl Θ _ _ _) k_X12_isEntry im_yX12_isEntry se_yX12_isEntry ml_RX12_112 dX12_moveEntry_17 rfl rfl rfl rfl rfl rfl (Nat.le_of_ble_eq_true rfl) ⟨Nat.le_of_ble_eq_true rfl, Nat.le_of_ble_eq_true rfl⟩ ⟨Nat.le_of_ble_eq_true rfl, Nat.le_of_ble_eq_true rfl⟩ (fR_k ?_) fR_x (Nat.le_of_ble_eq_true rfl) (Nat.le_of_ble_eq_true rfl)
    try dsimp only [Option.toList, List.cons_append, List.nil_append]
    refine v_ifb_ne (q := 29) (q2 := 23) hC dX12_moveEntry_20 (by decide) rfl (fun c_20 => ?_) (fun c_20 => ?_)
    · rw [mg_t (by rw [show mEnt (G.2.1 0 30) o i = true from c_11, show mEnt (G.2.1 0 30) o t = true from c_20]; rfl)]
      obtain ⟨j, k, hj, hk, rfl, rfl⟩ := mEnt_nI hm.2 c_11
      obtain ⟨j2, k2, hj2, hk2, ej, rfl⟩ := mEnt_nI hm.2 c_20
      have hc6 := hm.2.ct6 hj
      have ej2 : j2 = j := ((nI_eq (by omega) (by omega)).mp ej).symm
      subst ej2
      have hc62 := hm.2.ct6 hj
      rw [nI_clamp (show j2 < 2 ^ 31 by omega), nI_clamp (show k < 2 ^ 31 by omega), nI_clamp (show k2 < 2 ^ 31 by omega)]
      have e30 : (mKp j2 k (mNo (mC G))).2.1 0 30 = G.2.1 0 30 := mC_w G
      have e36 : (mKp j2 k (mNo (mC G))).2.1 0 36 = mOneK (G.2.1 0 30) (G.2.1 0 36) j2 k 5 := by show mOneK ((mC G).2.1 0 30) ((mC G).2.1 0 36) j2 k 5 = _; rw [mC_w, mC_row G (by decide)]
      have e35 : (mKp j2 k (mNo (mC G))).2.1 0 35 = mNtK (G.2.1 0 30) (G.2.1 0 35) 240 := by show mNtK ((mC G).2.1 0 30) ((mC G).2.1 0 35) 240 = _; rw [mC_w, mC_row G (by decide)]
      refine v_aload_n (i := 0) (q := 30) hC dX12_moveEntry_29 rfl rfl rfl ?_
      refine v_callV (q := 33) (rm := rm_X12_changes) hC (c_mC hl Θ _ hm) k_X12_changes im_yX12_changes se_yX12_changes ml_RX12_79 dX12_moveEntry_30 rfl rfl rfl rfl rfl rfl (Nat.le_of_ble_eq_true rfl) ⟨Nat.le_of_ble_eq_true rfl, Nat.le_of_ble_eq_true rfl⟩ ⟨Nat.le_of_ble_eq_true rfl, Nat.le_of_ble_eq_true rfl⟩ (fR_k ?_) fR_x (Nat.le_of_ble_eq_true rfl) (Nat.le_of_ble_eq_true rfl)
      try dsimp only [Option.toList, List.cons_append, List.nil_append]
      refine v_aload_n (i := 0) (q := 34) hC dX12_moveEntry_33 rfl rfl rfl ?_
      refine v_callV (q := 37) (rm := rm_X12_notes) hC (c_X12_notes hl Θ _ (by rw [mC_w]; exact hm.2)) k_X12_notes im_yX12_notes se_yX12_notes ml_RX12_128 dX12_moveEntry_34 rfl rfl rfl rfl rfl rfl (Nat.le_of_ble_eq_true rfl) ⟨Nat.le_of_ble_eq_true rfl, Nat.le_of_ble_eq_true rfl⟩ ⟨Nat.le_of_ble_eq_true rfl, Nat.le_of_ble_eq_true rfl⟩ (fR_k ?_) fR_x (Nat.le_of_ble_eq_true rfl) (Nat.le_of_ble_eq_true rfl)
      try dsimp only [Option.toList, List.cons_append, List.nil_append]
      refine v_aload_n (i := 0) (q := 38) hC dX12_moveEntry_37 rfl rfl rfl ?_
      refine v_iload_n (i := 1) (q := 39) hC dX12_moveEntry_38 rfl rfl rfl ?_
      refine v_iload_n (i := 2) (q := 40) hC dX12_moveEntry_39 rfl rfl rfl ?_
      refine v_callV (q := 43) (rm := rm_X12_keepsOne) hC (c_X12_keepsOne hl Θ j2 k _ hj (by omega)) k_X12_keepsOne im_yX12_keepsOne se_yX12_keepsOne ml_RX12_131 dX12_moveEntry_40 rfl rfl rfl rfl rfl rfl (Nat.le_of_ble_eq_true rfl) ⟨Nat.le_of_ble_eq_true rfl, Nat.le_of_ble_eq_true rfl⟩ ⟨Nat.le_of_ble_eq_true rfl, Nat.le_of_ble_eq_true rfl⟩ (fR_k ?_) fR_x (Nat.le_of_ble_eq_true rfl) (Nat.le_of_ble_eq_true rfl)
      try dsimp only [Option.toList, List.cons_append, List.nil_append]
      refine v_aload_n (i := 0) (q := 44) hC dX12_moveEntry_43 rfl rfl rfl ?_
      refine v_iload_n (i := 1) (q := 45) hC dX12_moveEntry_44 rfl rfl rfl ?_
      refine v_iload_n (i := 2) (q := 46) hC dX12_moveEntry_45 rfl rfl rfl ?_
      refine v_callV (q := 49) (rm := rm_X12_takesOut) hC (c_X12_takesOut hl Θ j2 k (mCt (G.2.1 0 30) j2) _ hj (by rw [e30]; exact hm.2.ct hj) (by omega) hc62 hk) k_X12_takesOut im_yX12_takesOut se_yX12_takesOut ml_RX12_115 dX12_moveEntry_46 rfl rfl rfl rfl rfl rfl (Nat.le_of_ble_eq_true rfl) ⟨Nat.le_of_ble_eq_true rfl, Nat.le_of_ble_eq_true rfl⟩ ⟨Nat.le_of_ble_eq_true rfl, Nat.le_of_ble_eq_true rfl⟩ (fR_k ?_) fR_x (Nat.le_of_ble_eq_true rfl) (Nat.le_of_ble_eq_true rfl)
      try dsimp only [Option.toList, List.cons_append, List.nil_append]
      rw [e30]
      refine v_aload_n (i := 0) (q := 50) hC dX12_moveEntry_49 rfl rfl rfl ?_
      refine v_iload_n (i := 1) (q := 51) hC dX12_moveEntry_50 rfl rfl rfl ?_
      refine v_iload_n (i := 3) (q := 52) hC dX12_moveEntry_51 rfl rfl rfl ?_
      refine v_callV (q := 55) (rm := rm_X12_putsOne) hC (c_X12_putsOne hl Θ j2 k2 (mCt (G.2.1 0 30) j2 - 1) _ hj (by rw [mWr_row]; exact mTo_5) (by omega) (by omega)) k_X12_putsOne im_yX12_putsOne se_yX12_putsOne ml_RX12_134 dX12_moveEntry_52 rfl rfl rfl rfl rfl rfl (Nat.le_of_ble_eq_true rfl) ⟨Nat.le_of_ble_eq_true rfl, Nat.le_of_ble_eq_true rfl⟩ ⟨Nat.le_of_ble_eq_true rfl, Nat.le_of_ble_eq_true rfl⟩ (fR_k ?_) fR_x (Nat.le_of_ble_eq_true rfl) (Nat.le_of_ble_eq_true rfl)
      try dsimp only [Option.toList, List.cons_append, List.nil_append]
      rw [mWr_row, mWr_mWr, show (mWr (mTo (G.2.1 0 30) j2 k (mCt (G.2.1 0 30) j2)) (mKp j2 k (mNo (mC G)))).2.1 0 36 = mOneK (G.2.1 0 30) (G.2.1 0 36) j2 k 5 from e36]
      refine v_aload_n (i := 0) (q := 56) hC dX12_moveEntry_55 rfl rfl rfl ?_
      refine v_callV (q := 59) (rm := rm_X12_unlike) hC (c_X12_unlike hl Θ _ (by rw [mWr_row]; exact mOk_mv hm.2 _ hj hk hk2)) k_X12_unlike im_yX12_unlike se_yX12_unlike ml_RX12_137 dX12_moveEntry_56 rfl rfl rfl rfl rfl rfl (Nat.le_of_ble_eq_true rfl) ⟨Nat.le_of_ble_eq_true rfl, Nat.le_of_ble_eq_true rfl⟩ ⟨Nat.le_of_ble_eq_true rfl, Nat.le_of_ble_eq_true rfl⟩ (fR_k ?_) fR_x (Nat.le_of_ble_eq_true rfl) (Nat.le_of_ble_eq_true rfl)
      try dsimp only [Option.toList, List.cons_append, List.nil_append]
      rw [mWr_row, show (mWr (mPu (mOpn (mTo (G.2.1 0 30) j2 k (mCt (G.2.1 0 30) j2)) j2 k2 (mCt (G.2.1 0 30) j2 - 1)) (mOneK (G.2.1 0 30) (G.2.1 0 36) j2 k 5) j2 k2 5) (mKp j2 k (mNo (mC G)))).2.1 0 35 = mNtK (G.2.1 0 30) (G.2.1 0 35) 240 from e35]
      refine v_iret hC dX12_moveEntry_59 hr (rfl) ?_ (Nat.le_of_ble_eq_true rfl) (Nat.le_of_ble_eq_true rfl)
      exact ⟨rfl, rfl⟩
    · refine v_aload_n (i := 0) (q := 24) hC dX12_moveEntry_23 rfl rfl rfl ?_
      refine v_iconst (q := 25) (v := 1) hC dX12_moveEntry_24 rfl (by decide) ?_
      refine v_callV (q := 28) (rm := rm_X12_fails) hC (c_fl hl Θ _ _ _) k_X12_fails im_yX12_fails se_yX12_fails ml_RX12_76 dX12_moveEntry_25 rfl rfl rfl rfl rfl rfl (Nat.le_of_ble_eq_true rfl) ⟨Nat.le_of_ble_eq_true rfl, Nat.le_of_ble_eq_true rfl⟩ ⟨Nat.le_of_ble_eq_true rfl, Nat.le_of_ble_eq_true rfl⟩ (fR_k ?_) fR_x (Nat.le_of_ble_eq_true rfl) (Nat.le_of_ble_eq_true rfl)
      try dsimp only [Option.toList, List.cons_append, List.nil_append]
      refine v_iret hC dX12_moveEntry_28 hr (rfl) ?_ (Nat.le_of_ble_eq_true rfl) (Nat.le_of_ble_eq_true rfl)
      exact mg_f (by first | (rw [show mEnt (G.2.1 0 30) o i = false from c_11]; rfl) | (rw [show mEnt (G.2.1 0 30) o t = false from c_20, Bool.and_false]))
set_option maxHeartbeats 4000000 in
set_option maxRecDepth 20000 in
theorem c_X12_isNeedless {l : Launch} (hl : l.stackTraces = false) (Θ : cTH) (o i : Int32) (G : GS) (hm : mInv G) : Ct l yX12_isNeedless cX12_isNeedless 4 (some .boolean) rm_X12_isNeedless Θ [.ref (tR Θ 0 29), .int o, .int i] (G) (mg (mEnt (G.2.1 0 30) o i) 1 (fR (some (.int (b2i (decide (mUl (mTo (G.2.1 0 30) o.toNatClampNeg i.toNatClampNeg (mCt (G.2.1 0 30) o.toNatClampNeg)) (mNtK (G.2.1 0 30) (G.2.1 0 35) 240) 240 0 0 = 0))))) (mWr (mMv (G.2.1 0 30) (G.2.1 0 36) o.toNatClampNeg i.toNatClampNeg i.toNatClampNeg) (mKp o.toNatClampNeg i.toNatClampNeg (mNo (ms 0 G))))) (G)) := by
  refine ct_of (LS := [some (.ref (tR Θ 0 29)), some (.int o), some (.int i), none]) hl (by decide +kernel) rfl (Nat.le_of_ble_eq_true rfl) rfl ?_
  intro p e s m args below meth c hC hr
  refine v_aload_n (i := 0) (q := 1) hC dX12_isNeedless_0 rfl rfl rfl ?_
  refine v_aload_n (i := 0) (q := 2) hC dX12_isNeedless_1 rfl rfl rfl ?_
  refine v_iload_n (i := 1) (q := 3) hC dX12_isNeedless_2 rfl rfl rfl ?_
  refine v_iload_n (i := 2) (q := 4) hC dX12_isNeedless_3 rfl rfl rfl ?_
  refine v_callV (q := 7) (rm := rm_X12_isEntry) hC (c_X12_isEntry hl Θ _ _ _) k_X12_isEntry im_yX12_isEntry se_yX12_isEntry ml_RX12_112 dX12_isNeedless_4 rfl rfl rfl rfl rfl rfl (Nat.le_of_ble_eq_true rfl) ⟨Nat.le_of_ble_eq_true rfl, Nat.le_of_ble_eq_true rfl⟩ ⟨Nat.le_of_ble_eq_true rfl, Nat.le_of_ble_eq_true rfl⟩ (fR_k ?_) fR_x (Nat.le_of_ble_eq_true rfl) (Nat.le_of_ble_eq_true rfl)
  try dsimp only [Option.toList, List.cons_append, List.nil_append]
  refine v_ifb_eq (q := 14) (q2 := 10) hC dX12_isNeedless_7 (by decide) rfl (fun c_7 => ?_) (fun c_7 => ?_)
  · refine v_iconst (q := 15) (v := 1) hC dX12_isNeedless_14 rfl (by decide) ?_
    refine pm_last (q := 18) hC dX12_isNeedless_15 rfl rfl fl_RX12_39 ?_
    refine v_aload_n (i := 0) (q := 19) hC dX12_isNeedless_18 rfl rfl rfl ?_
    refine gm_last (q := 22) hC dX12_isNeedless_19 rfl rfl fl_RX12_39 ?_
    refine v_iconst (q := 23) (v := 1) hC dX12_isNeedless_22 rfl (by decide) ?_
    refine v_icmp_ne (q := 28) (q2 := 26) hC dX12_isNeedless_23 (by decide) rfl (fun c_23 => ?_) (fun c_23 => ?_)
    · first
      | exact absurd c_23 (by decide)
      |
        rw [mg_t c_7]
        obtain ⟨j, k, hj, hk, rfl, rfl⟩ := mEnt_nI hm.2 c_7
        have hc6 := hm.2.ct6 hj
        rw [nI_clamp (show j < 2 ^ 31 by omega), nI_clamp (show k < 2 ^ 31 by omega)]
        have e30 : (mKp j k (mNo (ms 0 G))).2.1 0 30 = G.2.1 0 30 := rfl
        have e36 : (mKp j k (mNo (ms 0 G))).2.1 0 36 = mOneK (G.2.1 0 30) (G.2.1 0 36) j k 5 := rfl
        have e35 : (mKp j k (mNo (ms 0 G))).2.1 0 35 = mNtK (G.2.1 0 30) (G.2.1 0 35) 240 := rfl
        refine v_aload_n (i := 0) (q := 29) hC dX12_isNeedless_28 rfl rfl rfl ?_
        refine v_callV (q := 32) (rm := rm_X12_notes) hC (c_X12_notes hl Θ _ hm.2) k_X12_notes im_yX12_notes se_yX12_notes ml_RX12_128 dX12_isNeedless_29 rfl rfl rfl rfl rfl rfl (Nat.le_of_ble_eq_true rfl) ⟨Nat.le_of_ble_eq_true rfl, Nat.le_of_ble_eq_true rfl⟩ ⟨Nat.le_of_ble_eq_true rfl, Nat.le_of_ble_eq_true rfl⟩ (fR_k ?_) fR_x (Nat.le_of_ble_eq_true rfl) (Nat.le_of_ble_eq_true rfl)
        try dsimp only [Option.toList, List.cons_append, List.nil_append]
        refine v_aload_n (i := 0) (q := 33) hC dX12_isNeedless_32 rfl rfl rfl ?_
        refine v_iload_n (i := 1) (q := 34) hC dX12_isNeedless_33 rfl rfl rfl ?_
        refine v_iload_n (i := 2) (q := 35) hC dX12_isNeedless_34 rfl rfl rfl ?_
        refine v_callV (q := 38) (rm := rm_X12_keepsOne) hC (c_X12_keepsOne hl Θ j k _ hj (by omega)) k_X12_keepsOne im_yX12_keepsOne se_yX12_keepsOne ml_RX12_131 dX12_isNeedless_35 rfl rfl rfl rfl rfl rfl (Nat.le_of_ble_eq_true rfl) ⟨Nat.le_of_ble_eq_true rfl, Nat.le_of_ble_eq_true rfl⟩ ⟨Nat.le_of_ble_eq_true rfl, Nat.le_of_ble_eq_true rfl⟩ (fR_k ?_) fR_x (Nat.le_of_ble_eq_true rfl) (Nat.le_of_ble_eq_true rfl)
        try dsimp only [Option.toList, List.cons_append, List.nil_append]
        refine v_aload_n (i := 0) (q := 39) hC dX12_isNeedless_38 rfl rfl rfl ?_
        refine v_iload_n (i := 1) (q := 40) hC dX12_isNeedless_39 rfl rfl rfl ?_
        refine v_iload_n (i := 2) (q := 41) hC dX12_isNeedless_40 rfl rfl rfl ?_
        refine v_callV (q := 44) (rm := rm_X12_takesOut) hC (c_X12_takesOut hl Θ j k (mCt (G.2.1 0 30) j) _ hj (by rw [e30]; exact hm.2.ct hj) (by omega) hc6 hk) k_X12_takesOut im_yX12_takesOut se_yX12_takesOut ml_RX12_115 dX12_isNeedless_41 rfl rfl rfl rfl rfl rfl (Nat.le_of_ble_eq_true rfl) ⟨Nat.le_of_ble_eq_true rfl, Nat.le_of_ble_eq_true rfl⟩ ⟨Nat.le_of_ble_eq_true rfl, Nat.le_of_ble_eq_true rfl⟩ (fR_k ?_) fR_x (Nat.le_of_ble_eq_true rfl) (Nat.le_of_ble_eq_true rfl)
        try dsimp only [Option.toList, List.cons_append, List.nil_append]
        rw [e30]
        refine v_aload_n (i := 0) (q := 45) hC dX12_isNeedless_44 rfl rfl rfl ?_
        refine v_callV (q := 48) (rm := rm_X12_unlike) hC (c_X12_unlike hl Θ _ (by rw [mWr_row]; exact mOk_to hm.2 hj hk)) k_X12_unlike im_yX12_unlike se_yX12_unlike ml_RX12_137 dX12_isNeedless_45 rfl rfl rfl rfl rfl rfl (Nat.le_of_ble_eq_true rfl) ⟨Nat.le_of_ble_eq_true rfl, Nat.le_of_ble_eq_true rfl⟩ ⟨Nat.le_of_ble_eq_true rfl, Nat.le_of_ble_eq_true rfl⟩ (fR_k ?_) fR_x (Nat.le_of_ble_eq_true rfl) (Nat.le_of_ble_eq_true rfl)
        try dsimp only [Option.toList, List.cons_append, List.nil_append]
        rw [mWr_row, show (mWr (mTo (G.2.1 0 30) j k (mCt (G.2.1 0 30) j)) (mKp j k (mNo (ms 0 G)))).2.1 0 35 = mNtK (G.2.1 0 30) (G.2.1 0 35) 240 from e35]
        refine v_if_ne (q := 55) (q2 := 51) hC dX12_isNeedless_48 (by decide) rfl (fun c_48 => ?_) (fun c_48 => ?_)
        · refine v_iconst (q := 56) (v := 0) hC dX12_isNeedless_55 rfl (by decide) ?_
          refine v_istore_n (i := 3) (q := 57) hC dX12_isNeedless_56 rfl rfl (lvc rfl) (Nat.le_of_ble_eq_true rfl) (Nat.le_of_ble_eq_true rfl) rfl ?_
          refine v_aload_n (i := 0) (q := 58) hC dX12_isNeedless_57 rfl rfl rfl ?_
          refine v_iload_n (i := 1) (q := 59) hC dX12_isNeedless_58 rfl rfl rfl ?_
          refine v_iload_n (i := 2) (q := 60) hC dX12_isNeedless_59 rfl rfl rfl ?_
          refine v_callV (q := 63) (rm := rm_X12_putsOne) hC (c_X12_putsOne hl Θ j k (mCt (G.2.1 0 30) j - 1) _ hj (by rw [mWr_row]; exact mTo_5) (by omega) (by omega)) k_X12_putsOne im_yX12_putsOne se_yX12_putsOne ml_RX12_134 dX12_isNeedless_60 rfl rfl rfl rfl rfl rfl (Nat.le_of_ble_eq_true rfl) ⟨Nat.le_of_ble_eq_true rfl, Nat.le_of_ble_eq_true rfl⟩ ⟨Nat.le_of_ble_eq_true rfl, Nat.le_of_ble_eq_true rfl⟩ (fR_k ?_) fR_x (Nat.le_of_ble_eq_true rfl) (Nat.le_of_ble_eq_true rfl)
          try dsimp only [Option.toList, List.cons_append, List.nil_append]
          rw [mWr_row, mWr_mWr, show (mWr (mTo (G.2.1 0 30) j k (mCt (G.2.1 0 30) j)) (mKp j k (mNo (ms 0 G)))).2.1 0 36 = mOneK (G.2.1 0 30) (G.2.1 0 36) j k 5 from e36]
          refine v_iload_n (i := 3) (q := 64) hC dX12_isNeedless_63 rfl rfl rfl ?_
          refine v_iret hC dX12_isNeedless_64 hr (by first | rfl | exact nar_b) ?_ (Nat.le_of_ble_eq_true rfl) (Nat.le_of_ble_eq_true rfl)
          refine ⟨?_, rfl⟩
          first | (rw [decide_eq_true c_48]; rfl) | (rw [decide_eq_false c_48]; rfl)
        · refine v_iconst (q := 52) (v := 1) hC dX12_isNeedless_51 rfl (by decide) ?_
          refine v_goto (q := 56) hC dX12_isNeedless_52 (by decide) ?_
          refine v_istore_n (i := 3) (q := 57) hC dX12_isNeedless_56 rfl rfl (lvc rfl) (Nat.le_of_ble_eq_true rfl) (Nat.le_of_ble_eq_true rfl) rfl ?_
          refine v_aload_n (i := 0) (q := 58) hC dX12_isNeedless_57 rfl rfl rfl ?_
          refine v_iload_n (i := 1) (q := 59) hC dX12_isNeedless_58 rfl rfl rfl ?_
          refine v_iload_n (i := 2) (q := 60) hC dX12_isNeedless_59 rfl rfl rfl ?_
          refine v_callV (q := 63) (rm := rm_X12_putsOne) hC (c_X12_putsOne hl Θ j k (mCt (G.2.1 0 30) j - 1) _ hj (by rw [mWr_row]; exact mTo_5) (by omega) (by omega)) k_X12_putsOne im_yX12_putsOne se_yX12_putsOne ml_RX12_134 dX12_isNeedless_60 rfl rfl rfl rfl rfl rfl (Nat.le_of_ble_eq_true rfl) ⟨Nat.le_of_ble_eq_true rfl, Nat.le_of_ble_eq_true rfl⟩ ⟨Nat.le_of_ble_eq_true rfl, Nat.le_of_ble_eq_true rfl⟩ (fR_k ?_) fR_x (Nat.le_of_ble_eq_true rfl) (Nat.le_of_ble_eq_true rfl)
          try dsimp only [Option.toList, List.cons_append, List.nil_append]
          rw [mWr_row, mWr_mWr, show (mWr (mTo (G.2.1 0 30) j k (mCt (G.2.1 0 30) j)) (mKp j k (mNo (ms 0 G)))).2.1 0 36 = mOneK (G.2.1 0 30) (G.2.1 0 36) j k 5 from e36]
          refine v_iload_n (i := 3) (q := 64) hC dX12_isNeedless_63 rfl rfl rfl ?_
          refine v_iret hC dX12_isNeedless_64 hr (by first | rfl | exact nar_b) ?_ (Nat.le_of_ble_eq_true rfl) (Nat.le_of_ble_eq_true rfl)
          refine ⟨?_, rfl⟩
          first | (rw [decide_eq_true c_48]; rfl) | (rw [decide_eq_false c_48]; rfl)
    · first
      | exact absurd c_23 (by decide)
      |
        refine v_iconst (q := 27) (v := 0) hC dX12_isNeedless_26 rfl (by decide) ?_
        refine v_iret hC dX12_isNeedless_27 hr (by first | rfl | exact nar_b) ?_ (Nat.le_of_ble_eq_true rfl) (Nat.le_of_ble_eq_true rfl)
        exact mg_f c_7
  · refine v_iconst (q := 11) (v := 0) hC dX12_isNeedless_10 rfl (by decide) ?_
    refine v_goto (q := 15) hC dX12_isNeedless_11 (by decide) ?_
    refine pm_last (q := 18) hC dX12_isNeedless_15 rfl rfl fl_RX12_39 ?_
    refine v_aload_n (i := 0) (q := 19) hC dX12_isNeedless_18 rfl rfl rfl ?_
    refine gm_last (q := 22) hC dX12_isNeedless_19 rfl rfl fl_RX12_39 ?_
    refine v_iconst (q := 23) (v := 1) hC dX12_isNeedless_22 rfl (by decide) ?_
    refine v_icmp_ne (q := 28) (q2 := 26) hC dX12_isNeedless_23 (by decide) rfl (fun c_23 => ?_) (fun c_23 => ?_)
    · first
      | exact absurd c_23 (by decide)
      |
        rw [mg_t c_7]
        obtain ⟨j, k, hj, hk, rfl, rfl⟩ := mEnt_nI hm.2 c_7
        have hc6 := hm.2.ct6 hj
        rw [nI_clamp (show j < 2 ^ 31 by omega), nI_clamp (show k < 2 ^ 31 by omega)]
        have e30 : (mKp j k (mNo (ms 0 G))).2.1 0 30 = G.2.1 0 30 := rfl
        have e36 : (mKp j k (mNo (ms 0 G))).2.1 0 36 = mOneK (G.2.1 0 30) (G.2.1 0 36) j k 5 := rfl
        have e35 : (mKp j k (mNo (ms 0 G))).2.1 0 35 = mNtK (G.2.1 0 30) (G.2.1 0 35) 240 := rfl
        refine v_aload_n (i := 0) (q := 29) hC dX12_isNeedless_28 rfl rfl rfl ?_
        refine v_callV (q := 32) (rm := rm_X12_notes) hC (c_X12_notes hl Θ _ hm.2) k_X12_notes im_yX12_notes se_yX12_notes ml_RX12_128 dX12_isNeedless_29 rfl rfl rfl rfl rfl rfl (Nat.le_of_ble_eq_true rfl) ⟨Nat.le_of_ble_eq_true rfl, Nat.le_of_ble_eq_true rfl⟩ ⟨Nat.le_of_ble_eq_true rfl, Nat.le_of_ble_eq_true rfl⟩ (fR_k ?_) fR_x (Nat.le_of_ble_eq_true rfl) (Nat.le_of_ble_eq_true rfl)
        try dsimp only [Option.toList, List.cons_append, List.nil_append]
        refine v_aload_n (i := 0) (q := 33) hC dX12_isNeedless_32 rfl rfl rfl ?_
        refine v_iload_n (i := 1) (q := 34) hC dX12_isNeedless_33 rfl rfl rfl ?_
        refine v_iload_n (i := 2) (q := 35) hC dX12_isNeedless_34 rfl rfl rfl ?_
        refine v_callV (q := 38) (rm := rm_X12_keepsOne) hC (c_X12_keepsOne hl Θ j k _ hj (by omega)) k_X12_keepsOne im_yX12_keepsOne se_yX12_keepsOne ml_RX12_131 dX12_isNeedless_35 rfl rfl rfl rfl rfl rfl (Nat.le_of_ble_eq_true rfl) ⟨Nat.le_of_ble_eq_true rfl, Nat.le_of_ble_eq_true rfl⟩ ⟨Nat.le_of_ble_eq_true rfl, Nat.le_of_ble_eq_true rfl⟩ (fR_k ?_) fR_x (Nat.le_of_ble_eq_true rfl) (Nat.le_of_ble_eq_true rfl)
        try dsimp only [Option.toList, List.cons_append, List.nil_append]
        refine v_aload_n (i := 0) (q := 39) hC dX12_isNeedless_38 rfl rfl rfl ?_
        refine v_iload_n (i := 1) (q := 40) hC dX12_isNeedless_39 rfl rfl rfl ?_
        refine v_iload_n (i := 2) (q := 41) hC dX12_isNeedless_40 rfl rfl rfl ?_
        refine v_callV (q := 44) (rm := rm_X12_takesOut) hC (c_X12_takesOut hl Θ j k (mCt (G.2.1 0 30) j) _ hj (by rw [e30]; exact hm.2.ct hj) (by omega) hc6 hk) k_X12_takesOut im_yX12_takesOut se_yX12_takesOut ml_RX12_115 dX12_isNeedless_41 rfl rfl rfl rfl rfl rfl (Nat.le_of_ble_eq_true rfl) ⟨Nat.le_of_ble_eq_true rfl, Nat.le_of_ble_eq_true rfl⟩ ⟨Nat.le_of_ble_eq_true rfl, Nat.le_of_ble_eq_true rfl⟩ (fR_k ?_) fR_x (Nat.le_of_ble_eq_true rfl) (Nat.le_of_ble_eq_true rfl)
        try dsimp only [Option.toList, List.cons_append, List.nil_append]
        rw [e30]
        refine v_aload_n (i := 0) (q := 45) hC dX12_isNeedless_44 rfl rfl rfl ?_
        refine v_callV (q := 48) (rm := rm_X12_unlike) hC (c_X12_unlike hl Θ _ (by rw [mWr_row]; exact mOk_to hm.2 hj hk)) k_X12_unlike im_yX12_unlike se_yX12_unlike ml_RX12_137 dX12_isNeedless_45 rfl rfl rfl rfl rfl rfl (Nat.le_of_ble_eq_true rfl) ⟨Nat.le_of_ble_eq_true rfl, Nat.le_of_ble_eq_true rfl⟩ ⟨Nat.le_of_ble_eq_true rfl, Nat.le_of_ble_eq_true rfl⟩ (fR_k ?_) fR_x (Nat.le_of_ble_eq_true rfl) (Nat.le_of_ble_eq_true rfl)
        try dsimp only [Option.toList, List.cons_append, List.nil_append]
        rw [mWr_row, show (mWr (mTo (G.2.1 0 30) j k (mCt (G.2.1 0 30) j)) (mKp j k (mNo (ms 0 G)))).2.1 0 35 = mNtK (G.2.1 0 30) (G.2.1 0 35) 240 from e35]
        refine v_if_ne (q := 55) (q2 := 51) hC dX12_isNeedless_48 (by decide) rfl (fun c_48 => ?_) (fun c_48 => ?_)
        · refine v_iconst (q := 56) (v := 0) hC dX12_isNeedless_55 rfl (by decide) ?_
          refine v_istore_n (i := 3) (q := 57) hC dX12_isNeedless_56 rfl rfl (lvc rfl) (Nat.le_of_ble_eq_true rfl) (Nat.le_of_ble_eq_true rfl) rfl ?_
          refine v_aload_n (i := 0) (q := 58) hC dX12_isNeedless_57 rfl rfl rfl ?_
          refine v_iload_n (i := 1) (q := 59) hC dX12_isNeedless_58 rfl rfl rfl ?_
          refine v_iload_n (i := 2) (q := 60) hC dX12_isNeedless_59 rfl rfl rfl ?_
          refine v_callV (q := 63) (rm := rm_X12_putsOne) hC (c_X12_putsOne hl Θ j k (mCt (G.2.1 0 30) j - 1) _ hj (by rw [mWr_row]; exact mTo_5) (by omega) (by omega)) k_X12_putsOne im_yX12_putsOne se_yX12_putsOne ml_RX12_134 dX12_isNeedless_60 rfl rfl rfl rfl rfl rfl (Nat.le_of_ble_eq_true rfl) ⟨Nat.le_of_ble_eq_true rfl, Nat.le_of_ble_eq_true rfl⟩ ⟨Nat.le_of_ble_eq_true rfl, Nat.le_of_ble_eq_true rfl⟩ (fR_k ?_) fR_x (Nat.le_of_ble_eq_true rfl) (Nat.le_of_ble_eq_true rfl)
          try dsimp only [Option.toList, List.cons_append, List.nil_append]
          rw [mWr_row, mWr_mWr, show (mWr (mTo (G.2.1 0 30) j k (mCt (G.2.1 0 30) j)) (mKp j k (mNo (ms 0 G)))).2.1 0 36 = mOneK (G.2.1 0 30) (G.2.1 0 36) j k 5 from e36]
          refine v_iload_n (i := 3) (q := 64) hC dX12_isNeedless_63 rfl rfl rfl ?_
          refine v_iret hC dX12_isNeedless_64 hr (by first | rfl | exact nar_b) ?_ (Nat.le_of_ble_eq_true rfl) (Nat.le_of_ble_eq_true rfl)
          refine ⟨?_, rfl⟩
          first | (rw [decide_eq_true c_48]; rfl) | (rw [decide_eq_false c_48]; rfl)
        · refine v_iconst (q := 52) (v := 1) hC dX12_isNeedless_51 rfl (by decide) ?_
          refine v_goto (q := 56) hC dX12_isNeedless_52 (by decide) ?_
          refine v_istore_n (i := 3) (q := 57) hC dX12_isNeedless_56 rfl rfl (lvc rfl) (Nat.le_of_ble_eq_true rfl) (Nat.le_of_ble_eq_true rfl) rfl ?_
          refine v_aload_n (i := 0) (q := 58) hC dX12_isNeedless_57 rfl rfl rfl ?_
          refine v_iload_n (i := 1) (q := 59) hC dX12_isNeedless_58 rfl rfl rfl ?_
          refine v_iload_n (i := 2) (q := 60) hC dX12_isNeedless_59 rfl rfl rfl ?_
          refine v_callV (q := 63) (rm := rm_X12_putsOne) hC (c_X12_putsOne hl Θ j k (mCt (G.2.1 0 30) j - 1) _ hj (by rw [mWr_row]; exact mTo_5) (by omega) (by omega)) k_X12_putsOne im_yX12_putsOne se_yX12_putsOne ml_RX12_134 dX12_isNeedless_60 rfl rfl rfl rfl rfl rfl (Nat.le_of_ble_eq_true rfl) ⟨Nat.le_of_ble_eq_true rfl, Nat.le_of_ble_eq_true rfl⟩ ⟨Nat.le_of_ble_eq_true rfl, Nat.le_of_ble_eq_true rfl⟩ (fR_k ?_) fR_x (Nat.le_of_ble_eq_true rfl) (Nat.le_of_ble_eq_true rfl)
          try dsimp only [Option.toList, List.cons_append, List.nil_append]
          rw [mWr_row, mWr_mWr, show (mWr (mTo (G.2.1 0 30) j k (mCt (G.2.1 0 30) j)) (mKp j k (mNo (ms 0 G)))).2.1 0 36 = mOneK (G.2.1 0 30) (G.2.1 0 36) j k 5 from e36]
          refine v_iload_n (i := 3) (q := 64) hC dX12_isNeedless_63 rfl rfl rfl ?_
          refine v_iret hC dX12_isNeedless_64 hr (by first | rfl | exact nar_b) ?_ (Nat.le_of_ble_eq_true rfl) (Nat.le_of_ble_eq_true rfl)
          refine ⟨?_, rfl⟩
          first | (rw [decide_eq_true c_48]; rfl) | (rw [decide_eq_false c_48]; rfl)
    · first
      | exact absurd c_23 (by decide)
      |
        refine v_iconst (q := 27) (v := 0) hC dX12_isNeedless_26 rfl (by decide) ?_
        refine v_iret hC dX12_isNeedless_27 hr (by first | rfl | exact nar_b) ?_ (Nat.le_of_ble_eq_true rfl) (Nat.le_of_ble_eq_true rfl)
        exact mg_f c_7
/-- the log makes room -/
def mLgK (w : Nat → Int32) (b : Nat) : Nat → Int32 := fun k => if b < k ∧ k ≤ 761 then w (k - 3) else w k
theorem mLgK_0 (w : Nat → Int32) : mLgK w 761 = w := by
  funext k
  rw [mLgK, if_neg (by omega)]
theorem mLgK_step (w : Nat → Int32) (b : Nat) (h : b + 1 ≤ 761) (h3 : 3 ≤ b + 1) : upd (mLgK w (b + 1)) (b + 1) (mLgK w (b + 1) (b + 1 - 3)) = mLgK w b := by
  funext k
  unfold upd mLgK
  by_cases h1 : k = b + 1
  · subst h1
    rw [if_pos rfl, if_neg (by omega), if_pos (by omega)]
  · rw [if_neg h1]
    by_cases h2 : b + 1 < k ∧ k ≤ 761
    · rw [if_pos h2, if_pos (by omega)]
    · rw [if_neg h2, if_neg (by omega)]
def mL3 (w : Nat → Int32) (u o : Int32) (b : Bool) : Nat → Int32 := upd (upd (upd (mLgK w 740) 738 u) 739 o) 740 (b2i b)
def mL4 (w : Nat → Int32) (u o : Int32) (b : Bool) : Nat → Int32 := upd (mL3 w u o b) 762 (mL3 w u o b 762 + (if mL3 w u o b 762 < 8 then 1 else 0))
def mL5 (w : Nat → Int32) (u o : Int32) (b : Bool) : Nat → Int32 := upd (mL4 w u o b) 763 (mL4 w u o b 763 + 1)
def mLog (w : Nat → Int32) (u o : Int32) (b : Bool) : Nat → Int32 := upd (mL5 w u o b) 764 (mL5 w u o b 764 + (if b = true then 0 else 1))
def mQc (w : Nat → Int32) (u o r : Int32) : Int32 := if (mIn u 0 (w 0 - 1) && mHold w o) = true then (if mIn r 0 3 = true then 0 else 2) else 1
def mQ3 (u o r : Int32) (X : cOut → GS → Prop) (G : GS) : cOut → GS → Prop := mg (mIn u 0 (G.2.1 0 30 0 - 1) && mHold (G.2.1 0 30) o) 1 (mg (mIn r 0 3) 2 X G) G
theorem mQ3_t {u o r : Int32} {X : cOut → GS → Prop} {G : GS} (h : mQc (G.2.1 0 30) u o r = 0) : mQ3 u o r X G = X ∧ (mIn u 0 (G.2.1 0 30 0 - 1) = true ∧ mHold (G.2.1 0 30) o = true) ∧ mIn r 0 3 = true := by
  unfold mQc at h
  by_cases h1 : (mIn u 0 (G.2.1 0 30 0 - 1) && mHold (G.2.1 0 30) o) = true
  · rw [if_pos h1] at h
    by_cases h2 : mIn r 0 3 = true
    · exact ⟨by rw [mQ3, mg_t h1, mg_t h2], Bool.and_eq_true_iff.mp h1, h2⟩
    · rw [if_neg h2] at h
      exact absurd h (by decide)
  · rw [if_neg h1] at h
    exact absurd h (by decide)
theorem mQ3_f {u o r : Int32} {X : cOut → GS → Prop} {G : GS} (h : ¬ mQc (G.2.1 0 30) u o r = 0) : mQ3 u o r X G (.inl (some (.int 0))) (ms (mQc (G.2.1 0 30) u o r) G) := by
  unfold mQ3 mQc at *
  by_cases h1 : (mIn u 0 (G.2.1 0 30 0 - 1) && mHold (G.2.1 0 30) o) = true
  · rw [if_pos h1] at h ⊢
    rw [mg_t h1]
    by_cases h2 : mIn r 0 3 = true
    · rw [if_pos h2] at h
      exact absurd rfl h
    · rw [if_neg h2]
      exact mg_f (by simpa using h2)
  · rw [if_neg h1]
    exact mg_f (by simpa using h1)
theorem L_ask {l : Launch} (hl : l.stackTraces = false) (Θ : cTH) (u r : Int32) (j0 : Nat) (b : Bool) (w : Nat → Int32) (G : GS) {p : Program} {e : Env} {s : State} {m : MethodId} {args : Array Value} {below : List Frame} {meth : Method} {c : Code} (hC : cC p l s m args meth c cX12_ask 6 RX12 Θ) (hr : meth.sig.returnType = some .boolean) : ∀ (n j : Nat), 740 + n = j → j ≤ 761 → V p l e rm_X12_ask s m args below meth c 6 Θ (fR (some (.int (b2i b))) (mWr (mLog w u (nI j0) b) G)) rm_X12_ask.cells rm_X12_ask.slots 0 0 63 [some (.ref (tR Θ 0 29)), some (.int u), some (.int (nI j0)), some (.int r), some (.int (b2i b)), some (.int (nI j))] [] (mWr (mLgK w j) G) := by
    intro n
    induction n with
    | zero =>
      intro j h1 h2
      have ej : j = 740 := by omega
      subst ej
      have LA : V p l e rm_X12_ask s m args below meth c 6 Θ (fR (some (.int (b2i b))) (mWr (mLog w u (nI j0) b) G)) rm_X12_ask.cells rm_X12_ask.slots 0 0 129 [some (.ref (tR Θ 0 29)), some (.int u), some (.int (nI j0)), some (.int r), some (.int (b2i b)), some (.int (nI 740))] [] (mWr (mL3 w u (nI j0) b) G) := by
        have LB : V p l e rm_X12_ask s m args below meth c 6 Θ (fR (some (.int (b2i b))) (mWr (mLog w u (nI j0) b) G)) rm_X12_ask.cells rm_X12_ask.slots 0 0 158 [some (.ref (tR Θ 0 29)), some (.int u), some (.int (nI j0)), some (.int r), some (.int (b2i b)), some (.int (nI 740))] [] (mWr (mL4 w u (nI j0) b) G) := by
          refine v_aload_n (i := 0) (q := 159) hC dX12_ask_158 rfl rfl rfl ?_
          refine g_X12_0 (q := 162) hC dX12_ask_159 rfl rfl fl_RX12_7 ?_
          refine v_sipush (q := 165) (v := 763) hC dX12_ask_162 rfl (by decide) ?_
          refine v_dup2 (q := 166) hC dX12_ask_165 rfl rfl rfl ?_
          refine v_ialdN (q := 167) hC dX12_ask_166 rfl rfl rfl (i := 763) (rfl) (by first | decide | omega | (unfold oA; omega) | (unfold enA; omega)) (by decide) ?_
          rw [mWr_row]
          refine v_iconst (q := 168) (v := 1) hC dX12_ask_167 rfl (by decide) ?_
          refine v_iadd (q := 169) hC dX12_ask_168 rfl ?_
          refine v_mwr (i := 763) (q := 170) hC dX12_ask_169 rfl rfl (by decide) ?_
          refine v_aload_n (i := 0) (q := 171) hC dX12_ask_170 rfl rfl rfl ?_
          refine g_X12_0 (q := 174) hC dX12_ask_171 rfl rfl fl_RX12_7 ?_
          refine v_sipush (q := 177) (v := 764) hC dX12_ask_174 rfl (by decide) ?_
          refine v_dup2 (q := 178) hC dX12_ask_177 rfl rfl rfl ?_
          refine v_ialdN (q := 179) hC dX12_ask_178 rfl rfl rfl (i := 764) (rfl) (by first | decide | omega | (unfold oA; omega) | (unfold enA; omega)) (by decide) ?_
          rw [mWr_row]
          refine v_iload (q := 181) hC dX12_ask_179 rfl rfl ?_
          refine v_if_eq (q := 188) (q2 := 184) hC dX12_ask_181 (by decide) rfl (fun c_181 => ?_) (fun c_181 => ?_)
          · refine v_iconst (q := 189) (v := 1) hC dX12_ask_188 rfl (by decide) ?_
            refine v_iadd (q := 190) hC dX12_ask_189 rfl ?_
            refine v_mwr (i := 764) (q := 191) hC dX12_ask_190 rfl rfl (by decide) ?_
            refine v_iload (q := 193) hC dX12_ask_191 rfl rfl ?_
            refine v_iret hC dX12_ask_193 hr (by first | rfl | exact nar_b) ?_ (Nat.le_of_ble_eq_true rfl) (Nat.le_of_ble_eq_true rfl)
            refine ⟨rfl, ?_⟩
            rw [mLog]
            first | (rw [b2i_ne0.mp c_181]; rfl) | (rw [b2i_eq0.mp c_181]; rfl)
          · refine v_iconst (q := 185) (v := 0) hC dX12_ask_184 rfl (by decide) ?_
            refine v_goto (q := 189) hC dX12_ask_185 (by decide) ?_
            refine v_iadd (q := 190) hC dX12_ask_189 rfl ?_
            refine v_mwr (i := 764) (q := 191) hC dX12_ask_190 rfl rfl (by decide) ?_
            refine v_iload (q := 193) hC dX12_ask_191 rfl rfl ?_
            refine v_iret hC dX12_ask_193 hr (by first | rfl | exact nar_b) ?_ (Nat.le_of_ble_eq_true rfl) (Nat.le_of_ble_eq_true rfl)
            refine ⟨rfl, ?_⟩
            rw [mLog]
            first | (rw [b2i_ne0.mp c_181]; rfl) | (rw [b2i_eq0.mp c_181]; rfl)
        refine v_aload_n (i := 0) (q := 130) hC dX12_ask_129 rfl rfl rfl ?_
        refine g_X12_0 (q := 133) hC dX12_ask_130 rfl rfl fl_RX12_7 ?_
        refine v_sipush (q := 136) (v := 762) hC dX12_ask_133 rfl (by decide) ?_
        refine v_dup2 (q := 137) hC dX12_ask_136 rfl rfl rfl ?_
        refine v_ialdN (q := 138) hC dX12_ask_137 rfl rfl rfl (i := 762) (rfl) (by first | decide | omega | (unfold oA; omega) | (unfold enA; omega)) (by decide) ?_
        rw [mWr_row]
        refine v_aload_n (i := 0) (q := 139) hC dX12_ask_138 rfl rfl rfl ?_
        refine g_X12_0 (q := 142) hC dX12_ask_139 rfl rfl fl_RX12_7 ?_
        refine v_sipush (q := 145) (v := 762) hC dX12_ask_142 rfl (by decide) ?_
        refine v_ialdN (q := 146) hC dX12_ask_145 rfl rfl rfl (i := 762) (rfl) (by first | decide | omega | (unfold oA; omega) | (unfold enA; omega)) (by decide) ?_
        rw [mWr_row]
        refine v_bipush (q := 148) (v := 8) hC dX12_ask_146 rfl (by decide) ?_
        refine v_icmp_ge (q := 155) (q2 := 151) hC dX12_ask_148 (by decide) rfl (fun c_148 => ?_) (fun c_148 => ?_)
        · refine v_iconst (q := 156) (v := 0) hC dX12_ask_155 rfl (by decide) ?_
          refine v_iadd (q := 157) hC dX12_ask_156 rfl ?_
          refine v_mwr (i := 762) (q := 158) hC dX12_ask_157 rfl rfl (by decide) ?_
          have h := LB
          rw [mL4] at h
          first | (rw [if_pos (Int32.not_le.mp c_148)] at h; exact h) | (rw [if_neg (Int32.not_lt.mpr c_148)] at h; exact h)
        · refine v_iconst (q := 152) (v := 1) hC dX12_ask_151 rfl (by decide) ?_
          refine v_goto (q := 156) hC dX12_ask_152 (by decide) ?_
          refine v_iadd (q := 157) hC dX12_ask_156 rfl ?_
          refine v_mwr (i := 762) (q := 158) hC dX12_ask_157 rfl rfl (by decide) ?_
          have h := LB
          rw [mL4] at h
          first | (rw [if_pos (Int32.not_le.mp c_148)] at h; exact h) | (rw [if_neg (Int32.not_lt.mpr c_148)] at h; exact h)
      refine v_iload (q := 65) hC dX12_ask_63 rfl rfl ?_
      refine v_sipush (q := 68) (v := 741) hC dX12_ask_65 rfl (by decide) ?_
      refine v_icmp_lt (q := 93) (q2 := 71) hC dX12_ask_68 (by decide) rfl (fun c_68 => ?_) (fun c_68 => ?_)
      · refine v_aload_n (i := 0) (q := 94) hC dX12_ask_93 rfl rfl rfl ?_
        refine g_X12_0 (q := 97) hC dX12_ask_94 rfl rfl fl_RX12_7 ?_
        refine v_sipush (q := 100) (v := 738) hC dX12_ask_97 rfl (by decide) ?_
        refine v_iload_n (i := 1) (q := 101) hC dX12_ask_100 rfl rfl rfl ?_
        refine v_mwr (i := 738) (q := 102) hC dX12_ask_101 rfl rfl (by decide) ?_
        refine v_aload_n (i := 0) (q := 103) hC dX12_ask_102 rfl rfl rfl ?_
        refine g_X12_0 (q := 106) hC dX12_ask_103 rfl rfl fl_RX12_7 ?_
        refine v_sipush (q := 109) (v := 739) hC dX12_ask_106 rfl (by decide) ?_
        refine v_iload_n (i := 2) (q := 110) hC dX12_ask_109 rfl rfl rfl ?_
        refine v_mwr (i := 739) (q := 111) hC dX12_ask_110 rfl rfl (by decide) ?_
        refine v_aload_n (i := 0) (q := 112) hC dX12_ask_111 rfl rfl rfl ?_
        refine g_X12_0 (q := 115) hC dX12_ask_112 rfl rfl fl_RX12_7 ?_
        refine v_sipush (q := 118) (v := 740) hC dX12_ask_115 rfl (by decide) ?_
        refine v_iload (q := 120) hC dX12_ask_118 rfl rfl ?_
        refine v_if_eq (q := 127) (q2 := 123) hC dX12_ask_120 (by decide) rfl (fun c_120 => ?_) (fun c_120 => ?_)
        · refine v_iconst (q := 128) (v := 0) hC dX12_ask_127 rfl (by decide) ?_
          refine v_mwr (i := 740) (q := 129) hC dX12_ask_128 rfl rfl (by decide) ?_
          have h := LA
          rw [mL3] at h
          first | (rw [show b2i b = 1 by rw [b2i_ne0.mp c_120]; rfl] at h ⊢; exact h) | (rw [show b2i b = 0 by rw [b2i_eq0.mp c_120]; rfl] at h ⊢; exact h)
        · refine v_iconst (q := 124) (v := 1) hC dX12_ask_123 rfl (by decide) ?_
          refine v_goto (q := 128) hC dX12_ask_124 (by decide) ?_
          refine v_mwr (i := 740) (q := 129) hC dX12_ask_128 rfl rfl (by decide) ?_
          have h := LA
          rw [mL3] at h
          first | (rw [show b2i b = 1 by rw [b2i_ne0.mp c_120]; rfl] at h ⊢; exact h) | (rw [show b2i b = 0 by rw [b2i_eq0.mp c_120]; rfl] at h ⊢; exact h)
      · exact absurd (by decide) c_68
    | succ n ih =>
      intro j h1 h2
      obtain ⟨j1, rfl⟩ : ∃ j1, j = j1 + 1 := ⟨j - 1, by omega⟩
      refine v_iload (q := 65) hC dX12_ask_63 rfl rfl ?_
      refine v_sipush (q := 68) (v := 741) hC dX12_ask_65 rfl (by decide) ?_
      refine v_icmp_lt (q := 93) (q2 := 71) hC dX12_ask_68 (by decide) rfl (fun c_68 => ?_) (fun c_68 => ?_)
      · exact absurd c_68 (by rw [show (741 : Int32) = nI 741 from rfl]; exact nI_nlt (by omega) (by omega))
      · refine v_aload_n (i := 0) (q := 72) hC dX12_ask_71 rfl rfl rfl ?_
        refine g_X12_0 (q := 75) hC dX12_ask_72 rfl rfl fl_RX12_7 ?_
        refine v_iload (q := 77) hC dX12_ask_75 rfl rfl ?_
        refine v_aload_n (i := 0) (q := 78) hC dX12_ask_77 rfl rfl rfl ?_
        refine g_X12_0 (q := 81) hC dX12_ask_78 rfl rfl fl_RX12_7 ?_
        refine v_iload (q := 83) hC dX12_ask_81 rfl rfl ?_
        refine v_iconst (q := 84) (v := 3) hC dX12_ask_83 rfl (by decide) ?_
        refine v_isub (q := 85) hC dX12_ask_84 rfl ?_
        refine v_ialdN (q := 86) hC dX12_ask_85 rfl rfl rfl (i := j1 + 1 - 3) (pk_sub (b := 3) (by omega)) (by omega) (by decide) ?_
        rw [mWr_row]
        refine v_mwr (i := j1 + 1) (q := 87) hC dX12_ask_86 rfl rfl (by omega) ?_
        refine v_iinc (q := 90) (v := nI j1) hC dX12_ask_87 rfl rfl (pk_m1 j1) (lvc rfl) (Nat.le_of_ble_eq_true rfl) (Nat.le_of_ble_eq_true rfl) rfl ?_
        refine v_goto (q := 63) hC dX12_ask_90 (by decide) ?_
        rw [mLgK_step _ _ h2 (by omega)]
        exact ih j1 (by omega) (by omega)
set_option maxHeartbeats 4000000 in
set_option maxRecDepth 20000 in
theorem c_X12_ask {l : Launch} (hl : l.stackTraces = false) (Θ : cTH) (u o r : Int32) (G : GS) (hm : mInv G) : Ct l yX12_ask cX12_ask 6 (some .boolean) rm_X12_ask Θ [.ref (tR Θ 0 29), .int u, .int o, .int r] (G) (mQ3 u o r (fR (some (.int (b2i (mAl (G.2.1 0 30) u o.toNatClampNeg r)))) (mWr (mLog (G.2.1 0 30) u o (mAl (G.2.1 0 30) u o.toNatClampNeg r)) (mC G))) G) := by
  refine ct_of (LS := [some (.ref (tR Θ 0 29)), some (.int u), some (.int o), some (.int r), none, none]) hl (by decide +kernel) rfl (Nat.le_of_ble_eq_true rfl) rfl ?_
  intro p e s m args below meth c hC hr
  rw [mQ3]
  refine v_aload_n (i := 0) (q := 1) hC dX12_ask_0 rfl rfl rfl ?_
  refine v_aload_n (i := 0) (q := 2) hC dX12_ask_1 rfl rfl rfl ?_
  refine v_iload_n (i := 1) (q := 3) hC dX12_ask_2 rfl rfl rfl ?_
  refine v_callV (q := 6) (rm := rm_X12_isUser) hC (c_X12_isUser hl Θ _ _) k_X12_isUser im_yX12_isUser se_yX12_isUser ml_RX12_82 dX12_ask_3 rfl rfl rfl rfl rfl rfl (Nat.le_of_ble_eq_true rfl) ⟨Nat.le_of_ble_eq_true rfl, Nat.le_of_ble_eq_true rfl⟩ ⟨Nat.le_of_ble_eq_true rfl, Nat.le_of_ble_eq_true rfl⟩ (fR_k ?_) fR_x (Nat.le_of_ble_eq_true rfl) (Nat.le_of_ble_eq_true rfl)
  try dsimp only [Option.toList, List.cons_append, List.nil_append]
  refine v_ifb_eq (q := 17) (q2 := 9) hC dX12_ask_6 (by decide) rfl (fun c_6 => ?_) (fun c_6 => ?_)
  · refine v_iconst (q := 18) (v := 1) hC dX12_ask_17 rfl (by decide) ?_
    refine v_goto (q := 33) hC dX12_ask_18 (by decide) ?_
    refine pm_last (q := 36) hC dX12_ask_33 rfl rfl fl_RX12_39 ?_
    refine v_aload_n (i := 0) (q := 37) hC dX12_ask_36 rfl rfl rfl ?_
    refine gm_last (q := 40) hC dX12_ask_37 rfl rfl fl_RX12_39 ?_
    refine v_if_le (q := 45) (q2 := 43) hC dX12_ask_40 (by decide) rfl (fun c_40 => ?_) (fun c_40 => ?_)
    · first
      | exact absurd c_40 (by decide)
      |
        have g1 : (mIn u 0 (G.2.1 0 30 0 - 1) && mHold (G.2.1 0 30) o) = true := by simp_all [ms_row]
        have g2 : mIn r 0 3 = true := by simp_all [ms_row]
        rw [mg_t g1, mg_t g2]
        obtain ⟨j, hj, rfl⟩ := mHold_nI (Bool.and_eq_true_iff.mp g1).2
        rw [nI_clamp (show j < 2 ^ 31 by omega)]
        refine v_aload_n (i := 0) (q := 46) hC dX12_ask_45 rfl rfl rfl ?_
        refine v_callV (q := 49) (rm := rm_X12_changes) hC (c_mC hl Θ _ hm) k_X12_changes im_yX12_changes se_yX12_changes ml_RX12_79 dX12_ask_46 rfl rfl rfl rfl rfl rfl (Nat.le_of_ble_eq_true rfl) ⟨Nat.le_of_ble_eq_true rfl, Nat.le_of_ble_eq_true rfl⟩ ⟨Nat.le_of_ble_eq_true rfl, Nat.le_of_ble_eq_true rfl⟩ (fR_k ?_) fR_x (Nat.le_of_ble_eq_true rfl) (Nat.le_of_ble_eq_true rfl)
        try dsimp only [Option.toList, List.cons_append, List.nil_append]
        refine v_aload_n (i := 0) (q := 50) hC dX12_ask_49 rfl rfl rfl ?_
        refine v_iload_n (i := 1) (q := 51) hC dX12_ask_50 rfl rfl rfl ?_
        refine v_iload_n (i := 2) (q := 52) hC dX12_ask_51 rfl rfl rfl ?_
        refine v_iload_n (i := 3) (q := 53) hC dX12_ask_52 rfl rfl rfl ?_
        refine v_callV (q := 56) (rm := rm_X12_allows) hC (c_X12_allows hl Θ _ j _ _ (by rw [mC_w]; exact hm.2) hj) k_X12_allows im_yX12_allows se_yX12_allows ml_RX12_150 dX12_ask_53 rfl rfl rfl rfl rfl rfl (Nat.le_of_ble_eq_true rfl) ⟨Nat.le_of_ble_eq_true rfl, Nat.le_of_ble_eq_true rfl⟩ ⟨Nat.le_of_ble_eq_true rfl, Nat.le_of_ble_eq_true rfl⟩ (fR_k ?_) fR_x (Nat.le_of_ble_eq_true rfl) (Nat.le_of_ble_eq_true rfl)
        try dsimp only [Option.toList, List.cons_append, List.nil_append]
        rw [mC_w]
        refine v_istore (q := 58) hC dX12_ask_56 rfl (lvc rfl) (Nat.le_of_ble_eq_true rfl) (Nat.le_of_ble_eq_true rfl) rfl ?_
        refine v_sipush (q := 61) (v := 761) hC dX12_ask_58 rfl (by decide) ?_
        refine v_istore (q := 63) hC dX12_ask_61 rfl (lvc rfl) (Nat.le_of_ble_eq_true rfl) (Nat.le_of_ble_eq_true rfl) rfl ?_
        have h := L_ask hl Θ u r j (mAl (G.2.1 0 30) u j r) (G.2.1 0 30) (mC G) (e := e) (below := below) hC hr 21 761 rfl (by omega)
        rw [mLgK_0, ← mC_w G, mWr_self, mC_w G] at h
        exact h
    · first
      | exact absurd c_40 (by decide)
      |
        refine v_iconst (q := 44) (v := 0) hC dX12_ask_43 rfl (by decide) ?_
        refine v_iret hC dX12_ask_44 hr (by first | rfl | exact nar_b) ?_ (Nat.le_of_ble_eq_true rfl) (Nat.le_of_ble_eq_true rfl)
        first | exact mg_f (by simp_all [ms_row]) | (rw [mg_t (by simp_all [ms_row])]; exact mg_f (by simp_all [ms_row]))
  · refine v_aload_n (i := 0) (q := 10) hC dX12_ask_9 rfl rfl rfl ?_
    refine v_iload_n (i := 2) (q := 11) hC dX12_ask_10 rfl rfl rfl ?_
    refine v_callV (q := 14) (rm := rm_X12_isObject) hC (c_X12_isObject hl Θ _ _) k_X12_isObject im_yX12_isObject se_yX12_isObject ml_RX12_57 dX12_ask_11 rfl rfl rfl rfl rfl rfl (Nat.le_of_ble_eq_true rfl) ⟨Nat.le_of_ble_eq_true rfl, Nat.le_of_ble_eq_true rfl⟩ ⟨Nat.le_of_ble_eq_true rfl, Nat.le_of_ble_eq_true rfl⟩ (fR_k ?_) fR_x (Nat.le_of_ble_eq_true rfl) (Nat.le_of_ble_eq_true rfl)
    try dsimp only [Option.toList, List.cons_append, List.nil_append]
    refine v_ifb_ne (q := 21) (q2 := 17) hC dX12_ask_14 (by decide) rfl (fun c_14 => ?_) (fun c_14 => ?_)
    · refine v_iload_n (i := 3) (q := 22) hC dX12_ask_21 rfl rfl rfl ?_
      refine v_callS (q := 25) (rm := rm_X12_isRight) hC (c_X12_isRight hl Θ _ _) k_X12_isRight st_yX12_isRight ml_RX12_156 dX12_ask_22 rfl  rfl rfl (Nat.le_of_ble_eq_true rfl) ⟨Nat.le_of_ble_eq_true rfl, Nat.le_of_ble_eq_true rfl⟩ ⟨Nat.le_of_ble_eq_true rfl, Nat.le_of_ble_eq_true rfl⟩ (fR_k ?_) fR_x (Nat.le_of_ble_eq_true rfl) (Nat.le_of_ble_eq_true rfl)
      try dsimp only [Option.toList, List.cons_append, List.nil_append]
      refine v_ifb_eq (q := 32) (q2 := 28) hC dX12_ask_25 (by decide) rfl (fun c_25 => ?_) (fun c_25 => ?_)
      · refine v_iconst (q := 33) (v := 2) hC dX12_ask_32 rfl (by decide) ?_
        refine pm_last (q := 36) hC dX12_ask_33 rfl rfl fl_RX12_39 ?_
        refine v_aload_n (i := 0) (q := 37) hC dX12_ask_36 rfl rfl rfl ?_
        refine gm_last (q := 40) hC dX12_ask_37 rfl rfl fl_RX12_39 ?_
        refine v_if_le (q := 45) (q2 := 43) hC dX12_ask_40 (by decide) rfl (fun c_40 => ?_) (fun c_40 => ?_)
        · first
          | exact absurd c_40 (by decide)
          |
            have g1 : (mIn u 0 (G.2.1 0 30 0 - 1) && mHold (G.2.1 0 30) o) = true := by simp_all [ms_row]
            have g2 : mIn r 0 3 = true := by simp_all [ms_row]
            rw [mg_t g1, mg_t g2]
            obtain ⟨j, hj, rfl⟩ := mHold_nI (Bool.and_eq_true_iff.mp g1).2
            rw [nI_clamp (show j < 2 ^ 31 by omega)]
            refine v_aload_n (i := 0) (q := 46) hC dX12_ask_45 rfl rfl rfl ?_
            refine v_callV (q := 49) (rm := rm_X12_changes) hC (c_mC hl Θ _ hm) k_X12_changes im_yX12_changes se_yX12_changes ml_RX12_79 dX12_ask_46 rfl rfl rfl rfl rfl rfl (Nat.le_of_ble_eq_true rfl) ⟨Nat.le_of_ble_eq_true rfl, Nat.le_of_ble_eq_true rfl⟩ ⟨Nat.le_of_ble_eq_true rfl, Nat.le_of_ble_eq_true rfl⟩ (fR_k ?_) fR_x (Nat.le_of_ble_eq_true rfl) (Nat.le_of_ble_eq_true rfl)
            try dsimp only [Option.toList, List.cons_append, List.nil_append]
            refine v_aload_n (i := 0) (q := 50) hC dX12_ask_49 rfl rfl rfl ?_
            refine v_iload_n (i := 1) (q := 51) hC dX12_ask_50 rfl rfl rfl ?_
            refine v_iload_n (i := 2) (q := 52) hC dX12_ask_51 rfl rfl rfl ?_
            refine v_iload_n (i := 3) (q := 53) hC dX12_ask_52 rfl rfl rfl ?_
            refine v_callV (q := 56) (rm := rm_X12_allows) hC (c_X12_allows hl Θ _ j _ _ (by rw [mC_w]; exact hm.2) hj) k_X12_allows im_yX12_allows se_yX12_allows ml_RX12_150 dX12_ask_53 rfl rfl rfl rfl rfl rfl (Nat.le_of_ble_eq_true rfl) ⟨Nat.le_of_ble_eq_true rfl, Nat.le_of_ble_eq_true rfl⟩ ⟨Nat.le_of_ble_eq_true rfl, Nat.le_of_ble_eq_true rfl⟩ (fR_k ?_) fR_x (Nat.le_of_ble_eq_true rfl) (Nat.le_of_ble_eq_true rfl)
            try dsimp only [Option.toList, List.cons_append, List.nil_append]
            rw [mC_w]
            refine v_istore (q := 58) hC dX12_ask_56 rfl (lvc rfl) (Nat.le_of_ble_eq_true rfl) (Nat.le_of_ble_eq_true rfl) rfl ?_
            refine v_sipush (q := 61) (v := 761) hC dX12_ask_58 rfl (by decide) ?_
            refine v_istore (q := 63) hC dX12_ask_61 rfl (lvc rfl) (Nat.le_of_ble_eq_true rfl) (Nat.le_of_ble_eq_true rfl) rfl ?_
            have h := L_ask hl Θ u r j (mAl (G.2.1 0 30) u j r) (G.2.1 0 30) (mC G) (e := e) (below := below) hC hr 21 761 rfl (by omega)
            rw [mLgK_0, ← mC_w G, mWr_self, mC_w G] at h
            exact h
        · first
          | exact absurd c_40 (by decide)
          |
            refine v_iconst (q := 44) (v := 0) hC dX12_ask_43 rfl (by decide) ?_
            refine v_iret hC dX12_ask_44 hr (by first | rfl | exact nar_b) ?_ (Nat.le_of_ble_eq_true rfl) (Nat.le_of_ble_eq_true rfl)
            first | exact mg_f (by simp_all [ms_row]) | (rw [mg_t (by simp_all [ms_row])]; exact mg_f (by simp_all [ms_row]))
      · refine v_iconst (q := 29) (v := 0) hC dX12_ask_28 rfl (by decide) ?_
        refine v_goto (q := 33) hC dX12_ask_29 (by decide) ?_
        refine pm_last (q := 36) hC dX12_ask_33 rfl rfl fl_RX12_39 ?_
        refine v_aload_n (i := 0) (q := 37) hC dX12_ask_36 rfl rfl rfl ?_
        refine gm_last (q := 40) hC dX12_ask_37 rfl rfl fl_RX12_39 ?_
        refine v_if_le (q := 45) (q2 := 43) hC dX12_ask_40 (by decide) rfl (fun c_40 => ?_) (fun c_40 => ?_)
        · first
          | exact absurd c_40 (by decide)
          |
            have g1 : (mIn u 0 (G.2.1 0 30 0 - 1) && mHold (G.2.1 0 30) o) = true := by simp_all [ms_row]
            have g2 : mIn r 0 3 = true := by simp_all [ms_row]
            rw [mg_t g1, mg_t g2]
            obtain ⟨j, hj, rfl⟩ := mHold_nI (Bool.and_eq_true_iff.mp g1).2
            rw [nI_clamp (show j < 2 ^ 31 by omega)]
            refine v_aload_n (i := 0) (q := 46) hC dX12_ask_45 rfl rfl rfl ?_
            refine v_callV (q := 49) (rm := rm_X12_changes) hC (c_mC hl Θ _ hm) k_X12_changes im_yX12_changes se_yX12_changes ml_RX12_79 dX12_ask_46 rfl rfl rfl rfl rfl rfl (Nat.le_of_ble_eq_true rfl) ⟨Nat.le_of_ble_eq_true rfl, Nat.le_of_ble_eq_true rfl⟩ ⟨Nat.le_of_ble_eq_true rfl, Nat.le_of_ble_eq_true rfl⟩ (fR_k ?_) fR_x (Nat.le_of_ble_eq_true rfl) (Nat.le_of_ble_eq_true rfl)
            try dsimp only [Option.toList, List.cons_append, List.nil_append]
            refine v_aload_n (i := 0) (q := 50) hC dX12_ask_49 rfl rfl rfl ?_
            refine v_iload_n (i := 1) (q := 51) hC dX12_ask_50 rfl rfl rfl ?_
            refine v_iload_n (i := 2) (q := 52) hC dX12_ask_51 rfl rfl rfl ?_
            refine v_iload_n (i := 3) (q := 53) hC dX12_ask_52 rfl rfl rfl ?_
            refine v_callV (q := 56) (rm := rm_X12_allows) hC (c_X12_allows hl Θ _ j _ _ (by rw [mC_w]; exact hm.2) hj) k_X12_allows im_yX12_allows se_yX12_allows ml_RX12_150 dX12_ask_53 rfl rfl rfl rfl rfl rfl (Nat.le_of_ble_eq_true rfl) ⟨Nat.le_of_ble_eq_true rfl, Nat.le_of_ble_eq_true rfl⟩ ⟨Nat.le_of_ble_eq_true rfl, Nat.le_of_ble_eq_true rfl⟩ (fR_k ?_) fR_x (Nat.le_of_ble_eq_true rfl) (Nat.le_of_ble_eq_true rfl)
            try dsimp only [Option.toList, List.cons_append, List.nil_append]
            rw [mC_w]
            refine v_istore (q := 58) hC dX12_ask_56 rfl (lvc rfl) (Nat.le_of_ble_eq_true rfl) (Nat.le_of_ble_eq_true rfl) rfl ?_
            refine v_sipush (q := 61) (v := 761) hC dX12_ask_58 rfl (by decide) ?_
            refine v_istore (q := 63) hC dX12_ask_61 rfl (lvc rfl) (Nat.le_of_ble_eq_true rfl) (Nat.le_of_ble_eq_true rfl) rfl ?_
            have h := L_ask hl Θ u r j (mAl (G.2.1 0 30) u j r) (G.2.1 0 30) (mC G) (e := e) (below := below) hC hr 21 761 rfl (by omega)
            rw [mLgK_0, ← mC_w G, mWr_self, mC_w G] at h
            exact h
        · first
          | exact absurd c_40 (by decide)
          |
            refine v_iconst (q := 44) (v := 0) hC dX12_ask_43 rfl (by decide) ?_
            refine v_iret hC dX12_ask_44 hr (by first | rfl | exact nar_b) ?_ (Nat.le_of_ble_eq_true rfl) (Nat.le_of_ble_eq_true rfl)
            first | exact mg_f (by simp_all [ms_row]) | (rw [mg_t (by simp_all [ms_row])]; exact mg_f (by simp_all [ms_row]))
    · refine v_iconst (q := 18) (v := 1) hC dX12_ask_17 rfl (by decide) ?_
      refine v_goto (q := 33) hC dX12_ask_18 (by decide) ?_
      refine pm_last (q := 36) hC dX12_ask_33 rfl rfl fl_RX12_39 ?_
      refine v_aload_n (i := 0) (q := 37) hC dX12_ask_36 rfl rfl rfl ?_
      refine gm_last (q := 40) hC dX12_ask_37 rfl rfl fl_RX12_39 ?_
      refine v_if_le (q := 45) (q2 := 43) hC dX12_ask_40 (by decide) rfl (fun c_40 => ?_) (fun c_40 => ?_)
      · first
        | exact absurd c_40 (by decide)
        |
          have g1 : (mIn u 0 (G.2.1 0 30 0 - 1) && mHold (G.2.1 0 30) o) = true := by simp_all [ms_row]
          have g2 : mIn r 0 3 = true := by simp_all [ms_row]
          rw [mg_t g1, mg_t g2]
          obtain ⟨j, hj, rfl⟩ := mHold_nI (Bool.and_eq_true_iff.mp g1).2
          rw [nI_clamp (show j < 2 ^ 31 by omega)]
          refine v_aload_n (i := 0) (q := 46) hC dX12_ask_45 rfl rfl rfl ?_
          refine v_callV (q := 49) (rm := rm_X12_changes) hC (c_mC hl Θ _ hm) k_X12_changes im_yX12_changes se_yX12_changes ml_RX12_79 dX12_ask_46 rfl rfl rfl rfl rfl rfl (Nat.le_of_ble_eq_true rfl) ⟨Nat.le_of_ble_eq_true rfl, Nat.le_of_ble_eq_true rfl⟩ ⟨Nat.le_of_ble_eq_true rfl, Nat.le_of_ble_eq_true rfl⟩ (fR_k ?_) fR_x (Nat.le_of_ble_eq_true rfl) (Nat.le_of_ble_eq_true rfl)
          try dsimp only [Option.toList, List.cons_append, List.nil_append]
          refine v_aload_n (i := 0) (q := 50) hC dX12_ask_49 rfl rfl rfl ?_
          refine v_iload_n (i := 1) (q := 51) hC dX12_ask_50 rfl rfl rfl ?_
          refine v_iload_n (i := 2) (q := 52) hC dX12_ask_51 rfl rfl rfl ?_
          refine v_iload_n (i := 3) (q := 53) hC dX12_ask_52 rfl rfl rfl ?_
          refine v_callV (q := 56) (rm := rm_X12_allows) hC (c_X12_allows hl Θ _ j _ _ (by rw [mC_w]; exact hm.2) hj) k_X12_allows im_yX12_allows se_yX12_allows ml_RX12_150 dX12_ask_53 rfl rfl rfl rfl rfl rfl (Nat.le_of_ble_eq_true rfl) ⟨Nat.le_of_ble_eq_true rfl, Nat.le_of_ble_eq_true rfl⟩ ⟨Nat.le_of_ble_eq_true rfl, Nat.le_of_ble_eq_true rfl⟩ (fR_k ?_) fR_x (Nat.le_of_ble_eq_true rfl) (Nat.le_of_ble_eq_true rfl)
          try dsimp only [Option.toList, List.cons_append, List.nil_append]
          rw [mC_w]
          refine v_istore (q := 58) hC dX12_ask_56 rfl (lvc rfl) (Nat.le_of_ble_eq_true rfl) (Nat.le_of_ble_eq_true rfl) rfl ?_
          refine v_sipush (q := 61) (v := 761) hC dX12_ask_58 rfl (by decide) ?_
          refine v_istore (q := 63) hC dX12_ask_61 rfl (lvc rfl) (Nat.le_of_ble_eq_true rfl) (Nat.le_of_ble_eq_true rfl) rfl ?_
          have h := L_ask hl Θ u r j (mAl (G.2.1 0 30) u j r) (G.2.1 0 30) (mC G) (e := e) (below := below) hC hr 21 761 rfl (by omega)
          rw [mLgK_0, ← mC_w G, mWr_self, mC_w G] at h
          exact h
      · first
        | exact absurd c_40 (by decide)
        |
          refine v_iconst (q := 44) (v := 0) hC dX12_ask_43 rfl (by decide) ?_
          refine v_iret hC dX12_ask_44 hr (by first | rfl | exact nar_b) ?_ (Nat.le_of_ble_eq_true rfl) (Nat.le_of_ble_eq_true rfl)
          first | exact mg_f (by simp_all [ms_row]) | (rw [mg_t (by simp_all [ms_row])]; exact mg_f (by simp_all [ms_row]))
