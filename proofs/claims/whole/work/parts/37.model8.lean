/-! The reference: counts, texts -/
def mCuL (w : Nat → Int32) (o : Nat) (r : Int32) : Nat → Nat → Int32 → Int32
  | 0, _, t => t
  | n + 1, j, t => mCuL w o r n (j + 1) (t + (if mAl w (nI j) o r = true then 1 else 0))
set_option maxHeartbeats 4000000 in
set_option maxRecDepth 20000 in
theorem c_X12_usersWith {l : Launch} (hl : l.stackTraces = false) (Θ : cTH) (o r : Int32) (G : GS) (hm : mInv G) : Ct l yX12_usersWith cX12_usersWith 5 (some .int) rm_X12_usersWith Θ [.ref (tR Θ 0 29), .int o, .int r] (G) (mg (mHold (G.2.1 0 30) o) 1 (mg (mIn r 0 3) 2 (fR (some (.int (mCuL (G.2.1 0 30) o.toNatClampNeg r (mUs (G.2.1 0 30)) 0 0))) (ms 0 G)) (G)) (G)) := by
  refine ct_of (LS := [some (.ref (tR Θ 0 29)), some (.int o), some (.int r), none, none]) hl (by decide +kernel) rfl (Nat.le_of_ble_eq_true rfl) rfl ?_
  intro p e s m args below meth c hC hr
  have hu := hm.2.us
  have hu12 := hm.2.us12
  have L : ∀ (j0 : Nat), j0 < 20 → ∀ (n j : Nat) (t : Int32), n + j = mUs (G.2.1 0 30) → mCuL (G.2.1 0 30) j0 r n j t = mCuL (G.2.1 0 30) j0 r (mUs (G.2.1 0 30)) 0 0 → V p l e rm_X12_usersWith s m args below meth c 5 Θ (fR (some (.int (mCuL (G.2.1 0 30) j0 r (mUs (G.2.1 0 30)) 0 0))) (ms 0 G)) rm_X12_usersWith.cells rm_X12_usersWith.slots 0 0 33 [some (.ref (tR Θ 0 29)), some (.int (nI j0)), some (.int r), some (.int t), some (.int (nI j))] [] (ms 0 G) := by
    intro j0 hj0 n
    induction n with
    | zero =>
      intro j t h1 h2
      refine v_iload (q := 35) hC dX12_usersWith_33 rfl rfl ?_
      refine v_aload_n (i := 0) (q := 36) hC dX12_usersWith_35 rfl rfl rfl ?_
      refine g_X12_0 (q := 39) hC dX12_usersWith_36 rfl rfl fl_RX12_7 ?_
      refine v_iconst (q := 40) (v := 0) hC dX12_usersWith_39 rfl (by decide) ?_
      refine v_ialdN (q := 41) hC dX12_usersWith_40 rfl rfl rfl (i := 0) (rfl) (by first | decide | omega | (unfold oA; omega) | (unfold enA; omega)) (by decide) ?_
      rw [ms_row, hu]
      refine v_icmp_ge (q := 76) (q2 := 44) hC dX12_usersWith_41 (by decide) rfl (fun c_41 => ?_) (fun c_41 => ?_)
      · refine v_iload_n (i := 3) (q := 77) hC dX12_usersWith_76 rfl rfl rfl ?_
        refine v_iret hC dX12_usersWith_77 hr (rfl) ?_ (Nat.le_of_ble_eq_true rfl) (Nat.le_of_ble_eq_true rfl)
        exact ⟨by rw [← h2, mCuL], rfl⟩
      · exact absurd (nI_le (by omega) (by omega)) c_41
    | succ n ih =>
      intro j t h1 h2
      rw [mCuL] at h2
      refine v_iload (q := 35) hC dX12_usersWith_33 rfl rfl ?_
      refine v_aload_n (i := 0) (q := 36) hC dX12_usersWith_35 rfl rfl rfl ?_
      refine g_X12_0 (q := 39) hC dX12_usersWith_36 rfl rfl fl_RX12_7 ?_
      refine v_iconst (q := 40) (v := 0) hC dX12_usersWith_39 rfl (by decide) ?_
      refine v_ialdN (q := 41) hC dX12_usersWith_40 rfl rfl rfl (i := 0) (rfl) (by first | decide | omega | (unfold oA; omega) | (unfold enA; omega)) (by decide) ?_
      rw [ms_row, hu]
      refine v_icmp_ge (q := 76) (q2 := 44) hC dX12_usersWith_41 (by decide) rfl (fun c_41 => ?_) (fun c_41 => ?_)
      · exact absurd c_41 (nI_ge (by omega) (by omega))
      · refine v_aload_n (i := 0) (q := 45) hC dX12_usersWith_44 rfl rfl rfl ?_
        refine gm_last (q := 48) hC dX12_usersWith_45 rfl rfl fl_RX12_39 ?_
        refine v_if_ne (q := 76) (q2 := 51) hC dX12_usersWith_48 (by decide) rfl (fun c_48 => ?_) (fun c_48 => ?_)
        · exact absurd rfl c_48
        · refine v_iload_n (i := 3) (q := 52) hC dX12_usersWith_51 rfl rfl rfl ?_
          refine v_aload_n (i := 0) (q := 53) hC dX12_usersWith_52 rfl rfl rfl ?_
          refine v_iload (q := 55) hC dX12_usersWith_53 rfl rfl ?_
          refine v_iload_n (i := 1) (q := 56) hC dX12_usersWith_55 rfl rfl rfl ?_
          refine v_iload_n (i := 2) (q := 57) hC dX12_usersWith_56 rfl rfl rfl ?_
          refine v_callV (q := 60) (rm := rm_X12_allows) hC (c_X12_allows hl Θ _ j0 _ _ hm.2 hj0) k_X12_allows im_yX12_allows se_yX12_allows ml_RX12_150 dX12_usersWith_57 rfl rfl rfl rfl rfl rfl (Nat.le_of_ble_eq_true rfl) ⟨Nat.le_of_ble_eq_true rfl, Nat.le_of_ble_eq_true rfl⟩ ⟨Nat.le_of_ble_eq_true rfl, Nat.le_of_ble_eq_true rfl⟩ (fR_k ?_) fR_x (Nat.le_of_ble_eq_true rfl) (Nat.le_of_ble_eq_true rfl)
          try dsimp only [Option.toList, List.cons_append, List.nil_append]
          refine v_ifb_eq (q := 67) (q2 := 63) hC dX12_usersWith_60 (by decide) rfl (fun c_60 => ?_) (fun c_60 => ?_)
          · refine v_iconst (q := 68) (v := 0) hC dX12_usersWith_67 rfl (by decide) ?_
            refine v_iadd (q := 69) hC dX12_usersWith_68 rfl ?_
            refine v_istore_n (i := 3) (q := 70) hC dX12_usersWith_69 rfl rfl (lvc rfl) (Nat.le_of_ble_eq_true rfl) (Nat.le_of_ble_eq_true rfl) rfl ?_
            refine v_iinc (q := 73) (v := nI (j + 1)) hC dX12_usersWith_70 rfl rfl (nI_1 j) (lvc rfl) (Nat.le_of_ble_eq_true rfl) (Nat.le_of_ble_eq_true rfl) rfl ?_
            refine v_goto (q := 33) hC dX12_usersWith_73 (by decide) ?_
            refine ih (j + 1) _ (by omega) ?_
            rw [← h2]
            first | rw [if_pos (show mAl (G.2.1 0 30) (nI j) j0 r = true from c_60)] | rw [if_neg (by rw [show mAl (G.2.1 0 30) (nI j) j0 r = false from c_60]; decide)]
          · refine v_iconst (q := 64) (v := 1) hC dX12_usersWith_63 rfl (by decide) ?_
            refine v_goto (q := 68) hC dX12_usersWith_64 (by decide) ?_
            refine v_iadd (q := 69) hC dX12_usersWith_68 rfl ?_
            refine v_istore_n (i := 3) (q := 70) hC dX12_usersWith_69 rfl rfl (lvc rfl) (Nat.le_of_ble_eq_true rfl) (Nat.le_of_ble_eq_true rfl) rfl ?_
            refine v_iinc (q := 73) (v := nI (j + 1)) hC dX12_usersWith_70 rfl rfl (nI_1 j) (lvc rfl) (Nat.le_of_ble_eq_true rfl) (Nat.le_of_ble_eq_true rfl) rfl ?_
            refine v_goto (q := 33) hC dX12_usersWith_73 (by decide) ?_
            refine ih (j + 1) _ (by omega) ?_
            rw [← h2]
            first | rw [if_pos (show mAl (G.2.1 0 30) (nI j) j0 r = true from c_60)] | rw [if_neg (by rw [show mAl (G.2.1 0 30) (nI j) j0 r = false from c_60]; decide)]
  have L0 : ∀ (x : Int32) (Qx : cOut → GS → Prop), ¬ x = 0 → Qx (.inl (some (.int 0))) (ms x G) → V p l e rm_X12_usersWith s m args below meth c 5 Θ (Qx) rm_X12_usersWith.cells rm_X12_usersWith.slots 0 0 33 [some (.ref (tR Θ 0 29)), some (.int o), some (.int r), some (.int 0), some (.int 0)] [] (ms x G) := by
    intro x Qx hx hq
    refine v_iload (q := 35) hC dX12_usersWith_33 rfl rfl ?_
    refine v_aload_n (i := 0) (q := 36) hC dX12_usersWith_35 rfl rfl rfl ?_
    refine g_X12_0 (q := 39) hC dX12_usersWith_36 rfl rfl fl_RX12_7 ?_
    refine v_iconst (q := 40) (v := 0) hC dX12_usersWith_39 rfl (by decide) ?_
    refine v_ialdN (q := 41) hC dX12_usersWith_40 rfl rfl rfl (i := 0) (rfl) (by first | decide | omega | (unfold oA; omega) | (unfold enA; omega)) (by decide) ?_
    refine v_icmp_ge (q := 76) (q2 := 44) hC dX12_usersWith_41 (by decide) rfl (fun c_41 => ?_) (fun c_41 => ?_)
    · refine v_iload_n (i := 3) (q := 77) hC dX12_usersWith_76 rfl rfl rfl ?_
      refine v_iret hC dX12_usersWith_77 hr (rfl) ?_ (Nat.le_of_ble_eq_true rfl) (Nat.le_of_ble_eq_true rfl)
      exact hq
    · refine v_aload_n (i := 0) (q := 45) hC dX12_usersWith_44 rfl rfl rfl ?_
      refine gm_last (q := 48) hC dX12_usersWith_45 rfl rfl fl_RX12_39 ?_
      refine v_if_ne (q := 76) (q2 := 51) hC dX12_usersWith_48 (by decide) rfl (fun c_48 => ?_) (fun c_48 => ?_)
      · refine v_iload_n (i := 3) (q := 77) hC dX12_usersWith_76 rfl rfl rfl ?_
        refine v_iret hC dX12_usersWith_77 hr (rfl) ?_ (Nat.le_of_ble_eq_true rfl) (Nat.le_of_ble_eq_true rfl)
        exact hq
      · exact absurd c_48 hx
  refine v_aload_n (i := 0) (q := 1) hC dX12_usersWith_0 rfl rfl rfl ?_
  refine v_aload_n (i := 0) (q := 2) hC dX12_usersWith_1 rfl rfl rfl ?_
  refine v_iload_n (i := 1) (q := 3) hC dX12_usersWith_2 rfl rfl rfl ?_
  refine v_callV (q := 6) (rm := rm_X12_isObject) hC (c_X12_isObject hl Θ _ _) k_X12_isObject im_yX12_isObject se_yX12_isObject ml_RX12_57 dX12_usersWith_3 rfl rfl rfl rfl rfl rfl (Nat.le_of_ble_eq_true rfl) ⟨Nat.le_of_ble_eq_true rfl, Nat.le_of_ble_eq_true rfl⟩ ⟨Nat.le_of_ble_eq_true rfl, Nat.le_of_ble_eq_true rfl⟩ (fR_k ?_) fR_x (Nat.le_of_ble_eq_true rfl) (Nat.le_of_ble_eq_true rfl)
  try dsimp only [Option.toList, List.cons_append, List.nil_append]
  refine v_ifb_ne (q := 13) (q2 := 9) hC dX12_usersWith_6 (by decide) rfl (fun c_6 => ?_) (fun c_6 => ?_)
  · refine v_iload_n (i := 2) (q := 14) hC dX12_usersWith_13 rfl rfl rfl ?_
    refine v_callS (q := 17) (rm := rm_X12_isRight) hC (c_X12_isRight hl Θ _ _) k_X12_isRight st_yX12_isRight ml_RX12_156 dX12_usersWith_14 rfl  rfl rfl (Nat.le_of_ble_eq_true rfl) ⟨Nat.le_of_ble_eq_true rfl, Nat.le_of_ble_eq_true rfl⟩ ⟨Nat.le_of_ble_eq_true rfl, Nat.le_of_ble_eq_true rfl⟩ (fR_k ?_) fR_x (Nat.le_of_ble_eq_true rfl) (Nat.le_of_ble_eq_true rfl)
    try dsimp only [Option.toList, List.cons_append, List.nil_append]
    refine v_ifb_eq (q := 24) (q2 := 20) hC dX12_usersWith_17 (by decide) rfl (fun c_17 => ?_) (fun c_17 => ?_)
    · refine v_iconst (q := 25) (v := 2) hC dX12_usersWith_24 rfl (by decide) ?_
      refine pm_last (q := 28) hC dX12_usersWith_25 rfl rfl fl_RX12_39 ?_
      refine v_iconst (q := 29) (v := 0) hC dX12_usersWith_28 rfl (by decide) ?_
      refine v_istore_n (i := 3) (q := 30) hC dX12_usersWith_29 rfl rfl (lvc rfl) (Nat.le_of_ble_eq_true rfl) (Nat.le_of_ble_eq_true rfl) rfl ?_
      refine v_iconst (q := 31) (v := 0) hC dX12_usersWith_30 rfl (by decide) ?_
      refine v_istore (q := 33) hC dX12_usersWith_31 rfl (lvc rfl) (Nat.le_of_ble_eq_true rfl) (Nat.le_of_ble_eq_true rfl) rfl ?_
      first
        | exact L0 1 _ (by decide) (mg_f c_6)
        | exact L0 2 _ (by decide) (by rw [mg_t c_6]; exact mg_f c_17)
        | (rw [mg_t c_6, mg_t c_17]
           obtain ⟨j, hj, rfl⟩ := mHold_nI c_6
           rw [nI_clamp (show j < 2 ^ 31 by omega)]
           exact L j hj _ 0 0 rfl rfl)
    · refine v_iconst (q := 21) (v := 0) hC dX12_usersWith_20 rfl (by decide) ?_
      refine v_goto (q := 25) hC dX12_usersWith_21 (by decide) ?_
      refine pm_last (q := 28) hC dX12_usersWith_25 rfl rfl fl_RX12_39 ?_
      refine v_iconst (q := 29) (v := 0) hC dX12_usersWith_28 rfl (by decide) ?_
      refine v_istore_n (i := 3) (q := 30) hC dX12_usersWith_29 rfl rfl (lvc rfl) (Nat.le_of_ble_eq_true rfl) (Nat.le_of_ble_eq_true rfl) rfl ?_
      refine v_iconst (q := 31) (v := 0) hC dX12_usersWith_30 rfl (by decide) ?_
      refine v_istore (q := 33) hC dX12_usersWith_31 rfl (lvc rfl) (Nat.le_of_ble_eq_true rfl) (Nat.le_of_ble_eq_true rfl) rfl ?_
      first
        | exact L0 1 _ (by decide) (mg_f c_6)
        | exact L0 2 _ (by decide) (by rw [mg_t c_6]; exact mg_f c_17)
        | (rw [mg_t c_6, mg_t c_17]
           obtain ⟨j, hj, rfl⟩ := mHold_nI c_6
           rw [nI_clamp (show j < 2 ^ 31 by omega)]
           exact L j hj _ 0 0 rfl rfl)
  · refine v_iconst (q := 10) (v := 1) hC dX12_usersWith_9 rfl (by decide) ?_
    refine v_goto (q := 25) hC dX12_usersWith_10 (by decide) ?_
    refine pm_last (q := 28) hC dX12_usersWith_25 rfl rfl fl_RX12_39 ?_
    refine v_iconst (q := 29) (v := 0) hC dX12_usersWith_28 rfl (by decide) ?_
    refine v_istore_n (i := 3) (q := 30) hC dX12_usersWith_29 rfl rfl (lvc rfl) (Nat.le_of_ble_eq_true rfl) (Nat.le_of_ble_eq_true rfl) rfl ?_
    refine v_iconst (q := 31) (v := 0) hC dX12_usersWith_30 rfl (by decide) ?_
    refine v_istore (q := 33) hC dX12_usersWith_31 rfl (lvc rfl) (Nat.le_of_ble_eq_true rfl) (Nat.le_of_ble_eq_true rfl) rfl ?_
    first
      | exact L0 1 _ (by decide) (mg_f c_6)
      | exact L0 2 _ (by decide) (by rw [mg_t c_6]; exact mg_f c_17)
      | (rw [mg_t c_6, mg_t c_17]
         obtain ⟨j, hj, rfl⟩ := mHold_nI c_6
         rw [nI_clamp (show j < 2 ^ 31 by omega)]
         exact L j hj _ 0 0 rfl rfl)
/-- is a right allowed through a group -/
def mTh (w : Nat → Int32) (u : Int32) (o : Nat) (r g : Int32) : Bool := mAl w u o r && (!decide (mDec w u o r < 0) && (decide (w (enA ((mDec w u o r).toNatClampNeg / 6) ((mDec w u o r).toNatClampNeg % 6) 3) = 1) && (decide (w (enA ((mDec w u o r).toNatClampNeg / 6) ((mDec w u o r).toNatClampNeg % 6) 0) = 1) && decide (w (enA ((mDec w u o r).toNatClampNeg / 6) ((mDec w u o r).toNatClampNeg % 6) 1) = g))))
set_option maxHeartbeats 4000000 in
set_option maxRecDepth 20000 in
theorem c_X12_isThrough {l : Launch} (hl : l.stackTraces = false) (Θ : cTH) (u : Int32) (o : Nat) (r g : Int32) (G : GS) (hm : mOk (G.2.1 0 30)) (ho : o < 20) : Ct l yX12_isThrough cX12_isThrough 8 (some .boolean) rm_X12_isThrough Θ [.ref (tR Θ 0 29), .int u, .int (nI o), .int r, .int g] (G) (fR (some (.int (b2i (mTh (G.2.1 0 30) u o r g)))) G) := by
  refine ct_of (LS := [some (.ref (tR Θ 0 29)), some (.int u), some (.int (nI o)), some (.int r), some (.int g), none, none, none]) hl (by decide +kernel) rfl (Nat.le_of_ble_eq_true rfl) rfl ?_
  intro p e s m args below meth c hC hr
  have L0 : mAl (G.2.1 0 30) u o r = false → V p l e rm_X12_isThrough s m args below meth c 8 Θ (fR (some (.int (b2i (mTh (G.2.1 0 30) u o r g)))) G) 0 0 0 0 21 [some (.ref (tR Θ 0 29)), some (.int u), some (.int (nI o)), some (.int r), some (.int g), none, none, none] [.int (-1)] (G) := by
    intro h1
    refine v_istore (q := 23) hC dX12_isThrough_21 rfl (lvc rfl) (Nat.le_of_ble_eq_true rfl) (Nat.le_of_ble_eq_true rfl) rfl ?_
    refine v_iload (q := 25) hC dX12_isThrough_23 rfl rfl ?_
    refine v_if_ge (q := 30) (q2 := 28) hC dX12_isThrough_25 (by decide) rfl (fun c_25 => ?_) (fun c_25 => ?_)
    · exact absurd c_25 (by decide)
    · refine v_iconst (q := 29) (v := 0) hC dX12_isThrough_28 rfl (by decide) ?_
      refine v_iret hC dX12_isThrough_29 hr (by first | rfl | exact nar_b) ?_ (Nat.le_of_ble_eq_true rfl) (Nat.le_of_ble_eq_true rfl)
      exact ⟨by rw [mTh, h1]; rfl, rfl⟩
  have L1 : mAl (G.2.1 0 30) u o r = true → V p l e rm_X12_isThrough s m args below meth c 8 Θ (fR (some (.int (b2i (mTh (G.2.1 0 30) u o r g)))) G) 0 0 0 0 21 [some (.ref (tR Θ 0 29)), some (.int u), some (.int (nI o)), some (.int r), some (.int g), none, none, none] [.int (mDec (G.2.1 0 30) u o r)] (G) := by
    intro h1
    rcases mDec_rng hm u ho r with h | ⟨li, i, hl2, hi, -, h⟩
    · rw [h]
      refine v_istore (q := 23) hC dX12_isThrough_21 rfl (lvc rfl) (Nat.le_of_ble_eq_true rfl) (Nat.le_of_ble_eq_true rfl) rfl ?_
      refine v_iload (q := 25) hC dX12_isThrough_23 rfl rfl ?_
      refine v_if_ge (q := 30) (q2 := 28) hC dX12_isThrough_25 (by decide) rfl (fun c_25 => ?_) (fun c_25 => ?_)
      · exact absurd c_25 (by decide)
      · refine v_iconst (q := 29) (v := 0) hC dX12_isThrough_28 rfl (by decide) ?_
        refine v_iret hC dX12_isThrough_29 hr (by first | rfl | exact nar_b) ?_ (Nat.le_of_ble_eq_true rfl) (Nat.le_of_ble_eq_true rfl)
        exact ⟨by rw [mTh, h1, h]; rfl, rfl⟩
    · rw [h]
      refine v_istore (q := 23) hC dX12_isThrough_21 rfl (lvc rfl) (Nat.le_of_ble_eq_true rfl) (Nat.le_of_ble_eq_true rfl) rfl ?_
      refine v_iload (q := 25) hC dX12_isThrough_23 rfl rfl ?_
      refine v_if_ge (q := 30) (q2 := 28) hC dX12_isThrough_25 (by decide) rfl (fun c_25 => ?_) (fun c_25 => ?_)
      · refine v_iload (q := 32) hC dX12_isThrough_30 rfl rfl ?_
        refine v_bipush (q := 34) (v := 6) hC dX12_isThrough_32 rfl (by decide) ?_
        refine v_idiv (q := 35) hC dX12_isThrough_34 rfl (by decide) ?_
        rw [show (6 : Int32) = nI 6 from rfl, pk_div (by omega) (by decide) (by decide), show (6 * li + i) / 6 = li by omega]
        refine v_istore (q := 37) hC dX12_isThrough_35 rfl (lvc rfl) (Nat.le_of_ble_eq_true rfl) (Nat.le_of_ble_eq_true rfl) rfl ?_
        refine v_iload (q := 39) hC dX12_isThrough_37 rfl rfl ?_
        refine v_bipush (q := 41) (v := 6) hC dX12_isThrough_39 rfl (by decide) ?_
        refine v_irem (q := 42) hC dX12_isThrough_41 rfl (by decide) ?_
        rw [show (6 : Int32) = nI 6 from rfl, pk_rem (by omega) (by decide) (by decide), show (6 * li + i) % 6 = i by omega]
        refine v_istore (q := 44) hC dX12_isThrough_42 rfl (lvc rfl) (Nat.le_of_ble_eq_true rfl) (Nat.le_of_ble_eq_true rfl) rfl ?_
        refine v_aload_n (i := 0) (q := 45) hC dX12_isThrough_44 rfl rfl rfl ?_
        refine v_iload (q := 47) hC dX12_isThrough_45 rfl rfl ?_
        refine v_iload (q := 49) hC dX12_isThrough_47 rfl rfl ?_
        refine v_iconst (q := 50) (v := 3) hC dX12_isThrough_49 rfl (by decide) ?_
        refine v_callV (q := 53) (rm := rm_X12_ofEntry) hC (c_X12_ofEntry hl Θ li i 3 _ (by unfold enA; omega)) k_X12_ofEntry im_yX12_ofEntry se_yX12_ofEntry ml_RX12_122 dX12_isThrough_50 rfl rfl rfl rfl rfl rfl (Nat.le_of_ble_eq_true rfl) ⟨Nat.le_of_ble_eq_true rfl, Nat.le_of_ble_eq_true rfl⟩ ⟨Nat.le_of_ble_eq_true rfl, Nat.le_of_ble_eq_true rfl⟩ (fR_k ?_) fR_x (Nat.le_of_ble_eq_true rfl) (Nat.le_of_ble_eq_true rfl)
        try dsimp only [Option.toList, List.cons_append, List.nil_append]
        refine v_iconst (q := 54) (v := 1) hC dX12_isThrough_53 rfl (by decide) ?_
        refine v_icmp_ne (q := 88) (q2 := 57) hC dX12_isThrough_54 (by decide) rfl (fun c_54 => ?_) (fun c_54 => ?_)
        · refine v_iconst (q := 89) (v := 0) hC dX12_isThrough_88 rfl (by decide) ?_
          refine v_iret hC dX12_isThrough_89 hr (by first | rfl | exact nar_b) ?_ (Nat.le_of_ble_eq_true rfl) (Nat.le_of_ble_eq_true rfl)
          refine ⟨?_, rfl⟩
          rw [mTh, h1, h, nI_clamp (by omega), show (6 * li + i) / 6 = li by omega, show (6 * li + i) % 6 = i by omega, decide_eq_false (nI_pos (by omega))]
          first | (rw [decide_eq_false c_54]; rfl) | (rw [decide_eq_true c_54, decide_eq_false c_67]; rfl) | (rw [decide_eq_true c_54, decide_eq_true c_67, decide_eq_false c_81]; rfl) | (rw [decide_eq_true c_54, decide_eq_true c_67, decide_eq_true c_81]; rfl)
        · refine v_aload_n (i := 0) (q := 58) hC dX12_isThrough_57 rfl rfl rfl ?_
          refine v_iload (q := 60) hC dX12_isThrough_58 rfl rfl ?_
          refine v_iload (q := 62) hC dX12_isThrough_60 rfl rfl ?_
          refine v_iconst (q := 63) (v := 0) hC dX12_isThrough_62 rfl (by decide) ?_
          refine v_callV (q := 66) (rm := rm_X12_ofEntry) hC (c_X12_ofEntry hl Θ li i 0 _ (by unfold enA; omega)) k_X12_ofEntry im_yX12_ofEntry se_yX12_ofEntry ml_RX12_122 dX12_isThrough_63 rfl rfl rfl rfl rfl rfl (Nat.le_of_ble_eq_true rfl) ⟨Nat.le_of_ble_eq_true rfl, Nat.le_of_ble_eq_true rfl⟩ ⟨Nat.le_of_ble_eq_true rfl, Nat.le_of_ble_eq_true rfl⟩ (fR_k ?_) fR_x (Nat.le_of_ble_eq_true rfl) (Nat.le_of_ble_eq_true rfl)
          try dsimp only [Option.toList, List.cons_append, List.nil_append]
          refine v_iconst (q := 67) (v := 1) hC dX12_isThrough_66 rfl (by decide) ?_
          refine v_icmp_ne (q := 88) (q2 := 70) hC dX12_isThrough_67 (by decide) rfl (fun c_67 => ?_) (fun c_67 => ?_)
          · refine v_iconst (q := 89) (v := 0) hC dX12_isThrough_88 rfl (by decide) ?_
            refine v_iret hC dX12_isThrough_89 hr (by first | rfl | exact nar_b) ?_ (Nat.le_of_ble_eq_true rfl) (Nat.le_of_ble_eq_true rfl)
            refine ⟨?_, rfl⟩
            rw [mTh, h1, h, nI_clamp (by omega), show (6 * li + i) / 6 = li by omega, show (6 * li + i) % 6 = i by omega, decide_eq_false (nI_pos (by omega))]
            first | (rw [decide_eq_false c_54]; rfl) | (rw [decide_eq_true c_54, decide_eq_false c_67]; rfl) | (rw [decide_eq_true c_54, decide_eq_true c_67, decide_eq_false c_81]; rfl) | (rw [decide_eq_true c_54, decide_eq_true c_67, decide_eq_true c_81]; rfl)
          · refine v_aload_n (i := 0) (q := 71) hC dX12_isThrough_70 rfl rfl rfl ?_
            refine v_iload (q := 73) hC dX12_isThrough_71 rfl rfl ?_
            refine v_iload (q := 75) hC dX12_isThrough_73 rfl rfl ?_
            refine v_iconst (q := 76) (v := 1) hC dX12_isThrough_75 rfl (by decide) ?_
            refine v_callV (q := 79) (rm := rm_X12_ofEntry) hC (c_X12_ofEntry hl Θ li i 1 _ (by unfold enA; omega)) k_X12_ofEntry im_yX12_ofEntry se_yX12_ofEntry ml_RX12_122 dX12_isThrough_76 rfl rfl rfl rfl rfl rfl (Nat.le_of_ble_eq_true rfl) ⟨Nat.le_of_ble_eq_true rfl, Nat.le_of_ble_eq_true rfl⟩ ⟨Nat.le_of_ble_eq_true rfl, Nat.le_of_ble_eq_true rfl⟩ (fR_k ?_) fR_x (Nat.le_of_ble_eq_true rfl) (Nat.le_of_ble_eq_true rfl)
            try dsimp only [Option.toList, List.cons_append, List.nil_append]
            refine v_iload (q := 81) hC dX12_isThrough_79 rfl rfl ?_
            refine v_icmp_ne (q := 88) (q2 := 84) hC dX12_isThrough_81 (by decide) rfl (fun c_81 => ?_) (fun c_81 => ?_)
            · refine v_iconst (q := 89) (v := 0) hC dX12_isThrough_88 rfl (by decide) ?_
              refine v_iret hC dX12_isThrough_89 hr (by first | rfl | exact nar_b) ?_ (Nat.le_of_ble_eq_true rfl) (Nat.le_of_ble_eq_true rfl)
              refine ⟨?_, rfl⟩
              rw [mTh, h1, h, nI_clamp (by omega), show (6 * li + i) / 6 = li by omega, show (6 * li + i) % 6 = i by omega, decide_eq_false (nI_pos (by omega))]
              first | (rw [decide_eq_false c_54]; rfl) | (rw [decide_eq_true c_54, decide_eq_false c_67]; rfl) | (rw [decide_eq_true c_54, decide_eq_true c_67, decide_eq_false c_81]; rfl) | (rw [decide_eq_true c_54, decide_eq_true c_67, decide_eq_true c_81]; rfl)
            · refine v_iconst (q := 85) (v := 1) hC dX12_isThrough_84 rfl (by decide) ?_
              refine v_goto (q := 89) hC dX12_isThrough_85 (by decide) ?_
              refine v_iret hC dX12_isThrough_89 hr (by first | rfl | exact nar_b) ?_ (Nat.le_of_ble_eq_true rfl) (Nat.le_of_ble_eq_true rfl)
              refine ⟨?_, rfl⟩
              rw [mTh, h1, h, nI_clamp (by omega), show (6 * li + i) / 6 = li by omega, show (6 * li + i) % 6 = i by omega, decide_eq_false (nI_pos (by omega))]
              first | (rw [decide_eq_false c_54]; rfl) | (rw [decide_eq_true c_54, decide_eq_false c_67]; rfl) | (rw [decide_eq_true c_54, decide_eq_true c_67, decide_eq_false c_81]; rfl) | (rw [decide_eq_true c_54, decide_eq_true c_67, decide_eq_true c_81]; rfl)
      · exact absurd (nI_pos' (by omega)) c_25
  refine v_aload_n (i := 0) (q := 1) hC dX12_isThrough_0 rfl rfl rfl ?_
  refine v_iload_n (i := 1) (q := 2) hC dX12_isThrough_1 rfl rfl rfl ?_
  refine v_iload_n (i := 2) (q := 3) hC dX12_isThrough_2 rfl rfl rfl ?_
  refine v_iload_n (i := 3) (q := 4) hC dX12_isThrough_3 rfl rfl rfl ?_
  refine v_callV (q := 7) (rm := rm_X12_allows) hC (c_X12_allows hl Θ _ o _ _ hm ho) k_X12_allows im_yX12_allows se_yX12_allows ml_RX12_150 dX12_isThrough_4 rfl rfl rfl rfl rfl rfl (Nat.le_of_ble_eq_true rfl) ⟨Nat.le_of_ble_eq_true rfl, Nat.le_of_ble_eq_true rfl⟩ ⟨Nat.le_of_ble_eq_true rfl, Nat.le_of_ble_eq_true rfl⟩ (fR_k ?_) fR_x (Nat.le_of_ble_eq_true rfl) (Nat.le_of_ble_eq_true rfl)
  try dsimp only [Option.toList, List.cons_append, List.nil_append]
  refine v_ifb_eq (q := 20) (q2 := 10) hC dX12_isThrough_7 (by decide) rfl (fun c_7 => ?_) (fun c_7 => ?_)
  · refine v_iconst (q := 21) (v := (-1)) hC dX12_isThrough_20 rfl (by decide) ?_
    first | exact L1 c_7 | exact L0 c_7
  · refine v_aload_n (i := 0) (q := 11) hC dX12_isThrough_10 rfl rfl rfl ?_
    refine v_iload_n (i := 1) (q := 12) hC dX12_isThrough_11 rfl rfl rfl ?_
    refine v_iload_n (i := 2) (q := 13) hC dX12_isThrough_12 rfl rfl rfl ?_
    refine v_iload_n (i := 3) (q := 14) hC dX12_isThrough_13 rfl rfl rfl ?_
    refine v_callV (q := 17) (rm := rm_X12_decides) hC (c_X12_decides hl Θ _ o _ _ hm ho) k_X12_decides im_yX12_decides se_yX12_decides ml_RX12_144 dX12_isThrough_14 rfl rfl rfl rfl rfl rfl (Nat.le_of_ble_eq_true rfl) ⟨Nat.le_of_ble_eq_true rfl, Nat.le_of_ble_eq_true rfl⟩ ⟨Nat.le_of_ble_eq_true rfl, Nat.le_of_ble_eq_true rfl⟩ (fR_k ?_) fR_x (Nat.le_of_ble_eq_true rfl) (Nat.le_of_ble_eq_true rfl)
    try dsimp only [Option.toList, List.cons_append, List.nil_append]
    refine v_goto (q := 21) hC dX12_isThrough_17 (by decide) ?_
    first | exact L1 c_7 | exact L0 c_7
def mTr (w : Nat → Int32) (u g : Int32) : Nat → Nat → Int32 → Int32
  | 0, _, t => t
  | n + 1, j, t => mTr w u g n (j + 1) (t + (if (mHold w (nI (j / 4)) && mTh w u (j / 4) (nI (j % 4)) g) = true then 1 else 0))
theorem div4 {k : Nat} (h : k < 80) : nI k / 4 = nI (k / 4) := pk_div (d := 4) (by omega) (by decide) (by decide)
theorem rem4 {k : Nat} (h : k < 80) : nI k - nI k / 4 * 4 = nI (k % 4) := pk_rem (d := 4) (by omega) (by decide) (by decide)
set_option maxHeartbeats 4000000 in
set_option maxRecDepth 20000 in
theorem c_X12_rightsThrough {l : Launch} (hl : l.stackTraces = false) (Θ : cTH) (u g : Int32) (G : GS) (hm : mInv G) : Ct l yX12_rightsThrough cX12_rightsThrough 5 (some .int) rm_X12_rightsThrough Θ [.ref (tR Θ 0 29), .int u, .int g] (G) (mg (mIn u 0 (G.2.1 0 30 0 - 1) && mIn g 0 (G.2.1 0 30 1 - 1)) 1 (fR (some (.int (mTr (G.2.1 0 30) u g 80 0 0))) (ms 0 G)) (G)) := by
  refine ct_of (LS := [some (.ref (tR Θ 0 29)), some (.int u), some (.int g), none, none]) hl (by decide +kernel) rfl (Nat.le_of_ble_eq_true rfl) rfl ?_
  intro p e s m args below meth c hC hr
  have L : ∀ (n j : Nat) (t : Int32), n + j = 80 → mTr (G.2.1 0 30) u g n j t = mTr (G.2.1 0 30) u g 80 0 0 → V p l e rm_X12_rightsThrough s m args below meth c 5 Θ (fR (some (.int (mTr (G.2.1 0 30) u g 80 0 0))) (ms 0 G)) rm_X12_rightsThrough.cells rm_X12_rightsThrough.slots 0 0 30 [some (.ref (tR Θ 0 29)), some (.int u), some (.int g), some (.int t), some (.int (nI j))] [] (ms 0 G) := by
    intro n
    induction n with
    | zero =>
      intro j t h1 h2
      refine v_iload (q := 32) hC dX12_rightsThrough_30 rfl rfl ?_
      refine v_bipush (q := 34) (v := 80) hC dX12_rightsThrough_32 rfl (by decide) ?_
      refine v_icmp_ge (q := 86) (q2 := 37) hC dX12_rightsThrough_34 (by decide) rfl (fun c_34 => ?_) (fun c_34 => ?_)
      · refine v_iload_n (i := 3) (q := 87) hC dX12_rightsThrough_86 rfl rfl rfl ?_
        refine v_iret hC dX12_rightsThrough_87 hr (rfl) ?_ (Nat.le_of_ble_eq_true rfl) (Nat.le_of_ble_eq_true rfl)
        exact ⟨by rw [← h2, mTr], rfl⟩
      · exact absurd (by rw [show j = 80 by omega]; decide) c_34
    | succ n ih =>
      intro j t h1 h2
      rw [mTr] at h2
      have hj : j < 80 := by omega
      have hj4 : j / 4 < 20 := by omega
      refine v_iload (q := 32) hC dX12_rightsThrough_30 rfl rfl ?_
      refine v_bipush (q := 34) (v := 80) hC dX12_rightsThrough_32 rfl (by decide) ?_
      refine v_icmp_ge (q := 86) (q2 := 37) hC dX12_rightsThrough_34 (by decide) rfl (fun c_34 => ?_) (fun c_34 => ?_)
      · exact absurd c_34 (by rw [show (80 : Int32) = nI 80 from rfl]; exact nI_ge (by omega) (by omega))
      · refine v_aload_n (i := 0) (q := 38) hC dX12_rightsThrough_37 rfl rfl rfl ?_
        refine gm_last (q := 41) hC dX12_rightsThrough_38 rfl rfl fl_RX12_39 ?_
        refine v_if_ne (q := 86) (q2 := 44) hC dX12_rightsThrough_41 (by decide) rfl (fun c_41 => ?_) (fun c_41 => ?_)
        · exact absurd rfl c_41
        · refine v_iload_n (i := 3) (q := 45) hC dX12_rightsThrough_44 rfl rfl rfl ?_
          refine v_aload_n (i := 0) (q := 46) hC dX12_rightsThrough_45 rfl rfl rfl ?_
          refine v_iload (q := 48) hC dX12_rightsThrough_46 rfl rfl ?_
          refine v_iconst (q := 49) (v := 4) hC dX12_rightsThrough_48 rfl (by decide) ?_
          refine v_idiv (q := 50) hC dX12_rightsThrough_49 rfl (by decide) ?_
          rw [div4 hj]
          refine v_callV (q := 53) (rm := rm_X12_isObject) hC (c_X12_isObject hl Θ _ _) k_X12_isObject im_yX12_isObject se_yX12_isObject ml_RX12_57 dX12_rightsThrough_50 rfl rfl rfl rfl rfl rfl (Nat.le_of_ble_eq_true rfl) ⟨Nat.le_of_ble_eq_true rfl, Nat.le_of_ble_eq_true rfl⟩ ⟨Nat.le_of_ble_eq_true rfl, Nat.le_of_ble_eq_true rfl⟩ (fR_k ?_) fR_x (Nat.le_of_ble_eq_true rfl) (Nat.le_of_ble_eq_true rfl)
          try dsimp only [Option.toList, List.cons_append, List.nil_append]
          refine v_ifb_eq (q := 77) (q2 := 56) hC dX12_rightsThrough_53 (by decide) rfl (fun c_53 => ?_) (fun c_53 => ?_)
          · refine v_iconst (q := 78) (v := 0) hC dX12_rightsThrough_77 rfl (by decide) ?_
            refine v_iadd (q := 79) hC dX12_rightsThrough_78 rfl ?_
            refine v_istore_n (i := 3) (q := 80) hC dX12_rightsThrough_79 rfl rfl (lvc rfl) (Nat.le_of_ble_eq_true rfl) (Nat.le_of_ble_eq_true rfl) rfl ?_
            refine v_iinc (q := 83) (v := nI (j + 1)) hC dX12_rightsThrough_80 rfl rfl (nI_1 j) (lvc rfl) (Nat.le_of_ble_eq_true rfl) (Nat.le_of_ble_eq_true rfl) rfl ?_
            refine v_goto (q := 30) hC dX12_rightsThrough_83 (by decide) ?_
            refine ih (j + 1) _ (by omega) ?_
            rw [← h2]
            first | (rw [show mHold (G.2.1 0 30) (nI (j / 4)) = false from c_53]; rfl) | (rw [show mHold (G.2.1 0 30) (nI (j / 4)) = true from c_53, show mTh (G.2.1 0 30) u (j / 4) (nI (j % 4)) g = _ from c_70]; rfl)
          · refine v_aload_n (i := 0) (q := 57) hC dX12_rightsThrough_56 rfl rfl rfl ?_
            refine v_iload_n (i := 1) (q := 58) hC dX12_rightsThrough_57 rfl rfl rfl ?_
            refine v_iload (q := 60) hC dX12_rightsThrough_58 rfl rfl ?_
            refine v_iconst (q := 61) (v := 4) hC dX12_rightsThrough_60 rfl (by decide) ?_
            refine v_idiv (q := 62) hC dX12_rightsThrough_61 rfl (by decide) ?_
            refine v_iload (q := 64) hC dX12_rightsThrough_62 rfl rfl ?_
            refine v_iconst (q := 65) (v := 4) hC dX12_rightsThrough_64 rfl (by decide) ?_
            refine v_irem (q := 66) hC dX12_rightsThrough_65 rfl (by decide) ?_
            refine v_iload_n (i := 2) (q := 67) hC dX12_rightsThrough_66 rfl rfl rfl ?_
            rw [rem4 hj, div4 hj]
            refine v_callV (q := 70) (rm := rm_X12_isThrough) hC (c_X12_isThrough hl Θ _ (j / 4) _ _ _ hm.2 hj4) k_X12_isThrough im_yX12_isThrough se_yX12_isThrough ml_RX12_224 dX12_rightsThrough_67 rfl rfl rfl rfl rfl rfl (Nat.le_of_ble_eq_true rfl) ⟨Nat.le_of_ble_eq_true rfl, Nat.le_of_ble_eq_true rfl⟩ ⟨Nat.le_of_ble_eq_true rfl, Nat.le_of_ble_eq_true rfl⟩ (fR_k ?_) fR_x (Nat.le_of_ble_eq_true rfl) (Nat.le_of_ble_eq_true rfl)
            try dsimp only [Option.toList, List.cons_append, List.nil_append]
            refine v_ifb_eq (q := 77) (q2 := 73) hC dX12_rightsThrough_70 (by decide) rfl (fun c_70 => ?_) (fun c_70 => ?_)
            · refine v_iconst (q := 78) (v := 0) hC dX12_rightsThrough_77 rfl (by decide) ?_
              refine v_iadd (q := 79) hC dX12_rightsThrough_78 rfl ?_
              refine v_istore_n (i := 3) (q := 80) hC dX12_rightsThrough_79 rfl rfl (lvc rfl) (Nat.le_of_ble_eq_true rfl) (Nat.le_of_ble_eq_true rfl) rfl ?_
              refine v_iinc (q := 83) (v := nI (j + 1)) hC dX12_rightsThrough_80 rfl rfl (nI_1 j) (lvc rfl) (Nat.le_of_ble_eq_true rfl) (Nat.le_of_ble_eq_true rfl) rfl ?_
              refine v_goto (q := 30) hC dX12_rightsThrough_83 (by decide) ?_
              refine ih (j + 1) _ (by omega) ?_
              rw [← h2]
              first | (rw [show mHold (G.2.1 0 30) (nI (j / 4)) = false from c_53]; rfl) | (rw [show mHold (G.2.1 0 30) (nI (j / 4)) = true from c_53, show mTh (G.2.1 0 30) u (j / 4) (nI (j % 4)) g = _ from c_70]; rfl)
            · refine v_iconst (q := 74) (v := 1) hC dX12_rightsThrough_73 rfl (by decide) ?_
              refine v_goto (q := 78) hC dX12_rightsThrough_74 (by decide) ?_
              refine v_iadd (q := 79) hC dX12_rightsThrough_78 rfl ?_
              refine v_istore_n (i := 3) (q := 80) hC dX12_rightsThrough_79 rfl rfl (lvc rfl) (Nat.le_of_ble_eq_true rfl) (Nat.le_of_ble_eq_true rfl) rfl ?_
              refine v_iinc (q := 83) (v := nI (j + 1)) hC dX12_rightsThrough_80 rfl rfl (nI_1 j) (lvc rfl) (Nat.le_of_ble_eq_true rfl) (Nat.le_of_ble_eq_true rfl) rfl ?_
              refine v_goto (q := 30) hC dX12_rightsThrough_83 (by decide) ?_
              refine ih (j + 1) _ (by omega) ?_
              rw [← h2]
              first | (rw [show mHold (G.2.1 0 30) (nI (j / 4)) = false from c_53]; rfl) | (rw [show mHold (G.2.1 0 30) (nI (j / 4)) = true from c_53, show mTh (G.2.1 0 30) u (j / 4) (nI (j % 4)) g = _ from c_70]; rfl)
  have L0 : V p l e rm_X12_rightsThrough s m args below meth c 5 Θ (mg false 1 (fR none G) G) rm_X12_rightsThrough.cells rm_X12_rightsThrough.slots 0 0 30 [some (.ref (tR Θ 0 29)), some (.int u), some (.int g), some (.int 0), some (.int 0)] [] (ms 1 G) := by
    refine v_iload (q := 32) hC dX12_rightsThrough_30 rfl rfl ?_
    refine v_bipush (q := 34) (v := 80) hC dX12_rightsThrough_32 rfl (by decide) ?_
    refine v_icmp_ge (q := 86) (q2 := 37) hC dX12_rightsThrough_34 (by decide) rfl (fun c_34 => ?_) (fun c_34 => ?_)
    · exact absurd c_34 (by decide)
    · refine v_aload_n (i := 0) (q := 38) hC dX12_rightsThrough_37 rfl rfl rfl ?_
      refine gm_last (q := 41) hC dX12_rightsThrough_38 rfl rfl fl_RX12_39 ?_
      refine v_if_ne (q := 86) (q2 := 44) hC dX12_rightsThrough_41 (by decide) rfl (fun c_41 => ?_) (fun c_41 => ?_)
      · refine v_iload_n (i := 3) (q := 87) hC dX12_rightsThrough_86 rfl rfl rfl ?_
        refine v_iret hC dX12_rightsThrough_87 hr (rfl) ?_ (Nat.le_of_ble_eq_true rfl) (Nat.le_of_ble_eq_true rfl)
        exact ⟨rfl, rfl⟩
      · exact absurd c_41 (by decide)
  refine v_aload_n (i := 0) (q := 1) hC dX12_rightsThrough_0 rfl rfl rfl ?_
  refine v_aload_n (i := 0) (q := 2) hC dX12_rightsThrough_1 rfl rfl rfl ?_
  refine v_iload_n (i := 1) (q := 3) hC dX12_rightsThrough_2 rfl rfl rfl ?_
  refine v_callV (q := 6) (rm := rm_X12_isUser) hC (c_X12_isUser hl Θ _ _) k_X12_isUser im_yX12_isUser se_yX12_isUser ml_RX12_82 dX12_rightsThrough_3 rfl rfl rfl rfl rfl rfl (Nat.le_of_ble_eq_true rfl) ⟨Nat.le_of_ble_eq_true rfl, Nat.le_of_ble_eq_true rfl⟩ ⟨Nat.le_of_ble_eq_true rfl, Nat.le_of_ble_eq_true rfl⟩ (fR_k ?_) fR_x (Nat.le_of_ble_eq_true rfl) (Nat.le_of_ble_eq_true rfl)
  try dsimp only [Option.toList, List.cons_append, List.nil_append]
  refine v_ifb_eq (q := 21) (q2 := 9) hC dX12_rightsThrough_6 (by decide) rfl (fun c_6 => ?_) (fun c_6 => ?_)
  · refine v_iconst (q := 22) (v := 1) hC dX12_rightsThrough_21 rfl (by decide) ?_
    refine pm_last (q := 25) hC dX12_rightsThrough_22 rfl rfl fl_RX12_39 ?_
    refine v_iconst (q := 26) (v := 0) hC dX12_rightsThrough_25 rfl (by decide) ?_
    refine v_istore_n (i := 3) (q := 27) hC dX12_rightsThrough_26 rfl rfl (lvc rfl) (Nat.le_of_ble_eq_true rfl) (Nat.le_of_ble_eq_true rfl) rfl ?_
    refine v_iconst (q := 28) (v := 0) hC dX12_rightsThrough_27 rfl (by decide) ?_
    refine v_istore (q := 30) hC dX12_rightsThrough_28 rfl (lvc rfl) (Nat.le_of_ble_eq_true rfl) (Nat.le_of_ble_eq_true rfl) rfl ?_
    first
      | (rw [mg_t (by simp_all [ms_row])]; exact L 80 0 0 rfl rfl)
      | (rw [show (mg (mIn u 0 (G.2.1 0 30 0 - 1) && mIn g 0 (G.2.1 0 30 1 - 1)) 1 (fR (some (.int (mTr (G.2.1 0 30) u g 80 0 0))) (ms 0 G)) (G)) = mg false 1 (fR none G) G by rw [show (mIn u 0 (G.2.1 0 30 0 - 1) && mIn g 0 (G.2.1 0 30 1 - 1)) = false by simp_all [ms_row]]; funext o9 G9; simp [mg]]; exact L0)
  · refine v_aload_n (i := 0) (q := 10) hC dX12_rightsThrough_9 rfl rfl rfl ?_
    refine v_iload_n (i := 2) (q := 11) hC dX12_rightsThrough_10 rfl rfl rfl ?_
    refine v_callV (q := 14) (rm := rm_X12_isGroup) hC (c_X12_isGroup hl Θ _ _) k_X12_isGroup im_yX12_isGroup se_yX12_isGroup ml_RX12_85 dX12_rightsThrough_11 rfl rfl rfl rfl rfl rfl (Nat.le_of_ble_eq_true rfl) ⟨Nat.le_of_ble_eq_true rfl, Nat.le_of_ble_eq_true rfl⟩ ⟨Nat.le_of_ble_eq_true rfl, Nat.le_of_ble_eq_true rfl⟩ (fR_k ?_) fR_x (Nat.le_of_ble_eq_true rfl) (Nat.le_of_ble_eq_true rfl)
    try dsimp only [Option.toList, List.cons_append, List.nil_append]
    refine v_ifb_eq (q := 21) (q2 := 17) hC dX12_rightsThrough_14 (by decide) rfl (fun c_14 => ?_) (fun c_14 => ?_)
    · refine v_iconst (q := 22) (v := 1) hC dX12_rightsThrough_21 rfl (by decide) ?_
      refine pm_last (q := 25) hC dX12_rightsThrough_22 rfl rfl fl_RX12_39 ?_
      refine v_iconst (q := 26) (v := 0) hC dX12_rightsThrough_25 rfl (by decide) ?_
      refine v_istore_n (i := 3) (q := 27) hC dX12_rightsThrough_26 rfl rfl (lvc rfl) (Nat.le_of_ble_eq_true rfl) (Nat.le_of_ble_eq_true rfl) rfl ?_
      refine v_iconst (q := 28) (v := 0) hC dX12_rightsThrough_27 rfl (by decide) ?_
      refine v_istore (q := 30) hC dX12_rightsThrough_28 rfl (lvc rfl) (Nat.le_of_ble_eq_true rfl) (Nat.le_of_ble_eq_true rfl) rfl ?_
      first
        | (rw [mg_t (by simp_all [ms_row])]; exact L 80 0 0 rfl rfl)
        | (rw [show (mg (mIn u 0 (G.2.1 0 30 0 - 1) && mIn g 0 (G.2.1 0 30 1 - 1)) 1 (fR (some (.int (mTr (G.2.1 0 30) u g 80 0 0))) (ms 0 G)) (G)) = mg false 1 (fR none G) G by rw [show (mIn u 0 (G.2.1 0 30 0 - 1) && mIn g 0 (G.2.1 0 30 1 - 1)) = false by simp_all [ms_row]]; funext o9 G9; simp [mg]]; exact L0)
    · refine v_iconst (q := 18) (v := 0) hC dX12_rightsThrough_17 rfl (by decide) ?_
      refine v_goto (q := 22) hC dX12_rightsThrough_18 (by decide) ?_
      refine pm_last (q := 25) hC dX12_rightsThrough_22 rfl rfl fl_RX12_39 ?_
      refine v_iconst (q := 26) (v := 0) hC dX12_rightsThrough_25 rfl (by decide) ?_
      refine v_istore_n (i := 3) (q := 27) hC dX12_rightsThrough_26 rfl rfl (lvc rfl) (Nat.le_of_ble_eq_true rfl) (Nat.le_of_ble_eq_true rfl) rfl ?_
      refine v_iconst (q := 28) (v := 0) hC dX12_rightsThrough_27 rfl (by decide) ?_
      refine v_istore (q := 30) hC dX12_rightsThrough_28 rfl (lvc rfl) (Nat.le_of_ble_eq_true rfl) (Nat.le_of_ble_eq_true rfl) rfl ?_
      first
        | (rw [mg_t (by simp_all [ms_row])]; exact L 80 0 0 rfl rfl)
        | (rw [show (mg (mIn u 0 (G.2.1 0 30 0 - 1) && mIn g 0 (G.2.1 0 30 1 - 1)) 1 (fR (some (.int (mTr (G.2.1 0 30) u g 80 0 0))) (ms 0 G)) (G)) = mg false 1 (fR none G) G by rw [show (mIn u 0 (G.2.1 0 30 0 - 1) && mIn g 0 (G.2.1 0 30 1 - 1)) = false by simp_all [ms_row]]; funext o9 G9; simp [mg]]; exact L0)
set_option maxHeartbeats 4000000 in
set_option maxRecDepth 20000 in
theorem c_X12_allRights {l : Launch} (hl : l.stackTraces = false) (Θ : cTH) (G : GS) (hm : mInv G) : Ct l yX12_allRights cX12_allRights 1 (some .int) rm_X12_allRights Θ [.ref (tR Θ 0 29)] (G) (fR (some (.int (mEv (G.2.1 0 30) (mUs (G.2.1 0 30)) 0 0))) (ms 0 G)) := by
  refine ct_of (LS := [some (.ref (tR Θ 0 29))]) hl (by decide +kernel) rfl (Nat.le_of_ble_eq_true rfl) rfl ?_
  intro p e s m args below meth c hC hr
  refine v_aload_n (i := 0) (q := 1) hC dX12_allRights_0 rfl rfl rfl ?_
  refine v_iconst (q := 2) (v := 0) hC dX12_allRights_1 rfl (by decide) ?_
  refine pm_last (q := 5) hC dX12_allRights_2 rfl rfl fl_RX12_39 ?_
  refine v_aload_n (i := 0) (q := 6) hC dX12_allRights_5 rfl rfl rfl ?_
  refine v_callV (q := 9) (rm := rm_X12_everything) hC (c_X12_everything hl Θ _ hm.2) k_X12_everything im_yX12_everything se_yX12_everything ml_RX12_227 dX12_allRights_6 rfl rfl rfl rfl rfl rfl (Nat.le_of_ble_eq_true rfl) ⟨Nat.le_of_ble_eq_true rfl, Nat.le_of_ble_eq_true rfl⟩ ⟨Nat.le_of_ble_eq_true rfl, Nat.le_of_ble_eq_true rfl⟩ (fR_k ?_) fR_x (Nat.le_of_ble_eq_true rfl) (Nat.le_of_ble_eq_true rfl)
  try dsimp only [Option.toList, List.cons_append, List.nil_append]
  refine v_iret hC dX12_allRights_9 hr (rfl) ?_ (Nat.le_of_ble_eq_true rfl) (Nat.le_of_ble_eq_true rfl)
  exact ⟨rfl, rfl⟩
