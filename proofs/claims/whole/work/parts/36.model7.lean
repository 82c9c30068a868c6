/-! The reference: share, questions, as they are, the log -/
/-- an entry for a user, ahead of the others -/
def mSh (w : Nat → Int32) (o : Nat) (u r : Int32) : Nat → Int32 := mWrt (mOpn w o 0 (mCt w o)) o 0 0 u r true false
theorem mWrt_out (w : Nat → Int32) (o i : Nat) (kind who rg : Int32) (a b : Bool) (x : Nat) (h : ¬ (enA o i 0 ≤ x ∧ x < enA o i 5)) : mWrt w o i kind who rg a b x = w x := by
  unfold mWrt upd
  rw [if_neg (by unfold enA at *; omega), if_neg (by unfold enA at *; omega), if_neg (by unfold enA at *; omega), if_neg (by unfold enA at *; omega), if_neg (by unfold enA at *; omega)]
theorem mOk_sh {w : Nat → Int32} (h : mOk w) {o : Nat} (u r : Int32) (ho : o < 20) (hc : mCt w o ≤ 5) : mOk (mSh w o u r) := by
  refine mOk_ins h ho (i := 0) hc (by omega) (fun x hx => mWrt_out _ _ _ _ _ _ _ _ _ hx) ?_
  intro hk
  have e : mSh w o u r (enA o 0 0) = 0 := by
    unfold mSh mWrt upd
    rw [if_neg (by unfold enA; omega), if_neg (by unfold enA; omega), if_neg (by unfold enA; omega), if_neg (by unfold enA; omega), if_pos rfl]
  rw [e] at hk
  exact absurd hk (by decide)
theorem mCt_lt {w : Nat → Int32} (h : mOk w) {j : Nat} (hj : j < 20) (c : ¬ w (oA j 5) = 6) : mCt w j < 6 := by
  have h6 := h.ct6 hj
  rcases Nat.lt_or_ge (mCt w j) 6 with z | z
  · exact z
  · exact absurd (show w (oA j 5) = 6 by rw [h.ct hj, show mCt w j = 6 by omega]; rfl) c
set_option maxHeartbeats 4000000 in
set_option maxRecDepth 20000 in
theorem c_X12_share {l : Launch} (hl : l.stackTraces = false) (Θ : cTH) (v o u r : Int32) (G : GS) (hm : mInv G) : Ct l yX12_share cX12_share 7 (some .int) rm_X12_share Θ [.ref (tR Θ 0 29), .int v, .int o, .int u, .int r] (G) (mg (mIn v 0 (G.2.1 0 30 0 - 1) && (mHold (G.2.1 0 30) o && mIn u 0 (G.2.1 0 30 0 - 1))) 1 (mg (mIn r 1 15) 2 (mg (!(!decide (mRg (G.2.1 0 30) v o.toNatClampNeg &&& (r ||| 8) = r ||| 8) || decide (G.2.1 0 30 (oA o.toNatClampNeg 5) = 6))) 3 (fR (some (.int (mRg (mSh (G.2.1 0 30) o.toNatClampNeg u r) u o.toNatClampNeg))) (mWr (mSh (G.2.1 0 30) o.toNatClampNeg u r) (mC G))) (G)) (G)) (G)) := by
  refine ct_of (LS := [some (.ref (tR Θ 0 29)), some (.int v), some (.int o), some (.int u), some (.int r), none, none]) hl (by decide +kernel) rfl (Nat.le_of_ble_eq_true rfl) rfl ?_
  intro p e s m args below meth c hC hr
  refine v_aload_n (i := 0) (q := 1) hC dX12_share_0 rfl rfl rfl ?_
  refine v_iconst (q := 2) (v := 0) hC dX12_share_1 rfl (by decide) ?_
  refine pm_last (q := 5) hC dX12_share_2 rfl rfl fl_RX12_39 ?_
  refine v_aload_n (i := 0) (q := 6) hC dX12_share_5 rfl rfl rfl ?_
  refine v_iload_n (i := 1) (q := 7) hC dX12_share_6 rfl rfl rfl ?_
  refine v_callV (q := 10) (rm := rm_X12_isUser) hC (c_X12_isUser hl Θ _ _) k_X12_isUser im_yX12_isUser se_yX12_isUser ml_RX12_82 dX12_share_7 rfl rfl rfl rfl rfl rfl (Nat.le_of_ble_eq_true rfl) ⟨Nat.le_of_ble_eq_true rfl, Nat.le_of_ble_eq_true rfl⟩ ⟨Nat.le_of_ble_eq_true rfl, Nat.le_of_ble_eq_true rfl⟩ (fR_k ?_) fR_x (Nat.le_of_ble_eq_true rfl) (Nat.le_of_ble_eq_true rfl)
  try dsimp only [Option.toList, List.cons_append, List.nil_append]
  refine v_ifb_eq (q := 29) (q2 := 13) hC dX12_share_10 (by decide) rfl (fun c_10 => ?_) (fun c_10 => ?_)
  · refine v_aload_n (i := 0) (q := 30) hC dX12_share_29 rfl rfl rfl ?_
    refine v_iconst (q := 31) (v := 1) hC dX12_share_30 rfl (by decide) ?_
    refine v_callV (q := 34) (rm := rm_X12_fails) hC (c_fl hl Θ _ _ _) k_X12_fails im_yX12_fails se_yX12_fails ml_RX12_76 dX12_share_31 rfl rfl rfl rfl rfl rfl (Nat.le_of_ble_eq_true rfl) ⟨Nat.le_of_ble_eq_true rfl, Nat.le_of_ble_eq_true rfl⟩ ⟨Nat.le_of_ble_eq_true rfl, Nat.le_of_ble_eq_true rfl⟩ (fR_k ?_) fR_x (Nat.le_of_ble_eq_true rfl) (Nat.le_of_ble_eq_true rfl)
    try dsimp only [Option.toList, List.cons_append, List.nil_append]
    refine v_iret hC dX12_share_34 hr (rfl) ?_ (Nat.le_of_ble_eq_true rfl) (Nat.le_of_ble_eq_true rfl)
    exact mg_f (by simp_all [ms_row])
  · refine v_aload_n (i := 0) (q := 14) hC dX12_share_13 rfl rfl rfl ?_
    refine v_iload_n (i := 2) (q := 15) hC dX12_share_14 rfl rfl rfl ?_
    refine v_callV (q := 18) (rm := rm_X12_isObject) hC (c_X12_isObject hl Θ _ _) k_X12_isObject im_yX12_isObject se_yX12_isObject ml_RX12_57 dX12_share_15 rfl rfl rfl rfl rfl rfl (Nat.le_of_ble_eq_true rfl) ⟨Nat.le_of_ble_eq_true rfl, Nat.le_of_ble_eq_true rfl⟩ ⟨Nat.le_of_ble_eq_true rfl, Nat.le_of_ble_eq_true rfl⟩ (fR_k ?_) fR_x (Nat.le_of_ble_eq_true rfl) (Nat.le_of_ble_eq_true rfl)
    try dsimp only [Option.toList, List.cons_append, List.nil_append]
    refine v_ifb_eq (q := 29) (q2 := 21) hC dX12_share_18 (by decide) rfl (fun c_18 => ?_) (fun c_18 => ?_)
    · refine v_aload_n (i := 0) (q := 30) hC dX12_share_29 rfl rfl rfl ?_
      refine v_iconst (q := 31) (v := 1) hC dX12_share_30 rfl (by decide) ?_
      refine v_callV (q := 34) (rm := rm_X12_fails) hC (c_fl hl Θ _ _ _) k_X12_fails im_yX12_fails se_yX12_fails ml_RX12_76 dX12_share_31 rfl rfl rfl rfl rfl rfl (Nat.le_of_ble_eq_true rfl) ⟨Nat.le_of_ble_eq_true rfl, Nat.le_of_ble_eq_true rfl⟩ ⟨Nat.le_of_ble_eq_true rfl, Nat.le_of_ble_eq_true rfl⟩ (fR_k ?_) fR_x (Nat.le_of_ble_eq_true rfl) (Nat.le_of_ble_eq_true rfl)
      try dsimp only [Option.toList, List.cons_append, List.nil_append]
      refine v_iret hC dX12_share_34 hr (rfl) ?_ (Nat.le_of_ble_eq_true rfl) (Nat.le_of_ble_eq_true rfl)
      exact mg_f (by simp_all [ms_row])
    · refine v_aload_n (i := 0) (q := 22) hC dX12_share_21 rfl rfl rfl ?_
      refine v_iload_n (i := 3) (q := 23) hC dX12_share_22 rfl rfl rfl ?_
      refine v_callV (q := 26) (rm := rm_X12_isUser) hC (c_X12_isUser hl Θ _ _) k_X12_isUser im_yX12_isUser se_yX12_isUser ml_RX12_82 dX12_share_23 rfl rfl rfl rfl rfl rfl (Nat.le_of_ble_eq_true rfl) ⟨Nat.le_of_ble_eq_true rfl, Nat.le_of_ble_eq_true rfl⟩ ⟨Nat.le_of_ble_eq_true rfl, Nat.le_of_ble_eq_true rfl⟩ (fR_k ?_) fR_x (Nat.le_of_ble_eq_true rfl) (Nat.le_of_ble_eq_true rfl)
      try dsimp only [Option.toList, List.cons_append, List.nil_append]
      refine v_ifb_ne (q := 35) (q2 := 29) hC dX12_share_26 (by decide) rfl (fun c_26 => ?_) (fun c_26 => ?_)
      · rw [mg_t (by simp_all [ms_row])]
        obtain ⟨j, hj, rfl⟩ := mHold_nI c_18
        rw [nI_clamp (show j < 2 ^ 31 by omega)]
        refine v_iload (q := 37) hC dX12_share_35 rfl rfl ?_
        refine v_callS (q := 40) (rm := rm_X12_areRights) hC (c_X12_areRights hl Θ _ _) k_X12_areRights st_yX12_areRights ml_RX12_101 dX12_share_37 rfl  rfl rfl (Nat.le_of_ble_eq_true rfl) ⟨Nat.le_of_ble_eq_true rfl, Nat.le_of_ble_eq_true rfl⟩ ⟨Nat.le_of_ble_eq_true rfl, Nat.le_of_ble_eq_true rfl⟩ (fR_k ?_) fR_x (Nat.le_of_ble_eq_true rfl) (Nat.le_of_ble_eq_true rfl)
        try dsimp only [Option.toList, List.cons_append, List.nil_append]
        refine v_ifb_ne (q := 49) (q2 := 43) hC dX12_share_40 (by decide) rfl (fun c_40 => ?_) (fun c_40 => ?_)
        · rw [mg_t c_40]
          refine v_aload_n (i := 0) (q := 50) hC dX12_share_49 rfl rfl rfl ?_
          refine v_iload_n (i := 1) (q := 51) hC dX12_share_50 rfl rfl rfl ?_
          refine v_iload_n (i := 2) (q := 52) hC dX12_share_51 rfl rfl rfl ?_
          refine v_callV (q := 55) (rm := rm_X12_rights) hC (c_X12_rights hl Θ _ j _ hm.2 hj) k_X12_rights im_yX12_rights se_yX12_rights ml_RX12_119 dX12_share_52 rfl rfl rfl rfl rfl rfl (Nat.le_of_ble_eq_true rfl) ⟨Nat.le_of_ble_eq_true rfl, Nat.le_of_ble_eq_true rfl⟩ ⟨Nat.le_of_ble_eq_true rfl, Nat.le_of_ble_eq_true rfl⟩ (fR_k ?_) fR_x (Nat.le_of_ble_eq_true rfl) (Nat.le_of_ble_eq_true rfl)
          try dsimp only [Option.toList, List.cons_append, List.nil_append]
          refine v_istore (q := 57) hC dX12_share_55 rfl (lvc rfl) (Nat.le_of_ble_eq_true rfl) (Nat.le_of_ble_eq_true rfl) rfl ?_
          refine v_iload (q := 59) hC dX12_share_57 rfl rfl ?_
          refine v_bipush (q := 61) (v := 8) hC dX12_share_59 rfl (by decide) ?_
          refine v_ior (q := 62) hC dX12_share_61 rfl ?_
          refine v_istore (q := 64) hC dX12_share_62 rfl (lvc rfl) (Nat.le_of_ble_eq_true rfl) (Nat.le_of_ble_eq_true rfl) rfl ?_
          refine v_iload (q := 66) hC dX12_share_64 rfl rfl ?_
          refine v_iload (q := 68) hC dX12_share_66 rfl rfl ?_
          refine v_iand (q := 69) hC dX12_share_68 rfl ?_
          refine v_iload (q := 71) hC dX12_share_69 rfl rfl ?_
          refine v_icmp_ne (q := 85) (q2 := 74) hC dX12_share_71 (by decide) rfl (fun c_71 => ?_) (fun c_71 => ?_)
          · refine v_aload_n (i := 0) (q := 86) hC dX12_share_85 rfl rfl rfl ?_
            refine v_iconst (q := 87) (v := 3) hC dX12_share_86 rfl (by decide) ?_
            refine v_callV (q := 90) (rm := rm_X12_fails) hC (c_fl hl Θ _ _ _) k_X12_fails im_yX12_fails se_yX12_fails ml_RX12_76 dX12_share_87 rfl rfl rfl rfl rfl rfl (Nat.le_of_ble_eq_true rfl) ⟨Nat.le_of_ble_eq_true rfl, Nat.le_of_ble_eq_true rfl⟩ ⟨Nat.le_of_ble_eq_true rfl, Nat.le_of_ble_eq_true rfl⟩ (fR_k ?_) fR_x (Nat.le_of_ble_eq_true rfl) (Nat.le_of_ble_eq_true rfl)
            try dsimp only [Option.toList, List.cons_append, List.nil_append]
            refine v_iret hC dX12_share_90 hr (rfl) ?_ (Nat.le_of_ble_eq_true rfl) (Nat.le_of_ble_eq_true rfl)
            exact mg_f (by first | (rw [show decide (mRg (G.2.1 0 30) v j &&& (r ||| 8) = r ||| 8) = false from decide_eq_false c_71]; rfl) | (rw [show decide (G.2.1 0 30 (oA j 5) = 6) = true from decide_eq_true c_82, Bool.or_true]; rfl))
          · refine v_aload_n (i := 0) (q := 75) hC dX12_share_74 rfl rfl rfl ?_
            refine v_iload_n (i := 2) (q := 76) hC dX12_share_75 rfl rfl rfl ?_
            refine v_iconst (q := 77) (v := 5) hC dX12_share_76 rfl (by decide) ?_
            refine v_callV (q := 80) (rm := rm_X12_of) hC (c_X12_of hl Θ _ 5 _ (by unfold oA; omega)) k_X12_of im_yX12_of se_yX12_of ml_RX12_54 dX12_share_77 rfl rfl rfl rfl rfl rfl (Nat.le_of_ble_eq_true rfl) ⟨Nat.le_of_ble_eq_true rfl, Nat.le_of_ble_eq_true rfl⟩ ⟨Nat.le_of_ble_eq_true rfl, Nat.le_of_ble_eq_true rfl⟩ (fR_k ?_) fR_x (Nat.le_of_ble_eq_true rfl) (Nat.le_of_ble_eq_true rfl)
            try dsimp only [Option.toList, List.cons_append, List.nil_append]
            refine v_bipush (q := 82) (v := 6) hC dX12_share_80 rfl (by decide) ?_
            refine v_icmp_ne (q := 91) (q2 := 85) hC dX12_share_82 (by decide) rfl (fun c_82 => ?_) (fun c_82 => ?_)
            · rw [mg_t (by rw [show decide (mRg (G.2.1 0 30) v j &&& (r ||| 8) = r ||| 8) = true from decide_eq_true c_71, show decide (G.2.1 0 30 (oA j 5) = 6) = false from decide_eq_false c_82]; rfl)]
              have hc5 := mCt_lt hm.2 hj c_82
              refine v_aload_n (i := 0) (q := 92) hC dX12_share_91 rfl rfl rfl ?_
              refine v_callV (q := 95) (rm := rm_X12_changes) hC (c_mC hl Θ _ hm) k_X12_changes im_yX12_changes se_yX12_changes ml_RX12_79 dX12_share_92 rfl rfl rfl rfl rfl rfl (Nat.le_of_ble_eq_true rfl) ⟨Nat.le_of_ble_eq_true rfl, Nat.le_of_ble_eq_true rfl⟩ ⟨Nat.le_of_ble_eq_true rfl, Nat.le_of_ble_eq_true rfl⟩ (fR_k ?_) fR_x (Nat.le_of_ble_eq_true rfl) (Nat.le_of_ble_eq_true rfl)
              try dsimp only [Option.toList, List.cons_append, List.nil_append]
              refine v_aload_n (i := 0) (q := 96) hC dX12_share_95 rfl rfl rfl ?_
              refine v_iload_n (i := 2) (q := 97) hC dX12_share_96 rfl rfl rfl ?_
              refine v_iconst (q := 98) (v := 0) hC dX12_share_97 rfl (by decide) ?_
              refine v_callV (q := 101) (rm := rm_X12_opens) hC (c_X12_opens hl Θ j 0 (mCt (G.2.1 0 30) j) _ hj (by rw [mC_w]; exact hm.2.ct hj) (by omega) (by omega)) k_X12_opens im_yX12_opens se_yX12_opens ml_RX12_125 dX12_share_98 rfl rfl rfl rfl rfl rfl (Nat.le_of_ble_eq_true rfl) ⟨Nat.le_of_ble_eq_true rfl, Nat.le_of_ble_eq_true rfl⟩ ⟨Nat.le_of_ble_eq_true rfl, Nat.le_of_ble_eq_true rfl⟩ (fR_k ?_) fR_x (Nat.le_of_ble_eq_true rfl) (Nat.le_of_ble_eq_true rfl)
              try dsimp only [Option.toList, List.cons_append, List.nil_append]
              rw [mC_w]
              refine v_aload_n (i := 0) (q := 102) hC dX12_share_101 rfl rfl rfl ?_
              refine v_iload_n (i := 2) (q := 103) hC dX12_share_102 rfl rfl rfl ?_
              refine v_iconst (q := 104) (v := 0) hC dX12_share_103 rfl (by decide) ?_
              refine v_iconst (q := 105) (v := 0) hC dX12_share_104 rfl (by decide) ?_
              refine v_iload_n (i := 3) (q := 106) hC dX12_share_105 rfl rfl rfl ?_
              refine v_iload (q := 108) hC dX12_share_106 rfl rfl ?_
              refine v_iconst (q := 109) (v := 1) hC dX12_share_108 rfl (by decide) ?_
              refine v_iconst (q := 110) (v := 0) hC dX12_share_109 rfl (by decide) ?_
              refine v_callV (q := 113) (rm := rm_X12_writes) hC (c_X12_writes hl Θ j 0 _ _ _ true false _ _ hj (by omega)) k_X12_writes im_yX12_writes se_yX12_writes ml_RX12_104 dX12_share_110 rfl rfl rfl rfl rfl rfl (Nat.le_of_ble_eq_true rfl) ⟨Nat.le_of_ble_eq_true rfl, Nat.le_of_ble_eq_true rfl⟩ ⟨Nat.le_of_ble_eq_true rfl, Nat.le_of_ble_eq_true rfl⟩ (fR_k ?_) fR_x (Nat.le_of_ble_eq_true rfl) (Nat.le_of_ble_eq_true rfl)
              try dsimp only [Option.toList, List.cons_append, List.nil_append]
              refine v_aload_n (i := 0) (q := 114) hC dX12_share_113 rfl rfl rfl ?_
              refine v_iload_n (i := 3) (q := 115) hC dX12_share_114 rfl rfl rfl ?_
              refine v_iload_n (i := 2) (q := 116) hC dX12_share_115 rfl rfl rfl ?_
              refine v_callV (q := 119) (rm := rm_X12_rights) hC (c_X12_rights hl Θ _ j _ (by rw [mWr_row]; exact mOk_sh hm.2 u r hj (by omega)) hj) k_X12_rights im_yX12_rights se_yX12_rights ml_RX12_119 dX12_share_116 rfl rfl rfl rfl rfl rfl (Nat.le_of_ble_eq_true rfl) ⟨Nat.le_of_ble_eq_true rfl, Nat.le_of_ble_eq_true rfl⟩ ⟨Nat.le_of_ble_eq_true rfl, Nat.le_of_ble_eq_true rfl⟩ (fR_k ?_) fR_x (Nat.le_of_ble_eq_true rfl) (Nat.le_of_ble_eq_true rfl)
              try dsimp only [Option.toList, List.cons_append, List.nil_append]
              rw [mWr_row]
              refine v_iret hC dX12_share_119 hr (rfl) ?_ (Nat.le_of_ble_eq_true rfl) (Nat.le_of_ble_eq_true rfl)
              exact ⟨rfl, rfl⟩
            · refine v_aload_n (i := 0) (q := 86) hC dX12_share_85 rfl rfl rfl ?_
              refine v_iconst (q := 87) (v := 3) hC dX12_share_86 rfl (by decide) ?_
              refine v_callV (q := 90) (rm := rm_X12_fails) hC (c_fl hl Θ _ _ _) k_X12_fails im_yX12_fails se_yX12_fails ml_RX12_76 dX12_share_87 rfl rfl rfl rfl rfl rfl (Nat.le_of_ble_eq_true rfl) ⟨Nat.le_of_ble_eq_true rfl, Nat.le_of_ble_eq_true rfl⟩ ⟨Nat.le_of_ble_eq_true rfl, Nat.le_of_ble_eq_true rfl⟩ (fR_k ?_) fR_x (Nat.le_of_ble_eq_true rfl) (Nat.le_of_ble_eq_true rfl)
              try dsimp only [Option.toList, List.cons_append, List.nil_append]
              refine v_iret hC dX12_share_90 hr (rfl) ?_ (Nat.le_of_ble_eq_true rfl) (Nat.le_of_ble_eq_true rfl)
              exact mg_f (by first | (rw [show decide (mRg (G.2.1 0 30) v j &&& (r ||| 8) = r ||| 8) = false from decide_eq_false c_71]; rfl) | (rw [show decide (G.2.1 0 30 (oA j 5) = 6) = true from decide_eq_true c_82, Bool.or_true]; rfl))
        · refine v_aload_n (i := 0) (q := 44) hC dX12_share_43 rfl rfl rfl ?_
          refine v_iconst (q := 45) (v := 2) hC dX12_share_44 rfl (by decide) ?_
          refine v_callV (q := 48) (rm := rm_X12_fails) hC (c_fl hl Θ _ _ _) k_X12_fails im_yX12_fails se_yX12_fails ml_RX12_76 dX12_share_45 rfl rfl rfl rfl rfl rfl (Nat.le_of_ble_eq_true rfl) ⟨Nat.le_of_ble_eq_true rfl, Nat.le_of_ble_eq_true rfl⟩ ⟨Nat.le_of_ble_eq_true rfl, Nat.le_of_ble_eq_true rfl⟩ (fR_k ?_) fR_x (Nat.le_of_ble_eq_true rfl) (Nat.le_of_ble_eq_true rfl)
          try dsimp only [Option.toList, List.cons_append, List.nil_append]
          refine v_iret hC dX12_share_48 hr (rfl) ?_ (Nat.le_of_ble_eq_true rfl) (Nat.le_of_ble_eq_true rfl)
          exact mg_f c_40
      · refine v_aload_n (i := 0) (q := 30) hC dX12_share_29 rfl rfl rfl ?_
        refine v_iconst (q := 31) (v := 1) hC dX12_share_30 rfl (by decide) ?_
        refine v_callV (q := 34) (rm := rm_X12_fails) hC (c_fl hl Θ _ _ _) k_X12_fails im_yX12_fails se_yX12_fails ml_RX12_76 dX12_share_31 rfl rfl rfl rfl rfl rfl (Nat.le_of_ble_eq_true rfl) ⟨Nat.le_of_ble_eq_true rfl, Nat.le_of_ble_eq_true rfl⟩ ⟨Nat.le_of_ble_eq_true rfl, Nat.le_of_ble_eq_true rfl⟩ (fR_k ?_) fR_x (Nat.le_of_ble_eq_true rfl) (Nat.le_of_ble_eq_true rfl)
        try dsimp only [Option.toList, List.cons_append, List.nil_append]
        refine v_iret hC dX12_share_34 hr (rfl) ?_ (Nat.le_of_ble_eq_true rfl) (Nat.le_of_ble_eq_true rfl)
        exact mg_f (by simp_all [ms_row])
theorem mQc_cases {w : Nat → Int32} {u o r : Int32} : mQc w u o r = 0 ∨ mQc w u o r = 1 ∨ mQc w u o r = 2 := by
  unfold mQc
  by_cases h1 : (mIn u 0 (w 0 - 1) && mHold w o) = true
  · rw [if_pos h1]
    by_cases h2 : mIn r 0 3 = true
    · rw [if_pos h2]; exact Or.inl rfl
    · rw [if_neg h2]; exact Or.inr (Or.inr rfl)
  · rw [if_neg h1]; exact Or.inr (Or.inl rfl)
theorem isq_fin {w : Nat → Int32} {u o r : Int32} {G : GS} {x : Int32} {b : Bool} (h : mQc w u o r = x) (hb : decide (x = 0) = b) : fR (some (.int (b2i (decide (mQc w u o r = 0))))) (ms (mQc w u o r) G) (.inl (some (.int (b2i b)))) (ms x G) := by
  subst h
  subst hb
  exact ⟨rfl, rfl⟩
set_option maxHeartbeats 4000000 in
set_option maxRecDepth 20000 in
theorem c_X12_isQuestion {l : Launch} (hl : l.stackTraces = false) (Θ : cTH) (u o r : Int32) (G : GS) : Ct l yX12_isQuestion cX12_isQuestion 4 (some .boolean) rm_X12_isQuestion Θ [.ref (tR Θ 0 29), .int u, .int o, .int r] (G) (fR (some (.int (b2i (decide (mQc (G.2.1 0 30) u o r = 0))))) (ms (mQc (G.2.1 0 30) u o r) G)) := by
  refine ct_of (LS := [some (.ref (tR Θ 0 29)), some (.int u), some (.int o), some (.int r)]) hl (by decide +kernel) rfl (Nat.le_of_ble_eq_true rfl) rfl ?_
  intro p e s m args below meth c hC hr
  refine v_aload_n (i := 0) (q := 1) hC dX12_isQuestion_0 rfl rfl rfl ?_
  refine v_aload_n (i := 0) (q := 2) hC dX12_isQuestion_1 rfl rfl rfl ?_
  refine v_iload_n (i := 1) (q := 3) hC dX12_isQuestion_2 rfl rfl rfl ?_
  refine v_callV (q := 6) (rm := rm_X12_isUser) hC (c_X12_isUser hl Θ _ _) k_X12_isUser im_yX12_isUser se_yX12_isUser ml_RX12_82 dX12_isQuestion_3 rfl rfl rfl rfl rfl rfl (Nat.le_of_ble_eq_true rfl) ⟨Nat.le_of_ble_eq_true rfl, Nat.le_of_ble_eq_true rfl⟩ ⟨Nat.le_of_ble_eq_true rfl, Nat.le_of_ble_eq_true rfl⟩ (fR_k ?_) fR_x (Nat.le_of_ble_eq_true rfl) (Nat.le_of_ble_eq_true rfl)
  try dsimp only [Option.toList, List.cons_append, List.nil_append]
  refine v_ifb_eq (q := 17) (q2 := 9) hC dX12_isQuestion_6 (by decide) rfl (fun c_6 => ?_) (fun c_6 => ?_)
  · refine v_iconst (q := 18) (v := 1) hC dX12_isQuestion_17 rfl (by decide) ?_
    refine v_goto (q := 33) hC dX12_isQuestion_18 (by decide) ?_
    refine pm_last (q := 36) hC dX12_isQuestion_33 rfl rfl fl_RX12_39 ?_
    refine v_aload_n (i := 0) (q := 37) hC dX12_isQuestion_36 rfl rfl rfl ?_
    refine gm_last (q := 40) hC dX12_isQuestion_37 rfl rfl fl_RX12_39 ?_
    refine v_if_ne (q := 47) (q2 := 43) hC dX12_isQuestion_40 (by decide) rfl (fun c_40 => ?_) (fun c_40 => ?_)
    · first
      | exact absurd c_40 (by decide)
      |
        refine v_iconst (q := 48) (v := 0) hC dX12_isQuestion_47 rfl (by decide) ?_
        refine v_iret hC dX12_isQuestion_48 hr (by first | rfl | exact nar_b) ?_ (Nat.le_of_ble_eq_true rfl) (Nat.le_of_ble_eq_true rfl)
        first
          | exact isq_fin (x := 0) (b := true) (by simp_all [mQc, ms_row]) rfl
          | exact isq_fin (x := 1) (b := false) (by simp_all [mQc, ms_row]) rfl
          | exact isq_fin (x := 2) (b := false) (by simp_all [mQc, ms_row]) rfl
    · first
      | exact absurd c_40 (by decide)
      |
        refine v_iconst (q := 44) (v := 1) hC dX12_isQuestion_43 rfl (by decide) ?_
        refine v_goto (q := 48) hC dX12_isQuestion_44 (by decide) ?_
        refine v_iret hC dX12_isQuestion_48 hr (by first | rfl | exact nar_b) ?_ (Nat.le_of_ble_eq_true rfl) (Nat.le_of_ble_eq_true rfl)
        first
          | exact isq_fin (x := 0) (b := true) (by simp_all [mQc, ms_row]) rfl
          | exact isq_fin (x := 1) (b := false) (by simp_all [mQc, ms_row]) rfl
          | exact isq_fin (x := 2) (b := false) (by simp_all [mQc, ms_row]) rfl
  · refine v_aload_n (i := 0) (q := 10) hC dX12_isQuestion_9 rfl rfl rfl ?_
    refine v_iload_n (i := 2) (q := 11) hC dX12_isQuestion_10 rfl rfl rfl ?_
    refine v_callV (q := 14) (rm := rm_X12_isObject) hC (c_X12_isObject hl Θ _ _) k_X12_isObject im_yX12_isObject se_yX12_isObject ml_RX12_57 dX12_isQuestion_11 rfl rfl rfl rfl rfl rfl (Nat.le_of_ble_eq_true rfl) ⟨Nat.le_of_ble_eq_true rfl, Nat.le_of_ble_eq_true rfl⟩ ⟨Nat.le_of_ble_eq_true rfl, Nat.le_of_ble_eq_true rfl⟩ (fR_k ?_) fR_x (Nat.le_of_ble_eq_true rfl) (Nat.le_of_ble_eq_true rfl)
    try dsimp only [Option.toList, List.cons_append, List.nil_append]
    refine v_ifb_ne (q := 21) (q2 := 17) hC dX12_isQuestion_14 (by decide) rfl (fun c_14 => ?_) (fun c_14 => ?_)
    · refine v_iload_n (i := 3) (q := 22) hC dX12_isQuestion_21 rfl rfl rfl ?_
      refine v_callS (q := 25) (rm := rm_X12_isRight) hC (c_X12_isRight hl Θ _ _) k_X12_isRight st_yX12_isRight ml_RX12_156 dX12_isQuestion_22 rfl  rfl rfl (Nat.le_of_ble_eq_true rfl) ⟨Nat.le_of_ble_eq_true rfl, Nat.le_of_ble_eq_true rfl⟩ ⟨Nat.le_of_ble_eq_true rfl, Nat.le_of_ble_eq_true rfl⟩ (fR_k ?_) fR_x (Nat.le_of_ble_eq_true rfl) (Nat.le_of_ble_eq_true rfl)
      try dsimp only [Option.toList, List.cons_append, List.nil_append]
      refine v_ifb_eq (q := 32) (q2 := 28) hC dX12_isQuestion_25 (by decide) rfl (fun c_25 => ?_) (fun c_25 => ?_)
      · refine v_iconst (q := 33) (v := 2) hC dX12_isQuestion_32 rfl (by decide) ?_
        refine pm_last (q := 36) hC dX12_isQuestion_33 rfl rfl fl_RX12_39 ?_
        refine v_aload_n (i := 0) (q := 37) hC dX12_isQuestion_36 rfl rfl rfl ?_
        refine gm_last (q := 40) hC dX12_isQuestion_37 rfl rfl fl_RX12_39 ?_
        refine v_if_ne (q := 47) (q2 := 43) hC dX12_isQuestion_40 (by decide) rfl (fun c_40 => ?_) (fun c_40 => ?_)
        · first
          | exact absurd c_40 (by decide)
          |
            refine v_iconst (q := 48) (v := 0) hC dX12_isQuestion_47 rfl (by decide) ?_
            refine v_iret hC dX12_isQuestion_48 hr (by first | rfl | exact nar_b) ?_ (Nat.le_of_ble_eq_true rfl) (Nat.le_of_ble_eq_true rfl)
            first
              | exact isq_fin (x := 0) (b := true) (by simp_all [mQc, ms_row]) rfl
              | exact isq_fin (x := 1) (b := false) (by simp_all [mQc, ms_row]) rfl
              | exact isq_fin (x := 2) (b := false) (by simp_all [mQc, ms_row]) rfl
        · first
          | exact absurd c_40 (by decide)
          |
            refine v_iconst (q := 44) (v := 1) hC dX12_isQuestion_43 rfl (by decide) ?_
            refine v_goto (q := 48) hC dX12_isQuestion_44 (by decide) ?_
            refine v_iret hC dX12_isQuestion_48 hr (by first | rfl | exact nar_b) ?_ (Nat.le_of_ble_eq_true rfl) (Nat.le_of_ble_eq_true rfl)
            first
              | exact isq_fin (x := 0) (b := true) (by simp_all [mQc, ms_row]) rfl
              | exact isq_fin (x := 1) (b := false) (by simp_all [mQc, ms_row]) rfl
              | exact isq_fin (x := 2) (b := false) (by simp_all [mQc, ms_row]) rfl
      · refine v_iconst (q := 29) (v := 0) hC dX12_isQuestion_28 rfl (by decide) ?_
        refine v_goto (q := 33) hC dX12_isQuestion_29 (by decide) ?_
        refine pm_last (q := 36) hC dX12_isQuestion_33 rfl rfl fl_RX12_39 ?_
        refine v_aload_n (i := 0) (q := 37) hC dX12_isQuestion_36 rfl rfl rfl ?_
        refine gm_last (q := 40) hC dX12_isQuestion_37 rfl rfl fl_RX12_39 ?_
        refine v_if_ne (q := 47) (q2 := 43) hC dX12_isQuestion_40 (by decide) rfl (fun c_40 => ?_) (fun c_40 => ?_)
        · first
          | exact absurd c_40 (by decide)
          |
            refine v_iconst (q := 48) (v := 0) hC dX12_isQuestion_47 rfl (by decide) ?_
            refine v_iret hC dX12_isQuestion_48 hr (by first | rfl | exact nar_b) ?_ (Nat.le_of_ble_eq_true rfl) (Nat.le_of_ble_eq_true rfl)
            first
              | exact isq_fin (x := 0) (b := true) (by simp_all [mQc, ms_row]) rfl
              | exact isq_fin (x := 1) (b := false) (by simp_all [mQc, ms_row]) rfl
              | exact isq_fin (x := 2) (b := false) (by simp_all [mQc, ms_row]) rfl
        · first
          | exact absurd c_40 (by decide)
          |
            refine v_iconst (q := 44) (v := 1) hC dX12_isQuestion_43 rfl (by decide) ?_
            refine v_goto (q := 48) hC dX12_isQuestion_44 (by decide) ?_
            refine v_iret hC dX12_isQuestion_48 hr (by first | rfl | exact nar_b) ?_ (Nat.le_of_ble_eq_true rfl) (Nat.le_of_ble_eq_true rfl)
            first
              | exact isq_fin (x := 0) (b := true) (by simp_all [mQc, ms_row]) rfl
              | exact isq_fin (x := 1) (b := false) (by simp_all [mQc, ms_row]) rfl
              | exact isq_fin (x := 2) (b := false) (by simp_all [mQc, ms_row]) rfl
    · refine v_iconst (q := 18) (v := 1) hC dX12_isQuestion_17 rfl (by decide) ?_
      refine v_goto (q := 33) hC dX12_isQuestion_18 (by decide) ?_
      refine pm_last (q := 36) hC dX12_isQuestion_33 rfl rfl fl_RX12_39 ?_
      refine v_aload_n (i := 0) (q := 37) hC dX12_isQuestion_36 rfl rfl rfl ?_
      refine gm_last (q := 40) hC dX12_isQuestion_37 rfl rfl fl_RX12_39 ?_
      refine v_if_ne (q := 47) (q2 := 43) hC dX12_isQuestion_40 (by decide) rfl (fun c_40 => ?_) (fun c_40 => ?_)
      · first
        | exact absurd c_40 (by decide)
        |
          refine v_iconst (q := 48) (v := 0) hC dX12_isQuestion_47 rfl (by decide) ?_
          refine v_iret hC dX12_isQuestion_48 hr (by first | rfl | exact nar_b) ?_ (Nat.le_of_ble_eq_true rfl) (Nat.le_of_ble_eq_true rfl)
          first
            | exact isq_fin (x := 0) (b := true) (by simp_all [mQc, ms_row]) rfl
            | exact isq_fin (x := 1) (b := false) (by simp_all [mQc, ms_row]) rfl
            | exact isq_fin (x := 2) (b := false) (by simp_all [mQc, ms_row]) rfl
      · first
        | exact absurd c_40 (by decide)
        |
          refine v_iconst (q := 44) (v := 1) hC dX12_isQuestion_43 rfl (by decide) ?_
          refine v_goto (q := 48) hC dX12_isQuestion_44 (by decide) ?_
          refine v_iret hC dX12_isQuestion_48 hr (by first | rfl | exact nar_b) ?_ (Nat.le_of_ble_eq_true rfl) (Nat.le_of_ble_eq_true rfl)
          first
            | exact isq_fin (x := 0) (b := true) (by simp_all [mQc, ms_row]) rfl
            | exact isq_fin (x := 1) (b := false) (by simp_all [mQc, ms_row]) rfl
            | exact isq_fin (x := 2) (b := false) (by simp_all [mQc, ms_row]) rfl
theorem deq0 {x : Int32} (h : decide (x = 0) = true) : x = 0 := of_decide_eq_true h
theorem dne0 {x : Int32} (h : decide (x = 0) = false) : ¬ x = 0 := of_decide_eq_false h
set_option maxHeartbeats 4000000 in
set_option maxRecDepth 20000 in
theorem c_X12_isAllowed {l : Launch} (hl : l.stackTraces = false) (Θ : cTH) (u o r : Int32) (G : GS) (hm : mInv G) : Ct l yX12_isAllowed cX12_isAllowed 4 (some .boolean) rm_X12_isAllowed Θ [.ref (tR Θ 0 29), .int u, .int o, .int r] (G) (mQ3 u o r (fR (some (.int (b2i (mAl (G.2.1 0 30) u o.toNatClampNeg r)))) (ms 0 G)) G) := by
  refine ct_of (LS := [some (.ref (tR Θ 0 29)), some (.int u), some (.int o), some (.int r)]) hl (by decide +kernel) rfl (Nat.le_of_ble_eq_true rfl) rfl ?_
  intro p e s m args below meth c hC hr
  refine v_aload_n (i := 0) (q := 1) hC dX12_isAllowed_0 rfl rfl rfl ?_
  refine v_iload_n (i := 1) (q := 2) hC dX12_isAllowed_1 rfl rfl rfl ?_
  refine v_iload_n (i := 2) (q := 3) hC dX12_isAllowed_2 rfl rfl rfl ?_
  refine v_iload_n (i := 3) (q := 4) hC dX12_isAllowed_3 rfl rfl rfl ?_
  refine v_callV (q := 7) (rm := rm_X12_isQuestion) hC (c_X12_isQuestion hl Θ _ _ _ _) k_X12_isQuestion im_yX12_isQuestion se_yX12_isQuestion ml_RX12_221 dX12_isAllowed_4 rfl rfl rfl rfl rfl rfl (Nat.le_of_ble_eq_true rfl) ⟨Nat.le_of_ble_eq_true rfl, Nat.le_of_ble_eq_true rfl⟩ ⟨Nat.le_of_ble_eq_true rfl, Nat.le_of_ble_eq_true rfl⟩ (fR_k ?_) fR_x (Nat.le_of_ble_eq_true rfl) (Nat.le_of_ble_eq_true rfl)
  try dsimp only [Option.toList, List.cons_append, List.nil_append]
  refine v_ifb_eq (q := 24) (q2 := 10) hC dX12_isAllowed_7 (by decide) rfl (fun c_7 => ?_) (fun c_7 => ?_)
  · refine v_iconst (q := 25) (v := 0) hC dX12_isAllowed_24 rfl (by decide) ?_
    refine v_iret hC dX12_isAllowed_25 hr (by first | rfl | exact nar_b) ?_ (Nat.le_of_ble_eq_true rfl) (Nat.le_of_ble_eq_true rfl)
    first | exact mQ3_f (dne0 c_7) | exact ⟨by rw [show mAl (G.2.1 0 30) u j r = _ from c_17]; rfl, rfl⟩
  · obtain ⟨g0, ⟨g1, g2⟩, g3⟩ := mQ3_t (X := fR (some (.int (b2i (mAl (G.2.1 0 30) u o.toNatClampNeg r)))) (ms 0 G)) (G := G) (deq0 c_7)
    rw [g0, deq0 c_7]
    obtain ⟨j, hj, rfl⟩ := mHold_nI g2
    rw [nI_clamp (show j < 2 ^ 31 by omega)]
    refine v_aload_n (i := 0) (q := 11) hC dX12_isAllowed_10 rfl rfl rfl ?_
    refine v_iload_n (i := 1) (q := 12) hC dX12_isAllowed_11 rfl rfl rfl ?_
    refine v_iload_n (i := 2) (q := 13) hC dX12_isAllowed_12 rfl rfl rfl ?_
    refine v_iload_n (i := 3) (q := 14) hC dX12_isAllowed_13 rfl rfl rfl ?_
    refine v_callV (q := 17) (rm := rm_X12_allows) hC (c_X12_allows hl Θ _ j _ _ hm.2 hj) k_X12_allows im_yX12_allows se_yX12_allows ml_RX12_150 dX12_isAllowed_14 rfl rfl rfl rfl rfl rfl (Nat.le_of_ble_eq_true rfl) ⟨Nat.le_of_ble_eq_true rfl, Nat.le_of_ble_eq_true rfl⟩ ⟨Nat.le_of_ble_eq_true rfl, Nat.le_of_ble_eq_true rfl⟩ (fR_k ?_) fR_x (Nat.le_of_ble_eq_true rfl) (Nat.le_of_ble_eq_true rfl)
    try dsimp only [Option.toList, List.cons_append, List.nil_append]
    refine v_ifb_eq (q := 24) (q2 := 20) hC dX12_isAllowed_17 (by decide) rfl (fun c_17 => ?_) (fun c_17 => ?_)
    · refine v_iconst (q := 25) (v := 0) hC dX12_isAllowed_24 rfl (by decide) ?_
      refine v_iret hC dX12_isAllowed_25 hr (by first | rfl | exact nar_b) ?_ (Nat.le_of_ble_eq_true rfl) (Nat.le_of_ble_eq_true rfl)
      first | exact mQ3_f (dne0 c_7) | exact ⟨by rw [show mAl (G.2.1 0 30) u j r = _ from c_17]; rfl, rfl⟩
    · refine v_iconst (q := 21) (v := 1) hC dX12_isAllowed_20 rfl (by decide) ?_
      refine v_goto (q := 25) hC dX12_isAllowed_21 (by decide) ?_
      refine v_iret hC dX12_isAllowed_25 hr (by first | rfl | exact nar_b) ?_ (Nat.le_of_ble_eq_true rfl) (Nat.le_of_ble_eq_true rfl)
      first | exact mQ3_f (dne0 c_7) | exact ⟨by rw [show mAl (G.2.1 0 30) u j r = _ from c_17]; rfl, rfl⟩
set_option maxHeartbeats 4000000 in
set_option maxRecDepth 20000 in
theorem c_X12_isAllowedByHandingDown {l : Launch} (hl : l.stackTraces = false) (Θ : cTH) (u o r : Int32) (G : GS) (hm : mInv G) : Ct l yX12_isAllowedByHandingDown cX12_isAllowedByHandingDown 4 (some .boolean) rm_X12_isAllowedByHandingDown Θ [.ref (tR Θ 0 29), .int u, .int o, .int r] (G) (mQ3 u o r (fR (some (.int (b2i (mAl (G.2.1 0 30) u o.toNatClampNeg r)))) (ms 0 G)) G) := by
  refine ct_of (LS := [some (.ref (tR Θ 0 29)), some (.int u), some (.int o), some (.int r)]) hl (by decide +kernel) rfl (Nat.le_of_ble_eq_true rfl) rfl ?_
  intro p e s m args below meth c hC hr
  refine v_aload_n (i := 0) (q := 1) hC dX12_isAllowedByHandingDown_0 rfl rfl rfl ?_
  refine v_iload_n (i := 1) (q := 2) hC dX12_isAllowedByHandingDown_1 rfl rfl rfl ?_
  refine v_iload_n (i := 2) (q := 3) hC dX12_isAllowedByHandingDown_2 rfl rfl rfl ?_
  refine v_iload_n (i := 3) (q := 4) hC dX12_isAllowedByHandingDown_3 rfl rfl rfl ?_
  refine v_callV (q := 7) (rm := rm_X12_isQuestion) hC (c_X12_isQuestion hl Θ _ _ _ _) k_X12_isQuestion im_yX12_isQuestion se_yX12_isQuestion ml_RX12_221 dX12_isAllowedByHandingDown_4 rfl rfl rfl rfl rfl rfl (Nat.le_of_ble_eq_true rfl) ⟨Nat.le_of_ble_eq_true rfl, Nat.le_of_ble_eq_true rfl⟩ ⟨Nat.le_of_ble_eq_true rfl, Nat.le_of_ble_eq_true rfl⟩ (fR_k ?_) fR_x (Nat.le_of_ble_eq_true rfl) (Nat.le_of_ble_eq_true rfl)
  try dsimp only [Option.toList, List.cons_append, List.nil_append]
  refine v_ifb_eq (q := 24) (q2 := 10) hC dX12_isAllowedByHandingDown_7 (by decide) rfl (fun c_7 => ?_) (fun c_7 => ?_)
  · refine v_iconst (q := 25) (v := 0) hC dX12_isAllowedByHandingDown_24 rfl (by decide) ?_
    refine v_iret hC dX12_isAllowedByHandingDown_25 hr (by first | rfl | exact nar_b) ?_ (Nat.le_of_ble_eq_true rfl) (Nat.le_of_ble_eq_true rfl)
    first | exact mQ3_f (dne0 c_7) | exact ⟨by rw [show mAl (G.2.1 0 30) u j r = _ from c_17]; rfl, rfl⟩
  · obtain ⟨g0, ⟨g1, g2⟩, g3⟩ := mQ3_t (X := fR (some (.int (b2i (mAl (G.2.1 0 30) u o.toNatClampNeg r)))) (ms 0 G)) (G := G) (deq0 c_7)
    rw [g0, deq0 c_7]
    obtain ⟨j, hj, rfl⟩ := mHold_nI g2
    rw [nI_clamp (show j < 2 ^ 31 by omega)]
    refine v_aload_n (i := 0) (q := 11) hC dX12_isAllowedByHandingDown_10 rfl rfl rfl ?_
    refine v_iload_n (i := 1) (q := 12) hC dX12_isAllowedByHandingDown_11 rfl rfl rfl ?_
    refine v_iload_n (i := 2) (q := 13) hC dX12_isAllowedByHandingDown_12 rfl rfl rfl ?_
    refine v_iload_n (i := 3) (q := 14) hC dX12_isAllowedByHandingDown_13 rfl rfl rfl ?_
    refine v_callV (q := 17) (rm := rm_X12_allows) hC (c_X12_allows hl Θ _ j _ _ hm.2 hj) k_X12_allows im_yX12_allows se_yX12_allows ml_RX12_150 dX12_isAllowedByHandingDown_14 rfl rfl rfl rfl rfl rfl (Nat.le_of_ble_eq_true rfl) ⟨Nat.le_of_ble_eq_true rfl, Nat.le_of_ble_eq_true rfl⟩ ⟨Nat.le_of_ble_eq_true rfl, Nat.le_of_ble_eq_true rfl⟩ (fR_k ?_) fR_x (Nat.le_of_ble_eq_true rfl) (Nat.le_of_ble_eq_true rfl)
    try dsimp only [Option.toList, List.cons_append, List.nil_append]
    refine v_ifb_eq (q := 24) (q2 := 20) hC dX12_isAllowedByHandingDown_17 (by decide) rfl (fun c_17 => ?_) (fun c_17 => ?_)
    · refine v_iconst (q := 25) (v := 0) hC dX12_isAllowedByHandingDown_24 rfl (by decide) ?_
      refine v_iret hC dX12_isAllowedByHandingDown_25 hr (by first | rfl | exact nar_b) ?_ (Nat.le_of_ble_eq_true rfl) (Nat.le_of_ble_eq_true rfl)
      first | exact mQ3_f (dne0 c_7) | exact ⟨by rw [show mAl (G.2.1 0 30) u j r = _ from c_17]; rfl, rfl⟩
    · refine v_iconst (q := 21) (v := 1) hC dX12_isAllowedByHandingDown_20 rfl (by decide) ?_
      refine v_goto (q := 25) hC dX12_isAllowedByHandingDown_21 (by decide) ?_
      refine v_iret hC dX12_isAllowedByHandingDown_25 hr (by first | rfl | exact nar_b) ?_ (Nat.le_of_ble_eq_true rfl) (Nat.le_of_ble_eq_true rfl)
      first | exact mQ3_f (dne0 c_7) | exact ⟨by rw [show mAl (G.2.1 0 30) u j r = _ from c_17]; rfl, rfl⟩
set_option maxHeartbeats 4000000 in
set_option maxRecDepth 20000 in
theorem c_X12_decidingObject {l : Launch} (hl : l.stackTraces = false) (Θ : cTH) (u o r : Int32) (G : GS) (hm : mInv G) : Ct l yX12_decidingObject cX12_decidingObject 5 (some .int) rm_X12_decidingObject Θ [.ref (tR Θ 0 29), .int u, .int o, .int r] (G) (mQ3 u o r (fR (some (.int (if mDec (G.2.1 0 30) u o.toNatClampNeg r < 0 then -1 else mDec (G.2.1 0 30) u o.toNatClampNeg r / 6))) (ms 0 G)) G) := by
  refine ct_of (LS := [some (.ref (tR Θ 0 29)), some (.int u), some (.int o), some (.int r), none]) hl (by decide +kernel) rfl (Nat.le_of_ble_eq_true rfl) rfl ?_
  intro p e s m args below meth c hC hr
  have L1 : ∀ (j : Nat) (y : Int32), V p l e rm_X12_decidingObject s m args below meth c 5 Θ (fR (some (.int (if y < 0 then -1 else y / 6))) (ms 0 G)) rm_X12_decidingObject.cells rm_X12_decidingObject.slots 0 0 21 [some (.ref (tR Θ 0 29)), some (.int u), some (.int (nI j)), some (.int r), none] [.int y] (ms 0 G) := by
    intro j y
    refine v_istore (q := 23) hC dX12_decidingObject_21 rfl (lvc rfl) (Nat.le_of_ble_eq_true rfl) (Nat.le_of_ble_eq_true rfl) rfl ?_
    refine v_aload_n (i := 0) (q := 24) hC dX12_decidingObject_23 rfl rfl rfl ?_
    refine gm_last (q := 27) hC dX12_decidingObject_24 rfl rfl fl_RX12_39 ?_
    refine v_if_le (q := 34) (q2 := 30) hC dX12_decidingObject_27 (by decide) rfl (fun c_27 => ?_) (fun c_27 => ?_)
    · first
      | exact absurd c_27 (by decide)
      |
        refine v_iload (q := 36) hC dX12_decidingObject_34 rfl rfl ?_
        refine v_if_ge (q := 43) (q2 := 39) hC dX12_decidingObject_36 (by decide) rfl (fun c_36 => ?_) (fun c_36 => ?_)
        · refine v_iload (q := 45) hC dX12_decidingObject_43 rfl rfl ?_
          refine v_bipush (q := 47) (v := 6) hC dX12_decidingObject_45 rfl (by decide) ?_
          refine v_idiv (q := 48) hC dX12_decidingObject_47 rfl (by decide) ?_
          refine v_iret hC dX12_decidingObject_48 hr (rfl) ?_ (Nat.le_of_ble_eq_true rfl) (Nat.le_of_ble_eq_true rfl)
          refine ⟨?_, rfl⟩
          first | (rw [if_neg (Int32.not_lt.mpr c_36)]) | (rw [if_pos (Int32.not_le.mp c_36)])
        · refine v_iconst (q := 40) (v := (-1)) hC dX12_decidingObject_39 rfl (by decide) ?_
          refine v_goto (q := 48) hC dX12_decidingObject_40 (by decide) ?_
          refine v_iret hC dX12_decidingObject_48 hr (rfl) ?_ (Nat.le_of_ble_eq_true rfl) (Nat.le_of_ble_eq_true rfl)
          refine ⟨?_, rfl⟩
          first | (rw [if_neg (Int32.not_lt.mpr c_36)]) | (rw [if_pos (Int32.not_le.mp c_36)])
    · first
      | exact absurd c_27 (by decide)
      |
        refine v_iconst (q := 31) (v := 0) hC dX12_decidingObject_30 rfl (by decide) ?_
        refine v_goto (q := 48) hC dX12_decidingObject_31 (by decide) ?_
        refine v_iret hC dX12_decidingObject_48 hr (rfl) ?_ (Nat.le_of_ble_eq_true rfl) (Nat.le_of_ble_eq_true rfl)
        refine ⟨?_, rfl⟩
        first | (rw [if_neg (Int32.not_lt.mpr c_36)]) | (rw [if_pos (Int32.not_le.mp c_36)])
  have L0 : ∀ (x : Int32), 0 < x → mQ3 u o r (fR (some (.int (if mDec (G.2.1 0 30) u o.toNatClampNeg r < 0 then -1 else mDec (G.2.1 0 30) u o.toNatClampNeg r / 6))) (ms 0 G)) G (.inl (some (.int 0))) (ms x G) → V p l e rm_X12_decidingObject s m args below meth c 5 Θ (mQ3 u o r (fR (some (.int (if mDec (G.2.1 0 30) u o.toNatClampNeg r < 0 then -1 else mDec (G.2.1 0 30) u o.toNatClampNeg r / 6))) (ms 0 G)) G) rm_X12_decidingObject.cells rm_X12_decidingObject.slots 0 0 21 [some (.ref (tR Θ 0 29)), some (.int u), some (.int o), some (.int r), none] [.int 0] (ms x G) := by
    intro x hx hq
    refine v_istore (q := 23) hC dX12_decidingObject_21 rfl (lvc rfl) (Nat.le_of_ble_eq_true rfl) (Nat.le_of_ble_eq_true rfl) rfl ?_
    refine v_aload_n (i := 0) (q := 24) hC dX12_decidingObject_23 rfl rfl rfl ?_
    refine gm_last (q := 27) hC dX12_decidingObject_24 rfl rfl fl_RX12_39 ?_
    refine v_if_le (q := 34) (q2 := 30) hC dX12_decidingObject_27 (by decide) rfl (fun c_27 => ?_) (fun c_27 => ?_)
    · exact absurd c_27 (Int32.not_le.mpr hx)
    · refine v_iconst (q := 31) (v := 0) hC dX12_decidingObject_30 rfl (by decide) ?_
      refine v_goto (q := 48) hC dX12_decidingObject_31 (by decide) ?_
      refine v_iret hC dX12_decidingObject_48 hr (rfl) ?_ (Nat.le_of_ble_eq_true rfl) (Nat.le_of_ble_eq_true rfl)
      exact hq
  refine v_aload_n (i := 0) (q := 1) hC dX12_decidingObject_0 rfl rfl rfl ?_
  refine v_iload_n (i := 1) (q := 2) hC dX12_decidingObject_1 rfl rfl rfl ?_
  refine v_iload_n (i := 2) (q := 3) hC dX12_decidingObject_2 rfl rfl rfl ?_
  refine v_iload_n (i := 3) (q := 4) hC dX12_decidingObject_3 rfl rfl rfl ?_
  refine v_callV (q := 7) (rm := rm_X12_isQuestion) hC (c_X12_isQuestion hl Θ _ _ _ _) k_X12_isQuestion im_yX12_isQuestion se_yX12_isQuestion ml_RX12_221 dX12_decidingObject_4 rfl rfl rfl rfl rfl rfl (Nat.le_of_ble_eq_true rfl) ⟨Nat.le_of_ble_eq_true rfl, Nat.le_of_ble_eq_true rfl⟩ ⟨Nat.le_of_ble_eq_true rfl, Nat.le_of_ble_eq_true rfl⟩ (fR_k ?_) fR_x (Nat.le_of_ble_eq_true rfl) (Nat.le_of_ble_eq_true rfl)
  try dsimp only [Option.toList, List.cons_append, List.nil_append]
  refine v_ifb_eq (q := 20) (q2 := 10) hC dX12_decidingObject_7 (by decide) rfl (fun c_7 => ?_) (fun c_7 => ?_)
  · refine v_iconst (q := 21) (v := 0) hC dX12_decidingObject_20 rfl (by decide) ?_
    first
      | exact L1 _ _
      | exact L0 _ (by rcases mQc_cases (w := G.2.1 0 30) (u := u) (o := o) (r := r) with z | z | z
                       · exact absurd z (dne0 c_7)
                       · rw [z]; decide
                       · rw [z]; decide) (mQ3_f (dne0 c_7))
  · obtain ⟨g0, ⟨g1, g2⟩, g3⟩ := mQ3_t (X := fR (some (.int (if mDec (G.2.1 0 30) u o.toNatClampNeg r < 0 then -1 else mDec (G.2.1 0 30) u o.toNatClampNeg r / 6))) (ms 0 G)) (G := G) (deq0 c_7)
    rw [g0, deq0 c_7]
    obtain ⟨j, hj, rfl⟩ := mHold_nI g2
    rw [nI_clamp (show j < 2 ^ 31 by omega)]
    refine v_aload_n (i := 0) (q := 11) hC dX12_decidingObject_10 rfl rfl rfl ?_
    refine v_iload_n (i := 1) (q := 12) hC dX12_decidingObject_11 rfl rfl rfl ?_
    refine v_iload_n (i := 2) (q := 13) hC dX12_decidingObject_12 rfl rfl rfl ?_
    refine v_iload_n (i := 3) (q := 14) hC dX12_decidingObject_13 rfl rfl rfl ?_
    refine v_callV (q := 17) (rm := rm_X12_decides) hC (c_X12_decides hl Θ _ j _ _ hm.2 hj) k_X12_decides im_yX12_decides se_yX12_decides ml_RX12_144 dX12_decidingObject_14 rfl rfl rfl rfl rfl rfl (Nat.le_of_ble_eq_true rfl) ⟨Nat.le_of_ble_eq_true rfl, Nat.le_of_ble_eq_true rfl⟩ ⟨Nat.le_of_ble_eq_true rfl, Nat.le_of_ble_eq_true rfl⟩ (fR_k ?_) fR_x (Nat.le_of_ble_eq_true rfl) (Nat.le_of_ble_eq_true rfl)
    try dsimp only [Option.toList, List.cons_append, List.nil_append]
    refine v_goto (q := 21) hC dX12_decidingObject_17 (by decide) ?_
    first
      | exact L1 _ _
      | exact L0 _ (by rcases mQc_cases (w := G.2.1 0 30) (u := u) (o := o) (r := r) with z | z | z
                       · exact absurd z (dne0 c_7)
                       · rw [z]; decide
                       · rw [z]; decide) (mQ3_f (dne0 c_7))
set_option maxHeartbeats 4000000 in
set_option maxRecDepth 20000 in
theorem c_X12_decidingEntry {l : Launch} (hl : l.stackTraces = false) (Θ : cTH) (u o r : Int32) (G : GS) (hm : mInv G) : Ct l yX12_decidingEntry cX12_decidingEntry 5 (some .int) rm_X12_decidingEntry Θ [.ref (tR Θ 0 29), .int u, .int o, .int r] (G) (mQ3 u o r (fR (some (.int (if mDec (G.2.1 0 30) u o.toNatClampNeg r < 0 then -1 else mDec (G.2.1 0 30) u o.toNatClampNeg r - (mDec (G.2.1 0 30) u o.toNatClampNeg r / 6) * 6))) (ms 0 G)) G) := by
  refine ct_of (LS := [some (.ref (tR Θ 0 29)), some (.int u), some (.int o), some (.int r), none]) hl (by decide +kernel) rfl (Nat.le_of_ble_eq_true rfl) rfl ?_
  intro p e s m args below meth c hC hr
  have L1 : ∀ (j : Nat) (y : Int32), V p l e rm_X12_decidingEntry s m args below meth c 5 Θ (fR (some (.int (if y < 0 then -1 else y - (y / 6) * 6))) (ms 0 G)) rm_X12_decidingEntry.cells rm_X12_decidingEntry.slots 0 0 21 [some (.ref (tR Θ 0 29)), some (.int u), some (.int (nI j)), some (.int r), none] [.int y] (ms 0 G) := by
    intro j y
    refine v_istore (q := 23) hC dX12_decidingEntry_21 rfl (lvc rfl) (Nat.le_of_ble_eq_true rfl) (Nat.le_of_ble_eq_true rfl) rfl ?_
    refine v_aload_n (i := 0) (q := 24) hC dX12_decidingEntry_23 rfl rfl rfl ?_
    refine gm_last (q := 27) hC dX12_decidingEntry_24 rfl rfl fl_RX12_39 ?_
    refine v_if_le (q := 34) (q2 := 30) hC dX12_decidingEntry_27 (by decide) rfl (fun c_27 => ?_) (fun c_27 => ?_)
    · first
      | exact absurd c_27 (by decide)
      |
        refine v_iload (q := 36) hC dX12_decidingEntry_34 rfl rfl ?_
        refine v_if_ge (q := 43) (q2 := 39) hC dX12_decidingEntry_36 (by decide) rfl (fun c_36 => ?_) (fun c_36 => ?_)
        · refine v_iload (q := 45) hC dX12_decidingEntry_43 rfl rfl ?_
          refine v_bipush (q := 47) (v := 6) hC dX12_decidingEntry_45 rfl (by decide) ?_
          refine v_irem (q := 48) hC dX12_decidingEntry_47 rfl (by decide) ?_
          refine v_iret hC dX12_decidingEntry_48 hr (rfl) ?_ (Nat.le_of_ble_eq_true rfl) (Nat.le_of_ble_eq_true rfl)
          refine ⟨?_, rfl⟩
          first | (rw [if_neg (Int32.not_lt.mpr c_36)]) | (rw [if_pos (Int32.not_le.mp c_36)])
        · refine v_iconst (q := 40) (v := (-1)) hC dX12_decidingEntry_39 rfl (by decide) ?_
          refine v_goto (q := 48) hC dX12_decidingEntry_40 (by decide) ?_
          refine v_iret hC dX12_decidingEntry_48 hr (rfl) ?_ (Nat.le_of_ble_eq_true rfl) (Nat.le_of_ble_eq_true rfl)
          refine ⟨?_, rfl⟩
          first | (rw [if_neg (Int32.not_lt.mpr c_36)]) | (rw [if_pos (Int32.not_le.mp c_36)])
    · first
      | exact absurd c_27 (by decide)
      |
        refine v_iconst (q := 31) (v := 0) hC dX12_decidingEntry_30 rfl (by decide) ?_
        refine v_goto (q := 48) hC dX12_decidingEntry_31 (by decide) ?_
        refine v_iret hC dX12_decidingEntry_48 hr (rfl) ?_ (Nat.le_of_ble_eq_true rfl) (Nat.le_of_ble_eq_true rfl)
        refine ⟨?_, rfl⟩
        first | (rw [if_neg (Int32.not_lt.mpr c_36)]) | (rw [if_pos (Int32.not_le.mp c_36)])
  have L0 : ∀ (x : Int32), 0 < x → mQ3 u o r (fR (some (.int (if mDec (G.2.1 0 30) u o.toNatClampNeg r < 0 then -1 else mDec (G.2.1 0 30) u o.toNatClampNeg r - (mDec (G.2.1 0 30) u o.toNatClampNeg r / 6) * 6))) (ms 0 G)) G (.inl (some (.int 0))) (ms x G) → V p l e rm_X12_decidingEntry s m args below meth c 5 Θ (mQ3 u o r (fR (some (.int (if mDec (G.2.1 0 30) u o.toNatClampNeg r < 0 then -1 else mDec (G.2.1 0 30) u o.toNatClampNeg r - (mDec (G.2.1 0 30) u o.toNatClampNeg r / 6) * 6))) (ms 0 G)) G) rm_X12_decidingEntry.cells rm_X12_decidingEntry.slots 0 0 21 [some (.ref (tR Θ 0 29)), some (.int u), some (.int o), some (.int r), none] [.int 0] (ms x G) := by
    intro x hx hq
    refine v_istore (q := 23) hC dX12_decidingEntry_21 rfl (lvc rfl) (Nat.le_of_ble_eq_true rfl) (Nat.le_of_ble_eq_true rfl) rfl ?_
    refine v_aload_n (i := 0) (q := 24) hC dX12_decidingEntry_23 rfl rfl rfl ?_
    refine gm_last (q := 27) hC dX12_decidingEntry_24 rfl rfl fl_RX12_39 ?_
    refine v_if_le (q := 34) (q2 := 30) hC dX12_decidingEntry_27 (by decide) rfl (fun c_27 => ?_) (fun c_27 => ?_)
    · exact absurd c_27 (Int32.not_le.mpr hx)
    · refine v_iconst (q := 31) (v := 0) hC dX12_decidingEntry_30 rfl (by decide) ?_
      refine v_goto (q := 48) hC dX12_decidingEntry_31 (by decide) ?_
      refine v_iret hC dX12_decidingEntry_48 hr (rfl) ?_ (Nat.le_of_ble_eq_true rfl) (Nat.le_of_ble_eq_true rfl)
      exact hq
  refine v_aload_n (i := 0) (q := 1) hC dX12_decidingEntry_0 rfl rfl rfl ?_
  refine v_iload_n (i := 1) (q := 2) hC dX12_decidingEntry_1 rfl rfl rfl ?_
  refine v_iload_n (i := 2) (q := 3) hC dX12_decidingEntry_2 rfl rfl rfl ?_
  refine v_iload_n (i := 3) (q := 4) hC dX12_decidingEntry_3 rfl rfl rfl ?_
  refine v_callV (q := 7) (rm := rm_X12_isQuestion) hC (c_X12_isQuestion hl Θ _ _ _ _) k_X12_isQuestion im_yX12_isQuestion se_yX12_isQuestion ml_RX12_221 dX12_decidingEntry_4 rfl rfl rfl rfl rfl rfl (Nat.le_of_ble_eq_true rfl) ⟨Nat.le_of_ble_eq_true rfl, Nat.le_of_ble_eq_true rfl⟩ ⟨Nat.le_of_ble_eq_true rfl, Nat.le_of_ble_eq_true rfl⟩ (fR_k ?_) fR_x (Nat.le_of_ble_eq_true rfl) (Nat.le_of_ble_eq_true rfl)
  try dsimp only [Option.toList, List.cons_append, List.nil_append]
  refine v_ifb_eq (q := 20) (q2 := 10) hC dX12_decidingEntry_7 (by decide) rfl (fun c_7 => ?_) (fun c_7 => ?_)
  · refine v_iconst (q := 21) (v := 0) hC dX12_decidingEntry_20 rfl (by decide) ?_
    first
      | exact L1 _ _
      | exact L0 _ (by rcases mQc_cases (w := G.2.1 0 30) (u := u) (o := o) (r := r) with z | z | z
                       · exact absurd z (dne0 c_7)
                       · rw [z]; decide
                       · rw [z]; decide) (mQ3_f (dne0 c_7))
  · obtain ⟨g0, ⟨g1, g2⟩, g3⟩ := mQ3_t (X := fR (some (.int (if mDec (G.2.1 0 30) u o.toNatClampNeg r < 0 then -1 else mDec (G.2.1 0 30) u o.toNatClampNeg r - (mDec (G.2.1 0 30) u o.toNatClampNeg r / 6) * 6))) (ms 0 G)) (G := G) (deq0 c_7)
    rw [g0, deq0 c_7]
    obtain ⟨j, hj, rfl⟩ := mHold_nI g2
    rw [nI_clamp (show j < 2 ^ 31 by omega)]
    refine v_aload_n (i := 0) (q := 11) hC dX12_decidingEntry_10 rfl rfl rfl ?_
    refine v_iload_n (i := 1) (q := 12) hC dX12_decidingEntry_11 rfl rfl rfl ?_
    refine v_iload_n (i := 2) (q := 13) hC dX12_decidingEntry_12 rfl rfl rfl ?_
    refine v_iload_n (i := 3) (q := 14) hC dX12_decidingEntry_13 rfl rfl rfl ?_
    refine v_callV (q := 17) (rm := rm_X12_decides) hC (c_X12_decides hl Θ _ j _ _ hm.2 hj) k_X12_decides im_yX12_decides se_yX12_decides ml_RX12_144 dX12_decidingEntry_14 rfl rfl rfl rfl rfl rfl (Nat.le_of_ble_eq_true rfl) ⟨Nat.le_of_ble_eq_true rfl, Nat.le_of_ble_eq_true rfl⟩ ⟨Nat.le_of_ble_eq_true rfl, Nat.le_of_ble_eq_true rfl⟩ (fR_k ?_) fR_x (Nat.le_of_ble_eq_true rfl) (Nat.le_of_ble_eq_true rfl)
    try dsimp only [Option.toList, List.cons_append, List.nil_append]
    refine v_goto (q := 21) hC dX12_decidingEntry_17 (by decide) ?_
    first
      | exact L1 _ _
      | exact L0 _ (by rcases mQc_cases (w := G.2.1 0 30) (u := u) (o := o) (r := r) with z | z | z
                       · exact absurd z (dne0 c_7)
                       · rw [z]; decide
                       · rw [z]; decide) (mQ3_f (dne0 c_7))
set_option maxHeartbeats 4000000 in
set_option maxRecDepth 20000 in
theorem c_X12_isStoppedByMask {l : Launch} (hl : l.stackTraces = false) (Θ : cTH) (u o r : Int32) (G : GS) (hm : mInv G) : Ct l yX12_isStoppedByMask cX12_isStoppedByMask 4 (some .boolean) rm_X12_isStoppedByMask Θ [.ref (tR Θ 0 29), .int u, .int o, .int r] (G) (mQ3 u o r (fR (some (.int (b2i (!mAl (G.2.1 0 30) u o.toNatClampNeg r && mByL (G.2.1 0 30) u o.toNatClampNeg r)))) (ms 0 G)) G) := by
  refine ct_of (LS := [some (.ref (tR Θ 0 29)), some (.int u), some (.int o), some (.int r)]) hl (by decide +kernel) rfl (Nat.le_of_ble_eq_true rfl) rfl ?_
  intro p e s m args below meth c hC hr
  refine v_aload_n (i := 0) (q := 1) hC dX12_isStoppedByMask_0 rfl rfl rfl ?_
  refine v_iload_n (i := 1) (q := 2) hC dX12_isStoppedByMask_1 rfl rfl rfl ?_
  refine v_iload_n (i := 2) (q := 3) hC dX12_isStoppedByMask_2 rfl rfl rfl ?_
  refine v_iload_n (i := 3) (q := 4) hC dX12_isStoppedByMask_3 rfl rfl rfl ?_
  refine v_callV (q := 7) (rm := rm_X12_isQuestion) hC (c_X12_isQuestion hl Θ _ _ _ _) k_X12_isQuestion im_yX12_isQuestion se_yX12_isQuestion ml_RX12_221 dX12_isStoppedByMask_4 rfl rfl rfl rfl rfl rfl (Nat.le_of_ble_eq_true rfl) ⟨Nat.le_of_ble_eq_true rfl, Nat.le_of_ble_eq_true rfl⟩ ⟨Nat.le_of_ble_eq_true rfl, Nat.le_of_ble_eq_true rfl⟩ (fR_k ?_) fR_x (Nat.le_of_ble_eq_true rfl) (Nat.le_of_ble_eq_true rfl)
  try dsimp only [Option.toList, List.cons_append, List.nil_append]
  refine v_ifb_eq (q := 34) (q2 := 10) hC dX12_isStoppedByMask_7 (by decide) rfl (fun c_7 => ?_) (fun c_7 => ?_)
  · refine v_iconst (q := 35) (v := 0) hC dX12_isStoppedByMask_34 rfl (by decide) ?_
    refine v_iret hC dX12_isStoppedByMask_35 hr (by first | rfl | exact nar_b) ?_ (Nat.le_of_ble_eq_true rfl) (Nat.le_of_ble_eq_true rfl)
    first | exact mQ3_f (dne0 c_7) | exact ⟨by rw [show mAl (G.2.1 0 30) u j r = _ from c_17]; rfl, rfl⟩ | exact ⟨by rw [show mAl (G.2.1 0 30) u j r = _ from c_17, show mByL (G.2.1 0 30) u j r = _ from c_27]; rfl, rfl⟩
  · obtain ⟨g0, ⟨g1, g2⟩, g3⟩ := mQ3_t (X := fR (some (.int (b2i (!mAl (G.2.1 0 30) u o.toNatClampNeg r && mByL (G.2.1 0 30) u o.toNatClampNeg r)))) (ms 0 G)) (G := G) (deq0 c_7)
    rw [g0, deq0 c_7]
    obtain ⟨j, hj, rfl⟩ := mHold_nI g2
    rw [nI_clamp (show j < 2 ^ 31 by omega)]
    refine v_aload_n (i := 0) (q := 11) hC dX12_isStoppedByMask_10 rfl rfl rfl ?_
    refine v_iload_n (i := 1) (q := 12) hC dX12_isStoppedByMask_11 rfl rfl rfl ?_
    refine v_iload_n (i := 2) (q := 13) hC dX12_isStoppedByMask_12 rfl rfl rfl ?_
    refine v_iload_n (i := 3) (q := 14) hC dX12_isStoppedByMask_13 rfl rfl rfl ?_
    refine v_callV (q := 17) (rm := rm_X12_allows) hC (c_X12_allows hl Θ _ j _ _ hm.2 hj) k_X12_allows im_yX12_allows se_yX12_allows ml_RX12_150 dX12_isStoppedByMask_14 rfl rfl rfl rfl rfl rfl (Nat.le_of_ble_eq_true rfl) ⟨Nat.le_of_ble_eq_true rfl, Nat.le_of_ble_eq_true rfl⟩ ⟨Nat.le_of_ble_eq_true rfl, Nat.le_of_ble_eq_true rfl⟩ (fR_k ?_) fR_x (Nat.le_of_ble_eq_true rfl) (Nat.le_of_ble_eq_true rfl)
    try dsimp only [Option.toList, List.cons_append, List.nil_append]
    refine v_ifb_ne (q := 34) (q2 := 20) hC dX12_isStoppedByMask_17 (by decide) rfl (fun c_17 => ?_) (fun c_17 => ?_)
    · refine v_iconst (q := 35) (v := 0) hC dX12_isStoppedByMask_34 rfl (by decide) ?_
      refine v_iret hC dX12_isStoppedByMask_35 hr (by first | rfl | exact nar_b) ?_ (Nat.le_of_ble_eq_true rfl) (Nat.le_of_ble_eq_true rfl)
      first | exact mQ3_f (dne0 c_7) | exact ⟨by rw [show mAl (G.2.1 0 30) u j r = _ from c_17]; rfl, rfl⟩ | exact ⟨by rw [show mAl (G.2.1 0 30) u j r = _ from c_17, show mByL (G.2.1 0 30) u j r = _ from c_27]; rfl, rfl⟩
    · refine v_aload_n (i := 0) (q := 21) hC dX12_isStoppedByMask_20 rfl rfl rfl ?_
      refine v_iload_n (i := 1) (q := 22) hC dX12_isStoppedByMask_21 rfl rfl rfl ?_
      refine v_iload_n (i := 2) (q := 23) hC dX12_isStoppedByMask_22 rfl rfl rfl ?_
      refine v_iload_n (i := 3) (q := 24) hC dX12_isStoppedByMask_23 rfl rfl rfl ?_
      refine v_callV (q := 27) (rm := rm_X12_isByList) hC (c_X12_isByList hl Θ _ j _ _ hm.2 hj) k_X12_isByList im_yX12_isByList se_yX12_isByList ml_RX12_147 dX12_isStoppedByMask_24 rfl rfl rfl rfl rfl rfl (Nat.le_of_ble_eq_true rfl) ⟨Nat.le_of_ble_eq_true rfl, Nat.le_of_ble_eq_true rfl⟩ ⟨Nat.le_of_ble_eq_true rfl, Nat.le_of_ble_eq_true rfl⟩ (fR_k ?_) fR_x (Nat.le_of_ble_eq_true rfl) (Nat.le_of_ble_eq_true rfl)
      try dsimp only [Option.toList, List.cons_append, List.nil_append]
      refine v_ifb_eq (q := 34) (q2 := 30) hC dX12_isStoppedByMask_27 (by decide) rfl (fun c_27 => ?_) (fun c_27 => ?_)
      · refine v_iconst (q := 35) (v := 0) hC dX12_isStoppedByMask_34 rfl (by decide) ?_
        refine v_iret hC dX12_isStoppedByMask_35 hr (by first | rfl | exact nar_b) ?_ (Nat.le_of_ble_eq_true rfl) (Nat.le_of_ble_eq_true rfl)
        first | exact mQ3_f (dne0 c_7) | exact ⟨by rw [show mAl (G.2.1 0 30) u j r = _ from c_17]; rfl, rfl⟩ | exact ⟨by rw [show mAl (G.2.1 0 30) u j r = _ from c_17, show mByL (G.2.1 0 30) u j r = _ from c_27]; rfl, rfl⟩
      · refine v_iconst (q := 31) (v := 1) hC dX12_isStoppedByMask_30 rfl (by decide) ?_
        refine v_goto (q := 35) hC dX12_isStoppedByMask_31 (by decide) ?_
        refine v_iret hC dX12_isStoppedByMask_35 hr (by first | rfl | exact nar_b) ?_ (Nat.le_of_ble_eq_true rfl) (Nat.le_of_ble_eq_true rfl)
        first | exact mQ3_f (dne0 c_7) | exact ⟨by rw [show mAl (G.2.1 0 30) u j r = _ from c_17]; rfl, rfl⟩ | exact ⟨by rw [show mAl (G.2.1 0 30) u j r = _ from c_17, show mByL (G.2.1 0 30) u j r = _ from c_27]; rfl, rfl⟩
-- as they are
set_option maxHeartbeats 4000000 in
set_option maxRecDepth 20000 in
theorem c_X12_users {l : Launch} (hl : l.stackTraces = false) (Θ : cTH) (G : GS) (hm : mInv G) : Ct l yX12_users cX12_users 1 (some .int) rm_X12_users Θ [.ref (tR Θ 0 29)] (G) (fR (some (.int (G.2.1 0 30 0))) (ms 0 G)) := by
  refine ct_of (LS := [some (.ref (tR Θ 0 29))]) hl (by decide +kernel) rfl (Nat.le_of_ble_eq_true rfl) rfl ?_
  intro p e s m args below meth c hC hr
  refine v_aload_n (i := 0) (q := 1) hC dX12_users_0 rfl rfl rfl ?_
  refine v_iconst (q := 2) (v := 0) hC dX12_users_1 rfl (by decide) ?_
  refine pm_last (q := 5) hC dX12_users_2 rfl rfl fl_RX12_39 ?_
  refine v_aload_n (i := 0) (q := 6) hC dX12_users_5 rfl rfl rfl ?_
  refine g_X12_0 (q := 9) hC dX12_users_6 rfl rfl fl_RX12_7 ?_
  refine v_iconst (q := 10) (v := 0) hC dX12_users_9 rfl (by decide) ?_
  refine v_ialdN (q := 11) hC dX12_users_10 rfl rfl rfl (i := 0) (rfl) (by first | decide | omega | (unfold oA; omega) | (unfold enA; omega)) (by decide) ?_
  refine v_iret hC dX12_users_11 hr (rfl) ?_ (Nat.le_of_ble_eq_true rfl) (Nat.le_of_ble_eq_true rfl)
  exact ⟨rfl, rfl⟩
set_option maxHeartbeats 4000000 in
set_option maxRecDepth 20000 in
theorem c_X12_groups {l : Launch} (hl : l.stackTraces = false) (Θ : cTH) (G : GS) (hm : mInv G) : Ct l yX12_groups cX12_groups 1 (some .int) rm_X12_groups Θ [.ref (tR Θ 0 29)] (G) (fR (some (.int (G.2.1 0 30 1))) (ms 0 G)) := by
  refine ct_of (LS := [some (.ref (tR Θ 0 29))]) hl (by decide +kernel) rfl (Nat.le_of_ble_eq_true rfl) rfl ?_
  intro p e s m args below meth c hC hr
  refine v_aload_n (i := 0) (q := 1) hC dX12_groups_0 rfl rfl rfl ?_
  refine v_iconst (q := 2) (v := 0) hC dX12_groups_1 rfl (by decide) ?_
  refine pm_last (q := 5) hC dX12_groups_2 rfl rfl fl_RX12_39 ?_
  refine v_aload_n (i := 0) (q := 6) hC dX12_groups_5 rfl rfl rfl ?_
  refine g_X12_0 (q := 9) hC dX12_groups_6 rfl rfl fl_RX12_7 ?_
  refine v_iconst (q := 10) (v := 1) hC dX12_groups_9 rfl (by decide) ?_
  refine v_ialdN (q := 11) hC dX12_groups_10 rfl rfl rfl (i := 1) (rfl) (by first | decide | omega | (unfold oA; omega) | (unfold enA; omega)) (by decide) ?_
  refine v_iret hC dX12_groups_11 hr (rfl) ?_ (Nat.le_of_ble_eq_true rfl) (Nat.le_of_ble_eq_true rfl)
  exact ⟨rfl, rfl⟩
set_option maxHeartbeats 4000000 in
set_option maxRecDepth 20000 in
theorem c_X12_requests {l : Launch} (hl : l.stackTraces = false) (Θ : cTH) (G : GS) (hm : mInv G) : Ct l yX12_requests cX12_requests 1 (some .int) rm_X12_requests Θ [.ref (tR Θ 0 29)] (G) (fR (some (.int (G.2.1 0 30 763))) (ms 0 G)) := by
  refine ct_of (LS := [some (.ref (tR Θ 0 29))]) hl (by decide +kernel) rfl (Nat.le_of_ble_eq_true rfl) rfl ?_
  intro p e s m args below meth c hC hr
  refine v_aload_n (i := 0) (q := 1) hC dX12_requests_0 rfl rfl rfl ?_
  refine v_iconst (q := 2) (v := 0) hC dX12_requests_1 rfl (by decide) ?_
  refine pm_last (q := 5) hC dX12_requests_2 rfl rfl fl_RX12_39 ?_
  refine v_aload_n (i := 0) (q := 6) hC dX12_requests_5 rfl rfl rfl ?_
  refine g_X12_0 (q := 9) hC dX12_requests_6 rfl rfl fl_RX12_7 ?_
  refine v_sipush (q := 12) (v := 763) hC dX12_requests_9 rfl (by decide) ?_
  refine v_ialdN (q := 13) hC dX12_requests_12 rfl rfl rfl (i := 763) (rfl) (by first | decide | omega | (unfold oA; omega) | (unfold enA; omega)) (by decide) ?_
  refine v_iret hC dX12_requests_13 hr (rfl) ?_ (Nat.le_of_ble_eq_true rfl) (Nat.le_of_ble_eq_true rfl)
  exact ⟨rfl, rfl⟩
set_option maxHeartbeats 4000000 in
set_option maxRecDepth 20000 in
theorem c_X12_refusals {l : Launch} (hl : l.stackTraces = false) (Θ : cTH) (G : GS) (hm : mInv G) : Ct l yX12_refusals cX12_refusals 1 (some .int) rm_X12_refusals Θ [.ref (tR Θ 0 29)] (G) (fR (some (.int (G.2.1 0 30 764))) (ms 0 G)) := by
  refine ct_of (LS := [some (.ref (tR Θ 0 29))]) hl (by decide +kernel) rfl (Nat.le_of_ble_eq_true rfl) rfl ?_
  intro p e s m args below meth c hC hr
  refine v_aload_n (i := 0) (q := 1) hC dX12_refusals_0 rfl rfl rfl ?_
  refine v_iconst (q := 2) (v := 0) hC dX12_refusals_1 rfl (by decide) ?_
  refine pm_last (q := 5) hC dX12_refusals_2 rfl rfl fl_RX12_39 ?_
  refine v_aload_n (i := 0) (q := 6) hC dX12_refusals_5 rfl rfl rfl ?_
  refine g_X12_0 (q := 9) hC dX12_refusals_6 rfl rfl fl_RX12_7 ?_
  refine v_sipush (q := 12) (v := 764) hC dX12_refusals_9 rfl (by decide) ?_
  refine v_ialdN (q := 13) hC dX12_refusals_12 rfl rfl rfl (i := 764) (rfl) (by first | decide | omega | (unfold oA; omega) | (unfold enA; omega)) (by decide) ?_
  refine v_iret hC dX12_refusals_13 hr (rfl) ?_ (Nat.le_of_ble_eq_true rfl) (Nat.le_of_ble_eq_true rfl)
  exact ⟨rfl, rfl⟩
set_option maxHeartbeats 4000000 in
set_option maxRecDepth 20000 in
theorem c_X12_isMember {l : Launch} (hl : l.stackTraces = false) (Θ : cTH) (u g : Int32) (G : GS) (hm : mInv G) : Ct l yX12_isMember cX12_isMember 3 (some .boolean) rm_X12_isMember Θ [.ref (tR Θ 0 29), .int u, .int g] (G) (mg (mIn u 0 (G.2.1 0 30 0 - 1) && mIn g 0 (G.2.1 0 30 1 - 1)) 1 (fR (some (.int (b2i (mHas (G.2.1 0 30 (2 + g.toNatClampNeg)) u)))) (ms 0 G)) (G)) := by
  refine ct_of (LS := [some (.ref (tR Θ 0 29)), some (.int u), some (.int g)]) hl (by decide +kernel) rfl (Nat.le_of_ble_eq_true rfl) rfl ?_
  intro p e s m args below meth c hC hr
  refine v_aload_n (i := 0) (q := 1) hC dX12_isMember_0 rfl rfl rfl ?_
  refine v_aload_n (i := 0) (q := 2) hC dX12_isMember_1 rfl rfl rfl ?_
  refine v_iload_n (i := 1) (q := 3) hC dX12_isMember_2 rfl rfl rfl ?_
  refine v_callV (q := 6) (rm := rm_X12_isUser) hC (c_X12_isUser hl Θ _ _) k_X12_isUser im_yX12_isUser se_yX12_isUser ml_RX12_82 dX12_isMember_3 rfl rfl rfl rfl rfl rfl (Nat.le_of_ble_eq_true rfl) ⟨Nat.le_of_ble_eq_true rfl, Nat.le_of_ble_eq_true rfl⟩ ⟨Nat.le_of_ble_eq_true rfl, Nat.le_of_ble_eq_true rfl⟩ (fR_k ?_) fR_x (Nat.le_of_ble_eq_true rfl) (Nat.le_of_ble_eq_true rfl)
  try dsimp only [Option.toList, List.cons_append, List.nil_append]
  refine v_ifb_eq (q := 21) (q2 := 9) hC dX12_isMember_6 (by decide) rfl (fun c_6 => ?_) (fun c_6 => ?_)
  · refine v_iconst (q := 22) (v := 1) hC dX12_isMember_21 rfl (by decide) ?_
    refine pm_last (q := 25) hC dX12_isMember_22 rfl rfl fl_RX12_39 ?_
    refine v_aload_n (i := 0) (q := 26) hC dX12_isMember_25 rfl rfl rfl ?_
    refine gm_last (q := 29) hC dX12_isMember_26 rfl rfl fl_RX12_39 ?_
    refine v_if_ne (q := 51) (q2 := 32) hC dX12_isMember_29 (by decide) rfl (fun c_29 => ?_) (fun c_29 => ?_)
    · first
      | exact absurd c_29 (by decide)
      |
        refine v_iconst (q := 52) (v := 0) hC dX12_isMember_51 rfl (by decide) ?_
        refine v_iret hC dX12_isMember_52 hr (by first | rfl | exact nar_b) ?_ (Nat.le_of_ble_eq_true rfl) (Nat.le_of_ble_eq_true rfl)
        first | exact ⟨by rw [show mHas (G.2.1 0 30 (2 + j)) u = _ from c_44]; rfl, rfl⟩ | exact mg_f (by simp_all [ms_row])
    · first
      | exact absurd c_29 (by decide)
      |
        rw [mg_t (by simp_all [ms_row])]
        obtain ⟨j, hj, rfl⟩ := mIn_lt (show mIn g 0 (G.2.1 0 30 1 - 1) = true by simp_all [ms_row]) hm.2.gs (by have := hm.2.gs8; omega)
        have hj8 := hm.2.gs8
        rw [nI_clamp (show j < 2 ^ 31 by omega)]
        refine v_aload_n (i := 0) (q := 33) hC dX12_isMember_32 rfl rfl rfl ?_
        refine g_X12_0 (q := 36) hC dX12_isMember_33 rfl rfl fl_RX12_7 ?_
        refine v_iconst (q := 37) (v := 2) hC dX12_isMember_36 rfl (by decide) ?_
        refine v_iload_n (i := 2) (q := 38) hC dX12_isMember_37 rfl rfl rfl ?_
        refine v_iadd (q := 39) hC dX12_isMember_38 rfl ?_
        refine v_ialdN (q := 40) hC dX12_isMember_39 rfl rfl rfl (i := 2 + j) (nI_add 2 j) (by first | decide | omega | (unfold oA; omega) | (unfold enA; omega)) (by decide) ?_
        refine v_iload_n (i := 1) (q := 41) hC dX12_isMember_40 rfl rfl rfl ?_
        refine v_callS (q := 44) (rm := rm_X12_has) hC (c_X12_has hl Θ _ _ _) k_X12_has st_yX12_has ml_RX12_65 dX12_isMember_41 rfl  rfl rfl (Nat.le_of_ble_eq_true rfl) ⟨Nat.le_of_ble_eq_true rfl, Nat.le_of_ble_eq_true rfl⟩ ⟨Nat.le_of_ble_eq_true rfl, Nat.le_of_ble_eq_true rfl⟩ (fR_k ?_) fR_x (Nat.le_of_ble_eq_true rfl) (Nat.le_of_ble_eq_true rfl)
        try dsimp only [Option.toList, List.cons_append, List.nil_append]
        refine v_ifb_eq (q := 51) (q2 := 47) hC dX12_isMember_44 (by decide) rfl (fun c_44 => ?_) (fun c_44 => ?_)
        · refine v_iconst (q := 52) (v := 0) hC dX12_isMember_51 rfl (by decide) ?_
          refine v_iret hC dX12_isMember_52 hr (by first | rfl | exact nar_b) ?_ (Nat.le_of_ble_eq_true rfl) (Nat.le_of_ble_eq_true rfl)
          first | exact ⟨by rw [show mHas (G.2.1 0 30 (2 + j)) u = _ from c_44]; rfl, rfl⟩ | exact mg_f (by simp_all [ms_row])
        · refine v_iconst (q := 48) (v := 1) hC dX12_isMember_47 rfl (by decide) ?_
          refine v_goto (q := 52) hC dX12_isMember_48 (by decide) ?_
          refine v_iret hC dX12_isMember_52 hr (by first | rfl | exact nar_b) ?_ (Nat.le_of_ble_eq_true rfl) (Nat.le_of_ble_eq_true rfl)
          first | exact ⟨by rw [show mHas (G.2.1 0 30 (2 + j)) u = _ from c_44]; rfl, rfl⟩ | exact mg_f (by simp_all [ms_row])
  · refine v_aload_n (i := 0) (q := 10) hC dX12_isMember_9 rfl rfl rfl ?_
    refine v_iload_n (i := 2) (q := 11) hC dX12_isMember_10 rfl rfl rfl ?_
    refine v_callV (q := 14) (rm := rm_X12_isGroup) hC (c_X12_isGroup hl Θ _ _) k_X12_isGroup im_yX12_isGroup se_yX12_isGroup ml_RX12_85 dX12_isMember_11 rfl rfl rfl rfl rfl rfl (Nat.le_of_ble_eq_true rfl) ⟨Nat.le_of_ble_eq_true rfl, Nat.le_of_ble_eq_true rfl⟩ ⟨Nat.le_of_ble_eq_true rfl, Nat.le_of_ble_eq_true rfl⟩ (fR_k ?_) fR_x (Nat.le_of_ble_eq_true rfl) (Nat.le_of_ble_eq_true rfl)
    try dsimp only [Option.toList, List.cons_append, List.nil_append]
    refine v_ifb_eq (q := 21) (q2 := 17) hC dX12_isMember_14 (by decide) rfl (fun c_14 => ?_) (fun c_14 => ?_)
    · refine v_iconst (q := 22) (v := 1) hC dX12_isMember_21 rfl (by decide) ?_
      refine pm_last (q := 25) hC dX12_isMember_22 rfl rfl fl_RX12_39 ?_
      refine v_aload_n (i := 0) (q := 26) hC dX12_isMember_25 rfl rfl rfl ?_
      refine gm_last (q := 29) hC dX12_isMember_26 rfl rfl fl_RX12_39 ?_
      refine v_if_ne (q := 51) (q2 := 32) hC dX12_isMember_29 (by decide) rfl (fun c_29 => ?_) (fun c_29 => ?_)
      · first
        | exact absurd c_29 (by decide)
        |
          refine v_iconst (q := 52) (v := 0) hC dX12_isMember_51 rfl (by decide) ?_
          refine v_iret hC dX12_isMember_52 hr (by first | rfl | exact nar_b) ?_ (Nat.le_of_ble_eq_true rfl) (Nat.le_of_ble_eq_true rfl)
          first | exact ⟨by rw [show mHas (G.2.1 0 30 (2 + j)) u = _ from c_44]; rfl, rfl⟩ | exact mg_f (by simp_all [ms_row])
      · first
        | exact absurd c_29 (by decide)
        |
          rw [mg_t (by simp_all [ms_row])]
          obtain ⟨j, hj, rfl⟩ := mIn_lt (show mIn g 0 (G.2.1 0 30 1 - 1) = true by simp_all [ms_row]) hm.2.gs (by have := hm.2.gs8; omega)
          have hj8 := hm.2.gs8
          rw [nI_clamp (show j < 2 ^ 31 by omega)]
          refine v_aload_n (i := 0) (q := 33) hC dX12_isMember_32 rfl rfl rfl ?_
          refine g_X12_0 (q := 36) hC dX12_isMember_33 rfl rfl fl_RX12_7 ?_
          refine v_iconst (q := 37) (v := 2) hC dX12_isMember_36 rfl (by decide) ?_
          refine v_iload_n (i := 2) (q := 38) hC dX12_isMember_37 rfl rfl rfl ?_
          refine v_iadd (q := 39) hC dX12_isMember_38 rfl ?_
          refine v_ialdN (q := 40) hC dX12_isMember_39 rfl rfl rfl (i := 2 + j) (nI_add 2 j) (by first | decide | omega | (unfold oA; omega) | (unfold enA; omega)) (by decide) ?_
          refine v_iload_n (i := 1) (q := 41) hC dX12_isMember_40 rfl rfl rfl ?_
          refine v_callS (q := 44) (rm := rm_X12_has) hC (c_X12_has hl Θ _ _ _) k_X12_has st_yX12_has ml_RX12_65 dX12_isMember_41 rfl  rfl rfl (Nat.le_of_ble_eq_true rfl) ⟨Nat.le_of_ble_eq_true rfl, Nat.le_of_ble_eq_true rfl⟩ ⟨Nat.le_of_ble_eq_true rfl, Nat.le_of_ble_eq_true rfl⟩ (fR_k ?_) fR_x (Nat.le_of_ble_eq_true rfl) (Nat.le_of_ble_eq_true rfl)
          try dsimp only [Option.toList, List.cons_append, List.nil_append]
          refine v_ifb_eq (q := 51) (q2 := 47) hC dX12_isMember_44 (by decide) rfl (fun c_44 => ?_) (fun c_44 => ?_)
          · refine v_iconst (q := 52) (v := 0) hC dX12_isMember_51 rfl (by decide) ?_
            refine v_iret hC dX12_isMember_52 hr (by first | rfl | exact nar_b) ?_ (Nat.le_of_ble_eq_true rfl) (Nat.le_of_ble_eq_true rfl)
            first | exact ⟨by rw [show mHas (G.2.1 0 30 (2 + j)) u = _ from c_44]; rfl, rfl⟩ | exact mg_f (by simp_all [ms_row])
          · refine v_iconst (q := 48) (v := 1) hC dX12_isMember_47 rfl (by decide) ?_
            refine v_goto (q := 52) hC dX12_isMember_48 (by decide) ?_
            refine v_iret hC dX12_isMember_52 hr (by first | rfl | exact nar_b) ?_ (Nat.le_of_ble_eq_true rfl) (Nat.le_of_ble_eq_true rfl)
            first | exact ⟨by rw [show mHas (G.2.1 0 30 (2 + j)) u = _ from c_44]; rfl, rfl⟩ | exact mg_f (by simp_all [ms_row])
    · refine v_iconst (q := 18) (v := 0) hC dX12_isMember_17 rfl (by decide) ?_
      refine v_goto (q := 22) hC dX12_isMember_18 (by decide) ?_
      refine pm_last (q := 25) hC dX12_isMember_22 rfl rfl fl_RX12_39 ?_
      refine v_aload_n (i := 0) (q := 26) hC dX12_isMember_25 rfl rfl rfl ?_
      refine gm_last (q := 29) hC dX12_isMember_26 rfl rfl fl_RX12_39 ?_
      refine v_if_ne (q := 51) (q2 := 32) hC dX12_isMember_29 (by decide) rfl (fun c_29 => ?_) (fun c_29 => ?_)
      · first
        | exact absurd c_29 (by decide)
        |
          refine v_iconst (q := 52) (v := 0) hC dX12_isMember_51 rfl (by decide) ?_
          refine v_iret hC dX12_isMember_52 hr (by first | rfl | exact nar_b) ?_ (Nat.le_of_ble_eq_true rfl) (Nat.le_of_ble_eq_true rfl)
          first | exact ⟨by rw [show mHas (G.2.1 0 30 (2 + j)) u = _ from c_44]; rfl, rfl⟩ | exact mg_f (by simp_all [ms_row])
      · first
        | exact absurd c_29 (by decide)
        |
          rw [mg_t (by simp_all [ms_row])]
          obtain ⟨j, hj, rfl⟩ := mIn_lt (show mIn g 0 (G.2.1 0 30 1 - 1) = true by simp_all [ms_row]) hm.2.gs (by have := hm.2.gs8; omega)
          have hj8 := hm.2.gs8
          rw [nI_clamp (show j < 2 ^ 31 by omega)]
          refine v_aload_n (i := 0) (q := 33) hC dX12_isMember_32 rfl rfl rfl ?_
          refine g_X12_0 (q := 36) hC dX12_isMember_33 rfl rfl fl_RX12_7 ?_
          refine v_iconst (q := 37) (v := 2) hC dX12_isMember_36 rfl (by decide) ?_
          refine v_iload_n (i := 2) (q := 38) hC dX12_isMember_37 rfl rfl rfl ?_
          refine v_iadd (q := 39) hC dX12_isMember_38 rfl ?_
          refine v_ialdN (q := 40) hC dX12_isMember_39 rfl rfl rfl (i := 2 + j) (nI_add 2 j) (by first | decide | omega | (unfold oA; omega) | (unfold enA; omega)) (by decide) ?_
          refine v_iload_n (i := 1) (q := 41) hC dX12_isMember_40 rfl rfl rfl ?_
          refine v_callS (q := 44) (rm := rm_X12_has) hC (c_X12_has hl Θ _ _ _) k_X12_has st_yX12_has ml_RX12_65 dX12_isMember_41 rfl  rfl rfl (Nat.le_of_ble_eq_true rfl) ⟨Nat.le_of_ble_eq_true rfl, Nat.le_of_ble_eq_true rfl⟩ ⟨Nat.le_of_ble_eq_true rfl, Nat.le_of_ble_eq_true rfl⟩ (fR_k ?_) fR_x (Nat.le_of_ble_eq_true rfl) (Nat.le_of_ble_eq_true rfl)
          try dsimp only [Option.toList, List.cons_append, List.nil_append]
          refine v_ifb_eq (q := 51) (q2 := 47) hC dX12_isMember_44 (by decide) rfl (fun c_44 => ?_) (fun c_44 => ?_)
          · refine v_iconst (q := 52) (v := 0) hC dX12_isMember_51 rfl (by decide) ?_
            refine v_iret hC dX12_isMember_52 hr (by first | rfl | exact nar_b) ?_ (Nat.le_of_ble_eq_true rfl) (Nat.le_of_ble_eq_true rfl)
            first | exact ⟨by rw [show mHas (G.2.1 0 30 (2 + j)) u = _ from c_44]; rfl, rfl⟩ | exact mg_f (by simp_all [ms_row])
          · refine v_iconst (q := 48) (v := 1) hC dX12_isMember_47 rfl (by decide) ?_
            refine v_goto (q := 52) hC dX12_isMember_48 (by decide) ?_
            refine v_iret hC dX12_isMember_52 hr (by first | rfl | exact nar_b) ?_ (Nat.le_of_ble_eq_true rfl) (Nat.le_of_ble_eq_true rfl)
            first | exact ⟨by rw [show mHas (G.2.1 0 30 (2 + j)) u = _ from c_44]; rfl, rfl⟩ | exact mg_f (by simp_all [ms_row])
set_option maxHeartbeats 4000000 in
set_option maxRecDepth 20000 in
theorem c_X12_isNested {l : Launch} (hl : l.stackTraces = false) (Θ : cTH) (u g : Int32) (G : GS) (hm : mInv G) : Ct l yX12_isNested cX12_isNested 3 (some .boolean) rm_X12_isNested Θ [.ref (tR Θ 0 29), .int u, .int g] (G) (mg (mIn u 0 (G.2.1 0 30 1 - 1) && mIn g 0 (G.2.1 0 30 1 - 1)) 1 (fR (some (.int (b2i (mHas (G.2.1 0 30 (10 + u.toNatClampNeg)) g)))) (ms 0 G)) (G)) := by
  refine ct_of (LS := [some (.ref (tR Θ 0 29)), some (.int u), some (.int g)]) hl (by decide +kernel) rfl (Nat.le_of_ble_eq_true rfl) rfl ?_
  intro p e s m args below meth c hC hr
  refine v_aload_n (i := 0) (q := 1) hC dX12_isNested_0 rfl rfl rfl ?_
  refine v_aload_n (i := 0) (q := 2) hC dX12_isNested_1 rfl rfl rfl ?_
  refine v_iload_n (i := 1) (q := 3) hC dX12_isNested_2 rfl rfl rfl ?_
  refine v_callV (q := 6) (rm := rm_X12_isGroup) hC (c_X12_isGroup hl Θ _ _) k_X12_isGroup im_yX12_isGroup se_yX12_isGroup ml_RX12_85 dX12_isNested_3 rfl rfl rfl rfl rfl rfl (Nat.le_of_ble_eq_true rfl) ⟨Nat.le_of_ble_eq_true rfl, Nat.le_of_ble_eq_true rfl⟩ ⟨Nat.le_of_ble_eq_true rfl, Nat.le_of_ble_eq_true rfl⟩ (fR_k ?_) fR_x (Nat.le_of_ble_eq_true rfl) (Nat.le_of_ble_eq_true rfl)
  try dsimp only [Option.toList, List.cons_append, List.nil_append]
  refine v_ifb_eq (q := 21) (q2 := 9) hC dX12_isNested_6 (by decide) rfl (fun c_6 => ?_) (fun c_6 => ?_)
  · refine v_iconst (q := 22) (v := 1) hC dX12_isNested_21 rfl (by decide) ?_
    refine pm_last (q := 25) hC dX12_isNested_22 rfl rfl fl_RX12_39 ?_
    refine v_aload_n (i := 0) (q := 26) hC dX12_isNested_25 rfl rfl rfl ?_
    refine gm_last (q := 29) hC dX12_isNested_26 rfl rfl fl_RX12_39 ?_
    refine v_if_ne (q := 52) (q2 := 32) hC dX12_isNested_29 (by decide) rfl (fun c_29 => ?_) (fun c_29 => ?_)
    · first
      | exact absurd c_29 (by decide)
      |
        refine v_iconst (q := 53) (v := 0) hC dX12_isNested_52 rfl (by decide) ?_
        refine v_iret hC dX12_isNested_53 hr (by first | rfl | exact nar_b) ?_ (Nat.le_of_ble_eq_true rfl) (Nat.le_of_ble_eq_true rfl)
        first | exact ⟨by rw [show mHas (G.2.1 0 30 (10 + j)) g = _ from c_45]; rfl, rfl⟩ | exact mg_f (by simp_all [ms_row])
    · first
      | exact absurd c_29 (by decide)
      |
        rw [mg_t (by simp_all [ms_row])]
        obtain ⟨j, hj, rfl⟩ := mIn_lt (show mIn u 0 (G.2.1 0 30 1 - 1) = true by simp_all [ms_row]) hm.2.gs (by have := hm.2.gs8; omega)
        have hj8 := hm.2.gs8
        rw [nI_clamp (show j < 2 ^ 31 by omega)]
        refine v_aload_n (i := 0) (q := 33) hC dX12_isNested_32 rfl rfl rfl ?_
        refine g_X12_0 (q := 36) hC dX12_isNested_33 rfl rfl fl_RX12_7 ?_
        refine v_bipush (q := 38) (v := 10) hC dX12_isNested_36 rfl (by decide) ?_
        refine v_iload_n (i := 1) (q := 39) hC dX12_isNested_38 rfl rfl rfl ?_
        refine v_iadd (q := 40) hC dX12_isNested_39 rfl ?_
        refine v_ialdN (q := 41) hC dX12_isNested_40 rfl rfl rfl (i := 10 + j) (nI_add 10 j) (by first | decide | omega | (unfold oA; omega) | (unfold enA; omega)) (by decide) ?_
        refine v_iload_n (i := 2) (q := 42) hC dX12_isNested_41 rfl rfl rfl ?_
        refine v_callS (q := 45) (rm := rm_X12_has) hC (c_X12_has hl Θ _ _ _) k_X12_has st_yX12_has ml_RX12_65 dX12_isNested_42 rfl  rfl rfl (Nat.le_of_ble_eq_true rfl) ⟨Nat.le_of_ble_eq_true rfl, Nat.le_of_ble_eq_true rfl⟩ ⟨Nat.le_of_ble_eq_true rfl, Nat.le_of_ble_eq_true rfl⟩ (fR_k ?_) fR_x (Nat.le_of_ble_eq_true rfl) (Nat.le_of_ble_eq_true rfl)
        try dsimp only [Option.toList, List.cons_append, List.nil_append]
        refine v_ifb_eq (q := 52) (q2 := 48) hC dX12_isNested_45 (by decide) rfl (fun c_45 => ?_) (fun c_45 => ?_)
        · refine v_iconst (q := 53) (v := 0) hC dX12_isNested_52 rfl (by decide) ?_
          refine v_iret hC dX12_isNested_53 hr (by first | rfl | exact nar_b) ?_ (Nat.le_of_ble_eq_true rfl) (Nat.le_of_ble_eq_true rfl)
          first | exact ⟨by rw [show mHas (G.2.1 0 30 (10 + j)) g = _ from c_45]; rfl, rfl⟩ | exact mg_f (by simp_all [ms_row])
        · refine v_iconst (q := 49) (v := 1) hC dX12_isNested_48 rfl (by decide) ?_
          refine v_goto (q := 53) hC dX12_isNested_49 (by decide) ?_
          refine v_iret hC dX12_isNested_53 hr (by first | rfl | exact nar_b) ?_ (Nat.le_of_ble_eq_true rfl) (Nat.le_of_ble_eq_true rfl)
          first | exact ⟨by rw [show mHas (G.2.1 0 30 (10 + j)) g = _ from c_45]; rfl, rfl⟩ | exact mg_f (by simp_all [ms_row])
  · refine v_aload_n (i := 0) (q := 10) hC dX12_isNested_9 rfl rfl rfl ?_
    refine v_iload_n (i := 2) (q := 11) hC dX12_isNested_10 rfl rfl rfl ?_
    refine v_callV (q := 14) (rm := rm_X12_isGroup) hC (c_X12_isGroup hl Θ _ _) k_X12_isGroup im_yX12_isGroup se_yX12_isGroup ml_RX12_85 dX12_isNested_11 rfl rfl rfl rfl rfl rfl (Nat.le_of_ble_eq_true rfl) ⟨Nat.le_of_ble_eq_true rfl, Nat.le_of_ble_eq_true rfl⟩ ⟨Nat.le_of_ble_eq_true rfl, Nat.le_of_ble_eq_true rfl⟩ (fR_k ?_) fR_x (Nat.le_of_ble_eq_true rfl) (Nat.le_of_ble_eq_true rfl)
    try dsimp only [Option.toList, List.cons_append, List.nil_append]
    refine v_ifb_eq (q := 21) (q2 := 17) hC dX12_isNested_14 (by decide) rfl (fun c_14 => ?_) (fun c_14 => ?_)
    · refine v_iconst (q := 22) (v := 1) hC dX12_isNested_21 rfl (by decide) ?_
      refine pm_last (q := 25) hC dX12_isNested_22 rfl rfl fl_RX12_39 ?_
      refine v_aload_n (i := 0) (q := 26) hC dX12_isNested_25 rfl rfl rfl ?_
      refine gm_last (q := 29) hC dX12_isNested_26 rfl rfl fl_RX12_39 ?_
      refine v_if_ne (q := 52) (q2 := 32) hC dX12_isNested_29 (by decide) rfl (fun c_29 => ?_) (fun c_29 => ?_)
      · first
        | exact absurd c_29 (by decide)
        |
          refine v_iconst (q := 53) (v := 0) hC dX12_isNested_52 rfl (by decide) ?_
          refine v_iret hC dX12_isNested_53 hr (by first | rfl | exact nar_b) ?_ (Nat.le_of_ble_eq_true rfl) (Nat.le_of_ble_eq_true rfl)
          first | exact ⟨by rw [show mHas (G.2.1 0 30 (10 + j)) g = _ from c_45]; rfl, rfl⟩ | exact mg_f (by simp_all [ms_row])
      · first
        | exact absurd c_29 (by decide)
        |
          rw [mg_t (by simp_all [ms_row])]
          obtain ⟨j, hj, rfl⟩ := mIn_lt (show mIn u 0 (G.2.1 0 30 1 - 1) = true by simp_all [ms_row]) hm.2.gs (by have := hm.2.gs8; omega)
          have hj8 := hm.2.gs8
          rw [nI_clamp (show j < 2 ^ 31 by omega)]
          refine v_aload_n (i := 0) (q := 33) hC dX12_isNested_32 rfl rfl rfl ?_
          refine g_X12_0 (q := 36) hC dX12_isNested_33 rfl rfl fl_RX12_7 ?_
          refine v_bipush (q := 38) (v := 10) hC dX12_isNested_36 rfl (by decide) ?_
          refine v_iload_n (i := 1) (q := 39) hC dX12_isNested_38 rfl rfl rfl ?_
          refine v_iadd (q := 40) hC dX12_isNested_39 rfl ?_
          refine v_ialdN (q := 41) hC dX12_isNested_40 rfl rfl rfl (i := 10 + j) (nI_add 10 j) (by first | decide | omega | (unfold oA; omega) | (unfold enA; omega)) (by decide) ?_
          refine v_iload_n (i := 2) (q := 42) hC dX12_isNested_41 rfl rfl rfl ?_
          refine v_callS (q := 45) (rm := rm_X12_has) hC (c_X12_has hl Θ _ _ _) k_X12_has st_yX12_has ml_RX12_65 dX12_isNested_42 rfl  rfl rfl (Nat.le_of_ble_eq_true rfl) ⟨Nat.le_of_ble_eq_true rfl, Nat.le_of_ble_eq_true rfl⟩ ⟨Nat.le_of_ble_eq_true rfl, Nat.le_of_ble_eq_true rfl⟩ (fR_k ?_) fR_x (Nat.le_of_ble_eq_true rfl) (Nat.le_of_ble_eq_true rfl)
          try dsimp only [Option.toList, List.cons_append, List.nil_append]
          refine v_ifb_eq (q := 52) (q2 := 48) hC dX12_isNested_45 (by decide) rfl (fun c_45 => ?_) (fun c_45 => ?_)
          · refine v_iconst (q := 53) (v := 0) hC dX12_isNested_52 rfl (by decide) ?_
            refine v_iret hC dX12_isNested_53 hr (by first | rfl | exact nar_b) ?_ (Nat.le_of_ble_eq_true rfl) (Nat.le_of_ble_eq_true rfl)
            first | exact ⟨by rw [show mHas (G.2.1 0 30 (10 + j)) g = _ from c_45]; rfl, rfl⟩ | exact mg_f (by simp_all [ms_row])
          · refine v_iconst (q := 49) (v := 1) hC dX12_isNested_48 rfl (by decide) ?_
            refine v_goto (q := 53) hC dX12_isNested_49 (by decide) ?_
            refine v_iret hC dX12_isNested_53 hr (by first | rfl | exact nar_b) ?_ (Nat.le_of_ble_eq_true rfl) (Nat.le_of_ble_eq_true rfl)
            first | exact ⟨by rw [show mHas (G.2.1 0 30 (10 + j)) g = _ from c_45]; rfl, rfl⟩ | exact mg_f (by simp_all [ms_row])
    · refine v_iconst (q := 18) (v := 0) hC dX12_isNested_17 rfl (by decide) ?_
      refine v_goto (q := 22) hC dX12_isNested_18 (by decide) ?_
      refine pm_last (q := 25) hC dX12_isNested_22 rfl rfl fl_RX12_39 ?_
      refine v_aload_n (i := 0) (q := 26) hC dX12_isNested_25 rfl rfl rfl ?_
      refine gm_last (q := 29) hC dX12_isNested_26 rfl rfl fl_RX12_39 ?_
      refine v_if_ne (q := 52) (q2 := 32) hC dX12_isNested_29 (by decide) rfl (fun c_29 => ?_) (fun c_29 => ?_)
      · first
        | exact absurd c_29 (by decide)
        |
          refine v_iconst (q := 53) (v := 0) hC dX12_isNested_52 rfl (by decide) ?_
          refine v_iret hC dX12_isNested_53 hr (by first | rfl | exact nar_b) ?_ (Nat.le_of_ble_eq_true rfl) (Nat.le_of_ble_eq_true rfl)
          first | exact ⟨by rw [show mHas (G.2.1 0 30 (10 + j)) g = _ from c_45]; rfl, rfl⟩ | exact mg_f (by simp_all [ms_row])
      · first
        | exact absurd c_29 (by decide)
        |
          rw [mg_t (by simp_all [ms_row])]
          obtain ⟨j, hj, rfl⟩ := mIn_lt (show mIn u 0 (G.2.1 0 30 1 - 1) = true by simp_all [ms_row]) hm.2.gs (by have := hm.2.gs8; omega)
          have hj8 := hm.2.gs8
          rw [nI_clamp (show j < 2 ^ 31 by omega)]
          refine v_aload_n (i := 0) (q := 33) hC dX12_isNested_32 rfl rfl rfl ?_
          refine g_X12_0 (q := 36) hC dX12_isNested_33 rfl rfl fl_RX12_7 ?_
          refine v_bipush (q := 38) (v := 10) hC dX12_isNested_36 rfl (by decide) ?_
          refine v_iload_n (i := 1) (q := 39) hC dX12_isNested_38 rfl rfl rfl ?_
          refine v_iadd (q := 40) hC dX12_isNested_39 rfl ?_
          refine v_ialdN (q := 41) hC dX12_isNested_40 rfl rfl rfl (i := 10 + j) (nI_add 10 j) (by first | decide | omega | (unfold oA; omega) | (unfold enA; omega)) (by decide) ?_
          refine v_iload_n (i := 2) (q := 42) hC dX12_isNested_41 rfl rfl rfl ?_
          refine v_callS (q := 45) (rm := rm_X12_has) hC (c_X12_has hl Θ _ _ _) k_X12_has st_yX12_has ml_RX12_65 dX12_isNested_42 rfl  rfl rfl (Nat.le_of_ble_eq_true rfl) ⟨Nat.le_of_ble_eq_true rfl, Nat.le_of_ble_eq_true rfl⟩ ⟨Nat.le_of_ble_eq_true rfl, Nat.le_of_ble_eq_true rfl⟩ (fR_k ?_) fR_x (Nat.le_of_ble_eq_true rfl) (Nat.le_of_ble_eq_true rfl)
          try dsimp only [Option.toList, List.cons_append, List.nil_append]
          refine v_ifb_eq (q := 52) (q2 := 48) hC dX12_isNested_45 (by decide) rfl (fun c_45 => ?_) (fun c_45 => ?_)
          · refine v_iconst (q := 53) (v := 0) hC dX12_isNested_52 rfl (by decide) ?_
            refine v_iret hC dX12_isNested_53 hr (by first | rfl | exact nar_b) ?_ (Nat.le_of_ble_eq_true rfl) (Nat.le_of_ble_eq_true rfl)
            first | exact ⟨by rw [show mHas (G.2.1 0 30 (10 + j)) g = _ from c_45]; rfl, rfl⟩ | exact mg_f (by simp_all [ms_row])
          · refine v_iconst (q := 49) (v := 1) hC dX12_isNested_48 rfl (by decide) ?_
            refine v_goto (q := 53) hC dX12_isNested_49 (by decide) ?_
            refine v_iret hC dX12_isNested_53 hr (by first | rfl | exact nar_b) ?_ (Nat.le_of_ble_eq_true rfl) (Nat.le_of_ble_eq_true rfl)
            first | exact ⟨by rw [show mHas (G.2.1 0 30 (10 + j)) g = _ from c_45]; rfl, rfl⟩ | exact mg_f (by simp_all [ms_row])
def mOGQ (u g : Int32) (G : GS) : cOut → GS → Prop := mg (mIn u 0 (G.2.1 0 30 0 - 1) && mIn g 0 (G.2.1 0 30 1 - 1)) 1 (fR (some (.int (b2i (mIsOf (G.2.1 0 30) (mGs (G.2.1 0 30)) u g.toNatClampNeg)))) (ms 0 G)) (G)
set_option maxHeartbeats 4000000 in
set_option maxRecDepth 20000 in
theorem c_X12_isOfGroup {l : Launch} (hl : l.stackTraces = false) (Θ : cTH) (u g : Int32) (G : GS) (hm : mInv G) : Ct l yX12_isOfGroup cX12_isOfGroup 3 (some .boolean) rm_X12_isOfGroup Θ [.ref (tR Θ 0 29), .int u, .int g] (G) (mOGQ u g G) := by
  refine ct_of (LS := [some (.ref (tR Θ 0 29)), some (.int u), some (.int g)]) hl (by decide +kernel) rfl (Nat.le_of_ble_eq_true rfl) rfl ?_
  intro p e s m args below meth c hC hr
  rw [mOGQ]
  refine v_aload_n (i := 0) (q := 1) hC dX12_isOfGroup_0 rfl rfl rfl ?_
  refine v_aload_n (i := 0) (q := 2) hC dX12_isOfGroup_1 rfl rfl rfl ?_
  refine v_iload_n (i := 1) (q := 3) hC dX12_isOfGroup_2 rfl rfl rfl ?_
  refine v_callV (q := 6) (rm := rm_X12_isUser) hC (c_X12_isUser hl Θ _ _) k_X12_isUser im_yX12_isUser se_yX12_isUser ml_RX12_82 dX12_isOfGroup_3 rfl rfl rfl rfl rfl rfl (Nat.le_of_ble_eq_true rfl) ⟨Nat.le_of_ble_eq_true rfl, Nat.le_of_ble_eq_true rfl⟩ ⟨Nat.le_of_ble_eq_true rfl, Nat.le_of_ble_eq_true rfl⟩ (fR_k ?_) fR_x (Nat.le_of_ble_eq_true rfl) (Nat.le_of_ble_eq_true rfl)
  try dsimp only [Option.toList, List.cons_append, List.nil_append]
  refine v_ifb_eq (q := 21) (q2 := 9) hC dX12_isOfGroup_6 (by decide) rfl (fun c_6 => ?_) (fun c_6 => ?_)
  · refine v_iconst (q := 22) (v := 1) hC dX12_isOfGroup_21 rfl (by decide) ?_
    refine pm_last (q := 25) hC dX12_isOfGroup_22 rfl rfl fl_RX12_39 ?_
    refine v_aload_n (i := 0) (q := 26) hC dX12_isOfGroup_25 rfl rfl rfl ?_
    refine gm_last (q := 29) hC dX12_isOfGroup_26 rfl rfl fl_RX12_39 ?_
    refine v_if_ne (q := 45) (q2 := 32) hC dX12_isOfGroup_29 (by decide) rfl (fun c_29 => ?_) (fun c_29 => ?_)
    · first
      | exact absurd c_29 (by decide)
      |
        refine v_iconst (q := 46) (v := 0) hC dX12_isOfGroup_45 rfl (by decide) ?_
        refine v_iret hC dX12_isOfGroup_46 hr (by first | rfl | exact nar_b) ?_ (Nat.le_of_ble_eq_true rfl) (Nat.le_of_ble_eq_true rfl)
        first | exact ⟨by rw [show mIsOf (G.2.1 0 30) (mGs (G.2.1 0 30)) u j = _ from c_38]; rfl, rfl⟩ | exact mg_f (by simp_all [ms_row])
    · first
      | exact absurd c_29 (by decide)
      |
        rw [mg_t (by simp_all [ms_row])]
        obtain ⟨j, hj, rfl⟩ := mIn_lt (show mIn g 0 (G.2.1 0 30 1 - 1) = true by simp_all [ms_row]) hm.2.gs (by have := hm.2.gs8; omega)
        have hj8 := hm.2.gs8
        rw [nI_clamp (show j < 2 ^ 31 by omega)]
        refine v_aload_n (i := 0) (q := 33) hC dX12_isOfGroup_32 rfl rfl rfl ?_
        refine v_iload_n (i := 1) (q := 34) hC dX12_isOfGroup_33 rfl rfl rfl ?_
        refine v_iload_n (i := 2) (q := 35) hC dX12_isOfGroup_34 rfl rfl rfl ?_
        refine v_callV (q := 38) (rm := rm_X12_isOf) hC (c_X12_isOf hl Θ u j (mGs (G.2.1 0 30)) _ (by omega) hm.2.gs hm.2.gs8) k_X12_isOf im_yX12_isOf se_yX12_isOf ml_RX12_73 dX12_isOfGroup_35 rfl rfl rfl rfl rfl rfl (Nat.le_of_ble_eq_true rfl) ⟨Nat.le_of_ble_eq_true rfl, Nat.le_of_ble_eq_true rfl⟩ ⟨Nat.le_of_ble_eq_true rfl, Nat.le_of_ble_eq_true rfl⟩ (fR_k ?_) fR_x (Nat.le_of_ble_eq_true rfl) (Nat.le_of_ble_eq_true rfl)
        try dsimp only [Option.toList, List.cons_append, List.nil_append]
        refine v_ifb_eq (q := 45) (q2 := 41) hC dX12_isOfGroup_38 (by decide) rfl (fun c_38 => ?_) (fun c_38 => ?_)
        · refine v_iconst (q := 46) (v := 0) hC dX12_isOfGroup_45 rfl (by decide) ?_
          refine v_iret hC dX12_isOfGroup_46 hr (by first | rfl | exact nar_b) ?_ (Nat.le_of_ble_eq_true rfl) (Nat.le_of_ble_eq_true rfl)
          first | exact ⟨by rw [show mIsOf (G.2.1 0 30) (mGs (G.2.1 0 30)) u j = _ from c_38]; rfl, rfl⟩ | exact mg_f (by simp_all [ms_row])
        · refine v_iconst (q := 42) (v := 1) hC dX12_isOfGroup_41 rfl (by decide) ?_
          refine v_goto (q := 46) hC dX12_isOfGroup_42 (by decide) ?_
          refine v_iret hC dX12_isOfGroup_46 hr (by first | rfl | exact nar_b) ?_ (Nat.le_of_ble_eq_true rfl) (Nat.le_of_ble_eq_true rfl)
          first | exact ⟨by rw [show mIsOf (G.2.1 0 30) (mGs (G.2.1 0 30)) u j = _ from c_38]; rfl, rfl⟩ | exact mg_f (by simp_all [ms_row])
  · refine v_aload_n (i := 0) (q := 10) hC dX12_isOfGroup_9 rfl rfl rfl ?_
    refine v_iload_n (i := 2) (q := 11) hC dX12_isOfGroup_10 rfl rfl rfl ?_
    refine v_callV (q := 14) (rm := rm_X12_isGroup) hC (c_X12_isGroup hl Θ _ _) k_X12_isGroup im_yX12_isGroup se_yX12_isGroup ml_RX12_85 dX12_isOfGroup_11 rfl rfl rfl rfl rfl rfl (Nat.le_of_ble_eq_true rfl) ⟨Nat.le_of_ble_eq_true rfl, Nat.le_of_ble_eq_true rfl⟩ ⟨Nat.le_of_ble_eq_true rfl, Nat.le_of_ble_eq_true rfl⟩ (fR_k ?_) fR_x (Nat.le_of_ble_eq_true rfl) (Nat.le_of_ble_eq_true rfl)
    try dsimp only [Option.toList, List.cons_append, List.nil_append]
    refine v_ifb_eq (q := 21) (q2 := 17) hC dX12_isOfGroup_14 (by decide) rfl (fun c_14 => ?_) (fun c_14 => ?_)
    · refine v_iconst (q := 22) (v := 1) hC dX12_isOfGroup_21 rfl (by decide) ?_
      refine pm_last (q := 25) hC dX12_isOfGroup_22 rfl rfl fl_RX12_39 ?_
      refine v_aload_n (i := 0) (q := 26) hC dX12_isOfGroup_25 rfl rfl rfl ?_
      refine gm_last (q := 29) hC dX12_isOfGroup_26 rfl rfl fl_RX12_39 ?_
      refine v_if_ne (q := 45) (q2 := 32) hC dX12_isOfGroup_29 (by decide) rfl (fun c_29 => ?_) (fun c_29 => ?_)
      · first
        | exact absurd c_29 (by decide)
        |
          refine v_iconst (q := 46) (v := 0) hC dX12_isOfGroup_45 rfl (by decide) ?_
          refine v_iret hC dX12_isOfGroup_46 hr (by first | rfl | exact nar_b) ?_ (Nat.le_of_ble_eq_true rfl) (Nat.le_of_ble_eq_true rfl)
          first | exact ⟨by rw [show mIsOf (G.2.1 0 30) (mGs (G.2.1 0 30)) u j = _ from c_38]; rfl, rfl⟩ | exact mg_f (by simp_all [ms_row])
      · first
        | exact absurd c_29 (by decide)
        |
          rw [mg_t (by simp_all [ms_row])]
          obtain ⟨j, hj, rfl⟩ := mIn_lt (show mIn g 0 (G.2.1 0 30 1 - 1) = true by simp_all [ms_row]) hm.2.gs (by have := hm.2.gs8; omega)
          have hj8 := hm.2.gs8
          rw [nI_clamp (show j < 2 ^ 31 by omega)]
          refine v_aload_n (i := 0) (q := 33) hC dX12_isOfGroup_32 rfl rfl rfl ?_
          refine v_iload_n (i := 1) (q := 34) hC dX12_isOfGroup_33 rfl rfl rfl ?_
          refine v_iload_n (i := 2) (q := 35) hC dX12_isOfGroup_34 rfl rfl rfl ?_
          refine v_callV (q := 38) (rm := rm_X12_isOf) hC (c_X12_isOf hl Θ u j (mGs (G.2.1 0 30)) _ (by omega) hm.2.gs hm.2.gs8) k_X12_isOf im_yX12_isOf se_yX12_isOf ml_RX12_73 dX12_isOfGroup_35 rfl rfl rfl rfl rfl rfl (Nat.le_of_ble_eq_true rfl) ⟨Nat.le_of_ble_eq_true rfl, Nat.le_of_ble_eq_true rfl⟩ ⟨Nat.le_of_ble_eq_true rfl, Nat.le_of_ble_eq_true rfl⟩ (fR_k ?_) fR_x (Nat.le_of_ble_eq_true rfl) (Nat.le_of_ble_eq_true rfl)
          try dsimp only [Option.toList, List.cons_append, List.nil_append]
          refine v_ifb_eq (q := 45) (q2 := 41) hC dX12_isOfGroup_38 (by decide) rfl (fun c_38 => ?_) (fun c_38 => ?_)
          · refine v_iconst (q := 46) (v := 0) hC dX12_isOfGroup_45 rfl (by decide) ?_
            refine v_iret hC dX12_isOfGroup_46 hr (by first | rfl | exact nar_b) ?_ (Nat.le_of_ble_eq_true rfl) (Nat.le_of_ble_eq_true rfl)
            first | exact ⟨by rw [show mIsOf (G.2.1 0 30) (mGs (G.2.1 0 30)) u j = _ from c_38]; rfl, rfl⟩ | exact mg_f (by simp_all [ms_row])
          · refine v_iconst (q := 42) (v := 1) hC dX12_isOfGroup_41 rfl (by decide) ?_
            refine v_goto (q := 46) hC dX12_isOfGroup_42 (by decide) ?_
            refine v_iret hC dX12_isOfGroup_46 hr (by first | rfl | exact nar_b) ?_ (Nat.le_of_ble_eq_true rfl) (Nat.le_of_ble_eq_true rfl)
            first | exact ⟨by rw [show mIsOf (G.2.1 0 30) (mGs (G.2.1 0 30)) u j = _ from c_38]; rfl, rfl⟩ | exact mg_f (by simp_all [ms_row])
    · refine v_iconst (q := 18) (v := 0) hC dX12_isOfGroup_17 rfl (by decide) ?_
      refine v_goto (q := 22) hC dX12_isOfGroup_18 (by decide) ?_
      refine pm_last (q := 25) hC dX12_isOfGroup_22 rfl rfl fl_RX12_39 ?_
      refine v_aload_n (i := 0) (q := 26) hC dX12_isOfGroup_25 rfl rfl rfl ?_
      refine gm_last (q := 29) hC dX12_isOfGroup_26 rfl rfl fl_RX12_39 ?_
      refine v_if_ne (q := 45) (q2 := 32) hC dX12_isOfGroup_29 (by decide) rfl (fun c_29 => ?_) (fun c_29 => ?_)
      · first
        | exact absurd c_29 (by decide)
        |
          refine v_iconst (q := 46) (v := 0) hC dX12_isOfGroup_45 rfl (by decide) ?_
          refine v_iret hC dX12_isOfGroup_46 hr (by first | rfl | exact nar_b) ?_ (Nat.le_of_ble_eq_true rfl) (Nat.le_of_ble_eq_true rfl)
          first | exact ⟨by rw [show mIsOf (G.2.1 0 30) (mGs (G.2.1 0 30)) u j = _ from c_38]; rfl, rfl⟩ | exact mg_f (by simp_all [ms_row])
      · first
        | exact absurd c_29 (by decide)
        |
          rw [mg_t (by simp_all [ms_row])]
          obtain ⟨j, hj, rfl⟩ := mIn_lt (show mIn g 0 (G.2.1 0 30 1 - 1) = true by simp_all [ms_row]) hm.2.gs (by have := hm.2.gs8; omega)
          have hj8 := hm.2.gs8
          rw [nI_clamp (show j < 2 ^ 31 by omega)]
          refine v_aload_n (i := 0) (q := 33) hC dX12_isOfGroup_32 rfl rfl rfl ?_
          refine v_iload_n (i := 1) (q := 34) hC dX12_isOfGroup_33 rfl rfl rfl ?_
          refine v_iload_n (i := 2) (q := 35) hC dX12_isOfGroup_34 rfl rfl rfl ?_
          refine v_callV (q := 38) (rm := rm_X12_isOf) hC (c_X12_isOf hl Θ u j (mGs (G.2.1 0 30)) _ (by omega) hm.2.gs hm.2.gs8) k_X12_isOf im_yX12_isOf se_yX12_isOf ml_RX12_73 dX12_isOfGroup_35 rfl rfl rfl rfl rfl rfl (Nat.le_of_ble_eq_true rfl) ⟨Nat.le_of_ble_eq_true rfl, Nat.le_of_ble_eq_true rfl⟩ ⟨Nat.le_of_ble_eq_true rfl, Nat.le_of_ble_eq_true rfl⟩ (fR_k ?_) fR_x (Nat.le_of_ble_eq_true rfl) (Nat.le_of_ble_eq_true rfl)
          try dsimp only [Option.toList, List.cons_append, List.nil_append]
          refine v_ifb_eq (q := 45) (q2 := 41) hC dX12_isOfGroup_38 (by decide) rfl (fun c_38 => ?_) (fun c_38 => ?_)
          · refine v_iconst (q := 46) (v := 0) hC dX12_isOfGroup_45 rfl (by decide) ?_
            refine v_iret hC dX12_isOfGroup_46 hr (by first | rfl | exact nar_b) ?_ (Nat.le_of_ble_eq_true rfl) (Nat.le_of_ble_eq_true rfl)
            first | exact ⟨by rw [show mIsOf (G.2.1 0 30) (mGs (G.2.1 0 30)) u j = _ from c_38]; rfl, rfl⟩ | exact mg_f (by simp_all [ms_row])
          · refine v_iconst (q := 42) (v := 1) hC dX12_isOfGroup_41 rfl (by decide) ?_
            refine v_goto (q := 46) hC dX12_isOfGroup_42 (by decide) ?_
            refine v_iret hC dX12_isOfGroup_46 hr (by first | rfl | exact nar_b) ?_ (Nat.le_of_ble_eq_true rfl) (Nat.le_of_ble_eq_true rfl)
            first | exact ⟨by rw [show mIsOf (G.2.1 0 30) (mGs (G.2.1 0 30)) u j = _ from c_38]; rfl, rfl⟩ | exact mg_f (by simp_all [ms_row])
theorem mg_k {b : Bool} {k : Int32} {v : Int32} {G1 G G2 : GS} {r : Option Value} (h : mg b k (fR (some (.int v)) G1) G (.inl r) G2) : ∃ x : Int32, r = some (.int x) := by
  unfold mg at h
  by_cases h1 : b = true
  · rw [if_pos h1] at h
    have h4 := h.1
    cases h4
    exact ⟨_, rfl⟩
  · rw [if_neg h1] at h
    have h4 := h.1
    cases h4
    exact ⟨_, rfl⟩
/-- what is answered of an object or an entry, as a number -/
def mOv (b : Bool) (x : Int32) (G : GS) : cOut → GS → Prop := mg b 1 (fR (some (.int x)) (ms 0 G)) G
theorem mOv_c {b : Bool} {x : Int32} {G G2 : GS} {r : Option Value} (h : mOv b x G (.inl r) G2) : (b = true ∧ r = some (.int x) ∧ G2 = ms 0 G) ∨ (b = false ∧ r = some (.int 0) ∧ G2 = ms 1 G) := by
  unfold mOv mg at h
  by_cases h1 : b = true
  · rw [if_pos h1] at h
    have h4 := h.1
    cases h4
    exact Or.inl ⟨h1, rfl, h.2⟩
  · rw [if_neg h1] at h
    have h4 := h.1
    cases h4
    exact Or.inr ⟨by simpa using h1, rfl, h.2⟩
theorem mOv_x {b : Bool} {x : Int32} {G G2 : GS} {E : String} {Q : cOut → GS → Prop} (h : mOv b x G (.inr E) G2) : Q (.inr E) G2 := by
  unfold mOv mg at h
  by_cases h1 : b = true
  · rw [if_pos h1] at h
    cases h.1
  · rw [if_neg h1] at h
    cases h.1
theorem mOv_t {b : Bool} {x : Int32} {G : GS} (h : b = true) : mOv b x G (.inl (some (.int x))) (ms 0 G) := by
  unfold mOv
  rw [mg_t h]
  exact ⟨rfl, rfl⟩
theorem mOv_f {b : Bool} {x : Int32} {G : GS} (h : b = false) : mOv b x G (.inl (some (.int 0))) (ms 1 G) := mg_f h
set_option maxHeartbeats 4000000 in
set_option maxRecDepth 20000 in
theorem c_X12_belongs {l : Launch} (hl : l.stackTraces = false) (Θ : cTH) (u g : Int32) (G : GS) (hm : mInv G) : Ct l yX12_belongs cX12_belongs 3 (some .boolean) rm_X12_belongs Θ [.ref (tR Θ 0 29), .int u, .int g] (G) (mOGQ u g G) := by
  refine ct_of (LS := [some (.ref (tR Θ 0 29)), some (.int u), some (.int g)]) hl (by decide +kernel) rfl (Nat.le_of_ble_eq_true rfl) rfl ?_
  intro p e s m args below meth c hC hr
  refine v_aload_n (i := 0) (q := 1) hC dX12_belongs_0 rfl rfl rfl ?_
  refine v_iload_n (i := 1) (q := 2) hC dX12_belongs_1 rfl rfl rfl ?_
  refine v_iload_n (i := 2) (q := 3) hC dX12_belongs_2 rfl rfl rfl ?_
  refine v_callV (q := 6) (rm := rm_X12_isOfGroup) hC (c_X12_isOfGroup hl Θ u g G hm) k_X12_isOfGroup im_yX12_isOfGroup se_yX12_isOfGroup ml_RX12_209 dX12_belongs_3 rfl rfl rfl rfl rfl rfl (Nat.le_of_ble_eq_true rfl) ⟨Nat.le_of_ble_eq_true rfl, Nat.le_of_ble_eq_true rfl⟩ ⟨Nat.le_of_ble_eq_true rfl, Nat.le_of_ble_eq_true rfl⟩ (fun r9 G9 z9 => ?_) (fun _ _ z => z) (Nat.le_of_ble_eq_true rfl) (Nat.le_of_ble_eq_true rfl)
  try dsimp only [Option.toList, List.cons_append, List.nil_append]
  obtain ⟨x9, rfl⟩ := mg_k z9
  dsimp only [Option.toList, List.cons_append, List.nil_append]
  refine v_iret hC dX12_belongs_6 hr (by unfold mOGQ mg fR at z9; split at z9 <;> (have z8 := z9.1; cases z8; first | exact nar_b | rfl)) ?_ (Nat.le_of_ble_eq_true rfl) (Nat.le_of_ble_eq_true rfl)
  exact z9
set_option maxHeartbeats 4000000 in
set_option maxRecDepth 20000 in
theorem c_X12_belongsByMembers {l : Launch} (hl : l.stackTraces = false) (Θ : cTH) (u g : Int32) (G : GS) (hm : mInv G) : Ct l yX12_belongsByMembers cX12_belongsByMembers 3 (some .boolean) rm_X12_belongsByMembers Θ [.ref (tR Θ 0 29), .int u, .int g] (G) (mOGQ u g G) := by
  refine ct_of (LS := [some (.ref (tR Θ 0 29)), some (.int u), some (.int g)]) hl (by decide +kernel) rfl (Nat.le_of_ble_eq_true rfl) rfl ?_
  intro p e s m args below meth c hC hr
  refine v_aload_n (i := 0) (q := 1) hC dX12_belongsByMembers_0 rfl rfl rfl ?_
  refine v_iload_n (i := 1) (q := 2) hC dX12_belongsByMembers_1 rfl rfl rfl ?_
  refine v_iload_n (i := 2) (q := 3) hC dX12_belongsByMembers_2 rfl rfl rfl ?_
  refine v_callV (q := 6) (rm := rm_X12_isOfGroup) hC (c_X12_isOfGroup hl Θ u g G hm) k_X12_isOfGroup im_yX12_isOfGroup se_yX12_isOfGroup ml_RX12_209 dX12_belongsByMembers_3 rfl rfl rfl rfl rfl rfl (Nat.le_of_ble_eq_true rfl) ⟨Nat.le_of_ble_eq_true rfl, Nat.le_of_ble_eq_true rfl⟩ ⟨Nat.le_of_ble_eq_true rfl, Nat.le_of_ble_eq_true rfl⟩ (fun r9 G9 z9 => ?_) (fun _ _ z => z) (Nat.le_of_ble_eq_true rfl) (Nat.le_of_ble_eq_true rfl)
  try dsimp only [Option.toList, List.cons_append, List.nil_append]
  obtain ⟨x9, rfl⟩ := mg_k z9
  dsimp only [Option.toList, List.cons_append, List.nil_append]
  refine v_iret hC dX12_belongsByMembers_6 hr (by unfold mOGQ mg fR at z9; split at z9 <;> (have z8 := z9.1; cases z8; first | exact nar_b | rfl)) ?_ (Nat.le_of_ble_eq_true rfl) (Nat.le_of_ble_eq_true rfl)
  exact z9
set_option maxHeartbeats 4000000 in
set_option maxRecDepth 20000 in
theorem c_X12_objects {l : Launch} (hl : l.stackTraces = false) (Θ : cTH) (G : GS) (hm : mInv G) : Ct l yX12_objects cX12_objects 1 (some .int) rm_X12_objects Θ [.ref (tR Θ 0 29)] (G) (fR (some (.int (mHo (G.2.1 0 30) 20 0 0))) (ms 0 G)) := by
  refine ct_of (LS := [some (.ref (tR Θ 0 29))]) hl (by decide +kernel) rfl (Nat.le_of_ble_eq_true rfl) rfl ?_
  intro p e s m args below meth c hC hr
  refine v_aload_n (i := 0) (q := 1) hC dX12_objects_0 rfl rfl rfl ?_
  refine v_iconst (q := 2) (v := 0) hC dX12_objects_1 rfl (by decide) ?_
  refine pm_last (q := 5) hC dX12_objects_2 rfl rfl fl_RX12_39 ?_
  refine v_aload_n (i := 0) (q := 6) hC dX12_objects_5 rfl rfl rfl ?_
  refine v_callV (q := 9) (rm := rm_X12_howManyObjects) hC (c_X12_howManyObjects hl Θ _) k_X12_howManyObjects im_yX12_howManyObjects se_yX12_howManyObjects ml_RX12_94 dX12_objects_6 rfl rfl rfl rfl rfl rfl (Nat.le_of_ble_eq_true rfl) ⟨Nat.le_of_ble_eq_true rfl, Nat.le_of_ble_eq_true rfl⟩ ⟨Nat.le_of_ble_eq_true rfl, Nat.le_of_ble_eq_true rfl⟩ (fR_k ?_) fR_x (Nat.le_of_ble_eq_true rfl) (Nat.le_of_ble_eq_true rfl)
  try dsimp only [Option.toList, List.cons_append, List.nil_append]
  refine v_iret hC dX12_objects_9 hr (rfl) ?_ (Nat.le_of_ble_eq_true rfl) (Nat.le_of_ble_eq_true rfl)
  exact ⟨rfl, rfl⟩
set_option maxHeartbeats 4000000 in
set_option maxRecDepth 20000 in
theorem c_X12_isThere {l : Launch} (hl : l.stackTraces = false) (Θ : cTH) (o : Int32) (G : GS) (hm : mInv G) : Ct l yX12_isThere cX12_isThere 2 (some .boolean) rm_X12_isThere Θ [.ref (tR Θ 0 29), .int o] (G) (fR (some (.int (b2i (mHold (G.2.1 0 30) o)))) (ms 0 G)) := by
  refine ct_of (LS := [some (.ref (tR Θ 0 29)), some (.int o)]) hl (by decide +kernel) rfl (Nat.le_of_ble_eq_true rfl) rfl ?_
  intro p e s m args below meth c hC hr
  refine v_aload_n (i := 0) (q := 1) hC dX12_isThere_0 rfl rfl rfl ?_
  refine v_iconst (q := 2) (v := 0) hC dX12_isThere_1 rfl (by decide) ?_
  refine pm_last (q := 5) hC dX12_isThere_2 rfl rfl fl_RX12_39 ?_
  refine v_aload_n (i := 0) (q := 6) hC dX12_isThere_5 rfl rfl rfl ?_
  refine v_iload_n (i := 1) (q := 7) hC dX12_isThere_6 rfl rfl rfl ?_
  refine v_callV (q := 10) (rm := rm_X12_isObject) hC (c_X12_isObject hl Θ _ _) k_X12_isObject im_yX12_isObject se_yX12_isObject ml_RX12_57 dX12_isThere_7 rfl rfl rfl rfl rfl rfl (Nat.le_of_ble_eq_true rfl) ⟨Nat.le_of_ble_eq_true rfl, Nat.le_of_ble_eq_true rfl⟩ ⟨Nat.le_of_ble_eq_true rfl, Nat.le_of_ble_eq_true rfl⟩ (fR_k ?_) fR_x (Nat.le_of_ble_eq_true rfl) (Nat.le_of_ble_eq_true rfl)
  try dsimp only [Option.toList, List.cons_append, List.nil_append]
  refine v_iret hC dX12_isThere_10 hr (by first | rfl | exact nar_b) ?_ (Nat.le_of_ble_eq_true rfl) (Nat.le_of_ble_eq_true rfl)
  exact ⟨rfl, rfl⟩
set_option maxHeartbeats 4000000 in
set_option maxRecDepth 20000 in
theorem c_X12_ofObject {l : Launch} (hl : l.stackTraces = false) (Θ : cTH) (o : Int32) (k : Nat) (G : GS) (hk : k < 36) : Ct l yX12_ofObject cX12_ofObject 3 (some .int) rm_X12_ofObject Θ [.ref (tR Θ 0 29), .int o, .int (nI k)] (G) (mOv (mHold (G.2.1 0 30) o) (G.2.1 0 30 (oA o.toNatClampNeg k)) G) := by
  refine ct_of (LS := [some (.ref (tR Θ 0 29)), some (.int o), some (.int (nI k))]) hl (by decide +kernel) rfl (Nat.le_of_ble_eq_true rfl) rfl ?_
  intro p e s m args below meth c hC hr
  refine v_aload_n (i := 0) (q := 1) hC dX12_ofObject_0 rfl rfl rfl ?_
  refine v_aload_n (i := 0) (q := 2) hC dX12_ofObject_1 rfl rfl rfl ?_
  refine v_iload_n (i := 1) (q := 3) hC dX12_ofObject_2 rfl rfl rfl ?_
  refine v_callV (q := 6) (rm := rm_X12_isObject) hC (c_X12_isObject hl Θ _ _) k_X12_isObject im_yX12_isObject se_yX12_isObject ml_RX12_57 dX12_ofObject_3 rfl rfl rfl rfl rfl rfl (Nat.le_of_ble_eq_true rfl) ⟨Nat.le_of_ble_eq_true rfl, Nat.le_of_ble_eq_true rfl⟩ ⟨Nat.le_of_ble_eq_true rfl, Nat.le_of_ble_eq_true rfl⟩ (fR_k ?_) fR_x (Nat.le_of_ble_eq_true rfl) (Nat.le_of_ble_eq_true rfl)
  try dsimp only [Option.toList, List.cons_append, List.nil_append]
  refine v_ifb_eq (q := 13) (q2 := 9) hC dX12_ofObject_6 (by decide) rfl (fun c_6 => ?_) (fun c_6 => ?_)
  · refine v_iconst (q := 14) (v := 1) hC dX12_ofObject_13 rfl (by decide) ?_
    refine pm_last (q := 17) hC dX12_ofObject_14 rfl rfl fl_RX12_39 ?_
    refine v_aload_n (i := 0) (q := 18) hC dX12_ofObject_17 rfl rfl rfl ?_
    refine gm_last (q := 21) hC dX12_ofObject_18 rfl rfl fl_RX12_39 ?_
    refine v_if_ne (q := 33) (q2 := 24) hC dX12_ofObject_21 (by decide) rfl (fun c_21 => ?_) (fun c_21 => ?_)
    · first
      | exact absurd c_21 (by decide)
      |
        refine v_iconst (q := 34) (v := 0) hC dX12_ofObject_33 rfl (by decide) ?_
        refine v_iret hC dX12_ofObject_34 hr (rfl) ?_ (Nat.le_of_ble_eq_true rfl) (Nat.le_of_ble_eq_true rfl)
        first | exact mOv_f c_6 | exact mOv_t c_6
    · first
      | exact absurd c_21 (by decide)
      |
        refine v_aload_n (i := 0) (q := 25) hC dX12_ofObject_24 rfl rfl rfl ?_
        refine v_iload_n (i := 1) (q := 26) hC dX12_ofObject_25 rfl rfl rfl ?_
        refine v_iload_n (i := 2) (q := 27) hC dX12_ofObject_26 rfl rfl rfl ?_
        refine v_callV (q := 30) (rm := rm_X12_of) hC (c_X12_ofI hl Θ o k _ (mHold_in c_6) hk) k_X12_of im_yX12_of se_yX12_of ml_RX12_54 dX12_ofObject_27 rfl rfl rfl rfl rfl rfl (Nat.le_of_ble_eq_true rfl) ⟨Nat.le_of_ble_eq_true rfl, Nat.le_of_ble_eq_true rfl⟩ ⟨Nat.le_of_ble_eq_true rfl, Nat.le_of_ble_eq_true rfl⟩ (fR_k ?_) fR_x (Nat.le_of_ble_eq_true rfl) (Nat.le_of_ble_eq_true rfl)
        try dsimp only [Option.toList, List.cons_append, List.nil_append]
        refine v_goto (q := 34) hC dX12_ofObject_30 (by decide) ?_
        refine v_iret hC dX12_ofObject_34 hr (rfl) ?_ (Nat.le_of_ble_eq_true rfl) (Nat.le_of_ble_eq_true rfl)
        first | exact mOv_f c_6 | exact mOv_t c_6
  · refine v_iconst (q := 10) (v := 0) hC dX12_ofObject_9 rfl (by decide) ?_
    refine v_goto (q := 14) hC dX12_ofObject_10 (by decide) ?_
    refine pm_last (q := 17) hC dX12_ofObject_14 rfl rfl fl_RX12_39 ?_
    refine v_aload_n (i := 0) (q := 18) hC dX12_ofObject_17 rfl rfl rfl ?_
    refine gm_last (q := 21) hC dX12_ofObject_18 rfl rfl fl_RX12_39 ?_
    refine v_if_ne (q := 33) (q2 := 24) hC dX12_ofObject_21 (by decide) rfl (fun c_21 => ?_) (fun c_21 => ?_)
    · first
      | exact absurd c_21 (by decide)
      |
        refine v_iconst (q := 34) (v := 0) hC dX12_ofObject_33 rfl (by decide) ?_
        refine v_iret hC dX12_ofObject_34 hr (rfl) ?_ (Nat.le_of_ble_eq_true rfl) (Nat.le_of_ble_eq_true rfl)
        first | exact mOv_f c_6 | exact mOv_t c_6
    · first
      | exact absurd c_21 (by decide)
      |
        refine v_aload_n (i := 0) (q := 25) hC dX12_ofObject_24 rfl rfl rfl ?_
        refine v_iload_n (i := 1) (q := 26) hC dX12_ofObject_25 rfl rfl rfl ?_
        refine v_iload_n (i := 2) (q := 27) hC dX12_ofObject_26 rfl rfl rfl ?_
        refine v_callV (q := 30) (rm := rm_X12_of) hC (c_X12_ofI hl Θ o k _ (mHold_in c_6) hk) k_X12_of im_yX12_of se_yX12_of ml_RX12_54 dX12_ofObject_27 rfl rfl rfl rfl rfl rfl (Nat.le_of_ble_eq_true rfl) ⟨Nat.le_of_ble_eq_true rfl, Nat.le_of_ble_eq_true rfl⟩ ⟨Nat.le_of_ble_eq_true rfl, Nat.le_of_ble_eq_true rfl⟩ (fR_k ?_) fR_x (Nat.le_of_ble_eq_true rfl) (Nat.le_of_ble_eq_true rfl)
        try dsimp only [Option.toList, List.cons_append, List.nil_append]
        refine v_goto (q := 34) hC dX12_ofObject_30 (by decide) ?_
        refine v_iret hC dX12_ofObject_34 hr (rfl) ?_ (Nat.le_of_ble_eq_true rfl) (Nat.le_of_ble_eq_true rfl)
        first | exact mOv_f c_6 | exact mOv_t c_6
set_option maxHeartbeats 4000000 in
set_option maxRecDepth 20000 in
theorem c_X12_parentOf {l : Launch} (hl : l.stackTraces = false) (Θ : cTH) (o : Int32) (G : GS) : Ct l yX12_parentOf cX12_parentOf 2 (some .int) rm_X12_parentOf Θ [.ref (tR Θ 0 29), .int o] (G) (mOv (mHold (G.2.1 0 30) o) (G.2.1 0 30 (oA o.toNatClampNeg 1)) G) := by
  refine ct_of (LS := [some (.ref (tR Θ 0 29)), some (.int o)]) hl (by decide +kernel) rfl (Nat.le_of_ble_eq_true rfl) rfl ?_
  intro p e s m args below meth c hC hr
  refine v_aload_n (i := 0) (q := 1) hC dX12_parentOf_0 rfl rfl rfl ?_
  refine v_iload_n (i := 1) (q := 2) hC dX12_parentOf_1 rfl rfl rfl ?_
  refine v_iconst (q := 3) (v := 1) hC dX12_parentOf_2 rfl (by decide) ?_
  refine v_callV (q := 6) (rm := rm_X12_ofObject) hC (c_X12_ofObject hl Θ o 1 G (by omega)) k_X12_ofObject im_yX12_ofObject se_yX12_ofObject ml_RX12_212 dX12_parentOf_3 rfl rfl rfl rfl rfl rfl (Nat.le_of_ble_eq_true rfl) ⟨Nat.le_of_ble_eq_true rfl, Nat.le_of_ble_eq_true rfl⟩ ⟨Nat.le_of_ble_eq_true rfl, Nat.le_of_ble_eq_true rfl⟩ (fun r9 G9 z9 => ?_) (fun _ _ z => z) (Nat.le_of_ble_eq_true rfl) (Nat.le_of_ble_eq_true rfl)
  try dsimp only [Option.toList, List.cons_append, List.nil_append]
  obtain ⟨x9, rfl⟩ := mg_k z9
  dsimp only [Option.toList, List.cons_append, List.nil_append]
  refine v_iret hC dX12_parentOf_6 hr (rfl) ?_ (Nat.le_of_ble_eq_true rfl) (Nat.le_of_ble_eq_true rfl)
  exact z9
set_option maxHeartbeats 4000000 in
set_option maxRecDepth 20000 in
theorem c_X12_ownerOf {l : Launch} (hl : l.stackTraces = false) (Θ : cTH) (o : Int32) (G : GS) : Ct l yX12_ownerOf cX12_ownerOf 2 (some .int) rm_X12_ownerOf Θ [.ref (tR Θ 0 29), .int o] (G) (mOv (mHold (G.2.1 0 30) o) (G.2.1 0 30 (oA o.toNatClampNeg 2)) G) := by
  refine ct_of (LS := [some (.ref (tR Θ 0 29)), some (.int o)]) hl (by decide +kernel) rfl (Nat.le_of_ble_eq_true rfl) rfl ?_
  intro p e s m args below meth c hC hr
  refine v_aload_n (i := 0) (q := 1) hC dX12_ownerOf_0 rfl rfl rfl ?_
  refine v_iload_n (i := 1) (q := 2) hC dX12_ownerOf_1 rfl rfl rfl ?_
  refine v_iconst (q := 3) (v := 2) hC dX12_ownerOf_2 rfl (by decide) ?_
  refine v_callV (q := 6) (rm := rm_X12_ofObject) hC (c_X12_ofObject hl Θ o 2 G (by omega)) k_X12_ofObject im_yX12_ofObject se_yX12_ofObject ml_RX12_212 dX12_ownerOf_3 rfl rfl rfl rfl rfl rfl (Nat.le_of_ble_eq_true rfl) ⟨Nat.le_of_ble_eq_true rfl, Nat.le_of_ble_eq_true rfl⟩ ⟨Nat.le_of_ble_eq_true rfl, Nat.le_of_ble_eq_true rfl⟩ (fun r9 G9 z9 => ?_) (fun _ _ z => z) (Nat.le_of_ble_eq_true rfl) (Nat.le_of_ble_eq_true rfl)
  try dsimp only [Option.toList, List.cons_append, List.nil_append]
  obtain ⟨x9, rfl⟩ := mg_k z9
  dsimp only [Option.toList, List.cons_append, List.nil_append]
  refine v_iret hC dX12_ownerOf_6 hr (rfl) ?_ (Nat.le_of_ble_eq_true rfl) (Nat.le_of_ble_eq_true rfl)
  exact z9
set_option maxHeartbeats 4000000 in
set_option maxRecDepth 20000 in
theorem c_X12_maskOf {l : Launch} (hl : l.stackTraces = false) (Θ : cTH) (o : Int32) (G : GS) : Ct l yX12_maskOf cX12_maskOf 2 (some .int) rm_X12_maskOf Θ [.ref (tR Θ 0 29), .int o] (G) (mOv (mHold (G.2.1 0 30) o) (G.2.1 0 30 (oA o.toNatClampNeg 3)) G) := by
  refine ct_of (LS := [some (.ref (tR Θ 0 29)), some (.int o)]) hl (by decide +kernel) rfl (Nat.le_of_ble_eq_true rfl) rfl ?_
  intro p e s m args below meth c hC hr
  refine v_aload_n (i := 0) (q := 1) hC dX12_maskOf_0 rfl rfl rfl ?_
  refine v_iload_n (i := 1) (q := 2) hC dX12_maskOf_1 rfl rfl rfl ?_
  refine v_iconst (q := 3) (v := 3) hC dX12_maskOf_2 rfl (by decide) ?_
  refine v_callV (q := 6) (rm := rm_X12_ofObject) hC (c_X12_ofObject hl Θ o 3 G (by omega)) k_X12_ofObject im_yX12_ofObject se_yX12_ofObject ml_RX12_212 dX12_maskOf_3 rfl rfl rfl rfl rfl rfl (Nat.le_of_ble_eq_true rfl) ⟨Nat.le_of_ble_eq_true rfl, Nat.le_of_ble_eq_true rfl⟩ ⟨Nat.le_of_ble_eq_true rfl, Nat.le_of_ble_eq_true rfl⟩ (fun r9 G9 z9 => ?_) (fun _ _ z => z) (Nat.le_of_ble_eq_true rfl) (Nat.le_of_ble_eq_true rfl)
  try dsimp only [Option.toList, List.cons_append, List.nil_append]
  obtain ⟨x9, rfl⟩ := mg_k z9
  dsimp only [Option.toList, List.cons_append, List.nil_append]
  refine v_iret hC dX12_maskOf_6 hr (rfl) ?_ (Nat.le_of_ble_eq_true rfl) (Nat.le_of_ble_eq_true rfl)
  exact z9
set_option maxHeartbeats 4000000 in
set_option maxRecDepth 20000 in
theorem c_X12_entriesOf {l : Launch} (hl : l.stackTraces = false) (Θ : cTH) (o : Int32) (G : GS) : Ct l yX12_entriesOf cX12_entriesOf 2 (some .int) rm_X12_entriesOf Θ [.ref (tR Θ 0 29), .int o] (G) (mOv (mHold (G.2.1 0 30) o) (G.2.1 0 30 (oA o.toNatClampNeg 5)) G) := by
  refine ct_of (LS := [some (.ref (tR Θ 0 29)), some (.int o)]) hl (by decide +kernel) rfl (Nat.le_of_ble_eq_true rfl) rfl ?_
  intro p e s m args below meth c hC hr
  refine v_aload_n (i := 0) (q := 1) hC dX12_entriesOf_0 rfl rfl rfl ?_
  refine v_iload_n (i := 1) (q := 2) hC dX12_entriesOf_1 rfl rfl rfl ?_
  refine v_iconst (q := 3) (v := 5) hC dX12_entriesOf_2 rfl (by decide) ?_
  refine v_callV (q := 6) (rm := rm_X12_ofObject) hC (c_X12_ofObject hl Θ o 5 G (by omega)) k_X12_ofObject im_yX12_ofObject se_yX12_ofObject ml_RX12_212 dX12_entriesOf_3 rfl rfl rfl rfl rfl rfl (Nat.le_of_ble_eq_true rfl) ⟨Nat.le_of_ble_eq_true rfl, Nat.le_of_ble_eq_true rfl⟩ ⟨Nat.le_of_ble_eq_true rfl, Nat.le_of_ble_eq_true rfl⟩ (fun r9 G9 z9 => ?_) (fun _ _ z => z) (Nat.le_of_ble_eq_true rfl) (Nat.le_of_ble_eq_true rfl)
  try dsimp only [Option.toList, List.cons_append, List.nil_append]
  obtain ⟨x9, rfl⟩ := mg_k z9
  dsimp only [Option.toList, List.cons_append, List.nil_append]
  refine v_iret hC dX12_entriesOf_6 hr (rfl) ?_ (Nat.le_of_ble_eq_true rfl) (Nat.le_of_ble_eq_true rfl)
  exact z9
set_option maxHeartbeats 4000000 in
set_option maxRecDepth 20000 in
theorem c_X12_isInheriting {l : Launch} (hl : l.stackTraces = false) (Θ : cTH) (o : Int32) (G : GS) : Ct l yX12_isInheriting cX12_isInheriting 2 (some .boolean) rm_X12_isInheriting Θ [.ref (tR Θ 0 29), .int o] (G) (mOv (mHold (G.2.1 0 30) o) (b2i (decide (G.2.1 0 30 (oA o.toNatClampNeg 4) = 1))) G) := by
  refine ct_of (LS := [some (.ref (tR Θ 0 29)), some (.int o)]) hl (by decide +kernel) rfl (Nat.le_of_ble_eq_true rfl) rfl ?_
  intro p e s m args below meth c hC hr
  have L1 : (mHold (G.2.1 0 30) o) = true → V p l e rm_X12_isInheriting s m args below meth c 2 Θ (mOv (mHold (G.2.1 0 30) o) (b2i (decide (G.2.1 0 30 (oA o.toNatClampNeg 4) = 1))) G) rm_X12_isInheriting.cells rm_X12_isInheriting.slots 0 0 6 [some (.ref (tR Θ 0 29)), some (.int o)] [.int (G.2.1 0 30 (oA o.toNatClampNeg 4))] (ms 0 G) := by
    intro h1
    refine v_iconst (q := 7) (v := 1) hC dX12_isInheriting_6 rfl (by decide) ?_
    refine v_icmp_ne (q := 14) (q2 := 10) hC dX12_isInheriting_7 (by decide) rfl (fun c_7 => ?_) (fun c_7 => ?_)
    · refine v_iconst (q := 15) (v := 0) hC dX12_isInheriting_14 rfl (by decide) ?_
      refine v_iret hC dX12_isInheriting_15 hr (rfl) ?_ (Nat.le_of_ble_eq_true rfl) (Nat.le_of_ble_eq_true rfl)
      first
        | (have e1 := mOv_t (x := b2i (decide (G.2.1 0 30 (oA o.toNatClampNeg 4) = 1))) (G := G) h1
           rw [decide_eq_true c_7] at e1 ⊢; exact e1)
        | (have e1 := mOv_t (x := b2i (decide (G.2.1 0 30 (oA o.toNatClampNeg 4) = 1))) (G := G) h1
           rw [decide_eq_false c_7] at e1 ⊢; exact e1)
    · refine v_iconst (q := 11) (v := 1) hC dX12_isInheriting_10 rfl (by decide) ?_
      refine v_goto (q := 15) hC dX12_isInheriting_11 (by decide) ?_
      refine v_iret hC dX12_isInheriting_15 hr (rfl) ?_ (Nat.le_of_ble_eq_true rfl) (Nat.le_of_ble_eq_true rfl)
      first
        | (have e1 := mOv_t (x := b2i (decide (G.2.1 0 30 (oA o.toNatClampNeg 4) = 1))) (G := G) h1
           rw [decide_eq_true c_7] at e1 ⊢; exact e1)
        | (have e1 := mOv_t (x := b2i (decide (G.2.1 0 30 (oA o.toNatClampNeg 4) = 1))) (G := G) h1
           rw [decide_eq_false c_7] at e1 ⊢; exact e1)
  have L0 : (mHold (G.2.1 0 30) o) = false → V p l e rm_X12_isInheriting s m args below meth c 2 Θ (mOv (mHold (G.2.1 0 30) o) (b2i (decide (G.2.1 0 30 (oA o.toNatClampNeg 4) = 1))) G) rm_X12_isInheriting.cells rm_X12_isInheriting.slots 0 0 6 [some (.ref (tR Θ 0 29)), some (.int o)] [.int 0] (ms 1 G) := by
    intro h1
    refine v_iconst (q := 7) (v := 1) hC dX12_isInheriting_6 rfl (by decide) ?_
    refine v_icmp_ne (q := 14) (q2 := 10) hC dX12_isInheriting_7 (by decide) rfl (fun c_7 => ?_) (fun c_7 => ?_)
    · refine v_iconst (q := 15) (v := 0) hC dX12_isInheriting_14 rfl (by decide) ?_
      refine v_iret hC dX12_isInheriting_15 hr (rfl) ?_ (Nat.le_of_ble_eq_true rfl) (Nat.le_of_ble_eq_true rfl)
      exact mOv_f h1
    · exact absurd c_7 (by decide)
  refine v_aload_n (i := 0) (q := 1) hC dX12_isInheriting_0 rfl rfl rfl ?_
  refine v_iload_n (i := 1) (q := 2) hC dX12_isInheriting_1 rfl rfl rfl ?_
  refine v_iconst (q := 3) (v := 4) hC dX12_isInheriting_2 rfl (by decide) ?_
  refine v_callV (q := 6) (rm := rm_X12_ofObject) hC (c_X12_ofObject hl Θ o 4 G (by omega)) k_X12_ofObject im_yX12_ofObject se_yX12_ofObject ml_RX12_212 dX12_isInheriting_3 rfl rfl rfl rfl rfl rfl (Nat.le_of_ble_eq_true rfl) ⟨Nat.le_of_ble_eq_true rfl, Nat.le_of_ble_eq_true rfl⟩ ⟨Nat.le_of_ble_eq_true rfl, Nat.le_of_ble_eq_true rfl⟩ (fun r9 G9 z9 => ?_) (fun _ _ z => mOv_x z) (Nat.le_of_ble_eq_true rfl) (Nat.le_of_ble_eq_true rfl)
  try dsimp only [Option.toList, List.cons_append, List.nil_append]
  rcases mOv_c z9 with ⟨h1, rfl, rfl⟩ | ⟨h1, rfl, rfl⟩
  · exact L1 h1
  · exact L0 h1
set_option maxHeartbeats 4000000 in
set_option maxRecDepth 20000 in
theorem c_X12_below {l : Launch} (hl : l.stackTraces = false) (Θ : cTH) (o : Int32) (G : GS) (hm : mInv G) : Ct l yX12_below cX12_below 2 (some .int) rm_X12_below Θ [.ref (tR Θ 0 29), .int o] (G) (mOv (mHold (G.2.1 0 30) o) (mBls (G.2.1 0 30) o 20 0 0) G) := by
  refine ct_of (LS := [some (.ref (tR Θ 0 29)), some (.int o)]) hl (by decide +kernel) rfl (Nat.le_of_ble_eq_true rfl) rfl ?_
  intro p e s m args below meth c hC hr
  refine v_aload_n (i := 0) (q := 1) hC dX12_below_0 rfl rfl rfl ?_
  refine v_aload_n (i := 0) (q := 2) hC dX12_below_1 rfl rfl rfl ?_
  refine v_iload_n (i := 1) (q := 3) hC dX12_below_2 rfl rfl rfl ?_
  refine v_callV (q := 6) (rm := rm_X12_isObject) hC (c_X12_isObject hl Θ _ _) k_X12_isObject im_yX12_isObject se_yX12_isObject ml_RX12_57 dX12_below_3 rfl rfl rfl rfl rfl rfl (Nat.le_of_ble_eq_true rfl) ⟨Nat.le_of_ble_eq_true rfl, Nat.le_of_ble_eq_true rfl⟩ ⟨Nat.le_of_ble_eq_true rfl, Nat.le_of_ble_eq_true rfl⟩ (fR_k ?_) fR_x (Nat.le_of_ble_eq_true rfl) (Nat.le_of_ble_eq_true rfl)
  try dsimp only [Option.toList, List.cons_append, List.nil_append]
  refine v_ifb_eq (q := 13) (q2 := 9) hC dX12_below_6 (by decide) rfl (fun c_6 => ?_) (fun c_6 => ?_)
  · refine v_iconst (q := 14) (v := 1) hC dX12_below_13 rfl (by decide) ?_
    refine pm_last (q := 17) hC dX12_below_14 rfl rfl fl_RX12_39 ?_
    refine v_aload_n (i := 0) (q := 18) hC dX12_below_17 rfl rfl rfl ?_
    refine gm_last (q := 21) hC dX12_below_18 rfl rfl fl_RX12_39 ?_
    refine v_if_ne (q := 32) (q2 := 24) hC dX12_below_21 (by decide) rfl (fun c_21 => ?_) (fun c_21 => ?_)
    · first
      | exact absurd c_21 (by decide)
      |
        refine v_iconst (q := 33) (v := 0) hC dX12_below_32 rfl (by decide) ?_
        refine v_iret hC dX12_below_33 hr (rfl) ?_ (Nat.le_of_ble_eq_true rfl) (Nat.le_of_ble_eq_true rfl)
        first | exact mOv_f c_6 | exact mOv_t c_6
    · first
      | exact absurd c_21 (by decide)
      |
        refine v_aload_n (i := 0) (q := 25) hC dX12_below_24 rfl rfl rfl ?_
        refine v_iload_n (i := 1) (q := 26) hC dX12_below_25 rfl rfl rfl ?_
        refine v_callV (q := 29) (rm := rm_X12_belows) hC (c_X12_belows hl Θ _ _ hm.2.rk) k_X12_belows im_yX12_belows se_yX12_belows ml_RX12_98 dX12_below_26 rfl rfl rfl rfl rfl rfl (Nat.le_of_ble_eq_true rfl) ⟨Nat.le_of_ble_eq_true rfl, Nat.le_of_ble_eq_true rfl⟩ ⟨Nat.le_of_ble_eq_true rfl, Nat.le_of_ble_eq_true rfl⟩ (fR_k ?_) fR_x (Nat.le_of_ble_eq_true rfl) (Nat.le_of_ble_eq_true rfl)
        try dsimp only [Option.toList, List.cons_append, List.nil_append]
        refine v_goto (q := 33) hC dX12_below_29 (by decide) ?_
        refine v_iret hC dX12_below_33 hr (rfl) ?_ (Nat.le_of_ble_eq_true rfl) (Nat.le_of_ble_eq_true rfl)
        first | exact mOv_f c_6 | exact mOv_t c_6
  · refine v_iconst (q := 10) (v := 0) hC dX12_below_9 rfl (by decide) ?_
    refine v_goto (q := 14) hC dX12_below_10 (by decide) ?_
    refine pm_last (q := 17) hC dX12_below_14 rfl rfl fl_RX12_39 ?_
    refine v_aload_n (i := 0) (q := 18) hC dX12_below_17 rfl rfl rfl ?_
    refine gm_last (q := 21) hC dX12_below_18 rfl rfl fl_RX12_39 ?_
    refine v_if_ne (q := 32) (q2 := 24) hC dX12_below_21 (by decide) rfl (fun c_21 => ?_) (fun c_21 => ?_)
    · first
      | exact absurd c_21 (by decide)
      |
        refine v_iconst (q := 33) (v := 0) hC dX12_below_32 rfl (by decide) ?_
        refine v_iret hC dX12_below_33 hr (rfl) ?_ (Nat.le_of_ble_eq_true rfl) (Nat.le_of_ble_eq_true rfl)
        first | exact mOv_f c_6 | exact mOv_t c_6
    · first
      | exact absurd c_21 (by decide)
      |
        refine v_aload_n (i := 0) (q := 25) hC dX12_below_24 rfl rfl rfl ?_
        refine v_iload_n (i := 1) (q := 26) hC dX12_below_25 rfl rfl rfl ?_
        refine v_callV (q := 29) (rm := rm_X12_belows) hC (c_X12_belows hl Θ _ _ hm.2.rk) k_X12_belows im_yX12_belows se_yX12_belows ml_RX12_98 dX12_below_26 rfl rfl rfl rfl rfl rfl (Nat.le_of_ble_eq_true rfl) ⟨Nat.le_of_ble_eq_true rfl, Nat.le_of_ble_eq_true rfl⟩ ⟨Nat.le_of_ble_eq_true rfl, Nat.le_of_ble_eq_true rfl⟩ (fR_k ?_) fR_x (Nat.le_of_ble_eq_true rfl) (Nat.le_of_ble_eq_true rfl)
        try dsimp only [Option.toList, List.cons_append, List.nil_append]
        refine v_goto (q := 33) hC dX12_below_29 (by decide) ?_
        refine v_iret hC dX12_below_33 hr (rfl) ?_ (Nat.le_of_ble_eq_true rfl) (Nat.le_of_ble_eq_true rfl)
        first | exact mOv_f c_6 | exact mOv_t c_6
set_option maxHeartbeats 4000000 in
set_option maxRecDepth 20000 in
theorem c_X12_ofTheEntry {l : Launch} (hl : l.stackTraces = false) (Θ : cTH) (o i : Int32) (k : Nat) (G : GS) (hm : mInv G) (hk : k < 5) : Ct l yX12_ofTheEntry cX12_ofTheEntry 4 (some .int) rm_X12_ofTheEntry Θ [.ref (tR Θ 0 29), .int o, .int i, .int (nI k)] (G) (mOv (mEnt (G.2.1 0 30) o i) (G.2.1 0 30 (enA o.toNatClampNeg i.toNatClampNeg k)) G) := by
  refine ct_of (LS := [some (.ref (tR Θ 0 29)), some (.int o), some (.int i), some (.int (nI k))]) hl (by decide +kernel) rfl (Nat.le_of_ble_eq_true rfl) rfl ?_
  intro p e s m args below meth c hC hr
  refine v_aload_n (i := 0) (q := 1) hC dX12_ofTheEntry_0 rfl rfl rfl ?_
  refine v_aload_n (i := 0) (q := 2) hC dX12_ofTheEntry_1 rfl rfl rfl ?_
  refine v_iload_n (i := 1) (q := 3) hC dX12_ofTheEntry_2 rfl rfl rfl ?_
  refine v_iload_n (i := 2) (q := 4) hC dX12_ofTheEntry_3 rfl rfl rfl ?_
  refine v_callV (q := 7) (rm := rm_X12_isEntry) hC (c_X12_isEntry hl Θ _ _ _) k_X12_isEntry im_yX12_isEntry se_yX12_isEntry ml_RX12_112 dX12_ofTheEntry_4 rfl rfl rfl rfl rfl rfl (Nat.le_of_ble_eq_true rfl) ⟨Nat.le_of_ble_eq_true rfl, Nat.le_of_ble_eq_true rfl⟩ ⟨Nat.le_of_ble_eq_true rfl, Nat.le_of_ble_eq_true rfl⟩ (fR_k ?_) fR_x (Nat.le_of_ble_eq_true rfl) (Nat.le_of_ble_eq_true rfl)
  try dsimp only [Option.toList, List.cons_append, List.nil_append]
  refine v_ifb_eq (q := 14) (q2 := 10) hC dX12_ofTheEntry_7 (by decide) rfl (fun c_7 => ?_) (fun c_7 => ?_)
  · refine v_iconst (q := 15) (v := 1) hC dX12_ofTheEntry_14 rfl (by decide) ?_
    refine pm_last (q := 18) hC dX12_ofTheEntry_15 rfl rfl fl_RX12_39 ?_
    refine v_aload_n (i := 0) (q := 19) hC dX12_ofTheEntry_18 rfl rfl rfl ?_
    refine gm_last (q := 22) hC dX12_ofTheEntry_19 rfl rfl fl_RX12_39 ?_
    refine v_if_ne (q := 35) (q2 := 25) hC dX12_ofTheEntry_22 (by decide) rfl (fun c_22 => ?_) (fun c_22 => ?_)
    · first
      | exact absurd c_22 (by decide)
      |
        refine v_iconst (q := 36) (v := 0) hC dX12_ofTheEntry_35 rfl (by decide) ?_
        refine v_iret hC dX12_ofTheEntry_36 hr (rfl) ?_ (Nat.le_of_ble_eq_true rfl) (Nat.le_of_ble_eq_true rfl)
        first | exact mOv_f c_7 | exact mOv_t c_7
    · first
      | exact absurd c_22 (by decide)
      |
        obtain ⟨j, k2, hj, hk2, rfl, rfl⟩ := mEnt_nI hm.2 c_7
        have hc6 := hm.2.ct6 hj
        rw [nI_clamp (show j < 2 ^ 31 by omega), nI_clamp (show k2 < 2 ^ 31 by omega)]
        refine v_aload_n (i := 0) (q := 26) hC dX12_ofTheEntry_25 rfl rfl rfl ?_
        refine v_iload_n (i := 1) (q := 27) hC dX12_ofTheEntry_26 rfl rfl rfl ?_
        refine v_iload_n (i := 2) (q := 28) hC dX12_ofTheEntry_27 rfl rfl rfl ?_
        refine v_iload_n (i := 3) (q := 29) hC dX12_ofTheEntry_28 rfl rfl rfl ?_
        refine v_callV (q := 32) (rm := rm_X12_ofEntry) hC (c_X12_ofEntry hl Θ j k2 k _ (by unfold enA; omega)) k_X12_ofEntry im_yX12_ofEntry se_yX12_ofEntry ml_RX12_122 dX12_ofTheEntry_29 rfl rfl rfl rfl rfl rfl (Nat.le_of_ble_eq_true rfl) ⟨Nat.le_of_ble_eq_true rfl, Nat.le_of_ble_eq_true rfl⟩ ⟨Nat.le_of_ble_eq_true rfl, Nat.le_of_ble_eq_true rfl⟩ (fR_k ?_) fR_x (Nat.le_of_ble_eq_true rfl) (Nat.le_of_ble_eq_true rfl)
        try dsimp only [Option.toList, List.cons_append, List.nil_append]
        refine v_goto (q := 36) hC dX12_ofTheEntry_32 (by decide) ?_
        refine v_iret hC dX12_ofTheEntry_36 hr (rfl) ?_ (Nat.le_of_ble_eq_true rfl) (Nat.le_of_ble_eq_true rfl)
        first | exact mOv_f c_7 | exact mOv_t c_7
  · refine v_iconst (q := 11) (v := 0) hC dX12_ofTheEntry_10 rfl (by decide) ?_
    refine v_goto (q := 15) hC dX12_ofTheEntry_11 (by decide) ?_
    refine pm_last (q := 18) hC dX12_ofTheEntry_15 rfl rfl fl_RX12_39 ?_
    refine v_aload_n (i := 0) (q := 19) hC dX12_ofTheEntry_18 rfl rfl rfl ?_
    refine gm_last (q := 22) hC dX12_ofTheEntry_19 rfl rfl fl_RX12_39 ?_
    refine v_if_ne (q := 35) (q2 := 25) hC dX12_ofTheEntry_22 (by decide) rfl (fun c_22 => ?_) (fun c_22 => ?_)
    · first
      | exact absurd c_22 (by decide)
      |
        refine v_iconst (q := 36) (v := 0) hC dX12_ofTheEntry_35 rfl (by decide) ?_
        refine v_iret hC dX12_ofTheEntry_36 hr (rfl) ?_ (Nat.le_of_ble_eq_true rfl) (Nat.le_of_ble_eq_true rfl)
        first | exact mOv_f c_7 | exact mOv_t c_7
    · first
      | exact absurd c_22 (by decide)
      |
        obtain ⟨j, k2, hj, hk2, rfl, rfl⟩ := mEnt_nI hm.2 c_7
        have hc6 := hm.2.ct6 hj
        rw [nI_clamp (show j < 2 ^ 31 by omega), nI_clamp (show k2 < 2 ^ 31 by omega)]
        refine v_aload_n (i := 0) (q := 26) hC dX12_ofTheEntry_25 rfl rfl rfl ?_
        refine v_iload_n (i := 1) (q := 27) hC dX12_ofTheEntry_26 rfl rfl rfl ?_
        refine v_iload_n (i := 2) (q := 28) hC dX12_ofTheEntry_27 rfl rfl rfl ?_
        refine v_iload_n (i := 3) (q := 29) hC dX12_ofTheEntry_28 rfl rfl rfl ?_
        refine v_callV (q := 32) (rm := rm_X12_ofEntry) hC (c_X12_ofEntry hl Θ j k2 k _ (by unfold enA; omega)) k_X12_ofEntry im_yX12_ofEntry se_yX12_ofEntry ml_RX12_122 dX12_ofTheEntry_29 rfl rfl rfl rfl rfl rfl (Nat.le_of_ble_eq_true rfl) ⟨Nat.le_of_ble_eq_true rfl, Nat.le_of_ble_eq_true rfl⟩ ⟨Nat.le_of_ble_eq_true rfl, Nat.le_of_ble_eq_true rfl⟩ (fR_k ?_) fR_x (Nat.le_of_ble_eq_true rfl) (Nat.le_of_ble_eq_true rfl)
        try dsimp only [Option.toList, List.cons_append, List.nil_append]
        refine v_goto (q := 36) hC dX12_ofTheEntry_32 (by decide) ?_
        refine v_iret hC dX12_ofTheEntry_36 hr (rfl) ?_ (Nat.le_of_ble_eq_true rfl) (Nat.le_of_ble_eq_true rfl)
        first | exact mOv_f c_7 | exact mOv_t c_7
set_option maxHeartbeats 4000000 in
set_option maxRecDepth 20000 in
theorem c_X12_rightsOfEntry {l : Launch} (hl : l.stackTraces = false) (Θ : cTH) (o i : Int32) (G : GS) (hm : mInv G) : Ct l yX12_rightsOfEntry cX12_rightsOfEntry 3 (some .int) rm_X12_rightsOfEntry Θ [.ref (tR Θ 0 29), .int o, .int i] (G) (mOv (mEnt (G.2.1 0 30) o i) (G.2.1 0 30 (enA o.toNatClampNeg i.toNatClampNeg 2)) G) := by
  refine ct_of (LS := [some (.ref (tR Θ 0 29)), some (.int o), some (.int i)]) hl (by decide +kernel) rfl (Nat.le_of_ble_eq_true rfl) rfl ?_
  intro p e s m args below meth c hC hr
  refine v_aload_n (i := 0) (q := 1) hC dX12_rightsOfEntry_0 rfl rfl rfl ?_
  refine v_iload_n (i := 1) (q := 2) hC dX12_rightsOfEntry_1 rfl rfl rfl ?_
  refine v_iload_n (i := 2) (q := 3) hC dX12_rightsOfEntry_2 rfl rfl rfl ?_
  refine v_iconst (q := 4) (v := 2) hC dX12_rightsOfEntry_3 rfl (by decide) ?_
  refine v_callV (q := 7) (rm := rm_X12_ofTheEntry) hC (c_X12_ofTheEntry hl Θ o i 2 G hm (by omega)) k_X12_ofTheEntry im_yX12_ofTheEntry se_yX12_ofTheEntry ml_RX12_215 dX12_rightsOfEntry_4 rfl rfl rfl rfl rfl rfl (Nat.le_of_ble_eq_true rfl) ⟨Nat.le_of_ble_eq_true rfl, Nat.le_of_ble_eq_true rfl⟩ ⟨Nat.le_of_ble_eq_true rfl, Nat.le_of_ble_eq_true rfl⟩ (fun r9 G9 z9 => ?_) (fun _ _ z => z) (Nat.le_of_ble_eq_true rfl) (Nat.le_of_ble_eq_true rfl)
  try dsimp only [Option.toList, List.cons_append, List.nil_append]
  obtain ⟨x9, rfl⟩ := mg_k z9
  dsimp only [Option.toList, List.cons_append, List.nil_append]
  refine v_iret hC dX12_rightsOfEntry_7 hr (rfl) ?_ (Nat.le_of_ble_eq_true rfl) (Nat.le_of_ble_eq_true rfl)
  exact z9
set_option maxHeartbeats 4000000 in
set_option maxRecDepth 20000 in
theorem c_X12_isAllowing {l : Launch} (hl : l.stackTraces = false) (Θ : cTH) (o i : Int32) (G : GS) (hm : mInv G) : Ct l yX12_isAllowing cX12_isAllowing 3 (some .boolean) rm_X12_isAllowing Θ [.ref (tR Θ 0 29), .int o, .int i] (G) (mOv (mEnt (G.2.1 0 30) o i) (b2i (decide (G.2.1 0 30 (enA o.toNatClampNeg i.toNatClampNeg 3) = 1))) G) := by
  refine ct_of (LS := [some (.ref (tR Θ 0 29)), some (.int o), some (.int i)]) hl (by decide +kernel) rfl (Nat.le_of_ble_eq_true rfl) rfl ?_
  intro p e s m args below meth c hC hr
  have L1 : (mEnt (G.2.1 0 30) o i) = true → V p l e rm_X12_isAllowing s m args below meth c 3 Θ (mOv (mEnt (G.2.1 0 30) o i) (b2i (decide (G.2.1 0 30 (enA o.toNatClampNeg i.toNatClampNeg 3) = 1))) G) rm_X12_isAllowing.cells rm_X12_isAllowing.slots 0 0 7 [some (.ref (tR Θ 0 29)), some (.int o), some (.int i)] [.int (G.2.1 0 30 (enA o.toNatClampNeg i.toNatClampNeg 3))] (ms 0 G) := by
    intro h1
    refine v_iconst (q := 8) (v := 1) hC dX12_isAllowing_7 rfl (by decide) ?_
    refine v_icmp_ne (q := 15) (q2 := 11) hC dX12_isAllowing_8 (by decide) rfl (fun c_8 => ?_) (fun c_8 => ?_)
    · refine v_iconst (q := 16) (v := 0) hC dX12_isAllowing_15 rfl (by decide) ?_
      refine v_iret hC dX12_isAllowing_16 hr (rfl) ?_ (Nat.le_of_ble_eq_true rfl) (Nat.le_of_ble_eq_true rfl)
      first
        | (have e1 := mOv_t (x := b2i (decide (G.2.1 0 30 (enA o.toNatClampNeg i.toNatClampNeg 3) = 1))) (G := G) h1
           rw [decide_eq_true c_8] at e1 ⊢; exact e1)
        | (have e1 := mOv_t (x := b2i (decide (G.2.1 0 30 (enA o.toNatClampNeg i.toNatClampNeg 3) = 1))) (G := G) h1
           rw [decide_eq_false c_8] at e1 ⊢; exact e1)
    · refine v_iconst (q := 12) (v := 1) hC dX12_isAllowing_11 rfl (by decide) ?_
      refine v_goto (q := 16) hC dX12_isAllowing_12 (by decide) ?_
      refine v_iret hC dX12_isAllowing_16 hr (rfl) ?_ (Nat.le_of_ble_eq_true rfl) (Nat.le_of_ble_eq_true rfl)
      first
        | (have e1 := mOv_t (x := b2i (decide (G.2.1 0 30 (enA o.toNatClampNeg i.toNatClampNeg 3) = 1))) (G := G) h1
           rw [decide_eq_true c_8] at e1 ⊢; exact e1)
        | (have e1 := mOv_t (x := b2i (decide (G.2.1 0 30 (enA o.toNatClampNeg i.toNatClampNeg 3) = 1))) (G := G) h1
           rw [decide_eq_false c_8] at e1 ⊢; exact e1)
  have L0 : (mEnt (G.2.1 0 30) o i) = false → V p l e rm_X12_isAllowing s m args below meth c 3 Θ (mOv (mEnt (G.2.1 0 30) o i) (b2i (decide (G.2.1 0 30 (enA o.toNatClampNeg i.toNatClampNeg 3) = 1))) G) rm_X12_isAllowing.cells rm_X12_isAllowing.slots 0 0 7 [some (.ref (tR Θ 0 29)), some (.int o), some (.int i)] [.int 0] (ms 1 G) := by
    intro h1
    refine v_iconst (q := 8) (v := 1) hC dX12_isAllowing_7 rfl (by decide) ?_
    refine v_icmp_ne (q := 15) (q2 := 11) hC dX12_isAllowing_8 (by decide) rfl (fun c_8 => ?_) (fun c_8 => ?_)
    · refine v_iconst (q := 16) (v := 0) hC dX12_isAllowing_15 rfl (by decide) ?_
      refine v_iret hC dX12_isAllowing_16 hr (rfl) ?_ (Nat.le_of_ble_eq_true rfl) (Nat.le_of_ble_eq_true rfl)
      exact mOv_f h1
    · exact absurd c_8 (by decide)
  refine v_aload_n (i := 0) (q := 1) hC dX12_isAllowing_0 rfl rfl rfl ?_
  refine v_iload_n (i := 1) (q := 2) hC dX12_isAllowing_1 rfl rfl rfl ?_
  refine v_iload_n (i := 2) (q := 3) hC dX12_isAllowing_2 rfl rfl rfl ?_
  refine v_iconst (q := 4) (v := 3) hC dX12_isAllowing_3 rfl (by decide) ?_
  refine v_callV (q := 7) (rm := rm_X12_ofTheEntry) hC (c_X12_ofTheEntry hl Θ o i 3 G hm (by omega)) k_X12_ofTheEntry im_yX12_ofTheEntry se_yX12_ofTheEntry ml_RX12_215 dX12_isAllowing_4 rfl rfl rfl rfl rfl rfl (Nat.le_of_ble_eq_true rfl) ⟨Nat.le_of_ble_eq_true rfl, Nat.le_of_ble_eq_true rfl⟩ ⟨Nat.le_of_ble_eq_true rfl, Nat.le_of_ble_eq_true rfl⟩ (fun r9 G9 z9 => ?_) (fun _ _ z => mOv_x z) (Nat.le_of_ble_eq_true rfl) (Nat.le_of_ble_eq_true rfl)
  try dsimp only [Option.toList, List.cons_append, List.nil_append]
  rcases mOv_c z9 with ⟨h1, rfl, rfl⟩ | ⟨h1, rfl, rfl⟩
  · exact L1 h1
  · exact L0 h1
set_option maxHeartbeats 4000000 in
set_option maxRecDepth 20000 in
theorem c_X12_isForOwner {l : Launch} (hl : l.stackTraces = false) (Θ : cTH) (o i : Int32) (G : GS) (hm : mInv G) : Ct l yX12_isForOwner cX12_isForOwner 3 (some .boolean) rm_X12_isForOwner Θ [.ref (tR Θ 0 29), .int o, .int i] (G) (mOv (mEnt (G.2.1 0 30) o i) (b2i (decide (G.2.1 0 30 (enA o.toNatClampNeg i.toNatClampNeg 0) = 2))) G) := by
  refine ct_of (LS := [some (.ref (tR Θ 0 29)), some (.int o), some (.int i)]) hl (by decide +kernel) rfl (Nat.le_of_ble_eq_true rfl) rfl ?_
  intro p e s m args below meth c hC hr
  have L1 : (mEnt (G.2.1 0 30) o i) = true → V p l e rm_X12_isForOwner s m args below meth c 3 Θ (mOv (mEnt (G.2.1 0 30) o i) (b2i (decide (G.2.1 0 30 (enA o.toNatClampNeg i.toNatClampNeg 0) = 2))) G) rm_X12_isForOwner.cells rm_X12_isForOwner.slots 0 0 7 [some (.ref (tR Θ 0 29)), some (.int o), some (.int i)] [.int (G.2.1 0 30 (enA o.toNatClampNeg i.toNatClampNeg 0))] (ms 0 G) := by
    intro h1
    refine v_iconst (q := 8) (v := 2) hC dX12_isForOwner_7 rfl (by decide) ?_
    refine v_icmp_ne (q := 15) (q2 := 11) hC dX12_isForOwner_8 (by decide) rfl (fun c_8 => ?_) (fun c_8 => ?_)
    · refine v_iconst (q := 16) (v := 0) hC dX12_isForOwner_15 rfl (by decide) ?_
      refine v_iret hC dX12_isForOwner_16 hr (rfl) ?_ (Nat.le_of_ble_eq_true rfl) (Nat.le_of_ble_eq_true rfl)
      first
        | (have e1 := mOv_t (x := b2i (decide (G.2.1 0 30 (enA o.toNatClampNeg i.toNatClampNeg 0) = 2))) (G := G) h1
           rw [decide_eq_true c_8] at e1 ⊢; exact e1)
        | (have e1 := mOv_t (x := b2i (decide (G.2.1 0 30 (enA o.toNatClampNeg i.toNatClampNeg 0) = 2))) (G := G) h1
           rw [decide_eq_false c_8] at e1 ⊢; exact e1)
    · refine v_iconst (q := 12) (v := 1) hC dX12_isForOwner_11 rfl (by decide) ?_
      refine v_goto (q := 16) hC dX12_isForOwner_12 (by decide) ?_
      refine v_iret hC dX12_isForOwner_16 hr (rfl) ?_ (Nat.le_of_ble_eq_true rfl) (Nat.le_of_ble_eq_true rfl)
      first
        | (have e1 := mOv_t (x := b2i (decide (G.2.1 0 30 (enA o.toNatClampNeg i.toNatClampNeg 0) = 2))) (G := G) h1
           rw [decide_eq_true c_8] at e1 ⊢; exact e1)
        | (have e1 := mOv_t (x := b2i (decide (G.2.1 0 30 (enA o.toNatClampNeg i.toNatClampNeg 0) = 2))) (G := G) h1
           rw [decide_eq_false c_8] at e1 ⊢; exact e1)
  have L0 : (mEnt (G.2.1 0 30) o i) = false → V p l e rm_X12_isForOwner s m args below meth c 3 Θ (mOv (mEnt (G.2.1 0 30) o i) (b2i (decide (G.2.1 0 30 (enA o.toNatClampNeg i.toNatClampNeg 0) = 2))) G) rm_X12_isForOwner.cells rm_X12_isForOwner.slots 0 0 7 [some (.ref (tR Θ 0 29)), some (.int o), some (.int i)] [.int 0] (ms 1 G) := by
    intro h1
    refine v_iconst (q := 8) (v := 2) hC dX12_isForOwner_7 rfl (by decide) ?_
    refine v_icmp_ne (q := 15) (q2 := 11) hC dX12_isForOwner_8 (by decide) rfl (fun c_8 => ?_) (fun c_8 => ?_)
    · refine v_iconst (q := 16) (v := 0) hC dX12_isForOwner_15 rfl (by decide) ?_
      refine v_iret hC dX12_isForOwner_16 hr (rfl) ?_ (Nat.le_of_ble_eq_true rfl) (Nat.le_of_ble_eq_true rfl)
      exact mOv_f h1
    · exact absurd c_8 (by decide)
  refine v_aload_n (i := 0) (q := 1) hC dX12_isForOwner_0 rfl rfl rfl ?_
  refine v_iload_n (i := 1) (q := 2) hC dX12_isForOwner_1 rfl rfl rfl ?_
  refine v_iload_n (i := 2) (q := 3) hC dX12_isForOwner_2 rfl rfl rfl ?_
  refine v_iconst (q := 4) (v := 0) hC dX12_isForOwner_3 rfl (by decide) ?_
  refine v_callV (q := 7) (rm := rm_X12_ofTheEntry) hC (c_X12_ofTheEntry hl Θ o i 0 G hm (by omega)) k_X12_ofTheEntry im_yX12_ofTheEntry se_yX12_ofTheEntry ml_RX12_215 dX12_isForOwner_4 rfl rfl rfl rfl rfl rfl (Nat.le_of_ble_eq_true rfl) ⟨Nat.le_of_ble_eq_true rfl, Nat.le_of_ble_eq_true rfl⟩ ⟨Nat.le_of_ble_eq_true rfl, Nat.le_of_ble_eq_true rfl⟩ (fun r9 G9 z9 => ?_) (fun _ _ z => mOv_x z) (Nat.le_of_ble_eq_true rfl) (Nat.le_of_ble_eq_true rfl)
  try dsimp only [Option.toList, List.cons_append, List.nil_append]
  rcases mOv_c z9 with ⟨h1, rfl, rfl⟩ | ⟨h1, rfl, rfl⟩
  · exact L1 h1
  · exact L0 h1
set_option maxHeartbeats 4000000 in
set_option maxRecDepth 20000 in
theorem c_X12_isForBelow {l : Launch} (hl : l.stackTraces = false) (Θ : cTH) (o i : Int32) (G : GS) (hm : mInv G) : Ct l yX12_isForBelow cX12_isForBelow 3 (some .boolean) rm_X12_isForBelow Θ [.ref (tR Θ 0 29), .int o, .int i] (G) (mOv (mEnt (G.2.1 0 30) o i) (b2i (decide (G.2.1 0 30 (enA o.toNatClampNeg i.toNatClampNeg 4) = 1))) G) := by
  refine ct_of (LS := [some (.ref (tR Θ 0 29)), some (.int o), some (.int i)]) hl (by decide +kernel) rfl (Nat.le_of_ble_eq_true rfl) rfl ?_
  intro p e s m args below meth c hC hr
  have L1 : (mEnt (G.2.1 0 30) o i) = true → V p l e rm_X12_isForBelow s m args below meth c 3 Θ (mOv (mEnt (G.2.1 0 30) o i) (b2i (decide (G.2.1 0 30 (enA o.toNatClampNeg i.toNatClampNeg 4) = 1))) G) rm_X12_isForBelow.cells rm_X12_isForBelow.slots 0 0 7 [some (.ref (tR Θ 0 29)), some (.int o), some (.int i)] [.int (G.2.1 0 30 (enA o.toNatClampNeg i.toNatClampNeg 4))] (ms 0 G) := by
    intro h1
    refine v_iconst (q := 8) (v := 1) hC dX12_isForBelow_7 rfl (by decide) ?_
    refine v_icmp_ne (q := 15) (q2 := 11) hC dX12_isForBelow_8 (by decide) rfl (fun c_8 => ?_) (fun c_8 => ?_)
    · refine v_iconst (q := 16) (v := 0) hC dX12_isForBelow_15 rfl (by decide) ?_
      refine v_iret hC dX12_isForBelow_16 hr (rfl) ?_ (Nat.le_of_ble_eq_true rfl) (Nat.le_of_ble_eq_true rfl)
      first
        | (have e1 := mOv_t (x := b2i (decide (G.2.1 0 30 (enA o.toNatClampNeg i.toNatClampNeg 4) = 1))) (G := G) h1
           rw [decide_eq_true c_8] at e1 ⊢; exact e1)
        | (have e1 := mOv_t (x := b2i (decide (G.2.1 0 30 (enA o.toNatClampNeg i.toNatClampNeg 4) = 1))) (G := G) h1
           rw [decide_eq_false c_8] at e1 ⊢; exact e1)
    · refine v_iconst (q := 12) (v := 1) hC dX12_isForBelow_11 rfl (by decide) ?_
      refine v_goto (q := 16) hC dX12_isForBelow_12 (by decide) ?_
      refine v_iret hC dX12_isForBelow_16 hr (rfl) ?_ (Nat.le_of_ble_eq_true rfl) (Nat.le_of_ble_eq_true rfl)
      first
        | (have e1 := mOv_t (x := b2i (decide (G.2.1 0 30 (enA o.toNatClampNeg i.toNatClampNeg 4) = 1))) (G := G) h1
           rw [decide_eq_true c_8] at e1 ⊢; exact e1)
        | (have e1 := mOv_t (x := b2i (decide (G.2.1 0 30 (enA o.toNatClampNeg i.toNatClampNeg 4) = 1))) (G := G) h1
           rw [decide_eq_false c_8] at e1 ⊢; exact e1)
  have L0 : (mEnt (G.2.1 0 30) o i) = false → V p l e rm_X12_isForBelow s m args below meth c 3 Θ (mOv (mEnt (G.2.1 0 30) o i) (b2i (decide (G.2.1 0 30 (enA o.toNatClampNeg i.toNatClampNeg 4) = 1))) G) rm_X12_isForBelow.cells rm_X12_isForBelow.slots 0 0 7 [some (.ref (tR Θ 0 29)), some (.int o), some (.int i)] [.int 0] (ms 1 G) := by
    intro h1
    refine v_iconst (q := 8) (v := 1) hC dX12_isForBelow_7 rfl (by decide) ?_
    refine v_icmp_ne (q := 15) (q2 := 11) hC dX12_isForBelow_8 (by decide) rfl (fun c_8 => ?_) (fun c_8 => ?_)
    · refine v_iconst (q := 16) (v := 0) hC dX12_isForBelow_15 rfl (by decide) ?_
      refine v_iret hC dX12_isForBelow_16 hr (rfl) ?_ (Nat.le_of_ble_eq_true rfl) (Nat.le_of_ble_eq_true rfl)
      exact mOv_f h1
    · exact absurd c_8 (by decide)
  refine v_aload_n (i := 0) (q := 1) hC dX12_isForBelow_0 rfl rfl rfl ?_
  refine v_iload_n (i := 1) (q := 2) hC dX12_isForBelow_1 rfl rfl rfl ?_
  refine v_iload_n (i := 2) (q := 3) hC dX12_isForBelow_2 rfl rfl rfl ?_
  refine v_iconst (q := 4) (v := 4) hC dX12_isForBelow_3 rfl (by decide) ?_
  refine v_callV (q := 7) (rm := rm_X12_ofTheEntry) hC (c_X12_ofTheEntry hl Θ o i 4 G hm (by omega)) k_X12_ofTheEntry im_yX12_ofTheEntry se_yX12_ofTheEntry ml_RX12_215 dX12_isForBelow_4 rfl rfl rfl rfl rfl rfl (Nat.le_of_ble_eq_true rfl) ⟨Nat.le_of_ble_eq_true rfl, Nat.le_of_ble_eq_true rfl⟩ ⟨Nat.le_of_ble_eq_true rfl, Nat.le_of_ble_eq_true rfl⟩ (fun r9 G9 z9 => ?_) (fun _ _ z => mOv_x z) (Nat.le_of_ble_eq_true rfl) (Nat.le_of_ble_eq_true rfl)
  try dsimp only [Option.toList, List.cons_append, List.nil_append]
  rcases mOv_c z9 with ⟨h1, rfl, rfl⟩ | ⟨h1, rfl, rfl⟩
  · exact L1 h1
  · exact L0 h1
set_option maxHeartbeats 4000000 in
set_option maxRecDepth 20000 in
theorem c_X12_whomOf {l : Launch} (hl : l.stackTraces = false) (Θ : cTH) (o i x : Int32) (G : GS) (hm : mInv G) : Ct l yX12_whomOf cX12_whomOf 5 (some .int) rm_X12_whomOf Θ [.ref (tR Θ 0 29), .int o, .int i, .int x] (G) (mOv (mEnt (G.2.1 0 30) o i) (if G.2.1 0 30 (enA o.toNatClampNeg i.toNatClampNeg 0) = x then G.2.1 0 30 (enA o.toNatClampNeg i.toNatClampNeg 1) else -1) G) := by
  refine ct_of (LS := [some (.ref (tR Θ 0 29)), some (.int o), some (.int i), some (.int x), none]) hl (by decide +kernel) rfl (Nat.le_of_ble_eq_true rfl) rfl ?_
  intro p e s m args below meth c hC hr
  have L1 : (mEnt (G.2.1 0 30) o i) = true → V p l e rm_X12_whomOf s m args below meth c 5 Θ (mOv (mEnt (G.2.1 0 30) o i) (if G.2.1 0 30 (enA o.toNatClampNeg i.toNatClampNeg 0) = x then G.2.1 0 30 (enA o.toNatClampNeg i.toNatClampNeg 1) else -1) G) rm_X12_whomOf.cells rm_X12_whomOf.slots 0 0 7 [some (.ref (tR Θ 0 29)), some (.int o), some (.int i), some (.int x), none] [.int (G.2.1 0 30 (enA o.toNatClampNeg i.toNatClampNeg 0))] (ms 0 G) := by
    intro h1
    have hq := mOv_t (x := (if G.2.1 0 30 (enA o.toNatClampNeg i.toNatClampNeg 0) = x then G.2.1 0 30 (enA o.toNatClampNeg i.toNatClampNeg 1) else -1)) (G := G) h1
    obtain ⟨j, k2, hj, hk2, e1, e2⟩ := mEnt_nI hm.2 h1
    have hc6 := hm.2.ct6 hj
    have e3 : o.toNatClampNeg = j := by rw [e1, nI_clamp (by omega)]
    have e4 : i.toNatClampNeg = k2 := by rw [e2, nI_clamp (by omega)]
    refine v_istore (q := 9) hC dX12_whomOf_7 rfl (lvc rfl) (Nat.le_of_ble_eq_true rfl) (Nat.le_of_ble_eq_true rfl) rfl ?_
    refine v_aload_n (i := 0) (q := 10) hC dX12_whomOf_9 rfl rfl rfl ?_
    refine gm_last (q := 13) hC dX12_whomOf_10 rfl rfl fl_RX12_39 ?_
    refine v_iconst (q := 14) (v := 1) hC dX12_whomOf_13 rfl (by decide) ?_
    refine v_icmp_ne (q := 21) (q2 := 17) hC dX12_whomOf_14 (by decide) rfl (fun c_14 => ?_) (fun c_14 => ?_)
    · first
      | exact absurd c_14 (by decide)
      |
        refine v_iload (q := 23) hC dX12_whomOf_21 rfl rfl ?_
        refine v_iload_n (i := 3) (q := 24) hC dX12_whomOf_23 rfl rfl rfl ?_
        refine v_icmp_ne (q := 37) (q2 := 27) hC dX12_whomOf_24 (by decide) rfl (fun c_24 => ?_) (fun c_24 => ?_)
        · refine v_iconst (q := 38) (v := (-1)) hC dX12_whomOf_37 rfl (by decide) ?_
          refine v_iret hC dX12_whomOf_38 hr (rfl) ?_ (Nat.le_of_ble_eq_true rfl) (Nat.le_of_ble_eq_true rfl)
          first
            | (rw [if_pos c_24] at hq ⊢; exact hq)
            | (rw [if_neg c_24] at hq ⊢; exact hq)
        · refine v_aload_n (i := 0) (q := 28) hC dX12_whomOf_27 rfl rfl rfl ?_
          refine v_iload_n (i := 1) (q := 29) hC dX12_whomOf_28 rfl rfl rfl ?_
          refine v_iload_n (i := 2) (q := 30) hC dX12_whomOf_29 rfl rfl rfl ?_
          refine v_iconst (q := 31) (v := 1) hC dX12_whomOf_30 rfl (by decide) ?_
          rw [show (Value.int o) = Value.int (nI j) from congrArg _ e1, show (Value.int i) = Value.int (nI k2) from congrArg _ e2]
          refine v_callV (q := 34) (rm := rm_X12_ofEntry) hC (c_X12_ofEntry hl Θ j k2 1 _ (by unfold enA; omega)) k_X12_ofEntry im_yX12_ofEntry se_yX12_ofEntry ml_RX12_122 dX12_whomOf_31 rfl rfl rfl rfl rfl rfl (Nat.le_of_ble_eq_true rfl) ⟨Nat.le_of_ble_eq_true rfl, Nat.le_of_ble_eq_true rfl⟩ ⟨Nat.le_of_ble_eq_true rfl, Nat.le_of_ble_eq_true rfl⟩ (fR_k ?_) fR_x (Nat.le_of_ble_eq_true rfl) (Nat.le_of_ble_eq_true rfl)
          try dsimp only [Option.toList, List.cons_append, List.nil_append]
          rw [← e3, ← e4]
          refine v_goto (q := 38) hC dX12_whomOf_34 (by decide) ?_
          refine v_iret hC dX12_whomOf_38 hr (rfl) ?_ (Nat.le_of_ble_eq_true rfl) (Nat.le_of_ble_eq_true rfl)
          first
            | (rw [if_pos c_24] at hq ⊢; exact hq)
            | (rw [if_neg c_24] at hq ⊢; exact hq)
    · first
      | exact absurd c_14 (by decide)
      |
        refine v_iconst (q := 18) (v := 0) hC dX12_whomOf_17 rfl (by decide) ?_
        refine v_goto (q := 38) hC dX12_whomOf_18 (by decide) ?_
        refine v_iret hC dX12_whomOf_38 hr (rfl) ?_ (Nat.le_of_ble_eq_true rfl) (Nat.le_of_ble_eq_true rfl)
        first
          | (rw [if_pos c_24] at hq ⊢; exact hq)
          | (rw [if_neg c_24] at hq ⊢; exact hq)
  have L0 : (mEnt (G.2.1 0 30) o i) = false → V p l e rm_X12_whomOf s m args below meth c 5 Θ (mOv (mEnt (G.2.1 0 30) o i) (if G.2.1 0 30 (enA o.toNatClampNeg i.toNatClampNeg 0) = x then G.2.1 0 30 (enA o.toNatClampNeg i.toNatClampNeg 1) else -1) G) rm_X12_whomOf.cells rm_X12_whomOf.slots 0 0 7 [some (.ref (tR Θ 0 29)), some (.int o), some (.int i), some (.int x), none] [.int 0] (ms 1 G) := by
    intro h1
    refine v_istore (q := 9) hC dX12_whomOf_7 rfl (lvc rfl) (Nat.le_of_ble_eq_true rfl) (Nat.le_of_ble_eq_true rfl) rfl ?_
    refine v_aload_n (i := 0) (q := 10) hC dX12_whomOf_9 rfl rfl rfl ?_
    refine gm_last (q := 13) hC dX12_whomOf_10 rfl rfl fl_RX12_39 ?_
    refine v_iconst (q := 14) (v := 1) hC dX12_whomOf_13 rfl (by decide) ?_
    refine v_icmp_ne (q := 21) (q2 := 17) hC dX12_whomOf_14 (by decide) rfl (fun c_14 => ?_) (fun c_14 => ?_)
    · exact absurd rfl c_14
    · refine v_iconst (q := 18) (v := 0) hC dX12_whomOf_17 rfl (by decide) ?_
      refine v_goto (q := 38) hC dX12_whomOf_18 (by decide) ?_
      refine v_iret hC dX12_whomOf_38 hr (rfl) ?_ (Nat.le_of_ble_eq_true rfl) (Nat.le_of_ble_eq_true rfl)
      exact mOv_f h1
  refine v_aload_n (i := 0) (q := 1) hC dX12_whomOf_0 rfl rfl rfl ?_
  refine v_iload_n (i := 1) (q := 2) hC dX12_whomOf_1 rfl rfl rfl ?_
  refine v_iload_n (i := 2) (q := 3) hC dX12_whomOf_2 rfl rfl rfl ?_
  refine v_iconst (q := 4) (v := 0) hC dX12_whomOf_3 rfl (by decide) ?_
  refine v_callV (q := 7) (rm := rm_X12_ofTheEntry) hC (c_X12_ofTheEntry hl Θ o i 0 G hm (by omega)) k_X12_ofTheEntry im_yX12_ofTheEntry se_yX12_ofTheEntry ml_RX12_215 dX12_whomOf_4 rfl rfl rfl rfl rfl rfl (Nat.le_of_ble_eq_true rfl) ⟨Nat.le_of_ble_eq_true rfl, Nat.le_of_ble_eq_true rfl⟩ ⟨Nat.le_of_ble_eq_true rfl, Nat.le_of_ble_eq_true rfl⟩ (fun r9 G9 z9 => ?_) (fun _ _ z => mOv_x z) (Nat.le_of_ble_eq_true rfl) (Nat.le_of_ble_eq_true rfl)
  try dsimp only [Option.toList, List.cons_append, List.nil_append]
  rcases mOv_c z9 with ⟨h1, rfl, rfl⟩ | ⟨h1, rfl, rfl⟩
  · exact L1 h1
  · exact L0 h1
set_option maxHeartbeats 4000000 in
set_option maxRecDepth 20000 in
theorem c_X12_userOfEntry {l : Launch} (hl : l.stackTraces = false) (Θ : cTH) (o i : Int32) (G : GS) (hm : mInv G) : Ct l yX12_userOfEntry cX12_userOfEntry 3 (some .int) rm_X12_userOfEntry Θ [.ref (tR Θ 0 29), .int o, .int i] (G) (mOv (mEnt (G.2.1 0 30) o i) (if G.2.1 0 30 (enA o.toNatClampNeg i.toNatClampNeg 0) = 0 then G.2.1 0 30 (enA o.toNatClampNeg i.toNatClampNeg 1) else -1) G) := by
  refine ct_of (LS := [some (.ref (tR Θ 0 29)), some (.int o), some (.int i)]) hl (by decide +kernel) rfl (Nat.le_of_ble_eq_true rfl) rfl ?_
  intro p e s m args below meth c hC hr
  refine v_aload_n (i := 0) (q := 1) hC dX12_userOfEntry_0 rfl rfl rfl ?_
  refine v_iload_n (i := 1) (q := 2) hC dX12_userOfEntry_1 rfl rfl rfl ?_
  refine v_iload_n (i := 2) (q := 3) hC dX12_userOfEntry_2 rfl rfl rfl ?_
  refine v_iconst (q := 4) (v := 0) hC dX12_userOfEntry_3 rfl (by decide) ?_
  refine v_callV (q := 7) (rm := rm_X12_whomOf) hC (c_X12_whomOf hl Θ o i 0 G hm) k_X12_whomOf im_yX12_whomOf se_yX12_whomOf ml_RX12_218 dX12_userOfEntry_4 rfl rfl rfl rfl rfl rfl (Nat.le_of_ble_eq_true rfl) ⟨Nat.le_of_ble_eq_true rfl, Nat.le_of_ble_eq_true rfl⟩ ⟨Nat.le_of_ble_eq_true rfl, Nat.le_of_ble_eq_true rfl⟩ (fun r9 G9 z9 => ?_) (fun _ _ z => z) (Nat.le_of_ble_eq_true rfl) (Nat.le_of_ble_eq_true rfl)
  try dsimp only [Option.toList, List.cons_append, List.nil_append]
  obtain ⟨x9, rfl⟩ := mg_k z9
  dsimp only [Option.toList, List.cons_append, List.nil_append]
  refine v_iret hC dX12_userOfEntry_7 hr (rfl) ?_ (Nat.le_of_ble_eq_true rfl) (Nat.le_of_ble_eq_true rfl)
  exact z9
set_option maxHeartbeats 4000000 in
set_option maxRecDepth 20000 in
theorem c_X12_groupOfEntry {l : Launch} (hl : l.stackTraces = false) (Θ : cTH) (o i : Int32) (G : GS) (hm : mInv G) : Ct l yX12_groupOfEntry cX12_groupOfEntry 3 (some .int) rm_X12_groupOfEntry Θ [.ref (tR Θ 0 29), .int o, .int i] (G) (mOv (mEnt (G.2.1 0 30) o i) (if G.2.1 0 30 (enA o.toNatClampNeg i.toNatClampNeg 0) = 1 then G.2.1 0 30 (enA o.toNatClampNeg i.toNatClampNeg 1) else -1) G) := by
  refine ct_of (LS := [some (.ref (tR Θ 0 29)), some (.int o), some (.int i)]) hl (by decide +kernel) rfl (Nat.le_of_ble_eq_true rfl) rfl ?_
  intro p e s m args below meth c hC hr
  refine v_aload_n (i := 0) (q := 1) hC dX12_groupOfEntry_0 rfl rfl rfl ?_
  refine v_iload_n (i := 1) (q := 2) hC dX12_groupOfEntry_1 rfl rfl rfl ?_
  refine v_iload_n (i := 2) (q := 3) hC dX12_groupOfEntry_2 rfl rfl rfl ?_
  refine v_iconst (q := 4) (v := 1) hC dX12_groupOfEntry_3 rfl (by decide) ?_
  refine v_callV (q := 7) (rm := rm_X12_whomOf) hC (c_X12_whomOf hl Θ o i 1 G hm) k_X12_whomOf im_yX12_whomOf se_yX12_whomOf ml_RX12_218 dX12_groupOfEntry_4 rfl rfl rfl rfl rfl rfl (Nat.le_of_ble_eq_true rfl) ⟨Nat.le_of_ble_eq_true rfl, Nat.le_of_ble_eq_true rfl⟩ ⟨Nat.le_of_ble_eq_true rfl, Nat.le_of_ble_eq_true rfl⟩ (fun r9 G9 z9 => ?_) (fun _ _ z => z) (Nat.le_of_ble_eq_true rfl) (Nat.le_of_ble_eq_true rfl)
  try dsimp only [Option.toList, List.cons_append, List.nil_append]
  obtain ⟨x9, rfl⟩ := mg_k z9
  dsimp only [Option.toList, List.cons_append, List.nil_append]
  refine v_iret hC dX12_groupOfEntry_7 hr (rfl) ?_ (Nat.le_of_ble_eq_true rfl) (Nat.le_of_ble_eq_true rfl)
  exact z9
set_option maxHeartbeats 4000000 in
set_option maxRecDepth 20000 in
theorem c_X12_rightsOf {l : Launch} (hl : l.stackTraces = false) (Θ : cTH) (u o : Int32) (G : GS) (hm : mInv G) : Ct l yX12_rightsOf cX12_rightsOf 3 (some .int) rm_X12_rightsOf Θ [.ref (tR Θ 0 29), .int u, .int o] (G) (mOv (mIn u 0 (G.2.1 0 30 0 - 1) && mHold (G.2.1 0 30) o) (mRg (G.2.1 0 30) u o.toNatClampNeg) G) := by
  refine ct_of (LS := [some (.ref (tR Θ 0 29)), some (.int u), some (.int o)]) hl (by decide +kernel) rfl (Nat.le_of_ble_eq_true rfl) rfl ?_
  intro p e s m args below meth c hC hr
  refine v_aload_n (i := 0) (q := 1) hC dX12_rightsOf_0 rfl rfl rfl ?_
  refine v_aload_n (i := 0) (q := 2) hC dX12_rightsOf_1 rfl rfl rfl ?_
  refine v_iload_n (i := 1) (q := 3) hC dX12_rightsOf_2 rfl rfl rfl ?_
  refine v_callV (q := 6) (rm := rm_X12_isUser) hC (c_X12_isUser hl Θ _ _) k_X12_isUser im_yX12_isUser se_yX12_isUser ml_RX12_82 dX12_rightsOf_3 rfl rfl rfl rfl rfl rfl (Nat.le_of_ble_eq_true rfl) ⟨Nat.le_of_ble_eq_true rfl, Nat.le_of_ble_eq_true rfl⟩ ⟨Nat.le_of_ble_eq_true rfl, Nat.le_of_ble_eq_true rfl⟩ (fR_k ?_) fR_x (Nat.le_of_ble_eq_true rfl) (Nat.le_of_ble_eq_true rfl)
  try dsimp only [Option.toList, List.cons_append, List.nil_append]
  refine v_ifb_eq (q := 21) (q2 := 9) hC dX12_rightsOf_6 (by decide) rfl (fun c_6 => ?_) (fun c_6 => ?_)
  · refine v_iconst (q := 22) (v := 1) hC dX12_rightsOf_21 rfl (by decide) ?_
    refine pm_last (q := 25) hC dX12_rightsOf_22 rfl rfl fl_RX12_39 ?_
    refine v_aload_n (i := 0) (q := 26) hC dX12_rightsOf_25 rfl rfl rfl ?_
    refine gm_last (q := 29) hC dX12_rightsOf_26 rfl rfl fl_RX12_39 ?_
    refine v_if_ne (q := 41) (q2 := 32) hC dX12_rightsOf_29 (by decide) rfl (fun c_29 => ?_) (fun c_29 => ?_)
    · first
      | exact absurd c_29 (by decide)
      |
        refine v_iconst (q := 42) (v := 0) hC dX12_rightsOf_41 rfl (by decide) ?_
        refine v_iret hC dX12_rightsOf_42 hr (rfl) ?_ (Nat.le_of_ble_eq_true rfl) (Nat.le_of_ble_eq_true rfl)
        first | exact mOv_t (by simp_all [ms_row]) | exact mOv_f (by simp_all [ms_row])
    · first
      | exact absurd c_29 (by decide)
      |
        have g1 : (mIn u 0 (G.2.1 0 30 0 - 1) && mHold (G.2.1 0 30) o) = true := by simp_all [ms_row]
        obtain ⟨j, hj, rfl⟩ := mHold_nI (Bool.and_eq_true_iff.mp g1).2
        rw [nI_clamp (show j < 2 ^ 31 by omega)]
        refine v_aload_n (i := 0) (q := 33) hC dX12_rightsOf_32 rfl rfl rfl ?_
        refine v_iload_n (i := 1) (q := 34) hC dX12_rightsOf_33 rfl rfl rfl ?_
        refine v_iload_n (i := 2) (q := 35) hC dX12_rightsOf_34 rfl rfl rfl ?_
        refine v_callV (q := 38) (rm := rm_X12_rights) hC (c_X12_rights hl Θ _ j _ hm.2 hj) k_X12_rights im_yX12_rights se_yX12_rights ml_RX12_119 dX12_rightsOf_35 rfl rfl rfl rfl rfl rfl (Nat.le_of_ble_eq_true rfl) ⟨Nat.le_of_ble_eq_true rfl, Nat.le_of_ble_eq_true rfl⟩ ⟨Nat.le_of_ble_eq_true rfl, Nat.le_of_ble_eq_true rfl⟩ (fR_k ?_) fR_x (Nat.le_of_ble_eq_true rfl) (Nat.le_of_ble_eq_true rfl)
        try dsimp only [Option.toList, List.cons_append, List.nil_append]
        refine v_goto (q := 42) hC dX12_rightsOf_38 (by decide) ?_
        refine v_iret hC dX12_rightsOf_42 hr (rfl) ?_ (Nat.le_of_ble_eq_true rfl) (Nat.le_of_ble_eq_true rfl)
        first | exact mOv_t (by simp_all [ms_row]) | exact mOv_f (by simp_all [ms_row])
  · refine v_aload_n (i := 0) (q := 10) hC dX12_rightsOf_9 rfl rfl rfl ?_
    refine v_iload_n (i := 2) (q := 11) hC dX12_rightsOf_10 rfl rfl rfl ?_
    refine v_callV (q := 14) (rm := rm_X12_isObject) hC (c_X12_isObject hl Θ _ _) k_X12_isObject im_yX12_isObject se_yX12_isObject ml_RX12_57 dX12_rightsOf_11 rfl rfl rfl rfl rfl rfl (Nat.le_of_ble_eq_true rfl) ⟨Nat.le_of_ble_eq_true rfl, Nat.le_of_ble_eq_true rfl⟩ ⟨Nat.le_of_ble_eq_true rfl, Nat.le_of_ble_eq_true rfl⟩ (fR_k ?_) fR_x (Nat.le_of_ble_eq_true rfl) (Nat.le_of_ble_eq_true rfl)
    try dsimp only [Option.toList, List.cons_append, List.nil_append]
    refine v_ifb_eq (q := 21) (q2 := 17) hC dX12_rightsOf_14 (by decide) rfl (fun c_14 => ?_) (fun c_14 => ?_)
    · refine v_iconst (q := 22) (v := 1) hC dX12_rightsOf_21 rfl (by decide) ?_
      refine pm_last (q := 25) hC dX12_rightsOf_22 rfl rfl fl_RX12_39 ?_
      refine v_aload_n (i := 0) (q := 26) hC dX12_rightsOf_25 rfl rfl rfl ?_
      refine gm_last (q := 29) hC dX12_rightsOf_26 rfl rfl fl_RX12_39 ?_
      refine v_if_ne (q := 41) (q2 := 32) hC dX12_rightsOf_29 (by decide) rfl (fun c_29 => ?_) (fun c_29 => ?_)
      · first
        | exact absurd c_29 (by decide)
        |
          refine v_iconst (q := 42) (v := 0) hC dX12_rightsOf_41 rfl (by decide) ?_
          refine v_iret hC dX12_rightsOf_42 hr (rfl) ?_ (Nat.le_of_ble_eq_true rfl) (Nat.le_of_ble_eq_true rfl)
          first | exact mOv_t (by simp_all [ms_row]) | exact mOv_f (by simp_all [ms_row])
      · first
        | exact absurd c_29 (by decide)
        |
          have g1 : (mIn u 0 (G.2.1 0 30 0 - 1) && mHold (G.2.1 0 30) o) = true := by simp_all [ms_row]
          obtain ⟨j, hj, rfl⟩ := mHold_nI (Bool.and_eq_true_iff.mp g1).2
          rw [nI_clamp (show j < 2 ^ 31 by omega)]
          refine v_aload_n (i := 0) (q := 33) hC dX12_rightsOf_32 rfl rfl rfl ?_
          refine v_iload_n (i := 1) (q := 34) hC dX12_rightsOf_33 rfl rfl rfl ?_
          refine v_iload_n (i := 2) (q := 35) hC dX12_rightsOf_34 rfl rfl rfl ?_
          refine v_callV (q := 38) (rm := rm_X12_rights) hC (c_X12_rights hl Θ _ j _ hm.2 hj) k_X12_rights im_yX12_rights se_yX12_rights ml_RX12_119 dX12_rightsOf_35 rfl rfl rfl rfl rfl rfl (Nat.le_of_ble_eq_true rfl) ⟨Nat.le_of_ble_eq_true rfl, Nat.le_of_ble_eq_true rfl⟩ ⟨Nat.le_of_ble_eq_true rfl, Nat.le_of_ble_eq_true rfl⟩ (fR_k ?_) fR_x (Nat.le_of_ble_eq_true rfl) (Nat.le_of_ble_eq_true rfl)
          try dsimp only [Option.toList, List.cons_append, List.nil_append]
          refine v_goto (q := 42) hC dX12_rightsOf_38 (by decide) ?_
          refine v_iret hC dX12_rightsOf_42 hr (rfl) ?_ (Nat.le_of_ble_eq_true rfl) (Nat.le_of_ble_eq_true rfl)
          first | exact mOv_t (by simp_all [ms_row]) | exact mOv_f (by simp_all [ms_row])
    · refine v_iconst (q := 18) (v := 0) hC dX12_rightsOf_17 rfl (by decide) ?_
      refine v_goto (q := 22) hC dX12_rightsOf_18 (by decide) ?_
      refine pm_last (q := 25) hC dX12_rightsOf_22 rfl rfl fl_RX12_39 ?_
      refine v_aload_n (i := 0) (q := 26) hC dX12_rightsOf_25 rfl rfl rfl ?_
      refine gm_last (q := 29) hC dX12_rightsOf_26 rfl rfl fl_RX12_39 ?_
      refine v_if_ne (q := 41) (q2 := 32) hC dX12_rightsOf_29 (by decide) rfl (fun c_29 => ?_) (fun c_29 => ?_)
      · first
        | exact absurd c_29 (by decide)
        |
          refine v_iconst (q := 42) (v := 0) hC dX12_rightsOf_41 rfl (by decide) ?_
          refine v_iret hC dX12_rightsOf_42 hr (rfl) ?_ (Nat.le_of_ble_eq_true rfl) (Nat.le_of_ble_eq_true rfl)
          first | exact mOv_t (by simp_all [ms_row]) | exact mOv_f (by simp_all [ms_row])
      · first
        | exact absurd c_29 (by decide)
        |
          have g1 : (mIn u 0 (G.2.1 0 30 0 - 1) && mHold (G.2.1 0 30) o) = true := by simp_all [ms_row]
          obtain ⟨j, hj, rfl⟩ := mHold_nI (Bool.and_eq_true_iff.mp g1).2
          rw [nI_clamp (show j < 2 ^ 31 by omega)]
          refine v_aload_n (i := 0) (q := 33) hC dX12_rightsOf_32 rfl rfl rfl ?_
          refine v_iload_n (i := 1) (q := 34) hC dX12_rightsOf_33 rfl rfl rfl ?_
          refine v_iload_n (i := 2) (q := 35) hC dX12_rightsOf_34 rfl rfl rfl ?_
          refine v_callV (q := 38) (rm := rm_X12_rights) hC (c_X12_rights hl Θ _ j _ hm.2 hj) k_X12_rights im_yX12_rights se_yX12_rights ml_RX12_119 dX12_rightsOf_35 rfl rfl rfl rfl rfl rfl (Nat.le_of_ble_eq_true rfl) ⟨Nat.le_of_ble_eq_true rfl, Nat.le_of_ble_eq_true rfl⟩ ⟨Nat.le_of_ble_eq_true rfl, Nat.le_of_ble_eq_true rfl⟩ (fR_k ?_) fR_x (Nat.le_of_ble_eq_true rfl) (Nat.le_of_ble_eq_true rfl)
          try dsimp only [Option.toList, List.cons_append, List.nil_append]
          refine v_goto (q := 42) hC dX12_rightsOf_38 (by decide) ?_
          refine v_iret hC dX12_rightsOf_42 hr (rfl) ?_ (Nat.le_of_ble_eq_true rfl) (Nat.le_of_ble_eq_true rfl)
          first | exact mOv_t (by simp_all [ms_row]) | exact mOv_f (by simp_all [ms_row])
def mLgd (w : Nat → Int32) (a : Int32) : Bool := mIn a 0 (w 762 - 1)
set_option maxHeartbeats 4000000 in
set_option maxRecDepth 20000 in
theorem c_X12_logged {l : Launch} (hl : l.stackTraces = false) (Θ : cTH) (a : Int32) (k : Nat) (G : GS) (hk : k < 3) (hl8 : ∃ n, n ≤ 8 ∧ G.2.1 0 30 762 = nI n) : Ct l yX12_logged cX12_logged 3 (some .int) rm_X12_logged Θ [.ref (tR Θ 0 29), .int a, .int (nI k)] (G) (mOv (mLgd (G.2.1 0 30) a) (G.2.1 0 30 (738 + 3 * a.toNatClampNeg + k)) G) := by
  refine ct_of (LS := [some (.ref (tR Θ 0 29)), some (.int a), some (.int (nI k))]) hl (by decide +kernel) rfl (Nat.le_of_ble_eq_true rfl) rfl ?_
  intro p e s m args below meth c hC hr
  obtain ⟨n8, hn8, e8⟩ := hl8
  refine v_aload_n (i := 0) (q := 1) hC dX12_logged_0 rfl rfl rfl ?_
  refine v_iload_n (i := 1) (q := 2) hC dX12_logged_1 rfl rfl rfl ?_
  refine v_iconst (q := 3) (v := 0) hC dX12_logged_2 rfl (by decide) ?_
  refine v_aload_n (i := 0) (q := 4) hC dX12_logged_3 rfl rfl rfl ?_
  refine g_X12_0 (q := 7) hC dX12_logged_4 rfl rfl fl_RX12_7 ?_
  refine v_sipush (q := 10) (v := 762) hC dX12_logged_7 rfl (by decide) ?_
  refine v_ialdN (q := 11) hC dX12_logged_10 rfl rfl rfl (i := 762) (rfl) (by first | decide | omega | (unfold oA; omega) | (unfold enA; omega)) (by decide) ?_
  refine v_iconst (q := 12) (v := 1) hC dX12_logged_11 rfl (by decide) ?_
  refine v_isub (q := 13) hC dX12_logged_12 rfl ?_
  refine v_callS (q := 16) (rm := rm_X12_in) hC (c_X12_in hl Θ _ _ _ _) k_X12_in st_yX12_in ml_RX12_46 dX12_logged_13 rfl  rfl rfl (Nat.le_of_ble_eq_true rfl) ⟨Nat.le_of_ble_eq_true rfl, Nat.le_of_ble_eq_true rfl⟩ ⟨Nat.le_of_ble_eq_true rfl, Nat.le_of_ble_eq_true rfl⟩ (fR_k ?_) fR_x (Nat.le_of_ble_eq_true rfl) (Nat.le_of_ble_eq_true rfl)
  try dsimp only [Option.toList, List.cons_append, List.nil_append]
  refine v_ifb_eq (q := 23) (q2 := 19) hC dX12_logged_16 (by decide) rfl (fun c_16 => ?_) (fun c_16 => ?_)
  · refine v_iconst (q := 24) (v := 1) hC dX12_logged_23 rfl (by decide) ?_
    refine pm_last (q := 27) hC dX12_logged_24 rfl rfl fl_RX12_39 ?_
    refine v_aload_n (i := 0) (q := 28) hC dX12_logged_27 rfl rfl rfl ?_
    refine gm_last (q := 31) hC dX12_logged_28 rfl rfl fl_RX12_39 ?_
    refine v_if_ne (q := 51) (q2 := 34) hC dX12_logged_31 (by decide) rfl (fun c_31 => ?_) (fun c_31 => ?_)
    · first
      | exact absurd c_31 (by decide)
      |
        refine v_iconst (q := 52) (v := 0) hC dX12_logged_51 rfl (by decide) ?_
        refine v_iret hC dX12_logged_52 hr (rfl) ?_ (Nat.le_of_ble_eq_true rfl) (Nat.le_of_ble_eq_true rfl)
        first | exact mOv_f c_16 | exact mOv_t c_16
    · first
      | exact absurd c_31 (by decide)
      |
        obtain ⟨j, hj, rfl⟩ := mIn_lt c_16 e8 (by omega)
        rw [nI_clamp (show j < 2 ^ 31 by omega)]
        refine v_aload_n (i := 0) (q := 35) hC dX12_logged_34 rfl rfl rfl ?_
        refine g_X12_0 (q := 38) hC dX12_logged_35 rfl rfl fl_RX12_7 ?_
        refine v_sipush (q := 41) (v := 738) hC dX12_logged_38 rfl (by decide) ?_
        refine v_iconst (q := 42) (v := 3) hC dX12_logged_41 rfl (by decide) ?_
        refine v_iload_n (i := 1) (q := 43) hC dX12_logged_42 rfl rfl rfl ?_
        refine v_imul (q := 44) hC dX12_logged_43 rfl ?_
        refine v_iadd (q := 45) hC dX12_logged_44 rfl ?_
        refine v_iload_n (i := 2) (q := 46) hC dX12_logged_45 rfl rfl rfl ?_
        refine v_iadd (q := 47) hC dX12_logged_46 rfl ?_
        refine v_ialdN (q := 48) hC dX12_logged_47 rfl rfl rfl (i := 738 + 3 * j + k) (by rw [show (3 : Int32) = nI 3 from rfl, nI_mul, show (738 : Int32) = nI 738 from rfl, nI_add, nI_add]) (by omega) (by decide) ?_
        refine v_goto (q := 52) hC dX12_logged_48 (by decide) ?_
        refine v_iret hC dX12_logged_52 hr (rfl) ?_ (Nat.le_of_ble_eq_true rfl) (Nat.le_of_ble_eq_true rfl)
        first | exact mOv_f c_16 | exact mOv_t c_16
  · refine v_iconst (q := 20) (v := 0) hC dX12_logged_19 rfl (by decide) ?_
    refine v_goto (q := 24) hC dX12_logged_20 (by decide) ?_
    refine pm_last (q := 27) hC dX12_logged_24 rfl rfl fl_RX12_39 ?_
    refine v_aload_n (i := 0) (q := 28) hC dX12_logged_27 rfl rfl rfl ?_
    refine gm_last (q := 31) hC dX12_logged_28 rfl rfl fl_RX12_39 ?_
    refine v_if_ne (q := 51) (q2 := 34) hC dX12_logged_31 (by decide) rfl (fun c_31 => ?_) (fun c_31 => ?_)
    · first
      | exact absurd c_31 (by decide)
      |
        refine v_iconst (q := 52) (v := 0) hC dX12_logged_51 rfl (by decide) ?_
        refine v_iret hC dX12_logged_52 hr (rfl) ?_ (Nat.le_of_ble_eq_true rfl) (Nat.le_of_ble_eq_true rfl)
        first | exact mOv_f c_16 | exact mOv_t c_16
    · first
      | exact absurd c_31 (by decide)
      |
        obtain ⟨j, hj, rfl⟩ := mIn_lt c_16 e8 (by omega)
        rw [nI_clamp (show j < 2 ^ 31 by omega)]
        refine v_aload_n (i := 0) (q := 35) hC dX12_logged_34 rfl rfl rfl ?_
        refine g_X12_0 (q := 38) hC dX12_logged_35 rfl rfl fl_RX12_7 ?_
        refine v_sipush (q := 41) (v := 738) hC dX12_logged_38 rfl (by decide) ?_
        refine v_iconst (q := 42) (v := 3) hC dX12_logged_41 rfl (by decide) ?_
        refine v_iload_n (i := 1) (q := 43) hC dX12_logged_42 rfl rfl rfl ?_
        refine v_imul (q := 44) hC dX12_logged_43 rfl ?_
        refine v_iadd (q := 45) hC dX12_logged_44 rfl ?_
        refine v_iload_n (i := 2) (q := 46) hC dX12_logged_45 rfl rfl rfl ?_
        refine v_iadd (q := 47) hC dX12_logged_46 rfl ?_
        refine v_ialdN (q := 48) hC dX12_logged_47 rfl rfl rfl (i := 738 + 3 * j + k) (by rw [show (3 : Int32) = nI 3 from rfl, nI_mul, show (738 : Int32) = nI 738 from rfl, nI_add, nI_add]) (by omega) (by decide) ?_
        refine v_goto (q := 52) hC dX12_logged_48 (by decide) ?_
        refine v_iret hC dX12_logged_52 hr (rfl) ?_ (Nat.le_of_ble_eq_true rfl) (Nat.le_of_ble_eq_true rfl)
        first | exact mOv_f c_16 | exact mOv_t c_16
set_option maxHeartbeats 4000000 in
set_option maxRecDepth 20000 in
theorem c_X12_userOfRequest {l : Launch} (hl : l.stackTraces = false) (Θ : cTH) (a : Int32) (G : GS) (hl8 : ∃ n, n ≤ 8 ∧ G.2.1 0 30 762 = nI n) : Ct l yX12_userOfRequest cX12_userOfRequest 2 (some .int) rm_X12_userOfRequest Θ [.ref (tR Θ 0 29), .int a] (G) (mOv (mLgd (G.2.1 0 30) a) (G.2.1 0 30 (738 + 3 * a.toNatClampNeg + 0)) G) := by
  refine ct_of (LS := [some (.ref (tR Θ 0 29)), some (.int a)]) hl (by decide +kernel) rfl (Nat.le_of_ble_eq_true rfl) rfl ?_
  intro p e s m args below meth c hC hr
  refine v_aload_n (i := 0) (q := 1) hC dX12_userOfRequest_0 rfl rfl rfl ?_
  refine v_iload_n (i := 1) (q := 2) hC dX12_userOfRequest_1 rfl rfl rfl ?_
  refine v_iconst (q := 3) (v := 0) hC dX12_userOfRequest_2 rfl (by decide) ?_
  refine v_callV (q := 6) (rm := rm_X12_logged) hC (c_X12_logged hl Θ a 0 G (by omega) hl8) k_X12_logged im_yX12_logged se_yX12_logged ml_RX12_230 dX12_userOfRequest_3 rfl rfl rfl rfl rfl rfl (Nat.le_of_ble_eq_true rfl) ⟨Nat.le_of_ble_eq_true rfl, Nat.le_of_ble_eq_true rfl⟩ ⟨Nat.le_of_ble_eq_true rfl, Nat.le_of_ble_eq_true rfl⟩ (fun r9 G9 z9 => ?_) (fun _ _ z => z) (Nat.le_of_ble_eq_true rfl) (Nat.le_of_ble_eq_true rfl)
  try dsimp only [Option.toList, List.cons_append, List.nil_append]
  obtain ⟨x9, rfl⟩ := mg_k z9
  dsimp only [Option.toList, List.cons_append, List.nil_append]
  refine v_iret hC dX12_userOfRequest_6 hr (rfl) ?_ (Nat.le_of_ble_eq_true rfl) (Nat.le_of_ble_eq_true rfl)
  exact z9
set_option maxHeartbeats 4000000 in
set_option maxRecDepth 20000 in
theorem c_X12_objectOfRequest {l : Launch} (hl : l.stackTraces = false) (Θ : cTH) (a : Int32) (G : GS) (hl8 : ∃ n, n ≤ 8 ∧ G.2.1 0 30 762 = nI n) : Ct l yX12_objectOfRequest cX12_objectOfRequest 2 (some .int) rm_X12_objectOfRequest Θ [.ref (tR Θ 0 29), .int a] (G) (mOv (mLgd (G.2.1 0 30) a) (G.2.1 0 30 (738 + 3 * a.toNatClampNeg + 1)) G) := by
  refine ct_of (LS := [some (.ref (tR Θ 0 29)), some (.int a)]) hl (by decide +kernel) rfl (Nat.le_of_ble_eq_true rfl) rfl ?_
  intro p e s m args below meth c hC hr
  refine v_aload_n (i := 0) (q := 1) hC dX12_objectOfRequest_0 rfl rfl rfl ?_
  refine v_iload_n (i := 1) (q := 2) hC dX12_objectOfRequest_1 rfl rfl rfl ?_
  refine v_iconst (q := 3) (v := 1) hC dX12_objectOfRequest_2 rfl (by decide) ?_
  refine v_callV (q := 6) (rm := rm_X12_logged) hC (c_X12_logged hl Θ a 1 G (by omega) hl8) k_X12_logged im_yX12_logged se_yX12_logged ml_RX12_230 dX12_objectOfRequest_3 rfl rfl rfl rfl rfl rfl (Nat.le_of_ble_eq_true rfl) ⟨Nat.le_of_ble_eq_true rfl, Nat.le_of_ble_eq_true rfl⟩ ⟨Nat.le_of_ble_eq_true rfl, Nat.le_of_ble_eq_true rfl⟩ (fun r9 G9 z9 => ?_) (fun _ _ z => z) (Nat.le_of_ble_eq_true rfl) (Nat.le_of_ble_eq_true rfl)
  try dsimp only [Option.toList, List.cons_append, List.nil_append]
  obtain ⟨x9, rfl⟩ := mg_k z9
  dsimp only [Option.toList, List.cons_append, List.nil_append]
  refine v_iret hC dX12_objectOfRequest_6 hr (rfl) ?_ (Nat.le_of_ble_eq_true rfl) (Nat.le_of_ble_eq_true rfl)
  exact z9
set_option maxHeartbeats 4000000 in
set_option maxRecDepth 20000 in
theorem c_X12_wasAllowed {l : Launch} (hl : l.stackTraces = false) (Θ : cTH) (a : Int32) (G : GS) (hl8 : ∃ n, n ≤ 8 ∧ G.2.1 0 30 762 = nI n) : Ct l yX12_wasAllowed cX12_wasAllowed 2 (some .boolean) rm_X12_wasAllowed Θ [.ref (tR Θ 0 29), .int a] (G) (mOv (mLgd (G.2.1 0 30) a) (b2i (decide (G.2.1 0 30 (738 + 3 * a.toNatClampNeg + 2) = 1))) G) := by
  refine ct_of (LS := [some (.ref (tR Θ 0 29)), some (.int a)]) hl (by decide +kernel) rfl (Nat.le_of_ble_eq_true rfl) rfl ?_
  intro p e s m args below meth c hC hr
  have L1 : (mLgd (G.2.1 0 30) a) = true → V p l e rm_X12_wasAllowed s m args below meth c 2 Θ (mOv (mLgd (G.2.1 0 30) a) (b2i (decide (G.2.1 0 30 (738 + 3 * a.toNatClampNeg + 2) = 1))) G) rm_X12_wasAllowed.cells rm_X12_wasAllowed.slots 0 0 6 [some (.ref (tR Θ 0 29)), some (.int a)] [.int (G.2.1 0 30 (738 + 3 * a.toNatClampNeg + 2))] (ms 0 G) := by
    intro h1
    refine v_iconst (q := 7) (v := 1) hC dX12_wasAllowed_6 rfl (by decide) ?_
    refine v_icmp_ne (q := 14) (q2 := 10) hC dX12_wasAllowed_7 (by decide) rfl (fun c_7 => ?_) (fun c_7 => ?_)
    · refine v_iconst (q := 15) (v := 0) hC dX12_wasAllowed_14 rfl (by decide) ?_
      refine v_iret hC dX12_wasAllowed_15 hr (rfl) ?_ (Nat.le_of_ble_eq_true rfl) (Nat.le_of_ble_eq_true rfl)
      first
        | (have e1 := mOv_t (x := b2i (decide (G.2.1 0 30 (738 + 3 * a.toNatClampNeg + 2) = 1))) (G := G) h1
           rw [decide_eq_true c_7] at e1 ⊢; exact e1)
        | (have e1 := mOv_t (x := b2i (decide (G.2.1 0 30 (738 + 3 * a.toNatClampNeg + 2) = 1))) (G := G) h1
           rw [decide_eq_false c_7] at e1 ⊢; exact e1)
    · refine v_iconst (q := 11) (v := 1) hC dX12_wasAllowed_10 rfl (by decide) ?_
      refine v_goto (q := 15) hC dX12_wasAllowed_11 (by decide) ?_
      refine v_iret hC dX12_wasAllowed_15 hr (rfl) ?_ (Nat.le_of_ble_eq_true rfl) (Nat.le_of_ble_eq_true rfl)
      first
        | (have e1 := mOv_t (x := b2i (decide (G.2.1 0 30 (738 + 3 * a.toNatClampNeg + 2) = 1))) (G := G) h1
           rw [decide_eq_true c_7] at e1 ⊢; exact e1)
        | (have e1 := mOv_t (x := b2i (decide (G.2.1 0 30 (738 + 3 * a.toNatClampNeg + 2) = 1))) (G := G) h1
           rw [decide_eq_false c_7] at e1 ⊢; exact e1)
  have L0 : (mLgd (G.2.1 0 30) a) = false → V p l e rm_X12_wasAllowed s m args below meth c 2 Θ (mOv (mLgd (G.2.1 0 30) a) (b2i (decide (G.2.1 0 30 (738 + 3 * a.toNatClampNeg + 2) = 1))) G) rm_X12_wasAllowed.cells rm_X12_wasAllowed.slots 0 0 6 [some (.ref (tR Θ 0 29)), some (.int a)] [.int 0] (ms 1 G) := by
    intro h1
    refine v_iconst (q := 7) (v := 1) hC dX12_wasAllowed_6 rfl (by decide) ?_
    refine v_icmp_ne (q := 14) (q2 := 10) hC dX12_wasAllowed_7 (by decide) rfl (fun c_7 => ?_) (fun c_7 => ?_)
    · refine v_iconst (q := 15) (v := 0) hC dX12_wasAllowed_14 rfl (by decide) ?_
      refine v_iret hC dX12_wasAllowed_15 hr (rfl) ?_ (Nat.le_of_ble_eq_true rfl) (Nat.le_of_ble_eq_true rfl)
      exact mOv_f h1
    · exact absurd c_7 (by decide)
  refine v_aload_n (i := 0) (q := 1) hC dX12_wasAllowed_0 rfl rfl rfl ?_
  refine v_iload_n (i := 1) (q := 2) hC dX12_wasAllowed_1 rfl rfl rfl ?_
  refine v_iconst (q := 3) (v := 2) hC dX12_wasAllowed_2 rfl (by decide) ?_
  refine v_callV (q := 6) (rm := rm_X12_logged) hC (c_X12_logged hl Θ a 2 G (by omega) hl8) k_X12_logged im_yX12_logged se_yX12_logged ml_RX12_230 dX12_wasAllowed_3 rfl rfl rfl rfl rfl rfl (Nat.le_of_ble_eq_true rfl) ⟨Nat.le_of_ble_eq_true rfl, Nat.le_of_ble_eq_true rfl⟩ ⟨Nat.le_of_ble_eq_true rfl, Nat.le_of_ble_eq_true rfl⟩ (fun r9 G9 z9 => ?_) (fun _ _ z => mOv_x z) (Nat.le_of_ble_eq_true rfl) (Nat.le_of_ble_eq_true rfl)
  try dsimp only [Option.toList, List.cons_append, List.nil_append]
  rcases mOv_c z9 with ⟨h1, rfl, rfl⟩ | ⟨h1, rfl, rfl⟩
  · exact L1 h1
  · exact L0 h1
