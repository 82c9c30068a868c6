/-! The reference: loading, writing, the pad, undo, slots, openness -/
theorem mCh_nP (k : Nat) (G : GS) (q : nT) : mCh k (nP G q) = nP (mCh k G) q := by
  have e1 : ∀ (pt : Nat → Int32) (x : Int32), mChS (nP G q) pt x = nP (mChS G pt x) q := by
    intro pt x
    unfold mChS nP
    rw [putA_commO _ _ _ _ _ _ _ (by decide), putF_putA, putF_putA, putF_comm _ _ _ 13 4 _ _ (by decide), putF_comm _ _ _ 12 4 _ _ (by decide), putF_comm _ _ _ 11 4 _ _ (by decide), putF_comm _ _ _ 10 4 _ _ (by decide)]
    rfl
  unfold mCh
  by_cases h : k = 5
  · rw [if_pos h, if_pos h, e1]; rfl
  · rw [if_neg h, if_neg h, e1]; rfl
theorem mWr_nP (w : Nat → Int32) (G : GS) (q : nT) : mWr w (nP G q) = nP (mWr w G) q := by
  unfold mWr nP
  rw [putA_commO _ _ _ _ _ _ _ (by decide)]
  rfl
theorem ms_nP (x : Int32) (G : GS) (q : nT) : ms x (nP G q) = nP (ms x G) q := by
  unfold ms nP
  rw [putF_putA, putF_comm _ _ _ 13 5 _ _ (by decide), putF_comm _ _ _ 12 5 _ _ (by decide), putF_comm _ _ _ 11 5 _ _ (by decide), putF_comm _ _ _ 10 5 _ _ (by decide)]
theorem nP_self {G : GS} (h10 : G.1 0 29 10 = nI (nG G).1) (h12 : G.1 0 29 12 = nI (nG G).2.2.1) : nP G (nG G) = G := by
  unfold nP
  rw [← h10, ← h12]
  unfold nG
  dsimp only
  rw [putF_self, putF_self, putF_self, putF_self, putA_self]
theorem nP_30 (G : GS) (q : nT) : (nP G q).2.1 0 30 = G.2.1 0 30 := rfl
/-- text fields in order -/
def nInv (G : GS) : Prop := (G.1 0 29 10 = nI (nG G).1 ∧ G.1 0 29 12 = nI (nG G).2.2.1) ∧ ∃ ty, G.1 0 29 7 = nI ty ∧ ty ≤ 80
def nR (G : GS) : Int32 × nT := nWr (ms 0 G) (nG G)
theorem c_nR {l : Launch} (hl : l.stackTraces = false) (Θ : cTH) (G : GS) (hn : nInv G) : Ct l yX12_wrong cX12_wrong 2 (some .int) rm_X12_wrong Θ [.ref (tR Θ 0 29)] (ms 0 G) (fR (some (.int (nR G).1)) (nP (ms 0 G) (nR G).2)) := by
  have h := c_X12_wrong hl Θ (nG G) (ms 0 G) (by rw [ms_fld _ _ (by decide)]; exact hn.2)
  rw [← ms_nP, nP_self hn.1.1 hn.1.2] at h
  exact h
set_option maxHeartbeats 4000000 in
set_option maxRecDepth 20000 in
theorem c_X12_fault {l : Launch} (hl : l.stackTraces = false) (Θ : cTH) (G : GS) (hn : nInv G) : Ct l yX12_fault cX12_fault 1 (some .int) rm_X12_fault Θ [.ref (tR Θ 0 29)] (G) (fR (some (.int (nR G).1)) (nP (ms 0 G) (nR G).2)) := by
  refine ct_of (LS := [some (.ref (tR Θ 0 29))]) hl (by decide +kernel) rfl (Nat.le_of_ble_eq_true rfl) rfl ?_
  intro p e s m args below meth c hC hr
  refine v_aload_n (i := 0) (q := 1) hC dX12_fault_0 rfl rfl rfl ?_
  refine v_iconst (q := 2) (v := 0) hC dX12_fault_1 rfl (by decide) ?_
  refine pm_last (q := 5) hC dX12_fault_2 rfl rfl fl_RX12_39 ?_
  refine v_aload_n (i := 0) (q := 6) hC dX12_fault_5 rfl rfl rfl ?_
  refine v_callV (q := 9) (rm := rm_X12_wrong) hC (c_nR hl Θ G hn) k_X12_wrong im_yX12_wrong se_yX12_wrong ml_RX12_190 dX12_fault_6 rfl rfl rfl rfl rfl rfl (Nat.le_of_ble_eq_true rfl) ⟨Nat.le_of_ble_eq_true rfl, Nat.le_of_ble_eq_true rfl⟩ ⟨Nat.le_of_ble_eq_true rfl, Nat.le_of_ble_eq_true rfl⟩ (fR_k ?_) fR_x (Nat.le_of_ble_eq_true rfl) (Nat.le_of_ble_eq_true rfl)
  try dsimp only [Option.toList, List.cons_append, List.nil_append]
  refine v_iret hC dX12_fault_9 hr (rfl) ?_ (Nat.le_of_ble_eq_true rfl) (Nat.le_of_ble_eq_true rfl)
  exact ⟨rfl, rfl⟩
def nTL (w pt : Nat → Int32) : Nat → Nat → Bool → Bool
  | 0, _, b => b
  | n + 1, j, b => nTL w pt n (j + 1) (b && ((!decide (pt (5 * j) = 0) || mIn (pt (5 * j + 1)) 0 (w 0 - 1)) && (!decide (pt (5 * j) = 1) || mIn (pt (5 * j + 1)) 0 (w 1 - 1))))
def nTh (w : Nat → Int32) (q : nT) : Bool := nTL w q.2.2.2.2 q.2.2.1 0 (mHold w q.2.1)
theorem nTL_f (w pt : Nat → Int32) : ∀ n j, nTL w pt n j false = false := by
  intro n
  induction n with
  | zero => intro j; rfl
  | succ n ih => intro j; rw [nTL]; exact ih (j + 1)
set_option maxHeartbeats 4000000 in
set_option maxRecDepth 20000 in
theorem c_X12_areThere {l : Launch} (hl : l.stackTraces = false) (Θ : cTH) (q : nT) (G : GS) (hp : q.2.2.1 ≤ 6) : Ct l yX12_areThere cX12_areThere 4 (some .boolean) rm_X12_areThere Θ [.ref (tR Θ 0 29)] (nP G q) (fR (some (.int (b2i (nTh (G.2.1 0 30) q)))) (nP G q)) := by
  refine ct_of (LS := [some (.ref (tR Θ 0 29)), none, none, none]) hl (by decide +kernel) rfl (Nat.le_of_ble_eq_true rfl) rfl ?_
  intro p e s m args below meth c hC hr
  have L : ∀ (n j : Nat) (b : Bool) (x3 : Option Value), n + j = q.2.2.1 → nTL (G.2.1 0 30) q.2.2.2.2 n j b = nTh (G.2.1 0 30) q → V p l e rm_X12_areThere s m args below meth c 4 Θ (fR (some (.int (b2i (nTh (G.2.1 0 30) q)))) (nP G q)) 0 0 0 0 11 [some (.ref (tR Θ 0 29)), some (.int (b2i b)), some (.int (nI j)), x3] [] (nP G q) := by
    intro n
    induction n with
    | zero =>
      intro j b x3 h1 h2
      rw [nTL] at h2
      refine v_iload_n (i := 2) (q := 12) hC dX12_areThere_11 rfl rfl rfl ?_
      refine v_aload_n (i := 0) (q := 13) hC dX12_areThere_12 rfl rfl rfl ?_
      refine gn_12 (q := 16) hC dX12_areThere_13 rfl rfl fl_RX12_171 ?_
      refine v_icmp_ge (q := 89) (q2 := 19) hC dX12_areThere_16 (by decide) rfl (fun c_16 => ?_) (fun c_16 => ?_)
      · refine v_iload_n (i := 1) (q := 90) hC dX12_areThere_89 rfl rfl rfl ?_
        refine v_iret hC dX12_areThere_90 hr (by first | rfl | exact nar_b) ?_ (Nat.le_of_ble_eq_true rfl) (Nat.le_of_ble_eq_true rfl)
        exact ⟨by rw [← h2], rfl⟩
      · exact absurd (nI_le (by omega) (by omega)) c_16
    | succ n ih =>
      intro j b x3 h1 h2
      rw [nTL] at h2
      have LB : ∀ (b2 : Bool) (x : Int32), b2 = (b && ((!decide (q.2.2.2.2 (5 * j) = 0) || mIn (q.2.2.2.2 (5 * j + 1)) 0 (G.2.1 0 30 0 - 1)) && (!decide (q.2.2.2.2 (5 * j) = 1) || mIn (q.2.2.2.2 (5 * j + 1)) 0 (G.2.1 0 30 1 - 1)))) → V p l e rm_X12_areThere s m args below meth c 4 Θ (fR (some (.int (b2i (nTh (G.2.1 0 30) q)))) (nP G q)) 0 0 0 0 82 [some (.ref (tR Θ 0 29)), some (.int (b2i b)), some (.int (nI j)), some (.int x)] [.int (b2i b2)] (nP G q) := by
        intro b2 x hb
        refine v_istore_n (i := 1) (q := 83) hC dX12_areThere_82 rfl rfl (lvc rfl) (Nat.le_of_ble_eq_true rfl) (Nat.le_of_ble_eq_true rfl) rfl ?_
        refine v_iinc (q := 86) (v := nI (j + 1)) hC dX12_areThere_83 rfl rfl (nI_1 j) (lvc rfl) (Nat.le_of_ble_eq_true rfl) (Nat.le_of_ble_eq_true rfl) rfl ?_
        refine v_goto (q := 11) hC dX12_areThere_86 (by decide) ?_
        exact ih (j + 1) _ _ (by omega) (by rw [← h2, hb])
      refine v_iload_n (i := 2) (q := 12) hC dX12_areThere_11 rfl rfl rfl ?_
      refine v_aload_n (i := 0) (q := 13) hC dX12_areThere_12 rfl rfl rfl ?_
      refine gn_12 (q := 16) hC dX12_areThere_13 rfl rfl fl_RX12_171 ?_
      refine v_icmp_ge (q := 89) (q2 := 19) hC dX12_areThere_16 (by decide) rfl (fun c_16 => ?_) (fun c_16 => ?_)
      · exact absurd c_16 (nI_ge (by omega) (by omega))
      · refine v_aload_n (i := 0) (q := 20) hC dX12_areThere_19 rfl rfl rfl ?_
        refine g_X12_14 (q := 23) hC dX12_areThere_20 rfl rfl fl_RX12_32 ?_
        refine v_iconst (q := 24) (v := 5) hC dX12_areThere_23 rfl (by decide) ?_
        refine v_iload_n (i := 2) (q := 25) hC dX12_areThere_24 rfl rfl rfl ?_
        refine v_imul (q := 26) hC dX12_areThere_25 rfl ?_
        refine v_iconst (q := 27) (v := 1) hC dX12_areThere_26 rfl (by decide) ?_
        refine v_iadd (q := 28) hC dX12_areThere_27 rfl ?_
        refine v_nptr (i := 5 * j + 1) (q := 29) hC dX12_areThere_28 rfl (v_npt_hx 1) (by omega) ?_
        refine v_istore_n (i := 3) (q := 30) hC dX12_areThere_29 rfl rfl (lvc rfl) (Nat.le_of_ble_eq_true rfl) (Nat.le_of_ble_eq_true rfl) rfl ?_
        refine v_iload_n (i := 1) (q := 31) hC dX12_areThere_30 rfl rfl rfl ?_
        refine v_if_eq (q := 81) (q2 := 34) hC dX12_areThere_31 (by decide) rfl (fun c_31 => ?_) (fun c_31 => ?_)
        · refine v_iconst (q := 82) (v := 0) hC dX12_areThere_81 rfl (by decide) ?_
          first
            | exact LB true _ (by have h8 := c_31; have e8 : b = true := b2i_ne0.mp h8; simp_all [nP_30])
            | exact LB false _ (by simp_all [nP_30, b2i_eq0])
        · refine v_aload_n (i := 0) (q := 35) hC dX12_areThere_34 rfl rfl rfl ?_
          refine g_X12_14 (q := 38) hC dX12_areThere_35 rfl rfl fl_RX12_32 ?_
          refine v_iconst (q := 39) (v := 5) hC dX12_areThere_38 rfl (by decide) ?_
          refine v_iload_n (i := 2) (q := 40) hC dX12_areThere_39 rfl rfl rfl ?_
          refine v_imul (q := 41) hC dX12_areThere_40 rfl ?_
          refine v_iconst (q := 42) (v := 0) hC dX12_areThere_41 rfl (by decide) ?_
          refine v_iadd (q := 43) hC dX12_areThere_42 rfl ?_
          refine v_nptr (i := 5 * j + 0) (q := 44) hC dX12_areThere_43 rfl (v_npt_hx 0) (by omega) ?_
          refine v_if_ne (q := 55) (q2 := 47) hC dX12_areThere_44 (by decide) rfl (fun c_44 => ?_) (fun c_44 => ?_)
          · refine v_aload_n (i := 0) (q := 56) hC dX12_areThere_55 rfl rfl rfl ?_
            refine g_X12_14 (q := 59) hC dX12_areThere_56 rfl rfl fl_RX12_32 ?_
            refine v_iconst (q := 60) (v := 5) hC dX12_areThere_59 rfl (by decide) ?_
            refine v_iload_n (i := 2) (q := 61) hC dX12_areThere_60 rfl rfl rfl ?_
            refine v_imul (q := 62) hC dX12_areThere_61 rfl ?_
            refine v_iconst (q := 63) (v := 0) hC dX12_areThere_62 rfl (by decide) ?_
            refine v_iadd (q := 64) hC dX12_areThere_63 rfl ?_
            refine v_nptr (i := 5 * j + 0) (q := 65) hC dX12_areThere_64 rfl (v_npt_hx 0) (by omega) ?_
            refine v_iconst (q := 66) (v := 1) hC dX12_areThere_65 rfl (by decide) ?_
            refine v_icmp_ne (q := 77) (q2 := 69) hC dX12_areThere_66 (by decide) rfl (fun c_66 => ?_) (fun c_66 => ?_)
            · refine v_iconst (q := 78) (v := 1) hC dX12_areThere_77 rfl (by decide) ?_
              refine v_goto (q := 82) hC dX12_areThere_78 (by decide) ?_
              first
                | exact LB true _ (by have h8 := c_31; have e8 : b = true := b2i_ne0.mp h8; simp_all [nP_30])
                | exact LB false _ (by simp_all [nP_30, b2i_eq0])
            · refine v_aload_n (i := 0) (q := 70) hC dX12_areThere_69 rfl rfl rfl ?_
              refine v_iload_n (i := 3) (q := 71) hC dX12_areThere_70 rfl rfl rfl ?_
              refine v_callV (q := 74) (rm := rm_X12_isGroup) hC (c_X12_isGroup hl Θ _ _) k_X12_isGroup im_yX12_isGroup se_yX12_isGroup ml_RX12_85 dX12_areThere_71 rfl rfl rfl rfl rfl rfl (Nat.le_of_ble_eq_true rfl) ⟨Nat.le_of_ble_eq_true rfl, Nat.le_of_ble_eq_true rfl⟩ ⟨Nat.le_of_ble_eq_true rfl, Nat.le_of_ble_eq_true rfl⟩ (fR_k ?_) fR_x (Nat.le_of_ble_eq_true rfl) (Nat.le_of_ble_eq_true rfl)
              try dsimp only [Option.toList, List.cons_append, List.nil_append]
              refine v_ifb_eq (q := 81) (q2 := 77) hC dX12_areThere_74 (by decide) rfl (fun c_74 => ?_) (fun c_74 => ?_)
              · refine v_iconst (q := 82) (v := 0) hC dX12_areThere_81 rfl (by decide) ?_
                first
                  | exact LB true _ (by have h8 := c_31; have e8 : b = true := b2i_ne0.mp h8; simp_all [nP_30])
                  | exact LB false _ (by simp_all [nP_30, b2i_eq0])
              · refine v_iconst (q := 78) (v := 1) hC dX12_areThere_77 rfl (by decide) ?_
                refine v_goto (q := 82) hC dX12_areThere_78 (by decide) ?_
                first
                  | exact LB true _ (by have h8 := c_31; have e8 : b = true := b2i_ne0.mp h8; simp_all [nP_30])
                  | exact LB false _ (by simp_all [nP_30, b2i_eq0])
          · refine v_aload_n (i := 0) (q := 48) hC dX12_areThere_47 rfl rfl rfl ?_
            refine v_iload_n (i := 3) (q := 49) hC dX12_areThere_48 rfl rfl rfl ?_
            refine v_callV (q := 52) (rm := rm_X12_isUser) hC (c_X12_isUser hl Θ _ _) k_X12_isUser im_yX12_isUser se_yX12_isUser ml_RX12_82 dX12_areThere_49 rfl rfl rfl rfl rfl rfl (Nat.le_of_ble_eq_true rfl) ⟨Nat.le_of_ble_eq_true rfl, Nat.le_of_ble_eq_true rfl⟩ ⟨Nat.le_of_ble_eq_true rfl, Nat.le_of_ble_eq_true rfl⟩ (fR_k ?_) fR_x (Nat.le_of_ble_eq_true rfl) (Nat.le_of_ble_eq_true rfl)
            try dsimp only [Option.toList, List.cons_append, List.nil_append]
            refine v_ifb_eq (q := 81) (q2 := 55) hC dX12_areThere_52 (by decide) rfl (fun c_52 => ?_) (fun c_52 => ?_)
            · refine v_iconst (q := 82) (v := 0) hC dX12_areThere_81 rfl (by decide) ?_
              first
                | exact LB true _ (by have h8 := c_31; have e8 : b = true := b2i_ne0.mp h8; simp_all [nP_30])
                | exact LB false _ (by simp_all [nP_30, b2i_eq0])
            · refine v_aload_n (i := 0) (q := 56) hC dX12_areThere_55 rfl rfl rfl ?_
              refine g_X12_14 (q := 59) hC dX12_areThere_56 rfl rfl fl_RX12_32 ?_
              refine v_iconst (q := 60) (v := 5) hC dX12_areThere_59 rfl (by decide) ?_
              refine v_iload_n (i := 2) (q := 61) hC dX12_areThere_60 rfl rfl rfl ?_
              refine v_imul (q := 62) hC dX12_areThere_61 rfl ?_
              refine v_iconst (q := 63) (v := 0) hC dX12_areThere_62 rfl (by decide) ?_
              refine v_iadd (q := 64) hC dX12_areThere_63 rfl ?_
              refine v_nptr (i := 5 * j + 0) (q := 65) hC dX12_areThere_64 rfl (v_npt_hx 0) (by omega) ?_
              refine v_iconst (q := 66) (v := 1) hC dX12_areThere_65 rfl (by decide) ?_
              refine v_icmp_ne (q := 77) (q2 := 69) hC dX12_areThere_66 (by decide) rfl (fun c_66 => ?_) (fun c_66 => ?_)
              · refine v_iconst (q := 78) (v := 1) hC dX12_areThere_77 rfl (by decide) ?_
                refine v_goto (q := 82) hC dX12_areThere_78 (by decide) ?_
                first
                  | exact LB true _ (by have h8 := c_31; have e8 : b = true := b2i_ne0.mp h8; simp_all [nP_30])
                  | exact LB false _ (by simp_all [nP_30, b2i_eq0])
              · refine v_aload_n (i := 0) (q := 70) hC dX12_areThere_69 rfl rfl rfl ?_
                refine v_iload_n (i := 3) (q := 71) hC dX12_areThere_70 rfl rfl rfl ?_
                refine v_callV (q := 74) (rm := rm_X12_isGroup) hC (c_X12_isGroup hl Θ _ _) k_X12_isGroup im_yX12_isGroup se_yX12_isGroup ml_RX12_85 dX12_areThere_71 rfl rfl rfl rfl rfl rfl (Nat.le_of_ble_eq_true rfl) ⟨Nat.le_of_ble_eq_true rfl, Nat.le_of_ble_eq_true rfl⟩ ⟨Nat.le_of_ble_eq_true rfl, Nat.le_of_ble_eq_true rfl⟩ (fR_k ?_) fR_x (Nat.le_of_ble_eq_true rfl) (Nat.le_of_ble_eq_true rfl)
                try dsimp only [Option.toList, List.cons_append, List.nil_append]
                refine v_ifb_eq (q := 81) (q2 := 77) hC dX12_areThere_74 (by decide) rfl (fun c_74 => ?_) (fun c_74 => ?_)
                · refine v_iconst (q := 82) (v := 0) hC dX12_areThere_81 rfl (by decide) ?_
                  first
                    | exact LB true _ (by have h8 := c_31; have e8 : b = true := b2i_ne0.mp h8; simp_all [nP_30])
                    | exact LB false _ (by simp_all [nP_30, b2i_eq0])
                · refine v_iconst (q := 78) (v := 1) hC dX12_areThere_77 rfl (by decide) ?_
                  refine v_goto (q := 82) hC dX12_areThere_78 (by decide) ?_
                  first
                    | exact LB true _ (by have h8 := c_31; have e8 : b = true := b2i_ne0.mp h8; simp_all [nP_30])
                    | exact LB false _ (by simp_all [nP_30, b2i_eq0])
  refine v_aload_n (i := 0) (q := 1) hC dX12_areThere_0 rfl rfl rfl ?_
  refine v_aload_n (i := 0) (q := 2) hC dX12_areThere_1 rfl rfl rfl ?_
  refine gn_11 (q := 5) hC dX12_areThere_2 rfl rfl fl_RX12_184 ?_
  refine v_callV (q := 8) (rm := rm_X12_isObject) hC (c_X12_isObject hl Θ _ _) k_X12_isObject im_yX12_isObject se_yX12_isObject ml_RX12_57 dX12_areThere_5 rfl rfl rfl rfl rfl rfl (Nat.le_of_ble_eq_true rfl) ⟨Nat.le_of_ble_eq_true rfl, Nat.le_of_ble_eq_true rfl⟩ ⟨Nat.le_of_ble_eq_true rfl, Nat.le_of_ble_eq_true rfl⟩ (fR_k ?_) fR_x (Nat.le_of_ble_eq_true rfl) (Nat.le_of_ble_eq_true rfl)
  try dsimp only [Option.toList, List.cons_append, List.nil_append]
  refine v_istore_n (i := 1) (q := 9) hC dX12_areThere_8 rfl rfl (lvc rfl) (Nat.le_of_ble_eq_true rfl) (Nat.le_of_ble_eq_true rfl) rfl ?_
  refine v_iconst (q := 10) (v := 0) hC dX12_areThere_9 rfl (by decide) ?_
  refine v_istore_n (i := 2) (q := 11) hC dX12_areThere_10 rfl rfl (lvc rfl) (Nat.le_of_ble_eq_true rfl) (Nat.le_of_ble_eq_true rfl) rfl ?_
  exact L q.2.2.1 0 _ none rfl rfl
theorem nTh_hold {w : Nat → Int32} {q : nT} (h : nTh w q = true) : mHold w q.2.1 = true := by
  rcases (Bool.eq_false_or_eq_true (mHold w q.2.1)).symm with z | z
  · unfold nTh at h
    rw [z, nTL_f] at h
    exact absurd h (by decide)
  · exact z
/-- n places of a row r taken over into the entries of o -/
def nLd (w r : Nat → Int32) (o n : Nat) : Nat → Int32 := fun k => if enA o 0 0 ≤ k ∧ k < enA o 0 0 + n then r (k - enA o 0 0) else w k
theorem nLd_0 (w r : Nat → Int32) (o : Nat) : nLd w r o 0 = w := by
  funext k
  rw [nLd, if_neg (by omega)]
theorem nLd_step (w r : Nat → Int32) (o n : Nat) : upd (nLd w r o n) (enA o 0 n) (r n) = nLd w r o (n + 1) := by
  funext k
  unfold upd nLd
  by_cases h1 : k = enA o 0 n
  · subst h1
    rw [if_pos rfl, if_pos (by unfold enA; omega)]
    congr 1
    unfold enA
    omega
  · rw [if_neg h1]
    by_cases h2 : enA o 0 0 ≤ k ∧ k < enA o 0 0 + n
    · rw [if_pos h2, if_pos (by omega)]
    · rw [if_neg h2, if_neg (by unfold enA at *; omega)]
def nLw (w : Nat → Int32) (q : nT) (o : Nat) : Nat → Int32 := nLd (upd w (oA o 5) (nI q.2.2.1)) q.2.2.2.2 o (5 * q.2.2.1)
theorem nP_7 (G : GS) (q : nT) (x : Int32) : putF (nP G q) 0 29 7 x = nP (putF G 0 29 7 x) q := by
  unfold nP
  rw [putF_putA, putF_comm _ _ _ 13 7 _ _ (by decide), putF_comm _ _ _ 12 7 _ _ (by decide), putF_comm _ _ _ 11 7 _ _ (by decide), putF_comm _ _ _ 10 7 _ _ (by decide)]
def nLq (q : nT) (G : GS) : GS := nP (putF (mWr (nLw (G.2.1 0 30) q q.2.1.toNatClampNeg) (mC G)) 0 29 7 0) q
theorem nWL_pa {G : GS} : ∀ (n : Nat) (b : Bool) (q : nT), nTy G q.1 → q.2.2.1 ≤ 6 → (b = true → q.2.2.1 ≤ 5) → (nWL G n b q).2.2.2.1 ≤ 6 := by
  intro n
  induction n with
  | zero => intro b q h1 h2 _; rw [nWL]; exact h2
  | succ n ih =>
    intro b q h1 h2 h3
    rw [nWL]
    cases b with
    | false => rw [if_pos rfl]; exact h2
    | true =>
      rw [if_neg (by decide)]
      obtain ⟨k1, k2⟩ := nEn_ok h1
      have h5 := h3 rfl
      by_cases c1 : (nEn G q).1 = false
      · rw [if_pos c1]
        rw [if_neg (by rw [c1]; decide)] at k2
        show (nEn G q).2.2.2.1 ≤ 6
        omega
      · rw [if_neg c1]
        rw [if_pos (by simpa using c1)] at k2
        by_cases c2 : (nEn G q).2.2.2.1 < 6
        · rw [if_pos c2]
          exact ih _ _ (nSg_ty k1) (by rw [nSg_pa2]; omega) (fun _ => by rw [nSg_pa2]; omega)
        · rw [if_neg c2]
          exact ih _ _ k1 (by omega) (fun z => absurd z (by decide))
theorem nWr_pa {G : GS} {q : nT} (hty : ∃ ty, G.1 0 29 7 = nI ty ∧ ty ≤ 80) : (nWr G q).2.2.2.1 ≤ 6 := by
  have ht : nTy G 0 := by
    obtain ⟨ty, e9, h9⟩ := hty
    exact ⟨ty, e9, h9, Nat.zero_le _⟩
  have e0 : (nNm G 19 (0, q.2.1, 0, q.2.2.2)).2.2.2.1 = 0 := by rw [nNm_pa]
  have e1 : (nSg G 58 (nNm G 19 (0, q.2.1, 0, q.2.2.2)).2).2.2.2.1 = 0 := by rw [nSg_pa2, e0]
  unfold nWr
  by_cases c1 : (nNm G 19 (0, q.2.1, 0, q.2.2.2)).1 = false
  · rw [if_pos c1]
    show (nNm G 19 (0, q.2.1, 0, q.2.2.2)).2.2.2.1 ≤ 6
    omega
  · rw [if_neg c1]
    by_cases c2 : (nSg G 58 (nNm G 19 (0, q.2.1, 0, q.2.2.2)).2).1 = false
    · rw [if_pos c2]
      show (nSg G 58 (nNm G 19 (0, q.2.1, 0, q.2.2.2)).2).2.2.2.1 ≤ 6
      omega
    · rw [if_neg c2]
      have e2 : (nWv (nSg G 58 (nNm G 19 (0, q.2.1, 0, q.2.2.2)).2).2).2.2.1 = 0 := e1
      exact nWL_pa 7 _ _ (nSg_ty (nNm_ty ht)) (by omega) (fun _ => by omega)
def nLQ (G : GS) : cOut → GS → Prop := if (decide ((nR G).1 = -1) && nTh (G.2.1 0 30) (nR G).2) = true then fR (some (.int (nI (nR G).2.2.2.1))) (nLq (nR G).2 G) else fR (some (.int 0)) (nP (ms 1 G) (nR G).2)
set_option maxHeartbeats 4000000 in
set_option maxRecDepth 20000 in
theorem c_X12_loadEntries {l : Launch} (hl : l.stackTraces = false) (Θ : cTH) (G : GS) (hm : mInv G) (hn : nInv G) : Ct l yX12_loadEntries cX12_loadEntries 2 (some .int) rm_X12_loadEntries Θ [.ref (tR Θ 0 29)] (G) (nLQ G) := by
  refine ct_of (LS := [some (.ref (tR Θ 0 29)), none]) hl (by decide +kernel) rfl (Nat.le_of_ble_eq_true rfl) rfl ?_
  intro p e s m args below meth c hC hr
  have L : ∀ (q : nT), q.2.2.1 ≤ 6 → ∀ o2 : Nat, o2 < 20 → q.2.1 = nI o2 → ∀ (n j : Nat), n + j = 5 * q.2.2.1 → V p l e rm_X12_loadEntries s m args below meth c 2 Θ (fR (some (.int (nI q.2.2.1))) (nLq q G)) rm_X12_loadEntries.cells rm_X12_loadEntries.slots 0 0 49 [some (.ref (tR Θ 0 29)), some (.int (nI j))] [] (nP (mWr (nLd (upd (G.2.1 0 30) (oA o2 5) (nI q.2.2.1)) q.2.2.2.2 o2 j) (mC G)) q) := by
    intro q hp o2 ho eo n
    induction n with
    | zero =>
      intro j h1
      refine v_iload_n (i := 1) (q := 50) hC dX12_loadEntries_49 rfl rfl rfl ?_
      refine v_iconst (q := 51) (v := 5) hC dX12_loadEntries_50 rfl (by decide) ?_
      refine v_aload_n (i := 0) (q := 52) hC dX12_loadEntries_51 rfl rfl rfl ?_
      refine gn_12 (q := 55) hC dX12_loadEntries_52 rfl rfl fl_RX12_171 ?_
      refine v_imul (q := 56) hC dX12_loadEntries_55 rfl ?_
      rw [show (5 : Int32) = nI 5 from rfl, nI_mul]
      refine v_icmp_ge (q := 85) (q2 := 59) hC dX12_loadEntries_56 (by decide) rfl (fun c_56 => ?_) (fun c_56 => ?_)
      · refine v_aload_n (i := 0) (q := 86) hC dX12_loadEntries_85 rfl rfl rfl ?_
        refine v_iconst (q := 87) (v := 0) hC dX12_loadEntries_86 rfl (by decide) ?_
        refine p_X12_7 (q := 90) hC dX12_loadEntries_87 rfl rfl fl_RX12_159 ?_
        rw [nP_7]
        refine v_aload_n (i := 0) (q := 91) hC dX12_loadEntries_90 rfl rfl rfl ?_
        refine gn_12 (q := 94) hC dX12_loadEntries_91 rfl rfl fl_RX12_171 ?_
        refine v_iret hC dX12_loadEntries_94 hr (rfl) ?_ (Nat.le_of_ble_eq_true rfl) (Nat.le_of_ble_eq_true rfl)
        exact ⟨rfl, by rw [nLq, nLw, show q.2.1.toNatClampNeg = o2 by rw [eo, nI_clamp (by omega)], show j = 5 * q.2.2.1 by omega]⟩
      · exact absurd (nI_le (by omega) (by omega)) c_56
    | succ n ih =>
      intro j h1
      refine v_iload_n (i := 1) (q := 50) hC dX12_loadEntries_49 rfl rfl rfl ?_
      refine v_iconst (q := 51) (v := 5) hC dX12_loadEntries_50 rfl (by decide) ?_
      refine v_aload_n (i := 0) (q := 52) hC dX12_loadEntries_51 rfl rfl rfl ?_
      refine gn_12 (q := 55) hC dX12_loadEntries_52 rfl rfl fl_RX12_171 ?_
      refine v_imul (q := 56) hC dX12_loadEntries_55 rfl ?_
      rw [show (5 : Int32) = nI 5 from rfl, nI_mul]
      refine v_icmp_ge (q := 85) (q2 := 59) hC dX12_loadEntries_56 (by decide) rfl (fun c_56 => ?_) (fun c_56 => ?_)
      · exact absurd c_56 (nI_ge (by omega) (by omega))
      · refine v_aload_n (i := 0) (q := 60) hC dX12_loadEntries_59 rfl rfl rfl ?_
        refine g_X12_0 (q := 63) hC dX12_loadEntries_60 rfl rfl fl_RX12_7 ?_
        refine v_aload_n (i := 0) (q := 64) hC dX12_loadEntries_63 rfl rfl rfl ?_
        refine gn_11 (q := 67) hC dX12_loadEntries_64 rfl rfl fl_RX12_184 ?_
        refine v_iconst (q := 68) (v := 0) hC dX12_loadEntries_67 rfl (by decide) ?_
        refine v_iload_n (i := 1) (q := 69) hC dX12_loadEntries_68 rfl rfl rfl ?_
        rw [eo]
        refine v_callS (q := 72) (rm := rm_X12_entryAt) hC (c_X12_entryAt hl Θ o2 0 j _) k_X12_entryAt st_yX12_entryAt ml_RX12_61 dX12_loadEntries_69 rfl  rfl rfl (Nat.le_of_ble_eq_true rfl) ⟨Nat.le_of_ble_eq_true rfl, Nat.le_of_ble_eq_true rfl⟩ ⟨Nat.le_of_ble_eq_true rfl, Nat.le_of_ble_eq_true rfl⟩ (fR_k ?_) fR_x (Nat.le_of_ble_eq_true rfl) (Nat.le_of_ble_eq_true rfl)
        try dsimp only [Option.toList, List.cons_append, List.nil_append]
        refine v_aload_n (i := 0) (q := 73) hC dX12_loadEntries_72 rfl rfl rfl ?_
        refine g_X12_14 (q := 76) hC dX12_loadEntries_73 rfl rfl fl_RX12_32 ?_
        refine v_iload_n (i := 1) (q := 77) hC dX12_loadEntries_76 rfl rfl rfl ?_
        refine v_nptr (i := j) (q := 78) hC dX12_loadEntries_77 rfl rfl (by omega) ?_
        rw [← mWr_nP]
        refine v_mwr (i := enA o2 0 j) (q := 79) hC dX12_loadEntries_78 rfl rfl (by unfold enA; omega) ?_
        rw [nLd_step, mWr_nP]
        refine v_iinc (q := 82) (v := nI (j + 1)) hC dX12_loadEntries_79 rfl rfl (nI_1 j) (lvc rfl) (Nat.le_of_ble_eq_true rfl) (Nat.le_of_ble_eq_true rfl) rfl ?_
        refine v_goto (q := 49) hC dX12_loadEntries_82 (by decide) ?_
        exact ih (j + 1) (by omega)
  have hpa : (nR G).2.2.2.1 ≤ 6 := nWr_pa (by rw [ms_fld _ _ (by decide)]; exact hn.2)
  refine v_aload_n (i := 0) (q := 1) hC dX12_loadEntries_0 rfl rfl rfl ?_
  refine v_iconst (q := 2) (v := 0) hC dX12_loadEntries_1 rfl (by decide) ?_
  refine pm_last (q := 5) hC dX12_loadEntries_2 rfl rfl fl_RX12_39 ?_
  refine v_aload_n (i := 0) (q := 6) hC dX12_loadEntries_5 rfl rfl rfl ?_
  refine v_callV (q := 9) (rm := rm_X12_wrong) hC (c_nR hl Θ G hn) k_X12_wrong im_yX12_wrong se_yX12_wrong ml_RX12_190 dX12_loadEntries_6 rfl rfl rfl rfl rfl rfl (Nat.le_of_ble_eq_true rfl) ⟨Nat.le_of_ble_eq_true rfl, Nat.le_of_ble_eq_true rfl⟩ ⟨Nat.le_of_ble_eq_true rfl, Nat.le_of_ble_eq_true rfl⟩ (fR_k ?_) fR_x (Nat.le_of_ble_eq_true rfl) (Nat.le_of_ble_eq_true rfl)
  try dsimp only [Option.toList, List.cons_append, List.nil_append]
  refine v_iconst (q := 10) (v := (-1)) hC dX12_loadEntries_9 rfl (by decide) ?_
  refine v_icmp_ne (q := 20) (q2 := 13) hC dX12_loadEntries_10 (by decide) rfl (fun c_10 => ?_) (fun c_10 => ?_)
  · refine v_aload_n (i := 0) (q := 21) hC dX12_loadEntries_20 rfl rfl rfl ?_
    refine v_iconst (q := 22) (v := 1) hC dX12_loadEntries_21 rfl (by decide) ?_
    refine v_callV (q := 25) (rm := rm_X12_fails) hC (c_X12_fails hl Θ _ _) k_X12_fails im_yX12_fails se_yX12_fails ml_RX12_76 dX12_loadEntries_22 rfl rfl rfl rfl rfl rfl (Nat.le_of_ble_eq_true rfl) ⟨Nat.le_of_ble_eq_true rfl, Nat.le_of_ble_eq_true rfl⟩ ⟨Nat.le_of_ble_eq_true rfl, Nat.le_of_ble_eq_true rfl⟩ (fR_k ?_) fR_x (Nat.le_of_ble_eq_true rfl) (Nat.le_of_ble_eq_true rfl)
    try dsimp only [Option.toList, List.cons_append, List.nil_append]
    rw [ms_nP, ms_ms]
    refine v_iret hC dX12_loadEntries_25 hr (rfl) ?_ (Nat.le_of_ble_eq_true rfl) (Nat.le_of_ble_eq_true rfl)
    rw [nLQ, if_neg (by simp_all [ms_row])]
    exact ⟨rfl, rfl⟩
  · refine v_aload_n (i := 0) (q := 14) hC dX12_loadEntries_13 rfl rfl rfl ?_
    refine v_callV (q := 17) (rm := rm_X12_areThere) hC (c_X12_areThere hl Θ _ (ms 0 G) hpa) k_X12_areThere im_yX12_areThere se_yX12_areThere ml_RX12_193 dX12_loadEntries_14 rfl rfl rfl rfl rfl rfl (Nat.le_of_ble_eq_true rfl) ⟨Nat.le_of_ble_eq_true rfl, Nat.le_of_ble_eq_true rfl⟩ ⟨Nat.le_of_ble_eq_true rfl, Nat.le_of_ble_eq_true rfl⟩ (fR_k ?_) fR_x (Nat.le_of_ble_eq_true rfl) (Nat.le_of_ble_eq_true rfl)
    try dsimp only [Option.toList, List.cons_append, List.nil_append]
    refine v_ifb_ne (q := 26) (q2 := 20) hC dX12_loadEntries_17 (by decide) rfl (fun c_17 => ?_) (fun c_17 => ?_)
    · rw [nLQ, if_pos (by simp_all [ms_row])]
      obtain ⟨o2, ho, eo⟩ := mHold_nI (nTh_hold (show nTh (G.2.1 0 30) (nR G).2 = true from c_17))
      refine v_aload_n (i := 0) (q := 27) hC dX12_loadEntries_26 rfl rfl rfl ?_
      refine v_callV (q := 30) (rm := rm_X12_changes) hC (c_X12_changes hl Θ (mQ G) (nP (ms 0 G) (nR G).2) (by show (ms 0 G).1 0 29 4 = _; rw [ms_fld _ _ (by decide)]; exact hm.1.1) hm.1.2) k_X12_changes im_yX12_changes se_yX12_changes ml_RX12_79 dX12_loadEntries_27 rfl rfl rfl rfl rfl rfl (Nat.le_of_ble_eq_true rfl) ⟨Nat.le_of_ble_eq_true rfl, Nat.le_of_ble_eq_true rfl⟩ ⟨Nat.le_of_ble_eq_true rfl, Nat.le_of_ble_eq_true rfl⟩ (fR_k ?_) fR_x (Nat.le_of_ble_eq_true rfl) (Nat.le_of_ble_eq_true rfl)
      try dsimp only [Option.toList, List.cons_append, List.nil_append]
      rw [mCh_nP]
      refine v_aload_n (i := 0) (q := 31) hC dX12_loadEntries_30 rfl rfl rfl ?_
      refine g_X12_0 (q := 34) hC dX12_loadEntries_31 rfl rfl fl_RX12_7 ?_
      refine v_aload_n (i := 0) (q := 35) hC dX12_loadEntries_34 rfl rfl rfl ?_
      refine gn_11 (q := 38) hC dX12_loadEntries_35 rfl rfl fl_RX12_184 ?_
      refine v_iconst (q := 39) (v := 5) hC dX12_loadEntries_38 rfl (by decide) ?_
      rw [eo]
      refine v_callS (q := 42) (rm := rm_X12_at) hC (c_X12_at hl Θ o2 5 _) k_X12_at st_yX12_at ml_RX12_50 dX12_loadEntries_39 rfl  rfl rfl (Nat.le_of_ble_eq_true rfl) ⟨Nat.le_of_ble_eq_true rfl, Nat.le_of_ble_eq_true rfl⟩ ⟨Nat.le_of_ble_eq_true rfl, Nat.le_of_ble_eq_true rfl⟩ (fR_k ?_) fR_x (Nat.le_of_ble_eq_true rfl) (Nat.le_of_ble_eq_true rfl)
      try dsimp only [Option.toList, List.cons_append, List.nil_append]
      refine v_aload_n (i := 0) (q := 43) hC dX12_loadEntries_42 rfl rfl rfl ?_
      refine gn_12 (q := 46) hC dX12_loadEntries_43 rfl rfl fl_RX12_171 ?_
      rw [← mWr_self (nP (mCh (mQ G) (ms 0 G)) (nR G).2)]
      refine v_mwr (i := oA o2 5) (q := 47) hC dX12_loadEntries_46 rfl rfl (by unfold oA; omega) ?_
      refine v_iconst (q := 48) (v := 0) hC dX12_loadEntries_47 rfl (by decide) ?_
      refine v_istore_n (i := 1) (q := 49) hC dX12_loadEntries_48 rfl rfl (lvc rfl) (Nat.le_of_ble_eq_true rfl) (Nat.le_of_ble_eq_true rfl) rfl ?_
      have h := L (nR G).2 hpa o2 ho eo (5 * (nR G).2.2.2.1) 0 rfl
      rw [nLd_0] at h
      rw [mWr_nP, show (nP (mCh (mQ G) (ms 0 G)) (nR G).2).2.1 0 30 = G.2.1 0 30 from mC_w G]
      exact h
    · refine v_aload_n (i := 0) (q := 21) hC dX12_loadEntries_20 rfl rfl rfl ?_
      refine v_iconst (q := 22) (v := 1) hC dX12_loadEntries_21 rfl (by decide) ?_
      refine v_callV (q := 25) (rm := rm_X12_fails) hC (c_X12_fails hl Θ _ _) k_X12_fails im_yX12_fails se_yX12_fails ml_RX12_76 dX12_loadEntries_22 rfl rfl rfl rfl rfl rfl (Nat.le_of_ble_eq_true rfl) ⟨Nat.le_of_ble_eq_true rfl, Nat.le_of_ble_eq_true rfl⟩ ⟨Nat.le_of_ble_eq_true rfl, Nat.le_of_ble_eq_true rfl⟩ (fR_k ?_) fR_x (Nat.le_of_ble_eq_true rfl) (Nat.le_of_ble_eq_true rfl)
      try dsimp only [Option.toList, List.cons_append, List.nil_append]
      rw [ms_nP, ms_ms]
      refine v_iret hC dX12_loadEntries_25 hr (rfl) ?_ (Nat.le_of_ble_eq_true rfl) (Nat.le_of_ble_eq_true rfl)
      rw [nLQ, if_neg (by simp_all [ms_row])]
      exact ⟨rfl, rfl⟩
