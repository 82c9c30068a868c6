/-! The reference: entries, what is decided -/
theorem nI_p (a b : Nat) {x : Int32} (h : x = nI a) : x + nI b = nI (a + b) := by rw [h, nI_add]
theorem nI_m1 {a : Nat} (h : 1 ≤ a) : nI a - 1 = nI (a - 1) := pk_sub h
def mTk (w : Nat → Int32) (a b : Nat) : Nat → Int32 := fun k => if a ≤ k ∧ k < b then w (k + 5) else w k
theorem mTk_0 (w : Nat → Int32) (a : Nat) : mTk w a a = w := by
  funext k
  rw [mTk, if_neg (by omega)]
theorem mTk_step (w : Nat → Int32) (a b : Nat) (h : a ≤ b) : upd (mTk w a b) b (mTk w a b (b + 5)) = mTk w a (b + 1) := by
  funext k
  unfold upd mTk
  by_cases h1 : k = b
  · subst h1
    rw [if_pos rfl, if_neg (by omega), if_pos (by omega)]
  · rw [if_neg h1]
    by_cases h2 : a ≤ k ∧ k < b
    · rw [if_pos h2, if_pos (by omega)]
    · rw [if_neg h2, if_neg (by omega)]
def mTo (w : Nat → Int32) (o i c : Nat) : Nat → Int32 := mTk (upd w (oA o 5) (nI (c - 1))) (enA o i 0) (enA o (c - 1) 0)
set_option maxHeartbeats 4000000 in
set_option maxRecDepth 20000 in
theorem c_X12_takesOut {l : Launch} (hl : l.stackTraces = false) (Θ : cTH) (o i c0 : Nat) (G : GS) (ho : o < 20) (hc : G.2.1 0 30 (oA o 5) = nI c0) (h1 : 1 ≤ c0) (h6 : c0 ≤ 6) (hi : i < c0) : Ct l yX12_takesOut cX12_takesOut 4 none rm_X12_takesOut Θ [.ref (tR Θ 0 29), .int (nI o), .int (nI i)] (G) (fR none (mWr (mTo (G.2.1 0 30) o i c0) G)) := by
  refine ct_of (LS := [some (.ref (tR Θ 0 29)), some (.int (nI o)), some (.int (nI i)), none]) hl (by decide +kernel) rfl (Nat.le_of_ble_eq_true rfl) rfl ?_
  intro p e s m args below meth c hC hr
  have L : ∀ (n j : Nat), n + j = enA o (c0 - 1) 0 → enA o i 0 ≤ j → V p l e rm_X12_takesOut s m args below meth c 4 Θ (fR none (mWr (mTo (G.2.1 0 30) o i c0) G)) 0 0 0 0 21 [some (.ref (tR Θ 0 29)), some (.int (nI o)), some (.int (nI i)), some (.int (nI j))] [] (mWr (mTk (upd (G.2.1 0 30) (oA o 5) (nI (c0 - 1))) (enA o i 0) j) G) := by
    intro n
    induction n with
    | zero =>
      intro j h2 h3
      have e5 : (mTk (upd (G.2.1 0 30) (oA o 5) (nI (c0 - 1))) (enA o i 0) j) (oA o 5) = nI (c0 - 1) := by
        rw [mTk, if_neg (by unfold oA enA; omega), upd, if_pos rfl]
      refine v_iload_n (i := 3) (q := 22) hC dX12_takesOut_21 rfl rfl rfl ?_
      refine v_iload_n (i := 1) (q := 23) hC dX12_takesOut_22 rfl rfl rfl ?_
      refine v_aload_n (i := 0) (q := 24) hC dX12_takesOut_23 rfl rfl rfl ?_
      refine v_iload_n (i := 1) (q := 25) hC dX12_takesOut_24 rfl rfl rfl ?_
      refine v_iconst (q := 26) (v := 5) hC dX12_takesOut_25 rfl (by decide) ?_
      refine v_callV (q := 29) (rm := rm_X12_of) hC (c_X12_of hl Θ _ 5 _ (by unfold oA; omega)) k_X12_of im_yX12_of se_yX12_of ml_RX12_54 dX12_takesOut_26 rfl rfl rfl rfl rfl rfl (Nat.le_of_ble_eq_true rfl) ⟨Nat.le_of_ble_eq_true rfl, Nat.le_of_ble_eq_true rfl⟩ ⟨Nat.le_of_ble_eq_true rfl, Nat.le_of_ble_eq_true rfl⟩ (fR_k ?_) fR_x (Nat.le_of_ble_eq_true rfl) (Nat.le_of_ble_eq_true rfl)
      try dsimp only [Option.toList, List.cons_append, List.nil_append]
      rw [mWr_row, e5]
      refine v_iconst (q := 30) (v := 0) hC dX12_takesOut_29 rfl (by decide) ?_
      refine v_callS (q := 33) (rm := rm_X12_entryAt) hC (c_X12_entryAt hl Θ _ _ 0 _) k_X12_entryAt st_yX12_entryAt ml_RX12_61 dX12_takesOut_30 rfl  rfl rfl (Nat.le_of_ble_eq_true rfl) ⟨Nat.le_of_ble_eq_true rfl, Nat.le_of_ble_eq_true rfl⟩ ⟨Nat.le_of_ble_eq_true rfl, Nat.le_of_ble_eq_true rfl⟩ (fR_k ?_) fR_x (Nat.le_of_ble_eq_true rfl) (Nat.le_of_ble_eq_true rfl)
      try dsimp only [Option.toList, List.cons_append, List.nil_append]
      refine v_icmp_ge (q := 56) (q2 := 36) hC dX12_takesOut_33 (by decide) rfl (fun c_33 => ?_) (fun c_33 => ?_)
      · refine v_vret hC dX12_takesOut_56 hr ?_ (Nat.le_of_ble_eq_true rfl) (Nat.le_of_ble_eq_true rfl)
        exact ⟨rfl, by rw [mTo, ← h2, Nat.zero_add]⟩
      · exact absurd (nI_le (by omega) (by unfold enA at *; omega)) c_33
    | succ n ih =>
      intro j h2 h3
      have e5 : (mTk (upd (G.2.1 0 30) (oA o 5) (nI (c0 - 1))) (enA o i 0) j) (oA o 5) = nI (c0 - 1) := by
        rw [mTk, if_neg (by unfold oA enA; omega), upd, if_pos rfl]
      have hj : j + 5 < 765 := by unfold enA at h2; omega
      refine v_iload_n (i := 3) (q := 22) hC dX12_takesOut_21 rfl rfl rfl ?_
      refine v_iload_n (i := 1) (q := 23) hC dX12_takesOut_22 rfl rfl rfl ?_
      refine v_aload_n (i := 0) (q := 24) hC dX12_takesOut_23 rfl rfl rfl ?_
      refine v_iload_n (i := 1) (q := 25) hC dX12_takesOut_24 rfl rfl rfl ?_
      refine v_iconst (q := 26) (v := 5) hC dX12_takesOut_25 rfl (by decide) ?_
      refine v_callV (q := 29) (rm := rm_X12_of) hC (c_X12_of hl Θ _ 5 _ (by unfold oA; omega)) k_X12_of im_yX12_of se_yX12_of ml_RX12_54 dX12_takesOut_26 rfl rfl rfl rfl rfl rfl (Nat.le_of_ble_eq_true rfl) ⟨Nat.le_of_ble_eq_true rfl, Nat.le_of_ble_eq_true rfl⟩ ⟨Nat.le_of_ble_eq_true rfl, Nat.le_of_ble_eq_true rfl⟩ (fR_k ?_) fR_x (Nat.le_of_ble_eq_true rfl) (Nat.le_of_ble_eq_true rfl)
      try dsimp only [Option.toList, List.cons_append, List.nil_append]
      rw [mWr_row, e5]
      refine v_iconst (q := 30) (v := 0) hC dX12_takesOut_29 rfl (by decide) ?_
      refine v_callS (q := 33) (rm := rm_X12_entryAt) hC (c_X12_entryAt hl Θ _ _ 0 _) k_X12_entryAt st_yX12_entryAt ml_RX12_61 dX12_takesOut_30 rfl  rfl rfl (Nat.le_of_ble_eq_true rfl) ⟨Nat.le_of_ble_eq_true rfl, Nat.le_of_ble_eq_true rfl⟩ ⟨Nat.le_of_ble_eq_true rfl, Nat.le_of_ble_eq_true rfl⟩ (fR_k ?_) fR_x (Nat.le_of_ble_eq_true rfl) (Nat.le_of_ble_eq_true rfl)
      try dsimp only [Option.toList, List.cons_append, List.nil_append]
      refine v_icmp_ge (q := 56) (q2 := 36) hC dX12_takesOut_33 (by decide) rfl (fun c_33 => ?_) (fun c_33 => ?_)
      · exact absurd c_33 (nI_ge (by omega) (by unfold enA at *; omega))
      · refine v_aload_n (i := 0) (q := 37) hC dX12_takesOut_36 rfl rfl rfl ?_
        refine g_X12_0 (q := 40) hC dX12_takesOut_37 rfl rfl fl_RX12_7 ?_
        refine v_iload_n (i := 3) (q := 41) hC dX12_takesOut_40 rfl rfl rfl ?_
        refine v_aload_n (i := 0) (q := 42) hC dX12_takesOut_41 rfl rfl rfl ?_
        refine g_X12_0 (q := 45) hC dX12_takesOut_42 rfl rfl fl_RX12_7 ?_
        refine v_iload_n (i := 3) (q := 46) hC dX12_takesOut_45 rfl rfl rfl ?_
        refine v_iconst (q := 47) (v := 5) hC dX12_takesOut_46 rfl (by decide) ?_
        refine v_iadd (q := 48) hC dX12_takesOut_47 rfl ?_
        refine v_ialdN (q := 49) hC dX12_takesOut_48 rfl rfl rfl (i := j + 5) (nI_add j 5) (by first | decide | omega | (unfold oA; omega) | (unfold enA; omega)) (by decide) ?_
        rw [mWr_row]
        refine v_mwr (i := j) (q := 50) hC dX12_takesOut_49 rfl rfl (by omega) ?_
        refine v_iinc (q := 53) (v := nI (j + 1)) hC dX12_takesOut_50 rfl rfl (nI_1 j) (lvc rfl) (Nat.le_of_ble_eq_true rfl) (Nat.le_of_ble_eq_true rfl) rfl ?_
        refine v_goto (q := 21) hC dX12_takesOut_53 (by decide) ?_
        rw [mTk_step _ _ _ h3]
        exact ih (j + 1) (by omega) (by omega)
  refine v_aload_n (i := 0) (q := 1) hC dX12_takesOut_0 rfl rfl rfl ?_
  refine g_X12_0 (q := 4) hC dX12_takesOut_1 rfl rfl fl_RX12_7 ?_
  refine v_iload_n (i := 1) (q := 5) hC dX12_takesOut_4 rfl rfl rfl ?_
  refine v_iconst (q := 6) (v := 5) hC dX12_takesOut_5 rfl (by decide) ?_
  refine v_callS (q := 9) (rm := rm_X12_at) hC (c_X12_at hl Θ _ 5 _) k_X12_at st_yX12_at ml_RX12_50 dX12_takesOut_6 rfl  rfl rfl (Nat.le_of_ble_eq_true rfl) ⟨Nat.le_of_ble_eq_true rfl, Nat.le_of_ble_eq_true rfl⟩ ⟨Nat.le_of_ble_eq_true rfl, Nat.le_of_ble_eq_true rfl⟩ (fR_k ?_) fR_x (Nat.le_of_ble_eq_true rfl) (Nat.le_of_ble_eq_true rfl)
  try dsimp only [Option.toList, List.cons_append, List.nil_append]
  refine v_dup2 (q := 10) hC dX12_takesOut_9 rfl rfl rfl ?_
  refine v_ialdN (q := 11) hC dX12_takesOut_10 rfl rfl rfl (i := oA o 5) (rfl) (by first | decide | omega | (unfold oA; omega) | (unfold enA; omega)) (by decide) ?_
  refine v_iconst (q := 12) (v := 1) hC dX12_takesOut_11 rfl (by decide) ?_
  refine v_isub (q := 13) hC dX12_takesOut_12 rfl ?_
  refine v_mup (i := oA o 5) (q := 14) hC dX12_takesOut_13 rfl rfl (by unfold oA; omega) ?_
  refine v_iload_n (i := 1) (q := 15) hC dX12_takesOut_14 rfl rfl rfl ?_
  refine v_iload_n (i := 2) (q := 16) hC dX12_takesOut_15 rfl rfl rfl ?_
  refine v_iconst (q := 17) (v := 0) hC dX12_takesOut_16 rfl (by decide) ?_
  refine v_callS (q := 20) (rm := rm_X12_entryAt) hC (c_X12_entryAt hl Θ _ _ 0 _) k_X12_entryAt st_yX12_entryAt ml_RX12_61 dX12_takesOut_17 rfl  rfl rfl (Nat.le_of_ble_eq_true rfl) ⟨Nat.le_of_ble_eq_true rfl, Nat.le_of_ble_eq_true rfl⟩ ⟨Nat.le_of_ble_eq_true rfl, Nat.le_of_ble_eq_true rfl⟩ (fR_k ?_) fR_x (Nat.le_of_ble_eq_true rfl) (Nat.le_of_ble_eq_true rfl)
  try dsimp only [Option.toList, List.cons_append, List.nil_append]
  refine v_istore_n (i := 3) (q := 21) hC dX12_takesOut_20 rfl rfl (lvc rfl) (Nat.le_of_ble_eq_true rfl) (Nat.le_of_ble_eq_true rfl) rfl ?_
  rw [hc, nI_m1 h1]
  have h := L (enA o (c0 - 1) 0 - enA o i 0) (enA o i 0) (by unfold enA; omega) (Nat.le_refl _)
  rw [mTk_0] at h
  exact h
/-- room is made: what lies above b, up to t, was moved up -/
def mOpK (w : Nat → Int32) (b t : Nat) : Nat → Int32 := fun k => if b < k ∧ k ≤ t then w (k - 5) else w k
theorem mOpK_0 (w : Nat → Int32) (t : Nat) : mOpK w t t = w := by
  funext k
  rw [mOpK, if_neg (by omega)]
theorem mOpK_step (w : Nat → Int32) (b t : Nat) (h : b + 1 ≤ t) : upd (mOpK w (b + 1) t) (b + 1) (mOpK w (b + 1) t (b + 1 - 5)) = mOpK w b t := by
  funext k
  unfold upd mOpK
  by_cases h1 : k = b + 1
  · subst h1
    rw [if_pos rfl, if_neg (by omega), if_pos (by omega)]
  · rw [if_neg h1]
    by_cases h2 : b + 1 < k ∧ k ≤ t
    · rw [if_pos h2, if_pos (by omega)]
    · rw [if_neg h2, if_neg (by omega)]
def mOpn (w : Nat → Int32) (o i c : Nat) : Nat → Int32 := upd (mOpK w (enA o i 4) (enA o c 4)) (oA o 5) (nI (c + 1))
set_option maxHeartbeats 4000000 in
set_option maxRecDepth 20000 in
theorem c_X12_opens {l : Launch} (hl : l.stackTraces = false) (Θ : cTH) (o i c0 : Nat) (G : GS) (ho : o < 20) (hc : G.2.1 0 30 (oA o 5) = nI c0) (h5 : c0 ≤ 5) (hi : i ≤ c0) : Ct l yX12_opens cX12_opens 4 none rm_X12_opens Θ [.ref (tR Θ 0 29), .int (nI o), .int (nI i)] (G) (fR none (mWr (mOpn (G.2.1 0 30) o i c0) G)) := by
  refine ct_of (LS := [some (.ref (tR Θ 0 29)), some (.int (nI o)), some (.int (nI i)), none]) hl (by decide +kernel) rfl (Nat.le_of_ble_eq_true rfl) rfl ?_
  intro p e s m args below meth c hC hr
  have L : ∀ (n j : Nat), enA o i 4 + n = j → j ≤ enA o c0 4 → V p l e rm_X12_opens s m args below meth c 4 Θ (fR none (mWr (mOpn (G.2.1 0 30) o i c0) G)) 0 0 0 0 12 [some (.ref (tR Θ 0 29)), some (.int (nI o)), some (.int (nI i)), some (.int (nI j))] [] (mWr (mOpK (G.2.1 0 30) j (enA o c0 4)) G) := by
    intro n
    induction n with
    | zero =>
      intro j h2 h3
      have e5 : mOpK (G.2.1 0 30) j (enA o c0 4) (oA o 5) = nI c0 := by
        rw [mOpK, if_neg (by unfold oA enA at *; omega), hc]
      refine v_iload_n (i := 3) (q := 13) hC dX12_opens_12 rfl rfl rfl ?_
      refine v_iload_n (i := 1) (q := 14) hC dX12_opens_13 rfl rfl rfl ?_
      refine v_iload_n (i := 2) (q := 15) hC dX12_opens_14 rfl rfl rfl ?_
      refine v_iconst (q := 16) (v := 1) hC dX12_opens_15 rfl (by decide) ?_
      refine v_iadd (q := 17) hC dX12_opens_16 rfl ?_
      rw [nI_1]
      refine v_iconst (q := 18) (v := 0) hC dX12_opens_17 rfl (by decide) ?_
      refine v_callS (q := 21) (rm := rm_X12_entryAt) hC (c_X12_entryAt hl Θ _ _ 0 _) k_X12_entryAt st_yX12_entryAt ml_RX12_61 dX12_opens_18 rfl  rfl rfl (Nat.le_of_ble_eq_true rfl) ⟨Nat.le_of_ble_eq_true rfl, Nat.le_of_ble_eq_true rfl⟩ ⟨Nat.le_of_ble_eq_true rfl, Nat.le_of_ble_eq_true rfl⟩ (fR_k ?_) fR_x (Nat.le_of_ble_eq_true rfl) (Nat.le_of_ble_eq_true rfl)
      try dsimp only [Option.toList, List.cons_append, List.nil_append]
      refine v_icmp_lt (q := 44) (q2 := 24) hC dX12_opens_21 (by decide) rfl (fun c_21 => ?_) (fun c_21 => ?_)
      · refine v_aload_n (i := 0) (q := 45) hC dX12_opens_44 rfl rfl rfl ?_
        refine g_X12_0 (q := 48) hC dX12_opens_45 rfl rfl fl_RX12_7 ?_
        refine v_iload_n (i := 1) (q := 49) hC dX12_opens_48 rfl rfl rfl ?_
        refine v_iconst (q := 50) (v := 5) hC dX12_opens_49 rfl (by decide) ?_
        refine v_callS (q := 53) (rm := rm_X12_at) hC (c_X12_at hl Θ _ 5 _) k_X12_at st_yX12_at ml_RX12_50 dX12_opens_50 rfl  rfl rfl (Nat.le_of_ble_eq_true rfl) ⟨Nat.le_of_ble_eq_true rfl, Nat.le_of_ble_eq_true rfl⟩ ⟨Nat.le_of_ble_eq_true rfl, Nat.le_of_ble_eq_true rfl⟩ (fR_k ?_) fR_x (Nat.le_of_ble_eq_true rfl) (Nat.le_of_ble_eq_true rfl)
        try dsimp only [Option.toList, List.cons_append, List.nil_append]
        refine v_dup2 (q := 54) hC dX12_opens_53 rfl rfl rfl ?_
        refine v_ialdN (q := 55) hC dX12_opens_54 rfl rfl rfl (i := oA o 5) (rfl) (by first | decide | omega | (unfold oA; omega) | (unfold enA; omega)) (by decide) ?_
        rw [mWr_row, e5]
        refine v_iconst (q := 56) (v := 1) hC dX12_opens_55 rfl (by decide) ?_
        refine v_iadd (q := 57) hC dX12_opens_56 rfl ?_
        refine v_mwr (i := oA o 5) (q := 58) hC dX12_opens_57 rfl rfl (by unfold oA; omega) ?_
        refine v_vret hC dX12_opens_58 hr ?_ (Nat.le_of_ble_eq_true rfl) (Nat.le_of_ble_eq_true rfl)
        exact ⟨rfl, by rw [mOpn, nI_1, show enA o i 4 = j from h2]⟩
      · exact absurd (nI_lt (by unfold enA at *; omega) (by unfold enA at *; omega)) c_21
    | succ n ih =>
      intro j h2 h3
      obtain ⟨j1, rfl⟩ : ∃ j1, j = j1 + 1 := ⟨j - 1, by omega⟩
      have hj : j1 + 1 < 765 := by unfold enA at h3; omega
      have hj5 : 5 ≤ j1 + 1 := by unfold enA at h2; omega
      refine v_iload_n (i := 3) (q := 13) hC dX12_opens_12 rfl rfl rfl ?_
      refine v_iload_n (i := 1) (q := 14) hC dX12_opens_13 rfl rfl rfl ?_
      refine v_iload_n (i := 2) (q := 15) hC dX12_opens_14 rfl rfl rfl ?_
      refine v_iconst (q := 16) (v := 1) hC dX12_opens_15 rfl (by decide) ?_
      refine v_iadd (q := 17) hC dX12_opens_16 rfl ?_
      rw [nI_1]
      refine v_iconst (q := 18) (v := 0) hC dX12_opens_17 rfl (by decide) ?_
      refine v_callS (q := 21) (rm := rm_X12_entryAt) hC (c_X12_entryAt hl Θ _ _ 0 _) k_X12_entryAt st_yX12_entryAt ml_RX12_61 dX12_opens_18 rfl  rfl rfl (Nat.le_of_ble_eq_true rfl) ⟨Nat.le_of_ble_eq_true rfl, Nat.le_of_ble_eq_true rfl⟩ ⟨Nat.le_of_ble_eq_true rfl, Nat.le_of_ble_eq_true rfl⟩ (fR_k ?_) fR_x (Nat.le_of_ble_eq_true rfl) (Nat.le_of_ble_eq_true rfl)
      try dsimp only [Option.toList, List.cons_append, List.nil_append]
      refine v_icmp_lt (q := 44) (q2 := 24) hC dX12_opens_21 (by decide) rfl (fun c_21 => ?_) (fun c_21 => ?_)
      · exact absurd c_21 (nI_nlt (by unfold enA at *; omega) (by omega))
      · refine v_aload_n (i := 0) (q := 25) hC dX12_opens_24 rfl rfl rfl ?_
        refine g_X12_0 (q := 28) hC dX12_opens_25 rfl rfl fl_RX12_7 ?_
        refine v_iload_n (i := 3) (q := 29) hC dX12_opens_28 rfl rfl rfl ?_
        refine v_aload_n (i := 0) (q := 30) hC dX12_opens_29 rfl rfl rfl ?_
        refine g_X12_0 (q := 33) hC dX12_opens_30 rfl rfl fl_RX12_7 ?_
        refine v_iload_n (i := 3) (q := 34) hC dX12_opens_33 rfl rfl rfl ?_
        refine v_iconst (q := 35) (v := 5) hC dX12_opens_34 rfl (by decide) ?_
        refine v_isub (q := 36) hC dX12_opens_35 rfl ?_
        refine v_ialdN (q := 37) hC dX12_opens_36 rfl rfl rfl (i := j1 + 1 - 5) (pk_sub (b := 5) hj5) (by omega) (by decide) ?_
        rw [mWr_row]
        refine v_mwr (i := j1 + 1) (q := 38) hC dX12_opens_37 rfl rfl (by omega) ?_
        refine v_iinc (q := 41) (v := nI j1) hC dX12_opens_38 rfl rfl (pk_m1 j1) (lvc rfl) (Nat.le_of_ble_eq_true rfl) (Nat.le_of_ble_eq_true rfl) rfl ?_
        refine v_goto (q := 12) hC dX12_opens_41 (by decide) ?_
        rw [mOpK_step _ _ _ h3]
        exact ih j1 (by omega) (by omega)
  refine v_iload_n (i := 1) (q := 1) hC dX12_opens_0 rfl rfl rfl ?_
  refine v_aload_n (i := 0) (q := 2) hC dX12_opens_1 rfl rfl rfl ?_
  refine v_iload_n (i := 1) (q := 3) hC dX12_opens_2 rfl rfl rfl ?_
  refine v_iconst (q := 4) (v := 5) hC dX12_opens_3 rfl (by decide) ?_
  refine v_callV (q := 7) (rm := rm_X12_of) hC (c_X12_of hl Θ _ 5 _ (by unfold oA; omega)) k_X12_of im_yX12_of se_yX12_of ml_RX12_54 dX12_opens_4 rfl rfl rfl rfl rfl rfl (Nat.le_of_ble_eq_true rfl) ⟨Nat.le_of_ble_eq_true rfl, Nat.le_of_ble_eq_true rfl⟩ ⟨Nat.le_of_ble_eq_true rfl, Nat.le_of_ble_eq_true rfl⟩ (fR_k ?_) fR_x (Nat.le_of_ble_eq_true rfl) (Nat.le_of_ble_eq_true rfl)
  try dsimp only [Option.toList, List.cons_append, List.nil_append]
  rw [hc]
  refine v_iconst (q := 8) (v := 4) hC dX12_opens_7 rfl (by decide) ?_
  refine v_callS (q := 11) (rm := rm_X12_entryAt) hC (c_X12_entryAt hl Θ _ _ 4 _) k_X12_entryAt st_yX12_entryAt ml_RX12_61 dX12_opens_8 rfl  rfl rfl (Nat.le_of_ble_eq_true rfl) ⟨Nat.le_of_ble_eq_true rfl, Nat.le_of_ble_eq_true rfl⟩ ⟨Nat.le_of_ble_eq_true rfl, Nat.le_of_ble_eq_true rfl⟩ (fR_k ?_) fR_x (Nat.le_of_ble_eq_true rfl) (Nat.le_of_ble_eq_true rfl)
  try dsimp only [Option.toList, List.cons_append, List.nil_append]
  refine v_istore_n (i := 3) (q := 12) hC dX12_opens_11 rfl rfl (lvc rfl) (Nat.le_of_ble_eq_true rfl) (Nat.le_of_ble_eq_true rfl) rfl ?_
  have h := L (enA o c0 4 - enA o i 4) (enA o c0 4) (by unfold enA; omega) (Nat.le_refl _)
  rw [mOpK_0, mWr_self] at h
  exact h
def mWrt (w : Nat → Int32) (o i : Nat) (kind who rg : Int32) (a b : Bool) : Nat → Int32 := upd (upd (upd (upd (upd w (enA o i 0) kind) (enA o i 1) who) (enA o i 2) rg) (enA o i 3) (b2i a)) (enA o i 4) (b2i b)
set_option maxHeartbeats 4000000 in
set_option maxRecDepth 20000 in
theorem c_X12_writes {l : Launch} (hl : l.stackTraces = false) (Θ : cTH) (o i : Nat) (kind who rg : Int32) (a b : Bool) (w : Nat → Int32) (G : GS) (ho : o < 20) (hi : i < 6) : Ct l yX12_writes cX12_writes 8 none rm_X12_writes Θ [.ref (tR Θ 0 29), .int (nI o), .int (nI i), .int kind, .int who, .int rg, .int (b2i a), .int (b2i b)] (mWr w G) (fR none (mWr (mWrt w o i kind who rg a b) G)) := by
  refine ct_of (LS := [some (.ref (tR Θ 0 29)), some (.int (nI o)), some (.int (nI i)), some (.int kind), some (.int who), some (.int rg), some (.int (b2i a)), some (.int (b2i b))]) hl (by decide +kernel) rfl (Nat.le_of_ble_eq_true rfl) rfl ?_
  intro p e s m args below meth c hC hr
  refine v_aload_n (i := 0) (q := 1) hC dX12_writes_0 rfl rfl rfl ?_
  refine g_X12_0 (q := 4) hC dX12_writes_1 rfl rfl fl_RX12_7 ?_
  refine v_iload_n (i := 1) (q := 5) hC dX12_writes_4 rfl rfl rfl ?_
  refine v_iload_n (i := 2) (q := 6) hC dX12_writes_5 rfl rfl rfl ?_
  refine v_iconst (q := 7) (v := 0) hC dX12_writes_6 rfl (by decide) ?_
  refine v_callS (q := 10) (rm := rm_X12_entryAt) hC (c_X12_entryAt hl Θ _ _ 0 _) k_X12_entryAt st_yX12_entryAt ml_RX12_61 dX12_writes_7 rfl  rfl rfl (Nat.le_of_ble_eq_true rfl) ⟨Nat.le_of_ble_eq_true rfl, Nat.le_of_ble_eq_true rfl⟩ ⟨Nat.le_of_ble_eq_true rfl, Nat.le_of_ble_eq_true rfl⟩ (fR_k ?_) fR_x (Nat.le_of_ble_eq_true rfl) (Nat.le_of_ble_eq_true rfl)
  try dsimp only [Option.toList, List.cons_append, List.nil_append]
  refine v_iload_n (i := 3) (q := 11) hC dX12_writes_10 rfl rfl rfl ?_
  refine v_mwr (i := enA o i 0) (q := 12) hC dX12_writes_11 rfl rfl (by unfold enA; omega) ?_
  refine v_aload_n (i := 0) (q := 13) hC dX12_writes_12 rfl rfl rfl ?_
  refine g_X12_0 (q := 16) hC dX12_writes_13 rfl rfl fl_RX12_7 ?_
  refine v_iload_n (i := 1) (q := 17) hC dX12_writes_16 rfl rfl rfl ?_
  refine v_iload_n (i := 2) (q := 18) hC dX12_writes_17 rfl rfl rfl ?_
  refine v_iconst (q := 19) (v := 1) hC dX12_writes_18 rfl (by decide) ?_
  refine v_callS (q := 22) (rm := rm_X12_entryAt) hC (c_X12_entryAt hl Θ _ _ 1 _) k_X12_entryAt st_yX12_entryAt ml_RX12_61 dX12_writes_19 rfl  rfl rfl (Nat.le_of_ble_eq_true rfl) ⟨Nat.le_of_ble_eq_true rfl, Nat.le_of_ble_eq_true rfl⟩ ⟨Nat.le_of_ble_eq_true rfl, Nat.le_of_ble_eq_true rfl⟩ (fR_k ?_) fR_x (Nat.le_of_ble_eq_true rfl) (Nat.le_of_ble_eq_true rfl)
  try dsimp only [Option.toList, List.cons_append, List.nil_append]
  refine v_iload (q := 24) hC dX12_writes_22 rfl rfl ?_
  refine v_mwr (i := enA o i 1) (q := 25) hC dX12_writes_24 rfl rfl (by unfold enA; omega) ?_
  refine v_aload_n (i := 0) (q := 26) hC dX12_writes_25 rfl rfl rfl ?_
  refine g_X12_0 (q := 29) hC dX12_writes_26 rfl rfl fl_RX12_7 ?_
  refine v_iload_n (i := 1) (q := 30) hC dX12_writes_29 rfl rfl rfl ?_
  refine v_iload_n (i := 2) (q := 31) hC dX12_writes_30 rfl rfl rfl ?_
  refine v_iconst (q := 32) (v := 2) hC dX12_writes_31 rfl (by decide) ?_
  refine v_callS (q := 35) (rm := rm_X12_entryAt) hC (c_X12_entryAt hl Θ _ _ 2 _) k_X12_entryAt st_yX12_entryAt ml_RX12_61 dX12_writes_32 rfl  rfl rfl (Nat.le_of_ble_eq_true rfl) ⟨Nat.le_of_ble_eq_true rfl, Nat.le_of_ble_eq_true rfl⟩ ⟨Nat.le_of_ble_eq_true rfl, Nat.le_of_ble_eq_true rfl⟩ (fR_k ?_) fR_x (Nat.le_of_ble_eq_true rfl) (Nat.le_of_ble_eq_true rfl)
  try dsimp only [Option.toList, List.cons_append, List.nil_append]
  refine v_iload (q := 37) hC dX12_writes_35 rfl rfl ?_
  refine v_mwr (i := enA o i 2) (q := 38) hC dX12_writes_37 rfl rfl (by unfold enA; omega) ?_
  refine v_aload_n (i := 0) (q := 39) hC dX12_writes_38 rfl rfl rfl ?_
  refine g_X12_0 (q := 42) hC dX12_writes_39 rfl rfl fl_RX12_7 ?_
  refine v_iload_n (i := 1) (q := 43) hC dX12_writes_42 rfl rfl rfl ?_
  refine v_iload_n (i := 2) (q := 44) hC dX12_writes_43 rfl rfl rfl ?_
  refine v_iconst (q := 45) (v := 3) hC dX12_writes_44 rfl (by decide) ?_
  refine v_callS (q := 48) (rm := rm_X12_entryAt) hC (c_X12_entryAt hl Θ _ _ 3 _) k_X12_entryAt st_yX12_entryAt ml_RX12_61 dX12_writes_45 rfl  rfl rfl (Nat.le_of_ble_eq_true rfl) ⟨Nat.le_of_ble_eq_true rfl, Nat.le_of_ble_eq_true rfl⟩ ⟨Nat.le_of_ble_eq_true rfl, Nat.le_of_ble_eq_true rfl⟩ (fR_k ?_) fR_x (Nat.le_of_ble_eq_true rfl) (Nat.le_of_ble_eq_true rfl)
  try dsimp only [Option.toList, List.cons_append, List.nil_append]
  refine v_iload (q := 50) hC dX12_writes_48 rfl rfl ?_
  refine v_if_eq (q := 57) (q2 := 53) hC dX12_writes_50 (by decide) rfl (fun c_50 => ?_) (fun c_50 => ?_)
  · refine v_iconst (q := 58) (v := 0) hC dX12_writes_57 rfl (by decide) ?_
    refine v_mwr (i := enA o i 3) (q := 59) hC dX12_writes_58 rfl rfl (by unfold enA; omega) ?_
    refine v_aload_n (i := 0) (q := 60) hC dX12_writes_59 rfl rfl rfl ?_
    refine g_X12_0 (q := 63) hC dX12_writes_60 rfl rfl fl_RX12_7 ?_
    refine v_iload_n (i := 1) (q := 64) hC dX12_writes_63 rfl rfl rfl ?_
    refine v_iload_n (i := 2) (q := 65) hC dX12_writes_64 rfl rfl rfl ?_
    refine v_iconst (q := 66) (v := 4) hC dX12_writes_65 rfl (by decide) ?_
    refine v_callS (q := 69) (rm := rm_X12_entryAt) hC (c_X12_entryAt hl Θ _ _ 4 _) k_X12_entryAt st_yX12_entryAt ml_RX12_61 dX12_writes_66 rfl  rfl rfl (Nat.le_of_ble_eq_true rfl) ⟨Nat.le_of_ble_eq_true rfl, Nat.le_of_ble_eq_true rfl⟩ ⟨Nat.le_of_ble_eq_true rfl, Nat.le_of_ble_eq_true rfl⟩ (fR_k ?_) fR_x (Nat.le_of_ble_eq_true rfl) (Nat.le_of_ble_eq_true rfl)
    try dsimp only [Option.toList, List.cons_append, List.nil_append]
    refine v_iload (q := 71) hC dX12_writes_69 rfl rfl ?_
    refine v_if_eq (q := 78) (q2 := 74) hC dX12_writes_71 (by decide) rfl (fun c_71 => ?_) (fun c_71 => ?_)
    · refine v_iconst (q := 79) (v := 0) hC dX12_writes_78 rfl (by decide) ?_
      refine v_mwr (i := enA o i 4) (q := 80) hC dX12_writes_79 rfl rfl (by unfold enA; omega) ?_
      refine v_vret hC dX12_writes_80 hr ?_ (Nat.le_of_ble_eq_true rfl) (Nat.le_of_ble_eq_true rfl)
      rw [mWrt]
      first | rw [b2i_ne0.mp c_50] | rw [b2i_eq0.mp c_50]
      first | rw [b2i_ne0.mp c_71] | rw [b2i_eq0.mp c_71]
      exact ⟨rfl, rfl⟩
    · refine v_iconst (q := 75) (v := 1) hC dX12_writes_74 rfl (by decide) ?_
      refine v_goto (q := 79) hC dX12_writes_75 (by decide) ?_
      refine v_mwr (i := enA o i 4) (q := 80) hC dX12_writes_79 rfl rfl (by unfold enA; omega) ?_
      refine v_vret hC dX12_writes_80 hr ?_ (Nat.le_of_ble_eq_true rfl) (Nat.le_of_ble_eq_true rfl)
      rw [mWrt]
      first | rw [b2i_ne0.mp c_50] | rw [b2i_eq0.mp c_50]
      first | rw [b2i_ne0.mp c_71] | rw [b2i_eq0.mp c_71]
      exact ⟨rfl, rfl⟩
  · refine v_iconst (q := 54) (v := 1) hC dX12_writes_53 rfl (by decide) ?_
    refine v_goto (q := 58) hC dX12_writes_54 (by decide) ?_
    refine v_mwr (i := enA o i 3) (q := 59) hC dX12_writes_58 rfl rfl (by unfold enA; omega) ?_
    refine v_aload_n (i := 0) (q := 60) hC dX12_writes_59 rfl rfl rfl ?_
    refine g_X12_0 (q := 63) hC dX12_writes_60 rfl rfl fl_RX12_7 ?_
    refine v_iload_n (i := 1) (q := 64) hC dX12_writes_63 rfl rfl rfl ?_
    refine v_iload_n (i := 2) (q := 65) hC dX12_writes_64 rfl rfl rfl ?_
    refine v_iconst (q := 66) (v := 4) hC dX12_writes_65 rfl (by decide) ?_
    refine v_callS (q := 69) (rm := rm_X12_entryAt) hC (c_X12_entryAt hl Θ _ _ 4 _) k_X12_entryAt st_yX12_entryAt ml_RX12_61 dX12_writes_66 rfl  rfl rfl (Nat.le_of_ble_eq_true rfl) ⟨Nat.le_of_ble_eq_true rfl, Nat.le_of_ble_eq_true rfl⟩ ⟨Nat.le_of_ble_eq_true rfl, Nat.le_of_ble_eq_true rfl⟩ (fR_k ?_) fR_x (Nat.le_of_ble_eq_true rfl) (Nat.le_of_ble_eq_true rfl)
    try dsimp only [Option.toList, List.cons_append, List.nil_append]
    refine v_iload (q := 71) hC dX12_writes_69 rfl rfl ?_
    refine v_if_eq (q := 78) (q2 := 74) hC dX12_writes_71 (by decide) rfl (fun c_71 => ?_) (fun c_71 => ?_)
    · refine v_iconst (q := 79) (v := 0) hC dX12_writes_78 rfl (by decide) ?_
      refine v_mwr (i := enA o i 4) (q := 80) hC dX12_writes_79 rfl rfl (by unfold enA; omega) ?_
      refine v_vret hC dX12_writes_80 hr ?_ (Nat.le_of_ble_eq_true rfl) (Nat.le_of_ble_eq_true rfl)
      rw [mWrt]
      first | rw [b2i_ne0.mp c_50] | rw [b2i_eq0.mp c_50]
      first | rw [b2i_ne0.mp c_71] | rw [b2i_eq0.mp c_71]
      exact ⟨rfl, rfl⟩
    · refine v_iconst (q := 75) (v := 1) hC dX12_writes_74 rfl (by decide) ?_
      refine v_goto (q := 79) hC dX12_writes_75 (by decide) ?_
      refine v_mwr (i := enA o i 4) (q := 80) hC dX12_writes_79 rfl rfl (by unfold enA; omega) ?_
      refine v_vret hC dX12_writes_80 hr ?_ (Nat.le_of_ble_eq_true rfl) (Nat.le_of_ble_eq_true rfl)
      rw [mWrt]
      first | rw [b2i_ne0.mp c_50] | rw [b2i_eq0.mp c_50]
      first | rw [b2i_ne0.mp c_71] | rw [b2i_eq0.mp c_71]
      exact ⟨rfl, rfl⟩
def mThr (w : Nat → Int32) (o kind who : Int32) : Bool := mHold w o && ((!decide (kind = 0) || mIn who 0 (w 0 - 1)) && (!decide (kind = 1) || mIn who 0 (w 1 - 1)))
def mAd (o : Nat) (kind who rg : Int32) (a b : Bool) (G : GS) : GS := mWr (mWrt (upd (G.2.1 0 30) (oA o 5) (nI (mCt (G.2.1 0 30) o + 1))) o (mCt (G.2.1 0 30) o) kind who rg a b) (mC G)
def mAdQ (o kind who rg : Int32) (a b : Bool) (G : GS) : cOut → GS → Prop := mg (mThr (G.2.1 0 30) o kind who) 1 (mg (mIn rg 1 15) 2 (mg (!decide (G.2.1 0 30 (oA o.toNatClampNeg 5) = 6)) 3 (fR (some (.int (nI (mCt (G.2.1 0 30) o.toNatClampNeg + 1)))) (mAd o.toNatClampNeg kind who rg a b G)) G) G) G
set_option maxHeartbeats 4000000 in
set_option maxRecDepth 20000 in
theorem c_X12_adds {l : Launch} (hl : l.stackTraces = false) (Θ : cTH) (o kind who rg : Int32) (a b : Bool) (G : GS) (hm : mInv G) : Ct l yX12_adds cX12_adds 8 (some .int) rm_X12_adds Θ [.ref (tR Θ 0 29), .int o, .int kind, .int who, .int rg, .int (b2i a), .int (b2i b)] (G) (mAdQ o kind who rg a b G) := by
  refine ct_of (LS := [some (.ref (tR Θ 0 29)), some (.int o), some (.int kind), some (.int who), some (.int rg), some (.int (b2i a)), some (.int (b2i b)), none]) hl (by decide +kernel) rfl (Nat.le_of_ble_eq_true rfl) rfl ?_
  intro p e s m args below meth c hC hr
  rw [mAdQ]
  refine v_aload_n (i := 0) (q := 1) hC dX12_adds_0 rfl rfl rfl ?_
  refine v_iconst (q := 2) (v := 0) hC dX12_adds_1 rfl (by decide) ?_
  refine pm_last (q := 5) hC dX12_adds_2 rfl rfl fl_RX12_39 ?_
  refine v_aload_n (i := 0) (q := 6) hC dX12_adds_5 rfl rfl rfl ?_
  refine v_iload_n (i := 1) (q := 7) hC dX12_adds_6 rfl rfl rfl ?_
  refine v_callV (q := 10) (rm := rm_X12_isObject) hC (c_X12_isObject hl Θ _ _) k_X12_isObject im_yX12_isObject se_yX12_isObject ml_RX12_57 dX12_adds_7 rfl rfl rfl rfl rfl rfl (Nat.le_of_ble_eq_true rfl) ⟨Nat.le_of_ble_eq_true rfl, Nat.le_of_ble_eq_true rfl⟩ ⟨Nat.le_of_ble_eq_true rfl, Nat.le_of_ble_eq_true rfl⟩ (fR_k ?_) fR_x (Nat.le_of_ble_eq_true rfl) (Nat.le_of_ble_eq_true rfl)
  try dsimp only [Option.toList, List.cons_append, List.nil_append]
  refine v_ifb_eq (q := 42) (q2 := 13) hC dX12_adds_10 (by decide) rfl (fun c_10 => ?_) (fun c_10 => ?_)
  · refine v_iconst (q := 43) (v := 0) hC dX12_adds_42 rfl (by decide) ?_
    refine v_istore (q := 45) hC dX12_adds_43 rfl (lvc rfl) (Nat.le_of_ble_eq_true rfl) (Nat.le_of_ble_eq_true rfl) rfl ?_
    refine v_iload (q := 47) hC dX12_adds_45 rfl rfl ?_
    refine v_if_ne (q := 56) (q2 := 50) hC dX12_adds_47 (by decide) rfl (fun c_47 => ?_) (fun c_47 => ?_)
    · first
      | exact absurd c_47 (by decide)
      |
        rw [mg_t (by simp_all [mThr, ms_row])]
        obtain ⟨j, hj, rfl⟩ := mHold_nI c_10
        have hcc := hm.2.ct hj
        have hc6 := hm.2.ct6 hj
        rw [nI_clamp (show j < 2 ^ 31 by omega)]
        refine v_iload (q := 58) hC dX12_adds_56 rfl rfl ?_
        refine v_callS (q := 61) (rm := rm_X12_areRights) hC (c_X12_areRights hl Θ _ _) k_X12_areRights st_yX12_areRights ml_RX12_101 dX12_adds_58 rfl  rfl rfl (Nat.le_of_ble_eq_true rfl) ⟨Nat.le_of_ble_eq_true rfl, Nat.le_of_ble_eq_true rfl⟩ ⟨Nat.le_of_ble_eq_true rfl, Nat.le_of_ble_eq_true rfl⟩ (fR_k ?_) fR_x (Nat.le_of_ble_eq_true rfl) (Nat.le_of_ble_eq_true rfl)
        try dsimp only [Option.toList, List.cons_append, List.nil_append]
        refine v_ifb_ne (q := 70) (q2 := 64) hC dX12_adds_61 (by decide) rfl (fun c_61 => ?_) (fun c_61 => ?_)
        · rw [mg_t c_61]
          refine v_aload_n (i := 0) (q := 71) hC dX12_adds_70 rfl rfl rfl ?_
          refine v_iload_n (i := 1) (q := 72) hC dX12_adds_71 rfl rfl rfl ?_
          refine v_iconst (q := 73) (v := 5) hC dX12_adds_72 rfl (by decide) ?_
          refine v_callV (q := 76) (rm := rm_X12_of) hC (c_X12_of hl Θ _ 5 _ (by unfold oA; omega)) k_X12_of im_yX12_of se_yX12_of ml_RX12_54 dX12_adds_73 rfl rfl rfl rfl rfl rfl (Nat.le_of_ble_eq_true rfl) ⟨Nat.le_of_ble_eq_true rfl, Nat.le_of_ble_eq_true rfl⟩ ⟨Nat.le_of_ble_eq_true rfl, Nat.le_of_ble_eq_true rfl⟩ (fR_k ?_) fR_x (Nat.le_of_ble_eq_true rfl) (Nat.le_of_ble_eq_true rfl)
          try dsimp only [Option.toList, List.cons_append, List.nil_append]
          refine v_bipush (q := 78) (v := 6) hC dX12_adds_76 rfl (by decide) ?_
          refine v_icmp_ne (q := 87) (q2 := 81) hC dX12_adds_78 (by decide) rfl (fun c_78 => ?_) (fun c_78 => ?_)
          · rw [mg_t (by rw [show decide (G.2.1 0 30 (oA j 5) = 6) = false from decide_eq_false c_78]; rfl)]
            have hc5 : mCt (G.2.1 0 30) j < 6 := by
              rcases Nat.lt_or_ge (mCt (G.2.1 0 30) j) 6 with z | z
              · exact z
              · exact absurd (show G.2.1 0 30 (oA j 5) = 6 by rw [hcc, show mCt (G.2.1 0 30) j = 6 by omega]; rfl) c_78
            refine v_aload_n (i := 0) (q := 88) hC dX12_adds_87 rfl rfl rfl ?_
            refine v_callV (q := 91) (rm := rm_X12_changes) hC (c_mC hl Θ _ hm) k_X12_changes im_yX12_changes se_yX12_changes ml_RX12_79 dX12_adds_88 rfl rfl rfl rfl rfl rfl (Nat.le_of_ble_eq_true rfl) ⟨Nat.le_of_ble_eq_true rfl, Nat.le_of_ble_eq_true rfl⟩ ⟨Nat.le_of_ble_eq_true rfl, Nat.le_of_ble_eq_true rfl⟩ (fR_k ?_) fR_x (Nat.le_of_ble_eq_true rfl) (Nat.le_of_ble_eq_true rfl)
            try dsimp only [Option.toList, List.cons_append, List.nil_append]
            refine v_aload_n (i := 0) (q := 92) hC dX12_adds_91 rfl rfl rfl ?_
            refine g_X12_0 (q := 95) hC dX12_adds_92 rfl rfl fl_RX12_7 ?_
            refine v_iload_n (i := 1) (q := 96) hC dX12_adds_95 rfl rfl rfl ?_
            refine v_iconst (q := 97) (v := 5) hC dX12_adds_96 rfl (by decide) ?_
            refine v_callS (q := 100) (rm := rm_X12_at) hC (c_X12_at hl Θ _ 5 _) k_X12_at st_yX12_at ml_RX12_50 dX12_adds_97 rfl  rfl rfl (Nat.le_of_ble_eq_true rfl) ⟨Nat.le_of_ble_eq_true rfl, Nat.le_of_ble_eq_true rfl⟩ ⟨Nat.le_of_ble_eq_true rfl, Nat.le_of_ble_eq_true rfl⟩ (fR_k ?_) fR_x (Nat.le_of_ble_eq_true rfl) (Nat.le_of_ble_eq_true rfl)
            try dsimp only [Option.toList, List.cons_append, List.nil_append]
            refine v_dup2 (q := 101) hC dX12_adds_100 rfl rfl rfl ?_
            refine v_ialdN (q := 102) hC dX12_adds_101 rfl rfl rfl (i := oA j 5) (rfl) (by first | decide | omega | (unfold oA; omega) | (unfold enA; omega)) (by decide) ?_
            refine v_iconst (q := 103) (v := 1) hC dX12_adds_102 rfl (by decide) ?_
            refine v_iadd (q := 104) hC dX12_adds_103 rfl ?_
            refine v_mup (i := oA j 5) (q := 105) hC dX12_adds_104 rfl rfl (by unfold oA; omega) ?_
            rw [show mUp (oA j 5) ((mC G).2.1 0 30 (oA j 5) + 1) (mC G) = mWr (upd (G.2.1 0 30) (oA j 5) (nI (mCt (G.2.1 0 30) j + 1))) (mC G) by rw [mUp, mC_w, hcc, nI_1]; rfl]
            refine v_aload_n (i := 0) (q := 106) hC dX12_adds_105 rfl rfl rfl ?_
            refine v_iload_n (i := 1) (q := 107) hC dX12_adds_106 rfl rfl rfl ?_
            refine v_aload_n (i := 0) (q := 108) hC dX12_adds_107 rfl rfl rfl ?_
            refine v_iload_n (i := 1) (q := 109) hC dX12_adds_108 rfl rfl rfl ?_
            refine v_iconst (q := 110) (v := 5) hC dX12_adds_109 rfl (by decide) ?_
            refine v_callV (q := 113) (rm := rm_X12_of) hC (c_X12_of hl Θ _ 5 _ (by unfold oA; omega)) k_X12_of im_yX12_of se_yX12_of ml_RX12_54 dX12_adds_110 rfl rfl rfl rfl rfl rfl (Nat.le_of_ble_eq_true rfl) ⟨Nat.le_of_ble_eq_true rfl, Nat.le_of_ble_eq_true rfl⟩ ⟨Nat.le_of_ble_eq_true rfl, Nat.le_of_ble_eq_true rfl⟩ (fR_k ?_) fR_x (Nat.le_of_ble_eq_true rfl) (Nat.le_of_ble_eq_true rfl)
            try dsimp only [Option.toList, List.cons_append, List.nil_append]
            rw [mWr_row, upd, if_pos rfl]
            refine v_iconst (q := 114) (v := 1) hC dX12_adds_113 rfl (by decide) ?_
            refine v_isub (q := 115) hC dX12_adds_114 rfl ?_
            rw [nI_m1 (by omega), Nat.add_sub_cancel]
            refine v_iload_n (i := 2) (q := 116) hC dX12_adds_115 rfl rfl rfl ?_
            refine v_iload_n (i := 3) (q := 117) hC dX12_adds_116 rfl rfl rfl ?_
            refine v_iload (q := 119) hC dX12_adds_117 rfl rfl ?_
            refine v_iload (q := 121) hC dX12_adds_119 rfl rfl ?_
            refine v_iload (q := 123) hC dX12_adds_121 rfl rfl ?_
            refine v_callV (q := 126) (rm := rm_X12_writes) hC (c_X12_writes hl Θ j (mCt (G.2.1 0 30) j) _ _ _ a b _ _ hj hc5) k_X12_writes im_yX12_writes se_yX12_writes ml_RX12_104 dX12_adds_123 rfl rfl rfl rfl rfl rfl (Nat.le_of_ble_eq_true rfl) ⟨Nat.le_of_ble_eq_true rfl, Nat.le_of_ble_eq_true rfl⟩ ⟨Nat.le_of_ble_eq_true rfl, Nat.le_of_ble_eq_true rfl⟩ (fR_k ?_) fR_x (Nat.le_of_ble_eq_true rfl) (Nat.le_of_ble_eq_true rfl)
            try dsimp only [Option.toList, List.cons_append, List.nil_append]
            refine v_aload_n (i := 0) (q := 127) hC dX12_adds_126 rfl rfl rfl ?_
            refine v_iload_n (i := 1) (q := 128) hC dX12_adds_127 rfl rfl rfl ?_
            refine v_iconst (q := 129) (v := 5) hC dX12_adds_128 rfl (by decide) ?_
            refine v_callV (q := 132) (rm := rm_X12_of) hC (c_X12_of hl Θ _ 5 _ (by unfold oA; omega)) k_X12_of im_yX12_of se_yX12_of ml_RX12_54 dX12_adds_129 rfl rfl rfl rfl rfl rfl (Nat.le_of_ble_eq_true rfl) ⟨Nat.le_of_ble_eq_true rfl, Nat.le_of_ble_eq_true rfl⟩ ⟨Nat.le_of_ble_eq_true rfl, Nat.le_of_ble_eq_true rfl⟩ (fR_k ?_) fR_x (Nat.le_of_ble_eq_true rfl) (Nat.le_of_ble_eq_true rfl)
            try dsimp only [Option.toList, List.cons_append, List.nil_append]
            rw [mWr_row]
            refine v_iret hC dX12_adds_132 hr (rfl) ?_ (Nat.le_of_ble_eq_true rfl) (Nat.le_of_ble_eq_true rfl)
            refine ⟨?_, rfl⟩
            unfold mWrt upd
            rw [if_neg (by unfold oA enA; omega), if_neg (by unfold oA enA; omega), if_neg (by unfold oA enA; omega), if_neg (by unfold oA enA; omega), if_neg (by unfold oA enA; omega), if_pos rfl]
          · refine v_aload_n (i := 0) (q := 82) hC dX12_adds_81 rfl rfl rfl ?_
            refine v_iconst (q := 83) (v := 3) hC dX12_adds_82 rfl (by decide) ?_
            refine v_callV (q := 86) (rm := rm_X12_fails) hC (c_fl hl Θ _ _ _) k_X12_fails im_yX12_fails se_yX12_fails ml_RX12_76 dX12_adds_83 rfl rfl rfl rfl rfl rfl (Nat.le_of_ble_eq_true rfl) ⟨Nat.le_of_ble_eq_true rfl, Nat.le_of_ble_eq_true rfl⟩ ⟨Nat.le_of_ble_eq_true rfl, Nat.le_of_ble_eq_true rfl⟩ (fR_k ?_) fR_x (Nat.le_of_ble_eq_true rfl) (Nat.le_of_ble_eq_true rfl)
            try dsimp only [Option.toList, List.cons_append, List.nil_append]
            refine v_iret hC dX12_adds_86 hr (rfl) ?_ (Nat.le_of_ble_eq_true rfl) (Nat.le_of_ble_eq_true rfl)
            exact mg_f (by rw [show decide (G.2.1 0 30 (oA j 5) = 6) = true from decide_eq_true c_78]; rfl)
        · refine v_aload_n (i := 0) (q := 65) hC dX12_adds_64 rfl rfl rfl ?_
          refine v_iconst (q := 66) (v := 2) hC dX12_adds_65 rfl (by decide) ?_
          refine v_callV (q := 69) (rm := rm_X12_fails) hC (c_fl hl Θ _ _ _) k_X12_fails im_yX12_fails se_yX12_fails ml_RX12_76 dX12_adds_66 rfl rfl rfl rfl rfl rfl (Nat.le_of_ble_eq_true rfl) ⟨Nat.le_of_ble_eq_true rfl, Nat.le_of_ble_eq_true rfl⟩ ⟨Nat.le_of_ble_eq_true rfl, Nat.le_of_ble_eq_true rfl⟩ (fR_k ?_) fR_x (Nat.le_of_ble_eq_true rfl) (Nat.le_of_ble_eq_true rfl)
          try dsimp only [Option.toList, List.cons_append, List.nil_append]
          refine v_iret hC dX12_adds_69 hr (rfl) ?_ (Nat.le_of_ble_eq_true rfl) (Nat.le_of_ble_eq_true rfl)
          exact mg_f c_61
    · first
      | exact absurd c_47 (by decide)
      |
        refine v_aload_n (i := 0) (q := 51) hC dX12_adds_50 rfl rfl rfl ?_
        refine v_iconst (q := 52) (v := 1) hC dX12_adds_51 rfl (by decide) ?_
        refine v_callV (q := 55) (rm := rm_X12_fails) hC (c_fl hl Θ _ _ _) k_X12_fails im_yX12_fails se_yX12_fails ml_RX12_76 dX12_adds_52 rfl rfl rfl rfl rfl rfl (Nat.le_of_ble_eq_true rfl) ⟨Nat.le_of_ble_eq_true rfl, Nat.le_of_ble_eq_true rfl⟩ ⟨Nat.le_of_ble_eq_true rfl, Nat.le_of_ble_eq_true rfl⟩ (fR_k ?_) fR_x (Nat.le_of_ble_eq_true rfl) (Nat.le_of_ble_eq_true rfl)
        try dsimp only [Option.toList, List.cons_append, List.nil_append]
        refine v_iret hC dX12_adds_55 hr (rfl) ?_ (Nat.le_of_ble_eq_true rfl) (Nat.le_of_ble_eq_true rfl)
        exact mg_f (by simp_all [mThr, ms_row])
  · refine v_iload_n (i := 2) (q := 14) hC dX12_adds_13 rfl rfl rfl ?_
    refine v_if_ne (q := 25) (q2 := 17) hC dX12_adds_14 (by decide) rfl (fun c_14 => ?_) (fun c_14 => ?_)
    · refine v_iload_n (i := 2) (q := 26) hC dX12_adds_25 rfl rfl rfl ?_
      refine v_iconst (q := 27) (v := 1) hC dX12_adds_26 rfl (by decide) ?_
      refine v_icmp_ne (q := 38) (q2 := 30) hC dX12_adds_27 (by decide) rfl (fun c_27 => ?_) (fun c_27 => ?_)
      · refine v_iconst (q := 39) (v := 1) hC dX12_adds_38 rfl (by decide) ?_
        refine v_goto (q := 43) hC dX12_adds_39 (by decide) ?_
        refine v_istore (q := 45) hC dX12_adds_43 rfl (lvc rfl) (Nat.le_of_ble_eq_true rfl) (Nat.le_of_ble_eq_true rfl) rfl ?_
        refine v_iload (q := 47) hC dX12_adds_45 rfl rfl ?_
        refine v_if_ne (q := 56) (q2 := 50) hC dX12_adds_47 (by decide) rfl (fun c_47 => ?_) (fun c_47 => ?_)
        · first
          | exact absurd c_47 (by decide)
          |
            rw [mg_t (by simp_all [mThr, ms_row])]
            obtain ⟨j, hj, rfl⟩ := mHold_nI c_10
            have hcc := hm.2.ct hj
            have hc6 := hm.2.ct6 hj
            rw [nI_clamp (show j < 2 ^ 31 by omega)]
            refine v_iload (q := 58) hC dX12_adds_56 rfl rfl ?_
            refine v_callS (q := 61) (rm := rm_X12_areRights) hC (c_X12_areRights hl Θ _ _) k_X12_areRights st_yX12_areRights ml_RX12_101 dX12_adds_58 rfl  rfl rfl (Nat.le_of_ble_eq_true rfl) ⟨Nat.le_of_ble_eq_true rfl, Nat.le_of_ble_eq_true rfl⟩ ⟨Nat.le_of_ble_eq_true rfl, Nat.le_of_ble_eq_true rfl⟩ (fR_k ?_) fR_x (Nat.le_of_ble_eq_true rfl) (Nat.le_of_ble_eq_true rfl)
            try dsimp only [Option.toList, List.cons_append, List.nil_append]
            refine v_ifb_ne (q := 70) (q2 := 64) hC dX12_adds_61 (by decide) rfl (fun c_61 => ?_) (fun c_61 => ?_)
            · rw [mg_t c_61]
              refine v_aload_n (i := 0) (q := 71) hC dX12_adds_70 rfl rfl rfl ?_
              refine v_iload_n (i := 1) (q := 72) hC dX12_adds_71 rfl rfl rfl ?_
              refine v_iconst (q := 73) (v := 5) hC dX12_adds_72 rfl (by decide) ?_
              refine v_callV (q := 76) (rm := rm_X12_of) hC (c_X12_of hl Θ _ 5 _ (by unfold oA; omega)) k_X12_of im_yX12_of se_yX12_of ml_RX12_54 dX12_adds_73 rfl rfl rfl rfl rfl rfl (Nat.le_of_ble_eq_true rfl) ⟨Nat.le_of_ble_eq_true rfl, Nat.le_of_ble_eq_true rfl⟩ ⟨Nat.le_of_ble_eq_true rfl, Nat.le_of_ble_eq_true rfl⟩ (fR_k ?_) fR_x (Nat.le_of_ble_eq_true rfl) (Nat.le_of_ble_eq_true rfl)
              try dsimp only [Option.toList, List.cons_append, List.nil_append]
              refine v_bipush (q := 78) (v := 6) hC dX12_adds_76 rfl (by decide) ?_
              refine v_icmp_ne (q := 87) (q2 := 81) hC dX12_adds_78 (by decide) rfl (fun c_78 => ?_) (fun c_78 => ?_)
              · rw [mg_t (by rw [show decide (G.2.1 0 30 (oA j 5) = 6) = false from decide_eq_false c_78]; rfl)]
                have hc5 : mCt (G.2.1 0 30) j < 6 := by
                  rcases Nat.lt_or_ge (mCt (G.2.1 0 30) j) 6 with z | z
                  · exact z
                  · exact absurd (show G.2.1 0 30 (oA j 5) = 6 by rw [hcc, show mCt (G.2.1 0 30) j = 6 by omega]; rfl) c_78
                refine v_aload_n (i := 0) (q := 88) hC dX12_adds_87 rfl rfl rfl ?_
                refine v_callV (q := 91) (rm := rm_X12_changes) hC (c_mC hl Θ _ hm) k_X12_changes im_yX12_changes se_yX12_changes ml_RX12_79 dX12_adds_88 rfl rfl rfl rfl rfl rfl (Nat.le_of_ble_eq_true rfl) ⟨Nat.le_of_ble_eq_true rfl, Nat.le_of_ble_eq_true rfl⟩ ⟨Nat.le_of_ble_eq_true rfl, Nat.le_of_ble_eq_true rfl⟩ (fR_k ?_) fR_x (Nat.le_of_ble_eq_true rfl) (Nat.le_of_ble_eq_true rfl)
                try dsimp only [Option.toList, List.cons_append, List.nil_append]
                refine v_aload_n (i := 0) (q := 92) hC dX12_adds_91 rfl rfl rfl ?_
                refine g_X12_0 (q := 95) hC dX12_adds_92 rfl rfl fl_RX12_7 ?_
                refine v_iload_n (i := 1) (q := 96) hC dX12_adds_95 rfl rfl rfl ?_
                refine v_iconst (q := 97) (v := 5) hC dX12_adds_96 rfl (by decide) ?_
                refine v_callS (q := 100) (rm := rm_X12_at) hC (c_X12_at hl Θ _ 5 _) k_X12_at st_yX12_at ml_RX12_50 dX12_adds_97 rfl  rfl rfl (Nat.le_of_ble_eq_true rfl) ⟨Nat.le_of_ble_eq_true rfl, Nat.le_of_ble_eq_true rfl⟩ ⟨Nat.le_of_ble_eq_true rfl, Nat.le_of_ble_eq_true rfl⟩ (fR_k ?_) fR_x (Nat.le_of_ble_eq_true rfl) (Nat.le_of_ble_eq_true rfl)
                try dsimp only [Option.toList, List.cons_append, List.nil_append]
                refine v_dup2 (q := 101) hC dX12_adds_100 rfl rfl rfl ?_
                refine v_ialdN (q := 102) hC dX12_adds_101 rfl rfl rfl (i := oA j 5) (rfl) (by first | decide | omega | (unfold oA; omega) | (unfold enA; omega)) (by decide) ?_
                refine v_iconst (q := 103) (v := 1) hC dX12_adds_102 rfl (by decide) ?_
                refine v_iadd (q := 104) hC dX12_adds_103 rfl ?_
                refine v_mup (i := oA j 5) (q := 105) hC dX12_adds_104 rfl rfl (by unfold oA; omega) ?_
                rw [show mUp (oA j 5) ((mC G).2.1 0 30 (oA j 5) + 1) (mC G) = mWr (upd (G.2.1 0 30) (oA j 5) (nI (mCt (G.2.1 0 30) j + 1))) (mC G) by rw [mUp, mC_w, hcc, nI_1]; rfl]
                refine v_aload_n (i := 0) (q := 106) hC dX12_adds_105 rfl rfl rfl ?_
                refine v_iload_n (i := 1) (q := 107) hC dX12_adds_106 rfl rfl rfl ?_
                refine v_aload_n (i := 0) (q := 108) hC dX12_adds_107 rfl rfl rfl ?_
                refine v_iload_n (i := 1) (q := 109) hC dX12_adds_108 rfl rfl rfl ?_
                refine v_iconst (q := 110) (v := 5) hC dX12_adds_109 rfl (by decide) ?_
                refine v_callV (q := 113) (rm := rm_X12_of) hC (c_X12_of hl Θ _ 5 _ (by unfold oA; omega)) k_X12_of im_yX12_of se_yX12_of ml_RX12_54 dX12_adds_110 rfl rfl rfl rfl rfl rfl (Nat.le_of_ble_eq_true rfl) ⟨Nat.le_of_ble_eq_true rfl, Nat.le_of_ble_eq_true rfl⟩ ⟨Nat.le_of_ble_eq_true rfl, Nat.le_of_ble_eq_true rfl⟩ (fR_k ?_) fR_x (Nat.le_of_ble_eq_true rfl) (Nat.le_of_ble_eq_true rfl)
                try dsimp only [Option.toList, List.cons_append, List.nil_append]
                rw [mWr_row, upd, if_pos rfl]
                refine v_iconst (q := 114) (v := 1) hC dX12_adds_113 rfl (by decide) ?_
                refine v_isub (q := 115) hC dX12_adds_114 rfl ?_
                rw [nI_m1 (by omega), Nat.add_sub_cancel]
                refine v_iload_n (i := 2) (q := 116) hC dX12_adds_115 rfl rfl rfl ?_
                refine v_iload_n (i := 3) (q := 117) hC dX12_adds_116 rfl rfl rfl ?_
                refine v_iload (q := 119) hC dX12_adds_117 rfl rfl ?_
                refine v_iload (q := 121) hC dX12_adds_119 rfl rfl ?_
                refine v_iload (q := 123) hC dX12_adds_121 rfl rfl ?_
                refine v_callV (q := 126) (rm := rm_X12_writes) hC (c_X12_writes hl Θ j (mCt (G.2.1 0 30) j) _ _ _ a b _ _ hj hc5) k_X12_writes im_yX12_writes se_yX12_writes ml_RX12_104 dX12_adds_123 rfl rfl rfl rfl rfl rfl (Nat.le_of_ble_eq_true rfl) ⟨Nat.le_of_ble_eq_true rfl, Nat.le_of_ble_eq_true rfl⟩ ⟨Nat.le_of_ble_eq_true rfl, Nat.le_of_ble_eq_true rfl⟩ (fR_k ?_) fR_x (Nat.le_of_ble_eq_true rfl) (Nat.le_of_ble_eq_true rfl)
                try dsimp only [Option.toList, List.cons_append, List.nil_append]
                refine v_aload_n (i := 0) (q := 127) hC dX12_adds_126 rfl rfl rfl ?_
                refine v_iload_n (i := 1) (q := 128) hC dX12_adds_127 rfl rfl rfl ?_
                refine v_iconst (q := 129) (v := 5) hC dX12_adds_128 rfl (by decide) ?_
                refine v_callV (q := 132) (rm := rm_X12_of) hC (c_X12_of hl Θ _ 5 _ (by unfold oA; omega)) k_X12_of im_yX12_of se_yX12_of ml_RX12_54 dX12_adds_129 rfl rfl rfl rfl rfl rfl (Nat.le_of_ble_eq_true rfl) ⟨Nat.le_of_ble_eq_true rfl, Nat.le_of_ble_eq_true rfl⟩ ⟨Nat.le_of_ble_eq_true rfl, Nat.le_of_ble_eq_true rfl⟩ (fR_k ?_) fR_x (Nat.le_of_ble_eq_true rfl) (Nat.le_of_ble_eq_true rfl)
                try dsimp only [Option.toList, List.cons_append, List.nil_append]
                rw [mWr_row]
                refine v_iret hC dX12_adds_132 hr (rfl) ?_ (Nat.le_of_ble_eq_true rfl) (Nat.le_of_ble_eq_true rfl)
                refine ⟨?_, rfl⟩
                unfold mWrt upd
                rw [if_neg (by unfold oA enA; omega), if_neg (by unfold oA enA; omega), if_neg (by unfold oA enA; omega), if_neg (by unfold oA enA; omega), if_neg (by unfold oA enA; omega), if_pos rfl]
              · refine v_aload_n (i := 0) (q := 82) hC dX12_adds_81 rfl rfl rfl ?_
                refine v_iconst (q := 83) (v := 3) hC dX12_adds_82 rfl (by decide) ?_
                refine v_callV (q := 86) (rm := rm_X12_fails) hC (c_fl hl Θ _ _ _) k_X12_fails im_yX12_fails se_yX12_fails ml_RX12_76 dX12_adds_83 rfl rfl rfl rfl rfl rfl (Nat.le_of_ble_eq_true rfl) ⟨Nat.le_of_ble_eq_true rfl, Nat.le_of_ble_eq_true rfl⟩ ⟨Nat.le_of_ble_eq_true rfl, Nat.le_of_ble_eq_true rfl⟩ (fR_k ?_) fR_x (Nat.le_of_ble_eq_true rfl) (Nat.le_of_ble_eq_true rfl)
                try dsimp only [Option.toList, List.cons_append, List.nil_append]
                refine v_iret hC dX12_adds_86 hr (rfl) ?_ (Nat.le_of_ble_eq_true rfl) (Nat.le_of_ble_eq_true rfl)
                exact mg_f (by rw [show decide (G.2.1 0 30 (oA j 5) = 6) = true from decide_eq_true c_78]; rfl)
            · refine v_aload_n (i := 0) (q := 65) hC dX12_adds_64 rfl rfl rfl ?_
              refine v_iconst (q := 66) (v := 2) hC dX12_adds_65 rfl (by decide) ?_
              refine v_callV (q := 69) (rm := rm_X12_fails) hC (c_fl hl Θ _ _ _) k_X12_fails im_yX12_fails se_yX12_fails ml_RX12_76 dX12_adds_66 rfl rfl rfl rfl rfl rfl (Nat.le_of_ble_eq_true rfl) ⟨Nat.le_of_ble_eq_true rfl, Nat.le_of_ble_eq_true rfl⟩ ⟨Nat.le_of_ble_eq_true rfl, Nat.le_of_ble_eq_true rfl⟩ (fR_k ?_) fR_x (Nat.le_of_ble_eq_true rfl) (Nat.le_of_ble_eq_true rfl)
              try dsimp only [Option.toList, List.cons_append, List.nil_append]
              refine v_iret hC dX12_adds_69 hr (rfl) ?_ (Nat.le_of_ble_eq_true rfl) (Nat.le_of_ble_eq_true rfl)
              exact mg_f c_61
        · first
          | exact absurd c_47 (by decide)
          |
            refine v_aload_n (i := 0) (q := 51) hC dX12_adds_50 rfl rfl rfl ?_
            refine v_iconst (q := 52) (v := 1) hC dX12_adds_51 rfl (by decide) ?_
            refine v_callV (q := 55) (rm := rm_X12_fails) hC (c_fl hl Θ _ _ _) k_X12_fails im_yX12_fails se_yX12_fails ml_RX12_76 dX12_adds_52 rfl rfl rfl rfl rfl rfl (Nat.le_of_ble_eq_true rfl) ⟨Nat.le_of_ble_eq_true rfl, Nat.le_of_ble_eq_true rfl⟩ ⟨Nat.le_of_ble_eq_true rfl, Nat.le_of_ble_eq_true rfl⟩ (fR_k ?_) fR_x (Nat.le_of_ble_eq_true rfl) (Nat.le_of_ble_eq_true rfl)
            try dsimp only [Option.toList, List.cons_append, List.nil_append]
            refine v_iret hC dX12_adds_55 hr (rfl) ?_ (Nat.le_of_ble_eq_true rfl) (Nat.le_of_ble_eq_true rfl)
            exact mg_f (by simp_all [mThr, ms_row])
      · refine v_aload_n (i := 0) (q := 31) hC dX12_adds_30 rfl rfl rfl ?_
        refine v_iload_n (i := 3) (q := 32) hC dX12_adds_31 rfl rfl rfl ?_
        refine v_callV (q := 35) (rm := rm_X12_isGroup) hC (c_X12_isGroup hl Θ _ _) k_X12_isGroup im_yX12_isGroup se_yX12_isGroup ml_RX12_85 dX12_adds_32 rfl rfl rfl rfl rfl rfl (Nat.le_of_ble_eq_true rfl) ⟨Nat.le_of_ble_eq_true rfl, Nat.le_of_ble_eq_true rfl⟩ ⟨Nat.le_of_ble_eq_true rfl, Nat.le_of_ble_eq_true rfl⟩ (fR_k ?_) fR_x (Nat.le_of_ble_eq_true rfl) (Nat.le_of_ble_eq_true rfl)
        try dsimp only [Option.toList, List.cons_append, List.nil_append]
        refine v_ifb_eq (q := 42) (q2 := 38) hC dX12_adds_35 (by decide) rfl (fun c_35 => ?_) (fun c_35 => ?_)
        · refine v_iconst (q := 43) (v := 0) hC dX12_adds_42 rfl (by decide) ?_
          refine v_istore (q := 45) hC dX12_adds_43 rfl (lvc rfl) (Nat.le_of_ble_eq_true rfl) (Nat.le_of_ble_eq_true rfl) rfl ?_
          refine v_iload (q := 47) hC dX12_adds_45 rfl rfl ?_
          refine v_if_ne (q := 56) (q2 := 50) hC dX12_adds_47 (by decide) rfl (fun c_47 => ?_) (fun c_47 => ?_)
          · first
            | exact absurd c_47 (by decide)
            |
              rw [mg_t (by simp_all [mThr, ms_row])]
              obtain ⟨j, hj, rfl⟩ := mHold_nI c_10
              have hcc := hm.2.ct hj
              have hc6 := hm.2.ct6 hj
              rw [nI_clamp (show j < 2 ^ 31 by omega)]
              refine v_iload (q := 58) hC dX12_adds_56 rfl rfl ?_
              refine v_callS (q := 61) (rm := rm_X12_areRights) hC (c_X12_areRights hl Θ _ _) k_X12_areRights st_yX12_areRights ml_RX12_101 dX12_adds_58 rfl  rfl rfl (Nat.le_of_ble_eq_true rfl) ⟨Nat.le_of_ble_eq_true rfl, Nat.le_of_ble_eq_true rfl⟩ ⟨Nat.le_of_ble_eq_true rfl, Nat.le_of_ble_eq_true rfl⟩ (fR_k ?_) fR_x (Nat.le_of_ble_eq_true rfl) (Nat.le_of_ble_eq_true rfl)
              try dsimp only [Option.toList, List.cons_append, List.nil_append]
              refine v_ifb_ne (q := 70) (q2 := 64) hC dX12_adds_61 (by decide) rfl (fun c_61 => ?_) (fun c_61 => ?_)
              · rw [mg_t c_61]
                refine v_aload_n (i := 0) (q := 71) hC dX12_adds_70 rfl rfl rfl ?_
                refine v_iload_n (i := 1) (q := 72) hC dX12_adds_71 rfl rfl rfl ?_
                refine v_iconst (q := 73) (v := 5) hC dX12_adds_72 rfl (by decide) ?_
                refine v_callV (q := 76) (rm := rm_X12_of) hC (c_X12_of hl Θ _ 5 _ (by unfold oA; omega)) k_X12_of im_yX12_of se_yX12_of ml_RX12_54 dX12_adds_73 rfl rfl rfl rfl rfl rfl (Nat.le_of_ble_eq_true rfl) ⟨Nat.le_of_ble_eq_true rfl, Nat.le_of_ble_eq_true rfl⟩ ⟨Nat.le_of_ble_eq_true rfl, Nat.le_of_ble_eq_true rfl⟩ (fR_k ?_) fR_x (Nat.le_of_ble_eq_true rfl) (Nat.le_of_ble_eq_true rfl)
                try dsimp only [Option.toList, List.cons_append, List.nil_append]
                refine v_bipush (q := 78) (v := 6) hC dX12_adds_76 rfl (by decide) ?_
                refine v_icmp_ne (q := 87) (q2 := 81) hC dX12_adds_78 (by decide) rfl (fun c_78 => ?_) (fun c_78 => ?_)
                · rw [mg_t (by rw [show decide (G.2.1 0 30 (oA j 5) = 6) = false from decide_eq_false c_78]; rfl)]
                  have hc5 : mCt (G.2.1 0 30) j < 6 := by
                    rcases Nat.lt_or_ge (mCt (G.2.1 0 30) j) 6 with z | z
                    · exact z
                    · exact absurd (show G.2.1 0 30 (oA j 5) = 6 by rw [hcc, show mCt (G.2.1 0 30) j = 6 by omega]; rfl) c_78
                  refine v_aload_n (i := 0) (q := 88) hC dX12_adds_87 rfl rfl rfl ?_
                  refine v_callV (q := 91) (rm := rm_X12_changes) hC (c_mC hl Θ _ hm) k_X12_changes im_yX12_changes se_yX12_changes ml_RX12_79 dX12_adds_88 rfl rfl rfl rfl rfl rfl (Nat.le_of_ble_eq_true rfl) ⟨Nat.le_of_ble_eq_true rfl, Nat.le_of_ble_eq_true rfl⟩ ⟨Nat.le_of_ble_eq_true rfl, Nat.le_of_ble_eq_true rfl⟩ (fR_k ?_) fR_x (Nat.le_of_ble_eq_true rfl) (Nat.le_of_ble_eq_true rfl)
                  try dsimp only [Option.toList, List.cons_append, List.nil_append]
                  refine v_aload_n (i := 0) (q := 92) hC dX12_adds_91 rfl rfl rfl ?_
                  refine g_X12_0 (q := 95) hC dX12_adds_92 rfl rfl fl_RX12_7 ?_
                  refine v_iload_n (i := 1) (q := 96) hC dX12_adds_95 rfl rfl rfl ?_
                  refine v_iconst (q := 97) (v := 5) hC dX12_adds_96 rfl (by decide) ?_
                  refine v_callS (q := 100) (rm := rm_X12_at) hC (c_X12_at hl Θ _ 5 _) k_X12_at st_yX12_at ml_RX12_50 dX12_adds_97 rfl  rfl rfl (Nat.le_of_ble_eq_true rfl) ⟨Nat.le_of_ble_eq_true rfl, Nat.le_of_ble_eq_true rfl⟩ ⟨Nat.le_of_ble_eq_true rfl, Nat.le_of_ble_eq_true rfl⟩ (fR_k ?_) fR_x (Nat.le_of_ble_eq_true rfl) (Nat.le_of_ble_eq_true rfl)
                  try dsimp only [Option.toList, List.cons_append, List.nil_append]
                  refine v_dup2 (q := 101) hC dX12_adds_100 rfl rfl rfl ?_
                  refine v_ialdN (q := 102) hC dX12_adds_101 rfl rfl rfl (i := oA j 5) (rfl) (by first | decide | omega | (unfold oA; omega) | (unfold enA; omega)) (by decide) ?_
                  refine v_iconst (q := 103) (v := 1) hC dX12_adds_102 rfl (by decide) ?_
                  refine v_iadd (q := 104) hC dX12_adds_103 rfl ?_
                  refine v_mup (i := oA j 5) (q := 105) hC dX12_adds_104 rfl rfl (by unfold oA; omega) ?_
                  rw [show mUp (oA j 5) ((mC G).2.1 0 30 (oA j 5) + 1) (mC G) = mWr (upd (G.2.1 0 30) (oA j 5) (nI (mCt (G.2.1 0 30) j + 1))) (mC G) by rw [mUp, mC_w, hcc, nI_1]; rfl]
                  refine v_aload_n (i := 0) (q := 106) hC dX12_adds_105 rfl rfl rfl ?_
                  refine v_iload_n (i := 1) (q := 107) hC dX12_adds_106 rfl rfl rfl ?_
                  refine v_aload_n (i := 0) (q := 108) hC dX12_adds_107 rfl rfl rfl ?_
                  refine v_iload_n (i := 1) (q := 109) hC dX12_adds_108 rfl rfl rfl ?_
                  refine v_iconst (q := 110) (v := 5) hC dX12_adds_109 rfl (by decide) ?_
                  refine v_callV (q := 113) (rm := rm_X12_of) hC (c_X12_of hl Θ _ 5 _ (by unfold oA; omega)) k_X12_of im_yX12_of se_yX12_of ml_RX12_54 dX12_adds_110 rfl rfl rfl rfl rfl rfl (Nat.le_of_ble_eq_true rfl) ⟨Nat.le_of_ble_eq_true rfl, Nat.le_of_ble_eq_true rfl⟩ ⟨Nat.le_of_ble_eq_true rfl, Nat.le_of_ble_eq_true rfl⟩ (fR_k ?_) fR_x (Nat.le_of_ble_eq_true rfl) (Nat.le_of_ble_eq_true rfl)
                  try dsimp only [Option.toList, List.cons_append, List.nil_append]
                  rw [mWr_row, upd, if_pos rfl]
                  refine v_iconst (q := 114) (v := 1) hC dX12_adds_113 rfl (by decide) ?_
                  refine v_isub (q := 115) hC dX12_adds_114 rfl ?_
                  rw [nI_m1 (by omega), Nat.add_sub_cancel]
                  refine v_iload_n (i := 2) (q := 116) hC dX12_adds_115 rfl rfl rfl ?_
                  refine v_iload_n (i := 3) (q := 117) hC dX12_adds_116 rfl rfl rfl ?_
                  refine v_iload (q := 119) hC dX12_adds_117 rfl rfl ?_
                  refine v_iload (q := 121) hC dX12_adds_119 rfl rfl ?_
                  refine v_iload (q := 123) hC dX12_adds_121 rfl rfl ?_
                  refine v_callV (q := 126) (rm := rm_X12_writes) hC (c_X12_writes hl Θ j (mCt (G.2.1 0 30) j) _ _ _ a b _ _ hj hc5) k_X12_writes im_yX12_writes se_yX12_writes ml_RX12_104 dX12_adds_123 rfl rfl rfl rfl rfl rfl (Nat.le_of_ble_eq_true rfl) ⟨Nat.le_of_ble_eq_true rfl, Nat.le_of_ble_eq_true rfl⟩ ⟨Nat.le_of_ble_eq_true rfl, Nat.le_of_ble_eq_true rfl⟩ (fR_k ?_) fR_x (Nat.le_of_ble_eq_true rfl) (Nat.le_of_ble_eq_true rfl)
                  try dsimp only [Option.toList, List.cons_append, List.nil_append]
                  refine v_aload_n (i := 0) (q := 127) hC dX12_adds_126 rfl rfl rfl ?_
                  refine v_iload_n (i := 1) (q := 128) hC dX12_adds_127 rfl rfl rfl ?_
                  refine v_iconst (q := 129) (v := 5) hC dX12_adds_128 rfl (by decide) ?_
                  refine v_callV (q := 132) (rm := rm_X12_of) hC (c_X12_of hl Θ _ 5 _ (by unfold oA; omega)) k_X12_of im_yX12_of se_yX12_of ml_RX12_54 dX12_adds_129 rfl rfl rfl rfl rfl rfl (Nat.le_of_ble_eq_true rfl) ⟨Nat.le_of_ble_eq_true rfl, Nat.le_of_ble_eq_true rfl⟩ ⟨Nat.le_of_ble_eq_true rfl, Nat.le_of_ble_eq_true rfl⟩ (fR_k ?_) fR_x (Nat.le_of_ble_eq_true rfl) (Nat.le_of_ble_eq_true rfl)
                  try dsimp only [Option.toList, List.cons_append, List.nil_append]
                  rw [mWr_row]
                  refine v_iret hC dX12_adds_132 hr (rfl) ?_ (Nat.le_of_ble_eq_true rfl) (Nat.le_of_ble_eq_true rfl)
                  refine ⟨?_, rfl⟩
                  unfold mWrt upd
                  rw [if_neg (by unfold oA enA; omega), if_neg (by unfold oA enA; omega), if_neg (by unfold oA enA; omega), if_neg (by unfold oA enA; omega), if_neg (by unfold oA enA; omega), if_pos rfl]
                · refine v_aload_n (i := 0) (q := 82) hC dX12_adds_81 rfl rfl rfl ?_
                  refine v_iconst (q := 83) (v := 3) hC dX12_adds_82 rfl (by decide) ?_
                  refine v_callV (q := 86) (rm := rm_X12_fails) hC (c_fl hl Θ _ _ _) k_X12_fails im_yX12_fails se_yX12_fails ml_RX12_76 dX12_adds_83 rfl rfl rfl rfl rfl rfl (Nat.le_of_ble_eq_true rfl) ⟨Nat.le_of_ble_eq_true rfl, Nat.le_of_ble_eq_true rfl⟩ ⟨Nat.le_of_ble_eq_true rfl, Nat.le_of_ble_eq_true rfl⟩ (fR_k ?_) fR_x (Nat.le_of_ble_eq_true rfl) (Nat.le_of_ble_eq_true rfl)
                  try dsimp only [Option.toList, List.cons_append, List.nil_append]
                  refine v_iret hC dX12_adds_86 hr (rfl) ?_ (Nat.le_of_ble_eq_true rfl) (Nat.le_of_ble_eq_true rfl)
                  exact mg_f (by rw [show decide (G.2.1 0 30 (oA j 5) = 6) = true from decide_eq_true c_78]; rfl)
              · refine v_aload_n (i := 0) (q := 65) hC dX12_adds_64 rfl rfl rfl ?_
                refine v_iconst (q := 66) (v := 2) hC dX12_adds_65 rfl (by decide) ?_
                refine v_callV (q := 69) (rm := rm_X12_fails) hC (c_fl hl Θ _ _ _) k_X12_fails im_yX12_fails se_yX12_fails ml_RX12_76 dX12_adds_66 rfl rfl rfl rfl rfl rfl (Nat.le_of_ble_eq_true rfl) ⟨Nat.le_of_ble_eq_true rfl, Nat.le_of_ble_eq_true rfl⟩ ⟨Nat.le_of_ble_eq_true rfl, Nat.le_of_ble_eq_true rfl⟩ (fR_k ?_) fR_x (Nat.le_of_ble_eq_true rfl) (Nat.le_of_ble_eq_true rfl)
                try dsimp only [Option.toList, List.cons_append, List.nil_append]
                refine v_iret hC dX12_adds_69 hr (rfl) ?_ (Nat.le_of_ble_eq_true rfl) (Nat.le_of_ble_eq_true rfl)
                exact mg_f c_61
          · first
            | exact absurd c_47 (by decide)
            |
              refine v_aload_n (i := 0) (q := 51) hC dX12_adds_50 rfl rfl rfl ?_
              refine v_iconst (q := 52) (v := 1) hC dX12_adds_51 rfl (by decide) ?_
              refine v_callV (q := 55) (rm := rm_X12_fails) hC (c_fl hl Θ _ _ _) k_X12_fails im_yX12_fails se_yX12_fails ml_RX12_76 dX12_adds_52 rfl rfl rfl rfl rfl rfl (Nat.le_of_ble_eq_true rfl) ⟨Nat.le_of_ble_eq_true rfl, Nat.le_of_ble_eq_true rfl⟩ ⟨Nat.le_of_ble_eq_true rfl, Nat.le_of_ble_eq_true rfl⟩ (fR_k ?_) fR_x (Nat.le_of_ble_eq_true rfl) (Nat.le_of_ble_eq_true rfl)
              try dsimp only [Option.toList, List.cons_append, List.nil_append]
              refine v_iret hC dX12_adds_55 hr (rfl) ?_ (Nat.le_of_ble_eq_true rfl) (Nat.le_of_ble_eq_true rfl)
              exact mg_f (by simp_all [mThr, ms_row])
        · refine v_iconst (q := 39) (v := 1) hC dX12_adds_38 rfl (by decide) ?_
          refine v_goto (q := 43) hC dX12_adds_39 (by decide) ?_
          refine v_istore (q := 45) hC dX12_adds_43 rfl (lvc rfl) (Nat.le_of_ble_eq_true rfl) (Nat.le_of_ble_eq_true rfl) rfl ?_
          refine v_iload (q := 47) hC dX12_adds_45 rfl rfl ?_
          refine v_if_ne (q := 56) (q2 := 50) hC dX12_adds_47 (by decide) rfl (fun c_47 => ?_) (fun c_47 => ?_)
          · first
            | exact absurd c_47 (by decide)
            |
              rw [mg_t (by simp_all [mThr, ms_row])]
              obtain ⟨j, hj, rfl⟩ := mHold_nI c_10
              have hcc := hm.2.ct hj
              have hc6 := hm.2.ct6 hj
              rw [nI_clamp (show j < 2 ^ 31 by omega)]
              refine v_iload (q := 58) hC dX12_adds_56 rfl rfl ?_
              refine v_callS (q := 61) (rm := rm_X12_areRights) hC (c_X12_areRights hl Θ _ _) k_X12_areRights st_yX12_areRights ml_RX12_101 dX12_adds_58 rfl  rfl rfl (Nat.le_of_ble_eq_true rfl) ⟨Nat.le_of_ble_eq_true rfl, Nat.le_of_ble_eq_true rfl⟩ ⟨Nat.le_of_ble_eq_true rfl, Nat.le_of_ble_eq_true rfl⟩ (fR_k ?_) fR_x (Nat.le_of_ble_eq_true rfl) (Nat.le_of_ble_eq_true rfl)
              try dsimp only [Option.toList, List.cons_append, List.nil_append]
              refine v_ifb_ne (q := 70) (q2 := 64) hC dX12_adds_61 (by decide) rfl (fun c_61 => ?_) (fun c_61 => ?_)
              · rw [mg_t c_61]
                refine v_aload_n (i := 0) (q := 71) hC dX12_adds_70 rfl rfl rfl ?_
                refine v_iload_n (i := 1) (q := 72) hC dX12_adds_71 rfl rfl rfl ?_
                refine v_iconst (q := 73) (v := 5) hC dX12_adds_72 rfl (by decide) ?_
                refine v_callV (q := 76) (rm := rm_X12_of) hC (c_X12_of hl Θ _ 5 _ (by unfold oA; omega)) k_X12_of im_yX12_of se_yX12_of ml_RX12_54 dX12_adds_73 rfl rfl rfl rfl rfl rfl (Nat.le_of_ble_eq_true rfl) ⟨Nat.le_of_ble_eq_true rfl, Nat.le_of_ble_eq_true rfl⟩ ⟨Nat.le_of_ble_eq_true rfl, Nat.le_of_ble_eq_true rfl⟩ (fR_k ?_) fR_x (Nat.le_of_ble_eq_true rfl) (Nat.le_of_ble_eq_true rfl)
                try dsimp only [Option.toList, List.cons_append, List.nil_append]
                refine v_bipush (q := 78) (v := 6) hC dX12_adds_76 rfl (by decide) ?_
                refine v_icmp_ne (q := 87) (q2 := 81) hC dX12_adds_78 (by decide) rfl (fun c_78 => ?_) (fun c_78 => ?_)
                · rw [mg_t (by rw [show decide (G.2.1 0 30 (oA j 5) = 6) = false from decide_eq_false c_78]; rfl)]
                  have hc5 : mCt (G.2.1 0 30) j < 6 := by
                    rcases Nat.lt_or_ge (mCt (G.2.1 0 30) j) 6 with z | z
                    · exact z
                    · exact absurd (show G.2.1 0 30 (oA j 5) = 6 by rw [hcc, show mCt (G.2.1 0 30) j = 6 by omega]; rfl) c_78
                  refine v_aload_n (i := 0) (q := 88) hC dX12_adds_87 rfl rfl rfl ?_
                  refine v_callV (q := 91) (rm := rm_X12_changes) hC (c_mC hl Θ _ hm) k_X12_changes im_yX12_changes se_yX12_changes ml_RX12_79 dX12_adds_88 rfl rfl rfl rfl rfl rfl (Nat.le_of_ble_eq_true rfl) ⟨Nat.le_of_ble_eq_true rfl, Nat.le_of_ble_eq_true rfl⟩ ⟨Nat.le_of_ble_eq_true rfl, Nat.le_of_ble_eq_true rfl⟩ (fR_k ?_) fR_x (Nat.le_of_ble_eq_true rfl) (Nat.le_of_ble_eq_true rfl)
                  try dsimp only [Option.toList, List.cons_append, List.nil_append]
                  refine v_aload_n (i := 0) (q := 92) hC dX12_adds_91 rfl rfl rfl ?_
                  refine g_X12_0 (q := 95) hC dX12_adds_92 rfl rfl fl_RX12_7 ?_
                  refine v_iload_n (i := 1) (q := 96) hC dX12_adds_95 rfl rfl rfl ?_
                  refine v_iconst (q := 97) (v := 5) hC dX12_adds_96 rfl (by decide) ?_
                  refine v_callS (q := 100) (rm := rm_X12_at) hC (c_X12_at hl Θ _ 5 _) k_X12_at st_yX12_at ml_RX12_50 dX12_adds_97 rfl  rfl rfl (Nat.le_of_ble_eq_true rfl) ⟨Nat.le_of_ble_eq_true rfl, Nat.le_of_ble_eq_true rfl⟩ ⟨Nat.le_of_ble_eq_true rfl, Nat.le_of_ble_eq_true rfl⟩ (fR_k ?_) fR_x (Nat.le_of_ble_eq_true rfl) (Nat.le_of_ble_eq_true rfl)
                  try dsimp only [Option.toList, List.cons_append, List.nil_append]
                  refine v_dup2 (q := 101) hC dX12_adds_100 rfl rfl rfl ?_
                  refine v_ialdN (q := 102) hC dX12_adds_101 rfl rfl rfl (i := oA j 5) (rfl) (by first | decide | omega | (unfold oA; omega) | (unfold enA; omega)) (by decide) ?_
                  refine v_iconst (q := 103) (v := 1) hC dX12_adds_102 rfl (by decide) ?_
                  refine v_iadd (q := 104) hC dX12_adds_103 rfl ?_
                  refine v_mup (i := oA j 5) (q := 105) hC dX12_adds_104 rfl rfl (by unfold oA; omega) ?_
                  rw [show mUp (oA j 5) ((mC G).2.1 0 30 (oA j 5) + 1) (mC G) = mWr (upd (G.2.1 0 30) (oA j 5) (nI (mCt (G.2.1 0 30) j + 1))) (mC G) by rw [mUp, mC_w, hcc, nI_1]; rfl]
                  refine v_aload_n (i := 0) (q := 106) hC dX12_adds_105 rfl rfl rfl ?_
                  refine v_iload_n (i := 1) (q := 107) hC dX12_adds_106 rfl rfl rfl ?_
                  refine v_aload_n (i := 0) (q := 108) hC dX12_adds_107 rfl rfl rfl ?_
                  refine v_iload_n (i := 1) (q := 109) hC dX12_adds_108 rfl rfl rfl ?_
                  refine v_iconst (q := 110) (v := 5) hC dX12_adds_109 rfl (by decide) ?_
                  refine v_callV (q := 113) (rm := rm_X12_of) hC (c_X12_of hl Θ _ 5 _ (by unfold oA; omega)) k_X12_of im_yX12_of se_yX12_of ml_RX12_54 dX12_adds_110 rfl rfl rfl rfl rfl rfl (Nat.le_of_ble_eq_true rfl) ⟨Nat.le_of_ble_eq_true rfl, Nat.le_of_ble_eq_true rfl⟩ ⟨Nat.le_of_ble_eq_true rfl, Nat.le_of_ble_eq_true rfl⟩ (fR_k ?_) fR_x (Nat.le_of_ble_eq_true rfl) (Nat.le_of_ble_eq_true rfl)
                  try dsimp only [Option.toList, List.cons_append, List.nil_append]
                  rw [mWr_row, upd, if_pos rfl]
                  refine v_iconst (q := 114) (v := 1) hC dX12_adds_113 rfl (by decide) ?_
                  refine v_isub (q := 115) hC dX12_adds_114 rfl ?_
                  rw [nI_m1 (by omega), Nat.add_sub_cancel]
                  refine v_iload_n (i := 2) (q := 116) hC dX12_adds_115 rfl rfl rfl ?_
                  refine v_iload_n (i := 3) (q := 117) hC dX12_adds_116 rfl rfl rfl ?_
                  refine v_iload (q := 119) hC dX12_adds_117 rfl rfl ?_
                  refine v_iload (q := 121) hC dX12_adds_119 rfl rfl ?_
                  refine v_iload (q := 123) hC dX12_adds_121 rfl rfl ?_
                  refine v_callV (q := 126) (rm := rm_X12_writes) hC (c_X12_writes hl Θ j (mCt (G.2.1 0 30) j) _ _ _ a b _ _ hj hc5) k_X12_writes im_yX12_writes se_yX12_writes ml_RX12_104 dX12_adds_123 rfl rfl rfl rfl rfl rfl (Nat.le_of_ble_eq_true rfl) ⟨Nat.le_of_ble_eq_true rfl, Nat.le_of_ble_eq_true rfl⟩ ⟨Nat.le_of_ble_eq_true rfl, Nat.le_of_ble_eq_true rfl⟩ (fR_k ?_) fR_x (Nat.le_of_ble_eq_true rfl) (Nat.le_of_ble_eq_true rfl)
                  try dsimp only [Option.toList, List.cons_append, List.nil_append]
                  refine v_aload_n (i := 0) (q := 127) hC dX12_adds_126 rfl rfl rfl ?_
                  refine v_iload_n (i := 1) (q := 128) hC dX12_adds_127 rfl rfl rfl ?_
                  refine v_iconst (q := 129) (v := 5) hC dX12_adds_128 rfl (by decide) ?_
                  refine v_callV (q := 132) (rm := rm_X12_of) hC (c_X12_of hl Θ _ 5 _ (by unfold oA; omega)) k_X12_of im_yX12_of se_yX12_of ml_RX12_54 dX12_adds_129 rfl rfl rfl rfl rfl rfl (Nat.le_of_ble_eq_true rfl) ⟨Nat.le_of_ble_eq_true rfl, Nat.le_of_ble_eq_true rfl⟩ ⟨Nat.le_of_ble_eq_true rfl, Nat.le_of_ble_eq_true rfl⟩ (fR_k ?_) fR_x (Nat.le_of_ble_eq_true rfl) (Nat.le_of_ble_eq_true rfl)
                  try dsimp only [Option.toList, List.cons_append, List.nil_append]
                  rw [mWr_row]
                  refine v_iret hC dX12_adds_132 hr (rfl) ?_ (Nat.le_of_ble_eq_true rfl) (Nat.le_of_ble_eq_true rfl)
                  refine ⟨?_, rfl⟩
                  unfold mWrt upd
                  rw [if_neg (by unfold oA enA; omega), if_neg (by unfold oA enA; omega), if_neg (by unfold oA enA; omega), if_neg (by unfold oA enA; omega), if_neg (by unfold oA enA; omega), if_pos rfl]
                · refine v_aload_n (i := 0) (q := 82) hC dX12_adds_81 rfl rfl rfl ?_
                  refine v_iconst (q := 83) (v := 3) hC dX12_adds_82 rfl (by decide) ?_
                  refine v_callV (q := 86) (rm := rm_X12_fails) hC (c_fl hl Θ _ _ _) k_X12_fails im_yX12_fails se_yX12_fails ml_RX12_76 dX12_adds_83 rfl rfl rfl rfl rfl rfl (Nat.le_of_ble_eq_true rfl) ⟨Nat.le_of_ble_eq_true rfl, Nat.le_of_ble_eq_true rfl⟩ ⟨Nat.le_of_ble_eq_true rfl, Nat.le_of_ble_eq_true rfl⟩ (fR_k ?_) fR_x (Nat.le_of_ble_eq_true rfl) (Nat.le_of_ble_eq_true rfl)
                  try dsimp only [Option.toList, List.cons_append, List.nil_append]
                  refine v_iret hC dX12_adds_86 hr (rfl) ?_ (Nat.le_of_ble_eq_true rfl) (Nat.le_of_ble_eq_true rfl)
                  exact mg_f (by rw [show decide (G.2.1 0 30 (oA j 5) = 6) = true from decide_eq_true c_78]; rfl)
              · refine v_aload_n (i := 0) (q := 65) hC dX12_adds_64 rfl rfl rfl ?_
                refine v_iconst (q := 66) (v := 2) hC dX12_adds_65 rfl (by decide) ?_
                refine v_callV (q := 69) (rm := rm_X12_fails) hC (c_fl hl Θ _ _ _) k_X12_fails im_yX12_fails se_yX12_fails ml_RX12_76 dX12_adds_66 rfl rfl rfl rfl rfl rfl (Nat.le_of_ble_eq_true rfl) ⟨Nat.le_of_ble_eq_true rfl, Nat.le_of_ble_eq_true rfl⟩ ⟨Nat.le_of_ble_eq_true rfl, Nat.le_of_ble_eq_true rfl⟩ (fR_k ?_) fR_x (Nat.le_of_ble_eq_true rfl) (Nat.le_of_ble_eq_true rfl)
                try dsimp only [Option.toList, List.cons_append, List.nil_append]
                refine v_iret hC dX12_adds_69 hr (rfl) ?_ (Nat.le_of_ble_eq_true rfl) (Nat.le_of_ble_eq_true rfl)
                exact mg_f c_61
          · first
            | exact absurd c_47 (by decide)
            |
              refine v_aload_n (i := 0) (q := 51) hC dX12_adds_50 rfl rfl rfl ?_
              refine v_iconst (q := 52) (v := 1) hC dX12_adds_51 rfl (by decide) ?_
              refine v_callV (q := 55) (rm := rm_X12_fails) hC (c_fl hl Θ _ _ _) k_X12_fails im_yX12_fails se_yX12_fails ml_RX12_76 dX12_adds_52 rfl rfl rfl rfl rfl rfl (Nat.le_of_ble_eq_true rfl) ⟨Nat.le_of_ble_eq_true rfl, Nat.le_of_ble_eq_true rfl⟩ ⟨Nat.le_of_ble_eq_true rfl, Nat.le_of_ble_eq_true rfl⟩ (fR_k ?_) fR_x (Nat.le_of_ble_eq_true rfl) (Nat.le_of_ble_eq_true rfl)
              try dsimp only [Option.toList, List.cons_append, List.nil_append]
              refine v_iret hC dX12_adds_55 hr (rfl) ?_ (Nat.le_of_ble_eq_true rfl) (Nat.le_of_ble_eq_true rfl)
              exact mg_f (by simp_all [mThr, ms_row])
    · refine v_aload_n (i := 0) (q := 18) hC dX12_adds_17 rfl rfl rfl ?_
      refine v_iload_n (i := 3) (q := 19) hC dX12_adds_18 rfl rfl rfl ?_
      refine v_callV (q := 22) (rm := rm_X12_isUser) hC (c_X12_isUser hl Θ _ _) k_X12_isUser im_yX12_isUser se_yX12_isUser ml_RX12_82 dX12_adds_19 rfl rfl rfl rfl rfl rfl (Nat.le_of_ble_eq_true rfl) ⟨Nat.le_of_ble_eq_true rfl, Nat.le_of_ble_eq_true rfl⟩ ⟨Nat.le_of_ble_eq_true rfl, Nat.le_of_ble_eq_true rfl⟩ (fR_k ?_) fR_x (Nat.le_of_ble_eq_true rfl) (Nat.le_of_ble_eq_true rfl)
      try dsimp only [Option.toList, List.cons_append, List.nil_append]
      refine v_ifb_eq (q := 42) (q2 := 25) hC dX12_adds_22 (by decide) rfl (fun c_22 => ?_) (fun c_22 => ?_)
      · refine v_iconst (q := 43) (v := 0) hC dX12_adds_42 rfl (by decide) ?_
        refine v_istore (q := 45) hC dX12_adds_43 rfl (lvc rfl) (Nat.le_of_ble_eq_true rfl) (Nat.le_of_ble_eq_true rfl) rfl ?_
        refine v_iload (q := 47) hC dX12_adds_45 rfl rfl ?_
        refine v_if_ne (q := 56) (q2 := 50) hC dX12_adds_47 (by decide) rfl (fun c_47 => ?_) (fun c_47 => ?_)
        · first
          | exact absurd c_47 (by decide)
          |
            rw [mg_t (by simp_all [mThr, ms_row])]
            obtain ⟨j, hj, rfl⟩ := mHold_nI c_10
            have hcc := hm.2.ct hj
            have hc6 := hm.2.ct6 hj
            rw [nI_clamp (show j < 2 ^ 31 by omega)]
            refine v_iload (q := 58) hC dX12_adds_56 rfl rfl ?_
            refine v_callS (q := 61) (rm := rm_X12_areRights) hC (c_X12_areRights hl Θ _ _) k_X12_areRights st_yX12_areRights ml_RX12_101 dX12_adds_58 rfl  rfl rfl (Nat.le_of_ble_eq_true rfl) ⟨Nat.le_of_ble_eq_true rfl, Nat.le_of_ble_eq_true rfl⟩ ⟨Nat.le_of_ble_eq_true rfl, Nat.le_of_ble_eq_true rfl⟩ (fR_k ?_) fR_x (Nat.le_of_ble_eq_true rfl) (Nat.le_of_ble_eq_true rfl)
            try dsimp only [Option.toList, List.cons_append, List.nil_append]
            refine v_ifb_ne (q := 70) (q2 := 64) hC dX12_adds_61 (by decide) rfl (fun c_61 => ?_) (fun c_61 => ?_)
            · rw [mg_t c_61]
              refine v_aload_n (i := 0) (q := 71) hC dX12_adds_70 rfl rfl rfl ?_
              refine v_iload_n (i := 1) (q := 72) hC dX12_adds_71 rfl rfl rfl ?_
              refine v_iconst (q := 73) (v := 5) hC dX12_adds_72 rfl (by decide) ?_
              refine v_callV (q := 76) (rm := rm_X12_of) hC (c_X12_of hl Θ _ 5 _ (by unfold oA; omega)) k_X12_of im_yX12_of se_yX12_of ml_RX12_54 dX12_adds_73 rfl rfl rfl rfl rfl rfl (Nat.le_of_ble_eq_true rfl) ⟨Nat.le_of_ble_eq_true rfl, Nat.le_of_ble_eq_true rfl⟩ ⟨Nat.le_of_ble_eq_true rfl, Nat.le_of_ble_eq_true rfl⟩ (fR_k ?_) fR_x (Nat.le_of_ble_eq_true rfl) (Nat.le_of_ble_eq_true rfl)
              try dsimp only [Option.toList, List.cons_append, List.nil_append]
              refine v_bipush (q := 78) (v := 6) hC dX12_adds_76 rfl (by decide) ?_
              refine v_icmp_ne (q := 87) (q2 := 81) hC dX12_adds_78 (by decide) rfl (fun c_78 => ?_) (fun c_78 => ?_)
              · rw [mg_t (by rw [show decide (G.2.1 0 30 (oA j 5) = 6) = false from decide_eq_false c_78]; rfl)]
                have hc5 : mCt (G.2.1 0 30) j < 6 := by
                  rcases Nat.lt_or_ge (mCt (G.2.1 0 30) j) 6 with z | z
                  · exact z
                  · exact absurd (show G.2.1 0 30 (oA j 5) = 6 by rw [hcc, show mCt (G.2.1 0 30) j = 6 by omega]; rfl) c_78
                refine v_aload_n (i := 0) (q := 88) hC dX12_adds_87 rfl rfl rfl ?_
                refine v_callV (q := 91) (rm := rm_X12_changes) hC (c_mC hl Θ _ hm) k_X12_changes im_yX12_changes se_yX12_changes ml_RX12_79 dX12_adds_88 rfl rfl rfl rfl rfl rfl (Nat.le_of_ble_eq_true rfl) ⟨Nat.le_of_ble_eq_true rfl, Nat.le_of_ble_eq_true rfl⟩ ⟨Nat.le_of_ble_eq_true rfl, Nat.le_of_ble_eq_true rfl⟩ (fR_k ?_) fR_x (Nat.le_of_ble_eq_true rfl) (Nat.le_of_ble_eq_true rfl)
                try dsimp only [Option.toList, List.cons_append, List.nil_append]
                refine v_aload_n (i := 0) (q := 92) hC dX12_adds_91 rfl rfl rfl ?_
                refine g_X12_0 (q := 95) hC dX12_adds_92 rfl rfl fl_RX12_7 ?_
                refine v_iload_n (i := 1) (q := 96) hC dX12_adds_95 rfl rfl rfl ?_
                refine v_iconst (q := 97) (v := 5) hC dX12_adds_96 rfl (by decide) ?_
                refine v_callS (q := 100) (rm := rm_X12_at) hC (c_X12_at hl Θ _ 5 _) k_X12_at st_yX12_at ml_RX12_50 dX12_adds_97 rfl  rfl rfl (Nat.le_of_ble_eq_true rfl) ⟨Nat.le_of_ble_eq_true rfl, Nat.le_of_ble_eq_true rfl⟩ ⟨Nat.le_of_ble_eq_true rfl, Nat.le_of_ble_eq_true rfl⟩ (fR_k ?_) fR_x (Nat.le_of_ble_eq_true rfl) (Nat.le_of_ble_eq_true rfl)
                try dsimp only [Option.toList, List.cons_append, List.nil_append]
                refine v_dup2 (q := 101) hC dX12_adds_100 rfl rfl rfl ?_
                refine v_ialdN (q := 102) hC dX12_adds_101 rfl rfl rfl (i := oA j 5) (rfl) (by first | decide | omega | (unfold oA; omega) | (unfold enA; omega)) (by decide) ?_
                refine v_iconst (q := 103) (v := 1) hC dX12_adds_102 rfl (by decide) ?_
                refine v_iadd (q := 104) hC dX12_adds_103 rfl ?_
                refine v_mup (i := oA j 5) (q := 105) hC dX12_adds_104 rfl rfl (by unfold oA; omega) ?_
                rw [show mUp (oA j 5) ((mC G).2.1 0 30 (oA j 5) + 1) (mC G) = mWr (upd (G.2.1 0 30) (oA j 5) (nI (mCt (G.2.1 0 30) j + 1))) (mC G) by rw [mUp, mC_w, hcc, nI_1]; rfl]
                refine v_aload_n (i := 0) (q := 106) hC dX12_adds_105 rfl rfl rfl ?_
                refine v_iload_n (i := 1) (q := 107) hC dX12_adds_106 rfl rfl rfl ?_
                refine v_aload_n (i := 0) (q := 108) hC dX12_adds_107 rfl rfl rfl ?_
                refine v_iload_n (i := 1) (q := 109) hC dX12_adds_108 rfl rfl rfl ?_
                refine v_iconst (q := 110) (v := 5) hC dX12_adds_109 rfl (by decide) ?_
                refine v_callV (q := 113) (rm := rm_X12_of) hC (c_X12_of hl Θ _ 5 _ (by unfold oA; omega)) k_X12_of im_yX12_of se_yX12_of ml_RX12_54 dX12_adds_110 rfl rfl rfl rfl rfl rfl (Nat.le_of_ble_eq_true rfl) ⟨Nat.le_of_ble_eq_true rfl, Nat.le_of_ble_eq_true rfl⟩ ⟨Nat.le_of_ble_eq_true rfl, Nat.le_of_ble_eq_true rfl⟩ (fR_k ?_) fR_x (Nat.le_of_ble_eq_true rfl) (Nat.le_of_ble_eq_true rfl)
                try dsimp only [Option.toList, List.cons_append, List.nil_append]
                rw [mWr_row, upd, if_pos rfl]
                refine v_iconst (q := 114) (v := 1) hC dX12_adds_113 rfl (by decide) ?_
                refine v_isub (q := 115) hC dX12_adds_114 rfl ?_
                rw [nI_m1 (by omega), Nat.add_sub_cancel]
                refine v_iload_n (i := 2) (q := 116) hC dX12_adds_115 rfl rfl rfl ?_
                refine v_iload_n (i := 3) (q := 117) hC dX12_adds_116 rfl rfl rfl ?_
                refine v_iload (q := 119) hC dX12_adds_117 rfl rfl ?_
                refine v_iload (q := 121) hC dX12_adds_119 rfl rfl ?_
                refine v_iload (q := 123) hC dX12_adds_121 rfl rfl ?_
                refine v_callV (q := 126) (rm := rm_X12_writes) hC (c_X12_writes hl Θ j (mCt (G.2.1 0 30) j) _ _ _ a b _ _ hj hc5) k_X12_writes im_yX12_writes se_yX12_writes ml_RX12_104 dX12_adds_123 rfl rfl rfl rfl rfl rfl (Nat.le_of_ble_eq_true rfl) ⟨Nat.le_of_ble_eq_true rfl, Nat.le_of_ble_eq_true rfl⟩ ⟨Nat.le_of_ble_eq_true rfl, Nat.le_of_ble_eq_true rfl⟩ (fR_k ?_) fR_x (Nat.le_of_ble_eq_true rfl) (Nat.le_of_ble_eq_true rfl)
                try dsimp only [Option.toList, List.cons_append, List.nil_append]
                refine v_aload_n (i := 0) (q := 127) hC dX12_adds_126 rfl rfl rfl ?_
                refine v_iload_n (i := 1) (q := 128) hC dX12_adds_127 rfl rfl rfl ?_
                refine v_iconst (q := 129) (v := 5) hC dX12_adds_128 rfl (by decide) ?_
                refine v_callV (q := 132) (rm := rm_X12_of) hC (c_X12_of hl Θ _ 5 _ (by unfold oA; omega)) k_X12_of im_yX12_of se_yX12_of ml_RX12_54 dX12_adds_129 rfl rfl rfl rfl rfl rfl (Nat.le_of_ble_eq_true rfl) ⟨Nat.le_of_ble_eq_true rfl, Nat.le_of_ble_eq_true rfl⟩ ⟨Nat.le_of_ble_eq_true rfl, Nat.le_of_ble_eq_true rfl⟩ (fR_k ?_) fR_x (Nat.le_of_ble_eq_true rfl) (Nat.le_of_ble_eq_true rfl)
                try dsimp only [Option.toList, List.cons_append, List.nil_append]
                rw [mWr_row]
                refine v_iret hC dX12_adds_132 hr (rfl) ?_ (Nat.le_of_ble_eq_true rfl) (Nat.le_of_ble_eq_true rfl)
                refine ⟨?_, rfl⟩
                unfold mWrt upd
                rw [if_neg (by unfold oA enA; omega), if_neg (by unfold oA enA; omega), if_neg (by unfold oA enA; omega), if_neg (by unfold oA enA; omega), if_neg (by unfold oA enA; omega), if_pos rfl]
              · refine v_aload_n (i := 0) (q := 82) hC dX12_adds_81 rfl rfl rfl ?_
                refine v_iconst (q := 83) (v := 3) hC dX12_adds_82 rfl (by decide) ?_
                refine v_callV (q := 86) (rm := rm_X12_fails) hC (c_fl hl Θ _ _ _) k_X12_fails im_yX12_fails se_yX12_fails ml_RX12_76 dX12_adds_83 rfl rfl rfl rfl rfl rfl (Nat.le_of_ble_eq_true rfl) ⟨Nat.le_of_ble_eq_true rfl, Nat.le_of_ble_eq_true rfl⟩ ⟨Nat.le_of_ble_eq_true rfl, Nat.le_of_ble_eq_true rfl⟩ (fR_k ?_) fR_x (Nat.le_of_ble_eq_true rfl) (Nat.le_of_ble_eq_true rfl)
                try dsimp only [Option.toList, List.cons_append, List.nil_append]
                refine v_iret hC dX12_adds_86 hr (rfl) ?_ (Nat.le_of_ble_eq_true rfl) (Nat.le_of_ble_eq_true rfl)
                exact mg_f (by rw [show decide (G.2.1 0 30 (oA j 5) = 6) = true from decide_eq_true c_78]; rfl)
            · refine v_aload_n (i := 0) (q := 65) hC dX12_adds_64 rfl rfl rfl ?_
              refine v_iconst (q := 66) (v := 2) hC dX12_adds_65 rfl (by decide) ?_
              refine v_callV (q := 69) (rm := rm_X12_fails) hC (c_fl hl Θ _ _ _) k_X12_fails im_yX12_fails se_yX12_fails ml_RX12_76 dX12_adds_66 rfl rfl rfl rfl rfl rfl (Nat.le_of_ble_eq_true rfl) ⟨Nat.le_of_ble_eq_true rfl, Nat.le_of_ble_eq_true rfl⟩ ⟨Nat.le_of_ble_eq_true rfl, Nat.le_of_ble_eq_true rfl⟩ (fR_k ?_) fR_x (Nat.le_of_ble_eq_true rfl) (Nat.le_of_ble_eq_true rfl)
              try dsimp only [Option.toList, List.cons_append, List.nil_append]
              refine v_iret hC dX12_adds_69 hr (rfl) ?_ (Nat.le_of_ble_eq_true rfl) (Nat.le_of_ble_eq_true rfl)
              exact mg_f c_61
        · first
          | exact absurd c_47 (by decide)
          |
            refine v_aload_n (i := 0) (q := 51) hC dX12_adds_50 rfl rfl rfl ?_
            refine v_iconst (q := 52) (v := 1) hC dX12_adds_51 rfl (by decide) ?_
            refine v_callV (q := 55) (rm := rm_X12_fails) hC (c_fl hl Θ _ _ _) k_X12_fails im_yX12_fails se_yX12_fails ml_RX12_76 dX12_adds_52 rfl rfl rfl rfl rfl rfl (Nat.le_of_ble_eq_true rfl) ⟨Nat.le_of_ble_eq_true rfl, Nat.le_of_ble_eq_true rfl⟩ ⟨Nat.le_of_ble_eq_true rfl, Nat.le_of_ble_eq_true rfl⟩ (fR_k ?_) fR_x (Nat.le_of_ble_eq_true rfl) (Nat.le_of_ble_eq_true rfl)
            try dsimp only [Option.toList, List.cons_append, List.nil_append]
            refine v_iret hC dX12_adds_55 hr (rfl) ?_ (Nat.le_of_ble_eq_true rfl) (Nat.le_of_ble_eq_true rfl)
            exact mg_f (by simp_all [mThr, ms_row])
      · refine v_iload_n (i := 2) (q := 26) hC dX12_adds_25 rfl rfl rfl ?_
        refine v_iconst (q := 27) (v := 1) hC dX12_adds_26 rfl (by decide) ?_
        refine v_icmp_ne (q := 38) (q2 := 30) hC dX12_adds_27 (by decide) rfl (fun c_27 => ?_) (fun c_27 => ?_)
        · refine v_iconst (q := 39) (v := 1) hC dX12_adds_38 rfl (by decide) ?_
          refine v_goto (q := 43) hC dX12_adds_39 (by decide) ?_
          refine v_istore (q := 45) hC dX12_adds_43 rfl (lvc rfl) (Nat.le_of_ble_eq_true rfl) (Nat.le_of_ble_eq_true rfl) rfl ?_
          refine v_iload (q := 47) hC dX12_adds_45 rfl rfl ?_
          refine v_if_ne (q := 56) (q2 := 50) hC dX12_adds_47 (by decide) rfl (fun c_47 => ?_) (fun c_47 => ?_)
          · first
            | exact absurd c_47 (by decide)
            |
              rw [mg_t (by simp_all [mThr, ms_row])]
              obtain ⟨j, hj, rfl⟩ := mHold_nI c_10
              have hcc := hm.2.ct hj
              have hc6 := hm.2.ct6 hj
              rw [nI_clamp (show j < 2 ^ 31 by omega)]
              refine v_iload (q := 58) hC dX12_adds_56 rfl rfl ?_
              refine v_callS (q := 61) (rm := rm_X12_areRights) hC (c_X12_areRights hl Θ _ _) k_X12_areRights st_yX12_areRights ml_RX12_101 dX12_adds_58 rfl  rfl rfl (Nat.le_of_ble_eq_true rfl) ⟨Nat.le_of_ble_eq_true rfl, Nat.le_of_ble_eq_true rfl⟩ ⟨Nat.le_of_ble_eq_true rfl, Nat.le_of_ble_eq_true rfl⟩ (fR_k ?_) fR_x (Nat.le_of_ble_eq_true rfl) (Nat.le_of_ble_eq_true rfl)
              try dsimp only [Option.toList, List.cons_append, List.nil_append]
              refine v_ifb_ne (q := 70) (q2 := 64) hC dX12_adds_61 (by decide) rfl (fun c_61 => ?_) (fun c_61 => ?_)
              · rw [mg_t c_61]
                refine v_aload_n (i := 0) (q := 71) hC dX12_adds_70 rfl rfl rfl ?_
                refine v_iload_n (i := 1) (q := 72) hC dX12_adds_71 rfl rfl rfl ?_
                refine v_iconst (q := 73) (v := 5) hC dX12_adds_72 rfl (by decide) ?_
                refine v_callV (q := 76) (rm := rm_X12_of) hC (c_X12_of hl Θ _ 5 _ (by unfold oA; omega)) k_X12_of im_yX12_of se_yX12_of ml_RX12_54 dX12_adds_73 rfl rfl rfl rfl rfl rfl (Nat.le_of_ble_eq_true rfl) ⟨Nat.le_of_ble_eq_true rfl, Nat.le_of_ble_eq_true rfl⟩ ⟨Nat.le_of_ble_eq_true rfl, Nat.le_of_ble_eq_true rfl⟩ (fR_k ?_) fR_x (Nat.le_of_ble_eq_true rfl) (Nat.le_of_ble_eq_true rfl)
                try dsimp only [Option.toList, List.cons_append, List.nil_append]
                refine v_bipush (q := 78) (v := 6) hC dX12_adds_76 rfl (by decide) ?_
                refine v_icmp_ne (q := 87) (q2 := 81) hC dX12_adds_78 (by decide) rfl (fun c_78 => ?_) (fun c_78 => ?_)
                · rw [mg_t (by rw [show decide (G.2.1 0 30 (oA j 5) = 6) = false from decide_eq_false c_78]; rfl)]
                  have hc5 : mCt (G.2.1 0 30) j < 6 := by
                    rcases Nat.lt_or_ge (mCt (G.2.1 0 30) j) 6 with z | z
                    · exact z
                    · exact absurd (show G.2.1 0 30 (oA j 5) = 6 by rw [hcc, show mCt (G.2.1 0 30) j = 6 by omega]; rfl) c_78
                  refine v_aload_n (i := 0) (q := 88) hC dX12_adds_87 rfl rfl rfl ?_
                  refine v_callV (q := 91) (rm := rm_X12_changes) hC (c_mC hl Θ _ hm) k_X12_changes im_yX12_changes se_yX12_changes ml_RX12_79 dX12_adds_88 rfl rfl rfl rfl rfl rfl (Nat.le_of_ble_eq_true rfl) ⟨Nat.le_of_ble_eq_true rfl, Nat.le_of_ble_eq_true rfl⟩ ⟨Nat.le_of_ble_eq_true rfl, Nat.le_of_ble_eq_true rfl⟩ (fR_k ?_) fR_x (Nat.le_of_ble_eq_true rfl) (Nat.le_of_ble_eq_true rfl)
                  try dsimp only [Option.toList, List.cons_append, List.nil_append]
                  refine v_aload_n (i := 0) (q := 92) hC dX12_adds_91 rfl rfl rfl ?_
                  refine g_X12_0 (q := 95) hC dX12_adds_92 rfl rfl fl_RX12_7 ?_
                  refine v_iload_n (i := 1) (q := 96) hC dX12_adds_95 rfl rfl rfl ?_
                  refine v_iconst (q := 97) (v := 5) hC dX12_adds_96 rfl (by decide) ?_
                  refine v_callS (q := 100) (rm := rm_X12_at) hC (c_X12_at hl Θ _ 5 _) k_X12_at st_yX12_at ml_RX12_50 dX12_adds_97 rfl  rfl rfl (Nat.le_of_ble_eq_true rfl) ⟨Nat.le_of_ble_eq_true rfl, Nat.le_of_ble_eq_true rfl⟩ ⟨Nat.le_of_ble_eq_true rfl, Nat.le_of_ble_eq_true rfl⟩ (fR_k ?_) fR_x (Nat.le_of_ble_eq_true rfl) (Nat.le_of_ble_eq_true rfl)
                  try dsimp only [Option.toList, List.cons_append, List.nil_append]
                  refine v_dup2 (q := 101) hC dX12_adds_100 rfl rfl rfl ?_
                  refine v_ialdN (q := 102) hC dX12_adds_101 rfl rfl rfl (i := oA j 5) (rfl) (by first | decide | omega | (unfold oA; omega) | (unfold enA; omega)) (by decide) ?_
                  refine v_iconst (q := 103) (v := 1) hC dX12_adds_102 rfl (by decide) ?_
                  refine v_iadd (q := 104) hC dX12_adds_103 rfl ?_
                  refine v_mup (i := oA j 5) (q := 105) hC dX12_adds_104 rfl rfl (by unfold oA; omega) ?_
                  rw [show mUp (oA j 5) ((mC G).2.1 0 30 (oA j 5) + 1) (mC G) = mWr (upd (G.2.1 0 30) (oA j 5) (nI (mCt (G.2.1 0 30) j + 1))) (mC G) by rw [mUp, mC_w, hcc, nI_1]; rfl]
                  refine v_aload_n (i := 0) (q := 106) hC dX12_adds_105 rfl rfl rfl ?_
                  refine v_iload_n (i := 1) (q := 107) hC dX12_adds_106 rfl rfl rfl ?_
                  refine v_aload_n (i := 0) (q := 108) hC dX12_adds_107 rfl rfl rfl ?_
                  refine v_iload_n (i := 1) (q := 109) hC dX12_adds_108 rfl rfl rfl ?_
                  refine v_iconst (q := 110) (v := 5) hC dX12_adds_109 rfl (by decide) ?_
                  refine v_callV (q := 113) (rm := rm_X12_of) hC (c_X12_of hl Θ _ 5 _ (by unfold oA; omega)) k_X12_of im_yX12_of se_yX12_of ml_RX12_54 dX12_adds_110 rfl rfl rfl rfl rfl rfl (Nat.le_of_ble_eq_true rfl) ⟨Nat.le_of_ble_eq_true rfl, Nat.le_of_ble_eq_true rfl⟩ ⟨Nat.le_of_ble_eq_true rfl, Nat.le_of_ble_eq_true rfl⟩ (fR_k ?_) fR_x (Nat.le_of_ble_eq_true rfl) (Nat.le_of_ble_eq_true rfl)
                  try dsimp only [Option.toList, List.cons_append, List.nil_append]
                  rw [mWr_row, upd, if_pos rfl]
                  refine v_iconst (q := 114) (v := 1) hC dX12_adds_113 rfl (by decide) ?_
                  refine v_isub (q := 115) hC dX12_adds_114 rfl ?_
                  rw [nI_m1 (by omega), Nat.add_sub_cancel]
                  refine v_iload_n (i := 2) (q := 116) hC dX12_adds_115 rfl rfl rfl ?_
                  refine v_iload_n (i := 3) (q := 117) hC dX12_adds_116 rfl rfl rfl ?_
                  refine v_iload (q := 119) hC dX12_adds_117 rfl rfl ?_
                  refine v_iload (q := 121) hC dX12_adds_119 rfl rfl ?_
                  refine v_iload (q := 123) hC dX12_adds_121 rfl rfl ?_
                  refine v_callV (q := 126) (rm := rm_X12_writes) hC (c_X12_writes hl Θ j (mCt (G.2.1 0 30) j) _ _ _ a b _ _ hj hc5) k_X12_writes im_yX12_writes se_yX12_writes ml_RX12_104 dX12_adds_123 rfl rfl rfl rfl rfl rfl (Nat.le_of_ble_eq_true rfl) ⟨Nat.le_of_ble_eq_true rfl, Nat.le_of_ble_eq_true rfl⟩ ⟨Nat.le_of_ble_eq_true rfl, Nat.le_of_ble_eq_true rfl⟩ (fR_k ?_) fR_x (Nat.le_of_ble_eq_true rfl) (Nat.le_of_ble_eq_true rfl)
                  try dsimp only [Option.toList, List.cons_append, List.nil_append]
                  refine v_aload_n (i := 0) (q := 127) hC dX12_adds_126 rfl rfl rfl ?_
                  refine v_iload_n (i := 1) (q := 128) hC dX12_adds_127 rfl rfl rfl ?_
                  refine v_iconst (q := 129) (v := 5) hC dX12_adds_128 rfl (by decide) ?_
                  refine v_callV (q := 132) (rm := rm_X12_of) hC (c_X12_of hl Θ _ 5 _ (by unfold oA; omega)) k_X12_of im_yX12_of se_yX12_of ml_RX12_54 dX12_adds_129 rfl rfl rfl rfl rfl rfl (Nat.le_of_ble_eq_true rfl) ⟨Nat.le_of_ble_eq_true rfl, Nat.le_of_ble_eq_true rfl⟩ ⟨Nat.le_of_ble_eq_true rfl, Nat.le_of_ble_eq_true rfl⟩ (fR_k ?_) fR_x (Nat.le_of_ble_eq_true rfl) (Nat.le_of_ble_eq_true rfl)
                  try dsimp only [Option.toList, List.cons_append, List.nil_append]
                  rw [mWr_row]
                  refine v_iret hC dX12_adds_132 hr (rfl) ?_ (Nat.le_of_ble_eq_true rfl) (Nat.le_of_ble_eq_true rfl)
                  refine ⟨?_, rfl⟩
                  unfold mWrt upd
                  rw [if_neg (by unfold oA enA; omega), if_neg (by unfold oA enA; omega), if_neg (by unfold oA enA; omega), if_neg (by unfold oA enA; omega), if_neg (by unfold oA enA; omega), if_pos rfl]
                · refine v_aload_n (i := 0) (q := 82) hC dX12_adds_81 rfl rfl rfl ?_
                  refine v_iconst (q := 83) (v := 3) hC dX12_adds_82 rfl (by decide) ?_
                  refine v_callV (q := 86) (rm := rm_X12_fails) hC (c_fl hl Θ _ _ _) k_X12_fails im_yX12_fails se_yX12_fails ml_RX12_76 dX12_adds_83 rfl rfl rfl rfl rfl rfl (Nat.le_of_ble_eq_true rfl) ⟨Nat.le_of_ble_eq_true rfl, Nat.le_of_ble_eq_true rfl⟩ ⟨Nat.le_of_ble_eq_true rfl, Nat.le_of_ble_eq_true rfl⟩ (fR_k ?_) fR_x (Nat.le_of_ble_eq_true rfl) (Nat.le_of_ble_eq_true rfl)
                  try dsimp only [Option.toList, List.cons_append, List.nil_append]
                  refine v_iret hC dX12_adds_86 hr (rfl) ?_ (Nat.le_of_ble_eq_true rfl) (Nat.le_of_ble_eq_true rfl)
                  exact mg_f (by rw [show decide (G.2.1 0 30 (oA j 5) = 6) = true from decide_eq_true c_78]; rfl)
              · refine v_aload_n (i := 0) (q := 65) hC dX12_adds_64 rfl rfl rfl ?_
                refine v_iconst (q := 66) (v := 2) hC dX12_adds_65 rfl (by decide) ?_
                refine v_callV (q := 69) (rm := rm_X12_fails) hC (c_fl hl Θ _ _ _) k_X12_fails im_yX12_fails se_yX12_fails ml_RX12_76 dX12_adds_66 rfl rfl rfl rfl rfl rfl (Nat.le_of_ble_eq_true rfl) ⟨Nat.le_of_ble_eq_true rfl, Nat.le_of_ble_eq_true rfl⟩ ⟨Nat.le_of_ble_eq_true rfl, Nat.le_of_ble_eq_true rfl⟩ (fR_k ?_) fR_x (Nat.le_of_ble_eq_true rfl) (Nat.le_of_ble_eq_true rfl)
                try dsimp only [Option.toList, List.cons_append, List.nil_append]
                refine v_iret hC dX12_adds_69 hr (rfl) ?_ (Nat.le_of_ble_eq_true rfl) (Nat.le_of_ble_eq_true rfl)
                exact mg_f c_61
          · first
            | exact absurd c_47 (by decide)
            |
              refine v_aload_n (i := 0) (q := 51) hC dX12_adds_50 rfl rfl rfl ?_
              refine v_iconst (q := 52) (v := 1) hC dX12_adds_51 rfl (by decide) ?_
              refine v_callV (q := 55) (rm := rm_X12_fails) hC (c_fl hl Θ _ _ _) k_X12_fails im_yX12_fails se_yX12_fails ml_RX12_76 dX12_adds_52 rfl rfl rfl rfl rfl rfl (Nat.le_of_ble_eq_true rfl) ⟨Nat.le_of_ble_eq_true rfl, Nat.le_of_ble_eq_true rfl⟩ ⟨Nat.le_of_ble_eq_true rfl, Nat.le_of_ble_eq_true rfl⟩ (fR_k ?_) fR_x (Nat.le_of_ble_eq_true rfl) (Nat.le_of_ble_eq_true rfl)
              try dsimp only [Option.toList, List.cons_append, List.nil_append]
              refine v_iret hC dX12_adds_55 hr (rfl) ?_ (Nat.le_of_ble_eq_true rfl) (Nat.le_of_ble_eq_true rfl)
              exact mg_f (by simp_all [mThr, ms_row])
        · refine v_aload_n (i := 0) (q := 31) hC dX12_adds_30 rfl rfl rfl ?_
          refine v_iload_n (i := 3) (q := 32) hC dX12_adds_31 rfl rfl rfl ?_
          refine v_callV (q := 35) (rm := rm_X12_isGroup) hC (c_X12_isGroup hl Θ _ _) k_X12_isGroup im_yX12_isGroup se_yX12_isGroup ml_RX12_85 dX12_adds_32 rfl rfl rfl rfl rfl rfl (Nat.le_of_ble_eq_true rfl) ⟨Nat.le_of_ble_eq_true rfl, Nat.le_of_ble_eq_true rfl⟩ ⟨Nat.le_of_ble_eq_true rfl, Nat.le_of_ble_eq_true rfl⟩ (fR_k ?_) fR_x (Nat.le_of_ble_eq_true rfl) (Nat.le_of_ble_eq_true rfl)
          try dsimp only [Option.toList, List.cons_append, List.nil_append]
          refine v_ifb_eq (q := 42) (q2 := 38) hC dX12_adds_35 (by decide) rfl (fun c_35 => ?_) (fun c_35 => ?_)
          · refine v_iconst (q := 43) (v := 0) hC dX12_adds_42 rfl (by decide) ?_
            refine v_istore (q := 45) hC dX12_adds_43 rfl (lvc rfl) (Nat.le_of_ble_eq_true rfl) (Nat.le_of_ble_eq_true rfl) rfl ?_
            refine v_iload (q := 47) hC dX12_adds_45 rfl rfl ?_
            refine v_if_ne (q := 56) (q2 := 50) hC dX12_adds_47 (by decide) rfl (fun c_47 => ?_) (fun c_47 => ?_)
            · first
              | exact absurd c_47 (by decide)
              |
                rw [mg_t (by simp_all [mThr, ms_row])]
                obtain ⟨j, hj, rfl⟩ := mHold_nI c_10
                have hcc := hm.2.ct hj
                have hc6 := hm.2.ct6 hj
                rw [nI_clamp (show j < 2 ^ 31 by omega)]
                refine v_iload (q := 58) hC dX12_adds_56 rfl rfl ?_
                refine v_callS (q := 61) (rm := rm_X12_areRights) hC (c_X12_areRights hl Θ _ _) k_X12_areRights st_yX12_areRights ml_RX12_101 dX12_adds_58 rfl  rfl rfl (Nat.le_of_ble_eq_true rfl) ⟨Nat.le_of_ble_eq_true rfl, Nat.le_of_ble_eq_true rfl⟩ ⟨Nat.le_of_ble_eq_true rfl, Nat.le_of_ble_eq_true rfl⟩ (fR_k ?_) fR_x (Nat.le_of_ble_eq_true rfl) (Nat.le_of_ble_eq_true rfl)
                try dsimp only [Option.toList, List.cons_append, List.nil_append]
                refine v_ifb_ne (q := 70) (q2 := 64) hC dX12_adds_61 (by decide) rfl (fun c_61 => ?_) (fun c_61 => ?_)
                · rw [mg_t c_61]
                  refine v_aload_n (i := 0) (q := 71) hC dX12_adds_70 rfl rfl rfl ?_
                  refine v_iload_n (i := 1) (q := 72) hC dX12_adds_71 rfl rfl rfl ?_
                  refine v_iconst (q := 73) (v := 5) hC dX12_adds_72 rfl (by decide) ?_
                  refine v_callV (q := 76) (rm := rm_X12_of) hC (c_X12_of hl Θ _ 5 _ (by unfold oA; omega)) k_X12_of im_yX12_of se_yX12_of ml_RX12_54 dX12_adds_73 rfl rfl rfl rfl rfl rfl (Nat.le_of_ble_eq_true rfl) ⟨Nat.le_of_ble_eq_true rfl, Nat.le_of_ble_eq_true rfl⟩ ⟨Nat.le_of_ble_eq_true rfl, Nat.le_of_ble_eq_true rfl⟩ (fR_k ?_) fR_x (Nat.le_of_ble_eq_true rfl) (Nat.le_of_ble_eq_true rfl)
                  try dsimp only [Option.toList, List.cons_append, List.nil_append]
                  refine v_bipush (q := 78) (v := 6) hC dX12_adds_76 rfl (by decide) ?_
                  refine v_icmp_ne (q := 87) (q2 := 81) hC dX12_adds_78 (by decide) rfl (fun c_78 => ?_) (fun c_78 => ?_)
                  · rw [mg_t (by rw [show decide (G.2.1 0 30 (oA j 5) = 6) = false from decide_eq_false c_78]; rfl)]
                    have hc5 : mCt (G.2.1 0 30) j < 6 := by
                      rcases Nat.lt_or_ge (mCt (G.2.1 0 30) j) 6 with z | z
                      · exact z
                      · exact absurd (show G.2.1 0 30 (oA j 5) = 6 by rw [hcc, show mCt (G.2.1 0 30) j = 6 by omega]; rfl) c_78
                    refine v_aload_n (i := 0) (q := 88) hC dX12_adds_87 rfl rfl rfl ?_
                    refine v_callV (q := 91) (rm := rm_X12_changes) hC (c_mC hl Θ _ hm) k_X12_changes im_yX12_changes se_yX12_changes ml_RX12_79 dX12_adds_88 rfl rfl rfl rfl rfl rfl (Nat.le_of_ble_eq_true rfl) ⟨Nat.le_of_ble_eq_true rfl, Nat.le_of_ble_eq_true rfl⟩ ⟨Nat.le_of_ble_eq_true rfl, Nat.le_of_ble_eq_true rfl⟩ (fR_k ?_) fR_x (Nat.le_of_ble_eq_true rfl) (Nat.le_of_ble_eq_true rfl)
                    try dsimp only [Option.toList, List.cons_append, List.nil_append]
                    refine v_aload_n (i := 0) (q := 92) hC dX12_adds_91 rfl rfl rfl ?_
                    refine g_X12_0 (q := 95) hC dX12_adds_92 rfl rfl fl_RX12_7 ?_
                    refine v_iload_n (i := 1) (q := 96) hC dX12_adds_95 rfl rfl rfl ?_
                    refine v_iconst (q := 97) (v := 5) hC dX12_adds_96 rfl (by decide) ?_
                    refine v_callS (q := 100) (rm := rm_X12_at) hC (c_X12_at hl Θ _ 5 _) k_X12_at st_yX12_at ml_RX12_50 dX12_adds_97 rfl  rfl rfl (Nat.le_of_ble_eq_true rfl) ⟨Nat.le_of_ble_eq_true rfl, Nat.le_of_ble_eq_true rfl⟩ ⟨Nat.le_of_ble_eq_true rfl, Nat.le_of_ble_eq_true rfl⟩ (fR_k ?_) fR_x (Nat.le_of_ble_eq_true rfl) (Nat.le_of_ble_eq_true rfl)
                    try dsimp only [Option.toList, List.cons_append, List.nil_append]
                    refine v_dup2 (q := 101) hC dX12_adds_100 rfl rfl rfl ?_
                    refine v_ialdN (q := 102) hC dX12_adds_101 rfl rfl rfl (i := oA j 5) (rfl) (by first | decide | omega | (unfold oA; omega) | (unfold enA; omega)) (by decide) ?_
                    refine v_iconst (q := 103) (v := 1) hC dX12_adds_102 rfl (by decide) ?_
                    refine v_iadd (q := 104) hC dX12_adds_103 rfl ?_
                    refine v_mup (i := oA j 5) (q := 105) hC dX12_adds_104 rfl rfl (by unfold oA; omega) ?_
                    rw [show mUp (oA j 5) ((mC G).2.1 0 30 (oA j 5) + 1) (mC G) = mWr (upd (G.2.1 0 30) (oA j 5) (nI (mCt (G.2.1 0 30) j + 1))) (mC G) by rw [mUp, mC_w, hcc, nI_1]; rfl]
                    refine v_aload_n (i := 0) (q := 106) hC dX12_adds_105 rfl rfl rfl ?_
                    refine v_iload_n (i := 1) (q := 107) hC dX12_adds_106 rfl rfl rfl ?_
                    refine v_aload_n (i := 0) (q := 108) hC dX12_adds_107 rfl rfl rfl ?_
                    refine v_iload_n (i := 1) (q := 109) hC dX12_adds_108 rfl rfl rfl ?_
                    refine v_iconst (q := 110) (v := 5) hC dX12_adds_109 rfl (by decide) ?_
                    refine v_callV (q := 113) (rm := rm_X12_of) hC (c_X12_of hl Θ _ 5 _ (by unfold oA; omega)) k_X12_of im_yX12_of se_yX12_of ml_RX12_54 dX12_adds_110 rfl rfl rfl rfl rfl rfl (Nat.le_of_ble_eq_true rfl) ⟨Nat.le_of_ble_eq_true rfl, Nat.le_of_ble_eq_true rfl⟩ ⟨Nat.le_of_ble_eq_true rfl, Nat.le_of_ble_eq_true rfl⟩ (fR_k ?_) fR_x (Nat.le_of_ble_eq_true rfl) (Nat.le_of_ble_eq_true rfl)
                    try dsimp only [Option.toList, List.cons_append, List.nil_append]
                    rw [mWr_row, upd, if_pos rfl]
                    refine v_iconst (q := 114) (v := 1) hC dX12_adds_113 rfl (by decide) ?_
                    refine v_isub (q := 115) hC dX12_adds_114 rfl ?_
                    rw [nI_m1 (by omega), Nat.add_sub_cancel]
                    refine v_iload_n (i := 2) (q := 116) hC dX12_adds_115 rfl rfl rfl ?_
                    refine v_iload_n (i := 3) (q := 117) hC dX12_adds_116 rfl rfl rfl ?_
                    refine v_iload (q := 119) hC dX12_adds_117 rfl rfl ?_
                    refine v_iload (q := 121) hC dX12_adds_119 rfl rfl ?_
                    refine v_iload (q := 123) hC dX12_adds_121 rfl rfl ?_
                    refine v_callV (q := 126) (rm := rm_X12_writes) hC (c_X12_writes hl Θ j (mCt (G.2.1 0 30) j) _ _ _ a b _ _ hj hc5) k_X12_writes im_yX12_writes se_yX12_writes ml_RX12_104 dX12_adds_123 rfl rfl rfl rfl rfl rfl (Nat.le_of_ble_eq_true rfl) ⟨Nat.le_of_ble_eq_true rfl, Nat.le_of_ble_eq_true rfl⟩ ⟨Nat.le_of_ble_eq_true rfl, Nat.le_of_ble_eq_true rfl⟩ (fR_k ?_) fR_x (Nat.le_of_ble_eq_true rfl) (Nat.le_of_ble_eq_true rfl)
                    try dsimp only [Option.toList, List.cons_append, List.nil_append]
                    refine v_aload_n (i := 0) (q := 127) hC dX12_adds_126 rfl rfl rfl ?_
                    refine v_iload_n (i := 1) (q := 128) hC dX12_adds_127 rfl rfl rfl ?_
                    refine v_iconst (q := 129) (v := 5) hC dX12_adds_128 rfl (by decide) ?_
                    refine v_callV (q := 132) (rm := rm_X12_of) hC (c_X12_of hl Θ _ 5 _ (by unfold oA; omega)) k_X12_of im_yX12_of se_yX12_of ml_RX12_54 dX12_adds_129 rfl rfl rfl rfl rfl rfl (Nat.le_of_ble_eq_true rfl) ⟨Nat.le_of_ble_eq_true rfl, Nat.le_of_ble_eq_true rfl⟩ ⟨Nat.le_of_ble_eq_true rfl, Nat.le_of_ble_eq_true rfl⟩ (fR_k ?_) fR_x (Nat.le_of_ble_eq_true rfl) (Nat.le_of_ble_eq_true rfl)
                    try dsimp only [Option.toList, List.cons_append, List.nil_append]
                    rw [mWr_row]
                    refine v_iret hC dX12_adds_132 hr (rfl) ?_ (Nat.le_of_ble_eq_true rfl) (Nat.le_of_ble_eq_true rfl)
                    refine ⟨?_, rfl⟩
                    unfold mWrt upd
                    rw [if_neg (by unfold oA enA; omega), if_neg (by unfold oA enA; omega), if_neg (by unfold oA enA; omega), if_neg (by unfold oA enA; omega), if_neg (by unfold oA enA; omega), if_pos rfl]
                  · refine v_aload_n (i := 0) (q := 82) hC dX12_adds_81 rfl rfl rfl ?_
                    refine v_iconst (q := 83) (v := 3) hC dX12_adds_82 rfl (by decide) ?_
                    refine v_callV (q := 86) (rm := rm_X12_fails) hC (c_fl hl Θ _ _ _) k_X12_fails im_yX12_fails se_yX12_fails ml_RX12_76 dX12_adds_83 rfl rfl rfl rfl rfl rfl (Nat.le_of_ble_eq_true rfl) ⟨Nat.le_of_ble_eq_true rfl, Nat.le_of_ble_eq_true rfl⟩ ⟨Nat.le_of_ble_eq_true rfl, Nat.le_of_ble_eq_true rfl⟩ (fR_k ?_) fR_x (Nat.le_of_ble_eq_true rfl) (Nat.le_of_ble_eq_true rfl)
                    try dsimp only [Option.toList, List.cons_append, List.nil_append]
                    refine v_iret hC dX12_adds_86 hr (rfl) ?_ (Nat.le_of_ble_eq_true rfl) (Nat.le_of_ble_eq_true rfl)
                    exact mg_f (by rw [show decide (G.2.1 0 30 (oA j 5) = 6) = true from decide_eq_true c_78]; rfl)
                · refine v_aload_n (i := 0) (q := 65) hC dX12_adds_64 rfl rfl rfl ?_
                  refine v_iconst (q := 66) (v := 2) hC dX12_adds_65 rfl (by decide) ?_
                  refine v_callV (q := 69) (rm := rm_X12_fails) hC (c_fl hl Θ _ _ _) k_X12_fails im_yX12_fails se_yX12_fails ml_RX12_76 dX12_adds_66 rfl rfl rfl rfl rfl rfl (Nat.le_of_ble_eq_true rfl) ⟨Nat.le_of_ble_eq_true rfl, Nat.le_of_ble_eq_true rfl⟩ ⟨Nat.le_of_ble_eq_true rfl, Nat.le_of_ble_eq_true rfl⟩ (fR_k ?_) fR_x (Nat.le_of_ble_eq_true rfl) (Nat.le_of_ble_eq_true rfl)
                  try dsimp only [Option.toList, List.cons_append, List.nil_append]
                  refine v_iret hC dX12_adds_69 hr (rfl) ?_ (Nat.le_of_ble_eq_true rfl) (Nat.le_of_ble_eq_true rfl)
                  exact mg_f c_61
            · first
              | exact absurd c_47 (by decide)
              |
                refine v_aload_n (i := 0) (q := 51) hC dX12_adds_50 rfl rfl rfl ?_
                refine v_iconst (q := 52) (v := 1) hC dX12_adds_51 rfl (by decide) ?_
                refine v_callV (q := 55) (rm := rm_X12_fails) hC (c_fl hl Θ _ _ _) k_X12_fails im_yX12_fails se_yX12_fails ml_RX12_76 dX12_adds_52 rfl rfl rfl rfl rfl rfl (Nat.le_of_ble_eq_true rfl) ⟨Nat.le_of_ble_eq_true rfl, Nat.le_of_ble_eq_true rfl⟩ ⟨Nat.le_of_ble_eq_true rfl, Nat.le_of_ble_eq_true rfl⟩ (fR_k ?_) fR_x (Nat.le_of_ble_eq_true rfl) (Nat.le_of_ble_eq_true rfl)
                try dsimp only [Option.toList, List.cons_append, List.nil_append]
                refine v_iret hC dX12_adds_55 hr (rfl) ?_ (Nat.le_of_ble_eq_true rfl) (Nat.le_of_ble_eq_true rfl)
                exact mg_f (by simp_all [mThr, ms_row])
          · refine v_iconst (q := 39) (v := 1) hC dX12_adds_38 rfl (by decide) ?_
            refine v_goto (q := 43) hC dX12_adds_39 (by decide) ?_
            refine v_istore (q := 45) hC dX12_adds_43 rfl (lvc rfl) (Nat.le_of_ble_eq_true rfl) (Nat.le_of_ble_eq_true rfl) rfl ?_
            refine v_iload (q := 47) hC dX12_adds_45 rfl rfl ?_
            refine v_if_ne (q := 56) (q2 := 50) hC dX12_adds_47 (by decide) rfl (fun c_47 => ?_) (fun c_47 => ?_)
            · first
              | exact absurd c_47 (by decide)
              |
                rw [mg_t (by simp_all [mThr, ms_row])]
                obtain ⟨j, hj, rfl⟩ := mHold_nI c_10
                have hcc := hm.2.ct hj
                have hc6 := hm.2.ct6 hj
                rw [nI_clamp (show j < 2 ^ 31 by omega)]
                refine v_iload (q := 58) hC dX12_adds_56 rfl rfl ?_
                refine v_callS (q := 61) (rm := rm_X12_areRights) hC (c_X12_areRights hl Θ _ _) k_X12_areRights st_yX12_areRights ml_RX12_101 dX12_adds_58 rfl  rfl rfl (Nat.le_of_ble_eq_true rfl) ⟨Nat.le_of_ble_eq_true rfl, Nat.le_of_ble_eq_true rfl⟩ ⟨Nat.le_of_ble_eq_true rfl, Nat.le_of_ble_eq_true rfl⟩ (fR_k ?_) fR_x (Nat.le_of_ble_eq_true rfl) (Nat.le_of_ble_eq_true rfl)
                try dsimp only [Option.toList, List.cons_append, List.nil_append]
                refine v_ifb_ne (q := 70) (q2 := 64) hC dX12_adds_61 (by decide) rfl (fun c_61 => ?_) (fun c_61 => ?_)
                · rw [mg_t c_61]
                  refine v_aload_n (i := 0) (q := 71) hC dX12_adds_70 rfl rfl rfl ?_
                  refine v_iload_n (i := 1) (q := 72) hC dX12_adds_71 rfl rfl rfl ?_
                  refine v_iconst (q := 73) (v := 5) hC dX12_adds_72 rfl (by decide) ?_
                  refine v_callV (q := 76) (rm := rm_X12_of) hC (c_X12_of hl Θ _ 5 _ (by unfold oA; omega)) k_X12_of im_yX12_of se_yX12_of ml_RX12_54 dX12_adds_73 rfl rfl rfl rfl rfl rfl (Nat.le_of_ble_eq_true rfl) ⟨Nat.le_of_ble_eq_true rfl, Nat.le_of_ble_eq_true rfl⟩ ⟨Nat.le_of_ble_eq_true rfl, Nat.le_of_ble_eq_true rfl⟩ (fR_k ?_) fR_x (Nat.le_of_ble_eq_true rfl) (Nat.le_of_ble_eq_true rfl)
                  try dsimp only [Option.toList, List.cons_append, List.nil_append]
                  refine v_bipush (q := 78) (v := 6) hC dX12_adds_76 rfl (by decide) ?_
                  refine v_icmp_ne (q := 87) (q2 := 81) hC dX12_adds_78 (by decide) rfl (fun c_78 => ?_) (fun c_78 => ?_)
                  · rw [mg_t (by rw [show decide (G.2.1 0 30 (oA j 5) = 6) = false from decide_eq_false c_78]; rfl)]
                    have hc5 : mCt (G.2.1 0 30) j < 6 := by
                      rcases Nat.lt_or_ge (mCt (G.2.1 0 30) j) 6 with z | z
                      · exact z
                      · exact absurd (show G.2.1 0 30 (oA j 5) = 6 by rw [hcc, show mCt (G.2.1 0 30) j = 6 by omega]; rfl) c_78
                    refine v_aload_n (i := 0) (q := 88) hC dX12_adds_87 rfl rfl rfl ?_
                    refine v_callV (q := 91) (rm := rm_X12_changes) hC (c_mC hl Θ _ hm) k_X12_changes im_yX12_changes se_yX12_changes ml_RX12_79 dX12_adds_88 rfl rfl rfl rfl rfl rfl (Nat.le_of_ble_eq_true rfl) ⟨Nat.le_of_ble_eq_true rfl, Nat.le_of_ble_eq_true rfl⟩ ⟨Nat.le_of_ble_eq_true rfl, Nat.le_of_ble_eq_true rfl⟩ (fR_k ?_) fR_x (Nat.le_of_ble_eq_true rfl) (Nat.le_of_ble_eq_true rfl)
                    try dsimp only [Option.toList, List.cons_append, List.nil_append]
                    refine v_aload_n (i := 0) (q := 92) hC dX12_adds_91 rfl rfl rfl ?_
                    refine g_X12_0 (q := 95) hC dX12_adds_92 rfl rfl fl_RX12_7 ?_
                    refine v_iload_n (i := 1) (q := 96) hC dX12_adds_95 rfl rfl rfl ?_
                    refine v_iconst (q := 97) (v := 5) hC dX12_adds_96 rfl (by decide) ?_
                    refine v_callS (q := 100) (rm := rm_X12_at) hC (c_X12_at hl Θ _ 5 _) k_X12_at st_yX12_at ml_RX12_50 dX12_adds_97 rfl  rfl rfl (Nat.le_of_ble_eq_true rfl) ⟨Nat.le_of_ble_eq_true rfl, Nat.le_of_ble_eq_true rfl⟩ ⟨Nat.le_of_ble_eq_true rfl, Nat.le_of_ble_eq_true rfl⟩ (fR_k ?_) fR_x (Nat.le_of_ble_eq_true rfl) (Nat.le_of_ble_eq_true rfl)
                    try dsimp only [Option.toList, List.cons_append, List.nil_append]
                    refine v_dup2 (q := 101) hC dX12_adds_100 rfl rfl rfl ?_
                    refine v_ialdN (q := 102) hC dX12_adds_101 rfl rfl rfl (i := oA j 5) (rfl) (by first | decide | omega | (unfold oA; omega) | (unfold enA; omega)) (by decide) ?_
                    refine v_iconst (q := 103) (v := 1) hC dX12_adds_102 rfl (by decide) ?_
                    refine v_iadd (q := 104) hC dX12_adds_103 rfl ?_
                    refine v_mup (i := oA j 5) (q := 105) hC dX12_adds_104 rfl rfl (by unfold oA; omega) ?_
                    rw [show mUp (oA j 5) ((mC G).2.1 0 30 (oA j 5) + 1) (mC G) = mWr (upd (G.2.1 0 30) (oA j 5) (nI (mCt (G.2.1 0 30) j + 1))) (mC G) by rw [mUp, mC_w, hcc, nI_1]; rfl]
                    refine v_aload_n (i := 0) (q := 106) hC dX12_adds_105 rfl rfl rfl ?_
                    refine v_iload_n (i := 1) (q := 107) hC dX12_adds_106 rfl rfl rfl ?_
                    refine v_aload_n (i := 0) (q := 108) hC dX12_adds_107 rfl rfl rfl ?_
                    refine v_iload_n (i := 1) (q := 109) hC dX12_adds_108 rfl rfl rfl ?_
                    refine v_iconst (q := 110) (v := 5) hC dX12_adds_109 rfl (by decide) ?_
                    refine v_callV (q := 113) (rm := rm_X12_of) hC (c_X12_of hl Θ _ 5 _ (by unfold oA; omega)) k_X12_of im_yX12_of se_yX12_of ml_RX12_54 dX12_adds_110 rfl rfl rfl rfl rfl rfl (Nat.le_of_ble_eq_true rfl) ⟨Nat.le_of_ble_eq_true rfl, Nat.le_of_ble_eq_true rfl⟩ ⟨Nat.le_of_ble_eq_true rfl, Nat.le_of_ble_eq_true rfl⟩ (fR_k ?_) fR_x (Nat.le_of_ble_eq_true rfl) (Nat.le_of_ble_eq_true rfl)
                    try dsimp only [Option.toList, List.cons_append, List.nil_append]
                    rw [mWr_row, upd, if_pos rfl]
                    refine v_iconst (q := 114) (v := 1) hC dX12_adds_113 rfl (by decide) ?_
                    refine v_isub (q := 115) hC dX12_adds_114 rfl ?_
                    rw [nI_m1 (by omega), Nat.add_sub_cancel]
                    refine v_iload_n (i := 2) (q := 116) hC dX12_adds_115 rfl rfl rfl ?_
                    refine v_iload_n (i := 3) (q := 117) hC dX12_adds_116 rfl rfl rfl ?_
                    refine v_iload (q := 119) hC dX12_adds_117 rfl rfl ?_
                    refine v_iload (q := 121) hC dX12_adds_119 rfl rfl ?_
                    refine v_iload (q := 123) hC dX12_adds_121 rfl rfl ?_
                    refine v_callV (q := 126) (rm := rm_X12_writes) hC (c_X12_writes hl Θ j (mCt (G.2.1 0 30) j) _ _ _ a b _ _ hj hc5) k_X12_writes im_yX12_writes se_yX12_writes ml_RX12_104 dX12_adds_123 rfl rfl rfl rfl rfl rfl (Nat.le_of_ble_eq_true rfl) ⟨Nat.le_of_ble_eq_true rfl, Nat.le_of_ble_eq_true rfl⟩ ⟨Nat.le_of_ble_eq_true rfl, Nat.le_of_ble_eq_true rfl⟩ (fR_k ?_) fR_x (Nat.le_of_ble_eq_true rfl) (Nat.le_of_ble_eq_true rfl)
                    try dsimp only [Option.toList, List.cons_append, List.nil_append]
                    refine v_aload_n (i := 0) (q := 127) hC dX12_adds_126 rfl rfl rfl ?_
                    refine v_iload_n (i := 1) (q := 128) hC dX12_adds_127 rfl rfl rfl ?_
                    refine v_iconst (q := 129) (v := 5) hC dX12_adds_128 rfl (by decide) ?_
                    refine v_callV (q := 132) (rm := rm_X12_of) hC (c_X12_of hl Θ _ 5 _ (by unfold oA; omega)) k_X12_of im_yX12_of se_yX12_of ml_RX12_54 dX12_adds_129 rfl rfl rfl rfl rfl rfl (Nat.le_of_ble_eq_true rfl) ⟨Nat.le_of_ble_eq_true rfl, Nat.le_of_ble_eq_true rfl⟩ ⟨Nat.le_of_ble_eq_true rfl, Nat.le_of_ble_eq_true rfl⟩ (fR_k ?_) fR_x (Nat.le_of_ble_eq_true rfl) (Nat.le_of_ble_eq_true rfl)
                    try dsimp only [Option.toList, List.cons_append, List.nil_append]
                    rw [mWr_row]
                    refine v_iret hC dX12_adds_132 hr (rfl) ?_ (Nat.le_of_ble_eq_true rfl) (Nat.le_of_ble_eq_true rfl)
                    refine ⟨?_, rfl⟩
                    unfold mWrt upd
                    rw [if_neg (by unfold oA enA; omega), if_neg (by unfold oA enA; omega), if_neg (by unfold oA enA; omega), if_neg (by unfold oA enA; omega), if_neg (by unfold oA enA; omega), if_pos rfl]
                  · refine v_aload_n (i := 0) (q := 82) hC dX12_adds_81 rfl rfl rfl ?_
                    refine v_iconst (q := 83) (v := 3) hC dX12_adds_82 rfl (by decide) ?_
                    refine v_callV (q := 86) (rm := rm_X12_fails) hC (c_fl hl Θ _ _ _) k_X12_fails im_yX12_fails se_yX12_fails ml_RX12_76 dX12_adds_83 rfl rfl rfl rfl rfl rfl (Nat.le_of_ble_eq_true rfl) ⟨Nat.le_of_ble_eq_true rfl, Nat.le_of_ble_eq_true rfl⟩ ⟨Nat.le_of_ble_eq_true rfl, Nat.le_of_ble_eq_true rfl⟩ (fR_k ?_) fR_x (Nat.le_of_ble_eq_true rfl) (Nat.le_of_ble_eq_true rfl)
                    try dsimp only [Option.toList, List.cons_append, List.nil_append]
                    refine v_iret hC dX12_adds_86 hr (rfl) ?_ (Nat.le_of_ble_eq_true rfl) (Nat.le_of_ble_eq_true rfl)
                    exact mg_f (by rw [show decide (G.2.1 0 30 (oA j 5) = 6) = true from decide_eq_true c_78]; rfl)
                · refine v_aload_n (i := 0) (q := 65) hC dX12_adds_64 rfl rfl rfl ?_
                  refine v_iconst (q := 66) (v := 2) hC dX12_adds_65 rfl (by decide) ?_
                  refine v_callV (q := 69) (rm := rm_X12_fails) hC (c_fl hl Θ _ _ _) k_X12_fails im_yX12_fails se_yX12_fails ml_RX12_76 dX12_adds_66 rfl rfl rfl rfl rfl rfl (Nat.le_of_ble_eq_true rfl) ⟨Nat.le_of_ble_eq_true rfl, Nat.le_of_ble_eq_true rfl⟩ ⟨Nat.le_of_ble_eq_true rfl, Nat.le_of_ble_eq_true rfl⟩ (fR_k ?_) fR_x (Nat.le_of_ble_eq_true rfl) (Nat.le_of_ble_eq_true rfl)
                  try dsimp only [Option.toList, List.cons_append, List.nil_append]
                  refine v_iret hC dX12_adds_69 hr (rfl) ?_ (Nat.le_of_ble_eq_true rfl) (Nat.le_of_ble_eq_true rfl)
                  exact mg_f c_61
            · first
              | exact absurd c_47 (by decide)
              |
                refine v_aload_n (i := 0) (q := 51) hC dX12_adds_50 rfl rfl rfl ?_
                refine v_iconst (q := 52) (v := 1) hC dX12_adds_51 rfl (by decide) ?_
                refine v_callV (q := 55) (rm := rm_X12_fails) hC (c_fl hl Θ _ _ _) k_X12_fails im_yX12_fails se_yX12_fails ml_RX12_76 dX12_adds_52 rfl rfl rfl rfl rfl rfl (Nat.le_of_ble_eq_true rfl) ⟨Nat.le_of_ble_eq_true rfl, Nat.le_of_ble_eq_true rfl⟩ ⟨Nat.le_of_ble_eq_true rfl, Nat.le_of_ble_eq_true rfl⟩ (fR_k ?_) fR_x (Nat.le_of_ble_eq_true rfl) (Nat.le_of_ble_eq_true rfl)
                try dsimp only [Option.toList, List.cons_append, List.nil_append]
                refine v_iret hC dX12_adds_55 hr (rfl) ?_ (Nat.le_of_ble_eq_true rfl) (Nat.le_of_ble_eq_true rfl)
                exact mg_f (by simp_all [mThr, ms_row])
theorem mAdQ_k {o kind who rg : Int32} {a b : Bool} {G G1 : GS} {v : Option Value} (h : mAdQ o kind who rg a b G (.inl v) G1) : ∃ x : Int32, v = some (.int x) := by
  unfold mAdQ mg at h
  by_cases h1 : mThr (G.2.1 0 30) o kind who = true
  · rw [if_pos h1] at h
    by_cases h2 : mIn rg 1 15 = true
    · rw [if_pos h2] at h
      by_cases h3 : (!decide (G.2.1 0 30 (oA o.toNatClampNeg 5) = 6)) = true
      · rw [if_pos h3] at h
        have h4 := h.1
        cases h4
        exact ⟨_, rfl⟩
      · rw [if_neg h3] at h
        have h4 := h.1
        cases h4
        exact ⟨_, rfl⟩
    · rw [if_neg h2] at h
      have h4 := h.1
      cases h4
      exact ⟨_, rfl⟩
  · rw [if_neg h1] at h
    have h4 := h.1
    cases h4
    exact ⟨_, rfl⟩
set_option maxHeartbeats 4000000 in
set_option maxRecDepth 20000 in
theorem c_X12_addForUser {l : Launch} (hl : l.stackTraces = false) (Θ : cTH) (o w r : Int32) (a b : Bool) (G : GS) (hm : mInv G) : Ct l yX12_addForUser cX12_addForUser 6 (some .int) rm_X12_addForUser Θ [.ref (tR Θ 0 29), .int o, .int w, .int r, .int (b2i a), .int (b2i b)] (G) (mAdQ o 0 w r a b G) := by
  refine ct_of (LS := [some (.ref (tR Θ 0 29)), some (.int o), some (.int w), some (.int r), some (.int (b2i a)), some (.int (b2i b))]) hl (by decide +kernel) rfl (Nat.le_of_ble_eq_true rfl) rfl ?_
  intro p e s m args below meth c hC hr
  refine v_aload_n (i := 0) (q := 1) hC dX12_addForUser_0 rfl rfl rfl ?_
  refine v_iload_n (i := 1) (q := 2) hC dX12_addForUser_1 rfl rfl rfl ?_
  refine v_iconst (q := 3) (v := 0) hC dX12_addForUser_2 rfl (by decide) ?_
  refine v_iload_n (i := 2) (q := 4) hC dX12_addForUser_3 rfl rfl rfl ?_
  refine v_iload_n (i := 3) (q := 5) hC dX12_addForUser_4 rfl rfl rfl ?_
  refine v_iload (q := 7) hC dX12_addForUser_5 rfl rfl ?_
  refine v_iload (q := 9) hC dX12_addForUser_7 rfl rfl ?_
  refine v_callV (q := 12) (rm := rm_X12_adds) hC (c_X12_adds hl Θ _ 0 _ _ a b _ hm) k_X12_adds im_yX12_adds se_yX12_adds ml_RX12_108 dX12_addForUser_9 rfl rfl rfl rfl rfl rfl (Nat.le_of_ble_eq_true rfl) ⟨Nat.le_of_ble_eq_true rfl, Nat.le_of_ble_eq_true rfl⟩ ⟨Nat.le_of_ble_eq_true rfl, Nat.le_of_ble_eq_true rfl⟩ (fun r9 G9 z9 => ?_) (fun _ _ z => z) (Nat.le_of_ble_eq_true rfl) (Nat.le_of_ble_eq_true rfl)
  try dsimp only [Option.toList, List.cons_append, List.nil_append]
  obtain ⟨x9, rfl⟩ := mAdQ_k z9
  dsimp only [Option.toList, List.cons_append, List.nil_append]
  refine v_iret hC dX12_addForUser_12 hr (rfl) ?_ (Nat.le_of_ble_eq_true rfl) (Nat.le_of_ble_eq_true rfl)
  exact z9
set_option maxHeartbeats 4000000 in
set_option maxRecDepth 20000 in
theorem c_X12_addForGroup {l : Launch} (hl : l.stackTraces = false) (Θ : cTH) (o w r : Int32) (a b : Bool) (G : GS) (hm : mInv G) : Ct l yX12_addForGroup cX12_addForGroup 6 (some .int) rm_X12_addForGroup Θ [.ref (tR Θ 0 29), .int o, .int w, .int r, .int (b2i a), .int (b2i b)] (G) (mAdQ o 1 w r a b G) := by
  refine ct_of (LS := [some (.ref (tR Θ 0 29)), some (.int o), some (.int w), some (.int r), some (.int (b2i a)), some (.int (b2i b))]) hl (by decide +kernel) rfl (Nat.le_of_ble_eq_true rfl) rfl ?_
  intro p e s m args below meth c hC hr
  refine v_aload_n (i := 0) (q := 1) hC dX12_addForGroup_0 rfl rfl rfl ?_
  refine v_iload_n (i := 1) (q := 2) hC dX12_addForGroup_1 rfl rfl rfl ?_
  refine v_iconst (q := 3) (v := 1) hC dX12_addForGroup_2 rfl (by decide) ?_
  refine v_iload_n (i := 2) (q := 4) hC dX12_addForGroup_3 rfl rfl rfl ?_
  refine v_iload_n (i := 3) (q := 5) hC dX12_addForGroup_4 rfl rfl rfl ?_
  refine v_iload (q := 7) hC dX12_addForGroup_5 rfl rfl ?_
  refine v_iload (q := 9) hC dX12_addForGroup_7 rfl rfl ?_
  refine v_callV (q := 12) (rm := rm_X12_adds) hC (c_X12_adds hl Θ _ 1 _ _ a b _ hm) k_X12_adds im_yX12_adds se_yX12_adds ml_RX12_108 dX12_addForGroup_9 rfl rfl rfl rfl rfl rfl (Nat.le_of_ble_eq_true rfl) ⟨Nat.le_of_ble_eq_true rfl, Nat.le_of_ble_eq_true rfl⟩ ⟨Nat.le_of_ble_eq_true rfl, Nat.le_of_ble_eq_true rfl⟩ (fun r9 G9 z9 => ?_) (fun _ _ z => z) (Nat.le_of_ble_eq_true rfl) (Nat.le_of_ble_eq_true rfl)
  try dsimp only [Option.toList, List.cons_append, List.nil_append]
  obtain ⟨x9, rfl⟩ := mAdQ_k z9
  dsimp only [Option.toList, List.cons_append, List.nil_append]
  refine v_iret hC dX12_addForGroup_12 hr (rfl) ?_ (Nat.le_of_ble_eq_true rfl) (Nat.le_of_ble_eq_true rfl)
  exact z9
set_option maxHeartbeats 4000000 in
set_option maxRecDepth 20000 in
theorem c_X12_addForOwner {l : Launch} (hl : l.stackTraces = false) (Θ : cTH) (o r : Int32) (a b : Bool) (G : GS) (hm : mInv G) : Ct l yX12_addForOwner cX12_addForOwner 5 (some .int) rm_X12_addForOwner Θ [.ref (tR Θ 0 29), .int o, .int r, .int (b2i a), .int (b2i b)] (G) (mAdQ o 2 0 r a b G) := by
  refine ct_of (LS := [some (.ref (tR Θ 0 29)), some (.int o), some (.int r), some (.int (b2i a)), some (.int (b2i b))]) hl (by decide +kernel) rfl (Nat.le_of_ble_eq_true rfl) rfl ?_
  intro p e s m args below meth c hC hr
  refine v_aload_n (i := 0) (q := 1) hC dX12_addForOwner_0 rfl rfl rfl ?_
  refine v_iload_n (i := 1) (q := 2) hC dX12_addForOwner_1 rfl rfl rfl ?_
  refine v_iconst (q := 3) (v := 2) hC dX12_addForOwner_2 rfl (by decide) ?_
  refine v_iconst (q := 4) (v := 0) hC dX12_addForOwner_3 rfl (by decide) ?_
  refine v_iload_n (i := 2) (q := 5) hC dX12_addForOwner_4 rfl rfl rfl ?_
  refine v_iload_n (i := 3) (q := 6) hC dX12_addForOwner_5 rfl rfl rfl ?_
  refine v_iload (q := 8) hC dX12_addForOwner_6 rfl rfl ?_
  refine v_callV (q := 11) (rm := rm_X12_adds) hC (c_X12_adds hl Θ _ 2 0 _ a b _ hm) k_X12_adds im_yX12_adds se_yX12_adds ml_RX12_108 dX12_addForOwner_8 rfl rfl rfl rfl rfl rfl (Nat.le_of_ble_eq_true rfl) ⟨Nat.le_of_ble_eq_true rfl, Nat.le_of_ble_eq_true rfl⟩ ⟨Nat.le_of_ble_eq_true rfl, Nat.le_of_ble_eq_true rfl⟩ (fun r9 G9 z9 => ?_) (fun _ _ z => z) (Nat.le_of_ble_eq_true rfl) (Nat.le_of_ble_eq_true rfl)
  try dsimp only [Option.toList, List.cons_append, List.nil_append]
  obtain ⟨x9, rfl⟩ := mAdQ_k z9
  dsimp only [Option.toList, List.cons_append, List.nil_append]
  refine v_iret hC dX12_addForOwner_11 hr (rfl) ?_ (Nat.le_of_ble_eq_true rfl) (Nat.le_of_ble_eq_true rfl)
  exact z9
set_option maxHeartbeats 4000000 in
set_option maxRecDepth 20000 in
theorem c_X12_addForAll {l : Launch} (hl : l.stackTraces = false) (Θ : cTH) (o r : Int32) (a b : Bool) (G : GS) (hm : mInv G) : Ct l yX12_addForAll cX12_addForAll 5 (some .int) rm_X12_addForAll Θ [.ref (tR Θ 0 29), .int o, .int r, .int (b2i a), .int (b2i b)] (G) (mAdQ o 3 0 r a b G) := by
  refine ct_of (LS := [some (.ref (tR Θ 0 29)), some (.int o), some (.int r), some (.int (b2i a)), some (.int (b2i b))]) hl (by decide +kernel) rfl (Nat.le_of_ble_eq_true rfl) rfl ?_
  intro p e s m args below meth c hC hr
  refine v_aload_n (i := 0) (q := 1) hC dX12_addForAll_0 rfl rfl rfl ?_
  refine v_iload_n (i := 1) (q := 2) hC dX12_addForAll_1 rfl rfl rfl ?_
  refine v_iconst (q := 3) (v := 3) hC dX12_addForAll_2 rfl (by decide) ?_
  refine v_iconst (q := 4) (v := 0) hC dX12_addForAll_3 rfl (by decide) ?_
  refine v_iload_n (i := 2) (q := 5) hC dX12_addForAll_4 rfl rfl rfl ?_
  refine v_iload_n (i := 3) (q := 6) hC dX12_addForAll_5 rfl rfl rfl ?_
  refine v_iload (q := 8) hC dX12_addForAll_6 rfl rfl ?_
  refine v_callV (q := 11) (rm := rm_X12_adds) hC (c_X12_adds hl Θ _ 3 0 _ a b _ hm) k_X12_adds im_yX12_adds se_yX12_adds ml_RX12_108 dX12_addForAll_8 rfl rfl rfl rfl rfl rfl (Nat.le_of_ble_eq_true rfl) ⟨Nat.le_of_ble_eq_true rfl, Nat.le_of_ble_eq_true rfl⟩ ⟨Nat.le_of_ble_eq_true rfl, Nat.le_of_ble_eq_true rfl⟩ (fun r9 G9 z9 => ?_) (fun _ _ z => z) (Nat.le_of_ble_eq_true rfl) (Nat.le_of_ble_eq_true rfl)
  try dsimp only [Option.toList, List.cons_append, List.nil_append]
  obtain ⟨x9, rfl⟩ := mAdQ_k z9
  dsimp only [Option.toList, List.cons_append, List.nil_append]
  refine v_iret hC dX12_addForAll_11 hr (rfl) ?_ (Nat.le_of_ble_eq_true rfl) (Nat.le_of_ble_eq_true rfl)
  exact z9
theorem mEnt_nI {w : Nat → Int32} {o i : Int32} (hw : mOk w) (h : mEnt w o i = true) : ∃ j k : Nat, j < 20 ∧ k < mCt w j ∧ o = nI j ∧ i = nI k := by
  obtain ⟨h1, h2⟩ := Bool.and_eq_true_iff.mp h
  obtain ⟨j, hj, rfl⟩ := mHold_nI h1
  rw [nI_clamp (by omega)] at h2
  obtain ⟨k, hk, e⟩ := mIn_lt h2 (hw.ct hj) (by have := hw.ct6 hj; omega)
  exact ⟨j, k, hj, hk, rfl, e⟩
set_option maxHeartbeats 4000000 in
set_option maxRecDepth 20000 in
theorem c_X12_removeEntry {l : Launch} (hl : l.stackTraces = false) (Θ : cTH) (o i : Int32) (G : GS) (hm : mInv G) : Ct l yX12_removeEntry cX12_removeEntry 3 (some .int) rm_X12_removeEntry Θ [.ref (tR Θ 0 29), .int o, .int i] (G) (mg (mEnt (G.2.1 0 30) o i) 1 (fR (some (.int (nI (mCt (G.2.1 0 30) o.toNatClampNeg - 1)))) (mWr (mTo (G.2.1 0 30) o.toNatClampNeg i.toNatClampNeg (mCt (G.2.1 0 30) o.toNatClampNeg)) (mC G))) G) := by
  refine ct_of (LS := [some (.ref (tR Θ 0 29)), some (.int o), some (.int i)]) hl (by decide +kernel) rfl (Nat.le_of_ble_eq_true rfl) rfl ?_
  intro p e s m args below meth c hC hr
  refine v_aload_n (i := 0) (q := 1) hC dX12_removeEntry_0 rfl rfl rfl ?_
  refine v_iconst (q := 2) (v := 0) hC dX12_removeEntry_1 rfl (by decide) ?_
  refine pm_last (q := 5) hC dX12_removeEntry_2 rfl rfl fl_RX12_39 ?_
  refine v_aload_n (i := 0) (q := 6) hC dX12_removeEntry_5 rfl rfl rfl ?_
  refine v_iload_n (i := 1) (q := 7) hC dX12_removeEntry_6 rfl rfl rfl ?_
  refine v_iload_n (i := 2) (q := 8) hC dX12_removeEntry_7 rfl rfl rfl ?_
  refine v_callV (q := 11) (rm := rm_X12_isEntry) hC (c_X12_isEntry hl Θ _ _ _) k_X12_isEntry im_yX12_isEntry se_yX12_isEntry ml_RX12_112 dX12_removeEntry_8 rfl rfl rfl rfl rfl rfl (Nat.le_of_ble_eq_true rfl) ⟨Nat.le_of_ble_eq_true rfl, Nat.le_of_ble_eq_true rfl⟩ ⟨Nat.le_of_ble_eq_true rfl, Nat.le_of_ble_eq_true rfl⟩ (fR_k ?_) fR_x (Nat.le_of_ble_eq_true rfl) (Nat.le_of_ble_eq_true rfl)
  try dsimp only [Option.toList, List.cons_append, List.nil_append]
  refine v_ifb_ne (q := 20) (q2 := 14) hC dX12_removeEntry_11 (by decide) rfl (fun c_11 => ?_) (fun c_11 => ?_)
  · rw [mg_t (show mEnt (G.2.1 0 30) o i = true from c_11)]
    obtain ⟨j, k, hj, hk, rfl, rfl⟩ := mEnt_nI hm.2 c_11
    have hc6 := hm.2.ct6 hj
    rw [nI_clamp (show j < 2 ^ 31 by omega), nI_clamp (show k < 2 ^ 31 by omega)]
    refine v_aload_n (i := 0) (q := 21) hC dX12_removeEntry_20 rfl rfl rfl ?_
    refine v_callV (q := 24) (rm := rm_X12_changes) hC (c_mC hl Θ _ hm) k_X12_changes im_yX12_changes se_yX12_changes ml_RX12_79 dX12_removeEntry_21 rfl rfl rfl rfl rfl rfl (Nat.le_of_ble_eq_true rfl) ⟨Nat.le_of_ble_eq_true rfl, Nat.le_of_ble_eq_true rfl⟩ ⟨Nat.le_of_ble_eq_true rfl, Nat.le_of_ble_eq_true rfl⟩ (fR_k ?_) fR_x (Nat.le_of_ble_eq_true rfl) (Nat.le_of_ble_eq_true rfl)
    try dsimp only [Option.toList, List.cons_append, List.nil_append]
    refine v_aload_n (i := 0) (q := 25) hC dX12_removeEntry_24 rfl rfl rfl ?_
    refine v_iload_n (i := 1) (q := 26) hC dX12_removeEntry_25 rfl rfl rfl ?_
    refine v_iload_n (i := 2) (q := 27) hC dX12_removeEntry_26 rfl rfl rfl ?_
    refine v_callV (q := 30) (rm := rm_X12_takesOut) hC (c_X12_takesOut hl Θ j k (mCt (G.2.1 0 30) j) _ hj (by rw [mC_w]; exact hm.2.ct hj) (by omega) hc6 hk) k_X12_takesOut im_yX12_takesOut se_yX12_takesOut ml_RX12_115 dX12_removeEntry_27 rfl rfl rfl rfl rfl rfl (Nat.le_of_ble_eq_true rfl) ⟨Nat.le_of_ble_eq_true rfl, Nat.le_of_ble_eq_true rfl⟩ ⟨Nat.le_of_ble_eq_true rfl, Nat.le_of_ble_eq_true rfl⟩ (fR_k ?_) fR_x (Nat.le_of_ble_eq_true rfl) (Nat.le_of_ble_eq_true rfl)
    try dsimp only [Option.toList, List.cons_append, List.nil_append]
    rw [mC_w]
    refine v_aload_n (i := 0) (q := 31) hC dX12_removeEntry_30 rfl rfl rfl ?_
    refine v_iload_n (i := 1) (q := 32) hC dX12_removeEntry_31 rfl rfl rfl ?_
    refine v_iconst (q := 33) (v := 5) hC dX12_removeEntry_32 rfl (by decide) ?_
    refine v_callV (q := 36) (rm := rm_X12_of) hC (c_X12_of hl Θ _ 5 _ (by unfold oA; omega)) k_X12_of im_yX12_of se_yX12_of ml_RX12_54 dX12_removeEntry_33 rfl rfl rfl rfl rfl rfl (Nat.le_of_ble_eq_true rfl) ⟨Nat.le_of_ble_eq_true rfl, Nat.le_of_ble_eq_true rfl⟩ ⟨Nat.le_of_ble_eq_true rfl, Nat.le_of_ble_eq_true rfl⟩ (fR_k ?_) fR_x (Nat.le_of_ble_eq_true rfl) (Nat.le_of_ble_eq_true rfl)
    try dsimp only [Option.toList, List.cons_append, List.nil_append]
    rw [mWr_row]
    refine v_iret hC dX12_removeEntry_36 hr (rfl) ?_ (Nat.le_of_ble_eq_true rfl) (Nat.le_of_ble_eq_true rfl)
    refine ⟨?_, rfl⟩
    rw [mTo, mTk, if_neg (by unfold oA enA; omega), upd, if_pos rfl]
  · refine v_aload_n (i := 0) (q := 15) hC dX12_removeEntry_14 rfl rfl rfl ?_
    refine v_iconst (q := 16) (v := 1) hC dX12_removeEntry_15 rfl (by decide) ?_
    refine v_callV (q := 19) (rm := rm_X12_fails) hC (c_fl hl Θ _ _ _) k_X12_fails im_yX12_fails se_yX12_fails ml_RX12_76 dX12_removeEntry_16 rfl rfl rfl rfl rfl rfl (Nat.le_of_ble_eq_true rfl) ⟨Nat.le_of_ble_eq_true rfl, Nat.le_of_ble_eq_true rfl⟩ ⟨Nat.le_of_ble_eq_true rfl, Nat.le_of_ble_eq_true rfl⟩ (fR_k ?_) fR_x (Nat.le_of_ble_eq_true rfl) (Nat.le_of_ble_eq_true rfl)
    try dsimp only [Option.toList, List.cons_append, List.nil_append]
    refine v_iret hC dX12_removeEntry_19 hr (rfl) ?_ (Nat.le_of_ble_eq_true rfl) (Nat.le_of_ble_eq_true rfl)
    exact mg_f c_11
def mOneK (w old : Nat → Int32) (o i n : Nat) : Nat → Int32 := fun k => if k < n then w (enA o i k) else old k
theorem mOneK_0 (w old : Nat → Int32) (o i : Nat) : mOneK w old o i 0 = old := by
  funext k
  rw [mOneK, if_neg (by omega)]
theorem mOneK_step (w old : Nat → Int32) (o i n : Nat) : upd (mOneK w old o i n) n (w (enA o i n)) = mOneK w old o i (n + 1) := by
  funext k
  unfold upd mOneK
  by_cases h1 : k = n
  · subst h1
    rw [if_pos rfl, if_pos (by omega)]
  · rw [if_neg h1]
    by_cases h2 : k < n
    · rw [if_pos h2, if_pos (by omega)]
    · rw [if_neg h2, if_neg (by omega)]
def mKp (o i : Nat) (G : GS) : GS := putA G 0 36 (mOneK (G.2.1 0 30) (G.2.1 0 36) o i 5)
set_option maxHeartbeats 4000000 in
set_option maxRecDepth 20000 in
theorem c_X12_keepsOne {l : Launch} (hl : l.stackTraces = false) (Θ : cTH) (o i : Nat) (G : GS) (ho : o < 20) (hi : i < 6) : Ct l yX12_keepsOne cX12_keepsOne 4 none rm_X12_keepsOne Θ [.ref (tR Θ 0 29), .int (nI o), .int (nI i)] (G) (fR none (mKp o i G)) := by
  refine ct_of (LS := [some (.ref (tR Θ 0 29)), some (.int (nI o)), some (.int (nI i)), none]) hl (by decide +kernel) rfl (Nat.le_of_ble_eq_true rfl) rfl ?_
  intro p e s m args below meth c hC hr
  have L : ∀ (n j : Nat), n + j = 5 → V p l e rm_X12_keepsOne s m args below meth c 4 Θ (fR none (mKp o i G)) 0 0 0 0 2 [some (.ref (tR Θ 0 29)), some (.int (nI o)), some (.int (nI i)), some (.int (nI j))] [] (putA G 0 36 (mOneK (G.2.1 0 30) (G.2.1 0 36) o i j)) := by
    intro n
    induction n with
    | zero =>
      intro j h1
      refine v_iload_n (i := 3) (q := 3) hC dX12_keepsOne_2 rfl rfl rfl ?_
      refine v_iconst (q := 4) (v := 5) hC dX12_keepsOne_3 rfl (by decide) ?_
      refine v_icmp_ge (q := 26) (q2 := 7) hC dX12_keepsOne_4 (by decide) rfl (fun c_4 => ?_) (fun c_4 => ?_)
      · refine v_vret hC dX12_keepsOne_26 hr ?_ (Nat.le_of_ble_eq_true rfl) (Nat.le_of_ble_eq_true rfl)
        exact ⟨rfl, by rw [show j = 5 by omega]; rfl⟩
      · exact absurd (by rw [show j = 5 by omega]; decide) c_4
    | succ n ih =>
      intro j h1
      refine v_iload_n (i := 3) (q := 3) hC dX12_keepsOne_2 rfl rfl rfl ?_
      refine v_iconst (q := 4) (v := 5) hC dX12_keepsOne_3 rfl (by decide) ?_
      refine v_icmp_ge (q := 26) (q2 := 7) hC dX12_keepsOne_4 (by decide) rfl (fun c_4 => ?_) (fun c_4 => ?_)
      · exact absurd c_4 (by rw [show (5 : Int32) = nI 5 from rfl]; exact nI_ge (by omega) (by omega))
      · refine v_aload_n (i := 0) (q := 8) hC dX12_keepsOne_7 rfl rfl rfl ?_
        refine g_X12_9 (q := 11) hC dX12_keepsOne_8 rfl rfl fl_RX12_29 ?_
        refine v_iload_n (i := 3) (q := 12) hC dX12_keepsOne_11 rfl rfl rfl ?_
        refine v_aload_n (i := 0) (q := 13) hC dX12_keepsOne_12 rfl rfl rfl ?_
        refine v_iload_n (i := 1) (q := 14) hC dX12_keepsOne_13 rfl rfl rfl ?_
        refine v_iload_n (i := 2) (q := 15) hC dX12_keepsOne_14 rfl rfl rfl ?_
        refine v_iload_n (i := 3) (q := 16) hC dX12_keepsOne_15 rfl rfl rfl ?_
        refine v_callV (q := 19) (rm := rm_X12_ofEntry) hC (c_X12_ofEntry hl Θ o i j _ (by unfold enA; omega)) k_X12_ofEntry im_yX12_ofEntry se_yX12_ofEntry ml_RX12_122 dX12_keepsOne_16 rfl rfl rfl rfl rfl rfl (Nat.le_of_ble_eq_true rfl) ⟨Nat.le_of_ble_eq_true rfl, Nat.le_of_ble_eq_true rfl⟩ ⟨Nat.le_of_ble_eq_true rfl, Nat.le_of_ble_eq_true rfl⟩ (fR_k ?_) fR_x (Nat.le_of_ble_eq_true rfl) (Nat.le_of_ble_eq_true rfl)
        try dsimp only [Option.toList, List.cons_append, List.nil_append]
        refine v_iastN (q := 20) hC dX12_keepsOne_19 rfl rfl (fun _ => rfl) (i := j) (rfl) (by omega) (by decide) ?_
        refine v_iinc (q := 23) (v := nI (j + 1)) hC dX12_keepsOne_20 rfl rfl (nI_1 j) (lvc rfl) (Nat.le_of_ble_eq_true rfl) (Nat.le_of_ble_eq_true rfl) rfl ?_
        refine v_goto (q := 2) hC dX12_keepsOne_23 (by decide) ?_
        rw [putA_putA, putA_same, show (putA G 0 36 (mOneK (G.2.1 0 30) (G.2.1 0 36) o i j)).2.1 0 30 = G.2.1 0 30 from rfl, mOneK_step]
        exact ih (j + 1) (by omega)
  refine v_iconst (q := 1) (v := 0) hC dX12_keepsOne_0 rfl (by decide) ?_
  refine v_istore_n (i := 3) (q := 2) hC dX12_keepsOne_1 rfl rfl (lvc rfl) (Nat.le_of_ble_eq_true rfl) (Nat.le_of_ble_eq_true rfl) rfl ?_
  have h := L 5 0 rfl
  rw [mOneK_0, putA_self] at h
  exact h
def mPu (w one : Nat → Int32) (o i n : Nat) : Nat → Int32 := fun k => if enA o i 0 ≤ k ∧ k < enA o i 0 + n then one (k - enA o i 0) else w k
theorem mPu_0 (w one : Nat → Int32) (o i : Nat) : mPu w one o i 0 = w := by
  funext k
  rw [mPu, if_neg (by omega)]
theorem mPu_step (w one : Nat → Int32) (o i n : Nat) : upd (mPu w one o i n) (enA o i n) (one n) = mPu w one o i (n + 1) := by
  funext k
  unfold upd mPu
  by_cases h1 : k = enA o i n
  · subst h1
    rw [if_pos rfl, if_pos (by unfold enA; omega)]
    congr 1
    unfold enA
    omega
  · rw [if_neg h1]
    by_cases h2 : enA o i 0 ≤ k ∧ k < enA o i 0 + n
    · rw [if_pos h2, if_pos (by omega)]
    · rw [if_neg h2, if_neg (by unfold enA at *; omega)]
set_option maxHeartbeats 4000000 in
set_option maxRecDepth 20000 in
theorem c_X12_putsOne {l : Launch} (hl : l.stackTraces = false) (Θ : cTH) (o i c0 : Nat) (G : GS) (ho : o < 20) (hc : G.2.1 0 30 (oA o 5) = nI c0) (h5 : c0 ≤ 5) (hi : i ≤ c0) : Ct l yX12_putsOne cX12_putsOne 4 none rm_X12_putsOne Θ [.ref (tR Θ 0 29), .int (nI o), .int (nI i)] (G) (fR none (mWr (mPu (mOpn (G.2.1 0 30) o i c0) (G.2.1 0 36) o i 5) G)) := by
  refine ct_of (LS := [some (.ref (tR Θ 0 29)), some (.int (nI o)), some (.int (nI i)), none]) hl (by decide +kernel) rfl (Nat.le_of_ble_eq_true rfl) rfl ?_
  intro p e s m args below meth c hC hr
  have L : ∀ (n j : Nat), n + j = 5 → V p l e rm_X12_putsOne s m args below meth c 4 Θ (fR none (mWr (mPu (mOpn (G.2.1 0 30) o i c0) (G.2.1 0 36) o i 5) G)) 0 0 0 0 8 [some (.ref (tR Θ 0 29)), some (.int (nI o)), some (.int (nI i)), some (.int (nI j))] [] (mWr (mPu (mOpn (G.2.1 0 30) o i c0) (G.2.1 0 36) o i j) G) := by
    intro n
    induction n with
    | zero =>
      intro j h1
      refine v_iload_n (i := 3) (q := 9) hC dX12_putsOne_8 rfl rfl rfl ?_
      refine v_iconst (q := 10) (v := 5) hC dX12_putsOne_9 rfl (by decide) ?_
      refine v_icmp_ge (q := 36) (q2 := 13) hC dX12_putsOne_10 (by decide) rfl (fun c_10 => ?_) (fun c_10 => ?_)
      · refine v_vret hC dX12_putsOne_36 hr ?_ (Nat.le_of_ble_eq_true rfl) (Nat.le_of_ble_eq_true rfl)
        exact ⟨rfl, by rw [show j = 5 by omega]⟩
      · exact absurd (by rw [show j = 5 by omega]; decide) c_10
    | succ n ih =>
      intro j h1
      refine v_iload_n (i := 3) (q := 9) hC dX12_putsOne_8 rfl rfl rfl ?_
      refine v_iconst (q := 10) (v := 5) hC dX12_putsOne_9 rfl (by decide) ?_
      refine v_icmp_ge (q := 36) (q2 := 13) hC dX12_putsOne_10 (by decide) rfl (fun c_10 => ?_) (fun c_10 => ?_)
      · exact absurd c_10 (by rw [show (5 : Int32) = nI 5 from rfl]; exact nI_ge (by omega) (by omega))
      · refine v_aload_n (i := 0) (q := 14) hC dX12_putsOne_13 rfl rfl rfl ?_
        refine g_X12_0 (q := 17) hC dX12_putsOne_14 rfl rfl fl_RX12_7 ?_
        refine v_iload_n (i := 1) (q := 18) hC dX12_putsOne_17 rfl rfl rfl ?_
        refine v_iload_n (i := 2) (q := 19) hC dX12_putsOne_18 rfl rfl rfl ?_
        refine v_iload_n (i := 3) (q := 20) hC dX12_putsOne_19 rfl rfl rfl ?_
        refine v_callS (q := 23) (rm := rm_X12_entryAt) hC (c_X12_entryAt hl Θ o i j _) k_X12_entryAt st_yX12_entryAt ml_RX12_61 dX12_putsOne_20 rfl  rfl rfl (Nat.le_of_ble_eq_true rfl) ⟨Nat.le_of_ble_eq_true rfl, Nat.le_of_ble_eq_true rfl⟩ ⟨Nat.le_of_ble_eq_true rfl, Nat.le_of_ble_eq_true rfl⟩ (fR_k ?_) fR_x (Nat.le_of_ble_eq_true rfl) (Nat.le_of_ble_eq_true rfl)
        try dsimp only [Option.toList, List.cons_append, List.nil_append]
        refine v_aload_n (i := 0) (q := 24) hC dX12_putsOne_23 rfl rfl rfl ?_
        refine g_X12_9 (q := 27) hC dX12_putsOne_24 rfl rfl fl_RX12_29 ?_
        refine v_iload_n (i := 3) (q := 28) hC dX12_putsOne_27 rfl rfl rfl ?_
        refine v_ialdN (q := 29) hC dX12_putsOne_28 rfl rfl rfl (i := j) (rfl) (by omega) (by decide) ?_
        refine v_mwr (i := enA o i j) (q := 30) hC dX12_putsOne_29 rfl rfl (by unfold enA; omega) ?_
        refine v_iinc (q := 33) (v := nI (j + 1)) hC dX12_putsOne_30 rfl rfl (nI_1 j) (lvc rfl) (Nat.le_of_ble_eq_true rfl) (Nat.le_of_ble_eq_true rfl) rfl ?_
        refine v_goto (q := 8) hC dX12_putsOne_33 (by decide) ?_
        rw [show (mWr (mPu (mOpn (G.2.1 0 30) o i c0) (G.2.1 0 36) o i j) G).2.1 0 36 j = G.2.1 0 36 j from rfl, mPu_step]
        exact ih (j + 1) (by omega)
  refine v_aload_n (i := 0) (q := 1) hC dX12_putsOne_0 rfl rfl rfl ?_
  refine v_iload_n (i := 1) (q := 2) hC dX12_putsOne_1 rfl rfl rfl ?_
  refine v_iload_n (i := 2) (q := 3) hC dX12_putsOne_2 rfl rfl rfl ?_
  refine v_callV (q := 6) (rm := rm_X12_opens) hC (c_X12_opens hl Θ o i c0 _ ho hc h5 hi) k_X12_opens im_yX12_opens se_yX12_opens ml_RX12_125 dX12_putsOne_3 rfl rfl rfl rfl rfl rfl (Nat.le_of_ble_eq_true rfl) ⟨Nat.le_of_ble_eq_true rfl, Nat.le_of_ble_eq_true rfl⟩ ⟨Nat.le_of_ble_eq_true rfl, Nat.le_of_ble_eq_true rfl⟩ (fR_k ?_) fR_x (Nat.le_of_ble_eq_true rfl) (Nat.le_of_ble_eq_true rfl)
  try dsimp only [Option.toList, List.cons_append, List.nil_append]
  refine v_iconst (q := 7) (v := 0) hC dX12_putsOne_6 rfl (by decide) ?_
  refine v_istore_n (i := 3) (q := 8) hC dX12_putsOne_7 rfl rfl (lvc rfl) (Nat.le_of_ble_eq_true rfl) (Nat.le_of_ble_eq_true rfl) rfl ?_
  have h := L 5 0 rfl
  rw [mPu_0] at h
  exact h
/-- for whom an entry is -/
def mFor (w : Nat → Int32) (u : Int32) (o li i : Nat) : Bool := if w (enA li i 0) = 0 then decide (w (enA li i 1) = u) else if w (enA li i 0) = 1 then mIsOf w (mGs w) u (w (enA li i 1)).toNatClampNeg else if w (enA li i 0) = 2 then decide (w (oA o 2) = u) else true
set_option maxHeartbeats 4000000 in
set_option maxRecDepth 20000 in
theorem c_X12_isFor {l : Launch} (hl : l.stackTraces = false) (Θ : cTH) (u : Int32) (o li i : Nat) (G : GS) (hm : mOk (G.2.1 0 30)) (ho : o < 20) (hli : li < 20) (hi : i < 6) : Ct l yX12_isFor cX12_isFor 6 (some .boolean) rm_X12_isFor Θ [.ref (tR Θ 0 29), .int u, .int (nI o), .int (nI li), .int (nI i)] (G) (fR (some (.int (b2i (mFor (G.2.1 0 30) u o li i)))) G) := by
  refine ct_of (LS := [some (.ref (tR Θ 0 29)), some (.int u), some (.int (nI o)), some (.int (nI li)), some (.int (nI i)), none]) hl (by decide +kernel) rfl (Nat.le_of_ble_eq_true rfl) rfl ?_
  intro p e s m args below meth c hC hr
  have L : ∀ g : Nat, g < 8 → G.2.1 0 30 (enA li i 1) = nI g → G.2.1 0 30 (enA li i 0) = 1 → V p l e rm_X12_isFor s m args below meth c 6 Θ (fR (some (.int (b2i (mFor (G.2.1 0 30) u o li i)))) G) 0 0 0 0 56 [some (.ref (tR Θ 0 29)), some (.int u), some (.int (nI o)), some (.int (nI li)), some (.int (nI i)), some (.int (nI g))] [] (G) := by
    intro g hg eg e1
    refine v_aload_n (i := 0) (q := 57) hC dX12_isFor_56 rfl rfl rfl ?_
    refine v_iload_n (i := 1) (q := 58) hC dX12_isFor_57 rfl rfl rfl ?_
    refine v_iload (q := 60) hC dX12_isFor_58 rfl rfl ?_
    refine v_callV (q := 63) (rm := rm_X12_isOf) hC (c_X12_isOf hl Θ u g (mGs (G.2.1 0 30)) _ hg hm.gs hm.gs8) k_X12_isOf im_yX12_isOf se_yX12_isOf ml_RX12_73 dX12_isFor_60 rfl rfl rfl rfl rfl rfl (Nat.le_of_ble_eq_true rfl) ⟨Nat.le_of_ble_eq_true rfl, Nat.le_of_ble_eq_true rfl⟩ ⟨Nat.le_of_ble_eq_true rfl, Nat.le_of_ble_eq_true rfl⟩ (fR_k ?_) fR_x (Nat.le_of_ble_eq_true rfl) (Nat.le_of_ble_eq_true rfl)
    try dsimp only [Option.toList, List.cons_append, List.nil_append]
    refine v_iret hC dX12_isFor_63 hr (by first | rfl | exact nar_b) ?_ (Nat.le_of_ble_eq_true rfl) (Nat.le_of_ble_eq_true rfl)
    refine ⟨?_, rfl⟩
    rw [mFor, if_neg (by rw [e1]; decide), if_pos e1, eg, nI_clamp (by omega)]
  refine v_aload_n (i := 0) (q := 1) hC dX12_isFor_0 rfl rfl rfl ?_
  refine v_iload_n (i := 3) (q := 2) hC dX12_isFor_1 rfl rfl rfl ?_
  refine v_iload (q := 4) hC dX12_isFor_2 rfl rfl ?_
  refine v_iconst (q := 5) (v := 1) hC dX12_isFor_4 rfl (by decide) ?_
  refine v_callV (q := 8) (rm := rm_X12_ofEntry) hC (c_X12_ofEntry hl Θ _ _ 1 _ (by unfold enA; omega)) k_X12_ofEntry im_yX12_ofEntry se_yX12_ofEntry ml_RX12_122 dX12_isFor_5 rfl rfl rfl rfl rfl rfl (Nat.le_of_ble_eq_true rfl) ⟨Nat.le_of_ble_eq_true rfl, Nat.le_of_ble_eq_true rfl⟩ ⟨Nat.le_of_ble_eq_true rfl, Nat.le_of_ble_eq_true rfl⟩ (fR_k ?_) fR_x (Nat.le_of_ble_eq_true rfl) (Nat.le_of_ble_eq_true rfl)
  try dsimp only [Option.toList, List.cons_append, List.nil_append]
  refine v_istore (q := 10) hC dX12_isFor_8 rfl (lvc rfl) (Nat.le_of_ble_eq_true rfl) (Nat.le_of_ble_eq_true rfl) rfl ?_
  refine v_aload_n (i := 0) (q := 11) hC dX12_isFor_10 rfl rfl rfl ?_
  refine v_iload_n (i := 3) (q := 12) hC dX12_isFor_11 rfl rfl rfl ?_
  refine v_iload (q := 14) hC dX12_isFor_12 rfl rfl ?_
  refine v_iconst (q := 15) (v := 0) hC dX12_isFor_14 rfl (by decide) ?_
  refine v_callV (q := 18) (rm := rm_X12_ofEntry) hC (c_X12_ofEntry hl Θ _ _ 0 _ (by unfold enA; omega)) k_X12_ofEntry im_yX12_ofEntry se_yX12_ofEntry ml_RX12_122 dX12_isFor_15 rfl rfl rfl rfl rfl rfl (Nat.le_of_ble_eq_true rfl) ⟨Nat.le_of_ble_eq_true rfl, Nat.le_of_ble_eq_true rfl⟩ ⟨Nat.le_of_ble_eq_true rfl, Nat.le_of_ble_eq_true rfl⟩ (fR_k ?_) fR_x (Nat.le_of_ble_eq_true rfl) (Nat.le_of_ble_eq_true rfl)
  try dsimp only [Option.toList, List.cons_append, List.nil_append]
  refine v_tab3 (t0 := 44) (t1 := 56) (t2 := 64) (t3 := 80) hC dX12_isFor_18 (by decide) (by decide) (by decide) (by decide) (fun c_18 => ?_) (fun c_18 => ?_) (fun c_18 => ?_) (fun c_18 d_18 e_18 => ?_)
  · refine v_iload (q := 46) hC dX12_isFor_44 rfl rfl ?_
    refine v_iload_n (i := 1) (q := 47) hC dX12_isFor_46 rfl rfl rfl ?_
    refine v_icmp_ne (q := 54) (q2 := 50) hC dX12_isFor_47 (by decide) rfl (fun c_47 => ?_) (fun c_47 => ?_)
    · refine v_iconst (q := 55) (v := 0) hC dX12_isFor_54 rfl (by decide) ?_
      refine v_iret hC dX12_isFor_55 hr (by first | rfl | exact nar_b) ?_ (Nat.le_of_ble_eq_true rfl) (Nat.le_of_ble_eq_true rfl)
      refine ⟨?_, rfl⟩
      rw [mFor, if_pos c_18]
      first | (rw [decide_eq_true c_47]; rfl) | (rw [decide_eq_false c_47]; rfl)
    · refine v_iconst (q := 51) (v := 1) hC dX12_isFor_50 rfl (by decide) ?_
      refine v_goto (q := 55) hC dX12_isFor_51 (by decide) ?_
      refine v_iret hC dX12_isFor_55 hr (by first | rfl | exact nar_b) ?_ (Nat.le_of_ble_eq_true rfl) (Nat.le_of_ble_eq_true rfl)
      refine ⟨?_, rfl⟩
      rw [mFor, if_pos c_18]
      first | (rw [decide_eq_true c_47]; rfl) | (rw [decide_eq_false c_47]; rfl)
  · obtain ⟨g, hg, eg⟩ := hm.who hli hi c_18
    have h := L g hg eg c_18
    rw [← eg] at h
    exact h
  · refine v_aload_n (i := 0) (q := 65) hC dX12_isFor_64 rfl rfl rfl ?_
    refine v_iload_n (i := 2) (q := 66) hC dX12_isFor_65 rfl rfl rfl ?_
    refine v_iconst (q := 67) (v := 2) hC dX12_isFor_66 rfl (by decide) ?_
    refine v_callV (q := 70) (rm := rm_X12_of) hC (c_X12_of hl Θ _ 2 _ (by unfold oA; omega)) k_X12_of im_yX12_of se_yX12_of ml_RX12_54 dX12_isFor_67 rfl rfl rfl rfl rfl rfl (Nat.le_of_ble_eq_true rfl) ⟨Nat.le_of_ble_eq_true rfl, Nat.le_of_ble_eq_true rfl⟩ ⟨Nat.le_of_ble_eq_true rfl, Nat.le_of_ble_eq_true rfl⟩ (fR_k ?_) fR_x (Nat.le_of_ble_eq_true rfl) (Nat.le_of_ble_eq_true rfl)
    try dsimp only [Option.toList, List.cons_append, List.nil_append]
    refine v_iload_n (i := 1) (q := 71) hC dX12_isFor_70 rfl rfl rfl ?_
    refine v_icmp_ne (q := 78) (q2 := 74) hC dX12_isFor_71 (by decide) rfl (fun c_71 => ?_) (fun c_71 => ?_)
    · refine v_iconst (q := 79) (v := 0) hC dX12_isFor_78 rfl (by decide) ?_
      refine v_iret hC dX12_isFor_79 hr (by first | rfl | exact nar_b) ?_ (Nat.le_of_ble_eq_true rfl) (Nat.le_of_ble_eq_true rfl)
      refine ⟨?_, rfl⟩
      rw [mFor, if_neg (by rw [c_18]; decide), if_neg (by rw [c_18]; decide), if_pos c_18]
      first | (rw [decide_eq_true c_71]; rfl) | (rw [decide_eq_false c_71]; rfl)
    · refine v_iconst (q := 75) (v := 1) hC dX12_isFor_74 rfl (by decide) ?_
      refine v_goto (q := 79) hC dX12_isFor_75 (by decide) ?_
      refine v_iret hC dX12_isFor_79 hr (by first | rfl | exact nar_b) ?_ (Nat.le_of_ble_eq_true rfl) (Nat.le_of_ble_eq_true rfl)
      refine ⟨?_, rfl⟩
      rw [mFor, if_neg (by rw [c_18]; decide), if_neg (by rw [c_18]; decide), if_pos c_18]
      first | (rw [decide_eq_true c_71]; rfl) | (rw [decide_eq_false c_71]; rfl)
  · refine v_iconst (q := 81) (v := 1) hC dX12_isFor_80 rfl (by decide) ?_
    refine v_iret hC dX12_isFor_81 hr (by first | rfl | exact nar_b) ?_ (Nat.le_of_ble_eq_true rfl) (Nat.le_of_ble_eq_true rfl)
    refine ⟨?_, rfl⟩
    rw [mFor, if_neg c_18, if_neg d_18, if_neg e_18]
    rfl
/-- the first entry of a list that decides -/
def mCo (w : Nat → Int32) (u : Int32) (o : Nat) (r : Int32) (li i : Nat) : Bool := (decide (nI li = nI o) || decide (w (enA li i 4) = 1)) && (mHas (w (enA li i 2)) r && mFor w u o li i)
def mDeI (w : Nat → Int32) (u : Int32) (o : Nat) (r : Int32) (li : Nat) : Nat → Nat → Option Nat
  | 0, _ => none
  | n + 1, i => if mCo w u o r li i = true then some i else mDeI w u o r li n (i + 1)
def mDe (w : Nat → Int32) (u : Int32) (o : Nat) (r : Int32) : Nat → Int32 → Int32
  | 0, _ => -1
  | n + 1, x => if x < 0 then -1 else match mDeI w u o r x.toNatClampNeg (mCt w x.toNatClampNeg) 0 with
    | some i => nI (6 * x.toNatClampNeg + i)
    | none => mDe w u o r n (if w (oA x.toNatClampNeg 4) = 1 then w (oA x.toNatClampNeg 1) else -1)
theorem mDe_m1 (w : Nat → Int32) (u : Int32) (o : Nat) (r : Int32) (n : Nat) : mDe w u o r n (-1) = -1 := by
  cases n with
  | zero => rw [mDe]
  | succ n => rw [mDe, if_pos (by decide)]
def mDec (w : Nat → Int32) (u : Int32) (o : Nat) (r : Int32) : Int32 := mDe w u o r 20 (nI o)
set_option maxHeartbeats 4000000 in
set_option maxRecDepth 20000 in
theorem c_X12_decides {l : Launch} (hl : l.stackTraces = false) (Θ : cTH) (u : Int32) (o : Nat) (r : Int32) (G : GS) (hm : mOk (G.2.1 0 30)) (ho : o < 20) : Ct l yX12_decides cX12_decides 7 (some .int) rm_X12_decides Θ [.ref (tR Θ 0 29), .int u, .int (nI o), .int r] (G) (fR (some (.int (mDec (G.2.1 0 30) u o r))) G) := by
  refine ct_of (LS := [some (.ref (tR Θ 0 29)), some (.int u), some (.int (nI o)), some (.int r), none, none, none]) hl (by decide +kernel) rfl (Nat.le_of_ble_eq_true rfl) rfl ?_
  intro p e s m args below meth c hC hr
  obtain ⟨rk, hrk⟩ := hm.rk
  have L0 : ∀ (x5 x6 : Option Value), mDec (G.2.1 0 30) u o r = -1 → V p l e rm_X12_decides s m args below meth c 7 Θ (fR (some (.int (mDec (G.2.1 0 30) u o r))) G) 0 0 0 0 3 [some (.ref (tR Θ 0 29)), some (.int u), some (.int (nI o)), some (.int r), some (.int (-1)), x5, x6] [] (G) := by
    intro x5 x6 h2
    refine v_iload (q := 5) hC dX12_decides_3 rfl rfl ?_
    refine v_if_lt (q := 125) (q2 := 8) hC dX12_decides_5 (by decide) rfl (fun c_5 => ?_) (fun c_5 => ?_)
    · refine v_iconst (q := 126) (v := (-1)) hC dX12_decides_125 rfl (by decide) ?_
      refine v_iret hC dX12_decides_126 hr (rfl) ?_ (Nat.le_of_ble_eq_true rfl) (Nat.le_of_ble_eq_true rfl)
      exact ⟨by rw [h2], rfl⟩
    · exact absurd (by decide) c_5
  have L : ∀ (n j : Nat) (x5 x6 : Option Value), j < 20 → rk j < n → mDe (G.2.1 0 30) u o r n (nI j) = mDec (G.2.1 0 30) u o r → V p l e rm_X12_decides s m args below meth c 7 Θ (fR (some (.int (mDec (G.2.1 0 30) u o r))) G) 0 0 0 0 3 [some (.ref (tR Θ 0 29)), some (.int u), some (.int (nI o)), some (.int r), some (.int (nI j)), x5, x6] [] (G) := by
    intro n
    induction n with
    | zero => intro j x5 x6 hj h; exact absurd h (by omega)
    | succ n ih =>
      intro j x5 x6 hj h h2
      rw [mDe, if_neg (nI_pos (by omega)), nI_clamp (by omega)] at h2
      have hcc := hm.ct hj
      have hc6 := hm.ct6 hj
      have L2 : ∀ (n2 i : Nat) (x6 : Option Value), n2 + i = mCt (G.2.1 0 30) j → mDeI (G.2.1 0 30) u o r j n2 i = mDeI (G.2.1 0 30) u o r j (mCt (G.2.1 0 30) j) 0 → V p l e rm_X12_decides s m args below meth c 7 Θ (fR (some (.int (mDec (G.2.1 0 30) u o r))) G) 0 0 0 0 11 [some (.ref (tR Θ 0 29)), some (.int u), some (.int (nI o)), some (.int r), some (.int (nI j)), some (.int (nI i)), x6] [] (G) := by
        intro n2
        induction n2 with
        | zero =>
          intro i x6 h3 h4
          rw [mDeI] at h4
          rw [← h4] at h2
          dsimp only at h2
          refine v_iload (q := 13) hC dX12_decides_11 rfl rfl ?_
          refine v_aload_n (i := 0) (q := 14) hC dX12_decides_13 rfl rfl rfl ?_
          refine v_iload (q := 16) hC dX12_decides_14 rfl rfl ?_
          refine v_iconst (q := 17) (v := 5) hC dX12_decides_16 rfl (by decide) ?_
          refine v_callV (q := 20) (rm := rm_X12_of) hC (c_X12_of hl Θ _ 5 _ (by unfold oA; omega)) k_X12_of im_yX12_of se_yX12_of ml_RX12_54 dX12_decides_17 rfl rfl rfl rfl rfl rfl (Nat.le_of_ble_eq_true rfl) ⟨Nat.le_of_ble_eq_true rfl, Nat.le_of_ble_eq_true rfl⟩ ⟨Nat.le_of_ble_eq_true rfl, Nat.le_of_ble_eq_true rfl⟩ (fR_k ?_) fR_x (Nat.le_of_ble_eq_true rfl) (Nat.le_of_ble_eq_true rfl)
          try dsimp only [Option.toList, List.cons_append, List.nil_append]
          refine v_icmp_ge (q := 98) (q2 := 23) hC dX12_decides_20 (by decide) rfl (fun c_20 => ?_) (fun c_20 => ?_)
          · refine v_aload_n (i := 0) (q := 99) hC dX12_decides_98 rfl rfl rfl ?_
            refine v_iload (q := 101) hC dX12_decides_99 rfl rfl ?_
            refine v_iconst (q := 102) (v := 4) hC dX12_decides_101 rfl (by decide) ?_
            refine v_callV (q := 105) (rm := rm_X12_of) hC (c_X12_of hl Θ _ 4 _ (by unfold oA; omega)) k_X12_of im_yX12_of se_yX12_of ml_RX12_54 dX12_decides_102 rfl rfl rfl rfl rfl rfl (Nat.le_of_ble_eq_true rfl) ⟨Nat.le_of_ble_eq_true rfl, Nat.le_of_ble_eq_true rfl⟩ ⟨Nat.le_of_ble_eq_true rfl, Nat.le_of_ble_eq_true rfl⟩ (fR_k ?_) fR_x (Nat.le_of_ble_eq_true rfl) (Nat.le_of_ble_eq_true rfl)
            try dsimp only [Option.toList, List.cons_append, List.nil_append]
            refine v_iconst (q := 106) (v := 1) hC dX12_decides_105 rfl (by decide) ?_
            refine v_icmp_ne (q := 119) (q2 := 109) hC dX12_decides_106 (by decide) rfl (fun c_106 => ?_) (fun c_106 => ?_)
            · refine v_iconst (q := 120) (v := (-1)) hC dX12_decides_119 rfl (by decide) ?_
              refine v_istore (q := 122) hC dX12_decides_120 rfl (lvc rfl) (Nat.le_of_ble_eq_true rfl) (Nat.le_of_ble_eq_true rfl) rfl ?_
              refine v_goto (q := 3) hC dX12_decides_122 (by decide) ?_
              first
                | (rw [if_neg c_106] at h2
                   exact L0 _ _ (by rw [← h2]; exact mDe_m1 _ _ _ _ _))
                | (rw [if_pos c_106] at h2
                   rcases (hrk j hj).2 with z | ⟨j2, h5, h6, h7⟩
                   · rw [z] at h2 ⊢
                     exact L0 _ _ (by rw [← h2]; exact mDe_m1 _ _ _ _ _)
                   · rw [h6] at h2 ⊢
                     exact ih j2 _ _ h5 (by omega) h2)
            · refine v_aload_n (i := 0) (q := 110) hC dX12_decides_109 rfl rfl rfl ?_
              refine v_iload (q := 112) hC dX12_decides_110 rfl rfl ?_
              refine v_iconst (q := 113) (v := 1) hC dX12_decides_112 rfl (by decide) ?_
              refine v_callV (q := 116) (rm := rm_X12_of) hC (c_X12_of hl Θ _ 1 _ (by unfold oA; omega)) k_X12_of im_yX12_of se_yX12_of ml_RX12_54 dX12_decides_113 rfl rfl rfl rfl rfl rfl (Nat.le_of_ble_eq_true rfl) ⟨Nat.le_of_ble_eq_true rfl, Nat.le_of_ble_eq_true rfl⟩ ⟨Nat.le_of_ble_eq_true rfl, Nat.le_of_ble_eq_true rfl⟩ (fR_k ?_) fR_x (Nat.le_of_ble_eq_true rfl) (Nat.le_of_ble_eq_true rfl)
              try dsimp only [Option.toList, List.cons_append, List.nil_append]
              refine v_goto (q := 120) hC dX12_decides_116 (by decide) ?_
              refine v_istore (q := 122) hC dX12_decides_120 rfl (lvc rfl) (Nat.le_of_ble_eq_true rfl) (Nat.le_of_ble_eq_true rfl) rfl ?_
              refine v_goto (q := 3) hC dX12_decides_122 (by decide) ?_
              first
                | (rw [if_neg c_106] at h2
                   exact L0 _ _ (by rw [← h2]; exact mDe_m1 _ _ _ _ _))
                | (rw [if_pos c_106] at h2
                   rcases (hrk j hj).2 with z | ⟨j2, h5, h6, h7⟩
                   · rw [z] at h2 ⊢
                     exact L0 _ _ (by rw [← h2]; exact mDe_m1 _ _ _ _ _)
                   · rw [h6] at h2 ⊢
                     exact ih j2 _ _ h5 (by omega) h2)
          · exact absurd (by rw [hcc]; exact nI_le (by omega) (by omega)) c_20
        | succ n2 ih2 =>
          intro i x6 h3 h4
          rw [mDeI] at h4
          refine v_iload (q := 13) hC dX12_decides_11 rfl rfl ?_
          refine v_aload_n (i := 0) (q := 14) hC dX12_decides_13 rfl rfl rfl ?_
          refine v_iload (q := 16) hC dX12_decides_14 rfl rfl ?_
          refine v_iconst (q := 17) (v := 5) hC dX12_decides_16 rfl (by decide) ?_
          refine v_callV (q := 20) (rm := rm_X12_of) hC (c_X12_of hl Θ _ 5 _ (by unfold oA; omega)) k_X12_of im_yX12_of se_yX12_of ml_RX12_54 dX12_decides_17 rfl rfl rfl rfl rfl rfl (Nat.le_of_ble_eq_true rfl) ⟨Nat.le_of_ble_eq_true rfl, Nat.le_of_ble_eq_true rfl⟩ ⟨Nat.le_of_ble_eq_true rfl, Nat.le_of_ble_eq_true rfl⟩ (fR_k ?_) fR_x (Nat.le_of_ble_eq_true rfl) (Nat.le_of_ble_eq_true rfl)
          try dsimp only [Option.toList, List.cons_append, List.nil_append]
          refine v_icmp_ge (q := 98) (q2 := 23) hC dX12_decides_20 (by decide) rfl (fun c_20 => ?_) (fun c_20 => ?_)
          · exact absurd c_20 (by rw [hcc]; exact nI_ge (by omega) (by omega))
          · refine v_iload (q := 25) hC dX12_decides_23 rfl rfl ?_
            refine v_iload_n (i := 2) (q := 26) hC dX12_decides_25 rfl rfl rfl ?_
            refine v_icmp_eq (q := 42) (q2 := 29) hC dX12_decides_26 (by decide) rfl (fun c_26 => ?_) (fun c_26 => ?_)
            · refine v_iconst (q := 43) (v := 1) hC dX12_decides_42 rfl (by decide) ?_
              refine v_goto (q := 47) hC dX12_decides_43 (by decide) ?_
              refine v_istore (q := 49) hC dX12_decides_47 rfl (lvc rfl) (Nat.le_of_ble_eq_true rfl) (Nat.le_of_ble_eq_true rfl) rfl ?_
              refine v_iload (q := 51) hC dX12_decides_49 rfl rfl ?_
              refine v_if_eq (q := 92) (q2 := 54) hC dX12_decides_51 (by decide) rfl (fun c_51 => ?_) (fun c_51 => ?_)
              · first
                | exact absurd c_51 (by decide)
                |
                  refine v_iinc (q := 95) (v := nI (i + 1)) hC dX12_decides_92 rfl rfl (nI_1 i) (lvc rfl) (Nat.le_of_ble_eq_true rfl) (Nat.le_of_ble_eq_true rfl) rfl ?_
                  refine v_goto (q := 11) hC dX12_decides_95 (by decide) ?_
                  rw [if_neg (by simp_all [mCo])] at h4
                  exact ih2 (i + 1) _ (by omega) h4
              · first
                | exact absurd c_51 (by decide)
                |
                  refine v_aload_n (i := 0) (q := 55) hC dX12_decides_54 rfl rfl rfl ?_
                  refine v_iload (q := 57) hC dX12_decides_55 rfl rfl ?_
                  refine v_iload (q := 59) hC dX12_decides_57 rfl rfl ?_
                  refine v_iconst (q := 60) (v := 2) hC dX12_decides_59 rfl (by decide) ?_
                  refine v_callV (q := 63) (rm := rm_X12_ofEntry) hC (c_X12_ofEntry hl Θ _ _ 2 _ (by unfold enA; omega)) k_X12_ofEntry im_yX12_ofEntry se_yX12_ofEntry ml_RX12_122 dX12_decides_60 rfl rfl rfl rfl rfl rfl (Nat.le_of_ble_eq_true rfl) ⟨Nat.le_of_ble_eq_true rfl, Nat.le_of_ble_eq_true rfl⟩ ⟨Nat.le_of_ble_eq_true rfl, Nat.le_of_ble_eq_true rfl⟩ (fR_k ?_) fR_x (Nat.le_of_ble_eq_true rfl) (Nat.le_of_ble_eq_true rfl)
                  try dsimp only [Option.toList, List.cons_append, List.nil_append]
                  refine v_iload_n (i := 3) (q := 64) hC dX12_decides_63 rfl rfl rfl ?_
                  refine v_callS (q := 67) (rm := rm_X12_has) hC (c_X12_has hl Θ _ _ _) k_X12_has st_yX12_has ml_RX12_65 dX12_decides_64 rfl  rfl rfl (Nat.le_of_ble_eq_true rfl) ⟨Nat.le_of_ble_eq_true rfl, Nat.le_of_ble_eq_true rfl⟩ ⟨Nat.le_of_ble_eq_true rfl, Nat.le_of_ble_eq_true rfl⟩ (fR_k ?_) fR_x (Nat.le_of_ble_eq_true rfl) (Nat.le_of_ble_eq_true rfl)
                  try dsimp only [Option.toList, List.cons_append, List.nil_append]
                  refine v_ifb_eq (q := 92) (q2 := 70) hC dX12_decides_67 (by decide) rfl (fun c_67 => ?_) (fun c_67 => ?_)
                  · refine v_iinc (q := 95) (v := nI (i + 1)) hC dX12_decides_92 rfl rfl (nI_1 i) (lvc rfl) (Nat.le_of_ble_eq_true rfl) (Nat.le_of_ble_eq_true rfl) rfl ?_
                    refine v_goto (q := 11) hC dX12_decides_95 (by decide) ?_
                    rw [if_neg (by simp_all [mCo])] at h4
                    exact ih2 (i + 1) _ (by omega) h4
                  · refine v_aload_n (i := 0) (q := 71) hC dX12_decides_70 rfl rfl rfl ?_
                    refine v_iload_n (i := 1) (q := 72) hC dX12_decides_71 rfl rfl rfl ?_
                    refine v_iload_n (i := 2) (q := 73) hC dX12_decides_72 rfl rfl rfl ?_
                    refine v_iload (q := 75) hC dX12_decides_73 rfl rfl ?_
                    refine v_iload (q := 77) hC dX12_decides_75 rfl rfl ?_
                    refine v_callV (q := 80) (rm := rm_X12_isFor) hC (c_X12_isFor hl Θ u o j i _ hm ho hj (by omega)) k_X12_isFor im_yX12_isFor se_yX12_isFor ml_RX12_140 dX12_decides_77 rfl rfl rfl rfl rfl rfl (Nat.le_of_ble_eq_true rfl) ⟨Nat.le_of_ble_eq_true rfl, Nat.le_of_ble_eq_true rfl⟩ ⟨Nat.le_of_ble_eq_true rfl, Nat.le_of_ble_eq_true rfl⟩ (fR_k ?_) fR_x (Nat.le_of_ble_eq_true rfl) (Nat.le_of_ble_eq_true rfl)
                    try dsimp only [Option.toList, List.cons_append, List.nil_append]
                    refine v_ifb_eq (q := 92) (q2 := 83) hC dX12_decides_80 (by decide) rfl (fun c_80 => ?_) (fun c_80 => ?_)
                    · refine v_iinc (q := 95) (v := nI (i + 1)) hC dX12_decides_92 rfl rfl (nI_1 i) (lvc rfl) (Nat.le_of_ble_eq_true rfl) (Nat.le_of_ble_eq_true rfl) rfl ?_
                      refine v_goto (q := 11) hC dX12_decides_95 (by decide) ?_
                      rw [if_neg (by simp_all [mCo])] at h4
                      exact ih2 (i + 1) _ (by omega) h4
                    · refine v_bipush (q := 85) (v := 6) hC dX12_decides_83 rfl (by decide) ?_
                      refine v_iload (q := 87) hC dX12_decides_85 rfl rfl ?_
                      refine v_imul (q := 88) hC dX12_decides_87 rfl ?_
                      refine v_iload (q := 90) hC dX12_decides_88 rfl rfl ?_
                      refine v_iadd (q := 91) hC dX12_decides_90 rfl ?_
                      refine v_iret hC dX12_decides_91 hr (rfl) ?_ (Nat.le_of_ble_eq_true rfl) (Nat.le_of_ble_eq_true rfl)
                      rw [if_pos (by simp_all [mCo])] at h4
                      rw [← h4] at h2
                      exact ⟨by rw [← h2, show (6 : Int32) = nI 6 from rfl, nI_mul, nI_add], rfl⟩
            · refine v_aload_n (i := 0) (q := 30) hC dX12_decides_29 rfl rfl rfl ?_
              refine v_iload (q := 32) hC dX12_decides_30 rfl rfl ?_
              refine v_iload (q := 34) hC dX12_decides_32 rfl rfl ?_
              refine v_iconst (q := 35) (v := 4) hC dX12_decides_34 rfl (by decide) ?_
              refine v_callV (q := 38) (rm := rm_X12_ofEntry) hC (c_X12_ofEntry hl Θ _ _ 4 _ (by unfold enA; omega)) k_X12_ofEntry im_yX12_ofEntry se_yX12_ofEntry ml_RX12_122 dX12_decides_35 rfl rfl rfl rfl rfl rfl (Nat.le_of_ble_eq_true rfl) ⟨Nat.le_of_ble_eq_true rfl, Nat.le_of_ble_eq_true rfl⟩ ⟨Nat.le_of_ble_eq_true rfl, Nat.le_of_ble_eq_true rfl⟩ (fR_k ?_) fR_x (Nat.le_of_ble_eq_true rfl) (Nat.le_of_ble_eq_true rfl)
              try dsimp only [Option.toList, List.cons_append, List.nil_append]
              refine v_iconst (q := 39) (v := 1) hC dX12_decides_38 rfl (by decide) ?_
              refine v_icmp_ne (q := 46) (q2 := 42) hC dX12_decides_39 (by decide) rfl (fun c_39 => ?_) (fun c_39 => ?_)
              · refine v_iconst (q := 47) (v := 0) hC dX12_decides_46 rfl (by decide) ?_
                refine v_istore (q := 49) hC dX12_decides_47 rfl (lvc rfl) (Nat.le_of_ble_eq_true rfl) (Nat.le_of_ble_eq_true rfl) rfl ?_
                refine v_iload (q := 51) hC dX12_decides_49 rfl rfl ?_
                refine v_if_eq (q := 92) (q2 := 54) hC dX12_decides_51 (by decide) rfl (fun c_51 => ?_) (fun c_51 => ?_)
                · first
                  | exact absurd c_51 (by decide)
                  |
                    refine v_iinc (q := 95) (v := nI (i + 1)) hC dX12_decides_92 rfl rfl (nI_1 i) (lvc rfl) (Nat.le_of_ble_eq_true rfl) (Nat.le_of_ble_eq_true rfl) rfl ?_
                    refine v_goto (q := 11) hC dX12_decides_95 (by decide) ?_
                    rw [if_neg (by simp_all [mCo])] at h4
                    exact ih2 (i + 1) _ (by omega) h4
                · first
                  | exact absurd c_51 (by decide)
                  |
                    refine v_aload_n (i := 0) (q := 55) hC dX12_decides_54 rfl rfl rfl ?_
                    refine v_iload (q := 57) hC dX12_decides_55 rfl rfl ?_
                    refine v_iload (q := 59) hC dX12_decides_57 rfl rfl ?_
                    refine v_iconst (q := 60) (v := 2) hC dX12_decides_59 rfl (by decide) ?_
                    refine v_callV (q := 63) (rm := rm_X12_ofEntry) hC (c_X12_ofEntry hl Θ _ _ 2 _ (by unfold enA; omega)) k_X12_ofEntry im_yX12_ofEntry se_yX12_ofEntry ml_RX12_122 dX12_decides_60 rfl rfl rfl rfl rfl rfl (Nat.le_of_ble_eq_true rfl) ⟨Nat.le_of_ble_eq_true rfl, Nat.le_of_ble_eq_true rfl⟩ ⟨Nat.le_of_ble_eq_true rfl, Nat.le_of_ble_eq_true rfl⟩ (fR_k ?_) fR_x (Nat.le_of_ble_eq_true rfl) (Nat.le_of_ble_eq_true rfl)
                    try dsimp only [Option.toList, List.cons_append, List.nil_append]
                    refine v_iload_n (i := 3) (q := 64) hC dX12_decides_63 rfl rfl rfl ?_
                    refine v_callS (q := 67) (rm := rm_X12_has) hC (c_X12_has hl Θ _ _ _) k_X12_has st_yX12_has ml_RX12_65 dX12_decides_64 rfl  rfl rfl (Nat.le_of_ble_eq_true rfl) ⟨Nat.le_of_ble_eq_true rfl, Nat.le_of_ble_eq_true rfl⟩ ⟨Nat.le_of_ble_eq_true rfl, Nat.le_of_ble_eq_true rfl⟩ (fR_k ?_) fR_x (Nat.le_of_ble_eq_true rfl) (Nat.le_of_ble_eq_true rfl)
                    try dsimp only [Option.toList, List.cons_append, List.nil_append]
                    refine v_ifb_eq (q := 92) (q2 := 70) hC dX12_decides_67 (by decide) rfl (fun c_67 => ?_) (fun c_67 => ?_)
                    · refine v_iinc (q := 95) (v := nI (i + 1)) hC dX12_decides_92 rfl rfl (nI_1 i) (lvc rfl) (Nat.le_of_ble_eq_true rfl) (Nat.le_of_ble_eq_true rfl) rfl ?_
                      refine v_goto (q := 11) hC dX12_decides_95 (by decide) ?_
                      rw [if_neg (by simp_all [mCo])] at h4
                      exact ih2 (i + 1) _ (by omega) h4
                    · refine v_aload_n (i := 0) (q := 71) hC dX12_decides_70 rfl rfl rfl ?_
                      refine v_iload_n (i := 1) (q := 72) hC dX12_decides_71 rfl rfl rfl ?_
                      refine v_iload_n (i := 2) (q := 73) hC dX12_decides_72 rfl rfl rfl ?_
                      refine v_iload (q := 75) hC dX12_decides_73 rfl rfl ?_
                      refine v_iload (q := 77) hC dX12_decides_75 rfl rfl ?_
                      refine v_callV (q := 80) (rm := rm_X12_isFor) hC (c_X12_isFor hl Θ u o j i _ hm ho hj (by omega)) k_X12_isFor im_yX12_isFor se_yX12_isFor ml_RX12_140 dX12_decides_77 rfl rfl rfl rfl rfl rfl (Nat.le_of_ble_eq_true rfl) ⟨Nat.le_of_ble_eq_true rfl, Nat.le_of_ble_eq_true rfl⟩ ⟨Nat.le_of_ble_eq_true rfl, Nat.le_of_ble_eq_true rfl⟩ (fR_k ?_) fR_x (Nat.le_of_ble_eq_true rfl) (Nat.le_of_ble_eq_true rfl)
                      try dsimp only [Option.toList, List.cons_append, List.nil_append]
                      refine v_ifb_eq (q := 92) (q2 := 83) hC dX12_decides_80 (by decide) rfl (fun c_80 => ?_) (fun c_80 => ?_)
                      · refine v_iinc (q := 95) (v := nI (i + 1)) hC dX12_decides_92 rfl rfl (nI_1 i) (lvc rfl) (Nat.le_of_ble_eq_true rfl) (Nat.le_of_ble_eq_true rfl) rfl ?_
                        refine v_goto (q := 11) hC dX12_decides_95 (by decide) ?_
                        rw [if_neg (by simp_all [mCo])] at h4
                        exact ih2 (i + 1) _ (by omega) h4
                      · refine v_bipush (q := 85) (v := 6) hC dX12_decides_83 rfl (by decide) ?_
                        refine v_iload (q := 87) hC dX12_decides_85 rfl rfl ?_
                        refine v_imul (q := 88) hC dX12_decides_87 rfl ?_
                        refine v_iload (q := 90) hC dX12_decides_88 rfl rfl ?_
                        refine v_iadd (q := 91) hC dX12_decides_90 rfl ?_
                        refine v_iret hC dX12_decides_91 hr (rfl) ?_ (Nat.le_of_ble_eq_true rfl) (Nat.le_of_ble_eq_true rfl)
                        rw [if_pos (by simp_all [mCo])] at h4
                        rw [← h4] at h2
                        exact ⟨by rw [← h2, show (6 : Int32) = nI 6 from rfl, nI_mul, nI_add], rfl⟩
              · refine v_iconst (q := 43) (v := 1) hC dX12_decides_42 rfl (by decide) ?_
                refine v_goto (q := 47) hC dX12_decides_43 (by decide) ?_
                refine v_istore (q := 49) hC dX12_decides_47 rfl (lvc rfl) (Nat.le_of_ble_eq_true rfl) (Nat.le_of_ble_eq_true rfl) rfl ?_
                refine v_iload (q := 51) hC dX12_decides_49 rfl rfl ?_
                refine v_if_eq (q := 92) (q2 := 54) hC dX12_decides_51 (by decide) rfl (fun c_51 => ?_) (fun c_51 => ?_)
                · first
                  | exact absurd c_51 (by decide)
                  |
                    refine v_iinc (q := 95) (v := nI (i + 1)) hC dX12_decides_92 rfl rfl (nI_1 i) (lvc rfl) (Nat.le_of_ble_eq_true rfl) (Nat.le_of_ble_eq_true rfl) rfl ?_
                    refine v_goto (q := 11) hC dX12_decides_95 (by decide) ?_
                    rw [if_neg (by simp_all [mCo])] at h4
                    exact ih2 (i + 1) _ (by omega) h4
                · first
                  | exact absurd c_51 (by decide)
                  |
                    refine v_aload_n (i := 0) (q := 55) hC dX12_decides_54 rfl rfl rfl ?_
                    refine v_iload (q := 57) hC dX12_decides_55 rfl rfl ?_
                    refine v_iload (q := 59) hC dX12_decides_57 rfl rfl ?_
                    refine v_iconst (q := 60) (v := 2) hC dX12_decides_59 rfl (by decide) ?_
                    refine v_callV (q := 63) (rm := rm_X12_ofEntry) hC (c_X12_ofEntry hl Θ _ _ 2 _ (by unfold enA; omega)) k_X12_ofEntry im_yX12_ofEntry se_yX12_ofEntry ml_RX12_122 dX12_decides_60 rfl rfl rfl rfl rfl rfl (Nat.le_of_ble_eq_true rfl) ⟨Nat.le_of_ble_eq_true rfl, Nat.le_of_ble_eq_true rfl⟩ ⟨Nat.le_of_ble_eq_true rfl, Nat.le_of_ble_eq_true rfl⟩ (fR_k ?_) fR_x (Nat.le_of_ble_eq_true rfl) (Nat.le_of_ble_eq_true rfl)
                    try dsimp only [Option.toList, List.cons_append, List.nil_append]
                    refine v_iload_n (i := 3) (q := 64) hC dX12_decides_63 rfl rfl rfl ?_
                    refine v_callS (q := 67) (rm := rm_X12_has) hC (c_X12_has hl Θ _ _ _) k_X12_has st_yX12_has ml_RX12_65 dX12_decides_64 rfl  rfl rfl (Nat.le_of_ble_eq_true rfl) ⟨Nat.le_of_ble_eq_true rfl, Nat.le_of_ble_eq_true rfl⟩ ⟨Nat.le_of_ble_eq_true rfl, Nat.le_of_ble_eq_true rfl⟩ (fR_k ?_) fR_x (Nat.le_of_ble_eq_true rfl) (Nat.le_of_ble_eq_true rfl)
                    try dsimp only [Option.toList, List.cons_append, List.nil_append]
                    refine v_ifb_eq (q := 92) (q2 := 70) hC dX12_decides_67 (by decide) rfl (fun c_67 => ?_) (fun c_67 => ?_)
                    · refine v_iinc (q := 95) (v := nI (i + 1)) hC dX12_decides_92 rfl rfl (nI_1 i) (lvc rfl) (Nat.le_of_ble_eq_true rfl) (Nat.le_of_ble_eq_true rfl) rfl ?_
                      refine v_goto (q := 11) hC dX12_decides_95 (by decide) ?_
                      rw [if_neg (by simp_all [mCo])] at h4
                      exact ih2 (i + 1) _ (by omega) h4
                    · refine v_aload_n (i := 0) (q := 71) hC dX12_decides_70 rfl rfl rfl ?_
                      refine v_iload_n (i := 1) (q := 72) hC dX12_decides_71 rfl rfl rfl ?_
                      refine v_iload_n (i := 2) (q := 73) hC dX12_decides_72 rfl rfl rfl ?_
                      refine v_iload (q := 75) hC dX12_decides_73 rfl rfl ?_
                      refine v_iload (q := 77) hC dX12_decides_75 rfl rfl ?_
                      refine v_callV (q := 80) (rm := rm_X12_isFor) hC (c_X12_isFor hl Θ u o j i _ hm ho hj (by omega)) k_X12_isFor im_yX12_isFor se_yX12_isFor ml_RX12_140 dX12_decides_77 rfl rfl rfl rfl rfl rfl (Nat.le_of_ble_eq_true rfl) ⟨Nat.le_of_ble_eq_true rfl, Nat.le_of_ble_eq_true rfl⟩ ⟨Nat.le_of_ble_eq_true rfl, Nat.le_of_ble_eq_true rfl⟩ (fR_k ?_) fR_x (Nat.le_of_ble_eq_true rfl) (Nat.le_of_ble_eq_true rfl)
                      try dsimp only [Option.toList, List.cons_append, List.nil_append]
                      refine v_ifb_eq (q := 92) (q2 := 83) hC dX12_decides_80 (by decide) rfl (fun c_80 => ?_) (fun c_80 => ?_)
                      · refine v_iinc (q := 95) (v := nI (i + 1)) hC dX12_decides_92 rfl rfl (nI_1 i) (lvc rfl) (Nat.le_of_ble_eq_true rfl) (Nat.le_of_ble_eq_true rfl) rfl ?_
                        refine v_goto (q := 11) hC dX12_decides_95 (by decide) ?_
                        rw [if_neg (by simp_all [mCo])] at h4
                        exact ih2 (i + 1) _ (by omega) h4
                      · refine v_bipush (q := 85) (v := 6) hC dX12_decides_83 rfl (by decide) ?_
                        refine v_iload (q := 87) hC dX12_decides_85 rfl rfl ?_
                        refine v_imul (q := 88) hC dX12_decides_87 rfl ?_
                        refine v_iload (q := 90) hC dX12_decides_88 rfl rfl ?_
                        refine v_iadd (q := 91) hC dX12_decides_90 rfl ?_
                        refine v_iret hC dX12_decides_91 hr (rfl) ?_ (Nat.le_of_ble_eq_true rfl) (Nat.le_of_ble_eq_true rfl)
                        rw [if_pos (by simp_all [mCo])] at h4
                        rw [← h4] at h2
                        exact ⟨by rw [← h2, show (6 : Int32) = nI 6 from rfl, nI_mul, nI_add], rfl⟩
      refine v_iload (q := 5) hC dX12_decides_3 rfl rfl ?_
      refine v_if_lt (q := 125) (q2 := 8) hC dX12_decides_5 (by decide) rfl (fun c_5 => ?_) (fun c_5 => ?_)
      · exact absurd c_5 (nI_pos (by omega))
      · refine v_iconst (q := 9) (v := 0) hC dX12_decides_8 rfl (by decide) ?_
        refine v_istore (q := 11) hC dX12_decides_9 rfl (lvc rfl) (Nat.le_of_ble_eq_true rfl) (Nat.le_of_ble_eq_true rfl) rfl ?_
        exact L2 _ 0 _ rfl rfl
  refine v_iload_n (i := 2) (q := 1) hC dX12_decides_0 rfl rfl rfl ?_
  refine v_istore (q := 3) hC dX12_decides_1 rfl (lvc rfl) (Nat.le_of_ble_eq_true rfl) (Nat.le_of_ble_eq_true rfl) rfl ?_
  exact L 20 o none none ho (hrk o ho).1 rfl
