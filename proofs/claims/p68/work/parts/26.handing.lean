/-! Handing -/
abbrev hT := Int32 × ((Nat → Int32) × (Nat → Int32))
abbrev hP (G : GS) (q : hT) : GS := putA (putA (putF G 0 22 0 q.1) 0 23 q.2.1) 0 24 q.2.2
theorem hP_24 (G : GS) (q : hT) (w : Nat → Int32) : putA (hP G q) 0 24 w = hP G (q.1, q.2.1, w) := putA_putA _ _ _ _ _
theorem hP_23 (G : GS) (q : hT) (w : Nat → Int32) : putA (hP G q) 0 23 w = hP G (q.1, w, q.2.2) := by
  unfold hP putA
  refine Prod.ext rfl (Prod.ext ?_ rfl)
  funext r o
  dsimp only
  by_cases h : r = 0 ∧ o = 23
  · rw [if_pos h, if_neg (by omega), if_pos h]
  · rw [if_neg h]
    by_cases h2 : r = 0 ∧ o = 24
    · rw [if_pos h2, if_pos h2]
    · rw [if_neg h2, if_neg h2, if_neg h, if_neg h]
theorem putF_putF (G : GS) (r o k : Nat) (v w : Int32) : putF (putF G r o k v) r o k w = putF G r o k w := by
  refine Prod.ext ?_ rfl
  funext r' o' k'
  rw [putF_get, putF_get, putF_get]
  by_cases h : r' = r ∧ o' = o ∧ k' = k
  · rw [if_pos h, if_pos h]
  · rw [if_neg h, if_neg h, if_neg h]
theorem putF_putA (G : GS) (r o k : Nat) (v : Int32) (r' o' : Nat) (a : Nat → Int32) : putF (putA G r' o' a) r o k v = putA (putF G r o k v) r' o' a := rfl
theorem hP_22 (G : GS) (q : hT) (x : Int32) : putF (hP G q) 0 22 0 x = hP G (x, q.2) := by
  unfold hP
  rw [putF_putA, putF_putA, putF_putF]
theorem hP_self (G : GS) (x : Int32) (l : Nat → Int32) : putA (putF G 0 22 0 x) 0 23 l = hP G (x, l, G.2.1 0 24) := by
  unfold hP
  exact (putA_self (putA (putF G 0 22 0 x) 0 23 l) 0 24).symm
theorem idx120_in {o x : Int32} (h1 : jIdx o 20 = true) (h2 : jIdx x 120 = true) : vp_in (o * 120 + x) 2400 := by
  obtain ⟨a, ha, rfl⟩ := jIdx_nI h1 (N := 20) rfl (by decide)
  obtain ⟨b, hb, rfl⟩ := jIdx_nI h2 (N := 120) rfl (by decide)
  rw [show (120 : Int32) = nI 120 from rfl, nI_mul, nI_add]
  exact vp_in_nI (by omega) (by omega)
def hCode (w : Nat → Int32) (o n : Int32) : Int32 := if jIdx o 20 = true ∧ jIdx n 120 = true then w (o * 120 + n).toNatClampNeg else 0
def hPut (o x : Int32) (q : hT) : hT := if jIdx o 20 = true ∧ jIdx (q.2.1 o.toNatClampNeg) 120 = true then (q.1, upd q.2.1 o.toNatClampNeg (q.2.1 o.toNatClampNeg + 1), upd q.2.2 (o * 120 + q.2.1 o.toNatClampNeg).toNatClampNeg x) else q
set_option maxHeartbeats 4000000 in
set_option maxRecDepth 20000 in
theorem c_X2_lengthAt {l : Launch} (hl : l.stackTraces = false) (Θ : cTH) (o : Int32) (q : hT) (G : GS) : Ct l yX2_lengthAt cX2_lengthAt 2 (some .int) rm_X2_lengthAt Θ [.ref (tR Θ 0 22), .int o] (hP G q) (fR (some (.int (sCnt q.2.1 o))) (hP G q)) := by
  refine ct_of (LS := [some (.ref (tR Θ 0 22)), some (.int o)]) hl (by decide +kernel) rfl (Nat.le_of_ble_eq_true rfl) rfl ?_
  intro p e s m args below meth c hC hr
  refine v_iload_n (i := 1) (q := 1) hC dX2_lengthAt_0 rfl rfl rfl ?_
  refine v_bipush (q := 3) (v := 20) hC dX2_lengthAt_1 rfl (by decide) ?_
  refine v_callN (q := 6) (rm := rm_X11_isIndex) hC (c_X11_isIndex hl Θ _ _ _) k_X11_isIndex st_yX11_isIndex nl_RX2_118 dX2_lengthAt_3 rfl  rfl rfl (Nat.le_of_ble_eq_true rfl) ⟨Nat.le_of_ble_eq_true rfl, Nat.le_of_ble_eq_true rfl⟩ ⟨Nat.le_of_ble_eq_true rfl, Nat.le_of_ble_eq_true rfl⟩ (fR_k ?_) fR_x (Nat.le_of_ble_eq_true rfl) (Nat.le_of_ble_eq_true rfl)
  try dsimp only [Option.toList, List.cons_append, List.nil_append]
  refine v_ifb_eq (q := 18) (q2 := 9) hC dX2_lengthAt_6 (by decide) rfl (fun c_6 => ?_) (fun c_6 => ?_)
  · refine v_iconst (q := 19) (v := 0) hC dX2_lengthAt_18 rfl (by decide) ?_
    refine v_iret hC dX2_lengthAt_19 hr (rfl) ?_ (Nat.le_of_ble_eq_true rfl) (Nat.le_of_ble_eq_true rfl)
    exact ⟨by simp_all [sCnt, putA_get, putA_fld, putF_get, putF_row], rfl⟩
  · refine v_aload_n (i := 0) (q := 10) hC dX2_lengthAt_9 rfl rfl rfl ?_
    refine g_X2_1 (q := 13) hC dX2_lengthAt_10 rfl rfl fl_RX2_15 ?_
    refine v_iload_n (i := 1) (q := 14) hC dX2_lengthAt_13 rfl rfl rfl ?_
    refine v_iald (q := 15) hC dX2_lengthAt_14 rfl rfl rfl (jIdx_in ‹_› rfl) ?_
    refine v_goto (q := 19) hC dX2_lengthAt_15 (by decide) ?_
    refine v_iret hC dX2_lengthAt_19 hr (rfl) ?_ (Nat.le_of_ble_eq_true rfl) (Nat.le_of_ble_eq_true rfl)
    exact ⟨by simp_all [sCnt, putA_get, putA_fld, putF_get, putF_row], rfl⟩
set_option maxHeartbeats 4000000 in
set_option maxRecDepth 20000 in
theorem c_X2_codeIn {l : Launch} (hl : l.stackTraces = false) (Θ : cTH) (o n : Int32) (q : hT) (G : GS) : Ct l yX2_codeIn cX2_codeIn 3 (some .int) rm_X2_codeIn Θ [.ref (tR Θ 0 22), .int o, .int n] (hP G q) (fR (some (.int (hCode q.2.2 o n))) (hP G q)) := by
  refine ct_of (LS := [some (.ref (tR Θ 0 22)), some (.int o), some (.int n)]) hl (by decide +kernel) rfl (Nat.le_of_ble_eq_true rfl) rfl ?_
  intro p e s m args below meth c hC hr
  refine v_iload_n (i := 1) (q := 1) hC dX2_codeIn_0 rfl rfl rfl ?_
  refine v_bipush (q := 3) (v := 20) hC dX2_codeIn_1 rfl (by decide) ?_
  refine v_callN (q := 6) (rm := rm_X11_isIndex) hC (c_X11_isIndex hl Θ _ _ _) k_X11_isIndex st_yX11_isIndex nl_RX2_118 dX2_codeIn_3 rfl  rfl rfl (Nat.le_of_ble_eq_true rfl) ⟨Nat.le_of_ble_eq_true rfl, Nat.le_of_ble_eq_true rfl⟩ ⟨Nat.le_of_ble_eq_true rfl, Nat.le_of_ble_eq_true rfl⟩ (fR_k ?_) fR_x (Nat.le_of_ble_eq_true rfl) (Nat.le_of_ble_eq_true rfl)
  try dsimp only [Option.toList, List.cons_append, List.nil_append]
  refine v_ifb_eq (q := 18) (q2 := 9) hC dX2_codeIn_6 (by decide) rfl (fun c_6 => ?_) (fun c_6 => ?_)
  · refine v_iconst (q := 19) (v := 0) hC dX2_codeIn_18 rfl (by decide) ?_
    refine v_iret hC dX2_codeIn_19 hr (rfl) ?_ (Nat.le_of_ble_eq_true rfl) (Nat.le_of_ble_eq_true rfl)
    exact ⟨by simp_all [hCode, putA_get, putA_fld, putF_get, putF_row], rfl⟩
  · refine v_iload_n (i := 2) (q := 10) hC dX2_codeIn_9 rfl rfl rfl ?_
    refine v_bipush (q := 12) (v := 120) hC dX2_codeIn_10 rfl (by decide) ?_
    refine v_callN (q := 15) (rm := rm_X11_isIndex) hC (c_X11_isIndex hl Θ _ _ _) k_X11_isIndex st_yX11_isIndex nl_RX2_118 dX2_codeIn_12 rfl  rfl rfl (Nat.le_of_ble_eq_true rfl) ⟨Nat.le_of_ble_eq_true rfl, Nat.le_of_ble_eq_true rfl⟩ ⟨Nat.le_of_ble_eq_true rfl, Nat.le_of_ble_eq_true rfl⟩ (fR_k ?_) fR_x (Nat.le_of_ble_eq_true rfl) (Nat.le_of_ble_eq_true rfl)
    try dsimp only [Option.toList, List.cons_append, List.nil_append]
    refine v_ifb_ne (q := 20) (q2 := 18) hC dX2_codeIn_15 (by decide) rfl (fun c_15 => ?_) (fun c_15 => ?_)
    · refine v_aload_n (i := 0) (q := 21) hC dX2_codeIn_20 rfl rfl rfl ?_
      refine g_X2_2 (q := 24) hC dX2_codeIn_21 rfl rfl fl_RX2_19 ?_
      refine v_iload_n (i := 1) (q := 25) hC dX2_codeIn_24 rfl rfl rfl ?_
      refine v_bipush (q := 27) (v := 120) hC dX2_codeIn_25 rfl (by decide) ?_
      refine v_imul (q := 28) hC dX2_codeIn_27 rfl ?_
      refine v_iload_n (i := 2) (q := 29) hC dX2_codeIn_28 rfl rfl rfl ?_
      refine v_iadd (q := 30) hC dX2_codeIn_29 rfl ?_
      refine v_iald (q := 31) hC dX2_codeIn_30 rfl rfl rfl (idx120_in ‹_› ‹_›) ?_
      refine v_iret hC dX2_codeIn_31 hr (rfl) ?_ (Nat.le_of_ble_eq_true rfl) (Nat.le_of_ble_eq_true rfl)
      exact ⟨by simp_all [hCode, putA_get, putA_fld, putF_get, putF_row], rfl⟩
    · refine v_iconst (q := 19) (v := 0) hC dX2_codeIn_18 rfl (by decide) ?_
      refine v_iret hC dX2_codeIn_19 hr (rfl) ?_ (Nat.le_of_ble_eq_true rfl) (Nat.le_of_ble_eq_true rfl)
      exact ⟨by simp_all [hCode, putA_get, putA_fld, putF_get, putF_row], rfl⟩
set_option maxHeartbeats 4000000 in
set_option maxRecDepth 20000 in
theorem c_X2_putLast {l : Launch} (hl : l.stackTraces = false) (Θ : cTH) (o x : Int32) (q : hT) (G : GS) : Ct l yX2_putLast cX2_putLast 3 none rm_X2_putLast Θ [.ref (tR Θ 0 22), .int o, .int x] (hP G q) (fR none (hP G (hPut o x q))) := by
  refine ct_of (LS := [some (.ref (tR Θ 0 22)), some (.int o), some (.int x)]) hl (by decide +kernel) rfl (Nat.le_of_ble_eq_true rfl) rfl ?_
  intro p e s m args below meth c hC hr
  refine v_iload_n (i := 1) (q := 1) hC dX2_putLast_0 rfl rfl rfl ?_
  refine v_bipush (q := 3) (v := 20) hC dX2_putLast_1 rfl (by decide) ?_
  refine v_callN (q := 6) (rm := rm_X11_isIndex) hC (c_X11_isIndex hl Θ _ _ _) k_X11_isIndex st_yX11_isIndex nl_RX2_118 dX2_putLast_3 rfl  rfl rfl (Nat.le_of_ble_eq_true rfl) ⟨Nat.le_of_ble_eq_true rfl, Nat.le_of_ble_eq_true rfl⟩ ⟨Nat.le_of_ble_eq_true rfl, Nat.le_of_ble_eq_true rfl⟩ (fR_k ?_) fR_x (Nat.le_of_ble_eq_true rfl) (Nat.le_of_ble_eq_true rfl)
  try dsimp only [Option.toList, List.cons_append, List.nil_append]
  refine v_ifb_eq (q := 50) (q2 := 9) hC dX2_putLast_6 (by decide) rfl (fun c_6 => ?_) (fun c_6 => ?_)
  · first | rw [hP_23] | skip
    refine v_vret hC dX2_putLast_50 hr ?_ (Nat.le_of_ble_eq_true rfl) (Nat.le_of_ble_eq_true rfl)
    refine ⟨rfl, ?_⟩
    first | (rw [hPut, if_pos ⟨by assumption, by assumption⟩]; rfl) | (rw [hPut, if_neg (by simp_all [putA_get, putA_fld, putF_get, putF_row])])
  · refine v_aload_n (i := 0) (q := 10) hC dX2_putLast_9 rfl rfl rfl ?_
    refine g_X2_1 (q := 13) hC dX2_putLast_10 rfl rfl fl_RX2_15 ?_
    refine v_iload_n (i := 1) (q := 14) hC dX2_putLast_13 rfl rfl rfl ?_
    refine v_iald (q := 15) hC dX2_putLast_14 rfl rfl rfl (jIdx_in ‹_› rfl) ?_
    refine v_bipush (q := 17) (v := 120) hC dX2_putLast_15 rfl (by decide) ?_
    refine v_callN (q := 20) (rm := rm_X11_isIndex) hC (c_X11_isIndex hl Θ _ _ _) k_X11_isIndex st_yX11_isIndex nl_RX2_118 dX2_putLast_17 rfl  rfl rfl (Nat.le_of_ble_eq_true rfl) ⟨Nat.le_of_ble_eq_true rfl, Nat.le_of_ble_eq_true rfl⟩ ⟨Nat.le_of_ble_eq_true rfl, Nat.le_of_ble_eq_true rfl⟩ (fR_k ?_) fR_x (Nat.le_of_ble_eq_true rfl) (Nat.le_of_ble_eq_true rfl)
    try dsimp only [Option.toList, List.cons_append, List.nil_append]
    refine v_ifb_eq (q := 50) (q2 := 23) hC dX2_putLast_20 (by decide) rfl (fun c_20 => ?_) (fun c_20 => ?_)
    · first | rw [hP_23] | skip
      refine v_vret hC dX2_putLast_50 hr ?_ (Nat.le_of_ble_eq_true rfl) (Nat.le_of_ble_eq_true rfl)
      refine ⟨rfl, ?_⟩
      first | (rw [hPut, if_pos ⟨by assumption, by assumption⟩]; rfl) | (rw [hPut, if_neg (by simp_all [putA_get, putA_fld, putF_get, putF_row])])
    · refine v_aload_n (i := 0) (q := 24) hC dX2_putLast_23 rfl rfl rfl ?_
      refine g_X2_2 (q := 27) hC dX2_putLast_24 rfl rfl fl_RX2_19 ?_
      refine v_iload_n (i := 1) (q := 28) hC dX2_putLast_27 rfl rfl rfl ?_
      refine v_bipush (q := 30) (v := 120) hC dX2_putLast_28 rfl (by decide) ?_
      refine v_imul (q := 31) hC dX2_putLast_30 rfl ?_
      refine v_aload_n (i := 0) (q := 32) hC dX2_putLast_31 rfl rfl rfl ?_
      refine g_X2_1 (q := 35) hC dX2_putLast_32 rfl rfl fl_RX2_15 ?_
      refine v_iload_n (i := 1) (q := 36) hC dX2_putLast_35 rfl rfl rfl ?_
      refine v_iald (q := 37) hC dX2_putLast_36 rfl rfl rfl (jIdx_in ‹_› rfl) ?_
      refine v_iadd (q := 38) hC dX2_putLast_37 rfl ?_
      refine v_iload_n (i := 2) (q := 39) hC dX2_putLast_38 rfl rfl rfl ?_
      refine v_iast (q := 40) hC dX2_putLast_39 rfl rfl (fun _ => rfl) (idx120_in ‹_› ‹_›) ?_
      rw [hP_24]
      refine v_aload_n (i := 0) (q := 41) hC dX2_putLast_40 rfl rfl rfl ?_
      refine g_X2_1 (q := 44) hC dX2_putLast_41 rfl rfl fl_RX2_15 ?_
      refine v_iload_n (i := 1) (q := 45) hC dX2_putLast_44 rfl rfl rfl ?_
      refine v_dup2 (q := 46) hC dX2_putLast_45 rfl rfl rfl ?_
      refine v_iald (q := 47) hC dX2_putLast_46 rfl rfl rfl (jIdx_in ‹_› rfl) ?_
      refine v_iconst (q := 48) (v := 1) hC dX2_putLast_47 rfl (by decide) ?_
      refine v_iadd (q := 49) hC dX2_putLast_48 rfl ?_
      refine v_iast (q := 50) hC dX2_putLast_49 rfl rfl (fun _ => rfl) (jIdx_in ‹_› rfl) ?_
      first | rw [hP_23] | skip
      refine v_vret hC dX2_putLast_50 hr ?_ (Nat.le_of_ble_eq_true rfl) (Nat.le_of_ble_eq_true rfl)
      refine ⟨rfl, ?_⟩
      first | (rw [hPut, if_pos ⟨by assumption, by assumption⟩]; rfl) | (rw [hPut, if_neg (by simp_all [putA_get, putA_fld, putF_get, putF_row])])
def hOwL (en : Nat → Int32) (o cnt : Int32) : Nat → Nat → hT → hT
  | 0, _, q => q
  | n + 1, j, q => if nI j < cnt then hOwL en o cnt n (j + 1) (hPut o (sEnt en o (nI j)) q) else q
def hOwn (G : GS) (o : Int32) (q : hT) : hT := hOwL (G.2.1 0 10) o (sCnt (G.2.1 0 9) o) 6 0 (jChg q.1 o true, q.2)
set_option maxHeartbeats 4000000 in
set_option maxRecDepth 20000 in
theorem c_X2_takeOwn {l : Launch} (hl : l.stackTraces = false) (Θ : cTH) (o : Int32) (q : hT) (G : GS) : Ct l yX2_takeOwn cX2_takeOwn 5 none rm_X2_takeOwn Θ [.ref (tR Θ 0 22), .ref (tR Θ 0 8), .int o] (hP G q) (fR none (hP G (hOwn G o q))) := by
  refine ct_of (LS := [some (.ref (tR Θ 0 22)), some (.ref (tR Θ 0 8)), some (.int o), none, none]) hl (by decide +kernel) rfl (Nat.le_of_ble_eq_true rfl) rfl ?_
  intro p e s m args below meth c hC hr
  have L : ∀ (n j : Nat) (q2 : hT), n + j = 6 → hOwL (G.2.1 0 10) o (sCnt (G.2.1 0 9) o) n j q2 = hOwn G o q → V p l e rm_X2_takeOwn s m args below meth c 5 Θ (fR none (hP G (hOwn G o q))) 0 0 0 0 22 [some (.ref (tR Θ 0 22)), some (.ref (tR Θ 0 8)), some (.int o), some (.int (sCnt (G.2.1 0 9) o)), some (.int (nI j))] [] (hP G q2) := by
    intro n
    induction n with
    | zero =>
      intro j q2 h1 h2
      refine v_iload (q := 24) hC dX2_takeOwn_22 rfl rfl ?_
      refine v_bipush (q := 26) (v := 6) hC dX2_takeOwn_24 rfl (by decide) ?_
      refine v_icmp_ge (q := 53) (q2 := 29) hC dX2_takeOwn_26 (by decide) rfl (fun c_26 => ?_) (fun c_26 => ?_)
      · refine v_vret hC dX2_takeOwn_53 hr ?_ (Nat.le_of_ble_eq_true rfl) (Nat.le_of_ble_eq_true rfl)
        exact ⟨rfl, by rw [← h2, hOwL]⟩
      · exact absurd (by rw [show j = 6 by omega]; decide) c_26
    | succ n ih =>
      intro j q2 h1 h2
      refine v_iload (q := 24) hC dX2_takeOwn_22 rfl rfl ?_
      refine v_bipush (q := 26) (v := 6) hC dX2_takeOwn_24 rfl (by decide) ?_
      refine v_icmp_ge (q := 53) (q2 := 29) hC dX2_takeOwn_26 (by decide) rfl (fun c_26 => ?_) (fun c_26 => ?_)
      · exact absurd c_26 (by rw [show (6 : Int32) = nI 6 from rfl]; exact nI_ge (by omega) (by omega))
      · refine v_iload (q := 31) hC dX2_takeOwn_29 rfl rfl ?_
        refine v_iload_n (i := 3) (q := 32) hC dX2_takeOwn_31 rfl rfl rfl ?_
        refine v_icmp_ge (q := 53) (q2 := 35) hC dX2_takeOwn_32 (by decide) rfl (fun c_32 => ?_) (fun c_32 => ?_)
        · refine v_vret hC dX2_takeOwn_53 hr ?_ (Nat.le_of_ble_eq_true rfl) (Nat.le_of_ble_eq_true rfl)
          exact ⟨rfl, by rw [← h2, hOwL, if_neg (Int32.not_lt.mpr c_32)]⟩
        · refine v_aload_n (i := 0) (q := 36) hC dX2_takeOwn_35 rfl rfl rfl ?_
          refine v_iload_n (i := 2) (q := 37) hC dX2_takeOwn_36 rfl rfl rfl ?_
          refine v_aload_n (i := 1) (q := 38) hC dX2_takeOwn_37 rfl rfl rfl ?_
          refine v_iload_n (i := 2) (q := 39) hC dX2_takeOwn_38 rfl rfl rfl ?_
          refine v_iload (q := 41) hC dX2_takeOwn_39 rfl rfl ?_
          refine v_callV (q := 44) (rm := rm_X6_entryAt) hC (c_X6_entryAt hl Θ _ _ _) k_X6_entryAt im_yX6_entryAt se_yX6_entryAt ml_RX2_108 dX2_takeOwn_41 rfl rfl rfl rfl rfl rfl (Nat.le_of_ble_eq_true rfl) ⟨Nat.le_of_ble_eq_true rfl, Nat.le_of_ble_eq_true rfl⟩ ⟨Nat.le_of_ble_eq_true rfl, Nat.le_of_ble_eq_true rfl⟩ (fR_k ?_) fR_x (Nat.le_of_ble_eq_true rfl) (Nat.le_of_ble_eq_true rfl)
          try dsimp only [Option.toList, List.cons_append, List.nil_append]
          refine v_callV (q := 47) (rm := rm_X2_putLast) hC (c_X2_putLast hl Θ _ _ q2 G) k_X2_putLast im_yX2_putLast se_yX2_putLast ml_RX2_111 dX2_takeOwn_44 rfl rfl rfl rfl rfl rfl (Nat.le_of_ble_eq_true rfl) ⟨Nat.le_of_ble_eq_true rfl, Nat.le_of_ble_eq_true rfl⟩ ⟨Nat.le_of_ble_eq_true rfl, Nat.le_of_ble_eq_true rfl⟩ (fR_k ?_) fR_x (Nat.le_of_ble_eq_true rfl) (Nat.le_of_ble_eq_true rfl)
          try dsimp only [Option.toList, List.cons_append, List.nil_append]
          refine v_iinc (q := 50) (v := nI (j + 1)) hC dX2_takeOwn_47 rfl rfl (nI_1 j) (lvc rfl) (Nat.le_of_ble_eq_true rfl) (Nat.le_of_ble_eq_true rfl) rfl ?_
          refine v_goto (q := 22) hC dX2_takeOwn_50 (by decide) ?_
          exact ih (j + 1) _ (by omega) (by rw [← h2, hOwL, if_pos (Int32.not_le.mp c_32)]; rfl)
  refine v_aload_n (i := 0) (q := 1) hC dX2_takeOwn_0 rfl rfl rfl ?_
  refine v_aload_n (i := 0) (q := 2) hC dX2_takeOwn_1 rfl rfl rfl ?_
  refine g_X2_0 (q := 5) hC dX2_takeOwn_2 rfl rfl fl_RX2_9 ?_
  refine v_iload_n (i := 2) (q := 6) hC dX2_takeOwn_5 rfl rfl rfl ?_
  refine v_iconst (q := 7) (v := 1) hC dX2_takeOwn_6 rfl (by decide) ?_
  refine v_callN (q := 10) (rm := rm_X11_changed) hC (c_X11_changed hl Θ _ _ true _) k_X11_changed st_yX11_changed nl_RX2_99 dX2_takeOwn_7 rfl  rfl rfl (Nat.le_of_ble_eq_true rfl) ⟨Nat.le_of_ble_eq_true rfl, Nat.le_of_ble_eq_true rfl⟩ ⟨Nat.le_of_ble_eq_true rfl, Nat.le_of_ble_eq_true rfl⟩ (fR_k ?_) fR_x (Nat.le_of_ble_eq_true rfl) (Nat.le_of_ble_eq_true rfl)
  try dsimp only [Option.toList, List.cons_append, List.nil_append]
  refine p_X2_0 (q := 13) hC dX2_takeOwn_10 rfl rfl fl_RX2_9 ?_
  rw [hP_22]
  refine v_aload_n (i := 1) (q := 14) hC dX2_takeOwn_13 rfl rfl rfl ?_
  refine v_iload_n (i := 2) (q := 15) hC dX2_takeOwn_14 rfl rfl rfl ?_
  refine v_callV (q := 18) (rm := rm_X6_countAt) hC (c_X6_countAt hl Θ _ _) k_X6_countAt im_yX6_countAt se_yX6_countAt ml_RX2_103 dX2_takeOwn_15 rfl rfl rfl rfl rfl rfl (Nat.le_of_ble_eq_true rfl) ⟨Nat.le_of_ble_eq_true rfl, Nat.le_of_ble_eq_true rfl⟩ ⟨Nat.le_of_ble_eq_true rfl, Nat.le_of_ble_eq_true rfl⟩ (fR_k ?_) fR_x (Nat.le_of_ble_eq_true rfl) (Nat.le_of_ble_eq_true rfl)
  try dsimp only [Option.toList, List.cons_append, List.nil_append]
  refine v_istore_n (i := 3) (q := 19) hC dX2_takeOwn_18 rfl rfl (lvc rfl) (Nat.le_of_ble_eq_true rfl) (Nat.le_of_ble_eq_true rfl) rfl ?_
  refine v_iconst (q := 20) (v := 0) hC dX2_takeOwn_19 rfl (by decide) ?_
  refine v_istore (q := 22) hC dX2_takeOwn_20 rfl (lvc rfl) (Nat.le_of_ble_eq_true rfl) (Nat.le_of_ble_eq_true rfl) rfl ?_
  exact L 6 0 (jChg q.1 o true, q.2) rfl rfl
def hHL (pa o : Int32) : Nat → Nat → hT → hT
  | 0, _, q => q
  | n + 1, j, q => if nI j < sCnt q.2.1 pa then hHL pa o n (j + 1) (if eBelow (hCode q.2.2 pa (nI j)) = true then hPut o (hCode q.2.2 pa (nI j)) q else q) else q
def hHd (pa o : Int32) (b : Bool) (q : hT) : hT := if b = true then hHL pa o 120 0 q else q
set_option maxHeartbeats 4000000 in
set_option maxRecDepth 20000 in
theorem c_X2_takeHanded {l : Launch} (hl : l.stackTraces = false) (Θ : cTH) (pa o : Int32) (b : Bool) (q : hT) (G : GS) : Ct l yX2_takeHanded cX2_takeHanded 6 none rm_X2_takeHanded Θ [.ref (tR Θ 0 22), .int pa, .int o, .int (b2i b)] (hP G q) (fR none (hP G (hHd pa o b q))) := by
  refine ct_of (LS := [some (.ref (tR Θ 0 22)), some (.int pa), some (.int o), some (.int (b2i b)), none, none]) hl (by decide +kernel) rfl (Nat.le_of_ble_eq_true rfl) rfl ?_
  intro p e s m args below meth c hC hr
  rcases (Bool.eq_false_or_eq_true b).symm with hb | hb
  ·
    refine v_iconst (q := 1) (v := 0) hC dX2_takeHanded_0 rfl (by decide) ?_
    refine v_istore (q := 3) hC dX2_takeHanded_1 rfl (lvc rfl) (Nat.le_of_ble_eq_true rfl) (Nat.le_of_ble_eq_true rfl) rfl ?_
    refine v_iload_n (i := 3) (q := 4) hC dX2_takeHanded_3 rfl rfl rfl ?_
    refine v_if_eq (q := 54) (q2 := 7) hC dX2_takeHanded_4 (by decide) rfl (fun c_4 => ?_) (fun c_4 => ?_)
    · refine v_vret hC dX2_takeHanded_54 hr ?_ (Nat.le_of_ble_eq_true rfl) (Nat.le_of_ble_eq_true rfl)
      exact ⟨rfl, by rw [hHd, if_neg (by rw [hb]; decide)]⟩
    · exact absurd (by rw [hb]; rfl) c_4
  ·
    have L : ∀ (n j : Nat) (q2 : hT) (x5 : Option Value), n + j = 120 → hHL pa o n j q2 = hHd pa o b q → V p l e rm_X2_takeHanded s m args below meth c 6 Θ (fR none (hP G (hHd pa o b q))) 0 0 0 0 3 [some (.ref (tR Θ 0 22)), some (.int pa), some (.int o), some (.int (b2i b)), some (.int (nI j)), x5] [] (hP G q2) := by
      intro n
      induction n with
      | zero =>
        intro j q2 x5 h1 h2
        refine v_iload_n (i := 3) (q := 4) hC dX2_takeHanded_3 rfl rfl rfl ?_
        refine v_if_eq (q := 54) (q2 := 7) hC dX2_takeHanded_4 (by decide) rfl (fun c_4 => ?_) (fun c_4 => ?_)
        · exact absurd c_4 (by rw [hb]; decide)
        · refine v_iload (q := 9) hC dX2_takeHanded_7 rfl rfl ?_
          refine v_bipush (q := 11) (v := 120) hC dX2_takeHanded_9 rfl (by decide) ?_
          refine v_icmp_ge (q := 54) (q2 := 14) hC dX2_takeHanded_11 (by decide) rfl (fun c_11 => ?_) (fun c_11 => ?_)
          · refine v_vret hC dX2_takeHanded_54 hr ?_ (Nat.le_of_ble_eq_true rfl) (Nat.le_of_ble_eq_true rfl)
            exact ⟨rfl, by rw [← h2, hHL]⟩
          · exact absurd (by rw [show j = 120 by omega]; decide) c_11
      | succ n ih =>
        intro j q2 x5 h1 h2
        refine v_iload_n (i := 3) (q := 4) hC dX2_takeHanded_3 rfl rfl rfl ?_
        refine v_if_eq (q := 54) (q2 := 7) hC dX2_takeHanded_4 (by decide) rfl (fun c_4 => ?_) (fun c_4 => ?_)
        · exact absurd c_4 (by rw [hb]; decide)
        · refine v_iload (q := 9) hC dX2_takeHanded_7 rfl rfl ?_
          refine v_bipush (q := 11) (v := 120) hC dX2_takeHanded_9 rfl (by decide) ?_
          refine v_icmp_ge (q := 54) (q2 := 14) hC dX2_takeHanded_11 (by decide) rfl (fun c_11 => ?_) (fun c_11 => ?_)
          · exact absurd c_11 (by rw [show (120 : Int32) = nI 120 from rfl]; exact nI_ge (by omega) (by omega))
          · refine v_iload (q := 16) hC dX2_takeHanded_14 rfl rfl ?_
            refine v_aload_n (i := 0) (q := 17) hC dX2_takeHanded_16 rfl rfl rfl ?_
            refine v_iload_n (i := 1) (q := 18) hC dX2_takeHanded_17 rfl rfl rfl ?_
            refine v_callV (q := 21) (rm := rm_X2_lengthAt) hC (c_X2_lengthAt hl Θ _ q2 G) k_X2_lengthAt im_yX2_lengthAt se_yX2_lengthAt ml_RX2_55 dX2_takeHanded_18 rfl rfl rfl rfl rfl rfl (Nat.le_of_ble_eq_true rfl) ⟨Nat.le_of_ble_eq_true rfl, Nat.le_of_ble_eq_true rfl⟩ ⟨Nat.le_of_ble_eq_true rfl, Nat.le_of_ble_eq_true rfl⟩ (fR_k ?_) fR_x (Nat.le_of_ble_eq_true rfl) (Nat.le_of_ble_eq_true rfl)
            try dsimp only [Option.toList, List.cons_append, List.nil_append]
            refine v_icmp_ge (q := 54) (q2 := 24) hC dX2_takeHanded_21 (by decide) rfl (fun c_21 => ?_) (fun c_21 => ?_)
            · refine v_vret hC dX2_takeHanded_54 hr ?_ (Nat.le_of_ble_eq_true rfl) (Nat.le_of_ble_eq_true rfl)
              exact ⟨rfl, by rw [← h2, hHL, if_neg (Int32.not_lt.mpr c_21)]⟩
            · refine v_aload_n (i := 0) (q := 25) hC dX2_takeHanded_24 rfl rfl rfl ?_
              refine v_iload_n (i := 1) (q := 26) hC dX2_takeHanded_25 rfl rfl rfl ?_
              refine v_iload (q := 28) hC dX2_takeHanded_26 rfl rfl ?_
              refine v_callV (q := 31) (rm := rm_X2_codeIn) hC (c_X2_codeIn hl Θ _ _ q2 G) k_X2_codeIn im_yX2_codeIn se_yX2_codeIn ml_RX2_58 dX2_takeHanded_28 rfl rfl rfl rfl rfl rfl (Nat.le_of_ble_eq_true rfl) ⟨Nat.le_of_ble_eq_true rfl, Nat.le_of_ble_eq_true rfl⟩ ⟨Nat.le_of_ble_eq_true rfl, Nat.le_of_ble_eq_true rfl⟩ (fR_k ?_) fR_x (Nat.le_of_ble_eq_true rfl) (Nat.le_of_ble_eq_true rfl)
              try dsimp only [Option.toList, List.cons_append, List.nil_append]
              refine v_istore (q := 33) hC dX2_takeHanded_31 rfl (lvc rfl) (Nat.le_of_ble_eq_true rfl) (Nat.le_of_ble_eq_true rfl) rfl ?_
              refine v_iload (q := 35) hC dX2_takeHanded_33 rfl rfl ?_
              refine v_callS (q := 38) (rm := rm_X1_countsBelow) hC (c_X1_countsBelow hl Θ _ _) k_X1_countsBelow st_yX1_countsBelow ml_RX2_115 dX2_takeHanded_35 rfl  rfl rfl (Nat.le_of_ble_eq_true rfl) ⟨Nat.le_of_ble_eq_true rfl, Nat.le_of_ble_eq_true rfl⟩ ⟨Nat.le_of_ble_eq_true rfl, Nat.le_of_ble_eq_true rfl⟩ (fR_k ?_) fR_x (Nat.le_of_ble_eq_true rfl) (Nat.le_of_ble_eq_true rfl)
              try dsimp only [Option.toList, List.cons_append, List.nil_append]
              refine v_ifb_eq (q := 48) (q2 := 41) hC dX2_takeHanded_38 (by decide) rfl (fun c_38 => ?_) (fun c_38 => ?_)
              · refine v_iinc (q := 51) (v := nI (j + 1)) hC dX2_takeHanded_48 rfl rfl (nI_1 j) (lvc rfl) (Nat.le_of_ble_eq_true rfl) (Nat.le_of_ble_eq_true rfl) rfl ?_
                refine v_goto (q := 3) hC dX2_takeHanded_51 (by decide) ?_
                refine ih (j + 1) _ _ (by omega) ?_
                rw [← h2, hHL, if_pos (Int32.not_le.mp c_21)]
                first | rw [if_pos c_38] | rw [if_neg (by rw [c_38]; decide)]
              · refine v_aload_n (i := 0) (q := 42) hC dX2_takeHanded_41 rfl rfl rfl ?_
                refine v_iload_n (i := 2) (q := 43) hC dX2_takeHanded_42 rfl rfl rfl ?_
                refine v_iload (q := 45) hC dX2_takeHanded_43 rfl rfl ?_
                refine v_callV (q := 48) (rm := rm_X2_putLast) hC (c_X2_putLast hl Θ _ _ q2 G) k_X2_putLast im_yX2_putLast se_yX2_putLast ml_RX2_111 dX2_takeHanded_45 rfl rfl rfl rfl rfl rfl (Nat.le_of_ble_eq_true rfl) ⟨Nat.le_of_ble_eq_true rfl, Nat.le_of_ble_eq_true rfl⟩ ⟨Nat.le_of_ble_eq_true rfl, Nat.le_of_ble_eq_true rfl⟩ (fR_k ?_) fR_x (Nat.le_of_ble_eq_true rfl) (Nat.le_of_ble_eq_true rfl)
                try dsimp only [Option.toList, List.cons_append, List.nil_append]
                refine v_iinc (q := 51) (v := nI (j + 1)) hC dX2_takeHanded_48 rfl rfl (nI_1 j) (lvc rfl) (Nat.le_of_ble_eq_true rfl) (Nat.le_of_ble_eq_true rfl) rfl ?_
                refine v_goto (q := 3) hC dX2_takeHanded_51 (by decide) ?_
                refine ih (j + 1) _ _ (by omega) ?_
                rw [← h2, hHL, if_pos (Int32.not_le.mp c_21)]
                first | rw [if_pos c_38] | rw [if_neg (by rw [c_38]; decide)]
    refine v_iconst (q := 1) (v := 0) hC dX2_takeHanded_0 rfl (by decide) ?_
    refine v_istore (q := 3) hC dX2_takeHanded_1 rfl (lvc rfl) (Nat.le_of_ble_eq_true rfl) (Nat.le_of_ble_eq_true rfl) rfl ?_
    exact L 120 0 q none rfl (by rw [hHd, if_pos hb])
def hSt (G : GS) (o : Int32) (q : hT) : hT := if jHas q.1 o = false ∧ jHas q.1 (tAt (G.1 0 4 0) (G.2.1 0 5) o (-1)) = true then hHd (tAt (G.1 0 4 0) (G.2.1 0 5) o (-1)) o (jHas (G.1 0 4 1) o) (hOwn G o q) else q
def hOb (G : GS) : Nat → Nat → hT → hT
  | 0, _, q => q
  | n + 1, j, q => hOb G n (j + 1) (hSt G (nI j) q)
def hRd (G : GS) : Nat → hT → hT
  | 0, q => q
  | n + 1, q => hRd G n (hOb G 19 1 q)
def hAll (G : GS) : hT := hRd G 19 (hOwn G 0 (0, fun _ => 0, G.2.1 0 24))
set_option maxHeartbeats 4000000 in
set_option maxRecDepth 20000 in
theorem c_X2_handAllDown {l : Launch} (hl : l.stackTraces = false) (Θ : cTH) (G : GS) : Ct l yX2_handAllDown cX2_handAllDown 5 none rm_X2_handAllDown Θ [.ref (tR Θ 0 22), .ref (tR Θ 0 0)] (G) (fR none (hP G (hAll G))) := by
  refine ct_of (LS := [some (.ref (tR Θ 0 22)), some (.ref (tR Θ 0 0)), none, none, none]) hl (by decide +kernel) rfl (Nat.le_of_ble_eq_true rfl) rfl ?_
  intro p e s m args below meth c hC hr
  have L : ∀ (n j : Nat) (q : hT) (x3 x4 : Option Value), n + j = 20 → hRd G n q = hAll G → V p l e rm_X2_handAllDown s m args below meth c 5 Θ (fR none (hP G (hAll G))) 0 0 0 0 24 [some (.ref (tR Θ 0 22)), some (.ref (tR Θ 0 0)), some (.int (nI j)), x3, x4] [] (hP G q) := by
    intro n
    induction n with
    | zero =>
      intro j q x3 x4 h1 h2
      refine v_iload_n (i := 2) (q := 25) hC dX2_handAllDown_24 rfl rfl rfl ?_
      refine v_bipush (q := 27) (v := 20) hC dX2_handAllDown_25 rfl (by decide) ?_
      refine v_icmp_ge (q := 107) (q2 := 30) hC dX2_handAllDown_27 (by decide) rfl (fun c_27 => ?_) (fun c_27 => ?_)
      · refine v_vret hC dX2_handAllDown_107 hr ?_ (Nat.le_of_ble_eq_true rfl) (Nat.le_of_ble_eq_true rfl)
        exact ⟨rfl, by rw [← h2, hRd]⟩
      · exact absurd (by rw [show j = 20 by omega]; decide) c_27
    | succ n ih =>
      intro j q x3 x4 h1 h2
      have L2 : ∀ (n2 j2 : Nat) (q2 : hT) (x4 : Option Value), n2 + j2 = 20 → hOb G n2 j2 q2 = hOb G 19 1 q → V p l e rm_X2_handAllDown s m args below meth c 5 Θ (fR none (hP G (hAll G))) 0 0 0 0 32 [some (.ref (tR Θ 0 22)), some (.ref (tR Θ 0 0)), some (.int (nI j)), some (.int (nI j2)), x4] [] (hP G q2) := by
        intro n2
        induction n2 with
        | zero =>
          intro j2 q2 x4 h4 h5
          refine v_iload_n (i := 3) (q := 33) hC dX2_handAllDown_32 rfl rfl rfl ?_
          refine v_bipush (q := 35) (v := 20) hC dX2_handAllDown_33 rfl (by decide) ?_
          refine v_icmp_ge (q := 101) (q2 := 38) hC dX2_handAllDown_35 (by decide) rfl (fun c_35 => ?_) (fun c_35 => ?_)
          · refine v_iinc (q := 104) (v := nI (j + 1)) hC dX2_handAllDown_101 rfl rfl (nI_1 j) (lvc rfl) (Nat.le_of_ble_eq_true rfl) (Nat.le_of_ble_eq_true rfl) rfl ?_
            refine v_goto (q := 24) hC dX2_handAllDown_104 (by decide) ?_
            exact ih (j + 1) _ _ _ (by omega) (by rw [← h2, hRd, ← h5, hOb])
          · exact absurd (by rw [show j2 = 20 by omega]; decide) c_35
        | succ n2 ih2 =>
          intro j2 q2 x4 h4 h5
          refine v_iload_n (i := 3) (q := 33) hC dX2_handAllDown_32 rfl rfl rfl ?_
          refine v_bipush (q := 35) (v := 20) hC dX2_handAllDown_33 rfl (by decide) ?_
          refine v_icmp_ge (q := 101) (q2 := 38) hC dX2_handAllDown_35 (by decide) rfl (fun c_35 => ?_) (fun c_35 => ?_)
          · exact absurd c_35 (by rw [show (20 : Int32) = nI 20 from rfl]; exact nI_ge (by omega) (by omega))
          · refine v_aload_n (i := 1) (q := 39) hC dX2_handAllDown_38 rfl rfl rfl ?_
            refine g_X9_1 (q := 42) hC dX2_handAllDown_39 rfl rfl fl_RX2_46 ?_
            refine v_iload_n (i := 3) (q := 43) hC dX2_handAllDown_42 rfl rfl rfl ?_
            refine v_callV (q := 46) (rm := rm_X10_parentAt) hC (c_X10_parentAt hl Θ _ _) k_X10_parentAt im_yX10_parentAt se_yX10_parentAt ml_RX2_88 dX2_handAllDown_43 rfl rfl rfl rfl rfl rfl (Nat.le_of_ble_eq_true rfl) ⟨Nat.le_of_ble_eq_true rfl, Nat.le_of_ble_eq_true rfl⟩ ⟨Nat.le_of_ble_eq_true rfl, Nat.le_of_ble_eq_true rfl⟩ (fR_k ?_) fR_x (Nat.le_of_ble_eq_true rfl) (Nat.le_of_ble_eq_true rfl)
            try dsimp only [Option.toList, List.cons_append, List.nil_append]
            refine v_istore (q := 48) hC dX2_handAllDown_46 rfl (lvc rfl) (Nat.le_of_ble_eq_true rfl) (Nat.le_of_ble_eq_true rfl) rfl ?_
            refine v_aload_n (i := 0) (q := 49) hC dX2_handAllDown_48 rfl rfl rfl ?_
            refine g_X2_0 (q := 52) hC dX2_handAllDown_49 rfl rfl fl_RX2_9 ?_
            refine v_iload_n (i := 3) (q := 53) hC dX2_handAllDown_52 rfl rfl rfl ?_
            refine v_callN (q := 56) (rm := rm_X11_has) hC (c_X11_has hl Θ _ _ _) k_X11_has st_yX11_has nl_RX2_67 dX2_handAllDown_53 rfl  rfl rfl (Nat.le_of_ble_eq_true rfl) ⟨Nat.le_of_ble_eq_true rfl, Nat.le_of_ble_eq_true rfl⟩ ⟨Nat.le_of_ble_eq_true rfl, Nat.le_of_ble_eq_true rfl⟩ (fR_k ?_) fR_x (Nat.le_of_ble_eq_true rfl) (Nat.le_of_ble_eq_true rfl)
            try dsimp only [Option.toList, List.cons_append, List.nil_append]
            refine v_ifb_ne (q := 95) (q2 := 59) hC dX2_handAllDown_56 (by decide) rfl (fun c_56 => ?_) (fun c_56 => ?_)
            · refine v_iinc (q := 98) (v := nI (j2 + 1)) hC dX2_handAllDown_95 rfl rfl (nI_1 j2) (lvc rfl) (Nat.le_of_ble_eq_true rfl) (Nat.le_of_ble_eq_true rfl) rfl ?_
              refine v_goto (q := 32) hC dX2_handAllDown_98 (by decide) ?_
              refine ih2 (j2 + 1) _ _ (by omega) ?_
              rw [← h5, hOb, hSt]
              first | (rw [if_pos ⟨c_56, c_68⟩]; rfl) | (rw [if_neg (fun z => by simp_all [putA_get, putA_fld, putF_get, putF_row])])
            · refine v_aload_n (i := 0) (q := 60) hC dX2_handAllDown_59 rfl rfl rfl ?_
              refine g_X2_0 (q := 63) hC dX2_handAllDown_60 rfl rfl fl_RX2_9 ?_
              refine v_iload (q := 65) hC dX2_handAllDown_63 rfl rfl ?_
              refine v_callN (q := 68) (rm := rm_X11_has) hC (c_X11_has hl Θ _ _ _) k_X11_has st_yX11_has nl_RX2_67 dX2_handAllDown_65 rfl  rfl rfl (Nat.le_of_ble_eq_true rfl) ⟨Nat.le_of_ble_eq_true rfl, Nat.le_of_ble_eq_true rfl⟩ ⟨Nat.le_of_ble_eq_true rfl, Nat.le_of_ble_eq_true rfl⟩ (fR_k ?_) fR_x (Nat.le_of_ble_eq_true rfl) (Nat.le_of_ble_eq_true rfl)
              try dsimp only [Option.toList, List.cons_append, List.nil_append]
              refine v_ifb_eq (q := 95) (q2 := 71) hC dX2_handAllDown_68 (by decide) rfl (fun c_68 => ?_) (fun c_68 => ?_)
              · refine v_iinc (q := 98) (v := nI (j2 + 1)) hC dX2_handAllDown_95 rfl rfl (nI_1 j2) (lvc rfl) (Nat.le_of_ble_eq_true rfl) (Nat.le_of_ble_eq_true rfl) rfl ?_
                refine v_goto (q := 32) hC dX2_handAllDown_98 (by decide) ?_
                refine ih2 (j2 + 1) _ _ (by omega) ?_
                rw [← h5, hOb, hSt]
                first | (rw [if_pos ⟨c_56, c_68⟩]; rfl) | (rw [if_neg (fun z => by simp_all [putA_get, putA_fld, putF_get, putF_row])])
              · refine v_aload_n (i := 0) (q := 72) hC dX2_handAllDown_71 rfl rfl rfl ?_
                refine v_aload_n (i := 1) (q := 73) hC dX2_handAllDown_72 rfl rfl rfl ?_
                refine g_X9_2 (q := 76) hC dX2_handAllDown_73 rfl rfl fl_RX2_81 ?_
                refine v_iload_n (i := 3) (q := 77) hC dX2_handAllDown_76 rfl rfl rfl ?_
                refine v_callV (q := 80) (rm := rm_X2_takeOwn) hC (c_X2_takeOwn hl Θ _ q2 G) k_X2_takeOwn im_yX2_takeOwn se_yX2_takeOwn ml_RX2_84 dX2_handAllDown_77 rfl rfl rfl rfl rfl rfl (Nat.le_of_ble_eq_true rfl) ⟨Nat.le_of_ble_eq_true rfl, Nat.le_of_ble_eq_true rfl⟩ ⟨Nat.le_of_ble_eq_true rfl, Nat.le_of_ble_eq_true rfl⟩ (fR_k ?_) fR_x (Nat.le_of_ble_eq_true rfl) (Nat.le_of_ble_eq_true rfl)
                try dsimp only [Option.toList, List.cons_append, List.nil_append]
                refine v_aload_n (i := 0) (q := 81) hC dX2_handAllDown_80 rfl rfl rfl ?_
                refine v_iload (q := 83) hC dX2_handAllDown_81 rfl rfl ?_
                refine v_iload_n (i := 3) (q := 84) hC dX2_handAllDown_83 rfl rfl rfl ?_
                refine v_aload_n (i := 1) (q := 85) hC dX2_handAllDown_84 rfl rfl rfl ?_
                refine g_X9_1 (q := 88) hC dX2_handAllDown_85 rfl rfl fl_RX2_46 ?_
                refine v_iload_n (i := 3) (q := 89) hC dX2_handAllDown_88 rfl rfl rfl ?_
                refine v_callV (q := 92) (rm := rm_X10_inherits) hC (c_X10_inherits hl Θ _ _) k_X10_inherits im_yX10_inherits se_yX10_inherits ml_RX2_91 dX2_handAllDown_89 rfl rfl rfl rfl rfl rfl (Nat.le_of_ble_eq_true rfl) ⟨Nat.le_of_ble_eq_true rfl, Nat.le_of_ble_eq_true rfl⟩ ⟨Nat.le_of_ble_eq_true rfl, Nat.le_of_ble_eq_true rfl⟩ (fR_k ?_) fR_x (Nat.le_of_ble_eq_true rfl) (Nat.le_of_ble_eq_true rfl)
                try dsimp only [Option.toList, List.cons_append, List.nil_append]
                refine v_callV (q := 95) (rm := rm_X2_takeHanded) hC (c_X2_takeHanded hl Θ _ _ _ _ G) k_X2_takeHanded im_yX2_takeHanded se_yX2_takeHanded ml_RX2_95 dX2_handAllDown_92 rfl rfl rfl rfl rfl rfl (Nat.le_of_ble_eq_true rfl) ⟨Nat.le_of_ble_eq_true rfl, Nat.le_of_ble_eq_true rfl⟩ ⟨Nat.le_of_ble_eq_true rfl, Nat.le_of_ble_eq_true rfl⟩ (fR_k ?_) fR_x (Nat.le_of_ble_eq_true rfl) (Nat.le_of_ble_eq_true rfl)
                try dsimp only [Option.toList, List.cons_append, List.nil_append]
                refine v_iinc (q := 98) (v := nI (j2 + 1)) hC dX2_handAllDown_95 rfl rfl (nI_1 j2) (lvc rfl) (Nat.le_of_ble_eq_true rfl) (Nat.le_of_ble_eq_true rfl) rfl ?_
                refine v_goto (q := 32) hC dX2_handAllDown_98 (by decide) ?_
                refine ih2 (j2 + 1) _ _ (by omega) ?_
                rw [← h5, hOb, hSt]
                first | (rw [if_pos ⟨c_56, c_68⟩]; rfl) | (rw [if_neg (fun z => by simp_all [putA_get, putA_fld, putF_get, putF_row])])
      refine v_iload_n (i := 2) (q := 25) hC dX2_handAllDown_24 rfl rfl rfl ?_
      refine v_bipush (q := 27) (v := 20) hC dX2_handAllDown_25 rfl (by decide) ?_
      refine v_icmp_ge (q := 107) (q2 := 30) hC dX2_handAllDown_27 (by decide) rfl (fun c_27 => ?_) (fun c_27 => ?_)
      · exact absurd c_27 (by rw [show (20 : Int32) = nI 20 from rfl]; exact nI_ge (by omega) (by omega))
      · refine v_iconst (q := 31) (v := 1) hC dX2_handAllDown_30 rfl (by decide) ?_
        refine v_istore_n (i := 3) (q := 32) hC dX2_handAllDown_31 rfl rfl (lvc rfl) (Nat.le_of_ble_eq_true rfl) (Nat.le_of_ble_eq_true rfl) rfl ?_
        exact L2 19 1 q _ rfl rfl
  refine v_aload_n (i := 0) (q := 1) hC dX2_handAllDown_0 rfl rfl rfl ?_
  refine v_iconst (q := 2) (v := 0) hC dX2_handAllDown_1 rfl (by decide) ?_
  refine p_X2_0 (q := 5) hC dX2_handAllDown_2 rfl rfl fl_RX2_9 ?_
  refine v_aload_n (i := 0) (q := 6) hC dX2_handAllDown_5 rfl rfl rfl ?_
  refine g_X2_1 (q := 9) hC dX2_handAllDown_6 rfl rfl fl_RX2_15 ?_
  refine v_iconst (q := 10) (v := 0) hC dX2_handAllDown_9 rfl (by decide) ?_
  refine v_callS (q := 13) (rm := rm_J7_fill_53178) hC (c_J7_fill_53178 hl Θ 0 23 20 _ _ rfl (fun _ _ => rfl) (by decide)) k_J7_fill_53178 st_yJ7_fill_53178 ml_RX2_75 dX2_handAllDown_10 rfl  rfl rfl (Nat.le_of_ble_eq_true rfl) ⟨Nat.le_of_ble_eq_true rfl, Nat.le_of_ble_eq_true rfl⟩ ⟨Nat.le_of_ble_eq_true rfl, Nat.le_of_ble_eq_true rfl⟩ (fR_k ?_) fR_x (Nat.le_of_ble_eq_true rfl) (Nat.le_of_ble_eq_true rfl)
  try dsimp only [Option.toList, List.cons_append, List.nil_append]
  rw [hP_self]
  refine v_aload_n (i := 0) (q := 14) hC dX2_handAllDown_13 rfl rfl rfl ?_
  refine v_aload_n (i := 1) (q := 15) hC dX2_handAllDown_14 rfl rfl rfl ?_
  refine g_X9_2 (q := 18) hC dX2_handAllDown_15 rfl rfl fl_RX2_81 ?_
  refine v_iconst (q := 19) (v := 0) hC dX2_handAllDown_18 rfl (by decide) ?_
  refine v_callV (q := 22) (rm := rm_X2_takeOwn) hC (c_X2_takeOwn hl Θ _ _ G) k_X2_takeOwn im_yX2_takeOwn se_yX2_takeOwn ml_RX2_84 dX2_handAllDown_19 rfl rfl rfl rfl rfl rfl (Nat.le_of_ble_eq_true rfl) ⟨Nat.le_of_ble_eq_true rfl, Nat.le_of_ble_eq_true rfl⟩ ⟨Nat.le_of_ble_eq_true rfl, Nat.le_of_ble_eq_true rfl⟩ (fR_k ?_) fR_x (Nat.le_of_ble_eq_true rfl) (Nat.le_of_ble_eq_true rfl)
  try dsimp only [Option.toList, List.cons_append, List.nil_append]
  refine v_iconst (q := 23) (v := 1) hC dX2_handAllDown_22 rfl (by decide) ?_
  refine v_istore_n (i := 2) (q := 24) hC dX2_handAllDown_23 rfl rfl (lvc rfl) (Nat.le_of_ble_eq_true rfl) (Nat.le_of_ble_eq_true rfl) rfl ?_
  exact L 19 1 _ none none rfl rfl
def hDcL (q : hT) (u gs : Int32) (own : Bool) (o r : Int32) : Nat → Nat → Int32
  | 0, _ => 0
  | n + 1, j => if nI j < sCnt q.2.1 o then (if (jHas (eRights (hCode q.2.2 o (nI j))) r && eFor (hCode q.2.2 o (nI j)) u gs own) = true then hCode q.2.2 o (nI j) else hDcL q u gs own o r n (j + 1)) else 0
def hDec (G : GS) (q : hT) (u o r : Int32) : Int32 := hDcL q u (dGs G u) (dOwn G u o) o r 120 0
set_option maxHeartbeats 4000000 in
set_option maxRecDepth 20000 in
theorem c_X2_decider {l : Launch} (hl : l.stackTraces = false) (Θ : cTH) (u o r : Int32) (q : hT) (G : GS) (hg : gOk G) : Ct l yX2_decider cX2_decider 9 (some .int) rm_X2_decider Θ [.ref (tR Θ 0 22), .ref (tR Θ 0 0), .int u, .int o, .int r] (hP G q) (fR (some (.int (hDec G q u o r))) (hP G q)) := by
  refine ct_of (LS := [some (.ref (tR Θ 0 22)), some (.ref (tR Θ 0 0)), some (.int u), some (.int o), some (.int r), none, none, none, none]) hl (by decide +kernel) rfl (Nat.le_of_ble_eq_true rfl) rfl ?_
  intro p e s m args below meth c hC hr
  have L : ∀ (n j : Nat) (x8 : Option Value), n + j = 120 → hDcL q u (dGs G u) (dOwn G u o) o r n j = hDec G q u o r → V p l e rm_X2_decider s m args below meth c 9 Θ (fR (some (.int (hDec G q u o r))) (hP G q)) 0 0 0 0 32 [some (.ref (tR Θ 0 22)), some (.ref (tR Θ 0 0)), some (.int u), some (.int o), some (.int r), some (.int (dGs G u)), some (.int (b2i (dOwn G u o))), some (.int (nI j)), x8] [] (hP G q) := by
    intro n
    induction n with
    | zero =>
      intro j x8 h1 h2
      refine v_iload (q := 34) hC dX2_decider_32 rfl rfl ?_
      refine v_bipush (q := 36) (v := 120) hC dX2_decider_34 rfl (by decide) ?_
      refine v_icmp_ge (q := 93) (q2 := 39) hC dX2_decider_36 (by decide) rfl (fun c_36 => ?_) (fun c_36 => ?_)
      · refine v_iconst (q := 94) (v := 0) hC dX2_decider_93 rfl (by decide) ?_
        refine v_iret hC dX2_decider_94 hr (rfl) ?_ (Nat.le_of_ble_eq_true rfl) (Nat.le_of_ble_eq_true rfl)
        exact ⟨by rw [← h2, hDcL], rfl⟩
      · exact absurd (by rw [show j = 120 by omega]; decide) c_36
    | succ n ih =>
      intro j x8 h1 h2
      rw [hDcL] at h2
      refine v_iload (q := 34) hC dX2_decider_32 rfl rfl ?_
      refine v_bipush (q := 36) (v := 120) hC dX2_decider_34 rfl (by decide) ?_
      refine v_icmp_ge (q := 93) (q2 := 39) hC dX2_decider_36 (by decide) rfl (fun c_36 => ?_) (fun c_36 => ?_)
      · exact absurd c_36 (by rw [show (120 : Int32) = nI 120 from rfl]; exact nI_ge (by omega) (by omega))
      · refine v_iload (q := 41) hC dX2_decider_39 rfl rfl ?_
        refine v_aload_n (i := 0) (q := 42) hC dX2_decider_41 rfl rfl rfl ?_
        refine v_iload_n (i := 3) (q := 43) hC dX2_decider_42 rfl rfl rfl ?_
        refine v_callV (q := 46) (rm := rm_X2_lengthAt) hC (c_X2_lengthAt hl Θ _ q G) k_X2_lengthAt im_yX2_lengthAt se_yX2_lengthAt ml_RX2_55 dX2_decider_43 rfl rfl rfl rfl rfl rfl (Nat.le_of_ble_eq_true rfl) ⟨Nat.le_of_ble_eq_true rfl, Nat.le_of_ble_eq_true rfl⟩ ⟨Nat.le_of_ble_eq_true rfl, Nat.le_of_ble_eq_true rfl⟩ (fR_k ?_) fR_x (Nat.le_of_ble_eq_true rfl) (Nat.le_of_ble_eq_true rfl)
        try dsimp only [Option.toList, List.cons_append, List.nil_append]
        refine v_icmp_ge (q := 93) (q2 := 49) hC dX2_decider_46 (by decide) rfl (fun c_46 => ?_) (fun c_46 => ?_)
        · refine v_iconst (q := 94) (v := 0) hC dX2_decider_93 rfl (by decide) ?_
          refine v_iret hC dX2_decider_94 hr (rfl) ?_ (Nat.le_of_ble_eq_true rfl) (Nat.le_of_ble_eq_true rfl)
          rw [if_neg (Int32.not_lt.mpr c_46)] at h2
          exact ⟨by rw [← h2], rfl⟩
        · refine v_aload_n (i := 0) (q := 50) hC dX2_decider_49 rfl rfl rfl ?_
          refine v_iload_n (i := 3) (q := 51) hC dX2_decider_50 rfl rfl rfl ?_
          refine v_iload (q := 53) hC dX2_decider_51 rfl rfl ?_
          refine v_callV (q := 56) (rm := rm_X2_codeIn) hC (c_X2_codeIn hl Θ _ _ q G) k_X2_codeIn im_yX2_codeIn se_yX2_codeIn ml_RX2_58 dX2_decider_53 rfl rfl rfl rfl rfl rfl (Nat.le_of_ble_eq_true rfl) ⟨Nat.le_of_ble_eq_true rfl, Nat.le_of_ble_eq_true rfl⟩ ⟨Nat.le_of_ble_eq_true rfl, Nat.le_of_ble_eq_true rfl⟩ (fR_k ?_) fR_x (Nat.le_of_ble_eq_true rfl) (Nat.le_of_ble_eq_true rfl)
          try dsimp only [Option.toList, List.cons_append, List.nil_append]
          refine v_istore (q := 58) hC dX2_decider_56 rfl (lvc rfl) (Nat.le_of_ble_eq_true rfl) (Nat.le_of_ble_eq_true rfl) rfl ?_
          refine v_iload (q := 60) hC dX2_decider_58 rfl rfl ?_
          refine v_callS (q := 63) (rm := rm_X1_rights) hC (c_X1_rights hl Θ _ _) k_X1_rights st_yX1_rights ml_RX2_62 dX2_decider_60 rfl  rfl rfl (Nat.le_of_ble_eq_true rfl) ⟨Nat.le_of_ble_eq_true rfl, Nat.le_of_ble_eq_true rfl⟩ ⟨Nat.le_of_ble_eq_true rfl, Nat.le_of_ble_eq_true rfl⟩ (fR_k ?_) fR_x (Nat.le_of_ble_eq_true rfl) (Nat.le_of_ble_eq_true rfl)
          try dsimp only [Option.toList, List.cons_append, List.nil_append]
          refine v_iload (q := 65) hC dX2_decider_63 rfl rfl ?_
          refine v_callN (q := 68) (rm := rm_X11_has) hC (c_X11_has hl Θ _ _ _) k_X11_has st_yX11_has nl_RX2_67 dX2_decider_65 rfl  rfl rfl (Nat.le_of_ble_eq_true rfl) ⟨Nat.le_of_ble_eq_true rfl, Nat.le_of_ble_eq_true rfl⟩ ⟨Nat.le_of_ble_eq_true rfl, Nat.le_of_ble_eq_true rfl⟩ (fR_k ?_) fR_x (Nat.le_of_ble_eq_true rfl) (Nat.le_of_ble_eq_true rfl)
          try dsimp only [Option.toList, List.cons_append, List.nil_append]
          refine v_ifb_eq (q := 87) (q2 := 71) hC dX2_decider_68 (by decide) rfl (fun c_68 => ?_) (fun c_68 => ?_)
          · refine v_iinc (q := 90) (v := nI (j + 1)) hC dX2_decider_87 rfl rfl (nI_1 j) (lvc rfl) (Nat.le_of_ble_eq_true rfl) (Nat.le_of_ble_eq_true rfl) rfl ?_
            refine v_goto (q := 32) hC dX2_decider_90 (by decide) ?_
            refine ih (j + 1) _ (by omega) ?_
            rw [if_pos (Int32.not_le.mp c_46), if_neg (by simp_all)] at h2
            exact h2
          · refine v_iload (q := 73) hC dX2_decider_71 rfl rfl ?_
            refine v_iload_n (i := 2) (q := 74) hC dX2_decider_73 rfl rfl rfl ?_
            refine v_iload (q := 76) hC dX2_decider_74 rfl rfl ?_
            refine v_iload (q := 78) hC dX2_decider_76 rfl rfl ?_
            refine v_callS (q := 81) (rm := rm_X1_isFor) hC (c_X1_isFor hl Θ _ _ _ _ _) k_X1_isFor st_yX1_isFor ml_RX2_71 dX2_decider_78 rfl  rfl rfl (Nat.le_of_ble_eq_true rfl) ⟨Nat.le_of_ble_eq_true rfl, Nat.le_of_ble_eq_true rfl⟩ ⟨Nat.le_of_ble_eq_true rfl, Nat.le_of_ble_eq_true rfl⟩ (fR_k ?_) fR_x (Nat.le_of_ble_eq_true rfl) (Nat.le_of_ble_eq_true rfl)
            try dsimp only [Option.toList, List.cons_append, List.nil_append]
            refine v_ifb_eq (q := 87) (q2 := 84) hC dX2_decider_81 (by decide) rfl (fun c_81 => ?_) (fun c_81 => ?_)
            · refine v_iinc (q := 90) (v := nI (j + 1)) hC dX2_decider_87 rfl rfl (nI_1 j) (lvc rfl) (Nat.le_of_ble_eq_true rfl) (Nat.le_of_ble_eq_true rfl) rfl ?_
              refine v_goto (q := 32) hC dX2_decider_90 (by decide) ?_
              refine ih (j + 1) _ (by omega) ?_
              rw [if_pos (Int32.not_le.mp c_46), if_neg (by simp_all)] at h2
              exact h2
            · refine v_iload (q := 86) hC dX2_decider_84 rfl rfl ?_
              refine v_iret hC dX2_decider_86 hr (rfl) ?_ (Nat.le_of_ble_eq_true rfl) (Nat.le_of_ble_eq_true rfl)
              rw [if_pos (Int32.not_le.mp c_46), if_pos (by simp_all)] at h2
              exact ⟨by rw [← h2], rfl⟩
  have Lm : ∀ (v : Bool), v = dOwn G u o → V p l e rm_X2_decider s m args below meth c 9 Θ (fR (some (.int (hDec G q u o r))) (hP G q)) 0 0 0 0 27 [some (.ref (tR Θ 0 22)), some (.ref (tR Θ 0 0)), some (.int u), some (.int o), some (.int r), some (.int (dGs G u)), none, none, none] [.int (b2i v)] (hP G q) := by
    intro v hv
    subst hv
    refine v_istore (q := 29) hC dX2_decider_27 rfl (lvc rfl) (Nat.le_of_ble_eq_true rfl) (Nat.le_of_ble_eq_true rfl) rfl ?_
    refine v_iconst (q := 30) (v := 0) hC dX2_decider_29 rfl (by decide) ?_
    refine v_istore (q := 32) hC dX2_decider_30 rfl (lvc rfl) (Nat.le_of_ble_eq_true rfl) (Nat.le_of_ble_eq_true rfl) rfl ?_
    exact L 120 0 none rfl rfl
  refine v_aload_n (i := 1) (q := 1) hC dX2_decider_0 rfl rfl rfl ?_
  refine g_X9_0 (q := 4) hC dX2_decider_1 rfl rfl fl_RX2_36 ?_
  refine v_iload_n (i := 2) (q := 5) hC dX2_decider_4 rfl rfl rfl ?_
  refine v_callV (q := 8) (rm := rm_X0_groupsOver) hC (c_X0_groupsOver hl Θ _ _ (gN G) hg.1 hg.2) k_X0_groupsOver im_yX0_groupsOver se_yX0_groupsOver ml_RX2_40 dX2_decider_5 rfl rfl rfl rfl rfl rfl (Nat.le_of_ble_eq_true rfl) ⟨Nat.le_of_ble_eq_true rfl, Nat.le_of_ble_eq_true rfl⟩ ⟨Nat.le_of_ble_eq_true rfl, Nat.le_of_ble_eq_true rfl⟩ (fR_k ?_) fR_x (Nat.le_of_ble_eq_true rfl) (Nat.le_of_ble_eq_true rfl)
  try dsimp only [Option.toList, List.cons_append, List.nil_append]
  refine v_istore (q := 10) hC dX2_decider_8 rfl (lvc rfl) (Nat.le_of_ble_eq_true rfl) (Nat.le_of_ble_eq_true rfl) rfl ?_
  refine v_aload_n (i := 1) (q := 11) hC dX2_decider_10 rfl rfl rfl ?_
  refine g_X9_1 (q := 14) hC dX2_decider_11 rfl rfl fl_RX2_46 ?_
  refine v_iload_n (i := 3) (q := 15) hC dX2_decider_14 rfl rfl rfl ?_
  refine v_callV (q := 18) (rm := rm_X10_ownerAt) hC (c_X10_ownerAt hl Θ _ _) k_X10_ownerAt im_yX10_ownerAt se_yX10_ownerAt ml_RX2_50 dX2_decider_15 rfl rfl rfl rfl rfl rfl (Nat.le_of_ble_eq_true rfl) ⟨Nat.le_of_ble_eq_true rfl, Nat.le_of_ble_eq_true rfl⟩ ⟨Nat.le_of_ble_eq_true rfl, Nat.le_of_ble_eq_true rfl⟩ (fR_k ?_) fR_x (Nat.le_of_ble_eq_true rfl) (Nat.le_of_ble_eq_true rfl)
  try dsimp only [Option.toList, List.cons_append, List.nil_append]
  refine v_iload_n (i := 2) (q := 19) hC dX2_decider_18 rfl rfl rfl ?_
  refine v_icmp_ne (q := 26) (q2 := 22) hC dX2_decider_19 (by decide) rfl (fun c_19 => ?_) (fun c_19 => ?_)
  · refine v_iconst (q := 27) (v := 0) hC dX2_decider_26 rfl (by decide) ?_
    first | exact Lm true (by simp_all [dOwn, putA_get, putA_fld, putF_get, putF_row]) | exact Lm false (by simp_all [dOwn, putA_get, putA_fld, putF_get, putF_row])
  · refine v_iconst (q := 23) (v := 1) hC dX2_decider_22 rfl (by decide) ?_
    refine v_goto (q := 27) hC dX2_decider_23 (by decide) ?_
    first | exact Lm true (by simp_all [dOwn, putA_get, putA_fld, putF_get, putF_row]) | exact Lm false (by simp_all [dOwn, putA_get, putA_fld, putF_get, putF_row])
def hGr (G : GS) (u o r : Int32) : Bool := sGr (G.1 0 4 0) (G.2.1 0 6) (G.2.1 0 7) u o r (hDec G (hAll G) u o r)
set_option maxHeartbeats 4000000 in
set_option maxRecDepth 20000 in
theorem c_X2_grants {l : Launch} (hl : l.stackTraces = false) (Θ : cTH) (u o r : Int32) (G : GS) (hg : gOk G) : Ct l yX2_grants cX2_grants 5 (some .boolean) rm_X2_grants Θ [.ref (tR Θ 0 22), .ref (tR Θ 0 0), .int u, .int o, .int r] (G) (fR (some (.int (b2i (hGr G u o r)))) (hP G (hAll G))) := by
  refine ct_of (LS := [some (.ref (tR Θ 0 22)), some (.ref (tR Θ 0 0)), some (.int u), some (.int o), some (.int r)]) hl (by decide +kernel) rfl (Nat.le_of_ble_eq_true rfl) rfl ?_
  intro p e s m args below meth c hC hr
  refine v_aload_n (i := 0) (q := 1) hC dX2_grants_0 rfl rfl rfl ?_
  refine v_aload_n (i := 1) (q := 2) hC dX2_grants_1 rfl rfl rfl ?_
  refine v_callV (q := 5) (rm := rm_X2_handAllDown) hC (c_X2_handAllDown hl Θ _) k_X2_handAllDown im_yX2_handAllDown se_yX2_handAllDown ml_RX2_22 dX2_grants_2 rfl rfl rfl rfl rfl rfl (Nat.le_of_ble_eq_true rfl) ⟨Nat.le_of_ble_eq_true rfl, Nat.le_of_ble_eq_true rfl⟩ ⟨Nat.le_of_ble_eq_true rfl, Nat.le_of_ble_eq_true rfl⟩ (fR_k ?_) fR_x (Nat.le_of_ble_eq_true rfl) (Nat.le_of_ble_eq_true rfl)
  try dsimp only [Option.toList, List.cons_append, List.nil_append]
  refine v_aload_n (i := 1) (q := 6) hC dX2_grants_5 rfl rfl rfl ?_
  refine v_iload_n (i := 2) (q := 7) hC dX2_grants_6 rfl rfl rfl ?_
  refine v_iload_n (i := 3) (q := 8) hC dX2_grants_7 rfl rfl rfl ?_
  refine v_iload (q := 10) hC dX2_grants_8 rfl rfl ?_
  refine v_aload_n (i := 0) (q := 11) hC dX2_grants_10 rfl rfl rfl ?_
  refine v_aload_n (i := 1) (q := 12) hC dX2_grants_11 rfl rfl rfl ?_
  refine v_iload_n (i := 2) (q := 13) hC dX2_grants_12 rfl rfl rfl ?_
  refine v_iload_n (i := 3) (q := 14) hC dX2_grants_13 rfl rfl rfl ?_
  refine v_iload (q := 16) hC dX2_grants_14 rfl rfl ?_
  refine v_callV (q := 19) (rm := rm_X2_decider) hC (c_X2_decider hl Θ _ _ _ _ G hg) k_X2_decider im_yX2_decider se_yX2_decider ml_RX2_26 dX2_grants_16 rfl rfl rfl rfl rfl rfl (Nat.le_of_ble_eq_true rfl) ⟨Nat.le_of_ble_eq_true rfl, Nat.le_of_ble_eq_true rfl⟩ ⟨Nat.le_of_ble_eq_true rfl, Nat.le_of_ble_eq_true rfl⟩ (fR_k ?_) fR_x (Nat.le_of_ble_eq_true rfl) (Nat.le_of_ble_eq_true rfl)
  try dsimp only [Option.toList, List.cons_append, List.nil_append]
  refine v_callV (q := 22) (rm := rm_X9_grants) hC (c_X9_grants hl Θ _ _ _ _ _) k_X9_grants im_yX9_grants se_yX9_grants ml_RX2_30 dX2_grants_19 rfl rfl rfl rfl rfl rfl (Nat.le_of_ble_eq_true rfl) ⟨Nat.le_of_ble_eq_true rfl, Nat.le_of_ble_eq_true rfl⟩ ⟨Nat.le_of_ble_eq_true rfl, Nat.le_of_ble_eq_true rfl⟩ (fR_k ?_) fR_x (Nat.le_of_ble_eq_true rfl) (Nat.le_of_ble_eq_true rfl)
  try dsimp only [Option.toList, List.cons_append, List.nil_append]
  refine v_iret hC dX2_grants_22 hr (by first | rfl | exact nar_b) ?_ (Nat.le_of_ble_eq_true rfl) (Nat.le_of_ble_eq_true rfl)
  exact ⟨rfl, rfl⟩
