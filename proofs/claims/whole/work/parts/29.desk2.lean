/-! PermissionDesk: loadEntries, restore, openness -/
theorem putF_commO (G : GS) (r o k r' o' k' : Nat) (v w : Int32) (h : ¬ (r' = r ∧ o' = o)) : putF (putF G r o k v) r' o' k' w = putF (putF G r' o' k' w) r o k v := by
  refine Prod.ext ?_ rfl
  funext a b c
  simp only [putF_get]
  by_cases h1 : a = r' ∧ b = o' ∧ c = k'
  · rw [if_pos h1, if_neg (fun z => h ⟨h1.1.symm.trans z.1, h1.2.1.symm.trans z.2.1⟩), if_pos h1]
  · rw [if_neg h1]
    by_cases h2 : a = r ∧ b = o ∧ c = k
    · rw [if_pos h2, if_pos h2]
    · rw [if_neg h2, if_neg h2, if_neg h1]
theorem putA_commO (G : GS) (r o r' o' : Nat) (v w : Nat → Int32) (h : ¬ (r' = r ∧ o' = o)) : putA (putA G r o v) r' o' w = putA (putA G r' o' w) r o v := by
  refine Prod.ext rfl (Prod.ext ?_ rfl)
  funext a b
  simp only [putA_get]
  by_cases h1 : a = r' ∧ b = o'
  · rw [if_pos h1, if_neg (fun z => h ⟨h1.1.symm.trans z.1, h1.2.symm.trans z.2⟩), if_pos h1]
  · rw [if_neg h1]
    by_cases h2 : a = r ∧ b = o
    · rw [if_pos h2, if_pos h2]
    · rw [if_neg h2, if_neg h2, if_neg h1]
theorem putF_lP (G : GS) (q : lT) (r o k : Nat) (v : Int32) (h : ¬ (r = 0 ∧ o = 27)) : putF (lP G q) r o k v = lP (putF G r o k v) q := by
  unfold lP
  rw [putF_putA, putF_commO _ _ _ _ _ _ _ _ _ h, putF_commO _ _ _ 1 _ _ _ _ _ h, putF_commO _ _ _ 0 _ _ _ _ _ h]
theorem putA_lP (G : GS) (q : lT) (r o : Nat) (a : Nat → Int32) (h : ¬ (r = 0 ∧ o = 28)) : putA (lP G q) r o a = lP (putA G r o a) q := by
  unfold lP
  rw [putA_commO _ _ _ _ _ _ _ h]
  rfl
theorem putF_lPs (G : GS) (q : lT) (r o k : Nat) (v : Int32) : putF (lP G q) (r + 1) o k v = lP (putF G (r + 1) o k v) q := putF_lP _ _ _ _ _ _ (by omega)
theorem putA_lPs (G : GS) (q : lT) (r o : Nat) (a : Nat → Int32) : putA (lP G q) (r + 1) o a = lP (putA G (r + 1) o a) q := putA_lP _ _ _ _ _ (by omega)
theorem cp_lP (a : Nat) (G : GS) (q : lT) : cpState (a + 1) 0 (lP G q) = lP (cpState (a + 1) 0 G) q := by
  have e1 : ∀ G : GS, cpClub (a + 1) 0 (lP G q) = lP (cpClub (a + 1) 0 G) q := fun G => by simp only [cpClub, putF_lPs, putA_lPs]; rfl
  have e2 : ∀ G : GS, cpTree (a + 1) 0 (lP G q) = lP (cpTree (a + 1) 0 G) q := fun G => by simp only [cpTree, putF_lPs, putA_lPs]; rfl
  have e3 : ∀ G : GS, cpLists (a + 1) 0 (lP G q) = lP (cpLists (a + 1) 0 G) q := fun G => by simp only [cpLists, putF_lPs, putA_lPs]; rfl
  have e4 : ∀ G : GS, cpLog (a + 1) 0 (lP G q) = lP (cpLog (a + 1) 0 G) q := fun G => by simp only [cpLog, putF_lPs, putA_lPs]; rfl
  unfold cpState
  rw [e1, e2, e3, e4]
theorem sKeep_lP (G : GS) (q : lT) : sKeep (lP G q) = lP (sKeep G) q := by
  unfold sKeep
  have e0 : (lP G q).1 0 15 0 = G.1 0 15 0 := rfl
  by_cases h : G.1 0 15 0 < 5
  · simp only [e0, if_pos h, cp_lP]
    rw [putF_lP _ _ _ _ _ _ (by decide)]
    rfl
  · simp only [e0, if_neg h]
    rw [putF_lP _ _ _ _ _ _ (by decide), putF_lP _ _ _ _ _ _ (by decide), cp_lP, putF_lP _ _ _ _ _ _ (by decide)]
    rfl
theorem putLs_lP (G : GS) (q : lT) (x : (Nat → Int32) × (Nat → Int32)) : putLs (lP G q) x = lP (putLs G x) q := by
  unfold putLs
  rw [putA_lP _ _ _ _ _ (by decide), putA_lP _ _ _ _ _ (by decide)]
theorem sArr_lP (G : GS) (q : lT) (o n i x : Int32) : sArr (lP G q) 0 9 n i x = lP (sArr G 0 9 n i x) q := by
  unfold sArr
  by_cases h : jIdx i n = true
  · rw [if_pos h, if_pos h, putA_lP _ _ _ _ _ (by decide)]
    rfl
  · rw [if_neg h, if_neg h]
theorem lP_9 (G : GS) (q : lT) : (lP G q).2.1 0 9 = G.2.1 0 9 := rfl
/-- the entries that were read are put in -/
def ldL (q : lT) : Nat → Nat → GS → GS
  | 0, _, G => G
  | n + 1, j, G => if nI j < q.2.2.1 then ldL q n (j + 1) (mvP q.2.1 (nI j) (q.2.2.2 j) G) else G
def ldG (q : lT) (G : GS) : GS := putF (ldL q 6 0 (sArr (sKeep G) 0 9 20 q.2.1 0)) 0 25 0 0
set_option maxHeartbeats 4000000 in
set_option maxRecDepth 20000 in
theorem c_X11_loadEntries {l : Launch} (hl : l.stackTraces = false) (Θ : cTH) (G : GS) : Ct l yX11_loadEntries cX11_loadEntries 2 (some .int) rm_X11_loadEntries Θ [.ref (tR Θ 0 14)] (G) (gt (rdG G).1 eS (gt (kn G (rdG G).2) eS (fR (some (.int (sCnt ((ldG (rdG G).2 G).2.1 0 9) (rdG G).2.2.1))) (lP (ldG (rdG G).2 G) (rdG G).2)) (lP G (rdG G).2)) (lP G (rdG G).2)) := by
  refine ct_of (LS := [some (.ref (tR Θ 0 14)), none]) hl (by decide +kernel) rfl (Nat.le_of_ble_eq_true rfl) rfl ?_
  intro p e s m args below meth c hC hr
  have L : ∀ (n j : Nat) (G2 : GS), n + j = 6 → putF (ldL (rdG G).2 n j G2) 0 25 0 0 = ldG (rdG G).2 G → V p l e rm_X11_loadEntries s m args below meth c 2 Θ (fR (some (.int (sCnt ((ldG (rdG G).2 G).2.1 0 9) (rdG G).2.2.1))) (lP (ldG (rdG G).2 G) (rdG G).2)) rm_X11_loadEntries.cells rm_X11_loadEntries.slots 0 0 80 [some (.ref (tR Θ 0 14)), some (.int (nI j))] [] (lP G2 (rdG G).2) := by
    intro n
    induction n with
    | zero =>
      intro j G2 h1 h2
      rw [ldL] at h2
      refine v_iload_n (i := 1) (q := 81) hC dX11_loadEntries_80 rfl rfl rfl ?_
      refine v_bipush (q := 83) (v := 6) hC dX11_loadEntries_81 rfl (by decide) ?_
      refine v_icmp_ge (q := 129) (q2 := 86) hC dX11_loadEntries_83 (by decide) rfl (fun c_83 => ?_) (fun c_83 => ?_)
      · refine v_aload_n (i := 0) (q := 130) hC dX11_loadEntries_129 rfl rfl rfl ?_
        refine g_X11_5 (q := 133) hC dX11_loadEntries_130 rfl rfl fl_RX11_44 ?_
        refine v_callV (q := 136) (rm := rm_X8_wipe) hC (c_X8_wipe hl Θ _) k_X8_wipe im_yX8_wipe se_yX8_wipe ml_RX11_264 dX11_loadEntries_133 rfl rfl rfl rfl rfl rfl (Nat.le_of_ble_eq_true rfl) ⟨Nat.le_of_ble_eq_true rfl, Nat.le_of_ble_eq_true rfl⟩ ⟨Nat.le_of_ble_eq_true rfl, Nat.le_of_ble_eq_true rfl⟩ (fR_k ?_) fR_x (Nat.le_of_ble_eq_true rfl) (Nat.le_of_ble_eq_true rfl)
        try dsimp only [Option.toList, List.cons_append, List.nil_append]
        rw [putF_lP _ _ _ _ _ _ (by decide), h2]
        refine v_aload_n (i := 0) (q := 137) hC dX11_loadEntries_136 rfl rfl rfl ?_
        refine g_X11_0 (q := 140) hC dX11_loadEntries_137 rfl rfl fl_RX11_10 ?_
        refine g_X9_2 (q := 143) hC dX11_loadEntries_140 rfl rfl fl_RX11_150 ?_
        refine v_aload_n (i := 0) (q := 144) hC dX11_loadEntries_143 rfl rfl rfl ?_
        refine g_X11_6 (q := 147) hC dX11_loadEntries_144 rfl rfl fl_RX11_51 ?_
        refine gl_1 (q := 150) hC dX11_loadEntries_147 rfl rfl fl_RX11_282 ?_
        refine v_callV (q := 153) (rm := rm_X6_countAt) hC (c_X6_countAt hl Θ _ _) k_X6_countAt im_yX6_countAt se_yX6_countAt ml_RX11_210 dX11_loadEntries_150 rfl rfl rfl rfl rfl rfl (Nat.le_of_ble_eq_true rfl) ⟨Nat.le_of_ble_eq_true rfl, Nat.le_of_ble_eq_true rfl⟩ ⟨Nat.le_of_ble_eq_true rfl, Nat.le_of_ble_eq_true rfl⟩ (fR_k ?_) fR_x (Nat.le_of_ble_eq_true rfl) (Nat.le_of_ble_eq_true rfl)
        try dsimp only [Option.toList, List.cons_append, List.nil_append]
        refine v_iret hC dX11_loadEntries_153 hr (rfl) ?_ (Nat.le_of_ble_eq_true rfl) (Nat.le_of_ble_eq_true rfl)
        exact ⟨by rw [lP_9], rfl⟩
      · exact absurd (by rw [show j = 6 by omega]; decide) c_83
    | succ n ih =>
      intro j G2 h1 h2
      rw [ldL] at h2
      have e2 := nI_clamp (show j < 2 ^ 31 by omega)
      have e3 : (if jIdx (nI j) 6 = true then (rdG G).2.2.2.2 (nI j).toNatClampNeg else 0) = (rdG G).2.2.2.2 j := by
        rw [e2, if_pos]
        rw [jIdx, decide_eq_true (nI_pos' (by omega)), decide_eq_true (show nI j < 6 from nI_lt (a := j) (b := 6) (by omega) (by decide))]
        rfl
      refine v_iload_n (i := 1) (q := 81) hC dX11_loadEntries_80 rfl rfl rfl ?_
      refine v_bipush (q := 83) (v := 6) hC dX11_loadEntries_81 rfl (by decide) ?_
      refine v_icmp_ge (q := 129) (q2 := 86) hC dX11_loadEntries_83 (by decide) rfl (fun c_83 => ?_) (fun c_83 => ?_)
      · exact absurd c_83 (by rw [show (6 : Int32) = nI 6 from rfl]; exact nI_ge (by omega) (by omega))
      · refine v_iload_n (i := 1) (q := 87) hC dX11_loadEntries_86 rfl rfl rfl ?_
        refine v_aload_n (i := 0) (q := 88) hC dX11_loadEntries_87 rfl rfl rfl ?_
        refine g_X11_6 (q := 91) hC dX11_loadEntries_88 rfl rfl fl_RX11_51 ?_
        refine gl_2 (q := 94) hC dX11_loadEntries_91 rfl rfl fl_RX11_285 ?_
        refine v_icmp_ge (q := 129) (q2 := 97) hC dX11_loadEntries_94 (by decide) rfl (fun c_94 => ?_) (fun c_94 => ?_)
        · rw [if_neg (Int32.not_lt.mpr c_94)] at h2
          refine v_aload_n (i := 0) (q := 130) hC dX11_loadEntries_129 rfl rfl rfl ?_
          refine g_X11_5 (q := 133) hC dX11_loadEntries_130 rfl rfl fl_RX11_44 ?_
          refine v_callV (q := 136) (rm := rm_X8_wipe) hC (c_X8_wipe hl Θ _) k_X8_wipe im_yX8_wipe se_yX8_wipe ml_RX11_264 dX11_loadEntries_133 rfl rfl rfl rfl rfl rfl (Nat.le_of_ble_eq_true rfl) ⟨Nat.le_of_ble_eq_true rfl, Nat.le_of_ble_eq_true rfl⟩ ⟨Nat.le_of_ble_eq_true rfl, Nat.le_of_ble_eq_true rfl⟩ (fR_k ?_) fR_x (Nat.le_of_ble_eq_true rfl) (Nat.le_of_ble_eq_true rfl)
          try dsimp only [Option.toList, List.cons_append, List.nil_append]
          rw [putF_lP _ _ _ _ _ _ (by decide), h2]
          refine v_aload_n (i := 0) (q := 137) hC dX11_loadEntries_136 rfl rfl rfl ?_
          refine g_X11_0 (q := 140) hC dX11_loadEntries_137 rfl rfl fl_RX11_10 ?_
          refine g_X9_2 (q := 143) hC dX11_loadEntries_140 rfl rfl fl_RX11_150 ?_
          refine v_aload_n (i := 0) (q := 144) hC dX11_loadEntries_143 rfl rfl rfl ?_
          refine g_X11_6 (q := 147) hC dX11_loadEntries_144 rfl rfl fl_RX11_51 ?_
          refine gl_1 (q := 150) hC dX11_loadEntries_147 rfl rfl fl_RX11_282 ?_
          refine v_callV (q := 153) (rm := rm_X6_countAt) hC (c_X6_countAt hl Θ _ _) k_X6_countAt im_yX6_countAt se_yX6_countAt ml_RX11_210 dX11_loadEntries_150 rfl rfl rfl rfl rfl rfl (Nat.le_of_ble_eq_true rfl) ⟨Nat.le_of_ble_eq_true rfl, Nat.le_of_ble_eq_true rfl⟩ ⟨Nat.le_of_ble_eq_true rfl, Nat.le_of_ble_eq_true rfl⟩ (fR_k ?_) fR_x (Nat.le_of_ble_eq_true rfl) (Nat.le_of_ble_eq_true rfl)
          try dsimp only [Option.toList, List.cons_append, List.nil_append]
          refine v_iret hC dX11_loadEntries_153 hr (rfl) ?_ (Nat.le_of_ble_eq_true rfl) (Nat.le_of_ble_eq_true rfl)
          exact ⟨by rw [lP_9], rfl⟩
        · refine v_aload_n (i := 0) (q := 98) hC dX11_loadEntries_97 rfl rfl rfl ?_
          refine g_X11_0 (q := 101) hC dX11_loadEntries_98 rfl rfl fl_RX11_10 ?_
          refine g_X9_2 (q := 104) hC dX11_loadEntries_101 rfl rfl fl_RX11_150 ?_
          refine v_aload_n (i := 0) (q := 105) hC dX11_loadEntries_104 rfl rfl rfl ?_
          refine g_X11_6 (q := 108) hC dX11_loadEntries_105 rfl rfl fl_RX11_51 ?_
          refine gl_1 (q := 111) hC dX11_loadEntries_108 rfl rfl fl_RX11_282 ?_
          refine v_iload_n (i := 1) (q := 112) hC dX11_loadEntries_111 rfl rfl rfl ?_
          refine v_aload_n (i := 0) (q := 113) hC dX11_loadEntries_112 rfl rfl rfl ?_
          refine g_X11_6 (q := 116) hC dX11_loadEntries_113 rfl rfl fl_RX11_51 ?_
          refine v_iload_n (i := 1) (q := 117) hC dX11_loadEntries_116 rfl rfl rfl ?_
          refine v_callV (q := 120) (rm := rm_X5_entryAt) hC (c_X5_entryAt hl Θ _ _ G2) k_X5_entryAt im_yX5_entryAt se_yX5_entryAt ml_RX11_287 dX11_loadEntries_117 rfl rfl rfl rfl rfl rfl (Nat.le_of_ble_eq_true rfl) ⟨Nat.le_of_ble_eq_true rfl, Nat.le_of_ble_eq_true rfl⟩ ⟨Nat.le_of_ble_eq_true rfl, Nat.le_of_ble_eq_true rfl⟩ (fR_k ?_) fR_x (Nat.le_of_ble_eq_true rfl) (Nat.le_of_ble_eq_true rfl)
          try dsimp only [Option.toList, List.cons_append, List.nil_append]
          rw [e3]
          refine v_callV (q := 123) (rm := rm_X6_putIn) hC (c_X6_putIn hl Θ _ _ _ _) k_X6_putIn im_yX6_putIn se_yX6_putIn ml_RX11_216 dX11_loadEntries_120 rfl rfl rfl rfl rfl rfl (Nat.le_of_ble_eq_true rfl) ⟨Nat.le_of_ble_eq_true rfl, Nat.le_of_ble_eq_true rfl⟩ ⟨Nat.le_of_ble_eq_true rfl, Nat.le_of_ble_eq_true rfl⟩ (fR_k ?_) fR_x (Nat.le_of_ble_eq_true rfl) (Nat.le_of_ble_eq_true rfl)
          try dsimp only [Option.toList, List.cons_append, List.nil_append]
          rw [putLs_lP]
          refine v_iinc (q := 126) (v := nI (j + 1)) hC dX11_loadEntries_123 rfl rfl (nI_1 j) (lvc rfl) (Nat.le_of_ble_eq_true rfl) (Nat.le_of_ble_eq_true rfl) rfl ?_
          refine v_goto (q := 80) hC dX11_loadEntries_126 (by decide) ?_
          rw [if_pos (Int32.not_le.mp c_94)] at h2
          exact ih (j + 1) _ (by omega) h2
  refine v_aload_n (i := 0) (q := 1) hC dX11_loadEntries_0 rfl rfl rfl ?_
  refine g_X11_6 (q := 4) hC dX11_loadEntries_1 rfl rfl fl_RX11_51 ?_
  refine v_aload_n (i := 0) (q := 5) hC dX11_loadEntries_4 rfl rfl rfl ?_
  refine g_X11_5 (q := 8) hC dX11_loadEntries_5 rfl rfl fl_RX11_44 ?_
  refine v_callV (q := 11) (rm := rm_X5_read) hC (cl_read hl Θ _) k_X5_read im_yX5_read se_yX5_read ml_RX11_267 dX11_loadEntries_8 rfl rfl rfl rfl rfl rfl (Nat.le_of_ble_eq_true rfl) ⟨Nat.le_of_ble_eq_true rfl, Nat.le_of_ble_eq_true rfl⟩ ⟨Nat.le_of_ble_eq_true rfl, Nat.le_of_ble_eq_true rfl⟩ (fR_k ?_) fR_x (Nat.le_of_ble_eq_true rfl) (Nat.le_of_ble_eq_true rfl)
  try dsimp only [Option.toList, List.cons_append, List.nil_append]
  refine v_ifb_ne (q := 25) (q2 := 14) hC dX11_loadEntries_11 (by decide) rfl (fun c_11 => ?_) (fun c_11 => ?_)
  · rw [gt_t c_11]
    refine v_aload_n (i := 0) (q := 26) hC dX11_loadEntries_25 rfl rfl rfl ?_
    refine g_X11_6 (q := 29) hC dX11_loadEntries_26 rfl rfl fl_RX11_51 ?_
    refine v_aload_n (i := 0) (q := 30) hC dX11_loadEntries_29 rfl rfl rfl ?_
    refine g_X11_0 (q := 33) hC dX11_loadEntries_30 rfl rfl fl_RX11_10 ?_
    refine v_callV (q := 36) (rm := rm_X5_isKnownTo) hC (c_X5_isKnownTo hl Θ _ G) k_X5_isKnownTo im_yX5_isKnownTo se_yX5_isKnownTo ml_RX11_276 dX11_loadEntries_33 rfl rfl rfl rfl rfl rfl (Nat.le_of_ble_eq_true rfl) ⟨Nat.le_of_ble_eq_true rfl, Nat.le_of_ble_eq_true rfl⟩ ⟨Nat.le_of_ble_eq_true rfl, Nat.le_of_ble_eq_true rfl⟩ (fR_k ?_) fR_x (Nat.le_of_ble_eq_true rfl) (Nat.le_of_ble_eq_true rfl)
    try dsimp only [Option.toList, List.cons_append, List.nil_append]
    refine v_ifb_ne (q := 50) (q2 := 39) hC dX11_loadEntries_36 (by decide) rfl (fun c_36 => ?_) (fun c_36 => ?_)
    · rw [gt_t c_36]
      refine v_aload_n (i := 0) (q := 51) hC dX11_loadEntries_50 rfl rfl rfl ?_
      refine g_X11_1 (q := 54) hC dX11_loadEntries_51 rfl rfl fl_RX11_19 ?_
      refine v_aload_n (i := 0) (q := 55) hC dX11_loadEntries_54 rfl rfl rfl ?_
      refine g_X11_0 (q := 58) hC dX11_loadEntries_55 rfl rfl fl_RX11_10 ?_
      refine v_callV (q := 61) (rm := rm_X3_keep) hC (c_X3_keep hl Θ _) k_X3_keep im_yX3_keep se_yX3_keep ml_RX11_72 dX11_loadEntries_58 rfl rfl rfl rfl rfl rfl (Nat.le_of_ble_eq_true rfl) ⟨Nat.le_of_ble_eq_true rfl, Nat.le_of_ble_eq_true rfl⟩ ⟨Nat.le_of_ble_eq_true rfl, Nat.le_of_ble_eq_true rfl⟩ (fR_k ?_) fR_x (Nat.le_of_ble_eq_true rfl) (Nat.le_of_ble_eq_true rfl)
      try dsimp only [Option.toList, List.cons_append, List.nil_append]
      rw [sKeep_lP]
      refine v_aload_n (i := 0) (q := 62) hC dX11_loadEntries_61 rfl rfl rfl ?_
      refine g_X11_0 (q := 65) hC dX11_loadEntries_62 rfl rfl fl_RX11_10 ?_
      refine g_X9_2 (q := 68) hC dX11_loadEntries_65 rfl rfl fl_RX11_150 ?_
      refine v_aload_n (i := 0) (q := 69) hC dX11_loadEntries_68 rfl rfl rfl ?_
      refine g_X11_6 (q := 72) hC dX11_loadEntries_69 rfl rfl fl_RX11_51 ?_
      refine gl_1 (q := 75) hC dX11_loadEntries_72 rfl rfl fl_RX11_282 ?_
      refine v_callV (q := 78) (rm := rm_X6_empty) hC (c_X6_empty hl Θ _ _) k_X6_empty im_yX6_empty se_yX6_empty ml_RX11_154 dX11_loadEntries_75 rfl rfl rfl rfl rfl rfl (Nat.le_of_ble_eq_true rfl) ⟨Nat.le_of_ble_eq_true rfl, Nat.le_of_ble_eq_true rfl⟩ ⟨Nat.le_of_ble_eq_true rfl, Nat.le_of_ble_eq_true rfl⟩ (fR_k ?_) fR_x (Nat.le_of_ble_eq_true rfl) (Nat.le_of_ble_eq_true rfl)
      try dsimp only [Option.toList, List.cons_append, List.nil_append]
      rw [sArr_lP _ _ 0]
      refine v_iconst (q := 79) (v := 0) hC dX11_loadEntries_78 rfl (by decide) ?_
      refine v_istore_n (i := 1) (q := 80) hC dX11_loadEntries_79 rfl rfl (lvc rfl) (Nat.le_of_ble_eq_true rfl) (Nat.le_of_ble_eq_true rfl) rfl ?_
      exact L 6 0 (sArr (sKeep G) 0 9 20 (rdG G).2.2.1 0) rfl (by rw [ldG])
    · refine v_throwSW hC dX11_loadEntries_39 dX11_loadEntries_42 dX11_loadEntries_43 dX11_loadEntries_46 dX11_loadEntries_49 cl_RX11_65 (i := 20) rfl ⟨Nat.le_of_ble_eq_true rfl, Nat.le_of_ble_eq_true rfl, Nat.le_of_ble_eq_true rfl, Nat.le_of_ble_eq_true rfl, Nat.le_of_ble_eq_true rfl, Nat.le_of_ble_eq_true rfl⟩ ?_
      exact gt_f c_36
  · refine v_throwSW hC dX11_loadEntries_14 dX11_loadEntries_17 dX11_loadEntries_18 dX11_loadEntries_21 dX11_loadEntries_24 cl_RX11_65 (i := 19) rfl ⟨Nat.le_of_ble_eq_true rfl, Nat.le_of_ble_eq_true rfl, Nat.le_of_ble_eq_true rfl, Nat.le_of_ble_eq_true rfl, Nat.le_of_ble_eq_true rfl, Nat.le_of_ble_eq_true rfl⟩ ?_
    exact gt_f c_11
theorem sKeep_lv (G : GS) : (sKeep G).2.2 = G.2.2 := by
  unfold sKeep
  by_cases h1 : G.1 0 15 0 < 5
  · simp only [if_pos h1]; rfl
  · simp only [if_neg h1]; rfl
section NUL
variable {p : Program} {l : Launch} {e : Env} {R : Room} {s : State} {m : MethodId} {args : Array Value} {below : List Frame} {meth : Method} {c : Code} {cc : ByteArray} {nL : Nat} {own : String} {Θ : cTH} {Qp : cOut → GS → Prop} {Q9 : State → Prop} {mc ms k n pc q q2 : Nat} {LS : List (Option Value)} {st rest : List Value} {G : GS}
theorem v_ifnonnullN (hC : cC p l s m args meth c cc nL own Θ) {off : Int} (d : decode cc pc = .ok (.ifnonnull off, 3)) (hq : pc + 3 = q) (kk : VG p l e R s m args below meth c nL Θ Q9 k n q LS rest G) : VG p l e R s m args below meth c nL Θ Q9 k n pc LS (.null :: rest) G := by
  subst hq; exact v_lift0 (fun H locs ls Q w => lv_ifnonnullN hC.1 hC.2.1 d w) kk
theorem v_aload_nN (hC : cC p l s m args meth c cc nL own Θ) {f : Fin 4} {i : Nat} (d : decode cc pc = .ok (.aload_n f, 1)) (hi : (f : Nat) = i) (hq : pc + 1 = q) (hL : LS[i]? = some (some .null)) (kk : VG p l e R s m args below meth c nL Θ Q9 k n q LS (.null :: rest) G) : VG p l e R s m args below meth c nL Θ Q9 k n pc LS rest G := by
  subst hq; exact v_lift (fun H locs ls Q hl w => lv_aload_nN hC.1 hC.2.1 d hi (lvH_at hl hL) (w ls hl)) kk
theorem v_astore_nN (hC : cC p l s m args meth c cc nL own Θ) {f : Fin 4} {i : Nat} {LS2 : List (Option Value)} (d : decode cc pc = .ok (.astore_n f, 1)) (hi : (f : Nat) = i) (hq : pc + 1 = q) (hc : lvC LS i) (hn : i < nL) (hi2 : i < LS.length) (h2 : LS.set i (some .null) = LS2) (kk : VG p l e R s m args below meth c nL Θ Q9 k n q LS2 rest G) : VG p l e R s m args below meth c nL Θ Q9 k n pc LS (.null :: rest) G := by
  subst hq; subst h2; exact v_lift (fun H locs ls Q hl w => lv_astore_nN hC.1 hC.2.1 d hi hl hn rfl (fun ls2 h9 => w ls2 (lvH_set hc h9 hi2))) kk
theorem v_i2d (hC : cC p l s m args meth c cc nL own Θ) {x : Int32} (d : decode cc pc = .ok (.i2d, 1)) (hq : pc + 1 = q) (kk : VG p l e R s m args below meth c nL Θ Q9 k n q LS (.double (FP.i2d x) :: rest) G) : VG p l e R s m args below meth c nL Θ Q9 k n pc LS (.int x :: rest) G := by
  subst hq; exact v_lift0 (fun H locs ls Q w => lv_i2d hC.1 hC.2.1 d w) kk
theorem v_ddiv (hC : cC p l s m args meth c cc nL own Θ) {x y : UInt64} (d : decode cc pc = .ok (.ddiv, 1)) (hq : pc + 1 = q) (hne : vf_n64 (FP.ddiv x y)) (kk : VG p l e R s m args below meth c nL Θ Q9 k n q LS (.double (FP.ddiv x y) :: rest) G) : VG p l e R s m args below meth c nL Θ Q9 k n pc LS (.double y :: .double x :: rest) G := by
  subst hq; exact v_lift0 (fun H locs ls Q w => lv_ddiv hC.1 hC.2.1 d hne w) kk
theorem v_dconst0 (hC : cC p l s m args meth c cc nL own Θ) (d : decode cc pc = .ok (.dconst 0, 1)) (hq : pc + 1 = q) (kk : VG p l e R s m args below meth c nL Θ Q9 k n q LS (.double FP.dconst0 :: rest) G) : VG p l e R s m args below meth c nL Θ Q9 k n pc LS rest G := by
  subst hq; exact v_lift0 (fun H locs ls Q w => lv_dconst0 hC.1 hC.2.1 d w) kk
theorem v_dret (hC : cC p l s m args meth c cc nL own Θ) {x : UInt64} (d : decode cc pc = .ok (.dreturn, 1)) (hr : meth.sig.returnType = some .double) (hq : Qp (.inl (some (.double x))) G) (hk : k ≤ mc) (hm : n ≤ ms) : V p l e R s m args below meth c nL Θ Qp mc ms k n pc LS [.double x] G := by
  intro H locs ls hH hS hl
  refine W.widen hk hm ?_
  exact vx_ret (W.dret hC.1 hC.2.1 hr (fun t ht hW => ⟨⟨some (.double x), G, rfl, hq, by rw [ht]; exact hH⟩, hS.F ht⟩) hS.2.2 d hC.2.2.2.2.2.1)
end NUL
theorem okR_67 {lv : Nat → Bool} {j : Nat} (hj : j < 2) (h : lv j = true) : okR lv (j + 6) = true := by
  rcases j with _ | _ | j
  · simp [okR, h]
  · simp [okR, h]
  · omega
/-- restore -/
def rsG (j : Nat) (G : GS) : GS := cpState 0 (j + 6) (sKeep G)
set_option maxHeartbeats 4000000 in
set_option maxRecDepth 20000 in
theorem c_X11_restore {l : Launch} (hl : l.stackTraces = false) (Θ : cTH) (t : Int32) (G : GS) : Ct l yX11_restore cX11_restore 3 (some .int) rm_X11_restore Θ [.ref (tR Θ 0 14), .int t] (G) (gt (jIdx t 2) eA (gt (G.2.2.1 t.toNatClampNeg) eS (fR (some (.int (jBc ((rsG t.toNatClampNeg G).1 0 4 0)))) (rsG t.toNatClampNeg G)) G) G) := by
  refine ct_of (LS := [some (.ref (tR Θ 0 14)), some (.int t), none]) hl (by decide +kernel) rfl (Nat.le_of_ble_eq_true rfl) rfl ?_
  intro p e s m args below meth c hC hr
  have Ln : ∀ (j : Nat), t = nI j → j < 2 → G.2.2.1 j = false → V p l e rm_X11_restore s m args below meth c 3 Θ (gt (G.2.2.1 t.toNatClampNeg) eS (fR (some (.int (jBc ((rsG t.toNatClampNeg G).1 0 4 0)))) (rsG t.toNatClampNeg G)) G) rm_X11_restore.cells rm_X11_restore.slots 1 6 5 [some (.ref (tR Θ 0 14)), some (.int (nI j)), none] [] G := by
    intro j et hj hv
    have e2 : t.toNatClampNeg = j := by rw [et, nI_clamp (by omega)]
    refine v_aload_n (i := 0) (q := 6) hC dX11_restore_5 rfl rfl rfl ?_
    refine g_X11_2 (q := 9) hC dX11_restore_6 rfl rfl fl_RX11_23 ?_
    refine v_iload_n (i := 1) (q := 10) hC dX11_restore_9 rfl rfl rfl ?_
    refine v_aald (v := .null) (q := 11) hC dX11_restore_10 rfl rfl rfl (vp_in_nI hj (by omega)) (by rw [nI_clamp (by omega), hv]; rfl) ?_
    refine v_astore_nN (i := 2) (q := 12) hC dX11_restore_11 rfl rfl (lvc rfl) (Nat.le_of_ble_eq_true rfl) (Nat.le_of_ble_eq_true rfl) rfl ?_
    refine v_aload_nN (i := 2) (q := 13) hC dX11_restore_12 rfl rfl rfl ?_
    refine v_ifnonnullN (q := 16) hC dX11_restore_13 rfl ?_
    refine v_throwSW hC dX11_restore_16 dX11_restore_19 dX11_restore_20 dX11_restore_23 dX11_restore_26 cl_RX11_65 (i := 25) rfl ⟨Nat.le_of_ble_eq_true rfl, Nat.le_of_ble_eq_true rfl, Nat.le_of_ble_eq_true rfl, Nat.le_of_ble_eq_true rfl, Nat.le_of_ble_eq_true rfl, Nat.le_of_ble_eq_true rfl⟩ ?_
    exact gt_f (by rw [e2]; exact hv)
  have Ly : ∀ (j : Nat), t = nI j → j < 2 → G.2.2.1 j = true → V p l e rm_X11_restore s m args below meth c 3 Θ (gt (G.2.2.1 t.toNatClampNeg) eS (fR (some (.int (jBc ((rsG t.toNatClampNeg G).1 0 4 0)))) (rsG t.toNatClampNeg G)) G) rm_X11_restore.cells rm_X11_restore.slots 1 6 5 [some (.ref (tR Θ 0 14)), some (.int (nI j)), none] [] G := by
    intro j et hj hv
    have e2 : t.toNatClampNeg = j := by rw [et, nI_clamp (by omega)]
    rw [gt_t (by rw [e2]; exact hv), e2]
    refine v_aload_n (i := 0) (q := 6) hC dX11_restore_5 rfl rfl rfl ?_
    refine g_X11_2 (q := 9) hC dX11_restore_6 rfl rfl fl_RX11_23 ?_
    refine v_iload_n (i := 1) (q := 10) hC dX11_restore_9 rfl rfl rfl ?_
    refine v_aald (v := .ref (tR Θ (j + 6) 0)) (q := 11) hC dX11_restore_10 rfl rfl rfl (vp_in_nI hj (by omega)) (by rw [nI_clamp (by omega), if_pos hv]; rfl) ?_
    refine v_astore_n (i := 2) (q := 12) hC dX11_restore_11 rfl rfl (lvc rfl) (Nat.le_of_ble_eq_true rfl) (Nat.le_of_ble_eq_true rfl) rfl ?_
    refine v_aload_n (i := 2) (q := 13) hC dX11_restore_12 rfl rfl rfl ?_
    refine v_ifnonnull (q := 27) hC dX11_restore_13 (by decide) ?_
    refine v_aload_n (i := 0) (q := 28) hC dX11_restore_27 rfl rfl rfl ?_
    refine g_X11_1 (q := 31) hC dX11_restore_28 rfl rfl fl_RX11_19 ?_
    refine v_aload_n (i := 0) (q := 32) hC dX11_restore_31 rfl rfl rfl ?_
    refine g_X11_0 (q := 35) hC dX11_restore_32 rfl rfl fl_RX11_10 ?_
    refine v_callV (q := 38) (rm := rm_X3_keep) hC (c_X3_keep hl Θ _) k_X3_keep im_yX3_keep se_yX3_keep ml_RX11_72 dX11_restore_35 rfl rfl rfl rfl rfl rfl (Nat.le_of_ble_eq_true rfl) ⟨Nat.le_of_ble_eq_true rfl, Nat.le_of_ble_eq_true rfl⟩ ⟨Nat.le_of_ble_eq_true rfl, Nat.le_of_ble_eq_true rfl⟩ (fR_k ?_) fR_x (Nat.le_of_ble_eq_true rfl) (Nat.le_of_ble_eq_true rfl)
    try dsimp only [Option.toList, List.cons_append, List.nil_append]
    refine v_aload_n (i := 0) (q := 39) hC dX11_restore_38 rfl rfl rfl ?_
    refine g_X11_0 (q := 42) hC dX11_restore_39 rfl rfl fl_RX11_10 ?_
    refine v_aload_n (i := 2) (q := 43) hC dX11_restore_42 rfl rfl rfl ?_
    refine v_callV (q := 46) (rm := rm_X9_copyFrom) hC (c_X9_copyFrom hl Θ 0 (j + 6) (sKeep G) rfl (by rw [sKeep_lv]; exact okR_67 hj hv)) k_X9_copyFrom im_yX9_copyFrom se_yX9_copyFrom ml_RX11_374 dX11_restore_43 rfl rfl rfl rfl rfl rfl (Nat.le_of_ble_eq_true rfl) ⟨Nat.le_of_ble_eq_true rfl, Nat.le_of_ble_eq_true rfl⟩ ⟨Nat.le_of_ble_eq_true rfl, Nat.le_of_ble_eq_true rfl⟩ (fR_k ?_) fR_x (Nat.le_of_ble_eq_true rfl) (Nat.le_of_ble_eq_true rfl)
    try dsimp only [Option.toList, List.cons_append, List.nil_append]
    refine v_aload_n (i := 0) (q := 47) hC dX11_restore_46 rfl rfl rfl ?_
    refine g_X11_0 (q := 50) hC dX11_restore_47 rfl rfl fl_RX11_10 ?_
    refine g_X9_1 (q := 53) hC dX11_restore_50 rfl rfl fl_RX11_127 ?_
    refine v_callV (q := 56) (rm := rm_X10_count) hC (c_X10_count hl Θ _) k_X10_count im_yX10_count se_yX10_count ml_RX11_159 dX11_restore_53 rfl rfl rfl rfl rfl rfl (Nat.le_of_ble_eq_true rfl) ⟨Nat.le_of_ble_eq_true rfl, Nat.le_of_ble_eq_true rfl⟩ ⟨Nat.le_of_ble_eq_true rfl, Nat.le_of_ble_eq_true rfl⟩ (fR_k ?_) fR_x (Nat.le_of_ble_eq_true rfl) (Nat.le_of_ble_eq_true rfl)
    try dsimp only [Option.toList, List.cons_append, List.nil_append]
    refine v_iret hC dX11_restore_56 hr (rfl) ?_ (Nat.le_of_ble_eq_true rfl) (Nat.le_of_ble_eq_true rfl)
    exact ⟨rfl, rfl⟩
  refine v_aload_n (i := 0) (q := 1) hC dX11_restore_0 rfl rfl rfl ?_
  refine v_iload_n (i := 1) (q := 2) hC dX11_restore_1 rfl rfl rfl ?_
  refine v_callV (q := 5) (rm := rm_X11_requireSlot) hC (c_X11_requireSlot hl Θ _ _) k_X11_requireSlot im_yX11_requireSlot se_yX11_requireSlot ml_RX11_371 dX11_restore_2 rfl rfl rfl rfl rfl rfl (Nat.le_of_ble_eq_true rfl) ⟨Nat.le_of_ble_eq_true rfl, Nat.le_of_ble_eq_true rfl⟩ ⟨Nat.le_of_ble_eq_true rfl, Nat.le_of_ble_eq_true rfl⟩ (fG_k (fun r_2 => ?_)) (fG_x (fun z => gt_f z)) (Nat.le_of_ble_eq_true rfl) (Nat.le_of_ble_eq_true rfl)
  try dsimp only [Option.toList, List.cons_append, List.nil_append]
  rw [gt_t r_2]
  obtain ⟨j, hj, et⟩ := jIdx_nI r_2 (N := 2) rfl (by decide)
  have e3 : (some (Value.int t)) = some (Value.int (nI j)) := by rw [← et]
  rw [e3]
  rcases (Bool.eq_false_or_eq_true (G.2.2.1 j)).symm with hv | hv
  · exact Ln j et hj hv
  · exact Ly j et hj hv
def opM (G : GS) : Int32 := 4 * G.1 0 1 0 * jBc (G.1 0 4 0)
def opA (G : GS) : Int32 := foldI (caO G) 12 0 0
def opD (G : GS) : UInt64 := if 0 < opM G then FP.ddiv (FP.i2d (opA G)) (FP.i2d (opM G)) else FP.dconst0
def oQ (x : UInt64) (G : GS) : cOut → GS → Prop := fun r G1 => r = .inl (some (.double x)) ∧ ∃ a b, G1 = jS G a b
set_option maxHeartbeats 4000000 in
set_option maxRecDepth 20000 in
theorem c_X11_openness {l : Launch} (hl : l.stackTraces = false) (Θ : cTH) (G : GS) (hg : gOk G) (hn : 0 < opM G → vf_n64 (FP.ddiv (FP.i2d (opA G)) (FP.i2d (opM G)))) : Ct l yX11_openness cX11_openness 2 (some .double) rm_X11_openness Θ [.ref (tR Θ 0 14)] (G) (oQ (opD G) G) := by
  refine ct_of (LS := [some (.ref (tR Θ 0 14)), none]) hl (by decide +kernel) rfl (Nat.le_of_ble_eq_true rfl) rfl ?_
  intro p e s m args below meth c hC hr
  have L : ∀ (x : UInt64) (G2 : GS), oQ (opD G) G (.inl (some (.double x))) G2 → V p l e rm_X11_openness s m args below meth c 2 Θ (oQ (opD G) G) rm_X11_openness.cells rm_X11_openness.slots 0 0 47 [some (.ref (tR Θ 0 14)), some (.int (opM G))] [.double x] G2 := by
    intro x G2 h
    exact v_dret hC dX11_openness_47 hr h (Nat.le_of_ble_eq_true rfl) (Nat.le_of_ble_eq_true rfl)
  refine v_iconst (q := 1) (v := 4) hC dX11_openness_0 rfl (by decide) ?_
  refine v_aload_n (i := 0) (q := 2) hC dX11_openness_1 rfl rfl rfl ?_
  refine g_X11_0 (q := 5) hC dX11_openness_2 rfl rfl fl_RX11_10 ?_
  refine g_X9_0 (q := 8) hC dX11_openness_5 rfl rfl fl_RX11_55 ?_
  refine g_X0_0 (q := 11) hC dX11_openness_8 rfl rfl fl_RX11_59 ?_
  refine v_imul (q := 12) hC dX11_openness_11 rfl ?_
  refine v_aload_n (i := 0) (q := 13) hC dX11_openness_12 rfl rfl rfl ?_
  refine g_X11_0 (q := 16) hC dX11_openness_13 rfl rfl fl_RX11_10 ?_
  refine g_X9_1 (q := 19) hC dX11_openness_16 rfl rfl fl_RX11_127 ?_
  refine v_callV (q := 22) (rm := rm_X10_count) hC (c_X10_count hl Θ _) k_X10_count im_yX10_count se_yX10_count ml_RX11_159 dX11_openness_19 rfl rfl rfl rfl rfl rfl (Nat.le_of_ble_eq_true rfl) ⟨Nat.le_of_ble_eq_true rfl, Nat.le_of_ble_eq_true rfl⟩ ⟨Nat.le_of_ble_eq_true rfl, Nat.le_of_ble_eq_true rfl⟩ (fR_k ?_) fR_x (Nat.le_of_ble_eq_true rfl) (Nat.le_of_ble_eq_true rfl)
  try dsimp only [Option.toList, List.cons_append, List.nil_append]
  refine v_imul (q := 23) hC dX11_openness_22 rfl ?_
  refine v_istore_n (i := 1) (q := 24) hC dX11_openness_23 rfl rfl (lvc rfl) (Nat.le_of_ble_eq_true rfl) (Nat.le_of_ble_eq_true rfl) rfl ?_
  refine v_iload_n (i := 1) (q := 25) hC dX11_openness_24 rfl rfl rfl ?_
  refine v_if_gt (q := 32) (q2 := 28) hC dX11_openness_25 (by decide) rfl (fun c_25 => ?_) (fun c_25 => ?_)
  · refine v_aload_n (i := 0) (q := 33) hC dX11_openness_32 rfl rfl rfl ?_
    refine g_X11_3 (q := 36) hC dX11_openness_33 rfl rfl fl_RX11_30 ?_
    refine v_aload_n (i := 0) (q := 37) hC dX11_openness_36 rfl rfl rfl ?_
    refine g_X11_0 (q := 40) hC dX11_openness_37 rfl rfl fl_RX11_10 ?_
    refine v_callV (q := 43) (rm := rm_X4_countAll) hC (cj_countAll hl Θ _ hg) k_X4_countAll im_yX4_countAll se_yX4_countAll ml_RX11_342 dX11_openness_40 rfl rfl rfl rfl rfl rfl (Nat.le_of_ble_eq_true rfl) ⟨Nat.le_of_ble_eq_true rfl, Nat.le_of_ble_eq_true rfl⟩ ⟨Nat.le_of_ble_eq_true rfl, Nat.le_of_ble_eq_true rfl⟩ (jQ_k (fun a1 b1 => ?_)) jQ_x (Nat.le_of_ble_eq_true rfl) (Nat.le_of_ble_eq_true rfl)
    try dsimp only [Option.toList, List.cons_append, List.nil_append]
    refine v_i2d (q := 44) hC dX11_openness_43 rfl ?_
    refine v_iload_n (i := 1) (q := 45) hC dX11_openness_44 rfl rfl rfl ?_
    refine v_i2d (q := 46) hC dX11_openness_45 rfl ?_
    refine v_ddiv (q := 47) hC dX11_openness_46 rfl (hn c_25) ?_
    first | exact L _ _ ⟨by rw [opD, if_pos (show 0 < opM G from c_25)]; rfl, a1, b1, rfl⟩ | exact L _ _ ⟨by rw [opD, if_neg (show ¬ 0 < opM G from c_25)], _, _, (jS_self G).symm⟩
  · refine v_dconst0 (q := 29) hC dX11_openness_28 rfl ?_
    refine v_goto (q := 47) hC dX11_openness_29 (by decide) ?_
    first | exact L _ _ ⟨by rw [opD, if_pos (show 0 < opM G from c_25)]; rfl, a1, b1, rfl⟩ | exact L _ _ ⟨by rw [opD, if_neg (show ¬ 0 < opM G from c_25)], _, _, (jS_self G).symm⟩
