/-! The reference: an entry, a list, what is wrong -/
def nPp (q : nT) : nT := (q.1, q.2.1, q.2.2.1 + 1, q.2.2.2)
def nE6 (G : GS) (b : Bool) (x : Int32) (q : nT) : Bool × nT := (true, nPp (nPt 4 (b2i (nSg G 42 (nPt 3 (b2i b) (nPt 2 x q))).1) (nSg G 42 (nPt 3 (b2i b) (nPt 2 x q))).2))
def nE5 (G : GS) (b : Bool) (x : Int32) (q : nT) : Bool × nT := if x = 0 then (false, q) else nE6 G b x q
def nE4 (G : GS) (b : Bool) (x : Int32) (q : nT) : Bool × nT := nE5 G b (x + (if (nSg G 109 q).1 = true then 8 else 0)) (nSg G 109 q).2
def nE3 (G : GS) (b : Bool) (x : Int32) (q : nT) : Bool × nT := nE4 G b (x + (if (nSg G 120 q).1 = true then 4 else 0)) (nSg G 120 q).2
def nE2 (G : GS) (b : Bool) (x : Int32) (q : nT) : Bool × nT := nE3 G b (x + (if (nSg G 119 q).1 = true then 2 else 0)) (nSg G 119 q).2
def nE1 (G : GS) (b : Bool) (q : nT) : Bool × nT := nE2 G b (if (nSg G 114 q).1 = true then 1 else 0) (nSg G 114 q).2
def nE0 (G : GS) (b : Bool) (q : nT) : Bool × nT := if (nWh G q).1 = true then (if (nSg G 61 (nWh G q).2).1 = true then nE1 G b (nSg G 61 (nWh G q).2).2 else (false, (nSg G 61 (nWh G q).2).2)) else (false, (nWh G q).2)
def nEn (G : GS) (q : nT) : Bool × nT := if (nSg G 43 q).1 = true then nE0 G true (nSg G 43 q).2 else if (nSg G 45 (nSg G 43 q).2).1 = true then nE0 G false (nSg G 45 (nSg G 43 q).2).2 else (false, (nSg G 45 (nSg G 43 q).2).2)
/-- place and parts behind an entry -/
def nOk (G : GS) (q : nT) (r : Bool × nT) : Prop := nTy G r.2.1 ∧ r.2.2.2.1 = (if r.1 = true then q.2.2.1 + 1 else q.2.2.1)
theorem nE5_ok {G : GS} {b : Bool} {x : Int32} {q : nT} (h : nTy G q.1) : nOk G q (nE5 G b x q) := by
  unfold nE5
  by_cases h1 : x = 0
  · rw [if_pos h1]; exact ⟨h, rfl⟩
  · rw [if_neg h1]
    refine ⟨nSg_ty h, ?_⟩
    show (nSg G 42 (nPt 3 (b2i b) (nPt 2 x q))).2.2.2.1 + 1 = _
    rw [nSg_pa2]
    rfl
theorem nOk_pa {G : GS} {q q2 : nT} {r : Bool × nT} (h : nOk G q2 r) (e : q2.2.2.1 = q.2.2.1) : nOk G q r := by
  obtain ⟨h1, h2⟩ := h
  exact ⟨h1, by rw [h2, e]⟩
theorem nE1_ok {G : GS} {b : Bool} {q : nT} (h : nTy G q.1) : nOk G q (nE1 G b q) := by
  unfold nE1 nE2 nE3 nE4
  exact nOk_pa (nE5_ok (nSg_ty (nSg_ty (nSg_ty (nSg_ty h))))) (by rw [nSg_pa2, nSg_pa2, nSg_pa2, nSg_pa2])
theorem nE0_ok {G : GS} {b : Bool} {q : nT} (h : nTy G q.1) : nOk G q (nE0 G b q) := by
  unfold nE0
  by_cases h1 : (nWh G q).1 = true
  · rw [if_pos h1]
    by_cases h2 : (nSg G 61 (nWh G q).2).1 = true
    · rw [if_pos h2]; exact nOk_pa (nE1_ok (nSg_ty (nWh_ty h))) (by rw [nSg_pa2, nWh_pa])
    · rw [if_neg h2]; exact ⟨nSg_ty (nWh_ty h), by rw [nSg_pa2, nWh_pa]; rfl⟩
  · rw [if_neg h1]; exact ⟨nWh_ty h, by rw [nWh_pa]; rfl⟩
theorem nEn_ok {G : GS} {q : nT} (h : nTy G q.1) : nOk G q (nEn G q) := by
  unfold nEn
  by_cases h1 : (nSg G 43 q).1 = true
  · rw [if_pos h1]; exact nOk_pa (nE0_ok (nSg_ty h)) (by rw [nSg_pa2])
  · rw [if_neg h1]
    by_cases h2 : (nSg G 45 (nSg G 43 q).2).1 = true
    · rw [if_pos h2]; exact nOk_pa (nE0_ok (nSg_ty (nSg_ty h))) (by rw [nSg_pa2, nSg_pa2])
    · rw [if_neg h2]; exact ⟨nSg_ty (nSg_ty h), by rw [nSg_pa2, nSg_pa2]; rfl⟩
set_option maxHeartbeats 4000000 in
set_option maxRecDepth 20000 in
theorem c_X12_entryRead {l : Launch} (hl : l.stackTraces = false) (Θ : cTH) (q : nT) (G : GS) (ht : nTy G q.1) (hp : q.2.2.1 ≤ 5) : Ct l yX12_entryRead cX12_entryRead 4 (some .boolean) rm_X12_entryRead Θ [.ref (tR Θ 0 29)] (nP G q) (fR (some (.int (b2i (nEn G q).1))) (nP G (nEn G q).2)) := by
  refine ct_of (LS := [some (.ref (tR Θ 0 29)), none, none, none]) hl (by decide +kernel) rfl (Nat.le_of_ble_eq_true rfl) rfl ?_
  intro p e s m args below meth c hC hr
  have L6 : ∀ (b : Bool) (x : Int32) (q2 : nT), nE6 G b x q2 = nEn G q → nTy G q2.1 → q2.2.2.1 = q.2.2.1 → V p l e rm_X12_entryRead s m args below meth c 4 Θ (fR (some (.int (b2i (nEn G q).1))) (nP G (nEn G q).2)) 0 0 0 0 118 [some (.ref (tR Θ 0 29)), some (.int (b2i b)), some (.int (5 * nI q.2.2.1)), some (.int x)] [] (nP G q2) := by
    intro b x q2 h1 h2 h3
    rw [nE6] at h1
    have L7 : V p l e rm_X12_entryRead s m args below meth c 4 Θ (fR (some (.int (b2i (nEn G q).1))) (nP G (nEn G q).2)) 0 0 0 0 144 [some (.ref (tR Θ 0 29)), some (.int (b2i b)), some (.int (5 * nI q.2.2.1)), some (.int x)] [] (nP G (nPt 3 (b2i b) (nPt 2 x q2))) := by
      refine v_aload_n (i := 0) (q := 145) hC dX12_entryRead_144 rfl rfl rfl ?_
      refine g_X12_14 (q := 148) hC dX12_entryRead_145 rfl rfl fl_RX12_32 ?_
      refine v_iload_n (i := 2) (q := 149) hC dX12_entryRead_148 rfl rfl rfl ?_
      refine v_iconst (q := 150) (v := 4) hC dX12_entryRead_149 rfl (by decide) ?_
      refine v_iadd (q := 151) hC dX12_entryRead_150 rfl ?_
      refine v_aload_n (i := 0) (q := 152) hC dX12_entryRead_151 rfl rfl rfl ?_
      refine v_bipush (q := 154) (v := 42) hC dX12_entryRead_152 rfl (by decide) ?_
      refine v_callV (q := 157) (rm := rm_X12_sign) hC (c_X12_sign hl Θ 42 _ G h2) k_X12_sign im_yX12_sign se_yX12_sign ml_RX12_174 dX12_entryRead_154 rfl rfl rfl rfl rfl rfl (Nat.le_of_ble_eq_true rfl) ⟨Nat.le_of_ble_eq_true rfl, Nat.le_of_ble_eq_true rfl⟩ ⟨Nat.le_of_ble_eq_true rfl, Nat.le_of_ble_eq_true rfl⟩ (fR_k ?_) fR_x (Nat.le_of_ble_eq_true rfl) (Nat.le_of_ble_eq_true rfl)
      try dsimp only [Option.toList, List.cons_append, List.nil_append]
      refine v_ifb_eq (q := 164) (q2 := 160) hC dX12_entryRead_157 (by decide) rfl (fun c_157 => ?_) (fun c_157 => ?_)
      · refine v_iconst (q := 165) (v := 0) hC dX12_entryRead_164 rfl (by decide) ?_
        refine v_nptw (i := 5 * (nSg G 42 (nPt 3 (b2i b) (nPt 2 x q2))).2.2.2.1 + 4) (q := 166) hC dX12_entryRead_165 rfl (by rw [nSg_pa2, nPt_pa, nPt_pa, h3]; exact v_npt_hx 4) (by rw [nSg_pa2, nPt_pa, nPt_pa, h3]; omega) ?_
        refine v_aload_n (i := 0) (q := 167) hC dX12_entryRead_166 rfl rfl rfl ?_
        refine v_dup (q := 168) hC dX12_entryRead_167 rfl rfl ?_
        refine gn_12 (q := 171) hC dX12_entryRead_168 rfl rfl fl_RX12_171 ?_
        refine v_iconst (q := 172) (v := 1) hC dX12_entryRead_171 rfl (by decide) ?_
        refine v_iadd (q := 173) hC dX12_entryRead_172 rfl ?_
        rw [nI_1]
        refine pn_12 (q := 176) hC dX12_entryRead_173 rfl rfl fl_RX12_171 ?_
        refine v_iconst (q := 177) (v := 1) hC dX12_entryRead_176 rfl (by decide) ?_
        refine v_iret hC dX12_entryRead_177 hr (by first | rfl | exact nar_b) ?_ (Nat.le_of_ble_eq_true rfl) (Nat.le_of_ble_eq_true rfl)
        rw [← h1]
        first | (rw [c_157]; exact ⟨rfl, rfl⟩)
      · refine v_iconst (q := 161) (v := 1) hC dX12_entryRead_160 rfl (by decide) ?_
        refine v_goto (q := 165) hC dX12_entryRead_161 (by decide) ?_
        refine v_nptw (i := 5 * (nSg G 42 (nPt 3 (b2i b) (nPt 2 x q2))).2.2.2.1 + 4) (q := 166) hC dX12_entryRead_165 rfl (by rw [nSg_pa2, nPt_pa, nPt_pa, h3]; exact v_npt_hx 4) (by rw [nSg_pa2, nPt_pa, nPt_pa, h3]; omega) ?_
        refine v_aload_n (i := 0) (q := 167) hC dX12_entryRead_166 rfl rfl rfl ?_
        refine v_dup (q := 168) hC dX12_entryRead_167 rfl rfl ?_
        refine gn_12 (q := 171) hC dX12_entryRead_168 rfl rfl fl_RX12_171 ?_
        refine v_iconst (q := 172) (v := 1) hC dX12_entryRead_171 rfl (by decide) ?_
        refine v_iadd (q := 173) hC dX12_entryRead_172 rfl ?_
        rw [nI_1]
        refine pn_12 (q := 176) hC dX12_entryRead_173 rfl rfl fl_RX12_171 ?_
        refine v_iconst (q := 177) (v := 1) hC dX12_entryRead_176 rfl (by decide) ?_
        refine v_iret hC dX12_entryRead_177 hr (by first | rfl | exact nar_b) ?_ (Nat.le_of_ble_eq_true rfl) (Nat.le_of_ble_eq_true rfl)
        rw [← h1]
        first | (rw [c_157]; exact ⟨rfl, rfl⟩)
    refine v_aload_n (i := 0) (q := 119) hC dX12_entryRead_118 rfl rfl rfl ?_
    refine g_X12_14 (q := 122) hC dX12_entryRead_119 rfl rfl fl_RX12_32 ?_
    refine v_iload_n (i := 2) (q := 123) hC dX12_entryRead_122 rfl rfl rfl ?_
    refine v_iconst (q := 124) (v := 2) hC dX12_entryRead_123 rfl (by decide) ?_
    refine v_iadd (q := 125) hC dX12_entryRead_124 rfl ?_
    refine v_iload_n (i := 3) (q := 126) hC dX12_entryRead_125 rfl rfl rfl ?_
    refine v_nptw (i := 5 * q2.2.2.1 + 2) (q := 127) hC dX12_entryRead_126 rfl (by rw [h3]; exact v_npt_hx 2) (by omega) ?_
    refine v_aload_n (i := 0) (q := 128) hC dX12_entryRead_127 rfl rfl rfl ?_
    refine g_X12_14 (q := 131) hC dX12_entryRead_128 rfl rfl fl_RX12_32 ?_
    refine v_iload_n (i := 2) (q := 132) hC dX12_entryRead_131 rfl rfl rfl ?_
    refine v_iconst (q := 133) (v := 3) hC dX12_entryRead_132 rfl (by decide) ?_
    refine v_iadd (q := 134) hC dX12_entryRead_133 rfl ?_
    refine v_iload_n (i := 1) (q := 135) hC dX12_entryRead_134 rfl rfl rfl ?_
    refine v_if_eq (q := 142) (q2 := 138) hC dX12_entryRead_135 (by decide) rfl (fun c_135 => ?_) (fun c_135 => ?_)
    · refine v_iconst (q := 143) (v := 0) hC dX12_entryRead_142 rfl (by decide) ?_
      refine v_nptw (i := 5 * q2.2.2.1 + 3) (q := 144) hC dX12_entryRead_143 rfl (by rw [h3]; exact v_npt_hx 3) (by omega) ?_
      have h9 := L7
      unfold nPt at h9
      first | (rw [show b2i b = 1 by rw [b2i_ne0.mp c_135]; rfl] at h9 ⊢; exact h9) | (rw [show b2i b = 0 by rw [b2i_eq0.mp c_135]; rfl] at h9 ⊢; exact h9)
    · refine v_iconst (q := 139) (v := 1) hC dX12_entryRead_138 rfl (by decide) ?_
      refine v_goto (q := 143) hC dX12_entryRead_139 (by decide) ?_
      refine v_nptw (i := 5 * q2.2.2.1 + 3) (q := 144) hC dX12_entryRead_143 rfl (by rw [h3]; exact v_npt_hx 3) (by omega) ?_
      have h9 := L7
      unfold nPt at h9
      first | (rw [show b2i b = 1 by rw [b2i_ne0.mp c_135]; rfl] at h9 ⊢; exact h9) | (rw [show b2i b = 0 by rw [b2i_eq0.mp c_135]; rfl] at h9 ⊢; exact h9)
  have L5 : ∀ (b : Bool) (t x : Int32) (q2 : nT), nE5 G b (t + x) q2 = nEn G q → nTy G q2.1 → q2.2.2.1 = q.2.2.1 → V p l e rm_X12_entryRead s m args below meth c 4 Θ (fR (some (.int (b2i (nEn G q).1))) (nP G (nEn G q).2)) 0 0 0 0 110 [some (.ref (tR Θ 0 29)), some (.int (b2i b)), some (.int (5 * nI q.2.2.1)), some (.int t)] [.int x, .int t] (nP G q2) := by
    intro b t x q2 h1 h2 h3
    rw [nE5] at h1
    refine v_iadd (q := 111) hC dX12_entryRead_110 rfl ?_
    refine v_istore_n (i := 3) (q := 112) hC dX12_entryRead_111 rfl rfl (lvc rfl) (Nat.le_of_ble_eq_true rfl) (Nat.le_of_ble_eq_true rfl) rfl ?_
    refine v_iload_n (i := 3) (q := 113) hC dX12_entryRead_112 rfl rfl rfl ?_
    refine v_if_ne (q := 118) (q2 := 116) hC dX12_entryRead_113 (by decide) rfl (fun c_113 => ?_) (fun c_113 => ?_)
    · rw [if_neg c_113] at h1
      exact L6 b _ q2 h1 h2 h3
    · refine v_iconst (q := 117) (v := 0) hC dX12_entryRead_116 rfl (by decide) ?_
      refine v_iret hC dX12_entryRead_117 hr (by first | rfl | exact nar_b) ?_ (Nat.le_of_ble_eq_true rfl) (Nat.le_of_ble_eq_true rfl)
      rw [if_pos c_113] at h1
      rw [← h1]
      exact ⟨rfl, rfl⟩
  have L4 : ∀ (b : Bool) (t x : Int32) (q2 : nT), nE4 G b (t + x) q2 = nEn G q → nTy G q2.1 → q2.2.2.1 = q.2.2.1 → V p l e rm_X12_entryRead s m args below meth c 4 Θ (fR (some (.int (b2i (nEn G q).1))) (nP G (nEn G q).2)) 0 0 0 0 92 [some (.ref (tR Θ 0 29)), some (.int (b2i b)), some (.int (5 * nI q.2.2.1)), some (.int t)] [.int x, .int t] (nP G q2) := by
    intro b t x q2 h1 h2 h3
    rw [nE4] at h1
    refine v_iadd (q := 93) hC dX12_entryRead_92 rfl ?_
    refine v_istore_n (i := 3) (q := 94) hC dX12_entryRead_93 rfl rfl (lvc rfl) (Nat.le_of_ble_eq_true rfl) (Nat.le_of_ble_eq_true rfl) rfl ?_
    refine v_iload_n (i := 3) (q := 95) hC dX12_entryRead_94 rfl rfl rfl ?_
    refine v_aload_n (i := 0) (q := 96) hC dX12_entryRead_95 rfl rfl rfl ?_
    refine v_bipush (q := 98) (v := 109) hC dX12_entryRead_96 rfl (by decide) ?_
    refine v_callV (q := 101) (rm := rm_X12_sign) hC (c_X12_sign hl Θ 109 q2 G h2) k_X12_sign im_yX12_sign se_yX12_sign ml_RX12_174 dX12_entryRead_98 rfl rfl rfl rfl rfl rfl (Nat.le_of_ble_eq_true rfl) ⟨Nat.le_of_ble_eq_true rfl, Nat.le_of_ble_eq_true rfl⟩ ⟨Nat.le_of_ble_eq_true rfl, Nat.le_of_ble_eq_true rfl⟩ (fR_k ?_) fR_x (Nat.le_of_ble_eq_true rfl) (Nat.le_of_ble_eq_true rfl)
    try dsimp only [Option.toList, List.cons_append, List.nil_append]
    refine v_ifb_eq (q := 109) (q2 := 104) hC dX12_entryRead_101 (by decide) rfl (fun c_101 => ?_) (fun c_101 => ?_)
    · refine v_iconst (q := 110) (v := 0) hC dX12_entryRead_109 rfl (by decide) ?_
      refine L5 b _ _ _ ?_ (nSg_ty h2) (by rw [nSg_pa2, h3])
      rw [← h1, c_101]
      rfl
    · refine v_bipush (q := 106) (v := 8) hC dX12_entryRead_104 rfl (by decide) ?_
      refine v_goto (q := 110) hC dX12_entryRead_106 (by decide) ?_
      refine L5 b _ _ _ ?_ (nSg_ty h2) (by rw [nSg_pa2, h3])
      rw [← h1, c_101]
      rfl
  have L3 : ∀ (b : Bool) (t x : Int32) (q2 : nT), nE3 G b (t + x) q2 = nEn G q → nTy G q2.1 → q2.2.2.1 = q.2.2.1 → V p l e rm_X12_entryRead s m args below meth c 4 Θ (fR (some (.int (b2i (nEn G q).1))) (nP G (nEn G q).2)) 0 0 0 0 75 [some (.ref (tR Θ 0 29)), some (.int (b2i b)), some (.int (5 * nI q.2.2.1)), some (.int t)] [.int x, .int t] (nP G q2) := by
    intro b t x q2 h1 h2 h3
    rw [nE3] at h1
    refine v_iadd (q := 76) hC dX12_entryRead_75 rfl ?_
    refine v_istore_n (i := 3) (q := 77) hC dX12_entryRead_76 rfl rfl (lvc rfl) (Nat.le_of_ble_eq_true rfl) (Nat.le_of_ble_eq_true rfl) rfl ?_
    refine v_iload_n (i := 3) (q := 78) hC dX12_entryRead_77 rfl rfl rfl ?_
    refine v_aload_n (i := 0) (q := 79) hC dX12_entryRead_78 rfl rfl rfl ?_
    refine v_bipush (q := 81) (v := 120) hC dX12_entryRead_79 rfl (by decide) ?_
    refine v_callV (q := 84) (rm := rm_X12_sign) hC (c_X12_sign hl Θ 120 q2 G h2) k_X12_sign im_yX12_sign se_yX12_sign ml_RX12_174 dX12_entryRead_81 rfl rfl rfl rfl rfl rfl (Nat.le_of_ble_eq_true rfl) ⟨Nat.le_of_ble_eq_true rfl, Nat.le_of_ble_eq_true rfl⟩ ⟨Nat.le_of_ble_eq_true rfl, Nat.le_of_ble_eq_true rfl⟩ (fR_k ?_) fR_x (Nat.le_of_ble_eq_true rfl) (Nat.le_of_ble_eq_true rfl)
    try dsimp only [Option.toList, List.cons_append, List.nil_append]
    refine v_ifb_eq (q := 91) (q2 := 87) hC dX12_entryRead_84 (by decide) rfl (fun c_84 => ?_) (fun c_84 => ?_)
    · refine v_iconst (q := 92) (v := 0) hC dX12_entryRead_91 rfl (by decide) ?_
      refine L4 b _ _ _ ?_ (nSg_ty h2) (by rw [nSg_pa2, h3])
      rw [← h1, c_84]
      rfl
    · refine v_iconst (q := 88) (v := 4) hC dX12_entryRead_87 rfl (by decide) ?_
      refine v_goto (q := 92) hC dX12_entryRead_88 (by decide) ?_
      refine L4 b _ _ _ ?_ (nSg_ty h2) (by rw [nSg_pa2, h3])
      rw [← h1, c_84]
      rfl
  have L2 : ∀ (b : Bool) (x : Int32) (q2 : nT), nE2 G b x q2 = nEn G q → nTy G q2.1 → q2.2.2.1 = q.2.2.1 → V p l e rm_X12_entryRead s m args below meth c 4 Θ (fR (some (.int (b2i (nEn G q).1))) (nP G (nEn G q).2)) 0 0 0 0 59 [some (.ref (tR Θ 0 29)), some (.int (b2i b)), some (.int (5 * nI q.2.2.1)), none] [.int x] (nP G q2) := by
    intro b x q2 h1 h2 h3
    rw [nE2] at h1
    refine v_istore_n (i := 3) (q := 60) hC dX12_entryRead_59 rfl rfl (lvc rfl) (Nat.le_of_ble_eq_true rfl) (Nat.le_of_ble_eq_true rfl) rfl ?_
    refine v_iload_n (i := 3) (q := 61) hC dX12_entryRead_60 rfl rfl rfl ?_
    refine v_aload_n (i := 0) (q := 62) hC dX12_entryRead_61 rfl rfl rfl ?_
    refine v_bipush (q := 64) (v := 119) hC dX12_entryRead_62 rfl (by decide) ?_
    refine v_callV (q := 67) (rm := rm_X12_sign) hC (c_X12_sign hl Θ 119 q2 G h2) k_X12_sign im_yX12_sign se_yX12_sign ml_RX12_174 dX12_entryRead_64 rfl rfl rfl rfl rfl rfl (Nat.le_of_ble_eq_true rfl) ⟨Nat.le_of_ble_eq_true rfl, Nat.le_of_ble_eq_true rfl⟩ ⟨Nat.le_of_ble_eq_true rfl, Nat.le_of_ble_eq_true rfl⟩ (fR_k ?_) fR_x (Nat.le_of_ble_eq_true rfl) (Nat.le_of_ble_eq_true rfl)
    try dsimp only [Option.toList, List.cons_append, List.nil_append]
    refine v_ifb_eq (q := 74) (q2 := 70) hC dX12_entryRead_67 (by decide) rfl (fun c_67 => ?_) (fun c_67 => ?_)
    · refine v_iconst (q := 75) (v := 0) hC dX12_entryRead_74 rfl (by decide) ?_
      refine L3 b _ _ _ ?_ (nSg_ty h2) (by rw [nSg_pa2, h3])
      rw [← h1, c_67]
      rfl
    · refine v_iconst (q := 71) (v := 2) hC dX12_entryRead_70 rfl (by decide) ?_
      refine v_goto (q := 75) hC dX12_entryRead_71 (by decide) ?_
      refine L3 b _ _ _ ?_ (nSg_ty h2) (by rw [nSg_pa2, h3])
      rw [← h1, c_67]
      rfl
  have L0 : ∀ (b : Bool) (q2 : nT), nE0 G b q2 = nEn G q → nTy G q2.1 → q2.2.2.1 = q.2.2.1 → V p l e rm_X12_entryRead s m args below meth c 4 Θ (fR (some (.int (b2i (nEn G q).1))) (nP G (nEn G q).2)) 0 0 0 0 20 [some (.ref (tR Θ 0 29)), some (.int (b2i b)), none, none] [] (nP G q2) := by
    intro b q2 h1 h2 h3
    rw [nE0] at h1
    refine v_aload_n (i := 0) (q := 21) hC dX12_entryRead_20 rfl rfl rfl ?_
    refine v_callV (q := 24) (rm := rm_X12_whomRead) hC (c_X12_whomRead hl Θ q2 G h2 (by omega)) k_X12_whomRead im_yX12_whomRead se_yX12_whomRead ml_RX12_180 dX12_entryRead_21 rfl rfl rfl rfl rfl rfl (Nat.le_of_ble_eq_true rfl) ⟨Nat.le_of_ble_eq_true rfl, Nat.le_of_ble_eq_true rfl⟩ ⟨Nat.le_of_ble_eq_true rfl, Nat.le_of_ble_eq_true rfl⟩ (fR_k ?_) fR_x (Nat.le_of_ble_eq_true rfl) (Nat.le_of_ble_eq_true rfl)
    try dsimp only [Option.toList, List.cons_append, List.nil_append]
    refine v_ifb_eq (q := 36) (q2 := 27) hC dX12_entryRead_24 (by decide) rfl (fun c_24 => ?_) (fun c_24 => ?_)
    · refine v_iconst (q := 37) (v := 0) hC dX12_entryRead_36 rfl (by decide) ?_
      refine v_iret hC dX12_entryRead_37 hr (by first | rfl | exact nar_b) ?_ (Nat.le_of_ble_eq_true rfl) (Nat.le_of_ble_eq_true rfl)
      first
        | (rw [if_neg (by rw [c_24]; decide)] at h1
           rw [← h1]; exact ⟨rfl, rfl⟩)
        | (rw [if_pos c_24, if_neg (by rw [c_33]; decide)] at h1
           rw [← h1]; exact ⟨rfl, rfl⟩)
    · refine v_aload_n (i := 0) (q := 28) hC dX12_entryRead_27 rfl rfl rfl ?_
      refine v_bipush (q := 30) (v := 61) hC dX12_entryRead_28 rfl (by decide) ?_
      refine v_callV (q := 33) (rm := rm_X12_sign) hC (c_X12_sign hl Θ 61 _ G (nWh_ty h2)) k_X12_sign im_yX12_sign se_yX12_sign ml_RX12_174 dX12_entryRead_30 rfl rfl rfl rfl rfl rfl (Nat.le_of_ble_eq_true rfl) ⟨Nat.le_of_ble_eq_true rfl, Nat.le_of_ble_eq_true rfl⟩ ⟨Nat.le_of_ble_eq_true rfl, Nat.le_of_ble_eq_true rfl⟩ (fR_k ?_) fR_x (Nat.le_of_ble_eq_true rfl) (Nat.le_of_ble_eq_true rfl)
      try dsimp only [Option.toList, List.cons_append, List.nil_append]
      refine v_ifb_ne (q := 38) (q2 := 36) hC dX12_entryRead_33 (by decide) rfl (fun c_33 => ?_) (fun c_33 => ?_)
      · refine v_iconst (q := 39) (v := 5) hC dX12_entryRead_38 rfl (by decide) ?_
        refine v_aload_n (i := 0) (q := 40) hC dX12_entryRead_39 rfl rfl rfl ?_
        refine gn_12 (q := 43) hC dX12_entryRead_40 rfl rfl fl_RX12_171 ?_
        refine v_imul (q := 44) hC dX12_entryRead_43 rfl ?_
        rw [nSg_pa2, nWh_pa, h3]
        refine v_istore_n (i := 2) (q := 45) hC dX12_entryRead_44 rfl rfl (lvc rfl) (Nat.le_of_ble_eq_true rfl) (Nat.le_of_ble_eq_true rfl) rfl ?_
        refine v_aload_n (i := 0) (q := 46) hC dX12_entryRead_45 rfl rfl rfl ?_
        refine v_bipush (q := 48) (v := 114) hC dX12_entryRead_46 rfl (by decide) ?_
        refine v_callV (q := 51) (rm := rm_X12_sign) hC (c_X12_sign hl Θ 114 _ G (nSg_ty (nWh_ty h2))) k_X12_sign im_yX12_sign se_yX12_sign ml_RX12_174 dX12_entryRead_48 rfl rfl rfl rfl rfl rfl (Nat.le_of_ble_eq_true rfl) ⟨Nat.le_of_ble_eq_true rfl, Nat.le_of_ble_eq_true rfl⟩ ⟨Nat.le_of_ble_eq_true rfl, Nat.le_of_ble_eq_true rfl⟩ (fR_k ?_) fR_x (Nat.le_of_ble_eq_true rfl) (Nat.le_of_ble_eq_true rfl)
        try dsimp only [Option.toList, List.cons_append, List.nil_append]
        refine v_ifb_eq (q := 58) (q2 := 54) hC dX12_entryRead_51 (by decide) rfl (fun c_51 => ?_) (fun c_51 => ?_)
        · refine v_iconst (q := 59) (v := 0) hC dX12_entryRead_58 rfl (by decide) ?_
          rw [if_pos c_24, if_pos c_33, nE1] at h1
          refine L2 b _ _ ?_ (nSg_ty (nSg_ty (nWh_ty h2))) (by rw [nSg_pa2, nSg_pa2, nWh_pa, h3])
          rw [← h1, c_51]
          rfl
        · refine v_iconst (q := 55) (v := 1) hC dX12_entryRead_54 rfl (by decide) ?_
          refine v_goto (q := 59) hC dX12_entryRead_55 (by decide) ?_
          rw [if_pos c_24, if_pos c_33, nE1] at h1
          refine L2 b _ _ ?_ (nSg_ty (nSg_ty (nWh_ty h2))) (by rw [nSg_pa2, nSg_pa2, nWh_pa, h3])
          rw [← h1, c_51]
          rfl
      · refine v_iconst (q := 37) (v := 0) hC dX12_entryRead_36 rfl (by decide) ?_
        refine v_iret hC dX12_entryRead_37 hr (by first | rfl | exact nar_b) ?_ (Nat.le_of_ble_eq_true rfl) (Nat.le_of_ble_eq_true rfl)
        first
          | (rw [if_neg (by rw [c_24]; decide)] at h1
             rw [← h1]; exact ⟨rfl, rfl⟩)
          | (rw [if_pos c_24, if_neg (by rw [c_33]; decide)] at h1
             rw [← h1]; exact ⟨rfl, rfl⟩)
  refine v_aload_n (i := 0) (q := 1) hC dX12_entryRead_0 rfl rfl rfl ?_
  refine v_bipush (q := 3) (v := 43) hC dX12_entryRead_1 rfl (by decide) ?_
  refine v_callV (q := 6) (rm := rm_X12_sign) hC (c_X12_sign hl Θ 43 q G ht) k_X12_sign im_yX12_sign se_yX12_sign ml_RX12_174 dX12_entryRead_3 rfl rfl rfl rfl rfl rfl (Nat.le_of_ble_eq_true rfl) ⟨Nat.le_of_ble_eq_true rfl, Nat.le_of_ble_eq_true rfl⟩ ⟨Nat.le_of_ble_eq_true rfl, Nat.le_of_ble_eq_true rfl⟩ (fR_k ?_) fR_x (Nat.le_of_ble_eq_true rfl) (Nat.le_of_ble_eq_true rfl)
  try dsimp only [Option.toList, List.cons_append, List.nil_append]
  refine v_istore_n (i := 1) (q := 7) hC dX12_entryRead_6 rfl rfl (lvc rfl) (Nat.le_of_ble_eq_true rfl) (Nat.le_of_ble_eq_true rfl) rfl ?_
  refine v_iload_n (i := 1) (q := 8) hC dX12_entryRead_7 rfl rfl rfl ?_
  refine v_if_ne (q := 20) (q2 := 11) hC dX12_entryRead_8 (by decide) rfl (fun c_8 => ?_) (fun c_8 => ?_)
  · first
      | (have e9 := b2i_ne0.mp c_8
         rw [e9]; exact L0 true _ (by rw [nEn, if_pos e9]) (nSg_ty ht) (by rw [nSg_pa2]))
      | (have e9 := b2i_eq0.mp c_8
         rw [e9]; exact L0 false _ (by rw [nEn, if_neg (by rw [e9]; decide), if_pos c_17]) (nSg_ty (nSg_ty ht)) (by rw [nSg_pa2, nSg_pa2]))
  · refine v_aload_n (i := 0) (q := 12) hC dX12_entryRead_11 rfl rfl rfl ?_
    refine v_bipush (q := 14) (v := 45) hC dX12_entryRead_12 rfl (by decide) ?_
    refine v_callV (q := 17) (rm := rm_X12_sign) hC (c_X12_sign hl Θ 45 _ G (nSg_ty ht)) k_X12_sign im_yX12_sign se_yX12_sign ml_RX12_174 dX12_entryRead_14 rfl rfl rfl rfl rfl rfl (Nat.le_of_ble_eq_true rfl) ⟨Nat.le_of_ble_eq_true rfl, Nat.le_of_ble_eq_true rfl⟩ ⟨Nat.le_of_ble_eq_true rfl, Nat.le_of_ble_eq_true rfl⟩ (fR_k ?_) fR_x (Nat.le_of_ble_eq_true rfl) (Nat.le_of_ble_eq_true rfl)
    try dsimp only [Option.toList, List.cons_append, List.nil_append]
    refine v_ifb_eq (q := 36) (q2 := 20) hC dX12_entryRead_17 (by decide) rfl (fun c_17 => ?_) (fun c_17 => ?_)
    · refine v_iconst (q := 37) (v := 0) hC dX12_entryRead_36 rfl (by decide) ?_
      refine v_iret hC dX12_entryRead_37 hr (by first | rfl | exact nar_b) ?_ (Nat.le_of_ble_eq_true rfl) (Nat.le_of_ble_eq_true rfl)
      rw [nEn, if_neg (by rw [b2i_eq0.mp c_8]; decide), if_neg (by rw [c_17]; decide)]
      exact ⟨rfl, rfl⟩
    · first
        | (have e9 := b2i_ne0.mp c_8
           rw [e9]; exact L0 true _ (by rw [nEn, if_pos e9]) (nSg_ty ht) (by rw [nSg_pa2]))
        | (have e9 := b2i_eq0.mp c_8
           rw [e9]; exact L0 false _ (by rw [nEn, if_neg (by rw [e9]; decide), if_pos c_17]) (nSg_ty (nSg_ty ht)) (by rw [nSg_pa2, nSg_pa2]))
def nFi (G : GS) (q : nT) : Int32 × nT := (if nI q.1 = G.1 0 29 7 then -1 else nI q.1, q)
def nWL (G : GS) : Nat → Bool → nT → Int32 × nT
  | 0, _, q => nFi G q
  | n + 1, b, q => if b = false then nFi G q else if (nEn G q).1 = false then (nI (nEn G q).2.1, (nEn G q).2) else if (nEn G q).2.2.2.1 < 6 then nWL G n (nSg G 59 (nEn G q).2).1 (nSg G 59 (nEn G q).2).2 else nWL G n false (nEn G q).2
def nW0 (q : nT) : nT := (q.1, 0, q.2.2)
def nWv (q : nT) : nT := (q.1, q.2.2.2.1, q.2.2)
def nWr (G : GS) (q : nT) : Int32 × nT :=
  if (nNm G 19 (0, q.2.1, 0, q.2.2.2)).1 = false then (nI (nNm G 19 (0, q.2.1, 0, q.2.2.2)).2.1, nW0 (nNm G 19 (0, q.2.1, 0, q.2.2.2)).2)
  else if (nSg G 58 (nNm G 19 (0, q.2.1, 0, q.2.2.2)).2).1 = false then (nI (nSg G 58 (nNm G 19 (0, q.2.1, 0, q.2.2.2)).2).2.1, nW0 (nSg G 58 (nNm G 19 (0, q.2.1, 0, q.2.2.2)).2).2)
  else nWL G 7 (decide (nI (nSg G 58 (nNm G 19 (0, q.2.1, 0, q.2.2.2)).2).2.1 < G.1 0 29 7)) (nWv (nSg G 58 (nNm G 19 (0, q.2.1, 0, q.2.2.2)).2).2)
theorem nSg_pa3 {G : GS} {x : Int32} {q : nT} (h : q.2.2.1 ≤ 6) : (nSg G x q).2.2.2.1 ≤ 6 := by rw [nSg_pa2]; exact h
set_option maxHeartbeats 4000000 in
set_option maxRecDepth 20000 in
theorem c_X12_wrong {l : Launch} (hl : l.stackTraces = false) (Θ : cTH) (q : nT) (G : GS) (hty : ∃ ty, G.1 0 29 7 = nI ty ∧ ty ≤ 80) : Ct l yX12_wrong cX12_wrong 2 (some .int) rm_X12_wrong Θ [.ref (tR Θ 0 29)] (nP G q) (fR (some (.int (nWr G q).1)) (nP G (nWr G q).2)) := by
  refine ct_of (LS := [some (.ref (tR Θ 0 29)), none]) hl (by decide +kernel) rfl (Nat.le_of_ble_eq_true rfl) rfl ?_
  intro p e s m args below meth c hC hr
  have ht : nTy G 0 := by
    obtain ⟨ty, e9, h9⟩ := hty
    exact ⟨ty, e9, h9, Nat.zero_le _⟩
  have Lf : ∀ (q2 : nT), nFi G q2 = nWr G q → V p l e rm_X12_wrong s m args below meth c 2 Θ (fR (some (.int (nWr G q).1)) (nP G (nWr G q).2)) 0 0 0 0 63 [some (.ref (tR Θ 0 29)), some (.int 0)] [] (nP G q2) := by
    intro q2 h1
    rw [nFi] at h1
    refine v_iload_n (i := 1) (q := 64) hC dX12_wrong_63 rfl rfl rfl ?_
    refine v_if_eq (q := 106) (q2 := 67) hC dX12_wrong_64 (by decide) rfl (fun c_64 => ?_) (fun c_64 => ?_)
    · refine v_aload_n (i := 0) (q := 107) hC dX12_wrong_106 rfl rfl rfl ?_
      refine gn_10 (q := 110) hC dX12_wrong_107 rfl rfl fl_RX12_162 ?_
      refine v_aload_n (i := 0) (q := 111) hC dX12_wrong_110 rfl rfl rfl ?_
      refine gn_7 (q := 114) hC dX12_wrong_111 rfl rfl fl_RX12_159 ?_
      refine v_icmp_ne (q := 121) (q2 := 117) hC dX12_wrong_114 (by decide) rfl (fun c_114 => ?_) (fun c_114 => ?_)
      · refine v_aload_n (i := 0) (q := 122) hC dX12_wrong_121 rfl rfl rfl ?_
        refine gn_10 (q := 125) hC dX12_wrong_122 rfl rfl fl_RX12_162 ?_
        refine v_iret hC dX12_wrong_125 hr (rfl) ?_ (Nat.le_of_ble_eq_true rfl) (Nat.le_of_ble_eq_true rfl)
        first
          | (rw [if_pos c_114] at h1
             rw [← h1]; exact ⟨rfl, rfl⟩)
          | (rw [if_neg c_114] at h1
             rw [← h1]; exact ⟨rfl, rfl⟩)
      · refine v_iconst (q := 118) (v := (-1)) hC dX12_wrong_117 rfl (by decide) ?_
        refine v_goto (q := 125) hC dX12_wrong_118 (by decide) ?_
        refine v_iret hC dX12_wrong_125 hr (rfl) ?_ (Nat.le_of_ble_eq_true rfl) (Nat.le_of_ble_eq_true rfl)
        first
          | (rw [if_pos c_114] at h1
             rw [← h1]; exact ⟨rfl, rfl⟩)
          | (rw [if_neg c_114] at h1
             rw [← h1]; exact ⟨rfl, rfl⟩)
    · exact absurd rfl c_64
  have L : ∀ (n : Nat) (b : Bool) (q2 : nT), nWL G n b q2 = nWr G q → nTy G q2.1 → (b = true → 6 < n + q2.2.2.1 ∧ q2.2.2.1 ≤ 5) → V p l e rm_X12_wrong s m args below meth c 2 Θ (fR (some (.int (nWr G q).1)) (nP G (nWr G q).2)) 0 0 0 0 63 [some (.ref (tR Θ 0 29)), some (.int (b2i b))] [] (nP G q2) := by
    intro n
    induction n with
    | zero =>
      intro b q2 h1 h2 h3
      cases b with
      | false => exact Lf q2 (by rw [← h1, nWL])
      | true => exact absurd (h3 rfl) (by omega)
    | succ n ih =>
      intro b q2 h1 h2 h3
      rw [nWL] at h1
      cases b with
      | false =>
        rw [if_pos rfl] at h1
        exact Lf q2 h1
      | true =>
        rw [if_neg (by decide)] at h1
        obtain ⟨h4, h5⟩ := h3 rfl
        obtain ⟨k1, k2⟩ := nEn_ok h2
        refine v_iload_n (i := 1) (q := 64) hC dX12_wrong_63 rfl rfl rfl ?_
        refine v_if_eq (q := 106) (q2 := 67) hC dX12_wrong_64 (by decide) rfl (fun c_64 => ?_) (fun c_64 => ?_)
        · exact absurd c_64 (by decide)
        · refine v_aload_n (i := 0) (q := 68) hC dX12_wrong_67 rfl rfl rfl ?_
          refine v_callV (q := 71) (rm := rm_X12_entryRead) hC (c_X12_entryRead hl Θ q2 G h2 h5) k_X12_entryRead im_yX12_entryRead se_yX12_entryRead ml_RX12_187 dX12_wrong_68 rfl rfl rfl rfl rfl rfl (Nat.le_of_ble_eq_true rfl) ⟨Nat.le_of_ble_eq_true rfl, Nat.le_of_ble_eq_true rfl⟩ ⟨Nat.le_of_ble_eq_true rfl, Nat.le_of_ble_eq_true rfl⟩ (fR_k ?_) fR_x (Nat.le_of_ble_eq_true rfl) (Nat.le_of_ble_eq_true rfl)
          try dsimp only [Option.toList, List.cons_append, List.nil_append]
          refine v_ifb_ne (q := 79) (q2 := 74) hC dX12_wrong_71 (by decide) rfl (fun c_71 => ?_) (fun c_71 => ?_)
          · refine v_aload_n (i := 0) (q := 80) hC dX12_wrong_79 rfl rfl rfl ?_
            refine gn_12 (q := 83) hC dX12_wrong_80 rfl rfl fl_RX12_171 ?_
            refine v_bipush (q := 85) (v := 6) hC dX12_wrong_83 rfl (by decide) ?_
            refine v_icmp_ge (q := 101) (q2 := 88) hC dX12_wrong_85 (by decide) rfl (fun c_85 => ?_) (fun c_85 => ?_)
            · refine v_iconst (q := 102) (v := 0) hC dX12_wrong_101 rfl (by decide) ?_
              refine v_istore_n (i := 1) (q := 103) hC dX12_wrong_102 rfl rfl (lvc rfl) (Nat.le_of_ble_eq_true rfl) (Nat.le_of_ble_eq_true rfl) rfl ?_
              refine v_goto (q := 63) hC dX12_wrong_103 (by decide) ?_
              rw [if_neg (by rw [c_71]; decide)] at h1
              rw [if_pos c_71] at k2
              first
                | (rw [if_neg (by have := c_85; rcases Nat.lt_or_ge (nEn G q2).2.2.2.1 6 with z | z; exact absurd (nI_lt (b := 6) z (by decide)) (Int32.not_lt.mpr c_85); omega)] at h1
                   exact ih false _ h1 k1 (fun z => absurd z (by decide)))
                | (rw [if_pos (by rcases Nat.lt_or_ge (nEn G q2).2.2.2.1 6 with z | z; exact z; exact absurd (nI_le (a := 6) z (by omega)) c_85), c_94] at h1
                   exact ih _ _ h1 (nSg_ty k1) (fun z => by rw [nSg_pa2, k2]; exact ⟨by omega, by rcases Nat.lt_or_ge (nEn G q2).2.2.2.1 6 with z | z; omega; exact absurd (nI_le (a := 6) z (by omega)) c_85⟩))
            · refine v_aload_n (i := 0) (q := 89) hC dX12_wrong_88 rfl rfl rfl ?_
              refine v_bipush (q := 91) (v := 59) hC dX12_wrong_89 rfl (by decide) ?_
              refine v_callV (q := 94) (rm := rm_X12_sign) hC (c_X12_sign hl Θ 59 _ G k1) k_X12_sign im_yX12_sign se_yX12_sign ml_RX12_174 dX12_wrong_91 rfl rfl rfl rfl rfl rfl (Nat.le_of_ble_eq_true rfl) ⟨Nat.le_of_ble_eq_true rfl, Nat.le_of_ble_eq_true rfl⟩ ⟨Nat.le_of_ble_eq_true rfl, Nat.le_of_ble_eq_true rfl⟩ (fR_k ?_) fR_x (Nat.le_of_ble_eq_true rfl) (Nat.le_of_ble_eq_true rfl)
              try dsimp only [Option.toList, List.cons_append, List.nil_append]
              refine v_ifb_eq (q := 101) (q2 := 97) hC dX12_wrong_94 (by decide) rfl (fun c_94 => ?_) (fun c_94 => ?_)
              · refine v_iconst (q := 102) (v := 0) hC dX12_wrong_101 rfl (by decide) ?_
                refine v_istore_n (i := 1) (q := 103) hC dX12_wrong_102 rfl rfl (lvc rfl) (Nat.le_of_ble_eq_true rfl) (Nat.le_of_ble_eq_true rfl) rfl ?_
                refine v_goto (q := 63) hC dX12_wrong_103 (by decide) ?_
                rw [if_neg (by rw [c_71]; decide)] at h1
                rw [if_pos c_71] at k2
                first
                  | (rw [if_neg (by have := c_85; rcases Nat.lt_or_ge (nEn G q2).2.2.2.1 6 with z | z; exact absurd (nI_lt (b := 6) z (by decide)) (Int32.not_lt.mpr c_85); omega)] at h1
                     exact ih false _ h1 k1 (fun z => absurd z (by decide)))
                  | (rw [if_pos (by rcases Nat.lt_or_ge (nEn G q2).2.2.2.1 6 with z | z; exact z; exact absurd (nI_le (a := 6) z (by omega)) c_85), c_94] at h1
                     exact ih _ _ h1 (nSg_ty k1) (fun z => by rw [nSg_pa2, k2]; exact ⟨by omega, by rcases Nat.lt_or_ge (nEn G q2).2.2.2.1 6 with z | z; omega; exact absurd (nI_le (a := 6) z (by omega)) c_85⟩))
              · refine v_iconst (q := 98) (v := 1) hC dX12_wrong_97 rfl (by decide) ?_
                refine v_goto (q := 102) hC dX12_wrong_98 (by decide) ?_
                refine v_istore_n (i := 1) (q := 103) hC dX12_wrong_102 rfl rfl (lvc rfl) (Nat.le_of_ble_eq_true rfl) (Nat.le_of_ble_eq_true rfl) rfl ?_
                refine v_goto (q := 63) hC dX12_wrong_103 (by decide) ?_
                rw [if_neg (by rw [c_71]; decide)] at h1
                rw [if_pos c_71] at k2
                first
                  | (rw [if_neg (by have := c_85; rcases Nat.lt_or_ge (nEn G q2).2.2.2.1 6 with z | z; exact absurd (nI_lt (b := 6) z (by decide)) (Int32.not_lt.mpr c_85); omega)] at h1
                     exact ih false _ h1 k1 (fun z => absurd z (by decide)))
                  | (rw [if_pos (by rcases Nat.lt_or_ge (nEn G q2).2.2.2.1 6 with z | z; exact z; exact absurd (nI_le (a := 6) z (by omega)) c_85), c_94] at h1
                     exact ih _ _ h1 (nSg_ty k1) (fun z => by rw [nSg_pa2, k2]; exact ⟨by omega, by rcases Nat.lt_or_ge (nEn G q2).2.2.2.1 6 with z | z; omega; exact absurd (nI_le (a := 6) z (by omega)) c_85⟩))
          · refine v_aload_n (i := 0) (q := 75) hC dX12_wrong_74 rfl rfl rfl ?_
            refine gn_10 (q := 78) hC dX12_wrong_75 rfl rfl fl_RX12_162 ?_
            refine v_iret hC dX12_wrong_78 hr (rfl) ?_ (Nat.le_of_ble_eq_true rfl) (Nat.le_of_ble_eq_true rfl)
            rw [if_pos c_71] at h1
            rw [← h1]; exact ⟨rfl, rfl⟩
  refine v_aload_n (i := 0) (q := 1) hC dX12_wrong_0 rfl rfl rfl ?_
  refine v_iconst (q := 2) (v := 0) hC dX12_wrong_1 rfl (by decide) ?_
  refine pn_10 (x := 0) (q := 5) hC dX12_wrong_2 rfl rfl fl_RX12_162 ?_
  refine v_aload_n (i := 0) (q := 6) hC dX12_wrong_5 rfl rfl rfl ?_
  refine v_iconst (q := 7) (v := 0) hC dX12_wrong_6 rfl (by decide) ?_
  refine pn_12 (x := 0) (q := 10) hC dX12_wrong_7 rfl rfl fl_RX12_171 ?_
  refine v_aload_n (i := 0) (q := 11) hC dX12_wrong_10 rfl rfl rfl ?_
  refine v_bipush (q := 13) (v := 19) hC dX12_wrong_11 rfl (by decide) ?_
  refine v_callV (q := 16) (rm := rm_X12_number) hC (c_X12_number hl Θ 19 _ G ht) k_X12_number im_yX12_number se_yX12_number ml_RX12_177 dX12_wrong_13 rfl rfl rfl rfl rfl rfl (Nat.le_of_ble_eq_true rfl) ⟨Nat.le_of_ble_eq_true rfl, Nat.le_of_ble_eq_true rfl⟩ ⟨Nat.le_of_ble_eq_true rfl, Nat.le_of_ble_eq_true rfl⟩ (fR_k ?_) fR_x (Nat.le_of_ble_eq_true rfl) (Nat.le_of_ble_eq_true rfl)
  try dsimp only [Option.toList, List.cons_append, List.nil_append]
  refine v_ifb_eq (q := 28) (q2 := 19) hC dX12_wrong_16 (by decide) rfl (fun c_16 => ?_) (fun c_16 => ?_)
  · refine v_aload_n (i := 0) (q := 29) hC dX12_wrong_28 rfl rfl rfl ?_
    refine v_iconst (q := 30) (v := 0) hC dX12_wrong_29 rfl (by decide) ?_
    refine pn_11 (q := 33) hC dX12_wrong_30 rfl rfl fl_RX12_184 ?_
    refine v_aload_n (i := 0) (q := 34) hC dX12_wrong_33 rfl rfl rfl ?_
    refine gn_10 (q := 37) hC dX12_wrong_34 rfl rfl fl_RX12_162 ?_
    refine v_iret hC dX12_wrong_37 hr (rfl) ?_ (Nat.le_of_ble_eq_true rfl) (Nat.le_of_ble_eq_true rfl)
    rw [nWr]
    first
      | (rw [if_pos c_16]; exact ⟨rfl, rfl⟩)
      | (rw [if_neg (by rw [c_16]; decide), if_pos c_25]; exact ⟨rfl, rfl⟩)
  · refine v_aload_n (i := 0) (q := 20) hC dX12_wrong_19 rfl rfl rfl ?_
    refine v_bipush (q := 22) (v := 58) hC dX12_wrong_20 rfl (by decide) ?_
    refine v_callV (q := 25) (rm := rm_X12_sign) hC (c_X12_sign hl Θ 58 _ G (nNm_ty ht)) k_X12_sign im_yX12_sign se_yX12_sign ml_RX12_174 dX12_wrong_22 rfl rfl rfl rfl rfl rfl (Nat.le_of_ble_eq_true rfl) ⟨Nat.le_of_ble_eq_true rfl, Nat.le_of_ble_eq_true rfl⟩ ⟨Nat.le_of_ble_eq_true rfl, Nat.le_of_ble_eq_true rfl⟩ (fR_k ?_) fR_x (Nat.le_of_ble_eq_true rfl) (Nat.le_of_ble_eq_true rfl)
    try dsimp only [Option.toList, List.cons_append, List.nil_append]
    refine v_ifb_ne (q := 38) (q2 := 28) hC dX12_wrong_25 (by decide) rfl (fun c_25 => ?_) (fun c_25 => ?_)
    · refine v_aload_n (i := 0) (q := 39) hC dX12_wrong_38 rfl rfl rfl ?_
      refine v_aload_n (i := 0) (q := 40) hC dX12_wrong_39 rfl rfl rfl ?_
      refine gn_13 (q := 43) hC dX12_wrong_40 rfl rfl fl_RX12_168 ?_
      refine pn_11 (q := 46) hC dX12_wrong_43 rfl rfl fl_RX12_184 ?_
      refine v_aload_n (i := 0) (q := 47) hC dX12_wrong_46 rfl rfl rfl ?_
      refine gn_10 (q := 50) hC dX12_wrong_47 rfl rfl fl_RX12_162 ?_
      refine v_aload_n (i := 0) (q := 51) hC dX12_wrong_50 rfl rfl rfl ?_
      refine gn_7 (q := 54) hC dX12_wrong_51 rfl rfl fl_RX12_159 ?_
      refine v_icmp_ge (q := 61) (q2 := 57) hC dX12_wrong_54 (by decide) rfl (fun c_54 => ?_) (fun c_54 => ?_)
      · refine v_iconst (q := 62) (v := 0) hC dX12_wrong_61 rfl (by decide) ?_
        refine v_istore_n (i := 1) (q := 63) hC dX12_wrong_62 rfl rfl (lvc rfl) (Nat.le_of_ble_eq_true rfl) (Nat.le_of_ble_eq_true rfl) rfl ?_
        first
          | exact L 7 true (nWv (nSg G 58 (nNm G 19 (0, q.2.1, 0, q.2.2.2)).2).2) (by rw [nWr, if_neg (by rw [c_16]; decide), if_neg (by rw [c_25]; decide), decide_eq_true (Int32.not_le.mp c_54)]) (nSg_ty (nNm_ty ht)) (fun _ => by rw [show (nWv (nSg G 58 (nNm G 19 (0, q.2.1, 0, q.2.2.2)).2).2).2.2.1 = 0 by show (nSg G 58 (nNm G 19 (0, q.2.1, 0, q.2.2.2)).2).2.2.2.1 = 0; rw [nSg_pa2, nNm_pa]]; omega)
          | exact L 7 false (nWv (nSg G 58 (nNm G 19 (0, q.2.1, 0, q.2.2.2)).2).2) (by rw [nWr, if_neg (by rw [c_16]; decide), if_neg (by rw [c_25]; decide), decide_eq_false (Int32.not_lt.mpr c_54)]) (nSg_ty (nNm_ty ht)) (fun z => absurd z (by decide))
      · refine v_iconst (q := 58) (v := 1) hC dX12_wrong_57 rfl (by decide) ?_
        refine v_goto (q := 62) hC dX12_wrong_58 (by decide) ?_
        refine v_istore_n (i := 1) (q := 63) hC dX12_wrong_62 rfl rfl (lvc rfl) (Nat.le_of_ble_eq_true rfl) (Nat.le_of_ble_eq_true rfl) rfl ?_
        first
          | exact L 7 true (nWv (nSg G 58 (nNm G 19 (0, q.2.1, 0, q.2.2.2)).2).2) (by rw [nWr, if_neg (by rw [c_16]; decide), if_neg (by rw [c_25]; decide), decide_eq_true (Int32.not_le.mp c_54)]) (nSg_ty (nNm_ty ht)) (fun _ => by rw [show (nWv (nSg G 58 (nNm G 19 (0, q.2.1, 0, q.2.2.2)).2).2).2.2.1 = 0 by show (nSg G 58 (nNm G 19 (0, q.2.1, 0, q.2.2.2)).2).2.2.2.1 = 0; rw [nSg_pa2, nNm_pa]]; omega)
          | exact L 7 false (nWv (nSg G 58 (nNm G 19 (0, q.2.1, 0, q.2.2.2)).2).2) (by rw [nWr, if_neg (by rw [c_16]; decide), if_neg (by rw [c_25]; decide), decide_eq_false (Int32.not_lt.mpr c_54)]) (nSg_ty (nNm_ty ht)) (fun z => absurd z (by decide))
    · refine v_aload_n (i := 0) (q := 29) hC dX12_wrong_28 rfl rfl rfl ?_
      refine v_iconst (q := 30) (v := 0) hC dX12_wrong_29 rfl (by decide) ?_
      refine pn_11 (q := 33) hC dX12_wrong_30 rfl rfl fl_RX12_184 ?_
      refine v_aload_n (i := 0) (q := 34) hC dX12_wrong_33 rfl rfl rfl ?_
      refine gn_10 (q := 37) hC dX12_wrong_34 rfl rfl fl_RX12_162 ?_
      refine v_iret hC dX12_wrong_37 hr (rfl) ?_ (Nat.le_of_ble_eq_true rfl) (Nat.le_of_ble_eq_true rfl)
      rw [nWr]
      first
        | (rw [if_pos c_16]; exact ⟨rfl, rfl⟩)
        | (rw [if_neg (by rw [c_16]; decide), if_pos c_25]; exact ⟨rfl, rfl⟩)
