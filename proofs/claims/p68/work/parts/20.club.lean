/-! PermissionDesk: has, isIndex, changed; Club -/
def jHas (set k : Int32) : Bool := decide (0 ≤ k) && (decide (k < 32) && decide ((set.toUInt32 >>> (k.toUInt32 &&& Int32.toUInt32 31)).toInt32 &&& 1 = 1))
def jIdx (i n : Int32) : Bool := decide (0 ≤ i) && decide (i < n)
def jChg (set k : Int32) (b : Bool) : Int32 := if b = true then set ||| ((1 : Int32) <<< (k &&& 31)) else set &&& (((1 : Int32) <<< (k &&& 31)) ^^^ (-1))
theorem jIdx_in {i n : Int32} {N : Nat} (h : jIdx i n = true) (hn : n.toInt = N) : vp_in i N := by
  simp only [jIdx, Bool.and_eq_true, decide_eq_true_eq] at h
  rw [vp_in_iff]
  have h1 := Int32.le_iff_toInt_le.mp h.1
  have h2 := Int32.lt_iff_toInt_lt.mp h.2
  rw [hn] at h2
  exact ⟨by simpa using h1, h2⟩
set_option maxHeartbeats 4000000 in
set_option maxRecDepth 20000 in
theorem c_X11_has {l : Launch} (hl : l.stackTraces = false) (Θ : cTH) (a k : Int32) (G : GS) : Ct l yX11_has cX11_has 2 (some .boolean) rm_X11_has Θ [.int a, .int k] (G) (fR (some (.int (b2i (jHas a k)))) G) := by
  refine ct_of (LS := [some (.int a), some (.int k)]) hl (by decide +kernel) rfl (Nat.le_of_ble_eq_true rfl) rfl ?_
  intro p e s m args below meth c hC hr
  refine v_iload_n (i := 1) (q := 1) hC dX11_has_0 rfl rfl rfl ?_
  refine v_if_lt (q := 23) (q2 := 4) hC dX11_has_1 (by decide) rfl (fun c_1 => ?_) (fun c_1 => ?_)
  · refine v_iconst (q := 24) (v := 0) hC dX11_has_23 rfl (by decide) ?_
    refine v_iret hC dX11_has_24 hr (by first | rfl | exact nar_b) ?_ (Nat.le_of_ble_eq_true rfl) (Nat.le_of_ble_eq_true rfl)
    exact ⟨by simp_all [jHas, b2i, ← Int32.not_lt], rfl⟩
  · refine v_iload_n (i := 1) (q := 5) hC dX11_has_4 rfl rfl rfl ?_
    refine v_bipush (q := 7) (v := 32) hC dX11_has_5 rfl (by decide) ?_
    refine v_icmp_ge (q := 23) (q2 := 10) hC dX11_has_7 (by decide) rfl (fun c_7 => ?_) (fun c_7 => ?_)
    · refine v_iconst (q := 24) (v := 0) hC dX11_has_23 rfl (by decide) ?_
      refine v_iret hC dX11_has_24 hr (by first | rfl | exact nar_b) ?_ (Nat.le_of_ble_eq_true rfl) (Nat.le_of_ble_eq_true rfl)
      exact ⟨by simp_all [jHas, b2i, ← Int32.not_lt], rfl⟩
    · refine v_iload_n (i := 0) (q := 11) hC dX11_has_10 rfl rfl rfl ?_
      refine v_iload_n (i := 1) (q := 12) hC dX11_has_11 rfl rfl rfl ?_
      refine v_iushr (q := 13) hC dX11_has_12 rfl ?_
      refine v_iconst (q := 14) (v := 1) hC dX11_has_13 rfl (by decide) ?_
      refine v_iand (q := 15) hC dX11_has_14 rfl ?_
      refine v_iconst (q := 16) (v := 1) hC dX11_has_15 rfl (by decide) ?_
      refine v_icmp_ne (q := 23) (q2 := 19) hC dX11_has_16 (by decide) rfl (fun c_16 => ?_) (fun c_16 => ?_)
      · refine v_iconst (q := 24) (v := 0) hC dX11_has_23 rfl (by decide) ?_
        refine v_iret hC dX11_has_24 hr (by first | rfl | exact nar_b) ?_ (Nat.le_of_ble_eq_true rfl) (Nat.le_of_ble_eq_true rfl)
        exact ⟨by simp_all [jHas, b2i, ← Int32.not_lt], rfl⟩
      · refine v_iconst (q := 20) (v := 1) hC dX11_has_19 rfl (by decide) ?_
        refine v_goto (q := 24) hC dX11_has_20 (by decide) ?_
        refine v_iret hC dX11_has_24 hr (by first | rfl | exact nar_b) ?_ (Nat.le_of_ble_eq_true rfl) (Nat.le_of_ble_eq_true rfl)
        exact ⟨by simp_all [jHas, b2i, ← Int32.not_lt], rfl⟩
set_option maxHeartbeats 4000000 in
set_option maxRecDepth 20000 in
theorem c_X11_isIndex {l : Launch} (hl : l.stackTraces = false) (Θ : cTH) (i n : Int32) (G : GS) : Ct l yX11_isIndex cX11_isIndex 2 (some .boolean) rm_X11_isIndex Θ [.int i, .int n] (G) (fR (some (.int (b2i (jIdx i n)))) G) := by
  refine ct_of (LS := [some (.int i), some (.int n)]) hl (by decide +kernel) rfl (Nat.le_of_ble_eq_true rfl) rfl ?_
  intro p e s m args below meth c hC hr
  refine v_iload_n (i := 0) (q := 1) hC dX11_isIndex_0 rfl rfl rfl ?_
  refine v_if_lt (q := 13) (q2 := 4) hC dX11_isIndex_1 (by decide) rfl (fun c_1 => ?_) (fun c_1 => ?_)
  · refine v_iconst (q := 14) (v := 0) hC dX11_isIndex_13 rfl (by decide) ?_
    refine v_iret hC dX11_isIndex_14 hr (by first | rfl | exact nar_b) ?_ (Nat.le_of_ble_eq_true rfl) (Nat.le_of_ble_eq_true rfl)
    exact ⟨by simp_all [jIdx, b2i, ← Int32.not_lt], rfl⟩
  · refine v_iload_n (i := 0) (q := 5) hC dX11_isIndex_4 rfl rfl rfl ?_
    refine v_iload_n (i := 1) (q := 6) hC dX11_isIndex_5 rfl rfl rfl ?_
    refine v_icmp_ge (q := 13) (q2 := 9) hC dX11_isIndex_6 (by decide) rfl (fun c_6 => ?_) (fun c_6 => ?_)
    · refine v_iconst (q := 14) (v := 0) hC dX11_isIndex_13 rfl (by decide) ?_
      refine v_iret hC dX11_isIndex_14 hr (by first | rfl | exact nar_b) ?_ (Nat.le_of_ble_eq_true rfl) (Nat.le_of_ble_eq_true rfl)
      exact ⟨by simp_all [jIdx, b2i, ← Int32.not_lt], rfl⟩
    · refine v_iconst (q := 10) (v := 1) hC dX11_isIndex_9 rfl (by decide) ?_
      refine v_goto (q := 14) hC dX11_isIndex_10 (by decide) ?_
      refine v_iret hC dX11_isIndex_14 hr (by first | rfl | exact nar_b) ?_ (Nat.le_of_ble_eq_true rfl) (Nat.le_of_ble_eq_true rfl)
      exact ⟨by simp_all [jIdx, b2i, ← Int32.not_lt], rfl⟩
set_option maxHeartbeats 4000000 in
set_option maxRecDepth 20000 in
theorem c_X11_changed {l : Launch} (hl : l.stackTraces = false) (Θ : cTH) (a k : Int32) (b : Bool) (G : GS) : Ct l yX11_changed cX11_changed 3 (some .int) rm_X11_changed Θ [.int a, .int k, .int (b2i b)] (G) (fR (some (.int (jChg a k b))) G) := by
  refine ct_of (LS := [some (.int a), some (.int k), some (.int (b2i b))]) hl (by decide +kernel) rfl (Nat.le_of_ble_eq_true rfl) rfl ?_
  intro p e s m args below meth c hC hr
  refine v_iload_n (i := 2) (q := 1) hC dX11_changed_0 rfl rfl rfl ?_
  refine v_if_eq (q := 12) (q2 := 4) hC dX11_changed_1 (by decide) rfl (fun c_1 => ?_) (fun c_1 => ?_)
  · refine v_iload_n (i := 0) (q := 13) hC dX11_changed_12 rfl rfl rfl ?_
    refine v_iconst (q := 14) (v := 1) hC dX11_changed_13 rfl (by decide) ?_
    refine v_iload_n (i := 1) (q := 15) hC dX11_changed_14 rfl rfl rfl ?_
    refine v_ishl (q := 16) hC dX11_changed_15 rfl ?_
    refine v_iconst (q := 17) (v := (-1)) hC dX11_changed_16 rfl (by decide) ?_
    refine v_ixor (q := 18) hC dX11_changed_17 rfl ?_
    refine v_iand (q := 19) hC dX11_changed_18 rfl ?_
    refine v_iret hC dX11_changed_19 hr (rfl) ?_ (Nat.le_of_ble_eq_true rfl) (Nat.le_of_ble_eq_true rfl)
    exact ⟨by simp_all [jChg, b2i_eq0], rfl⟩
  · refine v_iload_n (i := 0) (q := 5) hC dX11_changed_4 rfl rfl rfl ?_
    refine v_iconst (q := 6) (v := 1) hC dX11_changed_5 rfl (by decide) ?_
    refine v_iload_n (i := 1) (q := 7) hC dX11_changed_6 rfl rfl rfl ?_
    refine v_ishl (q := 8) hC dX11_changed_7 rfl ?_
    refine v_ior (q := 9) hC dX11_changed_8 rfl ?_
    refine v_goto (q := 19) hC dX11_changed_9 (by decide) ?_
    refine v_iret hC dX11_changed_19 hr (rfl) ?_ (Nat.le_of_ble_eq_true rfl) (Nat.le_of_ble_eq_true rfl)
    exact ⟨by simp_all [jChg, b2i_eq0], rfl⟩
set_option maxHeartbeats 4000000 in
set_option maxRecDepth 20000 in
theorem c_X0_hasUser {l : Launch} (hl : l.stackTraces = false) (Θ : cTH) (u : Int32) (G : GS) : Ct l yX0_hasUser cX0_hasUser 2 (some .boolean) rm_X0_hasUser Θ [.ref (tR Θ 0 1), .int u] (G) (fR (some (.int (b2i (jIdx u (G.1 0 1 0))))) G) := by
  refine ct_of (LS := [some (.ref (tR Θ 0 1)), some (.int u)]) hl (by decide +kernel) rfl (Nat.le_of_ble_eq_true rfl) rfl ?_
  intro p e s m args below meth c hC hr
  refine v_iload_n (i := 1) (q := 1) hC dX0_hasUser_0 rfl rfl rfl ?_
  refine v_aload_n (i := 0) (q := 2) hC dX0_hasUser_1 rfl rfl rfl ?_
  refine g_X0_0 (q := 5) hC dX0_hasUser_2 rfl rfl fl_RX0_9 ?_
  refine v_callN (q := 8) (rm := rm_X11_isIndex) hC (c_X11_isIndex hl Θ _ _ _) k_X11_isIndex st_yX11_isIndex nl_RX0_31 dX0_hasUser_5 rfl  rfl rfl (Nat.le_of_ble_eq_true rfl) ⟨Nat.le_of_ble_eq_true rfl, Nat.le_of_ble_eq_true rfl⟩ ⟨Nat.le_of_ble_eq_true rfl, Nat.le_of_ble_eq_true rfl⟩ (fR_k ?_) fR_x (Nat.le_of_ble_eq_true rfl) (Nat.le_of_ble_eq_true rfl)
  try dsimp only [Option.toList, List.cons_append, List.nil_append]
  refine v_iret hC dX0_hasUser_8 hr (by first | rfl | exact nar_b) ?_ (Nat.le_of_ble_eq_true rfl) (Nat.le_of_ble_eq_true rfl)
  exact ⟨rfl, rfl⟩
set_option maxHeartbeats 4000000 in
set_option maxRecDepth 20000 in
theorem c_X0_hasGroup {l : Launch} (hl : l.stackTraces = false) (Θ : cTH) (u : Int32) (G : GS) : Ct l yX0_hasGroup cX0_hasGroup 2 (some .boolean) rm_X0_hasGroup Θ [.ref (tR Θ 0 1), .int u] (G) (fR (some (.int (b2i (jIdx u (G.1 0 1 1))))) G) := by
  refine ct_of (LS := [some (.ref (tR Θ 0 1)), some (.int u)]) hl (by decide +kernel) rfl (Nat.le_of_ble_eq_true rfl) rfl ?_
  intro p e s m args below meth c hC hr
  refine v_iload_n (i := 1) (q := 1) hC dX0_hasGroup_0 rfl rfl rfl ?_
  refine v_aload_n (i := 0) (q := 2) hC dX0_hasGroup_1 rfl rfl rfl ?_
  refine g_X0_1 (q := 5) hC dX0_hasGroup_2 rfl rfl fl_RX0_15 ?_
  refine v_callN (q := 8) (rm := rm_X11_isIndex) hC (c_X11_isIndex hl Θ _ _ _) k_X11_isIndex st_yX11_isIndex nl_RX0_31 dX0_hasGroup_5 rfl  rfl rfl (Nat.le_of_ble_eq_true rfl) ⟨Nat.le_of_ble_eq_true rfl, Nat.le_of_ble_eq_true rfl⟩ ⟨Nat.le_of_ble_eq_true rfl, Nat.le_of_ble_eq_true rfl⟩ (fR_k ?_) fR_x (Nat.le_of_ble_eq_true rfl) (Nat.le_of_ble_eq_true rfl)
  try dsimp only [Option.toList, List.cons_append, List.nil_append]
  refine v_iret hC dX0_hasGroup_8 hr (by first | rfl | exact nar_b) ?_ (Nat.le_of_ble_eq_true rfl) (Nat.le_of_ble_eq_true rfl)
  exact ⟨rfl, rfl⟩
/-- Club: what it answers -/
def sMem (w : Nat → Int32) (g u : Int32) : Bool := jIdx u 12 && jHas (w u.toNatClampNeg) g
def sInn (o : Nat → Int32) (x y : Int32) : Bool := jIdx y 8 && jHas (o y.toNatClampNeg) x
set_option maxHeartbeats 4000000 in
set_option maxRecDepth 20000 in
theorem c_X0_takeUser {l : Launch} (hl : l.stackTraces = false) (Θ : cTH) (G : GS) : Ct l yX0_takeUser cX0_takeUser 2 (some .int) rm_X0_takeUser Θ [.ref (tR Θ 0 1)] (G) (fR (some (.int (G.1 0 1 0))) (putF G 0 1 0 (G.1 0 1 0 + 1))) := by
  refine ct_of (LS := [some (.ref (tR Θ 0 1)), none]) hl (by decide +kernel) rfl (Nat.le_of_ble_eq_true rfl) rfl ?_
  intro p e s m args below meth c hC hr
  refine v_aload_n (i := 0) (q := 1) hC dX0_takeUser_0 rfl rfl rfl ?_
  refine g_X0_0 (q := 4) hC dX0_takeUser_1 rfl rfl fl_RX0_9 ?_
  refine v_istore_n (i := 1) (q := 5) hC dX0_takeUser_4 rfl rfl (lvc rfl) (Nat.le_of_ble_eq_true rfl) (Nat.le_of_ble_eq_true rfl) rfl ?_
  refine v_aload_n (i := 0) (q := 6) hC dX0_takeUser_5 rfl rfl rfl ?_
  refine v_dup (q := 7) hC dX0_takeUser_6 rfl rfl ?_
  refine g_X0_0 (q := 10) hC dX0_takeUser_7 rfl rfl fl_RX0_9 ?_
  refine v_iconst (q := 11) (v := 1) hC dX0_takeUser_10 rfl (by decide) ?_
  refine v_iadd (q := 12) hC dX0_takeUser_11 rfl ?_
  refine p_X0_0 (q := 15) hC dX0_takeUser_12 rfl rfl fl_RX0_9 ?_
  refine v_iload_n (i := 1) (q := 16) hC dX0_takeUser_15 rfl rfl rfl ?_
  refine v_iret hC dX0_takeUser_16 hr (rfl) ?_ (Nat.le_of_ble_eq_true rfl) (Nat.le_of_ble_eq_true rfl)
  exact ⟨rfl, rfl⟩
set_option maxHeartbeats 4000000 in
set_option maxRecDepth 20000 in
theorem c_X0_takeGroup {l : Launch} (hl : l.stackTraces = false) (Θ : cTH) (G : GS) : Ct l yX0_takeGroup cX0_takeGroup 2 (some .int) rm_X0_takeGroup Θ [.ref (tR Θ 0 1)] (G) (fR (some (.int (G.1 0 1 1))) (putF G 0 1 1 (G.1 0 1 1 + 1))) := by
  refine ct_of (LS := [some (.ref (tR Θ 0 1)), none]) hl (by decide +kernel) rfl (Nat.le_of_ble_eq_true rfl) rfl ?_
  intro p e s m args below meth c hC hr
  refine v_aload_n (i := 0) (q := 1) hC dX0_takeGroup_0 rfl rfl rfl ?_
  refine g_X0_1 (q := 4) hC dX0_takeGroup_1 rfl rfl fl_RX0_15 ?_
  refine v_istore_n (i := 1) (q := 5) hC dX0_takeGroup_4 rfl rfl (lvc rfl) (Nat.le_of_ble_eq_true rfl) (Nat.le_of_ble_eq_true rfl) rfl ?_
  refine v_aload_n (i := 0) (q := 6) hC dX0_takeGroup_5 rfl rfl rfl ?_
  refine v_dup (q := 7) hC dX0_takeGroup_6 rfl rfl ?_
  refine g_X0_1 (q := 10) hC dX0_takeGroup_7 rfl rfl fl_RX0_15 ?_
  refine v_iconst (q := 11) (v := 1) hC dX0_takeGroup_10 rfl (by decide) ?_
  refine v_iadd (q := 12) hC dX0_takeGroup_11 rfl ?_
  refine p_X0_1 (q := 15) hC dX0_takeGroup_12 rfl rfl fl_RX0_15 ?_
  refine v_iload_n (i := 1) (q := 16) hC dX0_takeGroup_15 rfl rfl rfl ?_
  refine v_iret hC dX0_takeGroup_16 hr (rfl) ?_ (Nat.le_of_ble_eq_true rfl) (Nat.le_of_ble_eq_true rfl)
  exact ⟨rfl, rfl⟩
set_option maxHeartbeats 4000000 in
set_option maxRecDepth 20000 in
theorem c_X0_hasMember {l : Launch} (hl : l.stackTraces = false) (Θ : cTH) (g u : Int32) (G : GS) : Ct l yX0_hasMember cX0_hasMember 3 (some .boolean) rm_X0_hasMember Θ [.ref (tR Θ 0 1), .int g, .int u] (G) (fR (some (.int (b2i (sMem (G.2.1 0 2) g u)))) G) := by
  refine ct_of (LS := [some (.ref (tR Θ 0 1)), some (.int g), some (.int u)]) hl (by decide +kernel) rfl (Nat.le_of_ble_eq_true rfl) rfl ?_
  intro p e s m args below meth c hC hr
  refine v_iload_n (i := 2) (q := 1) hC dX0_hasMember_0 rfl rfl rfl ?_
  refine v_bipush (q := 3) (v := 12) hC dX0_hasMember_1 rfl (by decide) ?_
  refine v_callN (q := 6) (rm := rm_X11_isIndex) hC (c_X11_isIndex hl Θ _ _ _) k_X11_isIndex st_yX11_isIndex nl_RX0_31 dX0_hasMember_3 rfl  rfl rfl (Nat.le_of_ble_eq_true rfl) ⟨Nat.le_of_ble_eq_true rfl, Nat.le_of_ble_eq_true rfl⟩ ⟨Nat.le_of_ble_eq_true rfl, Nat.le_of_ble_eq_true rfl⟩ (fR_k ?_) fR_x (Nat.le_of_ble_eq_true rfl) (Nat.le_of_ble_eq_true rfl)
  try dsimp only [Option.toList, List.cons_append, List.nil_append]
  refine v_ifb_eq (q := 26) (q2 := 9) hC dX0_hasMember_6 (by decide) rfl (fun c_6 => ?_) (fun c_6 => ?_)
  · refine v_iconst (q := 27) (v := 0) hC dX0_hasMember_26 rfl (by decide) ?_
    refine v_iret hC dX0_hasMember_27 hr (by first | rfl | exact nar_b) ?_ (Nat.le_of_ble_eq_true rfl) (Nat.le_of_ble_eq_true rfl)
    exact ⟨by simp_all [sMem, b2i], rfl⟩
  · refine v_aload_n (i := 0) (q := 10) hC dX0_hasMember_9 rfl rfl rfl ?_
    refine g_X0_2 (q := 13) hC dX0_hasMember_10 rfl rfl fl_RX0_18 ?_
    refine v_iload_n (i := 2) (q := 14) hC dX0_hasMember_13 rfl rfl rfl ?_
    refine v_iald (q := 15) hC dX0_hasMember_14 rfl rfl rfl (jIdx_in ‹_› rfl) ?_
    refine v_iload_n (i := 1) (q := 16) hC dX0_hasMember_15 rfl rfl rfl ?_
    refine v_callN (q := 19) (rm := rm_X11_has) hC (c_X11_has hl Θ _ _ _) k_X11_has st_yX11_has nl_RX0_35 dX0_hasMember_16 rfl  rfl rfl (Nat.le_of_ble_eq_true rfl) ⟨Nat.le_of_ble_eq_true rfl, Nat.le_of_ble_eq_true rfl⟩ ⟨Nat.le_of_ble_eq_true rfl, Nat.le_of_ble_eq_true rfl⟩ (fR_k ?_) fR_x (Nat.le_of_ble_eq_true rfl) (Nat.le_of_ble_eq_true rfl)
    try dsimp only [Option.toList, List.cons_append, List.nil_append]
    refine v_ifb_eq (q := 26) (q2 := 22) hC dX0_hasMember_19 (by decide) rfl (fun c_19 => ?_) (fun c_19 => ?_)
    · refine v_iconst (q := 27) (v := 0) hC dX0_hasMember_26 rfl (by decide) ?_
      refine v_iret hC dX0_hasMember_27 hr (by first | rfl | exact nar_b) ?_ (Nat.le_of_ble_eq_true rfl) (Nat.le_of_ble_eq_true rfl)
      exact ⟨by simp_all [sMem, b2i], rfl⟩
    · refine v_iconst (q := 23) (v := 1) hC dX0_hasMember_22 rfl (by decide) ?_
      refine v_goto (q := 27) hC dX0_hasMember_23 (by decide) ?_
      refine v_iret hC dX0_hasMember_27 hr (by first | rfl | exact nar_b) ?_ (Nat.le_of_ble_eq_true rfl) (Nat.le_of_ble_eq_true rfl)
      exact ⟨by simp_all [sMem, b2i], rfl⟩
set_option maxHeartbeats 4000000 in
set_option maxRecDepth 20000 in
theorem c_X0_setMember {l : Launch} (hl : l.stackTraces = false) (Θ : cTH) (g u : Int32) (b : Bool) (G : GS) : Ct l yX0_setMember cX0_setMember 4 none rm_X0_setMember Θ [.ref (tR Θ 0 1), .int g, .int u, .int (b2i b)] (G) (fR none (if jIdx u 12 = true then putA G 0 2 (upd (G.2.1 0 2) u.toNatClampNeg (jChg (G.2.1 0 2 u.toNatClampNeg) g b)) else G)) := by
  refine ct_of (LS := [some (.ref (tR Θ 0 1)), some (.int g), some (.int u), some (.int (b2i b))]) hl (by decide +kernel) rfl (Nat.le_of_ble_eq_true rfl) rfl ?_
  intro p e s m args below meth c hC hr
  refine v_iload_n (i := 2) (q := 1) hC dX0_setMember_0 rfl rfl rfl ?_
  refine v_bipush (q := 3) (v := 12) hC dX0_setMember_1 rfl (by decide) ?_
  refine v_callN (q := 6) (rm := rm_X11_isIndex) hC (c_X11_isIndex hl Θ _ _ _) k_X11_isIndex st_yX11_isIndex nl_RX0_31 dX0_setMember_3 rfl  rfl rfl (Nat.le_of_ble_eq_true rfl) ⟨Nat.le_of_ble_eq_true rfl, Nat.le_of_ble_eq_true rfl⟩ ⟨Nat.le_of_ble_eq_true rfl, Nat.le_of_ble_eq_true rfl⟩ (fR_k ?_) fR_x (Nat.le_of_ble_eq_true rfl) (Nat.le_of_ble_eq_true rfl)
  try dsimp only [Option.toList, List.cons_append, List.nil_append]
  refine v_ifb_eq (q := 26) (q2 := 9) hC dX0_setMember_6 (by decide) rfl (fun c_6 => ?_) (fun c_6 => ?_)
  · refine v_vret hC dX0_setMember_26 hr ?_ (Nat.le_of_ble_eq_true rfl) (Nat.le_of_ble_eq_true rfl)
    exact ⟨rfl, by simp_all⟩
  · refine v_aload_n (i := 0) (q := 10) hC dX0_setMember_9 rfl rfl rfl ?_
    refine g_X0_2 (q := 13) hC dX0_setMember_10 rfl rfl fl_RX0_18 ?_
    refine v_iload_n (i := 2) (q := 14) hC dX0_setMember_13 rfl rfl rfl ?_
    refine v_aload_n (i := 0) (q := 15) hC dX0_setMember_14 rfl rfl rfl ?_
    refine g_X0_2 (q := 18) hC dX0_setMember_15 rfl rfl fl_RX0_18 ?_
    refine v_iload_n (i := 2) (q := 19) hC dX0_setMember_18 rfl rfl rfl ?_
    refine v_iald (q := 20) hC dX0_setMember_19 rfl rfl rfl (jIdx_in ‹_› rfl) ?_
    refine v_iload_n (i := 1) (q := 21) hC dX0_setMember_20 rfl rfl rfl ?_
    refine v_iload_n (i := 3) (q := 22) hC dX0_setMember_21 rfl rfl rfl ?_
    refine v_callN (q := 25) (rm := rm_X11_changed) hC (c_X11_changed hl Θ _ _ _ _) k_X11_changed st_yX11_changed nl_RX0_38 dX0_setMember_22 rfl  rfl rfl (Nat.le_of_ble_eq_true rfl) ⟨Nat.le_of_ble_eq_true rfl, Nat.le_of_ble_eq_true rfl⟩ ⟨Nat.le_of_ble_eq_true rfl, Nat.le_of_ble_eq_true rfl⟩ (fR_k ?_) fR_x (Nat.le_of_ble_eq_true rfl) (Nat.le_of_ble_eq_true rfl)
    try dsimp only [Option.toList, List.cons_append, List.nil_append]
    refine v_iast (q := 26) hC dX0_setMember_25 rfl rfl (fun _ => rfl) (jIdx_in ‹_› rfl) ?_
    refine v_vret hC dX0_setMember_26 hr ?_ (Nat.le_of_ble_eq_true rfl) (Nat.le_of_ble_eq_true rfl)
    exact ⟨rfl, by simp_all⟩
set_option maxHeartbeats 4000000 in
set_option maxRecDepth 20000 in
theorem c_X0_hasInner {l : Launch} (hl : l.stackTraces = false) (Θ : cTH) (x y : Int32) (G : GS) : Ct l yX0_hasInner cX0_hasInner 3 (some .boolean) rm_X0_hasInner Θ [.ref (tR Θ 0 1), .int x, .int y] (G) (fR (some (.int (b2i (sInn (G.2.1 0 3) x y)))) G) := by
  refine ct_of (LS := [some (.ref (tR Θ 0 1)), some (.int x), some (.int y)]) hl (by decide +kernel) rfl (Nat.le_of_ble_eq_true rfl) rfl ?_
  intro p e s m args below meth c hC hr
  refine v_iload_n (i := 2) (q := 1) hC dX0_hasInner_0 rfl rfl rfl ?_
  refine v_bipush (q := 3) (v := 8) hC dX0_hasInner_1 rfl (by decide) ?_
  refine v_callN (q := 6) (rm := rm_X11_isIndex) hC (c_X11_isIndex hl Θ _ _ _) k_X11_isIndex st_yX11_isIndex nl_RX0_31 dX0_hasInner_3 rfl  rfl rfl (Nat.le_of_ble_eq_true rfl) ⟨Nat.le_of_ble_eq_true rfl, Nat.le_of_ble_eq_true rfl⟩ ⟨Nat.le_of_ble_eq_true rfl, Nat.le_of_ble_eq_true rfl⟩ (fR_k ?_) fR_x (Nat.le_of_ble_eq_true rfl) (Nat.le_of_ble_eq_true rfl)
  try dsimp only [Option.toList, List.cons_append, List.nil_append]
  refine v_ifb_eq (q := 26) (q2 := 9) hC dX0_hasInner_6 (by decide) rfl (fun c_6 => ?_) (fun c_6 => ?_)
  · refine v_iconst (q := 27) (v := 0) hC dX0_hasInner_26 rfl (by decide) ?_
    refine v_iret hC dX0_hasInner_27 hr (by first | rfl | exact nar_b) ?_ (Nat.le_of_ble_eq_true rfl) (Nat.le_of_ble_eq_true rfl)
    exact ⟨by simp_all [sInn, b2i], rfl⟩
  · refine v_aload_n (i := 0) (q := 10) hC dX0_hasInner_9 rfl rfl rfl ?_
    refine g_X0_3 (q := 13) hC dX0_hasInner_10 rfl rfl fl_RX0_22 ?_
    refine v_iload_n (i := 2) (q := 14) hC dX0_hasInner_13 rfl rfl rfl ?_
    refine v_iald (q := 15) hC dX0_hasInner_14 rfl rfl rfl (jIdx_in ‹_› rfl) ?_
    refine v_iload_n (i := 1) (q := 16) hC dX0_hasInner_15 rfl rfl rfl ?_
    refine v_callN (q := 19) (rm := rm_X11_has) hC (c_X11_has hl Θ _ _ _) k_X11_has st_yX11_has nl_RX0_35 dX0_hasInner_16 rfl  rfl rfl (Nat.le_of_ble_eq_true rfl) ⟨Nat.le_of_ble_eq_true rfl, Nat.le_of_ble_eq_true rfl⟩ ⟨Nat.le_of_ble_eq_true rfl, Nat.le_of_ble_eq_true rfl⟩ (fR_k ?_) fR_x (Nat.le_of_ble_eq_true rfl) (Nat.le_of_ble_eq_true rfl)
    try dsimp only [Option.toList, List.cons_append, List.nil_append]
    refine v_ifb_eq (q := 26) (q2 := 22) hC dX0_hasInner_19 (by decide) rfl (fun c_19 => ?_) (fun c_19 => ?_)
    · refine v_iconst (q := 27) (v := 0) hC dX0_hasInner_26 rfl (by decide) ?_
      refine v_iret hC dX0_hasInner_27 hr (by first | rfl | exact nar_b) ?_ (Nat.le_of_ble_eq_true rfl) (Nat.le_of_ble_eq_true rfl)
      exact ⟨by simp_all [sInn, b2i], rfl⟩
    · refine v_iconst (q := 23) (v := 1) hC dX0_hasInner_22 rfl (by decide) ?_
      refine v_goto (q := 27) hC dX0_hasInner_23 (by decide) ?_
      refine v_iret hC dX0_hasInner_27 hr (by first | rfl | exact nar_b) ?_ (Nat.le_of_ble_eq_true rfl) (Nat.le_of_ble_eq_true rfl)
      exact ⟨by simp_all [sInn, b2i], rfl⟩
set_option maxHeartbeats 4000000 in
set_option maxRecDepth 20000 in
theorem c_X0_setInner {l : Launch} (hl : l.stackTraces = false) (Θ : cTH) (x y : Int32) (b : Bool) (G : GS) : Ct l yX0_setInner cX0_setInner 4 none rm_X0_setInner Θ [.ref (tR Θ 0 1), .int x, .int y, .int (b2i b)] (G) (fR none (if jIdx y 8 = true then putA G 0 3 (upd (G.2.1 0 3) y.toNatClampNeg (jChg (G.2.1 0 3 y.toNatClampNeg) x b)) else G)) := by
  refine ct_of (LS := [some (.ref (tR Θ 0 1)), some (.int x), some (.int y), some (.int (b2i b))]) hl (by decide +kernel) rfl (Nat.le_of_ble_eq_true rfl) rfl ?_
  intro p e s m args below meth c hC hr
  refine v_iload_n (i := 2) (q := 1) hC dX0_setInner_0 rfl rfl rfl ?_
  refine v_bipush (q := 3) (v := 8) hC dX0_setInner_1 rfl (by decide) ?_
  refine v_callN (q := 6) (rm := rm_X11_isIndex) hC (c_X11_isIndex hl Θ _ _ _) k_X11_isIndex st_yX11_isIndex nl_RX0_31 dX0_setInner_3 rfl  rfl rfl (Nat.le_of_ble_eq_true rfl) ⟨Nat.le_of_ble_eq_true rfl, Nat.le_of_ble_eq_true rfl⟩ ⟨Nat.le_of_ble_eq_true rfl, Nat.le_of_ble_eq_true rfl⟩ (fR_k ?_) fR_x (Nat.le_of_ble_eq_true rfl) (Nat.le_of_ble_eq_true rfl)
  try dsimp only [Option.toList, List.cons_append, List.nil_append]
  refine v_ifb_eq (q := 26) (q2 := 9) hC dX0_setInner_6 (by decide) rfl (fun c_6 => ?_) (fun c_6 => ?_)
  · refine v_vret hC dX0_setInner_26 hr ?_ (Nat.le_of_ble_eq_true rfl) (Nat.le_of_ble_eq_true rfl)
    exact ⟨rfl, by simp_all⟩
  · refine v_aload_n (i := 0) (q := 10) hC dX0_setInner_9 rfl rfl rfl ?_
    refine g_X0_3 (q := 13) hC dX0_setInner_10 rfl rfl fl_RX0_22 ?_
    refine v_iload_n (i := 2) (q := 14) hC dX0_setInner_13 rfl rfl rfl ?_
    refine v_aload_n (i := 0) (q := 15) hC dX0_setInner_14 rfl rfl rfl ?_
    refine g_X0_3 (q := 18) hC dX0_setInner_15 rfl rfl fl_RX0_22 ?_
    refine v_iload_n (i := 2) (q := 19) hC dX0_setInner_18 rfl rfl rfl ?_
    refine v_iald (q := 20) hC dX0_setInner_19 rfl rfl rfl (jIdx_in ‹_› rfl) ?_
    refine v_iload_n (i := 1) (q := 21) hC dX0_setInner_20 rfl rfl rfl ?_
    refine v_iload_n (i := 3) (q := 22) hC dX0_setInner_21 rfl rfl rfl ?_
    refine v_callN (q := 25) (rm := rm_X11_changed) hC (c_X11_changed hl Θ _ _ _ _) k_X11_changed st_yX11_changed nl_RX0_38 dX0_setInner_22 rfl  rfl rfl (Nat.le_of_ble_eq_true rfl) ⟨Nat.le_of_ble_eq_true rfl, Nat.le_of_ble_eq_true rfl⟩ ⟨Nat.le_of_ble_eq_true rfl, Nat.le_of_ble_eq_true rfl⟩ (fR_k ?_) fR_x (Nat.le_of_ble_eq_true rfl) (Nat.le_of_ble_eq_true rfl)
    try dsimp only [Option.toList, List.cons_append, List.nil_append]
    refine v_iast (q := 26) hC dX0_setInner_25 rfl rfl (fun _ => rfl) (jIdx_in ‹_› rfl) ?_
    refine v_vret hC dX0_setInner_26 hr ?_ (Nat.le_of_ble_eq_true rfl) (Nat.le_of_ble_eq_true rfl)
    exact ⟨rfl, by simp_all⟩
/-- one round of climbing: from the place j on, n places left -/
def cIn (o : Nat → Int32) (b : Int32) : Nat → Nat → Int32 → Int32
  | 0, _, r => r
  | n + 1, j, r => cIn o b n (j + 1) (if jHas b (nI j) = true then r ||| o j else r)
/-- climbing: n rounds left -/
def cUp (o : Nat → Int32) : Nat → Int32 → Int32
  | 0, r => r
  | n + 1, r => if cIn o r 8 0 r = r then r else cUp o n (cIn o r 8 0 r)
set_option maxHeartbeats 4000000 in
set_option maxRecDepth 20000 in
theorem c_X0_climbFrom {l : Launch} (hl : l.stackTraces = false) (Θ : cTH) (r0 : Int32) (G : GS) (g : Nat) (hg : G.1 0 1 1 = nI g) (hg8 : g ≤ 8) : Ct l yX0_climbFrom cX0_climbFrom 6 (some .int) rm_X0_climbFrom Θ [.ref (tR Θ 0 1), .int r0] (G) (fR (some (.int (cUp (G.2.1 0 3) g r0))) G) := by
  refine ct_of (LS := [some (.ref (tR Θ 0 1)), some (.int r0), none, none, none, none]) hl (by decide +kernel) rfl (Nat.le_of_ble_eq_true rfl) rfl ?_
  intro p e s m args below meth c hC hr
  have L : ∀ (n j : Nat) (x4 x5 : Option Value) (r : Int32), n + j = g → cUp (G.2.1 0 3) n r = cUp (G.2.1 0 3) g r0 → lvCb [x4, x5] 1 = true → V p l e rm_X0_climbFrom s m args below meth c 6 Θ (fR (some (.int (cUp (G.2.1 0 3) g r0))) G) 0 0 0 0 4 [some (.ref (tR Θ 0 1)), some (.int r0), some (.int r), some (.int (nI j)), x4, x5] [] (G) := by
    intro n
    induction n with
    | zero =>
      intro j x4 x5 r h1 h2 h3
      refine v_iload_n (i := 3) (q := 5) hC dX0_climbFrom_4 rfl rfl rfl ?_
      refine v_aload_n (i := 0) (q := 6) hC dX0_climbFrom_5 rfl rfl rfl ?_
      refine g_X0_1 (q := 9) hC dX0_climbFrom_6 rfl rfl fl_RX0_15 ?_
      refine v_icmp_ge (q := 65) (q2 := 12) hC dX0_climbFrom_9 (by decide) rfl (fun c_9 => ?_) (fun c_9 => ?_)
      · refine v_iload_n (i := 2) (q := 66) hC dX0_climbFrom_65 rfl rfl rfl ?_
        refine v_iret hC dX0_climbFrom_66 hr (rfl) ?_ (Nat.le_of_ble_eq_true rfl) (Nat.le_of_ble_eq_true rfl)
        exact ⟨by rw [← h2]; rfl, rfl⟩
      · exact absurd (by rw [hg, ← h1]; exact nI_le (by omega) (by omega)) c_9
    | succ n ih =>
      intro j x4 x5 r h1 h2 h3
      have L2 : ∀ (n2 j2 : Nat) (r2 : Int32), n2 + j2 = 8 → cIn (G.2.1 0 3) r n2 j2 r2 = cIn (G.2.1 0 3) r 8 0 r → V p l e rm_X0_climbFrom s m args below meth c 6 Θ (fR (some (.int (cUp (G.2.1 0 3) g r0))) G) 0 0 0 0 18 [some (.ref (tR Θ 0 1)), some (.int r0), some (.int r2), some (.int (nI j)), some (.int r), some (.int (nI j2))] [] (G) := by
        intro n2
        induction n2 with
        | zero =>
          intro j2 r2 h4 h5
          refine v_iload (q := 20) hC dX0_climbFrom_18 rfl rfl ?_
          refine v_bipush (q := 22) (v := 8) hC dX0_climbFrom_20 rfl (by decide) ?_
          refine v_icmp_ge (q := 51) (q2 := 25) hC dX0_climbFrom_22 (by decide) rfl (fun c_22 => ?_) (fun c_22 => ?_)
          · refine v_iload_n (i := 2) (q := 52) hC dX0_climbFrom_51 rfl rfl rfl ?_
            refine v_iload (q := 54) hC dX0_climbFrom_52 rfl rfl ?_
            refine v_icmp_ne (q := 59) (q2 := 57) hC dX0_climbFrom_54 (by decide) rfl (fun c_54 => ?_) (fun c_54 => ?_)
            · refine v_iinc (q := 62) (v := nI (j + 1)) hC dX0_climbFrom_59 rfl rfl (nI_1 j) (lvc rfl) (Nat.le_of_ble_eq_true rfl) (Nat.le_of_ble_eq_true rfl) rfl ?_
              refine v_goto (q := 4) hC dX0_climbFrom_62 (by decide) ?_
              exact ih (j + 1) _ _ _ (by omega) (by rw [← h2, cUp, ← h5, cIn, if_neg ‹_›]) rfl
            · refine v_iload_n (i := 2) (q := 58) hC dX0_climbFrom_57 rfl rfl rfl ?_
              refine v_iret hC dX0_climbFrom_58 hr (rfl) ?_ (Nat.le_of_ble_eq_true rfl) (Nat.le_of_ble_eq_true rfl)
              exact ⟨by rw [← h2, cUp, ← h5, cIn, if_pos ‹_›, ‹r2 = r›], rfl⟩
          · exact absurd (by rw [show j2 = 8 by omega]; decide) c_22
        | succ n2 ih2 =>
          intro j2 r2 h4 h5
          refine v_iload (q := 20) hC dX0_climbFrom_18 rfl rfl ?_
          refine v_bipush (q := 22) (v := 8) hC dX0_climbFrom_20 rfl (by decide) ?_
          refine v_icmp_ge (q := 51) (q2 := 25) hC dX0_climbFrom_22 (by decide) rfl (fun c_22 => ?_) (fun c_22 => ?_)
          · exact absurd c_22 (by rw [show (8 : Int32) = nI 8 from rfl]; exact nI_ge (by omega) (by omega))
          · refine v_iload (q := 27) hC dX0_climbFrom_25 rfl rfl ?_
            refine v_iload (q := 29) hC dX0_climbFrom_27 rfl rfl ?_
            refine v_callN (q := 32) (rm := rm_X11_has) hC (c_X11_has hl Θ _ _ _) k_X11_has st_yX11_has nl_RX0_35 dX0_climbFrom_29 rfl  rfl rfl (Nat.le_of_ble_eq_true rfl) ⟨Nat.le_of_ble_eq_true rfl, Nat.le_of_ble_eq_true rfl⟩ ⟨Nat.le_of_ble_eq_true rfl, Nat.le_of_ble_eq_true rfl⟩ (fR_k ?_) fR_x (Nat.le_of_ble_eq_true rfl) (Nat.le_of_ble_eq_true rfl)
            try dsimp only [Option.toList, List.cons_append, List.nil_append]
            refine v_ifb_eq (q := 45) (q2 := 35) hC dX0_climbFrom_32 (by decide) rfl (fun c_32 => ?_) (fun c_32 => ?_)
            · refine v_iinc (q := 48) (v := nI (j2 + 1)) hC dX0_climbFrom_45 rfl rfl (nI_1 j2) (lvc rfl) (Nat.le_of_ble_eq_true rfl) (Nat.le_of_ble_eq_true rfl) rfl ?_
              refine v_goto (q := 18) hC dX0_climbFrom_48 (by decide) ?_
              exact ih2 (j2 + 1) _ (by omega) (by rw [← h5, cIn]; simp only [*, nI_clamp (show j2 < 2 ^ 31 by omega)]; simp)
            · refine v_iload_n (i := 2) (q := 36) hC dX0_climbFrom_35 rfl rfl rfl ?_
              refine v_aload_n (i := 0) (q := 37) hC dX0_climbFrom_36 rfl rfl rfl ?_
              refine g_X0_3 (q := 40) hC dX0_climbFrom_37 rfl rfl fl_RX0_22 ?_
              refine v_iload (q := 42) hC dX0_climbFrom_40 rfl rfl ?_
              refine v_iald (q := 43) hC dX0_climbFrom_42 rfl rfl rfl (vp_in_nI (by omega) (by omega)) ?_
              refine v_ior (q := 44) hC dX0_climbFrom_43 rfl ?_
              refine v_istore_n (i := 2) (q := 45) hC dX0_climbFrom_44 rfl rfl (lvc rfl) (Nat.le_of_ble_eq_true rfl) (Nat.le_of_ble_eq_true rfl) rfl ?_
              refine v_iinc (q := 48) (v := nI (j2 + 1)) hC dX0_climbFrom_45 rfl rfl (nI_1 j2) (lvc rfl) (Nat.le_of_ble_eq_true rfl) (Nat.le_of_ble_eq_true rfl) rfl ?_
              refine v_goto (q := 18) hC dX0_climbFrom_48 (by decide) ?_
              exact ih2 (j2 + 1) _ (by omega) (by rw [← h5, cIn]; simp only [*, nI_clamp (show j2 < 2 ^ 31 by omega)]; simp)
      refine v_iload_n (i := 3) (q := 5) hC dX0_climbFrom_4 rfl rfl rfl ?_
      refine v_aload_n (i := 0) (q := 6) hC dX0_climbFrom_5 rfl rfl rfl ?_
      refine g_X0_1 (q := 9) hC dX0_climbFrom_6 rfl rfl fl_RX0_15 ?_
      refine v_icmp_ge (q := 65) (q2 := 12) hC dX0_climbFrom_9 (by decide) rfl (fun c_9 => ?_) (fun c_9 => ?_)
      · exact absurd c_9 (by rw [hg, ← h1]; exact nI_ge (by omega) (by omega))
      · refine v_iload_n (i := 2) (q := 13) hC dX0_climbFrom_12 rfl rfl rfl ?_
        refine v_istore (q := 15) hC dX0_climbFrom_13 rfl (lvc rfl) (Nat.le_of_ble_eq_true rfl) (Nat.le_of_ble_eq_true rfl) rfl ?_
        refine v_iconst (q := 16) (v := 0) hC dX0_climbFrom_15 rfl (by decide) ?_
        refine v_istore (q := 18) hC dX0_climbFrom_16 rfl (lvc rfl) (Nat.le_of_ble_eq_true rfl) (Nat.le_of_ble_eq_true rfl) rfl ?_
        exact L2 8 0 r rfl rfl
  refine v_iload_n (i := 1) (q := 1) hC dX0_climbFrom_0 rfl rfl rfl ?_
  refine v_istore_n (i := 2) (q := 2) hC dX0_climbFrom_1 rfl rfl (lvc rfl) (Nat.le_of_ble_eq_true rfl) (Nat.le_of_ble_eq_true rfl) rfl ?_
  refine v_iconst (q := 3) (v := 0) hC dX0_climbFrom_2 rfl (by decide) ?_
  refine v_istore_n (i := 3) (q := 4) hC dX0_climbFrom_3 rfl rfl (lvc rfl) (Nat.le_of_ble_eq_true rfl) (Nat.le_of_ble_eq_true rfl) rfl ?_
  exact L g 0 none none r0 rfl rfl rfl
