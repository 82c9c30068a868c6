/-! PermissionDesk: Pad, Entry, Lists, Tree, Log; what they answer -/
/-- Pad -/
def sPut (x : Int32) (G : GS) : GS := if jIdx (G.1 0 25 0) 80 = true then putF (putA G 0 26 (upd (G.2.1 0 26) (G.1 0 25 0).toNatClampNeg x)) 0 25 0 (G.1 0 25 0 + 1) else G
def sPutN (x : Int32) (G : GS) : GS := sPut (48 + (x - (x / 10) * 10)) (if 10 ≤ x then sPut (48 + x / 10) G else G)
def sSign (len : Int32) (w : Nat → Int32) (i : Int32) : Int32 := if 0 ≤ i ∧ i < len ∧ i < 80 then w i.toNatClampNeg else -1
/-- Entry -/
def eRights (x : Int32) : Int32 := x &&& 15
def eAllows (x : Int32) : Bool := !decide (x &&& 16 = 0)
def eBelow (x : Int32) : Bool := !decide (x &&& 32 = 0)
def eKind (x : Int32) : Int32 := (x.toUInt32 >>> ((6 : Int32).toUInt32 &&& Int32.toUInt32 31)).toInt32 &&& 3
def eNum (x : Int32) : Int32 := (x.toUInt32 >>> ((8 : Int32).toUInt32 &&& Int32.toUInt32 31)).toInt32
def eCode (kind num rights : Int32) (a b : Bool) : Int32 := ((rights ||| ((if a = true then (16 : Int32) else 0) ||| (if b = true then (32 : Int32) else 0))) ||| (kind <<< ((6 : Int32) &&& 31))) ||| (num <<< ((8 : Int32) &&& 31))
def eFor (x u gs : Int32) (own : Bool) : Bool := if eKind x = 0 then decide (eNum x = u) else if eKind x = 1 then jHas gs (eNum x) else if eKind x = 2 then own else true
set_option maxHeartbeats 4000000 in
set_option maxRecDepth 20000 in
theorem c_X1_rights {l : Launch} (hl : l.stackTraces = false) (Θ : cTH) (x : Int32) (G : GS) : Ct l yX1_rights cX1_rights 1 (some .int) rm_X1_rights Θ [.int x] (G) (fR (some (.int (eRights x))) G) := by
  refine ct_of (LS := [some (.int x)]) hl (by decide +kernel) rfl (Nat.le_of_ble_eq_true rfl) rfl ?_
  intro p e s m args below meth c hC hr
  refine v_iload_n (i := 0) (q := 1) hC dX1_rights_0 rfl rfl rfl ?_
  refine v_bipush (q := 3) (v := 15) hC dX1_rights_1 rfl (by decide) ?_
  refine v_iand (q := 4) hC dX1_rights_3 rfl ?_
  refine v_iret hC dX1_rights_4 hr (rfl) ?_ (Nat.le_of_ble_eq_true rfl) (Nat.le_of_ble_eq_true rfl)
  exact ⟨rfl, rfl⟩
set_option maxHeartbeats 4000000 in
set_option maxRecDepth 20000 in
theorem c_X1_allows {l : Launch} (hl : l.stackTraces = false) (Θ : cTH) (x : Int32) (G : GS) : Ct l yX1_allows cX1_allows 1 (some .boolean) rm_X1_allows Θ [.int x] (G) (fR (some (.int (b2i (eAllows x)))) G) := by
  refine ct_of (LS := [some (.int x)]) hl (by decide +kernel) rfl (Nat.le_of_ble_eq_true rfl) rfl ?_
  intro p e s m args below meth c hC hr
  refine v_iload_n (i := 0) (q := 1) hC dX1_allows_0 rfl rfl rfl ?_
  refine v_bipush (q := 3) (v := 16) hC dX1_allows_1 rfl (by decide) ?_
  refine v_iand (q := 4) hC dX1_allows_3 rfl ?_
  refine v_if_eq (q := 11) (q2 := 7) hC dX1_allows_4 (by decide) rfl (fun c_4 => ?_) (fun c_4 => ?_)
  · refine v_iconst (q := 12) (v := 0) hC dX1_allows_11 rfl (by decide) ?_
    refine v_iret hC dX1_allows_12 hr (by first | rfl | exact nar_b) ?_ (Nat.le_of_ble_eq_true rfl) (Nat.le_of_ble_eq_true rfl)
    exact ⟨by simp_all [eAllows, b2i], rfl⟩
  · refine v_iconst (q := 8) (v := 1) hC dX1_allows_7 rfl (by decide) ?_
    refine v_goto (q := 12) hC dX1_allows_8 (by decide) ?_
    refine v_iret hC dX1_allows_12 hr (by first | rfl | exact nar_b) ?_ (Nat.le_of_ble_eq_true rfl) (Nat.le_of_ble_eq_true rfl)
    exact ⟨by simp_all [eAllows, b2i], rfl⟩
set_option maxHeartbeats 4000000 in
set_option maxRecDepth 20000 in
theorem c_X1_countsBelow {l : Launch} (hl : l.stackTraces = false) (Θ : cTH) (x : Int32) (G : GS) : Ct l yX1_countsBelow cX1_countsBelow 1 (some .boolean) rm_X1_countsBelow Θ [.int x] (G) (fR (some (.int (b2i (eBelow x)))) G) := by
  refine ct_of (LS := [some (.int x)]) hl (by decide +kernel) rfl (Nat.le_of_ble_eq_true rfl) rfl ?_
  intro p e s m args below meth c hC hr
  refine v_iload_n (i := 0) (q := 1) hC dX1_countsBelow_0 rfl rfl rfl ?_
  refine v_bipush (q := 3) (v := 32) hC dX1_countsBelow_1 rfl (by decide) ?_
  refine v_iand (q := 4) hC dX1_countsBelow_3 rfl ?_
  refine v_if_eq (q := 11) (q2 := 7) hC dX1_countsBelow_4 (by decide) rfl (fun c_4 => ?_) (fun c_4 => ?_)
  · refine v_iconst (q := 12) (v := 0) hC dX1_countsBelow_11 rfl (by decide) ?_
    refine v_iret hC dX1_countsBelow_12 hr (by first | rfl | exact nar_b) ?_ (Nat.le_of_ble_eq_true rfl) (Nat.le_of_ble_eq_true rfl)
    exact ⟨by simp_all [eBelow, b2i], rfl⟩
  · refine v_iconst (q := 8) (v := 1) hC dX1_countsBelow_7 rfl (by decide) ?_
    refine v_goto (q := 12) hC dX1_countsBelow_8 (by decide) ?_
    refine v_iret hC dX1_countsBelow_12 hr (by first | rfl | exact nar_b) ?_ (Nat.le_of_ble_eq_true rfl) (Nat.le_of_ble_eq_true rfl)
    exact ⟨by simp_all [eBelow, b2i], rfl⟩
set_option maxHeartbeats 4000000 in
set_option maxRecDepth 20000 in
theorem c_X1_kind {l : Launch} (hl : l.stackTraces = false) (Θ : cTH) (x : Int32) (G : GS) : Ct l yX1_kind cX1_kind 1 (some .int) rm_X1_kind Θ [.int x] (G) (fR (some (.int (eKind x))) G) := by
  refine ct_of (LS := [some (.int x)]) hl (by decide +kernel) rfl (Nat.le_of_ble_eq_true rfl) rfl ?_
  intro p e s m args below meth c hC hr
  refine v_iload_n (i := 0) (q := 1) hC dX1_kind_0 rfl rfl rfl ?_
  refine v_bipush (q := 3) (v := 6) hC dX1_kind_1 rfl (by decide) ?_
  refine v_iushr (q := 4) hC dX1_kind_3 rfl ?_
  refine v_iconst (q := 5) (v := 3) hC dX1_kind_4 rfl (by decide) ?_
  refine v_iand (q := 6) hC dX1_kind_5 rfl ?_
  refine v_iret hC dX1_kind_6 hr (rfl) ?_ (Nat.le_of_ble_eq_true rfl) (Nat.le_of_ble_eq_true rfl)
  exact ⟨rfl, rfl⟩
set_option maxHeartbeats 4000000 in
set_option maxRecDepth 20000 in
theorem c_X1_number {l : Launch} (hl : l.stackTraces = false) (Θ : cTH) (x : Int32) (G : GS) : Ct l yX1_number cX1_number 1 (some .int) rm_X1_number Θ [.int x] (G) (fR (some (.int (eNum x))) G) := by
  refine ct_of (LS := [some (.int x)]) hl (by decide +kernel) rfl (Nat.le_of_ble_eq_true rfl) rfl ?_
  intro p e s m args below meth c hC hr
  refine v_iload_n (i := 0) (q := 1) hC dX1_number_0 rfl rfl rfl ?_
  refine v_bipush (q := 3) (v := 8) hC dX1_number_1 rfl (by decide) ?_
  refine v_iushr (q := 4) hC dX1_number_3 rfl ?_
  refine v_iret hC dX1_number_4 hr (rfl) ?_ (Nat.le_of_ble_eq_true rfl) (Nat.le_of_ble_eq_true rfl)
  exact ⟨rfl, rfl⟩
set_option maxHeartbeats 4000000 in
set_option maxRecDepth 20000 in
theorem c_X1_code {l : Launch} (hl : l.stackTraces = false) (Θ : cTH) (kind num rights : Int32) (a b : Bool) (G : GS) : Ct l yX1_code cX1_code 6 (some .int) rm_X1_code Θ [.int kind, .int num, .int rights, .int (b2i a), .int (b2i b)] (G) (fR (some (.int (eCode kind num rights a b))) G) := by
  refine ct_of (LS := [some (.int kind), some (.int num), some (.int rights), some (.int (b2i a)), some (.int (b2i b)), none]) hl (by decide +kernel) rfl (Nat.le_of_ble_eq_true rfl) rfl ?_
  intro p e s m args below meth c hC hr
  refine v_iload_n (i := 3) (q := 1) hC dX1_code_0 rfl rfl rfl ?_
  refine v_if_eq (q := 9) (q2 := 4) hC dX1_code_1 (by decide) rfl (fun c_1 => ?_) (fun c_1 => ?_)
  · refine v_iconst (q := 10) (v := 0) hC dX1_code_9 rfl (by decide) ?_
    refine v_iload (q := 12) hC dX1_code_10 rfl rfl ?_
    refine v_if_eq (q := 20) (q2 := 15) hC dX1_code_12 (by decide) rfl (fun c_12 => ?_) (fun c_12 => ?_)
    · refine v_iconst (q := 21) (v := 0) hC dX1_code_20 rfl (by decide) ?_
      refine v_ior (q := 22) hC dX1_code_21 rfl ?_
      refine v_istore (q := 24) hC dX1_code_22 rfl (lvc rfl) (Nat.le_of_ble_eq_true rfl) (Nat.le_of_ble_eq_true rfl) rfl ?_
      refine v_iload_n (i := 2) (q := 25) hC dX1_code_24 rfl rfl rfl ?_
      refine v_iload (q := 27) hC dX1_code_25 rfl rfl ?_
      refine v_ior (q := 28) hC dX1_code_27 rfl ?_
      refine v_iload_n (i := 0) (q := 29) hC dX1_code_28 rfl rfl rfl ?_
      refine v_bipush (q := 31) (v := 6) hC dX1_code_29 rfl (by decide) ?_
      refine v_ishl (q := 32) hC dX1_code_31 rfl ?_
      refine v_ior (q := 33) hC dX1_code_32 rfl ?_
      refine v_iload_n (i := 1) (q := 34) hC dX1_code_33 rfl rfl rfl ?_
      refine v_bipush (q := 36) (v := 8) hC dX1_code_34 rfl (by decide) ?_
      refine v_ishl (q := 37) hC dX1_code_36 rfl ?_
      refine v_ior (q := 38) hC dX1_code_37 rfl ?_
      refine v_iret hC dX1_code_38 hr (rfl) ?_ (Nat.le_of_ble_eq_true rfl) (Nat.le_of_ble_eq_true rfl)
      exact ⟨by simp_all [eCode, b2i_eq0], rfl⟩
    · refine v_bipush (q := 17) (v := 32) hC dX1_code_15 rfl (by decide) ?_
      refine v_goto (q := 21) hC dX1_code_17 (by decide) ?_
      refine v_ior (q := 22) hC dX1_code_21 rfl ?_
      refine v_istore (q := 24) hC dX1_code_22 rfl (lvc rfl) (Nat.le_of_ble_eq_true rfl) (Nat.le_of_ble_eq_true rfl) rfl ?_
      refine v_iload_n (i := 2) (q := 25) hC dX1_code_24 rfl rfl rfl ?_
      refine v_iload (q := 27) hC dX1_code_25 rfl rfl ?_
      refine v_ior (q := 28) hC dX1_code_27 rfl ?_
      refine v_iload_n (i := 0) (q := 29) hC dX1_code_28 rfl rfl rfl ?_
      refine v_bipush (q := 31) (v := 6) hC dX1_code_29 rfl (by decide) ?_
      refine v_ishl (q := 32) hC dX1_code_31 rfl ?_
      refine v_ior (q := 33) hC dX1_code_32 rfl ?_
      refine v_iload_n (i := 1) (q := 34) hC dX1_code_33 rfl rfl rfl ?_
      refine v_bipush (q := 36) (v := 8) hC dX1_code_34 rfl (by decide) ?_
      refine v_ishl (q := 37) hC dX1_code_36 rfl ?_
      refine v_ior (q := 38) hC dX1_code_37 rfl ?_
      refine v_iret hC dX1_code_38 hr (rfl) ?_ (Nat.le_of_ble_eq_true rfl) (Nat.le_of_ble_eq_true rfl)
      exact ⟨by simp_all [eCode, b2i_eq0], rfl⟩
  · refine v_bipush (q := 6) (v := 16) hC dX1_code_4 rfl (by decide) ?_
    refine v_goto (q := 10) hC dX1_code_6 (by decide) ?_
    refine v_iload (q := 12) hC dX1_code_10 rfl rfl ?_
    refine v_if_eq (q := 20) (q2 := 15) hC dX1_code_12 (by decide) rfl (fun c_12 => ?_) (fun c_12 => ?_)
    · refine v_iconst (q := 21) (v := 0) hC dX1_code_20 rfl (by decide) ?_
      refine v_ior (q := 22) hC dX1_code_21 rfl ?_
      refine v_istore (q := 24) hC dX1_code_22 rfl (lvc rfl) (Nat.le_of_ble_eq_true rfl) (Nat.le_of_ble_eq_true rfl) rfl ?_
      refine v_iload_n (i := 2) (q := 25) hC dX1_code_24 rfl rfl rfl ?_
      refine v_iload (q := 27) hC dX1_code_25 rfl rfl ?_
      refine v_ior (q := 28) hC dX1_code_27 rfl ?_
      refine v_iload_n (i := 0) (q := 29) hC dX1_code_28 rfl rfl rfl ?_
      refine v_bipush (q := 31) (v := 6) hC dX1_code_29 rfl (by decide) ?_
      refine v_ishl (q := 32) hC dX1_code_31 rfl ?_
      refine v_ior (q := 33) hC dX1_code_32 rfl ?_
      refine v_iload_n (i := 1) (q := 34) hC dX1_code_33 rfl rfl rfl ?_
      refine v_bipush (q := 36) (v := 8) hC dX1_code_34 rfl (by decide) ?_
      refine v_ishl (q := 37) hC dX1_code_36 rfl ?_
      refine v_ior (q := 38) hC dX1_code_37 rfl ?_
      refine v_iret hC dX1_code_38 hr (rfl) ?_ (Nat.le_of_ble_eq_true rfl) (Nat.le_of_ble_eq_true rfl)
      exact ⟨by simp_all [eCode, b2i_eq0], rfl⟩
    · refine v_bipush (q := 17) (v := 32) hC dX1_code_15 rfl (by decide) ?_
      refine v_goto (q := 21) hC dX1_code_17 (by decide) ?_
      refine v_ior (q := 22) hC dX1_code_21 rfl ?_
      refine v_istore (q := 24) hC dX1_code_22 rfl (lvc rfl) (Nat.le_of_ble_eq_true rfl) (Nat.le_of_ble_eq_true rfl) rfl ?_
      refine v_iload_n (i := 2) (q := 25) hC dX1_code_24 rfl rfl rfl ?_
      refine v_iload (q := 27) hC dX1_code_25 rfl rfl ?_
      refine v_ior (q := 28) hC dX1_code_27 rfl ?_
      refine v_iload_n (i := 0) (q := 29) hC dX1_code_28 rfl rfl rfl ?_
      refine v_bipush (q := 31) (v := 6) hC dX1_code_29 rfl (by decide) ?_
      refine v_ishl (q := 32) hC dX1_code_31 rfl ?_
      refine v_ior (q := 33) hC dX1_code_32 rfl ?_
      refine v_iload_n (i := 1) (q := 34) hC dX1_code_33 rfl rfl rfl ?_
      refine v_bipush (q := 36) (v := 8) hC dX1_code_34 rfl (by decide) ?_
      refine v_ishl (q := 37) hC dX1_code_36 rfl ?_
      refine v_ior (q := 38) hC dX1_code_37 rfl ?_
      refine v_iret hC dX1_code_38 hr (rfl) ?_ (Nat.le_of_ble_eq_true rfl) (Nat.le_of_ble_eq_true rfl)
      exact ⟨by simp_all [eCode, b2i_eq0], rfl⟩
set_option maxHeartbeats 4000000 in
set_option maxRecDepth 20000 in
theorem c_X1_isFor {l : Launch} (hl : l.stackTraces = false) (Θ : cTH) (x u gs : Int32) (b : Bool) (G : GS) : Ct l yX1_isFor cX1_isFor 4 (some .boolean) rm_X1_isFor Θ [.int x, .int u, .int gs, .int (b2i b)] (G) (fR (some (.int (b2i (eFor x u gs b)))) G) := by
  refine ct_of (LS := [some (.int x), some (.int u), some (.int gs), some (.int (b2i b))]) hl (by decide +kernel) rfl (Nat.le_of_ble_eq_true rfl) rfl ?_
  intro p e s m args below meth c hC hr
  refine v_iload_n (i := 0) (q := 1) hC dX1_isFor_0 rfl rfl rfl ?_
  refine v_callS (q := 4) (rm := rm_X1_kind) hC (c_X1_kind hl Θ _ _) k_X1_kind st_yX1_kind ml_RX1_11 dX1_isFor_1 rfl  rfl rfl (Nat.le_of_ble_eq_true rfl) ⟨Nat.le_of_ble_eq_true rfl, Nat.le_of_ble_eq_true rfl⟩ ⟨Nat.le_of_ble_eq_true rfl, Nat.le_of_ble_eq_true rfl⟩ (fR_k ?_) fR_x (Nat.le_of_ble_eq_true rfl) (Nat.le_of_ble_eq_true rfl)
  try dsimp only [Option.toList, List.cons_append, List.nil_append]
  refine v_tab3 (t0 := 32) (t1 := 46) (t2 := 55) (t3 := 57) hC dX1_isFor_4 (by decide) (by decide) (by decide) (by decide) (fun c_4 => ?_) (fun c_4 => ?_) (fun c_4 => ?_) (fun c_4 d_4 e_4 => ?_)
  · refine v_iload_n (i := 0) (q := 33) hC dX1_isFor_32 rfl rfl rfl ?_
    refine v_callS (q := 36) (rm := rm_X1_number) hC (c_X1_number hl Θ _ _) k_X1_number st_yX1_number ml_RX1_15 dX1_isFor_33 rfl  rfl rfl (Nat.le_of_ble_eq_true rfl) ⟨Nat.le_of_ble_eq_true rfl, Nat.le_of_ble_eq_true rfl⟩ ⟨Nat.le_of_ble_eq_true rfl, Nat.le_of_ble_eq_true rfl⟩ (fR_k ?_) fR_x (Nat.le_of_ble_eq_true rfl) (Nat.le_of_ble_eq_true rfl)
    try dsimp only [Option.toList, List.cons_append, List.nil_append]
    refine v_iload_n (i := 1) (q := 37) hC dX1_isFor_36 rfl rfl rfl ?_
    refine v_icmp_ne (q := 44) (q2 := 40) hC dX1_isFor_37 (by decide) rfl (fun c_37 => ?_) (fun c_37 => ?_)
    · refine v_iconst (q := 45) (v := 0) hC dX1_isFor_44 rfl (by decide) ?_
      refine v_iret hC dX1_isFor_45 hr (by first | rfl | exact nar_b) ?_ (Nat.le_of_ble_eq_true rfl) (Nat.le_of_ble_eq_true rfl)
      exact ⟨by simp_all [eFor, b2i], rfl⟩
    · refine v_iconst (q := 41) (v := 1) hC dX1_isFor_40 rfl (by decide) ?_
      refine v_goto (q := 45) hC dX1_isFor_41 (by decide) ?_
      refine v_iret hC dX1_isFor_45 hr (by first | rfl | exact nar_b) ?_ (Nat.le_of_ble_eq_true rfl) (Nat.le_of_ble_eq_true rfl)
      exact ⟨by simp_all [eFor, b2i], rfl⟩
  · refine v_iload_n (i := 2) (q := 47) hC dX1_isFor_46 rfl rfl rfl ?_
    refine v_iload_n (i := 0) (q := 48) hC dX1_isFor_47 rfl rfl rfl ?_
    refine v_callS (q := 51) (rm := rm_X1_number) hC (c_X1_number hl Θ _ _) k_X1_number st_yX1_number ml_RX1_15 dX1_isFor_48 rfl  rfl rfl (Nat.le_of_ble_eq_true rfl) ⟨Nat.le_of_ble_eq_true rfl, Nat.le_of_ble_eq_true rfl⟩ ⟨Nat.le_of_ble_eq_true rfl, Nat.le_of_ble_eq_true rfl⟩ (fR_k ?_) fR_x (Nat.le_of_ble_eq_true rfl) (Nat.le_of_ble_eq_true rfl)
    try dsimp only [Option.toList, List.cons_append, List.nil_append]
    refine v_callN (q := 54) (rm := rm_X11_has) hC (c_X11_has hl Θ _ _ _) k_X11_has st_yX11_has nl_RX1_18 dX1_isFor_51 rfl  rfl rfl (Nat.le_of_ble_eq_true rfl) ⟨Nat.le_of_ble_eq_true rfl, Nat.le_of_ble_eq_true rfl⟩ ⟨Nat.le_of_ble_eq_true rfl, Nat.le_of_ble_eq_true rfl⟩ (fR_k ?_) fR_x (Nat.le_of_ble_eq_true rfl) (Nat.le_of_ble_eq_true rfl)
    try dsimp only [Option.toList, List.cons_append, List.nil_append]
    refine v_iret hC dX1_isFor_54 hr (by first | rfl | exact nar_b) ?_ (Nat.le_of_ble_eq_true rfl) (Nat.le_of_ble_eq_true rfl)
    exact ⟨by simp_all [eFor, b2i], rfl⟩
  · refine v_iload_n (i := 3) (q := 56) hC dX1_isFor_55 rfl rfl rfl ?_
    refine v_iret hC dX1_isFor_56 hr (by first | rfl | exact nar_b) ?_ (Nat.le_of_ble_eq_true rfl) (Nat.le_of_ble_eq_true rfl)
    exact ⟨by simp_all [eFor, b2i], rfl⟩
  · refine v_iconst (q := 58) (v := 1) hC dX1_isFor_57 rfl (by decide) ?_
    refine v_iret hC dX1_isFor_58 hr (by first | rfl | exact nar_b) ?_ (Nat.le_of_ble_eq_true rfl) (Nat.le_of_ble_eq_true rfl)
    exact ⟨by simp_all [eFor, b2i], rfl⟩
/-- Integer.bitCount, Math.floorMod -/
def jSr (x y : Int32) : Int32 := (x.toUInt32 >>> (y.toUInt32 &&& Int32.toUInt32 31)).toInt32
def jB1 (x : Int32) : Int32 := x - (jSr x 1 &&& 1431655765)
def jB2 (x : Int32) : Int32 := (x &&& 858993459) + (jSr x 2 &&& 858993459)
def jB3 (x : Int32) : Int32 := (x + jSr x 4) &&& 252645135
def jB4 (x : Int32) : Int32 := x + jSr x 8
def jB5 (x : Int32) : Int32 := (x + jSr x 16) &&& 63
def jBc (x : Int32) : Int32 := jB5 (jB4 (jB3 (jB2 (jB1 x))))
set_option maxHeartbeats 4000000 in
set_option maxRecDepth 20000 in
theorem c_J6_bitCount_0f7a4 {l : Launch} (hl : l.stackTraces = false) (Θ : cTH) (x : Int32) (G : GS) : Ct l yJ6_bitCount_0f7a4 cJ6_bitCount_0f7a4 1 (some .int) rm_J6_bitCount_0f7a4 Θ [.int x] (G) (fR (some (.int (jBc x))) G) := by
  refine ct_of (LS := [some (.int x)]) hl (by decide +kernel) rfl (Nat.le_of_ble_eq_true rfl) rfl ?_
  intro p e s m args below meth c hC hr
  refine v_iload_n (i := 0) (q := 1) hC dJ6_bitCount_0f7a4_0 rfl rfl rfl ?_
  refine v_iload_n (i := 0) (q := 2) hC dJ6_bitCount_0f7a4_1 rfl rfl rfl ?_
  refine v_iconst (q := 3) (v := 1) hC dJ6_bitCount_0f7a4_2 rfl (by decide) ?_
  refine v_iushr (q := 4) hC dJ6_bitCount_0f7a4_3 rfl ?_
  refine v_ldcw (q := 7) hC dJ6_bitCount_0f7a4_4 rfl co_RJ6_265 ?_
  refine v_iand (q := 8) hC dJ6_bitCount_0f7a4_7 rfl ?_
  refine v_isub (q := 9) hC dJ6_bitCount_0f7a4_8 rfl ?_
  refine v_istore_n (i := 0) (q := 10) hC dJ6_bitCount_0f7a4_9 rfl rfl (lvc rfl) (Nat.le_of_ble_eq_true rfl) (Nat.le_of_ble_eq_true rfl) rfl ?_
  refine v_iload_n (i := 0) (q := 11) hC dJ6_bitCount_0f7a4_10 rfl rfl rfl ?_
  refine v_ldcw (q := 14) hC dJ6_bitCount_0f7a4_11 rfl co_RJ6_266 ?_
  refine v_iand (q := 15) hC dJ6_bitCount_0f7a4_14 rfl ?_
  refine v_iload_n (i := 0) (q := 16) hC dJ6_bitCount_0f7a4_15 rfl rfl rfl ?_
  refine v_iconst (q := 17) (v := 2) hC dJ6_bitCount_0f7a4_16 rfl (by decide) ?_
  refine v_iushr (q := 18) hC dJ6_bitCount_0f7a4_17 rfl ?_
  refine v_ldcw (q := 21) hC dJ6_bitCount_0f7a4_18 rfl co_RJ6_266 ?_
  refine v_iand (q := 22) hC dJ6_bitCount_0f7a4_21 rfl ?_
  refine v_iadd (q := 23) hC dJ6_bitCount_0f7a4_22 rfl ?_
  refine v_istore_n (i := 0) (q := 24) hC dJ6_bitCount_0f7a4_23 rfl rfl (lvc rfl) (Nat.le_of_ble_eq_true rfl) (Nat.le_of_ble_eq_true rfl) rfl ?_
  refine v_iload_n (i := 0) (q := 25) hC dJ6_bitCount_0f7a4_24 rfl rfl rfl ?_
  refine v_iload_n (i := 0) (q := 26) hC dJ6_bitCount_0f7a4_25 rfl rfl rfl ?_
  refine v_iconst (q := 27) (v := 4) hC dJ6_bitCount_0f7a4_26 rfl (by decide) ?_
  refine v_iushr (q := 28) hC dJ6_bitCount_0f7a4_27 rfl ?_
  refine v_iadd (q := 29) hC dJ6_bitCount_0f7a4_28 rfl ?_
  refine v_ldcw (q := 32) hC dJ6_bitCount_0f7a4_29 rfl co_RJ6_267 ?_
  refine v_iand (q := 33) hC dJ6_bitCount_0f7a4_32 rfl ?_
  refine v_istore_n (i := 0) (q := 34) hC dJ6_bitCount_0f7a4_33 rfl rfl (lvc rfl) (Nat.le_of_ble_eq_true rfl) (Nat.le_of_ble_eq_true rfl) rfl ?_
  refine v_iload_n (i := 0) (q := 35) hC dJ6_bitCount_0f7a4_34 rfl rfl rfl ?_
  refine v_iload_n (i := 0) (q := 36) hC dJ6_bitCount_0f7a4_35 rfl rfl rfl ?_
  refine v_bipush (q := 38) (v := 8) hC dJ6_bitCount_0f7a4_36 rfl (by decide) ?_
  refine v_iushr (q := 39) hC dJ6_bitCount_0f7a4_38 rfl ?_
  refine v_iadd (q := 40) hC dJ6_bitCount_0f7a4_39 rfl ?_
  refine v_istore_n (i := 0) (q := 41) hC dJ6_bitCount_0f7a4_40 rfl rfl (lvc rfl) (Nat.le_of_ble_eq_true rfl) (Nat.le_of_ble_eq_true rfl) rfl ?_
  refine v_iload_n (i := 0) (q := 42) hC dJ6_bitCount_0f7a4_41 rfl rfl rfl ?_
  refine v_iload_n (i := 0) (q := 43) hC dJ6_bitCount_0f7a4_42 rfl rfl rfl ?_
  refine v_bipush (q := 45) (v := 16) hC dJ6_bitCount_0f7a4_43 rfl (by decide) ?_
  refine v_iushr (q := 46) hC dJ6_bitCount_0f7a4_45 rfl ?_
  refine v_iadd (q := 47) hC dJ6_bitCount_0f7a4_46 rfl ?_
  refine v_istore_n (i := 0) (q := 48) hC dJ6_bitCount_0f7a4_47 rfl rfl (lvc rfl) (Nat.le_of_ble_eq_true rfl) (Nat.le_of_ble_eq_true rfl) rfl ?_
  refine v_iload_n (i := 0) (q := 49) hC dJ6_bitCount_0f7a4_48 rfl rfl rfl ?_
  refine v_bipush (q := 51) (v := 63) hC dJ6_bitCount_0f7a4_49 rfl (by decide) ?_
  refine v_iand (q := 52) hC dJ6_bitCount_0f7a4_51 rfl ?_
  refine v_iret hC dJ6_bitCount_0f7a4_52 hr (rfl) ?_ (Nat.le_of_ble_eq_true rfl) (Nat.le_of_ble_eq_true rfl)
  exact ⟨rfl, rfl⟩
def jMod (x y : Int32) : Int32 := if (x ^^^ y) < 0 ∧ ¬ (x - (x / y) * y) = 0 then (x - (x / y) * y) + y else x - (x / y) * y
set_option maxHeartbeats 4000000 in
set_option maxRecDepth 20000 in
theorem c_J9_floorMod_7cf53 {l : Launch} (hl : l.stackTraces = false) (Θ : cTH) (x y : Int32) (G : GS) (hy : ¬ y = 0) : Ct l yJ9_floorMod_7cf53 cJ9_floorMod_7cf53 3 (some .int) rm_J9_floorMod_7cf53 Θ [.int x, .int y] (G) (fR (some (.int (jMod x y))) G) := by
  refine ct_ofF (LS := [some (.int x), some (.int y), none]) hl (by decide +kernel) rfl (Nat.le_of_ble_eq_true rfl) rfl ?_
  intro p e s m args below meth c hC hr
  refine v_iload_n (i := 0) (q := 1) hC dJ9_floorMod_7cf53_0 rfl rfl rfl ?_
  refine v_iload_n (i := 1) (q := 2) hC dJ9_floorMod_7cf53_1 rfl rfl rfl ?_
  refine v_irem (q := 3) hC dJ9_floorMod_7cf53_2 rfl (hy) ?_
  refine v_istore_n (i := 2) (q := 4) hC dJ9_floorMod_7cf53_3 rfl rfl (lvc rfl) (Nat.le_of_ble_eq_true rfl) (Nat.le_of_ble_eq_true rfl) rfl ?_
  refine v_iload_n (i := 0) (q := 5) hC dJ9_floorMod_7cf53_4 rfl rfl rfl ?_
  refine v_iload_n (i := 1) (q := 6) hC dJ9_floorMod_7cf53_5 rfl rfl rfl ?_
  refine v_ixor (q := 7) hC dJ9_floorMod_7cf53_6 rfl ?_
  refine v_if_ge (q := 18) (q2 := 10) hC dJ9_floorMod_7cf53_7 (by decide) rfl (fun c_7 => ?_) (fun c_7 => ?_)
  · refine v_iload_n (i := 2) (q := 19) hC dJ9_floorMod_7cf53_18 rfl rfl rfl ?_
    refine v_iret hC dJ9_floorMod_7cf53_19 hr (rfl) ?_ (Nat.le_of_ble_eq_true rfl) (Nat.le_of_ble_eq_true rfl)
    exact ⟨by simp_all [jMod, ← Int32.not_lt], rfl⟩
  · refine v_iload_n (i := 2) (q := 11) hC dJ9_floorMod_7cf53_10 rfl rfl rfl ?_
    refine v_if_eq (q := 18) (q2 := 14) hC dJ9_floorMod_7cf53_11 (by decide) rfl (fun c_11 => ?_) (fun c_11 => ?_)
    · refine v_iload_n (i := 2) (q := 19) hC dJ9_floorMod_7cf53_18 rfl rfl rfl ?_
      refine v_iret hC dJ9_floorMod_7cf53_19 hr (rfl) ?_ (Nat.le_of_ble_eq_true rfl) (Nat.le_of_ble_eq_true rfl)
      exact ⟨by simp_all [jMod, ← Int32.not_lt], rfl⟩
    · refine v_iload_n (i := 2) (q := 15) hC dJ9_floorMod_7cf53_14 rfl rfl rfl ?_
      refine v_iload_n (i := 1) (q := 16) hC dJ9_floorMod_7cf53_15 rfl rfl rfl ?_
      refine v_iadd (q := 17) hC dJ9_floorMod_7cf53_16 rfl ?_
      refine v_iret hC dJ9_floorMod_7cf53_17 hr (rfl) ?_ (Nat.le_of_ble_eq_true rfl) (Nat.le_of_ble_eq_true rfl)
      exact ⟨by simp_all [jMod, ← Int32.not_lt], rfl⟩
/-- Tree -/
def tHold (there o : Int32) : Bool := decide (0 ≤ o) && (decide (o < 20) && decide ((there.toUInt32 >>> (o.toUInt32 &&& Int32.toUInt32 31)).toInt32 &&& 1 = 1))
set_option maxHeartbeats 4000000 in
set_option maxRecDepth 20000 in
theorem c_X10_holds {l : Launch} (hl : l.stackTraces = false) (Θ : cTH) (o : Int32) (G : GS) : Ct l yX10_holds cX10_holds 2 (some .boolean) rm_X10_holds Θ [.ref (tR Θ 0 4), .int o] (G) (fR (some (.int (b2i (tHold (G.1 0 4 0) o)))) G) := by
  refine ct_of (LS := [some (.ref (tR Θ 0 4)), some (.int o)]) hl (by decide +kernel) rfl (Nat.le_of_ble_eq_true rfl) rfl ?_
  intro p e s m args below meth c hC hr
  refine v_iload_n (i := 1) (q := 1) hC dX10_holds_0 rfl rfl rfl ?_
  refine v_if_lt (q := 26) (q2 := 4) hC dX10_holds_1 (by decide) rfl (fun c_1 => ?_) (fun c_1 => ?_)
  · refine v_iconst (q := 27) (v := 0) hC dX10_holds_26 rfl (by decide) ?_
    refine v_iret hC dX10_holds_27 hr (by first | rfl | exact nar_b) ?_ (Nat.le_of_ble_eq_true rfl) (Nat.le_of_ble_eq_true rfl)
    exact ⟨by simp_all [tHold, b2i, ← Int32.not_lt], rfl⟩
  · refine v_iload_n (i := 1) (q := 5) hC dX10_holds_4 rfl rfl rfl ?_
    refine v_bipush (q := 7) (v := 20) hC dX10_holds_5 rfl (by decide) ?_
    refine v_icmp_ge (q := 26) (q2 := 10) hC dX10_holds_7 (by decide) rfl (fun c_7 => ?_) (fun c_7 => ?_)
    · refine v_iconst (q := 27) (v := 0) hC dX10_holds_26 rfl (by decide) ?_
      refine v_iret hC dX10_holds_27 hr (by first | rfl | exact nar_b) ?_ (Nat.le_of_ble_eq_true rfl) (Nat.le_of_ble_eq_true rfl)
      exact ⟨by simp_all [tHold, b2i, ← Int32.not_lt], rfl⟩
    · refine v_aload_n (i := 0) (q := 11) hC dX10_holds_10 rfl rfl rfl ?_
      refine g_X10_0 (q := 14) hC dX10_holds_11 rfl rfl fl_RX10_9 ?_
      refine v_iload_n (i := 1) (q := 15) hC dX10_holds_14 rfl rfl rfl ?_
      refine v_iushr (q := 16) hC dX10_holds_15 rfl ?_
      refine v_iconst (q := 17) (v := 1) hC dX10_holds_16 rfl (by decide) ?_
      refine v_iand (q := 18) hC dX10_holds_17 rfl ?_
      refine v_iconst (q := 19) (v := 1) hC dX10_holds_18 rfl (by decide) ?_
      refine v_icmp_ne (q := 26) (q2 := 22) hC dX10_holds_19 (by decide) rfl (fun c_19 => ?_) (fun c_19 => ?_)
      · refine v_iconst (q := 27) (v := 0) hC dX10_holds_26 rfl (by decide) ?_
        refine v_iret hC dX10_holds_27 hr (by first | rfl | exact nar_b) ?_ (Nat.le_of_ble_eq_true rfl) (Nat.le_of_ble_eq_true rfl)
        exact ⟨by simp_all [tHold, b2i, ← Int32.not_lt], rfl⟩
      · refine v_iconst (q := 23) (v := 1) hC dX10_holds_22 rfl (by decide) ?_
        refine v_goto (q := 27) hC dX10_holds_23 (by decide) ?_
        refine v_iret hC dX10_holds_27 hr (by first | rfl | exact nar_b) ?_ (Nat.le_of_ble_eq_true rfl) (Nat.le_of_ble_eq_true rfl)
        exact ⟨by simp_all [tHold, b2i, ← Int32.not_lt], rfl⟩
theorem tHold_in {t o : Int32} (h : tHold t o = true) : vp_in o 20 := jIdx_in (n := 20) (by simp_all [tHold, jIdx]) rfl
set_option maxHeartbeats 4000000 in
set_option maxRecDepth 20000 in
theorem c_X10_count {l : Launch} (hl : l.stackTraces = false) (Θ : cTH) (G : GS) : Ct l yX10_count cX10_count 1 (some .int) rm_X10_count Θ [.ref (tR Θ 0 4)] (G) (fR (some (.int (jBc (G.1 0 4 0)))) G) := by
  refine ct_of (LS := [some (.ref (tR Θ 0 4))]) hl (by decide +kernel) rfl (Nat.le_of_ble_eq_true rfl) rfl ?_
  intro p e s m args below meth c hC hr
  refine v_aload_n (i := 0) (q := 1) hC dX10_count_0 rfl rfl rfl ?_
  refine g_X10_0 (q := 4) hC dX10_count_1 rfl rfl fl_RX10_9 ?_
  refine v_callS (q := 7) (rm := rm_J6_bitCount_0f7a4) hC (c_J6_bitCount_0f7a4 hl Θ _ _) k_J6_bitCount_0f7a4 st_yJ6_bitCount_0f7a4 ml_RX10_34 dX10_count_4 rfl  rfl rfl (Nat.le_of_ble_eq_true rfl) ⟨Nat.le_of_ble_eq_true rfl, Nat.le_of_ble_eq_true rfl⟩ ⟨Nat.le_of_ble_eq_true rfl, Nat.le_of_ble_eq_true rfl⟩ (fR_k ?_) fR_x (Nat.le_of_ble_eq_true rfl) (Nat.le_of_ble_eq_true rfl)
  try dsimp only [Option.toList, List.cons_append, List.nil_append]
  refine v_iret hC dX10_count_7 hr (rfl) ?_ (Nat.le_of_ble_eq_true rfl) (Nat.le_of_ble_eq_true rfl)
  exact ⟨rfl, rfl⟩
def tAt (there : Int32) (w : Nat → Int32) (o d : Int32) : Int32 := if tHold there o = true then w o.toNatClampNeg else d
set_option maxHeartbeats 4000000 in
set_option maxRecDepth 20000 in
theorem c_X10_parentAt {l : Launch} (hl : l.stackTraces = false) (Θ : cTH) (o : Int32) (G : GS) : Ct l yX10_parentAt cX10_parentAt 2 (some .int) rm_X10_parentAt Θ [.ref (tR Θ 0 4), .int o] (G) (fR (some (.int (tAt (G.1 0 4 0) (G.2.1 0 5) o (-1)))) G) := by
  refine ct_of (LS := [some (.ref (tR Θ 0 4)), some (.int o)]) hl (by decide +kernel) rfl (Nat.le_of_ble_eq_true rfl) rfl ?_
  intro p e s m args below meth c hC hr
  refine v_aload_n (i := 0) (q := 1) hC dX10_parentAt_0 rfl rfl rfl ?_
  refine v_iload_n (i := 1) (q := 2) hC dX10_parentAt_1 rfl rfl rfl ?_
  refine v_callV (q := 5) (rm := rm_X10_holds) hC (c_X10_holds hl Θ _ _) k_X10_holds im_yX10_holds se_yX10_holds ml_RX10_62 dX10_parentAt_2 rfl rfl rfl rfl rfl rfl (Nat.le_of_ble_eq_true rfl) ⟨Nat.le_of_ble_eq_true rfl, Nat.le_of_ble_eq_true rfl⟩ ⟨Nat.le_of_ble_eq_true rfl, Nat.le_of_ble_eq_true rfl⟩ (fR_k ?_) fR_x (Nat.le_of_ble_eq_true rfl) (Nat.le_of_ble_eq_true rfl)
  try dsimp only [Option.toList, List.cons_append, List.nil_append]
  refine v_ifb_eq (q := 17) (q2 := 8) hC dX10_parentAt_5 (by decide) rfl (fun c_5 => ?_) (fun c_5 => ?_)
  · refine v_iconst (q := 18) (v := (-1)) hC dX10_parentAt_17 rfl (by decide) ?_
    refine v_iret hC dX10_parentAt_18 hr (rfl) ?_ (Nat.le_of_ble_eq_true rfl) (Nat.le_of_ble_eq_true rfl)
    exact ⟨by simp_all [tAt], rfl⟩
  · refine v_aload_n (i := 0) (q := 9) hC dX10_parentAt_8 rfl rfl rfl ?_
    refine g_X10_2 (q := 12) hC dX10_parentAt_9 rfl rfl fl_RX10_18 ?_
    refine v_iload_n (i := 1) (q := 13) hC dX10_parentAt_12 rfl rfl rfl ?_
    refine v_iald (q := 14) hC dX10_parentAt_13 rfl rfl rfl (tHold_in ‹_›) ?_
    refine v_goto (q := 18) hC dX10_parentAt_14 (by decide) ?_
    refine v_iret hC dX10_parentAt_18 hr (rfl) ?_ (Nat.le_of_ble_eq_true rfl) (Nat.le_of_ble_eq_true rfl)
    exact ⟨by simp_all [tAt], rfl⟩
set_option maxHeartbeats 4000000 in
set_option maxRecDepth 20000 in
theorem c_X10_ownerAt {l : Launch} (hl : l.stackTraces = false) (Θ : cTH) (o : Int32) (G : GS) : Ct l yX10_ownerAt cX10_ownerAt 2 (some .int) rm_X10_ownerAt Θ [.ref (tR Θ 0 4), .int o] (G) (fR (some (.int (tAt (G.1 0 4 0) (G.2.1 0 6) o (-1)))) G) := by
  refine ct_of (LS := [some (.ref (tR Θ 0 4)), some (.int o)]) hl (by decide +kernel) rfl (Nat.le_of_ble_eq_true rfl) rfl ?_
  intro p e s m args below meth c hC hr
  refine v_aload_n (i := 0) (q := 1) hC dX10_ownerAt_0 rfl rfl rfl ?_
  refine v_iload_n (i := 1) (q := 2) hC dX10_ownerAt_1 rfl rfl rfl ?_
  refine v_callV (q := 5) (rm := rm_X10_holds) hC (c_X10_holds hl Θ _ _) k_X10_holds im_yX10_holds se_yX10_holds ml_RX10_62 dX10_ownerAt_2 rfl rfl rfl rfl rfl rfl (Nat.le_of_ble_eq_true rfl) ⟨Nat.le_of_ble_eq_true rfl, Nat.le_of_ble_eq_true rfl⟩ ⟨Nat.le_of_ble_eq_true rfl, Nat.le_of_ble_eq_true rfl⟩ (fR_k ?_) fR_x (Nat.le_of_ble_eq_true rfl) (Nat.le_of_ble_eq_true rfl)
  try dsimp only [Option.toList, List.cons_append, List.nil_append]
  refine v_ifb_eq (q := 17) (q2 := 8) hC dX10_ownerAt_5 (by decide) rfl (fun c_5 => ?_) (fun c_5 => ?_)
  · refine v_iconst (q := 18) (v := (-1)) hC dX10_ownerAt_17 rfl (by decide) ?_
    refine v_iret hC dX10_ownerAt_18 hr (rfl) ?_ (Nat.le_of_ble_eq_true rfl) (Nat.le_of_ble_eq_true rfl)
    exact ⟨by simp_all [tAt], rfl⟩
  · refine v_aload_n (i := 0) (q := 9) hC dX10_ownerAt_8 rfl rfl rfl ?_
    refine g_X10_3 (q := 12) hC dX10_ownerAt_9 rfl rfl fl_RX10_22 ?_
    refine v_iload_n (i := 1) (q := 13) hC dX10_ownerAt_12 rfl rfl rfl ?_
    refine v_iald (q := 14) hC dX10_ownerAt_13 rfl rfl rfl (tHold_in ‹_›) ?_
    refine v_goto (q := 18) hC dX10_ownerAt_14 (by decide) ?_
    refine v_iret hC dX10_ownerAt_18 hr (rfl) ?_ (Nat.le_of_ble_eq_true rfl) (Nat.le_of_ble_eq_true rfl)
    exact ⟨by simp_all [tAt], rfl⟩
set_option maxHeartbeats 4000000 in
set_option maxRecDepth 20000 in
theorem c_X10_maskAt {l : Launch} (hl : l.stackTraces = false) (Θ : cTH) (o : Int32) (G : GS) : Ct l yX10_maskAt cX10_maskAt 2 (some .int) rm_X10_maskAt Θ [.ref (tR Θ 0 4), .int o] (G) (fR (some (.int (tAt (G.1 0 4 0) (G.2.1 0 7) o 0))) G) := by
  refine ct_of (LS := [some (.ref (tR Θ 0 4)), some (.int o)]) hl (by decide +kernel) rfl (Nat.le_of_ble_eq_true rfl) rfl ?_
  intro p e s m args below meth c hC hr
  refine v_aload_n (i := 0) (q := 1) hC dX10_maskAt_0 rfl rfl rfl ?_
  refine v_iload_n (i := 1) (q := 2) hC dX10_maskAt_1 rfl rfl rfl ?_
  refine v_callV (q := 5) (rm := rm_X10_holds) hC (c_X10_holds hl Θ _ _) k_X10_holds im_yX10_holds se_yX10_holds ml_RX10_62 dX10_maskAt_2 rfl rfl rfl rfl rfl rfl (Nat.le_of_ble_eq_true rfl) ⟨Nat.le_of_ble_eq_true rfl, Nat.le_of_ble_eq_true rfl⟩ ⟨Nat.le_of_ble_eq_true rfl, Nat.le_of_ble_eq_true rfl⟩ (fR_k ?_) fR_x (Nat.le_of_ble_eq_true rfl) (Nat.le_of_ble_eq_true rfl)
  try dsimp only [Option.toList, List.cons_append, List.nil_append]
  refine v_ifb_eq (q := 17) (q2 := 8) hC dX10_maskAt_5 (by decide) rfl (fun c_5 => ?_) (fun c_5 => ?_)
  · refine v_iconst (q := 18) (v := 0) hC dX10_maskAt_17 rfl (by decide) ?_
    refine v_iret hC dX10_maskAt_18 hr (rfl) ?_ (Nat.le_of_ble_eq_true rfl) (Nat.le_of_ble_eq_true rfl)
    exact ⟨by simp_all [tAt], rfl⟩
  · refine v_aload_n (i := 0) (q := 9) hC dX10_maskAt_8 rfl rfl rfl ?_
    refine g_X10_4 (q := 12) hC dX10_maskAt_9 rfl rfl fl_RX10_25 ?_
    refine v_iload_n (i := 1) (q := 13) hC dX10_maskAt_12 rfl rfl rfl ?_
    refine v_iald (q := 14) hC dX10_maskAt_13 rfl rfl rfl (tHold_in ‹_›) ?_
    refine v_goto (q := 18) hC dX10_maskAt_14 (by decide) ?_
    refine v_iret hC dX10_maskAt_18 hr (rfl) ?_ (Nat.le_of_ble_eq_true rfl) (Nat.le_of_ble_eq_true rfl)
    exact ⟨by simp_all [tAt], rfl⟩
set_option maxHeartbeats 4000000 in
set_option maxRecDepth 20000 in
theorem c_X10_inherits {l : Launch} (hl : l.stackTraces = false) (Θ : cTH) (o : Int32) (G : GS) : Ct l yX10_inherits cX10_inherits 2 (some .boolean) rm_X10_inherits Θ [.ref (tR Θ 0 4), .int o] (G) (fR (some (.int (b2i (jHas (G.1 0 4 1) o)))) G) := by
  refine ct_of (LS := [some (.ref (tR Θ 0 4)), some (.int o)]) hl (by decide +kernel) rfl (Nat.le_of_ble_eq_true rfl) rfl ?_
  intro p e s m args below meth c hC hr
  refine v_aload_n (i := 0) (q := 1) hC dX10_inherits_0 rfl rfl rfl ?_
  refine g_X10_1 (q := 4) hC dX10_inherits_1 rfl rfl fl_RX10_15 ?_
  refine v_iload_n (i := 1) (q := 5) hC dX10_inherits_4 rfl rfl rfl ?_
  refine v_callN (q := 8) (rm := rm_X11_has) hC (c_X11_has hl Θ _ _ _) k_X11_has st_yX11_has nl_RX10_40 dX10_inherits_5 rfl  rfl rfl (Nat.le_of_ble_eq_true rfl) ⟨Nat.le_of_ble_eq_true rfl, Nat.le_of_ble_eq_true rfl⟩ ⟨Nat.le_of_ble_eq_true rfl, Nat.le_of_ble_eq_true rfl⟩ (fR_k ?_) fR_x (Nat.le_of_ble_eq_true rfl) (Nat.le_of_ble_eq_true rfl)
  try dsimp only [Option.toList, List.cons_append, List.nil_append]
  refine v_iret hC dX10_inherits_8 hr (by first | rfl | exact nar_b) ?_ (Nat.le_of_ble_eq_true rfl) (Nat.le_of_ble_eq_true rfl)
  exact ⟨rfl, rfl⟩
def sArr (G : GS) (r o : Nat) (n i x : Int32) : GS := if jIdx i n = true then putA G r o (upd (G.2.1 r o) i.toNatClampNeg x) else G
set_option maxHeartbeats 4000000 in
set_option maxRecDepth 20000 in
theorem c_X10_setParent {l : Launch} (hl : l.stackTraces = false) (Θ : cTH) (o x : Int32) (G : GS) : Ct l yX10_setParent cX10_setParent 3 none rm_X10_setParent Θ [.ref (tR Θ 0 4), .int o, .int x] (G) (fR none (sArr G 0 5 20 o x)) := by
  refine ct_of (LS := [some (.ref (tR Θ 0 4)), some (.int o), some (.int x)]) hl (by decide +kernel) rfl (Nat.le_of_ble_eq_true rfl) rfl ?_
  intro p e s m args below meth c hC hr
  refine v_iload_n (i := 1) (q := 1) hC dX10_setParent_0 rfl rfl rfl ?_
  refine v_bipush (q := 3) (v := 20) hC dX10_setParent_1 rfl (by decide) ?_
  refine v_callN (q := 6) (rm := rm_X11_isIndex) hC (c_X11_isIndex hl Θ _ _ _) k_X11_isIndex st_yX11_isIndex nl_RX10_66 dX10_setParent_3 rfl  rfl rfl (Nat.le_of_ble_eq_true rfl) ⟨Nat.le_of_ble_eq_true rfl, Nat.le_of_ble_eq_true rfl⟩ ⟨Nat.le_of_ble_eq_true rfl, Nat.le_of_ble_eq_true rfl⟩ (fR_k ?_) fR_x (Nat.le_of_ble_eq_true rfl) (Nat.le_of_ble_eq_true rfl)
  try dsimp only [Option.toList, List.cons_append, List.nil_append]
  refine v_ifb_eq (q := 16) (q2 := 9) hC dX10_setParent_6 (by decide) rfl (fun c_6 => ?_) (fun c_6 => ?_)
  · refine v_vret hC dX10_setParent_16 hr ?_ (Nat.le_of_ble_eq_true rfl) (Nat.le_of_ble_eq_true rfl)
    exact ⟨rfl, by simp_all [sArr]⟩
  · refine v_aload_n (i := 0) (q := 10) hC dX10_setParent_9 rfl rfl rfl ?_
    refine g_X10_2 (q := 13) hC dX10_setParent_10 rfl rfl fl_RX10_18 ?_
    refine v_iload_n (i := 1) (q := 14) hC dX10_setParent_13 rfl rfl rfl ?_
    refine v_iload_n (i := 2) (q := 15) hC dX10_setParent_14 rfl rfl rfl ?_
    refine v_iast (q := 16) hC dX10_setParent_15 rfl rfl (fun _ => rfl) (jIdx_in ‹_› rfl) ?_
    refine v_vret hC dX10_setParent_16 hr ?_ (Nat.le_of_ble_eq_true rfl) (Nat.le_of_ble_eq_true rfl)
    exact ⟨rfl, by simp_all [sArr]⟩
set_option maxHeartbeats 4000000 in
set_option maxRecDepth 20000 in
theorem c_X10_setOwner {l : Launch} (hl : l.stackTraces = false) (Θ : cTH) (o x : Int32) (G : GS) : Ct l yX10_setOwner cX10_setOwner 3 none rm_X10_setOwner Θ [.ref (tR Θ 0 4), .int o, .int x] (G) (fR none (sArr G 0 6 20 o x)) := by
  refine ct_of (LS := [some (.ref (tR Θ 0 4)), some (.int o), some (.int x)]) hl (by decide +kernel) rfl (Nat.le_of_ble_eq_true rfl) rfl ?_
  intro p e s m args below meth c hC hr
  refine v_iload_n (i := 1) (q := 1) hC dX10_setOwner_0 rfl rfl rfl ?_
  refine v_bipush (q := 3) (v := 20) hC dX10_setOwner_1 rfl (by decide) ?_
  refine v_callN (q := 6) (rm := rm_X11_isIndex) hC (c_X11_isIndex hl Θ _ _ _) k_X11_isIndex st_yX11_isIndex nl_RX10_66 dX10_setOwner_3 rfl  rfl rfl (Nat.le_of_ble_eq_true rfl) ⟨Nat.le_of_ble_eq_true rfl, Nat.le_of_ble_eq_true rfl⟩ ⟨Nat.le_of_ble_eq_true rfl, Nat.le_of_ble_eq_true rfl⟩ (fR_k ?_) fR_x (Nat.le_of_ble_eq_true rfl) (Nat.le_of_ble_eq_true rfl)
  try dsimp only [Option.toList, List.cons_append, List.nil_append]
  refine v_ifb_eq (q := 16) (q2 := 9) hC dX10_setOwner_6 (by decide) rfl (fun c_6 => ?_) (fun c_6 => ?_)
  · refine v_vret hC dX10_setOwner_16 hr ?_ (Nat.le_of_ble_eq_true rfl) (Nat.le_of_ble_eq_true rfl)
    exact ⟨rfl, by simp_all [sArr]⟩
  · refine v_aload_n (i := 0) (q := 10) hC dX10_setOwner_9 rfl rfl rfl ?_
    refine g_X10_3 (q := 13) hC dX10_setOwner_10 rfl rfl fl_RX10_22 ?_
    refine v_iload_n (i := 1) (q := 14) hC dX10_setOwner_13 rfl rfl rfl ?_
    refine v_iload_n (i := 2) (q := 15) hC dX10_setOwner_14 rfl rfl rfl ?_
    refine v_iast (q := 16) hC dX10_setOwner_15 rfl rfl (fun _ => rfl) (jIdx_in ‹_› rfl) ?_
    refine v_vret hC dX10_setOwner_16 hr ?_ (Nat.le_of_ble_eq_true rfl) (Nat.le_of_ble_eq_true rfl)
    exact ⟨rfl, by simp_all [sArr]⟩
set_option maxHeartbeats 4000000 in
set_option maxRecDepth 20000 in
theorem c_X10_limitTo {l : Launch} (hl : l.stackTraces = false) (Θ : cTH) (o x : Int32) (G : GS) : Ct l yX10_limitTo cX10_limitTo 3 none rm_X10_limitTo Θ [.ref (tR Θ 0 4), .int o, .int x] (G) (fR none (sArr G 0 7 20 o x)) := by
  refine ct_of (LS := [some (.ref (tR Θ 0 4)), some (.int o), some (.int x)]) hl (by decide +kernel) rfl (Nat.le_of_ble_eq_true rfl) rfl ?_
  intro p e s m args below meth c hC hr
  refine v_iload_n (i := 1) (q := 1) hC dX10_limitTo_0 rfl rfl rfl ?_
  refine v_bipush (q := 3) (v := 20) hC dX10_limitTo_1 rfl (by decide) ?_
  refine v_callN (q := 6) (rm := rm_X11_isIndex) hC (c_X11_isIndex hl Θ _ _ _) k_X11_isIndex st_yX11_isIndex nl_RX10_66 dX10_limitTo_3 rfl  rfl rfl (Nat.le_of_ble_eq_true rfl) ⟨Nat.le_of_ble_eq_true rfl, Nat.le_of_ble_eq_true rfl⟩ ⟨Nat.le_of_ble_eq_true rfl, Nat.le_of_ble_eq_true rfl⟩ (fR_k ?_) fR_x (Nat.le_of_ble_eq_true rfl) (Nat.le_of_ble_eq_true rfl)
  try dsimp only [Option.toList, List.cons_append, List.nil_append]
  refine v_ifb_eq (q := 16) (q2 := 9) hC dX10_limitTo_6 (by decide) rfl (fun c_6 => ?_) (fun c_6 => ?_)
  · refine v_vret hC dX10_limitTo_16 hr ?_ (Nat.le_of_ble_eq_true rfl) (Nat.le_of_ble_eq_true rfl)
    exact ⟨rfl, by simp_all [sArr]⟩
  · refine v_aload_n (i := 0) (q := 10) hC dX10_limitTo_9 rfl rfl rfl ?_
    refine g_X10_4 (q := 13) hC dX10_limitTo_10 rfl rfl fl_RX10_25 ?_
    refine v_iload_n (i := 1) (q := 14) hC dX10_limitTo_13 rfl rfl rfl ?_
    refine v_iload_n (i := 2) (q := 15) hC dX10_limitTo_14 rfl rfl rfl ?_
    refine v_iast (q := 16) hC dX10_limitTo_15 rfl rfl (fun _ => rfl) (jIdx_in ‹_› rfl) ?_
    refine v_vret hC dX10_limitTo_16 hr ?_ (Nat.le_of_ble_eq_true rfl) (Nat.le_of_ble_eq_true rfl)
    exact ⟨rfl, by simp_all [sArr]⟩
set_option maxHeartbeats 4000000 in
set_option maxRecDepth 20000 in
theorem c_X10_letInherit {l : Launch} (hl : l.stackTraces = false) (Θ : cTH) (o : Int32) (b : Bool) (G : GS) : Ct l yX10_letInherit cX10_letInherit 3 none rm_X10_letInherit Θ [.ref (tR Θ 0 4), .int o, .int (b2i b)] (G) (fR none (putF G 0 4 1 (jChg (G.1 0 4 1) o b))) := by
  refine ct_of (LS := [some (.ref (tR Θ 0 4)), some (.int o), some (.int (b2i b))]) hl (by decide +kernel) rfl (Nat.le_of_ble_eq_true rfl) rfl ?_
  intro p e s m args below meth c hC hr
  refine v_aload_n (i := 0) (q := 1) hC dX10_letInherit_0 rfl rfl rfl ?_
  refine v_aload_n (i := 0) (q := 2) hC dX10_letInherit_1 rfl rfl rfl ?_
  refine g_X10_1 (q := 5) hC dX10_letInherit_2 rfl rfl fl_RX10_15 ?_
  refine v_iload_n (i := 1) (q := 6) hC dX10_letInherit_5 rfl rfl rfl ?_
  refine v_iload_n (i := 2) (q := 7) hC dX10_letInherit_6 rfl rfl rfl ?_
  refine v_callN (q := 10) (rm := rm_X11_changed) hC (c_X11_changed hl Θ _ _ _ _) k_X11_changed st_yX11_changed nl_RX10_44 dX10_letInherit_7 rfl  rfl rfl (Nat.le_of_ble_eq_true rfl) ⟨Nat.le_of_ble_eq_true rfl, Nat.le_of_ble_eq_true rfl⟩ ⟨Nat.le_of_ble_eq_true rfl, Nat.le_of_ble_eq_true rfl⟩ (fR_k ?_) fR_x (Nat.le_of_ble_eq_true rfl) (Nat.le_of_ble_eq_true rfl)
  try dsimp only [Option.toList, List.cons_append, List.nil_append]
  refine p_X10_1 (q := 13) hC dX10_letInherit_10 rfl rfl fl_RX10_15 ?_
  refine v_vret hC dX10_letInherit_13 hr ?_ (Nat.le_of_ble_eq_true rfl) (Nat.le_of_ble_eq_true rfl)
  exact ⟨rfl, rfl⟩
def sMake (o pa ow : Int32) (G : GS) : GS :=
  let G1 := sArr (sArr (sArr (putF G 0 4 0 (jChg (G.1 0 4 0) o true)) 0 5 20 o pa) 0 6 20 o ow) 0 7 20 o 15
  putF G1 0 4 1 (jChg (G1.1 0 4 1) o true)
set_option maxHeartbeats 4000000 in
set_option maxRecDepth 20000 in
theorem c_X10_putObject {l : Launch} (hl : l.stackTraces = false) (Θ : cTH) (o pa ow : Int32) (G : GS) : Ct l yX10_putObject cX10_putObject 4 none rm_X10_putObject Θ [.ref (tR Θ 0 4), .int o, .int pa, .int ow] (G) (fR none (sMake o pa ow G)) := by
  refine ct_of (LS := [some (.ref (tR Θ 0 4)), some (.int o), some (.int pa), some (.int ow)]) hl (by decide +kernel) rfl (Nat.le_of_ble_eq_true rfl) rfl ?_
  intro p e s m args below meth c hC hr
  refine v_aload_n (i := 0) (q := 1) hC dX10_putObject_0 rfl rfl rfl ?_
  refine v_aload_n (i := 0) (q := 2) hC dX10_putObject_1 rfl rfl rfl ?_
  refine g_X10_0 (q := 5) hC dX10_putObject_2 rfl rfl fl_RX10_9 ?_
  refine v_iload_n (i := 1) (q := 6) hC dX10_putObject_5 rfl rfl rfl ?_
  refine v_iconst (q := 7) (v := 1) hC dX10_putObject_6 rfl (by decide) ?_
  refine v_callN (q := 10) (rm := rm_X11_changed) hC (c_X11_changed hl Θ _ _ true _) k_X11_changed st_yX11_changed nl_RX10_44 dX10_putObject_7 rfl  rfl rfl (Nat.le_of_ble_eq_true rfl) ⟨Nat.le_of_ble_eq_true rfl, Nat.le_of_ble_eq_true rfl⟩ ⟨Nat.le_of_ble_eq_true rfl, Nat.le_of_ble_eq_true rfl⟩ (fR_k ?_) fR_x (Nat.le_of_ble_eq_true rfl) (Nat.le_of_ble_eq_true rfl)
  try dsimp only [Option.toList, List.cons_append, List.nil_append]
  refine p_X10_0 (q := 13) hC dX10_putObject_10 rfl rfl fl_RX10_9 ?_
  refine v_aload_n (i := 0) (q := 14) hC dX10_putObject_13 rfl rfl rfl ?_
  refine v_iload_n (i := 1) (q := 15) hC dX10_putObject_14 rfl rfl rfl ?_
  refine v_iload_n (i := 2) (q := 16) hC dX10_putObject_15 rfl rfl rfl ?_
  refine v_callV (q := 19) (rm := rm_X10_setParent) hC (c_X10_setParent hl Θ _ _ _) k_X10_setParent im_yX10_setParent se_yX10_setParent ml_RX10_48 dX10_putObject_16 rfl rfl rfl rfl rfl rfl (Nat.le_of_ble_eq_true rfl) ⟨Nat.le_of_ble_eq_true rfl, Nat.le_of_ble_eq_true rfl⟩ ⟨Nat.le_of_ble_eq_true rfl, Nat.le_of_ble_eq_true rfl⟩ (fR_k ?_) fR_x (Nat.le_of_ble_eq_true rfl) (Nat.le_of_ble_eq_true rfl)
  try dsimp only [Option.toList, List.cons_append, List.nil_append]
  refine v_aload_n (i := 0) (q := 20) hC dX10_putObject_19 rfl rfl rfl ?_
  refine v_iload_n (i := 1) (q := 21) hC dX10_putObject_20 rfl rfl rfl ?_
  refine v_iload_n (i := 3) (q := 22) hC dX10_putObject_21 rfl rfl rfl ?_
  refine v_callV (q := 25) (rm := rm_X10_setOwner) hC (c_X10_setOwner hl Θ _ _ _) k_X10_setOwner im_yX10_setOwner se_yX10_setOwner ml_RX10_52 dX10_putObject_22 rfl rfl rfl rfl rfl rfl (Nat.le_of_ble_eq_true rfl) ⟨Nat.le_of_ble_eq_true rfl, Nat.le_of_ble_eq_true rfl⟩ ⟨Nat.le_of_ble_eq_true rfl, Nat.le_of_ble_eq_true rfl⟩ (fR_k ?_) fR_x (Nat.le_of_ble_eq_true rfl) (Nat.le_of_ble_eq_true rfl)
  try dsimp only [Option.toList, List.cons_append, List.nil_append]
  refine v_aload_n (i := 0) (q := 26) hC dX10_putObject_25 rfl rfl rfl ?_
  refine v_iload_n (i := 1) (q := 27) hC dX10_putObject_26 rfl rfl rfl ?_
  refine v_bipush (q := 29) (v := 15) hC dX10_putObject_27 rfl (by decide) ?_
  refine v_callV (q := 32) (rm := rm_X10_limitTo) hC (c_X10_limitTo hl Θ _ _ _) k_X10_limitTo im_yX10_limitTo se_yX10_limitTo ml_RX10_55 dX10_putObject_29 rfl rfl rfl rfl rfl rfl (Nat.le_of_ble_eq_true rfl) ⟨Nat.le_of_ble_eq_true rfl, Nat.le_of_ble_eq_true rfl⟩ ⟨Nat.le_of_ble_eq_true rfl, Nat.le_of_ble_eq_true rfl⟩ (fR_k ?_) fR_x (Nat.le_of_ble_eq_true rfl) (Nat.le_of_ble_eq_true rfl)
  try dsimp only [Option.toList, List.cons_append, List.nil_append]
  refine v_aload_n (i := 0) (q := 33) hC dX10_putObject_32 rfl rfl rfl ?_
  refine v_iload_n (i := 1) (q := 34) hC dX10_putObject_33 rfl rfl rfl ?_
  refine v_iconst (q := 35) (v := 1) hC dX10_putObject_34 rfl (by decide) ?_
  refine v_callV (q := 38) (rm := rm_X10_letInherit) hC (c_X10_letInherit hl Θ _ true _) k_X10_letInherit im_yX10_letInherit se_yX10_letInherit ml_RX10_58 dX10_putObject_35 rfl rfl rfl rfl rfl rfl (Nat.le_of_ble_eq_true rfl) ⟨Nat.le_of_ble_eq_true rfl, Nat.le_of_ble_eq_true rfl⟩ ⟨Nat.le_of_ble_eq_true rfl, Nat.le_of_ble_eq_true rfl⟩ (fR_k ?_) fR_x (Nat.le_of_ble_eq_true rfl) (Nat.le_of_ble_eq_true rfl)
  try dsimp only [Option.toList, List.cons_append, List.nil_append]
  refine v_vret hC dX10_putObject_38 hr ?_ (Nat.le_of_ble_eq_true rfl) (Nat.le_of_ble_eq_true rfl)
  exact ⟨rfl, rfl⟩
set_option maxHeartbeats 4000000 in
set_option maxRecDepth 20000 in
theorem c_X10_dropObject {l : Launch} (hl : l.stackTraces = false) (Θ : cTH) (o : Int32) (G : GS) : Ct l yX10_dropObject cX10_dropObject 2 none rm_X10_dropObject Θ [.ref (tR Θ 0 4), .int o] (G) (fR none (putF G 0 4 0 (jChg (G.1 0 4 0) o false))) := by
  refine ct_of (LS := [some (.ref (tR Θ 0 4)), some (.int o)]) hl (by decide +kernel) rfl (Nat.le_of_ble_eq_true rfl) rfl ?_
  intro p e s m args below meth c hC hr
  refine v_aload_n (i := 0) (q := 1) hC dX10_dropObject_0 rfl rfl rfl ?_
  refine v_aload_n (i := 0) (q := 2) hC dX10_dropObject_1 rfl rfl rfl ?_
  refine g_X10_0 (q := 5) hC dX10_dropObject_2 rfl rfl fl_RX10_9 ?_
  refine v_iload_n (i := 1) (q := 6) hC dX10_dropObject_5 rfl rfl rfl ?_
  refine v_iconst (q := 7) (v := 0) hC dX10_dropObject_6 rfl (by decide) ?_
  refine v_callN (q := 10) (rm := rm_X11_changed) hC (c_X11_changed hl Θ _ _ false _) k_X11_changed st_yX11_changed nl_RX10_44 dX10_dropObject_7 rfl  rfl rfl (Nat.le_of_ble_eq_true rfl) ⟨Nat.le_of_ble_eq_true rfl, Nat.le_of_ble_eq_true rfl⟩ ⟨Nat.le_of_ble_eq_true rfl, Nat.le_of_ble_eq_true rfl⟩ (fR_k ?_) fR_x (Nat.le_of_ble_eq_true rfl) (Nat.le_of_ble_eq_true rfl)
  try dsimp only [Option.toList, List.cons_append, List.nil_append]
  refine p_X10_0 (q := 13) hC dX10_dropObject_10 rfl rfl fl_RX10_9 ?_
  refine v_vret hC dX10_dropObject_13 hr ?_ (Nat.le_of_ble_eq_true rfl) (Nat.le_of_ble_eq_true rfl)
  exact ⟨rfl, rfl⟩
def tUp (there inh : Int32) (w : Nat → Int32) (o : Int32) : Int32 := if jHas inh o = true then tAt there w o (-1) else -1
set_option maxHeartbeats 4000000 in
set_option maxRecDepth 20000 in
theorem c_X10_nextUp {l : Launch} (hl : l.stackTraces = false) (Θ : cTH) (o : Int32) (G : GS) : Ct l yX10_nextUp cX10_nextUp 2 (some .int) rm_X10_nextUp Θ [.ref (tR Θ 0 4), .int o] (G) (fR (some (.int (tUp (G.1 0 4 0) (G.1 0 4 1) (G.2.1 0 5) o))) G) := by
  refine ct_of (LS := [some (.ref (tR Θ 0 4)), some (.int o)]) hl (by decide +kernel) rfl (Nat.le_of_ble_eq_true rfl) rfl ?_
  intro p e s m args below meth c hC hr
  refine v_aload_n (i := 0) (q := 1) hC dX10_nextUp_0 rfl rfl rfl ?_
  refine v_iload_n (i := 1) (q := 2) hC dX10_nextUp_1 rfl rfl rfl ?_
  refine v_callV (q := 5) (rm := rm_X10_inherits) hC (c_X10_inherits hl Θ _ _) k_X10_inherits im_yX10_inherits se_yX10_inherits ml_RX10_69 dX10_nextUp_2 rfl rfl rfl rfl rfl rfl (Nat.le_of_ble_eq_true rfl) ⟨Nat.le_of_ble_eq_true rfl, Nat.le_of_ble_eq_true rfl⟩ ⟨Nat.le_of_ble_eq_true rfl, Nat.le_of_ble_eq_true rfl⟩ (fR_k ?_) fR_x (Nat.le_of_ble_eq_true rfl) (Nat.le_of_ble_eq_true rfl)
  try dsimp only [Option.toList, List.cons_append, List.nil_append]
  refine v_ifb_eq (q := 16) (q2 := 8) hC dX10_nextUp_5 (by decide) rfl (fun c_5 => ?_) (fun c_5 => ?_)
  · refine v_iconst (q := 17) (v := (-1)) hC dX10_nextUp_16 rfl (by decide) ?_
    refine v_iret hC dX10_nextUp_17 hr (rfl) ?_ (Nat.le_of_ble_eq_true rfl) (Nat.le_of_ble_eq_true rfl)
    exact ⟨by simp_all [tUp], rfl⟩
  · refine v_aload_n (i := 0) (q := 9) hC dX10_nextUp_8 rfl rfl rfl ?_
    refine v_iload_n (i := 1) (q := 10) hC dX10_nextUp_9 rfl rfl rfl ?_
    refine v_callV (q := 13) (rm := rm_X10_parentAt) hC (c_X10_parentAt hl Θ _ _) k_X10_parentAt im_yX10_parentAt se_yX10_parentAt ml_RX10_72 dX10_nextUp_10 rfl rfl rfl rfl rfl rfl (Nat.le_of_ble_eq_true rfl) ⟨Nat.le_of_ble_eq_true rfl, Nat.le_of_ble_eq_true rfl⟩ ⟨Nat.le_of_ble_eq_true rfl, Nat.le_of_ble_eq_true rfl⟩ (fR_k ?_) fR_x (Nat.le_of_ble_eq_true rfl) (Nat.le_of_ble_eq_true rfl)
    try dsimp only [Option.toList, List.cons_append, List.nil_append]
    refine v_goto (q := 17) hC dX10_nextUp_13 (by decide) ?_
    refine v_iret hC dX10_nextUp_17 hr (rfl) ?_ (Nat.le_of_ble_eq_true rfl) (Nat.le_of_ble_eq_true rfl)
    exact ⟨by simp_all [tUp], rfl⟩
/-- Log -/
def lPlace (req ago : Int32) : Int32 := jMod (req - 1 - ago) 8
set_option maxHeartbeats 4000000 in
set_option maxRecDepth 20000 in
theorem c_X7_placeOf {l : Launch} (hl : l.stackTraces = false) (Θ : cTH) (a : Int32) (G : GS) : Ct l yX7_placeOf cX7_placeOf 2 (some .int) rm_X7_placeOf Θ [.ref (tR Θ 0 11), .int a] (G) (fR (some (.int (lPlace (G.1 0 11 0) a))) G) := by
  refine ct_of (LS := [some (.ref (tR Θ 0 11)), some (.int a)]) hl (by decide +kernel) rfl (Nat.le_of_ble_eq_true rfl) rfl ?_
  intro p e s m args below meth c hC hr
  refine v_aload_n (i := 0) (q := 1) hC dX7_placeOf_0 rfl rfl rfl ?_
  refine g_X7_0 (q := 4) hC dX7_placeOf_1 rfl rfl fl_RX7_9 ?_
  refine v_iconst (q := 5) (v := 1) hC dX7_placeOf_4 rfl (by decide) ?_
  refine v_isub (q := 6) hC dX7_placeOf_5 rfl ?_
  refine v_iload_n (i := 1) (q := 7) hC dX7_placeOf_6 rfl rfl rfl ?_
  refine v_isub (q := 8) hC dX7_placeOf_7 rfl ?_
  refine v_bipush (q := 10) (v := 8) hC dX7_placeOf_8 rfl (by decide) ?_
  refine v_callS (q := 13) (rm := rm_J9_floorMod_7cf53) hC (c_J9_floorMod_7cf53 hl Θ _ _ _ (by decide)) k_J9_floorMod_7cf53 st_yJ9_floorMod_7cf53 ml_RX7_52 dX7_placeOf_10 rfl  rfl rfl (Nat.le_of_ble_eq_true rfl) ⟨Nat.le_of_ble_eq_true rfl, Nat.le_of_ble_eq_true rfl⟩ ⟨Nat.le_of_ble_eq_true rfl, Nat.le_of_ble_eq_true rfl⟩ (fR_k ?_) fR_x (Nat.le_of_ble_eq_true rfl) (Nat.le_of_ble_eq_true rfl)
  try dsimp only [Option.toList, List.cons_append, List.nil_append]
  refine v_iret hC dX7_placeOf_13 hr (rfl) ?_ (Nat.le_of_ble_eq_true rfl) (Nat.le_of_ble_eq_true rfl)
  exact ⟨rfl, rfl⟩
set_option maxHeartbeats 4000000 in
set_option maxRecDepth 20000 in
theorem c_X7_countKept {l : Launch} (hl : l.stackTraces = false) (Θ : cTH) (G : GS) : Ct l yX7_countKept cX7_countKept 1 (some .int) rm_X7_countKept Θ [.ref (tR Θ 0 11)] (G) (fR (some (.int (if (8 : Int32) < G.1 0 11 0 then 8 else G.1 0 11 0))) G) := by
  refine ct_of (LS := [some (.ref (tR Θ 0 11))]) hl (by decide +kernel) rfl (Nat.le_of_ble_eq_true rfl) rfl ?_
  intro p e s m args below meth c hC hr
  refine v_aload_n (i := 0) (q := 1) hC dX7_countKept_0 rfl rfl rfl ?_
  refine g_X7_0 (q := 4) hC dX7_countKept_1 rfl rfl fl_RX7_9 ?_
  refine v_bipush (q := 6) (v := 8) hC dX7_countKept_4 rfl (by decide) ?_
  refine v_mmin (q := 9) hC dX7_countKept_6 rfl ml_RX7_42 ⟨Nat.le_of_ble_eq_true rfl, Nat.le_of_ble_eq_true rfl, Nat.le_of_ble_eq_true rfl, Nat.le_of_ble_eq_true rfl⟩ ?_
  refine v_iret hC dX7_countKept_9 hr (rfl) ?_ (Nat.le_of_ble_eq_true rfl) (Nat.le_of_ble_eq_true rfl)
  exact ⟨rfl, rfl⟩
