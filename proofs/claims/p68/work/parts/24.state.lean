/-! Log; the copies; State; History -/
def sLog (u o : Int32) (b : Bool) (G : GS) : GS :=
  let q := G.1 0 11 0 + 1
  let pl := lPlace q 0
  putF (putA (putA (putF (putF G 0 11 0 q) 0 11 1 (G.1 0 11 1 + (if b = true then 0 else 1))) 0 12 (upd (G.2.1 0 12) pl.toNatClampNeg u)) 0 13 (upd (G.2.1 0 13) pl.toNatClampNeg o)) 0 11 2 (jChg (G.1 0 11 2) pl b)
theorem lPlace_in (q a : Int32) : vp_in (lPlace q a) 8 := jMod_in (by decide) rfl
set_option maxHeartbeats 4000000 in
set_option maxRecDepth 20000 in
theorem c_X7_put {l : Launch} (hl : l.stackTraces = false) (Θ : cTH) (u o : Int32) (b : Bool) (G : GS) : Ct l yX7_put cX7_put 5 none rm_X7_put Θ [.ref (tR Θ 0 11), .int u, .int o, .int (b2i b)] (G) (fR none (sLog u o b G)) := by
  refine ct_of (LS := [some (.ref (tR Θ 0 11)), some (.int u), some (.int o), some (.int (b2i b)), none]) hl (by decide +kernel) rfl (Nat.le_of_ble_eq_true rfl) rfl ?_
  intro p e s m args below meth c hC hr
  cases b with
  | true =>
    refine v_aload_n (i := 0) (q := 1) hC dX7_put_0 rfl rfl rfl ?_
    refine v_dup (q := 2) hC dX7_put_1 rfl rfl ?_
    refine g_X7_0 (q := 5) hC dX7_put_2 rfl rfl fl_RX7_9 ?_
    refine v_iconst (q := 6) (v := 1) hC dX7_put_5 rfl (by decide) ?_
    refine v_iadd (q := 7) hC dX7_put_6 rfl ?_
    refine p_X7_0 (q := 10) hC dX7_put_7 rfl rfl fl_RX7_9 ?_
    refine v_aload_n (i := 0) (q := 11) hC dX7_put_10 rfl rfl rfl ?_
    refine v_dup (q := 12) hC dX7_put_11 rfl rfl ?_
    refine g_X7_1 (q := 15) hC dX7_put_12 rfl rfl fl_RX7_15 ?_
    refine v_iload_n (i := 3) (q := 16) hC dX7_put_15 rfl rfl rfl ?_
    refine v_if_eq (q := 23) (q2 := 19) hC dX7_put_16 (by decide) rfl (fun c_16 => ?_) (fun c_16 => ?_)
    · exact absurd c_16 (by decide)
    · refine v_iconst (q := 20) (v := 0) hC dX7_put_19 rfl (by decide) ?_
      refine v_goto (q := 24) hC dX7_put_20 (by decide) ?_
      refine v_iadd (q := 25) hC dX7_put_24 rfl ?_
      refine p_X7_1 (q := 28) hC dX7_put_25 rfl rfl fl_RX7_15 ?_
      refine v_aload_n (i := 0) (q := 29) hC dX7_put_28 rfl rfl rfl ?_
      refine v_iconst (q := 30) (v := 0) hC dX7_put_29 rfl (by decide) ?_
      refine v_callV (q := 33) (rm := rm_X7_placeOf) hC (c_X7_placeOf hl Θ _ _) k_X7_placeOf im_yX7_placeOf se_yX7_placeOf ml_RX7_34 dX7_put_30 rfl rfl rfl rfl rfl rfl (Nat.le_of_ble_eq_true rfl) ⟨Nat.le_of_ble_eq_true rfl, Nat.le_of_ble_eq_true rfl⟩ ⟨Nat.le_of_ble_eq_true rfl, Nat.le_of_ble_eq_true rfl⟩ (fR_k ?_) fR_x (Nat.le_of_ble_eq_true rfl) (Nat.le_of_ble_eq_true rfl)
      try dsimp only [Option.toList, List.cons_append, List.nil_append]
      refine v_istore (q := 35) hC dX7_put_33 rfl (lvc rfl) (Nat.le_of_ble_eq_true rfl) (Nat.le_of_ble_eq_true rfl) rfl ?_
      refine v_aload_n (i := 0) (q := 36) hC dX7_put_35 rfl rfl rfl ?_
      refine g_X7_3 (q := 39) hC dX7_put_36 rfl rfl fl_RX7_21 ?_
      refine v_iload (q := 41) hC dX7_put_39 rfl rfl ?_
      refine v_iload_n (i := 1) (q := 42) hC dX7_put_41 rfl rfl rfl ?_
      refine v_iast (q := 43) hC dX7_put_42 rfl rfl (fun _ => rfl) (lPlace_in _ _) ?_
      refine v_aload_n (i := 0) (q := 44) hC dX7_put_43 rfl rfl rfl ?_
      refine g_X7_4 (q := 47) hC dX7_put_44 rfl rfl fl_RX7_25 ?_
      refine v_iload (q := 49) hC dX7_put_47 rfl rfl ?_
      refine v_iload_n (i := 2) (q := 50) hC dX7_put_49 rfl rfl rfl ?_
      refine v_iast (q := 51) hC dX7_put_50 rfl rfl (fun _ => rfl) (lPlace_in _ _) ?_
      refine v_aload_n (i := 0) (q := 52) hC dX7_put_51 rfl rfl rfl ?_
      refine v_aload_n (i := 0) (q := 53) hC dX7_put_52 rfl rfl rfl ?_
      refine g_X7_2 (q := 56) hC dX7_put_53 rfl rfl fl_RX7_18 ?_
      refine v_iload (q := 58) hC dX7_put_56 rfl rfl ?_
      refine v_iload_n (i := 3) (q := 59) hC dX7_put_58 rfl rfl rfl ?_
      refine v_callN (q := 62) (rm := rm_X11_changed) hC (c_X11_changed hl Θ _ _ true _) k_X11_changed st_yX11_changed nl_RX7_38 dX7_put_59 rfl  rfl rfl (Nat.le_of_ble_eq_true rfl) ⟨Nat.le_of_ble_eq_true rfl, Nat.le_of_ble_eq_true rfl⟩ ⟨Nat.le_of_ble_eq_true rfl, Nat.le_of_ble_eq_true rfl⟩ (fR_k ?_) fR_x (Nat.le_of_ble_eq_true rfl) (Nat.le_of_ble_eq_true rfl)
      try dsimp only [Option.toList, List.cons_append, List.nil_append]
      refine p_X7_2 (q := 65) hC dX7_put_62 rfl rfl fl_RX7_18 ?_
      refine v_vret hC dX7_put_65 hr ?_ (Nat.le_of_ble_eq_true rfl) (Nat.le_of_ble_eq_true rfl)
      exact ⟨rfl, rfl⟩
  | false =>
    refine v_aload_n (i := 0) (q := 1) hC dX7_put_0 rfl rfl rfl ?_
    refine v_dup (q := 2) hC dX7_put_1 rfl rfl ?_
    refine g_X7_0 (q := 5) hC dX7_put_2 rfl rfl fl_RX7_9 ?_
    refine v_iconst (q := 6) (v := 1) hC dX7_put_5 rfl (by decide) ?_
    refine v_iadd (q := 7) hC dX7_put_6 rfl ?_
    refine p_X7_0 (q := 10) hC dX7_put_7 rfl rfl fl_RX7_9 ?_
    refine v_aload_n (i := 0) (q := 11) hC dX7_put_10 rfl rfl rfl ?_
    refine v_dup (q := 12) hC dX7_put_11 rfl rfl ?_
    refine g_X7_1 (q := 15) hC dX7_put_12 rfl rfl fl_RX7_15 ?_
    refine v_iload_n (i := 3) (q := 16) hC dX7_put_15 rfl rfl rfl ?_
    refine v_if_eq (q := 23) (q2 := 19) hC dX7_put_16 (by decide) rfl (fun c_16 => ?_) (fun c_16 => ?_)
    · refine v_iconst (q := 24) (v := 1) hC dX7_put_23 rfl (by decide) ?_
      refine v_iadd (q := 25) hC dX7_put_24 rfl ?_
      refine p_X7_1 (q := 28) hC dX7_put_25 rfl rfl fl_RX7_15 ?_
      refine v_aload_n (i := 0) (q := 29) hC dX7_put_28 rfl rfl rfl ?_
      refine v_iconst (q := 30) (v := 0) hC dX7_put_29 rfl (by decide) ?_
      refine v_callV (q := 33) (rm := rm_X7_placeOf) hC (c_X7_placeOf hl Θ _ _) k_X7_placeOf im_yX7_placeOf se_yX7_placeOf ml_RX7_34 dX7_put_30 rfl rfl rfl rfl rfl rfl (Nat.le_of_ble_eq_true rfl) ⟨Nat.le_of_ble_eq_true rfl, Nat.le_of_ble_eq_true rfl⟩ ⟨Nat.le_of_ble_eq_true rfl, Nat.le_of_ble_eq_true rfl⟩ (fR_k ?_) fR_x (Nat.le_of_ble_eq_true rfl) (Nat.le_of_ble_eq_true rfl)
      try dsimp only [Option.toList, List.cons_append, List.nil_append]
      refine v_istore (q := 35) hC dX7_put_33 rfl (lvc rfl) (Nat.le_of_ble_eq_true rfl) (Nat.le_of_ble_eq_true rfl) rfl ?_
      refine v_aload_n (i := 0) (q := 36) hC dX7_put_35 rfl rfl rfl ?_
      refine g_X7_3 (q := 39) hC dX7_put_36 rfl rfl fl_RX7_21 ?_
      refine v_iload (q := 41) hC dX7_put_39 rfl rfl ?_
      refine v_iload_n (i := 1) (q := 42) hC dX7_put_41 rfl rfl rfl ?_
      refine v_iast (q := 43) hC dX7_put_42 rfl rfl (fun _ => rfl) (lPlace_in _ _) ?_
      refine v_aload_n (i := 0) (q := 44) hC dX7_put_43 rfl rfl rfl ?_
      refine g_X7_4 (q := 47) hC dX7_put_44 rfl rfl fl_RX7_25 ?_
      refine v_iload (q := 49) hC dX7_put_47 rfl rfl ?_
      refine v_iload_n (i := 2) (q := 50) hC dX7_put_49 rfl rfl rfl ?_
      refine v_iast (q := 51) hC dX7_put_50 rfl rfl (fun _ => rfl) (lPlace_in _ _) ?_
      refine v_aload_n (i := 0) (q := 52) hC dX7_put_51 rfl rfl rfl ?_
      refine v_aload_n (i := 0) (q := 53) hC dX7_put_52 rfl rfl rfl ?_
      refine g_X7_2 (q := 56) hC dX7_put_53 rfl rfl fl_RX7_18 ?_
      refine v_iload (q := 58) hC dX7_put_56 rfl rfl ?_
      refine v_iload_n (i := 3) (q := 59) hC dX7_put_58 rfl rfl rfl ?_
      refine v_callN (q := 62) (rm := rm_X11_changed) hC (c_X11_changed hl Θ _ _ false _) k_X11_changed st_yX11_changed nl_RX7_38 dX7_put_59 rfl  rfl rfl (Nat.le_of_ble_eq_true rfl) ⟨Nat.le_of_ble_eq_true rfl, Nat.le_of_ble_eq_true rfl⟩ ⟨Nat.le_of_ble_eq_true rfl, Nat.le_of_ble_eq_true rfl⟩ (fR_k ?_) fR_x (Nat.le_of_ble_eq_true rfl) (Nat.le_of_ble_eq_true rfl)
      try dsimp only [Option.toList, List.cons_append, List.nil_append]
      refine p_X7_2 (q := 65) hC dX7_put_62 rfl rfl fl_RX7_18 ?_
      refine v_vret hC dX7_put_65 hr ?_ (Nat.le_of_ble_eq_true rfl) (Nat.le_of_ble_eq_true rfl)
      exact ⟨rfl, rfl⟩
    · exact absurd rfl c_16
set_option maxHeartbeats 4000000 in
set_option maxRecDepth 20000 in
theorem c_X7_userAt {l : Launch} (hl : l.stackTraces = false) (Θ : cTH) (a : Int32) (G : GS) : Ct l yX7_userAt cX7_userAt 2 (some .int) rm_X7_userAt Θ [.ref (tR Θ 0 11), .int a] (G) (fR (some (.int (G.2.1 0 12 (lPlace (G.1 0 11 0) a).toNatClampNeg))) G) := by
  refine ct_of (LS := [some (.ref (tR Θ 0 11)), some (.int a)]) hl (by decide +kernel) rfl (Nat.le_of_ble_eq_true rfl) rfl ?_
  intro p e s m args below meth c hC hr
  refine v_aload_n (i := 0) (q := 1) hC dX7_userAt_0 rfl rfl rfl ?_
  refine g_X7_3 (q := 4) hC dX7_userAt_1 rfl rfl fl_RX7_21 ?_
  refine v_aload_n (i := 0) (q := 5) hC dX7_userAt_4 rfl rfl rfl ?_
  refine v_iload_n (i := 1) (q := 6) hC dX7_userAt_5 rfl rfl rfl ?_
  refine v_callV (q := 9) (rm := rm_X7_placeOf) hC (c_X7_placeOf hl Θ _ _) k_X7_placeOf im_yX7_placeOf se_yX7_placeOf ml_RX7_34 dX7_userAt_6 rfl rfl rfl rfl rfl rfl (Nat.le_of_ble_eq_true rfl) ⟨Nat.le_of_ble_eq_true rfl, Nat.le_of_ble_eq_true rfl⟩ ⟨Nat.le_of_ble_eq_true rfl, Nat.le_of_ble_eq_true rfl⟩ (fR_k ?_) fR_x (Nat.le_of_ble_eq_true rfl) (Nat.le_of_ble_eq_true rfl)
  try dsimp only [Option.toList, List.cons_append, List.nil_append]
  refine v_iald (q := 10) hC dX7_userAt_9 rfl rfl rfl (lPlace_in _ _) ?_
  refine v_iret hC dX7_userAt_10 hr (rfl) ?_ (Nat.le_of_ble_eq_true rfl) (Nat.le_of_ble_eq_true rfl)
  exact ⟨rfl, rfl⟩
set_option maxHeartbeats 4000000 in
set_option maxRecDepth 20000 in
theorem c_X7_objectAt {l : Launch} (hl : l.stackTraces = false) (Θ : cTH) (a : Int32) (G : GS) : Ct l yX7_objectAt cX7_objectAt 2 (some .int) rm_X7_objectAt Θ [.ref (tR Θ 0 11), .int a] (G) (fR (some (.int (G.2.1 0 13 (lPlace (G.1 0 11 0) a).toNatClampNeg))) G) := by
  refine ct_of (LS := [some (.ref (tR Θ 0 11)), some (.int a)]) hl (by decide +kernel) rfl (Nat.le_of_ble_eq_true rfl) rfl ?_
  intro p e s m args below meth c hC hr
  refine v_aload_n (i := 0) (q := 1) hC dX7_objectAt_0 rfl rfl rfl ?_
  refine g_X7_4 (q := 4) hC dX7_objectAt_1 rfl rfl fl_RX7_25 ?_
  refine v_aload_n (i := 0) (q := 5) hC dX7_objectAt_4 rfl rfl rfl ?_
  refine v_iload_n (i := 1) (q := 6) hC dX7_objectAt_5 rfl rfl rfl ?_
  refine v_callV (q := 9) (rm := rm_X7_placeOf) hC (c_X7_placeOf hl Θ _ _) k_X7_placeOf im_yX7_placeOf se_yX7_placeOf ml_RX7_34 dX7_objectAt_6 rfl rfl rfl rfl rfl rfl (Nat.le_of_ble_eq_true rfl) ⟨Nat.le_of_ble_eq_true rfl, Nat.le_of_ble_eq_true rfl⟩ ⟨Nat.le_of_ble_eq_true rfl, Nat.le_of_ble_eq_true rfl⟩ (fR_k ?_) fR_x (Nat.le_of_ble_eq_true rfl) (Nat.le_of_ble_eq_true rfl)
  try dsimp only [Option.toList, List.cons_append, List.nil_append]
  refine v_iald (q := 10) hC dX7_objectAt_9 rfl rfl rfl (lPlace_in _ _) ?_
  refine v_iret hC dX7_objectAt_10 hr (rfl) ?_ (Nat.le_of_ble_eq_true rfl) (Nat.le_of_ble_eq_true rfl)
  exact ⟨rfl, rfl⟩
set_option maxHeartbeats 4000000 in
set_option maxRecDepth 20000 in
theorem c_X7_wasGranted {l : Launch} (hl : l.stackTraces = false) (Θ : cTH) (a : Int32) (G : GS) : Ct l yX7_wasGranted cX7_wasGranted 2 (some .boolean) rm_X7_wasGranted Θ [.ref (tR Θ 0 11), .int a] (G) (fR (some (.int (b2i (jHas (G.1 0 11 2) (lPlace (G.1 0 11 0) a))))) G) := by
  refine ct_of (LS := [some (.ref (tR Θ 0 11)), some (.int a)]) hl (by decide +kernel) rfl (Nat.le_of_ble_eq_true rfl) rfl ?_
  intro p e s m args below meth c hC hr
  refine v_aload_n (i := 0) (q := 1) hC dX7_wasGranted_0 rfl rfl rfl ?_
  refine g_X7_2 (q := 4) hC dX7_wasGranted_1 rfl rfl fl_RX7_18 ?_
  refine v_aload_n (i := 0) (q := 5) hC dX7_wasGranted_4 rfl rfl rfl ?_
  refine v_iload_n (i := 1) (q := 6) hC dX7_wasGranted_5 rfl rfl rfl ?_
  refine v_callV (q := 9) (rm := rm_X7_placeOf) hC (c_X7_placeOf hl Θ _ _) k_X7_placeOf im_yX7_placeOf se_yX7_placeOf ml_RX7_34 dX7_wasGranted_6 rfl rfl rfl rfl rfl rfl (Nat.le_of_ble_eq_true rfl) ⟨Nat.le_of_ble_eq_true rfl, Nat.le_of_ble_eq_true rfl⟩ ⟨Nat.le_of_ble_eq_true rfl, Nat.le_of_ble_eq_true rfl⟩ (fR_k ?_) fR_x (Nat.le_of_ble_eq_true rfl) (Nat.le_of_ble_eq_true rfl)
  try dsimp only [Option.toList, List.cons_append, List.nil_append]
  refine v_callN (q := 12) (rm := rm_X11_has) hC (c_X11_has hl Θ _ _ _) k_X11_has st_yX11_has nl_RX7_48 dX7_wasGranted_9 rfl  rfl rfl (Nat.le_of_ble_eq_true rfl) ⟨Nat.le_of_ble_eq_true rfl, Nat.le_of_ble_eq_true rfl⟩ ⟨Nat.le_of_ble_eq_true rfl, Nat.le_of_ble_eq_true rfl⟩ (fR_k ?_) fR_x (Nat.le_of_ble_eq_true rfl) (Nat.le_of_ble_eq_true rfl)
  try dsimp only [Option.toList, List.cons_append, List.nil_append]
  refine v_iret hC dX7_wasGranted_12 hr (by first | rfl | exact nar_b) ?_ (Nat.le_of_ble_eq_true rfl) (Nat.le_of_ble_eq_true rfl)
  exact ⟨rfl, rfl⟩
/-- the copies: region a from region b -/
def okR (lv : Nat → Bool) (r : Nat) : Bool := Nat.blt r 6 || ((r == 6) && lv 0) || ((r == 7) && lv 1)
theorem okR_i {lv : Nat → Bool} {r o : Nat} (h : okR lv r = true) (ho : Nat.blt o 14 = true) : okI lv r o = true := by
  unfold okI
  unfold okR at h
  rw [ho, h]
  rfl
def cpClub (a b : Nat) (G : GS) : GS := putA (putA (putF (putF G a 1 0 (G.1 b 1 0)) a 1 1 (G.1 b 1 1)) a 2 (G.2.1 b 2)) a 3 (G.2.1 b 3)
def cpTree (a b : Nat) (G : GS) : GS := putA (putA (putA (putF (putF G a 4 0 (G.1 b 4 0)) a 4 1 (G.1 b 4 1)) a 5 (G.2.1 b 5)) a 6 (G.2.1 b 6)) a 7 (G.2.1 b 7)
def cpLists (a b : Nat) (G : GS) : GS := putA (putA G a 9 (G.2.1 b 9)) a 10 (G.2.1 b 10)
def cpLog (a b : Nat) (G : GS) : GS := putA (putA (putF (putF (putF G a 11 0 (G.1 b 11 0)) a 11 1 (G.1 b 11 1)) a 11 2 (G.1 b 11 2)) a 12 (G.2.1 b 12)) a 13 (G.2.1 b 13)
def cpState (a b : Nat) (G : GS) : GS := cpLog a b (cpLists a b (cpTree a b (cpClub a b G)))
set_option maxHeartbeats 4000000 in
set_option maxRecDepth 20000 in
theorem c_X0_copyFrom {l : Launch} (hl : l.stackTraces = false) (Θ : cTH) (a b : Nat) (G : GS) (ha : okR G.2.2.1 a = true) (hb : okR G.2.2.1 b = true) : Ct l yX0_copyFrom cX0_copyFrom 2 none rm_X0_copyFrom Θ [.ref (tR Θ a 1), .ref (tR Θ b 1)] (G) (fR none (cpClub a b G)) := by
  refine ct_of (LS := [some (.ref (tR Θ a 1)), some (.ref (tR Θ b 1))]) hl (by decide +kernel) rfl (Nat.le_of_ble_eq_true rfl) rfl ?_
  intro p e s m args below meth c hC hr
  refine v_aload_n (i := 0) (q := 1) hC dX0_copyFrom_0 rfl rfl rfl ?_
  refine v_aload_n (i := 1) (q := 2) hC dX0_copyFrom_1 rfl rfl rfl ?_
  refine g_X0_0 (q := 5) hC dX0_copyFrom_2 rfl (okR_i hb rfl) fl_RX0_9 ?_
  refine p_X0_0 (q := 8) hC dX0_copyFrom_5 rfl (okR_i ha rfl) fl_RX0_9 ?_
  refine v_aload_n (i := 0) (q := 9) hC dX0_copyFrom_8 rfl rfl rfl ?_
  refine v_aload_n (i := 1) (q := 10) hC dX0_copyFrom_9 rfl rfl rfl ?_
  refine g_X0_1 (q := 13) hC dX0_copyFrom_10 rfl (okR_i hb rfl) fl_RX0_15 ?_
  refine p_X0_1 (q := 16) hC dX0_copyFrom_13 rfl (okR_i ha rfl) fl_RX0_15 ?_
  refine v_aload_n (i := 1) (q := 17) hC dX0_copyFrom_16 rfl rfl rfl ?_
  refine g_X0_2 (q := 20) hC dX0_copyFrom_17 rfl (okR_i hb rfl) fl_RX0_18 ?_
  refine v_iconst (q := 21) (v := 0) hC dX0_copyFrom_20 rfl (by decide) ?_
  refine v_aload_n (i := 0) (q := 22) hC dX0_copyFrom_21 rfl rfl rfl ?_
  refine g_X0_2 (q := 25) hC dX0_copyFrom_22 rfl (okR_i ha rfl) fl_RX0_18 ?_
  refine v_iconst (q := 26) (v := 0) hC dX0_copyFrom_25 rfl (by decide) ?_
  refine v_bipush (q := 28) (v := 12) hC dX0_copyFrom_26 rfl (by decide) ?_
  refine v_acopy (q := 31) (N := 12) hC dX0_copyFrom_28 rfl ml_RX0_25 (okR_i hb rfl) (okR_i ha rfl) (kk := ?_)
  refine v_aload_n (i := 1) (q := 32) hC dX0_copyFrom_31 rfl rfl rfl ?_
  refine g_X0_3 (q := 35) hC dX0_copyFrom_32 rfl (okR_i hb rfl) fl_RX0_22 ?_
  refine v_iconst (q := 36) (v := 0) hC dX0_copyFrom_35 rfl (by decide) ?_
  refine v_aload_n (i := 0) (q := 37) hC dX0_copyFrom_36 rfl rfl rfl ?_
  refine g_X0_3 (q := 40) hC dX0_copyFrom_37 rfl (okR_i ha rfl) fl_RX0_22 ?_
  refine v_iconst (q := 41) (v := 0) hC dX0_copyFrom_40 rfl (by decide) ?_
  refine v_bipush (q := 43) (v := 8) hC dX0_copyFrom_41 rfl (by decide) ?_
  refine v_acopy (q := 46) (N := 8) hC dX0_copyFrom_43 rfl ml_RX0_25 (okR_i hb rfl) (okR_i ha rfl) (kk := ?_)
  refine v_vret hC dX0_copyFrom_46 hr ?_ (Nat.le_of_ble_eq_true rfl) (Nat.le_of_ble_eq_true rfl)
  refine ⟨rfl, ?_⟩
  simp [cpClub, putF_get, putA_get, putA_fld, putF_row]
set_option maxHeartbeats 4000000 in
set_option maxRecDepth 20000 in
theorem c_X10_copyFrom {l : Launch} (hl : l.stackTraces = false) (Θ : cTH) (a b : Nat) (G : GS) (ha : okR G.2.2.1 a = true) (hb : okR G.2.2.1 b = true) : Ct l yX10_copyFrom cX10_copyFrom 2 none rm_X10_copyFrom Θ [.ref (tR Θ a 4), .ref (tR Θ b 4)] (G) (fR none (cpTree a b G)) := by
  refine ct_of (LS := [some (.ref (tR Θ a 4)), some (.ref (tR Θ b 4))]) hl (by decide +kernel) rfl (Nat.le_of_ble_eq_true rfl) rfl ?_
  intro p e s m args below meth c hC hr
  refine v_aload_n (i := 0) (q := 1) hC dX10_copyFrom_0 rfl rfl rfl ?_
  refine v_aload_n (i := 1) (q := 2) hC dX10_copyFrom_1 rfl rfl rfl ?_
  refine g_X10_0 (q := 5) hC dX10_copyFrom_2 rfl (okR_i hb rfl) fl_RX10_9 ?_
  refine p_X10_0 (q := 8) hC dX10_copyFrom_5 rfl (okR_i ha rfl) fl_RX10_9 ?_
  refine v_aload_n (i := 0) (q := 9) hC dX10_copyFrom_8 rfl rfl rfl ?_
  refine v_aload_n (i := 1) (q := 10) hC dX10_copyFrom_9 rfl rfl rfl ?_
  refine g_X10_1 (q := 13) hC dX10_copyFrom_10 rfl (okR_i hb rfl) fl_RX10_15 ?_
  refine p_X10_1 (q := 16) hC dX10_copyFrom_13 rfl (okR_i ha rfl) fl_RX10_15 ?_
  refine v_aload_n (i := 1) (q := 17) hC dX10_copyFrom_16 rfl rfl rfl ?_
  refine g_X10_2 (q := 20) hC dX10_copyFrom_17 rfl (okR_i hb rfl) fl_RX10_18 ?_
  refine v_iconst (q := 21) (v := 0) hC dX10_copyFrom_20 rfl (by decide) ?_
  refine v_aload_n (i := 0) (q := 22) hC dX10_copyFrom_21 rfl rfl rfl ?_
  refine g_X10_2 (q := 25) hC dX10_copyFrom_22 rfl (okR_i ha rfl) fl_RX10_18 ?_
  refine v_iconst (q := 26) (v := 0) hC dX10_copyFrom_25 rfl (by decide) ?_
  refine v_bipush (q := 28) (v := 20) hC dX10_copyFrom_26 rfl (by decide) ?_
  refine v_acopy (q := 31) (N := 20) hC dX10_copyFrom_28 rfl ml_RX10_28 (okR_i hb rfl) (okR_i ha rfl) (kk := ?_)
  refine v_aload_n (i := 1) (q := 32) hC dX10_copyFrom_31 rfl rfl rfl ?_
  refine g_X10_3 (q := 35) hC dX10_copyFrom_32 rfl (okR_i hb rfl) fl_RX10_22 ?_
  refine v_iconst (q := 36) (v := 0) hC dX10_copyFrom_35 rfl (by decide) ?_
  refine v_aload_n (i := 0) (q := 37) hC dX10_copyFrom_36 rfl rfl rfl ?_
  refine g_X10_3 (q := 40) hC dX10_copyFrom_37 rfl (okR_i ha rfl) fl_RX10_22 ?_
  refine v_iconst (q := 41) (v := 0) hC dX10_copyFrom_40 rfl (by decide) ?_
  refine v_bipush (q := 43) (v := 20) hC dX10_copyFrom_41 rfl (by decide) ?_
  refine v_acopy (q := 46) (N := 20) hC dX10_copyFrom_43 rfl ml_RX10_28 (okR_i hb rfl) (okR_i ha rfl) (kk := ?_)
  refine v_aload_n (i := 1) (q := 47) hC dX10_copyFrom_46 rfl rfl rfl ?_
  refine g_X10_4 (q := 50) hC dX10_copyFrom_47 rfl (okR_i hb rfl) fl_RX10_25 ?_
  refine v_iconst (q := 51) (v := 0) hC dX10_copyFrom_50 rfl (by decide) ?_
  refine v_aload_n (i := 0) (q := 52) hC dX10_copyFrom_51 rfl rfl rfl ?_
  refine g_X10_4 (q := 55) hC dX10_copyFrom_52 rfl (okR_i ha rfl) fl_RX10_25 ?_
  refine v_iconst (q := 56) (v := 0) hC dX10_copyFrom_55 rfl (by decide) ?_
  refine v_bipush (q := 58) (v := 20) hC dX10_copyFrom_56 rfl (by decide) ?_
  refine v_acopy (q := 61) (N := 20) hC dX10_copyFrom_58 rfl ml_RX10_28 (okR_i hb rfl) (okR_i ha rfl) (kk := ?_)
  refine v_vret hC dX10_copyFrom_61 hr ?_ (Nat.le_of_ble_eq_true rfl) (Nat.le_of_ble_eq_true rfl)
  refine ⟨rfl, ?_⟩
  simp [cpTree, putF_get, putA_get, putA_fld, putF_row]
set_option maxHeartbeats 4000000 in
set_option maxRecDepth 20000 in
theorem c_X6_copyFrom {l : Launch} (hl : l.stackTraces = false) (Θ : cTH) (a b : Nat) (G : GS) (ha : okR G.2.2.1 a = true) (hb : okR G.2.2.1 b = true) : Ct l yX6_copyFrom cX6_copyFrom 2 none rm_X6_copyFrom Θ [.ref (tR Θ a 8), .ref (tR Θ b 8)] (G) (fR none (cpLists a b G)) := by
  refine ct_of (LS := [some (.ref (tR Θ a 8)), some (.ref (tR Θ b 8))]) hl (by decide +kernel) rfl (Nat.le_of_ble_eq_true rfl) rfl ?_
  intro p e s m args below meth c hC hr
  refine v_aload_n (i := 1) (q := 1) hC dX6_copyFrom_0 rfl rfl rfl ?_
  refine g_X6_0 (q := 4) hC dX6_copyFrom_1 rfl (okR_i hb rfl) fl_RX6_9 ?_
  refine v_iconst (q := 5) (v := 0) hC dX6_copyFrom_4 rfl (by decide) ?_
  refine v_aload_n (i := 0) (q := 6) hC dX6_copyFrom_5 rfl rfl rfl ?_
  refine g_X6_0 (q := 9) hC dX6_copyFrom_6 rfl (okR_i ha rfl) fl_RX6_9 ?_
  refine v_iconst (q := 10) (v := 0) hC dX6_copyFrom_9 rfl (by decide) ?_
  refine v_bipush (q := 12) (v := 20) hC dX6_copyFrom_10 rfl (by decide) ?_
  refine v_acopy (q := 15) (N := 20) hC dX6_copyFrom_12 rfl ml_RX6_18 (okR_i hb rfl) (okR_i ha rfl) (kk := ?_)
  refine v_aload_n (i := 1) (q := 16) hC dX6_copyFrom_15 rfl rfl rfl ?_
  refine g_X6_1 (q := 19) hC dX6_copyFrom_16 rfl (okR_i hb rfl) fl_RX6_15 ?_
  refine v_iconst (q := 20) (v := 0) hC dX6_copyFrom_19 rfl (by decide) ?_
  refine v_aload_n (i := 0) (q := 21) hC dX6_copyFrom_20 rfl rfl rfl ?_
  refine g_X6_1 (q := 24) hC dX6_copyFrom_21 rfl (okR_i ha rfl) fl_RX6_15 ?_
  refine v_iconst (q := 25) (v := 0) hC dX6_copyFrom_24 rfl (by decide) ?_
  refine v_bipush (q := 27) (v := 120) hC dX6_copyFrom_25 rfl (by decide) ?_
  refine v_acopy (q := 30) (N := 120) hC dX6_copyFrom_27 rfl ml_RX6_18 (okR_i hb rfl) (okR_i ha rfl) (kk := ?_)
  refine v_vret hC dX6_copyFrom_30 hr ?_ (Nat.le_of_ble_eq_true rfl) (Nat.le_of_ble_eq_true rfl)
  refine ⟨rfl, ?_⟩
  simp [cpLists, putF_get, putA_get, putA_fld, putF_row]
set_option maxHeartbeats 4000000 in
set_option maxRecDepth 20000 in
theorem c_X7_copyFrom {l : Launch} (hl : l.stackTraces = false) (Θ : cTH) (a b : Nat) (G : GS) (ha : okR G.2.2.1 a = true) (hb : okR G.2.2.1 b = true) : Ct l yX7_copyFrom cX7_copyFrom 2 none rm_X7_copyFrom Θ [.ref (tR Θ a 11), .ref (tR Θ b 11)] (G) (fR none (cpLog a b G)) := by
  refine ct_of (LS := [some (.ref (tR Θ a 11)), some (.ref (tR Θ b 11))]) hl (by decide +kernel) rfl (Nat.le_of_ble_eq_true rfl) rfl ?_
  intro p e s m args below meth c hC hr
  refine v_aload_n (i := 0) (q := 1) hC dX7_copyFrom_0 rfl rfl rfl ?_
  refine v_aload_n (i := 1) (q := 2) hC dX7_copyFrom_1 rfl rfl rfl ?_
  refine g_X7_0 (q := 5) hC dX7_copyFrom_2 rfl (okR_i hb rfl) fl_RX7_9 ?_
  refine p_X7_0 (q := 8) hC dX7_copyFrom_5 rfl (okR_i ha rfl) fl_RX7_9 ?_
  refine v_aload_n (i := 0) (q := 9) hC dX7_copyFrom_8 rfl rfl rfl ?_
  refine v_aload_n (i := 1) (q := 10) hC dX7_copyFrom_9 rfl rfl rfl ?_
  refine g_X7_1 (q := 13) hC dX7_copyFrom_10 rfl (okR_i hb rfl) fl_RX7_15 ?_
  refine p_X7_1 (q := 16) hC dX7_copyFrom_13 rfl (okR_i ha rfl) fl_RX7_15 ?_
  refine v_aload_n (i := 0) (q := 17) hC dX7_copyFrom_16 rfl rfl rfl ?_
  refine v_aload_n (i := 1) (q := 18) hC dX7_copyFrom_17 rfl rfl rfl ?_
  refine g_X7_2 (q := 21) hC dX7_copyFrom_18 rfl (okR_i hb rfl) fl_RX7_18 ?_
  refine p_X7_2 (q := 24) hC dX7_copyFrom_21 rfl (okR_i ha rfl) fl_RX7_18 ?_
  refine v_aload_n (i := 1) (q := 25) hC dX7_copyFrom_24 rfl rfl rfl ?_
  refine g_X7_3 (q := 28) hC dX7_copyFrom_25 rfl (okR_i hb rfl) fl_RX7_21 ?_
  refine v_iconst (q := 29) (v := 0) hC dX7_copyFrom_28 rfl (by decide) ?_
  refine v_aload_n (i := 0) (q := 30) hC dX7_copyFrom_29 rfl rfl rfl ?_
  refine g_X7_3 (q := 33) hC dX7_copyFrom_30 rfl (okR_i ha rfl) fl_RX7_21 ?_
  refine v_iconst (q := 34) (v := 0) hC dX7_copyFrom_33 rfl (by decide) ?_
  refine v_bipush (q := 36) (v := 8) hC dX7_copyFrom_34 rfl (by decide) ?_
  refine v_acopy (q := 39) (N := 8) hC dX7_copyFrom_36 rfl ml_RX7_28 (okR_i hb rfl) (okR_i ha rfl) (kk := ?_)
  refine v_aload_n (i := 1) (q := 40) hC dX7_copyFrom_39 rfl rfl rfl ?_
  refine g_X7_4 (q := 43) hC dX7_copyFrom_40 rfl (okR_i hb rfl) fl_RX7_25 ?_
  refine v_iconst (q := 44) (v := 0) hC dX7_copyFrom_43 rfl (by decide) ?_
  refine v_aload_n (i := 0) (q := 45) hC dX7_copyFrom_44 rfl rfl rfl ?_
  refine g_X7_4 (q := 48) hC dX7_copyFrom_45 rfl (okR_i ha rfl) fl_RX7_25 ?_
  refine v_iconst (q := 49) (v := 0) hC dX7_copyFrom_48 rfl (by decide) ?_
  refine v_bipush (q := 51) (v := 8) hC dX7_copyFrom_49 rfl (by decide) ?_
  refine v_acopy (q := 54) (N := 8) hC dX7_copyFrom_51 rfl ml_RX7_28 (okR_i hb rfl) (okR_i ha rfl) (kk := ?_)
  refine v_vret hC dX7_copyFrom_54 hr ?_ (Nat.le_of_ble_eq_true rfl) (Nat.le_of_ble_eq_true rfl)
  refine ⟨rfl, ?_⟩
  simp [cpLog, putF_get, putA_get, putA_fld, putF_row]
set_option maxHeartbeats 4000000 in
set_option maxRecDepth 20000 in
theorem c_X9_copyFrom {l : Launch} (hl : l.stackTraces = false) (Θ : cTH) (a b : Nat) (G : GS) (ha : okR G.2.2.1 a = true) (hb : okR G.2.2.1 b = true) : Ct l yX9_copyFrom cX9_copyFrom 2 none rm_X9_copyFrom Θ [.ref (tR Θ a 0), .ref (tR Θ b 0)] (G) (fR none (cpState a b G)) := by
  refine ct_of (LS := [some (.ref (tR Θ a 0)), some (.ref (tR Θ b 0))]) hl (by decide +kernel) rfl (Nat.le_of_ble_eq_true rfl) rfl ?_
  intro p e s m args below meth c hC hr
  refine v_aload_n (i := 1) (q := 1) hC dX9_copyFrom_0 rfl rfl rfl ?_
  refine v_ifnull (q := 4) hC dX9_copyFrom_1 rfl ?_
  refine v_aload_n (i := 0) (q := 5) hC dX9_copyFrom_4 rfl rfl rfl ?_
  refine g_X9_0 (q := 8) hC dX9_copyFrom_5 rfl (okR_i ha rfl) fl_RX9_12 ?_
  refine v_aload_n (i := 1) (q := 9) hC dX9_copyFrom_8 rfl rfl rfl ?_
  refine g_X9_0 (q := 12) hC dX9_copyFrom_9 rfl (okR_i hb rfl) fl_RX9_12 ?_
  refine v_callV (q := 15) (rm := rm_X0_copyFrom) hC (c_X0_copyFrom hl Θ a b _ ha hb) k_X0_copyFrom im_yX0_copyFrom se_yX0_copyFrom ml_RX9_39 dX9_copyFrom_12 rfl (okR_i ha rfl) rfl rfl rfl rfl (Nat.le_of_ble_eq_true rfl) ⟨Nat.le_of_ble_eq_true rfl, Nat.le_of_ble_eq_true rfl⟩ ⟨Nat.le_of_ble_eq_true rfl, Nat.le_of_ble_eq_true rfl⟩ (fR_k ?_) fR_x (Nat.le_of_ble_eq_true rfl) (Nat.le_of_ble_eq_true rfl)
  try dsimp only [Option.toList, List.cons_append, List.nil_append]
  refine v_aload_n (i := 0) (q := 16) hC dX9_copyFrom_15 rfl rfl rfl ?_
  refine g_X9_1 (q := 19) hC dX9_copyFrom_16 rfl (okR_i ha rfl) fl_RX9_21 ?_
  refine v_aload_n (i := 1) (q := 20) hC dX9_copyFrom_19 rfl rfl rfl ?_
  refine g_X9_1 (q := 23) hC dX9_copyFrom_20 rfl (okR_i hb rfl) fl_RX9_21 ?_
  refine v_callV (q := 26) (rm := rm_X10_copyFrom) hC (c_X10_copyFrom hl Θ a b _ ha hb) k_X10_copyFrom im_yX10_copyFrom se_yX10_copyFrom ml_RX9_43 dX9_copyFrom_23 rfl (okR_i ha rfl) rfl rfl rfl rfl (Nat.le_of_ble_eq_true rfl) ⟨Nat.le_of_ble_eq_true rfl, Nat.le_of_ble_eq_true rfl⟩ ⟨Nat.le_of_ble_eq_true rfl, Nat.le_of_ble_eq_true rfl⟩ (fR_k ?_) fR_x (Nat.le_of_ble_eq_true rfl) (Nat.le_of_ble_eq_true rfl)
  try dsimp only [Option.toList, List.cons_append, List.nil_append]
  refine v_aload_n (i := 0) (q := 27) hC dX9_copyFrom_26 rfl rfl rfl ?_
  refine g_X9_2 (q := 30) hC dX9_copyFrom_27 rfl (okR_i ha rfl) fl_RX9_28 ?_
  refine v_aload_n (i := 1) (q := 31) hC dX9_copyFrom_30 rfl rfl rfl ?_
  refine g_X9_2 (q := 34) hC dX9_copyFrom_31 rfl (okR_i hb rfl) fl_RX9_28 ?_
  refine v_callV (q := 37) (rm := rm_X6_copyFrom) hC (c_X6_copyFrom hl Θ a b _ ha hb) k_X6_copyFrom im_yX6_copyFrom se_yX6_copyFrom ml_RX9_46 dX9_copyFrom_34 rfl (okR_i ha rfl) rfl rfl rfl rfl (Nat.le_of_ble_eq_true rfl) ⟨Nat.le_of_ble_eq_true rfl, Nat.le_of_ble_eq_true rfl⟩ ⟨Nat.le_of_ble_eq_true rfl, Nat.le_of_ble_eq_true rfl⟩ (fR_k ?_) fR_x (Nat.le_of_ble_eq_true rfl) (Nat.le_of_ble_eq_true rfl)
  try dsimp only [Option.toList, List.cons_append, List.nil_append]
  refine v_aload_n (i := 0) (q := 38) hC dX9_copyFrom_37 rfl rfl rfl ?_
  refine g_X9_3 (q := 41) hC dX9_copyFrom_38 rfl (okR_i ha rfl) fl_RX9_35 ?_
  refine v_aload_n (i := 1) (q := 42) hC dX9_copyFrom_41 rfl rfl rfl ?_
  refine g_X9_3 (q := 45) hC dX9_copyFrom_42 rfl (okR_i hb rfl) fl_RX9_35 ?_
  refine v_callV (q := 48) (rm := rm_X7_copyFrom) hC (c_X7_copyFrom hl Θ a b _ ha hb) k_X7_copyFrom im_yX7_copyFrom se_yX7_copyFrom ml_RX9_49 dX9_copyFrom_45 rfl (okR_i ha rfl) rfl rfl rfl rfl (Nat.le_of_ble_eq_true rfl) ⟨Nat.le_of_ble_eq_true rfl, Nat.le_of_ble_eq_true rfl⟩ ⟨Nat.le_of_ble_eq_true rfl, Nat.le_of_ble_eq_true rfl⟩ (fR_k ?_) fR_x (Nat.le_of_ble_eq_true rfl) (Nat.le_of_ble_eq_true rfl)
  try dsimp only [Option.toList, List.cons_append, List.nil_append]
  refine v_vret hC dX9_copyFrom_48 hr ?_ (Nat.le_of_ble_eq_true rfl) (Nat.le_of_ble_eq_true rfl)
  exact ⟨rfl, rfl⟩
def sGr (t : Int32) (ow mk : Nat → Int32) (u o r d : Int32) : Bool := decide (u = 0) || ((decide (r = 3) && decide (tAt t ow o (-1) = u)) || (eAllows d && jHas (tAt t mk o 0) r))
set_option maxHeartbeats 4000000 in
set_option maxRecDepth 20000 in
theorem c_X9_grants {l : Launch} (hl : l.stackTraces = false) (Θ : cTH) (u o r d : Int32) (G : GS) : Ct l yX9_grants cX9_grants 5 (some .boolean) rm_X9_grants Θ [.ref (tR Θ 0 0), .int u, .int o, .int r, .int d] (G) (fR (some (.int (b2i (sGr (G.1 0 4 0) (G.2.1 0 6) (G.2.1 0 7) u o r d)))) G) := by
  refine ct_of (LS := [some (.ref (tR Θ 0 0)), some (.int u), some (.int o), some (.int r), some (.int d)]) hl (by decide +kernel) rfl (Nat.le_of_ble_eq_true rfl) rfl ?_
  intro p e s m args below meth c hC hr
  refine v_iload_n (i := 1) (q := 1) hC dX9_grants_0 rfl rfl rfl ?_
  refine v_if_eq (q := 44) (q2 := 4) hC dX9_grants_1 (by decide) rfl (fun c_1 => ?_) (fun c_1 => ?_)
  · refine v_iconst (q := 45) (v := 1) hC dX9_grants_44 rfl (by decide) ?_
    refine v_goto (q := 49) hC dX9_grants_45 (by decide) ?_
    refine v_iret hC dX9_grants_49 hr (by first | rfl | exact nar_b) ?_ (Nat.le_of_ble_eq_true rfl) (Nat.le_of_ble_eq_true rfl)
    exact ⟨by simp_all [sGr, b2i], rfl⟩
  · refine v_iload_n (i := 3) (q := 5) hC dX9_grants_4 rfl rfl rfl ?_
    refine v_iconst (q := 6) (v := 3) hC dX9_grants_5 rfl (by decide) ?_
    refine v_icmp_ne (q := 21) (q2 := 9) hC dX9_grants_6 (by decide) rfl (fun c_6 => ?_) (fun c_6 => ?_)
    · refine v_iload (q := 23) hC dX9_grants_21 rfl rfl ?_
      refine v_callS (q := 26) (rm := rm_X1_allows) hC (c_X1_allows hl Θ _ _) k_X1_allows st_yX1_allows ml_RX9_56 dX9_grants_23 rfl  rfl rfl (Nat.le_of_ble_eq_true rfl) ⟨Nat.le_of_ble_eq_true rfl, Nat.le_of_ble_eq_true rfl⟩ ⟨Nat.le_of_ble_eq_true rfl, Nat.le_of_ble_eq_true rfl⟩ (fR_k ?_) fR_x (Nat.le_of_ble_eq_true rfl) (Nat.le_of_ble_eq_true rfl)
      try dsimp only [Option.toList, List.cons_append, List.nil_append]
      refine v_ifb_eq (q := 48) (q2 := 29) hC dX9_grants_26 (by decide) rfl (fun c_26 => ?_) (fun c_26 => ?_)
      · refine v_iconst (q := 49) (v := 0) hC dX9_grants_48 rfl (by decide) ?_
        refine v_iret hC dX9_grants_49 hr (by first | rfl | exact nar_b) ?_ (Nat.le_of_ble_eq_true rfl) (Nat.le_of_ble_eq_true rfl)
        exact ⟨by simp_all [sGr, b2i], rfl⟩
      · refine v_aload_n (i := 0) (q := 30) hC dX9_grants_29 rfl rfl rfl ?_
        refine g_X9_1 (q := 33) hC dX9_grants_30 rfl rfl fl_RX9_21 ?_
        refine v_iload_n (i := 2) (q := 34) hC dX9_grants_33 rfl rfl rfl ?_
        refine v_callV (q := 37) (rm := rm_X10_maskAt) hC (c_X10_maskAt hl Θ _ _) k_X10_maskAt im_yX10_maskAt se_yX10_maskAt ml_RX9_62 dX9_grants_34 rfl rfl rfl rfl rfl rfl (Nat.le_of_ble_eq_true rfl) ⟨Nat.le_of_ble_eq_true rfl, Nat.le_of_ble_eq_true rfl⟩ ⟨Nat.le_of_ble_eq_true rfl, Nat.le_of_ble_eq_true rfl⟩ (fR_k ?_) fR_x (Nat.le_of_ble_eq_true rfl) (Nat.le_of_ble_eq_true rfl)
        try dsimp only [Option.toList, List.cons_append, List.nil_append]
        refine v_iload_n (i := 3) (q := 38) hC dX9_grants_37 rfl rfl rfl ?_
        refine v_callN (q := 41) (rm := rm_X11_has) hC (c_X11_has hl Θ _ _ _) k_X11_has st_yX11_has nl_RX9_65 dX9_grants_38 rfl  rfl rfl (Nat.le_of_ble_eq_true rfl) ⟨Nat.le_of_ble_eq_true rfl, Nat.le_of_ble_eq_true rfl⟩ ⟨Nat.le_of_ble_eq_true rfl, Nat.le_of_ble_eq_true rfl⟩ (fR_k ?_) fR_x (Nat.le_of_ble_eq_true rfl) (Nat.le_of_ble_eq_true rfl)
        try dsimp only [Option.toList, List.cons_append, List.nil_append]
        refine v_ifb_eq (q := 48) (q2 := 44) hC dX9_grants_41 (by decide) rfl (fun c_41 => ?_) (fun c_41 => ?_)
        · refine v_iconst (q := 49) (v := 0) hC dX9_grants_48 rfl (by decide) ?_
          refine v_iret hC dX9_grants_49 hr (by first | rfl | exact nar_b) ?_ (Nat.le_of_ble_eq_true rfl) (Nat.le_of_ble_eq_true rfl)
          exact ⟨by simp_all [sGr, b2i], rfl⟩
        · refine v_iconst (q := 45) (v := 1) hC dX9_grants_44 rfl (by decide) ?_
          refine v_goto (q := 49) hC dX9_grants_45 (by decide) ?_
          refine v_iret hC dX9_grants_49 hr (by first | rfl | exact nar_b) ?_ (Nat.le_of_ble_eq_true rfl) (Nat.le_of_ble_eq_true rfl)
          exact ⟨by simp_all [sGr, b2i], rfl⟩
    · refine v_aload_n (i := 0) (q := 10) hC dX9_grants_9 rfl rfl rfl ?_
      refine g_X9_1 (q := 13) hC dX9_grants_10 rfl rfl fl_RX9_21 ?_
      refine v_iload_n (i := 2) (q := 14) hC dX9_grants_13 rfl rfl rfl ?_
      refine v_callV (q := 17) (rm := rm_X10_ownerAt) hC (c_X10_ownerAt hl Θ _ _) k_X10_ownerAt im_yX10_ownerAt se_yX10_ownerAt ml_RX9_52 dX9_grants_14 rfl rfl rfl rfl rfl rfl (Nat.le_of_ble_eq_true rfl) ⟨Nat.le_of_ble_eq_true rfl, Nat.le_of_ble_eq_true rfl⟩ ⟨Nat.le_of_ble_eq_true rfl, Nat.le_of_ble_eq_true rfl⟩ (fR_k ?_) fR_x (Nat.le_of_ble_eq_true rfl) (Nat.le_of_ble_eq_true rfl)
      try dsimp only [Option.toList, List.cons_append, List.nil_append]
      refine v_iload_n (i := 1) (q := 18) hC dX9_grants_17 rfl rfl rfl ?_
      refine v_icmp_eq (q := 44) (q2 := 21) hC dX9_grants_18 (by decide) rfl (fun c_18 => ?_) (fun c_18 => ?_)
      · refine v_iconst (q := 45) (v := 1) hC dX9_grants_44 rfl (by decide) ?_
        refine v_goto (q := 49) hC dX9_grants_45 (by decide) ?_
        refine v_iret hC dX9_grants_49 hr (by first | rfl | exact nar_b) ?_ (Nat.le_of_ble_eq_true rfl) (Nat.le_of_ble_eq_true rfl)
        exact ⟨by simp_all [sGr, b2i], rfl⟩
      · refine v_iload (q := 23) hC dX9_grants_21 rfl rfl ?_
        refine v_callS (q := 26) (rm := rm_X1_allows) hC (c_X1_allows hl Θ _ _) k_X1_allows st_yX1_allows ml_RX9_56 dX9_grants_23 rfl  rfl rfl (Nat.le_of_ble_eq_true rfl) ⟨Nat.le_of_ble_eq_true rfl, Nat.le_of_ble_eq_true rfl⟩ ⟨Nat.le_of_ble_eq_true rfl, Nat.le_of_ble_eq_true rfl⟩ (fR_k ?_) fR_x (Nat.le_of_ble_eq_true rfl) (Nat.le_of_ble_eq_true rfl)
        try dsimp only [Option.toList, List.cons_append, List.nil_append]
        refine v_ifb_eq (q := 48) (q2 := 29) hC dX9_grants_26 (by decide) rfl (fun c_26 => ?_) (fun c_26 => ?_)
        · refine v_iconst (q := 49) (v := 0) hC dX9_grants_48 rfl (by decide) ?_
          refine v_iret hC dX9_grants_49 hr (by first | rfl | exact nar_b) ?_ (Nat.le_of_ble_eq_true rfl) (Nat.le_of_ble_eq_true rfl)
          exact ⟨by simp_all [sGr, b2i], rfl⟩
        · refine v_aload_n (i := 0) (q := 30) hC dX9_grants_29 rfl rfl rfl ?_
          refine g_X9_1 (q := 33) hC dX9_grants_30 rfl rfl fl_RX9_21 ?_
          refine v_iload_n (i := 2) (q := 34) hC dX9_grants_33 rfl rfl rfl ?_
          refine v_callV (q := 37) (rm := rm_X10_maskAt) hC (c_X10_maskAt hl Θ _ _) k_X10_maskAt im_yX10_maskAt se_yX10_maskAt ml_RX9_62 dX9_grants_34 rfl rfl rfl rfl rfl rfl (Nat.le_of_ble_eq_true rfl) ⟨Nat.le_of_ble_eq_true rfl, Nat.le_of_ble_eq_true rfl⟩ ⟨Nat.le_of_ble_eq_true rfl, Nat.le_of_ble_eq_true rfl⟩ (fR_k ?_) fR_x (Nat.le_of_ble_eq_true rfl) (Nat.le_of_ble_eq_true rfl)
          try dsimp only [Option.toList, List.cons_append, List.nil_append]
          refine v_iload_n (i := 3) (q := 38) hC dX9_grants_37 rfl rfl rfl ?_
          refine v_callN (q := 41) (rm := rm_X11_has) hC (c_X11_has hl Θ _ _ _) k_X11_has st_yX11_has nl_RX9_65 dX9_grants_38 rfl  rfl rfl (Nat.le_of_ble_eq_true rfl) ⟨Nat.le_of_ble_eq_true rfl, Nat.le_of_ble_eq_true rfl⟩ ⟨Nat.le_of_ble_eq_true rfl, Nat.le_of_ble_eq_true rfl⟩ (fR_k ?_) fR_x (Nat.le_of_ble_eq_true rfl) (Nat.le_of_ble_eq_true rfl)
          try dsimp only [Option.toList, List.cons_append, List.nil_append]
          refine v_ifb_eq (q := 48) (q2 := 44) hC dX9_grants_41 (by decide) rfl (fun c_41 => ?_) (fun c_41 => ?_)
          · refine v_iconst (q := 49) (v := 0) hC dX9_grants_48 rfl (by decide) ?_
            refine v_iret hC dX9_grants_49 hr (by first | rfl | exact nar_b) ?_ (Nat.le_of_ble_eq_true rfl) (Nat.le_of_ble_eq_true rfl)
            exact ⟨by simp_all [sGr, b2i], rfl⟩
          · refine v_iconst (q := 45) (v := 1) hC dX9_grants_44 rfl (by decide) ?_
            refine v_goto (q := 49) hC dX9_grants_45 (by decide) ?_
            refine v_iret hC dX9_grants_49 hr (by first | rfl | exact nar_b) ?_ (Nat.le_of_ble_eq_true rfl) (Nat.le_of_ble_eq_true rfl)
            exact ⟨by simp_all [sGr, b2i], rfl⟩
/-- History -/
theorem jMod5 (x : Int32) : vp_in (jMod x 5) 5 := jMod_in (by decide) rfl
theorem okR_5 {lv : Nat → Bool} (x : Int32) : okR lv ((jMod x 5).toNatClampNeg + 1) = true := by
  have h : (jMod x 5).toNatClampNeg < 5 := Nat.not_le.mp fun z => jMod5 x (Or.inr z)
  unfold okR
  rw [show Nat.blt ((jMod x 5).toNatClampNeg + 1) 6 = true from by rw [Nat.blt_eq]; omega]
  rfl
def sKeep (G : GS) : GS :=
  let G1 := if G.1 0 15 0 < 5 then G else putF (putF G 0 15 1 (jMod (G.1 0 15 1 + 1) 5)) 0 15 0 (G.1 0 15 0 - 1)
  putF (cpState ((jMod (G1.1 0 15 1 + G1.1 0 15 0) 5).toNatClampNeg + 1) 0 G1) 0 15 0 (G1.1 0 15 0 + 1)
theorem cpState_h (a b : Nat) (G : GS) : (cpState a b G).1 0 15 = G.1 0 15 := by
  funext j
  simp [cpState, cpLog, cpLists, cpTree, cpClub, putF_get, putA_fld]
set_option maxHeartbeats 4000000 in
set_option maxRecDepth 20000 in
theorem c_X3_keep {l : Launch} (hl : l.stackTraces = false) (Θ : cTH) (G : GS) : Ct l yX3_keep cX3_keep 3 none rm_X3_keep Θ [.ref (tR Θ 0 15), .ref (tR Θ 0 0)] (G) (fR none (sKeep G)) := by
  refine ct_of (LS := [some (.ref (tR Θ 0 15)), some (.ref (tR Θ 0 0)), none]) hl (by decide +kernel) rfl (Nat.le_of_ble_eq_true rfl) rfl ?_
  intro p e s m args below meth c hC hr
  refine v_aload_n (i := 0) (q := 1) hC dX3_keep_0 rfl rfl rfl ?_
  refine g_X3_0 (q := 4) hC dX3_keep_1 rfl rfl fl_RX3_9 ?_
  refine v_iconst (q := 5) (v := 5) hC dX3_keep_4 rfl (by decide) ?_
  refine v_icmp_lt (q := 32) (q2 := 8) hC dX3_keep_5 (by decide) rfl (fun c_5 => ?_) (fun c_5 => ?_)
  · refine v_aload_n (i := 0) (q := 33) hC dX3_keep_32 rfl rfl rfl ?_
    refine g_X3_2 (q := 36) hC dX3_keep_33 rfl rfl fl_RX3_20 ?_
    refine v_aload_n (i := 0) (q := 37) hC dX3_keep_36 rfl rfl rfl ?_
    refine g_X3_1 (q := 40) hC dX3_keep_37 rfl rfl fl_RX3_15 ?_
    refine v_aload_n (i := 0) (q := 41) hC dX3_keep_40 rfl rfl rfl ?_
    refine g_X3_0 (q := 44) hC dX3_keep_41 rfl rfl fl_RX3_9 ?_
    refine v_iadd (q := 45) hC dX3_keep_44 rfl ?_
    refine v_iconst (q := 46) (v := 5) hC dX3_keep_45 rfl (by decide) ?_
    refine v_callS (q := 49) (rm := rm_J9_floorMod_7cf53) hC (c_J9_floorMod_7cf53 hl Θ _ _ _ (by decide)) k_J9_floorMod_7cf53 st_yJ9_floorMod_7cf53 ml_RX3_25 dX3_keep_46 rfl  rfl rfl (Nat.le_of_ble_eq_true rfl) ⟨Nat.le_of_ble_eq_true rfl, Nat.le_of_ble_eq_true rfl⟩ ⟨Nat.le_of_ble_eq_true rfl, Nat.le_of_ble_eq_true rfl⟩ (fR_k ?_) fR_x (Nat.le_of_ble_eq_true rfl) (Nat.le_of_ble_eq_true rfl)
    try dsimp only [Option.toList, List.cons_append, List.nil_append]
    refine v_aald (q := 50) hC dX3_keep_49 rfl rfl rfl (jMod5 _) (rfl) ?_
    refine v_astore_n (i := 2) (q := 51) hC dX3_keep_50 rfl rfl (lvc rfl) (Nat.le_of_ble_eq_true rfl) (Nat.le_of_ble_eq_true rfl) rfl ?_
    refine v_aload_n (i := 2) (q := 52) hC dX3_keep_51 rfl rfl rfl ?_
    refine v_ifnull (q := 55) hC dX3_keep_52 rfl ?_
    refine v_aload_n (i := 2) (q := 56) hC dX3_keep_55 rfl rfl rfl ?_
    refine v_aload_n (i := 1) (q := 57) hC dX3_keep_56 rfl rfl rfl ?_
    refine v_callV (q := 60) (rm := rm_X9_copyFrom) hC (c_X9_copyFrom hl Θ _ 0 _ (okR_5 _) rfl) k_X9_copyFrom im_yX9_copyFrom se_yX9_copyFrom ml_RX3_31 dX3_keep_57 rfl (okR_i (okR_5 _) rfl) rfl rfl rfl rfl (Nat.le_of_ble_eq_true rfl) ⟨Nat.le_of_ble_eq_true rfl, Nat.le_of_ble_eq_true rfl⟩ ⟨Nat.le_of_ble_eq_true rfl, Nat.le_of_ble_eq_true rfl⟩ (fR_k ?_) fR_x (Nat.le_of_ble_eq_true rfl) (Nat.le_of_ble_eq_true rfl)
    try dsimp only [Option.toList, List.cons_append, List.nil_append]
    refine v_aload_n (i := 0) (q := 61) hC dX3_keep_60 rfl rfl rfl ?_
    refine v_dup (q := 62) hC dX3_keep_61 rfl rfl ?_
    refine g_X3_0 (q := 65) hC dX3_keep_62 rfl rfl fl_RX3_9 ?_
    refine v_iconst (q := 66) (v := 1) hC dX3_keep_65 rfl (by decide) ?_
    refine v_iadd (q := 67) hC dX3_keep_66 rfl ?_
    refine p_X3_0 (q := 70) hC dX3_keep_67 rfl rfl fl_RX3_9 ?_
    refine v_vret hC dX3_keep_70 hr ?_ (Nat.le_of_ble_eq_true rfl) (Nat.le_of_ble_eq_true rfl)
    refine ⟨rfl, ?_⟩
    simp only [sKeep, cpState_h, if_pos, if_neg, *]
    try rfl
  · refine v_aload_n (i := 0) (q := 9) hC dX3_keep_8 rfl rfl rfl ?_
    refine v_aload_n (i := 0) (q := 10) hC dX3_keep_9 rfl rfl rfl ?_
    refine g_X3_1 (q := 13) hC dX3_keep_10 rfl rfl fl_RX3_15 ?_
    refine v_iconst (q := 14) (v := 1) hC dX3_keep_13 rfl (by decide) ?_
    refine v_iadd (q := 15) hC dX3_keep_14 rfl ?_
    refine v_iconst (q := 16) (v := 5) hC dX3_keep_15 rfl (by decide) ?_
    refine v_callS (q := 19) (rm := rm_J9_floorMod_7cf53) hC (c_J9_floorMod_7cf53 hl Θ _ _ _ (by decide)) k_J9_floorMod_7cf53 st_yJ9_floorMod_7cf53 ml_RX3_25 dX3_keep_16 rfl  rfl rfl (Nat.le_of_ble_eq_true rfl) ⟨Nat.le_of_ble_eq_true rfl, Nat.le_of_ble_eq_true rfl⟩ ⟨Nat.le_of_ble_eq_true rfl, Nat.le_of_ble_eq_true rfl⟩ (fR_k ?_) fR_x (Nat.le_of_ble_eq_true rfl) (Nat.le_of_ble_eq_true rfl)
    try dsimp only [Option.toList, List.cons_append, List.nil_append]
    refine p_X3_1 (q := 22) hC dX3_keep_19 rfl rfl fl_RX3_15 ?_
    refine v_aload_n (i := 0) (q := 23) hC dX3_keep_22 rfl rfl rfl ?_
    refine v_dup (q := 24) hC dX3_keep_23 rfl rfl ?_
    refine g_X3_0 (q := 27) hC dX3_keep_24 rfl rfl fl_RX3_9 ?_
    refine v_iconst (q := 28) (v := 1) hC dX3_keep_27 rfl (by decide) ?_
    refine v_isub (q := 29) hC dX3_keep_28 rfl ?_
    refine p_X3_0 (q := 32) hC dX3_keep_29 rfl rfl fl_RX3_9 ?_
    refine v_aload_n (i := 0) (q := 33) hC dX3_keep_32 rfl rfl rfl ?_
    refine g_X3_2 (q := 36) hC dX3_keep_33 rfl rfl fl_RX3_20 ?_
    refine v_aload_n (i := 0) (q := 37) hC dX3_keep_36 rfl rfl rfl ?_
    refine g_X3_1 (q := 40) hC dX3_keep_37 rfl rfl fl_RX3_15 ?_
    refine v_aload_n (i := 0) (q := 41) hC dX3_keep_40 rfl rfl rfl ?_
    refine g_X3_0 (q := 44) hC dX3_keep_41 rfl rfl fl_RX3_9 ?_
    refine v_iadd (q := 45) hC dX3_keep_44 rfl ?_
    refine v_iconst (q := 46) (v := 5) hC dX3_keep_45 rfl (by decide) ?_
    refine v_callS (q := 49) (rm := rm_J9_floorMod_7cf53) hC (c_J9_floorMod_7cf53 hl Θ _ _ _ (by decide)) k_J9_floorMod_7cf53 st_yJ9_floorMod_7cf53 ml_RX3_25 dX3_keep_46 rfl  rfl rfl (Nat.le_of_ble_eq_true rfl) ⟨Nat.le_of_ble_eq_true rfl, Nat.le_of_ble_eq_true rfl⟩ ⟨Nat.le_of_ble_eq_true rfl, Nat.le_of_ble_eq_true rfl⟩ (fR_k ?_) fR_x (Nat.le_of_ble_eq_true rfl) (Nat.le_of_ble_eq_true rfl)
    try dsimp only [Option.toList, List.cons_append, List.nil_append]
    refine v_aald (q := 50) hC dX3_keep_49 rfl rfl rfl (jMod5 _) (rfl) ?_
    refine v_astore_n (i := 2) (q := 51) hC dX3_keep_50 rfl rfl (lvc rfl) (Nat.le_of_ble_eq_true rfl) (Nat.le_of_ble_eq_true rfl) rfl ?_
    refine v_aload_n (i := 2) (q := 52) hC dX3_keep_51 rfl rfl rfl ?_
    refine v_ifnull (q := 55) hC dX3_keep_52 rfl ?_
    refine v_aload_n (i := 2) (q := 56) hC dX3_keep_55 rfl rfl rfl ?_
    refine v_aload_n (i := 1) (q := 57) hC dX3_keep_56 rfl rfl rfl ?_
    refine v_callV (q := 60) (rm := rm_X9_copyFrom) hC (c_X9_copyFrom hl Θ _ 0 _ (okR_5 _) rfl) k_X9_copyFrom im_yX9_copyFrom se_yX9_copyFrom ml_RX3_31 dX3_keep_57 rfl (okR_i (okR_5 _) rfl) rfl rfl rfl rfl (Nat.le_of_ble_eq_true rfl) ⟨Nat.le_of_ble_eq_true rfl, Nat.le_of_ble_eq_true rfl⟩ ⟨Nat.le_of_ble_eq_true rfl, Nat.le_of_ble_eq_true rfl⟩ (fR_k ?_) fR_x (Nat.le_of_ble_eq_true rfl) (Nat.le_of_ble_eq_true rfl)
    try dsimp only [Option.toList, List.cons_append, List.nil_append]
    refine v_aload_n (i := 0) (q := 61) hC dX3_keep_60 rfl rfl rfl ?_
    refine v_dup (q := 62) hC dX3_keep_61 rfl rfl ?_
    refine g_X3_0 (q := 65) hC dX3_keep_62 rfl rfl fl_RX3_9 ?_
    refine v_iconst (q := 66) (v := 1) hC dX3_keep_65 rfl (by decide) ?_
    refine v_iadd (q := 67) hC dX3_keep_66 rfl ?_
    refine p_X3_0 (q := 70) hC dX3_keep_67 rfl rfl fl_RX3_9 ?_
    refine v_vret hC dX3_keep_70 hr ?_ (Nat.le_of_ble_eq_true rfl) (Nat.le_of_ble_eq_true rfl)
    refine ⟨rfl, ?_⟩
    simp only [sKeep, cpState_h, if_pos, if_neg, *]
    try rfl
def sBack (G : GS) : GS := cpState 0 ((jMod (G.1 0 15 1 + (G.1 0 15 0 - 1)) 5).toNatClampNeg + 1) (putF G 0 15 0 (G.1 0 15 0 - 1))
