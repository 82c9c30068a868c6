/-! The constructors, by program. -/
abbrev rz_X0 : Room := { frames := 1, locals := 20, cells := 2, slots := 20 }
set_option maxHeartbeats 4000000 in
set_option maxRecDepth 20000 in
theorem z_X0_init {l : Launch} (hl : l.stackTraces = false) (Θ : cTH) (w0 : va_W) (b : Nat) : Lt l yX0_init cX0_init 1 none rz_X0 Θ [.ref b] (w0 ++ [(b, .inr (0, [.int 0, .int 0, .null, .null]))]) (fun r w => r = none ∧ ∃ a1 a2 : Nat, w = w0 ++ [(b, .inr (0, [.int 1, .int 0, .ref a1, .ref a2])), (a1, .inl (tI Θ, 12, .inl (fun _ => 0))), (a2, .inl (tI Θ, 8, .inl (fun _ => 0)))]) := by
  refine lt_of (LS := [some (.ref b)]) hl (by decide +kernel) rfl (Nat.le_of_ble_eq_true rfl) rfl ?_
  intro p e s m args below meth c hC hO hnm hr
  refine z_aload_n (i := 0) (q := 1) hC dX0_init_0 rfl rfl rfl ?_
  refine z_objInit (q := 4) hC dX0_init_1 rfl ml_RX0_3 (Nat.le_of_ble_eq_true rfl) ⟨Nat.le_of_ble_eq_true rfl, Nat.le_of_ble_eq_true rfl⟩ ?_
  refine z_aload_n (i := 0) (q := 5) hC dX0_init_4 rfl rfl rfl ?_
  refine z_iconst (q := 6) (v := 1) hC dX0_init_5 rfl (by decide) ?_
  refine z_put (i := 0) (ci := 0) (j := 0) (N := 4) (T := TX0) (ty0 := tyX0) (q := 9) hC dX0_init_6 rfl rfl rfl inl0 tyX0_ok nmX0 (by decide) (tyX0_ok 0 (by decide)) rfl (Nat.le_of_ble_eq_true rfl) fl_RX0_9 rfl rfl rfl ?_
  refine z_aload_n (i := 0) (q := 10) hC dX0_init_9 rfl rfl rfl ?_
  refine z_iconst (q := 11) (v := 0) hC dX0_init_10 rfl (by decide) ?_
  refine z_put (i := 0) (ci := 0) (j := 1) (N := 4) (T := TX0) (ty0 := tyX0) (q := 14) hC dX0_init_11 rfl rfl rfl inl0 tyX0_ok nmX0 (by decide) (tyX0_ok 1 (by decide)) rfl (Nat.le_of_ble_eq_true rfl) fl_RX0_15 rfl rfl rfl ?_
  refine z_aload_n (i := 0) (q := 15) hC dX0_init_14 rfl rfl rfl ?_
  refine z_bipush (q := 17) (v := 12) hC dX0_init_15 rfl (by decide) ?_
  refine z_newi (N := 12) (q := 19) hC dX0_init_17 rfl (by decide) (by decide) (Nat.le_of_ble_eq_true rfl) (Nat.le_of_ble_eq_true rfl) (Nat.le_of_ble_eq_true rfl) (fun a1 => ?_)
  rw [List.append_assoc]
  refine z_putF (i := 0) (ci := 0) (j := 2) (N := 4) (T := TX0) (ty0 := tyX0) (q := 22) hC dX0_init_19 rfl rfl rfl inl0 tyX0_ok nmX0 (by decide) (tyX0_ok 2 (by decide)) rfl rfl (Nat.le_of_ble_eq_true rfl) fl_RX0_18 hnm rfl rfl rfl ?_
  refine z_aload_n (i := 0) (q := 23) hC dX0_init_22 rfl rfl rfl ?_
  refine z_bipush (q := 25) (v := 8) hC dX0_init_23 rfl (by decide) ?_
  refine z_newi (N := 8) (q := 27) hC dX0_init_25 rfl (by decide) (by decide) (Nat.le_of_ble_eq_true rfl) (Nat.le_of_ble_eq_true rfl) (Nat.le_of_ble_eq_true rfl) (fun a2 => ?_)
  rw [List.append_assoc]
  refine z_putF (i := 0) (ci := 0) (j := 3) (N := 4) (T := TX0) (ty0 := tyX0) (q := 30) hC dX0_init_27 rfl rfl rfl inl0 tyX0_ok nmX0 (by decide) (tyX0_ok 3 (by decide)) rfl rfl (Nat.le_of_ble_eq_true rfl) fl_RX0_22 hnm rfl rfl rfl ?_
  refine z_vret hC dX0_init_30 hr ?_ (Nat.le_of_ble_eq_true rfl) (Nat.le_of_ble_eq_true rfl)
  exact ⟨rfl, a1, a2, rfl⟩
abbrev rz_X10 : Room := { frames := 1, locals := 20, cells := 3, slots := 60 }
set_option maxHeartbeats 4000000 in
set_option maxRecDepth 20000 in
theorem z_X10_init {l : Launch} (hl : l.stackTraces = false) (Θ : cTH) (w0 : va_W) (b : Nat) : Lt l yX10_init cX10_init 1 none rz_X10 Θ [.ref b] (w0 ++ [(b, .inr (9, [.int 0, .int 0, .null, .null, .null]))]) (fun r w => r = none ∧ ∃ a1 a2 a3 : Nat, w = w0 ++ [(b, .inr (9, [.int 1, .int 1, .ref a1, .ref a2, .ref a3])), (a1, .inl (tI Θ, 20, .inl (upd (fun _ => 0) 0 (-1)))), (a2, .inl (tI Θ, 20, .inl (upd (fun _ => 0) 0 0))), (a3, .inl (tI Θ, 20, .inl (upd (fun _ => 0) 0 15)))]) := by
  refine lt_of (LS := [some (.ref b)]) hl (by decide +kernel) rfl (Nat.le_of_ble_eq_true rfl) rfl ?_
  intro p e s m args below meth c hC hO hnm hr
  refine z_aload_n (i := 0) (q := 1) hC dX10_init_0 rfl rfl rfl ?_
  refine z_objInit (q := 4) hC dX10_init_1 rfl ml_RX10_3 (Nat.le_of_ble_eq_true rfl) ⟨Nat.le_of_ble_eq_true rfl, Nat.le_of_ble_eq_true rfl⟩ ?_
  refine z_aload_n (i := 0) (q := 5) hC dX10_init_4 rfl rfl rfl ?_
  refine z_iconst (q := 6) (v := 1) hC dX10_init_5 rfl (by decide) ?_
  refine z_put (i := 0) (ci := 9) (j := 0) (N := 5) (T := TX10) (ty0 := tyX10) (q := 9) hC dX10_init_6 rfl rfl rfl inl10 tyX10_ok nmX10 (by decide) (tyX10_ok 0 (by decide)) rfl (Nat.le_of_ble_eq_true rfl) fl_RX10_9 rfl rfl rfl ?_
  refine z_aload_n (i := 0) (q := 10) hC dX10_init_9 rfl rfl rfl ?_
  refine z_iconst (q := 11) (v := 1) hC dX10_init_10 rfl (by decide) ?_
  refine z_put (i := 0) (ci := 9) (j := 1) (N := 5) (T := TX10) (ty0 := tyX10) (q := 14) hC dX10_init_11 rfl rfl rfl inl10 tyX10_ok nmX10 (by decide) (tyX10_ok 1 (by decide)) rfl (Nat.le_of_ble_eq_true rfl) fl_RX10_15 rfl rfl rfl ?_
  refine z_aload_n (i := 0) (q := 15) hC dX10_init_14 rfl rfl rfl ?_
  refine z_bipush (q := 17) (v := 20) hC dX10_init_15 rfl (by decide) ?_
  refine z_newi (N := 20) (q := 19) hC dX10_init_17 rfl (by decide) (by decide) (Nat.le_of_ble_eq_true rfl) (Nat.le_of_ble_eq_true rfl) (Nat.le_of_ble_eq_true rfl) (fun a1 => ?_)
  rw [List.append_assoc]
  refine z_putF (i := 0) (ci := 9) (j := 2) (N := 5) (T := TX10) (ty0 := tyX10) (q := 22) hC dX10_init_19 rfl rfl rfl inl10 tyX10_ok nmX10 (by decide) (tyX10_ok 2 (by decide)) rfl rfl (Nat.le_of_ble_eq_true rfl) fl_RX10_18 hnm rfl rfl rfl ?_
  refine z_aload_n (i := 0) (q := 23) hC dX10_init_22 rfl rfl rfl ?_
  refine z_bipush (q := 25) (v := 20) hC dX10_init_23 rfl (by decide) ?_
  refine z_newi (N := 20) (q := 27) hC dX10_init_25 rfl (by decide) (by decide) (Nat.le_of_ble_eq_true rfl) (Nat.le_of_ble_eq_true rfl) (Nat.le_of_ble_eq_true rfl) (fun a2 => ?_)
  rw [List.append_assoc]
  refine z_putF (i := 0) (ci := 9) (j := 3) (N := 5) (T := TX10) (ty0 := tyX10) (q := 30) hC dX10_init_27 rfl rfl rfl inl10 tyX10_ok nmX10 (by decide) (tyX10_ok 3 (by decide)) rfl rfl (Nat.le_of_ble_eq_true rfl) fl_RX10_22 hnm rfl rfl rfl ?_
  refine z_aload_n (i := 0) (q := 31) hC dX10_init_30 rfl rfl rfl ?_
  refine z_bipush (q := 33) (v := 20) hC dX10_init_31 rfl (by decide) ?_
  refine z_newi (N := 20) (q := 35) hC dX10_init_33 rfl (by decide) (by decide) (Nat.le_of_ble_eq_true rfl) (Nat.le_of_ble_eq_true rfl) (Nat.le_of_ble_eq_true rfl) (fun a3 => ?_)
  rw [List.append_assoc]
  refine z_putF (i := 0) (ci := 9) (j := 4) (N := 5) (T := TX10) (ty0 := tyX10) (q := 38) hC dX10_init_35 rfl rfl rfl inl10 tyX10_ok nmX10 (by decide) (tyX10_ok 4 (by decide)) rfl rfl (Nat.le_of_ble_eq_true rfl) fl_RX10_25 hnm rfl rfl rfl ?_
  refine z_aload_n (i := 0) (q := 39) hC dX10_init_38 rfl rfl rfl ?_
  refine z_get (i := 0) (ci := 9) (j := 2) (N := 5) (T := TX10) (q := 42) hC dX10_init_39 rfl rfl rfl inl10 (by decide) rfl fl_RX10_18 ?_
  refine z_iconst (q := 43) (v := 0) hC dX10_init_42 rfl (by decide) ?_
  refine z_iconst (q := 44) (v := (-1)) hC dX10_init_43 rfl (by decide) ?_
  refine z_iast (i := 1) (q := 45) hC dX10_init_44 rfl rfl (by unfold vp_in; decide) rfl ?_
  refine z_aload_n (i := 0) (q := 46) hC dX10_init_45 rfl rfl rfl ?_
  refine z_get (i := 0) (ci := 9) (j := 3) (N := 5) (T := TX10) (q := 49) hC dX10_init_46 rfl rfl rfl inl10 (by decide) rfl fl_RX10_22 ?_
  refine z_iconst (q := 50) (v := 0) hC dX10_init_49 rfl (by decide) ?_
  refine z_iconst (q := 51) (v := 0) hC dX10_init_50 rfl (by decide) ?_
  refine z_iast (i := 2) (q := 52) hC dX10_init_51 rfl rfl (by unfold vp_in; decide) rfl ?_
  refine z_aload_n (i := 0) (q := 53) hC dX10_init_52 rfl rfl rfl ?_
  refine z_get (i := 0) (ci := 9) (j := 4) (N := 5) (T := TX10) (q := 56) hC dX10_init_53 rfl rfl rfl inl10 (by decide) rfl fl_RX10_25 ?_
  refine z_iconst (q := 57) (v := 0) hC dX10_init_56 rfl (by decide) ?_
  refine z_bipush (q := 59) (v := 15) hC dX10_init_57 rfl (by decide) ?_
  refine z_iast (i := 3) (q := 60) hC dX10_init_59 rfl rfl (by unfold vp_in; decide) rfl ?_
  refine z_vret hC dX10_init_60 hr ?_ (Nat.le_of_ble_eq_true rfl) (Nat.le_of_ble_eq_true rfl)
  exact ⟨rfl, a1, a2, a3, rfl⟩
abbrev rz_X6 : Room := { frames := 1, locals := 20, cells := 2, slots := 140 }
set_option maxHeartbeats 4000000 in
set_option maxRecDepth 20000 in
theorem z_X6_init {l : Launch} (hl : l.stackTraces = false) (Θ : cTH) (w0 : va_W) (b : Nat) : Lt l yX6_init cX6_init 1 none rz_X6 Θ [.ref b] (w0 ++ [(b, .inr (5, [.null, .null]))]) (fun r w => r = none ∧ ∃ a1 a2 : Nat, w = w0 ++ [(b, .inr (5, [.ref a1, .ref a2])), (a1, .inl (tI Θ, 20, .inl (fun _ => 0))), (a2, .inl (tI Θ, 120, .inl (fun _ => 0)))]) := by
  refine lt_of (LS := [some (.ref b)]) hl (by decide +kernel) rfl (Nat.le_of_ble_eq_true rfl) rfl ?_
  intro p e s m args below meth c hC hO hnm hr
  refine z_aload_n (i := 0) (q := 1) hC dX6_init_0 rfl rfl rfl ?_
  refine z_objInit (q := 4) hC dX6_init_1 rfl ml_RX6_3 (Nat.le_of_ble_eq_true rfl) ⟨Nat.le_of_ble_eq_true rfl, Nat.le_of_ble_eq_true rfl⟩ ?_
  refine z_aload_n (i := 0) (q := 5) hC dX6_init_4 rfl rfl rfl ?_
  refine z_bipush (q := 7) (v := 20) hC dX6_init_5 rfl (by decide) ?_
  refine z_newi (N := 20) (q := 9) hC dX6_init_7 rfl (by decide) (by decide) (Nat.le_of_ble_eq_true rfl) (Nat.le_of_ble_eq_true rfl) (Nat.le_of_ble_eq_true rfl) (fun a1 => ?_)
  rw [List.append_assoc]
  refine z_putF (i := 0) (ci := 5) (j := 0) (N := 2) (T := TX6) (ty0 := tyX6) (q := 12) hC dX6_init_9 rfl rfl rfl inl6 tyX6_ok nmX6 (by decide) (tyX6_ok 0 (by decide)) rfl rfl (Nat.le_of_ble_eq_true rfl) fl_RX6_9 hnm rfl rfl rfl ?_
  refine z_aload_n (i := 0) (q := 13) hC dX6_init_12 rfl rfl rfl ?_
  refine z_bipush (q := 15) (v := 120) hC dX6_init_13 rfl (by decide) ?_
  refine z_newi (N := 120) (q := 17) hC dX6_init_15 rfl (by decide) (by decide) (Nat.le_of_ble_eq_true rfl) (Nat.le_of_ble_eq_true rfl) (Nat.le_of_ble_eq_true rfl) (fun a2 => ?_)
  rw [List.append_assoc]
  refine z_putF (i := 0) (ci := 5) (j := 1) (N := 2) (T := TX6) (ty0 := tyX6) (q := 20) hC dX6_init_17 rfl rfl rfl inl6 tyX6_ok nmX6 (by decide) (tyX6_ok 1 (by decide)) rfl rfl (Nat.le_of_ble_eq_true rfl) fl_RX6_15 hnm rfl rfl rfl ?_
  refine z_vret hC dX6_init_20 hr ?_ (Nat.le_of_ble_eq_true rfl) (Nat.le_of_ble_eq_true rfl)
  exact ⟨rfl, a1, a2, rfl⟩
abbrev rz_X7 : Room := { frames := 1, locals := 20, cells := 2, slots := 16 }
set_option maxHeartbeats 4000000 in
set_option maxRecDepth 20000 in
theorem z_X7_init {l : Launch} (hl : l.stackTraces = false) (Θ : cTH) (w0 : va_W) (b : Nat) : Lt l yX7_init cX7_init 1 none rz_X7 Θ [.ref b] (w0 ++ [(b, .inr (6, [.int 0, .int 0, .int 0, .null, .null]))]) (fun r w => r = none ∧ ∃ a1 a2 : Nat, w = w0 ++ [(b, .inr (6, [.int 0, .int 0, .int 0, .ref a1, .ref a2])), (a1, .inl (tI Θ, 8, .inl (fun _ => 0))), (a2, .inl (tI Θ, 8, .inl (fun _ => 0)))]) := by
  refine lt_of (LS := [some (.ref b)]) hl (by decide +kernel) rfl (Nat.le_of_ble_eq_true rfl) rfl ?_
  intro p e s m args below meth c hC hO hnm hr
  refine z_aload_n (i := 0) (q := 1) hC dX7_init_0 rfl rfl rfl ?_
  refine z_objInit (q := 4) hC dX7_init_1 rfl ml_RX7_3 (Nat.le_of_ble_eq_true rfl) ⟨Nat.le_of_ble_eq_true rfl, Nat.le_of_ble_eq_true rfl⟩ ?_
  refine z_aload_n (i := 0) (q := 5) hC dX7_init_4 rfl rfl rfl ?_
  refine z_iconst (q := 6) (v := 0) hC dX7_init_5 rfl (by decide) ?_
  refine z_put (i := 0) (ci := 6) (j := 0) (N := 5) (T := TX7) (ty0 := tyX7) (q := 9) hC dX7_init_6 rfl rfl rfl inl7 tyX7_ok nmX7 (by decide) (tyX7_ok 0 (by decide)) rfl (Nat.le_of_ble_eq_true rfl) fl_RX7_9 rfl rfl rfl ?_
  refine z_aload_n (i := 0) (q := 10) hC dX7_init_9 rfl rfl rfl ?_
  refine z_iconst (q := 11) (v := 0) hC dX7_init_10 rfl (by decide) ?_
  refine z_put (i := 0) (ci := 6) (j := 1) (N := 5) (T := TX7) (ty0 := tyX7) (q := 14) hC dX7_init_11 rfl rfl rfl inl7 tyX7_ok nmX7 (by decide) (tyX7_ok 1 (by decide)) rfl (Nat.le_of_ble_eq_true rfl) fl_RX7_15 rfl rfl rfl ?_
  refine z_aload_n (i := 0) (q := 15) hC dX7_init_14 rfl rfl rfl ?_
  refine z_iconst (q := 16) (v := 0) hC dX7_init_15 rfl (by decide) ?_
  refine z_put (i := 0) (ci := 6) (j := 2) (N := 5) (T := TX7) (ty0 := tyX7) (q := 19) hC dX7_init_16 rfl rfl rfl inl7 tyX7_ok nmX7 (by decide) (tyX7_ok 2 (by decide)) rfl (Nat.le_of_ble_eq_true rfl) fl_RX7_18 rfl rfl rfl ?_
  refine z_aload_n (i := 0) (q := 20) hC dX7_init_19 rfl rfl rfl ?_
  refine z_bipush (q := 22) (v := 8) hC dX7_init_20 rfl (by decide) ?_
  refine z_newi (N := 8) (q := 24) hC dX7_init_22 rfl (by decide) (by decide) (Nat.le_of_ble_eq_true rfl) (Nat.le_of_ble_eq_true rfl) (Nat.le_of_ble_eq_true rfl) (fun a1 => ?_)
  rw [List.append_assoc]
  refine z_putF (i := 0) (ci := 6) (j := 3) (N := 5) (T := TX7) (ty0 := tyX7) (q := 27) hC dX7_init_24 rfl rfl rfl inl7 tyX7_ok nmX7 (by decide) (tyX7_ok 3 (by decide)) rfl rfl (Nat.le_of_ble_eq_true rfl) fl_RX7_21 hnm rfl rfl rfl ?_
  refine z_aload_n (i := 0) (q := 28) hC dX7_init_27 rfl rfl rfl ?_
  refine z_bipush (q := 30) (v := 8) hC dX7_init_28 rfl (by decide) ?_
  refine z_newi (N := 8) (q := 32) hC dX7_init_30 rfl (by decide) (by decide) (Nat.le_of_ble_eq_true rfl) (Nat.le_of_ble_eq_true rfl) (Nat.le_of_ble_eq_true rfl) (fun a2 => ?_)
  rw [List.append_assoc]
  refine z_putF (i := 0) (ci := 6) (j := 4) (N := 5) (T := TX7) (ty0 := tyX7) (q := 35) hC dX7_init_32 rfl rfl rfl inl7 tyX7_ok nmX7 (by decide) (tyX7_ok 4 (by decide)) rfl rfl (Nat.le_of_ble_eq_true rfl) fl_RX7_25 hnm rfl rfl rfl ?_
  refine z_vret hC dX7_init_35 hr ?_ (Nat.le_of_ble_eq_true rfl) (Nat.le_of_ble_eq_true rfl)
  exact ⟨rfl, a1, a2, rfl⟩
abbrev rz_X4 : Room := { frames := 1, locals := 20, cells := 3, slots := 248 }
set_option maxHeartbeats 4000000 in
set_option maxRecDepth 20000 in
theorem z_X4_init {l : Launch} (hl : l.stackTraces = false) (Θ : cTH) (w0 : va_W) (b : Nat) : Lt l yX4_init cX4_init 1 none rz_X4 Θ [.ref b] (w0 ++ [(b, .inr (3, [.null, .null, .null]))]) (fun r w => r = none ∧ ∃ a1 a2 a3 : Nat, w = w0 ++ [(b, .inr (3, [.ref a1, .ref a2, .ref a3])), (a1, .inl (tI Θ, 4, .inl (fun _ => 0))), (a2, .inl (tI Θ, 4, .inl (fun _ => 0))), (a3, .inl (tI Θ, 240, .inl (fun _ => 0)))]) := by
  refine lt_of (LS := [some (.ref b)]) hl (by decide +kernel) rfl (Nat.le_of_ble_eq_true rfl) rfl ?_
  intro p e s m args below meth c hC hO hnm hr
  refine z_aload_n (i := 0) (q := 1) hC dX4_init_0 rfl rfl rfl ?_
  refine z_objInit (q := 4) hC dX4_init_1 rfl ml_RX4_3 (Nat.le_of_ble_eq_true rfl) ⟨Nat.le_of_ble_eq_true rfl, Nat.le_of_ble_eq_true rfl⟩ ?_
  refine z_aload_n (i := 0) (q := 5) hC dX4_init_4 rfl rfl rfl ?_
  refine z_iconst (q := 6) (v := 4) hC dX4_init_5 rfl (by decide) ?_
  refine z_newi (N := 4) (q := 8) hC dX4_init_6 rfl (by decide) (by decide) (Nat.le_of_ble_eq_true rfl) (Nat.le_of_ble_eq_true rfl) (Nat.le_of_ble_eq_true rfl) (fun a1 => ?_)
  rw [List.append_assoc]
  refine z_putF (i := 0) (ci := 3) (j := 0) (N := 3) (T := TX4) (ty0 := tyX4) (q := 11) hC dX4_init_8 rfl rfl rfl inl4 tyX4_ok nmX4 (by decide) (tyX4_ok 0 (by decide)) rfl rfl (Nat.le_of_ble_eq_true rfl) fl_RX4_9 hnm rfl rfl rfl ?_
  refine z_aload_n (i := 0) (q := 12) hC dX4_init_11 rfl rfl rfl ?_
  refine z_iconst (q := 13) (v := 4) hC dX4_init_12 rfl (by decide) ?_
  refine z_newi (N := 4) (q := 15) hC dX4_init_13 rfl (by decide) (by decide) (Nat.le_of_ble_eq_true rfl) (Nat.le_of_ble_eq_true rfl) (Nat.le_of_ble_eq_true rfl) (fun a2 => ?_)
  rw [List.append_assoc]
  refine z_putF (i := 0) (ci := 3) (j := 1) (N := 3) (T := TX4) (ty0 := tyX4) (q := 18) hC dX4_init_15 rfl rfl rfl inl4 tyX4_ok nmX4 (by decide) (tyX4_ok 1 (by decide)) rfl rfl (Nat.le_of_ble_eq_true rfl) fl_RX4_15 hnm rfl rfl rfl ?_
  refine z_aload_n (i := 0) (q := 19) hC dX4_init_18 rfl rfl rfl ?_
  refine z_sipush (q := 22) (v := 240) hC dX4_init_19 rfl (by decide) ?_
  refine z_newi (N := 240) (q := 24) hC dX4_init_22 rfl (by decide) (by decide) (Nat.le_of_ble_eq_true rfl) (Nat.le_of_ble_eq_true rfl) (Nat.le_of_ble_eq_true rfl) (fun a3 => ?_)
  rw [List.append_assoc]
  refine z_putF (i := 0) (ci := 3) (j := 2) (N := 3) (T := TX4) (ty0 := tyX4) (q := 27) hC dX4_init_24 rfl rfl rfl inl4 tyX4_ok nmX4 (by decide) (tyX4_ok 2 (by decide)) rfl rfl (Nat.le_of_ble_eq_true rfl) fl_RX4_18 hnm rfl rfl rfl ?_
  refine z_vret hC dX4_init_27 hr ?_ (Nat.le_of_ble_eq_true rfl) (Nat.le_of_ble_eq_true rfl)
  exact ⟨rfl, a1, a2, a3, rfl⟩
abbrev rz_X2 : Room := { frames := 1, locals := 20, cells := 2, slots := 2420 }
set_option maxHeartbeats 4000000 in
set_option maxRecDepth 20000 in
theorem z_X2_init {l : Launch} (hl : l.stackTraces = false) (Θ : cTH) (w0 : va_W) (b : Nat) : Lt l yX2_init cX2_init 1 none rz_X2 Θ [.ref b] (w0 ++ [(b, .inr (1, [.int 0, .null, .null]))]) (fun r w => r = none ∧ ∃ a1 a2 : Nat, w = w0 ++ [(b, .inr (1, [.int 0, .ref a1, .ref a2])), (a1, .inl (tI Θ, 20, .inl (fun _ => 0))), (a2, .inl (tI Θ, 2400, .inl (fun _ => 0)))]) := by
  refine lt_of (LS := [some (.ref b)]) hl (by decide +kernel) rfl (Nat.le_of_ble_eq_true rfl) rfl ?_
  intro p e s m args below meth c hC hO hnm hr
  refine z_aload_n (i := 0) (q := 1) hC dX2_init_0 rfl rfl rfl ?_
  refine z_objInit (q := 4) hC dX2_init_1 rfl ml_RX2_3 (Nat.le_of_ble_eq_true rfl) ⟨Nat.le_of_ble_eq_true rfl, Nat.le_of_ble_eq_true rfl⟩ ?_
  refine z_aload_n (i := 0) (q := 5) hC dX2_init_4 rfl rfl rfl ?_
  refine z_iconst (q := 6) (v := 0) hC dX2_init_5 rfl (by decide) ?_
  refine z_put (i := 0) (ci := 1) (j := 0) (N := 3) (T := TX2) (ty0 := tyX2) (q := 9) hC dX2_init_6 rfl rfl rfl inl2 tyX2_ok nmX2 (by decide) (tyX2_ok 0 (by decide)) rfl (Nat.le_of_ble_eq_true rfl) fl_RX2_9 rfl rfl rfl ?_
  refine z_aload_n (i := 0) (q := 10) hC dX2_init_9 rfl rfl rfl ?_
  refine z_bipush (q := 12) (v := 20) hC dX2_init_10 rfl (by decide) ?_
  refine z_newi (N := 20) (q := 14) hC dX2_init_12 rfl (by decide) (by decide) (Nat.le_of_ble_eq_true rfl) (Nat.le_of_ble_eq_true rfl) (Nat.le_of_ble_eq_true rfl) (fun a1 => ?_)
  rw [List.append_assoc]
  refine z_putF (i := 0) (ci := 1) (j := 1) (N := 3) (T := TX2) (ty0 := tyX2) (q := 17) hC dX2_init_14 rfl rfl rfl inl2 tyX2_ok nmX2 (by decide) (tyX2_ok 1 (by decide)) rfl rfl (Nat.le_of_ble_eq_true rfl) fl_RX2_15 hnm rfl rfl rfl ?_
  refine z_aload_n (i := 0) (q := 18) hC dX2_init_17 rfl rfl rfl ?_
  refine z_sipush (q := 21) (v := 2400) hC dX2_init_18 rfl (by decide) ?_
  refine z_newi (N := 2400) (q := 23) hC dX2_init_21 rfl (by decide) (by decide) (Nat.le_of_ble_eq_true rfl) (Nat.le_of_ble_eq_true rfl) (Nat.le_of_ble_eq_true rfl) (fun a2 => ?_)
  rw [List.append_assoc]
  refine z_putF (i := 0) (ci := 1) (j := 2) (N := 3) (T := TX2) (ty0 := tyX2) (q := 26) hC dX2_init_23 rfl rfl rfl inl2 tyX2_ok nmX2 (by decide) (tyX2_ok 2 (by decide)) rfl rfl (Nat.le_of_ble_eq_true rfl) fl_RX2_19 hnm rfl rfl rfl ?_
  refine z_vret hC dX2_init_26 hr ?_ (Nat.le_of_ble_eq_true rfl) (Nat.le_of_ble_eq_true rfl)
  exact ⟨rfl, a1, a2, rfl⟩
abbrev rz_X8 : Room := { frames := 1, locals := 20, cells := 1, slots := 80 }
set_option maxHeartbeats 4000000 in
set_option maxRecDepth 20000 in
theorem z_X8_init {l : Launch} (hl : l.stackTraces = false) (Θ : cTH) (w0 : va_W) (b : Nat) : Lt l yX8_init cX8_init 1 none rz_X8 Θ [.ref b] (w0 ++ [(b, .inr (7, [.int 0, .null]))]) (fun r w => r = none ∧ ∃ a1 : Nat, w = w0 ++ [(b, .inr (7, [.int 0, .ref a1])), (a1, .inl (tI Θ, 80, .inl (fun _ => 0)))]) := by
  refine lt_of (LS := [some (.ref b)]) hl (by decide +kernel) rfl (Nat.le_of_ble_eq_true rfl) rfl ?_
  intro p e s m args below meth c hC hO hnm hr
  refine z_aload_n (i := 0) (q := 1) hC dX8_init_0 rfl rfl rfl ?_
  refine z_objInit (q := 4) hC dX8_init_1 rfl ml_RX8_3 (Nat.le_of_ble_eq_true rfl) ⟨Nat.le_of_ble_eq_true rfl, Nat.le_of_ble_eq_true rfl⟩ ?_
  refine z_aload_n (i := 0) (q := 5) hC dX8_init_4 rfl rfl rfl ?_
  refine z_iconst (q := 6) (v := 0) hC dX8_init_5 rfl (by decide) ?_
  refine z_put (i := 0) (ci := 7) (j := 0) (N := 2) (T := TX8) (ty0 := tyX8) (q := 9) hC dX8_init_6 rfl rfl rfl inl8 tyX8_ok nmX8 (by decide) (tyX8_ok 0 (by decide)) rfl (Nat.le_of_ble_eq_true rfl) fl_RX8_9 rfl rfl rfl ?_
  refine z_aload_n (i := 0) (q := 10) hC dX8_init_9 rfl rfl rfl ?_
  refine z_bipush (q := 12) (v := 80) hC dX8_init_10 rfl (by decide) ?_
  refine z_newi (N := 80) (q := 14) hC dX8_init_12 rfl (by decide) (by decide) (Nat.le_of_ble_eq_true rfl) (Nat.le_of_ble_eq_true rfl) (Nat.le_of_ble_eq_true rfl) (fun a1 => ?_)
  rw [List.append_assoc]
  refine z_putF (i := 0) (ci := 7) (j := 1) (N := 2) (T := TX8) (ty0 := tyX8) (q := 17) hC dX8_init_14 rfl rfl rfl inl8 tyX8_ok nmX8 (by decide) (tyX8_ok 1 (by decide)) rfl rfl (Nat.le_of_ble_eq_true rfl) fl_RX8_15 hnm rfl rfl rfl ?_
  refine z_vret hC dX8_init_17 hr ?_ (Nat.le_of_ble_eq_true rfl) (Nat.le_of_ble_eq_true rfl)
  exact ⟨rfl, a1, rfl⟩
abbrev rz_X5 : Room := { frames := 1, locals := 20, cells := 1, slots := 6 }
set_option maxHeartbeats 4000000 in
set_option maxRecDepth 20000 in
theorem z_X5_init {l : Launch} (hl : l.stackTraces = false) (Θ : cTH) (w0 : va_W) (b : Nat) : Lt l yX5_init cX5_init 1 none rz_X5 Θ [.ref b] (w0 ++ [(b, .inr (4, [.int 0, .int 0, .int 0, .null]))]) (fun r w => r = none ∧ ∃ a1 : Nat, w = w0 ++ [(b, .inr (4, [.int 0, .int (-1), .int 0, .ref a1])), (a1, .inl (tI Θ, 6, .inl (fun _ => 0)))]) := by
  refine lt_of (LS := [some (.ref b)]) hl (by decide +kernel) rfl (Nat.le_of_ble_eq_true rfl) rfl ?_
  intro p e s m args below meth c hC hO hnm hr
  refine z_aload_n (i := 0) (q := 1) hC dX5_init_0 rfl rfl rfl ?_
  refine z_objInit (q := 4) hC dX5_init_1 rfl ml_RX5_3 (Nat.le_of_ble_eq_true rfl) ⟨Nat.le_of_ble_eq_true rfl, Nat.le_of_ble_eq_true rfl⟩ ?_
  refine z_aload_n (i := 0) (q := 5) hC dX5_init_4 rfl rfl rfl ?_
  refine z_iconst (q := 6) (v := 0) hC dX5_init_5 rfl (by decide) ?_
  refine z_put (i := 0) (ci := 4) (j := 0) (N := 4) (T := TX5) (ty0 := tyX5) (q := 9) hC dX5_init_6 rfl rfl rfl inl5 tyX5_ok nmX5 (by decide) (tyX5_ok 0 (by decide)) rfl (Nat.le_of_ble_eq_true rfl) fl_RX5_9 rfl rfl rfl ?_
  refine z_aload_n (i := 0) (q := 10) hC dX5_init_9 rfl rfl rfl ?_
  refine z_iconst (q := 11) (v := (-1)) hC dX5_init_10 rfl (by decide) ?_
  refine z_put (i := 0) (ci := 4) (j := 1) (N := 4) (T := TX5) (ty0 := tyX5) (q := 14) hC dX5_init_11 rfl rfl rfl inl5 tyX5_ok nmX5 (by decide) (tyX5_ok 1 (by decide)) rfl (Nat.le_of_ble_eq_true rfl) fl_RX5_15 rfl rfl rfl ?_
  refine z_aload_n (i := 0) (q := 15) hC dX5_init_14 rfl rfl rfl ?_
  refine z_iconst (q := 16) (v := 0) hC dX5_init_15 rfl (by decide) ?_
  refine z_put (i := 0) (ci := 4) (j := 2) (N := 4) (T := TX5) (ty0 := tyX5) (q := 19) hC dX5_init_16 rfl rfl rfl inl5 tyX5_ok nmX5 (by decide) (tyX5_ok 2 (by decide)) rfl (Nat.le_of_ble_eq_true rfl) fl_RX5_18 rfl rfl rfl ?_
  refine z_aload_n (i := 0) (q := 20) hC dX5_init_19 rfl rfl rfl ?_
  refine z_bipush (q := 22) (v := 6) hC dX5_init_20 rfl (by decide) ?_
  refine z_newi (N := 6) (q := 24) hC dX5_init_22 rfl (by decide) (by decide) (Nat.le_of_ble_eq_true rfl) (Nat.le_of_ble_eq_true rfl) (Nat.le_of_ble_eq_true rfl) (fun a1 => ?_)
  rw [List.append_assoc]
  refine z_putF (i := 0) (ci := 4) (j := 3) (N := 4) (T := TX5) (ty0 := tyX5) (q := 27) hC dX5_init_24 rfl rfl rfl inl5 tyX5_ok nmX5 (by decide) (tyX5_ok 3 (by decide)) rfl rfl (Nat.le_of_ble_eq_true rfl) fl_RX5_21 hnm rfl rfl rfl ?_
  refine z_vret hC dX5_init_27 hr ?_ (Nat.le_of_ble_eq_true rfl) (Nat.le_of_ble_eq_true rfl)
  exact ⟨rfl, a1, rfl⟩
/-- a new State's cells -/
def stL (Θ : cTH) (f : Nat → Nat) : va_W := [(f 0, .inr (8, [.ref (f 1), .ref (f 4), .ref (f 8), .ref (f 11)])), (f 1, .inr (0, [.int 1, .int 0, .ref (f 2), .ref (f 3)])), (f 2, .inl (tI Θ, 12, .inl (fun _ => 0))), (f 3, .inl (tI Θ, 8, .inl (fun _ => 0))), (f 4, .inr (9, [.int 1, .int 1, .ref (f 5), .ref (f 6), .ref (f 7)])), (f 5, .inl (tI Θ, 20, .inl (upd (fun _ => 0) 0 (-1)))), (f 6, .inl (tI Θ, 20, .inl (upd (fun _ => 0) 0 0))), (f 7, .inl (tI Θ, 20, .inl (upd (fun _ => 0) 0 15))), (f 8, .inr (5, [.ref (f 9), .ref (f 10)])), (f 9, .inl (tI Θ, 20, .inl (fun _ => 0))), (f 10, .inl (tI Θ, 120, .inl (fun _ => 0))), (f 11, .inr (6, [.int 0, .int 0, .int 0, .ref (f 12), .ref (f 13)])), (f 12, .inl (tI Θ, 8, .inl (fun _ => 0))), (f 13, .inl (tI Θ, 8, .inl (fun _ => 0)))]
abbrev rz_X9 : Room := { frames := 2, locals := 40, cells := 13, slots := 252 }
set_option maxHeartbeats 4000000 in
set_option maxRecDepth 20000 in
theorem z_X9_init {l : Launch} (hl : l.stackTraces = false) (Θ : cTH) (w0 : va_W) (b : Nat) : Lt l yX9_init cX9_init 1 none rz_X9 Θ [.ref b] (w0 ++ [(b, .inr (8, [.null, .null, .null, .null]))]) (fun r w => r = none ∧ ∃ f : Nat → Nat, f 0 = b ∧ w = w0 ++ stL Θ f) := by
  refine lt_of (LS := [some (.ref b)]) hl (by decide +kernel) rfl (Nat.le_of_ble_eq_true rfl) rfl ?_
  intro p e s m args below meth c hC hO hnm hr
  refine z_aload_n (i := 0) (q := 1) hC dX9_init_0 rfl rfl rfl ?_
  refine z_objInit (q := 4) hC dX9_init_1 rfl ml_RX9_3 (Nat.le_of_ble_eq_true rfl) ⟨Nat.le_of_ble_eq_true rfl, Nat.le_of_ble_eq_true rfl⟩ ?_
  refine z_aload_n (i := 0) (q := 5) hC dX9_init_4 rfl rfl rfl ?_
  refine z_new (ci := 0) (C := RX0) (T := TX0) (N := 4) (ty := tyX0) (fs := [.int 0, .int 0, .null, .null]) (q := 8) hC dX9_init_5 rfl rfl inl0 cl_RX9_9 ia_RX0 in_RX0 tyX0_ok (fun j hj => by rcases (show j = 0 ∨ j = 1 ∨ j = 2 ∨ j = 3 by omega) with rfl | rfl | rfl | rfl <;> rfl) (Nat.le_of_ble_eq_true rfl) (Nat.le_of_ble_eq_true rfl) (fun a1 => ?_)
  refine z_dup (q := 9) hC dX9_init_8 rfl rfl ?_
  refine z_callIN (q := 12) (rm := rz_X0) hC hO (z_X0_init hl Θ _ a1) k_X0_init im_yX0_init rfl nl_RX9_11 dX9_init_9 rfl rfl rfl (Nat.le_of_ble_eq_true rfl) ⟨Nat.le_of_ble_eq_true rfl, Nat.le_of_ble_eq_true rfl⟩ ⟨Nat.le_of_ble_eq_true rfl, Nat.le_of_ble_eq_true rfl⟩ ?_
  rintro r9 w5 ⟨rfl, a1_1, a1_2, rfl⟩
  show VL _ _ _ _ _ _ _ _ _ _ _ _ _ _ _ 12 _ (_ :: _) _
  rw [List.append_assoc]
  refine z_putF (i := 0) (ci := 8) (j := 0) (N := 4) (T := TX9) (ty0 := tyX9) (q := 15) hC dX9_init_12 rfl rfl rfl inl9 tyX9_ok nmX9 (by decide) (tyX9_ok 0 (by decide)) rfl rfl (Nat.le_of_ble_eq_true rfl) fl_RX9_12 hnm rfl rfl rfl ?_
  refine z_aload_n (i := 0) (q := 16) hC dX9_init_15 rfl rfl rfl ?_
  refine z_new (ci := 9) (C := RX10) (T := TX10) (N := 5) (ty := tyX10) (fs := [.int 0, .int 0, .null, .null, .null]) (q := 19) hC dX9_init_16 rfl rfl inl10 cl_RX9_18 ia_RX10 in_RX10 tyX10_ok (fun j hj => by rcases (show j = 0 ∨ j = 1 ∨ j = 2 ∨ j = 3 ∨ j = 4 by omega) with rfl | rfl | rfl | rfl | rfl <;> rfl) (Nat.le_of_ble_eq_true rfl) (Nat.le_of_ble_eq_true rfl) (fun a2 => ?_)
  refine z_dup (q := 20) hC dX9_init_19 rfl rfl ?_
  refine z_callI (q := 23) (rm := rz_X10) hC hO (z_X10_init hl Θ _ a2) k_X10_init im_yX10_init rfl ml_RX9_20 dX9_init_20 rfl rfl rfl (Nat.le_of_ble_eq_true rfl) ⟨Nat.le_of_ble_eq_true rfl, Nat.le_of_ble_eq_true rfl⟩ ⟨Nat.le_of_ble_eq_true rfl, Nat.le_of_ble_eq_true rfl⟩ ?_
  rintro r20 w10 ⟨rfl, a2_1, a2_2, a2_3, rfl⟩
  show VL _ _ _ _ _ _ _ _ _ _ _ _ _ _ _ 23 _ (_ :: _) _
  rw [List.append_assoc]
  refine z_putF (i := 0) (ci := 8) (j := 1) (N := 4) (T := TX9) (ty0 := tyX9) (q := 26) hC dX9_init_23 rfl rfl rfl inl9 tyX9_ok nmX9 (by decide) (tyX9_ok 1 (by decide)) rfl rfl (Nat.le_of_ble_eq_true rfl) fl_RX9_21 hnm rfl rfl rfl ?_
  refine z_aload_n (i := 0) (q := 27) hC dX9_init_26 rfl rfl rfl ?_
  refine z_new (ci := 5) (C := RX6) (T := TX6) (N := 2) (ty := tyX6) (fs := [.null, .null]) (q := 30) hC dX9_init_27 rfl rfl inl6 cl_RX9_25 ia_RX6 in_RX6 tyX6_ok (fun j hj => by rcases (show j = 0 ∨ j = 1 by omega) with rfl | rfl <;> rfl) (Nat.le_of_ble_eq_true rfl) (Nat.le_of_ble_eq_true rfl) (fun a3 => ?_)
  refine z_dup (q := 31) hC dX9_init_30 rfl rfl ?_
  refine z_callIN (q := 34) (rm := rz_X6) hC hO (z_X6_init hl Θ _ a3) k_X6_init im_yX6_init rfl nl_RX9_27 dX9_init_31 rfl rfl rfl (Nat.le_of_ble_eq_true rfl) ⟨Nat.le_of_ble_eq_true rfl, Nat.le_of_ble_eq_true rfl⟩ ⟨Nat.le_of_ble_eq_true rfl, Nat.le_of_ble_eq_true rfl⟩ ?_
  rintro r31 w15 ⟨rfl, a3_1, a3_2, rfl⟩
  show VL _ _ _ _ _ _ _ _ _ _ _ _ _ _ _ 34 _ (_ :: _) _
  rw [List.append_assoc]
  refine z_putF (i := 0) (ci := 8) (j := 2) (N := 4) (T := TX9) (ty0 := tyX9) (q := 37) hC dX9_init_34 rfl rfl rfl inl9 tyX9_ok nmX9 (by decide) (tyX9_ok 2 (by decide)) rfl rfl (Nat.le_of_ble_eq_true rfl) fl_RX9_28 hnm rfl rfl rfl ?_
  refine z_aload_n (i := 0) (q := 38) hC dX9_init_37 rfl rfl rfl ?_
  refine z_new (ci := 6) (C := RX7) (T := TX7) (N := 5) (ty := tyX7) (fs := [.int 0, .int 0, .int 0, .null, .null]) (q := 41) hC dX9_init_38 rfl rfl inl7 cl_RX9_32 ia_RX7 in_RX7 tyX7_ok (fun j hj => by rcases (show j = 0 ∨ j = 1 ∨ j = 2 ∨ j = 3 ∨ j = 4 by omega) with rfl | rfl | rfl | rfl | rfl <;> rfl) (Nat.le_of_ble_eq_true rfl) (Nat.le_of_ble_eq_true rfl) (fun a4 => ?_)
  refine z_dup (q := 42) hC dX9_init_41 rfl rfl ?_
  refine z_callIN (q := 45) (rm := rz_X7) hC hO (z_X7_init hl Θ _ a4) k_X7_init im_yX7_init rfl nl_RX9_34 dX9_init_42 rfl rfl rfl (Nat.le_of_ble_eq_true rfl) ⟨Nat.le_of_ble_eq_true rfl, Nat.le_of_ble_eq_true rfl⟩ ⟨Nat.le_of_ble_eq_true rfl, Nat.le_of_ble_eq_true rfl⟩ ?_
  rintro r42 w20 ⟨rfl, a4_1, a4_2, rfl⟩
  show VL _ _ _ _ _ _ _ _ _ _ _ _ _ _ _ 45 _ (_ :: _) _
  rw [List.append_assoc]
  refine z_putF (i := 0) (ci := 8) (j := 3) (N := 4) (T := TX9) (ty0 := tyX9) (q := 48) hC dX9_init_45 rfl rfl rfl inl9 tyX9_ok nmX9 (by decide) (tyX9_ok 3 (by decide)) rfl rfl (Nat.le_of_ble_eq_true rfl) fl_RX9_35 hnm rfl rfl rfl ?_
  refine z_vret hC dX9_init_48 hr ?_ (Nat.le_of_ble_eq_true rfl) (Nat.le_of_ble_eq_true rfl)
  exact ⟨rfl, fun i => ([b, a1, a1_1, a1_2, a2, a2_1, a2_2, a2_3, a3, a3_1, a3_2, a4, a4_1, a4_2] : List Nat).getD i 0, rfl, rfl⟩
/-- a new history: itself, its row, its five states -/
def hiL (Θ : cTH) (b a1 : Nat) (f1 f2 f3 f4 f5 : Nat → Nat) : va_W := [(b, .inr (2, [.int 0, .int 0, .ref a1])), (a1, .inl (tS Θ, 5, .inr (.inr (.inr (.inr (va_up (va_up (va_up (va_up (va_up (fun _ => none) 0 (some (f1 0))) 1 (some (f2 0))) 2 (some (f3 0))) 3 (some (f4 0))) 4 (some (f5 0))))))))] ++ (stL Θ f1 ++ (stL Θ f2 ++ (stL Θ f3 ++ (stL Θ f4 ++ stL Θ f5))))
abbrev rz_X3 : Room := { frames := 3, locals := 60, cells := 71, slots := 1285 }
set_option maxHeartbeats 4000000 in
set_option maxRecDepth 20000 in
theorem z_X3_init {l : Launch} (hl : l.stackTraces = false) (Θ : cTH) (w0 : va_W) (b : Nat) : Lt l yX3_init cX3_init 2 none rz_X3 Θ [.ref b] (w0 ++ [(b, .inr (2, [.int 0, .int 0, .null]))]) (fun r w => r = none ∧ ∃ (a1 : Nat) (f1 f2 f3 f4 f5 : Nat → Nat), w = w0 ++ hiL Θ b a1 f1 f2 f3 f4 f5) := by
  refine lt_of (LS := [some (.ref b), none]) hl (by decide +kernel) rfl (Nat.le_of_ble_eq_true rfl) rfl ?_
  intro p e s m args below meth c hC hO hnm hr
  refine z_aload_n (i := 0) (q := 1) hC dX3_init_0 rfl rfl rfl ?_
  refine z_objInit (q := 4) hC dX3_init_1 rfl ml_RX3_3 (Nat.le_of_ble_eq_true rfl) ⟨Nat.le_of_ble_eq_true rfl, Nat.le_of_ble_eq_true rfl⟩ ?_
  refine z_aload_n (i := 0) (q := 5) hC dX3_init_4 rfl rfl rfl ?_
  refine z_iconst (q := 6) (v := 0) hC dX3_init_5 rfl (by decide) ?_
  refine z_put (i := 0) (ci := 2) (j := 0) (N := 3) (T := TX3) (ty0 := tyX3) (q := 9) hC dX3_init_6 rfl rfl rfl inl3 tyX3_ok nmX3 (by decide) (tyX3_ok 0 (by decide)) rfl (Nat.le_of_ble_eq_true rfl) fl_RX3_9 rfl rfl rfl ?_
  refine z_aload_n (i := 0) (q := 10) hC dX3_init_9 rfl rfl rfl ?_
  refine z_iconst (q := 11) (v := 0) hC dX3_init_10 rfl (by decide) ?_
  refine z_put (i := 0) (ci := 2) (j := 1) (N := 3) (T := TX3) (ty0 := tyX3) (q := 14) hC dX3_init_11 rfl rfl rfl inl3 tyX3_ok nmX3 (by decide) (tyX3_ok 1 (by decide)) rfl (Nat.le_of_ble_eq_true rfl) fl_RX3_15 rfl rfl rfl ?_
  refine z_aload_n (i := 0) (q := 15) hC dX3_init_14 rfl rfl rfl ?_
  refine z_iconst (q := 16) (v := 5) hC dX3_init_15 rfl (by decide) ?_
  refine z_newq (N := 5) (q := 19) hC hO dX3_init_16 rfl cl_RX3_18 (by decide) (by decide) (Nat.le_of_ble_eq_true rfl) (Nat.le_of_ble_eq_true rfl) (Nat.le_of_ble_eq_true rfl) (fun a1 => ?_)
  rw [List.append_assoc]
  refine z_putF (i := 0) (ci := 2) (j := 2) (N := 3) (T := TX3) (ty0 := tyX3) (q := 22) hC dX3_init_19 rfl rfl rfl inl3 tyX3_ok nmX3 (by decide) (tyX3_ok 2 (by decide)) rfl rfl (Nat.le_of_ble_eq_true rfl) fl_RX3_20 hnm rfl rfl rfl ?_
  refine z_iconst (q := 23) (v := 0) hC dX3_init_22 rfl (by decide) ?_
  refine z_istore_n (i := 1) (q := 24) hC dX3_init_23 rfl rfl (lvc rfl) (Nat.le_of_ble_eq_true rfl) (Nat.le_of_ble_eq_true rfl) rfl ?_
  refine z_iload_n (i := 1) (q := 25) hC dX3_init_24 rfl rfl rfl ?_
  refine z_iconst (q := 26) (v := 5) hC dX3_init_25 rfl (by decide) ?_
  refine z_icmp_ge (q := 48) (q2 := 29) hC dX3_init_26 (by decide) rfl (fun c9 => absurd c9 (show ¬ (5 : Int32) ≤ 0 by decide)) (fun _ => ?_)
  refine z_aload_n (i := 0) (q := 30) hC dX3_init_29 rfl rfl rfl ?_
  refine z_get (i := 0) (ci := 2) (j := 2) (N := 3) (T := TX3) (q := 33) hC dX3_init_30 rfl rfl rfl inl3 (by decide) rfl fl_RX3_20 ?_
  refine z_iload_n (i := 1) (q := 34) hC dX3_init_33 rfl rfl rfl ?_
  refine z_new (ci := 8) (C := RX9) (T := TX9) (N := 4) (ty := tyX9) (fs := [.null, .null, .null, .null]) (q := 37) hC dX3_init_34 rfl rfl inl9 cl_RX3_18 ia_RX9 in_RX9 tyX9_ok (fun j hj => by rcases (show j = 0 ∨ j = 1 ∨ j = 2 ∨ j = 3 by omega) with rfl | rfl | rfl | rfl <;> rfl) (Nat.le_of_ble_eq_true rfl) (Nat.le_of_ble_eq_true rfl) (fun a2 => ?_)
  refine z_dup (q := 38) hC dX3_init_37 rfl rfl ?_
  refine z_callIN (q := 41) (rm := rz_X9) hC hO (z_X9_init hl Θ _ a2) k_X9_init im_yX9_init rfl nl_RX3_24 dX3_init_38 rfl rfl rfl (Nat.le_of_ble_eq_true rfl) ⟨Nat.le_of_ble_eq_true rfl, Nat.le_of_ble_eq_true rfl⟩ ⟨Nat.le_of_ble_eq_true rfl, Nat.le_of_ble_eq_true rfl⟩ ?_
  rintro r38 w22 ⟨rfl, f1, rfl, rfl⟩
  show VL _ _ _ _ _ _ _ _ _ _ _ _ _ _ _ 41 _ (_ :: _) _
  rw [List.append_assoc]
  refine z_aast (i := 1) (i2 := 2) (q := 42) hC dX3_init_41 rfl rfl rfl (by unfold vp_in; decide) rfl ?_
  refine z_iinc (v := 1) (q := 45) hC dX3_init_42 rfl rfl (by decide) (lvc rfl) (Nat.le_of_ble_eq_true rfl) (Nat.le_of_ble_eq_true rfl) rfl ?_
  refine z_goto (q := 24) hC dX3_init_45 (by decide) ?_
  refine z_iload_n (i := 1) (q := 25) hC dX3_init_24 rfl rfl rfl ?_
  refine z_iconst (q := 26) (v := 5) hC dX3_init_25 rfl (by decide) ?_
  refine z_icmp_ge (q := 48) (q2 := 29) hC dX3_init_26 (by decide) rfl (fun c9 => absurd c9 (show ¬ (5 : Int32) ≤ 1 by decide)) (fun _ => ?_)
  refine z_aload_n (i := 0) (q := 30) hC dX3_init_29 rfl rfl rfl ?_
  refine z_get (i := 0) (ci := 2) (j := 2) (N := 3) (T := TX3) (q := 33) hC dX3_init_30 rfl rfl rfl inl3 (by decide) rfl fl_RX3_20 ?_
  refine z_iload_n (i := 1) (q := 34) hC dX3_init_33 rfl rfl rfl ?_
  refine z_new (ci := 8) (C := RX9) (T := TX9) (N := 4) (ty := tyX9) (fs := [.null, .null, .null, .null]) (q := 37) hC dX3_init_34 rfl rfl inl9 cl_RX3_18 ia_RX9 in_RX9 tyX9_ok (fun j hj => by rcases (show j = 0 ∨ j = 1 ∨ j = 2 ∨ j = 3 by omega) with rfl | rfl | rfl | rfl <;> rfl) (Nat.le_of_ble_eq_true rfl) (Nat.le_of_ble_eq_true rfl) (fun a3 => ?_)
  refine z_dup (q := 38) hC dX3_init_37 rfl rfl ?_
  refine z_callIN (q := 41) (rm := rz_X9) hC hO (z_X9_init hl Θ _ a3) k_X9_init im_yX9_init rfl nl_RX3_24 dX3_init_38 rfl rfl rfl (Nat.le_of_ble_eq_true rfl) ⟨Nat.le_of_ble_eq_true rfl, Nat.le_of_ble_eq_true rfl⟩ ⟨Nat.le_of_ble_eq_true rfl, Nat.le_of_ble_eq_true rfl⟩ ?_
  rintro r38 w34 ⟨rfl, f2, rfl, rfl⟩
  show VL _ _ _ _ _ _ _ _ _ _ _ _ _ _ _ 41 _ (_ :: _) _
  rw [List.append_assoc]
  refine z_aast (i := 1) (i2 := 16) (q := 42) hC dX3_init_41 rfl rfl rfl (by unfold vp_in; decide) rfl ?_
  refine z_iinc (v := 2) (q := 45) hC dX3_init_42 rfl rfl (by decide) (lvc rfl) (Nat.le_of_ble_eq_true rfl) (Nat.le_of_ble_eq_true rfl) rfl ?_
  refine z_goto (q := 24) hC dX3_init_45 (by decide) ?_
  refine z_iload_n (i := 1) (q := 25) hC dX3_init_24 rfl rfl rfl ?_
  refine z_iconst (q := 26) (v := 5) hC dX3_init_25 rfl (by decide) ?_
  refine z_icmp_ge (q := 48) (q2 := 29) hC dX3_init_26 (by decide) rfl (fun c9 => absurd c9 (show ¬ (5 : Int32) ≤ 2 by decide)) (fun _ => ?_)
  refine z_aload_n (i := 0) (q := 30) hC dX3_init_29 rfl rfl rfl ?_
  refine z_get (i := 0) (ci := 2) (j := 2) (N := 3) (T := TX3) (q := 33) hC dX3_init_30 rfl rfl rfl inl3 (by decide) rfl fl_RX3_20 ?_
  refine z_iload_n (i := 1) (q := 34) hC dX3_init_33 rfl rfl rfl ?_
  refine z_new (ci := 8) (C := RX9) (T := TX9) (N := 4) (ty := tyX9) (fs := [.null, .null, .null, .null]) (q := 37) hC dX3_init_34 rfl rfl inl9 cl_RX3_18 ia_RX9 in_RX9 tyX9_ok (fun j hj => by rcases (show j = 0 ∨ j = 1 ∨ j = 2 ∨ j = 3 by omega) with rfl | rfl | rfl | rfl <;> rfl) (Nat.le_of_ble_eq_true rfl) (Nat.le_of_ble_eq_true rfl) (fun a4 => ?_)
  refine z_dup (q := 38) hC dX3_init_37 rfl rfl ?_
  refine z_callIN (q := 41) (rm := rz_X9) hC hO (z_X9_init hl Θ _ a4) k_X9_init im_yX9_init rfl nl_RX3_24 dX3_init_38 rfl rfl rfl (Nat.le_of_ble_eq_true rfl) ⟨Nat.le_of_ble_eq_true rfl, Nat.le_of_ble_eq_true rfl⟩ ⟨Nat.le_of_ble_eq_true rfl, Nat.le_of_ble_eq_true rfl⟩ ?_
  rintro r38 w46 ⟨rfl, f3, rfl, rfl⟩
  show VL _ _ _ _ _ _ _ _ _ _ _ _ _ _ _ 41 _ (_ :: _) _
  rw [List.append_assoc]
  refine z_aast (i := 1) (i2 := 30) (q := 42) hC dX3_init_41 rfl rfl rfl (by unfold vp_in; decide) rfl ?_
  refine z_iinc (v := 3) (q := 45) hC dX3_init_42 rfl rfl (by decide) (lvc rfl) (Nat.le_of_ble_eq_true rfl) (Nat.le_of_ble_eq_true rfl) rfl ?_
  refine z_goto (q := 24) hC dX3_init_45 (by decide) ?_
  refine z_iload_n (i := 1) (q := 25) hC dX3_init_24 rfl rfl rfl ?_
  refine z_iconst (q := 26) (v := 5) hC dX3_init_25 rfl (by decide) ?_
  refine z_icmp_ge (q := 48) (q2 := 29) hC dX3_init_26 (by decide) rfl (fun c9 => absurd c9 (show ¬ (5 : Int32) ≤ 3 by decide)) (fun _ => ?_)
  refine z_aload_n (i := 0) (q := 30) hC dX3_init_29 rfl rfl rfl ?_
  refine z_get (i := 0) (ci := 2) (j := 2) (N := 3) (T := TX3) (q := 33) hC dX3_init_30 rfl rfl rfl inl3 (by decide) rfl fl_RX3_20 ?_
  refine z_iload_n (i := 1) (q := 34) hC dX3_init_33 rfl rfl rfl ?_
  refine z_new (ci := 8) (C := RX9) (T := TX9) (N := 4) (ty := tyX9) (fs := [.null, .null, .null, .null]) (q := 37) hC dX3_init_34 rfl rfl inl9 cl_RX3_18 ia_RX9 in_RX9 tyX9_ok (fun j hj => by rcases (show j = 0 ∨ j = 1 ∨ j = 2 ∨ j = 3 by omega) with rfl | rfl | rfl | rfl <;> rfl) (Nat.le_of_ble_eq_true rfl) (Nat.le_of_ble_eq_true rfl) (fun a5 => ?_)
  refine z_dup (q := 38) hC dX3_init_37 rfl rfl ?_
  refine z_callIN (q := 41) (rm := rz_X9) hC hO (z_X9_init hl Θ _ a5) k_X9_init im_yX9_init rfl nl_RX3_24 dX3_init_38 rfl rfl rfl (Nat.le_of_ble_eq_true rfl) ⟨Nat.le_of_ble_eq_true rfl, Nat.le_of_ble_eq_true rfl⟩ ⟨Nat.le_of_ble_eq_true rfl, Nat.le_of_ble_eq_true rfl⟩ ?_
  rintro r38 w58 ⟨rfl, f4, rfl, rfl⟩
  show VL _ _ _ _ _ _ _ _ _ _ _ _ _ _ _ 41 _ (_ :: _) _
  rw [List.append_assoc]
  refine z_aast (i := 1) (i2 := 44) (q := 42) hC dX3_init_41 rfl rfl rfl (by unfold vp_in; decide) rfl ?_
  refine z_iinc (v := 4) (q := 45) hC dX3_init_42 rfl rfl (by decide) (lvc rfl) (Nat.le_of_ble_eq_true rfl) (Nat.le_of_ble_eq_true rfl) rfl ?_
  refine z_goto (q := 24) hC dX3_init_45 (by decide) ?_
  refine z_iload_n (i := 1) (q := 25) hC dX3_init_24 rfl rfl rfl ?_
  refine z_iconst (q := 26) (v := 5) hC dX3_init_25 rfl (by decide) ?_
  refine z_icmp_ge (q := 48) (q2 := 29) hC dX3_init_26 (by decide) rfl (fun c9 => absurd c9 (show ¬ (5 : Int32) ≤ 4 by decide)) (fun _ => ?_)
  refine z_aload_n (i := 0) (q := 30) hC dX3_init_29 rfl rfl rfl ?_
  refine z_get (i := 0) (ci := 2) (j := 2) (N := 3) (T := TX3) (q := 33) hC dX3_init_30 rfl rfl rfl inl3 (by decide) rfl fl_RX3_20 ?_
  refine z_iload_n (i := 1) (q := 34) hC dX3_init_33 rfl rfl rfl ?_
  refine z_new (ci := 8) (C := RX9) (T := TX9) (N := 4) (ty := tyX9) (fs := [.null, .null, .null, .null]) (q := 37) hC dX3_init_34 rfl rfl inl9 cl_RX3_18 ia_RX9 in_RX9 tyX9_ok (fun j hj => by rcases (show j = 0 ∨ j = 1 ∨ j = 2 ∨ j = 3 by omega) with rfl | rfl | rfl | rfl <;> rfl) (Nat.le_of_ble_eq_true rfl) (Nat.le_of_ble_eq_true rfl) (fun a6 => ?_)
  refine z_dup (q := 38) hC dX3_init_37 rfl rfl ?_
  refine z_callIN (q := 41) (rm := rz_X9) hC hO (z_X9_init hl Θ _ a6) k_X9_init im_yX9_init rfl nl_RX3_24 dX3_init_38 rfl rfl rfl (Nat.le_of_ble_eq_true rfl) ⟨Nat.le_of_ble_eq_true rfl, Nat.le_of_ble_eq_true rfl⟩ ⟨Nat.le_of_ble_eq_true rfl, Nat.le_of_ble_eq_true rfl⟩ ?_
  rintro r38 w70 ⟨rfl, f5, rfl, rfl⟩
  show VL _ _ _ _ _ _ _ _ _ _ _ _ _ _ _ 41 _ (_ :: _) _
  rw [List.append_assoc]
  refine z_aast (i := 1) (i2 := 58) (q := 42) hC dX3_init_41 rfl rfl rfl (by unfold vp_in; decide) rfl ?_
  refine z_iinc (v := 5) (q := 45) hC dX3_init_42 rfl rfl (by decide) (lvc rfl) (Nat.le_of_ble_eq_true rfl) (Nat.le_of_ble_eq_true rfl) rfl ?_
  refine z_goto (q := 24) hC dX3_init_45 (by decide) ?_
  refine z_iload_n (i := 1) (q := 25) hC dX3_init_24 rfl rfl rfl ?_
  refine z_iconst (q := 26) (v := 5) hC dX3_init_25 rfl (by decide) ?_
  refine z_icmp_ge (q := 48) (q2 := 29) hC dX3_init_26 (by decide) rfl (fun _ => ?_) (fun c9 => absurd (show (5 : Int32) ≤ 5 by decide) c9)
  refine z_vret hC dX3_init_48 hr ?_ (Nat.le_of_ble_eq_true rfl) (Nat.le_of_ble_eq_true rfl)
  exact ⟨rfl, a1, f1, f2, f3, f4, f5, rfl⟩
