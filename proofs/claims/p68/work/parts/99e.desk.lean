/-! The constructor of the desk itself, by program. -/
/-- a new desk's cells -/
def deL (Θ : cTH) (b : Nat) (f0 : Nat → Nat) (hr : Nat) (f1 f2 f3 f4 f5 : Nat → Nat) (a2 a3 a4 a4_1 a4_2 a4_3 a5 a5_1 a5_2 a6 a6_1 a7 a7_1 : Nat) : va_W := (b, .inr (10, [.ref (f0 0), .ref a2, .ref a3, .ref a4, .ref a5, .ref a6, .ref a7])) :: (stL Θ f0 ++ (hiL Θ a2 hr f1 f2 f3 f4 f5 ++ [(a3, .inl (tS Θ, 2, .inr (.inr (.inr (.inr (fun _ => none)))))), (a4, .inr (3, [.ref a4_1, .ref a4_2, .ref a4_3])), (a4_1, .inl (tI Θ, 4, .inl (fun _ => 0))), (a4_2, .inl (tI Θ, 4, .inl (fun _ => 0))), (a4_3, .inl (tI Θ, 240, .inl (fun _ => 0))), (a5, .inr (1, [.int 0, .ref a5_1, .ref a5_2])), (a5_1, .inl (tI Θ, 20, .inl (fun _ => 0))), (a5_2, .inl (tI Θ, 2400, .inl (fun _ => 0))), (a6, .inr (7, [.int 0, .ref a6_1])), (a6_1, .inl (tI Θ, 80, .inl (fun _ => 0))), (a7, .inr (4, [.int 0, .int (-1), .int 0, .ref a7_1])), (a7_1, .inl (tI Θ, 6, .inl (fun _ => 0)))]))
abbrev rz_X11 : Room := { frames := 4, locals := 81, cells := 98, slots := 4312 }
set_option maxHeartbeats 4000000 in
set_option maxRecDepth 20000 in
theorem z_X11_init {l : Launch} (hl : l.stackTraces = false) (Θ : cTH) (w0 : va_W) (b : Nat) : Lt l yX11_init cX11_init 1 none rz_X11 Θ [.ref b] (w0 ++ [(b, .inr (10, [.null, .null, .null, .null, .null, .null, .null]))]) (fun r w => r = none ∧ ∃ (f0 : Nat → Nat) (hr : Nat) (f1 f2 f3 f4 f5 : Nat → Nat) (a2 a3 a4 a4_1 a4_2 a4_3 a5 a5_1 a5_2 a6 a6_1 a7 a7_1 : Nat), w = w0 ++ deL Θ b f0 hr f1 f2 f3 f4 f5 a2 a3 a4 a4_1 a4_2 a4_3 a5 a5_1 a5_2 a6 a6_1 a7 a7_1) := by
  refine lt_of (LS := [some (.ref b)]) hl (by decide +kernel) rfl (Nat.le_of_ble_eq_true rfl) rfl ?_
  intro p e s m args below meth c hC hO hnm hr
  refine z_aload_n (i := 0) (q := 1) hC dX11_init_0 rfl rfl rfl ?_
  refine z_objInit (q := 4) hC dX11_init_1 rfl ml_RX11_1 (Nat.le_of_ble_eq_true rfl) ⟨Nat.le_of_ble_eq_true rfl, Nat.le_of_ble_eq_true rfl⟩ ?_
  refine z_aload_n (i := 0) (q := 5) hC dX11_init_4 rfl rfl rfl ?_
  refine z_new (ci := 8) (C := RX9) (T := TX9) (N := 4) (ty := tyX9) (fs := [.null, .null, .null, .null]) (q := 8) hC dX11_init_5 rfl rfl inl9 cl_RX11_7 ia_RX9 in_RX9 tyX9_ok (fun j hj => by rcases (show j = 0 ∨ j = 1 ∨ j = 2 ∨ j = 3 by omega) with rfl | rfl | rfl | rfl <;> rfl) (Nat.le_of_ble_eq_true rfl) (Nat.le_of_ble_eq_true rfl) (fun a1 => ?_)
  refine z_dup (q := 9) hC dX11_init_8 rfl rfl ?_
  refine z_callIN (q := 12) (rm := rz_X9) hC hO (z_X9_init hl Θ _ a1) k_X9_init im_yX9_init rfl nl_RX11_9 dX11_init_9 rfl rfl rfl (Nat.le_of_ble_eq_true rfl) ⟨Nat.le_of_ble_eq_true rfl, Nat.le_of_ble_eq_true rfl⟩ ⟨Nat.le_of_ble_eq_true rfl, Nat.le_of_ble_eq_true rfl⟩ ?_
  rintro r9 w5 ⟨rfl, f0, rfl, rfl⟩
  show VL _ _ _ _ _ _ _ _ _ _ _ _ _ _ _ 12 _ (_ :: _) _
  rw [List.append_assoc]
  refine z_putF (i := 0) (ci := 10) (j := 0) (N := 7) (T := TX11) (ty0 := tyX11) (q := 15) hC dX11_init_12 rfl rfl rfl inl11 tyX11_ok nmX11 (by decide) (tyX11_ok 0 (by decide)) rfl rfl (Nat.le_of_ble_eq_true rfl) fl_RX11_10 hnm rfl rfl rfl ?_
  refine z_aload_n (i := 0) (q := 16) hC dX11_init_15 rfl rfl rfl ?_
  refine z_new (ci := 2) (C := RX3) (T := TX3) (N := 3) (ty := tyX3) (fs := [.int 0, .int 0, .null]) (q := 19) hC dX11_init_16 rfl rfl inl3 cl_RX11_16 ia_RX3 in_RX3 tyX3_ok (fun j hj => by rcases (show j = 0 ∨ j = 1 ∨ j = 2 by omega) with rfl | rfl | rfl <;> rfl) (Nat.le_of_ble_eq_true rfl) (Nat.le_of_ble_eq_true rfl) (fun a2 => ?_)
  refine z_dup (q := 20) hC dX11_init_19 rfl rfl ?_
  refine z_callI (q := 23) (rm := rz_X3) hC hO (z_X3_init hl Θ _ a2) k_X3_init im_yX3_init rfl ml_RX11_18 dX11_init_20 rfl rfl rfl (Nat.le_of_ble_eq_true rfl) ⟨Nat.le_of_ble_eq_true rfl, Nat.le_of_ble_eq_true rfl⟩ ⟨Nat.le_of_ble_eq_true rfl, Nat.le_of_ble_eq_true rfl⟩ ?_
  rintro r20 w10 ⟨rfl, hw, f1, f2, f3, f4, f5, rfl⟩
  show VL _ _ _ _ _ _ _ _ _ _ _ _ _ _ _ 23 _ (_ :: _) _
  rw [List.append_assoc]
  refine z_putF (i := 0) (ci := 10) (j := 1) (N := 7) (T := TX11) (ty0 := tyX11) (q := 26) hC dX11_init_23 rfl rfl rfl inl11 tyX11_ok nmX11 (by decide) (tyX11_ok 1 (by decide)) rfl rfl (Nat.le_of_ble_eq_true rfl) fl_RX11_19 hnm rfl rfl rfl ?_
  refine z_aload_n (i := 0) (q := 27) hC dX11_init_26 rfl rfl rfl ?_
  refine z_iconst (q := 28) (v := 2) hC dX11_init_27 rfl (by decide) ?_
  refine z_newq (N := 2) (q := 31) hC hO dX11_init_28 rfl cl_RX11_7 (by decide) (by decide) (Nat.le_of_ble_eq_true rfl) (Nat.le_of_ble_eq_true rfl) (Nat.le_of_ble_eq_true rfl) (fun a3 => ?_)
  rw [List.append_assoc]
  refine z_putF (i := 0) (ci := 10) (j := 2) (N := 7) (T := TX11) (ty0 := tyX11) (q := 34) hC dX11_init_31 rfl rfl rfl inl11 tyX11_ok nmX11 (by decide) (tyX11_ok 2 (by decide)) rfl rfl (Nat.le_of_ble_eq_true rfl) fl_RX11_23 hnm rfl rfl rfl ?_
  refine z_aload_n (i := 0) (q := 35) hC dX11_init_34 rfl rfl rfl ?_
  refine z_new (ci := 3) (C := RX4) (T := TX4) (N := 3) (ty := tyX4) (fs := [.null, .null, .null]) (q := 38) hC dX11_init_35 rfl rfl inl4 cl_RX11_27 ia_RX4 in_RX4 tyX4_ok (fun j hj => by rcases (show j = 0 ∨ j = 1 ∨ j = 2 by omega) with rfl | rfl | rfl <;> rfl) (Nat.le_of_ble_eq_true rfl) (Nat.le_of_ble_eq_true rfl) (fun a4 => ?_)
  refine z_dup (q := 39) hC dX11_init_38 rfl rfl ?_
  refine z_callIN (q := 42) (rm := rz_X4) hC hO (z_X4_init hl Θ _ a4) k_X4_init im_yX4_init rfl nl_RX11_29 dX11_init_39 rfl rfl rfl (Nat.le_of_ble_eq_true rfl) ⟨Nat.le_of_ble_eq_true rfl, Nat.le_of_ble_eq_true rfl⟩ ⟨Nat.le_of_ble_eq_true rfl, Nat.le_of_ble_eq_true rfl⟩ ?_
  rintro r39 w19 ⟨rfl, a4_1, a4_2, a4_3, rfl⟩
  show VL _ _ _ _ _ _ _ _ _ _ _ _ _ _ _ 42 _ (_ :: _) _
  rw [List.append_assoc]
  refine z_putF (i := 0) (ci := 10) (j := 3) (N := 7) (T := TX11) (ty0 := tyX11) (q := 45) hC dX11_init_42 rfl rfl rfl inl11 tyX11_ok nmX11 (by decide) (tyX11_ok 3 (by decide)) rfl rfl (Nat.le_of_ble_eq_true rfl) fl_RX11_30 hnm rfl rfl rfl ?_
  refine z_aload_n (i := 0) (q := 46) hC dX11_init_45 rfl rfl rfl ?_
  refine z_new (ci := 1) (C := RX2) (T := TX2) (N := 3) (ty := tyX2) (fs := [.int 0, .null, .null]) (q := 49) hC dX11_init_46 rfl rfl inl2 cl_RX11_34 ia_RX2 in_RX2 tyX2_ok (fun j hj => by rcases (show j = 0 ∨ j = 1 ∨ j = 2 by omega) with rfl | rfl | rfl <;> rfl) (Nat.le_of_ble_eq_true rfl) (Nat.le_of_ble_eq_true rfl) (fun a5 => ?_)
  refine z_dup (q := 50) hC dX11_init_49 rfl rfl ?_
  refine z_callIN (q := 53) (rm := rz_X2) hC hO (z_X2_init hl Θ _ a5) k_X2_init im_yX2_init rfl nl_RX11_36 dX11_init_50 rfl rfl rfl (Nat.le_of_ble_eq_true rfl) ⟨Nat.le_of_ble_eq_true rfl, Nat.le_of_ble_eq_true rfl⟩ ⟨Nat.le_of_ble_eq_true rfl, Nat.le_of_ble_eq_true rfl⟩ ?_
  rintro r50 w24 ⟨rfl, a5_1, a5_2, rfl⟩
  show VL _ _ _ _ _ _ _ _ _ _ _ _ _ _ _ 53 _ (_ :: _) _
  rw [List.append_assoc]
  refine z_putF (i := 0) (ci := 10) (j := 4) (N := 7) (T := TX11) (ty0 := tyX11) (q := 56) hC dX11_init_53 rfl rfl rfl inl11 tyX11_ok nmX11 (by decide) (tyX11_ok 4 (by decide)) rfl rfl (Nat.le_of_ble_eq_true rfl) fl_RX11_37 hnm rfl rfl rfl ?_
  refine z_aload_n (i := 0) (q := 57) hC dX11_init_56 rfl rfl rfl ?_
  refine z_new (ci := 7) (C := RX8) (T := TX8) (N := 2) (ty := tyX8) (fs := [.int 0, .null]) (q := 60) hC dX11_init_57 rfl rfl inl8 cl_RX11_41 ia_RX8 in_RX8 tyX8_ok (fun j hj => by rcases (show j = 0 ∨ j = 1 by omega) with rfl | rfl <;> rfl) (Nat.le_of_ble_eq_true rfl) (Nat.le_of_ble_eq_true rfl) (fun a6 => ?_)
  refine z_dup (q := 61) hC dX11_init_60 rfl rfl ?_
  refine z_callIN (q := 64) (rm := rz_X8) hC hO (z_X8_init hl Θ _ a6) k_X8_init im_yX8_init rfl nl_RX11_43 dX11_init_61 rfl rfl rfl (Nat.le_of_ble_eq_true rfl) ⟨Nat.le_of_ble_eq_true rfl, Nat.le_of_ble_eq_true rfl⟩ ⟨Nat.le_of_ble_eq_true rfl, Nat.le_of_ble_eq_true rfl⟩ ?_
  rintro r61 w29 ⟨rfl, a6_1, rfl⟩
  show VL _ _ _ _ _ _ _ _ _ _ _ _ _ _ _ 64 _ (_ :: _) _
  rw [List.append_assoc]
  refine z_putF (i := 0) (ci := 10) (j := 5) (N := 7) (T := TX11) (ty0 := tyX11) (q := 67) hC dX11_init_64 rfl rfl rfl inl11 tyX11_ok nmX11 (by decide) (tyX11_ok 5 (by decide)) rfl rfl (Nat.le_of_ble_eq_true rfl) fl_RX11_44 hnm rfl rfl rfl ?_
  refine z_aload_n (i := 0) (q := 68) hC dX11_init_67 rfl rfl rfl ?_
  refine z_new (ci := 4) (C := RX5) (T := TX5) (N := 4) (ty := tyX5) (fs := [.int 0, .int 0, .int 0, .null]) (q := 71) hC dX11_init_68 rfl rfl inl5 cl_RX11_48 ia_RX5 in_RX5 tyX5_ok (fun j hj => by rcases (show j = 0 ∨ j = 1 ∨ j = 2 ∨ j = 3 by omega) with rfl | rfl | rfl | rfl <;> rfl) (Nat.le_of_ble_eq_true rfl) (Nat.le_of_ble_eq_true rfl) (fun a7 => ?_)
  refine z_dup (q := 72) hC dX11_init_71 rfl rfl ?_
  refine z_callIN (q := 75) (rm := rz_X5) hC hO (z_X5_init hl Θ _ a7) k_X5_init im_yX5_init rfl nl_RX11_50 dX11_init_72 rfl rfl rfl (Nat.le_of_ble_eq_true rfl) ⟨Nat.le_of_ble_eq_true rfl, Nat.le_of_ble_eq_true rfl⟩ ⟨Nat.le_of_ble_eq_true rfl, Nat.le_of_ble_eq_true rfl⟩ ?_
  rintro r72 w34 ⟨rfl, a7_1, rfl⟩
  show VL _ _ _ _ _ _ _ _ _ _ _ _ _ _ _ 75 _ (_ :: _) _
  rw [List.append_assoc]
  refine z_putF (i := 0) (ci := 10) (j := 6) (N := 7) (T := TX11) (ty0 := tyX11) (q := 78) hC dX11_init_75 rfl rfl rfl inl11 tyX11_ok nmX11 (by decide) (tyX11_ok 6 (by decide)) rfl rfl (Nat.le_of_ble_eq_true rfl) fl_RX11_51 hnm rfl rfl rfl ?_
  refine z_vret hC dX11_init_78 hr ?_ (Nat.le_of_ble_eq_true rfl) (Nat.le_of_ble_eq_true rfl)
  exact ⟨rfl, f0, hw, f1, f2, f3, f4, f5, a2, a3, a4, a4_1, a4_2, a4_3, a5, a5_1, a5_2, a6, a6_1, a7, a7_1, rfl⟩
