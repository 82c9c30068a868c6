/-! The cases of the law, 49 to 64 (by genlaw.py). -/
section LAWC3
variable {p : Program} {l : Launch} {e : Env} {s : State} {m : MethodId} {below : List Frame} {meth : Method} {c : Code} {Θ : cTH} {Q9 : State → Prop} {k n t b L : Nat} {xs : Nat → Int32} {G : GS}
set_option maxHeartbeats 2000000 in
set_option maxRecDepth 20000 in
theorem law_c49 (hx : lCx p l s m meth c b L xs Θ) (hS : Sim G t) (hz : 6 * t + 6 ≤ L) (hroom : k + 15 ≤ 601024 ∧ n + 262 ≤ 7293034) (kk : ∀ (Θ2 : cTH) (G2 : GS), Th Θ Θ2 → Sim G2 (t + 1) → VG p l e room_1 s m #[Value.ref b] below meth c 9 Θ2 Q9 (k + 15) (n + 262) 4427 (lsL Θ2 b (6 * t) none none) [] G2) : VG p l e room_1 s m #[Value.ref b] below meth c 9 Θ Q9 k n 3558 (lsL Θ b (6 * t) none none) [] G := by
  have hC := hx.1
  have hl9 := hx.2.2.2.2
  have hL := hx.2.2.2.1
  have hop := op_decidingObject hS (show t < 2 ^ 20 by omega) (xs (6 * t + 1)) (xs (6 * t + 2)) (xs (6 * t + 3))
  refine v_aload_n (i := 1) (q := 3559) hC dL_law_3558 rfl rfl rfl ?_
  refine v_arg (q := 3565) hx 1 (by decide) ⟨dL_law_3559, dL_law_3560, dL_law_3562, dL_law_3563, dL_law_3564⟩ rfl (by omega) ?_
  refine v_arg (q := 3571) hx 2 (by decide) ⟨dL_law_3565, dL_law_3566, dL_law_3568, dL_law_3569, dL_law_3570⟩ rfl (by omega) ?_
  refine v_arg (q := 3577) hx 3 (by decide) ⟨dL_law_3571, dL_law_3572, dL_law_3574, dL_law_3575, dL_law_3576⟩ rfl (by omega) ?_
  refine v_aload_n (i := 3) (q := 3578) hC dL_law_3577 rfl rfl rfl ?_
  refine v_callSX (q := 3581) (rm := rm_L_decidingObject) hC (w_L_decidingObject hl9 Θ (xs (6 * t + 1)) (xs (6 * t + 2)) (xs (6 * t + 3)) G (c_X11_decidingObject hl9 Θ (xs (6 * t + 1)) (xs (6 * t + 2)) (xs (6 * t + 3)) G hS.1.gOk_) hop.v (fun E G1 h => mem2 (hop.2 E G1 h).1)) kh_L_decidingObject ml_RL_361 dL_law_3578 rfl rfl rfl (Nat.le_of_ble_eq_true rfl) ⟨Nat.le_of_ble_eq_true rfl, Nat.le_of_ble_eq_true rfl⟩ ⟨Nat.le_of_ble_eq_true rfl, Nat.le_of_ble_eq_true rfl⟩ hroom (fun v G1 hw => ?_) wQ_no
  obtain ⟨kv, rfl, hA, h2⟩ := hop.out cd2 hw
  have hM := hS.M.agC hA
  dsimp only [Option.toList, List.cons_append, List.nil_append]
  refine v_istore (q := 3583) hC dL_law_3581 rfl (lvc rfl) (Nat.le_of_ble_eq_true rfl) (Nat.le_of_ble_eq_true rfl) rfl ?_
  show VG p l e room_1 s m #[Value.ref b] below meth c 9 Θ Q9 (k + 15) (n + 262) 3583 (lsL Θ b (6 * t) (some (.int kv)) none) [] G1
  refine v_aload_n (i := 2) (q := 3584) hC dL_law_3583 rfl rfl rfl ?_
  refine v_arg (q := 3590) hx 1 (by decide) ⟨dL_law_3584, dL_law_3585, dL_law_3587, dL_law_3588, dL_law_3589⟩ rfl (by omega) ?_
  refine v_arg (q := 3596) hx 2 (by decide) ⟨dL_law_3590, dL_law_3591, dL_law_3593, dL_law_3594, dL_law_3595⟩ rfl (by omega) ?_
  refine v_arg (q := 3602) hx 3 (by decide) ⟨dL_law_3596, dL_law_3597, dL_law_3599, dL_law_3600, dL_law_3601⟩ rfl (by omega) ?_
  refine v_callV0 (q := 3605) (rm := rm_X12_decidingObject) hC (c_X12_decidingObject hl9 _ (xs (6 * t + 1)) (xs (6 * t + 2)) (xs (6 * t + 3)) G1 hM.1) k_X12_decidingObject im_yX12_decidingObject se_yX12_decidingObject ml_RL_363 dL_law_3602 rfl rfl rfl rfl rfl rfl (Nat.le_of_ble_eq_true rfl) ⟨Nat.le_of_ble_eq_true rfl, Nat.le_of_ble_eq_true rfl⟩ ⟨rfl, rfl⟩ hroom (fun v2 G2 h3 => ?_) (fun E G2 h3 => by obtain ⟨y, h4, _⟩ := h2 _ _ h3; cases h4)
  obtain ⟨y, e4, h5, h6, h7⟩ := h2 _ _ h3
  cases e4
  dsimp only [Option.toList, List.cons_append, List.nil_append]
  exact law_tailI hx ⟨⟨dL_law_3605, dL_law_3607, dL_law_3608, dL_law_3611, dL_law_3613, dL_law_3618⟩, dL_law_3620, dL_law_3623, dL_law_3624, dL_law_3625, dL_law_3626, dL_law_3628, dL_law_3629, dL_law_3630, dL_law_3635⟩ (by decide) h5 h6 hroom (kk Θ G2 (Th.refl Θ) h7)
set_option maxHeartbeats 2000000 in
set_option maxRecDepth 20000 in
theorem law_c50 (hx : lCx p l s m meth c b L xs Θ) (hS : Sim G t) (hz : 6 * t + 6 ≤ L) (hroom : k + 15 ≤ 601024 ∧ n + 262 ≤ 7293034) (kk : ∀ (Θ2 : cTH) (G2 : GS), Th Θ Θ2 → Sim G2 (t + 1) → VG p l e room_1 s m #[Value.ref b] below meth c 9 Θ2 Q9 (k + 15) (n + 262) 4427 (lsL Θ2 b (6 * t) none none) [] G2) : VG p l e room_1 s m #[Value.ref b] below meth c 9 Θ Q9 k n 3638 (lsL Θ b (6 * t) none none) [] G := by
  have hC := hx.1
  have hl9 := hx.2.2.2.2
  have hL := hx.2.2.2.1
  have hop := op_decidingEntry hS (show t < 2 ^ 20 by omega) (xs (6 * t + 1)) (xs (6 * t + 2)) (xs (6 * t + 3))
  refine v_aload_n (i := 1) (q := 3639) hC dL_law_3638 rfl rfl rfl ?_
  refine v_arg (q := 3645) hx 1 (by decide) ⟨dL_law_3639, dL_law_3640, dL_law_3642, dL_law_3643, dL_law_3644⟩ rfl (by omega) ?_
  refine v_arg (q := 3651) hx 2 (by decide) ⟨dL_law_3645, dL_law_3646, dL_law_3648, dL_law_3649, dL_law_3650⟩ rfl (by omega) ?_
  refine v_arg (q := 3657) hx 3 (by decide) ⟨dL_law_3651, dL_law_3652, dL_law_3654, dL_law_3655, dL_law_3656⟩ rfl (by omega) ?_
  refine v_aload_n (i := 3) (q := 3658) hC dL_law_3657 rfl rfl rfl ?_
  refine v_callSX (q := 3661) (rm := rm_L_decidingEntry) hC (w_L_decidingEntry hl9 Θ (xs (6 * t + 1)) (xs (6 * t + 2)) (xs (6 * t + 3)) G (c_X11_decidingEntry hl9 Θ (xs (6 * t + 1)) (xs (6 * t + 2)) (xs (6 * t + 3)) G hS.1.gOk_) hop.v (fun E G1 h => mem2 (hop.2 E G1 h).1)) kh_L_decidingEntry ml_RL_364 dL_law_3658 rfl rfl rfl (Nat.le_of_ble_eq_true rfl) ⟨Nat.le_of_ble_eq_true rfl, Nat.le_of_ble_eq_true rfl⟩ ⟨Nat.le_of_ble_eq_true rfl, Nat.le_of_ble_eq_true rfl⟩ hroom (fun v G1 hw => ?_) wQ_no
  obtain ⟨kv, rfl, hA, h2⟩ := hop.out cd2 hw
  have hM := hS.M.agC hA
  dsimp only [Option.toList, List.cons_append, List.nil_append]
  refine v_istore (q := 3663) hC dL_law_3661 rfl (lvc rfl) (Nat.le_of_ble_eq_true rfl) (Nat.le_of_ble_eq_true rfl) rfl ?_
  show VG p l e room_1 s m #[Value.ref b] below meth c 9 Θ Q9 (k + 15) (n + 262) 3663 (lsL Θ b (6 * t) (some (.int kv)) none) [] G1
  refine v_aload_n (i := 2) (q := 3664) hC dL_law_3663 rfl rfl rfl ?_
  refine v_arg (q := 3670) hx 1 (by decide) ⟨dL_law_3664, dL_law_3665, dL_law_3667, dL_law_3668, dL_law_3669⟩ rfl (by omega) ?_
  refine v_arg (q := 3676) hx 2 (by decide) ⟨dL_law_3670, dL_law_3671, dL_law_3673, dL_law_3674, dL_law_3675⟩ rfl (by omega) ?_
  refine v_arg (q := 3682) hx 3 (by decide) ⟨dL_law_3676, dL_law_3677, dL_law_3679, dL_law_3680, dL_law_3681⟩ rfl (by omega) ?_
  refine v_callV0 (q := 3685) (rm := rm_X12_decidingEntry) hC (c_X12_decidingEntry hl9 _ (xs (6 * t + 1)) (xs (6 * t + 2)) (xs (6 * t + 3)) G1 hM.1) k_X12_decidingEntry im_yX12_decidingEntry se_yX12_decidingEntry ml_RL_366 dL_law_3682 rfl rfl rfl rfl rfl rfl (Nat.le_of_ble_eq_true rfl) ⟨Nat.le_of_ble_eq_true rfl, Nat.le_of_ble_eq_true rfl⟩ ⟨rfl, rfl⟩ hroom (fun v2 G2 h3 => ?_) (fun E G2 h3 => by obtain ⟨y, h4, _⟩ := h2 _ _ h3; cases h4)
  obtain ⟨y, e4, h5, h6, h7⟩ := h2 _ _ h3
  cases e4
  dsimp only [Option.toList, List.cons_append, List.nil_append]
  exact law_tailI hx ⟨⟨dL_law_3685, dL_law_3687, dL_law_3688, dL_law_3691, dL_law_3693, dL_law_3698⟩, dL_law_3700, dL_law_3703, dL_law_3704, dL_law_3705, dL_law_3706, dL_law_3708, dL_law_3709, dL_law_3710, dL_law_3715⟩ (by decide) h5 h6 hroom (kk Θ G2 (Th.refl Θ) h7)
set_option maxHeartbeats 2000000 in
set_option maxRecDepth 20000 in
theorem law_c51 (hx : lCx p l s m meth c b L xs Θ) (hS : Sim G t) (hz : 6 * t + 6 ≤ L) (hroom : k + 15 ≤ 601024 ∧ n + 262 ≤ 7293034) (kk : ∀ (Θ2 : cTH) (G2 : GS), Th Θ Θ2 → Sim G2 (t + 1) → VG p l e room_1 s m #[Value.ref b] below meth c 9 Θ2 Q9 (k + 15) (n + 262) 4427 (lsL Θ2 b (6 * t) none none) [] G2) : VG p l e room_1 s m #[Value.ref b] below meth c 9 Θ Q9 k n 3718 (lsL Θ b (6 * t) none none) [] G := by
  have hC := hx.1
  have hl9 := hx.2.2.2.2
  have hL := hx.2.2.2.1
  have hop := op_isStoppedByMask hS (show t < 2 ^ 20 by omega) (xs (6 * t + 1)) (xs (6 * t + 2)) (xs (6 * t + 3))
  refine v_aload_n (i := 1) (q := 3719) hC dL_law_3718 rfl rfl rfl ?_
  refine v_arg (q := 3725) hx 1 (by decide) ⟨dL_law_3719, dL_law_3720, dL_law_3722, dL_law_3723, dL_law_3724⟩ rfl (by omega) ?_
  refine v_arg (q := 3731) hx 2 (by decide) ⟨dL_law_3725, dL_law_3726, dL_law_3728, dL_law_3729, dL_law_3730⟩ rfl (by omega) ?_
  refine v_arg (q := 3737) hx 3 (by decide) ⟨dL_law_3731, dL_law_3732, dL_law_3734, dL_law_3735, dL_law_3736⟩ rfl (by omega) ?_
  refine v_aload_n (i := 3) (q := 3738) hC dL_law_3737 rfl rfl rfl ?_
  refine v_callSX (q := 3741) (rm := rm_L_isStoppedByMask) hC (w_L_isStoppedByMask hl9 Θ (xs (6 * t + 1)) (xs (6 * t + 2)) (xs (6 * t + 3)) G (c_X11_isStoppedByMask hl9 Θ (xs (6 * t + 1)) (xs (6 * t + 2)) (xs (6 * t + 3)) G hS.1.gOk_) hop.v (fun E G1 h => mem2 (hop.2 E G1 h).1)) kh_L_isStoppedByMask ml_RL_367 dL_law_3738 rfl rfl rfl (Nat.le_of_ble_eq_true rfl) ⟨Nat.le_of_ble_eq_true rfl, Nat.le_of_ble_eq_true rfl⟩ ⟨Nat.le_of_ble_eq_true rfl, Nat.le_of_ble_eq_true rfl⟩ hroom (fun v G1 hw => ?_) wQ_no
  obtain ⟨kv, rfl, hA, h2⟩ := hop.out cd2 hw
  have hM := hS.M.agC hA
  dsimp only [Option.toList, List.cons_append, List.nil_append]
  refine v_istore (q := 3743) hC dL_law_3741 rfl (lvc rfl) (Nat.le_of_ble_eq_true rfl) (Nat.le_of_ble_eq_true rfl) rfl ?_
  show VG p l e room_1 s m #[Value.ref b] below meth c 9 Θ Q9 (k + 15) (n + 262) 3743 (lsL Θ b (6 * t) (some (.int kv)) none) [] G1
  refine v_aload_n (i := 2) (q := 3744) hC dL_law_3743 rfl rfl rfl ?_
  refine v_arg (q := 3750) hx 1 (by decide) ⟨dL_law_3744, dL_law_3745, dL_law_3747, dL_law_3748, dL_law_3749⟩ rfl (by omega) ?_
  refine v_arg (q := 3756) hx 2 (by decide) ⟨dL_law_3750, dL_law_3751, dL_law_3753, dL_law_3754, dL_law_3755⟩ rfl (by omega) ?_
  refine v_arg (q := 3762) hx 3 (by decide) ⟨dL_law_3756, dL_law_3757, dL_law_3759, dL_law_3760, dL_law_3761⟩ rfl (by omega) ?_
  refine v_callV0 (q := 3765) (rm := rm_X12_isStoppedByMask) hC (c_X12_isStoppedByMask hl9 _ (xs (6 * t + 1)) (xs (6 * t + 2)) (xs (6 * t + 3)) G1 hM.1) k_X12_isStoppedByMask im_yX12_isStoppedByMask se_yX12_isStoppedByMask ml_RL_369 dL_law_3762 rfl rfl rfl rfl rfl rfl (Nat.le_of_ble_eq_true rfl) ⟨Nat.le_of_ble_eq_true rfl, Nat.le_of_ble_eq_true rfl⟩ ⟨rfl, rfl⟩ hroom (fun v2 G2 h3 => ?_) (fun E G2 h3 => by obtain ⟨y, h4, _⟩ := h2 _ _ h3; cases h4)
  obtain ⟨y, e4, h5, h6, h7⟩ := h2 _ _ h3
  cases e4
  dsimp only [Option.toList, List.cons_append, List.nil_append]
  exact law_tailZ hx ⟨⟨dL_law_3765, dL_law_3767, dL_law_3768, dL_law_3771, dL_law_3773, dL_law_3778⟩, dL_law_3780, dL_law_3783, dL_law_3784, dL_law_3785, dL_law_3786, dL_law_3788, dL_law_3791, dL_law_3792, dL_law_3795, dL_law_3796, dL_law_3797, dL_law_3802⟩ (by decide) h5 h6 hroom (kk Θ G2 (Th.refl Θ) h7)
set_option maxHeartbeats 2000000 in
set_option maxRecDepth 20000 in
theorem law_c52 (hx : lCx p l s m meth c b L xs Θ) (hS : Sim G t) (hz : 6 * t + 6 ≤ L) (hroom : k + 15 ≤ 601024 ∧ n + 262 ≤ 7293034) (kk : ∀ (Θ2 : cTH) (G2 : GS), Th Θ Θ2 → Sim G2 (t + 1) → VG p l e room_1 s m #[Value.ref b] below meth c 9 Θ2 Q9 (k + 15) (n + 262) 4427 (lsL Θ2 b (6 * t) none none) [] G2) : VG p l e room_1 s m #[Value.ref b] below meth c 9 Θ Q9 k n 3805 (lsL Θ b (6 * t) none none) [] G := by
  have hC := hx.1
  have hl9 := hx.2.2.2.2
  have hL := hx.2.2.2.1
  have hop := op_usersWith hS (show t < 2 ^ 20 by omega) (xs (6 * t + 1)) (xs (6 * t + 2))
  refine v_aload_n (i := 1) (q := 3806) hC dL_law_3805 rfl rfl rfl ?_
  refine v_arg (q := 3812) hx 1 (by decide) ⟨dL_law_3806, dL_law_3807, dL_law_3809, dL_law_3810, dL_law_3811⟩ rfl (by omega) ?_
  refine v_arg (q := 3818) hx 2 (by decide) ⟨dL_law_3812, dL_law_3813, dL_law_3815, dL_law_3816, dL_law_3817⟩ rfl (by omega) ?_
  refine v_aload_n (i := 3) (q := 3819) hC dL_law_3818 rfl rfl rfl ?_
  refine v_callSX (q := 3822) (rm := rm_L_usersWith) hC (w_L_usersWith hl9 Θ (xs (6 * t + 1)) (xs (6 * t + 2)) G (c_X11_usersWith hl9 Θ (xs (6 * t + 1)) (xs (6 * t + 2)) G hS.1.gOk_) hop.v (fun E G1 h => mem2 (hop.2 E G1 h).1)) kh_L_usersWith ml_RL_370 dL_law_3819 rfl rfl rfl (Nat.le_of_ble_eq_true rfl) ⟨Nat.le_of_ble_eq_true rfl, Nat.le_of_ble_eq_true rfl⟩ ⟨Nat.le_of_ble_eq_true rfl, Nat.le_of_ble_eq_true rfl⟩ hroom (fun v G1 hw => ?_) wQ_no
  obtain ⟨kv, rfl, hA, h2⟩ := hop.out cd2 hw
  have hM := hS.M.agC hA
  dsimp only [Option.toList, List.cons_append, List.nil_append]
  refine v_istore (q := 3824) hC dL_law_3822 rfl (lvc rfl) (Nat.le_of_ble_eq_true rfl) (Nat.le_of_ble_eq_true rfl) rfl ?_
  show VG p l e room_1 s m #[Value.ref b] below meth c 9 Θ Q9 (k + 15) (n + 262) 3824 (lsL Θ b (6 * t) (some (.int kv)) none) [] G1
  refine v_aload_n (i := 2) (q := 3825) hC dL_law_3824 rfl rfl rfl ?_
  refine v_arg (q := 3831) hx 1 (by decide) ⟨dL_law_3825, dL_law_3826, dL_law_3828, dL_law_3829, dL_law_3830⟩ rfl (by omega) ?_
  refine v_arg (q := 3837) hx 2 (by decide) ⟨dL_law_3831, dL_law_3832, dL_law_3834, dL_law_3835, dL_law_3836⟩ rfl (by omega) ?_
  refine v_callV0 (q := 3840) (rm := rm_X12_usersWith) hC (c_X12_usersWith hl9 _ (xs (6 * t + 1)) (xs (6 * t + 2)) G1 hM.1) k_X12_usersWith im_yX12_usersWith se_yX12_usersWith ml_RL_372 dL_law_3837 rfl rfl rfl rfl rfl rfl (Nat.le_of_ble_eq_true rfl) ⟨Nat.le_of_ble_eq_true rfl, Nat.le_of_ble_eq_true rfl⟩ ⟨rfl, rfl⟩ hroom (fun v2 G2 h3 => ?_) (fun E G2 h3 => by obtain ⟨y, h4, _⟩ := h2 _ _ h3; cases h4)
  obtain ⟨y, e4, h5, h6, h7⟩ := h2 _ _ h3
  cases e4
  dsimp only [Option.toList, List.cons_append, List.nil_append]
  exact law_tailI hx ⟨⟨dL_law_3840, dL_law_3842, dL_law_3843, dL_law_3846, dL_law_3848, dL_law_3853⟩, dL_law_3855, dL_law_3858, dL_law_3859, dL_law_3860, dL_law_3861, dL_law_3863, dL_law_3864, dL_law_3865, dL_law_3870⟩ (by decide) h5 h6 hroom (kk Θ G2 (Th.refl Θ) h7)
set_option maxHeartbeats 2000000 in
set_option maxRecDepth 20000 in
theorem law_c53 (hx : lCx p l s m meth c b L xs Θ) (hS : Sim G t) (hz : 6 * t + 6 ≤ L) (hroom : k + 15 ≤ 601024 ∧ n + 262 ≤ 7293034) (kk : ∀ (Θ2 : cTH) (G2 : GS), Th Θ Θ2 → Sim G2 (t + 1) → VG p l e room_1 s m #[Value.ref b] below meth c 9 Θ2 Q9 (k + 15) (n + 262) 4427 (lsL Θ2 b (6 * t) none none) [] G2) : VG p l e room_1 s m #[Value.ref b] below meth c 9 Θ Q9 k n 3873 (lsL Θ b (6 * t) none none) [] G := by
  have hC := hx.1
  have hl9 := hx.2.2.2.2
  have hL := hx.2.2.2.1
  have hop := op_rightsThrough hS (show t < 2 ^ 20 by omega) (xs (6 * t + 1)) (xs (6 * t + 2))
  refine v_aload_n (i := 1) (q := 3874) hC dL_law_3873 rfl rfl rfl ?_
  refine v_arg (q := 3880) hx 1 (by decide) ⟨dL_law_3874, dL_law_3875, dL_law_3877, dL_law_3878, dL_law_3879⟩ rfl (by omega) ?_
  refine v_arg (q := 3886) hx 2 (by decide) ⟨dL_law_3880, dL_law_3881, dL_law_3883, dL_law_3884, dL_law_3885⟩ rfl (by omega) ?_
  refine v_aload_n (i := 3) (q := 3887) hC dL_law_3886 rfl rfl rfl ?_
  refine v_callSX (q := 3890) (rm := rm_L_rightsThrough) hC (w_L_rightsThrough hl9 Θ (xs (6 * t + 1)) (xs (6 * t + 2)) G (c_X11_rightsThrough hl9 Θ (xs (6 * t + 1)) (xs (6 * t + 2)) G hS.1.gOk_) hop.v (fun E G1 h => mem1 (hop.2 E G1 h).1)) kh_L_rightsThrough ml_RL_373 dL_law_3887 rfl rfl rfl (Nat.le_of_ble_eq_true rfl) ⟨Nat.le_of_ble_eq_true rfl, Nat.le_of_ble_eq_true rfl⟩ ⟨Nat.le_of_ble_eq_true rfl, Nat.le_of_ble_eq_true rfl⟩ hroom (fun v G1 hw => ?_) wQ_no
  obtain ⟨kv, rfl, hA, h2⟩ := hop.out cd1 hw
  have hM := hS.M.agC hA
  dsimp only [Option.toList, List.cons_append, List.nil_append]
  refine v_istore (q := 3892) hC dL_law_3890 rfl (lvc rfl) (Nat.le_of_ble_eq_true rfl) (Nat.le_of_ble_eq_true rfl) rfl ?_
  show VG p l e room_1 s m #[Value.ref b] below meth c 9 Θ Q9 (k + 15) (n + 262) 3892 (lsL Θ b (6 * t) (some (.int kv)) none) [] G1
  refine v_aload_n (i := 2) (q := 3893) hC dL_law_3892 rfl rfl rfl ?_
  refine v_arg (q := 3899) hx 1 (by decide) ⟨dL_law_3893, dL_law_3894, dL_law_3896, dL_law_3897, dL_law_3898⟩ rfl (by omega) ?_
  refine v_arg (q := 3905) hx 2 (by decide) ⟨dL_law_3899, dL_law_3900, dL_law_3902, dL_law_3903, dL_law_3904⟩ rfl (by omega) ?_
  refine v_callV0 (q := 3908) (rm := rm_X12_rightsThrough) hC (c_X12_rightsThrough hl9 _ (xs (6 * t + 1)) (xs (6 * t + 2)) G1 hM.1) k_X12_rightsThrough im_yX12_rightsThrough se_yX12_rightsThrough ml_RL_375 dL_law_3905 rfl rfl rfl rfl rfl rfl (Nat.le_of_ble_eq_true rfl) ⟨Nat.le_of_ble_eq_true rfl, Nat.le_of_ble_eq_true rfl⟩ ⟨rfl, rfl⟩ hroom (fun v2 G2 h3 => ?_) (fun E G2 h3 => by obtain ⟨y, h4, _⟩ := h2 _ _ h3; cases h4)
  obtain ⟨y, e4, h5, h6, h7⟩ := h2 _ _ h3
  cases e4
  dsimp only [Option.toList, List.cons_append, List.nil_append]
  exact law_tailI hx ⟨⟨dL_law_3908, dL_law_3910, dL_law_3911, dL_law_3914, dL_law_3916, dL_law_3921⟩, dL_law_3923, dL_law_3926, dL_law_3927, dL_law_3928, dL_law_3929, dL_law_3931, dL_law_3932, dL_law_3933, dL_law_3938⟩ (by decide) h5 h6 hroom (kk Θ G2 (Th.refl Θ) h7)
set_option maxHeartbeats 2000000 in
set_option maxRecDepth 20000 in
theorem law_c54 (hx : lCx p l s m meth c b L xs Θ) (hS : Sim G t) (hz : 6 * t + 6 ≤ L) (hroom : k + 15 ≤ 601024 ∧ n + 262 ≤ 7293034) (kk : ∀ (Θ2 : cTH) (G2 : GS), Th Θ Θ2 → Sim G2 (t + 1) → VG p l e room_1 s m #[Value.ref b] below meth c 9 Θ2 Q9 (k + 15) (n + 262) 4427 (lsL Θ2 b (6 * t) none none) [] G2) : VG p l e room_1 s m #[Value.ref b] below meth c 9 Θ Q9 k n 3941 (lsL Θ b (6 * t) none none) [] G := by
  have hC := hx.1
  have hl9 := hx.2.2.2.2
  have hL := hx.2.2.2.1
  have hop := op_isNeedless hS (show t < 2 ^ 20 by omega) (xs (6 * t + 1)) (xs (6 * t + 2))
  refine v_aload_n (i := 1) (q := 3942) hC dL_law_3941 rfl rfl rfl ?_
  refine v_arg (q := 3948) hx 1 (by decide) ⟨dL_law_3942, dL_law_3943, dL_law_3945, dL_law_3946, dL_law_3947⟩ rfl (by omega) ?_
  refine v_arg (q := 3954) hx 2 (by decide) ⟨dL_law_3948, dL_law_3949, dL_law_3951, dL_law_3952, dL_law_3953⟩ rfl (by omega) ?_
  refine v_aload_n (i := 3) (q := 3955) hC dL_law_3954 rfl rfl rfl ?_
  refine v_callSX (q := 3958) (rm := rm_L_isNeedless) hC (w_L_isNeedless hl9 Θ (xs (6 * t + 1)) (xs (6 * t + 2)) G (c_X11_isNeedless hl9 Θ (xs (6 * t + 1)) (xs (6 * t + 2)) G hS.1.gOk_) hop.v (fun E G1 h => mem1 (hop.2 E G1 h).1)) kh_L_isNeedless ml_RL_376 dL_law_3955 rfl rfl rfl (Nat.le_of_ble_eq_true rfl) ⟨Nat.le_of_ble_eq_true rfl, Nat.le_of_ble_eq_true rfl⟩ ⟨Nat.le_of_ble_eq_true rfl, Nat.le_of_ble_eq_true rfl⟩ hroom (fun v G1 hw => ?_) wQ_no
  obtain ⟨kv, rfl, hA, h2⟩ := hop.out cd1 hw
  have hM := hS.M.agC hA
  dsimp only [Option.toList, List.cons_append, List.nil_append]
  refine v_istore (q := 3960) hC dL_law_3958 rfl (lvc rfl) (Nat.le_of_ble_eq_true rfl) (Nat.le_of_ble_eq_true rfl) rfl ?_
  show VG p l e room_1 s m #[Value.ref b] below meth c 9 Θ Q9 (k + 15) (n + 262) 3960 (lsL Θ b (6 * t) (some (.int kv)) none) [] G1
  refine v_aload_n (i := 2) (q := 3961) hC dL_law_3960 rfl rfl rfl ?_
  refine v_arg (q := 3967) hx 1 (by decide) ⟨dL_law_3961, dL_law_3962, dL_law_3964, dL_law_3965, dL_law_3966⟩ rfl (by omega) ?_
  refine v_arg (q := 3973) hx 2 (by decide) ⟨dL_law_3967, dL_law_3968, dL_law_3970, dL_law_3971, dL_law_3972⟩ rfl (by omega) ?_
  refine v_callV0 (q := 3976) (rm := rm_X12_isNeedless) hC (c_X12_isNeedless hl9 _ (xs (6 * t + 1)) (xs (6 * t + 2)) G1 hM.1) k_X12_isNeedless im_yX12_isNeedless se_yX12_isNeedless ml_RL_378 dL_law_3973 rfl rfl rfl rfl rfl rfl (Nat.le_of_ble_eq_true rfl) ⟨Nat.le_of_ble_eq_true rfl, Nat.le_of_ble_eq_true rfl⟩ ⟨rfl, rfl⟩ hroom (fun v2 G2 h3 => ?_) (fun E G2 h3 => by obtain ⟨y, h4, _⟩ := h2 _ _ h3; cases h4)
  obtain ⟨y, e4, h5, h6, h7⟩ := h2 _ _ h3
  cases e4
  dsimp only [Option.toList, List.cons_append, List.nil_append]
  exact law_tailZ hx ⟨⟨dL_law_3976, dL_law_3978, dL_law_3979, dL_law_3982, dL_law_3984, dL_law_3989⟩, dL_law_3991, dL_law_3994, dL_law_3995, dL_law_3996, dL_law_3997, dL_law_3999, dL_law_4002, dL_law_4003, dL_law_4006, dL_law_4007, dL_law_4008, dL_law_4013⟩ (by decide) h5 h6 hroom (kk Θ G2 (Th.refl Θ) h7)
set_option maxHeartbeats 2000000 in
set_option maxRecDepth 20000 in
theorem law_c55 (hx : lCx p l s m meth c b L xs Θ) (hS : Sim G t) (hz : 6 * t + 6 ≤ L) (hroom : k + 15 ≤ 601024 ∧ n + 262 ≤ 7293034) (kk : ∀ (Θ2 : cTH) (G2 : GS), Th Θ Θ2 → Sim G2 (t + 1) → VG p l e room_1 s m #[Value.ref b] below meth c 9 Θ2 Q9 (k + 15) (n + 262) 4427 (lsL Θ2 b (6 * t) none none) [] G2) : VG p l e room_1 s m #[Value.ref b] below meth c 9 Θ Q9 k n 4016 (lsL Θ b (6 * t) none none) [] G := by
  have hC := hx.1
  have hl9 := hx.2.2.2.2
  have hL := hx.2.2.2.1
  have hop := op_allRights hS  
  refine v_aload_n (i := 1) (q := 4017) hC dL_law_4016 rfl rfl rfl ?_
  refine v_callV0 (q := 4020) (rm := rm_X11_allRights) hC (c_X11_allRights hl9 Θ  G hS.1.gOk_) k_X11_allRights im_yX11_allRights se_yX11_allRights ml_RL_379 dL_law_4017 rfl rfl rfl rfl rfl rfl (Nat.le_of_ble_eq_true rfl) ⟨Nat.le_of_ble_eq_true rfl, Nat.le_of_ble_eq_true rfl⟩ ⟨rfl, rfl⟩ (by have h1 := hroom.1; have h2 := hroom.2; exact ⟨Nat.le_trans (Nat.le_add_right _ _) h1, Nat.le_trans (Nat.le_add_right _ _) h2⟩) (fun v G1 h => ?_) (fun E G1 h => by obtain ⟨x, h4, _⟩ := hop _ _ h; cases h4)
  obtain ⟨x, e1, hA, h2⟩ := hop _ _ h
  cases e1
  have hM := hS.M.agC hA
  dsimp only [Option.toList, List.cons_append, List.nil_append]
  refine v_aload_n (i := 2) (q := 4021) hC dL_law_4020 rfl rfl rfl ?_
  refine v_callV0 (q := 4024) (rm := rm_X12_allRights) hC (c_X12_allRights hl9 _  G1 hM.1) k_X12_allRights im_yX12_allRights se_yX12_allRights ml_RL_382 dL_law_4021 rfl rfl rfl rfl rfl rfl (Nat.le_of_ble_eq_true rfl) ⟨Nat.le_of_ble_eq_true rfl, Nat.le_of_ble_eq_true rfl⟩ ⟨rfl, rfl⟩ (by have h1 := hroom.1; have h2 := hroom.2; exact ⟨Nat.le_trans (Nat.le_add_right _ _) h1, Nat.le_trans (Nat.le_add_right _ _) h2⟩) (fun v2 G2 h3 => ?_) (fun E G2 h3 => by cases (h2 _ _ h3).1)
  obtain ⟨e2, h7⟩ := h2 _ _ h3
  cases e2
  dsimp only [Option.toList, List.cons_append, List.nil_append]
  exact v_icmp_eq (q := 4427) (q2 := 4027) hC dL_law_4024 (by decide) rfl (fun _ => v_widen (Nat.le_add_right _ _) (Nat.le_add_right _ _) (kk Θ G2 (Th.refl Θ) h7)) (fun h => absurd rfl h)
set_option maxHeartbeats 2000000 in
set_option maxRecDepth 20000 in
theorem law_c56 (hx : lCx p l s m meth c b L xs Θ) (hS : Sim G t) (hz : 6 * t + 6 ≤ L) (hroom : k + 15 ≤ 601024 ∧ n + 262 ≤ 7293034) (kk : ∀ (Θ2 : cTH) (G2 : GS), Th Θ Θ2 → Sim G2 (t + 1) → VG p l e room_1 s m #[Value.ref b] below meth c 9 Θ2 Q9 (k + 15) (n + 262) 4427 (lsL Θ2 b (6 * t) none none) [] G2) : VG p l e room_1 s m #[Value.ref b] below meth c 9 Θ Q9 k n 4029 (lsL Θ b (6 * t) none none) [] G := by
  have hC := hx.1
  have hl9 := hx.2.2.2.2
  have hL := hx.2.2.2.1
  refine v_aload_n (i := 1) (q := 4030) hC dL_law_4029 rfl rfl rfl ?_
  have hn1 := hS.1.opn
  refine v_callV0 (q := 4033) (rm := rm_X11_openness) hC (c_X11_openness hl9 Θ G hS.1.gOk_ (fun _ => hn1.2.1)) k_X11_openness im_yX11_openness se_yX11_openness ml_RL_383 dL_law_4030 rfl rfl rfl rfl rfl rfl (Nat.le_of_ble_eq_true rfl) ⟨Nat.le_of_ble_eq_true rfl, Nat.le_of_ble_eq_true rfl⟩ ⟨rfl, rfl⟩ (by have h1 := hroom.1; have h2 := hroom.2; exact ⟨Nat.le_trans (Nat.le_add_right _ _) h1, Nat.le_trans (Nat.le_add_right _ _) h2⟩) (fun v G1 h => ?_) (fun E G1 h => by cases h.1)
  obtain ⟨e1, a9, b9, rfl⟩ := h
  cases e1
  have hR := (AgR.refl G).jS_ a9 b9
  have hS1 : Sim (jS G a9 b9) (t + 1) := hS.agR hR (Nat.le_succ t)
  have hM := hS1.M
  have eA : mOA (jS G a9 b9) = mOA G := by unfold mOA; rw [hR.w]
  have eM : mOM (jS G a9 b9) = mOM G := by unfold mOM; rw [hR.w]
  have hn2 : vf_n64 (FP.ddiv (FP.i2d (mOA (jS G a9 b9))) (FP.i2d (mOM (jS G a9 b9)))) := by rw [eA, eM, ← hn1.2.2.1, ← hn1.2.2.2]; exact hn1.2.1
  have ex : opD G = FP.ddiv (FP.i2d (mOA (jS G a9 b9))) (FP.i2d (mOM (jS G a9 b9))) := by unfold opD; rw [if_pos hn1.1, eA, eM, ← hn1.2.2.1, ← hn1.2.2.2]
  rw [ex]
  dsimp only [Option.toList, List.cons_append, List.nil_append]
  refine v_dstore (q := 4035) hC dL_law_4033 rfl (lvc rfl) rfl (Nat.le_of_ble_eq_true rfl) (Nat.le_of_ble_eq_true rfl) rfl ?_
  refine v_aload_n (i := 2) (q := 4036) hC dL_law_4035 rfl rfl rfl ?_
  refine v_callV0 (q := 4039) (rm := rm_X12_openness) hC (c_X12_openness hl9 _ (jS G a9 b9) hM.1 hn2) k_X12_openness im_yX12_openness se_yX12_openness ml_RL_387 dL_law_4036 rfl rfl rfl rfl rfl rfl (Nat.le_of_ble_eq_true rfl) ⟨Nat.le_of_ble_eq_true rfl, Nat.le_of_ble_eq_true rfl⟩ ⟨rfl, rfl⟩ (by have h1 := hroom.1; have h2 := hroom.2; exact ⟨Nat.le_trans (Nat.le_add_right _ _) h1, Nat.le_trans (Nat.le_add_right _ _) h2⟩) (fR_k ?_) (fun _ _ z => by cases z.1)
  dsimp only [Option.toList, List.cons_append, List.nil_append]
  generalize FP.ddiv (FP.i2d (mOA (jS G a9 b9))) (FP.i2d (mOM (jS G a9 b9))) = d9
  refine v_dstore (q := 4041) hC dL_law_4039 rfl (lvc rfl) rfl (Nat.le_of_ble_eq_true rfl) (Nat.le_of_ble_eq_true rfl) rfl ?_
  have kk2 : VG p l e room_1 s m #[Value.ref b] below meth c 9 Θ Q9 k n 4067 [some (.ref b), some (.ref (tR Θ 0 14)), some (.ref (tR Θ 0 29)), some (.ref (tR Θ 0 38)), some (.int (nI (6 * t))), some (.double d9), none, some (.double d9), none] [] (ms 0 (jS G a9 b9)) := v_goto (q := 4427) hC dL_law_4067 (by decide) (v_sub (LS2 := lsL Θ b (6 * t) none none) (fun i v h => by
    match i, h with
    | 0, h => exact h
    | 1, h => exact h
    | 2, h => exact h
    | 3, h => exact h
    | 4, h => exact h
    | 5, h => cases h
    | 6, h => cases h
    | 7, h => cases h
    | 8, h => cases h
    | i + 9, h => cases h) (v_widen (Nat.le_add_right _ _) (Nat.le_add_right _ _) (kk Θ _ (Th.refl Θ) (hS1.ms_ 0 (Nat.le_refl _)))))
  refine v_dload (q := 4043) hC dL_law_4041 rfl rfl ?_
  refine v_dload (q := 4045) hC dL_law_4043 rfl rfl ?_
  refine v_dcmp (q := 4046) hC dL_law_4045 rfl ?_
  refine v_if_eq (q := 4067) (q2 := 4049) hC dL_law_4046 (by decide) rfl (fun _ => kk2) (fun hne => ?_)
  refine v_dload (q := 4051) hC dL_law_4049 rfl rfl ?_
  refine v_dload (q := 4053) hC dL_law_4051 rfl rfl ?_
  refine v_dcmp (q := 4054) hC dL_law_4053 rfl ?_
  refine v_if_eq (q := 4065) (q2 := 4057) hC dL_law_4054 (by decide) rfl (fun h => absurd h hne) (fun _ => ?_)
  refine v_dload (q := 4059) hC dL_law_4057 rfl rfl ?_
  refine v_dload (q := 4061) hC dL_law_4059 rfl rfl ?_
  refine v_dcmp (q := 4062) hC dL_law_4061 rfl ?_
  exact v_if_ne (q := 4067) (q2 := 4065) hC dL_law_4062 (by decide) rfl (fun _ => kk2) (fun h => absurd h hne)
set_option maxHeartbeats 2000000 in
set_option maxRecDepth 20000 in
theorem law_c57 (hx : lCx p l s m meth c b L xs Θ) (hS : Sim G t) (hz : 6 * t + 6 ≤ L) (hroom : k + 15 ≤ 601024 ∧ n + 262 ≤ 7293034) (kk : ∀ (Θ2 : cTH) (G2 : GS), Th Θ Θ2 → Sim G2 (t + 1) → VG p l e room_1 s m #[Value.ref b] below meth c 9 Θ2 Q9 (k + 15) (n + 262) 4427 (lsL Θ2 b (6 * t) none none) [] G2) : VG p l e room_1 s m #[Value.ref b] below meth c 9 Θ Q9 k n 4070 (lsL Θ b (6 * t) none none) [] G := by
  have hC := hx.1
  have hl9 := hx.2.2.2.2
  have hL := hx.2.2.2.1
  have hop := op_requests hS  
  refine v_aload_n (i := 1) (q := 4071) hC dL_law_4070 rfl rfl rfl ?_
  refine v_callV0 (q := 4074) (rm := rm_X11_requests) hC (c_X11_requests hl9 Θ  G ) k_X11_requests im_yX11_requests se_yX11_requests ml_RL_388 dL_law_4071 rfl rfl rfl rfl rfl rfl (Nat.le_of_ble_eq_true rfl) ⟨Nat.le_of_ble_eq_true rfl, Nat.le_of_ble_eq_true rfl⟩ ⟨rfl, rfl⟩ (by have h1 := hroom.1; have h2 := hroom.2; exact ⟨Nat.le_trans (Nat.le_add_right _ _) h1, Nat.le_trans (Nat.le_add_right _ _) h2⟩) (fun v G1 h => ?_) (fun E G1 h => by obtain ⟨x, h4, _⟩ := hop _ _ h; cases h4)
  obtain ⟨x, e1, hA, h2⟩ := hop _ _ h
  cases e1
  have hM := hS.M.agC hA
  dsimp only [Option.toList, List.cons_append, List.nil_append]
  refine v_aload_n (i := 2) (q := 4075) hC dL_law_4074 rfl rfl rfl ?_
  refine v_callV0 (q := 4078) (rm := rm_X12_requests) hC (c_X12_requests hl9 _  G1 hM.1) k_X12_requests im_yX12_requests se_yX12_requests ml_RL_391 dL_law_4075 rfl rfl rfl rfl rfl rfl (Nat.le_of_ble_eq_true rfl) ⟨Nat.le_of_ble_eq_true rfl, Nat.le_of_ble_eq_true rfl⟩ ⟨rfl, rfl⟩ (by have h1 := hroom.1; have h2 := hroom.2; exact ⟨Nat.le_trans (Nat.le_add_right _ _) h1, Nat.le_trans (Nat.le_add_right _ _) h2⟩) (fun v2 G2 h3 => ?_) (fun E G2 h3 => by cases (h2 _ _ h3).1)
  obtain ⟨e2, h7⟩ := h2 _ _ h3
  cases e2
  dsimp only [Option.toList, List.cons_append, List.nil_append]
  exact v_icmp_eq (q := 4427) (q2 := 4081) hC dL_law_4078 (by decide) rfl (fun _ => v_widen (Nat.le_add_right _ _) (Nat.le_add_right _ _) (kk Θ G2 (Th.refl Θ) h7)) (fun h => absurd rfl h)
set_option maxHeartbeats 2000000 in
set_option maxRecDepth 20000 in
theorem law_c58 (hx : lCx p l s m meth c b L xs Θ) (hS : Sim G t) (hz : 6 * t + 6 ≤ L) (hroom : k + 15 ≤ 601024 ∧ n + 262 ≤ 7293034) (kk : ∀ (Θ2 : cTH) (G2 : GS), Th Θ Θ2 → Sim G2 (t + 1) → VG p l e room_1 s m #[Value.ref b] below meth c 9 Θ2 Q9 (k + 15) (n + 262) 4427 (lsL Θ2 b (6 * t) none none) [] G2) : VG p l e room_1 s m #[Value.ref b] below meth c 9 Θ Q9 k n 4083 (lsL Θ b (6 * t) none none) [] G := by
  have hC := hx.1
  have hl9 := hx.2.2.2.2
  have hL := hx.2.2.2.1
  have hop := op_refusals hS  
  refine v_aload_n (i := 1) (q := 4084) hC dL_law_4083 rfl rfl rfl ?_
  refine v_callV0 (q := 4087) (rm := rm_X11_refusals) hC (c_X11_refusals hl9 Θ  G ) k_X11_refusals im_yX11_refusals se_yX11_refusals ml_RL_392 dL_law_4084 rfl rfl rfl rfl rfl rfl (Nat.le_of_ble_eq_true rfl) ⟨Nat.le_of_ble_eq_true rfl, Nat.le_of_ble_eq_true rfl⟩ ⟨rfl, rfl⟩ (by have h1 := hroom.1; have h2 := hroom.2; exact ⟨Nat.le_trans (Nat.le_add_right _ _) h1, Nat.le_trans (Nat.le_add_right _ _) h2⟩) (fun v G1 h => ?_) (fun E G1 h => by obtain ⟨x, h4, _⟩ := hop _ _ h; cases h4)
  obtain ⟨x, e1, hA, h2⟩ := hop _ _ h
  cases e1
  have hM := hS.M.agC hA
  dsimp only [Option.toList, List.cons_append, List.nil_append]
  refine v_aload_n (i := 2) (q := 4088) hC dL_law_4087 rfl rfl rfl ?_
  refine v_callV0 (q := 4091) (rm := rm_X12_refusals) hC (c_X12_refusals hl9 _  G1 hM.1) k_X12_refusals im_yX12_refusals se_yX12_refusals ml_RL_395 dL_law_4088 rfl rfl rfl rfl rfl rfl (Nat.le_of_ble_eq_true rfl) ⟨Nat.le_of_ble_eq_true rfl, Nat.le_of_ble_eq_true rfl⟩ ⟨rfl, rfl⟩ (by have h1 := hroom.1; have h2 := hroom.2; exact ⟨Nat.le_trans (Nat.le_add_right _ _) h1, Nat.le_trans (Nat.le_add_right _ _) h2⟩) (fun v2 G2 h3 => ?_) (fun E G2 h3 => by cases (h2 _ _ h3).1)
  obtain ⟨e2, h7⟩ := h2 _ _ h3
  cases e2
  dsimp only [Option.toList, List.cons_append, List.nil_append]
  exact v_icmp_eq (q := 4427) (q2 := 4094) hC dL_law_4091 (by decide) rfl (fun _ => v_widen (Nat.le_add_right _ _) (Nat.le_add_right _ _) (kk Θ G2 (Th.refl Θ) h7)) (fun h => absurd rfl h)
set_option maxHeartbeats 2000000 in
set_option maxRecDepth 20000 in
theorem law_c59 (hx : lCx p l s m meth c b L xs Θ) (hS : Sim G t) (hz : 6 * t + 6 ≤ L) (hroom : k + 15 ≤ 601024 ∧ n + 262 ≤ 7293034) (kk : ∀ (Θ2 : cTH) (G2 : GS), Th Θ Θ2 → Sim G2 (t + 1) → VG p l e room_1 s m #[Value.ref b] below meth c 9 Θ2 Q9 (k + 15) (n + 262) 4427 (lsL Θ2 b (6 * t) none none) [] G2) : VG p l e room_1 s m #[Value.ref b] below meth c 9 Θ Q9 k n 4096 (lsL Θ b (6 * t) none none) [] G := by
  have hC := hx.1
  have hl9 := hx.2.2.2.2
  have hL := hx.2.2.2.1
  have hop := op_userOfRequest hS (show t < 2 ^ 20 by omega) (xs (6 * t + 1))
  refine v_aload_n (i := 1) (q := 4097) hC dL_law_4096 rfl rfl rfl ?_
  refine v_arg (q := 4103) hx 1 (by decide) ⟨dL_law_4097, dL_law_4098, dL_law_4100, dL_law_4101, dL_law_4102⟩ rfl (by omega) ?_
  refine v_aload_n (i := 3) (q := 4104) hC dL_law_4103 rfl rfl rfl ?_
  refine v_callSX (q := 4107) (rm := rm_L_userOfRequest) hC (w_L_userOfRequest hl9 Θ (xs (6 * t + 1)) G (c_X11_userOfRequest hl9 Θ (xs (6 * t + 1)) G ) hop.v (fun E G1 h => mem1 (hop.2 E G1 h).1)) kh_L_userOfRequest ml_RL_396 dL_law_4104 rfl rfl rfl (Nat.le_of_ble_eq_true rfl) ⟨Nat.le_of_ble_eq_true rfl, Nat.le_of_ble_eq_true rfl⟩ ⟨Nat.le_of_ble_eq_true rfl, Nat.le_of_ble_eq_true rfl⟩ hroom (fun v G1 hw => ?_) wQ_no
  obtain ⟨kv, rfl, hA, h2⟩ := hop.out cd1 hw
  have hM := hS.M.agC hA
  dsimp only [Option.toList, List.cons_append, List.nil_append]
  refine v_istore (q := 4109) hC dL_law_4107 rfl (lvc rfl) (Nat.le_of_ble_eq_true rfl) (Nat.le_of_ble_eq_true rfl) rfl ?_
  show VG p l e room_1 s m #[Value.ref b] below meth c 9 Θ Q9 (k + 15) (n + 262) 4109 (lsL Θ b (6 * t) (some (.int kv)) none) [] G1
  refine v_aload_n (i := 2) (q := 4110) hC dL_law_4109 rfl rfl rfl ?_
  refine v_arg (q := 4116) hx 1 (by decide) ⟨dL_law_4110, dL_law_4111, dL_law_4113, dL_law_4114, dL_law_4115⟩ rfl (by omega) ?_
  refine v_callV0 (q := 4119) (rm := rm_X12_userOfRequest) hC (c_X12_userOfRequest hl9 _ (xs (6 * t + 1)) G1 hM.2.2) k_X12_userOfRequest im_yX12_userOfRequest se_yX12_userOfRequest ml_RL_398 dL_law_4116 rfl rfl rfl rfl rfl rfl (Nat.le_of_ble_eq_true rfl) ⟨Nat.le_of_ble_eq_true rfl, Nat.le_of_ble_eq_true rfl⟩ ⟨rfl, rfl⟩ hroom (fun v2 G2 h3 => ?_) (fun E G2 h3 => by obtain ⟨y, h4, _⟩ := h2 _ _ h3; cases h4)
  obtain ⟨y, e4, h5, h6, h7⟩ := h2 _ _ h3
  cases e4
  dsimp only [Option.toList, List.cons_append, List.nil_append]
  exact law_tailI hx ⟨⟨dL_law_4119, dL_law_4121, dL_law_4122, dL_law_4125, dL_law_4127, dL_law_4132⟩, dL_law_4134, dL_law_4137, dL_law_4138, dL_law_4139, dL_law_4140, dL_law_4142, dL_law_4143, dL_law_4144, dL_law_4149⟩ (by decide) h5 h6 hroom (kk Θ G2 (Th.refl Θ) h7)
set_option maxHeartbeats 2000000 in
set_option maxRecDepth 20000 in
theorem law_c60 (hx : lCx p l s m meth c b L xs Θ) (hS : Sim G t) (hz : 6 * t + 6 ≤ L) (hroom : k + 15 ≤ 601024 ∧ n + 262 ≤ 7293034) (kk : ∀ (Θ2 : cTH) (G2 : GS), Th Θ Θ2 → Sim G2 (t + 1) → VG p l e room_1 s m #[Value.ref b] below meth c 9 Θ2 Q9 (k + 15) (n + 262) 4427 (lsL Θ2 b (6 * t) none none) [] G2) : VG p l e room_1 s m #[Value.ref b] below meth c 9 Θ Q9 k n 4152 (lsL Θ b (6 * t) none none) [] G := by
  have hC := hx.1
  have hl9 := hx.2.2.2.2
  have hL := hx.2.2.2.1
  have hop := op_objectOfRequest hS (show t < 2 ^ 20 by omega) (xs (6 * t + 1))
  refine v_aload_n (i := 1) (q := 4153) hC dL_law_4152 rfl rfl rfl ?_
  refine v_arg (q := 4159) hx 1 (by decide) ⟨dL_law_4153, dL_law_4154, dL_law_4156, dL_law_4157, dL_law_4158⟩ rfl (by omega) ?_
  refine v_aload_n (i := 3) (q := 4160) hC dL_law_4159 rfl rfl rfl ?_
  refine v_callSX (q := 4163) (rm := rm_L_objectOfRequest) hC (w_L_objectOfRequest hl9 Θ (xs (6 * t + 1)) G (c_X11_objectOfRequest hl9 Θ (xs (6 * t + 1)) G ) hop.v (fun E G1 h => mem1 (hop.2 E G1 h).1)) kh_L_objectOfRequest ml_RL_399 dL_law_4160 rfl rfl rfl (Nat.le_of_ble_eq_true rfl) ⟨Nat.le_of_ble_eq_true rfl, Nat.le_of_ble_eq_true rfl⟩ ⟨Nat.le_of_ble_eq_true rfl, Nat.le_of_ble_eq_true rfl⟩ hroom (fun v G1 hw => ?_) wQ_no
  obtain ⟨kv, rfl, hA, h2⟩ := hop.out cd1 hw
  have hM := hS.M.agC hA
  dsimp only [Option.toList, List.cons_append, List.nil_append]
  refine v_istore (q := 4165) hC dL_law_4163 rfl (lvc rfl) (Nat.le_of_ble_eq_true rfl) (Nat.le_of_ble_eq_true rfl) rfl ?_
  show VG p l e room_1 s m #[Value.ref b] below meth c 9 Θ Q9 (k + 15) (n + 262) 4165 (lsL Θ b (6 * t) (some (.int kv)) none) [] G1
  refine v_aload_n (i := 2) (q := 4166) hC dL_law_4165 rfl rfl rfl ?_
  refine v_arg (q := 4172) hx 1 (by decide) ⟨dL_law_4166, dL_law_4167, dL_law_4169, dL_law_4170, dL_law_4171⟩ rfl (by omega) ?_
  refine v_callV0 (q := 4175) (rm := rm_X12_objectOfRequest) hC (c_X12_objectOfRequest hl9 _ (xs (6 * t + 1)) G1 hM.2.2) k_X12_objectOfRequest im_yX12_objectOfRequest se_yX12_objectOfRequest ml_RL_401 dL_law_4172 rfl rfl rfl rfl rfl rfl (Nat.le_of_ble_eq_true rfl) ⟨Nat.le_of_ble_eq_true rfl, Nat.le_of_ble_eq_true rfl⟩ ⟨rfl, rfl⟩ hroom (fun v2 G2 h3 => ?_) (fun E G2 h3 => by obtain ⟨y, h4, _⟩ := h2 _ _ h3; cases h4)
  obtain ⟨y, e4, h5, h6, h7⟩ := h2 _ _ h3
  cases e4
  dsimp only [Option.toList, List.cons_append, List.nil_append]
  exact law_tailI hx ⟨⟨dL_law_4175, dL_law_4177, dL_law_4178, dL_law_4181, dL_law_4183, dL_law_4188⟩, dL_law_4190, dL_law_4193, dL_law_4194, dL_law_4195, dL_law_4196, dL_law_4198, dL_law_4199, dL_law_4200, dL_law_4205⟩ (by decide) h5 h6 hroom (kk Θ G2 (Th.refl Θ) h7)
set_option maxHeartbeats 2000000 in
set_option maxRecDepth 20000 in
theorem law_c61 (hx : lCx p l s m meth c b L xs Θ) (hS : Sim G t) (hz : 6 * t + 6 ≤ L) (hroom : k + 15 ≤ 601024 ∧ n + 262 ≤ 7293034) (kk : ∀ (Θ2 : cTH) (G2 : GS), Th Θ Θ2 → Sim G2 (t + 1) → VG p l e room_1 s m #[Value.ref b] below meth c 9 Θ2 Q9 (k + 15) (n + 262) 4427 (lsL Θ2 b (6 * t) none none) [] G2) : VG p l e room_1 s m #[Value.ref b] below meth c 9 Θ Q9 k n 4208 (lsL Θ b (6 * t) none none) [] G := by
  have hC := hx.1
  have hl9 := hx.2.2.2.2
  have hL := hx.2.2.2.1
  have hop := op_wasAllowed hS (show t < 2 ^ 20 by omega) (xs (6 * t + 1))
  refine v_aload_n (i := 1) (q := 4209) hC dL_law_4208 rfl rfl rfl ?_
  refine v_arg (q := 4215) hx 1 (by decide) ⟨dL_law_4209, dL_law_4210, dL_law_4212, dL_law_4213, dL_law_4214⟩ rfl (by omega) ?_
  refine v_aload_n (i := 3) (q := 4216) hC dL_law_4215 rfl rfl rfl ?_
  refine v_callSX (q := 4219) (rm := rm_L_wasAllowed) hC (w_L_wasAllowed hl9 Θ (xs (6 * t + 1)) G (c_X11_wasAllowed hl9 Θ (xs (6 * t + 1)) G ) hop.v (fun E G1 h => mem1 (hop.2 E G1 h).1)) kh_L_wasAllowed ml_RL_402 dL_law_4216 rfl rfl rfl (Nat.le_of_ble_eq_true rfl) ⟨Nat.le_of_ble_eq_true rfl, Nat.le_of_ble_eq_true rfl⟩ ⟨Nat.le_of_ble_eq_true rfl, Nat.le_of_ble_eq_true rfl⟩ hroom (fun v G1 hw => ?_) wQ_no
  obtain ⟨kv, rfl, hA, h2⟩ := hop.out cd1 hw
  have hM := hS.M.agC hA
  dsimp only [Option.toList, List.cons_append, List.nil_append]
  refine v_istore (q := 4221) hC dL_law_4219 rfl (lvc rfl) (Nat.le_of_ble_eq_true rfl) (Nat.le_of_ble_eq_true rfl) rfl ?_
  show VG p l e room_1 s m #[Value.ref b] below meth c 9 Θ Q9 (k + 15) (n + 262) 4221 (lsL Θ b (6 * t) (some (.int kv)) none) [] G1
  refine v_aload_n (i := 2) (q := 4222) hC dL_law_4221 rfl rfl rfl ?_
  refine v_arg (q := 4228) hx 1 (by decide) ⟨dL_law_4222, dL_law_4223, dL_law_4225, dL_law_4226, dL_law_4227⟩ rfl (by omega) ?_
  refine v_callV0 (q := 4231) (rm := rm_X12_wasAllowed) hC (c_X12_wasAllowed hl9 _ (xs (6 * t + 1)) G1 hM.2.2) k_X12_wasAllowed im_yX12_wasAllowed se_yX12_wasAllowed ml_RL_404 dL_law_4228 rfl rfl rfl rfl rfl rfl (Nat.le_of_ble_eq_true rfl) ⟨Nat.le_of_ble_eq_true rfl, Nat.le_of_ble_eq_true rfl⟩ ⟨rfl, rfl⟩ hroom (fun v2 G2 h3 => ?_) (fun E G2 h3 => by obtain ⟨y, h4, _⟩ := h2 _ _ h3; cases h4)
  obtain ⟨y, e4, h5, h6, h7⟩ := h2 _ _ h3
  cases e4
  dsimp only [Option.toList, List.cons_append, List.nil_append]
  exact law_tailZ hx ⟨⟨dL_law_4231, dL_law_4233, dL_law_4234, dL_law_4237, dL_law_4239, dL_law_4244⟩, dL_law_4246, dL_law_4249, dL_law_4250, dL_law_4251, dL_law_4252, dL_law_4254, dL_law_4257, dL_law_4258, dL_law_4261, dL_law_4262, dL_law_4263, dL_law_4268⟩ (by decide) h5 h6 hroom (kk Θ G2 (Th.refl Θ) h7)
set_option maxHeartbeats 2000000 in
set_option maxRecDepth 20000 in
theorem law_c62 (hx : lCx p l s m meth c b L xs Θ) (hS : Sim G t) (hz : 6 * t + 6 ≤ L) (hroom : k + 15 ≤ 601024 ∧ n + 262 ≤ 7293034) (kk : ∀ (Θ2 : cTH) (G2 : GS), Th Θ Θ2 → Sim G2 (t + 1) → VG p l e room_1 s m #[Value.ref b] below meth c 9 Θ2 Q9 (k + 15) (n + 262) 4427 (lsL Θ2 b (6 * t) none none) [] G2) : VG p l e room_1 s m #[Value.ref b] below meth c 9 Θ Q9 k n 4271 (lsL Θ b (6 * t) none none) [] G := by
  have hC := hx.1
  have hl9 := hx.2.2.2.2
  have hL := hx.2.2.2.1
  have hop := op_undo hS (show t < 2 ^ 20 by omega) 
  refine v_aload_n (i := 1) (q := 4272) hC dL_law_4271 rfl rfl rfl ?_
  refine v_aload_n (i := 3) (q := 4273) hC dL_law_4272 rfl rfl rfl ?_
  refine v_callSX (q := 4276) (rm := rm_L_undo) hC (w_L_undo hl9 Θ  G (c_X11_undo hl9 Θ  G ) hop.v (fun E G1 h => mem1 (hop.2 E G1 h).1)) kh_L_undo ml_RL_405 dL_law_4273 rfl rfl rfl (Nat.le_of_ble_eq_true rfl) ⟨Nat.le_of_ble_eq_true rfl, Nat.le_of_ble_eq_true rfl⟩ ⟨Nat.le_of_ble_eq_true rfl, Nat.le_of_ble_eq_true rfl⟩ hroom (fun v G1 hw => ?_) wQ_no
  obtain ⟨kv, rfl, hA, h2⟩ := hop.out cd1 hw
  have hM := hS.M.agC hA
  dsimp only [Option.toList, List.cons_append, List.nil_append]
  refine v_istore (q := 4278) hC dL_law_4276 rfl (lvc rfl) (Nat.le_of_ble_eq_true rfl) (Nat.le_of_ble_eq_true rfl) rfl ?_
  show VG p l e room_1 s m #[Value.ref b] below meth c 9 Θ Q9 (k + 15) (n + 262) 4278 (lsL Θ b (6 * t) (some (.int kv)) none) [] G1
  refine v_aload_n (i := 2) (q := 4279) hC dL_law_4278 rfl rfl rfl ?_
  refine v_callV0 (q := 4282) (rm := rm_X12_undo) hC (c_X12_undo hl9 _  G1 hM.1) k_X12_undo im_yX12_undo se_yX12_undo ml_RL_407 dL_law_4279 rfl rfl rfl rfl rfl rfl (Nat.le_of_ble_eq_true rfl) ⟨Nat.le_of_ble_eq_true rfl, Nat.le_of_ble_eq_true rfl⟩ ⟨rfl, rfl⟩ hroom (fun v2 G2 h3 => ?_) (fun E G2 h3 => by obtain ⟨y, h4, _⟩ := h2 _ _ h3; cases h4)
  obtain ⟨y, e4, h5, h6, h7⟩ := h2 _ _ h3
  cases e4
  dsimp only [Option.toList, List.cons_append, List.nil_append]
  exact law_tailI hx ⟨⟨dL_law_4282, dL_law_4284, dL_law_4285, dL_law_4288, dL_law_4290, dL_law_4295⟩, dL_law_4297, dL_law_4300, dL_law_4301, dL_law_4302, dL_law_4303, dL_law_4305, dL_law_4306, dL_law_4307, dL_law_4312⟩ (by decide) h5 h6 hroom (kk Θ G2 (Th.refl Θ) h7)
set_option maxHeartbeats 2000000 in
set_option maxRecDepth 20000 in
theorem law_c63 (hx : lCx p l s m meth c b L xs Θ) (hS : Sim G t) (hz : 6 * t + 6 ≤ L) (hroom : k + 15 ≤ 601024 ∧ n + 262 ≤ 7293034) (kk : ∀ (Θ2 : cTH) (G2 : GS), Th Θ Θ2 → Sim G2 (t + 1) → VG p l e room_1 s m #[Value.ref b] below meth c 9 Θ2 Q9 (k + 15) (n + 262) 4427 (lsL Θ2 b (6 * t) none none) [] G2) : VG p l e room_1 s m #[Value.ref b] below meth c 9 Θ Q9 k n 4315 (lsL Θ b (6 * t) none none) [] G := by
  have hC := hx.1
  have hl9 := hx.2.2.2.2
  have hL := hx.2.2.2.1
  have hO := hx.2.1
  have hop := op_save hS (show t < 2 ^ 20 by omega) (xs (6 * t + 1))
  refine v_aload_n (i := 1) (q := 4316) hC dL_law_4315 rfl rfl rfl ?_
  refine v_arg (q := 4322) hx 1 (by decide) ⟨dL_law_4316, dL_law_4317, dL_law_4319, dL_law_4320, dL_law_4321⟩ rfl (by omega) ?_
  refine v_aload_n (i := 3) (q := 4323) hC dL_law_4322 rfl rfl rfl ?_
  refine v_callSXS (q := 4326) (rm := rs_L_save) hC hO (wS_save hl9 Θ (xs (6 * t + 1)) G) kh_L_save ml_RL_408 dL_law_4323 rfl rfl rfl (Nat.le_of_ble_eq_true rfl) ⟨Nat.le_of_ble_eq_true rfl, Nat.le_of_ble_eq_true rfl⟩ ⟨Nat.le_of_ble_eq_true rfl, Nat.le_of_ble_eq_true rfl⟩ hroom (fun v Θ2 G1 hTh hw => ?_) wQ_no
  obtain ⟨kv, rfl, hA, h2⟩ := hop.out cd1 hw
  have hM := hS.M.agC hA
  dsimp only [Option.toList, List.cons_append, List.nil_append]
  have hx2 := hx.th hTh
  have hC2 := hx2.1
  refine v_sub (LS2 := lsL Θ2 b (6 * t) none none) (fun i v h => by rw [lsL_th hTh]; exact h) ?_
  refine v_istore (q := 4328) hC2 dL_law_4326 rfl (lvc rfl) (Nat.le_of_ble_eq_true rfl) (Nat.le_of_ble_eq_true rfl) rfl ?_
  show VG p l e room_1 s m #[Value.ref b] below meth c 9 Θ2 Q9 (k + 15) (n + 262) 4328 (lsL Θ2 b (6 * t) (some (.int kv)) none) [] G1
  refine v_aload_n (i := 2) (q := 4329) hC2 dL_law_4328 rfl rfl rfl ?_
  refine v_arg (q := 4335) hx2 1 (by decide) ⟨dL_law_4329, dL_law_4330, dL_law_4332, dL_law_4333, dL_law_4334⟩ rfl (by omega) ?_
  refine v_callV0 (q := 4338) (rm := rm_X12_save) hC2 (c_X12_save hl9 _ (xs (6 * t + 1)) G1 ) k_X12_save im_yX12_save se_yX12_save ml_RL_410 dL_law_4335 rfl rfl rfl rfl rfl rfl (Nat.le_of_ble_eq_true rfl) ⟨Nat.le_of_ble_eq_true rfl, Nat.le_of_ble_eq_true rfl⟩ ⟨rfl, rfl⟩ hroom (fun v2 G2 h3 => ?_) (fun E G2 h3 => by obtain ⟨y, h4, _⟩ := h2 _ _ h3; cases h4)
  obtain ⟨y, e4, h5, h6, h7⟩ := h2 _ _ h3
  cases e4
  dsimp only [Option.toList, List.cons_append, List.nil_append]
  exact law_tailI hx2 ⟨⟨dL_law_4338, dL_law_4340, dL_law_4341, dL_law_4344, dL_law_4346, dL_law_4351⟩, dL_law_4353, dL_law_4356, dL_law_4357, dL_law_4358, dL_law_4359, dL_law_4361, dL_law_4362, dL_law_4363, dL_law_4368⟩ (by decide) h5 h6 hroom (kk Θ2 G2 hTh h7)
set_option maxHeartbeats 2000000 in
set_option maxRecDepth 20000 in
theorem law_c64 (hx : lCx p l s m meth c b L xs Θ) (hS : Sim G t) (hz : 6 * t + 6 ≤ L) (hroom : k + 15 ≤ 601024 ∧ n + 262 ≤ 7293034) (kk : ∀ (Θ2 : cTH) (G2 : GS), Th Θ Θ2 → Sim G2 (t + 1) → VG p l e room_1 s m #[Value.ref b] below meth c 9 Θ2 Q9 (k + 15) (n + 262) 4427 (lsL Θ2 b (6 * t) none none) [] G2) : VG p l e room_1 s m #[Value.ref b] below meth c 9 Θ Q9 k n 4371 (lsL Θ b (6 * t) none none) [] G := by
  have hC := hx.1
  have hl9 := hx.2.2.2.2
  have hL := hx.2.2.2.1
  have hop := op_restore hS (show t < 2 ^ 20 by omega) (xs (6 * t + 1))
  refine v_aload_n (i := 1) (q := 4372) hC dL_law_4371 rfl rfl rfl ?_
  refine v_arg (q := 4378) hx 1 (by decide) ⟨dL_law_4372, dL_law_4373, dL_law_4375, dL_law_4376, dL_law_4377⟩ rfl (by omega) ?_
  refine v_aload_n (i := 3) (q := 4379) hC dL_law_4378 rfl rfl rfl ?_
  refine v_callSX (q := 4382) (rm := rm_L_restore) hC (w_L_restore hl9 Θ (xs (6 * t + 1)) G (c_X11_restore hl9 Θ (xs (6 * t + 1)) G ) hop.v (fun E G1 h => mem2 (hop.2 E G1 h).1)) kh_L_restore ml_RL_411 dL_law_4379 rfl rfl rfl (Nat.le_of_ble_eq_true rfl) ⟨Nat.le_of_ble_eq_true rfl, Nat.le_of_ble_eq_true rfl⟩ ⟨Nat.le_of_ble_eq_true rfl, Nat.le_of_ble_eq_true rfl⟩ hroom (fun v G1 hw => ?_) wQ_no
  obtain ⟨kv, rfl, hA, h2⟩ := hop.out cd2 hw
  have hM := hS.M.agC hA
  dsimp only [Option.toList, List.cons_append, List.nil_append]
  refine v_istore (q := 4384) hC dL_law_4382 rfl (lvc rfl) (Nat.le_of_ble_eq_true rfl) (Nat.le_of_ble_eq_true rfl) rfl ?_
  show VG p l e room_1 s m #[Value.ref b] below meth c 9 Θ Q9 (k + 15) (n + 262) 4384 (lsL Θ b (6 * t) (some (.int kv)) none) [] G1
  refine v_aload_n (i := 2) (q := 4385) hC dL_law_4384 rfl rfl rfl ?_
  refine v_arg (q := 4391) hx 1 (by decide) ⟨dL_law_4385, dL_law_4386, dL_law_4388, dL_law_4389, dL_law_4390⟩ rfl (by omega) ?_
  refine v_callV0 (q := 4394) (rm := rm_X12_restore) hC (c_X12_restore hl9 _ (xs (6 * t + 1)) G1 hM.1) k_X12_restore im_yX12_restore se_yX12_restore ml_RL_413 dL_law_4391 rfl rfl rfl rfl rfl rfl (Nat.le_of_ble_eq_true rfl) ⟨Nat.le_of_ble_eq_true rfl, Nat.le_of_ble_eq_true rfl⟩ ⟨rfl, rfl⟩ hroom (fun v2 G2 h3 => ?_) (fun E G2 h3 => by obtain ⟨y, h4, _⟩ := h2 _ _ h3; cases h4)
  obtain ⟨y, e4, h5, h6, h7⟩ := h2 _ _ h3
  cases e4
  dsimp only [Option.toList, List.cons_append, List.nil_append]
  exact law_tailI hx ⟨⟨dL_law_4394, dL_law_4396, dL_law_4397, dL_law_4400, dL_law_4402, dL_law_4407⟩, dL_law_4409, dL_law_4412, dL_law_4413, dL_law_4414, dL_law_4415, dL_law_4417, dL_law_4418, dL_law_4419, dL_law_4424⟩ (by decide) h5 h6 hroom (kk Θ G2 (Th.refl Θ) h7)
end LAWC3
