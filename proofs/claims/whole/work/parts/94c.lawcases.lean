/-! The cases of the law, 33 to 48 (by genlaw.py). -/
section LAWC2
variable {p : Program} {l : Launch} {e : Env} {s : State} {m : MethodId} {below : List Frame} {meth : Method} {c : Code} {Θ : cTH} {Q9 : State → Prop} {k n t b L : Nat} {xs : Nat → Int32} {G : GS}
set_option maxHeartbeats 2000000 in
set_option maxRecDepth 20000 in
theorem law_c33 (hx : lCx p l s m meth c b L xs Θ) (hS : Sim G t) (hz : 6 * t + 6 ≤ L) (hroom : k + 15 ≤ 601024 ∧ n + 262 ≤ 7293034) (kk : ∀ (Θ2 : cTH) (G2 : GS), Th Θ Θ2 → Sim G2 (t + 1) → VG p l e room_1 s m #[Value.ref b] below meth c 9 Θ2 Q9 (k + 15) (n + 262) 4427 (lsL Θ2 b (6 * t) none none) [] G2) : VG p l e room_1 s m #[Value.ref b] below meth c 9 Θ Q9 k n 2519 (lsL Θ b (6 * t) none none) [] G := by
  have hC := hx.1
  have hl9 := hx.2.2.2.2
  have hL := hx.2.2.2.1
  have hop := op_isThere hS  (xs (6 * t + 1))
  refine v_aload_n (i := 1) (q := 2520) hC dL_law_2519 rfl rfl rfl ?_
  refine v_arg (q := 2526) hx 1 (by decide) ⟨dL_law_2520, dL_law_2521, dL_law_2523, dL_law_2524, dL_law_2525⟩ rfl (by omega) ?_
  refine v_callV0 (q := 2529) (rm := rm_X11_isThere) hC (c_X11_isThere hl9 Θ (xs (6 * t + 1)) G ) k_X11_isThere im_yX11_isThere se_yX11_isThere ml_RL_312 dL_law_2526 rfl rfl rfl rfl rfl rfl (Nat.le_of_ble_eq_true rfl) ⟨Nat.le_of_ble_eq_true rfl, Nat.le_of_ble_eq_true rfl⟩ ⟨rfl, rfl⟩ (by have h1 := hroom.1; have h2 := hroom.2; exact ⟨Nat.le_trans (Nat.le_add_right _ _) h1, Nat.le_trans (Nat.le_add_right _ _) h2⟩) (fun v G1 h => ?_) (fun E G1 h => by obtain ⟨x, h4, _⟩ := hop _ _ h; cases h4)
  obtain ⟨x, e1, hA, h2⟩ := hop _ _ h
  cases e1
  have hM := hS.M.agC hA
  dsimp only [Option.toList, List.cons_append, List.nil_append]
  refine v_aload_n (i := 2) (q := 2530) hC dL_law_2529 rfl rfl rfl ?_
  refine v_arg (q := 2536) hx 1 (by decide) ⟨dL_law_2530, dL_law_2531, dL_law_2533, dL_law_2534, dL_law_2535⟩ rfl (by omega) ?_
  refine v_callV0 (q := 2539) (rm := rm_X12_isThere) hC (c_X12_isThere hl9 _ (xs (6 * t + 1)) G1 hM.1) k_X12_isThere im_yX12_isThere se_yX12_isThere ml_RL_315 dL_law_2536 rfl rfl rfl rfl rfl rfl (Nat.le_of_ble_eq_true rfl) ⟨Nat.le_of_ble_eq_true rfl, Nat.le_of_ble_eq_true rfl⟩ ⟨rfl, rfl⟩ (by have h1 := hroom.1; have h2 := hroom.2; exact ⟨Nat.le_trans (Nat.le_add_right _ _) h1, Nat.le_trans (Nat.le_add_right _ _) h2⟩) (fun v2 G2 h3 => ?_) (fun E G2 h3 => by cases (h2 _ _ h3).1)
  obtain ⟨e2, h7⟩ := h2 _ _ h3
  cases e2
  dsimp only [Option.toList, List.cons_append, List.nil_append]
  exact v_icmp_eq (q := 4427) (q2 := 2542) hC dL_law_2539 (by decide) rfl (fun _ => v_widen (Nat.le_add_right _ _) (Nat.le_add_right _ _) (kk Θ G2 (Th.refl Θ) h7)) (fun h => absurd rfl h)
set_option maxHeartbeats 2000000 in
set_option maxRecDepth 20000 in
theorem law_c34 (hx : lCx p l s m meth c b L xs Θ) (hS : Sim G t) (hz : 6 * t + 6 ≤ L) (hroom : k + 15 ≤ 601024 ∧ n + 262 ≤ 7293034) (kk : ∀ (Θ2 : cTH) (G2 : GS), Th Θ Θ2 → Sim G2 (t + 1) → VG p l e room_1 s m #[Value.ref b] below meth c 9 Θ2 Q9 (k + 15) (n + 262) 4427 (lsL Θ2 b (6 * t) none none) [] G2) : VG p l e room_1 s m #[Value.ref b] below meth c 9 Θ Q9 k n 2544 (lsL Θ b (6 * t) none none) [] G := by
  have hC := hx.1
  have hl9 := hx.2.2.2.2
  have hL := hx.2.2.2.1
  have hop := op_parentOf hS (show t < 2 ^ 20 by omega) (xs (6 * t + 1))
  refine v_aload_n (i := 1) (q := 2545) hC dL_law_2544 rfl rfl rfl ?_
  refine v_arg (q := 2551) hx 1 (by decide) ⟨dL_law_2545, dL_law_2546, dL_law_2548, dL_law_2549, dL_law_2550⟩ rfl (by omega) ?_
  refine v_aload_n (i := 3) (q := 2552) hC dL_law_2551 rfl rfl rfl ?_
  refine v_callSX (q := 2555) (rm := rm_L_parentOf) hC (w_L_parentOf hl9 Θ (xs (6 * t + 1)) G (c_X11_parentOf hl9 Θ (xs (6 * t + 1)) G ) hop.v (fun E G1 h => mem1 (hop.2 E G1 h).1)) kh_L_parentOf ml_RL_316 dL_law_2552 rfl rfl rfl (Nat.le_of_ble_eq_true rfl) ⟨Nat.le_of_ble_eq_true rfl, Nat.le_of_ble_eq_true rfl⟩ ⟨Nat.le_of_ble_eq_true rfl, Nat.le_of_ble_eq_true rfl⟩ hroom (fun v G1 hw => ?_) wQ_no
  obtain ⟨kv, rfl, hA, h2⟩ := hop.out cd1 hw
  have hM := hS.M.agC hA
  dsimp only [Option.toList, List.cons_append, List.nil_append]
  refine v_istore (q := 2557) hC dL_law_2555 rfl (lvc rfl) (Nat.le_of_ble_eq_true rfl) (Nat.le_of_ble_eq_true rfl) rfl ?_
  show VG p l e room_1 s m #[Value.ref b] below meth c 9 Θ Q9 (k + 15) (n + 262) 2557 (lsL Θ b (6 * t) (some (.int kv)) none) [] G1
  refine v_aload_n (i := 2) (q := 2558) hC dL_law_2557 rfl rfl rfl ?_
  refine v_arg (q := 2564) hx 1 (by decide) ⟨dL_law_2558, dL_law_2559, dL_law_2561, dL_law_2562, dL_law_2563⟩ rfl (by omega) ?_
  refine v_callV0 (q := 2567) (rm := rm_X12_parentOf) hC (c_X12_parentOf hl9 _ (xs (6 * t + 1)) G1 ) k_X12_parentOf im_yX12_parentOf se_yX12_parentOf ml_RL_318 dL_law_2564 rfl rfl rfl rfl rfl rfl (Nat.le_of_ble_eq_true rfl) ⟨Nat.le_of_ble_eq_true rfl, Nat.le_of_ble_eq_true rfl⟩ ⟨rfl, rfl⟩ hroom (fun v2 G2 h3 => ?_) (fun E G2 h3 => by obtain ⟨y, h4, _⟩ := h2 _ _ h3; cases h4)
  obtain ⟨y, e4, h5, h6, h7⟩ := h2 _ _ h3
  cases e4
  dsimp only [Option.toList, List.cons_append, List.nil_append]
  exact law_tailI hx ⟨⟨dL_law_2567, dL_law_2569, dL_law_2570, dL_law_2573, dL_law_2575, dL_law_2580⟩, dL_law_2582, dL_law_2585, dL_law_2586, dL_law_2587, dL_law_2588, dL_law_2590, dL_law_2591, dL_law_2592, dL_law_2597⟩ (by decide) h5 h6 hroom (kk Θ G2 (Th.refl Θ) h7)
set_option maxHeartbeats 2000000 in
set_option maxRecDepth 20000 in
theorem law_c35 (hx : lCx p l s m meth c b L xs Θ) (hS : Sim G t) (hz : 6 * t + 6 ≤ L) (hroom : k + 15 ≤ 601024 ∧ n + 262 ≤ 7293034) (kk : ∀ (Θ2 : cTH) (G2 : GS), Th Θ Θ2 → Sim G2 (t + 1) → VG p l e room_1 s m #[Value.ref b] below meth c 9 Θ2 Q9 (k + 15) (n + 262) 4427 (lsL Θ2 b (6 * t) none none) [] G2) : VG p l e room_1 s m #[Value.ref b] below meth c 9 Θ Q9 k n 2600 (lsL Θ b (6 * t) none none) [] G := by
  have hC := hx.1
  have hl9 := hx.2.2.2.2
  have hL := hx.2.2.2.1
  have hop := op_ownerOf hS (show t < 2 ^ 20 by omega) (xs (6 * t + 1))
  refine v_aload_n (i := 1) (q := 2601) hC dL_law_2600 rfl rfl rfl ?_
  refine v_arg (q := 2607) hx 1 (by decide) ⟨dL_law_2601, dL_law_2602, dL_law_2604, dL_law_2605, dL_law_2606⟩ rfl (by omega) ?_
  refine v_aload_n (i := 3) (q := 2608) hC dL_law_2607 rfl rfl rfl ?_
  refine v_callSX (q := 2611) (rm := rm_L_ownerOf) hC (w_L_ownerOf hl9 Θ (xs (6 * t + 1)) G (c_X11_ownerOf hl9 Θ (xs (6 * t + 1)) G ) hop.v (fun E G1 h => mem1 (hop.2 E G1 h).1)) kh_L_ownerOf ml_RL_319 dL_law_2608 rfl rfl rfl (Nat.le_of_ble_eq_true rfl) ⟨Nat.le_of_ble_eq_true rfl, Nat.le_of_ble_eq_true rfl⟩ ⟨Nat.le_of_ble_eq_true rfl, Nat.le_of_ble_eq_true rfl⟩ hroom (fun v G1 hw => ?_) wQ_no
  obtain ⟨kv, rfl, hA, h2⟩ := hop.out cd1 hw
  have hM := hS.M.agC hA
  dsimp only [Option.toList, List.cons_append, List.nil_append]
  refine v_istore (q := 2613) hC dL_law_2611 rfl (lvc rfl) (Nat.le_of_ble_eq_true rfl) (Nat.le_of_ble_eq_true rfl) rfl ?_
  show VG p l e room_1 s m #[Value.ref b] below meth c 9 Θ Q9 (k + 15) (n + 262) 2613 (lsL Θ b (6 * t) (some (.int kv)) none) [] G1
  refine v_aload_n (i := 2) (q := 2614) hC dL_law_2613 rfl rfl rfl ?_
  refine v_arg (q := 2620) hx 1 (by decide) ⟨dL_law_2614, dL_law_2615, dL_law_2617, dL_law_2618, dL_law_2619⟩ rfl (by omega) ?_
  refine v_callV0 (q := 2623) (rm := rm_X12_ownerOf) hC (c_X12_ownerOf hl9 _ (xs (6 * t + 1)) G1 ) k_X12_ownerOf im_yX12_ownerOf se_yX12_ownerOf ml_RL_321 dL_law_2620 rfl rfl rfl rfl rfl rfl (Nat.le_of_ble_eq_true rfl) ⟨Nat.le_of_ble_eq_true rfl, Nat.le_of_ble_eq_true rfl⟩ ⟨rfl, rfl⟩ hroom (fun v2 G2 h3 => ?_) (fun E G2 h3 => by obtain ⟨y, h4, _⟩ := h2 _ _ h3; cases h4)
  obtain ⟨y, e4, h5, h6, h7⟩ := h2 _ _ h3
  cases e4
  dsimp only [Option.toList, List.cons_append, List.nil_append]
  exact law_tailI hx ⟨⟨dL_law_2623, dL_law_2625, dL_law_2626, dL_law_2629, dL_law_2631, dL_law_2636⟩, dL_law_2638, dL_law_2641, dL_law_2642, dL_law_2643, dL_law_2644, dL_law_2646, dL_law_2647, dL_law_2648, dL_law_2653⟩ (by decide) h5 h6 hroom (kk Θ G2 (Th.refl Θ) h7)
set_option maxHeartbeats 2000000 in
set_option maxRecDepth 20000 in
theorem law_c36 (hx : lCx p l s m meth c b L xs Θ) (hS : Sim G t) (hz : 6 * t + 6 ≤ L) (hroom : k + 15 ≤ 601024 ∧ n + 262 ≤ 7293034) (kk : ∀ (Θ2 : cTH) (G2 : GS), Th Θ Θ2 → Sim G2 (t + 1) → VG p l e room_1 s m #[Value.ref b] below meth c 9 Θ2 Q9 (k + 15) (n + 262) 4427 (lsL Θ2 b (6 * t) none none) [] G2) : VG p l e room_1 s m #[Value.ref b] below meth c 9 Θ Q9 k n 2656 (lsL Θ b (6 * t) none none) [] G := by
  have hC := hx.1
  have hl9 := hx.2.2.2.2
  have hL := hx.2.2.2.1
  have hop := op_maskOf hS (show t < 2 ^ 20 by omega) (xs (6 * t + 1))
  refine v_aload_n (i := 1) (q := 2657) hC dL_law_2656 rfl rfl rfl ?_
  refine v_arg (q := 2663) hx 1 (by decide) ⟨dL_law_2657, dL_law_2658, dL_law_2660, dL_law_2661, dL_law_2662⟩ rfl (by omega) ?_
  refine v_aload_n (i := 3) (q := 2664) hC dL_law_2663 rfl rfl rfl ?_
  refine v_callSX (q := 2667) (rm := rm_L_maskOf) hC (w_L_maskOf hl9 Θ (xs (6 * t + 1)) G (c_X11_maskOf hl9 Θ (xs (6 * t + 1)) G ) hop.v (fun E G1 h => mem1 (hop.2 E G1 h).1)) kh_L_maskOf ml_RL_322 dL_law_2664 rfl rfl rfl (Nat.le_of_ble_eq_true rfl) ⟨Nat.le_of_ble_eq_true rfl, Nat.le_of_ble_eq_true rfl⟩ ⟨Nat.le_of_ble_eq_true rfl, Nat.le_of_ble_eq_true rfl⟩ hroom (fun v G1 hw => ?_) wQ_no
  obtain ⟨kv, rfl, hA, h2⟩ := hop.out cd1 hw
  have hM := hS.M.agC hA
  dsimp only [Option.toList, List.cons_append, List.nil_append]
  refine v_istore (q := 2669) hC dL_law_2667 rfl (lvc rfl) (Nat.le_of_ble_eq_true rfl) (Nat.le_of_ble_eq_true rfl) rfl ?_
  show VG p l e room_1 s m #[Value.ref b] below meth c 9 Θ Q9 (k + 15) (n + 262) 2669 (lsL Θ b (6 * t) (some (.int kv)) none) [] G1
  refine v_aload_n (i := 2) (q := 2670) hC dL_law_2669 rfl rfl rfl ?_
  refine v_arg (q := 2676) hx 1 (by decide) ⟨dL_law_2670, dL_law_2671, dL_law_2673, dL_law_2674, dL_law_2675⟩ rfl (by omega) ?_
  refine v_callV0 (q := 2679) (rm := rm_X12_maskOf) hC (c_X12_maskOf hl9 _ (xs (6 * t + 1)) G1 ) k_X12_maskOf im_yX12_maskOf se_yX12_maskOf ml_RL_324 dL_law_2676 rfl rfl rfl rfl rfl rfl (Nat.le_of_ble_eq_true rfl) ⟨Nat.le_of_ble_eq_true rfl, Nat.le_of_ble_eq_true rfl⟩ ⟨rfl, rfl⟩ hroom (fun v2 G2 h3 => ?_) (fun E G2 h3 => by obtain ⟨y, h4, _⟩ := h2 _ _ h3; cases h4)
  obtain ⟨y, e4, h5, h6, h7⟩ := h2 _ _ h3
  cases e4
  dsimp only [Option.toList, List.cons_append, List.nil_append]
  exact law_tailI hx ⟨⟨dL_law_2679, dL_law_2681, dL_law_2682, dL_law_2685, dL_law_2687, dL_law_2692⟩, dL_law_2694, dL_law_2697, dL_law_2698, dL_law_2699, dL_law_2700, dL_law_2702, dL_law_2703, dL_law_2704, dL_law_2709⟩ (by decide) h5 h6 hroom (kk Θ G2 (Th.refl Θ) h7)
set_option maxHeartbeats 2000000 in
set_option maxRecDepth 20000 in
theorem law_c37 (hx : lCx p l s m meth c b L xs Θ) (hS : Sim G t) (hz : 6 * t + 6 ≤ L) (hroom : k + 15 ≤ 601024 ∧ n + 262 ≤ 7293034) (kk : ∀ (Θ2 : cTH) (G2 : GS), Th Θ Θ2 → Sim G2 (t + 1) → VG p l e room_1 s m #[Value.ref b] below meth c 9 Θ2 Q9 (k + 15) (n + 262) 4427 (lsL Θ2 b (6 * t) none none) [] G2) : VG p l e room_1 s m #[Value.ref b] below meth c 9 Θ Q9 k n 2712 (lsL Θ b (6 * t) none none) [] G := by
  have hC := hx.1
  have hl9 := hx.2.2.2.2
  have hL := hx.2.2.2.1
  have hop := op_isInheriting hS (show t < 2 ^ 20 by omega) (xs (6 * t + 1))
  refine v_aload_n (i := 1) (q := 2713) hC dL_law_2712 rfl rfl rfl ?_
  refine v_arg (q := 2719) hx 1 (by decide) ⟨dL_law_2713, dL_law_2714, dL_law_2716, dL_law_2717, dL_law_2718⟩ rfl (by omega) ?_
  refine v_aload_n (i := 3) (q := 2720) hC dL_law_2719 rfl rfl rfl ?_
  refine v_callSX (q := 2723) (rm := rm_L_isInheriting) hC (w_L_isInheriting hl9 Θ (xs (6 * t + 1)) G (c_X11_isInheriting hl9 Θ (xs (6 * t + 1)) G ) hop.v (fun E G1 h => mem1 (hop.2 E G1 h).1)) kh_L_isInheriting ml_RL_325 dL_law_2720 rfl rfl rfl (Nat.le_of_ble_eq_true rfl) ⟨Nat.le_of_ble_eq_true rfl, Nat.le_of_ble_eq_true rfl⟩ ⟨Nat.le_of_ble_eq_true rfl, Nat.le_of_ble_eq_true rfl⟩ hroom (fun v G1 hw => ?_) wQ_no
  obtain ⟨kv, rfl, hA, h2⟩ := hop.out cd1 hw
  have hM := hS.M.agC hA
  dsimp only [Option.toList, List.cons_append, List.nil_append]
  refine v_istore (q := 2725) hC dL_law_2723 rfl (lvc rfl) (Nat.le_of_ble_eq_true rfl) (Nat.le_of_ble_eq_true rfl) rfl ?_
  show VG p l e room_1 s m #[Value.ref b] below meth c 9 Θ Q9 (k + 15) (n + 262) 2725 (lsL Θ b (6 * t) (some (.int kv)) none) [] G1
  refine v_aload_n (i := 2) (q := 2726) hC dL_law_2725 rfl rfl rfl ?_
  refine v_arg (q := 2732) hx 1 (by decide) ⟨dL_law_2726, dL_law_2727, dL_law_2729, dL_law_2730, dL_law_2731⟩ rfl (by omega) ?_
  refine v_callV0 (q := 2735) (rm := rm_X12_isInheriting) hC (c_X12_isInheriting hl9 _ (xs (6 * t + 1)) G1 ) k_X12_isInheriting im_yX12_isInheriting se_yX12_isInheriting ml_RL_327 dL_law_2732 rfl rfl rfl rfl rfl rfl (Nat.le_of_ble_eq_true rfl) ⟨Nat.le_of_ble_eq_true rfl, Nat.le_of_ble_eq_true rfl⟩ ⟨rfl, rfl⟩ hroom (fun v2 G2 h3 => ?_) (fun E G2 h3 => by obtain ⟨y, h4, _⟩ := h2 _ _ h3; cases h4)
  obtain ⟨y, e4, h5, h6, h7⟩ := h2 _ _ h3
  cases e4
  dsimp only [Option.toList, List.cons_append, List.nil_append]
  exact law_tailZ hx ⟨⟨dL_law_2735, dL_law_2737, dL_law_2738, dL_law_2741, dL_law_2743, dL_law_2748⟩, dL_law_2750, dL_law_2753, dL_law_2754, dL_law_2755, dL_law_2756, dL_law_2758, dL_law_2761, dL_law_2762, dL_law_2765, dL_law_2766, dL_law_2767, dL_law_2772⟩ (by decide) h5 h6 hroom (kk Θ G2 (Th.refl Θ) h7)
set_option maxHeartbeats 2000000 in
set_option maxRecDepth 20000 in
theorem law_c38 (hx : lCx p l s m meth c b L xs Θ) (hS : Sim G t) (hz : 6 * t + 6 ≤ L) (hroom : k + 15 ≤ 601024 ∧ n + 262 ≤ 7293034) (kk : ∀ (Θ2 : cTH) (G2 : GS), Th Θ Θ2 → Sim G2 (t + 1) → VG p l e room_1 s m #[Value.ref b] below meth c 9 Θ2 Q9 (k + 15) (n + 262) 4427 (lsL Θ2 b (6 * t) none none) [] G2) : VG p l e room_1 s m #[Value.ref b] below meth c 9 Θ Q9 k n 2775 (lsL Θ b (6 * t) none none) [] G := by
  have hC := hx.1
  have hl9 := hx.2.2.2.2
  have hL := hx.2.2.2.1
  have hop := op_below hS (show t < 2 ^ 20 by omega) (xs (6 * t + 1))
  refine v_aload_n (i := 1) (q := 2776) hC dL_law_2775 rfl rfl rfl ?_
  refine v_arg (q := 2782) hx 1 (by decide) ⟨dL_law_2776, dL_law_2777, dL_law_2779, dL_law_2780, dL_law_2781⟩ rfl (by omega) ?_
  refine v_aload_n (i := 3) (q := 2783) hC dL_law_2782 rfl rfl rfl ?_
  refine v_callSX (q := 2786) (rm := rm_L_below) hC (w_L_below hl9 Θ (xs (6 * t + 1)) G (c_X11_below hl9 Θ (xs (6 * t + 1)) G ) hop.v (fun E G1 h => mem1 (hop.2 E G1 h).1)) kh_L_below ml_RL_328 dL_law_2783 rfl rfl rfl (Nat.le_of_ble_eq_true rfl) ⟨Nat.le_of_ble_eq_true rfl, Nat.le_of_ble_eq_true rfl⟩ ⟨Nat.le_of_ble_eq_true rfl, Nat.le_of_ble_eq_true rfl⟩ hroom (fun v G1 hw => ?_) wQ_no
  obtain ⟨kv, rfl, hA, h2⟩ := hop.out cd1 hw
  have hM := hS.M.agC hA
  dsimp only [Option.toList, List.cons_append, List.nil_append]
  refine v_istore (q := 2788) hC dL_law_2786 rfl (lvc rfl) (Nat.le_of_ble_eq_true rfl) (Nat.le_of_ble_eq_true rfl) rfl ?_
  show VG p l e room_1 s m #[Value.ref b] below meth c 9 Θ Q9 (k + 15) (n + 262) 2788 (lsL Θ b (6 * t) (some (.int kv)) none) [] G1
  refine v_aload_n (i := 2) (q := 2789) hC dL_law_2788 rfl rfl rfl ?_
  refine v_arg (q := 2795) hx 1 (by decide) ⟨dL_law_2789, dL_law_2790, dL_law_2792, dL_law_2793, dL_law_2794⟩ rfl (by omega) ?_
  refine v_callV0 (q := 2798) (rm := rm_X12_below) hC (c_X12_below hl9 _ (xs (6 * t + 1)) G1 hM.1) k_X12_below im_yX12_below se_yX12_below ml_RL_330 dL_law_2795 rfl rfl rfl rfl rfl rfl (Nat.le_of_ble_eq_true rfl) ⟨Nat.le_of_ble_eq_true rfl, Nat.le_of_ble_eq_true rfl⟩ ⟨rfl, rfl⟩ hroom (fun v2 G2 h3 => ?_) (fun E G2 h3 => by obtain ⟨y, h4, _⟩ := h2 _ _ h3; cases h4)
  obtain ⟨y, e4, h5, h6, h7⟩ := h2 _ _ h3
  cases e4
  dsimp only [Option.toList, List.cons_append, List.nil_append]
  exact law_tailI hx ⟨⟨dL_law_2798, dL_law_2800, dL_law_2801, dL_law_2804, dL_law_2806, dL_law_2811⟩, dL_law_2813, dL_law_2816, dL_law_2817, dL_law_2818, dL_law_2819, dL_law_2821, dL_law_2822, dL_law_2823, dL_law_2828⟩ (by decide) h5 h6 hroom (kk Θ G2 (Th.refl Θ) h7)
set_option maxHeartbeats 2000000 in
set_option maxRecDepth 20000 in
theorem law_c39 (hx : lCx p l s m meth c b L xs Θ) (hS : Sim G t) (hz : 6 * t + 6 ≤ L) (hroom : k + 15 ≤ 601024 ∧ n + 262 ≤ 7293034) (kk : ∀ (Θ2 : cTH) (G2 : GS), Th Θ Θ2 → Sim G2 (t + 1) → VG p l e room_1 s m #[Value.ref b] below meth c 9 Θ2 Q9 (k + 15) (n + 262) 4427 (lsL Θ2 b (6 * t) none none) [] G2) : VG p l e room_1 s m #[Value.ref b] below meth c 9 Θ Q9 k n 2831 (lsL Θ b (6 * t) none none) [] G := by
  have hC := hx.1
  have hl9 := hx.2.2.2.2
  have hL := hx.2.2.2.1
  have hop := op_entriesOf hS (show t < 2 ^ 20 by omega) (xs (6 * t + 1))
  refine v_aload_n (i := 1) (q := 2832) hC dL_law_2831 rfl rfl rfl ?_
  refine v_arg (q := 2838) hx 1 (by decide) ⟨dL_law_2832, dL_law_2833, dL_law_2835, dL_law_2836, dL_law_2837⟩ rfl (by omega) ?_
  refine v_aload_n (i := 3) (q := 2839) hC dL_law_2838 rfl rfl rfl ?_
  refine v_callSX (q := 2842) (rm := rm_L_entriesOf) hC (w_L_entriesOf hl9 Θ (xs (6 * t + 1)) G (c_X11_entriesOf hl9 Θ (xs (6 * t + 1)) G ) hop.v (fun E G1 h => mem1 (hop.2 E G1 h).1)) kh_L_entriesOf ml_RL_331 dL_law_2839 rfl rfl rfl (Nat.le_of_ble_eq_true rfl) ⟨Nat.le_of_ble_eq_true rfl, Nat.le_of_ble_eq_true rfl⟩ ⟨Nat.le_of_ble_eq_true rfl, Nat.le_of_ble_eq_true rfl⟩ hroom (fun v G1 hw => ?_) wQ_no
  obtain ⟨kv, rfl, hA, h2⟩ := hop.out cd1 hw
  have hM := hS.M.agC hA
  dsimp only [Option.toList, List.cons_append, List.nil_append]
  refine v_istore (q := 2844) hC dL_law_2842 rfl (lvc rfl) (Nat.le_of_ble_eq_true rfl) (Nat.le_of_ble_eq_true rfl) rfl ?_
  show VG p l e room_1 s m #[Value.ref b] below meth c 9 Θ Q9 (k + 15) (n + 262) 2844 (lsL Θ b (6 * t) (some (.int kv)) none) [] G1
  refine v_aload_n (i := 2) (q := 2845) hC dL_law_2844 rfl rfl rfl ?_
  refine v_arg (q := 2851) hx 1 (by decide) ⟨dL_law_2845, dL_law_2846, dL_law_2848, dL_law_2849, dL_law_2850⟩ rfl (by omega) ?_
  refine v_callV0 (q := 2854) (rm := rm_X12_entriesOf) hC (c_X12_entriesOf hl9 _ (xs (6 * t + 1)) G1 ) k_X12_entriesOf im_yX12_entriesOf se_yX12_entriesOf ml_RL_333 dL_law_2851 rfl rfl rfl rfl rfl rfl (Nat.le_of_ble_eq_true rfl) ⟨Nat.le_of_ble_eq_true rfl, Nat.le_of_ble_eq_true rfl⟩ ⟨rfl, rfl⟩ hroom (fun v2 G2 h3 => ?_) (fun E G2 h3 => by obtain ⟨y, h4, _⟩ := h2 _ _ h3; cases h4)
  obtain ⟨y, e4, h5, h6, h7⟩ := h2 _ _ h3
  cases e4
  dsimp only [Option.toList, List.cons_append, List.nil_append]
  exact law_tailI hx ⟨⟨dL_law_2854, dL_law_2856, dL_law_2857, dL_law_2860, dL_law_2862, dL_law_2867⟩, dL_law_2869, dL_law_2872, dL_law_2873, dL_law_2874, dL_law_2875, dL_law_2877, dL_law_2878, dL_law_2879, dL_law_2884⟩ (by decide) h5 h6 hroom (kk Θ G2 (Th.refl Θ) h7)
set_option maxHeartbeats 2000000 in
set_option maxRecDepth 20000 in
theorem law_c40 (hx : lCx p l s m meth c b L xs Θ) (hS : Sim G t) (hz : 6 * t + 6 ≤ L) (hroom : k + 15 ≤ 601024 ∧ n + 262 ≤ 7293034) (kk : ∀ (Θ2 : cTH) (G2 : GS), Th Θ Θ2 → Sim G2 (t + 1) → VG p l e room_1 s m #[Value.ref b] below meth c 9 Θ2 Q9 (k + 15) (n + 262) 4427 (lsL Θ2 b (6 * t) none none) [] G2) : VG p l e room_1 s m #[Value.ref b] below meth c 9 Θ Q9 k n 2887 (lsL Θ b (6 * t) none none) [] G := by
  have hC := hx.1
  have hl9 := hx.2.2.2.2
  have hL := hx.2.2.2.1
  have hop := op_isAllowing hS (show t < 2 ^ 20 by omega) (xs (6 * t + 1)) (xs (6 * t + 2))
  refine v_aload_n (i := 1) (q := 2888) hC dL_law_2887 rfl rfl rfl ?_
  refine v_arg (q := 2894) hx 1 (by decide) ⟨dL_law_2888, dL_law_2889, dL_law_2891, dL_law_2892, dL_law_2893⟩ rfl (by omega) ?_
  refine v_arg (q := 2900) hx 2 (by decide) ⟨dL_law_2894, dL_law_2895, dL_law_2897, dL_law_2898, dL_law_2899⟩ rfl (by omega) ?_
  refine v_aload_n (i := 3) (q := 2901) hC dL_law_2900 rfl rfl rfl ?_
  refine v_callSX (q := 2904) (rm := rm_L_isAllowing) hC (w_L_isAllowing hl9 Θ (xs (6 * t + 1)) (xs (6 * t + 2)) G (c_X11_isAllowing hl9 Θ (xs (6 * t + 1)) (xs (6 * t + 2)) G ) hop.v (fun E G1 h => mem1 (hop.2 E G1 h).1)) kh_L_isAllowing ml_RL_334 dL_law_2901 rfl rfl rfl (Nat.le_of_ble_eq_true rfl) ⟨Nat.le_of_ble_eq_true rfl, Nat.le_of_ble_eq_true rfl⟩ ⟨Nat.le_of_ble_eq_true rfl, Nat.le_of_ble_eq_true rfl⟩ hroom (fun v G1 hw => ?_) wQ_no
  obtain ⟨kv, rfl, hA, h2⟩ := hop.out cd1 hw
  have hM := hS.M.agC hA
  dsimp only [Option.toList, List.cons_append, List.nil_append]
  refine v_istore (q := 2906) hC dL_law_2904 rfl (lvc rfl) (Nat.le_of_ble_eq_true rfl) (Nat.le_of_ble_eq_true rfl) rfl ?_
  show VG p l e room_1 s m #[Value.ref b] below meth c 9 Θ Q9 (k + 15) (n + 262) 2906 (lsL Θ b (6 * t) (some (.int kv)) none) [] G1
  refine v_aload_n (i := 2) (q := 2907) hC dL_law_2906 rfl rfl rfl ?_
  refine v_arg (q := 2913) hx 1 (by decide) ⟨dL_law_2907, dL_law_2908, dL_law_2910, dL_law_2911, dL_law_2912⟩ rfl (by omega) ?_
  refine v_arg (q := 2919) hx 2 (by decide) ⟨dL_law_2913, dL_law_2914, dL_law_2916, dL_law_2917, dL_law_2918⟩ rfl (by omega) ?_
  refine v_callV0 (q := 2922) (rm := rm_X12_isAllowing) hC (c_X12_isAllowing hl9 _ (xs (6 * t + 1)) (xs (6 * t + 2)) G1 hM.1) k_X12_isAllowing im_yX12_isAllowing se_yX12_isAllowing ml_RL_336 dL_law_2919 rfl rfl rfl rfl rfl rfl (Nat.le_of_ble_eq_true rfl) ⟨Nat.le_of_ble_eq_true rfl, Nat.le_of_ble_eq_true rfl⟩ ⟨rfl, rfl⟩ hroom (fun v2 G2 h3 => ?_) (fun E G2 h3 => by obtain ⟨y, h4, _⟩ := h2 _ _ h3; cases h4)
  obtain ⟨y, e4, h5, h6, h7⟩ := h2 _ _ h3
  cases e4
  dsimp only [Option.toList, List.cons_append, List.nil_append]
  exact law_tailZ hx ⟨⟨dL_law_2922, dL_law_2924, dL_law_2925, dL_law_2928, dL_law_2930, dL_law_2935⟩, dL_law_2937, dL_law_2940, dL_law_2941, dL_law_2942, dL_law_2943, dL_law_2945, dL_law_2948, dL_law_2949, dL_law_2952, dL_law_2953, dL_law_2954, dL_law_2959⟩ (by decide) h5 h6 hroom (kk Θ G2 (Th.refl Θ) h7)
set_option maxHeartbeats 2000000 in
set_option maxRecDepth 20000 in
theorem law_c41 (hx : lCx p l s m meth c b L xs Θ) (hS : Sim G t) (hz : 6 * t + 6 ≤ L) (hroom : k + 15 ≤ 601024 ∧ n + 262 ≤ 7293034) (kk : ∀ (Θ2 : cTH) (G2 : GS), Th Θ Θ2 → Sim G2 (t + 1) → VG p l e room_1 s m #[Value.ref b] below meth c 9 Θ2 Q9 (k + 15) (n + 262) 4427 (lsL Θ2 b (6 * t) none none) [] G2) : VG p l e room_1 s m #[Value.ref b] below meth c 9 Θ Q9 k n 2962 (lsL Θ b (6 * t) none none) [] G := by
  have hC := hx.1
  have hl9 := hx.2.2.2.2
  have hL := hx.2.2.2.1
  have hop := op_rightsOfEntry hS (show t < 2 ^ 20 by omega) (xs (6 * t + 1)) (xs (6 * t + 2))
  refine v_aload_n (i := 1) (q := 2963) hC dL_law_2962 rfl rfl rfl ?_
  refine v_arg (q := 2969) hx 1 (by decide) ⟨dL_law_2963, dL_law_2964, dL_law_2966, dL_law_2967, dL_law_2968⟩ rfl (by omega) ?_
  refine v_arg (q := 2975) hx 2 (by decide) ⟨dL_law_2969, dL_law_2970, dL_law_2972, dL_law_2973, dL_law_2974⟩ rfl (by omega) ?_
  refine v_aload_n (i := 3) (q := 2976) hC dL_law_2975 rfl rfl rfl ?_
  refine v_callSX (q := 2979) (rm := rm_L_rightsOfEntry) hC (w_L_rightsOfEntry hl9 Θ (xs (6 * t + 1)) (xs (6 * t + 2)) G (c_X11_rightsOfEntry hl9 Θ (xs (6 * t + 1)) (xs (6 * t + 2)) G ) hop.v (fun E G1 h => mem1 (hop.2 E G1 h).1)) kh_L_rightsOfEntry ml_RL_337 dL_law_2976 rfl rfl rfl (Nat.le_of_ble_eq_true rfl) ⟨Nat.le_of_ble_eq_true rfl, Nat.le_of_ble_eq_true rfl⟩ ⟨Nat.le_of_ble_eq_true rfl, Nat.le_of_ble_eq_true rfl⟩ hroom (fun v G1 hw => ?_) wQ_no
  obtain ⟨kv, rfl, hA, h2⟩ := hop.out cd1 hw
  have hM := hS.M.agC hA
  dsimp only [Option.toList, List.cons_append, List.nil_append]
  refine v_istore (q := 2981) hC dL_law_2979 rfl (lvc rfl) (Nat.le_of_ble_eq_true rfl) (Nat.le_of_ble_eq_true rfl) rfl ?_
  show VG p l e room_1 s m #[Value.ref b] below meth c 9 Θ Q9 (k + 15) (n + 262) 2981 (lsL Θ b (6 * t) (some (.int kv)) none) [] G1
  refine v_aload_n (i := 2) (q := 2982) hC dL_law_2981 rfl rfl rfl ?_
  refine v_arg (q := 2988) hx 1 (by decide) ⟨dL_law_2982, dL_law_2983, dL_law_2985, dL_law_2986, dL_law_2987⟩ rfl (by omega) ?_
  refine v_arg (q := 2994) hx 2 (by decide) ⟨dL_law_2988, dL_law_2989, dL_law_2991, dL_law_2992, dL_law_2993⟩ rfl (by omega) ?_
  refine v_callV0 (q := 2997) (rm := rm_X12_rightsOfEntry) hC (c_X12_rightsOfEntry hl9 _ (xs (6 * t + 1)) (xs (6 * t + 2)) G1 hM.1) k_X12_rightsOfEntry im_yX12_rightsOfEntry se_yX12_rightsOfEntry ml_RL_339 dL_law_2994 rfl rfl rfl rfl rfl rfl (Nat.le_of_ble_eq_true rfl) ⟨Nat.le_of_ble_eq_true rfl, Nat.le_of_ble_eq_true rfl⟩ ⟨rfl, rfl⟩ hroom (fun v2 G2 h3 => ?_) (fun E G2 h3 => by obtain ⟨y, h4, _⟩ := h2 _ _ h3; cases h4)
  obtain ⟨y, e4, h5, h6, h7⟩ := h2 _ _ h3
  cases e4
  dsimp only [Option.toList, List.cons_append, List.nil_append]
  exact law_tailI hx ⟨⟨dL_law_2997, dL_law_2999, dL_law_3000, dL_law_3003, dL_law_3005, dL_law_3010⟩, dL_law_3012, dL_law_3015, dL_law_3016, dL_law_3017, dL_law_3018, dL_law_3020, dL_law_3021, dL_law_3022, dL_law_3027⟩ (by decide) h5 h6 hroom (kk Θ G2 (Th.refl Θ) h7)
set_option maxHeartbeats 2000000 in
set_option maxRecDepth 20000 in
theorem law_c42 (hx : lCx p l s m meth c b L xs Θ) (hS : Sim G t) (hz : 6 * t + 6 ≤ L) (hroom : k + 15 ≤ 601024 ∧ n + 262 ≤ 7293034) (kk : ∀ (Θ2 : cTH) (G2 : GS), Th Θ Θ2 → Sim G2 (t + 1) → VG p l e room_1 s m #[Value.ref b] below meth c 9 Θ2 Q9 (k + 15) (n + 262) 4427 (lsL Θ2 b (6 * t) none none) [] G2) : VG p l e room_1 s m #[Value.ref b] below meth c 9 Θ Q9 k n 3030 (lsL Θ b (6 * t) none none) [] G := by
  have hC := hx.1
  have hl9 := hx.2.2.2.2
  have hL := hx.2.2.2.1
  have hop := op_userOfEntry hS (show t < 2 ^ 20 by omega) (xs (6 * t + 1)) (xs (6 * t + 2))
  refine v_aload_n (i := 1) (q := 3031) hC dL_law_3030 rfl rfl rfl ?_
  refine v_arg (q := 3037) hx 1 (by decide) ⟨dL_law_3031, dL_law_3032, dL_law_3034, dL_law_3035, dL_law_3036⟩ rfl (by omega) ?_
  refine v_arg (q := 3043) hx 2 (by decide) ⟨dL_law_3037, dL_law_3038, dL_law_3040, dL_law_3041, dL_law_3042⟩ rfl (by omega) ?_
  refine v_aload_n (i := 3) (q := 3044) hC dL_law_3043 rfl rfl rfl ?_
  refine v_callSX (q := 3047) (rm := rm_L_userOfEntry) hC (w_L_userOfEntry hl9 Θ (xs (6 * t + 1)) (xs (6 * t + 2)) G (c_X11_userOfEntry hl9 Θ (xs (6 * t + 1)) (xs (6 * t + 2)) G ) hop.v (fun E G1 h => mem1 (hop.2 E G1 h).1)) kh_L_userOfEntry ml_RL_340 dL_law_3044 rfl rfl rfl (Nat.le_of_ble_eq_true rfl) ⟨Nat.le_of_ble_eq_true rfl, Nat.le_of_ble_eq_true rfl⟩ ⟨Nat.le_of_ble_eq_true rfl, Nat.le_of_ble_eq_true rfl⟩ hroom (fun v G1 hw => ?_) wQ_no
  obtain ⟨kv, rfl, hA, h2⟩ := hop.out cd1 hw
  have hM := hS.M.agC hA
  dsimp only [Option.toList, List.cons_append, List.nil_append]
  refine v_istore (q := 3049) hC dL_law_3047 rfl (lvc rfl) (Nat.le_of_ble_eq_true rfl) (Nat.le_of_ble_eq_true rfl) rfl ?_
  show VG p l e room_1 s m #[Value.ref b] below meth c 9 Θ Q9 (k + 15) (n + 262) 3049 (lsL Θ b (6 * t) (some (.int kv)) none) [] G1
  refine v_aload_n (i := 2) (q := 3050) hC dL_law_3049 rfl rfl rfl ?_
  refine v_arg (q := 3056) hx 1 (by decide) ⟨dL_law_3050, dL_law_3051, dL_law_3053, dL_law_3054, dL_law_3055⟩ rfl (by omega) ?_
  refine v_arg (q := 3062) hx 2 (by decide) ⟨dL_law_3056, dL_law_3057, dL_law_3059, dL_law_3060, dL_law_3061⟩ rfl (by omega) ?_
  refine v_callV0 (q := 3065) (rm := rm_X12_userOfEntry) hC (c_X12_userOfEntry hl9 _ (xs (6 * t + 1)) (xs (6 * t + 2)) G1 hM.1) k_X12_userOfEntry im_yX12_userOfEntry se_yX12_userOfEntry ml_RL_342 dL_law_3062 rfl rfl rfl rfl rfl rfl (Nat.le_of_ble_eq_true rfl) ⟨Nat.le_of_ble_eq_true rfl, Nat.le_of_ble_eq_true rfl⟩ ⟨rfl, rfl⟩ hroom (fun v2 G2 h3 => ?_) (fun E G2 h3 => by obtain ⟨y, h4, _⟩ := h2 _ _ h3; cases h4)
  obtain ⟨y, e4, h5, h6, h7⟩ := h2 _ _ h3
  cases e4
  dsimp only [Option.toList, List.cons_append, List.nil_append]
  exact law_tailI hx ⟨⟨dL_law_3065, dL_law_3067, dL_law_3068, dL_law_3071, dL_law_3073, dL_law_3078⟩, dL_law_3080, dL_law_3083, dL_law_3084, dL_law_3085, dL_law_3086, dL_law_3088, dL_law_3089, dL_law_3090, dL_law_3095⟩ (by decide) h5 h6 hroom (kk Θ G2 (Th.refl Θ) h7)
set_option maxHeartbeats 2000000 in
set_option maxRecDepth 20000 in
theorem law_c43 (hx : lCx p l s m meth c b L xs Θ) (hS : Sim G t) (hz : 6 * t + 6 ≤ L) (hroom : k + 15 ≤ 601024 ∧ n + 262 ≤ 7293034) (kk : ∀ (Θ2 : cTH) (G2 : GS), Th Θ Θ2 → Sim G2 (t + 1) → VG p l e room_1 s m #[Value.ref b] below meth c 9 Θ2 Q9 (k + 15) (n + 262) 4427 (lsL Θ2 b (6 * t) none none) [] G2) : VG p l e room_1 s m #[Value.ref b] below meth c 9 Θ Q9 k n 3098 (lsL Θ b (6 * t) none none) [] G := by
  have hC := hx.1
  have hl9 := hx.2.2.2.2
  have hL := hx.2.2.2.1
  have hop := op_groupOfEntry hS (show t < 2 ^ 20 by omega) (xs (6 * t + 1)) (xs (6 * t + 2))
  refine v_aload_n (i := 1) (q := 3099) hC dL_law_3098 rfl rfl rfl ?_
  refine v_arg (q := 3105) hx 1 (by decide) ⟨dL_law_3099, dL_law_3100, dL_law_3102, dL_law_3103, dL_law_3104⟩ rfl (by omega) ?_
  refine v_arg (q := 3111) hx 2 (by decide) ⟨dL_law_3105, dL_law_3106, dL_law_3108, dL_law_3109, dL_law_3110⟩ rfl (by omega) ?_
  refine v_aload_n (i := 3) (q := 3112) hC dL_law_3111 rfl rfl rfl ?_
  refine v_callSX (q := 3115) (rm := rm_L_groupOfEntry) hC (w_L_groupOfEntry hl9 Θ (xs (6 * t + 1)) (xs (6 * t + 2)) G (c_X11_groupOfEntry hl9 Θ (xs (6 * t + 1)) (xs (6 * t + 2)) G ) hop.v (fun E G1 h => mem1 (hop.2 E G1 h).1)) kh_L_groupOfEntry ml_RL_343 dL_law_3112 rfl rfl rfl (Nat.le_of_ble_eq_true rfl) ⟨Nat.le_of_ble_eq_true rfl, Nat.le_of_ble_eq_true rfl⟩ ⟨Nat.le_of_ble_eq_true rfl, Nat.le_of_ble_eq_true rfl⟩ hroom (fun v G1 hw => ?_) wQ_no
  obtain ⟨kv, rfl, hA, h2⟩ := hop.out cd1 hw
  have hM := hS.M.agC hA
  dsimp only [Option.toList, List.cons_append, List.nil_append]
  refine v_istore (q := 3117) hC dL_law_3115 rfl (lvc rfl) (Nat.le_of_ble_eq_true rfl) (Nat.le_of_ble_eq_true rfl) rfl ?_
  show VG p l e room_1 s m #[Value.ref b] below meth c 9 Θ Q9 (k + 15) (n + 262) 3117 (lsL Θ b (6 * t) (some (.int kv)) none) [] G1
  refine v_aload_n (i := 2) (q := 3118) hC dL_law_3117 rfl rfl rfl ?_
  refine v_arg (q := 3124) hx 1 (by decide) ⟨dL_law_3118, dL_law_3119, dL_law_3121, dL_law_3122, dL_law_3123⟩ rfl (by omega) ?_
  refine v_arg (q := 3130) hx 2 (by decide) ⟨dL_law_3124, dL_law_3125, dL_law_3127, dL_law_3128, dL_law_3129⟩ rfl (by omega) ?_
  refine v_callV0 (q := 3133) (rm := rm_X12_groupOfEntry) hC (c_X12_groupOfEntry hl9 _ (xs (6 * t + 1)) (xs (6 * t + 2)) G1 hM.1) k_X12_groupOfEntry im_yX12_groupOfEntry se_yX12_groupOfEntry ml_RL_345 dL_law_3130 rfl rfl rfl rfl rfl rfl (Nat.le_of_ble_eq_true rfl) ⟨Nat.le_of_ble_eq_true rfl, Nat.le_of_ble_eq_true rfl⟩ ⟨rfl, rfl⟩ hroom (fun v2 G2 h3 => ?_) (fun E G2 h3 => by obtain ⟨y, h4, _⟩ := h2 _ _ h3; cases h4)
  obtain ⟨y, e4, h5, h6, h7⟩ := h2 _ _ h3
  cases e4
  dsimp only [Option.toList, List.cons_append, List.nil_append]
  exact law_tailI hx ⟨⟨dL_law_3133, dL_law_3135, dL_law_3136, dL_law_3139, dL_law_3141, dL_law_3146⟩, dL_law_3148, dL_law_3151, dL_law_3152, dL_law_3153, dL_law_3154, dL_law_3156, dL_law_3157, dL_law_3158, dL_law_3163⟩ (by decide) h5 h6 hroom (kk Θ G2 (Th.refl Θ) h7)
set_option maxHeartbeats 2000000 in
set_option maxRecDepth 20000 in
theorem law_c44 (hx : lCx p l s m meth c b L xs Θ) (hS : Sim G t) (hz : 6 * t + 6 ≤ L) (hroom : k + 15 ≤ 601024 ∧ n + 262 ≤ 7293034) (kk : ∀ (Θ2 : cTH) (G2 : GS), Th Θ Θ2 → Sim G2 (t + 1) → VG p l e room_1 s m #[Value.ref b] below meth c 9 Θ2 Q9 (k + 15) (n + 262) 4427 (lsL Θ2 b (6 * t) none none) [] G2) : VG p l e room_1 s m #[Value.ref b] below meth c 9 Θ Q9 k n 3166 (lsL Θ b (6 * t) none none) [] G := by
  have hC := hx.1
  have hl9 := hx.2.2.2.2
  have hL := hx.2.2.2.1
  have hop := op_isForOwner hS (show t < 2 ^ 20 by omega) (xs (6 * t + 1)) (xs (6 * t + 2))
  refine v_aload_n (i := 1) (q := 3167) hC dL_law_3166 rfl rfl rfl ?_
  refine v_arg (q := 3173) hx 1 (by decide) ⟨dL_law_3167, dL_law_3168, dL_law_3170, dL_law_3171, dL_law_3172⟩ rfl (by omega) ?_
  refine v_arg (q := 3179) hx 2 (by decide) ⟨dL_law_3173, dL_law_3174, dL_law_3176, dL_law_3177, dL_law_3178⟩ rfl (by omega) ?_
  refine v_aload_n (i := 3) (q := 3180) hC dL_law_3179 rfl rfl rfl ?_
  refine v_callSX (q := 3183) (rm := rm_L_isForOwner) hC (w_L_isForOwner hl9 Θ (xs (6 * t + 1)) (xs (6 * t + 2)) G (c_X11_isForOwner hl9 Θ (xs (6 * t + 1)) (xs (6 * t + 2)) G ) hop.v (fun E G1 h => mem1 (hop.2 E G1 h).1)) kh_L_isForOwner ml_RL_346 dL_law_3180 rfl rfl rfl (Nat.le_of_ble_eq_true rfl) ⟨Nat.le_of_ble_eq_true rfl, Nat.le_of_ble_eq_true rfl⟩ ⟨Nat.le_of_ble_eq_true rfl, Nat.le_of_ble_eq_true rfl⟩ hroom (fun v G1 hw => ?_) wQ_no
  obtain ⟨kv, rfl, hA, h2⟩ := hop.out cd1 hw
  have hM := hS.M.agC hA
  dsimp only [Option.toList, List.cons_append, List.nil_append]
  refine v_istore (q := 3185) hC dL_law_3183 rfl (lvc rfl) (Nat.le_of_ble_eq_true rfl) (Nat.le_of_ble_eq_true rfl) rfl ?_
  show VG p l e room_1 s m #[Value.ref b] below meth c 9 Θ Q9 (k + 15) (n + 262) 3185 (lsL Θ b (6 * t) (some (.int kv)) none) [] G1
  refine v_aload_n (i := 2) (q := 3186) hC dL_law_3185 rfl rfl rfl ?_
  refine v_arg (q := 3192) hx 1 (by decide) ⟨dL_law_3186, dL_law_3187, dL_law_3189, dL_law_3190, dL_law_3191⟩ rfl (by omega) ?_
  refine v_arg (q := 3198) hx 2 (by decide) ⟨dL_law_3192, dL_law_3193, dL_law_3195, dL_law_3196, dL_law_3197⟩ rfl (by omega) ?_
  refine v_callV0 (q := 3201) (rm := rm_X12_isForOwner) hC (c_X12_isForOwner hl9 _ (xs (6 * t + 1)) (xs (6 * t + 2)) G1 hM.1) k_X12_isForOwner im_yX12_isForOwner se_yX12_isForOwner ml_RL_348 dL_law_3198 rfl rfl rfl rfl rfl rfl (Nat.le_of_ble_eq_true rfl) ⟨Nat.le_of_ble_eq_true rfl, Nat.le_of_ble_eq_true rfl⟩ ⟨rfl, rfl⟩ hroom (fun v2 G2 h3 => ?_) (fun E G2 h3 => by obtain ⟨y, h4, _⟩ := h2 _ _ h3; cases h4)
  obtain ⟨y, e4, h5, h6, h7⟩ := h2 _ _ h3
  cases e4
  dsimp only [Option.toList, List.cons_append, List.nil_append]
  exact law_tailZ hx ⟨⟨dL_law_3201, dL_law_3203, dL_law_3204, dL_law_3207, dL_law_3209, dL_law_3214⟩, dL_law_3216, dL_law_3219, dL_law_3220, dL_law_3221, dL_law_3222, dL_law_3224, dL_law_3227, dL_law_3228, dL_law_3231, dL_law_3232, dL_law_3233, dL_law_3238⟩ (by decide) h5 h6 hroom (kk Θ G2 (Th.refl Θ) h7)
set_option maxHeartbeats 2000000 in
set_option maxRecDepth 20000 in
theorem law_c45 (hx : lCx p l s m meth c b L xs Θ) (hS : Sim G t) (hz : 6 * t + 6 ≤ L) (hroom : k + 15 ≤ 601024 ∧ n + 262 ≤ 7293034) (kk : ∀ (Θ2 : cTH) (G2 : GS), Th Θ Θ2 → Sim G2 (t + 1) → VG p l e room_1 s m #[Value.ref b] below meth c 9 Θ2 Q9 (k + 15) (n + 262) 4427 (lsL Θ2 b (6 * t) none none) [] G2) : VG p l e room_1 s m #[Value.ref b] below meth c 9 Θ Q9 k n 3241 (lsL Θ b (6 * t) none none) [] G := by
  have hC := hx.1
  have hl9 := hx.2.2.2.2
  have hL := hx.2.2.2.1
  have hop := op_isForBelow hS (show t < 2 ^ 20 by omega) (xs (6 * t + 1)) (xs (6 * t + 2))
  refine v_aload_n (i := 1) (q := 3242) hC dL_law_3241 rfl rfl rfl ?_
  refine v_arg (q := 3248) hx 1 (by decide) ⟨dL_law_3242, dL_law_3243, dL_law_3245, dL_law_3246, dL_law_3247⟩ rfl (by omega) ?_
  refine v_arg (q := 3254) hx 2 (by decide) ⟨dL_law_3248, dL_law_3249, dL_law_3251, dL_law_3252, dL_law_3253⟩ rfl (by omega) ?_
  refine v_aload_n (i := 3) (q := 3255) hC dL_law_3254 rfl rfl rfl ?_
  refine v_callSX (q := 3258) (rm := rm_L_isForBelow) hC (w_L_isForBelow hl9 Θ (xs (6 * t + 1)) (xs (6 * t + 2)) G (c_X11_isForBelow hl9 Θ (xs (6 * t + 1)) (xs (6 * t + 2)) G ) hop.v (fun E G1 h => mem1 (hop.2 E G1 h).1)) kh_L_isForBelow ml_RL_349 dL_law_3255 rfl rfl rfl (Nat.le_of_ble_eq_true rfl) ⟨Nat.le_of_ble_eq_true rfl, Nat.le_of_ble_eq_true rfl⟩ ⟨Nat.le_of_ble_eq_true rfl, Nat.le_of_ble_eq_true rfl⟩ hroom (fun v G1 hw => ?_) wQ_no
  obtain ⟨kv, rfl, hA, h2⟩ := hop.out cd1 hw
  have hM := hS.M.agC hA
  dsimp only [Option.toList, List.cons_append, List.nil_append]
  refine v_istore (q := 3260) hC dL_law_3258 rfl (lvc rfl) (Nat.le_of_ble_eq_true rfl) (Nat.le_of_ble_eq_true rfl) rfl ?_
  show VG p l e room_1 s m #[Value.ref b] below meth c 9 Θ Q9 (k + 15) (n + 262) 3260 (lsL Θ b (6 * t) (some (.int kv)) none) [] G1
  refine v_aload_n (i := 2) (q := 3261) hC dL_law_3260 rfl rfl rfl ?_
  refine v_arg (q := 3267) hx 1 (by decide) ⟨dL_law_3261, dL_law_3262, dL_law_3264, dL_law_3265, dL_law_3266⟩ rfl (by omega) ?_
  refine v_arg (q := 3273) hx 2 (by decide) ⟨dL_law_3267, dL_law_3268, dL_law_3270, dL_law_3271, dL_law_3272⟩ rfl (by omega) ?_
  refine v_callV0 (q := 3276) (rm := rm_X12_isForBelow) hC (c_X12_isForBelow hl9 _ (xs (6 * t + 1)) (xs (6 * t + 2)) G1 hM.1) k_X12_isForBelow im_yX12_isForBelow se_yX12_isForBelow ml_RL_351 dL_law_3273 rfl rfl rfl rfl rfl rfl (Nat.le_of_ble_eq_true rfl) ⟨Nat.le_of_ble_eq_true rfl, Nat.le_of_ble_eq_true rfl⟩ ⟨rfl, rfl⟩ hroom (fun v2 G2 h3 => ?_) (fun E G2 h3 => by obtain ⟨y, h4, _⟩ := h2 _ _ h3; cases h4)
  obtain ⟨y, e4, h5, h6, h7⟩ := h2 _ _ h3
  cases e4
  dsimp only [Option.toList, List.cons_append, List.nil_append]
  exact law_tailZ hx ⟨⟨dL_law_3276, dL_law_3278, dL_law_3279, dL_law_3282, dL_law_3284, dL_law_3289⟩, dL_law_3291, dL_law_3294, dL_law_3295, dL_law_3296, dL_law_3297, dL_law_3299, dL_law_3302, dL_law_3303, dL_law_3306, dL_law_3307, dL_law_3308, dL_law_3313⟩ (by decide) h5 h6 hroom (kk Θ G2 (Th.refl Θ) h7)
set_option maxHeartbeats 2000000 in
set_option maxRecDepth 20000 in
theorem law_c46 (hx : lCx p l s m meth c b L xs Θ) (hS : Sim G t) (hz : 6 * t + 6 ≤ L) (hroom : k + 15 ≤ 601024 ∧ n + 262 ≤ 7293034) (kk : ∀ (Θ2 : cTH) (G2 : GS), Th Θ Θ2 → Sim G2 (t + 1) → VG p l e room_1 s m #[Value.ref b] below meth c 9 Θ2 Q9 (k + 15) (n + 262) 4427 (lsL Θ2 b (6 * t) none none) [] G2) : VG p l e room_1 s m #[Value.ref b] below meth c 9 Θ Q9 k n 3316 (lsL Θ b (6 * t) none none) [] G := by
  have hC := hx.1
  have hl9 := hx.2.2.2.2
  have hL := hx.2.2.2.1
  have hop := op_isAllowed hS (show t < 2 ^ 20 by omega) (xs (6 * t + 1)) (xs (6 * t + 2)) (xs (6 * t + 3))
  refine v_aload_n (i := 1) (q := 3317) hC dL_law_3316 rfl rfl rfl ?_
  refine v_arg (q := 3323) hx 1 (by decide) ⟨dL_law_3317, dL_law_3318, dL_law_3320, dL_law_3321, dL_law_3322⟩ rfl (by omega) ?_
  refine v_arg (q := 3329) hx 2 (by decide) ⟨dL_law_3323, dL_law_3324, dL_law_3326, dL_law_3327, dL_law_3328⟩ rfl (by omega) ?_
  refine v_arg (q := 3335) hx 3 (by decide) ⟨dL_law_3329, dL_law_3330, dL_law_3332, dL_law_3333, dL_law_3334⟩ rfl (by omega) ?_
  refine v_aload_n (i := 3) (q := 3336) hC dL_law_3335 rfl rfl rfl ?_
  refine v_callSX (q := 3339) (rm := rm_L_isAllowed) hC (w_L_isAllowed hl9 Θ (xs (6 * t + 1)) (xs (6 * t + 2)) (xs (6 * t + 3)) G (c_X11_isAllowed hl9 Θ (xs (6 * t + 1)) (xs (6 * t + 2)) (xs (6 * t + 3)) G hS.1.gOk_) hop.v (fun E G1 h => mem2 (hop.2 E G1 h).1)) kh_L_isAllowed ml_RL_352 dL_law_3336 rfl rfl rfl (Nat.le_of_ble_eq_true rfl) ⟨Nat.le_of_ble_eq_true rfl, Nat.le_of_ble_eq_true rfl⟩ ⟨Nat.le_of_ble_eq_true rfl, Nat.le_of_ble_eq_true rfl⟩ hroom (fun v G1 hw => ?_) wQ_no
  obtain ⟨kv, rfl, hA, h2⟩ := hop.out cd2 hw
  have hM := hS.M.agC hA
  dsimp only [Option.toList, List.cons_append, List.nil_append]
  refine v_istore (q := 3341) hC dL_law_3339 rfl (lvc rfl) (Nat.le_of_ble_eq_true rfl) (Nat.le_of_ble_eq_true rfl) rfl ?_
  show VG p l e room_1 s m #[Value.ref b] below meth c 9 Θ Q9 (k + 15) (n + 262) 3341 (lsL Θ b (6 * t) (some (.int kv)) none) [] G1
  refine v_aload_n (i := 2) (q := 3342) hC dL_law_3341 rfl rfl rfl ?_
  refine v_arg (q := 3348) hx 1 (by decide) ⟨dL_law_3342, dL_law_3343, dL_law_3345, dL_law_3346, dL_law_3347⟩ rfl (by omega) ?_
  refine v_arg (q := 3354) hx 2 (by decide) ⟨dL_law_3348, dL_law_3349, dL_law_3351, dL_law_3352, dL_law_3353⟩ rfl (by omega) ?_
  refine v_arg (q := 3360) hx 3 (by decide) ⟨dL_law_3354, dL_law_3355, dL_law_3357, dL_law_3358, dL_law_3359⟩ rfl (by omega) ?_
  refine v_callV0 (q := 3363) (rm := rm_X12_isAllowed) hC (c_X12_isAllowed hl9 _ (xs (6 * t + 1)) (xs (6 * t + 2)) (xs (6 * t + 3)) G1 hM.1) k_X12_isAllowed im_yX12_isAllowed se_yX12_isAllowed ml_RL_354 dL_law_3360 rfl rfl rfl rfl rfl rfl (Nat.le_of_ble_eq_true rfl) ⟨Nat.le_of_ble_eq_true rfl, Nat.le_of_ble_eq_true rfl⟩ ⟨rfl, rfl⟩ hroom (fun v2 G2 h3 => ?_) (fun E G2 h3 => by obtain ⟨y, h4, _⟩ := h2 _ _ h3; cases h4)
  obtain ⟨y, e4, h5, h6, h7⟩ := h2 _ _ h3
  cases e4
  dsimp only [Option.toList, List.cons_append, List.nil_append]
  exact law_tailZ hx ⟨⟨dL_law_3363, dL_law_3365, dL_law_3366, dL_law_3369, dL_law_3371, dL_law_3376⟩, dL_law_3378, dL_law_3381, dL_law_3382, dL_law_3383, dL_law_3384, dL_law_3386, dL_law_3389, dL_law_3390, dL_law_3393, dL_law_3394, dL_law_3395, dL_law_3400⟩ (by decide) h5 h6 hroom (kk Θ G2 (Th.refl Θ) h7)
set_option maxHeartbeats 2000000 in
set_option maxRecDepth 20000 in
theorem law_c47 (hx : lCx p l s m meth c b L xs Θ) (hS : Sim G t) (hz : 6 * t + 6 ≤ L) (hroom : k + 15 ≤ 601024 ∧ n + 262 ≤ 7293034) (kk : ∀ (Θ2 : cTH) (G2 : GS), Th Θ Θ2 → Sim G2 (t + 1) → VG p l e room_1 s m #[Value.ref b] below meth c 9 Θ2 Q9 (k + 15) (n + 262) 4427 (lsL Θ2 b (6 * t) none none) [] G2) : VG p l e room_1 s m #[Value.ref b] below meth c 9 Θ Q9 k n 3403 (lsL Θ b (6 * t) none none) [] G := by
  have hC := hx.1
  have hl9 := hx.2.2.2.2
  have hL := hx.2.2.2.1
  have hop := op_isAllowedByHandingDown hS (show t < 2 ^ 20 by omega) (xs (6 * t + 1)) (xs (6 * t + 2)) (xs (6 * t + 3))
  refine v_aload_n (i := 1) (q := 3404) hC dL_law_3403 rfl rfl rfl ?_
  refine v_arg (q := 3410) hx 1 (by decide) ⟨dL_law_3404, dL_law_3405, dL_law_3407, dL_law_3408, dL_law_3409⟩ rfl (by omega) ?_
  refine v_arg (q := 3416) hx 2 (by decide) ⟨dL_law_3410, dL_law_3411, dL_law_3413, dL_law_3414, dL_law_3415⟩ rfl (by omega) ?_
  refine v_arg (q := 3422) hx 3 (by decide) ⟨dL_law_3416, dL_law_3417, dL_law_3419, dL_law_3420, dL_law_3421⟩ rfl (by omega) ?_
  refine v_aload_n (i := 3) (q := 3423) hC dL_law_3422 rfl rfl rfl ?_
  refine v_callSX (q := 3426) (rm := rm_L_isAllowedByHandingDown) hC (w_L_isAllowedByHandingDown hl9 Θ (xs (6 * t + 1)) (xs (6 * t + 2)) (xs (6 * t + 3)) G (c_X11_isAllowedByHandingDown hl9 Θ (xs (6 * t + 1)) (xs (6 * t + 2)) (xs (6 * t + 3)) G hS.1.gOk_) hop.v (fun E G1 h => mem2 (hop.2 E G1 h).1)) kh_L_isAllowedByHandingDown ml_RL_355 dL_law_3423 rfl rfl rfl (Nat.le_of_ble_eq_true rfl) ⟨Nat.le_of_ble_eq_true rfl, Nat.le_of_ble_eq_true rfl⟩ ⟨Nat.le_of_ble_eq_true rfl, Nat.le_of_ble_eq_true rfl⟩ hroom (fun v G1 hw => ?_) wQ_no
  obtain ⟨kv, rfl, hA, h2⟩ := hop.out cd2 hw
  have hM := hS.M.agC hA
  dsimp only [Option.toList, List.cons_append, List.nil_append]
  refine v_istore (q := 3428) hC dL_law_3426 rfl (lvc rfl) (Nat.le_of_ble_eq_true rfl) (Nat.le_of_ble_eq_true rfl) rfl ?_
  show VG p l e room_1 s m #[Value.ref b] below meth c 9 Θ Q9 (k + 15) (n + 262) 3428 (lsL Θ b (6 * t) (some (.int kv)) none) [] G1
  refine v_aload_n (i := 2) (q := 3429) hC dL_law_3428 rfl rfl rfl ?_
  refine v_arg (q := 3435) hx 1 (by decide) ⟨dL_law_3429, dL_law_3430, dL_law_3432, dL_law_3433, dL_law_3434⟩ rfl (by omega) ?_
  refine v_arg (q := 3441) hx 2 (by decide) ⟨dL_law_3435, dL_law_3436, dL_law_3438, dL_law_3439, dL_law_3440⟩ rfl (by omega) ?_
  refine v_arg (q := 3447) hx 3 (by decide) ⟨dL_law_3441, dL_law_3442, dL_law_3444, dL_law_3445, dL_law_3446⟩ rfl (by omega) ?_
  refine v_callV0 (q := 3450) (rm := rm_X12_isAllowedByHandingDown) hC (c_X12_isAllowedByHandingDown hl9 _ (xs (6 * t + 1)) (xs (6 * t + 2)) (xs (6 * t + 3)) G1 hM.1) k_X12_isAllowedByHandingDown im_yX12_isAllowedByHandingDown se_yX12_isAllowedByHandingDown ml_RL_357 dL_law_3447 rfl rfl rfl rfl rfl rfl (Nat.le_of_ble_eq_true rfl) ⟨Nat.le_of_ble_eq_true rfl, Nat.le_of_ble_eq_true rfl⟩ ⟨rfl, rfl⟩ hroom (fun v2 G2 h3 => ?_) (fun E G2 h3 => by obtain ⟨y, h4, _⟩ := h2 _ _ h3; cases h4)
  obtain ⟨y, e4, h5, h6, h7⟩ := h2 _ _ h3
  cases e4
  dsimp only [Option.toList, List.cons_append, List.nil_append]
  exact law_tailZ hx ⟨⟨dL_law_3450, dL_law_3452, dL_law_3453, dL_law_3456, dL_law_3458, dL_law_3463⟩, dL_law_3465, dL_law_3468, dL_law_3469, dL_law_3470, dL_law_3471, dL_law_3473, dL_law_3476, dL_law_3477, dL_law_3480, dL_law_3481, dL_law_3482, dL_law_3487⟩ (by decide) h5 h6 hroom (kk Θ G2 (Th.refl Θ) h7)
set_option maxHeartbeats 2000000 in
set_option maxRecDepth 20000 in
theorem law_c48 (hx : lCx p l s m meth c b L xs Θ) (hS : Sim G t) (hz : 6 * t + 6 ≤ L) (hroom : k + 15 ≤ 601024 ∧ n + 262 ≤ 7293034) (kk : ∀ (Θ2 : cTH) (G2 : GS), Th Θ Θ2 → Sim G2 (t + 1) → VG p l e room_1 s m #[Value.ref b] below meth c 9 Θ2 Q9 (k + 15) (n + 262) 4427 (lsL Θ2 b (6 * t) none none) [] G2) : VG p l e room_1 s m #[Value.ref b] below meth c 9 Θ Q9 k n 3490 (lsL Θ b (6 * t) none none) [] G := by
  have hC := hx.1
  have hl9 := hx.2.2.2.2
  have hL := hx.2.2.2.1
  have hop := op_rightsOf hS (show t < 2 ^ 20 by omega) (xs (6 * t + 1)) (xs (6 * t + 2))
  refine v_aload_n (i := 1) (q := 3491) hC dL_law_3490 rfl rfl rfl ?_
  refine v_arg (q := 3497) hx 1 (by decide) ⟨dL_law_3491, dL_law_3492, dL_law_3494, dL_law_3495, dL_law_3496⟩ rfl (by omega) ?_
  refine v_arg (q := 3503) hx 2 (by decide) ⟨dL_law_3497, dL_law_3498, dL_law_3500, dL_law_3501, dL_law_3502⟩ rfl (by omega) ?_
  refine v_aload_n (i := 3) (q := 3504) hC dL_law_3503 rfl rfl rfl ?_
  refine v_callSX (q := 3507) (rm := rm_L_rightsOf) hC (w_L_rightsOf hl9 Θ (xs (6 * t + 1)) (xs (6 * t + 2)) G (c_X11_rightsOf hl9 Θ (xs (6 * t + 1)) (xs (6 * t + 2)) G hS.1.gOk_) hop.v (fun E G1 h => mem1 (hop.2 E G1 h).1)) kh_L_rightsOf ml_RL_358 dL_law_3504 rfl rfl rfl (Nat.le_of_ble_eq_true rfl) ⟨Nat.le_of_ble_eq_true rfl, Nat.le_of_ble_eq_true rfl⟩ ⟨Nat.le_of_ble_eq_true rfl, Nat.le_of_ble_eq_true rfl⟩ hroom (fun v G1 hw => ?_) wQ_no
  obtain ⟨kv, rfl, hA, h2⟩ := hop.out cd1 hw
  have hM := hS.M.agC hA
  dsimp only [Option.toList, List.cons_append, List.nil_append]
  refine v_istore (q := 3509) hC dL_law_3507 rfl (lvc rfl) (Nat.le_of_ble_eq_true rfl) (Nat.le_of_ble_eq_true rfl) rfl ?_
  show VG p l e room_1 s m #[Value.ref b] below meth c 9 Θ Q9 (k + 15) (n + 262) 3509 (lsL Θ b (6 * t) (some (.int kv)) none) [] G1
  refine v_aload_n (i := 2) (q := 3510) hC dL_law_3509 rfl rfl rfl ?_
  refine v_arg (q := 3516) hx 1 (by decide) ⟨dL_law_3510, dL_law_3511, dL_law_3513, dL_law_3514, dL_law_3515⟩ rfl (by omega) ?_
  refine v_arg (q := 3522) hx 2 (by decide) ⟨dL_law_3516, dL_law_3517, dL_law_3519, dL_law_3520, dL_law_3521⟩ rfl (by omega) ?_
  refine v_callV0 (q := 3525) (rm := rm_X12_rightsOf) hC (c_X12_rightsOf hl9 _ (xs (6 * t + 1)) (xs (6 * t + 2)) G1 hM.1) k_X12_rightsOf im_yX12_rightsOf se_yX12_rightsOf ml_RL_360 dL_law_3522 rfl rfl rfl rfl rfl rfl (Nat.le_of_ble_eq_true rfl) ⟨Nat.le_of_ble_eq_true rfl, Nat.le_of_ble_eq_true rfl⟩ ⟨rfl, rfl⟩ hroom (fun v2 G2 h3 => ?_) (fun E G2 h3 => by obtain ⟨y, h4, _⟩ := h2 _ _ h3; cases h4)
  obtain ⟨y, e4, h5, h6, h7⟩ := h2 _ _ h3
  cases e4
  dsimp only [Option.toList, List.cons_append, List.nil_append]
  exact law_tailI hx ⟨⟨dL_law_3525, dL_law_3527, dL_law_3528, dL_law_3531, dL_law_3533, dL_law_3538⟩, dL_law_3540, dL_law_3543, dL_law_3544, dL_law_3545, dL_law_3546, dL_law_3548, dL_law_3549, dL_law_3550, dL_law_3555⟩ (by decide) h5 h6 hroom (kk Θ G2 (Th.refl Θ) h7)
end LAWC2
