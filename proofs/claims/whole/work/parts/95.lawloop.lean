/-! The law: its switch, its loop. -/
section LAWL
variable {p : Program} {l : Launch} {e : Env} {s : State} {m : MethodId} {below : List Frame} {meth : Method} {c : Code} {Θ : cTH} {Q9 : State → Prop} {k n t b L : Nat} {xs : Nat → Int32} {G : GS}
def tgL (j : Nat) : Nat := ([316, 360, 404, 472, 540, 608, 676, 744, 800, 868, 936, 1004, 1095, 1231, 1367, 1491, 1615, 1683, 1763, 1850, 1942, 1998, 2011, 2024, 2068, 2124, 2180, 2193, 2206, 2281, 2356, 2431, 2506, 2519, 2544, 2600, 2656, 2712, 2775, 2831, 2887, 2962, 3030, 3098, 3166, 3241, 3316, 3403, 3490, 3558, 3638, 3718, 3805, 3873, 3941, 4016, 4029, 4070, 4083, 4096, 4152, 4208, 4271, 4315, 4371] : List Nat).getD j 0
set_option maxRecDepth 20000 in
theorem law_cases (hx : lCx p l s m meth c b L xs Θ) (hS : Sim G t) (hz : 6 * t + 6 ≤ L) (hroom : k + 15 ≤ 601024 ∧ n + 262 ≤ 7293034) (kk : ∀ (Θ2 : cTH) (G2 : GS), Th Θ Θ2 → Sim G2 (t + 1) → VG p l e room_1 s m #[Value.ref b] below meth c 9 Θ2 Q9 (k + 15) (n + 262) 4427 (lsL Θ2 b (6 * t) none none) [] G2) : ∀ j, j < 65 → VG p l e room_1 s m #[Value.ref b] below meth c 9 Θ Q9 k n (tgL j) (lsL Θ b (6 * t) none none) [] G := by
  intro j hj
  match j, hj with
  | 0, _ => exact law_c0 hx hS hz hroom kk
  | 1, _ => exact law_c1 hx hS hz hroom kk
  | 2, _ => exact law_c2 hx hS hz hroom kk
  | 3, _ => exact law_c3 hx hS hz hroom kk
  | 4, _ => exact law_c4 hx hS hz hroom kk
  | 5, _ => exact law_c5 hx hS hz hroom kk
  | 6, _ => exact law_c6 hx hS hz hroom kk
  | 7, _ => exact law_c7 hx hS hz hroom kk
  | 8, _ => exact law_c8 hx hS hz hroom kk
  | 9, _ => exact law_c9 hx hS hz hroom kk
  | 10, _ => exact law_c10 hx hS hz hroom kk
  | 11, _ => exact law_c11 hx hS hz hroom kk
  | 12, _ => exact law_c12 hx hS hz hroom kk
  | 13, _ => exact law_c13 hx hS hz hroom kk
  | 14, _ => exact law_c14 hx hS hz hroom kk
  | 15, _ => exact law_c15 hx hS hz hroom kk
  | 16, _ => exact law_c16 hx hS hz hroom kk
  | 17, _ => exact law_c17 hx hS hz hroom kk
  | 18, _ => exact law_c18 hx hS hz hroom kk
  | 19, _ => exact law_c19 hx hS hz hroom kk
  | 20, _ => exact law_c20 hx hS hz hroom kk
  | 21, _ => exact law_c21 hx hS hz hroom kk
  | 22, _ => exact law_c22 hx hS hz hroom kk
  | 23, _ => exact law_c23 hx hS hz hroom kk
  | 24, _ => exact law_c24 hx hS hz hroom kk
  | 25, _ => exact law_c25 hx hS hz hroom kk
  | 26, _ => exact law_c26 hx hS hz hroom kk
  | 27, _ => exact law_c27 hx hS hz hroom kk
  | 28, _ => exact law_c28 hx hS hz hroom kk
  | 29, _ => exact law_c29 hx hS hz hroom kk
  | 30, _ => exact law_c30 hx hS hz hroom kk
  | 31, _ => exact law_c31 hx hS hz hroom kk
  | 32, _ => exact law_c32 hx hS hz hroom kk
  | 33, _ => exact law_c33 hx hS hz hroom kk
  | 34, _ => exact law_c34 hx hS hz hroom kk
  | 35, _ => exact law_c35 hx hS hz hroom kk
  | 36, _ => exact law_c36 hx hS hz hroom kk
  | 37, _ => exact law_c37 hx hS hz hroom kk
  | 38, _ => exact law_c38 hx hS hz hroom kk
  | 39, _ => exact law_c39 hx hS hz hroom kk
  | 40, _ => exact law_c40 hx hS hz hroom kk
  | 41, _ => exact law_c41 hx hS hz hroom kk
  | 42, _ => exact law_c42 hx hS hz hroom kk
  | 43, _ => exact law_c43 hx hS hz hroom kk
  | 44, _ => exact law_c44 hx hS hz hroom kk
  | 45, _ => exact law_c45 hx hS hz hroom kk
  | 46, _ => exact law_c46 hx hS hz hroom kk
  | 47, _ => exact law_c47 hx hS hz hroom kk
  | 48, _ => exact law_c48 hx hS hz hroom kk
  | 49, _ => exact law_c49 hx hS hz hroom kk
  | 50, _ => exact law_c50 hx hS hz hroom kk
  | 51, _ => exact law_c51 hx hS hz hroom kk
  | 52, _ => exact law_c52 hx hS hz hroom kk
  | 53, _ => exact law_c53 hx hS hz hroom kk
  | 54, _ => exact law_c54 hx hS hz hroom kk
  | 55, _ => exact law_c55 hx hS hz hroom kk
  | 56, _ => exact law_c56 hx hS hz hroom kk
  | 57, _ => exact law_c57 hx hS hz hroom kk
  | 58, _ => exact law_c58 hx hS hz hroom kk
  | 59, _ => exact law_c59 hx hS hz hroom kk
  | 60, _ => exact law_c60 hx hS hz hroom kk
  | 61, _ => exact law_c61 hx hS hz hroom kk
  | 62, _ => exact law_c62 hx hS hz hroom kk
  | 63, _ => exact law_c63 hx hS hz hroom kk
  | 64, _ => exact law_c64 hx hS hz hroom kk
  | j + 65, hj => exact absurd hj (by omega)
theorem nI_toI {a : Nat} (h : a < 2 ^ 31) : (nI a).toInt = (a : Int) := nI_toInt h
theorem lp_cmp {z L : Nat} (hz : z < 2 ^ 20) (hL : L ≤ 3072) (h : ¬ (nI L - 6 < nI z)) : z + 6 ≤ L := by
  rcases Nat.lt_or_ge L 6 with h6 | h6
  · exfalso
    apply h
    rw [Int32.lt_iff_toInt_lt, nI_toI (show z < 2 ^ 31 by omega)]
    have h9 : ∀ a, a < 6 → (nI a - 6).toInt < 0 := by decide
    have := h9 L h6
    omega
  · rw [show (6 : Int32) = nI 6 from rfl, pk_sub h6] at h
    rcases Nat.lt_or_ge (L - 6) z with h7 | h7
    · exact absurd (nI_lt h7 (by omega)) h
    · omega
set_option maxHeartbeats 4000000 in
set_option maxRecDepth 20000 in
theorem law_loop (hend : ∀ (Θ : cTH) (G : GS) (k n : Nat) (LS : List (Option Value)), lCx p l s m meth c b L xs Θ → k ≤ 601024 → n ≤ 7293034 → VG p l e room_1 s m #[Value.ref b] below meth c 9 Θ Q9 k n 4434 LS [.int 1] G) : ∀ (fu t : Nat) (Θ : cTH) (G : GS) (k n : Nat), lCx p l s m meth c b L xs Θ → Sim G t → 6 * t ≤ L + 6 → L ≤ 6 * t + fu → k + 15 * fu + 14 ≤ 601024 → n + 262 * fu + 256 ≤ 7293034 → VG p l e room_1 s m #[Value.ref b] below meth c 9 Θ Q9 k n 23 (lsL Θ b (6 * t) none none) [] G := by
  intro fu
  induction fu with
  | zero =>
    intro t Θ G k n hx hS ht hf hk hn
    have hC := hx.1
    have hL := hx.2.2.2.1
    refine v_iload (q := 25) hC dL_law_23 rfl rfl ?_
    refine v_aload_n (i := 0) (q := 26) hC dL_law_25 rfl rfl rfl ?_
    refine v_slen (q := 27) hx dL_law_26 rfl ?_
    refine v_bipush (q := 29) (v := 6) hC dL_law_27 rfl (by decide) ?_
    refine v_isub (q := 30) hC dL_law_29 rfl ?_
    refine v_icmp_gt (q := 4433) (q2 := 33) hC dL_law_30 (by decide) rfl (fun _ => ?_) (fun h => ?_)
    · refine v_iconst (q := 4434) (v := 1) hC dL_law_4433 rfl (by decide) ?_
      exact hend Θ G k n _ hx (by omega) (by omega)
    · have := lp_cmp (show 6 * t < 2 ^ 20 by omega) hL h
      omega
  | succ fu ih =>
    intro t Θ G k n hx hS ht hf hk hn
    have hC := hx.1
    have hL := hx.2.2.2.1
    refine v_iload (q := 25) hC dL_law_23 rfl rfl ?_
    refine v_aload_n (i := 0) (q := 26) hC dL_law_25 rfl rfl rfl ?_
    refine v_slen (q := 27) hx dL_law_26 rfl ?_
    refine v_bipush (q := 29) (v := 6) hC dL_law_27 rfl (by decide) ?_
    refine v_isub (q := 30) hC dL_law_29 rfl ?_
    refine v_icmp_gt (q := 4433) (q2 := 33) hC dL_law_30 (by decide) rfl (fun _ => ?_) (fun h => ?_)
    · refine v_iconst (q := 4434) (v := 1) hC dL_law_4433 rfl (by decide) ?_
      exact hend Θ G k n _ hx (by omega) (by omega)
    · have hz := lp_cmp (show 6 * t < 2 ^ 20 by omega) hL h
      have kk : ∀ (Θ2 : cTH) (G2 : GS), Th Θ Θ2 → Sim G2 (t + 1) → VG p l e room_1 s m #[Value.ref b] below meth c 9 Θ2 Q9 (k + 15) (n + 262) 4427 (lsL Θ2 b (6 * t) none none) [] G2 := fun Θ2 G2 hTh hS2 => by
        have hx2 := hx.th hTh
        refine v_iinc (q := 4430) (v := nI (6 * (t + 1))) hx2.1 dL_law_4427 rfl rfl ?_ (lvc rfl) (Nat.le_of_ble_eq_true rfl) (Nat.le_of_ble_eq_true rfl) rfl ?_
        · rw [show Int32.ofInt 6 = nI 6 from by decide, nI_add]
          exact congrArg nI (by omega)
        refine v_goto (q := 23) hx2.1 dL_law_4430 (by decide) ?_
        exact ih (t + 1) Θ2 G2 (k + 15) (n + 262) hx2 hS2 (by omega) (by omega) (by omega) (by omega)
      refine v_aload_n (i := 0) (q := 34) hC dL_law_33 rfl rfl rfl ?_
      refine v_iload (q := 36) hC dL_law_34 rfl rfl ?_
      refine v_sld (q := 37) hx dL_law_36 rfl (by omega) ?_
      refine v_bipush (q := 39) (v := 127) hC dL_law_37 rfl (by decide) ?_
      refine v_iand (q := 40) hC dL_law_39 rfl ?_
      refine v_tabN (N := 65) (t3 := 4427) (tg := tgL) hC dL_law_40 (by decide) (by decide +kernel) (by decide) (law_cases hx hS hz ⟨by omega, by omega⟩ kk) ?_
      exact v_widen (Nat.le_add_right _ _) (Nat.le_add_right _ _) (kk Θ G (Th.refl Θ) (hS.mono (Nat.le_succ t)))
end LAWL
