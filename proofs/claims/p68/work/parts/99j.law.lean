/-! The law: its loop. -/
abbrev rm_L_law : Room := room_1
theorem fQ_k {t : Nat} {P : Option Value → GS → Prop} (h : ∀ G1, Sim G1 (t + 1) → LR G1 → noT G1.2.2.1 2 → P (some (.int 1)) G1) : ∀ r G9, fQ t (.inl r) G9 → P r G9 := by
  rintro r G9 ⟨h1, h2, h3, h4⟩
  cases h1
  exact h G9 h2 h3 h4
theorem fQ_n {t : Nat} : ∀ E G9, fQ t (.inr E) G9 → False := by
  rintro E G9 ⟨h1, -⟩
  cases h1
theorem and31 (x : Int32) : ∃ z : Nat, z < 2 ^ 31 ∧ x &&& 2147483647 = nI z := by
  refine ⟨(x &&& 2147483647).toBitVec.toNat, ?_, ?_⟩
  · rw [Int32.toBitVec_and, BitVec.toNat_and]
    exact Nat.lt_of_le_of_lt Nat.and_le_right (by decide)
  · apply Int32.toBitVec_inj.mp
    show _ = BitVec.ofNat 32 _
    rw [BitVec.ofNat_toNat, BitVec.setWidth_eq]
theorem noT_nx {G G1 : GS} {t : Nat} (h : Nx G G1 t) (hlv : noT G.2.2.1 2) : noT G1.2.2.1 2 := by rw [h.2.2.2]; exact hlv
section LAWL
variable {p : Program} {l : Launch} {e : Env} {s : State} {m : MethodId} {args : Array Value} {below : List Frame} {meth : Method} {c : Code} {Θ : cTH} {Q9 : State → Prop} {b L : Nat} {xs : Nat → Int32}
set_option maxHeartbeats 4000000 in
set_option maxRecDepth 20000 in
theorem law_loop (hl : l.stackTraces = false) (hC : cC p l s m args meth c cL_law 13 RL Θ) (hX : va_X b L xs s s.heap) (hb : b < tB Θ) (hL : L ≤ 260) (hend : ∀ (G : GS) (LS : List (Option Value)), VG p l e room_1 s m args below meth c 13 Θ Q9 672488 7084235 404 LS [.int 1] G) : ∀ (f d t : Nat) (G : GS), f + d = 60 → t ≤ 2 * d → Sim G t → LR G → noT G.2.2.1 2 → VG p l e room_1 s m args below meth c 13 Θ Q9 (200 + 2348 * d + 0) (6000 + 14110 * d + 0) 90 [some (.ref b), some (.ref (tR Θ 0 14)), some (.ref (tR Θ 0 40)), some (.ref (tR Θ 0 41)), some (.ref (tR Θ 0 42)), some (.ref (tR Θ 0 43)), some (.ref (tR Θ 0 44)), some (.int (nI d)), none, none, none, none, none] [] (G) := by
  intro f
  induction f with
  | zero =>
    intro d t G hd ht hS hLR hlv
    have e60 : d = 60 := by omega
    subst e60
    refine v_iload (q := 92) hC dL_law_90 rfl rfl ?_
    refine v_bipush (q := 94) (v := 60) hC dL_law_92 rfl (by decide) ?_
    refine v_icmp_ge (q := 403) (q2 := 97) hC dL_law_94 (by decide) rfl (fun c_94 => ?_) (fun c_94 => ?_)
    · refine v_iconst (q := 404) (v := 1) hC dL_law_403 rfl (by decide) ?_
      exact v_widen (by omega) (by omega) (hend _ _)
    · exact absurd (Int32.le_refl _) c_94
  | succ f ih =>
    intro d t G hd ht hS hLR hlv
    have hd60 : d < 60 := by omega
    -- the end of a round
    have E : ∀ (t2 : Nat) (G1 : GS) (x8 x9 x10 x11 x12 : Option Value), t2 ≤ 2 * (d + 1) → Sim G1 t2 → LR G1 → noT G1.2.2.1 2 → VG p l e room_1 s m args below meth c 13 Θ Q9 (200 + 2348 * d + 2348) (6000 + 14110 * d + 14110) 397 [some (.ref b), some (.ref (tR Θ 0 14)), some (.ref (tR Θ 0 40)), some (.ref (tR Θ 0 41)), some (.ref (tR Θ 0 42)), some (.ref (tR Θ 0 43)), some (.ref (tR Θ 0 44)), some (.int (nI d)), x8, x9, x10, x11, x12] [] (G1) := by
      intro t2 G1 x8 x9 x10 x11 x12 ht2 hS1 hL1 hlv1
      refine v_iinc (q := 400) (v := nI (d + 1)) hC dL_law_397 rfl rfl (nI_1 d) (lvc rfl) (Nat.le_of_ble_eq_true rfl) (Nat.le_of_ble_eq_true rfl) rfl ?_
      refine v_goto (q := 90) hC dL_law_400 (by decide) ?_
      refine v_sub (LS2 := [some (.ref b), some (.ref (tR Θ 0 14)), some (.ref (tR Θ 0 40)), some (.ref (tR Θ 0 41)), some (.ref (tR Θ 0 42)), some (.ref (tR Θ 0 43)), some (.ref (tR Θ 0 44)), some (.int (nI (d + 1))), none, none, none, none, none]) (fun i v hi => ?_) (v_widen (by omega) (by omega) (ih (d + 1) t2 G1 (by omega) ht2 hS1 hL1 hlv1))
      match i, hi with
      | 0, hi => exact hi
      | 1, hi => exact hi
      | 2, hi => exact hi
      | 3, hi => exact hi
      | 4, hi => exact hi
      | 5, hi => exact hi
      | 6, hi => exact hi
      | 7, hi => exact hi
      | 8, hi => cases hi
      | 9, hi => cases hi
      | 10, hi => cases hi
      | 11, hi => cases hi
      | 12, hi => cases hi
      | i + 13, hi => cases hi
    -- sums and an entry that may give nothing
    have Cc : ∀ (zn : Nat) (G1 : GS) (x9 x10 x11 x12 : Option Value), zn < 2 ^ 31 → Sim G1 (t + 1) → LR G1 → noT G1.2.2.1 2 → VG p l e room_1 s m args below meth c 13 Θ Q9 (200 + 2348 * d + 2330) (6000 + 14110 * d + 13990) 338 [some (.ref b), some (.ref (tR Θ 0 14)), some (.ref (tR Θ 0 40)), some (.ref (tR Θ 0 41)), some (.ref (tR Θ 0 42)), some (.ref (tR Θ 0 43)), some (.ref (tR Θ 0 44)), some (.int (nI d)), some (.int (nI zn)), x9, x10, x11, x12] [] (G1) := by
      intro zn G1 x9 x10 x11 x12 hz31 hS1 hL1 hlv1
      have q3 : nI zn / 3 = nI (zn / 3) := pk_div (d := 3) hz31 (by decide) (by decide)
      have q5 : nI zn / 5 = nI (zn / 5) := pk_div (d := 5) hz31 (by decide) (by decide)
      have q13 : nI zn / 13 = nI (zn / 13) := pk_div (d := 13) hz31 (by decide) (by decide)
      have r3 : nI zn / 3 - nI zn / 3 / 10 * 10 = nI (zn / 3 % 10) := by
        rw [q3]; exact pk_rem (d := 10) (by omega) (by decide) (by decide)
      have r5 : nI zn / 5 - nI zn / 5 / 10 * 10 = nI (zn / 5 % 10) := by
        rw [q5]; exact pk_rem (d := 10) (by omega) (by decide) (by decide)
      have r13 : nI zn / 13 - nI zn / 13 / 6 * 6 = nI (zn / 13 % 6) := by
        rw [q13]; exact pk_rem (d := 6) (by omega) (by decide) (by decide)
      refine v_iload (q := 340) hC dL_law_338 rfl rfl ?_
      refine v_bipush (q := 342) (v := 6) hC dL_law_340 rfl (by decide) ?_
      refine v_irem (q := 343) hC dL_law_342 rfl (by decide) ?_
      refine v_iconst (q := 344) (v := 2) hC dL_law_343 rfl (by decide) ?_
      refine v_icmp_ne (q := 397) (q2 := 347) hC dL_law_344 (by decide) rfl (fun c_344 => ?_) (fun c_344 => ?_)
      · first
          | exact v_widen (by omega) (by omega) (E (t + 1 + 1) G_389 _ _ _ _ _ (by omega) y_389.1 ((hL1.cg fun o ho => ho.elim (fun h => by rw [h]; exact y_361.2.1) (fun h => y_361.2.2.1 o h.1 h.2)).cg fun o ho => ho.elim (fun h => by rw [h]; exact y_389.2.1) (fun h => y_389.2.2.1 o h.1 h.2)) y_389.2.2.2)
          | exact v_widen (by omega) (by omega) (E (t + 1) G1 _ _ _ _ _ (by omega) hS1 hL1 hlv1)
      · refine v_aload_n (i := 1) (q := 348) hC dL_law_347 rfl rfl rfl ?_
        refine v_aload_n (i := 2) (q := 349) hC dL_law_348 rfl rfl rfl ?_
        refine v_aload_n (i := 3) (q := 350) hC dL_law_349 rfl rfl rfl ?_
        refine v_aload (q := 352) hC dL_law_350 rfl rfl ?_
        refine v_aload (q := 354) hC dL_law_352 rfl rfl ?_
        refine v_iload (q := 356) hC dL_law_354 rfl rfl ?_
        refine v_iconst (q := 357) (v := 3) hC dL_law_356 rfl (by decide) ?_
        refine v_idiv (q := 358) hC dL_law_357 rfl (by decide) ?_
        refine v_bipush (q := 360) (v := 10) hC dL_law_358 rfl (by decide) ?_
        refine v_irem (q := 361) hC dL_law_360 rfl (by decide) ?_
        rw [r3]
        refine v_callSN (q := 364) (rm := rm_L_areSums) hC (c_L_areSums hl Θ (zn / 3 % 10) (t + 1) _ hS1 hL1 (by omega) (Nat.mod_lt _ (by decide)) hlv1) k_L_areSums st_yL_areSums ml_RL_429 dL_law_361 rfl rfl rfl (Nat.le_of_ble_eq_true rfl) ⟨Nat.le_of_ble_eq_true rfl, Nat.le_of_ble_eq_true rfl⟩ (c1 := 12) (s1 := 80) rfl rfl ⟨show _ + 12 ≤ 672488 by omega, show _ + 80 ≤ 7084235 by omega⟩ (sQ_k (fun G_361 y_361 => ?_)) sQ_n
        try dsimp only [Option.toList, List.cons_append, List.nil_append]
        refine v_if_eq (q := 395) (q2 := 367) hC dL_law_364 (by decide) rfl (fun c_364 => ?_) (fun c_364 => ?_)
        · exact absurd c_364 (by decide)
        · refine v_aload_n (i := 1) (q := 368) hC dL_law_367 rfl rfl rfl ?_
          refine v_aload_n (i := 2) (q := 369) hC dL_law_368 rfl rfl rfl ?_
          refine v_aload_n (i := 3) (q := 370) hC dL_law_369 rfl rfl rfl ?_
          refine v_aload (q := 372) hC dL_law_370 rfl rfl ?_
          refine v_aload (q := 374) hC dL_law_372 rfl rfl ?_
          refine v_iload (q := 376) hC dL_law_374 rfl rfl ?_
          refine v_iconst (q := 377) (v := 5) hC dL_law_376 rfl (by decide) ?_
          refine v_idiv (q := 378) hC dL_law_377 rfl (by decide) ?_
          refine v_bipush (q := 380) (v := 10) hC dL_law_378 rfl (by decide) ?_
          refine v_irem (q := 381) hC dL_law_380 rfl (by decide) ?_
          rw [r5]
          refine v_iload (q := 383) hC dL_law_381 rfl rfl ?_
          refine v_bipush (q := 385) (v := 13) hC dL_law_383 rfl (by decide) ?_
          refine v_idiv (q := 386) hC dL_law_385 rfl (by decide) ?_
          refine v_bipush (q := 388) (v := 6) hC dL_law_386 rfl (by decide) ?_
          refine v_irem (q := 389) hC dL_law_388 rfl (by decide) ?_
          rw [r13]
          refine v_callSN (q := 392) (rm := rm_L_isNeedless) hC (c_L_isNeedless hl Θ (zn / 5 % 10) (zn / 13 % 6) (t + 1) _ y_361.1 (hL1.cg fun o ho => ho.elim (fun h => by rw [h]; exact y_361.2.1) (fun h => y_361.2.2.1 o h.1 h.2)) (by omega) (Nat.mod_lt _ (by decide)) (Nat.mod_lt _ (by decide)) y_361.2.2.2) k_L_isNeedless st_yL_isNeedless ml_RL_433 dL_law_389 rfl rfl rfl (Nat.le_of_ble_eq_true rfl) ⟨Nat.le_of_ble_eq_true rfl, Nat.le_of_ble_eq_true rfl⟩ (c1 := 6) (s1 := 40) rfl rfl ⟨show _ + 6 ≤ 672488 by omega, show _ + 40 ≤ 7084235 by omega⟩ (sQ_k (fun G_389 y_389 => ?_)) sQ_n
          try dsimp only [Option.toList, List.cons_append, List.nil_append]
          refine v_if_ne (q := 397) (q2 := 395) hC dL_law_392 (by decide) rfl (fun c_392 => ?_) (fun c_392 => ?_)
          · first
              | exact v_widen (by omega) (by omega) (E (t + 1 + 1) G_389 _ _ _ _ _ (by omega) y_389.1 ((hL1.cg fun o ho => ho.elim (fun h => by rw [h]; exact y_361.2.1) (fun h => y_361.2.2.1 o h.1 h.2)).cg fun o ho => ho.elim (fun h => by rw [h]; exact y_389.2.1) (fun h => y_389.2.2.1 o h.1 h.2)) y_389.2.2.2)
              | exact v_widen (by omega) (by omega) (E (t + 1) G1 _ _ _ _ _ (by omega) hS1 hL1 hlv1)
          · exact absurd c_392 (by decide)
    have B : ∀ (zn : Nat) (G1 : GS) (x9 x10 x11 x12 : Option Value), zn < 2 ^ 31 → Sim G1 (t + 1) → LR G1 → noT G1.2.2.1 2 → VG p l e room_1 s m args below meth c 13 Θ Q9 (200 + 2348 * d + 1610) (6000 + 14110 * d + 9670) 320 [some (.ref b), some (.ref (tR Θ 0 14)), some (.ref (tR Θ 0 40)), some (.ref (tR Θ 0 41)), some (.ref (tR Θ 0 42)), some (.ref (tR Θ 0 43)), some (.ref (tR Θ 0 44)), some (.int (nI d)), some (.int (nI zn)), x9, x10, x11, x12] [] (G1) := by
      intro zn G1 x9 x10 x11 x12 hz31 hS1 hL1 hlv1
      refine v_iload (q := 322) hC dL_law_320 rfl rfl ?_
      refine v_iconst (q := 323) (v := 4) hC dL_law_322 rfl (by decide) ?_
      refine v_irem (q := 324) hC dL_law_323 rfl (by decide) ?_
      refine v_iconst (q := 325) (v := 1) hC dL_law_324 rfl (by decide) ?_
      refine v_icmp_ne (q := 338) (q2 := 328) hC dL_law_325 (by decide) rfl (fun c_325 => ?_) (fun c_325 => ?_)
      · first
          | exact v_widen (by omega) (by omega) (Cc zn G_332 _ _ _ _ hz31 y_332.1 (hL1.nx y_332) (noT_nx y_332 hlv1))
          | exact v_widen (by omega) (by omega) (Cc zn G1 _ _ _ _ hz31 hS1 hL1 hlv1)
      · refine v_aload_n (i := 1) (q := 329) hC dL_law_328 rfl rfl rfl ?_
        refine v_aload_n (i := 2) (q := 330) hC dL_law_329 rfl rfl rfl ?_
        refine v_aload (q := 332) hC dL_law_330 rfl rfl ?_
        refine v_callSN (q := 335) (rm := rm_L_areGroups) hC (c_L_areGroups hl Θ (t + 1) _ hS1 hL1 (by omega)) k_L_areGroups st_yL_areGroups ml_RL_426 dL_law_332 rfl rfl rfl (Nat.le_of_ble_eq_true rfl) ⟨Nat.le_of_ble_eq_true rfl, Nat.le_of_ble_eq_true rfl⟩ (c1 := 720) (s1 := 4320) rfl rfl ⟨show _ + 720 ≤ 672488 by omega, show _ + 4320 ≤ 7084235 by omega⟩ (rQ_k (fun G_332 y_332 => ?_)) rQ_n
        try dsimp only [Option.toList, List.cons_append, List.nil_append]
        refine v_if_eq (q := 395) (q2 := 338) hC dL_law_335 (by decide) rfl (fun c_335 => ?_) (fun c_335 => ?_)
        · exact absurd c_335 (by decide)
        · first
            | exact v_widen (by omega) (by omega) (Cc zn G_332 _ _ _ _ hz31 y_332.1 (hL1.nx y_332) (noT_nx y_332 hlv1))
            | exact v_widen (by omega) (by omega) (Cc zn G1 _ _ _ _ hz31 hS1 hL1 hlv1)
    have A : ∀ (zn : Nat) (G1 : GS) (x9 x10 : Int32), zn < 2 ^ 31 → Sim G1 (t + 1) → LR G1 → noT G1.2.2.1 2 → VG p l e room_1 s m args below meth c 13 Θ Q9 (200 + 2348 * d + 30) (6000 + 14110 * d + 190) 255 [some (.ref b), some (.ref (tR Θ 0 14)), some (.ref (tR Θ 0 40)), some (.ref (tR Θ 0 41)), some (.ref (tR Θ 0 42)), some (.ref (tR Θ 0 43)), some (.ref (tR Θ 0 44)), some (.int (nI d)), some (.int (nI zn)), some (.int (x9)), some (.int (x10)), none, none] [.int 1] (G1) := by
      intro zn G1 x9 x10 hz31 hS1 hL1 hlv1
      have hU := hL1.1.ok.us12
      have us1 := hL1.2.1.2
      have q7 : nI zn / 7 = nI (zn / 7) := pk_div (d := 7) hz31 (by decide) (by decide)
      have q11 : nI zn / 11 = nI (zn / 11) := pk_div (d := 11) hz31 (by decide) (by decide)
      have r7 : nI zn / 7 - nI zn / 7 / nI (mUs (G1.2.1 0 30)) * nI (mUs (G1.2.1 0 30)) = nI (zn / 7 % mUs (G1.2.1 0 30)) := by
        rw [q7]; exact pk_rem (d := mUs (G1.2.1 0 30)) (by omega) us1 (by omega)
      have r11 : nI zn / 11 - nI zn / 11 / 8 * 8 = nI (zn / 11 % 8) := by
        rw [q11]; exact pk_rem (d := 8) (by omega) (by decide) (by decide)
      have hnz : ¬ nI (mUs (G1.2.1 0 30)) = 0 := fun z => by
        have h9 := (nI_eq (b := 0) (by omega) (by decide)).mp z
        omega
      have hu : zn / 7 % mUs (G1.2.1 0 30) < mUs (G1.2.1 0 30) := Nat.mod_lt _ us1
      generalize zn / 7 % mUs (G1.2.1 0 30) = u at r7 hu
      refine v_istore (q := 257) hC dL_law_255 rfl (lvc rfl) (Nat.le_of_ble_eq_true rfl) (Nat.le_of_ble_eq_true rfl) rfl ?_
      refine v_iload (q := 259) hC dL_law_257 rfl rfl ?_
      refine v_bipush (q := 261) (v := 7) hC dL_law_259 rfl (by decide) ?_
      refine v_idiv (q := 262) hC dL_law_261 rfl (by decide) ?_
      refine v_aload (q := 264) hC dL_law_262 rfl rfl ?_
      refine v_iconst (q := 265) (v := 0) hC dL_law_264 rfl (by decide) ?_
      refine v_ialdV (q := 266) hC dL_law_265 rfl rfl rfl (i := 0) (rfl) (by first | decide | omega) (by decide) (hL1.2.1.1) ?_
      refine v_irem (q := 267) hC dL_law_266 rfl (hnz) ?_
      rw [r7]
      refine v_istore (q := 269) hC dL_law_267 rfl (lvc rfl) (Nat.le_of_ble_eq_true rfl) (Nat.le_of_ble_eq_true rfl) rfl ?_
      refine v_iload (q := 271) hC dL_law_269 rfl rfl ?_
      refine v_if_eq (q := 395) (q2 := 274) hC dL_law_271 (by decide) rfl (fun c_271 => ?_) (fun c_271 => ?_)
      · exact absurd c_271 (by decide)
      · refine v_aload_n (i := 1) (q := 275) hC dL_law_274 rfl rfl rfl ?_
        refine v_aload_n (i := 3) (q := 276) hC dL_law_275 rfl rfl rfl ?_
        refine v_aload (q := 278) hC dL_law_276 rfl rfl ?_
        refine v_aload (q := 280) hC dL_law_278 rfl rfl ?_
        refine v_callSN (q := 283) (rm := rm_L_areObjects) hC (c_L_areObjects hl Θ (t + 1) _ hS1 hL1 (by omega)) k_L_areObjects st_yL_areObjects ml_RL_415 dL_law_280 rfl rfl rfl (Nat.le_of_ble_eq_true rfl) ⟨Nat.le_of_ble_eq_true rfl, Nat.le_of_ble_eq_true rfl⟩ (c1 := 910) (s1 := 5460) rfl rfl ⟨show _ + 910 ≤ 672488 by omega, show _ + 5460 ≤ 7084235 by omega⟩ (rQ_k (fun G_280 y_280 => ?_)) rQ_n
        try dsimp only [Option.toList, List.cons_append, List.nil_append]
        refine v_if_eq (q := 395) (q2 := 286) hC dL_law_283 (by decide) rfl (fun c_283 => ?_) (fun c_283 => ?_)
        · exact absurd c_283 (by decide)
        · refine v_aload_n (i := 1) (q := 287) hC dL_law_286 rfl rfl rfl ?_
          refine v_aload_n (i := 2) (q := 288) hC dL_law_287 rfl rfl rfl ?_
          refine v_aload_n (i := 3) (q := 289) hC dL_law_288 rfl rfl rfl ?_
          refine v_aload (q := 291) hC dL_law_289 rfl rfl ?_
          refine v_aload (q := 293) hC dL_law_291 rfl rfl ?_
          refine v_iload (q := 295) hC dL_law_293 rfl rfl ?_
          refine v_iload (q := 297) hC dL_law_295 rfl rfl ?_
          refine v_bipush (q := 299) (v := 11) hC dL_law_297 rfl (by decide) ?_
          refine v_idiv (q := 300) hC dL_law_299 rfl (by decide) ?_
          refine v_bipush (q := 302) (v := 8) hC dL_law_300 rfl (by decide) ?_
          refine v_irem (q := 303) hC dL_law_302 rfl (by decide) ?_
          rw [r11]
          refine v_callSN (q := 306) (rm := rm_L_areRights) hC (c_L_areRights hl Θ u (zn / 11 % 8) (t + 1) _ y_280.1 (hL1.nx y_280) (by omega) (by rw [y_280.w]; exact hu) (Nat.mod_lt _ (by decide))) k_L_areRights st_yL_areRights ml_RL_419 dL_law_303 rfl rfl rfl (Nat.le_of_ble_eq_true rfl) ⟨Nat.le_of_ble_eq_true rfl, Nat.le_of_ble_eq_true rfl⟩ (c1 := 640) (s1 := 3840) rfl rfl ⟨show _ + 640 ≤ 672488 by omega, show _ + 3840 ≤ 7084235 by omega⟩ (rQ_k (fun G_303 y_303 => ?_)) rQ_n
          try dsimp only [Option.toList, List.cons_append, List.nil_append]
          refine v_if_eq (q := 395) (q2 := 309) hC dL_law_306 (by decide) rfl (fun c_306 => ?_) (fun c_306 => ?_)
          · exact absurd c_306 (by decide)
          · refine v_aload_n (i := 1) (q := 310) hC dL_law_309 rfl rfl rfl ?_
            refine v_aload (q := 312) hC dL_law_310 rfl rfl ?_
            refine v_aload (q := 314) hC dL_law_312 rfl rfl ?_
            refine v_callSN (q := 317) (rm := rm_L_isLog) hC (c_L_isLog hl Θ (t + 1) _ y_303.1 ((hL1.nx y_280).nx y_303) (by omega)) k_L_isLog st_yL_isLog ml_RL_422 dL_law_314 rfl rfl rfl (Nat.le_of_ble_eq_true rfl) ⟨Nat.le_of_ble_eq_true rfl, Nat.le_of_ble_eq_true rfl⟩ (c1 := 30) (s1 := 180) rfl rfl ⟨show _ + 30 ≤ 672488 by omega, show _ + 180 ≤ 7084235 by omega⟩ (rQ_k (fun G_314 y_314 => ?_)) rQ_n
            try dsimp only [Option.toList, List.cons_append, List.nil_append]
            refine v_if_eq (q := 395) (q2 := 320) hC dL_law_317 (by decide) rfl (fun c_317 => ?_) (fun c_317 => ?_)
            · exact absurd c_317 (by decide)
            · exact v_widen (by omega) (by omega) (B zn G_314 _ _ _ _ hz31 y_314.1 (((hL1.nx y_280).nx y_303).nx y_314) (noT_nx y_314 (noT_nx y_303 (noT_nx y_280 hlv1))))
    have D : ∀ (zn way y : Nat), zn < 2 ^ 31 → way < 26 → y < 2 ^ 31 → VG p l e room_1 s m args below meth c 13 Θ Q9 (200 + 2348 * d + 0) (6000 + 14110 * d + 0) 122 [some (.ref b), some (.ref (tR Θ 0 14)), some (.ref (tR Θ 0 40)), some (.ref (tR Θ 0 41)), some (.ref (tR Θ 0 42)), some (.ref (tR Θ 0 43)), some (.ref (tR Θ 0 44)), some (.int (nI d)), some (.int (nI zn)), some (.int (nI y)), some (.int (nI way)), none, none] [] (G) := by
      intro zn way y hz31 hway hy31
      have d2 : nI d - nI d / 2 * 2 = nI (d % 2) := pk_rem (d := 2) (by omega) (by decide) (by decide)
      have y2 : nI y / 2 = nI (y / 2) := pk_div (d := 2) hy31 (by decide) (by decide)
      have y6 : (6 : Int32) + (nI y - nI y / 2 * 2) = nI (6 + y % 2) := by
        rw [show nI y - nI y / 2 * 2 = nI (y % 2) from pk_rem (d := 2) hy31 (by decide) (by decide), show (6 : Int32) = nI 6 from rfl, nI_add]
      by_cases h6 : d < 6
      · refine v_iload (q := 124) hC dL_law_122 rfl rfl ?_
        refine v_bipush (q := 126) (v := 6) hC dL_law_124 rfl (by decide) ?_
        refine v_icmp_ge (q := 145) (q2 := 129) hC dL_law_126 (by decide) rfl (fun c_126 => ?_) (fun c_126 => ?_)
        · exact absurd c_126 (nI_ge (b := 6) h6 (by decide))
        · refine v_aload_n (i := 1) (q := 130) hC dL_law_129 rfl rfl rfl ?_
          refine v_aload_n (i := 2) (q := 131) hC dL_law_130 rfl rfl rfl ?_
          refine v_aload (q := 133) hC dL_law_131 rfl rfl ?_
          refine v_iload (q := 135) hC dL_law_133 rfl rfl ?_
          refine v_iconst (q := 136) (v := 2) hC dL_law_135 rfl (by decide) ?_
          refine v_irem (q := 137) hC dL_law_136 rfl (by decide) ?_
          refine v_iload (q := 139) hC dL_law_137 rfl rfl ?_
          rw [d2]
          refine v_callSN (q := 142) (rm := rm_L_ofGroups) hC (c_L_ofGroups hl Θ (d % 2) y t _ hS hLR (by omega) hlv (by omega) hy31) k_L_ofGroups st_yL_ofGroups ml_RL_400 dL_law_139 rfl rfl rfl (Nat.le_of_ble_eq_true rfl) ⟨Nat.le_of_ble_eq_true rfl, Nat.le_of_ble_eq_true rfl⟩ (c1 := 26) (s1 := 156) rfl rfl ⟨show _ + 26 ≤ 672488 by omega, show _ + 156 ≤ 7084235 by omega⟩ (fQ_k (fun G_139 s_139 l_139 v_139 => ?_)) fQ_n
          try dsimp only [Option.toList, List.cons_append, List.nil_append]
          refine v_goto (q := 255) hC dL_law_142 (by decide) ?_
          exact v_widen (by omega) (by omega) (A zn G_139 _ _ hz31 s_139 l_139 v_139)
      by_cases h8 : way < 8
      · refine v_iload (q := 124) hC dL_law_122 rfl rfl ?_
        refine v_bipush (q := 126) (v := 6) hC dL_law_124 rfl (by decide) ?_
        refine v_icmp_ge (q := 145) (q2 := 129) hC dL_law_126 (by decide) rfl (fun c_126 => ?_) (fun c_126 => ?_)
        · refine v_iload (q := 147) hC dL_law_145 rfl rfl ?_
          refine v_bipush (q := 149) (v := 8) hC dL_law_147 rfl (by decide) ?_
          refine v_icmp_ge (q := 166) (q2 := 152) hC dL_law_149 (by decide) rfl (fun c_149 => ?_) (fun c_149 => ?_)
          · exact absurd c_149 (nI_ge (b := 8) h8 (by decide))
          · refine v_aload_n (i := 1) (q := 153) hC dL_law_152 rfl rfl rfl ?_
            refine v_aload_n (i := 2) (q := 154) hC dL_law_153 rfl rfl rfl ?_
            refine v_aload (q := 156) hC dL_law_154 rfl rfl ?_
            refine v_iload (q := 158) hC dL_law_156 rfl rfl ?_
            refine v_iload (q := 160) hC dL_law_158 rfl rfl ?_
            refine v_callSN (q := 163) (rm := rm_L_ofGroups) hC (c_L_ofGroups hl Θ way y t _ hS hLR (by omega) hlv h8 hy31) k_L_ofGroups st_yL_ofGroups ml_RL_400 dL_law_160 rfl rfl rfl (Nat.le_of_ble_eq_true rfl) ⟨Nat.le_of_ble_eq_true rfl, Nat.le_of_ble_eq_true rfl⟩ (c1 := 26) (s1 := 156) rfl rfl ⟨show _ + 26 ≤ 672488 by omega, show _ + 156 ≤ 7084235 by omega⟩ (fQ_k (fun G_160 s_160 l_160 v_160 => ?_)) fQ_n
            try dsimp only [Option.toList, List.cons_append, List.nil_append]
            refine v_goto (q := 255) hC dL_law_163 (by decide) ?_
            exact v_widen (by omega) (by omega) (A zn G_160 _ _ hz31 s_160 l_160 v_160)
        · exact absurd (Int32.not_le.mp c_126) (nI_nlt (b := 6) (by omega) (by omega))
      by_cases h14 : way = 14
      · subst h14
        refine v_iload (q := 124) hC dL_law_122 rfl rfl ?_
        refine v_bipush (q := 126) (v := 6) hC dL_law_124 rfl (by decide) ?_
        refine v_icmp_ge (q := 145) (q2 := 129) hC dL_law_126 (by decide) rfl (fun c_126 => ?_) (fun c_126 => ?_)
        · refine v_iload (q := 147) hC dL_law_145 rfl rfl ?_
          refine v_bipush (q := 149) (v := 8) hC dL_law_147 rfl (by decide) ?_
          refine v_icmp_ge (q := 166) (q2 := 152) hC dL_law_149 (by decide) rfl (fun c_149 => ?_) (fun c_149 => ?_)
          · refine v_iload (q := 168) hC dL_law_166 rfl rfl ?_
            refine v_bipush (q := 170) (v := 15) hC dL_law_168 rfl (by decide) ?_
            refine v_icmp_ge (q := 209) (q2 := 173) hC dL_law_170 (by decide) rfl (fun c_170 => ?_) (fun c_170 => ?_)
            · exact absurd c_170 (by decide)
            · refine v_aload_n (i := 1) (q := 174) hC dL_law_173 rfl rfl rfl ?_
              refine v_aload_n (i := 3) (q := 175) hC dL_law_174 rfl rfl rfl ?_
              refine v_aload (q := 177) hC dL_law_175 rfl rfl ?_
              refine v_iload (q := 179) hC dL_law_177 rfl rfl ?_
              refine v_bipush (q := 181) (v := 14) hC dL_law_179 rfl (by decide) ?_
              refine v_icmp_ne (q := 194) (q2 := 184) hC dL_law_181 (by decide) rfl (fun c_181 => ?_) (fun c_181 => ?_)
              · exact absurd rfl c_181
              · refine v_bipush (q := 186) (v := 6) hC dL_law_184 rfl (by decide) ?_
                refine v_iload (q := 188) hC dL_law_186 rfl rfl ?_
                refine v_iconst (q := 189) (v := 2) hC dL_law_188 rfl (by decide) ?_
                refine v_irem (q := 190) hC dL_law_189 rfl (by decide) ?_
                refine v_iadd (q := 191) hC dL_law_190 rfl ?_
                rw [y6]
                refine v_goto (q := 199) hC dL_law_191 (by decide) ?_
                refine v_iload (q := 201) hC dL_law_199 rfl rfl ?_
                refine v_iconst (q := 202) (v := 2) hC dL_law_201 rfl (by decide) ?_
                refine v_idiv (q := 203) hC dL_law_202 rfl (by decide) ?_
                rw [y2]
                refine v_callSN (q := 206) (rm := rm_L_ofObjects) hC (c_L_ofObjects hl Θ (6 + y % 2) (y / 2) t _ hS hLR (by omega) hlv (by omega) (by omega)) k_L_ofObjects st_yL_ofObjects ml_RL_404 dL_law_203 rfl rfl rfl (Nat.le_of_ble_eq_true rfl) ⟨Nat.le_of_ble_eq_true rfl, Nat.le_of_ble_eq_true rfl⟩ (c1 := 21) (s1 := 126) rfl rfl ⟨show _ + 21 ≤ 672488 by omega, show _ + 126 ≤ 7084235 by omega⟩ (fQ_k (fun G_203 s_203 l_203 v_203 => ?_)) fQ_n
                try dsimp only [Option.toList, List.cons_append, List.nil_append]
                refine v_goto (q := 255) hC dL_law_206 (by decide) ?_
                exact v_widen (by omega) (by omega) (A zn G_203 _ _ hz31 s_203 l_203 v_203)
          · exact absurd (by decide) c_149
        · exact absurd (Int32.not_le.mp c_126) (nI_nlt (b := 6) (by omega) (by omega))
      by_cases h15 : way < 15
      · have e8 : nI way - 8 = nI (way - 8) := by
            rw [show (8 : Int32) = nI 8 from rfl]; exact pk_sub (by omega)
        refine v_iload (q := 124) hC dL_law_122 rfl rfl ?_
        refine v_bipush (q := 126) (v := 6) hC dL_law_124 rfl (by decide) ?_
        refine v_icmp_ge (q := 145) (q2 := 129) hC dL_law_126 (by decide) rfl (fun c_126 => ?_) (fun c_126 => ?_)
        · refine v_iload (q := 147) hC dL_law_145 rfl rfl ?_
          refine v_bipush (q := 149) (v := 8) hC dL_law_147 rfl (by decide) ?_
          refine v_icmp_ge (q := 166) (q2 := 152) hC dL_law_149 (by decide) rfl (fun c_149 => ?_) (fun c_149 => ?_)
          · refine v_iload (q := 168) hC dL_law_166 rfl rfl ?_
            refine v_bipush (q := 170) (v := 15) hC dL_law_168 rfl (by decide) ?_
            refine v_icmp_ge (q := 209) (q2 := 173) hC dL_law_170 (by decide) rfl (fun c_170 => ?_) (fun c_170 => ?_)
            · exact absurd c_170 (nI_ge (b := 15) h15 (by decide))
            · refine v_aload_n (i := 1) (q := 174) hC dL_law_173 rfl rfl rfl ?_
              refine v_aload_n (i := 3) (q := 175) hC dL_law_174 rfl rfl rfl ?_
              refine v_aload (q := 177) hC dL_law_175 rfl rfl ?_
              refine v_iload (q := 179) hC dL_law_177 rfl rfl ?_
              refine v_bipush (q := 181) (v := 14) hC dL_law_179 rfl (by decide) ?_
              refine v_icmp_ne (q := 194) (q2 := 184) hC dL_law_181 (by decide) rfl (fun c_181 => ?_) (fun c_181 => ?_)
              · refine v_iload (q := 196) hC dL_law_194 rfl rfl ?_
                refine v_bipush (q := 198) (v := 8) hC dL_law_196 rfl (by decide) ?_
                refine v_isub (q := 199) hC dL_law_198 rfl ?_
                rw [e8]
                refine v_iload (q := 201) hC dL_law_199 rfl rfl ?_
                refine v_iconst (q := 202) (v := 2) hC dL_law_201 rfl (by decide) ?_
                refine v_idiv (q := 203) hC dL_law_202 rfl (by decide) ?_
                rw [y2]
                refine v_callSN (q := 206) (rm := rm_L_ofObjects) hC (c_L_ofObjects hl Θ (way - 8) (y / 2) t _ hS hLR (by omega) hlv (by omega) (by omega)) k_L_ofObjects st_yL_ofObjects ml_RL_404 dL_law_203 rfl rfl rfl (Nat.le_of_ble_eq_true rfl) ⟨Nat.le_of_ble_eq_true rfl, Nat.le_of_ble_eq_true rfl⟩ (c1 := 21) (s1 := 126) rfl rfl ⟨show _ + 21 ≤ 672488 by omega, show _ + 126 ≤ 7084235 by omega⟩ (fQ_k (fun G_203 s_203 l_203 v_203 => ?_)) fQ_n
                try dsimp only [Option.toList, List.cons_append, List.nil_append]
                refine v_goto (q := 255) hC dL_law_206 (by decide) ?_
                exact v_widen (by omega) (by omega) (A zn G_203 _ _ hz31 s_203 l_203 v_203)
              · exact absurd ((nI_eq (b := 14) (by omega) (by decide)).mp c_181) h14
          · exact absurd (Int32.not_le.mp c_149) (nI_nlt (b := 8) (by omega) (by omega))
        · exact absurd (Int32.not_le.mp c_126) (nI_nlt (b := 6) (by omega) (by omega))
      by_cases h23 : way < 23
      · have e15 : nI way - 15 = nI (way - 15) := by
            rw [show (15 : Int32) = nI 15 from rfl]; exact pk_sub (by omega)
        refine v_iload (q := 124) hC dL_law_122 rfl rfl ?_
        refine v_bipush (q := 126) (v := 6) hC dL_law_124 rfl (by decide) ?_
        refine v_icmp_ge (q := 145) (q2 := 129) hC dL_law_126 (by decide) rfl (fun c_126 => ?_) (fun c_126 => ?_)
        · refine v_iload (q := 147) hC dL_law_145 rfl rfl ?_
          refine v_bipush (q := 149) (v := 8) hC dL_law_147 rfl (by decide) ?_
          refine v_icmp_ge (q := 166) (q2 := 152) hC dL_law_149 (by decide) rfl (fun c_149 => ?_) (fun c_149 => ?_)
          · refine v_iload (q := 168) hC dL_law_166 rfl rfl ?_
            refine v_bipush (q := 170) (v := 15) hC dL_law_168 rfl (by decide) ?_
            refine v_icmp_ge (q := 209) (q2 := 173) hC dL_law_170 (by decide) rfl (fun c_170 => ?_) (fun c_170 => ?_)
            · refine v_iload (q := 211) hC dL_law_209 rfl rfl ?_
              refine v_bipush (q := 213) (v := 23) hC dL_law_211 rfl (by decide) ?_
              refine v_icmp_ge (q := 236) (q2 := 216) hC dL_law_213 (by decide) rfl (fun c_213 => ?_) (fun c_213 => ?_)
              · exact absurd c_213 (nI_ge (b := 23) h23 (by decide))
              · refine v_aload_n (i := 1) (q := 217) hC dL_law_216 rfl rfl rfl ?_
                refine v_aload_n (i := 2) (q := 218) hC dL_law_217 rfl rfl rfl ?_
                refine v_aload_n (i := 3) (q := 219) hC dL_law_218 rfl rfl rfl ?_
                refine v_aload (q := 221) hC dL_law_219 rfl rfl ?_
                refine v_aload (q := 223) hC dL_law_221 rfl rfl ?_
                refine v_iload (q := 225) hC dL_law_223 rfl rfl ?_
                refine v_bipush (q := 227) (v := 15) hC dL_law_225 rfl (by decide) ?_
                refine v_isub (q := 228) hC dL_law_227 rfl ?_
                rw [e15]
                refine v_iload (q := 230) hC dL_law_228 rfl rfl ?_
                refine v_callSN (q := 233) (rm := rm_L_ofEntries) hC (c_L_ofEntries hl Θ (way - 15) y t _ hS hLR (by omega) hlv (by omega) hy31) k_L_ofEntries st_yL_ofEntries ml_RL_407 dL_law_230 rfl rfl rfl (Nat.le_of_ble_eq_true rfl) ⟨Nat.le_of_ble_eq_true rfl, Nat.le_of_ble_eq_true rfl⟩ (c1 := 30) (s1 := 190) rfl rfl ⟨show _ + 30 ≤ 672488 by omega, show _ + 190 ≤ 7084235 by omega⟩ (fQ_k (fun G_230 s_230 l_230 v_230 => ?_)) fQ_n
                try dsimp only [Option.toList, List.cons_append, List.nil_append]
                refine v_goto (q := 255) hC dL_law_233 (by decide) ?_
                exact v_widen (by omega) (by omega) (A zn G_230 _ _ hz31 s_230 l_230 v_230)
            · exact absurd (Int32.not_le.mp c_170) (nI_nlt (b := 15) (by omega) (by omega))
          · exact absurd (Int32.not_le.mp c_149) (nI_nlt (b := 8) (by omega) (by omega))
        · exact absurd (Int32.not_le.mp c_126) (nI_nlt (b := 6) (by omega) (by omega))
      · have e23 : nI way - 23 = nI (way - 23) := by
            rw [show (23 : Int32) = nI 23 from rfl]; exact pk_sub (by omega)
        refine v_iload (q := 124) hC dL_law_122 rfl rfl ?_
        refine v_bipush (q := 126) (v := 6) hC dL_law_124 rfl (by decide) ?_
        refine v_icmp_ge (q := 145) (q2 := 129) hC dL_law_126 (by decide) rfl (fun c_126 => ?_) (fun c_126 => ?_)
        · refine v_iload (q := 147) hC dL_law_145 rfl rfl ?_
          refine v_bipush (q := 149) (v := 8) hC dL_law_147 rfl (by decide) ?_
          refine v_icmp_ge (q := 166) (q2 := 152) hC dL_law_149 (by decide) rfl (fun c_149 => ?_) (fun c_149 => ?_)
          · refine v_iload (q := 168) hC dL_law_166 rfl rfl ?_
            refine v_bipush (q := 170) (v := 15) hC dL_law_168 rfl (by decide) ?_
            refine v_icmp_ge (q := 209) (q2 := 173) hC dL_law_170 (by decide) rfl (fun c_170 => ?_) (fun c_170 => ?_)
            · refine v_iload (q := 211) hC dL_law_209 rfl rfl ?_
              refine v_bipush (q := 213) (v := 23) hC dL_law_211 rfl (by decide) ?_
              refine v_icmp_ge (q := 236) (q2 := 216) hC dL_law_213 (by decide) rfl (fun c_213 => ?_) (fun c_213 => ?_)
              · refine v_aload_n (i := 1) (q := 237) hC dL_law_236 rfl rfl rfl ?_
                refine v_aload_n (i := 2) (q := 238) hC dL_law_237 rfl rfl rfl ?_
                refine v_aload_n (i := 3) (q := 239) hC dL_law_238 rfl rfl rfl ?_
                refine v_aload (q := 241) hC dL_law_239 rfl rfl ?_
                refine v_aload (q := 243) hC dL_law_241 rfl rfl ?_
                refine v_aload (q := 245) hC dL_law_243 rfl rfl ?_
                refine v_iload (q := 247) hC dL_law_245 rfl rfl ?_
                refine v_bipush (q := 249) (v := 23) hC dL_law_247 rfl (by decide) ?_
                refine v_isub (q := 250) hC dL_law_249 rfl ?_
                rw [e23]
                refine v_iload (q := 252) hC dL_law_250 rfl rfl ?_
                refine v_callSN (q := 255) (rm := rm_L_ofRequests) hC (c_L_ofRequests hl Θ (way - 23) y t _ hS hLR (by omega) (by omega) hlv (by omega) hy31) k_L_ofRequests st_yL_ofRequests ml_RL_411 dL_law_252 rfl rfl rfl (Nat.le_of_ble_eq_true rfl) ⟨Nat.le_of_ble_eq_true rfl, Nat.le_of_ble_eq_true rfl⟩ (c1 := 24) (s1 := 144) rfl rfl ⟨show _ + 24 ≤ 672488 by omega, show _ + 144 ≤ 7084235 by omega⟩ (fQ_k (fun G_252 s_252 l_252 v_252 => ?_)) fQ_n
                try dsimp only [Option.toList, List.cons_append, List.nil_append]
                exact v_widen (by omega) (by omega) (A zn G_252 _ _ hz31 s_252 l_252 v_252)
              · exact absurd (Int32.not_le.mp c_213) (nI_nlt (b := 23) (by omega) (by omega))
            · exact absurd (Int32.not_le.mp c_170) (nI_nlt (b := 15) (by omega) (by omega))
          · exact absurd (Int32.not_le.mp c_149) (nI_nlt (b := 8) (by omega) (by omega))
        · exact absurd (Int32.not_le.mp c_126) (nI_nlt (b := 6) (by omega) (by omega))
    refine v_iload (q := 92) hC dL_law_90 rfl rfl ?_
    refine v_bipush (q := 94) (v := 60) hC dL_law_92 rfl (by decide) ?_
    refine v_icmp_ge (q := 403) (q2 := 97) hC dL_law_94 (by decide) rfl (fun c_94 => ?_) (fun c_94 => ?_)
    · exact absurd c_94 (nI_ge (b := 60) hd60 (by decide))
    · refine v_aload_n (i := 0) (q := 98) hC dL_law_97 rfl rfl rfl ?_
      refine v_iload (q := 100) hC dL_law_98 rfl rfl ?_
      refine v_callSC (q := 103) (rm := rm_L_cell) hC hX hb (c_L_cell hl Θ d L b xs _ (by omega) hL) k_L_cell st_yL_cell ml_RL_397 dL_law_100 rfl rfl rfl (Nat.le_of_ble_eq_true rfl) ⟨Nat.le_of_ble_eq_true rfl, Nat.le_of_ble_eq_true rfl⟩ (c1 := 0) (s1 := 0) rfl rfl ⟨show _ + 0 ≤ 672488 by omega, show _ + 0 ≤ 7084235 by omega⟩ (aQ_k (fun x9 => ?_)) aQ_n
      try dsimp only [Option.toList, List.cons_append, List.nil_append]
      refine v_ldc (q := 105) hC co_RL_8 dL_law_103 rfl ?_
      refine v_iand (q := 106) hC dL_law_105 rfl ?_
      obtain ⟨zn, hz31, ez⟩ := and31 x9
      rw [ez]
      refine v_istore (q := 108) hC dL_law_106 rfl (lvc rfl) (Nat.le_of_ble_eq_true rfl) (Nat.le_of_ble_eq_true rfl) rfl ?_
      refine v_iload (q := 110) hC dL_law_108 rfl rfl ?_
      refine v_bipush (q := 112) (v := 26) hC dL_law_110 rfl (by decide) ?_
      refine v_idiv (q := 113) hC dL_law_112 rfl (by decide) ?_
      rw [show nI zn / 26 = nI (zn / 26) from pk_div (d := 26) hz31 (by decide) (by decide)]
      refine v_istore (q := 115) hC dL_law_113 rfl (lvc rfl) (Nat.le_of_ble_eq_true rfl) (Nat.le_of_ble_eq_true rfl) rfl ?_
      refine v_iload (q := 117) hC dL_law_115 rfl rfl ?_
      refine v_bipush (q := 119) (v := 26) hC dL_law_117 rfl (by decide) ?_
      refine v_irem (q := 120) hC dL_law_119 rfl (by decide) ?_
      rw [show nI zn - nI zn / 26 * 26 = nI (zn % 26) from pk_rem (d := 26) hz31 (by decide) (by decide)]
      refine v_istore (q := 122) hC dL_law_120 rfl (lvc rfl) (Nat.le_of_ble_eq_true rfl) (Nat.le_of_ble_eq_true rfl) rfl ?_
      exact D zn (zn % 26) (zn / 26) hz31 (Nat.mod_lt _ (by decide)) (by omega)
theorem sim1 : Sim (putA (putA G0 0 44 t0) 0 41 p0) 0 := (sim0.pa (by decide)).pa (by decide)
theorem lr1 : LR (putA (putA G0 0 44 t0) 0 41 p0) := LR.of sim1 lrq0
set_option maxHeartbeats 4000000 in
set_option maxRecDepth 20000 in
theorem law_rows (hC : cC p l s m args meth c cL_law 13 RL Θ) (kk : VG p l e room_1 s m args below meth c 13 Θ Q9 200 6000 90 [some (.ref b), some (.ref (tR Θ 0 14)), some (.ref (tR Θ 0 40)), some (.ref (tR Θ 0 41)), some (.ref (tR Θ 0 42)), some (.ref (tR Θ 0 43)), some (.ref (tR Θ 0 44)), some (.int (nI 0)), none, none, none, none, none] [] (putA (putA G0 0 44 t0) 0 41 p0)) : VG p l e room_1 s m args below meth c 13 Θ Q9 200 6000 35 [some (.ref b), some (.ref (tR Θ 0 14)), some (.ref (tR Θ 0 40)), some (.ref (tR Θ 0 41)), some (.ref (tR Θ 0 42)), some (.ref (tR Θ 0 43)), some (.ref (tR Θ 0 44)), none, none, none, none, none, none] [] (G0) := by
  have Lp : ∀ (n k : Nat), n + k = 10 → VG p l e room_1 s m args below meth c 13 Θ Q9 200 6000 48 [some (.ref b), some (.ref (tR Θ 0 14)), some (.ref (tR Θ 0 40)), some (.ref (tR Θ 0 41)), some (.ref (tR Θ 0 42)), some (.ref (tR Θ 0 43)), some (.ref (tR Θ 0 44)), some (.int (nI k)), none, none, none, none, none] [] (putA (putA G0 0 44 t0) 0 41 (pI k)) := by
    have r41 : ∀ a, (putA (putA G0 0 44 t0) 0 41 a).2.1 0 41 = a := fun a => putA_same _ _ _ _
    intro n
    induction n with
    | zero =>
      intro k hk
      have e9 : k = 10 := by omega
      subst e9
      refine v_iload (q := 50) hC dL_law_48 rfl rfl ?_
      refine v_bipush (q := 52) (v := 10) hC dL_law_50 rfl (by decide) ?_
      refine v_icmp_ge (q := 76) (q2 := 55) hC dL_law_52 (by decide) rfl (fun c_52 => ?_) (fun c_52 => ?_)
      · refine v_aload_n (i := 3) (q := 77) hC dL_law_76 rfl rfl rfl ?_
        refine v_bipush (q := 79) (v := 20) hC dL_law_77 rfl (by decide) ?_
        refine v_bipush (q := 81) (v := 15) hC dL_law_79 rfl (by decide) ?_
        refine v_iastN (q := 82) hC dL_law_81 rfl rfl (fun _ => rfl) (i := 20) (rfl) (by first | decide | omega | (unfold oA; omega) | (unfold enA; omega)) (by decide) ?_
        refine v_aload_n (i := 3) (q := 83) hC dL_law_82 rfl rfl rfl ?_
        refine v_bipush (q := 85) (v := 30) hC dL_law_83 rfl (by decide) ?_
        refine v_iconst (q := 86) (v := 1) hC dL_law_85 rfl (by decide) ?_
        refine v_iastN (q := 87) hC dL_law_86 rfl rfl (fun _ => rfl) (i := 30) (rfl) (by first | decide | omega | (unfold oA; omega) | (unfold enA; omega)) (by decide) ?_
        rw [putA_putA, putA_putA, putA_same]
        refine v_iconst (q := 88) (v := 0) hC dL_law_87 rfl (by decide) ?_
        refine v_istore (q := 90) hC dL_law_88 rfl (lvc rfl) (Nat.le_of_ble_eq_true rfl) (Nat.le_of_ble_eq_true rfl) rfl ?_
        exact kk
      · exact absurd (Int32.le_refl _) c_52
    | succ n ih =>
      intro k hk
      refine v_iload (q := 50) hC dL_law_48 rfl rfl ?_
      refine v_bipush (q := 52) (v := 10) hC dL_law_50 rfl (by decide) ?_
      refine v_icmp_ge (q := 76) (q2 := 55) hC dL_law_52 (by decide) rfl (fun c_52 => ?_) (fun c_52 => ?_)
      · exact absurd c_52 (nI_ge (b := 10) (by omega) (by decide))
      · refine v_aload_n (i := 3) (q := 56) hC dL_law_55 rfl rfl rfl ?_
        refine v_iload (q := 58) hC dL_law_56 rfl rfl ?_
        refine v_iload (q := 60) hC dL_law_58 rfl rfl ?_
        refine v_if_ne (q := 67) (q2 := 63) hC dL_law_60 (by decide) rfl (fun c_60 => ?_) (fun c_60 => ?_)
        · refine v_bipush (q := 69) (v := (-2)) hC dL_law_67 rfl (by decide) ?_
          refine v_iastN (q := 70) hC dL_law_69 rfl rfl (fun _ => rfl) (i := k) (rfl) (by first | decide | omega | (unfold oA; omega) | (unfold enA; omega)) (by decide) ?_
          first
            | rw [putA_putA, r41, pI_s k _ (by rw [if_pos ((nI_eq (b := 0) (by omega) (by decide)).mp c_60)])]
            | rw [putA_putA, r41, pI_s k _ (by rw [if_neg (fun z => c_60 (by rw [z]; rfl))])]
          refine v_iinc (q := 73) (v := nI (k + 1)) hC dL_law_70 rfl rfl (nI_1 k) (lvc rfl) (Nat.le_of_ble_eq_true rfl) (Nat.le_of_ble_eq_true rfl) rfl ?_
          refine v_goto (q := 48) hC dL_law_73 (by decide) ?_
          exact ih (k + 1) (by omega)
        · refine v_iconst (q := 64) (v := (-1)) hC dL_law_63 rfl (by decide) ?_
          refine v_goto (q := 69) hC dL_law_64 (by decide) ?_
          refine v_iastN (q := 70) hC dL_law_69 rfl rfl (fun _ => rfl) (i := k) (rfl) (by first | decide | omega | (unfold oA; omega) | (unfold enA; omega)) (by decide) ?_
          first
            | rw [putA_putA, r41, pI_s k _ (by rw [if_pos ((nI_eq (b := 0) (by omega) (by decide)).mp c_60)])]
            | rw [putA_putA, r41, pI_s k _ (by rw [if_neg (fun z => c_60 (by rw [z]; rfl))])]
          refine v_iinc (q := 73) (v := nI (k + 1)) hC dL_law_70 rfl rfl (nI_1 k) (lvc rfl) (Nat.le_of_ble_eq_true rfl) (Nat.le_of_ble_eq_true rfl) rfl ?_
          refine v_goto (q := 48) hC dL_law_73 (by decide) ?_
          exact ih (k + 1) (by omega)
  have h9 := Lp 10 0 rfl
  rw [show putA (putA G0 0 44 t0) 0 41 (pI 0) = putA G0 0 44 t0 from (congrArg (putA (putA G0 0 44 t0) 0 41) (show pI 0 = (putA G0 0 44 t0).2.1 0 41 from pI_0)).trans (putA_self _ 0 41)] at h9
  refine v_aload (q := 37) hC dL_law_35 rfl rfl ?_
  refine v_iconst (q := 38) (v := 0) hC dL_law_37 rfl (by decide) ?_
  refine v_iconst (q := 39) (v := 1) hC dL_law_38 rfl (by decide) ?_
  refine v_iastN (q := 40) hC dL_law_39 rfl rfl (fun _ => rfl) (i := 0) (rfl) (by first | decide | omega | (unfold oA; omega) | (unfold enA; omega)) (by decide) ?_
  refine v_aload (q := 42) hC dL_law_40 rfl rfl ?_
  refine v_iconst (q := 43) (v := 2) hC dL_law_42 rfl (by decide) ?_
  refine v_iconst (q := 44) (v := 1) hC dL_law_43 rfl (by decide) ?_
  refine v_iastN (q := 45) hC dL_law_44 rfl rfl (fun _ => rfl) (i := 2) (rfl) (by first | decide | omega | (unfold oA; omega) | (unfold enA; omega)) (by decide) ?_
  rw [putA_putA]
  refine v_iconst (q := 46) (v := 0) hC dL_law_45 rfl (by decide) ?_
  refine v_istore (q := 48) hC dL_law_46 rfl (lvc rfl) (Nat.le_of_ble_eq_true rfl) (Nat.le_of_ble_eq_true rfl) rfl ?_
  exact h9
end LAWL
