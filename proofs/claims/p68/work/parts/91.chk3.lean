/-! rights are looked at; the log is looked at -/
theorem mTr_tail {w : Nat → Int32} (hn : ∀ k, 10 ≤ k → k < 20 → mHold w (nI k) = false) (u g : Int32) : ∀ (n j : Nat) (t : Int32), 40 ≤ j → n + j ≤ 80 → mTr w u g n j t = t := by
  intro n
  induction n with
  | zero => intro j t _ _; rfl
  | succ n ih =>
    intro j t h1 h2
    rw [mTr, hn (j / 4) (by omega) (by omega), Bool.false_and, if_neg (by decide), Int32.add_zero]
    exact ih (j + 1) t (by omega) (by omega)
theorem mTr_skip {w : Nat → Int32} {k : Nat} (hn : mHold w (nI k) = false) (u g : Int32) (n : Nat) (t : Int32) : mTr w u g (n + 4) (4 * k) t = mTr w u g n (4 * k + 4) t := by
  have h : ∀ (n j : Nat) (t : Int32), j / 4 = k → mTr w u g (n + 1) j t = mTr w u g n (j + 1) t := by
    intro n j t hj
    rw [mTr, hj, hn, Bool.false_and, if_neg (by decide), Int32.add_zero]
  rw [h (n + 3) (4 * k) t (by omega), h (n + 2) (4 * k + 1) t (by omega), h (n + 1) (4 * k + 1 + 1) t (by omega), h n (4 * k + 1 + 1 + 1) t (by omega)]
abbrev rm_L_areRights : Room := { frames := 9, locals := 195, cells := 640, slots := 3840 }
set_option maxHeartbeats 4000000 in
set_option maxRecDepth 20000 in
theorem c_L_areRights {l : Launch} (hl : l.stackTraces = false) (Θ : cTH) (u g t : Nat) (G : GS) (hS : Sim G t) (hL : LR G) (ht : t < 2 ^ 20) (hu : u < mUs (G.2.1 0 30)) (hg : g < 8) : Ct l yL_areRights cL_areRights 14 (some .boolean) rm_L_areRights Θ [.ref (tR Θ 0 14), .ref (tR Θ 0 40), .ref (tR Θ 0 41), .ref (tR Θ 0 42), .ref (tR Θ 0 44), .int (nI u), .int (nI g)] (G) (rQ G t 1) := by
  refine ct_of (LS := [some (.ref (tR Θ 0 14)), some (.ref (tR Θ 0 40)), some (.ref (tR Θ 0 41)), some (.ref (tR Θ 0 42)), some (.ref (tR Θ 0 44)), some (.int (nI u)), some (.int (nI g)), none, none, none, none, none, none, none]) hl (by decide +kernel) rfl (Nat.le_of_ble_eq_true rfl) rfl ?_
  intro p e s m args below meth c hC hr
  obtain ⟨hD, ⟨e0, us1⟩, e1, -⟩ := hL
  have hU := hD.ok.us12
  have hG := hD.ok.gs8
  have z0 : Nx G G t := Nx.refl hS
  have hu12 : u < 12 := by omega
  have h00 : G.2.1 0 30 (oA 0 0) = 1 := hS.1.t0
  have hn20 : ∀ k, 10 ≤ k → k < 20 → mHold (G.2.1 0 30) (nI k) = false := fun k h1 h2 => by rw [hD.hold h2, decide_eq_false (hD.no h1 h2)]
  have hold0 : mHold (G.2.1 0 30) 0 = true := by
    have := hD.hold (k := 0) (by decide)
    rw [decide_eq_true h00] at this
    exact this
  have mu0 : mIn 0 0 (G.2.1 0 30 0 - 1) = true := by
    have := hD.mU (a := 0) (by decide)
    rw [decide_eq_true (by omega)] at this
    exact this
  have muu : mIn (nI u) 0 (G.2.1 0 30 0 - 1) = true := by rw [hD.mU (by omega)]; exact decide_eq_true hu
  have hD3 : ∀ {G' : GS}, Nx G G' t → LD (G'.2.1 0 30) (G'.2.1 0 40) (G'.2.1 0 41) (G'.2.1 0 42) := fun z => by rw [z.w, z.a (o := 40) (by decide) (by decide), z.a (o := 41) (by decide) (by decide), z.a (o := 42) (by decide) (by decide)]; exact hD
  -- the answers are compared
  have C : ∀ (k r : Nat) (th : Int32) (may yes : Bool) (G' : GS), k < 10 → G.2.1 0 30 (oA k 0) = 1 → r < 4 → Nx G G' t → mAl (G.2.1 0 30) (nI u) k (nI r) = may → mByL (G.2.1 0 30) (nI u) k (nI r) = yes → (∀ (G2 : GS), Nx G G2 t → V p l e rm_L_areRights s m args below meth c 14 Θ (rQ G t 1) 640 3840 (13 + 62 * k + 2 + 15 * r + 15) (78 + 372 * k + 12 + 90 * r + 90) 152 [some (.ref (tR Θ 0 14)), some (.ref (tR Θ 0 40)), some (.ref (tR Θ 0 41)), some (.ref (tR Θ 0 42)), some (.ref (tR Θ 0 44)), some (.int (nI u)), some (.int (nI g)), some (.int 1), some (.int th), some (.int (nI k)), some (.int (nI (r + 1))), none, none, none] [] (G2)) → V p l e rm_L_areRights s m args below meth c 14 Θ (rQ G t 1) 640 3840 (13 + 62 * k + 2 + 15 * r) (78 + 372 * k + 12 + 90 * r) 257 [some (.ref (tR Θ 0 14)), some (.ref (tR Θ 0 40)), some (.ref (tR Θ 0 41)), some (.ref (tR Θ 0 42)), some (.ref (tR Θ 0 44)), some (.int (nI u)), some (.int (nI g)), some (.int 1), some (.int th), some (.int (nI k)), some (.int (nI r)), some (.int (b2i may)), some (.int (mDec (G.2.1 0 30) (nI u) k (nI r))), some (.int (b2i yes))] [] (G') := by
    intro k r th may yes G' hk hk1 hr4 z hm hy kk
    have ek : (nI k).toNatClampNeg = k := nI_clamp (by omega)
    have c0 : (mIn (nI u) 0 (G.2.1 0 30 0 - 1) && mHold (G.2.1 0 30) (nI k)) = true := by rw [muu, hD.hold (by omega), decide_eq_true hk1]; rfl
    have c1 := mIn3 hr4
    have vA := fun {G2 : GS} (z2 : Nx G G2 t) => (r_isAllowed hl Θ z2 ht (nI u) (nI k) (nI r)).v (v2 := b2i may) (by rw [if_pos c0, if_pos c1, gZ_b, ek, hm])
    have vH := fun {G2 : GS} (z2 : Nx G G2 t) => (r_isAllowedByHandingDown hl Θ z2 ht (nI u) (nI k) (nI r)).v (v2 := b2i may) (by rw [if_pos c0, if_pos c1, gZ_b, ek, hm])
    have vS := fun {G2 : GS} (z2 : Nx G G2 t) => (r_isStoppedByMask hl Θ z2 ht (nI u) (nI k) (nI r)).v (v2 := b2i (!may && yes)) (by rw [if_pos c0, if_pos c1, gZ_b, ek, hm, hy])
    have kk2 : ∀ (G2 : GS) (a b d : Value), Nx G G2 t → V p l e rm_L_areRights s m args below meth c 14 Θ (rQ G t 1) 640 3840 (13 + 62 * k + 2 + 15 * r + 15) (78 + 372 * k + 12 + 90 * r + 90) 152 [some (.ref (tR Θ 0 14)), some (.ref (tR Θ 0 40)), some (.ref (tR Θ 0 41)), some (.ref (tR Θ 0 42)), some (.ref (tR Θ 0 44)), some (.int (nI u)), some (.int (nI g)), some (.int 1), some (.int th), some (.int (nI k)), some (.int (nI (r + 1))), some a, some b, some d] [] (G2) := fun G2 a b d z2 => v_sub (fun i v h => by
      match i, h with
      | 0, h => exact h
      | 1, h => exact h
      | 2, h => exact h
      | 3, h => exact h
      | 4, h => exact h
      | 5, h => exact h
      | 6, h => exact h
      | 7, h => exact h
      | 8, h => exact h
      | 9, h => exact h
      | 10, h => exact h
      | 11, h => cases h
      | 12, h => cases h
      | 13, h => cases h
      | i + 14, h => cases h) (kk G2 z2)
    by_cases hd : mDec (G.2.1 0 30) (nI u) k (nI r) < 0
    · have vO := fun {G2 : GS} (z2 : Nx G G2 t) => (r_decidingObject hl Θ z2 ht (nI u) (nI k) (nI r)).v (v2 := -1) (by rw [if_pos c0, if_pos c1, ek, if_pos hd, gI])
      have vE := fun {G2 : GS} (z2 : Nx G G2 t) => (r_decidingEntry hl Θ z2 ht (nI u) (nI k) (nI r)).v (v2 := -1) (by rw [if_pos c0, if_pos c1, ek, if_pos hd, gI])
      cases may <;> cases yes
      · refine v_aload_n (i := 0) (q := 258) hC dL_areRights_257 rfl rfl rfl ?_
        refine v_iload (q := 260) hC dL_areRights_258 rfl rfl ?_
        refine v_iload (q := 262) hC dL_areRights_260 rfl rfl ?_
        refine v_iload (q := 264) hC dL_areRights_262 rfl rfl ?_
        refine v_callR (q := 267) (rm := rm_L_isAllowedOf) hC (vA z) kh_L_isAllowedOf ml_RL_268 dL_areRights_264 rfl rfl rfl (Nat.le_of_ble_eq_true rfl) ⟨Nat.le_of_ble_eq_true rfl, Nat.le_of_ble_eq_true rfl⟩ (c1 := 3) (s1 := 18) rfl rfl ⟨show _ + 3 ≤ 640 by omega, show _ + 18 ≤ 3840 by omega⟩ (rQ_k (fun G_264 z_264 => ?_)) rQ_n
        try dsimp only [Option.toList, List.cons_append, List.nil_append]
        refine v_iload (q := 269) hC dL_areRights_267 rfl rfl ?_
        refine v_if_eq (q := 276) (q2 := 272) hC dL_areRights_269 (by decide) rfl (fun c_269 => ?_) (fun c_269 => ?_)
        · refine v_iconst (q := 277) (v := 0) hC dL_areRights_276 rfl (by decide) ?_
          refine v_icmp_ne (q := 389) (q2 := 280) hC dL_areRights_277 (by decide) rfl (fun c_277 => ?_) (fun c_277 => ?_)
          · exact absurd rfl c_277
          · refine v_aload_n (i := 0) (q := 281) hC dL_areRights_280 rfl rfl rfl ?_
            refine v_iload (q := 283) hC dL_areRights_281 rfl rfl ?_
            refine v_iload (q := 285) hC dL_areRights_283 rfl rfl ?_
            refine v_iload (q := 287) hC dL_areRights_285 rfl rfl ?_
            refine v_callR (q := 290) (rm := rm_L_isAllowedByHandingDownOf) hC (vH z_264) kh_L_isAllowedByHandingDownOf ml_RL_281 dL_areRights_287 rfl rfl rfl (Nat.le_of_ble_eq_true rfl) ⟨Nat.le_of_ble_eq_true rfl, Nat.le_of_ble_eq_true rfl⟩ (c1 := 3) (s1 := 18) rfl rfl ⟨show _ + 3 ≤ 640 by omega, show _ + 18 ≤ 3840 by omega⟩ (rQ_k (fun G_287 z_287 => ?_)) rQ_n
            try dsimp only [Option.toList, List.cons_append, List.nil_append]
            refine v_iload (q := 292) hC dL_areRights_290 rfl rfl ?_
            refine v_if_eq (q := 299) (q2 := 295) hC dL_areRights_292 (by decide) rfl (fun c_292 => ?_) (fun c_292 => ?_)
            · refine v_iconst (q := 300) (v := 0) hC dL_areRights_299 rfl (by decide) ?_
              refine v_icmp_ne (q := 389) (q2 := 303) hC dL_areRights_300 (by decide) rfl (fun c_300 => ?_) (fun c_300 => ?_)
              · exact absurd rfl c_300
              · refine v_aload_n (i := 0) (q := 304) hC dL_areRights_303 rfl rfl rfl ?_
                refine v_iload (q := 306) hC dL_areRights_304 rfl rfl ?_
                refine v_iload (q := 308) hC dL_areRights_306 rfl rfl ?_
                refine v_iload (q := 310) hC dL_areRights_308 rfl rfl ?_
                refine v_callR (q := 313) (rm := rm_L_decidingObjectOf) hC (vO z_287) kh_L_decidingObjectOf ml_RL_272 dL_areRights_310 rfl rfl rfl (Nat.le_of_ble_eq_true rfl) ⟨Nat.le_of_ble_eq_true rfl, Nat.le_of_ble_eq_true rfl⟩ (c1 := 3) (s1 := 18) rfl rfl ⟨show _ + 3 ≤ 640 by omega, show _ + 18 ≤ 3840 by omega⟩ (rQ_k (fun G_310 z_310 => ?_)) rQ_n
                try dsimp only [Option.toList, List.cons_append, List.nil_append]
                refine v_iload (q := 315) hC dL_areRights_313 rfl rfl ?_
                refine v_if_ge (q := 322) (q2 := 318) hC dL_areRights_315 (by decide) rfl (fun c_315 => ?_) (fun c_315 => ?_)
                · exact absurd hd (Int32.not_lt.mpr c_315)
                · refine v_iconst (q := 319) (v := (-1)) hC dL_areRights_318 rfl (by decide) ?_
                  refine v_goto (q := 327) hC dL_areRights_319 (by decide) ?_
                  refine v_icmp_ne (q := 389) (q2 := 330) hC dL_areRights_327 (by decide) rfl (fun c_327 => ?_) (fun c_327 => ?_)
                  · exact absurd rfl c_327
                  · refine v_aload_n (i := 0) (q := 331) hC dL_areRights_330 rfl rfl rfl ?_
                    refine v_iload (q := 333) hC dL_areRights_331 rfl rfl ?_
                    refine v_iload (q := 335) hC dL_areRights_333 rfl rfl ?_
                    refine v_iload (q := 337) hC dL_areRights_335 rfl rfl ?_
                    refine v_callR (q := 340) (rm := rm_L_decidingEntryOf) hC (vE z_310) kh_L_decidingEntryOf ml_RL_284 dL_areRights_337 rfl rfl rfl (Nat.le_of_ble_eq_true rfl) ⟨Nat.le_of_ble_eq_true rfl, Nat.le_of_ble_eq_true rfl⟩ (c1 := 3) (s1 := 18) rfl rfl ⟨show _ + 3 ≤ 640 by omega, show _ + 18 ≤ 3840 by omega⟩ (rQ_k (fun G_337 z_337 => ?_)) rQ_n
                    try dsimp only [Option.toList, List.cons_append, List.nil_append]
                    refine v_iload (q := 342) hC dL_areRights_340 rfl rfl ?_
                    refine v_if_ge (q := 349) (q2 := 345) hC dL_areRights_342 (by decide) rfl (fun c_342 => ?_) (fun c_342 => ?_)
                    · exact absurd hd (Int32.not_lt.mpr c_342)
                    · refine v_iconst (q := 346) (v := (-1)) hC dL_areRights_345 rfl (by decide) ?_
                      refine v_goto (q := 354) hC dL_areRights_346 (by decide) ?_
                      refine v_icmp_ne (q := 389) (q2 := 357) hC dL_areRights_354 (by decide) rfl (fun c_354 => ?_) (fun c_354 => ?_)
                      · exact absurd rfl c_354
                      · refine v_aload_n (i := 0) (q := 358) hC dL_areRights_357 rfl rfl rfl ?_
                        refine v_iload (q := 360) hC dL_areRights_358 rfl rfl ?_
                        refine v_iload (q := 362) hC dL_areRights_360 rfl rfl ?_
                        refine v_iload (q := 364) hC dL_areRights_362 rfl rfl ?_
                        refine v_callR (q := 367) (rm := rm_L_isStoppedByMaskOf) hC (vS z_337) kh_L_isStoppedByMaskOf ml_RL_287 dL_areRights_364 rfl rfl rfl (Nat.le_of_ble_eq_true rfl) ⟨Nat.le_of_ble_eq_true rfl, Nat.le_of_ble_eq_true rfl⟩ (c1 := 3) (s1 := 18) rfl rfl ⟨show _ + 3 ≤ 640 by omega, show _ + 18 ≤ 3840 by omega⟩ (rQ_k (fun G_364 z_364 => ?_)) rQ_n
                        try dsimp only [Option.toList, List.cons_append, List.nil_append]
                        refine v_iload (q := 369) hC dL_areRights_367 rfl rfl ?_
                        refine v_if_ne (q := 381) (q2 := 372) hC dL_areRights_369 (by decide) rfl (fun c_369 => ?_) (fun c_369 => ?_)
                        · exact absurd rfl c_369
                        · refine v_iload (q := 374) hC dL_areRights_372 rfl rfl ?_
                          refine v_if_eq (q := 381) (q2 := 377) hC dL_areRights_374 (by decide) rfl (fun c_374 => ?_) (fun c_374 => ?_)
                          · refine v_iconst (q := 382) (v := 0) hC dL_areRights_381 rfl (by decide) ?_
                            refine v_icmp_ne (q := 389) (q2 := 385) hC dL_areRights_382 (by decide) rfl (fun c_382 => ?_) (fun c_382 => ?_)
                            · exact absurd rfl c_382
                            · refine v_iconst (q := 386) (v := 1) hC dL_areRights_385 rfl (by decide) ?_
                              refine v_goto (q := 390) hC dL_areRights_386 (by decide) ?_
                              refine v_istore (q := 392) hC dL_areRights_390 rfl (lvc rfl) (Nat.le_of_ble_eq_true rfl) (Nat.le_of_ble_eq_true rfl) rfl ?_
                              refine v_iinc (q := 395) (v := nI (r + 1)) hC dL_areRights_392 rfl rfl (nI_1 r) (lvc rfl) (Nat.le_of_ble_eq_true rfl) (Nat.le_of_ble_eq_true rfl) rfl ?_
                              refine v_goto (q := 152) hC dL_areRights_395 (by decide) ?_
                              exact v_widen (by omega) (by omega) (kk2 _ _ _ _ z_364)
                          · exact absurd rfl c_374
            · exact absurd rfl c_292
        · exact absurd rfl c_269
      · refine v_aload_n (i := 0) (q := 258) hC dL_areRights_257 rfl rfl rfl ?_
        refine v_iload (q := 260) hC dL_areRights_258 rfl rfl ?_
        refine v_iload (q := 262) hC dL_areRights_260 rfl rfl ?_
        refine v_iload (q := 264) hC dL_areRights_262 rfl rfl ?_
        refine v_callR (q := 267) (rm := rm_L_isAllowedOf) hC (vA z) kh_L_isAllowedOf ml_RL_268 dL_areRights_264 rfl rfl rfl (Nat.le_of_ble_eq_true rfl) ⟨Nat.le_of_ble_eq_true rfl, Nat.le_of_ble_eq_true rfl⟩ (c1 := 3) (s1 := 18) rfl rfl ⟨show _ + 3 ≤ 640 by omega, show _ + 18 ≤ 3840 by omega⟩ (rQ_k (fun G_264 z_264 => ?_)) rQ_n
        try dsimp only [Option.toList, List.cons_append, List.nil_append]
        refine v_iload (q := 269) hC dL_areRights_267 rfl rfl ?_
        refine v_if_eq (q := 276) (q2 := 272) hC dL_areRights_269 (by decide) rfl (fun c_269 => ?_) (fun c_269 => ?_)
        · refine v_iconst (q := 277) (v := 0) hC dL_areRights_276 rfl (by decide) ?_
          refine v_icmp_ne (q := 389) (q2 := 280) hC dL_areRights_277 (by decide) rfl (fun c_277 => ?_) (fun c_277 => ?_)
          · exact absurd rfl c_277
          · refine v_aload_n (i := 0) (q := 281) hC dL_areRights_280 rfl rfl rfl ?_
            refine v_iload (q := 283) hC dL_areRights_281 rfl rfl ?_
            refine v_iload (q := 285) hC dL_areRights_283 rfl rfl ?_
            refine v_iload (q := 287) hC dL_areRights_285 rfl rfl ?_
            refine v_callR (q := 290) (rm := rm_L_isAllowedByHandingDownOf) hC (vH z_264) kh_L_isAllowedByHandingDownOf ml_RL_281 dL_areRights_287 rfl rfl rfl (Nat.le_of_ble_eq_true rfl) ⟨Nat.le_of_ble_eq_true rfl, Nat.le_of_ble_eq_true rfl⟩ (c1 := 3) (s1 := 18) rfl rfl ⟨show _ + 3 ≤ 640 by omega, show _ + 18 ≤ 3840 by omega⟩ (rQ_k (fun G_287 z_287 => ?_)) rQ_n
            try dsimp only [Option.toList, List.cons_append, List.nil_append]
            refine v_iload (q := 292) hC dL_areRights_290 rfl rfl ?_
            refine v_if_eq (q := 299) (q2 := 295) hC dL_areRights_292 (by decide) rfl (fun c_292 => ?_) (fun c_292 => ?_)
            · refine v_iconst (q := 300) (v := 0) hC dL_areRights_299 rfl (by decide) ?_
              refine v_icmp_ne (q := 389) (q2 := 303) hC dL_areRights_300 (by decide) rfl (fun c_300 => ?_) (fun c_300 => ?_)
              · exact absurd rfl c_300
              · refine v_aload_n (i := 0) (q := 304) hC dL_areRights_303 rfl rfl rfl ?_
                refine v_iload (q := 306) hC dL_areRights_304 rfl rfl ?_
                refine v_iload (q := 308) hC dL_areRights_306 rfl rfl ?_
                refine v_iload (q := 310) hC dL_areRights_308 rfl rfl ?_
                refine v_callR (q := 313) (rm := rm_L_decidingObjectOf) hC (vO z_287) kh_L_decidingObjectOf ml_RL_272 dL_areRights_310 rfl rfl rfl (Nat.le_of_ble_eq_true rfl) ⟨Nat.le_of_ble_eq_true rfl, Nat.le_of_ble_eq_true rfl⟩ (c1 := 3) (s1 := 18) rfl rfl ⟨show _ + 3 ≤ 640 by omega, show _ + 18 ≤ 3840 by omega⟩ (rQ_k (fun G_310 z_310 => ?_)) rQ_n
                try dsimp only [Option.toList, List.cons_append, List.nil_append]
                refine v_iload (q := 315) hC dL_areRights_313 rfl rfl ?_
                refine v_if_ge (q := 322) (q2 := 318) hC dL_areRights_315 (by decide) rfl (fun c_315 => ?_) (fun c_315 => ?_)
                · exact absurd hd (Int32.not_lt.mpr c_315)
                · refine v_iconst (q := 319) (v := (-1)) hC dL_areRights_318 rfl (by decide) ?_
                  refine v_goto (q := 327) hC dL_areRights_319 (by decide) ?_
                  refine v_icmp_ne (q := 389) (q2 := 330) hC dL_areRights_327 (by decide) rfl (fun c_327 => ?_) (fun c_327 => ?_)
                  · exact absurd rfl c_327
                  · refine v_aload_n (i := 0) (q := 331) hC dL_areRights_330 rfl rfl rfl ?_
                    refine v_iload (q := 333) hC dL_areRights_331 rfl rfl ?_
                    refine v_iload (q := 335) hC dL_areRights_333 rfl rfl ?_
                    refine v_iload (q := 337) hC dL_areRights_335 rfl rfl ?_
                    refine v_callR (q := 340) (rm := rm_L_decidingEntryOf) hC (vE z_310) kh_L_decidingEntryOf ml_RL_284 dL_areRights_337 rfl rfl rfl (Nat.le_of_ble_eq_true rfl) ⟨Nat.le_of_ble_eq_true rfl, Nat.le_of_ble_eq_true rfl⟩ (c1 := 3) (s1 := 18) rfl rfl ⟨show _ + 3 ≤ 640 by omega, show _ + 18 ≤ 3840 by omega⟩ (rQ_k (fun G_337 z_337 => ?_)) rQ_n
                    try dsimp only [Option.toList, List.cons_append, List.nil_append]
                    refine v_iload (q := 342) hC dL_areRights_340 rfl rfl ?_
                    refine v_if_ge (q := 349) (q2 := 345) hC dL_areRights_342 (by decide) rfl (fun c_342 => ?_) (fun c_342 => ?_)
                    · exact absurd hd (Int32.not_lt.mpr c_342)
                    · refine v_iconst (q := 346) (v := (-1)) hC dL_areRights_345 rfl (by decide) ?_
                      refine v_goto (q := 354) hC dL_areRights_346 (by decide) ?_
                      refine v_icmp_ne (q := 389) (q2 := 357) hC dL_areRights_354 (by decide) rfl (fun c_354 => ?_) (fun c_354 => ?_)
                      · exact absurd rfl c_354
                      · refine v_aload_n (i := 0) (q := 358) hC dL_areRights_357 rfl rfl rfl ?_
                        refine v_iload (q := 360) hC dL_areRights_358 rfl rfl ?_
                        refine v_iload (q := 362) hC dL_areRights_360 rfl rfl ?_
                        refine v_iload (q := 364) hC dL_areRights_362 rfl rfl ?_
                        refine v_callR (q := 367) (rm := rm_L_isStoppedByMaskOf) hC (vS z_337) kh_L_isStoppedByMaskOf ml_RL_287 dL_areRights_364 rfl rfl rfl (Nat.le_of_ble_eq_true rfl) ⟨Nat.le_of_ble_eq_true rfl, Nat.le_of_ble_eq_true rfl⟩ (c1 := 3) (s1 := 18) rfl rfl ⟨show _ + 3 ≤ 640 by omega, show _ + 18 ≤ 3840 by omega⟩ (rQ_k (fun G_364 z_364 => ?_)) rQ_n
                        try dsimp only [Option.toList, List.cons_append, List.nil_append]
                        refine v_iload (q := 369) hC dL_areRights_367 rfl rfl ?_
                        refine v_if_ne (q := 381) (q2 := 372) hC dL_areRights_369 (by decide) rfl (fun c_369 => ?_) (fun c_369 => ?_)
                        · exact absurd rfl c_369
                        · refine v_iload (q := 374) hC dL_areRights_372 rfl rfl ?_
                          refine v_if_eq (q := 381) (q2 := 377) hC dL_areRights_374 (by decide) rfl (fun c_374 => ?_) (fun c_374 => ?_)
                          · exact absurd c_374 (by decide)
                          · refine v_iconst (q := 378) (v := 1) hC dL_areRights_377 rfl (by decide) ?_
                            refine v_goto (q := 382) hC dL_areRights_378 (by decide) ?_
                            refine v_icmp_ne (q := 389) (q2 := 385) hC dL_areRights_382 (by decide) rfl (fun c_382 => ?_) (fun c_382 => ?_)
                            · exact absurd rfl c_382
                            · refine v_iconst (q := 386) (v := 1) hC dL_areRights_385 rfl (by decide) ?_
                              refine v_goto (q := 390) hC dL_areRights_386 (by decide) ?_
                              refine v_istore (q := 392) hC dL_areRights_390 rfl (lvc rfl) (Nat.le_of_ble_eq_true rfl) (Nat.le_of_ble_eq_true rfl) rfl ?_
                              refine v_iinc (q := 395) (v := nI (r + 1)) hC dL_areRights_392 rfl rfl (nI_1 r) (lvc rfl) (Nat.le_of_ble_eq_true rfl) (Nat.le_of_ble_eq_true rfl) rfl ?_
                              refine v_goto (q := 152) hC dL_areRights_395 (by decide) ?_
                              exact v_widen (by omega) (by omega) (kk2 _ _ _ _ z_364)
            · exact absurd rfl c_292
        · exact absurd rfl c_269
      · refine v_aload_n (i := 0) (q := 258) hC dL_areRights_257 rfl rfl rfl ?_
        refine v_iload (q := 260) hC dL_areRights_258 rfl rfl ?_
        refine v_iload (q := 262) hC dL_areRights_260 rfl rfl ?_
        refine v_iload (q := 264) hC dL_areRights_262 rfl rfl ?_
        refine v_callR (q := 267) (rm := rm_L_isAllowedOf) hC (vA z) kh_L_isAllowedOf ml_RL_268 dL_areRights_264 rfl rfl rfl (Nat.le_of_ble_eq_true rfl) ⟨Nat.le_of_ble_eq_true rfl, Nat.le_of_ble_eq_true rfl⟩ (c1 := 3) (s1 := 18) rfl rfl ⟨show _ + 3 ≤ 640 by omega, show _ + 18 ≤ 3840 by omega⟩ (rQ_k (fun G_264 z_264 => ?_)) rQ_n
        try dsimp only [Option.toList, List.cons_append, List.nil_append]
        refine v_iload (q := 269) hC dL_areRights_267 rfl rfl ?_
        refine v_if_eq (q := 276) (q2 := 272) hC dL_areRights_269 (by decide) rfl (fun c_269 => ?_) (fun c_269 => ?_)
        · exact absurd c_269 (by decide)
        · refine v_iconst (q := 273) (v := 1) hC dL_areRights_272 rfl (by decide) ?_
          refine v_goto (q := 277) hC dL_areRights_273 (by decide) ?_
          refine v_icmp_ne (q := 389) (q2 := 280) hC dL_areRights_277 (by decide) rfl (fun c_277 => ?_) (fun c_277 => ?_)
          · exact absurd rfl c_277
          · refine v_aload_n (i := 0) (q := 281) hC dL_areRights_280 rfl rfl rfl ?_
            refine v_iload (q := 283) hC dL_areRights_281 rfl rfl ?_
            refine v_iload (q := 285) hC dL_areRights_283 rfl rfl ?_
            refine v_iload (q := 287) hC dL_areRights_285 rfl rfl ?_
            refine v_callR (q := 290) (rm := rm_L_isAllowedByHandingDownOf) hC (vH z_264) kh_L_isAllowedByHandingDownOf ml_RL_281 dL_areRights_287 rfl rfl rfl (Nat.le_of_ble_eq_true rfl) ⟨Nat.le_of_ble_eq_true rfl, Nat.le_of_ble_eq_true rfl⟩ (c1 := 3) (s1 := 18) rfl rfl ⟨show _ + 3 ≤ 640 by omega, show _ + 18 ≤ 3840 by omega⟩ (rQ_k (fun G_287 z_287 => ?_)) rQ_n
            try dsimp only [Option.toList, List.cons_append, List.nil_append]
            refine v_iload (q := 292) hC dL_areRights_290 rfl rfl ?_
            refine v_if_eq (q := 299) (q2 := 295) hC dL_areRights_292 (by decide) rfl (fun c_292 => ?_) (fun c_292 => ?_)
            · exact absurd c_292 (by decide)
            · refine v_iconst (q := 296) (v := 1) hC dL_areRights_295 rfl (by decide) ?_
              refine v_goto (q := 300) hC dL_areRights_296 (by decide) ?_
              refine v_icmp_ne (q := 389) (q2 := 303) hC dL_areRights_300 (by decide) rfl (fun c_300 => ?_) (fun c_300 => ?_)
              · exact absurd rfl c_300
              · refine v_aload_n (i := 0) (q := 304) hC dL_areRights_303 rfl rfl rfl ?_
                refine v_iload (q := 306) hC dL_areRights_304 rfl rfl ?_
                refine v_iload (q := 308) hC dL_areRights_306 rfl rfl ?_
                refine v_iload (q := 310) hC dL_areRights_308 rfl rfl ?_
                refine v_callR (q := 313) (rm := rm_L_decidingObjectOf) hC (vO z_287) kh_L_decidingObjectOf ml_RL_272 dL_areRights_310 rfl rfl rfl (Nat.le_of_ble_eq_true rfl) ⟨Nat.le_of_ble_eq_true rfl, Nat.le_of_ble_eq_true rfl⟩ (c1 := 3) (s1 := 18) rfl rfl ⟨show _ + 3 ≤ 640 by omega, show _ + 18 ≤ 3840 by omega⟩ (rQ_k (fun G_310 z_310 => ?_)) rQ_n
                try dsimp only [Option.toList, List.cons_append, List.nil_append]
                refine v_iload (q := 315) hC dL_areRights_313 rfl rfl ?_
                refine v_if_ge (q := 322) (q2 := 318) hC dL_areRights_315 (by decide) rfl (fun c_315 => ?_) (fun c_315 => ?_)
                · exact absurd hd (Int32.not_lt.mpr c_315)
                · refine v_iconst (q := 319) (v := (-1)) hC dL_areRights_318 rfl (by decide) ?_
                  refine v_goto (q := 327) hC dL_areRights_319 (by decide) ?_
                  refine v_icmp_ne (q := 389) (q2 := 330) hC dL_areRights_327 (by decide) rfl (fun c_327 => ?_) (fun c_327 => ?_)
                  · exact absurd rfl c_327
                  · refine v_aload_n (i := 0) (q := 331) hC dL_areRights_330 rfl rfl rfl ?_
                    refine v_iload (q := 333) hC dL_areRights_331 rfl rfl ?_
                    refine v_iload (q := 335) hC dL_areRights_333 rfl rfl ?_
                    refine v_iload (q := 337) hC dL_areRights_335 rfl rfl ?_
                    refine v_callR (q := 340) (rm := rm_L_decidingEntryOf) hC (vE z_310) kh_L_decidingEntryOf ml_RL_284 dL_areRights_337 rfl rfl rfl (Nat.le_of_ble_eq_true rfl) ⟨Nat.le_of_ble_eq_true rfl, Nat.le_of_ble_eq_true rfl⟩ (c1 := 3) (s1 := 18) rfl rfl ⟨show _ + 3 ≤ 640 by omega, show _ + 18 ≤ 3840 by omega⟩ (rQ_k (fun G_337 z_337 => ?_)) rQ_n
                    try dsimp only [Option.toList, List.cons_append, List.nil_append]
                    refine v_iload (q := 342) hC dL_areRights_340 rfl rfl ?_
                    refine v_if_ge (q := 349) (q2 := 345) hC dL_areRights_342 (by decide) rfl (fun c_342 => ?_) (fun c_342 => ?_)
                    · exact absurd hd (Int32.not_lt.mpr c_342)
                    · refine v_iconst (q := 346) (v := (-1)) hC dL_areRights_345 rfl (by decide) ?_
                      refine v_goto (q := 354) hC dL_areRights_346 (by decide) ?_
                      refine v_icmp_ne (q := 389) (q2 := 357) hC dL_areRights_354 (by decide) rfl (fun c_354 => ?_) (fun c_354 => ?_)
                      · exact absurd rfl c_354
                      · refine v_aload_n (i := 0) (q := 358) hC dL_areRights_357 rfl rfl rfl ?_
                        refine v_iload (q := 360) hC dL_areRights_358 rfl rfl ?_
                        refine v_iload (q := 362) hC dL_areRights_360 rfl rfl ?_
                        refine v_iload (q := 364) hC dL_areRights_362 rfl rfl ?_
                        refine v_callR (q := 367) (rm := rm_L_isStoppedByMaskOf) hC (vS z_337) kh_L_isStoppedByMaskOf ml_RL_287 dL_areRights_364 rfl rfl rfl (Nat.le_of_ble_eq_true rfl) ⟨Nat.le_of_ble_eq_true rfl, Nat.le_of_ble_eq_true rfl⟩ (c1 := 3) (s1 := 18) rfl rfl ⟨show _ + 3 ≤ 640 by omega, show _ + 18 ≤ 3840 by omega⟩ (rQ_k (fun G_364 z_364 => ?_)) rQ_n
                        try dsimp only [Option.toList, List.cons_append, List.nil_append]
                        refine v_iload (q := 369) hC dL_areRights_367 rfl rfl ?_
                        refine v_if_ne (q := 381) (q2 := 372) hC dL_areRights_369 (by decide) rfl (fun c_369 => ?_) (fun c_369 => ?_)
                        · refine v_iconst (q := 382) (v := 0) hC dL_areRights_381 rfl (by decide) ?_
                          refine v_icmp_ne (q := 389) (q2 := 385) hC dL_areRights_382 (by decide) rfl (fun c_382 => ?_) (fun c_382 => ?_)
                          · exact absurd rfl c_382
                          · refine v_iconst (q := 386) (v := 1) hC dL_areRights_385 rfl (by decide) ?_
                            refine v_goto (q := 390) hC dL_areRights_386 (by decide) ?_
                            refine v_istore (q := 392) hC dL_areRights_390 rfl (lvc rfl) (Nat.le_of_ble_eq_true rfl) (Nat.le_of_ble_eq_true rfl) rfl ?_
                            refine v_iinc (q := 395) (v := nI (r + 1)) hC dL_areRights_392 rfl rfl (nI_1 r) (lvc rfl) (Nat.le_of_ble_eq_true rfl) (Nat.le_of_ble_eq_true rfl) rfl ?_
                            refine v_goto (q := 152) hC dL_areRights_395 (by decide) ?_
                            exact v_widen (by omega) (by omega) (kk2 _ _ _ _ z_364)
                        · exact absurd c_369 (by decide)
      · refine v_aload_n (i := 0) (q := 258) hC dL_areRights_257 rfl rfl rfl ?_
        refine v_iload (q := 260) hC dL_areRights_258 rfl rfl ?_
        refine v_iload (q := 262) hC dL_areRights_260 rfl rfl ?_
        refine v_iload (q := 264) hC dL_areRights_262 rfl rfl ?_
        refine v_callR (q := 267) (rm := rm_L_isAllowedOf) hC (vA z) kh_L_isAllowedOf ml_RL_268 dL_areRights_264 rfl rfl rfl (Nat.le_of_ble_eq_true rfl) ⟨Nat.le_of_ble_eq_true rfl, Nat.le_of_ble_eq_true rfl⟩ (c1 := 3) (s1 := 18) rfl rfl ⟨show _ + 3 ≤ 640 by omega, show _ + 18 ≤ 3840 by omega⟩ (rQ_k (fun G_264 z_264 => ?_)) rQ_n
        try dsimp only [Option.toList, List.cons_append, List.nil_append]
        refine v_iload (q := 269) hC dL_areRights_267 rfl rfl ?_
        refine v_if_eq (q := 276) (q2 := 272) hC dL_areRights_269 (by decide) rfl (fun c_269 => ?_) (fun c_269 => ?_)
        · exact absurd c_269 (by decide)
        · refine v_iconst (q := 273) (v := 1) hC dL_areRights_272 rfl (by decide) ?_
          refine v_goto (q := 277) hC dL_areRights_273 (by decide) ?_
          refine v_icmp_ne (q := 389) (q2 := 280) hC dL_areRights_277 (by decide) rfl (fun c_277 => ?_) (fun c_277 => ?_)
          · exact absurd rfl c_277
          · refine v_aload_n (i := 0) (q := 281) hC dL_areRights_280 rfl rfl rfl ?_
            refine v_iload (q := 283) hC dL_areRights_281 rfl rfl ?_
            refine v_iload (q := 285) hC dL_areRights_283 rfl rfl ?_
            refine v_iload (q := 287) hC dL_areRights_285 rfl rfl ?_
            refine v_callR (q := 290) (rm := rm_L_isAllowedByHandingDownOf) hC (vH z_264) kh_L_isAllowedByHandingDownOf ml_RL_281 dL_areRights_287 rfl rfl rfl (Nat.le_of_ble_eq_true rfl) ⟨Nat.le_of_ble_eq_true rfl, Nat.le_of_ble_eq_true rfl⟩ (c1 := 3) (s1 := 18) rfl rfl ⟨show _ + 3 ≤ 640 by omega, show _ + 18 ≤ 3840 by omega⟩ (rQ_k (fun G_287 z_287 => ?_)) rQ_n
            try dsimp only [Option.toList, List.cons_append, List.nil_append]
            refine v_iload (q := 292) hC dL_areRights_290 rfl rfl ?_
            refine v_if_eq (q := 299) (q2 := 295) hC dL_areRights_292 (by decide) rfl (fun c_292 => ?_) (fun c_292 => ?_)
            · exact absurd c_292 (by decide)
            · refine v_iconst (q := 296) (v := 1) hC dL_areRights_295 rfl (by decide) ?_
              refine v_goto (q := 300) hC dL_areRights_296 (by decide) ?_
              refine v_icmp_ne (q := 389) (q2 := 303) hC dL_areRights_300 (by decide) rfl (fun c_300 => ?_) (fun c_300 => ?_)
              · exact absurd rfl c_300
              · refine v_aload_n (i := 0) (q := 304) hC dL_areRights_303 rfl rfl rfl ?_
                refine v_iload (q := 306) hC dL_areRights_304 rfl rfl ?_
                refine v_iload (q := 308) hC dL_areRights_306 rfl rfl ?_
                refine v_iload (q := 310) hC dL_areRights_308 rfl rfl ?_
                refine v_callR (q := 313) (rm := rm_L_decidingObjectOf) hC (vO z_287) kh_L_decidingObjectOf ml_RL_272 dL_areRights_310 rfl rfl rfl (Nat.le_of_ble_eq_true rfl) ⟨Nat.le_of_ble_eq_true rfl, Nat.le_of_ble_eq_true rfl⟩ (c1 := 3) (s1 := 18) rfl rfl ⟨show _ + 3 ≤ 640 by omega, show _ + 18 ≤ 3840 by omega⟩ (rQ_k (fun G_310 z_310 => ?_)) rQ_n
                try dsimp only [Option.toList, List.cons_append, List.nil_append]
                refine v_iload (q := 315) hC dL_areRights_313 rfl rfl ?_
                refine v_if_ge (q := 322) (q2 := 318) hC dL_areRights_315 (by decide) rfl (fun c_315 => ?_) (fun c_315 => ?_)
                · exact absurd hd (Int32.not_lt.mpr c_315)
                · refine v_iconst (q := 319) (v := (-1)) hC dL_areRights_318 rfl (by decide) ?_
                  refine v_goto (q := 327) hC dL_areRights_319 (by decide) ?_
                  refine v_icmp_ne (q := 389) (q2 := 330) hC dL_areRights_327 (by decide) rfl (fun c_327 => ?_) (fun c_327 => ?_)
                  · exact absurd rfl c_327
                  · refine v_aload_n (i := 0) (q := 331) hC dL_areRights_330 rfl rfl rfl ?_
                    refine v_iload (q := 333) hC dL_areRights_331 rfl rfl ?_
                    refine v_iload (q := 335) hC dL_areRights_333 rfl rfl ?_
                    refine v_iload (q := 337) hC dL_areRights_335 rfl rfl ?_
                    refine v_callR (q := 340) (rm := rm_L_decidingEntryOf) hC (vE z_310) kh_L_decidingEntryOf ml_RL_284 dL_areRights_337 rfl rfl rfl (Nat.le_of_ble_eq_true rfl) ⟨Nat.le_of_ble_eq_true rfl, Nat.le_of_ble_eq_true rfl⟩ (c1 := 3) (s1 := 18) rfl rfl ⟨show _ + 3 ≤ 640 by omega, show _ + 18 ≤ 3840 by omega⟩ (rQ_k (fun G_337 z_337 => ?_)) rQ_n
                    try dsimp only [Option.toList, List.cons_append, List.nil_append]
                    refine v_iload (q := 342) hC dL_areRights_340 rfl rfl ?_
                    refine v_if_ge (q := 349) (q2 := 345) hC dL_areRights_342 (by decide) rfl (fun c_342 => ?_) (fun c_342 => ?_)
                    · exact absurd hd (Int32.not_lt.mpr c_342)
                    · refine v_iconst (q := 346) (v := (-1)) hC dL_areRights_345 rfl (by decide) ?_
                      refine v_goto (q := 354) hC dL_areRights_346 (by decide) ?_
                      refine v_icmp_ne (q := 389) (q2 := 357) hC dL_areRights_354 (by decide) rfl (fun c_354 => ?_) (fun c_354 => ?_)
                      · exact absurd rfl c_354
                      · refine v_aload_n (i := 0) (q := 358) hC dL_areRights_357 rfl rfl rfl ?_
                        refine v_iload (q := 360) hC dL_areRights_358 rfl rfl ?_
                        refine v_iload (q := 362) hC dL_areRights_360 rfl rfl ?_
                        refine v_iload (q := 364) hC dL_areRights_362 rfl rfl ?_
                        refine v_callR (q := 367) (rm := rm_L_isStoppedByMaskOf) hC (vS z_337) kh_L_isStoppedByMaskOf ml_RL_287 dL_areRights_364 rfl rfl rfl (Nat.le_of_ble_eq_true rfl) ⟨Nat.le_of_ble_eq_true rfl, Nat.le_of_ble_eq_true rfl⟩ (c1 := 3) (s1 := 18) rfl rfl ⟨show _ + 3 ≤ 640 by omega, show _ + 18 ≤ 3840 by omega⟩ (rQ_k (fun G_364 z_364 => ?_)) rQ_n
                        try dsimp only [Option.toList, List.cons_append, List.nil_append]
                        refine v_iload (q := 369) hC dL_areRights_367 rfl rfl ?_
                        refine v_if_ne (q := 381) (q2 := 372) hC dL_areRights_369 (by decide) rfl (fun c_369 => ?_) (fun c_369 => ?_)
                        · refine v_iconst (q := 382) (v := 0) hC dL_areRights_381 rfl (by decide) ?_
                          refine v_icmp_ne (q := 389) (q2 := 385) hC dL_areRights_382 (by decide) rfl (fun c_382 => ?_) (fun c_382 => ?_)
                          · exact absurd rfl c_382
                          · refine v_iconst (q := 386) (v := 1) hC dL_areRights_385 rfl (by decide) ?_
                            refine v_goto (q := 390) hC dL_areRights_386 (by decide) ?_
                            refine v_istore (q := 392) hC dL_areRights_390 rfl (lvc rfl) (Nat.le_of_ble_eq_true rfl) (Nat.le_of_ble_eq_true rfl) rfl ?_
                            refine v_iinc (q := 395) (v := nI (r + 1)) hC dL_areRights_392 rfl rfl (nI_1 r) (lvc rfl) (Nat.le_of_ble_eq_true rfl) (Nat.le_of_ble_eq_true rfl) rfl ?_
                            refine v_goto (q := 152) hC dL_areRights_395 (by decide) ?_
                            exact v_widen (by omega) (by omega) (kk2 _ _ _ _ z_364)
                        · exact absurd c_369 (by decide)
    · have hd2 : 0 ≤ mDec (G.2.1 0 30) (nI u) k (nI r) := ls2 hd
      have vO := fun {G2 : GS} (z2 : Nx G G2 t) => (r_decidingObject hl Θ z2 ht (nI u) (nI k) (nI r)).v (v2 := mDec (G.2.1 0 30) (nI u) k (nI r) / 6) (by rw [if_pos c0, if_pos c1, ek, if_neg hd, gI])
      have vE := fun {G2 : GS} (z2 : Nx G G2 t) => (r_decidingEntry hl Θ z2 ht (nI u) (nI k) (nI r)).v (v2 := mDec (G.2.1 0 30) (nI u) k (nI r) - mDec (G.2.1 0 30) (nI u) k (nI r) / 6 * 6) (by rw [if_pos c0, if_pos c1, ek, if_neg hd, gI])
      cases may <;> cases yes
      · refine v_aload_n (i := 0) (q := 258) hC dL_areRights_257 rfl rfl rfl ?_
        refine v_iload (q := 260) hC dL_areRights_258 rfl rfl ?_
        refine v_iload (q := 262) hC dL_areRights_260 rfl rfl ?_
        refine v_iload (q := 264) hC dL_areRights_262 rfl rfl ?_
        refine v_callR (q := 267) (rm := rm_L_isAllowedOf) hC (vA z) kh_L_isAllowedOf ml_RL_268 dL_areRights_264 rfl rfl rfl (Nat.le_of_ble_eq_true rfl) ⟨Nat.le_of_ble_eq_true rfl, Nat.le_of_ble_eq_true rfl⟩ (c1 := 3) (s1 := 18) rfl rfl ⟨show _ + 3 ≤ 640 by omega, show _ + 18 ≤ 3840 by omega⟩ (rQ_k (fun G_264 z_264 => ?_)) rQ_n
        try dsimp only [Option.toList, List.cons_append, List.nil_append]
        refine v_iload (q := 269) hC dL_areRights_267 rfl rfl ?_
        refine v_if_eq (q := 276) (q2 := 272) hC dL_areRights_269 (by decide) rfl (fun c_269 => ?_) (fun c_269 => ?_)
        · refine v_iconst (q := 277) (v := 0) hC dL_areRights_276 rfl (by decide) ?_
          refine v_icmp_ne (q := 389) (q2 := 280) hC dL_areRights_277 (by decide) rfl (fun c_277 => ?_) (fun c_277 => ?_)
          · exact absurd rfl c_277
          · refine v_aload_n (i := 0) (q := 281) hC dL_areRights_280 rfl rfl rfl ?_
            refine v_iload (q := 283) hC dL_areRights_281 rfl rfl ?_
            refine v_iload (q := 285) hC dL_areRights_283 rfl rfl ?_
            refine v_iload (q := 287) hC dL_areRights_285 rfl rfl ?_
            refine v_callR (q := 290) (rm := rm_L_isAllowedByHandingDownOf) hC (vH z_264) kh_L_isAllowedByHandingDownOf ml_RL_281 dL_areRights_287 rfl rfl rfl (Nat.le_of_ble_eq_true rfl) ⟨Nat.le_of_ble_eq_true rfl, Nat.le_of_ble_eq_true rfl⟩ (c1 := 3) (s1 := 18) rfl rfl ⟨show _ + 3 ≤ 640 by omega, show _ + 18 ≤ 3840 by omega⟩ (rQ_k (fun G_287 z_287 => ?_)) rQ_n
            try dsimp only [Option.toList, List.cons_append, List.nil_append]
            refine v_iload (q := 292) hC dL_areRights_290 rfl rfl ?_
            refine v_if_eq (q := 299) (q2 := 295) hC dL_areRights_292 (by decide) rfl (fun c_292 => ?_) (fun c_292 => ?_)
            · refine v_iconst (q := 300) (v := 0) hC dL_areRights_299 rfl (by decide) ?_
              refine v_icmp_ne (q := 389) (q2 := 303) hC dL_areRights_300 (by decide) rfl (fun c_300 => ?_) (fun c_300 => ?_)
              · exact absurd rfl c_300
              · refine v_aload_n (i := 0) (q := 304) hC dL_areRights_303 rfl rfl rfl ?_
                refine v_iload (q := 306) hC dL_areRights_304 rfl rfl ?_
                refine v_iload (q := 308) hC dL_areRights_306 rfl rfl ?_
                refine v_iload (q := 310) hC dL_areRights_308 rfl rfl ?_
                refine v_callR (q := 313) (rm := rm_L_decidingObjectOf) hC (vO z_287) kh_L_decidingObjectOf ml_RL_272 dL_areRights_310 rfl rfl rfl (Nat.le_of_ble_eq_true rfl) ⟨Nat.le_of_ble_eq_true rfl, Nat.le_of_ble_eq_true rfl⟩ (c1 := 3) (s1 := 18) rfl rfl ⟨show _ + 3 ≤ 640 by omega, show _ + 18 ≤ 3840 by omega⟩ (rQ_k (fun G_310 z_310 => ?_)) rQ_n
                try dsimp only [Option.toList, List.cons_append, List.nil_append]
                refine v_iload (q := 315) hC dL_areRights_313 rfl rfl ?_
                refine v_if_ge (q := 322) (q2 := 318) hC dL_areRights_315 (by decide) rfl (fun c_315 => ?_) (fun c_315 => ?_)
                · refine v_iload (q := 324) hC dL_areRights_322 rfl rfl ?_
                  refine v_bipush (q := 326) (v := 6) hC dL_areRights_324 rfl (by decide) ?_
                  refine v_idiv (q := 327) hC dL_areRights_326 rfl (by decide) ?_
                  refine v_icmp_ne (q := 389) (q2 := 330) hC dL_areRights_327 (by decide) rfl (fun c_327 => ?_) (fun c_327 => ?_)
                  · exact absurd rfl c_327
                  · refine v_aload_n (i := 0) (q := 331) hC dL_areRights_330 rfl rfl rfl ?_
                    refine v_iload (q := 333) hC dL_areRights_331 rfl rfl ?_
                    refine v_iload (q := 335) hC dL_areRights_333 rfl rfl ?_
                    refine v_iload (q := 337) hC dL_areRights_335 rfl rfl ?_
                    refine v_callR (q := 340) (rm := rm_L_decidingEntryOf) hC (vE z_310) kh_L_decidingEntryOf ml_RL_284 dL_areRights_337 rfl rfl rfl (Nat.le_of_ble_eq_true rfl) ⟨Nat.le_of_ble_eq_true rfl, Nat.le_of_ble_eq_true rfl⟩ (c1 := 3) (s1 := 18) rfl rfl ⟨show _ + 3 ≤ 640 by omega, show _ + 18 ≤ 3840 by omega⟩ (rQ_k (fun G_337 z_337 => ?_)) rQ_n
                    try dsimp only [Option.toList, List.cons_append, List.nil_append]
                    refine v_iload (q := 342) hC dL_areRights_340 rfl rfl ?_
                    refine v_if_ge (q := 349) (q2 := 345) hC dL_areRights_342 (by decide) rfl (fun c_342 => ?_) (fun c_342 => ?_)
                    · refine v_iload (q := 351) hC dL_areRights_349 rfl rfl ?_
                      refine v_bipush (q := 353) (v := 6) hC dL_areRights_351 rfl (by decide) ?_
                      refine v_irem (q := 354) hC dL_areRights_353 rfl (by decide) ?_
                      refine v_icmp_ne (q := 389) (q2 := 357) hC dL_areRights_354 (by decide) rfl (fun c_354 => ?_) (fun c_354 => ?_)
                      · exact absurd rfl c_354
                      · refine v_aload_n (i := 0) (q := 358) hC dL_areRights_357 rfl rfl rfl ?_
                        refine v_iload (q := 360) hC dL_areRights_358 rfl rfl ?_
                        refine v_iload (q := 362) hC dL_areRights_360 rfl rfl ?_
                        refine v_iload (q := 364) hC dL_areRights_362 rfl rfl ?_
                        refine v_callR (q := 367) (rm := rm_L_isStoppedByMaskOf) hC (vS z_337) kh_L_isStoppedByMaskOf ml_RL_287 dL_areRights_364 rfl rfl rfl (Nat.le_of_ble_eq_true rfl) ⟨Nat.le_of_ble_eq_true rfl, Nat.le_of_ble_eq_true rfl⟩ (c1 := 3) (s1 := 18) rfl rfl ⟨show _ + 3 ≤ 640 by omega, show _ + 18 ≤ 3840 by omega⟩ (rQ_k (fun G_364 z_364 => ?_)) rQ_n
                        try dsimp only [Option.toList, List.cons_append, List.nil_append]
                        refine v_iload (q := 369) hC dL_areRights_367 rfl rfl ?_
                        refine v_if_ne (q := 381) (q2 := 372) hC dL_areRights_369 (by decide) rfl (fun c_369 => ?_) (fun c_369 => ?_)
                        · exact absurd rfl c_369
                        · refine v_iload (q := 374) hC dL_areRights_372 rfl rfl ?_
                          refine v_if_eq (q := 381) (q2 := 377) hC dL_areRights_374 (by decide) rfl (fun c_374 => ?_) (fun c_374 => ?_)
                          · refine v_iconst (q := 382) (v := 0) hC dL_areRights_381 rfl (by decide) ?_
                            refine v_icmp_ne (q := 389) (q2 := 385) hC dL_areRights_382 (by decide) rfl (fun c_382 => ?_) (fun c_382 => ?_)
                            · exact absurd rfl c_382
                            · refine v_iconst (q := 386) (v := 1) hC dL_areRights_385 rfl (by decide) ?_
                              refine v_goto (q := 390) hC dL_areRights_386 (by decide) ?_
                              refine v_istore (q := 392) hC dL_areRights_390 rfl (lvc rfl) (Nat.le_of_ble_eq_true rfl) (Nat.le_of_ble_eq_true rfl) rfl ?_
                              refine v_iinc (q := 395) (v := nI (r + 1)) hC dL_areRights_392 rfl rfl (nI_1 r) (lvc rfl) (Nat.le_of_ble_eq_true rfl) (Nat.le_of_ble_eq_true rfl) rfl ?_
                              refine v_goto (q := 152) hC dL_areRights_395 (by decide) ?_
                              exact v_widen (by omega) (by omega) (kk2 _ _ _ _ z_364)
                          · exact absurd rfl c_374
                    · exact absurd hd2 c_342
                · exact absurd hd2 c_315
            · exact absurd rfl c_292
        · exact absurd rfl c_269
      · refine v_aload_n (i := 0) (q := 258) hC dL_areRights_257 rfl rfl rfl ?_
        refine v_iload (q := 260) hC dL_areRights_258 rfl rfl ?_
        refine v_iload (q := 262) hC dL_areRights_260 rfl rfl ?_
        refine v_iload (q := 264) hC dL_areRights_262 rfl rfl ?_
        refine v_callR (q := 267) (rm := rm_L_isAllowedOf) hC (vA z) kh_L_isAllowedOf ml_RL_268 dL_areRights_264 rfl rfl rfl (Nat.le_of_ble_eq_true rfl) ⟨Nat.le_of_ble_eq_true rfl, Nat.le_of_ble_eq_true rfl⟩ (c1 := 3) (s1 := 18) rfl rfl ⟨show _ + 3 ≤ 640 by omega, show _ + 18 ≤ 3840 by omega⟩ (rQ_k (fun G_264 z_264 => ?_)) rQ_n
        try dsimp only [Option.toList, List.cons_append, List.nil_append]
        refine v_iload (q := 269) hC dL_areRights_267 rfl rfl ?_
        refine v_if_eq (q := 276) (q2 := 272) hC dL_areRights_269 (by decide) rfl (fun c_269 => ?_) (fun c_269 => ?_)
        · refine v_iconst (q := 277) (v := 0) hC dL_areRights_276 rfl (by decide) ?_
          refine v_icmp_ne (q := 389) (q2 := 280) hC dL_areRights_277 (by decide) rfl (fun c_277 => ?_) (fun c_277 => ?_)
          · exact absurd rfl c_277
          · refine v_aload_n (i := 0) (q := 281) hC dL_areRights_280 rfl rfl rfl ?_
            refine v_iload (q := 283) hC dL_areRights_281 rfl rfl ?_
            refine v_iload (q := 285) hC dL_areRights_283 rfl rfl ?_
            refine v_iload (q := 287) hC dL_areRights_285 rfl rfl ?_
            refine v_callR (q := 290) (rm := rm_L_isAllowedByHandingDownOf) hC (vH z_264) kh_L_isAllowedByHandingDownOf ml_RL_281 dL_areRights_287 rfl rfl rfl (Nat.le_of_ble_eq_true rfl) ⟨Nat.le_of_ble_eq_true rfl, Nat.le_of_ble_eq_true rfl⟩ (c1 := 3) (s1 := 18) rfl rfl ⟨show _ + 3 ≤ 640 by omega, show _ + 18 ≤ 3840 by omega⟩ (rQ_k (fun G_287 z_287 => ?_)) rQ_n
            try dsimp only [Option.toList, List.cons_append, List.nil_append]
            refine v_iload (q := 292) hC dL_areRights_290 rfl rfl ?_
            refine v_if_eq (q := 299) (q2 := 295) hC dL_areRights_292 (by decide) rfl (fun c_292 => ?_) (fun c_292 => ?_)
            · refine v_iconst (q := 300) (v := 0) hC dL_areRights_299 rfl (by decide) ?_
              refine v_icmp_ne (q := 389) (q2 := 303) hC dL_areRights_300 (by decide) rfl (fun c_300 => ?_) (fun c_300 => ?_)
              · exact absurd rfl c_300
              · refine v_aload_n (i := 0) (q := 304) hC dL_areRights_303 rfl rfl rfl ?_
                refine v_iload (q := 306) hC dL_areRights_304 rfl rfl ?_
                refine v_iload (q := 308) hC dL_areRights_306 rfl rfl ?_
                refine v_iload (q := 310) hC dL_areRights_308 rfl rfl ?_
                refine v_callR (q := 313) (rm := rm_L_decidingObjectOf) hC (vO z_287) kh_L_decidingObjectOf ml_RL_272 dL_areRights_310 rfl rfl rfl (Nat.le_of_ble_eq_true rfl) ⟨Nat.le_of_ble_eq_true rfl, Nat.le_of_ble_eq_true rfl⟩ (c1 := 3) (s1 := 18) rfl rfl ⟨show _ + 3 ≤ 640 by omega, show _ + 18 ≤ 3840 by omega⟩ (rQ_k (fun G_310 z_310 => ?_)) rQ_n
                try dsimp only [Option.toList, List.cons_append, List.nil_append]
                refine v_iload (q := 315) hC dL_areRights_313 rfl rfl ?_
                refine v_if_ge (q := 322) (q2 := 318) hC dL_areRights_315 (by decide) rfl (fun c_315 => ?_) (fun c_315 => ?_)
                · refine v_iload (q := 324) hC dL_areRights_322 rfl rfl ?_
                  refine v_bipush (q := 326) (v := 6) hC dL_areRights_324 rfl (by decide) ?_
                  refine v_idiv (q := 327) hC dL_areRights_326 rfl (by decide) ?_
                  refine v_icmp_ne (q := 389) (q2 := 330) hC dL_areRights_327 (by decide) rfl (fun c_327 => ?_) (fun c_327 => ?_)
                  · exact absurd rfl c_327
                  · refine v_aload_n (i := 0) (q := 331) hC dL_areRights_330 rfl rfl rfl ?_
                    refine v_iload (q := 333) hC dL_areRights_331 rfl rfl ?_
                    refine v_iload (q := 335) hC dL_areRights_333 rfl rfl ?_
                    refine v_iload (q := 337) hC dL_areRights_335 rfl rfl ?_
                    refine v_callR (q := 340) (rm := rm_L_decidingEntryOf) hC (vE z_310) kh_L_decidingEntryOf ml_RL_284 dL_areRights_337 rfl rfl rfl (Nat.le_of_ble_eq_true rfl) ⟨Nat.le_of_ble_eq_true rfl, Nat.le_of_ble_eq_true rfl⟩ (c1 := 3) (s1 := 18) rfl rfl ⟨show _ + 3 ≤ 640 by omega, show _ + 18 ≤ 3840 by omega⟩ (rQ_k (fun G_337 z_337 => ?_)) rQ_n
                    try dsimp only [Option.toList, List.cons_append, List.nil_append]
                    refine v_iload (q := 342) hC dL_areRights_340 rfl rfl ?_
                    refine v_if_ge (q := 349) (q2 := 345) hC dL_areRights_342 (by decide) rfl (fun c_342 => ?_) (fun c_342 => ?_)
                    · refine v_iload (q := 351) hC dL_areRights_349 rfl rfl ?_
                      refine v_bipush (q := 353) (v := 6) hC dL_areRights_351 rfl (by decide) ?_
                      refine v_irem (q := 354) hC dL_areRights_353 rfl (by decide) ?_
                      refine v_icmp_ne (q := 389) (q2 := 357) hC dL_areRights_354 (by decide) rfl (fun c_354 => ?_) (fun c_354 => ?_)
                      · exact absurd rfl c_354
                      · refine v_aload_n (i := 0) (q := 358) hC dL_areRights_357 rfl rfl rfl ?_
                        refine v_iload (q := 360) hC dL_areRights_358 rfl rfl ?_
                        refine v_iload (q := 362) hC dL_areRights_360 rfl rfl ?_
                        refine v_iload (q := 364) hC dL_areRights_362 rfl rfl ?_
                        refine v_callR (q := 367) (rm := rm_L_isStoppedByMaskOf) hC (vS z_337) kh_L_isStoppedByMaskOf ml_RL_287 dL_areRights_364 rfl rfl rfl (Nat.le_of_ble_eq_true rfl) ⟨Nat.le_of_ble_eq_true rfl, Nat.le_of_ble_eq_true rfl⟩ (c1 := 3) (s1 := 18) rfl rfl ⟨show _ + 3 ≤ 640 by omega, show _ + 18 ≤ 3840 by omega⟩ (rQ_k (fun G_364 z_364 => ?_)) rQ_n
                        try dsimp only [Option.toList, List.cons_append, List.nil_append]
                        refine v_iload (q := 369) hC dL_areRights_367 rfl rfl ?_
                        refine v_if_ne (q := 381) (q2 := 372) hC dL_areRights_369 (by decide) rfl (fun c_369 => ?_) (fun c_369 => ?_)
                        · exact absurd rfl c_369
                        · refine v_iload (q := 374) hC dL_areRights_372 rfl rfl ?_
                          refine v_if_eq (q := 381) (q2 := 377) hC dL_areRights_374 (by decide) rfl (fun c_374 => ?_) (fun c_374 => ?_)
                          · exact absurd c_374 (by decide)
                          · refine v_iconst (q := 378) (v := 1) hC dL_areRights_377 rfl (by decide) ?_
                            refine v_goto (q := 382) hC dL_areRights_378 (by decide) ?_
                            refine v_icmp_ne (q := 389) (q2 := 385) hC dL_areRights_382 (by decide) rfl (fun c_382 => ?_) (fun c_382 => ?_)
                            · exact absurd rfl c_382
                            · refine v_iconst (q := 386) (v := 1) hC dL_areRights_385 rfl (by decide) ?_
                              refine v_goto (q := 390) hC dL_areRights_386 (by decide) ?_
                              refine v_istore (q := 392) hC dL_areRights_390 rfl (lvc rfl) (Nat.le_of_ble_eq_true rfl) (Nat.le_of_ble_eq_true rfl) rfl ?_
                              refine v_iinc (q := 395) (v := nI (r + 1)) hC dL_areRights_392 rfl rfl (nI_1 r) (lvc rfl) (Nat.le_of_ble_eq_true rfl) (Nat.le_of_ble_eq_true rfl) rfl ?_
                              refine v_goto (q := 152) hC dL_areRights_395 (by decide) ?_
                              exact v_widen (by omega) (by omega) (kk2 _ _ _ _ z_364)
                    · exact absurd hd2 c_342
                · exact absurd hd2 c_315
            · exact absurd rfl c_292
        · exact absurd rfl c_269
      · refine v_aload_n (i := 0) (q := 258) hC dL_areRights_257 rfl rfl rfl ?_
        refine v_iload (q := 260) hC dL_areRights_258 rfl rfl ?_
        refine v_iload (q := 262) hC dL_areRights_260 rfl rfl ?_
        refine v_iload (q := 264) hC dL_areRights_262 rfl rfl ?_
        refine v_callR (q := 267) (rm := rm_L_isAllowedOf) hC (vA z) kh_L_isAllowedOf ml_RL_268 dL_areRights_264 rfl rfl rfl (Nat.le_of_ble_eq_true rfl) ⟨Nat.le_of_ble_eq_true rfl, Nat.le_of_ble_eq_true rfl⟩ (c1 := 3) (s1 := 18) rfl rfl ⟨show _ + 3 ≤ 640 by omega, show _ + 18 ≤ 3840 by omega⟩ (rQ_k (fun G_264 z_264 => ?_)) rQ_n
        try dsimp only [Option.toList, List.cons_append, List.nil_append]
        refine v_iload (q := 269) hC dL_areRights_267 rfl rfl ?_
        refine v_if_eq (q := 276) (q2 := 272) hC dL_areRights_269 (by decide) rfl (fun c_269 => ?_) (fun c_269 => ?_)
        · exact absurd c_269 (by decide)
        · refine v_iconst (q := 273) (v := 1) hC dL_areRights_272 rfl (by decide) ?_
          refine v_goto (q := 277) hC dL_areRights_273 (by decide) ?_
          refine v_icmp_ne (q := 389) (q2 := 280) hC dL_areRights_277 (by decide) rfl (fun c_277 => ?_) (fun c_277 => ?_)
          · exact absurd rfl c_277
          · refine v_aload_n (i := 0) (q := 281) hC dL_areRights_280 rfl rfl rfl ?_
            refine v_iload (q := 283) hC dL_areRights_281 rfl rfl ?_
            refine v_iload (q := 285) hC dL_areRights_283 rfl rfl ?_
            refine v_iload (q := 287) hC dL_areRights_285 rfl rfl ?_
            refine v_callR (q := 290) (rm := rm_L_isAllowedByHandingDownOf) hC (vH z_264) kh_L_isAllowedByHandingDownOf ml_RL_281 dL_areRights_287 rfl rfl rfl (Nat.le_of_ble_eq_true rfl) ⟨Nat.le_of_ble_eq_true rfl, Nat.le_of_ble_eq_true rfl⟩ (c1 := 3) (s1 := 18) rfl rfl ⟨show _ + 3 ≤ 640 by omega, show _ + 18 ≤ 3840 by omega⟩ (rQ_k (fun G_287 z_287 => ?_)) rQ_n
            try dsimp only [Option.toList, List.cons_append, List.nil_append]
            refine v_iload (q := 292) hC dL_areRights_290 rfl rfl ?_
            refine v_if_eq (q := 299) (q2 := 295) hC dL_areRights_292 (by decide) rfl (fun c_292 => ?_) (fun c_292 => ?_)
            · exact absurd c_292 (by decide)
            · refine v_iconst (q := 296) (v := 1) hC dL_areRights_295 rfl (by decide) ?_
              refine v_goto (q := 300) hC dL_areRights_296 (by decide) ?_
              refine v_icmp_ne (q := 389) (q2 := 303) hC dL_areRights_300 (by decide) rfl (fun c_300 => ?_) (fun c_300 => ?_)
              · exact absurd rfl c_300
              · refine v_aload_n (i := 0) (q := 304) hC dL_areRights_303 rfl rfl rfl ?_
                refine v_iload (q := 306) hC dL_areRights_304 rfl rfl ?_
                refine v_iload (q := 308) hC dL_areRights_306 rfl rfl ?_
                refine v_iload (q := 310) hC dL_areRights_308 rfl rfl ?_
                refine v_callR (q := 313) (rm := rm_L_decidingObjectOf) hC (vO z_287) kh_L_decidingObjectOf ml_RL_272 dL_areRights_310 rfl rfl rfl (Nat.le_of_ble_eq_true rfl) ⟨Nat.le_of_ble_eq_true rfl, Nat.le_of_ble_eq_true rfl⟩ (c1 := 3) (s1 := 18) rfl rfl ⟨show _ + 3 ≤ 640 by omega, show _ + 18 ≤ 3840 by omega⟩ (rQ_k (fun G_310 z_310 => ?_)) rQ_n
                try dsimp only [Option.toList, List.cons_append, List.nil_append]
                refine v_iload (q := 315) hC dL_areRights_313 rfl rfl ?_
                refine v_if_ge (q := 322) (q2 := 318) hC dL_areRights_315 (by decide) rfl (fun c_315 => ?_) (fun c_315 => ?_)
                · refine v_iload (q := 324) hC dL_areRights_322 rfl rfl ?_
                  refine v_bipush (q := 326) (v := 6) hC dL_areRights_324 rfl (by decide) ?_
                  refine v_idiv (q := 327) hC dL_areRights_326 rfl (by decide) ?_
                  refine v_icmp_ne (q := 389) (q2 := 330) hC dL_areRights_327 (by decide) rfl (fun c_327 => ?_) (fun c_327 => ?_)
                  · exact absurd rfl c_327
                  · refine v_aload_n (i := 0) (q := 331) hC dL_areRights_330 rfl rfl rfl ?_
                    refine v_iload (q := 333) hC dL_areRights_331 rfl rfl ?_
                    refine v_iload (q := 335) hC dL_areRights_333 rfl rfl ?_
                    refine v_iload (q := 337) hC dL_areRights_335 rfl rfl ?_
                    refine v_callR (q := 340) (rm := rm_L_decidingEntryOf) hC (vE z_310) kh_L_decidingEntryOf ml_RL_284 dL_areRights_337 rfl rfl rfl (Nat.le_of_ble_eq_true rfl) ⟨Nat.le_of_ble_eq_true rfl, Nat.le_of_ble_eq_true rfl⟩ (c1 := 3) (s1 := 18) rfl rfl ⟨show _ + 3 ≤ 640 by omega, show _ + 18 ≤ 3840 by omega⟩ (rQ_k (fun G_337 z_337 => ?_)) rQ_n
                    try dsimp only [Option.toList, List.cons_append, List.nil_append]
                    refine v_iload (q := 342) hC dL_areRights_340 rfl rfl ?_
                    refine v_if_ge (q := 349) (q2 := 345) hC dL_areRights_342 (by decide) rfl (fun c_342 => ?_) (fun c_342 => ?_)
                    · refine v_iload (q := 351) hC dL_areRights_349 rfl rfl ?_
                      refine v_bipush (q := 353) (v := 6) hC dL_areRights_351 rfl (by decide) ?_
                      refine v_irem (q := 354) hC dL_areRights_353 rfl (by decide) ?_
                      refine v_icmp_ne (q := 389) (q2 := 357) hC dL_areRights_354 (by decide) rfl (fun c_354 => ?_) (fun c_354 => ?_)
                      · exact absurd rfl c_354
                      · refine v_aload_n (i := 0) (q := 358) hC dL_areRights_357 rfl rfl rfl ?_
                        refine v_iload (q := 360) hC dL_areRights_358 rfl rfl ?_
                        refine v_iload (q := 362) hC dL_areRights_360 rfl rfl ?_
                        refine v_iload (q := 364) hC dL_areRights_362 rfl rfl ?_
                        refine v_callR (q := 367) (rm := rm_L_isStoppedByMaskOf) hC (vS z_337) kh_L_isStoppedByMaskOf ml_RL_287 dL_areRights_364 rfl rfl rfl (Nat.le_of_ble_eq_true rfl) ⟨Nat.le_of_ble_eq_true rfl, Nat.le_of_ble_eq_true rfl⟩ (c1 := 3) (s1 := 18) rfl rfl ⟨show _ + 3 ≤ 640 by omega, show _ + 18 ≤ 3840 by omega⟩ (rQ_k (fun G_364 z_364 => ?_)) rQ_n
                        try dsimp only [Option.toList, List.cons_append, List.nil_append]
                        refine v_iload (q := 369) hC dL_areRights_367 rfl rfl ?_
                        refine v_if_ne (q := 381) (q2 := 372) hC dL_areRights_369 (by decide) rfl (fun c_369 => ?_) (fun c_369 => ?_)
                        · refine v_iconst (q := 382) (v := 0) hC dL_areRights_381 rfl (by decide) ?_
                          refine v_icmp_ne (q := 389) (q2 := 385) hC dL_areRights_382 (by decide) rfl (fun c_382 => ?_) (fun c_382 => ?_)
                          · exact absurd rfl c_382
                          · refine v_iconst (q := 386) (v := 1) hC dL_areRights_385 rfl (by decide) ?_
                            refine v_goto (q := 390) hC dL_areRights_386 (by decide) ?_
                            refine v_istore (q := 392) hC dL_areRights_390 rfl (lvc rfl) (Nat.le_of_ble_eq_true rfl) (Nat.le_of_ble_eq_true rfl) rfl ?_
                            refine v_iinc (q := 395) (v := nI (r + 1)) hC dL_areRights_392 rfl rfl (nI_1 r) (lvc rfl) (Nat.le_of_ble_eq_true rfl) (Nat.le_of_ble_eq_true rfl) rfl ?_
                            refine v_goto (q := 152) hC dL_areRights_395 (by decide) ?_
                            exact v_widen (by omega) (by omega) (kk2 _ _ _ _ z_364)
                        · exact absurd c_369 (by decide)
                    · exact absurd hd2 c_342
                · exact absurd hd2 c_315
      · refine v_aload_n (i := 0) (q := 258) hC dL_areRights_257 rfl rfl rfl ?_
        refine v_iload (q := 260) hC dL_areRights_258 rfl rfl ?_
        refine v_iload (q := 262) hC dL_areRights_260 rfl rfl ?_
        refine v_iload (q := 264) hC dL_areRights_262 rfl rfl ?_
        refine v_callR (q := 267) (rm := rm_L_isAllowedOf) hC (vA z) kh_L_isAllowedOf ml_RL_268 dL_areRights_264 rfl rfl rfl (Nat.le_of_ble_eq_true rfl) ⟨Nat.le_of_ble_eq_true rfl, Nat.le_of_ble_eq_true rfl⟩ (c1 := 3) (s1 := 18) rfl rfl ⟨show _ + 3 ≤ 640 by omega, show _ + 18 ≤ 3840 by omega⟩ (rQ_k (fun G_264 z_264 => ?_)) rQ_n
        try dsimp only [Option.toList, List.cons_append, List.nil_append]
        refine v_iload (q := 269) hC dL_areRights_267 rfl rfl ?_
        refine v_if_eq (q := 276) (q2 := 272) hC dL_areRights_269 (by decide) rfl (fun c_269 => ?_) (fun c_269 => ?_)
        · exact absurd c_269 (by decide)
        · refine v_iconst (q := 273) (v := 1) hC dL_areRights_272 rfl (by decide) ?_
          refine v_goto (q := 277) hC dL_areRights_273 (by decide) ?_
          refine v_icmp_ne (q := 389) (q2 := 280) hC dL_areRights_277 (by decide) rfl (fun c_277 => ?_) (fun c_277 => ?_)
          · exact absurd rfl c_277
          · refine v_aload_n (i := 0) (q := 281) hC dL_areRights_280 rfl rfl rfl ?_
            refine v_iload (q := 283) hC dL_areRights_281 rfl rfl ?_
            refine v_iload (q := 285) hC dL_areRights_283 rfl rfl ?_
            refine v_iload (q := 287) hC dL_areRights_285 rfl rfl ?_
            refine v_callR (q := 290) (rm := rm_L_isAllowedByHandingDownOf) hC (vH z_264) kh_L_isAllowedByHandingDownOf ml_RL_281 dL_areRights_287 rfl rfl rfl (Nat.le_of_ble_eq_true rfl) ⟨Nat.le_of_ble_eq_true rfl, Nat.le_of_ble_eq_true rfl⟩ (c1 := 3) (s1 := 18) rfl rfl ⟨show _ + 3 ≤ 640 by omega, show _ + 18 ≤ 3840 by omega⟩ (rQ_k (fun G_287 z_287 => ?_)) rQ_n
            try dsimp only [Option.toList, List.cons_append, List.nil_append]
            refine v_iload (q := 292) hC dL_areRights_290 rfl rfl ?_
            refine v_if_eq (q := 299) (q2 := 295) hC dL_areRights_292 (by decide) rfl (fun c_292 => ?_) (fun c_292 => ?_)
            · exact absurd c_292 (by decide)
            · refine v_iconst (q := 296) (v := 1) hC dL_areRights_295 rfl (by decide) ?_
              refine v_goto (q := 300) hC dL_areRights_296 (by decide) ?_
              refine v_icmp_ne (q := 389) (q2 := 303) hC dL_areRights_300 (by decide) rfl (fun c_300 => ?_) (fun c_300 => ?_)
              · exact absurd rfl c_300
              · refine v_aload_n (i := 0) (q := 304) hC dL_areRights_303 rfl rfl rfl ?_
                refine v_iload (q := 306) hC dL_areRights_304 rfl rfl ?_
                refine v_iload (q := 308) hC dL_areRights_306 rfl rfl ?_
                refine v_iload (q := 310) hC dL_areRights_308 rfl rfl ?_
                refine v_callR (q := 313) (rm := rm_L_decidingObjectOf) hC (vO z_287) kh_L_decidingObjectOf ml_RL_272 dL_areRights_310 rfl rfl rfl (Nat.le_of_ble_eq_true rfl) ⟨Nat.le_of_ble_eq_true rfl, Nat.le_of_ble_eq_true rfl⟩ (c1 := 3) (s1 := 18) rfl rfl ⟨show _ + 3 ≤ 640 by omega, show _ + 18 ≤ 3840 by omega⟩ (rQ_k (fun G_310 z_310 => ?_)) rQ_n
                try dsimp only [Option.toList, List.cons_append, List.nil_append]
                refine v_iload (q := 315) hC dL_areRights_313 rfl rfl ?_
                refine v_if_ge (q := 322) (q2 := 318) hC dL_areRights_315 (by decide) rfl (fun c_315 => ?_) (fun c_315 => ?_)
                · refine v_iload (q := 324) hC dL_areRights_322 rfl rfl ?_
                  refine v_bipush (q := 326) (v := 6) hC dL_areRights_324 rfl (by decide) ?_
                  refine v_idiv (q := 327) hC dL_areRights_326 rfl (by decide) ?_
                  refine v_icmp_ne (q := 389) (q2 := 330) hC dL_areRights_327 (by decide) rfl (fun c_327 => ?_) (fun c_327 => ?_)
                  · exact absurd rfl c_327
                  · refine v_aload_n (i := 0) (q := 331) hC dL_areRights_330 rfl rfl rfl ?_
                    refine v_iload (q := 333) hC dL_areRights_331 rfl rfl ?_
                    refine v_iload (q := 335) hC dL_areRights_333 rfl rfl ?_
                    refine v_iload (q := 337) hC dL_areRights_335 rfl rfl ?_
                    refine v_callR (q := 340) (rm := rm_L_decidingEntryOf) hC (vE z_310) kh_L_decidingEntryOf ml_RL_284 dL_areRights_337 rfl rfl rfl (Nat.le_of_ble_eq_true rfl) ⟨Nat.le_of_ble_eq_true rfl, Nat.le_of_ble_eq_true rfl⟩ (c1 := 3) (s1 := 18) rfl rfl ⟨show _ + 3 ≤ 640 by omega, show _ + 18 ≤ 3840 by omega⟩ (rQ_k (fun G_337 z_337 => ?_)) rQ_n
                    try dsimp only [Option.toList, List.cons_append, List.nil_append]
                    refine v_iload (q := 342) hC dL_areRights_340 rfl rfl ?_
                    refine v_if_ge (q := 349) (q2 := 345) hC dL_areRights_342 (by decide) rfl (fun c_342 => ?_) (fun c_342 => ?_)
                    · refine v_iload (q := 351) hC dL_areRights_349 rfl rfl ?_
                      refine v_bipush (q := 353) (v := 6) hC dL_areRights_351 rfl (by decide) ?_
                      refine v_irem (q := 354) hC dL_areRights_353 rfl (by decide) ?_
                      refine v_icmp_ne (q := 389) (q2 := 357) hC dL_areRights_354 (by decide) rfl (fun c_354 => ?_) (fun c_354 => ?_)
                      · exact absurd rfl c_354
                      · refine v_aload_n (i := 0) (q := 358) hC dL_areRights_357 rfl rfl rfl ?_
                        refine v_iload (q := 360) hC dL_areRights_358 rfl rfl ?_
                        refine v_iload (q := 362) hC dL_areRights_360 rfl rfl ?_
                        refine v_iload (q := 364) hC dL_areRights_362 rfl rfl ?_
                        refine v_callR (q := 367) (rm := rm_L_isStoppedByMaskOf) hC (vS z_337) kh_L_isStoppedByMaskOf ml_RL_287 dL_areRights_364 rfl rfl rfl (Nat.le_of_ble_eq_true rfl) ⟨Nat.le_of_ble_eq_true rfl, Nat.le_of_ble_eq_true rfl⟩ (c1 := 3) (s1 := 18) rfl rfl ⟨show _ + 3 ≤ 640 by omega, show _ + 18 ≤ 3840 by omega⟩ (rQ_k (fun G_364 z_364 => ?_)) rQ_n
                        try dsimp only [Option.toList, List.cons_append, List.nil_append]
                        refine v_iload (q := 369) hC dL_areRights_367 rfl rfl ?_
                        refine v_if_ne (q := 381) (q2 := 372) hC dL_areRights_369 (by decide) rfl (fun c_369 => ?_) (fun c_369 => ?_)
                        · refine v_iconst (q := 382) (v := 0) hC dL_areRights_381 rfl (by decide) ?_
                          refine v_icmp_ne (q := 389) (q2 := 385) hC dL_areRights_382 (by decide) rfl (fun c_382 => ?_) (fun c_382 => ?_)
                          · exact absurd rfl c_382
                          · refine v_iconst (q := 386) (v := 1) hC dL_areRights_385 rfl (by decide) ?_
                            refine v_goto (q := 390) hC dL_areRights_386 (by decide) ?_
                            refine v_istore (q := 392) hC dL_areRights_390 rfl (lvc rfl) (Nat.le_of_ble_eq_true rfl) (Nat.le_of_ble_eq_true rfl) rfl ?_
                            refine v_iinc (q := 395) (v := nI (r + 1)) hC dL_areRights_392 rfl rfl (nI_1 r) (lvc rfl) (Nat.le_of_ble_eq_true rfl) (Nat.le_of_ble_eq_true rfl) rfl ?_
                            refine v_goto (q := 152) hC dL_areRights_395 (by decide) ?_
                            exact v_widen (by omega) (by omega) (kk2 _ _ _ _ z_364)
                        · exact absurd c_369 (by decide)
                    · exact absurd hd2 c_342
                · exact absurd hd2 c_315
  -- one right
  have S : ∀ (k r : Nat) (th : Int32) (G' : GS), k < 10 → G.2.1 0 30 (oA k 0) = 1 → r < 4 → Nx G G' t → (∀ (G2 : GS), Nx G G2 t → V p l e rm_L_areRights s m args below meth c 14 Θ (rQ G t 1) 640 3840 (13 + 62 * k + 2 + 15 * r + 15) (78 + 372 * k + 12 + 90 * r + 90) 152 [some (.ref (tR Θ 0 14)), some (.ref (tR Θ 0 40)), some (.ref (tR Θ 0 41)), some (.ref (tR Θ 0 42)), some (.ref (tR Θ 0 44)), some (.int (nI u)), some (.int (nI g)), some (.int 1), some (.int (th + (if (mHold (G.2.1 0 30) (nI k) && mTh (G.2.1 0 30) (nI u) k (nI r) (nI g)) = true then 1 else 0))), some (.int (nI k)), some (.int (nI (r + 1))), none, none, none] [] (G2)) → V p l e rm_L_areRights s m args below meth c 14 Θ (rQ G t 1) 640 3840 (13 + 62 * k + 2 + 15 * r) (78 + 372 * k + 12 + 90 * r) 152 [some (.ref (tR Θ 0 14)), some (.ref (tR Θ 0 40)), some (.ref (tR Θ 0 41)), some (.ref (tR Θ 0 42)), some (.ref (tR Θ 0 44)), some (.int (nI u)), some (.int (nI g)), some (.int 1), some (.int th), some (.int (nI k)), some (.int (nI r)), none, none, none] [] (G') := by
    intro k r th G' hk hk1 hr4 z kk
    have hp2 : ¬ G.2.1 0 41 k = -2 := fun h9 => (hD.p2 hk).mp h9 hk1
    rw [hD.hold (by omega), decide_eq_true hk1, Bool.true_and] at kk
    rcases mDec_rng hD.ok (nI u) (show k < 20 by omega) (nI r) with h2 | ⟨li, i, h2, h3, h4, h5⟩
    · have hB : mByL (G.2.1 0 30) (nI u) k (nI r) = false := by
        unfold mByL; rw [h2, if_pos (by decide)]
      have hT : mTh (G.2.1 0 30) (nI u) k (nI r) (nI g) = false := by
        unfold mTh; rw [h2, show (!decide ((-1 : Int32) < 0)) = false by decide, Bool.false_and, Bool.and_false]
      rw [hT, if_neg (by decide)] at kk
      cases hm : mAl (G.2.1 0 30) (nI u) k (nI r)
      · have hC2 := C k r (th + 0) false false G' hk hk1 hr4 z hm hB kk
        refine v_iload (q := 154) hC dL_areRights_152 rfl rfl ?_
        refine v_iconst (q := 155) (v := 4) hC dL_areRights_154 rfl (by decide) ?_
        refine v_icmp_ge (q := 398) (q2 := 158) hC dL_areRights_155 (by decide) rfl (fun c_155 => ?_) (fun c_155 => ?_)
        · exact absurd c_155 (by rw [show (4 : Int32) = nI 4 from rfl]; exact nI_ge (by omega) (by omega))
        · refine v_aload_n (i := 2) (q := 159) hC dL_areRights_158 rfl rfl rfl ?_
          refine v_iload (q := 161) hC dL_areRights_159 rfl rfl ?_
          refine v_ialdV (q := 162) hC dL_areRights_161 rfl rfl rfl (i := k) (rfl) (by first | decide | omega) (by decide) (NxR z (by decide) (by decide) (rfl)) ?_
          refine v_bipush (q := 164) (v := (-2)) hC dL_areRights_162 rfl (by decide) ?_
          refine v_icmp_eq (q := 398) (q2 := 167) hC dL_areRights_164 (by decide) rfl (fun c_164 => ?_) (fun c_164 => ?_)
          · exact absurd c_164 hp2
          · refine v_iload (q := 169) hC dL_areRights_167 rfl rfl ?_
            refine v_if_eq (q := 398) (q2 := 172) hC dL_areRights_169 (by decide) rfl (fun c_169 => ?_) (fun c_169 => ?_)
            · exact absurd c_169 (by decide)
            · refine v_aload_n (i := 1) (q := 173) hC dL_areRights_172 rfl rfl rfl ?_
              refine v_aload_n (i := 2) (q := 174) hC dL_areRights_173 rfl rfl rfl ?_
              refine v_aload_n (i := 3) (q := 175) hC dL_areRights_174 rfl rfl rfl ?_
              refine v_iload (q := 177) hC dL_areRights_175 rfl rfl ?_
              refine v_iload (q := 179) hC dL_areRights_177 rfl rfl ?_
              refine v_iload (q := 181) hC dL_areRights_179 rfl rfl ?_
              refine v_callSN (q := 184) (rm := rm_L_allowed) hC (c_L_allowed hl Θ u k r _ (hD3 z) hu12 hk (by rw [z.w]; exact hk1) hr4) k_L_allowed st_yL_allowed ml_RL_192 dL_areRights_181 rfl rfl rfl (Nat.le_of_ble_eq_true rfl) ⟨Nat.le_of_ble_eq_true rfl, Nat.le_of_ble_eq_true rfl⟩ (c1 := 0) (s1 := 0) rfl rfl ⟨show _ + 0 ≤ 640 by omega, show _ + 0 ≤ 3840 by omega⟩ (fR_k ?_) fR_n
              try dsimp only [Option.toList, List.cons_append, List.nil_append]
              rw [z.w, hm]
              refine v_istore (q := 186) hC dL_areRights_184 rfl (lvc rfl) (Nat.le_of_ble_eq_true rfl) (Nat.le_of_ble_eq_true rfl) rfl ?_
              refine v_aload_n (i := 1) (q := 187) hC dL_areRights_186 rfl rfl rfl ?_
              refine v_aload_n (i := 2) (q := 188) hC dL_areRights_187 rfl rfl rfl ?_
              refine v_aload_n (i := 3) (q := 189) hC dL_areRights_188 rfl rfl rfl ?_
              refine v_iload (q := 191) hC dL_areRights_189 rfl rfl ?_
              refine v_iload (q := 193) hC dL_areRights_191 rfl rfl ?_
              refine v_iload (q := 195) hC dL_areRights_193 rfl rfl ?_
              refine v_callSN (q := 198) (rm := rm_L_deciding) hC (c_L_deciding hl Θ u k r _ (hD3 z) hu12 hk (by rw [z.w]; exact hk1)) k_L_deciding st_yL_deciding ml_RL_188 dL_areRights_195 rfl rfl rfl (Nat.le_of_ble_eq_true rfl) ⟨Nat.le_of_ble_eq_true rfl, Nat.le_of_ble_eq_true rfl⟩ (c1 := 0) (s1 := 0) rfl rfl ⟨show _ + 0 ≤ 640 by omega, show _ + 0 ≤ 3840 by omega⟩ (fR_k ?_) fR_n
              try dsimp only [Option.toList, List.cons_append, List.nil_append]
              rw [z.w]
              refine v_istore (q := 200) hC dL_areRights_198 rfl (lvc rfl) (Nat.le_of_ble_eq_true rfl) (Nat.le_of_ble_eq_true rfl) rfl ?_
              refine v_iload (q := 202) hC dL_areRights_200 rfl rfl ?_
              refine v_if_lt (q := 219) (q2 := 205) hC dL_areRights_202 (by decide) rfl (fun c_202 => ?_) (fun c_202 => ?_)
              · refine v_iconst (q := 220) (v := 0) hC dL_areRights_219 rfl (by decide) ?_
                refine v_istore (q := 222) hC dL_areRights_220 rfl (lvc rfl) (Nat.le_of_ble_eq_true rfl) (Nat.le_of_ble_eq_true rfl) rfl ?_
                refine v_iload (q := 224) hC dL_areRights_222 rfl rfl ?_
                refine v_iload (q := 226) hC dL_areRights_224 rfl rfl ?_
                refine v_if_eq (q := 253) (q2 := 229) hC dL_areRights_226 (by decide) rfl (fun c_226 => ?_) (fun c_226 => ?_)
                · refine v_iconst (q := 254) (v := 0) hC dL_areRights_253 rfl (by decide) ?_
                  refine v_iadd (q := 255) hC dL_areRights_254 rfl ?_
                  refine v_istore (q := 257) hC dL_areRights_255 rfl (lvc rfl) (Nat.le_of_ble_eq_true rfl) (Nat.le_of_ble_eq_true rfl) rfl ?_
                  exact hC2
                · exact absurd rfl c_226
              · exact absurd (by rw [h2]; decide) c_202
      · have hC2 := C k r (th + 0) true false G' hk hk1 hr4 z hm hB kk
        refine v_iload (q := 154) hC dL_areRights_152 rfl rfl ?_
        refine v_iconst (q := 155) (v := 4) hC dL_areRights_154 rfl (by decide) ?_
        refine v_icmp_ge (q := 398) (q2 := 158) hC dL_areRights_155 (by decide) rfl (fun c_155 => ?_) (fun c_155 => ?_)
        · exact absurd c_155 (by rw [show (4 : Int32) = nI 4 from rfl]; exact nI_ge (by omega) (by omega))
        · refine v_aload_n (i := 2) (q := 159) hC dL_areRights_158 rfl rfl rfl ?_
          refine v_iload (q := 161) hC dL_areRights_159 rfl rfl ?_
          refine v_ialdV (q := 162) hC dL_areRights_161 rfl rfl rfl (i := k) (rfl) (by first | decide | omega) (by decide) (NxR z (by decide) (by decide) (rfl)) ?_
          refine v_bipush (q := 164) (v := (-2)) hC dL_areRights_162 rfl (by decide) ?_
          refine v_icmp_eq (q := 398) (q2 := 167) hC dL_areRights_164 (by decide) rfl (fun c_164 => ?_) (fun c_164 => ?_)
          · exact absurd c_164 hp2
          · refine v_iload (q := 169) hC dL_areRights_167 rfl rfl ?_
            refine v_if_eq (q := 398) (q2 := 172) hC dL_areRights_169 (by decide) rfl (fun c_169 => ?_) (fun c_169 => ?_)
            · exact absurd c_169 (by decide)
            · refine v_aload_n (i := 1) (q := 173) hC dL_areRights_172 rfl rfl rfl ?_
              refine v_aload_n (i := 2) (q := 174) hC dL_areRights_173 rfl rfl rfl ?_
              refine v_aload_n (i := 3) (q := 175) hC dL_areRights_174 rfl rfl rfl ?_
              refine v_iload (q := 177) hC dL_areRights_175 rfl rfl ?_
              refine v_iload (q := 179) hC dL_areRights_177 rfl rfl ?_
              refine v_iload (q := 181) hC dL_areRights_179 rfl rfl ?_
              refine v_callSN (q := 184) (rm := rm_L_allowed) hC (c_L_allowed hl Θ u k r _ (hD3 z) hu12 hk (by rw [z.w]; exact hk1) hr4) k_L_allowed st_yL_allowed ml_RL_192 dL_areRights_181 rfl rfl rfl (Nat.le_of_ble_eq_true rfl) ⟨Nat.le_of_ble_eq_true rfl, Nat.le_of_ble_eq_true rfl⟩ (c1 := 0) (s1 := 0) rfl rfl ⟨show _ + 0 ≤ 640 by omega, show _ + 0 ≤ 3840 by omega⟩ (fR_k ?_) fR_n
              try dsimp only [Option.toList, List.cons_append, List.nil_append]
              rw [z.w, hm]
              refine v_istore (q := 186) hC dL_areRights_184 rfl (lvc rfl) (Nat.le_of_ble_eq_true rfl) (Nat.le_of_ble_eq_true rfl) rfl ?_
              refine v_aload_n (i := 1) (q := 187) hC dL_areRights_186 rfl rfl rfl ?_
              refine v_aload_n (i := 2) (q := 188) hC dL_areRights_187 rfl rfl rfl ?_
              refine v_aload_n (i := 3) (q := 189) hC dL_areRights_188 rfl rfl rfl ?_
              refine v_iload (q := 191) hC dL_areRights_189 rfl rfl ?_
              refine v_iload (q := 193) hC dL_areRights_191 rfl rfl ?_
              refine v_iload (q := 195) hC dL_areRights_193 rfl rfl ?_
              refine v_callSN (q := 198) (rm := rm_L_deciding) hC (c_L_deciding hl Θ u k r _ (hD3 z) hu12 hk (by rw [z.w]; exact hk1)) k_L_deciding st_yL_deciding ml_RL_188 dL_areRights_195 rfl rfl rfl (Nat.le_of_ble_eq_true rfl) ⟨Nat.le_of_ble_eq_true rfl, Nat.le_of_ble_eq_true rfl⟩ (c1 := 0) (s1 := 0) rfl rfl ⟨show _ + 0 ≤ 640 by omega, show _ + 0 ≤ 3840 by omega⟩ (fR_k ?_) fR_n
              try dsimp only [Option.toList, List.cons_append, List.nil_append]
              rw [z.w]
              refine v_istore (q := 200) hC dL_areRights_198 rfl (lvc rfl) (Nat.le_of_ble_eq_true rfl) (Nat.le_of_ble_eq_true rfl) rfl ?_
              refine v_iload (q := 202) hC dL_areRights_200 rfl rfl ?_
              refine v_if_lt (q := 219) (q2 := 205) hC dL_areRights_202 (by decide) rfl (fun c_202 => ?_) (fun c_202 => ?_)
              · refine v_iconst (q := 220) (v := 0) hC dL_areRights_219 rfl (by decide) ?_
                refine v_istore (q := 222) hC dL_areRights_220 rfl (lvc rfl) (Nat.le_of_ble_eq_true rfl) (Nat.le_of_ble_eq_true rfl) rfl ?_
                refine v_iload (q := 224) hC dL_areRights_222 rfl rfl ?_
                refine v_iload (q := 226) hC dL_areRights_224 rfl rfl ?_
                refine v_if_eq (q := 253) (q2 := 229) hC dL_areRights_226 (by decide) rfl (fun c_226 => ?_) (fun c_226 => ?_)
                · exact absurd c_226 (by decide)
                · refine v_iload (q := 231) hC dL_areRights_229 rfl rfl ?_
                  refine v_if_eq (q := 253) (q2 := 234) hC dL_areRights_231 (by decide) rfl (fun c_231 => ?_) (fun c_231 => ?_)
                  · refine v_iconst (q := 254) (v := 0) hC dL_areRights_253 rfl (by decide) ?_
                    refine v_iadd (q := 255) hC dL_areRights_254 rfl ?_
                    refine v_istore (q := 257) hC dL_areRights_255 rfl (lvc rfl) (Nat.le_of_ble_eq_true rfl) (Nat.le_of_ble_eq_true rfl) rfl ?_
                    exact hC2
                  · exact absurd rfl c_231
              · exact absurd (by rw [h2]; decide) c_202
    · have hl1 := hD.th h2 h4
      have hl10 := hD.lt h2 hl1
      have hlc := hD.ce hl10 hl1 h4
      obtain ⟨kd, n, r4, a, b, ⟨hkd, hn, hr5⟩, ev, ⟨e5, e6, e7⟩, e8, e9⟩ := hlc
      obtain ⟨-, -, ⟨-, d6⟩, d7⟩ := lCode_d kd hkd n hn r4 hr5 a b
      have hB : mByL (G.2.1 0 30) (nI u) k (nI r) = a := by
        unfold mByL
        rw [h5, if_neg (nI_pos (by omega)), nI_clamp (by omega), show (6 * li + i) / 6 = li by omega, show (6 * li + i) % 6 = i by omega, e8]
        exact dec_b2i a
      have hT : mTh (G.2.1 0 30) (nI u) k (nI r) (nI g) = (mAl (G.2.1 0 30) (nI u) k (nI r) && (a && decide (nI (16 * kd + n) = 16 + nI g))) := by
        unfold mTh
        rw [h5, decide_eq_false (nI_pos (by omega)), nI_clamp (by omega), show (6 * li + i) / 6 = li by omega, show (6 * li + i) % 6 = i by omega, e8, e5, e6, dec_b2i, Bool.not_false, Bool.true_and]
        refine congrArg _ (congrArg _ ?_)
        rw [show (16 : Int32) + nI g = nI (16 + g) from nI_add 16 g]
        refine Bool.eq_iff_iff.mpr ?_
        rw [Bool.and_eq_true, decide_eq_true_eq, decide_eq_true_eq, decide_eq_true_eq, show (1 : Int32) = nI 1 from rfl, nI_eq (by omega) (by omega), nI_eq (by omega) (by omega), nI_eq (by omega) (by omega)]
        omega
      cases hm : mAl (G.2.1 0 30) (nI u) k (nI r)
      · rw [hm, Bool.false_and] at hT
        rw [hT, if_neg (by decide)] at kk
        have hC2 := fun yes => C k r (th + 0) false yes G' hk hk1 hr4 z hm
        refine v_iload (q := 154) hC dL_areRights_152 rfl rfl ?_
        refine v_iconst (q := 155) (v := 4) hC dL_areRights_154 rfl (by decide) ?_
        refine v_icmp_ge (q := 398) (q2 := 158) hC dL_areRights_155 (by decide) rfl (fun c_155 => ?_) (fun c_155 => ?_)
        · exact absurd c_155 (by rw [show (4 : Int32) = nI 4 from rfl]; exact nI_ge (by omega) (by omega))
        · refine v_aload_n (i := 2) (q := 159) hC dL_areRights_158 rfl rfl rfl ?_
          refine v_iload (q := 161) hC dL_areRights_159 rfl rfl ?_
          refine v_ialdV (q := 162) hC dL_areRights_161 rfl rfl rfl (i := k) (rfl) (by first | decide | omega) (by decide) (NxR z (by decide) (by decide) (rfl)) ?_
          refine v_bipush (q := 164) (v := (-2)) hC dL_areRights_162 rfl (by decide) ?_
          refine v_icmp_eq (q := 398) (q2 := 167) hC dL_areRights_164 (by decide) rfl (fun c_164 => ?_) (fun c_164 => ?_)
          · exact absurd c_164 hp2
          · refine v_iload (q := 169) hC dL_areRights_167 rfl rfl ?_
            refine v_if_eq (q := 398) (q2 := 172) hC dL_areRights_169 (by decide) rfl (fun c_169 => ?_) (fun c_169 => ?_)
            · exact absurd c_169 (by decide)
            · refine v_aload_n (i := 1) (q := 173) hC dL_areRights_172 rfl rfl rfl ?_
              refine v_aload_n (i := 2) (q := 174) hC dL_areRights_173 rfl rfl rfl ?_
              refine v_aload_n (i := 3) (q := 175) hC dL_areRights_174 rfl rfl rfl ?_
              refine v_iload (q := 177) hC dL_areRights_175 rfl rfl ?_
              refine v_iload (q := 179) hC dL_areRights_177 rfl rfl ?_
              refine v_iload (q := 181) hC dL_areRights_179 rfl rfl ?_
              refine v_callSN (q := 184) (rm := rm_L_allowed) hC (c_L_allowed hl Θ u k r _ (hD3 z) hu12 hk (by rw [z.w]; exact hk1) hr4) k_L_allowed st_yL_allowed ml_RL_192 dL_areRights_181 rfl rfl rfl (Nat.le_of_ble_eq_true rfl) ⟨Nat.le_of_ble_eq_true rfl, Nat.le_of_ble_eq_true rfl⟩ (c1 := 0) (s1 := 0) rfl rfl ⟨show _ + 0 ≤ 640 by omega, show _ + 0 ≤ 3840 by omega⟩ (fR_k ?_) fR_n
              try dsimp only [Option.toList, List.cons_append, List.nil_append]
              rw [z.w, hm]
              refine v_istore (q := 186) hC dL_areRights_184 rfl (lvc rfl) (Nat.le_of_ble_eq_true rfl) (Nat.le_of_ble_eq_true rfl) rfl ?_
              refine v_aload_n (i := 1) (q := 187) hC dL_areRights_186 rfl rfl rfl ?_
              refine v_aload_n (i := 2) (q := 188) hC dL_areRights_187 rfl rfl rfl ?_
              refine v_aload_n (i := 3) (q := 189) hC dL_areRights_188 rfl rfl rfl ?_
              refine v_iload (q := 191) hC dL_areRights_189 rfl rfl ?_
              refine v_iload (q := 193) hC dL_areRights_191 rfl rfl ?_
              refine v_iload (q := 195) hC dL_areRights_193 rfl rfl ?_
              refine v_callSN (q := 198) (rm := rm_L_deciding) hC (c_L_deciding hl Θ u k r _ (hD3 z) hu12 hk (by rw [z.w]; exact hk1)) k_L_deciding st_yL_deciding ml_RL_188 dL_areRights_195 rfl rfl rfl (Nat.le_of_ble_eq_true rfl) ⟨Nat.le_of_ble_eq_true rfl, Nat.le_of_ble_eq_true rfl⟩ (c1 := 0) (s1 := 0) rfl rfl ⟨show _ + 0 ≤ 640 by omega, show _ + 0 ≤ 3840 by omega⟩ (fR_k ?_) fR_n
              try dsimp only [Option.toList, List.cons_append, List.nil_append]
              rw [z.w]
              refine v_istore (q := 200) hC dL_areRights_198 rfl (lvc rfl) (Nat.le_of_ble_eq_true rfl) (Nat.le_of_ble_eq_true rfl) rfl ?_
              refine v_iload (q := 202) hC dL_areRights_200 rfl rfl ?_
              refine v_if_lt (q := 219) (q2 := 205) hC dL_areRights_202 (by decide) rfl (fun c_202 => ?_) (fun c_202 => ?_)
              · exact absurd c_202 (by rw [h5]; exact nI_pos (by omega))
              · refine v_aload_n (i := 3) (q := 206) hC dL_areRights_205 rfl rfl rfl ?_
                refine v_iload (q := 208) hC dL_areRights_206 rfl rfl ?_
                refine v_ialdV (q := 209) hC dL_areRights_208 rfl rfl rfl (i := 6 * li + i) (h5) (by first | decide | omega) (by decide) (NxR z (by decide) (by decide) (ev)) ?_
                refine v_iconst (q := 210) (v := 2) hC dL_areRights_209 rfl (by decide) ?_
                refine v_iand (q := 211) hC dL_areRights_210 rfl ?_
                refine v_iconst (q := 212) (v := 2) hC dL_areRights_211 rfl (by decide) ?_
                refine v_icmp_ne (q := 219) (q2 := 215) hC dL_areRights_212 (by decide) rfl (fun c_212 => ?_) (fun c_212 => ?_)
                · refine v_iconst (q := 220) (v := 0) hC dL_areRights_219 rfl (by decide) ?_
                  refine v_istore (q := 222) hC dL_areRights_220 rfl (lvc rfl) (Nat.le_of_ble_eq_true rfl) (Nat.le_of_ble_eq_true rfl) rfl ?_
                  refine v_iload (q := 224) hC dL_areRights_222 rfl rfl ?_
                  refine v_iload (q := 226) hC dL_areRights_224 rfl rfl ?_
                  refine v_if_eq (q := 253) (q2 := 229) hC dL_areRights_226 (by decide) rfl (fun c_226 => ?_) (fun c_226 => ?_)
                  · refine v_iconst (q := 254) (v := 0) hC dL_areRights_253 rfl (by decide) ?_
                    refine v_iadd (q := 255) hC dL_areRights_254 rfl ?_
                    refine v_istore (q := 257) hC dL_areRights_255 rfl (lvc rfl) (Nat.le_of_ble_eq_true rfl) (Nat.le_of_ble_eq_true rfl) rfl ?_
                    first | exact hC2 true (hB.trans (d6.mp c_212)) kk | exact hC2 false (hB.trans (Bool.eq_false_iff.mpr fun q => c_212 (d6.mpr q))) kk
                  · exact absurd rfl c_226
                · refine v_iconst (q := 216) (v := 1) hC dL_areRights_215 rfl (by decide) ?_
                  refine v_goto (q := 220) hC dL_areRights_216 (by decide) ?_
                  refine v_istore (q := 222) hC dL_areRights_220 rfl (lvc rfl) (Nat.le_of_ble_eq_true rfl) (Nat.le_of_ble_eq_true rfl) rfl ?_
                  refine v_iload (q := 224) hC dL_areRights_222 rfl rfl ?_
                  refine v_iload (q := 226) hC dL_areRights_224 rfl rfl ?_
                  refine v_if_eq (q := 253) (q2 := 229) hC dL_areRights_226 (by decide) rfl (fun c_226 => ?_) (fun c_226 => ?_)
                  · refine v_iconst (q := 254) (v := 0) hC dL_areRights_253 rfl (by decide) ?_
                    refine v_iadd (q := 255) hC dL_areRights_254 rfl ?_
                    refine v_istore (q := 257) hC dL_areRights_255 rfl (lvc rfl) (Nat.le_of_ble_eq_true rfl) (Nat.le_of_ble_eq_true rfl) rfl ?_
                    first | exact hC2 true (hB.trans (d6.mp c_212)) kk | exact hC2 false (hB.trans (Bool.eq_false_iff.mpr fun q => c_212 (d6.mpr q))) kk
                  · exact absurd rfl c_226
      · rw [hm, Bool.true_and] at hT
        rw [hT] at kk
        have hC2 := fun yes th => C k r th true yes G' hk hk1 hr4 z hm
        refine v_iload (q := 154) hC dL_areRights_152 rfl rfl ?_
        refine v_iconst (q := 155) (v := 4) hC dL_areRights_154 rfl (by decide) ?_
        refine v_icmp_ge (q := 398) (q2 := 158) hC dL_areRights_155 (by decide) rfl (fun c_155 => ?_) (fun c_155 => ?_)
        · exact absurd c_155 (by rw [show (4 : Int32) = nI 4 from rfl]; exact nI_ge (by omega) (by omega))
        · refine v_aload_n (i := 2) (q := 159) hC dL_areRights_158 rfl rfl rfl ?_
          refine v_iload (q := 161) hC dL_areRights_159 rfl rfl ?_
          refine v_ialdV (q := 162) hC dL_areRights_161 rfl rfl rfl (i := k) (rfl) (by first | decide | omega) (by decide) (NxR z (by decide) (by decide) (rfl)) ?_
          refine v_bipush (q := 164) (v := (-2)) hC dL_areRights_162 rfl (by decide) ?_
          refine v_icmp_eq (q := 398) (q2 := 167) hC dL_areRights_164 (by decide) rfl (fun c_164 => ?_) (fun c_164 => ?_)
          · exact absurd c_164 hp2
          · refine v_iload (q := 169) hC dL_areRights_167 rfl rfl ?_
            refine v_if_eq (q := 398) (q2 := 172) hC dL_areRights_169 (by decide) rfl (fun c_169 => ?_) (fun c_169 => ?_)
            · exact absurd c_169 (by decide)
            · refine v_aload_n (i := 1) (q := 173) hC dL_areRights_172 rfl rfl rfl ?_
              refine v_aload_n (i := 2) (q := 174) hC dL_areRights_173 rfl rfl rfl ?_
              refine v_aload_n (i := 3) (q := 175) hC dL_areRights_174 rfl rfl rfl ?_
              refine v_iload (q := 177) hC dL_areRights_175 rfl rfl ?_
              refine v_iload (q := 179) hC dL_areRights_177 rfl rfl ?_
              refine v_iload (q := 181) hC dL_areRights_179 rfl rfl ?_
              refine v_callSN (q := 184) (rm := rm_L_allowed) hC (c_L_allowed hl Θ u k r _ (hD3 z) hu12 hk (by rw [z.w]; exact hk1) hr4) k_L_allowed st_yL_allowed ml_RL_192 dL_areRights_181 rfl rfl rfl (Nat.le_of_ble_eq_true rfl) ⟨Nat.le_of_ble_eq_true rfl, Nat.le_of_ble_eq_true rfl⟩ (c1 := 0) (s1 := 0) rfl rfl ⟨show _ + 0 ≤ 640 by omega, show _ + 0 ≤ 3840 by omega⟩ (fR_k ?_) fR_n
              try dsimp only [Option.toList, List.cons_append, List.nil_append]
              rw [z.w, hm]
              refine v_istore (q := 186) hC dL_areRights_184 rfl (lvc rfl) (Nat.le_of_ble_eq_true rfl) (Nat.le_of_ble_eq_true rfl) rfl ?_
              refine v_aload_n (i := 1) (q := 187) hC dL_areRights_186 rfl rfl rfl ?_
              refine v_aload_n (i := 2) (q := 188) hC dL_areRights_187 rfl rfl rfl ?_
              refine v_aload_n (i := 3) (q := 189) hC dL_areRights_188 rfl rfl rfl ?_
              refine v_iload (q := 191) hC dL_areRights_189 rfl rfl ?_
              refine v_iload (q := 193) hC dL_areRights_191 rfl rfl ?_
              refine v_iload (q := 195) hC dL_areRights_193 rfl rfl ?_
              refine v_callSN (q := 198) (rm := rm_L_deciding) hC (c_L_deciding hl Θ u k r _ (hD3 z) hu12 hk (by rw [z.w]; exact hk1)) k_L_deciding st_yL_deciding ml_RL_188 dL_areRights_195 rfl rfl rfl (Nat.le_of_ble_eq_true rfl) ⟨Nat.le_of_ble_eq_true rfl, Nat.le_of_ble_eq_true rfl⟩ (c1 := 0) (s1 := 0) rfl rfl ⟨show _ + 0 ≤ 640 by omega, show _ + 0 ≤ 3840 by omega⟩ (fR_k ?_) fR_n
              try dsimp only [Option.toList, List.cons_append, List.nil_append]
              rw [z.w]
              refine v_istore (q := 200) hC dL_areRights_198 rfl (lvc rfl) (Nat.le_of_ble_eq_true rfl) (Nat.le_of_ble_eq_true rfl) rfl ?_
              refine v_iload (q := 202) hC dL_areRights_200 rfl rfl ?_
              refine v_if_lt (q := 219) (q2 := 205) hC dL_areRights_202 (by decide) rfl (fun c_202 => ?_) (fun c_202 => ?_)
              · exact absurd c_202 (by rw [h5]; exact nI_pos (by omega))
              · refine v_aload_n (i := 3) (q := 206) hC dL_areRights_205 rfl rfl rfl ?_
                refine v_iload (q := 208) hC dL_areRights_206 rfl rfl ?_
                refine v_ialdV (q := 209) hC dL_areRights_208 rfl rfl rfl (i := 6 * li + i) (h5) (by first | decide | omega) (by decide) (NxR z (by decide) (by decide) (ev)) ?_
                refine v_iconst (q := 210) (v := 2) hC dL_areRights_209 rfl (by decide) ?_
                refine v_iand (q := 211) hC dL_areRights_210 rfl ?_
                refine v_iconst (q := 212) (v := 2) hC dL_areRights_211 rfl (by decide) ?_
                refine v_icmp_ne (q := 219) (q2 := 215) hC dL_areRights_212 (by decide) rfl (fun c_212 => ?_) (fun c_212 => ?_)
                · refine v_iconst (q := 220) (v := 0) hC dL_areRights_219 rfl (by decide) ?_
                  refine v_istore (q := 222) hC dL_areRights_220 rfl (lvc rfl) (Nat.le_of_ble_eq_true rfl) (Nat.le_of_ble_eq_true rfl) rfl ?_
                  refine v_iload (q := 224) hC dL_areRights_222 rfl rfl ?_
                  refine v_iload (q := 226) hC dL_areRights_224 rfl rfl ?_
                  refine v_if_eq (q := 253) (q2 := 229) hC dL_areRights_226 (by decide) rfl (fun c_226 => ?_) (fun c_226 => ?_)
                  · exact absurd c_226 (by decide)
                  · refine v_iload (q := 231) hC dL_areRights_229 rfl rfl ?_
                    refine v_if_eq (q := 253) (q2 := 234) hC dL_areRights_231 (by decide) rfl (fun c_231 => ?_) (fun c_231 => ?_)
                    · first
                      | exact absurd c_231 (by decide)
                      |
                        refine v_iconst (q := 254) (v := 0) hC dL_areRights_253 rfl (by decide) ?_
                        refine v_iadd (q := 255) hC dL_areRights_254 rfl ?_
                        refine v_istore (q := 257) hC dL_areRights_255 rfl (lvc rfl) (Nat.le_of_ble_eq_true rfl) (Nat.le_of_ble_eq_true rfl) rfl ?_
                        first
                        | (rw [d6.mp c_212, Bool.true_and, decide_eq_true c_246, if_pos rfl] at kk
                           exact hC2 true _ (hB.trans (d6.mp c_212)) kk)
                        | (rw [d6.mp c_212, Bool.true_and, decide_eq_false c_246, if_neg (by decide)] at kk
                           exact hC2 true _ (hB.trans (d6.mp c_212)) kk)
                        | (rw [Bool.eq_false_iff.mpr fun q => c_212 (d6.mpr q), Bool.false_and, if_neg (by decide)] at kk
                           exact hC2 false _ (hB.trans (Bool.eq_false_iff.mpr fun q => c_212 (d6.mpr q))) kk)
                    · first
                      | exact absurd c_231 (by decide)
                      |
                        refine v_aload_n (i := 3) (q := 235) hC dL_areRights_234 rfl rfl rfl ?_
                        refine v_iload (q := 237) hC dL_areRights_235 rfl rfl ?_
                        refine v_ialdV (q := 238) hC dL_areRights_237 rfl rfl rfl (i := 6 * li + i) (h5) (by first | decide | omega) (by decide) (NxR z (by decide) (by decide) (ev)) ?_
                        refine v_bipush (q := 240) (v := 6) hC dL_areRights_238 rfl (by decide) ?_
                        refine v_ishr (q := 241) hC dL_areRights_240 rfl ?_
                        rw [d7]
                        refine v_bipush (q := 243) (v := 16) hC dL_areRights_241 rfl (by decide) ?_
                        refine v_iload (q := 245) hC dL_areRights_243 rfl rfl ?_
                        refine v_iadd (q := 246) hC dL_areRights_245 rfl ?_
                        refine v_icmp_ne (q := 253) (q2 := 249) hC dL_areRights_246 (by decide) rfl (fun c_246 => ?_) (fun c_246 => ?_)
                        · refine v_iconst (q := 254) (v := 0) hC dL_areRights_253 rfl (by decide) ?_
                          refine v_iadd (q := 255) hC dL_areRights_254 rfl ?_
                          refine v_istore (q := 257) hC dL_areRights_255 rfl (lvc rfl) (Nat.le_of_ble_eq_true rfl) (Nat.le_of_ble_eq_true rfl) rfl ?_
                          first
                          | (rw [d6.mp c_212, Bool.true_and, decide_eq_true c_246, if_pos rfl] at kk
                             exact hC2 true _ (hB.trans (d6.mp c_212)) kk)
                          | (rw [d6.mp c_212, Bool.true_and, decide_eq_false c_246, if_neg (by decide)] at kk
                             exact hC2 true _ (hB.trans (d6.mp c_212)) kk)
                          | (rw [Bool.eq_false_iff.mpr fun q => c_212 (d6.mpr q), Bool.false_and, if_neg (by decide)] at kk
                             exact hC2 false _ (hB.trans (Bool.eq_false_iff.mpr fun q => c_212 (d6.mpr q))) kk)
                        · refine v_iconst (q := 250) (v := 1) hC dL_areRights_249 rfl (by decide) ?_
                          refine v_goto (q := 254) hC dL_areRights_250 (by decide) ?_
                          refine v_iadd (q := 255) hC dL_areRights_254 rfl ?_
                          refine v_istore (q := 257) hC dL_areRights_255 rfl (lvc rfl) (Nat.le_of_ble_eq_true rfl) (Nat.le_of_ble_eq_true rfl) rfl ?_
                          first
                          | (rw [d6.mp c_212, Bool.true_and, decide_eq_true c_246, if_pos rfl] at kk
                             exact hC2 true _ (hB.trans (d6.mp c_212)) kk)
                          | (rw [d6.mp c_212, Bool.true_and, decide_eq_false c_246, if_neg (by decide)] at kk
                             exact hC2 true _ (hB.trans (d6.mp c_212)) kk)
                          | (rw [Bool.eq_false_iff.mpr fun q => c_212 (d6.mpr q), Bool.false_and, if_neg (by decide)] at kk
                             exact hC2 false _ (hB.trans (Bool.eq_false_iff.mpr fun q => c_212 (d6.mpr q))) kk)
                · refine v_iconst (q := 216) (v := 1) hC dL_areRights_215 rfl (by decide) ?_
                  refine v_goto (q := 220) hC dL_areRights_216 (by decide) ?_
                  refine v_istore (q := 222) hC dL_areRights_220 rfl (lvc rfl) (Nat.le_of_ble_eq_true rfl) (Nat.le_of_ble_eq_true rfl) rfl ?_
                  refine v_iload (q := 224) hC dL_areRights_222 rfl rfl ?_
                  refine v_iload (q := 226) hC dL_areRights_224 rfl rfl ?_
                  refine v_if_eq (q := 253) (q2 := 229) hC dL_areRights_226 (by decide) rfl (fun c_226 => ?_) (fun c_226 => ?_)
                  · exact absurd c_226 (by decide)
                  · refine v_iload (q := 231) hC dL_areRights_229 rfl rfl ?_
                    refine v_if_eq (q := 253) (q2 := 234) hC dL_areRights_231 (by decide) rfl (fun c_231 => ?_) (fun c_231 => ?_)
                    · first
                      | exact absurd c_231 (by decide)
                      |
                        refine v_iconst (q := 254) (v := 0) hC dL_areRights_253 rfl (by decide) ?_
                        refine v_iadd (q := 255) hC dL_areRights_254 rfl ?_
                        refine v_istore (q := 257) hC dL_areRights_255 rfl (lvc rfl) (Nat.le_of_ble_eq_true rfl) (Nat.le_of_ble_eq_true rfl) rfl ?_
                        first
                        | (rw [d6.mp c_212, Bool.true_and, decide_eq_true c_246, if_pos rfl] at kk
                           exact hC2 true _ (hB.trans (d6.mp c_212)) kk)
                        | (rw [d6.mp c_212, Bool.true_and, decide_eq_false c_246, if_neg (by decide)] at kk
                           exact hC2 true _ (hB.trans (d6.mp c_212)) kk)
                        | (rw [Bool.eq_false_iff.mpr fun q => c_212 (d6.mpr q), Bool.false_and, if_neg (by decide)] at kk
                           exact hC2 false _ (hB.trans (Bool.eq_false_iff.mpr fun q => c_212 (d6.mpr q))) kk)
                    · first
                      | exact absurd c_231 (by decide)
                      |
                        refine v_aload_n (i := 3) (q := 235) hC dL_areRights_234 rfl rfl rfl ?_
                        refine v_iload (q := 237) hC dL_areRights_235 rfl rfl ?_
                        refine v_ialdV (q := 238) hC dL_areRights_237 rfl rfl rfl (i := 6 * li + i) (h5) (by first | decide | omega) (by decide) (NxR z (by decide) (by decide) (ev)) ?_
                        refine v_bipush (q := 240) (v := 6) hC dL_areRights_238 rfl (by decide) ?_
                        refine v_ishr (q := 241) hC dL_areRights_240 rfl ?_
                        rw [d7]
                        refine v_bipush (q := 243) (v := 16) hC dL_areRights_241 rfl (by decide) ?_
                        refine v_iload (q := 245) hC dL_areRights_243 rfl rfl ?_
                        refine v_iadd (q := 246) hC dL_areRights_245 rfl ?_
                        refine v_icmp_ne (q := 253) (q2 := 249) hC dL_areRights_246 (by decide) rfl (fun c_246 => ?_) (fun c_246 => ?_)
                        · refine v_iconst (q := 254) (v := 0) hC dL_areRights_253 rfl (by decide) ?_
                          refine v_iadd (q := 255) hC dL_areRights_254 rfl ?_
                          refine v_istore (q := 257) hC dL_areRights_255 rfl (lvc rfl) (Nat.le_of_ble_eq_true rfl) (Nat.le_of_ble_eq_true rfl) rfl ?_
                          first
                          | (rw [d6.mp c_212, Bool.true_and, decide_eq_true c_246, if_pos rfl] at kk
                             exact hC2 true _ (hB.trans (d6.mp c_212)) kk)
                          | (rw [d6.mp c_212, Bool.true_and, decide_eq_false c_246, if_neg (by decide)] at kk
                             exact hC2 true _ (hB.trans (d6.mp c_212)) kk)
                          | (rw [Bool.eq_false_iff.mpr fun q => c_212 (d6.mpr q), Bool.false_and, if_neg (by decide)] at kk
                             exact hC2 false _ (hB.trans (Bool.eq_false_iff.mpr fun q => c_212 (d6.mpr q))) kk)
                        · refine v_iconst (q := 250) (v := 1) hC dL_areRights_249 rfl (by decide) ?_
                          refine v_goto (q := 254) hC dL_areRights_250 (by decide) ?_
                          refine v_iadd (q := 255) hC dL_areRights_254 rfl ?_
                          refine v_istore (q := 257) hC dL_areRights_255 rfl (lvc rfl) (Nat.le_of_ble_eq_true rfl) (Nat.le_of_ble_eq_true rfl) rfl ?_
                          first
                          | (rw [d6.mp c_212, Bool.true_and, decide_eq_true c_246, if_pos rfl] at kk
                             exact hC2 true _ (hB.trans (d6.mp c_212)) kk)
                          | (rw [d6.mp c_212, Bool.true_and, decide_eq_false c_246, if_neg (by decide)] at kk
                             exact hC2 true _ (hB.trans (d6.mp c_212)) kk)
                          | (rw [Bool.eq_false_iff.mpr fun q => c_212 (d6.mpr q), Bool.false_and, if_neg (by decide)] at kk
                             exact hC2 false _ (hB.trans (Bool.eq_false_iff.mpr fun q => c_212 (d6.mpr q))) kk)
  -- the rights at one object that is there
  have L2 : ∀ (k : Nat), k < 10 → G.2.1 0 30 (oA k 0) = 1 → (∀ (G2 : GS) (th : Int32), Nx G G2 t → mTr (G.2.1 0 30) (nI u) (nI g) (80 - (4 * k + 4)) (4 * k + 4) th = mTr (G.2.1 0 30) (nI u) (nI g) 80 0 0 → V p l e rm_L_areRights s m args below meth c 14 Θ (rQ G t 1) 640 3840 (13 + 62 * k + 62) (78 + 372 * k + 372) 77 [some (.ref (tR Θ 0 14)), some (.ref (tR Θ 0 40)), some (.ref (tR Θ 0 41)), some (.ref (tR Θ 0 42)), some (.ref (tR Θ 0 44)), some (.int (nI u)), some (.int (nI g)), some (.int 1), some (.int th), some (.int (nI (k + 1))), some (.int 4), none, none, none] [] (G2)) → ∀ (n r : Nat) (th : Int32) (G' : GS), n + r = 4 → Nx G G' t → mTr (G.2.1 0 30) (nI u) (nI g) (80 - (4 * k + r)) (4 * k + r) th = mTr (G.2.1 0 30) (nI u) (nI g) 80 0 0 → V p l e rm_L_areRights s m args below meth c 14 Θ (rQ G t 1) 640 3840 (13 + 62 * k + 2 + 15 * r) (78 + 372 * k + 12 + 90 * r) 152 [some (.ref (tR Θ 0 14)), some (.ref (tR Θ 0 40)), some (.ref (tR Θ 0 41)), some (.ref (tR Θ 0 42)), some (.ref (tR Θ 0 44)), some (.int (nI u)), some (.int (nI g)), some (.int 1), some (.int th), some (.int (nI k)), some (.int (nI r)), none, none, none] [] (G') := by
    intro k hk hk1 kk n
    induction n with
    | zero =>
      intro r th G' h1 z h2
      have hr : r = 4 := by omega
      subst hr
      refine v_iload (q := 154) hC dL_areRights_152 rfl rfl ?_
      refine v_iconst (q := 155) (v := 4) hC dL_areRights_154 rfl (by decide) ?_
      refine v_icmp_ge (q := 398) (q2 := 158) hC dL_areRights_155 (by decide) rfl (fun c_155 => ?_) (fun c_155 => ?_)
      · refine v_iinc (q := 401) (v := nI (k + 1)) hC dL_areRights_398 rfl rfl (nI_1 k) (lvc rfl) (Nat.le_of_ble_eq_true rfl) (Nat.le_of_ble_eq_true rfl) rfl ?_
        refine v_goto (q := 77) hC dL_areRights_401 (by decide) ?_
        exact v_widen (by omega) (by omega) (kk _ _ z h2)
      · exact absurd (by decide) c_155
    | succ n ih =>
      intro r th G' h1 z h2
      refine S k r th G' hk hk1 (by omega) z (fun G2 z2 => v_widen (by omega) (by omega) (ih (r + 1) _ G2 (by omega) z2 ?_))
      rw [← h2, show 80 - (4 * k + r) = (80 - (4 * k + (r + 1))) + 1 by omega, mTr, show (4 * k + r) / 4 = k by omega, show (4 * k + r) % 4 = r by omega]
      rfl
  have L : ∀ (n k : Nat) (th : Int32) (x10 : Option Value) (G' : GS), n + k = 10 → Nx G G' t → mTr (G.2.1 0 30) (nI u) (nI g) (80 - 4 * k) (4 * k) th = mTr (G.2.1 0 30) (nI u) (nI g) 80 0 0 → V p l e rm_L_areRights s m args below meth c 14 Θ (rQ G t 1) 640 3840 (13 + 62 * k) (78 + 372 * k) 77 [some (.ref (tR Θ 0 14)), some (.ref (tR Θ 0 40)), some (.ref (tR Θ 0 41)), some (.ref (tR Θ 0 42)), some (.ref (tR Θ 0 44)), some (.int (nI u)), some (.int (nI g)), some (.int 1), some (.int th), some (.int (nI k)), x10, none, none, none] [] (G') := by
    intro n
    induction n with
    | zero =>
      intro k th x10 G' h1 z h2
      have hk : k = 10 := by omega
      subst hk
      rw [mTr_tail hn20 _ _ _ _ _ (by omega) (by omega)] at h2
      subst h2
      have eg : (nI g).toNatClampNeg = g := nI_clamp (by omega)
      by_cases hgg : g < mGs (G.2.1 0 30)
      · refine v_iload (q := 79) hC dL_areRights_77 rfl rfl ?_
        refine v_bipush (q := 81) (v := 10) hC dL_areRights_79 rfl (by decide) ?_
        refine v_icmp_ge (q := 404) (q2 := 84) hC dL_areRights_81 (by decide) rfl (fun c_81 => ?_) (fun c_81 => ?_)
        · refine v_iload (q := 406) hC dL_areRights_404 rfl rfl ?_
          refine v_if_eq (q := 440) (q2 := 409) hC dL_areRights_406 (by decide) rfl (fun c_406 => ?_) (fun c_406 => ?_)
          · exact absurd c_406 (by decide)
          · refine v_aload_n (i := 0) (q := 410) hC dL_areRights_409 rfl rfl rfl ?_
            refine v_iload (q := 412) hC dL_areRights_410 rfl rfl ?_
            refine v_iload (q := 414) hC dL_areRights_412 rfl rfl ?_
            refine v_callR (q := 417) (rm := rm_L_rightsThroughOf) hC ((r_rightsThrough hl Θ z ht (nI u) (nI g)).v (v2 := mTr (G.2.1 0 30) (nI u) (nI g) 80 0 0) (by rw [muu, hD.mG (by omega), decide_eq_true hgg, if_pos (by decide), gI])) kh_L_rightsThroughOf ml_RL_290 dL_areRights_414 rfl rfl rfl (Nat.le_of_ble_eq_true rfl) ⟨Nat.le_of_ble_eq_true rfl, Nat.le_of_ble_eq_true rfl⟩ (c1 := 2) (s1 := 12) rfl rfl ⟨show _ + 2 ≤ 640 by omega, show _ + 12 ≤ 3840 by omega⟩ (rQ_k (fun G_414 z_414 => ?_)) rQ_n
            try dsimp only [Option.toList, List.cons_append, List.nil_append]
            refine v_iload (q := 419) hC dL_areRights_417 rfl rfl ?_
            refine v_aload (q := 421) hC dL_areRights_419 rfl rfl ?_
            refine v_iconst (q := 422) (v := 1) hC dL_areRights_421 rfl (by decide) ?_
            refine v_ialdV (q := 423) hC dL_areRights_422 rfl rfl rfl (i := 1) (rfl) (by first | decide | omega) (by decide) (NxR z_414 (by decide) (by decide) (e1)) ?_
            refine v_icmp_ge (q := 431) (q2 := 426) hC dL_areRights_423 (by decide) rfl (fun c_423 => ?_) (fun c_423 => ?_)
            · exact absurd c_423 (nI_ge hgg (by omega))
            · refine v_iload (q := 428) hC dL_areRights_426 rfl rfl ?_
              refine v_goto (q := 433) hC dL_areRights_428 (by decide) ?_
              refine v_icmp_ne (q := 440) (q2 := 436) hC dL_areRights_433 (by decide) rfl (fun c_433 => ?_) (fun c_433 => ?_)
              · exact absurd rfl c_433
              · refine v_iconst (q := 437) (v := 1) hC dL_areRights_436 rfl (by decide) ?_
                refine v_goto (q := 441) hC dL_areRights_437 (by decide) ?_
                refine v_iret hC dL_areRights_441 hr (rfl) ?_ (show _ ≤ 640 by omega) (show _ ≤ 3840 by omega)
                exact ⟨rfl, z_414⟩
        · exact absurd (by decide) c_81
      · refine v_iload (q := 79) hC dL_areRights_77 rfl rfl ?_
        refine v_bipush (q := 81) (v := 10) hC dL_areRights_79 rfl (by decide) ?_
        refine v_icmp_ge (q := 404) (q2 := 84) hC dL_areRights_81 (by decide) rfl (fun c_81 => ?_) (fun c_81 => ?_)
        · refine v_iload (q := 406) hC dL_areRights_404 rfl rfl ?_
          refine v_if_eq (q := 440) (q2 := 409) hC dL_areRights_406 (by decide) rfl (fun c_406 => ?_) (fun c_406 => ?_)
          · exact absurd c_406 (by decide)
          · refine v_aload_n (i := 0) (q := 410) hC dL_areRights_409 rfl rfl rfl ?_
            refine v_iload (q := 412) hC dL_areRights_410 rfl rfl ?_
            refine v_iload (q := 414) hC dL_areRights_412 rfl rfl ?_
            refine v_callR (q := 417) (rm := rm_L_rightsThroughOf) hC ((r_rightsThrough hl Θ z ht (nI u) (nI g)).v (v2 := -101) (by rw [muu, hD.mG (by omega), decide_eq_false hgg, if_neg (by decide)])) kh_L_rightsThroughOf ml_RL_290 dL_areRights_414 rfl rfl rfl (Nat.le_of_ble_eq_true rfl) ⟨Nat.le_of_ble_eq_true rfl, Nat.le_of_ble_eq_true rfl⟩ (c1 := 2) (s1 := 12) rfl rfl ⟨show _ + 2 ≤ 640 by omega, show _ + 12 ≤ 3840 by omega⟩ (rQ_k (fun G_414 z_414 => ?_)) rQ_n
            try dsimp only [Option.toList, List.cons_append, List.nil_append]
            refine v_iload (q := 419) hC dL_areRights_417 rfl rfl ?_
            refine v_aload (q := 421) hC dL_areRights_419 rfl rfl ?_
            refine v_iconst (q := 422) (v := 1) hC dL_areRights_421 rfl (by decide) ?_
            refine v_ialdV (q := 423) hC dL_areRights_422 rfl rfl rfl (i := 1) (rfl) (by first | decide | omega) (by decide) (NxR z_414 (by decide) (by decide) (e1)) ?_
            refine v_icmp_ge (q := 431) (q2 := 426) hC dL_areRights_423 (by decide) rfl (fun c_423 => ?_) (fun c_423 => ?_)
            · refine v_bipush (q := 433) (v := (-101)) hC dL_areRights_431 rfl (by decide) ?_
              refine v_icmp_ne (q := 440) (q2 := 436) hC dL_areRights_433 (by decide) rfl (fun c_433 => ?_) (fun c_433 => ?_)
              · exact absurd rfl c_433
              · refine v_iconst (q := 437) (v := 1) hC dL_areRights_436 rfl (by decide) ?_
                refine v_goto (q := 441) hC dL_areRights_437 (by decide) ?_
                refine v_iret hC dL_areRights_441 hr (rfl) ?_ (show _ ≤ 640 by omega) (show _ ≤ 3840 by omega)
                exact ⟨rfl, z_414⟩
            · exact absurd (nI_le (by omega) (by omega)) c_423
        · exact absurd (by decide) c_81
    | succ n ih =>
      intro k th x10 G' h1 z h2
      have hk : k < 10 := by omega
      have ek : (nI k).toNatClampNeg = k := nI_clamp (by omega)
      have hh := hD.hold (k := k) (by omega)
      by_cases hc : G.2.1 0 30 (oA k 0) = 1
      · have hy : mHold (G.2.1 0 30) (nI k) = true := by rw [hh]; exact decide_eq_true hc
        refine v_iload (q := 79) hC dL_areRights_77 rfl rfl ?_
        refine v_bipush (q := 81) (v := 10) hC dL_areRights_79 rfl (by decide) ?_
        refine v_icmp_ge (q := 404) (q2 := 84) hC dL_areRights_81 (by decide) rfl (fun c_81 => ?_) (fun c_81 => ?_)
        · exact absurd c_81 (by rw [show (10 : Int32) = nI 10 from rfl]; exact nI_ge (by omega) (by omega))
        · refine v_iload (q := 86) hC dL_areRights_84 rfl rfl ?_
          refine v_if_eq (q := 404) (q2 := 89) hC dL_areRights_86 (by decide) rfl (fun c_86 => ?_) (fun c_86 => ?_)
          · exact absurd c_86 (by decide)
          · refine v_aload_n (i := 2) (q := 90) hC dL_areRights_89 rfl rfl rfl ?_
            refine v_iload (q := 92) hC dL_areRights_90 rfl rfl ?_
            refine v_ialdV (q := 93) hC dL_areRights_92 rfl rfl rfl (i := k) (rfl) (by first | decide | omega) (by decide) (NxR z (by decide) (by decide) (rfl)) ?_
            refine v_bipush (q := 95) (v := (-2)) hC dL_areRights_93 rfl (by decide) ?_
            refine v_icmp_ne (q := 121) (q2 := 98) hC dL_areRights_95 (by decide) rfl (fun c_95 => ?_) (fun c_95 => ?_)
            · refine v_aload_n (i := 0) (q := 122) hC dL_areRights_121 rfl rfl rfl ?_
              refine v_iload (q := 124) hC dL_areRights_122 rfl rfl ?_
              refine v_iload (q := 126) hC dL_areRights_124 rfl rfl ?_
              refine v_callR (q := 129) (rm := rm_L_rightsOfOf) hC ((r_rightsOf hl Θ z ht (nI u) (nI k)).v (v2 := mRg (G.2.1 0 30) (nI u) k) (by rw [muu, hy, if_pos (by decide), gI, ek])) kh_L_rightsOfOf ml_RL_278 dL_areRights_126 rfl rfl rfl (Nat.le_of_ble_eq_true rfl) ⟨Nat.le_of_ble_eq_true rfl, Nat.le_of_ble_eq_true rfl⟩ (c1 := 2) (s1 := 12) rfl rfl ⟨show _ + 2 ≤ 640 by omega, show _ + 12 ≤ 3840 by omega⟩ (rQ_k (fun G_126 z_126 => ?_)) rQ_n
              try dsimp only [Option.toList, List.cons_append, List.nil_append]
              refine v_aload_n (i := 1) (q := 130) hC dL_areRights_129 rfl rfl rfl ?_
              refine v_aload_n (i := 2) (q := 131) hC dL_areRights_130 rfl rfl rfl ?_
              refine v_aload_n (i := 3) (q := 132) hC dL_areRights_131 rfl rfl rfl ?_
              refine v_iload (q := 134) hC dL_areRights_132 rfl rfl ?_
              refine v_iload (q := 136) hC dL_areRights_134 rfl rfl ?_
              refine v_callSN (q := 139) (rm := rm_L_rights) hC (c_L_rights hl Θ u k _ (hD3 z_126) hu12 hk (by rw [z_126.w]; exact hc)) k_L_rights st_yL_rights ml_RL_198 dL_areRights_136 rfl rfl rfl (Nat.le_of_ble_eq_true rfl) ⟨Nat.le_of_ble_eq_true rfl, Nat.le_of_ble_eq_true rfl⟩ (c1 := 0) (s1 := 0) rfl rfl ⟨show _ + 0 ≤ 640 by omega, show _ + 0 ≤ 3840 by omega⟩ (fR_k ?_) fR_n
              try dsimp only [Option.toList, List.cons_append, List.nil_append]
              rw [z_126.w]
              refine v_icmp_ne (q := 146) (q2 := 142) hC dL_areRights_139 (by decide) rfl (fun c_139 => ?_) (fun c_139 => ?_)
              · exact absurd rfl c_139
              · refine v_iconst (q := 143) (v := 1) hC dL_areRights_142 rfl (by decide) ?_
                refine v_goto (q := 147) hC dL_areRights_143 (by decide) ?_
                refine v_istore (q := 149) hC dL_areRights_147 rfl (lvc rfl) (Nat.le_of_ble_eq_true rfl) (Nat.le_of_ble_eq_true rfl) rfl ?_
                refine v_iconst (q := 150) (v := 0) hC dL_areRights_149 rfl (by decide) ?_
                refine v_istore (q := 152) hC dL_areRights_150 rfl (lvc rfl) (Nat.le_of_ble_eq_true rfl) (Nat.le_of_ble_eq_true rfl) rfl ?_
                exact L2 k hk hc (fun G2 th z2 h9 => ih (k + 1) th _ G2 (by omega) z2 h9) 4 0 th _ rfl z_126 h2
            · exact absurd hc ((hD.p2 hk).mp c_95)
      · have hy : mHold (G.2.1 0 30) (nI k) = false := by rw [hh]; exact decide_eq_false hc
        refine v_iload (q := 79) hC dL_areRights_77 rfl rfl ?_
        refine v_bipush (q := 81) (v := 10) hC dL_areRights_79 rfl (by decide) ?_
        refine v_icmp_ge (q := 404) (q2 := 84) hC dL_areRights_81 (by decide) rfl (fun c_81 => ?_) (fun c_81 => ?_)
        · exact absurd c_81 (by rw [show (10 : Int32) = nI 10 from rfl]; exact nI_ge (by omega) (by omega))
        · refine v_iload (q := 86) hC dL_areRights_84 rfl rfl ?_
          refine v_if_eq (q := 404) (q2 := 89) hC dL_areRights_86 (by decide) rfl (fun c_86 => ?_) (fun c_86 => ?_)
          · exact absurd c_86 (by decide)
          · refine v_aload_n (i := 2) (q := 90) hC dL_areRights_89 rfl rfl rfl ?_
            refine v_iload (q := 92) hC dL_areRights_90 rfl rfl ?_
            refine v_ialdV (q := 93) hC dL_areRights_92 rfl rfl rfl (i := k) (rfl) (by first | decide | omega) (by decide) (NxR z (by decide) (by decide) (rfl)) ?_
            refine v_bipush (q := 95) (v := (-2)) hC dL_areRights_93 rfl (by decide) ?_
            refine v_icmp_ne (q := 121) (q2 := 98) hC dL_areRights_95 (by decide) rfl (fun c_95 => ?_) (fun c_95 => ?_)
            · exact absurd ((hD.p2 hk).mpr hc) c_95
            · refine v_aload_n (i := 0) (q := 99) hC dL_areRights_98 rfl rfl rfl ?_
              refine v_iload (q := 101) hC dL_areRights_99 rfl rfl ?_
              refine v_iload (q := 103) hC dL_areRights_101 rfl rfl ?_
              refine v_callR (q := 106) (rm := rm_L_rightsOfOf) hC ((r_rightsOf hl Θ z ht (nI u) (nI k)).v (v2 := -101) (by rw [hy, Bool.and_false, if_neg (by decide)])) kh_L_rightsOfOf ml_RL_278 dL_areRights_103 rfl rfl rfl (Nat.le_of_ble_eq_true rfl) ⟨Nat.le_of_ble_eq_true rfl, Nat.le_of_ble_eq_true rfl⟩ (c1 := 2) (s1 := 12) rfl rfl ⟨show _ + 2 ≤ 640 by omega, show _ + 12 ≤ 3840 by omega⟩ (rQ_k (fun G_103 z_103 => ?_)) rQ_n
              try dsimp only [Option.toList, List.cons_append, List.nil_append]
              refine v_bipush (q := 108) (v := (-101)) hC dL_areRights_106 rfl (by decide) ?_
              refine v_icmp_ne (q := 115) (q2 := 111) hC dL_areRights_108 (by decide) rfl (fun c_108 => ?_) (fun c_108 => ?_)
              · exact absurd rfl c_108
              · refine v_iconst (q := 112) (v := 1) hC dL_areRights_111 rfl (by decide) ?_
                refine v_goto (q := 116) hC dL_areRights_112 (by decide) ?_
                refine v_istore (q := 118) hC dL_areRights_116 rfl (lvc rfl) (Nat.le_of_ble_eq_true rfl) (Nat.le_of_ble_eq_true rfl) rfl ?_
                refine v_goto (q := 149) hC dL_areRights_118 (by decide) ?_
                refine v_iconst (q := 150) (v := 0) hC dL_areRights_149 rfl (by decide) ?_
                refine v_istore (q := 152) hC dL_areRights_150 rfl (lvc rfl) (Nat.le_of_ble_eq_true rfl) (Nat.le_of_ble_eq_true rfl) rfl ?_
                refine v_iload (q := 154) hC dL_areRights_152 rfl rfl ?_
                refine v_iconst (q := 155) (v := 4) hC dL_areRights_154 rfl (by decide) ?_
                refine v_icmp_ge (q := 398) (q2 := 158) hC dL_areRights_155 (by decide) rfl (fun c_155 => ?_) (fun c_155 => ?_)
                · exact absurd c_155 (by decide)
                · refine v_aload_n (i := 2) (q := 159) hC dL_areRights_158 rfl rfl rfl ?_
                  refine v_iload (q := 161) hC dL_areRights_159 rfl rfl ?_
                  refine v_ialdV (q := 162) hC dL_areRights_161 rfl rfl rfl (i := k) (rfl) (by first | decide | omega) (by decide) (NxR z_103 (by decide) (by decide) (rfl)) ?_
                  refine v_bipush (q := 164) (v := (-2)) hC dL_areRights_162 rfl (by decide) ?_
                  refine v_icmp_eq (q := 398) (q2 := 167) hC dL_areRights_164 (by decide) rfl (fun c_164 => ?_) (fun c_164 => ?_)
                  · refine v_iinc (q := 401) (v := nI (k + 1)) hC dL_areRights_398 rfl rfl (nI_1 k) (lvc rfl) (Nat.le_of_ble_eq_true rfl) (Nat.le_of_ble_eq_true rfl) rfl ?_
                    refine v_goto (q := 77) hC dL_areRights_401 (by decide) ?_
                    refine v_widen (by omega) (by omega) (ih (k + 1) th _ _ (by omega) z_103 ?_)
                    rw [← h2, show 80 - 4 * k = (80 - 4 * (k + 1)) + 4 by omega, mTr_skip hy]
                    rfl
                  · exact absurd ((hD.p2 hk).mpr hc) c_164
  refine v_aload_n (i := 0) (q := 1) hC dL_areRights_0 rfl rfl rfl ?_
  refine v_aload (q := 3) hC dL_areRights_1 rfl rfl ?_
  refine v_iconst (q := 4) (v := 0) hC dL_areRights_3 rfl (by decide) ?_
  refine v_ialdV (q := 5) hC dL_areRights_4 rfl rfl rfl (i := 0) (rfl) (by first | decide | omega) (by decide) (NxR z0 (by decide) (by decide) (e0)) ?_
  refine v_iconst (q := 6) (v := 0) hC dL_areRights_5 rfl (by decide) ?_
  refine v_iconst (q := 7) (v := 0) hC dL_areRights_6 rfl (by decide) ?_
  refine v_callR (q := 10) (rm := rm_L_isAllowedOf) hC ((r_isAllowed hl Θ z0 ht (nI (mUs (G.2.1 0 30))) 0 0).v (v2 := -101) (by rw [hD.mU (by omega), decide_eq_false (Nat.lt_irrefl _), Bool.false_and, if_neg (by decide)])) kh_L_isAllowedOf ml_RL_268 dL_areRights_7 rfl rfl rfl (Nat.le_of_ble_eq_true rfl) ⟨Nat.le_of_ble_eq_true rfl, Nat.le_of_ble_eq_true rfl⟩ (c1 := 3) (s1 := 18) rfl rfl ⟨show _ + 3 ≤ 640 by omega, show _ + 18 ≤ 3840 by omega⟩ (rQ_k (fun G_7 z_7 => ?_)) rQ_n
  try dsimp only [Option.toList, List.cons_append, List.nil_append]
  refine v_bipush (q := 12) (v := (-101)) hC dL_areRights_10 rfl (by decide) ?_
  refine v_icmp_ne (q := 68) (q2 := 15) hC dL_areRights_12 (by decide) rfl (fun c_12 => ?_) (fun c_12 => ?_)
  · exact absurd rfl c_12
  · refine v_aload_n (i := 0) (q := 16) hC dL_areRights_15 rfl rfl rfl ?_
    refine v_iconst (q := 17) (v := 0) hC dL_areRights_16 rfl (by decide) ?_
    refine v_iconst (q := 18) (v := 0) hC dL_areRights_17 rfl (by decide) ?_
    refine v_iconst (q := 19) (v := 4) hC dL_areRights_18 rfl (by decide) ?_
    refine v_callR (q := 22) (rm := rm_L_isAllowedOf) hC ((r_isAllowed hl Θ z_7 ht 0 0 4).v (v2 := -102) (by rw [mu0, hold0, if_pos (by decide), if_neg (by decide)])) kh_L_isAllowedOf ml_RL_268 dL_areRights_19 rfl rfl rfl (Nat.le_of_ble_eq_true rfl) ⟨Nat.le_of_ble_eq_true rfl, Nat.le_of_ble_eq_true rfl⟩ (c1 := 3) (s1 := 18) rfl rfl ⟨show _ + 3 ≤ 640 by omega, show _ + 18 ≤ 3840 by omega⟩ (rQ_k (fun G_19 z_19 => ?_)) rQ_n
    try dsimp only [Option.toList, List.cons_append, List.nil_append]
    refine v_bipush (q := 24) (v := (-102)) hC dL_areRights_22 rfl (by decide) ?_
    refine v_icmp_ne (q := 68) (q2 := 27) hC dL_areRights_24 (by decide) rfl (fun c_24 => ?_) (fun c_24 => ?_)
    · exact absurd rfl c_24
    · refine v_aload_n (i := 0) (q := 28) hC dL_areRights_27 rfl rfl rfl ?_
      refine v_iconst (q := 29) (v := 0) hC dL_areRights_28 rfl (by decide) ?_
      refine v_bipush (q := 31) (v := 20) hC dL_areRights_29 rfl (by decide) ?_
      refine v_bipush (q := 33) (v := 9) hC dL_areRights_31 rfl (by decide) ?_
      refine v_callR (q := 36) (rm := rm_L_decidingObjectOf) hC ((r_decidingObject hl Θ z_19 ht 0 20 9).v (v2 := -101) (by rw [hold20, Bool.and_false, if_neg (by decide)])) kh_L_decidingObjectOf ml_RL_272 dL_areRights_33 rfl rfl rfl (Nat.le_of_ble_eq_true rfl) ⟨Nat.le_of_ble_eq_true rfl, Nat.le_of_ble_eq_true rfl⟩ (c1 := 3) (s1 := 18) rfl rfl ⟨show _ + 3 ≤ 640 by omega, show _ + 18 ≤ 3840 by omega⟩ (rQ_k (fun G_33 z_33 => ?_)) rQ_n
      try dsimp only [Option.toList, List.cons_append, List.nil_append]
      refine v_bipush (q := 38) (v := (-101)) hC dL_areRights_36 rfl (by decide) ?_
      refine v_icmp_ne (q := 68) (q2 := 41) hC dL_areRights_38 (by decide) rfl (fun c_38 => ?_) (fun c_38 => ?_)
      · exact absurd rfl c_38
      · refine v_aload_n (i := 0) (q := 42) hC dL_areRights_41 rfl rfl rfl ?_
        refine v_iconst (q := 43) (v := 0) hC dL_areRights_42 rfl (by decide) ?_
        refine v_iconst (q := 44) (v := (-1)) hC dL_areRights_43 rfl (by decide) ?_
        refine v_callR (q := 47) (rm := rm_L_usersWithOf) hC ((r_usersWith hl Θ z_33 ht 0 (-1)).v (v2 := -102) (by rw [hold0, if_pos (by decide), if_neg (by decide)])) kh_L_usersWithOf ml_RL_275 dL_areRights_44 rfl rfl rfl (Nat.le_of_ble_eq_true rfl) ⟨Nat.le_of_ble_eq_true rfl, Nat.le_of_ble_eq_true rfl⟩ (c1 := 2) (s1 := 12) rfl rfl ⟨show _ + 2 ≤ 640 by omega, show _ + 12 ≤ 3840 by omega⟩ (rQ_k (fun G_44 z_44 => ?_)) rQ_n
        try dsimp only [Option.toList, List.cons_append, List.nil_append]
        refine v_bipush (q := 49) (v := (-102)) hC dL_areRights_47 rfl (by decide) ?_
        refine v_icmp_ne (q := 68) (q2 := 52) hC dL_areRights_49 (by decide) rfl (fun c_49 => ?_) (fun c_49 => ?_)
        · exact absurd rfl c_49
        · refine v_aload_n (i := 0) (q := 53) hC dL_areRights_52 rfl rfl rfl ?_
          refine v_iconst (q := 54) (v := 0) hC dL_areRights_53 rfl (by decide) ?_
          refine v_bipush (q := 56) (v := 20) hC dL_areRights_54 rfl (by decide) ?_
          refine v_callR (q := 59) (rm := rm_L_rightsOfOf) hC ((r_rightsOf hl Θ z_44 ht 0 20).v (v2 := -101) (by rw [hold20, Bool.and_false, if_neg (by decide)])) kh_L_rightsOfOf ml_RL_278 dL_areRights_56 rfl rfl rfl (Nat.le_of_ble_eq_true rfl) ⟨Nat.le_of_ble_eq_true rfl, Nat.le_of_ble_eq_true rfl⟩ (c1 := 2) (s1 := 12) rfl rfl ⟨show _ + 2 ≤ 640 by omega, show _ + 12 ≤ 3840 by omega⟩ (rQ_k (fun G_56 z_56 => ?_)) rQ_n
          try dsimp only [Option.toList, List.cons_append, List.nil_append]
          refine v_bipush (q := 61) (v := (-101)) hC dL_areRights_59 rfl (by decide) ?_
          refine v_icmp_ne (q := 68) (q2 := 64) hC dL_areRights_61 (by decide) rfl (fun c_61 => ?_) (fun c_61 => ?_)
          · exact absurd rfl c_61
          · refine v_iconst (q := 65) (v := 1) hC dL_areRights_64 rfl (by decide) ?_
            refine v_goto (q := 69) hC dL_areRights_65 (by decide) ?_
            refine v_istore (q := 71) hC dL_areRights_69 rfl (lvc rfl) (Nat.le_of_ble_eq_true rfl) (Nat.le_of_ble_eq_true rfl) rfl ?_
            refine v_iconst (q := 72) (v := 0) hC dL_areRights_71 rfl (by decide) ?_
            refine v_istore (q := 74) hC dL_areRights_72 rfl (lvc rfl) (Nat.le_of_ble_eq_true rfl) (Nat.le_of_ble_eq_true rfl) rfl ?_
            refine v_iconst (q := 75) (v := 0) hC dL_areRights_74 rfl (by decide) ?_
            refine v_istore (q := 77) hC dL_areRights_75 rfl (lvc rfl) (Nat.le_of_ble_eq_true rfl) (Nat.le_of_ble_eq_true rfl) rfl ?_
            exact L 10 0 0 none _ rfl z_56 rfl
abbrev rm_L_isLog : Room := { frames := 9, locals := 154, cells := 30, slots := 180 }
set_option maxHeartbeats 4000000 in
set_option maxRecDepth 20000 in
theorem c_L_isLog {l : Launch} (hl : l.stackTraces = false) (Θ : cTH) (t : Nat) (G : GS) (hS : Sim G t) (hL : LR G) (ht : t < 2 ^ 20) : Ct l yL_isLog cL_isLog 7 (some .boolean) rm_L_isLog Θ [.ref (tR Θ 0 14), .ref (tR Θ 0 43), .ref (tR Θ 0 44)] (G) (rQ G t 1) := by
  refine ct_of (LS := [some (.ref (tR Θ 0 14)), some (.ref (tR Θ 0 43)), some (.ref (tR Θ 0 44)), none, none, none, none]) hl (by decide +kernel) rfl (Nat.le_of_ble_eq_true rfl) rfl ?_
  intro p e s m args below meth c hC hr
  obtain ⟨hD, -, -, -, ⟨⟨e3, e4⟩, q, hq, w3, w2, hlog⟩, -⟩ := hL
  have z0 : Nx G G t := Nx.refl hS
  have e3q : G.2.1 0 44 3 = nI q := e3.trans w3
  have hlg : ∀ a, a < 2 ^ 20 → mLgd (G.2.1 0 30) (nI a) = decide (a < min 8 q) := fun a ha => by
    unfold mLgd
    rw [w2, mIn_idx (by omega), jIdx_d (by omega) (by omega)]
  have hlm : mLgd (G.2.1 0 30) (-1) = false := by
    unfold mLgd
    rw [w2, mIn_idx (by omega), jIdx_m1]
  have L : ∀ (n k : Nat) (x5 x6 : Option Value) (G' : GS), n + k = 9 → Nx G G' t → V p l e rm_L_isLog s m args below meth c 7 Θ (rQ G t 1) 30 180 (1 + 3 * k) (6 + 18 * k) 39 [some (.ref (tR Θ 0 14)), some (.ref (tR Θ 0 43)), some (.ref (tR Θ 0 44)), some (.int 1), some (.int (nI k)), x5, x6] [] (G') := by
    intro n
    induction n with
    | zero =>
      intro k x5 x6 G' h1 z
      have hk : k = 9 := by omega
      subst hk
      refine v_iload (q := 41) hC dL_isLog_39 rfl rfl ?_
      refine v_bipush (q := 43) (v := 9) hC dL_isLog_41 rfl (by decide) ?_
      refine v_icmp_ge (q := 172) (q2 := 46) hC dL_isLog_43 (by decide) rfl (fun c_43 => ?_) (fun c_43 => ?_)
      · refine v_iload_n (i := 3) (q := 173) hC dL_isLog_172 rfl rfl rfl ?_
        refine v_iret hC dL_isLog_173 hr (rfl) ?_ (show _ ≤ 30 by omega) (show _ ≤ 180 by omega)
        exact ⟨rfl, z⟩
      · exact absurd (by decide) c_43
    | succ n ih =>
      intro k x5 x6 G' h1 z
      have ek : (nI k).toNatClampNeg = k := nI_clamp (by omega)
      by_cases hc : k < min 8 q
      · obtain ⟨u, o, b, ⟨hu, ho⟩, a1, a2, a3, a4⟩ := hlog k hc
        have hb := bN_le b
        have v1 : nI (100 * u + 2 * o + b.toNat) / 100 = nI u := by
          rw [show (100 : Int32) = nI 100 from rfl, pk_div (by omega) (by decide) (by decide)]
          refine congrArg nI ?_; omega
        have v2 : (nI (100 * u + 2 * o + b.toNat) - nI (100 * u + 2 * o + b.toNat) / 100 * 100) / 2 = nI o := by
          rw [show (100 : Int32) = nI 100 from rfl, pk_rem (by omega) (by decide) (by decide), show (2 : Int32) = nI 2 from rfl, pk_div (by omega) (by decide) (by decide)]
          refine congrArg nI ?_; omega
        have v3 : nI (100 * u + 2 * o + b.toNat) - nI (100 * u + 2 * o + b.toNat) / 2 * 2 = b2i b := by
          rw [show (2 : Int32) = nI 2 from rfl, pk_rem (by omega) (by decide) (by decide), show (100 * u + 2 * o + b.toNat) % 2 = b.toNat by omega]
          cases b <;> rfl
        have hy : mLgd (G.2.1 0 30) (nI k) = true := by rw [hlg k (by omega)]; exact decide_eq_true hc
        refine v_iload (q := 41) hC dL_isLog_39 rfl rfl ?_
        refine v_bipush (q := 43) (v := 9) hC dL_isLog_41 rfl (by decide) ?_
        refine v_icmp_ge (q := 172) (q2 := 46) hC dL_isLog_43 (by decide) rfl (fun c_43 => ?_) (fun c_43 => ?_)
        · exact absurd c_43 (by rw [show (9 : Int32) = nI 9 from rfl]; exact nI_ge (by omega) (by omega))
        · refine v_iload (q := 48) hC dL_isLog_46 rfl rfl ?_
          refine v_bipush (q := 50) (v := 8) hC dL_isLog_48 rfl (by decide) ?_
          refine v_icmp_ge (q := 65) (q2 := 53) hC dL_isLog_50 (by decide) rfl (fun c_50 => ?_) (fun c_50 => ?_)
          · exact absurd c_50 (by rw [show (8 : Int32) = nI 8 from rfl]; exact nI_ge (by omega) (by omega))
          · refine v_iload (q := 55) hC dL_isLog_53 rfl rfl ?_
            refine v_aload_n (i := 2) (q := 56) hC dL_isLog_55 rfl rfl rfl ?_
            refine v_iconst (q := 57) (v := 3) hC dL_isLog_56 rfl (by decide) ?_
            refine v_ialdV (q := 58) hC dL_isLog_57 rfl rfl rfl (i := 3) (rfl) (by first | decide | omega) (by decide) (NxR z (by decide) (by decide) (e3q)) ?_
            refine v_icmp_ge (q := 65) (q2 := 61) hC dL_isLog_58 (by decide) rfl (fun c_58 => ?_) (fun c_58 => ?_)
            · exact absurd c_58 (nI_ge (by omega) (by omega))
            · refine v_iconst (q := 62) (v := 1) hC dL_isLog_61 rfl (by decide) ?_
              refine v_goto (q := 66) hC dL_isLog_62 (by decide) ?_
              refine v_istore (q := 68) hC dL_isLog_66 rfl (lvc rfl) (Nat.le_of_ble_eq_true rfl) (Nat.le_of_ble_eq_true rfl) rfl ?_
              refine v_iload (q := 70) hC dL_isLog_68 rfl rfl ?_
              refine v_if_eq (q := 80) (q2 := 73) hC dL_isLog_70 (by decide) rfl (fun c_70 => ?_) (fun c_70 => ?_)
              · exact absurd c_70 (by decide)
              · refine v_aload_n (i := 1) (q := 74) hC dL_isLog_73 rfl rfl rfl ?_
                refine v_iload (q := 76) hC dL_isLog_74 rfl rfl ?_
                refine v_ialdV (q := 77) hC dL_isLog_76 rfl rfl rfl (i := k) (rfl) (by first | decide | omega) (by decide) (NxR z (by decide) (by decide) (a4)) ?_
                refine v_goto (q := 81) hC dL_isLog_77 (by decide) ?_
                refine v_istore (q := 83) hC dL_isLog_81 rfl (lvc rfl) (Nat.le_of_ble_eq_true rfl) (Nat.le_of_ble_eq_true rfl) rfl ?_
                refine v_iload_n (i := 3) (q := 84) hC dL_isLog_83 rfl rfl rfl ?_
                refine v_if_eq (q := 164) (q2 := 87) hC dL_isLog_84 (by decide) rfl (fun c_84 => ?_) (fun c_84 => ?_)
                · exact absurd c_84 (by decide)
                · refine v_aload_n (i := 0) (q := 88) hC dL_isLog_87 rfl rfl rfl ?_
                  refine v_iload (q := 90) hC dL_isLog_88 rfl rfl ?_
                  refine v_callR (q := 93) (rm := rm_L_userOfRequestOf) hC ((r_userOfRequest hl Θ z ht (nI k)).v (v2 := nI u) (by rw [if_pos hy, gI, ek, Nat.add_zero, a1])) kh_L_userOfRequestOf ml_RL_322 dL_isLog_90 rfl rfl rfl (Nat.le_of_ble_eq_true rfl) ⟨Nat.le_of_ble_eq_true rfl, Nat.le_of_ble_eq_true rfl⟩ (c1 := 1) (s1 := 6) rfl rfl ⟨show _ + 1 ≤ 30 by omega, show _ + 6 ≤ 180 by omega⟩ (rQ_k (fun G_90 z_90 => ?_)) rQ_n
                  try dsimp only [Option.toList, List.cons_append, List.nil_append]
                  refine v_iload (q := 95) hC dL_isLog_93 rfl rfl ?_
                  refine v_if_eq (q := 106) (q2 := 98) hC dL_isLog_95 (by decide) rfl (fun c_95 => ?_) (fun c_95 => ?_)
                  · exact absurd c_95 (by decide)
                  · refine v_iload (q := 100) hC dL_isLog_98 rfl rfl ?_
                    refine v_bipush (q := 102) (v := 100) hC dL_isLog_100 rfl (by decide) ?_
                    refine v_idiv (q := 103) hC dL_isLog_102 rfl (by decide) ?_
                    rw [v1]
                    refine v_goto (q := 108) hC dL_isLog_103 (by decide) ?_
                    refine v_icmp_ne (q := 164) (q2 := 111) hC dL_isLog_108 (by decide) rfl (fun c_108 => ?_) (fun c_108 => ?_)
                    · exact absurd rfl c_108
                    · refine v_aload_n (i := 0) (q := 112) hC dL_isLog_111 rfl rfl rfl ?_
                      refine v_iload (q := 114) hC dL_isLog_112 rfl rfl ?_
                      refine v_callR (q := 117) (rm := rm_L_objectOfRequestOf) hC ((r_objectOfRequest hl Θ z_90 ht (nI k)).v (v2 := nI o) (by rw [if_pos hy, gI, ek, show 738 + 3 * k + 1 = 739 + 3 * k by omega, a2])) kh_L_objectOfRequestOf ml_RL_325 dL_isLog_114 rfl rfl rfl (Nat.le_of_ble_eq_true rfl) ⟨Nat.le_of_ble_eq_true rfl, Nat.le_of_ble_eq_true rfl⟩ (c1 := 1) (s1 := 6) rfl rfl ⟨show _ + 1 ≤ 30 by omega, show _ + 6 ≤ 180 by omega⟩ (rQ_k (fun G_114 z_114 => ?_)) rQ_n
                      try dsimp only [Option.toList, List.cons_append, List.nil_append]
                      refine v_iload (q := 119) hC dL_isLog_117 rfl rfl ?_
                      refine v_if_eq (q := 132) (q2 := 122) hC dL_isLog_119 (by decide) rfl (fun c_119 => ?_) (fun c_119 => ?_)
                      · exact absurd c_119 (by decide)
                      · refine v_iload (q := 124) hC dL_isLog_122 rfl rfl ?_
                        refine v_bipush (q := 126) (v := 100) hC dL_isLog_124 rfl (by decide) ?_
                        refine v_irem (q := 127) hC dL_isLog_126 rfl (by decide) ?_
                        refine v_iconst (q := 128) (v := 2) hC dL_isLog_127 rfl (by decide) ?_
                        refine v_idiv (q := 129) hC dL_isLog_128 rfl (by decide) ?_
                        rw [v2]
                        refine v_goto (q := 134) hC dL_isLog_129 (by decide) ?_
                        refine v_icmp_ne (q := 164) (q2 := 137) hC dL_isLog_134 (by decide) rfl (fun c_134 => ?_) (fun c_134 => ?_)
                        · exact absurd rfl c_134
                        · refine v_aload_n (i := 0) (q := 138) hC dL_isLog_137 rfl rfl rfl ?_
                          refine v_iload (q := 140) hC dL_isLog_138 rfl rfl ?_
                          refine v_callR (q := 143) (rm := rm_L_wasAllowedOf) hC ((r_wasAllowed hl Θ z_114 ht (nI k)).v (v2 := b2i b) (by rw [if_pos hy, gZ_b, ek, show 738 + 3 * k + 2 = 740 + 3 * k by omega, a3, dec_b2i])) kh_L_wasAllowedOf ml_RL_328 dL_isLog_140 rfl rfl rfl (Nat.le_of_ble_eq_true rfl) ⟨Nat.le_of_ble_eq_true rfl, Nat.le_of_ble_eq_true rfl⟩ (c1 := 1) (s1 := 6) rfl rfl ⟨show _ + 1 ≤ 30 by omega, show _ + 6 ≤ 180 by omega⟩ (rQ_k (fun G_140 z_140 => ?_)) rQ_n
                          try dsimp only [Option.toList, List.cons_append, List.nil_append]
                          refine v_iload (q := 145) hC dL_isLog_143 rfl rfl ?_
                          refine v_if_eq (q := 155) (q2 := 148) hC dL_isLog_145 (by decide) rfl (fun c_145 => ?_) (fun c_145 => ?_)
                          · exact absurd c_145 (by decide)
                          · refine v_iload (q := 150) hC dL_isLog_148 rfl rfl ?_
                            refine v_iconst (q := 151) (v := 2) hC dL_isLog_150 rfl (by decide) ?_
                            refine v_irem (q := 152) hC dL_isLog_151 rfl (by decide) ?_
                            rw [v3]
                            refine v_goto (q := 157) hC dL_isLog_152 (by decide) ?_
                            refine v_icmp_ne (q := 164) (q2 := 160) hC dL_isLog_157 (by decide) rfl (fun c_157 => ?_) (fun c_157 => ?_)
                            · exact absurd rfl c_157
                            · refine v_iconst (q := 161) (v := 1) hC dL_isLog_160 rfl (by decide) ?_
                              refine v_goto (q := 165) hC dL_isLog_161 (by decide) ?_
                              refine v_istore_n (i := 3) (q := 166) hC dL_isLog_165 rfl rfl (lvc rfl) (Nat.le_of_ble_eq_true rfl) (Nat.le_of_ble_eq_true rfl) rfl ?_
                              refine v_iinc (q := 169) (v := nI (k + 1)) hC dL_isLog_166 rfl rfl (nI_1 k) (lvc rfl) (Nat.le_of_ble_eq_true rfl) (Nat.le_of_ble_eq_true rfl) rfl ?_
                              refine v_goto (q := 39) hC dL_isLog_169 (by decide) ?_
                              exact v_widen (by omega) (by omega) (ih (k + 1) _ _ _ (by omega) z_140)
      · have hn : ¬ mLgd (G.2.1 0 30) (nI k) = true := by rw [hlg k (by omega), decide_eq_false hc]; decide
        have v1 := fun {G2 : GS} (z2 : Nx G G2 t) => (r_userOfRequest hl Θ z2 ht (nI k)).v (v2 := -101) (if_neg hn)
        have v2 := fun {G2 : GS} (z2 : Nx G G2 t) => (r_objectOfRequest hl Θ z2 ht (nI k)).v (v2 := -101) (if_neg hn)
        have v3 := fun {G2 : GS} (z2 : Nx G G2 t) => (r_wasAllowed hl Θ z2 ht (nI k)).v (v2 := -101) (if_neg hn)
        refine v_iload (q := 41) hC dL_isLog_39 rfl rfl ?_
        refine v_bipush (q := 43) (v := 9) hC dL_isLog_41 rfl (by decide) ?_
        refine v_icmp_ge (q := 172) (q2 := 46) hC dL_isLog_43 (by decide) rfl (fun c_43 => ?_) (fun c_43 => ?_)
        · exact absurd c_43 (by rw [show (9 : Int32) = nI 9 from rfl]; exact nI_ge (by omega) (by omega))
        · refine v_iload (q := 48) hC dL_isLog_46 rfl rfl ?_
          refine v_bipush (q := 50) (v := 8) hC dL_isLog_48 rfl (by decide) ?_
          refine v_icmp_ge (q := 65) (q2 := 53) hC dL_isLog_50 (by decide) rfl (fun c_50 => ?_) (fun c_50 => ?_)
          · refine v_iconst (q := 66) (v := 0) hC dL_isLog_65 rfl (by decide) ?_
            refine v_istore (q := 68) hC dL_isLog_66 rfl (lvc rfl) (Nat.le_of_ble_eq_true rfl) (Nat.le_of_ble_eq_true rfl) rfl ?_
            refine v_iload (q := 70) hC dL_isLog_68 rfl rfl ?_
            refine v_if_eq (q := 80) (q2 := 73) hC dL_isLog_70 (by decide) rfl (fun c_70 => ?_) (fun c_70 => ?_)
            · refine v_iconst (q := 81) (v := 0) hC dL_isLog_80 rfl (by decide) ?_
              refine v_istore (q := 83) hC dL_isLog_81 rfl (lvc rfl) (Nat.le_of_ble_eq_true rfl) (Nat.le_of_ble_eq_true rfl) rfl ?_
              refine v_iload_n (i := 3) (q := 84) hC dL_isLog_83 rfl rfl rfl ?_
              refine v_if_eq (q := 164) (q2 := 87) hC dL_isLog_84 (by decide) rfl (fun c_84 => ?_) (fun c_84 => ?_)
              · exact absurd c_84 (by decide)
              · refine v_aload_n (i := 0) (q := 88) hC dL_isLog_87 rfl rfl rfl ?_
                refine v_iload (q := 90) hC dL_isLog_88 rfl rfl ?_
                refine v_callR (q := 93) (rm := rm_L_userOfRequestOf) hC (v1 z) kh_L_userOfRequestOf ml_RL_322 dL_isLog_90 rfl rfl rfl (Nat.le_of_ble_eq_true rfl) ⟨Nat.le_of_ble_eq_true rfl, Nat.le_of_ble_eq_true rfl⟩ (c1 := 1) (s1 := 6) rfl rfl ⟨show _ + 1 ≤ 30 by omega, show _ + 6 ≤ 180 by omega⟩ (rQ_k (fun G_90 z_90 => ?_)) rQ_n
                try dsimp only [Option.toList, List.cons_append, List.nil_append]
                refine v_iload (q := 95) hC dL_isLog_93 rfl rfl ?_
                refine v_if_eq (q := 106) (q2 := 98) hC dL_isLog_95 (by decide) rfl (fun c_95 => ?_) (fun c_95 => ?_)
                · refine v_bipush (q := 108) (v := (-101)) hC dL_isLog_106 rfl (by decide) ?_
                  refine v_icmp_ne (q := 164) (q2 := 111) hC dL_isLog_108 (by decide) rfl (fun c_108 => ?_) (fun c_108 => ?_)
                  · exact absurd rfl c_108
                  · refine v_aload_n (i := 0) (q := 112) hC dL_isLog_111 rfl rfl rfl ?_
                    refine v_iload (q := 114) hC dL_isLog_112 rfl rfl ?_
                    refine v_callR (q := 117) (rm := rm_L_objectOfRequestOf) hC (v2 z_90) kh_L_objectOfRequestOf ml_RL_325 dL_isLog_114 rfl rfl rfl (Nat.le_of_ble_eq_true rfl) ⟨Nat.le_of_ble_eq_true rfl, Nat.le_of_ble_eq_true rfl⟩ (c1 := 1) (s1 := 6) rfl rfl ⟨show _ + 1 ≤ 30 by omega, show _ + 6 ≤ 180 by omega⟩ (rQ_k (fun G_114 z_114 => ?_)) rQ_n
                    try dsimp only [Option.toList, List.cons_append, List.nil_append]
                    refine v_iload (q := 119) hC dL_isLog_117 rfl rfl ?_
                    refine v_if_eq (q := 132) (q2 := 122) hC dL_isLog_119 (by decide) rfl (fun c_119 => ?_) (fun c_119 => ?_)
                    · refine v_bipush (q := 134) (v := (-101)) hC dL_isLog_132 rfl (by decide) ?_
                      refine v_icmp_ne (q := 164) (q2 := 137) hC dL_isLog_134 (by decide) rfl (fun c_134 => ?_) (fun c_134 => ?_)
                      · exact absurd rfl c_134
                      · refine v_aload_n (i := 0) (q := 138) hC dL_isLog_137 rfl rfl rfl ?_
                        refine v_iload (q := 140) hC dL_isLog_138 rfl rfl ?_
                        refine v_callR (q := 143) (rm := rm_L_wasAllowedOf) hC (v3 z_114) kh_L_wasAllowedOf ml_RL_328 dL_isLog_140 rfl rfl rfl (Nat.le_of_ble_eq_true rfl) ⟨Nat.le_of_ble_eq_true rfl, Nat.le_of_ble_eq_true rfl⟩ (c1 := 1) (s1 := 6) rfl rfl ⟨show _ + 1 ≤ 30 by omega, show _ + 6 ≤ 180 by omega⟩ (rQ_k (fun G_140 z_140 => ?_)) rQ_n
                        try dsimp only [Option.toList, List.cons_append, List.nil_append]
                        refine v_iload (q := 145) hC dL_isLog_143 rfl rfl ?_
                        refine v_if_eq (q := 155) (q2 := 148) hC dL_isLog_145 (by decide) rfl (fun c_145 => ?_) (fun c_145 => ?_)
                        · refine v_bipush (q := 157) (v := (-101)) hC dL_isLog_155 rfl (by decide) ?_
                          refine v_icmp_ne (q := 164) (q2 := 160) hC dL_isLog_157 (by decide) rfl (fun c_157 => ?_) (fun c_157 => ?_)
                          · exact absurd rfl c_157
                          · refine v_iconst (q := 161) (v := 1) hC dL_isLog_160 rfl (by decide) ?_
                            refine v_goto (q := 165) hC dL_isLog_161 (by decide) ?_
                            refine v_istore_n (i := 3) (q := 166) hC dL_isLog_165 rfl rfl (lvc rfl) (Nat.le_of_ble_eq_true rfl) (Nat.le_of_ble_eq_true rfl) rfl ?_
                            refine v_iinc (q := 169) (v := nI (k + 1)) hC dL_isLog_166 rfl rfl (nI_1 k) (lvc rfl) (Nat.le_of_ble_eq_true rfl) (Nat.le_of_ble_eq_true rfl) rfl ?_
                            refine v_goto (q := 39) hC dL_isLog_169 (by decide) ?_
                            exact v_widen (by omega) (by omega) (ih (k + 1) _ _ _ (by omega) z_140)
                        · exact absurd rfl c_145
                    · exact absurd rfl c_119
                · exact absurd rfl c_95
            · exact absurd rfl c_70
          · refine v_iload (q := 55) hC dL_isLog_53 rfl rfl ?_
            refine v_aload_n (i := 2) (q := 56) hC dL_isLog_55 rfl rfl rfl ?_
            refine v_iconst (q := 57) (v := 3) hC dL_isLog_56 rfl (by decide) ?_
            refine v_ialdV (q := 58) hC dL_isLog_57 rfl rfl rfl (i := 3) (rfl) (by first | decide | omega) (by decide) (NxR z (by decide) (by decide) (e3q)) ?_
            refine v_icmp_ge (q := 65) (q2 := 61) hC dL_isLog_58 (by decide) rfl (fun c_58 => ?_) (fun c_58 => ?_)
            · refine v_iconst (q := 66) (v := 0) hC dL_isLog_65 rfl (by decide) ?_
              refine v_istore (q := 68) hC dL_isLog_66 rfl (lvc rfl) (Nat.le_of_ble_eq_true rfl) (Nat.le_of_ble_eq_true rfl) rfl ?_
              refine v_iload (q := 70) hC dL_isLog_68 rfl rfl ?_
              refine v_if_eq (q := 80) (q2 := 73) hC dL_isLog_70 (by decide) rfl (fun c_70 => ?_) (fun c_70 => ?_)
              · refine v_iconst (q := 81) (v := 0) hC dL_isLog_80 rfl (by decide) ?_
                refine v_istore (q := 83) hC dL_isLog_81 rfl (lvc rfl) (Nat.le_of_ble_eq_true rfl) (Nat.le_of_ble_eq_true rfl) rfl ?_
                refine v_iload_n (i := 3) (q := 84) hC dL_isLog_83 rfl rfl rfl ?_
                refine v_if_eq (q := 164) (q2 := 87) hC dL_isLog_84 (by decide) rfl (fun c_84 => ?_) (fun c_84 => ?_)
                · exact absurd c_84 (by decide)
                · refine v_aload_n (i := 0) (q := 88) hC dL_isLog_87 rfl rfl rfl ?_
                  refine v_iload (q := 90) hC dL_isLog_88 rfl rfl ?_
                  refine v_callR (q := 93) (rm := rm_L_userOfRequestOf) hC (v1 z) kh_L_userOfRequestOf ml_RL_322 dL_isLog_90 rfl rfl rfl (Nat.le_of_ble_eq_true rfl) ⟨Nat.le_of_ble_eq_true rfl, Nat.le_of_ble_eq_true rfl⟩ (c1 := 1) (s1 := 6) rfl rfl ⟨show _ + 1 ≤ 30 by omega, show _ + 6 ≤ 180 by omega⟩ (rQ_k (fun G_90 z_90 => ?_)) rQ_n
                  try dsimp only [Option.toList, List.cons_append, List.nil_append]
                  refine v_iload (q := 95) hC dL_isLog_93 rfl rfl ?_
                  refine v_if_eq (q := 106) (q2 := 98) hC dL_isLog_95 (by decide) rfl (fun c_95 => ?_) (fun c_95 => ?_)
                  · refine v_bipush (q := 108) (v := (-101)) hC dL_isLog_106 rfl (by decide) ?_
                    refine v_icmp_ne (q := 164) (q2 := 111) hC dL_isLog_108 (by decide) rfl (fun c_108 => ?_) (fun c_108 => ?_)
                    · exact absurd rfl c_108
                    · refine v_aload_n (i := 0) (q := 112) hC dL_isLog_111 rfl rfl rfl ?_
                      refine v_iload (q := 114) hC dL_isLog_112 rfl rfl ?_
                      refine v_callR (q := 117) (rm := rm_L_objectOfRequestOf) hC (v2 z_90) kh_L_objectOfRequestOf ml_RL_325 dL_isLog_114 rfl rfl rfl (Nat.le_of_ble_eq_true rfl) ⟨Nat.le_of_ble_eq_true rfl, Nat.le_of_ble_eq_true rfl⟩ (c1 := 1) (s1 := 6) rfl rfl ⟨show _ + 1 ≤ 30 by omega, show _ + 6 ≤ 180 by omega⟩ (rQ_k (fun G_114 z_114 => ?_)) rQ_n
                      try dsimp only [Option.toList, List.cons_append, List.nil_append]
                      refine v_iload (q := 119) hC dL_isLog_117 rfl rfl ?_
                      refine v_if_eq (q := 132) (q2 := 122) hC dL_isLog_119 (by decide) rfl (fun c_119 => ?_) (fun c_119 => ?_)
                      · refine v_bipush (q := 134) (v := (-101)) hC dL_isLog_132 rfl (by decide) ?_
                        refine v_icmp_ne (q := 164) (q2 := 137) hC dL_isLog_134 (by decide) rfl (fun c_134 => ?_) (fun c_134 => ?_)
                        · exact absurd rfl c_134
                        · refine v_aload_n (i := 0) (q := 138) hC dL_isLog_137 rfl rfl rfl ?_
                          refine v_iload (q := 140) hC dL_isLog_138 rfl rfl ?_
                          refine v_callR (q := 143) (rm := rm_L_wasAllowedOf) hC (v3 z_114) kh_L_wasAllowedOf ml_RL_328 dL_isLog_140 rfl rfl rfl (Nat.le_of_ble_eq_true rfl) ⟨Nat.le_of_ble_eq_true rfl, Nat.le_of_ble_eq_true rfl⟩ (c1 := 1) (s1 := 6) rfl rfl ⟨show _ + 1 ≤ 30 by omega, show _ + 6 ≤ 180 by omega⟩ (rQ_k (fun G_140 z_140 => ?_)) rQ_n
                          try dsimp only [Option.toList, List.cons_append, List.nil_append]
                          refine v_iload (q := 145) hC dL_isLog_143 rfl rfl ?_
                          refine v_if_eq (q := 155) (q2 := 148) hC dL_isLog_145 (by decide) rfl (fun c_145 => ?_) (fun c_145 => ?_)
                          · refine v_bipush (q := 157) (v := (-101)) hC dL_isLog_155 rfl (by decide) ?_
                            refine v_icmp_ne (q := 164) (q2 := 160) hC dL_isLog_157 (by decide) rfl (fun c_157 => ?_) (fun c_157 => ?_)
                            · exact absurd rfl c_157
                            · refine v_iconst (q := 161) (v := 1) hC dL_isLog_160 rfl (by decide) ?_
                              refine v_goto (q := 165) hC dL_isLog_161 (by decide) ?_
                              refine v_istore_n (i := 3) (q := 166) hC dL_isLog_165 rfl rfl (lvc rfl) (Nat.le_of_ble_eq_true rfl) (Nat.le_of_ble_eq_true rfl) rfl ?_
                              refine v_iinc (q := 169) (v := nI (k + 1)) hC dL_isLog_166 rfl rfl (nI_1 k) (lvc rfl) (Nat.le_of_ble_eq_true rfl) (Nat.le_of_ble_eq_true rfl) rfl ?_
                              refine v_goto (q := 39) hC dL_isLog_169 (by decide) ?_
                              exact v_widen (by omega) (by omega) (ih (k + 1) _ _ _ (by omega) z_140)
                          · exact absurd rfl c_145
                      · exact absurd rfl c_119
                  · exact absurd rfl c_95
              · exact absurd rfl c_70
            · exact absurd (nI_le (show q ≤ k by
                rcases Nat.lt_or_ge k 8 with h9 | h9
                · omega
                · exact absurd (show (8 : Int32) ≤ nI k from nI_le (a := 8) h9 (by omega)) c_50) (by omega)) c_58
  refine v_aload_n (i := 0) (q := 1) hC dL_isLog_0 rfl rfl rfl ?_
  refine v_callVR (q := 4) (rm := rm_X11_requests) hC (x_requests hl Θ z0) k_X11_requests im_yX11_requests se_yX11_requests ml_RL_316 dL_isLog_1 rfl rfl rfl rfl rfl rfl (Nat.le_of_ble_eq_true rfl) ⟨Nat.le_of_ble_eq_true rfl, Nat.le_of_ble_eq_true rfl⟩ (c1 := 0) (s1 := 0) rfl rfl ⟨show _ + 0 ≤ 30 by omega, show _ + 0 ≤ 180 by omega⟩ (rQ_k (fun G_1 z_1 => ?_)) rQ_n
  try dsimp only [Option.toList, List.cons_append, List.nil_append]
  refine v_aload_n (i := 2) (q := 5) hC dL_isLog_4 rfl rfl rfl ?_
  refine v_iconst (q := 6) (v := 3) hC dL_isLog_5 rfl (by decide) ?_
  refine v_ialdV (q := 7) hC dL_isLog_6 rfl rfl rfl (i := 3) (rfl) (by first | decide | omega) (by decide) (NxR z_1 (by decide) (by decide) (e3)) ?_
  refine v_icmp_ne (q := 34) (q2 := 10) hC dL_isLog_7 (by decide) rfl (fun c_7 => ?_) (fun c_7 => ?_)
  · exact absurd rfl c_7
  · refine v_aload_n (i := 0) (q := 11) hC dL_isLog_10 rfl rfl rfl ?_
    refine v_callVR (q := 14) (rm := rm_X11_refusals) hC (x_refusals hl Θ z_1) k_X11_refusals im_yX11_refusals se_yX11_refusals ml_RL_319 dL_isLog_11 rfl rfl rfl rfl rfl rfl (Nat.le_of_ble_eq_true rfl) ⟨Nat.le_of_ble_eq_true rfl, Nat.le_of_ble_eq_true rfl⟩ (c1 := 0) (s1 := 0) rfl rfl ⟨show _ + 0 ≤ 30 by omega, show _ + 0 ≤ 180 by omega⟩ (rQ_k (fun G_11 z_11 => ?_)) rQ_n
    try dsimp only [Option.toList, List.cons_append, List.nil_append]
    refine v_aload_n (i := 2) (q := 15) hC dL_isLog_14 rfl rfl rfl ?_
    refine v_iconst (q := 16) (v := 4) hC dL_isLog_15 rfl (by decide) ?_
    refine v_ialdV (q := 17) hC dL_isLog_16 rfl rfl rfl (i := 4) (rfl) (by first | decide | omega) (by decide) (NxR z_11 (by decide) (by decide) (e4)) ?_
    refine v_icmp_ne (q := 34) (q2 := 20) hC dL_isLog_17 (by decide) rfl (fun c_17 => ?_) (fun c_17 => ?_)
    · exact absurd rfl c_17
    · refine v_aload_n (i := 0) (q := 21) hC dL_isLog_20 rfl rfl rfl ?_
      refine v_iconst (q := 22) (v := (-1)) hC dL_isLog_21 rfl (by decide) ?_
      refine v_callR (q := 25) (rm := rm_L_userOfRequestOf) hC ((r_userOfRequest hl Θ z_11 ht (-1)).v (v2 := -101) (by rw [hlm, if_neg (by decide)])) kh_L_userOfRequestOf ml_RL_322 dL_isLog_22 rfl rfl rfl (Nat.le_of_ble_eq_true rfl) ⟨Nat.le_of_ble_eq_true rfl, Nat.le_of_ble_eq_true rfl⟩ (c1 := 1) (s1 := 6) rfl rfl ⟨show _ + 1 ≤ 30 by omega, show _ + 6 ≤ 180 by omega⟩ (rQ_k (fun G_22 z_22 => ?_)) rQ_n
      try dsimp only [Option.toList, List.cons_append, List.nil_append]
      refine v_bipush (q := 27) (v := (-101)) hC dL_isLog_25 rfl (by decide) ?_
      refine v_icmp_ne (q := 34) (q2 := 30) hC dL_isLog_27 (by decide) rfl (fun c_27 => ?_) (fun c_27 => ?_)
      · exact absurd rfl c_27
      · refine v_iconst (q := 31) (v := 1) hC dL_isLog_30 rfl (by decide) ?_
        refine v_goto (q := 35) hC dL_isLog_31 (by decide) ?_
        refine v_istore_n (i := 3) (q := 36) hC dL_isLog_35 rfl rfl (lvc rfl) (Nat.le_of_ble_eq_true rfl) (Nat.le_of_ble_eq_true rfl) rfl ?_
        refine v_iconst (q := 37) (v := 0) hC dL_isLog_36 rfl (by decide) ?_
        refine v_istore (q := 39) hC dL_isLog_37 rfl (lvc rfl) (Nat.le_of_ble_eq_true rfl) (Nat.le_of_ble_eq_true rfl) rfl ?_
        exact L 9 0 none none _ rfl z_22
