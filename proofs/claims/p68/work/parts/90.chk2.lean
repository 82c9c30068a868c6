/-! the objects are looked at -/
theorem CtV.v {l : Launch} {y : MethodName} {cc : ByteArray} {n : Nat} {ret : Option FieldType} {rm : Room} {Θ : cTH} {as : List Value} {G G0 : GS} {t : Nat} {v v2 : Int32} (h : CtV l y cc n ret rm Θ as G (rQ G0 t v)) (e : v = v2) : CtV l y cc n ret rm Θ as G (rQ G0 t v2) := e ▸ h
section XV
variable {l : Launch} {G0 G : GS} {t : Nat}
theorem x_objects (hl : l.stackTraces = false) (Θ : cTH) (h0 : Nx G0 G t) : CtV l yX11_objects cX11_objects 1 (some .int) rm_X11_objects Θ [.ref (tR Θ 0 14)] G (rQ G0 t (mHo (G0.2.1 0 30) 20 0 0)) := by
  refine ⟨_, c_X11_objects hl Θ G, fun o G1 h => ⟨G1, Gh.refl _, ?_⟩⟩
  obtain ⟨rfl, rfl⟩ := h
  refine ⟨?_, h0⟩
  rw [← h0.1.1.count, h0.w]
theorem x_isThere (hl : l.stackTraces = false) (Θ : cTH) (h0 : Nx G0 G t) (a0 : Int32) : CtV l yX11_isThere cX11_isThere 2 (some .boolean) rm_X11_isThere Θ [.ref (tR Θ 0 14), .int a0] G (rQ G0 t (b2i (mHold (G0.2.1 0 30) a0))) := by
  refine ⟨_, c_X11_isThere hl Θ a0 G, fun o G1 h => ⟨G1, Gh.refl _, ?_⟩⟩
  obtain ⟨rfl, rfl⟩ := h
  refine ⟨?_, h0⟩
  rw [← h0.1.1.hold, h0.w]
theorem x_requests (hl : l.stackTraces = false) (Θ : cTH) (h0 : Nx G0 G t) : CtV l yX11_requests cX11_requests 1 (some .int) rm_X11_requests Θ [.ref (tR Θ 0 14)] G (rQ G0 t (G0.2.1 0 30 763)) := by
  refine ⟨_, c_X11_requests hl Θ G, fun o G1 h => ⟨G1, Gh.refl _, ?_⟩⟩
  obtain ⟨rfl, rfl⟩ := h
  refine ⟨?_, h0⟩
  obtain ⟨q, h1, h2, h3, h4, h5, h6⟩ := h0.1.1.lg
  rw [h2, ← h3, h0.w]
theorem x_refusals (hl : l.stackTraces = false) (Θ : cTH) (h0 : Nx G0 G t) : CtV l yX11_refusals cX11_refusals 1 (some .int) rm_X11_refusals Θ [.ref (tR Θ 0 14)] G (rQ G0 t (G0.2.1 0 30 764)) := by
  refine ⟨_, c_X11_refusals hl Θ G, fun o G1 h => ⟨G1, Gh.refl _, ?_⟩⟩
  obtain ⟨rfl, rfl⟩ := h
  refine ⟨?_, h0⟩
  obtain ⟨q, h1, h2, h3, h4, h5, h6⟩ := h0.1.1.lg
  rw [h4, h0.w]
theorem x_allRights (hl : l.stackTraces = false) (Θ : cTH) (h0 : Nx G0 G t) : CtV l yX11_allRights cX11_allRights 1 (some .int) rm_X11_allRights Θ [.ref (tR Θ 0 14)] G (rQ G0 t (mEv (G0.2.1 0 30) (mUs (G0.2.1 0 30)) 0 0)) := by
  refine ⟨_, c_X11_allRights hl Θ G h0.1.1.gOk_, fun o G1 h => ⟨G1, Gh.refl _, ?_⟩⟩
  obtain ⟨rfl, ja, jb, rfl⟩ := h
  have hR : AgR G (jS G ja jb) := (AgR.refl G).jS_ ja jb
  refine ⟨?_, h0.ag hR.2.1 (h0.1.agR hR (Nat.le_refl _))⟩
  rw [h0.1.1.everything, h0.w]
end XV
theorem mBls_tail {w : Nat → Int32} (hn : ∀ k, 10 ≤ k → k < 20 → mHold w (nI k) = false) (ot : Int32) : ∀ (n j : Nat) (t : Int32), 10 ≤ j → n + j ≤ 20 → mBls w ot n j t = t := by
  intro n
  induction n with
  | zero => intro j t _ _; rfl
  | succ n ih =>
    intro j t h1 h2
    rw [mBls, hn j h1 (by omega), Bool.false_and, if_neg (by decide), Int32.add_zero]
    exact ih (j + 1) t (by omega) (by omega)
theorem dec_b2i (a : Bool) : decide (b2i a = 1) = a := by cases a <;> rfl
theorem nI_kd {kd m : Nat} (h1 : kd < 4) (h2 : m < 4) (h : ¬ kd = m) : ¬ nI kd = nI m := fun z => h ((nI_eq (by omega) (by omega)).mp z)
abbrev rm_L_areObjects : Room := { frames := 10, locals := 179, cells := 910, slots := 5460 }
set_option maxHeartbeats 4000000 in
set_option maxRecDepth 20000 in
theorem c_L_areObjects {l : Launch} (hl : l.stackTraces = false) (Θ : cTH) (t : Nat) (G : GS) (hS : Sim G t) (hL : LR G) (ht : t < 2 ^ 20) : Ct l yL_areObjects cL_areObjects 13 (some .boolean) rm_L_areObjects Θ [.ref (tR Θ 0 14), .ref (tR Θ 0 41), .ref (tR Θ 0 42), .ref (tR Θ 0 44)] (G) (rQ G t 1) := by
  refine ct_of (LS := [some (.ref (tR Θ 0 14)), some (.ref (tR Θ 0 41)), some (.ref (tR Θ 0 42)), some (.ref (tR Θ 0 44)), none, none, none, none, none, none, none, none, none]) hl (by decide +kernel) rfl (Nat.le_of_ble_eq_true rfl) rfl ?_
  intro p e s m args below meth c hC hr
  obtain ⟨hD, -, -, e2, -, hI⟩ := hL
  have z0 : Nx G G t := Nx.refl hS
  have hn20 : ∀ k, 10 ≤ k → k < 20 → mHold (G.2.1 0 30) (nI k) = false := fun k h1 h2 => by rw [hD.hold h2, decide_eq_false (hD.no h1 h2)]
  have hD2 : ∀ {G' : GS}, Nx G G' t → LD (G'.2.1 0 30) (G.2.1 0 40) (G'.2.1 0 41) (G.2.1 0 42) := fun z => by rw [z.w, z.a (o := 41) (by decide) (by decide)]; exact hD
  -- how many lie below k
  have B : ∀ (k : Nat) (b6 : Int32), k < 10 → (∀ (G2 : GS), Nx G G2 t → V p l e rm_L_areObjects s m args below meth c 13 Θ (rQ G t 1) 910 5460 (2 + 90 * k) (12 + 540 * k) 135 [some (.ref (tR Θ 0 14)), some (.ref (tR Θ 0 41)), some (.ref (tR Θ 0 42)), some (.ref (tR Θ 0 44)), some (.int 1), some (.int (nI k)), some (.int b6), some (.int (mBls (G.2.1 0 30) (nI k) 20 0 0)), none, none, none, none, none] [] (G2)) → ∀ (n j : Nat) (b : Int32) (G' : GS), n + j = 10 → Nx G G' t → mBls (G.2.1 0 30) (nI k) (n + 10) j b = mBls (G.2.1 0 30) (nI k) 20 0 0 → V p l e rm_L_areObjects s m args below meth c 13 Θ (rQ G t 1) 910 5460 (2 + 90 * k) (12 + 540 * k) 92 [some (.ref (tR Θ 0 14)), some (.ref (tR Θ 0 41)), some (.ref (tR Θ 0 42)), some (.ref (tR Θ 0 44)), some (.int 1), some (.int (nI k)), some (.int b6), some (.int b), some (.int (nI j)), none, none, none, none] [] (G') := by
    intro k b6 hk kk n
    induction n with
    | zero =>
      intro j b G' h1 z h2
      have hj : j = 10 := by omega
      subst hj
      rw [mBls_tail hn20 _ _ _ _ (by omega) (by omega)] at h2
      subst h2
      refine v_iload (q := 94) hC dL_areObjects_92 rfl rfl ?_
      refine v_bipush (q := 96) (v := 10) hC dL_areObjects_94 rfl (by decide) ?_
      refine v_icmp_ge (q := 135) (q2 := 99) hC dL_areObjects_96 (by decide) rfl (fun c_96 => ?_) (fun c_96 => ?_)
      · refine v_sub (fun i v h => ?_) (kk _ z)
        match i, h with
        | 0, h => exact h
        | 1, h => exact h
        | 2, h => exact h
        | 3, h => exact h
        | 4, h => exact h
        | 5, h => exact h
        | 6, h => exact h
        | 7, h => exact h
        | 8, h => cases h
        | 9, h => cases h
        | 10, h => cases h
        | 11, h => cases h
        | 12, h => cases h
        | i + 13, h => cases h
      · exact absurd (by decide) c_96
    | succ n ih =>
      intro j b G' h1 z h2
      have hj : j < 10 := by omega
      rw [show n + 1 + 10 = (n + 10) + 1 by omega, mBls, hD.hold (by omega)] at h2
      by_cases hc : G.2.1 0 30 (oA j 0) = 1
      · rw [decide_eq_true hc, Bool.true_and] at h2
        refine v_iload (q := 94) hC dL_areObjects_92 rfl rfl ?_
        refine v_bipush (q := 96) (v := 10) hC dL_areObjects_94 rfl (by decide) ?_
        refine v_icmp_ge (q := 135) (q2 := 99) hC dL_areObjects_96 (by decide) rfl (fun c_96 => ?_) (fun c_96 => ?_)
        · exact absurd c_96 (by rw [show (10 : Int32) = nI 10 from rfl]; exact nI_ge (by omega) (by omega))
        · refine v_iload (q := 101) hC dL_areObjects_99 rfl rfl ?_
          refine v_aload_n (i := 1) (q := 102) hC dL_areObjects_101 rfl rfl rfl ?_
          refine v_iload (q := 104) hC dL_areObjects_102 rfl rfl ?_
          refine v_ialdV (q := 105) hC dL_areObjects_104 rfl rfl rfl (i := j) (rfl) (by first | decide | omega) (by decide) (NxR z (by decide) (by decide) (rfl)) ?_
          refine v_bipush (q := 107) (v := (-2)) hC dL_areObjects_105 rfl (by decide) ?_
          refine v_icmp_eq (q := 125) (q2 := 110) hC dL_areObjects_107 (by decide) rfl (fun c_107 => ?_) (fun c_107 => ?_)
          · exact absurd hc ((hD.p2 hj).mp c_107)
          · refine v_aload_n (i := 1) (q := 111) hC dL_areObjects_110 rfl rfl rfl ?_
            refine v_iload (q := 113) hC dL_areObjects_111 rfl rfl ?_
            refine v_iload (q := 115) hC dL_areObjects_113 rfl rfl ?_
            refine v_callSN (q := 118) (rm := rm_L_isUnder) hC (c_L_isUnder hl Θ j k _ _ _ (hD2 z) hj (by rw [z.w]; exact hc) hk) k_L_isUnder st_yL_isUnder ml_RL_234 dL_areObjects_115 rfl rfl rfl (Nat.le_of_ble_eq_true rfl) ⟨Nat.le_of_ble_eq_true rfl, Nat.le_of_ble_eq_true rfl⟩ (c1 := 0) (s1 := 0) rfl rfl ⟨show _ + 0 ≤ 910 by omega, show _ + 0 ≤ 5460 by omega⟩ (fR_k ?_) fR_n
            try dsimp only [Option.toList, List.cons_append, List.nil_append]
            rw [z.w]
            refine v_ifb_eq (q := 125) (q2 := 121) hC dL_areObjects_118 (by decide) rfl (fun c_118 => ?_) (fun c_118 => ?_)
            · refine v_iconst (q := 126) (v := 0) hC dL_areObjects_125 rfl (by decide) ?_
              refine v_iadd (q := 127) hC dL_areObjects_126 rfl ?_
              refine v_istore (q := 129) hC dL_areObjects_127 rfl (lvc rfl) (Nat.le_of_ble_eq_true rfl) (Nat.le_of_ble_eq_true rfl) rfl ?_
              refine v_iinc (q := 132) (v := nI (j + 1)) hC dL_areObjects_129 rfl rfl (nI_1 j) (lvc rfl) (Nat.le_of_ble_eq_true rfl) (Nat.le_of_ble_eq_true rfl) rfl ?_
              refine v_goto (q := 92) hC dL_areObjects_132 (by decide) ?_
              refine ih (j + 1) _ _ (by omega) z ?_
              rw [← h2]
              first | rw [if_pos c_118] | rw [if_neg (by rw [c_118]; decide)]
            · refine v_iconst (q := 122) (v := 1) hC dL_areObjects_121 rfl (by decide) ?_
              refine v_goto (q := 126) hC dL_areObjects_122 (by decide) ?_
              refine v_iadd (q := 127) hC dL_areObjects_126 rfl ?_
              refine v_istore (q := 129) hC dL_areObjects_127 rfl (lvc rfl) (Nat.le_of_ble_eq_true rfl) (Nat.le_of_ble_eq_true rfl) rfl ?_
              refine v_iinc (q := 132) (v := nI (j + 1)) hC dL_areObjects_129 rfl rfl (nI_1 j) (lvc rfl) (Nat.le_of_ble_eq_true rfl) (Nat.le_of_ble_eq_true rfl) rfl ?_
              refine v_goto (q := 92) hC dL_areObjects_132 (by decide) ?_
              refine ih (j + 1) _ _ (by omega) z ?_
              rw [← h2]
              first | rw [if_pos c_118] | rw [if_neg (by rw [c_118]; decide)]
      · rw [decide_eq_false hc, Bool.false_and, if_neg (by decide)] at h2
        refine v_iload (q := 94) hC dL_areObjects_92 rfl rfl ?_
        refine v_bipush (q := 96) (v := 10) hC dL_areObjects_94 rfl (by decide) ?_
        refine v_icmp_ge (q := 135) (q2 := 99) hC dL_areObjects_96 (by decide) rfl (fun c_96 => ?_) (fun c_96 => ?_)
        · exact absurd c_96 (by rw [show (10 : Int32) = nI 10 from rfl]; exact nI_ge (by omega) (by omega))
        · refine v_iload (q := 101) hC dL_areObjects_99 rfl rfl ?_
          refine v_aload_n (i := 1) (q := 102) hC dL_areObjects_101 rfl rfl rfl ?_
          refine v_iload (q := 104) hC dL_areObjects_102 rfl rfl ?_
          refine v_ialdV (q := 105) hC dL_areObjects_104 rfl rfl rfl (i := j) (rfl) (by first | decide | omega) (by decide) (NxR z (by decide) (by decide) (rfl)) ?_
          refine v_bipush (q := 107) (v := (-2)) hC dL_areObjects_105 rfl (by decide) ?_
          refine v_icmp_eq (q := 125) (q2 := 110) hC dL_areObjects_107 (by decide) rfl (fun c_107 => ?_) (fun c_107 => ?_)
          · refine v_iconst (q := 126) (v := 0) hC dL_areObjects_125 rfl (by decide) ?_
            refine v_iadd (q := 127) hC dL_areObjects_126 rfl ?_
            refine v_istore (q := 129) hC dL_areObjects_127 rfl (lvc rfl) (Nat.le_of_ble_eq_true rfl) (Nat.le_of_ble_eq_true rfl) rfl ?_
            refine v_iinc (q := 132) (v := nI (j + 1)) hC dL_areObjects_129 rfl rfl (nI_1 j) (lvc rfl) (Nat.le_of_ble_eq_true rfl) (Nat.le_of_ble_eq_true rfl) rfl ?_
            refine v_goto (q := 92) hC dL_areObjects_132 (by decide) ?_
            exact ih (j + 1) _ _ (by omega) z h2
          · exact absurd ((hD.p2 hj).mpr hc) c_107
  -- the entries of k
  have E : ∀ (k : Nat) (b7 : Int32), k < 10 → G.2.1 0 30 (oA k 0) = 1 → (∀ (G2 : GS), Nx G G2 t → V p l e rm_L_areObjects s m args below meth c 13 Θ (rQ G t 1) 910 5460 (2 + 90 * k + 90) (12 + 540 * k + 540) 58 [some (.ref (tR Θ 0 14)), some (.ref (tR Θ 0 41)), some (.ref (tR Θ 0 42)), some (.ref (tR Θ 0 44)), some (.int 1), some (.int (nI (k + 1))), none, none, none, none, none, none, none] [] (G2)) → ∀ (n j : Nat) (G' : GS) (x9 x10 x11 x12 : Option Value), n + j = mCt (G.2.1 0 30) k + 1 → Nx G G' t → V p l e rm_L_areObjects s m args below meth c 13 Θ (rQ G t 1) 910 5460 (2 + 90 * k + 6 + 12 * j) (12 + 540 * k + 36 + 72 * j) 304 [some (.ref (tR Θ 0 14)), some (.ref (tR Θ 0 41)), some (.ref (tR Θ 0 42)), some (.ref (tR Θ 0 44)), some (.int 1), some (.int (nI k)), some (.int 1), some (.int b7), some (.int (nI j)), x9, x10, x11, x12] [] (G') := by
    intro k b7 hk hk1 kk n
    have hc6 := hD.ok.ct6 (o := k) (by omega)
    have hpc := hD.pc hk hk1
    rw [hD.ok.ct (o := k) (by omega)] at hpc
    induction n with
    | zero =>
      intro j G' x9 x10 x11 x12 h1 z
      refine v_iload (q := 306) hC dL_areObjects_304 rfl rfl ?_
      refine v_if_eq (q := 575) (q2 := 309) hC dL_areObjects_306 (by decide) rfl (fun c_306 => ?_) (fun c_306 => ?_)
      · exact absurd c_306 (by decide)
      · refine v_iload (q := 311) hC dL_areObjects_309 rfl rfl ?_
        refine v_aload_n (i := 1) (q := 312) hC dL_areObjects_311 rfl rfl rfl ?_
        refine v_bipush (q := 314) (v := 40) hC dL_areObjects_312 rfl (by decide) ?_
        refine v_iload (q := 316) hC dL_areObjects_314 rfl rfl ?_
        refine v_iadd (q := 317) hC dL_areObjects_316 rfl ?_
        refine v_ialdV (q := 318) hC dL_areObjects_317 rfl rfl rfl (i := 40 + k) (nI_add 40 k) (by first | decide | omega) (by decide) (NxR z (by decide) (by decide) (hpc)) ?_
        refine v_icmp_gt (q := 575) (q2 := 321) hC dL_areObjects_318 (by decide) rfl (fun c_318 => ?_) (fun c_318 => ?_)
        · refine v_iinc (q := 578) (v := nI (k + 1)) hC dL_areObjects_575 rfl rfl (nI_1 k) (lvc rfl) (Nat.le_of_ble_eq_true rfl) (Nat.le_of_ble_eq_true rfl) rfl ?_
          refine v_goto (q := 58) hC dL_areObjects_578 (by decide) ?_
          refine v_widen (by omega) (by omega) (v_sub (fun i v h => ?_) (kk _ z))
          match i, h with
          | 0, h => exact h
          | 1, h => exact h
          | 2, h => exact h
          | 3, h => exact h
          | 4, h => exact h
          | 5, h => exact h
          | 6, h => cases h
          | 7, h => cases h
          | 8, h => cases h
          | 9, h => cases h
          | 10, h => cases h
          | 11, h => cases h
          | 12, h => cases h
          | i + 13, h => cases h
        · exact absurd (nI_lt (by omega) (by omega)) c_318
    | succ n ih =>
      intro j G' x9 x10 x11 x12 h1 z
      by_cases hj : j = mCt (G.2.1 0 30) k
      · -- behind the last one
        have ce : mEnt (G.2.1 0 30) (nI k) (nI j) = false := by rw [hD.ent (by omega) (by omega), decide_eq_false (show ¬ j < mCt (G.2.1 0 30) k by omega), Bool.and_false]
        have cn : ¬ mEnt (G.2.1 0 30) (nI k) (nI j) = true := by rw [ce]; decide
        have N : ∀ (G2 : GS) (v9 : Int32), Nx G G2 t → V p l e rm_L_areObjects s m args below meth c 13 Θ (rQ G t 1) 910 5460 (2 + 90 * k + 6 + 12 * j) (12 + 540 * k + 36 + 72 * j) 347 [some (.ref (tR Θ 0 14)), some (.ref (tR Θ 0 41)), some (.ref (tR Θ 0 42)), some (.ref (tR Θ 0 44)), some (.int 1), some (.int (nI k)), some (.int 1), some (.int b7), some (.int (nI j)), x9, x10, x11, x12] [.int v9] (G2) := by
          intro G2 v9 z
          refine v_istore (q := 349) hC dL_areObjects_347 rfl (lvc rfl) (Nat.le_of_ble_eq_true rfl) (Nat.le_of_ble_eq_true rfl) rfl ?_
          refine v_iload (q := 351) hC dL_areObjects_349 rfl rfl ?_
          refine v_bipush (q := 353) (v := 10) hC dL_areObjects_351 rfl (by decide) ?_
          refine v_ishr (q := 354) hC dL_areObjects_353 rfl ?_
          refine v_istore (q := 356) hC dL_areObjects_354 rfl (lvc rfl) (Nat.le_of_ble_eq_true rfl) (Nat.le_of_ble_eq_true rfl) rfl ?_
          refine v_iload (q := 358) hC dL_areObjects_356 rfl rfl ?_
          refine v_bipush (q := 360) (v := 6) hC dL_areObjects_358 rfl (by decide) ?_
          refine v_ishr (q := 361) hC dL_areObjects_360 rfl ?_
          refine v_bipush (q := 363) (v := 15) hC dL_areObjects_361 rfl (by decide) ?_
          refine v_iand (q := 364) hC dL_areObjects_363 rfl ?_
          refine v_istore (q := 366) hC dL_areObjects_364 rfl (lvc rfl) (Nat.le_of_ble_eq_true rfl) (Nat.le_of_ble_eq_true rfl) rfl ?_
          refine v_iload (q := 368) hC dL_areObjects_366 rfl rfl ?_
          refine v_aload_n (i := 1) (q := 369) hC dL_areObjects_368 rfl rfl rfl ?_
          refine v_bipush (q := 371) (v := 40) hC dL_areObjects_369 rfl (by decide) ?_
          refine v_iload (q := 373) hC dL_areObjects_371 rfl rfl ?_
          refine v_iadd (q := 374) hC dL_areObjects_373 rfl ?_
          refine v_ialdV (q := 375) hC dL_areObjects_374 rfl rfl rfl (i := 40 + k) (nI_add 40 k) (by first | decide | omega) (by decide) (NxR z (by decide) (by decide) (hpc)) ?_
          refine v_icmp_ne (q := 382) (q2 := 378) hC dL_areObjects_375 (by decide) rfl (fun c_375 => ?_) (fun c_375 => ?_)
          · exact absurd (by rw [hj]) c_375
          · refine v_iconst (q := 379) (v := 1) hC dL_areObjects_378 rfl (by decide) ?_
            refine v_goto (q := 383) hC dL_areObjects_379 (by decide) ?_
            refine v_istore (q := 385) hC dL_areObjects_383 rfl (lvc rfl) (Nat.le_of_ble_eq_true rfl) (Nat.le_of_ble_eq_true rfl) rfl ?_
            refine v_aload_n (i := 0) (q := 386) hC dL_areObjects_385 rfl rfl rfl ?_
            refine v_iload (q := 388) hC dL_areObjects_386 rfl rfl ?_
            refine v_iload (q := 390) hC dL_areObjects_388 rfl rfl ?_
            refine v_callR (q := 393) (rm := rm_L_isAllowingOf) hC ((r_isAllowing hl Θ z ht (nI k) (nI j)).v (v2 := -101) (if_neg cn)) kh_L_isAllowingOf ml_RL_250 dL_areObjects_390 rfl rfl rfl (Nat.le_of_ble_eq_true rfl) ⟨Nat.le_of_ble_eq_true rfl, Nat.le_of_ble_eq_true rfl⟩ (c1 := 2) (s1 := 12) rfl rfl ⟨show _ + 2 ≤ 910 by omega, show _ + 12 ≤ 5460 by omega⟩ (rQ_k (fun G_390 z_390 => ?_)) rQ_n
            try dsimp only [Option.toList, List.cons_append, List.nil_append]
            refine v_iload (q := 395) hC dL_areObjects_393 rfl rfl ?_
            refine v_if_eq (q := 403) (q2 := 398) hC dL_areObjects_395 (by decide) rfl (fun c_395 => ?_) (fun c_395 => ?_)
            · exact absurd c_395 (by decide)
            · refine v_bipush (q := 400) (v := (-101)) hC dL_areObjects_398 rfl (by decide) ?_
              refine v_goto (q := 409) hC dL_areObjects_400 (by decide) ?_
              refine v_icmp_ne (q := 566) (q2 := 412) hC dL_areObjects_409 (by decide) rfl (fun c_409 => ?_) (fun c_409 => ?_)
              · exact absurd rfl c_409
              · refine v_aload_n (i := 0) (q := 413) hC dL_areObjects_412 rfl rfl rfl ?_
                refine v_iload (q := 415) hC dL_areObjects_413 rfl rfl ?_
                refine v_iload (q := 417) hC dL_areObjects_415 rfl rfl ?_
                refine v_callR (q := 420) (rm := rm_L_rightsOfEntryOf) hC ((r_rightsOfEntry hl Θ z_390 ht (nI k) (nI j)).v (v2 := -101) (if_neg cn)) kh_L_rightsOfEntryOf ml_RL_253 dL_areObjects_417 rfl rfl rfl (Nat.le_of_ble_eq_true rfl) ⟨Nat.le_of_ble_eq_true rfl, Nat.le_of_ble_eq_true rfl⟩ (c1 := 2) (s1 := 12) rfl rfl ⟨show _ + 2 ≤ 910 by omega, show _ + 12 ≤ 5460 by omega⟩ (rQ_k (fun G_417 z_417 => ?_)) rQ_n
                try dsimp only [Option.toList, List.cons_append, List.nil_append]
                refine v_iload (q := 422) hC dL_areObjects_420 rfl rfl ?_
                refine v_if_eq (q := 430) (q2 := 425) hC dL_areObjects_422 (by decide) rfl (fun c_422 => ?_) (fun c_422 => ?_)
                · exact absurd c_422 (by decide)
                · refine v_bipush (q := 427) (v := (-101)) hC dL_areObjects_425 rfl (by decide) ?_
                  refine v_goto (q := 437) hC dL_areObjects_427 (by decide) ?_
                  refine v_icmp_ne (q := 566) (q2 := 440) hC dL_areObjects_437 (by decide) rfl (fun c_437 => ?_) (fun c_437 => ?_)
                  · exact absurd rfl c_437
                  · refine v_aload_n (i := 0) (q := 441) hC dL_areObjects_440 rfl rfl rfl ?_
                    refine v_iload (q := 443) hC dL_areObjects_441 rfl rfl ?_
                    refine v_iload (q := 445) hC dL_areObjects_443 rfl rfl ?_
                    refine v_callR (q := 448) (rm := rm_L_userOfEntryOf) hC ((r_userOfEntry hl Θ z_417 ht (nI k) (nI j)).v (v2 := -101) (if_neg cn)) kh_L_userOfEntryOf ml_RL_256 dL_areObjects_445 rfl rfl rfl (Nat.le_of_ble_eq_true rfl) ⟨Nat.le_of_ble_eq_true rfl, Nat.le_of_ble_eq_true rfl⟩ (c1 := 2) (s1 := 12) rfl rfl ⟨show _ + 2 ≤ 910 by omega, show _ + 12 ≤ 5460 by omega⟩ (rQ_k (fun G_445 z_445 => ?_)) rQ_n
                    try dsimp only [Option.toList, List.cons_append, List.nil_append]
                    refine v_iload (q := 450) hC dL_areObjects_448 rfl rfl ?_
                    refine v_if_eq (q := 458) (q2 := 453) hC dL_areObjects_450 (by decide) rfl (fun c_450 => ?_) (fun c_450 => ?_)
                    · exact absurd c_450 (by decide)
                    · refine v_bipush (q := 455) (v := (-101)) hC dL_areObjects_453 rfl (by decide) ?_
                      refine v_goto (q := 469) hC dL_areObjects_455 (by decide) ?_
                      refine v_icmp_ne (q := 566) (q2 := 472) hC dL_areObjects_469 (by decide) rfl (fun c_469 => ?_) (fun c_469 => ?_)
                      · exact absurd rfl c_469
                      · refine v_aload_n (i := 0) (q := 473) hC dL_areObjects_472 rfl rfl rfl ?_
                        refine v_iload (q := 475) hC dL_areObjects_473 rfl rfl ?_
                        refine v_iload (q := 477) hC dL_areObjects_475 rfl rfl ?_
                        refine v_callR (q := 480) (rm := rm_L_groupOfEntryOf) hC ((r_groupOfEntry hl Θ z_445 ht (nI k) (nI j)).v (v2 := -101) (if_neg cn)) kh_L_groupOfEntryOf ml_RL_259 dL_areObjects_477 rfl rfl rfl (Nat.le_of_ble_eq_true rfl) ⟨Nat.le_of_ble_eq_true rfl, Nat.le_of_ble_eq_true rfl⟩ (c1 := 2) (s1 := 12) rfl rfl ⟨show _ + 2 ≤ 910 by omega, show _ + 12 ≤ 5460 by omega⟩ (rQ_k (fun G_477 z_477 => ?_)) rQ_n
                        try dsimp only [Option.toList, List.cons_append, List.nil_append]
                        refine v_iload (q := 482) hC dL_areObjects_480 rfl rfl ?_
                        refine v_if_eq (q := 490) (q2 := 485) hC dL_areObjects_482 (by decide) rfl (fun c_482 => ?_) (fun c_482 => ?_)
                        · exact absurd c_482 (by decide)
                        · refine v_bipush (q := 487) (v := (-101)) hC dL_areObjects_485 rfl (by decide) ?_
                          refine v_goto (q := 502) hC dL_areObjects_487 (by decide) ?_
                          refine v_icmp_ne (q := 566) (q2 := 505) hC dL_areObjects_502 (by decide) rfl (fun c_502 => ?_) (fun c_502 => ?_)
                          · exact absurd rfl c_502
                          · refine v_aload_n (i := 0) (q := 506) hC dL_areObjects_505 rfl rfl rfl ?_
                            refine v_iload (q := 508) hC dL_areObjects_506 rfl rfl ?_
                            refine v_iload (q := 510) hC dL_areObjects_508 rfl rfl ?_
                            refine v_callR (q := 513) (rm := rm_L_isForOwnerOf) hC ((r_isForOwner hl Θ z_477 ht (nI k) (nI j)).v (v2 := -101) (if_neg cn)) kh_L_isForOwnerOf ml_RL_262 dL_areObjects_510 rfl rfl rfl (Nat.le_of_ble_eq_true rfl) ⟨Nat.le_of_ble_eq_true rfl, Nat.le_of_ble_eq_true rfl⟩ (c1 := 2) (s1 := 12) rfl rfl ⟨show _ + 2 ≤ 910 by omega, show _ + 12 ≤ 5460 by omega⟩ (rQ_k (fun G_510 z_510 => ?_)) rQ_n
                            try dsimp only [Option.toList, List.cons_append, List.nil_append]
                            refine v_iload (q := 515) hC dL_areObjects_513 rfl rfl ?_
                            refine v_if_eq (q := 523) (q2 := 518) hC dL_areObjects_515 (by decide) rfl (fun c_515 => ?_) (fun c_515 => ?_)
                            · exact absurd c_515 (by decide)
                            · refine v_bipush (q := 520) (v := (-101)) hC dL_areObjects_518 rfl (by decide) ?_
                              refine v_goto (q := 534) hC dL_areObjects_520 (by decide) ?_
                              refine v_icmp_ne (q := 566) (q2 := 537) hC dL_areObjects_534 (by decide) rfl (fun c_534 => ?_) (fun c_534 => ?_)
                              · exact absurd rfl c_534
                              · refine v_aload_n (i := 0) (q := 538) hC dL_areObjects_537 rfl rfl rfl ?_
                                refine v_iload (q := 540) hC dL_areObjects_538 rfl rfl ?_
                                refine v_iload (q := 542) hC dL_areObjects_540 rfl rfl ?_
                                refine v_callR (q := 545) (rm := rm_L_isForBelowOf) hC ((r_isForBelow hl Θ z_510 ht (nI k) (nI j)).v (v2 := -101) (if_neg cn)) kh_L_isForBelowOf ml_RL_265 dL_areObjects_542 rfl rfl rfl (Nat.le_of_ble_eq_true rfl) ⟨Nat.le_of_ble_eq_true rfl, Nat.le_of_ble_eq_true rfl⟩ (c1 := 2) (s1 := 12) rfl rfl ⟨show _ + 2 ≤ 910 by omega, show _ + 12 ≤ 5460 by omega⟩ (rQ_k (fun G_542 z_542 => ?_)) rQ_n
                                try dsimp only [Option.toList, List.cons_append, List.nil_append]
                                refine v_iload (q := 547) hC dL_areObjects_545 rfl rfl ?_
                                refine v_if_eq (q := 555) (q2 := 550) hC dL_areObjects_547 (by decide) rfl (fun c_547 => ?_) (fun c_547 => ?_)
                                · exact absurd c_547 (by decide)
                                · refine v_bipush (q := 552) (v := (-101)) hC dL_areObjects_550 rfl (by decide) ?_
                                  refine v_goto (q := 559) hC dL_areObjects_552 (by decide) ?_
                                  refine v_icmp_ne (q := 566) (q2 := 562) hC dL_areObjects_559 (by decide) rfl (fun c_559 => ?_) (fun c_559 => ?_)
                                  · exact absurd rfl c_559
                                  · refine v_iconst (q := 563) (v := 1) hC dL_areObjects_562 rfl (by decide) ?_
                                    refine v_goto (q := 567) hC dL_areObjects_563 (by decide) ?_
                                    refine v_istore (q := 569) hC dL_areObjects_567 rfl (lvc rfl) (Nat.le_of_ble_eq_true rfl) (Nat.le_of_ble_eq_true rfl) rfl ?_
                                    refine v_iinc (q := 572) (v := nI (j + 1)) hC dL_areObjects_569 rfl rfl (nI_1 j) (lvc rfl) (Nat.le_of_ble_eq_true rfl) (Nat.le_of_ble_eq_true rfl) rfl ?_
                                    refine v_goto (q := 304) hC dL_areObjects_572 (by decide) ?_
                                    exact v_widen (by omega) (by omega) (ih (j + 1) _ _ _ _ _ (by omega) z_542)
        by_cases h6 : j < 6
        · refine v_iload (q := 306) hC dL_areObjects_304 rfl rfl ?_
          refine v_if_eq (q := 575) (q2 := 309) hC dL_areObjects_306 (by decide) rfl (fun c_306 => ?_) (fun c_306 => ?_)
          · exact absurd c_306 (by decide)
          · refine v_iload (q := 311) hC dL_areObjects_309 rfl rfl ?_
            refine v_aload_n (i := 1) (q := 312) hC dL_areObjects_311 rfl rfl rfl ?_
            refine v_bipush (q := 314) (v := 40) hC dL_areObjects_312 rfl (by decide) ?_
            refine v_iload (q := 316) hC dL_areObjects_314 rfl rfl ?_
            refine v_iadd (q := 317) hC dL_areObjects_316 rfl ?_
            refine v_ialdV (q := 318) hC dL_areObjects_317 rfl rfl rfl (i := 40 + k) (nI_add 40 k) (by first | decide | omega) (by decide) (NxR z (by decide) (by decide) (hpc)) ?_
            refine v_icmp_gt (q := 575) (q2 := 321) hC dL_areObjects_318 (by decide) rfl (fun c_318 => ?_) (fun c_318 => ?_)
            · exact absurd c_318 (nI_nlt (by omega) (by omega))
            · refine v_iload (q := 323) hC dL_areObjects_321 rfl rfl ?_
              refine v_if_eq (q := 575) (q2 := 326) hC dL_areObjects_323 (by decide) rfl (fun c_323 => ?_) (fun c_323 => ?_)
              · exact absurd c_323 (by decide)
              · refine v_aload_n (i := 2) (q := 327) hC dL_areObjects_326 rfl rfl rfl ?_
                refine v_bipush (q := 329) (v := 6) hC dL_areObjects_327 rfl (by decide) ?_
                refine v_iload (q := 331) hC dL_areObjects_329 rfl rfl ?_
                refine v_imul (q := 332) hC dL_areObjects_331 rfl ?_
                refine v_iload (q := 334) hC dL_areObjects_332 rfl rfl ?_
                refine v_bipush (q := 336) (v := 6) hC dL_areObjects_334 rfl (by decide) ?_
                refine v_icmp_ge (q := 344) (q2 := 339) hC dL_areObjects_336 (by decide) rfl (fun c_336 => ?_) (fun c_336 => ?_)
                · exact absurd c_336 (by rw [show (6 : Int32) = nI 6 from rfl]; exact nI_ge h6 (by omega))
                · refine v_iload (q := 341) hC dL_areObjects_339 rfl rfl ?_
                  refine v_goto (q := 345) hC dL_areObjects_341 (by decide) ?_
                  refine v_iadd (q := 346) hC dL_areObjects_345 rfl ?_
                  refine v_ialdV (q := 347) hC dL_areObjects_346 rfl rfl rfl (i := 6 * k + j) (by rw [show (6 : Int32) = nI 6 from rfl, nI_mul, nI_add]) (by first | decide | omega) (by decide) (NxR z (by decide) (by decide) (rfl)) ?_
                  exact N _ _ z
        · refine v_iload (q := 306) hC dL_areObjects_304 rfl rfl ?_
          refine v_if_eq (q := 575) (q2 := 309) hC dL_areObjects_306 (by decide) rfl (fun c_306 => ?_) (fun c_306 => ?_)
          · exact absurd c_306 (by decide)
          · refine v_iload (q := 311) hC dL_areObjects_309 rfl rfl ?_
            refine v_aload_n (i := 1) (q := 312) hC dL_areObjects_311 rfl rfl rfl ?_
            refine v_bipush (q := 314) (v := 40) hC dL_areObjects_312 rfl (by decide) ?_
            refine v_iload (q := 316) hC dL_areObjects_314 rfl rfl ?_
            refine v_iadd (q := 317) hC dL_areObjects_316 rfl ?_
            refine v_ialdV (q := 318) hC dL_areObjects_317 rfl rfl rfl (i := 40 + k) (nI_add 40 k) (by first | decide | omega) (by decide) (NxR z (by decide) (by decide) (hpc)) ?_
            refine v_icmp_gt (q := 575) (q2 := 321) hC dL_areObjects_318 (by decide) rfl (fun c_318 => ?_) (fun c_318 => ?_)
            · exact absurd c_318 (nI_nlt (by omega) (by omega))
            · refine v_iload (q := 323) hC dL_areObjects_321 rfl rfl ?_
              refine v_if_eq (q := 575) (q2 := 326) hC dL_areObjects_323 (by decide) rfl (fun c_323 => ?_) (fun c_323 => ?_)
              · exact absurd c_323 (by decide)
              · refine v_aload_n (i := 2) (q := 327) hC dL_areObjects_326 rfl rfl rfl ?_
                refine v_bipush (q := 329) (v := 6) hC dL_areObjects_327 rfl (by decide) ?_
                refine v_iload (q := 331) hC dL_areObjects_329 rfl rfl ?_
                refine v_imul (q := 332) hC dL_areObjects_331 rfl ?_
                refine v_iload (q := 334) hC dL_areObjects_332 rfl rfl ?_
                refine v_bipush (q := 336) (v := 6) hC dL_areObjects_334 rfl (by decide) ?_
                refine v_icmp_ge (q := 344) (q2 := 339) hC dL_areObjects_336 (by decide) rfl (fun c_336 => ?_) (fun c_336 => ?_)
                · refine v_iconst (q := 345) (v := 5) hC dL_areObjects_344 rfl (by decide) ?_
                  refine v_iadd (q := 346) hC dL_areObjects_345 rfl ?_
                  refine v_ialdV (q := 347) hC dL_areObjects_346 rfl rfl rfl (i := 6 * k + 5) (by rw [show (6 : Int32) = nI 6 from rfl, nI_mul, show (5 : Int32) = nI 5 from rfl, nI_add]) (by first | decide | omega) (by decide) (NxR z (by decide) (by decide) (rfl)) ?_
                  exact N _ _ z
                · exact absurd (by rw [show j = 6 by omega]; decide) c_336
      · have hjc : j < mCt (G.2.1 0 30) k := by omega
        have cy : mEnt (G.2.1 0 30) (nI k) (nI j) = true := by rw [hD.ent (by omega) (by omega), decide_eq_true hk1, decide_eq_true hjc]; rfl
        have ek : (nI k).toNatClampNeg = k := nI_clamp (by omega)
        have ej : (nI j).toNatClampNeg = j := nI_clamp (by omega)
        obtain ⟨kd, m, r, a, b, ⟨q1, q2, q3⟩, ev, ⟨w0, w1, w2⟩, w3, w4⟩ := hD.ce hk hk1 hjc
        obtain ⟨⟨d1, d2⟩, ⟨d3, d4⟩, ⟨d5, -⟩, -⟩ := lCode_d kd q1 m q2 r q3 a b
        have vA := fun {G2 : GS} (z2 : Nx G G2 t) => (r_isAllowing hl Θ z2 ht (nI k) (nI j)).v (v2 := b2i a) (by rw [if_pos cy, gZ_b, ek, ej, w3, dec_b2i])
        have vR := fun {G2 : GS} (z2 : Nx G G2 t) => (r_rightsOfEntry hl Θ z2 ht (nI k) (nI j)).v (v2 := nI r) (by rw [if_pos cy, gI, ek, ej, w2])
        have vB := fun {G2 : GS} (z2 : Nx G G2 t) => (r_isForBelow hl Θ z2 ht (nI k) (nI j)).v (v2 := b2i b) (by rw [if_pos cy, gZ_b, ek, ej, w4, dec_b2i])
        have vU := fun {G2 : GS} (z2 : Nx G G2 t) => (r_userOfEntry hl Θ z2 ht (nI k) (nI j)).v (v2 := if nI kd = 0 then nI m else -1) (by rw [if_pos cy, gI, ek, ej, w0, w1])
        have vG := fun {G2 : GS} (z2 : Nx G G2 t) => (r_groupOfEntry hl Θ z2 ht (nI k) (nI j)).v (v2 := if nI kd = 1 then nI m else -1) (by rw [if_pos cy, gI, ek, ej, w0, w1])
        have vO := fun {G2 : GS} (z2 : Nx G G2 t) => (r_isForOwner hl Θ z2 ht (nI k) (nI j)).v (v2 := b2i (decide (nI kd = 2))) (by rw [if_pos cy, gZ_b, ek, ej, w0])
        refine v_iload (q := 306) hC dL_areObjects_304 rfl rfl ?_
        refine v_if_eq (q := 575) (q2 := 309) hC dL_areObjects_306 (by decide) rfl (fun c_306 => ?_) (fun c_306 => ?_)
        · exact absurd c_306 (by decide)
        · refine v_iload (q := 311) hC dL_areObjects_309 rfl rfl ?_
          refine v_aload_n (i := 1) (q := 312) hC dL_areObjects_311 rfl rfl rfl ?_
          refine v_bipush (q := 314) (v := 40) hC dL_areObjects_312 rfl (by decide) ?_
          refine v_iload (q := 316) hC dL_areObjects_314 rfl rfl ?_
          refine v_iadd (q := 317) hC dL_areObjects_316 rfl ?_
          refine v_ialdV (q := 318) hC dL_areObjects_317 rfl rfl rfl (i := 40 + k) (nI_add 40 k) (by first | decide | omega) (by decide) (NxR z (by decide) (by decide) (hpc)) ?_
          refine v_icmp_gt (q := 575) (q2 := 321) hC dL_areObjects_318 (by decide) rfl (fun c_318 => ?_) (fun c_318 => ?_)
          · exact absurd c_318 (nI_nlt (by omega) (by omega))
          · refine v_iload (q := 323) hC dL_areObjects_321 rfl rfl ?_
            refine v_if_eq (q := 575) (q2 := 326) hC dL_areObjects_323 (by decide) rfl (fun c_323 => ?_) (fun c_323 => ?_)
            · exact absurd c_323 (by decide)
            · refine v_aload_n (i := 2) (q := 327) hC dL_areObjects_326 rfl rfl rfl ?_
              refine v_bipush (q := 329) (v := 6) hC dL_areObjects_327 rfl (by decide) ?_
              refine v_iload (q := 331) hC dL_areObjects_329 rfl rfl ?_
              refine v_imul (q := 332) hC dL_areObjects_331 rfl ?_
              refine v_iload (q := 334) hC dL_areObjects_332 rfl rfl ?_
              refine v_bipush (q := 336) (v := 6) hC dL_areObjects_334 rfl (by decide) ?_
              refine v_icmp_ge (q := 344) (q2 := 339) hC dL_areObjects_336 (by decide) rfl (fun c_336 => ?_) (fun c_336 => ?_)
              · exact absurd c_336 (by rw [show (6 : Int32) = nI 6 from rfl]; exact nI_ge (by omega) (by omega))
              · refine v_iload (q := 341) hC dL_areObjects_339 rfl rfl ?_
                refine v_goto (q := 345) hC dL_areObjects_341 (by decide) ?_
                refine v_iadd (q := 346) hC dL_areObjects_345 rfl ?_
                refine v_ialdV (q := 347) hC dL_areObjects_346 rfl rfl rfl (i := 6 * k + j) (by rw [show (6 : Int32) = nI 6 from rfl, nI_mul, nI_add]) (by first | decide | omega) (by decide) (NxR z (by decide) (by decide) (ev)) ?_
                refine v_istore (q := 349) hC dL_areObjects_347 rfl (lvc rfl) (Nat.le_of_ble_eq_true rfl) (Nat.le_of_ble_eq_true rfl) rfl ?_
                refine v_iload (q := 351) hC dL_areObjects_349 rfl rfl ?_
                refine v_bipush (q := 353) (v := 10) hC dL_areObjects_351 rfl (by decide) ?_
                refine v_ishr (q := 354) hC dL_areObjects_353 rfl ?_
                rw [d2]
                refine v_istore (q := 356) hC dL_areObjects_354 rfl (lvc rfl) (Nat.le_of_ble_eq_true rfl) (Nat.le_of_ble_eq_true rfl) rfl ?_
                refine v_iload (q := 358) hC dL_areObjects_356 rfl rfl ?_
                refine v_bipush (q := 360) (v := 6) hC dL_areObjects_358 rfl (by decide) ?_
                refine v_ishr (q := 361) hC dL_areObjects_360 rfl ?_
                refine v_bipush (q := 363) (v := 15) hC dL_areObjects_361 rfl (by decide) ?_
                refine v_iand (q := 364) hC dL_areObjects_363 rfl ?_
                rw [d1]
                refine v_istore (q := 366) hC dL_areObjects_364 rfl (lvc rfl) (Nat.le_of_ble_eq_true rfl) (Nat.le_of_ble_eq_true rfl) rfl ?_
                refine v_iload (q := 368) hC dL_areObjects_366 rfl rfl ?_
                refine v_aload_n (i := 1) (q := 369) hC dL_areObjects_368 rfl rfl rfl ?_
                refine v_bipush (q := 371) (v := 40) hC dL_areObjects_369 rfl (by decide) ?_
                refine v_iload (q := 373) hC dL_areObjects_371 rfl rfl ?_
                refine v_iadd (q := 374) hC dL_areObjects_373 rfl ?_
                refine v_ialdV (q := 375) hC dL_areObjects_374 rfl rfl rfl (i := 40 + k) (nI_add 40 k) (by first | decide | omega) (by decide) (NxR z (by decide) (by decide) (hpc)) ?_
                refine v_icmp_ne (q := 382) (q2 := 378) hC dL_areObjects_375 (by decide) rfl (fun c_375 => ?_) (fun c_375 => ?_)
                · refine v_iconst (q := 383) (v := 0) hC dL_areObjects_382 rfl (by decide) ?_
                  refine v_istore (q := 385) hC dL_areObjects_383 rfl (lvc rfl) (Nat.le_of_ble_eq_true rfl) (Nat.le_of_ble_eq_true rfl) rfl ?_
                  refine v_aload_n (i := 0) (q := 386) hC dL_areObjects_385 rfl rfl rfl ?_
                  refine v_iload (q := 388) hC dL_areObjects_386 rfl rfl ?_
                  refine v_iload (q := 390) hC dL_areObjects_388 rfl rfl ?_
                  refine v_callR (q := 393) (rm := rm_L_isAllowingOf) hC (vA z) kh_L_isAllowingOf ml_RL_250 dL_areObjects_390 rfl rfl rfl (Nat.le_of_ble_eq_true rfl) ⟨Nat.le_of_ble_eq_true rfl, Nat.le_of_ble_eq_true rfl⟩ (c1 := 2) (s1 := 12) rfl rfl ⟨show _ + 2 ≤ 910 by omega, show _ + 12 ≤ 5460 by omega⟩ (rQ_k (fun G_390 z_390 => ?_)) rQ_n
                  try dsimp only [Option.toList, List.cons_append, List.nil_append]
                  refine v_iload (q := 395) hC dL_areObjects_393 rfl rfl ?_
                  refine v_if_eq (q := 403) (q2 := 398) hC dL_areObjects_395 (by decide) rfl (fun c_395 => ?_) (fun c_395 => ?_)
                  · refine v_iload (q := 405) hC dL_areObjects_403 rfl rfl ?_
                    refine v_iconst (q := 406) (v := 1) hC dL_areObjects_405 rfl (by decide) ?_
                    refine v_ishr (q := 407) hC dL_areObjects_406 rfl ?_
                    refine v_iconst (q := 408) (v := 1) hC dL_areObjects_407 rfl (by decide) ?_
                    refine v_iand (q := 409) hC dL_areObjects_408 rfl ?_
                    rw [d4]
                    refine v_icmp_ne (q := 566) (q2 := 412) hC dL_areObjects_409 (by decide) rfl (fun c_409 => ?_) (fun c_409 => ?_)
                    · exact absurd rfl c_409
                    · refine v_aload_n (i := 0) (q := 413) hC dL_areObjects_412 rfl rfl rfl ?_
                      refine v_iload (q := 415) hC dL_areObjects_413 rfl rfl ?_
                      refine v_iload (q := 417) hC dL_areObjects_415 rfl rfl ?_
                      refine v_callR (q := 420) (rm := rm_L_rightsOfEntryOf) hC (vR z_390) kh_L_rightsOfEntryOf ml_RL_253 dL_areObjects_417 rfl rfl rfl (Nat.le_of_ble_eq_true rfl) ⟨Nat.le_of_ble_eq_true rfl, Nat.le_of_ble_eq_true rfl⟩ (c1 := 2) (s1 := 12) rfl rfl ⟨show _ + 2 ≤ 910 by omega, show _ + 12 ≤ 5460 by omega⟩ (rQ_k (fun G_417 z_417 => ?_)) rQ_n
                      try dsimp only [Option.toList, List.cons_append, List.nil_append]
                      refine v_iload (q := 422) hC dL_areObjects_420 rfl rfl ?_
                      refine v_if_eq (q := 430) (q2 := 425) hC dL_areObjects_422 (by decide) rfl (fun c_422 => ?_) (fun c_422 => ?_)
                      · refine v_iload (q := 432) hC dL_areObjects_430 rfl rfl ?_
                        refine v_iconst (q := 433) (v := 2) hC dL_areObjects_432 rfl (by decide) ?_
                        refine v_ishr (q := 434) hC dL_areObjects_433 rfl ?_
                        refine v_bipush (q := 436) (v := 15) hC dL_areObjects_434 rfl (by decide) ?_
                        refine v_iand (q := 437) hC dL_areObjects_436 rfl ?_
                        rw [d3]
                        refine v_icmp_ne (q := 566) (q2 := 440) hC dL_areObjects_437 (by decide) rfl (fun c_437 => ?_) (fun c_437 => ?_)
                        · exact absurd rfl c_437
                        · refine v_aload_n (i := 0) (q := 441) hC dL_areObjects_440 rfl rfl rfl ?_
                          refine v_iload (q := 443) hC dL_areObjects_441 rfl rfl ?_
                          refine v_iload (q := 445) hC dL_areObjects_443 rfl rfl ?_
                          refine v_callR (q := 448) (rm := rm_L_userOfEntryOf) hC (vU z_417) kh_L_userOfEntryOf ml_RL_256 dL_areObjects_445 rfl rfl rfl (Nat.le_of_ble_eq_true rfl) ⟨Nat.le_of_ble_eq_true rfl, Nat.le_of_ble_eq_true rfl⟩ (c1 := 2) (s1 := 12) rfl rfl ⟨show _ + 2 ≤ 910 by omega, show _ + 12 ≤ 5460 by omega⟩ (rQ_k (fun G_445 z_445 => ?_)) rQ_n
                          try dsimp only [Option.toList, List.cons_append, List.nil_append]
                          refine v_iload (q := 450) hC dL_areObjects_448 rfl rfl ?_
                          refine v_if_eq (q := 458) (q2 := 453) hC dL_areObjects_450 (by decide) rfl (fun c_450 => ?_) (fun c_450 => ?_)
                          · refine v_iload (q := 460) hC dL_areObjects_458 rfl rfl ?_
                            refine v_if_ne (q := 468) (q2 := 463) hC dL_areObjects_460 (by decide) rfl (fun c_460 => ?_) (fun c_460 => ?_)
                            · refine v_iconst (q := 469) (v := (-1)) hC dL_areObjects_468 rfl (by decide) ?_
                              refine v_icmp_ne (q := 566) (q2 := 472) hC dL_areObjects_469 (by decide) rfl (fun c_469 => ?_) (fun c_469 => ?_)
                              · first | exact absurd (if_neg c_460) c_469 | exact absurd (if_pos c_460) c_469
                              · refine v_aload_n (i := 0) (q := 473) hC dL_areObjects_472 rfl rfl rfl ?_
                                refine v_iload (q := 475) hC dL_areObjects_473 rfl rfl ?_
                                refine v_iload (q := 477) hC dL_areObjects_475 rfl rfl ?_
                                refine v_callR (q := 480) (rm := rm_L_groupOfEntryOf) hC (vG z_445) kh_L_groupOfEntryOf ml_RL_259 dL_areObjects_477 rfl rfl rfl (Nat.le_of_ble_eq_true rfl) ⟨Nat.le_of_ble_eq_true rfl, Nat.le_of_ble_eq_true rfl⟩ (c1 := 2) (s1 := 12) rfl rfl ⟨show _ + 2 ≤ 910 by omega, show _ + 12 ≤ 5460 by omega⟩ (rQ_k (fun G_477 z_477 => ?_)) rQ_n
                                try dsimp only [Option.toList, List.cons_append, List.nil_append]
                                refine v_iload (q := 482) hC dL_areObjects_480 rfl rfl ?_
                                refine v_if_eq (q := 490) (q2 := 485) hC dL_areObjects_482 (by decide) rfl (fun c_482 => ?_) (fun c_482 => ?_)
                                · refine v_iload (q := 492) hC dL_areObjects_490 rfl rfl ?_
                                  refine v_iconst (q := 493) (v := 1) hC dL_areObjects_492 rfl (by decide) ?_
                                  refine v_icmp_ne (q := 501) (q2 := 496) hC dL_areObjects_493 (by decide) rfl (fun c_493 => ?_) (fun c_493 => ?_)
                                  · refine v_iconst (q := 502) (v := (-1)) hC dL_areObjects_501 rfl (by decide) ?_
                                    refine v_icmp_ne (q := 566) (q2 := 505) hC dL_areObjects_502 (by decide) rfl (fun c_502 => ?_) (fun c_502 => ?_)
                                    · first | exact absurd (if_neg c_493) c_502 | exact absurd (if_pos c_493) c_502
                                    · refine v_aload_n (i := 0) (q := 506) hC dL_areObjects_505 rfl rfl rfl ?_
                                      refine v_iload (q := 508) hC dL_areObjects_506 rfl rfl ?_
                                      refine v_iload (q := 510) hC dL_areObjects_508 rfl rfl ?_
                                      refine v_callR (q := 513) (rm := rm_L_isForOwnerOf) hC (vO z_477) kh_L_isForOwnerOf ml_RL_262 dL_areObjects_510 rfl rfl rfl (Nat.le_of_ble_eq_true rfl) ⟨Nat.le_of_ble_eq_true rfl, Nat.le_of_ble_eq_true rfl⟩ (c1 := 2) (s1 := 12) rfl rfl ⟨show _ + 2 ≤ 910 by omega, show _ + 12 ≤ 5460 by omega⟩ (rQ_k (fun G_510 z_510 => ?_)) rQ_n
                                      try dsimp only [Option.toList, List.cons_append, List.nil_append]
                                      refine v_iload (q := 515) hC dL_areObjects_513 rfl rfl ?_
                                      refine v_if_eq (q := 523) (q2 := 518) hC dL_areObjects_515 (by decide) rfl (fun c_515 => ?_) (fun c_515 => ?_)
                                      · refine v_iload (q := 525) hC dL_areObjects_523 rfl rfl ?_
                                        refine v_iconst (q := 526) (v := 2) hC dL_areObjects_525 rfl (by decide) ?_
                                        refine v_icmp_ne (q := 533) (q2 := 529) hC dL_areObjects_526 (by decide) rfl (fun c_526 => ?_) (fun c_526 => ?_)
                                        · refine v_iconst (q := 534) (v := 0) hC dL_areObjects_533 rfl (by decide) ?_
                                          refine v_icmp_ne (q := 566) (q2 := 537) hC dL_areObjects_534 (by decide) rfl (fun c_534 => ?_) (fun c_534 => ?_)
                                          · first | exact absurd (by rw [decide_eq_true c_526]; rfl) c_534 | exact absurd (by rw [decide_eq_false c_526]; rfl) c_534
                                          · refine v_aload_n (i := 0) (q := 538) hC dL_areObjects_537 rfl rfl rfl ?_
                                            refine v_iload (q := 540) hC dL_areObjects_538 rfl rfl ?_
                                            refine v_iload (q := 542) hC dL_areObjects_540 rfl rfl ?_
                                            refine v_callR (q := 545) (rm := rm_L_isForBelowOf) hC (vB z_510) kh_L_isForBelowOf ml_RL_265 dL_areObjects_542 rfl rfl rfl (Nat.le_of_ble_eq_true rfl) ⟨Nat.le_of_ble_eq_true rfl, Nat.le_of_ble_eq_true rfl⟩ (c1 := 2) (s1 := 12) rfl rfl ⟨show _ + 2 ≤ 910 by omega, show _ + 12 ≤ 5460 by omega⟩ (rQ_k (fun G_542 z_542 => ?_)) rQ_n
                                            try dsimp only [Option.toList, List.cons_append, List.nil_append]
                                            refine v_iload (q := 547) hC dL_areObjects_545 rfl rfl ?_
                                            refine v_if_eq (q := 555) (q2 := 550) hC dL_areObjects_547 (by decide) rfl (fun c_547 => ?_) (fun c_547 => ?_)
                                            · refine v_iload (q := 557) hC dL_areObjects_555 rfl rfl ?_
                                              refine v_iconst (q := 558) (v := 1) hC dL_areObjects_557 rfl (by decide) ?_
                                              refine v_iand (q := 559) hC dL_areObjects_558 rfl ?_
                                              rw [d5]
                                              refine v_icmp_ne (q := 566) (q2 := 562) hC dL_areObjects_559 (by decide) rfl (fun c_559 => ?_) (fun c_559 => ?_)
                                              · exact absurd rfl c_559
                                              · refine v_iconst (q := 563) (v := 1) hC dL_areObjects_562 rfl (by decide) ?_
                                                refine v_goto (q := 567) hC dL_areObjects_563 (by decide) ?_
                                                refine v_istore (q := 569) hC dL_areObjects_567 rfl (lvc rfl) (Nat.le_of_ble_eq_true rfl) (Nat.le_of_ble_eq_true rfl) rfl ?_
                                                refine v_iinc (q := 572) (v := nI (j + 1)) hC dL_areObjects_569 rfl rfl (nI_1 j) (lvc rfl) (Nat.le_of_ble_eq_true rfl) (Nat.le_of_ble_eq_true rfl) rfl ?_
                                                refine v_goto (q := 304) hC dL_areObjects_572 (by decide) ?_
                                                exact v_widen (by omega) (by omega) (ih (j + 1) _ _ _ _ _ (by omega) z_542)
                                            · exact absurd rfl c_547
                                        · refine v_iconst (q := 530) (v := 1) hC dL_areObjects_529 rfl (by decide) ?_
                                          refine v_goto (q := 534) hC dL_areObjects_530 (by decide) ?_
                                          refine v_icmp_ne (q := 566) (q2 := 537) hC dL_areObjects_534 (by decide) rfl (fun c_534 => ?_) (fun c_534 => ?_)
                                          · first | exact absurd (by rw [decide_eq_true c_526]; rfl) c_534 | exact absurd (by rw [decide_eq_false c_526]; rfl) c_534
                                          · refine v_aload_n (i := 0) (q := 538) hC dL_areObjects_537 rfl rfl rfl ?_
                                            refine v_iload (q := 540) hC dL_areObjects_538 rfl rfl ?_
                                            refine v_iload (q := 542) hC dL_areObjects_540 rfl rfl ?_
                                            refine v_callR (q := 545) (rm := rm_L_isForBelowOf) hC (vB z_510) kh_L_isForBelowOf ml_RL_265 dL_areObjects_542 rfl rfl rfl (Nat.le_of_ble_eq_true rfl) ⟨Nat.le_of_ble_eq_true rfl, Nat.le_of_ble_eq_true rfl⟩ (c1 := 2) (s1 := 12) rfl rfl ⟨show _ + 2 ≤ 910 by omega, show _ + 12 ≤ 5460 by omega⟩ (rQ_k (fun G_542 z_542 => ?_)) rQ_n
                                            try dsimp only [Option.toList, List.cons_append, List.nil_append]
                                            refine v_iload (q := 547) hC dL_areObjects_545 rfl rfl ?_
                                            refine v_if_eq (q := 555) (q2 := 550) hC dL_areObjects_547 (by decide) rfl (fun c_547 => ?_) (fun c_547 => ?_)
                                            · refine v_iload (q := 557) hC dL_areObjects_555 rfl rfl ?_
                                              refine v_iconst (q := 558) (v := 1) hC dL_areObjects_557 rfl (by decide) ?_
                                              refine v_iand (q := 559) hC dL_areObjects_558 rfl ?_
                                              rw [d5]
                                              refine v_icmp_ne (q := 566) (q2 := 562) hC dL_areObjects_559 (by decide) rfl (fun c_559 => ?_) (fun c_559 => ?_)
                                              · exact absurd rfl c_559
                                              · refine v_iconst (q := 563) (v := 1) hC dL_areObjects_562 rfl (by decide) ?_
                                                refine v_goto (q := 567) hC dL_areObjects_563 (by decide) ?_
                                                refine v_istore (q := 569) hC dL_areObjects_567 rfl (lvc rfl) (Nat.le_of_ble_eq_true rfl) (Nat.le_of_ble_eq_true rfl) rfl ?_
                                                refine v_iinc (q := 572) (v := nI (j + 1)) hC dL_areObjects_569 rfl rfl (nI_1 j) (lvc rfl) (Nat.le_of_ble_eq_true rfl) (Nat.le_of_ble_eq_true rfl) rfl ?_
                                                refine v_goto (q := 304) hC dL_areObjects_572 (by decide) ?_
                                                exact v_widen (by omega) (by omega) (ih (j + 1) _ _ _ _ _ (by omega) z_542)
                                            · exact absurd rfl c_547
                                      · exact absurd rfl c_515
                                  · refine v_iload (q := 498) hC dL_areObjects_496 rfl rfl ?_
                                    refine v_goto (q := 502) hC dL_areObjects_498 (by decide) ?_
                                    refine v_icmp_ne (q := 566) (q2 := 505) hC dL_areObjects_502 (by decide) rfl (fun c_502 => ?_) (fun c_502 => ?_)
                                    · first | exact absurd (if_neg c_493) c_502 | exact absurd (if_pos c_493) c_502
                                    · refine v_aload_n (i := 0) (q := 506) hC dL_areObjects_505 rfl rfl rfl ?_
                                      refine v_iload (q := 508) hC dL_areObjects_506 rfl rfl ?_
                                      refine v_iload (q := 510) hC dL_areObjects_508 rfl rfl ?_
                                      refine v_callR (q := 513) (rm := rm_L_isForOwnerOf) hC (vO z_477) kh_L_isForOwnerOf ml_RL_262 dL_areObjects_510 rfl rfl rfl (Nat.le_of_ble_eq_true rfl) ⟨Nat.le_of_ble_eq_true rfl, Nat.le_of_ble_eq_true rfl⟩ (c1 := 2) (s1 := 12) rfl rfl ⟨show _ + 2 ≤ 910 by omega, show _ + 12 ≤ 5460 by omega⟩ (rQ_k (fun G_510 z_510 => ?_)) rQ_n
                                      try dsimp only [Option.toList, List.cons_append, List.nil_append]
                                      refine v_iload (q := 515) hC dL_areObjects_513 rfl rfl ?_
                                      refine v_if_eq (q := 523) (q2 := 518) hC dL_areObjects_515 (by decide) rfl (fun c_515 => ?_) (fun c_515 => ?_)
                                      · refine v_iload (q := 525) hC dL_areObjects_523 rfl rfl ?_
                                        refine v_iconst (q := 526) (v := 2) hC dL_areObjects_525 rfl (by decide) ?_
                                        refine v_icmp_ne (q := 533) (q2 := 529) hC dL_areObjects_526 (by decide) rfl (fun c_526 => ?_) (fun c_526 => ?_)
                                        · refine v_iconst (q := 534) (v := 0) hC dL_areObjects_533 rfl (by decide) ?_
                                          refine v_icmp_ne (q := 566) (q2 := 537) hC dL_areObjects_534 (by decide) rfl (fun c_534 => ?_) (fun c_534 => ?_)
                                          · first | exact absurd (by rw [decide_eq_true c_526]; rfl) c_534 | exact absurd (by rw [decide_eq_false c_526]; rfl) c_534
                                          · refine v_aload_n (i := 0) (q := 538) hC dL_areObjects_537 rfl rfl rfl ?_
                                            refine v_iload (q := 540) hC dL_areObjects_538 rfl rfl ?_
                                            refine v_iload (q := 542) hC dL_areObjects_540 rfl rfl ?_
                                            refine v_callR (q := 545) (rm := rm_L_isForBelowOf) hC (vB z_510) kh_L_isForBelowOf ml_RL_265 dL_areObjects_542 rfl rfl rfl (Nat.le_of_ble_eq_true rfl) ⟨Nat.le_of_ble_eq_true rfl, Nat.le_of_ble_eq_true rfl⟩ (c1 := 2) (s1 := 12) rfl rfl ⟨show _ + 2 ≤ 910 by omega, show _ + 12 ≤ 5460 by omega⟩ (rQ_k (fun G_542 z_542 => ?_)) rQ_n
                                            try dsimp only [Option.toList, List.cons_append, List.nil_append]
                                            refine v_iload (q := 547) hC dL_areObjects_545 rfl rfl ?_
                                            refine v_if_eq (q := 555) (q2 := 550) hC dL_areObjects_547 (by decide) rfl (fun c_547 => ?_) (fun c_547 => ?_)
                                            · refine v_iload (q := 557) hC dL_areObjects_555 rfl rfl ?_
                                              refine v_iconst (q := 558) (v := 1) hC dL_areObjects_557 rfl (by decide) ?_
                                              refine v_iand (q := 559) hC dL_areObjects_558 rfl ?_
                                              rw [d5]
                                              refine v_icmp_ne (q := 566) (q2 := 562) hC dL_areObjects_559 (by decide) rfl (fun c_559 => ?_) (fun c_559 => ?_)
                                              · exact absurd rfl c_559
                                              · refine v_iconst (q := 563) (v := 1) hC dL_areObjects_562 rfl (by decide) ?_
                                                refine v_goto (q := 567) hC dL_areObjects_563 (by decide) ?_
                                                refine v_istore (q := 569) hC dL_areObjects_567 rfl (lvc rfl) (Nat.le_of_ble_eq_true rfl) (Nat.le_of_ble_eq_true rfl) rfl ?_
                                                refine v_iinc (q := 572) (v := nI (j + 1)) hC dL_areObjects_569 rfl rfl (nI_1 j) (lvc rfl) (Nat.le_of_ble_eq_true rfl) (Nat.le_of_ble_eq_true rfl) rfl ?_
                                                refine v_goto (q := 304) hC dL_areObjects_572 (by decide) ?_
                                                exact v_widen (by omega) (by omega) (ih (j + 1) _ _ _ _ _ (by omega) z_542)
                                            · exact absurd rfl c_547
                                        · refine v_iconst (q := 530) (v := 1) hC dL_areObjects_529 rfl (by decide) ?_
                                          refine v_goto (q := 534) hC dL_areObjects_530 (by decide) ?_
                                          refine v_icmp_ne (q := 566) (q2 := 537) hC dL_areObjects_534 (by decide) rfl (fun c_534 => ?_) (fun c_534 => ?_)
                                          · first | exact absurd (by rw [decide_eq_true c_526]; rfl) c_534 | exact absurd (by rw [decide_eq_false c_526]; rfl) c_534
                                          · refine v_aload_n (i := 0) (q := 538) hC dL_areObjects_537 rfl rfl rfl ?_
                                            refine v_iload (q := 540) hC dL_areObjects_538 rfl rfl ?_
                                            refine v_iload (q := 542) hC dL_areObjects_540 rfl rfl ?_
                                            refine v_callR (q := 545) (rm := rm_L_isForBelowOf) hC (vB z_510) kh_L_isForBelowOf ml_RL_265 dL_areObjects_542 rfl rfl rfl (Nat.le_of_ble_eq_true rfl) ⟨Nat.le_of_ble_eq_true rfl, Nat.le_of_ble_eq_true rfl⟩ (c1 := 2) (s1 := 12) rfl rfl ⟨show _ + 2 ≤ 910 by omega, show _ + 12 ≤ 5460 by omega⟩ (rQ_k (fun G_542 z_542 => ?_)) rQ_n
                                            try dsimp only [Option.toList, List.cons_append, List.nil_append]
                                            refine v_iload (q := 547) hC dL_areObjects_545 rfl rfl ?_
                                            refine v_if_eq (q := 555) (q2 := 550) hC dL_areObjects_547 (by decide) rfl (fun c_547 => ?_) (fun c_547 => ?_)
                                            · refine v_iload (q := 557) hC dL_areObjects_555 rfl rfl ?_
                                              refine v_iconst (q := 558) (v := 1) hC dL_areObjects_557 rfl (by decide) ?_
                                              refine v_iand (q := 559) hC dL_areObjects_558 rfl ?_
                                              rw [d5]
                                              refine v_icmp_ne (q := 566) (q2 := 562) hC dL_areObjects_559 (by decide) rfl (fun c_559 => ?_) (fun c_559 => ?_)
                                              · exact absurd rfl c_559
                                              · refine v_iconst (q := 563) (v := 1) hC dL_areObjects_562 rfl (by decide) ?_
                                                refine v_goto (q := 567) hC dL_areObjects_563 (by decide) ?_
                                                refine v_istore (q := 569) hC dL_areObjects_567 rfl (lvc rfl) (Nat.le_of_ble_eq_true rfl) (Nat.le_of_ble_eq_true rfl) rfl ?_
                                                refine v_iinc (q := 572) (v := nI (j + 1)) hC dL_areObjects_569 rfl rfl (nI_1 j) (lvc rfl) (Nat.le_of_ble_eq_true rfl) (Nat.le_of_ble_eq_true rfl) rfl ?_
                                                refine v_goto (q := 304) hC dL_areObjects_572 (by decide) ?_
                                                exact v_widen (by omega) (by omega) (ih (j + 1) _ _ _ _ _ (by omega) z_542)
                                            · exact absurd rfl c_547
                                      · exact absurd rfl c_515
                                · exact absurd rfl c_482
                            · refine v_iload (q := 465) hC dL_areObjects_463 rfl rfl ?_
                              refine v_goto (q := 469) hC dL_areObjects_465 (by decide) ?_
                              refine v_icmp_ne (q := 566) (q2 := 472) hC dL_areObjects_469 (by decide) rfl (fun c_469 => ?_) (fun c_469 => ?_)
                              · first | exact absurd (if_neg c_460) c_469 | exact absurd (if_pos c_460) c_469
                              · refine v_aload_n (i := 0) (q := 473) hC dL_areObjects_472 rfl rfl rfl ?_
                                refine v_iload (q := 475) hC dL_areObjects_473 rfl rfl ?_
                                refine v_iload (q := 477) hC dL_areObjects_475 rfl rfl ?_
                                refine v_callR (q := 480) (rm := rm_L_groupOfEntryOf) hC (vG z_445) kh_L_groupOfEntryOf ml_RL_259 dL_areObjects_477 rfl rfl rfl (Nat.le_of_ble_eq_true rfl) ⟨Nat.le_of_ble_eq_true rfl, Nat.le_of_ble_eq_true rfl⟩ (c1 := 2) (s1 := 12) rfl rfl ⟨show _ + 2 ≤ 910 by omega, show _ + 12 ≤ 5460 by omega⟩ (rQ_k (fun G_477 z_477 => ?_)) rQ_n
                                try dsimp only [Option.toList, List.cons_append, List.nil_append]
                                refine v_iload (q := 482) hC dL_areObjects_480 rfl rfl ?_
                                refine v_if_eq (q := 490) (q2 := 485) hC dL_areObjects_482 (by decide) rfl (fun c_482 => ?_) (fun c_482 => ?_)
                                · refine v_iload (q := 492) hC dL_areObjects_490 rfl rfl ?_
                                  refine v_iconst (q := 493) (v := 1) hC dL_areObjects_492 rfl (by decide) ?_
                                  refine v_icmp_ne (q := 501) (q2 := 496) hC dL_areObjects_493 (by decide) rfl (fun c_493 => ?_) (fun c_493 => ?_)
                                  · refine v_iconst (q := 502) (v := (-1)) hC dL_areObjects_501 rfl (by decide) ?_
                                    refine v_icmp_ne (q := 566) (q2 := 505) hC dL_areObjects_502 (by decide) rfl (fun c_502 => ?_) (fun c_502 => ?_)
                                    · first | exact absurd (if_neg c_493) c_502 | exact absurd (if_pos c_493) c_502
                                    · refine v_aload_n (i := 0) (q := 506) hC dL_areObjects_505 rfl rfl rfl ?_
                                      refine v_iload (q := 508) hC dL_areObjects_506 rfl rfl ?_
                                      refine v_iload (q := 510) hC dL_areObjects_508 rfl rfl ?_
                                      refine v_callR (q := 513) (rm := rm_L_isForOwnerOf) hC (vO z_477) kh_L_isForOwnerOf ml_RL_262 dL_areObjects_510 rfl rfl rfl (Nat.le_of_ble_eq_true rfl) ⟨Nat.le_of_ble_eq_true rfl, Nat.le_of_ble_eq_true rfl⟩ (c1 := 2) (s1 := 12) rfl rfl ⟨show _ + 2 ≤ 910 by omega, show _ + 12 ≤ 5460 by omega⟩ (rQ_k (fun G_510 z_510 => ?_)) rQ_n
                                      try dsimp only [Option.toList, List.cons_append, List.nil_append]
                                      refine v_iload (q := 515) hC dL_areObjects_513 rfl rfl ?_
                                      refine v_if_eq (q := 523) (q2 := 518) hC dL_areObjects_515 (by decide) rfl (fun c_515 => ?_) (fun c_515 => ?_)
                                      · refine v_iload (q := 525) hC dL_areObjects_523 rfl rfl ?_
                                        refine v_iconst (q := 526) (v := 2) hC dL_areObjects_525 rfl (by decide) ?_
                                        refine v_icmp_ne (q := 533) (q2 := 529) hC dL_areObjects_526 (by decide) rfl (fun c_526 => ?_) (fun c_526 => ?_)
                                        · refine v_iconst (q := 534) (v := 0) hC dL_areObjects_533 rfl (by decide) ?_
                                          refine v_icmp_ne (q := 566) (q2 := 537) hC dL_areObjects_534 (by decide) rfl (fun c_534 => ?_) (fun c_534 => ?_)
                                          · first | exact absurd (by rw [decide_eq_true c_526]; rfl) c_534 | exact absurd (by rw [decide_eq_false c_526]; rfl) c_534
                                          · refine v_aload_n (i := 0) (q := 538) hC dL_areObjects_537 rfl rfl rfl ?_
                                            refine v_iload (q := 540) hC dL_areObjects_538 rfl rfl ?_
                                            refine v_iload (q := 542) hC dL_areObjects_540 rfl rfl ?_
                                            refine v_callR (q := 545) (rm := rm_L_isForBelowOf) hC (vB z_510) kh_L_isForBelowOf ml_RL_265 dL_areObjects_542 rfl rfl rfl (Nat.le_of_ble_eq_true rfl) ⟨Nat.le_of_ble_eq_true rfl, Nat.le_of_ble_eq_true rfl⟩ (c1 := 2) (s1 := 12) rfl rfl ⟨show _ + 2 ≤ 910 by omega, show _ + 12 ≤ 5460 by omega⟩ (rQ_k (fun G_542 z_542 => ?_)) rQ_n
                                            try dsimp only [Option.toList, List.cons_append, List.nil_append]
                                            refine v_iload (q := 547) hC dL_areObjects_545 rfl rfl ?_
                                            refine v_if_eq (q := 555) (q2 := 550) hC dL_areObjects_547 (by decide) rfl (fun c_547 => ?_) (fun c_547 => ?_)
                                            · refine v_iload (q := 557) hC dL_areObjects_555 rfl rfl ?_
                                              refine v_iconst (q := 558) (v := 1) hC dL_areObjects_557 rfl (by decide) ?_
                                              refine v_iand (q := 559) hC dL_areObjects_558 rfl ?_
                                              rw [d5]
                                              refine v_icmp_ne (q := 566) (q2 := 562) hC dL_areObjects_559 (by decide) rfl (fun c_559 => ?_) (fun c_559 => ?_)
                                              · exact absurd rfl c_559
                                              · refine v_iconst (q := 563) (v := 1) hC dL_areObjects_562 rfl (by decide) ?_
                                                refine v_goto (q := 567) hC dL_areObjects_563 (by decide) ?_
                                                refine v_istore (q := 569) hC dL_areObjects_567 rfl (lvc rfl) (Nat.le_of_ble_eq_true rfl) (Nat.le_of_ble_eq_true rfl) rfl ?_
                                                refine v_iinc (q := 572) (v := nI (j + 1)) hC dL_areObjects_569 rfl rfl (nI_1 j) (lvc rfl) (Nat.le_of_ble_eq_true rfl) (Nat.le_of_ble_eq_true rfl) rfl ?_
                                                refine v_goto (q := 304) hC dL_areObjects_572 (by decide) ?_
                                                exact v_widen (by omega) (by omega) (ih (j + 1) _ _ _ _ _ (by omega) z_542)
                                            · exact absurd rfl c_547
                                        · refine v_iconst (q := 530) (v := 1) hC dL_areObjects_529 rfl (by decide) ?_
                                          refine v_goto (q := 534) hC dL_areObjects_530 (by decide) ?_
                                          refine v_icmp_ne (q := 566) (q2 := 537) hC dL_areObjects_534 (by decide) rfl (fun c_534 => ?_) (fun c_534 => ?_)
                                          · first | exact absurd (by rw [decide_eq_true c_526]; rfl) c_534 | exact absurd (by rw [decide_eq_false c_526]; rfl) c_534
                                          · refine v_aload_n (i := 0) (q := 538) hC dL_areObjects_537 rfl rfl rfl ?_
                                            refine v_iload (q := 540) hC dL_areObjects_538 rfl rfl ?_
                                            refine v_iload (q := 542) hC dL_areObjects_540 rfl rfl ?_
                                            refine v_callR (q := 545) (rm := rm_L_isForBelowOf) hC (vB z_510) kh_L_isForBelowOf ml_RL_265 dL_areObjects_542 rfl rfl rfl (Nat.le_of_ble_eq_true rfl) ⟨Nat.le_of_ble_eq_true rfl, Nat.le_of_ble_eq_true rfl⟩ (c1 := 2) (s1 := 12) rfl rfl ⟨show _ + 2 ≤ 910 by omega, show _ + 12 ≤ 5460 by omega⟩ (rQ_k (fun G_542 z_542 => ?_)) rQ_n
                                            try dsimp only [Option.toList, List.cons_append, List.nil_append]
                                            refine v_iload (q := 547) hC dL_areObjects_545 rfl rfl ?_
                                            refine v_if_eq (q := 555) (q2 := 550) hC dL_areObjects_547 (by decide) rfl (fun c_547 => ?_) (fun c_547 => ?_)
                                            · refine v_iload (q := 557) hC dL_areObjects_555 rfl rfl ?_
                                              refine v_iconst (q := 558) (v := 1) hC dL_areObjects_557 rfl (by decide) ?_
                                              refine v_iand (q := 559) hC dL_areObjects_558 rfl ?_
                                              rw [d5]
                                              refine v_icmp_ne (q := 566) (q2 := 562) hC dL_areObjects_559 (by decide) rfl (fun c_559 => ?_) (fun c_559 => ?_)
                                              · exact absurd rfl c_559
                                              · refine v_iconst (q := 563) (v := 1) hC dL_areObjects_562 rfl (by decide) ?_
                                                refine v_goto (q := 567) hC dL_areObjects_563 (by decide) ?_
                                                refine v_istore (q := 569) hC dL_areObjects_567 rfl (lvc rfl) (Nat.le_of_ble_eq_true rfl) (Nat.le_of_ble_eq_true rfl) rfl ?_
                                                refine v_iinc (q := 572) (v := nI (j + 1)) hC dL_areObjects_569 rfl rfl (nI_1 j) (lvc rfl) (Nat.le_of_ble_eq_true rfl) (Nat.le_of_ble_eq_true rfl) rfl ?_
                                                refine v_goto (q := 304) hC dL_areObjects_572 (by decide) ?_
                                                exact v_widen (by omega) (by omega) (ih (j + 1) _ _ _ _ _ (by omega) z_542)
                                            · exact absurd rfl c_547
                                      · exact absurd rfl c_515
                                  · refine v_iload (q := 498) hC dL_areObjects_496 rfl rfl ?_
                                    refine v_goto (q := 502) hC dL_areObjects_498 (by decide) ?_
                                    refine v_icmp_ne (q := 566) (q2 := 505) hC dL_areObjects_502 (by decide) rfl (fun c_502 => ?_) (fun c_502 => ?_)
                                    · first | exact absurd (if_neg c_493) c_502 | exact absurd (if_pos c_493) c_502
                                    · refine v_aload_n (i := 0) (q := 506) hC dL_areObjects_505 rfl rfl rfl ?_
                                      refine v_iload (q := 508) hC dL_areObjects_506 rfl rfl ?_
                                      refine v_iload (q := 510) hC dL_areObjects_508 rfl rfl ?_
                                      refine v_callR (q := 513) (rm := rm_L_isForOwnerOf) hC (vO z_477) kh_L_isForOwnerOf ml_RL_262 dL_areObjects_510 rfl rfl rfl (Nat.le_of_ble_eq_true rfl) ⟨Nat.le_of_ble_eq_true rfl, Nat.le_of_ble_eq_true rfl⟩ (c1 := 2) (s1 := 12) rfl rfl ⟨show _ + 2 ≤ 910 by omega, show _ + 12 ≤ 5460 by omega⟩ (rQ_k (fun G_510 z_510 => ?_)) rQ_n
                                      try dsimp only [Option.toList, List.cons_append, List.nil_append]
                                      refine v_iload (q := 515) hC dL_areObjects_513 rfl rfl ?_
                                      refine v_if_eq (q := 523) (q2 := 518) hC dL_areObjects_515 (by decide) rfl (fun c_515 => ?_) (fun c_515 => ?_)
                                      · refine v_iload (q := 525) hC dL_areObjects_523 rfl rfl ?_
                                        refine v_iconst (q := 526) (v := 2) hC dL_areObjects_525 rfl (by decide) ?_
                                        refine v_icmp_ne (q := 533) (q2 := 529) hC dL_areObjects_526 (by decide) rfl (fun c_526 => ?_) (fun c_526 => ?_)
                                        · refine v_iconst (q := 534) (v := 0) hC dL_areObjects_533 rfl (by decide) ?_
                                          refine v_icmp_ne (q := 566) (q2 := 537) hC dL_areObjects_534 (by decide) rfl (fun c_534 => ?_) (fun c_534 => ?_)
                                          · first | exact absurd (by rw [decide_eq_true c_526]; rfl) c_534 | exact absurd (by rw [decide_eq_false c_526]; rfl) c_534
                                          · refine v_aload_n (i := 0) (q := 538) hC dL_areObjects_537 rfl rfl rfl ?_
                                            refine v_iload (q := 540) hC dL_areObjects_538 rfl rfl ?_
                                            refine v_iload (q := 542) hC dL_areObjects_540 rfl rfl ?_
                                            refine v_callR (q := 545) (rm := rm_L_isForBelowOf) hC (vB z_510) kh_L_isForBelowOf ml_RL_265 dL_areObjects_542 rfl rfl rfl (Nat.le_of_ble_eq_true rfl) ⟨Nat.le_of_ble_eq_true rfl, Nat.le_of_ble_eq_true rfl⟩ (c1 := 2) (s1 := 12) rfl rfl ⟨show _ + 2 ≤ 910 by omega, show _ + 12 ≤ 5460 by omega⟩ (rQ_k (fun G_542 z_542 => ?_)) rQ_n
                                            try dsimp only [Option.toList, List.cons_append, List.nil_append]
                                            refine v_iload (q := 547) hC dL_areObjects_545 rfl rfl ?_
                                            refine v_if_eq (q := 555) (q2 := 550) hC dL_areObjects_547 (by decide) rfl (fun c_547 => ?_) (fun c_547 => ?_)
                                            · refine v_iload (q := 557) hC dL_areObjects_555 rfl rfl ?_
                                              refine v_iconst (q := 558) (v := 1) hC dL_areObjects_557 rfl (by decide) ?_
                                              refine v_iand (q := 559) hC dL_areObjects_558 rfl ?_
                                              rw [d5]
                                              refine v_icmp_ne (q := 566) (q2 := 562) hC dL_areObjects_559 (by decide) rfl (fun c_559 => ?_) (fun c_559 => ?_)
                                              · exact absurd rfl c_559
                                              · refine v_iconst (q := 563) (v := 1) hC dL_areObjects_562 rfl (by decide) ?_
                                                refine v_goto (q := 567) hC dL_areObjects_563 (by decide) ?_
                                                refine v_istore (q := 569) hC dL_areObjects_567 rfl (lvc rfl) (Nat.le_of_ble_eq_true rfl) (Nat.le_of_ble_eq_true rfl) rfl ?_
                                                refine v_iinc (q := 572) (v := nI (j + 1)) hC dL_areObjects_569 rfl rfl (nI_1 j) (lvc rfl) (Nat.le_of_ble_eq_true rfl) (Nat.le_of_ble_eq_true rfl) rfl ?_
                                                refine v_goto (q := 304) hC dL_areObjects_572 (by decide) ?_
                                                exact v_widen (by omega) (by omega) (ih (j + 1) _ _ _ _ _ (by omega) z_542)
                                            · exact absurd rfl c_547
                                        · refine v_iconst (q := 530) (v := 1) hC dL_areObjects_529 rfl (by decide) ?_
                                          refine v_goto (q := 534) hC dL_areObjects_530 (by decide) ?_
                                          refine v_icmp_ne (q := 566) (q2 := 537) hC dL_areObjects_534 (by decide) rfl (fun c_534 => ?_) (fun c_534 => ?_)
                                          · first | exact absurd (by rw [decide_eq_true c_526]; rfl) c_534 | exact absurd (by rw [decide_eq_false c_526]; rfl) c_534
                                          · refine v_aload_n (i := 0) (q := 538) hC dL_areObjects_537 rfl rfl rfl ?_
                                            refine v_iload (q := 540) hC dL_areObjects_538 rfl rfl ?_
                                            refine v_iload (q := 542) hC dL_areObjects_540 rfl rfl ?_
                                            refine v_callR (q := 545) (rm := rm_L_isForBelowOf) hC (vB z_510) kh_L_isForBelowOf ml_RL_265 dL_areObjects_542 rfl rfl rfl (Nat.le_of_ble_eq_true rfl) ⟨Nat.le_of_ble_eq_true rfl, Nat.le_of_ble_eq_true rfl⟩ (c1 := 2) (s1 := 12) rfl rfl ⟨show _ + 2 ≤ 910 by omega, show _ + 12 ≤ 5460 by omega⟩ (rQ_k (fun G_542 z_542 => ?_)) rQ_n
                                            try dsimp only [Option.toList, List.cons_append, List.nil_append]
                                            refine v_iload (q := 547) hC dL_areObjects_545 rfl rfl ?_
                                            refine v_if_eq (q := 555) (q2 := 550) hC dL_areObjects_547 (by decide) rfl (fun c_547 => ?_) (fun c_547 => ?_)
                                            · refine v_iload (q := 557) hC dL_areObjects_555 rfl rfl ?_
                                              refine v_iconst (q := 558) (v := 1) hC dL_areObjects_557 rfl (by decide) ?_
                                              refine v_iand (q := 559) hC dL_areObjects_558 rfl ?_
                                              rw [d5]
                                              refine v_icmp_ne (q := 566) (q2 := 562) hC dL_areObjects_559 (by decide) rfl (fun c_559 => ?_) (fun c_559 => ?_)
                                              · exact absurd rfl c_559
                                              · refine v_iconst (q := 563) (v := 1) hC dL_areObjects_562 rfl (by decide) ?_
                                                refine v_goto (q := 567) hC dL_areObjects_563 (by decide) ?_
                                                refine v_istore (q := 569) hC dL_areObjects_567 rfl (lvc rfl) (Nat.le_of_ble_eq_true rfl) (Nat.le_of_ble_eq_true rfl) rfl ?_
                                                refine v_iinc (q := 572) (v := nI (j + 1)) hC dL_areObjects_569 rfl rfl (nI_1 j) (lvc rfl) (Nat.le_of_ble_eq_true rfl) (Nat.le_of_ble_eq_true rfl) rfl ?_
                                                refine v_goto (q := 304) hC dL_areObjects_572 (by decide) ?_
                                                exact v_widen (by omega) (by omega) (ih (j + 1) _ _ _ _ _ (by omega) z_542)
                                            · exact absurd rfl c_547
                                      · exact absurd rfl c_515
                                · exact absurd rfl c_482
                          · exact absurd rfl c_450
                      · exact absurd rfl c_422
                  · exact absurd rfl c_395
                · exact absurd ((nI_eq (by omega) (by omega)).mp c_375) hj
  -- one object
  have O : ∀ (k : Nat), k < 10 → (∀ (G2 : GS), Nx G G2 t → V p l e rm_L_areObjects s m args below meth c 13 Θ (rQ G t 1) 910 5460 (2 + 90 * k + 90) (12 + 540 * k + 540) 58 [some (.ref (tR Θ 0 14)), some (.ref (tR Θ 0 41)), some (.ref (tR Θ 0 42)), some (.ref (tR Θ 0 44)), some (.int 1), some (.int (nI (k + 1))), none, none, none, none, none, none, none] [] (G2)) → ∀ (G' : GS), Nx G G' t → V p l e rm_L_areObjects s m args below meth c 13 Θ (rQ G t 1) 910 5460 (2 + 90 * k) (12 + 540 * k) 135 [some (.ref (tR Θ 0 14)), some (.ref (tR Θ 0 41)), some (.ref (tR Θ 0 42)), some (.ref (tR Θ 0 44)), some (.int 1), some (.int (nI k)), some (.int (b2i (decide (G.2.1 0 30 (oA k 0) = 1)))), some (.int (mBls (G.2.1 0 30) (nI k) 20 0 0)), none, none, none, none, none] [] (G') := by
    intro k hk kk G' z
    have ek : (nI k).toNatClampNeg = k := nI_clamp (by omega)
    have hh := hD.hold (k := k) (by omega)
    by_cases hc : G.2.1 0 30 (oA k 0) = 1
    · have hy : mHold (G.2.1 0 30) (nI k) = true := by rw [hh]; exact decide_eq_true hc
      rw [decide_eq_true hc]
      have hi4 := hI k hk hc
      refine v_aload_n (i := 0) (q := 136) hC dL_areObjects_135 rfl rfl rfl ?_
      refine v_iload (q := 138) hC dL_areObjects_136 rfl rfl ?_
      refine v_callVR (q := 141) (rm := rm_X11_isThere) hC ((x_isThere hl Θ z (nI k)).v (v2 := 1) (by rw [hy]; rfl)) k_X11_isThere im_yX11_isThere se_yX11_isThere ml_RL_224 dL_areObjects_138 rfl rfl rfl rfl rfl rfl (Nat.le_of_ble_eq_true rfl) ⟨Nat.le_of_ble_eq_true rfl, Nat.le_of_ble_eq_true rfl⟩ (c1 := 0) (s1 := 0) rfl rfl ⟨show _ + 0 ≤ 910 by omega, show _ + 0 ≤ 5460 by omega⟩ (rQ_k (fun G_138 z_138 => ?_)) rQ_n
      try dsimp only [Option.toList, List.cons_append, List.nil_append]
      refine v_iload (q := 143) hC dL_areObjects_141 rfl rfl ?_
      refine v_icmp_ne (q := 298) (q2 := 146) hC dL_areObjects_143 (by decide) rfl (fun c_143 => ?_) (fun c_143 => ?_)
      · exact absurd rfl c_143
      · refine v_aload_n (i := 0) (q := 147) hC dL_areObjects_146 rfl rfl rfl ?_
        refine v_iload (q := 149) hC dL_areObjects_147 rfl rfl ?_
        refine v_callR (q := 152) (rm := rm_L_parentOfOf) hC ((r_parentOf hl Θ z_138 ht (nI k)).v (v2 := G.2.1 0 30 (oA k 1)) (by rw [if_pos hy, gI, ek])) kh_L_parentOfOf ml_RL_227 dL_areObjects_149 rfl rfl rfl (Nat.le_of_ble_eq_true rfl) ⟨Nat.le_of_ble_eq_true rfl, Nat.le_of_ble_eq_true rfl⟩ (c1 := 1) (s1 := 6) rfl rfl ⟨show _ + 1 ≤ 910 by omega, show _ + 6 ≤ 5460 by omega⟩ (rQ_k (fun G_149 z_149 => ?_)) rQ_n
        try dsimp only [Option.toList, List.cons_append, List.nil_append]
        refine v_iload (q := 154) hC dL_areObjects_152 rfl rfl ?_
        refine v_if_eq (q := 164) (q2 := 157) hC dL_areObjects_154 (by decide) rfl (fun c_154 => ?_) (fun c_154 => ?_)
        · exact absurd c_154 (by decide)
        · refine v_aload_n (i := 1) (q := 158) hC dL_areObjects_157 rfl rfl rfl ?_
          refine v_iload (q := 160) hC dL_areObjects_158 rfl rfl ?_
          refine v_ialdV (q := 161) hC dL_areObjects_160 rfl rfl rfl (i := k) (rfl) (by first | decide | omega) (by decide) (NxR z_149 (by decide) (by decide) (hD.p1 hk hc)) ?_
          refine v_goto (q := 166) hC dL_areObjects_161 (by decide) ?_
          refine v_icmp_ne (q := 298) (q2 := 169) hC dL_areObjects_166 (by decide) rfl (fun c_166 => ?_) (fun c_166 => ?_)
          · exact absurd rfl c_166
          · refine v_aload_n (i := 0) (q := 170) hC dL_areObjects_169 rfl rfl rfl ?_
            refine v_iload (q := 172) hC dL_areObjects_170 rfl rfl ?_
            refine v_callR (q := 175) (rm := rm_L_ownerOfOf) hC ((r_ownerOf hl Θ z_149 ht (nI k)).v (v2 := G.2.1 0 30 (oA k 2)) (by rw [if_pos hy, gI, ek])) kh_L_ownerOfOf ml_RL_238 dL_areObjects_172 rfl rfl rfl (Nat.le_of_ble_eq_true rfl) ⟨Nat.le_of_ble_eq_true rfl, Nat.le_of_ble_eq_true rfl⟩ (c1 := 1) (s1 := 6) rfl rfl ⟨show _ + 1 ≤ 910 by omega, show _ + 6 ≤ 5460 by omega⟩ (rQ_k (fun G_172 z_172 => ?_)) rQ_n
            try dsimp only [Option.toList, List.cons_append, List.nil_append]
            refine v_iload (q := 177) hC dL_areObjects_175 rfl rfl ?_
            refine v_if_eq (q := 190) (q2 := 180) hC dL_areObjects_177 (by decide) rfl (fun c_177 => ?_) (fun c_177 => ?_)
            · exact absurd c_177 (by decide)
            · refine v_aload_n (i := 1) (q := 181) hC dL_areObjects_180 rfl rfl rfl ?_
              refine v_bipush (q := 183) (v := 10) hC dL_areObjects_181 rfl (by decide) ?_
              refine v_iload (q := 185) hC dL_areObjects_183 rfl rfl ?_
              refine v_iadd (q := 186) hC dL_areObjects_185 rfl ?_
              refine v_ialdV (q := 187) hC dL_areObjects_186 rfl rfl rfl (i := 10 + k) (nI_add 10 k) (by first | decide | omega) (by decide) (NxR z_172 (by decide) (by decide) (hD.po hk hc)) ?_
              refine v_goto (q := 192) hC dL_areObjects_187 (by decide) ?_
              refine v_icmp_ne (q := 298) (q2 := 195) hC dL_areObjects_192 (by decide) rfl (fun c_192 => ?_) (fun c_192 => ?_)
              · exact absurd rfl c_192
              · refine v_aload_n (i := 0) (q := 196) hC dL_areObjects_195 rfl rfl rfl ?_
                refine v_iload (q := 198) hC dL_areObjects_196 rfl rfl ?_
                refine v_callR (q := 201) (rm := rm_L_maskOfOf) hC ((r_maskOf hl Θ z_172 ht (nI k)).v (v2 := G.2.1 0 30 (oA k 3)) (by rw [if_pos hy, gI, ek])) kh_L_maskOfOf ml_RL_241 dL_areObjects_198 rfl rfl rfl (Nat.le_of_ble_eq_true rfl) ⟨Nat.le_of_ble_eq_true rfl, Nat.le_of_ble_eq_true rfl⟩ (c1 := 1) (s1 := 6) rfl rfl ⟨show _ + 1 ≤ 910 by omega, show _ + 6 ≤ 5460 by omega⟩ (rQ_k (fun G_198 z_198 => ?_)) rQ_n
                try dsimp only [Option.toList, List.cons_append, List.nil_append]
                refine v_iload (q := 203) hC dL_areObjects_201 rfl rfl ?_
                refine v_if_eq (q := 216) (q2 := 206) hC dL_areObjects_203 (by decide) rfl (fun c_203 => ?_) (fun c_203 => ?_)
                · exact absurd c_203 (by decide)
                · refine v_aload_n (i := 1) (q := 207) hC dL_areObjects_206 rfl rfl rfl ?_
                  refine v_bipush (q := 209) (v := 20) hC dL_areObjects_207 rfl (by decide) ?_
                  refine v_iload (q := 211) hC dL_areObjects_209 rfl rfl ?_
                  refine v_iadd (q := 212) hC dL_areObjects_211 rfl ?_
                  refine v_ialdV (q := 213) hC dL_areObjects_212 rfl rfl rfl (i := 20 + k) (nI_add 20 k) (by first | decide | omega) (by decide) (NxR z_198 (by decide) (by decide) (hD.pm hk hc)) ?_
                  refine v_goto (q := 218) hC dL_areObjects_213 (by decide) ?_
                  refine v_icmp_ne (q := 298) (q2 := 221) hC dL_areObjects_218 (by decide) rfl (fun c_218 => ?_) (fun c_218 => ?_)
                  · exact absurd rfl c_218
                  · refine v_aload_n (i := 0) (q := 222) hC dL_areObjects_221 rfl rfl rfl ?_
                    refine v_iload (q := 224) hC dL_areObjects_222 rfl rfl ?_
                    refine v_callR (q := 227) (rm := rm_L_isInheritingOf) hC ((r_isInheriting hl Θ z_198 ht (nI k)).v (v2 := G.2.1 0 30 (oA k 4)) (by rw [if_pos hy, gZ_b, ek]; rcases hi4 with h9 | h9 <;> rw [h9] <;> rfl)) kh_L_isInheritingOf ml_RL_244 dL_areObjects_224 rfl rfl rfl (Nat.le_of_ble_eq_true rfl) ⟨Nat.le_of_ble_eq_true rfl, Nat.le_of_ble_eq_true rfl⟩ (c1 := 1) (s1 := 6) rfl rfl ⟨show _ + 1 ≤ 910 by omega, show _ + 6 ≤ 5460 by omega⟩ (rQ_k (fun G_224 z_224 => ?_)) rQ_n
                    try dsimp only [Option.toList, List.cons_append, List.nil_append]
                    refine v_iload (q := 229) hC dL_areObjects_227 rfl rfl ?_
                    refine v_if_eq (q := 242) (q2 := 232) hC dL_areObjects_229 (by decide) rfl (fun c_229 => ?_) (fun c_229 => ?_)
                    · exact absurd c_229 (by decide)
                    · refine v_aload_n (i := 1) (q := 233) hC dL_areObjects_232 rfl rfl rfl ?_
                      refine v_bipush (q := 235) (v := 30) hC dL_areObjects_233 rfl (by decide) ?_
                      refine v_iload (q := 237) hC dL_areObjects_235 rfl rfl ?_
                      refine v_iadd (q := 238) hC dL_areObjects_237 rfl ?_
                      refine v_ialdV (q := 239) hC dL_areObjects_238 rfl rfl rfl (i := 30 + k) (nI_add 30 k) (by first | decide | omega) (by decide) (NxR z_224 (by decide) (by decide) (hD.pi hk hc)) ?_
                      refine v_goto (q := 244) hC dL_areObjects_239 (by decide) ?_
                      refine v_icmp_ne (q := 298) (q2 := 247) hC dL_areObjects_244 (by decide) rfl (fun c_244 => ?_) (fun c_244 => ?_)
                      · exact absurd rfl c_244
                      · refine v_aload_n (i := 0) (q := 248) hC dL_areObjects_247 rfl rfl rfl ?_
                        refine v_iload (q := 250) hC dL_areObjects_248 rfl rfl ?_
                        refine v_callR (q := 253) (rm := rm_L_entriesOfOf) hC ((r_entriesOf hl Θ z_224 ht (nI k)).v (v2 := G.2.1 0 30 (oA k 5)) (by rw [if_pos hy, gI, ek])) kh_L_entriesOfOf ml_RL_231 dL_areObjects_250 rfl rfl rfl (Nat.le_of_ble_eq_true rfl) ⟨Nat.le_of_ble_eq_true rfl, Nat.le_of_ble_eq_true rfl⟩ (c1 := 1) (s1 := 6) rfl rfl ⟨show _ + 1 ≤ 910 by omega, show _ + 6 ≤ 5460 by omega⟩ (rQ_k (fun G_250 z_250 => ?_)) rQ_n
                        try dsimp only [Option.toList, List.cons_append, List.nil_append]
                        refine v_iload (q := 255) hC dL_areObjects_253 rfl rfl ?_
                        refine v_if_eq (q := 268) (q2 := 258) hC dL_areObjects_255 (by decide) rfl (fun c_255 => ?_) (fun c_255 => ?_)
                        · exact absurd c_255 (by decide)
                        · refine v_aload_n (i := 1) (q := 259) hC dL_areObjects_258 rfl rfl rfl ?_
                          refine v_bipush (q := 261) (v := 40) hC dL_areObjects_259 rfl (by decide) ?_
                          refine v_iload (q := 263) hC dL_areObjects_261 rfl rfl ?_
                          refine v_iadd (q := 264) hC dL_areObjects_263 rfl ?_
                          refine v_ialdV (q := 265) hC dL_areObjects_264 rfl rfl rfl (i := 40 + k) (nI_add 40 k) (by first | decide | omega) (by decide) (NxR z_250 (by decide) (by decide) (hD.pc hk hc)) ?_
                          refine v_goto (q := 270) hC dL_areObjects_265 (by decide) ?_
                          refine v_icmp_ne (q := 298) (q2 := 273) hC dL_areObjects_270 (by decide) rfl (fun c_270 => ?_) (fun c_270 => ?_)
                          · exact absurd rfl c_270
                          · refine v_aload_n (i := 0) (q := 274) hC dL_areObjects_273 rfl rfl rfl ?_
                            refine v_iload (q := 276) hC dL_areObjects_274 rfl rfl ?_
                            refine v_callR (q := 279) (rm := rm_L_belowOf) hC ((r_below hl Θ z_250 ht (nI k)).v (v2 := mBls (G.2.1 0 30) (nI k) 20 0 0) (by rw [if_pos hy, gI])) kh_L_belowOf ml_RL_247 dL_areObjects_276 rfl rfl rfl (Nat.le_of_ble_eq_true rfl) ⟨Nat.le_of_ble_eq_true rfl, Nat.le_of_ble_eq_true rfl⟩ (c1 := 1) (s1 := 6) rfl rfl ⟨show _ + 1 ≤ 910 by omega, show _ + 6 ≤ 5460 by omega⟩ (rQ_k (fun G_276 z_276 => ?_)) rQ_n
                            try dsimp only [Option.toList, List.cons_append, List.nil_append]
                            refine v_iload (q := 281) hC dL_areObjects_279 rfl rfl ?_
                            refine v_if_eq (q := 289) (q2 := 284) hC dL_areObjects_281 (by decide) rfl (fun c_281 => ?_) (fun c_281 => ?_)
                            · exact absurd c_281 (by decide)
                            · refine v_iload (q := 286) hC dL_areObjects_284 rfl rfl ?_
                              refine v_goto (q := 291) hC dL_areObjects_286 (by decide) ?_
                              refine v_icmp_ne (q := 298) (q2 := 294) hC dL_areObjects_291 (by decide) rfl (fun c_291 => ?_) (fun c_291 => ?_)
                              · exact absurd rfl c_291
                              · refine v_iconst (q := 295) (v := 1) hC dL_areObjects_294 rfl (by decide) ?_
                                refine v_goto (q := 299) hC dL_areObjects_295 (by decide) ?_
                                refine v_istore (q := 301) hC dL_areObjects_299 rfl (lvc rfl) (Nat.le_of_ble_eq_true rfl) (Nat.le_of_ble_eq_true rfl) rfl ?_
                                refine v_iconst (q := 302) (v := 0) hC dL_areObjects_301 rfl (by decide) ?_
                                refine v_istore (q := 304) hC dL_areObjects_302 rfl (lvc rfl) (Nat.le_of_ble_eq_true rfl) (Nat.le_of_ble_eq_true rfl) rfl ?_
                                exact v_widen (by omega) (by omega) (E k _ hk hc kk (mCt (G.2.1 0 30) k + 1) 0 _ _ _ _ _ rfl z_276)
    · have hy : mHold (G.2.1 0 30) (nI k) = false := by rw [hh]; exact decide_eq_false hc
      have hn : ¬ mHold (G.2.1 0 30) (nI k) = true := by rw [hy]; decide
      rw [decide_eq_false hc]
      refine v_aload_n (i := 0) (q := 136) hC dL_areObjects_135 rfl rfl rfl ?_
      refine v_iload (q := 138) hC dL_areObjects_136 rfl rfl ?_
      refine v_callVR (q := 141) (rm := rm_X11_isThere) hC ((x_isThere hl Θ z (nI k)).v (v2 := 0) (by rw [hy]; rfl)) k_X11_isThere im_yX11_isThere se_yX11_isThere ml_RL_224 dL_areObjects_138 rfl rfl rfl rfl rfl rfl (Nat.le_of_ble_eq_true rfl) ⟨Nat.le_of_ble_eq_true rfl, Nat.le_of_ble_eq_true rfl⟩ (c1 := 0) (s1 := 0) rfl rfl ⟨show _ + 0 ≤ 910 by omega, show _ + 0 ≤ 5460 by omega⟩ (rQ_k (fun G_138 z_138 => ?_)) rQ_n
      try dsimp only [Option.toList, List.cons_append, List.nil_append]
      refine v_iload (q := 143) hC dL_areObjects_141 rfl rfl ?_
      refine v_icmp_ne (q := 298) (q2 := 146) hC dL_areObjects_143 (by decide) rfl (fun c_143 => ?_) (fun c_143 => ?_)
      · exact absurd rfl c_143
      · refine v_aload_n (i := 0) (q := 147) hC dL_areObjects_146 rfl rfl rfl ?_
        refine v_iload (q := 149) hC dL_areObjects_147 rfl rfl ?_
        refine v_callR (q := 152) (rm := rm_L_parentOfOf) hC ((r_parentOf hl Θ z_138 ht (nI k)).v (v2 := -101) (if_neg hn)) kh_L_parentOfOf ml_RL_227 dL_areObjects_149 rfl rfl rfl (Nat.le_of_ble_eq_true rfl) ⟨Nat.le_of_ble_eq_true rfl, Nat.le_of_ble_eq_true rfl⟩ (c1 := 1) (s1 := 6) rfl rfl ⟨show _ + 1 ≤ 910 by omega, show _ + 6 ≤ 5460 by omega⟩ (rQ_k (fun G_149 z_149 => ?_)) rQ_n
        try dsimp only [Option.toList, List.cons_append, List.nil_append]
        refine v_iload (q := 154) hC dL_areObjects_152 rfl rfl ?_
        refine v_if_eq (q := 164) (q2 := 157) hC dL_areObjects_154 (by decide) rfl (fun c_154 => ?_) (fun c_154 => ?_)
        · refine v_bipush (q := 166) (v := (-101)) hC dL_areObjects_164 rfl (by decide) ?_
          refine v_icmp_ne (q := 298) (q2 := 169) hC dL_areObjects_166 (by decide) rfl (fun c_166 => ?_) (fun c_166 => ?_)
          · exact absurd rfl c_166
          · refine v_aload_n (i := 0) (q := 170) hC dL_areObjects_169 rfl rfl rfl ?_
            refine v_iload (q := 172) hC dL_areObjects_170 rfl rfl ?_
            refine v_callR (q := 175) (rm := rm_L_ownerOfOf) hC ((r_ownerOf hl Θ z_149 ht (nI k)).v (v2 := -101) (if_neg hn)) kh_L_ownerOfOf ml_RL_238 dL_areObjects_172 rfl rfl rfl (Nat.le_of_ble_eq_true rfl) ⟨Nat.le_of_ble_eq_true rfl, Nat.le_of_ble_eq_true rfl⟩ (c1 := 1) (s1 := 6) rfl rfl ⟨show _ + 1 ≤ 910 by omega, show _ + 6 ≤ 5460 by omega⟩ (rQ_k (fun G_172 z_172 => ?_)) rQ_n
            try dsimp only [Option.toList, List.cons_append, List.nil_append]
            refine v_iload (q := 177) hC dL_areObjects_175 rfl rfl ?_
            refine v_if_eq (q := 190) (q2 := 180) hC dL_areObjects_177 (by decide) rfl (fun c_177 => ?_) (fun c_177 => ?_)
            · refine v_bipush (q := 192) (v := (-101)) hC dL_areObjects_190 rfl (by decide) ?_
              refine v_icmp_ne (q := 298) (q2 := 195) hC dL_areObjects_192 (by decide) rfl (fun c_192 => ?_) (fun c_192 => ?_)
              · exact absurd rfl c_192
              · refine v_aload_n (i := 0) (q := 196) hC dL_areObjects_195 rfl rfl rfl ?_
                refine v_iload (q := 198) hC dL_areObjects_196 rfl rfl ?_
                refine v_callR (q := 201) (rm := rm_L_maskOfOf) hC ((r_maskOf hl Θ z_172 ht (nI k)).v (v2 := -101) (if_neg hn)) kh_L_maskOfOf ml_RL_241 dL_areObjects_198 rfl rfl rfl (Nat.le_of_ble_eq_true rfl) ⟨Nat.le_of_ble_eq_true rfl, Nat.le_of_ble_eq_true rfl⟩ (c1 := 1) (s1 := 6) rfl rfl ⟨show _ + 1 ≤ 910 by omega, show _ + 6 ≤ 5460 by omega⟩ (rQ_k (fun G_198 z_198 => ?_)) rQ_n
                try dsimp only [Option.toList, List.cons_append, List.nil_append]
                refine v_iload (q := 203) hC dL_areObjects_201 rfl rfl ?_
                refine v_if_eq (q := 216) (q2 := 206) hC dL_areObjects_203 (by decide) rfl (fun c_203 => ?_) (fun c_203 => ?_)
                · refine v_bipush (q := 218) (v := (-101)) hC dL_areObjects_216 rfl (by decide) ?_
                  refine v_icmp_ne (q := 298) (q2 := 221) hC dL_areObjects_218 (by decide) rfl (fun c_218 => ?_) (fun c_218 => ?_)
                  · exact absurd rfl c_218
                  · refine v_aload_n (i := 0) (q := 222) hC dL_areObjects_221 rfl rfl rfl ?_
                    refine v_iload (q := 224) hC dL_areObjects_222 rfl rfl ?_
                    refine v_callR (q := 227) (rm := rm_L_isInheritingOf) hC ((r_isInheriting hl Θ z_198 ht (nI k)).v (v2 := -101) (if_neg hn)) kh_L_isInheritingOf ml_RL_244 dL_areObjects_224 rfl rfl rfl (Nat.le_of_ble_eq_true rfl) ⟨Nat.le_of_ble_eq_true rfl, Nat.le_of_ble_eq_true rfl⟩ (c1 := 1) (s1 := 6) rfl rfl ⟨show _ + 1 ≤ 910 by omega, show _ + 6 ≤ 5460 by omega⟩ (rQ_k (fun G_224 z_224 => ?_)) rQ_n
                    try dsimp only [Option.toList, List.cons_append, List.nil_append]
                    refine v_iload (q := 229) hC dL_areObjects_227 rfl rfl ?_
                    refine v_if_eq (q := 242) (q2 := 232) hC dL_areObjects_229 (by decide) rfl (fun c_229 => ?_) (fun c_229 => ?_)
                    · refine v_bipush (q := 244) (v := (-101)) hC dL_areObjects_242 rfl (by decide) ?_
                      refine v_icmp_ne (q := 298) (q2 := 247) hC dL_areObjects_244 (by decide) rfl (fun c_244 => ?_) (fun c_244 => ?_)
                      · exact absurd rfl c_244
                      · refine v_aload_n (i := 0) (q := 248) hC dL_areObjects_247 rfl rfl rfl ?_
                        refine v_iload (q := 250) hC dL_areObjects_248 rfl rfl ?_
                        refine v_callR (q := 253) (rm := rm_L_entriesOfOf) hC ((r_entriesOf hl Θ z_224 ht (nI k)).v (v2 := -101) (if_neg hn)) kh_L_entriesOfOf ml_RL_231 dL_areObjects_250 rfl rfl rfl (Nat.le_of_ble_eq_true rfl) ⟨Nat.le_of_ble_eq_true rfl, Nat.le_of_ble_eq_true rfl⟩ (c1 := 1) (s1 := 6) rfl rfl ⟨show _ + 1 ≤ 910 by omega, show _ + 6 ≤ 5460 by omega⟩ (rQ_k (fun G_250 z_250 => ?_)) rQ_n
                        try dsimp only [Option.toList, List.cons_append, List.nil_append]
                        refine v_iload (q := 255) hC dL_areObjects_253 rfl rfl ?_
                        refine v_if_eq (q := 268) (q2 := 258) hC dL_areObjects_255 (by decide) rfl (fun c_255 => ?_) (fun c_255 => ?_)
                        · refine v_bipush (q := 270) (v := (-101)) hC dL_areObjects_268 rfl (by decide) ?_
                          refine v_icmp_ne (q := 298) (q2 := 273) hC dL_areObjects_270 (by decide) rfl (fun c_270 => ?_) (fun c_270 => ?_)
                          · exact absurd rfl c_270
                          · refine v_aload_n (i := 0) (q := 274) hC dL_areObjects_273 rfl rfl rfl ?_
                            refine v_iload (q := 276) hC dL_areObjects_274 rfl rfl ?_
                            refine v_callR (q := 279) (rm := rm_L_belowOf) hC ((r_below hl Θ z_250 ht (nI k)).v (v2 := -101) (if_neg hn)) kh_L_belowOf ml_RL_247 dL_areObjects_276 rfl rfl rfl (Nat.le_of_ble_eq_true rfl) ⟨Nat.le_of_ble_eq_true rfl, Nat.le_of_ble_eq_true rfl⟩ (c1 := 1) (s1 := 6) rfl rfl ⟨show _ + 1 ≤ 910 by omega, show _ + 6 ≤ 5460 by omega⟩ (rQ_k (fun G_276 z_276 => ?_)) rQ_n
                            try dsimp only [Option.toList, List.cons_append, List.nil_append]
                            refine v_iload (q := 281) hC dL_areObjects_279 rfl rfl ?_
                            refine v_if_eq (q := 289) (q2 := 284) hC dL_areObjects_281 (by decide) rfl (fun c_281 => ?_) (fun c_281 => ?_)
                            · refine v_bipush (q := 291) (v := (-101)) hC dL_areObjects_289 rfl (by decide) ?_
                              refine v_icmp_ne (q := 298) (q2 := 294) hC dL_areObjects_291 (by decide) rfl (fun c_291 => ?_) (fun c_291 => ?_)
                              · exact absurd rfl c_291
                              · refine v_iconst (q := 295) (v := 1) hC dL_areObjects_294 rfl (by decide) ?_
                                refine v_goto (q := 299) hC dL_areObjects_295 (by decide) ?_
                                refine v_istore (q := 301) hC dL_areObjects_299 rfl (lvc rfl) (Nat.le_of_ble_eq_true rfl) (Nat.le_of_ble_eq_true rfl) rfl ?_
                                refine v_iconst (q := 302) (v := 0) hC dL_areObjects_301 rfl (by decide) ?_
                                refine v_istore (q := 304) hC dL_areObjects_302 rfl (lvc rfl) (Nat.le_of_ble_eq_true rfl) (Nat.le_of_ble_eq_true rfl) rfl ?_
                                refine v_iload (q := 306) hC dL_areObjects_304 rfl rfl ?_
                                refine v_if_eq (q := 575) (q2 := 309) hC dL_areObjects_306 (by decide) rfl (fun c_306 => ?_) (fun c_306 => ?_)
                                · refine v_iinc (q := 578) (v := nI (k + 1)) hC dL_areObjects_575 rfl rfl (nI_1 k) (lvc rfl) (Nat.le_of_ble_eq_true rfl) (Nat.le_of_ble_eq_true rfl) rfl ?_
                                  refine v_goto (q := 58) hC dL_areObjects_578 (by decide) ?_
                                  refine v_widen (by omega) (by omega) (v_sub (fun i v h => ?_) (kk _ z_276))
                                  match i, h with
                                  | 0, h => exact h
                                  | 1, h => exact h
                                  | 2, h => exact h
                                  | 3, h => exact h
                                  | 4, h => exact h
                                  | 5, h => exact h
                                  | 6, h => cases h
                                  | 7, h => cases h
                                  | 8, h => cases h
                                  | 9, h => cases h
                                  | 10, h => cases h
                                  | 11, h => cases h
                                  | 12, h => cases h
                                  | i + 13, h => cases h
                                · exact absurd rfl c_306
                            · exact absurd rfl c_281
                        · exact absurd rfl c_255
                    · exact absurd rfl c_229
                · exact absurd rfl c_203
            · exact absurd rfl c_177
        · exact absurd rfl c_154
  have L : ∀ (n k : Nat) (G' : GS), n + k = 10 → Nx G G' t → V p l e rm_L_areObjects s m args below meth c 13 Θ (rQ G t 1) 910 5460 (2 + 90 * k) (12 + 540 * k) 58 [some (.ref (tR Θ 0 14)), some (.ref (tR Θ 0 41)), some (.ref (tR Θ 0 42)), some (.ref (tR Θ 0 44)), some (.int 1), some (.int (nI k)), none, none, none, none, none, none, none] [] (G') := by
    intro n
    induction n with
    | zero =>
      intro k G' h1 z
      have hk : k = 10 := by omega
      subst hk
      refine v_iload (q := 60) hC dL_areObjects_58 rfl rfl ?_
      refine v_bipush (q := 62) (v := 10) hC dL_areObjects_60 rfl (by decide) ?_
      refine v_icmp_ge (q := 581) (q2 := 65) hC dL_areObjects_62 (by decide) rfl (fun c_62 => ?_) (fun c_62 => ?_)
      · refine v_iload (q := 583) hC dL_areObjects_581 rfl rfl ?_
        refine v_iret hC dL_areObjects_583 hr (rfl) ?_ (show _ ≤ 910 by omega) (show _ ≤ 5460 by omega)
        exact ⟨rfl, z⟩
      · exact absurd (by decide) c_62
    | succ n ih =>
      intro k G' h1 z
      have hk : k < 10 := by omega
      have hO := O k hk (fun G2 z2 => v_widen (by omega) (by omega) (ih (k + 1) G2 (by omega) z2))
      by_cases hc : G.2.1 0 30 (oA k 0) = 1
      · rw [decide_eq_true hc] at hO
        refine v_iload (q := 60) hC dL_areObjects_58 rfl rfl ?_
        refine v_bipush (q := 62) (v := 10) hC dL_areObjects_60 rfl (by decide) ?_
        refine v_icmp_ge (q := 581) (q2 := 65) hC dL_areObjects_62 (by decide) rfl (fun c_62 => ?_) (fun c_62 => ?_)
        · exact absurd c_62 (by rw [show (10 : Int32) = nI 10 from rfl]; exact nI_ge (by omega) (by omega))
        · refine v_iload (q := 67) hC dL_areObjects_65 rfl rfl ?_
          refine v_if_eq (q := 581) (q2 := 70) hC dL_areObjects_67 (by decide) rfl (fun c_67 => ?_) (fun c_67 => ?_)
          · exact absurd c_67 (by decide)
          · refine v_aload_n (i := 1) (q := 71) hC dL_areObjects_70 rfl rfl rfl ?_
            refine v_iload (q := 73) hC dL_areObjects_71 rfl rfl ?_
            refine v_ialdV (q := 74) hC dL_areObjects_73 rfl rfl rfl (i := k) (rfl) (by first | decide | omega) (by decide) (NxR z (by decide) (by decide) (rfl)) ?_
            refine v_bipush (q := 76) (v := (-2)) hC dL_areObjects_74 rfl (by decide) ?_
            refine v_icmp_eq (q := 83) (q2 := 79) hC dL_areObjects_76 (by decide) rfl (fun c_76 => ?_) (fun c_76 => ?_)
            · exact absurd hc ((hD.p2 hk).mp c_76)
            · refine v_iconst (q := 80) (v := 1) hC dL_areObjects_79 rfl (by decide) ?_
              refine v_goto (q := 84) hC dL_areObjects_80 (by decide) ?_
              refine v_istore (q := 86) hC dL_areObjects_84 rfl (lvc rfl) (Nat.le_of_ble_eq_true rfl) (Nat.le_of_ble_eq_true rfl) rfl ?_
              refine v_iconst (q := 87) (v := 0) hC dL_areObjects_86 rfl (by decide) ?_
              refine v_istore (q := 89) hC dL_areObjects_87 rfl (lvc rfl) (Nat.le_of_ble_eq_true rfl) (Nat.le_of_ble_eq_true rfl) rfl ?_
              refine v_iconst (q := 90) (v := 0) hC dL_areObjects_89 rfl (by decide) ?_
              refine v_istore (q := 92) hC dL_areObjects_90 rfl (lvc rfl) (Nat.le_of_ble_eq_true rfl) (Nat.le_of_ble_eq_true rfl) rfl ?_
              exact B k 1 hk hO 10 0 0 _ rfl z rfl
      · rw [decide_eq_false hc] at hO
        refine v_iload (q := 60) hC dL_areObjects_58 rfl rfl ?_
        refine v_bipush (q := 62) (v := 10) hC dL_areObjects_60 rfl (by decide) ?_
        refine v_icmp_ge (q := 581) (q2 := 65) hC dL_areObjects_62 (by decide) rfl (fun c_62 => ?_) (fun c_62 => ?_)
        · exact absurd c_62 (by rw [show (10 : Int32) = nI 10 from rfl]; exact nI_ge (by omega) (by omega))
        · refine v_iload (q := 67) hC dL_areObjects_65 rfl rfl ?_
          refine v_if_eq (q := 581) (q2 := 70) hC dL_areObjects_67 (by decide) rfl (fun c_67 => ?_) (fun c_67 => ?_)
          · exact absurd c_67 (by decide)
          · refine v_aload_n (i := 1) (q := 71) hC dL_areObjects_70 rfl rfl rfl ?_
            refine v_iload (q := 73) hC dL_areObjects_71 rfl rfl ?_
            refine v_ialdV (q := 74) hC dL_areObjects_73 rfl rfl rfl (i := k) (rfl) (by first | decide | omega) (by decide) (NxR z (by decide) (by decide) (rfl)) ?_
            refine v_bipush (q := 76) (v := (-2)) hC dL_areObjects_74 rfl (by decide) ?_
            refine v_icmp_eq (q := 83) (q2 := 79) hC dL_areObjects_76 (by decide) rfl (fun c_76 => ?_) (fun c_76 => ?_)
            · refine v_iconst (q := 84) (v := 0) hC dL_areObjects_83 rfl (by decide) ?_
              refine v_istore (q := 86) hC dL_areObjects_84 rfl (lvc rfl) (Nat.le_of_ble_eq_true rfl) (Nat.le_of_ble_eq_true rfl) rfl ?_
              refine v_iconst (q := 87) (v := 0) hC dL_areObjects_86 rfl (by decide) ?_
              refine v_istore (q := 89) hC dL_areObjects_87 rfl (lvc rfl) (Nat.le_of_ble_eq_true rfl) (Nat.le_of_ble_eq_true rfl) rfl ?_
              refine v_iconst (q := 90) (v := 0) hC dL_areObjects_89 rfl (by decide) ?_
              refine v_istore (q := 92) hC dL_areObjects_90 rfl (lvc rfl) (Nat.le_of_ble_eq_true rfl) (Nat.le_of_ble_eq_true rfl) rfl ?_
              exact B k 0 hk hO 10 0 0 _ rfl z rfl
            · exact absurd ((hD.p2 hk).mpr hc) c_76
  refine v_aload_n (i := 0) (q := 1) hC dL_areObjects_0 rfl rfl rfl ?_
  refine v_callVR (q := 4) (rm := rm_X11_objects) hC (x_objects hl Θ z0) k_X11_objects im_yX11_objects se_yX11_objects ml_RL_221 dL_areObjects_1 rfl rfl rfl rfl rfl rfl (Nat.le_of_ble_eq_true rfl) ⟨Nat.le_of_ble_eq_true rfl, Nat.le_of_ble_eq_true rfl⟩ (c1 := 0) (s1 := 0) rfl rfl ⟨show _ + 0 ≤ 910 by omega, show _ + 0 ≤ 5460 by omega⟩ (rQ_k (fun G_1 z_1 => ?_)) rQ_n
  try dsimp only [Option.toList, List.cons_append, List.nil_append]
  refine v_aload_n (i := 3) (q := 5) hC dL_areObjects_4 rfl rfl rfl ?_
  refine v_iconst (q := 6) (v := 2) hC dL_areObjects_5 rfl (by decide) ?_
  refine v_ialdV (q := 7) hC dL_areObjects_6 rfl rfl rfl (i := 2) (rfl) (by first | decide | omega) (by decide) (NxR z_1 (by decide) (by decide) (e2)) ?_
  refine v_icmp_ne (q := 52) (q2 := 10) hC dL_areObjects_7 (by decide) rfl (fun c_7 => ?_) (fun c_7 => ?_)
  · exact absurd rfl c_7
  · refine v_aload_n (i := 0) (q := 11) hC dL_areObjects_10 rfl rfl rfl ?_
    refine v_bipush (q := 13) (v := 20) hC dL_areObjects_11 rfl (by decide) ?_
    refine v_callVR (q := 16) (rm := rm_X11_isThere) hC ((x_isThere hl Θ z_1 20).v (v2 := 0) (by rw [hold20]; rfl)) k_X11_isThere im_yX11_isThere se_yX11_isThere ml_RL_224 dL_areObjects_13 rfl rfl rfl rfl rfl rfl (Nat.le_of_ble_eq_true rfl) ⟨Nat.le_of_ble_eq_true rfl, Nat.le_of_ble_eq_true rfl⟩ (c1 := 0) (s1 := 0) rfl rfl ⟨show _ + 0 ≤ 910 by omega, show _ + 0 ≤ 5460 by omega⟩ (rQ_k (fun G_13 z_13 => ?_)) rQ_n
    try dsimp only [Option.toList, List.cons_append, List.nil_append]
    refine v_if_ne (q := 52) (q2 := 19) hC dL_areObjects_16 (by decide) rfl (fun c_16 => ?_) (fun c_16 => ?_)
    · exact absurd rfl c_16
    · refine v_aload_n (i := 0) (q := 20) hC dL_areObjects_19 rfl rfl rfl ?_
      refine v_iconst (q := 21) (v := (-1)) hC dL_areObjects_20 rfl (by decide) ?_
      refine v_callVR (q := 24) (rm := rm_X11_isThere) hC ((x_isThere hl Θ z_13 (-1)).v (v2 := 0) (by rw [holdm1]; rfl)) k_X11_isThere im_yX11_isThere se_yX11_isThere ml_RL_224 dL_areObjects_21 rfl rfl rfl rfl rfl rfl (Nat.le_of_ble_eq_true rfl) ⟨Nat.le_of_ble_eq_true rfl, Nat.le_of_ble_eq_true rfl⟩ (c1 := 0) (s1 := 0) rfl rfl ⟨show _ + 0 ≤ 910 by omega, show _ + 0 ≤ 5460 by omega⟩ (rQ_k (fun G_21 z_21 => ?_)) rQ_n
      try dsimp only [Option.toList, List.cons_append, List.nil_append]
      refine v_if_ne (q := 52) (q2 := 27) hC dL_areObjects_24 (by decide) rfl (fun c_24 => ?_) (fun c_24 => ?_)
      · exact absurd rfl c_24
      · refine v_aload_n (i := 0) (q := 28) hC dL_areObjects_27 rfl rfl rfl ?_
        refine v_bipush (q := 30) (v := 20) hC dL_areObjects_28 rfl (by decide) ?_
        refine v_callR (q := 33) (rm := rm_L_parentOfOf) hC ((r_parentOf hl Θ z_21 ht 20).v (v2 := -101) (by rw [hold20, if_neg (by decide)])) kh_L_parentOfOf ml_RL_227 dL_areObjects_30 rfl rfl rfl (Nat.le_of_ble_eq_true rfl) ⟨Nat.le_of_ble_eq_true rfl, Nat.le_of_ble_eq_true rfl⟩ (c1 := 1) (s1 := 6) rfl rfl ⟨show _ + 1 ≤ 910 by omega, show _ + 6 ≤ 5460 by omega⟩ (rQ_k (fun G_30 z_30 => ?_)) rQ_n
        try dsimp only [Option.toList, List.cons_append, List.nil_append]
        refine v_bipush (q := 35) (v := (-101)) hC dL_areObjects_33 rfl (by decide) ?_
        refine v_icmp_ne (q := 52) (q2 := 38) hC dL_areObjects_35 (by decide) rfl (fun c_35 => ?_) (fun c_35 => ?_)
        · exact absurd rfl c_35
        · refine v_aload_n (i := 0) (q := 39) hC dL_areObjects_38 rfl rfl rfl ?_
          refine v_iconst (q := 40) (v := (-1)) hC dL_areObjects_39 rfl (by decide) ?_
          refine v_callR (q := 43) (rm := rm_L_entriesOfOf) hC ((r_entriesOf hl Θ z_30 ht (-1)).v (v2 := -101) (by rw [holdm1, if_neg (by decide)])) kh_L_entriesOfOf ml_RL_231 dL_areObjects_40 rfl rfl rfl (Nat.le_of_ble_eq_true rfl) ⟨Nat.le_of_ble_eq_true rfl, Nat.le_of_ble_eq_true rfl⟩ (c1 := 1) (s1 := 6) rfl rfl ⟨show _ + 1 ≤ 910 by omega, show _ + 6 ≤ 5460 by omega⟩ (rQ_k (fun G_40 z_40 => ?_)) rQ_n
          try dsimp only [Option.toList, List.cons_append, List.nil_append]
          refine v_bipush (q := 45) (v := (-101)) hC dL_areObjects_43 rfl (by decide) ?_
          refine v_icmp_ne (q := 52) (q2 := 48) hC dL_areObjects_45 (by decide) rfl (fun c_45 => ?_) (fun c_45 => ?_)
          · exact absurd rfl c_45
          · refine v_iconst (q := 49) (v := 1) hC dL_areObjects_48 rfl (by decide) ?_
            refine v_goto (q := 53) hC dL_areObjects_49 (by decide) ?_
            refine v_istore (q := 55) hC dL_areObjects_53 rfl (lvc rfl) (Nat.le_of_ble_eq_true rfl) (Nat.le_of_ble_eq_true rfl) rfl ?_
            refine v_iconst (q := 56) (v := 0) hC dL_areObjects_55 rfl (by decide) ?_
            refine v_istore (q := 58) hC dL_areObjects_56 rfl (lvc rfl) (Nat.le_of_ble_eq_true rfl) (Nat.le_of_ble_eq_true rfl) rfl ?_
            exact L 10 0 _ rfl z_40
