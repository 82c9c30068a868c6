/-! an entry is looked at that may give nothing -/
theorem lNt_in {w a : Nat → Int32} {U u k : Nat} (hu : u < U) (hk : k < 10) : lNt w a U (10 * u + k) = mNt w (20 * u + k) := by
  unfold lNt
  rw [if_pos (by omega), show (10 * u + k) / 10 = u by omega, show (10 * u + k) % 10 = k by omega]
theorem lNt_all {w : Nat → Int32} (hw : mOk w) {u k : Nat} (hu : u < 12) (hk : k < 10) : lNt w (fun _ => 0) (mUs w) (10 * u + k) = mNt w (20 * u + k) := by
  rcases Nat.lt_or_ge u (mUs w) with h | h
  · exact lNt_in h hk
  · rw [mNt_nu hw h (by omega) (by omega)]
    unfold lNt
    rw [if_neg (by omega)]
theorem LEn_vd {w m p e : Nat → Int32} (hL : LD w m p e) {ob en : Nat} (hob : ob < 10) (hen : en < 6) : LEn (mVd w ob en) (upd e (6 * ob + en) 3072) := by
  intro k i hk hk1 hi
  have vo : ∀ o2 k, k < 6 → mVd w ob en (oA o2 k) = w (oA o2 k) := fun o2 k hk => mVd_n (en_oA hen hk)
  have hc : mCt (mVd w ob en) k = mCt w k := by unfold mCt; rw [vo k 5 (by decide)]
  rw [vo k 0 (by decide)] at hk1
  rw [hc] at hi
  have h6 := hL.ok.ct6 (show k < 20 by omega)
  by_cases hx : k = ob ∧ i = en
  · obtain ⟨rfl, rfl⟩ := hx
    obtain ⟨f0, f1, f2, f3, f4⟩ := mVd_e w k i
    rw [upd_s]
    exact ⟨3, 0, 0, false, false, ⟨by decide, by decide, by decide⟩, by decide, ⟨f0, f1, f2⟩, f3, f4⟩
  · rw [upd_n (by omega)]
    exact lCd_congr (fun q hq => mVd_n (en_en hen (by omega) hq hx)) (hL.ce hk hk1 hi)
theorem LD_vd {w m p e : Nat → Int32} (hL : LD w m p e) {ob en : Nat} (hob : ob < 10) (hen : en < 6) : LD (mVd w ob en) m p (upd e (6 * ob + en) 3072) := by
  have vo : ∀ o2 k, k < 6 → mVd w ob en (oA o2 k) = w (oA o2 k) := fun o2 k hk => mVd_n (en_oA hen hk)
  refine LD_congr hL (fun x hx => mVd_n (by unfold enA; omega)) (fun o k _ hk => vo o k (by omega)) (fun o ho h1 => by rw [vo o 5 (by decide)]; exact hL.1.2.2.2 o ho h1) (fun o ho h1 => by rw [vo o 5 (by decide)]; exact hL.pc ho h1) (mOk_vd hL.ok (by omega) hen) (LEn_vd hL hob hen)
theorem upd_back (e : Nat → Int32) (i : Nat) (x : Int32) : upd (upd e i x) i (e i) = e := by
  funext j
  by_cases h : j = i
  · subst h; rw [upd_s]
  · rw [upd_n h, upd_n h]
/-- the model's row put away and taken back -/
theorem Sim.gb {G : GS} {t o : Nat} {w2 a : Nat → Int32} (h : Sim G t) (ho : 40 ≤ o) : Sim (putA (putA (putA G 0 30 w2) 0 o a) 0 30 (G.2.1 0 30)) t := by
  have e : putA (putA (putA G 0 30 w2) 0 o a) 0 30 (G.2.1 0 30) = putA G 0 o a := by
    refine Prod.ext rfl (Prod.ext ?_ rfl)
    funext r o2
    show (if r = 0 ∧ o2 = 30 then G.2.1 0 30 else if r = 0 ∧ o2 = o then a else if r = 0 ∧ o2 = 30 then w2 else G.2.1 r o2) = if r = 0 ∧ o2 = o then a else G.2.1 r o2
    by_cases h1 : r = 0 ∧ o2 = 30
    · rw [if_pos h1, if_neg (by omega), h1.1, h1.2]
    · rw [if_neg h1]
      by_cases h2 : r = 0 ∧ o2 = o
      · rw [if_pos h2, if_pos h2]
      · rw [if_neg h2, if_neg h2, if_neg h1]
  rw [e]
  exact h.pa ho
theorem Nx.ny {G G1 : GS} {t : Nat} (h : Nx G G1 t) (hlv : noT G.2.2.1 2) : Ny G G1 t := ⟨h.1, h.w, fun o h1 h2 => h.a h1 (by omega), fun i h1 h2 => by rw [h.2.2.2]; exact hlv i h1 h2⟩
abbrev rm_L_isNeedless : Room := { frames := 10, locals := 207, cells := 6, slots := 40 }
set_option maxHeartbeats 4000000 in
set_option maxRecDepth 20000 in
theorem c_L_isNeedless {l : Launch} (hl : l.stackTraces = false) (Θ : cTH) (ob en t : Nat) (G : GS) (hS : Sim G t) (hL : LR G) (ht : t < 2 ^ 20) (hob : ob < 10) (hen : en < 6) (hlv : noT G.2.2.1 2) : Ct l yL_isNeedless cL_isNeedless 10 (some .boolean) rm_L_isNeedless Θ [.ref (tR Θ 0 14), .ref (tR Θ 0 40), .ref (tR Θ 0 41), .ref (tR Θ 0 42), .ref (tR Θ 0 44), .int (nI ob), .int (nI en)] (G) (sQ G (t + 1) 1) := by
  refine ct_of (LS := [some (.ref (tR Θ 0 14)), some (.ref (tR Θ 0 40)), some (.ref (tR Θ 0 41)), some (.ref (tR Θ 0 42)), some (.ref (tR Θ 0 44)), some (.int (nI ob)), some (.int (nI en)), none, none, none]) hl (by decide +kernel) rfl (Nat.le_of_ble_eq_true rfl) rfl ?_
  intro p e s m args below meth c hC hr
  have T : ∀ (Q9 : State → Prop) (Θ : cTH) (W : GS) (x9 : Option Value), cC p l s m args meth c cL_isNeedless 10 yL_isNeedless.cls Θ → Sim W t → LR W → W.2.1 0 30 (oA ob 0) = 1 → en < mCt (W.2.1 0 30) ob → W.2.1 0 45 = lNt (W.2.1 0 30) (fun _ => 0) (mUs (W.2.1 0 30)) → W.2.1 0 46 = lNt (mVd (W.2.1 0 30) ob en) (fun _ => 0) (mUs (W.2.1 0 30)) → W.2.2.1 2 = true → W.2.2.1 3 = true → (∀ (G2 : GS) (LS : List (Option Value)), Nx W G2 (t + 1) → VG p l e rm_L_isNeedless s m args below meth c 10 Θ Q9 4 36 140 LS [.int 1] G2) → VG p l e rm_L_isNeedless s m args below meth c 10 Θ Q9 2 24 109 [some (.ref (tR Θ 0 14)), some (.ref (tR Θ 0 40)), some (.ref (tR Θ 0 41)), some (.ref (tR Θ 0 42)), some (.ref (tR Θ 0 44)), some (.int (nI ob)), some (.int (nI en)), some (.ref (tR Θ 0 45)), some (.ref (tR Θ 0 46)), x9] [] (W) := by
    intro Q9 Θ W x9 hC hSW hLW h1 hec h45 h46 hv2 hv3 kk
    obtain ⟨hD, ⟨e0, us1⟩, e1, -⟩ := hLW
    have z0 : Nx W W t := Nx.refl hSW
    have hc6 := hD.ok.ct6 (show ob < 20 by omega)
    have hy : mEnt (W.2.1 0 30) (nI ob) (nI en) = true := by rw [hD.ent (by omega) (by omega), decide_eq_true h1, decide_eq_true hec]; rfl
    have i45 : ∀ {G' : GS}, Nx W G' (t + 1) → okI G'.2.2.1 0 45 = true := fun z => by
      rw [z.2.2.2]
      show (false || (true && ((((false || false) || (true && W.2.2.1 2)) || (false && W.2.2.1 3)) || (false && W.2.2.1 4)))) = true
      rw [hv2]; rfl
    have i46 : ∀ {G' : GS}, Nx W G' (t + 1) → okI G'.2.2.1 0 46 = true := fun z => by
      rw [z.2.2.2]
      show (false || (true && ((((false || false) || (false && W.2.2.1 2)) || (true && W.2.2.1 3)) || (false && W.2.2.1 4)))) = true
      rw [hv3, Bool.false_and]; rfl
    have xo : ∀ o2 k, k < 5 → mTo (W.2.1 0 30) ob en (mCt (W.2.1 0 30) ob) (oA o2 k) = W.2.1 0 30 (oA o2 k) := fun o2 k hk => mTo_lo hec (oA_ne5 hk) (to_oA hc6 (by omega))
    have uV : mUs (mVd (W.2.1 0 30) ob en) = mUs (W.2.1 0 30) := mUs_congr fun x hx => mVd_n (by unfold enA; omega)
    have hN : lUo (W.2.1 0 45) (W.2.1 0 46) 12 0 0 = mUl (mTo (W.2.1 0 30) ob en (mCt (W.2.1 0 30) ob)) (mNt (W.2.1 0 30)) 240 0 0 := by
      rw [h45, h46]
      refine lUo_mUl (fun u k hu hk => lNt_all hD.ok hu hk) (fun u k hu hk => ?_) (fun u k hu h10 h20 => ?_)
      · rw [← void_nt hD.ok (by omega) hec, ← lNt_all (mOk_vd hD.ok (by omega) hen) hu hk, uV]
      · have n1 : mHold (W.2.1 0 30) (nI k) = false := by rw [hD.hold h20, decide_eq_false (hD.no h10 h20)]
        have n2 : mHold (mTo (W.2.1 0 30) ob en (mCt (W.2.1 0 30) ob)) (nI k) = false := by
          unfold mHold
          rw [xo _ 0 (by decide)]
          exact n1
        rw [mNt_no h20 n1, mNt_no h20 n2]
    have eo : (nI ob).toNatClampNeg = ob := nI_clamp (by omega)
    have ee : (nI en).toNatClampNeg = en := nI_clamp (by omega)
    refine v_aload_n (i := 0) (q := 110) hC dL_isNeedless_109 rfl rfl rfl ?_
    refine v_iload (q := 112) hC dL_isNeedless_110 rfl rfl ?_
    refine v_iload (q := 114) hC dL_isNeedless_112 rfl rfl ?_
    refine v_callR (q := 117) (rm := rm_L_isNeedlessOf) hC ((r_isNeedless hl Θ z0 ht (nI ob) (nI en)).v (v2 := b2i (decide (lUo (W.2.1 0 45) (W.2.1 0 46) 12 0 0 = 0))) (by rw [if_pos hy, gZ_b, eo, ee, hN])) kh_L_isNeedlessOf ml_RL_309 dL_isNeedless_114 rfl rfl rfl (Nat.le_of_ble_eq_true rfl) ⟨Nat.le_of_ble_eq_true rfl, Nat.le_of_ble_eq_true rfl⟩ (c1 := 2) (s1 := 12) rfl rfl ⟨show _ + 2 ≤ 6 by omega, show _ + 12 ≤ 40 by omega⟩ (rQ_k (fun G_114 z_114 => ?_)) rQ_n
    try dsimp only [Option.toList, List.cons_append, List.nil_append]
    refine v_aload (q := 119) hC dL_isNeedless_117 rfl rfl ?_
    refine v_aload (q := 121) hC dL_isNeedless_119 rfl rfl ?_
    refine v_callSN (q := 124) (rm := rm_L_unlike) hC (c_L_unlike hl Θ _ (i45 z_114) (i46 z_114)) k_L_unlike st_yL_unlike ml_RL_312 dL_isNeedless_121 rfl rfl rfl (Nat.le_of_ble_eq_true rfl) ⟨Nat.le_of_ble_eq_true rfl, Nat.le_of_ble_eq_true rfl⟩ (c1 := 0) (s1 := 0) rfl rfl ⟨show _ + 0 ≤ 6 by omega, show _ + 0 ≤ 40 by omega⟩ (fR_k ?_) fR_n
    try dsimp only [Option.toList, List.cons_append, List.nil_append]
    rw [z_114.a (o := 45) (by decide) (by decide), z_114.a (o := 46) (by decide) (by decide)]
    refine v_if_ne (q := 131) (q2 := 127) hC dL_isNeedless_124 (by decide) rfl (fun c_124 => ?_) (fun c_124 => ?_)
    · refine v_iconst (q := 132) (v := 0) hC dL_isNeedless_131 rfl (by decide) ?_
      refine v_icmp_ne (q := 139) (q2 := 135) hC dL_isNeedless_132 (by decide) rfl (fun c_132 => ?_) (fun c_132 => ?_)
      · first | exact absurd (by rw [decide_eq_true c_124]; rfl) c_132 | exact absurd (by rw [decide_eq_false c_124]; rfl) c_132
      · refine v_iconst (q := 136) (v := 1) hC dL_isNeedless_135 rfl (by decide) ?_
        refine v_goto (q := 140) hC dL_isNeedless_136 (by decide) ?_
        exact kk _ _ z_114
    · refine v_iconst (q := 128) (v := 1) hC dL_isNeedless_127 rfl (by decide) ?_
      refine v_goto (q := 132) hC dL_isNeedless_128 (by decide) ?_
      refine v_icmp_ne (q := 139) (q2 := 135) hC dL_isNeedless_132 (by decide) rfl (fun c_132 => ?_) (fun c_132 => ?_)
      · first | exact absurd (by rw [decide_eq_true c_124]; rfl) c_132 | exact absurd (by rw [decide_eq_false c_124]; rfl) c_132
      · refine v_iconst (q := 136) (v := 1) hC dL_isNeedless_135 rfl (by decide) ?_
        refine v_goto (q := 140) hC dL_isNeedless_136 (by decide) ?_
        exact kk _ _ z_114
  have S2 : ∀ (Q9 : State → Prop) (Θ : cTH) (B : GS), cC p l s m args meth c cL_isNeedless 10 yL_isNeedless.cls Θ → Sim B t → LR B → B.2.1 0 30 (oA ob 0) = 1 → en < mCt (B.2.1 0 30) ob → B.2.1 0 45 = (fun _ => 0) → B.2.1 0 46 = (fun _ => 0) → B.2.2.1 2 = true → B.2.2.1 3 = true → (∀ (G2 : GS) (LS : List (Option Value)), Sim G2 (t + 1) → (∀ o, o = 30 ∨ (40 ≤ o ∧ o < 45) → G2.2.1 0 o = B.2.1 0 o) → G2.2.2.1 = B.2.2.1 → VG p l e rm_L_isNeedless s m args below meth c 10 Θ Q9 4 36 140 LS [.int 1] G2) → VG p l e rm_L_isNeedless s m args below meth c 10 Θ Q9 2 24 50 [some (.ref (tR Θ 0 14)), some (.ref (tR Θ 0 40)), some (.ref (tR Θ 0 41)), some (.ref (tR Θ 0 42)), some (.ref (tR Θ 0 44)), some (.int (nI ob)), some (.int (nI en)), some (.ref (tR Θ 0 45)), none, none] [.ref (tR Θ 0 46)] (B) := by
    intro Q9 Θ B hC hSB hLB h1 hec h45 h46 hv2 hv3 kk
    have hLB2 := hLB
    obtain ⟨hD, ⟨e0, us1⟩, e1, -⟩ := hLB
    have i45 : okI B.2.2.1 0 45 = true := by
      show (false || (true && ((((false || false) || (true && B.2.2.1 2)) || (false && B.2.2.1 3)) || (false && B.2.2.1 4)))) = true
      rw [hv2]; rfl
    have i46 : okI B.2.2.1 0 46 = true := by
      show (false || (true && ((((false || false) || (false && B.2.2.1 2)) || (true && B.2.2.1 3)) || (false && B.2.2.1 4)))) = true
      rw [hv3, Bool.false_and]; rfl
    have ix : (6 : Int32) * nI ob + nI en = nI (6 * ob + en) := by rw [show (6 : Int32) = nI 6 from rfl, nI_mul, nI_add]
    have uV : mUs (mVd (B.2.1 0 30) ob en) = mUs (B.2.1 0 30) := mUs_congr fun x hx => mVd_n (by unfold enA; omega)
    have hDv : ∀ (n1 : Nat → Int32), LD ((putA (putA (putA B 0 45 n1) 0 42 (upd ((putA B 0 45 n1).2.1 0 42) (6 * ob + en) 3072)) 0 30 (mVd (B.2.1 0 30) ob en)).2.1 0 30) ((putA (putA (putA B 0 45 n1) 0 42 (upd ((putA B 0 45 n1).2.1 0 42) (6 * ob + en) 3072)) 0 30 (mVd (B.2.1 0 30) ob en)).2.1 0 40) ((putA (putA (putA B 0 45 n1) 0 42 (upd ((putA B 0 45 n1).2.1 0 42) (6 * ob + en) 3072)) 0 30 (mVd (B.2.1 0 30) ob en)).2.1 0 41) ((putA (putA (putA B 0 45 n1) 0 42 (upd ((putA B 0 45 n1).2.1 0 42) (6 * ob + en) 3072)) 0 30 (mVd (B.2.1 0 30) ob en)).2.1 0 42) := fun n1 => by
      rw [putA_same, putA_o _ _ (by decide), putA_o _ _ (by decide), putA_o _ _ (by decide), putA_o _ _ (by decide), putA_o _ _ (by decide), putA_o _ _ (by decide), putA_o _ _ (by decide), putA_same, putA_o _ _ (by decide)]
      exact LD_vd hD hob hen
    refine v_astore (q := 52) hC dL_isNeedless_50 rfl (lvc rfl) (Nat.le_of_ble_eq_true rfl) (Nat.le_of_ble_eq_true rfl) rfl ?_
    refine v_aload_n (i := 1) (q := 53) hC dL_isNeedless_52 rfl rfl rfl ?_
    refine v_aload_n (i := 2) (q := 54) hC dL_isNeedless_53 rfl rfl rfl ?_
    refine v_aload_n (i := 3) (q := 55) hC dL_isNeedless_54 rfl rfl rfl ?_
    refine v_aload (q := 57) hC dL_isNeedless_55 rfl rfl ?_
    refine v_aload (q := 59) hC dL_isNeedless_57 rfl rfl ?_
    refine v_callSN (q := 62) (rm := rm_L_notes) hC (c_L_notes hl Θ 45 _ (Or.inl rfl) i45 hD e0) k_L_notes st_yL_notes ml_RL_293 dL_isNeedless_59 rfl rfl rfl (Nat.le_of_ble_eq_true rfl) ⟨Nat.le_of_ble_eq_true rfl, Nat.le_of_ble_eq_true rfl⟩ (c1 := 0) (s1 := 0) rfl rfl ⟨show _ + 0 ≤ 6 by omega, show _ + 0 ≤ 40 by omega⟩ (fR_k ?_) fR_n
    try dsimp only [Option.toList, List.cons_append, List.nil_append]
    refine v_aload_n (i := 3) (q := 63) hC dL_isNeedless_62 rfl rfl rfl ?_
    refine v_bipush (q := 65) (v := 6) hC dL_isNeedless_63 rfl (by decide) ?_
    refine v_iload (q := 67) hC dL_isNeedless_65 rfl rfl ?_
    refine v_imul (q := 68) hC dL_isNeedless_67 rfl ?_
    refine v_iload (q := 70) hC dL_isNeedless_68 rfl rfl ?_
    refine v_iadd (q := 71) hC dL_isNeedless_70 rfl ?_
    refine v_ialdV (q := 72) hC dL_isNeedless_71 rfl rfl rfl (i := 6 * ob + en) (ix) (by first | decide | omega) (by decide) (congrFun (putA_o _ _ (by decide)) _) ?_
    refine v_istore (q := 74) hC dL_isNeedless_72 rfl (lvc rfl) (Nat.le_of_ble_eq_true rfl) (Nat.le_of_ble_eq_true rfl) rfl ?_
    refine v_aload_n (i := 3) (q := 75) hC dL_isNeedless_74 rfl rfl rfl ?_
    refine v_bipush (q := 77) (v := 6) hC dL_isNeedless_75 rfl (by decide) ?_
    refine v_iload (q := 79) hC dL_isNeedless_77 rfl rfl ?_
    refine v_imul (q := 80) hC dL_isNeedless_79 rfl ?_
    refine v_iload (q := 82) hC dL_isNeedless_80 rfl rfl ?_
    refine v_iadd (q := 83) hC dL_isNeedless_82 rfl ?_
    refine v_sipush (q := 86) (v := 3072) hC dL_isNeedless_83 rfl (by decide) ?_
    refine v_iastN (q := 87) hC dL_isNeedless_86 rfl rfl (fun _ => rfl) (i := 6 * ob + en) (ix) (by first | decide | omega | (unfold oA; omega) | (unfold enA; omega)) (by decide) ?_
    refine v_gh (G2 := putA _ 0 30 (mVd (B.2.1 0 30) ob en)) ((Gh.refl _).a (by decide)) ?_
    refine v_aload_n (i := 1) (q := 88) hC dL_isNeedless_87 rfl rfl rfl ?_
    refine v_aload_n (i := 2) (q := 89) hC dL_isNeedless_88 rfl rfl rfl ?_
    refine v_aload_n (i := 3) (q := 90) hC dL_isNeedless_89 rfl rfl rfl ?_
    refine v_aload (q := 92) hC dL_isNeedless_90 rfl rfl ?_
    refine v_aload (q := 94) hC dL_isNeedless_92 rfl rfl ?_
    refine v_callSN (q := 97) (rm := rm_L_notes) hC (c_L_notes hl Θ 46 _ (Or.inr rfl) i46 (hDv _) (by
      rw [putA_same, uV, putA_o _ _ (by decide), putA_o _ _ (by decide), putA_o _ _ (by decide)]
      exact e0)) k_L_notes st_yL_notes ml_RL_293 dL_isNeedless_94 rfl rfl rfl (Nat.le_of_ble_eq_true rfl) ⟨Nat.le_of_ble_eq_true rfl, Nat.le_of_ble_eq_true rfl⟩ (c1 := 0) (s1 := 0) rfl rfl ⟨show _ + 0 ≤ 6 by omega, show _ + 0 ≤ 40 by omega⟩ (fR_k ?_) fR_n
    try dsimp only [Option.toList, List.cons_append, List.nil_append]
    refine v_gh (G2 := putA _ 0 30 (B.2.1 0 30)) ((Gh.refl _).a (by decide)) ?_
    refine v_aload_n (i := 3) (q := 98) hC dL_isNeedless_97 rfl rfl rfl ?_
    refine v_bipush (q := 100) (v := 6) hC dL_isNeedless_98 rfl (by decide) ?_
    refine v_iload (q := 102) hC dL_isNeedless_100 rfl rfl ?_
    refine v_imul (q := 103) hC dL_isNeedless_102 rfl ?_
    refine v_iload (q := 105) hC dL_isNeedless_103 rfl rfl ?_
    refine v_iadd (q := 106) hC dL_isNeedless_105 rfl ?_
    refine v_iload (q := 108) hC dL_isNeedless_106 rfl rfl ?_
    refine v_iastN (q := 109) hC dL_isNeedless_108 rfl rfl (fun _ => rfl) (i := 6 * ob + en) (ix) (by first | decide | omega | (unfold oA; omega) | (unfold enA; omega)) (by decide) ?_
    refine T Q9 Θ _ _ hC ?_ ?_ ?_ ?_ ?_ ?_ hv2 hv3 ?_
    · exact Sim.pa (Sim.gb ((hSB.pa (by decide)).pa (by decide)) (by decide)) (by decide)
    · refine hLB2.cg fun o ho => ?_
      rcases ho with rfl | ⟨ho1, ho2⟩
      · rw [putA_o _ _ (by decide), putA_same]
      · by_cases h42 : o = 42
        · subst h42
          rw [putA_same, putA_o _ _ (by decide), putA_o _ _ (by decide), putA_o _ _ (by decide), putA_same, putA_o _ _ (by decide)]
          exact upd_back _ _ _
        · rw [putA_o _ _ h42, putA_o _ _ (by omega), putA_o _ _ (by omega), putA_o _ _ (by omega), putA_o _ _ h42, putA_o _ _ (by omega)]
    · rw [putA_o _ _ (by decide), putA_same]; exact h1
    · rw [putA_o _ _ (by decide), putA_same]; exact hec
    · rw [putA_o _ _ (by decide), putA_o _ _ (by decide), putA_o _ _ (by decide), putA_o _ _ (by decide), putA_o _ _ (by decide), putA_same, putA_o _ _ (by decide), putA_same, h45]
    · refine ((putA_o _ _ (by decide)).trans ((putA_o _ _ (by decide)).trans (putA_same _ _ _ _))).trans ?_
      refine congr (congr (congrArg lNt ?_) ?_) ?_
      · exact (putA_same _ _ _ _).trans (congrArg (fun z => mVd z ob en) ((putA_o _ _ (by decide)).trans (putA_same _ _ _ _)).symm)
      · exact (putA_o _ _ (by decide)).trans ((putA_o _ _ (by decide)).trans ((putA_o _ _ (by decide)).trans h46))
      · exact (congrArg mUs (putA_same _ _ _ _)).trans (uV.trans (congrArg mUs ((putA_o _ _ (by decide)).trans (putA_same _ _ _ _)).symm))
    · intro G2 LS z
      refine kk G2 LS z.1 (fun o ho => ?_) z.2.2.2
      rcases ho with rfl | ⟨ho1, ho2⟩
      · rw [z.w, putA_o _ _ (by decide), putA_same]
      · rw [z.a ho1 (by omega)]
        by_cases h42 : o = 42
        · subst h42
          rw [putA_same, putA_o _ _ (by decide), putA_o _ _ (by decide), putA_o _ _ (by decide), putA_same, putA_o _ _ (by decide)]
          exact upd_back _ _ _
        · rw [putA_o _ _ h42, putA_o _ _ (by omega), putA_o _ _ (by omega), putA_o _ _ (by omega), putA_o _ _ h42, putA_o _ _ (by omega)]
  -- the second row
  have S1 : ∀ (Q9 : State → Prop) (Θ : cTH) (B : GS), cC p l s m args meth c cL_isNeedless 10 yL_isNeedless.cls Θ → Sim B t → LR B → B.2.1 0 30 (oA ob 0) = 1 → en < mCt (B.2.1 0 30) ob → B.2.1 0 45 = (fun _ => 0) → B.2.2.1 2 = true → noT B.2.2.1 3 → (∀ (b : Nat) (G2 : GS) (LS : List (Option Value)), Sim G2 (t + 1) → (∀ o, o = 30 ∨ (40 ≤ o ∧ o < 45) → G2.2.1 0 o = B.2.1 0 o) → G2.2.2.1 2 = true → G2.2.2.1 3 = true → G2.2.2.1 4 = false → VG p l e rm_L_isNeedless s m args below meth c 10 (tU Θ 46 b) Q9 4 36 140 LS [.int 1] G2) → VG p l e rm_L_isNeedless s m args below meth c 10 Θ Q9 1 12 44 [some (.ref (tR Θ 0 14)), some (.ref (tR Θ 0 40)), some (.ref (tR Θ 0 41)), some (.ref (tR Θ 0 42)), some (.ref (tR Θ 0 44)), some (.int (nI ob)), some (.int (nI en)), none, none, none] [.ref (tR Θ 0 45)] (B) := by
    intro Q9 Θ B hC hSB hLB h1 hec h45 hv2 hno kk
    refine v_astore (q := 46) hC dL_isNeedless_44 rfl (lvc rfl) (Nat.le_of_ble_eq_true rfl) (Nat.le_of_ble_eq_true rfl) rfl ?_
    refine v_bipush (q := 48) (v := 12) hC dL_isNeedless_46 rfl (by decide) ?_
    refine v_newJ (q := 50) (j := 3) hC (Or.inr rfl) hno dL_isNeedless_48 rfl (Nat.le_of_ble_eq_true rfl) (Nat.le_of_ble_eq_true rfl) (fun b9 => ?_)
    refine S2 Q9 (tU Θ 46 b9) (tpG B 3) (cC_tu hC 46 b9) (hSB.tp (by decide)) (hLB.cg fun o ho => tpG_o _ (by omega)) ?_ ?_ ((tpG_o _ (by decide)).trans h45) (tpG_s _ 3) ((tpG_ln _ (by decide)).trans hv2) (tpG_l _ 3) ?_
    · rw [tpG_o _ (by decide)]; exact h1
    · rw [tpG_o _ (by decide)]; exact hec
    · intro G2 LS g1 g2 g3
      refine kk b9 G2 LS g1 (fun o ho => (g2 o ho).trans (tpG_o _ (by omega))) ?_ ?_ ?_
      · rw [g3]; exact (tpG_ln _ (by decide)).trans hv2
      · rw [g3]; exact tpG_l _ 3
      · rw [g3]; exact (tpG_ln _ (by decide)).trans (hno 4 (by decide) (by decide))
  have hL2 := hL
  obtain ⟨hD, -⟩ := hL
  have hc6 := hD.ok.ct6 (show ob < 20 by omega)
  have z0 : Nx G G t := Nx.refl hS
  by_cases h1 : G.2.1 0 30 (oA ob 0) = 1
  · have hpc := hD.pc hob h1
    rw [hD.ok.ct (o := ob) (by omega)] at hpc
    by_cases hec : en < mCt (G.2.1 0 30) ob
    · refine v_aload_n (i := 2) (q := 1) hC dL_isNeedless_0 rfl rfl rfl ?_
      refine v_iload (q := 3) hC dL_isNeedless_1 rfl rfl ?_
      refine v_ialdV (q := 4) hC dL_isNeedless_3 rfl rfl rfl (i := ob) (rfl) (by first | decide | omega) (by decide) (rfl) ?_
      refine v_bipush (q := 6) (v := (-2)) hC dL_isNeedless_4 rfl (by decide) ?_
      refine v_icmp_eq (q := 21) (q2 := 9) hC dL_isNeedless_6 (by decide) rfl (fun c_6 => ?_) (fun c_6 => ?_)
      · exact absurd h1 ((hD.p2 hob).mp c_6)
      · refine v_iload (q := 11) hC dL_isNeedless_9 rfl rfl ?_
        refine v_aload_n (i := 2) (q := 12) hC dL_isNeedless_11 rfl rfl rfl ?_
        refine v_bipush (q := 14) (v := 40) hC dL_isNeedless_12 rfl (by decide) ?_
        refine v_iload (q := 16) hC dL_isNeedless_14 rfl rfl ?_
        refine v_iadd (q := 17) hC dL_isNeedless_16 rfl ?_
        refine v_ialdV (q := 18) hC dL_isNeedless_17 rfl rfl rfl (i := 40 + ob) (nI_add 40 ob) (by first | decide | omega) (by decide) (hpc) ?_
        refine v_icmp_lt (q := 40) (q2 := 21) hC dL_isNeedless_18 (by decide) rfl (fun c_18 => ?_) (fun c_18 => ?_)
        · refine v_bipush (q := 42) (v := 12) hC dL_isNeedless_40 rfl (by decide) ?_
          refine v_newJ (q := 44) (j := 2) hC (Or.inl rfl) hlv dL_isNeedless_42 rfl (Nat.le_of_ble_eq_true rfl) (Nat.le_of_ble_eq_true rfl) (fun a9 => ?_)
          refine S1 _ (tU Θ 45 a9) (tpG G 2) (cC_tu hC 45 a9) (hS.tp (by decide)) (hL2.cg fun o ho => tpG_o _ (by omega)) ?_ ?_ (tpG_s _ 2) (tpG_l _ 2) (fun i q1 q2 => (tpG_ln _ (by omega)).trans (hlv i (by omega) q2)) ?_
          · rw [tpG_o _ (by decide)]; exact h1
          · rw [tpG_o _ (by decide)]; exact hec
          intro b9 G2 LS g1 g2 g3 g4 g5
          refine v_drop (j := 3) (by decide) (fun i q1 q2 => ?_) g4 ?_
          · rw [show i = 4 by omega]; exact g5
          refine v_drop (j := 2) (by decide) (fun i q1 q2 => ?_) ((dpG_ln _ (by decide)).trans g3) ?_
          · by_cases q9 : i = 3
            · subst q9; exact dpG_l _ 3
            · rw [dpG_ln _ q9, show i = 4 by omega]; exact g5
          · refine v_iret hC dL_isNeedless_140 hr (by rfl) ⟨rfl, (g1.dp (by decide)).dp (by decide), (g2 30 (Or.inl rfl)).trans (tpG_o _ (by decide)), fun o q1 q2 => (g2 o (Or.inr ⟨q1, q2⟩)).trans (tpG_o _ (by omega)), fun i q1 q2 => ?_⟩ (Nat.le_of_ble_eq_true rfl) (Nat.le_of_ble_eq_true rfl)
            by_cases q8 : i = 2
            · subst q8; exact dpG_l _ 2
            · rw [dpG_ln _ q8]
              by_cases q9 : i = 3
              · subst q9; exact dpG_l _ 3
              · rw [dpG_ln _ q9, show i = 4 by omega]; exact g5
        · exact absurd (nI_lt hec (by omega)) c_18
    · have hn : ¬ mEnt (G.2.1 0 30) (nI ob) (nI en) = true := by rw [hD.ent (by omega) (by omega), decide_eq_false hec, Bool.and_false]; decide
      refine v_aload_n (i := 2) (q := 1) hC dL_isNeedless_0 rfl rfl rfl ?_
      refine v_iload (q := 3) hC dL_isNeedless_1 rfl rfl ?_
      refine v_ialdV (q := 4) hC dL_isNeedless_3 rfl rfl rfl (i := ob) (rfl) (by first | decide | omega) (by decide) (rfl) ?_
      refine v_bipush (q := 6) (v := (-2)) hC dL_isNeedless_4 rfl (by decide) ?_
      refine v_icmp_eq (q := 21) (q2 := 9) hC dL_isNeedless_6 (by decide) rfl (fun c_6 => ?_) (fun c_6 => ?_)
      · exact absurd h1 ((hD.p2 hob).mp c_6)
      · refine v_iload (q := 11) hC dL_isNeedless_9 rfl rfl ?_
        refine v_aload_n (i := 2) (q := 12) hC dL_isNeedless_11 rfl rfl rfl ?_
        refine v_bipush (q := 14) (v := 40) hC dL_isNeedless_12 rfl (by decide) ?_
        refine v_iload (q := 16) hC dL_isNeedless_14 rfl rfl ?_
        refine v_iadd (q := 17) hC dL_isNeedless_16 rfl ?_
        refine v_ialdV (q := 18) hC dL_isNeedless_17 rfl rfl rfl (i := 40 + ob) (nI_add 40 ob) (by first | decide | omega) (by decide) (hpc) ?_
        refine v_icmp_lt (q := 40) (q2 := 21) hC dL_isNeedless_18 (by decide) rfl (fun c_18 => ?_) (fun c_18 => ?_)
        · exact absurd c_18 (nI_nlt (by omega) (by omega))
        · refine v_aload_n (i := 0) (q := 22) hC dL_isNeedless_21 rfl rfl rfl ?_
          refine v_iload (q := 24) hC dL_isNeedless_22 rfl rfl ?_
          refine v_iload (q := 26) hC dL_isNeedless_24 rfl rfl ?_
          refine v_callR (q := 29) (rm := rm_L_isNeedlessOf) hC ((r_isNeedless hl Θ z0 ht (nI ob) (nI en)).v (v2 := -101) (if_neg hn)) kh_L_isNeedlessOf ml_RL_309 dL_isNeedless_26 rfl rfl rfl (Nat.le_of_ble_eq_true rfl) ⟨Nat.le_of_ble_eq_true rfl, Nat.le_of_ble_eq_true rfl⟩ (c1 := 2) (s1 := 12) rfl rfl ⟨show _ + 2 ≤ 6 by omega, show _ + 12 ≤ 40 by omega⟩ (rQ_k (fun G_26 z_26 => ?_)) rQ_n
          try dsimp only [Option.toList, List.cons_append, List.nil_append]
          refine v_bipush (q := 31) (v := (-101)) hC dL_isNeedless_29 rfl (by decide) ?_
          refine v_icmp_ne (q := 38) (q2 := 34) hC dL_isNeedless_31 (by decide) rfl (fun c_31 => ?_) (fun c_31 => ?_)
          · exact absurd rfl c_31
          · refine v_iconst (q := 35) (v := 1) hC dL_isNeedless_34 rfl (by decide) ?_
            refine v_goto (q := 39) hC dL_isNeedless_35 (by decide) ?_
            refine v_iret hC dL_isNeedless_39 hr (rfl) ?_ (show _ ≤ 6 by omega) (show _ ≤ 40 by omega)
            exact ⟨rfl, (z_26).ny hlv⟩
  · have hn : ¬ mEnt (G.2.1 0 30) (nI ob) (nI en) = true := by rw [hD.ent (by omega) (by omega), decide_eq_false h1, Bool.false_and]; decide
    refine v_aload_n (i := 2) (q := 1) hC dL_isNeedless_0 rfl rfl rfl ?_
    refine v_iload (q := 3) hC dL_isNeedless_1 rfl rfl ?_
    refine v_ialdV (q := 4) hC dL_isNeedless_3 rfl rfl rfl (i := ob) (rfl) (by first | decide | omega) (by decide) (rfl) ?_
    refine v_bipush (q := 6) (v := (-2)) hC dL_isNeedless_4 rfl (by decide) ?_
    refine v_icmp_eq (q := 21) (q2 := 9) hC dL_isNeedless_6 (by decide) rfl (fun c_6 => ?_) (fun c_6 => ?_)
    · refine v_aload_n (i := 0) (q := 22) hC dL_isNeedless_21 rfl rfl rfl ?_
      refine v_iload (q := 24) hC dL_isNeedless_22 rfl rfl ?_
      refine v_iload (q := 26) hC dL_isNeedless_24 rfl rfl ?_
      refine v_callR (q := 29) (rm := rm_L_isNeedlessOf) hC ((r_isNeedless hl Θ z0 ht (nI ob) (nI en)).v (v2 := -101) (if_neg hn)) kh_L_isNeedlessOf ml_RL_309 dL_isNeedless_26 rfl rfl rfl (Nat.le_of_ble_eq_true rfl) ⟨Nat.le_of_ble_eq_true rfl, Nat.le_of_ble_eq_true rfl⟩ (c1 := 2) (s1 := 12) rfl rfl ⟨show _ + 2 ≤ 6 by omega, show _ + 12 ≤ 40 by omega⟩ (rQ_k (fun G_26 z_26 => ?_)) rQ_n
      try dsimp only [Option.toList, List.cons_append, List.nil_append]
      refine v_bipush (q := 31) (v := (-101)) hC dL_isNeedless_29 rfl (by decide) ?_
      refine v_icmp_ne (q := 38) (q2 := 34) hC dL_isNeedless_31 (by decide) rfl (fun c_31 => ?_) (fun c_31 => ?_)
      · exact absurd rfl c_31
      · refine v_iconst (q := 35) (v := 1) hC dL_isNeedless_34 rfl (by decide) ?_
        refine v_goto (q := 39) hC dL_isNeedless_35 (by decide) ?_
        refine v_iret hC dL_isNeedless_39 hr (rfl) ?_ (show _ ≤ 6 by omega) (show _ ≤ 40 by omega)
        exact ⟨rfl, (z_26).ny hlv⟩
    · exact absurd ((hD.p2 hob).mpr h1) c_6
