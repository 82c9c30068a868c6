/-! changes of entries -/
theorem LR.lrq {G1 Gm : GS} {t : Nat} {w2 : Nat → Int32} (hS : Sim G1 t) (hw : G1.2.1 0 30 = w2) (ha : ∀ o, 40 ≤ o → o < 48 → G1.2.1 0 o = Gm.2.1 0 o) (h : LRq w2 (Gm.2.1 0 40) (Gm.2.1 0 41) (Gm.2.1 0 42) (Gm.2.1 0 43) (Gm.2.1 0 44)) : LR G1 := LR.of hS (LRq.rows hw ha h)
theorem b2i_1 {b : Bool} (h : ¬ b2i b = 0) : b = true := by cases b with | true => rfl | false => exact absurd rfl h
theorem b2i_0 {b : Bool} (h : b2i b = 0) : b = false := by cases b with | false => rfl | true => exact absurd h (by decide)
theorem cod_y1 {b : Bool} (h : ¬ b2i b = 0) : (2 : Int32) = nI (2 * b.toNat) := by rw [b2i_1 h]; rfl
theorem cod_y0 {b : Bool} (h : b2i b = 0) : (0 : Int32) = nI (2 * b.toNat) := by rw [b2i_0 h]; rfl
theorem cod_b1 {b : Bool} (h : ¬ b2i b = 0) : (1 : Int32) = nI b.toNat := by rw [b2i_1 h]; rfl
theorem cod_b0 {b : Bool} (h : b2i b = 0) : (0 : Int32) = nI b.toNat := by rw [b2i_0 h]; rfl
theorem cod_eq (kd who r : Nat) {yes blw : Bool} {x y : Int32} (hx : x = nI (2 * yes.toNat)) (hy : y = nI blw.toNat) : ((16 * nI kd + nI who) * 16 + nI r) * 4 + x + y = nI (lCode kd who r yes blw) := by
  rw [hx, hy, show (16 : Int32) = nI 16 from rfl, show (4 : Int32) = nI 4 from rfl, nI_mul, nI_add, nI_mul, nI_add, nI_mul, nI_add, nI_add]
  rfl
theorem nI_dn (a : Nat) : nI (a + 1) + (-1) = nI a := by
  rw [← nI_1, Int32.add_assoc, show (1 : Int32) + (-1) = 0 from by decide, Int32.add_zero]
abbrev rm_L_ofEntries : Room := { frames := 10, locals := 207, cells := 30, slots := 190 }
set_option maxHeartbeats 4000000 in
set_option maxRecDepth 20000 in
theorem c_L_ofEntries {l : Launch} (hl : l.stackTraces = false) (Θ : cTH) (way y t : Nat) (G : GS) (hS : Sim G t) (hL : LR G) (ht : t < 2 ^ 20) (hlv : noT G.2.2.1 2) (hw : way < 8) (hy : y < 2 ^ 31) : Ct l yL_ofEntries cL_ofEntries 21 (some .boolean) rm_L_ofEntries Θ [.ref (tR Θ 0 14), .ref (tR Θ 0 40), .ref (tR Θ 0 41), .ref (tR Θ 0 42), .ref (tR Θ 0 44), .int (nI way), .int (nI y)] (G) (fQ t) := by
  refine ct_of (LS := [some (.ref (tR Θ 0 14)), some (.ref (tR Θ 0 40)), some (.ref (tR Θ 0 41)), some (.ref (tR Θ 0 42)), some (.ref (tR Θ 0 44)), some (.int (nI way)), some (.int (nI y)), none, none, none, none, none, none, none, none, none, none, none, none, none, none]) hl (by decide +kernel) rfl (Nat.le_of_ble_eq_true rfl) rfl ?_
  intro p e s m args below meth c hC hr
  have hLq := hL.q
  have hL2 := hL
  obtain ⟨hD, ⟨e0, us1⟩, e1, -⟩ := hL
  have hU := hD.ok.us12
  have hc : ∀ k, k < 10 → mCt (G.2.1 0 30) k ≤ 6 := fun k hk => hD.ok.ct6 (by omega)
  have z0 : Nx G G t := Nx.refl hS
  -- an entry goes elsewhere
  have MV : ∀ (ob en pl : Nat), ob < 10 → en < mCt (G.2.1 0 30) ob → pl < mCt (G.2.1 0 30) ob → ∀ (Q9 : State → Prop) (x5 x6 x8 x9 x10 x11 x12 x13 x14 : Option Value), (∀ (a9 b9 : Nat) (G2 : GS) (LS : List (Option Value)), Sim G2 (t + 1) → LR G2 → G2.2.2.1 2 = true → G2.2.2.1 3 = true → G2.2.2.1 4 = false → VG p l e rm_L_ofEntries s m args below meth c 21 (tU (tU Θ 45 a9) 46 b9) Q9 6 48 679 LS [.int 1] G2) → VG p l e rm_L_ofEntries s m args below meth c 21 Θ Q9 0 0 520 [some (.ref (tR Θ 0 14)), some (.ref (tR Θ 0 40)), some (.ref (tR Θ 0 41)), some (.ref (tR Θ 0 42)), some (.ref (tR Θ 0 44)), x5, x6, some (.int (nI ob)), x8, x9, x10, x11, x12, x13, x14, some (.int (nI en)), some (.int (nI pl)), none, none, none, none] [] (G) := by
    intro ob en pl hob hen hpl
    have h6 := hc ob hob
    have h1 := hD.th (show ob < 20 by omega) hen
    have hct := hD.ok.ct (show ob < 20 by omega)
    have eob : (nI ob).toNatClampNeg = ob := nI_clamp (by omega)
    have een : (nI en).toNatClampNeg = en := nI_clamp (by omega)
    have epl : (nI pl).toNatClampNeg = pl := nI_clamp (by omega)
    have ix : ∀ k, (6 : Int32) * nI ob + nI k = nI (6 * ob + k) := fun k => by rw [show (6 : Int32) = nI 6 from rfl, nI_mul, nI_add]
    have cg : (mEnt (G.2.1 0 30) (nI ob) (nI en) && mEnt (G.2.1 0 30) (nI ob) (nI pl)) = true := by
      rw [hD.ent (by omega) (by omega), hD.ent (by omega) (by omega), decide_eq_true h1, decide_eq_true hen, decide_eq_true hpl]; rfl
    have hq := hLq.mv hc hob h1 hct hen hpl
    have hDm := LD_mv hD hob hen hpl hq.2.2.1
    have uM : mUs (mMv (G.2.1 0 30) (G.2.1 0 30) ob en pl) = mUs (G.2.1 0 30) := mUs_congr fun x hx => mMv_o h6 hen hpl (by unfold oA; omega) (by unfold enA; omega)
    have i45 : ∀ {G' : GS}, G'.2.2.1 2 = true → okI G'.2.2.1 0 45 = true := fun {G'} z => by
      show (false || (true && ((((false || false) || (true && G'.2.2.1 2)) || (false && G'.2.2.1 3)) || (false && G'.2.2.1 4)))) = true
      rw [z]; rfl
    have i46 : ∀ {G' : GS}, G'.2.2.1 3 = true → okI G'.2.2.1 0 46 = true := fun {G'} z => by
      show (false || (true && ((((false || false) || (false && G'.2.2.1 2)) || (true && G'.2.2.1 3)) || (false && G'.2.2.1 4)))) = true
      rw [z, Bool.false_and]; rfl
    have T : ∀ (Q9 : State → Prop) (Θ : cTH) (B : GS) (x5 x6 x8 x9 x10 x11 x12 x13 x14 : Option Value) (x19 x20 : Option Value), cC p l s m args meth c cL_ofEntries 21 yL_ofEntries.cls Θ → Sim B t → B.2.1 0 30 = G.2.1 0 30 → LRq (mMv (G.2.1 0 30) (G.2.1 0 30) ob en pl) (B.2.1 0 40) (B.2.1 0 41) (B.2.1 0 42) (B.2.1 0 43) (B.2.1 0 44) → B.2.1 0 45 = lNt (G.2.1 0 30) (fun _ => 0) (mUs (G.2.1 0 30)) → B.2.1 0 46 = lNt (mMv (G.2.1 0 30) (G.2.1 0 30) ob en pl) (fun _ => 0) (mUs (mMv (G.2.1 0 30) (G.2.1 0 30) ob en pl)) → B.2.2.1 2 = true → B.2.2.1 3 = true → (∀ (G2 : GS) (LS : List (Option Value)), Sim G2 (t + 1) → LR G2 → G2.2.2.1 = B.2.2.1 → VG p l e rm_L_ofEntries s m args below meth c 21 Θ Q9 6 48 679 LS [.int 1] G2) → VG p l e rm_L_ofEntries s m args below meth c 21 Θ Q9 2 24 654 [some (.ref (tR Θ 0 14)), some (.ref (tR Θ 0 40)), some (.ref (tR Θ 0 41)), some (.ref (tR Θ 0 42)), some (.ref (tR Θ 0 44)), x5, x6, some (.int (nI ob)), x8, x9, x10, x11, x12, x13, x14, some (.int (nI en)), some (.int (nI pl)), some (.ref (tR Θ 0 45)), some (.ref (tR Θ 0 46)), x19, x20] [] (B) := by
      intro Q9 Θ B x5 x6 x8 x9 x10 x11 x12 x13 x14 x19 x20 hC hSB hWB hqB h45 h46 hv2 hv3 kk
      have hN : lUo (B.2.1 0 45) (B.2.1 0 46) 12 0 0 = mUl (mMv (G.2.1 0 30) (G.2.1 0 30) ob en pl) (mNt (G.2.1 0 30)) 240 0 0 := by
        rw [h45, h46]
        refine lUo_mUl (fun u k hu hk => lNt_all hD.ok hu hk) (fun u k hu hk => lNt_all hDm.ok hu hk) (fun u k hu h10 h20 => ?_)
        rw [mNt_no h20 (by rw [hD.hold h20, decide_eq_false (hD.no h10 h20)]), mNt_no h20 (by rw [hDm.hold h20, decide_eq_false (hDm.no h10 h20)])]
      refine v_aload_n (i := 0) (q := 655) hC dL_ofEntries_654 rfl rfl rfl ?_
      refine v_iload (q := 657) hC dL_ofEntries_655 rfl rfl ?_
      refine v_iload (q := 659) hC dL_ofEntries_657 rfl rfl ?_
      refine v_iload (q := 661) hC dL_ofEntries_659 rfl rfl ?_
      refine v_callR (q := 664) (rm := rm_L_moveEntryOf) hC ((r_moveEntry hl Θ (Nx.refl hSB) ht (nI ob) (nI en) (nI pl)).p (v2 := lUo (B.2.1 0 45) (B.2.1 0 46) 12 0 0) (w2 := mMv (G.2.1 0 30) (G.2.1 0 30) ob en pl) (by rw [hWB, eob, een, epl, hN]; exact if_pos cg) (by rw [hWB, eob, een, epl]; exact if_pos cg)) kh_L_moveEntryOf ml_RL_386 dL_ofEntries_661 rfl rfl rfl (Nat.le_of_ble_eq_true rfl) ⟨Nat.le_of_ble_eq_true rfl, Nat.le_of_ble_eq_true rfl⟩ (c1 := 4) (s1 := 24) rfl rfl ⟨show _ + 4 ≤ 30 by omega, show _ + 24 ≤ 190 by omega⟩ (pQ_k (fun G_661 s_661 w_661 a_661 l_661 => ?_)) pQ_n
      try dsimp only [Option.toList, List.cons_append, List.nil_append]
      refine v_aload (q := 666) hC dL_ofEntries_664 rfl rfl ?_
      refine v_aload (q := 668) hC dL_ofEntries_666 rfl rfl ?_
      refine v_callSN (q := 671) (rm := rm_L_unlike) hC (c_L_unlike hl Θ _ (i45 (by rw [l_661]; exact hv2)) (i46 (by rw [l_661]; exact hv3))) k_L_unlike st_yL_unlike ml_RL_312 dL_ofEntries_668 rfl rfl rfl (Nat.le_of_ble_eq_true rfl) ⟨Nat.le_of_ble_eq_true rfl, Nat.le_of_ble_eq_true rfl⟩ (c1 := 0) (s1 := 0) rfl rfl ⟨show _ + 0 ≤ 30 by omega, show _ + 0 ≤ 190 by omega⟩ (fR_k ?_) fR_n
      try dsimp only [Option.toList, List.cons_append, List.nil_append]
      rw [a_661 45 (by decide) (by decide), a_661 46 (by decide) (by decide)]
      refine v_icmp_ne (q := 678) (q2 := 674) hC dL_ofEntries_671 (by decide) rfl (fun c_671 => ?_) (fun c_671 => ?_)
      · exact absurd rfl c_671
      · refine v_iconst (q := 675) (v := 1) hC dL_ofEntries_674 rfl (by decide) ?_
        refine v_goto (q := 679) hC dL_ofEntries_675 (by decide) ?_
        exact kk _ _ s_661 (LR.lrq s_661 w_661 a_661 hqB) l_661
    have S3 : ∀ (Q9 : State → Prop) (Θ : cTH) (B : GS) (x5 x6 x8 x9 x10 x11 x12 x13 x14 : Option Value) (x20 : Option Value), cC p l s m args meth c cL_ofEntries 21 yL_ofEntries.cls Θ → Sim B t → B.2.1 0 30 = G.2.1 0 30 → B.2.1 0 40 = G.2.1 0 40 → B.2.1 0 41 = G.2.1 0 41 → B.2.1 0 43 = G.2.1 0 43 → B.2.1 0 44 = G.2.1 0 44 → upd (B.2.1 0 42) (6 * ob + pl) (G.2.1 0 42 (6 * ob + en)) = mvRw (G.2.1 0 42) ob en pl → B.2.1 0 45 = lNt (G.2.1 0 30) (fun _ => 0) (mUs (G.2.1 0 30)) → B.2.1 0 46 = (fun _ => 0) → B.2.2.1 2 = true → B.2.2.1 3 = true → (∀ (G2 : GS) (LS : List (Option Value)), Sim G2 (t + 1) → LR G2 → G2.2.2.1 = B.2.2.1 → VG p l e rm_L_ofEntries s m args below meth c 21 Θ Q9 6 48 679 LS [.int 1] G2) → VG p l e rm_L_ofEntries s m args below meth c 21 Θ Q9 2 24 632 [some (.ref (tR Θ 0 14)), some (.ref (tR Θ 0 40)), some (.ref (tR Θ 0 41)), some (.ref (tR Θ 0 42)), some (.ref (tR Θ 0 44)), x5, x6, some (.int (nI ob)), x8, x9, x10, x11, x12, x13, x14, some (.int (nI en)), some (.int (nI pl)), some (.ref (tR Θ 0 45)), some (.ref (tR Θ 0 46)), some (.int (G.2.1 0 42 (6 * ob + en))), x20] [] (B) := by
      intro Q9 Θ B x5 x6 x8 x9 x10 x11 x12 x13 x14 x20 hC hSB hWB r40 r41 r43 r44 r42 h45 h46 hv2 hv3 kk
      have hDg : LD ((putA (putA B 0 42 (upd (B.2.1 0 42) (6 * ob + pl) (G.2.1 0 42 (6 * ob + en)))) 0 30 (mMv (G.2.1 0 30) (G.2.1 0 30) ob en pl)).2.1 0 30) ((putA (putA B 0 42 (upd (B.2.1 0 42) (6 * ob + pl) (G.2.1 0 42 (6 * ob + en)))) 0 30 (mMv (G.2.1 0 30) (G.2.1 0 30) ob en pl)).2.1 0 40) ((putA (putA B 0 42 (upd (B.2.1 0 42) (6 * ob + pl) (G.2.1 0 42 (6 * ob + en)))) 0 30 (mMv (G.2.1 0 30) (G.2.1 0 30) ob en pl)).2.1 0 41) ((putA (putA B 0 42 (upd (B.2.1 0 42) (6 * ob + pl) (G.2.1 0 42 (6 * ob + en)))) 0 30 (mMv (G.2.1 0 30) (G.2.1 0 30) ob en pl)).2.1 0 42) := by
        rw [putA_same, putA_o _ _ (by decide), putA_o _ _ (by decide), putA_o _ _ (by decide), putA_o _ _ (by decide), putA_o _ _ (by decide), putA_same, r40, r41, r42]
        exact hDm
      refine v_aload_n (i := 3) (q := 633) hC dL_ofEntries_632 rfl rfl rfl ?_
      refine v_bipush (q := 635) (v := 6) hC dL_ofEntries_633 rfl (by decide) ?_
      refine v_iload (q := 637) hC dL_ofEntries_635 rfl rfl ?_
      refine v_imul (q := 638) hC dL_ofEntries_637 rfl ?_
      refine v_iload (q := 640) hC dL_ofEntries_638 rfl rfl ?_
      refine v_iadd (q := 641) hC dL_ofEntries_640 rfl ?_
      refine v_iload (q := 643) hC dL_ofEntries_641 rfl rfl ?_
      refine v_iastN (q := 644) hC dL_ofEntries_643 rfl rfl (fun _ => rfl) (i := 6 * ob + pl) (ix pl) (by first | decide | omega | (unfold oA; omega) | (unfold enA; omega)) (by decide) ?_
      refine v_gh (G2 := putA _ 0 30 (mMv (G.2.1 0 30) (G.2.1 0 30) ob en pl)) ((Gh.refl _).a (by decide)) ?_
      refine v_aload_n (i := 1) (q := 645) hC dL_ofEntries_644 rfl rfl rfl ?_
      refine v_aload_n (i := 2) (q := 646) hC dL_ofEntries_645 rfl rfl rfl ?_
      refine v_aload_n (i := 3) (q := 647) hC dL_ofEntries_646 rfl rfl rfl ?_
      refine v_aload (q := 649) hC dL_ofEntries_647 rfl rfl ?_
      refine v_aload (q := 651) hC dL_ofEntries_649 rfl rfl ?_
      refine v_callSN (q := 654) (rm := rm_L_notes) hC (c_L_notes hl Θ 46 _ (Or.inr rfl) (i46 hv3) hDg (by
        rw [putA_same, uM, putA_o _ _ (by decide), putA_o _ _ (by decide), r44]
        exact e0)) k_L_notes st_yL_notes ml_RL_293 dL_ofEntries_651 rfl rfl rfl (Nat.le_of_ble_eq_true rfl) ⟨Nat.le_of_ble_eq_true rfl, Nat.le_of_ble_eq_true rfl⟩ (c1 := 0) (s1 := 0) rfl rfl ⟨show _ + 0 ≤ 30 by omega, show _ + 0 ≤ 190 by omega⟩ (fR_k ?_) fR_n
      try dsimp only [Option.toList, List.cons_append, List.nil_append]
      refine v_gh (G2 := putA _ 0 30 (B.2.1 0 30)) ((Gh.refl _).a (by decide)) ?_
      refine T Q9 Θ _ x5 x6 x8 x9 x10 x11 x12 x13 x14 _ _ hC ?_ ?_ ?_ ?_ ?_ hv2 hv3 ?_
      · exact Sim.gb (hSB.pa (by decide)) (by decide)
      · exact (putA_same _ _ _ _).trans hWB
      · show LRq _ (B.2.1 0 40) (B.2.1 0 41) (upd (B.2.1 0 42) (6 * ob + pl) (G.2.1 0 42 (6 * ob + en))) (B.2.1 0 43) (B.2.1 0 44)
        rw [r40, r41, r42, r43, r44]
        exact hq
      · rw [putA_o _ _ (by decide), putA_o _ _ (by decide), putA_o _ _ (by decide), putA_o _ _ (by decide)]
        exact h45
      · refine ((putA_o _ _ (by decide)).trans (putA_same _ _ _ _)).trans ?_
        refine congr (congr (congrArg lNt ?_) ?_) ?_
        · exact putA_same _ _ _ _
        · exact (putA_o _ _ (by decide)).trans ((putA_o _ _ (by decide)).trans h46)
        · exact congrArg mUs (putA_same _ _ _ _)
      · exact kk
    have S2 : ∀ (Q9 : State → Prop) (Θ : cTH) (B : GS) (x5 x6 x8 x9 x10 x11 x12 x13 x14 : Option Value), cC p l s m args meth c cL_ofEntries 21 yL_ofEntries.cls Θ → Sim B t → B.2.1 0 30 = G.2.1 0 30 → B.2.1 0 40 = G.2.1 0 40 → B.2.1 0 41 = G.2.1 0 41 → B.2.1 0 43 = G.2.1 0 43 → B.2.1 0 44 = G.2.1 0 44 → B.2.1 0 42 = G.2.1 0 42 → B.2.1 0 45 = (fun _ => 0) → B.2.1 0 46 = (fun _ => 0) → B.2.2.1 2 = true → B.2.2.1 3 = true → (∀ (G2 : GS) (LS : List (Option Value)), Sim G2 (t + 1) → LR G2 → G2.2.2.1 = B.2.2.1 → VG p l e rm_L_ofEntries s m args below meth c 21 Θ Q9 6 48 679 LS [.int 1] G2) → VG p l e rm_L_ofEntries s m args below meth c 21 Θ Q9 2 24 530 [some (.ref (tR Θ 0 14)), some (.ref (tR Θ 0 40)), some (.ref (tR Θ 0 41)), some (.ref (tR Θ 0 42)), some (.ref (tR Θ 0 44)), x5, x6, some (.int (nI ob)), x8, x9, x10, x11, x12, x13, x14, some (.int (nI en)), some (.int (nI pl)), some (.ref (tR Θ 0 45)), none, none, none] [.ref (tR Θ 0 46)] (B) := by
      intro Q9 Θ B x5 x6 x8 x9 x10 x11 x12 x13 x14 hC hSB hWB r40 r41 r43 r44 r42 h45 h46 hv2 hv3 kk
      have hLB : LR B := hL2.cg fun o ho => by
        rcases ho with rfl | ⟨g1, g2⟩
        · exact hWB
        · rcases (show o = 40 ∨ o = 41 ∨ o = 42 ∨ o = 43 ∨ o = 44 by omega) with rfl | rfl | rfl | rfl | rfl
          · exact r40
          · exact r41
          · exact r42
          · exact r43
          · exact r44
      -- behind the loops
      have E3 : ∀ (X : Nat → Int32) (x20 : Option Value), upd X (6 * ob + pl) (G.2.1 0 42 (6 * ob + en)) = mvRw (G.2.1 0 42) ob en pl → VG p l e rm_L_ofEntries s m args below meth c 21 Θ Q9 2 24 632 [some (.ref (tR Θ 0 14)), some (.ref (tR Θ 0 40)), some (.ref (tR Θ 0 41)), some (.ref (tR Θ 0 42)), some (.ref (tR Θ 0 44)), x5, x6, some (.int (nI ob)), x8, x9, x10, x11, x12, x13, x14, some (.int (nI en)), some (.int (nI pl)), some (.ref (tR Θ 0 45)), some (.ref (tR Θ 0 46)), some (.int (G.2.1 0 42 (6 * ob + en))), x20] [] (putA (putA B 0 45 (lNt (B.2.1 0 30) (B.2.1 0 45) (mUs (B.2.1 0 30)))) 0 42 X) := by
        intro X x20 hX
        refine S3 Q9 Θ _ x5 x6 x8 x9 x10 x11 x12 x13 x14 x20 hC ((hSB.pa (by decide)).pa (by decide)) ?_ ?_ ?_ ?_ ?_ ?_ ?_ ?_ hv2 hv3 kk
        · exact (putA_o _ _ (by decide)).trans ((putA_o _ _ (by decide)).trans hWB)
        · exact (putA_o _ _ (by decide)).trans ((putA_o _ _ (by decide)).trans r40)
        · exact (putA_o _ _ (by decide)).trans ((putA_o _ _ (by decide)).trans r41)
        · exact (putA_o _ _ (by decide)).trans ((putA_o _ _ (by decide)).trans r43)
        · exact (putA_o _ _ (by decide)).trans ((putA_o _ _ (by decide)).trans r44)
        · rw [putA_same]; exact hX
        · rw [putA_o _ _ (by decide), putA_same, hWB, h45]
        · exact (putA_o _ _ (by decide)).trans ((putA_o _ _ (by decide)).trans h46)
      have r42' : ∀ a, (putA (putA B 0 45 (lNt (B.2.1 0 30) (B.2.1 0 45) (mUs (B.2.1 0 30)))) 0 42 a).2.1 0 42 = a := fun a => putA_same _ _ _ _
      have L1 : en ≤ pl → ∀ (d k : Nat), d + k = pl → en ≤ k → VG p l e rm_L_ofEntries s m args below meth c 21 Θ Q9 2 24 558 [some (.ref (tR Θ 0 14)), some (.ref (tR Θ 0 40)), some (.ref (tR Θ 0 41)), some (.ref (tR Θ 0 42)), some (.ref (tR Θ 0 44)), x5, x6, some (.int (nI ob)), x8, x9, x10, x11, x12, x13, x14, some (.int (nI en)), some (.int (nI pl)), some (.ref (tR Θ 0 45)), some (.ref (tR Θ 0 46)), some (.int (G.2.1 0 42 (6 * ob + en))), some (.int (nI (k)))] [] (putA (putA B 0 45 (lNt (B.2.1 0 30) (B.2.1 0 45) (mUs (B.2.1 0 30)))) 0 42 (tkE (G.2.1 0 42) (6 * ob + en) (6 * ob + k))) := by
        intro hlt d
        induction d with
        | zero =>
          intro k hk hk2
          have e9 : k = pl := by omega
          subst e9
          refine v_iload (q := 560) hC dL_ofEntries_558 rfl rfl ?_
          refine v_iload (q := 562) hC dL_ofEntries_560 rfl rfl ?_
          refine v_icmp_ge (q := 593) (q2 := 565) hC dL_ofEntries_562 (by decide) rfl (fun c_562 => ?_) (fun c_562 => ?_)
          · refine v_iload (q := 595) hC dL_ofEntries_593 rfl rfl ?_
            refine v_istore (q := 597) hC dL_ofEntries_595 rfl (lvc rfl) (Nat.le_of_ble_eq_true rfl) (Nat.le_of_ble_eq_true rfl) rfl ?_
            refine v_iload (q := 599) hC dL_ofEntries_597 rfl rfl ?_
            refine v_iload (q := 601) hC dL_ofEntries_599 rfl rfl ?_
            refine v_icmp_le (q := 632) (q2 := 604) hC dL_ofEntries_601 (by decide) rfl (fun c_601 => ?_) (fun c_601 => ?_)
            · exact E3 _ _ (by unfold mvRw; rw [if_pos hlt])
            · exact absurd (nI_le hlt (by omega)) c_601
          · exact absurd (Int32.le_refl _) c_562
        | succ d ih =>
          intro k hk hk2
          refine v_iload (q := 560) hC dL_ofEntries_558 rfl rfl ?_
          refine v_iload (q := 562) hC dL_ofEntries_560 rfl rfl ?_
          refine v_icmp_ge (q := 593) (q2 := 565) hC dL_ofEntries_562 (by decide) rfl (fun c_562 => ?_) (fun c_562 => ?_)
          · exact absurd c_562 (nI_ge (by omega) (by omega))
          · refine v_aload_n (i := 3) (q := 566) hC dL_ofEntries_565 rfl rfl rfl ?_
            refine v_bipush (q := 568) (v := 6) hC dL_ofEntries_566 rfl (by decide) ?_
            refine v_iload (q := 570) hC dL_ofEntries_568 rfl rfl ?_
            refine v_imul (q := 571) hC dL_ofEntries_570 rfl ?_
            refine v_iload (q := 573) hC dL_ofEntries_571 rfl rfl ?_
            refine v_iadd (q := 574) hC dL_ofEntries_573 rfl ?_
            refine v_aload_n (i := 3) (q := 575) hC dL_ofEntries_574 rfl rfl rfl ?_
            refine v_bipush (q := 577) (v := 6) hC dL_ofEntries_575 rfl (by decide) ?_
            refine v_iload (q := 579) hC dL_ofEntries_577 rfl rfl ?_
            refine v_imul (q := 580) hC dL_ofEntries_579 rfl ?_
            refine v_iload (q := 582) hC dL_ofEntries_580 rfl rfl ?_
            refine v_iadd (q := 583) hC dL_ofEntries_582 rfl ?_
            refine v_iconst (q := 584) (v := 1) hC dL_ofEntries_583 rfl (by decide) ?_
            refine v_iadd (q := 585) hC dL_ofEntries_584 rfl ?_
            refine v_ialdN (q := 586) hC dL_ofEntries_585 rfl rfl rfl (i := 6 * ob + k + 1) ((by rw [ix, nI_1])) (by first | decide | omega | (unfold oA; omega) | (unfold enA; omega)) (by decide) ?_
            refine v_iastN (q := 587) hC dL_ofEntries_586 rfl rfl (fun _ => rfl) (i := 6 * ob + k) (ix k) (by first | decide | omega | (unfold oA; omega) | (unfold enA; omega)) (by decide) ?_
            rw [putA_putA, r42', tkE_step _ (by omega)]
            refine v_iinc (q := 590) (v := nI (k + 1)) hC dL_ofEntries_587 rfl rfl (nI_1 k) (lvc rfl) (Nat.le_of_ble_eq_true rfl) (Nat.le_of_ble_eq_true rfl) rfl ?_
            refine v_goto (q := 558) hC dL_ofEntries_590 (by decide) ?_
            exact ih (k + 1) (by omega) (by omega)
      have L2 : pl < en → ∀ (d k : Nat), d + pl = k → k ≤ en → VG p l e rm_L_ofEntries s m args below meth c 21 Θ Q9 2 24 597 [some (.ref (tR Θ 0 14)), some (.ref (tR Θ 0 40)), some (.ref (tR Θ 0 41)), some (.ref (tR Θ 0 42)), some (.ref (tR Θ 0 44)), x5, x6, some (.int (nI ob)), x8, x9, x10, x11, x12, x13, x14, some (.int (nI en)), some (.int (nI pl)), some (.ref (tR Θ 0 45)), some (.ref (tR Θ 0 46)), some (.int (G.2.1 0 42 (6 * ob + en))), some (.int (nI (k)))] [] (putA (putA B 0 45 (lNt (B.2.1 0 30) (B.2.1 0 45) (mUs (B.2.1 0 30)))) 0 42 (opE (G.2.1 0 42) (6 * ob + k) (6 * ob + en))) := by
        intro hlt d
        induction d with
        | zero =>
          intro k hk hk2
          have e9 : k = pl := by omega
          subst e9
          refine v_iload (q := 599) hC dL_ofEntries_597 rfl rfl ?_
          refine v_iload (q := 601) hC dL_ofEntries_599 rfl rfl ?_
          refine v_icmp_le (q := 632) (q2 := 604) hC dL_ofEntries_601 (by decide) rfl (fun c_601 => ?_) (fun c_601 => ?_)
          · exact E3 _ _ (by unfold mvRw; rw [if_neg (by omega)])
          · exact absurd (Int32.le_refl _) c_601
        | succ d ih =>
          intro k hk hk2
          obtain ⟨k', rfl⟩ : ∃ k', k = k' + 1 := ⟨k - 1, by omega⟩
          refine v_iload (q := 599) hC dL_ofEntries_597 rfl rfl ?_
          refine v_iload (q := 601) hC dL_ofEntries_599 rfl rfl ?_
          refine v_icmp_le (q := 632) (q2 := 604) hC dL_ofEntries_601 (by decide) rfl (fun c_601 => ?_) (fun c_601 => ?_)
          · exact absurd c_601 (Int32.not_le.mpr (nI_lt (by omega) (by omega)))
          · refine v_aload_n (i := 3) (q := 605) hC dL_ofEntries_604 rfl rfl rfl ?_
            refine v_bipush (q := 607) (v := 6) hC dL_ofEntries_605 rfl (by decide) ?_
            refine v_iload (q := 609) hC dL_ofEntries_607 rfl rfl ?_
            refine v_imul (q := 610) hC dL_ofEntries_609 rfl ?_
            refine v_iload (q := 612) hC dL_ofEntries_610 rfl rfl ?_
            refine v_iadd (q := 613) hC dL_ofEntries_612 rfl ?_
            refine v_aload_n (i := 3) (q := 614) hC dL_ofEntries_613 rfl rfl rfl ?_
            refine v_bipush (q := 616) (v := 6) hC dL_ofEntries_614 rfl (by decide) ?_
            refine v_iload (q := 618) hC dL_ofEntries_616 rfl rfl ?_
            refine v_imul (q := 619) hC dL_ofEntries_618 rfl ?_
            refine v_iload (q := 621) hC dL_ofEntries_619 rfl rfl ?_
            refine v_iadd (q := 622) hC dL_ofEntries_621 rfl ?_
            refine v_iconst (q := 623) (v := 1) hC dL_ofEntries_622 rfl (by decide) ?_
            refine v_isub (q := 624) hC dL_ofEntries_623 rfl ?_
            refine v_ialdN (q := 625) hC dL_ofEntries_624 rfl rfl rfl (i := 6 * ob + k') ((by rw [ix, show 6 * ob + (k' + 1) = 6 * ob + k' + 1 by omega, nI_pred])) (by first | decide | omega | (unfold oA; omega) | (unfold enA; omega)) (by decide) ?_
            refine v_iastN (q := 626) hC dL_ofEntries_625 rfl rfl (fun _ => rfl) (i := 6 * ob + k' + 1) (ix (k' + 1)) (by first | decide | omega | (unfold oA; omega) | (unfold enA; omega)) (by decide) ?_
            rw [putA_putA, r42', show 6 * ob + (k' + 1) = 6 * ob + k' + 1 by omega, opE_step _ (by omega)]
            refine v_iinc (q := 629) (v := nI k') hC dL_ofEntries_626 rfl rfl (nI_dn k') (lvc rfl) (Nat.le_of_ble_eq_true rfl) (Nat.le_of_ble_eq_true rfl) rfl ?_
            refine v_goto (q := 597) hC dL_ofEntries_629 (by decide) ?_
            exact ih k' (by omega) (by omega)
      have r42b : (putA B 0 45 (lNt (B.2.1 0 30) (B.2.1 0 45) (mUs (B.2.1 0 30)))).2.1 0 42 = G.2.1 0 42 := (putA_o _ _ (by decide)).trans r42
      by_cases hlt : en ≤ pl
      · have h9 := L1 hlt (pl - en) en (by omega) (Nat.le_refl _)
        rw [tkE_0, (congrArg (putA (putA B 0 45 (lNt (B.2.1 0 30) (B.2.1 0 45) (mUs (B.2.1 0 30)))) 0 42) r42b.symm).trans (putA_self _ 0 42)] at h9
        refine v_astore (q := 532) hC dL_ofEntries_530 rfl (lvc rfl) (Nat.le_of_ble_eq_true rfl) (Nat.le_of_ble_eq_true rfl) rfl ?_
        refine v_aload_n (i := 1) (q := 533) hC dL_ofEntries_532 rfl rfl rfl ?_
        refine v_aload_n (i := 2) (q := 534) hC dL_ofEntries_533 rfl rfl rfl ?_
        refine v_aload_n (i := 3) (q := 535) hC dL_ofEntries_534 rfl rfl rfl ?_
        refine v_aload (q := 537) hC dL_ofEntries_535 rfl rfl ?_
        refine v_aload (q := 539) hC dL_ofEntries_537 rfl rfl ?_
        refine v_callSN (q := 542) (rm := rm_L_notes) hC (c_L_notes hl Θ 45 _ (Or.inl rfl) (i45 hv2) hLB.1 hLB.2.1.1) k_L_notes st_yL_notes ml_RL_293 dL_ofEntries_539 rfl rfl rfl (Nat.le_of_ble_eq_true rfl) ⟨Nat.le_of_ble_eq_true rfl, Nat.le_of_ble_eq_true rfl⟩ (c1 := 0) (s1 := 0) rfl rfl ⟨show _ + 0 ≤ 30 by omega, show _ + 0 ≤ 190 by omega⟩ (fR_k ?_) fR_n
        try dsimp only [Option.toList, List.cons_append, List.nil_append]
        refine v_aload_n (i := 3) (q := 543) hC dL_ofEntries_542 rfl rfl rfl ?_
        refine v_bipush (q := 545) (v := 6) hC dL_ofEntries_543 rfl (by decide) ?_
        refine v_iload (q := 547) hC dL_ofEntries_545 rfl rfl ?_
        refine v_imul (q := 548) hC dL_ofEntries_547 rfl ?_
        refine v_iload (q := 550) hC dL_ofEntries_548 rfl rfl ?_
        refine v_iadd (q := 551) hC dL_ofEntries_550 rfl ?_
        refine v_ialdV (q := 552) hC dL_ofEntries_551 rfl rfl rfl (i := 6 * ob + en) (ix en) (by first | decide | omega) (by decide) (congrFun r42b _) ?_
        refine v_istore (q := 554) hC dL_ofEntries_552 rfl (lvc rfl) (Nat.le_of_ble_eq_true rfl) (Nat.le_of_ble_eq_true rfl) rfl ?_
        refine v_iload (q := 556) hC dL_ofEntries_554 rfl rfl ?_
        refine v_istore (q := 558) hC dL_ofEntries_556 rfl (lvc rfl) (Nat.le_of_ble_eq_true rfl) (Nat.le_of_ble_eq_true rfl) rfl ?_
        exact h9
      · have h9 := L2 (by omega) (en - pl) en (by omega) (Nat.le_refl _)
        rw [opE_0, (congrArg (putA (putA B 0 45 (lNt (B.2.1 0 30) (B.2.1 0 45) (mUs (B.2.1 0 30)))) 0 42) r42b.symm).trans (putA_self _ 0 42)] at h9
        refine v_astore (q := 532) hC dL_ofEntries_530 rfl (lvc rfl) (Nat.le_of_ble_eq_true rfl) (Nat.le_of_ble_eq_true rfl) rfl ?_
        refine v_aload_n (i := 1) (q := 533) hC dL_ofEntries_532 rfl rfl rfl ?_
        refine v_aload_n (i := 2) (q := 534) hC dL_ofEntries_533 rfl rfl rfl ?_
        refine v_aload_n (i := 3) (q := 535) hC dL_ofEntries_534 rfl rfl rfl ?_
        refine v_aload (q := 537) hC dL_ofEntries_535 rfl rfl ?_
        refine v_aload (q := 539) hC dL_ofEntries_537 rfl rfl ?_
        refine v_callSN (q := 542) (rm := rm_L_notes) hC (c_L_notes hl Θ 45 _ (Or.inl rfl) (i45 hv2) hLB.1 hLB.2.1.1) k_L_notes st_yL_notes ml_RL_293 dL_ofEntries_539 rfl rfl rfl (Nat.le_of_ble_eq_true rfl) ⟨Nat.le_of_ble_eq_true rfl, Nat.le_of_ble_eq_true rfl⟩ (c1 := 0) (s1 := 0) rfl rfl ⟨show _ + 0 ≤ 30 by omega, show _ + 0 ≤ 190 by omega⟩ (fR_k ?_) fR_n
        try dsimp only [Option.toList, List.cons_append, List.nil_append]
        refine v_aload_n (i := 3) (q := 543) hC dL_ofEntries_542 rfl rfl rfl ?_
        refine v_bipush (q := 545) (v := 6) hC dL_ofEntries_543 rfl (by decide) ?_
        refine v_iload (q := 547) hC dL_ofEntries_545 rfl rfl ?_
        refine v_imul (q := 548) hC dL_ofEntries_547 rfl ?_
        refine v_iload (q := 550) hC dL_ofEntries_548 rfl rfl ?_
        refine v_iadd (q := 551) hC dL_ofEntries_550 rfl ?_
        refine v_ialdV (q := 552) hC dL_ofEntries_551 rfl rfl rfl (i := 6 * ob + en) (ix en) (by first | decide | omega) (by decide) (congrFun r42b _) ?_
        refine v_istore (q := 554) hC dL_ofEntries_552 rfl (lvc rfl) (Nat.le_of_ble_eq_true rfl) (Nat.le_of_ble_eq_true rfl) rfl ?_
        refine v_iload (q := 556) hC dL_ofEntries_554 rfl rfl ?_
        refine v_istore (q := 558) hC dL_ofEntries_556 rfl (lvc rfl) (Nat.le_of_ble_eq_true rfl) (Nat.le_of_ble_eq_true rfl) rfl ?_
        refine v_iload (q := 560) hC dL_ofEntries_558 rfl rfl ?_
        refine v_iload (q := 562) hC dL_ofEntries_560 rfl rfl ?_
        refine v_icmp_ge (q := 593) (q2 := 565) hC dL_ofEntries_562 (by decide) rfl (fun c_562 => ?_) (fun c_562 => ?_)
        · refine v_iload (q := 595) hC dL_ofEntries_593 rfl rfl ?_
          refine v_istore (q := 597) hC dL_ofEntries_595 rfl (lvc rfl) (Nat.le_of_ble_eq_true rfl) (Nat.le_of_ble_eq_true rfl) rfl ?_
          exact h9
        · exact absurd (nI_le (by omega) (by omega)) c_562
    have S1 : ∀ (Q9 : State → Prop) (Θ : cTH) (B : GS) (x5 x6 x8 x9 x10 x11 x12 x13 x14 : Option Value), cC p l s m args meth c cL_ofEntries 21 yL_ofEntries.cls Θ → Sim B t → (∀ o, o = 30 ∨ (40 ≤ o ∧ o < 45) → B.2.1 0 o = G.2.1 0 o) → B.2.1 0 45 = (fun _ => 0) → B.2.2.1 2 = true → noT B.2.2.1 3 → (∀ (b9 : Nat) (G2 : GS) (LS : List (Option Value)), Sim G2 (t + 1) → LR G2 → G2.2.2.1 2 = true → G2.2.2.1 3 = true → G2.2.2.1 4 = false → VG p l e rm_L_ofEntries s m args below meth c 21 (tU Θ 46 b9) Q9 6 48 679 LS [.int 1] G2) → VG p l e rm_L_ofEntries s m args below meth c 21 Θ Q9 1 12 524 [some (.ref (tR Θ 0 14)), some (.ref (tR Θ 0 40)), some (.ref (tR Θ 0 41)), some (.ref (tR Θ 0 42)), some (.ref (tR Θ 0 44)), x5, x6, some (.int (nI ob)), x8, x9, x10, x11, x12, x13, x14, some (.int (nI en)), some (.int (nI pl)), none, none, none, none] [.ref (tR Θ 0 45)] (B) := by
      intro Q9 Θ B x5 x6 x8 x9 x10 x11 x12 x13 x14 hC hSB hx h45 hv2 hno kk
      have hx2 : ∀ o, o = 30 ∨ (40 ≤ o ∧ o < 45) → (tpG B 3).2.1 0 o = G.2.1 0 o := fun o ho => (tpG_o _ (by omega)).trans (hx o ho)
      refine v_astore (q := 526) hC dL_ofEntries_524 rfl (lvc rfl) (Nat.le_of_ble_eq_true rfl) (Nat.le_of_ble_eq_true rfl) rfl ?_
      refine v_bipush (q := 528) (v := 12) hC dL_ofEntries_526 rfl (by decide) ?_
      refine v_newJ (q := 530) (j := 3) hC (Or.inr rfl) hno dL_ofEntries_528 rfl (Nat.le_of_ble_eq_true rfl) (Nat.le_of_ble_eq_true rfl) (fun b9 => ?_)
      refine S2 Q9 (tU Θ 46 b9) (tpG B 3) x5 x6 x8 x9 x10 x11 x12 x13 x14 (cC_tu hC 46 b9) (hSB.tp (by decide)) (hx2 30 (by omega)) (hx2 40 (by omega)) (hx2 41 (by omega)) (hx2 43 (by omega)) (hx2 44 (by omega)) (hx2 42 (by omega)) ((tpG_o _ (by decide)).trans h45) (tpG_s _ 3) ((tpG_ln _ (by decide)).trans hv2) (tpG_l _ 3) ?_
      intro G2 LS g1 g2 g3
      refine kk b9 G2 LS g1 g2 ?_ ?_ ?_
      · rw [g3]; exact (tpG_ln _ (by decide)).trans hv2
      · rw [g3]; exact tpG_l _ 3
      · rw [g3]; exact (tpG_ln _ (by decide)).trans (hno 4 (by decide) (by decide))
    intro Q9 x5 x6 x8 x9 x10 x11 x12 x13 x14 kk
    refine v_bipush (q := 522) (v := 12) hC dL_ofEntries_520 rfl (by decide) ?_
    refine v_newJ (q := 524) (j := 2) hC (Or.inl rfl) hlv dL_ofEntries_522 rfl (Nat.le_of_ble_eq_true rfl) (Nat.le_of_ble_eq_true rfl) (fun a9 => ?_)
    exact S1 Q9 (tU Θ 45 a9) (tpG G 2) x5 x6 x8 x9 x10 x11 x12 x13 x14 (cC_tu hC 45 a9) (hS.tp (by decide)) (fun o ho => tpG_o _ (by omega)) (tpG_s _ 2) (tpG_l _ 2) (fun i q1 q2 => (tpG_ln _ (by omega)).trans (hlv i (by omega) q2)) (kk a9)
  -- behind the numbers
  have D : ∀ (ob kd who r : Nat) (yes blw : Bool), ob < 10 → kd < 4 → who < 12 → (kd = 1 → who < 8) → (2 ≤ kd → who = 0) → 1 ≤ r → r < 16 → V p l e rm_L_ofEntries s m args below meth c 21 Θ (fQ t) 30 190 0 0 130 [some (.ref (tR Θ 0 14)), some (.ref (tR Θ 0 40)), some (.ref (tR Θ 0 41)), some (.ref (tR Θ 0 42)), some (.ref (tR Θ 0 44)), some (.int (nI way)), some (.int (nI y)), some (.int (nI ob)), some (.int (b2i (decide (G.2.1 0 30 (oA ob 0) = 1)))), some (.int (nI (mCt (G.2.1 0 30) ob))), some (.int (nI kd)), some (.int (nI who)), some (.int (nI r)), some (.int (b2i yes)), some (.int (b2i blw)), none, none, none, none, none, none] [] (G) := by
    intro ob kd who r yes blw hob hkd hwho hwho8 hwho0 hr1 hr16
    have eob : (nI ob).toNatClampNeg = ob := nI_clamp (by omega)
    have h6 := hc ob hob
    have hct := hD.ok.ct (show ob < 20 by omega)
    have ix : ∀ k, (6 : Int32) * nI ob + nI k = nI (6 * ob + k) := fun k => by rw [show (6 : Int32) = nI 6 from rfl, nI_mul, nI_add]
    by_cases ha : way < 6
    · have n6 : nI way < 6 := nI_lt (b := 6) ha (by decide)
      have hT : mThr (G.2.1 0 30) (nI ob) (nI kd) (nI who) = (decide (G.2.1 0 30 (oA ob 0) = 1) && ((!decide (nI kd = 0) || decide (who < mUs (G.2.1 0 30))) && (!decide (nI kd = 1) || decide (who < mGs (G.2.1 0 30))))) := by
        unfold mThr
        rw [hD.hold (by omega), hD.mU (by omega), hD.mG (by omega)]
      have mr : mIn (nI r) 1 15 = true := by
        unfold mIn
        rw [decide_eq_true (show (1 : Int32) ≤ nI r from nI_le (a := 1) hr1 (by omega)), decide_eq_true (show nI r ≤ 15 from nI_le (b := 15) (by omega) (by decide))]; rfl
      have K3 : ¬ nI kd = 0 → ¬ nI kd = 1 → ¬ nI kd = 2 → (3 : Int32) = nI kd := fun a b c => by
        have a2 : ¬ kd = 0 := fun z => a (by rw [z]; rfl)
        have b2 : ¬ kd = 1 := fun z => b (by rw [z]; rfl)
        have c2 : ¬ kd = 2 := fun z => c (by rw [z]; rfl)
        rw [show kd = 3 by omega]; rfl
      have W0 : ¬ nI kd = 0 → ¬ nI kd = 1 → (0 : Int32) = nI who := fun a b => by
        have a2 : ¬ kd = 0 := fun z => a (by rw [z]; rfl)
        have b2 : ¬ kd = 1 := fun z => b (by rw [z]; rfl)
        rw [hwho0 (by omega)]; rfl
      have F : ∀ (G1 : GS) (due cI : Int32) (w2 : Nat → Int32), Sim G1 t → G1.2.1 0 30 = G.2.1 0 30 → G1.2.2.1 = G.2.2.1 → LRq w2 (G1.2.1 0 40) (G1.2.1 0 41) (G1.2.1 0 42) (G1.2.1 0 43) (G1.2.1 0 44) → (∀ kI wI : Int32, kI = nI kd → wI = nI who → (if mThr (G.2.1 0 30) (nI ob) kI wI = true then (if mIn (nI r) 1 15 = true then (if (!decide (G.2.1 0 30 (oA ob 5) = 6)) = true then gI (nI (mCt (G.2.1 0 30) ob + 1)) else -103) else -102) else -101) = due ∧ (if mThr (G.2.1 0 30) (nI ob) kI wI = true then (if mIn (nI r) 1 15 = true then (if (!decide (G.2.1 0 30 (oA ob 5) = 6)) = true then mWrt (upd (G.2.1 0 30) (oA ob 5) (nI (mCt (G.2.1 0 30) ob + 1))) ob (mCt (G.2.1 0 30) ob) kI wI (nI r) yes blw else G.2.1 0 30) else G.2.1 0 30) else G.2.1 0 30) = w2) → V p l e rm_L_ofEntries s m args below meth c 21 Θ (fQ t) 30 190 0 0 270 [some (.ref (tR Θ 0 14)), some (.ref (tR Θ 0 40)), some (.ref (tR Θ 0 41)), some (.ref (tR Θ 0 42)), some (.ref (tR Θ 0 44)), some (.int (nI way)), some (.int (nI y)), some (.int (nI ob)), some (.int (b2i (decide (G.2.1 0 30 (oA ob 0) = 1)))), some (.int (nI (mCt (G.2.1 0 30) ob))), some (.int (nI kd)), some (.int (nI who)), some (.int (nI r)), some (.int (b2i yes)), some (.int (b2i blw)), some (.int (cI)), some (.int (due)), none, none, none, none] [] (G1) := by
        intro G1 due cI w2 hS1 hw1 hl1 hq1 hA
        have hlv1 : noT G1.2.2.1 2 := by rw [hl1]; exact hlv
        refine v_iload (q := 272) hC dL_ofEntries_270 rfl rfl ?_
        refine v_iload (q := 274) hC dL_ofEntries_272 rfl rfl ?_
        refine v_if_ne (q := 294) (q2 := 277) hC dL_ofEntries_274 (by decide) rfl (fun c_274 => ?_) (fun c_274 => ?_)
        · refine v_iload (q := 296) hC dL_ofEntries_294 rfl rfl ?_
          refine v_iconst (q := 297) (v := 1) hC dL_ofEntries_296 rfl (by decide) ?_
          refine v_icmp_ne (q := 317) (q2 := 300) hC dL_ofEntries_297 (by decide) rfl (fun c_297 => ?_) (fun c_297 => ?_)
          · refine v_iload (q := 319) hC dL_ofEntries_317 rfl rfl ?_
            refine v_iconst (q := 320) (v := 2) hC dL_ofEntries_319 rfl (by decide) ?_
            refine v_icmp_ne (q := 338) (q2 := 323) hC dL_ofEntries_320 (by decide) rfl (fun c_320 => ?_) (fun c_320 => ?_)
            · refine v_aload_n (i := 0) (q := 339) hC dL_ofEntries_338 rfl rfl rfl ?_
              refine v_iload (q := 341) hC dL_ofEntries_339 rfl rfl ?_
              refine v_iload (q := 343) hC dL_ofEntries_341 rfl rfl ?_
              refine v_iload (q := 345) hC dL_ofEntries_343 rfl rfl ?_
              refine v_iload (q := 347) hC dL_ofEntries_345 rfl rfl ?_
              refine v_callR (q := 350) (rm := rm_L_addForAllOf) hC ((r_addForAll hl Θ (Nx.refl hS1) ht (nI ob) (nI r) yes blw).p (v2 := due) (w2 := w2) (by rw [hw1, eob]; exact (hA 3 0 (K3 c_274 c_297 c_320) (W0 c_274 c_297)).1) (by rw [hw1, eob]; exact (hA 3 0 (K3 c_274 c_297 c_320) (W0 c_274 c_297)).2)) kh_L_addForAllOf ml_RL_380 dL_ofEntries_347 rfl rfl rfl (Nat.le_of_ble_eq_true rfl) ⟨Nat.le_of_ble_eq_true rfl, Nat.le_of_ble_eq_true rfl⟩ (c1 := 3) (s1 := 18) rfl rfl ⟨show _ + 3 ≤ 30 by omega, show _ + 18 ≤ 190 by omega⟩ (pQ_k (fun G_347 s_347 w_347 a_347 l_347 => ?_)) pQ_n
              try dsimp only [Option.toList, List.cons_append, List.nil_append]
              refine v_icmp_ne (q := 357) (q2 := 353) hC dL_ofEntries_350 (by decide) rfl (fun c_350 => ?_) (fun c_350 => ?_)
              · exact absurd rfl c_350
              · refine v_iconst (q := 354) (v := 1) hC dL_ofEntries_353 rfl (by decide) ?_
                refine v_goto (q := 358) hC dL_ofEntries_354 (by decide) ?_
                refine v_iret hC dL_ofEntries_358 hr (rfl) ?_ (show _ ≤ 30 by omega) (show _ ≤ 190 by omega)
                first | exact fQ_mk s_288 w_288 a_288 l_288 hlv1 hq1 | exact fQ_mk s_311 w_311 a_311 l_311 hlv1 hq1 | exact fQ_mk s_332 w_332 a_332 l_332 hlv1 hq1 | exact fQ_mk s_347 w_347 a_347 l_347 hlv1 hq1
            · refine v_aload_n (i := 0) (q := 324) hC dL_ofEntries_323 rfl rfl rfl ?_
              refine v_iload (q := 326) hC dL_ofEntries_324 rfl rfl ?_
              refine v_iload (q := 328) hC dL_ofEntries_326 rfl rfl ?_
              refine v_iload (q := 330) hC dL_ofEntries_328 rfl rfl ?_
              refine v_iload (q := 332) hC dL_ofEntries_330 rfl rfl ?_
              refine v_callR (q := 335) (rm := rm_L_addForOwnerOf) hC ((r_addForOwner hl Θ (Nx.refl hS1) ht (nI ob) (nI r) yes blw).p (v2 := due) (w2 := w2) (by rw [hw1, eob]; exact (hA 2 0 c_320.symm (W0 c_274 c_297)).1) (by rw [hw1, eob]; exact (hA 2 0 c_320.symm (W0 c_274 c_297)).2)) kh_L_addForOwnerOf ml_RL_376 dL_ofEntries_332 rfl rfl rfl (Nat.le_of_ble_eq_true rfl) ⟨Nat.le_of_ble_eq_true rfl, Nat.le_of_ble_eq_true rfl⟩ (c1 := 3) (s1 := 18) rfl rfl ⟨show _ + 3 ≤ 30 by omega, show _ + 18 ≤ 190 by omega⟩ (pQ_k (fun G_332 s_332 w_332 a_332 l_332 => ?_)) pQ_n
              try dsimp only [Option.toList, List.cons_append, List.nil_append]
              refine v_goto (q := 350) hC dL_ofEntries_335 (by decide) ?_
              refine v_icmp_ne (q := 357) (q2 := 353) hC dL_ofEntries_350 (by decide) rfl (fun c_350 => ?_) (fun c_350 => ?_)
              · exact absurd rfl c_350
              · refine v_iconst (q := 354) (v := 1) hC dL_ofEntries_353 rfl (by decide) ?_
                refine v_goto (q := 358) hC dL_ofEntries_354 (by decide) ?_
                refine v_iret hC dL_ofEntries_358 hr (rfl) ?_ (show _ ≤ 30 by omega) (show _ ≤ 190 by omega)
                first | exact fQ_mk s_288 w_288 a_288 l_288 hlv1 hq1 | exact fQ_mk s_311 w_311 a_311 l_311 hlv1 hq1 | exact fQ_mk s_332 w_332 a_332 l_332 hlv1 hq1 | exact fQ_mk s_347 w_347 a_347 l_347 hlv1 hq1
          · refine v_aload_n (i := 0) (q := 301) hC dL_ofEntries_300 rfl rfl rfl ?_
            refine v_iload (q := 303) hC dL_ofEntries_301 rfl rfl ?_
            refine v_iload (q := 305) hC dL_ofEntries_303 rfl rfl ?_
            refine v_iload (q := 307) hC dL_ofEntries_305 rfl rfl ?_
            refine v_iload (q := 309) hC dL_ofEntries_307 rfl rfl ?_
            refine v_iload (q := 311) hC dL_ofEntries_309 rfl rfl ?_
            refine v_callR (q := 314) (rm := rm_L_addForGroupOf) hC ((r_addForGroup hl Θ (Nx.refl hS1) ht (nI ob) (nI who) (nI r) yes blw).p (v2 := due) (w2 := w2) (by rw [hw1, eob]; exact (hA 1 (nI who) c_297.symm rfl).1) (by rw [hw1, eob]; exact (hA 1 (nI who) c_297.symm rfl).2)) kh_L_addForGroupOf ml_RL_373 dL_ofEntries_311 rfl rfl rfl (Nat.le_of_ble_eq_true rfl) ⟨Nat.le_of_ble_eq_true rfl, Nat.le_of_ble_eq_true rfl⟩ (c1 := 4) (s1 := 24) rfl rfl ⟨show _ + 4 ≤ 30 by omega, show _ + 24 ≤ 190 by omega⟩ (pQ_k (fun G_311 s_311 w_311 a_311 l_311 => ?_)) pQ_n
            try dsimp only [Option.toList, List.cons_append, List.nil_append]
            refine v_goto (q := 350) hC dL_ofEntries_314 (by decide) ?_
            refine v_icmp_ne (q := 357) (q2 := 353) hC dL_ofEntries_350 (by decide) rfl (fun c_350 => ?_) (fun c_350 => ?_)
            · exact absurd rfl c_350
            · refine v_iconst (q := 354) (v := 1) hC dL_ofEntries_353 rfl (by decide) ?_
              refine v_goto (q := 358) hC dL_ofEntries_354 (by decide) ?_
              refine v_iret hC dL_ofEntries_358 hr (rfl) ?_ (show _ ≤ 30 by omega) (show _ ≤ 190 by omega)
              first | exact fQ_mk s_288 w_288 a_288 l_288 hlv1 hq1 | exact fQ_mk s_311 w_311 a_311 l_311 hlv1 hq1 | exact fQ_mk s_332 w_332 a_332 l_332 hlv1 hq1 | exact fQ_mk s_347 w_347 a_347 l_347 hlv1 hq1
        · refine v_aload_n (i := 0) (q := 278) hC dL_ofEntries_277 rfl rfl rfl ?_
          refine v_iload (q := 280) hC dL_ofEntries_278 rfl rfl ?_
          refine v_iload (q := 282) hC dL_ofEntries_280 rfl rfl ?_
          refine v_iload (q := 284) hC dL_ofEntries_282 rfl rfl ?_
          refine v_iload (q := 286) hC dL_ofEntries_284 rfl rfl ?_
          refine v_iload (q := 288) hC dL_ofEntries_286 rfl rfl ?_
          refine v_callR (q := 291) (rm := rm_L_addForUserOf) hC ((r_addForUser hl Θ (Nx.refl hS1) ht (nI ob) (nI who) (nI r) yes blw).p (v2 := due) (w2 := w2) (by rw [hw1, eob]; exact (hA 0 (nI who) c_274.symm rfl).1) (by rw [hw1, eob]; exact (hA 0 (nI who) c_274.symm rfl).2)) kh_L_addForUserOf ml_RL_369 dL_ofEntries_288 rfl rfl rfl (Nat.le_of_ble_eq_true rfl) ⟨Nat.le_of_ble_eq_true rfl, Nat.le_of_ble_eq_true rfl⟩ (c1 := 4) (s1 := 24) rfl rfl ⟨show _ + 4 ≤ 30 by omega, show _ + 24 ≤ 190 by omega⟩ (pQ_k (fun G_288 s_288 w_288 a_288 l_288 => ?_)) pQ_n
          try dsimp only [Option.toList, List.cons_append, List.nil_append]
          refine v_goto (q := 350) hC dL_ofEntries_291 (by decide) ?_
          refine v_icmp_ne (q := 357) (q2 := 353) hC dL_ofEntries_350 (by decide) rfl (fun c_350 => ?_) (fun c_350 => ?_)
          · exact absurd rfl c_350
          · refine v_iconst (q := 354) (v := 1) hC dL_ofEntries_353 rfl (by decide) ?_
            refine v_goto (q := 358) hC dL_ofEntries_354 (by decide) ?_
            refine v_iret hC dL_ofEntries_358 hr (rfl) ?_ (show _ ≤ 30 by omega) (show _ ≤ 190 by omega)
            first | exact fQ_mk s_288 w_288 a_288 l_288 hlv1 hq1 | exact fQ_mk s_311 w_311 a_311 l_311 hlv1 hq1 | exact fQ_mk s_332 w_332 a_332 l_332 hlv1 hq1 | exact fQ_mk s_347 w_347 a_347 l_347 hlv1 hq1
      have C0 : mThr (G.2.1 0 30) (nI ob) (nI kd) (nI who) = false → V p l e rm_L_ofEntries s m args below meth c 21 Θ (fQ t) 30 190 0 0 178 [some (.ref (tR Θ 0 14)), some (.ref (tR Θ 0 40)), some (.ref (tR Θ 0 41)), some (.ref (tR Θ 0 42)), some (.ref (tR Θ 0 44)), some (.int (nI way)), some (.int (nI y)), some (.int (nI ob)), some (.int (b2i (decide (G.2.1 0 30 (oA ob 0) = 1)))), some (.int (nI (mCt (G.2.1 0 30) ob))), some (.int (nI kd)), some (.int (nI who)), some (.int (nI r)), some (.int (b2i yes)), some (.int (b2i blw)), some (.int (0)), none, none, none, none, none] [] (G) := by
        intro h0
        refine v_iload (q := 180) hC dL_ofEntries_178 rfl rfl ?_
        refine v_if_ne (q := 188) (q2 := 183) hC dL_ofEntries_180 (by decide) rfl (fun c_180 => ?_) (fun c_180 => ?_)
        · exact absurd rfl c_180
        · refine v_bipush (q := 185) (v := (-101)) hC dL_ofEntries_183 rfl (by decide) ?_
          refine v_goto (q := 204) hC dL_ofEntries_185 (by decide) ?_
          refine v_istore (q := 206) hC dL_ofEntries_204 rfl (lvc rfl) (Nat.le_of_ble_eq_true rfl) (Nat.le_of_ble_eq_true rfl) rfl ?_
          refine v_iload (q := 208) hC dL_ofEntries_206 rfl rfl ?_
          refine v_if_le (q := 270) (q2 := 211) hC dL_ofEntries_208 (by decide) rfl (fun c_208 => ?_) (fun c_208 => ?_)
          · exact F G (-101) 0 (G.2.1 0 30) hS rfl rfl hLq (fun kI wI hk hw => by
              subst hk; subst hw
              have hn : ¬ mThr (G.2.1 0 30) (nI ob) (nI kd) (nI who) = true := by rw [h0]; decide
              exact ⟨if_neg hn, if_neg hn⟩)
          · exact absurd (by decide) c_208
      have C1 : mThr (G.2.1 0 30) (nI ob) (nI kd) (nI who) = true → V p l e rm_L_ofEntries s m args below meth c 21 Θ (fQ t) 30 190 0 0 178 [some (.ref (tR Θ 0 14)), some (.ref (tR Θ 0 40)), some (.ref (tR Θ 0 41)), some (.ref (tR Θ 0 42)), some (.ref (tR Θ 0 44)), some (.int (nI way)), some (.int (nI y)), some (.int (nI ob)), some (.int (b2i (decide (G.2.1 0 30 (oA ob 0) = 1)))), some (.int (nI (mCt (G.2.1 0 30) ob))), some (.int (nI kd)), some (.int (nI who)), some (.int (nI r)), some (.int (b2i yes)), some (.int (b2i blw)), some (.int (1)), none, none, none, none, none] [] (G) := by
        intro h0
        have h1 : G.2.1 0 30 (oA ob 0) = 1 := by
          rw [hT] at h0
          exact of_decide_eq_true (Bool.and_eq_true_iff.mp h0).1
        have hpc := hD.pc hob h1
        rw [hct] at hpc
        by_cases hn6 : mCt (G.2.1 0 30) ob = 6
        · refine v_iload (q := 180) hC dL_ofEntries_178 rfl rfl ?_
          refine v_if_ne (q := 188) (q2 := 183) hC dL_ofEntries_180 (by decide) rfl (fun c_180 => ?_) (fun c_180 => ?_)
          · refine v_iload (q := 190) hC dL_ofEntries_188 rfl rfl ?_
            refine v_bipush (q := 192) (v := 6) hC dL_ofEntries_190 rfl (by decide) ?_
            refine v_icmp_ne (q := 200) (q2 := 195) hC dL_ofEntries_192 (by decide) rfl (fun c_192 => ?_) (fun c_192 => ?_)
            · exact absurd (by rw [hn6]; rfl) c_192
            · refine v_bipush (q := 197) (v := (-103)) hC dL_ofEntries_195 rfl (by decide) ?_
              refine v_goto (q := 204) hC dL_ofEntries_197 (by decide) ?_
              refine v_istore (q := 206) hC dL_ofEntries_204 rfl (lvc rfl) (Nat.le_of_ble_eq_true rfl) (Nat.le_of_ble_eq_true rfl) rfl ?_
              refine v_iload (q := 208) hC dL_ofEntries_206 rfl rfl ?_
              refine v_if_le (q := 270) (q2 := 211) hC dL_ofEntries_208 (by decide) rfl (fun c_208 => ?_) (fun c_208 => ?_)
              · exact F G (-103) 1 (G.2.1 0 30) hS rfl rfl hLq (fun kI wI hk hw => by
                  subst hk; subst hw
                  have hn : ¬ (!decide (G.2.1 0 30 (oA ob 5) = 6)) = true := by rw [hct, hn6]; decide
                  exact ⟨(if_pos h0).trans ((if_pos mr).trans (if_neg hn)), (if_pos h0).trans ((if_pos mr).trans (if_neg hn))⟩)
              · exact absurd (by decide) c_208
          · exact absurd c_180 (by decide)
        · have hn6' : ¬ nI (mCt (G.2.1 0 30) ob) = 6 := fun z => hn6 ((nI_eq (b := 6) (by omega) (by decide)).mp z)
          have hA : ∀ kI wI : Int32, kI = nI kd → wI = nI who → (if mThr (G.2.1 0 30) (nI ob) kI wI = true then (if mIn (nI r) 1 15 = true then (if (!decide (G.2.1 0 30 (oA ob 5) = 6)) = true then gI (nI (mCt (G.2.1 0 30) ob + 1)) else -103) else -102) else -101) = nI (mCt (G.2.1 0 30) ob + 1) ∧ (if mThr (G.2.1 0 30) (nI ob) kI wI = true then (if mIn (nI r) 1 15 = true then (if (!decide (G.2.1 0 30 (oA ob 5) = 6)) = true then mWrt (upd (G.2.1 0 30) (oA ob 5) (nI (mCt (G.2.1 0 30) ob + 1))) ob (mCt (G.2.1 0 30) ob) kI wI (nI r) yes blw else G.2.1 0 30) else G.2.1 0 30) else G.2.1 0 30) = mWrt (upd (G.2.1 0 30) (oA ob 5) (nI (mCt (G.2.1 0 30) ob + 1))) ob (mCt (G.2.1 0 30) ob) (nI kd) (nI who) (nI r) yes blw := fun kI wI hk hw => by
            subst hk; subst hw
            have hn : (!decide (G.2.1 0 30 (oA ob 5) = 6)) = true := by rw [hct, decide_eq_false hn6']; rfl
            exact ⟨(if_pos h0).trans ((if_pos mr).trans (if_pos hn)), (if_pos h0).trans ((if_pos mr).trans (if_pos hn))⟩
          have hq := hLq.add hc (a := yes) (b := blw) hob h1 rfl (by omega) rfl rfl ⟨hkd, hwho, hr16⟩
          refine v_iload (q := 180) hC dL_ofEntries_178 rfl rfl ?_
          refine v_if_ne (q := 188) (q2 := 183) hC dL_ofEntries_180 (by decide) rfl (fun c_180 => ?_) (fun c_180 => ?_)
          · refine v_iload (q := 190) hC dL_ofEntries_188 rfl rfl ?_
            refine v_bipush (q := 192) (v := 6) hC dL_ofEntries_190 rfl (by decide) ?_
            refine v_icmp_ne (q := 200) (q2 := 195) hC dL_ofEntries_192 (by decide) rfl (fun c_192 => ?_) (fun c_192 => ?_)
            · refine v_iload (q := 202) hC dL_ofEntries_200 rfl rfl ?_
              refine v_iconst (q := 203) (v := 1) hC dL_ofEntries_202 rfl (by decide) ?_
              refine v_iadd (q := 204) hC dL_ofEntries_203 rfl ?_
              rw [nI_1]
              refine v_istore (q := 206) hC dL_ofEntries_204 rfl (lvc rfl) (Nat.le_of_ble_eq_true rfl) (Nat.le_of_ble_eq_true rfl) rfl ?_
              refine v_iload (q := 208) hC dL_ofEntries_206 rfl rfl ?_
              refine v_if_le (q := 270) (q2 := 211) hC dL_ofEntries_208 (by decide) rfl (fun c_208 => ?_) (fun c_208 => ?_)
              · exact absurd c_208 (Int32.not_le.mpr (nI_lt (a := 0) (by omega) (by omega)))
              · refine v_aload_n (i := 3) (q := 212) hC dL_ofEntries_211 rfl rfl rfl ?_
                refine v_bipush (q := 214) (v := 6) hC dL_ofEntries_212 rfl (by decide) ?_
                refine v_iload (q := 216) hC dL_ofEntries_214 rfl rfl ?_
                refine v_imul (q := 217) hC dL_ofEntries_216 rfl ?_
                refine v_iload (q := 219) hC dL_ofEntries_217 rfl rfl ?_
                refine v_iadd (q := 220) hC dL_ofEntries_219 rfl ?_
                refine v_bipush (q := 222) (v := 16) hC dL_ofEntries_220 rfl (by decide) ?_
                refine v_iload (q := 224) hC dL_ofEntries_222 rfl rfl ?_
                refine v_imul (q := 225) hC dL_ofEntries_224 rfl ?_
                refine v_iload (q := 227) hC dL_ofEntries_225 rfl rfl ?_
                refine v_iadd (q := 228) hC dL_ofEntries_227 rfl ?_
                refine v_bipush (q := 230) (v := 16) hC dL_ofEntries_228 rfl (by decide) ?_
                refine v_imul (q := 231) hC dL_ofEntries_230 rfl ?_
                refine v_iload (q := 233) hC dL_ofEntries_231 rfl rfl ?_
                refine v_iadd (q := 234) hC dL_ofEntries_233 rfl ?_
                refine v_iconst (q := 235) (v := 4) hC dL_ofEntries_234 rfl (by decide) ?_
                refine v_imul (q := 236) hC dL_ofEntries_235 rfl ?_
                refine v_iload (q := 238) hC dL_ofEntries_236 rfl rfl ?_
                refine v_if_eq (q := 245) (q2 := 241) hC dL_ofEntries_238 (by decide) rfl (fun c_238 => ?_) (fun c_238 => ?_)
                · refine v_iconst (q := 246) (v := 0) hC dL_ofEntries_245 rfl (by decide) ?_
                  refine v_iadd (q := 247) hC dL_ofEntries_246 rfl ?_
                  refine v_iload (q := 249) hC dL_ofEntries_247 rfl rfl ?_
                  refine v_if_eq (q := 256) (q2 := 252) hC dL_ofEntries_249 (by decide) rfl (fun c_249 => ?_) (fun c_249 => ?_)
                  · refine v_iconst (q := 257) (v := 0) hC dL_ofEntries_256 rfl (by decide) ?_
                    refine v_iadd (q := 258) hC dL_ofEntries_257 rfl ?_
                    first
                      | rw [cod_eq kd who r (cod_y1 c_238) (cod_b1 c_249)]
                      | rw [cod_eq kd who r (cod_y1 c_238) (cod_b0 c_249)]
                      | rw [cod_eq kd who r (cod_y0 c_238) (cod_b1 c_249)]
                      | rw [cod_eq kd who r (cod_y0 c_238) (cod_b0 c_249)]
                    refine v_iastN (q := 259) hC dL_ofEntries_258 rfl rfl (fun _ => rfl) (i := 6 * ob + mCt (G.2.1 0 30) ob) (ix _) (by first | decide | omega | (unfold oA; omega) | (unfold enA; omega)) (by decide) ?_
                    refine v_aload_n (i := 2) (q := 260) hC dL_ofEntries_259 rfl rfl rfl ?_
                    refine v_bipush (q := 262) (v := 40) hC dL_ofEntries_260 rfl (by decide) ?_
                    refine v_iload (q := 264) hC dL_ofEntries_262 rfl rfl ?_
                    refine v_iadd (q := 265) hC dL_ofEntries_264 rfl ?_
                    refine v_dup2 (q := 266) hC dL_ofEntries_265 rfl rfl rfl ?_
                    refine v_ialdV (q := 267) hC dL_ofEntries_266 rfl rfl rfl (i := 40 + ob) (nI_add 40 ob) (by first | decide | omega) (by decide) ((congrFun (putA_o _ _ (by decide)) _).trans hpc) ?_
                    refine v_iconst (q := 268) (v := 1) hC dL_ofEntries_267 rfl (by decide) ?_
                    refine v_iadd (q := 269) hC dL_ofEntries_268 rfl ?_
                    rw [nI_1]
                    refine v_iastN (q := 270) hC dL_ofEntries_269 rfl rfl (fun _ => rfl) (i := 40 + ob) (nI_add 40 ob) (by first | decide | omega | (unfold oA; omega) | (unfold enA; omega)) (by decide) ?_
                    exact F _ _ 1 _ ((hS.pa (by decide)).pa (by decide)) rfl rfl hq hA
                  · refine v_iconst (q := 253) (v := 1) hC dL_ofEntries_252 rfl (by decide) ?_
                    refine v_goto (q := 257) hC dL_ofEntries_253 (by decide) ?_
                    refine v_iadd (q := 258) hC dL_ofEntries_257 rfl ?_
                    first
                      | rw [cod_eq kd who r (cod_y1 c_238) (cod_b1 c_249)]
                      | rw [cod_eq kd who r (cod_y1 c_238) (cod_b0 c_249)]
                      | rw [cod_eq kd who r (cod_y0 c_238) (cod_b1 c_249)]
                      | rw [cod_eq kd who r (cod_y0 c_238) (cod_b0 c_249)]
                    refine v_iastN (q := 259) hC dL_ofEntries_258 rfl rfl (fun _ => rfl) (i := 6 * ob + mCt (G.2.1 0 30) ob) (ix _) (by first | decide | omega | (unfold oA; omega) | (unfold enA; omega)) (by decide) ?_
                    refine v_aload_n (i := 2) (q := 260) hC dL_ofEntries_259 rfl rfl rfl ?_
                    refine v_bipush (q := 262) (v := 40) hC dL_ofEntries_260 rfl (by decide) ?_
                    refine v_iload (q := 264) hC dL_ofEntries_262 rfl rfl ?_
                    refine v_iadd (q := 265) hC dL_ofEntries_264 rfl ?_
                    refine v_dup2 (q := 266) hC dL_ofEntries_265 rfl rfl rfl ?_
                    refine v_ialdV (q := 267) hC dL_ofEntries_266 rfl rfl rfl (i := 40 + ob) (nI_add 40 ob) (by first | decide | omega) (by decide) ((congrFun (putA_o _ _ (by decide)) _).trans hpc) ?_
                    refine v_iconst (q := 268) (v := 1) hC dL_ofEntries_267 rfl (by decide) ?_
                    refine v_iadd (q := 269) hC dL_ofEntries_268 rfl ?_
                    rw [nI_1]
                    refine v_iastN (q := 270) hC dL_ofEntries_269 rfl rfl (fun _ => rfl) (i := 40 + ob) (nI_add 40 ob) (by first | decide | omega | (unfold oA; omega) | (unfold enA; omega)) (by decide) ?_
                    exact F _ _ 1 _ ((hS.pa (by decide)).pa (by decide)) rfl rfl hq hA
                · refine v_iconst (q := 242) (v := 2) hC dL_ofEntries_241 rfl (by decide) ?_
                  refine v_goto (q := 246) hC dL_ofEntries_242 (by decide) ?_
                  refine v_iadd (q := 247) hC dL_ofEntries_246 rfl ?_
                  refine v_iload (q := 249) hC dL_ofEntries_247 rfl rfl ?_
                  refine v_if_eq (q := 256) (q2 := 252) hC dL_ofEntries_249 (by decide) rfl (fun c_249 => ?_) (fun c_249 => ?_)
                  · refine v_iconst (q := 257) (v := 0) hC dL_ofEntries_256 rfl (by decide) ?_
                    refine v_iadd (q := 258) hC dL_ofEntries_257 rfl ?_
                    first
                      | rw [cod_eq kd who r (cod_y1 c_238) (cod_b1 c_249)]
                      | rw [cod_eq kd who r (cod_y1 c_238) (cod_b0 c_249)]
                      | rw [cod_eq kd who r (cod_y0 c_238) (cod_b1 c_249)]
                      | rw [cod_eq kd who r (cod_y0 c_238) (cod_b0 c_249)]
                    refine v_iastN (q := 259) hC dL_ofEntries_258 rfl rfl (fun _ => rfl) (i := 6 * ob + mCt (G.2.1 0 30) ob) (ix _) (by first | decide | omega | (unfold oA; omega) | (unfold enA; omega)) (by decide) ?_
                    refine v_aload_n (i := 2) (q := 260) hC dL_ofEntries_259 rfl rfl rfl ?_
                    refine v_bipush (q := 262) (v := 40) hC dL_ofEntries_260 rfl (by decide) ?_
                    refine v_iload (q := 264) hC dL_ofEntries_262 rfl rfl ?_
                    refine v_iadd (q := 265) hC dL_ofEntries_264 rfl ?_
                    refine v_dup2 (q := 266) hC dL_ofEntries_265 rfl rfl rfl ?_
                    refine v_ialdV (q := 267) hC dL_ofEntries_266 rfl rfl rfl (i := 40 + ob) (nI_add 40 ob) (by first | decide | omega) (by decide) ((congrFun (putA_o _ _ (by decide)) _).trans hpc) ?_
                    refine v_iconst (q := 268) (v := 1) hC dL_ofEntries_267 rfl (by decide) ?_
                    refine v_iadd (q := 269) hC dL_ofEntries_268 rfl ?_
                    rw [nI_1]
                    refine v_iastN (q := 270) hC dL_ofEntries_269 rfl rfl (fun _ => rfl) (i := 40 + ob) (nI_add 40 ob) (by first | decide | omega | (unfold oA; omega) | (unfold enA; omega)) (by decide) ?_
                    exact F _ _ 1 _ ((hS.pa (by decide)).pa (by decide)) rfl rfl hq hA
                  · refine v_iconst (q := 253) (v := 1) hC dL_ofEntries_252 rfl (by decide) ?_
                    refine v_goto (q := 257) hC dL_ofEntries_253 (by decide) ?_
                    refine v_iadd (q := 258) hC dL_ofEntries_257 rfl ?_
                    first
                      | rw [cod_eq kd who r (cod_y1 c_238) (cod_b1 c_249)]
                      | rw [cod_eq kd who r (cod_y1 c_238) (cod_b0 c_249)]
                      | rw [cod_eq kd who r (cod_y0 c_238) (cod_b1 c_249)]
                      | rw [cod_eq kd who r (cod_y0 c_238) (cod_b0 c_249)]
                    refine v_iastN (q := 259) hC dL_ofEntries_258 rfl rfl (fun _ => rfl) (i := 6 * ob + mCt (G.2.1 0 30) ob) (ix _) (by first | decide | omega | (unfold oA; omega) | (unfold enA; omega)) (by decide) ?_
                    refine v_aload_n (i := 2) (q := 260) hC dL_ofEntries_259 rfl rfl rfl ?_
                    refine v_bipush (q := 262) (v := 40) hC dL_ofEntries_260 rfl (by decide) ?_
                    refine v_iload (q := 264) hC dL_ofEntries_262 rfl rfl ?_
                    refine v_iadd (q := 265) hC dL_ofEntries_264 rfl ?_
                    refine v_dup2 (q := 266) hC dL_ofEntries_265 rfl rfl rfl ?_
                    refine v_ialdV (q := 267) hC dL_ofEntries_266 rfl rfl rfl (i := 40 + ob) (nI_add 40 ob) (by first | decide | omega) (by decide) ((congrFun (putA_o _ _ (by decide)) _).trans hpc) ?_
                    refine v_iconst (q := 268) (v := 1) hC dL_ofEntries_267 rfl (by decide) ?_
                    refine v_iadd (q := 269) hC dL_ofEntries_268 rfl ?_
                    rw [nI_1]
                    refine v_iastN (q := 270) hC dL_ofEntries_269 rfl rfl (fun _ => rfl) (i := 40 + ob) (nI_add 40 ob) (by first | decide | omega | (unfold oA; omega) | (unfold enA; omega)) (by decide) ?_
                    exact F _ _ 1 _ ((hS.pa (by decide)).pa (by decide)) rfl rfl hq hA
            · exact absurd c_192 hn6'
          · exact absurd c_180 (by decide)
      have T0a : b2i (decide (G.2.1 0 30 (oA ob 0) = 1)) = 0 → mThr (G.2.1 0 30) (nI ob) (nI kd) (nI who) = false := fun z => by
        rw [hT, b2i_0 z, Bool.false_and]
      have T0b : nI kd = 0 → nI (mUs (G.2.1 0 30)) ≤ nI who → mThr (G.2.1 0 30) (nI ob) (nI kd) (nI who) = false := fun z1 z2 => by
        rw [hT, decide_eq_true z1, decide_eq_false (show ¬ who < mUs (G.2.1 0 30) from fun z => absurd z2 (Int32.not_le.mpr (nI_lt z (by omega)))), Bool.not_true, Bool.false_or, Bool.false_and, Bool.and_false]
      have hG := hD.ok.gs8
      have T0c : nI kd = 1 → nI (mGs (G.2.1 0 30)) ≤ nI who → mThr (G.2.1 0 30) (nI ob) (nI kd) (nI who) = false := fun z1 z2 => by
        rw [hT, decide_eq_true z1, decide_eq_false (show ¬ who < mGs (G.2.1 0 30) from fun z => absurd z2 (Int32.not_le.mpr (nI_lt z (by omega)))), Bool.not_true, Bool.false_or, Bool.and_false, Bool.and_false]
      have T1 : ¬ b2i (decide (G.2.1 0 30 (oA ob 0) = 1)) = 0 → (¬ nI kd = 0 ∨ ¬ nI (mUs (G.2.1 0 30)) ≤ nI who) → (¬ nI kd = 1 ∨ ¬ nI (mGs (G.2.1 0 30)) ≤ nI who) → mThr (G.2.1 0 30) (nI ob) (nI kd) (nI who) = true := fun z1 z2 z3 => by
        rw [hT, b2i_1 z1, Bool.true_and, Bool.and_eq_true, Bool.or_eq_true, Bool.or_eq_true, decide_eq_true_eq, decide_eq_true_eq]
        refine ⟨?_, ?_⟩
        · rcases z2 with z2 | z2
          · exact Or.inl (by rw [decide_eq_false z2]; rfl)
          · exact Or.inr ((nI_ltI (by omega) (by omega)).mp (Int32.not_le.mp z2))
        · rcases z3 with z3 | z3
          · exact Or.inl (by rw [decide_eq_false z3]; rfl)
          · exact Or.inr ((nI_ltI (by omega) (by omega)).mp (Int32.not_le.mp z3))
      refine v_iload (q := 132) hC dL_ofEntries_130 rfl rfl ?_
      refine v_bipush (q := 134) (v := 6) hC dL_ofEntries_132 rfl (by decide) ?_
      refine v_icmp_ge (q := 359) (q2 := 137) hC dL_ofEntries_134 (by decide) rfl (fun c_134 => ?_) (fun c_134 => ?_)
      · exact absurd n6 (Int32.not_lt.mpr c_134)
      · refine v_iload (q := 139) hC dL_ofEntries_137 rfl rfl ?_
        refine v_if_eq (q := 175) (q2 := 142) hC dL_ofEntries_139 (by decide) rfl (fun c_139 => ?_) (fun c_139 => ?_)
        · refine v_iconst (q := 176) (v := 0) hC dL_ofEntries_175 rfl (by decide) ?_
          refine v_istore (q := 178) hC dL_ofEntries_176 rfl (lvc rfl) (Nat.le_of_ble_eq_true rfl) (Nat.le_of_ble_eq_true rfl) rfl ?_
          first
            | exact C0 (T0a c_139)
            | exact C0 (T0b c_144 c_153)
            | exact C0 (T0c c_159 c_168)
            | exact C1 (T1 c_139 (Or.inl c_144) (Or.inl c_159))
            | exact C1 (T1 c_139 (Or.inl c_144) (Or.inr c_168))
            | exact C1 (T1 c_139 (Or.inr c_153) (Or.inl c_159))
            | exact C1 (T1 c_139 (Or.inr c_153) (Or.inr c_168))
        · refine v_iload (q := 144) hC dL_ofEntries_142 rfl rfl ?_
          refine v_if_ne (q := 156) (q2 := 147) hC dL_ofEntries_144 (by decide) rfl (fun c_144 => ?_) (fun c_144 => ?_)
          · refine v_iload (q := 158) hC dL_ofEntries_156 rfl rfl ?_
            refine v_iconst (q := 159) (v := 1) hC dL_ofEntries_158 rfl (by decide) ?_
            refine v_icmp_ne (q := 171) (q2 := 162) hC dL_ofEntries_159 (by decide) rfl (fun c_159 => ?_) (fun c_159 => ?_)
            · refine v_iconst (q := 172) (v := 1) hC dL_ofEntries_171 rfl (by decide) ?_
              refine v_goto (q := 176) hC dL_ofEntries_172 (by decide) ?_
              refine v_istore (q := 178) hC dL_ofEntries_176 rfl (lvc rfl) (Nat.le_of_ble_eq_true rfl) (Nat.le_of_ble_eq_true rfl) rfl ?_
              first
                | exact C0 (T0a c_139)
                | exact C0 (T0b c_144 c_153)
                | exact C0 (T0c c_159 c_168)
                | exact C1 (T1 c_139 (Or.inl c_144) (Or.inl c_159))
                | exact C1 (T1 c_139 (Or.inl c_144) (Or.inr c_168))
                | exact C1 (T1 c_139 (Or.inr c_153) (Or.inl c_159))
                | exact C1 (T1 c_139 (Or.inr c_153) (Or.inr c_168))
            · refine v_iload (q := 164) hC dL_ofEntries_162 rfl rfl ?_
              refine v_aload (q := 166) hC dL_ofEntries_164 rfl rfl ?_
              refine v_iconst (q := 167) (v := 1) hC dL_ofEntries_166 rfl (by decide) ?_
              refine v_ialdV (q := 168) hC dL_ofEntries_167 rfl rfl rfl (i := 1) (rfl) (by first | decide | omega) (by decide) (e1) ?_
              refine v_icmp_ge (q := 175) (q2 := 171) hC dL_ofEntries_168 (by decide) rfl (fun c_168 => ?_) (fun c_168 => ?_)
              · refine v_iconst (q := 176) (v := 0) hC dL_ofEntries_175 rfl (by decide) ?_
                refine v_istore (q := 178) hC dL_ofEntries_176 rfl (lvc rfl) (Nat.le_of_ble_eq_true rfl) (Nat.le_of_ble_eq_true rfl) rfl ?_
                first
                  | exact C0 (T0a c_139)
                  | exact C0 (T0b c_144 c_153)
                  | exact C0 (T0c c_159 c_168)
                  | exact C1 (T1 c_139 (Or.inl c_144) (Or.inl c_159))
                  | exact C1 (T1 c_139 (Or.inl c_144) (Or.inr c_168))
                  | exact C1 (T1 c_139 (Or.inr c_153) (Or.inl c_159))
                  | exact C1 (T1 c_139 (Or.inr c_153) (Or.inr c_168))
              · refine v_iconst (q := 172) (v := 1) hC dL_ofEntries_171 rfl (by decide) ?_
                refine v_goto (q := 176) hC dL_ofEntries_172 (by decide) ?_
                refine v_istore (q := 178) hC dL_ofEntries_176 rfl (lvc rfl) (Nat.le_of_ble_eq_true rfl) (Nat.le_of_ble_eq_true rfl) rfl ?_
                first
                  | exact C0 (T0a c_139)
                  | exact C0 (T0b c_144 c_153)
                  | exact C0 (T0c c_159 c_168)
                  | exact C1 (T1 c_139 (Or.inl c_144) (Or.inl c_159))
                  | exact C1 (T1 c_139 (Or.inl c_144) (Or.inr c_168))
                  | exact C1 (T1 c_139 (Or.inr c_153) (Or.inl c_159))
                  | exact C1 (T1 c_139 (Or.inr c_153) (Or.inr c_168))
          · refine v_iload (q := 149) hC dL_ofEntries_147 rfl rfl ?_
            refine v_aload (q := 151) hC dL_ofEntries_149 rfl rfl ?_
            refine v_iconst (q := 152) (v := 0) hC dL_ofEntries_151 rfl (by decide) ?_
            refine v_ialdV (q := 153) hC dL_ofEntries_152 rfl rfl rfl (i := 0) (rfl) (by first | decide | omega) (by decide) (e0) ?_
            refine v_icmp_ge (q := 175) (q2 := 156) hC dL_ofEntries_153 (by decide) rfl (fun c_153 => ?_) (fun c_153 => ?_)
            · refine v_iconst (q := 176) (v := 0) hC dL_ofEntries_175 rfl (by decide) ?_
              refine v_istore (q := 178) hC dL_ofEntries_176 rfl (lvc rfl) (Nat.le_of_ble_eq_true rfl) (Nat.le_of_ble_eq_true rfl) rfl ?_
              first
                | exact C0 (T0a c_139)
                | exact C0 (T0b c_144 c_153)
                | exact C0 (T0c c_159 c_168)
                | exact C1 (T1 c_139 (Or.inl c_144) (Or.inl c_159))
                | exact C1 (T1 c_139 (Or.inl c_144) (Or.inr c_168))
                | exact C1 (T1 c_139 (Or.inr c_153) (Or.inl c_159))
                | exact C1 (T1 c_139 (Or.inr c_153) (Or.inr c_168))
            · refine v_iload (q := 158) hC dL_ofEntries_156 rfl rfl ?_
              refine v_iconst (q := 159) (v := 1) hC dL_ofEntries_158 rfl (by decide) ?_
              refine v_icmp_ne (q := 171) (q2 := 162) hC dL_ofEntries_159 (by decide) rfl (fun c_159 => ?_) (fun c_159 => ?_)
              · refine v_iconst (q := 172) (v := 1) hC dL_ofEntries_171 rfl (by decide) ?_
                refine v_goto (q := 176) hC dL_ofEntries_172 (by decide) ?_
                refine v_istore (q := 178) hC dL_ofEntries_176 rfl (lvc rfl) (Nat.le_of_ble_eq_true rfl) (Nat.le_of_ble_eq_true rfl) rfl ?_
                first
                  | exact C0 (T0a c_139)
                  | exact C0 (T0b c_144 c_153)
                  | exact C0 (T0c c_159 c_168)
                  | exact C1 (T1 c_139 (Or.inl c_144) (Or.inl c_159))
                  | exact C1 (T1 c_139 (Or.inl c_144) (Or.inr c_168))
                  | exact C1 (T1 c_139 (Or.inr c_153) (Or.inl c_159))
                  | exact C1 (T1 c_139 (Or.inr c_153) (Or.inr c_168))
              · refine v_iload (q := 164) hC dL_ofEntries_162 rfl rfl ?_
                refine v_aload (q := 166) hC dL_ofEntries_164 rfl rfl ?_
                refine v_iconst (q := 167) (v := 1) hC dL_ofEntries_166 rfl (by decide) ?_
                refine v_ialdV (q := 168) hC dL_ofEntries_167 rfl rfl rfl (i := 1) (rfl) (by first | decide | omega) (by decide) (e1) ?_
                refine v_icmp_ge (q := 175) (q2 := 171) hC dL_ofEntries_168 (by decide) rfl (fun c_168 => ?_) (fun c_168 => ?_)
                · refine v_iconst (q := 176) (v := 0) hC dL_ofEntries_175 rfl (by decide) ?_
                  refine v_istore (q := 178) hC dL_ofEntries_176 rfl (lvc rfl) (Nat.le_of_ble_eq_true rfl) (Nat.le_of_ble_eq_true rfl) rfl ?_
                  first
                    | exact C0 (T0a c_139)
                    | exact C0 (T0b c_144 c_153)
                    | exact C0 (T0c c_159 c_168)
                    | exact C1 (T1 c_139 (Or.inl c_144) (Or.inl c_159))
                    | exact C1 (T1 c_139 (Or.inl c_144) (Or.inr c_168))
                    | exact C1 (T1 c_139 (Or.inr c_153) (Or.inl c_159))
                    | exact C1 (T1 c_139 (Or.inr c_153) (Or.inr c_168))
                · refine v_iconst (q := 172) (v := 1) hC dL_ofEntries_171 rfl (by decide) ?_
                  refine v_goto (q := 176) hC dL_ofEntries_172 (by decide) ?_
                  refine v_istore (q := 178) hC dL_ofEntries_176 rfl (lvc rfl) (Nat.le_of_ble_eq_true rfl) (Nat.le_of_ble_eq_true rfl) rfl ?_
                  first
                    | exact C0 (T0a c_139)
                    | exact C0 (T0b c_144 c_153)
                    | exact C0 (T0c c_159 c_168)
                    | exact C1 (T1 c_139 (Or.inl c_144) (Or.inl c_159))
                    | exact C1 (T1 c_139 (Or.inl c_144) (Or.inr c_168))
                    | exact C1 (T1 c_139 (Or.inr c_153) (Or.inl c_159))
                    | exact C1 (T1 c_139 (Or.inr c_153) (Or.inr c_168))
    have n6 : ¬ nI way < 6 := nI_nlt (b := 6) (by omega) (by omega)
    have q10 : nI y / 10 = nI (y / 10) := pk_div (d := 10) hy (by decide) (by decide)
    have q60 : nI y / 60 = nI (y / 60) := pk_div (d := 60) hy (by decide) (by decide)
    have d6 : nI y / 10 - nI y / 10 / 6 * 6 = nI (y / 10 % 6) := by
      rw [q10]; exact pk_rem (d := 6) (by omega) (by decide) (by decide)
    have d7 : nI y / 60 - nI y / 60 / 6 * 6 = nI (y / 60 % 6) := by
      rw [q60]; exact pk_rem (d := 6) (by omega) (by decide) (by decide)
    have P : ∀ (en pl : Nat), en < 6 → pl < 6 → V p l e rm_L_ofEntries s m args below meth c 21 Θ (fQ t) 30 190 0 0 379 [some (.ref (tR Θ 0 14)), some (.ref (tR Θ 0 40)), some (.ref (tR Θ 0 41)), some (.ref (tR Θ 0 42)), some (.ref (tR Θ 0 44)), some (.int (nI way)), some (.int (nI y)), some (.int (nI ob)), some (.int (b2i (decide (G.2.1 0 30 (oA ob 0) = 1)))), some (.int (nI (mCt (G.2.1 0 30) ob))), some (.int (nI kd)), some (.int (nI who)), some (.int (nI r)), some (.int (b2i yes)), some (.int (b2i blw)), some (.int (nI en)), some (.int (nI pl)), none, none, none, none] [] (G) := by
      intro en pl hen6 hpl6
      have een : (nI en).toNatClampNeg = en := nI_clamp (by omega)
      have epl : (nI pl).toNatClampNeg = pl := nI_clamp (by omega)
      by_cases h66 : way = 6
      · subst h66
        by_cases hen : en < mCt (G.2.1 0 30) ob
        · have h1 := hD.th (show ob < 20 by omega) hen
          have hpc := hD.pc hob h1
          rw [hct] at hpc
          have cg : mEnt (G.2.1 0 30) (nI ob) (nI en) = true := by rw [hD.ent (by omega) (by omega), decide_eq_true h1, decide_eq_true hen]; rfl
          have hpred : nI (mCt (G.2.1 0 30) ob) - 1 = nI (mCt (G.2.1 0 30) ob - 1) := nI_m1 (by omega)
          have hq := hLq.cut hc hob h1 rfl hen
          have r42 : ∀ a, (putA G 0 42 a).2.1 0 42 = a := fun a => putA_same _ _ _ _
          have L : ∀ (d k : Nat), d + k = mCt (G.2.1 0 30) ob - 1 → en ≤ k → V p l e rm_L_ofEntries s m args below meth c 21 Θ (fQ t) 30 190 0 0 416 [some (.ref (tR Θ 0 14)), some (.ref (tR Θ 0 40)), some (.ref (tR Θ 0 41)), some (.ref (tR Θ 0 42)), some (.ref (tR Θ 0 44)), some (.int (nI 6)), some (.int (nI y)), some (.int (nI ob)), some (.int (b2i (decide (G.2.1 0 30 (oA ob 0) = 1)))), some (.int (nI (mCt (G.2.1 0 30) ob))), some (.int (nI kd)), some (.int (nI who)), some (.int (nI r)), some (.int (b2i yes)), some (.int (b2i blw)), some (.int (nI en)), some (.int (nI pl)), some (.int (nI k)), none, none, none] [] (putA G 0 42 (tkE (G.2.1 0 42) (6 * ob + en) (6 * ob + k))) := by
            intro d
            induction d with
            | zero =>
              intro k hk hk2
              have e9 : k = mCt (G.2.1 0 30) ob - 1 := by omega
              subst e9
              refine v_iload (q := 418) hC dL_ofEntries_416 rfl rfl ?_
              refine v_iload (q := 420) hC dL_ofEntries_418 rfl rfl ?_
              refine v_iconst (q := 421) (v := 1) hC dL_ofEntries_420 rfl (by decide) ?_
              refine v_isub (q := 422) hC dL_ofEntries_421 rfl ?_
              rw [hpred]
              refine v_icmp_ge (q := 453) (q2 := 425) hC dL_ofEntries_422 (by decide) rfl (fun c_422 => ?_) (fun c_422 => ?_)
              · refine v_aload_n (i := 2) (q := 454) hC dL_ofEntries_453 rfl rfl rfl ?_
                refine v_bipush (q := 456) (v := 40) hC dL_ofEntries_454 rfl (by decide) ?_
                refine v_iload (q := 458) hC dL_ofEntries_456 rfl rfl ?_
                refine v_iadd (q := 459) hC dL_ofEntries_458 rfl ?_
                refine v_dup2 (q := 460) hC dL_ofEntries_459 rfl rfl rfl ?_
                refine v_ialdV (q := 461) hC dL_ofEntries_460 rfl rfl rfl (i := 40 + ob) (nI_add 40 ob) (by first | decide | omega) (by decide) ((congrFun (putA_o _ _ (by decide)) _).trans hpc) ?_
                refine v_iconst (q := 462) (v := 1) hC dL_ofEntries_461 rfl (by decide) ?_
                refine v_isub (q := 463) hC dL_ofEntries_462 rfl ?_
                rw [hpred]
                refine v_iastN (q := 464) hC dL_ofEntries_463 rfl rfl (fun _ => rfl) (i := 40 + ob) (nI_add 40 ob) (by first | decide | omega | (unfold oA; omega) | (unfold enA; omega)) (by decide) ?_
                refine v_aload_n (i := 0) (q := 465) hC dL_ofEntries_464 rfl rfl rfl ?_
                refine v_iload (q := 467) hC dL_ofEntries_465 rfl rfl ?_
                refine v_iload (q := 469) hC dL_ofEntries_467 rfl rfl ?_
                refine v_callR (q := 472) (rm := rm_L_removeEntryOf) hC ((r_removeEntry hl Θ (Nx.refl ((hS.pa (by decide)).pa (by decide))) ht (nI ob) (nI en)).p (v2 := nI (mCt (G.2.1 0 30) ob - 1)) (w2 := mTo (G.2.1 0 30) ob en (mCt (G.2.1 0 30) ob)) (by rw [eob]; exact if_pos cg) (by rw [eob, een]; exact if_pos cg)) kh_L_removeEntryOf ml_RL_383 dL_ofEntries_469 rfl rfl rfl (Nat.le_of_ble_eq_true rfl) ⟨Nat.le_of_ble_eq_true rfl, Nat.le_of_ble_eq_true rfl⟩ (c1 := 2) (s1 := 12) rfl rfl ⟨show _ + 2 ≤ 30 by omega, show _ + 12 ≤ 190 by omega⟩ (pQ_k (fun G_469 s_469 w_469 a_469 l_469 => ?_)) pQ_n
                try dsimp only [Option.toList, List.cons_append, List.nil_append]
                refine v_iload (q := 474) hC dL_ofEntries_472 rfl rfl ?_
                refine v_iconst (q := 475) (v := 1) hC dL_ofEntries_474 rfl (by decide) ?_
                refine v_isub (q := 476) hC dL_ofEntries_475 rfl ?_
                rw [hpred]
                refine v_icmp_ne (q := 483) (q2 := 479) hC dL_ofEntries_476 (by decide) rfl (fun c_476 => ?_) (fun c_476 => ?_)
                · exact absurd rfl c_476
                · refine v_iconst (q := 480) (v := 1) hC dL_ofEntries_479 rfl (by decide) ?_
                  refine v_goto (q := 484) hC dL_ofEntries_480 (by decide) ?_
                  refine v_iret hC dL_ofEntries_484 hr (rfl) ?_ (show _ ≤ 30 by omega) (show _ ≤ 190 by omega)
                  exact fQ_mk s_469 w_469 a_469 l_469 hlv hq
              · exact absurd (Int32.le_refl _) c_422
            | succ d ih =>
              intro k hk hk2
              refine v_iload (q := 418) hC dL_ofEntries_416 rfl rfl ?_
              refine v_iload (q := 420) hC dL_ofEntries_418 rfl rfl ?_
              refine v_iconst (q := 421) (v := 1) hC dL_ofEntries_420 rfl (by decide) ?_
              refine v_isub (q := 422) hC dL_ofEntries_421 rfl ?_
              rw [hpred]
              refine v_icmp_ge (q := 453) (q2 := 425) hC dL_ofEntries_422 (by decide) rfl (fun c_422 => ?_) (fun c_422 => ?_)
              · exact absurd c_422 (Int32.not_le.mpr (nI_lt (by omega) (by omega)))
              · refine v_aload_n (i := 3) (q := 426) hC dL_ofEntries_425 rfl rfl rfl ?_
                refine v_bipush (q := 428) (v := 6) hC dL_ofEntries_426 rfl (by decide) ?_
                refine v_iload (q := 430) hC dL_ofEntries_428 rfl rfl ?_
                refine v_imul (q := 431) hC dL_ofEntries_430 rfl ?_
                refine v_iload (q := 433) hC dL_ofEntries_431 rfl rfl ?_
                refine v_iadd (q := 434) hC dL_ofEntries_433 rfl ?_
                refine v_aload_n (i := 3) (q := 435) hC dL_ofEntries_434 rfl rfl rfl ?_
                refine v_bipush (q := 437) (v := 6) hC dL_ofEntries_435 rfl (by decide) ?_
                refine v_iload (q := 439) hC dL_ofEntries_437 rfl rfl ?_
                refine v_imul (q := 440) hC dL_ofEntries_439 rfl ?_
                refine v_iload (q := 442) hC dL_ofEntries_440 rfl rfl ?_
                refine v_iadd (q := 443) hC dL_ofEntries_442 rfl ?_
                refine v_iconst (q := 444) (v := 1) hC dL_ofEntries_443 rfl (by decide) ?_
                refine v_iadd (q := 445) hC dL_ofEntries_444 rfl ?_
                refine v_ialdN (q := 446) hC dL_ofEntries_445 rfl rfl rfl (i := 6 * ob + k + 1) ((by rw [ix, nI_1])) (by first | decide | omega | (unfold oA; omega) | (unfold enA; omega)) (by decide) ?_
                refine v_iastN (q := 447) hC dL_ofEntries_446 rfl rfl (fun _ => rfl) (i := 6 * ob + k) (ix k) (by first | decide | omega | (unfold oA; omega) | (unfold enA; omega)) (by decide) ?_
                rw [putA_putA, r42, tkE_step _ (by omega)]
                refine v_iinc (q := 450) (v := nI (k + 1)) hC dL_ofEntries_447 rfl rfl (nI_1 k) (lvc rfl) (Nat.le_of_ble_eq_true rfl) (Nat.le_of_ble_eq_true rfl) rfl ?_
                refine v_goto (q := 416) hC dL_ofEntries_450 (by decide) ?_
                exact ih (k + 1) (by omega) (by omega)
          have h9 := L (mCt (G.2.1 0 30) ob - 1 - en) en (by omega) (by omega)
          rw [tkE_0, putA_self] at h9
          refine v_iload (q := 381) hC dL_ofEntries_379 rfl rfl ?_
          refine v_bipush (q := 383) (v := 6) hC dL_ofEntries_381 rfl (by decide) ?_
          refine v_icmp_ne (q := 485) (q2 := 386) hC dL_ofEntries_383 (by decide) rfl (fun c_383 => ?_) (fun c_383 => ?_)
          · exact absurd rfl c_383
          · refine v_iload (q := 388) hC dL_ofEntries_386 rfl rfl ?_
            refine v_iload (q := 390) hC dL_ofEntries_388 rfl rfl ?_
            refine v_icmp_lt (q := 412) (q2 := 393) hC dL_ofEntries_390 (by decide) rfl (fun c_390 => ?_) (fun c_390 => ?_)
            · refine v_iload (q := 414) hC dL_ofEntries_412 rfl rfl ?_
              refine v_istore (q := 416) hC dL_ofEntries_414 rfl (lvc rfl) (Nat.le_of_ble_eq_true rfl) (Nat.le_of_ble_eq_true rfl) rfl ?_
              exact h9
            · exact absurd (nI_lt hen (by omega)) c_390
        · have cg : ¬ mEnt (G.2.1 0 30) (nI ob) (nI en) = true := by rw [hD.ent (by omega) (by omega), decide_eq_false hen, Bool.and_false]; decide
          refine v_iload (q := 381) hC dL_ofEntries_379 rfl rfl ?_
          refine v_bipush (q := 383) (v := 6) hC dL_ofEntries_381 rfl (by decide) ?_
          refine v_icmp_ne (q := 485) (q2 := 386) hC dL_ofEntries_383 (by decide) rfl (fun c_383 => ?_) (fun c_383 => ?_)
          · exact absurd rfl c_383
          · refine v_iload (q := 388) hC dL_ofEntries_386 rfl rfl ?_
            refine v_iload (q := 390) hC dL_ofEntries_388 rfl rfl ?_
            refine v_icmp_lt (q := 412) (q2 := 393) hC dL_ofEntries_390 (by decide) rfl (fun c_390 => ?_) (fun c_390 => ?_)
            · exact absurd c_390 (nI_nlt (by omega) (by omega))
            · refine v_aload_n (i := 0) (q := 394) hC dL_ofEntries_393 rfl rfl rfl ?_
              refine v_iload (q := 396) hC dL_ofEntries_394 rfl rfl ?_
              refine v_iload (q := 398) hC dL_ofEntries_396 rfl rfl ?_
              refine v_callR (q := 401) (rm := rm_L_removeEntryOf) hC ((r_removeEntry hl Θ z0 ht (nI ob) (nI en)).p (v2 := -101) (w2 := G.2.1 0 30) (if_neg cg) (if_neg cg)) kh_L_removeEntryOf ml_RL_383 dL_ofEntries_398 rfl rfl rfl (Nat.le_of_ble_eq_true rfl) ⟨Nat.le_of_ble_eq_true rfl, Nat.le_of_ble_eq_true rfl⟩ (c1 := 2) (s1 := 12) rfl rfl ⟨show _ + 2 ≤ 30 by omega, show _ + 12 ≤ 190 by omega⟩ (pQ_k (fun G_398 s_398 w_398 a_398 l_398 => ?_)) pQ_n
              try dsimp only [Option.toList, List.cons_append, List.nil_append]
              refine v_bipush (q := 403) (v := (-101)) hC dL_ofEntries_401 rfl (by decide) ?_
              refine v_icmp_ne (q := 410) (q2 := 406) hC dL_ofEntries_403 (by decide) rfl (fun c_403 => ?_) (fun c_403 => ?_)
              · exact absurd rfl c_403
              · refine v_iconst (q := 407) (v := 1) hC dL_ofEntries_406 rfl (by decide) ?_
                refine v_goto (q := 411) hC dL_ofEntries_407 (by decide) ?_
                refine v_iret hC dL_ofEntries_411 hr (rfl) ?_ (show _ ≤ 30 by omega) (show _ ≤ 190 by omega)
                exact fQ_mk s_398 w_398 a_398 l_398 hlv hLq
      · have h7 : way = 7 := by omega
        subst h7
        by_cases hboth : en < mCt (G.2.1 0 30) ob ∧ pl < mCt (G.2.1 0 30) ob
        · refine v_iload (q := 381) hC dL_ofEntries_379 rfl rfl ?_
          refine v_bipush (q := 383) (v := 6) hC dL_ofEntries_381 rfl (by decide) ?_
          refine v_icmp_ne (q := 485) (q2 := 386) hC dL_ofEntries_383 (by decide) rfl (fun c_383 => ?_) (fun c_383 => ?_)
          · refine v_iload (q := 487) hC dL_ofEntries_485 rfl rfl ?_
            refine v_iload (q := 489) hC dL_ofEntries_487 rfl rfl ?_
            refine v_icmp_ge (q := 499) (q2 := 492) hC dL_ofEntries_489 (by decide) rfl (fun c_489 => ?_) (fun c_489 => ?_)
            · exact absurd c_489 (nI_ge hboth.1 (by omega))
            · refine v_iload (q := 494) hC dL_ofEntries_492 rfl rfl ?_
              refine v_iload (q := 496) hC dL_ofEntries_494 rfl rfl ?_
              refine v_icmp_lt (q := 520) (q2 := 499) hC dL_ofEntries_496 (by decide) rfl (fun c_496 => ?_) (fun c_496 => ?_)
              · refine MV ob en pl hob hboth.1 hboth.2 _ _ _ _ _ _ _ _ _ _ ?_
                intro a9 b9 G2 LS g1 g2 g3 g4 g5
                refine v_drop (j := 3) (by decide) (fun i q1 q2 => ?_) g4 ?_
                · rw [show i = 4 by omega]; exact g5
                refine v_drop (j := 2) (by decide) (fun i q1 q2 => ?_) ((dpG_ln _ (by decide)).trans g3) ?_
                · by_cases q9 : i = 3
                  · subst q9; exact dpG_l _ 3
                  · rw [dpG_ln _ q9, show i = 4 by omega]; exact g5
                · refine v_iret hC dL_ofEntries_679 hr (by rfl) ⟨rfl, (g1.dp (by decide)).dp (by decide), g2.cg (fun o _ => rfl), fun i q1 q2 => ?_⟩ (Nat.le_of_ble_eq_true rfl) (Nat.le_of_ble_eq_true rfl)
                  by_cases q8 : i = 2
                  · subst q8; exact dpG_l _ 2
                  · rw [dpG_ln _ q8]
                    by_cases q9 : i = 3
                    · subst q9; exact dpG_l _ 3
                    · rw [dpG_ln _ q9, show i = 4 by omega]; exact g5
              · exact absurd (nI_lt hboth.2 (by omega)) c_496
          · exact absurd c_383 (by decide)
        · have cg : ¬ (mEnt (G.2.1 0 30) (nI ob) (nI en) && mEnt (G.2.1 0 30) (nI ob) (nI pl)) = true := by
            rw [hD.ent (by omega) (by omega), hD.ent (by omega) (by omega)]
            intro z
            obtain ⟨z1, z2⟩ := Bool.and_eq_true_iff.mp z
            exact hboth ⟨of_decide_eq_true (Bool.and_eq_true_iff.mp z1).2, of_decide_eq_true (Bool.and_eq_true_iff.mp z2).2⟩
          refine v_iload (q := 381) hC dL_ofEntries_379 rfl rfl ?_
          refine v_bipush (q := 383) (v := 6) hC dL_ofEntries_381 rfl (by decide) ?_
          refine v_icmp_ne (q := 485) (q2 := 386) hC dL_ofEntries_383 (by decide) rfl (fun c_383 => ?_) (fun c_383 => ?_)
          · refine v_iload (q := 487) hC dL_ofEntries_485 rfl rfl ?_
            refine v_iload (q := 489) hC dL_ofEntries_487 rfl rfl ?_
            refine v_icmp_ge (q := 499) (q2 := 492) hC dL_ofEntries_489 (by decide) rfl (fun c_489 => ?_) (fun c_489 => ?_)
            · refine v_aload_n (i := 0) (q := 500) hC dL_ofEntries_499 rfl rfl rfl ?_
              refine v_iload (q := 502) hC dL_ofEntries_500 rfl rfl ?_
              refine v_iload (q := 504) hC dL_ofEntries_502 rfl rfl ?_
              refine v_iload (q := 506) hC dL_ofEntries_504 rfl rfl ?_
              refine v_callR (q := 509) (rm := rm_L_moveEntryOf) hC ((r_moveEntry hl Θ z0 ht (nI ob) (nI en) (nI pl)).p (v2 := -101) (w2 := G.2.1 0 30) (if_neg cg) (if_neg cg)) kh_L_moveEntryOf ml_RL_386 dL_ofEntries_506 rfl rfl rfl (Nat.le_of_ble_eq_true rfl) ⟨Nat.le_of_ble_eq_true rfl, Nat.le_of_ble_eq_true rfl⟩ (c1 := 4) (s1 := 24) rfl rfl ⟨show _ + 4 ≤ 30 by omega, show _ + 24 ≤ 190 by omega⟩ (pQ_k (fun G_506 s_506 w_506 a_506 l_506 => ?_)) pQ_n
              try dsimp only [Option.toList, List.cons_append, List.nil_append]
              refine v_bipush (q := 511) (v := (-101)) hC dL_ofEntries_509 rfl (by decide) ?_
              refine v_icmp_ne (q := 518) (q2 := 514) hC dL_ofEntries_511 (by decide) rfl (fun c_511 => ?_) (fun c_511 => ?_)
              · exact absurd rfl c_511
              · refine v_iconst (q := 515) (v := 1) hC dL_ofEntries_514 rfl (by decide) ?_
                refine v_goto (q := 519) hC dL_ofEntries_515 (by decide) ?_
                refine v_iret hC dL_ofEntries_519 hr (rfl) ?_ (show _ ≤ 30 by omega) (show _ ≤ 190 by omega)
                exact fQ_mk s_506 w_506 a_506 l_506 hlv hLq
            · refine v_iload (q := 494) hC dL_ofEntries_492 rfl rfl ?_
              refine v_iload (q := 496) hC dL_ofEntries_494 rfl rfl ?_
              refine v_icmp_lt (q := 520) (q2 := 499) hC dL_ofEntries_496 (by decide) rfl (fun c_496 => ?_) (fun c_496 => ?_)
              · exact absurd ⟨(nI_ltI (by omega) (by omega)).mp (Int32.not_le.mp c_489), (nI_ltI (by omega) (by omega)).mp c_496⟩ hboth
              · refine v_aload_n (i := 0) (q := 500) hC dL_ofEntries_499 rfl rfl rfl ?_
                refine v_iload (q := 502) hC dL_ofEntries_500 rfl rfl ?_
                refine v_iload (q := 504) hC dL_ofEntries_502 rfl rfl ?_
                refine v_iload (q := 506) hC dL_ofEntries_504 rfl rfl ?_
                refine v_callR (q := 509) (rm := rm_L_moveEntryOf) hC ((r_moveEntry hl Θ z0 ht (nI ob) (nI en) (nI pl)).p (v2 := -101) (w2 := G.2.1 0 30) (if_neg cg) (if_neg cg)) kh_L_moveEntryOf ml_RL_386 dL_ofEntries_506 rfl rfl rfl (Nat.le_of_ble_eq_true rfl) ⟨Nat.le_of_ble_eq_true rfl, Nat.le_of_ble_eq_true rfl⟩ (c1 := 4) (s1 := 24) rfl rfl ⟨show _ + 4 ≤ 30 by omega, show _ + 24 ≤ 190 by omega⟩ (pQ_k (fun G_506 s_506 w_506 a_506 l_506 => ?_)) pQ_n
                try dsimp only [Option.toList, List.cons_append, List.nil_append]
                refine v_bipush (q := 511) (v := (-101)) hC dL_ofEntries_509 rfl (by decide) ?_
                refine v_icmp_ne (q := 518) (q2 := 514) hC dL_ofEntries_511 (by decide) rfl (fun c_511 => ?_) (fun c_511 => ?_)
                · exact absurd rfl c_511
                · refine v_iconst (q := 515) (v := 1) hC dL_ofEntries_514 rfl (by decide) ?_
                  refine v_goto (q := 519) hC dL_ofEntries_515 (by decide) ?_
                  refine v_iret hC dL_ofEntries_519 hr (rfl) ?_ (show _ ≤ 30 by omega) (show _ ≤ 190 by omega)
                  exact fQ_mk s_506 w_506 a_506 l_506 hlv hLq
          · exact absurd c_383 (by decide)
    refine v_iload (q := 132) hC dL_ofEntries_130 rfl rfl ?_
    refine v_bipush (q := 134) (v := 6) hC dL_ofEntries_132 rfl (by decide) ?_
    refine v_icmp_ge (q := 359) (q2 := 137) hC dL_ofEntries_134 (by decide) rfl (fun c_134 => ?_) (fun c_134 => ?_)
    · refine v_iload (q := 361) hC dL_ofEntries_359 rfl rfl ?_
      refine v_bipush (q := 363) (v := 10) hC dL_ofEntries_361 rfl (by decide) ?_
      refine v_idiv (q := 364) hC dL_ofEntries_363 rfl (by decide) ?_
      refine v_bipush (q := 366) (v := 6) hC dL_ofEntries_364 rfl (by decide) ?_
      refine v_irem (q := 367) hC dL_ofEntries_366 rfl (by decide) ?_
      rw [d6]
      refine v_istore (q := 369) hC dL_ofEntries_367 rfl (lvc rfl) (Nat.le_of_ble_eq_true rfl) (Nat.le_of_ble_eq_true rfl) rfl ?_
      refine v_iload (q := 371) hC dL_ofEntries_369 rfl rfl ?_
      refine v_bipush (q := 373) (v := 60) hC dL_ofEntries_371 rfl (by decide) ?_
      refine v_idiv (q := 374) hC dL_ofEntries_373 rfl (by decide) ?_
      refine v_bipush (q := 376) (v := 6) hC dL_ofEntries_374 rfl (by decide) ?_
      refine v_irem (q := 377) hC dL_ofEntries_376 rfl (by decide) ?_
      rw [d7]
      refine v_istore (q := 379) hC dL_ofEntries_377 rfl (lvc rfl) (Nat.le_of_ble_eq_true rfl) (Nat.le_of_ble_eq_true rfl) rfl ?_
      exact P _ _ (Nat.mod_lt _ (by decide)) (Nat.mod_lt _ (by decide))
    · exact absurd (Int32.not_le.mp c_134) n6
  have q40 : nI y / 40 = nI (y / 40) := pk_div (d := 40) hy (by decide) (by decide)
  have q10 : nI y / 10 = nI (y / 10) := pk_div (d := 10) hy (by decide) (by decide)
  have q480 : nI y / 480 = nI (y / 480) := pk_div (d := 480) hy (by decide) (by decide)
  have d1 : nI y - nI y / 10 * 10 = nI (y % 10) := pk_rem (d := 10) hy (by decide) (by decide)
  have d2 : nI y / 10 - nI y / 10 / 4 * 4 = nI (y / 10 % 4) := by
    rw [q10]; exact pk_rem (d := 4) (by omega) (by decide) (by decide)
  have d3 : ∀ m : Nat, 0 < m → m < 2 ^ 31 → nI y / 40 - nI y / 40 / nI m * nI m = nI (y / 40 % m) := fun m h1 h2 => by
    rw [q40]; exact pk_rem (d := m) (by omega) h1 h2
  have d4 : (1 : Int32) + (nI y / 480 - nI y / 480 / 15 * 15) = nI (1 + y / 480 % 15) := by
    rw [q480, show nI (y / 480) - nI (y / 480) / 15 * 15 = nI (y / 480 % 15) from pk_rem (d := 15) (by omega) (by decide) (by decide), show (1 : Int32) = nI 1 from rfl, nI_add]
  have C : ∀ (ob kd who : Nat), ob < 10 → kd < 4 → who < 12 → (kd = 1 → who < 8) → (2 ≤ kd → who = 0) → V p l e rm_L_ofEntries s m args below meth c 21 Θ (fQ t) 30 190 0 0 80 [some (.ref (tR Θ 0 14)), some (.ref (tR Θ 0 40)), some (.ref (tR Θ 0 41)), some (.ref (tR Θ 0 42)), some (.ref (tR Θ 0 44)), some (.int (nI way)), some (.int (nI y)), some (.int (nI ob)), some (.int (b2i (decide (G.2.1 0 30 (oA ob 0) = 1)))), some (.int (nI (mCt (G.2.1 0 30) ob))), some (.int (nI kd)), some (.int (nI who)), none, none, none, none, none, none, none, none, none] [] (G) := by
    intro ob kd who hob hkd hwho hwho8 hwho0
    have D' := fun yes blw => D ob kd who (1 + y / 480 % 15) yes blw hob hkd hwho hwho8 hwho0 (by omega) (by omega)
    refine v_iconst (q := 81) (v := 1) hC dL_ofEntries_80 rfl (by decide) ?_
    refine v_iload (q := 83) hC dL_ofEntries_81 rfl rfl ?_
    refine v_sipush (q := 86) (v := 480) hC dL_ofEntries_83 rfl (by decide) ?_
    refine v_idiv (q := 87) hC dL_ofEntries_86 rfl (by decide) ?_
    refine v_bipush (q := 89) (v := 15) hC dL_ofEntries_87 rfl (by decide) ?_
    refine v_irem (q := 90) hC dL_ofEntries_89 rfl (by decide) ?_
    refine v_iadd (q := 91) hC dL_ofEntries_90 rfl ?_
    rw [d4]
    refine v_istore (q := 93) hC dL_ofEntries_91 rfl (lvc rfl) (Nat.le_of_ble_eq_true rfl) (Nat.le_of_ble_eq_true rfl) rfl ?_
    refine v_iload (q := 95) hC dL_ofEntries_93 rfl rfl ?_
    refine v_sipush (q := 98) (v := 7200) hC dL_ofEntries_95 rfl (by decide) ?_
    refine v_idiv (q := 99) hC dL_ofEntries_98 rfl (by decide) ?_
    refine v_iconst (q := 100) (v := 3) hC dL_ofEntries_99 rfl (by decide) ?_
    refine v_irem (q := 101) hC dL_ofEntries_100 rfl (by decide) ?_
    refine v_if_le (q := 108) (q2 := 104) hC dL_ofEntries_101 (by decide) rfl (fun c_101 => ?_) (fun c_101 => ?_)
    · refine v_iconst (q := 109) (v := 0) hC dL_ofEntries_108 rfl (by decide) ?_
      refine v_istore (q := 111) hC dL_ofEntries_109 rfl (lvc rfl) (Nat.le_of_ble_eq_true rfl) (Nat.le_of_ble_eq_true rfl) rfl ?_
      refine v_iload (q := 113) hC dL_ofEntries_111 rfl rfl ?_
      refine v_sipush (q := 116) (v := 21600) hC dL_ofEntries_113 rfl (by decide) ?_
      refine v_idiv (q := 117) hC dL_ofEntries_116 rfl (by decide) ?_
      refine v_iconst (q := 118) (v := 2) hC dL_ofEntries_117 rfl (by decide) ?_
      refine v_irem (q := 119) hC dL_ofEntries_118 rfl (by decide) ?_
      refine v_iconst (q := 120) (v := 1) hC dL_ofEntries_119 rfl (by decide) ?_
      refine v_icmp_ne (q := 127) (q2 := 123) hC dL_ofEntries_120 (by decide) rfl (fun c_120 => ?_) (fun c_120 => ?_)
      · refine v_iconst (q := 128) (v := 0) hC dL_ofEntries_127 rfl (by decide) ?_
        refine v_istore (q := 130) hC dL_ofEntries_128 rfl (lvc rfl) (Nat.le_of_ble_eq_true rfl) (Nat.le_of_ble_eq_true rfl) rfl ?_
        first
          | exact D' true true
          | exact D' true false
          | exact D' false true
          | exact D' false false
      · refine v_iconst (q := 124) (v := 1) hC dL_ofEntries_123 rfl (by decide) ?_
        refine v_goto (q := 128) hC dL_ofEntries_124 (by decide) ?_
        refine v_istore (q := 130) hC dL_ofEntries_128 rfl (lvc rfl) (Nat.le_of_ble_eq_true rfl) (Nat.le_of_ble_eq_true rfl) rfl ?_
        first
          | exact D' true true
          | exact D' true false
          | exact D' false true
          | exact D' false false
    · refine v_iconst (q := 105) (v := 1) hC dL_ofEntries_104 rfl (by decide) ?_
      refine v_goto (q := 109) hC dL_ofEntries_105 (by decide) ?_
      refine v_istore (q := 111) hC dL_ofEntries_109 rfl (lvc rfl) (Nat.le_of_ble_eq_true rfl) (Nat.le_of_ble_eq_true rfl) rfl ?_
      refine v_iload (q := 113) hC dL_ofEntries_111 rfl rfl ?_
      refine v_sipush (q := 116) (v := 21600) hC dL_ofEntries_113 rfl (by decide) ?_
      refine v_idiv (q := 117) hC dL_ofEntries_116 rfl (by decide) ?_
      refine v_iconst (q := 118) (v := 2) hC dL_ofEntries_117 rfl (by decide) ?_
      refine v_irem (q := 119) hC dL_ofEntries_118 rfl (by decide) ?_
      refine v_iconst (q := 120) (v := 1) hC dL_ofEntries_119 rfl (by decide) ?_
      refine v_icmp_ne (q := 127) (q2 := 123) hC dL_ofEntries_120 (by decide) rfl (fun c_120 => ?_) (fun c_120 => ?_)
      · refine v_iconst (q := 128) (v := 0) hC dL_ofEntries_127 rfl (by decide) ?_
        refine v_istore (q := 130) hC dL_ofEntries_128 rfl (lvc rfl) (Nat.le_of_ble_eq_true rfl) (Nat.le_of_ble_eq_true rfl) rfl ?_
        first
          | exact D' true true
          | exact D' true false
          | exact D' false true
          | exact D' false false
      · refine v_iconst (q := 124) (v := 1) hC dL_ofEntries_123 rfl (by decide) ?_
        refine v_goto (q := 128) hC dL_ofEntries_124 (by decide) ?_
        refine v_istore (q := 130) hC dL_ofEntries_128 rfl (lvc rfl) (Nat.le_of_ble_eq_true rfl) (Nat.le_of_ble_eq_true rfl) rfl ?_
        first
          | exact D' true true
          | exact D' true false
          | exact D' false true
          | exact D' false false
  have B : ∀ (ob : Nat), ob < 10 → V p l e rm_L_ofEntries s m args below meth c 21 Θ (fQ t) 30 190 0 0 41 [some (.ref (tR Θ 0 14)), some (.ref (tR Θ 0 40)), some (.ref (tR Θ 0 41)), some (.ref (tR Θ 0 42)), some (.ref (tR Θ 0 44)), some (.int (nI way)), some (.int (nI y)), some (.int (nI ob)), some (.int (b2i (decide (G.2.1 0 30 (oA ob 0) = 1)))), some (.int (nI (mCt (G.2.1 0 30) ob))), none, none, none, none, none, none, none, none, none, none, none] [] (G) := by
    intro ob hob
    have hk4 : y / 10 % 4 < 4 := Nat.mod_lt _ (by decide)
    have d3a : nI y / 40 - nI y / 40 / 12 * 12 = nI (y / 40 % 12) := d3 12 (by decide) (by decide)
    have d3b : nI y / 40 - nI y / 40 / 8 * 8 = nI (y / 40 % 8) := d3 8 (by decide) (by decide)
    have d3c : nI y / 40 - nI y / 40 / 1 * 1 = nI (y / 40 % 1) := d3 1 (by decide) (by decide)
    refine v_iload (q := 43) hC dL_ofEntries_41 rfl rfl ?_
    refine v_bipush (q := 45) (v := 10) hC dL_ofEntries_43 rfl (by decide) ?_
    refine v_idiv (q := 46) hC dL_ofEntries_45 rfl (by decide) ?_
    refine v_iconst (q := 47) (v := 4) hC dL_ofEntries_46 rfl (by decide) ?_
    refine v_irem (q := 48) hC dL_ofEntries_47 rfl (by decide) ?_
    rw [d2]
    refine v_istore (q := 50) hC dL_ofEntries_48 rfl (lvc rfl) (Nat.le_of_ble_eq_true rfl) (Nat.le_of_ble_eq_true rfl) rfl ?_
    refine v_iload (q := 52) hC dL_ofEntries_50 rfl rfl ?_
    refine v_bipush (q := 54) (v := 40) hC dL_ofEntries_52 rfl (by decide) ?_
    refine v_idiv (q := 55) hC dL_ofEntries_54 rfl (by decide) ?_
    refine v_iload (q := 57) hC dL_ofEntries_55 rfl rfl ?_
    refine v_if_ne (q := 65) (q2 := 60) hC dL_ofEntries_57 (by decide) rfl (fun c_57 => ?_) (fun c_57 => ?_)
    · refine v_iload (q := 67) hC dL_ofEntries_65 rfl rfl ?_
      refine v_iconst (q := 68) (v := 1) hC dL_ofEntries_67 rfl (by decide) ?_
      refine v_icmp_ne (q := 76) (q2 := 71) hC dL_ofEntries_68 (by decide) rfl (fun c_68 => ?_) (fun c_68 => ?_)
      · refine v_iconst (q := 77) (v := 1) hC dL_ofEntries_76 rfl (by decide) ?_
        refine v_irem (q := 78) hC dL_ofEntries_77 rfl (by decide) ?_
        first
          | rw [d3a]
          | rw [d3b]
          | rw [d3c]
        refine v_istore (q := 80) hC dL_ofEntries_78 rfl (lvc rfl) (Nat.le_of_ble_eq_true rfl) (Nat.le_of_ble_eq_true rfl) rfl ?_
        first
          | exact C ob _ _ hob hk4 (Nat.mod_lt _ (by decide)) (fun z => by rw [z] at c_57; exact absurd c_57 (by decide)) (fun z => by
              have h9 := (nI_eq (b := 0) (by omega) (by decide)).mp c_57
              omega)
          | exact C ob _ _ hob hk4 (Nat.lt_of_lt_of_le (Nat.mod_lt _ (by decide)) (by decide : 8 ≤ 12)) (fun _ => Nat.mod_lt _ (by decide)) (fun z => by
              have h9 := (nI_eq (b := 1) (by omega) (by decide)).mp c_68
              omega)
          | exact C ob _ _ hob hk4 (by omega) (fun z => by rw [z] at c_68; exact absurd rfl c_68) (fun _ => Nat.mod_one _)
      · refine v_bipush (q := 73) (v := 8) hC dL_ofEntries_71 rfl (by decide) ?_
        refine v_goto (q := 77) hC dL_ofEntries_73 (by decide) ?_
        refine v_irem (q := 78) hC dL_ofEntries_77 rfl (by decide) ?_
        first
          | rw [d3a]
          | rw [d3b]
          | rw [d3c]
        refine v_istore (q := 80) hC dL_ofEntries_78 rfl (lvc rfl) (Nat.le_of_ble_eq_true rfl) (Nat.le_of_ble_eq_true rfl) rfl ?_
        first
          | exact C ob _ _ hob hk4 (Nat.mod_lt _ (by decide)) (fun z => by rw [z] at c_57; exact absurd c_57 (by decide)) (fun z => by
              have h9 := (nI_eq (b := 0) (by omega) (by decide)).mp c_57
              omega)
          | exact C ob _ _ hob hk4 (Nat.lt_of_lt_of_le (Nat.mod_lt _ (by decide)) (by decide : 8 ≤ 12)) (fun _ => Nat.mod_lt _ (by decide)) (fun z => by
              have h9 := (nI_eq (b := 1) (by omega) (by decide)).mp c_68
              omega)
          | exact C ob _ _ hob hk4 (by omega) (fun z => by rw [z] at c_68; exact absurd rfl c_68) (fun _ => Nat.mod_one _)
    · refine v_bipush (q := 62) (v := 12) hC dL_ofEntries_60 rfl (by decide) ?_
      refine v_goto (q := 77) hC dL_ofEntries_62 (by decide) ?_
      refine v_irem (q := 78) hC dL_ofEntries_77 rfl (by decide) ?_
      first
        | rw [d3a]
        | rw [d3b]
        | rw [d3c]
      refine v_istore (q := 80) hC dL_ofEntries_78 rfl (lvc rfl) (Nat.le_of_ble_eq_true rfl) (Nat.le_of_ble_eq_true rfl) rfl ?_
      first
        | exact C ob _ _ hob hk4 (Nat.mod_lt _ (by decide)) (fun z => by rw [z] at c_57; exact absurd c_57 (by decide)) (fun z => by
            have h9 := (nI_eq (b := 0) (by omega) (by decide)).mp c_57
            omega)
        | exact C ob _ _ hob hk4 (Nat.lt_of_lt_of_le (Nat.mod_lt _ (by decide)) (by decide : 8 ≤ 12)) (fun _ => Nat.mod_lt _ (by decide)) (fun z => by
            have h9 := (nI_eq (b := 1) (by omega) (by decide)).mp c_68
            omega)
        | exact C ob _ _ hob hk4 (by omega) (fun z => by rw [z] at c_68; exact absurd rfl c_68) (fun _ => Nat.mod_one _)
  have A : ∀ (ob : Nat) (tv : Int32), ob < 10 → tv = b2i (decide (G.2.1 0 30 (oA ob 0) = 1)) → V p l e rm_L_ofEntries s m args below meth c 21 Θ (fQ t) 30 190 0 0 23 [some (.ref (tR Θ 0 14)), some (.ref (tR Θ 0 40)), some (.ref (tR Θ 0 41)), some (.ref (tR Θ 0 42)), some (.ref (tR Θ 0 44)), some (.int (nI way)), some (.int (nI y)), some (.int (nI ob)), some (.int (tv)), none, none, none, none, none, none, none, none, none, none, none, none] [] (G) := by
    intro ob tv hob etv
    subst etv
    have B' := B ob hob
    have hct := hD.ok.ct (show ob < 20 by omega)
    by_cases h1 : G.2.1 0 30 (oA ob 0) = 1
    · have hpc := hD.pc hob h1
      rw [hct] at hpc
      rw [decide_eq_true h1] at B' ⊢
      refine v_iload (q := 25) hC dL_ofEntries_23 rfl rfl ?_
      refine v_if_eq (q := 38) (q2 := 28) hC dL_ofEntries_25 (by decide) rfl (fun c_25 => ?_) (fun c_25 => ?_)
      · exact absurd c_25 (by decide)
      · refine v_aload_n (i := 2) (q := 29) hC dL_ofEntries_28 rfl rfl rfl ?_
        refine v_bipush (q := 31) (v := 40) hC dL_ofEntries_29 rfl (by decide) ?_
        refine v_iload (q := 33) hC dL_ofEntries_31 rfl rfl ?_
        refine v_iadd (q := 34) hC dL_ofEntries_33 rfl ?_
        refine v_ialdV (q := 35) hC dL_ofEntries_34 rfl rfl rfl (i := 40 + ob) (nI_add 40 ob) (by first | decide | omega) (by decide) (hpc) ?_
        refine v_goto (q := 39) hC dL_ofEntries_35 (by decide) ?_
        refine v_istore (q := 41) hC dL_ofEntries_39 rfl (lvc rfl) (Nat.le_of_ble_eq_true rfl) (Nat.le_of_ble_eq_true rfl) rfl ?_
        exact B'
    · have hz : mCt (G.2.1 0 30) ob = 0 := by
        unfold mCt
        rw [hD.1.2.2.2 ob (by omega) h1]; rfl
      rw [decide_eq_false h1, hz] at B'
      rw [decide_eq_false h1]
      refine v_iload (q := 25) hC dL_ofEntries_23 rfl rfl ?_
      refine v_if_eq (q := 38) (q2 := 28) hC dL_ofEntries_25 (by decide) rfl (fun c_25 => ?_) (fun c_25 => ?_)
      · refine v_iconst (q := 39) (v := 0) hC dL_ofEntries_38 rfl (by decide) ?_
        refine v_istore (q := 41) hC dL_ofEntries_39 rfl (lvc rfl) (Nat.le_of_ble_eq_true rfl) (Nat.le_of_ble_eq_true rfl) rfl ?_
        exact B'
      · exact absurd rfl c_25
  refine v_iload (q := 2) hC dL_ofEntries_0 rfl rfl ?_
  refine v_bipush (q := 4) (v := 10) hC dL_ofEntries_2 rfl (by decide) ?_
  refine v_irem (q := 5) hC dL_ofEntries_4 rfl (by decide) ?_
  rw [d1]
  refine v_istore (q := 7) hC dL_ofEntries_5 rfl (lvc rfl) (Nat.le_of_ble_eq_true rfl) (Nat.le_of_ble_eq_true rfl) rfl ?_
  refine v_aload_n (i := 2) (q := 8) hC dL_ofEntries_7 rfl rfl rfl ?_
  refine v_iload (q := 10) hC dL_ofEntries_8 rfl rfl ?_
  refine v_ialdV (q := 11) hC dL_ofEntries_10 rfl rfl rfl (i := y % 10) (rfl) (by first | decide | omega) (by decide) (rfl) ?_
  refine v_bipush (q := 13) (v := (-2)) hC dL_ofEntries_11 rfl (by decide) ?_
  refine v_icmp_eq (q := 20) (q2 := 16) hC dL_ofEntries_13 (by decide) rfl (fun c_13 => ?_) (fun c_13 => ?_)
  · refine v_iconst (q := 21) (v := 0) hC dL_ofEntries_20 rfl (by decide) ?_
    refine v_istore (q := 23) hC dL_ofEntries_21 rfl (lvc rfl) (Nat.le_of_ble_eq_true rfl) (Nat.le_of_ble_eq_true rfl) rfl ?_
    first
      | exact A _ _ (Nat.mod_lt _ (by decide)) (by rw [decide_eq_false ((hD.p2 (Nat.mod_lt _ (by decide))).mp c_13)]; rfl)
      | exact A _ _ (Nat.mod_lt _ (by decide)) (by rw [decide_eq_true (Classical.byContradiction fun z => c_13 ((hD.p2 (Nat.mod_lt _ (by decide))).mpr z))]; rfl)
  · refine v_iconst (q := 17) (v := 1) hC dL_ofEntries_16 rfl (by decide) ?_
    refine v_goto (q := 21) hC dL_ofEntries_17 (by decide) ?_
    refine v_istore (q := 23) hC dL_ofEntries_21 rfl (lvc rfl) (Nat.le_of_ble_eq_true rfl) (Nat.le_of_ble_eq_true rfl) rfl ?_
    first
      | exact A _ _ (Nat.mod_lt _ (by decide)) (by rw [decide_eq_false ((hD.p2 (Nat.mod_lt _ (by decide))).mp c_13)]; rfl)
      | exact A _ _ (Nat.mod_lt _ (by decide)) (by rw [decide_eq_true (Classical.byContradiction fun z => c_13 ((hD.p2 (Nat.mod_lt _ (by decide))).mpr z))]; rfl)
