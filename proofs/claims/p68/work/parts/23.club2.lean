/-! null; floorMod; the loops of Club and Tree; Log; the copies; State, History -/
section NULLS
variable {p : Program} {l : Launch} {e : Env} {R : Room} {s : State} {m : MethodId} {args : Array Value} {below : List Frame} {meth : Method} {c : Code} {cc : ByteArray} {nL : Nat} {own : String} {Θ : cTH} {Qp : cOut → GS → Prop} {Q9 : State → Prop} {mc ms k n pc q q2 : Nat} {LS : List (Option Value)} {st rest : List Value} {G : GS}
theorem v_ifnull (hC : cC p l s m args meth c cc nL own Θ) {x : Nat} {off : Int} (d : decode cc pc = .ok (.ifnull off, 3)) (hq : pc + 3 = q) (kk : VG p l e R s m args below meth c nL Θ Q9 k n q LS rest G) : VG p l e R s m args below meth c nL Θ Q9 k n pc LS (.ref x :: rest) G := by
  subst hq; exact v_lift0 (fun H locs ls Q w => lv_ifnull hC.1 hC.2.1 d w) kk
theorem v_ifnonnull (hC : cC p l s m args meth c cc nL own Θ) {x : Nat} {off : Int} (d : decode cc pc = .ok (.ifnonnull off, 3)) (hq : (pc : Int) + off = (q : Int)) (kk : VG p l e R s m args below meth c nL Θ Q9 k n q LS rest G) : VG p l e R s m args below meth c nL Θ Q9 k n pc LS (.ref x :: rest) G :=
  v_lift0 (fun H locs ls Q w => lv_ifnonnull hC.1 hC.2.1 d hq w) kk
end NULLS
theorem i32_neg {x : Int32} : x < 0 ↔ x.toBitVec.msb = true := by
  rw [Int32.lt_iff_toInt_lt]
  show x.toBitVec.toInt < 0 ↔ _
  exact BitVec.toInt_neg_iff.trans BitVec.msb_eq_true_iff_two_mul_ge.symm
theorem xor_neg {x y : Int32} (hy : ¬ y < 0) : (x ^^^ y) < 0 ↔ x < 0 := by
  rw [i32_neg, i32_neg]
  have h1 : y.toBitVec.msb = false := by
    cases h : y.toBitVec.msb with
    | false => rfl
    | true => exact absurd (i32_neg.mpr h) hy
  have h2 : (x ^^^ y).toBitVec = x.toBitVec ^^^ y.toBitVec := Int32.toBitVec_xor x y
  rw [h2, BitVec.msb_xor, h1, Bool.xor_false]
theorem jMod_in {x y : Int32} {N : Nat} (h0 : 0 < N) (hy : y.toInt = N) : vp_in (jMod x y) N := by
  have hyp : ¬ y < 0 := by
    intro h
    have := Int32.lt_iff_toInt_lt.mp h
    rw [hy] at this
    have e : (0 : Int32).toInt = 0 := rfl
    omega
  have hr := rem_toInt x y
  have hb := tmod_bounds (a := x.toInt) (M := y.toInt) (by omega)
  have hx1 := Int32.toInt_lt x
  have hx2 := Int32.le_toInt x
  have hN : (N : Int) < 2 ^ 31 := by rw [← hy]; exact Int32.toInt_lt y
  rw [vp_in_iff]
  unfold jMod
  simp only [xor_neg hyp]
  by_cases hx : x < 0
  · have hxn : x.toInt < 0 := by simpa using Int32.lt_iff_toInt_lt.mp hx
    by_cases hz : x - x / y * y = 0
    · rw [if_neg (fun z => z.2 hz), hz]
      exact ⟨by decide, by show (0 : Int) < N; omega⟩
    · rw [if_pos ⟨hx, hz⟩]
      have hle : x.toInt.tmod y.toInt ≤ 0 := by
        have h7 := Int.tmod_nonneg y.toInt (a := -x.toInt) (by omega)
        rw [Int.neg_tmod] at h7
        omega
      have hne : x.toInt.tmod y.toInt ≠ 0 := fun z => hz (by
        apply Int32.toInt_inj.mp
        rw [hr, z]; rfl)
      have hyN : y.toInt < 2 ^ 31 := Int32.toInt_lt y
      have hs := Jvm.Kit.i32_add (x := x - x / y * y) (y := y) (by rw [hr]; omega) (by rw [hr]; omega)
      rw [hs, hr]
      omega
  · rw [if_neg (fun z => hx z.1), hr]
    have hxp : 0 ≤ x.toInt := by
      have := Int32.not_lt.mp hx
      simpa using Int32.le_iff_toInt_le.mp this
    have h3 : 0 ≤ x.toInt.tmod y.toInt := Int.tmod_nonneg y.toInt hxp
    omega
theorem jMod_nI {a b : Nat} (ha : a < 2 ^ 31) (hb0 : 0 < b) (hb : b < 2 ^ 31) : jMod (nI a) (nI b) = nI (a % b) := by
  unfold jMod
  simp only [xor_neg (nI_pos hb)]
  rw [if_neg (fun z => nI_pos ha z.1), pk_rem ha hb0 hb]
set_option maxHeartbeats 4000000 in
set_option maxRecDepth 20000 in
theorem c_X0_isWithin {l : Launch} (hl : l.stackTraces = false) (Θ : cTH) (x y : Int32) (G : GS) (g : Nat) (hg : G.1 0 1 1 = nI g) (hg8 : g ≤ 8) : Ct l yX0_isWithin cX0_isWithin 3 (some .boolean) rm_X0_isWithin Θ [.ref (tR Θ 0 1), .int x, .int y] (G) (fR (some (.int (b2i (jIdx x 8 && jHas (cUp (G.2.1 0 3) g (G.2.1 0 3 x.toNatClampNeg)) y)))) G) := by
  refine ct_of (LS := [some (.ref (tR Θ 0 1)), some (.int x), some (.int y)]) hl (by decide +kernel) rfl (Nat.le_of_ble_eq_true rfl) rfl ?_
  intro p e s m args below meth c hC hr
  refine v_iload_n (i := 1) (q := 1) hC dX0_isWithin_0 rfl rfl rfl ?_
  refine v_bipush (q := 3) (v := 8) hC dX0_isWithin_1 rfl (by decide) ?_
  refine v_callN (q := 6) (rm := rm_X11_isIndex) hC (c_X11_isIndex hl Θ _ _ _) k_X11_isIndex st_yX11_isIndex nl_RX0_31 dX0_isWithin_3 rfl  rfl rfl (Nat.le_of_ble_eq_true rfl) ⟨Nat.le_of_ble_eq_true rfl, Nat.le_of_ble_eq_true rfl⟩ ⟨Nat.le_of_ble_eq_true rfl, Nat.le_of_ble_eq_true rfl⟩ (fR_k ?_) fR_x (Nat.le_of_ble_eq_true rfl) (Nat.le_of_ble_eq_true rfl)
  try dsimp only [Option.toList, List.cons_append, List.nil_append]
  refine v_ifb_eq (q := 30) (q2 := 9) hC dX0_isWithin_6 (by decide) rfl (fun c_6 => ?_) (fun c_6 => ?_)
  · refine v_iconst (q := 31) (v := 0) hC dX0_isWithin_30 rfl (by decide) ?_
    refine v_iret hC dX0_isWithin_31 hr (by first | rfl | exact nar_b) ?_ (Nat.le_of_ble_eq_true rfl) (Nat.le_of_ble_eq_true rfl)
    exact ⟨by simp_all [b2i], rfl⟩
  · refine v_aload_n (i := 0) (q := 10) hC dX0_isWithin_9 rfl rfl rfl ?_
    refine v_aload_n (i := 0) (q := 11) hC dX0_isWithin_10 rfl rfl rfl ?_
    refine g_X0_3 (q := 14) hC dX0_isWithin_11 rfl rfl fl_RX0_22 ?_
    refine v_iload_n (i := 1) (q := 15) hC dX0_isWithin_14 rfl rfl rfl ?_
    refine v_iald (q := 16) hC dX0_isWithin_15 rfl rfl rfl (jIdx_in ‹_› rfl) ?_
    refine v_callV (q := 19) (rm := rm_X0_climbFrom) hC (c_X0_climbFrom hl Θ _ _ g hg hg8) k_X0_climbFrom im_yX0_climbFrom se_yX0_climbFrom ml_RX0_42 dX0_isWithin_16 rfl rfl rfl rfl rfl rfl (Nat.le_of_ble_eq_true rfl) ⟨Nat.le_of_ble_eq_true rfl, Nat.le_of_ble_eq_true rfl⟩ ⟨Nat.le_of_ble_eq_true rfl, Nat.le_of_ble_eq_true rfl⟩ (fR_k ?_) fR_x (Nat.le_of_ble_eq_true rfl) (Nat.le_of_ble_eq_true rfl)
    try dsimp only [Option.toList, List.cons_append, List.nil_append]
    refine v_iload_n (i := 2) (q := 20) hC dX0_isWithin_19 rfl rfl rfl ?_
    refine v_callN (q := 23) (rm := rm_X11_has) hC (c_X11_has hl Θ _ _ _) k_X11_has st_yX11_has nl_RX0_35 dX0_isWithin_20 rfl  rfl rfl (Nat.le_of_ble_eq_true rfl) ⟨Nat.le_of_ble_eq_true rfl, Nat.le_of_ble_eq_true rfl⟩ ⟨Nat.le_of_ble_eq_true rfl, Nat.le_of_ble_eq_true rfl⟩ (fR_k ?_) fR_x (Nat.le_of_ble_eq_true rfl) (Nat.le_of_ble_eq_true rfl)
    try dsimp only [Option.toList, List.cons_append, List.nil_append]
    refine v_ifb_eq (q := 30) (q2 := 26) hC dX0_isWithin_23 (by decide) rfl (fun c_23 => ?_) (fun c_23 => ?_)
    · refine v_iconst (q := 31) (v := 0) hC dX0_isWithin_30 rfl (by decide) ?_
      refine v_iret hC dX0_isWithin_31 hr (by first | rfl | exact nar_b) ?_ (Nat.le_of_ble_eq_true rfl) (Nat.le_of_ble_eq_true rfl)
      exact ⟨by simp_all [b2i], rfl⟩
    · refine v_iconst (q := 27) (v := 1) hC dX0_isWithin_26 rfl (by decide) ?_
      refine v_goto (q := 31) hC dX0_isWithin_27 (by decide) ?_
      refine v_iret hC dX0_isWithin_31 hr (by first | rfl | exact nar_b) ?_ (Nat.le_of_ble_eq_true rfl) (Nat.le_of_ble_eq_true rfl)
      exact ⟨by simp_all [b2i], rfl⟩
set_option maxHeartbeats 4000000 in
set_option maxRecDepth 20000 in
theorem c_X0_groupsOver {l : Launch} (hl : l.stackTraces = false) (Θ : cTH) (u : Int32) (G : GS) (g : Nat) (hg : G.1 0 1 1 = nI g) (hg8 : g ≤ 8) : Ct l yX0_groupsOver cX0_groupsOver 2 (some .int) rm_X0_groupsOver Θ [.ref (tR Θ 0 1), .int u] (G) (fR (some (.int (if jIdx u 12 = true then cUp (G.2.1 0 3) g (G.2.1 0 2 u.toNatClampNeg) else 0))) G) := by
  refine ct_of (LS := [some (.ref (tR Θ 0 1)), some (.int u)]) hl (by decide +kernel) rfl (Nat.le_of_ble_eq_true rfl) rfl ?_
  intro p e s m args below meth c hC hr
  refine v_iload_n (i := 1) (q := 1) hC dX0_groupsOver_0 rfl rfl rfl ?_
  refine v_bipush (q := 3) (v := 12) hC dX0_groupsOver_1 rfl (by decide) ?_
  refine v_callN (q := 6) (rm := rm_X11_isIndex) hC (c_X11_isIndex hl Θ _ _ _) k_X11_isIndex st_yX11_isIndex nl_RX0_31 dX0_groupsOver_3 rfl  rfl rfl (Nat.le_of_ble_eq_true rfl) ⟨Nat.le_of_ble_eq_true rfl, Nat.le_of_ble_eq_true rfl⟩ ⟨Nat.le_of_ble_eq_true rfl, Nat.le_of_ble_eq_true rfl⟩ (fR_k ?_) fR_x (Nat.le_of_ble_eq_true rfl) (Nat.le_of_ble_eq_true rfl)
  try dsimp only [Option.toList, List.cons_append, List.nil_append]
  refine v_ifb_eq (q := 22) (q2 := 9) hC dX0_groupsOver_6 (by decide) rfl (fun c_6 => ?_) (fun c_6 => ?_)
  · refine v_iconst (q := 23) (v := 0) hC dX0_groupsOver_22 rfl (by decide) ?_
    refine v_iret hC dX0_groupsOver_23 hr (rfl) ?_ (Nat.le_of_ble_eq_true rfl) (Nat.le_of_ble_eq_true rfl)
    exact ⟨by simp_all, rfl⟩
  · refine v_aload_n (i := 0) (q := 10) hC dX0_groupsOver_9 rfl rfl rfl ?_
    refine v_aload_n (i := 0) (q := 11) hC dX0_groupsOver_10 rfl rfl rfl ?_
    refine g_X0_2 (q := 14) hC dX0_groupsOver_11 rfl rfl fl_RX0_18 ?_
    refine v_iload_n (i := 1) (q := 15) hC dX0_groupsOver_14 rfl rfl rfl ?_
    refine v_iald (q := 16) hC dX0_groupsOver_15 rfl rfl rfl (jIdx_in ‹_› rfl) ?_
    refine v_callV (q := 19) (rm := rm_X0_climbFrom) hC (c_X0_climbFrom hl Θ _ _ g hg hg8) k_X0_climbFrom im_yX0_climbFrom se_yX0_climbFrom ml_RX0_42 dX0_groupsOver_16 rfl rfl rfl rfl rfl rfl (Nat.le_of_ble_eq_true rfl) ⟨Nat.le_of_ble_eq_true rfl, Nat.le_of_ble_eq_true rfl⟩ ⟨Nat.le_of_ble_eq_true rfl, Nat.le_of_ble_eq_true rfl⟩ (fR_k ?_) fR_x (Nat.le_of_ble_eq_true rfl) (Nat.le_of_ble_eq_true rfl)
    try dsimp only [Option.toList, List.cons_append, List.nil_append]
    refine v_goto (q := 23) hC dX0_groupsOver_19 (by decide) ?_
    refine v_iret hC dX0_groupsOver_23 hr (rfl) ?_ (Nat.le_of_ble_eq_true rfl) (Nat.le_of_ble_eq_true rfl)
    exact ⟨by simp_all, rfl⟩
/-- one round by members: from the place j on, n places left -/
def dIn (o : Nat → Int32) (b : Int32) : Nat → Nat → Int32 → Int32
  | 0, _, r => r
  | n + 1, j, r => dIn o b n (j + 1) (if o j &&& b = 0 then r else r ||| ((1 : Int32) <<< (nI j &&& 31)))
def dUp (o : Nat → Int32) : Nat → Int32 → Int32
  | 0, r => r
  | n + 1, r => if dIn o r 8 0 r = r then r else dUp o n (dIn o r 8 0 r)
set_option maxHeartbeats 4000000 in
set_option maxRecDepth 20000 in
theorem c_X0_groupsUnder {l : Launch} (hl : l.stackTraces = false) (Θ : cTH) (x : Int32) (G : GS) (g : Nat) (hg : G.1 0 1 1 = nI g) (hg8 : g ≤ 8) : Ct l yX0_groupsUnder cX0_groupsUnder 6 (some .int) rm_X0_groupsUnder Θ [.ref (tR Θ 0 1), .int x] (G) (fR (some (.int (dUp (G.2.1 0 3) g ((1 : Int32) <<< (x &&& 31))))) G) := by
  refine ct_of (LS := [some (.ref (tR Θ 0 1)), some (.int x), none, none, none, none]) hl (by decide +kernel) rfl (Nat.le_of_ble_eq_true rfl) rfl ?_
  intro p e s m args below meth c hC hr
  have L : ∀ (n j : Nat) (x4 x5 : Option Value) (r : Int32), n + j = g → dUp (G.2.1 0 3) n r = dUp (G.2.1 0 3) g ((1 : Int32) <<< (x &&& 31)) → lvCb [x4, x5] 1 = true → V p l e rm_X0_groupsUnder s m args below meth c 6 Θ (fR (some (.int (dUp (G.2.1 0 3) g ((1 : Int32) <<< (x &&& 31))))) G) 0 0 0 0 6 [some (.ref (tR Θ 0 1)), some (.int x), some (.int r), some (.int (nI j)), x4, x5] [] (G) := by
    intro n
    induction n with
    | zero =>
      intro j x4 x5 r h1 h2 h3
      refine v_iload_n (i := 3) (q := 7) hC dX0_groupsUnder_6 rfl rfl rfl ?_
      refine v_aload_n (i := 0) (q := 8) hC dX0_groupsUnder_7 rfl rfl rfl ?_
      refine g_X0_1 (q := 11) hC dX0_groupsUnder_8 rfl rfl fl_RX0_15 ?_
      refine v_icmp_ge (q := 67) (q2 := 14) hC dX0_groupsUnder_11 (by decide) rfl (fun c_11 => ?_) (fun c_11 => ?_)
      · refine v_iload_n (i := 2) (q := 68) hC dX0_groupsUnder_67 rfl rfl rfl ?_
        refine v_iret hC dX0_groupsUnder_68 hr (rfl) ?_ (Nat.le_of_ble_eq_true rfl) (Nat.le_of_ble_eq_true rfl)
        exact ⟨by rw [← h2]; rfl, rfl⟩
      · exact absurd (by rw [hg, ← h1]; exact nI_le (by omega) (by omega)) c_11
    | succ n ih =>
      intro j x4 x5 r h1 h2 h3
      have L2 : ∀ (n2 j2 : Nat) (r2 : Int32), n2 + j2 = 8 → dIn (G.2.1 0 3) r n2 j2 r2 = dIn (G.2.1 0 3) r 8 0 r → V p l e rm_X0_groupsUnder s m args below meth c 6 Θ (fR (some (.int (dUp (G.2.1 0 3) g ((1 : Int32) <<< (x &&& 31))))) G) 0 0 0 0 20 [some (.ref (tR Θ 0 1)), some (.int x), some (.int r2), some (.int (nI j)), some (.int r), some (.int (nI j2))] [] (G) := by
        intro n2
        induction n2 with
        | zero =>
          intro j2 r2 h4 h5
          refine v_iload (q := 22) hC dX0_groupsUnder_20 rfl rfl ?_
          refine v_bipush (q := 24) (v := 8) hC dX0_groupsUnder_22 rfl (by decide) ?_
          refine v_icmp_ge (q := 53) (q2 := 27) hC dX0_groupsUnder_24 (by decide) rfl (fun c_24 => ?_) (fun c_24 => ?_)
          · refine v_iload_n (i := 2) (q := 54) hC dX0_groupsUnder_53 rfl rfl rfl ?_
            refine v_iload (q := 56) hC dX0_groupsUnder_54 rfl rfl ?_
            refine v_icmp_ne (q := 61) (q2 := 59) hC dX0_groupsUnder_56 (by decide) rfl (fun c_56 => ?_) (fun c_56 => ?_)
            · refine v_iinc (q := 64) (v := nI (j + 1)) hC dX0_groupsUnder_61 rfl rfl (nI_1 j) (lvc rfl) (Nat.le_of_ble_eq_true rfl) (Nat.le_of_ble_eq_true rfl) rfl ?_
              refine v_goto (q := 6) hC dX0_groupsUnder_64 (by decide) ?_
              exact ih (j + 1) _ _ _ (by omega) (by rw [← h2, dUp, ← h5, dIn, if_neg ‹_›]) rfl
            · refine v_iload_n (i := 2) (q := 60) hC dX0_groupsUnder_59 rfl rfl rfl ?_
              refine v_iret hC dX0_groupsUnder_60 hr (rfl) ?_ (Nat.le_of_ble_eq_true rfl) (Nat.le_of_ble_eq_true rfl)
              exact ⟨by rw [← h2, dUp, ← h5, dIn, if_pos ‹_›, ‹r2 = r›], rfl⟩
          · exact absurd (by rw [show j2 = 8 by omega]; decide) c_24
        | succ n2 ih2 =>
          intro j2 r2 h4 h5
          have e2 := nI_clamp (show j2 < 2 ^ 31 by omega)
          refine v_iload (q := 22) hC dX0_groupsUnder_20 rfl rfl ?_
          refine v_bipush (q := 24) (v := 8) hC dX0_groupsUnder_22 rfl (by decide) ?_
          refine v_icmp_ge (q := 53) (q2 := 27) hC dX0_groupsUnder_24 (by decide) rfl (fun c_24 => ?_) (fun c_24 => ?_)
          · exact absurd c_24 (by rw [show (8 : Int32) = nI 8 from rfl]; exact nI_ge (by omega) (by omega))
          · refine v_aload_n (i := 0) (q := 28) hC dX0_groupsUnder_27 rfl rfl rfl ?_
            refine g_X0_3 (q := 31) hC dX0_groupsUnder_28 rfl rfl fl_RX0_22 ?_
            refine v_iload (q := 33) hC dX0_groupsUnder_31 rfl rfl ?_
            refine v_iald (q := 34) hC dX0_groupsUnder_33 rfl rfl rfl (vp_in_nI (by omega) (by omega)) ?_
            refine v_iload (q := 36) hC dX0_groupsUnder_34 rfl rfl ?_
            refine v_iand (q := 37) hC dX0_groupsUnder_36 rfl ?_
            refine v_if_eq (q := 47) (q2 := 40) hC dX0_groupsUnder_37 (by decide) rfl (fun c_37 => ?_) (fun c_37 => ?_)
            · refine v_iinc (q := 50) (v := nI (j2 + 1)) hC dX0_groupsUnder_47 rfl rfl (nI_1 j2) (lvc rfl) (Nat.le_of_ble_eq_true rfl) (Nat.le_of_ble_eq_true rfl) rfl ?_
              refine v_goto (q := 20) hC dX0_groupsUnder_50 (by decide) ?_
              rw [e2] at c_37; exact ih2 (j2 + 1) _ (by omega) (by rw [← h5, dIn]; simp only [c_37, if_true, if_false])
            · refine v_iload_n (i := 2) (q := 41) hC dX0_groupsUnder_40 rfl rfl rfl ?_
              refine v_iconst (q := 42) (v := 1) hC dX0_groupsUnder_41 rfl (by decide) ?_
              refine v_iload (q := 44) hC dX0_groupsUnder_42 rfl rfl ?_
              refine v_ishl (q := 45) hC dX0_groupsUnder_44 rfl ?_
              refine v_ior (q := 46) hC dX0_groupsUnder_45 rfl ?_
              refine v_istore_n (i := 2) (q := 47) hC dX0_groupsUnder_46 rfl rfl (lvc rfl) (Nat.le_of_ble_eq_true rfl) (Nat.le_of_ble_eq_true rfl) rfl ?_
              refine v_iinc (q := 50) (v := nI (j2 + 1)) hC dX0_groupsUnder_47 rfl rfl (nI_1 j2) (lvc rfl) (Nat.le_of_ble_eq_true rfl) (Nat.le_of_ble_eq_true rfl) rfl ?_
              refine v_goto (q := 20) hC dX0_groupsUnder_50 (by decide) ?_
              rw [e2] at c_37; exact ih2 (j2 + 1) _ (by omega) (by rw [← h5, dIn]; simp only [c_37, if_true, if_false])
      refine v_iload_n (i := 3) (q := 7) hC dX0_groupsUnder_6 rfl rfl rfl ?_
      refine v_aload_n (i := 0) (q := 8) hC dX0_groupsUnder_7 rfl rfl rfl ?_
      refine g_X0_1 (q := 11) hC dX0_groupsUnder_8 rfl rfl fl_RX0_15 ?_
      refine v_icmp_ge (q := 67) (q2 := 14) hC dX0_groupsUnder_11 (by decide) rfl (fun c_11 => ?_) (fun c_11 => ?_)
      · exact absurd c_11 (by rw [hg, ← h1]; exact nI_ge (by omega) (by omega))
      · refine v_iload_n (i := 2) (q := 15) hC dX0_groupsUnder_14 rfl rfl rfl ?_
        refine v_istore (q := 17) hC dX0_groupsUnder_15 rfl (lvc rfl) (Nat.le_of_ble_eq_true rfl) (Nat.le_of_ble_eq_true rfl) rfl ?_
        refine v_iconst (q := 18) (v := 0) hC dX0_groupsUnder_17 rfl (by decide) ?_
        refine v_istore (q := 20) hC dX0_groupsUnder_18 rfl (lvc rfl) (Nat.le_of_ble_eq_true rfl) (Nat.le_of_ble_eq_true rfl) rfl ?_
        exact L2 8 0 r rfl rfl
  refine v_iconst (q := 1) (v := 1) hC dX0_groupsUnder_0 rfl (by decide) ?_
  refine v_iload_n (i := 1) (q := 2) hC dX0_groupsUnder_1 rfl rfl rfl ?_
  refine v_ishl (q := 3) hC dX0_groupsUnder_2 rfl ?_
  refine v_istore_n (i := 2) (q := 4) hC dX0_groupsUnder_3 rfl rfl (lvc rfl) (Nat.le_of_ble_eq_true rfl) (Nat.le_of_ble_eq_true rfl) rfl ?_
  refine v_iconst (q := 5) (v := 0) hC dX0_groupsUnder_4 rfl (by decide) ?_
  refine v_istore_n (i := 3) (q := 6) hC dX0_groupsUnder_5 rfl rfl (lvc rfl) (Nat.le_of_ble_eq_true rfl) (Nat.le_of_ble_eq_true rfl) rfl ?_
  exact L g 0 none none _ rfl rfl rfl
def uIn (w : Nat → Int32) (b : Int32) : Nat → Nat → Int32 → Int32
  | 0, _, r => r
  | n + 1, j, r => uIn w b n (j + 1) (if w j &&& b = 0 then r else r ||| ((1 : Int32) <<< (nI j &&& 31)))
def sUsersIn (w o : Nat → Int32) (g : Nat) (x : Int32) : Int32 := uIn w (dUp o g ((1 : Int32) <<< (x &&& 31))) 12 0 0
set_option maxHeartbeats 4000000 in
set_option maxRecDepth 20000 in
theorem c_X0_usersIn {l : Launch} (hl : l.stackTraces = false) (Θ : cTH) (x : Int32) (G : GS) (g : Nat) (hg : G.1 0 1 1 = nI g) (hg8 : g ≤ 8) : Ct l yX0_usersIn cX0_usersIn 5 (some .int) rm_X0_usersIn Θ [.ref (tR Θ 0 1), .int x] (G) (fR (some (.int (sUsersIn (G.2.1 0 2) (G.2.1 0 3) g x))) G) := by
  refine ct_of (LS := [some (.ref (tR Θ 0 1)), some (.int x), none, none, none]) hl (by decide +kernel) rfl (Nat.le_of_ble_eq_true rfl) rfl ?_
  intro p e s m args below meth c hC hr
  have L : ∀ (n j : Nat) (r b : Int32), n + j = 12 → uIn (G.2.1 0 2) b n j r = sUsersIn (G.2.1 0 2) (G.2.1 0 3) g x → V p l e rm_X0_usersIn s m args below meth c 5 Θ (fR (some (.int (sUsersIn (G.2.1 0 2) (G.2.1 0 3) g x))) G) 0 0 0 0 11 [some (.ref (tR Θ 0 1)), some (.int x), some (.int b), some (.int r), some (.int (nI j))] [] (G) := by
    intro n
    induction n with
    | zero =>
      intro j r b h1 h2
      refine v_iload (q := 13) hC dX0_usersIn_11 rfl rfl ?_
      refine v_bipush (q := 15) (v := 12) hC dX0_usersIn_13 rfl (by decide) ?_
      refine v_icmp_ge (q := 43) (q2 := 18) hC dX0_usersIn_15 (by decide) rfl (fun c_15 => ?_) (fun c_15 => ?_)
      · refine v_iload_n (i := 3) (q := 44) hC dX0_usersIn_43 rfl rfl rfl ?_
        refine v_iret hC dX0_usersIn_44 hr (rfl) ?_ (Nat.le_of_ble_eq_true rfl) (Nat.le_of_ble_eq_true rfl)
        exact ⟨by rw [← h2, uIn], rfl⟩
      · exact absurd (by rw [show j = 12 by omega]; decide) c_15
    | succ n ih =>
      intro j r b h1 h2
      have e2 := nI_clamp (show j < 2 ^ 31 by omega)
      refine v_iload (q := 13) hC dX0_usersIn_11 rfl rfl ?_
      refine v_bipush (q := 15) (v := 12) hC dX0_usersIn_13 rfl (by decide) ?_
      refine v_icmp_ge (q := 43) (q2 := 18) hC dX0_usersIn_15 (by decide) rfl (fun c_15 => ?_) (fun c_15 => ?_)
      · exact absurd c_15 (by rw [show (12 : Int32) = nI 12 from rfl]; exact nI_ge (by omega) (by omega))
      · refine v_aload_n (i := 0) (q := 19) hC dX0_usersIn_18 rfl rfl rfl ?_
        refine g_X0_2 (q := 22) hC dX0_usersIn_19 rfl rfl fl_RX0_18 ?_
        refine v_iload (q := 24) hC dX0_usersIn_22 rfl rfl ?_
        refine v_iald (q := 25) hC dX0_usersIn_24 rfl rfl rfl (vp_in_nI (by omega) (by omega)) ?_
        refine v_iload_n (i := 2) (q := 26) hC dX0_usersIn_25 rfl rfl rfl ?_
        refine v_iand (q := 27) hC dX0_usersIn_26 rfl ?_
        refine v_if_eq (q := 37) (q2 := 30) hC dX0_usersIn_27 (by decide) rfl (fun c_27 => ?_) (fun c_27 => ?_)
        · refine v_iinc (q := 40) (v := nI (j + 1)) hC dX0_usersIn_37 rfl rfl (nI_1 j) (lvc rfl) (Nat.le_of_ble_eq_true rfl) (Nat.le_of_ble_eq_true rfl) rfl ?_
          refine v_goto (q := 11) hC dX0_usersIn_40 (by decide) ?_
          rw [e2] at c_27; exact ih (j + 1) _ _ (by omega) (by rw [← h2, uIn]; simp only [c_27, if_true, if_false])
        · refine v_iload_n (i := 3) (q := 31) hC dX0_usersIn_30 rfl rfl rfl ?_
          refine v_iconst (q := 32) (v := 1) hC dX0_usersIn_31 rfl (by decide) ?_
          refine v_iload (q := 34) hC dX0_usersIn_32 rfl rfl ?_
          refine v_ishl (q := 35) hC dX0_usersIn_34 rfl ?_
          refine v_ior (q := 36) hC dX0_usersIn_35 rfl ?_
          refine v_istore_n (i := 3) (q := 37) hC dX0_usersIn_36 rfl rfl (lvc rfl) (Nat.le_of_ble_eq_true rfl) (Nat.le_of_ble_eq_true rfl) rfl ?_
          refine v_iinc (q := 40) (v := nI (j + 1)) hC dX0_usersIn_37 rfl rfl (nI_1 j) (lvc rfl) (Nat.le_of_ble_eq_true rfl) (Nat.le_of_ble_eq_true rfl) rfl ?_
          refine v_goto (q := 11) hC dX0_usersIn_40 (by decide) ?_
          rw [e2] at c_27; exact ih (j + 1) _ _ (by omega) (by rw [← h2, uIn]; simp only [c_27, if_true, if_false])
  refine v_aload_n (i := 0) (q := 1) hC dX0_usersIn_0 rfl rfl rfl ?_
  refine v_iload_n (i := 1) (q := 2) hC dX0_usersIn_1 rfl rfl rfl ?_
  refine v_callV (q := 5) (rm := rm_X0_groupsUnder) hC (c_X0_groupsUnder hl Θ _ _ g hg hg8) k_X0_groupsUnder im_yX0_groupsUnder se_yX0_groupsUnder ml_RX0_46 dX0_usersIn_2 rfl rfl rfl rfl rfl rfl (Nat.le_of_ble_eq_true rfl) ⟨Nat.le_of_ble_eq_true rfl, Nat.le_of_ble_eq_true rfl⟩ ⟨Nat.le_of_ble_eq_true rfl, Nat.le_of_ble_eq_true rfl⟩ (fR_k ?_) fR_x (Nat.le_of_ble_eq_true rfl) (Nat.le_of_ble_eq_true rfl)
  try dsimp only [Option.toList, List.cons_append, List.nil_append]
  refine v_istore_n (i := 2) (q := 6) hC dX0_usersIn_5 rfl rfl (lvc rfl) (Nat.le_of_ble_eq_true rfl) (Nat.le_of_ble_eq_true rfl) rfl ?_
  refine v_iconst (q := 7) (v := 0) hC dX0_usersIn_6 rfl (by decide) ?_
  refine v_istore_n (i := 3) (q := 8) hC dX0_usersIn_7 rfl rfl (lvc rfl) (Nat.le_of_ble_eq_true rfl) (Nat.le_of_ble_eq_true rfl) rfl ?_
  refine v_iconst (q := 9) (v := 0) hC dX0_usersIn_8 rfl (by decide) ?_
  refine v_istore (q := 11) hC dX0_usersIn_9 rfl (lvc rfl) (Nat.le_of_ble_eq_true rfl) (Nat.le_of_ble_eq_true rfl) rfl ?_
  exact L 12 0 0 _ rfl rfl
set_option maxHeartbeats 4000000 in
set_option maxRecDepth 20000 in
theorem c_X0_countUsersIn {l : Launch} (hl : l.stackTraces = false) (Θ : cTH) (x : Int32) (G : GS) (g : Nat) (hg : G.1 0 1 1 = nI g) (hg8 : g ≤ 8) : Ct l yX0_countUsersIn cX0_countUsersIn 2 (some .int) rm_X0_countUsersIn Θ [.ref (tR Θ 0 1), .int x] (G) (fR (some (.int (jBc (sUsersIn (G.2.1 0 2) (G.2.1 0 3) g x)))) G) := by
  refine ct_of (LS := [some (.ref (tR Θ 0 1)), some (.int x)]) hl (by decide +kernel) rfl (Nat.le_of_ble_eq_true rfl) rfl ?_
  intro p e s m args below meth c hC hr
  refine v_aload_n (i := 0) (q := 1) hC dX0_countUsersIn_0 rfl rfl rfl ?_
  refine v_iload_n (i := 1) (q := 2) hC dX0_countUsersIn_1 rfl rfl rfl ?_
  refine v_callV (q := 5) (rm := rm_X0_usersIn) hC (c_X0_usersIn hl Θ _ _ g hg hg8) k_X0_usersIn im_yX0_usersIn se_yX0_usersIn ml_RX0_49 dX0_countUsersIn_2 rfl rfl rfl rfl rfl rfl (Nat.le_of_ble_eq_true rfl) ⟨Nat.le_of_ble_eq_true rfl, Nat.le_of_ble_eq_true rfl⟩ ⟨Nat.le_of_ble_eq_true rfl, Nat.le_of_ble_eq_true rfl⟩ (fR_k ?_) fR_x (Nat.le_of_ble_eq_true rfl) (Nat.le_of_ble_eq_true rfl)
  try dsimp only [Option.toList, List.cons_append, List.nil_append]
  refine v_callS (q := 8) (rm := rm_J6_bitCount_0f7a4) hC (c_J6_bitCount_0f7a4 hl Θ _ _) k_J6_bitCount_0f7a4 st_yJ6_bitCount_0f7a4 ml_RX0_52 dX0_countUsersIn_5 rfl  rfl rfl (Nat.le_of_ble_eq_true rfl) ⟨Nat.le_of_ble_eq_true rfl, Nat.le_of_ble_eq_true rfl⟩ ⟨Nat.le_of_ble_eq_true rfl, Nat.le_of_ble_eq_true rfl⟩ (fR_k ?_) fR_x (Nat.le_of_ble_eq_true rfl) (Nat.le_of_ble_eq_true rfl)
  try dsimp only [Option.toList, List.cons_append, List.nil_append]
  refine v_iret hC dX0_countUsersIn_8 hr (rfl) ?_ (Nat.le_of_ble_eq_true rfl) (Nat.le_of_ble_eq_true rfl)
  exact ⟨rfl, rfl⟩
/-- Tree's loops -/
def lFree (t : Int32) : Nat → Nat → Int32
  | 0, _ => -1
  | n + 1, j => if jHas t (nI j) = true then lFree t n (j + 1) else nI j
set_option maxHeartbeats 4000000 in
set_option maxRecDepth 20000 in
theorem c_X10_lowestFree {l : Launch} (hl : l.stackTraces = false) (Θ : cTH) (G : GS) : Ct l yX10_lowestFree cX10_lowestFree 2 (some .int) rm_X10_lowestFree Θ [.ref (tR Θ 0 4)] (G) (fR (some (.int (lFree (G.1 0 4 0) 20 0))) G) := by
  refine ct_of (LS := [some (.ref (tR Θ 0 4)), none]) hl (by decide +kernel) rfl (Nat.le_of_ble_eq_true rfl) rfl ?_
  intro p e s m args below meth c hC hr
  have L : ∀ (n j : Nat), n + j = 20 → lFree (G.1 0 4 0) n j = lFree (G.1 0 4 0) 20 0 → V p l e rm_X10_lowestFree s m args below meth c 2 Θ (fR (some (.int (lFree (G.1 0 4 0) 20 0))) G) 0 0 0 0 2 [some (.ref (tR Θ 0 4)), some (.int (nI j))] [] (G) := by
    intro n
    induction n with
    | zero =>
      intro j h1 h2
      refine v_iload_n (i := 1) (q := 3) hC dX10_lowestFree_2 rfl rfl rfl ?_
      refine v_bipush (q := 5) (v := 20) hC dX10_lowestFree_3 rfl (by decide) ?_
      refine v_icmp_ge (q := 27) (q2 := 8) hC dX10_lowestFree_5 (by decide) rfl (fun c_5 => ?_) (fun c_5 => ?_)
      · refine v_iconst (q := 28) (v := (-1)) hC dX10_lowestFree_27 rfl (by decide) ?_
        refine v_iret hC dX10_lowestFree_28 hr (rfl) ?_ (Nat.le_of_ble_eq_true rfl) (Nat.le_of_ble_eq_true rfl)
        exact ⟨by rw [← h2, lFree], rfl⟩
      · exact absurd (by rw [show j = 20 by omega]; decide) c_5
    | succ n ih =>
      intro j h1 h2
      refine v_iload_n (i := 1) (q := 3) hC dX10_lowestFree_2 rfl rfl rfl ?_
      refine v_bipush (q := 5) (v := 20) hC dX10_lowestFree_3 rfl (by decide) ?_
      refine v_icmp_ge (q := 27) (q2 := 8) hC dX10_lowestFree_5 (by decide) rfl (fun c_5 => ?_) (fun c_5 => ?_)
      · exact absurd c_5 (by rw [show (20 : Int32) = nI 20 from rfl]; exact nI_ge (by omega) (by omega))
      · refine v_aload_n (i := 0) (q := 9) hC dX10_lowestFree_8 rfl rfl rfl ?_
        refine g_X10_0 (q := 12) hC dX10_lowestFree_9 rfl rfl fl_RX10_9 ?_
        refine v_iload_n (i := 1) (q := 13) hC dX10_lowestFree_12 rfl rfl rfl ?_
        refine v_callN (q := 16) (rm := rm_X11_has) hC (c_X11_has hl Θ _ _ _) k_X11_has st_yX11_has nl_RX10_40 dX10_lowestFree_13 rfl  rfl rfl (Nat.le_of_ble_eq_true rfl) ⟨Nat.le_of_ble_eq_true rfl, Nat.le_of_ble_eq_true rfl⟩ ⟨Nat.le_of_ble_eq_true rfl, Nat.le_of_ble_eq_true rfl⟩ (fR_k ?_) fR_x (Nat.le_of_ble_eq_true rfl) (Nat.le_of_ble_eq_true rfl)
        try dsimp only [Option.toList, List.cons_append, List.nil_append]
        refine v_ifb_ne (q := 21) (q2 := 19) hC dX10_lowestFree_16 (by decide) rfl (fun c_16 => ?_) (fun c_16 => ?_)
        · refine v_iinc (q := 24) (v := nI (j + 1)) hC dX10_lowestFree_21 rfl rfl (nI_1 j) (lvc rfl) (Nat.le_of_ble_eq_true rfl) (Nat.le_of_ble_eq_true rfl) rfl ?_
          refine v_goto (q := 2) hC dX10_lowestFree_24 (by decide) ?_
          exact ih (j + 1) (by omega) (by rw [← h2, lFree, if_pos c_16])
        · refine v_iload_n (i := 1) (q := 20) hC dX10_lowestFree_19 rfl rfl rfl ?_
          refine v_iret hC dX10_lowestFree_20 hr (rfl) ?_ (Nat.le_of_ble_eq_true rfl) (Nat.le_of_ble_eq_true rfl)
          exact ⟨by rw [← h2, lFree, if_neg (by rw [c_16]; decide)], rfl⟩
  refine v_iconst (q := 1) (v := 0) hC dX10_lowestFree_0 rfl (by decide) ?_
  refine v_istore_n (i := 1) (q := 2) hC dX10_lowestFree_1 rfl rfl (lvc rfl) (Nat.le_of_ble_eq_true rfl) (Nat.le_of_ble_eq_true rfl) rfl ?_
  exact L 20 0 rfl rfl
def udr (par : Int32 → Int32) (up : Int32) : Nat → Int32 → Bool
  | 0, _ => false
  | n + 1, x => if x = -1 then false else if x = up then true else udr par up n (par x)
def sUnder (t : Int32) (w : Nat → Int32) (o up : Int32) : Bool := udr (fun x => tAt t w x (-1)) up 20 (tAt t w o (-1))
set_option maxHeartbeats 4000000 in
set_option maxRecDepth 20000 in
theorem c_X10_isUnder {l : Launch} (hl : l.stackTraces = false) (Θ : cTH) (o up : Int32) (G : GS) : Ct l yX10_isUnder cX10_isUnder 5 (some .boolean) rm_X10_isUnder Θ [.ref (tR Θ 0 4), .int o, .int up] (G) (fR (some (.int (b2i (sUnder (G.1 0 4 0) (G.2.1 0 5) o up)))) G) := by
  refine ct_of (LS := [some (.ref (tR Θ 0 4)), some (.int o), some (.int up), none, none]) hl (by decide +kernel) rfl (Nat.le_of_ble_eq_true rfl) rfl ?_
  intro p e s m args below meth c hC hr
  have L : ∀ (n j : Nat) (x : Int32), n + j = 20 → udr (fun x => tAt (G.1 0 4 0) (G.2.1 0 5) x (-1)) up n x = sUnder (G.1 0 4 0) (G.2.1 0 5) o up → V p l e rm_X10_isUnder s m args below meth c 5 Θ (fR (some (.int (b2i (sUnder (G.1 0 4 0) (G.2.1 0 5) o up)))) G) 0 0 0 0 9 [some (.ref (tR Θ 0 4)), some (.int o), some (.int up), some (.int x), some (.int (nI j))] [] (G) := by
    intro n
    induction n with
    | zero =>
      intro j x h1 h2
      refine v_iload (q := 11) hC dX10_isUnder_9 rfl rfl ?_
      refine v_bipush (q := 13) (v := 20) hC dX10_isUnder_11 rfl (by decide) ?_
      refine v_icmp_ge (q := 40) (q2 := 16) hC dX10_isUnder_13 (by decide) rfl (fun c_13 => ?_) (fun c_13 => ?_)
      · refine v_iconst (q := 41) (v := 0) hC dX10_isUnder_40 rfl (by decide) ?_
        refine v_iret hC dX10_isUnder_41 hr (by first | rfl | exact nar_b) ?_ (Nat.le_of_ble_eq_true rfl) (Nat.le_of_ble_eq_true rfl)
        exact ⟨by rw [← h2, udr]; rfl, rfl⟩
      · exact absurd (by rw [show j = 20 by omega]; decide) c_13
    | succ n ih =>
      intro j x h1 h2
      refine v_iload (q := 11) hC dX10_isUnder_9 rfl rfl ?_
      refine v_bipush (q := 13) (v := 20) hC dX10_isUnder_11 rfl (by decide) ?_
      refine v_icmp_ge (q := 40) (q2 := 16) hC dX10_isUnder_13 (by decide) rfl (fun c_13 => ?_) (fun c_13 => ?_)
      · exact absurd c_13 (by rw [show (20 : Int32) = nI 20 from rfl]; exact nI_ge (by omega) (by omega))
      · refine v_iload_n (i := 3) (q := 17) hC dX10_isUnder_16 rfl rfl rfl ?_
        refine v_iconst (q := 18) (v := (-1)) hC dX10_isUnder_17 rfl (by decide) ?_
        refine v_icmp_eq (q := 40) (q2 := 21) hC dX10_isUnder_18 (by decide) rfl (fun c_18 => ?_) (fun c_18 => ?_)
        · refine v_iconst (q := 41) (v := 0) hC dX10_isUnder_40 rfl (by decide) ?_
          refine v_iret hC dX10_isUnder_41 hr (by first | rfl | exact nar_b) ?_ (Nat.le_of_ble_eq_true rfl) (Nat.le_of_ble_eq_true rfl)
          exact ⟨by rw [← h2, udr, if_pos c_18]; rfl, rfl⟩
        · refine v_iload_n (i := 3) (q := 22) hC dX10_isUnder_21 rfl rfl rfl ?_
          refine v_iload_n (i := 2) (q := 23) hC dX10_isUnder_22 rfl rfl rfl ?_
          refine v_icmp_ne (q := 28) (q2 := 26) hC dX10_isUnder_23 (by decide) rfl (fun c_23 => ?_) (fun c_23 => ?_)
          · refine v_aload_n (i := 0) (q := 29) hC dX10_isUnder_28 rfl rfl rfl ?_
            refine v_iload_n (i := 3) (q := 30) hC dX10_isUnder_29 rfl rfl rfl ?_
            refine v_callV (q := 33) (rm := rm_X10_parentAt) hC (c_X10_parentAt hl Θ _ _) k_X10_parentAt im_yX10_parentAt se_yX10_parentAt ml_RX10_72 dX10_isUnder_30 rfl rfl rfl rfl rfl rfl (Nat.le_of_ble_eq_true rfl) ⟨Nat.le_of_ble_eq_true rfl, Nat.le_of_ble_eq_true rfl⟩ ⟨Nat.le_of_ble_eq_true rfl, Nat.le_of_ble_eq_true rfl⟩ (fR_k ?_) fR_x (Nat.le_of_ble_eq_true rfl) (Nat.le_of_ble_eq_true rfl)
            try dsimp only [Option.toList, List.cons_append, List.nil_append]
            refine v_istore_n (i := 3) (q := 34) hC dX10_isUnder_33 rfl rfl (lvc rfl) (Nat.le_of_ble_eq_true rfl) (Nat.le_of_ble_eq_true rfl) rfl ?_
            refine v_iinc (q := 37) (v := nI (j + 1)) hC dX10_isUnder_34 rfl rfl (nI_1 j) (lvc rfl) (Nat.le_of_ble_eq_true rfl) (Nat.le_of_ble_eq_true rfl) rfl ?_
            refine v_goto (q := 9) hC dX10_isUnder_37 (by decide) ?_
            exact ih (j + 1) _ (by omega) (by rw [← h2, udr, if_neg c_18, if_neg c_23])
          · refine v_iconst (q := 27) (v := 1) hC dX10_isUnder_26 rfl (by decide) ?_
            refine v_iret hC dX10_isUnder_27 hr (by first | rfl | exact nar_b) ?_ (Nat.le_of_ble_eq_true rfl) (Nat.le_of_ble_eq_true rfl)
            exact ⟨by rw [← h2, udr, if_neg c_18, if_pos c_23]; rfl, rfl⟩
  refine v_aload_n (i := 0) (q := 1) hC dX10_isUnder_0 rfl rfl rfl ?_
  refine v_iload_n (i := 1) (q := 2) hC dX10_isUnder_1 rfl rfl rfl ?_
  refine v_callV (q := 5) (rm := rm_X10_parentAt) hC (c_X10_parentAt hl Θ _ _) k_X10_parentAt im_yX10_parentAt se_yX10_parentAt ml_RX10_72 dX10_isUnder_2 rfl rfl rfl rfl rfl rfl (Nat.le_of_ble_eq_true rfl) ⟨Nat.le_of_ble_eq_true rfl, Nat.le_of_ble_eq_true rfl⟩ ⟨Nat.le_of_ble_eq_true rfl, Nat.le_of_ble_eq_true rfl⟩ (fR_k ?_) fR_x (Nat.le_of_ble_eq_true rfl) (Nat.le_of_ble_eq_true rfl)
  try dsimp only [Option.toList, List.cons_append, List.nil_append]
  refine v_istore_n (i := 3) (q := 6) hC dX10_isUnder_5 rfl rfl (lvc rfl) (Nat.le_of_ble_eq_true rfl) (Nat.le_of_ble_eq_true rfl) rfl ?_
  refine v_iconst (q := 7) (v := 0) hC dX10_isUnder_6 rfl (by decide) ?_
  refine v_istore (q := 9) hC dX10_isUnder_7 rfl (lvc rfl) (Nat.le_of_ble_eq_true rfl) (Nat.le_of_ble_eq_true rfl) rfl ?_
  exact L 20 0 _ rfl rfl
def cUnd (t : Int32) (w : Nat → Int32) (up : Int32) : Nat → Nat → Int32 → Int32
  | 0, _, k => k
  | n + 1, j, k => cUnd t w up n (j + 1) (if sUnder t w (nI j) up = true then k + 1 else k)
set_option maxHeartbeats 4000000 in
set_option maxRecDepth 20000 in
theorem c_X10_countUnder {l : Launch} (hl : l.stackTraces = false) (Θ : cTH) (up : Int32) (G : GS) : Ct l yX10_countUnder cX10_countUnder 4 (some .int) rm_X10_countUnder Θ [.ref (tR Θ 0 4), .int up] (G) (fR (some (.int (cUnd (G.1 0 4 0) (G.2.1 0 5) up 20 0 0))) G) := by
  refine ct_of (LS := [some (.ref (tR Θ 0 4)), some (.int up), none, none]) hl (by decide +kernel) rfl (Nat.le_of_ble_eq_true rfl) rfl ?_
  intro p e s m args below meth c hC hr
  have L : ∀ (n j : Nat) (x : Int32), n + j = 20 → cUnd (G.1 0 4 0) (G.2.1 0 5) up n j x = cUnd (G.1 0 4 0) (G.2.1 0 5) up 20 0 0 → V p l e rm_X10_countUnder s m args below meth c 4 Θ (fR (some (.int (cUnd (G.1 0 4 0) (G.2.1 0 5) up 20 0 0))) G) 0 0 0 0 4 [some (.ref (tR Θ 0 4)), some (.int up), some (.int x), some (.int (nI j))] [] (G) := by
    intro n
    induction n with
    | zero =>
      intro j x h1 h2
      refine v_iload_n (i := 3) (q := 5) hC dX10_countUnder_4 rfl rfl rfl ?_
      refine v_bipush (q := 7) (v := 20) hC dX10_countUnder_5 rfl (by decide) ?_
      refine v_icmp_ge (q := 28) (q2 := 10) hC dX10_countUnder_7 (by decide) rfl (fun c_7 => ?_) (fun c_7 => ?_)
      · refine v_iload_n (i := 2) (q := 29) hC dX10_countUnder_28 rfl rfl rfl ?_
        refine v_iret hC dX10_countUnder_29 hr (rfl) ?_ (Nat.le_of_ble_eq_true rfl) (Nat.le_of_ble_eq_true rfl)
        exact ⟨by rw [← h2, cUnd], rfl⟩
      · exact absurd (by rw [show j = 20 by omega]; decide) c_7
    | succ n ih =>
      intro j x h1 h2
      refine v_iload_n (i := 3) (q := 5) hC dX10_countUnder_4 rfl rfl rfl ?_
      refine v_bipush (q := 7) (v := 20) hC dX10_countUnder_5 rfl (by decide) ?_
      refine v_icmp_ge (q := 28) (q2 := 10) hC dX10_countUnder_7 (by decide) rfl (fun c_7 => ?_) (fun c_7 => ?_)
      · exact absurd c_7 (by rw [show (20 : Int32) = nI 20 from rfl]; exact nI_ge (by omega) (by omega))
      · refine v_aload_n (i := 0) (q := 11) hC dX10_countUnder_10 rfl rfl rfl ?_
        refine v_iload_n (i := 3) (q := 12) hC dX10_countUnder_11 rfl rfl rfl ?_
        refine v_iload_n (i := 1) (q := 13) hC dX10_countUnder_12 rfl rfl rfl ?_
        refine v_callV (q := 16) (rm := rm_X10_isUnder) hC (c_X10_isUnder hl Θ _ _ _) k_X10_isUnder im_yX10_isUnder se_yX10_isUnder ml_RX10_75 dX10_countUnder_13 rfl rfl rfl rfl rfl rfl (Nat.le_of_ble_eq_true rfl) ⟨Nat.le_of_ble_eq_true rfl, Nat.le_of_ble_eq_true rfl⟩ ⟨Nat.le_of_ble_eq_true rfl, Nat.le_of_ble_eq_true rfl⟩ (fR_k ?_) fR_x (Nat.le_of_ble_eq_true rfl) (Nat.le_of_ble_eq_true rfl)
        try dsimp only [Option.toList, List.cons_append, List.nil_append]
        refine v_ifb_eq (q := 22) (q2 := 19) hC dX10_countUnder_16 (by decide) rfl (fun c_16 => ?_) (fun c_16 => ?_)
        · refine v_iinc (q := 25) (v := nI (j + 1)) hC dX10_countUnder_22 rfl rfl (nI_1 j) (lvc rfl) (Nat.le_of_ble_eq_true rfl) (Nat.le_of_ble_eq_true rfl) rfl ?_
          refine v_goto (q := 4) hC dX10_countUnder_25 (by decide) ?_
          exact ih (j + 1) _ (by omega) (by rw [← h2, cUnd]; simp [c_16])
        · refine v_iinc (q := 22) hC dX10_countUnder_19 rfl rfl rfl (lvc rfl) (Nat.le_of_ble_eq_true rfl) (Nat.le_of_ble_eq_true rfl) rfl ?_
          refine v_iinc (q := 25) (v := nI (j + 1)) hC dX10_countUnder_22 rfl rfl (nI_1 j) (lvc rfl) (Nat.le_of_ble_eq_true rfl) (Nat.le_of_ble_eq_true rfl) rfl ?_
          refine v_goto (q := 4) hC dX10_countUnder_25 (by decide) ?_
          exact ih (j + 1) _ (by omega) (by rw [← h2, cUnd]; simp [c_16])
  refine v_iconst (q := 1) (v := 0) hC dX10_countUnder_0 rfl (by decide) ?_
  refine v_istore_n (i := 2) (q := 2) hC dX10_countUnder_1 rfl rfl (lvc rfl) (Nat.le_of_ble_eq_true rfl) (Nat.le_of_ble_eq_true rfl) rfl ?_
  refine v_iconst (q := 3) (v := 0) hC dX10_countUnder_2 rfl (by decide) ?_
  refine v_istore_n (i := 3) (q := 4) hC dX10_countUnder_3 rfl rfl (lvc rfl) (Nat.le_of_ble_eq_true rfl) (Nat.le_of_ble_eq_true rfl) rfl ?_
  exact L 20 0 0 rfl rfl
