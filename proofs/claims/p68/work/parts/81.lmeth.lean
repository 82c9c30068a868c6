/-! The law's own helpers, over the rows of its world: sets of groups and users, what lies under an object. -/
theorem has_01 (x k : Int32) : (x >>> (k &&& 31)) &&& 1 = if mHas x k = true then 1 else 0 := by
  unfold mHas
  cases hb : bt (x >>> (k &&& 31)) 0 with
  | true =>
    have h1 := (b_one _).mpr hb
    rw [h1]; rfl
  | false =>
    have h1 := (b_z _).mpr hb
    rw [h1]; rfl
set_option maxHeartbeats 4000000 in
set_option maxRecDepth 20000 in
theorem c_L_has {l : Launch} (hl : l.stackTraces = false) (Θ : cTH) (x k : Int32) (G : GS) : Ct l yL_has cL_has 2 (some .boolean) rm_L_has Θ [.int x, .int k] (G) (fR (some (.int (b2i (mHas x k)))) G) := by
  refine ct_of (LS := [some (.int x), some (.int k)]) hl (by decide +kernel) rfl (Nat.le_of_ble_eq_true rfl) rfl ?_
  intro p e s m args below meth c hC hr
  refine v_iload_n (i := 0) (q := 1) hC dL_has_0 rfl rfl rfl ?_
  refine v_iload_n (i := 1) (q := 2) hC dL_has_1 rfl rfl rfl ?_
  refine v_ishr (q := 3) hC dL_has_2 rfl ?_
  refine v_iconst (q := 4) (v := 1) hC dL_has_3 rfl (by decide) ?_
  refine v_iand (q := 5) hC dL_has_4 rfl ?_
  refine v_iconst (q := 6) (v := 1) hC dL_has_5 rfl (by decide) ?_
  refine v_icmp_ne (q := 13) (q2 := 9) hC dL_has_6 (by decide) rfl (fun c_6 => ?_) (fun c_6 => ?_)
  · refine v_iconst (q := 14) (v := 0) hC dL_has_13 rfl (by decide) ?_
    refine v_iret hC dL_has_14 hr (by first | rfl | exact nar_b) ?_ (Nat.le_of_ble_eq_true rfl) (Nat.le_of_ble_eq_true rfl)
    exact ⟨by simp_all [mHas, b2i], rfl⟩
  · refine v_iconst (q := 10) (v := 1) hC dL_has_9 rfl (by decide) ?_
    refine v_goto (q := 14) hC dL_has_10 (by decide) ?_
    refine v_iret hC dL_has_14 hr (by first | rfl | exact nar_b) ?_ (Nat.le_of_ble_eq_true rfl) (Nat.le_of_ble_eq_true rfl)
    exact ⟨by simp_all [mHas, b2i], rfl⟩
set_option maxHeartbeats 4000000 in
set_option maxRecDepth 20000 in
theorem c_L_many {l : Launch} (hl : l.stackTraces = false) (Θ : cTH) (x : Int32) (G : GS) : Ct l yL_many cL_many 3 (some .int) rm_L_many Θ [.int x] (G) (fR (some (.int (mSz x 20 0 0))) G) := by
  refine ct_of (LS := [some (.int x), none, none]) hl (by decide +kernel) rfl (Nat.le_of_ble_eq_true rfl) rfl ?_
  intro p e s m args below meth c hC hr
  have L : ∀ (n j : Nat) (t : Int32), n + j = 20 → mSz x n j t = mSz x 20 0 0 → V p l e rm_L_many s m args below meth c 3 Θ (fR (some (.int (mSz x 20 0 0))) G) 0 0 0 0 4 [some (.int x), some (.int t), some (.int (nI j))] [] (G) := by
    intro n
    induction n with
    | zero =>
      intro j t h1 h2
      refine v_iload_n (i := 2) (q := 5) hC dL_many_4 rfl rfl rfl ?_
      refine v_bipush (q := 7) (v := 20) hC dL_many_5 rfl (by decide) ?_
      refine v_icmp_ge (q := 24) (q2 := 10) hC dL_many_7 (by decide) rfl (fun c_7 => ?_) (fun c_7 => ?_)
      · refine v_iload_n (i := 1) (q := 25) hC dL_many_24 rfl rfl rfl ?_
        refine v_iret hC dL_many_25 hr (rfl) ?_ (Nat.le_of_ble_eq_true rfl) (Nat.le_of_ble_eq_true rfl)
        exact ⟨by rw [← h2, mSz], rfl⟩
      · exact absurd (by rw [show j = 20 by omega]; decide) c_7
    | succ n ih =>
      intro j t h1 h2
      rw [mSz] at h2
      refine v_iload_n (i := 2) (q := 5) hC dL_many_4 rfl rfl rfl ?_
      refine v_bipush (q := 7) (v := 20) hC dL_many_5 rfl (by decide) ?_
      refine v_icmp_ge (q := 24) (q2 := 10) hC dL_many_7 (by decide) rfl (fun c_7 => ?_) (fun c_7 => ?_)
      · exact absurd c_7 (by rw [show (20 : Int32) = nI 20 from rfl]; exact nI_ge (by omega) (by omega))
      · refine v_iload_n (i := 1) (q := 11) hC dL_many_10 rfl rfl rfl ?_
        refine v_iload_n (i := 0) (q := 12) hC dL_many_11 rfl rfl rfl ?_
        refine v_iload_n (i := 2) (q := 13) hC dL_many_12 rfl rfl rfl ?_
        refine v_ishr (q := 14) hC dL_many_13 rfl ?_
        refine v_iconst (q := 15) (v := 1) hC dL_many_14 rfl (by decide) ?_
        refine v_iand (q := 16) hC dL_many_15 rfl ?_
        refine v_iadd (q := 17) hC dL_many_16 rfl ?_
        refine v_istore_n (i := 1) (q := 18) hC dL_many_17 rfl rfl (lvc rfl) (Nat.le_of_ble_eq_true rfl) (Nat.le_of_ble_eq_true rfl) rfl ?_
        refine v_iinc (q := 21) (v := nI (j + 1)) hC dL_many_18 rfl rfl (nI_1 j) (lvc rfl) (Nat.le_of_ble_eq_true rfl) (Nat.le_of_ble_eq_true rfl) rfl ?_
        refine v_goto (q := 4) hC dL_many_21 (by decide) ?_
        refine ih (j + 1) _ (by omega) ?_
        rw [← h2, has_01]
  refine v_iconst (q := 1) (v := 0) hC dL_many_0 rfl (by decide) ?_
  refine v_istore_n (i := 1) (q := 2) hC dL_many_1 rfl rfl (lvc rfl) (Nat.le_of_ble_eq_true rfl) (Nat.le_of_ble_eq_true rfl) rfl ?_
  refine v_iconst (q := 3) (v := 0) hC dL_many_2 rfl (by decide) ?_
  refine v_istore_n (i := 2) (q := 4) hC dL_many_3 rfl rfl (lvc rfl) (Nat.le_of_ble_eq_true rfl) (Nat.le_of_ble_eq_true rfl) rfl ?_
  exact L 20 0 0 rfl rfl
/-- the law's row of groups, as the closing rows want it -/
def lW (m : Nat → Int32) : Nat → Int32 := fun x => m (x - 2)
theorem lW_at (m : Nat → Int32) (j : Nat) : lW m (10 + j) = m (8 + j) := by
  unfold lW
  rw [show 10 + j - 2 = 8 + j by omega]
/-- a group and all within it -/
def lWi (m : Nat → Int32) (g : Nat) : Int32 := mOR (lW m) 8 ((1 : Int32) <<< (nI g &&& 31))
theorem lW_lt {m : Nat → Int32} (hm : ∀ a, a < 8 → bLt (m (8 + a)) 8) : ∀ a, a < 8 → bLt (lW m (10 + a)) 8 := fun a ha => by rw [lW_at]; exact hm a ha
theorem bLt_p {g : Nat} (hg : g < 8) : bLt ((1 : Int32) <<< (nI g &&& 31)) 8 := by
  intro i hi
  by_cases h : i < 32
  · rw [b_p g (by omega) h]
    exact decide_eq_false (by omega)
  · exact b_big (by omega)
set_option maxHeartbeats 4000000 in
set_option maxRecDepth 20000 in
theorem c_L_within {l : Launch} (hl : l.stackTraces = false) (Θ : cTH) (g : Nat) (G : GS) (hg : g < 8) (hm : ∀ a, a < 8 → bLt (G.2.1 0 40 (8 + a)) 8) : Ct l yL_within cL_within 5 (some .int) rm_L_within Θ [.ref (tR Θ 0 40), .int (nI g)] (G) (fR (some (.int (lWi (G.2.1 0 40) g))) G) := by
  refine ct_of (LS := [some (.ref (tR Θ 0 40)), some (.int (nI g)), none, none, none]) hl (by decide +kernel) rfl (Nat.le_of_ble_eq_true rfl) rfl ?_
  intro p e s m args below meth c hC hr
  have hw := lW_lt hm
  -- the end
  have E : ∀ (x : Int32) (x4 : Option Value), x = lWi (G.2.1 0 40) g → V p l e rm_L_within s m args below meth c 5 Θ (fR (some (.int (lWi (G.2.1 0 40) g))) G) 0 0 0 0 6 [some (.ref (tR Θ 0 40)), some (.int (nI g)), some (.int x), some (.int x), x4] [] (G) := by
    intro x x4 h1
    refine v_iload_n (i := 3) (q := 7) hC dL_within_6 rfl rfl rfl ?_
    refine v_iload_n (i := 2) (q := 8) hC dL_within_7 rfl rfl rfl ?_
    refine v_icmp_eq (q := 55) (q2 := 11) hC dL_within_8 (by decide) rfl (fun c_8 => ?_) (fun c_8 => ?_)
    · refine v_iload_n (i := 2) (q := 56) hC dL_within_55 rfl rfl rfl ?_
      refine v_iret hC dL_within_56 hr (rfl) ?_ (Nat.le_of_ble_eq_true rfl) (Nat.le_of_ble_eq_true rfl)
      exact ⟨by rw [h1], rfl⟩
    · exact absurd rfl c_8
  -- one pass
  have P : ∀ (x y : Int32) (x4 : Option Value), ¬ y = x → V p l e rm_L_within s m args below meth c 5 Θ (fR (some (.int (lWi (G.2.1 0 40) g))) G) 0 0 0 0 6 [some (.ref (tR Θ 0 40)), some (.int (nI g)), some (.int (mOK (lW (G.2.1 0 40)) 8 0 x)), some (.int x), some (.int (nI 8))] [] (G) → V p l e rm_L_within s m args below meth c 5 Θ (fR (some (.int (lWi (G.2.1 0 40) g))) G) 0 0 0 0 6 [some (.ref (tR Θ 0 40)), some (.int (nI g)), some (.int x), some (.int y), x4] [] (G) := by
    intro x y x4 hne kk
    have L2 : ∀ (n2 j2 : Nat) (x2 : Int32), n2 + j2 = 8 → mOK (lW (G.2.1 0 40)) n2 j2 x2 = mOK (lW (G.2.1 0 40)) 8 0 x → V p l e rm_L_within s m args below meth c 5 Θ (fR (some (.int (lWi (G.2.1 0 40) g))) G) 0 0 0 0 16 [some (.ref (tR Θ 0 40)), some (.int (nI g)), some (.int x2), some (.int x), some (.int (nI j2))] [] (G) := by
      intro n2
      induction n2 with
      | zero =>
        intro j2 x2 h4 h5
        have h8 : j2 = 8 := by omega
        subst h8
        rw [mOK] at h5
        subst h5
        refine v_iload (q := 18) hC dL_within_16 rfl rfl ?_
        refine v_bipush (q := 20) (v := 8) hC dL_within_18 rfl (by decide) ?_
        refine v_icmp_ge (q := 52) (q2 := 23) hC dL_within_20 (by decide) rfl (fun c_20 => ?_) (fun c_20 => ?_)
        · refine v_goto (q := 6) hC dL_within_52 (by decide) ?_
          exact kk
        · exact absurd (by decide) c_20
      | succ n2 ih2 =>
        intro j2 x2 h4 h5
        rw [mOK, lW_at] at h5
        refine v_iload (q := 18) hC dL_within_16 rfl rfl ?_
        refine v_bipush (q := 20) (v := 8) hC dL_within_18 rfl (by decide) ?_
        refine v_icmp_ge (q := 52) (q2 := 23) hC dL_within_20 (by decide) rfl (fun c_20 => ?_) (fun c_20 => ?_)
        · exact absurd c_20 (by rw [show (8 : Int32) = nI 8 from rfl]; exact nI_ge (by omega) (by omega))
        · refine v_iload_n (i := 2) (q := 24) hC dL_within_23 rfl rfl rfl ?_
          refine v_iload_n (i := 2) (q := 25) hC dL_within_24 rfl rfl rfl ?_
          refine v_iload (q := 27) hC dL_within_25 rfl rfl ?_
          refine v_callSN (q := 30) (rm := rm_L_has) hC (c_L_has hl Θ _ _ _) k_L_has st_yL_has ml_RL_172 dL_within_27 rfl rfl rfl (Nat.le_of_ble_eq_true rfl) ⟨Nat.le_of_ble_eq_true rfl, Nat.le_of_ble_eq_true rfl⟩ (c1 := 0) (s1 := 0) rfl rfl ⟨Nat.le_of_ble_eq_true rfl, Nat.le_of_ble_eq_true rfl⟩ (fR_k ?_) fR_n
          try dsimp only [Option.toList, List.cons_append, List.nil_append]
          refine v_ifb_eq (q := 43) (q2 := 33) hC dL_within_30 (by decide) rfl (fun c_30 => ?_) (fun c_30 => ?_)
          · refine v_iconst (q := 44) (v := 0) hC dL_within_43 rfl (by decide) ?_
            refine v_ior (q := 45) hC dL_within_44 rfl ?_
            refine v_istore_n (i := 2) (q := 46) hC dL_within_45 rfl rfl (lvc rfl) (Nat.le_of_ble_eq_true rfl) (Nat.le_of_ble_eq_true rfl) rfl ?_
            refine v_iinc (q := 49) (v := nI (j2 + 1)) hC dL_within_46 rfl rfl (nI_1 j2) (lvc rfl) (Nat.le_of_ble_eq_true rfl) (Nat.le_of_ble_eq_true rfl) rfl ?_
            refine v_goto (q := 16) hC dL_within_49 (by decide) ?_
            refine ih2 (j2 + 1) _ (by omega) ?_
            rw [← h5]
            first | rw [if_pos c_30] | rw [if_neg (by rw [c_30]; decide)]
          · refine v_aload_n (i := 0) (q := 34) hC dL_within_33 rfl rfl rfl ?_
            refine v_bipush (q := 36) (v := 8) hC dL_within_34 rfl (by decide) ?_
            refine v_iload (q := 38) hC dL_within_36 rfl rfl ?_
            refine v_iadd (q := 39) hC dL_within_38 rfl ?_
            refine v_ialdN (q := 40) hC dL_within_39 rfl rfl rfl (i := 8 + j2) (nI_add 8 j2) (by first | decide | omega | (unfold oA; omega) | (unfold enA; omega)) (by decide) ?_
            refine v_goto (q := 44) hC dL_within_40 (by decide) ?_
            refine v_ior (q := 45) hC dL_within_44 rfl ?_
            refine v_istore_n (i := 2) (q := 46) hC dL_within_45 rfl rfl (lvc rfl) (Nat.le_of_ble_eq_true rfl) (Nat.le_of_ble_eq_true rfl) rfl ?_
            refine v_iinc (q := 49) (v := nI (j2 + 1)) hC dL_within_46 rfl rfl (nI_1 j2) (lvc rfl) (Nat.le_of_ble_eq_true rfl) (Nat.le_of_ble_eq_true rfl) rfl ?_
            refine v_goto (q := 16) hC dL_within_49 (by decide) ?_
            refine ih2 (j2 + 1) _ (by omega) ?_
            rw [← h5]
            first | rw [if_pos c_30] | rw [if_neg (by rw [c_30]; decide)]
    refine v_iload_n (i := 3) (q := 7) hC dL_within_6 rfl rfl rfl ?_
    refine v_iload_n (i := 2) (q := 8) hC dL_within_7 rfl rfl rfl ?_
    refine v_icmp_eq (q := 55) (q2 := 11) hC dL_within_8 (by decide) rfl (fun c_8 => ?_) (fun c_8 => ?_)
    · exact absurd c_8 hne
    · refine v_iload_n (i := 2) (q := 12) hC dL_within_11 rfl rfl rfl ?_
      refine v_istore_n (i := 3) (q := 13) hC dL_within_12 rfl rfl (lvc rfl) (Nat.le_of_ble_eq_true rfl) (Nat.le_of_ble_eq_true rfl) rfl ?_
      refine v_iconst (q := 14) (v := 0) hC dL_within_13 rfl (by decide) ?_
      refine v_istore (q := 16) hC dL_within_14 rfl (lvc rfl) (Nat.le_of_ble_eq_true rfl) (Nat.le_of_ble_eq_true rfl) rfl ?_
      exact L2 8 0 x rfl rfl
  have L : ∀ (n : Nat) (x y : Int32) (x4 : Option Value), bLt x 8 → 8 ≤ cF (bt x) 8 0 + n → (y = x → mOK (lW (G.2.1 0 40)) 8 0 x = x) → mOR (lW (G.2.1 0 40)) n x = lWi (G.2.1 0 40) g → V p l e rm_L_within s m args below meth c 5 Θ (fR (some (.int (lWi (G.2.1 0 40) g))) G) 0 0 0 0 6 [some (.ref (tR Θ 0 40)), some (.int (nI g)), some (.int x), some (.int y), x4] [] (G) := by
    intro n
    induction n with
    | zero =>
      intro x y x4 hx hc hy h2
      by_cases hyx : y = x
      · subst hyx
        exact E _ _ (by rw [← h2, mOR_fix _ (hy rfl)])
      · refine P x y x4 hyx ?_
        by_cases hf : mOK (lW (G.2.1 0 40)) 8 0 x = x
        · rw [hf]
          exact E _ _ (by rw [← h2, mOR_fix _ hf])
        · have h3 := grow_cnt (mOK_grow (lW (G.2.1 0 40)) hw x) hx hf
          have h4 := cF_le (bt (mOK (lW (G.2.1 0 40)) 8 0 x)) 8 0
          omega
    | succ n ih =>
      intro x y x4 hx hc hy h2
      by_cases hyx : y = x
      · subst hyx
        exact E _ _ (by rw [← h2, mOR_fix _ (hy rfl)])
      · refine P x y x4 hyx ?_
        by_cases hf : mOK (lW (G.2.1 0 40)) 8 0 x = x
        · rw [hf]
          exact E _ _ (by rw [← h2, mOR_fix _ hf])
        · have h3 := grow_cnt (mOK_grow (lW (G.2.1 0 40)) hw x) hx hf
          refine ih _ x _ (mOK_lt _ 8 0 x (by decide) hw hx) (by omega) (fun z => absurd z.symm hf) ?_
          rw [← h2, mOR]
  refine v_iconst (q := 1) (v := 1) hC dL_within_0 rfl (by decide) ?_
  refine v_iload_n (i := 1) (q := 2) hC dL_within_1 rfl rfl rfl ?_
  refine v_ishl (q := 3) hC dL_within_2 rfl ?_
  refine v_istore_n (i := 2) (q := 4) hC dL_within_3 rfl rfl (lvc rfl) (Nat.le_of_ble_eq_true rfl) (Nat.le_of_ble_eq_true rfl) rfl ?_
  refine v_iconst (q := 5) (v := 0) hC dL_within_4 rfl (by decide) ?_
  refine v_istore_n (i := 3) (q := 6) hC dL_within_5 rfl rfl (lvc rfl) (Nat.le_of_ble_eq_true rfl) (Nat.le_of_ble_eq_true rfl) rfl ?_
  refine L 8 _ 0 none (bLt_p hg) (by omega) (fun z => ?_) rfl
  exfalso
  have h9 := congrArg (fun q => bt q g) z
  try dsimp only at h9
  rw [b_0, b_p g (by omega) (by omega)] at h9
  simp at h9
/-- who belongs to a group, as a set -/
def lBo (m : Nat → Int32) (s : Int32) : Nat → Nat → Int32 → Int32
  | 0, _, x => x
  | n + 1, j, x => lBo m s n (j + 1) (x ||| (if mHas s (nI j) = true then m j else 0))
def lBe (m : Nat → Int32) (g : Nat) : Int32 := lBo m (lWi m g) 8 0 0
set_option maxHeartbeats 4000000 in
set_option maxRecDepth 20000 in
theorem c_L_belong {l : Launch} (hl : l.stackTraces = false) (Θ : cTH) (g : Nat) (G : GS) (hg : g < 8) (hm : ∀ a, a < 8 → bLt (G.2.1 0 40 (8 + a)) 8) : Ct l yL_belong cL_belong 5 (some .int) rm_L_belong Θ [.ref (tR Θ 0 40), .int (nI g)] (G) (fR (some (.int (lBe (G.2.1 0 40) g))) G) := by
  refine ct_of (LS := [some (.ref (tR Θ 0 40)), some (.int (nI g)), none, none, none]) hl (by decide +kernel) rfl (Nat.le_of_ble_eq_true rfl) rfl ?_
  intro p e s m args below meth c hC hr
  have L : ∀ (n j : Nat) (x : Int32), n + j = 8 → lBo (G.2.1 0 40) (lWi (G.2.1 0 40) g) n j x = lBe (G.2.1 0 40) g → V p l e rm_L_belong s m args below meth c 5 Θ (fR (some (.int (lBe (G.2.1 0 40) g))) G) 0 0 0 0 11 [some (.ref (tR Θ 0 40)), some (.int (nI g)), some (.int (lWi (G.2.1 0 40) g)), some (.int x), some (.int (nI j))] [] (G) := by
    intro n
    induction n with
    | zero =>
      intro j x h1 h2
      refine v_iload (q := 13) hC dL_belong_11 rfl rfl ?_
      refine v_bipush (q := 15) (v := 8) hC dL_belong_13 rfl (by decide) ?_
      refine v_icmp_ge (q := 44) (q2 := 18) hC dL_belong_15 (by decide) rfl (fun c_15 => ?_) (fun c_15 => ?_)
      · refine v_iload_n (i := 3) (q := 45) hC dL_belong_44 rfl rfl rfl ?_
        refine v_iret hC dL_belong_45 hr (rfl) ?_ (Nat.le_of_ble_eq_true rfl) (Nat.le_of_ble_eq_true rfl)
        exact ⟨by rw [← h2, lBo], rfl⟩
      · exact absurd (by rw [show j = 8 by omega]; decide) c_15
    | succ n ih =>
      intro j x h1 h2
      rw [lBo] at h2
      refine v_iload (q := 13) hC dL_belong_11 rfl rfl ?_
      refine v_bipush (q := 15) (v := 8) hC dL_belong_13 rfl (by decide) ?_
      refine v_icmp_ge (q := 44) (q2 := 18) hC dL_belong_15 (by decide) rfl (fun c_15 => ?_) (fun c_15 => ?_)
      · exact absurd c_15 (by rw [show (8 : Int32) = nI 8 from rfl]; exact nI_ge (by omega) (by omega))
      · refine v_iload_n (i := 3) (q := 19) hC dL_belong_18 rfl rfl rfl ?_
        refine v_iload_n (i := 2) (q := 20) hC dL_belong_19 rfl rfl rfl ?_
        refine v_iload (q := 22) hC dL_belong_20 rfl rfl ?_
        refine v_callSN (q := 25) (rm := rm_L_has) hC (c_L_has hl Θ _ _ _) k_L_has st_yL_has ml_RL_172 dL_belong_22 rfl rfl rfl (Nat.le_of_ble_eq_true rfl) ⟨Nat.le_of_ble_eq_true rfl, Nat.le_of_ble_eq_true rfl⟩ (c1 := 0) (s1 := 0) rfl rfl ⟨Nat.le_of_ble_eq_true rfl, Nat.le_of_ble_eq_true rfl⟩ (fR_k ?_) fR_n
        try dsimp only [Option.toList, List.cons_append, List.nil_append]
        refine v_ifb_eq (q := 35) (q2 := 28) hC dL_belong_25 (by decide) rfl (fun c_25 => ?_) (fun c_25 => ?_)
        · refine v_iconst (q := 36) (v := 0) hC dL_belong_35 rfl (by decide) ?_
          refine v_ior (q := 37) hC dL_belong_36 rfl ?_
          refine v_istore_n (i := 3) (q := 38) hC dL_belong_37 rfl rfl (lvc rfl) (Nat.le_of_ble_eq_true rfl) (Nat.le_of_ble_eq_true rfl) rfl ?_
          refine v_iinc (q := 41) (v := nI (j + 1)) hC dL_belong_38 rfl rfl (nI_1 j) (lvc rfl) (Nat.le_of_ble_eq_true rfl) (Nat.le_of_ble_eq_true rfl) rfl ?_
          refine v_goto (q := 11) hC dL_belong_41 (by decide) ?_
          refine ih (j + 1) _ (by omega) ?_
          rw [← h2]
          first | rw [if_pos c_25] | rw [if_neg (by rw [c_25]; decide)]
        · refine v_aload_n (i := 0) (q := 29) hC dL_belong_28 rfl rfl rfl ?_
          refine v_iload (q := 31) hC dL_belong_29 rfl rfl ?_
          refine v_ialdN (q := 32) hC dL_belong_31 rfl rfl rfl (i := j) (rfl) (by first | decide | omega | (unfold oA; omega) | (unfold enA; omega)) (by decide) ?_
          refine v_goto (q := 36) hC dL_belong_32 (by decide) ?_
          refine v_ior (q := 37) hC dL_belong_36 rfl ?_
          refine v_istore_n (i := 3) (q := 38) hC dL_belong_37 rfl rfl (lvc rfl) (Nat.le_of_ble_eq_true rfl) (Nat.le_of_ble_eq_true rfl) rfl ?_
          refine v_iinc (q := 41) (v := nI (j + 1)) hC dL_belong_38 rfl rfl (nI_1 j) (lvc rfl) (Nat.le_of_ble_eq_true rfl) (Nat.le_of_ble_eq_true rfl) rfl ?_
          refine v_goto (q := 11) hC dL_belong_41 (by decide) ?_
          refine ih (j + 1) _ (by omega) ?_
          rw [← h2]
          first | rw [if_pos c_25] | rw [if_neg (by rw [c_25]; decide)]
  refine v_aload_n (i := 0) (q := 1) hC dL_belong_0 rfl rfl rfl ?_
  refine v_iload_n (i := 1) (q := 2) hC dL_belong_1 rfl rfl rfl ?_
  refine v_callSN (q := 5) (rm := rm_L_within) hC (c_L_within hl Θ g _ hg hm) k_L_within st_yL_within ml_RL_177 dL_belong_2 rfl rfl rfl (Nat.le_of_ble_eq_true rfl) ⟨Nat.le_of_ble_eq_true rfl, Nat.le_of_ble_eq_true rfl⟩ (c1 := 0) (s1 := 0) rfl rfl ⟨Nat.le_of_ble_eq_true rfl, Nat.le_of_ble_eq_true rfl⟩ (fR_k ?_) fR_n
  try dsimp only [Option.toList, List.cons_append, List.nil_append]
  refine v_istore_n (i := 2) (q := 6) hC dL_belong_5 rfl rfl (lvc rfl) (Nat.le_of_ble_eq_true rfl) (Nat.le_of_ble_eq_true rfl) rfl ?_
  refine v_iconst (q := 7) (v := 0) hC dL_belong_6 rfl (by decide) ?_
  refine v_istore_n (i := 3) (q := 8) hC dL_belong_7 rfl rfl (lvc rfl) (Nat.le_of_ble_eq_true rfl) (Nat.le_of_ble_eq_true rfl) rfl ?_
  refine v_iconst (q := 9) (v := 0) hC dL_belong_8 rfl (by decide) ?_
  refine v_istore (q := 11) hC dL_belong_9 rfl (lvc rfl) (Nat.le_of_ble_eq_true rfl) (Nat.le_of_ble_eq_true rfl) rfl ?_
  exact L 8 0 0 rfl rfl
