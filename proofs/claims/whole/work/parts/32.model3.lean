/-! The reference: objects -/
theorem mUp_mWr (i : Nat) (x : Int32) (w : Nat → Int32) (G : GS) : mUp i x (mWr w G) = mWr (upd w i x) G := by
  unfold mUp
  rw [mWr_row]
  exact mWr_mWr _ _ _
section MROWS2
variable {p : Program} {l : Launch} {e : Env} {R : Room} {s : State} {m : MethodId} {args : Array Value} {below : List Frame} {meth : Method} {c : Code} {cc : ByteArray} {nL : Nat} {own : String} {Θ : cTH} {Qp : cOut → GS → Prop} {Q9 : State → Prop} {mc ms2 k n pc q : Nat} {LS : List (Option Value)} {rest : List Value} {G : GS}
theorem v_mwr (hC : cC p l s m args meth c cc nL own Θ) {i : Nat} {x v : Int32} {w : Nat → Int32} (d : decode cc pc = .ok (.iastore, 1)) (hq : pc + 1 = q) (hx : x = nI i) (hi : i < 765)
    (kk : VG p l e R s m args below meth c nL Θ Q9 k n q LS rest (mWr (upd w i v) G)) : VG p l e R s m args below meth c nL Θ Q9 k n pc LS (.int v :: .int x :: .ref (tR Θ 0 30) :: rest) (mWr w G) := v_mup hC d hq hx hi (by rw [mUp_mWr]; exact kk)
theorem gm_last (hC : cC p l s m args meth c cc nL own Θ) {x : Int32} {idx : Nat} (d : decode cc pc = .ok (.getfield idx, 3)) (hq : pc + 3 = q) (hid : okI (ms x G).2.2.1 0 29 = true) (hlk : Cond.fieldLink own idx "PermissionDeskModel" "last" "I" ∈ wALL) (kk : VG p l e R s m args below meth c nL Θ Q9 k n q LS (.int x :: rest) (ms x G)) : VG p l e R s m args below meth c nL Θ Q9 k n pc LS (.ref (tR Θ 0 29) :: rest) (ms x G) := g_X12_5 hC d hq hid hlk kk
end MROWS2
/-- n places of the object o emptied -/
def mZk (w : Nat → Int32) (o n : Nat) : Nat → Int32 := fun i => if oA o 0 ≤ i ∧ i < oA o 0 + n then 0 else w i
theorem mZk_0 (w : Nat → Int32) (o : Nat) : mZk w o 0 = w := by
  funext i
  rw [mZk, if_neg (by omega)]
theorem mZk_step (w : Nat → Int32) (o n : Nat) : upd (mZk w o n) (oA o n) 0 = mZk w o (n + 1) := by
  funext i
  unfold upd mZk oA
  by_cases h : i = 18 + 36 * o + n
  · subst h
    rw [if_pos rfl, if_pos (by omega)]
  · rw [if_neg h]
    by_cases h2 : 18 + 36 * o + 0 ≤ i ∧ i < 18 + 36 * o + 0 + n
    · rw [if_pos h2, if_pos (by omega)]
    · rw [if_neg h2, if_neg (by omega)]
def mFnd (w : Nat → Int32) (o : Nat) (pa ow : Int32) : Nat → Int32 := upd (upd (upd (upd (upd (mZk w o 36) (oA o 0) 1) (oA o 1) pa) (oA o 2) ow) (oA o 3) 15) (oA o 4) 1
set_option maxHeartbeats 4000000 in
set_option maxRecDepth 20000 in
theorem c_X12_founds {l : Launch} (hl : l.stackTraces = false) (Θ : cTH) (o : Nat) (pa ow : Int32) (G : GS) (ho : o < 20) : Ct l yX12_founds cX12_founds 5 none rm_X12_founds Θ [.ref (tR Θ 0 29), .int (nI o), .int pa, .int ow] (G) (fR none (mWr (mFnd (G.2.1 0 30) o pa ow) G)) := by
  refine ct_of (LS := [some (.ref (tR Θ 0 29)), some (.int (nI o)), some (.int pa), some (.int ow), none]) hl (by decide +kernel) rfl (Nat.le_of_ble_eq_true rfl) rfl ?_
  intro p e s m args below meth c hC hr
  have L : ∀ (n j : Nat), n + j = 36 → V p l e rm_X12_founds s m args below meth c 5 Θ (fR none (mWr (mFnd (G.2.1 0 30) o pa ow) G)) 0 0 0 0 3 [some (.ref (tR Θ 0 29)), some (.int (nI o)), some (.int pa), some (.int ow), some (.int (nI j))] [] (mWr (mZk (G.2.1 0 30) o j) G) := by
    intro n
    induction n with
    | zero =>
      intro j h1
      refine v_iload (q := 5) hC dX12_founds_3 rfl rfl ?_
      refine v_bipush (q := 7) (v := 36) hC dX12_founds_5 rfl (by decide) ?_
      refine v_icmp_ge (q := 28) (q2 := 10) hC dX12_founds_7 (by decide) rfl (fun c_7 => ?_) (fun c_7 => ?_)
      · refine v_aload_n (i := 0) (q := 29) hC dX12_founds_28 rfl rfl rfl ?_
        refine g_X12_0 (q := 32) hC dX12_founds_29 rfl rfl fl_RX12_7 ?_
        refine v_iload_n (i := 1) (q := 33) hC dX12_founds_32 rfl rfl rfl ?_
        refine v_iconst (q := 34) (v := 0) hC dX12_founds_33 rfl (by decide) ?_
        refine v_callS (q := 37) (rm := rm_X12_at) hC (c_X12_at hl Θ _ 0 _) k_X12_at st_yX12_at ml_RX12_50 dX12_founds_34 rfl  rfl rfl (Nat.le_of_ble_eq_true rfl) ⟨Nat.le_of_ble_eq_true rfl, Nat.le_of_ble_eq_true rfl⟩ ⟨Nat.le_of_ble_eq_true rfl, Nat.le_of_ble_eq_true rfl⟩ (fR_k ?_) fR_x (Nat.le_of_ble_eq_true rfl) (Nat.le_of_ble_eq_true rfl)
        try dsimp only [Option.toList, List.cons_append, List.nil_append]
        refine v_iconst (q := 38) (v := 1) hC dX12_founds_37 rfl (by decide) ?_
        refine v_mwr (i := oA o 0) (q := 39) hC dX12_founds_38 rfl rfl (by unfold oA; omega) ?_
        refine v_aload_n (i := 0) (q := 40) hC dX12_founds_39 rfl rfl rfl ?_
        refine g_X12_0 (q := 43) hC dX12_founds_40 rfl rfl fl_RX12_7 ?_
        refine v_iload_n (i := 1) (q := 44) hC dX12_founds_43 rfl rfl rfl ?_
        refine v_iconst (q := 45) (v := 1) hC dX12_founds_44 rfl (by decide) ?_
        refine v_callS (q := 48) (rm := rm_X12_at) hC (c_X12_at hl Θ _ 1 _) k_X12_at st_yX12_at ml_RX12_50 dX12_founds_45 rfl  rfl rfl (Nat.le_of_ble_eq_true rfl) ⟨Nat.le_of_ble_eq_true rfl, Nat.le_of_ble_eq_true rfl⟩ ⟨Nat.le_of_ble_eq_true rfl, Nat.le_of_ble_eq_true rfl⟩ (fR_k ?_) fR_x (Nat.le_of_ble_eq_true rfl) (Nat.le_of_ble_eq_true rfl)
        try dsimp only [Option.toList, List.cons_append, List.nil_append]
        refine v_iload_n (i := 2) (q := 49) hC dX12_founds_48 rfl rfl rfl ?_
        refine v_mwr (i := oA o 1) (q := 50) hC dX12_founds_49 rfl rfl (by unfold oA; omega) ?_
        refine v_aload_n (i := 0) (q := 51) hC dX12_founds_50 rfl rfl rfl ?_
        refine g_X12_0 (q := 54) hC dX12_founds_51 rfl rfl fl_RX12_7 ?_
        refine v_iload_n (i := 1) (q := 55) hC dX12_founds_54 rfl rfl rfl ?_
        refine v_iconst (q := 56) (v := 2) hC dX12_founds_55 rfl (by decide) ?_
        refine v_callS (q := 59) (rm := rm_X12_at) hC (c_X12_at hl Θ _ 2 _) k_X12_at st_yX12_at ml_RX12_50 dX12_founds_56 rfl  rfl rfl (Nat.le_of_ble_eq_true rfl) ⟨Nat.le_of_ble_eq_true rfl, Nat.le_of_ble_eq_true rfl⟩ ⟨Nat.le_of_ble_eq_true rfl, Nat.le_of_ble_eq_true rfl⟩ (fR_k ?_) fR_x (Nat.le_of_ble_eq_true rfl) (Nat.le_of_ble_eq_true rfl)
        try dsimp only [Option.toList, List.cons_append, List.nil_append]
        refine v_iload_n (i := 3) (q := 60) hC dX12_founds_59 rfl rfl rfl ?_
        refine v_mwr (i := oA o 2) (q := 61) hC dX12_founds_60 rfl rfl (by unfold oA; omega) ?_
        refine v_aload_n (i := 0) (q := 62) hC dX12_founds_61 rfl rfl rfl ?_
        refine g_X12_0 (q := 65) hC dX12_founds_62 rfl rfl fl_RX12_7 ?_
        refine v_iload_n (i := 1) (q := 66) hC dX12_founds_65 rfl rfl rfl ?_
        refine v_iconst (q := 67) (v := 3) hC dX12_founds_66 rfl (by decide) ?_
        refine v_callS (q := 70) (rm := rm_X12_at) hC (c_X12_at hl Θ _ 3 _) k_X12_at st_yX12_at ml_RX12_50 dX12_founds_67 rfl  rfl rfl (Nat.le_of_ble_eq_true rfl) ⟨Nat.le_of_ble_eq_true rfl, Nat.le_of_ble_eq_true rfl⟩ ⟨Nat.le_of_ble_eq_true rfl, Nat.le_of_ble_eq_true rfl⟩ (fR_k ?_) fR_x (Nat.le_of_ble_eq_true rfl) (Nat.le_of_ble_eq_true rfl)
        try dsimp only [Option.toList, List.cons_append, List.nil_append]
        refine v_bipush (q := 72) (v := 15) hC dX12_founds_70 rfl (by decide) ?_
        refine v_mwr (i := oA o 3) (q := 73) hC dX12_founds_72 rfl rfl (by unfold oA; omega) ?_
        refine v_aload_n (i := 0) (q := 74) hC dX12_founds_73 rfl rfl rfl ?_
        refine g_X12_0 (q := 77) hC dX12_founds_74 rfl rfl fl_RX12_7 ?_
        refine v_iload_n (i := 1) (q := 78) hC dX12_founds_77 rfl rfl rfl ?_
        refine v_iconst (q := 79) (v := 4) hC dX12_founds_78 rfl (by decide) ?_
        refine v_callS (q := 82) (rm := rm_X12_at) hC (c_X12_at hl Θ _ 4 _) k_X12_at st_yX12_at ml_RX12_50 dX12_founds_79 rfl  rfl rfl (Nat.le_of_ble_eq_true rfl) ⟨Nat.le_of_ble_eq_true rfl, Nat.le_of_ble_eq_true rfl⟩ ⟨Nat.le_of_ble_eq_true rfl, Nat.le_of_ble_eq_true rfl⟩ (fR_k ?_) fR_x (Nat.le_of_ble_eq_true rfl) (Nat.le_of_ble_eq_true rfl)
        try dsimp only [Option.toList, List.cons_append, List.nil_append]
        refine v_iconst (q := 83) (v := 1) hC dX12_founds_82 rfl (by decide) ?_
        refine v_mwr (i := oA o 4) (q := 84) hC dX12_founds_83 rfl rfl (by unfold oA; omega) ?_
        refine v_vret hC dX12_founds_84 hr ?_ (Nat.le_of_ble_eq_true rfl) (Nat.le_of_ble_eq_true rfl)
        exact ⟨rfl, by rw [show j = 36 by omega]; rfl⟩
      · exact absurd (by rw [show j = 36 by omega]; decide) c_7
    | succ n ih =>
      intro j h1
      refine v_iload (q := 5) hC dX12_founds_3 rfl rfl ?_
      refine v_bipush (q := 7) (v := 36) hC dX12_founds_5 rfl (by decide) ?_
      refine v_icmp_ge (q := 28) (q2 := 10) hC dX12_founds_7 (by decide) rfl (fun c_7 => ?_) (fun c_7 => ?_)
      · exact absurd c_7 (by rw [show (36 : Int32) = nI 36 from rfl]; exact nI_ge (by omega) (by omega))
      · refine v_aload_n (i := 0) (q := 11) hC dX12_founds_10 rfl rfl rfl ?_
        refine g_X12_0 (q := 14) hC dX12_founds_11 rfl rfl fl_RX12_7 ?_
        refine v_iload_n (i := 1) (q := 15) hC dX12_founds_14 rfl rfl rfl ?_
        refine v_iload (q := 17) hC dX12_founds_15 rfl rfl ?_
        refine v_callS (q := 20) (rm := rm_X12_at) hC (c_X12_at hl Θ o j _) k_X12_at st_yX12_at ml_RX12_50 dX12_founds_17 rfl  rfl rfl (Nat.le_of_ble_eq_true rfl) ⟨Nat.le_of_ble_eq_true rfl, Nat.le_of_ble_eq_true rfl⟩ ⟨Nat.le_of_ble_eq_true rfl, Nat.le_of_ble_eq_true rfl⟩ (fR_k ?_) fR_x (Nat.le_of_ble_eq_true rfl) (Nat.le_of_ble_eq_true rfl)
        try dsimp only [Option.toList, List.cons_append, List.nil_append]
        refine v_iconst (q := 21) (v := 0) hC dX12_founds_20 rfl (by decide) ?_
        refine v_mwr (i := oA o j) (q := 22) hC dX12_founds_21 rfl rfl (by unfold oA; omega) ?_
        refine v_iinc (q := 25) (v := nI (j + 1)) hC dX12_founds_22 rfl rfl (nI_1 j) (lvc rfl) (Nat.le_of_ble_eq_true rfl) (Nat.le_of_ble_eq_true rfl) rfl ?_
        refine v_goto (q := 3) hC dX12_founds_25 (by decide) ?_
        rw [mZk_step]
        exact ih (j + 1) (by omega)
  refine v_iconst (q := 1) (v := 0) hC dX12_founds_0 rfl (by decide) ?_
  refine v_istore (q := 3) hC dX12_founds_1 rfl (lvc rfl) (Nat.le_of_ble_eq_true rfl) (Nat.le_of_ble_eq_true rfl) rfl ?_
  have h := L 36 0 rfl
  rw [mZk_0, mWr_self] at h
  exact h
def mHo (w : Nat → Int32) : Nat → Nat → Int32 → Int32
  | 0, _, t => t
  | n + 1, j, t => mHo w n (j + 1) (t + w (oA j 0))
set_option maxHeartbeats 4000000 in
set_option maxRecDepth 20000 in
theorem c_X12_howManyObjects {l : Launch} (hl : l.stackTraces = false) (Θ : cTH) (G : GS) : Ct l yX12_howManyObjects cX12_howManyObjects 3 (some .int) rm_X12_howManyObjects Θ [.ref (tR Θ 0 29)] (G) (fR (some (.int (mHo (G.2.1 0 30) 20 0 0))) G) := by
  refine ct_of (LS := [some (.ref (tR Θ 0 29)), none, none]) hl (by decide +kernel) rfl (Nat.le_of_ble_eq_true rfl) rfl ?_
  intro p e s m args below meth c hC hr
  have L : ∀ (n j : Nat) (t : Int32), n + j = 20 → mHo (G.2.1 0 30) n j t = mHo (G.2.1 0 30) 20 0 0 → V p l e rm_X12_howManyObjects s m args below meth c 3 Θ (fR (some (.int (mHo (G.2.1 0 30) 20 0 0))) G) 0 0 0 0 4 [some (.ref (tR Θ 0 29)), some (.int t), some (.int (nI j))] [] (G) := by
    intro n
    induction n with
    | zero =>
      intro j t h1 h2
      refine v_iload_n (i := 2) (q := 5) hC dX12_howManyObjects_4 rfl rfl rfl ?_
      refine v_bipush (q := 7) (v := 20) hC dX12_howManyObjects_5 rfl (by decide) ?_
      refine v_icmp_ge (q := 25) (q2 := 10) hC dX12_howManyObjects_7 (by decide) rfl (fun c_7 => ?_) (fun c_7 => ?_)
      · refine v_iload_n (i := 1) (q := 26) hC dX12_howManyObjects_25 rfl rfl rfl ?_
        refine v_iret hC dX12_howManyObjects_26 hr (rfl) ?_ (Nat.le_of_ble_eq_true rfl) (Nat.le_of_ble_eq_true rfl)
        exact ⟨by rw [← h2, mHo], rfl⟩
      · exact absurd (by rw [show j = 20 by omega]; decide) c_7
    | succ n ih =>
      intro j t h1 h2
      rw [mHo] at h2
      refine v_iload_n (i := 2) (q := 5) hC dX12_howManyObjects_4 rfl rfl rfl ?_
      refine v_bipush (q := 7) (v := 20) hC dX12_howManyObjects_5 rfl (by decide) ?_
      refine v_icmp_ge (q := 25) (q2 := 10) hC dX12_howManyObjects_7 (by decide) rfl (fun c_7 => ?_) (fun c_7 => ?_)
      · exact absurd c_7 (by rw [show (20 : Int32) = nI 20 from rfl]; exact nI_ge (by omega) (by omega))
      · refine v_iload_n (i := 1) (q := 11) hC dX12_howManyObjects_10 rfl rfl rfl ?_
        refine v_aload_n (i := 0) (q := 12) hC dX12_howManyObjects_11 rfl rfl rfl ?_
        refine v_iload_n (i := 2) (q := 13) hC dX12_howManyObjects_12 rfl rfl rfl ?_
        refine v_iconst (q := 14) (v := 0) hC dX12_howManyObjects_13 rfl (by decide) ?_
        refine v_callV (q := 17) (rm := rm_X12_of) hC (c_X12_of hl Θ _ 0 _ (by unfold oA; omega)) k_X12_of im_yX12_of se_yX12_of ml_RX12_54 dX12_howManyObjects_14 rfl rfl rfl rfl rfl rfl (Nat.le_of_ble_eq_true rfl) ⟨Nat.le_of_ble_eq_true rfl, Nat.le_of_ble_eq_true rfl⟩ ⟨Nat.le_of_ble_eq_true rfl, Nat.le_of_ble_eq_true rfl⟩ (fR_k ?_) fR_x (Nat.le_of_ble_eq_true rfl) (Nat.le_of_ble_eq_true rfl)
        try dsimp only [Option.toList, List.cons_append, List.nil_append]
        refine v_iadd (q := 18) hC dX12_howManyObjects_17 rfl ?_
        refine v_istore_n (i := 1) (q := 19) hC dX12_howManyObjects_18 rfl rfl (lvc rfl) (Nat.le_of_ble_eq_true rfl) (Nat.le_of_ble_eq_true rfl) rfl ?_
        refine v_iinc (q := 22) (v := nI (j + 1)) hC dX12_howManyObjects_19 rfl rfl (nI_1 j) (lvc rfl) (Nat.le_of_ble_eq_true rfl) (Nat.le_of_ble_eq_true rfl) rfl ?_
        refine v_goto (q := 4) hC dX12_howManyObjects_22 (by decide) ?_
        exact ih (j + 1) _ (by omega) h2
  refine v_iconst (q := 1) (v := 0) hC dX12_howManyObjects_0 rfl (by decide) ?_
  refine v_istore_n (i := 1) (q := 2) hC dX12_howManyObjects_1 rfl rfl (lvc rfl) (Nat.le_of_ble_eq_true rfl) (Nat.le_of_ble_eq_true rfl) rfl ?_
  refine v_iconst (q := 3) (v := 0) hC dX12_howManyObjects_2 rfl (by decide) ?_
  refine v_istore_n (i := 2) (q := 4) hC dX12_howManyObjects_3 rfl rfl (lvc rfl) (Nat.le_of_ble_eq_true rfl) (Nat.le_of_ble_eq_true rfl) rfl ?_
  exact L 20 0 0 rfl rfl
theorem mHo_sum (w : Nat → Int32) : ∀ (n j : Nat) (t : Int32), (∀ i, j ≤ i → i < j + n → w (oA i 0) = 1) → mHo w n j t = t + nI n := by
  intro n
  induction n with
  | zero => intro j t h; rw [mHo]; exact (Int32.add_zero t).symm
  | succ n ih =>
    intro j t h
    rw [mHo, ih (j + 1) _ (fun i h1 h2 => h i (by omega) (by omega)), h j (Nat.le_refl _) (by omega), Int32.add_assoc]
    congr 1
    rw [show (1 : Int32) = nI 1 from rfl, nI_add, Nat.add_comm]
theorem mHold_1 {w : Nat → Int32} {j : Nat} (hj : j < 2 ^ 31) (h : mHold w (nI j) = true) : w (oA j 0) = 1 := by
  have h2 := (Bool.and_eq_true_iff.mp h).2
  rw [nI_clamp hj] at h2
  exact of_decide_eq_true h2
/-- is it below: climbing, n steps at most -/
def mBel (w : Nat → Int32) (ot : Int32) : Nat → Int32 → Bool
  | 0, x => decide (x = ot)
  | n + 1, x => if x < 0 then decide (x = ot) else if x = ot then true else mBel w ot n (w (oA x.toNatClampNeg 1))
set_option maxHeartbeats 4000000 in
set_option maxRecDepth 20000 in
theorem c_X12_isBelow {l : Launch} (hl : l.stackTraces = false) (Θ : cTH) (o : Nat) (ot : Int32) (G : GS) (ho : o < 20) (hk : mRk (G.2.1 0 30)) : Ct l yX12_isBelow cX12_isBelow 4 (some .boolean) rm_X12_isBelow Θ [.ref (tR Θ 0 29), .int (nI o), .int ot] (G) (fR (some (.int (b2i (mBel (G.2.1 0 30) ot 20 (G.2.1 0 30 (oA o 1)))))) G) := by
  refine ct_of (LS := [some (.ref (tR Θ 0 29)), some (.int (nI o)), some (.int ot), none]) hl (by decide +kernel) rfl (Nat.le_of_ble_eq_true rfl) rfl ?_
  intro p e s m args below meth c hC hr
  obtain ⟨rk, hrk⟩ := hk
  have L : ∀ (n : Nat) (x : Int32), (x = -1 ∨ ∃ j, j < 20 ∧ x = nI j ∧ rk j < n) → mBel (G.2.1 0 30) ot n x = mBel (G.2.1 0 30) ot 20 (G.2.1 0 30 (oA o 1)) → V p l e rm_X12_isBelow s m args below meth c 4 Θ (fR (some (.int (b2i (mBel (G.2.1 0 30) ot 20 (G.2.1 0 30 (oA o 1)))))) G) 0 0 0 0 7 [some (.ref (tR Θ 0 29)), some (.int (nI o)), some (.int ot), some (.int x)] [] (G) := by
    intro n
    induction n with
    | zero =>
      rintro x (rfl | ⟨j, -, -, h⟩) h2
      · rw [mBel] at h2
        refine v_iload_n (i := 3) (q := 8) hC dX12_isBelow_7 rfl rfl rfl ?_
        refine v_if_lt (q := 26) (q2 := 11) hC dX12_isBelow_8 (by decide) rfl (fun c_8 => ?_) (fun c_8 => ?_)
        · refine v_iload_n (i := 3) (q := 27) hC dX12_isBelow_26 rfl rfl rfl ?_
          refine v_iload_n (i := 2) (q := 28) hC dX12_isBelow_27 rfl rfl rfl ?_
          refine v_icmp_ne (q := 35) (q2 := 31) hC dX12_isBelow_28 (by decide) rfl (fun c_28 => ?_) (fun c_28 => ?_)
          · refine v_iconst (q := 36) (v := 0) hC dX12_isBelow_35 rfl (by decide) ?_
            refine v_iret hC dX12_isBelow_36 hr (by first | rfl | exact nar_b) ?_ (Nat.le_of_ble_eq_true rfl) (Nat.le_of_ble_eq_true rfl)
            refine ⟨?_, rfl⟩
            rw [← h2]
            first | (rw [decide_eq_true c_28]; rfl) | (rw [decide_eq_false c_28]; rfl)
          · refine v_iconst (q := 32) (v := 1) hC dX12_isBelow_31 rfl (by decide) ?_
            refine v_goto (q := 36) hC dX12_isBelow_32 (by decide) ?_
            refine v_iret hC dX12_isBelow_36 hr (by first | rfl | exact nar_b) ?_ (Nat.le_of_ble_eq_true rfl) (Nat.le_of_ble_eq_true rfl)
            refine ⟨?_, rfl⟩
            rw [← h2]
            first | (rw [decide_eq_true c_28]; rfl) | (rw [decide_eq_false c_28]; rfl)
        · exact absurd (by decide) c_8
      · exact absurd h (by omega)
    | succ n ih =>
      rintro x (rfl | ⟨j, hj, rfl, h⟩) h2
      · rw [mBel, if_pos (by decide)] at h2
        refine v_iload_n (i := 3) (q := 8) hC dX12_isBelow_7 rfl rfl rfl ?_
        refine v_if_lt (q := 26) (q2 := 11) hC dX12_isBelow_8 (by decide) rfl (fun c_8 => ?_) (fun c_8 => ?_)
        · refine v_iload_n (i := 3) (q := 27) hC dX12_isBelow_26 rfl rfl rfl ?_
          refine v_iload_n (i := 2) (q := 28) hC dX12_isBelow_27 rfl rfl rfl ?_
          refine v_icmp_ne (q := 35) (q2 := 31) hC dX12_isBelow_28 (by decide) rfl (fun c_28 => ?_) (fun c_28 => ?_)
          · refine v_iconst (q := 36) (v := 0) hC dX12_isBelow_35 rfl (by decide) ?_
            refine v_iret hC dX12_isBelow_36 hr (by first | rfl | exact nar_b) ?_ (Nat.le_of_ble_eq_true rfl) (Nat.le_of_ble_eq_true rfl)
            refine ⟨?_, rfl⟩
            rw [← h2]
            first | (rw [decide_eq_true c_28]; rfl) | (rw [decide_eq_false c_28]; rfl)
          · refine v_iconst (q := 32) (v := 1) hC dX12_isBelow_31 rfl (by decide) ?_
            refine v_goto (q := 36) hC dX12_isBelow_32 (by decide) ?_
            refine v_iret hC dX12_isBelow_36 hr (by first | rfl | exact nar_b) ?_ (Nat.le_of_ble_eq_true rfl) (Nat.le_of_ble_eq_true rfl)
            refine ⟨?_, rfl⟩
            rw [← h2]
            first | (rw [decide_eq_true c_28]; rfl) | (rw [decide_eq_false c_28]; rfl)
        · exact absurd (by decide) c_8
      · rw [mBel, if_neg (nI_pos (by omega)), nI_clamp (by omega)] at h2
        refine v_iload_n (i := 3) (q := 8) hC dX12_isBelow_7 rfl rfl rfl ?_
        refine v_if_lt (q := 26) (q2 := 11) hC dX12_isBelow_8 (by decide) rfl (fun c_8 => ?_) (fun c_8 => ?_)
        · exact absurd c_8 (nI_pos (by omega))
        · refine v_iload_n (i := 3) (q := 12) hC dX12_isBelow_11 rfl rfl rfl ?_
          refine v_iload_n (i := 2) (q := 13) hC dX12_isBelow_12 rfl rfl rfl ?_
          refine v_icmp_eq (q := 26) (q2 := 16) hC dX12_isBelow_13 (by decide) rfl (fun c_13 => ?_) (fun c_13 => ?_)
          · refine v_iload_n (i := 3) (q := 27) hC dX12_isBelow_26 rfl rfl rfl ?_
            refine v_iload_n (i := 2) (q := 28) hC dX12_isBelow_27 rfl rfl rfl ?_
            refine v_icmp_ne (q := 35) (q2 := 31) hC dX12_isBelow_28 (by decide) rfl (fun c_28 => ?_) (fun c_28 => ?_)
            · refine v_iconst (q := 36) (v := 0) hC dX12_isBelow_35 rfl (by decide) ?_
              refine v_iret hC dX12_isBelow_36 hr (by first | rfl | exact nar_b) ?_ (Nat.le_of_ble_eq_true rfl) (Nat.le_of_ble_eq_true rfl)
              refine ⟨?_, rfl⟩
              first | (rw [if_pos c_28] at h2; rw [← h2]; rfl) | exact absurd c_13 c_28
            · refine v_iconst (q := 32) (v := 1) hC dX12_isBelow_31 rfl (by decide) ?_
              refine v_goto (q := 36) hC dX12_isBelow_32 (by decide) ?_
              refine v_iret hC dX12_isBelow_36 hr (by first | rfl | exact nar_b) ?_ (Nat.le_of_ble_eq_true rfl) (Nat.le_of_ble_eq_true rfl)
              refine ⟨?_, rfl⟩
              first | (rw [if_pos c_28] at h2; rw [← h2]; rfl) | exact absurd c_13 c_28
          · refine v_aload_n (i := 0) (q := 17) hC dX12_isBelow_16 rfl rfl rfl ?_
            refine v_iload_n (i := 3) (q := 18) hC dX12_isBelow_17 rfl rfl rfl ?_
            refine v_iconst (q := 19) (v := 1) hC dX12_isBelow_18 rfl (by decide) ?_
            refine v_callV (q := 22) (rm := rm_X12_of) hC (c_X12_of hl Θ _ 1 _ (by unfold oA; omega)) k_X12_of im_yX12_of se_yX12_of ml_RX12_54 dX12_isBelow_19 rfl rfl rfl rfl rfl rfl (Nat.le_of_ble_eq_true rfl) ⟨Nat.le_of_ble_eq_true rfl, Nat.le_of_ble_eq_true rfl⟩ ⟨Nat.le_of_ble_eq_true rfl, Nat.le_of_ble_eq_true rfl⟩ (fR_k ?_) fR_x (Nat.le_of_ble_eq_true rfl) (Nat.le_of_ble_eq_true rfl)
            try dsimp only [Option.toList, List.cons_append, List.nil_append]
            refine v_istore_n (i := 3) (q := 23) hC dX12_isBelow_22 rfl rfl (lvc rfl) (Nat.le_of_ble_eq_true rfl) (Nat.le_of_ble_eq_true rfl) rfl ?_
            refine v_goto (q := 7) hC dX12_isBelow_23 (by decide) ?_
            rw [if_neg c_13] at h2
            refine ih _ ?_ h2
            rcases (hrk j hj).2 with z | ⟨j2, h4, h5, h6⟩
            · exact Or.inl z
            · exact Or.inr ⟨j2, h4, h5, by omega⟩
  refine v_aload_n (i := 0) (q := 1) hC dX12_isBelow_0 rfl rfl rfl ?_
  refine v_iload_n (i := 1) (q := 2) hC dX12_isBelow_1 rfl rfl rfl ?_
  refine v_iconst (q := 3) (v := 1) hC dX12_isBelow_2 rfl (by decide) ?_
  refine v_callV (q := 6) (rm := rm_X12_of) hC (c_X12_of hl Θ _ 1 _ (by unfold oA; omega)) k_X12_of im_yX12_of se_yX12_of ml_RX12_54 dX12_isBelow_3 rfl rfl rfl rfl rfl rfl (Nat.le_of_ble_eq_true rfl) ⟨Nat.le_of_ble_eq_true rfl, Nat.le_of_ble_eq_true rfl⟩ ⟨Nat.le_of_ble_eq_true rfl, Nat.le_of_ble_eq_true rfl⟩ (fR_k ?_) fR_x (Nat.le_of_ble_eq_true rfl) (Nat.le_of_ble_eq_true rfl)
  try dsimp only [Option.toList, List.cons_append, List.nil_append]
  refine v_istore_n (i := 3) (q := 7) hC dX12_isBelow_6 rfl rfl (lvc rfl) (Nat.le_of_ble_eq_true rfl) (Nat.le_of_ble_eq_true rfl) rfl ?_
  refine L 20 _ ?_ rfl
  rcases (hrk o ho).2 with z | ⟨j2, h4, h5, h6⟩
  · exact Or.inl z
  · exact Or.inr ⟨j2, h4, h5, (hrk j2 h4).1⟩
def mBlw (w : Nat → Int32) (o : Nat) (ot : Int32) : Bool := mBel w ot 20 (w (oA o 1))
def mBls (w : Nat → Int32) (ot : Int32) : Nat → Nat → Int32 → Int32
  | 0, _, t => t
  | n + 1, j, t => mBls w ot n (j + 1) (t + (if (mHold w (nI j) && mBlw w j ot) = true then 1 else 0))
set_option maxHeartbeats 4000000 in
set_option maxRecDepth 20000 in
theorem c_X12_belows {l : Launch} (hl : l.stackTraces = false) (Θ : cTH) (ot : Int32) (G : GS) (hk : mRk (G.2.1 0 30)) : Ct l yX12_belows cX12_belows 4 (some .int) rm_X12_belows Θ [.ref (tR Θ 0 29), .int ot] (G) (fR (some (.int (mBls (G.2.1 0 30) ot 20 0 0))) G) := by
  refine ct_of (LS := [some (.ref (tR Θ 0 29)), some (.int ot), none, none]) hl (by decide +kernel) rfl (Nat.le_of_ble_eq_true rfl) rfl ?_
  intro p e s m args below meth c hC hr
  have L : ∀ (n j : Nat) (t : Int32), n + j = 20 → mBls (G.2.1 0 30) ot n j t = mBls (G.2.1 0 30) ot 20 0 0 → V p l e rm_X12_belows s m args below meth c 4 Θ (fR (some (.int (mBls (G.2.1 0 30) ot 20 0 0))) G) 0 0 0 0 4 [some (.ref (tR Θ 0 29)), some (.int ot), some (.int t), some (.int (nI j))] [] (G) := by
    intro n
    induction n with
    | zero =>
      intro j t h1 h2
      refine v_iload_n (i := 3) (q := 5) hC dX12_belows_4 rfl rfl rfl ?_
      refine v_bipush (q := 7) (v := 20) hC dX12_belows_5 rfl (by decide) ?_
      refine v_icmp_ge (q := 41) (q2 := 10) hC dX12_belows_7 (by decide) rfl (fun c_7 => ?_) (fun c_7 => ?_)
      · refine v_iload_n (i := 2) (q := 42) hC dX12_belows_41 rfl rfl rfl ?_
        refine v_iret hC dX12_belows_42 hr (rfl) ?_ (Nat.le_of_ble_eq_true rfl) (Nat.le_of_ble_eq_true rfl)
        exact ⟨by rw [← h2, mBls], rfl⟩
      · exact absurd (by rw [show j = 20 by omega]; decide) c_7
    | succ n ih =>
      intro j t h1 h2
      rw [mBls] at h2
      refine v_iload_n (i := 3) (q := 5) hC dX12_belows_4 rfl rfl rfl ?_
      refine v_bipush (q := 7) (v := 20) hC dX12_belows_5 rfl (by decide) ?_
      refine v_icmp_ge (q := 41) (q2 := 10) hC dX12_belows_7 (by decide) rfl (fun c_7 => ?_) (fun c_7 => ?_)
      · exact absurd c_7 (by rw [show (20 : Int32) = nI 20 from rfl]; exact nI_ge (by omega) (by omega))
      · refine v_iload_n (i := 2) (q := 11) hC dX12_belows_10 rfl rfl rfl ?_
        refine v_aload_n (i := 0) (q := 12) hC dX12_belows_11 rfl rfl rfl ?_
        refine v_iload_n (i := 3) (q := 13) hC dX12_belows_12 rfl rfl rfl ?_
        refine v_callV (q := 16) (rm := rm_X12_isObject) hC (c_X12_isObject hl Θ _ _) k_X12_isObject im_yX12_isObject se_yX12_isObject ml_RX12_57 dX12_belows_13 rfl rfl rfl rfl rfl rfl (Nat.le_of_ble_eq_true rfl) ⟨Nat.le_of_ble_eq_true rfl, Nat.le_of_ble_eq_true rfl⟩ ⟨Nat.le_of_ble_eq_true rfl, Nat.le_of_ble_eq_true rfl⟩ (fR_k ?_) fR_x (Nat.le_of_ble_eq_true rfl) (Nat.le_of_ble_eq_true rfl)
        try dsimp only [Option.toList, List.cons_append, List.nil_append]
        refine v_ifb_eq (q := 32) (q2 := 19) hC dX12_belows_16 (by decide) rfl (fun c_16 => ?_) (fun c_16 => ?_)
        · refine v_iconst (q := 33) (v := 0) hC dX12_belows_32 rfl (by decide) ?_
          refine v_iadd (q := 34) hC dX12_belows_33 rfl ?_
          refine v_istore_n (i := 2) (q := 35) hC dX12_belows_34 rfl rfl (lvc rfl) (Nat.le_of_ble_eq_true rfl) (Nat.le_of_ble_eq_true rfl) rfl ?_
          refine v_iinc (q := 38) (v := nI (j + 1)) hC dX12_belows_35 rfl rfl (nI_1 j) (lvc rfl) (Nat.le_of_ble_eq_true rfl) (Nat.le_of_ble_eq_true rfl) rfl ?_
          refine v_goto (q := 4) hC dX12_belows_38 (by decide) ?_
          refine ih (j + 1) _ (by omega) ?_
          rw [← h2]
          first | (rw [c_16, show mBlw (G.2.1 0 30) j ot = true from c_25]; rfl) | (rw [c_16, show mBlw (G.2.1 0 30) j ot = false from c_25]; rfl) | (rw [c_16]; rfl)
        · refine v_aload_n (i := 0) (q := 20) hC dX12_belows_19 rfl rfl rfl ?_
          refine v_iload_n (i := 3) (q := 21) hC dX12_belows_20 rfl rfl rfl ?_
          refine v_iload_n (i := 1) (q := 22) hC dX12_belows_21 rfl rfl rfl ?_
          refine v_callV (q := 25) (rm := rm_X12_isBelow) hC (c_X12_isBelow hl Θ j _ _ (by omega) hk) k_X12_isBelow im_yX12_isBelow se_yX12_isBelow ml_RX12_91 dX12_belows_22 rfl rfl rfl rfl rfl rfl (Nat.le_of_ble_eq_true rfl) ⟨Nat.le_of_ble_eq_true rfl, Nat.le_of_ble_eq_true rfl⟩ ⟨Nat.le_of_ble_eq_true rfl, Nat.le_of_ble_eq_true rfl⟩ (fR_k ?_) fR_x (Nat.le_of_ble_eq_true rfl) (Nat.le_of_ble_eq_true rfl)
          try dsimp only [Option.toList, List.cons_append, List.nil_append]
          refine v_ifb_eq (q := 32) (q2 := 28) hC dX12_belows_25 (by decide) rfl (fun c_25 => ?_) (fun c_25 => ?_)
          · refine v_iconst (q := 33) (v := 0) hC dX12_belows_32 rfl (by decide) ?_
            refine v_iadd (q := 34) hC dX12_belows_33 rfl ?_
            refine v_istore_n (i := 2) (q := 35) hC dX12_belows_34 rfl rfl (lvc rfl) (Nat.le_of_ble_eq_true rfl) (Nat.le_of_ble_eq_true rfl) rfl ?_
            refine v_iinc (q := 38) (v := nI (j + 1)) hC dX12_belows_35 rfl rfl (nI_1 j) (lvc rfl) (Nat.le_of_ble_eq_true rfl) (Nat.le_of_ble_eq_true rfl) rfl ?_
            refine v_goto (q := 4) hC dX12_belows_38 (by decide) ?_
            refine ih (j + 1) _ (by omega) ?_
            rw [← h2]
            first | (rw [c_16, show mBlw (G.2.1 0 30) j ot = true from c_25]; rfl) | (rw [c_16, show mBlw (G.2.1 0 30) j ot = false from c_25]; rfl) | (rw [c_16]; rfl)
          · refine v_iconst (q := 29) (v := 1) hC dX12_belows_28 rfl (by decide) ?_
            refine v_goto (q := 33) hC dX12_belows_29 (by decide) ?_
            refine v_iadd (q := 34) hC dX12_belows_33 rfl ?_
            refine v_istore_n (i := 2) (q := 35) hC dX12_belows_34 rfl rfl (lvc rfl) (Nat.le_of_ble_eq_true rfl) (Nat.le_of_ble_eq_true rfl) rfl ?_
            refine v_iinc (q := 38) (v := nI (j + 1)) hC dX12_belows_35 rfl rfl (nI_1 j) (lvc rfl) (Nat.le_of_ble_eq_true rfl) (Nat.le_of_ble_eq_true rfl) rfl ?_
            refine v_goto (q := 4) hC dX12_belows_38 (by decide) ?_
            refine ih (j + 1) _ (by omega) ?_
            rw [← h2]
            first | (rw [c_16, show mBlw (G.2.1 0 30) j ot = true from c_25]; rfl) | (rw [c_16, show mBlw (G.2.1 0 30) j ot = false from c_25]; rfl) | (rw [c_16]; rfl)
  refine v_iconst (q := 1) (v := 0) hC dX12_belows_0 rfl (by decide) ?_
  refine v_istore_n (i := 2) (q := 2) hC dX12_belows_1 rfl rfl (lvc rfl) (Nat.le_of_ble_eq_true rfl) (Nat.le_of_ble_eq_true rfl) rfl ?_
  refine v_iconst (q := 3) (v := 0) hC dX12_belows_2 rfl (by decide) ?_
  refine v_istore_n (i := 3) (q := 4) hC dX12_belows_3 rfl rfl (lvc rfl) (Nat.le_of_ble_eq_true rfl) (Nat.le_of_ble_eq_true rfl) rfl ?_
  exact L 20 0 0 rfl rfl
/-- the first place that is free -/
def mFr (w : Nat → Int32) : Nat → Nat → Nat
  | 0, j => j
  | n + 1, j => if mHold w (nI j) = true then mFr w n (j + 1) else j
set_option maxHeartbeats 4000000 in
set_option maxRecDepth 20000 in
theorem c_X12_make {l : Launch} (hl : l.stackTraces = false) (Θ : cTH) (pa ow : Int32) (G : GS) (hm : mInv G) : Ct l yX12_make cX12_make 4 (some .int) rm_X12_make Θ [.ref (tR Θ 0 29), .int pa, .int ow] (G) (mg (mHold (G.2.1 0 30) pa && mIn ow 0 (G.2.1 0 30 0 - 1)) 1 (mg (!decide (mHo (G.2.1 0 30) 20 0 0 = 20)) 2 (fR (some (.int (nI (mFr (G.2.1 0 30) 20 0)))) (mWr (mFnd (G.2.1 0 30) (mFr (G.2.1 0 30) 20 0) pa ow) (mC G))) (G)) (G)) := by
  refine ct_of (LS := [some (.ref (tR Θ 0 29)), some (.int pa), some (.int ow), none]) hl (by decide +kernel) rfl (Nat.le_of_ble_eq_true rfl) rfl ?_
  intro p e s m args below meth c hC hr
  have L : ¬ mHo (G.2.1 0 30) 20 0 0 = 20 → ∀ (n j : Nat), n + j = 20 → mFr (G.2.1 0 30) n j = mFr (G.2.1 0 30) 20 0 → (∀ i, i < j → mHold (G.2.1 0 30) (nI i) = true) → V p l e rm_X12_make s m args below meth c 4 Θ (fR (some (.int (nI (mFr (G.2.1 0 30) 20 0)))) (mWr (mFnd (G.2.1 0 30) (mFr (G.2.1 0 30) 20 0) pa ow) (mC G))) rm_X12_make.cells rm_X12_make.slots 0 0 48 [some (.ref (tR Θ 0 29)), some (.int pa), some (.int ow), some (.int (nI j))] [] (mC G) := by
    intro hne n
    induction n with
    | zero =>
      intro j h1 h2 h3
      exact absurd (mHo_sum (G.2.1 0 30) 20 0 0 (fun i _ h => mHold_1 (by omega) (h3 i (by omega)))) (by rw [show (0 : Int32) + nI 20 = 20 from rfl]; exact hne)
    | succ n ih =>
      intro j h1 h2 h3
      rw [mFr] at h2
      have ew : (mC G).2.1 0 30 = G.2.1 0 30 := mC_w G
      refine v_aload_n (i := 0) (q := 49) hC dX12_make_48 rfl rfl rfl ?_
      refine v_iload_n (i := 3) (q := 50) hC dX12_make_49 rfl rfl rfl ?_
      refine v_callV (q := 53) (rm := rm_X12_isObject) hC (c_X12_isObject hl Θ _ _) k_X12_isObject im_yX12_isObject se_yX12_isObject ml_RX12_57 dX12_make_50 rfl rfl rfl rfl rfl rfl (Nat.le_of_ble_eq_true rfl) ⟨Nat.le_of_ble_eq_true rfl, Nat.le_of_ble_eq_true rfl⟩ ⟨Nat.le_of_ble_eq_true rfl, Nat.le_of_ble_eq_true rfl⟩ (fR_k ?_) fR_x (Nat.le_of_ble_eq_true rfl) (Nat.le_of_ble_eq_true rfl)
      try dsimp only [Option.toList, List.cons_append, List.nil_append]
      rw [ew]
      refine v_ifb_eq (q := 62) (q2 := 56) hC dX12_make_53 (by decide) rfl (fun c_53 => ?_) (fun c_53 => ?_)
      · refine v_aload_n (i := 0) (q := 63) hC dX12_make_62 rfl rfl rfl ?_
        refine v_iload_n (i := 3) (q := 64) hC dX12_make_63 rfl rfl rfl ?_
        refine v_iload_n (i := 1) (q := 65) hC dX12_make_64 rfl rfl rfl ?_
        refine v_iload_n (i := 2) (q := 66) hC dX12_make_65 rfl rfl rfl ?_
        refine v_callV (q := 69) (rm := rm_X12_founds) hC (c_X12_founds hl Θ j _ _ _ (by omega)) k_X12_founds im_yX12_founds se_yX12_founds ml_RX12_35 dX12_make_66 rfl rfl rfl rfl rfl rfl (Nat.le_of_ble_eq_true rfl) ⟨Nat.le_of_ble_eq_true rfl, Nat.le_of_ble_eq_true rfl⟩ ⟨Nat.le_of_ble_eq_true rfl, Nat.le_of_ble_eq_true rfl⟩ (fR_k ?_) fR_x (Nat.le_of_ble_eq_true rfl) (Nat.le_of_ble_eq_true rfl)
        try dsimp only [Option.toList, List.cons_append, List.nil_append]
        refine v_iload_n (i := 3) (q := 70) hC dX12_make_69 rfl rfl rfl ?_
        refine v_iret hC dX12_make_70 hr (rfl) ?_ (Nat.le_of_ble_eq_true rfl) (Nat.le_of_ble_eq_true rfl)
        rw [if_neg (by rw [c_53]; decide)] at h2
        rw [← h2, ew]
        exact ⟨rfl, rfl⟩
      · refine v_iinc (q := 59) (v := nI (j + 1)) hC dX12_make_56 rfl rfl (nI_1 j) (lvc rfl) (Nat.le_of_ble_eq_true rfl) (Nat.le_of_ble_eq_true rfl) rfl ?_
        refine v_goto (q := 48) hC dX12_make_59 (by decide) ?_
        rw [if_pos c_53] at h2
        refine ih (j + 1) (by omega) h2 (fun i h => ?_)
        rcases Nat.lt_or_ge i j with h5 | h5
        · exact h3 i h5
        · rw [show i = j by omega]; exact c_53
  refine v_aload_n (i := 0) (q := 1) hC dX12_make_0 rfl rfl rfl ?_
  refine v_iconst (q := 2) (v := 0) hC dX12_make_1 rfl (by decide) ?_
  refine pm_last (q := 5) hC dX12_make_2 rfl rfl fl_RX12_39 ?_
  refine v_aload_n (i := 0) (q := 6) hC dX12_make_5 rfl rfl rfl ?_
  refine v_iload_n (i := 1) (q := 7) hC dX12_make_6 rfl rfl rfl ?_
  refine v_callV (q := 10) (rm := rm_X12_isObject) hC (c_X12_isObject hl Θ _ _) k_X12_isObject im_yX12_isObject se_yX12_isObject ml_RX12_57 dX12_make_7 rfl rfl rfl rfl rfl rfl (Nat.le_of_ble_eq_true rfl) ⟨Nat.le_of_ble_eq_true rfl, Nat.le_of_ble_eq_true rfl⟩ ⟨Nat.le_of_ble_eq_true rfl, Nat.le_of_ble_eq_true rfl⟩ (fR_k ?_) fR_x (Nat.le_of_ble_eq_true rfl) (Nat.le_of_ble_eq_true rfl)
  try dsimp only [Option.toList, List.cons_append, List.nil_append]
  refine v_ifb_eq (q := 21) (q2 := 13) hC dX12_make_10 (by decide) rfl (fun c_10 => ?_) (fun c_10 => ?_)
  · refine v_aload_n (i := 0) (q := 22) hC dX12_make_21 rfl rfl rfl ?_
    refine v_iconst (q := 23) (v := 1) hC dX12_make_22 rfl (by decide) ?_
    refine v_callV (q := 26) (rm := rm_X12_fails) hC (c_fl hl Θ _ _ _) k_X12_fails im_yX12_fails se_yX12_fails ml_RX12_76 dX12_make_23 rfl rfl rfl rfl rfl rfl (Nat.le_of_ble_eq_true rfl) ⟨Nat.le_of_ble_eq_true rfl, Nat.le_of_ble_eq_true rfl⟩ ⟨Nat.le_of_ble_eq_true rfl, Nat.le_of_ble_eq_true rfl⟩ (fR_k ?_) fR_x (Nat.le_of_ble_eq_true rfl) (Nat.le_of_ble_eq_true rfl)
    try dsimp only [Option.toList, List.cons_append, List.nil_append]
    refine v_iret hC dX12_make_26 hr (rfl) ?_ (Nat.le_of_ble_eq_true rfl) (Nat.le_of_ble_eq_true rfl)
    exact mg_f (by first | (rw [show mHold (G.2.1 0 30) pa = false from c_10]; rfl) | (rw [show mIn ow 0 (G.2.1 0 30 0 - 1) = false from c_18, Bool.and_false]))
  · refine v_aload_n (i := 0) (q := 14) hC dX12_make_13 rfl rfl rfl ?_
    refine v_iload_n (i := 2) (q := 15) hC dX12_make_14 rfl rfl rfl ?_
    refine v_callV (q := 18) (rm := rm_X12_isUser) hC (c_X12_isUser hl Θ _ _) k_X12_isUser im_yX12_isUser se_yX12_isUser ml_RX12_82 dX12_make_15 rfl rfl rfl rfl rfl rfl (Nat.le_of_ble_eq_true rfl) ⟨Nat.le_of_ble_eq_true rfl, Nat.le_of_ble_eq_true rfl⟩ ⟨Nat.le_of_ble_eq_true rfl, Nat.le_of_ble_eq_true rfl⟩ (fR_k ?_) fR_x (Nat.le_of_ble_eq_true rfl) (Nat.le_of_ble_eq_true rfl)
    try dsimp only [Option.toList, List.cons_append, List.nil_append]
    refine v_ifb_ne (q := 27) (q2 := 21) hC dX12_make_18 (by decide) rfl (fun c_18 => ?_) (fun c_18 => ?_)
    · rw [mg_t (by rw [show mHold (G.2.1 0 30) pa = true from c_10, show mIn ow 0 (G.2.1 0 30 0 - 1) = true from c_18]; rfl)]
      refine v_aload_n (i := 0) (q := 28) hC dX12_make_27 rfl rfl rfl ?_
      refine v_callV (q := 31) (rm := rm_X12_howManyObjects) hC (c_X12_howManyObjects hl Θ _) k_X12_howManyObjects im_yX12_howManyObjects se_yX12_howManyObjects ml_RX12_94 dX12_make_28 rfl rfl rfl rfl rfl rfl (Nat.le_of_ble_eq_true rfl) ⟨Nat.le_of_ble_eq_true rfl, Nat.le_of_ble_eq_true rfl⟩ ⟨Nat.le_of_ble_eq_true rfl, Nat.le_of_ble_eq_true rfl⟩ (fR_k ?_) fR_x (Nat.le_of_ble_eq_true rfl) (Nat.le_of_ble_eq_true rfl)
      try dsimp only [Option.toList, List.cons_append, List.nil_append]
      refine v_bipush (q := 33) (v := 20) hC dX12_make_31 rfl (by decide) ?_
      refine v_icmp_ne (q := 42) (q2 := 36) hC dX12_make_33 (by decide) rfl (fun c_33 => ?_) (fun c_33 => ?_)
      · rw [mg_t (by rw [show decide (mHo (G.2.1 0 30) 20 0 0 = 20) = false from decide_eq_false c_33]; rfl)]
        refine v_aload_n (i := 0) (q := 43) hC dX12_make_42 rfl rfl rfl ?_
        refine v_callV (q := 46) (rm := rm_X12_changes) hC (c_mC hl Θ _ hm) k_X12_changes im_yX12_changes se_yX12_changes ml_RX12_79 dX12_make_43 rfl rfl rfl rfl rfl rfl (Nat.le_of_ble_eq_true rfl) ⟨Nat.le_of_ble_eq_true rfl, Nat.le_of_ble_eq_true rfl⟩ ⟨Nat.le_of_ble_eq_true rfl, Nat.le_of_ble_eq_true rfl⟩ (fR_k ?_) fR_x (Nat.le_of_ble_eq_true rfl) (Nat.le_of_ble_eq_true rfl)
        try dsimp only [Option.toList, List.cons_append, List.nil_append]
        refine v_iconst (q := 47) (v := 0) hC dX12_make_46 rfl (by decide) ?_
        refine v_istore_n (i := 3) (q := 48) hC dX12_make_47 rfl rfl (lvc rfl) (Nat.le_of_ble_eq_true rfl) (Nat.le_of_ble_eq_true rfl) rfl ?_
        exact L c_33 20 0 rfl rfl (fun i h => absurd h (by omega))
      · refine v_aload_n (i := 0) (q := 37) hC dX12_make_36 rfl rfl rfl ?_
        refine v_iconst (q := 38) (v := 2) hC dX12_make_37 rfl (by decide) ?_
        refine v_callV (q := 41) (rm := rm_X12_fails) hC (c_fl hl Θ _ _ _) k_X12_fails im_yX12_fails se_yX12_fails ml_RX12_76 dX12_make_38 rfl rfl rfl rfl rfl rfl (Nat.le_of_ble_eq_true rfl) ⟨Nat.le_of_ble_eq_true rfl, Nat.le_of_ble_eq_true rfl⟩ ⟨Nat.le_of_ble_eq_true rfl, Nat.le_of_ble_eq_true rfl⟩ (fR_k ?_) fR_x (Nat.le_of_ble_eq_true rfl) (Nat.le_of_ble_eq_true rfl)
        try dsimp only [Option.toList, List.cons_append, List.nil_append]
        refine v_iret hC dX12_make_41 hr (rfl) ?_ (Nat.le_of_ble_eq_true rfl) (Nat.le_of_ble_eq_true rfl)
        exact mg_f (by rw [show decide (mHo (G.2.1 0 30) 20 0 0 = 20) = true from decide_eq_true c_33]; rfl)
    · refine v_aload_n (i := 0) (q := 22) hC dX12_make_21 rfl rfl rfl ?_
      refine v_iconst (q := 23) (v := 1) hC dX12_make_22 rfl (by decide) ?_
      refine v_callV (q := 26) (rm := rm_X12_fails) hC (c_fl hl Θ _ _ _) k_X12_fails im_yX12_fails se_yX12_fails ml_RX12_76 dX12_make_23 rfl rfl rfl rfl rfl rfl (Nat.le_of_ble_eq_true rfl) ⟨Nat.le_of_ble_eq_true rfl, Nat.le_of_ble_eq_true rfl⟩ ⟨Nat.le_of_ble_eq_true rfl, Nat.le_of_ble_eq_true rfl⟩ (fR_k ?_) fR_x (Nat.le_of_ble_eq_true rfl) (Nat.le_of_ble_eq_true rfl)
      try dsimp only [Option.toList, List.cons_append, List.nil_append]
      refine v_iret hC dX12_make_26 hr (rfl) ?_ (Nat.le_of_ble_eq_true rfl) (Nat.le_of_ble_eq_true rfl)
      exact mg_f (by first | (rw [show mHold (G.2.1 0 30) pa = false from c_10]; rfl) | (rw [show mIn ow 0 (G.2.1 0 30 0 - 1) = false from c_18, Bool.and_false]))
set_option maxHeartbeats 4000000 in
set_option maxRecDepth 20000 in
theorem c_X12_remove {l : Launch} (hl : l.stackTraces = false) (Θ : cTH) (o : Int32) (G : GS) (hm : mInv G) : Ct l yX12_remove cX12_remove 3 (some .int) rm_X12_remove Θ [.ref (tR Θ 0 29), .int o] (G) (mg (mHold (G.2.1 0 30) o) 1 (mg (!(decide (o = 0) || decide (0 < mBls (G.2.1 0 30) o 20 0 0))) 2 (fR (some (.int (mHo (mZk (G.2.1 0 30) o.toNatClampNeg 36) 20 0 0))) (mWr (mZk (G.2.1 0 30) o.toNatClampNeg 36) (mC G))) (G)) (G)) := by
  refine ct_of (LS := [some (.ref (tR Θ 0 29)), some (.int o), none]) hl (by decide +kernel) rfl (Nat.le_of_ble_eq_true rfl) rfl ?_
  intro p e s m args below meth c hC hr
  have L : ∀ (o2 : Nat), o2 < 20 → ∀ (n j : Nat), n + j = 36 → V p l e rm_X12_remove s m args below meth c 3 Θ (fR (some (.int (mHo (mZk (G.2.1 0 30) o2 36) 20 0 0))) (mWr (mZk (G.2.1 0 30) o2 36) (mC G))) rm_X12_remove.cells rm_X12_remove.slots 0 0 43 [some (.ref (tR Θ 0 29)), some (.int (nI o2)), some (.int (nI j))] [] (mWr (mZk (G.2.1 0 30) o2 j) (mC G)) := by
    intro o2 ho n
    induction n with
    | zero =>
      intro j h1
      have ej : j = 36 := by omega
      subst ej
      refine v_iload_n (i := 2) (q := 44) hC dX12_remove_43 rfl rfl rfl ?_
      refine v_bipush (q := 46) (v := 36) hC dX12_remove_44 rfl (by decide) ?_
      refine v_icmp_ge (q := 66) (q2 := 49) hC dX12_remove_46 (by decide) rfl (fun c_46 => ?_) (fun c_46 => ?_)
      · refine v_aload_n (i := 0) (q := 67) hC dX12_remove_66 rfl rfl rfl ?_
        refine v_callV (q := 70) (rm := rm_X12_howManyObjects) hC (c_X12_howManyObjects hl Θ _) k_X12_howManyObjects im_yX12_howManyObjects se_yX12_howManyObjects ml_RX12_94 dX12_remove_67 rfl rfl rfl rfl rfl rfl (Nat.le_of_ble_eq_true rfl) ⟨Nat.le_of_ble_eq_true rfl, Nat.le_of_ble_eq_true rfl⟩ ⟨Nat.le_of_ble_eq_true rfl, Nat.le_of_ble_eq_true rfl⟩ (fR_k ?_) fR_x (Nat.le_of_ble_eq_true rfl) (Nat.le_of_ble_eq_true rfl)
        try dsimp only [Option.toList, List.cons_append, List.nil_append]
        rw [mWr_row]
        refine v_iret hC dX12_remove_70 hr (rfl) ?_ (Nat.le_of_ble_eq_true rfl) (Nat.le_of_ble_eq_true rfl)
        exact ⟨rfl, rfl⟩
      · exact absurd (by decide) c_46
    | succ n ih =>
      intro j h1
      refine v_iload_n (i := 2) (q := 44) hC dX12_remove_43 rfl rfl rfl ?_
      refine v_bipush (q := 46) (v := 36) hC dX12_remove_44 rfl (by decide) ?_
      refine v_icmp_ge (q := 66) (q2 := 49) hC dX12_remove_46 (by decide) rfl (fun c_46 => ?_) (fun c_46 => ?_)
      · exact absurd c_46 (by rw [show (36 : Int32) = nI 36 from rfl]; exact nI_ge (by omega) (by omega))
      · refine v_aload_n (i := 0) (q := 50) hC dX12_remove_49 rfl rfl rfl ?_
        refine g_X12_0 (q := 53) hC dX12_remove_50 rfl rfl fl_RX12_7 ?_
        refine v_iload_n (i := 1) (q := 54) hC dX12_remove_53 rfl rfl rfl ?_
        refine v_iload_n (i := 2) (q := 55) hC dX12_remove_54 rfl rfl rfl ?_
        refine v_callS (q := 58) (rm := rm_X12_at) hC (c_X12_at hl Θ o2 j _) k_X12_at st_yX12_at ml_RX12_50 dX12_remove_55 rfl  rfl rfl (Nat.le_of_ble_eq_true rfl) ⟨Nat.le_of_ble_eq_true rfl, Nat.le_of_ble_eq_true rfl⟩ ⟨Nat.le_of_ble_eq_true rfl, Nat.le_of_ble_eq_true rfl⟩ (fR_k ?_) fR_x (Nat.le_of_ble_eq_true rfl) (Nat.le_of_ble_eq_true rfl)
        try dsimp only [Option.toList, List.cons_append, List.nil_append]
        refine v_iconst (q := 59) (v := 0) hC dX12_remove_58 rfl (by decide) ?_
        refine v_mwr (i := oA o2 j) (q := 60) hC dX12_remove_59 rfl rfl (by unfold oA; omega) ?_
        refine v_iinc (q := 63) (v := nI (j + 1)) hC dX12_remove_60 rfl rfl (nI_1 j) (lvc rfl) (Nat.le_of_ble_eq_true rfl) (Nat.le_of_ble_eq_true rfl) rfl ?_
        refine v_goto (q := 43) hC dX12_remove_63 (by decide) ?_
        rw [mZk_step]
        exact ih (j + 1) (by omega)
  refine v_aload_n (i := 0) (q := 1) hC dX12_remove_0 rfl rfl rfl ?_
  refine v_iconst (q := 2) (v := 0) hC dX12_remove_1 rfl (by decide) ?_
  refine pm_last (q := 5) hC dX12_remove_2 rfl rfl fl_RX12_39 ?_
  refine v_aload_n (i := 0) (q := 6) hC dX12_remove_5 rfl rfl rfl ?_
  refine v_iload_n (i := 1) (q := 7) hC dX12_remove_6 rfl rfl rfl ?_
  refine v_callV (q := 10) (rm := rm_X12_isObject) hC (c_X12_isObject hl Θ _ _) k_X12_isObject im_yX12_isObject se_yX12_isObject ml_RX12_57 dX12_remove_7 rfl rfl rfl rfl rfl rfl (Nat.le_of_ble_eq_true rfl) ⟨Nat.le_of_ble_eq_true rfl, Nat.le_of_ble_eq_true rfl⟩ ⟨Nat.le_of_ble_eq_true rfl, Nat.le_of_ble_eq_true rfl⟩ (fR_k ?_) fR_x (Nat.le_of_ble_eq_true rfl) (Nat.le_of_ble_eq_true rfl)
  try dsimp only [Option.toList, List.cons_append, List.nil_append]
  refine v_ifb_ne (q := 19) (q2 := 13) hC dX12_remove_10 (by decide) rfl (fun c_10 => ?_) (fun c_10 => ?_)
  · rw [mg_t (show mHold (G.2.1 0 30) o = true from c_10)]
    refine v_iload_n (i := 1) (q := 20) hC dX12_remove_19 rfl rfl rfl ?_
    refine v_if_eq (q := 31) (q2 := 23) hC dX12_remove_20 (by decide) rfl (fun c_20 => ?_) (fun c_20 => ?_)
    · refine v_aload_n (i := 0) (q := 32) hC dX12_remove_31 rfl rfl rfl ?_
      refine v_iconst (q := 33) (v := 2) hC dX12_remove_32 rfl (by decide) ?_
      refine v_callV (q := 36) (rm := rm_X12_fails) hC (c_fl hl Θ _ _ _) k_X12_fails im_yX12_fails se_yX12_fails ml_RX12_76 dX12_remove_33 rfl rfl rfl rfl rfl rfl (Nat.le_of_ble_eq_true rfl) ⟨Nat.le_of_ble_eq_true rfl, Nat.le_of_ble_eq_true rfl⟩ ⟨Nat.le_of_ble_eq_true rfl, Nat.le_of_ble_eq_true rfl⟩ (fR_k ?_) fR_x (Nat.le_of_ble_eq_true rfl) (Nat.le_of_ble_eq_true rfl)
      try dsimp only [Option.toList, List.cons_append, List.nil_append]
      refine v_iret hC dX12_remove_36 hr (rfl) ?_ (Nat.le_of_ble_eq_true rfl) (Nat.le_of_ble_eq_true rfl)
      exact mg_f (by first | (rw [decide_eq_true c_20]; rfl) | (rw [show decide (0 < mBls (G.2.1 0 30) o 20 0 0) = true from decide_eq_true (Int32.not_le.mp c_28), Bool.or_true]; rfl))
    · refine v_aload_n (i := 0) (q := 24) hC dX12_remove_23 rfl rfl rfl ?_
      refine v_iload_n (i := 1) (q := 25) hC dX12_remove_24 rfl rfl rfl ?_
      refine v_callV (q := 28) (rm := rm_X12_belows) hC (c_X12_belows hl Θ _ _ hm.2.rk) k_X12_belows im_yX12_belows se_yX12_belows ml_RX12_98 dX12_remove_25 rfl rfl rfl rfl rfl rfl (Nat.le_of_ble_eq_true rfl) ⟨Nat.le_of_ble_eq_true rfl, Nat.le_of_ble_eq_true rfl⟩ ⟨Nat.le_of_ble_eq_true rfl, Nat.le_of_ble_eq_true rfl⟩ (fR_k ?_) fR_x (Nat.le_of_ble_eq_true rfl) (Nat.le_of_ble_eq_true rfl)
      try dsimp only [Option.toList, List.cons_append, List.nil_append]
      refine v_if_le (q := 37) (q2 := 31) hC dX12_remove_28 (by decide) rfl (fun c_28 => ?_) (fun c_28 => ?_)
      · rw [mg_t (by rw [decide_eq_false c_20, show decide (0 < mBls (G.2.1 0 30) o 20 0 0) = false from decide_eq_false (Int32.not_lt.mpr c_28)]; rfl)]
        refine v_aload_n (i := 0) (q := 38) hC dX12_remove_37 rfl rfl rfl ?_
        refine v_callV (q := 41) (rm := rm_X12_changes) hC (c_mC hl Θ _ hm) k_X12_changes im_yX12_changes se_yX12_changes ml_RX12_79 dX12_remove_38 rfl rfl rfl rfl rfl rfl (Nat.le_of_ble_eq_true rfl) ⟨Nat.le_of_ble_eq_true rfl, Nat.le_of_ble_eq_true rfl⟩ ⟨Nat.le_of_ble_eq_true rfl, Nat.le_of_ble_eq_true rfl⟩ (fR_k ?_) fR_x (Nat.le_of_ble_eq_true rfl) (Nat.le_of_ble_eq_true rfl)
        try dsimp only [Option.toList, List.cons_append, List.nil_append]
        refine v_iconst (q := 42) (v := 0) hC dX12_remove_41 rfl (by decide) ?_
        refine v_istore_n (i := 2) (q := 43) hC dX12_remove_42 rfl rfl (lvc rfl) (Nat.le_of_ble_eq_true rfl) (Nat.le_of_ble_eq_true rfl) rfl ?_
        obtain ⟨j, hj, rfl⟩ := mHold_nI c_10
        have h := L j hj 36 0 rfl
        rw [mZk_0, ← mC_w G, mWr_self] at h
        rw [nI_clamp (show j < 2 ^ 31 by omega), ← mC_w G]
        exact h
      · refine v_aload_n (i := 0) (q := 32) hC dX12_remove_31 rfl rfl rfl ?_
        refine v_iconst (q := 33) (v := 2) hC dX12_remove_32 rfl (by decide) ?_
        refine v_callV (q := 36) (rm := rm_X12_fails) hC (c_fl hl Θ _ _ _) k_X12_fails im_yX12_fails se_yX12_fails ml_RX12_76 dX12_remove_33 rfl rfl rfl rfl rfl rfl (Nat.le_of_ble_eq_true rfl) ⟨Nat.le_of_ble_eq_true rfl, Nat.le_of_ble_eq_true rfl⟩ ⟨Nat.le_of_ble_eq_true rfl, Nat.le_of_ble_eq_true rfl⟩ (fR_k ?_) fR_x (Nat.le_of_ble_eq_true rfl) (Nat.le_of_ble_eq_true rfl)
        try dsimp only [Option.toList, List.cons_append, List.nil_append]
        refine v_iret hC dX12_remove_36 hr (rfl) ?_ (Nat.le_of_ble_eq_true rfl) (Nat.le_of_ble_eq_true rfl)
        exact mg_f (by first | (rw [decide_eq_true c_20]; rfl) | (rw [show decide (0 < mBls (G.2.1 0 30) o 20 0 0) = true from decide_eq_true (Int32.not_le.mp c_28), Bool.or_true]; rfl))
  · refine v_aload_n (i := 0) (q := 14) hC dX12_remove_13 rfl rfl rfl ?_
    refine v_iconst (q := 15) (v := 1) hC dX12_remove_14 rfl (by decide) ?_
    refine v_callV (q := 18) (rm := rm_X12_fails) hC (c_fl hl Θ _ _ _) k_X12_fails im_yX12_fails se_yX12_fails ml_RX12_76 dX12_remove_15 rfl rfl rfl rfl rfl rfl (Nat.le_of_ble_eq_true rfl) ⟨Nat.le_of_ble_eq_true rfl, Nat.le_of_ble_eq_true rfl⟩ ⟨Nat.le_of_ble_eq_true rfl, Nat.le_of_ble_eq_true rfl⟩ (fR_k ?_) fR_x (Nat.le_of_ble_eq_true rfl) (Nat.le_of_ble_eq_true rfl)
    try dsimp only [Option.toList, List.cons_append, List.nil_append]
    refine v_iret hC dX12_remove_18 hr (rfl) ?_ (Nat.le_of_ble_eq_true rfl) (Nat.le_of_ble_eq_true rfl)
    exact mg_f c_10
set_option maxHeartbeats 4000000 in
set_option maxRecDepth 20000 in
theorem c_X12_move {l : Launch} (hl : l.stackTraces = false) (Θ : cTH) (o pa : Int32) (G : GS) (hm : mInv G) : Ct l yX12_move cX12_move 4 (some .int) rm_X12_move Θ [.ref (tR Θ 0 29), .int o, .int pa] (G) (mg (mHold (G.2.1 0 30) o && mHold (G.2.1 0 30) pa) 1 (mg (!(decide (o = 0) || (decide (pa = o) || mBlw (G.2.1 0 30) pa.toNatClampNeg o))) 2 (fR (some (.int ((mC G).2.1 0 30 (oA o.toNatClampNeg 1)))) (mUp (oA o.toNatClampNeg 1) pa (mC G))) (G)) (G)) := by
  refine ct_of (LS := [some (.ref (tR Θ 0 29)), some (.int o), some (.int pa), none]) hl (by decide +kernel) rfl (Nat.le_of_ble_eq_true rfl) rfl ?_
  intro p e s m args below meth c hC hr
  refine v_aload_n (i := 0) (q := 1) hC dX12_move_0 rfl rfl rfl ?_
  refine v_iconst (q := 2) (v := 0) hC dX12_move_1 rfl (by decide) ?_
  refine pm_last (q := 5) hC dX12_move_2 rfl rfl fl_RX12_39 ?_
  refine v_aload_n (i := 0) (q := 6) hC dX12_move_5 rfl rfl rfl ?_
  refine v_iload_n (i := 1) (q := 7) hC dX12_move_6 rfl rfl rfl ?_
  refine v_callV (q := 10) (rm := rm_X12_isObject) hC (c_X12_isObject hl Θ _ _) k_X12_isObject im_yX12_isObject se_yX12_isObject ml_RX12_57 dX12_move_7 rfl rfl rfl rfl rfl rfl (Nat.le_of_ble_eq_true rfl) ⟨Nat.le_of_ble_eq_true rfl, Nat.le_of_ble_eq_true rfl⟩ ⟨Nat.le_of_ble_eq_true rfl, Nat.le_of_ble_eq_true rfl⟩ (fR_k ?_) fR_x (Nat.le_of_ble_eq_true rfl) (Nat.le_of_ble_eq_true rfl)
  try dsimp only [Option.toList, List.cons_append, List.nil_append]
  refine v_ifb_eq (q := 21) (q2 := 13) hC dX12_move_10 (by decide) rfl (fun c_10 => ?_) (fun c_10 => ?_)
  · refine v_aload_n (i := 0) (q := 22) hC dX12_move_21 rfl rfl rfl ?_
    refine v_iconst (q := 23) (v := 1) hC dX12_move_22 rfl (by decide) ?_
    refine v_callV (q := 26) (rm := rm_X12_fails) hC (c_fl hl Θ _ _ _) k_X12_fails im_yX12_fails se_yX12_fails ml_RX12_76 dX12_move_23 rfl rfl rfl rfl rfl rfl (Nat.le_of_ble_eq_true rfl) ⟨Nat.le_of_ble_eq_true rfl, Nat.le_of_ble_eq_true rfl⟩ ⟨Nat.le_of_ble_eq_true rfl, Nat.le_of_ble_eq_true rfl⟩ (fR_k ?_) fR_x (Nat.le_of_ble_eq_true rfl) (Nat.le_of_ble_eq_true rfl)
    try dsimp only [Option.toList, List.cons_append, List.nil_append]
    refine v_iret hC dX12_move_26 hr (rfl) ?_ (Nat.le_of_ble_eq_true rfl) (Nat.le_of_ble_eq_true rfl)
    exact mg_f (by first | (rw [show mHold (G.2.1 0 30) o = false from c_10]; rfl) | (rw [show mHold (G.2.1 0 30) pa = false from c_18, Bool.and_false]))
  · refine v_aload_n (i := 0) (q := 14) hC dX12_move_13 rfl rfl rfl ?_
    refine v_iload_n (i := 2) (q := 15) hC dX12_move_14 rfl rfl rfl ?_
    refine v_callV (q := 18) (rm := rm_X12_isObject) hC (c_X12_isObject hl Θ _ _) k_X12_isObject im_yX12_isObject se_yX12_isObject ml_RX12_57 dX12_move_15 rfl rfl rfl rfl rfl rfl (Nat.le_of_ble_eq_true rfl) ⟨Nat.le_of_ble_eq_true rfl, Nat.le_of_ble_eq_true rfl⟩ ⟨Nat.le_of_ble_eq_true rfl, Nat.le_of_ble_eq_true rfl⟩ (fR_k ?_) fR_x (Nat.le_of_ble_eq_true rfl) (Nat.le_of_ble_eq_true rfl)
    try dsimp only [Option.toList, List.cons_append, List.nil_append]
    refine v_ifb_ne (q := 27) (q2 := 21) hC dX12_move_18 (by decide) rfl (fun c_18 => ?_) (fun c_18 => ?_)
    · rw [mg_t (by rw [show mHold (G.2.1 0 30) o = true from c_10, show mHold (G.2.1 0 30) pa = true from c_18]; rfl)]
      obtain ⟨j, hj, rfl⟩ := mHold_nI c_10
      obtain ⟨j2, hj2, rfl⟩ := mHold_nI c_18
      rw [nI_clamp (show j < 2 ^ 31 by omega), nI_clamp (show j2 < 2 ^ 31 by omega)]
      refine v_iload_n (i := 1) (q := 28) hC dX12_move_27 rfl rfl rfl ?_
      refine v_if_eq (q := 45) (q2 := 31) hC dX12_move_28 (by decide) rfl (fun c_28 => ?_) (fun c_28 => ?_)
      · refine v_aload_n (i := 0) (q := 46) hC dX12_move_45 rfl rfl rfl ?_
        refine v_iconst (q := 47) (v := 2) hC dX12_move_46 rfl (by decide) ?_
        refine v_callV (q := 50) (rm := rm_X12_fails) hC (c_fl hl Θ _ _ _) k_X12_fails im_yX12_fails se_yX12_fails ml_RX12_76 dX12_move_47 rfl rfl rfl rfl rfl rfl (Nat.le_of_ble_eq_true rfl) ⟨Nat.le_of_ble_eq_true rfl, Nat.le_of_ble_eq_true rfl⟩ ⟨Nat.le_of_ble_eq_true rfl, Nat.le_of_ble_eq_true rfl⟩ (fR_k ?_) fR_x (Nat.le_of_ble_eq_true rfl) (Nat.le_of_ble_eq_true rfl)
        try dsimp only [Option.toList, List.cons_append, List.nil_append]
        refine v_iret hC dX12_move_50 hr (rfl) ?_ (Nat.le_of_ble_eq_true rfl) (Nat.le_of_ble_eq_true rfl)
        exact mg_f (by first | (rw [decide_eq_true c_28]; rfl) | (rw [decide_eq_true c_33, Bool.true_or, Bool.or_true]; rfl) | (rw [show mBlw (G.2.1 0 30) j2 (nI j) = true from c_42, Bool.or_true, Bool.or_true]; rfl))
      · refine v_iload_n (i := 2) (q := 32) hC dX12_move_31 rfl rfl rfl ?_
        refine v_iload_n (i := 1) (q := 33) hC dX12_move_32 rfl rfl rfl ?_
        refine v_icmp_eq (q := 45) (q2 := 36) hC dX12_move_33 (by decide) rfl (fun c_33 => ?_) (fun c_33 => ?_)
        · refine v_aload_n (i := 0) (q := 46) hC dX12_move_45 rfl rfl rfl ?_
          refine v_iconst (q := 47) (v := 2) hC dX12_move_46 rfl (by decide) ?_
          refine v_callV (q := 50) (rm := rm_X12_fails) hC (c_fl hl Θ _ _ _) k_X12_fails im_yX12_fails se_yX12_fails ml_RX12_76 dX12_move_47 rfl rfl rfl rfl rfl rfl (Nat.le_of_ble_eq_true rfl) ⟨Nat.le_of_ble_eq_true rfl, Nat.le_of_ble_eq_true rfl⟩ ⟨Nat.le_of_ble_eq_true rfl, Nat.le_of_ble_eq_true rfl⟩ (fR_k ?_) fR_x (Nat.le_of_ble_eq_true rfl) (Nat.le_of_ble_eq_true rfl)
          try dsimp only [Option.toList, List.cons_append, List.nil_append]
          refine v_iret hC dX12_move_50 hr (rfl) ?_ (Nat.le_of_ble_eq_true rfl) (Nat.le_of_ble_eq_true rfl)
          exact mg_f (by first | (rw [decide_eq_true c_28]; rfl) | (rw [decide_eq_true c_33, Bool.true_or, Bool.or_true]; rfl) | (rw [show mBlw (G.2.1 0 30) j2 (nI j) = true from c_42, Bool.or_true, Bool.or_true]; rfl))
        · refine v_aload_n (i := 0) (q := 37) hC dX12_move_36 rfl rfl rfl ?_
          refine v_iload_n (i := 2) (q := 38) hC dX12_move_37 rfl rfl rfl ?_
          refine v_iload_n (i := 1) (q := 39) hC dX12_move_38 rfl rfl rfl ?_
          refine v_callV (q := 42) (rm := rm_X12_isBelow) hC (c_X12_isBelow hl Θ j2 _ _ hj2 hm.2.rk) k_X12_isBelow im_yX12_isBelow se_yX12_isBelow ml_RX12_91 dX12_move_39 rfl rfl rfl rfl rfl rfl (Nat.le_of_ble_eq_true rfl) ⟨Nat.le_of_ble_eq_true rfl, Nat.le_of_ble_eq_true rfl⟩ ⟨Nat.le_of_ble_eq_true rfl, Nat.le_of_ble_eq_true rfl⟩ (fR_k ?_) fR_x (Nat.le_of_ble_eq_true rfl) (Nat.le_of_ble_eq_true rfl)
          try dsimp only [Option.toList, List.cons_append, List.nil_append]
          refine v_ifb_eq (q := 51) (q2 := 45) hC dX12_move_42 (by decide) rfl (fun c_42 => ?_) (fun c_42 => ?_)
          · rw [mg_t (by rw [decide_eq_false c_28, decide_eq_false c_33, show mBlw (G.2.1 0 30) j2 (nI j) = false from c_42]; rfl)]
            refine v_aload_n (i := 0) (q := 52) hC dX12_move_51 rfl rfl rfl ?_
            refine v_callV (q := 55) (rm := rm_X12_changes) hC (c_mC hl Θ _ hm) k_X12_changes im_yX12_changes se_yX12_changes ml_RX12_79 dX12_move_52 rfl rfl rfl rfl rfl rfl (Nat.le_of_ble_eq_true rfl) ⟨Nat.le_of_ble_eq_true rfl, Nat.le_of_ble_eq_true rfl⟩ ⟨Nat.le_of_ble_eq_true rfl, Nat.le_of_ble_eq_true rfl⟩ (fR_k ?_) fR_x (Nat.le_of_ble_eq_true rfl) (Nat.le_of_ble_eq_true rfl)
            try dsimp only [Option.toList, List.cons_append, List.nil_append]
            refine v_aload_n (i := 0) (q := 56) hC dX12_move_55 rfl rfl rfl ?_
            refine v_iload_n (i := 1) (q := 57) hC dX12_move_56 rfl rfl rfl ?_
            refine v_iconst (q := 58) (v := 1) hC dX12_move_57 rfl (by decide) ?_
            refine v_callV (q := 61) (rm := rm_X12_of) hC (c_X12_of hl Θ _ 1 _ (by unfold oA; omega)) k_X12_of im_yX12_of se_yX12_of ml_RX12_54 dX12_move_58 rfl rfl rfl rfl rfl rfl (Nat.le_of_ble_eq_true rfl) ⟨Nat.le_of_ble_eq_true rfl, Nat.le_of_ble_eq_true rfl⟩ ⟨Nat.le_of_ble_eq_true rfl, Nat.le_of_ble_eq_true rfl⟩ (fR_k ?_) fR_x (Nat.le_of_ble_eq_true rfl) (Nat.le_of_ble_eq_true rfl)
            try dsimp only [Option.toList, List.cons_append, List.nil_append]
            refine v_istore_n (i := 3) (q := 62) hC dX12_move_61 rfl rfl (lvc rfl) (Nat.le_of_ble_eq_true rfl) (Nat.le_of_ble_eq_true rfl) rfl ?_
            refine v_aload_n (i := 0) (q := 63) hC dX12_move_62 rfl rfl rfl ?_
            refine g_X12_0 (q := 66) hC dX12_move_63 rfl rfl fl_RX12_7 ?_
            refine v_iload_n (i := 1) (q := 67) hC dX12_move_66 rfl rfl rfl ?_
            refine v_iconst (q := 68) (v := 1) hC dX12_move_67 rfl (by decide) ?_
            refine v_callS (q := 71) (rm := rm_X12_at) hC (c_X12_at hl Θ _ 1 _) k_X12_at st_yX12_at ml_RX12_50 dX12_move_68 rfl  rfl rfl (Nat.le_of_ble_eq_true rfl) ⟨Nat.le_of_ble_eq_true rfl, Nat.le_of_ble_eq_true rfl⟩ ⟨Nat.le_of_ble_eq_true rfl, Nat.le_of_ble_eq_true rfl⟩ (fR_k ?_) fR_x (Nat.le_of_ble_eq_true rfl) (Nat.le_of_ble_eq_true rfl)
            try dsimp only [Option.toList, List.cons_append, List.nil_append]
            refine v_iload_n (i := 2) (q := 72) hC dX12_move_71 rfl rfl rfl ?_
            refine v_mup (i := oA j 1) (q := 73) hC dX12_move_72 rfl rfl (by unfold oA; omega) ?_
            refine v_iload_n (i := 3) (q := 74) hC dX12_move_73 rfl rfl rfl ?_
            refine v_iret hC dX12_move_74 hr (rfl) ?_ (Nat.le_of_ble_eq_true rfl) (Nat.le_of_ble_eq_true rfl)
            exact ⟨rfl, rfl⟩
          · refine v_aload_n (i := 0) (q := 46) hC dX12_move_45 rfl rfl rfl ?_
            refine v_iconst (q := 47) (v := 2) hC dX12_move_46 rfl (by decide) ?_
            refine v_callV (q := 50) (rm := rm_X12_fails) hC (c_fl hl Θ _ _ _) k_X12_fails im_yX12_fails se_yX12_fails ml_RX12_76 dX12_move_47 rfl rfl rfl rfl rfl rfl (Nat.le_of_ble_eq_true rfl) ⟨Nat.le_of_ble_eq_true rfl, Nat.le_of_ble_eq_true rfl⟩ ⟨Nat.le_of_ble_eq_true rfl, Nat.le_of_ble_eq_true rfl⟩ (fR_k ?_) fR_x (Nat.le_of_ble_eq_true rfl) (Nat.le_of_ble_eq_true rfl)
            try dsimp only [Option.toList, List.cons_append, List.nil_append]
            refine v_iret hC dX12_move_50 hr (rfl) ?_ (Nat.le_of_ble_eq_true rfl) (Nat.le_of_ble_eq_true rfl)
            exact mg_f (by first | (rw [decide_eq_true c_28]; rfl) | (rw [decide_eq_true c_33, Bool.true_or, Bool.or_true]; rfl) | (rw [show mBlw (G.2.1 0 30) j2 (nI j) = true from c_42, Bool.or_true, Bool.or_true]; rfl))
    · refine v_aload_n (i := 0) (q := 22) hC dX12_move_21 rfl rfl rfl ?_
      refine v_iconst (q := 23) (v := 1) hC dX12_move_22 rfl (by decide) ?_
      refine v_callV (q := 26) (rm := rm_X12_fails) hC (c_fl hl Θ _ _ _) k_X12_fails im_yX12_fails se_yX12_fails ml_RX12_76 dX12_move_23 rfl rfl rfl rfl rfl rfl (Nat.le_of_ble_eq_true rfl) ⟨Nat.le_of_ble_eq_true rfl, Nat.le_of_ble_eq_true rfl⟩ ⟨Nat.le_of_ble_eq_true rfl, Nat.le_of_ble_eq_true rfl⟩ (fR_k ?_) fR_x (Nat.le_of_ble_eq_true rfl) (Nat.le_of_ble_eq_true rfl)
      try dsimp only [Option.toList, List.cons_append, List.nil_append]
      refine v_iret hC dX12_move_26 hr (rfl) ?_ (Nat.le_of_ble_eq_true rfl) (Nat.le_of_ble_eq_true rfl)
      exact mg_f (by first | (rw [show mHold (G.2.1 0 30) o = false from c_10]; rfl) | (rw [show mHold (G.2.1 0 30) pa = false from c_18, Bool.and_false]))
set_option maxHeartbeats 4000000 in
set_option maxRecDepth 20000 in
theorem c_X12_giveTo {l : Launch} (hl : l.stackTraces = false) (Θ : cTH) (o ow : Int32) (G : GS) (hm : mInv G) : Ct l yX12_giveTo cX12_giveTo 4 (some .int) rm_X12_giveTo Θ [.ref (tR Θ 0 29), .int o, .int ow] (G) (mg (mHold (G.2.1 0 30) o && mIn ow 0 (G.2.1 0 30 0 - 1)) 1 (fR (some (.int ((mC G).2.1 0 30 (oA o.toNatClampNeg 2)))) (mUp (oA o.toNatClampNeg 2) ow (mC G))) (G)) := by
  refine ct_of (LS := [some (.ref (tR Θ 0 29)), some (.int o), some (.int ow), none]) hl (by decide +kernel) rfl (Nat.le_of_ble_eq_true rfl) rfl ?_
  intro p e s m args below meth c hC hr
  refine v_aload_n (i := 0) (q := 1) hC dX12_giveTo_0 rfl rfl rfl ?_
  refine v_iconst (q := 2) (v := 0) hC dX12_giveTo_1 rfl (by decide) ?_
  refine pm_last (q := 5) hC dX12_giveTo_2 rfl rfl fl_RX12_39 ?_
  refine v_aload_n (i := 0) (q := 6) hC dX12_giveTo_5 rfl rfl rfl ?_
  refine v_iload_n (i := 1) (q := 7) hC dX12_giveTo_6 rfl rfl rfl ?_
  refine v_callV (q := 10) (rm := rm_X12_isObject) hC (c_X12_isObject hl Θ _ _) k_X12_isObject im_yX12_isObject se_yX12_isObject ml_RX12_57 dX12_giveTo_7 rfl rfl rfl rfl rfl rfl (Nat.le_of_ble_eq_true rfl) ⟨Nat.le_of_ble_eq_true rfl, Nat.le_of_ble_eq_true rfl⟩ ⟨Nat.le_of_ble_eq_true rfl, Nat.le_of_ble_eq_true rfl⟩ (fR_k ?_) fR_x (Nat.le_of_ble_eq_true rfl) (Nat.le_of_ble_eq_true rfl)
  try dsimp only [Option.toList, List.cons_append, List.nil_append]
  refine v_ifb_eq (q := 21) (q2 := 13) hC dX12_giveTo_10 (by decide) rfl (fun c_10 => ?_) (fun c_10 => ?_)
  · refine v_aload_n (i := 0) (q := 22) hC dX12_giveTo_21 rfl rfl rfl ?_
    refine v_iconst (q := 23) (v := 1) hC dX12_giveTo_22 rfl (by decide) ?_
    refine v_callV (q := 26) (rm := rm_X12_fails) hC (c_fl hl Θ _ _ _) k_X12_fails im_yX12_fails se_yX12_fails ml_RX12_76 dX12_giveTo_23 rfl rfl rfl rfl rfl rfl (Nat.le_of_ble_eq_true rfl) ⟨Nat.le_of_ble_eq_true rfl, Nat.le_of_ble_eq_true rfl⟩ ⟨Nat.le_of_ble_eq_true rfl, Nat.le_of_ble_eq_true rfl⟩ (fR_k ?_) fR_x (Nat.le_of_ble_eq_true rfl) (Nat.le_of_ble_eq_true rfl)
    try dsimp only [Option.toList, List.cons_append, List.nil_append]
    refine v_iret hC dX12_giveTo_26 hr (rfl) ?_ (Nat.le_of_ble_eq_true rfl) (Nat.le_of_ble_eq_true rfl)
    exact mg_f (by first | (rw [show mHold (G.2.1 0 30) o = false from c_10]; rfl) | (rw [show mIn ow 0 (G.2.1 0 30 0 - 1) = false from c_18, Bool.and_false]))
  · refine v_aload_n (i := 0) (q := 14) hC dX12_giveTo_13 rfl rfl rfl ?_
    refine v_iload_n (i := 2) (q := 15) hC dX12_giveTo_14 rfl rfl rfl ?_
    refine v_callV (q := 18) (rm := rm_X12_isUser) hC (c_X12_isUser hl Θ _ _) k_X12_isUser im_yX12_isUser se_yX12_isUser ml_RX12_82 dX12_giveTo_15 rfl rfl rfl rfl rfl rfl (Nat.le_of_ble_eq_true rfl) ⟨Nat.le_of_ble_eq_true rfl, Nat.le_of_ble_eq_true rfl⟩ ⟨Nat.le_of_ble_eq_true rfl, Nat.le_of_ble_eq_true rfl⟩ (fR_k ?_) fR_x (Nat.le_of_ble_eq_true rfl) (Nat.le_of_ble_eq_true rfl)
    try dsimp only [Option.toList, List.cons_append, List.nil_append]
    refine v_ifb_ne (q := 27) (q2 := 21) hC dX12_giveTo_18 (by decide) rfl (fun c_18 => ?_) (fun c_18 => ?_)
    · rw [mg_t (by rw [show mHold (G.2.1 0 30) o = true from c_10, show mIn ow 0 (G.2.1 0 30 0 - 1) = true from c_18]; rfl)]
      obtain ⟨j, hj, rfl⟩ := mHold_nI c_10
      rw [nI_clamp (show j < 2 ^ 31 by omega)]
      refine v_aload_n (i := 0) (q := 28) hC dX12_giveTo_27 rfl rfl rfl ?_
      refine v_callV (q := 31) (rm := rm_X12_changes) hC (c_mC hl Θ _ hm) k_X12_changes im_yX12_changes se_yX12_changes ml_RX12_79 dX12_giveTo_28 rfl rfl rfl rfl rfl rfl (Nat.le_of_ble_eq_true rfl) ⟨Nat.le_of_ble_eq_true rfl, Nat.le_of_ble_eq_true rfl⟩ ⟨Nat.le_of_ble_eq_true rfl, Nat.le_of_ble_eq_true rfl⟩ (fR_k ?_) fR_x (Nat.le_of_ble_eq_true rfl) (Nat.le_of_ble_eq_true rfl)
      try dsimp only [Option.toList, List.cons_append, List.nil_append]
      refine v_aload_n (i := 0) (q := 32) hC dX12_giveTo_31 rfl rfl rfl ?_
      refine v_iload_n (i := 1) (q := 33) hC dX12_giveTo_32 rfl rfl rfl ?_
      refine v_iconst (q := 34) (v := 2) hC dX12_giveTo_33 rfl (by decide) ?_
      refine v_callV (q := 37) (rm := rm_X12_of) hC (c_X12_of hl Θ _ 2 _ (by unfold oA; omega)) k_X12_of im_yX12_of se_yX12_of ml_RX12_54 dX12_giveTo_34 rfl rfl rfl rfl rfl rfl (Nat.le_of_ble_eq_true rfl) ⟨Nat.le_of_ble_eq_true rfl, Nat.le_of_ble_eq_true rfl⟩ ⟨Nat.le_of_ble_eq_true rfl, Nat.le_of_ble_eq_true rfl⟩ (fR_k ?_) fR_x (Nat.le_of_ble_eq_true rfl) (Nat.le_of_ble_eq_true rfl)
      try dsimp only [Option.toList, List.cons_append, List.nil_append]
      refine v_istore_n (i := 3) (q := 38) hC dX12_giveTo_37 rfl rfl (lvc rfl) (Nat.le_of_ble_eq_true rfl) (Nat.le_of_ble_eq_true rfl) rfl ?_
      refine v_aload_n (i := 0) (q := 39) hC dX12_giveTo_38 rfl rfl rfl ?_
      refine g_X12_0 (q := 42) hC dX12_giveTo_39 rfl rfl fl_RX12_7 ?_
      refine v_iload_n (i := 1) (q := 43) hC dX12_giveTo_42 rfl rfl rfl ?_
      refine v_iconst (q := 44) (v := 2) hC dX12_giveTo_43 rfl (by decide) ?_
      refine v_callS (q := 47) (rm := rm_X12_at) hC (c_X12_at hl Θ _ 2 _) k_X12_at st_yX12_at ml_RX12_50 dX12_giveTo_44 rfl  rfl rfl (Nat.le_of_ble_eq_true rfl) ⟨Nat.le_of_ble_eq_true rfl, Nat.le_of_ble_eq_true rfl⟩ ⟨Nat.le_of_ble_eq_true rfl, Nat.le_of_ble_eq_true rfl⟩ (fR_k ?_) fR_x (Nat.le_of_ble_eq_true rfl) (Nat.le_of_ble_eq_true rfl)
      try dsimp only [Option.toList, List.cons_append, List.nil_append]
      refine v_iload_n (i := 2) (q := 48) hC dX12_giveTo_47 rfl rfl rfl ?_
      refine v_mup (i := oA j 2) (q := 49) hC dX12_giveTo_48 rfl rfl (by unfold oA; omega) ?_
      refine v_iload_n (i := 3) (q := 50) hC dX12_giveTo_49 rfl rfl rfl ?_
      refine v_iret hC dX12_giveTo_50 hr (rfl) ?_ (Nat.le_of_ble_eq_true rfl) (Nat.le_of_ble_eq_true rfl)
      exact ⟨rfl, rfl⟩
    · refine v_aload_n (i := 0) (q := 22) hC dX12_giveTo_21 rfl rfl rfl ?_
      refine v_iconst (q := 23) (v := 1) hC dX12_giveTo_22 rfl (by decide) ?_
      refine v_callV (q := 26) (rm := rm_X12_fails) hC (c_fl hl Θ _ _ _) k_X12_fails im_yX12_fails se_yX12_fails ml_RX12_76 dX12_giveTo_23 rfl rfl rfl rfl rfl rfl (Nat.le_of_ble_eq_true rfl) ⟨Nat.le_of_ble_eq_true rfl, Nat.le_of_ble_eq_true rfl⟩ ⟨Nat.le_of_ble_eq_true rfl, Nat.le_of_ble_eq_true rfl⟩ (fR_k ?_) fR_x (Nat.le_of_ble_eq_true rfl) (Nat.le_of_ble_eq_true rfl)
      try dsimp only [Option.toList, List.cons_append, List.nil_append]
      refine v_iret hC dX12_giveTo_26 hr (rfl) ?_ (Nat.le_of_ble_eq_true rfl) (Nat.le_of_ble_eq_true rfl)
      exact mg_f (by first | (rw [show mHold (G.2.1 0 30) o = false from c_10]; rfl) | (rw [show mIn ow 0 (G.2.1 0 30 0 - 1) = false from c_18, Bool.and_false]))
set_option maxHeartbeats 4000000 in
set_option maxRecDepth 20000 in
theorem c_X12_setMask {l : Launch} (hl : l.stackTraces = false) (Θ : cTH) (o r : Int32) (G : GS) (hm : mInv G) : Ct l yX12_setMask cX12_setMask 4 (some .int) rm_X12_setMask Θ [.ref (tR Θ 0 29), .int o, .int r] (G) (mg (mHold (G.2.1 0 30) o) 1 (mg (mIn r 0 15) 2 (fR (some (.int ((mC G).2.1 0 30 (oA o.toNatClampNeg 3)))) (mUp (oA o.toNatClampNeg 3) r (mC G))) (G)) (G)) := by
  refine ct_of (LS := [some (.ref (tR Θ 0 29)), some (.int o), some (.int r), none]) hl (by decide +kernel) rfl (Nat.le_of_ble_eq_true rfl) rfl ?_
  intro p e s m args below meth c hC hr
  refine v_aload_n (i := 0) (q := 1) hC dX12_setMask_0 rfl rfl rfl ?_
  refine v_iconst (q := 2) (v := 0) hC dX12_setMask_1 rfl (by decide) ?_
  refine pm_last (q := 5) hC dX12_setMask_2 rfl rfl fl_RX12_39 ?_
  refine v_aload_n (i := 0) (q := 6) hC dX12_setMask_5 rfl rfl rfl ?_
  refine v_iload_n (i := 1) (q := 7) hC dX12_setMask_6 rfl rfl rfl ?_
  refine v_callV (q := 10) (rm := rm_X12_isObject) hC (c_X12_isObject hl Θ _ _) k_X12_isObject im_yX12_isObject se_yX12_isObject ml_RX12_57 dX12_setMask_7 rfl rfl rfl rfl rfl rfl (Nat.le_of_ble_eq_true rfl) ⟨Nat.le_of_ble_eq_true rfl, Nat.le_of_ble_eq_true rfl⟩ ⟨Nat.le_of_ble_eq_true rfl, Nat.le_of_ble_eq_true rfl⟩ (fR_k ?_) fR_x (Nat.le_of_ble_eq_true rfl) (Nat.le_of_ble_eq_true rfl)
  try dsimp only [Option.toList, List.cons_append, List.nil_append]
  refine v_ifb_ne (q := 19) (q2 := 13) hC dX12_setMask_10 (by decide) rfl (fun c_10 => ?_) (fun c_10 => ?_)
  · rw [mg_t (show mHold (G.2.1 0 30) o = true from c_10)]
    obtain ⟨j, hj, rfl⟩ := mHold_nI c_10
    rw [nI_clamp (show j < 2 ^ 31 by omega)]
    refine v_iload_n (i := 2) (q := 20) hC dX12_setMask_19 rfl rfl rfl ?_
    refine v_iconst (q := 21) (v := 0) hC dX12_setMask_20 rfl (by decide) ?_
    refine v_bipush (q := 23) (v := 15) hC dX12_setMask_21 rfl (by decide) ?_
    refine v_callS (q := 26) (rm := rm_X12_in) hC (c_X12_in hl Θ _ _ _ _) k_X12_in st_yX12_in ml_RX12_46 dX12_setMask_23 rfl  rfl rfl (Nat.le_of_ble_eq_true rfl) ⟨Nat.le_of_ble_eq_true rfl, Nat.le_of_ble_eq_true rfl⟩ ⟨Nat.le_of_ble_eq_true rfl, Nat.le_of_ble_eq_true rfl⟩ (fR_k ?_) fR_x (Nat.le_of_ble_eq_true rfl) (Nat.le_of_ble_eq_true rfl)
    try dsimp only [Option.toList, List.cons_append, List.nil_append]
    refine v_ifb_ne (q := 35) (q2 := 29) hC dX12_setMask_26 (by decide) rfl (fun c_26 => ?_) (fun c_26 => ?_)
    · rw [mg_t c_26]
      refine v_aload_n (i := 0) (q := 36) hC dX12_setMask_35 rfl rfl rfl ?_
      refine v_callV (q := 39) (rm := rm_X12_changes) hC (c_mC hl Θ _ hm) k_X12_changes im_yX12_changes se_yX12_changes ml_RX12_79 dX12_setMask_36 rfl rfl rfl rfl rfl rfl (Nat.le_of_ble_eq_true rfl) ⟨Nat.le_of_ble_eq_true rfl, Nat.le_of_ble_eq_true rfl⟩ ⟨Nat.le_of_ble_eq_true rfl, Nat.le_of_ble_eq_true rfl⟩ (fR_k ?_) fR_x (Nat.le_of_ble_eq_true rfl) (Nat.le_of_ble_eq_true rfl)
      try dsimp only [Option.toList, List.cons_append, List.nil_append]
      refine v_aload_n (i := 0) (q := 40) hC dX12_setMask_39 rfl rfl rfl ?_
      refine v_iload_n (i := 1) (q := 41) hC dX12_setMask_40 rfl rfl rfl ?_
      refine v_iconst (q := 42) (v := 3) hC dX12_setMask_41 rfl (by decide) ?_
      refine v_callV (q := 45) (rm := rm_X12_of) hC (c_X12_of hl Θ _ 3 _ (by unfold oA; omega)) k_X12_of im_yX12_of se_yX12_of ml_RX12_54 dX12_setMask_42 rfl rfl rfl rfl rfl rfl (Nat.le_of_ble_eq_true rfl) ⟨Nat.le_of_ble_eq_true rfl, Nat.le_of_ble_eq_true rfl⟩ ⟨Nat.le_of_ble_eq_true rfl, Nat.le_of_ble_eq_true rfl⟩ (fR_k ?_) fR_x (Nat.le_of_ble_eq_true rfl) (Nat.le_of_ble_eq_true rfl)
      try dsimp only [Option.toList, List.cons_append, List.nil_append]
      refine v_istore_n (i := 3) (q := 46) hC dX12_setMask_45 rfl rfl (lvc rfl) (Nat.le_of_ble_eq_true rfl) (Nat.le_of_ble_eq_true rfl) rfl ?_
      refine v_aload_n (i := 0) (q := 47) hC dX12_setMask_46 rfl rfl rfl ?_
      refine g_X12_0 (q := 50) hC dX12_setMask_47 rfl rfl fl_RX12_7 ?_
      refine v_iload_n (i := 1) (q := 51) hC dX12_setMask_50 rfl rfl rfl ?_
      refine v_iconst (q := 52) (v := 3) hC dX12_setMask_51 rfl (by decide) ?_
      refine v_callS (q := 55) (rm := rm_X12_at) hC (c_X12_at hl Θ _ 3 _) k_X12_at st_yX12_at ml_RX12_50 dX12_setMask_52 rfl  rfl rfl (Nat.le_of_ble_eq_true rfl) ⟨Nat.le_of_ble_eq_true rfl, Nat.le_of_ble_eq_true rfl⟩ ⟨Nat.le_of_ble_eq_true rfl, Nat.le_of_ble_eq_true rfl⟩ (fR_k ?_) fR_x (Nat.le_of_ble_eq_true rfl) (Nat.le_of_ble_eq_true rfl)
      try dsimp only [Option.toList, List.cons_append, List.nil_append]
      refine v_iload_n (i := 2) (q := 56) hC dX12_setMask_55 rfl rfl rfl ?_
      refine v_mup (i := oA j 3) (q := 57) hC dX12_setMask_56 rfl rfl (by unfold oA; omega) ?_
      refine v_iload_n (i := 3) (q := 58) hC dX12_setMask_57 rfl rfl rfl ?_
      refine v_iret hC dX12_setMask_58 hr (rfl) ?_ (Nat.le_of_ble_eq_true rfl) (Nat.le_of_ble_eq_true rfl)
      exact ⟨rfl, rfl⟩
    · refine v_aload_n (i := 0) (q := 30) hC dX12_setMask_29 rfl rfl rfl ?_
      refine v_iconst (q := 31) (v := 2) hC dX12_setMask_30 rfl (by decide) ?_
      refine v_callV (q := 34) (rm := rm_X12_fails) hC (c_fl hl Θ _ _ _) k_X12_fails im_yX12_fails se_yX12_fails ml_RX12_76 dX12_setMask_31 rfl rfl rfl rfl rfl rfl (Nat.le_of_ble_eq_true rfl) ⟨Nat.le_of_ble_eq_true rfl, Nat.le_of_ble_eq_true rfl⟩ ⟨Nat.le_of_ble_eq_true rfl, Nat.le_of_ble_eq_true rfl⟩ (fR_k ?_) fR_x (Nat.le_of_ble_eq_true rfl) (Nat.le_of_ble_eq_true rfl)
      try dsimp only [Option.toList, List.cons_append, List.nil_append]
      refine v_iret hC dX12_setMask_34 hr (rfl) ?_ (Nat.le_of_ble_eq_true rfl) (Nat.le_of_ble_eq_true rfl)
      exact mg_f c_26
  · refine v_aload_n (i := 0) (q := 14) hC dX12_setMask_13 rfl rfl rfl ?_
    refine v_iconst (q := 15) (v := 1) hC dX12_setMask_14 rfl (by decide) ?_
    refine v_callV (q := 18) (rm := rm_X12_fails) hC (c_fl hl Θ _ _ _) k_X12_fails im_yX12_fails se_yX12_fails ml_RX12_76 dX12_setMask_15 rfl rfl rfl rfl rfl rfl (Nat.le_of_ble_eq_true rfl) ⟨Nat.le_of_ble_eq_true rfl, Nat.le_of_ble_eq_true rfl⟩ ⟨Nat.le_of_ble_eq_true rfl, Nat.le_of_ble_eq_true rfl⟩ (fR_k ?_) fR_x (Nat.le_of_ble_eq_true rfl) (Nat.le_of_ble_eq_true rfl)
    try dsimp only [Option.toList, List.cons_append, List.nil_append]
    refine v_iret hC dX12_setMask_18 hr (rfl) ?_ (Nat.le_of_ble_eq_true rfl) (Nat.le_of_ble_eq_true rfl)
    exact mg_f c_10
set_option maxHeartbeats 4000000 in
set_option maxRecDepth 20000 in
theorem c_X12_setInheriting {l : Launch} (hl : l.stackTraces = false) (Θ : cTH) (o : Int32) (b : Bool) (G : GS) (hm : mInv G) : Ct l yX12_setInheriting cX12_setInheriting 4 (some .boolean) rm_X12_setInheriting Θ [.ref (tR Θ 0 29), .int o, .int (b2i b)] (G) (mg (mHold (G.2.1 0 30) o) 1 (fR (some (.int (b2i (decide ((mC G).2.1 0 30 (oA o.toNatClampNeg 4) = 1))))) (mUp (oA o.toNatClampNeg 4) (b2i b) (mC G))) (G)) := by
  refine ct_of (LS := [some (.ref (tR Θ 0 29)), some (.int o), some (.int (b2i b)), none]) hl (by decide +kernel) rfl (Nat.le_of_ble_eq_true rfl) rfl ?_
  intro p e s m args below meth c hC hr
  refine v_aload_n (i := 0) (q := 1) hC dX12_setInheriting_0 rfl rfl rfl ?_
  refine v_aload_n (i := 0) (q := 2) hC dX12_setInheriting_1 rfl rfl rfl ?_
  refine v_iload_n (i := 1) (q := 3) hC dX12_setInheriting_2 rfl rfl rfl ?_
  refine v_callV (q := 6) (rm := rm_X12_isObject) hC (c_X12_isObject hl Θ _ _) k_X12_isObject im_yX12_isObject se_yX12_isObject ml_RX12_57 dX12_setInheriting_3 rfl rfl rfl rfl rfl rfl (Nat.le_of_ble_eq_true rfl) ⟨Nat.le_of_ble_eq_true rfl, Nat.le_of_ble_eq_true rfl⟩ ⟨Nat.le_of_ble_eq_true rfl, Nat.le_of_ble_eq_true rfl⟩ (fR_k ?_) fR_x (Nat.le_of_ble_eq_true rfl) (Nat.le_of_ble_eq_true rfl)
  try dsimp only [Option.toList, List.cons_append, List.nil_append]
  refine v_ifb_eq (q := 13) (q2 := 9) hC dX12_setInheriting_6 (by decide) rfl (fun c_6 => ?_) (fun c_6 => ?_)
  · refine v_iconst (q := 14) (v := 1) hC dX12_setInheriting_13 rfl (by decide) ?_
    refine pm_last (q := 17) hC dX12_setInheriting_14 rfl rfl fl_RX12_39 ?_
    refine v_aload_n (i := 0) (q := 18) hC dX12_setInheriting_17 rfl rfl rfl ?_
    refine gm_last (q := 21) hC dX12_setInheriting_18 rfl rfl fl_RX12_39 ?_
    refine v_iconst (q := 22) (v := 1) hC dX12_setInheriting_21 rfl (by decide) ?_
    refine v_icmp_ne (q := 27) (q2 := 25) hC dX12_setInheriting_22 (by decide) rfl (fun c_22 => ?_) (fun c_22 => ?_)
    · first
      | exact absurd c_22 (by decide)
      |
        rw [mg_t c_6]
        obtain ⟨j, hj, rfl⟩ := mHold_nI c_6
        rw [nI_clamp (show j < 2 ^ 31 by omega)]
        refine v_aload_n (i := 0) (q := 28) hC dX12_setInheriting_27 rfl rfl rfl ?_
        refine v_callV (q := 31) (rm := rm_X12_changes) hC (c_mC hl Θ _ hm) k_X12_changes im_yX12_changes se_yX12_changes ml_RX12_79 dX12_setInheriting_28 rfl rfl rfl rfl rfl rfl (Nat.le_of_ble_eq_true rfl) ⟨Nat.le_of_ble_eq_true rfl, Nat.le_of_ble_eq_true rfl⟩ ⟨Nat.le_of_ble_eq_true rfl, Nat.le_of_ble_eq_true rfl⟩ (fR_k ?_) fR_x (Nat.le_of_ble_eq_true rfl) (Nat.le_of_ble_eq_true rfl)
        try dsimp only [Option.toList, List.cons_append, List.nil_append]
        refine v_aload_n (i := 0) (q := 32) hC dX12_setInheriting_31 rfl rfl rfl ?_
        refine v_iload_n (i := 1) (q := 33) hC dX12_setInheriting_32 rfl rfl rfl ?_
        refine v_iconst (q := 34) (v := 4) hC dX12_setInheriting_33 rfl (by decide) ?_
        refine v_callV (q := 37) (rm := rm_X12_of) hC (c_X12_of hl Θ _ 4 _ (by unfold oA; omega)) k_X12_of im_yX12_of se_yX12_of ml_RX12_54 dX12_setInheriting_34 rfl rfl rfl rfl rfl rfl (Nat.le_of_ble_eq_true rfl) ⟨Nat.le_of_ble_eq_true rfl, Nat.le_of_ble_eq_true rfl⟩ ⟨Nat.le_of_ble_eq_true rfl, Nat.le_of_ble_eq_true rfl⟩ (fR_k ?_) fR_x (Nat.le_of_ble_eq_true rfl) (Nat.le_of_ble_eq_true rfl)
        try dsimp only [Option.toList, List.cons_append, List.nil_append]
        refine v_iconst (q := 38) (v := 1) hC dX12_setInheriting_37 rfl (by decide) ?_
        refine v_icmp_ne (q := 45) (q2 := 41) hC dX12_setInheriting_38 (by decide) rfl (fun c_38 => ?_) (fun c_38 => ?_)
        · refine v_iconst (q := 46) (v := 0) hC dX12_setInheriting_45 rfl (by decide) ?_
          refine v_istore_n (i := 3) (q := 47) hC dX12_setInheriting_46 rfl rfl (lvc rfl) (Nat.le_of_ble_eq_true rfl) (Nat.le_of_ble_eq_true rfl) rfl ?_
          refine v_aload_n (i := 0) (q := 48) hC dX12_setInheriting_47 rfl rfl rfl ?_
          refine g_X12_0 (q := 51) hC dX12_setInheriting_48 rfl rfl fl_RX12_7 ?_
          refine v_iload_n (i := 1) (q := 52) hC dX12_setInheriting_51 rfl rfl rfl ?_
          refine v_iconst (q := 53) (v := 4) hC dX12_setInheriting_52 rfl (by decide) ?_
          refine v_callS (q := 56) (rm := rm_X12_at) hC (c_X12_at hl Θ _ 4 _) k_X12_at st_yX12_at ml_RX12_50 dX12_setInheriting_53 rfl  rfl rfl (Nat.le_of_ble_eq_true rfl) ⟨Nat.le_of_ble_eq_true rfl, Nat.le_of_ble_eq_true rfl⟩ ⟨Nat.le_of_ble_eq_true rfl, Nat.le_of_ble_eq_true rfl⟩ (fR_k ?_) fR_x (Nat.le_of_ble_eq_true rfl) (Nat.le_of_ble_eq_true rfl)
          try dsimp only [Option.toList, List.cons_append, List.nil_append]
          refine v_iload_n (i := 2) (q := 57) hC dX12_setInheriting_56 rfl rfl rfl ?_
          refine v_if_eq (q := 64) (q2 := 60) hC dX12_setInheriting_57 (by decide) rfl (fun c_57 => ?_) (fun c_57 => ?_)
          · refine v_iconst (q := 65) (v := 0) hC dX12_setInheriting_64 rfl (by decide) ?_
            refine v_mup (i := oA j 4) (q := 66) hC dX12_setInheriting_65 rfl rfl (by unfold oA; omega) ?_
            refine v_iload_n (i := 3) (q := 67) hC dX12_setInheriting_66 rfl rfl rfl ?_
            refine v_iret hC dX12_setInheriting_67 hr (by first | rfl | exact nar_b) ?_ (Nat.le_of_ble_eq_true rfl) (Nat.le_of_ble_eq_true rfl)
            have eb : b2i b = 1 ∨ b2i b = 0 := by cases b; exact Or.inr rfl; exact Or.inl rfl
            refine ⟨?_, ?_⟩
            · first | (rw [decide_eq_true c_38]; rfl) | (rw [decide_eq_false c_38]; rfl)
            · first | (rw [b2i_ne0.mp c_57]; rfl) | (rw [b2i_eq0.mp c_57]; rfl)
          · refine v_iconst (q := 61) (v := 1) hC dX12_setInheriting_60 rfl (by decide) ?_
            refine v_goto (q := 65) hC dX12_setInheriting_61 (by decide) ?_
            refine v_mup (i := oA j 4) (q := 66) hC dX12_setInheriting_65 rfl rfl (by unfold oA; omega) ?_
            refine v_iload_n (i := 3) (q := 67) hC dX12_setInheriting_66 rfl rfl rfl ?_
            refine v_iret hC dX12_setInheriting_67 hr (by first | rfl | exact nar_b) ?_ (Nat.le_of_ble_eq_true rfl) (Nat.le_of_ble_eq_true rfl)
            have eb : b2i b = 1 ∨ b2i b = 0 := by cases b; exact Or.inr rfl; exact Or.inl rfl
            refine ⟨?_, ?_⟩
            · first | (rw [decide_eq_true c_38]; rfl) | (rw [decide_eq_false c_38]; rfl)
            · first | (rw [b2i_ne0.mp c_57]; rfl) | (rw [b2i_eq0.mp c_57]; rfl)
        · refine v_iconst (q := 42) (v := 1) hC dX12_setInheriting_41 rfl (by decide) ?_
          refine v_goto (q := 46) hC dX12_setInheriting_42 (by decide) ?_
          refine v_istore_n (i := 3) (q := 47) hC dX12_setInheriting_46 rfl rfl (lvc rfl) (Nat.le_of_ble_eq_true rfl) (Nat.le_of_ble_eq_true rfl) rfl ?_
          refine v_aload_n (i := 0) (q := 48) hC dX12_setInheriting_47 rfl rfl rfl ?_
          refine g_X12_0 (q := 51) hC dX12_setInheriting_48 rfl rfl fl_RX12_7 ?_
          refine v_iload_n (i := 1) (q := 52) hC dX12_setInheriting_51 rfl rfl rfl ?_
          refine v_iconst (q := 53) (v := 4) hC dX12_setInheriting_52 rfl (by decide) ?_
          refine v_callS (q := 56) (rm := rm_X12_at) hC (c_X12_at hl Θ _ 4 _) k_X12_at st_yX12_at ml_RX12_50 dX12_setInheriting_53 rfl  rfl rfl (Nat.le_of_ble_eq_true rfl) ⟨Nat.le_of_ble_eq_true rfl, Nat.le_of_ble_eq_true rfl⟩ ⟨Nat.le_of_ble_eq_true rfl, Nat.le_of_ble_eq_true rfl⟩ (fR_k ?_) fR_x (Nat.le_of_ble_eq_true rfl) (Nat.le_of_ble_eq_true rfl)
          try dsimp only [Option.toList, List.cons_append, List.nil_append]
          refine v_iload_n (i := 2) (q := 57) hC dX12_setInheriting_56 rfl rfl rfl ?_
          refine v_if_eq (q := 64) (q2 := 60) hC dX12_setInheriting_57 (by decide) rfl (fun c_57 => ?_) (fun c_57 => ?_)
          · refine v_iconst (q := 65) (v := 0) hC dX12_setInheriting_64 rfl (by decide) ?_
            refine v_mup (i := oA j 4) (q := 66) hC dX12_setInheriting_65 rfl rfl (by unfold oA; omega) ?_
            refine v_iload_n (i := 3) (q := 67) hC dX12_setInheriting_66 rfl rfl rfl ?_
            refine v_iret hC dX12_setInheriting_67 hr (by first | rfl | exact nar_b) ?_ (Nat.le_of_ble_eq_true rfl) (Nat.le_of_ble_eq_true rfl)
            have eb : b2i b = 1 ∨ b2i b = 0 := by cases b; exact Or.inr rfl; exact Or.inl rfl
            refine ⟨?_, ?_⟩
            · first | (rw [decide_eq_true c_38]; rfl) | (rw [decide_eq_false c_38]; rfl)
            · first | (rw [b2i_ne0.mp c_57]; rfl) | (rw [b2i_eq0.mp c_57]; rfl)
          · refine v_iconst (q := 61) (v := 1) hC dX12_setInheriting_60 rfl (by decide) ?_
            refine v_goto (q := 65) hC dX12_setInheriting_61 (by decide) ?_
            refine v_mup (i := oA j 4) (q := 66) hC dX12_setInheriting_65 rfl rfl (by unfold oA; omega) ?_
            refine v_iload_n (i := 3) (q := 67) hC dX12_setInheriting_66 rfl rfl rfl ?_
            refine v_iret hC dX12_setInheriting_67 hr (by first | rfl | exact nar_b) ?_ (Nat.le_of_ble_eq_true rfl) (Nat.le_of_ble_eq_true rfl)
            have eb : b2i b = 1 ∨ b2i b = 0 := by cases b; exact Or.inr rfl; exact Or.inl rfl
            refine ⟨?_, ?_⟩
            · first | (rw [decide_eq_true c_38]; rfl) | (rw [decide_eq_false c_38]; rfl)
            · first | (rw [b2i_ne0.mp c_57]; rfl) | (rw [b2i_eq0.mp c_57]; rfl)
    · first
      | exact absurd c_22 (by decide)
      |
        refine v_iconst (q := 26) (v := 0) hC dX12_setInheriting_25 rfl (by decide) ?_
        refine v_iret hC dX12_setInheriting_26 hr (by first | rfl | exact nar_b) ?_ (Nat.le_of_ble_eq_true rfl) (Nat.le_of_ble_eq_true rfl)
        exact mg_f c_6
  · refine v_iconst (q := 10) (v := 0) hC dX12_setInheriting_9 rfl (by decide) ?_
    refine v_goto (q := 14) hC dX12_setInheriting_10 (by decide) ?_
    refine pm_last (q := 17) hC dX12_setInheriting_14 rfl rfl fl_RX12_39 ?_
    refine v_aload_n (i := 0) (q := 18) hC dX12_setInheriting_17 rfl rfl rfl ?_
    refine gm_last (q := 21) hC dX12_setInheriting_18 rfl rfl fl_RX12_39 ?_
    refine v_iconst (q := 22) (v := 1) hC dX12_setInheriting_21 rfl (by decide) ?_
    refine v_icmp_ne (q := 27) (q2 := 25) hC dX12_setInheriting_22 (by decide) rfl (fun c_22 => ?_) (fun c_22 => ?_)
    · first
      | exact absurd c_22 (by decide)
      |
        rw [mg_t c_6]
        obtain ⟨j, hj, rfl⟩ := mHold_nI c_6
        rw [nI_clamp (show j < 2 ^ 31 by omega)]
        refine v_aload_n (i := 0) (q := 28) hC dX12_setInheriting_27 rfl rfl rfl ?_
        refine v_callV (q := 31) (rm := rm_X12_changes) hC (c_mC hl Θ _ hm) k_X12_changes im_yX12_changes se_yX12_changes ml_RX12_79 dX12_setInheriting_28 rfl rfl rfl rfl rfl rfl (Nat.le_of_ble_eq_true rfl) ⟨Nat.le_of_ble_eq_true rfl, Nat.le_of_ble_eq_true rfl⟩ ⟨Nat.le_of_ble_eq_true rfl, Nat.le_of_ble_eq_true rfl⟩ (fR_k ?_) fR_x (Nat.le_of_ble_eq_true rfl) (Nat.le_of_ble_eq_true rfl)
        try dsimp only [Option.toList, List.cons_append, List.nil_append]
        refine v_aload_n (i := 0) (q := 32) hC dX12_setInheriting_31 rfl rfl rfl ?_
        refine v_iload_n (i := 1) (q := 33) hC dX12_setInheriting_32 rfl rfl rfl ?_
        refine v_iconst (q := 34) (v := 4) hC dX12_setInheriting_33 rfl (by decide) ?_
        refine v_callV (q := 37) (rm := rm_X12_of) hC (c_X12_of hl Θ _ 4 _ (by unfold oA; omega)) k_X12_of im_yX12_of se_yX12_of ml_RX12_54 dX12_setInheriting_34 rfl rfl rfl rfl rfl rfl (Nat.le_of_ble_eq_true rfl) ⟨Nat.le_of_ble_eq_true rfl, Nat.le_of_ble_eq_true rfl⟩ ⟨Nat.le_of_ble_eq_true rfl, Nat.le_of_ble_eq_true rfl⟩ (fR_k ?_) fR_x (Nat.le_of_ble_eq_true rfl) (Nat.le_of_ble_eq_true rfl)
        try dsimp only [Option.toList, List.cons_append, List.nil_append]
        refine v_iconst (q := 38) (v := 1) hC dX12_setInheriting_37 rfl (by decide) ?_
        refine v_icmp_ne (q := 45) (q2 := 41) hC dX12_setInheriting_38 (by decide) rfl (fun c_38 => ?_) (fun c_38 => ?_)
        · refine v_iconst (q := 46) (v := 0) hC dX12_setInheriting_45 rfl (by decide) ?_
          refine v_istore_n (i := 3) (q := 47) hC dX12_setInheriting_46 rfl rfl (lvc rfl) (Nat.le_of_ble_eq_true rfl) (Nat.le_of_ble_eq_true rfl) rfl ?_
          refine v_aload_n (i := 0) (q := 48) hC dX12_setInheriting_47 rfl rfl rfl ?_
          refine g_X12_0 (q := 51) hC dX12_setInheriting_48 rfl rfl fl_RX12_7 ?_
          refine v_iload_n (i := 1) (q := 52) hC dX12_setInheriting_51 rfl rfl rfl ?_
          refine v_iconst (q := 53) (v := 4) hC dX12_setInheriting_52 rfl (by decide) ?_
          refine v_callS (q := 56) (rm := rm_X12_at) hC (c_X12_at hl Θ _ 4 _) k_X12_at st_yX12_at ml_RX12_50 dX12_setInheriting_53 rfl  rfl rfl (Nat.le_of_ble_eq_true rfl) ⟨Nat.le_of_ble_eq_true rfl, Nat.le_of_ble_eq_true rfl⟩ ⟨Nat.le_of_ble_eq_true rfl, Nat.le_of_ble_eq_true rfl⟩ (fR_k ?_) fR_x (Nat.le_of_ble_eq_true rfl) (Nat.le_of_ble_eq_true rfl)
          try dsimp only [Option.toList, List.cons_append, List.nil_append]
          refine v_iload_n (i := 2) (q := 57) hC dX12_setInheriting_56 rfl rfl rfl ?_
          refine v_if_eq (q := 64) (q2 := 60) hC dX12_setInheriting_57 (by decide) rfl (fun c_57 => ?_) (fun c_57 => ?_)
          · refine v_iconst (q := 65) (v := 0) hC dX12_setInheriting_64 rfl (by decide) ?_
            refine v_mup (i := oA j 4) (q := 66) hC dX12_setInheriting_65 rfl rfl (by unfold oA; omega) ?_
            refine v_iload_n (i := 3) (q := 67) hC dX12_setInheriting_66 rfl rfl rfl ?_
            refine v_iret hC dX12_setInheriting_67 hr (by first | rfl | exact nar_b) ?_ (Nat.le_of_ble_eq_true rfl) (Nat.le_of_ble_eq_true rfl)
            have eb : b2i b = 1 ∨ b2i b = 0 := by cases b; exact Or.inr rfl; exact Or.inl rfl
            refine ⟨?_, ?_⟩
            · first | (rw [decide_eq_true c_38]; rfl) | (rw [decide_eq_false c_38]; rfl)
            · first | (rw [b2i_ne0.mp c_57]; rfl) | (rw [b2i_eq0.mp c_57]; rfl)
          · refine v_iconst (q := 61) (v := 1) hC dX12_setInheriting_60 rfl (by decide) ?_
            refine v_goto (q := 65) hC dX12_setInheriting_61 (by decide) ?_
            refine v_mup (i := oA j 4) (q := 66) hC dX12_setInheriting_65 rfl rfl (by unfold oA; omega) ?_
            refine v_iload_n (i := 3) (q := 67) hC dX12_setInheriting_66 rfl rfl rfl ?_
            refine v_iret hC dX12_setInheriting_67 hr (by first | rfl | exact nar_b) ?_ (Nat.le_of_ble_eq_true rfl) (Nat.le_of_ble_eq_true rfl)
            have eb : b2i b = 1 ∨ b2i b = 0 := by cases b; exact Or.inr rfl; exact Or.inl rfl
            refine ⟨?_, ?_⟩
            · first | (rw [decide_eq_true c_38]; rfl) | (rw [decide_eq_false c_38]; rfl)
            · first | (rw [b2i_ne0.mp c_57]; rfl) | (rw [b2i_eq0.mp c_57]; rfl)
        · refine v_iconst (q := 42) (v := 1) hC dX12_setInheriting_41 rfl (by decide) ?_
          refine v_goto (q := 46) hC dX12_setInheriting_42 (by decide) ?_
          refine v_istore_n (i := 3) (q := 47) hC dX12_setInheriting_46 rfl rfl (lvc rfl) (Nat.le_of_ble_eq_true rfl) (Nat.le_of_ble_eq_true rfl) rfl ?_
          refine v_aload_n (i := 0) (q := 48) hC dX12_setInheriting_47 rfl rfl rfl ?_
          refine g_X12_0 (q := 51) hC dX12_setInheriting_48 rfl rfl fl_RX12_7 ?_
          refine v_iload_n (i := 1) (q := 52) hC dX12_setInheriting_51 rfl rfl rfl ?_
          refine v_iconst (q := 53) (v := 4) hC dX12_setInheriting_52 rfl (by decide) ?_
          refine v_callS (q := 56) (rm := rm_X12_at) hC (c_X12_at hl Θ _ 4 _) k_X12_at st_yX12_at ml_RX12_50 dX12_setInheriting_53 rfl  rfl rfl (Nat.le_of_ble_eq_true rfl) ⟨Nat.le_of_ble_eq_true rfl, Nat.le_of_ble_eq_true rfl⟩ ⟨Nat.le_of_ble_eq_true rfl, Nat.le_of_ble_eq_true rfl⟩ (fR_k ?_) fR_x (Nat.le_of_ble_eq_true rfl) (Nat.le_of_ble_eq_true rfl)
          try dsimp only [Option.toList, List.cons_append, List.nil_append]
          refine v_iload_n (i := 2) (q := 57) hC dX12_setInheriting_56 rfl rfl rfl ?_
          refine v_if_eq (q := 64) (q2 := 60) hC dX12_setInheriting_57 (by decide) rfl (fun c_57 => ?_) (fun c_57 => ?_)
          · refine v_iconst (q := 65) (v := 0) hC dX12_setInheriting_64 rfl (by decide) ?_
            refine v_mup (i := oA j 4) (q := 66) hC dX12_setInheriting_65 rfl rfl (by unfold oA; omega) ?_
            refine v_iload_n (i := 3) (q := 67) hC dX12_setInheriting_66 rfl rfl rfl ?_
            refine v_iret hC dX12_setInheriting_67 hr (by first | rfl | exact nar_b) ?_ (Nat.le_of_ble_eq_true rfl) (Nat.le_of_ble_eq_true rfl)
            have eb : b2i b = 1 ∨ b2i b = 0 := by cases b; exact Or.inr rfl; exact Or.inl rfl
            refine ⟨?_, ?_⟩
            · first | (rw [decide_eq_true c_38]; rfl) | (rw [decide_eq_false c_38]; rfl)
            · first | (rw [b2i_ne0.mp c_57]; rfl) | (rw [b2i_eq0.mp c_57]; rfl)
          · refine v_iconst (q := 61) (v := 1) hC dX12_setInheriting_60 rfl (by decide) ?_
            refine v_goto (q := 65) hC dX12_setInheriting_61 (by decide) ?_
            refine v_mup (i := oA j 4) (q := 66) hC dX12_setInheriting_65 rfl rfl (by unfold oA; omega) ?_
            refine v_iload_n (i := 3) (q := 67) hC dX12_setInheriting_66 rfl rfl rfl ?_
            refine v_iret hC dX12_setInheriting_67 hr (by first | rfl | exact nar_b) ?_ (Nat.le_of_ble_eq_true rfl) (Nat.le_of_ble_eq_true rfl)
            have eb : b2i b = 1 ∨ b2i b = 0 := by cases b; exact Or.inr rfl; exact Or.inl rfl
            refine ⟨?_, ?_⟩
            · first | (rw [decide_eq_true c_38]; rfl) | (rw [decide_eq_false c_38]; rfl)
            · first | (rw [b2i_ne0.mp c_57]; rfl) | (rw [b2i_eq0.mp c_57]; rfl)
    · first
      | exact absurd c_22 (by decide)
      |
        refine v_iconst (q := 26) (v := 0) hC dX12_setInheriting_25 rfl (by decide) ?_
        refine v_iret hC dX12_setInheriting_26 hr (by first | rfl | exact nar_b) ?_ (Nat.le_of_ble_eq_true rfl) (Nat.le_of_ble_eq_true rfl)
        exact mg_f c_6
