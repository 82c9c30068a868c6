/-! The reference: undo, slots, openness -/
section ZROWS
variable {p : Program} {l : Launch} {e : Env} {R : Room} {s : State} {m : MethodId} {args : Array Value} {below : List Frame} {meth : Method} {c : Code} {cc : ByteArray} {nL : Nat} {own : String} {Θ : cTH} {Qp : cOut → GS → Prop} {Q9 : State → Prop} {mc ms2 k n pc q : Nat} {LS : List (Option Value)} {rest : List Value} {G : GS}
theorem v_zald (hC : cC p l s m args meth c cc nL own Θ) {i : Nat} {x : Int32} (d : decode cc pc = .ok (.baload, 1)) (hq : pc + 1 = q) (hx : x = nI i) (hi : i < 2) (kk : VG p l e R s m args below meth c nL Θ Q9 k n q LS (.int (G.2.1 0 33 i) :: rest) G) : VG p l e R s m args below meth c nL Θ Q9 k n pc LS (.int x :: .ref (tR Θ 0 33) :: rest) G := by
  subst hq; subst hx
  intro H locs ls hH hS hl
  obtain ⟨k9, -, hk9⟩ := cW_get Θ G (r := 0) (o := 33) rfl
  have e1 := nI_clamp (show i < 2 ^ 31 by omega)
  refine va_zald hC.1 hC.2.1 (cC_K hC) hH.1 k9 1 (n := 2) (f := G.2.1 0 33) hk9 rfl (vp_in_nI hi (by decide)) d ?_
  rw [e1]
  exact kk H locs ls hH hS hl
theorem v_zast1 (hC : cC p l s m args meth c cc nL own Θ) {i : Nat} {x : Int32} (d : decode cc pc = .ok (.bastore, 1)) (hq : pc + 1 = q) (hx : x = nI i) (hi : i < 2) (kk : VG p l e R s m args below meth c nL Θ Q9 k n q LS rest (putA G 0 33 (upd (G.2.1 0 33) i 1))) : VG p l e R s m args below meth c nL Θ Q9 k n pc LS (.int 1 :: .int x :: .ref (tR Θ 0 33) :: rest) G := by
  subst hq; subst hx
  intro H locs ls hH hS hl
  obtain ⟨k9, hi9, hk9⟩ := cW_get Θ G (r := 0) (o := 33) rfl
  have e1 := nI_clamp (show i < 2 ^ 31 by omega)
  refine va_zast hC.1 hC.2.1 (cC_K hC) hH.1 hH.2 hS k9 1 (n := 2) (f := G.2.1 0 33) hk9 rfl (vp_in_nI hi (by decide)) d (fun H1 locs1 hP hD hS1 => ?_)
  rw [e1] at hP hD
  have hw : (cW Θ G).set k9 (tR Θ 0 33, .inl (tZ Θ, 2, .inl (upd (G.2.1 0 33) i (vp_nar .boolean 1)))) = cW Θ (putA G 0 33 (upd (G.2.1 0 33) i 1)) := cW_put hH.2 hi9 rfl putA_ne (by rw [putA_same]; rfl)
  rw [hw] at hP hD
  exact kk H1 locs1 ls ⟨hP, hD⟩ hS1 hl
/-- a double laid down in 1 and taken up again -/
theorem v_dsl1 (hC : cC p l s m args meth c cc nL own Θ) {x : UInt64} {v0 : Value} (d1 : decode cc pc = .ok (.dstore_n 1, 1)) (d2 : decode cc (pc + 1) = .ok (.dload_n 1, 1)) (hq : pc + 2 = q) (hn : nL = 3) (hv0 : v0.category = 1) (kk : VG p l e R s m args below meth c nL Θ Q9 k n q [some v0, none, none] (.double x :: rest) G) : VG p l e R s m args below meth c nL Θ Q9 k n pc [some v0, none, none] (.double x :: rest) G := by
  subst hq
  intro H locs ls hH hS hl
  refine lv_dstore_n hC.1 hC.2.1 d1 (i := 1) rfl hl (by omega) rfl (fun ls2 h9 => ?_)
  have hm : (1, Value.double x) ∈ ((1, Value.double x) :: (lvL 0 [some v0, none, none]).filter (fun q => !(q.1 == 1) && (!(q.1 == 1 + 1) && !(q.1 + 1 == 1 && q.2.category == 2)))) := List.mem_cons_self
  refine lv_dload_n hC.1 hC.2.1 d2 (i := 1) rfl (h9.2.2 _ hm) ?_
  refine kk H locs ls2 hH hS ⟨h9.1, h9.2.1, ?_⟩
  rintro ⟨j, w⟩ hw
  refine h9.2.2 (j, w) (List.mem_cons_of_mem _ ?_)
  have e : lvL 0 [some v0, none, none] = [(0, v0)] := rfl
  rw [e] at hw ⊢
  rw [List.mem_singleton] at hw
  cases hw
  simp [hv0]
end ZROWS
/-- n places of b, from t on, over a -/
def mRd (a b : Nat → Int32) (t n : Nat) : Nat → Int32 := fun k => if k < n then b (t + k) else a k
theorem mRd_0 (a b : Nat → Int32) (t : Nat) : mRd a b t 0 = a := by
  funext k
  rw [mRd, if_neg (by omega)]
theorem mRd_step (a b : Nat → Int32) (t n : Nat) : upd (mRd a b t n) n (b (t + n)) = mRd a b t (n + 1) := by
  funext k
  unfold upd mRd
  by_cases h : k = n
  · subst h
    rw [if_pos rfl, if_pos (by omega)]
  · rw [if_neg h]
    by_cases h2 : k < n
    · rw [if_pos h2, if_pos (by omega)]
    · rw [if_neg h2, if_neg (by omega)]
theorem e765 (a b : Nat) : (765 : Int32) * nI a + nI b = nI (765 * a + b) := by
  rw [show (765 : Int32) = nI 765 from rfl, nI_mul, nI_add]
def mUd (G : GS) (r : Nat) : GS := putF (ms 0 G) 0 29 4 (nI r)
set_option maxHeartbeats 4000000 in
set_option maxRecDepth 20000 in
theorem c_X12_undo {l : Launch} (hl : l.stackTraces = false) (Θ : cTH) (G : GS) (hm : mInv G) : Ct l yX12_undo cX12_undo 2 (some .int) rm_X12_undo Θ [.ref (tR Θ 0 29)] (G) (mg (!decide (mQ G = 0)) 1 (fR (some (.int (nI (mQ G - 1)))) (mWr (mRd (G.2.1 0 30) (G.2.1 0 31) (765 * (mQ G - 1)) 765) (mUd G (mQ G - 1)))) (G)) := by
  refine ct_of (LS := [some (.ref (tR Θ 0 29)), none]) hl (by decide +kernel) rfl (Nat.le_of_ble_eq_true rfl) rfl ?_
  intro p e s m args below meth c hC hr
  have L : ∀ (r : Nat), r ≤ 4 → ∀ (n j : Nat), n + j = 765 → V p l e rm_X12_undo s m args below meth c 2 Θ (fR (some (.int (nI r))) (mWr (mRd (G.2.1 0 30) (G.2.1 0 31) (765 * r) 765) (mUd G r))) rm_X12_undo.cells rm_X12_undo.slots 0 0 30 [some (.ref (tR Θ 0 29)), some (.int (nI j))] [] (mWr (mRd (G.2.1 0 30) (G.2.1 0 31) (765 * r) j) (mUd G r)) := by
    intro r hr4 n
    induction n with
    | zero =>
      intro j h1
      have ej : j = 765 := by omega
      subst ej
      refine v_iload_n (i := 1) (q := 31) hC dX12_undo_30 rfl rfl rfl ?_
      refine v_sipush (q := 34) (v := 765) hC dX12_undo_31 rfl (by decide) ?_
      refine v_icmp_ge (q := 64) (q2 := 37) hC dX12_undo_34 (by decide) rfl (fun c_34 => ?_) (fun c_34 => ?_)
      · refine v_aload_n (i := 0) (q := 65) hC dX12_undo_64 rfl rfl rfl ?_
        refine g_X12_4 (q := 68) hC dX12_undo_65 rfl rfl fl_RX12_43 ?_
        refine v_iret hC dX12_undo_68 hr (rfl) ?_ (Nat.le_of_ble_eq_true rfl) (Nat.le_of_ble_eq_true rfl)
        exact ⟨by simp [mWr, putA_fld, mUd, putF_get], rfl⟩
      · exact absurd (by decide) c_34
    | succ n ih =>
      intro j h1
      refine v_iload_n (i := 1) (q := 31) hC dX12_undo_30 rfl rfl rfl ?_
      refine v_sipush (q := 34) (v := 765) hC dX12_undo_31 rfl (by decide) ?_
      refine v_icmp_ge (q := 64) (q2 := 37) hC dX12_undo_34 (by decide) rfl (fun c_34 => ?_) (fun c_34 => ?_)
      · exact absurd c_34 (by rw [show (765 : Int32) = nI 765 from rfl]; exact nI_ge (by omega) (by omega))
      · refine v_aload_n (i := 0) (q := 38) hC dX12_undo_37 rfl rfl rfl ?_
        refine g_X12_0 (q := 41) hC dX12_undo_38 rfl rfl fl_RX12_7 ?_
        refine v_iload_n (i := 1) (q := 42) hC dX12_undo_41 rfl rfl rfl ?_
        refine v_aload_n (i := 0) (q := 43) hC dX12_undo_42 rfl rfl rfl ?_
        refine g_X12_1 (q := 46) hC dX12_undo_43 rfl rfl fl_RX12_13 ?_
        refine v_sipush (q := 49) (v := 765) hC dX12_undo_46 rfl (by decide) ?_
        refine v_aload_n (i := 0) (q := 50) hC dX12_undo_49 rfl rfl rfl ?_
        refine g_X12_4 (q := 53) hC dX12_undo_50 rfl rfl fl_RX12_43 ?_
        rw [show (mWr (mRd (G.2.1 0 30) (G.2.1 0 31) (765 * r) j) (mUd G r)).1 0 29 4 = nI r by simp [mWr, putA_fld, mUd, putF_get]]
        refine v_imul (q := 54) hC dX12_undo_53 rfl ?_
        refine v_iload_n (i := 1) (q := 55) hC dX12_undo_54 rfl rfl rfl ?_
        refine v_iadd (q := 56) hC dX12_undo_55 rfl ?_
        refine v_ialdN (q := 57) hC dX12_undo_56 rfl rfl rfl (i := 765 * r + j) (e765 r j) (by omega) (by decide) ?_
        refine v_mwr (i := j) (q := 58) hC dX12_undo_57 rfl rfl (by omega) ?_
        refine v_iinc (q := 61) (v := nI (j + 1)) hC dX12_undo_58 rfl rfl (nI_1 j) (lvc rfl) (Nat.le_of_ble_eq_true rfl) (Nat.le_of_ble_eq_true rfl) rfl ?_
        refine v_goto (q := 30) hC dX12_undo_61 (by decide) ?_
        rw [show (mWr (mRd (G.2.1 0 30) (G.2.1 0 31) (765 * r) j) (mUd G r)).2.1 0 31 (765 * r + j) = G.2.1 0 31 (765 * r + j) from rfl, mRd_step]
        exact ih (j + 1) (by omega)
  have e4 : (ms 0 G).1 0 29 4 = nI (mQ G) := by rw [ms_fld _ _ (by decide)]; exact hm.1.1
  have h5 := hm.1.2
  refine v_aload_n (i := 0) (q := 1) hC dX12_undo_0 rfl rfl rfl ?_
  refine v_iconst (q := 2) (v := 0) hC dX12_undo_1 rfl (by decide) ?_
  refine pm_last (q := 5) hC dX12_undo_2 rfl rfl fl_RX12_39 ?_
  refine v_aload_n (i := 0) (q := 6) hC dX12_undo_5 rfl rfl rfl ?_
  refine g_X12_4 (q := 9) hC dX12_undo_6 rfl rfl fl_RX12_43 ?_
  rw [e4]
  refine v_if_ne (q := 18) (q2 := 12) hC dX12_undo_9 (by decide) rfl (fun c_9 => ?_) (fun c_9 => ?_)
  · have hq : 1 ≤ mQ G := by rcases Nat.eq_zero_or_pos (mQ G) with z | z; exact absurd (by rw [z]; rfl) c_9; exact z
    rw [mg_t (by rw [show decide (mQ G = 0) = false from decide_eq_false (by omega)]; rfl)]
    refine v_aload_n (i := 0) (q := 19) hC dX12_undo_18 rfl rfl rfl ?_
    refine v_dup (q := 20) hC dX12_undo_19 rfl rfl ?_
    refine g_X12_4 (q := 23) hC dX12_undo_20 rfl rfl fl_RX12_43 ?_
    rw [e4]
    refine v_iconst (q := 24) (v := 1) hC dX12_undo_23 rfl (by decide) ?_
    refine v_isub (q := 25) hC dX12_undo_24 rfl ?_
    rw [nI_m1 hq]
    refine p_X12_4 (q := 28) hC dX12_undo_25 rfl rfl fl_RX12_43 ?_
    refine v_iconst (q := 29) (v := 0) hC dX12_undo_28 rfl (by decide) ?_
    refine v_istore_n (i := 1) (q := 30) hC dX12_undo_29 rfl rfl (lvc rfl) (Nat.le_of_ble_eq_true rfl) (Nat.le_of_ble_eq_true rfl) rfl ?_
    have h := L (mQ G - 1) (by omega) 765 0 rfl
    rw [mRd_0] at h
    rw [show putF (ms 0 G) 0 29 4 (nI (mQ G - 1)) = mWr (G.2.1 0 30) (mUd G (mQ G - 1)) from (mWr_self (mUd G (mQ G - 1))).symm]
    exact h
  · refine v_aload_n (i := 0) (q := 13) hC dX12_undo_12 rfl rfl rfl ?_
    refine v_iconst (q := 14) (v := 1) hC dX12_undo_13 rfl (by decide) ?_
    refine v_callV (q := 17) (rm := rm_X12_fails) hC (c_fl hl Θ _ _ _) k_X12_fails im_yX12_fails se_yX12_fails ml_RX12_76 dX12_undo_14 rfl rfl rfl rfl rfl rfl (Nat.le_of_ble_eq_true rfl) ⟨Nat.le_of_ble_eq_true rfl, Nat.le_of_ble_eq_true rfl⟩ ⟨Nat.le_of_ble_eq_true rfl, Nat.le_of_ble_eq_true rfl⟩ (fR_k ?_) fR_x (Nat.le_of_ble_eq_true rfl) (Nat.le_of_ble_eq_true rfl)
    try dsimp only [Option.toList, List.cons_append, List.nil_append]
    refine v_iret hC dX12_undo_17 hr (rfl) ?_ (Nat.le_of_ble_eq_true rfl) (Nat.le_of_ble_eq_true rfl)
    exact mg_f (by rw [show decide (mQ G = 0) = true from decide_eq_true ((nI_eq (b := 0) (by omega) (by decide)).mp c_9)]; rfl)
def mSv (t n : Nat) (G : GS) : GS := putA (putA (ms 0 G) 0 33 (upd (G.2.1 0 33) t 1)) 0 32 (mCpK (G.2.1 0 32) (G.2.1 0 30) (765 * t) n)
theorem mSv_step (t j : Nat) (G : GS) : putA (mSv t j G) 0 32 (upd ((mSv t j G).2.1 0 32) (765 * t + j) ((mSv t j G).2.1 0 30 j)) = mSv t (j + 1) G := by
  unfold mSv
  rw [putA_putA, putA_same, show (putA (putA (ms 0 G) 0 33 (upd (G.2.1 0 33) t 1)) 0 32 (mCpK (G.2.1 0 32) (G.2.1 0 30) (765 * t) j)).2.1 0 30 j = G.2.1 0 30 j from rfl, mCpK_step]
theorem mSv_0 (t : Nat) (G : GS) : mSv t 0 G = putA (ms 0 G) 0 33 (upd (G.2.1 0 33) t 1) := by
  unfold mSv
  rw [mCpK_0, show G.2.1 0 32 = (putA (ms 0 G) 0 33 (upd (G.2.1 0 33) t 1)).2.1 0 32 from rfl, putA_self]
set_option maxHeartbeats 4000000 in
set_option maxRecDepth 20000 in
theorem c_X12_save {l : Launch} (hl : l.stackTraces = false) (Θ : cTH) (x : Int32) (G : GS) : Ct l yX12_save cX12_save 3 (some .int) rm_X12_save Θ [.ref (tR Θ 0 29), .int x] (G) (mg (mIn x 0 1) 1 (fR (some (.int (mHo (G.2.1 0 30) 20 0 0))) (mSv x.toNatClampNeg 765 G)) (G)) := by
  refine ct_of (LS := [some (.ref (tR Θ 0 29)), some (.int x), none]) hl (by decide +kernel) rfl (Nat.le_of_ble_eq_true rfl) rfl ?_
  intro p e s m args below meth c hC hr
  have L : ∀ (t : Nat), t < 2 → ∀ (n j : Nat), n + j = 765 → V p l e rm_X12_save s m args below meth c 3 Θ (fR (some (.int (mHo (G.2.1 0 30) 20 0 0))) (mSv t 765 G)) rm_X12_save.cells rm_X12_save.slots 0 0 29 [some (.ref (tR Θ 0 29)), some (.int (nI t)), some (.int (nI j))] [] (mSv t j G) := by
    intro t ht n
    induction n with
    | zero =>
      intro j h1
      have ej : j = 765 := by omega
      subst ej
      refine v_iload_n (i := 2) (q := 30) hC dX12_save_29 rfl rfl rfl ?_
      refine v_sipush (q := 33) (v := 765) hC dX12_save_30 rfl (by decide) ?_
      refine v_icmp_ge (q := 60) (q2 := 36) hC dX12_save_33 (by decide) rfl (fun c_33 => ?_) (fun c_33 => ?_)
      · refine v_aload_n (i := 0) (q := 61) hC dX12_save_60 rfl rfl rfl ?_
        refine v_callV (q := 64) (rm := rm_X12_howManyObjects) hC (c_X12_howManyObjects hl Θ _) k_X12_howManyObjects im_yX12_howManyObjects se_yX12_howManyObjects ml_RX12_94 dX12_save_61 rfl rfl rfl rfl rfl rfl (Nat.le_of_ble_eq_true rfl) ⟨Nat.le_of_ble_eq_true rfl, Nat.le_of_ble_eq_true rfl⟩ ⟨Nat.le_of_ble_eq_true rfl, Nat.le_of_ble_eq_true rfl⟩ (fR_k ?_) fR_x (Nat.le_of_ble_eq_true rfl) (Nat.le_of_ble_eq_true rfl)
        try dsimp only [Option.toList, List.cons_append, List.nil_append]
        refine v_iret hC dX12_save_64 hr (rfl) ?_ (Nat.le_of_ble_eq_true rfl) (Nat.le_of_ble_eq_true rfl)
        exact ⟨rfl, rfl⟩
      · exact absurd (by decide) c_33
    | succ n ih =>
      intro j h1
      refine v_iload_n (i := 2) (q := 30) hC dX12_save_29 rfl rfl rfl ?_
      refine v_sipush (q := 33) (v := 765) hC dX12_save_30 rfl (by decide) ?_
      refine v_icmp_ge (q := 60) (q2 := 36) hC dX12_save_33 (by decide) rfl (fun c_33 => ?_) (fun c_33 => ?_)
      · exact absurd c_33 (by rw [show (765 : Int32) = nI 765 from rfl]; exact nI_ge (by omega) (by omega))
      · refine v_aload_n (i := 0) (q := 37) hC dX12_save_36 rfl rfl rfl ?_
        refine g_X12_2 (q := 40) hC dX12_save_37 rfl rfl fl_RX12_16 ?_
        refine v_sipush (q := 43) (v := 765) hC dX12_save_40 rfl (by decide) ?_
        refine v_iload_n (i := 1) (q := 44) hC dX12_save_43 rfl rfl rfl ?_
        refine v_imul (q := 45) hC dX12_save_44 rfl ?_
        refine v_iload_n (i := 2) (q := 46) hC dX12_save_45 rfl rfl rfl ?_
        refine v_iadd (q := 47) hC dX12_save_46 rfl ?_
        refine v_aload_n (i := 0) (q := 48) hC dX12_save_47 rfl rfl rfl ?_
        refine g_X12_0 (q := 51) hC dX12_save_48 rfl rfl fl_RX12_7 ?_
        refine v_iload_n (i := 2) (q := 52) hC dX12_save_51 rfl rfl rfl ?_
        refine v_ialdN (q := 53) hC dX12_save_52 rfl rfl rfl (i := j) (rfl) (by omega) (by decide) ?_
        refine v_iastN (q := 54) hC dX12_save_53 rfl rfl (fun _ => rfl) (i := 765 * t + j) (e765 t j) (by omega) (by decide) ?_
        refine v_iinc (q := 57) (v := nI (j + 1)) hC dX12_save_54 rfl rfl (nI_1 j) (lvc rfl) (Nat.le_of_ble_eq_true rfl) (Nat.le_of_ble_eq_true rfl) rfl ?_
        refine v_goto (q := 29) hC dX12_save_57 (by decide) ?_
        rw [mSv_step]
        exact ih (j + 1) (by omega)
  refine v_aload_n (i := 0) (q := 1) hC dX12_save_0 rfl rfl rfl ?_
  refine v_iconst (q := 2) (v := 0) hC dX12_save_1 rfl (by decide) ?_
  refine pm_last (q := 5) hC dX12_save_2 rfl rfl fl_RX12_39 ?_
  refine v_iload_n (i := 1) (q := 6) hC dX12_save_5 rfl rfl rfl ?_
  refine v_iconst (q := 7) (v := 0) hC dX12_save_6 rfl (by decide) ?_
  refine v_iconst (q := 8) (v := 1) hC dX12_save_7 rfl (by decide) ?_
  refine v_callS (q := 11) (rm := rm_X12_in) hC (c_X12_in hl Θ _ _ _ _) k_X12_in st_yX12_in ml_RX12_46 dX12_save_8 rfl  rfl rfl (Nat.le_of_ble_eq_true rfl) ⟨Nat.le_of_ble_eq_true rfl, Nat.le_of_ble_eq_true rfl⟩ ⟨Nat.le_of_ble_eq_true rfl, Nat.le_of_ble_eq_true rfl⟩ (fR_k ?_) fR_x (Nat.le_of_ble_eq_true rfl) (Nat.le_of_ble_eq_true rfl)
  try dsimp only [Option.toList, List.cons_append, List.nil_append]
  refine v_ifb_ne (q := 20) (q2 := 14) hC dX12_save_11 (by decide) rfl (fun c_11 => ?_) (fun c_11 => ?_)
  · rw [mg_t c_11]
    obtain ⟨t, ht, rfl⟩ := mIn_in (a := 1) c_11 (by decide)
    rw [nI_clamp (show t < 2 ^ 31 by omega)]
    refine v_aload_n (i := 0) (q := 21) hC dX12_save_20 rfl rfl rfl ?_
    refine g_X12_3 (q := 24) hC dX12_save_21 rfl rfl fl_RX12_19 ?_
    refine v_iload_n (i := 1) (q := 25) hC dX12_save_24 rfl rfl rfl ?_
    refine v_iconst (q := 26) (v := 1) hC dX12_save_25 rfl (by decide) ?_
    refine v_zast1 (i := t) (q := 27) hC dX12_save_26 rfl rfl (by omega) ?_
    refine v_iconst (q := 28) (v := 0) hC dX12_save_27 rfl (by decide) ?_
    refine v_istore_n (i := 2) (q := 29) hC dX12_save_28 rfl rfl (lvc rfl) (Nat.le_of_ble_eq_true rfl) (Nat.le_of_ble_eq_true rfl) rfl ?_
    have h := L t (by omega) 765 0 rfl
    rw [mSv_0] at h
    exact h
  · refine v_aload_n (i := 0) (q := 15) hC dX12_save_14 rfl rfl rfl ?_
    refine v_iconst (q := 16) (v := 1) hC dX12_save_15 rfl (by decide) ?_
    refine v_callV (q := 19) (rm := rm_X12_fails) hC (c_fl hl Θ _ _ _) k_X12_fails im_yX12_fails se_yX12_fails ml_RX12_76 dX12_save_16 rfl rfl rfl rfl rfl rfl (Nat.le_of_ble_eq_true rfl) ⟨Nat.le_of_ble_eq_true rfl, Nat.le_of_ble_eq_true rfl⟩ ⟨Nat.le_of_ble_eq_true rfl, Nat.le_of_ble_eq_true rfl⟩ (fR_k ?_) fR_x (Nat.le_of_ble_eq_true rfl) (Nat.le_of_ble_eq_true rfl)
    try dsimp only [Option.toList, List.cons_append, List.nil_append]
    refine v_iret hC dX12_save_19 hr (rfl) ?_ (Nat.le_of_ble_eq_true rfl) (Nat.le_of_ble_eq_true rfl)
    exact mg_f c_11
set_option maxHeartbeats 4000000 in
set_option maxRecDepth 20000 in
theorem c_X12_restore {l : Launch} (hl : l.stackTraces = false) (Θ : cTH) (x : Int32) (G : GS) (hm : mInv G) : Ct l yX12_restore cX12_restore 3 (some .int) rm_X12_restore Θ [.ref (tR Θ 0 29), .int x] (G) (mg (mIn x 0 1) 1 (mg (!decide (G.2.1 0 33 x.toNatClampNeg = 0)) 2 (fR (some (.int (mHo (mRd (G.2.1 0 30) (G.2.1 0 32) (765 * x.toNatClampNeg) 765) 20 0 0))) (mWr (mRd (G.2.1 0 30) (G.2.1 0 32) (765 * x.toNatClampNeg) 765) (mC G))) (G)) (G)) := by
  refine ct_of (LS := [some (.ref (tR Θ 0 29)), some (.int x), none]) hl (by decide +kernel) rfl (Nat.le_of_ble_eq_true rfl) rfl ?_
  intro p e s m args below meth c hC hr
  have L : ∀ (t : Nat), t < 2 → ∀ (n j : Nat), n + j = 765 → V p l e rm_X12_restore s m args below meth c 3 Θ (fR (some (.int (mHo (mRd (G.2.1 0 30) (G.2.1 0 32) (765 * t) 765) 20 0 0))) (mWr (mRd (G.2.1 0 30) (G.2.1 0 32) (765 * t) 765) (mC G))) rm_X12_restore.cells rm_X12_restore.slots 0 0 41 [some (.ref (tR Θ 0 29)), some (.int (nI t)), some (.int (nI j))] [] (mWr (mRd (G.2.1 0 30) (G.2.1 0 32) (765 * t) j) (mC G)) := by
    intro t ht n
    induction n with
    | zero =>
      intro j h1
      have ej : j = 765 := by omega
      subst ej
      refine v_iload_n (i := 2) (q := 42) hC dX12_restore_41 rfl rfl rfl ?_
      refine v_sipush (q := 45) (v := 765) hC dX12_restore_42 rfl (by decide) ?_
      refine v_icmp_ge (q := 72) (q2 := 48) hC dX12_restore_45 (by decide) rfl (fun c_45 => ?_) (fun c_45 => ?_)
      · refine v_aload_n (i := 0) (q := 73) hC dX12_restore_72 rfl rfl rfl ?_
        refine v_callV (q := 76) (rm := rm_X12_howManyObjects) hC (c_X12_howManyObjects hl Θ _) k_X12_howManyObjects im_yX12_howManyObjects se_yX12_howManyObjects ml_RX12_94 dX12_restore_73 rfl rfl rfl rfl rfl rfl (Nat.le_of_ble_eq_true rfl) ⟨Nat.le_of_ble_eq_true rfl, Nat.le_of_ble_eq_true rfl⟩ ⟨Nat.le_of_ble_eq_true rfl, Nat.le_of_ble_eq_true rfl⟩ (fR_k ?_) fR_x (Nat.le_of_ble_eq_true rfl) (Nat.le_of_ble_eq_true rfl)
        try dsimp only [Option.toList, List.cons_append, List.nil_append]
        rw [mWr_row]
        refine v_iret hC dX12_restore_76 hr (rfl) ?_ (Nat.le_of_ble_eq_true rfl) (Nat.le_of_ble_eq_true rfl)
        exact ⟨rfl, rfl⟩
      · exact absurd (by decide) c_45
    | succ n ih =>
      intro j h1
      refine v_iload_n (i := 2) (q := 42) hC dX12_restore_41 rfl rfl rfl ?_
      refine v_sipush (q := 45) (v := 765) hC dX12_restore_42 rfl (by decide) ?_
      refine v_icmp_ge (q := 72) (q2 := 48) hC dX12_restore_45 (by decide) rfl (fun c_45 => ?_) (fun c_45 => ?_)
      · exact absurd c_45 (by rw [show (765 : Int32) = nI 765 from rfl]; exact nI_ge (by omega) (by omega))
      · refine v_aload_n (i := 0) (q := 49) hC dX12_restore_48 rfl rfl rfl ?_
        refine g_X12_0 (q := 52) hC dX12_restore_49 rfl rfl fl_RX12_7 ?_
        refine v_iload_n (i := 2) (q := 53) hC dX12_restore_52 rfl rfl rfl ?_
        refine v_aload_n (i := 0) (q := 54) hC dX12_restore_53 rfl rfl rfl ?_
        refine g_X12_2 (q := 57) hC dX12_restore_54 rfl rfl fl_RX12_16 ?_
        refine v_sipush (q := 60) (v := 765) hC dX12_restore_57 rfl (by decide) ?_
        refine v_iload_n (i := 1) (q := 61) hC dX12_restore_60 rfl rfl rfl ?_
        refine v_imul (q := 62) hC dX12_restore_61 rfl ?_
        refine v_iload_n (i := 2) (q := 63) hC dX12_restore_62 rfl rfl rfl ?_
        refine v_iadd (q := 64) hC dX12_restore_63 rfl ?_
        refine v_ialdN (q := 65) hC dX12_restore_64 rfl rfl rfl (i := 765 * t + j) (e765 t j) (by omega) (by decide) ?_
        refine v_mwr (i := j) (q := 66) hC dX12_restore_65 rfl rfl (by omega) ?_
        refine v_iinc (q := 69) (v := nI (j + 1)) hC dX12_restore_66 rfl rfl (nI_1 j) (lvc rfl) (Nat.le_of_ble_eq_true rfl) (Nat.le_of_ble_eq_true rfl) rfl ?_
        refine v_goto (q := 41) hC dX12_restore_69 (by decide) ?_
        rw [show (mWr (mRd (G.2.1 0 30) (G.2.1 0 32) (765 * t) j) (mC G)).2.1 0 32 (765 * t + j) = G.2.1 0 32 (765 * t + j) from congrFun (mC_row G (o := 32) (by decide)) _, mRd_step]
        exact ih (j + 1) (by omega)
  refine v_aload_n (i := 0) (q := 1) hC dX12_restore_0 rfl rfl rfl ?_
  refine v_iconst (q := 2) (v := 0) hC dX12_restore_1 rfl (by decide) ?_
  refine pm_last (q := 5) hC dX12_restore_2 rfl rfl fl_RX12_39 ?_
  refine v_iload_n (i := 1) (q := 6) hC dX12_restore_5 rfl rfl rfl ?_
  refine v_iconst (q := 7) (v := 0) hC dX12_restore_6 rfl (by decide) ?_
  refine v_iconst (q := 8) (v := 1) hC dX12_restore_7 rfl (by decide) ?_
  refine v_callS (q := 11) (rm := rm_X12_in) hC (c_X12_in hl Θ _ _ _ _) k_X12_in st_yX12_in ml_RX12_46 dX12_restore_8 rfl  rfl rfl (Nat.le_of_ble_eq_true rfl) ⟨Nat.le_of_ble_eq_true rfl, Nat.le_of_ble_eq_true rfl⟩ ⟨Nat.le_of_ble_eq_true rfl, Nat.le_of_ble_eq_true rfl⟩ (fR_k ?_) fR_x (Nat.le_of_ble_eq_true rfl) (Nat.le_of_ble_eq_true rfl)
  try dsimp only [Option.toList, List.cons_append, List.nil_append]
  refine v_ifb_ne (q := 20) (q2 := 14) hC dX12_restore_11 (by decide) rfl (fun c_11 => ?_) (fun c_11 => ?_)
  · rw [mg_t c_11]
    obtain ⟨t, ht, rfl⟩ := mIn_in (a := 1) c_11 (by decide)
    rw [nI_clamp (show t < 2 ^ 31 by omega)]
    refine v_aload_n (i := 0) (q := 21) hC dX12_restore_20 rfl rfl rfl ?_
    refine g_X12_3 (q := 24) hC dX12_restore_21 rfl rfl fl_RX12_19 ?_
    refine v_iload_n (i := 1) (q := 25) hC dX12_restore_24 rfl rfl rfl ?_
    refine v_zald (i := t) (q := 26) hC dX12_restore_25 rfl rfl (by omega) ?_
    refine v_if_ne (q := 35) (q2 := 29) hC dX12_restore_26 (by decide) rfl (fun c_26 => ?_) (fun c_26 => ?_)
    · rw [mg_t (by rw [show decide (G.2.1 0 33 t = 0) = false from decide_eq_false c_26]; rfl)]
      refine v_aload_n (i := 0) (q := 36) hC dX12_restore_35 rfl rfl rfl ?_
      refine v_callV (q := 39) (rm := rm_X12_changes) hC (c_mC hl Θ _ hm) k_X12_changes im_yX12_changes se_yX12_changes ml_RX12_79 dX12_restore_36 rfl rfl rfl rfl rfl rfl (Nat.le_of_ble_eq_true rfl) ⟨Nat.le_of_ble_eq_true rfl, Nat.le_of_ble_eq_true rfl⟩ ⟨Nat.le_of_ble_eq_true rfl, Nat.le_of_ble_eq_true rfl⟩ (fR_k ?_) fR_x (Nat.le_of_ble_eq_true rfl) (Nat.le_of_ble_eq_true rfl)
      try dsimp only [Option.toList, List.cons_append, List.nil_append]
      refine v_iconst (q := 40) (v := 0) hC dX12_restore_39 rfl (by decide) ?_
      refine v_istore_n (i := 2) (q := 41) hC dX12_restore_40 rfl rfl (lvc rfl) (Nat.le_of_ble_eq_true rfl) (Nat.le_of_ble_eq_true rfl) rfl ?_
      have h := L t (by omega) 765 0 rfl
      rw [mRd_0, ← mC_w G, mWr_self, mC_w G] at h
      exact h
    · refine v_aload_n (i := 0) (q := 30) hC dX12_restore_29 rfl rfl rfl ?_
      refine v_iconst (q := 31) (v := 2) hC dX12_restore_30 rfl (by decide) ?_
      refine v_callV (q := 34) (rm := rm_X12_fails) hC (c_fl hl Θ _ _ _) k_X12_fails im_yX12_fails se_yX12_fails ml_RX12_76 dX12_restore_31 rfl rfl rfl rfl rfl rfl (Nat.le_of_ble_eq_true rfl) ⟨Nat.le_of_ble_eq_true rfl, Nat.le_of_ble_eq_true rfl⟩ ⟨Nat.le_of_ble_eq_true rfl, Nat.le_of_ble_eq_true rfl⟩ (fR_k ?_) fR_x (Nat.le_of_ble_eq_true rfl) (Nat.le_of_ble_eq_true rfl)
      try dsimp only [Option.toList, List.cons_append, List.nil_append]
      refine v_iret hC dX12_restore_34 hr (rfl) ?_ (Nat.le_of_ble_eq_true rfl) (Nat.le_of_ble_eq_true rfl)
      exact mg_f (by rw [show decide (G.2.1 0 33 t = 0) = true from decide_eq_true c_26]; rfl)
  · refine v_aload_n (i := 0) (q := 15) hC dX12_restore_14 rfl rfl rfl ?_
    refine v_iconst (q := 16) (v := 1) hC dX12_restore_15 rfl (by decide) ?_
    refine v_callV (q := 19) (rm := rm_X12_fails) hC (c_fl hl Θ _ _ _) k_X12_fails im_yX12_fails se_yX12_fails ml_RX12_76 dX12_restore_16 rfl rfl rfl rfl rfl rfl (Nat.le_of_ble_eq_true rfl) ⟨Nat.le_of_ble_eq_true rfl, Nat.le_of_ble_eq_true rfl⟩ ⟨Nat.le_of_ble_eq_true rfl, Nat.le_of_ble_eq_true rfl⟩ (fR_k ?_) fR_x (Nat.le_of_ble_eq_true rfl) (Nat.le_of_ble_eq_true rfl)
    try dsimp only [Option.toList, List.cons_append, List.nil_append]
    refine v_iret hC dX12_restore_19 hr (rfl) ?_ (Nat.le_of_ble_eq_true rfl) (Nat.le_of_ble_eq_true rfl)
    exact mg_f c_11
def mOM (G : GS) : Int32 := 4 * G.2.1 0 30 0 * mHo (G.2.1 0 30) 20 0 0
def mOA (G : GS) : Int32 := mEv (G.2.1 0 30) (mUs (G.2.1 0 30)) 0 0
set_option maxHeartbeats 4000000 in
set_option maxRecDepth 20000 in
theorem c_X12_openness {l : Launch} (hl : l.stackTraces = false) (Θ : cTH) (G : GS) (hm : mInv G) (hn : vf_n64 (FP.ddiv (FP.i2d (mOA G)) (FP.i2d (mOM G)))) : Ct l yX12_openness cX12_openness 3 (some .double) rm_X12_openness Θ [.ref (tR Θ 0 29)] (G) (fR (some (.double (FP.ddiv (FP.i2d (mOA G)) (FP.i2d (mOM G))))) (ms 0 G)) := by
  refine ct_of (LS := [some (.ref (tR Θ 0 29)), none, none]) hl (by decide +kernel) rfl (Nat.le_of_ble_eq_true rfl) rfl ?_
  intro p e s m args below meth c hC hr
  have L : V p l e rm_X12_openness s m args below meth c 3 Θ (fR (some (.double (FP.ddiv (FP.i2d (mOA G)) (FP.i2d (mOM G))))) (ms 0 G)) rm_X12_openness.cells rm_X12_openness.slots 0 0 12 [some (.ref (tR Θ 0 29)), none, none] [.double (FP.i2d (mOA G))] (ms 0 G) := by
    refine v_iconst (q := 13) (v := 4) hC dX12_openness_12 rfl (by decide) ?_
    refine v_aload_n (i := 0) (q := 14) hC dX12_openness_13 rfl rfl rfl ?_
    refine g_X12_0 (q := 17) hC dX12_openness_14 rfl rfl fl_RX12_7 ?_
    refine v_iconst (q := 18) (v := 0) hC dX12_openness_17 rfl (by decide) ?_
    refine v_ialdN (q := 19) hC dX12_openness_18 rfl rfl rfl (i := 0) (rfl) (by first | decide | omega | (unfold oA; omega) | (unfold enA; omega)) (by decide) ?_
    refine v_imul (q := 20) hC dX12_openness_19 rfl ?_
    refine v_aload_n (i := 0) (q := 21) hC dX12_openness_20 rfl rfl rfl ?_
    refine v_callV (q := 24) (rm := rm_X12_howManyObjects) hC (c_X12_howManyObjects hl Θ _) k_X12_howManyObjects im_yX12_howManyObjects se_yX12_howManyObjects ml_RX12_94 dX12_openness_21 rfl rfl rfl rfl rfl rfl (Nat.le_of_ble_eq_true rfl) ⟨Nat.le_of_ble_eq_true rfl, Nat.le_of_ble_eq_true rfl⟩ ⟨Nat.le_of_ble_eq_true rfl, Nat.le_of_ble_eq_true rfl⟩ (fR_k ?_) fR_x (Nat.le_of_ble_eq_true rfl) (Nat.le_of_ble_eq_true rfl)
    try dsimp only [Option.toList, List.cons_append, List.nil_append]
    refine v_imul (q := 25) hC dX12_openness_24 rfl ?_
    refine v_i2d (q := 26) hC dX12_openness_25 rfl ?_
    refine v_ddiv (q := 27) hC dX12_openness_26 rfl hn ?_
    refine v_dret hC dX12_openness_27 hr ⟨rfl, rfl⟩ (Nat.le_of_ble_eq_true rfl) (Nat.le_of_ble_eq_true rfl)
    skip
  refine v_aload_n (i := 0) (q := 1) hC dX12_openness_0 rfl rfl rfl ?_
  refine v_iconst (q := 2) (v := 0) hC dX12_openness_1 rfl (by decide) ?_
  refine pm_last (q := 5) hC dX12_openness_2 rfl rfl fl_RX12_39 ?_
  refine v_aload_n (i := 0) (q := 6) hC dX12_openness_5 rfl rfl rfl ?_
  refine v_callV (q := 9) (rm := rm_X12_everything) hC (c_X12_everything hl Θ _ hm.2) k_X12_everything im_yX12_everything se_yX12_everything ml_RX12_227 dX12_openness_6 rfl rfl rfl rfl rfl rfl (Nat.le_of_ble_eq_true rfl) ⟨Nat.le_of_ble_eq_true rfl, Nat.le_of_ble_eq_true rfl⟩ ⟨Nat.le_of_ble_eq_true rfl, Nat.le_of_ble_eq_true rfl⟩ (fR_k ?_) fR_x (Nat.le_of_ble_eq_true rfl) (Nat.le_of_ble_eq_true rfl)
  try dsimp only [Option.toList, List.cons_append, List.nil_append]
  refine v_i2d (q := 10) hC dX12_openness_9 rfl ?_
  refine v_dsl1 (q := 12) hC dX12_openness_10 dX12_openness_11 rfl rfl rfl ?_
  exact L
