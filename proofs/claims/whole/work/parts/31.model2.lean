/-! The reference: changes, users, groups, objects -/
def mUs (w : Nat → Int32) : Nat := (w 0).toNatClampNeg
def mGs (w : Nat → Int32) : Nat := (w 1).toNatClampNeg
def mCt (w : Nat → Int32) (o : Nat) : Nat := (w (oA o 5)).toNatClampNeg
def mRk (w : Nat → Int32) : Prop := ∃ rk : Nat → Nat, ∀ o, o < 20 → rk o < 20 ∧ (w (oA o 1) = -1 ∨ ∃ j, j < 20 ∧ w (oA o 1) = nI j ∧ rk j < rk o)
def mOk (w : Nat → Int32) : Prop :=
  (w 0 = nI (mUs w) ∧ mUs w ≤ 12) ∧ (w 1 = nI (mGs w) ∧ mGs w ≤ 8) ∧ (∀ o, o < 20 → w (oA o 5) = nI (mCt w o) ∧ mCt w o ≤ 6) ∧ (∀ o, o < 20 → w (oA o 0) = 0 ∨ w (oA o 0) = 1) ∧ (∀ o i, o < 20 → i < 6 → w (enA o i 0) = 1 → ∃ j, j < 8 ∧ w (enA o i 1) = nI j) ∧ mRk w
theorem mOk.us {w : Nat → Int32} (h : mOk w) : w 0 = nI (mUs w) := h.1.1
theorem mOk.us12 {w : Nat → Int32} (h : mOk w) : mUs w ≤ 12 := h.1.2
theorem mOk.gs {w : Nat → Int32} (h : mOk w) : w 1 = nI (mGs w) := h.2.1.1
theorem mOk.gs8 {w : Nat → Int32} (h : mOk w) : mGs w ≤ 8 := h.2.1.2
theorem mOk.ct {w : Nat → Int32} (h : mOk w) {o : Nat} (ho : o < 20) : w (oA o 5) = nI (mCt w o) := (h.2.2.1 o ho).1
theorem mOk.ct6 {w : Nat → Int32} (h : mOk w) {o : Nat} (ho : o < 20) : mCt w o ≤ 6 := (h.2.2.1 o ho).2
theorem mOk.th {w : Nat → Int32} (h : mOk w) {o : Nat} (ho : o < 20) : w (oA o 0) = 0 ∨ w (oA o 0) = 1 := h.2.2.2.1 o ho
theorem mOk.who {w : Nat → Int32} (h : mOk w) {o i : Nat} (ho : o < 20) (hi : i < 6) (h1 : w (enA o i 0) = 1) : ∃ j, j < 8 ∧ w (enA o i 1) = nI j := h.2.2.2.2.1 o i ho hi h1
theorem mOk.rk {w : Nat → Int32} (h : mOk w) : mRk w := h.2.2.2.2.2
def mQ (G : GS) : Nat := (G.1 0 29 4).toNatClampNeg
def mInv (G : GS) : Prop := (G.1 0 29 4 = nI (mQ G) ∧ mQ G ≤ 5) ∧ mOk (G.2.1 0 30)
/-- a guard: where it fails, k is laid down and 0 answered -/
def mg (b : Bool) (k : Int32) (X : cOut → GS → Prop) (G : GS) : cOut → GS → Prop := fun o G1 => if b = true then X o G1 else (o = .inl (some (.int 0)) ∧ G1 = ms k G)
theorem mg_t {b : Bool} {k : Int32} {X : cOut → GS → Prop} {G : GS} (h : b = true) : mg b k X G = X := by
  funext o G1
  rw [mg, if_pos h]
theorem mg_f {b : Bool} {k : Int32} {X : cOut → GS → Prop} {G : GS} (h : b = false) : mg b k X G (.inl (some (.int 0))) (ms k G) := by
  rw [mg, if_neg (by rw [h]; decide)]
  exact ⟨rfl, rfl⟩
theorem ms_fld (x : Int32) (G : GS) {k : Nat} (h : ¬ k = 5) : (ms x G).1 0 29 k = G.1 0 29 k := by simp [ms, putF_get, h]
/-- s written at a place -/
def mUp (i : Nat) (x : Int32) (G : GS) : GS := putA G 0 30 (upd (G.2.1 0 30) i x)
theorem mUp_row (i : Nat) (x : Int32) (G : GS) : (mUp i x G).2.1 0 30 = upd (G.2.1 0 30) i x := putA_same _ _ _ _
theorem mUp_fld (i : Nat) (x : Int32) (G : GS) : (mUp i x G).1 = G.1 := rfl
def mWr (w : Nat → Int32) (G : GS) : GS := putA G 0 30 w
theorem mWr_row (w : Nat → Int32) (G : GS) : (mWr w G).2.1 0 30 = w := putA_same _ _ _ _
theorem mWr_mWr (w w2 : Nat → Int32) (G : GS) : mWr w (mWr w2 G) = mWr w G := putA_putA _ _ _ _ _
theorem mWr_self (G : GS) : mWr (G.2.1 0 30) G = G := putA_self _ _ _
def mChS (G : GS) (pt : Nat → Int32) (x : Int32) : GS := putF (putA G 0 31 pt) 0 29 4 x
theorem mChS_A (G : GS) (pt pt2 : Nat → Int32) (x : Int32) : putA (mChS G pt x) 0 31 pt2 = mChS G pt2 x := by
  unfold mChS
  rw [show putA (putF (putA G 0 31 pt) 0 29 4 x) 0 31 pt2 = putF (putA (putA G 0 31 pt) 0 31 pt2) 0 29 4 x from rfl, putA_putA]
theorem mChS_F (G : GS) (pt : Nat → Int32) (x y : Int32) : putF (mChS G pt x) 0 29 4 y = mChS G pt y := putF_putF _ _ _ _ _ _
theorem mChS_self (G : GS) : mChS G (G.2.1 0 31) (G.1 0 29 4) = G := by
  unfold mChS
  rw [putA_self, putF_self]
theorem mChS_31 (G : GS) (pt : Nat → Int32) (x : Int32) : (mChS G pt x).2.1 0 31 = pt := putA_same _ _ _ _
section MROWS
variable {p : Program} {l : Launch} {e : Env} {R : Room} {s : State} {m : MethodId} {args : Array Value} {below : List Frame} {meth : Method} {c : Code} {cc : ByteArray} {nL : Nat} {own : String} {Θ : cTH} {Qp : cOut → GS → Prop} {Q9 : State → Prop} {mc ms2 k n pc q : Nat} {LS : List (Option Value)} {rest : List Value} {G : GS}
theorem pm_last (hC : cC p l s m args meth c cc nL own Θ) {idx : Nat} {x : Int32} (d : decode cc pc = .ok (.putfield idx, 3)) (hq : pc + 3 = q) (hid : okI G.2.2.1 0 29 = true) (hlk : Cond.fieldLink own idx "PermissionDeskModel" "last" "I" ∈ wALL) (kk : VG p l e R s m args below meth c nL Θ Q9 k n q LS rest (ms x G)) : VG p l e R s m args below meth c nL Θ Q9 k n pc LS (.int x :: .ref (tR Θ 0 29) :: rest) G := p_X12_5 hC d hq hid hlk kk
theorem gm_pasts (hC : cC p l s m args meth c cc nL own Θ) {pt : Nat → Int32} {x : Int32} {idx : Nat} (d : decode cc pc = .ok (.getfield idx, 3)) (hq : pc + 3 = q) (hid : okI (mChS G pt x).2.2.1 0 29 = true) (hlk : Cond.fieldLink own idx "PermissionDeskModel" "pasts" "I" ∈ wALL) (kk : VG p l e R s m args below meth c nL Θ Q9 k n q LS (.int x :: rest) (mChS G pt x)) : VG p l e R s m args below meth c nL Θ Q9 k n pc LS (.ref (tR Θ 0 29) :: rest) (mChS G pt x) := g_X12_4 hC d hq hid hlk kk
theorem pm_pasts (hC : cC p l s m args meth c cc nL own Θ) {pt : Nat → Int32} {x y : Int32} {idx : Nat} (d : decode cc pc = .ok (.putfield idx, 3)) (hq : pc + 3 = q) (hid : okI (mChS G pt x).2.2.1 0 29 = true) (hlk : Cond.fieldLink own idx "PermissionDeskModel" "pasts" "I" ∈ wALL) (kk : VG p l e R s m args below meth c nL Θ Q9 k n q LS rest (mChS G pt y)) : VG p l e R s m args below meth c nL Θ Q9 k n pc LS (.int y :: .ref (tR Θ 0 29) :: rest) (mChS G pt x) := p_X12_4 hC d hq hid hlk (by rw [mChS_F]; exact kk)
theorem v_mup (hC : cC p l s m args meth c cc nL own Θ) {i : Nat} {x v : Int32} (d : decode cc pc = .ok (.iastore, 1)) (hq : pc + 1 = q) (hx : x = nI i) (hi : i < 765)
    (kk : VG p l e R s m args below meth c nL Θ Q9 k n q LS rest (mUp i v G)) : VG p l e R s m args below meth c nL Θ Q9 k n pc LS (.int v :: .int x :: .ref (tR Θ 0 30) :: rest) G := v_iastN (N := 765) hC d hq rfl (fun _ => rfl) hx hi (by decide) kk
end MROWS
def mShK (a : Nat → Int32) (n : Nat) : Nat → Int32 := fun k => if k < n then a (k + 765) else a k
theorem mShK_step (a : Nat → Int32) (n : Nat) : upd (mShK a n) n (mShK a n (n + 765)) = mShK a (n + 1) := by
  funext k
  unfold upd mShK
  by_cases h : k = n
  · subst h
    rw [if_pos rfl, if_neg (by omega), if_pos (by omega)]
  · rw [if_neg h]
    by_cases h2 : k < n
    · rw [if_pos h2, if_pos (by omega)]
    · rw [if_neg h2, if_neg (by omega)]
theorem mShK_0 (a : Nat → Int32) : mShK a 0 = a := by
  funext k
  rw [mShK, if_neg (by omega)]
/-- a copied to b, n places of it, from the place t of b on -/
def mCpK (b a : Nat → Int32) (t n : Nat) : Nat → Int32 := fun k => if t ≤ k ∧ k < t + n then a (k - t) else b k
theorem mCpK_step (b a : Nat → Int32) (t n : Nat) : upd (mCpK b a t n) (t + n) (a n) = mCpK b a t (n + 1) := by
  funext k
  unfold upd mCpK
  by_cases h : k = t + n
  · subst h
    rw [if_pos rfl, if_pos (by omega)]
    congr 1
    omega
  · rw [if_neg h]
    by_cases h2 : t ≤ k ∧ k < t + n
    · rw [if_pos h2, if_pos (by omega)]
    · rw [if_neg h2, if_neg (by omega)]
theorem mCpK_0 (b a : Nat → Int32) (t : Nat) : mCpK b a t 0 = b := by
  funext k
  rw [mCpK, if_neg (by omega)]
theorem nI_mulL (a b : Nat) {x : Int32} (h : x = nI a) : x * nI b = nI (a * b) := by rw [h, nI_mul]
def mCh (q : Nat) (G : GS) : GS := if q = 5 then mChS G (mCpK (mShK (G.2.1 0 31) 3060) (G.2.1 0 30) 3060 765) (nI 5) else mChS G (mCpK (G.2.1 0 31) (G.2.1 0 30) (765 * q) 765) (nI (q + 1))
set_option maxHeartbeats 4000000 in
set_option maxRecDepth 20000 in
theorem c_X12_changes {l : Launch} (hl : l.stackTraces = false) (Θ : cTH) (q : Nat) (G : GS) (hp : G.1 0 29 4 = nI q) (h5 : q ≤ 5) : Ct l yX12_changes cX12_changes 2 none rm_X12_changes Θ [.ref (tR Θ 0 29)] (G) (fR none (mCh q G)) := by
  refine ct_of (LS := [some (.ref (tR Θ 0 29)), none]) hl (by decide +kernel) rfl (Nat.le_of_ble_eq_true rfl) rfl ?_
  intro p e s m args below meth c hC hr
  have L2 : ∀ (pt : Nat → Int32) (r : Nat), r ≤ 4 → mCh q G = mChS G (mCpK pt (G.2.1 0 30) (765 * r) 765) (nI (r + 1)) → ∀ (n j : Nat), n + j = 765 → V p l e rm_X12_changes s m args below meth c 2 Θ (fR none (mCh q G)) 0 0 0 0 51 [some (.ref (tR Θ 0 29)), some (.int (nI j))] [] (mChS G (mCpK pt (G.2.1 0 30) (765 * r) j) (nI r)) := by
    intro pt r hr4 h0 n
    induction n with
    | zero =>
      intro j h1
      refine v_iload_n (i := 1) (q := 52) hC dX12_changes_51 rfl rfl rfl ?_
      refine v_sipush (q := 55) (v := 765) hC dX12_changes_52 rfl (by decide) ?_
      refine v_icmp_ge (q := 85) (q2 := 58) hC dX12_changes_55 (by decide) rfl (fun c_55 => ?_) (fun c_55 => ?_)
      · refine v_aload_n (i := 0) (q := 86) hC dX12_changes_85 rfl rfl rfl ?_
        refine v_dup (q := 87) hC dX12_changes_86 rfl rfl ?_
        refine gm_pasts (q := 90) hC dX12_changes_87 rfl rfl fl_RX12_43 ?_
        refine v_iconst (q := 91) (v := 1) hC dX12_changes_90 rfl (by decide) ?_
        refine v_iadd (q := 92) hC dX12_changes_91 rfl ?_
        refine pm_pasts (q := 95) hC dX12_changes_92 rfl rfl fl_RX12_43 ?_
        refine v_vret hC dX12_changes_95 hr ?_ (Nat.le_of_ble_eq_true rfl) (Nat.le_of_ble_eq_true rfl)
        exact ⟨rfl, by rw [h0, show j = 765 by omega, nI_1]⟩
      · exact absurd (by rw [show j = 765 by omega]; decide) c_55
    | succ n ih =>
      intro j h1
      refine v_iload_n (i := 1) (q := 52) hC dX12_changes_51 rfl rfl rfl ?_
      refine v_sipush (q := 55) (v := 765) hC dX12_changes_52 rfl (by decide) ?_
      refine v_icmp_ge (q := 85) (q2 := 58) hC dX12_changes_55 (by decide) rfl (fun c_55 => ?_) (fun c_55 => ?_)
      · exact absurd c_55 (by rw [show (765 : Int32) = nI 765 from rfl]; exact nI_ge (by omega) (by omega))
      · refine v_aload_n (i := 0) (q := 59) hC dX12_changes_58 rfl rfl rfl ?_
        refine g_X12_1 (q := 62) hC dX12_changes_59 rfl rfl fl_RX12_13 ?_
        refine v_sipush (q := 65) (v := 765) hC dX12_changes_62 rfl (by decide) ?_
        refine v_aload_n (i := 0) (q := 66) hC dX12_changes_65 rfl rfl rfl ?_
        refine gm_pasts (q := 69) hC dX12_changes_66 rfl rfl fl_RX12_43 ?_
        refine v_imul (q := 70) hC dX12_changes_69 rfl ?_
        refine v_iload_n (i := 1) (q := 71) hC dX12_changes_70 rfl rfl rfl ?_
        refine v_iadd (q := 72) hC dX12_changes_71 rfl ?_
        refine v_aload_n (i := 0) (q := 73) hC dX12_changes_72 rfl rfl rfl ?_
        refine g_X12_0 (q := 76) hC dX12_changes_73 rfl rfl fl_RX12_7 ?_
        refine v_iload_n (i := 1) (q := 77) hC dX12_changes_76 rfl rfl rfl ?_
        refine v_ialdN (q := 78) hC dX12_changes_77 rfl rfl rfl (i := j) (rfl) (by first | decide | omega | (unfold oA; omega) | (unfold enA; omega)) (by decide) ?_
        refine v_iastN (q := 79) hC dX12_changes_78 rfl rfl (fun _ => rfl) (i := 765 * r + j) (by rw [show (765 : Int32) = nI 765 from rfl, nI_mul, nI_add]) (by omega) (by decide) ?_
        refine v_iinc (q := 82) (v := nI (j + 1)) hC dX12_changes_79 rfl rfl (nI_1 j) (lvc rfl) (Nat.le_of_ble_eq_true rfl) (Nat.le_of_ble_eq_true rfl) rfl ?_
        refine v_goto (q := 51) hC dX12_changes_82 (by decide) ?_
        rw [mChS_31, mChS_A]
        rw [show (mChS G (mCpK pt (G.2.1 0 30) (765 * r) j) (nI r)).2.1 0 30 j = G.2.1 0 30 j from rfl, mCpK_step]
        exact ih (j + 1) (by omega)
  have L1 : G.1 0 29 4 = 5 → q = 5 → ∀ (n j : Nat), n + j = 3060 → V p l e rm_X12_changes s m args below meth c 2 Θ (fR none (mCh q G)) 0 0 0 0 10 [some (.ref (tR Θ 0 29)), some (.int (nI j))] [] (mChS G (mShK (G.2.1 0 31) j) 5) := by
    intro e5 eq n
    induction n with
    | zero =>
      intro j h1
      refine v_iload_n (i := 1) (q := 11) hC dX12_changes_10 rfl rfl rfl ?_
      refine v_sipush (q := 14) (v := 3060) hC dX12_changes_11 rfl (by decide) ?_
      refine v_icmp_ge (q := 39) (q2 := 17) hC dX12_changes_14 (by decide) rfl (fun c_14 => ?_) (fun c_14 => ?_)
      · refine v_aload_n (i := 0) (q := 40) hC dX12_changes_39 rfl rfl rfl ?_
        refine v_dup (q := 41) hC dX12_changes_40 rfl rfl ?_
        refine gm_pasts (q := 44) hC dX12_changes_41 rfl rfl fl_RX12_43 ?_
        refine v_iconst (q := 45) (v := 1) hC dX12_changes_44 rfl (by decide) ?_
        refine v_isub (q := 46) hC dX12_changes_45 rfl ?_
        refine pm_pasts (q := 49) hC dX12_changes_46 rfl rfl fl_RX12_43 ?_
        refine v_iconst (q := 50) (v := 0) hC dX12_changes_49 rfl (by decide) ?_
        refine v_istore_n (i := 1) (q := 51) hC dX12_changes_50 rfl rfl (lvc rfl) (Nat.le_of_ble_eq_true rfl) (Nat.le_of_ble_eq_true rfl) rfl ?_
        have h := L2 (mShK (G.2.1 0 31) j) 4 (by omega) (by rw [mCh, if_pos eq, show j = 3060 by omega]) 765 0 rfl
        rw [mCpK_0] at h
        exact h
      · exact absurd (by rw [show j = 3060 by omega]; decide) c_14
    | succ n ih =>
      intro j h1
      refine v_iload_n (i := 1) (q := 11) hC dX12_changes_10 rfl rfl rfl ?_
      refine v_sipush (q := 14) (v := 3060) hC dX12_changes_11 rfl (by decide) ?_
      refine v_icmp_ge (q := 39) (q2 := 17) hC dX12_changes_14 (by decide) rfl (fun c_14 => ?_) (fun c_14 => ?_)
      · exact absurd c_14 (by rw [show (3060 : Int32) = nI 3060 from rfl]; exact nI_ge (by omega) (by omega))
      · refine v_aload_n (i := 0) (q := 18) hC dX12_changes_17 rfl rfl rfl ?_
        refine g_X12_1 (q := 21) hC dX12_changes_18 rfl rfl fl_RX12_13 ?_
        refine v_iload_n (i := 1) (q := 22) hC dX12_changes_21 rfl rfl rfl ?_
        refine v_aload_n (i := 0) (q := 23) hC dX12_changes_22 rfl rfl rfl ?_
        refine g_X12_1 (q := 26) hC dX12_changes_23 rfl rfl fl_RX12_13 ?_
        refine v_iload_n (i := 1) (q := 27) hC dX12_changes_26 rfl rfl rfl ?_
        refine v_sipush (q := 30) (v := 765) hC dX12_changes_27 rfl (by decide) ?_
        refine v_iadd (q := 31) hC dX12_changes_30 rfl ?_
        refine v_ialdN (q := 32) hC dX12_changes_31 rfl rfl rfl (i := j + 765) (nI_add j 765) (by omega) (by decide) ?_
        refine v_iastN (q := 33) hC dX12_changes_32 rfl rfl (fun _ => rfl) (i := j) (rfl) (by omega) (by decide) ?_
        refine v_iinc (q := 36) (v := nI (j + 1)) hC dX12_changes_33 rfl rfl (nI_1 j) (lvc rfl) (Nat.le_of_ble_eq_true rfl) (Nat.le_of_ble_eq_true rfl) rfl ?_
        refine v_goto (q := 10) hC dX12_changes_36 (by decide) ?_
        rw [mChS_31, mChS_A, mShK_step]
        exact ih (j + 1) (by omega)
  refine v_aload_n (i := 0) (q := 1) hC dX12_changes_0 rfl rfl rfl ?_
  refine g_X12_4 (q := 4) hC dX12_changes_1 rfl rfl fl_RX12_43 ?_
  refine v_iconst (q := 5) (v := 5) hC dX12_changes_4 rfl (by decide) ?_
  refine v_icmp_ne (q := 49) (q2 := 8) hC dX12_changes_5 (by decide) rfl (fun c_5 => ?_) (fun c_5 => ?_)
  · refine v_iconst (q := 50) (v := 0) hC dX12_changes_49 rfl (by decide) ?_
    refine v_istore_n (i := 1) (q := 51) hC dX12_changes_50 rfl rfl (lvc rfl) (Nat.le_of_ble_eq_true rfl) (Nat.le_of_ble_eq_true rfl) rfl ?_
    have e5 : ¬ q = 5 := fun z => c_5 (by rw [hp, z]; rfl)
    have h := L2 (G.2.1 0 31) q (by omega) (by rw [mCh, if_neg e5]) 765 0 rfl
    rw [mCpK_0, ← hp, mChS_self] at h
    exact h
  · refine v_iconst (q := 9) (v := 0) hC dX12_changes_8 rfl (by decide) ?_
    refine v_istore_n (i := 1) (q := 10) hC dX12_changes_9 rfl rfl (lvc rfl) (Nat.le_of_ble_eq_true rfl) (Nat.le_of_ble_eq_true rfl) rfl ?_
    have e5 : G.1 0 29 4 = 5 := c_5
    have eq : q = 5 := (nI_eq (by omega) (by omega)).mp (hp.symm.trans e5)
    have h := L1 e5 eq 3060 0 rfl
    rw [mShK_0, ← e5, mChS_self] at h
    exact h
theorem mCh_row (q : Nat) (G : GS) {o : Nat} (h : ¬ o = 31) : (mCh q G).2.1 0 o = G.2.1 0 o := by
  unfold mCh mChS
  by_cases h1 : q = 5
  · rw [if_pos h1, putF_row, putA_get, if_neg (by omega)]
  · rw [if_neg h1, putF_row, putA_get, if_neg (by omega)]
theorem mCh_fld (q : Nat) (G : GS) {k : Nat} (h : ¬ k = 4) : (mCh q G).1 0 29 k = G.1 0 29 k := by
  unfold mCh mChS
  by_cases h1 : q = 5
  · rw [if_pos h1, putF_get, if_neg (by omega)]; rfl
  · rw [if_neg h1, putF_get, if_neg (by omega)]; rfl
/-- after the change is noted -/
def mC (G : GS) : GS := mCh (mQ G) (ms 0 G)
theorem mC_row (G : GS) {o : Nat} (h : ¬ o = 31) : (mC G).2.1 0 o = G.2.1 0 o := mCh_row _ _ h
theorem mC_w (G : GS) : (mC G).2.1 0 30 = G.2.1 0 30 := mCh_row _ _ (by decide)
theorem c_mC {l : Launch} (hl : l.stackTraces = false) (Θ : cTH) (G : GS) (hm : mInv G) : Ct l yX12_changes cX12_changes 2 none rm_X12_changes Θ [.ref (tR Θ 0 29)] (ms 0 G) (fR none (mC G)) := c_X12_changes hl Θ (mQ G) (ms 0 G) (by rw [ms_fld _ _ (by decide)]; exact hm.1.1) hm.1.2
theorem c_fl {l : Launch} (hl : l.stackTraces = false) (Θ : cTH) (x y : Int32) (G : GS) : Ct l yX12_fails cX12_fails 2 (some .int) rm_X12_fails Θ [.ref (tR Θ 0 29), .int x] (ms y G) (fR (some (.int 0)) (ms x G)) := by
  have h := c_X12_fails hl Θ x (ms y G)
  rw [ms_ms] at h
  exact h
theorem mIn_lt {x y : Int32} {g : Nat} (h : mIn x 0 (y - 1) = true) (hy : y = nI g) (hg : g < 2 ^ 31) : ∃ j : Nat, j < g ∧ x = nI j := by
  subst hy
  rcases g with _ | g
  · simp only [mIn, Bool.and_eq_true, decide_eq_true_eq] at h
    exact absurd (Int32.le_trans h.1 h.2) (by decide)
  · rw [show nI (g + 1) - 1 = nI g from by rw [← nI_1, Int32.add_sub_cancel]] at h
    obtain ⟨j, hj, e⟩ := mIn_in h (by omega)
    exact ⟨j, by omega, e⟩
set_option maxHeartbeats 4000000 in
set_option maxRecDepth 20000 in
theorem c_X12_addUser {l : Launch} (hl : l.stackTraces = false) (Θ : cTH) (G : GS) (hm : mInv G) : Ct l yX12_addUser cX12_addUser 1 (some .int) rm_X12_addUser Θ [.ref (tR Θ 0 29)] (G) (mg (!decide (G.2.1 0 30 0 = 12)) 1 (fR (some (.int ((mC G).2.1 0 30 0 + 1 - 1))) (mUp 0 ((mC G).2.1 0 30 0 + 1) (mC G))) (G)) := by
  refine ct_of (LS := [some (.ref (tR Θ 0 29))]) hl (by decide +kernel) rfl (Nat.le_of_ble_eq_true rfl) rfl ?_
  intro p e s m args below meth c hC hr
  refine v_aload_n (i := 0) (q := 1) hC dX12_addUser_0 rfl rfl rfl ?_
  refine v_iconst (q := 2) (v := 0) hC dX12_addUser_1 rfl (by decide) ?_
  refine pm_last (q := 5) hC dX12_addUser_2 rfl rfl fl_RX12_39 ?_
  refine v_aload_n (i := 0) (q := 6) hC dX12_addUser_5 rfl rfl rfl ?_
  refine g_X12_0 (q := 9) hC dX12_addUser_6 rfl rfl fl_RX12_7 ?_
  refine v_iconst (q := 10) (v := 0) hC dX12_addUser_9 rfl (by decide) ?_
  refine v_ialdN (q := 11) hC dX12_addUser_10 rfl rfl rfl (i := 0) (rfl) (by first | decide | omega | (unfold oA; omega) | (unfold enA; omega)) (by decide) ?_
  refine v_bipush (q := 13) (v := 12) hC dX12_addUser_11 rfl (by decide) ?_
  refine v_icmp_ne (q := 22) (q2 := 16) hC dX12_addUser_13 (by decide) rfl (fun c_13 => ?_) (fun c_13 => ?_)
  · rw [mg_t (by rw [decide_eq_false (show ¬ G.2.1 0 30 0 = 12 from c_13)]; rfl)]
    refine v_aload_n (i := 0) (q := 23) hC dX12_addUser_22 rfl rfl rfl ?_
    refine v_callV (q := 26) (rm := rm_X12_changes) hC (c_mC hl Θ _ hm) k_X12_changes im_yX12_changes se_yX12_changes ml_RX12_79 dX12_addUser_23 rfl rfl rfl rfl rfl rfl (Nat.le_of_ble_eq_true rfl) ⟨Nat.le_of_ble_eq_true rfl, Nat.le_of_ble_eq_true rfl⟩ ⟨Nat.le_of_ble_eq_true rfl, Nat.le_of_ble_eq_true rfl⟩ (fR_k ?_) fR_x (Nat.le_of_ble_eq_true rfl) (Nat.le_of_ble_eq_true rfl)
    try dsimp only [Option.toList, List.cons_append, List.nil_append]
    refine v_aload_n (i := 0) (q := 27) hC dX12_addUser_26 rfl rfl rfl ?_
    refine g_X12_0 (q := 30) hC dX12_addUser_27 rfl rfl fl_RX12_7 ?_
    refine v_iconst (q := 31) (v := 0) hC dX12_addUser_30 rfl (by decide) ?_
    refine v_dup2 (q := 32) hC dX12_addUser_31 rfl rfl rfl ?_
    refine v_ialdN (q := 33) hC dX12_addUser_32 rfl rfl rfl (i := 0) (rfl) (by first | decide | omega | (unfold oA; omega) | (unfold enA; omega)) (by decide) ?_
    refine v_iconst (q := 34) (v := 1) hC dX12_addUser_33 rfl (by decide) ?_
    refine v_iadd (q := 35) hC dX12_addUser_34 rfl ?_
    refine v_mup (i := 0) (q := 36) hC dX12_addUser_35 rfl rfl (by decide) ?_
    refine v_aload_n (i := 0) (q := 37) hC dX12_addUser_36 rfl rfl rfl ?_
    refine g_X12_0 (q := 40) hC dX12_addUser_37 rfl rfl fl_RX12_7 ?_
    refine v_iconst (q := 41) (v := 0) hC dX12_addUser_40 rfl (by decide) ?_
    refine v_ialdN (q := 42) hC dX12_addUser_41 rfl rfl rfl (i := 0) (rfl) (by first | decide | omega | (unfold oA; omega) | (unfold enA; omega)) (by decide) ?_
    refine v_iconst (q := 43) (v := 1) hC dX12_addUser_42 rfl (by decide) ?_
    refine v_isub (q := 44) hC dX12_addUser_43 rfl ?_
    refine v_iret hC dX12_addUser_44 hr (rfl) ?_ (Nat.le_of_ble_eq_true rfl) (Nat.le_of_ble_eq_true rfl)
    exact ⟨by rw [mUp_row]; simp [upd], rfl⟩
  · refine v_aload_n (i := 0) (q := 17) hC dX12_addUser_16 rfl rfl rfl ?_
    refine v_iconst (q := 18) (v := 1) hC dX12_addUser_17 rfl (by decide) ?_
    refine v_callV (q := 21) (rm := rm_X12_fails) hC (c_fl hl Θ _ _ _) k_X12_fails im_yX12_fails se_yX12_fails ml_RX12_76 dX12_addUser_18 rfl rfl rfl rfl rfl rfl (Nat.le_of_ble_eq_true rfl) ⟨Nat.le_of_ble_eq_true rfl, Nat.le_of_ble_eq_true rfl⟩ ⟨Nat.le_of_ble_eq_true rfl, Nat.le_of_ble_eq_true rfl⟩ (fR_k ?_) fR_x (Nat.le_of_ble_eq_true rfl) (Nat.le_of_ble_eq_true rfl)
    try dsimp only [Option.toList, List.cons_append, List.nil_append]
    refine v_iret hC dX12_addUser_21 hr (rfl) ?_ (Nat.le_of_ble_eq_true rfl) (Nat.le_of_ble_eq_true rfl)
    exact mg_f (by rw [decide_eq_true (show G.2.1 0 30 0 = 12 from c_13)]; rfl)
set_option maxHeartbeats 4000000 in
set_option maxRecDepth 20000 in
theorem c_X12_addGroup {l : Launch} (hl : l.stackTraces = false) (Θ : cTH) (G : GS) (hm : mInv G) : Ct l yX12_addGroup cX12_addGroup 1 (some .int) rm_X12_addGroup Θ [.ref (tR Θ 0 29)] (G) (mg (!decide (G.2.1 0 30 1 = 8)) 1 (fR (some (.int ((mC G).2.1 0 30 1 + 1 - 1))) (mUp 1 ((mC G).2.1 0 30 1 + 1) (mC G))) (G)) := by
  refine ct_of (LS := [some (.ref (tR Θ 0 29))]) hl (by decide +kernel) rfl (Nat.le_of_ble_eq_true rfl) rfl ?_
  intro p e s m args below meth c hC hr
  refine v_aload_n (i := 0) (q := 1) hC dX12_addGroup_0 rfl rfl rfl ?_
  refine v_iconst (q := 2) (v := 0) hC dX12_addGroup_1 rfl (by decide) ?_
  refine pm_last (q := 5) hC dX12_addGroup_2 rfl rfl fl_RX12_39 ?_
  refine v_aload_n (i := 0) (q := 6) hC dX12_addGroup_5 rfl rfl rfl ?_
  refine g_X12_0 (q := 9) hC dX12_addGroup_6 rfl rfl fl_RX12_7 ?_
  refine v_iconst (q := 10) (v := 1) hC dX12_addGroup_9 rfl (by decide) ?_
  refine v_ialdN (q := 11) hC dX12_addGroup_10 rfl rfl rfl (i := 1) (rfl) (by first | decide | omega | (unfold oA; omega) | (unfold enA; omega)) (by decide) ?_
  refine v_bipush (q := 13) (v := 8) hC dX12_addGroup_11 rfl (by decide) ?_
  refine v_icmp_ne (q := 22) (q2 := 16) hC dX12_addGroup_13 (by decide) rfl (fun c_13 => ?_) (fun c_13 => ?_)
  · rw [mg_t (by rw [decide_eq_false (show ¬ G.2.1 0 30 1 = 8 from c_13)]; rfl)]
    refine v_aload_n (i := 0) (q := 23) hC dX12_addGroup_22 rfl rfl rfl ?_
    refine v_callV (q := 26) (rm := rm_X12_changes) hC (c_mC hl Θ _ hm) k_X12_changes im_yX12_changes se_yX12_changes ml_RX12_79 dX12_addGroup_23 rfl rfl rfl rfl rfl rfl (Nat.le_of_ble_eq_true rfl) ⟨Nat.le_of_ble_eq_true rfl, Nat.le_of_ble_eq_true rfl⟩ ⟨Nat.le_of_ble_eq_true rfl, Nat.le_of_ble_eq_true rfl⟩ (fR_k ?_) fR_x (Nat.le_of_ble_eq_true rfl) (Nat.le_of_ble_eq_true rfl)
    try dsimp only [Option.toList, List.cons_append, List.nil_append]
    refine v_aload_n (i := 0) (q := 27) hC dX12_addGroup_26 rfl rfl rfl ?_
    refine g_X12_0 (q := 30) hC dX12_addGroup_27 rfl rfl fl_RX12_7 ?_
    refine v_iconst (q := 31) (v := 1) hC dX12_addGroup_30 rfl (by decide) ?_
    refine v_dup2 (q := 32) hC dX12_addGroup_31 rfl rfl rfl ?_
    refine v_ialdN (q := 33) hC dX12_addGroup_32 rfl rfl rfl (i := 1) (rfl) (by first | decide | omega | (unfold oA; omega) | (unfold enA; omega)) (by decide) ?_
    refine v_iconst (q := 34) (v := 1) hC dX12_addGroup_33 rfl (by decide) ?_
    refine v_iadd (q := 35) hC dX12_addGroup_34 rfl ?_
    refine v_mup (i := 1) (q := 36) hC dX12_addGroup_35 rfl rfl (by decide) ?_
    refine v_aload_n (i := 0) (q := 37) hC dX12_addGroup_36 rfl rfl rfl ?_
    refine g_X12_0 (q := 40) hC dX12_addGroup_37 rfl rfl fl_RX12_7 ?_
    refine v_iconst (q := 41) (v := 1) hC dX12_addGroup_40 rfl (by decide) ?_
    refine v_ialdN (q := 42) hC dX12_addGroup_41 rfl rfl rfl (i := 1) (rfl) (by first | decide | omega | (unfold oA; omega) | (unfold enA; omega)) (by decide) ?_
    refine v_iconst (q := 43) (v := 1) hC dX12_addGroup_42 rfl (by decide) ?_
    refine v_isub (q := 44) hC dX12_addGroup_43 rfl ?_
    refine v_iret hC dX12_addGroup_44 hr (rfl) ?_ (Nat.le_of_ble_eq_true rfl) (Nat.le_of_ble_eq_true rfl)
    exact ⟨by rw [mUp_row]; simp [upd], rfl⟩
  · refine v_aload_n (i := 0) (q := 17) hC dX12_addGroup_16 rfl rfl rfl ?_
    refine v_iconst (q := 18) (v := 1) hC dX12_addGroup_17 rfl (by decide) ?_
    refine v_callV (q := 21) (rm := rm_X12_fails) hC (c_fl hl Θ _ _ _) k_X12_fails im_yX12_fails se_yX12_fails ml_RX12_76 dX12_addGroup_18 rfl rfl rfl rfl rfl rfl (Nat.le_of_ble_eq_true rfl) ⟨Nat.le_of_ble_eq_true rfl, Nat.le_of_ble_eq_true rfl⟩ ⟨Nat.le_of_ble_eq_true rfl, Nat.le_of_ble_eq_true rfl⟩ (fR_k ?_) fR_x (Nat.le_of_ble_eq_true rfl) (Nat.le_of_ble_eq_true rfl)
    try dsimp only [Option.toList, List.cons_append, List.nil_append]
    refine v_iret hC dX12_addGroup_21 hr (rfl) ?_ (Nat.le_of_ble_eq_true rfl) (Nat.le_of_ble_eq_true rfl)
    exact mg_f (by rw [decide_eq_true (show G.2.1 0 30 1 = 8 from c_13)]; rfl)
set_option maxHeartbeats 4000000 in
set_option maxRecDepth 20000 in
theorem c_X12_join {l : Launch} (hl : l.stackTraces = false) (Θ : cTH) (u g : Int32) (G : GS) (hm : mInv G) : Ct l yX12_join cX12_join 3 (some .int) rm_X12_join Θ [.ref (tR Θ 0 29), .int u, .int g] (G) (mg (mIn u 0 (G.2.1 0 30 0 - 1) && mIn g 0 (G.2.1 0 30 1 - 1)) 1 (mg (!mHas (G.2.1 0 30 (2 + g.toNatClampNeg)) u) 2 (fR (some (.int (mHow ((mUp (2 + g.toNatClampNeg) ((mC G).2.1 0 30 (2 + g.toNatClampNeg) ||| ((1 : Int32) <<< (u &&& 31))) (mC G)).2.1 0 30) (mGs (G.2.1 0 30)) g.toNatClampNeg (mUs (G.2.1 0 30)) 0 0))) (mUp (2 + g.toNatClampNeg) ((mC G).2.1 0 30 (2 + g.toNatClampNeg) ||| ((1 : Int32) <<< (u &&& 31))) (mC G))) (G)) (G)) := by
  refine ct_of (LS := [some (.ref (tR Θ 0 29)), some (.int u), some (.int g)]) hl (by decide +kernel) rfl (Nat.le_of_ble_eq_true rfl) rfl ?_
  intro p e s m args below meth c hC hr
  refine v_aload_n (i := 0) (q := 1) hC dX12_join_0 rfl rfl rfl ?_
  refine v_iconst (q := 2) (v := 0) hC dX12_join_1 rfl (by decide) ?_
  refine pm_last (q := 5) hC dX12_join_2 rfl rfl fl_RX12_39 ?_
  refine v_aload_n (i := 0) (q := 6) hC dX12_join_5 rfl rfl rfl ?_
  refine v_iload_n (i := 1) (q := 7) hC dX12_join_6 rfl rfl rfl ?_
  refine v_callV (q := 10) (rm := rm_X12_isUser) hC (c_X12_isUser hl Θ _ _) k_X12_isUser im_yX12_isUser se_yX12_isUser ml_RX12_82 dX12_join_7 rfl rfl rfl rfl rfl rfl (Nat.le_of_ble_eq_true rfl) ⟨Nat.le_of_ble_eq_true rfl, Nat.le_of_ble_eq_true rfl⟩ ⟨Nat.le_of_ble_eq_true rfl, Nat.le_of_ble_eq_true rfl⟩ (fR_k ?_) fR_x (Nat.le_of_ble_eq_true rfl) (Nat.le_of_ble_eq_true rfl)
  try dsimp only [Option.toList, List.cons_append, List.nil_append]
  refine v_ifb_eq (q := 21) (q2 := 13) hC dX12_join_10 (by decide) rfl (fun c_10 => ?_) (fun c_10 => ?_)
  · refine v_aload_n (i := 0) (q := 22) hC dX12_join_21 rfl rfl rfl ?_
    refine v_iconst (q := 23) (v := 1) hC dX12_join_22 rfl (by decide) ?_
    refine v_callV (q := 26) (rm := rm_X12_fails) hC (c_fl hl Θ _ _ _) k_X12_fails im_yX12_fails se_yX12_fails ml_RX12_76 dX12_join_23 rfl rfl rfl rfl rfl rfl (Nat.le_of_ble_eq_true rfl) ⟨Nat.le_of_ble_eq_true rfl, Nat.le_of_ble_eq_true rfl⟩ ⟨Nat.le_of_ble_eq_true rfl, Nat.le_of_ble_eq_true rfl⟩ (fR_k ?_) fR_x (Nat.le_of_ble_eq_true rfl) (Nat.le_of_ble_eq_true rfl)
    try dsimp only [Option.toList, List.cons_append, List.nil_append]
    refine v_iret hC dX12_join_26 hr (rfl) ?_ (Nat.le_of_ble_eq_true rfl) (Nat.le_of_ble_eq_true rfl)
    exact mg_f (by first | (rw [show mIn u 0 (G.2.1 0 30 0 - 1) = false from c_10]; rfl) | (rw [show mIn g 0 (G.2.1 0 30 1 - 1) = false from c_18, Bool.and_false]))
  · refine v_aload_n (i := 0) (q := 14) hC dX12_join_13 rfl rfl rfl ?_
    refine v_iload_n (i := 2) (q := 15) hC dX12_join_14 rfl rfl rfl ?_
    refine v_callV (q := 18) (rm := rm_X12_isGroup) hC (c_X12_isGroup hl Θ _ _) k_X12_isGroup im_yX12_isGroup se_yX12_isGroup ml_RX12_85 dX12_join_15 rfl rfl rfl rfl rfl rfl (Nat.le_of_ble_eq_true rfl) ⟨Nat.le_of_ble_eq_true rfl, Nat.le_of_ble_eq_true rfl⟩ ⟨Nat.le_of_ble_eq_true rfl, Nat.le_of_ble_eq_true rfl⟩ (fR_k ?_) fR_x (Nat.le_of_ble_eq_true rfl) (Nat.le_of_ble_eq_true rfl)
    try dsimp only [Option.toList, List.cons_append, List.nil_append]
    refine v_ifb_ne (q := 27) (q2 := 21) hC dX12_join_18 (by decide) rfl (fun c_18 => ?_) (fun c_18 => ?_)
    · rw [mg_t (by rw [show mIn u 0 (G.2.1 0 30 0 - 1) = true from c_10, show mIn g 0 (G.2.1 0 30 1 - 1) = true from c_18]; rfl)]
      obtain ⟨j, hj, rfl⟩ := mIn_lt c_18 hm.2.gs (by have := hm.2.gs8; omega)
      have hj8 : j < 8 := by have := hm.2.gs8; omega
      rw [nI_clamp (show j < 2 ^ 31 by omega)]
      refine v_aload_n (i := 0) (q := 28) hC dX12_join_27 rfl rfl rfl ?_
      refine g_X12_0 (q := 31) hC dX12_join_28 rfl rfl fl_RX12_7 ?_
      refine v_iconst (q := 32) (v := 2) hC dX12_join_31 rfl (by decide) ?_
      refine v_iload_n (i := 2) (q := 33) hC dX12_join_32 rfl rfl rfl ?_
      refine v_iadd (q := 34) hC dX12_join_33 rfl ?_
      refine v_ialdN (q := 35) hC dX12_join_34 rfl rfl rfl (i := 2 + j) (nI_add 2 j) (by first | decide | omega | (unfold oA; omega) | (unfold enA; omega)) (by decide) ?_
      refine v_iload_n (i := 1) (q := 36) hC dX12_join_35 rfl rfl rfl ?_
      refine v_callS (q := 39) (rm := rm_X12_has) hC (c_X12_has hl Θ _ _ _) k_X12_has st_yX12_has ml_RX12_65 dX12_join_36 rfl  rfl rfl (Nat.le_of_ble_eq_true rfl) ⟨Nat.le_of_ble_eq_true rfl, Nat.le_of_ble_eq_true rfl⟩ ⟨Nat.le_of_ble_eq_true rfl, Nat.le_of_ble_eq_true rfl⟩ (fR_k ?_) fR_x (Nat.le_of_ble_eq_true rfl) (Nat.le_of_ble_eq_true rfl)
      try dsimp only [Option.toList, List.cons_append, List.nil_append]
      refine v_ifb_eq (q := 48) (q2 := 42) hC dX12_join_39 (by decide) rfl (fun c_39 => ?_) (fun c_39 => ?_)
      · rw [mg_t (by first | (rw [show mHas (G.2.1 0 30 (2 + j)) u = _ from c_39]; done) | (rw [show mHas (G.2.1 0 30 (2 + j)) u = _ from c_39]; rfl))]
        refine v_aload_n (i := 0) (q := 49) hC dX12_join_48 rfl rfl rfl ?_
        refine v_callV (q := 52) (rm := rm_X12_changes) hC (c_mC hl Θ _ hm) k_X12_changes im_yX12_changes se_yX12_changes ml_RX12_79 dX12_join_49 rfl rfl rfl rfl rfl rfl (Nat.le_of_ble_eq_true rfl) ⟨Nat.le_of_ble_eq_true rfl, Nat.le_of_ble_eq_true rfl⟩ ⟨Nat.le_of_ble_eq_true rfl, Nat.le_of_ble_eq_true rfl⟩ (fR_k ?_) fR_x (Nat.le_of_ble_eq_true rfl) (Nat.le_of_ble_eq_true rfl)
        try dsimp only [Option.toList, List.cons_append, List.nil_append]
        refine v_aload_n (i := 0) (q := 53) hC dX12_join_52 rfl rfl rfl ?_
        refine g_X12_0 (q := 56) hC dX12_join_53 rfl rfl fl_RX12_7 ?_
        refine v_iconst (q := 57) (v := 2) hC dX12_join_56 rfl (by decide) ?_
        refine v_iload_n (i := 2) (q := 58) hC dX12_join_57 rfl rfl rfl ?_
        refine v_iadd (q := 59) hC dX12_join_58 rfl ?_
        refine v_dup2 (q := 60) hC dX12_join_59 rfl rfl rfl ?_
        refine v_ialdN (q := 61) hC dX12_join_60 rfl rfl rfl (i := 2 + j) (nI_add 2 j) (by first | decide | omega | (unfold oA; omega) | (unfold enA; omega)) (by decide) ?_
        refine v_iconst (q := 62) (v := 1) hC dX12_join_61 rfl (by decide) ?_
        refine v_iload_n (i := 1) (q := 63) hC dX12_join_62 rfl rfl rfl ?_
        refine v_ishl (q := 64) hC dX12_join_63 rfl ?_
        refine v_ior (q := 65) hC dX12_join_64 rfl ?_
        refine v_mup (i := 2 + j) (q := 66) hC dX12_join_65 rfl (nI_add 2 j) (by omega) ?_
        refine v_aload_n (i := 0) (q := 67) hC dX12_join_66 rfl rfl rfl ?_
        refine v_iload_n (i := 2) (q := 68) hC dX12_join_67 rfl rfl rfl ?_
        refine v_callV (q := 71) (rm := rm_X12_howMany) hC (c_X12_howMany hl Θ j (mGs (G.2.1 0 30)) (mUs (G.2.1 0 30)) _ hj8 (by rw [mUp_row, upd, if_neg (by omega), mC_w]; exact hm.2.gs) hm.2.gs8 (by rw [mUp_row, upd, if_neg (by omega), mC_w]; exact hm.2.us) hm.2.us12) k_X12_howMany im_yX12_howMany se_yX12_howMany ml_RX12_88 dX12_join_68 rfl rfl rfl rfl rfl rfl (Nat.le_of_ble_eq_true rfl) ⟨Nat.le_of_ble_eq_true rfl, Nat.le_of_ble_eq_true rfl⟩ ⟨Nat.le_of_ble_eq_true rfl, Nat.le_of_ble_eq_true rfl⟩ (fR_k ?_) fR_x (Nat.le_of_ble_eq_true rfl) (Nat.le_of_ble_eq_true rfl)
        try dsimp only [Option.toList, List.cons_append, List.nil_append]
        refine v_iret hC dX12_join_71 hr (rfl) ?_ (Nat.le_of_ble_eq_true rfl) (Nat.le_of_ble_eq_true rfl)
        exact ⟨rfl, rfl⟩
      · refine v_aload_n (i := 0) (q := 43) hC dX12_join_42 rfl rfl rfl ?_
        refine v_iconst (q := 44) (v := 2) hC dX12_join_43 rfl (by decide) ?_
        refine v_callV (q := 47) (rm := rm_X12_fails) hC (c_fl hl Θ _ _ _) k_X12_fails im_yX12_fails se_yX12_fails ml_RX12_76 dX12_join_44 rfl rfl rfl rfl rfl rfl (Nat.le_of_ble_eq_true rfl) ⟨Nat.le_of_ble_eq_true rfl, Nat.le_of_ble_eq_true rfl⟩ ⟨Nat.le_of_ble_eq_true rfl, Nat.le_of_ble_eq_true rfl⟩ (fR_k ?_) fR_x (Nat.le_of_ble_eq_true rfl) (Nat.le_of_ble_eq_true rfl)
        try dsimp only [Option.toList, List.cons_append, List.nil_append]
        refine v_iret hC dX12_join_47 hr (rfl) ?_ (Nat.le_of_ble_eq_true rfl) (Nat.le_of_ble_eq_true rfl)
        exact mg_f (by first | (rw [show mHas (G.2.1 0 30 (2 + j)) u = _ from c_39]; done) | (rw [show mHas (G.2.1 0 30 (2 + j)) u = _ from c_39]; rfl))
    · refine v_aload_n (i := 0) (q := 22) hC dX12_join_21 rfl rfl rfl ?_
      refine v_iconst (q := 23) (v := 1) hC dX12_join_22 rfl (by decide) ?_
      refine v_callV (q := 26) (rm := rm_X12_fails) hC (c_fl hl Θ _ _ _) k_X12_fails im_yX12_fails se_yX12_fails ml_RX12_76 dX12_join_23 rfl rfl rfl rfl rfl rfl (Nat.le_of_ble_eq_true rfl) ⟨Nat.le_of_ble_eq_true rfl, Nat.le_of_ble_eq_true rfl⟩ ⟨Nat.le_of_ble_eq_true rfl, Nat.le_of_ble_eq_true rfl⟩ (fR_k ?_) fR_x (Nat.le_of_ble_eq_true rfl) (Nat.le_of_ble_eq_true rfl)
      try dsimp only [Option.toList, List.cons_append, List.nil_append]
      refine v_iret hC dX12_join_26 hr (rfl) ?_ (Nat.le_of_ble_eq_true rfl) (Nat.le_of_ble_eq_true rfl)
      exact mg_f (by first | (rw [show mIn u 0 (G.2.1 0 30 0 - 1) = false from c_10]; rfl) | (rw [show mIn g 0 (G.2.1 0 30 1 - 1) = false from c_18, Bool.and_false]))
set_option maxHeartbeats 4000000 in
set_option maxRecDepth 20000 in
theorem c_X12_leave {l : Launch} (hl : l.stackTraces = false) (Θ : cTH) (u g : Int32) (G : GS) (hm : mInv G) : Ct l yX12_leave cX12_leave 3 (some .int) rm_X12_leave Θ [.ref (tR Θ 0 29), .int u, .int g] (G) (mg (mIn u 0 (G.2.1 0 30 0 - 1) && mIn g 0 (G.2.1 0 30 1 - 1)) 1 (mg (mHas (G.2.1 0 30 (2 + g.toNatClampNeg)) u) 2 (fR (some (.int (mHow ((mUp (2 + g.toNatClampNeg) ((mC G).2.1 0 30 (2 + g.toNatClampNeg) - ((1 : Int32) <<< (u &&& 31))) (mC G)).2.1 0 30) (mGs (G.2.1 0 30)) g.toNatClampNeg (mUs (G.2.1 0 30)) 0 0))) (mUp (2 + g.toNatClampNeg) ((mC G).2.1 0 30 (2 + g.toNatClampNeg) - ((1 : Int32) <<< (u &&& 31))) (mC G))) (G)) (G)) := by
  refine ct_of (LS := [some (.ref (tR Θ 0 29)), some (.int u), some (.int g)]) hl (by decide +kernel) rfl (Nat.le_of_ble_eq_true rfl) rfl ?_
  intro p e s m args below meth c hC hr
  refine v_aload_n (i := 0) (q := 1) hC dX12_leave_0 rfl rfl rfl ?_
  refine v_iconst (q := 2) (v := 0) hC dX12_leave_1 rfl (by decide) ?_
  refine pm_last (q := 5) hC dX12_leave_2 rfl rfl fl_RX12_39 ?_
  refine v_aload_n (i := 0) (q := 6) hC dX12_leave_5 rfl rfl rfl ?_
  refine v_iload_n (i := 1) (q := 7) hC dX12_leave_6 rfl rfl rfl ?_
  refine v_callV (q := 10) (rm := rm_X12_isUser) hC (c_X12_isUser hl Θ _ _) k_X12_isUser im_yX12_isUser se_yX12_isUser ml_RX12_82 dX12_leave_7 rfl rfl rfl rfl rfl rfl (Nat.le_of_ble_eq_true rfl) ⟨Nat.le_of_ble_eq_true rfl, Nat.le_of_ble_eq_true rfl⟩ ⟨Nat.le_of_ble_eq_true rfl, Nat.le_of_ble_eq_true rfl⟩ (fR_k ?_) fR_x (Nat.le_of_ble_eq_true rfl) (Nat.le_of_ble_eq_true rfl)
  try dsimp only [Option.toList, List.cons_append, List.nil_append]
  refine v_ifb_eq (q := 21) (q2 := 13) hC dX12_leave_10 (by decide) rfl (fun c_10 => ?_) (fun c_10 => ?_)
  · refine v_aload_n (i := 0) (q := 22) hC dX12_leave_21 rfl rfl rfl ?_
    refine v_iconst (q := 23) (v := 1) hC dX12_leave_22 rfl (by decide) ?_
    refine v_callV (q := 26) (rm := rm_X12_fails) hC (c_fl hl Θ _ _ _) k_X12_fails im_yX12_fails se_yX12_fails ml_RX12_76 dX12_leave_23 rfl rfl rfl rfl rfl rfl (Nat.le_of_ble_eq_true rfl) ⟨Nat.le_of_ble_eq_true rfl, Nat.le_of_ble_eq_true rfl⟩ ⟨Nat.le_of_ble_eq_true rfl, Nat.le_of_ble_eq_true rfl⟩ (fR_k ?_) fR_x (Nat.le_of_ble_eq_true rfl) (Nat.le_of_ble_eq_true rfl)
    try dsimp only [Option.toList, List.cons_append, List.nil_append]
    refine v_iret hC dX12_leave_26 hr (rfl) ?_ (Nat.le_of_ble_eq_true rfl) (Nat.le_of_ble_eq_true rfl)
    exact mg_f (by first | (rw [show mIn u 0 (G.2.1 0 30 0 - 1) = false from c_10]; rfl) | (rw [show mIn g 0 (G.2.1 0 30 1 - 1) = false from c_18, Bool.and_false]))
  · refine v_aload_n (i := 0) (q := 14) hC dX12_leave_13 rfl rfl rfl ?_
    refine v_iload_n (i := 2) (q := 15) hC dX12_leave_14 rfl rfl rfl ?_
    refine v_callV (q := 18) (rm := rm_X12_isGroup) hC (c_X12_isGroup hl Θ _ _) k_X12_isGroup im_yX12_isGroup se_yX12_isGroup ml_RX12_85 dX12_leave_15 rfl rfl rfl rfl rfl rfl (Nat.le_of_ble_eq_true rfl) ⟨Nat.le_of_ble_eq_true rfl, Nat.le_of_ble_eq_true rfl⟩ ⟨Nat.le_of_ble_eq_true rfl, Nat.le_of_ble_eq_true rfl⟩ (fR_k ?_) fR_x (Nat.le_of_ble_eq_true rfl) (Nat.le_of_ble_eq_true rfl)
    try dsimp only [Option.toList, List.cons_append, List.nil_append]
    refine v_ifb_ne (q := 27) (q2 := 21) hC dX12_leave_18 (by decide) rfl (fun c_18 => ?_) (fun c_18 => ?_)
    · rw [mg_t (by rw [show mIn u 0 (G.2.1 0 30 0 - 1) = true from c_10, show mIn g 0 (G.2.1 0 30 1 - 1) = true from c_18]; rfl)]
      obtain ⟨j, hj, rfl⟩ := mIn_lt c_18 hm.2.gs (by have := hm.2.gs8; omega)
      have hj8 : j < 8 := by have := hm.2.gs8; omega
      rw [nI_clamp (show j < 2 ^ 31 by omega)]
      refine v_aload_n (i := 0) (q := 28) hC dX12_leave_27 rfl rfl rfl ?_
      refine g_X12_0 (q := 31) hC dX12_leave_28 rfl rfl fl_RX12_7 ?_
      refine v_iconst (q := 32) (v := 2) hC dX12_leave_31 rfl (by decide) ?_
      refine v_iload_n (i := 2) (q := 33) hC dX12_leave_32 rfl rfl rfl ?_
      refine v_iadd (q := 34) hC dX12_leave_33 rfl ?_
      refine v_ialdN (q := 35) hC dX12_leave_34 rfl rfl rfl (i := 2 + j) (nI_add 2 j) (by first | decide | omega | (unfold oA; omega) | (unfold enA; omega)) (by decide) ?_
      refine v_iload_n (i := 1) (q := 36) hC dX12_leave_35 rfl rfl rfl ?_
      refine v_callS (q := 39) (rm := rm_X12_has) hC (c_X12_has hl Θ _ _ _) k_X12_has st_yX12_has ml_RX12_65 dX12_leave_36 rfl  rfl rfl (Nat.le_of_ble_eq_true rfl) ⟨Nat.le_of_ble_eq_true rfl, Nat.le_of_ble_eq_true rfl⟩ ⟨Nat.le_of_ble_eq_true rfl, Nat.le_of_ble_eq_true rfl⟩ (fR_k ?_) fR_x (Nat.le_of_ble_eq_true rfl) (Nat.le_of_ble_eq_true rfl)
      try dsimp only [Option.toList, List.cons_append, List.nil_append]
      refine v_ifb_ne (q := 48) (q2 := 42) hC dX12_leave_39 (by decide) rfl (fun c_39 => ?_) (fun c_39 => ?_)
      · rw [mg_t (by first | (rw [show mHas (G.2.1 0 30 (2 + j)) u = _ from c_39]; done) | (rw [show mHas (G.2.1 0 30 (2 + j)) u = _ from c_39]; rfl))]
        refine v_aload_n (i := 0) (q := 49) hC dX12_leave_48 rfl rfl rfl ?_
        refine v_callV (q := 52) (rm := rm_X12_changes) hC (c_mC hl Θ _ hm) k_X12_changes im_yX12_changes se_yX12_changes ml_RX12_79 dX12_leave_49 rfl rfl rfl rfl rfl rfl (Nat.le_of_ble_eq_true rfl) ⟨Nat.le_of_ble_eq_true rfl, Nat.le_of_ble_eq_true rfl⟩ ⟨Nat.le_of_ble_eq_true rfl, Nat.le_of_ble_eq_true rfl⟩ (fR_k ?_) fR_x (Nat.le_of_ble_eq_true rfl) (Nat.le_of_ble_eq_true rfl)
        try dsimp only [Option.toList, List.cons_append, List.nil_append]
        refine v_aload_n (i := 0) (q := 53) hC dX12_leave_52 rfl rfl rfl ?_
        refine g_X12_0 (q := 56) hC dX12_leave_53 rfl rfl fl_RX12_7 ?_
        refine v_iconst (q := 57) (v := 2) hC dX12_leave_56 rfl (by decide) ?_
        refine v_iload_n (i := 2) (q := 58) hC dX12_leave_57 rfl rfl rfl ?_
        refine v_iadd (q := 59) hC dX12_leave_58 rfl ?_
        refine v_dup2 (q := 60) hC dX12_leave_59 rfl rfl rfl ?_
        refine v_ialdN (q := 61) hC dX12_leave_60 rfl rfl rfl (i := 2 + j) (nI_add 2 j) (by first | decide | omega | (unfold oA; omega) | (unfold enA; omega)) (by decide) ?_
        refine v_iconst (q := 62) (v := 1) hC dX12_leave_61 rfl (by decide) ?_
        refine v_iload_n (i := 1) (q := 63) hC dX12_leave_62 rfl rfl rfl ?_
        refine v_ishl (q := 64) hC dX12_leave_63 rfl ?_
        refine v_isub (q := 65) hC dX12_leave_64 rfl ?_
        refine v_mup (i := 2 + j) (q := 66) hC dX12_leave_65 rfl (nI_add 2 j) (by omega) ?_
        refine v_aload_n (i := 0) (q := 67) hC dX12_leave_66 rfl rfl rfl ?_
        refine v_iload_n (i := 2) (q := 68) hC dX12_leave_67 rfl rfl rfl ?_
        refine v_callV (q := 71) (rm := rm_X12_howMany) hC (c_X12_howMany hl Θ j (mGs (G.2.1 0 30)) (mUs (G.2.1 0 30)) _ hj8 (by rw [mUp_row, upd, if_neg (by omega), mC_w]; exact hm.2.gs) hm.2.gs8 (by rw [mUp_row, upd, if_neg (by omega), mC_w]; exact hm.2.us) hm.2.us12) k_X12_howMany im_yX12_howMany se_yX12_howMany ml_RX12_88 dX12_leave_68 rfl rfl rfl rfl rfl rfl (Nat.le_of_ble_eq_true rfl) ⟨Nat.le_of_ble_eq_true rfl, Nat.le_of_ble_eq_true rfl⟩ ⟨Nat.le_of_ble_eq_true rfl, Nat.le_of_ble_eq_true rfl⟩ (fR_k ?_) fR_x (Nat.le_of_ble_eq_true rfl) (Nat.le_of_ble_eq_true rfl)
        try dsimp only [Option.toList, List.cons_append, List.nil_append]
        refine v_iret hC dX12_leave_71 hr (rfl) ?_ (Nat.le_of_ble_eq_true rfl) (Nat.le_of_ble_eq_true rfl)
        exact ⟨rfl, rfl⟩
      · refine v_aload_n (i := 0) (q := 43) hC dX12_leave_42 rfl rfl rfl ?_
        refine v_iconst (q := 44) (v := 2) hC dX12_leave_43 rfl (by decide) ?_
        refine v_callV (q := 47) (rm := rm_X12_fails) hC (c_fl hl Θ _ _ _) k_X12_fails im_yX12_fails se_yX12_fails ml_RX12_76 dX12_leave_44 rfl rfl rfl rfl rfl rfl (Nat.le_of_ble_eq_true rfl) ⟨Nat.le_of_ble_eq_true rfl, Nat.le_of_ble_eq_true rfl⟩ ⟨Nat.le_of_ble_eq_true rfl, Nat.le_of_ble_eq_true rfl⟩ (fR_k ?_) fR_x (Nat.le_of_ble_eq_true rfl) (Nat.le_of_ble_eq_true rfl)
        try dsimp only [Option.toList, List.cons_append, List.nil_append]
        refine v_iret hC dX12_leave_47 hr (rfl) ?_ (Nat.le_of_ble_eq_true rfl) (Nat.le_of_ble_eq_true rfl)
        exact mg_f (by first | (rw [show mHas (G.2.1 0 30 (2 + j)) u = _ from c_39]; done) | (rw [show mHas (G.2.1 0 30 (2 + j)) u = _ from c_39]; rfl))
    · refine v_aload_n (i := 0) (q := 22) hC dX12_leave_21 rfl rfl rfl ?_
      refine v_iconst (q := 23) (v := 1) hC dX12_leave_22 rfl (by decide) ?_
      refine v_callV (q := 26) (rm := rm_X12_fails) hC (c_fl hl Θ _ _ _) k_X12_fails im_yX12_fails se_yX12_fails ml_RX12_76 dX12_leave_23 rfl rfl rfl rfl rfl rfl (Nat.le_of_ble_eq_true rfl) ⟨Nat.le_of_ble_eq_true rfl, Nat.le_of_ble_eq_true rfl⟩ ⟨Nat.le_of_ble_eq_true rfl, Nat.le_of_ble_eq_true rfl⟩ (fR_k ?_) fR_x (Nat.le_of_ble_eq_true rfl) (Nat.le_of_ble_eq_true rfl)
      try dsimp only [Option.toList, List.cons_append, List.nil_append]
      refine v_iret hC dX12_leave_26 hr (rfl) ?_ (Nat.le_of_ble_eq_true rfl) (Nat.le_of_ble_eq_true rfl)
      exact mg_f (by first | (rw [show mIn u 0 (G.2.1 0 30 0 - 1) = false from c_10]; rfl) | (rw [show mIn g 0 (G.2.1 0 30 1 - 1) = false from c_18, Bool.and_false]))
-- nest
set_option maxHeartbeats 4000000 in
set_option maxRecDepth 20000 in
theorem c_X12_nest {l : Launch} (hl : l.stackTraces = false) (Θ : cTH) (a b : Int32) (G : GS) (hm : mInv G) : Ct l yX12_nest cX12_nest 3 (some .int) rm_X12_nest Θ [.ref (tR Θ 0 29), .int a, .int b] (G) (mg (mIn a 0 (G.2.1 0 30 1 - 1) && mIn b 0 (G.2.1 0 30 1 - 1)) 1 (mg (!(decide (a = b) || (mHas (G.2.1 0 30 (10 + a.toNatClampNeg)) b || mHas (mOut (G.2.1 0 30) b.toNatClampNeg) a))) 2 (fR (some (.int (mHow ((mUp (10 + a.toNatClampNeg) ((mC G).2.1 0 30 (10 + a.toNatClampNeg) ||| ((1 : Int32) <<< (b &&& 31))) (mC G)).2.1 0 30) (mGs (G.2.1 0 30)) b.toNatClampNeg (mUs (G.2.1 0 30)) 0 0))) (mUp (10 + a.toNatClampNeg) ((mC G).2.1 0 30 (10 + a.toNatClampNeg) ||| ((1 : Int32) <<< (b &&& 31))) (mC G))) (G)) (G)) := by
  refine ct_of (LS := [some (.ref (tR Θ 0 29)), some (.int a), some (.int b)]) hl (by decide +kernel) rfl (Nat.le_of_ble_eq_true rfl) rfl ?_
  intro p e s m args below meth c hC hr
  refine v_aload_n (i := 0) (q := 1) hC dX12_nest_0 rfl rfl rfl ?_
  refine v_iconst (q := 2) (v := 0) hC dX12_nest_1 rfl (by decide) ?_
  refine pm_last (q := 5) hC dX12_nest_2 rfl rfl fl_RX12_39 ?_
  refine v_aload_n (i := 0) (q := 6) hC dX12_nest_5 rfl rfl rfl ?_
  refine v_iload_n (i := 1) (q := 7) hC dX12_nest_6 rfl rfl rfl ?_
  refine v_callV (q := 10) (rm := rm_X12_isGroup) hC (c_X12_isGroup hl Θ _ _) k_X12_isGroup im_yX12_isGroup se_yX12_isGroup ml_RX12_85 dX12_nest_7 rfl rfl rfl rfl rfl rfl (Nat.le_of_ble_eq_true rfl) ⟨Nat.le_of_ble_eq_true rfl, Nat.le_of_ble_eq_true rfl⟩ ⟨Nat.le_of_ble_eq_true rfl, Nat.le_of_ble_eq_true rfl⟩ (fR_k ?_) fR_x (Nat.le_of_ble_eq_true rfl) (Nat.le_of_ble_eq_true rfl)
  try dsimp only [Option.toList, List.cons_append, List.nil_append]
  refine v_ifb_eq (q := 21) (q2 := 13) hC dX12_nest_10 (by decide) rfl (fun c_10 => ?_) (fun c_10 => ?_)
  · refine v_aload_n (i := 0) (q := 22) hC dX12_nest_21 rfl rfl rfl ?_
    refine v_iconst (q := 23) (v := 1) hC dX12_nest_22 rfl (by decide) ?_
    refine v_callV (q := 26) (rm := rm_X12_fails) hC (c_fl hl Θ _ _ _) k_X12_fails im_yX12_fails se_yX12_fails ml_RX12_76 dX12_nest_23 rfl rfl rfl rfl rfl rfl (Nat.le_of_ble_eq_true rfl) ⟨Nat.le_of_ble_eq_true rfl, Nat.le_of_ble_eq_true rfl⟩ ⟨Nat.le_of_ble_eq_true rfl, Nat.le_of_ble_eq_true rfl⟩ (fR_k ?_) fR_x (Nat.le_of_ble_eq_true rfl) (Nat.le_of_ble_eq_true rfl)
    try dsimp only [Option.toList, List.cons_append, List.nil_append]
    refine v_iret hC dX12_nest_26 hr (rfl) ?_ (Nat.le_of_ble_eq_true rfl) (Nat.le_of_ble_eq_true rfl)
    exact mg_f (by first | (rw [show mIn a 0 (G.2.1 0 30 1 - 1) = false from c_10]; rfl) | (rw [show mIn b 0 (G.2.1 0 30 1 - 1) = false from c_18, Bool.and_false]))
  · refine v_aload_n (i := 0) (q := 14) hC dX12_nest_13 rfl rfl rfl ?_
    refine v_iload_n (i := 2) (q := 15) hC dX12_nest_14 rfl rfl rfl ?_
    refine v_callV (q := 18) (rm := rm_X12_isGroup) hC (c_X12_isGroup hl Θ _ _) k_X12_isGroup im_yX12_isGroup se_yX12_isGroup ml_RX12_85 dX12_nest_15 rfl rfl rfl rfl rfl rfl (Nat.le_of_ble_eq_true rfl) ⟨Nat.le_of_ble_eq_true rfl, Nat.le_of_ble_eq_true rfl⟩ ⟨Nat.le_of_ble_eq_true rfl, Nat.le_of_ble_eq_true rfl⟩ (fR_k ?_) fR_x (Nat.le_of_ble_eq_true rfl) (Nat.le_of_ble_eq_true rfl)
    try dsimp only [Option.toList, List.cons_append, List.nil_append]
    refine v_ifb_ne (q := 27) (q2 := 21) hC dX12_nest_18 (by decide) rfl (fun c_18 => ?_) (fun c_18 => ?_)
    · rw [mg_t (by rw [show mIn a 0 (G.2.1 0 30 1 - 1) = true from c_10, show mIn b 0 (G.2.1 0 30 1 - 1) = true from c_18]; rfl)]
      obtain ⟨j, hj, rfl⟩ := mIn_lt c_10 hm.2.gs (by have := hm.2.gs8; omega)
      obtain ⟨j2, hj2, rfl⟩ := mIn_lt c_18 hm.2.gs (by have := hm.2.gs8; omega)
      have hj8 : j < 8 := by have := hm.2.gs8; omega
      have hj28 : j2 < 8 := by have := hm.2.gs8; omega
      rw [nI_clamp (show j < 2 ^ 31 by omega), nI_clamp (show j2 < 2 ^ 31 by omega)]
      refine v_iload_n (i := 1) (q := 28) hC dX12_nest_27 rfl rfl rfl ?_
      refine v_iload_n (i := 2) (q := 29) hC dX12_nest_28 rfl rfl rfl ?_
      refine v_icmp_eq (q := 60) (q2 := 32) hC dX12_nest_29 (by decide) rfl (fun c_29 => ?_) (fun c_29 => ?_)
      · refine v_aload_n (i := 0) (q := 61) hC dX12_nest_60 rfl rfl rfl ?_
        refine v_iconst (q := 62) (v := 2) hC dX12_nest_61 rfl (by decide) ?_
        refine v_callV (q := 65) (rm := rm_X12_fails) hC (c_fl hl Θ _ _ _) k_X12_fails im_yX12_fails se_yX12_fails ml_RX12_76 dX12_nest_62 rfl rfl rfl rfl rfl rfl (Nat.le_of_ble_eq_true rfl) ⟨Nat.le_of_ble_eq_true rfl, Nat.le_of_ble_eq_true rfl⟩ ⟨Nat.le_of_ble_eq_true rfl, Nat.le_of_ble_eq_true rfl⟩ (fR_k ?_) fR_x (Nat.le_of_ble_eq_true rfl) (Nat.le_of_ble_eq_true rfl)
        try dsimp only [Option.toList, List.cons_append, List.nil_append]
        refine v_iret hC dX12_nest_65 hr (rfl) ?_ (Nat.le_of_ble_eq_true rfl) (Nat.le_of_ble_eq_true rfl)
        exact mg_f (by first | (rw [decide_eq_true c_29]; rfl) | (rw [show mHas (G.2.1 0 30 (10 + j)) (nI j2) = true from c_45, Bool.true_or, Bool.or_true]; rfl) | (rw [show mHas (mOut (G.2.1 0 30) j2) (nI j) = true from c_57, Bool.or_true, Bool.or_true]; rfl))
      · refine v_aload_n (i := 0) (q := 33) hC dX12_nest_32 rfl rfl rfl ?_
        refine g_X12_0 (q := 36) hC dX12_nest_33 rfl rfl fl_RX12_7 ?_
        refine v_bipush (q := 38) (v := 10) hC dX12_nest_36 rfl (by decide) ?_
        refine v_iload_n (i := 1) (q := 39) hC dX12_nest_38 rfl rfl rfl ?_
        refine v_iadd (q := 40) hC dX12_nest_39 rfl ?_
        refine v_ialdN (q := 41) hC dX12_nest_40 rfl rfl rfl (i := 10 + j) (nI_add 10 j) (by first | decide | omega | (unfold oA; omega) | (unfold enA; omega)) (by decide) ?_
        refine v_iload_n (i := 2) (q := 42) hC dX12_nest_41 rfl rfl rfl ?_
        refine v_callS (q := 45) (rm := rm_X12_has) hC (c_X12_has hl Θ _ _ _) k_X12_has st_yX12_has ml_RX12_65 dX12_nest_42 rfl  rfl rfl (Nat.le_of_ble_eq_true rfl) ⟨Nat.le_of_ble_eq_true rfl, Nat.le_of_ble_eq_true rfl⟩ ⟨Nat.le_of_ble_eq_true rfl, Nat.le_of_ble_eq_true rfl⟩ (fR_k ?_) fR_x (Nat.le_of_ble_eq_true rfl) (Nat.le_of_ble_eq_true rfl)
        try dsimp only [Option.toList, List.cons_append, List.nil_append]
        refine v_ifb_ne (q := 60) (q2 := 48) hC dX12_nest_45 (by decide) rfl (fun c_45 => ?_) (fun c_45 => ?_)
        · refine v_aload_n (i := 0) (q := 61) hC dX12_nest_60 rfl rfl rfl ?_
          refine v_iconst (q := 62) (v := 2) hC dX12_nest_61 rfl (by decide) ?_
          refine v_callV (q := 65) (rm := rm_X12_fails) hC (c_fl hl Θ _ _ _) k_X12_fails im_yX12_fails se_yX12_fails ml_RX12_76 dX12_nest_62 rfl rfl rfl rfl rfl rfl (Nat.le_of_ble_eq_true rfl) ⟨Nat.le_of_ble_eq_true rfl, Nat.le_of_ble_eq_true rfl⟩ ⟨Nat.le_of_ble_eq_true rfl, Nat.le_of_ble_eq_true rfl⟩ (fR_k ?_) fR_x (Nat.le_of_ble_eq_true rfl) (Nat.le_of_ble_eq_true rfl)
          try dsimp only [Option.toList, List.cons_append, List.nil_append]
          refine v_iret hC dX12_nest_65 hr (rfl) ?_ (Nat.le_of_ble_eq_true rfl) (Nat.le_of_ble_eq_true rfl)
          exact mg_f (by first | (rw [decide_eq_true c_29]; rfl) | (rw [show mHas (G.2.1 0 30 (10 + j)) (nI j2) = true from c_45, Bool.true_or, Bool.or_true]; rfl) | (rw [show mHas (mOut (G.2.1 0 30) j2) (nI j) = true from c_57, Bool.or_true, Bool.or_true]; rfl))
        · refine v_aload_n (i := 0) (q := 49) hC dX12_nest_48 rfl rfl rfl ?_
          refine v_iload_n (i := 2) (q := 50) hC dX12_nest_49 rfl rfl rfl ?_
          refine v_callV (q := 53) (rm := rm_X12_outers) hC (c_X12_outers hl Θ j2 _ hj28) k_X12_outers im_yX12_outers se_yX12_outers ml_RX12_69 dX12_nest_50 rfl rfl rfl rfl rfl rfl (Nat.le_of_ble_eq_true rfl) ⟨Nat.le_of_ble_eq_true rfl, Nat.le_of_ble_eq_true rfl⟩ ⟨Nat.le_of_ble_eq_true rfl, Nat.le_of_ble_eq_true rfl⟩ (fR_k ?_) fR_x (Nat.le_of_ble_eq_true rfl) (Nat.le_of_ble_eq_true rfl)
          try dsimp only [Option.toList, List.cons_append, List.nil_append]
          refine v_iload_n (i := 1) (q := 54) hC dX12_nest_53 rfl rfl rfl ?_
          refine v_callS (q := 57) (rm := rm_X12_has) hC (c_X12_has hl Θ _ _ _) k_X12_has st_yX12_has ml_RX12_65 dX12_nest_54 rfl  rfl rfl (Nat.le_of_ble_eq_true rfl) ⟨Nat.le_of_ble_eq_true rfl, Nat.le_of_ble_eq_true rfl⟩ ⟨Nat.le_of_ble_eq_true rfl, Nat.le_of_ble_eq_true rfl⟩ (fR_k ?_) fR_x (Nat.le_of_ble_eq_true rfl) (Nat.le_of_ble_eq_true rfl)
          try dsimp only [Option.toList, List.cons_append, List.nil_append]
          refine v_ifb_eq (q := 66) (q2 := 60) hC dX12_nest_57 (by decide) rfl (fun c_57 => ?_) (fun c_57 => ?_)
          · rw [mg_t (by rw [decide_eq_false c_29, show mHas (G.2.1 0 30 (10 + j)) (nI j2) = false from c_45, show mHas (mOut (G.2.1 0 30) j2) (nI j) = false from c_57]; rfl)]
            refine v_aload_n (i := 0) (q := 67) hC dX12_nest_66 rfl rfl rfl ?_
            refine v_callV (q := 70) (rm := rm_X12_changes) hC (c_mC hl Θ _ hm) k_X12_changes im_yX12_changes se_yX12_changes ml_RX12_79 dX12_nest_67 rfl rfl rfl rfl rfl rfl (Nat.le_of_ble_eq_true rfl) ⟨Nat.le_of_ble_eq_true rfl, Nat.le_of_ble_eq_true rfl⟩ ⟨Nat.le_of_ble_eq_true rfl, Nat.le_of_ble_eq_true rfl⟩ (fR_k ?_) fR_x (Nat.le_of_ble_eq_true rfl) (Nat.le_of_ble_eq_true rfl)
            try dsimp only [Option.toList, List.cons_append, List.nil_append]
            refine v_aload_n (i := 0) (q := 71) hC dX12_nest_70 rfl rfl rfl ?_
            refine g_X12_0 (q := 74) hC dX12_nest_71 rfl rfl fl_RX12_7 ?_
            refine v_bipush (q := 76) (v := 10) hC dX12_nest_74 rfl (by decide) ?_
            refine v_iload_n (i := 1) (q := 77) hC dX12_nest_76 rfl rfl rfl ?_
            refine v_iadd (q := 78) hC dX12_nest_77 rfl ?_
            refine v_dup2 (q := 79) hC dX12_nest_78 rfl rfl rfl ?_
            refine v_ialdN (q := 80) hC dX12_nest_79 rfl rfl rfl (i := 10 + j) (nI_add 10 j) (by first | decide | omega | (unfold oA; omega) | (unfold enA; omega)) (by decide) ?_
            refine v_iconst (q := 81) (v := 1) hC dX12_nest_80 rfl (by decide) ?_
            refine v_iload_n (i := 2) (q := 82) hC dX12_nest_81 rfl rfl rfl ?_
            refine v_ishl (q := 83) hC dX12_nest_82 rfl ?_
            refine v_ior (q := 84) hC dX12_nest_83 rfl ?_
            refine v_mup (i := 10 + j) (q := 85) hC dX12_nest_84 rfl (nI_add 10 j) (by omega) ?_
            refine v_aload_n (i := 0) (q := 86) hC dX12_nest_85 rfl rfl rfl ?_
            refine v_iload_n (i := 2) (q := 87) hC dX12_nest_86 rfl rfl rfl ?_
            refine v_callV (q := 90) (rm := rm_X12_howMany) hC (c_X12_howMany hl Θ j2 (mGs (G.2.1 0 30)) (mUs (G.2.1 0 30)) _ hj28 (by rw [mUp_row, upd, if_neg (by omega), mC_w]; exact hm.2.gs) hm.2.gs8 (by rw [mUp_row, upd, if_neg (by omega), mC_w]; exact hm.2.us) hm.2.us12) k_X12_howMany im_yX12_howMany se_yX12_howMany ml_RX12_88 dX12_nest_87 rfl rfl rfl rfl rfl rfl (Nat.le_of_ble_eq_true rfl) ⟨Nat.le_of_ble_eq_true rfl, Nat.le_of_ble_eq_true rfl⟩ ⟨Nat.le_of_ble_eq_true rfl, Nat.le_of_ble_eq_true rfl⟩ (fR_k ?_) fR_x (Nat.le_of_ble_eq_true rfl) (Nat.le_of_ble_eq_true rfl)
            try dsimp only [Option.toList, List.cons_append, List.nil_append]
            refine v_iret hC dX12_nest_90 hr (rfl) ?_ (Nat.le_of_ble_eq_true rfl) (Nat.le_of_ble_eq_true rfl)
            exact ⟨rfl, rfl⟩
          · refine v_aload_n (i := 0) (q := 61) hC dX12_nest_60 rfl rfl rfl ?_
            refine v_iconst (q := 62) (v := 2) hC dX12_nest_61 rfl (by decide) ?_
            refine v_callV (q := 65) (rm := rm_X12_fails) hC (c_fl hl Θ _ _ _) k_X12_fails im_yX12_fails se_yX12_fails ml_RX12_76 dX12_nest_62 rfl rfl rfl rfl rfl rfl (Nat.le_of_ble_eq_true rfl) ⟨Nat.le_of_ble_eq_true rfl, Nat.le_of_ble_eq_true rfl⟩ ⟨Nat.le_of_ble_eq_true rfl, Nat.le_of_ble_eq_true rfl⟩ (fR_k ?_) fR_x (Nat.le_of_ble_eq_true rfl) (Nat.le_of_ble_eq_true rfl)
            try dsimp only [Option.toList, List.cons_append, List.nil_append]
            refine v_iret hC dX12_nest_65 hr (rfl) ?_ (Nat.le_of_ble_eq_true rfl) (Nat.le_of_ble_eq_true rfl)
            exact mg_f (by first | (rw [decide_eq_true c_29]; rfl) | (rw [show mHas (G.2.1 0 30 (10 + j)) (nI j2) = true from c_45, Bool.true_or, Bool.or_true]; rfl) | (rw [show mHas (mOut (G.2.1 0 30) j2) (nI j) = true from c_57, Bool.or_true, Bool.or_true]; rfl))
    · refine v_aload_n (i := 0) (q := 22) hC dX12_nest_21 rfl rfl rfl ?_
      refine v_iconst (q := 23) (v := 1) hC dX12_nest_22 rfl (by decide) ?_
      refine v_callV (q := 26) (rm := rm_X12_fails) hC (c_fl hl Θ _ _ _) k_X12_fails im_yX12_fails se_yX12_fails ml_RX12_76 dX12_nest_23 rfl rfl rfl rfl rfl rfl (Nat.le_of_ble_eq_true rfl) ⟨Nat.le_of_ble_eq_true rfl, Nat.le_of_ble_eq_true rfl⟩ ⟨Nat.le_of_ble_eq_true rfl, Nat.le_of_ble_eq_true rfl⟩ (fR_k ?_) fR_x (Nat.le_of_ble_eq_true rfl) (Nat.le_of_ble_eq_true rfl)
      try dsimp only [Option.toList, List.cons_append, List.nil_append]
      refine v_iret hC dX12_nest_26 hr (rfl) ?_ (Nat.le_of_ble_eq_true rfl) (Nat.le_of_ble_eq_true rfl)
      exact mg_f (by first | (rw [show mIn a 0 (G.2.1 0 30 1 - 1) = false from c_10]; rfl) | (rw [show mIn b 0 (G.2.1 0 30 1 - 1) = false from c_18, Bool.and_false]))
set_option maxHeartbeats 4000000 in
set_option maxRecDepth 20000 in
theorem c_X12_unnest {l : Launch} (hl : l.stackTraces = false) (Θ : cTH) (a b : Int32) (G : GS) (hm : mInv G) : Ct l yX12_unnest cX12_unnest 3 (some .int) rm_X12_unnest Θ [.ref (tR Θ 0 29), .int a, .int b] (G) (mg (mIn a 0 (G.2.1 0 30 1 - 1) && mIn b 0 (G.2.1 0 30 1 - 1)) 1 (mg (mHas (G.2.1 0 30 (10 + a.toNatClampNeg)) b) 2 (fR (some (.int (mHow ((mUp (10 + a.toNatClampNeg) ((mC G).2.1 0 30 (10 + a.toNatClampNeg) - ((1 : Int32) <<< (b &&& 31))) (mC G)).2.1 0 30) (mGs (G.2.1 0 30)) b.toNatClampNeg (mUs (G.2.1 0 30)) 0 0))) (mUp (10 + a.toNatClampNeg) ((mC G).2.1 0 30 (10 + a.toNatClampNeg) - ((1 : Int32) <<< (b &&& 31))) (mC G))) (G)) (G)) := by
  refine ct_of (LS := [some (.ref (tR Θ 0 29)), some (.int a), some (.int b)]) hl (by decide +kernel) rfl (Nat.le_of_ble_eq_true rfl) rfl ?_
  intro p e s m args below meth c hC hr
  refine v_aload_n (i := 0) (q := 1) hC dX12_unnest_0 rfl rfl rfl ?_
  refine v_iconst (q := 2) (v := 0) hC dX12_unnest_1 rfl (by decide) ?_
  refine pm_last (q := 5) hC dX12_unnest_2 rfl rfl fl_RX12_39 ?_
  refine v_aload_n (i := 0) (q := 6) hC dX12_unnest_5 rfl rfl rfl ?_
  refine v_iload_n (i := 1) (q := 7) hC dX12_unnest_6 rfl rfl rfl ?_
  refine v_callV (q := 10) (rm := rm_X12_isGroup) hC (c_X12_isGroup hl Θ _ _) k_X12_isGroup im_yX12_isGroup se_yX12_isGroup ml_RX12_85 dX12_unnest_7 rfl rfl rfl rfl rfl rfl (Nat.le_of_ble_eq_true rfl) ⟨Nat.le_of_ble_eq_true rfl, Nat.le_of_ble_eq_true rfl⟩ ⟨Nat.le_of_ble_eq_true rfl, Nat.le_of_ble_eq_true rfl⟩ (fR_k ?_) fR_x (Nat.le_of_ble_eq_true rfl) (Nat.le_of_ble_eq_true rfl)
  try dsimp only [Option.toList, List.cons_append, List.nil_append]
  refine v_ifb_eq (q := 21) (q2 := 13) hC dX12_unnest_10 (by decide) rfl (fun c_10 => ?_) (fun c_10 => ?_)
  · refine v_aload_n (i := 0) (q := 22) hC dX12_unnest_21 rfl rfl rfl ?_
    refine v_iconst (q := 23) (v := 1) hC dX12_unnest_22 rfl (by decide) ?_
    refine v_callV (q := 26) (rm := rm_X12_fails) hC (c_fl hl Θ _ _ _) k_X12_fails im_yX12_fails se_yX12_fails ml_RX12_76 dX12_unnest_23 rfl rfl rfl rfl rfl rfl (Nat.le_of_ble_eq_true rfl) ⟨Nat.le_of_ble_eq_true rfl, Nat.le_of_ble_eq_true rfl⟩ ⟨Nat.le_of_ble_eq_true rfl, Nat.le_of_ble_eq_true rfl⟩ (fR_k ?_) fR_x (Nat.le_of_ble_eq_true rfl) (Nat.le_of_ble_eq_true rfl)
    try dsimp only [Option.toList, List.cons_append, List.nil_append]
    refine v_iret hC dX12_unnest_26 hr (rfl) ?_ (Nat.le_of_ble_eq_true rfl) (Nat.le_of_ble_eq_true rfl)
    exact mg_f (by first | (rw [show mIn a 0 (G.2.1 0 30 1 - 1) = false from c_10]; rfl) | (rw [show mIn b 0 (G.2.1 0 30 1 - 1) = false from c_18, Bool.and_false]))
  · refine v_aload_n (i := 0) (q := 14) hC dX12_unnest_13 rfl rfl rfl ?_
    refine v_iload_n (i := 2) (q := 15) hC dX12_unnest_14 rfl rfl rfl ?_
    refine v_callV (q := 18) (rm := rm_X12_isGroup) hC (c_X12_isGroup hl Θ _ _) k_X12_isGroup im_yX12_isGroup se_yX12_isGroup ml_RX12_85 dX12_unnest_15 rfl rfl rfl rfl rfl rfl (Nat.le_of_ble_eq_true rfl) ⟨Nat.le_of_ble_eq_true rfl, Nat.le_of_ble_eq_true rfl⟩ ⟨Nat.le_of_ble_eq_true rfl, Nat.le_of_ble_eq_true rfl⟩ (fR_k ?_) fR_x (Nat.le_of_ble_eq_true rfl) (Nat.le_of_ble_eq_true rfl)
    try dsimp only [Option.toList, List.cons_append, List.nil_append]
    refine v_ifb_ne (q := 27) (q2 := 21) hC dX12_unnest_18 (by decide) rfl (fun c_18 => ?_) (fun c_18 => ?_)
    · rw [mg_t (by rw [show mIn a 0 (G.2.1 0 30 1 - 1) = true from c_10, show mIn b 0 (G.2.1 0 30 1 - 1) = true from c_18]; rfl)]
      obtain ⟨j, hj, rfl⟩ := mIn_lt c_10 hm.2.gs (by have := hm.2.gs8; omega)
      obtain ⟨j2, hj2, rfl⟩ := mIn_lt c_18 hm.2.gs (by have := hm.2.gs8; omega)
      have hj8 : j < 8 := by have := hm.2.gs8; omega
      have hj28 : j2 < 8 := by have := hm.2.gs8; omega
      rw [nI_clamp (show j < 2 ^ 31 by omega), nI_clamp (show j2 < 2 ^ 31 by omega)]
      refine v_aload_n (i := 0) (q := 28) hC dX12_unnest_27 rfl rfl rfl ?_
      refine g_X12_0 (q := 31) hC dX12_unnest_28 rfl rfl fl_RX12_7 ?_
      refine v_bipush (q := 33) (v := 10) hC dX12_unnest_31 rfl (by decide) ?_
      refine v_iload_n (i := 1) (q := 34) hC dX12_unnest_33 rfl rfl rfl ?_
      refine v_iadd (q := 35) hC dX12_unnest_34 rfl ?_
      refine v_ialdN (q := 36) hC dX12_unnest_35 rfl rfl rfl (i := 10 + j) (nI_add 10 j) (by first | decide | omega | (unfold oA; omega) | (unfold enA; omega)) (by decide) ?_
      refine v_iload_n (i := 2) (q := 37) hC dX12_unnest_36 rfl rfl rfl ?_
      refine v_callS (q := 40) (rm := rm_X12_has) hC (c_X12_has hl Θ _ _ _) k_X12_has st_yX12_has ml_RX12_65 dX12_unnest_37 rfl  rfl rfl (Nat.le_of_ble_eq_true rfl) ⟨Nat.le_of_ble_eq_true rfl, Nat.le_of_ble_eq_true rfl⟩ ⟨Nat.le_of_ble_eq_true rfl, Nat.le_of_ble_eq_true rfl⟩ (fR_k ?_) fR_x (Nat.le_of_ble_eq_true rfl) (Nat.le_of_ble_eq_true rfl)
      try dsimp only [Option.toList, List.cons_append, List.nil_append]
      refine v_ifb_ne (q := 49) (q2 := 43) hC dX12_unnest_40 (by decide) rfl (fun c_40 => ?_) (fun c_40 => ?_)
      · rw [mg_t (show mHas (G.2.1 0 30 (10 + j)) (nI j2) = true from c_40)]
        refine v_aload_n (i := 0) (q := 50) hC dX12_unnest_49 rfl rfl rfl ?_
        refine v_callV (q := 53) (rm := rm_X12_changes) hC (c_mC hl Θ _ hm) k_X12_changes im_yX12_changes se_yX12_changes ml_RX12_79 dX12_unnest_50 rfl rfl rfl rfl rfl rfl (Nat.le_of_ble_eq_true rfl) ⟨Nat.le_of_ble_eq_true rfl, Nat.le_of_ble_eq_true rfl⟩ ⟨Nat.le_of_ble_eq_true rfl, Nat.le_of_ble_eq_true rfl⟩ (fR_k ?_) fR_x (Nat.le_of_ble_eq_true rfl) (Nat.le_of_ble_eq_true rfl)
        try dsimp only [Option.toList, List.cons_append, List.nil_append]
        refine v_aload_n (i := 0) (q := 54) hC dX12_unnest_53 rfl rfl rfl ?_
        refine g_X12_0 (q := 57) hC dX12_unnest_54 rfl rfl fl_RX12_7 ?_
        refine v_bipush (q := 59) (v := 10) hC dX12_unnest_57 rfl (by decide) ?_
        refine v_iload_n (i := 1) (q := 60) hC dX12_unnest_59 rfl rfl rfl ?_
        refine v_iadd (q := 61) hC dX12_unnest_60 rfl ?_
        refine v_dup2 (q := 62) hC dX12_unnest_61 rfl rfl rfl ?_
        refine v_ialdN (q := 63) hC dX12_unnest_62 rfl rfl rfl (i := 10 + j) (nI_add 10 j) (by first | decide | omega | (unfold oA; omega) | (unfold enA; omega)) (by decide) ?_
        refine v_iconst (q := 64) (v := 1) hC dX12_unnest_63 rfl (by decide) ?_
        refine v_iload_n (i := 2) (q := 65) hC dX12_unnest_64 rfl rfl rfl ?_
        refine v_ishl (q := 66) hC dX12_unnest_65 rfl ?_
        refine v_isub (q := 67) hC dX12_unnest_66 rfl ?_
        refine v_mup (i := 10 + j) (q := 68) hC dX12_unnest_67 rfl (nI_add 10 j) (by omega) ?_
        refine v_aload_n (i := 0) (q := 69) hC dX12_unnest_68 rfl rfl rfl ?_
        refine v_iload_n (i := 2) (q := 70) hC dX12_unnest_69 rfl rfl rfl ?_
        refine v_callV (q := 73) (rm := rm_X12_howMany) hC (c_X12_howMany hl Θ j2 (mGs (G.2.1 0 30)) (mUs (G.2.1 0 30)) _ hj28 (by rw [mUp_row, upd, if_neg (by omega), mC_w]; exact hm.2.gs) hm.2.gs8 (by rw [mUp_row, upd, if_neg (by omega), mC_w]; exact hm.2.us) hm.2.us12) k_X12_howMany im_yX12_howMany se_yX12_howMany ml_RX12_88 dX12_unnest_70 rfl rfl rfl rfl rfl rfl (Nat.le_of_ble_eq_true rfl) ⟨Nat.le_of_ble_eq_true rfl, Nat.le_of_ble_eq_true rfl⟩ ⟨Nat.le_of_ble_eq_true rfl, Nat.le_of_ble_eq_true rfl⟩ (fR_k ?_) fR_x (Nat.le_of_ble_eq_true rfl) (Nat.le_of_ble_eq_true rfl)
        try dsimp only [Option.toList, List.cons_append, List.nil_append]
        refine v_iret hC dX12_unnest_73 hr (rfl) ?_ (Nat.le_of_ble_eq_true rfl) (Nat.le_of_ble_eq_true rfl)
        exact ⟨rfl, rfl⟩
      · refine v_aload_n (i := 0) (q := 44) hC dX12_unnest_43 rfl rfl rfl ?_
        refine v_iconst (q := 45) (v := 2) hC dX12_unnest_44 rfl (by decide) ?_
        refine v_callV (q := 48) (rm := rm_X12_fails) hC (c_fl hl Θ _ _ _) k_X12_fails im_yX12_fails se_yX12_fails ml_RX12_76 dX12_unnest_45 rfl rfl rfl rfl rfl rfl (Nat.le_of_ble_eq_true rfl) ⟨Nat.le_of_ble_eq_true rfl, Nat.le_of_ble_eq_true rfl⟩ ⟨Nat.le_of_ble_eq_true rfl, Nat.le_of_ble_eq_true rfl⟩ (fR_k ?_) fR_x (Nat.le_of_ble_eq_true rfl) (Nat.le_of_ble_eq_true rfl)
        try dsimp only [Option.toList, List.cons_append, List.nil_append]
        refine v_iret hC dX12_unnest_48 hr (rfl) ?_ (Nat.le_of_ble_eq_true rfl) (Nat.le_of_ble_eq_true rfl)
        exact mg_f c_40
    · refine v_aload_n (i := 0) (q := 22) hC dX12_unnest_21 rfl rfl rfl ?_
      refine v_iconst (q := 23) (v := 1) hC dX12_unnest_22 rfl (by decide) ?_
      refine v_callV (q := 26) (rm := rm_X12_fails) hC (c_fl hl Θ _ _ _) k_X12_fails im_yX12_fails se_yX12_fails ml_RX12_76 dX12_unnest_23 rfl rfl rfl rfl rfl rfl (Nat.le_of_ble_eq_true rfl) ⟨Nat.le_of_ble_eq_true rfl, Nat.le_of_ble_eq_true rfl⟩ ⟨Nat.le_of_ble_eq_true rfl, Nat.le_of_ble_eq_true rfl⟩ (fR_k ?_) fR_x (Nat.le_of_ble_eq_true rfl) (Nat.le_of_ble_eq_true rfl)
      try dsimp only [Option.toList, List.cons_append, List.nil_append]
      refine v_iret hC dX12_unnest_26 hr (rfl) ?_ (Nat.le_of_ble_eq_true rfl) (Nat.le_of_ble_eq_true rfl)
      exact mg_f (by first | (rw [show mIn a 0 (G.2.1 0 30 1 - 1) = false from c_10]; rfl) | (rw [show mIn b 0 (G.2.1 0 30 1 - 1) = false from c_18, Bool.and_false]))
