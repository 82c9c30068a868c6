/-! The reference: PermissionDeskModel -/
section NROWS
variable {p : Program} {l : Launch} {e : Env} {R : Room} {s : State} {m : MethodId} {args : Array Value} {below : List Frame} {meth : Method} {c : Code} {cc : ByteArray} {nL : Nat} {own : String} {Θ : cTH} {Qp : cOut → GS → Prop} {Q9 : State → Prop} {mc ms k n pc q : Nat} {LS : List (Option Value)} {rest : List Value} {G : GS}
theorem v_ialdN (hC : cC p l s m args meth c cc nL own Θ) {r o N i : Nat} {x : Int32} {f : Nat → Int32} (d : decode cc pc = .ok (.iaload, 1)) (hq : pc + 1 = q) (hid : okI G.2.2.1 r o = true) (hce : cellS Θ r o (G.1 r o) (G.2.1 r o) G.2.2 = .inl (tI Θ, N, .inl f)) (hx : x = nI i) (hi : i < N) (hN : N < 2 ^ 31)
    (kk : VG p l e R s m args below meth c nL Θ Q9 k n q LS (.int (G.2.1 r o i) :: rest) G) (hf : f = G.2.1 r o := by rfl) : VG p l e R s m args below meth c nL Θ Q9 k n pc LS (.int x :: .ref (tR Θ r o) :: rest) G := by
  subst hx
  refine v_iald hC d hq hid hce (vp_in_nI hi hN) ?_ hf
  rw [nI_clamp (Nat.lt_trans hi hN)]
  exact kk
theorem v_iastN (hC : cC p l s m args meth c cc nL own Θ) {r o N i : Nat} {x v : Int32} (d : decode cc pc = .ok (.iastore, 1)) (hq : pc + 1 = q) (hid : okI G.2.2.1 r o = true) (hce : ∀ a : Nat → Int32, cellS Θ r o (G.1 r o) a G.2.2 = .inl (tI Θ, N, .inl a)) (hx : x = nI i) (hi : i < N) (hN : N < 2 ^ 31)
    (kk : VG p l e R s m args below meth c nL Θ Q9 k n q LS rest (putA G r o (upd (G.2.1 r o) i v))) : VG p l e R s m args below meth c nL Θ Q9 k n pc LS (.int v :: .int x :: .ref (tR Θ r o) :: rest) G := by
  subst hx
  refine v_iast hC d hq hid hce (vp_in_nI hi hN) ?_
  rw [nI_clamp (Nat.lt_trans hi hN)]
  exact kk
end NROWS

def mIn (v a b : Int32) : Bool := decide (a ≤ v) && decide (v ≤ b)
def oA (o k : Nat) : Nat := 18 + 36 * o + k
def enA (o i k : Nat) : Nat := 24 + 36 * o + 5 * i + k
theorem oA_e (o k : Nat) : (18 : Int32) + 36 * nI o + nI k = nI (oA o k) := by
  rw [show (36 : Int32) = nI 36 from rfl, nI_mul, show (18 : Int32) = nI 18 from rfl, nI_add, nI_add]
  rfl
theorem enA_e (o i k : Nat) : nI (oA o 6) + 5 * nI i + nI k = nI (enA o i k) := by
  rw [show (5 : Int32) = nI 5 from rfl, nI_mul, nI_add, nI_add]
  congr 1
  unfold oA enA
  omega
theorem mIn_in {x : Int32} {a : Nat} (h : mIn x 0 (nI a) = true) (ha : a < 2 ^ 31) : ∃ j : Nat, j ≤ a ∧ x = nI j := by
  simp only [mIn, Bool.and_eq_true, decide_eq_true_eq] at h
  obtain ⟨j, hj, rfl⟩ := nI_of (x := x) (Int32.not_lt.mpr h.1)
  refine ⟨j, ?_, rfl⟩
  rcases Nat.lt_or_ge a j with h2 | h2
  · exact absurd h.2 (nI_ge h2 hj)
  · exact h2
/-- what is wrong, laid down -/
def ms (x : Int32) (G : GS) : GS := putF G 0 29 5 x
theorem ms_ms (x y : Int32) (G : GS) : ms x (ms y G) = ms x G := putF_putF _ _ _ _ _ _
theorem ms_at (x : Int32) (G : GS) : (ms x G).1 0 29 5 = x := by simp [ms, putF_get]
theorem ms_row (x : Int32) (G : GS) : (ms x G).2 = G.2 := rfl
set_option maxHeartbeats 4000000 in
set_option maxRecDepth 20000 in
theorem c_X12_thrown {l : Launch} (hl : l.stackTraces = false) (Θ : cTH) (G : GS) : Ct l yX12_thrown cX12_thrown 1 (some .int) rm_X12_thrown Θ [.ref (tR Θ 0 29)] (G) (fR (some (.int (G.1 0 29 5))) G) := by
  refine ct_of (LS := [some (.ref (tR Θ 0 29))]) hl (by decide +kernel) rfl (Nat.le_of_ble_eq_true rfl) rfl ?_
  intro p e s m args below meth c hC hr
  refine v_aload_n (i := 0) (q := 1) hC dX12_thrown_0 rfl rfl rfl ?_
  refine g_X12_5 (q := 4) hC dX12_thrown_1 rfl rfl fl_RX12_39 ?_
  refine v_iret hC dX12_thrown_4 hr (rfl) ?_ (Nat.le_of_ble_eq_true rfl) (Nat.le_of_ble_eq_true rfl)
  exact ⟨rfl, rfl⟩
set_option maxHeartbeats 4000000 in
set_option maxRecDepth 20000 in
theorem c_X12_in {l : Launch} (hl : l.stackTraces = false) (Θ : cTH) (v a b : Int32) (G : GS) : Ct l yX12_in cX12_in 3 (some .boolean) rm_X12_in Θ [.int v, .int a, .int b] (G) (fR (some (.int (b2i (mIn v a b)))) G) := by
  refine ct_of (LS := [some (.int v), some (.int a), some (.int b)]) hl (by decide +kernel) rfl (Nat.le_of_ble_eq_true rfl) rfl ?_
  intro p e s m args below meth c hC hr
  refine v_iload_n (i := 0) (q := 1) hC dX12_in_0 rfl rfl rfl ?_
  refine v_iload_n (i := 1) (q := 2) hC dX12_in_1 rfl rfl rfl ?_
  refine v_icmp_lt (q := 14) (q2 := 5) hC dX12_in_2 (by decide) rfl (fun c_2 => ?_) (fun c_2 => ?_)
  · refine v_iconst (q := 15) (v := 0) hC dX12_in_14 rfl (by decide) ?_
    refine v_iret hC dX12_in_15 hr (by first | rfl | exact nar_b) ?_ (Nat.le_of_ble_eq_true rfl) (Nat.le_of_ble_eq_true rfl)
    exact ⟨by simp_all [mIn, b2i, ← Int32.not_lt], rfl⟩
  · refine v_iload_n (i := 0) (q := 6) hC dX12_in_5 rfl rfl rfl ?_
    refine v_iload_n (i := 2) (q := 7) hC dX12_in_6 rfl rfl rfl ?_
    refine v_icmp_gt (q := 14) (q2 := 10) hC dX12_in_7 (by decide) rfl (fun c_7 => ?_) (fun c_7 => ?_)
    · refine v_iconst (q := 15) (v := 0) hC dX12_in_14 rfl (by decide) ?_
      refine v_iret hC dX12_in_15 hr (by first | rfl | exact nar_b) ?_ (Nat.le_of_ble_eq_true rfl) (Nat.le_of_ble_eq_true rfl)
      exact ⟨by simp_all [mIn, b2i, ← Int32.not_lt], rfl⟩
    · refine v_iconst (q := 11) (v := 1) hC dX12_in_10 rfl (by decide) ?_
      refine v_goto (q := 15) hC dX12_in_11 (by decide) ?_
      refine v_iret hC dX12_in_15 hr (by first | rfl | exact nar_b) ?_ (Nat.le_of_ble_eq_true rfl) (Nat.le_of_ble_eq_true rfl)
      exact ⟨by simp_all [mIn, b2i, ← Int32.not_lt], rfl⟩
set_option maxHeartbeats 4000000 in
set_option maxRecDepth 20000 in
theorem c_X12_fails {l : Launch} (hl : l.stackTraces = false) (Θ : cTH) (x : Int32) (G : GS) : Ct l yX12_fails cX12_fails 2 (some .int) rm_X12_fails Θ [.ref (tR Θ 0 29), .int x] (G) (fR (some (.int 0)) (ms x G)) := by
  refine ct_of (LS := [some (.ref (tR Θ 0 29)), some (.int x)]) hl (by decide +kernel) rfl (Nat.le_of_ble_eq_true rfl) rfl ?_
  intro p e s m args below meth c hC hr
  refine v_aload_n (i := 0) (q := 1) hC dX12_fails_0 rfl rfl rfl ?_
  refine v_iload_n (i := 1) (q := 2) hC dX12_fails_1 rfl rfl rfl ?_
  refine p_X12_5 (q := 5) hC dX12_fails_2 rfl rfl fl_RX12_39 ?_
  refine v_iconst (q := 6) (v := 0) hC dX12_fails_5 rfl (by decide) ?_
  refine v_iret hC dX12_fails_6 hr (rfl) ?_ (Nat.le_of_ble_eq_true rfl) (Nat.le_of_ble_eq_true rfl)
  exact ⟨rfl, rfl⟩
set_option maxHeartbeats 4000000 in
set_option maxRecDepth 20000 in
theorem c_X12_isUser {l : Launch} (hl : l.stackTraces = false) (Θ : cTH) (u : Int32) (G : GS) : Ct l yX12_isUser cX12_isUser 2 (some .boolean) rm_X12_isUser Θ [.ref (tR Θ 0 29), .int u] (G) (fR (some (.int (b2i (mIn u 0 (G.2.1 0 30 0 - 1))))) G) := by
  refine ct_of (LS := [some (.ref (tR Θ 0 29)), some (.int u)]) hl (by decide +kernel) rfl (Nat.le_of_ble_eq_true rfl) rfl ?_
  intro p e s m args below meth c hC hr
  refine v_iload_n (i := 1) (q := 1) hC dX12_isUser_0 rfl rfl rfl ?_
  refine v_iconst (q := 2) (v := 0) hC dX12_isUser_1 rfl (by decide) ?_
  refine v_aload_n (i := 0) (q := 3) hC dX12_isUser_2 rfl rfl rfl ?_
  refine g_X12_0 (q := 6) hC dX12_isUser_3 rfl rfl fl_RX12_7 ?_
  refine v_iconst (q := 7) (v := 0) hC dX12_isUser_6 rfl (by decide) ?_
  refine v_ialdN (q := 8) hC dX12_isUser_7 rfl rfl rfl (i := 0) (rfl) (by first | decide | omega | (unfold oA; omega) | (unfold enA; omega)) (by decide) ?_
  refine v_iconst (q := 9) (v := 1) hC dX12_isUser_8 rfl (by decide) ?_
  refine v_isub (q := 10) hC dX12_isUser_9 rfl ?_
  refine v_callS (q := 13) (rm := rm_X12_in) hC (c_X12_in hl Θ _ _ _ _) k_X12_in st_yX12_in ml_RX12_46 dX12_isUser_10 rfl  rfl rfl (Nat.le_of_ble_eq_true rfl) ⟨Nat.le_of_ble_eq_true rfl, Nat.le_of_ble_eq_true rfl⟩ ⟨Nat.le_of_ble_eq_true rfl, Nat.le_of_ble_eq_true rfl⟩ (fR_k ?_) fR_x (Nat.le_of_ble_eq_true rfl) (Nat.le_of_ble_eq_true rfl)
  try dsimp only [Option.toList, List.cons_append, List.nil_append]
  refine v_iret hC dX12_isUser_13 hr (by first | rfl | exact nar_b) ?_ (Nat.le_of_ble_eq_true rfl) (Nat.le_of_ble_eq_true rfl)
  exact ⟨rfl, rfl⟩
set_option maxHeartbeats 4000000 in
set_option maxRecDepth 20000 in
theorem c_X12_isGroup {l : Launch} (hl : l.stackTraces = false) (Θ : cTH) (u : Int32) (G : GS) : Ct l yX12_isGroup cX12_isGroup 2 (some .boolean) rm_X12_isGroup Θ [.ref (tR Θ 0 29), .int u] (G) (fR (some (.int (b2i (mIn u 0 (G.2.1 0 30 1 - 1))))) G) := by
  refine ct_of (LS := [some (.ref (tR Θ 0 29)), some (.int u)]) hl (by decide +kernel) rfl (Nat.le_of_ble_eq_true rfl) rfl ?_
  intro p e s m args below meth c hC hr
  refine v_iload_n (i := 1) (q := 1) hC dX12_isGroup_0 rfl rfl rfl ?_
  refine v_iconst (q := 2) (v := 0) hC dX12_isGroup_1 rfl (by decide) ?_
  refine v_aload_n (i := 0) (q := 3) hC dX12_isGroup_2 rfl rfl rfl ?_
  refine g_X12_0 (q := 6) hC dX12_isGroup_3 rfl rfl fl_RX12_7 ?_
  refine v_iconst (q := 7) (v := 1) hC dX12_isGroup_6 rfl (by decide) ?_
  refine v_ialdN (q := 8) hC dX12_isGroup_7 rfl rfl rfl (i := 1) (rfl) (by first | decide | omega | (unfold oA; omega) | (unfold enA; omega)) (by decide) ?_
  refine v_iconst (q := 9) (v := 1) hC dX12_isGroup_8 rfl (by decide) ?_
  refine v_isub (q := 10) hC dX12_isGroup_9 rfl ?_
  refine v_callS (q := 13) (rm := rm_X12_in) hC (c_X12_in hl Θ _ _ _ _) k_X12_in st_yX12_in ml_RX12_46 dX12_isGroup_10 rfl  rfl rfl (Nat.le_of_ble_eq_true rfl) ⟨Nat.le_of_ble_eq_true rfl, Nat.le_of_ble_eq_true rfl⟩ ⟨Nat.le_of_ble_eq_true rfl, Nat.le_of_ble_eq_true rfl⟩ (fR_k ?_) fR_x (Nat.le_of_ble_eq_true rfl) (Nat.le_of_ble_eq_true rfl)
  try dsimp only [Option.toList, List.cons_append, List.nil_append]
  refine v_iret hC dX12_isGroup_13 hr (by first | rfl | exact nar_b) ?_ (Nat.le_of_ble_eq_true rfl) (Nat.le_of_ble_eq_true rfl)
  exact ⟨rfl, rfl⟩
set_option maxHeartbeats 4000000 in
set_option maxRecDepth 20000 in
theorem c_X12_at {l : Launch} (hl : l.stackTraces = false) (Θ : cTH) (o k : Nat) (G : GS) : Ct l yX12_at cX12_at 2 (some .int) rm_X12_at Θ [.int (nI o), .int (nI k)] (G) (fR (some (.int (nI (oA o k)))) G) := by
  refine ct_of (LS := [some (.int (nI o)), some (.int (nI k))]) hl (by decide +kernel) rfl (Nat.le_of_ble_eq_true rfl) rfl ?_
  intro p e s m args below meth c hC hr
  refine v_bipush (q := 2) (v := 18) hC dX12_at_0 rfl (by decide) ?_
  refine v_bipush (q := 4) (v := 36) hC dX12_at_2 rfl (by decide) ?_
  refine v_iload_n (i := 0) (q := 5) hC dX12_at_4 rfl rfl rfl ?_
  refine v_imul (q := 6) hC dX12_at_5 rfl ?_
  refine v_iadd (q := 7) hC dX12_at_6 rfl ?_
  refine v_iload_n (i := 1) (q := 8) hC dX12_at_7 rfl rfl rfl ?_
  refine v_iadd (q := 9) hC dX12_at_8 rfl ?_
  refine v_iret hC dX12_at_9 hr (rfl) ?_ (Nat.le_of_ble_eq_true rfl) (Nat.le_of_ble_eq_true rfl)
  exact ⟨by rw [← oA_e], rfl⟩
set_option maxHeartbeats 4000000 in
set_option maxRecDepth 20000 in
theorem c_X12_of {l : Launch} (hl : l.stackTraces = false) (Θ : cTH) (o k : Nat) (G : GS) (h : oA o k < 765) : Ct l yX12_of cX12_of 3 (some .int) rm_X12_of Θ [.ref (tR Θ 0 29), .int (nI o), .int (nI k)] (G) (fR (some (.int (G.2.1 0 30 (oA o k)))) G) := by
  refine ct_of (LS := [some (.ref (tR Θ 0 29)), some (.int (nI o)), some (.int (nI k))]) hl (by decide +kernel) rfl (Nat.le_of_ble_eq_true rfl) rfl ?_
  intro p e s m args below meth c hC hr
  refine v_aload_n (i := 0) (q := 1) hC dX12_of_0 rfl rfl rfl ?_
  refine g_X12_0 (q := 4) hC dX12_of_1 rfl rfl fl_RX12_7 ?_
  refine v_iload_n (i := 1) (q := 5) hC dX12_of_4 rfl rfl rfl ?_
  refine v_iload_n (i := 2) (q := 6) hC dX12_of_5 rfl rfl rfl ?_
  refine v_callS (q := 9) (rm := rm_X12_at) hC (c_X12_at hl Θ _ _ _) k_X12_at st_yX12_at ml_RX12_50 dX12_of_6 rfl  rfl rfl (Nat.le_of_ble_eq_true rfl) ⟨Nat.le_of_ble_eq_true rfl, Nat.le_of_ble_eq_true rfl⟩ ⟨Nat.le_of_ble_eq_true rfl, Nat.le_of_ble_eq_true rfl⟩ (fR_k ?_) fR_x (Nat.le_of_ble_eq_true rfl) (Nat.le_of_ble_eq_true rfl)
  try dsimp only [Option.toList, List.cons_append, List.nil_append]
  refine v_ialdN (q := 10) hC dX12_of_9 rfl rfl rfl (i := oA o k) (rfl) (h) (by decide) ?_
  refine v_iret hC dX12_of_10 hr (rfl) ?_ (Nat.le_of_ble_eq_true rfl) (Nat.le_of_ble_eq_true rfl)
  exact ⟨rfl, rfl⟩
def mHold (w : Nat → Int32) (o : Int32) : Bool := mIn o 0 19 && decide (w (oA o.toNatClampNeg 0) = 1)
theorem c_X12_ofI {l : Launch} (hl : l.stackTraces = false) (Θ : cTH) (x : Int32) (k : Nat) (G : GS) (h : mIn x 0 19 = true) (hk : k < 36) : Ct l yX12_of cX12_of 3 (some .int) rm_X12_of Θ [.ref (tR Θ 0 29), .int x, .int (nI k)] G (fR (some (.int (G.2.1 0 30 (oA x.toNatClampNeg k)))) G) := by
  obtain ⟨j, hj, rfl⟩ := mIn_in (a := 19) h (by decide)
  rw [nI_clamp (by omega)]
  exact c_X12_of hl Θ j k G (by unfold oA; omega)
set_option maxHeartbeats 4000000 in
set_option maxRecDepth 20000 in
theorem c_X12_isObject {l : Launch} (hl : l.stackTraces = false) (Θ : cTH) (o : Int32) (G : GS) : Ct l yX12_isObject cX12_isObject 2 (some .boolean) rm_X12_isObject Θ [.ref (tR Θ 0 29), .int o] (G) (fR (some (.int (b2i (mHold (G.2.1 0 30) o)))) G) := by
  refine ct_of (LS := [some (.ref (tR Θ 0 29)), some (.int o)]) hl (by decide +kernel) rfl (Nat.le_of_ble_eq_true rfl) rfl ?_
  intro p e s m args below meth c hC hr
  refine v_iload_n (i := 1) (q := 1) hC dX12_isObject_0 rfl rfl rfl ?_
  refine v_iconst (q := 2) (v := 0) hC dX12_isObject_1 rfl (by decide) ?_
  refine v_bipush (q := 4) (v := 19) hC dX12_isObject_2 rfl (by decide) ?_
  refine v_callS (q := 7) (rm := rm_X12_in) hC (c_X12_in hl Θ _ _ _ _) k_X12_in st_yX12_in ml_RX12_46 dX12_isObject_4 rfl  rfl rfl (Nat.le_of_ble_eq_true rfl) ⟨Nat.le_of_ble_eq_true rfl, Nat.le_of_ble_eq_true rfl⟩ ⟨Nat.le_of_ble_eq_true rfl, Nat.le_of_ble_eq_true rfl⟩ (fR_k ?_) fR_x (Nat.le_of_ble_eq_true rfl) (Nat.le_of_ble_eq_true rfl)
  try dsimp only [Option.toList, List.cons_append, List.nil_append]
  refine v_ifb_eq (q := 24) (q2 := 10) hC dX12_isObject_7 (by decide) rfl (fun c_7 => ?_) (fun c_7 => ?_)
  · refine v_iconst (q := 25) (v := 0) hC dX12_isObject_24 rfl (by decide) ?_
    refine v_iret hC dX12_isObject_25 hr (by first | rfl | exact nar_b) ?_ (Nat.le_of_ble_eq_true rfl) (Nat.le_of_ble_eq_true rfl)
    exact ⟨by simp_all [mHold, b2i], rfl⟩
  · refine v_aload_n (i := 0) (q := 11) hC dX12_isObject_10 rfl rfl rfl ?_
    refine v_iload_n (i := 1) (q := 12) hC dX12_isObject_11 rfl rfl rfl ?_
    refine v_iconst (q := 13) (v := 0) hC dX12_isObject_12 rfl (by decide) ?_
    refine v_callV (q := 16) (rm := rm_X12_of) hC (c_X12_ofI hl Θ _ 0 _ c_7 (by decide)) k_X12_of im_yX12_of se_yX12_of ml_RX12_54 dX12_isObject_13 rfl rfl rfl rfl rfl rfl (Nat.le_of_ble_eq_true rfl) ⟨Nat.le_of_ble_eq_true rfl, Nat.le_of_ble_eq_true rfl⟩ ⟨Nat.le_of_ble_eq_true rfl, Nat.le_of_ble_eq_true rfl⟩ (fR_k ?_) fR_x (Nat.le_of_ble_eq_true rfl) (Nat.le_of_ble_eq_true rfl)
    try dsimp only [Option.toList, List.cons_append, List.nil_append]
    refine v_iconst (q := 17) (v := 1) hC dX12_isObject_16 rfl (by decide) ?_
    refine v_icmp_ne (q := 24) (q2 := 20) hC dX12_isObject_17 (by decide) rfl (fun c_17 => ?_) (fun c_17 => ?_)
    · refine v_iconst (q := 25) (v := 0) hC dX12_isObject_24 rfl (by decide) ?_
      refine v_iret hC dX12_isObject_25 hr (by first | rfl | exact nar_b) ?_ (Nat.le_of_ble_eq_true rfl) (Nat.le_of_ble_eq_true rfl)
      exact ⟨by simp_all [mHold, b2i], rfl⟩
    · refine v_iconst (q := 21) (v := 1) hC dX12_isObject_20 rfl (by decide) ?_
      refine v_goto (q := 25) hC dX12_isObject_21 (by decide) ?_
      refine v_iret hC dX12_isObject_25 hr (by first | rfl | exact nar_b) ?_ (Nat.le_of_ble_eq_true rfl) (Nat.le_of_ble_eq_true rfl)
      exact ⟨by simp_all [mHold, b2i], rfl⟩
theorem mHold_in {w : Nat → Int32} {o : Int32} (h : mHold w o = true) : mIn o 0 19 = true := by
  unfold mHold at h
  exact (Bool.and_eq_true_iff.mp h).1
theorem mHold_nI {w : Nat → Int32} {o : Int32} (h : mHold w o = true) : ∃ j : Nat, j < 20 ∧ o = nI j := by
  obtain ⟨j, hj, e⟩ := mIn_in (a := 19) (mHold_in h) (by decide)
  exact ⟨j, by omega, e⟩
def mEnt (w : Nat → Int32) (o i : Int32) : Bool := mHold w o && mIn i 0 (w (oA o.toNatClampNeg 5) - 1)
set_option maxHeartbeats 4000000 in
set_option maxRecDepth 20000 in
theorem c_X12_isEntry {l : Launch} (hl : l.stackTraces = false) (Θ : cTH) (o i : Int32) (G : GS) : Ct l yX12_isEntry cX12_isEntry 3 (some .boolean) rm_X12_isEntry Θ [.ref (tR Θ 0 29), .int o, .int i] (G) (fR (some (.int (b2i (mEnt (G.2.1 0 30) o i)))) G) := by
  refine ct_of (LS := [some (.ref (tR Θ 0 29)), some (.int o), some (.int i)]) hl (by decide +kernel) rfl (Nat.le_of_ble_eq_true rfl) rfl ?_
  intro p e s m args below meth c hC hr
  refine v_aload_n (i := 0) (q := 1) hC dX12_isEntry_0 rfl rfl rfl ?_
  refine v_iload_n (i := 1) (q := 2) hC dX12_isEntry_1 rfl rfl rfl ?_
  refine v_callV (q := 5) (rm := rm_X12_isObject) hC (c_X12_isObject hl Θ _ _) k_X12_isObject im_yX12_isObject se_yX12_isObject ml_RX12_57 dX12_isEntry_2 rfl rfl rfl rfl rfl rfl (Nat.le_of_ble_eq_true rfl) ⟨Nat.le_of_ble_eq_true rfl, Nat.le_of_ble_eq_true rfl⟩ ⟨Nat.le_of_ble_eq_true rfl, Nat.le_of_ble_eq_true rfl⟩ (fR_k ?_) fR_x (Nat.le_of_ble_eq_true rfl) (Nat.le_of_ble_eq_true rfl)
  try dsimp only [Option.toList, List.cons_append, List.nil_append]
  refine v_ifb_eq (q := 28) (q2 := 8) hC dX12_isEntry_5 (by decide) rfl (fun c_5 => ?_) (fun c_5 => ?_)
  · refine v_iconst (q := 29) (v := 0) hC dX12_isEntry_28 rfl (by decide) ?_
    refine v_iret hC dX12_isEntry_29 hr (by first | rfl | exact nar_b) ?_ (Nat.le_of_ble_eq_true rfl) (Nat.le_of_ble_eq_true rfl)
    exact ⟨by simp_all [mEnt, b2i], rfl⟩
  · refine v_iload_n (i := 2) (q := 9) hC dX12_isEntry_8 rfl rfl rfl ?_
    refine v_iconst (q := 10) (v := 0) hC dX12_isEntry_9 rfl (by decide) ?_
    refine v_aload_n (i := 0) (q := 11) hC dX12_isEntry_10 rfl rfl rfl ?_
    refine v_iload_n (i := 1) (q := 12) hC dX12_isEntry_11 rfl rfl rfl ?_
    refine v_iconst (q := 13) (v := 5) hC dX12_isEntry_12 rfl (by decide) ?_
    refine v_callV (q := 16) (rm := rm_X12_of) hC (c_X12_ofI hl Θ _ 5 _ (mHold_in c_5) (by decide)) k_X12_of im_yX12_of se_yX12_of ml_RX12_54 dX12_isEntry_13 rfl rfl rfl rfl rfl rfl (Nat.le_of_ble_eq_true rfl) ⟨Nat.le_of_ble_eq_true rfl, Nat.le_of_ble_eq_true rfl⟩ ⟨Nat.le_of_ble_eq_true rfl, Nat.le_of_ble_eq_true rfl⟩ (fR_k ?_) fR_x (Nat.le_of_ble_eq_true rfl) (Nat.le_of_ble_eq_true rfl)
    try dsimp only [Option.toList, List.cons_append, List.nil_append]
    refine v_iconst (q := 17) (v := 1) hC dX12_isEntry_16 rfl (by decide) ?_
    refine v_isub (q := 18) hC dX12_isEntry_17 rfl ?_
    refine v_callS (q := 21) (rm := rm_X12_in) hC (c_X12_in hl Θ _ _ _ _) k_X12_in st_yX12_in ml_RX12_46 dX12_isEntry_18 rfl  rfl rfl (Nat.le_of_ble_eq_true rfl) ⟨Nat.le_of_ble_eq_true rfl, Nat.le_of_ble_eq_true rfl⟩ ⟨Nat.le_of_ble_eq_true rfl, Nat.le_of_ble_eq_true rfl⟩ (fR_k ?_) fR_x (Nat.le_of_ble_eq_true rfl) (Nat.le_of_ble_eq_true rfl)
    try dsimp only [Option.toList, List.cons_append, List.nil_append]
    refine v_ifb_eq (q := 28) (q2 := 24) hC dX12_isEntry_21 (by decide) rfl (fun c_21 => ?_) (fun c_21 => ?_)
    · refine v_iconst (q := 29) (v := 0) hC dX12_isEntry_28 rfl (by decide) ?_
      refine v_iret hC dX12_isEntry_29 hr (by first | rfl | exact nar_b) ?_ (Nat.le_of_ble_eq_true rfl) (Nat.le_of_ble_eq_true rfl)
      exact ⟨by simp_all [mEnt, b2i], rfl⟩
    · refine v_iconst (q := 25) (v := 1) hC dX12_isEntry_24 rfl (by decide) ?_
      refine v_goto (q := 29) hC dX12_isEntry_25 (by decide) ?_
      refine v_iret hC dX12_isEntry_29 hr (by first | rfl | exact nar_b) ?_ (Nat.le_of_ble_eq_true rfl) (Nat.le_of_ble_eq_true rfl)
      exact ⟨by simp_all [mEnt, b2i], rfl⟩
set_option maxHeartbeats 4000000 in
set_option maxRecDepth 20000 in
theorem c_X12_entryAt {l : Launch} (hl : l.stackTraces = false) (Θ : cTH) (o i k : Nat) (G : GS) : Ct l yX12_entryAt cX12_entryAt 3 (some .int) rm_X12_entryAt Θ [.int (nI o), .int (nI i), .int (nI k)] (G) (fR (some (.int (nI (enA o i k)))) G) := by
  refine ct_of (LS := [some (.int (nI o)), some (.int (nI i)), some (.int (nI k))]) hl (by decide +kernel) rfl (Nat.le_of_ble_eq_true rfl) rfl ?_
  intro p e s m args below meth c hC hr
  refine v_iload_n (i := 0) (q := 1) hC dX12_entryAt_0 rfl rfl rfl ?_
  refine v_bipush (q := 3) (v := 6) hC dX12_entryAt_1 rfl (by decide) ?_
  refine v_callS (q := 6) (rm := rm_X12_at) hC (c_X12_at hl Θ _ 6 _) k_X12_at st_yX12_at ml_RX12_50 dX12_entryAt_3 rfl  rfl rfl (Nat.le_of_ble_eq_true rfl) ⟨Nat.le_of_ble_eq_true rfl, Nat.le_of_ble_eq_true rfl⟩ ⟨Nat.le_of_ble_eq_true rfl, Nat.le_of_ble_eq_true rfl⟩ (fR_k ?_) fR_x (Nat.le_of_ble_eq_true rfl) (Nat.le_of_ble_eq_true rfl)
  try dsimp only [Option.toList, List.cons_append, List.nil_append]
  refine v_iconst (q := 7) (v := 5) hC dX12_entryAt_6 rfl (by decide) ?_
  refine v_iload_n (i := 1) (q := 8) hC dX12_entryAt_7 rfl rfl rfl ?_
  refine v_imul (q := 9) hC dX12_entryAt_8 rfl ?_
  refine v_iadd (q := 10) hC dX12_entryAt_9 rfl ?_
  refine v_iload_n (i := 2) (q := 11) hC dX12_entryAt_10 rfl rfl rfl ?_
  refine v_iadd (q := 12) hC dX12_entryAt_11 rfl ?_
  refine v_iret hC dX12_entryAt_12 hr (rfl) ?_ (Nat.le_of_ble_eq_true rfl) (Nat.le_of_ble_eq_true rfl)
  exact ⟨by rw [← enA_e], rfl⟩
set_option maxHeartbeats 4000000 in
set_option maxRecDepth 20000 in
theorem c_X12_ofEntry {l : Launch} (hl : l.stackTraces = false) (Θ : cTH) (o i k : Nat) (G : GS) (h : enA o i k < 765) : Ct l yX12_ofEntry cX12_ofEntry 4 (some .int) rm_X12_ofEntry Θ [.ref (tR Θ 0 29), .int (nI o), .int (nI i), .int (nI k)] (G) (fR (some (.int (G.2.1 0 30 (enA o i k)))) G) := by
  refine ct_of (LS := [some (.ref (tR Θ 0 29)), some (.int (nI o)), some (.int (nI i)), some (.int (nI k))]) hl (by decide +kernel) rfl (Nat.le_of_ble_eq_true rfl) rfl ?_
  intro p e s m args below meth c hC hr
  refine v_aload_n (i := 0) (q := 1) hC dX12_ofEntry_0 rfl rfl rfl ?_
  refine g_X12_0 (q := 4) hC dX12_ofEntry_1 rfl rfl fl_RX12_7 ?_
  refine v_iload_n (i := 1) (q := 5) hC dX12_ofEntry_4 rfl rfl rfl ?_
  refine v_iload_n (i := 2) (q := 6) hC dX12_ofEntry_5 rfl rfl rfl ?_
  refine v_iload_n (i := 3) (q := 7) hC dX12_ofEntry_6 rfl rfl rfl ?_
  refine v_callS (q := 10) (rm := rm_X12_entryAt) hC (c_X12_entryAt hl Θ _ _ _ _) k_X12_entryAt st_yX12_entryAt ml_RX12_61 dX12_ofEntry_7 rfl  rfl rfl (Nat.le_of_ble_eq_true rfl) ⟨Nat.le_of_ble_eq_true rfl, Nat.le_of_ble_eq_true rfl⟩ ⟨Nat.le_of_ble_eq_true rfl, Nat.le_of_ble_eq_true rfl⟩ (fR_k ?_) fR_x (Nat.le_of_ble_eq_true rfl) (Nat.le_of_ble_eq_true rfl)
  try dsimp only [Option.toList, List.cons_append, List.nil_append]
  refine v_ialdN (q := 11) hC dX12_ofEntry_10 rfl rfl rfl (i := enA o i k) (rfl) (h) (by decide) ?_
  refine v_iret hC dX12_ofEntry_11 hr (rfl) ?_ (Nat.le_of_ble_eq_true rfl) (Nat.le_of_ble_eq_true rfl)
  exact ⟨rfl, rfl⟩
set_option maxHeartbeats 4000000 in
set_option maxRecDepth 20000 in
theorem c_X12_isRight {l : Launch} (hl : l.stackTraces = false) (Θ : cTH) (r : Int32) (G : GS) : Ct l yX12_isRight cX12_isRight 1 (some .boolean) rm_X12_isRight Θ [.int r] (G) (fR (some (.int (b2i (mIn r 0 3)))) G) := by
  refine ct_of (LS := [some (.int r)]) hl (by decide +kernel) rfl (Nat.le_of_ble_eq_true rfl) rfl ?_
  intro p e s m args below meth c hC hr
  refine v_iload_n (i := 0) (q := 1) hC dX12_isRight_0 rfl rfl rfl ?_
  refine v_iconst (q := 2) (v := 0) hC dX12_isRight_1 rfl (by decide) ?_
  refine v_iconst (q := 3) (v := 3) hC dX12_isRight_2 rfl (by decide) ?_
  refine v_callS (q := 6) (rm := rm_X12_in) hC (c_X12_in hl Θ _ _ _ _) k_X12_in st_yX12_in ml_RX12_46 dX12_isRight_3 rfl  rfl rfl (Nat.le_of_ble_eq_true rfl) ⟨Nat.le_of_ble_eq_true rfl, Nat.le_of_ble_eq_true rfl⟩ ⟨Nat.le_of_ble_eq_true rfl, Nat.le_of_ble_eq_true rfl⟩ (fR_k ?_) fR_x (Nat.le_of_ble_eq_true rfl) (Nat.le_of_ble_eq_true rfl)
  try dsimp only [Option.toList, List.cons_append, List.nil_append]
  refine v_iret hC dX12_isRight_6 hr (by first | rfl | exact nar_b) ?_ (Nat.le_of_ble_eq_true rfl) (Nat.le_of_ble_eq_true rfl)
  exact ⟨rfl, rfl⟩
set_option maxHeartbeats 4000000 in
set_option maxRecDepth 20000 in
theorem c_X12_areRights {l : Launch} (hl : l.stackTraces = false) (Θ : cTH) (r : Int32) (G : GS) : Ct l yX12_areRights cX12_areRights 1 (some .boolean) rm_X12_areRights Θ [.int r] (G) (fR (some (.int (b2i (mIn r 1 15)))) G) := by
  refine ct_of (LS := [some (.int r)]) hl (by decide +kernel) rfl (Nat.le_of_ble_eq_true rfl) rfl ?_
  intro p e s m args below meth c hC hr
  refine v_iload_n (i := 0) (q := 1) hC dX12_areRights_0 rfl rfl rfl ?_
  refine v_iconst (q := 2) (v := 1) hC dX12_areRights_1 rfl (by decide) ?_
  refine v_bipush (q := 4) (v := 15) hC dX12_areRights_2 rfl (by decide) ?_
  refine v_callS (q := 7) (rm := rm_X12_in) hC (c_X12_in hl Θ _ _ _ _) k_X12_in st_yX12_in ml_RX12_46 dX12_areRights_4 rfl  rfl rfl (Nat.le_of_ble_eq_true rfl) ⟨Nat.le_of_ble_eq_true rfl, Nat.le_of_ble_eq_true rfl⟩ ⟨Nat.le_of_ble_eq_true rfl, Nat.le_of_ble_eq_true rfl⟩ (fR_k ?_) fR_x (Nat.le_of_ble_eq_true rfl) (Nat.le_of_ble_eq_true rfl)
  try dsimp only [Option.toList, List.cons_append, List.nil_append]
  refine v_iret hC dX12_areRights_7 hr (by first | rfl | exact nar_b) ?_ (Nat.le_of_ble_eq_true rfl) (Nat.le_of_ble_eq_true rfl)
  exact ⟨rfl, rfl⟩
def mHas (x k : Int32) : Bool := decide ((x >>> (k &&& 31)) &&& 1 = 1)
set_option maxHeartbeats 4000000 in
set_option maxRecDepth 20000 in
theorem c_X12_has {l : Launch} (hl : l.stackTraces = false) (Θ : cTH) (x k : Int32) (G : GS) : Ct l yX12_has cX12_has 2 (some .boolean) rm_X12_has Θ [.int x, .int k] (G) (fR (some (.int (b2i (mHas x k)))) G) := by
  refine ct_of (LS := [some (.int x), some (.int k)]) hl (by decide +kernel) rfl (Nat.le_of_ble_eq_true rfl) rfl ?_
  intro p e s m args below meth c hC hr
  refine v_iload_n (i := 0) (q := 1) hC dX12_has_0 rfl rfl rfl ?_
  refine v_iload_n (i := 1) (q := 2) hC dX12_has_1 rfl rfl rfl ?_
  refine v_ishr (q := 3) hC dX12_has_2 rfl ?_
  refine v_iconst (q := 4) (v := 1) hC dX12_has_3 rfl (by decide) ?_
  refine v_iand (q := 5) hC dX12_has_4 rfl ?_
  refine v_iconst (q := 6) (v := 1) hC dX12_has_5 rfl (by decide) ?_
  refine v_icmp_ne (q := 13) (q2 := 9) hC dX12_has_6 (by decide) rfl (fun c_6 => ?_) (fun c_6 => ?_)
  · refine v_iconst (q := 14) (v := 0) hC dX12_has_13 rfl (by decide) ?_
    refine v_iret hC dX12_has_14 hr (by first | rfl | exact nar_b) ?_ (Nat.le_of_ble_eq_true rfl) (Nat.le_of_ble_eq_true rfl)
    exact ⟨by simp_all [mHas, b2i], rfl⟩
  · refine v_iconst (q := 10) (v := 1) hC dX12_has_9 rfl (by decide) ?_
    refine v_goto (q := 14) hC dX12_has_10 (by decide) ?_
    refine v_iret hC dX12_has_14 hr (by first | rfl | exact nar_b) ?_ (Nat.le_of_ble_eq_true rfl) (Nat.le_of_ble_eq_true rfl)
    exact ⟨by simp_all [mHas, b2i], rfl⟩
def mSz (x : Int32) : Nat → Nat → Int32 → Int32
  | 0, _, t => t
  | n + 1, j, t => mSz x n (j + 1) (t + (if mHas x (nI j) = true then 1 else 0))
set_option maxHeartbeats 4000000 in
set_option maxRecDepth 20000 in
theorem c_X12_size {l : Launch} (hl : l.stackTraces = false) (Θ : cTH) (x : Int32) (G : GS) : Ct l yX12_size cX12_size 3 (some .int) rm_X12_size Θ [.int x] (G) (fR (some (.int (mSz x 20 0 0))) G) := by
  refine ct_of (LS := [some (.int x), none, none]) hl (by decide +kernel) rfl (Nat.le_of_ble_eq_true rfl) rfl ?_
  intro p e s m args below meth c hC hr
  have L : ∀ (n j : Nat) (t : Int32), n + j = 20 → mSz x n j t = mSz x 20 0 0 → V p l e rm_X12_size s m args below meth c 3 Θ (fR (some (.int (mSz x 20 0 0))) G) 0 0 0 0 4 [some (.int x), some (.int t), some (.int (nI j))] [] (G) := by
    intro n
    induction n with
    | zero =>
      intro j t h1 h2
      refine v_iload_n (i := 2) (q := 5) hC dX12_size_4 rfl rfl rfl ?_
      refine v_bipush (q := 7) (v := 20) hC dX12_size_5 rfl (by decide) ?_
      refine v_icmp_ge (q := 32) (q2 := 10) hC dX12_size_7 (by decide) rfl (fun c_7 => ?_) (fun c_7 => ?_)
      · refine v_iload_n (i := 1) (q := 33) hC dX12_size_32 rfl rfl rfl ?_
        refine v_iret hC dX12_size_33 hr (rfl) ?_ (Nat.le_of_ble_eq_true rfl) (Nat.le_of_ble_eq_true rfl)
        exact ⟨by rw [← h2, mSz], rfl⟩
      · exact absurd (by rw [show j = 20 by omega]; decide) c_7
    | succ n ih =>
      intro j t h1 h2
      rw [mSz] at h2
      refine v_iload_n (i := 2) (q := 5) hC dX12_size_4 rfl rfl rfl ?_
      refine v_bipush (q := 7) (v := 20) hC dX12_size_5 rfl (by decide) ?_
      refine v_icmp_ge (q := 32) (q2 := 10) hC dX12_size_7 (by decide) rfl (fun c_7 => ?_) (fun c_7 => ?_)
      · exact absurd c_7 (by rw [show (20 : Int32) = nI 20 from rfl]; exact nI_ge (by omega) (by omega))
      · refine v_iload_n (i := 1) (q := 11) hC dX12_size_10 rfl rfl rfl ?_
        refine v_iload_n (i := 0) (q := 12) hC dX12_size_11 rfl rfl rfl ?_
        refine v_iload_n (i := 2) (q := 13) hC dX12_size_12 rfl rfl rfl ?_
        refine v_callS (q := 16) (rm := rm_X12_has) hC (c_X12_has hl Θ _ _ _) k_X12_has st_yX12_has ml_RX12_65 dX12_size_13 rfl  rfl rfl (Nat.le_of_ble_eq_true rfl) ⟨Nat.le_of_ble_eq_true rfl, Nat.le_of_ble_eq_true rfl⟩ ⟨Nat.le_of_ble_eq_true rfl, Nat.le_of_ble_eq_true rfl⟩ (fR_k ?_) fR_x (Nat.le_of_ble_eq_true rfl) (Nat.le_of_ble_eq_true rfl)
        try dsimp only [Option.toList, List.cons_append, List.nil_append]
        refine v_ifb_eq (q := 23) (q2 := 19) hC dX12_size_16 (by decide) rfl (fun c_16 => ?_) (fun c_16 => ?_)
        · refine v_iconst (q := 24) (v := 0) hC dX12_size_23 rfl (by decide) ?_
          refine v_iadd (q := 25) hC dX12_size_24 rfl ?_
          refine v_istore_n (i := 1) (q := 26) hC dX12_size_25 rfl rfl (lvc rfl) (Nat.le_of_ble_eq_true rfl) (Nat.le_of_ble_eq_true rfl) rfl ?_
          refine v_iinc (q := 29) (v := nI (j + 1)) hC dX12_size_26 rfl rfl (nI_1 j) (lvc rfl) (Nat.le_of_ble_eq_true rfl) (Nat.le_of_ble_eq_true rfl) rfl ?_
          refine v_goto (q := 4) hC dX12_size_29 (by decide) ?_
          refine ih (j + 1) _ (by omega) ?_
          rw [← h2]
          first | rw [if_pos c_16] | rw [if_neg (by rw [c_16]; decide)]
        · refine v_iconst (q := 20) (v := 1) hC dX12_size_19 rfl (by decide) ?_
          refine v_goto (q := 24) hC dX12_size_20 (by decide) ?_
          refine v_iadd (q := 25) hC dX12_size_24 rfl ?_
          refine v_istore_n (i := 1) (q := 26) hC dX12_size_25 rfl rfl (lvc rfl) (Nat.le_of_ble_eq_true rfl) (Nat.le_of_ble_eq_true rfl) rfl ?_
          refine v_iinc (q := 29) (v := nI (j + 1)) hC dX12_size_26 rfl rfl (nI_1 j) (lvc rfl) (Nat.le_of_ble_eq_true rfl) (Nat.le_of_ble_eq_true rfl) rfl ?_
          refine v_goto (q := 4) hC dX12_size_29 (by decide) ?_
          refine ih (j + 1) _ (by omega) ?_
          rw [← h2]
          first | rw [if_pos c_16] | rw [if_neg (by rw [c_16]; decide)]
  refine v_iconst (q := 1) (v := 0) hC dX12_size_0 rfl (by decide) ?_
  refine v_istore_n (i := 1) (q := 2) hC dX12_size_1 rfl rfl (lvc rfl) (Nat.le_of_ble_eq_true rfl) (Nat.le_of_ble_eq_true rfl) rfl ?_
  refine v_iconst (q := 3) (v := 0) hC dX12_size_2 rfl (by decide) ?_
  refine v_istore_n (i := 2) (q := 4) hC dX12_size_3 rfl rfl (lvc rfl) (Nat.le_of_ble_eq_true rfl) (Nat.le_of_ble_eq_true rfl) rfl ?_
  exact L 20 0 0 rfl rfl
/-- groups -/
def mOK (w : Nat → Int32) : Nat → Nat → Int32 → Int32
  | 0, _, x => x
  | n + 1, j, x => mOK w n (j + 1) (x ||| (if mHas x (nI j) = true then w (10 + j) else 0))
def mOR (w : Nat → Int32) : Nat → Int32 → Int32
  | 0, x => x
  | n + 1, x => mOR w n (mOK w 8 0 x)
def mOut (w : Nat → Int32) (g : Nat) : Int32 := mOR w 8 (w (10 + g))
set_option maxHeartbeats 4000000 in
set_option maxRecDepth 20000 in
theorem c_X12_outers {l : Launch} (hl : l.stackTraces = false) (Θ : cTH) (g : Nat) (G : GS) (hg : g < 8) : Ct l yX12_outers cX12_outers 5 (some .int) rm_X12_outers Θ [.ref (tR Θ 0 29), .int (nI g)] (G) (fR (some (.int (mOut (G.2.1 0 30) g))) G) := by
  refine ct_of (LS := [some (.ref (tR Θ 0 29)), some (.int (nI g)), none, none, none]) hl (by decide +kernel) rfl (Nat.le_of_ble_eq_true rfl) rfl ?_
  intro p e s m args below meth c hC hr
  have L : ∀ (n j : Nat) (x : Int32) (x4 : Option Value), n + j = 8 → mOR (G.2.1 0 30) n x = mOut (G.2.1 0 30) g → V p l e rm_X12_outers s m args below meth c 5 Θ (fR (some (.int (mOut (G.2.1 0 30) g))) G) 0 0 0 0 12 [some (.ref (tR Θ 0 29)), some (.int (nI g)), some (.int x), some (.int (nI j)), x4] [] (G) := by
    intro n
    induction n with
    | zero =>
      intro j x x4 h1 h2
      refine v_iload_n (i := 3) (q := 13) hC dX12_outers_12 rfl rfl rfl ?_
      refine v_bipush (q := 15) (v := 8) hC dX12_outers_13 rfl (by decide) ?_
      refine v_icmp_ge (q := 66) (q2 := 18) hC dX12_outers_15 (by decide) rfl (fun c_15 => ?_) (fun c_15 => ?_)
      · refine v_iload_n (i := 2) (q := 67) hC dX12_outers_66 rfl rfl rfl ?_
        refine v_iret hC dX12_outers_67 hr (rfl) ?_ (Nat.le_of_ble_eq_true rfl) (Nat.le_of_ble_eq_true rfl)
        exact ⟨by rw [← h2, mOR], rfl⟩
      · exact absurd (by rw [show j = 8 by omega]; decide) c_15
    | succ n ih =>
      intro j x x4 h1 h2
      rw [mOR] at h2
      have L2 : ∀ (n2 j2 : Nat) (x2 : Int32), n2 + j2 = 8 → mOK (G.2.1 0 30) n2 j2 x2 = mOK (G.2.1 0 30) 8 0 x → V p l e rm_X12_outers s m args below meth c 5 Θ (fR (some (.int (mOut (G.2.1 0 30) g))) G) 0 0 0 0 21 [some (.ref (tR Θ 0 29)), some (.int (nI g)), some (.int x2), some (.int (nI j)), some (.int (nI j2))] [] (G) := by
        intro n2
        induction n2 with
        | zero =>
          intro j2 x2 h4 h5
          refine v_iload (q := 23) hC dX12_outers_21 rfl rfl ?_
          refine v_bipush (q := 25) (v := 8) hC dX12_outers_23 rfl (by decide) ?_
          refine v_icmp_ge (q := 60) (q2 := 28) hC dX12_outers_25 (by decide) rfl (fun c_25 => ?_) (fun c_25 => ?_)
          · refine v_iinc (q := 63) (v := nI (j + 1)) hC dX12_outers_60 rfl rfl (nI_1 j) (lvc rfl) (Nat.le_of_ble_eq_true rfl) (Nat.le_of_ble_eq_true rfl) rfl ?_
            refine v_goto (q := 12) hC dX12_outers_63 (by decide) ?_
            exact ih (j + 1) _ _ (by omega) (by rw [← h2, ← h5, mOK])
          · exact absurd (by rw [show j2 = 8 by omega]; decide) c_25
        | succ n2 ih2 =>
          intro j2 x2 h4 h5
          rw [mOK] at h5
          refine v_iload (q := 23) hC dX12_outers_21 rfl rfl ?_
          refine v_bipush (q := 25) (v := 8) hC dX12_outers_23 rfl (by decide) ?_
          refine v_icmp_ge (q := 60) (q2 := 28) hC dX12_outers_25 (by decide) rfl (fun c_25 => ?_) (fun c_25 => ?_)
          · exact absurd c_25 (by rw [show (8 : Int32) = nI 8 from rfl]; exact nI_ge (by omega) (by omega))
          · refine v_iload_n (i := 2) (q := 29) hC dX12_outers_28 rfl rfl rfl ?_
            refine v_iload_n (i := 2) (q := 30) hC dX12_outers_29 rfl rfl rfl ?_
            refine v_iload (q := 32) hC dX12_outers_30 rfl rfl ?_
            refine v_callS (q := 35) (rm := rm_X12_has) hC (c_X12_has hl Θ _ _ _) k_X12_has st_yX12_has ml_RX12_65 dX12_outers_32 rfl  rfl rfl (Nat.le_of_ble_eq_true rfl) ⟨Nat.le_of_ble_eq_true rfl, Nat.le_of_ble_eq_true rfl⟩ ⟨Nat.le_of_ble_eq_true rfl, Nat.le_of_ble_eq_true rfl⟩ (fR_k ?_) fR_x (Nat.le_of_ble_eq_true rfl) (Nat.le_of_ble_eq_true rfl)
            try dsimp only [Option.toList, List.cons_append, List.nil_append]
            refine v_ifb_eq (q := 51) (q2 := 38) hC dX12_outers_35 (by decide) rfl (fun c_35 => ?_) (fun c_35 => ?_)
            · refine v_iconst (q := 52) (v := 0) hC dX12_outers_51 rfl (by decide) ?_
              refine v_ior (q := 53) hC dX12_outers_52 rfl ?_
              refine v_istore_n (i := 2) (q := 54) hC dX12_outers_53 rfl rfl (lvc rfl) (Nat.le_of_ble_eq_true rfl) (Nat.le_of_ble_eq_true rfl) rfl ?_
              refine v_iinc (q := 57) (v := nI (j2 + 1)) hC dX12_outers_54 rfl rfl (nI_1 j2) (lvc rfl) (Nat.le_of_ble_eq_true rfl) (Nat.le_of_ble_eq_true rfl) rfl ?_
              refine v_goto (q := 21) hC dX12_outers_57 (by decide) ?_
              refine ih2 (j2 + 1) _ (by omega) ?_
              rw [← h5]
              first | rw [if_pos c_35] | rw [if_neg (by rw [c_35]; decide)]
            · refine v_aload_n (i := 0) (q := 39) hC dX12_outers_38 rfl rfl rfl ?_
              refine g_X12_0 (q := 42) hC dX12_outers_39 rfl rfl fl_RX12_7 ?_
              refine v_bipush (q := 44) (v := 10) hC dX12_outers_42 rfl (by decide) ?_
              refine v_iload (q := 46) hC dX12_outers_44 rfl rfl ?_
              refine v_iadd (q := 47) hC dX12_outers_46 rfl ?_
              refine v_ialdN (q := 48) hC dX12_outers_47 rfl rfl rfl (i := 10 + j2) (nI_add 10 j2) (by first | decide | omega | (unfold oA; omega) | (unfold enA; omega)) (by decide) ?_
              refine v_goto (q := 52) hC dX12_outers_48 (by decide) ?_
              refine v_ior (q := 53) hC dX12_outers_52 rfl ?_
              refine v_istore_n (i := 2) (q := 54) hC dX12_outers_53 rfl rfl (lvc rfl) (Nat.le_of_ble_eq_true rfl) (Nat.le_of_ble_eq_true rfl) rfl ?_
              refine v_iinc (q := 57) (v := nI (j2 + 1)) hC dX12_outers_54 rfl rfl (nI_1 j2) (lvc rfl) (Nat.le_of_ble_eq_true rfl) (Nat.le_of_ble_eq_true rfl) rfl ?_
              refine v_goto (q := 21) hC dX12_outers_57 (by decide) ?_
              refine ih2 (j2 + 1) _ (by omega) ?_
              rw [← h5]
              first | rw [if_pos c_35] | rw [if_neg (by rw [c_35]; decide)]
      refine v_iload_n (i := 3) (q := 13) hC dX12_outers_12 rfl rfl rfl ?_
      refine v_bipush (q := 15) (v := 8) hC dX12_outers_13 rfl (by decide) ?_
      refine v_icmp_ge (q := 66) (q2 := 18) hC dX12_outers_15 (by decide) rfl (fun c_15 => ?_) (fun c_15 => ?_)
      · exact absurd c_15 (by rw [show (8 : Int32) = nI 8 from rfl]; exact nI_ge (by omega) (by omega))
      · refine v_iconst (q := 19) (v := 0) hC dX12_outers_18 rfl (by decide) ?_
        refine v_istore (q := 21) hC dX12_outers_19 rfl (lvc rfl) (Nat.le_of_ble_eq_true rfl) (Nat.le_of_ble_eq_true rfl) rfl ?_
        exact L2 8 0 x rfl rfl
  refine v_aload_n (i := 0) (q := 1) hC dX12_outers_0 rfl rfl rfl ?_
  refine g_X12_0 (q := 4) hC dX12_outers_1 rfl rfl fl_RX12_7 ?_
  refine v_bipush (q := 6) (v := 10) hC dX12_outers_4 rfl (by decide) ?_
  refine v_iload_n (i := 1) (q := 7) hC dX12_outers_6 rfl rfl rfl ?_
  refine v_iadd (q := 8) hC dX12_outers_7 rfl ?_
  refine v_ialdN (q := 9) hC dX12_outers_8 rfl rfl rfl (i := 10 + g) (nI_add 10 g) (by first | decide | omega | (unfold oA; omega) | (unfold enA; omega)) (by decide) ?_
  refine v_istore_n (i := 2) (q := 10) hC dX12_outers_9 rfl rfl (lvc rfl) (Nat.le_of_ble_eq_true rfl) (Nat.le_of_ble_eq_true rfl) rfl ?_
  refine v_iconst (q := 11) (v := 0) hC dX12_outers_10 rfl (by decide) ?_
  refine v_istore_n (i := 3) (q := 12) hC dX12_outers_11 rfl rfl (lvc rfl) (Nat.le_of_ble_eq_true rfl) (Nat.le_of_ble_eq_true rfl) rfl ?_
  exact L 8 0 _ none rfl rfl
def mOf (w : Nat → Int32) (u : Int32) (g : Nat) : Nat → Nat → Bool → Bool
  | 0, _, b => b
  | n + 1, j, b => mOf w u g n (j + 1) (b || (mHas (w (2 + j)) u && mHas (mOut w j) (nI g)))
def mIsOf (w : Nat → Int32) (gs : Nat) (u : Int32) (g : Nat) : Bool := mOf w u g gs 0 (mHas (w (2 + g)) u)
set_option maxHeartbeats 4000000 in
set_option maxRecDepth 20000 in
theorem c_X12_isOf {l : Launch} (hl : l.stackTraces = false) (Θ : cTH) (u : Int32) (g gs : Nat) (G : GS) (hg : g < 8) (hs : G.2.1 0 30 1 = nI gs) (hs8 : gs ≤ 8) : Ct l yX12_isOf cX12_isOf 5 (some .boolean) rm_X12_isOf Θ [.ref (tR Θ 0 29), .int u, .int (nI g)] (G) (fR (some (.int (b2i (mIsOf (G.2.1 0 30) gs u g)))) G) := by
  refine ct_of (LS := [some (.ref (tR Θ 0 29)), some (.int u), some (.int (nI g)), none, none]) hl (by decide +kernel) rfl (Nat.le_of_ble_eq_true rfl) rfl ?_
  intro p e s m args below meth c hC hr
  have L : ∀ (n j : Nat) (b : Bool), n + j = gs → mOf (G.2.1 0 30) u g n j b = mIsOf (G.2.1 0 30) gs u g → V p l e rm_X12_isOf s m args below meth c 5 Θ (fR (some (.int (b2i (mIsOf (G.2.1 0 30) gs u g)))) G) 0 0 0 0 16 [some (.ref (tR Θ 0 29)), some (.int u), some (.int (nI g)), some (.int (b2i b)), some (.int (nI j))] [] (G) := by
    intro n
    induction n with
    | zero =>
      intro j b h1 h2
      refine v_iload (q := 18) hC dX12_isOf_16 rfl rfl ?_
      refine v_aload_n (i := 0) (q := 19) hC dX12_isOf_18 rfl rfl rfl ?_
      refine g_X12_0 (q := 22) hC dX12_isOf_19 rfl rfl fl_RX12_7 ?_
      refine v_iconst (q := 23) (v := 1) hC dX12_isOf_22 rfl (by decide) ?_
      refine v_ialdN (q := 24) hC dX12_isOf_23 rfl rfl rfl (i := 1) (rfl) (by first | decide | omega | (unfold oA; omega) | (unfold enA; omega)) (by decide) ?_
      refine v_icmp_ge (q := 72) (q2 := 27) hC dX12_isOf_24 (by decide) rfl (fun c_24 => ?_) (fun c_24 => ?_)
      · refine v_iload_n (i := 3) (q := 73) hC dX12_isOf_72 rfl rfl rfl ?_
        refine v_iret hC dX12_isOf_73 hr (by first | rfl | exact nar_b) ?_ (Nat.le_of_ble_eq_true rfl) (Nat.le_of_ble_eq_true rfl)
        exact ⟨by rw [← h2, mOf], rfl⟩
      · exact absurd (by rw [hs]; exact nI_le (by omega) (by omega)) c_24
    | succ n ih =>
      intro j b h1 h2
      rw [mOf] at h2
      refine v_iload (q := 18) hC dX12_isOf_16 rfl rfl ?_
      refine v_aload_n (i := 0) (q := 19) hC dX12_isOf_18 rfl rfl rfl ?_
      refine g_X12_0 (q := 22) hC dX12_isOf_19 rfl rfl fl_RX12_7 ?_
      refine v_iconst (q := 23) (v := 1) hC dX12_isOf_22 rfl (by decide) ?_
      refine v_ialdN (q := 24) hC dX12_isOf_23 rfl rfl rfl (i := 1) (rfl) (by first | decide | omega | (unfold oA; omega) | (unfold enA; omega)) (by decide) ?_
      refine v_icmp_ge (q := 72) (q2 := 27) hC dX12_isOf_24 (by decide) rfl (fun c_24 => ?_) (fun c_24 => ?_)
      · exact absurd c_24 (by rw [hs]; exact nI_ge (by omega) (by omega))
      · refine v_iload_n (i := 3) (q := 28) hC dX12_isOf_27 rfl rfl rfl ?_
        refine v_if_ne (q := 60) (q2 := 31) hC dX12_isOf_28 (by decide) rfl (fun c_28 => ?_) (fun c_28 => ?_)
        · refine v_iconst (q := 61) (v := 1) hC dX12_isOf_60 rfl (by decide) ?_
          refine v_goto (q := 65) hC dX12_isOf_61 (by decide) ?_
          refine v_istore_n (i := 3) (q := 66) hC dX12_isOf_65 rfl rfl (lvc rfl) (Nat.le_of_ble_eq_true rfl) (Nat.le_of_ble_eq_true rfl) rfl ?_
          try change V p l e rm_X12_isOf s m args below meth c 5 Θ (fR (some (.int (b2i (mIsOf (G.2.1 0 30) gs u g)))) G) rm_X12_isOf.cells rm_X12_isOf.slots _ _ 66 [_, _, _, some (.int (b2i true)), _] _ _
          try change V p l e rm_X12_isOf s m args below meth c 5 Θ (fR (some (.int (b2i (mIsOf (G.2.1 0 30) gs u g)))) G) rm_X12_isOf.cells rm_X12_isOf.slots _ _ 66 [_, _, _, some (.int (b2i false)), _] _ _
          refine v_iinc (q := 69) (v := nI (j + 1)) hC dX12_isOf_66 rfl rfl (nI_1 j) (lvc rfl) (Nat.le_of_ble_eq_true rfl) (Nat.le_of_ble_eq_true rfl) rfl ?_
          refine v_goto (q := 16) hC dX12_isOf_69 (by decide) ?_
          refine ih (j + 1) _ (by omega) ?_
          rw [← h2]
          first | (rw [b2i_ne0.mp c_28, Bool.true_or]) | (rw [b2i_eq0.mp c_28, c_44, c_57]; rfl) | (rw [b2i_eq0.mp c_28, c_44]; rfl)
        · refine v_aload_n (i := 0) (q := 32) hC dX12_isOf_31 rfl rfl rfl ?_
          refine g_X12_0 (q := 35) hC dX12_isOf_32 rfl rfl fl_RX12_7 ?_
          refine v_iconst (q := 36) (v := 2) hC dX12_isOf_35 rfl (by decide) ?_
          refine v_iload (q := 38) hC dX12_isOf_36 rfl rfl ?_
          refine v_iadd (q := 39) hC dX12_isOf_38 rfl ?_
          refine v_ialdN (q := 40) hC dX12_isOf_39 rfl rfl rfl (i := 2 + j) (nI_add 2 j) (by first | decide | omega | (unfold oA; omega) | (unfold enA; omega)) (by decide) ?_
          refine v_iload_n (i := 1) (q := 41) hC dX12_isOf_40 rfl rfl rfl ?_
          refine v_callS (q := 44) (rm := rm_X12_has) hC (c_X12_has hl Θ _ _ _) k_X12_has st_yX12_has ml_RX12_65 dX12_isOf_41 rfl  rfl rfl (Nat.le_of_ble_eq_true rfl) ⟨Nat.le_of_ble_eq_true rfl, Nat.le_of_ble_eq_true rfl⟩ ⟨Nat.le_of_ble_eq_true rfl, Nat.le_of_ble_eq_true rfl⟩ (fR_k ?_) fR_x (Nat.le_of_ble_eq_true rfl) (Nat.le_of_ble_eq_true rfl)
          try dsimp only [Option.toList, List.cons_append, List.nil_append]
          refine v_ifb_eq (q := 64) (q2 := 47) hC dX12_isOf_44 (by decide) rfl (fun c_44 => ?_) (fun c_44 => ?_)
          · refine v_iconst (q := 65) (v := 0) hC dX12_isOf_64 rfl (by decide) ?_
            refine v_istore_n (i := 3) (q := 66) hC dX12_isOf_65 rfl rfl (lvc rfl) (Nat.le_of_ble_eq_true rfl) (Nat.le_of_ble_eq_true rfl) rfl ?_
            try change V p l e rm_X12_isOf s m args below meth c 5 Θ (fR (some (.int (b2i (mIsOf (G.2.1 0 30) gs u g)))) G) rm_X12_isOf.cells rm_X12_isOf.slots _ _ 66 [_, _, _, some (.int (b2i true)), _] _ _
            try change V p l e rm_X12_isOf s m args below meth c 5 Θ (fR (some (.int (b2i (mIsOf (G.2.1 0 30) gs u g)))) G) rm_X12_isOf.cells rm_X12_isOf.slots _ _ 66 [_, _, _, some (.int (b2i false)), _] _ _
            refine v_iinc (q := 69) (v := nI (j + 1)) hC dX12_isOf_66 rfl rfl (nI_1 j) (lvc rfl) (Nat.le_of_ble_eq_true rfl) (Nat.le_of_ble_eq_true rfl) rfl ?_
            refine v_goto (q := 16) hC dX12_isOf_69 (by decide) ?_
            refine ih (j + 1) _ (by omega) ?_
            rw [← h2]
            first | (rw [b2i_ne0.mp c_28, Bool.true_or]) | (rw [b2i_eq0.mp c_28, c_44, c_57]; rfl) | (rw [b2i_eq0.mp c_28, c_44]; rfl)
          · refine v_aload_n (i := 0) (q := 48) hC dX12_isOf_47 rfl rfl rfl ?_
            refine v_iload (q := 50) hC dX12_isOf_48 rfl rfl ?_
            refine v_callV (q := 53) (rm := rm_X12_outers) hC (c_X12_outers hl Θ j _ (by omega)) k_X12_outers im_yX12_outers se_yX12_outers ml_RX12_69 dX12_isOf_50 rfl rfl rfl rfl rfl rfl (Nat.le_of_ble_eq_true rfl) ⟨Nat.le_of_ble_eq_true rfl, Nat.le_of_ble_eq_true rfl⟩ ⟨Nat.le_of_ble_eq_true rfl, Nat.le_of_ble_eq_true rfl⟩ (fR_k ?_) fR_x (Nat.le_of_ble_eq_true rfl) (Nat.le_of_ble_eq_true rfl)
            try dsimp only [Option.toList, List.cons_append, List.nil_append]
            refine v_iload_n (i := 2) (q := 54) hC dX12_isOf_53 rfl rfl rfl ?_
            refine v_callS (q := 57) (rm := rm_X12_has) hC (c_X12_has hl Θ _ _ _) k_X12_has st_yX12_has ml_RX12_65 dX12_isOf_54 rfl  rfl rfl (Nat.le_of_ble_eq_true rfl) ⟨Nat.le_of_ble_eq_true rfl, Nat.le_of_ble_eq_true rfl⟩ ⟨Nat.le_of_ble_eq_true rfl, Nat.le_of_ble_eq_true rfl⟩ (fR_k ?_) fR_x (Nat.le_of_ble_eq_true rfl) (Nat.le_of_ble_eq_true rfl)
            try dsimp only [Option.toList, List.cons_append, List.nil_append]
            refine v_ifb_eq (q := 64) (q2 := 60) hC dX12_isOf_57 (by decide) rfl (fun c_57 => ?_) (fun c_57 => ?_)
            · refine v_iconst (q := 65) (v := 0) hC dX12_isOf_64 rfl (by decide) ?_
              refine v_istore_n (i := 3) (q := 66) hC dX12_isOf_65 rfl rfl (lvc rfl) (Nat.le_of_ble_eq_true rfl) (Nat.le_of_ble_eq_true rfl) rfl ?_
              try change V p l e rm_X12_isOf s m args below meth c 5 Θ (fR (some (.int (b2i (mIsOf (G.2.1 0 30) gs u g)))) G) rm_X12_isOf.cells rm_X12_isOf.slots _ _ 66 [_, _, _, some (.int (b2i true)), _] _ _
              try change V p l e rm_X12_isOf s m args below meth c 5 Θ (fR (some (.int (b2i (mIsOf (G.2.1 0 30) gs u g)))) G) rm_X12_isOf.cells rm_X12_isOf.slots _ _ 66 [_, _, _, some (.int (b2i false)), _] _ _
              refine v_iinc (q := 69) (v := nI (j + 1)) hC dX12_isOf_66 rfl rfl (nI_1 j) (lvc rfl) (Nat.le_of_ble_eq_true rfl) (Nat.le_of_ble_eq_true rfl) rfl ?_
              refine v_goto (q := 16) hC dX12_isOf_69 (by decide) ?_
              refine ih (j + 1) _ (by omega) ?_
              rw [← h2]
              first | (rw [b2i_ne0.mp c_28, Bool.true_or]) | (rw [b2i_eq0.mp c_28, c_44, c_57]; rfl) | (rw [b2i_eq0.mp c_28, c_44]; rfl)
            · refine v_iconst (q := 61) (v := 1) hC dX12_isOf_60 rfl (by decide) ?_
              refine v_goto (q := 65) hC dX12_isOf_61 (by decide) ?_
              refine v_istore_n (i := 3) (q := 66) hC dX12_isOf_65 rfl rfl (lvc rfl) (Nat.le_of_ble_eq_true rfl) (Nat.le_of_ble_eq_true rfl) rfl ?_
              try change V p l e rm_X12_isOf s m args below meth c 5 Θ (fR (some (.int (b2i (mIsOf (G.2.1 0 30) gs u g)))) G) rm_X12_isOf.cells rm_X12_isOf.slots _ _ 66 [_, _, _, some (.int (b2i true)), _] _ _
              try change V p l e rm_X12_isOf s m args below meth c 5 Θ (fR (some (.int (b2i (mIsOf (G.2.1 0 30) gs u g)))) G) rm_X12_isOf.cells rm_X12_isOf.slots _ _ 66 [_, _, _, some (.int (b2i false)), _] _ _
              refine v_iinc (q := 69) (v := nI (j + 1)) hC dX12_isOf_66 rfl rfl (nI_1 j) (lvc rfl) (Nat.le_of_ble_eq_true rfl) (Nat.le_of_ble_eq_true rfl) rfl ?_
              refine v_goto (q := 16) hC dX12_isOf_69 (by decide) ?_
              refine ih (j + 1) _ (by omega) ?_
              rw [← h2]
              first | (rw [b2i_ne0.mp c_28, Bool.true_or]) | (rw [b2i_eq0.mp c_28, c_44, c_57]; rfl) | (rw [b2i_eq0.mp c_28, c_44]; rfl)
  refine v_aload_n (i := 0) (q := 1) hC dX12_isOf_0 rfl rfl rfl ?_
  refine g_X12_0 (q := 4) hC dX12_isOf_1 rfl rfl fl_RX12_7 ?_
  refine v_iconst (q := 5) (v := 2) hC dX12_isOf_4 rfl (by decide) ?_
  refine v_iload_n (i := 2) (q := 6) hC dX12_isOf_5 rfl rfl rfl ?_
  refine v_iadd (q := 7) hC dX12_isOf_6 rfl ?_
  refine v_ialdN (q := 8) hC dX12_isOf_7 rfl rfl rfl (i := 2 + g) (nI_add 2 g) (by first | decide | omega | (unfold oA; omega) | (unfold enA; omega)) (by decide) ?_
  refine v_iload_n (i := 1) (q := 9) hC dX12_isOf_8 rfl rfl rfl ?_
  refine v_callS (q := 12) (rm := rm_X12_has) hC (c_X12_has hl Θ _ _ _) k_X12_has st_yX12_has ml_RX12_65 dX12_isOf_9 rfl  rfl rfl (Nat.le_of_ble_eq_true rfl) ⟨Nat.le_of_ble_eq_true rfl, Nat.le_of_ble_eq_true rfl⟩ ⟨Nat.le_of_ble_eq_true rfl, Nat.le_of_ble_eq_true rfl⟩ (fR_k ?_) fR_x (Nat.le_of_ble_eq_true rfl) (Nat.le_of_ble_eq_true rfl)
  try dsimp only [Option.toList, List.cons_append, List.nil_append]
  refine v_istore_n (i := 3) (q := 13) hC dX12_isOf_12 rfl rfl (lvc rfl) (Nat.le_of_ble_eq_true rfl) (Nat.le_of_ble_eq_true rfl) rfl ?_
  refine v_iconst (q := 14) (v := 0) hC dX12_isOf_13 rfl (by decide) ?_
  refine v_istore (q := 16) hC dX12_isOf_14 rfl (lvc rfl) (Nat.le_of_ble_eq_true rfl) (Nat.le_of_ble_eq_true rfl) rfl ?_
  exact L gs 0 _ rfl rfl
def mHow (w : Nat → Int32) (gs g : Nat) : Nat → Nat → Int32 → Int32
  | 0, _, t => t
  | n + 1, j, t => mHow w gs g n (j + 1) (t + (if mIsOf w gs (nI j) g = true then 1 else 0))
set_option maxHeartbeats 4000000 in
set_option maxRecDepth 20000 in
theorem c_X12_howMany {l : Launch} (hl : l.stackTraces = false) (Θ : cTH) (g gs us : Nat) (G : GS) (hg : g < 8) (hs : G.2.1 0 30 1 = nI gs) (hs8 : gs ≤ 8) (hu : G.2.1 0 30 0 = nI us) (hu12 : us ≤ 12) : Ct l yX12_howMany cX12_howMany 4 (some .int) rm_X12_howMany Θ [.ref (tR Θ 0 29), .int (nI g)] (G) (fR (some (.int (mHow (G.2.1 0 30) gs g us 0 0))) G) := by
  refine ct_of (LS := [some (.ref (tR Θ 0 29)), some (.int (nI g)), none, none]) hl (by decide +kernel) rfl (Nat.le_of_ble_eq_true rfl) rfl ?_
  intro p e s m args below meth c hC hr
  have L : ∀ (n j : Nat) (t : Int32), n + j = us → mHow (G.2.1 0 30) gs g n j t = mHow (G.2.1 0 30) gs g us 0 0 → V p l e rm_X12_howMany s m args below meth c 4 Θ (fR (some (.int (mHow (G.2.1 0 30) gs g us 0 0))) G) 0 0 0 0 4 [some (.ref (tR Θ 0 29)), some (.int (nI g)), some (.int t), some (.int (nI j))] [] (G) := by
    intro n
    induction n with
    | zero =>
      intro j t h1 h2
      refine v_iload_n (i := 3) (q := 5) hC dX12_howMany_4 rfl rfl rfl ?_
      refine v_aload_n (i := 0) (q := 6) hC dX12_howMany_5 rfl rfl rfl ?_
      refine g_X12_0 (q := 9) hC dX12_howMany_6 rfl rfl fl_RX12_7 ?_
      refine v_iconst (q := 10) (v := 0) hC dX12_howMany_9 rfl (by decide) ?_
      refine v_ialdN (q := 11) hC dX12_howMany_10 rfl rfl rfl (i := 0) (rfl) (by first | decide | omega | (unfold oA; omega) | (unfold enA; omega)) (by decide) ?_
      refine v_icmp_ge (q := 37) (q2 := 14) hC dX12_howMany_11 (by decide) rfl (fun c_11 => ?_) (fun c_11 => ?_)
      · refine v_iload_n (i := 2) (q := 38) hC dX12_howMany_37 rfl rfl rfl ?_
        refine v_iret hC dX12_howMany_38 hr (rfl) ?_ (Nat.le_of_ble_eq_true rfl) (Nat.le_of_ble_eq_true rfl)
        exact ⟨by rw [← h2, mHow], rfl⟩
      · exact absurd (by rw [hu]; exact nI_le (by omega) (by omega)) c_11
    | succ n ih =>
      intro j t h1 h2
      rw [mHow] at h2
      refine v_iload_n (i := 3) (q := 5) hC dX12_howMany_4 rfl rfl rfl ?_
      refine v_aload_n (i := 0) (q := 6) hC dX12_howMany_5 rfl rfl rfl ?_
      refine g_X12_0 (q := 9) hC dX12_howMany_6 rfl rfl fl_RX12_7 ?_
      refine v_iconst (q := 10) (v := 0) hC dX12_howMany_9 rfl (by decide) ?_
      refine v_ialdN (q := 11) hC dX12_howMany_10 rfl rfl rfl (i := 0) (rfl) (by first | decide | omega | (unfold oA; omega) | (unfold enA; omega)) (by decide) ?_
      refine v_icmp_ge (q := 37) (q2 := 14) hC dX12_howMany_11 (by decide) rfl (fun c_11 => ?_) (fun c_11 => ?_)
      · exact absurd c_11 (by rw [hu]; exact nI_ge (by omega) (by omega))
      · refine v_iload_n (i := 2) (q := 15) hC dX12_howMany_14 rfl rfl rfl ?_
        refine v_aload_n (i := 0) (q := 16) hC dX12_howMany_15 rfl rfl rfl ?_
        refine v_iload_n (i := 3) (q := 17) hC dX12_howMany_16 rfl rfl rfl ?_
        refine v_iload_n (i := 1) (q := 18) hC dX12_howMany_17 rfl rfl rfl ?_
        refine v_callV (q := 21) (rm := rm_X12_isOf) hC (c_X12_isOf hl Θ _ g gs _ hg hs hs8) k_X12_isOf im_yX12_isOf se_yX12_isOf ml_RX12_73 dX12_howMany_18 rfl rfl rfl rfl rfl rfl (Nat.le_of_ble_eq_true rfl) ⟨Nat.le_of_ble_eq_true rfl, Nat.le_of_ble_eq_true rfl⟩ ⟨Nat.le_of_ble_eq_true rfl, Nat.le_of_ble_eq_true rfl⟩ (fR_k ?_) fR_x (Nat.le_of_ble_eq_true rfl) (Nat.le_of_ble_eq_true rfl)
        try dsimp only [Option.toList, List.cons_append, List.nil_append]
        refine v_ifb_eq (q := 28) (q2 := 24) hC dX12_howMany_21 (by decide) rfl (fun c_21 => ?_) (fun c_21 => ?_)
        · refine v_iconst (q := 29) (v := 0) hC dX12_howMany_28 rfl (by decide) ?_
          refine v_iadd (q := 30) hC dX12_howMany_29 rfl ?_
          refine v_istore_n (i := 2) (q := 31) hC dX12_howMany_30 rfl rfl (lvc rfl) (Nat.le_of_ble_eq_true rfl) (Nat.le_of_ble_eq_true rfl) rfl ?_
          refine v_iinc (q := 34) (v := nI (j + 1)) hC dX12_howMany_31 rfl rfl (nI_1 j) (lvc rfl) (Nat.le_of_ble_eq_true rfl) (Nat.le_of_ble_eq_true rfl) rfl ?_
          refine v_goto (q := 4) hC dX12_howMany_34 (by decide) ?_
          refine ih (j + 1) _ (by omega) ?_
          rw [← h2]
          first | rw [if_pos c_21] | rw [if_neg (by rw [c_21]; decide)]
        · refine v_iconst (q := 25) (v := 1) hC dX12_howMany_24 rfl (by decide) ?_
          refine v_goto (q := 29) hC dX12_howMany_25 (by decide) ?_
          refine v_iadd (q := 30) hC dX12_howMany_29 rfl ?_
          refine v_istore_n (i := 2) (q := 31) hC dX12_howMany_30 rfl rfl (lvc rfl) (Nat.le_of_ble_eq_true rfl) (Nat.le_of_ble_eq_true rfl) rfl ?_
          refine v_iinc (q := 34) (v := nI (j + 1)) hC dX12_howMany_31 rfl rfl (nI_1 j) (lvc rfl) (Nat.le_of_ble_eq_true rfl) (Nat.le_of_ble_eq_true rfl) rfl ?_
          refine v_goto (q := 4) hC dX12_howMany_34 (by decide) ?_
          refine ih (j + 1) _ (by omega) ?_
          rw [← h2]
          first | rw [if_pos c_21] | rw [if_neg (by rw [c_21]; decide)]
  refine v_iconst (q := 1) (v := 0) hC dX12_howMany_0 rfl (by decide) ?_
  refine v_istore_n (i := 2) (q := 2) hC dX12_howMany_1 rfl rfl (lvc rfl) (Nat.le_of_ble_eq_true rfl) (Nat.le_of_ble_eq_true rfl) rfl ?_
  refine v_iconst (q := 3) (v := 0) hC dX12_howMany_2 rfl (by decide) ?_
  refine v_istore_n (i := 3) (q := 4) hC dX12_howMany_3 rfl rfl (lvc rfl) (Nat.le_of_ble_eq_true rfl) (Nat.le_of_ble_eq_true rfl) rfl ?_
  exact L us 0 0 rfl rfl
