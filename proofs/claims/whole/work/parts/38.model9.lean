/-! The reference: texts are read -/
abbrev nT := Nat × (Int32 × (Nat × (Int32 × (Nat → Int32))))
def nP (G : GS) (q : nT) : GS := putA (putF (putF (putF (putF G 0 29 10 (nI q.1)) 0 29 11 q.2.1) 0 29 12 (nI q.2.2.1)) 0 29 13 q.2.2.2.1) 0 37 q.2.2.2.2
theorem nP_37 (G : GS) (q : nT) (w : Nat → Int32) : putA (nP G q) 0 37 w = nP G (q.1, q.2.1, q.2.2.1, q.2.2.2.1, w) := putA_putA _ _ _ _ _
theorem nP_10 (G : GS) (q : nT) (x : Nat) : putF (nP G q) 0 29 10 (nI x) = nP G (x, q.2) := by
  unfold nP
  rw [putF_putA, putF_comm _ _ _ 13 10 _ _ (by decide), putF_comm _ _ _ 12 10 _ _ (by decide), putF_comm _ _ _ 11 10 _ _ (by decide), putF_putF]
theorem nP_11 (G : GS) (q : nT) (x : Int32) : putF (nP G q) 0 29 11 x = nP G (q.1, x, q.2.2) := by
  unfold nP
  rw [putF_putA, putF_comm _ _ _ 13 11 _ _ (by decide), putF_comm _ _ _ 12 11 _ _ (by decide), putF_putF]
theorem nP_12 (G : GS) (q : nT) (x : Nat) : putF (nP G q) 0 29 12 (nI x) = nP G (q.1, q.2.1, x, q.2.2.2) := by
  unfold nP
  rw [putF_putA, putF_comm _ _ _ 13 12 _ _ (by decide), putF_putF]
theorem nP_13 (G : GS) (q : nT) (x : Int32) : putF (nP G q) 0 29 13 x = nP G (q.1, q.2.1, q.2.2.1, x, q.2.2.2.2) := by
  unfold nP
  rw [putF_putA, putF_putF]
def nG (G : GS) : nT := ((G.1 0 29 10).toNatClampNeg, G.1 0 29 11, (G.1 0 29 12).toNatClampNeg, G.1 0 29 13, G.2.1 0 37)
section NROWS2
variable {p : Program} {l : Launch} {e : Env} {R : Room} {s : State} {m : MethodId} {args : Array Value} {below : List Frame} {meth : Method} {c : Code} {cc : ByteArray} {nL : Nat} {own : String} {Θ : cTH} {Qp : cOut → GS → Prop} {Q9 : State → Prop} {mc ms2 k n pc q : Nat} {LS : List (Option Value)} {rest : List Value} {G : GS} {q9 : nT}
theorem gn_10 (hC : cC p l s m args meth c cc nL own Θ) {idx : Nat} (d : decode cc pc = .ok (.getfield idx, 3)) (hq : pc + 3 = q) (hid : okI (nP G q9).2.2.1 0 29 = true) (hlk : Cond.fieldLink own idx "PermissionDeskModel" "spot" "I" ∈ wALL) (kk : VG p l e R s m args below meth c nL Θ Q9 k n q LS (.int (nI q9.1) :: rest) (nP G q9)) : VG p l e R s m args below meth c nL Θ Q9 k n pc LS (.ref (tR Θ 0 29) :: rest) (nP G q9) := g_X12_10 hC d hq hid hlk kk
theorem pn_10 (hC : cC p l s m args meth c cc nL own Θ) {idx : Nat} {x : Nat} (d : decode cc pc = .ok (.putfield idx, 3)) (hq : pc + 3 = q) (hid : okI (nP G q9).2.2.1 0 29 = true) (hlk : Cond.fieldLink own idx "PermissionDeskModel" "spot" "I" ∈ wALL) (kk : VG p l e R s m args below meth c nL Θ Q9 k n q LS rest (nP G (x, q9.2))) : VG p l e R s m args below meth c nL Θ Q9 k n pc LS (.int (nI x) :: .ref (tR Θ 0 29) :: rest) (nP G q9) := p_X12_10 hC d hq hid hlk (by rw [nP_10]; exact kk)
theorem gn_11 (hC : cC p l s m args meth c cc nL own Θ) {idx : Nat} (d : decode cc pc = .ok (.getfield idx, 3)) (hq : pc + 3 = q) (hid : okI (nP G q9).2.2.1 0 29 = true) (hlk : Cond.fieldLink own idx "PermissionDeskModel" "told" "I" ∈ wALL) (kk : VG p l e R s m args below meth c nL Θ Q9 k n q LS (.int (q9.2.1) :: rest) (nP G q9)) : VG p l e R s m args below meth c nL Θ Q9 k n pc LS (.ref (tR Θ 0 29) :: rest) (nP G q9) := g_X12_11 hC d hq hid hlk kk
theorem pn_11 (hC : cC p l s m args meth c cc nL own Θ) {idx : Nat} {x : Int32} (d : decode cc pc = .ok (.putfield idx, 3)) (hq : pc + 3 = q) (hid : okI (nP G q9).2.2.1 0 29 = true) (hlk : Cond.fieldLink own idx "PermissionDeskModel" "told" "I" ∈ wALL) (kk : VG p l e R s m args below meth c nL Θ Q9 k n q LS rest (nP G (q9.1, x, q9.2.2))) : VG p l e R s m args below meth c nL Θ Q9 k n pc LS (.int (x) :: .ref (tR Θ 0 29) :: rest) (nP G q9) := p_X12_11 hC d hq hid hlk (by rw [nP_11]; exact kk)
theorem gn_12 (hC : cC p l s m args meth c cc nL own Θ) {idx : Nat} (d : decode cc pc = .ok (.getfield idx, 3)) (hq : pc + 3 = q) (hid : okI (nP G q9).2.2.1 0 29 = true) (hlk : Cond.fieldLink own idx "PermissionDeskModel" "parts" "I" ∈ wALL) (kk : VG p l e R s m args below meth c nL Θ Q9 k n q LS (.int (nI q9.2.2.1) :: rest) (nP G q9)) : VG p l e R s m args below meth c nL Θ Q9 k n pc LS (.ref (tR Θ 0 29) :: rest) (nP G q9) := g_X12_12 hC d hq hid hlk kk
theorem pn_12 (hC : cC p l s m args meth c cc nL own Θ) {idx : Nat} {x : Nat} (d : decode cc pc = .ok (.putfield idx, 3)) (hq : pc + 3 = q) (hid : okI (nP G q9).2.2.1 0 29 = true) (hlk : Cond.fieldLink own idx "PermissionDeskModel" "parts" "I" ∈ wALL) (kk : VG p l e R s m args below meth c nL Θ Q9 k n q LS rest (nP G (q9.1, q9.2.1, x, q9.2.2.2))) : VG p l e R s m args below meth c nL Θ Q9 k n pc LS (.int (nI x) :: .ref (tR Θ 0 29) :: rest) (nP G q9) := p_X12_12 hC d hq hid hlk (by rw [nP_12]; exact kk)
theorem gn_13 (hC : cC p l s m args meth c cc nL own Θ) {idx : Nat} (d : decode cc pc = .ok (.getfield idx, 3)) (hq : pc + 3 = q) (hid : okI (nP G q9).2.2.1 0 29 = true) (hlk : Cond.fieldLink own idx "PermissionDeskModel" "value" "I" ∈ wALL) (kk : VG p l e R s m args below meth c nL Θ Q9 k n q LS (.int (q9.2.2.2.1) :: rest) (nP G q9)) : VG p l e R s m args below meth c nL Θ Q9 k n pc LS (.ref (tR Θ 0 29) :: rest) (nP G q9) := g_X12_13 hC d hq hid hlk kk
theorem pn_13 (hC : cC p l s m args meth c cc nL own Θ) {idx : Nat} {x : Int32} (d : decode cc pc = .ok (.putfield idx, 3)) (hq : pc + 3 = q) (hid : okI (nP G q9).2.2.1 0 29 = true) (hlk : Cond.fieldLink own idx "PermissionDeskModel" "value" "I" ∈ wALL) (kk : VG p l e R s m args below meth c nL Θ Q9 k n q LS rest (nP G (q9.1, q9.2.1, q9.2.2.1, x, q9.2.2.2.2))) : VG p l e R s m args below meth c nL Θ Q9 k n pc LS (.int (x) :: .ref (tR Θ 0 29) :: rest) (nP G q9) := p_X12_13 hC d hq hid hlk (by rw [nP_13]; exact kk)
theorem gn_7 (hC : cC p l s m args meth c cc nL own Θ) {idx : Nat} (d : decode cc pc = .ok (.getfield idx, 3)) (hq : pc + 3 = q) (hid : okI (nP G q9).2.2.1 0 29 = true) (hlk : Cond.fieldLink own idx "PermissionDeskModel" "typed" "I" ∈ wALL) (kk : VG p l e R s m args below meth c nL Θ Q9 k n q LS (.int (G.1 0 29 7) :: rest) (nP G q9)) : VG p l e R s m args below meth c nL Θ Q9 k n pc LS (.ref (tR Θ 0 29) :: rest) (nP G q9) := g_X12_7 hC d hq hid hlk kk
theorem v_npad (hC : cC p l s m args meth c cc nL own Θ) {i : Nat} {x : Int32} (d : decode cc pc = .ok (.iaload, 1)) (hq : pc + 1 = q) (hx : x = nI i) (hi : i < 80) (kk : VG p l e R s m args below meth c nL Θ Q9 k n q LS (.int (G.2.1 0 34 i) :: rest) (nP G q9)) : VG p l e R s m args below meth c nL Θ Q9 k n pc LS (.int x :: .ref (tR Θ 0 34) :: rest) (nP G q9) := v_ialdN (N := 80) hC d hq rfl rfl hx hi (by decide) kk
theorem v_nptr (hC : cC p l s m args meth c cc nL own Θ) {i : Nat} {x : Int32} (d : decode cc pc = .ok (.iaload, 1)) (hq : pc + 1 = q) (hx : x = nI i) (hi : i < 35) (kk : VG p l e R s m args below meth c nL Θ Q9 k n q LS (.int (q9.2.2.2.2 i) :: rest) (nP G q9)) : VG p l e R s m args below meth c nL Θ Q9 k n pc LS (.int x :: .ref (tR Θ 0 37) :: rest) (nP G q9) := v_ialdN (N := 35) hC d hq rfl rfl hx hi (by decide) kk
theorem v_nptw (hC : cC p l s m args meth c cc nL own Θ) {i : Nat} {x v : Int32} (d : decode cc pc = .ok (.iastore, 1)) (hq : pc + 1 = q) (hx : x = nI i) (hi : i < 35) (kk : VG p l e R s m args below meth c nL Θ Q9 k n q LS rest (nP G (q9.1, q9.2.1, q9.2.2.1, q9.2.2.2.1, upd q9.2.2.2.2 i v))) : VG p l e R s m args below meth c nL Θ Q9 k n pc LS (.int v :: .int x :: .ref (tR Θ 0 37) :: rest) (nP G q9) := v_iastN (N := 35) hC d hq rfl (fun _ => rfl) hx hi (by decide) (by rw [nP_37]; exact kk)
end NROWS2
/-- the place is in the text -/
def nTy (G : GS) (sp : Nat) : Prop := ∃ ty, G.1 0 29 7 = nI ty ∧ ty ≤ 80 ∧ sp ≤ ty
theorem nTy_lt {G : GS} {sp : Nat} (h : nTy G sp) (h2 : ¬ G.1 0 29 7 ≤ nI sp) : sp < 80 ∧ nTy G (sp + 1) := by
  obtain ⟨ty, e, h80, hs⟩ := h
  have h3 : sp < ty := by
    rcases Nat.lt_or_ge sp ty with z | z
    · exact z
    · exact absurd (by rw [e]; exact nI_le z (by omega)) h2
  exact ⟨by omega, ty, e, h80, h3⟩
def nSee (G : GS) (sp : Nat) (a b : Int32) : Bool := decide (nI sp < G.1 0 29 7) && mIn (G.2.1 0 34 sp) a b
theorem nSee_ty {G : GS} {sp : Nat} {a b : Int32} (h : nTy G sp) (h2 : nSee G sp a b = true) : sp < 80 ∧ nTy G (sp + 1) := nTy_lt h (Int32.not_le.mpr (of_decide_eq_true (Bool.and_eq_true_iff.mp h2).1))
set_option maxHeartbeats 4000000 in
set_option maxRecDepth 20000 in
theorem c_X12_sees {l : Launch} (hl : l.stackTraces = false) (Θ : cTH) (a b : Int32) (q : nT) (G : GS) (ht : nTy G q.1) : Ct l yX12_sees cX12_sees 3 (some .boolean) rm_X12_sees Θ [.ref (tR Θ 0 29), .int a, .int b] (nP G q) (fR (some (.int (b2i (nSee G q.1 a b)))) (nP G q)) := by
  refine ct_of (LS := [some (.ref (tR Θ 0 29)), some (.int a), some (.int b)]) hl (by decide +kernel) rfl (Nat.le_of_ble_eq_true rfl) rfl ?_
  intro p e s m args below meth c hC hr
  refine v_aload_n (i := 0) (q := 1) hC dX12_sees_0 rfl rfl rfl ?_
  refine gn_10 (q := 4) hC dX12_sees_1 rfl rfl fl_RX12_162 ?_
  refine v_aload_n (i := 0) (q := 5) hC dX12_sees_4 rfl rfl rfl ?_
  refine gn_7 (q := 8) hC dX12_sees_5 rfl rfl fl_RX12_159 ?_
  refine v_icmp_ge (q := 32) (q2 := 11) hC dX12_sees_8 (by decide) rfl (fun c_8 => ?_) (fun c_8 => ?_)
  · refine v_iconst (q := 33) (v := 0) hC dX12_sees_32 rfl (by decide) ?_
    refine v_iret hC dX12_sees_33 hr (by first | rfl | exact nar_b) ?_ (Nat.le_of_ble_eq_true rfl) (Nat.le_of_ble_eq_true rfl)
    exact ⟨by simp_all [nSee, b2i, ← Int32.not_le], rfl⟩
  · refine v_aload_n (i := 0) (q := 12) hC dX12_sees_11 rfl rfl rfl ?_
    refine g_X12_6 (q := 15) hC dX12_sees_12 rfl rfl fl_RX12_23 ?_
    refine v_aload_n (i := 0) (q := 16) hC dX12_sees_15 rfl rfl rfl ?_
    refine gn_10 (q := 19) hC dX12_sees_16 rfl rfl fl_RX12_162 ?_
    refine v_npad (i := q.1) (q := 20) hC dX12_sees_19 rfl rfl (nTy_lt ht c_8).1 ?_
    refine v_iload_n (i := 1) (q := 21) hC dX12_sees_20 rfl rfl rfl ?_
    refine v_iload_n (i := 2) (q := 22) hC dX12_sees_21 rfl rfl rfl ?_
    refine v_callS (q := 25) (rm := rm_X12_in) hC (c_X12_in hl Θ _ _ _ _) k_X12_in st_yX12_in ml_RX12_46 dX12_sees_22 rfl  rfl rfl (Nat.le_of_ble_eq_true rfl) ⟨Nat.le_of_ble_eq_true rfl, Nat.le_of_ble_eq_true rfl⟩ ⟨Nat.le_of_ble_eq_true rfl, Nat.le_of_ble_eq_true rfl⟩ (fR_k ?_) fR_x (Nat.le_of_ble_eq_true rfl) (Nat.le_of_ble_eq_true rfl)
    try dsimp only [Option.toList, List.cons_append, List.nil_append]
    refine v_ifb_eq (q := 32) (q2 := 28) hC dX12_sees_25 (by decide) rfl (fun c_25 => ?_) (fun c_25 => ?_)
    · refine v_iconst (q := 33) (v := 0) hC dX12_sees_32 rfl (by decide) ?_
      refine v_iret hC dX12_sees_33 hr (by first | rfl | exact nar_b) ?_ (Nat.le_of_ble_eq_true rfl) (Nat.le_of_ble_eq_true rfl)
      exact ⟨by simp_all [nSee, b2i, ← Int32.not_le], rfl⟩
    · refine v_iconst (q := 29) (v := 1) hC dX12_sees_28 rfl (by decide) ?_
      refine v_goto (q := 33) hC dX12_sees_29 (by decide) ?_
      refine v_iret hC dX12_sees_33 hr (by first | rfl | exact nar_b) ?_ (Nat.le_of_ble_eq_true rfl) (Nat.le_of_ble_eq_true rfl)
      exact ⟨by simp_all [nSee, b2i, ← Int32.not_le], rfl⟩
def nSg (G : GS) (x : Int32) (q : nT) : Bool × nT := if nSee G q.1 x x = true then (true, (q.1 + 1, q.2)) else (false, q)
theorem nSg_ty {G : GS} {x : Int32} {q : nT} (h : nTy G q.1) : nTy G (nSg G x q).2.1 := by
  unfold nSg
  by_cases h2 : nSee G q.1 x x = true
  · rw [if_pos h2]; exact (nSee_ty h h2).2
  · rw [if_neg h2]; exact h
theorem nSg_pa {G : GS} {x : Int32} {q : nT} : (nSg G x q).2.2 = q.2 := by
  unfold nSg
  by_cases h2 : nSee G q.1 x x = true
  · rw [if_pos h2]
  · rw [if_neg h2]
set_option maxHeartbeats 4000000 in
set_option maxRecDepth 20000 in
theorem c_X12_sign {l : Launch} (hl : l.stackTraces = false) (Θ : cTH) (x : Int32) (q : nT) (G : GS) (ht : nTy G q.1) : Ct l yX12_sign cX12_sign 3 (some .boolean) rm_X12_sign Θ [.ref (tR Θ 0 29), .int x] (nP G q) (fR (some (.int (b2i (nSg G x q).1))) (nP G (nSg G x q).2)) := by
  refine ct_of (LS := [some (.ref (tR Θ 0 29)), some (.int x), none]) hl (by decide +kernel) rfl (Nat.le_of_ble_eq_true rfl) rfl ?_
  intro p e s m args below meth c hC hr
  rcases (Bool.eq_false_or_eq_true (nSee G q.1 x x)).symm with h | h
  ·
    refine v_aload_n (i := 0) (q := 1) hC dX12_sign_0 rfl rfl rfl ?_
    refine v_iload_n (i := 1) (q := 2) hC dX12_sign_1 rfl rfl rfl ?_
    refine v_iload_n (i := 1) (q := 3) hC dX12_sign_2 rfl rfl rfl ?_
    refine v_callV (q := 6) (rm := rm_X12_sees) hC (c_X12_sees hl Θ x x q G ht) k_X12_sees im_yX12_sees se_yX12_sees ml_RX12_165 dX12_sign_3 rfl rfl rfl rfl rfl rfl (Nat.le_of_ble_eq_true rfl) ⟨Nat.le_of_ble_eq_true rfl, Nat.le_of_ble_eq_true rfl⟩ ⟨Nat.le_of_ble_eq_true rfl, Nat.le_of_ble_eq_true rfl⟩ (fR_k ?_) fR_x (Nat.le_of_ble_eq_true rfl) (Nat.le_of_ble_eq_true rfl)
    try dsimp only [Option.toList, List.cons_append, List.nil_append]
    rw [h]
    refine v_istore_n (i := 2) (q := 7) hC dX12_sign_6 rfl rfl (lvc rfl) (Nat.le_of_ble_eq_true rfl) (Nat.le_of_ble_eq_true rfl) rfl ?_
    refine v_aload_n (i := 0) (q := 8) hC dX12_sign_7 rfl rfl rfl ?_
    refine v_dup (q := 9) hC dX12_sign_8 rfl rfl ?_
    refine gn_10 (q := 12) hC dX12_sign_9 rfl rfl fl_RX12_162 ?_
    refine v_iload_n (i := 2) (q := 13) hC dX12_sign_12 rfl rfl rfl ?_
    refine v_if_eq (q := 20) (q2 := 16) hC dX12_sign_13 (by decide) rfl (fun c_13 => ?_) (fun c_13 => ?_)
    · refine v_iconst (q := 21) (v := 0) hC dX12_sign_20 rfl (by decide) ?_
      refine v_iadd (q := 22) hC dX12_sign_21 rfl ?_
      rw [Int32.add_zero]
      refine pn_10 (q := 25) hC dX12_sign_22 rfl rfl fl_RX12_162 ?_
      refine v_iload_n (i := 2) (q := 26) hC dX12_sign_25 rfl rfl rfl ?_
      refine v_iret hC dX12_sign_26 hr (by first | rfl | exact nar_b) ?_ (Nat.le_of_ble_eq_true rfl) (Nat.le_of_ble_eq_true rfl)
      rw [nSg, if_neg (by rw [h]; decide)]
      exact ⟨rfl, rfl⟩
    · exact absurd rfl c_13
  ·
    refine v_aload_n (i := 0) (q := 1) hC dX12_sign_0 rfl rfl rfl ?_
    refine v_iload_n (i := 1) (q := 2) hC dX12_sign_1 rfl rfl rfl ?_
    refine v_iload_n (i := 1) (q := 3) hC dX12_sign_2 rfl rfl rfl ?_
    refine v_callV (q := 6) (rm := rm_X12_sees) hC (c_X12_sees hl Θ x x q G ht) k_X12_sees im_yX12_sees se_yX12_sees ml_RX12_165 dX12_sign_3 rfl rfl rfl rfl rfl rfl (Nat.le_of_ble_eq_true rfl) ⟨Nat.le_of_ble_eq_true rfl, Nat.le_of_ble_eq_true rfl⟩ ⟨Nat.le_of_ble_eq_true rfl, Nat.le_of_ble_eq_true rfl⟩ (fR_k ?_) fR_x (Nat.le_of_ble_eq_true rfl) (Nat.le_of_ble_eq_true rfl)
    try dsimp only [Option.toList, List.cons_append, List.nil_append]
    rw [h]
    refine v_istore_n (i := 2) (q := 7) hC dX12_sign_6 rfl rfl (lvc rfl) (Nat.le_of_ble_eq_true rfl) (Nat.le_of_ble_eq_true rfl) rfl ?_
    refine v_aload_n (i := 0) (q := 8) hC dX12_sign_7 rfl rfl rfl ?_
    refine v_dup (q := 9) hC dX12_sign_8 rfl rfl ?_
    refine gn_10 (q := 12) hC dX12_sign_9 rfl rfl fl_RX12_162 ?_
    refine v_iload_n (i := 2) (q := 13) hC dX12_sign_12 rfl rfl rfl ?_
    refine v_if_eq (q := 20) (q2 := 16) hC dX12_sign_13 (by decide) rfl (fun c_13 => ?_) (fun c_13 => ?_)
    · exact absurd c_13 (by decide)
    · refine v_iconst (q := 17) (v := 1) hC dX12_sign_16 rfl (by decide) ?_
      refine v_goto (q := 21) hC dX12_sign_17 (by decide) ?_
      refine v_iadd (q := 22) hC dX12_sign_21 rfl ?_
      rw [nI_1]
      refine pn_10 (q := 25) hC dX12_sign_22 rfl rfl fl_RX12_162 ?_
      refine v_iload_n (i := 2) (q := 26) hC dX12_sign_25 rfl rfl rfl ?_
      refine v_iret hC dX12_sign_26 hr (by first | rfl | exact nar_b) ?_ (Nat.le_of_ble_eq_true rfl) (Nat.le_of_ble_eq_true rfl)
      rw [nSg, if_pos h]
      exact ⟨rfl, rfl⟩
/-- a number -/
def nN0 (G : GS) (q : nT) : Int32 := G.2.1 0 34 q.1 - 48
def nN1 (G : GS) (q : nT) : nT := (q.1 + 1, q.2.1, q.2.2.1, nN0 G q, q.2.2.2.2)
def nNm (G : GS) (mo : Int32) (q : nT) : Bool × nT :=
  if nSee G q.1 48 (48 + (if mo < 9 then mo else 9)) = true then
    (if nN0 G q = 1 ∧ 9 < mo ∧ nSee G (q.1 + 1) 48 (48 + mo - 10) = true then (true, (q.1 + 1 + 1, q.2.1, q.2.2.1, 10 + G.2.1 0 34 (q.1 + 1) - 48, q.2.2.2.2)) else (true, nN1 G q))
  else (false, q)
theorem nNm_ty {G : GS} {mo : Int32} {q : nT} (h : nTy G q.1) : nTy G (nNm G mo q).2.1 := by
  unfold nNm
  by_cases h2 : nSee G q.1 48 (48 + (if mo < 9 then mo else 9)) = true
  · rw [if_pos h2]
    have h3 := (nSee_ty h h2).2
    by_cases h4 : nN0 G q = 1 ∧ 9 < mo ∧ nSee G (q.1 + 1) 48 (48 + mo - 10) = true
    · rw [if_pos h4]
      exact (nSee_ty h3 h4.2.2).2
    · rw [if_neg h4]
      exact h3
  · rw [if_neg h2]
    exact h
theorem nNm_pa {G : GS} {mo : Int32} {q : nT} : (nNm G mo q).2.2.2.1 = q.2.2.1 := by
  unfold nNm
  by_cases h2 : nSee G q.1 48 (48 + (if mo < 9 then mo else 9)) = true
  · rw [if_pos h2]
    by_cases h4 : nN0 G q = 1 ∧ 9 < mo ∧ nSee G (q.1 + 1) 48 (48 + mo - 10) = true
    · rw [if_pos h4]
    · rw [if_neg h4]; rfl
  · rw [if_neg h2]
set_option maxHeartbeats 4000000 in
set_option maxRecDepth 20000 in
theorem c_X12_number {l : Launch} (hl : l.stackTraces = false) (Θ : cTH) (mo : Int32) (q : nT) (G : GS) (ht : nTy G q.1) : Ct l yX12_number cX12_number 2 (some .boolean) rm_X12_number Θ [.ref (tR Θ 0 29), .int mo] (nP G q) (fR (some (.int (b2i (nNm G mo q).1))) (nP G (nNm G mo q).2)) := by
  refine ct_of (LS := [some (.ref (tR Θ 0 29)), some (.int mo)]) hl (by decide +kernel) rfl (Nat.le_of_ble_eq_true rfl) rfl ?_
  intro p e s m args below meth c hC hr
  have L : ∀ x : Int32, x = (if mo < 9 then mo else 9) → V p l e rm_X12_number s m args below meth c 2 Θ (fR (some (.int (b2i (nNm G mo q).1))) (nP G (nNm G mo q).2)) 0 0 0 0 17 [some (.ref (tR Θ 0 29)), some (.int mo)] [.int x, .int 48, .int 48, .ref (tR Θ 0 29)] (nP G q) := by
    intro x hx
    refine v_iadd (q := 18) hC dX12_number_17 rfl ?_
    refine v_callV (q := 21) (rm := rm_X12_sees) hC (c_X12_sees hl Θ 48 (48 + x) q G ht) k_X12_sees im_yX12_sees se_yX12_sees ml_RX12_165 dX12_number_18 rfl rfl rfl rfl rfl rfl (Nat.le_of_ble_eq_true rfl) ⟨Nat.le_of_ble_eq_true rfl, Nat.le_of_ble_eq_true rfl⟩ ⟨Nat.le_of_ble_eq_true rfl, Nat.le_of_ble_eq_true rfl⟩ (fR_k ?_) fR_x (Nat.le_of_ble_eq_true rfl) (Nat.le_of_ble_eq_true rfl)
    try dsimp only [Option.toList, List.cons_append, List.nil_append]
    refine v_ifb_ne (q := 26) (q2 := 24) hC dX12_number_21 (by decide) rfl (fun c_21 => ?_) (fun c_21 => ?_)
    · refine v_aload_n (i := 0) (q := 27) hC dX12_number_26 rfl rfl rfl ?_
      refine v_aload_n (i := 0) (q := 28) hC dX12_number_27 rfl rfl rfl ?_
      refine g_X12_6 (q := 31) hC dX12_number_28 rfl rfl fl_RX12_23 ?_
      refine v_aload_n (i := 0) (q := 32) hC dX12_number_31 rfl rfl rfl ?_
      refine gn_10 (q := 35) hC dX12_number_32 rfl rfl fl_RX12_162 ?_
      refine v_npad (i := q.1) (q := 36) hC dX12_number_35 rfl rfl (nSee_ty ht c_21).1 ?_
      refine v_bipush (q := 38) (v := 48) hC dX12_number_36 rfl (by decide) ?_
      refine v_isub (q := 39) hC dX12_number_38 rfl ?_
      refine pn_13 (q := 42) hC dX12_number_39 rfl rfl fl_RX12_168 ?_
      refine v_aload_n (i := 0) (q := 43) hC dX12_number_42 rfl rfl rfl ?_
      refine v_dup (q := 44) hC dX12_number_43 rfl rfl ?_
      refine gn_10 (q := 47) hC dX12_number_44 rfl rfl fl_RX12_162 ?_
      refine v_iconst (q := 48) (v := 1) hC dX12_number_47 rfl (by decide) ?_
      refine v_iadd (q := 49) hC dX12_number_48 rfl ?_
      rw [nI_1]
      refine pn_10 (q := 52) hC dX12_number_49 rfl rfl fl_RX12_162 ?_
      refine v_aload_n (i := 0) (q := 53) hC dX12_number_52 rfl rfl rfl ?_
      refine gn_13 (q := 56) hC dX12_number_53 rfl rfl fl_RX12_168 ?_
      refine v_iconst (q := 57) (v := 1) hC dX12_number_56 rfl (by decide) ?_
      refine v_icmp_ne (q := 111) (q2 := 60) hC dX12_number_57 (by decide) rfl (fun c_57 => ?_) (fun c_57 => ?_)
      · refine v_iconst (q := 112) (v := 1) hC dX12_number_111 rfl (by decide) ?_
        refine v_iret hC dX12_number_112 hr (by first | rfl | exact nar_b) ?_ (Nat.le_of_ble_eq_true rfl) (Nat.le_of_ble_eq_true rfl)
        rw [nNm, ← hx, if_pos c_21]
        first | (rw [if_pos ⟨c_57, Int32.not_le.mp c_63, c_79⟩]; exact ⟨rfl, rfl⟩) | (rw [if_neg (fun z => absurd (c_79.symm.trans z.2.2) (by decide))]; exact ⟨rfl, rfl⟩) | (rw [if_neg (fun z => Int32.not_lt.mpr c_63 z.2.1)]; exact ⟨rfl, rfl⟩) | (rw [if_neg (fun z => c_57 z.1)]; exact ⟨rfl, rfl⟩)
      · refine v_iload_n (i := 1) (q := 61) hC dX12_number_60 rfl rfl rfl ?_
        refine v_bipush (q := 63) (v := 9) hC dX12_number_61 rfl (by decide) ?_
        refine v_icmp_le (q := 111) (q2 := 66) hC dX12_number_63 (by decide) rfl (fun c_63 => ?_) (fun c_63 => ?_)
        · refine v_iconst (q := 112) (v := 1) hC dX12_number_111 rfl (by decide) ?_
          refine v_iret hC dX12_number_112 hr (by first | rfl | exact nar_b) ?_ (Nat.le_of_ble_eq_true rfl) (Nat.le_of_ble_eq_true rfl)
          rw [nNm, ← hx, if_pos c_21]
          first | (rw [if_pos ⟨c_57, Int32.not_le.mp c_63, c_79⟩]; exact ⟨rfl, rfl⟩) | (rw [if_neg (fun z => absurd (c_79.symm.trans z.2.2) (by decide))]; exact ⟨rfl, rfl⟩) | (rw [if_neg (fun z => Int32.not_lt.mpr c_63 z.2.1)]; exact ⟨rfl, rfl⟩) | (rw [if_neg (fun z => c_57 z.1)]; exact ⟨rfl, rfl⟩)
        · refine v_aload_n (i := 0) (q := 67) hC dX12_number_66 rfl rfl rfl ?_
          refine v_bipush (q := 69) (v := 48) hC dX12_number_67 rfl (by decide) ?_
          refine v_bipush (q := 71) (v := 48) hC dX12_number_69 rfl (by decide) ?_
          refine v_iload_n (i := 1) (q := 72) hC dX12_number_71 rfl rfl rfl ?_
          refine v_iadd (q := 73) hC dX12_number_72 rfl ?_
          refine v_bipush (q := 75) (v := 10) hC dX12_number_73 rfl (by decide) ?_
          refine v_isub (q := 76) hC dX12_number_75 rfl ?_
          refine v_callV (q := 79) (rm := rm_X12_sees) hC (c_X12_sees hl Θ 48 (48 + mo - 10) _ G (nSee_ty ht c_21).2) k_X12_sees im_yX12_sees se_yX12_sees ml_RX12_165 dX12_number_76 rfl rfl rfl rfl rfl rfl (Nat.le_of_ble_eq_true rfl) ⟨Nat.le_of_ble_eq_true rfl, Nat.le_of_ble_eq_true rfl⟩ ⟨Nat.le_of_ble_eq_true rfl, Nat.le_of_ble_eq_true rfl⟩ (fR_k ?_) fR_x (Nat.le_of_ble_eq_true rfl) (Nat.le_of_ble_eq_true rfl)
          try dsimp only [Option.toList, List.cons_append, List.nil_append]
          refine v_ifb_eq (q := 111) (q2 := 82) hC dX12_number_79 (by decide) rfl (fun c_79 => ?_) (fun c_79 => ?_)
          · refine v_iconst (q := 112) (v := 1) hC dX12_number_111 rfl (by decide) ?_
            refine v_iret hC dX12_number_112 hr (by first | rfl | exact nar_b) ?_ (Nat.le_of_ble_eq_true rfl) (Nat.le_of_ble_eq_true rfl)
            rw [nNm, ← hx, if_pos c_21]
            first | (rw [if_pos ⟨c_57, Int32.not_le.mp c_63, c_79⟩]; exact ⟨rfl, rfl⟩) | (rw [if_neg (fun z => absurd (c_79.symm.trans z.2.2) (by decide))]; exact ⟨rfl, rfl⟩) | (rw [if_neg (fun z => Int32.not_lt.mpr c_63 z.2.1)]; exact ⟨rfl, rfl⟩) | (rw [if_neg (fun z => c_57 z.1)]; exact ⟨rfl, rfl⟩)
          · refine v_aload_n (i := 0) (q := 83) hC dX12_number_82 rfl rfl rfl ?_
            refine v_bipush (q := 85) (v := 10) hC dX12_number_83 rfl (by decide) ?_
            refine v_aload_n (i := 0) (q := 86) hC dX12_number_85 rfl rfl rfl ?_
            refine g_X12_6 (q := 89) hC dX12_number_86 rfl rfl fl_RX12_23 ?_
            refine v_aload_n (i := 0) (q := 90) hC dX12_number_89 rfl rfl rfl ?_
            refine gn_10 (q := 93) hC dX12_number_90 rfl rfl fl_RX12_162 ?_
            refine v_npad (i := q.1 + 1) (q := 94) hC dX12_number_93 rfl rfl (nSee_ty (nSee_ty ht c_21).2 c_79).1 ?_
            refine v_iadd (q := 95) hC dX12_number_94 rfl ?_
            refine v_bipush (q := 97) (v := 48) hC dX12_number_95 rfl (by decide) ?_
            refine v_isub (q := 98) hC dX12_number_97 rfl ?_
            refine pn_13 (q := 101) hC dX12_number_98 rfl rfl fl_RX12_168 ?_
            refine v_aload_n (i := 0) (q := 102) hC dX12_number_101 rfl rfl rfl ?_
            refine v_dup (q := 103) hC dX12_number_102 rfl rfl ?_
            refine gn_10 (q := 106) hC dX12_number_103 rfl rfl fl_RX12_162 ?_
            refine v_iconst (q := 107) (v := 1) hC dX12_number_106 rfl (by decide) ?_
            refine v_iadd (q := 108) hC dX12_number_107 rfl ?_
            rw [nI_1]
            refine pn_10 (q := 111) hC dX12_number_108 rfl rfl fl_RX12_162 ?_
            refine v_iconst (q := 112) (v := 1) hC dX12_number_111 rfl (by decide) ?_
            refine v_iret hC dX12_number_112 hr (by first | rfl | exact nar_b) ?_ (Nat.le_of_ble_eq_true rfl) (Nat.le_of_ble_eq_true rfl)
            rw [nNm, ← hx, if_pos c_21]
            first | (rw [if_pos ⟨c_57, Int32.not_le.mp c_63, c_79⟩]; exact ⟨rfl, rfl⟩) | (rw [if_neg (fun z => absurd (c_79.symm.trans z.2.2) (by decide))]; exact ⟨rfl, rfl⟩) | (rw [if_neg (fun z => Int32.not_lt.mpr c_63 z.2.1)]; exact ⟨rfl, rfl⟩) | (rw [if_neg (fun z => c_57 z.1)]; exact ⟨rfl, rfl⟩)
    · refine v_iconst (q := 25) (v := 0) hC dX12_number_24 rfl (by decide) ?_
      refine v_iret hC dX12_number_25 hr (by first | rfl | exact nar_b) ?_ (Nat.le_of_ble_eq_true rfl) (Nat.le_of_ble_eq_true rfl)
      rw [nNm, ← hx, if_neg (by rw [c_21]; decide)]
      exact ⟨rfl, rfl⟩
  refine v_aload_n (i := 0) (q := 1) hC dX12_number_0 rfl rfl rfl ?_
  refine v_bipush (q := 3) (v := 48) hC dX12_number_1 rfl (by decide) ?_
  refine v_bipush (q := 5) (v := 48) hC dX12_number_3 rfl (by decide) ?_
  refine v_iload_n (i := 1) (q := 6) hC dX12_number_5 rfl rfl rfl ?_
  refine v_bipush (q := 8) (v := 9) hC dX12_number_6 rfl (by decide) ?_
  refine v_icmp_ge (q := 15) (q2 := 11) hC dX12_number_8 (by decide) rfl (fun c_8 => ?_) (fun c_8 => ?_)
  · refine v_bipush (q := 17) (v := 9) hC dX12_number_15 rfl (by decide) ?_
    first | exact L _ (by rw [if_pos (Int32.not_le.mp c_8)]) | exact L _ (by rw [if_neg (Int32.not_lt.mpr c_8)])
  · refine v_iload_n (i := 1) (q := 12) hC dX12_number_11 rfl rfl rfl ?_
    refine v_goto (q := 17) hC dX12_number_12 (by decide) ?_
    first | exact L _ (by rw [if_pos (Int32.not_le.mp c_8)]) | exact L _ (by rw [if_neg (Int32.not_lt.mpr c_8)])
/-- a place of the part that is being read -/
def nPt (k : Nat) (x : Int32) (q : nT) : nT := (q.1, q.2.1, q.2.2.1, q.2.2.2.1, upd q.2.2.2.2 (5 * q.2.2.1 + k) x)
theorem v_npt_hx {a : Nat} (k : Nat) : (5 : Int32) * nI a + nI k = nI (5 * a + k) := by
  rw [show (5 : Int32) = nI 5 from rfl, nI_mul, nI_add]
def nWu (G : GS) (kind mo : Int32) (q : nT) : Bool × nT := ((nNm G mo q).1, nPt 1 (nPt 0 kind (nNm G mo q).2).2.2.2.1 (nPt 0 kind (nNm G mo q).2))
def nW3 (G : GS) (q : nT) : Bool × nT := if (nSg G 111 q).1 = true then (true, nPt 0 2 (nSg G 111 q).2) else nSg G 97 (nPt 0 3 (nSg G 111 q).2)
def nW2 (G : GS) (q : nT) : Bool × nT := if (nSg G 103 q).1 = true then nWu G 1 7 (nSg G 103 q).2 else nW3 G (nSg G 103 q).2
def nWh (G : GS) (q : nT) : Bool × nT := if (nSg G 117 (nPt 1 0 q)).1 = true then nWu G 0 11 (nSg G 117 (nPt 1 0 q)).2 else nW2 G (nSg G 117 (nPt 1 0 q)).2
theorem nPt_sp (k : Nat) (x : Int32) (q : nT) : (nPt k x q).1 = q.1 := rfl
theorem nPt_pa (k : Nat) (x : Int32) (q : nT) : (nPt k x q).2.2.1 = q.2.2.1 := rfl
theorem nSg_pa2 {G : GS} {x : Int32} {q : nT} : (nSg G x q).2.2.2.1 = q.2.2.1 := by rw [nSg_pa]
theorem nWu_ty {G : GS} {k mo : Int32} {q : nT} (h : nTy G q.1) : nTy G (nWu G k mo q).2.1 := nNm_ty h
theorem nWu_pa {G : GS} {k mo : Int32} {q : nT} : (nWu G k mo q).2.2.2.1 = q.2.2.1 := nNm_pa
theorem nWh_ty {G : GS} {q : nT} (h : nTy G q.1) : nTy G (nWh G q).2.1 := by
  unfold nWh
  have h1 : nTy G (nSg G 117 (nPt 1 0 q)).2.1 := nSg_ty h
  by_cases c1 : (nSg G 117 (nPt 1 0 q)).1 = true
  · rw [if_pos c1]; exact nWu_ty h1
  · rw [if_neg c1]
    unfold nW2
    have h2 : nTy G (nSg G 103 (nSg G 117 (nPt 1 0 q)).2).2.1 := nSg_ty h1
    by_cases c2 : (nSg G 103 (nSg G 117 (nPt 1 0 q)).2).1 = true
    · rw [if_pos c2]; exact nWu_ty h2
    · rw [if_neg c2]
      unfold nW3
      have h3 : nTy G (nSg G 111 (nSg G 103 (nSg G 117 (nPt 1 0 q)).2).2).2.1 := nSg_ty h2
      by_cases c3 : (nSg G 111 (nSg G 103 (nSg G 117 (nPt 1 0 q)).2).2).1 = true
      · rw [if_pos c3]; exact h3
      · rw [if_neg c3]; exact nSg_ty h3
theorem nWh_pa {G : GS} {q : nT} : (nWh G q).2.2.2.1 = q.2.2.1 := by
  unfold nWh
  by_cases c1 : (nSg G 117 (nPt 1 0 q)).1 = true
  · rw [if_pos c1, nWu_pa, nSg_pa2]; rfl
  · rw [if_neg c1]
    unfold nW2
    by_cases c2 : (nSg G 103 (nSg G 117 (nPt 1 0 q)).2).1 = true
    · rw [if_pos c2, nWu_pa, nSg_pa2, nSg_pa2]; rfl
    · rw [if_neg c2]
      unfold nW3
      by_cases c3 : (nSg G 111 (nSg G 103 (nSg G 117 (nPt 1 0 q)).2).2).1 = true
      · rw [if_pos c3, nPt_pa, nSg_pa2, nSg_pa2, nSg_pa2]; rfl
      · rw [if_neg c3, nSg_pa2, nPt_pa, nSg_pa2, nSg_pa2, nSg_pa2]; rfl
set_option maxHeartbeats 4000000 in
set_option maxRecDepth 20000 in
theorem c_X12_whomRead {l : Launch} (hl : l.stackTraces = false) (Θ : cTH) (q : nT) (G : GS) (ht : nTy G q.1) (hp : q.2.2.1 ≤ 5) : Ct l yX12_whomRead cX12_whomRead 3 (some .boolean) rm_X12_whomRead Θ [.ref (tR Θ 0 29)] (nP G q) (fR (some (.int (b2i (nWh G q).1))) (nP G (nWh G q).2)) := by
  refine ct_of (LS := [some (.ref (tR Θ 0 29)), none, none]) hl (by decide +kernel) rfl (Nat.le_of_ble_eq_true rfl) rfl ?_
  intro p e s m args below meth c hC hr
  have L3 : ∀ q2 : nT, nW3 G q2 = nWh G q → nTy G q2.1 → q2.2.2.1 = q.2.2.1 → V p l e rm_X12_whomRead s m args below meth c 3 Θ (fR (some (.int (b2i (nWh G q).1))) (nP G (nWh G q).2)) 0 0 0 0 94 [some (.ref (tR Θ 0 29)), some (.int (5 * nI q.2.2.1)), none] [] (nP G q2) := by
    intro q2 h1 h2 h3
    rw [nW3] at h1
    have h4 : (nSg G 111 q2).2.2.2.1 = q.2.2.1 := by rw [nSg_pa2, h3]
    refine v_aload_n (i := 0) (q := 95) hC dX12_whomRead_94 rfl rfl rfl ?_
    refine v_bipush (q := 97) (v := 111) hC dX12_whomRead_95 rfl (by decide) ?_
    refine v_callV (q := 100) (rm := rm_X12_sign) hC (c_X12_sign hl Θ 111 q2 G h2) k_X12_sign im_yX12_sign se_yX12_sign ml_RX12_174 dX12_whomRead_97 rfl rfl rfl rfl rfl rfl (Nat.le_of_ble_eq_true rfl) ⟨Nat.le_of_ble_eq_true rfl, Nat.le_of_ble_eq_true rfl⟩ ⟨Nat.le_of_ble_eq_true rfl, Nat.le_of_ble_eq_true rfl⟩ (fR_k ?_) fR_x (Nat.le_of_ble_eq_true rfl) (Nat.le_of_ble_eq_true rfl)
    try dsimp only [Option.toList, List.cons_append, List.nil_append]
    refine v_istore_n (i := 2) (q := 101) hC dX12_whomRead_100 rfl rfl (lvc rfl) (Nat.le_of_ble_eq_true rfl) (Nat.le_of_ble_eq_true rfl) rfl ?_
    refine v_aload_n (i := 0) (q := 102) hC dX12_whomRead_101 rfl rfl rfl ?_
    refine g_X12_14 (q := 105) hC dX12_whomRead_102 rfl rfl fl_RX12_32 ?_
    refine v_iload_n (i := 1) (q := 106) hC dX12_whomRead_105 rfl rfl rfl ?_
    refine v_iconst (q := 107) (v := 0) hC dX12_whomRead_106 rfl (by decide) ?_
    refine v_iadd (q := 108) hC dX12_whomRead_107 rfl ?_
    refine v_iload_n (i := 2) (q := 109) hC dX12_whomRead_108 rfl rfl rfl ?_
    refine v_if_eq (q := 116) (q2 := 112) hC dX12_whomRead_109 (by decide) rfl (fun c_109 => ?_) (fun c_109 => ?_)
    · refine v_iconst (q := 117) (v := 3) hC dX12_whomRead_116 rfl (by decide) ?_
      refine v_nptw (i := 5 * (nSg G 111 q2).2.2.2.1 + 0) (q := 118) hC dX12_whomRead_117 rfl (by rw [h4]; exact v_npt_hx 0) (by omega) ?_
      refine v_iload_n (i := 2) (q := 119) hC dX12_whomRead_118 rfl rfl rfl ?_
      refine v_if_ne (q := 131) (q2 := 122) hC dX12_whomRead_119 (by decide) rfl (fun c_119 => ?_) (fun c_119 => ?_)
      · first
        | first | exact absurd c_109 c_119 | exact absurd c_119 c_109
        |
          refine v_iconst (q := 132) (v := 1) hC dX12_whomRead_131 rfl (by decide) ?_
          refine v_goto (q := 136) hC dX12_whomRead_132 (by decide) ?_
          refine v_iret hC dX12_whomRead_136 hr (by first | rfl | exact nar_b) ?_ (Nat.le_of_ble_eq_true rfl) (Nat.le_of_ble_eq_true rfl)
          first
            | (rw [if_pos (b2i_ne0.mp c_119)] at h1
               rw [← h1]; exact ⟨rfl, rfl⟩)
            | (rw [if_neg (by rw [b2i_eq0.mp c_119]; decide)] at h1
               rw [← h1]; exact ⟨by rw [show (nSg G 97 (nPt 0 3 (nSg G 111 q2).2)).1 = _ from c_128]; rfl, rfl⟩)
      · first
        | first | exact absurd c_109 c_119 | exact absurd c_119 c_109
        |
          refine v_aload_n (i := 0) (q := 123) hC dX12_whomRead_122 rfl rfl rfl ?_
          refine v_bipush (q := 125) (v := 97) hC dX12_whomRead_123 rfl (by decide) ?_
          refine v_callV (q := 128) (rm := rm_X12_sign) hC (c_X12_sign hl Θ 97 (nPt 0 3 (nSg G 111 q2).2) G (nSg_ty h2)) k_X12_sign im_yX12_sign se_yX12_sign ml_RX12_174 dX12_whomRead_125 rfl rfl rfl rfl rfl rfl (Nat.le_of_ble_eq_true rfl) ⟨Nat.le_of_ble_eq_true rfl, Nat.le_of_ble_eq_true rfl⟩ ⟨Nat.le_of_ble_eq_true rfl, Nat.le_of_ble_eq_true rfl⟩ (fR_k ?_) fR_x (Nat.le_of_ble_eq_true rfl) (Nat.le_of_ble_eq_true rfl)
          try dsimp only [Option.toList, List.cons_append, List.nil_append]
          refine v_ifb_eq (q := 135) (q2 := 131) hC dX12_whomRead_128 (by decide) rfl (fun c_128 => ?_) (fun c_128 => ?_)
          · refine v_iconst (q := 136) (v := 0) hC dX12_whomRead_135 rfl (by decide) ?_
            refine v_iret hC dX12_whomRead_136 hr (by first | rfl | exact nar_b) ?_ (Nat.le_of_ble_eq_true rfl) (Nat.le_of_ble_eq_true rfl)
            first
              | (rw [if_pos (b2i_ne0.mp c_119)] at h1
                 rw [← h1]; exact ⟨rfl, rfl⟩)
              | (rw [if_neg (by rw [b2i_eq0.mp c_119]; decide)] at h1
                 rw [← h1]; exact ⟨by rw [show (nSg G 97 (nPt 0 3 (nSg G 111 q2).2)).1 = _ from c_128]; rfl, rfl⟩)
          · refine v_iconst (q := 132) (v := 1) hC dX12_whomRead_131 rfl (by decide) ?_
            refine v_goto (q := 136) hC dX12_whomRead_132 (by decide) ?_
            refine v_iret hC dX12_whomRead_136 hr (by first | rfl | exact nar_b) ?_ (Nat.le_of_ble_eq_true rfl) (Nat.le_of_ble_eq_true rfl)
            first
              | (rw [if_pos (b2i_ne0.mp c_119)] at h1
                 rw [← h1]; exact ⟨rfl, rfl⟩)
              | (rw [if_neg (by rw [b2i_eq0.mp c_119]; decide)] at h1
                 rw [← h1]; exact ⟨by rw [show (nSg G 97 (nPt 0 3 (nSg G 111 q2).2)).1 = _ from c_128]; rfl, rfl⟩)
    · refine v_iconst (q := 113) (v := 2) hC dX12_whomRead_112 rfl (by decide) ?_
      refine v_goto (q := 117) hC dX12_whomRead_113 (by decide) ?_
      refine v_nptw (i := 5 * (nSg G 111 q2).2.2.2.1 + 0) (q := 118) hC dX12_whomRead_117 rfl (by rw [h4]; exact v_npt_hx 0) (by omega) ?_
      refine v_iload_n (i := 2) (q := 119) hC dX12_whomRead_118 rfl rfl rfl ?_
      refine v_if_ne (q := 131) (q2 := 122) hC dX12_whomRead_119 (by decide) rfl (fun c_119 => ?_) (fun c_119 => ?_)
      · first
        | first | exact absurd c_109 c_119 | exact absurd c_119 c_109
        |
          refine v_iconst (q := 132) (v := 1) hC dX12_whomRead_131 rfl (by decide) ?_
          refine v_goto (q := 136) hC dX12_whomRead_132 (by decide) ?_
          refine v_iret hC dX12_whomRead_136 hr (by first | rfl | exact nar_b) ?_ (Nat.le_of_ble_eq_true rfl) (Nat.le_of_ble_eq_true rfl)
          first
            | (rw [if_pos (b2i_ne0.mp c_119)] at h1
               rw [← h1]; exact ⟨rfl, rfl⟩)
            | (rw [if_neg (by rw [b2i_eq0.mp c_119]; decide)] at h1
               rw [← h1]; exact ⟨by rw [show (nSg G 97 (nPt 0 3 (nSg G 111 q2).2)).1 = _ from c_128]; rfl, rfl⟩)
      · first
        | first | exact absurd c_109 c_119 | exact absurd c_119 c_109
        |
          refine v_aload_n (i := 0) (q := 123) hC dX12_whomRead_122 rfl rfl rfl ?_
          refine v_bipush (q := 125) (v := 97) hC dX12_whomRead_123 rfl (by decide) ?_
          refine v_callV (q := 128) (rm := rm_X12_sign) hC (c_X12_sign hl Θ 97 (nPt 0 3 (nSg G 111 q2).2) G (nSg_ty h2)) k_X12_sign im_yX12_sign se_yX12_sign ml_RX12_174 dX12_whomRead_125 rfl rfl rfl rfl rfl rfl (Nat.le_of_ble_eq_true rfl) ⟨Nat.le_of_ble_eq_true rfl, Nat.le_of_ble_eq_true rfl⟩ ⟨Nat.le_of_ble_eq_true rfl, Nat.le_of_ble_eq_true rfl⟩ (fR_k ?_) fR_x (Nat.le_of_ble_eq_true rfl) (Nat.le_of_ble_eq_true rfl)
          try dsimp only [Option.toList, List.cons_append, List.nil_append]
          refine v_ifb_eq (q := 135) (q2 := 131) hC dX12_whomRead_128 (by decide) rfl (fun c_128 => ?_) (fun c_128 => ?_)
          · refine v_iconst (q := 136) (v := 0) hC dX12_whomRead_135 rfl (by decide) ?_
            refine v_iret hC dX12_whomRead_136 hr (by first | rfl | exact nar_b) ?_ (Nat.le_of_ble_eq_true rfl) (Nat.le_of_ble_eq_true rfl)
            first
              | (rw [if_pos (b2i_ne0.mp c_119)] at h1
                 rw [← h1]; exact ⟨rfl, rfl⟩)
              | (rw [if_neg (by rw [b2i_eq0.mp c_119]; decide)] at h1
                 rw [← h1]; exact ⟨by rw [show (nSg G 97 (nPt 0 3 (nSg G 111 q2).2)).1 = _ from c_128]; rfl, rfl⟩)
          · refine v_iconst (q := 132) (v := 1) hC dX12_whomRead_131 rfl (by decide) ?_
            refine v_goto (q := 136) hC dX12_whomRead_132 (by decide) ?_
            refine v_iret hC dX12_whomRead_136 hr (by first | rfl | exact nar_b) ?_ (Nat.le_of_ble_eq_true rfl) (Nat.le_of_ble_eq_true rfl)
            first
              | (rw [if_pos (b2i_ne0.mp c_119)] at h1
                 rw [← h1]; exact ⟨rfl, rfl⟩)
              | (rw [if_neg (by rw [b2i_eq0.mp c_119]; decide)] at h1
                 rw [← h1]; exact ⟨by rw [show (nSg G 97 (nPt 0 3 (nSg G 111 q2).2)).1 = _ from c_128]; rfl, rfl⟩)
  have L2 : ∀ q2 : nT, nW2 G q2 = nWh G q → nTy G q2.1 → q2.2.2.1 = q.2.2.1 → V p l e rm_X12_whomRead s m args below meth c 3 Θ (fR (some (.int (b2i (nWh G q).1))) (nP G (nWh G q).2)) 0 0 0 0 55 [some (.ref (tR Θ 0 29)), some (.int (5 * nI q.2.2.1)), none] [] (nP G q2) := by
    intro q2 h1 h2 h3
    rw [nW2] at h1
    have h4 : (nNm G 7 (nSg G 103 q2).2).2.2.2.1 = q.2.2.1 := by rw [nNm_pa, nSg_pa2, h3]
    refine v_aload_n (i := 0) (q := 56) hC dX12_whomRead_55 rfl rfl rfl ?_
    refine v_bipush (q := 58) (v := 103) hC dX12_whomRead_56 rfl (by decide) ?_
    refine v_callV (q := 61) (rm := rm_X12_sign) hC (c_X12_sign hl Θ 103 q2 G h2) k_X12_sign im_yX12_sign se_yX12_sign ml_RX12_174 dX12_whomRead_58 rfl rfl rfl rfl rfl rfl (Nat.le_of_ble_eq_true rfl) ⟨Nat.le_of_ble_eq_true rfl, Nat.le_of_ble_eq_true rfl⟩ ⟨Nat.le_of_ble_eq_true rfl, Nat.le_of_ble_eq_true rfl⟩ (fR_k ?_) fR_x (Nat.le_of_ble_eq_true rfl) (Nat.le_of_ble_eq_true rfl)
    try dsimp only [Option.toList, List.cons_append, List.nil_append]
    refine v_ifb_eq (q := 94) (q2 := 64) hC dX12_whomRead_61 (by decide) rfl (fun c_61 => ?_) (fun c_61 => ?_)
    · rw [if_neg (by rw [c_61]; decide)] at h1
      exact L3 _ h1 (nSg_ty h2) (by rw [nSg_pa2, h3])
    · refine v_aload_n (i := 0) (q := 65) hC dX12_whomRead_64 rfl rfl rfl ?_
      refine v_bipush (q := 67) (v := 7) hC dX12_whomRead_65 rfl (by decide) ?_
      refine v_callV (q := 70) (rm := rm_X12_number) hC (c_X12_number hl Θ 7 _ G (nSg_ty h2)) k_X12_number im_yX12_number se_yX12_number ml_RX12_177 dX12_whomRead_67 rfl rfl rfl rfl rfl rfl (Nat.le_of_ble_eq_true rfl) ⟨Nat.le_of_ble_eq_true rfl, Nat.le_of_ble_eq_true rfl⟩ ⟨Nat.le_of_ble_eq_true rfl, Nat.le_of_ble_eq_true rfl⟩ (fR_k ?_) fR_x (Nat.le_of_ble_eq_true rfl) (Nat.le_of_ble_eq_true rfl)
      try dsimp only [Option.toList, List.cons_append, List.nil_append]
      refine v_istore_n (i := 2) (q := 71) hC dX12_whomRead_70 rfl rfl (lvc rfl) (Nat.le_of_ble_eq_true rfl) (Nat.le_of_ble_eq_true rfl) rfl ?_
      refine v_aload_n (i := 0) (q := 72) hC dX12_whomRead_71 rfl rfl rfl ?_
      refine g_X12_14 (q := 75) hC dX12_whomRead_72 rfl rfl fl_RX12_32 ?_
      refine v_iload_n (i := 1) (q := 76) hC dX12_whomRead_75 rfl rfl rfl ?_
      refine v_iconst (q := 77) (v := 0) hC dX12_whomRead_76 rfl (by decide) ?_
      refine v_iadd (q := 78) hC dX12_whomRead_77 rfl ?_
      refine v_iconst (q := 79) (v := 1) hC dX12_whomRead_78 rfl (by decide) ?_
      refine v_nptw (i := 5 * (nNm G 7 (nSg G 103 q2).2).2.2.2.1 + 0) (q := 80) hC dX12_whomRead_79 rfl (by rw [h4]; exact v_npt_hx 0) (by omega) ?_
      refine v_aload_n (i := 0) (q := 81) hC dX12_whomRead_80 rfl rfl rfl ?_
      refine g_X12_14 (q := 84) hC dX12_whomRead_81 rfl rfl fl_RX12_32 ?_
      refine v_iload_n (i := 1) (q := 85) hC dX12_whomRead_84 rfl rfl rfl ?_
      refine v_iconst (q := 86) (v := 1) hC dX12_whomRead_85 rfl (by decide) ?_
      refine v_iadd (q := 87) hC dX12_whomRead_86 rfl ?_
      refine v_aload_n (i := 0) (q := 88) hC dX12_whomRead_87 rfl rfl rfl ?_
      refine gn_13 (q := 91) hC dX12_whomRead_88 rfl rfl fl_RX12_168 ?_
      refine v_nptw (i := 5 * (nNm G 7 (nSg G 103 q2).2).2.2.2.1 + 1) (q := 92) hC dX12_whomRead_91 rfl (by rw [h4]; exact v_npt_hx 1) (by omega) ?_
      refine v_iload_n (i := 2) (q := 93) hC dX12_whomRead_92 rfl rfl rfl ?_
      refine v_iret hC dX12_whomRead_93 hr (by first | rfl | exact nar_b) ?_ (Nat.le_of_ble_eq_true rfl) (Nat.le_of_ble_eq_true rfl)
      rw [if_pos c_61] at h1
      rw [← h1]
      exact ⟨rfl, rfl⟩
  refine v_iconst (q := 1) (v := 5) hC dX12_whomRead_0 rfl (by decide) ?_
  refine v_aload_n (i := 0) (q := 2) hC dX12_whomRead_1 rfl rfl rfl ?_
  refine gn_12 (q := 5) hC dX12_whomRead_2 rfl rfl fl_RX12_171 ?_
  refine v_imul (q := 6) hC dX12_whomRead_5 rfl ?_
  refine v_istore_n (i := 1) (q := 7) hC dX12_whomRead_6 rfl rfl (lvc rfl) (Nat.le_of_ble_eq_true rfl) (Nat.le_of_ble_eq_true rfl) rfl ?_
  refine v_aload_n (i := 0) (q := 8) hC dX12_whomRead_7 rfl rfl rfl ?_
  refine g_X12_14 (q := 11) hC dX12_whomRead_8 rfl rfl fl_RX12_32 ?_
  refine v_iload_n (i := 1) (q := 12) hC dX12_whomRead_11 rfl rfl rfl ?_
  refine v_iconst (q := 13) (v := 1) hC dX12_whomRead_12 rfl (by decide) ?_
  refine v_iadd (q := 14) hC dX12_whomRead_13 rfl ?_
  refine v_iconst (q := 15) (v := 0) hC dX12_whomRead_14 rfl (by decide) ?_
  refine v_nptw (i := 5 * q.2.2.1 + 1) (q := 16) hC dX12_whomRead_15 rfl (v_npt_hx 1) (by omega) ?_
  refine v_aload_n (i := 0) (q := 17) hC dX12_whomRead_16 rfl rfl rfl ?_
  refine v_bipush (q := 19) (v := 117) hC dX12_whomRead_17 rfl (by decide) ?_
  refine v_callV (q := 22) (rm := rm_X12_sign) hC (c_X12_sign hl Θ 117 (nPt 1 0 q) G ht) k_X12_sign im_yX12_sign se_yX12_sign ml_RX12_174 dX12_whomRead_19 rfl rfl rfl rfl rfl rfl (Nat.le_of_ble_eq_true rfl) ⟨Nat.le_of_ble_eq_true rfl, Nat.le_of_ble_eq_true rfl⟩ ⟨Nat.le_of_ble_eq_true rfl, Nat.le_of_ble_eq_true rfl⟩ (fR_k ?_) fR_x (Nat.le_of_ble_eq_true rfl) (Nat.le_of_ble_eq_true rfl)
  try dsimp only [Option.toList, List.cons_append, List.nil_append]
  refine v_ifb_eq (q := 55) (q2 := 25) hC dX12_whomRead_22 (by decide) rfl (fun c_22 => ?_) (fun c_22 => ?_)
  · exact L2 (nSg G 117 (nPt 1 0 q)).2 (by rw [nWh, if_neg (by rw [c_22]; decide)]) (nSg_ty ht) (by rw [nSg_pa2]; rfl)
  · refine v_aload_n (i := 0) (q := 26) hC dX12_whomRead_25 rfl rfl rfl ?_
    refine v_bipush (q := 28) (v := 11) hC dX12_whomRead_26 rfl (by decide) ?_
    refine v_callV (q := 31) (rm := rm_X12_number) hC (c_X12_number hl Θ 11 (nSg G 117 (nPt 1 0 q)).2 G (nSg_ty ht)) k_X12_number im_yX12_number se_yX12_number ml_RX12_177 dX12_whomRead_28 rfl rfl rfl rfl rfl rfl (Nat.le_of_ble_eq_true rfl) ⟨Nat.le_of_ble_eq_true rfl, Nat.le_of_ble_eq_true rfl⟩ ⟨Nat.le_of_ble_eq_true rfl, Nat.le_of_ble_eq_true rfl⟩ (fR_k ?_) fR_x (Nat.le_of_ble_eq_true rfl) (Nat.le_of_ble_eq_true rfl)
    try dsimp only [Option.toList, List.cons_append, List.nil_append]
    refine v_istore_n (i := 2) (q := 32) hC dX12_whomRead_31 rfl rfl (lvc rfl) (Nat.le_of_ble_eq_true rfl) (Nat.le_of_ble_eq_true rfl) rfl ?_
    refine v_aload_n (i := 0) (q := 33) hC dX12_whomRead_32 rfl rfl rfl ?_
    refine g_X12_14 (q := 36) hC dX12_whomRead_33 rfl rfl fl_RX12_32 ?_
    refine v_iload_n (i := 1) (q := 37) hC dX12_whomRead_36 rfl rfl rfl ?_
    refine v_iconst (q := 38) (v := 0) hC dX12_whomRead_37 rfl (by decide) ?_
    refine v_iadd (q := 39) hC dX12_whomRead_38 rfl ?_
    refine v_iconst (q := 40) (v := 0) hC dX12_whomRead_39 rfl (by decide) ?_
    refine v_nptw (i := 5 * (nNm G 11 (nSg G 117 (nPt 1 0 q)).2).2.2.2.1 + 0) (q := 41) hC dX12_whomRead_40 rfl (by rw [nNm_pa, nSg_pa2]; exact v_npt_hx 0) (by rw [nNm_pa, nSg_pa2, nPt_pa]; omega) ?_
    refine v_aload_n (i := 0) (q := 42) hC dX12_whomRead_41 rfl rfl rfl ?_
    refine g_X12_14 (q := 45) hC dX12_whomRead_42 rfl rfl fl_RX12_32 ?_
    refine v_iload_n (i := 1) (q := 46) hC dX12_whomRead_45 rfl rfl rfl ?_
    refine v_iconst (q := 47) (v := 1) hC dX12_whomRead_46 rfl (by decide) ?_
    refine v_iadd (q := 48) hC dX12_whomRead_47 rfl ?_
    refine v_aload_n (i := 0) (q := 49) hC dX12_whomRead_48 rfl rfl rfl ?_
    refine gn_13 (q := 52) hC dX12_whomRead_49 rfl rfl fl_RX12_168 ?_
    refine v_nptw (i := 5 * (nNm G 11 (nSg G 117 (nPt 1 0 q)).2).2.2.2.1 + 1) (q := 53) hC dX12_whomRead_52 rfl (by rw [nNm_pa, nSg_pa2]; exact v_npt_hx 1) (by rw [nNm_pa, nSg_pa2, nPt_pa]; omega) ?_
    refine v_iload_n (i := 2) (q := 54) hC dX12_whomRead_53 rfl rfl rfl ?_
    refine v_iret hC dX12_whomRead_54 hr (by first | rfl | exact nar_b) ?_ (Nat.le_of_ble_eq_true rfl) (Nat.le_of_ble_eq_true rfl)
    rw [nWh, if_pos c_22]
    exact ⟨rfl, rfl⟩
