/-! ListText -/
abbrev lT := Int32 × (Int32 × (Int32 × (Nat → Int32)))
def lP (G : GS) (q : lT) : GS := putA (putF (putF (putF G 0 27 0 q.1) 0 27 1 q.2.1) 0 27 2 q.2.2.1) 0 28 q.2.2.2
theorem lP_28 (G : GS) (q : lT) (w : Nat → Int32) : putA (lP G q) 0 28 w = lP G (q.1, q.2.1, q.2.2.1, w) := putA_putA _ _ _ _ _
theorem putF_comm (G : GS) (r o k k2 : Nat) (v w : Int32) (h : ¬ k2 = k) : putF (putF G r o k v) r o k2 w = putF (putF G r o k2 w) r o k v := by
  refine Prod.ext ?_ rfl
  funext r' o' k'
  simp only [putF_get]
  by_cases h1 : r' = r ∧ o' = o ∧ k' = k2
  · rw [if_pos h1, if_neg (fun z => h (h1.2.2.symm.trans z.2.2)), if_pos h1]
  · rw [if_neg h1]
    by_cases h2 : r' = r ∧ o' = o ∧ k' = k
    · rw [if_pos h2, if_pos h2]
    · rw [if_neg h2, if_neg h2, if_neg h1]
theorem lP_0 (G : GS) (q : lT) (x : Int32) : putF (lP G q) 0 27 0 x = lP G (x, q.2) := by
  unfold lP
  rw [putF_putA, putF_comm _ _ _ 2 0 _ _ (by decide), putF_comm _ _ _ 1 0 _ _ (by decide), putF_putF]
theorem lP_1 (G : GS) (q : lT) (x : Int32) : putF (lP G q) 0 27 1 x = lP G (q.1, x, q.2.2) := by
  unfold lP
  rw [putF_putA, putF_comm _ _ _ 2 1 _ _ (by decide), putF_putF]
theorem lP_2 (G : GS) (q : lT) (x : Int32) : putF (lP G q) 0 27 2 x = lP G (q.1, q.2.1, x, q.2.2.2) := by
  unfold lP
  rw [putF_putA, putF_putF]
theorem putF_self (G : GS) (r o k : Nat) : putF G r o k (G.1 r o k) = G := by
  refine Prod.ext ?_ rfl
  funext r' o' k'
  simp only [putF_get]
  by_cases h1 : r' = r ∧ o' = o ∧ k' = k
  · rw [if_pos h1]
    obtain ⟨rfl, rfl, rfl⟩ := h1
    rfl
  · rw [if_neg h1]
def lG (G : GS) : lT := (G.1 0 27 0, G.1 0 27 1, G.1 0 27 2, G.2.1 0 28)
theorem lP_self (G : GS) : lP G (lG G) = G := by
  unfold lP lG
  dsimp only
  rw [putF_self, putF_self, putF_self, putA_self]
/-- the sign at a place -/
def pS (G : GS) (x : Int32) : Int32 := sSign (G.1 0 25 0) (G.2.1 0 26) x
def tk (G : GS) (c : Int32) (q : lT) : Bool × lT := if pS G q.1 = c then (true, (q.1 + 1, q.2)) else (false, q)
def dg (G : GS) (x : Int32) : Int32 := if 48 ≤ pS G x ∧ pS G x ≤ 57 then pS G x - 48 else -1
def tn2 (G : GS) (lim f : Int32) (q : lT) : Int32 := if f = 0 then -1 else dg G q.1
def tn (G : GS) (lim : Int32) (q : lT) : Int32 × lT :=
  if dg G q.1 = -1 ∨ lim ≤ dg G q.1 then (-1, q)
  else if tn2 G lim (dg G q.1) (q.1 + 1, q.2) = -1 ∨ lim ≤ dg G q.1 * 10 + tn2 G lim (dg G q.1) (q.1 + 1, q.2) then (dg G q.1, (q.1 + 1, q.2))
  else (dg G q.1 * 10 + tn2 G lim (dg G q.1) (q.1 + 1, q.2), (q.1 + 1 + 1, q.2))
def tnf (G : GS) (kind : Int32) (q : lT) : Int32 × lT := if kind = 0 then tn G 12 q else if kind = 1 then tn G 8 q else (0, q)
def tkd (G : GS) : Nat → Nat → lT → Int32 × lT
  | 0, _, q => (-1, q)
  | n + 1, j, q => if (tk G ((sTx 0).getD j 0) q).1 = true then (nI j, (tk G ((sTx 0).getD j 0) q).2) else tkd G n (j + 1) (tk G ((sTx 0).getD j 0) q).2
def trg (G : GS) : Nat → Nat → Int32 → lT → Int32 × lT
  | 0, _, x, q => (x, q)
  | n + 1, j, x, q => if (tk G ((sTx 1).getD j 0) q).1 = true then trg G n (j + 1) (x ||| ((1 : Int32) <<< (nI j &&& 31))) (tk G ((sTx 1).getD j 0) q).2 else trg G n (j + 1) x (tk G ((sTx 1).getD j 0) q).2
section LTROWS
variable {p : Program} {l : Launch} {e : Env} {R : Room} {s : State} {m : MethodId} {args : Array Value} {below : List Frame} {meth : Method} {c : Code} {cc : ByteArray} {nL : Nat} {own : String} {Θ : cTH} {Qp : cOut → GS → Prop} {Q9 : State → Prop} {mc ms k n pc q : Nat} {LS : List (Option Value)} {rest : List Value} {G : GS} {q9 : lT}
theorem gl_0 (hC : cC p l s m args meth c cc nL own Θ) {idx : Nat} (d : decode cc pc = .ok (.getfield idx, 3)) (hq : pc + 3 = q) (hid : okI (lP G q9).2.2.1 0 27 = true) (hlk : Cond.fieldLink own idx "PermissionDesk$ListText" "at" "I" ∈ wALL) (kk : VG p l e R s m args below meth c nL Θ Q9 k n q LS (.int q9.1 :: rest) (lP G q9)) : VG p l e R s m args below meth c nL Θ Q9 k n pc LS (.ref (tR Θ 0 27) :: rest) (lP G q9) := g_X5_0 hC d hq hid hlk kk
theorem pl_0 (hC : cC p l s m args meth c cc nL own Θ) {idx : Nat} {x : Int32} (d : decode cc pc = .ok (.putfield idx, 3)) (hq : pc + 3 = q) (hid : okI (lP G q9).2.2.1 0 27 = true) (hlk : Cond.fieldLink own idx "PermissionDesk$ListText" "at" "I" ∈ wALL) (kk : VG p l e R s m args below meth c nL Θ Q9 k n q LS rest (lP G (x, q9.2))) : VG p l e R s m args below meth c nL Θ Q9 k n pc LS (.int x :: .ref (tR Θ 0 27) :: rest) (lP G q9) := p_X5_0 hC d hq hid hlk (by rw [lP_0]; exact kk)
theorem gl_1 (hC : cC p l s m args meth c cc nL own Θ) {idx : Nat} (d : decode cc pc = .ok (.getfield idx, 3)) (hq : pc + 3 = q) (hid : okI (lP G q9).2.2.1 0 27 = true) (hlk : Cond.fieldLink own idx "PermissionDesk$ListText" "object" "I" ∈ wALL) (kk : VG p l e R s m args below meth c nL Θ Q9 k n q LS (.int q9.2.1 :: rest) (lP G q9)) : VG p l e R s m args below meth c nL Θ Q9 k n pc LS (.ref (tR Θ 0 27) :: rest) (lP G q9) := g_X5_1 hC d hq hid hlk kk
theorem pl_1 (hC : cC p l s m args meth c cc nL own Θ) {idx : Nat} {x : Int32} (d : decode cc pc = .ok (.putfield idx, 3)) (hq : pc + 3 = q) (hid : okI (lP G q9).2.2.1 0 27 = true) (hlk : Cond.fieldLink own idx "PermissionDesk$ListText" "object" "I" ∈ wALL) (kk : VG p l e R s m args below meth c nL Θ Q9 k n q LS rest (lP G (q9.1, x, q9.2.2))) : VG p l e R s m args below meth c nL Θ Q9 k n pc LS (.int x :: .ref (tR Θ 0 27) :: rest) (lP G q9) := p_X5_1 hC d hq hid hlk (by rw [lP_1]; exact kk)
theorem gl_2 (hC : cC p l s m args meth c cc nL own Θ) {idx : Nat} (d : decode cc pc = .ok (.getfield idx, 3)) (hq : pc + 3 = q) (hid : okI (lP G q9).2.2.1 0 27 = true) (hlk : Cond.fieldLink own idx "PermissionDesk$ListText" "count" "I" ∈ wALL) (kk : VG p l e R s m args below meth c nL Θ Q9 k n q LS (.int q9.2.2.1 :: rest) (lP G q9)) : VG p l e R s m args below meth c nL Θ Q9 k n pc LS (.ref (tR Θ 0 27) :: rest) (lP G q9) := g_X5_2 hC d hq hid hlk kk
theorem pl_2 (hC : cC p l s m args meth c cc nL own Θ) {idx : Nat} {x : Int32} (d : decode cc pc = .ok (.putfield idx, 3)) (hq : pc + 3 = q) (hid : okI (lP G q9).2.2.1 0 27 = true) (hlk : Cond.fieldLink own idx "PermissionDesk$ListText" "count" "I" ∈ wALL) (kk : VG p l e R s m args below meth c nL Θ Q9 k n q LS rest (lP G (q9.1, q9.2.1, x, q9.2.2.2))) : VG p l e R s m args below meth c nL Θ Q9 k n pc LS (.int x :: .ref (tR Θ 0 27) :: rest) (lP G q9) := p_X5_2 hC d hq hid hlk (by rw [lP_2]; exact kk)
theorem gl_p (hC : cC p l s m args meth c cc nL own Θ) {idx : Nat} (d : decode cc pc = .ok (.getfield idx, 3)) (hq : pc + 3 = q) (hid : okI (lP G q9).2.2.1 0 25 = true) (hlk : Cond.fieldLink own idx "PermissionDesk$Pad" "length" "I" ∈ wALL) (kk : VG p l e R s m args below meth c nL Θ Q9 k n q LS (.int (G.1 0 25 0) :: rest) (lP G q9)) : VG p l e R s m args below meth c nL Θ Q9 k n pc LS (.ref (tR Θ 0 25) :: rest) (lP G q9) := g_X8_0 hC d hq hid hlk kk
theorem gl_e (hC : cC p l s m args meth c cc nL own Θ) {i : Int32} (d : decode cc pc = .ok (.iaload, 1)) (hq : pc + 1 = q) (hin : vp_in i 6) (kk : VG p l e R s m args below meth c nL Θ Q9 k n q LS (.int (q9.2.2.2 i.toNatClampNeg) :: rest) (lP G q9)) : VG p l e R s m args below meth c nL Θ Q9 k n pc LS (.int i :: .ref (tR Θ 0 28) :: rest) (lP G q9) := v_iald (N := 6) hC d hq rfl rfl hin kk
theorem pl_e (hC : cC p l s m args meth c cc nL own Θ) {i x : Int32} (d : decode cc pc = .ok (.iastore, 1)) (hq : pc + 1 = q) (hin : vp_in i 6) (kk : VG p l e R s m args below meth c nL Θ Q9 k n q LS rest (lP G (q9.1, q9.2.1, q9.2.2.1, upd q9.2.2.2 i.toNatClampNeg x))) : VG p l e R s m args below meth c nL Θ Q9 k n pc LS (.int x :: .int i :: .ref (tR Θ 0 28) :: rest) (lP G q9) := v_iast (N := 6) hC d hq rfl (fun _ => rfl) hin (by rw [lP_28]; exact kk)
end LTROWS
theorem c_signL {l : Launch} (hl : l.stackTraces = false) (Θ : cTH) (x : Int32) (q : lT) (G : GS) : Ct l yX8_signAt cX8_signAt 2 (some .int) rm_X8_signAt Θ [.ref (tR Θ 0 25), .int x] (lP G q) (fR (some (.int (pS G x))) (lP G q)) := c_X8_signAt hl Θ x (lP G q)
set_option maxHeartbeats 4000000 in
set_option maxRecDepth 20000 in
theorem c_X5_take {l : Launch} (hl : l.stackTraces = false) (Θ : cTH) (c0 : Int32) (q : lT) (G : GS) : Ct l yX5_take cX5_take 3 (some .boolean) rm_X5_take Θ [.ref (tR Θ 0 27), .ref (tR Θ 0 25), .int c0] (lP G q) (fR (some (.int (b2i (tk G c0 q).1))) (lP G (tk G c0 q).2)) := by
  refine ct_of (LS := [some (.ref (tR Θ 0 27)), some (.ref (tR Θ 0 25)), some (.int c0)]) hl (by decide +kernel) rfl (Nat.le_of_ble_eq_true rfl) rfl ?_
  intro p e s m args below meth c hC hr
  refine v_aload_n (i := 1) (q := 1) hC dX5_take_0 rfl rfl rfl ?_
  refine v_aload_n (i := 0) (q := 2) hC dX5_take_1 rfl rfl rfl ?_
  refine gl_0 (q := 5) hC dX5_take_2 rfl rfl fl_RX5_9 ?_
  refine v_callV (q := 8) (rm := rm_X8_signAt) hC (c_signL hl Θ _ q G) k_X8_signAt im_yX8_signAt se_yX8_signAt ml_RX5_145 dX5_take_5 rfl rfl rfl rfl rfl rfl (Nat.le_of_ble_eq_true rfl) ⟨Nat.le_of_ble_eq_true rfl, Nat.le_of_ble_eq_true rfl⟩ ⟨Nat.le_of_ble_eq_true rfl, Nat.le_of_ble_eq_true rfl⟩ (fR_k ?_) fR_x (Nat.le_of_ble_eq_true rfl) (Nat.le_of_ble_eq_true rfl)
  try dsimp only [Option.toList, List.cons_append, List.nil_append]
  refine v_iload_n (i := 2) (q := 9) hC dX5_take_8 rfl rfl rfl ?_
  refine v_icmp_eq (q := 14) (q2 := 12) hC dX5_take_9 (by decide) rfl (fun c_9 => ?_) (fun c_9 => ?_)
  · refine v_aload_n (i := 0) (q := 15) hC dX5_take_14 rfl rfl rfl ?_
    refine v_dup (q := 16) hC dX5_take_15 rfl rfl ?_
    refine gl_0 (q := 19) hC dX5_take_16 rfl rfl fl_RX5_9 ?_
    refine v_iconst (q := 20) (v := 1) hC dX5_take_19 rfl (by decide) ?_
    refine v_iadd (q := 21) hC dX5_take_20 rfl ?_
    refine pl_0 (q := 24) hC dX5_take_21 rfl rfl fl_RX5_9 ?_
    refine v_iconst (q := 25) (v := 1) hC dX5_take_24 rfl (by decide) ?_
    refine v_iret hC dX5_take_25 hr (by first | rfl | exact nar_b) ?_ (Nat.le_of_ble_eq_true rfl) (Nat.le_of_ble_eq_true rfl)
    exact ⟨by rw [tk, if_pos c_9]; rfl, by rw [tk, if_pos c_9]⟩
  · refine v_iconst (q := 13) (v := 0) hC dX5_take_12 rfl (by decide) ?_
    refine v_iret hC dX5_take_13 hr (by first | rfl | exact nar_b) ?_ (Nat.le_of_ble_eq_true rfl) (Nat.le_of_ble_eq_true rfl)
    exact ⟨by rw [tk, if_neg c_9]; rfl, by rw [tk, if_neg c_9]⟩
set_option maxHeartbeats 4000000 in
set_option maxRecDepth 20000 in
theorem c_X5_digitAt {l : Launch} (hl : l.stackTraces = false) (Θ : cTH) (x : Int32) (q : lT) (G : GS) : Ct l yX5_digitAt cX5_digitAt 4 (some .int) rm_X5_digitAt Θ [.ref (tR Θ 0 27), .ref (tR Θ 0 25), .int x] (lP G q) (fR (some (.int (dg G x))) (lP G q)) := by
  refine ct_of (LS := [some (.ref (tR Θ 0 27)), some (.ref (tR Θ 0 25)), some (.int x), none]) hl (by decide +kernel) rfl (Nat.le_of_ble_eq_true rfl) rfl ?_
  intro p e s m args below meth c hC hr
  refine v_aload_n (i := 1) (q := 1) hC dX5_digitAt_0 rfl rfl rfl ?_
  refine v_iload_n (i := 2) (q := 2) hC dX5_digitAt_1 rfl rfl rfl ?_
  refine v_callV (q := 5) (rm := rm_X8_signAt) hC (c_signL hl Θ _ q G) k_X8_signAt im_yX8_signAt se_yX8_signAt ml_RX5_145 dX5_digitAt_2 rfl rfl rfl rfl rfl rfl (Nat.le_of_ble_eq_true rfl) ⟨Nat.le_of_ble_eq_true rfl, Nat.le_of_ble_eq_true rfl⟩ ⟨Nat.le_of_ble_eq_true rfl, Nat.le_of_ble_eq_true rfl⟩ (fR_k ?_) fR_x (Nat.le_of_ble_eq_true rfl) (Nat.le_of_ble_eq_true rfl)
  try dsimp only [Option.toList, List.cons_append, List.nil_append]
  refine v_istore_n (i := 3) (q := 6) hC dX5_digitAt_5 rfl rfl (lvc rfl) (Nat.le_of_ble_eq_true rfl) (Nat.le_of_ble_eq_true rfl) rfl ?_
  refine v_iload_n (i := 3) (q := 7) hC dX5_digitAt_6 rfl rfl rfl ?_
  refine v_bipush (q := 9) (v := 48) hC dX5_digitAt_7 rfl (by decide) ?_
  refine v_icmp_lt (q := 25) (q2 := 12) hC dX5_digitAt_9 (by decide) rfl (fun c_9 => ?_) (fun c_9 => ?_)
  · refine v_iconst (q := 26) (v := (-1)) hC dX5_digitAt_25 rfl (by decide) ?_
    refine v_iret hC dX5_digitAt_26 hr (rfl) ?_ (Nat.le_of_ble_eq_true rfl) (Nat.le_of_ble_eq_true rfl)
    exact ⟨by simp_all [dg, ← Int32.not_lt], rfl⟩
  · refine v_iload_n (i := 3) (q := 13) hC dX5_digitAt_12 rfl rfl rfl ?_
    refine v_bipush (q := 15) (v := 57) hC dX5_digitAt_13 rfl (by decide) ?_
    refine v_icmp_gt (q := 25) (q2 := 18) hC dX5_digitAt_15 (by decide) rfl (fun c_15 => ?_) (fun c_15 => ?_)
    · refine v_iconst (q := 26) (v := (-1)) hC dX5_digitAt_25 rfl (by decide) ?_
      refine v_iret hC dX5_digitAt_26 hr (rfl) ?_ (Nat.le_of_ble_eq_true rfl) (Nat.le_of_ble_eq_true rfl)
      exact ⟨by simp_all [dg, ← Int32.not_lt], rfl⟩
    · refine v_iload_n (i := 3) (q := 19) hC dX5_digitAt_18 rfl rfl rfl ?_
      refine v_bipush (q := 21) (v := 48) hC dX5_digitAt_19 rfl (by decide) ?_
      refine v_isub (q := 22) hC dX5_digitAt_21 rfl ?_
      refine v_goto (q := 26) hC dX5_digitAt_22 (by decide) ?_
      refine v_iret hC dX5_digitAt_26 hr (rfl) ?_ (Nat.le_of_ble_eq_true rfl) (Nat.le_of_ble_eq_true rfl)
      exact ⟨by simp_all [dg, ← Int32.not_lt], rfl⟩
set_option maxHeartbeats 4000000 in
set_option maxRecDepth 20000 in
theorem c_X5_takeNumber {l : Launch} (hl : l.stackTraces = false) (Θ : cTH) (lim : Int32) (q : lT) (G : GS) : Ct l yX5_takeNumber cX5_takeNumber 5 (some .int) rm_X5_takeNumber Θ [.ref (tR Θ 0 27), .ref (tR Θ 0 25), .int lim] (lP G q) (fR (some (.int (tn G lim q).1)) (lP G (tn G lim q).2)) := by
  refine ct_of (LS := [some (.ref (tR Θ 0 27)), some (.ref (tR Θ 0 25)), some (.int lim), none, none]) hl (by decide +kernel) rfl (Nat.le_of_ble_eq_true rfl) rfl ?_
  intro p e s m args below meth c hC hr
  have L : ∀ s2 : Int32, tn2 G lim (dg G q.1) (q.1 + 1, q.2) = s2 → ¬ dg G q.1 = -1 → ¬ lim ≤ dg G q.1 → V p l e rm_X5_takeNumber s m args below meth c 5 Θ (fR (some (.int (tn G lim q).1)) (lP G (tn G lim q).2)) 0 0 0 0 49 [some (.ref (tR Θ 0 27)), some (.ref (tR Θ 0 25)), some (.int lim), some (.int (dg G q.1)), none] [.int s2] (lP G (q.1 + 1, q.2)) := by
    intro s2 h1 h2 h3
    refine v_istore (q := 51) hC dX5_takeNumber_49 rfl (lvc rfl) (Nat.le_of_ble_eq_true rfl) (Nat.le_of_ble_eq_true rfl) rfl ?_
    refine v_iload (q := 53) hC dX5_takeNumber_51 rfl rfl ?_
    refine v_iconst (q := 54) (v := (-1)) hC dX5_takeNumber_53 rfl (by decide) ?_
    refine v_icmp_eq (q := 68) (q2 := 57) hC dX5_takeNumber_54 (by decide) rfl (fun c_54 => ?_) (fun c_54 => ?_)
    · refine v_iload_n (i := 3) (q := 69) hC dX5_takeNumber_68 rfl rfl rfl ?_
      refine v_iret hC dX5_takeNumber_69 hr (rfl) ?_ (Nat.le_of_ble_eq_true rfl) (Nat.le_of_ble_eq_true rfl)
      rw [tn, if_neg (not_or.mpr ⟨h2, h3⟩), h1, if_pos (by first | exact Or.inl c_54 | exact Or.inr (Int32.not_lt.mp c_65))]; exact ⟨rfl, rfl⟩
    · refine v_iload_n (i := 3) (q := 58) hC dX5_takeNumber_57 rfl rfl rfl ?_
      refine v_bipush (q := 60) (v := 10) hC dX5_takeNumber_58 rfl (by decide) ?_
      refine v_imul (q := 61) hC dX5_takeNumber_60 rfl ?_
      refine v_iload (q := 63) hC dX5_takeNumber_61 rfl rfl ?_
      refine v_iadd (q := 64) hC dX5_takeNumber_63 rfl ?_
      refine v_iload_n (i := 2) (q := 65) hC dX5_takeNumber_64 rfl rfl rfl ?_
      refine v_icmp_lt (q := 70) (q2 := 68) hC dX5_takeNumber_65 (by decide) rfl (fun c_65 => ?_) (fun c_65 => ?_)
      · refine v_aload_n (i := 0) (q := 71) hC dX5_takeNumber_70 rfl rfl rfl ?_
        refine v_dup (q := 72) hC dX5_takeNumber_71 rfl rfl ?_
        refine gl_0 (q := 75) hC dX5_takeNumber_72 rfl rfl fl_RX5_9 ?_
        refine v_iconst (q := 76) (v := 1) hC dX5_takeNumber_75 rfl (by decide) ?_
        refine v_iadd (q := 77) hC dX5_takeNumber_76 rfl ?_
        refine pl_0 (q := 80) hC dX5_takeNumber_77 rfl rfl fl_RX5_9 ?_
        refine v_iload_n (i := 3) (q := 81) hC dX5_takeNumber_80 rfl rfl rfl ?_
        refine v_bipush (q := 83) (v := 10) hC dX5_takeNumber_81 rfl (by decide) ?_
        refine v_imul (q := 84) hC dX5_takeNumber_83 rfl ?_
        refine v_iload (q := 86) hC dX5_takeNumber_84 rfl rfl ?_
        refine v_iadd (q := 87) hC dX5_takeNumber_86 rfl ?_
        refine v_iret hC dX5_takeNumber_87 hr (rfl) ?_ (Nat.le_of_ble_eq_true rfl) (Nat.le_of_ble_eq_true rfl)
        rw [tn, if_neg (not_or.mpr ⟨h2, h3⟩), h1, if_neg (not_or.mpr ⟨c_54, Int32.not_le.mpr c_65⟩)]; exact ⟨rfl, rfl⟩
      · refine v_iload_n (i := 3) (q := 69) hC dX5_takeNumber_68 rfl rfl rfl ?_
        refine v_iret hC dX5_takeNumber_69 hr (rfl) ?_ (Nat.le_of_ble_eq_true rfl) (Nat.le_of_ble_eq_true rfl)
        rw [tn, if_neg (not_or.mpr ⟨h2, h3⟩), h1, if_pos (by first | exact Or.inl c_54 | exact Or.inr (Int32.not_lt.mp c_65))]; exact ⟨rfl, rfl⟩
  refine v_aload_n (i := 0) (q := 1) hC dX5_takeNumber_0 rfl rfl rfl ?_
  refine v_aload_n (i := 1) (q := 2) hC dX5_takeNumber_1 rfl rfl rfl ?_
  refine v_aload_n (i := 0) (q := 3) hC dX5_takeNumber_2 rfl rfl rfl ?_
  refine gl_0 (q := 6) hC dX5_takeNumber_3 rfl rfl fl_RX5_9 ?_
  refine v_callV (q := 9) (rm := rm_X5_digitAt) hC (c_X5_digitAt hl Θ _ _ _) k_X5_digitAt im_yX5_digitAt se_yX5_digitAt ml_RX5_142 dX5_takeNumber_6 rfl rfl rfl rfl rfl rfl (Nat.le_of_ble_eq_true rfl) ⟨Nat.le_of_ble_eq_true rfl, Nat.le_of_ble_eq_true rfl⟩ ⟨Nat.le_of_ble_eq_true rfl, Nat.le_of_ble_eq_true rfl⟩ (fR_k ?_) fR_x (Nat.le_of_ble_eq_true rfl) (Nat.le_of_ble_eq_true rfl)
  try dsimp only [Option.toList, List.cons_append, List.nil_append]
  refine v_istore_n (i := 3) (q := 10) hC dX5_takeNumber_9 rfl rfl (lvc rfl) (Nat.le_of_ble_eq_true rfl) (Nat.le_of_ble_eq_true rfl) rfl ?_
  refine v_iload_n (i := 3) (q := 11) hC dX5_takeNumber_10 rfl rfl rfl ?_
  refine v_iconst (q := 12) (v := (-1)) hC dX5_takeNumber_11 rfl (by decide) ?_
  refine v_icmp_eq (q := 20) (q2 := 15) hC dX5_takeNumber_12 (by decide) rfl (fun c_12 => ?_) (fun c_12 => ?_)
  · refine v_iconst (q := 21) (v := (-1)) hC dX5_takeNumber_20 rfl (by decide) ?_
    refine v_iret hC dX5_takeNumber_21 hr (rfl) ?_ (Nat.le_of_ble_eq_true rfl) (Nat.le_of_ble_eq_true rfl)
    rw [tn, if_pos (by first | exact Or.inl c_12 | exact Or.inr (Int32.not_lt.mp c_17))]; exact ⟨rfl, rfl⟩
  · refine v_iload_n (i := 3) (q := 16) hC dX5_takeNumber_15 rfl rfl rfl ?_
    refine v_iload_n (i := 2) (q := 17) hC dX5_takeNumber_16 rfl rfl rfl ?_
    refine v_icmp_lt (q := 22) (q2 := 20) hC dX5_takeNumber_17 (by decide) rfl (fun c_17 => ?_) (fun c_17 => ?_)
    · refine v_aload_n (i := 0) (q := 23) hC dX5_takeNumber_22 rfl rfl rfl ?_
      refine v_dup (q := 24) hC dX5_takeNumber_23 rfl rfl ?_
      refine gl_0 (q := 27) hC dX5_takeNumber_24 rfl rfl fl_RX5_9 ?_
      refine v_iconst (q := 28) (v := 1) hC dX5_takeNumber_27 rfl (by decide) ?_
      refine v_iadd (q := 29) hC dX5_takeNumber_28 rfl ?_
      refine pl_0 (q := 32) hC dX5_takeNumber_29 rfl rfl fl_RX5_9 ?_
      refine v_iload_n (i := 3) (q := 33) hC dX5_takeNumber_32 rfl rfl rfl ?_
      refine v_if_ne (q := 40) (q2 := 36) hC dX5_takeNumber_33 (by decide) rfl (fun c_33 => ?_) (fun c_33 => ?_)
      · refine v_aload_n (i := 0) (q := 41) hC dX5_takeNumber_40 rfl rfl rfl ?_
        refine v_aload_n (i := 1) (q := 42) hC dX5_takeNumber_41 rfl rfl rfl ?_
        refine v_aload_n (i := 0) (q := 43) hC dX5_takeNumber_42 rfl rfl rfl ?_
        refine gl_0 (q := 46) hC dX5_takeNumber_43 rfl rfl fl_RX5_9 ?_
        refine v_callV (q := 49) (rm := rm_X5_digitAt) hC (c_X5_digitAt hl Θ _ _ _) k_X5_digitAt im_yX5_digitAt se_yX5_digitAt ml_RX5_142 dX5_takeNumber_46 rfl rfl rfl rfl rfl rfl (Nat.le_of_ble_eq_true rfl) ⟨Nat.le_of_ble_eq_true rfl, Nat.le_of_ble_eq_true rfl⟩ ⟨Nat.le_of_ble_eq_true rfl, Nat.le_of_ble_eq_true rfl⟩ (fR_k ?_) fR_x (Nat.le_of_ble_eq_true rfl) (Nat.le_of_ble_eq_true rfl)
        try dsimp only [Option.toList, List.cons_append, List.nil_append]
        first | exact L _ (by rw [tn2, if_pos c_33]) c_12 (Int32.not_le.mpr c_17) | exact L _ (by rw [tn2, if_neg c_33]) c_12 (Int32.not_le.mpr c_17)
      · refine v_iconst (q := 37) (v := (-1)) hC dX5_takeNumber_36 rfl (by decide) ?_
        refine v_goto (q := 49) hC dX5_takeNumber_37 (by decide) ?_
        first | exact L _ (by rw [tn2, if_pos c_33]) c_12 (Int32.not_le.mpr c_17) | exact L _ (by rw [tn2, if_neg c_33]) c_12 (Int32.not_le.mpr c_17)
    · refine v_iconst (q := 21) (v := (-1)) hC dX5_takeNumber_20 rfl (by decide) ?_
      refine v_iret hC dX5_takeNumber_21 hr (rfl) ?_ (Nat.le_of_ble_eq_true rfl) (Nat.le_of_ble_eq_true rfl)
      rw [tn, if_pos (by first | exact Or.inl c_12 | exact Or.inr (Int32.not_lt.mp c_17))]; exact ⟨rfl, rfl⟩
set_option maxHeartbeats 4000000 in
set_option maxRecDepth 20000 in
theorem c_X5_takeNumberOf {l : Launch} (hl : l.stackTraces = false) (Θ : cTH) (kind : Int32) (q : lT) (G : GS) : Ct l yX5_takeNumberOf cX5_takeNumberOf 3 (some .int) rm_X5_takeNumberOf Θ [.ref (tR Θ 0 27), .int kind, .ref (tR Θ 0 25)] (lP G q) (fR (some (.int (tnf G kind q).1)) (lP G (tnf G kind q).2)) := by
  refine ct_of (LS := [some (.ref (tR Θ 0 27)), some (.int kind), some (.ref (tR Θ 0 25))]) hl (by decide +kernel) rfl (Nat.le_of_ble_eq_true rfl) rfl ?_
  intro p e s m args below meth c hC hr
  refine v_iload_n (i := 1) (q := 1) hC dX5_takeNumberOf_0 rfl rfl rfl ?_
  refine v_if_ne (q := 12) (q2 := 4) hC dX5_takeNumberOf_1 (by decide) rfl (fun c_1 => ?_) (fun c_1 => ?_)
  · refine v_iload_n (i := 1) (q := 13) hC dX5_takeNumberOf_12 rfl rfl rfl ?_
    refine v_iconst (q := 14) (v := 1) hC dX5_takeNumberOf_13 rfl (by decide) ?_
    refine v_icmp_ne (q := 27) (q2 := 17) hC dX5_takeNumberOf_14 (by decide) rfl (fun c_14 => ?_) (fun c_14 => ?_)
    · refine v_iconst (q := 28) (v := 0) hC dX5_takeNumberOf_27 rfl (by decide) ?_
      refine v_iret hC dX5_takeNumberOf_28 hr (rfl) ?_ (Nat.le_of_ble_eq_true rfl) (Nat.le_of_ble_eq_true rfl)
      exact ⟨by simp_all [tnf], by simp_all [tnf]⟩
    · refine v_aload_n (i := 0) (q := 18) hC dX5_takeNumberOf_17 rfl rfl rfl ?_
      refine v_aload_n (i := 2) (q := 19) hC dX5_takeNumberOf_18 rfl rfl rfl ?_
      refine v_bipush (q := 21) (v := 8) hC dX5_takeNumberOf_19 rfl (by decide) ?_
      refine v_callV (q := 24) (rm := rm_X5_takeNumber) hC (c_X5_takeNumber hl Θ _ _ _) k_X5_takeNumber im_yX5_takeNumber se_yX5_takeNumber ml_RX5_25 dX5_takeNumberOf_21 rfl rfl rfl rfl rfl rfl (Nat.le_of_ble_eq_true rfl) ⟨Nat.le_of_ble_eq_true rfl, Nat.le_of_ble_eq_true rfl⟩ ⟨Nat.le_of_ble_eq_true rfl, Nat.le_of_ble_eq_true rfl⟩ (fR_k ?_) fR_x (Nat.le_of_ble_eq_true rfl) (Nat.le_of_ble_eq_true rfl)
      try dsimp only [Option.toList, List.cons_append, List.nil_append]
      refine v_goto (q := 28) hC dX5_takeNumberOf_24 (by decide) ?_
      refine v_iret hC dX5_takeNumberOf_28 hr (rfl) ?_ (Nat.le_of_ble_eq_true rfl) (Nat.le_of_ble_eq_true rfl)
      exact ⟨by simp_all [tnf], by simp_all [tnf]⟩
  · refine v_aload_n (i := 0) (q := 5) hC dX5_takeNumberOf_4 rfl rfl rfl ?_
    refine v_aload_n (i := 2) (q := 6) hC dX5_takeNumberOf_5 rfl rfl rfl ?_
    refine v_bipush (q := 8) (v := 12) hC dX5_takeNumberOf_6 rfl (by decide) ?_
    refine v_callV (q := 11) (rm := rm_X5_takeNumber) hC (c_X5_takeNumber hl Θ _ _ _) k_X5_takeNumber im_yX5_takeNumber se_yX5_takeNumber ml_RX5_25 dX5_takeNumberOf_8 rfl rfl rfl rfl rfl rfl (Nat.le_of_ble_eq_true rfl) ⟨Nat.le_of_ble_eq_true rfl, Nat.le_of_ble_eq_true rfl⟩ ⟨Nat.le_of_ble_eq_true rfl, Nat.le_of_ble_eq_true rfl⟩ (fR_k ?_) fR_x (Nat.le_of_ble_eq_true rfl) (Nat.le_of_ble_eq_true rfl)
    try dsimp only [Option.toList, List.cons_append, List.nil_append]
    refine v_iret hC dX5_takeNumberOf_11 hr (rfl) ?_ (Nat.le_of_ble_eq_true rfl) (Nat.le_of_ble_eq_true rfl)
    exact ⟨by simp_all [tnf], by simp_all [tnf]⟩
set_option maxHeartbeats 4000000 in
set_option maxRecDepth 20000 in
theorem c_X5_takeKind {l : Launch} (hl : l.stackTraces = false) (Θ : cTH) (q : lT) (G : GS) : Ct l yX5_takeKind cX5_takeKind 3 (some .int) rm_X5_takeKind Θ [.ref (tR Θ 0 27), .ref (tR Θ 0 25)] (lP G q) (fR (some (.int (tkd G 4 0 q).1)) (lP G (tkd G 4 0 q).2)) := by
  refine ct_of (LS := [some (.ref (tR Θ 0 27)), some (.ref (tR Θ 0 25)), none]) hl (by decide +kernel) rfl (Nat.le_of_ble_eq_true rfl) rfl ?_
  intro p e s m args below meth c hC hr
  have L : ∀ (n j : Nat) (q2 : lT), n + j = 4 → tkd G n j q2 = tkd G 4 0 q → V p l e rm_X5_takeKind s m args below meth c 3 Θ (fR (some (.int (tkd G 4 0 q).1)) (lP G (tkd G 4 0 q).2)) 0 0 0 0 2 [some (.ref (tR Θ 0 27)), some (.ref (tR Θ 0 25)), some (.int (nI j))] [] (lP G q2) := by
    intro n
    induction n with
    | zero =>
      intro j q2 h1 h2
      refine v_iload_n (i := 2) (q := 3) hC dX5_takeKind_2 rfl rfl rfl ?_
      refine v_ldcT0 (q := 5) hC dX5_takeKind_3 rfl ?_
      refine v_callT (q := 8) (rm := rm_J0_length_8abf5) hC (c_J0_length_8abf5 hl Θ 0 (by decide) _) k_J0_length_8abf5 im_yJ0_length_8abf5 se_yJ0_length_8abf5 ml_RX5_107 dX5_takeKind_5 rfl (by decide) rfl rfl rfl (Nat.le_of_ble_eq_true rfl) ⟨Nat.le_of_ble_eq_true rfl, Nat.le_of_ble_eq_true rfl⟩ ⟨Nat.le_of_ble_eq_true rfl, Nat.le_of_ble_eq_true rfl⟩ (fR_k ?_) fR_x (Nat.le_of_ble_eq_true rfl) (Nat.le_of_ble_eq_true rfl)
      try dsimp only [Option.toList, List.cons_append, List.nil_append]
      refine v_icmp_ge (q := 33) (q2 := 11) hC dX5_takeKind_8 (by decide) rfl (fun c_8 => ?_) (fun c_8 => ?_)
      · refine v_iconst (q := 34) (v := (-1)) hC dX5_takeKind_33 rfl (by decide) ?_
        refine v_iret hC dX5_takeKind_34 hr (rfl) ?_ (Nat.le_of_ble_eq_true rfl) (Nat.le_of_ble_eq_true rfl)
        exact ⟨by rw [← h2, tkd], by rw [← h2, tkd]⟩
      · exact absurd (by rw [show j = 4 by omega]; decide) c_8
    | succ n ih =>
      intro j q2 h1 h2
      refine v_iload_n (i := 2) (q := 3) hC dX5_takeKind_2 rfl rfl rfl ?_
      refine v_ldcT0 (q := 5) hC dX5_takeKind_3 rfl ?_
      refine v_callT (q := 8) (rm := rm_J0_length_8abf5) hC (c_J0_length_8abf5 hl Θ 0 (by decide) _) k_J0_length_8abf5 im_yJ0_length_8abf5 se_yJ0_length_8abf5 ml_RX5_107 dX5_takeKind_5 rfl (by decide) rfl rfl rfl (Nat.le_of_ble_eq_true rfl) ⟨Nat.le_of_ble_eq_true rfl, Nat.le_of_ble_eq_true rfl⟩ ⟨Nat.le_of_ble_eq_true rfl, Nat.le_of_ble_eq_true rfl⟩ (fR_k ?_) fR_x (Nat.le_of_ble_eq_true rfl) (Nat.le_of_ble_eq_true rfl)
      try dsimp only [Option.toList, List.cons_append, List.nil_append]
      refine v_icmp_ge (q := 33) (q2 := 11) hC dX5_takeKind_8 (by decide) rfl (fun c_8 => ?_) (fun c_8 => ?_)
      · exact absurd c_8 (by rw [show (4 : Int32) = nI 4 from rfl]; exact nI_ge (by omega) (by omega))
      · refine v_aload_n (i := 0) (q := 12) hC dX5_takeKind_11 rfl rfl rfl ?_
        refine v_aload_n (i := 1) (q := 13) hC dX5_takeKind_12 rfl rfl rfl ?_
        refine v_ldcT0 (q := 15) hC dX5_takeKind_13 rfl ?_
        refine v_iload_n (i := 2) (q := 16) hC dX5_takeKind_15 rfl rfl rfl ?_
        refine v_callT (q := 19) (rm := rm_J0_charAt_5068e) hC (c_J0_charAt_5068e hl Θ 0 j (by decide) (by omega) _) k_J0_charAt_5068e im_yJ0_charAt_5068e se_yJ0_charAt_5068e ml_RX5_112 dX5_takeKind_16 rfl (by decide) rfl rfl rfl (Nat.le_of_ble_eq_true rfl) ⟨Nat.le_of_ble_eq_true rfl, Nat.le_of_ble_eq_true rfl⟩ ⟨Nat.le_of_ble_eq_true rfl, Nat.le_of_ble_eq_true rfl⟩ (fR_k ?_) fR_x (Nat.le_of_ble_eq_true rfl) (Nat.le_of_ble_eq_true rfl)
        try dsimp only [Option.toList, List.cons_append, List.nil_append]
        refine v_callV (q := 22) (rm := rm_X5_take) hC (c_X5_take hl Θ _ q2 G) k_X5_take im_yX5_take se_yX5_take ml_RX5_29 dX5_takeKind_19 rfl rfl rfl rfl rfl rfl (Nat.le_of_ble_eq_true rfl) ⟨Nat.le_of_ble_eq_true rfl, Nat.le_of_ble_eq_true rfl⟩ ⟨Nat.le_of_ble_eq_true rfl, Nat.le_of_ble_eq_true rfl⟩ (fR_k ?_) fR_x (Nat.le_of_ble_eq_true rfl) (Nat.le_of_ble_eq_true rfl)
        try dsimp only [Option.toList, List.cons_append, List.nil_append]
        refine v_ifb_eq (q := 27) (q2 := 25) hC dX5_takeKind_22 (by decide) rfl (fun c_22 => ?_) (fun c_22 => ?_)
        · refine v_iinc (q := 30) (v := nI (j + 1)) hC dX5_takeKind_27 rfl rfl (nI_1 j) (lvc rfl) (Nat.le_of_ble_eq_true rfl) (Nat.le_of_ble_eq_true rfl) rfl ?_
          refine v_goto (q := 2) hC dX5_takeKind_30 (by decide) ?_
          exact ih (j + 1) _ (by omega) (by rw [← h2, tkd, if_neg (by rw [c_22]; decide)])
        · refine v_iload_n (i := 2) (q := 26) hC dX5_takeKind_25 rfl rfl rfl ?_
          refine v_iret hC dX5_takeKind_26 hr (rfl) ?_ (Nat.le_of_ble_eq_true rfl) (Nat.le_of_ble_eq_true rfl)
          exact ⟨by rw [← h2, tkd, if_pos c_22], by rw [← h2, tkd, if_pos c_22]⟩
  refine v_iconst (q := 1) (v := 0) hC dX5_takeKind_0 rfl (by decide) ?_
  refine v_istore_n (i := 2) (q := 2) hC dX5_takeKind_1 rfl rfl (lvc rfl) (Nat.le_of_ble_eq_true rfl) (Nat.le_of_ble_eq_true rfl) rfl ?_
  exact L 4 0 q rfl rfl
set_option maxHeartbeats 4000000 in
set_option maxRecDepth 20000 in
theorem c_X5_takeRights {l : Launch} (hl : l.stackTraces = false) (Θ : cTH) (q : lT) (G : GS) : Ct l yX5_takeRights cX5_takeRights 4 (some .int) rm_X5_takeRights Θ [.ref (tR Θ 0 27), .ref (tR Θ 0 25)] (lP G q) (fR (some (.int (trg G 4 0 0 q).1)) (lP G (trg G 4 0 0 q).2)) := by
  refine ct_of (LS := [some (.ref (tR Θ 0 27)), some (.ref (tR Θ 0 25)), none, none]) hl (by decide +kernel) rfl (Nat.le_of_ble_eq_true rfl) rfl ?_
  intro p e s m args below meth c hC hr
  have L : ∀ (n j : Nat) (x : Int32) (q2 : lT), n + j = 4 → trg G n j x q2 = trg G 4 0 0 q → V p l e rm_X5_takeRights s m args below meth c 4 Θ (fR (some (.int (trg G 4 0 0 q).1)) (lP G (trg G 4 0 0 q).2)) 0 0 0 0 4 [some (.ref (tR Θ 0 27)), some (.ref (tR Θ 0 25)), some (.int x), some (.int (nI j))] [] (lP G q2) := by
    intro n
    induction n with
    | zero =>
      intro j x q2 h1 h2
      refine v_iload_n (i := 3) (q := 5) hC dX5_takeRights_4 rfl rfl rfl ?_
      refine v_ldcT1 (q := 7) hC dX5_takeRights_5 rfl ?_
      refine v_callT (q := 10) (rm := rm_J0_length_8abf5) hC (c_J0_length_8abf5 hl Θ 1 (by decide) _) k_J0_length_8abf5 im_yJ0_length_8abf5 se_yJ0_length_8abf5 ml_RX5_107 dX5_takeRights_7 rfl (by decide) rfl rfl rfl (Nat.le_of_ble_eq_true rfl) ⟨Nat.le_of_ble_eq_true rfl, Nat.le_of_ble_eq_true rfl⟩ ⟨Nat.le_of_ble_eq_true rfl, Nat.le_of_ble_eq_true rfl⟩ (fR_k ?_) fR_x (Nat.le_of_ble_eq_true rfl) (Nat.le_of_ble_eq_true rfl)
      try dsimp only [Option.toList, List.cons_append, List.nil_append]
      refine v_icmp_ge (q := 39) (q2 := 13) hC dX5_takeRights_10 (by decide) rfl (fun c_10 => ?_) (fun c_10 => ?_)
      · refine v_iload_n (i := 2) (q := 40) hC dX5_takeRights_39 rfl rfl rfl ?_
        refine v_iret hC dX5_takeRights_40 hr (rfl) ?_ (Nat.le_of_ble_eq_true rfl) (Nat.le_of_ble_eq_true rfl)
        exact ⟨by rw [← h2, trg], by rw [← h2, trg]⟩
      · exact absurd (by rw [show j = 4 by omega]; decide) c_10
    | succ n ih =>
      intro j x q2 h1 h2
      refine v_iload_n (i := 3) (q := 5) hC dX5_takeRights_4 rfl rfl rfl ?_
      refine v_ldcT1 (q := 7) hC dX5_takeRights_5 rfl ?_
      refine v_callT (q := 10) (rm := rm_J0_length_8abf5) hC (c_J0_length_8abf5 hl Θ 1 (by decide) _) k_J0_length_8abf5 im_yJ0_length_8abf5 se_yJ0_length_8abf5 ml_RX5_107 dX5_takeRights_7 rfl (by decide) rfl rfl rfl (Nat.le_of_ble_eq_true rfl) ⟨Nat.le_of_ble_eq_true rfl, Nat.le_of_ble_eq_true rfl⟩ ⟨Nat.le_of_ble_eq_true rfl, Nat.le_of_ble_eq_true rfl⟩ (fR_k ?_) fR_x (Nat.le_of_ble_eq_true rfl) (Nat.le_of_ble_eq_true rfl)
      try dsimp only [Option.toList, List.cons_append, List.nil_append]
      refine v_icmp_ge (q := 39) (q2 := 13) hC dX5_takeRights_10 (by decide) rfl (fun c_10 => ?_) (fun c_10 => ?_)
      · exact absurd c_10 (by rw [show (4 : Int32) = nI 4 from rfl]; exact nI_ge (by omega) (by omega))
      · refine v_aload_n (i := 0) (q := 14) hC dX5_takeRights_13 rfl rfl rfl ?_
        refine v_aload_n (i := 1) (q := 15) hC dX5_takeRights_14 rfl rfl rfl ?_
        refine v_ldcT1 (q := 17) hC dX5_takeRights_15 rfl ?_
        refine v_iload_n (i := 3) (q := 18) hC dX5_takeRights_17 rfl rfl rfl ?_
        refine v_callT (q := 21) (rm := rm_J0_charAt_5068e) hC (c_J0_charAt_5068e hl Θ 1 j (by decide) (by omega) _) k_J0_charAt_5068e im_yJ0_charAt_5068e se_yJ0_charAt_5068e ml_RX5_112 dX5_takeRights_18 rfl (by decide) rfl rfl rfl (Nat.le_of_ble_eq_true rfl) ⟨Nat.le_of_ble_eq_true rfl, Nat.le_of_ble_eq_true rfl⟩ ⟨Nat.le_of_ble_eq_true rfl, Nat.le_of_ble_eq_true rfl⟩ (fR_k ?_) fR_x (Nat.le_of_ble_eq_true rfl) (Nat.le_of_ble_eq_true rfl)
        try dsimp only [Option.toList, List.cons_append, List.nil_append]
        refine v_callV (q := 24) (rm := rm_X5_take) hC (c_X5_take hl Θ _ q2 G) k_X5_take im_yX5_take se_yX5_take ml_RX5_29 dX5_takeRights_21 rfl rfl rfl rfl rfl rfl (Nat.le_of_ble_eq_true rfl) ⟨Nat.le_of_ble_eq_true rfl, Nat.le_of_ble_eq_true rfl⟩ ⟨Nat.le_of_ble_eq_true rfl, Nat.le_of_ble_eq_true rfl⟩ (fR_k ?_) fR_x (Nat.le_of_ble_eq_true rfl) (Nat.le_of_ble_eq_true rfl)
        try dsimp only [Option.toList, List.cons_append, List.nil_append]
        refine v_ifb_eq (q := 33) (q2 := 27) hC dX5_takeRights_24 (by decide) rfl (fun c_24 => ?_) (fun c_24 => ?_)
        · refine v_iinc (q := 36) (v := nI (j + 1)) hC dX5_takeRights_33 rfl rfl (nI_1 j) (lvc rfl) (Nat.le_of_ble_eq_true rfl) (Nat.le_of_ble_eq_true rfl) rfl ?_
          refine v_goto (q := 4) hC dX5_takeRights_36 (by decide) ?_
          refine ih (j + 1) _ _ (by omega) ?_
          rw [← h2, trg]
          first | rw [if_pos c_24] | rw [if_neg (by rw [c_24]; decide)]
        · refine v_iload_n (i := 2) (q := 28) hC dX5_takeRights_27 rfl rfl rfl ?_
          refine v_iconst (q := 29) (v := 1) hC dX5_takeRights_28 rfl (by decide) ?_
          refine v_iload_n (i := 3) (q := 30) hC dX5_takeRights_29 rfl rfl rfl ?_
          refine v_ishl (q := 31) hC dX5_takeRights_30 rfl ?_
          refine v_ior (q := 32) hC dX5_takeRights_31 rfl ?_
          refine v_istore_n (i := 2) (q := 33) hC dX5_takeRights_32 rfl rfl (lvc rfl) (Nat.le_of_ble_eq_true rfl) (Nat.le_of_ble_eq_true rfl) rfl ?_
          refine v_iinc (q := 36) (v := nI (j + 1)) hC dX5_takeRights_33 rfl rfl (nI_1 j) (lvc rfl) (Nat.le_of_ble_eq_true rfl) (Nat.le_of_ble_eq_true rfl) rfl ?_
          refine v_goto (q := 4) hC dX5_takeRights_36 (by decide) ?_
          refine ih (j + 1) _ _ (by omega) ?_
          rw [← h2, trg]
          first | rw [if_pos c_24] | rw [if_neg (by rw [c_24]; decide)]
  refine v_iconst (q := 1) (v := 0) hC dX5_takeRights_0 rfl (by decide) ?_
  refine v_istore_n (i := 2) (q := 2) hC dX5_takeRights_1 rfl rfl (lvc rfl) (Nat.le_of_ble_eq_true rfl) (Nat.le_of_ble_eq_true rfl) rfl ?_
  refine v_iconst (q := 3) (v := 0) hC dX5_takeRights_2 rfl (by decide) ?_
  refine v_istore_n (i := 3) (q := 4) hC dX5_takeRights_3 rfl rfl (lvc rfl) (Nat.le_of_ble_eq_true rfl) (Nat.le_of_ble_eq_true rfl) rfl ?_
  exact L 4 0 0 q rfl rfl
/-- an entry is taken -/
def te5 (G : GS) (al : Bool) (kind num rg : Int32) (q : lT) : Bool × lT :=
  (true, ((tk G 42 q).2.1, (tk G 42 q).2.2.1, (tk G 42 q).2.2.2.1 + 1, upd (tk G 42 q).2.2.2.2 q.2.2.1.toNatClampNeg (eCode kind num rg al (tk G 42 q).1)))
def te4 (G : GS) (al : Bool) (kind num : Int32) (q : Int32 × lT) : Bool × lT := if q.1 = 0 ∨ jIdx q.2.2.2.1 6 = false then (false, q.2) else te5 G al kind num q.1 q.2
def te3 (G : GS) (al : Bool) (kind : Int32) (q : Int32 × lT) : Bool × lT :=
  if kind = -1 ∨ q.1 = -1 then (false, q.2) else if (tk G 61 q.2).1 = false then (false, (tk G 61 q.2).2) else te4 G al kind q.1 (trg G 4 0 0 (tk G 61 q.2).2)
def te2 (G : GS) (al : Bool) (q : lT) : Bool × lT := te3 G al (tkd G 4 0 q).1 (tnf G (tkd G 4 0 q).1 (tkd G 4 0 q).2)
def te (G : GS) (q : lT) : Bool × lT :=
  if (tk G 43 q).1 = true then te2 G true (tk G 43 q).2 else if (tk G 45 (tk G 43 q).2).1 = true then te2 G false (tk G 45 (tk G 43 q).2).2 else (false, (tk G 45 (tk G 43 q).2).2)
set_option maxHeartbeats 4000000 in
set_option maxRecDepth 20000 in
theorem c_X5_takeEntry {l : Launch} (hl : l.stackTraces = false) (Θ : cTH) (q : lT) (G : GS) : Ct l yX5_takeEntry cX5_takeEntry 6 (some .boolean) rm_X5_takeEntry Θ [.ref (tR Θ 0 27), .ref (tR Θ 0 25)] (lP G q) (fR (some (.int (b2i (te G q).1))) (lP G (te G q).2)) := by
  refine ct_of (LS := [some (.ref (tR Θ 0 27)), some (.ref (tR Θ 0 25)), none, none, none, none]) hl (by decide +kernel) rfl (Nat.le_of_ble_eq_true rfl) rfl ?_
  intro p e s m args below meth c hC hr
  have L5 : ∀ (al : Bool) (kind num rg : Int32) (q2 : lT), te5 G al kind num rg q2 = te G q → jIdx q2.2.2.1 6 = true → V p l e rm_X5_takeEntry s m args below meth c 6 Θ (fR (some (.int (b2i (te G q).1))) (lP G (te G q).2)) 0 0 0 0 87 [some (.ref (tR Θ 0 27)), some (.ref (tR Θ 0 25)), some (.int (b2i al)), some (.int kind), some (.int num), some (.int rg)] [] (lP G q2) := by
    intro al kind num rg q2 h1 h2
    have h3 : (tk G 42 q2).2.2.2.1 = q2.2.2.1 := by
      rw [tk]
      by_cases h : pS G q2.1 = 42
      · rw [if_pos h]
      · rw [if_neg h]
    refine v_aload_n (i := 0) (q := 88) hC dX5_takeEntry_87 rfl rfl rfl ?_
    refine g_X5_3 (q := 91) hC dX5_takeEntry_88 rfl rfl fl_RX5_21 ?_
    refine v_aload_n (i := 0) (q := 92) hC dX5_takeEntry_91 rfl rfl rfl ?_
    refine gl_2 (q := 95) hC dX5_takeEntry_92 rfl rfl fl_RX5_18 ?_
    refine v_iload_n (i := 3) (q := 96) hC dX5_takeEntry_95 rfl rfl rfl ?_
    refine v_iload (q := 98) hC dX5_takeEntry_96 rfl rfl ?_
    refine v_iload (q := 100) hC dX5_takeEntry_98 rfl rfl ?_
    refine v_iload_n (i := 2) (q := 101) hC dX5_takeEntry_100 rfl rfl rfl ?_
    refine v_aload_n (i := 0) (q := 102) hC dX5_takeEntry_101 rfl rfl rfl ?_
    refine v_aload_n (i := 1) (q := 103) hC dX5_takeEntry_102 rfl rfl rfl ?_
    refine v_bipush (q := 105) (v := 42) hC dX5_takeEntry_103 rfl (by decide) ?_
    refine v_callV (q := 108) (rm := rm_X5_take) hC (c_X5_take hl Θ _ q2 G) k_X5_take im_yX5_take se_yX5_take ml_RX5_29 dX5_takeEntry_105 rfl rfl rfl rfl rfl rfl (Nat.le_of_ble_eq_true rfl) ⟨Nat.le_of_ble_eq_true rfl, Nat.le_of_ble_eq_true rfl⟩ ⟨Nat.le_of_ble_eq_true rfl, Nat.le_of_ble_eq_true rfl⟩ (fR_k ?_) fR_x (Nat.le_of_ble_eq_true rfl) (Nat.le_of_ble_eq_true rfl)
    try dsimp only [Option.toList, List.cons_append, List.nil_append]
    refine v_callS (q := 111) (rm := rm_X1_code) hC (c_X1_code hl Θ _ _ _ _ _ _) k_X1_code st_yX1_code ml_RX5_138 dX5_takeEntry_108 rfl  rfl rfl (Nat.le_of_ble_eq_true rfl) ⟨Nat.le_of_ble_eq_true rfl, Nat.le_of_ble_eq_true rfl⟩ ⟨Nat.le_of_ble_eq_true rfl, Nat.le_of_ble_eq_true rfl⟩ (fR_k ?_) fR_x (Nat.le_of_ble_eq_true rfl) (Nat.le_of_ble_eq_true rfl)
    try dsimp only [Option.toList, List.cons_append, List.nil_append]
    refine pl_e (q := 112) hC dX5_takeEntry_111 rfl (jIdx_in h2 rfl) ?_
    refine v_aload_n (i := 0) (q := 113) hC dX5_takeEntry_112 rfl rfl rfl ?_
    refine v_dup (q := 114) hC dX5_takeEntry_113 rfl rfl ?_
    refine gl_2 (q := 117) hC dX5_takeEntry_114 rfl rfl fl_RX5_18 ?_
    refine v_iconst (q := 118) (v := 1) hC dX5_takeEntry_117 rfl (by decide) ?_
    refine v_iadd (q := 119) hC dX5_takeEntry_118 rfl ?_
    refine pl_2 (q := 122) hC dX5_takeEntry_119 rfl rfl fl_RX5_18 ?_
    refine v_iconst (q := 123) (v := 1) hC dX5_takeEntry_122 rfl (by decide) ?_
    refine v_iret hC dX5_takeEntry_123 hr (by first | rfl | exact nar_b) ?_ (Nat.le_of_ble_eq_true rfl) (Nat.le_of_ble_eq_true rfl)
    rw [← h1, te5]; exact ⟨rfl, rfl⟩
  have L4 : ∀ (al : Bool) (kind num rg : Int32) (q2 : lT), te4 G al kind num (rg, q2) = te G q → V p l e rm_X5_takeEntry s m args below meth c 6 Θ (fR (some (.int (b2i (te G q).1))) (lP G (te G q).2)) 0 0 0 0 66 [some (.ref (tR Θ 0 27)), some (.ref (tR Θ 0 25)), some (.int (b2i al)), some (.int kind), some (.int num), none] [.int rg] (lP G q2) := by
    intro al kind num rg q2 h1
    rw [te4] at h1
    dsimp only at h1
    refine v_istore (q := 68) hC dX5_takeEntry_66 rfl (lvc rfl) (Nat.le_of_ble_eq_true rfl) (Nat.le_of_ble_eq_true rfl) rfl ?_
    refine v_iload (q := 70) hC dX5_takeEntry_68 rfl rfl ?_
    refine v_if_eq (q := 85) (q2 := 73) hC dX5_takeEntry_70 (by decide) rfl (fun c_70 => ?_) (fun c_70 => ?_)
    · refine v_iconst (q := 86) (v := 0) hC dX5_takeEntry_85 rfl (by decide) ?_
      refine v_iret hC dX5_takeEntry_86 hr (by first | rfl | exact nar_b) ?_ (Nat.le_of_ble_eq_true rfl) (Nat.le_of_ble_eq_true rfl)
      rw [if_pos (by first | exact Or.inl c_70 | exact Or.inr c_82)] at h1
      rw [← h1]; exact ⟨rfl, rfl⟩
    · refine v_aload_n (i := 0) (q := 74) hC dX5_takeEntry_73 rfl rfl rfl ?_
      refine gl_2 (q := 77) hC dX5_takeEntry_74 rfl rfl fl_RX5_18 ?_
      refine v_bipush (q := 79) (v := 6) hC dX5_takeEntry_77 rfl (by decide) ?_
      refine v_callN (q := 82) (rm := rm_X11_isIndex) hC (c_X11_isIndex hl Θ _ _ _) k_X11_isIndex st_yX11_isIndex nl_RX5_75 dX5_takeEntry_79 rfl  rfl rfl (Nat.le_of_ble_eq_true rfl) ⟨Nat.le_of_ble_eq_true rfl, Nat.le_of_ble_eq_true rfl⟩ ⟨Nat.le_of_ble_eq_true rfl, Nat.le_of_ble_eq_true rfl⟩ (fR_k ?_) fR_x (Nat.le_of_ble_eq_true rfl) (Nat.le_of_ble_eq_true rfl)
      try dsimp only [Option.toList, List.cons_append, List.nil_append]
      refine v_ifb_ne (q := 87) (q2 := 85) hC dX5_takeEntry_82 (by decide) rfl (fun c_82 => ?_) (fun c_82 => ?_)
      · rw [if_neg (by rw [not_or]; exact ⟨c_70, by rw [show jIdx _ 6 = true from c_82]; decide⟩)] at h1
        exact L5 al kind num rg q2 h1 c_82
      · refine v_iconst (q := 86) (v := 0) hC dX5_takeEntry_85 rfl (by decide) ?_
        refine v_iret hC dX5_takeEntry_86 hr (by first | rfl | exact nar_b) ?_ (Nat.le_of_ble_eq_true rfl) (Nat.le_of_ble_eq_true rfl)
        rw [if_pos (by first | exact Or.inl c_70 | exact Or.inr c_82)] at h1
        rw [← h1]; exact ⟨rfl, rfl⟩
  have L3 : ∀ (al : Bool) (kind num : Int32) (q2 : lT), te3 G al kind (num, q2) = te G q → V p l e rm_X5_takeEntry s m args below meth c 6 Θ (fR (some (.int (b2i (te G q).1))) (lP G (te G q).2)) 0 0 0 0 36 [some (.ref (tR Θ 0 27)), some (.ref (tR Θ 0 25)), some (.int (b2i al)), some (.int kind), none, none] [.int num] (lP G q2) := by
    intro al kind num q2 h1
    rw [te3] at h1
    dsimp only at h1
    refine v_istore (q := 38) hC dX5_takeEntry_36 rfl (lvc rfl) (Nat.le_of_ble_eq_true rfl) (Nat.le_of_ble_eq_true rfl) rfl ?_
    refine v_iload_n (i := 3) (q := 39) hC dX5_takeEntry_38 rfl rfl rfl ?_
    refine v_iconst (q := 40) (v := (-1)) hC dX5_takeEntry_39 rfl (by decide) ?_
    refine v_icmp_eq (q := 59) (q2 := 43) hC dX5_takeEntry_40 (by decide) rfl (fun c_40 => ?_) (fun c_40 => ?_)
    · refine v_iconst (q := 60) (v := 0) hC dX5_takeEntry_59 rfl (by decide) ?_
      refine v_iret hC dX5_takeEntry_60 hr (by first | rfl | exact nar_b) ?_ (Nat.le_of_ble_eq_true rfl) (Nat.le_of_ble_eq_true rfl)
      first | rw [if_pos (by first | exact Or.inl c_40 | exact Or.inr c_46)] at h1 | rw [if_neg (not_or.mpr ⟨c_40, c_46⟩), if_pos c_56] at h1
      rw [← h1]; exact ⟨rfl, rfl⟩
    · refine v_iload (q := 45) hC dX5_takeEntry_43 rfl rfl ?_
      refine v_iconst (q := 46) (v := (-1)) hC dX5_takeEntry_45 rfl (by decide) ?_
      refine v_icmp_eq (q := 59) (q2 := 49) hC dX5_takeEntry_46 (by decide) rfl (fun c_46 => ?_) (fun c_46 => ?_)
      · refine v_iconst (q := 60) (v := 0) hC dX5_takeEntry_59 rfl (by decide) ?_
        refine v_iret hC dX5_takeEntry_60 hr (by first | rfl | exact nar_b) ?_ (Nat.le_of_ble_eq_true rfl) (Nat.le_of_ble_eq_true rfl)
        first | rw [if_pos (by first | exact Or.inl c_40 | exact Or.inr c_46)] at h1 | rw [if_neg (not_or.mpr ⟨c_40, c_46⟩), if_pos c_56] at h1
        rw [← h1]; exact ⟨rfl, rfl⟩
      · refine v_aload_n (i := 0) (q := 50) hC dX5_takeEntry_49 rfl rfl rfl ?_
        refine v_aload_n (i := 1) (q := 51) hC dX5_takeEntry_50 rfl rfl rfl ?_
        refine v_bipush (q := 53) (v := 61) hC dX5_takeEntry_51 rfl (by decide) ?_
        refine v_callV (q := 56) (rm := rm_X5_take) hC (c_X5_take hl Θ _ q2 G) k_X5_take im_yX5_take se_yX5_take ml_RX5_29 dX5_takeEntry_53 rfl rfl rfl rfl rfl rfl (Nat.le_of_ble_eq_true rfl) ⟨Nat.le_of_ble_eq_true rfl, Nat.le_of_ble_eq_true rfl⟩ ⟨Nat.le_of_ble_eq_true rfl, Nat.le_of_ble_eq_true rfl⟩ (fR_k ?_) fR_x (Nat.le_of_ble_eq_true rfl) (Nat.le_of_ble_eq_true rfl)
        try dsimp only [Option.toList, List.cons_append, List.nil_append]
        refine v_ifb_ne (q := 61) (q2 := 59) hC dX5_takeEntry_56 (by decide) rfl (fun c_56 => ?_) (fun c_56 => ?_)
        · refine v_aload_n (i := 0) (q := 62) hC dX5_takeEntry_61 rfl rfl rfl ?_
          refine v_aload_n (i := 1) (q := 63) hC dX5_takeEntry_62 rfl rfl rfl ?_
          refine v_callV (q := 66) (rm := rm_X5_takeRights) hC (c_X5_takeRights hl Θ _ G) k_X5_takeRights im_yX5_takeRights se_yX5_takeRights ml_RX5_135 dX5_takeEntry_63 rfl rfl rfl rfl rfl rfl (Nat.le_of_ble_eq_true rfl) ⟨Nat.le_of_ble_eq_true rfl, Nat.le_of_ble_eq_true rfl⟩ ⟨Nat.le_of_ble_eq_true rfl, Nat.le_of_ble_eq_true rfl⟩ (fR_k ?_) fR_x (Nat.le_of_ble_eq_true rfl) (Nat.le_of_ble_eq_true rfl)
          try dsimp only [Option.toList, List.cons_append, List.nil_append]
          rw [if_neg (not_or.mpr ⟨c_40, c_46⟩), if_neg (by rw [c_56]; decide)] at h1
          exact L4 al kind num _ _ h1
        · refine v_iconst (q := 60) (v := 0) hC dX5_takeEntry_59 rfl (by decide) ?_
          refine v_iret hC dX5_takeEntry_60 hr (by first | rfl | exact nar_b) ?_ (Nat.le_of_ble_eq_true rfl) (Nat.le_of_ble_eq_true rfl)
          first | rw [if_pos (by first | exact Or.inl c_40 | exact Or.inr c_46)] at h1 | rw [if_neg (not_or.mpr ⟨c_40, c_46⟩), if_pos c_56] at h1
          rw [← h1]; exact ⟨rfl, rfl⟩
  have L : ∀ (al : Bool) (q2 : lT), te2 G al q2 = te G q → V p l e rm_X5_takeEntry s m args below meth c 6 Θ (fR (some (.int (b2i (te G q).1))) (lP G (te G q).2)) 0 0 0 0 24 [some (.ref (tR Θ 0 27)), some (.ref (tR Θ 0 25)), some (.int (b2i al)), none, none, none] [] (lP G q2) := by
    intro al q2 h1
    rw [te2] at h1
    refine v_aload_n (i := 0) (q := 25) hC dX5_takeEntry_24 rfl rfl rfl ?_
    refine v_aload_n (i := 1) (q := 26) hC dX5_takeEntry_25 rfl rfl rfl ?_
    refine v_callV (q := 29) (rm := rm_X5_takeKind) hC (c_X5_takeKind hl Θ q2 G) k_X5_takeKind im_yX5_takeKind se_yX5_takeKind ml_RX5_127 dX5_takeEntry_26 rfl rfl rfl rfl rfl rfl (Nat.le_of_ble_eq_true rfl) ⟨Nat.le_of_ble_eq_true rfl, Nat.le_of_ble_eq_true rfl⟩ ⟨Nat.le_of_ble_eq_true rfl, Nat.le_of_ble_eq_true rfl⟩ (fR_k ?_) fR_x (Nat.le_of_ble_eq_true rfl) (Nat.le_of_ble_eq_true rfl)
    try dsimp only [Option.toList, List.cons_append, List.nil_append]
    refine v_istore_n (i := 3) (q := 30) hC dX5_takeEntry_29 rfl rfl (lvc rfl) (Nat.le_of_ble_eq_true rfl) (Nat.le_of_ble_eq_true rfl) rfl ?_
    refine v_aload_n (i := 0) (q := 31) hC dX5_takeEntry_30 rfl rfl rfl ?_
    refine v_iload_n (i := 3) (q := 32) hC dX5_takeEntry_31 rfl rfl rfl ?_
    refine v_aload_n (i := 1) (q := 33) hC dX5_takeEntry_32 rfl rfl rfl ?_
    refine v_callV (q := 36) (rm := rm_X5_takeNumberOf) hC (c_X5_takeNumberOf hl Θ _ _ G) k_X5_takeNumberOf im_yX5_takeNumberOf se_yX5_takeNumberOf ml_RX5_131 dX5_takeEntry_33 rfl rfl rfl rfl rfl rfl (Nat.le_of_ble_eq_true rfl) ⟨Nat.le_of_ble_eq_true rfl, Nat.le_of_ble_eq_true rfl⟩ ⟨Nat.le_of_ble_eq_true rfl, Nat.le_of_ble_eq_true rfl⟩ (fR_k ?_) fR_x (Nat.le_of_ble_eq_true rfl) (Nat.le_of_ble_eq_true rfl)
    try dsimp only [Option.toList, List.cons_append, List.nil_append]
    exact L3 al _ _ _ h1
  refine v_aload_n (i := 0) (q := 1) hC dX5_takeEntry_0 rfl rfl rfl ?_
  refine v_aload_n (i := 1) (q := 2) hC dX5_takeEntry_1 rfl rfl rfl ?_
  refine v_bipush (q := 4) (v := 43) hC dX5_takeEntry_2 rfl (by decide) ?_
  refine v_callV (q := 7) (rm := rm_X5_take) hC (c_X5_take hl Θ _ q G) k_X5_take im_yX5_take se_yX5_take ml_RX5_29 dX5_takeEntry_4 rfl rfl rfl rfl rfl rfl (Nat.le_of_ble_eq_true rfl) ⟨Nat.le_of_ble_eq_true rfl, Nat.le_of_ble_eq_true rfl⟩ ⟨Nat.le_of_ble_eq_true rfl, Nat.le_of_ble_eq_true rfl⟩ (fR_k ?_) fR_x (Nat.le_of_ble_eq_true rfl) (Nat.le_of_ble_eq_true rfl)
  try dsimp only [Option.toList, List.cons_append, List.nil_append]
  refine v_istore_n (i := 2) (q := 8) hC dX5_takeEntry_7 rfl rfl (lvc rfl) (Nat.le_of_ble_eq_true rfl) (Nat.le_of_ble_eq_true rfl) rfl ?_
  refine v_iload_n (i := 2) (q := 9) hC dX5_takeEntry_8 rfl rfl rfl ?_
  refine v_if_ne (q := 24) (q2 := 12) hC dX5_takeEntry_9 (by decide) rfl (fun c_9 => ?_) (fun c_9 => ?_)
  · first | (have e9 := b2i_ne0.mp c_9; rw [e9]; exact L true _ (by rw [te, if_pos e9])) | (have e9 := b2i_eq0.mp c_9; rw [e9]; exact L false _ (by rw [te, if_neg (by rw [e9]; decide), if_pos c_19]))
  · refine v_aload_n (i := 0) (q := 13) hC dX5_takeEntry_12 rfl rfl rfl ?_
    refine v_aload_n (i := 1) (q := 14) hC dX5_takeEntry_13 rfl rfl rfl ?_
    refine v_bipush (q := 16) (v := 45) hC dX5_takeEntry_14 rfl (by decide) ?_
    refine v_callV (q := 19) (rm := rm_X5_take) hC (c_X5_take hl Θ _ _ G) k_X5_take im_yX5_take se_yX5_take ml_RX5_29 dX5_takeEntry_16 rfl rfl rfl rfl rfl rfl (Nat.le_of_ble_eq_true rfl) ⟨Nat.le_of_ble_eq_true rfl, Nat.le_of_ble_eq_true rfl⟩ ⟨Nat.le_of_ble_eq_true rfl, Nat.le_of_ble_eq_true rfl⟩ (fR_k ?_) fR_x (Nat.le_of_ble_eq_true rfl) (Nat.le_of_ble_eq_true rfl)
    try dsimp only [Option.toList, List.cons_append, List.nil_append]
    refine v_ifb_ne (q := 24) (q2 := 22) hC dX5_takeEntry_19 (by decide) rfl (fun c_19 => ?_) (fun c_19 => ?_)
    · first | (have e9 := b2i_ne0.mp c_9; rw [e9]; exact L true _ (by rw [te, if_pos e9])) | (have e9 := b2i_eq0.mp c_9; rw [e9]; exact L false _ (by rw [te, if_neg (by rw [e9]; decide), if_pos c_19]))
    · refine v_iconst (q := 23) (v := 0) hC dX5_takeEntry_22 rfl (by decide) ?_
      refine v_iret hC dX5_takeEntry_23 hr (by first | rfl | exact nar_b) ?_ (Nat.le_of_ble_eq_true rfl) (Nat.le_of_ble_eq_true rfl)
      rw [te, if_neg (by rw [b2i_eq0.mp c_9]; decide), if_neg (by rw [c_19]; decide)]
      exact ⟨rfl, rfl⟩
def rdL (G : GS) : Nat → Nat → lT → Bool × lT
  | 0, _, q => (false, q)
  | n + 1, j, q => if (te G q).1 = false then (false, (te G q).2) else if nI j = 6 then (decide ((te G q).2.1 = G.1 0 25 0), (te G q).2)
    else if (tk G 59 (te G q).2).1 = true then rdL G n (j + 1) (tk G 59 (te G q).2).2 else (decide ((tk G 59 (te G q).2).2.1 = G.1 0 25 0), (tk G 59 (te G q).2).2)
def rd2 (G : GS) (q : lT) : Bool × lT := if (tk G 58 q).1 = false then (false, (tk G 58 q).2) else if (tk G 58 q).2.1 = G.1 0 25 0 then (true, (tk G 58 q).2) else rdL G 6 1 (tk G 58 q).2
def rd1 (G : GS) (q : Int32 × lT) : Bool × lT := if q.1 = -1 then (false, (q.2.1, q.1, q.2.2.2)) else rd2 G (q.2.1, q.1, q.2.2.2)
def rd (G : GS) (q : lT) : Bool × lT := rd1 G (tn G 20 (0, q.2.1, 0, q.2.2.2))
set_option maxHeartbeats 4000000 in
set_option maxRecDepth 20000 in
theorem c_X5_read {l : Launch} (hl : l.stackTraces = false) (Θ : cTH) (q : lT) (G : GS) : Ct l yX5_read cX5_read 3 (some .boolean) rm_X5_read Θ [.ref (tR Θ 0 27), .ref (tR Θ 0 25)] (lP G q) (fR (some (.int (b2i (rd G q).1))) (lP G (rd G q).2)) := by
  refine ct_of (LS := [some (.ref (tR Θ 0 27)), some (.ref (tR Θ 0 25)), none]) hl (by decide +kernel) rfl (Nat.le_of_ble_eq_true rfl) rfl ?_
  intro p e s m args below meth c hC hr
  have L : ∀ (n j : Nat) (q2 : lT), n + j = 7 → rdL G n j q2 = rd G q → V p l e rm_X5_read s m args below meth c 3 Θ (fR (some (.int (b2i (rd G q).1))) (lP G (rd G q).2)) 0 0 0 0 56 [some (.ref (tR Θ 0 27)), some (.ref (tR Θ 0 25)), some (.int (nI j))] [] (lP G q2) := by
    intro n
    induction n with
    | zero =>
      intro j q2 h1 h2
      refine v_iload_n (i := 2) (q := 57) hC dX5_read_56 rfl rfl rfl ?_
      refine v_bipush (q := 59) (v := 6) hC dX5_read_57 rfl (by decide) ?_
      refine v_icmp_gt (q := 111) (q2 := 62) hC dX5_read_59 (by decide) rfl (fun c_59 => ?_) (fun c_59 => ?_)
      · refine v_iconst (q := 112) (v := 0) hC dX5_read_111 rfl (by decide) ?_
        refine v_iret hC dX5_read_112 hr (by first | rfl | exact nar_b) ?_ (Nat.le_of_ble_eq_true rfl) (Nat.le_of_ble_eq_true rfl)
        exact ⟨by rw [← h2, rdL]; rfl, by rw [← h2, rdL]⟩
      · exact absurd (by rw [show j = 7 by omega]; decide) c_59
    | succ n ih =>
      intro j q2 h1 h2
      rw [rdL] at h2
      refine v_iload_n (i := 2) (q := 57) hC dX5_read_56 rfl rfl rfl ?_
      refine v_bipush (q := 59) (v := 6) hC dX5_read_57 rfl (by decide) ?_
      refine v_icmp_gt (q := 111) (q2 := 62) hC dX5_read_59 (by decide) rfl (fun c_59 => ?_) (fun c_59 => ?_)
      · exact absurd c_59 (by rw [Int32.not_lt]; exact nI_le (b := 6) (by omega) (by decide))
      · refine v_aload_n (i := 0) (q := 63) hC dX5_read_62 rfl rfl rfl ?_
        refine v_aload_n (i := 1) (q := 64) hC dX5_read_63 rfl rfl rfl ?_
        refine v_callV (q := 67) (rm := rm_X5_takeEntry) hC (c_X5_takeEntry hl Θ q2 G) k_X5_takeEntry im_yX5_takeEntry se_yX5_takeEntry ml_RX5_38 dX5_read_64 rfl rfl rfl rfl rfl rfl (Nat.le_of_ble_eq_true rfl) ⟨Nat.le_of_ble_eq_true rfl, Nat.le_of_ble_eq_true rfl⟩ ⟨Nat.le_of_ble_eq_true rfl, Nat.le_of_ble_eq_true rfl⟩ (fR_k ?_) fR_x (Nat.le_of_ble_eq_true rfl) (Nat.le_of_ble_eq_true rfl)
        try dsimp only [Option.toList, List.cons_append, List.nil_append]
        refine v_ifb_ne (q := 72) (q2 := 70) hC dX5_read_67 (by decide) rfl (fun c_67 => ?_) (fun c_67 => ?_)
        · refine v_iload_n (i := 2) (q := 73) hC dX5_read_72 rfl rfl rfl ?_
          refine v_bipush (q := 75) (v := 6) hC dX5_read_73 rfl (by decide) ?_
          refine v_icmp_eq (q := 88) (q2 := 78) hC dX5_read_75 (by decide) rfl (fun c_75 => ?_) (fun c_75 => ?_)
          · refine v_aload_n (i := 0) (q := 89) hC dX5_read_88 rfl rfl rfl ?_
            refine gl_0 (q := 92) hC dX5_read_89 rfl rfl fl_RX5_9 ?_
            refine v_aload_n (i := 1) (q := 93) hC dX5_read_92 rfl rfl rfl ?_
            refine gl_p (q := 96) hC dX5_read_93 rfl rfl fl_RX5_33 ?_
            refine v_icmp_ne (q := 103) (q2 := 99) hC dX5_read_96 (by decide) rfl (fun c_96 => ?_) (fun c_96 => ?_)
            · refine v_iconst (q := 104) (v := 0) hC dX5_read_103 rfl (by decide) ?_
              refine v_iret hC dX5_read_104 hr (by first | rfl | exact nar_b) ?_ (Nat.le_of_ble_eq_true rfl) (Nat.le_of_ble_eq_true rfl)
              rw [if_neg (by rw [c_67]; decide)] at h2
              first | rw [if_pos c_75] at h2 | rw [if_neg c_75, if_neg (by rw [c_85]; decide)] at h2
              first | (rw [decide_eq_true c_96] at h2; exact ⟨by rw [← h2]; rfl, by rw [← h2]⟩) | (rw [decide_eq_false c_96] at h2; exact ⟨by rw [← h2]; rfl, by rw [← h2]⟩)
            · refine v_iconst (q := 100) (v := 1) hC dX5_read_99 rfl (by decide) ?_
              refine v_goto (q := 104) hC dX5_read_100 (by decide) ?_
              refine v_iret hC dX5_read_104 hr (by first | rfl | exact nar_b) ?_ (Nat.le_of_ble_eq_true rfl) (Nat.le_of_ble_eq_true rfl)
              rw [if_neg (by rw [c_67]; decide)] at h2
              first | rw [if_pos c_75] at h2 | rw [if_neg c_75, if_neg (by rw [c_85]; decide)] at h2
              first | (rw [decide_eq_true c_96] at h2; exact ⟨by rw [← h2]; rfl, by rw [← h2]⟩) | (rw [decide_eq_false c_96] at h2; exact ⟨by rw [← h2]; rfl, by rw [← h2]⟩)
          · refine v_aload_n (i := 0) (q := 79) hC dX5_read_78 rfl rfl rfl ?_
            refine v_aload_n (i := 1) (q := 80) hC dX5_read_79 rfl rfl rfl ?_
            refine v_bipush (q := 82) (v := 59) hC dX5_read_80 rfl (by decide) ?_
            refine v_callV (q := 85) (rm := rm_X5_take) hC (c_X5_take hl Θ _ _ G) k_X5_take im_yX5_take se_yX5_take ml_RX5_29 dX5_read_82 rfl rfl rfl rfl rfl rfl (Nat.le_of_ble_eq_true rfl) ⟨Nat.le_of_ble_eq_true rfl, Nat.le_of_ble_eq_true rfl⟩ ⟨Nat.le_of_ble_eq_true rfl, Nat.le_of_ble_eq_true rfl⟩ (fR_k ?_) fR_x (Nat.le_of_ble_eq_true rfl) (Nat.le_of_ble_eq_true rfl)
            try dsimp only [Option.toList, List.cons_append, List.nil_append]
            refine v_ifb_ne (q := 105) (q2 := 88) hC dX5_read_85 (by decide) rfl (fun c_85 => ?_) (fun c_85 => ?_)
            · refine v_iinc (q := 108) (v := nI (j + 1)) hC dX5_read_105 rfl rfl (nI_1 j) (lvc rfl) (Nat.le_of_ble_eq_true rfl) (Nat.le_of_ble_eq_true rfl) rfl ?_
              refine v_goto (q := 56) hC dX5_read_108 (by decide) ?_
              rw [if_neg (by rw [c_67]; decide), if_neg c_75, if_pos c_85] at h2
              exact ih (j + 1) _ (by omega) h2
            · refine v_aload_n (i := 0) (q := 89) hC dX5_read_88 rfl rfl rfl ?_
              refine gl_0 (q := 92) hC dX5_read_89 rfl rfl fl_RX5_9 ?_
              refine v_aload_n (i := 1) (q := 93) hC dX5_read_92 rfl rfl rfl ?_
              refine gl_p (q := 96) hC dX5_read_93 rfl rfl fl_RX5_33 ?_
              refine v_icmp_ne (q := 103) (q2 := 99) hC dX5_read_96 (by decide) rfl (fun c_96 => ?_) (fun c_96 => ?_)
              · refine v_iconst (q := 104) (v := 0) hC dX5_read_103 rfl (by decide) ?_
                refine v_iret hC dX5_read_104 hr (by first | rfl | exact nar_b) ?_ (Nat.le_of_ble_eq_true rfl) (Nat.le_of_ble_eq_true rfl)
                rw [if_neg (by rw [c_67]; decide)] at h2
                first | rw [if_pos c_75] at h2 | rw [if_neg c_75, if_neg (by rw [c_85]; decide)] at h2
                first | (rw [decide_eq_true c_96] at h2; exact ⟨by rw [← h2]; rfl, by rw [← h2]⟩) | (rw [decide_eq_false c_96] at h2; exact ⟨by rw [← h2]; rfl, by rw [← h2]⟩)
              · refine v_iconst (q := 100) (v := 1) hC dX5_read_99 rfl (by decide) ?_
                refine v_goto (q := 104) hC dX5_read_100 (by decide) ?_
                refine v_iret hC dX5_read_104 hr (by first | rfl | exact nar_b) ?_ (Nat.le_of_ble_eq_true rfl) (Nat.le_of_ble_eq_true rfl)
                rw [if_neg (by rw [c_67]; decide)] at h2
                first | rw [if_pos c_75] at h2 | rw [if_neg c_75, if_neg (by rw [c_85]; decide)] at h2
                first | (rw [decide_eq_true c_96] at h2; exact ⟨by rw [← h2]; rfl, by rw [← h2]⟩) | (rw [decide_eq_false c_96] at h2; exact ⟨by rw [← h2]; rfl, by rw [← h2]⟩)
        · refine v_iconst (q := 71) (v := 0) hC dX5_read_70 rfl (by decide) ?_
          refine v_iret hC dX5_read_71 hr (by first | rfl | exact nar_b) ?_ (Nat.le_of_ble_eq_true rfl) (Nat.le_of_ble_eq_true rfl)
          rw [if_pos c_67] at h2
          exact ⟨by rw [← h2]; rfl, by rw [← h2]⟩
  refine v_aload_n (i := 0) (q := 1) hC dX5_read_0 rfl rfl rfl ?_
  refine v_iconst (q := 2) (v := 0) hC dX5_read_1 rfl (by decide) ?_
  refine pl_0 (q := 5) hC dX5_read_2 rfl rfl fl_RX5_9 ?_
  refine v_aload_n (i := 0) (q := 6) hC dX5_read_5 rfl rfl rfl ?_
  refine v_iconst (q := 7) (v := 0) hC dX5_read_6 rfl (by decide) ?_
  refine pl_2 (q := 10) hC dX5_read_7 rfl rfl fl_RX5_18 ?_
  refine v_aload_n (i := 0) (q := 11) hC dX5_read_10 rfl rfl rfl ?_
  refine v_aload_n (i := 0) (q := 12) hC dX5_read_11 rfl rfl rfl ?_
  refine v_aload_n (i := 1) (q := 13) hC dX5_read_12 rfl rfl rfl ?_
  refine v_bipush (q := 15) (v := 20) hC dX5_read_13 rfl (by decide) ?_
  refine v_callV (q := 18) (rm := rm_X5_takeNumber) hC (c_X5_takeNumber hl Θ _ _ G) k_X5_takeNumber im_yX5_takeNumber se_yX5_takeNumber ml_RX5_25 dX5_read_15 rfl rfl rfl rfl rfl rfl (Nat.le_of_ble_eq_true rfl) ⟨Nat.le_of_ble_eq_true rfl, Nat.le_of_ble_eq_true rfl⟩ ⟨Nat.le_of_ble_eq_true rfl, Nat.le_of_ble_eq_true rfl⟩ (fR_k ?_) fR_x (Nat.le_of_ble_eq_true rfl) (Nat.le_of_ble_eq_true rfl)
  try dsimp only [Option.toList, List.cons_append, List.nil_append]
  refine pl_1 (q := 21) hC dX5_read_18 rfl rfl fl_RX5_15 ?_
  refine v_aload_n (i := 0) (q := 22) hC dX5_read_21 rfl rfl rfl ?_
  refine gl_1 (q := 25) hC dX5_read_22 rfl rfl fl_RX5_15 ?_
  refine v_iconst (q := 26) (v := (-1)) hC dX5_read_25 rfl (by decide) ?_
  refine v_icmp_eq (q := 39) (q2 := 29) hC dX5_read_26 (by decide) rfl (fun c_26 => ?_) (fun c_26 => ?_)
  · refine v_iconst (q := 40) (v := 0) hC dX5_read_39 rfl (by decide) ?_
    refine v_iret hC dX5_read_40 hr (by first | rfl | exact nar_b) ?_ (Nat.le_of_ble_eq_true rfl) (Nat.le_of_ble_eq_true rfl)
    rw [rd, rd1]
    first | (rw [if_pos c_26]; exact ⟨rfl, rfl⟩) | (rw [if_neg c_26, rd2, if_pos c_36]; exact ⟨rfl, rfl⟩)
  · refine v_aload_n (i := 0) (q := 30) hC dX5_read_29 rfl rfl rfl ?_
    refine v_aload_n (i := 1) (q := 31) hC dX5_read_30 rfl rfl rfl ?_
    refine v_bipush (q := 33) (v := 58) hC dX5_read_31 rfl (by decide) ?_
    refine v_callV (q := 36) (rm := rm_X5_take) hC (c_X5_take hl Θ _ _ G) k_X5_take im_yX5_take se_yX5_take ml_RX5_29 dX5_read_33 rfl rfl rfl rfl rfl rfl (Nat.le_of_ble_eq_true rfl) ⟨Nat.le_of_ble_eq_true rfl, Nat.le_of_ble_eq_true rfl⟩ ⟨Nat.le_of_ble_eq_true rfl, Nat.le_of_ble_eq_true rfl⟩ (fR_k ?_) fR_x (Nat.le_of_ble_eq_true rfl) (Nat.le_of_ble_eq_true rfl)
    try dsimp only [Option.toList, List.cons_append, List.nil_append]
    refine v_ifb_ne (q := 41) (q2 := 39) hC dX5_read_36 (by decide) rfl (fun c_36 => ?_) (fun c_36 => ?_)
    · refine v_aload_n (i := 0) (q := 42) hC dX5_read_41 rfl rfl rfl ?_
      refine gl_0 (q := 45) hC dX5_read_42 rfl rfl fl_RX5_9 ?_
      refine v_aload_n (i := 1) (q := 46) hC dX5_read_45 rfl rfl rfl ?_
      refine gl_p (q := 49) hC dX5_read_46 rfl rfl fl_RX5_33 ?_
      refine v_icmp_ne (q := 54) (q2 := 52) hC dX5_read_49 (by decide) rfl (fun c_49 => ?_) (fun c_49 => ?_)
      · refine v_iconst (q := 55) (v := 1) hC dX5_read_54 rfl (by decide) ?_
        refine v_istore_n (i := 2) (q := 56) hC dX5_read_55 rfl rfl (lvc rfl) (Nat.le_of_ble_eq_true rfl) (Nat.le_of_ble_eq_true rfl) rfl ?_
        exact L 6 1 _ rfl (by rw [rd, rd1, if_neg c_26, rd2, if_neg (by rw [c_36]; decide), if_neg c_49])
      · refine v_iconst (q := 53) (v := 1) hC dX5_read_52 rfl (by decide) ?_
        refine v_iret hC dX5_read_53 hr (by first | rfl | exact nar_b) ?_ (Nat.le_of_ble_eq_true rfl) (Nat.le_of_ble_eq_true rfl)
        rw [rd, rd1, if_neg c_26, rd2, if_neg (by rw [c_36]; decide), if_pos c_49]
        exact ⟨rfl, rfl⟩
    · refine v_iconst (q := 40) (v := 0) hC dX5_read_39 rfl (by decide) ?_
      refine v_iret hC dX5_read_40 hr (by first | rfl | exact nar_b) ?_ (Nat.le_of_ble_eq_true rfl) (Nat.le_of_ble_eq_true rfl)
      rw [rd, rd1]
      first | (rw [if_pos c_26]; exact ⟨rfl, rfl⟩) | (rw [if_neg c_26, rd2, if_pos c_36]; exact ⟨rfl, rfl⟩)
def knL (G : GS) (q : lT) : Nat → Nat → Bool
  | 0, _ => true
  | n + 1, j => if nI j < q.2.2.1 then (if (eKind (q.2.2.2 j) = 0 ∧ jIdx (eNum (q.2.2.2 j)) (G.1 0 1 0) = false) ∨ (eKind (q.2.2.2 j) = 1 ∧ jIdx (eNum (q.2.2.2 j)) (G.1 0 1 1) = false) then false else knL G q n (j + 1)) else true
def kn (G : GS) (q : lT) : Bool := if tHold (G.1 0 4 0) q.2.1 = true then knL G q 6 0 else false
set_option maxHeartbeats 4000000 in
set_option maxRecDepth 20000 in
theorem c_X5_isKnownTo {l : Launch} (hl : l.stackTraces = false) (Θ : cTH) (q : lT) (G : GS) : Ct l yX5_isKnownTo cX5_isKnownTo 5 (some .boolean) rm_X5_isKnownTo Θ [.ref (tR Θ 0 27), .ref (tR Θ 0 0)] (lP G q) (fR (some (.int (b2i (kn G q)))) (lP G q)) := by
  refine ct_of (LS := [some (.ref (tR Θ 0 27)), some (.ref (tR Θ 0 0)), none, none, none]) hl (by decide +kernel) rfl (Nat.le_of_ble_eq_true rfl) rfl ?_
  intro p e s m args below meth c hC hr
  have L : ∀ (n j : Nat) (x3 x4 : Option Value), n + j = 6 → knL G q n j = kn G q → V p l e rm_X5_isKnownTo s m args below meth c 5 Θ (fR (some (.int (b2i (kn G q)))) (lP G q)) 0 0 0 0 18 [some (.ref (tR Θ 0 27)), some (.ref (tR Θ 0 0)), some (.int (nI j)), x3, x4] [] (lP G q) := by
    intro n
    induction n with
    | zero =>
      intro j x3 x4 h1 h2
      refine v_iload_n (i := 2) (q := 19) hC dX5_isKnownTo_18 rfl rfl rfl ?_
      refine v_bipush (q := 21) (v := 6) hC dX5_isKnownTo_19 rfl (by decide) ?_
      refine v_icmp_ge (q := 92) (q2 := 24) hC dX5_isKnownTo_21 (by decide) rfl (fun c_21 => ?_) (fun c_21 => ?_)
      · refine v_iconst (q := 93) (v := 1) hC dX5_isKnownTo_92 rfl (by decide) ?_
        refine v_iret hC dX5_isKnownTo_93 hr (by first | rfl | exact nar_b) ?_ (Nat.le_of_ble_eq_true rfl) (Nat.le_of_ble_eq_true rfl)
        exact ⟨by rw [← h2, knL]; rfl, rfl⟩
      · exact absurd (by rw [show j = 6 by omega]; decide) c_21
    | succ n ih =>
      intro j x3 x4 h1 h2
      rw [knL] at h2
      have e2 := nI_clamp (show j < 2 ^ 31 by omega)
      refine v_iload_n (i := 2) (q := 19) hC dX5_isKnownTo_18 rfl rfl rfl ?_
      refine v_bipush (q := 21) (v := 6) hC dX5_isKnownTo_19 rfl (by decide) ?_
      refine v_icmp_ge (q := 92) (q2 := 24) hC dX5_isKnownTo_21 (by decide) rfl (fun c_21 => ?_) (fun c_21 => ?_)
      · exact absurd c_21 (by rw [show (6 : Int32) = nI 6 from rfl]; exact nI_ge (by omega) (by omega))
      · refine v_iload_n (i := 2) (q := 25) hC dX5_isKnownTo_24 rfl rfl rfl ?_
        refine v_aload_n (i := 0) (q := 26) hC dX5_isKnownTo_25 rfl rfl rfl ?_
        refine gl_2 (q := 29) hC dX5_isKnownTo_26 rfl rfl fl_RX5_18 ?_
        refine v_icmp_ge (q := 92) (q2 := 32) hC dX5_isKnownTo_29 (by decide) rfl (fun c_29 => ?_) (fun c_29 => ?_)
        · refine v_iconst (q := 93) (v := 1) hC dX5_isKnownTo_92 rfl (by decide) ?_
          refine v_iret hC dX5_isKnownTo_93 hr (by first | rfl | exact nar_b) ?_ (Nat.le_of_ble_eq_true rfl) (Nat.le_of_ble_eq_true rfl)
          rw [if_neg (Int32.not_lt.mpr c_29)] at h2
          exact ⟨by rw [← h2]; rfl, rfl⟩
        · refine v_aload_n (i := 0) (q := 33) hC dX5_isKnownTo_32 rfl rfl rfl ?_
          refine g_X5_3 (q := 36) hC dX5_isKnownTo_33 rfl rfl fl_RX5_21 ?_
          refine v_iload_n (i := 2) (q := 37) hC dX5_isKnownTo_36 rfl rfl rfl ?_
          refine gl_e (q := 38) hC dX5_isKnownTo_37 rfl (vp_in_nI (by omega) (by omega)) ?_
          rw [e2]
          refine v_istore_n (i := 3) (q := 39) hC dX5_isKnownTo_38 rfl rfl (lvc rfl) (Nat.le_of_ble_eq_true rfl) (Nat.le_of_ble_eq_true rfl) rfl ?_
          refine v_iload_n (i := 3) (q := 40) hC dX5_isKnownTo_39 rfl rfl rfl ?_
          refine v_callS (q := 43) (rm := rm_X1_number) hC (c_X1_number hl Θ _ _) k_X1_number st_yX1_number ml_RX5_54 dX5_isKnownTo_40 rfl  rfl rfl (Nat.le_of_ble_eq_true rfl) ⟨Nat.le_of_ble_eq_true rfl, Nat.le_of_ble_eq_true rfl⟩ ⟨Nat.le_of_ble_eq_true rfl, Nat.le_of_ble_eq_true rfl⟩ (fR_k ?_) fR_x (Nat.le_of_ble_eq_true rfl) (Nat.le_of_ble_eq_true rfl)
          try dsimp only [Option.toList, List.cons_append, List.nil_append]
          refine v_istore (q := 45) hC dX5_isKnownTo_43 rfl (lvc rfl) (Nat.le_of_ble_eq_true rfl) (Nat.le_of_ble_eq_true rfl) rfl ?_
          refine v_iload_n (i := 3) (q := 46) hC dX5_isKnownTo_45 rfl rfl rfl ?_
          refine v_callS (q := 49) (rm := rm_X1_kind) hC (c_X1_kind hl Θ _ _) k_X1_kind st_yX1_kind ml_RX5_60 dX5_isKnownTo_46 rfl  rfl rfl (Nat.le_of_ble_eq_true rfl) ⟨Nat.le_of_ble_eq_true rfl, Nat.le_of_ble_eq_true rfl⟩ ⟨Nat.le_of_ble_eq_true rfl, Nat.le_of_ble_eq_true rfl⟩ (fR_k ?_) fR_x (Nat.le_of_ble_eq_true rfl) (Nat.le_of_ble_eq_true rfl)
          try dsimp only [Option.toList, List.cons_append, List.nil_append]
          refine v_if_ne (q := 64) (q2 := 52) hC dX5_isKnownTo_49 (by decide) rfl (fun c_49 => ?_) (fun c_49 => ?_)
          · refine v_iload_n (i := 3) (q := 65) hC dX5_isKnownTo_64 rfl rfl rfl ?_
            refine v_callS (q := 68) (rm := rm_X1_kind) hC (c_X1_kind hl Θ _ _) k_X1_kind st_yX1_kind ml_RX5_60 dX5_isKnownTo_65 rfl  rfl rfl (Nat.le_of_ble_eq_true rfl) ⟨Nat.le_of_ble_eq_true rfl, Nat.le_of_ble_eq_true rfl⟩ ⟨Nat.le_of_ble_eq_true rfl, Nat.le_of_ble_eq_true rfl⟩ (fR_k ?_) fR_x (Nat.le_of_ble_eq_true rfl) (Nat.le_of_ble_eq_true rfl)
            try dsimp only [Option.toList, List.cons_append, List.nil_append]
            refine v_iconst (q := 69) (v := 1) hC dX5_isKnownTo_68 rfl (by decide) ?_
            refine v_icmp_ne (q := 86) (q2 := 72) hC dX5_isKnownTo_69 (by decide) rfl (fun c_69 => ?_) (fun c_69 => ?_)
            · refine v_iinc (q := 89) (v := nI (j + 1)) hC dX5_isKnownTo_86 rfl rfl (nI_1 j) (lvc rfl) (Nat.le_of_ble_eq_true rfl) (Nat.le_of_ble_eq_true rfl) rfl ?_
              refine v_goto (q := 18) hC dX5_isKnownTo_89 (by decide) ?_
              rw [if_pos (Int32.not_le.mp c_29), if_neg ?_] at h2
              · exact ih (j + 1) _ _ (by omega) h2
              · rintro (⟨z1, z2⟩ | ⟨z1, z2⟩)
                · first | exact c_49 z1 | exact absurd (c_61.symm.trans z2) (by decide)
                · first | exact c_69 z1 | exact absurd (c_81.symm.trans z2) (by decide)
            · refine v_aload_n (i := 1) (q := 73) hC dX5_isKnownTo_72 rfl rfl rfl ?_
              refine g_X9_0 (q := 76) hC dX5_isKnownTo_73 rfl rfl fl_RX5_63 ?_
              refine v_iload (q := 78) hC dX5_isKnownTo_76 rfl rfl ?_
              refine v_callV (q := 81) (rm := rm_X0_hasGroup) hC (c_X0_hasGroup hl Θ _ _) k_X0_hasGroup im_yX0_hasGroup se_yX0_hasGroup ml_RX5_72 dX5_isKnownTo_78 rfl rfl rfl rfl rfl rfl (Nat.le_of_ble_eq_true rfl) ⟨Nat.le_of_ble_eq_true rfl, Nat.le_of_ble_eq_true rfl⟩ ⟨Nat.le_of_ble_eq_true rfl, Nat.le_of_ble_eq_true rfl⟩ (fR_k ?_) fR_x (Nat.le_of_ble_eq_true rfl) (Nat.le_of_ble_eq_true rfl)
              try dsimp only [Option.toList, List.cons_append, List.nil_append]
              refine v_ifb_ne (q := 86) (q2 := 84) hC dX5_isKnownTo_81 (by decide) rfl (fun c_81 => ?_) (fun c_81 => ?_)
              · refine v_iinc (q := 89) (v := nI (j + 1)) hC dX5_isKnownTo_86 rfl rfl (nI_1 j) (lvc rfl) (Nat.le_of_ble_eq_true rfl) (Nat.le_of_ble_eq_true rfl) rfl ?_
                refine v_goto (q := 18) hC dX5_isKnownTo_89 (by decide) ?_
                rw [if_pos (Int32.not_le.mp c_29), if_neg ?_] at h2
                · exact ih (j + 1) _ _ (by omega) h2
                · rintro (⟨z1, z2⟩ | ⟨z1, z2⟩)
                  · first | exact c_49 z1 | exact absurd (c_61.symm.trans z2) (by decide)
                  · first | exact c_69 z1 | exact absurd (c_81.symm.trans z2) (by decide)
              · refine v_iconst (q := 85) (v := 0) hC dX5_isKnownTo_84 rfl (by decide) ?_
                refine v_iret hC dX5_isKnownTo_85 hr (by first | rfl | exact nar_b) ?_ (Nat.le_of_ble_eq_true rfl) (Nat.le_of_ble_eq_true rfl)
                rw [if_pos (Int32.not_le.mp c_29), if_pos (by first | exact Or.inl ⟨c_49, c_61⟩ | exact Or.inr ⟨c_69, c_81⟩)] at h2
                exact ⟨by rw [← h2]; rfl, rfl⟩
          · refine v_aload_n (i := 1) (q := 53) hC dX5_isKnownTo_52 rfl rfl rfl ?_
            refine g_X9_0 (q := 56) hC dX5_isKnownTo_53 rfl rfl fl_RX5_63 ?_
            refine v_iload (q := 58) hC dX5_isKnownTo_56 rfl rfl ?_
            refine v_callV (q := 61) (rm := rm_X0_hasUser) hC (c_X0_hasUser hl Θ _ _) k_X0_hasUser im_yX0_hasUser se_yX0_hasUser ml_RX5_67 dX5_isKnownTo_58 rfl rfl rfl rfl rfl rfl (Nat.le_of_ble_eq_true rfl) ⟨Nat.le_of_ble_eq_true rfl, Nat.le_of_ble_eq_true rfl⟩ ⟨Nat.le_of_ble_eq_true rfl, Nat.le_of_ble_eq_true rfl⟩ (fR_k ?_) fR_x (Nat.le_of_ble_eq_true rfl) (Nat.le_of_ble_eq_true rfl)
            try dsimp only [Option.toList, List.cons_append, List.nil_append]
            refine v_ifb_eq (q := 84) (q2 := 64) hC dX5_isKnownTo_61 (by decide) rfl (fun c_61 => ?_) (fun c_61 => ?_)
            · refine v_iconst (q := 85) (v := 0) hC dX5_isKnownTo_84 rfl (by decide) ?_
              refine v_iret hC dX5_isKnownTo_85 hr (by first | rfl | exact nar_b) ?_ (Nat.le_of_ble_eq_true rfl) (Nat.le_of_ble_eq_true rfl)
              rw [if_pos (Int32.not_le.mp c_29), if_pos (by first | exact Or.inl ⟨c_49, c_61⟩ | exact Or.inr ⟨c_69, c_81⟩)] at h2
              exact ⟨by rw [← h2]; rfl, rfl⟩
            · refine v_iload_n (i := 3) (q := 65) hC dX5_isKnownTo_64 rfl rfl rfl ?_
              refine v_callS (q := 68) (rm := rm_X1_kind) hC (c_X1_kind hl Θ _ _) k_X1_kind st_yX1_kind ml_RX5_60 dX5_isKnownTo_65 rfl  rfl rfl (Nat.le_of_ble_eq_true rfl) ⟨Nat.le_of_ble_eq_true rfl, Nat.le_of_ble_eq_true rfl⟩ ⟨Nat.le_of_ble_eq_true rfl, Nat.le_of_ble_eq_true rfl⟩ (fR_k ?_) fR_x (Nat.le_of_ble_eq_true rfl) (Nat.le_of_ble_eq_true rfl)
              try dsimp only [Option.toList, List.cons_append, List.nil_append]
              refine v_iconst (q := 69) (v := 1) hC dX5_isKnownTo_68 rfl (by decide) ?_
              refine v_icmp_ne (q := 86) (q2 := 72) hC dX5_isKnownTo_69 (by decide) rfl (fun c_69 => ?_) (fun c_69 => ?_)
              · refine v_iinc (q := 89) (v := nI (j + 1)) hC dX5_isKnownTo_86 rfl rfl (nI_1 j) (lvc rfl) (Nat.le_of_ble_eq_true rfl) (Nat.le_of_ble_eq_true rfl) rfl ?_
                refine v_goto (q := 18) hC dX5_isKnownTo_89 (by decide) ?_
                rw [if_pos (Int32.not_le.mp c_29), if_neg ?_] at h2
                · exact ih (j + 1) _ _ (by omega) h2
                · rintro (⟨z1, z2⟩ | ⟨z1, z2⟩)
                  · first | exact c_49 z1 | exact absurd (c_61.symm.trans z2) (by decide)
                  · first | exact c_69 z1 | exact absurd (c_81.symm.trans z2) (by decide)
              · refine v_aload_n (i := 1) (q := 73) hC dX5_isKnownTo_72 rfl rfl rfl ?_
                refine g_X9_0 (q := 76) hC dX5_isKnownTo_73 rfl rfl fl_RX5_63 ?_
                refine v_iload (q := 78) hC dX5_isKnownTo_76 rfl rfl ?_
                refine v_callV (q := 81) (rm := rm_X0_hasGroup) hC (c_X0_hasGroup hl Θ _ _) k_X0_hasGroup im_yX0_hasGroup se_yX0_hasGroup ml_RX5_72 dX5_isKnownTo_78 rfl rfl rfl rfl rfl rfl (Nat.le_of_ble_eq_true rfl) ⟨Nat.le_of_ble_eq_true rfl, Nat.le_of_ble_eq_true rfl⟩ ⟨Nat.le_of_ble_eq_true rfl, Nat.le_of_ble_eq_true rfl⟩ (fR_k ?_) fR_x (Nat.le_of_ble_eq_true rfl) (Nat.le_of_ble_eq_true rfl)
                try dsimp only [Option.toList, List.cons_append, List.nil_append]
                refine v_ifb_ne (q := 86) (q2 := 84) hC dX5_isKnownTo_81 (by decide) rfl (fun c_81 => ?_) (fun c_81 => ?_)
                · refine v_iinc (q := 89) (v := nI (j + 1)) hC dX5_isKnownTo_86 rfl rfl (nI_1 j) (lvc rfl) (Nat.le_of_ble_eq_true rfl) (Nat.le_of_ble_eq_true rfl) rfl ?_
                  refine v_goto (q := 18) hC dX5_isKnownTo_89 (by decide) ?_
                  rw [if_pos (Int32.not_le.mp c_29), if_neg ?_] at h2
                  · exact ih (j + 1) _ _ (by omega) h2
                  · rintro (⟨z1, z2⟩ | ⟨z1, z2⟩)
                    · first | exact c_49 z1 | exact absurd (c_61.symm.trans z2) (by decide)
                    · first | exact c_69 z1 | exact absurd (c_81.symm.trans z2) (by decide)
                · refine v_iconst (q := 85) (v := 0) hC dX5_isKnownTo_84 rfl (by decide) ?_
                  refine v_iret hC dX5_isKnownTo_85 hr (by first | rfl | exact nar_b) ?_ (Nat.le_of_ble_eq_true rfl) (Nat.le_of_ble_eq_true rfl)
                  rw [if_pos (Int32.not_le.mp c_29), if_pos (by first | exact Or.inl ⟨c_49, c_61⟩ | exact Or.inr ⟨c_69, c_81⟩)] at h2
                  exact ⟨by rw [← h2]; rfl, rfl⟩
  refine v_aload_n (i := 1) (q := 1) hC dX5_isKnownTo_0 rfl rfl rfl ?_
  refine g_X9_1 (q := 4) hC dX5_isKnownTo_1 rfl rfl fl_RX5_42 ?_
  refine v_aload_n (i := 0) (q := 5) hC dX5_isKnownTo_4 rfl rfl rfl ?_
  refine gl_1 (q := 8) hC dX5_isKnownTo_5 rfl rfl fl_RX5_15 ?_
  refine v_callV (q := 11) (rm := rm_X10_holds) hC (c_X10_holds hl Θ _ _) k_X10_holds im_yX10_holds se_yX10_holds ml_RX5_48 dX5_isKnownTo_8 rfl rfl rfl rfl rfl rfl (Nat.le_of_ble_eq_true rfl) ⟨Nat.le_of_ble_eq_true rfl, Nat.le_of_ble_eq_true rfl⟩ ⟨Nat.le_of_ble_eq_true rfl, Nat.le_of_ble_eq_true rfl⟩ (fR_k ?_) fR_x (Nat.le_of_ble_eq_true rfl) (Nat.le_of_ble_eq_true rfl)
  try dsimp only [Option.toList, List.cons_append, List.nil_append]
  refine v_ifb_ne (q := 16) (q2 := 14) hC dX5_isKnownTo_11 (by decide) rfl (fun c_11 => ?_) (fun c_11 => ?_)
  · refine v_iconst (q := 17) (v := 0) hC dX5_isKnownTo_16 rfl (by decide) ?_
    refine v_istore_n (i := 2) (q := 18) hC dX5_isKnownTo_17 rfl rfl (lvc rfl) (Nat.le_of_ble_eq_true rfl) (Nat.le_of_ble_eq_true rfl) rfl ?_
    exact L 6 0 none none rfl (by rw [kn, if_pos (show tHold (G.1 0 4 0) q.2.1 = true from c_11)])
  · refine v_iconst (q := 15) (v := 0) hC dX5_isKnownTo_14 rfl (by decide) ?_
    refine v_iret hC dX5_isKnownTo_15 hr (by first | rfl | exact nar_b) ?_ (Nat.le_of_ble_eq_true rfl) (Nat.le_of_ble_eq_true rfl)
    exact ⟨by rw [kn, if_neg (by rw [show tHold (G.1 0 4 0) q.2.1 = false from c_11]; decide)]; rfl, rfl⟩
set_option maxHeartbeats 4000000 in
set_option maxRecDepth 20000 in
theorem c_X5_entryAt {l : Launch} (hl : l.stackTraces = false) (Θ : cTH) (x : Int32) (q : lT) (G : GS) : Ct l yX5_entryAt cX5_entryAt 2 (some .int) rm_X5_entryAt Θ [.ref (tR Θ 0 27), .int x] (lP G q) (fR (some (.int (if jIdx x 6 = true then q.2.2.2 x.toNatClampNeg else 0))) (lP G q)) := by
  refine ct_of (LS := [some (.ref (tR Θ 0 27)), some (.int x)]) hl (by decide +kernel) rfl (Nat.le_of_ble_eq_true rfl) rfl ?_
  intro p e s m args below meth c hC hr
  refine v_iload_n (i := 1) (q := 1) hC dX5_entryAt_0 rfl rfl rfl ?_
  refine v_bipush (q := 3) (v := 6) hC dX5_entryAt_1 rfl (by decide) ?_
  refine v_callN (q := 6) (rm := rm_X11_isIndex) hC (c_X11_isIndex hl Θ _ _ _) k_X11_isIndex st_yX11_isIndex nl_RX5_75 dX5_entryAt_3 rfl  rfl rfl (Nat.le_of_ble_eq_true rfl) ⟨Nat.le_of_ble_eq_true rfl, Nat.le_of_ble_eq_true rfl⟩ ⟨Nat.le_of_ble_eq_true rfl, Nat.le_of_ble_eq_true rfl⟩ (fR_k ?_) fR_x (Nat.le_of_ble_eq_true rfl) (Nat.le_of_ble_eq_true rfl)
  try dsimp only [Option.toList, List.cons_append, List.nil_append]
  refine v_ifb_eq (q := 18) (q2 := 9) hC dX5_entryAt_6 (by decide) rfl (fun c_6 => ?_) (fun c_6 => ?_)
  · refine v_iconst (q := 19) (v := 0) hC dX5_entryAt_18 rfl (by decide) ?_
    refine v_iret hC dX5_entryAt_19 hr (rfl) ?_ (Nat.le_of_ble_eq_true rfl) (Nat.le_of_ble_eq_true rfl)
    exact ⟨by simp_all, rfl⟩
  · refine v_aload_n (i := 0) (q := 10) hC dX5_entryAt_9 rfl rfl rfl ?_
    refine g_X5_3 (q := 13) hC dX5_entryAt_10 rfl rfl fl_RX5_21 ?_
    refine v_iload_n (i := 1) (q := 14) hC dX5_entryAt_13 rfl rfl rfl ?_
    refine gl_e (q := 15) hC dX5_entryAt_14 rfl (jIdx_in ‹_› rfl) ?_
    refine v_goto (q := 19) hC dX5_entryAt_15 (by decide) ?_
    refine v_iret hC dX5_entryAt_19 hr (rfl) ?_ (Nat.le_of_ble_eq_true rfl) (Nat.le_of_ble_eq_true rfl)
    exact ⟨by simp_all, rfl⟩
/-- the pad -/
abbrev pT := Int32 × (Nat → Int32)
def pP (G : GS) (q : pT) : GS := putF (putA G 0 26 q.2) 0 25 0 q.1
def pG (G : GS) : pT := (G.1 0 25 0, G.2.1 0 26)
def pPut (x : Int32) (q : pT) : pT := if jIdx q.1 80 = true then (q.1 + 1, upd q.2 q.1.toNatClampNeg x) else q
def pPutN (x : Int32) (q : pT) : pT := pPut (48 + (x - (x / 10) * 10)) (if 10 ≤ x then pPut (48 + x / 10) q else q)
theorem pP_self (G : GS) : pP G (pG G) = G := by
  unfold pP pG
  dsimp only
  rw [putA_self, putF_self]
theorem sPut_pP (x : Int32) (G : GS) (q : pT) : sPut x (pP G q) = pP G (pPut x q) := by
  have e1 : (pP G q).1 0 25 0 = q.1 := by simp [pP, putF_get]
  have e2 : (pP G q).2.1 0 26 = q.2 := by rw [pP, putF_row, putA_same]
  unfold sPut pPut
  rw [e1, e2]
  by_cases h : jIdx q.1 80 = true
  · rw [if_pos h, if_pos h]
    unfold pP
    rw [show putA (putF (putA G 0 26 q.2) 0 25 0 q.1) 0 26 (upd q.2 q.1.toNatClampNeg x) = putF (putA (putA G 0 26 q.2) 0 26 (upd q.2 q.1.toNatClampNeg x)) 0 25 0 q.1 from rfl, putA_putA, putF_putF]
  · rw [if_neg h, if_neg h]
theorem sPutN_pP (x : Int32) (G : GS) (q : pT) : sPutN x (pP G q) = pP G (pPutN x q) := by
  unfold sPutN pPutN
  by_cases h : 10 ≤ x
  · rw [if_pos h, if_pos h, sPut_pP, sPut_pP]
  · rw [if_neg h, if_neg h, sPut_pP]
theorem pP_wipe (G : GS) (q : pT) (x : Int32) : putF (pP G q) 0 25 0 x = pP G (x, q.2) := by
  unfold pP
  rw [putF_putF]
def wR (x : Int32) : Nat → Nat → pT → pT
  | 0, _, q => q
  | n + 1, j, q => wR x n (j + 1) (if jHas (eRights x) (nI j) = true then pPut ((sTx 1).getD j 0) q else q)
def wE1 (x : Int32) (q : pT) : pT := pPut (if eAllows x = true then 43 else 45) q
def wE2 (x : Int32) (q : pT) : pT := if jIdx (eKind x) 4 = true then pPut ((sTx 0).getD (eKind x).toNatClampNeg 0) q else q
def wE3 (x : Int32) (q : pT) : pT := if eKind x = 0 ∨ eKind x = 1 then pPutN (eNum x) q else q
def wE4 (x : Int32) (q : pT) : pT := wR x 4 0 (pPut 61 q)
def wE (x : Int32) (q : pT) : pT := if eBelow x = true then pPut 42 (wE4 x (wE3 x (wE2 x (wE1 x q)))) else wE4 x (wE3 x (wE2 x (wE1 x q)))
theorem c_J0_charAtX {l : Launch} (hl : l.stackTraces = false) (Θ : cTH) (i : Nat) (x : Int32) (hi : i < 2) (h : jIdx x 4 = true) (G : GS) : Ct l yJ0_charAt_5068e cJ0_charAt_5068e 2 (some .char) rm_J0_charAt_5068e Θ [.ref (tR Θ 8 i), .int x] G (fR (some (.int ((sTx i).getD x.toNatClampNeg 0))) G) := by
  obtain ⟨j, hj, rfl⟩ := jIdx_nI h (N := 4) rfl (by decide)
  rw [nI_clamp (by omega)]
  exact c_J0_charAt_5068e hl Θ i j hi hj G
set_option maxHeartbeats 4000000 in
set_option maxRecDepth 20000 in
theorem c_X5_writeEntry {l : Launch} (hl : l.stackTraces = false) (Θ : cTH) (x : Int32) (q : pT) (G : GS) : Ct l yX5_writeEntry cX5_writeEntry 5 none rm_X5_writeEntry Θ [.ref (tR Θ 0 27), .ref (tR Θ 0 25), .int x] (pP G q) (fR none (pP G (wE x q))) := by
  refine ct_of (LS := [some (.ref (tR Θ 0 27)), some (.ref (tR Θ 0 25)), some (.int x), none, none]) hl (by decide +kernel) rfl (Nat.le_of_ble_eq_true rfl) rfl ?_
  intro p e s m args below meth c hC hr
  have L5 : ∀ (n j : Nat) (q2 : pT), n + j = 4 → wR x n j q2 = wE4 x (wE3 x (wE2 x (wE1 x q))) → V p l e rm_X5_writeEntry s m args below meth c 5 Θ (fR none (pP G (wE x q))) 0 0 0 0 71 [some (.ref (tR Θ 0 27)), some (.ref (tR Θ 0 25)), some (.int x), some (.int (eKind x)), some (.int (nI j))] [] (pP G q2) := by
    intro n
    induction n with
    | zero =>
      intro j q2 h1 h2
      rw [wR] at h2
      refine v_iload (q := 73) hC dX5_writeEntry_71 rfl rfl ?_
      refine v_ldcT1 (q := 75) hC dX5_writeEntry_73 rfl ?_
      refine v_callT (q := 78) (rm := rm_J0_length_8abf5) hC (c_J0_length_8abf5 hl Θ 1 (by decide) _) k_J0_length_8abf5 im_yJ0_length_8abf5 se_yJ0_length_8abf5 ml_RX5_107 dX5_writeEntry_75 rfl (by decide) rfl rfl rfl (Nat.le_of_ble_eq_true rfl) ⟨Nat.le_of_ble_eq_true rfl, Nat.le_of_ble_eq_true rfl⟩ ⟨Nat.le_of_ble_eq_true rfl, Nat.le_of_ble_eq_true rfl⟩ (fR_k ?_) fR_x (Nat.le_of_ble_eq_true rfl) (Nat.le_of_ble_eq_true rfl)
      try dsimp only [Option.toList, List.cons_append, List.nil_append]
      refine v_icmp_ge (q := 110) (q2 := 81) hC dX5_writeEntry_78 (by decide) rfl (fun c_78 => ?_) (fun c_78 => ?_)
      · refine v_iload_n (i := 2) (q := 111) hC dX5_writeEntry_110 rfl rfl rfl ?_
        refine v_callS (q := 114) (rm := rm_X1_countsBelow) hC (c_X1_countsBelow hl Θ _ _) k_X1_countsBelow st_yX1_countsBelow ml_RX5_124 dX5_writeEntry_111 rfl  rfl rfl (Nat.le_of_ble_eq_true rfl) ⟨Nat.le_of_ble_eq_true rfl, Nat.le_of_ble_eq_true rfl⟩ ⟨Nat.le_of_ble_eq_true rfl, Nat.le_of_ble_eq_true rfl⟩ (fR_k ?_) fR_x (Nat.le_of_ble_eq_true rfl) (Nat.le_of_ble_eq_true rfl)
        try dsimp only [Option.toList, List.cons_append, List.nil_append]
        refine v_ifb_eq (q := 123) (q2 := 117) hC dX5_writeEntry_114 (by decide) rfl (fun c_114 => ?_) (fun c_114 => ?_)
        · refine v_vret hC dX5_writeEntry_123 hr ?_ (Nat.le_of_ble_eq_true rfl) (Nat.le_of_ble_eq_true rfl)
          refine ⟨rfl, ?_⟩
          rw [wE, ← h2]
          first | rw [if_pos c_114] | rw [if_neg (by rw [c_114]; decide)]
        · refine v_aload_n (i := 1) (q := 118) hC dX5_writeEntry_117 rfl rfl rfl ?_
          refine v_bipush (q := 120) (v := 42) hC dX5_writeEntry_118 rfl (by decide) ?_
          refine v_callV (q := 123) (rm := rm_X8_put) hC (c_X8_put hl Θ _ _) k_X8_put im_yX8_put se_yX8_put ml_RX5_86 dX5_writeEntry_120 rfl rfl rfl rfl rfl rfl (Nat.le_of_ble_eq_true rfl) ⟨Nat.le_of_ble_eq_true rfl, Nat.le_of_ble_eq_true rfl⟩ ⟨Nat.le_of_ble_eq_true rfl, Nat.le_of_ble_eq_true rfl⟩ (fR_k ?_) fR_x (Nat.le_of_ble_eq_true rfl) (Nat.le_of_ble_eq_true rfl)
          try dsimp only [Option.toList, List.cons_append, List.nil_append]
          rw [sPut_pP]
          refine v_vret hC dX5_writeEntry_123 hr ?_ (Nat.le_of_ble_eq_true rfl) (Nat.le_of_ble_eq_true rfl)
          refine ⟨rfl, ?_⟩
          rw [wE, ← h2]
          first | rw [if_pos c_114] | rw [if_neg (by rw [c_114]; decide)]
      · exact absurd (by rw [show j = 4 by omega]; decide) c_78
    | succ n ih =>
      intro j q2 h1 h2
      rw [wR] at h2
      refine v_iload (q := 73) hC dX5_writeEntry_71 rfl rfl ?_
      refine v_ldcT1 (q := 75) hC dX5_writeEntry_73 rfl ?_
      refine v_callT (q := 78) (rm := rm_J0_length_8abf5) hC (c_J0_length_8abf5 hl Θ 1 (by decide) _) k_J0_length_8abf5 im_yJ0_length_8abf5 se_yJ0_length_8abf5 ml_RX5_107 dX5_writeEntry_75 rfl (by decide) rfl rfl rfl (Nat.le_of_ble_eq_true rfl) ⟨Nat.le_of_ble_eq_true rfl, Nat.le_of_ble_eq_true rfl⟩ ⟨Nat.le_of_ble_eq_true rfl, Nat.le_of_ble_eq_true rfl⟩ (fR_k ?_) fR_x (Nat.le_of_ble_eq_true rfl) (Nat.le_of_ble_eq_true rfl)
      try dsimp only [Option.toList, List.cons_append, List.nil_append]
      refine v_icmp_ge (q := 110) (q2 := 81) hC dX5_writeEntry_78 (by decide) rfl (fun c_78 => ?_) (fun c_78 => ?_)
      · exact absurd c_78 (by rw [show (4 : Int32) = nI 4 from rfl]; exact nI_ge (by omega) (by omega))
      · refine v_iload_n (i := 2) (q := 82) hC dX5_writeEntry_81 rfl rfl rfl ?_
        refine v_callS (q := 85) (rm := rm_X1_rights) hC (c_X1_rights hl Θ _ _) k_X1_rights st_yX1_rights ml_RX5_118 dX5_writeEntry_82 rfl  rfl rfl (Nat.le_of_ble_eq_true rfl) ⟨Nat.le_of_ble_eq_true rfl, Nat.le_of_ble_eq_true rfl⟩ ⟨Nat.le_of_ble_eq_true rfl, Nat.le_of_ble_eq_true rfl⟩ (fR_k ?_) fR_x (Nat.le_of_ble_eq_true rfl) (Nat.le_of_ble_eq_true rfl)
        try dsimp only [Option.toList, List.cons_append, List.nil_append]
        refine v_iload (q := 87) hC dX5_writeEntry_85 rfl rfl ?_
        refine v_callN (q := 90) (rm := rm_X11_has) hC (c_X11_has hl Θ _ _ _) k_X11_has st_yX11_has nl_RX5_121 dX5_writeEntry_87 rfl  rfl rfl (Nat.le_of_ble_eq_true rfl) ⟨Nat.le_of_ble_eq_true rfl, Nat.le_of_ble_eq_true rfl⟩ ⟨Nat.le_of_ble_eq_true rfl, Nat.le_of_ble_eq_true rfl⟩ (fR_k ?_) fR_x (Nat.le_of_ble_eq_true rfl) (Nat.le_of_ble_eq_true rfl)
        try dsimp only [Option.toList, List.cons_append, List.nil_append]
        refine v_ifb_eq (q := 104) (q2 := 93) hC dX5_writeEntry_90 (by decide) rfl (fun c_90 => ?_) (fun c_90 => ?_)
        · refine v_iinc (q := 107) (v := nI (j + 1)) hC dX5_writeEntry_104 rfl rfl (nI_1 j) (lvc rfl) (Nat.le_of_ble_eq_true rfl) (Nat.le_of_ble_eq_true rfl) rfl ?_
          refine v_goto (q := 71) hC dX5_writeEntry_107 (by decide) ?_
          refine ih (j + 1) _ (by omega) ?_
          rw [← h2]
          first | rw [if_pos c_90] | rw [if_neg (by rw [c_90]; decide)]
        · refine v_aload_n (i := 1) (q := 94) hC dX5_writeEntry_93 rfl rfl rfl ?_
          refine v_ldcT1 (q := 96) hC dX5_writeEntry_94 rfl ?_
          refine v_iload (q := 98) hC dX5_writeEntry_96 rfl rfl ?_
          refine v_callT (q := 101) (rm := rm_J0_charAt_5068e) hC (c_J0_charAt_5068e hl Θ 1 j (by decide) (by omega) _) k_J0_charAt_5068e im_yJ0_charAt_5068e se_yJ0_charAt_5068e ml_RX5_112 dX5_writeEntry_98 rfl (by decide) rfl rfl rfl (Nat.le_of_ble_eq_true rfl) ⟨Nat.le_of_ble_eq_true rfl, Nat.le_of_ble_eq_true rfl⟩ ⟨Nat.le_of_ble_eq_true rfl, Nat.le_of_ble_eq_true rfl⟩ (fR_k ?_) fR_x (Nat.le_of_ble_eq_true rfl) (Nat.le_of_ble_eq_true rfl)
          try dsimp only [Option.toList, List.cons_append, List.nil_append]
          refine v_callV (q := 104) (rm := rm_X8_put) hC (c_X8_put hl Θ _ _) k_X8_put im_yX8_put se_yX8_put ml_RX5_86 dX5_writeEntry_101 rfl rfl rfl rfl rfl rfl (Nat.le_of_ble_eq_true rfl) ⟨Nat.le_of_ble_eq_true rfl, Nat.le_of_ble_eq_true rfl⟩ ⟨Nat.le_of_ble_eq_true rfl, Nat.le_of_ble_eq_true rfl⟩ (fR_k ?_) fR_x (Nat.le_of_ble_eq_true rfl) (Nat.le_of_ble_eq_true rfl)
          try dsimp only [Option.toList, List.cons_append, List.nil_append]
          rw [sPut_pP]
          refine v_iinc (q := 107) (v := nI (j + 1)) hC dX5_writeEntry_104 rfl rfl (nI_1 j) (lvc rfl) (Nat.le_of_ble_eq_true rfl) (Nat.le_of_ble_eq_true rfl) rfl ?_
          refine v_goto (q := 71) hC dX5_writeEntry_107 (by decide) ?_
          refine ih (j + 1) _ (by omega) ?_
          rw [← h2]
          first | rw [if_pos c_90] | rw [if_neg (by rw [c_90]; decide)]
  have L4 : ∀ (q2 : pT), q2 = wE3 x (wE2 x (wE1 x q)) → V p l e rm_X5_writeEntry s m args below meth c 5 Θ (fR none (pP G (wE x q))) 0 0 0 0 62 [some (.ref (tR Θ 0 27)), some (.ref (tR Θ 0 25)), some (.int x), some (.int (eKind x)), none] [] (pP G q2) := by
    intro q2 h
    refine v_aload_n (i := 1) (q := 63) hC dX5_writeEntry_62 rfl rfl rfl ?_
    refine v_bipush (q := 65) (v := 61) hC dX5_writeEntry_63 rfl (by decide) ?_
    refine v_callV (q := 68) (rm := rm_X8_put) hC (c_X8_put hl Θ _ _) k_X8_put im_yX8_put se_yX8_put ml_RX5_86 dX5_writeEntry_65 rfl rfl rfl rfl rfl rfl (Nat.le_of_ble_eq_true rfl) ⟨Nat.le_of_ble_eq_true rfl, Nat.le_of_ble_eq_true rfl⟩ ⟨Nat.le_of_ble_eq_true rfl, Nat.le_of_ble_eq_true rfl⟩ (fR_k ?_) fR_x (Nat.le_of_ble_eq_true rfl) (Nat.le_of_ble_eq_true rfl)
    try dsimp only [Option.toList, List.cons_append, List.nil_append]
    rw [sPut_pP]
    refine v_iconst (q := 69) (v := 0) hC dX5_writeEntry_68 rfl (by decide) ?_
    refine v_istore (q := 71) hC dX5_writeEntry_69 rfl (lvc rfl) (Nat.le_of_ble_eq_true rfl) (Nat.le_of_ble_eq_true rfl) rfl ?_
    exact L5 4 0 _ rfl (by rw [wE4, ← h])
  have L3 : ∀ (q2 : pT), q2 = wE2 x (wE1 x q) → V p l e rm_X5_writeEntry s m args below meth c 5 Θ (fR none (pP G (wE x q))) 0 0 0 0 45 [some (.ref (tR Θ 0 27)), some (.ref (tR Θ 0 25)), some (.int x), some (.int (eKind x)), none] [] (pP G q2) := by
    intro q2 h
    refine v_iload_n (i := 3) (q := 46) hC dX5_writeEntry_45 rfl rfl rfl ?_
    refine v_if_eq (q := 54) (q2 := 49) hC dX5_writeEntry_46 (by decide) rfl (fun c_46 => ?_) (fun c_46 => ?_)
    · refine v_aload_n (i := 1) (q := 55) hC dX5_writeEntry_54 rfl rfl rfl ?_
      refine v_iload_n (i := 2) (q := 56) hC dX5_writeEntry_55 rfl rfl rfl ?_
      refine v_callS (q := 59) (rm := rm_X1_number) hC (c_X1_number hl Θ _ _) k_X1_number st_yX1_number ml_RX5_54 dX5_writeEntry_56 rfl  rfl rfl (Nat.le_of_ble_eq_true rfl) ⟨Nat.le_of_ble_eq_true rfl, Nat.le_of_ble_eq_true rfl⟩ ⟨Nat.le_of_ble_eq_true rfl, Nat.le_of_ble_eq_true rfl⟩ (fR_k ?_) fR_x (Nat.le_of_ble_eq_true rfl) (Nat.le_of_ble_eq_true rfl)
      try dsimp only [Option.toList, List.cons_append, List.nil_append]
      refine v_callV (q := 62) (rm := rm_X8_putNumber) hC (c_X8_putNumber hl Θ _ _) k_X8_putNumber im_yX8_putNumber se_yX8_putNumber ml_RX5_82 dX5_writeEntry_59 rfl rfl rfl rfl rfl rfl (Nat.le_of_ble_eq_true rfl) ⟨Nat.le_of_ble_eq_true rfl, Nat.le_of_ble_eq_true rfl⟩ ⟨Nat.le_of_ble_eq_true rfl, Nat.le_of_ble_eq_true rfl⟩ (fR_k ?_) fR_x (Nat.le_of_ble_eq_true rfl) (Nat.le_of_ble_eq_true rfl)
      try dsimp only [Option.toList, List.cons_append, List.nil_append]
      rw [sPutN_pP]
      refine L4 _ ?_
      rw [← h, wE3]
      first | rw [if_pos (Or.inl c_46)] | rw [if_pos (Or.inr c_51)] | rw [if_pos (Or.inr (Decidable.not_not.mp c_51))] | rw [if_neg (not_or.mpr ⟨c_46, c_51⟩)]
    · refine v_iload_n (i := 3) (q := 50) hC dX5_writeEntry_49 rfl rfl rfl ?_
      refine v_iconst (q := 51) (v := 1) hC dX5_writeEntry_50 rfl (by decide) ?_
      refine v_icmp_ne (q := 62) (q2 := 54) hC dX5_writeEntry_51 (by decide) rfl (fun c_51 => ?_) (fun c_51 => ?_)
      · refine L4 _ ?_
        rw [← h, wE3]
        first | rw [if_pos (Or.inl c_46)] | rw [if_pos (Or.inr c_51)] | rw [if_pos (Or.inr (Decidable.not_not.mp c_51))] | rw [if_neg (not_or.mpr ⟨c_46, c_51⟩)]
      · refine v_aload_n (i := 1) (q := 55) hC dX5_writeEntry_54 rfl rfl rfl ?_
        refine v_iload_n (i := 2) (q := 56) hC dX5_writeEntry_55 rfl rfl rfl ?_
        refine v_callS (q := 59) (rm := rm_X1_number) hC (c_X1_number hl Θ _ _) k_X1_number st_yX1_number ml_RX5_54 dX5_writeEntry_56 rfl  rfl rfl (Nat.le_of_ble_eq_true rfl) ⟨Nat.le_of_ble_eq_true rfl, Nat.le_of_ble_eq_true rfl⟩ ⟨Nat.le_of_ble_eq_true rfl, Nat.le_of_ble_eq_true rfl⟩ (fR_k ?_) fR_x (Nat.le_of_ble_eq_true rfl) (Nat.le_of_ble_eq_true rfl)
        try dsimp only [Option.toList, List.cons_append, List.nil_append]
        refine v_callV (q := 62) (rm := rm_X8_putNumber) hC (c_X8_putNumber hl Θ _ _) k_X8_putNumber im_yX8_putNumber se_yX8_putNumber ml_RX5_82 dX5_writeEntry_59 rfl rfl rfl rfl rfl rfl (Nat.le_of_ble_eq_true rfl) ⟨Nat.le_of_ble_eq_true rfl, Nat.le_of_ble_eq_true rfl⟩ ⟨Nat.le_of_ble_eq_true rfl, Nat.le_of_ble_eq_true rfl⟩ (fR_k ?_) fR_x (Nat.le_of_ble_eq_true rfl) (Nat.le_of_ble_eq_true rfl)
        try dsimp only [Option.toList, List.cons_append, List.nil_append]
        rw [sPutN_pP]
        refine L4 _ ?_
        rw [← h, wE3]
        first | rw [if_pos (Or.inl c_46)] | rw [if_pos (Or.inr c_51)] | rw [if_pos (Or.inr (Decidable.not_not.mp c_51))] | rw [if_neg (not_or.mpr ⟨c_46, c_51⟩)]
  have L2 : ∀ (q2 : pT), q2 = wE1 x q → V p l e rm_X5_writeEntry s m args below meth c 5 Θ (fR none (pP G (wE x q))) 0 0 0 0 23 [some (.ref (tR Θ 0 27)), some (.ref (tR Θ 0 25)), some (.int x), some (.int (eKind x)), none] [] (pP G q2) := by
    intro q2 h
    refine v_iload_n (i := 3) (q := 24) hC dX5_writeEntry_23 rfl rfl rfl ?_
    refine v_ldcT0 (q := 26) hC dX5_writeEntry_24 rfl ?_
    refine v_callT (q := 29) (rm := rm_J0_length_8abf5) hC (c_J0_length_8abf5 hl Θ 0 (by decide) _) k_J0_length_8abf5 im_yJ0_length_8abf5 se_yJ0_length_8abf5 ml_RX5_107 dX5_writeEntry_26 rfl (by decide) rfl rfl rfl (Nat.le_of_ble_eq_true rfl) ⟨Nat.le_of_ble_eq_true rfl, Nat.le_of_ble_eq_true rfl⟩ ⟨Nat.le_of_ble_eq_true rfl, Nat.le_of_ble_eq_true rfl⟩ (fR_k ?_) fR_x (Nat.le_of_ble_eq_true rfl) (Nat.le_of_ble_eq_true rfl)
    try dsimp only [Option.toList, List.cons_append, List.nil_append]
    refine v_callN (q := 32) (rm := rm_X11_isIndex) hC (c_X11_isIndex hl Θ _ _ _) k_X11_isIndex st_yX11_isIndex nl_RX5_75 dX5_writeEntry_29 rfl  rfl rfl (Nat.le_of_ble_eq_true rfl) ⟨Nat.le_of_ble_eq_true rfl, Nat.le_of_ble_eq_true rfl⟩ ⟨Nat.le_of_ble_eq_true rfl, Nat.le_of_ble_eq_true rfl⟩ (fR_k ?_) fR_x (Nat.le_of_ble_eq_true rfl) (Nat.le_of_ble_eq_true rfl)
    try dsimp only [Option.toList, List.cons_append, List.nil_append]
    refine v_ifb_eq (q := 45) (q2 := 35) hC dX5_writeEntry_32 (by decide) rfl (fun c_32 => ?_) (fun c_32 => ?_)
    · refine L3 _ ?_
      rw [← h, wE2]
      first | rw [if_pos c_32] | rw [if_neg (by rw [c_32]; decide)]
    · refine v_aload_n (i := 1) (q := 36) hC dX5_writeEntry_35 rfl rfl rfl ?_
      refine v_ldcT0 (q := 38) hC dX5_writeEntry_36 rfl ?_
      refine v_iload_n (i := 3) (q := 39) hC dX5_writeEntry_38 rfl rfl rfl ?_
      refine v_callT (q := 42) (rm := rm_J0_charAt_5068e) hC (c_J0_charAtX hl Θ 0 _ (by decide) c_32 _) k_J0_charAt_5068e im_yJ0_charAt_5068e se_yJ0_charAt_5068e ml_RX5_112 dX5_writeEntry_39 rfl (by decide) rfl rfl rfl (Nat.le_of_ble_eq_true rfl) ⟨Nat.le_of_ble_eq_true rfl, Nat.le_of_ble_eq_true rfl⟩ ⟨Nat.le_of_ble_eq_true rfl, Nat.le_of_ble_eq_true rfl⟩ (fR_k ?_) fR_x (Nat.le_of_ble_eq_true rfl) (Nat.le_of_ble_eq_true rfl)
      try dsimp only [Option.toList, List.cons_append, List.nil_append]
      refine v_callV (q := 45) (rm := rm_X8_put) hC (c_X8_put hl Θ _ _) k_X8_put im_yX8_put se_yX8_put ml_RX5_86 dX5_writeEntry_42 rfl rfl rfl rfl rfl rfl (Nat.le_of_ble_eq_true rfl) ⟨Nat.le_of_ble_eq_true rfl, Nat.le_of_ble_eq_true rfl⟩ ⟨Nat.le_of_ble_eq_true rfl, Nat.le_of_ble_eq_true rfl⟩ (fR_k ?_) fR_x (Nat.le_of_ble_eq_true rfl) (Nat.le_of_ble_eq_true rfl)
      try dsimp only [Option.toList, List.cons_append, List.nil_append]
      rw [sPut_pP]
      refine L3 _ ?_
      rw [← h, wE2]
      first | rw [if_pos c_32] | rw [if_neg (by rw [c_32]; decide)]
  refine v_iload_n (i := 2) (q := 1) hC dX5_writeEntry_0 rfl rfl rfl ?_
  refine v_callS (q := 4) (rm := rm_X1_kind) hC (c_X1_kind hl Θ _ _) k_X1_kind st_yX1_kind ml_RX5_60 dX5_writeEntry_1 rfl  rfl rfl (Nat.le_of_ble_eq_true rfl) ⟨Nat.le_of_ble_eq_true rfl, Nat.le_of_ble_eq_true rfl⟩ ⟨Nat.le_of_ble_eq_true rfl, Nat.le_of_ble_eq_true rfl⟩ (fR_k ?_) fR_x (Nat.le_of_ble_eq_true rfl) (Nat.le_of_ble_eq_true rfl)
  try dsimp only [Option.toList, List.cons_append, List.nil_append]
  refine v_istore_n (i := 3) (q := 5) hC dX5_writeEntry_4 rfl rfl (lvc rfl) (Nat.le_of_ble_eq_true rfl) (Nat.le_of_ble_eq_true rfl) rfl ?_
  refine v_aload_n (i := 1) (q := 6) hC dX5_writeEntry_5 rfl rfl rfl ?_
  refine v_iload_n (i := 2) (q := 7) hC dX5_writeEntry_6 rfl rfl rfl ?_
  refine v_callS (q := 10) (rm := rm_X1_allows) hC (c_X1_allows hl Θ _ _) k_X1_allows st_yX1_allows ml_RX5_102 dX5_writeEntry_7 rfl  rfl rfl (Nat.le_of_ble_eq_true rfl) ⟨Nat.le_of_ble_eq_true rfl, Nat.le_of_ble_eq_true rfl⟩ ⟨Nat.le_of_ble_eq_true rfl, Nat.le_of_ble_eq_true rfl⟩ (fR_k ?_) fR_x (Nat.le_of_ble_eq_true rfl) (Nat.le_of_ble_eq_true rfl)
  try dsimp only [Option.toList, List.cons_append, List.nil_append]
  refine v_ifb_eq (q := 18) (q2 := 13) hC dX5_writeEntry_10 (by decide) rfl (fun c_10 => ?_) (fun c_10 => ?_)
  · refine v_bipush (q := 20) (v := 45) hC dX5_writeEntry_18 rfl (by decide) ?_
    refine v_callV (q := 23) (rm := rm_X8_put) hC (c_X8_put hl Θ _ _) k_X8_put im_yX8_put se_yX8_put ml_RX5_86 dX5_writeEntry_20 rfl rfl rfl rfl rfl rfl (Nat.le_of_ble_eq_true rfl) ⟨Nat.le_of_ble_eq_true rfl, Nat.le_of_ble_eq_true rfl⟩ ⟨Nat.le_of_ble_eq_true rfl, Nat.le_of_ble_eq_true rfl⟩ (fR_k ?_) fR_x (Nat.le_of_ble_eq_true rfl) (Nat.le_of_ble_eq_true rfl)
    try dsimp only [Option.toList, List.cons_append, List.nil_append]
    rw [sPut_pP]
    refine L2 _ ?_
    rw [wE1]
    first | rw [if_pos c_10] | rw [if_neg (by rw [c_10]; decide)]
  · refine v_bipush (q := 15) (v := 43) hC dX5_writeEntry_13 rfl (by decide) ?_
    refine v_goto (q := 20) hC dX5_writeEntry_15 (by decide) ?_
    refine v_callV (q := 23) (rm := rm_X8_put) hC (c_X8_put hl Θ _ _) k_X8_put im_yX8_put se_yX8_put ml_RX5_86 dX5_writeEntry_20 rfl rfl rfl rfl rfl rfl (Nat.le_of_ble_eq_true rfl) ⟨Nat.le_of_ble_eq_true rfl, Nat.le_of_ble_eq_true rfl⟩ ⟨Nat.le_of_ble_eq_true rfl, Nat.le_of_ble_eq_true rfl⟩ (fR_k ?_) fR_x (Nat.le_of_ble_eq_true rfl) (Nat.le_of_ble_eq_true rfl)
    try dsimp only [Option.toList, List.cons_append, List.nil_append]
    rw [sPut_pP]
    refine L2 _ ?_
    rw [wE1]
    first | rw [if_pos c_10] | rw [if_neg (by rw [c_10]; decide)]
def wL (en : Nat → Int32) (cnt o : Int32) : Nat → Nat → pT → pT
  | 0, _, q => q
  | n + 1, j, q => if nI j < cnt then wL en cnt o n (j + 1) (wE (sEnt en o (nI j)) (if 0 < nI j then pPut 59 q else q)) else q
def wAll (G : GS) (o : Int32) (q : pT) : pT := wL (G.2.1 0 10) (sCnt (G.2.1 0 9) o) o 6 0 (pPut 58 (pPutN o (0, q.2)))
set_option maxHeartbeats 4000000 in
set_option maxRecDepth 20000 in
theorem c_X5_write {l : Launch} (hl : l.stackTraces = false) (Θ : cTH) (o : Int32) (q : pT) (G : GS) : Ct l yX5_write cX5_write 6 none rm_X5_write Θ [.ref (tR Θ 0 27), .ref (tR Θ 0 25), .ref (tR Θ 0 8), .int o] (pP G q) (fR none (pP G (wAll G o q))) := by
  refine ct_of (LS := [some (.ref (tR Θ 0 27)), some (.ref (tR Θ 0 25)), some (.ref (tR Θ 0 8)), some (.int o), none, none]) hl (by decide +kernel) rfl (Nat.le_of_ble_eq_true rfl) rfl ?_
  intro p e s m args below meth c hC hr
  have L : ∀ (n j : Nat) (q2 : pT), n + j = 6 → wL (G.2.1 0 10) (sCnt (G.2.1 0 9) o) o n j q2 = wAll G o q → V p l e rm_X5_write s m args below meth c 6 Θ (fR none (pP G (wAll G o q))) 0 0 0 0 25 [some (.ref (tR Θ 0 27)), some (.ref (tR Θ 0 25)), some (.ref (tR Θ 0 8)), some (.int o), some (.int (sCnt (G.2.1 0 9) o)), some (.int (nI j))] [] (pP G q2) := by
    intro n
    induction n with
    | zero =>
      intro j q2 h1 h2
      rw [wL] at h2
      refine v_iload (q := 27) hC dX5_write_25 rfl rfl ?_
      refine v_bipush (q := 29) (v := 6) hC dX5_write_27 rfl (by decide) ?_
      refine v_icmp_ge (q := 68) (q2 := 32) hC dX5_write_29 (by decide) rfl (fun c_29 => ?_) (fun c_29 => ?_)
      · refine v_vret hC dX5_write_68 hr ?_ (Nat.le_of_ble_eq_true rfl) (Nat.le_of_ble_eq_true rfl)
        exact ⟨rfl, by rw [← h2]⟩
      · exact absurd (by rw [show j = 6 by omega]; decide) c_29
    | succ n ih =>
      intro j q2 h1 h2
      rw [wL] at h2
      refine v_iload (q := 27) hC dX5_write_25 rfl rfl ?_
      refine v_bipush (q := 29) (v := 6) hC dX5_write_27 rfl (by decide) ?_
      refine v_icmp_ge (q := 68) (q2 := 32) hC dX5_write_29 (by decide) rfl (fun c_29 => ?_) (fun c_29 => ?_)
      · exact absurd c_29 (by rw [show (6 : Int32) = nI 6 from rfl]; exact nI_ge (by omega) (by omega))
      · refine v_iload (q := 34) hC dX5_write_32 rfl rfl ?_
        refine v_iload (q := 36) hC dX5_write_34 rfl rfl ?_
        refine v_icmp_ge (q := 68) (q2 := 39) hC dX5_write_36 (by decide) rfl (fun c_36 => ?_) (fun c_36 => ?_)
        · refine v_vret hC dX5_write_68 hr ?_ (Nat.le_of_ble_eq_true rfl) (Nat.le_of_ble_eq_true rfl)
          rw [if_neg (Int32.not_lt.mpr c_36)] at h2
          exact ⟨rfl, by rw [← h2]⟩
        · refine v_iload (q := 41) hC dX5_write_39 rfl rfl ?_
          refine v_if_le (q := 50) (q2 := 44) hC dX5_write_41 (by decide) rfl (fun c_41 => ?_) (fun c_41 => ?_)
          · refine v_aload_n (i := 0) (q := 51) hC dX5_write_50 rfl rfl rfl ?_
            refine v_aload_n (i := 1) (q := 52) hC dX5_write_51 rfl rfl rfl ?_
            refine v_aload_n (i := 2) (q := 53) hC dX5_write_52 rfl rfl rfl ?_
            refine v_iload_n (i := 3) (q := 54) hC dX5_write_53 rfl rfl rfl ?_
            refine v_iload (q := 56) hC dX5_write_54 rfl rfl ?_
            refine v_callV (q := 59) (rm := rm_X6_entryAt) hC (c_X6_entryAt hl Θ _ _ _) k_X6_entryAt im_yX6_entryAt se_yX6_entryAt ml_RX5_94 dX5_write_56 rfl rfl rfl rfl rfl rfl (Nat.le_of_ble_eq_true rfl) ⟨Nat.le_of_ble_eq_true rfl, Nat.le_of_ble_eq_true rfl⟩ ⟨Nat.le_of_ble_eq_true rfl, Nat.le_of_ble_eq_true rfl⟩ (fR_k ?_) fR_x (Nat.le_of_ble_eq_true rfl) (Nat.le_of_ble_eq_true rfl)
            try dsimp only [Option.toList, List.cons_append, List.nil_append]
            refine v_callV (q := 62) (rm := rm_X5_writeEntry) hC (c_X5_writeEntry hl Θ _ _ G) k_X5_writeEntry im_yX5_writeEntry se_yX5_writeEntry ml_RX5_98 dX5_write_59 rfl rfl rfl rfl rfl rfl (Nat.le_of_ble_eq_true rfl) ⟨Nat.le_of_ble_eq_true rfl, Nat.le_of_ble_eq_true rfl⟩ ⟨Nat.le_of_ble_eq_true rfl, Nat.le_of_ble_eq_true rfl⟩ (fR_k ?_) fR_x (Nat.le_of_ble_eq_true rfl) (Nat.le_of_ble_eq_true rfl)
            try dsimp only [Option.toList, List.cons_append, List.nil_append]
            refine v_iinc (q := 65) (v := nI (j + 1)) hC dX5_write_62 rfl rfl (nI_1 j) (lvc rfl) (Nat.le_of_ble_eq_true rfl) (Nat.le_of_ble_eq_true rfl) rfl ?_
            refine v_goto (q := 25) hC dX5_write_65 (by decide) ?_
            rw [if_pos (Int32.not_le.mp c_36)] at h2
            refine ih (j + 1) _ (by omega) ?_
            rw [← h2]
            first | (rw [if_pos (Int32.not_le.mp c_41)]; rfl) | (rw [if_neg (Int32.not_lt.mpr c_41)]; rfl)
          · refine v_aload_n (i := 1) (q := 45) hC dX5_write_44 rfl rfl rfl ?_
            refine v_bipush (q := 47) (v := 59) hC dX5_write_45 rfl (by decide) ?_
            refine v_callV (q := 50) (rm := rm_X8_put) hC (c_X8_put hl Θ _ _) k_X8_put im_yX8_put se_yX8_put ml_RX5_86 dX5_write_47 rfl rfl rfl rfl rfl rfl (Nat.le_of_ble_eq_true rfl) ⟨Nat.le_of_ble_eq_true rfl, Nat.le_of_ble_eq_true rfl⟩ ⟨Nat.le_of_ble_eq_true rfl, Nat.le_of_ble_eq_true rfl⟩ (fR_k ?_) fR_x (Nat.le_of_ble_eq_true rfl) (Nat.le_of_ble_eq_true rfl)
            try dsimp only [Option.toList, List.cons_append, List.nil_append]
            rw [sPut_pP]
            refine v_aload_n (i := 0) (q := 51) hC dX5_write_50 rfl rfl rfl ?_
            refine v_aload_n (i := 1) (q := 52) hC dX5_write_51 rfl rfl rfl ?_
            refine v_aload_n (i := 2) (q := 53) hC dX5_write_52 rfl rfl rfl ?_
            refine v_iload_n (i := 3) (q := 54) hC dX5_write_53 rfl rfl rfl ?_
            refine v_iload (q := 56) hC dX5_write_54 rfl rfl ?_
            refine v_callV (q := 59) (rm := rm_X6_entryAt) hC (c_X6_entryAt hl Θ _ _ _) k_X6_entryAt im_yX6_entryAt se_yX6_entryAt ml_RX5_94 dX5_write_56 rfl rfl rfl rfl rfl rfl (Nat.le_of_ble_eq_true rfl) ⟨Nat.le_of_ble_eq_true rfl, Nat.le_of_ble_eq_true rfl⟩ ⟨Nat.le_of_ble_eq_true rfl, Nat.le_of_ble_eq_true rfl⟩ (fR_k ?_) fR_x (Nat.le_of_ble_eq_true rfl) (Nat.le_of_ble_eq_true rfl)
            try dsimp only [Option.toList, List.cons_append, List.nil_append]
            refine v_callV (q := 62) (rm := rm_X5_writeEntry) hC (c_X5_writeEntry hl Θ _ _ G) k_X5_writeEntry im_yX5_writeEntry se_yX5_writeEntry ml_RX5_98 dX5_write_59 rfl rfl rfl rfl rfl rfl (Nat.le_of_ble_eq_true rfl) ⟨Nat.le_of_ble_eq_true rfl, Nat.le_of_ble_eq_true rfl⟩ ⟨Nat.le_of_ble_eq_true rfl, Nat.le_of_ble_eq_true rfl⟩ (fR_k ?_) fR_x (Nat.le_of_ble_eq_true rfl) (Nat.le_of_ble_eq_true rfl)
            try dsimp only [Option.toList, List.cons_append, List.nil_append]
            refine v_iinc (q := 65) (v := nI (j + 1)) hC dX5_write_62 rfl rfl (nI_1 j) (lvc rfl) (Nat.le_of_ble_eq_true rfl) (Nat.le_of_ble_eq_true rfl) rfl ?_
            refine v_goto (q := 25) hC dX5_write_65 (by decide) ?_
            rw [if_pos (Int32.not_le.mp c_36)] at h2
            refine ih (j + 1) _ (by omega) ?_
            rw [← h2]
            first | (rw [if_pos (Int32.not_le.mp c_41)]; rfl) | (rw [if_neg (Int32.not_lt.mpr c_41)]; rfl)
  refine v_aload_n (i := 1) (q := 1) hC dX5_write_0 rfl rfl rfl ?_
  refine v_callV (q := 4) (rm := rm_X8_wipe) hC (c_X8_wipe hl Θ _) k_X8_wipe im_yX8_wipe se_yX8_wipe ml_RX5_79 dX5_write_1 rfl rfl rfl rfl rfl rfl (Nat.le_of_ble_eq_true rfl) ⟨Nat.le_of_ble_eq_true rfl, Nat.le_of_ble_eq_true rfl⟩ ⟨Nat.le_of_ble_eq_true rfl, Nat.le_of_ble_eq_true rfl⟩ (fR_k ?_) fR_x (Nat.le_of_ble_eq_true rfl) (Nat.le_of_ble_eq_true rfl)
  try dsimp only [Option.toList, List.cons_append, List.nil_append]
  rw [pP_wipe]
  refine v_aload_n (i := 1) (q := 5) hC dX5_write_4 rfl rfl rfl ?_
  refine v_iload_n (i := 3) (q := 6) hC dX5_write_5 rfl rfl rfl ?_
  refine v_callV (q := 9) (rm := rm_X8_putNumber) hC (c_X8_putNumber hl Θ _ _) k_X8_putNumber im_yX8_putNumber se_yX8_putNumber ml_RX5_82 dX5_write_6 rfl rfl rfl rfl rfl rfl (Nat.le_of_ble_eq_true rfl) ⟨Nat.le_of_ble_eq_true rfl, Nat.le_of_ble_eq_true rfl⟩ ⟨Nat.le_of_ble_eq_true rfl, Nat.le_of_ble_eq_true rfl⟩ (fR_k ?_) fR_x (Nat.le_of_ble_eq_true rfl) (Nat.le_of_ble_eq_true rfl)
  try dsimp only [Option.toList, List.cons_append, List.nil_append]
  rw [sPutN_pP]
  refine v_aload_n (i := 1) (q := 10) hC dX5_write_9 rfl rfl rfl ?_
  refine v_bipush (q := 12) (v := 58) hC dX5_write_10 rfl (by decide) ?_
  refine v_callV (q := 15) (rm := rm_X8_put) hC (c_X8_put hl Θ _ _) k_X8_put im_yX8_put se_yX8_put ml_RX5_86 dX5_write_12 rfl rfl rfl rfl rfl rfl (Nat.le_of_ble_eq_true rfl) ⟨Nat.le_of_ble_eq_true rfl, Nat.le_of_ble_eq_true rfl⟩ ⟨Nat.le_of_ble_eq_true rfl, Nat.le_of_ble_eq_true rfl⟩ (fR_k ?_) fR_x (Nat.le_of_ble_eq_true rfl) (Nat.le_of_ble_eq_true rfl)
  try dsimp only [Option.toList, List.cons_append, List.nil_append]
  rw [sPut_pP]
  refine v_aload_n (i := 2) (q := 16) hC dX5_write_15 rfl rfl rfl ?_
  refine v_iload_n (i := 3) (q := 17) hC dX5_write_16 rfl rfl rfl ?_
  refine v_callV (q := 20) (rm := rm_X6_countAt) hC (c_X6_countAt hl Θ _ _) k_X6_countAt im_yX6_countAt se_yX6_countAt ml_RX5_89 dX5_write_17 rfl rfl rfl rfl rfl rfl (Nat.le_of_ble_eq_true rfl) ⟨Nat.le_of_ble_eq_true rfl, Nat.le_of_ble_eq_true rfl⟩ ⟨Nat.le_of_ble_eq_true rfl, Nat.le_of_ble_eq_true rfl⟩ (fR_k ?_) fR_x (Nat.le_of_ble_eq_true rfl) (Nat.le_of_ble_eq_true rfl)
  try dsimp only [Option.toList, List.cons_append, List.nil_append]
  refine v_istore (q := 22) hC dX5_write_20 rfl (lvc rfl) (Nat.le_of_ble_eq_true rfl) (Nat.le_of_ble_eq_true rfl) rfl ?_
  refine v_iconst (q := 23) (v := 0) hC dX5_write_22 rfl (by decide) ?_
  refine v_istore (q := 25) hC dX5_write_23 rfl (lvc rfl) (Nat.le_of_ble_eq_true rfl) (Nat.le_of_ble_eq_true rfl) rfl ?_
  exact L 6 0 _ rfl rfl
