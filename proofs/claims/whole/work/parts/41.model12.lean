/-! The reference: the pad, undo, slots, openness -/
abbrev mpT := Nat × (Nat → Int32)
def mD (G : GS) (q : mpT) : GS := putF (putA G 0 34 q.2) 0 29 7 (nI q.1)
theorem mD_7 (G : GS) (q : mpT) (x : Nat) : putF (mD G q) 0 29 7 (nI x) = mD G (x, q.2) := putF_putF _ _ _ _ _ _
theorem mD_34 (G : GS) (q : mpT) (w : Nat → Int32) : putA (mD G q) 0 34 w = mD G (q.1, w) := by
  unfold mD
  rw [show putA (putF (putA G 0 34 q.2) 0 29 7 (nI q.1)) 0 34 w = putF (putA (putA G 0 34 q.2) 0 34 w) 0 29 7 (nI q.1) from rfl, putA_putA]
theorem mD_0 (G : GS) (x : Nat) : putF G 0 29 7 (nI x) = mD G (x, G.2.1 0 34) := by
  unfold mD
  rw [putA_self]
section DROWS
variable {p : Program} {l : Launch} {e : Env} {R : Room} {s : State} {m : MethodId} {args : Array Value} {below : List Frame} {meth : Method} {c : Code} {cc : ByteArray} {nL : Nat} {own : String} {Θ : cTH} {Qp : cOut → GS → Prop} {Q9 : State → Prop} {mc ms2 k n pc q : Nat} {LS : List (Option Value)} {rest : List Value} {G : GS} {q9 : mpT}
theorem gd_7 (hC : cC p l s m args meth c cc nL own Θ) {idx : Nat} (d : decode cc pc = .ok (.getfield idx, 3)) (hq : pc + 3 = q) (hid : okI (mD G q9).2.2.1 0 29 = true) (hlk : Cond.fieldLink own idx "PermissionDeskModel" "typed" "I" ∈ wALL) (kk : VG p l e R s m args below meth c nL Θ Q9 k n q LS (.int (nI q9.1) :: rest) (mD G q9)) : VG p l e R s m args below meth c nL Θ Q9 k n pc LS (.ref (tR Θ 0 29) :: rest) (mD G q9) := g_X12_7 hC d hq hid hlk kk
theorem pd_7 (hC : cC p l s m args meth c cc nL own Θ) {idx x : Nat} (d : decode cc pc = .ok (.putfield idx, 3)) (hq : pc + 3 = q) (hid : okI (mD G q9).2.2.1 0 29 = true) (hlk : Cond.fieldLink own idx "PermissionDeskModel" "typed" "I" ∈ wALL) (kk : VG p l e R s m args below meth c nL Θ Q9 k n q LS rest (mD G (x, q9.2))) : VG p l e R s m args below meth c nL Θ Q9 k n pc LS (.int (nI x) :: .ref (tR Θ 0 29) :: rest) (mD G q9) := p_X12_7 hC d hq hid hlk (by rw [mD_7]; exact kk)
theorem v_dpad (hC : cC p l s m args meth c cc nL own Θ) {i : Nat} {x v : Int32} (d : decode cc pc = .ok (.iastore, 1)) (hq : pc + 1 = q) (hx : x = nI i) (hi : i < 80) (kk : VG p l e R s m args below meth c nL Θ Q9 k n q LS rest (mD G (q9.1, upd q9.2 i v))) : VG p l e R s m args below meth c nL Θ Q9 k n pc LS (.int v :: .int x :: .ref (tR Θ 0 34) :: rest) (mD G q9) := v_iastN (N := 80) hC d hq rfl (fun _ => rfl) hx hi (by decide) (by rw [mD_34]; exact kk)
end DROWS
def mPt (x : Int32) (q : mpT) : mpT := (q.1 + 1, upd q.2 q.1 x)
set_option maxHeartbeats 4000000 in
set_option maxRecDepth 20000 in
theorem c_X12_puts {l : Launch} (hl : l.stackTraces = false) (Θ : cTH) (x : Int32) (q : mpT) (G : GS) (ht : q.1 < 80) : Ct l yX12_puts cX12_puts 2 none rm_X12_puts Θ [.ref (tR Θ 0 29), .int x] (mD G q) (fR none (mD G (mPt x q))) := by
  refine ct_of (LS := [some (.ref (tR Θ 0 29)), some (.int x)]) hl (by decide +kernel) rfl (Nat.le_of_ble_eq_true rfl) rfl ?_
  intro p e s m args below meth c hC hr
  refine v_aload_n (i := 0) (q := 1) hC dX12_puts_0 rfl rfl rfl ?_
  refine g_X12_6 (q := 4) hC dX12_puts_1 rfl rfl fl_RX12_23 ?_
  refine v_aload_n (i := 0) (q := 5) hC dX12_puts_4 rfl rfl rfl ?_
  refine gd_7 (q := 8) hC dX12_puts_5 rfl rfl fl_RX12_159 ?_
  refine v_iload_n (i := 1) (q := 9) hC dX12_puts_8 rfl rfl rfl ?_
  refine v_dpad (i := q.1) (q := 10) hC dX12_puts_9 rfl rfl ht ?_
  refine v_aload_n (i := 0) (q := 11) hC dX12_puts_10 rfl rfl rfl ?_
  refine v_dup (q := 12) hC dX12_puts_11 rfl rfl ?_
  refine gd_7 (q := 15) hC dX12_puts_12 rfl rfl fl_RX12_159 ?_
  refine v_iconst (q := 16) (v := 1) hC dX12_puts_15 rfl (by decide) ?_
  refine v_iadd (q := 17) hC dX12_puts_16 rfl ?_
  rw [nI_1]
  refine pd_7 (q := 20) hC dX12_puts_17 rfl rfl fl_RX12_159 ?_
  refine v_vret hC dX12_puts_20 hr ?_ (Nat.le_of_ble_eq_true rfl) (Nat.le_of_ble_eq_true rfl)
  exact ⟨rfl, rfl⟩
def mPn (x : Int32) (q : mpT) : mpT := mPt (48 + (x - x / 10 * 10)) (if 9 < x then mPt (48 + x / 10) q else q)
theorem mPn_le (x : Int32) (q : mpT) : (mPn x q).1 ≤ q.1 + 2 := by
  unfold mPn
  by_cases h : 9 < x
  · rw [if_pos h]; show q.1 + 1 + 1 ≤ _; omega
  · rw [if_neg h]; show q.1 + 1 ≤ _; omega
set_option maxHeartbeats 4000000 in
set_option maxRecDepth 20000 in
theorem c_X12_putsNumber {l : Launch} (hl : l.stackTraces = false) (Θ : cTH) (x : Int32) (q : mpT) (G : GS) (ht : q.1 + 2 ≤ 80) : Ct l yX12_putsNumber cX12_putsNumber 2 none rm_X12_putsNumber Θ [.ref (tR Θ 0 29), .int x] (mD G q) (fR none (mD G (mPn x q))) := by
  refine ct_of (LS := [some (.ref (tR Θ 0 29)), some (.int x)]) hl (by decide +kernel) rfl (Nat.le_of_ble_eq_true rfl) rfl ?_
  intro p e s m args below meth c hC hr
  have L : ∀ q2 : mpT, q2 = (if 9 < x then mPt (48 + x / 10) q else q) → q2.1 < 80 → V p l e rm_X12_putsNumber s m args below meth c 2 Θ (fR none (mD G (mPn x q))) 0 0 0 0 17 [some (.ref (tR Θ 0 29)), some (.int x)] [] (mD G q2) := by
    intro q2 h1 h2
    refine v_aload_n (i := 0) (q := 18) hC dX12_putsNumber_17 rfl rfl rfl ?_
    refine v_bipush (q := 20) (v := 48) hC dX12_putsNumber_18 rfl (by decide) ?_
    refine v_iload_n (i := 1) (q := 21) hC dX12_putsNumber_20 rfl rfl rfl ?_
    refine v_bipush (q := 23) (v := 10) hC dX12_putsNumber_21 rfl (by decide) ?_
    refine v_irem (q := 24) hC dX12_putsNumber_23 rfl (by decide) ?_
    refine v_iadd (q := 25) hC dX12_putsNumber_24 rfl ?_
    refine v_callV (q := 28) (rm := rm_X12_puts) hC (c_X12_puts hl Θ _ q2 G h2) k_X12_puts im_yX12_puts se_yX12_puts ml_RX12_196 dX12_putsNumber_25 rfl rfl rfl rfl rfl rfl (Nat.le_of_ble_eq_true rfl) ⟨Nat.le_of_ble_eq_true rfl, Nat.le_of_ble_eq_true rfl⟩ ⟨Nat.le_of_ble_eq_true rfl, Nat.le_of_ble_eq_true rfl⟩ (fR_k ?_) fR_x (Nat.le_of_ble_eq_true rfl) (Nat.le_of_ble_eq_true rfl)
    try dsimp only [Option.toList, List.cons_append, List.nil_append]
    refine v_vret hC dX12_putsNumber_28 hr ?_ (Nat.le_of_ble_eq_true rfl) (Nat.le_of_ble_eq_true rfl)
    exact ⟨rfl, by rw [mPn, ← h1]⟩
  refine v_iload_n (i := 1) (q := 1) hC dX12_putsNumber_0 rfl rfl rfl ?_
  refine v_bipush (q := 3) (v := 9) hC dX12_putsNumber_1 rfl (by decide) ?_
  refine v_icmp_le (q := 17) (q2 := 6) hC dX12_putsNumber_3 (by decide) rfl (fun c_3 => ?_) (fun c_3 => ?_)
  · first | exact L _ (by rw [if_pos (Int32.not_le.mp c_3)]) (by show q.1 + 1 < 80; omega) | exact L _ (by rw [if_neg (Int32.not_lt.mpr c_3)]) (by omega)
  · refine v_aload_n (i := 0) (q := 7) hC dX12_putsNumber_6 rfl rfl rfl ?_
    refine v_bipush (q := 9) (v := 48) hC dX12_putsNumber_7 rfl (by decide) ?_
    refine v_iload_n (i := 1) (q := 10) hC dX12_putsNumber_9 rfl rfl rfl ?_
    refine v_bipush (q := 12) (v := 10) hC dX12_putsNumber_10 rfl (by decide) ?_
    refine v_idiv (q := 13) hC dX12_putsNumber_12 rfl (by decide) ?_
    refine v_iadd (q := 14) hC dX12_putsNumber_13 rfl ?_
    refine v_callV (q := 17) (rm := rm_X12_puts) hC (c_X12_puts hl Θ _ q G (by omega)) k_X12_puts im_yX12_puts se_yX12_puts ml_RX12_196 dX12_putsNumber_14 rfl rfl rfl rfl rfl rfl (Nat.le_of_ble_eq_true rfl) ⟨Nat.le_of_ble_eq_true rfl, Nat.le_of_ble_eq_true rfl⟩ ⟨Nat.le_of_ble_eq_true rfl, Nat.le_of_ble_eq_true rfl⟩ (fR_k ?_) fR_x (Nat.le_of_ble_eq_true rfl) (Nat.le_of_ble_eq_true rfl)
    try dsimp only [Option.toList, List.cons_append, List.nil_append]
    first | exact L _ (by rw [if_pos (Int32.not_le.mp c_3)]) (by show q.1 + 1 < 80; omega) | exact L _ (by rw [if_neg (Int32.not_lt.mpr c_3)]) (by omega)
def mPr (x k z : Int32) (q : mpT) : mpT := if mHas x k = true then mPt z q else q
theorem mPr_le (x k z : Int32) (q : mpT) : (mPr x k z q).1 ≤ q.1 + 1 := by
  unfold mPr
  by_cases h : mHas x k = true
  · rw [if_pos h]; exact Nat.le_refl _
  · rw [if_neg h]; omega
set_option maxHeartbeats 4000000 in
set_option maxRecDepth 20000 in
theorem c_X12_putsRight {l : Launch} (hl : l.stackTraces = false) (Θ : cTH) (x k z : Int32) (q : mpT) (G : GS) (ht : q.1 < 80) : Ct l yX12_putsRight cX12_putsRight 4 none rm_X12_putsRight Θ [.ref (tR Θ 0 29), .int x, .int k, .int z] (mD G q) (fR none (mD G (mPr x k z q))) := by
  refine ct_of (LS := [some (.ref (tR Θ 0 29)), some (.int x), some (.int k), some (.int z)]) hl (by decide +kernel) rfl (Nat.le_of_ble_eq_true rfl) rfl ?_
  intro p e s m args below meth c hC hr
  refine v_iload_n (i := 1) (q := 1) hC dX12_putsRight_0 rfl rfl rfl ?_
  refine v_iload_n (i := 2) (q := 2) hC dX12_putsRight_1 rfl rfl rfl ?_
  refine v_callS (q := 5) (rm := rm_X12_has) hC (c_X12_has hl Θ _ _ _) k_X12_has st_yX12_has ml_RX12_65 dX12_putsRight_2 rfl  rfl rfl (Nat.le_of_ble_eq_true rfl) ⟨Nat.le_of_ble_eq_true rfl, Nat.le_of_ble_eq_true rfl⟩ ⟨Nat.le_of_ble_eq_true rfl, Nat.le_of_ble_eq_true rfl⟩ (fR_k ?_) fR_x (Nat.le_of_ble_eq_true rfl) (Nat.le_of_ble_eq_true rfl)
  try dsimp only [Option.toList, List.cons_append, List.nil_append]
  refine v_ifb_eq (q := 13) (q2 := 8) hC dX12_putsRight_5 (by decide) rfl (fun c_5 => ?_) (fun c_5 => ?_)
  · refine v_vret hC dX12_putsRight_13 hr ?_ (Nat.le_of_ble_eq_true rfl) (Nat.le_of_ble_eq_true rfl)
    refine ⟨rfl, ?_⟩
    rw [mPr]
    first | rw [if_pos c_5] | rw [if_neg (by rw [c_5]; decide)]
  · refine v_aload_n (i := 0) (q := 9) hC dX12_putsRight_8 rfl rfl rfl ?_
    refine v_iload_n (i := 3) (q := 10) hC dX12_putsRight_9 rfl rfl rfl ?_
    refine v_callV (q := 13) (rm := rm_X12_puts) hC (c_X12_puts hl Θ _ q G ht) k_X12_puts im_yX12_puts se_yX12_puts ml_RX12_196 dX12_putsRight_10 rfl rfl rfl rfl rfl rfl (Nat.le_of_ble_eq_true rfl) ⟨Nat.le_of_ble_eq_true rfl, Nat.le_of_ble_eq_true rfl⟩ ⟨Nat.le_of_ble_eq_true rfl, Nat.le_of_ble_eq_true rfl⟩ (fR_k ?_) fR_x (Nat.le_of_ble_eq_true rfl) (Nat.le_of_ble_eq_true rfl)
    try dsimp only [Option.toList, List.cons_append, List.nil_append]
    refine v_vret hC dX12_putsRight_13 hr ?_ (Nat.le_of_ble_eq_true rfl) (Nat.le_of_ble_eq_true rfl)
    refine ⟨rfl, ?_⟩
    rw [mPr]
    first | rw [if_pos c_5] | rw [if_neg (by rw [c_5]; decide)]
def mK2 (k : Int32) : Int32 := if k = 0 then 117 else if k = 1 then 103 else if k = 2 then 111 else 97
def mQ1 (w : Nat → Int32) (o i : Nat) (q : mpT) : mpT := mPt (if w (enA o i 3) = 1 then 43 else 45) q
def mQ2 (w : Nat → Int32) (o i : Nat) (q : mpT) : mpT := mPt (mK2 (w (enA o i 0))) (mQ1 w o i q)
def mQ3x (w : Nat → Int32) (o i : Nat) (q : mpT) : mpT := if w (enA o i 0) < 2 then mPn (w (enA o i 1)) (mQ2 w o i q) else mQ2 w o i q
def mQ4 (w : Nat → Int32) (o i : Nat) (q : mpT) : mpT := mPr (w (enA o i 2)) 3 109 (mPr (w (enA o i 2)) 2 120 (mPr (w (enA o i 2)) 1 119 (mPr (w (enA o i 2)) 0 114 (mPt 61 (mQ3x w o i q)))))
def mPe (w : Nat → Int32) (o i : Nat) (q : mpT) : mpT := if w (enA o i 4) = 1 then mPt 42 (mQ4 w o i q) else mQ4 w o i q
theorem mQ3x_le (w : Nat → Int32) (o i : Nat) (q : mpT) : (mQ3x w o i q).1 ≤ q.1 + 4 := by
  unfold mQ3x
  by_cases h : w (enA o i 0) < 2
  · rw [if_pos h]
    have := mPn_le (w (enA o i 1)) (mQ2 w o i q)
    have e : (mQ2 w o i q).1 = q.1 + 1 + 1 := rfl
    omega
  · rw [if_neg h]; show q.1 + 1 + 1 ≤ _; omega
theorem mQ4_le (w : Nat → Int32) (o i : Nat) (q : mpT) : (mQ4 w o i q).1 ≤ q.1 + 9 := by
  unfold mQ4
  have h0 := mQ3x_le w o i q
  have h1 := mPr_le (w (enA o i 2)) 0 114 (mPt 61 (mQ3x w o i q))
  have h2 := mPr_le (w (enA o i 2)) 1 119 (mPr (w (enA o i 2)) 0 114 (mPt 61 (mQ3x w o i q)))
  have h3 := mPr_le (w (enA o i 2)) 2 120 (mPr (w (enA o i 2)) 1 119 (mPr (w (enA o i 2)) 0 114 (mPt 61 (mQ3x w o i q))))
  have h4 := mPr_le (w (enA o i 2)) 3 109 (mPr (w (enA o i 2)) 2 120 (mPr (w (enA o i 2)) 1 119 (mPr (w (enA o i 2)) 0 114 (mPt 61 (mQ3x w o i q)))))
  have h5 : (mPt 61 (mQ3x w o i q)).1 = (mQ3x w o i q).1 + 1 := rfl
  omega
theorem mPe_le (w : Nat → Int32) (o i : Nat) (q : mpT) : (mPe w o i q).1 ≤ q.1 + 10 := by
  unfold mPe
  have h := mQ4_le w o i q
  by_cases h1 : w (enA o i 4) = 1
  · rw [if_pos h1]; show (mQ4 w o i q).1 + 1 ≤ _; omega
  · rw [if_neg h1]; omega
set_option maxHeartbeats 4000000 in
set_option maxRecDepth 20000 in
theorem c_X12_putsEntry {l : Launch} (hl : l.stackTraces = false) (Θ : cTH) (o i : Nat) (q : mpT) (G : GS) (ho : o < 20) (hi : i < 6) (ht : q.1 + 10 ≤ 80) : Ct l yX12_putsEntry cX12_putsEntry 5 none rm_X12_putsEntry Θ [.ref (tR Θ 0 29), .int (nI o), .int (nI i)] (mD G q) (fR none (mD G (mPe (G.2.1 0 30) o i q))) := by
  refine ct_of (LS := [some (.ref (tR Θ 0 29)), some (.int (nI o)), some (.int (nI i)), none, none]) hl (by decide +kernel) rfl (Nat.le_of_ble_eq_true rfl) rfl ?_
  intro p e s m args below meth c hC hr
  have e30 : ∀ q2 : mpT, (mD G q2).2.1 0 30 = G.2.1 0 30 := fun _ => rfl
  have L9 : ∀ q2 : mpT, q2 = mQ3x (G.2.1 0 30) o i q → V p l e rm_X12_putsEntry s m args below meth c 5 Θ (fR none (mD G (mPe (G.2.1 0 30) o i q))) 0 0 0 0 90 [some (.ref (tR Θ 0 29)), some (.int (nI o)), some (.int (nI i)), some (.int (G.2.1 0 30 (enA o i 0))), some (.int (G.2.1 0 30 (enA o i 2)))] [] (mD G q2) := by
    intro q2 h1
    have h0 := mQ3x_le (G.2.1 0 30) o i q
    rw [← h1] at h0
    have h5 : (mPt 61 q2).1 = q2.1 + 1 := rfl
    have h6 := mPr_le (G.2.1 0 30 (enA o i 2)) 0 114 (mPt 61 q2)
    have h7 := mPr_le (G.2.1 0 30 (enA o i 2)) 1 119 (mPr (G.2.1 0 30 (enA o i 2)) 0 114 (mPt 61 q2))
    have h8 := mPr_le (G.2.1 0 30 (enA o i 2)) 2 120 (mPr (G.2.1 0 30 (enA o i 2)) 1 119 (mPr (G.2.1 0 30 (enA o i 2)) 0 114 (mPt 61 q2)))
    have h9 := mPr_le (G.2.1 0 30 (enA o i 2)) 3 109 (mPr (G.2.1 0 30 (enA o i 2)) 2 120 (mPr (G.2.1 0 30 (enA o i 2)) 1 119 (mPr (G.2.1 0 30 (enA o i 2)) 0 114 (mPt 61 q2))))
    refine v_aload_n (i := 0) (q := 91) hC dX12_putsEntry_90 rfl rfl rfl ?_
    refine v_bipush (q := 93) (v := 61) hC dX12_putsEntry_91 rfl (by decide) ?_
    refine v_callV (q := 96) (rm := rm_X12_puts) hC (c_X12_puts hl Θ _ q2 G (by omega)) k_X12_puts im_yX12_puts se_yX12_puts ml_RX12_196 dX12_putsEntry_93 rfl rfl rfl rfl rfl rfl (Nat.le_of_ble_eq_true rfl) ⟨Nat.le_of_ble_eq_true rfl, Nat.le_of_ble_eq_true rfl⟩ ⟨Nat.le_of_ble_eq_true rfl, Nat.le_of_ble_eq_true rfl⟩ (fR_k ?_) fR_x (Nat.le_of_ble_eq_true rfl) (Nat.le_of_ble_eq_true rfl)
    try dsimp only [Option.toList, List.cons_append, List.nil_append]
    refine v_aload_n (i := 0) (q := 97) hC dX12_putsEntry_96 rfl rfl rfl ?_
    refine v_iload (q := 99) hC dX12_putsEntry_97 rfl rfl ?_
    refine v_iconst (q := 100) (v := 0) hC dX12_putsEntry_99 rfl (by decide) ?_
    refine v_bipush (q := 102) (v := 114) hC dX12_putsEntry_100 rfl (by decide) ?_
    refine v_callV (q := 105) (rm := rm_X12_putsRight) hC (c_X12_putsRight hl Θ _ _ _ _ G (by omega)) k_X12_putsRight im_yX12_putsRight se_yX12_putsRight ml_RX12_203 dX12_putsEntry_102 rfl rfl rfl rfl rfl rfl (Nat.le_of_ble_eq_true rfl) ⟨Nat.le_of_ble_eq_true rfl, Nat.le_of_ble_eq_true rfl⟩ ⟨Nat.le_of_ble_eq_true rfl, Nat.le_of_ble_eq_true rfl⟩ (fR_k ?_) fR_x (Nat.le_of_ble_eq_true rfl) (Nat.le_of_ble_eq_true rfl)
    try dsimp only [Option.toList, List.cons_append, List.nil_append]
    refine v_aload_n (i := 0) (q := 106) hC dX12_putsEntry_105 rfl rfl rfl ?_
    refine v_iload (q := 108) hC dX12_putsEntry_106 rfl rfl ?_
    refine v_iconst (q := 109) (v := 1) hC dX12_putsEntry_108 rfl (by decide) ?_
    refine v_bipush (q := 111) (v := 119) hC dX12_putsEntry_109 rfl (by decide) ?_
    refine v_callV (q := 114) (rm := rm_X12_putsRight) hC (c_X12_putsRight hl Θ _ _ _ _ G (by omega)) k_X12_putsRight im_yX12_putsRight se_yX12_putsRight ml_RX12_203 dX12_putsEntry_111 rfl rfl rfl rfl rfl rfl (Nat.le_of_ble_eq_true rfl) ⟨Nat.le_of_ble_eq_true rfl, Nat.le_of_ble_eq_true rfl⟩ ⟨Nat.le_of_ble_eq_true rfl, Nat.le_of_ble_eq_true rfl⟩ (fR_k ?_) fR_x (Nat.le_of_ble_eq_true rfl) (Nat.le_of_ble_eq_true rfl)
    try dsimp only [Option.toList, List.cons_append, List.nil_append]
    refine v_aload_n (i := 0) (q := 115) hC dX12_putsEntry_114 rfl rfl rfl ?_
    refine v_iload (q := 117) hC dX12_putsEntry_115 rfl rfl ?_
    refine v_iconst (q := 118) (v := 2) hC dX12_putsEntry_117 rfl (by decide) ?_
    refine v_bipush (q := 120) (v := 120) hC dX12_putsEntry_118 rfl (by decide) ?_
    refine v_callV (q := 123) (rm := rm_X12_putsRight) hC (c_X12_putsRight hl Θ _ _ _ _ G (by omega)) k_X12_putsRight im_yX12_putsRight se_yX12_putsRight ml_RX12_203 dX12_putsEntry_120 rfl rfl rfl rfl rfl rfl (Nat.le_of_ble_eq_true rfl) ⟨Nat.le_of_ble_eq_true rfl, Nat.le_of_ble_eq_true rfl⟩ ⟨Nat.le_of_ble_eq_true rfl, Nat.le_of_ble_eq_true rfl⟩ (fR_k ?_) fR_x (Nat.le_of_ble_eq_true rfl) (Nat.le_of_ble_eq_true rfl)
    try dsimp only [Option.toList, List.cons_append, List.nil_append]
    refine v_aload_n (i := 0) (q := 124) hC dX12_putsEntry_123 rfl rfl rfl ?_
    refine v_iload (q := 126) hC dX12_putsEntry_124 rfl rfl ?_
    refine v_iconst (q := 127) (v := 3) hC dX12_putsEntry_126 rfl (by decide) ?_
    refine v_bipush (q := 129) (v := 109) hC dX12_putsEntry_127 rfl (by decide) ?_
    refine v_callV (q := 132) (rm := rm_X12_putsRight) hC (c_X12_putsRight hl Θ _ _ _ _ G (by omega)) k_X12_putsRight im_yX12_putsRight se_yX12_putsRight ml_RX12_203 dX12_putsEntry_129 rfl rfl rfl rfl rfl rfl (Nat.le_of_ble_eq_true rfl) ⟨Nat.le_of_ble_eq_true rfl, Nat.le_of_ble_eq_true rfl⟩ ⟨Nat.le_of_ble_eq_true rfl, Nat.le_of_ble_eq_true rfl⟩ (fR_k ?_) fR_x (Nat.le_of_ble_eq_true rfl) (Nat.le_of_ble_eq_true rfl)
    try dsimp only [Option.toList, List.cons_append, List.nil_append]
    refine v_aload_n (i := 0) (q := 133) hC dX12_putsEntry_132 rfl rfl rfl ?_
    refine v_iload_n (i := 1) (q := 134) hC dX12_putsEntry_133 rfl rfl rfl ?_
    refine v_iload_n (i := 2) (q := 135) hC dX12_putsEntry_134 rfl rfl rfl ?_
    refine v_iconst (q := 136) (v := 4) hC dX12_putsEntry_135 rfl (by decide) ?_
    refine v_callV (q := 139) (rm := rm_X12_ofEntry) hC (c_X12_ofEntry hl Θ o i 4 _ (by unfold enA; omega)) k_X12_ofEntry im_yX12_ofEntry se_yX12_ofEntry ml_RX12_122 dX12_putsEntry_136 rfl rfl rfl rfl rfl rfl (Nat.le_of_ble_eq_true rfl) ⟨Nat.le_of_ble_eq_true rfl, Nat.le_of_ble_eq_true rfl⟩ ⟨Nat.le_of_ble_eq_true rfl, Nat.le_of_ble_eq_true rfl⟩ (fR_k ?_) fR_x (Nat.le_of_ble_eq_true rfl) (Nat.le_of_ble_eq_true rfl)
    try dsimp only [Option.toList, List.cons_append, List.nil_append]
    refine v_iconst (q := 140) (v := 1) hC dX12_putsEntry_139 rfl (by decide) ?_
    refine v_icmp_ne (q := 149) (q2 := 143) hC dX12_putsEntry_140 (by decide) rfl (fun c_140 => ?_) (fun c_140 => ?_)
    · refine v_vret hC dX12_putsEntry_149 hr ?_ (Nat.le_of_ble_eq_true rfl) (Nat.le_of_ble_eq_true rfl)
      refine ⟨rfl, ?_⟩
      rw [mPe]
      first | (rw [if_pos (show G.2.1 0 30 (enA o i 4) = 1 from c_140), mQ4, ← h1]) | (rw [if_neg (show ¬ G.2.1 0 30 (enA o i 4) = 1 from c_140), mQ4, ← h1])
    · refine v_aload_n (i := 0) (q := 144) hC dX12_putsEntry_143 rfl rfl rfl ?_
      refine v_bipush (q := 146) (v := 42) hC dX12_putsEntry_144 rfl (by decide) ?_
      refine v_callV (q := 149) (rm := rm_X12_puts) hC (c_X12_puts hl Θ _ _ G (by omega)) k_X12_puts im_yX12_puts se_yX12_puts ml_RX12_196 dX12_putsEntry_146 rfl rfl rfl rfl rfl rfl (Nat.le_of_ble_eq_true rfl) ⟨Nat.le_of_ble_eq_true rfl, Nat.le_of_ble_eq_true rfl⟩ ⟨Nat.le_of_ble_eq_true rfl, Nat.le_of_ble_eq_true rfl⟩ (fR_k ?_) fR_x (Nat.le_of_ble_eq_true rfl) (Nat.le_of_ble_eq_true rfl)
      try dsimp only [Option.toList, List.cons_append, List.nil_append]
      refine v_vret hC dX12_putsEntry_149 hr ?_ (Nat.le_of_ble_eq_true rfl) (Nat.le_of_ble_eq_true rfl)
      refine ⟨rfl, ?_⟩
      rw [mPe]
      first | (rw [if_pos (show G.2.1 0 30 (enA o i 4) = 1 from c_140), mQ4, ← h1]) | (rw [if_neg (show ¬ G.2.1 0 30 (enA o i 4) = 1 from c_140), mQ4, ← h1])
  have L7 : ∀ (x : Int32) (q2 : mpT), q2 = mQ1 (G.2.1 0 30) o i q → x = mK2 (G.2.1 0 30 (enA o i 0)) → V p l e rm_X12_putsEntry s m args below meth c 5 Θ (fR none (mD G (mPe (G.2.1 0 30) o i q))) 0 0 0 0 71 [some (.ref (tR Θ 0 29)), some (.int (nI o)), some (.int (nI i)), some (.int (G.2.1 0 30 (enA o i 0))), some (.int (G.2.1 0 30 (enA o i 2)))] [.int x, .ref (tR Θ 0 29)] (mD G q2) := by
    intro x q2 h1 h2
    have h3 : q2.1 = q.1 + 1 := by rw [h1]; rfl
    have h4 : (mPt x q2).1 = q2.1 + 1 := rfl
    refine v_callV (q := 74) (rm := rm_X12_puts) hC (c_X12_puts hl Θ x q2 G (by omega)) k_X12_puts im_yX12_puts se_yX12_puts ml_RX12_196 dX12_putsEntry_71 rfl rfl rfl rfl rfl rfl (Nat.le_of_ble_eq_true rfl) ⟨Nat.le_of_ble_eq_true rfl, Nat.le_of_ble_eq_true rfl⟩ ⟨Nat.le_of_ble_eq_true rfl, Nat.le_of_ble_eq_true rfl⟩ (fR_k ?_) fR_x (Nat.le_of_ble_eq_true rfl) (Nat.le_of_ble_eq_true rfl)
    try dsimp only [Option.toList, List.cons_append, List.nil_append]
    refine v_iload_n (i := 3) (q := 75) hC dX12_putsEntry_74 rfl rfl rfl ?_
    refine v_iconst (q := 76) (v := 2) hC dX12_putsEntry_75 rfl (by decide) ?_
    refine v_icmp_ge (q := 90) (q2 := 79) hC dX12_putsEntry_76 (by decide) rfl (fun c_76 => ?_) (fun c_76 => ?_)
    · refine L9 _ ?_
      rw [mQ3x, mQ2, ← h1, ← h2]
      first | (rw [if_pos (Int32.not_le.mp c_76)]; rfl) | rw [if_neg (Int32.not_lt.mpr c_76)]
    · refine v_aload_n (i := 0) (q := 80) hC dX12_putsEntry_79 rfl rfl rfl ?_
      refine v_aload_n (i := 0) (q := 81) hC dX12_putsEntry_80 rfl rfl rfl ?_
      refine v_iload_n (i := 1) (q := 82) hC dX12_putsEntry_81 rfl rfl rfl ?_
      refine v_iload_n (i := 2) (q := 83) hC dX12_putsEntry_82 rfl rfl rfl ?_
      refine v_iconst (q := 84) (v := 1) hC dX12_putsEntry_83 rfl (by decide) ?_
      refine v_callV (q := 87) (rm := rm_X12_ofEntry) hC (c_X12_ofEntry hl Θ o i 1 _ (by unfold enA; omega)) k_X12_ofEntry im_yX12_ofEntry se_yX12_ofEntry ml_RX12_122 dX12_putsEntry_84 rfl rfl rfl rfl rfl rfl (Nat.le_of_ble_eq_true rfl) ⟨Nat.le_of_ble_eq_true rfl, Nat.le_of_ble_eq_true rfl⟩ ⟨Nat.le_of_ble_eq_true rfl, Nat.le_of_ble_eq_true rfl⟩ (fR_k ?_) fR_x (Nat.le_of_ble_eq_true rfl) (Nat.le_of_ble_eq_true rfl)
      try dsimp only [Option.toList, List.cons_append, List.nil_append]
      refine v_callV (q := 90) (rm := rm_X12_putsNumber) hC (c_X12_putsNumber hl Θ _ _ G (by omega)) k_X12_putsNumber im_yX12_putsNumber se_yX12_putsNumber ml_RX12_200 dX12_putsEntry_87 rfl rfl rfl rfl rfl rfl (Nat.le_of_ble_eq_true rfl) ⟨Nat.le_of_ble_eq_true rfl, Nat.le_of_ble_eq_true rfl⟩ ⟨Nat.le_of_ble_eq_true rfl, Nat.le_of_ble_eq_true rfl⟩ (fR_k ?_) fR_x (Nat.le_of_ble_eq_true rfl) (Nat.le_of_ble_eq_true rfl)
      try dsimp only [Option.toList, List.cons_append, List.nil_append]
      refine L9 _ ?_
      rw [mQ3x, mQ2, ← h1, ← h2]
      first | (rw [if_pos (Int32.not_le.mp c_76)]; rfl) | rw [if_neg (Int32.not_lt.mpr c_76)]
  have L3 : ∀ (x : Int32), x = (if G.2.1 0 30 (enA o i 3) = 1 then 43 else 45) → V p l e rm_X12_putsEntry s m args below meth c 5 Θ (fR none (mD G (mPe (G.2.1 0 30) o i q))) 0 0 0 0 36 [some (.ref (tR Θ 0 29)), some (.int (nI o)), some (.int (nI i)), some (.int (G.2.1 0 30 (enA o i 0))), some (.int (G.2.1 0 30 (enA o i 2)))] [.int x, .ref (tR Θ 0 29)] (mD G q) := by
    intro x h1
    refine v_callV (q := 39) (rm := rm_X12_puts) hC (c_X12_puts hl Θ x q G (by omega)) k_X12_puts im_yX12_puts se_yX12_puts ml_RX12_196 dX12_putsEntry_36 rfl rfl rfl rfl rfl rfl (Nat.le_of_ble_eq_true rfl) ⟨Nat.le_of_ble_eq_true rfl, Nat.le_of_ble_eq_true rfl⟩ ⟨Nat.le_of_ble_eq_true rfl, Nat.le_of_ble_eq_true rfl⟩ (fR_k ?_) fR_x (Nat.le_of_ble_eq_true rfl) (Nat.le_of_ble_eq_true rfl)
    try dsimp only [Option.toList, List.cons_append, List.nil_append]
    refine v_aload_n (i := 0) (q := 40) hC dX12_putsEntry_39 rfl rfl rfl ?_
    refine v_iload_n (i := 3) (q := 41) hC dX12_putsEntry_40 rfl rfl rfl ?_
    refine v_if_ne (q := 49) (q2 := 44) hC dX12_putsEntry_41 (by decide) rfl (fun c_41 => ?_) (fun c_41 => ?_)
    · refine v_iload_n (i := 3) (q := 50) hC dX12_putsEntry_49 rfl rfl rfl ?_
      refine v_iconst (q := 51) (v := 1) hC dX12_putsEntry_50 rfl (by decide) ?_
      refine v_icmp_ne (q := 59) (q2 := 54) hC dX12_putsEntry_51 (by decide) rfl (fun c_51 => ?_) (fun c_51 => ?_)
      · refine v_iload_n (i := 3) (q := 60) hC dX12_putsEntry_59 rfl rfl rfl ?_
        refine v_iconst (q := 61) (v := 2) hC dX12_putsEntry_60 rfl (by decide) ?_
        refine v_icmp_ne (q := 69) (q2 := 64) hC dX12_putsEntry_61 (by decide) rfl (fun c_61 => ?_) (fun c_61 => ?_)
        · refine v_bipush (q := 71) (v := 97) hC dX12_putsEntry_69 rfl (by decide) ?_
          refine L7 _ _ (by rw [mQ1, ← h1]) ?_
          rw [mK2]
          first | rw [if_pos c_41] | rw [if_neg c_41, if_pos c_51] | rw [if_neg c_41, if_neg c_51, if_pos c_61] | rw [if_neg c_41, if_neg c_51, if_neg c_61]
        · refine v_bipush (q := 66) (v := 111) hC dX12_putsEntry_64 rfl (by decide) ?_
          refine v_goto (q := 71) hC dX12_putsEntry_66 (by decide) ?_
          refine L7 _ _ (by rw [mQ1, ← h1]) ?_
          rw [mK2]
          first | rw [if_pos c_41] | rw [if_neg c_41, if_pos c_51] | rw [if_neg c_41, if_neg c_51, if_pos c_61] | rw [if_neg c_41, if_neg c_51, if_neg c_61]
      · refine v_bipush (q := 56) (v := 103) hC dX12_putsEntry_54 rfl (by decide) ?_
        refine v_goto (q := 71) hC dX12_putsEntry_56 (by decide) ?_
        refine L7 _ _ (by rw [mQ1, ← h1]) ?_
        rw [mK2]
        first | rw [if_pos c_41] | rw [if_neg c_41, if_pos c_51] | rw [if_neg c_41, if_neg c_51, if_pos c_61] | rw [if_neg c_41, if_neg c_51, if_neg c_61]
    · refine v_bipush (q := 46) (v := 117) hC dX12_putsEntry_44 rfl (by decide) ?_
      refine v_goto (q := 71) hC dX12_putsEntry_46 (by decide) ?_
      refine L7 _ _ (by rw [mQ1, ← h1]) ?_
      rw [mK2]
      first | rw [if_pos c_41] | rw [if_neg c_41, if_pos c_51] | rw [if_neg c_41, if_neg c_51, if_pos c_61] | rw [if_neg c_41, if_neg c_51, if_neg c_61]
  refine v_aload_n (i := 0) (q := 1) hC dX12_putsEntry_0 rfl rfl rfl ?_
  refine v_iload_n (i := 1) (q := 2) hC dX12_putsEntry_1 rfl rfl rfl ?_
  refine v_iload_n (i := 2) (q := 3) hC dX12_putsEntry_2 rfl rfl rfl ?_
  refine v_iconst (q := 4) (v := 0) hC dX12_putsEntry_3 rfl (by decide) ?_
  refine v_callV (q := 7) (rm := rm_X12_ofEntry) hC (c_X12_ofEntry hl Θ o i 0 _ (by unfold enA; omega)) k_X12_ofEntry im_yX12_ofEntry se_yX12_ofEntry ml_RX12_122 dX12_putsEntry_4 rfl rfl rfl rfl rfl rfl (Nat.le_of_ble_eq_true rfl) ⟨Nat.le_of_ble_eq_true rfl, Nat.le_of_ble_eq_true rfl⟩ ⟨Nat.le_of_ble_eq_true rfl, Nat.le_of_ble_eq_true rfl⟩ (fR_k ?_) fR_x (Nat.le_of_ble_eq_true rfl) (Nat.le_of_ble_eq_true rfl)
  try dsimp only [Option.toList, List.cons_append, List.nil_append]
  refine v_istore_n (i := 3) (q := 8) hC dX12_putsEntry_7 rfl rfl (lvc rfl) (Nat.le_of_ble_eq_true rfl) (Nat.le_of_ble_eq_true rfl) rfl ?_
  refine v_aload_n (i := 0) (q := 9) hC dX12_putsEntry_8 rfl rfl rfl ?_
  refine v_iload_n (i := 1) (q := 10) hC dX12_putsEntry_9 rfl rfl rfl ?_
  refine v_iload_n (i := 2) (q := 11) hC dX12_putsEntry_10 rfl rfl rfl ?_
  refine v_iconst (q := 12) (v := 2) hC dX12_putsEntry_11 rfl (by decide) ?_
  refine v_callV (q := 15) (rm := rm_X12_ofEntry) hC (c_X12_ofEntry hl Θ o i 2 _ (by unfold enA; omega)) k_X12_ofEntry im_yX12_ofEntry se_yX12_ofEntry ml_RX12_122 dX12_putsEntry_12 rfl rfl rfl rfl rfl rfl (Nat.le_of_ble_eq_true rfl) ⟨Nat.le_of_ble_eq_true rfl, Nat.le_of_ble_eq_true rfl⟩ ⟨Nat.le_of_ble_eq_true rfl, Nat.le_of_ble_eq_true rfl⟩ (fR_k ?_) fR_x (Nat.le_of_ble_eq_true rfl) (Nat.le_of_ble_eq_true rfl)
  try dsimp only [Option.toList, List.cons_append, List.nil_append]
  refine v_istore (q := 17) hC dX12_putsEntry_15 rfl (lvc rfl) (Nat.le_of_ble_eq_true rfl) (Nat.le_of_ble_eq_true rfl) rfl ?_
  refine v_aload_n (i := 0) (q := 18) hC dX12_putsEntry_17 rfl rfl rfl ?_
  refine v_aload_n (i := 0) (q := 19) hC dX12_putsEntry_18 rfl rfl rfl ?_
  refine v_iload_n (i := 1) (q := 20) hC dX12_putsEntry_19 rfl rfl rfl ?_
  refine v_iload_n (i := 2) (q := 21) hC dX12_putsEntry_20 rfl rfl rfl ?_
  refine v_iconst (q := 22) (v := 3) hC dX12_putsEntry_21 rfl (by decide) ?_
  refine v_callV (q := 25) (rm := rm_X12_ofEntry) hC (c_X12_ofEntry hl Θ o i 3 _ (by unfold enA; omega)) k_X12_ofEntry im_yX12_ofEntry se_yX12_ofEntry ml_RX12_122 dX12_putsEntry_22 rfl rfl rfl rfl rfl rfl (Nat.le_of_ble_eq_true rfl) ⟨Nat.le_of_ble_eq_true rfl, Nat.le_of_ble_eq_true rfl⟩ ⟨Nat.le_of_ble_eq_true rfl, Nat.le_of_ble_eq_true rfl⟩ (fR_k ?_) fR_x (Nat.le_of_ble_eq_true rfl) (Nat.le_of_ble_eq_true rfl)
  try dsimp only [Option.toList, List.cons_append, List.nil_append]
  refine v_iconst (q := 26) (v := 1) hC dX12_putsEntry_25 rfl (by decide) ?_
  refine v_icmp_ne (q := 34) (q2 := 29) hC dX12_putsEntry_26 (by decide) rfl (fun c_26 => ?_) (fun c_26 => ?_)
  · refine v_bipush (q := 36) (v := 45) hC dX12_putsEntry_34 rfl (by decide) ?_
    refine L3 _ ?_
    first | rw [if_pos (show G.2.1 0 30 (enA o i 3) = 1 from c_26)] | rw [if_neg (show ¬ G.2.1 0 30 (enA o i 3) = 1 from c_26)]
  · refine v_bipush (q := 31) (v := 43) hC dX12_putsEntry_29 rfl (by decide) ?_
    refine v_goto (q := 36) hC dX12_putsEntry_31 (by decide) ?_
    refine L3 _ ?_
    first | rw [if_pos (show G.2.1 0 30 (enA o i 3) = 1 from c_26)] | rw [if_neg (show ¬ G.2.1 0 30 (enA o i 3) = 1 from c_26)]
def mWL (w : Nat → Int32) (o : Nat) : Nat → Nat → mpT → mpT
  | 0, _, q => q
  | n + 1, k, q => mWL w o n (k + 1) (mPe w o k (if 0 < k then mPt 59 q else q))
def mWE (w : Nat → Int32) (o : Nat) (z : Nat → Int32) : mpT := mWL w o (mCt w o) 0 (mPt 58 (mPn (nI o) (0, z)))
set_option maxHeartbeats 4000000 in
set_option maxRecDepth 20000 in
theorem c_X12_writeEntries {l : Launch} (hl : l.stackTraces = false) (Θ : cTH) (o : Int32) (G : GS) (hm : mInv G) : Ct l yX12_writeEntries cX12_writeEntries 3 (some .int) rm_X12_writeEntries Θ [.ref (tR Θ 0 29), .int o] (G) (mg (mHold (G.2.1 0 30) o) 1 (fR (some (.int (nI (mWE (G.2.1 0 30) o.toNatClampNeg (G.2.1 0 34)).1))) (mD (ms 0 G) (mWE (G.2.1 0 30) o.toNatClampNeg (G.2.1 0 34)))) (G)) := by
  refine ct_of (LS := [some (.ref (tR Θ 0 29)), some (.int o), none]) hl (by decide +kernel) rfl (Nat.le_of_ble_eq_true rfl) rfl ?_
  intro p e s m args below meth c hC hr
  have L : ∀ (o2 : Nat), o2 < 20 → ∀ (n j : Nat) (q2 : mpT), n + j = mCt (G.2.1 0 30) o2 → mWL (G.2.1 0 30) o2 n j q2 = mWE (G.2.1 0 30) o2 (G.2.1 0 34) → q2.1 ≤ 3 + 11 * j → V p l e rm_X12_writeEntries s m args below meth c 3 Θ (fR (some (.int (nI (mWE (G.2.1 0 30) o2 (G.2.1 0 34)).1))) (mD (ms 0 G) (mWE (G.2.1 0 30) o2 (G.2.1 0 34)))) rm_X12_writeEntries.cells rm_X12_writeEntries.slots 0 0 37 [some (.ref (tR Θ 0 29)), some (.int (nI o2)), some (.int (nI j))] [] (mD (ms 0 G) q2) := by
    intro o2 ho n
    have hc := hm.2.ct ho
    have hc6 := hm.2.ct6 ho
    induction n with
    | zero =>
      intro j q2 h1 h2 h3
      rw [mWL] at h2
      refine v_iload_n (i := 2) (q := 38) hC dX12_writeEntries_37 rfl rfl rfl ?_
      refine v_aload_n (i := 0) (q := 39) hC dX12_writeEntries_38 rfl rfl rfl ?_
      refine v_iload_n (i := 1) (q := 40) hC dX12_writeEntries_39 rfl rfl rfl ?_
      refine v_iconst (q := 41) (v := 5) hC dX12_writeEntries_40 rfl (by decide) ?_
      refine v_callV (q := 44) (rm := rm_X12_of) hC (c_X12_of hl Θ o2 5 _ (by unfold oA; omega)) k_X12_of im_yX12_of se_yX12_of ml_RX12_54 dX12_writeEntries_41 rfl rfl rfl rfl rfl rfl (Nat.le_of_ble_eq_true rfl) ⟨Nat.le_of_ble_eq_true rfl, Nat.le_of_ble_eq_true rfl⟩ ⟨Nat.le_of_ble_eq_true rfl, Nat.le_of_ble_eq_true rfl⟩ (fR_k ?_) fR_x (Nat.le_of_ble_eq_true rfl) (Nat.le_of_ble_eq_true rfl)
      try dsimp only [Option.toList, List.cons_append, List.nil_append]
      rw [show (mD (ms 0 G) q2).2.1 0 30 (oA o2 5) = nI (mCt (G.2.1 0 30) o2) from hc]
      refine v_icmp_ge (q := 69) (q2 := 47) hC dX12_writeEntries_44 (by decide) rfl (fun c_44 => ?_) (fun c_44 => ?_)
      · refine v_aload_n (i := 0) (q := 70) hC dX12_writeEntries_69 rfl rfl rfl ?_
        refine gd_7 (q := 73) hC dX12_writeEntries_70 rfl rfl fl_RX12_159 ?_
        refine v_iret hC dX12_writeEntries_73 hr (rfl) ?_ (Nat.le_of_ble_eq_true rfl) (Nat.le_of_ble_eq_true rfl)
        rw [← h2]
        exact ⟨rfl, rfl⟩
      · exact absurd (nI_le (by omega) (by omega)) c_44
    | succ n ih =>
      intro j q2 h1 h2 h3
      rw [mWL] at h2
      have LB : ∀ q3 : mpT, q3 = (if 0 < j then mPt 59 q2 else q2) → q3.1 ≤ q2.1 + 1 → V p l e rm_X12_writeEntries s m args below meth c 3 Θ (fR (some (.int (nI (mWE (G.2.1 0 30) o2 (G.2.1 0 34)).1))) (mD (ms 0 G) (mWE (G.2.1 0 30) o2 (G.2.1 0 34)))) rm_X12_writeEntries.cells rm_X12_writeEntries.slots 0 0 57 [some (.ref (tR Θ 0 29)), some (.int (nI o2)), some (.int (nI j))] [] (mD (ms 0 G) q3) := by
        intro q3 h4 h5
        have h6 := mPe_le (G.2.1 0 30) o2 j q3
        have h7 : j = 0 → q3.1 = q2.1 := fun z => by rw [h4, if_neg (by omega)]
        refine v_aload_n (i := 0) (q := 58) hC dX12_writeEntries_57 rfl rfl rfl ?_
        refine v_iload_n (i := 1) (q := 59) hC dX12_writeEntries_58 rfl rfl rfl ?_
        refine v_iload_n (i := 2) (q := 60) hC dX12_writeEntries_59 rfl rfl rfl ?_
        refine v_callV (q := 63) (rm := rm_X12_putsEntry) hC (c_X12_putsEntry hl Θ o2 j q3 (ms 0 G) ho (by omega) (by omega)) k_X12_putsEntry im_yX12_putsEntry se_yX12_putsEntry ml_RX12_206 dX12_writeEntries_60 rfl rfl rfl rfl rfl rfl (Nat.le_of_ble_eq_true rfl) ⟨Nat.le_of_ble_eq_true rfl, Nat.le_of_ble_eq_true rfl⟩ ⟨Nat.le_of_ble_eq_true rfl, Nat.le_of_ble_eq_true rfl⟩ (fR_k ?_) fR_x (Nat.le_of_ble_eq_true rfl) (Nat.le_of_ble_eq_true rfl)
        try dsimp only [Option.toList, List.cons_append, List.nil_append]
        refine v_iinc (q := 66) (v := nI (j + 1)) hC dX12_writeEntries_63 rfl rfl (nI_1 j) (lvc rfl) (Nat.le_of_ble_eq_true rfl) (Nat.le_of_ble_eq_true rfl) rfl ?_
        refine v_goto (q := 37) hC dX12_writeEntries_66 (by decide) ?_
        refine ih (j + 1) _ (by omega) (by rw [← h2, ← h4]; rfl) ?_
        show (mPe (G.2.1 0 30) o2 j q3).1 ≤ 3 + 11 * (j + 1)
        omega
      refine v_iload_n (i := 2) (q := 38) hC dX12_writeEntries_37 rfl rfl rfl ?_
      refine v_aload_n (i := 0) (q := 39) hC dX12_writeEntries_38 rfl rfl rfl ?_
      refine v_iload_n (i := 1) (q := 40) hC dX12_writeEntries_39 rfl rfl rfl ?_
      refine v_iconst (q := 41) (v := 5) hC dX12_writeEntries_40 rfl (by decide) ?_
      refine v_callV (q := 44) (rm := rm_X12_of) hC (c_X12_of hl Θ o2 5 _ (by unfold oA; omega)) k_X12_of im_yX12_of se_yX12_of ml_RX12_54 dX12_writeEntries_41 rfl rfl rfl rfl rfl rfl (Nat.le_of_ble_eq_true rfl) ⟨Nat.le_of_ble_eq_true rfl, Nat.le_of_ble_eq_true rfl⟩ ⟨Nat.le_of_ble_eq_true rfl, Nat.le_of_ble_eq_true rfl⟩ (fR_k ?_) fR_x (Nat.le_of_ble_eq_true rfl) (Nat.le_of_ble_eq_true rfl)
      try dsimp only [Option.toList, List.cons_append, List.nil_append]
      rw [show (mD (ms 0 G) q2).2.1 0 30 (oA o2 5) = nI (mCt (G.2.1 0 30) o2) from hc]
      refine v_icmp_ge (q := 69) (q2 := 47) hC dX12_writeEntries_44 (by decide) rfl (fun c_44 => ?_) (fun c_44 => ?_)
      · exact absurd c_44 (nI_ge (by omega) (by omega))
      · refine v_iload_n (i := 2) (q := 48) hC dX12_writeEntries_47 rfl rfl rfl ?_
        refine v_if_le (q := 57) (q2 := 51) hC dX12_writeEntries_48 (by decide) rfl (fun c_48 => ?_) (fun c_48 => ?_)
        · first
            | (have hj0 : j = 0 := by rcases Nat.eq_zero_or_pos j with z | z; exact z; exact absurd (nI_le (a := 0) (b := 0) (Nat.le_refl _) (by decide)) (fun _ => absurd c_48 (nI_ge (a := 0) z (by omega)))
               exact LB q2 (by rw [if_neg (by omega)]) (by omega))
            | (have hj0 : 0 < j := by rcases Nat.eq_zero_or_pos j with z | z; exact absurd (by rw [z]; decide) c_48; exact z
               exact LB _ (by rw [if_pos hj0]) (Nat.le_refl _))
        · refine v_aload_n (i := 0) (q := 52) hC dX12_writeEntries_51 rfl rfl rfl ?_
          refine v_bipush (q := 54) (v := 59) hC dX12_writeEntries_52 rfl (by decide) ?_
          refine v_callV (q := 57) (rm := rm_X12_puts) hC (c_X12_puts hl Θ _ q2 (ms 0 G) (by omega)) k_X12_puts im_yX12_puts se_yX12_puts ml_RX12_196 dX12_writeEntries_54 rfl rfl rfl rfl rfl rfl (Nat.le_of_ble_eq_true rfl) ⟨Nat.le_of_ble_eq_true rfl, Nat.le_of_ble_eq_true rfl⟩ ⟨Nat.le_of_ble_eq_true rfl, Nat.le_of_ble_eq_true rfl⟩ (fR_k ?_) fR_x (Nat.le_of_ble_eq_true rfl) (Nat.le_of_ble_eq_true rfl)
          try dsimp only [Option.toList, List.cons_append, List.nil_append]
          first
            | (have hj0 : j = 0 := by rcases Nat.eq_zero_or_pos j with z | z; exact z; exact absurd (nI_le (a := 0) (b := 0) (Nat.le_refl _) (by decide)) (fun _ => absurd c_48 (nI_ge (a := 0) z (by omega)))
               exact LB q2 (by rw [if_neg (by omega)]) (by omega))
            | (have hj0 : 0 < j := by rcases Nat.eq_zero_or_pos j with z | z; exact absurd (by rw [z]; decide) c_48; exact z
               exact LB _ (by rw [if_pos hj0]) (Nat.le_refl _))
  refine v_aload_n (i := 0) (q := 1) hC dX12_writeEntries_0 rfl rfl rfl ?_
  refine v_iconst (q := 2) (v := 0) hC dX12_writeEntries_1 rfl (by decide) ?_
  refine pm_last (q := 5) hC dX12_writeEntries_2 rfl rfl fl_RX12_39 ?_
  refine v_aload_n (i := 0) (q := 6) hC dX12_writeEntries_5 rfl rfl rfl ?_
  refine v_iload_n (i := 1) (q := 7) hC dX12_writeEntries_6 rfl rfl rfl ?_
  refine v_callV (q := 10) (rm := rm_X12_isObject) hC (c_X12_isObject hl Θ _ _) k_X12_isObject im_yX12_isObject se_yX12_isObject ml_RX12_57 dX12_writeEntries_7 rfl rfl rfl rfl rfl rfl (Nat.le_of_ble_eq_true rfl) ⟨Nat.le_of_ble_eq_true rfl, Nat.le_of_ble_eq_true rfl⟩ ⟨Nat.le_of_ble_eq_true rfl, Nat.le_of_ble_eq_true rfl⟩ (fR_k ?_) fR_x (Nat.le_of_ble_eq_true rfl) (Nat.le_of_ble_eq_true rfl)
  try dsimp only [Option.toList, List.cons_append, List.nil_append]
  refine v_ifb_ne (q := 19) (q2 := 13) hC dX12_writeEntries_10 (by decide) rfl (fun c_10 => ?_) (fun c_10 => ?_)
  · rw [mg_t (show mHold (G.2.1 0 30) o = true from c_10)]
    obtain ⟨j, hj, rfl⟩ := mHold_nI c_10
    rw [nI_clamp (show j < 2 ^ 31 by omega)]
    refine v_aload_n (i := 0) (q := 20) hC dX12_writeEntries_19 rfl rfl rfl ?_
    refine v_iconst (q := 21) (v := 0) hC dX12_writeEntries_20 rfl (by decide) ?_
    refine p_X12_7 (q := 24) hC dX12_writeEntries_21 rfl rfl fl_RX12_159 ?_
    rw [show putF (ms 0 G) 0 29 7 0 = mD (ms 0 G) (0, G.2.1 0 34) from mD_0 (ms 0 G) 0]
    refine v_aload_n (i := 0) (q := 25) hC dX12_writeEntries_24 rfl rfl rfl ?_
    refine v_iload_n (i := 1) (q := 26) hC dX12_writeEntries_25 rfl rfl rfl ?_
    refine v_callV (q := 29) (rm := rm_X12_putsNumber) hC (c_X12_putsNumber hl Θ _ _ (ms 0 G) (by show 0 + 2 ≤ 80; omega)) k_X12_putsNumber im_yX12_putsNumber se_yX12_putsNumber ml_RX12_200 dX12_writeEntries_26 rfl rfl rfl rfl rfl rfl (Nat.le_of_ble_eq_true rfl) ⟨Nat.le_of_ble_eq_true rfl, Nat.le_of_ble_eq_true rfl⟩ ⟨Nat.le_of_ble_eq_true rfl, Nat.le_of_ble_eq_true rfl⟩ (fR_k ?_) fR_x (Nat.le_of_ble_eq_true rfl) (Nat.le_of_ble_eq_true rfl)
    try dsimp only [Option.toList, List.cons_append, List.nil_append]
    refine v_aload_n (i := 0) (q := 30) hC dX12_writeEntries_29 rfl rfl rfl ?_
    refine v_bipush (q := 32) (v := 58) hC dX12_writeEntries_30 rfl (by decide) ?_
    refine v_callV (q := 35) (rm := rm_X12_puts) hC (c_X12_puts hl Θ _ _ (ms 0 G) (by have := mPn_le (nI j) (0, G.2.1 0 34); have e0 : ((0 : Nat), G.2.1 0 34).1 = 0 := rfl; omega)) k_X12_puts im_yX12_puts se_yX12_puts ml_RX12_196 dX12_writeEntries_32 rfl rfl rfl rfl rfl rfl (Nat.le_of_ble_eq_true rfl) ⟨Nat.le_of_ble_eq_true rfl, Nat.le_of_ble_eq_true rfl⟩ ⟨Nat.le_of_ble_eq_true rfl, Nat.le_of_ble_eq_true rfl⟩ (fR_k ?_) fR_x (Nat.le_of_ble_eq_true rfl) (Nat.le_of_ble_eq_true rfl)
    try dsimp only [Option.toList, List.cons_append, List.nil_append]
    refine v_iconst (q := 36) (v := 0) hC dX12_writeEntries_35 rfl (by decide) ?_
    refine v_istore_n (i := 2) (q := 37) hC dX12_writeEntries_36 rfl rfl (lvc rfl) (Nat.le_of_ble_eq_true rfl) (Nat.le_of_ble_eq_true rfl) rfl ?_
    exact L j hj _ 0 _ rfl rfl (by have := mPn_le (nI j) (0, G.2.1 0 34); have e0 : ((0 : Nat), G.2.1 0 34).1 = 0 := rfl; show (mPn (nI j) (0, G.2.1 0 34)).1 + 1 ≤ _; omega)
  · refine v_aload_n (i := 0) (q := 14) hC dX12_writeEntries_13 rfl rfl rfl ?_
    refine v_iconst (q := 15) (v := 1) hC dX12_writeEntries_14 rfl (by decide) ?_
    refine v_callV (q := 18) (rm := rm_X12_fails) hC (c_fl hl Θ _ _ _) k_X12_fails im_yX12_fails se_yX12_fails ml_RX12_76 dX12_writeEntries_15 rfl rfl rfl rfl rfl rfl (Nat.le_of_ble_eq_true rfl) ⟨Nat.le_of_ble_eq_true rfl, Nat.le_of_ble_eq_true rfl⟩ ⟨Nat.le_of_ble_eq_true rfl, Nat.le_of_ble_eq_true rfl⟩ (fR_k ?_) fR_x (Nat.le_of_ble_eq_true rfl) (Nat.le_of_ble_eq_true rfl)
    try dsimp only [Option.toList, List.cons_append, List.nil_append]
    refine v_iret hC dX12_writeEntries_18 hr (rfl) ?_ (Nat.le_of_ble_eq_true rfl) (Nat.le_of_ble_eq_true rfl)
    exact mg_f c_10
theorem mD_ms {G : GS} {ty : Nat} (e7 : G.1 0 29 7 = nI ty) (x : Int32) : mD (ms x G) (ty, G.2.1 0 34) = ms x G := by
  have h : mD (ms x G) (ty, G.2.1 0 34) = putF (ms x G) 0 29 7 (nI ty) := (mD_0 (ms x G) ty).symm
  rw [h, ← e7, ← ms_fld x G (k := 7) (by decide), putF_self]
theorem mD_mss (x : Int32) (q : mpT) (G : GS) : ms x (mD G q) = mD (ms x G) q := by
  unfold ms mD
  rw [putF_comm _ _ _ 7 5 _ _ (by decide)]
  rfl
set_option maxHeartbeats 4000000 in
set_option maxRecDepth 20000 in
theorem c_X12_append {l : Launch} (hl : l.stackTraces = false) (Θ : cTH) (x : Int32) (ty : Nat) (G : GS) (e7 : G.1 0 29 7 = nI ty) (h80 : ty ≤ 80) : Ct l yX12_append cX12_append 2 (some .int) rm_X12_append Θ [.ref (tR Θ 0 29), .int x] (G) (mg (mIn x 33 126) 1 (mg (!decide (ty = 80)) 2 (fR (some (.int (nI (ty + 1)))) (mD (ms 0 G) (ty + 1, upd (G.2.1 0 34) ty x))) (G)) (G)) := by
  refine ct_of (LS := [some (.ref (tR Θ 0 29)), some (.int x)]) hl (by decide +kernel) rfl (Nat.le_of_ble_eq_true rfl) rfl ?_
  intro p e s m args below meth c hC hr
  have L : V p l e rm_X12_append s m args below meth c 2 Θ (mg (!decide (ty = 80)) 2 (fR (some (.int (nI (ty + 1)))) (mD (ms 0 G) (ty + 1, upd (G.2.1 0 34) ty x))) (G)) rm_X12_append.cells rm_X12_append.slots 0 0 22 [some (.ref (tR Θ 0 29)), some (.int x)] [] (mD (ms 0 G) (ty, G.2.1 0 34)) := by
    refine v_aload_n (i := 0) (q := 23) hC dX12_append_22 rfl rfl rfl ?_
    refine gd_7 (q := 26) hC dX12_append_23 rfl rfl fl_RX12_159 ?_
    refine v_bipush (q := 28) (v := 80) hC dX12_append_26 rfl (by decide) ?_
    refine v_icmp_ne (q := 37) (q2 := 31) hC dX12_append_28 (by decide) rfl (fun c_28 => ?_) (fun c_28 => ?_)
    · rw [mg_t (by rw [show decide (ty = 80) = false from decide_eq_false (fun z => c_28 (by rw [show ty = 80 from z]; rfl))]; rfl)]
      have h79 : ty < 80 := by rcases Nat.lt_or_ge ty 80 with z | z; exact z; exact absurd (show nI ty = 80 by rw [show ty = 80 by omega]; rfl) c_28
      refine v_aload_n (i := 0) (q := 38) hC dX12_append_37 rfl rfl rfl ?_
      refine g_X12_6 (q := 41) hC dX12_append_38 rfl rfl fl_RX12_23 ?_
      refine v_aload_n (i := 0) (q := 42) hC dX12_append_41 rfl rfl rfl ?_
      refine gd_7 (q := 45) hC dX12_append_42 rfl rfl fl_RX12_159 ?_
      refine v_iload_n (i := 1) (q := 46) hC dX12_append_45 rfl rfl rfl ?_
      refine v_dpad (i := ty) (q := 47) hC dX12_append_46 rfl rfl h79 ?_
      refine v_aload_n (i := 0) (q := 48) hC dX12_append_47 rfl rfl rfl ?_
      refine v_dup (q := 49) hC dX12_append_48 rfl rfl ?_
      refine gd_7 (q := 52) hC dX12_append_49 rfl rfl fl_RX12_159 ?_
      refine v_iconst (q := 53) (v := 1) hC dX12_append_52 rfl (by decide) ?_
      refine v_iadd (q := 54) hC dX12_append_53 rfl ?_
      rw [nI_1]
      refine pd_7 (q := 57) hC dX12_append_54 rfl rfl fl_RX12_159 ?_
      refine v_aload_n (i := 0) (q := 58) hC dX12_append_57 rfl rfl rfl ?_
      refine gd_7 (q := 61) hC dX12_append_58 rfl rfl fl_RX12_159 ?_
      refine v_iret hC dX12_append_61 hr (rfl) ?_ (Nat.le_of_ble_eq_true rfl) (Nat.le_of_ble_eq_true rfl)
      exact ⟨rfl, rfl⟩
    · refine v_aload_n (i := 0) (q := 32) hC dX12_append_31 rfl rfl rfl ?_
      refine v_iconst (q := 33) (v := 2) hC dX12_append_32 rfl (by decide) ?_
      refine v_callV (q := 36) (rm := rm_X12_fails) hC (c_X12_fails hl Θ _ _) k_X12_fails im_yX12_fails se_yX12_fails ml_RX12_76 dX12_append_33 rfl rfl rfl rfl rfl rfl (Nat.le_of_ble_eq_true rfl) ⟨Nat.le_of_ble_eq_true rfl, Nat.le_of_ble_eq_true rfl⟩ ⟨Nat.le_of_ble_eq_true rfl, Nat.le_of_ble_eq_true rfl⟩ (fR_k ?_) fR_x (Nat.le_of_ble_eq_true rfl) (Nat.le_of_ble_eq_true rfl)
      try dsimp only [Option.toList, List.cons_append, List.nil_append]
      rw [mD_mss, ms_ms, mD_ms e7]
      refine v_iret hC dX12_append_36 hr (rfl) ?_ (Nat.le_of_ble_eq_true rfl) (Nat.le_of_ble_eq_true rfl)
      exact mg_f (by rw [show decide (ty = 80) = true from decide_eq_true ((nI_eq (b := 80) (by omega) (by decide)).mp c_28)]; rfl)
  refine v_aload_n (i := 0) (q := 1) hC dX12_append_0 rfl rfl rfl ?_
  refine v_iconst (q := 2) (v := 0) hC dX12_append_1 rfl (by decide) ?_
  refine pm_last (q := 5) hC dX12_append_2 rfl rfl fl_RX12_39 ?_
  refine v_iload_n (i := 1) (q := 6) hC dX12_append_5 rfl rfl rfl ?_
  refine v_bipush (q := 8) (v := 33) hC dX12_append_6 rfl (by decide) ?_
  refine v_bipush (q := 10) (v := 126) hC dX12_append_8 rfl (by decide) ?_
  refine v_callS (q := 13) (rm := rm_X12_in) hC (c_X12_in hl Θ _ _ _ _) k_X12_in st_yX12_in ml_RX12_46 dX12_append_10 rfl  rfl rfl (Nat.le_of_ble_eq_true rfl) ⟨Nat.le_of_ble_eq_true rfl, Nat.le_of_ble_eq_true rfl⟩ ⟨Nat.le_of_ble_eq_true rfl, Nat.le_of_ble_eq_true rfl⟩ (fR_k ?_) fR_x (Nat.le_of_ble_eq_true rfl) (Nat.le_of_ble_eq_true rfl)
  try dsimp only [Option.toList, List.cons_append, List.nil_append]
  refine v_ifb_ne (q := 22) (q2 := 16) hC dX12_append_13 (by decide) rfl (fun c_13 => ?_) (fun c_13 => ?_)
  · rw [mg_t c_13]
    have h := L
    rw [mD_ms e7] at h
    exact h
  · refine v_aload_n (i := 0) (q := 17) hC dX12_append_16 rfl rfl rfl ?_
    refine v_iconst (q := 18) (v := 1) hC dX12_append_17 rfl (by decide) ?_
    refine v_callV (q := 21) (rm := rm_X12_fails) hC (c_fl hl Θ _ _ _) k_X12_fails im_yX12_fails se_yX12_fails ml_RX12_76 dX12_append_18 rfl rfl rfl rfl rfl rfl (Nat.le_of_ble_eq_true rfl) ⟨Nat.le_of_ble_eq_true rfl, Nat.le_of_ble_eq_true rfl⟩ ⟨Nat.le_of_ble_eq_true rfl, Nat.le_of_ble_eq_true rfl⟩ (fR_k ?_) fR_x (Nat.le_of_ble_eq_true rfl) (Nat.le_of_ble_eq_true rfl)
    try dsimp only [Option.toList, List.cons_append, List.nil_append]
    refine v_iret hC dX12_append_21 hr (rfl) ?_ (Nat.le_of_ble_eq_true rfl) (Nat.le_of_ble_eq_true rfl)
    exact mg_f c_13
set_option maxHeartbeats 4000000 in
set_option maxRecDepth 20000 in
theorem c_X12_clear {l : Launch} (hl : l.stackTraces = false) (Θ : cTH) (G : GS) : Ct l yX12_clear cX12_clear 2 (some .int) rm_X12_clear Θ [.ref (tR Θ 0 29)] (G) (fR (some (.int (G.1 0 29 7))) (putF (ms 0 G) 0 29 7 0)) := by
  refine ct_of (LS := [some (.ref (tR Θ 0 29)), none]) hl (by decide +kernel) rfl (Nat.le_of_ble_eq_true rfl) rfl ?_
  intro p e s m args below meth c hC hr
  refine v_aload_n (i := 0) (q := 1) hC dX12_clear_0 rfl rfl rfl ?_
  refine v_iconst (q := 2) (v := 0) hC dX12_clear_1 rfl (by decide) ?_
  refine pm_last (q := 5) hC dX12_clear_2 rfl rfl fl_RX12_39 ?_
  refine v_aload_n (i := 0) (q := 6) hC dX12_clear_5 rfl rfl rfl ?_
  refine g_X12_7 (q := 9) hC dX12_clear_6 rfl rfl fl_RX12_159 ?_
  refine v_istore_n (i := 1) (q := 10) hC dX12_clear_9 rfl rfl (lvc rfl) (Nat.le_of_ble_eq_true rfl) (Nat.le_of_ble_eq_true rfl) rfl ?_
  refine v_aload_n (i := 0) (q := 11) hC dX12_clear_10 rfl rfl rfl ?_
  refine v_iconst (q := 12) (v := 0) hC dX12_clear_11 rfl (by decide) ?_
  refine p_X12_7 (q := 15) hC dX12_clear_12 rfl rfl fl_RX12_159 ?_
  refine v_iload_n (i := 1) (q := 16) hC dX12_clear_15 rfl rfl rfl ?_
  refine v_iret hC dX12_clear_16 hr (rfl) ?_ (Nat.le_of_ble_eq_true rfl) (Nat.le_of_ble_eq_true rfl)
  exact ⟨by rw [ms_fld _ _ (by decide)], rfl⟩
set_option maxHeartbeats 4000000 in
set_option maxRecDepth 20000 in
theorem c_X12_codeAt {l : Launch} (hl : l.stackTraces = false) (Θ : cTH) (x : Int32) (G : GS) (hty : ∃ ty, G.1 0 29 7 = nI ty ∧ ty ≤ 80) : Ct l yX12_codeAt cX12_codeAt 2 (some .int) rm_X12_codeAt Θ [.ref (tR Θ 0 29), .int x] (G) (mg (mIn x 0 79) 1 (fR (some (.int (if x < G.1 0 29 7 then G.2.1 0 34 x.toNatClampNeg else -1))) (ms 0 G)) (G)) := by
  refine ct_of (LS := [some (.ref (tR Θ 0 29)), some (.int x)]) hl (by decide +kernel) rfl (Nat.le_of_ble_eq_true rfl) rfl ?_
  intro p e s m args below meth c hC hr
  refine v_aload_n (i := 0) (q := 1) hC dX12_codeAt_0 rfl rfl rfl ?_
  refine v_iconst (q := 2) (v := 0) hC dX12_codeAt_1 rfl (by decide) ?_
  refine pm_last (q := 5) hC dX12_codeAt_2 rfl rfl fl_RX12_39 ?_
  refine v_iload_n (i := 1) (q := 6) hC dX12_codeAt_5 rfl rfl rfl ?_
  refine v_iconst (q := 7) (v := 0) hC dX12_codeAt_6 rfl (by decide) ?_
  refine v_bipush (q := 9) (v := 79) hC dX12_codeAt_7 rfl (by decide) ?_
  refine v_callS (q := 12) (rm := rm_X12_in) hC (c_X12_in hl Θ _ _ _ _) k_X12_in st_yX12_in ml_RX12_46 dX12_codeAt_9 rfl  rfl rfl (Nat.le_of_ble_eq_true rfl) ⟨Nat.le_of_ble_eq_true rfl, Nat.le_of_ble_eq_true rfl⟩ ⟨Nat.le_of_ble_eq_true rfl, Nat.le_of_ble_eq_true rfl⟩ (fR_k ?_) fR_x (Nat.le_of_ble_eq_true rfl) (Nat.le_of_ble_eq_true rfl)
  try dsimp only [Option.toList, List.cons_append, List.nil_append]
  refine v_ifb_ne (q := 23) (q2 := 15) hC dX12_codeAt_12 (by decide) rfl (fun c_12 => ?_) (fun c_12 => ?_)
  · refine v_iload_n (i := 1) (q := 24) hC dX12_codeAt_23 rfl rfl rfl ?_
    refine v_aload_n (i := 0) (q := 25) hC dX12_codeAt_24 rfl rfl rfl ?_
    refine g_X12_7 (q := 28) hC dX12_codeAt_25 rfl rfl fl_RX12_159 ?_
    refine v_icmp_ge (q := 40) (q2 := 31) hC dX12_codeAt_28 (by decide) rfl (fun c_28 => ?_) (fun c_28 => ?_)
    · refine v_iconst (q := 41) (v := (-1)) hC dX12_codeAt_40 rfl (by decide) ?_
      refine v_iret hC dX12_codeAt_41 hr (rfl) ?_ (Nat.le_of_ble_eq_true rfl) (Nat.le_of_ble_eq_true rfl)
      first
        | exact mg_f c_12
        | (rw [mg_t c_12]
           have e7 : (ms 0 G).1 0 29 7 = G.1 0 29 7 := ms_fld _ _ (by decide)
           rw [e7] at c_28
           refine ⟨?_, rfl⟩
           first | (rw [if_pos (Int32.not_le.mp c_28)]; rfl) | (rw [if_neg (Int32.not_lt.mpr c_28)]))
    · refine v_aload_n (i := 0) (q := 32) hC dX12_codeAt_31 rfl rfl rfl ?_
      refine g_X12_6 (q := 35) hC dX12_codeAt_32 rfl rfl fl_RX12_23 ?_
      refine v_iload_n (i := 1) (q := 36) hC dX12_codeAt_35 rfl rfl rfl ?_
      refine v_iald (q := 37) hC dX12_codeAt_36 rfl rfl rfl (by obtain ⟨ty, e7, h80⟩ := hty; obtain ⟨j, hj, rfl⟩ := mIn_in (a := 79) c_12 (by decide); exact vp_in_nI (by omega) (by decide)) ?_
      refine v_goto (q := 41) hC dX12_codeAt_37 (by decide) ?_
      refine v_iret hC dX12_codeAt_41 hr (rfl) ?_ (Nat.le_of_ble_eq_true rfl) (Nat.le_of_ble_eq_true rfl)
      first
        | exact mg_f c_12
        | (rw [mg_t c_12]
           have e7 : (ms 0 G).1 0 29 7 = G.1 0 29 7 := ms_fld _ _ (by decide)
           rw [e7] at c_28
           refine ⟨?_, rfl⟩
           first | (rw [if_pos (Int32.not_le.mp c_28)]; rfl) | (rw [if_neg (Int32.not_lt.mpr c_28)]))
  · refine v_aload_n (i := 0) (q := 16) hC dX12_codeAt_15 rfl rfl rfl ?_
    refine v_iconst (q := 17) (v := 1) hC dX12_codeAt_16 rfl (by decide) ?_
    refine v_callV (q := 20) (rm := rm_X12_fails) hC (c_fl hl Θ _ _ _) k_X12_fails im_yX12_fails se_yX12_fails ml_RX12_76 dX12_codeAt_17 rfl rfl rfl rfl rfl rfl (Nat.le_of_ble_eq_true rfl) ⟨Nat.le_of_ble_eq_true rfl, Nat.le_of_ble_eq_true rfl⟩ ⟨Nat.le_of_ble_eq_true rfl, Nat.le_of_ble_eq_true rfl⟩ (fR_k ?_) fR_x (Nat.le_of_ble_eq_true rfl) (Nat.le_of_ble_eq_true rfl)
    try dsimp only [Option.toList, List.cons_append, List.nil_append]
    refine v_goto (q := 41) hC dX12_codeAt_20 (by decide) ?_
    refine v_iret hC dX12_codeAt_41 hr (rfl) ?_ (Nat.le_of_ble_eq_true rfl) (Nat.le_of_ble_eq_true rfl)
    first
      | exact mg_f c_12
      | (rw [mg_t c_12]
         have e7 : (ms 0 G).1 0 29 7 = G.1 0 29 7 := ms_fld _ _ (by decide)
         rw [e7] at c_28
         refine ⟨?_, rfl⟩
         first | (rw [if_pos (Int32.not_le.mp c_28)]; rfl) | (rw [if_neg (Int32.not_lt.mpr c_28)]))
