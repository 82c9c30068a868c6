/-! The two texts of ListText, String.length and charAt over them. -/
section TEXTS
variable {p : Program} {l : Launch} {e : Env} {R : Room} {s : State} {m : MethodId} {args : Array Value} {below : List Frame} {meth : Method} {c : Code} {cc : ByteArray} {nL : Nat} {own : String} {Θ : cTH} {Qp : cOut → GS → Prop} {Q9 : State → Prop} {mc ms k n pc q q2 : Nat} {LS : List (Option Value)} {st rest : List Value} {G : GS}
theorem cC_S (hC : cC p l s m args meth c cc nL own Θ) {i : Nat} (hi : i < 2) : vk_S 1 [4] [sTx i] (fun _ => tR Θ 8 i) (fun _ => tR Θ 8 (i + 2)) (tA Θ) s s.heap := hC.2.2.2.2.2.2.2.2.2.1.2.2.2.2 i hi
theorem v_ldcT0 (hC : cC p l s m args meth c cc nL RX5 Θ) (d : decode cc pc = .ok (.ldc 105, 2)) (hq : pc + 2 = q) (kk : VG p l e R s m args below meth c nL Θ Q9 k n q LS (.ref (tR Θ 8 0) :: rest) G) : VG p l e R s m args below meth c nL Θ Q9 k n pc LS rest G := by
  subst hq; exact v_lift0 (fun H locs ls Q w => va_ldcS hC.1 hC.2.1 (cC_own hC) hC.2.2.2.2.2.2.1.2.2.2.2.1.1 d w) kk
theorem v_ldcT1 (hC : cC p l s m args meth c cc nL RX5 Θ) (d : decode cc pc = .ok (.ldc 116, 2)) (hq : pc + 2 = q) (kk : VG p l e R s m args below meth c nL Θ Q9 k n q LS (.ref (tR Θ 8 1) :: rest) G) : VG p l e R s m args below meth c nL Θ Q9 k n pc LS rest G := by
  subst hq; exact v_lift0 (fun H locs ls Q w => va_ldcS hC.1 hC.2.1 (cC_own hC) hC.2.2.2.2.2.2.1.2.2.2.2.1.2 d w) kk
theorem v_getsC (hC : cC p l s m args meth c cc nL own Θ) {idx : Nat} (d : decode cc pc = .ok (.getstatic idx, 3)) (hq : pc + 3 = q) (hlk : Cond.fieldLink own idx "java/lang/String" "COMPACT_STRINGS" "Z" ∈ wALL) (kk : VG p l e R s m args below meth c nL Θ Q9 k n q LS (.int 1 :: rest) G) : VG p l e R s m args below meth c nL Θ Q9 k n pc LS rest G := by
  subst hq
  exact fun H locs ls hH hS hl => va_gets hC.1 hC.2.1 hC.2.2.2.2.2.2.2.2.2.1.2.2.1 hS (cC_own hC) (cC_hts hC hlk) (fun _ h => h) d (kk H locs ls hH hS hl)
theorem v_getsF (hC : cC p l s m args meth c cc nL own Θ) {idx : Nat} (d : decode cc pc = .ok (.getstatic idx, 3)) (hq : pc + 3 = q) (hlk : Cond.fieldLink own idx preT "SIOOBE_FORMATTER" fmT ∈ wALL) (kk : ∀ w : Value, w.category = 1 → VG p l e R s m args below meth c nL Θ Q9 k n q LS (w :: rest) G) : VG p l e R s m args below meth c nL Θ Q9 k n pc LS rest G := by
  subst hq
  intro H locs ls hH hS hl
  rcases hC.2.2.2.2.2.2.2.2.2.1.2.2.2.1.1 with h | ⟨t, h⟩
  · exact va_gets hC.1 hC.2.1 h hS (cC_own hC) (cC_hts hC hlk) (fun _ h => h) d (kk .null rfl H locs ls hH hS hl)
  · exact va_gets hC.1 hC.2.1 h hS (cC_own hC) (cC_hts hC hlk) (fun _ h => h) d (kk (.ref t) rfl H locs ls hH hS hl)
theorem v_getTc (hC : cC p l s m args meth c cc nL own Θ) {i idx : Nat} (hi : i < 2) (d : decode cc pc = .ok (.getfield idx, 3)) (hq : pc + 3 = q) (hlk : Cond.fieldLink own idx "java/lang/String" "coder" "B" ∈ wALL) (kk : VG p l e R s m args below meth c nL Θ Q9 k n q LS (.int 0 :: rest) G) : VG p l e R s m args below meth c nL Θ Q9 k n pc LS (.ref (tR Θ 8 i) :: rest) G := by
  subst hq
  exact fun H locs ls hH hS hl => vk_getf hC.1 hC.2.1 ((cC_S hC hi).1 0 (by decide)).2.1 hS (cC_own hC) (cC_hts hC hlk) (fun _ h => h) d (kk H locs ls hH hS hl)
theorem v_getTv (hC : cC p l s m args meth c cc nL own Θ) {i idx : Nat} (hi : i < 2) (d : decode cc pc = .ok (.getfield idx, 3)) (hq : pc + 3 = q) (hlk : Cond.fieldLink own idx "java/lang/String" "value" "[B" ∈ wALL) (kk : VG p l e R s m args below meth c nL Θ Q9 k n q LS (.ref (tR Θ 8 (i + 2)) :: rest) G) : VG p l e R s m args below meth c nL Θ Q9 k n pc LS (.ref (tR Θ 8 i) :: rest) G := by
  subst hq
  exact fun H locs ls hH hS hl => vk_getf hC.1 hC.2.1 ((cC_S hC hi).1 0 (by decide)).2.2.1 hS (cC_own hC) (cC_hts hC hlk) (fun _ h => h) d (kk H locs ls hH hS hl)
theorem v_alenT (hC : cC p l s m args meth c cc nL own Θ) {i : Nat} (hi : i < 2) (d : decode cc pc = .ok (.arraylength, 1)) (hq : pc + 1 = q) (kk : VG p l e R s m args below meth c nL Θ Q9 k n q LS (.int 4 :: rest) G) : VG p l e R s m args below meth c nL Θ Q9 k n pc LS (.ref (tR Θ 8 (i + 2)) :: rest) G := by
  subst hq
  exact fun H locs ls hH hS hl => va_tlen hC.1 hC.2.1 ((cC_S hC hi).1 0 (by decide)).2.2.2 hS rfl d (kk H locs ls hH hS hl)
theorem v_baldT (hC : cC p l s m args meth c cc nL own Θ) {i : Nat} {x : Int32} (hi : i < 2) (d : decode cc pc = .ok (.baload, 1)) (hq : pc + 1 = q) (hin : vp_in x 4) (kk : VG p l e R s m args below meth c nL Θ Q9 k n q LS (.int ((sTx i).getD x.toNatClampNeg 0) :: rest) G) : VG p l e R s m args below meth c nL Θ Q9 k n pc LS (.int x :: .ref (tR Θ 8 (i + 2)) :: rest) G := by
  subst hq
  exact fun H locs ls hH hS hl => va_tb hC.1 hC.2.1 ((cC_S hC hi).1 0 (by decide)).2.2.2 hS hin rfl d (kk H locs ls hH hS hl)
theorem v_i2c (hC : cC p l s m args meth c cc nL own Θ) {x : Int32} (d : decode cc pc = .ok (.i2c, 1)) (hq : pc + 1 = q) (kk : VG p l e R s m args below meth c nL Θ Q9 k n q LS (.int ((x.toUInt32 % 65536).toInt32) :: rest) G) : VG p l e R s m args below meth c nL Θ Q9 k n pc LS (.int x :: rest) G := by
  subst hq; exact v_lift0 (fun H locs ls Q w => lv_i2c hC.1 hC.2.1 d rfl w) kk
theorem v_callT (hC : cC p l s m args meth c cc nL own Θ) {y : MethodName} {cy : ByteArray} {nY na : Nat} {ret : Option FieldType} {rm : Room} {idx i : Nat} {As : List Value} {Qc : cOut → GS → Prop} (hM : Ct l y cy nY ret rm Θ (.ref (tR Θ 8 i) :: As) G Qc) (ky : kY y cy nY ret na) (him : Cond.instanceMethod y ∈ wALL) (hse : Cond.selects y.cls y y ∈ wALL) (hml : Cond.methodLink own idx y ∈ wALL) (d : decode cc pc = .ok (.invokevirtual idx, 3)) (hq : pc + 3 = q)
    (hi : i < 2) (hcl : y.cls = "java/lang/String") (hna : As.length = na) (hst : st = As.reverse ++ .ref (tR Θ 8 i) :: rest) (hsz : (rest.map fun v => v.category).sum ≤ 8) (hR : rm.frames + 1 ≤ R.frames ∧ 8 + (nY + 11) + rm.locals ≤ R.locals) (hcs : k + rm.cells ≤ R.cells ∧ n + rm.slots ≤ R.slots)
    (kk : ∀ (v : Option Value) (G1 : GS), Qc (.inl v) G1 → V p l e R s m args below meth c nL Θ Qp mc ms (k + rm.cells) (n + rm.slots) q LS (v.toList ++ rest) G1) (kx : ∀ (E : String) (G1 : GS), Qc (.inr E) G1 → Qp (.inr E) G1) (hk : k + rm.cells ≤ mc) (hm : n + rm.slots ≤ ms) (ho : own ≠ RL := by decide) : V p l e R s m args below meth c nL Θ Qp mc ms k n pc LS st G := by
  refine v_of_run hC ho (a9 := (Value.ref (tR Θ 8 i) :: As).toArray) (fun H locs ls hH hS hl => ?_) hq kk kx hk hm
  have hr := vk_recv (cC_S hC hi) (i := 0) (by decide) hS
  exact vx_runV ⟨hC.1, hC.2.1, hC.2.2.1, cC_own hC, hC.2.2.2.2.1⟩ hM ⟨kY_callB hC ky hml hR, cC_hts hC him, cC_hts hC hse⟩ ⟨cP_blind, by rw [hcl]; exact hr, cC_pre hC hH hS⟩ rfl hna hl.1 hst (lv_room hsz) d hcs
end TEXTS
set_option maxHeartbeats 4000000 in
set_option maxRecDepth 20000 in
theorem c_J0_coder_7d493 {l : Launch} (hl : l.stackTraces = false) (Θ : cTH) (i : Nat) (hi : i < 2) (G : GS) : Ct l yJ0_coder_7d493 cJ0_coder_7d493 1 (some .byte) rm_J0_coder_7d493 Θ [.ref (tR Θ 8 i)] (G) (fR (some (.int 0)) G) := by
  refine ct_ofF (LS := [some (.ref (tR Θ 8 i))]) hl (by decide +kernel) rfl (Nat.le_of_ble_eq_true rfl) rfl ?_
  intro p e s m args below meth c hC hr
  refine v_getsC (q := 3) hC dJ0_coder_7d493_0 rfl fl_RJ0_38 ?_
  refine v_if_eq (q := 13) (q2 := 6) hC dJ0_coder_7d493_3 (by decide) rfl (fun c_3 => ?_) (fun c_3 => ?_)
  · exact absurd c_3 (by decide)
  · refine v_aload_n (i := 0) (q := 7) hC dJ0_coder_7d493_6 rfl rfl rfl ?_
    refine v_getTc (q := 10) hC hi dJ0_coder_7d493_7 rfl fl_RJ0_15 ?_
    refine v_goto (q := 14) hC dJ0_coder_7d493_10 (by decide) ?_
    refine v_iret hC dJ0_coder_7d493_14 hr (rfl) ?_ (Nat.le_of_ble_eq_true rfl) (Nat.le_of_ble_eq_true rfl)
    exact ⟨rfl, rfl⟩
set_option maxHeartbeats 4000000 in
set_option maxRecDepth 20000 in
theorem c_J0_isLatin1_aae02 {l : Launch} (hl : l.stackTraces = false) (Θ : cTH) (i : Nat) (hi : i < 2) (G : GS) : Ct l yJ0_isLatin1_aae02 cJ0_isLatin1_aae02 1 (some .boolean) rm_J0_isLatin1_aae02 Θ [.ref (tR Θ 8 i)] (G) (fR (some (.int 1)) G) := by
  refine ct_ofF (LS := [some (.ref (tR Θ 8 i))]) hl (by decide +kernel) rfl (Nat.le_of_ble_eq_true rfl) rfl ?_
  intro p e s m args below meth c hC hr
  refine v_getsC (q := 3) hC dJ0_isLatin1_aae02_0 rfl fl_RJ0_38 ?_
  refine v_if_eq (q := 17) (q2 := 6) hC dJ0_isLatin1_aae02_3 (by decide) rfl (fun c_3 => ?_) (fun c_3 => ?_)
  · exact absurd c_3 (by decide)
  · refine v_aload_n (i := 0) (q := 7) hC dJ0_isLatin1_aae02_6 rfl rfl rfl ?_
    refine v_getTc (q := 10) hC hi dJ0_isLatin1_aae02_7 rfl fl_RJ0_15 ?_
    refine v_if_ne (q := 17) (q2 := 13) hC dJ0_isLatin1_aae02_10 (by decide) rfl (fun c_10 => ?_) (fun c_10 => ?_)
    · exact absurd rfl c_10
    · refine v_iconst (q := 14) (v := 1) hC dJ0_isLatin1_aae02_13 rfl (by decide) ?_
      refine v_goto (q := 18) hC dJ0_isLatin1_aae02_14 (by decide) ?_
      refine v_iret hC dJ0_isLatin1_aae02_18 hr (rfl) ?_ (Nat.le_of_ble_eq_true rfl) (Nat.le_of_ble_eq_true rfl)
      exact ⟨rfl, rfl⟩
set_option maxHeartbeats 4000000 in
set_option maxRecDepth 20000 in
theorem c_J0_length_8abf5 {l : Launch} (hl : l.stackTraces = false) (Θ : cTH) (i : Nat) (hi : i < 2) (G : GS) : Ct l yJ0_length_8abf5 cJ0_length_8abf5 1 (some .int) rm_J0_length_8abf5 Θ [.ref (tR Θ 8 i)] (G) (fR (some (.int 4)) G) := by
  refine ct_ofF (LS := [some (.ref (tR Θ 8 i))]) hl (by decide +kernel) rfl (Nat.le_of_ble_eq_true rfl) rfl ?_
  intro p e s m args below meth c hC hr
  refine v_aload_n (i := 0) (q := 1) hC dJ0_length_8abf5_0 rfl rfl rfl ?_
  refine v_getTv (q := 4) hC hi dJ0_length_8abf5_1 rfl fl_RJ0_9 ?_
  refine v_alenT (q := 5) hC hi dJ0_length_8abf5_4 rfl ?_
  refine v_aload_n (i := 0) (q := 6) hC dJ0_length_8abf5_5 rfl rfl rfl ?_
  refine v_callT (q := 9) (rm := rm_J0_coder_7d493) hC (c_J0_coder_7d493 hl Θ i hi _) k_J0_coder_7d493 im_yJ0_coder_7d493 se_yJ0_coder_7d493 ml_RJ0_335 dJ0_length_8abf5_6 rfl (hi) rfl rfl rfl (Nat.le_of_ble_eq_true rfl) ⟨Nat.le_of_ble_eq_true rfl, Nat.le_of_ble_eq_true rfl⟩ ⟨Nat.le_of_ble_eq_true rfl, Nat.le_of_ble_eq_true rfl⟩ (fR_k ?_) fR_x (Nat.le_of_ble_eq_true rfl) (Nat.le_of_ble_eq_true rfl)
  try dsimp only [Option.toList, List.cons_append, List.nil_append]
  refine v_ishr (q := 10) hC dJ0_length_8abf5_9 rfl ?_
  refine v_iret hC dJ0_length_8abf5_10 hr (rfl) ?_ (Nat.le_of_ble_eq_true rfl) (Nat.le_of_ble_eq_true rfl)
  exact ⟨rfl, rfl⟩
set_option maxHeartbeats 4000000 in
set_option maxRecDepth 20000 in
theorem c_J3_checkIndex_8e157 {l : Launch} (hl : l.stackTraces = false) (Θ : cTH) (k : Nat) (hk : k < 4) (w : Value) (hw : w.category = 1) (G : GS) : Ct l yJ3_checkIndex_8e157 cJ3_checkIndex_8e157 3 (some .int) rm_J3_checkIndex_8e157 Θ [.int (nI k), .int 4, w] (G) (fR (some (.int (nI k))) G) := by
  refine ct_ofF (LS := [some (.int (nI k)), some (.int 4), some (w)]) hl (by decide +kernel) (by simp only [List.all_cons, List.all_nil, hw]; rfl) (Nat.le_of_ble_eq_true rfl) rfl ?_
  intro p e s m args below meth c hC hr
  refine v_iload_n (i := 0) (q := 1) hC dJ3_checkIndex_8e157_0 rfl rfl rfl ?_
  refine v_if_lt (q := 9) (q2 := 4) hC dJ3_checkIndex_8e157_1 (by decide) rfl (fun c_1 => ?_) (fun c_1 => ?_)
  · exact absurd c_1 (nI_pos (by omega))
  · refine v_iload_n (i := 0) (q := 5) hC dJ3_checkIndex_8e157_4 rfl rfl rfl ?_
    refine v_iload_n (i := 1) (q := 6) hC dJ3_checkIndex_8e157_5 rfl rfl rfl ?_
    refine v_icmp_lt (q := 16) (q2 := 9) hC dJ3_checkIndex_8e157_6 (by decide) rfl (fun c_6 => ?_) (fun c_6 => ?_)
    · refine v_iload_n (i := 0) (q := 17) hC dJ3_checkIndex_8e157_16 rfl rfl rfl ?_
      refine v_iret hC dJ3_checkIndex_8e157_17 hr (rfl) ?_ (Nat.le_of_ble_eq_true rfl) (Nat.le_of_ble_eq_true rfl)
      exact ⟨rfl, rfl⟩
    · exact absurd (nI_lt (b := 4) hk (by decide)) c_6
set_option maxHeartbeats 4000000 in
set_option maxRecDepth 20000 in
theorem c_J0_checkIndex_df160 {l : Launch} (hl : l.stackTraces = false) (Θ : cTH) (k : Nat) (hk : k < 4) (G : GS) : Ct l yJ0_checkIndex_df160 cJ0_checkIndex_df160 2 none rm_J0_checkIndex_df160 Θ [.int (nI k), .int 4] (G) (fR none G) := by
  refine ct_ofF (LS := [some (.int (nI k)), some (.int 4)]) hl (by decide +kernel) rfl (Nat.le_of_ble_eq_true rfl) rfl ?_
  intro p e s m args below meth c hC hr
  refine v_iload_n (i := 0) (q := 1) hC dJ0_checkIndex_df160_0 rfl rfl rfl ?_
  refine v_iload_n (i := 1) (q := 2) hC dJ0_checkIndex_df160_1 rfl rfl rfl ?_
  refine v_getsF (q := 5) hC dJ0_checkIndex_df160_2 rfl fl_RJ0_1053 (fun w hw => ?_)
  refine v_callS (q := 8) (rm := rm_J3_checkIndex_8e157) hC (c_J3_checkIndex_8e157 hl Θ k hk w hw _) k_J3_checkIndex_8e157 st_yJ3_checkIndex_8e157 ml_RJ0_1059 dJ0_checkIndex_df160_5 rfl  rfl rfl (Nat.le_of_ble_eq_true rfl) ⟨Nat.le_of_ble_eq_true rfl, Nat.le_of_ble_eq_true rfl⟩ ⟨Nat.le_of_ble_eq_true rfl, Nat.le_of_ble_eq_true rfl⟩ (fR_k ?_) fR_x (Nat.le_of_ble_eq_true rfl) (Nat.le_of_ble_eq_true rfl)
  try dsimp only [Option.toList, List.cons_append, List.nil_append]
  refine v_pop (q := 9) hC dJ0_checkIndex_df160_8 rfl rfl ?_
  refine v_vret hC dJ0_checkIndex_df160_9 hr ?_ (Nat.le_of_ble_eq_true rfl) (Nat.le_of_ble_eq_true rfl)
  exact ⟨rfl, rfl⟩
theorem sTx_ok : ∀ i : Nat, i < 2 → ∀ k : Nat, k < 4 → ((((sTx i).getD k 0 &&& 255).toUInt32 % 65536).toInt32 = (sTx i).getD k 0 ∧ narrow .char (.int ((sTx i).getD k 0)) = .int ((sTx i).getD k 0)) := by
  intro i hi k hk
  rcases i with _ | _ | i
  · rcases k with _ | _ | _ | _ | k
    · exact ⟨rfl, rfl⟩
    · exact ⟨rfl, rfl⟩
    · exact ⟨rfl, rfl⟩
    · exact ⟨rfl, rfl⟩
    · omega
  · rcases k with _ | _ | _ | _ | k
    · exact ⟨rfl, rfl⟩
    · exact ⟨rfl, rfl⟩
    · exact ⟨rfl, rfl⟩
    · exact ⟨rfl, rfl⟩
    · omega
  · omega
set_option maxHeartbeats 4000000 in
set_option maxRecDepth 20000 in
theorem c_J1_charAt_3b067 {l : Launch} (hl : l.stackTraces = false) (Θ : cTH) (i k : Nat) (hi : i < 2) (hk : k < 4) (G : GS) : Ct l yJ1_charAt_3b067 cJ1_charAt_3b067 2 (some .char) rm_J1_charAt_3b067 Θ [.ref (tR Θ 8 (i + 2)), .int (nI k)] (G) (fR (some (.int ((sTx i).getD k 0))) G) := by
  refine ct_ofF (LS := [some (.ref (tR Θ 8 (i + 2))), some (.int (nI k))]) hl (by decide +kernel) rfl (Nat.le_of_ble_eq_true rfl) rfl ?_
  intro p e s m args below meth c hC hr
  obtain ⟨e1, e2⟩ := sTx_ok i hi k hk
  have e3 : (nI k).toNatClampNeg = k := nI_clamp (by omega)
  refine v_iload_n (i := 1) (q := 1) hC dJ1_charAt_3b067_0 rfl rfl rfl ?_
  refine v_aload_n (i := 0) (q := 2) hC dJ1_charAt_3b067_1 rfl rfl rfl ?_
  refine v_alenT (q := 3) hC hi dJ1_charAt_3b067_2 rfl ?_
  refine v_callS (q := 6) (rm := rm_J0_checkIndex_df160) hC (c_J0_checkIndex_df160 hl Θ k hk _) k_J0_checkIndex_df160 st_yJ0_checkIndex_df160 ml_RJ1_9 dJ1_charAt_3b067_3 rfl  rfl rfl (Nat.le_of_ble_eq_true rfl) ⟨Nat.le_of_ble_eq_true rfl, Nat.le_of_ble_eq_true rfl⟩ ⟨Nat.le_of_ble_eq_true rfl, Nat.le_of_ble_eq_true rfl⟩ (fR_k ?_) fR_x (Nat.le_of_ble_eq_true rfl) (Nat.le_of_ble_eq_true rfl)
  try dsimp only [Option.toList, List.cons_append, List.nil_append]
  refine v_aload_n (i := 0) (q := 7) hC dJ1_charAt_3b067_6 rfl rfl rfl ?_
  refine v_iload_n (i := 1) (q := 8) hC dJ1_charAt_3b067_7 rfl rfl rfl ?_
  refine v_baldT (q := 9) hC hi dJ1_charAt_3b067_8 rfl (vp_in_nI hk (by omega)) ?_
  refine v_sipush (q := 12) (v := 255) hC dJ1_charAt_3b067_9 rfl (by decide) ?_
  refine v_iand (q := 13) hC dJ1_charAt_3b067_12 rfl ?_
  refine v_i2c (q := 14) hC dJ1_charAt_3b067_13 rfl ?_
  rw [e3, e1]
  refine v_iret hC dJ1_charAt_3b067_14 hr (e2) ?_ (Nat.le_of_ble_eq_true rfl) (Nat.le_of_ble_eq_true rfl)
  exact ⟨rfl, rfl⟩
set_option maxHeartbeats 4000000 in
set_option maxRecDepth 20000 in
theorem c_J0_charAt_5068e {l : Launch} (hl : l.stackTraces = false) (Θ : cTH) (i k : Nat) (hi : i < 2) (hk : k < 4) (G : GS) : Ct l yJ0_charAt_5068e cJ0_charAt_5068e 2 (some .char) rm_J0_charAt_5068e Θ [.ref (tR Θ 8 i), .int (nI k)] (G) (fR (some (.int ((sTx i).getD k 0))) G) := by
  refine ct_ofF (LS := [some (.ref (tR Θ 8 i)), some (.int (nI k))]) hl (by decide +kernel) rfl (Nat.le_of_ble_eq_true rfl) rfl ?_
  intro p e s m args below meth c hC hr
  refine v_aload_n (i := 0) (q := 1) hC dJ0_charAt_5068e_0 rfl rfl rfl ?_
  refine v_callT (q := 4) (rm := rm_J0_isLatin1_aae02) hC (c_J0_isLatin1_aae02 hl Θ i hi _) k_J0_isLatin1_aae02 im_yJ0_isLatin1_aae02 se_yJ0_isLatin1_aae02 ml_RJ0_492 dJ0_charAt_5068e_1 rfl (hi) rfl rfl rfl (Nat.le_of_ble_eq_true rfl) ⟨Nat.le_of_ble_eq_true rfl, Nat.le_of_ble_eq_true rfl⟩ ⟨Nat.le_of_ble_eq_true rfl, Nat.le_of_ble_eq_true rfl⟩ (fR_k ?_) fR_x (Nat.le_of_ble_eq_true rfl) (Nat.le_of_ble_eq_true rfl)
  try dsimp only [Option.toList, List.cons_append, List.nil_append]
  refine v_if_eq (q := 16) (q2 := 7) hC dJ0_charAt_5068e_4 (by decide) rfl (fun c_4 => ?_) (fun c_4 => ?_)
  · exact absurd c_4 (by decide)
  · refine v_aload_n (i := 0) (q := 8) hC dJ0_charAt_5068e_7 rfl rfl rfl ?_
    refine v_getTv (q := 11) hC hi dJ0_charAt_5068e_8 rfl fl_RJ0_9 ?_
    refine v_iload_n (i := 1) (q := 12) hC dJ0_charAt_5068e_11 rfl rfl rfl ?_
    refine v_callS (q := 15) (rm := rm_J1_charAt_3b067) hC (c_J1_charAt_3b067 hl Θ i k hi hk _) k_J1_charAt_3b067 st_yJ1_charAt_3b067 ml_RJ0_495 dJ0_charAt_5068e_12 rfl  rfl rfl (Nat.le_of_ble_eq_true rfl) ⟨Nat.le_of_ble_eq_true rfl, Nat.le_of_ble_eq_true rfl⟩ ⟨Nat.le_of_ble_eq_true rfl, Nat.le_of_ble_eq_true rfl⟩ (fR_k ?_) fR_x (Nat.le_of_ble_eq_true rfl) (Nat.le_of_ble_eq_true rfl)
    try dsimp only [Option.toList, List.cons_append, List.nil_append]
    refine v_iret hC dJ0_charAt_5068e_15 hr ((sTx_ok i hi k hk).2) ?_ (Nat.le_of_ble_eq_true rfl) (Nat.le_of_ble_eq_true rfl)
    exact ⟨rfl, rfl⟩
