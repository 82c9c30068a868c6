/-! PermissionDesk: loadEntries, restore, openness -/
theorem putF_commO (G : GS) (r o k r' o' k' : Nat) (v w : Int32) (h : ¬ (r' = r ∧ o' = o)) : putF (putF G r o k v) r' o' k' w = putF (putF G r' o' k' w) r o k v := by
  refine Prod.ext ?_ rfl
  funext a b c
  simp only [putF_get]
  by_cases h1 : a = r' ∧ b = o' ∧ c = k'
  · rw [if_pos h1, if_neg (fun z => h ⟨h1.1.symm.trans z.1, h1.2.1.symm.trans z.2.1⟩), if_pos h1]
  · rw [if_neg h1]
    by_cases h2 : a = r ∧ b = o ∧ c = k
    · rw [if_pos h2, if_pos h2]
    · rw [if_neg h2, if_neg h2, if_neg h1]
theorem putA_commO (G : GS) (r o r' o' : Nat) (v w : Nat → Int32) (h : ¬ (r' = r ∧ o' = o)) : putA (putA G r o v) r' o' w = putA (putA G r' o' w) r o v := by
  refine Prod.ext rfl (Prod.ext ?_ rfl)
  funext a b
  simp only [putA_get]
  by_cases h1 : a = r' ∧ b = o'
  · rw [if_pos h1, if_neg (fun z => h ⟨h1.1.symm.trans z.1, h1.2.symm.trans z.2⟩), if_pos h1]
  · rw [if_neg h1]
    by_cases h2 : a = r ∧ b = o
    · rw [if_pos h2, if_pos h2]
    · rw [if_neg h2, if_neg h2, if_neg h1]
theorem sKeep_lv (G : GS) : (sKeep G).2.2 = G.2.2 := by
  unfold sKeep
  by_cases h1 : G.1 0 15 0 < 5
  · simp only [if_pos h1]; rfl
  · simp only [if_neg h1]; rfl
section NUL
variable {p : Program} {l : Launch} {e : Env} {R : Room} {s : State} {m : MethodId} {args : Array Value} {below : List Frame} {meth : Method} {c : Code} {cc : ByteArray} {nL : Nat} {own : String} {Θ : cTH} {Qp : cOut → GS → Prop} {Q9 : State → Prop} {mc ms k n pc q q2 : Nat} {LS : List (Option Value)} {st rest : List Value} {G : GS}
theorem v_ifnonnullN (hC : cC p l s m args meth c cc nL own Θ) {off : Int} (d : decode cc pc = .ok (.ifnonnull off, 3)) (hq : pc + 3 = q) (kk : VG p l e R s m args below meth c nL Θ Q9 k n q LS rest G) : VG p l e R s m args below meth c nL Θ Q9 k n pc LS (.null :: rest) G := by
  subst hq; exact v_lift0 (fun H locs ls Q w => lv_ifnonnullN hC.1 hC.2.1 d w) kk
theorem v_aload_nN (hC : cC p l s m args meth c cc nL own Θ) {f : Fin 4} {i : Nat} (d : decode cc pc = .ok (.aload_n f, 1)) (hi : (f : Nat) = i) (hq : pc + 1 = q) (hL : LS[i]? = some (some .null)) (kk : VG p l e R s m args below meth c nL Θ Q9 k n q LS (.null :: rest) G) : VG p l e R s m args below meth c nL Θ Q9 k n pc LS rest G := by
  subst hq; exact v_lift (fun H locs ls Q hl w => lv_aload_nN hC.1 hC.2.1 d hi (lvH_at hl hL) (w ls hl)) kk
theorem v_astore_nN (hC : cC p l s m args meth c cc nL own Θ) {f : Fin 4} {i : Nat} {LS2 : List (Option Value)} (d : decode cc pc = .ok (.astore_n f, 1)) (hi : (f : Nat) = i) (hq : pc + 1 = q) (hc : lvC LS i) (hn : i < nL) (hi2 : i < LS.length) (h2 : LS.set i (some .null) = LS2) (kk : VG p l e R s m args below meth c nL Θ Q9 k n q LS2 rest G) : VG p l e R s m args below meth c nL Θ Q9 k n pc LS (.null :: rest) G := by
  subst hq; subst h2; exact v_lift (fun H locs ls Q hl w => lv_astore_nN hC.1 hC.2.1 d hi hl hn rfl (fun ls2 h9 => w ls2 (lvH_set hc h9 hi2))) kk
theorem v_i2d (hC : cC p l s m args meth c cc nL own Θ) {x : Int32} (d : decode cc pc = .ok (.i2d, 1)) (hq : pc + 1 = q) (kk : VG p l e R s m args below meth c nL Θ Q9 k n q LS (.double (FP.i2d x) :: rest) G) : VG p l e R s m args below meth c nL Θ Q9 k n pc LS (.int x :: rest) G := by
  subst hq; exact v_lift0 (fun H locs ls Q w => lv_i2d hC.1 hC.2.1 d w) kk
theorem v_ddiv (hC : cC p l s m args meth c cc nL own Θ) {x y : UInt64} (d : decode cc pc = .ok (.ddiv, 1)) (hq : pc + 1 = q) (hne : vf_n64 (FP.ddiv x y)) (kk : VG p l e R s m args below meth c nL Θ Q9 k n q LS (.double (FP.ddiv x y) :: rest) G) : VG p l e R s m args below meth c nL Θ Q9 k n pc LS (.double y :: .double x :: rest) G := by
  subst hq; exact v_lift0 (fun H locs ls Q w => lv_ddiv hC.1 hC.2.1 d hne w) kk
theorem v_dconst0 (hC : cC p l s m args meth c cc nL own Θ) (d : decode cc pc = .ok (.dconst 0, 1)) (hq : pc + 1 = q) (kk : VG p l e R s m args below meth c nL Θ Q9 k n q LS (.double FP.dconst0 :: rest) G) : VG p l e R s m args below meth c nL Θ Q9 k n pc LS rest G := by
  subst hq; exact v_lift0 (fun H locs ls Q w => lv_dconst0 hC.1 hC.2.1 d w) kk
theorem v_dret (hC : cC p l s m args meth c cc nL own Θ) {x : UInt64} (d : decode cc pc = .ok (.dreturn, 1)) (hr : meth.sig.returnType = some .double) (hq : Qp (.inl (some (.double x))) G) (hk : k ≤ mc) (hm : n ≤ ms) : V p l e R s m args below meth c nL Θ Qp mc ms k n pc LS [.double x] G := by
  intro H locs ls hH hS hl
  refine W.widen hk hm ?_
  exact vx_ret (W.dret hC.1 hC.2.1 hr (fun t ht hW => ⟨⟨some (.double x), G, rfl, hq, by rw [ht]; exact hH⟩, hS.F ht⟩) hS.2.2 d hC.2.2.2.2.2.1)
end NUL
theorem okR_67 {lv : Nat → Bool} {j : Nat} (hj : j < 2) (h : lv j = true) : okR lv (j + 6) = true := by
  rcases j with _ | _ | j
  · simp [okR, h]
  · simp [okR, h]
  · omega
/-- restore -/
def rsG (j : Nat) (G : GS) : GS := cpState 0 (j + 6) (sKeep G)
def opM (G : GS) : Int32 := 4 * G.1 0 1 0 * jBc (G.1 0 4 0)
def opA (G : GS) : Int32 := foldI (caO G) 12 0 0
def opD (G : GS) : UInt64 := if 0 < opM G then FP.ddiv (FP.i2d (opA G)) (FP.i2d (opM G)) else FP.dconst0
def oQ (x : UInt64) (G : GS) : cOut → GS → Prop := fun r G1 => r = .inl (some (.double x)) ∧ ∃ a b, G1 = jS G a b
set_option maxHeartbeats 4000000 in
set_option maxRecDepth 20000 in
theorem c_X11_openness {l : Launch} (hl : l.stackTraces = false) (Θ : cTH) (G : GS) (hg : gOk G) (hn : 0 < opM G → vf_n64 (FP.ddiv (FP.i2d (opA G)) (FP.i2d (opM G)))) : Ct l yX11_openness cX11_openness 2 (some .double) rm_X11_openness Θ [.ref (tR Θ 0 14)] (G) (oQ (opD G) G) := by
  refine ct_of (LS := [some (.ref (tR Θ 0 14)), none]) hl (by decide +kernel) rfl (Nat.le_of_ble_eq_true rfl) rfl ?_
  intro p e s m args below meth c hC hr
  have L : ∀ (x : UInt64) (G2 : GS), oQ (opD G) G (.inl (some (.double x))) G2 → V p l e rm_X11_openness s m args below meth c 2 Θ (oQ (opD G) G) rm_X11_openness.cells rm_X11_openness.slots 0 0 47 [some (.ref (tR Θ 0 14)), some (.int (opM G))] [.double x] G2 := by
    intro x G2 h
    exact v_dret hC dX11_openness_47 hr h (Nat.le_of_ble_eq_true rfl) (Nat.le_of_ble_eq_true rfl)
  refine v_iconst (q := 1) (v := 4) hC dX11_openness_0 rfl (by decide) ?_
  refine v_aload_n (i := 0) (q := 2) hC dX11_openness_1 rfl rfl rfl ?_
  refine g_X11_0 (q := 5) hC dX11_openness_2 rfl rfl fl_RX11_10 ?_
  refine g_X9_0 (q := 8) hC dX11_openness_5 rfl rfl fl_RX11_55 ?_
  refine g_X0_0 (q := 11) hC dX11_openness_8 rfl rfl fl_RX11_59 ?_
  refine v_imul (q := 12) hC dX11_openness_11 rfl ?_
  refine v_aload_n (i := 0) (q := 13) hC dX11_openness_12 rfl rfl rfl ?_
  refine g_X11_0 (q := 16) hC dX11_openness_13 rfl rfl fl_RX11_10 ?_
  refine g_X9_1 (q := 19) hC dX11_openness_16 rfl rfl fl_RX11_127 ?_
  refine v_callV (q := 22) (rm := rm_X10_count) hC (c_X10_count hl Θ _) k_X10_count im_yX10_count se_yX10_count ml_RX11_159 dX11_openness_19 rfl rfl rfl rfl rfl rfl (Nat.le_of_ble_eq_true rfl) ⟨Nat.le_of_ble_eq_true rfl, Nat.le_of_ble_eq_true rfl⟩ ⟨Nat.le_of_ble_eq_true rfl, Nat.le_of_ble_eq_true rfl⟩ (fR_k ?_) fR_x (Nat.le_of_ble_eq_true rfl) (Nat.le_of_ble_eq_true rfl)
  try dsimp only [Option.toList, List.cons_append, List.nil_append]
  refine v_imul (q := 23) hC dX11_openness_22 rfl ?_
  refine v_istore_n (i := 1) (q := 24) hC dX11_openness_23 rfl rfl (lvc rfl) (Nat.le_of_ble_eq_true rfl) (Nat.le_of_ble_eq_true rfl) rfl ?_
  refine v_iload_n (i := 1) (q := 25) hC dX11_openness_24 rfl rfl rfl ?_
  refine v_if_gt (q := 32) (q2 := 28) hC dX11_openness_25 (by decide) rfl (fun c_25 => ?_) (fun c_25 => ?_)
  · refine v_aload_n (i := 0) (q := 33) hC dX11_openness_32 rfl rfl rfl ?_
    refine g_X11_3 (q := 36) hC dX11_openness_33 rfl rfl fl_RX11_30 ?_
    refine v_aload_n (i := 0) (q := 37) hC dX11_openness_36 rfl rfl rfl ?_
    refine g_X11_0 (q := 40) hC dX11_openness_37 rfl rfl fl_RX11_10 ?_
    refine v_callV (q := 43) (rm := rm_X4_countAll) hC (cj_countAll hl Θ _ hg) k_X4_countAll im_yX4_countAll se_yX4_countAll ml_RX11_342 dX11_openness_40 rfl rfl rfl rfl rfl rfl (Nat.le_of_ble_eq_true rfl) ⟨Nat.le_of_ble_eq_true rfl, Nat.le_of_ble_eq_true rfl⟩ ⟨Nat.le_of_ble_eq_true rfl, Nat.le_of_ble_eq_true rfl⟩ (jQ_k (fun a1 b1 => ?_)) jQ_x (Nat.le_of_ble_eq_true rfl) (Nat.le_of_ble_eq_true rfl)
    try dsimp only [Option.toList, List.cons_append, List.nil_append]
    refine v_i2d (q := 44) hC dX11_openness_43 rfl ?_
    refine v_iload_n (i := 1) (q := 45) hC dX11_openness_44 rfl rfl rfl ?_
    refine v_i2d (q := 46) hC dX11_openness_45 rfl ?_
    refine v_ddiv (q := 47) hC dX11_openness_46 rfl (hn c_25) ?_
    first | exact L _ _ ⟨by rw [opD, if_pos (show 0 < opM G from c_25)]; rfl, a1, b1, rfl⟩ | exact L _ _ ⟨by rw [opD, if_neg (show ¬ 0 < opM G from c_25)], _, _, (jS_self G).symm⟩
  · refine v_dconst0 (q := 29) hC dX11_openness_28 rfl ?_
    refine v_goto (q := 47) hC dX11_openness_29 (by decide) ?_
    first | exact L _ _ ⟨by rw [opD, if_pos (show 0 < opM G from c_25)]; rfl, a1, b1, rfl⟩ | exact L _ _ ⟨by rw [opD, if_neg (show ¬ 0 < opM G from c_25)], _, _, (jS_self G).symm⟩
