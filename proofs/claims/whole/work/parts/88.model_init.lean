/-! The reference's constructor, over a list of cells. -/
section ZCALL
variable {p : Program} {l : Launch} {e : Env} {R : Room} {s : State} {m : MethodId} {args : Array Value} {below : List Frame} {meth : Method} {c : Code} {cc : ByteArray} {nL : Nat} {own : String} {Θ : cTH} {Q9 : State → Prop} {k n pc q : Nat} {LS : List (Option Value)} {st rest : List Value} {ws w0 l1 : va_W}
theorem z_callS (hC : cC p l s m args meth c cc nL own Θ) (hO : va_AO RX9 s) {y : MethodName} {cy : ByteArray} {nY na idx : Nat} {ret : Option FieldType} {rm : Room} {As : List Value} {Qc : Option Value → va_W → Prop} (hM : Lt l y cy nY ret rm Θ As ws Qc) (ky : kY y cy nY ret na) (hss : Cond.static y ∈ wALL) (hml : Cond.methodLink own idx y ∈ wALL) (d : decode cc pc = .ok (.invokestatic idx, 3)) (hq : pc + 3 = q)
    (hna : As.length = na) (hst : st = As.reverse ++ rest) (hsz : (rest.map fun v => v.category).sum ≤ 8) (hR : rm.frames + 1 ≤ R.frames ∧ 8 + (nY + 11) + rm.locals ≤ R.locals) (hcs : k + rm.cells ≤ R.cells ∧ n + rm.slots ≤ R.slots)
    (kk : ∀ (r : Option Value) (w : va_W), Qc r w → VL p l e R s m args below meth c nL Θ Q9 (k + rm.cells) (n + rm.slots) q LS (r.toList ++ rest) w) : VL p l e R s m args below meth c nL Θ Q9 k n pc LS st ws :=
  z_of_run (a9 := As.toArray) (fun H locs ls hH hS hl => vx_runS ⟨hC.1, hC.2.1, hC.2.2.1, cC_own hC, hC.2.2.2.2.1⟩ hM ⟨kY_callB hC ky hml hR, cC_hts hC hss⟩ ⟨zP_blind, zC_pre hC hO hH hS⟩ rfl hna hl.1 hst (lv_room hsz) d hcs) hq kk
theorem z_callV (hC : cC p l s m args meth c cc nL own Θ) (hO : va_AO RX9 s) {y : MethodName} {cy : ByteArray} {nY na idx i b ci N : Nat} {T : u_T} {fs : List Value} {ret : Option FieldType} {rm : Room} {As : List Value} {Qc : Option Value → va_W → Prop} (hM : Lt l y cy nY ret rm Θ (.ref b :: As) (w0 ++ l1) Qc) (ky : kY y cy nY ret na) (him : Cond.instanceMethod y ∈ wALL) (hse : Cond.selects y.cls y y ∈ wALL) (hml : Cond.methodLink own idx y ∈ wALL) (d : decode cc pc = .ok (.invokevirtual idx, 3)) (hq : pc + 3 = q)
    (hi : l1[i]? = some (b, .inr (ci, fs))) (hcl : vwCl[ci]? = some (y.cls, T, N)) (hna : As.length = na) (hst : st = As.reverse ++ .ref b :: rest) (hsz : (rest.map fun v => v.category).sum ≤ 8) (hR : rm.frames + 1 ≤ R.frames ∧ 8 + (nY + 11) + rm.locals ≤ R.locals) (hcs : k + rm.cells ≤ R.cells ∧ n + rm.slots ≤ R.slots)
    (kk : ∀ (r : Option Value) (w : va_W), Qc r w → VL p l e R s m args below meth c nL Θ Q9 (k + rm.cells) (n + rm.slots) q LS (r.toList ++ rest) w) : VL p l e R s m args below meth c nL Θ Q9 k n pc LS st (w0 ++ l1) :=
  z_of_run (a9 := (Value.ref b :: As).toArray) (fun H locs ls hH hS hl => vx_runV ⟨hC.1, hC.2.1, hC.2.2.1, cC_own hC, hC.2.2.2.2.1⟩ hM ⟨kY_callB hC ky hml hR, cC_hts hC him, cC_hts hC hse⟩ ⟨zP_blind, va_recv (cC_K hC) hH.1 hcl (app_at hi), zC_pre hC hO hH hS⟩ rfl hna hl.1 hst (lv_room hsz) d hcs) hq kk
end ZCALL
theorem set_same {l : va_W} {i : Nat} {x : Nat × va_E} (h : l[i]? = some x) : l.set i x = l := by
  apply List.ext_getElem?
  intro j
  by_cases hj : i = j
  · subst hj
    rw [List.getElem?_set_self (List.getElem?_eq_some_iff.mp h).1, h]
  · rw [List.getElem?_set_ne hj]
theorem upd_z {f : Nat → Int32} {j : Nat} (h : f j = 0) : upd f j 0 = f := by
  funext i
  by_cases hi : i = j
  · subst hi; simp [upd, h]
  · simp [upd, hi]
theorem z_X12_at {l : Launch} (hl : l.stackTraces = false) (Θ : cTH) (ws : va_W) (o k : Nat) : Lt l yX12_at cX12_at 2 (some .int) rm_X12_at Θ [.int (nI o), .int (nI k)] ws (fun r w => r = some (.int (nI (oA o k))) ∧ w = ws) := by
  refine lt_of (LS := [some (.int (nI o)), some (.int (nI k))]) hl (by decide +kernel) rfl (Nat.le_of_ble_eq_true rfl) rfl ?_
  intro p e s m args below meth c hC hO hnm hr
  refine z_bipush (q := 2) (v := 18) hC dX12_at_0 rfl (by decide) ?_
  refine z_bipush (q := 4) (v := 36) hC dX12_at_2 rfl (by decide) ?_
  refine z_iload_n (i := 0) (q := 5) hC dX12_at_4 rfl rfl rfl ?_
  refine z_imul (q := 6) hC dX12_at_5 rfl ?_
  refine z_iadd (q := 7) hC dX12_at_6 rfl ?_
  refine z_iload_n (i := 1) (q := 8) hC dX12_at_7 rfl rfl rfl ?_
  refine z_iadd (q := 9) hC dX12_at_8 rfl ?_
  refine z_iret hC dX12_at_9 hr rfl ?_ (Nat.le_of_ble_eq_true rfl) (Nat.le_of_ble_eq_true rfl)
  exact ⟨by rw [← oA_e], rfl⟩
theorem upd_hi : ∀ j, 18 ≤ j → upd (fun _ => (0 : Int32)) (Int32.toNatClampNeg 0) 1 j = 0 := by
  intro j hj
  have h2 : Int32.toNatClampNeg 0 = 0 := by decide
  rw [h2]
  have h3 : ¬ j = 0 := by omega
  simp [upd, h3]
/-- the first object is founded -/
def fF (f : Nat → Int32) : Nat → Int32 := upd (upd (upd (upd (upd f 18 1) 19 (-1)) 20 0) 21 15) 22 1

theorem z_iastN {p : Program} {l : Launch} {e : Env} {R : Room} {s : State} {m : MethodId} {args : Array Value} {below : List Frame} {meth : Method} {c : Code} {cc : ByteArray} {nL : Nat} {own : String} {Θ : cTH} {Q9 : State → Prop} {k n pc q : Nat} {LS : List (Option Value)} {rest : List Value} {w0 l1 : va_W} (hC : cC p l s m args meth c cc nL own Θ) {i a N j : Nat} {x : Int32} {f : Nat → Int32} {l2 : va_W} (d : decode cc pc = .ok (.iastore, 1)) (hq : pc + 1 = q) (hi : l1[i]? = some (a, .inl (tI Θ, N, .inl f))) (hj : j < N) (hN : N < 2147483648) (h2 : l1.set i (a, .inl (tI Θ, N, .inl (upd f j x))) = l2)
    (kk : VL p l e R s m args below meth c nL Θ Q9 k n q LS rest (w0 ++ l2)) : VL p l e R s m args below meth c nL Θ Q9 k n pc LS (.int x :: .int (nI j) :: .ref a :: rest) (w0 ++ l1) :=
  z_iast hC d hq hi (vp_in_nI hj (by omega)) (by rw [nI_clamp (by omega)]; exact h2) kk
set_option maxHeartbeats 2000000 in
set_option maxRecDepth 20000 in
theorem z_X12_founds {l : Launch} (hl : l.stackTraces = false) (Θ : cTH) (w0 l1 : va_W) {b a1 : Nat} {fs : List Value} {f : Nat → Int32} (h0 : l1[0]? = some (b, .inr (11, fs))) (hs0 : fs[0]? = some (.ref a1)) (h1 : l1[1]? = some (a1, .inl (tI Θ, 765, .inl f))) (hf : ∀ j, 18 ≤ j → f j = 0) : Lt l yX12_founds cX12_founds 5 none rm_X12_founds Θ [.ref b, .int (nI 0), .int (-1), .int 0] (w0 ++ l1) (fun r w => r = none ∧ w = w0 ++ l1.set 1 (a1, .inl (tI Θ, 765, .inl (fF f)))) := by
  have hset : ∀ x, (l1.set 1 x)[1]? = some x := fun x => List.getElem?_set_self (List.getElem?_eq_some_iff.mp h1).1
  have h00 : ∀ x, (l1.set 1 x)[0]? = some (b, .inr (11, fs)) := fun x => by rw [List.getElem?_set_ne (by decide)]; exact h0
  refine lt_of (LS := [some (.ref b), some (.int (nI 0)), some (.int (-1)), some (.int 0), none]) hl (by decide +kernel) rfl (Nat.le_of_ble_eq_true rfl) rfl ?_
  intro p e s m args below meth c hC hO hnm hr
  have L : ∀ (n j : Nat), n + j = 36 → VL p l e rm_X12_founds s m args below meth c 5 Θ (vx_MQ below (zQ Θ (fun r w => r = none ∧ w = w0 ++ l1.set 1 (a1, .inl (tI Θ, 765, .inl (fF f))))) zX args s rm_X12_founds.cells rm_X12_founds.slots (tA Θ)) 0 0 3 [some (.ref b), some (.int (nI 0)), some (.int (-1)), some (.int 0), some (.int (nI j))] [] (w0 ++ l1) := by
    intro n
    induction n with
    | zero =>
      intro j h9
      refine z_iload (q := 5) hC dX12_founds_3 rfl rfl ?_
      refine z_bipush (q := 7) (v := 36) hC dX12_founds_5 rfl (by decide) ?_
      refine z_icmp_ge (q := 28) (q2 := 10) hC dX12_founds_7 (by decide) rfl (fun _ => ?_) (fun c9 => absurd (by rw [show j = 36 by omega]; decide) c9)
      refine z_aload_n (i := 0) (q := 29) hC dX12_founds_28 rfl rfl rfl ?_
      refine z_get (i := 0) (ci := 11) (j := 0) (N := 15) (T := TX12) (q := 32) hC dX12_founds_29 rfl h0 rfl inl12 (by decide) hs0 fl_RX12_7 ?_
      refine z_iload_n (i := 1) (q := 33) hC dX12_founds_32 rfl rfl rfl ?_
      refine z_iconst (q := 34) (v := 0) hC dX12_founds_33 rfl (by decide) ?_
      refine z_callS (q := 37) (rm := rm_X12_at) hC hO (z_X12_at hl Θ _ 0 0) k_X12_at st_yX12_at ml_RX12_50 dX12_founds_34 rfl rfl rfl (Nat.le_of_ble_eq_true rfl) ⟨Nat.le_of_ble_eq_true rfl, Nat.le_of_ble_eq_true rfl⟩ ⟨Nat.le_of_ble_eq_true rfl, Nat.le_of_ble_eq_true rfl⟩ ?_
      rintro r34 w34 ⟨rfl, rfl⟩
      show VL _ _ _ _ _ _ _ _ _ _ _ _ _ _ _ 37 _ (_ :: _) _
      refine z_iconst (q := 38) (v := 1) hC dX12_founds_37 rfl (by decide) ?_
      refine z_iastN (i := 1) (j := oA 0 0) (q := 39) hC dX12_founds_38 rfl h1 (by decide) (by decide) rfl ?_
      refine z_aload_n (i := 0) (q := 40) hC dX12_founds_39 rfl rfl rfl ?_
      refine z_get (i := 0) (ci := 11) (j := 0) (N := 15) (T := TX12) (q := 43) hC dX12_founds_40 rfl (h00 _) rfl inl12 (by decide) hs0 fl_RX12_7 ?_
      refine z_iload_n (i := 1) (q := 44) hC dX12_founds_43 rfl rfl rfl ?_
      refine z_iconst (q := 45) (v := 1) hC dX12_founds_44 rfl (by decide) ?_
      refine z_callS (q := 48) (rm := rm_X12_at) hC hO (z_X12_at hl Θ _ 0 1) k_X12_at st_yX12_at ml_RX12_50 dX12_founds_45 rfl rfl rfl (Nat.le_of_ble_eq_true rfl) ⟨Nat.le_of_ble_eq_true rfl, Nat.le_of_ble_eq_true rfl⟩ ⟨Nat.le_of_ble_eq_true rfl, Nat.le_of_ble_eq_true rfl⟩ ?_
      rintro r45 w45 ⟨rfl, rfl⟩
      show VL _ _ _ _ _ _ _ _ _ _ _ _ _ _ _ 48 _ (_ :: _) _
      refine z_iload_n (i := 2) (q := 49) hC dX12_founds_48 rfl rfl rfl ?_
      refine z_iastN (i := 1) (j := oA 0 1) (q := 50) hC dX12_founds_49 rfl (hset _) (by decide) (by decide) (List.set_set _) ?_
      refine z_aload_n (i := 0) (q := 51) hC dX12_founds_50 rfl rfl rfl ?_
      refine z_get (i := 0) (ci := 11) (j := 0) (N := 15) (T := TX12) (q := 54) hC dX12_founds_51 rfl (h00 _) rfl inl12 (by decide) hs0 fl_RX12_7 ?_
      refine z_iload_n (i := 1) (q := 55) hC dX12_founds_54 rfl rfl rfl ?_
      refine z_iconst (q := 56) (v := 2) hC dX12_founds_55 rfl (by decide) ?_
      refine z_callS (q := 59) (rm := rm_X12_at) hC hO (z_X12_at hl Θ _ 0 2) k_X12_at st_yX12_at ml_RX12_50 dX12_founds_56 rfl rfl rfl (Nat.le_of_ble_eq_true rfl) ⟨Nat.le_of_ble_eq_true rfl, Nat.le_of_ble_eq_true rfl⟩ ⟨Nat.le_of_ble_eq_true rfl, Nat.le_of_ble_eq_true rfl⟩ ?_
      rintro r56 w56 ⟨rfl, rfl⟩
      show VL _ _ _ _ _ _ _ _ _ _ _ _ _ _ _ 59 _ (_ :: _) _
      refine z_iload_n (i := 3) (q := 60) hC dX12_founds_59 rfl rfl rfl ?_
      refine z_iastN (i := 1) (j := oA 0 2) (q := 61) hC dX12_founds_60 rfl (hset _) (by decide) (by decide) (List.set_set _) ?_
      refine z_aload_n (i := 0) (q := 62) hC dX12_founds_61 rfl rfl rfl ?_
      refine z_get (i := 0) (ci := 11) (j := 0) (N := 15) (T := TX12) (q := 65) hC dX12_founds_62 rfl (h00 _) rfl inl12 (by decide) hs0 fl_RX12_7 ?_
      refine z_iload_n (i := 1) (q := 66) hC dX12_founds_65 rfl rfl rfl ?_
      refine z_iconst (q := 67) (v := 3) hC dX12_founds_66 rfl (by decide) ?_
      refine z_callS (q := 70) (rm := rm_X12_at) hC hO (z_X12_at hl Θ _ 0 3) k_X12_at st_yX12_at ml_RX12_50 dX12_founds_67 rfl rfl rfl (Nat.le_of_ble_eq_true rfl) ⟨Nat.le_of_ble_eq_true rfl, Nat.le_of_ble_eq_true rfl⟩ ⟨Nat.le_of_ble_eq_true rfl, Nat.le_of_ble_eq_true rfl⟩ ?_
      rintro r67 w67 ⟨rfl, rfl⟩
      show VL _ _ _ _ _ _ _ _ _ _ _ _ _ _ _ 70 _ (_ :: _) _
      refine z_bipush (q := 72) (v := 15) hC dX12_founds_70 rfl (by decide) ?_
      refine z_iastN (i := 1) (j := oA 0 3) (q := 73) hC dX12_founds_72 rfl (hset _) (by decide) (by decide) (List.set_set _) ?_
      refine z_aload_n (i := 0) (q := 74) hC dX12_founds_73 rfl rfl rfl ?_
      refine z_get (i := 0) (ci := 11) (j := 0) (N := 15) (T := TX12) (q := 77) hC dX12_founds_74 rfl (h00 _) rfl inl12 (by decide) hs0 fl_RX12_7 ?_
      refine z_iload_n (i := 1) (q := 78) hC dX12_founds_77 rfl rfl rfl ?_
      refine z_iconst (q := 79) (v := 4) hC dX12_founds_78 rfl (by decide) ?_
      refine z_callS (q := 82) (rm := rm_X12_at) hC hO (z_X12_at hl Θ _ 0 4) k_X12_at st_yX12_at ml_RX12_50 dX12_founds_79 rfl rfl rfl (Nat.le_of_ble_eq_true rfl) ⟨Nat.le_of_ble_eq_true rfl, Nat.le_of_ble_eq_true rfl⟩ ⟨Nat.le_of_ble_eq_true rfl, Nat.le_of_ble_eq_true rfl⟩ ?_
      rintro r79 w79 ⟨rfl, rfl⟩
      show VL _ _ _ _ _ _ _ _ _ _ _ _ _ _ _ 82 _ (_ :: _) _
      refine z_iconst (q := 83) (v := 1) hC dX12_founds_82 rfl (by decide) ?_
      refine z_iastN (i := 1) (j := oA 0 4) (q := 84) hC dX12_founds_83 rfl (hset _) (by decide) (by decide) (List.set_set _) ?_
      refine z_vret hC dX12_founds_84 hr ?_ (Nat.le_of_ble_eq_true rfl) (Nat.le_of_ble_eq_true rfl)
      exact ⟨rfl, rfl⟩
    | succ n ih =>
      intro j h9
      refine z_iload (q := 5) hC dX12_founds_3 rfl rfl ?_
      refine z_bipush (q := 7) (v := 36) hC dX12_founds_5 rfl (by decide) ?_
      refine z_icmp_ge (q := 28) (q2 := 10) hC dX12_founds_7 (by decide) rfl (fun c9 => absurd c9 (by rw [show (36 : Int32) = nI 36 from rfl]; exact nI_ge (by omega) (by omega))) (fun _ => ?_)
      refine z_aload_n (i := 0) (q := 11) hC dX12_founds_10 rfl rfl rfl ?_
      refine z_get (i := 0) (ci := 11) (j := 0) (N := 15) (T := TX12) (q := 14) hC dX12_founds_11 rfl h0 rfl inl12 (by decide) hs0 fl_RX12_7 ?_
      refine z_iload_n (i := 1) (q := 15) hC dX12_founds_14 rfl rfl rfl ?_
      refine z_iload (q := 17) hC dX12_founds_15 rfl rfl ?_
      refine z_callS (q := 20) (rm := rm_X12_at) hC hO (z_X12_at hl Θ _ 0 j) k_X12_at st_yX12_at ml_RX12_50 dX12_founds_17 rfl rfl rfl (Nat.le_of_ble_eq_true rfl) ⟨Nat.le_of_ble_eq_true rfl, Nat.le_of_ble_eq_true rfl⟩ ⟨Nat.le_of_ble_eq_true rfl, Nat.le_of_ble_eq_true rfl⟩ ?_
      rintro r17 w17 ⟨rfl, rfl⟩
      show VL _ _ _ _ _ _ _ _ _ _ _ _ _ _ _ 20 _ (_ :: _) _
      refine z_iconst (q := 21) (v := 0) hC dX12_founds_20 rfl (by decide) ?_
      refine z_iastN (i := 1) (j := oA 0 j) (l2 := l1) (q := 22) hC dX12_founds_21 rfl h1 (by unfold oA; omega) (by decide) (by rw [upd_z (hf _ (by unfold oA; omega))]; exact set_same h1) ?_
      refine z_iinc (v := nI (j + 1)) (q := 25) hC dX12_founds_22 rfl rfl (nI_1 j) (lvc rfl) (Nat.le_of_ble_eq_true rfl) (Nat.le_of_ble_eq_true rfl) rfl ?_
      refine z_goto (q := 3) hC dX12_founds_25 (by decide) ?_
      exact ih (j + 1) (by omega)
  refine z_iconst (q := 1) (v := 0) hC dX12_founds_0 rfl (by decide) ?_
  refine z_istore (q := 3) hC dX12_founds_1 rfl (lvc rfl) (Nat.le_of_ble_eq_true rfl) (Nat.le_of_ble_eq_true rfl) rfl ?_
  exact L 36 0 rfl
/-- a new reference's cells -/
def moL (Θ : cTH) (b a1 a2 a3 a4 a5 a6 a7 a8 : Nat) : va_W := [(b, .inr (11, [.ref a1, .ref a2, .ref a3, .ref a4, .int 0, .int 0, .ref a5, .int 0, .ref a6, .ref a7, .int 0, .int 0, .int 0, .int 0, .ref a8])), (a1, .inl (tI Θ, 765, .inl (fF (upd (fun _ => 0) 0 1)))), (a2, .inl (tI Θ, 3825, .inl (fun _ => 0))), (a3, .inl (tI Θ, 1530, .inl (fun _ => 0))), (a4, .inl (tZ Θ, 2, .inl (fun _ => 0))), (a5, .inl (tI Θ, 80, .inl (fun _ => 0))), (a6, .inl (tI Θ, 240, .inl (fun _ => 0))), (a7, .inl (tI Θ, 5, .inl (fun _ => 0))), (a8, .inl (tI Θ, 35, .inl (fun _ => 0)))]
abbrev rz_X12 : Room := { frames := 2, locals := 45, cells := 8, slots := 6482 }
set_option maxHeartbeats 4000000 in
set_option maxRecDepth 20000 in
theorem z_X12_init {l : Launch} (hl : l.stackTraces = false) (Θ : cTH) (w0 : va_W) (b : Nat) : Lt l yX12_init cX12_init 1 none rz_X12 Θ [.ref b] (w0 ++ [(b, .inr (11, [.null, .null, .null, .null, .int 0, .int 0, .null, .int 0, .null, .null, .int 0, .int 0, .int 0, .int 0, .null]))]) (fun r w => r = none ∧ ∃ a1 a2 a3 a4 a5 a6 a7 a8 : Nat, w = w0 ++ moL Θ b a1 a2 a3 a4 a5 a6 a7 a8) := by
  refine lt_of (LS := [some (.ref b)]) hl (by decide +kernel) rfl (Nat.le_of_ble_eq_true rfl) rfl ?_
  intro p e s m args below meth c hC hO hnm hr
  refine z_aload_n (i := 0) (q := 1) hC dX12_init_0 rfl rfl rfl ?_
  refine z_objInit (q := 4) hC dX12_init_1 rfl ml_RX12_1 (Nat.le_of_ble_eq_true rfl) ⟨Nat.le_of_ble_eq_true rfl, Nat.le_of_ble_eq_true rfl⟩ ?_
  refine z_aload_n (i := 0) (q := 5) hC dX12_init_4 rfl rfl rfl ?_
  refine z_sipush (q := 8) (v := 765) hC dX12_init_5 rfl (by decide) ?_
  refine z_newi (N := 765) (q := 10) hC dX12_init_8 rfl (by decide) (by decide) (Nat.le_of_ble_eq_true rfl) (Nat.le_of_ble_eq_true rfl) (Nat.le_of_ble_eq_true rfl) (fun a1 => ?_)
  rw [List.append_assoc]
  refine z_putF (i := 0) (ci := 11) (j := 0) (N := 15) (T := TX12) (ty0 := tyX12) (q := 13) hC dX12_init_10 rfl rfl rfl inl12 tyX12_ok nmX12 (by decide) (tyX12_ok 0 (by decide)) rfl rfl (Nat.le_of_ble_eq_true rfl) fl_RX12_7 hnm rfl rfl rfl ?_
  refine z_aload_n (i := 0) (q := 14) hC dX12_init_13 rfl rfl rfl ?_
  refine z_sipush (q := 17) (v := 3825) hC dX12_init_14 rfl (by decide) ?_
  refine z_newi (N := 3825) (q := 19) hC dX12_init_17 rfl (by decide) (by decide) (Nat.le_of_ble_eq_true rfl) (Nat.le_of_ble_eq_true rfl) (Nat.le_of_ble_eq_true rfl) (fun a2 => ?_)
  rw [List.append_assoc]
  refine z_putF (i := 0) (ci := 11) (j := 1) (N := 15) (T := TX12) (ty0 := tyX12) (q := 22) hC dX12_init_19 rfl rfl rfl inl12 tyX12_ok nmX12 (by decide) (tyX12_ok 1 (by decide)) rfl rfl (Nat.le_of_ble_eq_true rfl) fl_RX12_13 hnm rfl rfl rfl ?_
  refine z_aload_n (i := 0) (q := 23) hC dX12_init_22 rfl rfl rfl ?_
  refine z_sipush (q := 26) (v := 1530) hC dX12_init_23 rfl (by decide) ?_
  refine z_newi (N := 1530) (q := 28) hC dX12_init_26 rfl (by decide) (by decide) (Nat.le_of_ble_eq_true rfl) (Nat.le_of_ble_eq_true rfl) (Nat.le_of_ble_eq_true rfl) (fun a3 => ?_)
  rw [List.append_assoc]
  refine z_putF (i := 0) (ci := 11) (j := 2) (N := 15) (T := TX12) (ty0 := tyX12) (q := 31) hC dX12_init_28 rfl rfl rfl inl12 tyX12_ok nmX12 (by decide) (tyX12_ok 2 (by decide)) rfl rfl (Nat.le_of_ble_eq_true rfl) fl_RX12_16 hnm rfl rfl rfl ?_
  refine z_aload_n (i := 0) (q := 32) hC dX12_init_31 rfl rfl rfl ?_
  refine z_iconst (q := 33) (v := 2) hC dX12_init_32 rfl (by decide) ?_
  refine z_newz (N := 2) (q := 35) hC dX12_init_33 rfl (by decide) (by decide) (Nat.le_of_ble_eq_true rfl) (Nat.le_of_ble_eq_true rfl) (Nat.le_of_ble_eq_true rfl) (fun a4 => ?_)
  rw [List.append_assoc]
  refine z_putF (i := 0) (ci := 11) (j := 3) (N := 15) (T := TX12) (ty0 := tyX12) (q := 38) hC dX12_init_35 rfl rfl rfl inl12 tyX12_ok nmX12 (by decide) (tyX12_ok 3 (by decide)) rfl rfl (Nat.le_of_ble_eq_true rfl) fl_RX12_19 hnm rfl rfl rfl ?_
  refine z_aload_n (i := 0) (q := 39) hC dX12_init_38 rfl rfl rfl ?_
  refine z_bipush (q := 41) (v := 80) hC dX12_init_39 rfl (by decide) ?_
  refine z_newi (N := 80) (q := 43) hC dX12_init_41 rfl (by decide) (by decide) (Nat.le_of_ble_eq_true rfl) (Nat.le_of_ble_eq_true rfl) (Nat.le_of_ble_eq_true rfl) (fun a5 => ?_)
  rw [List.append_assoc]
  refine z_putF (i := 0) (ci := 11) (j := 6) (N := 15) (T := TX12) (ty0 := tyX12) (q := 46) hC dX12_init_43 rfl rfl rfl inl12 tyX12_ok nmX12 (by decide) (tyX12_ok 6 (by decide)) rfl rfl (Nat.le_of_ble_eq_true rfl) fl_RX12_23 hnm rfl rfl rfl ?_
  refine z_aload_n (i := 0) (q := 47) hC dX12_init_46 rfl rfl rfl ?_
  refine z_sipush (q := 50) (v := 240) hC dX12_init_47 rfl (by decide) ?_
  refine z_newi (N := 240) (q := 52) hC dX12_init_50 rfl (by decide) (by decide) (Nat.le_of_ble_eq_true rfl) (Nat.le_of_ble_eq_true rfl) (Nat.le_of_ble_eq_true rfl) (fun a6 => ?_)
  rw [List.append_assoc]
  refine z_putF (i := 0) (ci := 11) (j := 8) (N := 15) (T := TX12) (ty0 := tyX12) (q := 55) hC dX12_init_52 rfl rfl rfl inl12 tyX12_ok nmX12 (by decide) (tyX12_ok 8 (by decide)) rfl rfl (Nat.le_of_ble_eq_true rfl) fl_RX12_26 hnm rfl rfl rfl ?_
  refine z_aload_n (i := 0) (q := 56) hC dX12_init_55 rfl rfl rfl ?_
  refine z_iconst (q := 57) (v := 5) hC dX12_init_56 rfl (by decide) ?_
  refine z_newi (N := 5) (q := 59) hC dX12_init_57 rfl (by decide) (by decide) (Nat.le_of_ble_eq_true rfl) (Nat.le_of_ble_eq_true rfl) (Nat.le_of_ble_eq_true rfl) (fun a7 => ?_)
  rw [List.append_assoc]
  refine z_putF (i := 0) (ci := 11) (j := 9) (N := 15) (T := TX12) (ty0 := tyX12) (q := 62) hC dX12_init_59 rfl rfl rfl inl12 tyX12_ok nmX12 (by decide) (tyX12_ok 9 (by decide)) rfl rfl (Nat.le_of_ble_eq_true rfl) fl_RX12_29 hnm rfl rfl rfl ?_
  refine z_aload_n (i := 0) (q := 63) hC dX12_init_62 rfl rfl rfl ?_
  refine z_bipush (q := 65) (v := 35) hC dX12_init_63 rfl (by decide) ?_
  refine z_newi (N := 35) (q := 67) hC dX12_init_65 rfl (by decide) (by decide) (Nat.le_of_ble_eq_true rfl) (Nat.le_of_ble_eq_true rfl) (Nat.le_of_ble_eq_true rfl) (fun a8 => ?_)
  rw [List.append_assoc]
  refine z_putF (i := 0) (ci := 11) (j := 14) (N := 15) (T := TX12) (ty0 := tyX12) (q := 70) hC dX12_init_67 rfl rfl rfl inl12 tyX12_ok nmX12 (by decide) (tyX12_ok 14 (by decide)) rfl rfl (Nat.le_of_ble_eq_true rfl) fl_RX12_32 hnm rfl rfl rfl ?_
  refine z_aload_n (i := 0) (q := 71) hC dX12_init_70 rfl rfl rfl ?_
  refine z_get (i := 0) (ci := 11) (j := 0) (N := 15) (T := TX12) (q := 74) hC dX12_init_71 rfl rfl rfl inl12 (by decide) rfl fl_RX12_7 ?_
  refine z_iconst (q := 75) (v := 0) hC dX12_init_74 rfl (by decide) ?_
  refine z_iconst (q := 76) (v := 1) hC dX12_init_75 rfl (by decide) ?_
  refine z_iast (i := 1) (q := 77) hC dX12_init_76 rfl rfl (by unfold vp_in; decide) rfl ?_
  refine z_aload_n (i := 0) (q := 78) hC dX12_init_77 rfl rfl rfl ?_
  refine z_iconst (q := 79) (v := 0) hC dX12_init_78 rfl (by decide) ?_
  refine z_iconst (q := 80) (v := (-1)) hC dX12_init_79 rfl (by decide) ?_
  refine z_iconst (q := 81) (v := 0) hC dX12_init_80 rfl (by decide) ?_
  refine z_callV (i := 0) (ci := 11) (q := 84) (rm := rm_X12_founds) hC hO (z_X12_founds hl Θ w0 _ rfl rfl rfl upd_hi) k_X12_founds im_yX12_founds se_yX12_founds ml_RX12_35 dX12_init_81 rfl rfl rfl rfl rfl (Nat.le_of_ble_eq_true rfl) ⟨Nat.le_of_ble_eq_true rfl, Nat.le_of_ble_eq_true rfl⟩ ⟨Nat.le_of_ble_eq_true rfl, Nat.le_of_ble_eq_true rfl⟩ ?_
  rintro r9 w9 ⟨rfl, rfl⟩
  show VL _ _ _ _ _ _ _ _ _ _ _ _ _ _ _ 84 _ [] _
  refine z_vret hC dX12_init_84 hr ?_ (Nat.le_of_ble_eq_true rfl) (Nat.le_of_ble_eq_true rfl)
  exact ⟨rfl, a1, a2, a3, a4, a5, a6, a7, a8, rfl⟩
