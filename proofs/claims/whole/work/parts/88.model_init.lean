/-! The reference's constructor, over a list of cells. -/
section ZCALL
variable {p : Program} {l : Launch} {e : Env} {R : Room} {s : State} {m : MethodId} {args : Array Value} {below : List Frame} {meth : Method} {c : Code} {cc : ByteArray} {nL : Nat} {own : String} {Θ : cTH} {Q9 : State → Prop} {k n pc q : Nat} {LS : List (Option Value)} {st rest : List Value} {ws w0 l1 : va_W}
theorem z_callS (hC : cC p l s m args meth c cc nL own Θ) (hO : va_AO RX9 s) {y : MethodName} {cy : ByteArray} {nY na idx : Nat} {ret : Option FieldType} {rm : Room} {As : List Value} {Qc : Option Value → va_W → Prop} (hM : Lt l y cy nY ret rm Θ As ws Qc) (ky : kY y cy nY ret na) (hss : Cond.static y ∈ wALL) (hml : Cond.methodLink own idx y ∈ wALL) (d : decode cc pc = .ok (.invokestatic idx, 3)) (hq : pc + 3 = q)
    (hna : As.length = na) (hst : st = As.reverse ++ rest) (hsz : (rest.map fun v => v.category).sum ≤ 8) (hR : rm.frames + 1 ≤ R.frames ∧ 8 + (nY + 11) + rm.locals ≤ R.locals) (hcs : k + rm.cells ≤ R.cells ∧ n + rm.slots ≤ R.slots)
    (kk : ∀ (r : Option Value) (w : va_W), Qc r w → VL p l e R s m args below meth c nL Θ Q9 (k + rm.cells) (n + rm.slots) q LS (r.toList ++ rest) w) : VL p l e R s m args below meth c nL Θ Q9 k n pc LS st ws :=
  z_of_run (a9 := As.toArray) (fun H locs ls hH hS hl => vx_runS ⟨hC.1, hC.2.1, hC.2.2.1, cC_own hC, hC.2.2.2.2.1⟩ hM ⟨kY_callB hC ky hml hR, cC_hts hC hss⟩ ⟨zP_blind, zC_pre hC hO hH hS⟩ rfl hna hl.1 hst (lv_room hsz) d hcs) hq kk
theorem z_callV (hC : cC p l s m args meth c cc nL own Θ) (hO : va_AO RX9 s) {y : MethodName} {cy : ByteArray} {nY na idx i b ci N : Nat} {T : u_T} {fs : List Value} {ret : Option FieldType} {rm : Room} {As : List Value} {Qc : Option Value → va_W → Prop} (hM : Lt l y cy nY ret rm Θ (.ref b :: As) (w0 ++ l1) Qc) (ky : kY y cy nY ret na) (him : Cond.instanceMethod y ∈ wALL) (hse : Cond.selects y.cls y y ∈ wALL) (hml : Cond.methodLink own idx y ∈ wALL) (d : decode cc pc = .ok (.invokevirtual idx, 3)) (hq : pc + 3 = q)
    (hi : l1[i]? = some (b, .inr (ci, fs))) (hcl : vwCl[ci]? = some (y.cls, T, N)) (hna : As.length = na) (hst : st = As.reverse ++ .ref b :: rest) (hsz : (rest.map fun v => v.category).sum ≤ 8) (hR : rm.frames + 1 ≤ R.frames ∧ 8 + (nY + 11) + rm.locals ≤ R.locals) (hcs : k + rm.cells ≤ R.cells ∧ n + rm.slots ≤ R.slots)
    (kk : ∀ (r : Option Value) (w : va_W), Qc r w → VL p l e R s m args below meth c nL Θ Q9 (k + rm.cells) (n + rm.slots) q LS (r.toList ++ rest) w) : VL p l e R s m args below meth c nL Θ Q9 k n pc LS st (w0 ++ l1) :=
  z_of_run (a9 := (Value.ref b :: As).toArray) (fun H locs ls hH hS hl => vx_runV ⟨hC.1, hC.2.1, hC.2.2.1, cC_own hC, hC.2.2.2.2.1⟩ hM ⟨kY_callB hC ky hml hR, cC_hts hC him, cC_hts hC hse⟩ ⟨zP_blind, va_recv (cC_K hC) hH.1 hcl (app_at hi), zC_pre hC hO hH hS⟩ rfl hna hl.1 hst (lv_room hsz) d hcs) hq kk
end ZCALL
theorem set_same {l : va_W} {i : Nat} {x : Nat × va_E} (h : l[i]? = some x) : l.set i x = l := by
  apply List.ext_getElem?
  intro j
  by_cases hj : i = j
  · subst hj
    rw [List.getElem?_set_self (List.getElem?_eq_some_iff.mp h).1, h]
  · rw [List.getElem?_set_ne hj]
theorem upd_z {f : Nat → Int32} {j : Nat} (h : f j = 0) : upd f j 0 = f := by
  funext i
  by_cases hi : i = j
  · subst hi; simp [upd, h]
  · simp [upd, hi]
theorem z_X12_at {l : Launch} (hl : l.stackTraces = false) (Θ : cTH) (ws : va_W) (x y : Int32) : Lt l yX12_at cX12_at 2 (some .int) rm_X12_at Θ [.int x, .int y] ws (fun r w => r = some (.int (18 + 36 * x + y)) ∧ w = ws) := by
  refine lt_of (LS := [some (.int x), some (.int y)]) hl (by decide +kernel) rfl (Nat.le_of_ble_eq_true rfl) rfl ?_
  intro p e s m args below meth c hC hO hnm hr
  refine z_bipush (q := 2) (v := 18) hC dX12_at_0 rfl (by decide) ?_
  refine z_bipush (q := 4) (v := 36) hC dX12_at_2 rfl (by decide) ?_
  refine z_iload_n (i := 0) (q := 5) hC dX12_at_4 rfl rfl rfl ?_
  refine z_imul (q := 6) hC dX12_at_5 rfl ?_
  refine z_iadd (q := 7) hC dX12_at_6 rfl ?_
  refine z_iload_n (i := 1) (q := 8) hC dX12_at_7 rfl rfl rfl ?_
  refine z_iadd (q := 9) hC dX12_at_8 rfl ?_
  refine z_iret hC dX12_at_9 hr rfl ?_ (Nat.le_of_ble_eq_true rfl) (Nat.le_of_ble_eq_true rfl)
  exact ⟨rfl, rfl⟩
/-- the first object is founded -/
def fF (f : Nat → Int32) : Nat → Int32 := upd (upd (upd (upd (upd f 18 1) 19 (-1)) 20 0) 21 15) 22 1

