/-! The script is read in a method of its own. -/
def cPs (Θ : cTH) (as : List Value) (G : GS) (b L : Nat) (xs : Nat → Int32) : Array Value → State → Prop := va_Pc as (fun U => (cK Θ U ∧ cG Θ G U.heap ∧ cZ Θ U U.heap ∧ tB Θ ≤ U.heap.size) ∧ va_X b L xs U U.heap ∧ b < tB Θ)
theorem cPs_blind {Θ : cTH} {as : List Value} {G : GS} {b L : Nat} {xs : Nat → Int32} : FrameBlind (cPs Θ as G b L xs) := by
  intro a U g mk h
  obtain ⟨h1, ⟨h2, h3, h4, h5⟩, h6, h7⟩ := h
  exact ⟨h1, ⟨cK.same (s := U) (U := U.calling g mk a) rfl h2, h3, h4.moved (U := U.calling g mk a) (Vm.Alike.refl U.vm), h5⟩, va_X.moved (U := U.calling g mk a) (Vm.Alike.refl U.vm) h6, h7⟩
def CtC (l : Launch) (y : MethodName) (cc : ByteArray) (n : Nat) (ret : Option FieldType) (rm : Room) (Θ : cTH) (as : List Value) (G : GS) (b L : Nat) (xs : Nat → Int32) (Qp : cOut → GS → Prop) : Prop :=
  vx_Met l y (Cond.code y cc n ret :: wALL) rm (cPs Θ as G b L xs) (cQ Θ Qp) (cX Θ Qp) rm.cells rm.slots (tA Θ)
theorem ctC_of {l : Launch} {y : MethodName} {cc : ByteArray} {n : Nat} {ret : Option FieldType} {rm : Room} {Θ : cTH} {as : List Value} {G : GS} {b L : Nat} {xs : Nat → Int32} {Qp : cOut → GS → Prop} {LS : List (Option Value)} (hl : l.stackTraces = false) (hy : plainName y.cls = true) (hc : as.all (fun v => v.category == 1) = true) (hn : as.length ≤ n) (hLS : as.map some ++ List.replicate (n - as.length) none = LS)
    (body : ∀ (p : Program) (e : Env) (s : State) (m : MethodId) (args : Array Value) (below : List Frame) (meth : Method) (c : Code), cC p l s m args meth c cc n y.cls Θ → meth.sig.returnType = ret → va_X b L xs s s.heap → b < tB Θ → V p l e rm s m args below meth c n Θ Qp rm.cells rm.slots 0 0 0 LS [] G) : CtC l y cc n ret rm Θ as G b L xs Qp := by
  refine vx_ofW (cc := cc) (maxL := n) (ret := ret) hy rfl ?_
  intro p e s m args below meth c s₁ B hml htb hP
  obtain ⟨rfl, ⟨hK, hG, hZ, hz⟩, hX, hbB⟩ := hP
  have hts := atoms_spec (ws := Cond.code y cc n ret :: wALL) B.pre
  have hC : cC p l s m as.toArray meth c cc n y.cls Θ := ⟨B.exec, B.bytes, hml, findClass_of_methodNamed B.named, fun w hw => hts w (List.mem_cons_of_mem _ hw), B.notSynchronized, hK, hl, fun _ => htb, hZ, hz⟩
  have hb := body p e s m as.toArray below meth c hC B.returns hX hbB
  obtain ⟨h1, h2⟩ := lvH_entry hc hn
  have hls := h2 _ (lv_entry as h1)
  rw [lg_entry_eq]
  refine hb s.heap [] _ hG va_S.rf (lvH_sub hls ?_)
  intro i v hi
  rw [← hLS] at hi
  by_cases hlt : i < (as.map some).length
  · rw [List.getElem?_append_left hlt] at hi; exact hi
  · rw [List.getElem?_append_right (Nat.not_lt.mp hlt)] at hi
    have h9 := List.eq_of_mem_replicate (List.mem_of_getElem? hi)
    cases h9
section LRC
variable {p : Program} {l : Launch} {e : Env} {R : Room} {s : State} {m : MethodId} {args : Array Value} {below : List Frame} {meth : Method} {c : Code} {cc : ByteArray} {nL : Nat} {own : String} {Θ : cTH} {Q9 : State → Prop} {k n pc q : Nat} {LS : List (Option Value)} {st rest : List Value} {G : GS} {b L : Nat} {xs : Nat → Int32}
theorem cC_sz (hC : cC p l s m args meth c cc nL own Θ) : tB Θ ≤ s.heap.size := hC.2.2.2.2.2.2.2.2.2.2
theorem v_callSC (hC : cC p l s m args meth c cc nL own Θ) (hX : va_X b L xs s s.heap) (hb : b < tB Θ) {y : MethodName} {cy : ByteArray} {nY na : Nat} {ret : Option FieldType} {rm : Room} {idx : Nat} {As : List Value} {Qc : cOut → GS → Prop} (hM : CtC l y cy nY ret rm Θ As G b L xs Qc) (ky : kY y cy nY ret na) (hss : Cond.static y ∈ wALL) (hml : Cond.methodLink own idx y ∈ wALL) (d : decode cc pc = .ok (.invokestatic idx, 3)) (hq : pc + 3 = q)
    (hna : As.length = na) (hst : st = As.reverse ++ rest) (hsz : (rest.map fun v => v.category).sum ≤ 8) (hR : rm.frames + 1 ≤ R.frames ∧ 8 + (nY + 11) + rm.locals ≤ R.locals) {c1 s1 : Nat} (hc1 : rm.cells = c1) (hs1 : rm.slots = s1) (hcs : k + c1 ≤ R.cells ∧ n + s1 ≤ R.slots)
    (kk : ∀ (v : Option Value) (G1 : GS), Qc (.inl v) G1 → VG p l e R s m args below meth c nL Θ Q9 (k + c1) (n + s1) q LS (v.toList ++ rest) G1) (kn : ∀ (E : String) (G1 : GS), Qc (.inr E) G1 → False) : VG p l e R s m args below meth c nL Θ Q9 k n pc LS st G := by
  subst hc1; subst hs1
  refine v_of_runN (a9 := As.toArray) (fun H locs ls hH hS hl => vx_runS ⟨hC.1, hC.2.1, hC.2.2.1, cC_own hC, hC.2.2.2.2.1⟩ hM ⟨kY_callB hC ky hml hR, cC_hts hC hss⟩ ⟨cPs_blind, fun U hU hW => ?_⟩ rfl hna hl.1 hst (lv_room hsz) d hcs) hq kk kn
  obtain ⟨h1, h2⟩ := cC_pre (as := As) hC hH hS U hU hW
  refine ⟨h1, h2, ?_, hb⟩
  rw [hU]
  have hA : ¬ tA Θ b := fun h => by
    have h9 : tB Θ ≤ b := h
    omega
  exact va_X.moved hW.alike (hX.kept (hS.2.1 b (Nat.lt_of_lt_of_le hb (cC_sz hC)) hA))
theorem v_slenC (hC : cC p l s m args meth c cc nL own Θ) (hX : va_X b L xs s s.heap) (hb : b < tB Θ) (d : decode cc pc = .ok (.arraylength, 1)) (hq : pc + 1 = q) (kk : VG p l e R s m args below meth c nL Θ Q9 k n q LS (.int (nI L) :: rest) G) : VG p l e R s m args below meth c nL Θ Q9 k n pc LS (.ref b :: rest) G := by
  subst hq
  intro H locs ls hH hS hl
  have hA : ¬ tA Θ b := fun h => by
    have h2 : tB Θ ≤ b := h
    omega
  exact va_slen hC.1 hC.2.1 hX (Nat.lt_of_lt_of_le hb (cC_sz hC)) hA hS d (kk H locs ls hH hS hl)
theorem v_sldC (hC : cC p l s m args meth c cc nL own Θ) (hX : va_X b L xs s s.heap) (hb : b < tB Θ) (hL : L ≤ 260) {z : Nat} (d : decode cc pc = .ok (.iaload, 1)) (hq : pc + 1 = q) (hz : z < L) (kk : VG p l e R s m args below meth c nL Θ Q9 k n q LS (.int (xs z) :: rest) G) : VG p l e R s m args below meth c nL Θ Q9 k n pc LS (.int (nI z) :: .ref b :: rest) G := by
  subst hq
  intro H locs ls hH hS hl
  have hA : ¬ tA Θ b := fun h => by
    have h2 : tB Θ ≤ b := h
    omega
  have h2 := va_sld (p := p) (l := l) (e := e) (R := R) (s := s) (m := m) (args := args) (below := below) (meth := meth) (c := c) (pc := pc) (ls := ls) (rest := rest) (Q := Q9) (cells := k) (slots := n) hC.1 hC.2.1 hX (Nat.lt_of_lt_of_le hb (cC_sz hC)) hA hS (i := nI z) (vp_in_nI hz (by omega)) d
  rw [nI_clamp (show z < 2 ^ 31 by omega)] at h2
  exact h2 (kk H locs ls hH hS hl)
end LRC
/-- some number, in the same world -/
def aQ (G : GS) : cOut → GS → Prop := fun o G1 => (∃ x : Int32, o = .inl (some (.int x))) ∧ G1 = G
theorem aQ_k {G : GS} {P : Option Value → GS → Prop} (h : ∀ x : Int32, P (some (.int x)) G) : ∀ r G9, aQ G (.inl r) G9 → P r G9 := by
  rintro r G9 ⟨⟨x, h1⟩, rfl⟩
  cases h1
  exact h x
theorem aQ_n {G : GS} : ∀ E G9, aQ G (.inr E) G9 → False := by
  rintro E G9 ⟨⟨x, h1⟩, -⟩
  cases h1
set_option maxHeartbeats 4000000 in
set_option maxRecDepth 20000 in
theorem c_L_cell {l : Launch} (hl : l.stackTraces = false) (Θ : cTH) (z L b : Nat) (xs : Nat → Int32) (G : GS) (hz : z < 2 ^ 20) (hL : L ≤ 260) : CtC l yL_cell cL_cell 2 (some .int) rm_L_cell Θ [.ref b, .int (nI z)] G b L xs (aQ G) := by
  refine ctC_of (LS := [some (.ref b), some (.int (nI z))]) hl (by decide +kernel) rfl (Nat.le_of_ble_eq_true rfl) rfl ?_
  intro p e s m args below meth c hC hr hX hb
  refine v_iload_n (i := 1) (q := 1) hC dL_cell_0 rfl rfl rfl ?_
  refine v_aload_n (i := 0) (q := 2) hC dL_cell_1 rfl rfl rfl ?_
  refine v_slenC (q := 3) hC hX hb dL_cell_2 rfl ?_
  refine v_icmp_ge (q := 12) (q2 := 6) hC dL_cell_3 (by decide) rfl (fun c_3 => ?_) (fun c_3 => ?_)
  · refine v_ldc (q := 14) hC co_RL_7 dL_cell_12 rfl ?_
    refine v_iload_n (i := 1) (q := 15) hC dL_cell_14 rfl rfl rfl ?_
    refine v_iconst (q := 16) (v := 3) hC dL_cell_15 rfl (by decide) ?_
    refine v_iadd (q := 17) hC dL_cell_16 rfl ?_
    refine v_imul (q := 18) hC dL_cell_17 rfl ?_
    refine v_iret hC dL_cell_18 hr (rfl) ?_ (Nat.le_of_ble_eq_true rfl) (Nat.le_of_ble_eq_true rfl)
    exact ⟨⟨_, rfl⟩, rfl⟩
  · refine v_aload_n (i := 0) (q := 7) hC dL_cell_6 rfl rfl rfl ?_
    refine v_iload_n (i := 1) (q := 8) hC dL_cell_7 rfl rfl rfl ?_
    refine v_sldC (q := 9) hC hX hb hL dL_cell_8 rfl ((nI_ltI (by omega) (by omega)).mp (Int32.not_le.mp c_3)) ?_
    refine v_goto (q := 18) hC dL_cell_9 (by decide) ?_
    refine v_iret hC dL_cell_18 hr (rfl) ?_ (Nat.le_of_ble_eq_true rfl) (Nat.le_of_ble_eq_true rfl)
    exact ⟨⟨_, rfl⟩, rfl⟩
