/-! Fields, rows (arrays), calls, ends. -/
section VROWS2
variable {p : Program} {l : Launch} {e : Env} {R : Room} {s : State} {m : MethodId} {args : Array Value} {below : List Frame} {meth : Method} {c : Code} {cc : ByteArray} {nL : Nat} {own : String} {Θ : cTH} {Qp : cOut → GS → Prop} {Q9 : State → Prop} {mc ms k n pc q : Nat} {LS : List (Option Value)} {st rest : List Value} {G : GS}
theorem cC_hts (hC : cC p l s m args meth c cc nL own Θ) {w : Cond} (h : w ∈ wALL) : w.before args s = true := hC.2.2.2.2.1 w h
theorem cC_own (hC : cC p l s m args meth c cc nL own Θ) : s.vm.findClass own = some m.cls := hC.2.2.2.1
theorem cC_K (hC : cC p l s m args meth c cc nL own Θ) : va_K (tD Θ) vwCl (tT Θ) s := hC.2.2.2.2.2.2.1.1
/-- reading a field -/
theorem v_get (hC : cC p l s m args meth c cc nL own Θ) {r o ci j N idx : Nat} {C : String} {T : u_T} {fs : List Value} {v : Value} (d : decode cc pc = .ok (.getfield idx, 3)) (hq : pc + 3 = q) (hid : okI G.2.2.1 r o = true) (hce : cellS Θ r o (G.1 r o) (G.2.1 r o) G.2.2 = .inr (ci, fs)) (hcl : vwCl[ci]? = some (C, T, N)) (hin : ∀ w ∈ u_ws C T N, w ∈ wALL) (hj : j < N) (hv : fs[j]? = some v) (hlk : Cond.fieldLink own idx (T j).1 (T j).2.1 (T j).2.2.1 ∈ wALL)
    (kk : VG p l e R s m args below meth c nL Θ Q9 k n q LS (v :: rest) G) : VG p l e R s m args below meth c nL Θ Q9 k n pc LS (.ref (tR Θ r o) :: rest) G := by
  subst hq
  intro H locs ls hH hS hl
  obtain ⟨k9, -, hk9⟩ := cW_get Θ G hid
  rw [hce] at hk9
  exact va_get hC.1 hC.2.1 hC.2.2.2.2.1 hin (cC_own hC) (cC_K hC) hH.1 k9 hk9 hcl j hj (cC_hts hC hlk) (fun _ h => h) hv d (kk H locs ls hH hS hl)
/-- writing an int field -/
theorem v_put (hC : cC p l s m args meth c cc nL own Θ) {r o ci j N idx : Nat} {C : String} {T : u_T} {fs : List Value} {x : Int32} {ty0 : Nat → FieldType} (d : decode cc pc = .ok (.putfield idx, 3)) (hq : pc + 3 = q) (hid : okI G.2.2.1 r o = true) (hce : cellS Θ r o (G.1 r o) (G.2.1 r o) G.2.2 = .inr (ci, fs)) (hcl : vwCl[ci]? = some (C, T, N)) (hin : ∀ w ∈ u_ws C T N, w ∈ wALL) (hty : ∀ k, k < N → parseFieldDescriptor (T k).2.2.1 = some (ty0 k)) (hnm : ∀ a, a < N → ∀ b, b < N → a ≠ b → (T a).2.1 ≠ (T b).2.1) (hj : j < N) (hd : parseFieldDescriptor (T j).2.2.1 = some .int) (hfin : (T j).2.2.2 = false) (hl9 : j < fs.length) (hlk : Cond.fieldLink own idx (T j).1 (T j).2.1 (T j).2.2.1 ∈ wALL)
    (hset : cellS Θ r o (fun i => if i = j then x else G.1 r o i) (G.2.1 r o) G.2.2 = .inr (ci, fs.set j (.int x)))
    (kk : VG p l e R s m args below meth c nL Θ Q9 k n q LS rest (putF G r o j x)) : VG p l e R s m args below meth c nL Θ Q9 k n pc LS (.int x :: .ref (tR Θ r o) :: rest) G := by
  subst hq
  intro H locs ls hH hS hl
  obtain ⟨k9, hi9, hk9⟩ := cW_get Θ G hid
  rw [hce] at hk9
  refine va_put hC.1 hC.2.1 hC.2.2.2.2.1 hin ty0 hty hnm (cC_own hC) (cC_K hC) hH.1 hH.2 hS k9 hk9 hcl j hj (cC_hts hC hlk) (fun _ h => h) hfin hd (by rfl) (by rfl) hl9 d (fun H1 locs1 hP hD hS1 => ?_)
  have hw : (cW Θ G).set k9 (tR Θ r o, .inr (ci, fs.set j (.int x))) = cW Θ (putF G r o j x) := cW_put hH.2 hi9 rfl putF_ne (by rw [putF_same]; exact hset)
  rw [hw] at hP hD
  exact kk H1 locs1 ls ⟨hP, hD⟩ hS1 hl
/-- reading a row of ints -/
theorem v_iald (hC : cC p l s m args meth c cc nL own Θ) {r o N : Nat} {i : Int32} {f : Nat → Int32} (d : decode cc pc = .ok (.iaload, 1)) (hq : pc + 1 = q) (hid : okI G.2.2.1 r o = true) (hce : cellS Θ r o (G.1 r o) (G.2.1 r o) G.2.2 = .inl (tI Θ, N, .inl f)) (hin : vp_in i N)
    (kk : VG p l e R s m args below meth c nL Θ Q9 k n q LS (.int (G.2.1 r o i.toNatClampNeg) :: rest) G) (hf : f = G.2.1 r o := by rfl) : VG p l e R s m args below meth c nL Θ Q9 k n pc LS (.int i :: .ref (tR Θ r o) :: rest) G := by
  subst hq; subst hf
  intro H locs ls hH hS hl
  obtain ⟨k9, -, hk9⟩ := cW_get Θ G hid
  rw [hce] at hk9
  exact va_iald hC.1 hC.2.1 (cC_K hC) hH.1 k9 0 hk9 rfl hin d (kk H locs ls hH hS hl)
/-- writing a row of ints -/
theorem v_iast (hC : cC p l s m args meth c cc nL own Θ) {r o N : Nat} {i x : Int32} (d : decode cc pc = .ok (.iastore, 1)) (hq : pc + 1 = q) (hid : okI G.2.2.1 r o = true) (hce : ∀ a : Nat → Int32, cellS Θ r o (G.1 r o) a G.2.2 = .inl (tI Θ, N, .inl a)) (hin : vp_in i N)
    (kk : VG p l e R s m args below meth c nL Θ Q9 k n q LS rest (putA G r o (upd (G.2.1 r o) i.toNatClampNeg x))) : VG p l e R s m args below meth c nL Θ Q9 k n pc LS (.int x :: .int i :: .ref (tR Θ r o) :: rest) G := by
  subst hq
  intro H locs ls hH hS hl
  obtain ⟨k9, hi9, hk9⟩ := cW_get Θ G hid
  rw [hce] at hk9
  refine va_iast hC.1 hC.2.1 (cC_K hC) hH.1 hH.2 hS k9 0 hk9 rfl hin d (fun H1 locs1 hP hD hS1 => ?_)
  have hw : (cW Θ G).set k9 (tR Θ r o, .inl (tI Θ, N, .inl (upd (G.2.1 r o) i.toNatClampNeg x))) = cW Θ (putA G r o (upd (G.2.1 r o) i.toNatClampNeg x)) := cW_put hH.2 hi9 rfl putA_ne (by rw [putA_same]; exact hce _)
  rw [hw] at hP hD
  exact kk H1 locs1 ls ⟨hP, hD⟩ hS1 hl
/-- the end of a method that answers an int -/
theorem v_iret (hC : cC p l s m args meth c cc nL own Θ) {x : Int32} {ty : FieldType} (d : decode cc pc = .ok (.ireturn, 1)) (hr : meth.sig.returnType = some ty) (hn : narrow ty (.int x) = .int x) (hq : Qp (.inl (some (.int x))) G) (hk : k ≤ mc) (hm : n ≤ ms) : V p l e R s m args below meth c nL Θ Qp mc ms k n pc LS [.int x] G := by
  intro H locs ls hH hS hl
  refine W.widen hk hm ?_
  exact vx_ret (W.zret hC.1 hC.2.1 hr hn (fun t ht hW => ⟨⟨some (.int x), G, rfl, hq, by rw [ht]; exact hH⟩, hS.F ht⟩) hS.2.2 d hC.2.2.2.2.2.1)
theorem v_vret (hC : cC p l s m args meth c cc nL own Θ) (d : decode cc pc = .ok (.return_, 1)) (hr : meth.sig.returnType = none) (hq : Qp (.inl none) G) (hk : k ≤ mc) (hm : n ≤ ms) : V p l e R s m args below meth c nL Θ Qp mc ms k n pc LS [] G := by
  intro H locs ls hH hS hl
  refine W.widen hk hm ?_
  exact vx_ret (W.vret hC.1 hC.2.1 hr (fun t ht hW => ⟨⟨none, G, rfl, hq, by rw [ht]; exact hH⟩, hS.F ht⟩) hS.2.2 d hC.2.2.2.2.2.1)
/-- a call, out of its run -/
theorem v_of_run (hC : cC p l s m args meth c cc nL own Θ) (ho : own ≠ RL) {mc1 ms1 : Nat} {a9 : Array Value} {Qc : cOut → GS → Prop} (hrun : ∀ (H : Heap) (locs : List Loc) (ls : Array Slot), cG Θ G H → va_S (tA Θ) s.heap H locs → lvH ls nL LS → vx_Run p l e R s m args below meth c H locs k n mc1 ms1 (F0 m pc ls st) rest (cQ Θ Qc a9) (cX Θ Qc) (tA Θ)) (hq : pc + 3 = q)
    (kk : ∀ (r : Option Value) (G1 : GS), Qc (.inl r) G1 → V p l e R s m args below meth c nL Θ Qp mc ms (k + mc1) (n + ms1) q LS (r.toList ++ rest) G1) (kx : ∀ (E : String) (G1 : GS), Qc (.inr E) G1 → Qp (.inr E) G1) (hk : k + mc1 ≤ mc) (hm : n + ms1 ≤ ms) : V p l e R s m args below meth c nL Θ Qp mc ms k n pc LS st G := by
  subst hq
  intro H locs ls hH hS hl T hT X
  rcases hrun H locs ls hH hS hl T hT X with ⟨v, st₀, t, T', L, h0, X', hL, e1, e2, ⟨⟨r, G1, hv, hp, hb⟩, hF⟩, sx⟩ | ⟨q, st₀, t, T', L, E, ce, h0, X', hL, e1, e2, ⟨⟨G1, hp, hb⟩, hF⟩, hce, hcv, hcl, sx⟩
  · injection hv with hv9; subst hv9
    obtain ⟨k1, k2, k3⟩ := vx_keep h0 e1 hS (fun _ _ h => h) (fun _ h => h) hL hF
    obtain ⟨t2, a1, b1⟩ := kk _ G1 hp T'.heap (locs ++ L) ls (by rw [e1]; exact hb) k3 hl T' rfl X'
    exact ⟨t2, sx t2 a1, b1⟩
  · obtain ⟨k1, k2, k3⟩ := vx_keep h0 e1 hS (fun _ _ h => h) (fun _ h => h) hL hF
    obtain ⟨t2, a1, b1⟩ := (vx_out (p := p) (l := l) (e := e) (R := R) (below := below) (meth := meth) (args := args) (Qc := cQ Θ Qp) (XC := cX Θ Qp) (ls := ls) (rest := rest) (pc := pc) (locs := locs ++ L) (H := T'.heap) (free := tA Θ) (mc := mc) (ms := ms) (fun x hx => absurd (hC.2.2.2.2.2.2.2.2.1 ho x hx) id) hC.2.2.2.2.2.1 (by rw [e1]; exact hce) hcv hcl (fun t9 ht9 ha9 => ⟨⟨G1, kx E G1 hp, by rw [ht9, e1]; exact hb⟩, k3.F ht9⟩) k3.2.2 hk hm) T' rfl X'
    exact ⟨t2, sx.trans a1, b1⟩
/-- the callee's words are the caller's -/
theorem cC_pay (hC : cC p l s m args meth c cc nL own Θ) {w0 : Cond} (h0 : w0 ∈ wALL) : ∀ w ∈ w0 :: wALL, ∀ (a' : Array Value) (U : State), s.WarmedH U.vm → w.before a' U = true := by
  intro w hw a' U hW
  have hm : w ∈ wALL := by
    rcases List.mem_cons.mp hw with h | h
    · rw [h]; exact h0
    · exact h
  exact word_at hW (good_of_word (wALL_good w hm)) (cC_hts hC hm)
/-- what a call of y needs of y -/
def kY (y : MethodName) (cc : ByteArray) (nY : Nat) (ret : Option FieldType) (na : Nat) : Prop := Cond.code y cc nY ret ∈ wALL ∧ (y.cls ≠ "java/lang/invoke/MethodHandle" ∧ y.cls ≠ "java/lang/invoke/VarHandle") ∧ (parseMethodDescriptor y.desc).map (fun d => d.parameters.length) = some na ∧ Cond.initialized y.cls ∈ wALL
theorem kY_callB (hC : cC p l s m args meth c cc nL own Θ) {y : MethodName} {cy : ByteArray} {nY na : Nat} {ret : Option FieldType} {rm : Room} {idx : Nat} (ky : kY y cy nY ret na) (hml : Cond.methodLink own idx y ∈ wALL) (hR : rm.frames + 1 ≤ R.frames ∧ 8 + (nY + 11) + rm.locals ≤ R.locals) : CallB R s args own idx y cy nY ret (Cond.code y cy nY ret :: wALL) rm rm.cells rm.slots na := by
  obtain ⟨h1, h2, h3, h4⟩ := ky
  refine ⟨rfl, rfl, hR.1, hR.2, cC_pay hC h1, List.mem_cons_self, cC_hts hC h1, cC_hts hC h4, h2, fun sig h => ?_, cC_hts hC hml⟩
  rw [h] at h3
  exact (Option.some.inj h3).symm
theorem cC_pre (hC : cC p l s m args meth c cc nL own Θ) {as : List Value} {H : Heap} {locs : List Loc} (hH : cG Θ G H) (hS : va_S (tA Θ) s.heap H locs) : ∀ U : State, U.heap = H → s.WarmedH U.vm → cP Θ as G as.toArray U := by
  intro U hU hW
  obtain ⟨-, -, -, -, -, -, hK, -, -, hZ, hz⟩ := hC
  refine ⟨rfl, hK.warm hW, by rw [hU]; exact hH, ?_, by rw [hU]; exact Nat.le_trans hz hS.1⟩
  rw [hU]
  exact (hZ.kept hS.2.1).moved hW.alike
theorem v_callV (hC : cC p l s m args meth c cc nL own Θ) {y : MethodName} {cy : ByteArray} {nY na : Nat} {ret : Option FieldType} {rm : Room} {idx r o ci N : Nat} {T : u_T} {fs As : List Value} {Qc : cOut → GS → Prop} (hM : Ct l y cy nY ret rm Θ (.ref (tR Θ r o) :: As) G Qc) (ky : kY y cy nY ret na) (him : Cond.instanceMethod y ∈ wALL) (hse : Cond.selects y.cls y y ∈ wALL) (hml : Cond.methodLink own idx y ∈ wALL) (d : decode cc pc = .ok (.invokevirtual idx, 3)) (hq : pc + 3 = q)
    (hid : okI G.2.2.1 r o = true) (hce : cellS Θ r o (G.1 r o) (G.2.1 r o) G.2.2 = .inr (ci, fs)) (hcl : vwCl[ci]? = some (y.cls, T, N)) (hna : As.length = na) (hst : st = As.reverse ++ .ref (tR Θ r o) :: rest) (hsz : (rest.map fun v => v.category).sum ≤ 8) (hR : rm.frames + 1 ≤ R.frames ∧ 8 + (nY + 11) + rm.locals ≤ R.locals) (hcs : k + rm.cells ≤ R.cells ∧ n + rm.slots ≤ R.slots)
    (kk : ∀ (v : Option Value) (G1 : GS), Qc (.inl v) G1 → V p l e R s m args below meth c nL Θ Qp mc ms (k + rm.cells) (n + rm.slots) q LS (v.toList ++ rest) G1) (kx : ∀ (E : String) (G1 : GS), Qc (.inr E) G1 → Qp (.inr E) G1) (hk : k + rm.cells ≤ mc) (hm : n + rm.slots ≤ ms) (ho : own ≠ RL := by decide) : V p l e R s m args below meth c nL Θ Qp mc ms k n pc LS st G := by
  refine v_of_run hC ho (a9 := (Value.ref (tR Θ r o) :: As).toArray) (fun H locs ls hH hS hl => ?_) hq kk kx hk hm
  obtain ⟨k9, -, hk9⟩ := cW_get Θ G hid
  rw [hce] at hk9
  exact vx_runV ⟨hC.1, hC.2.1, hC.2.2.1, cC_own hC, hC.2.2.2.2.1⟩ hM ⟨kY_callB hC ky hml hR, cC_hts hC him, cC_hts hC hse⟩ ⟨cP_blind, va_recv (cC_K hC) hH.1 hcl hk9, cC_pre hC hH hS⟩ rfl hna hl.1 hst (lv_room hsz) d hcs
theorem v_callS (hC : cC p l s m args meth c cc nL own Θ) {y : MethodName} {cy : ByteArray} {nY na : Nat} {ret : Option FieldType} {rm : Room} {idx : Nat} {As : List Value} {Qc : cOut → GS → Prop} (hM : Ct l y cy nY ret rm Θ As G Qc) (ky : kY y cy nY ret na) (hss : Cond.static y ∈ wALL) (hml : Cond.methodLink own idx y ∈ wALL) (d : decode cc pc = .ok (.invokestatic idx, 3)) (hq : pc + 3 = q)
    (hna : As.length = na) (hst : st = As.reverse ++ rest) (hsz : (rest.map fun v => v.category).sum ≤ 8) (hR : rm.frames + 1 ≤ R.frames ∧ 8 + (nY + 11) + rm.locals ≤ R.locals) (hcs : k + rm.cells ≤ R.cells ∧ n + rm.slots ≤ R.slots)
    (kk : ∀ (v : Option Value) (G1 : GS), Qc (.inl v) G1 → V p l e R s m args below meth c nL Θ Qp mc ms (k + rm.cells) (n + rm.slots) q LS (v.toList ++ rest) G1) (kx : ∀ (E : String) (G1 : GS), Qc (.inr E) G1 → Qp (.inr E) G1) (hk : k + rm.cells ≤ mc) (hm : n + rm.slots ≤ ms) (ho : own ≠ RL := by decide) : V p l e R s m args below meth c nL Θ Qp mc ms k n pc LS st G :=
  v_of_run hC ho (a9 := As.toArray) (fun H locs ls hH hS hl => vx_runS ⟨hC.1, hC.2.1, hC.2.2.1, cC_own hC, hC.2.2.2.2.1⟩ hM ⟨kY_callB hC ky hml hR, cC_hts hC hss⟩ ⟨cP_blind, cC_pre hC hH hS⟩ rfl hna hl.1 hst (lv_room hsz) d hcs) hq kk kx hk hm
/-- a private static of a nest mate -/
theorem v_callN (hC : cC p l s m args meth c cc nL own Θ) {y : MethodName} {cy : ByteArray} {nY na : Nat} {ret : Option FieldType} {rm : Room} {idx : Nat} {As : List Value} {Qc : cOut → GS → Prop} (hM : Ct l y cy nY ret rm Θ As G Qc) (ky : kY y cy nY ret na) (hss : Cond.static y ∈ wALL) (hml : Cond.methodLinkNest own idx y RX11 ∈ nestW) (d : decode cc pc = .ok (.invokestatic idx, 3)) (hq : pc + 3 = q)
    (hna : As.length = na) (hst : st = As.reverse ++ rest) (hsz : (rest.map fun v => v.category).sum ≤ 8) (hR : rm.frames + 1 ≤ R.frames ∧ 8 + (nY + 11) + rm.locals ≤ R.locals) (hcs : k + rm.cells ≤ R.cells ∧ n + rm.slots ≤ R.slots)
    (kk : ∀ (v : Option Value) (G1 : GS), Qc (.inl v) G1 → V p l e R s m args below meth c nL Θ Qp mc ms (k + rm.cells) (n + rm.slots) q LS (v.toList ++ rest) G1) (kx : ∀ (E : String) (G1 : GS), Qc (.inr E) G1 → Qp (.inr E) G1) (hk : k + rm.cells ≤ mc) (hm : n + rm.slots ≤ ms) (ho : own ≠ RL := by decide) : V p l e R s m args below meth c nL Θ Qp mc ms k n pc LS st G := by
  refine v_of_run hC ho (a9 := As.toArray) (fun H locs ls hH hS hl => ?_) hq kk kx hk hm
  obtain ⟨h1, h2, h3, h4⟩ := ky
  refine vx_runSN ⟨hC.1, hC.2.1, hC.2.2.1, cC_own hC, hC.2.2.2.2.1⟩ hM ⟨⟨⟨rfl, rfl, hR.1, hR.2, cC_pay hC h1, List.mem_cons_self⟩, cC_hts hC h1, cC_hts hC h4, h2, fun sig h => ?_, va_Nw.use rfl (hC.2.2.2.2.2.2.1.2.1 _ hml)⟩, cC_hts hC hss, trivial⟩ ⟨cP_blind, cC_pre hC hH hS⟩ rfl hna hl.1 hst (lv_room hsz) d hcs
  rw [h] at h3
  exact (Option.some.inj h3).symm
end VROWS2
/-! A contract out of a walk. -/
theorem lvH_entry {as : List Value} {n : Nat} (hc : as.all (fun v => v.category == 1) = true) (hn : as.length ≤ n) : (lg_sl as).length ≤ n ∧ ∀ ls : Array Slot, lv_has ls n (lv_args 0 as) → lvH ls n (as.map some) := by
  have h1 : ∀ v ∈ as, v.category = 1 := fun v hv => by simpa using List.all_eq_true.mp hc v hv
  have h2 : lg_sl as = as.map Slot.val := by
    clear hc hn
    induction as with
    | nil => rfl
    | cons a t ih =>
      have ha : ¬ a.category = 2 := by rw [h1 a List.mem_cons_self]; decide
      simp only [lg_sl, List.flatMap_cons, if_neg ha, List.map_cons]
      have := ih (fun v hv => h1 v (List.mem_cons_of_mem _ hv))
      simp only [lg_sl] at this
      rw [this]; rfl
  refine ⟨by rw [h2]; simpa using hn, fun ls hl => ⟨hl.1, hl.2.1, ?_⟩⟩
  rintro ⟨j, w⟩ hq
  have hw := (lvL_mem.mp hq).2
  refine hl.2.2 (j, w) ?_
  have h3 : ∀ (vs : List Value) (b : Nat), (∀ v ∈ vs, v.category = 1) → ∀ (j : Nat) (w : Value), vs[j]? = some w → (b + j, w) ∈ lv_args b vs := by
    intro vs
    induction vs with
    | nil => intro b _ j w h; simp at h
    | cons a t ih =>
      intro b hcat j w h
      have ha : ¬ a.category = 2 := by rw [hcat a List.mem_cons_self]; decide
      rw [lv_args, if_neg ha]
      cases j with
      | zero => simp at h; rw [h]; exact List.mem_cons_self
      | succ j =>
        have h5 := ih (b + 1) (fun v hv => hcat v (List.mem_cons_of_mem _ hv)) j w (by simpa using h)
        rw [show b + (j + 1) = b + 1 + j by omega]
        exact List.mem_cons_of_mem _ h5
  have h4 := h3 as 0 h1 j w (by
    have h6 : (as.map some)[j]? = some (some w) := by simpa using hw
    rw [List.getElem?_map] at h6
    cases h7 : as[j]? with
    | none => rw [h7] at h6; simp at h6
    | some z => rw [h7] at h6; simp at h6; rw [h6])
  simpa using h4
theorem ct_of {l : Launch} {y : MethodName} {cc : ByteArray} {n : Nat} {ret : Option FieldType} {rm : Room} {Θ : cTH} {as : List Value} {G : GS} {Qp : cOut → GS → Prop} {LS : List (Option Value)} (hl : l.stackTraces = false) (hy : plainName y.cls = true) (hc : as.all (fun v => v.category == 1) = true) (hn : as.length ≤ n) (hLS : as.map some ++ List.replicate (n - as.length) none = LS)
    (body : ∀ (p : Program) (e : Env) (s : State) (m : MethodId) (args : Array Value) (below : List Frame) (meth : Method) (c : Code), cC p l s m args meth c cc n y.cls Θ → meth.sig.returnType = ret → V p l e rm s m args below meth c n Θ Qp rm.cells rm.slots 0 0 0 LS [] G) : Ct l y cc n ret rm Θ as G Qp := by
  refine vx_ofW (cc := cc) (maxL := n) (ret := ret) hy rfl ?_
  intro p e s m args below meth c s₁ B hml htb hP
  obtain ⟨rfl, hK, hG, hZ, hz⟩ := hP
  have hts := atoms_spec (ws := Cond.code y cc n ret :: wALL) B.pre
  have hC : cC p l s m as.toArray meth c cc n y.cls Θ := ⟨B.exec, B.bytes, hml, findClass_of_methodNamed B.named, fun w hw => hts w (List.mem_cons_of_mem _ hw), B.notSynchronized, hK, hl, fun _ => htb, hZ, hz⟩
  have hb := body p e s m as.toArray below meth c hC B.returns
  obtain ⟨h1, h2⟩ := lvH_entry hc hn
  have hls := h2 _ (lv_entry as h1)
  rw [lg_entry_eq]
  refine hb s.heap [] _ hG va_S.rf (lvH_sub hls ?_)
  intro i v hi
  rw [← hLS] at hi
  by_cases hlt : i < (as.map some).length
  · rw [List.getElem?_append_left hlt] at hi; exact hi
  · rw [List.getElem?_append_right (Nat.not_lt.mp hlt)] at hi
    have h9 := List.eq_of_mem_replicate (List.mem_of_getElem? hi)
    cases h9
/-- called where it surely returns v, in G1 -/
theorem fR_k {v : Option Value} {G1 : GS} {P : Option Value → GS → Prop} (h : P v G1) : ∀ (r : Option Value) (G9 : GS), fR v G1 (.inl r) G9 → P r G9 := by
  rintro r G9 ⟨h1, rfl⟩
  cases h1
  exact h
theorem fR_x {v : Option Value} {G1 : GS} {Qp : cOut → GS → Prop} : ∀ (E : String) (G9 : GS), fR v G1 (.inr E) G9 → Qp (.inr E) G9 := by
  rintro E G9 ⟨h1, -⟩
  cases h1

