/-! The law's own rows. -/
/-- what holds all the while: the machine, the script, where the world begins -/
def lCx (p : Program) (l : Launch) (s : State) (m : MethodId) (meth : Method) (c : Code) (b L : Nat) (xs : Nat → Int32) (Θ : cTH) : Prop :=
  cC p l s m #[Value.ref b] meth c cL_law 9 RL Θ ∧ va_AO RX9 s ∧ (va_X b L xs s s.heap ∧ b < s.heap.size ∧ tB Θ = s.heap.size) ∧ L ≤ 3072 ∧ l.stackTraces = false
theorem lCx.th {p : Program} {l : Launch} {s : State} {m : MethodId} {meth : Method} {c : Code} {b L : Nat} {xs : Nat → Int32} {Θ Θ2 : cTH} (h : lCx p l s m meth c b L xs Θ) (hT : Th Θ Θ2) : lCx p l s m meth c b L xs Θ2 := by
  have h9 := hT.C h.1
  obtain ⟨h1, h2, ⟨h3, h4, h5⟩, h6, h7⟩ := h
  refine ⟨h9, h2, ⟨h3, h4, ?_⟩, h6, h7⟩
  obtain ⟨ρ, rfl, _⟩ := hT
  exact h5
theorem Th.trans {Θ Θ2 Θ3 : cTH} (h : Th Θ Θ2) (h2 : Th Θ2 Θ3) : Th Θ Θ3 := by
  have h3 : ∀ r o, (r < 6 ∨ 8 ≤ r) → tR Θ3 r o = tR Θ r o := fun r o hr => (h2.r o hr).trans (h.r o hr)
  obtain ⟨ρ, rfl, _⟩ := h
  obtain ⟨ρ2, rfl, _⟩ := h2
  exact ⟨ρ2, rfl, h3⟩
abbrev lsL (Θ : cTH) (b z : Nat) (a5 a6 : Option Value) : List (Option Value) := [some (.ref b), some (.ref (tR Θ 0 14)), some (.ref (tR Θ 0 29)), some (.ref (tR Θ 0 38)), some (.int (nI z)), a5, a6, none, none]
theorem lvH_set2 {ls : Array Slot} {nL : Nat} {LS : List (Option Value)} {i : Nat} {v : Value} (hc : lvC LS i) (h1 : LS[i + 1]? = some none) (h : lv_has ls nL ((i, v) :: (lvL 0 LS).filter (fun q => !(q.1 == i) && (!(q.1 == i + 1) && !(q.1 + 1 == i && q.2.category == 2))))) (hi : i < LS.length) : lvH ls nL (LS.set i (some v)) := by
  refine ⟨h.1, h.2.1, ?_⟩
  rintro ⟨j, w⟩ hq
  have hw := (lvL_mem.mp hq).2
  rw [Nat.sub_zero] at hw
  refine h.2.2 (j, w) ?_
  by_cases hj : j = i
  · subst hj
    rw [List.getElem?_set_self hi] at hw
    cases hw
    exact List.mem_cons_self
  · rw [List.getElem?_set_ne (fun z => hj z.symm)] at hw
    have hj1 : ¬ j = i + 1 := fun z => by rw [z, h1] at hw; cases hw
    refine List.mem_cons_of_mem _ (List.mem_filter.mpr ⟨lvL_mem.mpr ⟨Nat.zero_le _, by simpa using hw⟩, ?_⟩)
    have e1 : (j == i) = false := beq_eq_false_iff_ne.mpr hj
    have e3 : (j == i + 1) = false := beq_eq_false_iff_ne.mpr hj1
    have e2 : ((j + 1 == i) && (w.category == 2)) = false := by
      by_cases h3 : j + 1 = i
      · have h4 : w.category ≠ 2 := hc w (by rw [show i - 1 = j by omega]; exact hw) (by omega)
        rw [beq_eq_false_iff_ne.mpr h4, Bool.and_false]
      · rw [beq_eq_false_iff_ne.mpr h3, Bool.false_and]
    simp only [e1, e2, e3]; rfl
section LAWROWS
variable {p : Program} {l : Launch} {e : Env} {R : Room} {s : State} {m : MethodId} {args : Array Value} {below : List Frame} {meth : Method} {c : Code} {cc : ByteArray} {nL : Nat} {own : String} {Θ Θ2 : cTH} {Qp : cOut → GS → Prop} {Q9 : State → Prop} {mc ms2 k n k2 n2 pc q q2 : Nat} {LS LS2 : List (Option Value)} {st rest : List Value} {G : GS} {b L : Nat} {xs : Nat → Int32}
theorem v_widen (h1 : k ≤ k2) (h2 : n ≤ n2) (kk : VG p l e R s m args below meth c nL Θ Q9 k2 n2 pc LS st G) : VG p l e R s m args below meth c nL Θ Q9 k n pc LS st G :=
  fun H locs ls hH hS hl => W.widen h1 h2 (kk H locs ls hH hS hl)
theorem v_sub (h : ∀ (i : Nat) (v : Value), LS2[i]? = some (some v) → LS[i]? = some (some v)) (kk : VG p l e R s m args below meth c nL Θ Q9 k n pc LS2 st G) : VG p l e R s m args below meth c nL Θ Q9 k n pc LS st G :=
  fun H locs ls hH hS hl => kk H locs ls hH hS (lvH_sub hl h)
theorem v_lcmp (hC : cC p l s m args meth c cc nL own Θ) {x y : Int64} (d : decode cc pc = .ok (.lcmp, 1)) (hq : pc + 1 = q) (kk : VG p l e R s m args below meth c nL Θ Q9 k n q LS (.int (lg_cmp x y) :: rest) G) : VG p l e R s m args below meth c nL Θ Q9 k n pc LS (.long y :: .long x :: rest) G := by
  subst hq; exact v_lift0 (fun H locs ls Q w => W.lcmp hC.1 hC.2.1 d w) kk
theorem v_dcmp (hC : cC p l s m args meth c cc nL own Θ) {x y : UInt64} {op : CmpOp} (d : decode cc pc = .ok (.dcmp op, 1)) (hq : pc + 1 = q) (kk : VG p l e R s m args below meth c nL Θ Q9 k n q LS (.int (Op.cmpValue (FP.dcmp x y) op) :: rest) G) : VG p l e R s m args below meth c nL Θ Q9 k n pc LS (.double y :: .double x :: rest) G := by
  subst hq; exact v_lift0 (fun H locs ls Q w => lv_dcmp hC.1 hC.2.1 d w) kk
theorem v_dload (hC : cC p l s m args meth c cc nL own Θ) {i : Nat} {x : UInt64} (d : decode cc pc = .ok (.dload i, 2)) (hq : pc + 2 = q) (hL : LS[i]? = some (some (.double x))) (kk : VG p l e R s m args below meth c nL Θ Q9 k n q LS (.double x :: rest) G) : VG p l e R s m args below meth c nL Θ Q9 k n pc LS rest G := by
  subst hq; exact v_lift (fun H locs ls Q hl w => lv_dload hC.1 hC.2.1 d (lvH_at hl hL) (w ls hl)) kk
theorem v_dstore (hC : cC p l s m args meth c cc nL own Θ) {i : Nat} {x : UInt64} (d : decode cc pc = .ok (.dstore i, 2)) (hq : pc + 2 = q) (hc : lvC LS i) (h1 : LS[i + 1]? = some none) (hn : i + 1 < nL) (hi2 : i < LS.length) (h2 : LS.set i (some (.double x)) = LS2) (kk : VG p l e R s m args below meth c nL Θ Q9 k n q LS2 rest G) : VG p l e R s m args below meth c nL Θ Q9 k n pc LS (.double x :: rest) G := by
  subst hq; subst h2; exact v_lift (fun H locs ls Q hl w => lv_dstore hC.1 hC.2.1 d hl hn rfl (fun ls2 h9 => w ls2 (lvH_set2 hc h1 h9 hi2))) kk
/-- reading out[0] -/
theorem v_laldO (hC : cC p l s m args meth c cc nL own Θ) (d : decode cc pc = .ok (.laload, 1)) (hq : pc + 1 = q) (kk : VG p l e R s m args below meth c nL Θ Q9 k n q LS (.long G.2.2.2 :: rest) G) : VG p l e R s m args below meth c nL Θ Q9 k n pc LS (.int 0 :: .ref (tR Θ 0 38) :: rest) G := by
  subst hq
  intro H locs ls hH hS hl
  obtain ⟨k9, -, hk9⟩ := cW_get Θ G (r := 0) (o := 38) rfl
  exact va_lald hC.1 hC.2.1 (cC_K hC) hH.1 k9 3 (n := 1) (f := fun _ => G.2.2.2) hk9 rfl (vp_in_nI (n := 0) (N := 1) (by decide) (by decide)) d (kk H locs ls hH hS hl)
/-- reading the script -/
theorem v_sld (hx : lCx p l s m meth c b L xs Θ) {z : Nat} (d : decode cL_law pc = .ok (.iaload, 1)) (hq : pc + 1 = q) (hz : z < L) (kk : VG p l e R s m #[Value.ref b] below meth c 9 Θ Q9 k n q LS (.int (xs z) :: rest) G) : VG p l e R s m #[Value.ref b] below meth c 9 Θ Q9 k n pc LS (.int (nI z) :: .ref b :: rest) G := by
  subst hq
  obtain ⟨hC, hO, ⟨hX, hb, hB⟩, hL, hl9⟩ := hx
  intro H locs ls hH hS hl
  have hA : ¬ tA Θ b := fun h => by
    have h2 : tB Θ ≤ b := h
    omega
  have h2 := va_sld (p := p) (l := l) (e := e) (R := R) (s := s) (m := m) (args := #[Value.ref b]) (below := below) (meth := meth) (c := c) (pc := pc) (ls := ls) (rest := rest) (Q := Q9) (cells := k) (slots := n) hC.1 hC.2.1 hX hb hA hS (i := nI z) (vp_in_nI hz (by omega)) d
  rw [nI_clamp (show z < 2 ^ 31 by omega)] at h2
  exact h2 (kk H locs ls hH hS hl)
theorem v_slen (hx : lCx p l s m meth c b L xs Θ) (d : decode cL_law pc = .ok (.arraylength, 1)) (hq : pc + 1 = q) (kk : VG p l e R s m #[Value.ref b] below meth c 9 Θ Q9 k n q LS (.int (nI L) :: rest) G) : VG p l e R s m #[Value.ref b] below meth c 9 Θ Q9 k n pc LS (.ref b :: rest) G := by
  subst hq
  obtain ⟨hC, hO, ⟨hX, hb, hB⟩, hL, hl9⟩ := hx
  intro H locs ls hH hS hl
  have hA : ¬ tA Θ b := fun h => by
    have h2 : tB Θ ≤ b := h
    omega
  exact va_slen hC.1 hC.2.1 hX hb hA hS d (kk H locs ls hH hS hl)
/-- script[i + j] -/
theorem v_arg (hx : lCx p l s m meth c b L xs Θ) {z : Nat} {a5 a6 : Option Value} (j : Nat) {w : Int} (hw : Int32.ofInt w = nI j) (hd : decode cL_law pc = .ok (.aload_n 0, 1) ∧ decode cL_law (pc + 1) = .ok (.iload 4, 2) ∧ decode cL_law (pc + 3) = .ok (.iconst w, 1) ∧ decode cL_law (pc + 4) = .ok (.iadd, 1) ∧ decode cL_law (pc + 5) = .ok (.iaload, 1)) (hq : pc + 6 = q) (hz : z + j < L)
    (kk : VG p l e R s m #[Value.ref b] below meth c 9 Θ Q9 k n q (lsL Θ b z a5 a6) (.int (xs (z + j)) :: rest) G) : VG p l e R s m #[Value.ref b] below meth c 9 Θ Q9 k n pc (lsL Θ b z a5 a6) rest G := by
  have hC := hx.1
  obtain ⟨d0, d1, d2, d3, d4⟩ := hd
  refine v_aload_n (i := 0) (q := pc + 1) hC d0 rfl rfl rfl ?_
  refine v_iload (q := pc + 3) hC d1 rfl rfl ?_
  refine v_iconst (q := pc + 4) (v := nI j) hC d2 rfl hw ?_
  refine v_iadd (q := pc + 5) hC d3 rfl ?_
  rw [nI_add]
  exact v_sld hx d4 hq hz kk
/-- script[i + j] != 0 -/
theorem v_argB (hx : lCx p l s m meth c b L xs Θ) {z : Nat} {a5 a6 : Option Value} (j : Nat) {w : Int} (hw : Int32.ofInt w = nI j) (hd : (decode cL_law pc = .ok (.aload_n 0, 1) ∧ decode cL_law (pc + 1) = .ok (.iload 4, 2) ∧ decode cL_law (pc + 3) = .ok (.iconst w, 1) ∧ decode cL_law (pc + 4) = .ok (.iadd, 1) ∧ decode cL_law (pc + 5) = .ok (.iaload, 1)) ∧ decode cL_law (pc + 6) = .ok (.ifCond .eq 7, 3) ∧ decode cL_law (pc + 9) = .ok (.iconst 1, 1) ∧ decode cL_law (pc + 10) = .ok (.goto 4, 3) ∧ decode cL_law (pc + 13) = .ok (.iconst 0, 1)) (hq : pc + 14 = q) (hz : z + j < L)
    (kk : VG p l e R s m #[Value.ref b] below meth c 9 Θ Q9 k n q (lsL Θ b z a5 a6) (.int (b2i (!decide (xs (z + j) = 0))) :: rest) G) : VG p l e R s m #[Value.ref b] below meth c 9 Θ Q9 k n pc (lsL Θ b z a5 a6) rest G := by
  have hC := hx.1
  obtain ⟨hd, d6, d9, d10, d13⟩ := hd
  refine v_arg (q := pc + 6) hx j hw hd rfl hz ?_
  refine v_if_eq (q := pc + 13) (q2 := pc + 9) hC d6 (by omega) rfl (fun h0 => ?_) (fun h0 => ?_)
  · refine v_iconst (q := q) (v := 0) hC d13 hq (by decide) ?_
    rw [decide_eq_true h0] at kk
    exact kk
  · refine v_iconst (q := pc + 10) (v := 1) hC d9 rfl (by decide) ?_
    refine v_goto (q := q) hC d10 (by omega) ?_
    rw [decide_eq_false h0] at kk
    exact kk
theorem v_tabN (hC : cC p l s m args meth c cc nL own Θ) {dflt hi : Int} {offs : Array Int} {len N t3 : Nat} {tg : Nat → Nat} {x : Int32} (d : decode cc pc = .ok (.tableswitch dflt 0 hi offs, len)) (hN : hi = (N : Int) - 1) (hT : ∀ j, j < N → (offs[j]?).map (fun off => (pc : Int) + off) = some (tg j : Int)) (h3 : (pc : Int) + dflt = (t3 : Int))
    (kk : ∀ j, j < N → VG p l e R s m args below meth c nL Θ Q9 k n (tg j) LS rest G) (kd : VG p l e R s m args below meth c nL Θ Q9 k n t3 LS rest G) : VG p l e R s m args below meth c nL Θ Q9 k n pc LS (.int x :: rest) G := by
  intro H locs ls hH hS hl
  by_cases h : x.toInt < 0 ∨ hi < x.toInt
  · exact lv_tableOut hC.1 hC.2.1 d h h3 (kd H locs ls hH hS hl)
  · have h1 : ¬ x.toInt < 0 := fun z => h (Or.inl z)
    have h2 : ¬ hi < x.toInt := fun z => h (Or.inr z)
    have hj : (x.toInt - 0).toNat < N := by omega
    obtain ⟨off, ho, ht⟩ := Option.map_eq_some_iff.mp (hT _ hj)
    exact lv_tableIn hC.1 hC.2.1 d h1 h2 ho ht (kk _ hj H locs ls hH hS hl)
/-- a call of the reference: it makes nothing -/
theorem v_callV0 (hC : cC p l s m args meth c cc nL own Θ) {y : MethodName} {cy : ByteArray} {nY na : Nat} {ret : Option FieldType} {rm : Room} {idx r o ci N : Nat} {T : u_T} {fs As : List Value} {Qc : cOut → GS → Prop} (hM : Ct l y cy nY ret rm Θ (.ref (tR Θ r o) :: As) G Qc) (ky : kY y cy nY ret na) (him : Cond.instanceMethod y ∈ wALL) (hse : Cond.selects y.cls y y ∈ wALL) (hml : Cond.methodLink own idx y ∈ wALL) (d : decode cc pc = .ok (.invokevirtual idx, 3)) (hq : pc + 3 = q)
    (hid : okI G.2.2.1 r o = true) (hce : cellS Θ r o (G.1 r o) (G.2.1 r o) G.2.2 = .inr (ci, fs)) (hcl : vwCl[ci]? = some (y.cls, T, N)) (hna : As.length = na) (hst : st = As.reverse ++ .ref (tR Θ r o) :: rest) (hsz : (rest.map fun v => v.category).sum ≤ 8) (hR : rm.frames + 1 ≤ R.frames ∧ 8 + (nY + 11) + rm.locals ≤ R.locals) (h0 : rm.cells = 0 ∧ rm.slots = 0) (hcs : k ≤ R.cells ∧ n ≤ R.slots)
    (kk : ∀ (v : Option Value) (G1 : GS), Qc (.inl v) G1 → VG p l e R s m args below meth c nL Θ Q9 k n q LS (v.toList ++ rest) G1) (kn : ∀ (E : String) (G1 : GS), Qc (.inr E) G1 → False) : VG p l e R s m args below meth c nL Θ Q9 k n pc LS st G :=
  v_callVN hC hM ky him hse hml d hq hid hce hcl hna hst hsz hR (by rw [h0.1, h0.2]; exact hcs) (fun v G1 h => by rw [h0.1, h0.2]; exact kk v G1 h) kn
/-- what a call of a wrapper needs -/
def kH (y : MethodName) (cy : ByteArray) (nY : Nat) (ret : Option FieldType) (hh : List (Nat × Nat × Nat × Nat)) (na : Nat) : Prop := Cond.codeWith y cy nY ret hh ∈ wALL ∧ (y.cls ≠ "java/lang/invoke/MethodHandle" ∧ y.cls ≠ "java/lang/invoke/VarHandle") ∧ (parseMethodDescriptor y.desc).map (fun d => d.parameters.length) = some na ∧ Cond.initialized y.cls ∈ wALL ∧ Cond.static y ∈ wALL
theorem kH_csw (hC : cC p l s m args meth c cc nL own Θ) {y : MethodName} {cy : ByteArray} {nY na : Nat} {ret : Option FieldType} {hh : List (Nat × Nat × Nat × Nat)} {rm : Room} {idx : Nat} (ky : kH y cy nY ret hh na) (hml : Cond.methodLink own idx y ∈ wALL) (hR : rm.frames + 1 ≤ R.frames ∧ 8 + (nY + 11) + rm.locals ≤ R.locals) : vx_CSW R s args own idx y cy nY ret hh (Cond.codeWith y cy nY ret hh :: wALL) rm rm.cells rm.slots na := by
  obtain ⟨h1, h2, h3, h4, h5⟩ := ky
  refine ⟨⟨rfl, rfl, hR.1, hR.2, cC_pay hC h1, List.mem_cons_self⟩, cC_hts hC h1, cC_hts hC h4, h2, fun sig h => ?_, cC_hts hC hml, cC_hts hC h5⟩
  rw [h] at h3
  exact (Option.some.inj h3).symm
theorem v_callSX (hC : cC p l s m args meth c cc nL own Θ) {y : MethodName} {cy : ByteArray} {nY na : Nat} {ret : Option FieldType} {hh : List (Nat × Nat × Nat × Nat)} {rm : Room} {idx : Nat} {As : List Value} {Qc : cOut → GS → Prop} (hM : CtH l y cy nY ret hh rm Θ As G Qc) (ky : kH y cy nY ret hh na) (hml : Cond.methodLink own idx y ∈ wALL) (d : decode cc pc = .ok (.invokestatic idx, 3)) (hq : pc + 3 = q)
    (hna : As.length = na) (hst : st = As.reverse ++ rest) (hsz : (rest.map fun v => v.category).sum ≤ 8) (hR : rm.frames + 1 ≤ R.frames ∧ 8 + (nY + 11) + rm.locals ≤ R.locals) (hb : rm.cells ≤ 15 ∧ rm.slots ≤ 262) (hcs : k + 15 ≤ R.cells ∧ n + 262 ≤ R.slots)
    (kk : ∀ (v : Option Value) (G1 : GS), Qc (.inl v) G1 → VG p l e R s m args below meth c nL Θ Q9 (k + 15) (n + 262) q LS (v.toList ++ rest) G1) (kn : ∀ (E : String) (G1 : GS), Qc (.inr E) G1 → False) : VG p l e R s m args below meth c nL Θ Q9 k n pc LS st G :=
  v_of_runN (a9 := As.toArray) (fun H locs ls hH hS hl => vx_runSX ⟨hC.1, hC.2.1, hC.2.2.1, cC_own hC, hC.2.2.2.2.1⟩ hM (kH_csw hC ky hml hR) ⟨cP_blind, cC_pre hC hH hS⟩ rfl hna hl.1 hst (lv_room hsz) d ⟨by omega, by omega⟩) hq (fun v G1 h => v_widen (by omega) (by omega) (kk v G1 h)) kn
theorem v_callSXS (hC : cC p l s m args meth c cc nL own Θ) (hO : va_AO RX9 s) {y : MethodName} {cy : ByteArray} {nY na : Nat} {ret : Option FieldType} {hh : List (Nat × Nat × Nat × Nat)} {rm : Room} {idx : Nat} {As : List Value} {Qc : cOut → GS → Prop} (hM : CtS l y (.codeWith y cy nY ret hh) rm Θ As G Qc) (ky : kH y cy nY ret hh na) (hml : Cond.methodLink own idx y ∈ wALL) (d : decode cc pc = .ok (.invokestatic idx, 3)) (hq : pc + 3 = q)
    (hna : As.length = na) (hst : st = As.reverse ++ rest) (hsz : (rest.map fun v => v.category).sum ≤ 8) (hR : rm.frames + 1 ≤ R.frames ∧ 8 + (nY + 11) + rm.locals ≤ R.locals) (hb : rm.cells ≤ 15 ∧ rm.slots ≤ 262) (hcs : k + 15 ≤ R.cells ∧ n + 262 ≤ R.slots)
    (kk : ∀ (v : Option Value) (Θ2 : cTH) (G1 : GS), Th Θ Θ2 → Qc (.inl v) G1 → VG p l e R s m args below meth c nL Θ2 Q9 (k + 15) (n + 262) q LS (v.toList ++ rest) G1) (kn : ∀ (E : String) (G1 : GS), Qc (.inr E) G1 → False) : VG p l e R s m args below meth c nL Θ Q9 k n pc LS st G := by
  subst hq
  intro H locs ls hH hS hl T hT X
  have hrun := vx_runSX (p := p) (l := l) (e := e) (R := R) (m := m) (below := below) (meth := meth) (c := c) (locs := locs) (cells := k) (slots := n) (g := F0 m pc ls st) (rest := rest) ⟨hC.1, hC.2.1, hC.2.2.1, cC_own hC, hC.2.2.2.2.1⟩ hM (kH_csw hC ky hml hR) ⟨zP_blind, zC_pre hC hO hH hS⟩ rfl hna hl.1 hst (lv_room hsz) d ⟨by omega, by omega⟩
  rcases hrun T hT X with ⟨v, st₀, t, T', L, h0, X', hL, e1, e2, ⟨⟨r, Θ2, G1, hv, hTh, hp, hb9⟩, hF⟩, sx⟩ | ⟨q, st₀, t, T', L, E, ce, h0, X', hL, e1, e2, ⟨⟨G1, hp, hb9⟩, hF⟩, hce, hcv, hcl, sx⟩
  · injection hv with hv9; subst hv9
    obtain ⟨k1, k2, k3⟩ := vx_keep h0 e1 hS (fun _ _ h => h) (fun _ h => h) hL hF
    obtain ⟨t2, a1, b1⟩ := v_widen (k2 := k + 15) (n2 := n + 262) (by omega) (by omega) (kk _ Θ2 G1 hTh hp) T'.heap (locs ++ L) ls (by rw [e1]; exact hb9) (hTh.S k3) hl T' rfl X'
    exact ⟨t2, sx t2 a1, b1⟩
  · exact (kn E G1 hp).elim
end LAWROWS
/-! how a call ends: the number of the throw, the answer, the world -/
theorem mem1 {a E : String} (h : E ∈ [a]) : E = a := List.mem_singleton.mp h
theorem mem2 {a b E : String} (h : E ∈ [a, b]) : E = a ∨ E = b := by
  rcases List.mem_cons.mp h with h | h
  · exact Or.inl h
  · exact Or.inr (mem1 h)
theorem mem3 {a b c E : String} (h : E ∈ [a, b, c]) : E = a ∨ E = b ∨ E = c := by
  rcases List.mem_cons.mp h with h | h
  · exact Or.inl h
  · exact Or.inr (mem2 h)
theorem cd1 {a : String} : ∀ E ∈ [a], ¬ cdE [a] 1 E = 0 := by
  intro E h
  rw [mem1 h]
  simp only [cdE, if_pos]
  decide
theorem cd2 {a b : String} : ∀ E ∈ [a, b], ¬ cdE [a, b] 1 E = 0 := by
  intro E h
  simp only [cdE]
  by_cases h1 : E = a
  · rw [if_pos h1]; decide
  · rw [if_neg h1]
    by_cases h2 : E = b
    · rw [if_pos h2]; decide
    · rw [if_neg h2]; decide
theorem cd3 {a b c : String} : ∀ E ∈ [a, b, c], ¬ cdE [a, b, c] 1 E = 0 := by
  intro E h
  simp only [cdE]
  by_cases h1 : E = a
  · rw [if_pos h1]; decide
  · rw [if_neg h1]
    by_cases h2 : E = b
    · rw [if_pos h2]; decide
    · rw [if_neg h2]
      by_cases h3 : E = c
      · rw [if_pos h3]; decide
      · rw [if_neg h3]; decide
theorem wQ_no {f : Int32 → Int64} {cs : List String} {Qc : cOut → GS → Prop} : ∀ (E : String) (G1 : GS), wQ f cs Qc (.inr E) G1 → False := by
  rintro E G1 (⟨_, _, _, h, _⟩ | ⟨_, _, _, h, _⟩) <;> cases h
theorem OpI.v {G : GS} {f : Int32 → Int64} {cs : List String} {Qc : cOut → GS → Prop} {Qm : GS → cOut → GS → Prop} {t : Nat} (h : OpI G f cs Qc Qm t) : ∀ r G1, Qc (.inl r) G1 → ∃ x : Int32, r = some (.int x) := fun r G1 h1 => by
  obtain ⟨x, e, _⟩ := h.1 r G1 h1
  exact ⟨x, e⟩
theorem OpI.out {G : GS} {f : Int32 → Int64} {cs : List String} {Qc : cOut → GS → Prop} {Qm : GS → cOut → GS → Prop} {t : Nat} (h : OpI G f cs Qc Qm t) (hcs : ∀ E ∈ cs, ¬ cdE cs 1 E = 0) {v : Option Value} {G1 : GS} (hw : wQ f cs Qc (.inl v) G1) : ∃ kv : Int32, v = some (.int kv) ∧ AgC G G1 ∧ ∀ o2 G2, Qm G1 o2 G2 → ∃ y : Int32, o2 = .inl (some (.int y)) ∧ G2.1 0 29 5 = kv ∧ (kv = 0 → G2.2.2.2 = f y) ∧ Sim G2 t := by
  rcases hw with ⟨x, G9, h1, e1, rfl⟩ | ⟨E, G9, h1, e1, rfl⟩
  · cases e1
    obtain ⟨x2, e2, hA, h2⟩ := h.1 _ _ h1
    cases e2
    refine ⟨0, rfl, hA, fun o2 G2 h3 => ?_⟩
    obtain ⟨y, e3, e4, e5, e6, e7⟩ := h2 o2 G2 h3
    exact ⟨y, e3, e6, fun _ => e5.trans e4.symm, e7⟩
  · cases e1
    obtain ⟨hE, hA, h2⟩ := h.2 _ _ h1
    refine ⟨_, rfl, hA, fun o2 G2 h3 => ?_⟩
    obtain ⟨y, e3, e4, e5⟩ := h2 o2 G2 h3
    exact ⟨y, e3, e4, fun z => absurd z (hcs E hE), e5⟩
theorem lg_cmp_same (x : Int64) : lg_cmp x x = 0 := by
  unfold lg_cmp
  rw [if_neg (by simp), if_pos rfl]
def tlD (pc : Nat) : Prop := decode cL_law pc = .ok (.istore 6, 2) ∧ decode cL_law (pc + 2) = .ok (.aload_n 2, 1) ∧ decode cL_law (pc + 3) = .ok (.invokevirtual 201, 3) ∧ decode cL_law (pc + 6) = .ok (.iload 5, 2) ∧ decode cL_law (pc + 8) = .ok (.if_icmp .eq 5, 3) ∧ decode cL_law (pc + 13) = .ok (.iload 5, 2)
theorem ls_none {Θ : cTH} {b z : Nat} {a5 a6 : Option Value} {i : Nat} {v : Value} (h : (lsL Θ b z none none)[i]? = some (some v)) : (lsL Θ b z a5 a6)[i]? = some (some v) := by
  match i, h with
  | 0, h => exact h
  | 1, h => exact h
  | 2, h => exact h
  | 3, h => exact h
  | 4, h => exact h
  | 5, h => cases h
  | 6, h => cases h
  | 7, h => cases h
  | 8, h => cases h
  | i + 9, h => cases h
section TAILS
variable {p : Program} {l : Launch} {e : Env} {s : State} {m : MethodId} {below : List Frame} {meth : Method} {c : Code} {Θ : cTH} {Q9 : State → Prop} {k n pc z b L : Nat} {xs : Nat → Int32} {G : GS} {kv y : Int32}
set_option maxHeartbeats 1000000 in
theorem law_tailA (hx : lCx p l s m meth c b L xs Θ) (hd : tlD pc) (hk5 : G.1 0 29 5 = kv) (hcs : k ≤ 601024 ∧ n ≤ 7293034)
    (kk : VG p l e room_1 s m #[Value.ref b] below meth c 9 Θ Q9 k n (pc + 15) (lsL Θ b z (some (.int kv)) (some (.int y))) [.int kv] G) : VG p l e room_1 s m #[Value.ref b] below meth c 9 Θ Q9 k n pc (lsL Θ b z (some (.int kv)) none) [.int y] G := by
  have hC := hx.1
  obtain ⟨d0, d2, d3, d6, d8, d13⟩ := hd
  refine v_istore (q := pc + 2) hC d0 rfl (lvc rfl) (Nat.le_of_ble_eq_true rfl) (Nat.le_of_ble_eq_true rfl) rfl ?_
  refine v_aload_n (i := 2) (q := pc + 3) hC d2 rfl rfl rfl ?_
  refine v_callV0 (q := pc + 6) (rm := rm_X12_thrown) hC (c_X12_thrown hx.2.2.2.2 Θ G) k_X12_thrown im_yX12_thrown se_yX12_thrown ml_RL_201 d3 rfl rfl rfl rfl rfl rfl (Nat.le_of_ble_eq_true rfl) ⟨Nat.le_of_ble_eq_true rfl, Nat.le_of_ble_eq_true rfl⟩ ⟨rfl, rfl⟩ hcs (fR_k ?_) (fun _ _ z => by cases z.1)
  dsimp only [Option.toList, List.cons_append, List.nil_append]
  refine v_iload (q := pc + 8) hC d6 rfl rfl ?_
  refine v_icmp_eq (q := pc + 13) (q2 := pc + 11) hC d8 (by omega) rfl (fun _ => ?_) (fun h => absurd hk5 h)
  exact v_iload (q := pc + 15) hC d13 rfl rfl kk
set_option maxHeartbeats 1000000 in
theorem law_tailI (hx : lCx p l s m meth c b L xs Θ) {off : Int} (hd : tlD pc ∧ decode cL_law (pc + 15) = .ok (.ifCond .ne 15, 3) ∧ decode cL_law (pc + 18) = .ok (.aload_n 3, 1) ∧ decode cL_law (pc + 19) = .ok (.iconst 0, 1) ∧ decode cL_law (pc + 20) = .ok (.laload, 1) ∧ decode cL_law (pc + 21) = .ok (.iload 6, 2) ∧ decode cL_law (pc + 23) = .ok (.i2l, 1) ∧ decode cL_law (pc + 24) = .ok (.lcmp, 1) ∧ decode cL_law (pc + 25) = .ok (.ifCond .eq 5, 3) ∧ decode cL_law (pc + 30) = .ok (.goto off, 3)) (ho : ((pc + 30 : Nat) : Int) + off = ((4427 : Nat) : Int)) (hk5 : G.1 0 29 5 = kv) (hout : kv = 0 → G.2.2.2 = fI y) (hcs : k ≤ 601024 ∧ n ≤ 7293034)
    (kk : VG p l e room_1 s m #[Value.ref b] below meth c 9 Θ Q9 k n 4427 (lsL Θ b z none none) [] G) : VG p l e room_1 s m #[Value.ref b] below meth c 9 Θ Q9 k n pc (lsL Θ b z (some (.int kv)) none) [.int y] G := by
  have hC := hx.1
  obtain ⟨hd, d15, d18, d19, d20, d21, d23, d24, d25, d30⟩ := hd
  have kk2 : VG p l e room_1 s m #[Value.ref b] below meth c 9 Θ Q9 k n (pc + 30) (lsL Θ b z (some (.int kv)) (some (.int y))) [] G := v_goto (q := 4427) hC d30 ho (v_sub (fun i v h => ls_none h) kk)
  refine law_tailA hx hd hk5 hcs ?_
  refine v_if_ne (q := pc + 30) (q2 := pc + 18) hC d15 (by omega) rfl (fun _ => kk2) (fun h0 => ?_)
  refine v_aload_n (i := 3) (q := pc + 19) hC d18 rfl rfl rfl ?_
  refine v_iconst (q := pc + 20) (v := 0) hC d19 rfl (by decide) ?_
  refine v_laldO (q := pc + 21) hC d20 rfl ?_
  refine v_iload (q := pc + 23) hC d21 rfl rfl ?_
  refine v_i2l (q := pc + 24) hC d23 rfl ?_
  refine v_lcmp (q := pc + 25) hC d24 rfl ?_
  refine v_if_eq (q := pc + 30) (q2 := pc + 28) hC d25 (by omega) rfl (fun _ => kk2) (fun h => absurd ?_ h)
  rw [hout h0]
  exact lg_cmp_same _
set_option maxHeartbeats 1000000 in
theorem law_tailZ (hx : lCx p l s m meth c b L xs Θ) {off : Int} (hd : tlD pc ∧ decode cL_law (pc + 15) = .ok (.ifCond .ne 22, 3) ∧ decode cL_law (pc + 18) = .ok (.aload_n 3, 1) ∧ decode cL_law (pc + 19) = .ok (.iconst 0, 1) ∧ decode cL_law (pc + 20) = .ok (.laload, 1) ∧ decode cL_law (pc + 21) = .ok (.iload 6, 2) ∧ decode cL_law (pc + 23) = .ok (.ifCond .eq 7, 3) ∧ decode cL_law (pc + 26) = .ok (.lconst 1, 1) ∧ decode cL_law (pc + 27) = .ok (.goto 4, 3) ∧ decode cL_law (pc + 30) = .ok (.lconst 0, 1) ∧ decode cL_law (pc + 31) = .ok (.lcmp, 1) ∧ decode cL_law (pc + 32) = .ok (.ifCond .eq 5, 3) ∧ decode cL_law (pc + 37) = .ok (.goto off, 3)) (ho : ((pc + 37 : Nat) : Int) + off = ((4427 : Nat) : Int)) (hk5 : G.1 0 29 5 = kv) (hout : kv = 0 → G.2.2.2 = fZ y) (hcs : k ≤ 601024 ∧ n ≤ 7293034)
    (kk : VG p l e room_1 s m #[Value.ref b] below meth c 9 Θ Q9 k n 4427 (lsL Θ b z none none) [] G) : VG p l e room_1 s m #[Value.ref b] below meth c 9 Θ Q9 k n pc (lsL Θ b z (some (.int kv)) none) [.int y] G := by
  have hC := hx.1
  obtain ⟨hd, d15, d18, d19, d20, d21, d23, d26, d27, d30, d31, d32, d37⟩ := hd
  have kk2 : VG p l e room_1 s m #[Value.ref b] below meth c 9 Θ Q9 k n (pc + 37) (lsL Θ b z (some (.int kv)) (some (.int y))) [] G := v_goto (q := 4427) hC d37 ho (v_sub (fun i v h => ls_none h) kk)
  refine law_tailA hx hd hk5 hcs ?_
  refine v_if_ne (q := pc + 37) (q2 := pc + 18) hC d15 (by omega) rfl (fun _ => kk2) (fun h0 => ?_)
  refine v_aload_n (i := 3) (q := pc + 19) hC d18 rfl rfl rfl ?_
  refine v_iconst (q := pc + 20) (v := 0) hC d19 rfl (by decide) ?_
  refine v_laldO (q := pc + 21) hC d20 rfl ?_
  refine v_iload (q := pc + 23) hC d21 rfl rfl ?_
  have fin : ∀ w : Int64, w = fZ y → VG p l e room_1 s m #[Value.ref b] below meth c 9 Θ Q9 k n (pc + 31) (lsL Θ b z (some (.int kv)) (some (.int y))) [.long w, .long G.2.2.2] G := fun w hw => by
    refine v_lcmp (q := pc + 32) hC d31 rfl ?_
    refine v_if_eq (q := pc + 37) (q2 := pc + 35) hC d32 (by omega) rfl (fun _ => kk2) (fun h => absurd ?_ h)
    rw [hout h0, hw]
    exact lg_cmp_same _
  refine v_if_eq (q := pc + 30) (q2 := pc + 26) hC d23 (by omega) rfl (fun h => ?_) (fun h => ?_)
  · refine v_lconst (q := pc + 31) (v := 0) hC d30 rfl (by decide) ?_
    exact fin 0 (by unfold fZ; rw [if_pos h])
  · refine v_lconst (q := pc + 27) (v := 1) hC d26 rfl (by decide) ?_
    refine v_goto (q := pc + 31) hC d27 (by omega) ?_
    exact fin 1 (by unfold fZ; rw [if_neg h])
end TAILS
