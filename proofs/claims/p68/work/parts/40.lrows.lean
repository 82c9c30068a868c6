/-! The rows that the law needs beside the class's: calls that never throw, handlers, longs, rows that are made on the way. -/
theorem lvH_set2 {ls : Array Slot} {nL : Nat} {LS : List (Option Value)} {i : Nat} {v : Value} (hc : lvC LS i) (h1 : LS[i + 1]? = some none) (h : lv_has ls nL ((i, v) :: (lvL 0 LS).filter (fun q => !(q.1 == i) && (!(q.1 == i + 1) && !(q.1 + 1 == i && q.2.category == 2))))) (hi : i < LS.length) : lvH ls nL (LS.set i (some v)) := by
  refine ⟨h.1, h.2.1, ?_⟩
  rintro ⟨j, w⟩ hq
  have hw := (lvL_mem.mp hq).2
  rw [Nat.sub_zero] at hw
  refine h.2.2 (j, w) ?_
  by_cases hj : j = i
  · subst hj
    rw [List.getElem?_set_self hi] at hw
    cases hw
    exact List.mem_cons_self
  · rw [List.getElem?_set_ne (fun z => hj z.symm)] at hw
    have hj1 : ¬ j = i + 1 := fun z => by rw [z, h1] at hw; cases hw
    refine List.mem_cons_of_mem _ (List.mem_filter.mpr ⟨lvL_mem.mpr ⟨Nat.zero_le _, by simpa using hw⟩, ?_⟩)
    have e1 : (j == i) = false := beq_eq_false_iff_ne.mpr hj
    have e3 : (j == i + 1) = false := beq_eq_false_iff_ne.mpr hj1
    have e2 : ((j + 1 == i) && (w.category == 2)) = false := by
      by_cases h3 : j + 1 = i
      · have h4 : w.category ≠ 2 := hc w (by rw [show i - 1 = j by omega]; exact hw) (by omega)
        rw [beq_eq_false_iff_ne.mpr h4, Bool.and_false]
      · rw [beq_eq_false_iff_ne.mpr h3, Bool.false_and]
    simp only [e1, e2, e3]; rfl
theorem cell_extL {cA : ClassId} {n : Nat} {f g : Nat → Int64} (h : ∀ j, j < n → f j = g j) : vp_cell cA (n, .inr (.inl f)) = vp_cell cA (n, .inr (.inl g)) := by
  rw [vp_cell_l, vp_cell_l]
  unfold arrV
  have e : (Array.ofFn (n := n) fun j => Value.long (f j.val)) = Array.ofFn (n := n) fun j => Value.long (g j.val) := by
    congr 1
    funext j
    rw [h j.val j.isLt]
  rw [e]
theorem va_P_extL {D : va_G} {cl : List vw_C} {ws : va_W} {H : Heap} (h : va_P D cl ws H) {k n a : Nat} {cA : ClassId} {f g : Nat → Int64} (hk : ws[k]? = some (a, .inl (cA, n, .inr (.inl f)))) (hfg : ∀ j, j < n → f j = g j) : va_P D cl (ws.set k (a, .inl (cA, n, .inr (.inl g)))) H := by
  intro i q hq
  by_cases hi : i = k
  · subst hi
    have hlt : i < ws.length := (List.getElem?_eq_some_iff.mp hk).1
    rw [List.getElem?_set_self hlt] at hq
    cases hq
    have h1 := h i _ hk
    show H[a]? = some (vp_cell cA (n, .inr (.inl g)))
    rw [← cell_extL hfg]
    exact h1
  · rw [List.getElem?_set_ne (fun z => hi z.symm)] at hq
    exact h i q hq
theorem split_at9 {α : Type} : ∀ (l : List α) (i : Nat) (x : α), l[i]? = some x → l = l.take i ++ x :: l.drop (i + 1) := by
  intro l
  induction l with
  | nil => intro i x h; simp at h
  | cons a t ih =>
    intro i x h
    cases i with
    | zero => simp at h; subst h; rfl
    | succ i =>
      simp at h
      have h2 := ih i x h
      show a :: t = a :: (t.take i ++ x :: t.drop (i + 1))
      rw [← h2]
def setO (G : GS) (v : Int64) : GS := (G.1, G.2.1, G.2.2.1, v)
section LR1
variable {p : Program} {l : Launch} {e : Env} {R : Room} {s : State} {m : MethodId} {args : Array Value} {below : List Frame} {meth : Method} {c : Code} {cc : ByteArray} {nL : Nat} {own : String} {Θ Θ2 : cTH} {Qp : cOut → GS → Prop} {Q9 : State → Prop} {mc ms2 k n k2 n2 pc q q2 : Nat} {LS LS2 : List (Option Value)} {st rest : List Value} {G : GS}
theorem v_widen (h1 : k ≤ k2) (h2 : n ≤ n2) (kk : VG p l e R s m args below meth c nL Θ Q9 k2 n2 pc LS st G) : VG p l e R s m args below meth c nL Θ Q9 k n pc LS st G :=
  fun H locs ls hH hS hl => W.widen h1 h2 (kk H locs ls hH hS hl)
theorem v_sub (h : ∀ (i : Nat) (v : Value), LS2[i]? = some (some v) → LS[i]? = some (some v)) (kk : VG p l e R s m args below meth c nL Θ Q9 k n pc LS2 st G) : VG p l e R s m args below meth c nL Θ Q9 k n pc LS st G :=
  fun H locs ls hH hS hl => kk H locs ls hH hS (lvH_sub hl h)
theorem v_lcmp (hC : cC p l s m args meth c cc nL own Θ) {x y : Int64} (d : decode cc pc = .ok (.lcmp, 1)) (hq : pc + 1 = q) (kk : VG p l e R s m args below meth c nL Θ Q9 k n q LS (.int (lg_cmp x y) :: rest) G) : VG p l e R s m args below meth c nL Θ Q9 k n pc LS (.long y :: .long x :: rest) G := by
  subst hq; exact v_lift0 (fun H locs ls Q w => W.lcmp hC.1 hC.2.1 d w) kk
theorem v_dcmp (hC : cC p l s m args meth c cc nL own Θ) {x y : UInt64} {op : CmpOp} (d : decode cc pc = .ok (.dcmp op, 1)) (hq : pc + 1 = q) (kk : VG p l e R s m args below meth c nL Θ Q9 k n q LS (.int (Op.cmpValue (FP.dcmp x y) op) :: rest) G) : VG p l e R s m args below meth c nL Θ Q9 k n pc LS (.double y :: .double x :: rest) G := by
  subst hq; exact v_lift0 (fun H locs ls Q w => lv_dcmp hC.1 hC.2.1 d w) kk
theorem v_ialdN (hC : cC p l s m args meth c cc nL own Θ) {r o N i : Nat} {x : Int32} {f : Nat → Int32} (d : decode cc pc = .ok (.iaload, 1)) (hq : pc + 1 = q) (hid : okI G.2.2.1 r o = true) (hce : cellS Θ r o (G.1 r o) (G.2.1 r o) G.2.2 = .inl (tI Θ, N, .inl f)) (hx : x = nI i) (hi : i < N) (hN : N < 2 ^ 31)
    (kk : VG p l e R s m args below meth c nL Θ Q9 k n q LS (.int (G.2.1 r o i) :: rest) G) (hf : f = G.2.1 r o := by rfl) : VG p l e R s m args below meth c nL Θ Q9 k n pc LS (.int x :: .ref (tR Θ r o) :: rest) G := by
  subst hx
  refine v_iald hC d hq hid hce (vp_in_nI hi hN) ?_ hf
  rw [nI_clamp (Nat.lt_trans hi hN)]
  exact kk
theorem v_iastN (hC : cC p l s m args meth c cc nL own Θ) {r o N i : Nat} {x v : Int32} (d : decode cc pc = .ok (.iastore, 1)) (hq : pc + 1 = q) (hid : okI G.2.2.1 r o = true) (hce : ∀ a : Nat → Int32, cellS Θ r o (G.1 r o) a G.2.2 = .inl (tI Θ, N, .inl a)) (hx : x = nI i) (hi : i < N) (hN : N < 2 ^ 31)
    (kk : VG p l e R s m args below meth c nL Θ Q9 k n q LS rest (putA G r o (upd (G.2.1 r o) i v))) : VG p l e R s m args below meth c nL Θ Q9 k n pc LS (.int v :: .int x :: .ref (tR Θ r o) :: rest) G := by
  subst hx
  refine v_iast hC d hq hid hce (vp_in_nI hi hN) ?_
  rw [nI_clamp (Nat.lt_trans hi hN)]
  exact kk
theorem v_of_runN {mc1 ms1 : Nat} {a9 : Array Value} {Qc : cOut → GS → Prop} (hrun : ∀ (H : Heap) (locs : List Loc) (ls : Array Slot), cG Θ G H → va_S (tA Θ) s.heap H locs → lvH ls nL LS → vx_Run p l e R s m args below meth c H locs k n mc1 ms1 (F0 m pc ls st) rest (cQ Θ Qc a9) (cX Θ Qc) (tA Θ)) (hq : pc + 3 = q)
    (kk : ∀ (r : Option Value) (G1 : GS), Qc (.inl r) G1 → VG p l e R s m args below meth c nL Θ Q9 (k + mc1) (n + ms1) q LS (r.toList ++ rest) G1) (kn : ∀ (E : String) (G1 : GS), Qc (.inr E) G1 → False) : VG p l e R s m args below meth c nL Θ Q9 k n pc LS st G := by
  subst hq
  intro H locs ls hH hS hl T hT X
  rcases hrun H locs ls hH hS hl T hT X with ⟨v, st₀, t, T', L, h0, X', hL, e1, e2, ⟨⟨r, G1, hv, hp, hb⟩, hF⟩, sx⟩ | ⟨q, st₀, t, T', L, E, ce, h0, X', hL, e1, e2, ⟨⟨G1, hp, hb⟩, hF⟩, hce, hcv, hcl, sx⟩
  · injection hv with hv9; subst hv9
    obtain ⟨k1, k2, k3⟩ := vx_keep h0 e1 hS (fun _ _ h => h) (fun _ h => h) hL hF
    obtain ⟨t2, a1, b1⟩ := kk _ G1 hp T'.heap (locs ++ L) ls (by rw [e1]; exact hb) k3 hl T' rfl X'
    exact ⟨t2, sx t2 a1, b1⟩
  · exact (kn E G1 hp).elim
theorem v_callVN (hC : cC p l s m args meth c cc nL own Θ) {y : MethodName} {cy : ByteArray} {nY na : Nat} {ret : Option FieldType} {rm : Room} {idx r o ci N : Nat} {T : u_T} {fs As : List Value} {Qc : cOut → GS → Prop} (hM : Ct l y cy nY ret rm Θ (.ref (tR Θ r o) :: As) G Qc) (ky : kY y cy nY ret na) (him : Cond.instanceMethod y ∈ wALL) (hse : Cond.selects y.cls y y ∈ wALL) (hml : Cond.methodLink own idx y ∈ wALL) (d : decode cc pc = .ok (.invokevirtual idx, 3)) (hq : pc + 3 = q)
    (hid : okI G.2.2.1 r o = true) (hce : cellS Θ r o (G.1 r o) (G.2.1 r o) G.2.2 = .inr (ci, fs)) (hcl : vwCl[ci]? = some (y.cls, T, N)) (hna : As.length = na) (hst : st = As.reverse ++ .ref (tR Θ r o) :: rest) (hsz : (rest.map fun v => v.category).sum ≤ 8) (hR : rm.frames + 1 ≤ R.frames ∧ 8 + (nY + 11) + rm.locals ≤ R.locals) {c1 s1 : Nat} (hc1 : rm.cells = c1) (hs1 : rm.slots = s1) (hcs : k + c1 ≤ R.cells ∧ n + s1 ≤ R.slots)
    (kk : ∀ (v : Option Value) (G1 : GS), Qc (.inl v) G1 → VG p l e R s m args below meth c nL Θ Q9 (k + c1) (n + s1) q LS (v.toList ++ rest) G1) (kn : ∀ (E : String) (G1 : GS), Qc (.inr E) G1 → False) : VG p l e R s m args below meth c nL Θ Q9 k n pc LS st G := by
  subst hc1; subst hs1
  refine v_of_runN (a9 := (Value.ref (tR Θ r o) :: As).toArray) (fun H locs ls hH hS hl => ?_) hq kk kn
  obtain ⟨k9, -, hk9⟩ := cW_get Θ G hid
  rw [hce] at hk9
  exact vx_runV ⟨hC.1, hC.2.1, hC.2.2.1, cC_own hC, hC.2.2.2.2.1⟩ hM ⟨kY_callB hC ky hml hR, cC_hts hC him, cC_hts hC hse⟩ ⟨cP_blind, va_recv (cC_K hC) hH.1 hcl hk9, cC_pre hC hH hS⟩ rfl hna hl.1 hst (lv_room hsz) d hcs
theorem v_ialdV (hC : cC p l s m args meth c cc nL own Θ) {r o N i : Nat} {x v : Int32} {f : Nat → Int32} (d : decode cc pc = .ok (.iaload, 1)) (hq : pc + 1 = q) (hid : okI G.2.2.1 r o = true) (hce : cellS Θ r o (G.1 r o) (G.2.1 r o) G.2.2 = .inl (tI Θ, N, .inl f)) (hx : x = nI i) (hi : i < N) (hN : N < 2 ^ 31) (hv : G.2.1 r o i = v)
    (kk : VG p l e R s m args below meth c nL Θ Q9 k n q LS (.int v :: rest) G) (hf : f = G.2.1 r o := by rfl) : VG p l e R s m args below meth c nL Θ Q9 k n pc LS (.int x :: .ref (tR Θ r o) :: rest) G := by
  subst hv
  exact v_ialdN hC d hq hid hce hx hi hN kk hf
theorem v_astore (hC : cC p l s m args meth c cc nL own Θ) {i : Nat} {x : Nat} {LS2 : List (Option Value)} (d : decode cc pc = .ok (.astore i, 2)) (hq : pc + 2 = q) (hc : lvC LS i) (hn : i < nL) (hi2 : i < LS.length) (h2 : LS.set i (some (.ref x)) = LS2) (kk : VG p l e R s m args below meth c nL Θ Q9 k n q LS2 rest G) : VG p l e R s m args below meth c nL Θ Q9 k n pc LS (.ref x :: rest) G := by
  subst hq; subst h2; exact v_lift (fun H locs ls Q hl w => lv_astore hC.1 hC.2.1 d hl hn rfl (fun ls2 h9 => w ls2 (lvH_set hc h9 hi2))) kk
theorem v_i2l (hC : cC p l s m args meth c cc nL own Θ) {x : Int32} (d : decode cc pc = .ok (.i2l, 1)) (hq : pc + 1 = q) (kk : VG p l e R s m args below meth c nL Θ Q9 k n q LS (.long x.toInt64 :: rest) G) : VG p l e R s m args below meth c nL Θ Q9 k n pc LS (.int x :: rest) G := by
  subst hq; exact v_lift0 (fun H locs ls Q w => lv_i2l hC.1 hC.2.1 d rfl w) kk
theorem v_lconst (hC : cC p l s m args meth c cc nL own Θ) {z : Fin 2} {v : Int64} (d : decode cc pc = .ok (.lconst z, 1)) (hq : pc + 1 = q) (hv : Int64.ofNat (z : Nat) = v) (kk : VG p l e R s m args below meth c nL Θ Q9 k n q LS (.long v :: rest) G) : VG p l e R s m args below meth c nL Θ Q9 k n pc LS rest G := by
  subst hq; exact v_lift0 (fun H locs ls Q w => lv_lconst hC.1 hC.2.1 d hv w) kk
theorem v_of_runT (hC : cC p l s m args meth c cc nL RL Θ) {hh : List (Nat × Nat × Nat × Nat)} (hT : c.exceptionTable.toList = tableOf hh) {mc1 ms1 : Nat} {a9 : Array Value} {Qc : cOut → GS → Prop} (hrun : ∀ (H : Heap) (locs : List Loc) (ls : Array Slot), cG Θ G H → va_S (tA Θ) s.heap H locs → lvH ls nL LS → vx_Run p l e R s m args below meth c H locs k n mc1 ms1 (F0 m pc ls st) rest (cQ Θ Qc a9) (cX Θ Qc) (tA Θ)) (hq : pc + 3 = q)
    (kk : ∀ (r : Option Value) (G1 : GS), Qc (.inl r) G1 → VG p l e R s m args below meth c nL Θ Q9 (k + mc1) (n + ms1) q LS (r.toList ++ rest) G1)
    (kx : ∀ (E : String) (G1 : GS), Qc (.inr E) G1 → ∃ (i : Nat) (x : ExceptionTableEntry) (nm : String), (tableOf hh)[i]? = some x ∧ (∀ z ∈ (tableOf hh).take i, covers z pc = false ∨ (z.catchType ≠ 0 ∧ ∃ nm : String, Cond.classLink RL z.catchType nm ∈ wALL ∧ (E, nm) ∈ ncW)) ∧ covers x pc = true ∧ x.catchType ≠ 0 ∧ Cond.classLink RL x.catchType nm ∈ wALL ∧ Cond.castable E nm ∈ excW ∧ ∀ q9 : Nat, VG p l e R s m args below meth c nL Θ Q9 (k + mc1) (n + ms1) x.handlerPc LS [.ref q9] G1) : VG p l e R s m args below meth c nL Θ Q9 k n pc LS st G := by
  subst hq
  intro H locs ls hH hS hl T hT9 X
  rcases hrun H locs ls hH hS hl T hT9 X with ⟨v, st₀, t, T', L, h0, X', hL, e1, e2, ⟨⟨r, G1, hv, hp, hb⟩, hF⟩, sx⟩ | ⟨q, st₀, t, T', L, E, ce, h0, X', hL, e1, e2, ⟨⟨G1, hp, hb⟩, hF⟩, hce, hcv, hcl, sx⟩
  · injection hv with hv9; subst hv9
    obtain ⟨k1, k2, k3⟩ := vx_keep h0 e1 hS (fun _ _ h => h) (fun _ h => h) hL hF
    obtain ⟨t2, a1, b1⟩ := kk _ G1 hp T'.heap (locs ++ L) ls (by rw [e1]; exact hb) k3 hl T' rfl X'
    exact ⟨t2, sx t2 a1, b1⟩
  · obtain ⟨k1, k2, k3⟩ := vx_keep h0 e1 hS (fun _ _ h => h) (fun _ h => h) hL hF
    obtain ⟨i, x, nm, y1, y2, y3, y4, y5, y6, y7⟩ := kx E G1 hp
    have hcast : (Cond.castable E nm).before args s = true := va_Nw.use (excW_ot _ y6) (hC.2.2.2.2.2.2.1.2.2.1 _ y6)
    obtain ⟨t2, a1, b1⟩ := (vx_catch (cC_own hC) _ x _ (by rw [hT]; exact split_at9 _ i x y1) (fun z hz => by
      rcases y2 z hz with h | ⟨h3, nm2, h4, h5⟩
      · exact Or.inl h
      · exact Or.inr ⟨h3, nm2, cC_hts hC h4, hC.2.2.2.2.2.2.1.2.2.2.2.2 _ h5⟩) y3 y4 (cC_hts hC y5) hcast (by rw [e1]; exact hce) hcv hcl (y7 q T'.heap (locs ++ L) ls (by rw [e1]; exact hb) k3 hl)) T' rfl X'
    exact ⟨t2, sx.trans a1, b1⟩
theorem v_callTry (hC : cC p l s m args meth c cc nL RL Θ) {hh : List (Nat × Nat × Nat × Nat)} (hT : c.exceptionTable.toList = tableOf hh) {y : MethodName} {cy : ByteArray} {nY na : Nat} {ret : Option FieldType} {rm : Room} {idx r o ci N : Nat} {T : u_T} {fs As : List Value} {Qc : cOut → GS → Prop} (hM : Ct l y cy nY ret rm Θ (.ref (tR Θ r o) :: As) G Qc) (ky : kY y cy nY ret na) (him : Cond.instanceMethod y ∈ wALL) (hse : Cond.selects y.cls y y ∈ wALL) (hml : Cond.methodLink RL idx y ∈ wALL) (d : decode cc pc = .ok (.invokevirtual idx, 3)) (hq : pc + 3 = q)
    (hid : okI G.2.2.1 r o = true) (hce : cellS Θ r o (G.1 r o) (G.2.1 r o) G.2.2 = .inr (ci, fs)) (hcl : vwCl[ci]? = some (y.cls, T, N)) (hna : As.length = na) (hst : st = As.reverse ++ .ref (tR Θ r o) :: rest) (hsz : (rest.map fun v => v.category).sum ≤ 8) (hR : rm.frames + 1 ≤ R.frames ∧ 8 + (nY + 11) + rm.locals ≤ R.locals) (hcs : k + rm.cells ≤ R.cells ∧ n + rm.slots ≤ R.slots)
    (kk : ∀ (r : Option Value) (G1 : GS), Qc (.inl r) G1 → VG p l e R s m args below meth c nL Θ Q9 (k + rm.cells) (n + rm.slots) q LS (r.toList ++ rest) G1)
    (kx : ∀ (E : String) (G1 : GS), Qc (.inr E) G1 → ∃ (i : Nat) (x : ExceptionTableEntry) (nm : String), (tableOf hh)[i]? = some x ∧ (∀ z ∈ (tableOf hh).take i, covers z pc = false ∨ (z.catchType ≠ 0 ∧ ∃ nm : String, Cond.classLink RL z.catchType nm ∈ wALL ∧ (E, nm) ∈ ncW)) ∧ covers x pc = true ∧ x.catchType ≠ 0 ∧ Cond.classLink RL x.catchType nm ∈ wALL ∧ Cond.castable E nm ∈ excW ∧ ∀ q9 : Nat, VG p l e R s m args below meth c nL Θ Q9 (k + rm.cells) (n + rm.slots) x.handlerPc LS [.ref q9] G1) : VG p l e R s m args below meth c nL Θ Q9 k n pc LS st G := by
  refine v_of_runT hC hT (a9 := (Value.ref (tR Θ r o) :: As).toArray) (fun H locs ls hH hS hl => ?_) hq kk kx
  obtain ⟨k9, -, hk9⟩ := cW_get Θ G hid
  rw [hce] at hk9
  exact vx_runV ⟨hC.1, hC.2.1, hC.2.2.1, cC_own hC, hC.2.2.2.2.1⟩ hM ⟨kY_callB hC ky hml hR, cC_hts hC him, cC_hts hC hse⟩ ⟨cP_blind, va_recv (cC_K hC) hH.1 hcl hk9, cC_pre hC hH hS⟩ rfl hna hl.1 hst (lv_room hsz) d hcs
def kH (y : MethodName) (cy : ByteArray) (nY : Nat) (ret : Option FieldType) (hh : List (Nat × Nat × Nat × Nat)) (na : Nat) : Prop := Cond.codeWith y cy nY ret hh ∈ wALL ∧ (y.cls ≠ "java/lang/invoke/MethodHandle" ∧ y.cls ≠ "java/lang/invoke/VarHandle") ∧ (parseMethodDescriptor y.desc).map (fun d => d.parameters.length) = some na ∧ Cond.initialized y.cls ∈ wALL ∧ Cond.static y ∈ wALL
theorem kH_csw (hC : cC p l s m args meth c cc nL own Θ) {y : MethodName} {cy : ByteArray} {nY na : Nat} {ret : Option FieldType} {hh : List (Nat × Nat × Nat × Nat)} {rm : Room} {idx : Nat} (ky : kH y cy nY ret hh na) (hml : Cond.methodLink own idx y ∈ wALL) (hR : rm.frames + 1 ≤ R.frames ∧ 8 + (nY + 11) + rm.locals ≤ R.locals) : vx_CSW R s args own idx y cy nY ret hh (Cond.codeWith y cy nY ret hh :: wALL) rm rm.cells rm.slots na := by
  obtain ⟨h1, h2, h3, h4, h5⟩ := ky
  refine ⟨⟨rfl, rfl, hR.1, hR.2, cC_pay hC h1, List.mem_cons_self⟩, cC_hts hC h1, cC_hts hC h4, h2, fun sig h => ?_, cC_hts hC hml, cC_hts hC h5⟩
  rw [h] at h3
  exact (Option.some.inj h3).symm
end LR1
def CtH (l : Launch) (y : MethodName) (cc : ByteArray) (n : Nat) (ret : Option FieldType) (hh : List (Nat × Nat × Nat × Nat)) (rm : Room) (Θ : cTH) (as : List Value) (G : GS) (Qp : cOut → GS → Prop) : Prop :=
  vx_Met l y (Cond.codeWith y cc n ret hh :: wALL) rm (cP Θ as G) (cQ Θ Qp) (cX Θ Qp) rm.cells rm.slots (tA Θ)
theorem cth_of {l : Launch} {y : MethodName} {cc : ByteArray} {n : Nat} {ret : Option FieldType} {hh : List (Nat × Nat × Nat × Nat)} {rm : Room} {Θ : cTH} {as : List Value} {G : GS} {Qp : cOut → GS → Prop} {LS : List (Option Value)} (hl : l.stackTraces = false) (hy : plainName y.cls = true) (hy2 : y.cls = RL) (hc : as.all (fun v => v.category == 1) = true) (hn : as.length ≤ n) (hLS : as.map some ++ List.replicate (n - as.length) none = LS)
    (body : ∀ (p : Program) (e : Env) (s : State) (m : MethodId) (args : Array Value) (below : List Frame) (meth : Method) (c : Code), cC p l s m args meth c cc n RL Θ → meth.sig.returnType = ret → c.exceptionTable.toList = tableOf hh → V p l e rm s m args below meth c n Θ Qp rm.cells rm.slots 0 0 0 LS [] G) : CtH l y cc n ret hh rm Θ as G Qp := by
  refine vx_ofWH (cc := cc) (maxL := n) (ret := ret) (hh := hh) hy rfl ?_
  intro p e s m args below meth c s₁ B hml hP
  obtain ⟨rfl, hK, hG, hZ, hz⟩ := hP
  have hts := atoms_spec (ws := Cond.codeWith y cc n ret hh :: wALL) B.pre
  have hC : cC p l s m as.toArray meth c cc n RL Θ := ⟨B.exec, B.bytes, hml, by rw [← hy2]; exact findClass_of_methodNamed B.named, fun w hw => hts w (List.mem_cons_of_mem _ hw), B.notSynchronized, hK, hl, fun z => absurd rfl z, hZ, hz⟩
  have hb := body p e s m as.toArray below meth c hC B.returns (vx_table (x := y) B (hts _ List.mem_cons_self))
  obtain ⟨h1, h2⟩ := lvH_entry hc hn
  have hls := h2 _ (lv_entry as h1)
  rw [lg_entry_eq]
  refine hb s.heap [] _ hG va_S.rf (lvH_sub hls ?_)
  intro i v hi
  rw [← hLS] at hi
  by_cases hlt : i < (as.map some).length
  · rw [List.getElem?_append_left hlt] at hi; exact hi
  · rw [List.getElem?_append_right (Nat.not_lt.mp hlt)] at hi
    have h9 := List.eq_of_mem_replicate (List.mem_of_getElem? hi)
    cases h9
def cdE : List String → Int32 → String → Int32
  | [], k, _ => k
  | a :: r, k, E => if E = a then k else cdE r (k + 1) E
theorem fR_n {v : Option Value} {G1 : GS} : ∀ (E : String) (G9 : GS), fR v G1 (.inr E) G9 → False := by
  rintro E G9 ⟨h1, -⟩
  cases h1
section LR2
variable {p : Program} {l : Launch} {e : Env} {R : Room} {s : State} {m : MethodId} {args : Array Value} {below : List Frame} {meth : Method} {c : Code} {cc : ByteArray} {nL : Nat} {own : String} {Θ Θ2 : cTH} {Qp : cOut → GS → Prop} {Q9 : State → Prop} {mc ms2 k n k2 n2 pc q q2 : Nat} {LS LS2 : List (Option Value)} {st rest : List Value} {G : GS}
theorem v_callSN (hC : cC p l s m args meth c cc nL own Θ) {y : MethodName} {cy : ByteArray} {nY na : Nat} {ret : Option FieldType} {rm : Room} {idx : Nat} {As : List Value} {Qc : cOut → GS → Prop} (hM : Ct l y cy nY ret rm Θ As G Qc) (ky : kY y cy nY ret na) (hss : Cond.static y ∈ wALL) (hml : Cond.methodLink own idx y ∈ wALL) (d : decode cc pc = .ok (.invokestatic idx, 3)) (hq : pc + 3 = q)
    (hna : As.length = na) (hst : st = As.reverse ++ rest) (hsz : (rest.map fun v => v.category).sum ≤ 8) (hR : rm.frames + 1 ≤ R.frames ∧ 8 + (nY + 11) + rm.locals ≤ R.locals) {c1 s1 : Nat} (hc1 : rm.cells = c1) (hs1 : rm.slots = s1) (hcs : k + c1 ≤ R.cells ∧ n + s1 ≤ R.slots)
    (kk : ∀ (v : Option Value) (G1 : GS), Qc (.inl v) G1 → VG p l e R s m args below meth c nL Θ Q9 (k + c1) (n + s1) q LS (v.toList ++ rest) G1) (kn : ∀ (E : String) (G1 : GS), Qc (.inr E) G1 → False) : VG p l e R s m args below meth c nL Θ Q9 k n pc LS st G := by
  subst hc1; subst hs1
  exact v_of_runN (a9 := As.toArray) (fun H locs ls hH hS hl => vx_runS ⟨hC.1, hC.2.1, hC.2.2.1, cC_own hC, hC.2.2.2.2.1⟩ hM ⟨kY_callB hC ky hml hR, cC_hts hC hss⟩ ⟨cP_blind, cC_pre hC hH hS⟩ rfl hna hl.1 hst (lv_room hsz) d hcs) hq kk kn
theorem v_callSH (hC : cC p l s m args meth c cc nL own Θ) {y : MethodName} {cy : ByteArray} {nY na : Nat} {ret : Option FieldType} {hh : List (Nat × Nat × Nat × Nat)} {rm : Room} {idx : Nat} {As : List Value} {Qc : cOut → GS → Prop} (hM : CtH l y cy nY ret hh rm Θ As G Qc) (ky : kH y cy nY ret hh na) (hml : Cond.methodLink own idx y ∈ wALL) (d : decode cc pc = .ok (.invokestatic idx, 3)) (hq : pc + 3 = q)
    (hna : As.length = na) (hst : st = As.reverse ++ rest) (hsz : (rest.map fun v => v.category).sum ≤ 8) (hR : rm.frames + 1 ≤ R.frames ∧ 8 + (nY + 11) + rm.locals ≤ R.locals) {c1 s1 : Nat} (hc1 : rm.cells = c1) (hs1 : rm.slots = s1) (hcs : k + c1 ≤ R.cells ∧ n + s1 ≤ R.slots)
    (kk : ∀ (v : Option Value) (G1 : GS), Qc (.inl v) G1 → VG p l e R s m args below meth c nL Θ Q9 (k + c1) (n + s1) q LS (v.toList ++ rest) G1) (kn : ∀ (E : String) (G1 : GS), Qc (.inr E) G1 → False) : VG p l e R s m args below meth c nL Θ Q9 k n pc LS st G := by
  subst hc1; subst hs1
  exact v_of_runN (a9 := As.toArray) (fun H locs ls hH hS hl => vx_runSX ⟨hC.1, hC.2.1, hC.2.2.1, cC_own hC, hC.2.2.2.2.1⟩ hM (kH_csw hC ky hml hR) ⟨cP_blind, cC_pre hC hH hS⟩ rfl hna hl.1 hst (lv_room hsz) d hcs) hq kk kn
theorem v_ladd (hC : cC p l s m args meth c cc nL own Θ) {x y : Int64} (d : decode cc pc = .ok (.ladd, 1)) (hq : pc + 1 = q) (kk : VG p l e R s m args below meth c nL Θ Q9 k n q LS (.long (x + y) :: rest) G) : VG p l e R s m args below meth c nL Θ Q9 k n pc LS (.long y :: .long x :: rest) G := by
  subst hq; exact v_lift0 (fun H locs ls Q w => lv_ladd hC.1 hC.2.1 d w) kk
theorem v_lmul (hC : cC p l s m args meth c cc nL own Θ) {x y : Int64} (d : decode cc pc = .ok (.lmul, 1)) (hq : pc + 1 = q) (kk : VG p l e R s m args below meth c nL Θ Q9 k n q LS (.long (x * y) :: rest) G) : VG p l e R s m args below meth c nL Θ Q9 k n pc LS (.long y :: .long x :: rest) G := by
  subst hq; exact v_lift0 (fun H locs ls Q w => lv_lmul hC.1 hC.2.1 d w) kk
theorem v_land (hC : cC p l s m args meth c cc nL own Θ) {x y : Int64} (d : decode cc pc = .ok (.land, 1)) (hq : pc + 1 = q) (kk : VG p l e R s m args below meth c nL Θ Q9 k n q LS (.long (x &&& y) :: rest) G) : VG p l e R s m args below meth c nL Θ Q9 k n pc LS (.long y :: .long x :: rest) G := by
  subst hq; exact v_lift0 (fun H locs ls Q w => lv_land hC.1 hC.2.1 d w) kk
theorem v_lshr (hC : cC p l s m args meth c cc nL own Θ) {x : Int64} {y : Int32} (d : decode cc pc = .ok (.lshr, 1)) (hq : pc + 1 = q) (kk : VG p l e R s m args below meth c nL Θ Q9 k n q LS (.long (x >>> (y.toInt64 &&& 63)) :: rest) G) : VG p l e R s m args below meth c nL Θ Q9 k n pc LS (.int y :: .long x :: rest) G := by
  subst hq; exact v_lift0 (fun H locs ls Q w => lv_lshr hC.1 hC.2.1 d rfl w) kk
theorem v_l2i (hC : cC p l s m args meth c cc nL own Θ) {x : Int64} (d : decode cc pc = .ok (.l2i, 1)) (hq : pc + 1 = q) (kk : VG p l e R s m args below meth c nL Θ Q9 k n q LS (.int x.toInt32 :: rest) G) : VG p l e R s m args below meth c nL Θ Q9 k n pc LS (.long x :: rest) G := by
  subst hq; exact v_lift0 (fun H locs ls Q w => lv_l2i hC.1 hC.2.1 d rfl w) kk
theorem v_ldc2 (hC : cC p l s m args meth c cc nL own Θ) {idx : Nat} {v : Int64} (hw : Cond.constantLong own idx v ∈ wALL) (d : decode cc pc = .ok (.ldc2_w idx, 3)) (hq : pc + 3 = q) (kk : VG p l e R s m args below meth c nL Θ Q9 k n q LS (.long v :: rest) G) : VG p l e R s m args below meth c nL Θ Q9 k n pc LS rest G := by
  subst hq; exact v_lift0 (fun H locs ls Q w => lv_ldc2 hC.1 hC.2.1 (cC_own hC) (cC_hts hC hw) d w) kk
theorem v_ldc (hC : cC p l s m args meth c cc nL own Θ) {idx : Nat} {v : Int32} (hw : Cond.constant own idx v ∈ wALL) (d : decode cc pc = .ok (.ldc idx, 2)) (hq : pc + 2 = q) (kk : VG p l e R s m args below meth c nL Θ Q9 k n q LS (.int v :: rest) G) : VG p l e R s m args below meth c nL Θ Q9 k n pc LS rest G := by
  subst hq; exact v_lift0 (fun H locs ls Q w => lv_ldc hC.1 hC.2.1 (cC_own hC) (cC_hts hC hw) d w) kk
theorem v_lload (hC : cC p l s m args meth c cc nL own Θ) {i : Nat} {x : Int64} (d : decode cc pc = .ok (.lload i, 2)) (hq : pc + 2 = q) (hL : LS[i]? = some (some (.long x))) (kk : VG p l e R s m args below meth c nL Θ Q9 k n q LS (.long x :: rest) G) : VG p l e R s m args below meth c nL Θ Q9 k n pc LS rest G := by
  subst hq; exact v_lift (fun H locs ls Q hl w => lv_lload hC.1 hC.2.1 d (lvH_at hl hL) (w ls hl)) kk
theorem v_lstore (hC : cC p l s m args meth c cc nL own Θ) {i : Nat} {x : Int64} (d : decode cc pc = .ok (.lstore i, 2)) (hq : pc + 2 = q) (hc : lvC LS i) (h1 : LS[i + 1]? = some none) (hn : i + 1 < nL) (hi2 : i < LS.length) (h2 : LS.set i (some (.long x)) = LS2) (kk : VG p l e R s m args below meth c nL Θ Q9 k n q LS2 rest G) : VG p l e R s m args below meth c nL Θ Q9 k n pc LS (.long x :: rest) G := by
  subst hq; subst h2; exact v_lift (fun H locs ls Q hl w => lv_lstore hC.1 hC.2.1 d hl hn rfl (fun ls2 h9 => w ls2 (lvH_set2 hc h1 h9 hi2))) kk
end LR2
theorem pkF_congr {f g : Nat → Int32} : ∀ n : Nat, (∀ i, i < n → f i = g i) → pkF f n = pkF g n := by
  intro n
  induction n with
  | zero => intro _; rfl
  | succ n ih =>
    intro h
    rw [pkF, pkF, ih (fun i hi => h i (by omega)), h n (by omega)]
theorem pkL_congr {f g : Nat → Int32} (h : ∀ i, i < 10 → f i = g i) : pkL f = pkL g := pkF_congr 10 h
theorem pkL_0 : pkL (fun _ => 0) = 0 := by decide
/-- ten sets of rights laid down at u -/
def pkU (a : Nat → Int32) (u : Nat) (f : Nat → Int32) : Nat → Int32 := fun x => if 10 * u ≤ x ∧ x < 10 * u + 10 then f (x - 10 * u) else a x
theorem pkU_s (a : Nat → Int32) (u : Nat) (f : Nat → Int32) : pkL (fun k => pkU a u f (10 * u + k)) = pkL f := pkL_congr fun i hi => by
  show (if 10 * u ≤ 10 * u + i ∧ 10 * u + i < 10 * u + 10 then f (10 * u + i - 10 * u) else a (10 * u + i)) = f i
  rw [if_pos (by omega), Nat.add_sub_cancel_left]
theorem pkU_n (a : Nat → Int32) {u v : Nat} (f : Nat → Int32) (h : ¬ v = u) : pkL (fun k => pkU a u f (10 * v + k)) = pkL (fun k => a (10 * v + k)) := pkL_congr fun i hi => by
  show (if 10 * u ≤ 10 * v + i ∧ 10 * v + i < 10 * u + 10 then f (10 * v + i - 10 * u) else a (10 * v + i)) = a (10 * v + i)
  rw [if_neg (by omega)]
theorem pkU_row (a : Nat → Int32) (u : Nat) (f : Nat → Int32) : (fun v => pkL (fun k => pkU a u f (10 * v + k))) = fun j => if j = u then pkL f else pkL (fun k => a (10 * j + k)) := by
  funext v
  by_cases h : v = u
  · subst h; rw [if_pos rfl, pkU_s]
  · rw [if_neg h, pkU_n a f h]
section LR3
variable {p : Program} {l : Launch} {e : Env} {R : Room} {s : State} {m : MethodId} {args : Array Value} {below : List Frame} {meth : Method} {c : Code} {cc : ByteArray} {nL : Nat} {own : String} {Θ Θ2 : cTH} {Qp : cOut → GS → Prop} {Q9 : State → Prop} {mc ms2 k n k2 n2 pc q q2 : Nat} {LS LS2 : List (Option Value)} {st rest : List Value} {G : GS}
theorem v_laldP (hC : cC p l s m args meth c cc nL own Θ) {o u : Nat} (d : decode cc pc = .ok (.laload, 1)) (hq : pc + 1 = q) (hid : okI G.2.2.1 0 o = true) (ho : ∀ a : Nat → Int32, cellS Θ 0 o (G.1 0 o) a G.2.2 = .inl (tJ Θ, 12, .inr (.inl (fun u => pkL (fun k => a (10 * u + k)))))) (hu : u < 12) (kk : VG p l e R s m args below meth c nL Θ Q9 k n q LS (.long (pkL (fun k => G.2.1 0 o (10 * u + k))) :: rest) G) : VG p l e R s m args below meth c nL Θ Q9 k n pc LS (.int (nI u) :: .ref (tR Θ 0 o) :: rest) G := by
  subst hq
  intro H locs ls hH hS hl
  obtain ⟨k9, -, hk9⟩ := cW_get Θ G hid
  rw [ho] at hk9
  have h2 := va_lald (p := p) (l := l) (e := e) (R := R) (below := below) (meth := meth) (args := args) (locs := locs) (ls := ls) (rest := rest) (Q := Q9) (cells := k) (slots := n) (m := m) hC.1 hC.2.1 (cC_K hC) hH.1 k9 2 hk9 rfl (i := nI u) (vp_in_nI (n := u) (N := 12) hu (by decide)) d
  rw [nI_clamp (by omega)] at h2
  exact h2 (kk H locs ls hH hS hl)
theorem v_lastP (hC : cC p l s m args meth c cc nL own Θ) {o u : Nat} {f : Nat → Int32} (d : decode cc pc = .ok (.lastore, 1)) (hq : pc + 1 = q) (hid : okI G.2.2.1 0 o = true) (ho : ∀ a : Nat → Int32, cellS Θ 0 o (G.1 0 o) a G.2.2 = .inl (tJ Θ, 12, .inr (.inl (fun u => pkL (fun k => a (10 * u + k)))))) (hu : u < 12) (kk : VG p l e R s m args below meth c nL Θ Q9 k n q LS rest (putA G 0 o (pkU (G.2.1 0 o) u f))) : VG p l e R s m args below meth c nL Θ Q9 k n pc LS (.long (pkL f) :: .int (nI u) :: .ref (tR Θ 0 o) :: rest) G := by
  subst hq
  intro H locs ls hH hS hl
  obtain ⟨k9, hi9, hk9⟩ := cW_get Θ G hid
  rw [ho] at hk9
  refine va_last hC.1 hC.2.1 (cC_K hC) hH.1 hH.2 hS k9 2 hk9 rfl (vp_in_nI (n := u) (N := 12) hu (by decide)) d (fun H1 locs1 hP hD hS1 => ?_)
  rw [nI_clamp (by omega)] at hP hD
  have hw : (cW Θ G).set k9 (tR Θ 0 o, .inl (tJ Θ, 12, .inr (.inl (vp_updL (fun u => pkL (fun k => G.2.1 0 o (10 * u + k))) u (pkL f))))) = cW Θ (putA G 0 o (pkU (G.2.1 0 o) u f)) := cW_put hH.2 hi9 rfl putA_ne (by rw [putA_same]; exact (ho _).trans (by rw [pkU_row]; rfl))
  rw [hw] at hP hD
  exact kk H1 locs1 ls ⟨hP, hD⟩ hS1 hl
end LR3
/-! rows made on the way: the cells (0, 45), (0, 46), (0, 47) come and go -/
def tU (Θ : cTH) (o a : Nat) : cTH := (Θ.1, fun r o2 => if r = 0 ∧ o2 = o then a else tR Θ r o2, Θ.2.2)
/-- the slots from j on are not there -/
def noT (lv : Nat → Bool) (j : Nat) : Prop := ∀ i, j ≤ i → i ≤ 4 → lv i = false
def tpG (G : GS) (j : Nat) : GS := (G.1, fun r o => if r = 0 ∧ o = 43 + j then (fun _ => 0) else G.2.1 r o, fun i => if i = j then true else G.2.2.1 i, G.2.2.2)
def dpG (G : GS) (j : Nat) : GS := (G.1, G.2.1, fun i => if i = j then false else G.2.2.1 i, G.2.2.2)
theorem ids_push {lv lv2 : Nat → Bool} {j : Nat} (hj : 2 ≤ j ∧ j ≤ 4) (h1 : noT lv j) (h2 : ∀ i, i ≤ 4 → lv2 i = if i = j then true else lv i) : ids lv2 = ids lv ++ [(0, 43 + j)] := by
  have e0 := h2 0 (by omega); have e1 := h2 1 (by omega); have e2 := h2 2 (by omega); have e3 := h2 3 (by omega); have e4 := h2 4 (by omega)
  rw [if_neg (by omega)] at e0 e1
  rcases (show j = 2 ∨ j = 3 ∨ j = 4 by omega) with rfl | rfl | rfl
  · have f2 := h1 2 (by omega) (by omega); have f3 := h1 3 (by omega) (by omega); have f4 := h1 4 (by omega) (by omega)
    rw [if_pos rfl] at e2; rw [if_neg (by omega), f3] at e3; rw [if_neg (by omega), f4] at e4
    unfold ids
    rw [e0, e1, e2, e3, e4, f2, f3, f4]
    simp [tmp]
  · have f3 := h1 3 (by omega) (by omega); have f4 := h1 4 (by omega) (by omega)
    rw [if_neg (by omega)] at e2; rw [if_pos rfl] at e3; rw [if_neg (by omega), f4] at e4
    unfold ids
    rw [e0, e1, e2, e3, e4, f3, f4]
    simp [tmp]
  · have f4 := h1 4 (by omega) (by omega)
    rw [if_neg (by omega)] at e2 e3; rw [if_pos rfl] at e4
    unfold ids
    rw [e0, e1, e2, e3, e4, f4]
    simp [tmp]
theorem ids_no {lv : Nat → Bool} {j : Nat} (hj : 2 ≤ j ∧ j ≤ 4) (h1 : noT lv j) : ¬ (0, 43 + j) ∈ ids lv := by
  have hf : ∀ r2 : Nat, (0, 43 + j) ∈ fam r2 → False := by
    intro r2 h2
    obtain ⟨i, hi, e⟩ := List.mem_map.mp h2
    have := List.mem_range.mp hi
    have e2 : i = 43 + j := congrArg Prod.snd e
    omega
  have ht : ∀ {b : Bool} {l : List (Nat × Nat)} {x : Nat × Nat}, x ∈ tmp b l → b = true ∧ x ∈ l := by
    intro b l x hx
    cases b with
    | true => exact ⟨rfl, hx⟩
    | false => cases hx
  have hs : ∀ i, i ≤ 4 → 2 ≤ i → (0, 43 + j) ∈ tmp (lv i) [(0, 43 + i)] → False := by
    intro i h4 h2 hx
    obtain ⟨hb, hm⟩ := ht hx
    have e2 : 43 + j = 43 + i := congrArg Prod.snd (List.mem_singleton.mp hm)
    rw [h1 i (by omega) h4] at hb
    cases hb
  intro h
  unfold ids at h
  rcases List.mem_append.mp h with h | h
  · obtain ⟨r2, -, h2⟩ := List.mem_flatMap.mp h
    exact hf r2 h2
  rcases List.mem_append.mp h with h | h
  · obtain ⟨i, hi, e⟩ := List.mem_map.mp h
    have := List.mem_range.mp hi
    have e2 : i + 14 = 43 + j := congrArg Prod.snd e
    omega
  rcases List.mem_append.mp h with h | h
  · obtain ⟨i, hi, e⟩ := List.mem_map.mp h
    have := List.mem_range.mp hi
    have e2 : i + 40 = 43 + j := congrArg Prod.snd e
    omega
  rcases List.mem_append.mp h with h | h
  · exact hf 6 (ht h).2
  rcases List.mem_append.mp h with h | h
  · exact hf 7 (ht h).2
  rcases List.mem_append.mp h with h | h
  · exact hs 2 (by omega) (by omega) h
  rcases List.mem_append.mp h with h | h
  · exact hs 3 (by omega) (by omega) h
  · exact hs 4 (by omega) (by omega) h
theorem tU_n (Θ : cTH) {j r o a : Nat} (h : ¬ (r = 0 ∧ o = 43 + j)) : tR (tU Θ (43 + j) a) r o = tR Θ r o := by
  show (if r = 0 ∧ o = 43 + j then a else tR Θ r o) = tR Θ r o
  rw [if_neg h]
theorem tU_s (Θ : cTH) (j a : Nat) : tR (tU Θ (43 + j) a) 0 (43 + j) = a := by
  show (if 0 = 0 ∧ 43 + j = 43 + j then a else tR Θ 0 (43 + j)) = a
  rw [if_pos ⟨rfl, rfl⟩]

theorem cellS_tu {Θ : cTH} {j a r o : Nat} {F A : Nat → Int32} {g g2 : (Nat → Bool) × Int64} (hj : 2 ≤ j) : cellS (tU Θ (43 + j) a) r o F A g = cellS Θ r o F A g2 := by
  have e0 : ∀ r, tR (tU Θ (43 + j) a) r 0 = tR Θ r 0 := fun r => tU_n Θ (by omega)
  have e1 : ∀ r, tR (tU Θ (43 + j) a) r 1 = tR Θ r 1 := fun r => tU_n Θ (by omega)
  have e2 : ∀ r, tR (tU Θ (43 + j) a) r 2 = tR Θ r 2 := fun r => tU_n Θ (by omega)
  have e3 : ∀ r, tR (tU Θ (43 + j) a) r 3 = tR Θ r 3 := fun r => tU_n Θ (by omega)
  have e4 : ∀ r, tR (tU Θ (43 + j) a) r 4 = tR Θ r 4 := fun r => tU_n Θ (by omega)
  have e5 : ∀ r, tR (tU Θ (43 + j) a) r 5 = tR Θ r 5 := fun r => tU_n Θ (by omega)
  have e6 : ∀ r, tR (tU Θ (43 + j) a) r 6 = tR Θ r 6 := fun r => tU_n Θ (by omega)
  have e7 : ∀ r, tR (tU Θ (43 + j) a) r 7 = tR Θ r 7 := fun r => tU_n Θ (by omega)
  have e8 : ∀ r, tR (tU Θ (43 + j) a) r 8 = tR Θ r 8 := fun r => tU_n Θ (by omega)
  have e9 : ∀ r, tR (tU Θ (43 + j) a) r 9 = tR Θ r 9 := fun r => tU_n Θ (by omega)
  have e10 : ∀ r, tR (tU Θ (43 + j) a) r 10 = tR Θ r 10 := fun r => tU_n Θ (by omega)
  have e11 : ∀ r, tR (tU Θ (43 + j) a) r 11 = tR Θ r 11 := fun r => tU_n Θ (by omega)
  have e12 : ∀ r, tR (tU Θ (43 + j) a) r 12 = tR Θ r 12 := fun r => tU_n Θ (by omega)
  have e13 : ∀ r, tR (tU Θ (43 + j) a) r 13 = tR Θ r 13 := fun r => tU_n Θ (by omega)
  have e14 : ∀ r, tR (tU Θ (43 + j) a) r 14 = tR Θ r 14 := fun r => tU_n Θ (by omega)
  have e15 : ∀ r, tR (tU Θ (43 + j) a) r 15 = tR Θ r 15 := fun r => tU_n Θ (by omega)
  have e16 : ∀ r, tR (tU Θ (43 + j) a) r 16 = tR Θ r 16 := fun r => tU_n Θ (by omega)
  have e17 : ∀ r, tR (tU Θ (43 + j) a) r 17 = tR Θ r 17 := fun r => tU_n Θ (by omega)
  have e18 : ∀ r, tR (tU Θ (43 + j) a) r 18 = tR Θ r 18 := fun r => tU_n Θ (by omega)
  have e19 : ∀ r, tR (tU Θ (43 + j) a) r 19 = tR Θ r 19 := fun r => tU_n Θ (by omega)
  have e20 : ∀ r, tR (tU Θ (43 + j) a) r 20 = tR Θ r 20 := fun r => tU_n Θ (by omega)
  have e21 : ∀ r, tR (tU Θ (43 + j) a) r 21 = tR Θ r 21 := fun r => tU_n Θ (by omega)
  have e22 : ∀ r, tR (tU Θ (43 + j) a) r 22 = tR Θ r 22 := fun r => tU_n Θ (by omega)
  have e23 : ∀ r, tR (tU Θ (43 + j) a) r 23 = tR Θ r 23 := fun r => tU_n Θ (by omega)
  have e24 : ∀ r, tR (tU Θ (43 + j) a) r 24 = tR Θ r 24 := fun r => tU_n Θ (by omega)
  have e25 : ∀ r, tR (tU Θ (43 + j) a) r 25 = tR Θ r 25 := fun r => tU_n Θ (by omega)
  have e26 : ∀ r, tR (tU Θ (43 + j) a) r 26 = tR Θ r 26 := fun r => tU_n Θ (by omega)
  have e27 : ∀ r, tR (tU Θ (43 + j) a) r 27 = tR Θ r 27 := fun r => tU_n Θ (by omega)
  have e28 : ∀ r, tR (tU Θ (43 + j) a) r 28 = tR Θ r 28 := fun r => tU_n Θ (by omega)
  match o with
  | 0 => first | rfl | simp only [cellS, e0, e1, e2, e3, e4, e5, e6, e7, e8, e9, e10, e11, e12, e13, e14, e15, e16, e17, e18, e19, e20, e21, e22, e23, e24, e25, e26, e27, e28]
  | 1 => first | rfl | simp only [cellS, e0, e1, e2, e3, e4, e5, e6, e7, e8, e9, e10, e11, e12, e13, e14, e15, e16, e17, e18, e19, e20, e21, e22, e23, e24, e25, e26, e27, e28]
  | 2 => rfl
  | 3 => rfl
  | 4 => first | rfl | simp only [cellS, e0, e1, e2, e3, e4, e5, e6, e7, e8, e9, e10, e11, e12, e13, e14, e15, e16, e17, e18, e19, e20, e21, e22, e23, e24, e25, e26, e27, e28]
  | 5 => rfl
  | 6 => rfl
  | 7 => rfl
  | 8 => first | rfl | simp only [cellS, e0, e1, e2, e3, e4, e5, e6, e7, e8, e9, e10, e11, e12, e13, e14, e15, e16, e17, e18, e19, e20, e21, e22, e23, e24, e25, e26, e27, e28]
  | 9 => rfl
  | 10 => rfl
  | 11 => first | rfl | simp only [cellS, e0, e1, e2, e3, e4, e5, e6, e7, e8, e9, e10, e11, e12, e13, e14, e15, e16, e17, e18, e19, e20, e21, e22, e23, e24, e25, e26, e27, e28]
  | 12 => rfl
  | 13 => rfl
  | 14 => first | rfl | simp only [cellS, e0, e1, e2, e3, e4, e5, e6, e7, e8, e9, e10, e11, e12, e13, e14, e15, e16, e17, e18, e19, e20, e21, e22, e23, e24, e25, e26, e27, e28]
  | 15 => first | rfl | simp only [cellS, e0, e1, e2, e3, e4, e5, e6, e7, e8, e9, e10, e11, e12, e13, e14, e15, e16, e17, e18, e19, e20, e21, e22, e23, e24, e25, e26, e27, e28]
  | 16 => first | rfl | simp only [cellS, e0, e1, e2, e3, e4, e5, e6, e7, e8, e9, e10, e11, e12, e13, e14, e15, e16, e17, e18, e19, e20, e21, e22, e23, e24, e25, e26, e27, e28]
  | 17 => rfl
  | 18 => first | rfl | simp only [cellS, e0, e1, e2, e3, e4, e5, e6, e7, e8, e9, e10, e11, e12, e13, e14, e15, e16, e17, e18, e19, e20, e21, e22, e23, e24, e25, e26, e27, e28]
  | 19 => rfl
  | 20 => rfl
  | 21 => rfl
  | 22 => first | rfl | simp only [cellS, e0, e1, e2, e3, e4, e5, e6, e7, e8, e9, e10, e11, e12, e13, e14, e15, e16, e17, e18, e19, e20, e21, e22, e23, e24, e25, e26, e27, e28]
  | 23 => rfl
  | 24 => rfl
  | 25 => first | rfl | simp only [cellS, e0, e1, e2, e3, e4, e5, e6, e7, e8, e9, e10, e11, e12, e13, e14, e15, e16, e17, e18, e19, e20, e21, e22, e23, e24, e25, e26, e27, e28]
  | 26 => rfl
  | 27 => first | rfl | simp only [cellS, e0, e1, e2, e3, e4, e5, e6, e7, e8, e9, e10, e11, e12, e13, e14, e15, e16, e17, e18, e19, e20, e21, e22, e23, e24, e25, e26, e27, e28]
  | 28 => rfl
  | 29 => rfl
  | 30 => rfl
  | 31 => rfl
  | 32 => rfl
  | 33 => rfl
  | 34 => rfl
  | 35 => rfl
  | 36 => rfl
  | 37 => rfl
  | 38 => rfl
  | 39 => rfl
  | 40 => rfl
  | 41 => rfl
  | 42 => rfl
  | 43 => rfl
  | 44 => rfl
  | 45 => rfl
  | 46 => rfl
  | 47 => rfl
  | _ + 48 => first | rfl | simp only [cellS]
theorem map_app9 {α β : Type} {l : List α} {f g : α → β} (h : ∀ x ∈ l, f x = g x) : l.map f = l.map g := List.map_congr_left h
theorem cW_tp {Θ : cTH} {G : GS} {j a : Nat} (hj : 2 ≤ j ∧ j ≤ 4) (h1 : noT G.2.2.1 j) : cW (tU Θ (43 + j) a) (tpG G j) = cW Θ G ++ [(a, cellS Θ 0 (43 + j) (G.1 0 (43 + j)) (fun _ => 0) G.2.2)] := by
  have hp : ids (tpG G j).2.2.1 = ids G.2.2.1 ++ [(0, 43 + j)] := ids_push hj h1 (fun i _ => rfl)
  unfold cW
  rw [hp, List.map_append]
  refine congr (congrArg HAppend.hAppend ?_) ?_
  · refine map_app9 fun x hx => ?_
    have hne : ¬ (x.1 = 0 ∧ x.2 = 43 + j) := fun z => ids_no hj h1 (by have : x = (0, 43 + j) := Prod.ext z.1 z.2; rw [← this]; exact hx)
    rw [tU_n Θ hne]
    show (_, cellS (tU Θ (43 + j) a) x.1 x.2 (G.1 x.1 x.2) (if x.1 = 0 ∧ x.2 = 43 + j then (fun _ => 0) else G.2.1 x.1 x.2) _) = _
    rw [if_neg hne, cellS_tu (g2 := G.2.2) hj.1]
  · show [(tR (tU Θ (43 + j) a) 0 (43 + j), cellS (tU Θ (43 + j) a) 0 (43 + j) (G.1 0 (43 + j)) (if 0 = 0 ∧ 43 + j = 43 + j then (fun _ => 0) else G.2.1 0 (43 + j)) _)] = _
    rw [tU_s, if_pos ⟨rfl, rfl⟩, cellS_tu (g2 := G.2.2) hj.1]
theorem cW_dp {Θ : cTH} {G : GS} {j a : Nat} (hj : 2 ≤ j ∧ j ≤ 4) (h1 : noT G.2.2.1 (j + 1)) (h2 : G.2.2.1 j = true) : cW (tU Θ (43 + j) a) G = cW Θ (dpG G j) ++ [(a, cellS Θ 0 (43 + j) (G.1 0 (43 + j)) (G.2.1 0 (43 + j)) G.2.2)] := by
  have hno : noT (dpG G j).2.2.1 j := by
    intro i hi h4
    show (if i = j then false else G.2.2.1 i) = false
    by_cases hij : i = j
    · rw [if_pos hij]
    · rw [if_neg hij]; exact h1 i (by omega) h4
  have hp : ids G.2.2.1 = ids (dpG G j).2.2.1 ++ [(0, 43 + j)] := ids_push hj hno (fun i _ => by
    show G.2.2.1 i = if i = j then true else (if i = j then false else G.2.2.1 i)
    by_cases hij : i = j
    · rw [if_pos hij, hij]; exact h2
    · rw [if_neg hij, if_neg hij])
  unfold cW
  rw [hp, List.map_append]
  refine congr (congrArg HAppend.hAppend ?_) ?_
  · refine map_app9 fun x hx => ?_
    have hne : ¬ (x.1 = 0 ∧ x.2 = 43 + j) := fun z => ids_no hj hno (by have : x = (0, 43 + j) := Prod.ext z.1 z.2; rw [← this]; exact hx)
    rw [tU_n Θ hne, cellS_tu (g2 := (dpG G j).2.2) hj.1]
    rfl
  · show [(tR (tU Θ (43 + j) a) 0 (43 + j), cellS (tU Θ (43 + j) a) 0 (43 + j) (G.1 0 (43 + j)) (G.2.1 0 (43 + j)) G.2.2)] = _
    rw [tU_s, cellS_tu (g2 := G.2.2) hj.1]
theorem pd_app {D : va_G} {A : Nat → Prop} {w1 w2 : va_W} {H : Heap} (hP : va_P D vwCl (w1 ++ w2) H) (hD : va_D A (w1 ++ w2)) : va_P D vwCl w1 H ∧ va_D A w1 := by
  have g : ∀ {i : Nat} {x : Nat × va_E}, w1[i]? = some x → (w1 ++ w2)[i]? = some x := fun {i x} hx => by
    rw [List.getElem?_append_left (List.getElem?_eq_some_iff.mp hx).1]; exact hx
  refine ⟨fun k q hk => hP k q (g hk), ?_, ?_⟩
  · intro i j x y hi hj hne
    exact hD.1 i j x y (g hi) (g hj) hne
  · intro k q hk
    exact hD.2 k q (g hk)
section LR4
variable {p : Program} {l : Launch} {e : Env} {R : Room} {s : State} {m : MethodId} {args : Array Value} {below : List Frame} {meth : Method} {c : Code} {cc : ByteArray} {nL : Nat} {own : String} {Θ Θ2 : cTH} {Qp : cOut → GS → Prop} {Q9 : State → Prop} {mc ms2 k n k2 n2 pc q q2 : Nat} {LS LS2 : List (Option Value)} {st rest : List Value} {G : GS}
theorem cC_tu (hC : cC p l s m args meth c cc nL own Θ) (o a : Nat) : cC p l s m args meth c cc nL own (tU Θ o a) := hC
theorem v_newJ (hC : cC p l s m args meth c cc nL own Θ) {j : Nat} (hj : j = 2 ∨ j = 3) (h1 : noT G.2.2.1 j) (d : decode cc pc = .ok (.newarray .long, 2)) (hq : pc + 2 = q) (hk : k + 1 ≤ R.cells) (hn : n + 12 ≤ R.slots)
    (kk : ∀ a : Nat, VG p l e R s m args below meth c nL (tU Θ (43 + j) a) Q9 (k + 1) (n + 12) q LS (.ref (tR (tU Θ (43 + j) a) 0 (43 + j)) :: rest) (tpG G j)) : VG p l e R s m args below meth c nL Θ Q9 k n pc LS (.int 12 :: rest) G := by
  subst hq
  intro H locs ls hH hS hl
  refine va_newa (atype := .long) hC.1 hC.2.1 (cC_hts hC ac__long) (ty := .long) rfl (cC_K hC) hH.1 hH.2 hS (cC_A hC) (a0 := (12, .inr (.inl (fun _ => 0)))) (fun cA => rfl) (by decide) (by decide) (by decide) hk hn d (fun a cA H1 hK2 hP hD hS1 => ?_)
  have h9 : cA = tJ Θ := cls_eq (i := 2) (fun C h => by cases h) (cC_K hC) rfl hK2
  subst h9
  have hw : cW (tU Θ (43 + j) a) (tpG G j) = cW Θ G ++ [(a, .inl (tJ Θ, 12, .inr (.inl (fun _ => 0))))] := by
    have hz : cellS Θ 0 (43 + j) (G.1 0 (43 + j)) (fun _ => 0) G.2.2 = .inl (tJ Θ, 12, .inr (.inl (fun _ => 0))) := by
      rcases hj with rfl | rfl <;> exact congrArg (fun z => (.inl (tJ Θ, 12, .inr (.inl (fun _ => z))) : va_E)) pkL_0
    rw [cW_tp (by omega) h1, hz]
  have := kk a H1 locs ls ⟨by rw [hw]; exact hP, by rw [hw]; exact hD⟩ hS1 hl
  rw [tU_s] at this
  exact this
theorem v_newI (hC : cC p l s m args meth c cc nL own Θ) (h1 : noT G.2.2.1 4) (d : decode cc pc = .ok (.newarray .int, 2)) (hq : pc + 2 = q) (hk : k + 1 ≤ R.cells) (hn : n + 4 ≤ R.slots)
    (kk : ∀ a : Nat, VG p l e R s m args below meth c nL (tU Θ 47 a) Q9 (k + 1) (n + 4) q LS (.ref (tR (tU Θ 47 a) 0 47) :: rest) (tpG G 4)) : VG p l e R s m args below meth c nL Θ Q9 k n pc LS (.int 4 :: rest) G := by
  subst hq
  intro H locs ls hH hS hl
  refine va_newa (atype := .int) hC.1 hC.2.1 (cC_hts hC ac__int) (ty := .int) rfl (cC_K hC) hH.1 hH.2 hS (cC_A hC) (a0 := (4, .inl (fun _ => 0))) (fun cA => rfl) (by decide) (by decide) (by decide) hk hn d (fun a cA H1 hK2 hP hD hS1 => ?_)
  have h9 : cA = tI Θ := cls_eq (i := 0) (fun C h => by cases h) (cC_K hC) rfl hK2
  subst h9
  have hw : cW (tU Θ 47 a) (tpG G 4) = cW Θ G ++ [(a, .inl (tI Θ, 4, .inl (fun _ => 0)))] := cW_tp (j := 4) (by omega) h1
  have := kk a H1 locs ls ⟨by rw [hw]; exact hP, by rw [hw]; exact hD⟩ hS1 hl
  rw [show tR (tU Θ 47 a) 0 47 = a from tU_s Θ 4 a] at this
  exact this
/-- the row made on the way is forgotten -/
theorem v_drop {j a : Nat} (hj : 2 ≤ j ∧ j ≤ 4) (h1 : noT G.2.2.1 (j + 1)) (h2 : G.2.2.1 j = true) (kk : VG p l e R s m args below meth c nL Θ Q9 k n pc LS st (dpG G j)) : VG p l e R s m args below meth c nL (tU Θ (43 + j) a) Q9 k n pc LS st G := by
  intro H locs ls hH hS hl
  obtain ⟨hP, hD⟩ := hH
  rw [cW_dp hj h1 h2] at hP hD
  exact kk H locs ls (pd_app hP hD) hS hl
end LR4
