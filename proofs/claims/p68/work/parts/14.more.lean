/-! Booleans; throws; rows of references; text lengths. -/
def b2i (b : Bool) : Int32 := if b = true then 1 else 0
theorem b2i_t : b2i true = 1 := rfl
theorem b2i_f : b2i false = 0 := rfl
theorem b2i_eq0 {b : Bool} : b2i b = 0 ↔ b = false := by cases b <;> simp [b2i]
theorem b2i_ne0 {b : Bool} : ¬ b2i b = 0 ↔ b = true := by cases b <;> simp [b2i]
theorem nar_b {b : Bool} : narrow .boolean (.int (b2i b)) = .int (b2i b) := by cases b <;> rfl
def lvCb (LS : List (Option Value)) (i : Nat) : Bool := match LS[i - 1]? with
  | some (some v) => (i == 0) || !(v.category == 2)
  | _ => true
theorem lvc {LS : List (Option Value)} {i : Nat} (h : lvCb LS i = true) : lvC LS i := by
  intro v hv hi h2
  unfold lvCb at h
  rw [hv] at h
  simp only [h2, Bool.or_eq_true, beq_iff_eq] at h
  rcases h with h | h
  · exact hi h
  · simp at h
section MORE
variable {p : Program} {l : Launch} {e : Env} {R : Room} {s : State} {m : MethodId} {args : Array Value} {below : List Frame} {meth : Method} {c : Code} {cc : ByteArray} {nL : Nat} {own : String} {Θ : cTH} {Qp : cOut → GS → Prop} {Q9 : State → Prop} {mc ms k n pc q q2 : Nat} {LS : List (Option Value)} {st rest : List Value} {G : GS}
theorem v_ifb_eq (hC : cC p l s m args meth c cc nL own Θ) {b : Bool} {off : Int} (d : decode cc pc = .ok (.ifCond .eq off, 3)) (hq : (pc : Int) + off = (q : Int)) (hq2 : pc + 3 = q2) (kt : b = false → VG p l e R s m args below meth c nL Θ Q9 k n q LS rest G) (kf : b = true → VG p l e R s m args below meth c nL Θ Q9 k n q2 LS rest G) : VG p l e R s m args below meth c nL Θ Q9 k n pc LS (.int (b2i b) :: rest) G :=
  v_if_eq hC d hq hq2 (fun z => kt (b2i_eq0.mp z)) (fun z => kf (b2i_ne0.mp z))
theorem v_ifb_ne (hC : cC p l s m args meth c cc nL own Θ) {b : Bool} {off : Int} (d : decode cc pc = .ok (.ifCond .ne off, 3)) (hq : (pc : Int) + off = (q : Int)) (hq2 : pc + 3 = q2) (kt : b = true → VG p l e R s m args below meth c nL Θ Q9 k n q LS rest G) (kf : b = false → VG p l e R s m args below meth c nL Θ Q9 k n q2 LS rest G) : VG p l e R s m args below meth c nL Θ Q9 k n pc LS (.int (b2i b) :: rest) G :=
  v_if_ne hC d hq hq2 (fun z => kt (b2i_ne0.mp z)) (fun z => kf (b2i_eq0.mp z))
end MORE
def xNm : List String := ["java/lang/RuntimeException", "java/lang/Exception"]
theorem xg_S : ∀ w ∈ (vx_atS RX11 69 "java/lang/IllegalStateException" xNm).filter goodWord, w ∈ lw_tbl := by decide +kernel
theorem xg_X : ∀ w ∈ (vx_atS RX11 386 "java/lang/IndexOutOfBoundsException" xNm).filter goodWord, w ∈ lw_tbl := by decide +kernel
theorem xg_A : ∀ w ∈ (vx_atS RX11 256 "java/lang/IllegalArgumentException" xNm).filter goodWord, w ∈ lw_tbl := by decide +kernel
theorem xb_S : ∀ w ∈ (vx_atS RX11 69 "java/lang/IllegalStateException" xNm).filter (fun w => !goodWord w), w ∈ excW := by decide +kernel
theorem xb_X : ∀ w ∈ (vx_atS RX11 386 "java/lang/IndexOutOfBoundsException" xNm).filter (fun w => !goodWord w), w ∈ excW := by decide +kernel
theorem xb_A : ∀ w ∈ (vx_atS RX11 256 "java/lang/IllegalArgumentException" xNm).filter (fun w => !goodWord w), w ∈ excW := by decide +kernel
theorem xo_S : ∀ w ∈ vx_atS RX11 69 "java/lang/IllegalStateException" xNm, vx_ot w = true := by decide +kernel
theorem xo_X : ∀ w ∈ vx_atS RX11 386 "java/lang/IndexOutOfBoundsException" xNm, vx_ot w = true := by decide +kernel
theorem xo_A : ∀ w ∈ vx_atS RX11 256 "java/lang/IllegalArgumentException" xNm, vx_ot w = true := by decide +kernel
theorem excW_ot : ∀ w ∈ excW, w.onTables = true := by decide +kernel
theorem cG_kept {Θ : cTH} {G : GS} {H H1 : Heap} (h : cG Θ G H) (hq : ∀ q : Nat, q < H.size → H1[q]? = H[q]?) : cG Θ G H1 := ⟨h.1.kept fun k q hk => hq _ (h.1 k q hk).lt, h.2⟩
section THR
variable {p : Program} {l : Launch} {e : Env} {R : Room} {s : State} {m : MethodId} {args : Array Value} {below : List Frame} {meth : Method} {c : Code} {cc : ByteArray} {nL : Nat} {Θ : cTH} {Qp : cOut → GS → Prop} {Q9 : State → Prop} {mc ms k n pc q : Nat} {LS : List (Option Value)} {st rest : List Value} {G : GS}
theorem v_throw0 (hC : cC p l s m args meth c cc nL RX11 Θ) {E : String} {ic ik is i : Nat} {text : String} (hE : Bundle.fit E = true) (hini : Cond.initialized E ∈ wALL) (hg : ∀ w ∈ (vx_atS RX11 ic E xNm).filter goodWord, w ∈ lw_tbl) (hb : ∀ w ∈ (vx_atS RX11 ic E xNm).filter (fun w => !goodWord w), w ∈ excW) (ho : ∀ w ∈ vx_atS RX11 ic E xNm, vx_ot w = true)
    (d0 : decode cc pc = .ok (.new ik, 3)) (d3 : decode cc (pc + 3) = .ok (.dup, 1)) (d4 : decode cc (pc + 4) = .ok (.ldc is, 2)) (d6 : decode cc (pc + 6) = .ok (.invokespecial ic, 3)) (d9 : decode cc (pc + 9) = .ok (.athrow, 1)) (hcl : Cond.classLink RX11 ik E ∈ wALL) (htx : txtW[i]? = some (is, text))
    (hR : 5 < R.frames ∧ (rest.map fun v => v.category).sum + 82 ≤ R.locals ∧ k + 1 ≤ R.cells ∧ n + 6 ≤ R.slots ∧ k + 1 ≤ mc ∧ n + 6 ≤ ms) (hq : Qp (.inr E) G) : V p l e R s m args below meth c nL Θ Qp mc ms k n pc LS rest G := by
  intro H locs ls hH hS hl
  obtain ⟨sa, hsa⟩ := hC.2.2.2.2.2.2.1.2.2.2.1 _ (List.mem_of_getElem? htx)
  obtain ⟨r1, r2, r3, r4, r5, r6⟩ := hR
  refine vx_throwS hC.1 hC.2.1 hC.2.2.2.2.2.2.2.1 (names := xNm) (A := tA Θ) (cC_own hC) hE (by decide +kernel) (cC_hts hC hcl) (cC_hts hC hini) hsa ?_ ?_ hC.2.2.2.2.2.2.2.2.2.1.1 hC.2.2.2.2.2.2.2.2.2.1.2.1 hS (by rw [hl.1, hC.2.2.1]) d0 d3 d4 d6 d9 (fun x hx => absurd (hC.2.2.2.2.2.2.2.2.1 (by decide) x hx) id) r1 r2 r3 r4 hC.2.2.2.2.2.1 ?_ hS.2.2 r5 r6
  · exact vx_hat (B := excW) (fun w hw => cC_hts hC (List.mem_filter.mpr ⟨hg w hw, (List.mem_filter.mp hw).2⟩)) hb (fun w hw => va_Nw.use (excW_ot w hw) (hC.2.2.2.2.2.2.1.2.2.1 w hw))
  · exact List.forall_mem_cons.mpr ⟨rfl, List.forall_mem_cons.mpr ⟨rfl, ho⟩⟩
  · intro t ha hz hk
    exact ⟨⟨G, hq, cG_kept hH hk⟩, Nat.le_trans hS.1 hz, fun q9 h1 h2 => by rw [hk q9 (Nat.lt_of_lt_of_le h1 hS.1)]; exact hS.2.1 q9 h1 h2⟩
theorem v_throw0W (hC : cC p l s m args meth c cc nL RX11 Θ) {E : String} {ic ik is i : Nat} {text : String} (hE : Bundle.fit E = true) (hini : Cond.initialized E ∈ wALL) (hg : ∀ w ∈ (vx_atS RX11 ic E xNm).filter goodWord, w ∈ lw_tbl) (hb : ∀ w ∈ (vx_atS RX11 ic E xNm).filter (fun w => !goodWord w), w ∈ excW) (ho : ∀ w ∈ vx_atS RX11 ic E xNm, vx_ot w = true)
    (d0 : decode cc pc = .ok (.new ik, 3)) (d3 : decode cc (pc + 3) = .ok (.dup, 1)) (d4 : decode cc (pc + 4) = .ok (.ldc_w is, 3)) (d6 : decode cc (pc + 7) = .ok (.invokespecial ic, 3)) (d9 : decode cc (pc + 10) = .ok (.athrow, 1)) (hcl : Cond.classLink RX11 ik E ∈ wALL) (htx : txtW[i]? = some (is, text))
    (hR : 5 < R.frames ∧ (rest.map fun v => v.category).sum + 82 ≤ R.locals ∧ k + 1 ≤ R.cells ∧ n + 6 ≤ R.slots ∧ k + 1 ≤ mc ∧ n + 6 ≤ ms) (hq : Qp (.inr E) G) : V p l e R s m args below meth c nL Θ Qp mc ms k n pc LS rest G := by
  intro H locs ls hH hS hl
  obtain ⟨sa, hsa⟩ := hC.2.2.2.2.2.2.1.2.2.2.1 _ (List.mem_of_getElem? htx)
  obtain ⟨r1, r2, r3, r4, r5, r6⟩ := hR
  refine vx_throwSW hC.1 hC.2.1 hC.2.2.2.2.2.2.2.1 (names := xNm) (A := tA Θ) (cC_own hC) hE (by decide +kernel) (cC_hts hC hcl) (cC_hts hC hini) hsa ?_ ?_ hC.2.2.2.2.2.2.2.2.2.1.1 hC.2.2.2.2.2.2.2.2.2.1.2.1 hS (by rw [hl.1, hC.2.2.1]) d0 d3 d4 d6 d9 (fun x hx => absurd (hC.2.2.2.2.2.2.2.2.1 (by decide) x hx) id) r1 r2 r3 r4 hC.2.2.2.2.2.1 ?_ hS.2.2 r5 r6
  · exact vx_hat (B := excW) (fun w hw => cC_hts hC (List.mem_filter.mpr ⟨hg w hw, (List.mem_filter.mp hw).2⟩)) hb (fun w hw => va_Nw.use (excW_ot w hw) (hC.2.2.2.2.2.2.1.2.2.1 w hw))
  · exact List.forall_mem_cons.mpr ⟨rfl, List.forall_mem_cons.mpr ⟨rfl, ho⟩⟩
  · intro t ha hz hk
    exact ⟨⟨G, hq, cG_kept hH hk⟩, Nat.le_trans hS.1 hz, fun q9 h1 h2 => by rw [hk q9 (Nat.lt_of_lt_of_le h1 hS.1)]; exact hS.2.1 q9 h1 h2⟩
theorem v_throwS (hC : cC p l s m args meth c cc nL RX11 Θ) {ik is i : Nat} {text : String} (d0 : decode cc pc = .ok (.new ik, 3)) (d3 : decode cc (pc + 3) = .ok (.dup, 1)) (d4 : decode cc (pc + 4) = .ok (.ldc is, 2)) (d6 : decode cc (pc + 6) = .ok (.invokespecial 69, 3)) (d9 : decode cc (pc + 9) = .ok (.athrow, 1)) (hcl : Cond.classLink RX11 ik "java/lang/IllegalStateException" ∈ wALL) (htx : txtW[i]? = some (is, text)) (hR : 5 < R.frames ∧ (rest.map fun v => v.category).sum + 82 ≤ R.locals ∧ k + 1 ≤ R.cells ∧ n + 6 ≤ R.slots ∧ k + 1 ≤ mc ∧ n + 6 ≤ ms) (hq : Qp (.inr "java/lang/IllegalStateException") G) : V p l e R s m args below meth c nL Θ Qp mc ms k n pc LS rest G := v_throw0 hC (by decide +kernel) in_java_lang_IllegalStateException xg_S xb_S xo_S d0 d3 d4 d6 d9 hcl htx hR hq
theorem v_throwSW (hC : cC p l s m args meth c cc nL RX11 Θ) {ik is i : Nat} {text : String} (d0 : decode cc pc = .ok (.new ik, 3)) (d3 : decode cc (pc + 3) = .ok (.dup, 1)) (d4 : decode cc (pc + 4) = .ok (.ldc_w is, 3)) (d6 : decode cc (pc + 7) = .ok (.invokespecial 69, 3)) (d9 : decode cc (pc + 10) = .ok (.athrow, 1)) (hcl : Cond.classLink RX11 ik "java/lang/IllegalStateException" ∈ wALL) (htx : txtW[i]? = some (is, text)) (hR : 5 < R.frames ∧ (rest.map fun v => v.category).sum + 82 ≤ R.locals ∧ k + 1 ≤ R.cells ∧ n + 6 ≤ R.slots ∧ k + 1 ≤ mc ∧ n + 6 ≤ ms) (hq : Qp (.inr "java/lang/IllegalStateException") G) : V p l e R s m args below meth c nL Θ Qp mc ms k n pc LS rest G := v_throw0W hC (by decide +kernel) in_java_lang_IllegalStateException xg_S xb_S xo_S d0 d3 d4 d6 d9 hcl htx hR hq
theorem v_throwX (hC : cC p l s m args meth c cc nL RX11 Θ) {ik is i : Nat} {text : String} (d0 : decode cc pc = .ok (.new ik, 3)) (d3 : decode cc (pc + 3) = .ok (.dup, 1)) (d4 : decode cc (pc + 4) = .ok (.ldc is, 2)) (d6 : decode cc (pc + 6) = .ok (.invokespecial 386, 3)) (d9 : decode cc (pc + 9) = .ok (.athrow, 1)) (hcl : Cond.classLink RX11 ik "java/lang/IndexOutOfBoundsException" ∈ wALL) (htx : txtW[i]? = some (is, text)) (hR : 5 < R.frames ∧ (rest.map fun v => v.category).sum + 82 ≤ R.locals ∧ k + 1 ≤ R.cells ∧ n + 6 ≤ R.slots ∧ k + 1 ≤ mc ∧ n + 6 ≤ ms) (hq : Qp (.inr "java/lang/IndexOutOfBoundsException") G) : V p l e R s m args below meth c nL Θ Qp mc ms k n pc LS rest G := v_throw0 hC (by decide +kernel) in_java_lang_IndexOutOfBoundsException xg_X xb_X xo_X d0 d3 d4 d6 d9 hcl htx hR hq
theorem v_throwXW (hC : cC p l s m args meth c cc nL RX11 Θ) {ik is i : Nat} {text : String} (d0 : decode cc pc = .ok (.new ik, 3)) (d3 : decode cc (pc + 3) = .ok (.dup, 1)) (d4 : decode cc (pc + 4) = .ok (.ldc_w is, 3)) (d6 : decode cc (pc + 7) = .ok (.invokespecial 386, 3)) (d9 : decode cc (pc + 10) = .ok (.athrow, 1)) (hcl : Cond.classLink RX11 ik "java/lang/IndexOutOfBoundsException" ∈ wALL) (htx : txtW[i]? = some (is, text)) (hR : 5 < R.frames ∧ (rest.map fun v => v.category).sum + 82 ≤ R.locals ∧ k + 1 ≤ R.cells ∧ n + 6 ≤ R.slots ∧ k + 1 ≤ mc ∧ n + 6 ≤ ms) (hq : Qp (.inr "java/lang/IndexOutOfBoundsException") G) : V p l e R s m args below meth c nL Θ Qp mc ms k n pc LS rest G := v_throw0W hC (by decide +kernel) in_java_lang_IndexOutOfBoundsException xg_X xb_X xo_X d0 d3 d4 d6 d9 hcl htx hR hq
theorem v_throwA (hC : cC p l s m args meth c cc nL RX11 Θ) {ik is i : Nat} {text : String} (d0 : decode cc pc = .ok (.new ik, 3)) (d3 : decode cc (pc + 3) = .ok (.dup, 1)) (d4 : decode cc (pc + 4) = .ok (.ldc is, 2)) (d6 : decode cc (pc + 6) = .ok (.invokespecial 256, 3)) (d9 : decode cc (pc + 9) = .ok (.athrow, 1)) (hcl : Cond.classLink RX11 ik "java/lang/IllegalArgumentException" ∈ wALL) (htx : txtW[i]? = some (is, text)) (hR : 5 < R.frames ∧ (rest.map fun v => v.category).sum + 82 ≤ R.locals ∧ k + 1 ≤ R.cells ∧ n + 6 ≤ R.slots ∧ k + 1 ≤ mc ∧ n + 6 ≤ ms) (hq : Qp (.inr "java/lang/IllegalArgumentException") G) : V p l e R s m args below meth c nL Θ Qp mc ms k n pc LS rest G := v_throw0 hC (by decide +kernel) in_java_lang_IllegalArgumentException xg_A xb_A xo_A d0 d3 d4 d6 d9 hcl htx hR hq
theorem v_throwAW (hC : cC p l s m args meth c cc nL RX11 Θ) {ik is i : Nat} {text : String} (d0 : decode cc pc = .ok (.new ik, 3)) (d3 : decode cc (pc + 3) = .ok (.dup, 1)) (d4 : decode cc (pc + 4) = .ok (.ldc_w is, 3)) (d6 : decode cc (pc + 7) = .ok (.invokespecial 256, 3)) (d9 : decode cc (pc + 10) = .ok (.athrow, 1)) (hcl : Cond.classLink RX11 ik "java/lang/IllegalArgumentException" ∈ wALL) (htx : txtW[i]? = some (is, text)) (hR : 5 < R.frames ∧ (rest.map fun v => v.category).sum + 82 ≤ R.locals ∧ k + 1 ≤ R.cells ∧ n + 6 ≤ R.slots ∧ k + 1 ≤ mc ∧ n + 6 ≤ ms) (hq : Qp (.inr "java/lang/IllegalArgumentException") G) : V p l e R s m args below meth c nL Θ Qp mc ms k n pc LS rest G := v_throw0W hC (by decide +kernel) in_java_lang_IllegalArgumentException xg_A xb_A xo_A d0 d3 d4 d6 d9 hcl htx hR hq
end THR
