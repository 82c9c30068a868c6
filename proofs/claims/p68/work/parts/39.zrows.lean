/-! The walk over a world that is a list of cells, for what is made before the world of Θ stands: the constructors, and what makes a State later. -/
def VL (p : Program) (l : Launch) (e : Env) (R : Room) (s : State) (m : MethodId) (args : Array Value) (below : List Frame) (meth : Method) (c : Code) (nL : Nat) (Θ : cTH) (Q9 : State → Prop) (k n : Nat) (pc : Nat) (LS : List (Option Value)) (st : List Value) (ws : va_W) : Prop :=
  ∀ (H : Heap) (locs : List Loc) (ls : Array Slot), (va_P (tD Θ) vwCl ws H ∧ va_D (tA Θ) ws) → va_S (tA Θ) s.heap H locs → lvH ls nL LS → W p l e R s m args below meth c H locs k n Q9 (F0 m pc ls st)
def zQ (Θ : cTH) (Qw : Option Value → va_W → Prop) : Array Value → State → Outcome → State → Prop := fun _ st oc t => (∃ (r : Option Value) (w : va_W), oc = .returned r ∧ Qw r w ∧ va_P (tD Θ) vwCl w t.heap ∧ va_D (tA Θ) w) ∧ va_F (tA Θ) st t
def zX : String → State → State → Prop := fun _ _ _ => False
def zP (Θ : cTH) (as : List Value) (ws : va_W) : Array Value → State → Prop := va_Pc as (fun U => cK Θ U ∧ (va_P (tD Θ) vwCl ws U.heap ∧ va_D (tA Θ) ws) ∧ cZ Θ U U.heap ∧ tB Θ ≤ U.heap.size ∧ va_AO RX9 U)
/-- a contract over a list of cells -/
def Lt (l : Launch) (y : MethodName) (cc : ByteArray) (n : Nat) (ret : Option FieldType) (rm : Room) (Θ : cTH) (as : List Value) (ws : va_W) (Qw : Option Value → va_W → Prop) : Prop :=
  vx_Met l y (Cond.code y cc n ret :: wALL) rm (zP Θ as ws) (zQ Θ Qw) zX rm.cells rm.slots (tA Θ)
theorem zP_blind {Θ : cTH} {as : List Value} {ws : va_W} : FrameBlind (zP Θ as ws) := by
  intro a U g mk h
  obtain ⟨h1, h2, h3, h4, h5, h6⟩ := h
  exact ⟨h1, cK.same (s := U) (U := U.calling g mk a) rfl h2, h3, h4.moved (U := U.calling g mk a) (Vm.Alike.refl U.vm), h5, va_AO.moved (U := U.calling g mk a) (Vm.Alike.refl U.vm) h6⟩
section ZROWS
variable {p : Program} {l : Launch} {e : Env} {R : Room} {s : State} {m : MethodId} {args : Array Value} {below : List Frame} {meth : Method} {c : Code} {cc : ByteArray} {nL : Nat} {own : String} {Θ : cTH} {Qw : Option Value → va_W → Prop} {Q9 : State → Prop} {mc ms k n pc q : Nat} {LS : List (Option Value)} {st rest : List Value} {ws w0 l1 : va_W}
theorem z_lift {st1 st2 : List Value} {LS2 : List (Option Value)} (h : ∀ (H : Heap) (locs : List Loc) (ls : Array Slot) (Q : State → Prop), lvH ls nL LS → (∀ ls2 : Array Slot, lvH ls2 nL LS2 → W p l e R s m args below meth c H locs k n Q (F0 m q ls2 st2)) → W p l e R s m args below meth c H locs k n Q (F0 m pc ls st1)) (kk : VL p l e R s m args below meth c nL Θ Q9 k n q LS2 st2 ws) : VL p l e R s m args below meth c nL Θ Q9 k n pc LS st1 ws :=
  fun H locs ls hH hS hl => h H locs ls _ hl (fun ls2 hl2 => kk H locs ls2 hH hS hl2)
theorem z_lift0 {st1 st2 : List Value} (h : ∀ (H : Heap) (locs : List Loc) (ls : Array Slot) (Q : State → Prop), W p l e R s m args below meth c H locs k n Q (F0 m q ls st2) → W p l e R s m args below meth c H locs k n Q (F0 m pc ls st1)) (kk : VL p l e R s m args below meth c nL Θ Q9 k n q LS st2 ws) : VL p l e R s m args below meth c nL Θ Q9 k n pc LS st1 ws :=
  fun H locs ls hH hS hl => h H locs ls _ (kk H locs ls hH hS hl)
theorem z_iconst (hC : cC p l s m args meth c cc nL own Θ) {z : Int} {v : Int32} (d : decode cc pc = .ok (.iconst z, 1)) (hq : pc + 1 = q) (hv : Int32.ofInt z = v) (kk : VL p l e R s m args below meth c nL Θ Q9 k n q LS (.int v :: rest) ws) : VL p l e R s m args below meth c nL Θ Q9 k n pc LS rest ws := by
  subst hq; exact z_lift0 (fun H locs ls Q w => lv_iconst hC.1 hC.2.1 d hv w) kk
theorem z_bipush (hC : cC p l s m args meth c cc nL own Θ) {z : Int} {v : Int32} (d : decode cc pc = .ok (.bipush z, 2)) (hq : pc + 2 = q) (hv : (Int8.ofInt z).toInt32 = v) (kk : VL p l e R s m args below meth c nL Θ Q9 k n q LS (.int v :: rest) ws) : VL p l e R s m args below meth c nL Θ Q9 k n pc LS rest ws := by
  subst hq; exact z_lift0 (fun H locs ls Q w => lv_bipush hC.1 hC.2.1 d hv w) kk
theorem z_sipush (hC : cC p l s m args meth c cc nL own Θ) {z : Int} {v : Int32} (d : decode cc pc = .ok (.sipush z, 3)) (hq : pc + 3 = q) (hv : (Int16.ofInt z).toInt32 = v) (kk : VL p l e R s m args below meth c nL Θ Q9 k n q LS (.int v :: rest) ws) : VL p l e R s m args below meth c nL Θ Q9 k n pc LS rest ws := by
  subst hq; exact z_lift0 (fun H locs ls Q w => lv_sipush hC.1 hC.2.1 d hv w) kk
theorem z_iload_n (hC : cC p l s m args meth c cc nL own Θ) {f : Fin 4} {i : Nat} {x : Int32} (d : decode cc pc = .ok (.iload_n f, 1)) (hi : (f : Nat) = i) (hq : pc + 1 = q) (hL : LS[i]? = some (some (.int x))) (kk : VL p l e R s m args below meth c nL Θ Q9 k n q LS (.int x :: rest) ws) : VL p l e R s m args below meth c nL Θ Q9 k n pc LS rest ws := by
  subst hq; exact z_lift (fun H locs ls Q hl w => lv_iload_n hC.1 hC.2.1 d hi (lvH_at hl hL) (w ls hl)) kk
theorem z_iload (hC : cC p l s m args meth c cc nL own Θ) {i : Nat} {x : Int32} (d : decode cc pc = .ok (.iload i, 2)) (hq : pc + 2 = q) (hL : LS[i]? = some (some (.int x))) (kk : VL p l e R s m args below meth c nL Θ Q9 k n q LS (.int x :: rest) ws) : VL p l e R s m args below meth c nL Θ Q9 k n pc LS rest ws := by
  subst hq; exact z_lift (fun H locs ls Q hl w => lv_iload hC.1 hC.2.1 d (lvH_at hl hL) (w ls hl)) kk
theorem z_aload_n (hC : cC p l s m args meth c cc nL own Θ) {f : Fin 4} {i : Nat} {x : Nat} (d : decode cc pc = .ok (.aload_n f, 1)) (hi : (f : Nat) = i) (hq : pc + 1 = q) (hL : LS[i]? = some (some (.ref x))) (kk : VL p l e R s m args below meth c nL Θ Q9 k n q LS (.ref x :: rest) ws) : VL p l e R s m args below meth c nL Θ Q9 k n pc LS rest ws := by
  subst hq; exact z_lift (fun H locs ls Q hl w => lv_aload_n hC.1 hC.2.1 d hi (lvH_at hl hL) (w ls hl)) kk
theorem z_aload (hC : cC p l s m args meth c cc nL own Θ) {i : Nat} {x : Nat} (d : decode cc pc = .ok (.aload i, 2)) (hq : pc + 2 = q) (hL : LS[i]? = some (some (.ref x))) (kk : VL p l e R s m args below meth c nL Θ Q9 k n q LS (.ref x :: rest) ws) : VL p l e R s m args below meth c nL Θ Q9 k n pc LS rest ws := by
  subst hq; exact z_lift (fun H locs ls Q hl w => lv_aload hC.1 hC.2.1 d (lvH_at hl hL) (w ls hl)) kk
theorem z_istore_n (hC : cC p l s m args meth c cc nL own Θ) {f : Fin 4} {i : Nat} {x : Int32} {LS2 : List (Option Value)} (d : decode cc pc = .ok (.istore_n f, 1)) (hi : (f : Nat) = i) (hq : pc + 1 = q) (hc : lvC LS i) (hn : i < nL) (hi2 : i < LS.length) (h2 : LS.set i (some (.int x)) = LS2) (kk : VL p l e R s m args below meth c nL Θ Q9 k n q LS2 rest ws) : VL p l e R s m args below meth c nL Θ Q9 k n pc LS (.int x :: rest) ws := by
  subst hq; subst h2; exact z_lift (fun H locs ls Q hl w => lv_istore_n hC.1 hC.2.1 d hi hl hn rfl (fun ls2 h9 => w ls2 (lvH_set hc h9 hi2))) kk
theorem z_istore (hC : cC p l s m args meth c cc nL own Θ) {i : Nat} {x : Int32} {LS2 : List (Option Value)} (d : decode cc pc = .ok (.istore i, 2)) (hq : pc + 2 = q) (hc : lvC LS i) (hn : i < nL) (hi2 : i < LS.length) (h2 : LS.set i (some (.int x)) = LS2) (kk : VL p l e R s m args below meth c nL Θ Q9 k n q LS2 rest ws) : VL p l e R s m args below meth c nL Θ Q9 k n pc LS (.int x :: rest) ws := by
  subst hq; subst h2; exact z_lift (fun H locs ls Q hl w => lv_istore hC.1 hC.2.1 d hl hn rfl (fun ls2 h9 => w ls2 (lvH_set hc h9 hi2))) kk
theorem z_astore_n (hC : cC p l s m args meth c cc nL own Θ) {f : Fin 4} {i : Nat} {x : Nat} {LS2 : List (Option Value)} (d : decode cc pc = .ok (.astore_n f, 1)) (hi : (f : Nat) = i) (hq : pc + 1 = q) (hc : lvC LS i) (hn : i < nL) (hi2 : i < LS.length) (h2 : LS.set i (some (.ref x)) = LS2) (kk : VL p l e R s m args below meth c nL Θ Q9 k n q LS2 rest ws) : VL p l e R s m args below meth c nL Θ Q9 k n pc LS (.ref x :: rest) ws := by
  subst hq; subst h2; exact z_lift (fun H locs ls Q hl w => lv_astore_n hC.1 hC.2.1 d hi hl hn rfl (fun ls2 h9 => w ls2 (lvH_set hc h9 hi2))) kk
theorem z_iinc (hC : cC p l s m args meth c cc nL own Θ) {i : Nat} {z : Int} {x v : Int32} {LS2 : List (Option Value)} (d : decode cc pc = .ok (.iinc i z, 3)) (hq : pc + 3 = q) (hL : LS[i]? = some (some (.int x))) (hv : x + Int32.ofInt z = v) (hc : lvC LS i) (hn : i < nL) (hi2 : i < LS.length) (h2 : LS.set i (some (.int v)) = LS2) (kk : VL p l e R s m args below meth c nL Θ Q9 k n q LS2 rest ws) : VL p l e R s m args below meth c nL Θ Q9 k n pc LS rest ws := by
  subst hq; subst h2
  refine z_lift (fun H locs ls Q hl w => ?_) kk
  obtain ⟨k9, hk9⟩ := List.getElem?_of_mem (lvL_mem.mpr ⟨Nat.zero_le i, by simpa using hL⟩ : (i, Value.int x) ∈ lvL 0 LS)
  exact lv_iinc hC.1 hC.2.1 d hl hk9 hv hn rfl (fun ls2 h9 => w ls2 (lvH_set hc h9 hi2))
theorem z_iadd (hC : cC p l s m args meth c cc nL own Θ) {x y : Int32} (d : decode cc pc = .ok (.iadd, 1)) (hq : pc + 1 = q) (kk : VL p l e R s m args below meth c nL Θ Q9 k n q LS (.int (x + y) :: rest) ws) : VL p l e R s m args below meth c nL Θ Q9 k n pc LS (.int y :: .int x :: rest) ws := by
  subst hq; exact z_lift0 (fun H locs ls Q w => lv_iadd hC.1 hC.2.1 d w) kk
theorem z_imul (hC : cC p l s m args meth c cc nL own Θ) {x y : Int32} (d : decode cc pc = .ok (.imul, 1)) (hq : pc + 1 = q) (kk : VL p l e R s m args below meth c nL Θ Q9 k n q LS (.int (x * y) :: rest) ws) : VL p l e R s m args below meth c nL Θ Q9 k n pc LS (.int y :: .int x :: rest) ws := by
  subst hq; exact z_lift0 (fun H locs ls Q w => lv_imul hC.1 hC.2.1 d w) kk
theorem z_dup (hC : cC p l s m args meth c cc nL own Θ) {va : Value} (d : decode cc pc = .ok (.dup, 1)) (hq : pc + 1 = q) (hva : va.category = 1) (kk : VL p l e R s m args below meth c nL Θ Q9 k n q LS (va :: va :: rest) ws) : VL p l e R s m args below meth c nL Θ Q9 k n pc LS (va :: rest) ws := by
  subst hq; exact z_lift0 (fun H locs ls Q w => lv_dup hC.1 hC.2.1 d hva w) kk
theorem z_goto (hC : cC p l s m args meth c cc nL own Θ) {off : Int} (d : decode cc pc = .ok (.goto off, 3)) (hq : (pc : Int) + off = (q : Int)) (kk : VL p l e R s m args below meth c nL Θ Q9 k n q LS st ws) : VL p l e R s m args below meth c nL Θ Q9 k n pc LS st ws :=
  z_lift0 (fun H locs ls Q w => lv_goto hC.1 hC.2.1 d hq w) kk
theorem z_icmp_ge (hC : cC p l s m args meth c cc nL own Θ) {x y : Int32} {off : Int} {q2 : Nat} (d : decode cc pc = .ok (.if_icmp .ge off, 3)) (hq : (pc : Int) + off = (q : Int)) (hq2 : pc + 3 = q2) (kt : y ≤ x → VL p l e R s m args below meth c nL Θ Q9 k n q LS rest ws) (kf : ¬ y ≤ x → VL p l e R s m args below meth c nL Θ Q9 k n q2 LS rest ws) : VL p l e R s m args below meth c nL Θ Q9 k n pc LS (.int y :: .int x :: rest) ws := by
  subst hq2; exact fun H locs ls hH hS hl => lv_icmp_ge hC.1 hC.2.1 d hq (fun z => kt z H locs ls hH hS hl) (fun z => kf z H locs ls hH hS hl)
theorem app_at {w0 l1 : va_W} {i : Nat} {x : Nat × va_E} (h : l1[i]? = some x) : (w0 ++ l1)[w0.length + i]? = some x := by
  rw [List.getElem?_append_right (Nat.le_add_right _ _), Nat.add_sub_cancel_left]; exact h
theorem app_set {w0 l1 : va_W} {i : Nat} {x : Nat × va_E} : (w0 ++ l1).set (w0.length + i) x = w0 ++ l1.set i x := by
  rw [List.set_append_right _ _ (Nat.le_add_right _ _), Nat.add_sub_cancel_left]
theorem cC_A (hC : cC p l s m args meth c cc nL own Θ) : ∀ q, s.heap.size ≤ q → tA Θ q := fun _ h => Nat.le_trans hC.2.2.2.2.2.2.2.2.2.2 h
theorem z_objInit (hC : cC p l s m args meth c cc nL own Θ) {idx a : Nat} (d : decode cc pc = .ok (.invokespecial idx, 3)) (hq : pc + 3 = q) (hlk : Cond.methodLink own idx objectInit ∈ wALL) (hsz : (rest.map fun v => v.category).sum ≤ 8) (hR : 1 ≤ R.frames ∧ 20 ≤ R.locals) (kk : VL p l e R s m args below meth c nL Θ Q9 k n q LS rest ws) : VL p l e R s m args below meth c nL Θ Q9 k n pc LS (.ref a :: rest) ws := by
  subst hq
  intro H locs ls hH hS hl
  exact W.objInit hC.1 hC.2.1 (cC_own hC) (cC_hts hC hlk) (cC_hts hC im_objectInit) (cC_hts hC cd_objectInit) rfl (by rw [hC.2.2.1]; exact hl.1) rfl d hR.1 (by show 2 * 0 + _ + 12 ≤ _; have := hR.2; omega) (kk H locs ls hH hS hl)
theorem z_new (hC : cC p l s m args meth c cc nL own Θ) {idx ci N : Nat} {C : String} {T : u_T} {fs : List Value} {ty : Nat → FieldType} (d : decode cc pc = .ok (.new idx, 3)) (hq : pc + 3 = q) (hcl : vwCl[ci]? = some (C, T, N)) (hin : ∀ w ∈ u_ws C T N, w ∈ wALL) (hlk : Cond.classLink own idx C ∈ wALL) (hia : Cond.instantiable C N ∈ wALL) (hii : Cond.initialized C ∈ wALL) (hty : ∀ k, k < N → parseFieldDescriptor (T k).2.2.1 = some (ty k)) (hfs : ∀ j, j < N → defaultValue (ty j) = vp_V fs j) (hk : k + 1 ≤ R.cells) (hn : n + N ≤ R.slots)
    (kk : ∀ a : Nat, VL p l e R s m args below meth c nL Θ Q9 (k + 1) (n + N) q LS (.ref a :: rest) (ws ++ [(a, .inr (ci, fs))])) : VL p l e R s m args below meth c nL Θ Q9 k n pc LS rest ws := by
  subst hq
  intro H locs ls hH hS hl
  exact va_new hC.1 hC.2.1 hC.2.2.2.2.1 hin ty hty (cC_own hC) (cC_hts hC hlk) (cC_hts hC hia) (cC_hts hC hii) (cC_K hC) hH.1 hH.2 hS (cC_A hC) hcl hfs hk hn d (fun a H1 hP hD hS1 => kk a H1 locs ls ⟨hP, hD⟩ hS1 hl)
theorem cls_eq {s : State} {D : va_G} {cl : List vw_C} {tys : List (ClassId × FieldType)} {c1 c2 : ClassId} {ty : FieldType} {i : Nat} (hn : ∀ C, ty ≠ .object C) (h1 : va_K D cl tys s) (hi : tys[i]? = some (c1, ty)) (h2 : va_K D cl (tys ++ [(c2, ty)]) s) : c2 = c1 := by
  have a1 := (h1.2 i _ hi).2
  have a2 := (h2.2 tys.length (c2, ty) (by simp)).2
  cases ty with
  | object C => exact absurd rfl (hn C)
  | _ => exact Option.some.inj (a2.symm.trans a1)
theorem cls_eqO {s : State} {D : va_G} {cl : List vw_C} {tys : List (ClassId × FieldType)} {c1 c2 : ClassId} {C : String} {i : Nat} (h1 : va_K D cl tys s) (hi : tys[i]? = some (c1, .object C)) (h2 : va_K D cl (tys ++ [(c2, .object C)]) s) : c2 = c1 := by
  obtain ⟨_, _, _, _, _, a1⟩ := (h1.2 i _ hi).2
  obtain ⟨_, _, _, _, _, a2⟩ := (h2.2 tys.length (c2, .object C) (by simp)).2
  exact Option.some.inj (a2.symm.trans a1)
theorem z_newi (hC : cC p l s m args meth c cc nL own Θ) {x : Int32} {N : Nat} (d : decode cc pc = .ok (.newarray .int, 2)) (hq : pc + 2 = q) (hx : ¬ x < 0) (hN : x.toNatClampNeg = N) (hb : N * 4 ≤ 536870912) (hk : k + 1 ≤ R.cells) (hn : n + N ≤ R.slots)
    (kk : ∀ a : Nat, VL p l e R s m args below meth c nL Θ Q9 (k + 1) (n + N) q LS (.ref a :: rest) (ws ++ [(a, .inl (tI Θ, N, .inl (fun _ => 0)))])) : VL p l e R s m args below meth c nL Θ Q9 k n pc LS (.int x :: rest) ws := by
  subst hq
  intro H locs ls hH hS hl
  refine va_newa (atype := .int) hC.1 hC.2.1 (cC_hts hC ac__int) (ty := .int) rfl (cC_K hC) hH.1 hH.2 hS (cC_A hC) (a0 := (N, .inl (fun _ => 0))) (fun cA => rfl) hx hN hb hk hn d (fun a cA H1 hK2 hP hD hS1 => ?_)
  have h9 : cA = tI Θ := cls_eq (i := 0) (fun C h => by cases h) (cC_K hC) rfl hK2
  subst h9
  exact kk a H1 locs ls ⟨hP, hD⟩ hS1 hl
theorem z_newj (hC : cC p l s m args meth c cc nL own Θ) {x : Int32} {N : Nat} (d : decode cc pc = .ok (.newarray .long, 2)) (hq : pc + 2 = q) (hx : ¬ x < 0) (hN : x.toNatClampNeg = N) (hb : N * 8 ≤ 536870912) (hk : k + 1 ≤ R.cells) (hn : n + N ≤ R.slots)
    (kk : ∀ a : Nat, VL p l e R s m args below meth c nL Θ Q9 (k + 1) (n + N) q LS (.ref a :: rest) (ws ++ [(a, .inl (tJ Θ, N, .inr (.inl (fun _ => 0))))])) : VL p l e R s m args below meth c nL Θ Q9 k n pc LS (.int x :: rest) ws := by
  subst hq
  intro H locs ls hH hS hl
  refine va_newa (atype := .long) hC.1 hC.2.1 (cC_hts hC ac__long) (ty := .long) rfl (cC_K hC) hH.1 hH.2 hS (cC_A hC) (a0 := (N, .inr (.inl (fun _ => 0)))) (fun cA => rfl) hx hN hb hk hn d (fun a cA H1 hK2 hP hD hS1 => ?_)
  have h9 : cA = tJ Θ := cls_eq (i := 2) (fun C h => by cases h) (cC_K hC) rfl hK2
  subst h9
  exact kk a H1 locs ls ⟨hP, hD⟩ hS1 hl
theorem z_newq (hC : cC p l s m args meth c cc nL own Θ) (hO : va_AO RX9 s) {x : Int32} {N idx : Nat} (d : decode cc pc = .ok (.anewarray idx, 3)) (hq : pc + 3 = q) (hlk : Cond.classLink own idx RX9 ∈ wALL) (hx : ¬ x < 0) (hN : x.toNatClampNeg = N) (hb : N * 4 ≤ 536870912) (hk : k + 1 ≤ R.cells) (hn : n + N ≤ R.slots)
    (kk : ∀ a : Nat, VL p l e R s m args below meth c nL Θ Q9 (k + 1) (n + N) q LS (.ref a :: rest) (ws ++ [(a, .inl (tS Θ, N, .inr (.inr (.inr (.inr (fun _ => none))))))])) : VL p l e R s m args below meth c nL Θ Q9 k n pc LS (.int x :: rest) ws := by
  subst hq
  intro H locs ls hH hS hl
  refine va_newq hC.1 hC.2.1 (cC_own hC) (cC_hts hC hlk) hO (cC_K hC) hH.1 hH.2 hS (cC_A hC) hx hN hb hk hn d (fun a cA H1 hK2 hP hD hS1 => ?_)
  have h9 : cA = tS Θ := cls_eqO (i := 1) (cC_K hC) rfl hK2
  subst h9
  exact kk a H1 locs ls ⟨hP, hD⟩ hS1 hl
theorem z_putF (hC : cC p l s m args meth c cc nL own Θ) {i a ci j N idx : Nat} {C : String} {T : u_T} {fs : List Value} {v : Value} {ty0 : Nat → FieldType} {ty : FieldType} {l2 : va_W} (d : decode cc pc = .ok (.putfield idx, 3)) (hq : pc + 3 = q) (hi : l1[i]? = some (a, .inr (ci, fs))) (hcl : vwCl[ci]? = some (C, T, N)) (hin : ∀ w ∈ u_ws C T N, w ∈ wALL) (hty : ∀ k, k < N → parseFieldDescriptor (T k).2.2.1 = some (ty0 k)) (hnm : ∀ a, a < N → ∀ b, b < N → a ≠ b → (T a).2.1 ≠ (T b).2.1) (hj : j < N) (hd : parseFieldDescriptor (T j).2.2.1 = some ty) (hfin : (T j).2.2.2 = true) (hdecl : (T j).1 = own) (hl9 : j < fs.length) (hlk : Cond.fieldLink own idx (T j).1 (T j).2.1 (T j).2.2.1 ∈ wALL) (hin2 : meth.name = "<init>") (hnv : narrow ty v = v) (hfv : fits ty v = true) (h2 : l1.set i (a, .inr (ci, fs.set j v)) = l2)
    (kk : VL p l e R s m args below meth c nL Θ Q9 k n q LS rest (w0 ++ l2)) : VL p l e R s m args below meth c nL Θ Q9 k n pc LS (v :: .ref a :: rest) (w0 ++ l1) := by
  subst hq; subst h2
  intro H locs ls hH hS hl
  exact va_putF hC.1 hC.2.1 hC.2.2.2.2.1 hin ty0 hty hnm (cC_own hC) (cC_K hC) hH.1 hH.2 hS (w0.length + i) (app_at hi) hcl j hj (cC_hts hC hlk) (fun _ h => h) hfin hin2 hdecl hd hnv hfv hl9 d (fun H1 locs1 hP hD hS1 => by
    rw [app_set] at hP hD
    exact kk H1 locs1 ls ⟨hP, hD⟩ hS1 hl)
theorem z_put (hC : cC p l s m args meth c cc nL own Θ) {i a ci j N idx : Nat} {C : String} {T : u_T} {fs : List Value} {v : Value} {ty0 : Nat → FieldType} {ty : FieldType} {l2 : va_W} (d : decode cc pc = .ok (.putfield idx, 3)) (hq : pc + 3 = q) (hi : l1[i]? = some (a, .inr (ci, fs))) (hcl : vwCl[ci]? = some (C, T, N)) (hin : ∀ w ∈ u_ws C T N, w ∈ wALL) (hty : ∀ k, k < N → parseFieldDescriptor (T k).2.2.1 = some (ty0 k)) (hnm : ∀ a, a < N → ∀ b, b < N → a ≠ b → (T a).2.1 ≠ (T b).2.1) (hj : j < N) (hd : parseFieldDescriptor (T j).2.2.1 = some ty) (hfin : (T j).2.2.2 = false) (hl9 : j < fs.length) (hlk : Cond.fieldLink own idx (T j).1 (T j).2.1 (T j).2.2.1 ∈ wALL) (hnv : narrow ty v = v) (hfv : fits ty v = true) (h2 : l1.set i (a, .inr (ci, fs.set j v)) = l2)
    (kk : VL p l e R s m args below meth c nL Θ Q9 k n q LS rest (w0 ++ l2)) : VL p l e R s m args below meth c nL Θ Q9 k n pc LS (v :: .ref a :: rest) (w0 ++ l1) := by
  subst hq; subst h2
  intro H locs ls hH hS hl
  exact va_put hC.1 hC.2.1 hC.2.2.2.2.1 hin ty0 hty hnm (cC_own hC) (cC_K hC) hH.1 hH.2 hS (w0.length + i) (app_at hi) hcl j hj (cC_hts hC hlk) (fun _ h => h) hfin hd hnv hfv hl9 d (fun H1 locs1 hP hD hS1 => by
    rw [app_set] at hP hD
    exact kk H1 locs1 ls ⟨hP, hD⟩ hS1 hl)
theorem z_get (hC : cC p l s m args meth c cc nL own Θ) {i a ci j N idx : Nat} {C : String} {T : u_T} {fs : List Value} {v : Value} (d : decode cc pc = .ok (.getfield idx, 3)) (hq : pc + 3 = q) (hi : l1[i]? = some (a, .inr (ci, fs))) (hcl : vwCl[ci]? = some (C, T, N)) (hin : ∀ w ∈ u_ws C T N, w ∈ wALL) (hj : j < N) (hv : fs[j]? = some v) (hlk : Cond.fieldLink own idx (T j).1 (T j).2.1 (T j).2.2.1 ∈ wALL)
    (kk : VL p l e R s m args below meth c nL Θ Q9 k n q LS (v :: rest) (w0 ++ l1)) : VL p l e R s m args below meth c nL Θ Q9 k n pc LS (.ref a :: rest) (w0 ++ l1) := by
  subst hq
  intro H locs ls hH hS hl
  exact va_get hC.1 hC.2.1 hC.2.2.2.2.1 hin (cC_own hC) (cC_K hC) hH.1 (w0.length + i) (app_at hi) hcl j hj (cC_hts hC hlk) (fun _ h => h) hv d (kk H locs ls hH hS hl)
theorem z_iast (hC : cC p l s m args meth c cc nL own Θ) {i a N : Nat} {j x : Int32} {f : Nat → Int32} {l2 : va_W} (d : decode cc pc = .ok (.iastore, 1)) (hq : pc + 1 = q) (hi : l1[i]? = some (a, .inl (tI Θ, N, .inl f))) (hin : vp_in j N) (h2 : l1.set i (a, .inl (tI Θ, N, .inl (upd f j.toNatClampNeg x))) = l2)
    (kk : VL p l e R s m args below meth c nL Θ Q9 k n q LS rest (w0 ++ l2)) : VL p l e R s m args below meth c nL Θ Q9 k n pc LS (.int x :: .int j :: .ref a :: rest) (w0 ++ l1) := by
  subst hq; subst h2
  intro H locs ls hH hS hl
  exact va_iast hC.1 hC.2.1 (cC_K hC) hH.1 hH.2 hS (w0.length + i) 0 (app_at hi) rfl hin d (fun H1 locs1 hP hD hS1 => by
    rw [app_set] at hP hD
    exact kk H1 locs1 ls ⟨hP, hD⟩ hS1 hl)
theorem z_aast (hC : cC p l s m args meth c cc nL own Θ) {i i2 a b N : Nat} {j : Int32} {f : Nat → Option Nat} {vs : List Value} {l2 : va_W} (d : decode cc pc = .ok (.aastore, 1)) (hq : pc + 1 = q) (hi : l1[i]? = some (a, .inl (tS Θ, N, .inr (.inr (.inr (.inr f)))))) (hi2 : l1[i2]? = some (b, .inr (8, vs))) (hin : vp_in j N) (h2 : l1.set i (a, .inl (tS Θ, N, .inr (.inr (.inr (.inr (va_up f j.toNatClampNeg (some b))))))) = l2)
    (kk : VL p l e R s m args below meth c nL Θ Q9 k n q LS rest (w0 ++ l2)) : VL p l e R s m args below meth c nL Θ Q9 k n pc LS (.ref b :: .int j :: .ref a :: rest) (w0 ++ l1) := by
  subst hq; subst h2
  intro H locs ls hH hS hl
  exact va_astq hC.1 hC.2.1 (cC_K hC) hH.1 hH.2 hS (w0.length + i) 1 (w0.length + i2) 8 (r := (RX9, TX9, 4)) (app_at hi) rfl (app_at hi2) rfl hin d (fun H1 locs1 hP hD hS1 => by
    rw [app_set] at hP hD
    exact kk H1 locs1 ls ⟨hP, hD⟩ hS1 hl)
theorem z_vret (hC : cC p l s m args meth c cc nL own Θ) (d : decode cc pc = .ok (.return_, 1)) (hr : meth.sig.returnType = none) (hq : Qw none ws) (hk : k ≤ mc) (hm : n ≤ ms) : VL p l e R s m args below meth c nL Θ (vx_MQ below (zQ Θ Qw) zX args s mc ms (tA Θ)) k n pc LS [] ws := by
  intro H locs ls hH hS hl
  refine W.widen hk hm ?_
  exact vx_ret (W.vret hC.1 hC.2.1 hr (fun t ht hW => ⟨⟨none, ws, rfl, hq, by rw [ht]; exact hH⟩, hS.F ht⟩) hS.2.2 d hC.2.2.2.2.2.1)
theorem z_iret (hC : cC p l s m args meth c cc nL own Θ) {x : Int32} {ty : FieldType} (d : decode cc pc = .ok (.ireturn, 1)) (hr : meth.sig.returnType = some ty) (hn : narrow ty (.int x) = .int x) (hq : Qw (some (.int x)) ws) (hk : k ≤ mc) (hm : n ≤ ms) : VL p l e R s m args below meth c nL Θ (vx_MQ below (zQ Θ Qw) zX args s mc ms (tA Θ)) k n pc LS [.int x] ws := by
  intro H locs ls hH hS hl
  refine W.widen hk hm ?_
  exact vx_ret (W.zret hC.1 hC.2.1 hr hn (fun t ht hW => ⟨⟨some (.int x), ws, rfl, hq, by rw [ht]; exact hH⟩, hS.F ht⟩) hS.2.2 d hC.2.2.2.2.2.1)
theorem z_of_run {mc1 ms1 : Nat} {a9 : Array Value} {Qc : Option Value → va_W → Prop} (hrun : ∀ (H : Heap) (locs : List Loc) (ls : Array Slot), (va_P (tD Θ) vwCl ws H ∧ va_D (tA Θ) ws) → va_S (tA Θ) s.heap H locs → lvH ls nL LS → vx_Run p l e R s m args below meth c H locs k n mc1 ms1 (F0 m pc ls st) rest (zQ Θ Qc a9) zX (tA Θ)) (hq : pc + 3 = q)
    (kk : ∀ (r : Option Value) (w : va_W), Qc r w → VL p l e R s m args below meth c nL Θ Q9 (k + mc1) (n + ms1) q LS (r.toList ++ rest) w) : VL p l e R s m args below meth c nL Θ Q9 k n pc LS st ws := by
  subst hq
  intro H locs ls hH hS hl T hT X
  rcases hrun H locs ls hH hS hl T hT X with ⟨v, st₀, t, T', L, h0, X', hL, e1, e2, ⟨⟨r, w, hv, hp, hb⟩, hF⟩, sx⟩ | ⟨_, _, _, _, _, _, _, _, _, _, _, _, hx, _⟩
  · injection hv with hv9; subst hv9
    obtain ⟨k1, k2, k3⟩ := vx_keep h0 e1 hS (fun _ _ h => h) (fun _ h => h) hL hF
    obtain ⟨t2, a1, b1⟩ := kk _ w hp T'.heap (locs ++ L) ls (by rw [e1]; exact hb) k3 hl T' rfl X'
    exact ⟨t2, sx t2 a1, b1⟩
  · exact hx.elim
theorem zC_pre (hC : cC p l s m args meth c cc nL own Θ) (hO : va_AO RX9 s) {as : List Value} {H : Heap} {locs : List Loc} (hH : va_P (tD Θ) vwCl ws H ∧ va_D (tA Θ) ws) (hS : va_S (tA Θ) s.heap H locs) : ∀ U : State, U.heap = H → s.WarmedH U.vm → zP Θ as ws as.toArray U := by
  intro U hU hW
  obtain ⟨-, -, -, -, -, -, hK, -, -, hZ, hz⟩ := hC
  refine ⟨rfl, hK.warm hW, by rw [hU]; exact hH, ?_, by rw [hU]; exact Nat.le_trans hz hS.1, va_AO.moved hW.alike hO⟩
  rw [hU]
  exact (hZ.kept hS.2.1).moved hW.alike
/-- a constructor of a nest mate -/
theorem z_callIN (hC : cC p l s m args meth c cc nL own Θ) (hO : va_AO RX9 s) {y : MethodName} {cy : ByteArray} {nY na idx b : Nat} {rm : Room} {As : List Value} {Qc : Option Value → va_W → Prop} (hM : Lt l y cy nY none rm Θ (.ref b :: As) ws Qc) (ky : kY y cy nY none na) (him : Cond.instanceMethod y ∈ wALL) (hy : y.name = "<init>") (hml : Cond.methodLinkNest own idx y RX11 ∈ nestW) (d : decode cc pc = .ok (.invokespecial idx, 3)) (hq : pc + 3 = q)
    (hna : As.length = na) (hst : st = As.reverse ++ .ref b :: rest) (hsz : (rest.map fun v => v.category).sum ≤ 8) (hR : rm.frames + 1 ≤ R.frames ∧ 8 + (nY + 11) + rm.locals ≤ R.locals) (hcs : k + rm.cells ≤ R.cells ∧ n + rm.slots ≤ R.slots)
    (kk : ∀ (r : Option Value) (w : va_W), Qc r w → VL p l e R s m args below meth c nL Θ Q9 (k + rm.cells) (n + rm.slots) q LS (r.toList ++ rest) w) : VL p l e R s m args below meth c nL Θ Q9 k n pc LS st ws := by
  refine z_of_run (a9 := (Value.ref b :: As).toArray) (fun H locs ls hH hS hl => ?_) hq kk
  obtain ⟨h1, h2, h3, h4⟩ := ky
  refine vx_runIN ⟨hC.1, hC.2.1, hC.2.2.1, cC_own hC, hC.2.2.2.2.1⟩ hM ⟨⟨⟨rfl, rfl, hR.1, hR.2, cC_pay hC h1, List.mem_cons_self⟩, cC_hts hC h1, cC_hts hC h4, h2, fun sig h => ?_, va_Nw.use rfl (hC.2.2.2.2.2.2.1.2.1 _ hml)⟩, hy, cC_hts hC him⟩ ⟨zP_blind, zC_pre hC hO hH hS⟩ rfl hna hl.1 hst (lv_room hsz) d hcs
  rw [h] at h3
  exact (Option.some.inj h3).symm
/-- a constructor -/
theorem z_callI (hC : cC p l s m args meth c cc nL own Θ) (hO : va_AO RX9 s) {y : MethodName} {cy : ByteArray} {nY na idx b : Nat} {rm : Room} {As : List Value} {Qc : Option Value → va_W → Prop} (hM : Lt l y cy nY none rm Θ (.ref b :: As) ws Qc) (ky : kY y cy nY none na) (him : Cond.instanceMethod y ∈ wALL) (hy : y.name = "<init>") (hml : Cond.methodLink own idx y ∈ wALL) (d : decode cc pc = .ok (.invokespecial idx, 3)) (hq : pc + 3 = q)
    (hna : As.length = na) (hst : st = As.reverse ++ .ref b :: rest) (hsz : (rest.map fun v => v.category).sum ≤ 8) (hR : rm.frames + 1 ≤ R.frames ∧ 8 + (nY + 11) + rm.locals ≤ R.locals) (hcs : k + rm.cells ≤ R.cells ∧ n + rm.slots ≤ R.slots)
    (kk : ∀ (r : Option Value) (w : va_W), Qc r w → VL p l e R s m args below meth c nL Θ Q9 (k + rm.cells) (n + rm.slots) q LS (r.toList ++ rest) w) : VL p l e R s m args below meth c nL Θ Q9 k n pc LS st ws :=
  z_of_run (a9 := (Value.ref b :: As).toArray) (fun H locs ls hH hS hl => vx_runI ⟨hC.1, hC.2.1, hC.2.2.1, cC_own hC, hC.2.2.2.2.1⟩ hM ⟨kY_callB hC ky hml hR, hy, cC_hts hC him⟩ ⟨zP_blind, zC_pre hC hO hH hS⟩ rfl hna hl.1 hst (lv_room hsz) d hcs) hq kk
end ZROWS
theorem lt_of {l : Launch} {y : MethodName} {cc : ByteArray} {n : Nat} {ret : Option FieldType} {rm : Room} {Θ : cTH} {as : List Value} {ws : va_W} {Qw : Option Value → va_W → Prop} {LS : List (Option Value)} (hl : l.stackTraces = false) (hy : plainName y.cls = true) (hc : as.all (fun v => v.category == 1) = true) (hn : as.length ≤ n) (hLS : as.map some ++ List.replicate (n - as.length) none = LS)
    (body : ∀ (p : Program) (e : Env) (s : State) (m : MethodId) (args : Array Value) (below : List Frame) (meth : Method) (c : Code), cC p l s m args meth c cc n y.cls Θ → va_AO RX9 s → meth.name = y.name → meth.sig.returnType = ret → VL p l e rm s m args below meth c n Θ (vx_MQ below (zQ Θ Qw) zX args s rm.cells rm.slots (tA Θ)) 0 0 0 LS [] ws) : Lt l y cc n ret rm Θ as ws Qw := by
  refine vx_ofW (cc := cc) (maxL := n) (ret := ret) hy rfl ?_
  intro p e s m args below meth c s₁ B hml htb hP
  obtain ⟨rfl, hK, hG, hZ, hz, hO⟩ := hP
  have hts := atoms_spec (ws := Cond.code y cc n ret :: wALL) B.pre
  have hC : cC p l s m as.toArray meth c cc n y.cls Θ := ⟨B.exec, B.bytes, hml, findClass_of_methodNamed B.named, fun w hw => hts w (List.mem_cons_of_mem _ hw), B.notSynchronized, hK, hl, fun _ => htb, hZ, hz⟩
  have hb := body p e s m as.toArray below meth c hC hO (name_of_methodNamed B.named B.method).1 B.returns
  obtain ⟨h1, h2⟩ := lvH_entry hc hn
  have hls := h2 _ (lv_entry as h1)
  rw [lg_entry_eq]
  refine hb s.heap [] _ hG va_S.rf (lvH_sub hls ?_)
  intro i v hi
  rw [← hLS] at hi
  by_cases hlt : i < (as.map some).length
  · rw [List.getElem?_append_left hlt] at hi; exact hi
  · rw [List.getElem?_append_right (Nat.not_lt.mp hlt)] at hi
    have h9 := List.eq_of_mem_replicate (List.mem_of_getElem? hi)
    cases h9
