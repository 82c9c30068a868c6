/-! The law's wrappers -/
def setO (G : GS) (v : Int64) : GS := (G.1, G.2.1, G.2.2.1, v)
theorem cellS_o {Θ : cTH} {r o : Nat} {f a : Nat → Int32} {lv : Nat → Bool} {v v2 : Int64} (h : o < 38) : cellS Θ r o f a (lv, v) = cellS Θ r o f a (lv, v2) := by
  match o, h with
  | 0, _ => rfl
  | 1, _ => rfl
  | 2, _ => rfl
  | 3, _ => rfl
  | 4, _ => rfl
  | 5, _ => rfl
  | 6, _ => rfl
  | 7, _ => rfl
  | 8, _ => rfl
  | 9, _ => rfl
  | 10, _ => rfl
  | 11, _ => rfl
  | 12, _ => rfl
  | 13, _ => rfl
  | 14, _ => rfl
  | 15, _ => rfl
  | 16, _ => rfl
  | 17, _ => rfl
  | 18, _ => rfl
  | 19, _ => rfl
  | 20, _ => rfl
  | 21, _ => rfl
  | 22, _ => rfl
  | 23, _ => rfl
  | 24, _ => rfl
  | 25, _ => rfl
  | 26, _ => rfl
  | 27, _ => rfl
  | 28, _ => rfl
  | 29, _ => rfl
  | 30, _ => rfl
  | 31, _ => rfl
  | 32, _ => rfl
  | 33, _ => rfl
  | 34, _ => rfl
  | 35, _ => rfl
  | 36, _ => rfl
  | 37, _ => rfl
  | o + 38, h => exact absurd h (by omega)
theorem ids_38 {lv : Nat → Bool} {r o : Nat} (h : (r, o) ∈ ids lv) : (r = 0 ∧ o = 38) ∨ o < 38 := by
  have hf : ∀ r2 : Nat, (r, o) ∈ fam r2 → o < 38 := by
    intro r2 h2
    obtain ⟨j, hj, e⟩ := List.mem_map.mp h2
    cases e
    have := List.mem_range.mp hj
    omega
  unfold ids at h
  rcases List.mem_append.mp h with h | h
  · rcases List.mem_append.mp h with h | h
    · rcases List.mem_append.mp h with h | h
      · obtain ⟨r2, -, h2⟩ := List.mem_flatMap.mp h
        exact Or.inr (hf r2 h2)
      · obtain ⟨j, hj, e⟩ := List.mem_map.mp h
        cases e
        have := List.mem_range.mp hj
        by_cases hj2 : j = 24
        · exact Or.inl ⟨rfl, by omega⟩
        · exact Or.inr (by omega)
    · by_cases hl : lv 0 = true
      · rw [if_pos hl] at h; exact Or.inr (hf 6 h)
      · rw [if_neg hl] at h; cases h
  · by_cases hl : lv 1 = true
    · rw [if_pos hl] at h; exact Or.inr (hf 7 h)
    · rw [if_neg hl] at h; cases h
theorem cW_putO {Θ : cTH} {G : GS} {A : Nat → Prop} {k : Nat} {v : Int64} (hD : va_D A (cW Θ G)) (hk : (ids G.2.2.1)[k]? = some (0, 38)) : (cW Θ G).set k (tR Θ 0 38, .inl (tJ Θ, 1, .inr (.inl (fun _ => v)))) = cW Θ (setO G v) := by
  unfold cW
  refine map_set9 (g := fun i => (tR Θ i.1 i.2, cellS Θ i.1 i.2 ((setO G v).1 i.1 i.2) ((setO G v).2.1 i.1 i.2) (setO G v).2.2)) hk ?_ rfl
  intro i y hy hi
  obtain ⟨r2, o2⟩ := y
  rcases ids_38 (List.mem_of_getElem? hy) with ⟨rfl, rfl⟩ | h
  · exfalso
    apply hi
    have e1 : (cW Θ G)[i]? = some (tR Θ 0 38, cellS Θ 0 38 (G.1 0 38) (G.2.1 0 38) G.2.2) := by unfold cW; rw [List.getElem?_map, hy]; rfl
    have e2 : (cW Θ G)[k]? = some (tR Θ 0 38, cellS Θ 0 38 (G.1 0 38) (G.2.1 0 38) G.2.2) := by unfold cW; rw [List.getElem?_map, hk]; rfl
    exact hD.1 i k _ _ e1 e2 rfl
  · show (tR Θ r2 o2, cellS Θ r2 o2 (G.1 r2 o2) (G.2.1 r2 o2) (G.2.2.1, v)) = (tR Θ r2 o2, cellS Θ r2 o2 (G.1 r2 o2) (G.2.1 r2 o2) (G.2.2.1, G.2.2.2))
    rw [cellS_o h]
theorem cell_extL {cA : ClassId} {n : Nat} {f g : Nat → Int64} (h : ∀ j, j < n → f j = g j) : vp_cell cA (n, .inr (.inl f)) = vp_cell cA (n, .inr (.inl g)) := by
  rw [vp_cell_l, vp_cell_l]
  unfold arrV
  have e : (Array.ofFn (n := n) fun j => Value.long (f j.val)) = Array.ofFn (n := n) fun j => Value.long (g j.val) := by
    congr 1
    funext j
    rw [h j.val j.isLt]
  rw [e]
theorem va_P_extL {D : va_G} {cl : List vw_C} {ws : va_W} {H : Heap} (h : va_P D cl ws H) {k n a : Nat} {cA : ClassId} {f g : Nat → Int64} (hk : ws[k]? = some (a, .inl (cA, n, .inr (.inl f)))) (hfg : ∀ j, j < n → f j = g j) : va_P D cl (ws.set k (a, .inl (cA, n, .inr (.inl g)))) H := by
  intro i q hq
  by_cases hi : i = k
  · subst hi
    have hlt : i < ws.length := (List.getElem?_eq_some_iff.mp hk).1
    rw [List.getElem?_set_self hlt] at hq
    cases hq
    have h1 := h i _ hk
    show H[a]? = some (vp_cell cA (n, .inr (.inl g)))
    rw [← cell_extL hfg]
    exact h1
  · rw [List.getElem?_set_ne (fun z => hi z.symm)] at hq
    exact h i q hq
theorem split_at9 {α : Type} : ∀ (l : List α) (i : Nat) (x : α), l[i]? = some x → l = l.take i ++ x :: l.drop (i + 1) := by
  intro l
  induction l with
  | nil => intro i x h; simp at h
  | cons a t ih =>
    intro i x h
    cases i with
    | zero => simp at h; subst h; rfl
    | succ i =>
      simp at h
      have h2 := ih i x h
      show a :: t = a :: (t.take i ++ x :: t.drop (i + 1))
      rw [← h2]
section LROWS
variable {p : Program} {l : Launch} {e : Env} {R : Room} {s : State} {m : MethodId} {args : Array Value} {below : List Frame} {meth : Method} {c : Code} {cc : ByteArray} {nL : Nat} {own : String} {Θ : cTH} {Qp : cOut → GS → Prop} {Q9 : State → Prop} {mc ms2 k n pc q : Nat} {LS : List (Option Value)} {st rest : List Value} {G : GS}
theorem v_i2l (hC : cC p l s m args meth c cc nL own Θ) {x : Int32} (d : decode cc pc = .ok (.i2l, 1)) (hq : pc + 1 = q) (kk : VG p l e R s m args below meth c nL Θ Q9 k n q LS (.long x.toInt64 :: rest) G) : VG p l e R s m args below meth c nL Θ Q9 k n pc LS (.int x :: rest) G := by
  subst hq; exact v_lift0 (fun H locs ls Q w => lv_i2l hC.1 hC.2.1 d rfl w) kk
theorem v_astore (hC : cC p l s m args meth c cc nL own Θ) {i : Nat} {x : Nat} {LS2 : List (Option Value)} (d : decode cc pc = .ok (.astore i, 2)) (hq : pc + 2 = q) (hc : lvC LS i) (hn : i < nL) (hi2 : i < LS.length) (h2 : LS.set i (some (.ref x)) = LS2) (kk : VG p l e R s m args below meth c nL Θ Q9 k n q LS2 rest G) : VG p l e R s m args below meth c nL Θ Q9 k n pc LS (.ref x :: rest) G := by
  subst hq; subst h2; exact v_lift (fun H locs ls Q hl w => lv_astore hC.1 hC.2.1 d hl hn rfl (fun ls2 h9 => w ls2 (lvH_set hc h9 hi2))) kk
theorem v_lconst (hC : cC p l s m args meth c cc nL own Θ) {z : Fin 2} {v : Int64} (d : decode cc pc = .ok (.lconst z, 1)) (hq : pc + 1 = q) (hv : Int64.ofNat (z : Nat) = v) (kk : VG p l e R s m args below meth c nL Θ Q9 k n q LS (.long v :: rest) G) : VG p l e R s m args below meth c nL Θ Q9 k n pc LS rest G := by
  subst hq; exact v_lift0 (fun H locs ls Q w => lv_lconst hC.1 hC.2.1 d hv w) kk
theorem v_lastO (hC : cC p l s m args meth c cc nL own Θ) {v : Int64} (d : decode cc pc = .ok (.lastore, 1)) (hq : pc + 1 = q) (kk : VG p l e R s m args below meth c nL Θ Q9 k n q LS rest (setO G v)) : VG p l e R s m args below meth c nL Θ Q9 k n pc LS (.long v :: .int 0 :: .ref (tR Θ 0 38) :: rest) G := by
  subst hq
  intro H locs ls hH hS hl
  obtain ⟨k9, hi9, hk9⟩ := cW_get Θ G (r := 0) (o := 38) rfl
  refine va_last hC.1 hC.2.1 (cC_K hC) hH.1 hH.2 hS k9 3 (n := 1) (f := fun _ => G.2.2.2) hk9 rfl (vp_in_nI (n := 0) (N := 1) (by decide) (by decide)) d (fun H1 locs1 hP hD hS1 => ?_)
  have hlt : k9 < (cW Θ G).length := (List.getElem?_eq_some_iff.mp hk9).1
  have hP2 := va_P_extL (g := fun _ => v) hP (List.getElem?_set_self hlt) (fun j hj => by have ej : j = 0 := (by omega); subst ej; rfl)
  have hD2 := va_D.set (e := .inl (tJ Θ, 1, .inr (.inl (fun _ => v)))) hD (List.getElem?_set_self hlt)
  rw [List.set_set, cW_putO hH.2 hi9] at hP2 hD2
  exact kk H1 locs1 ls ⟨hP2, hD2⟩ hS1 hl
/-- a call under a table of handlers -/
theorem v_of_runT (hC : cC p l s m args meth c cc nL RL Θ) {hh : List (Nat × Nat × Nat × Nat)} (hT : c.exceptionTable.toList = tableOf hh) {mc1 ms1 : Nat} {a9 : Array Value} {Qc : cOut → GS → Prop} (hrun : ∀ (H : Heap) (locs : List Loc) (ls : Array Slot), cG Θ G H → va_S (tA Θ) s.heap H locs → lvH ls nL LS → vx_Run p l e R s m args below meth c H locs k n mc1 ms1 (F0 m pc ls st) rest (cQ Θ Qc a9) (cX Θ Qc) (tA Θ)) (hq : pc + 3 = q)
    (kk : ∀ (r : Option Value) (G1 : GS), Qc (.inl r) G1 → VG p l e R s m args below meth c nL Θ Q9 (k + mc1) (n + ms1) q LS (r.toList ++ rest) G1)
    (kx : ∀ (E : String) (G1 : GS), Qc (.inr E) G1 → ∃ (i : Nat) (x : ExceptionTableEntry) (nm : String), (tableOf hh)[i]? = some x ∧ (∀ z ∈ (tableOf hh).take i, covers z pc = false ∨ (z.catchType ≠ 0 ∧ ∃ nm : String, Cond.classLink RL z.catchType nm ∈ wALL ∧ (E, nm) ∈ ncW)) ∧ covers x pc = true ∧ x.catchType ≠ 0 ∧ Cond.classLink RL x.catchType nm ∈ wALL ∧ Cond.castable E nm ∈ excW ∧ ∀ q9 : Nat, VG p l e R s m args below meth c nL Θ Q9 (k + mc1) (n + ms1) x.handlerPc LS [.ref q9] G1) : VG p l e R s m args below meth c nL Θ Q9 k n pc LS st G := by
  subst hq
  intro H locs ls hH hS hl T hT9 X
  rcases hrun H locs ls hH hS hl T hT9 X with ⟨v, st₀, t, T', L, h0, X', hL, e1, e2, ⟨⟨r, G1, hv, hp, hb⟩, hF⟩, sx⟩ | ⟨q, st₀, t, T', L, E, ce, h0, X', hL, e1, e2, ⟨⟨G1, hp, hb⟩, hF⟩, hce, hcv, hcl, sx⟩
  · injection hv with hv9; subst hv9
    obtain ⟨k1, k2, k3⟩ := vx_keep h0 e1 hS (fun _ _ h => h) (fun _ h => h) hL hF
    obtain ⟨t2, a1, b1⟩ := kk _ G1 hp T'.heap (locs ++ L) ls (by rw [e1]; exact hb) k3 hl T' rfl X'
    exact ⟨t2, sx t2 a1, b1⟩
  · obtain ⟨k1, k2, k3⟩ := vx_keep h0 e1 hS (fun _ _ h => h) (fun _ h => h) hL hF
    obtain ⟨i, x, nm, y1, y2, y3, y4, y5, y6, y7⟩ := kx E G1 hp
    have hcast : (Cond.castable E nm).before args s = true := va_Nw.use (excW_ot _ y6) (hC.2.2.2.2.2.2.1.2.2.1 _ y6)
    obtain ⟨t2, a1, b1⟩ := (vx_catch (cC_own hC) _ x _ (by rw [hT]; exact split_at9 _ i x y1) (fun z hz => by
      rcases y2 z hz with h | ⟨h3, nm2, h4, h5⟩
      · exact Or.inl h
      · exact Or.inr ⟨h3, nm2, cC_hts hC h4, hC.2.2.2.2.2.2.1.2.2.2.2.2 _ h5⟩) y3 y4 (cC_hts hC y5) hcast (by rw [e1]; exact hce) hcv hcl (y7 q T'.heap (locs ++ L) ls (by rw [e1]; exact hb) k3 hl)) T' rfl X'
    exact ⟨t2, sx.trans a1, b1⟩
theorem v_callTry (hC : cC p l s m args meth c cc nL RL Θ) {hh : List (Nat × Nat × Nat × Nat)} (hT : c.exceptionTable.toList = tableOf hh) {y : MethodName} {cy : ByteArray} {nY na : Nat} {ret : Option FieldType} {rm : Room} {idx r o ci N : Nat} {T : u_T} {fs As : List Value} {Qc : cOut → GS → Prop} (hM : Ct l y cy nY ret rm Θ (.ref (tR Θ r o) :: As) G Qc) (ky : kY y cy nY ret na) (him : Cond.instanceMethod y ∈ wALL) (hse : Cond.selects y.cls y y ∈ wALL) (hml : Cond.methodLink RL idx y ∈ wALL) (d : decode cc pc = .ok (.invokevirtual idx, 3)) (hq : pc + 3 = q)
    (hid : okI G.2.2.1 r o = true) (hce : cellS Θ r o (G.1 r o) (G.2.1 r o) G.2.2 = .inr (ci, fs)) (hcl : vwCl[ci]? = some (y.cls, T, N)) (hna : As.length = na) (hst : st = As.reverse ++ .ref (tR Θ r o) :: rest) (hsz : (rest.map fun v => v.category).sum ≤ 8) (hR : rm.frames + 1 ≤ R.frames ∧ 8 + (nY + 11) + rm.locals ≤ R.locals) (hcs : k + rm.cells ≤ R.cells ∧ n + rm.slots ≤ R.slots)
    (kk : ∀ (r : Option Value) (G1 : GS), Qc (.inl r) G1 → VG p l e R s m args below meth c nL Θ Q9 (k + rm.cells) (n + rm.slots) q LS (r.toList ++ rest) G1)
    (kx : ∀ (E : String) (G1 : GS), Qc (.inr E) G1 → ∃ (i : Nat) (x : ExceptionTableEntry) (nm : String), (tableOf hh)[i]? = some x ∧ (∀ z ∈ (tableOf hh).take i, covers z pc = false ∨ (z.catchType ≠ 0 ∧ ∃ nm : String, Cond.classLink RL z.catchType nm ∈ wALL ∧ (E, nm) ∈ ncW)) ∧ covers x pc = true ∧ x.catchType ≠ 0 ∧ Cond.classLink RL x.catchType nm ∈ wALL ∧ Cond.castable E nm ∈ excW ∧ ∀ q9 : Nat, VG p l e R s m args below meth c nL Θ Q9 (k + rm.cells) (n + rm.slots) x.handlerPc LS [.ref q9] G1) : VG p l e R s m args below meth c nL Θ Q9 k n pc LS st G := by
  refine v_of_runT hC hT (a9 := (Value.ref (tR Θ r o) :: As).toArray) (fun H locs ls hH hS hl => ?_) hq kk kx
  obtain ⟨k9, -, hk9⟩ := cW_get Θ G hid
  rw [hce] at hk9
  exact vx_runV ⟨hC.1, hC.2.1, hC.2.2.1, cC_own hC, hC.2.2.2.2.1⟩ hM ⟨kY_callB hC ky hml hR, cC_hts hC him, cC_hts hC hse⟩ ⟨cP_blind, va_recv (cC_K hC) hH.1 hcl hk9, cC_pre hC hH hS⟩ rfl hna hl.1 hst (lv_room hsz) d hcs
end LROWS
/-- the contract of a method with handlers -/
def CtH (l : Launch) (y : MethodName) (cc : ByteArray) (n : Nat) (ret : Option FieldType) (hh : List (Nat × Nat × Nat × Nat)) (rm : Room) (Θ : cTH) (as : List Value) (G : GS) (Qp : cOut → GS → Prop) : Prop :=
  vx_Met l y (Cond.codeWith y cc n ret hh :: wALL) rm (cP Θ as G) (cQ Θ Qp) (cX Θ Qp) rm.cells rm.slots (tA Θ)
theorem cth_of {l : Launch} {y : MethodName} {cc : ByteArray} {n : Nat} {ret : Option FieldType} {hh : List (Nat × Nat × Nat × Nat)} {rm : Room} {Θ : cTH} {as : List Value} {G : GS} {Qp : cOut → GS → Prop} {LS : List (Option Value)} (hl : l.stackTraces = false) (hy : plainName y.cls = true) (hy2 : y.cls = RL) (hc : as.all (fun v => v.category == 1) = true) (hn : as.length ≤ n) (hLS : as.map some ++ List.replicate (n - as.length) none = LS)
    (body : ∀ (p : Program) (e : Env) (s : State) (m : MethodId) (args : Array Value) (below : List Frame) (meth : Method) (c : Code), cC p l s m args meth c cc n RL Θ → meth.sig.returnType = ret → c.exceptionTable.toList = tableOf hh → V p l e rm s m args below meth c n Θ Qp rm.cells rm.slots 0 0 0 LS [] G) : CtH l y cc n ret hh rm Θ as G Qp := by
  refine vx_ofWH (cc := cc) (maxL := n) (ret := ret) (hh := hh) hy rfl ?_
  intro p e s m args below meth c s₁ B hml hP
  obtain ⟨rfl, hK, hG, hZ, hz⟩ := hP
  have hts := atoms_spec (ws := Cond.codeWith y cc n ret hh :: wALL) B.pre
  have hC : cC p l s m as.toArray meth c cc n RL Θ := ⟨B.exec, B.bytes, hml, by rw [← hy2]; exact findClass_of_methodNamed B.named, fun w hw => hts w (List.mem_cons_of_mem _ hw), B.notSynchronized, hK, hl, fun z => absurd rfl z, hZ, hz⟩
  have hb := body p e s m as.toArray below meth c hC B.returns (vx_table (x := y) B (hts _ List.mem_cons_self))
  obtain ⟨h1, h2⟩ := lvH_entry hc hn
  have hls := h2 _ (lv_entry as h1)
  rw [lg_entry_eq]
  refine hb s.heap [] _ hG va_S.rf (lvH_sub hls ?_)
  intro i v hi
  rw [← hLS] at hi
  by_cases hlt : i < (as.map some).length
  · rw [List.getElem?_append_left hlt] at hi; exact hi
  · rw [List.getElem?_append_right (Nat.not_lt.mp hlt)] at hi
    have h9 := List.eq_of_mem_replicate (List.mem_of_getElem? hi)
    cases h9
/-- which number a throw gets: its place in the list of handlers -/
def cdE : List String → Int32 → String → Int32
  | [], k, _ => k
  | a :: r, k, E => if E = a then k else cdE r (k + 1) E
/-- what a wrapper answers: 0, and the answer laid down; or the number of the throw -/
def wQ (f : Int32 → Int64) (cs : List String) (Qc : cOut → GS → Prop) : cOut → GS → Prop := fun o G2 => (∃ (x : Int32) (G1 : GS), Qc (.inl (some (.int x))) G1 ∧ o = .inl (some (.int 0)) ∧ G2 = setO G1 (f x)) ∨ (∃ (E : String) (G1 : GS), Qc (.inr E) G1 ∧ o = .inl (some (.int (cdE cs 1 E))) ∧ G2 = G1)
def fI (x : Int32) : Int64 := x.toInt64
def fZ (x : Int32) : Int64 := if x = 0 then 0 else 1
abbrev rm_L_addUser : Room := { frames := 7, locals := 132, cells := 1, slots := 6 }
set_option maxHeartbeats 4000000 in
set_option maxRecDepth 20000 in
theorem w_L_addUser {l : Launch} (hl : l.stackTraces = false) (Θ : cTH) {Qc : cOut → GS → Prop} (G : GS) (hM : Ct l yX11_addUser cX11_addUser 1 (some .int) rm_X11_addUser Θ [.ref (tR Θ 0 14)] G Qc) (hv : ∀ r G1, Qc (.inl r) G1 → ∃ x : Int32, r = some (.int x)) (hx : ∀ E G1, Qc (.inr E) G1 → E = eS) : CtH l yL_addUser cL_addUser 3 (some .int) [(0, 8, 11, 13)] rm_L_addUser Θ [.ref (tR Θ 0 14), .ref (tR Θ 0 38)] G (wQ fI [eS] Qc) := by
  refine cth_of (LS := [some (.ref (tR Θ 0 14)), some (.ref (tR Θ 0 38)), none]) hl (by decide +kernel) rfl rfl (Nat.le_of_ble_eq_true rfl) rfl ?_
  intro p e s m args below meth c hC hr hT
  have HX : ∀ E9 G9, Qc (.inr E9) G9 → ∃ (i : Nat) (x : ExceptionTableEntry) (nm : String), (tableOf [(0, 8, 11, 13)])[i]? = some x ∧ (∀ z ∈ (tableOf [(0, 8, 11, 13)]).take i, covers z 3 = false ∨ (z.catchType ≠ 0 ∧ ∃ nm : String, Cond.classLink RL z.catchType nm ∈ wALL ∧ (E9, nm) ∈ ncW)) ∧ covers x 3 = true ∧ x.catchType ≠ 0 ∧ Cond.classLink RL x.catchType nm ∈ wALL ∧ Cond.castable E9 nm ∈ excW ∧ ∀ q9 : Nat, V p l e rm_L_addUser s m args below meth c 3 Θ (wQ fI [eS] Qc) rm_L_addUser.cells rm_L_addUser.slots (0 + rm_X11_addUser.cells) (0 + rm_X11_addUser.slots) x.handlerPc [some (.ref (tR Θ 0 14)), some (.ref (tR Θ 0 38)), none] [.ref q9] G9 := by
    intro E9 G9 z9
    rcases hx E9 G9 z9 with rfl
    · refine ⟨0, _, _, rfl, (fun z hz => absurd hz (by simp)), by decide, by decide, cl_RL_13, by decide, fun q9 => ?_⟩
      show V p l e rm_L_addUser s m args below meth c 3 Θ (wQ fI [eS] Qc) rm_L_addUser.cells rm_L_addUser.slots (0 + rm_X11_addUser.cells) (0 + rm_X11_addUser.slots) 11 [some (.ref (tR Θ 0 14)), some (.ref (tR Θ 0 38)), none] [.ref q9] G9
      refine v_astore_n (i := 2) (q := 12) hC dL_addUser_11 rfl rfl (lvc rfl) (Nat.le_of_ble_eq_true rfl) (Nat.le_of_ble_eq_true rfl) rfl ?_
      refine v_iconst (q := 13) (v := 1) hC dL_addUser_12 rfl (by decide) ?_
      refine v_iret hC dL_addUser_13 hr (rfl) ?_ (Nat.le_of_ble_eq_true rfl) (Nat.le_of_ble_eq_true rfl)
      exact Or.inr ⟨_, _, z9, by first | rfl | (congr 3), rfl⟩
  refine v_aload_n (i := 1) (q := 1) hC dL_addUser_0 rfl rfl rfl ?_
  refine v_iconst (q := 2) (v := 0) hC dL_addUser_1 rfl (by decide) ?_
  refine v_aload_n (i := 0) (q := 3) hC dL_addUser_2 rfl rfl rfl ?_
  refine v_callTry (q := 6) (rm := rm_X11_addUser) hC hT hM k_X11_addUser im_yX11_addUser se_yX11_addUser ml_RL_7 dL_addUser_3 rfl rfl rfl rfl rfl rfl (Nat.le_of_ble_eq_true rfl) ⟨Nat.le_of_ble_eq_true rfl, Nat.le_of_ble_eq_true rfl⟩ ⟨Nat.le_of_ble_eq_true rfl, Nat.le_of_ble_eq_true rfl⟩ (fun v9 G9 z9 => ?_) HX
  obtain ⟨x9, rfl⟩ := hv _ _ z9
  dsimp only [Option.toList, List.cons_append, List.nil_append]
  refine v_i2l (q := 7) hC dL_addUser_6 rfl ?_
  refine v_lastO (q := 8) hC dL_addUser_7 rfl ?_
  refine v_goto (q := 14) hC dL_addUser_8 (by decide) ?_
  refine v_iconst (q := 15) (v := 0) hC dL_addUser_14 rfl (by decide) ?_
  refine v_iret hC dL_addUser_15 hr (rfl) ?_ (Nat.le_of_ble_eq_true rfl) (Nat.le_of_ble_eq_true rfl)
  exact Or.inl ⟨x9, _, z9, rfl, rfl⟩
abbrev rm_L_addGroup : Room := { frames := 7, locals := 132, cells := 1, slots := 6 }
set_option maxHeartbeats 4000000 in
set_option maxRecDepth 20000 in
theorem w_L_addGroup {l : Launch} (hl : l.stackTraces = false) (Θ : cTH) {Qc : cOut → GS → Prop} (G : GS) (hM : Ct l yX11_addGroup cX11_addGroup 1 (some .int) rm_X11_addGroup Θ [.ref (tR Θ 0 14)] G Qc) (hv : ∀ r G1, Qc (.inl r) G1 → ∃ x : Int32, r = some (.int x)) (hx : ∀ E G1, Qc (.inr E) G1 → E = eS) : CtH l yL_addGroup cL_addGroup 3 (some .int) [(0, 8, 11, 13)] rm_L_addGroup Θ [.ref (tR Θ 0 14), .ref (tR Θ 0 38)] G (wQ fI [eS] Qc) := by
  refine cth_of (LS := [some (.ref (tR Θ 0 14)), some (.ref (tR Θ 0 38)), none]) hl (by decide +kernel) rfl rfl (Nat.le_of_ble_eq_true rfl) rfl ?_
  intro p e s m args below meth c hC hr hT
  have HX : ∀ E9 G9, Qc (.inr E9) G9 → ∃ (i : Nat) (x : ExceptionTableEntry) (nm : String), (tableOf [(0, 8, 11, 13)])[i]? = some x ∧ (∀ z ∈ (tableOf [(0, 8, 11, 13)]).take i, covers z 3 = false ∨ (z.catchType ≠ 0 ∧ ∃ nm : String, Cond.classLink RL z.catchType nm ∈ wALL ∧ (E9, nm) ∈ ncW)) ∧ covers x 3 = true ∧ x.catchType ≠ 0 ∧ Cond.classLink RL x.catchType nm ∈ wALL ∧ Cond.castable E9 nm ∈ excW ∧ ∀ q9 : Nat, V p l e rm_L_addGroup s m args below meth c 3 Θ (wQ fI [eS] Qc) rm_L_addGroup.cells rm_L_addGroup.slots (0 + rm_X11_addGroup.cells) (0 + rm_X11_addGroup.slots) x.handlerPc [some (.ref (tR Θ 0 14)), some (.ref (tR Θ 0 38)), none] [.ref q9] G9 := by
    intro E9 G9 z9
    rcases hx E9 G9 z9 with rfl
    · refine ⟨0, _, _, rfl, (fun z hz => absurd hz (by simp)), by decide, by decide, cl_RL_13, by decide, fun q9 => ?_⟩
      show V p l e rm_L_addGroup s m args below meth c 3 Θ (wQ fI [eS] Qc) rm_L_addGroup.cells rm_L_addGroup.slots (0 + rm_X11_addGroup.cells) (0 + rm_X11_addGroup.slots) 11 [some (.ref (tR Θ 0 14)), some (.ref (tR Θ 0 38)), none] [.ref q9] G9
      refine v_astore_n (i := 2) (q := 12) hC dL_addGroup_11 rfl rfl (lvc rfl) (Nat.le_of_ble_eq_true rfl) (Nat.le_of_ble_eq_true rfl) rfl ?_
      refine v_iconst (q := 13) (v := 1) hC dL_addGroup_12 rfl (by decide) ?_
      refine v_iret hC dL_addGroup_13 hr (rfl) ?_ (Nat.le_of_ble_eq_true rfl) (Nat.le_of_ble_eq_true rfl)
      exact Or.inr ⟨_, _, z9, by first | rfl | (congr 3), rfl⟩
  refine v_aload_n (i := 1) (q := 1) hC dL_addGroup_0 rfl rfl rfl ?_
  refine v_iconst (q := 2) (v := 0) hC dL_addGroup_1 rfl (by decide) ?_
  refine v_aload_n (i := 0) (q := 3) hC dL_addGroup_2 rfl rfl rfl ?_
  refine v_callTry (q := 6) (rm := rm_X11_addGroup) hC hT hM k_X11_addGroup im_yX11_addGroup se_yX11_addGroup ml_RL_15 dL_addGroup_3 rfl rfl rfl rfl rfl rfl (Nat.le_of_ble_eq_true rfl) ⟨Nat.le_of_ble_eq_true rfl, Nat.le_of_ble_eq_true rfl⟩ ⟨Nat.le_of_ble_eq_true rfl, Nat.le_of_ble_eq_true rfl⟩ (fun v9 G9 z9 => ?_) HX
  obtain ⟨x9, rfl⟩ := hv _ _ z9
  dsimp only [Option.toList, List.cons_append, List.nil_append]
  refine v_i2l (q := 7) hC dL_addGroup_6 rfl ?_
  refine v_lastO (q := 8) hC dL_addGroup_7 rfl ?_
  refine v_goto (q := 14) hC dL_addGroup_8 (by decide) ?_
  refine v_iconst (q := 15) (v := 0) hC dL_addGroup_14 rfl (by decide) ?_
  refine v_iret hC dL_addGroup_15 hr (rfl) ?_ (Nat.le_of_ble_eq_true rfl) (Nat.le_of_ble_eq_true rfl)
  exact Or.inl ⟨x9, _, z9, rfl, rfl⟩
abbrev rm_L_join : Room := { frames := 8, locals := 134, cells := 3, slots := 18 }
set_option maxHeartbeats 4000000 in
set_option maxRecDepth 20000 in
theorem w_L_join {l : Launch} (hl : l.stackTraces = false) (Θ : cTH) {Qc : cOut → GS → Prop} (a0 a1 : Int32) (G : GS) (hM : Ct l yX11_join cX11_join 3 (some .int) rm_X11_join Θ [.ref (tR Θ 0 14), .int a0, .int a1] G Qc) (hv : ∀ r G1, Qc (.inl r) G1 → ∃ x : Int32, r = some (.int x)) (hx : ∀ E G1, Qc (.inr E) G1 → E = eX ∨ E = eS) : CtH l yL_join cL_join 5 (some .int) [(0, 10, 13, 22), (0, 10, 17, 13)] rm_L_join Θ [.ref (tR Θ 0 14), .int a0, .int a1, .ref (tR Θ 0 38)] G (wQ fI [eX, eS] Qc) := by
  refine cth_of (LS := [some (.ref (tR Θ 0 14)), some (.int a0), some (.int a1), some (.ref (tR Θ 0 38)), none]) hl (by decide +kernel) rfl rfl (Nat.le_of_ble_eq_true rfl) rfl ?_
  intro p e s m args below meth c hC hr hT
  have HX : ∀ E9 G9, Qc (.inr E9) G9 → ∃ (i : Nat) (x : ExceptionTableEntry) (nm : String), (tableOf [(0, 10, 13, 22), (0, 10, 17, 13)])[i]? = some x ∧ (∀ z ∈ (tableOf [(0, 10, 13, 22), (0, 10, 17, 13)]).take i, covers z 5 = false ∨ (z.catchType ≠ 0 ∧ ∃ nm : String, Cond.classLink RL z.catchType nm ∈ wALL ∧ (E9, nm) ∈ ncW)) ∧ covers x 5 = true ∧ x.catchType ≠ 0 ∧ Cond.classLink RL x.catchType nm ∈ wALL ∧ Cond.castable E9 nm ∈ excW ∧ ∀ q9 : Nat, V p l e rm_L_join s m args below meth c 5 Θ (wQ fI [eX, eS] Qc) rm_L_join.cells rm_L_join.slots (0 + rm_X11_join.cells) (0 + rm_X11_join.slots) x.handlerPc [some (.ref (tR Θ 0 14)), some (.int a0), some (.int a1), some (.ref (tR Θ 0 38)), none] [.ref q9] G9 := by
    intro E9 G9 z9
    rcases hx E9 G9 z9 with rfl | rfl
    · refine ⟨0, _, _, rfl, (fun z hz => absurd hz (by simp)), by decide, by decide, cl_RL_22, by decide, fun q9 => ?_⟩
      show V p l e rm_L_join s m args below meth c 5 Θ (wQ fI [eX, eS] Qc) rm_L_join.cells rm_L_join.slots (0 + rm_X11_join.cells) (0 + rm_X11_join.slots) 13 [some (.ref (tR Θ 0 14)), some (.int a0), some (.int a1), some (.ref (tR Θ 0 38)), none] [.ref q9] G9
      refine v_astore (q := 15) hC dL_join_13 rfl (lvc rfl) (Nat.le_of_ble_eq_true rfl) (Nat.le_of_ble_eq_true rfl) rfl ?_
      refine v_iconst (q := 16) (v := 1) hC dL_join_15 rfl (by decide) ?_
      refine v_iret hC dL_join_16 hr (rfl) ?_ (Nat.le_of_ble_eq_true rfl) (Nat.le_of_ble_eq_true rfl)
      exact Or.inr ⟨_, _, z9, by first | rfl | (congr 3), rfl⟩
    · refine ⟨1, _, _, rfl, (List.forall_mem_cons.mpr ⟨Or.inr ⟨by decide, _, cl_RL_22, by decide⟩, List.forall_mem_nil _⟩), by decide, by decide, cl_RL_13, by decide, fun q9 => ?_⟩
      show V p l e rm_L_join s m args below meth c 5 Θ (wQ fI [eX, eS] Qc) rm_L_join.cells rm_L_join.slots (0 + rm_X11_join.cells) (0 + rm_X11_join.slots) 17 [some (.ref (tR Θ 0 14)), some (.int a0), some (.int a1), some (.ref (tR Θ 0 38)), none] [.ref q9] G9
      refine v_astore (q := 19) hC dL_join_17 rfl (lvc rfl) (Nat.le_of_ble_eq_true rfl) (Nat.le_of_ble_eq_true rfl) rfl ?_
      refine v_iconst (q := 20) (v := 2) hC dL_join_19 rfl (by decide) ?_
      refine v_iret hC dL_join_20 hr (rfl) ?_ (Nat.le_of_ble_eq_true rfl) (Nat.le_of_ble_eq_true rfl)
      exact Or.inr ⟨_, _, z9, by first | rfl | (congr 3), rfl⟩
  refine v_aload_n (i := 3) (q := 1) hC dL_join_0 rfl rfl rfl ?_
  refine v_iconst (q := 2) (v := 0) hC dL_join_1 rfl (by decide) ?_
  refine v_aload_n (i := 0) (q := 3) hC dL_join_2 rfl rfl rfl ?_
  refine v_iload_n (i := 1) (q := 4) hC dL_join_3 rfl rfl rfl ?_
  refine v_iload_n (i := 2) (q := 5) hC dL_join_4 rfl rfl rfl ?_
  refine v_callTry (q := 8) (rm := rm_X11_join) hC hT hM k_X11_join im_yX11_join se_yX11_join ml_RL_18 dL_join_5 rfl rfl rfl rfl rfl rfl (Nat.le_of_ble_eq_true rfl) ⟨Nat.le_of_ble_eq_true rfl, Nat.le_of_ble_eq_true rfl⟩ ⟨Nat.le_of_ble_eq_true rfl, Nat.le_of_ble_eq_true rfl⟩ (fun v9 G9 z9 => ?_) HX
  obtain ⟨x9, rfl⟩ := hv _ _ z9
  dsimp only [Option.toList, List.cons_append, List.nil_append]
  refine v_i2l (q := 9) hC dL_join_8 rfl ?_
  refine v_lastO (q := 10) hC dL_join_9 rfl ?_
  refine v_goto (q := 21) hC dL_join_10 (by decide) ?_
  refine v_iconst (q := 22) (v := 0) hC dL_join_21 rfl (by decide) ?_
  refine v_iret hC dL_join_22 hr (rfl) ?_ (Nat.le_of_ble_eq_true rfl) (Nat.le_of_ble_eq_true rfl)
  exact Or.inl ⟨x9, _, z9, rfl, rfl⟩
abbrev rm_L_leave : Room := { frames := 8, locals := 134, cells := 3, slots := 18 }
set_option maxHeartbeats 4000000 in
set_option maxRecDepth 20000 in
theorem w_L_leave {l : Launch} (hl : l.stackTraces = false) (Θ : cTH) {Qc : cOut → GS → Prop} (a0 a1 : Int32) (G : GS) (hM : Ct l yX11_leave cX11_leave 3 (some .int) rm_X11_leave Θ [.ref (tR Θ 0 14), .int a0, .int a1] G Qc) (hv : ∀ r G1, Qc (.inl r) G1 → ∃ x : Int32, r = some (.int x)) (hx : ∀ E G1, Qc (.inr E) G1 → E = eX ∨ E = eS) : CtH l yL_leave cL_leave 5 (some .int) [(0, 10, 13, 22), (0, 10, 17, 13)] rm_L_leave Θ [.ref (tR Θ 0 14), .int a0, .int a1, .ref (tR Θ 0 38)] G (wQ fI [eX, eS] Qc) := by
  refine cth_of (LS := [some (.ref (tR Θ 0 14)), some (.int a0), some (.int a1), some (.ref (tR Θ 0 38)), none]) hl (by decide +kernel) rfl rfl (Nat.le_of_ble_eq_true rfl) rfl ?_
  intro p e s m args below meth c hC hr hT
  have HX : ∀ E9 G9, Qc (.inr E9) G9 → ∃ (i : Nat) (x : ExceptionTableEntry) (nm : String), (tableOf [(0, 10, 13, 22), (0, 10, 17, 13)])[i]? = some x ∧ (∀ z ∈ (tableOf [(0, 10, 13, 22), (0, 10, 17, 13)]).take i, covers z 5 = false ∨ (z.catchType ≠ 0 ∧ ∃ nm : String, Cond.classLink RL z.catchType nm ∈ wALL ∧ (E9, nm) ∈ ncW)) ∧ covers x 5 = true ∧ x.catchType ≠ 0 ∧ Cond.classLink RL x.catchType nm ∈ wALL ∧ Cond.castable E9 nm ∈ excW ∧ ∀ q9 : Nat, V p l e rm_L_leave s m args below meth c 5 Θ (wQ fI [eX, eS] Qc) rm_L_leave.cells rm_L_leave.slots (0 + rm_X11_leave.cells) (0 + rm_X11_leave.slots) x.handlerPc [some (.ref (tR Θ 0 14)), some (.int a0), some (.int a1), some (.ref (tR Θ 0 38)), none] [.ref q9] G9 := by
    intro E9 G9 z9
    rcases hx E9 G9 z9 with rfl | rfl
    · refine ⟨0, _, _, rfl, (fun z hz => absurd hz (by simp)), by decide, by decide, cl_RL_22, by decide, fun q9 => ?_⟩
      show V p l e rm_L_leave s m args below meth c 5 Θ (wQ fI [eX, eS] Qc) rm_L_leave.cells rm_L_leave.slots (0 + rm_X11_leave.cells) (0 + rm_X11_leave.slots) 13 [some (.ref (tR Θ 0 14)), some (.int a0), some (.int a1), some (.ref (tR Θ 0 38)), none] [.ref q9] G9
      refine v_astore (q := 15) hC dL_leave_13 rfl (lvc rfl) (Nat.le_of_ble_eq_true rfl) (Nat.le_of_ble_eq_true rfl) rfl ?_
      refine v_iconst (q := 16) (v := 1) hC dL_leave_15 rfl (by decide) ?_
      refine v_iret hC dL_leave_16 hr (rfl) ?_ (Nat.le_of_ble_eq_true rfl) (Nat.le_of_ble_eq_true rfl)
      exact Or.inr ⟨_, _, z9, by first | rfl | (congr 3), rfl⟩
    · refine ⟨1, _, _, rfl, (List.forall_mem_cons.mpr ⟨Or.inr ⟨by decide, _, cl_RL_22, by decide⟩, List.forall_mem_nil _⟩), by decide, by decide, cl_RL_13, by decide, fun q9 => ?_⟩
      show V p l e rm_L_leave s m args below meth c 5 Θ (wQ fI [eX, eS] Qc) rm_L_leave.cells rm_L_leave.slots (0 + rm_X11_leave.cells) (0 + rm_X11_leave.slots) 17 [some (.ref (tR Θ 0 14)), some (.int a0), some (.int a1), some (.ref (tR Θ 0 38)), none] [.ref q9] G9
      refine v_astore (q := 19) hC dL_leave_17 rfl (lvc rfl) (Nat.le_of_ble_eq_true rfl) (Nat.le_of_ble_eq_true rfl) rfl ?_
      refine v_iconst (q := 20) (v := 2) hC dL_leave_19 rfl (by decide) ?_
      refine v_iret hC dL_leave_20 hr (rfl) ?_ (Nat.le_of_ble_eq_true rfl) (Nat.le_of_ble_eq_true rfl)
      exact Or.inr ⟨_, _, z9, by first | rfl | (congr 3), rfl⟩
  refine v_aload_n (i := 3) (q := 1) hC dL_leave_0 rfl rfl rfl ?_
  refine v_iconst (q := 2) (v := 0) hC dL_leave_1 rfl (by decide) ?_
  refine v_aload_n (i := 0) (q := 3) hC dL_leave_2 rfl rfl rfl ?_
  refine v_iload_n (i := 1) (q := 4) hC dL_leave_3 rfl rfl rfl ?_
  refine v_iload_n (i := 2) (q := 5) hC dL_leave_4 rfl rfl rfl ?_
  refine v_callTry (q := 8) (rm := rm_X11_leave) hC hT hM k_X11_leave im_yX11_leave se_yX11_leave ml_RL_24 dL_leave_5 rfl rfl rfl rfl rfl rfl (Nat.le_of_ble_eq_true rfl) ⟨Nat.le_of_ble_eq_true rfl, Nat.le_of_ble_eq_true rfl⟩ ⟨Nat.le_of_ble_eq_true rfl, Nat.le_of_ble_eq_true rfl⟩ (fun v9 G9 z9 => ?_) HX
  obtain ⟨x9, rfl⟩ := hv _ _ z9
  dsimp only [Option.toList, List.cons_append, List.nil_append]
  refine v_i2l (q := 9) hC dL_leave_8 rfl ?_
  refine v_lastO (q := 10) hC dL_leave_9 rfl ?_
  refine v_goto (q := 21) hC dL_leave_10 (by decide) ?_
  refine v_iconst (q := 22) (v := 0) hC dL_leave_21 rfl (by decide) ?_
  refine v_iret hC dL_leave_22 hr (rfl) ?_ (Nat.le_of_ble_eq_true rfl) (Nat.le_of_ble_eq_true rfl)
  exact Or.inl ⟨x9, _, z9, rfl, rfl⟩
abbrev rm_L_nest : Room := { frames := 8, locals := 134, cells := 3, slots := 18 }
set_option maxHeartbeats 4000000 in
set_option maxRecDepth 20000 in
theorem w_L_nest {l : Launch} (hl : l.stackTraces = false) (Θ : cTH) {Qc : cOut → GS → Prop} (a0 a1 : Int32) (G : GS) (hM : Ct l yX11_nest cX11_nest 3 (some .int) rm_X11_nest Θ [.ref (tR Θ 0 14), .int a0, .int a1] G Qc) (hv : ∀ r G1, Qc (.inl r) G1 → ∃ x : Int32, r = some (.int x)) (hx : ∀ E G1, Qc (.inr E) G1 → E = eX ∨ E = eS) : CtH l yL_nest cL_nest 5 (some .int) [(0, 10, 13, 22), (0, 10, 17, 13)] rm_L_nest Θ [.ref (tR Θ 0 14), .int a0, .int a1, .ref (tR Θ 0 38)] G (wQ fI [eX, eS] Qc) := by
  refine cth_of (LS := [some (.ref (tR Θ 0 14)), some (.int a0), some (.int a1), some (.ref (tR Θ 0 38)), none]) hl (by decide +kernel) rfl rfl (Nat.le_of_ble_eq_true rfl) rfl ?_
  intro p e s m args below meth c hC hr hT
  have HX : ∀ E9 G9, Qc (.inr E9) G9 → ∃ (i : Nat) (x : ExceptionTableEntry) (nm : String), (tableOf [(0, 10, 13, 22), (0, 10, 17, 13)])[i]? = some x ∧ (∀ z ∈ (tableOf [(0, 10, 13, 22), (0, 10, 17, 13)]).take i, covers z 5 = false ∨ (z.catchType ≠ 0 ∧ ∃ nm : String, Cond.classLink RL z.catchType nm ∈ wALL ∧ (E9, nm) ∈ ncW)) ∧ covers x 5 = true ∧ x.catchType ≠ 0 ∧ Cond.classLink RL x.catchType nm ∈ wALL ∧ Cond.castable E9 nm ∈ excW ∧ ∀ q9 : Nat, V p l e rm_L_nest s m args below meth c 5 Θ (wQ fI [eX, eS] Qc) rm_L_nest.cells rm_L_nest.slots (0 + rm_X11_nest.cells) (0 + rm_X11_nest.slots) x.handlerPc [some (.ref (tR Θ 0 14)), some (.int a0), some (.int a1), some (.ref (tR Θ 0 38)), none] [.ref q9] G9 := by
    intro E9 G9 z9
    rcases hx E9 G9 z9 with rfl | rfl
    · refine ⟨0, _, _, rfl, (fun z hz => absurd hz (by simp)), by decide, by decide, cl_RL_22, by decide, fun q9 => ?_⟩
      show V p l e rm_L_nest s m args below meth c 5 Θ (wQ fI [eX, eS] Qc) rm_L_nest.cells rm_L_nest.slots (0 + rm_X11_nest.cells) (0 + rm_X11_nest.slots) 13 [some (.ref (tR Θ 0 14)), some (.int a0), some (.int a1), some (.ref (tR Θ 0 38)), none] [.ref q9] G9
      refine v_astore (q := 15) hC dL_nest_13 rfl (lvc rfl) (Nat.le_of_ble_eq_true rfl) (Nat.le_of_ble_eq_true rfl) rfl ?_
      refine v_iconst (q := 16) (v := 1) hC dL_nest_15 rfl (by decide) ?_
      refine v_iret hC dL_nest_16 hr (rfl) ?_ (Nat.le_of_ble_eq_true rfl) (Nat.le_of_ble_eq_true rfl)
      exact Or.inr ⟨_, _, z9, by first | rfl | (congr 3), rfl⟩
    · refine ⟨1, _, _, rfl, (List.forall_mem_cons.mpr ⟨Or.inr ⟨by decide, _, cl_RL_22, by decide⟩, List.forall_mem_nil _⟩), by decide, by decide, cl_RL_13, by decide, fun q9 => ?_⟩
      show V p l e rm_L_nest s m args below meth c 5 Θ (wQ fI [eX, eS] Qc) rm_L_nest.cells rm_L_nest.slots (0 + rm_X11_nest.cells) (0 + rm_X11_nest.slots) 17 [some (.ref (tR Θ 0 14)), some (.int a0), some (.int a1), some (.ref (tR Θ 0 38)), none] [.ref q9] G9
      refine v_astore (q := 19) hC dL_nest_17 rfl (lvc rfl) (Nat.le_of_ble_eq_true rfl) (Nat.le_of_ble_eq_true rfl) rfl ?_
      refine v_iconst (q := 20) (v := 2) hC dL_nest_19 rfl (by decide) ?_
      refine v_iret hC dL_nest_20 hr (rfl) ?_ (Nat.le_of_ble_eq_true rfl) (Nat.le_of_ble_eq_true rfl)
      exact Or.inr ⟨_, _, z9, by first | rfl | (congr 3), rfl⟩
  refine v_aload_n (i := 3) (q := 1) hC dL_nest_0 rfl rfl rfl ?_
  refine v_iconst (q := 2) (v := 0) hC dL_nest_1 rfl (by decide) ?_
  refine v_aload_n (i := 0) (q := 3) hC dL_nest_2 rfl rfl rfl ?_
  refine v_iload_n (i := 1) (q := 4) hC dL_nest_3 rfl rfl rfl ?_
  refine v_iload_n (i := 2) (q := 5) hC dL_nest_4 rfl rfl rfl ?_
  refine v_callTry (q := 8) (rm := rm_X11_nest) hC hT hM k_X11_nest im_yX11_nest se_yX11_nest ml_RL_27 dL_nest_5 rfl rfl rfl rfl rfl rfl (Nat.le_of_ble_eq_true rfl) ⟨Nat.le_of_ble_eq_true rfl, Nat.le_of_ble_eq_true rfl⟩ ⟨Nat.le_of_ble_eq_true rfl, Nat.le_of_ble_eq_true rfl⟩ (fun v9 G9 z9 => ?_) HX
  obtain ⟨x9, rfl⟩ := hv _ _ z9
  dsimp only [Option.toList, List.cons_append, List.nil_append]
  refine v_i2l (q := 9) hC dL_nest_8 rfl ?_
  refine v_lastO (q := 10) hC dL_nest_9 rfl ?_
  refine v_goto (q := 21) hC dL_nest_10 (by decide) ?_
  refine v_iconst (q := 22) (v := 0) hC dL_nest_21 rfl (by decide) ?_
  refine v_iret hC dL_nest_22 hr (rfl) ?_ (Nat.le_of_ble_eq_true rfl) (Nat.le_of_ble_eq_true rfl)
  exact Or.inl ⟨x9, _, z9, rfl, rfl⟩
abbrev rm_L_unnest : Room := { frames := 8, locals := 134, cells := 3, slots := 18 }
set_option maxHeartbeats 4000000 in
set_option maxRecDepth 20000 in
theorem w_L_unnest {l : Launch} (hl : l.stackTraces = false) (Θ : cTH) {Qc : cOut → GS → Prop} (a0 a1 : Int32) (G : GS) (hM : Ct l yX11_unnest cX11_unnest 3 (some .int) rm_X11_unnest Θ [.ref (tR Θ 0 14), .int a0, .int a1] G Qc) (hv : ∀ r G1, Qc (.inl r) G1 → ∃ x : Int32, r = some (.int x)) (hx : ∀ E G1, Qc (.inr E) G1 → E = eX ∨ E = eS) : CtH l yL_unnest cL_unnest 5 (some .int) [(0, 10, 13, 22), (0, 10, 17, 13)] rm_L_unnest Θ [.ref (tR Θ 0 14), .int a0, .int a1, .ref (tR Θ 0 38)] G (wQ fI [eX, eS] Qc) := by
  refine cth_of (LS := [some (.ref (tR Θ 0 14)), some (.int a0), some (.int a1), some (.ref (tR Θ 0 38)), none]) hl (by decide +kernel) rfl rfl (Nat.le_of_ble_eq_true rfl) rfl ?_
  intro p e s m args below meth c hC hr hT
  have HX : ∀ E9 G9, Qc (.inr E9) G9 → ∃ (i : Nat) (x : ExceptionTableEntry) (nm : String), (tableOf [(0, 10, 13, 22), (0, 10, 17, 13)])[i]? = some x ∧ (∀ z ∈ (tableOf [(0, 10, 13, 22), (0, 10, 17, 13)]).take i, covers z 5 = false ∨ (z.catchType ≠ 0 ∧ ∃ nm : String, Cond.classLink RL z.catchType nm ∈ wALL ∧ (E9, nm) ∈ ncW)) ∧ covers x 5 = true ∧ x.catchType ≠ 0 ∧ Cond.classLink RL x.catchType nm ∈ wALL ∧ Cond.castable E9 nm ∈ excW ∧ ∀ q9 : Nat, V p l e rm_L_unnest s m args below meth c 5 Θ (wQ fI [eX, eS] Qc) rm_L_unnest.cells rm_L_unnest.slots (0 + rm_X11_unnest.cells) (0 + rm_X11_unnest.slots) x.handlerPc [some (.ref (tR Θ 0 14)), some (.int a0), some (.int a1), some (.ref (tR Θ 0 38)), none] [.ref q9] G9 := by
    intro E9 G9 z9
    rcases hx E9 G9 z9 with rfl | rfl
    · refine ⟨0, _, _, rfl, (fun z hz => absurd hz (by simp)), by decide, by decide, cl_RL_22, by decide, fun q9 => ?_⟩
      show V p l e rm_L_unnest s m args below meth c 5 Θ (wQ fI [eX, eS] Qc) rm_L_unnest.cells rm_L_unnest.slots (0 + rm_X11_unnest.cells) (0 + rm_X11_unnest.slots) 13 [some (.ref (tR Θ 0 14)), some (.int a0), some (.int a1), some (.ref (tR Θ 0 38)), none] [.ref q9] G9
      refine v_astore (q := 15) hC dL_unnest_13 rfl (lvc rfl) (Nat.le_of_ble_eq_true rfl) (Nat.le_of_ble_eq_true rfl) rfl ?_
      refine v_iconst (q := 16) (v := 1) hC dL_unnest_15 rfl (by decide) ?_
      refine v_iret hC dL_unnest_16 hr (rfl) ?_ (Nat.le_of_ble_eq_true rfl) (Nat.le_of_ble_eq_true rfl)
      exact Or.inr ⟨_, _, z9, by first | rfl | (congr 3), rfl⟩
    · refine ⟨1, _, _, rfl, (List.forall_mem_cons.mpr ⟨Or.inr ⟨by decide, _, cl_RL_22, by decide⟩, List.forall_mem_nil _⟩), by decide, by decide, cl_RL_13, by decide, fun q9 => ?_⟩
      show V p l e rm_L_unnest s m args below meth c 5 Θ (wQ fI [eX, eS] Qc) rm_L_unnest.cells rm_L_unnest.slots (0 + rm_X11_unnest.cells) (0 + rm_X11_unnest.slots) 17 [some (.ref (tR Θ 0 14)), some (.int a0), some (.int a1), some (.ref (tR Θ 0 38)), none] [.ref q9] G9
      refine v_astore (q := 19) hC dL_unnest_17 rfl (lvc rfl) (Nat.le_of_ble_eq_true rfl) (Nat.le_of_ble_eq_true rfl) rfl ?_
      refine v_iconst (q := 20) (v := 2) hC dL_unnest_19 rfl (by decide) ?_
      refine v_iret hC dL_unnest_20 hr (rfl) ?_ (Nat.le_of_ble_eq_true rfl) (Nat.le_of_ble_eq_true rfl)
      exact Or.inr ⟨_, _, z9, by first | rfl | (congr 3), rfl⟩
  refine v_aload_n (i := 3) (q := 1) hC dL_unnest_0 rfl rfl rfl ?_
  refine v_iconst (q := 2) (v := 0) hC dL_unnest_1 rfl (by decide) ?_
  refine v_aload_n (i := 0) (q := 3) hC dL_unnest_2 rfl rfl rfl ?_
  refine v_iload_n (i := 1) (q := 4) hC dL_unnest_3 rfl rfl rfl ?_
  refine v_iload_n (i := 2) (q := 5) hC dL_unnest_4 rfl rfl rfl ?_
  refine v_callTry (q := 8) (rm := rm_X11_unnest) hC hT hM k_X11_unnest im_yX11_unnest se_yX11_unnest ml_RL_30 dL_unnest_5 rfl rfl rfl rfl rfl rfl (Nat.le_of_ble_eq_true rfl) ⟨Nat.le_of_ble_eq_true rfl, Nat.le_of_ble_eq_true rfl⟩ ⟨Nat.le_of_ble_eq_true rfl, Nat.le_of_ble_eq_true rfl⟩ (fun v9 G9 z9 => ?_) HX
  obtain ⟨x9, rfl⟩ := hv _ _ z9
  dsimp only [Option.toList, List.cons_append, List.nil_append]
  refine v_i2l (q := 9) hC dL_unnest_8 rfl ?_
  refine v_lastO (q := 10) hC dL_unnest_9 rfl ?_
  refine v_goto (q := 21) hC dL_unnest_10 (by decide) ?_
  refine v_iconst (q := 22) (v := 0) hC dL_unnest_21 rfl (by decide) ?_
  refine v_iret hC dL_unnest_22 hr (rfl) ?_ (Nat.le_of_ble_eq_true rfl) (Nat.le_of_ble_eq_true rfl)
  exact Or.inl ⟨x9, _, z9, rfl, rfl⟩
abbrev rm_L_make : Room := { frames := 8, locals := 135, cells := 3, slots := 18 }
set_option maxHeartbeats 4000000 in
set_option maxRecDepth 20000 in
theorem w_L_make {l : Launch} (hl : l.stackTraces = false) (Θ : cTH) {Qc : cOut → GS → Prop} (a0 a1 : Int32) (G : GS) (hM : Ct l yX11_make cX11_make 4 (some .int) rm_X11_make Θ [.ref (tR Θ 0 14), .int a0, .int a1] G Qc) (hv : ∀ r G1, Qc (.inl r) G1 → ∃ x : Int32, r = some (.int x)) (hx : ∀ E G1, Qc (.inr E) G1 → E = eX ∨ E = eS) : CtH l yL_make cL_make 5 (some .int) [(0, 10, 13, 22), (0, 10, 17, 13)] rm_L_make Θ [.ref (tR Θ 0 14), .int a0, .int a1, .ref (tR Θ 0 38)] G (wQ fI [eX, eS] Qc) := by
  refine cth_of (LS := [some (.ref (tR Θ 0 14)), some (.int a0), some (.int a1), some (.ref (tR Θ 0 38)), none]) hl (by decide +kernel) rfl rfl (Nat.le_of_ble_eq_true rfl) rfl ?_
  intro p e s m args below meth c hC hr hT
  have HX : ∀ E9 G9, Qc (.inr E9) G9 → ∃ (i : Nat) (x : ExceptionTableEntry) (nm : String), (tableOf [(0, 10, 13, 22), (0, 10, 17, 13)])[i]? = some x ∧ (∀ z ∈ (tableOf [(0, 10, 13, 22), (0, 10, 17, 13)]).take i, covers z 5 = false ∨ (z.catchType ≠ 0 ∧ ∃ nm : String, Cond.classLink RL z.catchType nm ∈ wALL ∧ (E9, nm) ∈ ncW)) ∧ covers x 5 = true ∧ x.catchType ≠ 0 ∧ Cond.classLink RL x.catchType nm ∈ wALL ∧ Cond.castable E9 nm ∈ excW ∧ ∀ q9 : Nat, V p l e rm_L_make s m args below meth c 5 Θ (wQ fI [eX, eS] Qc) rm_L_make.cells rm_L_make.slots (0 + rm_X11_make.cells) (0 + rm_X11_make.slots) x.handlerPc [some (.ref (tR Θ 0 14)), some (.int a0), some (.int a1), some (.ref (tR Θ 0 38)), none] [.ref q9] G9 := by
    intro E9 G9 z9
    rcases hx E9 G9 z9 with rfl | rfl
    · refine ⟨0, _, _, rfl, (fun z hz => absurd hz (by simp)), by decide, by decide, cl_RL_22, by decide, fun q9 => ?_⟩
      show V p l e rm_L_make s m args below meth c 5 Θ (wQ fI [eX, eS] Qc) rm_L_make.cells rm_L_make.slots (0 + rm_X11_make.cells) (0 + rm_X11_make.slots) 13 [some (.ref (tR Θ 0 14)), some (.int a0), some (.int a1), some (.ref (tR Θ 0 38)), none] [.ref q9] G9
      refine v_astore (q := 15) hC dL_make_13 rfl (lvc rfl) (Nat.le_of_ble_eq_true rfl) (Nat.le_of_ble_eq_true rfl) rfl ?_
      refine v_iconst (q := 16) (v := 1) hC dL_make_15 rfl (by decide) ?_
      refine v_iret hC dL_make_16 hr (rfl) ?_ (Nat.le_of_ble_eq_true rfl) (Nat.le_of_ble_eq_true rfl)
      exact Or.inr ⟨_, _, z9, by first | rfl | (congr 3), rfl⟩
    · refine ⟨1, _, _, rfl, (List.forall_mem_cons.mpr ⟨Or.inr ⟨by decide, _, cl_RL_22, by decide⟩, List.forall_mem_nil _⟩), by decide, by decide, cl_RL_13, by decide, fun q9 => ?_⟩
      show V p l e rm_L_make s m args below meth c 5 Θ (wQ fI [eX, eS] Qc) rm_L_make.cells rm_L_make.slots (0 + rm_X11_make.cells) (0 + rm_X11_make.slots) 17 [some (.ref (tR Θ 0 14)), some (.int a0), some (.int a1), some (.ref (tR Θ 0 38)), none] [.ref q9] G9
      refine v_astore (q := 19) hC dL_make_17 rfl (lvc rfl) (Nat.le_of_ble_eq_true rfl) (Nat.le_of_ble_eq_true rfl) rfl ?_
      refine v_iconst (q := 20) (v := 2) hC dL_make_19 rfl (by decide) ?_
      refine v_iret hC dL_make_20 hr (rfl) ?_ (Nat.le_of_ble_eq_true rfl) (Nat.le_of_ble_eq_true rfl)
      exact Or.inr ⟨_, _, z9, by first | rfl | (congr 3), rfl⟩
  refine v_aload_n (i := 3) (q := 1) hC dL_make_0 rfl rfl rfl ?_
  refine v_iconst (q := 2) (v := 0) hC dL_make_1 rfl (by decide) ?_
  refine v_aload_n (i := 0) (q := 3) hC dL_make_2 rfl rfl rfl ?_
  refine v_iload_n (i := 1) (q := 4) hC dL_make_3 rfl rfl rfl ?_
  refine v_iload_n (i := 2) (q := 5) hC dL_make_4 rfl rfl rfl ?_
  refine v_callTry (q := 8) (rm := rm_X11_make) hC hT hM k_X11_make im_yX11_make se_yX11_make ml_RL_33 dL_make_5 rfl rfl rfl rfl rfl rfl (Nat.le_of_ble_eq_true rfl) ⟨Nat.le_of_ble_eq_true rfl, Nat.le_of_ble_eq_true rfl⟩ ⟨Nat.le_of_ble_eq_true rfl, Nat.le_of_ble_eq_true rfl⟩ (fun v9 G9 z9 => ?_) HX
  obtain ⟨x9, rfl⟩ := hv _ _ z9
  dsimp only [Option.toList, List.cons_append, List.nil_append]
  refine v_i2l (q := 9) hC dL_make_8 rfl ?_
  refine v_lastO (q := 10) hC dL_make_9 rfl ?_
  refine v_goto (q := 21) hC dL_make_10 (by decide) ?_
  refine v_iconst (q := 22) (v := 0) hC dL_make_21 rfl (by decide) ?_
  refine v_iret hC dL_make_22 hr (rfl) ?_ (Nat.le_of_ble_eq_true rfl) (Nat.le_of_ble_eq_true rfl)
  exact Or.inl ⟨x9, _, z9, rfl, rfl⟩
abbrev rm_L_remove : Room := { frames := 8, locals := 133, cells := 2, slots := 12 }
set_option maxHeartbeats 4000000 in
set_option maxRecDepth 20000 in
theorem w_L_remove {l : Launch} (hl : l.stackTraces = false) (Θ : cTH) {Qc : cOut → GS → Prop} (a0 : Int32) (G : GS) (hM : Ct l yX11_remove cX11_remove 2 (some .int) rm_X11_remove Θ [.ref (tR Θ 0 14), .int a0] G Qc) (hv : ∀ r G1, Qc (.inl r) G1 → ∃ x : Int32, r = some (.int x)) (hx : ∀ E G1, Qc (.inr E) G1 → E = eX ∨ E = eS) : CtH l yL_remove cL_remove 4 (some .int) [(0, 9, 12, 22), (0, 9, 15, 13)] rm_L_remove Θ [.ref (tR Θ 0 14), .int a0, .ref (tR Θ 0 38)] G (wQ fI [eX, eS] Qc) := by
  refine cth_of (LS := [some (.ref (tR Θ 0 14)), some (.int a0), some (.ref (tR Θ 0 38)), none]) hl (by decide +kernel) rfl rfl (Nat.le_of_ble_eq_true rfl) rfl ?_
  intro p e s m args below meth c hC hr hT
  have HX : ∀ E9 G9, Qc (.inr E9) G9 → ∃ (i : Nat) (x : ExceptionTableEntry) (nm : String), (tableOf [(0, 9, 12, 22), (0, 9, 15, 13)])[i]? = some x ∧ (∀ z ∈ (tableOf [(0, 9, 12, 22), (0, 9, 15, 13)]).take i, covers z 4 = false ∨ (z.catchType ≠ 0 ∧ ∃ nm : String, Cond.classLink RL z.catchType nm ∈ wALL ∧ (E9, nm) ∈ ncW)) ∧ covers x 4 = true ∧ x.catchType ≠ 0 ∧ Cond.classLink RL x.catchType nm ∈ wALL ∧ Cond.castable E9 nm ∈ excW ∧ ∀ q9 : Nat, V p l e rm_L_remove s m args below meth c 4 Θ (wQ fI [eX, eS] Qc) rm_L_remove.cells rm_L_remove.slots (0 + rm_X11_remove.cells) (0 + rm_X11_remove.slots) x.handlerPc [some (.ref (tR Θ 0 14)), some (.int a0), some (.ref (tR Θ 0 38)), none] [.ref q9] G9 := by
    intro E9 G9 z9
    rcases hx E9 G9 z9 with rfl | rfl
    · refine ⟨0, _, _, rfl, (fun z hz => absurd hz (by simp)), by decide, by decide, cl_RL_22, by decide, fun q9 => ?_⟩
      show V p l e rm_L_remove s m args below meth c 4 Θ (wQ fI [eX, eS] Qc) rm_L_remove.cells rm_L_remove.slots (0 + rm_X11_remove.cells) (0 + rm_X11_remove.slots) 12 [some (.ref (tR Θ 0 14)), some (.int a0), some (.ref (tR Θ 0 38)), none] [.ref q9] G9
      refine v_astore_n (i := 3) (q := 13) hC dL_remove_12 rfl rfl (lvc rfl) (Nat.le_of_ble_eq_true rfl) (Nat.le_of_ble_eq_true rfl) rfl ?_
      refine v_iconst (q := 14) (v := 1) hC dL_remove_13 rfl (by decide) ?_
      refine v_iret hC dL_remove_14 hr (rfl) ?_ (Nat.le_of_ble_eq_true rfl) (Nat.le_of_ble_eq_true rfl)
      exact Or.inr ⟨_, _, z9, by first | rfl | (congr 3), rfl⟩
    · refine ⟨1, _, _, rfl, (List.forall_mem_cons.mpr ⟨Or.inr ⟨by decide, _, cl_RL_22, by decide⟩, List.forall_mem_nil _⟩), by decide, by decide, cl_RL_13, by decide, fun q9 => ?_⟩
      show V p l e rm_L_remove s m args below meth c 4 Θ (wQ fI [eX, eS] Qc) rm_L_remove.cells rm_L_remove.slots (0 + rm_X11_remove.cells) (0 + rm_X11_remove.slots) 15 [some (.ref (tR Θ 0 14)), some (.int a0), some (.ref (tR Θ 0 38)), none] [.ref q9] G9
      refine v_astore_n (i := 3) (q := 16) hC dL_remove_15 rfl rfl (lvc rfl) (Nat.le_of_ble_eq_true rfl) (Nat.le_of_ble_eq_true rfl) rfl ?_
      refine v_iconst (q := 17) (v := 2) hC dL_remove_16 rfl (by decide) ?_
      refine v_iret hC dL_remove_17 hr (rfl) ?_ (Nat.le_of_ble_eq_true rfl) (Nat.le_of_ble_eq_true rfl)
      exact Or.inr ⟨_, _, z9, by first | rfl | (congr 3), rfl⟩
  refine v_aload_n (i := 2) (q := 1) hC dL_remove_0 rfl rfl rfl ?_
  refine v_iconst (q := 2) (v := 0) hC dL_remove_1 rfl (by decide) ?_
  refine v_aload_n (i := 0) (q := 3) hC dL_remove_2 rfl rfl rfl ?_
  refine v_iload_n (i := 1) (q := 4) hC dL_remove_3 rfl rfl rfl ?_
  refine v_callTry (q := 7) (rm := rm_X11_remove) hC hT hM k_X11_remove im_yX11_remove se_yX11_remove ml_RL_36 dL_remove_4 rfl rfl rfl rfl rfl rfl (Nat.le_of_ble_eq_true rfl) ⟨Nat.le_of_ble_eq_true rfl, Nat.le_of_ble_eq_true rfl⟩ ⟨Nat.le_of_ble_eq_true rfl, Nat.le_of_ble_eq_true rfl⟩ (fun v9 G9 z9 => ?_) HX
  obtain ⟨x9, rfl⟩ := hv _ _ z9
  dsimp only [Option.toList, List.cons_append, List.nil_append]
  refine v_i2l (q := 8) hC dL_remove_7 rfl ?_
  refine v_lastO (q := 9) hC dL_remove_8 rfl ?_
  refine v_goto (q := 18) hC dL_remove_9 (by decide) ?_
  refine v_iconst (q := 19) (v := 0) hC dL_remove_18 rfl (by decide) ?_
  refine v_iret hC dL_remove_19 hr (rfl) ?_ (Nat.le_of_ble_eq_true rfl) (Nat.le_of_ble_eq_true rfl)
  exact Or.inl ⟨x9, _, z9, rfl, rfl⟩
abbrev rm_L_move : Room := { frames := 8, locals := 135, cells := 3, slots := 18 }
set_option maxHeartbeats 4000000 in
set_option maxRecDepth 20000 in
theorem w_L_move {l : Launch} (hl : l.stackTraces = false) (Θ : cTH) {Qc : cOut → GS → Prop} (a0 a1 : Int32) (G : GS) (hM : Ct l yX11_move cX11_move 4 (some .int) rm_X11_move Θ [.ref (tR Θ 0 14), .int a0, .int a1] G Qc) (hv : ∀ r G1, Qc (.inl r) G1 → ∃ x : Int32, r = some (.int x)) (hx : ∀ E G1, Qc (.inr E) G1 → E = eX ∨ E = eS) : CtH l yL_move cL_move 5 (some .int) [(0, 10, 13, 22), (0, 10, 17, 13)] rm_L_move Θ [.ref (tR Θ 0 14), .int a0, .int a1, .ref (tR Θ 0 38)] G (wQ fI [eX, eS] Qc) := by
  refine cth_of (LS := [some (.ref (tR Θ 0 14)), some (.int a0), some (.int a1), some (.ref (tR Θ 0 38)), none]) hl (by decide +kernel) rfl rfl (Nat.le_of_ble_eq_true rfl) rfl ?_
  intro p e s m args below meth c hC hr hT
  have HX : ∀ E9 G9, Qc (.inr E9) G9 → ∃ (i : Nat) (x : ExceptionTableEntry) (nm : String), (tableOf [(0, 10, 13, 22), (0, 10, 17, 13)])[i]? = some x ∧ (∀ z ∈ (tableOf [(0, 10, 13, 22), (0, 10, 17, 13)]).take i, covers z 5 = false ∨ (z.catchType ≠ 0 ∧ ∃ nm : String, Cond.classLink RL z.catchType nm ∈ wALL ∧ (E9, nm) ∈ ncW)) ∧ covers x 5 = true ∧ x.catchType ≠ 0 ∧ Cond.classLink RL x.catchType nm ∈ wALL ∧ Cond.castable E9 nm ∈ excW ∧ ∀ q9 : Nat, V p l e rm_L_move s m args below meth c 5 Θ (wQ fI [eX, eS] Qc) rm_L_move.cells rm_L_move.slots (0 + rm_X11_move.cells) (0 + rm_X11_move.slots) x.handlerPc [some (.ref (tR Θ 0 14)), some (.int a0), some (.int a1), some (.ref (tR Θ 0 38)), none] [.ref q9] G9 := by
    intro E9 G9 z9
    rcases hx E9 G9 z9 with rfl | rfl
    · refine ⟨0, _, _, rfl, (fun z hz => absurd hz (by simp)), by decide, by decide, cl_RL_22, by decide, fun q9 => ?_⟩
      show V p l e rm_L_move s m args below meth c 5 Θ (wQ fI [eX, eS] Qc) rm_L_move.cells rm_L_move.slots (0 + rm_X11_move.cells) (0 + rm_X11_move.slots) 13 [some (.ref (tR Θ 0 14)), some (.int a0), some (.int a1), some (.ref (tR Θ 0 38)), none] [.ref q9] G9
      refine v_astore (q := 15) hC dL_move_13 rfl (lvc rfl) (Nat.le_of_ble_eq_true rfl) (Nat.le_of_ble_eq_true rfl) rfl ?_
      refine v_iconst (q := 16) (v := 1) hC dL_move_15 rfl (by decide) ?_
      refine v_iret hC dL_move_16 hr (rfl) ?_ (Nat.le_of_ble_eq_true rfl) (Nat.le_of_ble_eq_true rfl)
      exact Or.inr ⟨_, _, z9, by first | rfl | (congr 3), rfl⟩
    · refine ⟨1, _, _, rfl, (List.forall_mem_cons.mpr ⟨Or.inr ⟨by decide, _, cl_RL_22, by decide⟩, List.forall_mem_nil _⟩), by decide, by decide, cl_RL_13, by decide, fun q9 => ?_⟩
      show V p l e rm_L_move s m args below meth c 5 Θ (wQ fI [eX, eS] Qc) rm_L_move.cells rm_L_move.slots (0 + rm_X11_move.cells) (0 + rm_X11_move.slots) 17 [some (.ref (tR Θ 0 14)), some (.int a0), some (.int a1), some (.ref (tR Θ 0 38)), none] [.ref q9] G9
      refine v_astore (q := 19) hC dL_move_17 rfl (lvc rfl) (Nat.le_of_ble_eq_true rfl) (Nat.le_of_ble_eq_true rfl) rfl ?_
      refine v_iconst (q := 20) (v := 2) hC dL_move_19 rfl (by decide) ?_
      refine v_iret hC dL_move_20 hr (rfl) ?_ (Nat.le_of_ble_eq_true rfl) (Nat.le_of_ble_eq_true rfl)
      exact Or.inr ⟨_, _, z9, by first | rfl | (congr 3), rfl⟩
  refine v_aload_n (i := 3) (q := 1) hC dL_move_0 rfl rfl rfl ?_
  refine v_iconst (q := 2) (v := 0) hC dL_move_1 rfl (by decide) ?_
  refine v_aload_n (i := 0) (q := 3) hC dL_move_2 rfl rfl rfl ?_
  refine v_iload_n (i := 1) (q := 4) hC dL_move_3 rfl rfl rfl ?_
  refine v_iload_n (i := 2) (q := 5) hC dL_move_4 rfl rfl rfl ?_
  refine v_callTry (q := 8) (rm := rm_X11_move) hC hT hM k_X11_move im_yX11_move se_yX11_move ml_RL_40 dL_move_5 rfl rfl rfl rfl rfl rfl (Nat.le_of_ble_eq_true rfl) ⟨Nat.le_of_ble_eq_true rfl, Nat.le_of_ble_eq_true rfl⟩ ⟨Nat.le_of_ble_eq_true rfl, Nat.le_of_ble_eq_true rfl⟩ (fun v9 G9 z9 => ?_) HX
  obtain ⟨x9, rfl⟩ := hv _ _ z9
  dsimp only [Option.toList, List.cons_append, List.nil_append]
  refine v_i2l (q := 9) hC dL_move_8 rfl ?_
  refine v_lastO (q := 10) hC dL_move_9 rfl ?_
  refine v_goto (q := 21) hC dL_move_10 (by decide) ?_
  refine v_iconst (q := 22) (v := 0) hC dL_move_21 rfl (by decide) ?_
  refine v_iret hC dL_move_22 hr (rfl) ?_ (Nat.le_of_ble_eq_true rfl) (Nat.le_of_ble_eq_true rfl)
  exact Or.inl ⟨x9, _, z9, rfl, rfl⟩
abbrev rm_L_giveTo : Room := { frames := 8, locals := 135, cells := 2, slots := 12 }
set_option maxHeartbeats 4000000 in
set_option maxRecDepth 20000 in
theorem w_L_giveTo {l : Launch} (hl : l.stackTraces = false) (Θ : cTH) {Qc : cOut → GS → Prop} (a0 a1 : Int32) (G : GS) (hM : Ct l yX11_giveTo cX11_giveTo 4 (some .int) rm_X11_giveTo Θ [.ref (tR Θ 0 14), .int a0, .int a1] G Qc) (hv : ∀ r G1, Qc (.inl r) G1 → ∃ x : Int32, r = some (.int x)) (hx : ∀ E G1, Qc (.inr E) G1 → E = eX) : CtH l yL_giveTo cL_giveTo 5 (some .int) [(0, 10, 13, 22)] rm_L_giveTo Θ [.ref (tR Θ 0 14), .int a0, .int a1, .ref (tR Θ 0 38)] G (wQ fI [eX] Qc) := by
  refine cth_of (LS := [some (.ref (tR Θ 0 14)), some (.int a0), some (.int a1), some (.ref (tR Θ 0 38)), none]) hl (by decide +kernel) rfl rfl (Nat.le_of_ble_eq_true rfl) rfl ?_
  intro p e s m args below meth c hC hr hT
  have HX : ∀ E9 G9, Qc (.inr E9) G9 → ∃ (i : Nat) (x : ExceptionTableEntry) (nm : String), (tableOf [(0, 10, 13, 22)])[i]? = some x ∧ (∀ z ∈ (tableOf [(0, 10, 13, 22)]).take i, covers z 5 = false ∨ (z.catchType ≠ 0 ∧ ∃ nm : String, Cond.classLink RL z.catchType nm ∈ wALL ∧ (E9, nm) ∈ ncW)) ∧ covers x 5 = true ∧ x.catchType ≠ 0 ∧ Cond.classLink RL x.catchType nm ∈ wALL ∧ Cond.castable E9 nm ∈ excW ∧ ∀ q9 : Nat, V p l e rm_L_giveTo s m args below meth c 5 Θ (wQ fI [eX] Qc) rm_L_giveTo.cells rm_L_giveTo.slots (0 + rm_X11_giveTo.cells) (0 + rm_X11_giveTo.slots) x.handlerPc [some (.ref (tR Θ 0 14)), some (.int a0), some (.int a1), some (.ref (tR Θ 0 38)), none] [.ref q9] G9 := by
    intro E9 G9 z9
    rcases hx E9 G9 z9 with rfl
    · refine ⟨0, _, _, rfl, (fun z hz => absurd hz (by simp)), by decide, by decide, cl_RL_22, by decide, fun q9 => ?_⟩
      show V p l e rm_L_giveTo s m args below meth c 5 Θ (wQ fI [eX] Qc) rm_L_giveTo.cells rm_L_giveTo.slots (0 + rm_X11_giveTo.cells) (0 + rm_X11_giveTo.slots) 13 [some (.ref (tR Θ 0 14)), some (.int a0), some (.int a1), some (.ref (tR Θ 0 38)), none] [.ref q9] G9
      refine v_astore (q := 15) hC dL_giveTo_13 rfl (lvc rfl) (Nat.le_of_ble_eq_true rfl) (Nat.le_of_ble_eq_true rfl) rfl ?_
      refine v_iconst (q := 16) (v := 1) hC dL_giveTo_15 rfl (by decide) ?_
      refine v_iret hC dL_giveTo_16 hr (rfl) ?_ (Nat.le_of_ble_eq_true rfl) (Nat.le_of_ble_eq_true rfl)
      exact Or.inr ⟨_, _, z9, by first | rfl | (congr 3), rfl⟩
  refine v_aload_n (i := 3) (q := 1) hC dL_giveTo_0 rfl rfl rfl ?_
  refine v_iconst (q := 2) (v := 0) hC dL_giveTo_1 rfl (by decide) ?_
  refine v_aload_n (i := 0) (q := 3) hC dL_giveTo_2 rfl rfl rfl ?_
  refine v_iload_n (i := 1) (q := 4) hC dL_giveTo_3 rfl rfl rfl ?_
  refine v_iload_n (i := 2) (q := 5) hC dL_giveTo_4 rfl rfl rfl ?_
  refine v_callTry (q := 8) (rm := rm_X11_giveTo) hC hT hM k_X11_giveTo im_yX11_giveTo se_yX11_giveTo ml_RL_43 dL_giveTo_5 rfl rfl rfl rfl rfl rfl (Nat.le_of_ble_eq_true rfl) ⟨Nat.le_of_ble_eq_true rfl, Nat.le_of_ble_eq_true rfl⟩ ⟨Nat.le_of_ble_eq_true rfl, Nat.le_of_ble_eq_true rfl⟩ (fun v9 G9 z9 => ?_) HX
  obtain ⟨x9, rfl⟩ := hv _ _ z9
  dsimp only [Option.toList, List.cons_append, List.nil_append]
  refine v_i2l (q := 9) hC dL_giveTo_8 rfl ?_
  refine v_lastO (q := 10) hC dL_giveTo_9 rfl ?_
  refine v_goto (q := 17) hC dL_giveTo_10 (by decide) ?_
  refine v_iconst (q := 18) (v := 0) hC dL_giveTo_17 rfl (by decide) ?_
  refine v_iret hC dL_giveTo_18 hr (rfl) ?_ (Nat.le_of_ble_eq_true rfl) (Nat.le_of_ble_eq_true rfl)
  exact Or.inl ⟨x9, _, z9, rfl, rfl⟩
abbrev rm_L_setMask : Room := { frames := 8, locals := 135, cells := 2, slots := 12 }
set_option maxHeartbeats 4000000 in
set_option maxRecDepth 20000 in
theorem w_L_setMask {l : Launch} (hl : l.stackTraces = false) (Θ : cTH) {Qc : cOut → GS → Prop} (a0 a1 : Int32) (G : GS) (hM : Ct l yX11_setMask cX11_setMask 4 (some .int) rm_X11_setMask Θ [.ref (tR Θ 0 14), .int a0, .int a1] G Qc) (hv : ∀ r G1, Qc (.inl r) G1 → ∃ x : Int32, r = some (.int x)) (hx : ∀ E G1, Qc (.inr E) G1 → E = eX ∨ E = eA) : CtH l yL_setMask cL_setMask 5 (some .int) [(0, 10, 13, 22), (0, 10, 17, 49)] rm_L_setMask Θ [.ref (tR Θ 0 14), .int a0, .int a1, .ref (tR Θ 0 38)] G (wQ fI [eX, eA] Qc) := by
  refine cth_of (LS := [some (.ref (tR Θ 0 14)), some (.int a0), some (.int a1), some (.ref (tR Θ 0 38)), none]) hl (by decide +kernel) rfl rfl (Nat.le_of_ble_eq_true rfl) rfl ?_
  intro p e s m args below meth c hC hr hT
  have HX : ∀ E9 G9, Qc (.inr E9) G9 → ∃ (i : Nat) (x : ExceptionTableEntry) (nm : String), (tableOf [(0, 10, 13, 22), (0, 10, 17, 49)])[i]? = some x ∧ (∀ z ∈ (tableOf [(0, 10, 13, 22), (0, 10, 17, 49)]).take i, covers z 5 = false ∨ (z.catchType ≠ 0 ∧ ∃ nm : String, Cond.classLink RL z.catchType nm ∈ wALL ∧ (E9, nm) ∈ ncW)) ∧ covers x 5 = true ∧ x.catchType ≠ 0 ∧ Cond.classLink RL x.catchType nm ∈ wALL ∧ Cond.castable E9 nm ∈ excW ∧ ∀ q9 : Nat, V p l e rm_L_setMask s m args below meth c 5 Θ (wQ fI [eX, eA] Qc) rm_L_setMask.cells rm_L_setMask.slots (0 + rm_X11_setMask.cells) (0 + rm_X11_setMask.slots) x.handlerPc [some (.ref (tR Θ 0 14)), some (.int a0), some (.int a1), some (.ref (tR Θ 0 38)), none] [.ref q9] G9 := by
    intro E9 G9 z9
    rcases hx E9 G9 z9 with rfl | rfl
    · refine ⟨0, _, _, rfl, (fun z hz => absurd hz (by simp)), by decide, by decide, cl_RL_22, by decide, fun q9 => ?_⟩
      show V p l e rm_L_setMask s m args below meth c 5 Θ (wQ fI [eX, eA] Qc) rm_L_setMask.cells rm_L_setMask.slots (0 + rm_X11_setMask.cells) (0 + rm_X11_setMask.slots) 13 [some (.ref (tR Θ 0 14)), some (.int a0), some (.int a1), some (.ref (tR Θ 0 38)), none] [.ref q9] G9
      refine v_astore (q := 15) hC dL_setMask_13 rfl (lvc rfl) (Nat.le_of_ble_eq_true rfl) (Nat.le_of_ble_eq_true rfl) rfl ?_
      refine v_iconst (q := 16) (v := 1) hC dL_setMask_15 rfl (by decide) ?_
      refine v_iret hC dL_setMask_16 hr (rfl) ?_ (Nat.le_of_ble_eq_true rfl) (Nat.le_of_ble_eq_true rfl)
      exact Or.inr ⟨_, _, z9, by first | rfl | (congr 3), rfl⟩
    · refine ⟨1, _, _, rfl, (List.forall_mem_cons.mpr ⟨Or.inr ⟨by decide, _, cl_RL_22, by decide⟩, List.forall_mem_nil _⟩), by decide, by decide, cl_RL_49, by decide, fun q9 => ?_⟩
      show V p l e rm_L_setMask s m args below meth c 5 Θ (wQ fI [eX, eA] Qc) rm_L_setMask.cells rm_L_setMask.slots (0 + rm_X11_setMask.cells) (0 + rm_X11_setMask.slots) 17 [some (.ref (tR Θ 0 14)), some (.int a0), some (.int a1), some (.ref (tR Θ 0 38)), none] [.ref q9] G9
      refine v_astore (q := 19) hC dL_setMask_17 rfl (lvc rfl) (Nat.le_of_ble_eq_true rfl) (Nat.le_of_ble_eq_true rfl) rfl ?_
      refine v_iconst (q := 20) (v := 2) hC dL_setMask_19 rfl (by decide) ?_
      refine v_iret hC dL_setMask_20 hr (rfl) ?_ (Nat.le_of_ble_eq_true rfl) (Nat.le_of_ble_eq_true rfl)
      exact Or.inr ⟨_, _, z9, by first | rfl | (congr 3), rfl⟩
  refine v_aload_n (i := 3) (q := 1) hC dL_setMask_0 rfl rfl rfl ?_
  refine v_iconst (q := 2) (v := 0) hC dL_setMask_1 rfl (by decide) ?_
  refine v_aload_n (i := 0) (q := 3) hC dL_setMask_2 rfl rfl rfl ?_
  refine v_iload_n (i := 1) (q := 4) hC dL_setMask_3 rfl rfl rfl ?_
  refine v_iload_n (i := 2) (q := 5) hC dL_setMask_4 rfl rfl rfl ?_
  refine v_callTry (q := 8) (rm := rm_X11_setMask) hC hT hM k_X11_setMask im_yX11_setMask se_yX11_setMask ml_RL_46 dL_setMask_5 rfl rfl rfl rfl rfl rfl (Nat.le_of_ble_eq_true rfl) ⟨Nat.le_of_ble_eq_true rfl, Nat.le_of_ble_eq_true rfl⟩ ⟨Nat.le_of_ble_eq_true rfl, Nat.le_of_ble_eq_true rfl⟩ (fun v9 G9 z9 => ?_) HX
  obtain ⟨x9, rfl⟩ := hv _ _ z9
  dsimp only [Option.toList, List.cons_append, List.nil_append]
  refine v_i2l (q := 9) hC dL_setMask_8 rfl ?_
  refine v_lastO (q := 10) hC dL_setMask_9 rfl ?_
  refine v_goto (q := 21) hC dL_setMask_10 (by decide) ?_
  refine v_iconst (q := 22) (v := 0) hC dL_setMask_21 rfl (by decide) ?_
  refine v_iret hC dL_setMask_22 hr (rfl) ?_ (Nat.le_of_ble_eq_true rfl) (Nat.le_of_ble_eq_true rfl)
  exact Or.inl ⟨x9, _, z9, rfl, rfl⟩
abbrev rm_L_setInheriting : Room := { frames := 8, locals := 135, cells := 1, slots := 6 }
set_option maxHeartbeats 4000000 in
set_option maxRecDepth 20000 in
theorem w_L_setInheriting {l : Launch} (hl : l.stackTraces = false) (Θ : cTH) {Qc : cOut → GS → Prop} (a0 a1 : Int32) (G : GS) (hM : Ct l yX11_setInheriting cX11_setInheriting 4 (some .boolean) rm_X11_setInheriting Θ [.ref (tR Θ 0 14), .int a0, .int a1] G Qc) (hv : ∀ r G1, Qc (.inl r) G1 → ∃ x : Int32, r = some (.int x)) (hx : ∀ E G1, Qc (.inr E) G1 → E = eX) : CtH l yL_setInheriting cL_setInheriting 5 (some .int) [(0, 17, 20, 22)] rm_L_setInheriting Θ [.ref (tR Θ 0 14), .int a0, .int a1, .ref (tR Θ 0 38)] G (wQ fZ [eX] Qc) := by
  refine cth_of (LS := [some (.ref (tR Θ 0 14)), some (.int a0), some (.int a1), some (.ref (tR Θ 0 38)), none]) hl (by decide +kernel) rfl rfl (Nat.le_of_ble_eq_true rfl) rfl ?_
  intro p e s m args below meth c hC hr hT
  have HX : ∀ E9 G9, Qc (.inr E9) G9 → ∃ (i : Nat) (x : ExceptionTableEntry) (nm : String), (tableOf [(0, 17, 20, 22)])[i]? = some x ∧ (∀ z ∈ (tableOf [(0, 17, 20, 22)]).take i, covers z 5 = false ∨ (z.catchType ≠ 0 ∧ ∃ nm : String, Cond.classLink RL z.catchType nm ∈ wALL ∧ (E9, nm) ∈ ncW)) ∧ covers x 5 = true ∧ x.catchType ≠ 0 ∧ Cond.classLink RL x.catchType nm ∈ wALL ∧ Cond.castable E9 nm ∈ excW ∧ ∀ q9 : Nat, V p l e rm_L_setInheriting s m args below meth c 5 Θ (wQ fZ [eX] Qc) rm_L_setInheriting.cells rm_L_setInheriting.slots (0 + rm_X11_setInheriting.cells) (0 + rm_X11_setInheriting.slots) x.handlerPc [some (.ref (tR Θ 0 14)), some (.int a0), some (.int a1), some (.ref (tR Θ 0 38)), none] [.ref q9] G9 := by
    intro E9 G9 z9
    rcases hx E9 G9 z9 with rfl
    · refine ⟨0, _, _, rfl, (fun z hz => absurd hz (by simp)), by decide, by decide, cl_RL_22, by decide, fun q9 => ?_⟩
      show V p l e rm_L_setInheriting s m args below meth c 5 Θ (wQ fZ [eX] Qc) rm_L_setInheriting.cells rm_L_setInheriting.slots (0 + rm_X11_setInheriting.cells) (0 + rm_X11_setInheriting.slots) 20 [some (.ref (tR Θ 0 14)), some (.int a0), some (.int a1), some (.ref (tR Θ 0 38)), none] [.ref q9] G9
      refine v_astore (q := 22) hC dL_setInheriting_20 rfl (lvc rfl) (Nat.le_of_ble_eq_true rfl) (Nat.le_of_ble_eq_true rfl) rfl ?_
      refine v_iconst (q := 23) (v := 1) hC dL_setInheriting_22 rfl (by decide) ?_
      refine v_iret hC dL_setInheriting_23 hr (rfl) ?_ (Nat.le_of_ble_eq_true rfl) (Nat.le_of_ble_eq_true rfl)
      exact Or.inr ⟨_, _, z9, by first | rfl | (congr 3), rfl⟩
  refine v_aload_n (i := 3) (q := 1) hC dL_setInheriting_0 rfl rfl rfl ?_
  refine v_iconst (q := 2) (v := 0) hC dL_setInheriting_1 rfl (by decide) ?_
  refine v_aload_n (i := 0) (q := 3) hC dL_setInheriting_2 rfl rfl rfl ?_
  refine v_iload_n (i := 1) (q := 4) hC dL_setInheriting_3 rfl rfl rfl ?_
  refine v_iload_n (i := 2) (q := 5) hC dL_setInheriting_4 rfl rfl rfl ?_
  refine v_callTry (q := 8) (rm := rm_X11_setInheriting) hC hT hM k_X11_setInheriting im_yX11_setInheriting se_yX11_setInheriting ml_RL_51 dL_setInheriting_5 rfl rfl rfl rfl rfl rfl (Nat.le_of_ble_eq_true rfl) ⟨Nat.le_of_ble_eq_true rfl, Nat.le_of_ble_eq_true rfl⟩ ⟨Nat.le_of_ble_eq_true rfl, Nat.le_of_ble_eq_true rfl⟩ (fun v9 G9 z9 => ?_) HX
  obtain ⟨x9, rfl⟩ := hv _ _ z9
  dsimp only [Option.toList, List.cons_append, List.nil_append]
  refine v_if_eq (q := 15) (q2 := 11) hC dL_setInheriting_8 (by decide) rfl (fun c_8 => ?_) (fun c_8 => ?_)
  · refine v_lconst (q := 16) (v := 0) hC dL_setInheriting_15 rfl rfl ?_
    refine v_lastO (q := 17) hC dL_setInheriting_16 rfl ?_
    refine v_goto (q := 24) hC dL_setInheriting_17 (by decide) ?_
    refine v_iconst (q := 25) (v := 0) hC dL_setInheriting_24 rfl (by decide) ?_
    refine v_iret hC dL_setInheriting_25 hr (rfl) ?_ (Nat.le_of_ble_eq_true rfl) (Nat.le_of_ble_eq_true rfl)
    refine Or.inl ⟨x9, _, z9, rfl, ?_⟩
    first | (rw [fZ, if_pos c_8]) | (rw [fZ, if_neg c_8])
  · refine v_lconst (q := 12) (v := 1) hC dL_setInheriting_11 rfl rfl ?_
    refine v_goto (q := 16) hC dL_setInheriting_12 (by decide) ?_
    refine v_lastO (q := 17) hC dL_setInheriting_16 rfl ?_
    refine v_goto (q := 24) hC dL_setInheriting_17 (by decide) ?_
    refine v_iconst (q := 25) (v := 0) hC dL_setInheriting_24 rfl (by decide) ?_
    refine v_iret hC dL_setInheriting_25 hr (rfl) ?_ (Nat.le_of_ble_eq_true rfl) (Nat.le_of_ble_eq_true rfl)
    refine Or.inl ⟨x9, _, z9, rfl, ?_⟩
    first | (rw [fZ, if_pos c_8]) | (rw [fZ, if_neg c_8])
abbrev rm_L_addForUser : Room := { frames := 9, locals := 164, cells := 4, slots := 24 }
set_option maxHeartbeats 4000000 in
set_option maxRecDepth 20000 in
theorem w_L_addForUser {l : Launch} (hl : l.stackTraces = false) (Θ : cTH) {Qc : cOut → GS → Prop} (a0 a1 a2 a3 a4 : Int32) (G : GS) (hM : Ct l yX11_addForUser cX11_addForUser 6 (some .int) rm_X11_addForUser Θ [.ref (tR Θ 0 14), .int a0, .int a1, .int a2, .int a3, .int a4] G Qc) (hv : ∀ r G1, Qc (.inl r) G1 → ∃ x : Int32, r = some (.int x)) (hx : ∀ E G1, Qc (.inr E) G1 → E = eX ∨ E = eA ∨ E = eS) : CtH l yL_addForUser cL_addForUser 8 (some .int) [(0, 16, 19, 22), (0, 16, 23, 49), (0, 16, 27, 13)] rm_L_addForUser Θ [.ref (tR Θ 0 14), .int a0, .int a1, .int a2, .int a3, .int a4, .ref (tR Θ 0 38)] G (wQ fI [eX, eA, eS] Qc) := by
  refine cth_of (LS := [some (.ref (tR Θ 0 14)), some (.int a0), some (.int a1), some (.int a2), some (.int a3), some (.int a4), some (.ref (tR Θ 0 38)), none]) hl (by decide +kernel) rfl rfl (Nat.le_of_ble_eq_true rfl) rfl ?_
  intro p e s m args below meth c hC hr hT
  have HX : ∀ E9 G9, Qc (.inr E9) G9 → ∃ (i : Nat) (x : ExceptionTableEntry) (nm : String), (tableOf [(0, 16, 19, 22), (0, 16, 23, 49), (0, 16, 27, 13)])[i]? = some x ∧ (∀ z ∈ (tableOf [(0, 16, 19, 22), (0, 16, 23, 49), (0, 16, 27, 13)]).take i, covers z 11 = false ∨ (z.catchType ≠ 0 ∧ ∃ nm : String, Cond.classLink RL z.catchType nm ∈ wALL ∧ (E9, nm) ∈ ncW)) ∧ covers x 11 = true ∧ x.catchType ≠ 0 ∧ Cond.classLink RL x.catchType nm ∈ wALL ∧ Cond.castable E9 nm ∈ excW ∧ ∀ q9 : Nat, V p l e rm_L_addForUser s m args below meth c 8 Θ (wQ fI [eX, eA, eS] Qc) rm_L_addForUser.cells rm_L_addForUser.slots (0 + rm_X11_addForUser.cells) (0 + rm_X11_addForUser.slots) x.handlerPc [some (.ref (tR Θ 0 14)), some (.int a0), some (.int a1), some (.int a2), some (.int a3), some (.int a4), some (.ref (tR Θ 0 38)), none] [.ref q9] G9 := by
    intro E9 G9 z9
    rcases hx E9 G9 z9 with rfl | rfl | rfl
    · refine ⟨0, _, _, rfl, (fun z hz => absurd hz (by simp)), by decide, by decide, cl_RL_22, by decide, fun q9 => ?_⟩
      show V p l e rm_L_addForUser s m args below meth c 8 Θ (wQ fI [eX, eA, eS] Qc) rm_L_addForUser.cells rm_L_addForUser.slots (0 + rm_X11_addForUser.cells) (0 + rm_X11_addForUser.slots) 19 [some (.ref (tR Θ 0 14)), some (.int a0), some (.int a1), some (.int a2), some (.int a3), some (.int a4), some (.ref (tR Θ 0 38)), none] [.ref q9] G9
      refine v_astore (q := 21) hC dL_addForUser_19 rfl (lvc rfl) (Nat.le_of_ble_eq_true rfl) (Nat.le_of_ble_eq_true rfl) rfl ?_
      refine v_iconst (q := 22) (v := 1) hC dL_addForUser_21 rfl (by decide) ?_
      refine v_iret hC dL_addForUser_22 hr (rfl) ?_ (Nat.le_of_ble_eq_true rfl) (Nat.le_of_ble_eq_true rfl)
      exact Or.inr ⟨_, _, z9, by first | rfl | (congr 3), rfl⟩
    · refine ⟨1, _, _, rfl, (List.forall_mem_cons.mpr ⟨Or.inr ⟨by decide, _, cl_RL_22, by decide⟩, List.forall_mem_nil _⟩), by decide, by decide, cl_RL_49, by decide, fun q9 => ?_⟩
      show V p l e rm_L_addForUser s m args below meth c 8 Θ (wQ fI [eX, eA, eS] Qc) rm_L_addForUser.cells rm_L_addForUser.slots (0 + rm_X11_addForUser.cells) (0 + rm_X11_addForUser.slots) 23 [some (.ref (tR Θ 0 14)), some (.int a0), some (.int a1), some (.int a2), some (.int a3), some (.int a4), some (.ref (tR Θ 0 38)), none] [.ref q9] G9
      refine v_astore (q := 25) hC dL_addForUser_23 rfl (lvc rfl) (Nat.le_of_ble_eq_true rfl) (Nat.le_of_ble_eq_true rfl) rfl ?_
      refine v_iconst (q := 26) (v := 2) hC dL_addForUser_25 rfl (by decide) ?_
      refine v_iret hC dL_addForUser_26 hr (rfl) ?_ (Nat.le_of_ble_eq_true rfl) (Nat.le_of_ble_eq_true rfl)
      exact Or.inr ⟨_, _, z9, by first | rfl | (congr 3), rfl⟩
    · refine ⟨2, _, _, rfl, (List.forall_mem_cons.mpr ⟨Or.inr ⟨by decide, _, cl_RL_22, by decide⟩, List.forall_mem_cons.mpr ⟨Or.inr ⟨by decide, _, cl_RL_49, by decide⟩, List.forall_mem_nil _⟩⟩), by decide, by decide, cl_RL_13, by decide, fun q9 => ?_⟩
      show V p l e rm_L_addForUser s m args below meth c 8 Θ (wQ fI [eX, eA, eS] Qc) rm_L_addForUser.cells rm_L_addForUser.slots (0 + rm_X11_addForUser.cells) (0 + rm_X11_addForUser.slots) 27 [some (.ref (tR Θ 0 14)), some (.int a0), some (.int a1), some (.int a2), some (.int a3), some (.int a4), some (.ref (tR Θ 0 38)), none] [.ref q9] G9
      refine v_astore (q := 29) hC dL_addForUser_27 rfl (lvc rfl) (Nat.le_of_ble_eq_true rfl) (Nat.le_of_ble_eq_true rfl) rfl ?_
      refine v_iconst (q := 30) (v := 3) hC dL_addForUser_29 rfl (by decide) ?_
      refine v_iret hC dL_addForUser_30 hr (rfl) ?_ (Nat.le_of_ble_eq_true rfl) (Nat.le_of_ble_eq_true rfl)
      exact Or.inr ⟨_, _, z9, by first | rfl | (congr 3), rfl⟩
  refine v_aload (q := 2) hC dL_addForUser_0 rfl rfl ?_
  refine v_iconst (q := 3) (v := 0) hC dL_addForUser_2 rfl (by decide) ?_
  refine v_aload_n (i := 0) (q := 4) hC dL_addForUser_3 rfl rfl rfl ?_
  refine v_iload_n (i := 1) (q := 5) hC dL_addForUser_4 rfl rfl rfl ?_
  refine v_iload_n (i := 2) (q := 6) hC dL_addForUser_5 rfl rfl rfl ?_
  refine v_iload_n (i := 3) (q := 7) hC dL_addForUser_6 rfl rfl rfl ?_
  refine v_iload (q := 9) hC dL_addForUser_7 rfl rfl ?_
  refine v_iload (q := 11) hC dL_addForUser_9 rfl rfl ?_
  refine v_callTry (q := 14) (rm := rm_X11_addForUser) hC hT hM k_X11_addForUser im_yX11_addForUser se_yX11_addForUser ml_RL_55 dL_addForUser_11 rfl rfl rfl rfl rfl rfl (Nat.le_of_ble_eq_true rfl) ⟨Nat.le_of_ble_eq_true rfl, Nat.le_of_ble_eq_true rfl⟩ ⟨Nat.le_of_ble_eq_true rfl, Nat.le_of_ble_eq_true rfl⟩ (fun v9 G9 z9 => ?_) HX
  obtain ⟨x9, rfl⟩ := hv _ _ z9
  dsimp only [Option.toList, List.cons_append, List.nil_append]
  refine v_i2l (q := 15) hC dL_addForUser_14 rfl ?_
  refine v_lastO (q := 16) hC dL_addForUser_15 rfl ?_
  refine v_goto (q := 31) hC dL_addForUser_16 (by decide) ?_
  refine v_iconst (q := 32) (v := 0) hC dL_addForUser_31 rfl (by decide) ?_
  refine v_iret hC dL_addForUser_32 hr (rfl) ?_ (Nat.le_of_ble_eq_true rfl) (Nat.le_of_ble_eq_true rfl)
  exact Or.inl ⟨x9, _, z9, rfl, rfl⟩
abbrev rm_L_addForGroup : Room := { frames := 9, locals := 164, cells := 4, slots := 24 }
set_option maxHeartbeats 4000000 in
set_option maxRecDepth 20000 in
theorem w_L_addForGroup {l : Launch} (hl : l.stackTraces = false) (Θ : cTH) {Qc : cOut → GS → Prop} (a0 a1 a2 a3 a4 : Int32) (G : GS) (hM : Ct l yX11_addForGroup cX11_addForGroup 6 (some .int) rm_X11_addForGroup Θ [.ref (tR Θ 0 14), .int a0, .int a1, .int a2, .int a3, .int a4] G Qc) (hv : ∀ r G1, Qc (.inl r) G1 → ∃ x : Int32, r = some (.int x)) (hx : ∀ E G1, Qc (.inr E) G1 → E = eX ∨ E = eA ∨ E = eS) : CtH l yL_addForGroup cL_addForGroup 8 (some .int) [(0, 16, 19, 22), (0, 16, 23, 49), (0, 16, 27, 13)] rm_L_addForGroup Θ [.ref (tR Θ 0 14), .int a0, .int a1, .int a2, .int a3, .int a4, .ref (tR Θ 0 38)] G (wQ fI [eX, eA, eS] Qc) := by
  refine cth_of (LS := [some (.ref (tR Θ 0 14)), some (.int a0), some (.int a1), some (.int a2), some (.int a3), some (.int a4), some (.ref (tR Θ 0 38)), none]) hl (by decide +kernel) rfl rfl (Nat.le_of_ble_eq_true rfl) rfl ?_
  intro p e s m args below meth c hC hr hT
  have HX : ∀ E9 G9, Qc (.inr E9) G9 → ∃ (i : Nat) (x : ExceptionTableEntry) (nm : String), (tableOf [(0, 16, 19, 22), (0, 16, 23, 49), (0, 16, 27, 13)])[i]? = some x ∧ (∀ z ∈ (tableOf [(0, 16, 19, 22), (0, 16, 23, 49), (0, 16, 27, 13)]).take i, covers z 11 = false ∨ (z.catchType ≠ 0 ∧ ∃ nm : String, Cond.classLink RL z.catchType nm ∈ wALL ∧ (E9, nm) ∈ ncW)) ∧ covers x 11 = true ∧ x.catchType ≠ 0 ∧ Cond.classLink RL x.catchType nm ∈ wALL ∧ Cond.castable E9 nm ∈ excW ∧ ∀ q9 : Nat, V p l e rm_L_addForGroup s m args below meth c 8 Θ (wQ fI [eX, eA, eS] Qc) rm_L_addForGroup.cells rm_L_addForGroup.slots (0 + rm_X11_addForGroup.cells) (0 + rm_X11_addForGroup.slots) x.handlerPc [some (.ref (tR Θ 0 14)), some (.int a0), some (.int a1), some (.int a2), some (.int a3), some (.int a4), some (.ref (tR Θ 0 38)), none] [.ref q9] G9 := by
    intro E9 G9 z9
    rcases hx E9 G9 z9 with rfl | rfl | rfl
    · refine ⟨0, _, _, rfl, (fun z hz => absurd hz (by simp)), by decide, by decide, cl_RL_22, by decide, fun q9 => ?_⟩
      show V p l e rm_L_addForGroup s m args below meth c 8 Θ (wQ fI [eX, eA, eS] Qc) rm_L_addForGroup.cells rm_L_addForGroup.slots (0 + rm_X11_addForGroup.cells) (0 + rm_X11_addForGroup.slots) 19 [some (.ref (tR Θ 0 14)), some (.int a0), some (.int a1), some (.int a2), some (.int a3), some (.int a4), some (.ref (tR Θ 0 38)), none] [.ref q9] G9
      refine v_astore (q := 21) hC dL_addForGroup_19 rfl (lvc rfl) (Nat.le_of_ble_eq_true rfl) (Nat.le_of_ble_eq_true rfl) rfl ?_
      refine v_iconst (q := 22) (v := 1) hC dL_addForGroup_21 rfl (by decide) ?_
      refine v_iret hC dL_addForGroup_22 hr (rfl) ?_ (Nat.le_of_ble_eq_true rfl) (Nat.le_of_ble_eq_true rfl)
      exact Or.inr ⟨_, _, z9, by first | rfl | (congr 3), rfl⟩
    · refine ⟨1, _, _, rfl, (List.forall_mem_cons.mpr ⟨Or.inr ⟨by decide, _, cl_RL_22, by decide⟩, List.forall_mem_nil _⟩), by decide, by decide, cl_RL_49, by decide, fun q9 => ?_⟩
      show V p l e rm_L_addForGroup s m args below meth c 8 Θ (wQ fI [eX, eA, eS] Qc) rm_L_addForGroup.cells rm_L_addForGroup.slots (0 + rm_X11_addForGroup.cells) (0 + rm_X11_addForGroup.slots) 23 [some (.ref (tR Θ 0 14)), some (.int a0), some (.int a1), some (.int a2), some (.int a3), some (.int a4), some (.ref (tR Θ 0 38)), none] [.ref q9] G9
      refine v_astore (q := 25) hC dL_addForGroup_23 rfl (lvc rfl) (Nat.le_of_ble_eq_true rfl) (Nat.le_of_ble_eq_true rfl) rfl ?_
      refine v_iconst (q := 26) (v := 2) hC dL_addForGroup_25 rfl (by decide) ?_
      refine v_iret hC dL_addForGroup_26 hr (rfl) ?_ (Nat.le_of_ble_eq_true rfl) (Nat.le_of_ble_eq_true rfl)
      exact Or.inr ⟨_, _, z9, by first | rfl | (congr 3), rfl⟩
    · refine ⟨2, _, _, rfl, (List.forall_mem_cons.mpr ⟨Or.inr ⟨by decide, _, cl_RL_22, by decide⟩, List.forall_mem_cons.mpr ⟨Or.inr ⟨by decide, _, cl_RL_49, by decide⟩, List.forall_mem_nil _⟩⟩), by decide, by decide, cl_RL_13, by decide, fun q9 => ?_⟩
      show V p l e rm_L_addForGroup s m args below meth c 8 Θ (wQ fI [eX, eA, eS] Qc) rm_L_addForGroup.cells rm_L_addForGroup.slots (0 + rm_X11_addForGroup.cells) (0 + rm_X11_addForGroup.slots) 27 [some (.ref (tR Θ 0 14)), some (.int a0), some (.int a1), some (.int a2), some (.int a3), some (.int a4), some (.ref (tR Θ 0 38)), none] [.ref q9] G9
      refine v_astore (q := 29) hC dL_addForGroup_27 rfl (lvc rfl) (Nat.le_of_ble_eq_true rfl) (Nat.le_of_ble_eq_true rfl) rfl ?_
      refine v_iconst (q := 30) (v := 3) hC dL_addForGroup_29 rfl (by decide) ?_
      refine v_iret hC dL_addForGroup_30 hr (rfl) ?_ (Nat.le_of_ble_eq_true rfl) (Nat.le_of_ble_eq_true rfl)
      exact Or.inr ⟨_, _, z9, by first | rfl | (congr 3), rfl⟩
  refine v_aload (q := 2) hC dL_addForGroup_0 rfl rfl ?_
  refine v_iconst (q := 3) (v := 0) hC dL_addForGroup_2 rfl (by decide) ?_
  refine v_aload_n (i := 0) (q := 4) hC dL_addForGroup_3 rfl rfl rfl ?_
  refine v_iload_n (i := 1) (q := 5) hC dL_addForGroup_4 rfl rfl rfl ?_
  refine v_iload_n (i := 2) (q := 6) hC dL_addForGroup_5 rfl rfl rfl ?_
  refine v_iload_n (i := 3) (q := 7) hC dL_addForGroup_6 rfl rfl rfl ?_
  refine v_iload (q := 9) hC dL_addForGroup_7 rfl rfl ?_
  refine v_iload (q := 11) hC dL_addForGroup_9 rfl rfl ?_
  refine v_callTry (q := 14) (rm := rm_X11_addForGroup) hC hT hM k_X11_addForGroup im_yX11_addForGroup se_yX11_addForGroup ml_RL_59 dL_addForGroup_11 rfl rfl rfl rfl rfl rfl (Nat.le_of_ble_eq_true rfl) ⟨Nat.le_of_ble_eq_true rfl, Nat.le_of_ble_eq_true rfl⟩ ⟨Nat.le_of_ble_eq_true rfl, Nat.le_of_ble_eq_true rfl⟩ (fun v9 G9 z9 => ?_) HX
  obtain ⟨x9, rfl⟩ := hv _ _ z9
  dsimp only [Option.toList, List.cons_append, List.nil_append]
  refine v_i2l (q := 15) hC dL_addForGroup_14 rfl ?_
  refine v_lastO (q := 16) hC dL_addForGroup_15 rfl ?_
  refine v_goto (q := 31) hC dL_addForGroup_16 (by decide) ?_
  refine v_iconst (q := 32) (v := 0) hC dL_addForGroup_31 rfl (by decide) ?_
  refine v_iret hC dL_addForGroup_32 hr (rfl) ?_ (Nat.le_of_ble_eq_true rfl) (Nat.le_of_ble_eq_true rfl)
  exact Or.inl ⟨x9, _, z9, rfl, rfl⟩
abbrev rm_L_addForOwner : Room := { frames := 9, locals := 163, cells := 3, slots := 18 }
set_option maxHeartbeats 4000000 in
set_option maxRecDepth 20000 in
theorem w_L_addForOwner {l : Launch} (hl : l.stackTraces = false) (Θ : cTH) {Qc : cOut → GS → Prop} (a0 a1 a2 a3 : Int32) (G : GS) (hM : Ct l yX11_addForOwner cX11_addForOwner 5 (some .int) rm_X11_addForOwner Θ [.ref (tR Θ 0 14), .int a0, .int a1, .int a2, .int a3] G Qc) (hv : ∀ r G1, Qc (.inl r) G1 → ∃ x : Int32, r = some (.int x)) (hx : ∀ E G1, Qc (.inr E) G1 → E = eX ∨ E = eA ∨ E = eS) : CtH l yL_addForOwner cL_addForOwner 7 (some .int) [(0, 14, 17, 22), (0, 14, 21, 49), (0, 14, 25, 13)] rm_L_addForOwner Θ [.ref (tR Θ 0 14), .int a0, .int a1, .int a2, .int a3, .ref (tR Θ 0 38)] G (wQ fI [eX, eA, eS] Qc) := by
  refine cth_of (LS := [some (.ref (tR Θ 0 14)), some (.int a0), some (.int a1), some (.int a2), some (.int a3), some (.ref (tR Θ 0 38)), none]) hl (by decide +kernel) rfl rfl (Nat.le_of_ble_eq_true rfl) rfl ?_
  intro p e s m args below meth c hC hr hT
  have HX : ∀ E9 G9, Qc (.inr E9) G9 → ∃ (i : Nat) (x : ExceptionTableEntry) (nm : String), (tableOf [(0, 14, 17, 22), (0, 14, 21, 49), (0, 14, 25, 13)])[i]? = some x ∧ (∀ z ∈ (tableOf [(0, 14, 17, 22), (0, 14, 21, 49), (0, 14, 25, 13)]).take i, covers z 9 = false ∨ (z.catchType ≠ 0 ∧ ∃ nm : String, Cond.classLink RL z.catchType nm ∈ wALL ∧ (E9, nm) ∈ ncW)) ∧ covers x 9 = true ∧ x.catchType ≠ 0 ∧ Cond.classLink RL x.catchType nm ∈ wALL ∧ Cond.castable E9 nm ∈ excW ∧ ∀ q9 : Nat, V p l e rm_L_addForOwner s m args below meth c 7 Θ (wQ fI [eX, eA, eS] Qc) rm_L_addForOwner.cells rm_L_addForOwner.slots (0 + rm_X11_addForOwner.cells) (0 + rm_X11_addForOwner.slots) x.handlerPc [some (.ref (tR Θ 0 14)), some (.int a0), some (.int a1), some (.int a2), some (.int a3), some (.ref (tR Θ 0 38)), none] [.ref q9] G9 := by
    intro E9 G9 z9
    rcases hx E9 G9 z9 with rfl | rfl | rfl
    · refine ⟨0, _, _, rfl, (fun z hz => absurd hz (by simp)), by decide, by decide, cl_RL_22, by decide, fun q9 => ?_⟩
      show V p l e rm_L_addForOwner s m args below meth c 7 Θ (wQ fI [eX, eA, eS] Qc) rm_L_addForOwner.cells rm_L_addForOwner.slots (0 + rm_X11_addForOwner.cells) (0 + rm_X11_addForOwner.slots) 17 [some (.ref (tR Θ 0 14)), some (.int a0), some (.int a1), some (.int a2), some (.int a3), some (.ref (tR Θ 0 38)), none] [.ref q9] G9
      refine v_astore (q := 19) hC dL_addForOwner_17 rfl (lvc rfl) (Nat.le_of_ble_eq_true rfl) (Nat.le_of_ble_eq_true rfl) rfl ?_
      refine v_iconst (q := 20) (v := 1) hC dL_addForOwner_19 rfl (by decide) ?_
      refine v_iret hC dL_addForOwner_20 hr (rfl) ?_ (Nat.le_of_ble_eq_true rfl) (Nat.le_of_ble_eq_true rfl)
      exact Or.inr ⟨_, _, z9, by first | rfl | (congr 3), rfl⟩
    · refine ⟨1, _, _, rfl, (List.forall_mem_cons.mpr ⟨Or.inr ⟨by decide, _, cl_RL_22, by decide⟩, List.forall_mem_nil _⟩), by decide, by decide, cl_RL_49, by decide, fun q9 => ?_⟩
      show V p l e rm_L_addForOwner s m args below meth c 7 Θ (wQ fI [eX, eA, eS] Qc) rm_L_addForOwner.cells rm_L_addForOwner.slots (0 + rm_X11_addForOwner.cells) (0 + rm_X11_addForOwner.slots) 21 [some (.ref (tR Θ 0 14)), some (.int a0), some (.int a1), some (.int a2), some (.int a3), some (.ref (tR Θ 0 38)), none] [.ref q9] G9
      refine v_astore (q := 23) hC dL_addForOwner_21 rfl (lvc rfl) (Nat.le_of_ble_eq_true rfl) (Nat.le_of_ble_eq_true rfl) rfl ?_
      refine v_iconst (q := 24) (v := 2) hC dL_addForOwner_23 rfl (by decide) ?_
      refine v_iret hC dL_addForOwner_24 hr (rfl) ?_ (Nat.le_of_ble_eq_true rfl) (Nat.le_of_ble_eq_true rfl)
      exact Or.inr ⟨_, _, z9, by first | rfl | (congr 3), rfl⟩
    · refine ⟨2, _, _, rfl, (List.forall_mem_cons.mpr ⟨Or.inr ⟨by decide, _, cl_RL_22, by decide⟩, List.forall_mem_cons.mpr ⟨Or.inr ⟨by decide, _, cl_RL_49, by decide⟩, List.forall_mem_nil _⟩⟩), by decide, by decide, cl_RL_13, by decide, fun q9 => ?_⟩
      show V p l e rm_L_addForOwner s m args below meth c 7 Θ (wQ fI [eX, eA, eS] Qc) rm_L_addForOwner.cells rm_L_addForOwner.slots (0 + rm_X11_addForOwner.cells) (0 + rm_X11_addForOwner.slots) 25 [some (.ref (tR Θ 0 14)), some (.int a0), some (.int a1), some (.int a2), some (.int a3), some (.ref (tR Θ 0 38)), none] [.ref q9] G9
      refine v_astore (q := 27) hC dL_addForOwner_25 rfl (lvc rfl) (Nat.le_of_ble_eq_true rfl) (Nat.le_of_ble_eq_true rfl) rfl ?_
      refine v_iconst (q := 28) (v := 3) hC dL_addForOwner_27 rfl (by decide) ?_
      refine v_iret hC dL_addForOwner_28 hr (rfl) ?_ (Nat.le_of_ble_eq_true rfl) (Nat.le_of_ble_eq_true rfl)
      exact Or.inr ⟨_, _, z9, by first | rfl | (congr 3), rfl⟩
  refine v_aload (q := 2) hC dL_addForOwner_0 rfl rfl ?_
  refine v_iconst (q := 3) (v := 0) hC dL_addForOwner_2 rfl (by decide) ?_
  refine v_aload_n (i := 0) (q := 4) hC dL_addForOwner_3 rfl rfl rfl ?_
  refine v_iload_n (i := 1) (q := 5) hC dL_addForOwner_4 rfl rfl rfl ?_
  refine v_iload_n (i := 2) (q := 6) hC dL_addForOwner_5 rfl rfl rfl ?_
  refine v_iload_n (i := 3) (q := 7) hC dL_addForOwner_6 rfl rfl rfl ?_
  refine v_iload (q := 9) hC dL_addForOwner_7 rfl rfl ?_
  refine v_callTry (q := 12) (rm := rm_X11_addForOwner) hC hT hM k_X11_addForOwner im_yX11_addForOwner se_yX11_addForOwner ml_RL_62 dL_addForOwner_9 rfl rfl rfl rfl rfl rfl (Nat.le_of_ble_eq_true rfl) ⟨Nat.le_of_ble_eq_true rfl, Nat.le_of_ble_eq_true rfl⟩ ⟨Nat.le_of_ble_eq_true rfl, Nat.le_of_ble_eq_true rfl⟩ (fun v9 G9 z9 => ?_) HX
  obtain ⟨x9, rfl⟩ := hv _ _ z9
  dsimp only [Option.toList, List.cons_append, List.nil_append]
  refine v_i2l (q := 13) hC dL_addForOwner_12 rfl ?_
  refine v_lastO (q := 14) hC dL_addForOwner_13 rfl ?_
  refine v_goto (q := 29) hC dL_addForOwner_14 (by decide) ?_
  refine v_iconst (q := 30) (v := 0) hC dL_addForOwner_29 rfl (by decide) ?_
  refine v_iret hC dL_addForOwner_30 hr (rfl) ?_ (Nat.le_of_ble_eq_true rfl) (Nat.le_of_ble_eq_true rfl)
  exact Or.inl ⟨x9, _, z9, rfl, rfl⟩
abbrev rm_L_addForAll : Room := { frames := 9, locals := 163, cells := 3, slots := 18 }
set_option maxHeartbeats 4000000 in
set_option maxRecDepth 20000 in
theorem w_L_addForAll {l : Launch} (hl : l.stackTraces = false) (Θ : cTH) {Qc : cOut → GS → Prop} (a0 a1 a2 a3 : Int32) (G : GS) (hM : Ct l yX11_addForAll cX11_addForAll 5 (some .int) rm_X11_addForAll Θ [.ref (tR Θ 0 14), .int a0, .int a1, .int a2, .int a3] G Qc) (hv : ∀ r G1, Qc (.inl r) G1 → ∃ x : Int32, r = some (.int x)) (hx : ∀ E G1, Qc (.inr E) G1 → E = eX ∨ E = eA ∨ E = eS) : CtH l yL_addForAll cL_addForAll 7 (some .int) [(0, 14, 17, 22), (0, 14, 21, 49), (0, 14, 25, 13)] rm_L_addForAll Θ [.ref (tR Θ 0 14), .int a0, .int a1, .int a2, .int a3, .ref (tR Θ 0 38)] G (wQ fI [eX, eA, eS] Qc) := by
  refine cth_of (LS := [some (.ref (tR Θ 0 14)), some (.int a0), some (.int a1), some (.int a2), some (.int a3), some (.ref (tR Θ 0 38)), none]) hl (by decide +kernel) rfl rfl (Nat.le_of_ble_eq_true rfl) rfl ?_
  intro p e s m args below meth c hC hr hT
  have HX : ∀ E9 G9, Qc (.inr E9) G9 → ∃ (i : Nat) (x : ExceptionTableEntry) (nm : String), (tableOf [(0, 14, 17, 22), (0, 14, 21, 49), (0, 14, 25, 13)])[i]? = some x ∧ (∀ z ∈ (tableOf [(0, 14, 17, 22), (0, 14, 21, 49), (0, 14, 25, 13)]).take i, covers z 9 = false ∨ (z.catchType ≠ 0 ∧ ∃ nm : String, Cond.classLink RL z.catchType nm ∈ wALL ∧ (E9, nm) ∈ ncW)) ∧ covers x 9 = true ∧ x.catchType ≠ 0 ∧ Cond.classLink RL x.catchType nm ∈ wALL ∧ Cond.castable E9 nm ∈ excW ∧ ∀ q9 : Nat, V p l e rm_L_addForAll s m args below meth c 7 Θ (wQ fI [eX, eA, eS] Qc) rm_L_addForAll.cells rm_L_addForAll.slots (0 + rm_X11_addForAll.cells) (0 + rm_X11_addForAll.slots) x.handlerPc [some (.ref (tR Θ 0 14)), some (.int a0), some (.int a1), some (.int a2), some (.int a3), some (.ref (tR Θ 0 38)), none] [.ref q9] G9 := by
    intro E9 G9 z9
    rcases hx E9 G9 z9 with rfl | rfl | rfl
    · refine ⟨0, _, _, rfl, (fun z hz => absurd hz (by simp)), by decide, by decide, cl_RL_22, by decide, fun q9 => ?_⟩
      show V p l e rm_L_addForAll s m args below meth c 7 Θ (wQ fI [eX, eA, eS] Qc) rm_L_addForAll.cells rm_L_addForAll.slots (0 + rm_X11_addForAll.cells) (0 + rm_X11_addForAll.slots) 17 [some (.ref (tR Θ 0 14)), some (.int a0), some (.int a1), some (.int a2), some (.int a3), some (.ref (tR Θ 0 38)), none] [.ref q9] G9
      refine v_astore (q := 19) hC dL_addForAll_17 rfl (lvc rfl) (Nat.le_of_ble_eq_true rfl) (Nat.le_of_ble_eq_true rfl) rfl ?_
      refine v_iconst (q := 20) (v := 1) hC dL_addForAll_19 rfl (by decide) ?_
      refine v_iret hC dL_addForAll_20 hr (rfl) ?_ (Nat.le_of_ble_eq_true rfl) (Nat.le_of_ble_eq_true rfl)
      exact Or.inr ⟨_, _, z9, by first | rfl | (congr 3), rfl⟩
    · refine ⟨1, _, _, rfl, (List.forall_mem_cons.mpr ⟨Or.inr ⟨by decide, _, cl_RL_22, by decide⟩, List.forall_mem_nil _⟩), by decide, by decide, cl_RL_49, by decide, fun q9 => ?_⟩
      show V p l e rm_L_addForAll s m args below meth c 7 Θ (wQ fI [eX, eA, eS] Qc) rm_L_addForAll.cells rm_L_addForAll.slots (0 + rm_X11_addForAll.cells) (0 + rm_X11_addForAll.slots) 21 [some (.ref (tR Θ 0 14)), some (.int a0), some (.int a1), some (.int a2), some (.int a3), some (.ref (tR Θ 0 38)), none] [.ref q9] G9
      refine v_astore (q := 23) hC dL_addForAll_21 rfl (lvc rfl) (Nat.le_of_ble_eq_true rfl) (Nat.le_of_ble_eq_true rfl) rfl ?_
      refine v_iconst (q := 24) (v := 2) hC dL_addForAll_23 rfl (by decide) ?_
      refine v_iret hC dL_addForAll_24 hr (rfl) ?_ (Nat.le_of_ble_eq_true rfl) (Nat.le_of_ble_eq_true rfl)
      exact Or.inr ⟨_, _, z9, by first | rfl | (congr 3), rfl⟩
    · refine ⟨2, _, _, rfl, (List.forall_mem_cons.mpr ⟨Or.inr ⟨by decide, _, cl_RL_22, by decide⟩, List.forall_mem_cons.mpr ⟨Or.inr ⟨by decide, _, cl_RL_49, by decide⟩, List.forall_mem_nil _⟩⟩), by decide, by decide, cl_RL_13, by decide, fun q9 => ?_⟩
      show V p l e rm_L_addForAll s m args below meth c 7 Θ (wQ fI [eX, eA, eS] Qc) rm_L_addForAll.cells rm_L_addForAll.slots (0 + rm_X11_addForAll.cells) (0 + rm_X11_addForAll.slots) 25 [some (.ref (tR Θ 0 14)), some (.int a0), some (.int a1), some (.int a2), some (.int a3), some (.ref (tR Θ 0 38)), none] [.ref q9] G9
      refine v_astore (q := 27) hC dL_addForAll_25 rfl (lvc rfl) (Nat.le_of_ble_eq_true rfl) (Nat.le_of_ble_eq_true rfl) rfl ?_
      refine v_iconst (q := 28) (v := 3) hC dL_addForAll_27 rfl (by decide) ?_
      refine v_iret hC dL_addForAll_28 hr (rfl) ?_ (Nat.le_of_ble_eq_true rfl) (Nat.le_of_ble_eq_true rfl)
      exact Or.inr ⟨_, _, z9, by first | rfl | (congr 3), rfl⟩
  refine v_aload (q := 2) hC dL_addForAll_0 rfl rfl ?_
  refine v_iconst (q := 3) (v := 0) hC dL_addForAll_2 rfl (by decide) ?_
  refine v_aload_n (i := 0) (q := 4) hC dL_addForAll_3 rfl rfl rfl ?_
  refine v_iload_n (i := 1) (q := 5) hC dL_addForAll_4 rfl rfl rfl ?_
  refine v_iload_n (i := 2) (q := 6) hC dL_addForAll_5 rfl rfl rfl ?_
  refine v_iload_n (i := 3) (q := 7) hC dL_addForAll_6 rfl rfl rfl ?_
  refine v_iload (q := 9) hC dL_addForAll_7 rfl rfl ?_
  refine v_callTry (q := 12) (rm := rm_X11_addForAll) hC hT hM k_X11_addForAll im_yX11_addForAll se_yX11_addForAll ml_RL_66 dL_addForAll_9 rfl rfl rfl rfl rfl rfl (Nat.le_of_ble_eq_true rfl) ⟨Nat.le_of_ble_eq_true rfl, Nat.le_of_ble_eq_true rfl⟩ ⟨Nat.le_of_ble_eq_true rfl, Nat.le_of_ble_eq_true rfl⟩ (fun v9 G9 z9 => ?_) HX
  obtain ⟨x9, rfl⟩ := hv _ _ z9
  dsimp only [Option.toList, List.cons_append, List.nil_append]
  refine v_i2l (q := 13) hC dL_addForAll_12 rfl ?_
  refine v_lastO (q := 14) hC dL_addForAll_13 rfl ?_
  refine v_goto (q := 29) hC dL_addForAll_14 (by decide) ?_
  refine v_iconst (q := 30) (v := 0) hC dL_addForAll_29 rfl (by decide) ?_
  refine v_iret hC dL_addForAll_30 hr (rfl) ?_ (Nat.le_of_ble_eq_true rfl) (Nat.le_of_ble_eq_true rfl)
  exact Or.inl ⟨x9, _, z9, rfl, rfl⟩
abbrev rm_L_removeEntry : Room := { frames := 9, locals := 155, cells := 2, slots := 12 }
set_option maxHeartbeats 4000000 in
set_option maxRecDepth 20000 in
theorem w_L_removeEntry {l : Launch} (hl : l.stackTraces = false) (Θ : cTH) {Qc : cOut → GS → Prop} (a0 a1 : Int32) (G : GS) (hM : Ct l yX11_removeEntry cX11_removeEntry 3 (some .int) rm_X11_removeEntry Θ [.ref (tR Θ 0 14), .int a0, .int a1] G Qc) (hv : ∀ r G1, Qc (.inl r) G1 → ∃ x : Int32, r = some (.int x)) (hx : ∀ E G1, Qc (.inr E) G1 → E = eX) : CtH l yL_removeEntry cL_removeEntry 5 (some .int) [(0, 10, 13, 22)] rm_L_removeEntry Θ [.ref (tR Θ 0 14), .int a0, .int a1, .ref (tR Θ 0 38)] G (wQ fI [eX] Qc) := by
  refine cth_of (LS := [some (.ref (tR Θ 0 14)), some (.int a0), some (.int a1), some (.ref (tR Θ 0 38)), none]) hl (by decide +kernel) rfl rfl (Nat.le_of_ble_eq_true rfl) rfl ?_
  intro p e s m args below meth c hC hr hT
  have HX : ∀ E9 G9, Qc (.inr E9) G9 → ∃ (i : Nat) (x : ExceptionTableEntry) (nm : String), (tableOf [(0, 10, 13, 22)])[i]? = some x ∧ (∀ z ∈ (tableOf [(0, 10, 13, 22)]).take i, covers z 5 = false ∨ (z.catchType ≠ 0 ∧ ∃ nm : String, Cond.classLink RL z.catchType nm ∈ wALL ∧ (E9, nm) ∈ ncW)) ∧ covers x 5 = true ∧ x.catchType ≠ 0 ∧ Cond.classLink RL x.catchType nm ∈ wALL ∧ Cond.castable E9 nm ∈ excW ∧ ∀ q9 : Nat, V p l e rm_L_removeEntry s m args below meth c 5 Θ (wQ fI [eX] Qc) rm_L_removeEntry.cells rm_L_removeEntry.slots (0 + rm_X11_removeEntry.cells) (0 + rm_X11_removeEntry.slots) x.handlerPc [some (.ref (tR Θ 0 14)), some (.int a0), some (.int a1), some (.ref (tR Θ 0 38)), none] [.ref q9] G9 := by
    intro E9 G9 z9
    rcases hx E9 G9 z9 with rfl
    · refine ⟨0, _, _, rfl, (fun z hz => absurd hz (by simp)), by decide, by decide, cl_RL_22, by decide, fun q9 => ?_⟩
      show V p l e rm_L_removeEntry s m args below meth c 5 Θ (wQ fI [eX] Qc) rm_L_removeEntry.cells rm_L_removeEntry.slots (0 + rm_X11_removeEntry.cells) (0 + rm_X11_removeEntry.slots) 13 [some (.ref (tR Θ 0 14)), some (.int a0), some (.int a1), some (.ref (tR Θ 0 38)), none] [.ref q9] G9
      refine v_astore (q := 15) hC dL_removeEntry_13 rfl (lvc rfl) (Nat.le_of_ble_eq_true rfl) (Nat.le_of_ble_eq_true rfl) rfl ?_
      refine v_iconst (q := 16) (v := 1) hC dL_removeEntry_15 rfl (by decide) ?_
      refine v_iret hC dL_removeEntry_16 hr (rfl) ?_ (Nat.le_of_ble_eq_true rfl) (Nat.le_of_ble_eq_true rfl)
      exact Or.inr ⟨_, _, z9, by first | rfl | (congr 3), rfl⟩
  refine v_aload_n (i := 3) (q := 1) hC dL_removeEntry_0 rfl rfl rfl ?_
  refine v_iconst (q := 2) (v := 0) hC dL_removeEntry_1 rfl (by decide) ?_
  refine v_aload_n (i := 0) (q := 3) hC dL_removeEntry_2 rfl rfl rfl ?_
  refine v_iload_n (i := 1) (q := 4) hC dL_removeEntry_3 rfl rfl rfl ?_
  refine v_iload_n (i := 2) (q := 5) hC dL_removeEntry_4 rfl rfl rfl ?_
  refine v_callTry (q := 8) (rm := rm_X11_removeEntry) hC hT hM k_X11_removeEntry im_yX11_removeEntry se_yX11_removeEntry ml_RL_69 dL_removeEntry_5 rfl rfl rfl rfl rfl rfl (Nat.le_of_ble_eq_true rfl) ⟨Nat.le_of_ble_eq_true rfl, Nat.le_of_ble_eq_true rfl⟩ ⟨Nat.le_of_ble_eq_true rfl, Nat.le_of_ble_eq_true rfl⟩ (fun v9 G9 z9 => ?_) HX
  obtain ⟨x9, rfl⟩ := hv _ _ z9
  dsimp only [Option.toList, List.cons_append, List.nil_append]
  refine v_i2l (q := 9) hC dL_removeEntry_8 rfl ?_
  refine v_lastO (q := 10) hC dL_removeEntry_9 rfl ?_
  refine v_goto (q := 17) hC dL_removeEntry_10 (by decide) ?_
  refine v_iconst (q := 18) (v := 0) hC dL_removeEntry_17 rfl (by decide) ?_
  refine v_iret hC dL_removeEntry_18 hr (rfl) ?_ (Nat.le_of_ble_eq_true rfl) (Nat.le_of_ble_eq_true rfl)
  exact Or.inl ⟨x9, _, z9, rfl, rfl⟩
abbrev rm_L_moveEntry : Room := { frames := 9, locals := 173, cells := 4, slots := 24 }
set_option maxHeartbeats 4000000 in
set_option maxRecDepth 20000 in
theorem w_L_moveEntry {l : Launch} (hl : l.stackTraces = false) (Θ : cTH) {Qc : cOut → GS → Prop} (a0 a1 a2 : Int32) (G : GS) (hM : Ct l yX11_moveEntry cX11_moveEntry 5 (some .int) rm_X11_moveEntry Θ [.ref (tR Θ 0 14), .int a0, .int a1, .int a2] G Qc) (hv : ∀ r G1, Qc (.inl r) G1 → ∃ x : Int32, r = some (.int x)) (hx : ∀ E G1, Qc (.inr E) G1 → E = eX) : CtH l yL_moveEntry cL_moveEntry 6 (some .int) [(0, 12, 15, 22)] rm_L_moveEntry Θ [.ref (tR Θ 0 14), .int a0, .int a1, .int a2, .ref (tR Θ 0 38)] G (wQ fI [eX] Qc) := by
  refine cth_of (LS := [some (.ref (tR Θ 0 14)), some (.int a0), some (.int a1), some (.int a2), some (.ref (tR Θ 0 38)), none]) hl (by decide +kernel) rfl rfl (Nat.le_of_ble_eq_true rfl) rfl ?_
  intro p e s m args below meth c hC hr hT
  have HX : ∀ E9 G9, Qc (.inr E9) G9 → ∃ (i : Nat) (x : ExceptionTableEntry) (nm : String), (tableOf [(0, 12, 15, 22)])[i]? = some x ∧ (∀ z ∈ (tableOf [(0, 12, 15, 22)]).take i, covers z 7 = false ∨ (z.catchType ≠ 0 ∧ ∃ nm : String, Cond.classLink RL z.catchType nm ∈ wALL ∧ (E9, nm) ∈ ncW)) ∧ covers x 7 = true ∧ x.catchType ≠ 0 ∧ Cond.classLink RL x.catchType nm ∈ wALL ∧ Cond.castable E9 nm ∈ excW ∧ ∀ q9 : Nat, V p l e rm_L_moveEntry s m args below meth c 6 Θ (wQ fI [eX] Qc) rm_L_moveEntry.cells rm_L_moveEntry.slots (0 + rm_X11_moveEntry.cells) (0 + rm_X11_moveEntry.slots) x.handlerPc [some (.ref (tR Θ 0 14)), some (.int a0), some (.int a1), some (.int a2), some (.ref (tR Θ 0 38)), none] [.ref q9] G9 := by
    intro E9 G9 z9
    rcases hx E9 G9 z9 with rfl
    · refine ⟨0, _, _, rfl, (fun z hz => absurd hz (by simp)), by decide, by decide, cl_RL_22, by decide, fun q9 => ?_⟩
      show V p l e rm_L_moveEntry s m args below meth c 6 Θ (wQ fI [eX] Qc) rm_L_moveEntry.cells rm_L_moveEntry.slots (0 + rm_X11_moveEntry.cells) (0 + rm_X11_moveEntry.slots) 15 [some (.ref (tR Θ 0 14)), some (.int a0), some (.int a1), some (.int a2), some (.ref (tR Θ 0 38)), none] [.ref q9] G9
      refine v_astore (q := 17) hC dL_moveEntry_15 rfl (lvc rfl) (Nat.le_of_ble_eq_true rfl) (Nat.le_of_ble_eq_true rfl) rfl ?_
      refine v_iconst (q := 18) (v := 1) hC dL_moveEntry_17 rfl (by decide) ?_
      refine v_iret hC dL_moveEntry_18 hr (rfl) ?_ (Nat.le_of_ble_eq_true rfl) (Nat.le_of_ble_eq_true rfl)
      exact Or.inr ⟨_, _, z9, by first | rfl | (congr 3), rfl⟩
  refine v_aload (q := 2) hC dL_moveEntry_0 rfl rfl ?_
  refine v_iconst (q := 3) (v := 0) hC dL_moveEntry_2 rfl (by decide) ?_
  refine v_aload_n (i := 0) (q := 4) hC dL_moveEntry_3 rfl rfl rfl ?_
  refine v_iload_n (i := 1) (q := 5) hC dL_moveEntry_4 rfl rfl rfl ?_
  refine v_iload_n (i := 2) (q := 6) hC dL_moveEntry_5 rfl rfl rfl ?_
  refine v_iload_n (i := 3) (q := 7) hC dL_moveEntry_6 rfl rfl rfl ?_
  refine v_callTry (q := 10) (rm := rm_X11_moveEntry) hC hT hM k_X11_moveEntry im_yX11_moveEntry se_yX11_moveEntry ml_RL_72 dL_moveEntry_7 rfl rfl rfl rfl rfl rfl (Nat.le_of_ble_eq_true rfl) ⟨Nat.le_of_ble_eq_true rfl, Nat.le_of_ble_eq_true rfl⟩ ⟨Nat.le_of_ble_eq_true rfl, Nat.le_of_ble_eq_true rfl⟩ (fun v9 G9 z9 => ?_) HX
  obtain ⟨x9, rfl⟩ := hv _ _ z9
  dsimp only [Option.toList, List.cons_append, List.nil_append]
  refine v_i2l (q := 11) hC dL_moveEntry_10 rfl ?_
  refine v_lastO (q := 12) hC dL_moveEntry_11 rfl ?_
  refine v_goto (q := 19) hC dL_moveEntry_12 (by decide) ?_
  refine v_iconst (q := 20) (v := 0) hC dL_moveEntry_19 rfl (by decide) ?_
  refine v_iret hC dL_moveEntry_20 hr (rfl) ?_ (Nat.le_of_ble_eq_true rfl) (Nat.le_of_ble_eq_true rfl)
  exact Or.inl ⟨x9, _, z9, rfl, rfl⟩
abbrev rm_L_ask : Room := { frames := 8, locals := 172, cells := 3, slots := 18 }
set_option maxHeartbeats 4000000 in
set_option maxRecDepth 20000 in
theorem w_L_ask {l : Launch} (hl : l.stackTraces = false) (Θ : cTH) {Qc : cOut → GS → Prop} (a0 a1 a2 : Int32) (G : GS) (hM : Ct l yX11_ask cX11_ask 5 (some .boolean) rm_X11_ask Θ [.ref (tR Θ 0 14), .int a0, .int a1, .int a2] G Qc) (hv : ∀ r G1, Qc (.inl r) G1 → ∃ x : Int32, r = some (.int x)) (hx : ∀ E G1, Qc (.inr E) G1 → E = eX ∨ E = eA) : CtH l yL_ask cL_ask 6 (some .int) [(0, 19, 22, 22), (0, 19, 26, 49)] rm_L_ask Θ [.ref (tR Θ 0 14), .int a0, .int a1, .int a2, .ref (tR Θ 0 38)] G (wQ fZ [eX, eA] Qc) := by
  refine cth_of (LS := [some (.ref (tR Θ 0 14)), some (.int a0), some (.int a1), some (.int a2), some (.ref (tR Θ 0 38)), none]) hl (by decide +kernel) rfl rfl (Nat.le_of_ble_eq_true rfl) rfl ?_
  intro p e s m args below meth c hC hr hT
  have HX : ∀ E9 G9, Qc (.inr E9) G9 → ∃ (i : Nat) (x : ExceptionTableEntry) (nm : String), (tableOf [(0, 19, 22, 22), (0, 19, 26, 49)])[i]? = some x ∧ (∀ z ∈ (tableOf [(0, 19, 22, 22), (0, 19, 26, 49)]).take i, covers z 7 = false ∨ (z.catchType ≠ 0 ∧ ∃ nm : String, Cond.classLink RL z.catchType nm ∈ wALL ∧ (E9, nm) ∈ ncW)) ∧ covers x 7 = true ∧ x.catchType ≠ 0 ∧ Cond.classLink RL x.catchType nm ∈ wALL ∧ Cond.castable E9 nm ∈ excW ∧ ∀ q9 : Nat, V p l e rm_L_ask s m args below meth c 6 Θ (wQ fZ [eX, eA] Qc) rm_L_ask.cells rm_L_ask.slots (0 + rm_X11_ask.cells) (0 + rm_X11_ask.slots) x.handlerPc [some (.ref (tR Θ 0 14)), some (.int a0), some (.int a1), some (.int a2), some (.ref (tR Θ 0 38)), none] [.ref q9] G9 := by
    intro E9 G9 z9
    rcases hx E9 G9 z9 with rfl | rfl
    · refine ⟨0, _, _, rfl, (fun z hz => absurd hz (by simp)), by decide, by decide, cl_RL_22, by decide, fun q9 => ?_⟩
      show V p l e rm_L_ask s m args below meth c 6 Θ (wQ fZ [eX, eA] Qc) rm_L_ask.cells rm_L_ask.slots (0 + rm_X11_ask.cells) (0 + rm_X11_ask.slots) 22 [some (.ref (tR Θ 0 14)), some (.int a0), some (.int a1), some (.int a2), some (.ref (tR Θ 0 38)), none] [.ref q9] G9
      refine v_astore (q := 24) hC dL_ask_22 rfl (lvc rfl) (Nat.le_of_ble_eq_true rfl) (Nat.le_of_ble_eq_true rfl) rfl ?_
      refine v_iconst (q := 25) (v := 1) hC dL_ask_24 rfl (by decide) ?_
      refine v_iret hC dL_ask_25 hr (rfl) ?_ (Nat.le_of_ble_eq_true rfl) (Nat.le_of_ble_eq_true rfl)
      exact Or.inr ⟨_, _, z9, by first | rfl | (congr 3), rfl⟩
    · refine ⟨1, _, _, rfl, (List.forall_mem_cons.mpr ⟨Or.inr ⟨by decide, _, cl_RL_22, by decide⟩, List.forall_mem_nil _⟩), by decide, by decide, cl_RL_49, by decide, fun q9 => ?_⟩
      show V p l e rm_L_ask s m args below meth c 6 Θ (wQ fZ [eX, eA] Qc) rm_L_ask.cells rm_L_ask.slots (0 + rm_X11_ask.cells) (0 + rm_X11_ask.slots) 26 [some (.ref (tR Θ 0 14)), some (.int a0), some (.int a1), some (.int a2), some (.ref (tR Θ 0 38)), none] [.ref q9] G9
      refine v_astore (q := 28) hC dL_ask_26 rfl (lvc rfl) (Nat.le_of_ble_eq_true rfl) (Nat.le_of_ble_eq_true rfl) rfl ?_
      refine v_iconst (q := 29) (v := 2) hC dL_ask_28 rfl (by decide) ?_
      refine v_iret hC dL_ask_29 hr (rfl) ?_ (Nat.le_of_ble_eq_true rfl) (Nat.le_of_ble_eq_true rfl)
      exact Or.inr ⟨_, _, z9, by first | rfl | (congr 3), rfl⟩
  refine v_aload (q := 2) hC dL_ask_0 rfl rfl ?_
  refine v_iconst (q := 3) (v := 0) hC dL_ask_2 rfl (by decide) ?_
  refine v_aload_n (i := 0) (q := 4) hC dL_ask_3 rfl rfl rfl ?_
  refine v_iload_n (i := 1) (q := 5) hC dL_ask_4 rfl rfl rfl ?_
  refine v_iload_n (i := 2) (q := 6) hC dL_ask_5 rfl rfl rfl ?_
  refine v_iload_n (i := 3) (q := 7) hC dL_ask_6 rfl rfl rfl ?_
  refine v_callTry (q := 10) (rm := rm_X11_ask) hC hT hM k_X11_ask im_yX11_ask se_yX11_ask ml_RL_76 dL_ask_7 rfl rfl rfl rfl rfl rfl (Nat.le_of_ble_eq_true rfl) ⟨Nat.le_of_ble_eq_true rfl, Nat.le_of_ble_eq_true rfl⟩ ⟨Nat.le_of_ble_eq_true rfl, Nat.le_of_ble_eq_true rfl⟩ (fun v9 G9 z9 => ?_) HX
  obtain ⟨x9, rfl⟩ := hv _ _ z9
  dsimp only [Option.toList, List.cons_append, List.nil_append]
  refine v_if_eq (q := 17) (q2 := 13) hC dL_ask_10 (by decide) rfl (fun c_10 => ?_) (fun c_10 => ?_)
  · refine v_lconst (q := 18) (v := 0) hC dL_ask_17 rfl rfl ?_
    refine v_lastO (q := 19) hC dL_ask_18 rfl ?_
    refine v_goto (q := 30) hC dL_ask_19 (by decide) ?_
    refine v_iconst (q := 31) (v := 0) hC dL_ask_30 rfl (by decide) ?_
    refine v_iret hC dL_ask_31 hr (rfl) ?_ (Nat.le_of_ble_eq_true rfl) (Nat.le_of_ble_eq_true rfl)
    refine Or.inl ⟨x9, _, z9, rfl, ?_⟩
    first | (rw [fZ, if_pos c_10]) | (rw [fZ, if_neg c_10])
  · refine v_lconst (q := 14) (v := 1) hC dL_ask_13 rfl rfl ?_
    refine v_goto (q := 18) hC dL_ask_14 (by decide) ?_
    refine v_lastO (q := 19) hC dL_ask_18 rfl ?_
    refine v_goto (q := 30) hC dL_ask_19 (by decide) ?_
    refine v_iconst (q := 31) (v := 0) hC dL_ask_30 rfl (by decide) ?_
    refine v_iret hC dL_ask_31 hr (rfl) ?_ (Nat.le_of_ble_eq_true rfl) (Nat.le_of_ble_eq_true rfl)
    refine Or.inl ⟨x9, _, z9, rfl, ?_⟩
    first | (rw [fZ, if_pos c_10]) | (rw [fZ, if_neg c_10])
abbrev rm_L_share : Room := { frames := 8, locals := 149, cells := 6, slots := 36 }
set_option maxHeartbeats 4000000 in
set_option maxRecDepth 20000 in
theorem w_L_share {l : Launch} (hl : l.stackTraces = false) (Θ : cTH) {Qc : cOut → GS → Prop} (a0 a1 a2 a3 : Int32) (G : GS) (hM : Ct l yX11_share cX11_share 6 (some .int) rm_X11_share Θ [.ref (tR Θ 0 14), .int a0, .int a1, .int a2, .int a3] G Qc) (hv : ∀ r G1, Qc (.inl r) G1 → ∃ x : Int32, r = some (.int x)) (hx : ∀ E G1, Qc (.inr E) G1 → E = eX ∨ E = eA ∨ E = eS) : CtH l yL_share cL_share 7 (some .int) [(0, 14, 17, 22), (0, 14, 21, 49), (0, 14, 25, 13)] rm_L_share Θ [.ref (tR Θ 0 14), .int a0, .int a1, .int a2, .int a3, .ref (tR Θ 0 38)] G (wQ fI [eX, eA, eS] Qc) := by
  refine cth_of (LS := [some (.ref (tR Θ 0 14)), some (.int a0), some (.int a1), some (.int a2), some (.int a3), some (.ref (tR Θ 0 38)), none]) hl (by decide +kernel) rfl rfl (Nat.le_of_ble_eq_true rfl) rfl ?_
  intro p e s m args below meth c hC hr hT
  have HX : ∀ E9 G9, Qc (.inr E9) G9 → ∃ (i : Nat) (x : ExceptionTableEntry) (nm : String), (tableOf [(0, 14, 17, 22), (0, 14, 21, 49), (0, 14, 25, 13)])[i]? = some x ∧ (∀ z ∈ (tableOf [(0, 14, 17, 22), (0, 14, 21, 49), (0, 14, 25, 13)]).take i, covers z 9 = false ∨ (z.catchType ≠ 0 ∧ ∃ nm : String, Cond.classLink RL z.catchType nm ∈ wALL ∧ (E9, nm) ∈ ncW)) ∧ covers x 9 = true ∧ x.catchType ≠ 0 ∧ Cond.classLink RL x.catchType nm ∈ wALL ∧ Cond.castable E9 nm ∈ excW ∧ ∀ q9 : Nat, V p l e rm_L_share s m args below meth c 7 Θ (wQ fI [eX, eA, eS] Qc) rm_L_share.cells rm_L_share.slots (0 + rm_X11_share.cells) (0 + rm_X11_share.slots) x.handlerPc [some (.ref (tR Θ 0 14)), some (.int a0), some (.int a1), some (.int a2), some (.int a3), some (.ref (tR Θ 0 38)), none] [.ref q9] G9 := by
    intro E9 G9 z9
    rcases hx E9 G9 z9 with rfl | rfl | rfl
    · refine ⟨0, _, _, rfl, (fun z hz => absurd hz (by simp)), by decide, by decide, cl_RL_22, by decide, fun q9 => ?_⟩
      show V p l e rm_L_share s m args below meth c 7 Θ (wQ fI [eX, eA, eS] Qc) rm_L_share.cells rm_L_share.slots (0 + rm_X11_share.cells) (0 + rm_X11_share.slots) 17 [some (.ref (tR Θ 0 14)), some (.int a0), some (.int a1), some (.int a2), some (.int a3), some (.ref (tR Θ 0 38)), none] [.ref q9] G9
      refine v_astore (q := 19) hC dL_share_17 rfl (lvc rfl) (Nat.le_of_ble_eq_true rfl) (Nat.le_of_ble_eq_true rfl) rfl ?_
      refine v_iconst (q := 20) (v := 1) hC dL_share_19 rfl (by decide) ?_
      refine v_iret hC dL_share_20 hr (rfl) ?_ (Nat.le_of_ble_eq_true rfl) (Nat.le_of_ble_eq_true rfl)
      exact Or.inr ⟨_, _, z9, by first | rfl | (congr 3), rfl⟩
    · refine ⟨1, _, _, rfl, (List.forall_mem_cons.mpr ⟨Or.inr ⟨by decide, _, cl_RL_22, by decide⟩, List.forall_mem_nil _⟩), by decide, by decide, cl_RL_49, by decide, fun q9 => ?_⟩
      show V p l e rm_L_share s m args below meth c 7 Θ (wQ fI [eX, eA, eS] Qc) rm_L_share.cells rm_L_share.slots (0 + rm_X11_share.cells) (0 + rm_X11_share.slots) 21 [some (.ref (tR Θ 0 14)), some (.int a0), some (.int a1), some (.int a2), some (.int a3), some (.ref (tR Θ 0 38)), none] [.ref q9] G9
      refine v_astore (q := 23) hC dL_share_21 rfl (lvc rfl) (Nat.le_of_ble_eq_true rfl) (Nat.le_of_ble_eq_true rfl) rfl ?_
      refine v_iconst (q := 24) (v := 2) hC dL_share_23 rfl (by decide) ?_
      refine v_iret hC dL_share_24 hr (rfl) ?_ (Nat.le_of_ble_eq_true rfl) (Nat.le_of_ble_eq_true rfl)
      exact Or.inr ⟨_, _, z9, by first | rfl | (congr 3), rfl⟩
    · refine ⟨2, _, _, rfl, (List.forall_mem_cons.mpr ⟨Or.inr ⟨by decide, _, cl_RL_22, by decide⟩, List.forall_mem_cons.mpr ⟨Or.inr ⟨by decide, _, cl_RL_49, by decide⟩, List.forall_mem_nil _⟩⟩), by decide, by decide, cl_RL_13, by decide, fun q9 => ?_⟩
      show V p l e rm_L_share s m args below meth c 7 Θ (wQ fI [eX, eA, eS] Qc) rm_L_share.cells rm_L_share.slots (0 + rm_X11_share.cells) (0 + rm_X11_share.slots) 25 [some (.ref (tR Θ 0 14)), some (.int a0), some (.int a1), some (.int a2), some (.int a3), some (.ref (tR Θ 0 38)), none] [.ref q9] G9
      refine v_astore (q := 27) hC dL_share_25 rfl (lvc rfl) (Nat.le_of_ble_eq_true rfl) (Nat.le_of_ble_eq_true rfl) rfl ?_
      refine v_iconst (q := 28) (v := 3) hC dL_share_27 rfl (by decide) ?_
      refine v_iret hC dL_share_28 hr (rfl) ?_ (Nat.le_of_ble_eq_true rfl) (Nat.le_of_ble_eq_true rfl)
      exact Or.inr ⟨_, _, z9, by first | rfl | (congr 3), rfl⟩
  refine v_aload (q := 2) hC dL_share_0 rfl rfl ?_
  refine v_iconst (q := 3) (v := 0) hC dL_share_2 rfl (by decide) ?_
  refine v_aload_n (i := 0) (q := 4) hC dL_share_3 rfl rfl rfl ?_
  refine v_iload_n (i := 1) (q := 5) hC dL_share_4 rfl rfl rfl ?_
  refine v_iload_n (i := 2) (q := 6) hC dL_share_5 rfl rfl rfl ?_
  refine v_iload_n (i := 3) (q := 7) hC dL_share_6 rfl rfl rfl ?_
  refine v_iload (q := 9) hC dL_share_7 rfl rfl ?_
  refine v_callTry (q := 12) (rm := rm_X11_share) hC hT hM k_X11_share im_yX11_share se_yX11_share ml_RL_80 dL_share_9 rfl rfl rfl rfl rfl rfl (Nat.le_of_ble_eq_true rfl) ⟨Nat.le_of_ble_eq_true rfl, Nat.le_of_ble_eq_true rfl⟩ ⟨Nat.le_of_ble_eq_true rfl, Nat.le_of_ble_eq_true rfl⟩ (fun v9 G9 z9 => ?_) HX
  obtain ⟨x9, rfl⟩ := hv _ _ z9
  dsimp only [Option.toList, List.cons_append, List.nil_append]
  refine v_i2l (q := 13) hC dL_share_12 rfl ?_
  refine v_lastO (q := 14) hC dL_share_13 rfl ?_
  refine v_goto (q := 29) hC dL_share_14 (by decide) ?_
  refine v_iconst (q := 30) (v := 0) hC dL_share_29 rfl (by decide) ?_
  refine v_iret hC dL_share_30 hr (rfl) ?_ (Nat.le_of_ble_eq_true rfl) (Nat.le_of_ble_eq_true rfl)
  exact Or.inl ⟨x9, _, z9, rfl, rfl⟩
abbrev rm_L_append : Room := { frames := 7, locals := 111, cells := 2, slots := 12 }
set_option maxHeartbeats 4000000 in
set_option maxRecDepth 20000 in
theorem w_L_append {l : Launch} (hl : l.stackTraces = false) (Θ : cTH) {Qc : cOut → GS → Prop} (a0 : Int32) (G : GS) (hM : Ct l yX11_append cX11_append 2 (some .int) rm_X11_append Θ [.ref (tR Θ 0 14), .int a0] G Qc) (hv : ∀ r G1, Qc (.inl r) G1 → ∃ x : Int32, r = some (.int x)) (hx : ∀ E G1, Qc (.inr E) G1 → E = eA ∨ E = eS) : CtH l yL_append cL_append 4 (some .int) [(0, 9, 12, 49), (0, 9, 15, 13)] rm_L_append Θ [.ref (tR Θ 0 14), .int a0, .ref (tR Θ 0 38)] G (wQ fI [eA, eS] Qc) := by
  refine cth_of (LS := [some (.ref (tR Θ 0 14)), some (.int a0), some (.ref (tR Θ 0 38)), none]) hl (by decide +kernel) rfl rfl (Nat.le_of_ble_eq_true rfl) rfl ?_
  intro p e s m args below meth c hC hr hT
  have HX : ∀ E9 G9, Qc (.inr E9) G9 → ∃ (i : Nat) (x : ExceptionTableEntry) (nm : String), (tableOf [(0, 9, 12, 49), (0, 9, 15, 13)])[i]? = some x ∧ (∀ z ∈ (tableOf [(0, 9, 12, 49), (0, 9, 15, 13)]).take i, covers z 4 = false ∨ (z.catchType ≠ 0 ∧ ∃ nm : String, Cond.classLink RL z.catchType nm ∈ wALL ∧ (E9, nm) ∈ ncW)) ∧ covers x 4 = true ∧ x.catchType ≠ 0 ∧ Cond.classLink RL x.catchType nm ∈ wALL ∧ Cond.castable E9 nm ∈ excW ∧ ∀ q9 : Nat, V p l e rm_L_append s m args below meth c 4 Θ (wQ fI [eA, eS] Qc) rm_L_append.cells rm_L_append.slots (0 + rm_X11_append.cells) (0 + rm_X11_append.slots) x.handlerPc [some (.ref (tR Θ 0 14)), some (.int a0), some (.ref (tR Θ 0 38)), none] [.ref q9] G9 := by
    intro E9 G9 z9
    rcases hx E9 G9 z9 with rfl | rfl
    · refine ⟨0, _, _, rfl, (fun z hz => absurd hz (by simp)), by decide, by decide, cl_RL_49, by decide, fun q9 => ?_⟩
      show V p l e rm_L_append s m args below meth c 4 Θ (wQ fI [eA, eS] Qc) rm_L_append.cells rm_L_append.slots (0 + rm_X11_append.cells) (0 + rm_X11_append.slots) 12 [some (.ref (tR Θ 0 14)), some (.int a0), some (.ref (tR Θ 0 38)), none] [.ref q9] G9
      refine v_astore_n (i := 3) (q := 13) hC dL_append_12 rfl rfl (lvc rfl) (Nat.le_of_ble_eq_true rfl) (Nat.le_of_ble_eq_true rfl) rfl ?_
      refine v_iconst (q := 14) (v := 1) hC dL_append_13 rfl (by decide) ?_
      refine v_iret hC dL_append_14 hr (rfl) ?_ (Nat.le_of_ble_eq_true rfl) (Nat.le_of_ble_eq_true rfl)
      exact Or.inr ⟨_, _, z9, by first | rfl | (congr 3), rfl⟩
    · refine ⟨1, _, _, rfl, (List.forall_mem_cons.mpr ⟨Or.inr ⟨by decide, _, cl_RL_49, by decide⟩, List.forall_mem_nil _⟩), by decide, by decide, cl_RL_13, by decide, fun q9 => ?_⟩
      show V p l e rm_L_append s m args below meth c 4 Θ (wQ fI [eA, eS] Qc) rm_L_append.cells rm_L_append.slots (0 + rm_X11_append.cells) (0 + rm_X11_append.slots) 15 [some (.ref (tR Θ 0 14)), some (.int a0), some (.ref (tR Θ 0 38)), none] [.ref q9] G9
      refine v_astore_n (i := 3) (q := 16) hC dL_append_15 rfl rfl (lvc rfl) (Nat.le_of_ble_eq_true rfl) (Nat.le_of_ble_eq_true rfl) rfl ?_
      refine v_iconst (q := 17) (v := 2) hC dL_append_16 rfl (by decide) ?_
      refine v_iret hC dL_append_17 hr (rfl) ?_ (Nat.le_of_ble_eq_true rfl) (Nat.le_of_ble_eq_true rfl)
      exact Or.inr ⟨_, _, z9, by first | rfl | (congr 3), rfl⟩
  refine v_aload_n (i := 2) (q := 1) hC dL_append_0 rfl rfl rfl ?_
  refine v_iconst (q := 2) (v := 0) hC dL_append_1 rfl (by decide) ?_
  refine v_aload_n (i := 0) (q := 3) hC dL_append_2 rfl rfl rfl ?_
  refine v_iload_n (i := 1) (q := 4) hC dL_append_3 rfl rfl rfl ?_
  refine v_callTry (q := 7) (rm := rm_X11_append) hC hT hM k_X11_append im_yX11_append se_yX11_append ml_RL_84 dL_append_4 rfl rfl rfl rfl rfl rfl (Nat.le_of_ble_eq_true rfl) ⟨Nat.le_of_ble_eq_true rfl, Nat.le_of_ble_eq_true rfl⟩ ⟨Nat.le_of_ble_eq_true rfl, Nat.le_of_ble_eq_true rfl⟩ (fun v9 G9 z9 => ?_) HX
  obtain ⟨x9, rfl⟩ := hv _ _ z9
  dsimp only [Option.toList, List.cons_append, List.nil_append]
  refine v_i2l (q := 8) hC dL_append_7 rfl ?_
  refine v_lastO (q := 9) hC dL_append_8 rfl ?_
  refine v_goto (q := 18) hC dL_append_9 (by decide) ?_
  refine v_iconst (q := 19) (v := 0) hC dL_append_18 rfl (by decide) ?_
  refine v_iret hC dL_append_19 hr (rfl) ?_ (Nat.le_of_ble_eq_true rfl) (Nat.le_of_ble_eq_true rfl)
  exact Or.inl ⟨x9, _, z9, rfl, rfl⟩
abbrev rm_L_loadEntries : Room := { frames := 9, locals := 197, cells := 2, slots := 12 }
set_option maxHeartbeats 4000000 in
set_option maxRecDepth 20000 in
theorem w_L_loadEntries {l : Launch} (hl : l.stackTraces = false) (Θ : cTH) {Qc : cOut → GS → Prop} (G : GS) (hM : Ct l yX11_loadEntries cX11_loadEntries 2 (some .int) rm_X11_loadEntries Θ [.ref (tR Θ 0 14)] G Qc) (hv : ∀ r G1, Qc (.inl r) G1 → ∃ x : Int32, r = some (.int x)) (hx : ∀ E G1, Qc (.inr E) G1 → E = eS) : CtH l yL_loadEntries cL_loadEntries 3 (some .int) [(0, 8, 11, 13)] rm_L_loadEntries Θ [.ref (tR Θ 0 14), .ref (tR Θ 0 38)] G (wQ fI [eS] Qc) := by
  refine cth_of (LS := [some (.ref (tR Θ 0 14)), some (.ref (tR Θ 0 38)), none]) hl (by decide +kernel) rfl rfl (Nat.le_of_ble_eq_true rfl) rfl ?_
  intro p e s m args below meth c hC hr hT
  have HX : ∀ E9 G9, Qc (.inr E9) G9 → ∃ (i : Nat) (x : ExceptionTableEntry) (nm : String), (tableOf [(0, 8, 11, 13)])[i]? = some x ∧ (∀ z ∈ (tableOf [(0, 8, 11, 13)]).take i, covers z 3 = false ∨ (z.catchType ≠ 0 ∧ ∃ nm : String, Cond.classLink RL z.catchType nm ∈ wALL ∧ (E9, nm) ∈ ncW)) ∧ covers x 3 = true ∧ x.catchType ≠ 0 ∧ Cond.classLink RL x.catchType nm ∈ wALL ∧ Cond.castable E9 nm ∈ excW ∧ ∀ q9 : Nat, V p l e rm_L_loadEntries s m args below meth c 3 Θ (wQ fI [eS] Qc) rm_L_loadEntries.cells rm_L_loadEntries.slots (0 + rm_X11_loadEntries.cells) (0 + rm_X11_loadEntries.slots) x.handlerPc [some (.ref (tR Θ 0 14)), some (.ref (tR Θ 0 38)), none] [.ref q9] G9 := by
    intro E9 G9 z9
    rcases hx E9 G9 z9 with rfl
    · refine ⟨0, _, _, rfl, (fun z hz => absurd hz (by simp)), by decide, by decide, cl_RL_13, by decide, fun q9 => ?_⟩
      show V p l e rm_L_loadEntries s m args below meth c 3 Θ (wQ fI [eS] Qc) rm_L_loadEntries.cells rm_L_loadEntries.slots (0 + rm_X11_loadEntries.cells) (0 + rm_X11_loadEntries.slots) 11 [some (.ref (tR Θ 0 14)), some (.ref (tR Θ 0 38)), none] [.ref q9] G9
      refine v_astore_n (i := 2) (q := 12) hC dL_loadEntries_11 rfl rfl (lvc rfl) (Nat.le_of_ble_eq_true rfl) (Nat.le_of_ble_eq_true rfl) rfl ?_
      refine v_iconst (q := 13) (v := 1) hC dL_loadEntries_12 rfl (by decide) ?_
      refine v_iret hC dL_loadEntries_13 hr (rfl) ?_ (Nat.le_of_ble_eq_true rfl) (Nat.le_of_ble_eq_true rfl)
      exact Or.inr ⟨_, _, z9, by first | rfl | (congr 3), rfl⟩
  refine v_aload_n (i := 1) (q := 1) hC dL_loadEntries_0 rfl rfl rfl ?_
  refine v_iconst (q := 2) (v := 0) hC dL_loadEntries_1 rfl (by decide) ?_
  refine v_aload_n (i := 0) (q := 3) hC dL_loadEntries_2 rfl rfl rfl ?_
  refine v_callTry (q := 6) (rm := rm_X11_loadEntries) hC hT hM k_X11_loadEntries im_yX11_loadEntries se_yX11_loadEntries ml_RL_87 dL_loadEntries_3 rfl rfl rfl rfl rfl rfl (Nat.le_of_ble_eq_true rfl) ⟨Nat.le_of_ble_eq_true rfl, Nat.le_of_ble_eq_true rfl⟩ ⟨Nat.le_of_ble_eq_true rfl, Nat.le_of_ble_eq_true rfl⟩ (fun v9 G9 z9 => ?_) HX
  obtain ⟨x9, rfl⟩ := hv _ _ z9
  dsimp only [Option.toList, List.cons_append, List.nil_append]
  refine v_i2l (q := 7) hC dL_loadEntries_6 rfl ?_
  refine v_lastO (q := 8) hC dL_loadEntries_7 rfl ?_
  refine v_goto (q := 14) hC dL_loadEntries_8 (by decide) ?_
  refine v_iconst (q := 15) (v := 0) hC dL_loadEntries_14 rfl (by decide) ?_
  refine v_iret hC dL_loadEntries_15 hr (rfl) ?_ (Nat.le_of_ble_eq_true rfl) (Nat.le_of_ble_eq_true rfl)
  exact Or.inl ⟨x9, _, z9, rfl, rfl⟩
abbrev rm_L_writeEntries : Room := { frames := 8, locals := 176, cells := 1, slots := 6 }
set_option maxHeartbeats 4000000 in
set_option maxRecDepth 20000 in
theorem w_L_writeEntries {l : Launch} (hl : l.stackTraces = false) (Θ : cTH) {Qc : cOut → GS → Prop} (a0 : Int32) (G : GS) (hM : Ct l yX11_writeEntries cX11_writeEntries 2 (some .int) rm_X11_writeEntries Θ [.ref (tR Θ 0 14), .int a0] G Qc) (hv : ∀ r G1, Qc (.inl r) G1 → ∃ x : Int32, r = some (.int x)) (hx : ∀ E G1, Qc (.inr E) G1 → E = eX) : CtH l yL_writeEntries cL_writeEntries 4 (some .int) [(0, 9, 12, 22)] rm_L_writeEntries Θ [.ref (tR Θ 0 14), .int a0, .ref (tR Θ 0 38)] G (wQ fI [eX] Qc) := by
  refine cth_of (LS := [some (.ref (tR Θ 0 14)), some (.int a0), some (.ref (tR Θ 0 38)), none]) hl (by decide +kernel) rfl rfl (Nat.le_of_ble_eq_true rfl) rfl ?_
  intro p e s m args below meth c hC hr hT
  have HX : ∀ E9 G9, Qc (.inr E9) G9 → ∃ (i : Nat) (x : ExceptionTableEntry) (nm : String), (tableOf [(0, 9, 12, 22)])[i]? = some x ∧ (∀ z ∈ (tableOf [(0, 9, 12, 22)]).take i, covers z 4 = false ∨ (z.catchType ≠ 0 ∧ ∃ nm : String, Cond.classLink RL z.catchType nm ∈ wALL ∧ (E9, nm) ∈ ncW)) ∧ covers x 4 = true ∧ x.catchType ≠ 0 ∧ Cond.classLink RL x.catchType nm ∈ wALL ∧ Cond.castable E9 nm ∈ excW ∧ ∀ q9 : Nat, V p l e rm_L_writeEntries s m args below meth c 4 Θ (wQ fI [eX] Qc) rm_L_writeEntries.cells rm_L_writeEntries.slots (0 + rm_X11_writeEntries.cells) (0 + rm_X11_writeEntries.slots) x.handlerPc [some (.ref (tR Θ 0 14)), some (.int a0), some (.ref (tR Θ 0 38)), none] [.ref q9] G9 := by
    intro E9 G9 z9
    rcases hx E9 G9 z9 with rfl
    · refine ⟨0, _, _, rfl, (fun z hz => absurd hz (by simp)), by decide, by decide, cl_RL_22, by decide, fun q9 => ?_⟩
      show V p l e rm_L_writeEntries s m args below meth c 4 Θ (wQ fI [eX] Qc) rm_L_writeEntries.cells rm_L_writeEntries.slots (0 + rm_X11_writeEntries.cells) (0 + rm_X11_writeEntries.slots) 12 [some (.ref (tR Θ 0 14)), some (.int a0), some (.ref (tR Θ 0 38)), none] [.ref q9] G9
      refine v_astore_n (i := 3) (q := 13) hC dL_writeEntries_12 rfl rfl (lvc rfl) (Nat.le_of_ble_eq_true rfl) (Nat.le_of_ble_eq_true rfl) rfl ?_
      refine v_iconst (q := 14) (v := 1) hC dL_writeEntries_13 rfl (by decide) ?_
      refine v_iret hC dL_writeEntries_14 hr (rfl) ?_ (Nat.le_of_ble_eq_true rfl) (Nat.le_of_ble_eq_true rfl)
      exact Or.inr ⟨_, _, z9, by first | rfl | (congr 3), rfl⟩
  refine v_aload_n (i := 2) (q := 1) hC dL_writeEntries_0 rfl rfl rfl ?_
  refine v_iconst (q := 2) (v := 0) hC dL_writeEntries_1 rfl (by decide) ?_
  refine v_aload_n (i := 0) (q := 3) hC dL_writeEntries_2 rfl rfl rfl ?_
  refine v_iload_n (i := 1) (q := 4) hC dL_writeEntries_3 rfl rfl rfl ?_
  refine v_callTry (q := 7) (rm := rm_X11_writeEntries) hC hT hM k_X11_writeEntries im_yX11_writeEntries se_yX11_writeEntries ml_RL_90 dL_writeEntries_4 rfl rfl rfl rfl rfl rfl (Nat.le_of_ble_eq_true rfl) ⟨Nat.le_of_ble_eq_true rfl, Nat.le_of_ble_eq_true rfl⟩ ⟨Nat.le_of_ble_eq_true rfl, Nat.le_of_ble_eq_true rfl⟩ (fun v9 G9 z9 => ?_) HX
  obtain ⟨x9, rfl⟩ := hv _ _ z9
  dsimp only [Option.toList, List.cons_append, List.nil_append]
  refine v_i2l (q := 8) hC dL_writeEntries_7 rfl ?_
  refine v_lastO (q := 9) hC dL_writeEntries_8 rfl ?_
  refine v_goto (q := 15) hC dL_writeEntries_9 (by decide) ?_
  refine v_iconst (q := 16) (v := 0) hC dL_writeEntries_15 rfl (by decide) ?_
  refine v_iret hC dL_writeEntries_16 hr (rfl) ?_ (Nat.le_of_ble_eq_true rfl) (Nat.le_of_ble_eq_true rfl)
  exact Or.inl ⟨x9, _, z9, rfl, rfl⟩
abbrev rm_L_codeAt : Room := { frames := 7, locals := 111, cells := 1, slots := 6 }
set_option maxHeartbeats 4000000 in
set_option maxRecDepth 20000 in
theorem w_L_codeAt {l : Launch} (hl : l.stackTraces = false) (Θ : cTH) {Qc : cOut → GS → Prop} (a0 : Int32) (G : GS) (hM : Ct l yX11_codeAt cX11_codeAt 2 (some .int) rm_X11_codeAt Θ [.ref (tR Θ 0 14), .int a0] G Qc) (hv : ∀ r G1, Qc (.inl r) G1 → ∃ x : Int32, r = some (.int x)) (hx : ∀ E G1, Qc (.inr E) G1 → E = eA) : CtH l yL_codeAt cL_codeAt 4 (some .int) [(0, 9, 12, 49)] rm_L_codeAt Θ [.ref (tR Θ 0 14), .int a0, .ref (tR Θ 0 38)] G (wQ fI [eA] Qc) := by
  refine cth_of (LS := [some (.ref (tR Θ 0 14)), some (.int a0), some (.ref (tR Θ 0 38)), none]) hl (by decide +kernel) rfl rfl (Nat.le_of_ble_eq_true rfl) rfl ?_
  intro p e s m args below meth c hC hr hT
  have HX : ∀ E9 G9, Qc (.inr E9) G9 → ∃ (i : Nat) (x : ExceptionTableEntry) (nm : String), (tableOf [(0, 9, 12, 49)])[i]? = some x ∧ (∀ z ∈ (tableOf [(0, 9, 12, 49)]).take i, covers z 4 = false ∨ (z.catchType ≠ 0 ∧ ∃ nm : String, Cond.classLink RL z.catchType nm ∈ wALL ∧ (E9, nm) ∈ ncW)) ∧ covers x 4 = true ∧ x.catchType ≠ 0 ∧ Cond.classLink RL x.catchType nm ∈ wALL ∧ Cond.castable E9 nm ∈ excW ∧ ∀ q9 : Nat, V p l e rm_L_codeAt s m args below meth c 4 Θ (wQ fI [eA] Qc) rm_L_codeAt.cells rm_L_codeAt.slots (0 + rm_X11_codeAt.cells) (0 + rm_X11_codeAt.slots) x.handlerPc [some (.ref (tR Θ 0 14)), some (.int a0), some (.ref (tR Θ 0 38)), none] [.ref q9] G9 := by
    intro E9 G9 z9
    rcases hx E9 G9 z9 with rfl
    · refine ⟨0, _, _, rfl, (fun z hz => absurd hz (by simp)), by decide, by decide, cl_RL_49, by decide, fun q9 => ?_⟩
      show V p l e rm_L_codeAt s m args below meth c 4 Θ (wQ fI [eA] Qc) rm_L_codeAt.cells rm_L_codeAt.slots (0 + rm_X11_codeAt.cells) (0 + rm_X11_codeAt.slots) 12 [some (.ref (tR Θ 0 14)), some (.int a0), some (.ref (tR Θ 0 38)), none] [.ref q9] G9
      refine v_astore_n (i := 3) (q := 13) hC dL_codeAt_12 rfl rfl (lvc rfl) (Nat.le_of_ble_eq_true rfl) (Nat.le_of_ble_eq_true rfl) rfl ?_
      refine v_iconst (q := 14) (v := 1) hC dL_codeAt_13 rfl (by decide) ?_
      refine v_iret hC dL_codeAt_14 hr (rfl) ?_ (Nat.le_of_ble_eq_true rfl) (Nat.le_of_ble_eq_true rfl)
      exact Or.inr ⟨_, _, z9, by first | rfl | (congr 3), rfl⟩
  refine v_aload_n (i := 2) (q := 1) hC dL_codeAt_0 rfl rfl rfl ?_
  refine v_iconst (q := 2) (v := 0) hC dL_codeAt_1 rfl (by decide) ?_
  refine v_aload_n (i := 0) (q := 3) hC dL_codeAt_2 rfl rfl rfl ?_
  refine v_iload_n (i := 1) (q := 4) hC dL_codeAt_3 rfl rfl rfl ?_
  refine v_callTry (q := 7) (rm := rm_X11_codeAt) hC hT hM k_X11_codeAt im_yX11_codeAt se_yX11_codeAt ml_RL_93 dL_codeAt_4 rfl rfl rfl rfl rfl rfl (Nat.le_of_ble_eq_true rfl) ⟨Nat.le_of_ble_eq_true rfl, Nat.le_of_ble_eq_true rfl⟩ ⟨Nat.le_of_ble_eq_true rfl, Nat.le_of_ble_eq_true rfl⟩ (fun v9 G9 z9 => ?_) HX
  obtain ⟨x9, rfl⟩ := hv _ _ z9
  dsimp only [Option.toList, List.cons_append, List.nil_append]
  refine v_i2l (q := 8) hC dL_codeAt_7 rfl ?_
  refine v_lastO (q := 9) hC dL_codeAt_8 rfl ?_
  refine v_goto (q := 15) hC dL_codeAt_9 (by decide) ?_
  refine v_iconst (q := 16) (v := 0) hC dL_codeAt_15 rfl (by decide) ?_
  refine v_iret hC dL_codeAt_16 hr (rfl) ?_ (Nat.le_of_ble_eq_true rfl) (Nat.le_of_ble_eq_true rfl)
  exact Or.inl ⟨x9, _, z9, rfl, rfl⟩
abbrev rm_L_isMember : Room := { frames := 8, locals := 133, cells := 2, slots := 12 }
set_option maxHeartbeats 4000000 in
set_option maxRecDepth 20000 in
theorem w_L_isMember {l : Launch} (hl : l.stackTraces = false) (Θ : cTH) {Qc : cOut → GS → Prop} (a0 a1 : Int32) (G : GS) (hM : Ct l yX11_isMember cX11_isMember 3 (some .boolean) rm_X11_isMember Θ [.ref (tR Θ 0 14), .int a0, .int a1] G Qc) (hv : ∀ r G1, Qc (.inl r) G1 → ∃ x : Int32, r = some (.int x)) (hx : ∀ E G1, Qc (.inr E) G1 → E = eX) : CtH l yL_isMember cL_isMember 5 (some .int) [(0, 17, 20, 22)] rm_L_isMember Θ [.ref (tR Θ 0 14), .int a0, .int a1, .ref (tR Θ 0 38)] G (wQ fZ [eX] Qc) := by
  refine cth_of (LS := [some (.ref (tR Θ 0 14)), some (.int a0), some (.int a1), some (.ref (tR Θ 0 38)), none]) hl (by decide +kernel) rfl rfl (Nat.le_of_ble_eq_true rfl) rfl ?_
  intro p e s m args below meth c hC hr hT
  have HX : ∀ E9 G9, Qc (.inr E9) G9 → ∃ (i : Nat) (x : ExceptionTableEntry) (nm : String), (tableOf [(0, 17, 20, 22)])[i]? = some x ∧ (∀ z ∈ (tableOf [(0, 17, 20, 22)]).take i, covers z 5 = false ∨ (z.catchType ≠ 0 ∧ ∃ nm : String, Cond.classLink RL z.catchType nm ∈ wALL ∧ (E9, nm) ∈ ncW)) ∧ covers x 5 = true ∧ x.catchType ≠ 0 ∧ Cond.classLink RL x.catchType nm ∈ wALL ∧ Cond.castable E9 nm ∈ excW ∧ ∀ q9 : Nat, V p l e rm_L_isMember s m args below meth c 5 Θ (wQ fZ [eX] Qc) rm_L_isMember.cells rm_L_isMember.slots (0 + rm_X11_isMember.cells) (0 + rm_X11_isMember.slots) x.handlerPc [some (.ref (tR Θ 0 14)), some (.int a0), some (.int a1), some (.ref (tR Θ 0 38)), none] [.ref q9] G9 := by
    intro E9 G9 z9
    rcases hx E9 G9 z9 with rfl
    · refine ⟨0, _, _, rfl, (fun z hz => absurd hz (by simp)), by decide, by decide, cl_RL_22, by decide, fun q9 => ?_⟩
      show V p l e rm_L_isMember s m args below meth c 5 Θ (wQ fZ [eX] Qc) rm_L_isMember.cells rm_L_isMember.slots (0 + rm_X11_isMember.cells) (0 + rm_X11_isMember.slots) 20 [some (.ref (tR Θ 0 14)), some (.int a0), some (.int a1), some (.ref (tR Θ 0 38)), none] [.ref q9] G9
      refine v_astore (q := 22) hC dL_isMember_20 rfl (lvc rfl) (Nat.le_of_ble_eq_true rfl) (Nat.le_of_ble_eq_true rfl) rfl ?_
      refine v_iconst (q := 23) (v := 1) hC dL_isMember_22 rfl (by decide) ?_
      refine v_iret hC dL_isMember_23 hr (rfl) ?_ (Nat.le_of_ble_eq_true rfl) (Nat.le_of_ble_eq_true rfl)
      exact Or.inr ⟨_, _, z9, by first | rfl | (congr 3), rfl⟩
  refine v_aload_n (i := 3) (q := 1) hC dL_isMember_0 rfl rfl rfl ?_
  refine v_iconst (q := 2) (v := 0) hC dL_isMember_1 rfl (by decide) ?_
  refine v_aload_n (i := 0) (q := 3) hC dL_isMember_2 rfl rfl rfl ?_
  refine v_iload_n (i := 1) (q := 4) hC dL_isMember_3 rfl rfl rfl ?_
  refine v_iload_n (i := 2) (q := 5) hC dL_isMember_4 rfl rfl rfl ?_
  refine v_callTry (q := 8) (rm := rm_X11_isMember) hC hT hM k_X11_isMember im_yX11_isMember se_yX11_isMember ml_RL_96 dL_isMember_5 rfl rfl rfl rfl rfl rfl (Nat.le_of_ble_eq_true rfl) ⟨Nat.le_of_ble_eq_true rfl, Nat.le_of_ble_eq_true rfl⟩ ⟨Nat.le_of_ble_eq_true rfl, Nat.le_of_ble_eq_true rfl⟩ (fun v9 G9 z9 => ?_) HX
  obtain ⟨x9, rfl⟩ := hv _ _ z9
  dsimp only [Option.toList, List.cons_append, List.nil_append]
  refine v_if_eq (q := 15) (q2 := 11) hC dL_isMember_8 (by decide) rfl (fun c_8 => ?_) (fun c_8 => ?_)
  · refine v_lconst (q := 16) (v := 0) hC dL_isMember_15 rfl rfl ?_
    refine v_lastO (q := 17) hC dL_isMember_16 rfl ?_
    refine v_goto (q := 24) hC dL_isMember_17 (by decide) ?_
    refine v_iconst (q := 25) (v := 0) hC dL_isMember_24 rfl (by decide) ?_
    refine v_iret hC dL_isMember_25 hr (rfl) ?_ (Nat.le_of_ble_eq_true rfl) (Nat.le_of_ble_eq_true rfl)
    refine Or.inl ⟨x9, _, z9, rfl, ?_⟩
    first | (rw [fZ, if_pos c_8]) | (rw [fZ, if_neg c_8])
  · refine v_lconst (q := 12) (v := 1) hC dL_isMember_11 rfl rfl ?_
    refine v_goto (q := 16) hC dL_isMember_12 (by decide) ?_
    refine v_lastO (q := 17) hC dL_isMember_16 rfl ?_
    refine v_goto (q := 24) hC dL_isMember_17 (by decide) ?_
    refine v_iconst (q := 25) (v := 0) hC dL_isMember_24 rfl (by decide) ?_
    refine v_iret hC dL_isMember_25 hr (rfl) ?_ (Nat.le_of_ble_eq_true rfl) (Nat.le_of_ble_eq_true rfl)
    refine Or.inl ⟨x9, _, z9, rfl, ?_⟩
    first | (rw [fZ, if_pos c_8]) | (rw [fZ, if_neg c_8])
abbrev rm_L_isNested : Room := { frames := 8, locals := 133, cells := 2, slots := 12 }
set_option maxHeartbeats 4000000 in
set_option maxRecDepth 20000 in
theorem w_L_isNested {l : Launch} (hl : l.stackTraces = false) (Θ : cTH) {Qc : cOut → GS → Prop} (a0 a1 : Int32) (G : GS) (hM : Ct l yX11_isNested cX11_isNested 3 (some .boolean) rm_X11_isNested Θ [.ref (tR Θ 0 14), .int a0, .int a1] G Qc) (hv : ∀ r G1, Qc (.inl r) G1 → ∃ x : Int32, r = some (.int x)) (hx : ∀ E G1, Qc (.inr E) G1 → E = eX) : CtH l yL_isNested cL_isNested 5 (some .int) [(0, 17, 20, 22)] rm_L_isNested Θ [.ref (tR Θ 0 14), .int a0, .int a1, .ref (tR Θ 0 38)] G (wQ fZ [eX] Qc) := by
  refine cth_of (LS := [some (.ref (tR Θ 0 14)), some (.int a0), some (.int a1), some (.ref (tR Θ 0 38)), none]) hl (by decide +kernel) rfl rfl (Nat.le_of_ble_eq_true rfl) rfl ?_
  intro p e s m args below meth c hC hr hT
  have HX : ∀ E9 G9, Qc (.inr E9) G9 → ∃ (i : Nat) (x : ExceptionTableEntry) (nm : String), (tableOf [(0, 17, 20, 22)])[i]? = some x ∧ (∀ z ∈ (tableOf [(0, 17, 20, 22)]).take i, covers z 5 = false ∨ (z.catchType ≠ 0 ∧ ∃ nm : String, Cond.classLink RL z.catchType nm ∈ wALL ∧ (E9, nm) ∈ ncW)) ∧ covers x 5 = true ∧ x.catchType ≠ 0 ∧ Cond.classLink RL x.catchType nm ∈ wALL ∧ Cond.castable E9 nm ∈ excW ∧ ∀ q9 : Nat, V p l e rm_L_isNested s m args below meth c 5 Θ (wQ fZ [eX] Qc) rm_L_isNested.cells rm_L_isNested.slots (0 + rm_X11_isNested.cells) (0 + rm_X11_isNested.slots) x.handlerPc [some (.ref (tR Θ 0 14)), some (.int a0), some (.int a1), some (.ref (tR Θ 0 38)), none] [.ref q9] G9 := by
    intro E9 G9 z9
    rcases hx E9 G9 z9 with rfl
    · refine ⟨0, _, _, rfl, (fun z hz => absurd hz (by simp)), by decide, by decide, cl_RL_22, by decide, fun q9 => ?_⟩
      show V p l e rm_L_isNested s m args below meth c 5 Θ (wQ fZ [eX] Qc) rm_L_isNested.cells rm_L_isNested.slots (0 + rm_X11_isNested.cells) (0 + rm_X11_isNested.slots) 20 [some (.ref (tR Θ 0 14)), some (.int a0), some (.int a1), some (.ref (tR Θ 0 38)), none] [.ref q9] G9
      refine v_astore (q := 22) hC dL_isNested_20 rfl (lvc rfl) (Nat.le_of_ble_eq_true rfl) (Nat.le_of_ble_eq_true rfl) rfl ?_
      refine v_iconst (q := 23) (v := 1) hC dL_isNested_22 rfl (by decide) ?_
      refine v_iret hC dL_isNested_23 hr (rfl) ?_ (Nat.le_of_ble_eq_true rfl) (Nat.le_of_ble_eq_true rfl)
      exact Or.inr ⟨_, _, z9, by first | rfl | (congr 3), rfl⟩
  refine v_aload_n (i := 3) (q := 1) hC dL_isNested_0 rfl rfl rfl ?_
  refine v_iconst (q := 2) (v := 0) hC dL_isNested_1 rfl (by decide) ?_
  refine v_aload_n (i := 0) (q := 3) hC dL_isNested_2 rfl rfl rfl ?_
  refine v_iload_n (i := 1) (q := 4) hC dL_isNested_3 rfl rfl rfl ?_
  refine v_iload_n (i := 2) (q := 5) hC dL_isNested_4 rfl rfl rfl ?_
  refine v_callTry (q := 8) (rm := rm_X11_isNested) hC hT hM k_X11_isNested im_yX11_isNested se_yX11_isNested ml_RL_100 dL_isNested_5 rfl rfl rfl rfl rfl rfl (Nat.le_of_ble_eq_true rfl) ⟨Nat.le_of_ble_eq_true rfl, Nat.le_of_ble_eq_true rfl⟩ ⟨Nat.le_of_ble_eq_true rfl, Nat.le_of_ble_eq_true rfl⟩ (fun v9 G9 z9 => ?_) HX
  obtain ⟨x9, rfl⟩ := hv _ _ z9
  dsimp only [Option.toList, List.cons_append, List.nil_append]
  refine v_if_eq (q := 15) (q2 := 11) hC dL_isNested_8 (by decide) rfl (fun c_8 => ?_) (fun c_8 => ?_)
  · refine v_lconst (q := 16) (v := 0) hC dL_isNested_15 rfl rfl ?_
    refine v_lastO (q := 17) hC dL_isNested_16 rfl ?_
    refine v_goto (q := 24) hC dL_isNested_17 (by decide) ?_
    refine v_iconst (q := 25) (v := 0) hC dL_isNested_24 rfl (by decide) ?_
    refine v_iret hC dL_isNested_25 hr (rfl) ?_ (Nat.le_of_ble_eq_true rfl) (Nat.le_of_ble_eq_true rfl)
    refine Or.inl ⟨x9, _, z9, rfl, ?_⟩
    first | (rw [fZ, if_pos c_8]) | (rw [fZ, if_neg c_8])
  · refine v_lconst (q := 12) (v := 1) hC dL_isNested_11 rfl rfl ?_
    refine v_goto (q := 16) hC dL_isNested_12 (by decide) ?_
    refine v_lastO (q := 17) hC dL_isNested_16 rfl ?_
    refine v_goto (q := 24) hC dL_isNested_17 (by decide) ?_
    refine v_iconst (q := 25) (v := 0) hC dL_isNested_24 rfl (by decide) ?_
    refine v_iret hC dL_isNested_25 hr (rfl) ?_ (Nat.le_of_ble_eq_true rfl) (Nat.le_of_ble_eq_true rfl)
    refine Or.inl ⟨x9, _, z9, rfl, ?_⟩
    first | (rw [fZ, if_pos c_8]) | (rw [fZ, if_neg c_8])
abbrev rm_L_belongs : Room := { frames := 8, locals := 133, cells := 2, slots := 12 }
set_option maxHeartbeats 4000000 in
set_option maxRecDepth 20000 in
theorem w_L_belongs {l : Launch} (hl : l.stackTraces = false) (Θ : cTH) {Qc : cOut → GS → Prop} (a0 a1 : Int32) (G : GS) (hM : Ct l yX11_belongs cX11_belongs 3 (some .boolean) rm_X11_belongs Θ [.ref (tR Θ 0 14), .int a0, .int a1] G Qc) (hv : ∀ r G1, Qc (.inl r) G1 → ∃ x : Int32, r = some (.int x)) (hx : ∀ E G1, Qc (.inr E) G1 → E = eX) : CtH l yL_belongs cL_belongs 5 (some .int) [(0, 17, 20, 22)] rm_L_belongs Θ [.ref (tR Θ 0 14), .int a0, .int a1, .ref (tR Θ 0 38)] G (wQ fZ [eX] Qc) := by
  refine cth_of (LS := [some (.ref (tR Θ 0 14)), some (.int a0), some (.int a1), some (.ref (tR Θ 0 38)), none]) hl (by decide +kernel) rfl rfl (Nat.le_of_ble_eq_true rfl) rfl ?_
  intro p e s m args below meth c hC hr hT
  have HX : ∀ E9 G9, Qc (.inr E9) G9 → ∃ (i : Nat) (x : ExceptionTableEntry) (nm : String), (tableOf [(0, 17, 20, 22)])[i]? = some x ∧ (∀ z ∈ (tableOf [(0, 17, 20, 22)]).take i, covers z 5 = false ∨ (z.catchType ≠ 0 ∧ ∃ nm : String, Cond.classLink RL z.catchType nm ∈ wALL ∧ (E9, nm) ∈ ncW)) ∧ covers x 5 = true ∧ x.catchType ≠ 0 ∧ Cond.classLink RL x.catchType nm ∈ wALL ∧ Cond.castable E9 nm ∈ excW ∧ ∀ q9 : Nat, V p l e rm_L_belongs s m args below meth c 5 Θ (wQ fZ [eX] Qc) rm_L_belongs.cells rm_L_belongs.slots (0 + rm_X11_belongs.cells) (0 + rm_X11_belongs.slots) x.handlerPc [some (.ref (tR Θ 0 14)), some (.int a0), some (.int a1), some (.ref (tR Θ 0 38)), none] [.ref q9] G9 := by
    intro E9 G9 z9
    rcases hx E9 G9 z9 with rfl
    · refine ⟨0, _, _, rfl, (fun z hz => absurd hz (by simp)), by decide, by decide, cl_RL_22, by decide, fun q9 => ?_⟩
      show V p l e rm_L_belongs s m args below meth c 5 Θ (wQ fZ [eX] Qc) rm_L_belongs.cells rm_L_belongs.slots (0 + rm_X11_belongs.cells) (0 + rm_X11_belongs.slots) 20 [some (.ref (tR Θ 0 14)), some (.int a0), some (.int a1), some (.ref (tR Θ 0 38)), none] [.ref q9] G9
      refine v_astore (q := 22) hC dL_belongs_20 rfl (lvc rfl) (Nat.le_of_ble_eq_true rfl) (Nat.le_of_ble_eq_true rfl) rfl ?_
      refine v_iconst (q := 23) (v := 1) hC dL_belongs_22 rfl (by decide) ?_
      refine v_iret hC dL_belongs_23 hr (rfl) ?_ (Nat.le_of_ble_eq_true rfl) (Nat.le_of_ble_eq_true rfl)
      exact Or.inr ⟨_, _, z9, by first | rfl | (congr 3), rfl⟩
  refine v_aload_n (i := 3) (q := 1) hC dL_belongs_0 rfl rfl rfl ?_
  refine v_iconst (q := 2) (v := 0) hC dL_belongs_1 rfl (by decide) ?_
  refine v_aload_n (i := 0) (q := 3) hC dL_belongs_2 rfl rfl rfl ?_
  refine v_iload_n (i := 1) (q := 4) hC dL_belongs_3 rfl rfl rfl ?_
  refine v_iload_n (i := 2) (q := 5) hC dL_belongs_4 rfl rfl rfl ?_
  refine v_callTry (q := 8) (rm := rm_X11_belongs) hC hT hM k_X11_belongs im_yX11_belongs se_yX11_belongs ml_RL_103 dL_belongs_5 rfl rfl rfl rfl rfl rfl (Nat.le_of_ble_eq_true rfl) ⟨Nat.le_of_ble_eq_true rfl, Nat.le_of_ble_eq_true rfl⟩ ⟨Nat.le_of_ble_eq_true rfl, Nat.le_of_ble_eq_true rfl⟩ (fun v9 G9 z9 => ?_) HX
  obtain ⟨x9, rfl⟩ := hv _ _ z9
  dsimp only [Option.toList, List.cons_append, List.nil_append]
  refine v_if_eq (q := 15) (q2 := 11) hC dL_belongs_8 (by decide) rfl (fun c_8 => ?_) (fun c_8 => ?_)
  · refine v_lconst (q := 16) (v := 0) hC dL_belongs_15 rfl rfl ?_
    refine v_lastO (q := 17) hC dL_belongs_16 rfl ?_
    refine v_goto (q := 24) hC dL_belongs_17 (by decide) ?_
    refine v_iconst (q := 25) (v := 0) hC dL_belongs_24 rfl (by decide) ?_
    refine v_iret hC dL_belongs_25 hr (rfl) ?_ (Nat.le_of_ble_eq_true rfl) (Nat.le_of_ble_eq_true rfl)
    refine Or.inl ⟨x9, _, z9, rfl, ?_⟩
    first | (rw [fZ, if_pos c_8]) | (rw [fZ, if_neg c_8])
  · refine v_lconst (q := 12) (v := 1) hC dL_belongs_11 rfl rfl ?_
    refine v_goto (q := 16) hC dL_belongs_12 (by decide) ?_
    refine v_lastO (q := 17) hC dL_belongs_16 rfl ?_
    refine v_goto (q := 24) hC dL_belongs_17 (by decide) ?_
    refine v_iconst (q := 25) (v := 0) hC dL_belongs_24 rfl (by decide) ?_
    refine v_iret hC dL_belongs_25 hr (rfl) ?_ (Nat.le_of_ble_eq_true rfl) (Nat.le_of_ble_eq_true rfl)
    refine Or.inl ⟨x9, _, z9, rfl, ?_⟩
    first | (rw [fZ, if_pos c_8]) | (rw [fZ, if_neg c_8])
abbrev rm_L_belongsByMembers : Room := { frames := 8, locals := 133, cells := 2, slots := 12 }
set_option maxHeartbeats 4000000 in
set_option maxRecDepth 20000 in
theorem w_L_belongsByMembers {l : Launch} (hl : l.stackTraces = false) (Θ : cTH) {Qc : cOut → GS → Prop} (a0 a1 : Int32) (G : GS) (hM : Ct l yX11_belongsByMembers cX11_belongsByMembers 3 (some .boolean) rm_X11_belongsByMembers Θ [.ref (tR Θ 0 14), .int a0, .int a1] G Qc) (hv : ∀ r G1, Qc (.inl r) G1 → ∃ x : Int32, r = some (.int x)) (hx : ∀ E G1, Qc (.inr E) G1 → E = eX) : CtH l yL_belongsByMembers cL_belongsByMembers 5 (some .int) [(0, 17, 20, 22)] rm_L_belongsByMembers Θ [.ref (tR Θ 0 14), .int a0, .int a1, .ref (tR Θ 0 38)] G (wQ fZ [eX] Qc) := by
  refine cth_of (LS := [some (.ref (tR Θ 0 14)), some (.int a0), some (.int a1), some (.ref (tR Θ 0 38)), none]) hl (by decide +kernel) rfl rfl (Nat.le_of_ble_eq_true rfl) rfl ?_
  intro p e s m args below meth c hC hr hT
  have HX : ∀ E9 G9, Qc (.inr E9) G9 → ∃ (i : Nat) (x : ExceptionTableEntry) (nm : String), (tableOf [(0, 17, 20, 22)])[i]? = some x ∧ (∀ z ∈ (tableOf [(0, 17, 20, 22)]).take i, covers z 5 = false ∨ (z.catchType ≠ 0 ∧ ∃ nm : String, Cond.classLink RL z.catchType nm ∈ wALL ∧ (E9, nm) ∈ ncW)) ∧ covers x 5 = true ∧ x.catchType ≠ 0 ∧ Cond.classLink RL x.catchType nm ∈ wALL ∧ Cond.castable E9 nm ∈ excW ∧ ∀ q9 : Nat, V p l e rm_L_belongsByMembers s m args below meth c 5 Θ (wQ fZ [eX] Qc) rm_L_belongsByMembers.cells rm_L_belongsByMembers.slots (0 + rm_X11_belongsByMembers.cells) (0 + rm_X11_belongsByMembers.slots) x.handlerPc [some (.ref (tR Θ 0 14)), some (.int a0), some (.int a1), some (.ref (tR Θ 0 38)), none] [.ref q9] G9 := by
    intro E9 G9 z9
    rcases hx E9 G9 z9 with rfl
    · refine ⟨0, _, _, rfl, (fun z hz => absurd hz (by simp)), by decide, by decide, cl_RL_22, by decide, fun q9 => ?_⟩
      show V p l e rm_L_belongsByMembers s m args below meth c 5 Θ (wQ fZ [eX] Qc) rm_L_belongsByMembers.cells rm_L_belongsByMembers.slots (0 + rm_X11_belongsByMembers.cells) (0 + rm_X11_belongsByMembers.slots) 20 [some (.ref (tR Θ 0 14)), some (.int a0), some (.int a1), some (.ref (tR Θ 0 38)), none] [.ref q9] G9
      refine v_astore (q := 22) hC dL_belongsByMembers_20 rfl (lvc rfl) (Nat.le_of_ble_eq_true rfl) (Nat.le_of_ble_eq_true rfl) rfl ?_
      refine v_iconst (q := 23) (v := 1) hC dL_belongsByMembers_22 rfl (by decide) ?_
      refine v_iret hC dL_belongsByMembers_23 hr (rfl) ?_ (Nat.le_of_ble_eq_true rfl) (Nat.le_of_ble_eq_true rfl)
      exact Or.inr ⟨_, _, z9, by first | rfl | (congr 3), rfl⟩
  refine v_aload_n (i := 3) (q := 1) hC dL_belongsByMembers_0 rfl rfl rfl ?_
  refine v_iconst (q := 2) (v := 0) hC dL_belongsByMembers_1 rfl (by decide) ?_
  refine v_aload_n (i := 0) (q := 3) hC dL_belongsByMembers_2 rfl rfl rfl ?_
  refine v_iload_n (i := 1) (q := 4) hC dL_belongsByMembers_3 rfl rfl rfl ?_
  refine v_iload_n (i := 2) (q := 5) hC dL_belongsByMembers_4 rfl rfl rfl ?_
  refine v_callTry (q := 8) (rm := rm_X11_belongsByMembers) hC hT hM k_X11_belongsByMembers im_yX11_belongsByMembers se_yX11_belongsByMembers ml_RL_106 dL_belongsByMembers_5 rfl rfl rfl rfl rfl rfl (Nat.le_of_ble_eq_true rfl) ⟨Nat.le_of_ble_eq_true rfl, Nat.le_of_ble_eq_true rfl⟩ ⟨Nat.le_of_ble_eq_true rfl, Nat.le_of_ble_eq_true rfl⟩ (fun v9 G9 z9 => ?_) HX
  obtain ⟨x9, rfl⟩ := hv _ _ z9
  dsimp only [Option.toList, List.cons_append, List.nil_append]
  refine v_if_eq (q := 15) (q2 := 11) hC dL_belongsByMembers_8 (by decide) rfl (fun c_8 => ?_) (fun c_8 => ?_)
  · refine v_lconst (q := 16) (v := 0) hC dL_belongsByMembers_15 rfl rfl ?_
    refine v_lastO (q := 17) hC dL_belongsByMembers_16 rfl ?_
    refine v_goto (q := 24) hC dL_belongsByMembers_17 (by decide) ?_
    refine v_iconst (q := 25) (v := 0) hC dL_belongsByMembers_24 rfl (by decide) ?_
    refine v_iret hC dL_belongsByMembers_25 hr (rfl) ?_ (Nat.le_of_ble_eq_true rfl) (Nat.le_of_ble_eq_true rfl)
    refine Or.inl ⟨x9, _, z9, rfl, ?_⟩
    first | (rw [fZ, if_pos c_8]) | (rw [fZ, if_neg c_8])
  · refine v_lconst (q := 12) (v := 1) hC dL_belongsByMembers_11 rfl rfl ?_
    refine v_goto (q := 16) hC dL_belongsByMembers_12 (by decide) ?_
    refine v_lastO (q := 17) hC dL_belongsByMembers_16 rfl ?_
    refine v_goto (q := 24) hC dL_belongsByMembers_17 (by decide) ?_
    refine v_iconst (q := 25) (v := 0) hC dL_belongsByMembers_24 rfl (by decide) ?_
    refine v_iret hC dL_belongsByMembers_25 hr (rfl) ?_ (Nat.le_of_ble_eq_true rfl) (Nat.le_of_ble_eq_true rfl)
    refine Or.inl ⟨x9, _, z9, rfl, ?_⟩
    first | (rw [fZ, if_pos c_8]) | (rw [fZ, if_neg c_8])
abbrev rm_L_parentOf : Room := { frames := 8, locals := 132, cells := 1, slots := 6 }
set_option maxHeartbeats 4000000 in
set_option maxRecDepth 20000 in
theorem w_L_parentOf {l : Launch} (hl : l.stackTraces = false) (Θ : cTH) {Qc : cOut → GS → Prop} (a0 : Int32) (G : GS) (hM : Ct l yX11_parentOf cX11_parentOf 2 (some .int) rm_X11_parentOf Θ [.ref (tR Θ 0 14), .int a0] G Qc) (hv : ∀ r G1, Qc (.inl r) G1 → ∃ x : Int32, r = some (.int x)) (hx : ∀ E G1, Qc (.inr E) G1 → E = eX) : CtH l yL_parentOf cL_parentOf 4 (some .int) [(0, 9, 12, 22)] rm_L_parentOf Θ [.ref (tR Θ 0 14), .int a0, .ref (tR Θ 0 38)] G (wQ fI [eX] Qc) := by
  refine cth_of (LS := [some (.ref (tR Θ 0 14)), some (.int a0), some (.ref (tR Θ 0 38)), none]) hl (by decide +kernel) rfl rfl (Nat.le_of_ble_eq_true rfl) rfl ?_
  intro p e s m args below meth c hC hr hT
  have HX : ∀ E9 G9, Qc (.inr E9) G9 → ∃ (i : Nat) (x : ExceptionTableEntry) (nm : String), (tableOf [(0, 9, 12, 22)])[i]? = some x ∧ (∀ z ∈ (tableOf [(0, 9, 12, 22)]).take i, covers z 4 = false ∨ (z.catchType ≠ 0 ∧ ∃ nm : String, Cond.classLink RL z.catchType nm ∈ wALL ∧ (E9, nm) ∈ ncW)) ∧ covers x 4 = true ∧ x.catchType ≠ 0 ∧ Cond.classLink RL x.catchType nm ∈ wALL ∧ Cond.castable E9 nm ∈ excW ∧ ∀ q9 : Nat, V p l e rm_L_parentOf s m args below meth c 4 Θ (wQ fI [eX] Qc) rm_L_parentOf.cells rm_L_parentOf.slots (0 + rm_X11_parentOf.cells) (0 + rm_X11_parentOf.slots) x.handlerPc [some (.ref (tR Θ 0 14)), some (.int a0), some (.ref (tR Θ 0 38)), none] [.ref q9] G9 := by
    intro E9 G9 z9
    rcases hx E9 G9 z9 with rfl
    · refine ⟨0, _, _, rfl, (fun z hz => absurd hz (by simp)), by decide, by decide, cl_RL_22, by decide, fun q9 => ?_⟩
      show V p l e rm_L_parentOf s m args below meth c 4 Θ (wQ fI [eX] Qc) rm_L_parentOf.cells rm_L_parentOf.slots (0 + rm_X11_parentOf.cells) (0 + rm_X11_parentOf.slots) 12 [some (.ref (tR Θ 0 14)), some (.int a0), some (.ref (tR Θ 0 38)), none] [.ref q9] G9
      refine v_astore_n (i := 3) (q := 13) hC dL_parentOf_12 rfl rfl (lvc rfl) (Nat.le_of_ble_eq_true rfl) (Nat.le_of_ble_eq_true rfl) rfl ?_
      refine v_iconst (q := 14) (v := 1) hC dL_parentOf_13 rfl (by decide) ?_
      refine v_iret hC dL_parentOf_14 hr (rfl) ?_ (Nat.le_of_ble_eq_true rfl) (Nat.le_of_ble_eq_true rfl)
      exact Or.inr ⟨_, _, z9, by first | rfl | (congr 3), rfl⟩
  refine v_aload_n (i := 2) (q := 1) hC dL_parentOf_0 rfl rfl rfl ?_
  refine v_iconst (q := 2) (v := 0) hC dL_parentOf_1 rfl (by decide) ?_
  refine v_aload_n (i := 0) (q := 3) hC dL_parentOf_2 rfl rfl rfl ?_
  refine v_iload_n (i := 1) (q := 4) hC dL_parentOf_3 rfl rfl rfl ?_
  refine v_callTry (q := 7) (rm := rm_X11_parentOf) hC hT hM k_X11_parentOf im_yX11_parentOf se_yX11_parentOf ml_RL_109 dL_parentOf_4 rfl rfl rfl rfl rfl rfl (Nat.le_of_ble_eq_true rfl) ⟨Nat.le_of_ble_eq_true rfl, Nat.le_of_ble_eq_true rfl⟩ ⟨Nat.le_of_ble_eq_true rfl, Nat.le_of_ble_eq_true rfl⟩ (fun v9 G9 z9 => ?_) HX
  obtain ⟨x9, rfl⟩ := hv _ _ z9
  dsimp only [Option.toList, List.cons_append, List.nil_append]
  refine v_i2l (q := 8) hC dL_parentOf_7 rfl ?_
  refine v_lastO (q := 9) hC dL_parentOf_8 rfl ?_
  refine v_goto (q := 15) hC dL_parentOf_9 (by decide) ?_
  refine v_iconst (q := 16) (v := 0) hC dL_parentOf_15 rfl (by decide) ?_
  refine v_iret hC dL_parentOf_16 hr (rfl) ?_ (Nat.le_of_ble_eq_true rfl) (Nat.le_of_ble_eq_true rfl)
  exact Or.inl ⟨x9, _, z9, rfl, rfl⟩
abbrev rm_L_ownerOf : Room := { frames := 8, locals := 132, cells := 1, slots := 6 }
set_option maxHeartbeats 4000000 in
set_option maxRecDepth 20000 in
theorem w_L_ownerOf {l : Launch} (hl : l.stackTraces = false) (Θ : cTH) {Qc : cOut → GS → Prop} (a0 : Int32) (G : GS) (hM : Ct l yX11_ownerOf cX11_ownerOf 2 (some .int) rm_X11_ownerOf Θ [.ref (tR Θ 0 14), .int a0] G Qc) (hv : ∀ r G1, Qc (.inl r) G1 → ∃ x : Int32, r = some (.int x)) (hx : ∀ E G1, Qc (.inr E) G1 → E = eX) : CtH l yL_ownerOf cL_ownerOf 4 (some .int) [(0, 9, 12, 22)] rm_L_ownerOf Θ [.ref (tR Θ 0 14), .int a0, .ref (tR Θ 0 38)] G (wQ fI [eX] Qc) := by
  refine cth_of (LS := [some (.ref (tR Θ 0 14)), some (.int a0), some (.ref (tR Θ 0 38)), none]) hl (by decide +kernel) rfl rfl (Nat.le_of_ble_eq_true rfl) rfl ?_
  intro p e s m args below meth c hC hr hT
  have HX : ∀ E9 G9, Qc (.inr E9) G9 → ∃ (i : Nat) (x : ExceptionTableEntry) (nm : String), (tableOf [(0, 9, 12, 22)])[i]? = some x ∧ (∀ z ∈ (tableOf [(0, 9, 12, 22)]).take i, covers z 4 = false ∨ (z.catchType ≠ 0 ∧ ∃ nm : String, Cond.classLink RL z.catchType nm ∈ wALL ∧ (E9, nm) ∈ ncW)) ∧ covers x 4 = true ∧ x.catchType ≠ 0 ∧ Cond.classLink RL x.catchType nm ∈ wALL ∧ Cond.castable E9 nm ∈ excW ∧ ∀ q9 : Nat, V p l e rm_L_ownerOf s m args below meth c 4 Θ (wQ fI [eX] Qc) rm_L_ownerOf.cells rm_L_ownerOf.slots (0 + rm_X11_ownerOf.cells) (0 + rm_X11_ownerOf.slots) x.handlerPc [some (.ref (tR Θ 0 14)), some (.int a0), some (.ref (tR Θ 0 38)), none] [.ref q9] G9 := by
    intro E9 G9 z9
    rcases hx E9 G9 z9 with rfl
    · refine ⟨0, _, _, rfl, (fun z hz => absurd hz (by simp)), by decide, by decide, cl_RL_22, by decide, fun q9 => ?_⟩
      show V p l e rm_L_ownerOf s m args below meth c 4 Θ (wQ fI [eX] Qc) rm_L_ownerOf.cells rm_L_ownerOf.slots (0 + rm_X11_ownerOf.cells) (0 + rm_X11_ownerOf.slots) 12 [some (.ref (tR Θ 0 14)), some (.int a0), some (.ref (tR Θ 0 38)), none] [.ref q9] G9
      refine v_astore_n (i := 3) (q := 13) hC dL_ownerOf_12 rfl rfl (lvc rfl) (Nat.le_of_ble_eq_true rfl) (Nat.le_of_ble_eq_true rfl) rfl ?_
      refine v_iconst (q := 14) (v := 1) hC dL_ownerOf_13 rfl (by decide) ?_
      refine v_iret hC dL_ownerOf_14 hr (rfl) ?_ (Nat.le_of_ble_eq_true rfl) (Nat.le_of_ble_eq_true rfl)
      exact Or.inr ⟨_, _, z9, by first | rfl | (congr 3), rfl⟩
  refine v_aload_n (i := 2) (q := 1) hC dL_ownerOf_0 rfl rfl rfl ?_
  refine v_iconst (q := 2) (v := 0) hC dL_ownerOf_1 rfl (by decide) ?_
  refine v_aload_n (i := 0) (q := 3) hC dL_ownerOf_2 rfl rfl rfl ?_
  refine v_iload_n (i := 1) (q := 4) hC dL_ownerOf_3 rfl rfl rfl ?_
  refine v_callTry (q := 7) (rm := rm_X11_ownerOf) hC hT hM k_X11_ownerOf im_yX11_ownerOf se_yX11_ownerOf ml_RL_112 dL_ownerOf_4 rfl rfl rfl rfl rfl rfl (Nat.le_of_ble_eq_true rfl) ⟨Nat.le_of_ble_eq_true rfl, Nat.le_of_ble_eq_true rfl⟩ ⟨Nat.le_of_ble_eq_true rfl, Nat.le_of_ble_eq_true rfl⟩ (fun v9 G9 z9 => ?_) HX
  obtain ⟨x9, rfl⟩ := hv _ _ z9
  dsimp only [Option.toList, List.cons_append, List.nil_append]
  refine v_i2l (q := 8) hC dL_ownerOf_7 rfl ?_
  refine v_lastO (q := 9) hC dL_ownerOf_8 rfl ?_
  refine v_goto (q := 15) hC dL_ownerOf_9 (by decide) ?_
  refine v_iconst (q := 16) (v := 0) hC dL_ownerOf_15 rfl (by decide) ?_
  refine v_iret hC dL_ownerOf_16 hr (rfl) ?_ (Nat.le_of_ble_eq_true rfl) (Nat.le_of_ble_eq_true rfl)
  exact Or.inl ⟨x9, _, z9, rfl, rfl⟩
abbrev rm_L_maskOf : Room := { frames := 8, locals := 132, cells := 1, slots := 6 }
set_option maxHeartbeats 4000000 in
set_option maxRecDepth 20000 in
theorem w_L_maskOf {l : Launch} (hl : l.stackTraces = false) (Θ : cTH) {Qc : cOut → GS → Prop} (a0 : Int32) (G : GS) (hM : Ct l yX11_maskOf cX11_maskOf 2 (some .int) rm_X11_maskOf Θ [.ref (tR Θ 0 14), .int a0] G Qc) (hv : ∀ r G1, Qc (.inl r) G1 → ∃ x : Int32, r = some (.int x)) (hx : ∀ E G1, Qc (.inr E) G1 → E = eX) : CtH l yL_maskOf cL_maskOf 4 (some .int) [(0, 9, 12, 22)] rm_L_maskOf Θ [.ref (tR Θ 0 14), .int a0, .ref (tR Θ 0 38)] G (wQ fI [eX] Qc) := by
  refine cth_of (LS := [some (.ref (tR Θ 0 14)), some (.int a0), some (.ref (tR Θ 0 38)), none]) hl (by decide +kernel) rfl rfl (Nat.le_of_ble_eq_true rfl) rfl ?_
  intro p e s m args below meth c hC hr hT
  have HX : ∀ E9 G9, Qc (.inr E9) G9 → ∃ (i : Nat) (x : ExceptionTableEntry) (nm : String), (tableOf [(0, 9, 12, 22)])[i]? = some x ∧ (∀ z ∈ (tableOf [(0, 9, 12, 22)]).take i, covers z 4 = false ∨ (z.catchType ≠ 0 ∧ ∃ nm : String, Cond.classLink RL z.catchType nm ∈ wALL ∧ (E9, nm) ∈ ncW)) ∧ covers x 4 = true ∧ x.catchType ≠ 0 ∧ Cond.classLink RL x.catchType nm ∈ wALL ∧ Cond.castable E9 nm ∈ excW ∧ ∀ q9 : Nat, V p l e rm_L_maskOf s m args below meth c 4 Θ (wQ fI [eX] Qc) rm_L_maskOf.cells rm_L_maskOf.slots (0 + rm_X11_maskOf.cells) (0 + rm_X11_maskOf.slots) x.handlerPc [some (.ref (tR Θ 0 14)), some (.int a0), some (.ref (tR Θ 0 38)), none] [.ref q9] G9 := by
    intro E9 G9 z9
    rcases hx E9 G9 z9 with rfl
    · refine ⟨0, _, _, rfl, (fun z hz => absurd hz (by simp)), by decide, by decide, cl_RL_22, by decide, fun q9 => ?_⟩
      show V p l e rm_L_maskOf s m args below meth c 4 Θ (wQ fI [eX] Qc) rm_L_maskOf.cells rm_L_maskOf.slots (0 + rm_X11_maskOf.cells) (0 + rm_X11_maskOf.slots) 12 [some (.ref (tR Θ 0 14)), some (.int a0), some (.ref (tR Θ 0 38)), none] [.ref q9] G9
      refine v_astore_n (i := 3) (q := 13) hC dL_maskOf_12 rfl rfl (lvc rfl) (Nat.le_of_ble_eq_true rfl) (Nat.le_of_ble_eq_true rfl) rfl ?_
      refine v_iconst (q := 14) (v := 1) hC dL_maskOf_13 rfl (by decide) ?_
      refine v_iret hC dL_maskOf_14 hr (rfl) ?_ (Nat.le_of_ble_eq_true rfl) (Nat.le_of_ble_eq_true rfl)
      exact Or.inr ⟨_, _, z9, by first | rfl | (congr 3), rfl⟩
  refine v_aload_n (i := 2) (q := 1) hC dL_maskOf_0 rfl rfl rfl ?_
  refine v_iconst (q := 2) (v := 0) hC dL_maskOf_1 rfl (by decide) ?_
  refine v_aload_n (i := 0) (q := 3) hC dL_maskOf_2 rfl rfl rfl ?_
  refine v_iload_n (i := 1) (q := 4) hC dL_maskOf_3 rfl rfl rfl ?_
  refine v_callTry (q := 7) (rm := rm_X11_maskOf) hC hT hM k_X11_maskOf im_yX11_maskOf se_yX11_maskOf ml_RL_115 dL_maskOf_4 rfl rfl rfl rfl rfl rfl (Nat.le_of_ble_eq_true rfl) ⟨Nat.le_of_ble_eq_true rfl, Nat.le_of_ble_eq_true rfl⟩ ⟨Nat.le_of_ble_eq_true rfl, Nat.le_of_ble_eq_true rfl⟩ (fun v9 G9 z9 => ?_) HX
  obtain ⟨x9, rfl⟩ := hv _ _ z9
  dsimp only [Option.toList, List.cons_append, List.nil_append]
  refine v_i2l (q := 8) hC dL_maskOf_7 rfl ?_
  refine v_lastO (q := 9) hC dL_maskOf_8 rfl ?_
  refine v_goto (q := 15) hC dL_maskOf_9 (by decide) ?_
  refine v_iconst (q := 16) (v := 0) hC dL_maskOf_15 rfl (by decide) ?_
  refine v_iret hC dL_maskOf_16 hr (rfl) ?_ (Nat.le_of_ble_eq_true rfl) (Nat.le_of_ble_eq_true rfl)
  exact Or.inl ⟨x9, _, z9, rfl, rfl⟩
abbrev rm_L_isInheriting : Room := { frames := 8, locals := 132, cells := 1, slots := 6 }
set_option maxHeartbeats 4000000 in
set_option maxRecDepth 20000 in
theorem w_L_isInheriting {l : Launch} (hl : l.stackTraces = false) (Θ : cTH) {Qc : cOut → GS → Prop} (a0 : Int32) (G : GS) (hM : Ct l yX11_isInheriting cX11_isInheriting 2 (some .boolean) rm_X11_isInheriting Θ [.ref (tR Θ 0 14), .int a0] G Qc) (hv : ∀ r G1, Qc (.inl r) G1 → ∃ x : Int32, r = some (.int x)) (hx : ∀ E G1, Qc (.inr E) G1 → E = eX) : CtH l yL_isInheriting cL_isInheriting 4 (some .int) [(0, 16, 19, 22)] rm_L_isInheriting Θ [.ref (tR Θ 0 14), .int a0, .ref (tR Θ 0 38)] G (wQ fZ [eX] Qc) := by
  refine cth_of (LS := [some (.ref (tR Θ 0 14)), some (.int a0), some (.ref (tR Θ 0 38)), none]) hl (by decide +kernel) rfl rfl (Nat.le_of_ble_eq_true rfl) rfl ?_
  intro p e s m args below meth c hC hr hT
  have HX : ∀ E9 G9, Qc (.inr E9) G9 → ∃ (i : Nat) (x : ExceptionTableEntry) (nm : String), (tableOf [(0, 16, 19, 22)])[i]? = some x ∧ (∀ z ∈ (tableOf [(0, 16, 19, 22)]).take i, covers z 4 = false ∨ (z.catchType ≠ 0 ∧ ∃ nm : String, Cond.classLink RL z.catchType nm ∈ wALL ∧ (E9, nm) ∈ ncW)) ∧ covers x 4 = true ∧ x.catchType ≠ 0 ∧ Cond.classLink RL x.catchType nm ∈ wALL ∧ Cond.castable E9 nm ∈ excW ∧ ∀ q9 : Nat, V p l e rm_L_isInheriting s m args below meth c 4 Θ (wQ fZ [eX] Qc) rm_L_isInheriting.cells rm_L_isInheriting.slots (0 + rm_X11_isInheriting.cells) (0 + rm_X11_isInheriting.slots) x.handlerPc [some (.ref (tR Θ 0 14)), some (.int a0), some (.ref (tR Θ 0 38)), none] [.ref q9] G9 := by
    intro E9 G9 z9
    rcases hx E9 G9 z9 with rfl
    · refine ⟨0, _, _, rfl, (fun z hz => absurd hz (by simp)), by decide, by decide, cl_RL_22, by decide, fun q9 => ?_⟩
      show V p l e rm_L_isInheriting s m args below meth c 4 Θ (wQ fZ [eX] Qc) rm_L_isInheriting.cells rm_L_isInheriting.slots (0 + rm_X11_isInheriting.cells) (0 + rm_X11_isInheriting.slots) 19 [some (.ref (tR Θ 0 14)), some (.int a0), some (.ref (tR Θ 0 38)), none] [.ref q9] G9
      refine v_astore_n (i := 3) (q := 20) hC dL_isInheriting_19 rfl rfl (lvc rfl) (Nat.le_of_ble_eq_true rfl) (Nat.le_of_ble_eq_true rfl) rfl ?_
      refine v_iconst (q := 21) (v := 1) hC dL_isInheriting_20 rfl (by decide) ?_
      refine v_iret hC dL_isInheriting_21 hr (rfl) ?_ (Nat.le_of_ble_eq_true rfl) (Nat.le_of_ble_eq_true rfl)
      exact Or.inr ⟨_, _, z9, by first | rfl | (congr 3), rfl⟩
  refine v_aload_n (i := 2) (q := 1) hC dL_isInheriting_0 rfl rfl rfl ?_
  refine v_iconst (q := 2) (v := 0) hC dL_isInheriting_1 rfl (by decide) ?_
  refine v_aload_n (i := 0) (q := 3) hC dL_isInheriting_2 rfl rfl rfl ?_
  refine v_iload_n (i := 1) (q := 4) hC dL_isInheriting_3 rfl rfl rfl ?_
  refine v_callTry (q := 7) (rm := rm_X11_isInheriting) hC hT hM k_X11_isInheriting im_yX11_isInheriting se_yX11_isInheriting ml_RL_118 dL_isInheriting_4 rfl rfl rfl rfl rfl rfl (Nat.le_of_ble_eq_true rfl) ⟨Nat.le_of_ble_eq_true rfl, Nat.le_of_ble_eq_true rfl⟩ ⟨Nat.le_of_ble_eq_true rfl, Nat.le_of_ble_eq_true rfl⟩ (fun v9 G9 z9 => ?_) HX
  obtain ⟨x9, rfl⟩ := hv _ _ z9
  dsimp only [Option.toList, List.cons_append, List.nil_append]
  refine v_if_eq (q := 14) (q2 := 10) hC dL_isInheriting_7 (by decide) rfl (fun c_7 => ?_) (fun c_7 => ?_)
  · refine v_lconst (q := 15) (v := 0) hC dL_isInheriting_14 rfl rfl ?_
    refine v_lastO (q := 16) hC dL_isInheriting_15 rfl ?_
    refine v_goto (q := 22) hC dL_isInheriting_16 (by decide) ?_
    refine v_iconst (q := 23) (v := 0) hC dL_isInheriting_22 rfl (by decide) ?_
    refine v_iret hC dL_isInheriting_23 hr (rfl) ?_ (Nat.le_of_ble_eq_true rfl) (Nat.le_of_ble_eq_true rfl)
    refine Or.inl ⟨x9, _, z9, rfl, ?_⟩
    first | (rw [fZ, if_pos c_7]) | (rw [fZ, if_neg c_7])
  · refine v_lconst (q := 11) (v := 1) hC dL_isInheriting_10 rfl rfl ?_
    refine v_goto (q := 15) hC dL_isInheriting_11 (by decide) ?_
    refine v_lastO (q := 16) hC dL_isInheriting_15 rfl ?_
    refine v_goto (q := 22) hC dL_isInheriting_16 (by decide) ?_
    refine v_iconst (q := 23) (v := 0) hC dL_isInheriting_22 rfl (by decide) ?_
    refine v_iret hC dL_isInheriting_23 hr (rfl) ?_ (Nat.le_of_ble_eq_true rfl) (Nat.le_of_ble_eq_true rfl)
    refine Or.inl ⟨x9, _, z9, rfl, ?_⟩
    first | (rw [fZ, if_pos c_7]) | (rw [fZ, if_neg c_7])
abbrev rm_L_below : Room := { frames := 8, locals := 132, cells := 1, slots := 6 }
set_option maxHeartbeats 4000000 in
set_option maxRecDepth 20000 in
theorem w_L_below {l : Launch} (hl : l.stackTraces = false) (Θ : cTH) {Qc : cOut → GS → Prop} (a0 : Int32) (G : GS) (hM : Ct l yX11_below cX11_below 2 (some .int) rm_X11_below Θ [.ref (tR Θ 0 14), .int a0] G Qc) (hv : ∀ r G1, Qc (.inl r) G1 → ∃ x : Int32, r = some (.int x)) (hx : ∀ E G1, Qc (.inr E) G1 → E = eX) : CtH l yL_below cL_below 4 (some .int) [(0, 9, 12, 22)] rm_L_below Θ [.ref (tR Θ 0 14), .int a0, .ref (tR Θ 0 38)] G (wQ fI [eX] Qc) := by
  refine cth_of (LS := [some (.ref (tR Θ 0 14)), some (.int a0), some (.ref (tR Θ 0 38)), none]) hl (by decide +kernel) rfl rfl (Nat.le_of_ble_eq_true rfl) rfl ?_
  intro p e s m args below meth c hC hr hT
  have HX : ∀ E9 G9, Qc (.inr E9) G9 → ∃ (i : Nat) (x : ExceptionTableEntry) (nm : String), (tableOf [(0, 9, 12, 22)])[i]? = some x ∧ (∀ z ∈ (tableOf [(0, 9, 12, 22)]).take i, covers z 4 = false ∨ (z.catchType ≠ 0 ∧ ∃ nm : String, Cond.classLink RL z.catchType nm ∈ wALL ∧ (E9, nm) ∈ ncW)) ∧ covers x 4 = true ∧ x.catchType ≠ 0 ∧ Cond.classLink RL x.catchType nm ∈ wALL ∧ Cond.castable E9 nm ∈ excW ∧ ∀ q9 : Nat, V p l e rm_L_below s m args below meth c 4 Θ (wQ fI [eX] Qc) rm_L_below.cells rm_L_below.slots (0 + rm_X11_below.cells) (0 + rm_X11_below.slots) x.handlerPc [some (.ref (tR Θ 0 14)), some (.int a0), some (.ref (tR Θ 0 38)), none] [.ref q9] G9 := by
    intro E9 G9 z9
    rcases hx E9 G9 z9 with rfl
    · refine ⟨0, _, _, rfl, (fun z hz => absurd hz (by simp)), by decide, by decide, cl_RL_22, by decide, fun q9 => ?_⟩
      show V p l e rm_L_below s m args below meth c 4 Θ (wQ fI [eX] Qc) rm_L_below.cells rm_L_below.slots (0 + rm_X11_below.cells) (0 + rm_X11_below.slots) 12 [some (.ref (tR Θ 0 14)), some (.int a0), some (.ref (tR Θ 0 38)), none] [.ref q9] G9
      refine v_astore_n (i := 3) (q := 13) hC dL_below_12 rfl rfl (lvc rfl) (Nat.le_of_ble_eq_true rfl) (Nat.le_of_ble_eq_true rfl) rfl ?_
      refine v_iconst (q := 14) (v := 1) hC dL_below_13 rfl (by decide) ?_
      refine v_iret hC dL_below_14 hr (rfl) ?_ (Nat.le_of_ble_eq_true rfl) (Nat.le_of_ble_eq_true rfl)
      exact Or.inr ⟨_, _, z9, by first | rfl | (congr 3), rfl⟩
  refine v_aload_n (i := 2) (q := 1) hC dL_below_0 rfl rfl rfl ?_
  refine v_iconst (q := 2) (v := 0) hC dL_below_1 rfl (by decide) ?_
  refine v_aload_n (i := 0) (q := 3) hC dL_below_2 rfl rfl rfl ?_
  refine v_iload_n (i := 1) (q := 4) hC dL_below_3 rfl rfl rfl ?_
  refine v_callTry (q := 7) (rm := rm_X11_below) hC hT hM k_X11_below im_yX11_below se_yX11_below ml_RL_122 dL_below_4 rfl rfl rfl rfl rfl rfl (Nat.le_of_ble_eq_true rfl) ⟨Nat.le_of_ble_eq_true rfl, Nat.le_of_ble_eq_true rfl⟩ ⟨Nat.le_of_ble_eq_true rfl, Nat.le_of_ble_eq_true rfl⟩ (fun v9 G9 z9 => ?_) HX
  obtain ⟨x9, rfl⟩ := hv _ _ z9
  dsimp only [Option.toList, List.cons_append, List.nil_append]
  refine v_i2l (q := 8) hC dL_below_7 rfl ?_
  refine v_lastO (q := 9) hC dL_below_8 rfl ?_
  refine v_goto (q := 15) hC dL_below_9 (by decide) ?_
  refine v_iconst (q := 16) (v := 0) hC dL_below_15 rfl (by decide) ?_
  refine v_iret hC dL_below_16 hr (rfl) ?_ (Nat.le_of_ble_eq_true rfl) (Nat.le_of_ble_eq_true rfl)
  exact Or.inl ⟨x9, _, z9, rfl, rfl⟩
abbrev rm_L_entriesOf : Room := { frames := 8, locals := 132, cells := 1, slots := 6 }
set_option maxHeartbeats 4000000 in
set_option maxRecDepth 20000 in
theorem w_L_entriesOf {l : Launch} (hl : l.stackTraces = false) (Θ : cTH) {Qc : cOut → GS → Prop} (a0 : Int32) (G : GS) (hM : Ct l yX11_entriesOf cX11_entriesOf 2 (some .int) rm_X11_entriesOf Θ [.ref (tR Θ 0 14), .int a0] G Qc) (hv : ∀ r G1, Qc (.inl r) G1 → ∃ x : Int32, r = some (.int x)) (hx : ∀ E G1, Qc (.inr E) G1 → E = eX) : CtH l yL_entriesOf cL_entriesOf 4 (some .int) [(0, 9, 12, 22)] rm_L_entriesOf Θ [.ref (tR Θ 0 14), .int a0, .ref (tR Θ 0 38)] G (wQ fI [eX] Qc) := by
  refine cth_of (LS := [some (.ref (tR Θ 0 14)), some (.int a0), some (.ref (tR Θ 0 38)), none]) hl (by decide +kernel) rfl rfl (Nat.le_of_ble_eq_true rfl) rfl ?_
  intro p e s m args below meth c hC hr hT
  have HX : ∀ E9 G9, Qc (.inr E9) G9 → ∃ (i : Nat) (x : ExceptionTableEntry) (nm : String), (tableOf [(0, 9, 12, 22)])[i]? = some x ∧ (∀ z ∈ (tableOf [(0, 9, 12, 22)]).take i, covers z 4 = false ∨ (z.catchType ≠ 0 ∧ ∃ nm : String, Cond.classLink RL z.catchType nm ∈ wALL ∧ (E9, nm) ∈ ncW)) ∧ covers x 4 = true ∧ x.catchType ≠ 0 ∧ Cond.classLink RL x.catchType nm ∈ wALL ∧ Cond.castable E9 nm ∈ excW ∧ ∀ q9 : Nat, V p l e rm_L_entriesOf s m args below meth c 4 Θ (wQ fI [eX] Qc) rm_L_entriesOf.cells rm_L_entriesOf.slots (0 + rm_X11_entriesOf.cells) (0 + rm_X11_entriesOf.slots) x.handlerPc [some (.ref (tR Θ 0 14)), some (.int a0), some (.ref (tR Θ 0 38)), none] [.ref q9] G9 := by
    intro E9 G9 z9
    rcases hx E9 G9 z9 with rfl
    · refine ⟨0, _, _, rfl, (fun z hz => absurd hz (by simp)), by decide, by decide, cl_RL_22, by decide, fun q9 => ?_⟩
      show V p l e rm_L_entriesOf s m args below meth c 4 Θ (wQ fI [eX] Qc) rm_L_entriesOf.cells rm_L_entriesOf.slots (0 + rm_X11_entriesOf.cells) (0 + rm_X11_entriesOf.slots) 12 [some (.ref (tR Θ 0 14)), some (.int a0), some (.ref (tR Θ 0 38)), none] [.ref q9] G9
      refine v_astore_n (i := 3) (q := 13) hC dL_entriesOf_12 rfl rfl (lvc rfl) (Nat.le_of_ble_eq_true rfl) (Nat.le_of_ble_eq_true rfl) rfl ?_
      refine v_iconst (q := 14) (v := 1) hC dL_entriesOf_13 rfl (by decide) ?_
      refine v_iret hC dL_entriesOf_14 hr (rfl) ?_ (Nat.le_of_ble_eq_true rfl) (Nat.le_of_ble_eq_true rfl)
      exact Or.inr ⟨_, _, z9, by first | rfl | (congr 3), rfl⟩
  refine v_aload_n (i := 2) (q := 1) hC dL_entriesOf_0 rfl rfl rfl ?_
  refine v_iconst (q := 2) (v := 0) hC dL_entriesOf_1 rfl (by decide) ?_
  refine v_aload_n (i := 0) (q := 3) hC dL_entriesOf_2 rfl rfl rfl ?_
  refine v_iload_n (i := 1) (q := 4) hC dL_entriesOf_3 rfl rfl rfl ?_
  refine v_callTry (q := 7) (rm := rm_X11_entriesOf) hC hT hM k_X11_entriesOf im_yX11_entriesOf se_yX11_entriesOf ml_RL_125 dL_entriesOf_4 rfl rfl rfl rfl rfl rfl (Nat.le_of_ble_eq_true rfl) ⟨Nat.le_of_ble_eq_true rfl, Nat.le_of_ble_eq_true rfl⟩ ⟨Nat.le_of_ble_eq_true rfl, Nat.le_of_ble_eq_true rfl⟩ (fun v9 G9 z9 => ?_) HX
  obtain ⟨x9, rfl⟩ := hv _ _ z9
  dsimp only [Option.toList, List.cons_append, List.nil_append]
  refine v_i2l (q := 8) hC dL_entriesOf_7 rfl ?_
  refine v_lastO (q := 9) hC dL_entriesOf_8 rfl ?_
  refine v_goto (q := 15) hC dL_entriesOf_9 (by decide) ?_
  refine v_iconst (q := 16) (v := 0) hC dL_entriesOf_15 rfl (by decide) ?_
  refine v_iret hC dL_entriesOf_16 hr (rfl) ?_ (Nat.le_of_ble_eq_true rfl) (Nat.le_of_ble_eq_true rfl)
  exact Or.inl ⟨x9, _, z9, rfl, rfl⟩
abbrev rm_L_isAllowing : Room := { frames := 9, locals := 155, cells := 2, slots := 12 }
set_option maxHeartbeats 4000000 in
set_option maxRecDepth 20000 in
theorem w_L_isAllowing {l : Launch} (hl : l.stackTraces = false) (Θ : cTH) {Qc : cOut → GS → Prop} (a0 a1 : Int32) (G : GS) (hM : Ct l yX11_isAllowing cX11_isAllowing 3 (some .boolean) rm_X11_isAllowing Θ [.ref (tR Θ 0 14), .int a0, .int a1] G Qc) (hv : ∀ r G1, Qc (.inl r) G1 → ∃ x : Int32, r = some (.int x)) (hx : ∀ E G1, Qc (.inr E) G1 → E = eX) : CtH l yL_isAllowing cL_isAllowing 5 (some .int) [(0, 17, 20, 22)] rm_L_isAllowing Θ [.ref (tR Θ 0 14), .int a0, .int a1, .ref (tR Θ 0 38)] G (wQ fZ [eX] Qc) := by
  refine cth_of (LS := [some (.ref (tR Θ 0 14)), some (.int a0), some (.int a1), some (.ref (tR Θ 0 38)), none]) hl (by decide +kernel) rfl rfl (Nat.le_of_ble_eq_true rfl) rfl ?_
  intro p e s m args below meth c hC hr hT
  have HX : ∀ E9 G9, Qc (.inr E9) G9 → ∃ (i : Nat) (x : ExceptionTableEntry) (nm : String), (tableOf [(0, 17, 20, 22)])[i]? = some x ∧ (∀ z ∈ (tableOf [(0, 17, 20, 22)]).take i, covers z 5 = false ∨ (z.catchType ≠ 0 ∧ ∃ nm : String, Cond.classLink RL z.catchType nm ∈ wALL ∧ (E9, nm) ∈ ncW)) ∧ covers x 5 = true ∧ x.catchType ≠ 0 ∧ Cond.classLink RL x.catchType nm ∈ wALL ∧ Cond.castable E9 nm ∈ excW ∧ ∀ q9 : Nat, V p l e rm_L_isAllowing s m args below meth c 5 Θ (wQ fZ [eX] Qc) rm_L_isAllowing.cells rm_L_isAllowing.slots (0 + rm_X11_isAllowing.cells) (0 + rm_X11_isAllowing.slots) x.handlerPc [some (.ref (tR Θ 0 14)), some (.int a0), some (.int a1), some (.ref (tR Θ 0 38)), none] [.ref q9] G9 := by
    intro E9 G9 z9
    rcases hx E9 G9 z9 with rfl
    · refine ⟨0, _, _, rfl, (fun z hz => absurd hz (by simp)), by decide, by decide, cl_RL_22, by decide, fun q9 => ?_⟩
      show V p l e rm_L_isAllowing s m args below meth c 5 Θ (wQ fZ [eX] Qc) rm_L_isAllowing.cells rm_L_isAllowing.slots (0 + rm_X11_isAllowing.cells) (0 + rm_X11_isAllowing.slots) 20 [some (.ref (tR Θ 0 14)), some (.int a0), some (.int a1), some (.ref (tR Θ 0 38)), none] [.ref q9] G9
      refine v_astore (q := 22) hC dL_isAllowing_20 rfl (lvc rfl) (Nat.le_of_ble_eq_true rfl) (Nat.le_of_ble_eq_true rfl) rfl ?_
      refine v_iconst (q := 23) (v := 1) hC dL_isAllowing_22 rfl (by decide) ?_
      refine v_iret hC dL_isAllowing_23 hr (rfl) ?_ (Nat.le_of_ble_eq_true rfl) (Nat.le_of_ble_eq_true rfl)
      exact Or.inr ⟨_, _, z9, by first | rfl | (congr 3), rfl⟩
  refine v_aload_n (i := 3) (q := 1) hC dL_isAllowing_0 rfl rfl rfl ?_
  refine v_iconst (q := 2) (v := 0) hC dL_isAllowing_1 rfl (by decide) ?_
  refine v_aload_n (i := 0) (q := 3) hC dL_isAllowing_2 rfl rfl rfl ?_
  refine v_iload_n (i := 1) (q := 4) hC dL_isAllowing_3 rfl rfl rfl ?_
  refine v_iload_n (i := 2) (q := 5) hC dL_isAllowing_4 rfl rfl rfl ?_
  refine v_callTry (q := 8) (rm := rm_X11_isAllowing) hC hT hM k_X11_isAllowing im_yX11_isAllowing se_yX11_isAllowing ml_RL_128 dL_isAllowing_5 rfl rfl rfl rfl rfl rfl (Nat.le_of_ble_eq_true rfl) ⟨Nat.le_of_ble_eq_true rfl, Nat.le_of_ble_eq_true rfl⟩ ⟨Nat.le_of_ble_eq_true rfl, Nat.le_of_ble_eq_true rfl⟩ (fun v9 G9 z9 => ?_) HX
  obtain ⟨x9, rfl⟩ := hv _ _ z9
  dsimp only [Option.toList, List.cons_append, List.nil_append]
  refine v_if_eq (q := 15) (q2 := 11) hC dL_isAllowing_8 (by decide) rfl (fun c_8 => ?_) (fun c_8 => ?_)
  · refine v_lconst (q := 16) (v := 0) hC dL_isAllowing_15 rfl rfl ?_
    refine v_lastO (q := 17) hC dL_isAllowing_16 rfl ?_
    refine v_goto (q := 24) hC dL_isAllowing_17 (by decide) ?_
    refine v_iconst (q := 25) (v := 0) hC dL_isAllowing_24 rfl (by decide) ?_
    refine v_iret hC dL_isAllowing_25 hr (rfl) ?_ (Nat.le_of_ble_eq_true rfl) (Nat.le_of_ble_eq_true rfl)
    refine Or.inl ⟨x9, _, z9, rfl, ?_⟩
    first | (rw [fZ, if_pos c_8]) | (rw [fZ, if_neg c_8])
  · refine v_lconst (q := 12) (v := 1) hC dL_isAllowing_11 rfl rfl ?_
    refine v_goto (q := 16) hC dL_isAllowing_12 (by decide) ?_
    refine v_lastO (q := 17) hC dL_isAllowing_16 rfl ?_
    refine v_goto (q := 24) hC dL_isAllowing_17 (by decide) ?_
    refine v_iconst (q := 25) (v := 0) hC dL_isAllowing_24 rfl (by decide) ?_
    refine v_iret hC dL_isAllowing_25 hr (rfl) ?_ (Nat.le_of_ble_eq_true rfl) (Nat.le_of_ble_eq_true rfl)
    refine Or.inl ⟨x9, _, z9, rfl, ?_⟩
    first | (rw [fZ, if_pos c_8]) | (rw [fZ, if_neg c_8])
abbrev rm_L_rightsOfEntry : Room := { frames := 9, locals := 155, cells := 2, slots := 12 }
set_option maxHeartbeats 4000000 in
set_option maxRecDepth 20000 in
theorem w_L_rightsOfEntry {l : Launch} (hl : l.stackTraces = false) (Θ : cTH) {Qc : cOut → GS → Prop} (a0 a1 : Int32) (G : GS) (hM : Ct l yX11_rightsOfEntry cX11_rightsOfEntry 3 (some .int) rm_X11_rightsOfEntry Θ [.ref (tR Θ 0 14), .int a0, .int a1] G Qc) (hv : ∀ r G1, Qc (.inl r) G1 → ∃ x : Int32, r = some (.int x)) (hx : ∀ E G1, Qc (.inr E) G1 → E = eX) : CtH l yL_rightsOfEntry cL_rightsOfEntry 5 (some .int) [(0, 10, 13, 22)] rm_L_rightsOfEntry Θ [.ref (tR Θ 0 14), .int a0, .int a1, .ref (tR Θ 0 38)] G (wQ fI [eX] Qc) := by
  refine cth_of (LS := [some (.ref (tR Θ 0 14)), some (.int a0), some (.int a1), some (.ref (tR Θ 0 38)), none]) hl (by decide +kernel) rfl rfl (Nat.le_of_ble_eq_true rfl) rfl ?_
  intro p e s m args below meth c hC hr hT
  have HX : ∀ E9 G9, Qc (.inr E9) G9 → ∃ (i : Nat) (x : ExceptionTableEntry) (nm : String), (tableOf [(0, 10, 13, 22)])[i]? = some x ∧ (∀ z ∈ (tableOf [(0, 10, 13, 22)]).take i, covers z 5 = false ∨ (z.catchType ≠ 0 ∧ ∃ nm : String, Cond.classLink RL z.catchType nm ∈ wALL ∧ (E9, nm) ∈ ncW)) ∧ covers x 5 = true ∧ x.catchType ≠ 0 ∧ Cond.classLink RL x.catchType nm ∈ wALL ∧ Cond.castable E9 nm ∈ excW ∧ ∀ q9 : Nat, V p l e rm_L_rightsOfEntry s m args below meth c 5 Θ (wQ fI [eX] Qc) rm_L_rightsOfEntry.cells rm_L_rightsOfEntry.slots (0 + rm_X11_rightsOfEntry.cells) (0 + rm_X11_rightsOfEntry.slots) x.handlerPc [some (.ref (tR Θ 0 14)), some (.int a0), some (.int a1), some (.ref (tR Θ 0 38)), none] [.ref q9] G9 := by
    intro E9 G9 z9
    rcases hx E9 G9 z9 with rfl
    · refine ⟨0, _, _, rfl, (fun z hz => absurd hz (by simp)), by decide, by decide, cl_RL_22, by decide, fun q9 => ?_⟩
      show V p l e rm_L_rightsOfEntry s m args below meth c 5 Θ (wQ fI [eX] Qc) rm_L_rightsOfEntry.cells rm_L_rightsOfEntry.slots (0 + rm_X11_rightsOfEntry.cells) (0 + rm_X11_rightsOfEntry.slots) 13 [some (.ref (tR Θ 0 14)), some (.int a0), some (.int a1), some (.ref (tR Θ 0 38)), none] [.ref q9] G9
      refine v_astore (q := 15) hC dL_rightsOfEntry_13 rfl (lvc rfl) (Nat.le_of_ble_eq_true rfl) (Nat.le_of_ble_eq_true rfl) rfl ?_
      refine v_iconst (q := 16) (v := 1) hC dL_rightsOfEntry_15 rfl (by decide) ?_
      refine v_iret hC dL_rightsOfEntry_16 hr (rfl) ?_ (Nat.le_of_ble_eq_true rfl) (Nat.le_of_ble_eq_true rfl)
      exact Or.inr ⟨_, _, z9, by first | rfl | (congr 3), rfl⟩
  refine v_aload_n (i := 3) (q := 1) hC dL_rightsOfEntry_0 rfl rfl rfl ?_
  refine v_iconst (q := 2) (v := 0) hC dL_rightsOfEntry_1 rfl (by decide) ?_
  refine v_aload_n (i := 0) (q := 3) hC dL_rightsOfEntry_2 rfl rfl rfl ?_
  refine v_iload_n (i := 1) (q := 4) hC dL_rightsOfEntry_3 rfl rfl rfl ?_
  refine v_iload_n (i := 2) (q := 5) hC dL_rightsOfEntry_4 rfl rfl rfl ?_
  refine v_callTry (q := 8) (rm := rm_X11_rightsOfEntry) hC hT hM k_X11_rightsOfEntry im_yX11_rightsOfEntry se_yX11_rightsOfEntry ml_RL_131 dL_rightsOfEntry_5 rfl rfl rfl rfl rfl rfl (Nat.le_of_ble_eq_true rfl) ⟨Nat.le_of_ble_eq_true rfl, Nat.le_of_ble_eq_true rfl⟩ ⟨Nat.le_of_ble_eq_true rfl, Nat.le_of_ble_eq_true rfl⟩ (fun v9 G9 z9 => ?_) HX
  obtain ⟨x9, rfl⟩ := hv _ _ z9
  dsimp only [Option.toList, List.cons_append, List.nil_append]
  refine v_i2l (q := 9) hC dL_rightsOfEntry_8 rfl ?_
  refine v_lastO (q := 10) hC dL_rightsOfEntry_9 rfl ?_
  refine v_goto (q := 17) hC dL_rightsOfEntry_10 (by decide) ?_
  refine v_iconst (q := 18) (v := 0) hC dL_rightsOfEntry_17 rfl (by decide) ?_
  refine v_iret hC dL_rightsOfEntry_18 hr (rfl) ?_ (Nat.le_of_ble_eq_true rfl) (Nat.le_of_ble_eq_true rfl)
  exact Or.inl ⟨x9, _, z9, rfl, rfl⟩
abbrev rm_L_userOfEntry : Room := { frames := 9, locals := 156, cells := 2, slots := 12 }
set_option maxHeartbeats 4000000 in
set_option maxRecDepth 20000 in
theorem w_L_userOfEntry {l : Launch} (hl : l.stackTraces = false) (Θ : cTH) {Qc : cOut → GS → Prop} (a0 a1 : Int32) (G : GS) (hM : Ct l yX11_userOfEntry cX11_userOfEntry 4 (some .int) rm_X11_userOfEntry Θ [.ref (tR Θ 0 14), .int a0, .int a1] G Qc) (hv : ∀ r G1, Qc (.inl r) G1 → ∃ x : Int32, r = some (.int x)) (hx : ∀ E G1, Qc (.inr E) G1 → E = eX) : CtH l yL_userOfEntry cL_userOfEntry 5 (some .int) [(0, 10, 13, 22)] rm_L_userOfEntry Θ [.ref (tR Θ 0 14), .int a0, .int a1, .ref (tR Θ 0 38)] G (wQ fI [eX] Qc) := by
  refine cth_of (LS := [some (.ref (tR Θ 0 14)), some (.int a0), some (.int a1), some (.ref (tR Θ 0 38)), none]) hl (by decide +kernel) rfl rfl (Nat.le_of_ble_eq_true rfl) rfl ?_
  intro p e s m args below meth c hC hr hT
  have HX : ∀ E9 G9, Qc (.inr E9) G9 → ∃ (i : Nat) (x : ExceptionTableEntry) (nm : String), (tableOf [(0, 10, 13, 22)])[i]? = some x ∧ (∀ z ∈ (tableOf [(0, 10, 13, 22)]).take i, covers z 5 = false ∨ (z.catchType ≠ 0 ∧ ∃ nm : String, Cond.classLink RL z.catchType nm ∈ wALL ∧ (E9, nm) ∈ ncW)) ∧ covers x 5 = true ∧ x.catchType ≠ 0 ∧ Cond.classLink RL x.catchType nm ∈ wALL ∧ Cond.castable E9 nm ∈ excW ∧ ∀ q9 : Nat, V p l e rm_L_userOfEntry s m args below meth c 5 Θ (wQ fI [eX] Qc) rm_L_userOfEntry.cells rm_L_userOfEntry.slots (0 + rm_X11_userOfEntry.cells) (0 + rm_X11_userOfEntry.slots) x.handlerPc [some (.ref (tR Θ 0 14)), some (.int a0), some (.int a1), some (.ref (tR Θ 0 38)), none] [.ref q9] G9 := by
    intro E9 G9 z9
    rcases hx E9 G9 z9 with rfl
    · refine ⟨0, _, _, rfl, (fun z hz => absurd hz (by simp)), by decide, by decide, cl_RL_22, by decide, fun q9 => ?_⟩
      show V p l e rm_L_userOfEntry s m args below meth c 5 Θ (wQ fI [eX] Qc) rm_L_userOfEntry.cells rm_L_userOfEntry.slots (0 + rm_X11_userOfEntry.cells) (0 + rm_X11_userOfEntry.slots) 13 [some (.ref (tR Θ 0 14)), some (.int a0), some (.int a1), some (.ref (tR Θ 0 38)), none] [.ref q9] G9
      refine v_astore (q := 15) hC dL_userOfEntry_13 rfl (lvc rfl) (Nat.le_of_ble_eq_true rfl) (Nat.le_of_ble_eq_true rfl) rfl ?_
      refine v_iconst (q := 16) (v := 1) hC dL_userOfEntry_15 rfl (by decide) ?_
      refine v_iret hC dL_userOfEntry_16 hr (rfl) ?_ (Nat.le_of_ble_eq_true rfl) (Nat.le_of_ble_eq_true rfl)
      exact Or.inr ⟨_, _, z9, by first | rfl | (congr 3), rfl⟩
  refine v_aload_n (i := 3) (q := 1) hC dL_userOfEntry_0 rfl rfl rfl ?_
  refine v_iconst (q := 2) (v := 0) hC dL_userOfEntry_1 rfl (by decide) ?_
  refine v_aload_n (i := 0) (q := 3) hC dL_userOfEntry_2 rfl rfl rfl ?_
  refine v_iload_n (i := 1) (q := 4) hC dL_userOfEntry_3 rfl rfl rfl ?_
  refine v_iload_n (i := 2) (q := 5) hC dL_userOfEntry_4 rfl rfl rfl ?_
  refine v_callTry (q := 8) (rm := rm_X11_userOfEntry) hC hT hM k_X11_userOfEntry im_yX11_userOfEntry se_yX11_userOfEntry ml_RL_134 dL_userOfEntry_5 rfl rfl rfl rfl rfl rfl (Nat.le_of_ble_eq_true rfl) ⟨Nat.le_of_ble_eq_true rfl, Nat.le_of_ble_eq_true rfl⟩ ⟨Nat.le_of_ble_eq_true rfl, Nat.le_of_ble_eq_true rfl⟩ (fun v9 G9 z9 => ?_) HX
  obtain ⟨x9, rfl⟩ := hv _ _ z9
  dsimp only [Option.toList, List.cons_append, List.nil_append]
  refine v_i2l (q := 9) hC dL_userOfEntry_8 rfl ?_
  refine v_lastO (q := 10) hC dL_userOfEntry_9 rfl ?_
  refine v_goto (q := 17) hC dL_userOfEntry_10 (by decide) ?_
  refine v_iconst (q := 18) (v := 0) hC dL_userOfEntry_17 rfl (by decide) ?_
  refine v_iret hC dL_userOfEntry_18 hr (rfl) ?_ (Nat.le_of_ble_eq_true rfl) (Nat.le_of_ble_eq_true rfl)
  exact Or.inl ⟨x9, _, z9, rfl, rfl⟩
abbrev rm_L_groupOfEntry : Room := { frames := 9, locals := 156, cells := 2, slots := 12 }
set_option maxHeartbeats 4000000 in
set_option maxRecDepth 20000 in
theorem w_L_groupOfEntry {l : Launch} (hl : l.stackTraces = false) (Θ : cTH) {Qc : cOut → GS → Prop} (a0 a1 : Int32) (G : GS) (hM : Ct l yX11_groupOfEntry cX11_groupOfEntry 4 (some .int) rm_X11_groupOfEntry Θ [.ref (tR Θ 0 14), .int a0, .int a1] G Qc) (hv : ∀ r G1, Qc (.inl r) G1 → ∃ x : Int32, r = some (.int x)) (hx : ∀ E G1, Qc (.inr E) G1 → E = eX) : CtH l yL_groupOfEntry cL_groupOfEntry 5 (some .int) [(0, 10, 13, 22)] rm_L_groupOfEntry Θ [.ref (tR Θ 0 14), .int a0, .int a1, .ref (tR Θ 0 38)] G (wQ fI [eX] Qc) := by
  refine cth_of (LS := [some (.ref (tR Θ 0 14)), some (.int a0), some (.int a1), some (.ref (tR Θ 0 38)), none]) hl (by decide +kernel) rfl rfl (Nat.le_of_ble_eq_true rfl) rfl ?_
  intro p e s m args below meth c hC hr hT
  have HX : ∀ E9 G9, Qc (.inr E9) G9 → ∃ (i : Nat) (x : ExceptionTableEntry) (nm : String), (tableOf [(0, 10, 13, 22)])[i]? = some x ∧ (∀ z ∈ (tableOf [(0, 10, 13, 22)]).take i, covers z 5 = false ∨ (z.catchType ≠ 0 ∧ ∃ nm : String, Cond.classLink RL z.catchType nm ∈ wALL ∧ (E9, nm) ∈ ncW)) ∧ covers x 5 = true ∧ x.catchType ≠ 0 ∧ Cond.classLink RL x.catchType nm ∈ wALL ∧ Cond.castable E9 nm ∈ excW ∧ ∀ q9 : Nat, V p l e rm_L_groupOfEntry s m args below meth c 5 Θ (wQ fI [eX] Qc) rm_L_groupOfEntry.cells rm_L_groupOfEntry.slots (0 + rm_X11_groupOfEntry.cells) (0 + rm_X11_groupOfEntry.slots) x.handlerPc [some (.ref (tR Θ 0 14)), some (.int a0), some (.int a1), some (.ref (tR Θ 0 38)), none] [.ref q9] G9 := by
    intro E9 G9 z9
    rcases hx E9 G9 z9 with rfl
    · refine ⟨0, _, _, rfl, (fun z hz => absurd hz (by simp)), by decide, by decide, cl_RL_22, by decide, fun q9 => ?_⟩
      show V p l e rm_L_groupOfEntry s m args below meth c 5 Θ (wQ fI [eX] Qc) rm_L_groupOfEntry.cells rm_L_groupOfEntry.slots (0 + rm_X11_groupOfEntry.cells) (0 + rm_X11_groupOfEntry.slots) 13 [some (.ref (tR Θ 0 14)), some (.int a0), some (.int a1), some (.ref (tR Θ 0 38)), none] [.ref q9] G9
      refine v_astore (q := 15) hC dL_groupOfEntry_13 rfl (lvc rfl) (Nat.le_of_ble_eq_true rfl) (Nat.le_of_ble_eq_true rfl) rfl ?_
      refine v_iconst (q := 16) (v := 1) hC dL_groupOfEntry_15 rfl (by decide) ?_
      refine v_iret hC dL_groupOfEntry_16 hr (rfl) ?_ (Nat.le_of_ble_eq_true rfl) (Nat.le_of_ble_eq_true rfl)
      exact Or.inr ⟨_, _, z9, by first | rfl | (congr 3), rfl⟩
  refine v_aload_n (i := 3) (q := 1) hC dL_groupOfEntry_0 rfl rfl rfl ?_
  refine v_iconst (q := 2) (v := 0) hC dL_groupOfEntry_1 rfl (by decide) ?_
  refine v_aload_n (i := 0) (q := 3) hC dL_groupOfEntry_2 rfl rfl rfl ?_
  refine v_iload_n (i := 1) (q := 4) hC dL_groupOfEntry_3 rfl rfl rfl ?_
  refine v_iload_n (i := 2) (q := 5) hC dL_groupOfEntry_4 rfl rfl rfl ?_
  refine v_callTry (q := 8) (rm := rm_X11_groupOfEntry) hC hT hM k_X11_groupOfEntry im_yX11_groupOfEntry se_yX11_groupOfEntry ml_RL_137 dL_groupOfEntry_5 rfl rfl rfl rfl rfl rfl (Nat.le_of_ble_eq_true rfl) ⟨Nat.le_of_ble_eq_true rfl, Nat.le_of_ble_eq_true rfl⟩ ⟨Nat.le_of_ble_eq_true rfl, Nat.le_of_ble_eq_true rfl⟩ (fun v9 G9 z9 => ?_) HX
  obtain ⟨x9, rfl⟩ := hv _ _ z9
  dsimp only [Option.toList, List.cons_append, List.nil_append]
  refine v_i2l (q := 9) hC dL_groupOfEntry_8 rfl ?_
  refine v_lastO (q := 10) hC dL_groupOfEntry_9 rfl ?_
  refine v_goto (q := 17) hC dL_groupOfEntry_10 (by decide) ?_
  refine v_iconst (q := 18) (v := 0) hC dL_groupOfEntry_17 rfl (by decide) ?_
  refine v_iret hC dL_groupOfEntry_18 hr (rfl) ?_ (Nat.le_of_ble_eq_true rfl) (Nat.le_of_ble_eq_true rfl)
  exact Or.inl ⟨x9, _, z9, rfl, rfl⟩
abbrev rm_L_isForOwner : Room := { frames := 9, locals := 155, cells := 2, slots := 12 }
set_option maxHeartbeats 4000000 in
set_option maxRecDepth 20000 in
theorem w_L_isForOwner {l : Launch} (hl : l.stackTraces = false) (Θ : cTH) {Qc : cOut → GS → Prop} (a0 a1 : Int32) (G : GS) (hM : Ct l yX11_isForOwner cX11_isForOwner 3 (some .boolean) rm_X11_isForOwner Θ [.ref (tR Θ 0 14), .int a0, .int a1] G Qc) (hv : ∀ r G1, Qc (.inl r) G1 → ∃ x : Int32, r = some (.int x)) (hx : ∀ E G1, Qc (.inr E) G1 → E = eX) : CtH l yL_isForOwner cL_isForOwner 5 (some .int) [(0, 17, 20, 22)] rm_L_isForOwner Θ [.ref (tR Θ 0 14), .int a0, .int a1, .ref (tR Θ 0 38)] G (wQ fZ [eX] Qc) := by
  refine cth_of (LS := [some (.ref (tR Θ 0 14)), some (.int a0), some (.int a1), some (.ref (tR Θ 0 38)), none]) hl (by decide +kernel) rfl rfl (Nat.le_of_ble_eq_true rfl) rfl ?_
  intro p e s m args below meth c hC hr hT
  have HX : ∀ E9 G9, Qc (.inr E9) G9 → ∃ (i : Nat) (x : ExceptionTableEntry) (nm : String), (tableOf [(0, 17, 20, 22)])[i]? = some x ∧ (∀ z ∈ (tableOf [(0, 17, 20, 22)]).take i, covers z 5 = false ∨ (z.catchType ≠ 0 ∧ ∃ nm : String, Cond.classLink RL z.catchType nm ∈ wALL ∧ (E9, nm) ∈ ncW)) ∧ covers x 5 = true ∧ x.catchType ≠ 0 ∧ Cond.classLink RL x.catchType nm ∈ wALL ∧ Cond.castable E9 nm ∈ excW ∧ ∀ q9 : Nat, V p l e rm_L_isForOwner s m args below meth c 5 Θ (wQ fZ [eX] Qc) rm_L_isForOwner.cells rm_L_isForOwner.slots (0 + rm_X11_isForOwner.cells) (0 + rm_X11_isForOwner.slots) x.handlerPc [some (.ref (tR Θ 0 14)), some (.int a0), some (.int a1), some (.ref (tR Θ 0 38)), none] [.ref q9] G9 := by
    intro E9 G9 z9
    rcases hx E9 G9 z9 with rfl
    · refine ⟨0, _, _, rfl, (fun z hz => absurd hz (by simp)), by decide, by decide, cl_RL_22, by decide, fun q9 => ?_⟩
      show V p l e rm_L_isForOwner s m args below meth c 5 Θ (wQ fZ [eX] Qc) rm_L_isForOwner.cells rm_L_isForOwner.slots (0 + rm_X11_isForOwner.cells) (0 + rm_X11_isForOwner.slots) 20 [some (.ref (tR Θ 0 14)), some (.int a0), some (.int a1), some (.ref (tR Θ 0 38)), none] [.ref q9] G9
      refine v_astore (q := 22) hC dL_isForOwner_20 rfl (lvc rfl) (Nat.le_of_ble_eq_true rfl) (Nat.le_of_ble_eq_true rfl) rfl ?_
      refine v_iconst (q := 23) (v := 1) hC dL_isForOwner_22 rfl (by decide) ?_
      refine v_iret hC dL_isForOwner_23 hr (rfl) ?_ (Nat.le_of_ble_eq_true rfl) (Nat.le_of_ble_eq_true rfl)
      exact Or.inr ⟨_, _, z9, by first | rfl | (congr 3), rfl⟩
  refine v_aload_n (i := 3) (q := 1) hC dL_isForOwner_0 rfl rfl rfl ?_
  refine v_iconst (q := 2) (v := 0) hC dL_isForOwner_1 rfl (by decide) ?_
  refine v_aload_n (i := 0) (q := 3) hC dL_isForOwner_2 rfl rfl rfl ?_
  refine v_iload_n (i := 1) (q := 4) hC dL_isForOwner_3 rfl rfl rfl ?_
  refine v_iload_n (i := 2) (q := 5) hC dL_isForOwner_4 rfl rfl rfl ?_
  refine v_callTry (q := 8) (rm := rm_X11_isForOwner) hC hT hM k_X11_isForOwner im_yX11_isForOwner se_yX11_isForOwner ml_RL_140 dL_isForOwner_5 rfl rfl rfl rfl rfl rfl (Nat.le_of_ble_eq_true rfl) ⟨Nat.le_of_ble_eq_true rfl, Nat.le_of_ble_eq_true rfl⟩ ⟨Nat.le_of_ble_eq_true rfl, Nat.le_of_ble_eq_true rfl⟩ (fun v9 G9 z9 => ?_) HX
  obtain ⟨x9, rfl⟩ := hv _ _ z9
  dsimp only [Option.toList, List.cons_append, List.nil_append]
  refine v_if_eq (q := 15) (q2 := 11) hC dL_isForOwner_8 (by decide) rfl (fun c_8 => ?_) (fun c_8 => ?_)
  · refine v_lconst (q := 16) (v := 0) hC dL_isForOwner_15 rfl rfl ?_
    refine v_lastO (q := 17) hC dL_isForOwner_16 rfl ?_
    refine v_goto (q := 24) hC dL_isForOwner_17 (by decide) ?_
    refine v_iconst (q := 25) (v := 0) hC dL_isForOwner_24 rfl (by decide) ?_
    refine v_iret hC dL_isForOwner_25 hr (rfl) ?_ (Nat.le_of_ble_eq_true rfl) (Nat.le_of_ble_eq_true rfl)
    refine Or.inl ⟨x9, _, z9, rfl, ?_⟩
    first | (rw [fZ, if_pos c_8]) | (rw [fZ, if_neg c_8])
  · refine v_lconst (q := 12) (v := 1) hC dL_isForOwner_11 rfl rfl ?_
    refine v_goto (q := 16) hC dL_isForOwner_12 (by decide) ?_
    refine v_lastO (q := 17) hC dL_isForOwner_16 rfl ?_
    refine v_goto (q := 24) hC dL_isForOwner_17 (by decide) ?_
    refine v_iconst (q := 25) (v := 0) hC dL_isForOwner_24 rfl (by decide) ?_
    refine v_iret hC dL_isForOwner_25 hr (rfl) ?_ (Nat.le_of_ble_eq_true rfl) (Nat.le_of_ble_eq_true rfl)
    refine Or.inl ⟨x9, _, z9, rfl, ?_⟩
    first | (rw [fZ, if_pos c_8]) | (rw [fZ, if_neg c_8])
abbrev rm_L_isForBelow : Room := { frames := 9, locals := 155, cells := 2, slots := 12 }
set_option maxHeartbeats 4000000 in
set_option maxRecDepth 20000 in
theorem w_L_isForBelow {l : Launch} (hl : l.stackTraces = false) (Θ : cTH) {Qc : cOut → GS → Prop} (a0 a1 : Int32) (G : GS) (hM : Ct l yX11_isForBelow cX11_isForBelow 3 (some .boolean) rm_X11_isForBelow Θ [.ref (tR Θ 0 14), .int a0, .int a1] G Qc) (hv : ∀ r G1, Qc (.inl r) G1 → ∃ x : Int32, r = some (.int x)) (hx : ∀ E G1, Qc (.inr E) G1 → E = eX) : CtH l yL_isForBelow cL_isForBelow 5 (some .int) [(0, 17, 20, 22)] rm_L_isForBelow Θ [.ref (tR Θ 0 14), .int a0, .int a1, .ref (tR Θ 0 38)] G (wQ fZ [eX] Qc) := by
  refine cth_of (LS := [some (.ref (tR Θ 0 14)), some (.int a0), some (.int a1), some (.ref (tR Θ 0 38)), none]) hl (by decide +kernel) rfl rfl (Nat.le_of_ble_eq_true rfl) rfl ?_
  intro p e s m args below meth c hC hr hT
  have HX : ∀ E9 G9, Qc (.inr E9) G9 → ∃ (i : Nat) (x : ExceptionTableEntry) (nm : String), (tableOf [(0, 17, 20, 22)])[i]? = some x ∧ (∀ z ∈ (tableOf [(0, 17, 20, 22)]).take i, covers z 5 = false ∨ (z.catchType ≠ 0 ∧ ∃ nm : String, Cond.classLink RL z.catchType nm ∈ wALL ∧ (E9, nm) ∈ ncW)) ∧ covers x 5 = true ∧ x.catchType ≠ 0 ∧ Cond.classLink RL x.catchType nm ∈ wALL ∧ Cond.castable E9 nm ∈ excW ∧ ∀ q9 : Nat, V p l e rm_L_isForBelow s m args below meth c 5 Θ (wQ fZ [eX] Qc) rm_L_isForBelow.cells rm_L_isForBelow.slots (0 + rm_X11_isForBelow.cells) (0 + rm_X11_isForBelow.slots) x.handlerPc [some (.ref (tR Θ 0 14)), some (.int a0), some (.int a1), some (.ref (tR Θ 0 38)), none] [.ref q9] G9 := by
    intro E9 G9 z9
    rcases hx E9 G9 z9 with rfl
    · refine ⟨0, _, _, rfl, (fun z hz => absurd hz (by simp)), by decide, by decide, cl_RL_22, by decide, fun q9 => ?_⟩
      show V p l e rm_L_isForBelow s m args below meth c 5 Θ (wQ fZ [eX] Qc) rm_L_isForBelow.cells rm_L_isForBelow.slots (0 + rm_X11_isForBelow.cells) (0 + rm_X11_isForBelow.slots) 20 [some (.ref (tR Θ 0 14)), some (.int a0), some (.int a1), some (.ref (tR Θ 0 38)), none] [.ref q9] G9
      refine v_astore (q := 22) hC dL_isForBelow_20 rfl (lvc rfl) (Nat.le_of_ble_eq_true rfl) (Nat.le_of_ble_eq_true rfl) rfl ?_
      refine v_iconst (q := 23) (v := 1) hC dL_isForBelow_22 rfl (by decide) ?_
      refine v_iret hC dL_isForBelow_23 hr (rfl) ?_ (Nat.le_of_ble_eq_true rfl) (Nat.le_of_ble_eq_true rfl)
      exact Or.inr ⟨_, _, z9, by first | rfl | (congr 3), rfl⟩
  refine v_aload_n (i := 3) (q := 1) hC dL_isForBelow_0 rfl rfl rfl ?_
  refine v_iconst (q := 2) (v := 0) hC dL_isForBelow_1 rfl (by decide) ?_
  refine v_aload_n (i := 0) (q := 3) hC dL_isForBelow_2 rfl rfl rfl ?_
  refine v_iload_n (i := 1) (q := 4) hC dL_isForBelow_3 rfl rfl rfl ?_
  refine v_iload_n (i := 2) (q := 5) hC dL_isForBelow_4 rfl rfl rfl ?_
  refine v_callTry (q := 8) (rm := rm_X11_isForBelow) hC hT hM k_X11_isForBelow im_yX11_isForBelow se_yX11_isForBelow ml_RL_143 dL_isForBelow_5 rfl rfl rfl rfl rfl rfl (Nat.le_of_ble_eq_true rfl) ⟨Nat.le_of_ble_eq_true rfl, Nat.le_of_ble_eq_true rfl⟩ ⟨Nat.le_of_ble_eq_true rfl, Nat.le_of_ble_eq_true rfl⟩ (fun v9 G9 z9 => ?_) HX
  obtain ⟨x9, rfl⟩ := hv _ _ z9
  dsimp only [Option.toList, List.cons_append, List.nil_append]
  refine v_if_eq (q := 15) (q2 := 11) hC dL_isForBelow_8 (by decide) rfl (fun c_8 => ?_) (fun c_8 => ?_)
  · refine v_lconst (q := 16) (v := 0) hC dL_isForBelow_15 rfl rfl ?_
    refine v_lastO (q := 17) hC dL_isForBelow_16 rfl ?_
    refine v_goto (q := 24) hC dL_isForBelow_17 (by decide) ?_
    refine v_iconst (q := 25) (v := 0) hC dL_isForBelow_24 rfl (by decide) ?_
    refine v_iret hC dL_isForBelow_25 hr (rfl) ?_ (Nat.le_of_ble_eq_true rfl) (Nat.le_of_ble_eq_true rfl)
    refine Or.inl ⟨x9, _, z9, rfl, ?_⟩
    first | (rw [fZ, if_pos c_8]) | (rw [fZ, if_neg c_8])
  · refine v_lconst (q := 12) (v := 1) hC dL_isForBelow_11 rfl rfl ?_
    refine v_goto (q := 16) hC dL_isForBelow_12 (by decide) ?_
    refine v_lastO (q := 17) hC dL_isForBelow_16 rfl ?_
    refine v_goto (q := 24) hC dL_isForBelow_17 (by decide) ?_
    refine v_iconst (q := 25) (v := 0) hC dL_isForBelow_24 rfl (by decide) ?_
    refine v_iret hC dL_isForBelow_25 hr (rfl) ?_ (Nat.le_of_ble_eq_true rfl) (Nat.le_of_ble_eq_true rfl)
    refine Or.inl ⟨x9, _, z9, rfl, ?_⟩
    first | (rw [fZ, if_pos c_8]) | (rw [fZ, if_neg c_8])
abbrev rm_L_isAllowed : Room := { frames := 8, locals := 171, cells := 3, slots := 18 }
set_option maxHeartbeats 4000000 in
set_option maxRecDepth 20000 in
theorem w_L_isAllowed {l : Launch} (hl : l.stackTraces = false) (Θ : cTH) {Qc : cOut → GS → Prop} (a0 a1 a2 : Int32) (G : GS) (hM : Ct l yX11_isAllowed cX11_isAllowed 4 (some .boolean) rm_X11_isAllowed Θ [.ref (tR Θ 0 14), .int a0, .int a1, .int a2] G Qc) (hv : ∀ r G1, Qc (.inl r) G1 → ∃ x : Int32, r = some (.int x)) (hx : ∀ E G1, Qc (.inr E) G1 → E = eX ∨ E = eA) : CtH l yL_isAllowed cL_isAllowed 6 (some .int) [(0, 19, 22, 22), (0, 19, 26, 49)] rm_L_isAllowed Θ [.ref (tR Θ 0 14), .int a0, .int a1, .int a2, .ref (tR Θ 0 38)] G (wQ fZ [eX, eA] Qc) := by
  refine cth_of (LS := [some (.ref (tR Θ 0 14)), some (.int a0), some (.int a1), some (.int a2), some (.ref (tR Θ 0 38)), none]) hl (by decide +kernel) rfl rfl (Nat.le_of_ble_eq_true rfl) rfl ?_
  intro p e s m args below meth c hC hr hT
  have HX : ∀ E9 G9, Qc (.inr E9) G9 → ∃ (i : Nat) (x : ExceptionTableEntry) (nm : String), (tableOf [(0, 19, 22, 22), (0, 19, 26, 49)])[i]? = some x ∧ (∀ z ∈ (tableOf [(0, 19, 22, 22), (0, 19, 26, 49)]).take i, covers z 7 = false ∨ (z.catchType ≠ 0 ∧ ∃ nm : String, Cond.classLink RL z.catchType nm ∈ wALL ∧ (E9, nm) ∈ ncW)) ∧ covers x 7 = true ∧ x.catchType ≠ 0 ∧ Cond.classLink RL x.catchType nm ∈ wALL ∧ Cond.castable E9 nm ∈ excW ∧ ∀ q9 : Nat, V p l e rm_L_isAllowed s m args below meth c 6 Θ (wQ fZ [eX, eA] Qc) rm_L_isAllowed.cells rm_L_isAllowed.slots (0 + rm_X11_isAllowed.cells) (0 + rm_X11_isAllowed.slots) x.handlerPc [some (.ref (tR Θ 0 14)), some (.int a0), some (.int a1), some (.int a2), some (.ref (tR Θ 0 38)), none] [.ref q9] G9 := by
    intro E9 G9 z9
    rcases hx E9 G9 z9 with rfl | rfl
    · refine ⟨0, _, _, rfl, (fun z hz => absurd hz (by simp)), by decide, by decide, cl_RL_22, by decide, fun q9 => ?_⟩
      show V p l e rm_L_isAllowed s m args below meth c 6 Θ (wQ fZ [eX, eA] Qc) rm_L_isAllowed.cells rm_L_isAllowed.slots (0 + rm_X11_isAllowed.cells) (0 + rm_X11_isAllowed.slots) 22 [some (.ref (tR Θ 0 14)), some (.int a0), some (.int a1), some (.int a2), some (.ref (tR Θ 0 38)), none] [.ref q9] G9
      refine v_astore (q := 24) hC dL_isAllowed_22 rfl (lvc rfl) (Nat.le_of_ble_eq_true rfl) (Nat.le_of_ble_eq_true rfl) rfl ?_
      refine v_iconst (q := 25) (v := 1) hC dL_isAllowed_24 rfl (by decide) ?_
      refine v_iret hC dL_isAllowed_25 hr (rfl) ?_ (Nat.le_of_ble_eq_true rfl) (Nat.le_of_ble_eq_true rfl)
      exact Or.inr ⟨_, _, z9, by first | rfl | (congr 3), rfl⟩
    · refine ⟨1, _, _, rfl, (List.forall_mem_cons.mpr ⟨Or.inr ⟨by decide, _, cl_RL_22, by decide⟩, List.forall_mem_nil _⟩), by decide, by decide, cl_RL_49, by decide, fun q9 => ?_⟩
      show V p l e rm_L_isAllowed s m args below meth c 6 Θ (wQ fZ [eX, eA] Qc) rm_L_isAllowed.cells rm_L_isAllowed.slots (0 + rm_X11_isAllowed.cells) (0 + rm_X11_isAllowed.slots) 26 [some (.ref (tR Θ 0 14)), some (.int a0), some (.int a1), some (.int a2), some (.ref (tR Θ 0 38)), none] [.ref q9] G9
      refine v_astore (q := 28) hC dL_isAllowed_26 rfl (lvc rfl) (Nat.le_of_ble_eq_true rfl) (Nat.le_of_ble_eq_true rfl) rfl ?_
      refine v_iconst (q := 29) (v := 2) hC dL_isAllowed_28 rfl (by decide) ?_
      refine v_iret hC dL_isAllowed_29 hr (rfl) ?_ (Nat.le_of_ble_eq_true rfl) (Nat.le_of_ble_eq_true rfl)
      exact Or.inr ⟨_, _, z9, by first | rfl | (congr 3), rfl⟩
  refine v_aload (q := 2) hC dL_isAllowed_0 rfl rfl ?_
  refine v_iconst (q := 3) (v := 0) hC dL_isAllowed_2 rfl (by decide) ?_
  refine v_aload_n (i := 0) (q := 4) hC dL_isAllowed_3 rfl rfl rfl ?_
  refine v_iload_n (i := 1) (q := 5) hC dL_isAllowed_4 rfl rfl rfl ?_
  refine v_iload_n (i := 2) (q := 6) hC dL_isAllowed_5 rfl rfl rfl ?_
  refine v_iload_n (i := 3) (q := 7) hC dL_isAllowed_6 rfl rfl rfl ?_
  refine v_callTry (q := 10) (rm := rm_X11_isAllowed) hC hT hM k_X11_isAllowed im_yX11_isAllowed se_yX11_isAllowed ml_RL_146 dL_isAllowed_7 rfl rfl rfl rfl rfl rfl (Nat.le_of_ble_eq_true rfl) ⟨Nat.le_of_ble_eq_true rfl, Nat.le_of_ble_eq_true rfl⟩ ⟨Nat.le_of_ble_eq_true rfl, Nat.le_of_ble_eq_true rfl⟩ (fun v9 G9 z9 => ?_) HX
  obtain ⟨x9, rfl⟩ := hv _ _ z9
  dsimp only [Option.toList, List.cons_append, List.nil_append]
  refine v_if_eq (q := 17) (q2 := 13) hC dL_isAllowed_10 (by decide) rfl (fun c_10 => ?_) (fun c_10 => ?_)
  · refine v_lconst (q := 18) (v := 0) hC dL_isAllowed_17 rfl rfl ?_
    refine v_lastO (q := 19) hC dL_isAllowed_18 rfl ?_
    refine v_goto (q := 30) hC dL_isAllowed_19 (by decide) ?_
    refine v_iconst (q := 31) (v := 0) hC dL_isAllowed_30 rfl (by decide) ?_
    refine v_iret hC dL_isAllowed_31 hr (rfl) ?_ (Nat.le_of_ble_eq_true rfl) (Nat.le_of_ble_eq_true rfl)
    refine Or.inl ⟨x9, _, z9, rfl, ?_⟩
    first | (rw [fZ, if_pos c_10]) | (rw [fZ, if_neg c_10])
  · refine v_lconst (q := 14) (v := 1) hC dL_isAllowed_13 rfl rfl ?_
    refine v_goto (q := 18) hC dL_isAllowed_14 (by decide) ?_
    refine v_lastO (q := 19) hC dL_isAllowed_18 rfl ?_
    refine v_goto (q := 30) hC dL_isAllowed_19 (by decide) ?_
    refine v_iconst (q := 31) (v := 0) hC dL_isAllowed_30 rfl (by decide) ?_
    refine v_iret hC dL_isAllowed_31 hr (rfl) ?_ (Nat.le_of_ble_eq_true rfl) (Nat.le_of_ble_eq_true rfl)
    refine Or.inl ⟨x9, _, z9, rfl, ?_⟩
    first | (rw [fZ, if_pos c_10]) | (rw [fZ, if_neg c_10])
abbrev rm_L_isAllowedByHandingDown : Room := { frames := 8, locals := 142, cells := 3, slots := 18 }
set_option maxHeartbeats 4000000 in
set_option maxRecDepth 20000 in
theorem w_L_isAllowedByHandingDown {l : Launch} (hl : l.stackTraces = false) (Θ : cTH) {Qc : cOut → GS → Prop} (a0 a1 a2 : Int32) (G : GS) (hM : Ct l yX11_isAllowedByHandingDown cX11_isAllowedByHandingDown 4 (some .boolean) rm_X11_isAllowedByHandingDown Θ [.ref (tR Θ 0 14), .int a0, .int a1, .int a2] G Qc) (hv : ∀ r G1, Qc (.inl r) G1 → ∃ x : Int32, r = some (.int x)) (hx : ∀ E G1, Qc (.inr E) G1 → E = eX ∨ E = eA) : CtH l yL_isAllowedByHandingDown cL_isAllowedByHandingDown 6 (some .int) [(0, 19, 22, 22), (0, 19, 26, 49)] rm_L_isAllowedByHandingDown Θ [.ref (tR Θ 0 14), .int a0, .int a1, .int a2, .ref (tR Θ 0 38)] G (wQ fZ [eX, eA] Qc) := by
  refine cth_of (LS := [some (.ref (tR Θ 0 14)), some (.int a0), some (.int a1), some (.int a2), some (.ref (tR Θ 0 38)), none]) hl (by decide +kernel) rfl rfl (Nat.le_of_ble_eq_true rfl) rfl ?_
  intro p e s m args below meth c hC hr hT
  have HX : ∀ E9 G9, Qc (.inr E9) G9 → ∃ (i : Nat) (x : ExceptionTableEntry) (nm : String), (tableOf [(0, 19, 22, 22), (0, 19, 26, 49)])[i]? = some x ∧ (∀ z ∈ (tableOf [(0, 19, 22, 22), (0, 19, 26, 49)]).take i, covers z 7 = false ∨ (z.catchType ≠ 0 ∧ ∃ nm : String, Cond.classLink RL z.catchType nm ∈ wALL ∧ (E9, nm) ∈ ncW)) ∧ covers x 7 = true ∧ x.catchType ≠ 0 ∧ Cond.classLink RL x.catchType nm ∈ wALL ∧ Cond.castable E9 nm ∈ excW ∧ ∀ q9 : Nat, V p l e rm_L_isAllowedByHandingDown s m args below meth c 6 Θ (wQ fZ [eX, eA] Qc) rm_L_isAllowedByHandingDown.cells rm_L_isAllowedByHandingDown.slots (0 + rm_X11_isAllowedByHandingDown.cells) (0 + rm_X11_isAllowedByHandingDown.slots) x.handlerPc [some (.ref (tR Θ 0 14)), some (.int a0), some (.int a1), some (.int a2), some (.ref (tR Θ 0 38)), none] [.ref q9] G9 := by
    intro E9 G9 z9
    rcases hx E9 G9 z9 with rfl | rfl
    · refine ⟨0, _, _, rfl, (fun z hz => absurd hz (by simp)), by decide, by decide, cl_RL_22, by decide, fun q9 => ?_⟩
      show V p l e rm_L_isAllowedByHandingDown s m args below meth c 6 Θ (wQ fZ [eX, eA] Qc) rm_L_isAllowedByHandingDown.cells rm_L_isAllowedByHandingDown.slots (0 + rm_X11_isAllowedByHandingDown.cells) (0 + rm_X11_isAllowedByHandingDown.slots) 22 [some (.ref (tR Θ 0 14)), some (.int a0), some (.int a1), some (.int a2), some (.ref (tR Θ 0 38)), none] [.ref q9] G9
      refine v_astore (q := 24) hC dL_isAllowedByHandingDown_22 rfl (lvc rfl) (Nat.le_of_ble_eq_true rfl) (Nat.le_of_ble_eq_true rfl) rfl ?_
      refine v_iconst (q := 25) (v := 1) hC dL_isAllowedByHandingDown_24 rfl (by decide) ?_
      refine v_iret hC dL_isAllowedByHandingDown_25 hr (rfl) ?_ (Nat.le_of_ble_eq_true rfl) (Nat.le_of_ble_eq_true rfl)
      exact Or.inr ⟨_, _, z9, by first | rfl | (congr 3), rfl⟩
    · refine ⟨1, _, _, rfl, (List.forall_mem_cons.mpr ⟨Or.inr ⟨by decide, _, cl_RL_22, by decide⟩, List.forall_mem_nil _⟩), by decide, by decide, cl_RL_49, by decide, fun q9 => ?_⟩
      show V p l e rm_L_isAllowedByHandingDown s m args below meth c 6 Θ (wQ fZ [eX, eA] Qc) rm_L_isAllowedByHandingDown.cells rm_L_isAllowedByHandingDown.slots (0 + rm_X11_isAllowedByHandingDown.cells) (0 + rm_X11_isAllowedByHandingDown.slots) 26 [some (.ref (tR Θ 0 14)), some (.int a0), some (.int a1), some (.int a2), some (.ref (tR Θ 0 38)), none] [.ref q9] G9
      refine v_astore (q := 28) hC dL_isAllowedByHandingDown_26 rfl (lvc rfl) (Nat.le_of_ble_eq_true rfl) (Nat.le_of_ble_eq_true rfl) rfl ?_
      refine v_iconst (q := 29) (v := 2) hC dL_isAllowedByHandingDown_28 rfl (by decide) ?_
      refine v_iret hC dL_isAllowedByHandingDown_29 hr (rfl) ?_ (Nat.le_of_ble_eq_true rfl) (Nat.le_of_ble_eq_true rfl)
      exact Or.inr ⟨_, _, z9, by first | rfl | (congr 3), rfl⟩
  refine v_aload (q := 2) hC dL_isAllowedByHandingDown_0 rfl rfl ?_
  refine v_iconst (q := 3) (v := 0) hC dL_isAllowedByHandingDown_2 rfl (by decide) ?_
  refine v_aload_n (i := 0) (q := 4) hC dL_isAllowedByHandingDown_3 rfl rfl rfl ?_
  refine v_iload_n (i := 1) (q := 5) hC dL_isAllowedByHandingDown_4 rfl rfl rfl ?_
  refine v_iload_n (i := 2) (q := 6) hC dL_isAllowedByHandingDown_5 rfl rfl rfl ?_
  refine v_iload_n (i := 3) (q := 7) hC dL_isAllowedByHandingDown_6 rfl rfl rfl ?_
  refine v_callTry (q := 10) (rm := rm_X11_isAllowedByHandingDown) hC hT hM k_X11_isAllowedByHandingDown im_yX11_isAllowedByHandingDown se_yX11_isAllowedByHandingDown ml_RL_149 dL_isAllowedByHandingDown_7 rfl rfl rfl rfl rfl rfl (Nat.le_of_ble_eq_true rfl) ⟨Nat.le_of_ble_eq_true rfl, Nat.le_of_ble_eq_true rfl⟩ ⟨Nat.le_of_ble_eq_true rfl, Nat.le_of_ble_eq_true rfl⟩ (fun v9 G9 z9 => ?_) HX
  obtain ⟨x9, rfl⟩ := hv _ _ z9
  dsimp only [Option.toList, List.cons_append, List.nil_append]
  refine v_if_eq (q := 17) (q2 := 13) hC dL_isAllowedByHandingDown_10 (by decide) rfl (fun c_10 => ?_) (fun c_10 => ?_)
  · refine v_lconst (q := 18) (v := 0) hC dL_isAllowedByHandingDown_17 rfl rfl ?_
    refine v_lastO (q := 19) hC dL_isAllowedByHandingDown_18 rfl ?_
    refine v_goto (q := 30) hC dL_isAllowedByHandingDown_19 (by decide) ?_
    refine v_iconst (q := 31) (v := 0) hC dL_isAllowedByHandingDown_30 rfl (by decide) ?_
    refine v_iret hC dL_isAllowedByHandingDown_31 hr (rfl) ?_ (Nat.le_of_ble_eq_true rfl) (Nat.le_of_ble_eq_true rfl)
    refine Or.inl ⟨x9, _, z9, rfl, ?_⟩
    first | (rw [fZ, if_pos c_10]) | (rw [fZ, if_neg c_10])
  · refine v_lconst (q := 14) (v := 1) hC dL_isAllowedByHandingDown_13 rfl rfl ?_
    refine v_goto (q := 18) hC dL_isAllowedByHandingDown_14 (by decide) ?_
    refine v_lastO (q := 19) hC dL_isAllowedByHandingDown_18 rfl ?_
    refine v_goto (q := 30) hC dL_isAllowedByHandingDown_19 (by decide) ?_
    refine v_iconst (q := 31) (v := 0) hC dL_isAllowedByHandingDown_30 rfl (by decide) ?_
    refine v_iret hC dL_isAllowedByHandingDown_31 hr (rfl) ?_ (Nat.le_of_ble_eq_true rfl) (Nat.le_of_ble_eq_true rfl)
    refine Or.inl ⟨x9, _, z9, rfl, ?_⟩
    first | (rw [fZ, if_pos c_10]) | (rw [fZ, if_neg c_10])
abbrev rm_L_rightsOf : Room := { frames := 8, locals := 146, cells := 2, slots := 12 }
set_option maxHeartbeats 4000000 in
set_option maxRecDepth 20000 in
theorem w_L_rightsOf {l : Launch} (hl : l.stackTraces = false) (Θ : cTH) {Qc : cOut → GS → Prop} (a0 a1 : Int32) (G : GS) (hM : Ct l yX11_rightsOf cX11_rightsOf 3 (some .int) rm_X11_rightsOf Θ [.ref (tR Θ 0 14), .int a0, .int a1] G Qc) (hv : ∀ r G1, Qc (.inl r) G1 → ∃ x : Int32, r = some (.int x)) (hx : ∀ E G1, Qc (.inr E) G1 → E = eX) : CtH l yL_rightsOf cL_rightsOf 5 (some .int) [(0, 10, 13, 22)] rm_L_rightsOf Θ [.ref (tR Θ 0 14), .int a0, .int a1, .ref (tR Θ 0 38)] G (wQ fI [eX] Qc) := by
  refine cth_of (LS := [some (.ref (tR Θ 0 14)), some (.int a0), some (.int a1), some (.ref (tR Θ 0 38)), none]) hl (by decide +kernel) rfl rfl (Nat.le_of_ble_eq_true rfl) rfl ?_
  intro p e s m args below meth c hC hr hT
  have HX : ∀ E9 G9, Qc (.inr E9) G9 → ∃ (i : Nat) (x : ExceptionTableEntry) (nm : String), (tableOf [(0, 10, 13, 22)])[i]? = some x ∧ (∀ z ∈ (tableOf [(0, 10, 13, 22)]).take i, covers z 5 = false ∨ (z.catchType ≠ 0 ∧ ∃ nm : String, Cond.classLink RL z.catchType nm ∈ wALL ∧ (E9, nm) ∈ ncW)) ∧ covers x 5 = true ∧ x.catchType ≠ 0 ∧ Cond.classLink RL x.catchType nm ∈ wALL ∧ Cond.castable E9 nm ∈ excW ∧ ∀ q9 : Nat, V p l e rm_L_rightsOf s m args below meth c 5 Θ (wQ fI [eX] Qc) rm_L_rightsOf.cells rm_L_rightsOf.slots (0 + rm_X11_rightsOf.cells) (0 + rm_X11_rightsOf.slots) x.handlerPc [some (.ref (tR Θ 0 14)), some (.int a0), some (.int a1), some (.ref (tR Θ 0 38)), none] [.ref q9] G9 := by
    intro E9 G9 z9
    rcases hx E9 G9 z9 with rfl
    · refine ⟨0, _, _, rfl, (fun z hz => absurd hz (by simp)), by decide, by decide, cl_RL_22, by decide, fun q9 => ?_⟩
      show V p l e rm_L_rightsOf s m args below meth c 5 Θ (wQ fI [eX] Qc) rm_L_rightsOf.cells rm_L_rightsOf.slots (0 + rm_X11_rightsOf.cells) (0 + rm_X11_rightsOf.slots) 13 [some (.ref (tR Θ 0 14)), some (.int a0), some (.int a1), some (.ref (tR Θ 0 38)), none] [.ref q9] G9
      refine v_astore (q := 15) hC dL_rightsOf_13 rfl (lvc rfl) (Nat.le_of_ble_eq_true rfl) (Nat.le_of_ble_eq_true rfl) rfl ?_
      refine v_iconst (q := 16) (v := 1) hC dL_rightsOf_15 rfl (by decide) ?_
      refine v_iret hC dL_rightsOf_16 hr (rfl) ?_ (Nat.le_of_ble_eq_true rfl) (Nat.le_of_ble_eq_true rfl)
      exact Or.inr ⟨_, _, z9, by first | rfl | (congr 3), rfl⟩
  refine v_aload_n (i := 3) (q := 1) hC dL_rightsOf_0 rfl rfl rfl ?_
  refine v_iconst (q := 2) (v := 0) hC dL_rightsOf_1 rfl (by decide) ?_
  refine v_aload_n (i := 0) (q := 3) hC dL_rightsOf_2 rfl rfl rfl ?_
  refine v_iload_n (i := 1) (q := 4) hC dL_rightsOf_3 rfl rfl rfl ?_
  refine v_iload_n (i := 2) (q := 5) hC dL_rightsOf_4 rfl rfl rfl ?_
  refine v_callTry (q := 8) (rm := rm_X11_rightsOf) hC hT hM k_X11_rightsOf im_yX11_rightsOf se_yX11_rightsOf ml_RL_152 dL_rightsOf_5 rfl rfl rfl rfl rfl rfl (Nat.le_of_ble_eq_true rfl) ⟨Nat.le_of_ble_eq_true rfl, Nat.le_of_ble_eq_true rfl⟩ ⟨Nat.le_of_ble_eq_true rfl, Nat.le_of_ble_eq_true rfl⟩ (fun v9 G9 z9 => ?_) HX
  obtain ⟨x9, rfl⟩ := hv _ _ z9
  dsimp only [Option.toList, List.cons_append, List.nil_append]
  refine v_i2l (q := 9) hC dL_rightsOf_8 rfl ?_
  refine v_lastO (q := 10) hC dL_rightsOf_9 rfl ?_
  refine v_goto (q := 17) hC dL_rightsOf_10 (by decide) ?_
  refine v_iconst (q := 18) (v := 0) hC dL_rightsOf_17 rfl (by decide) ?_
  refine v_iret hC dL_rightsOf_18 hr (rfl) ?_ (Nat.le_of_ble_eq_true rfl) (Nat.le_of_ble_eq_true rfl)
  exact Or.inl ⟨x9, _, z9, rfl, rfl⟩
abbrev rm_L_decidingObject : Room := { frames := 8, locals := 147, cells := 3, slots := 18 }
set_option maxHeartbeats 4000000 in
set_option maxRecDepth 20000 in
theorem w_L_decidingObject {l : Launch} (hl : l.stackTraces = false) (Θ : cTH) {Qc : cOut → GS → Prop} (a0 a1 a2 : Int32) (G : GS) (hM : Ct l yX11_decidingObject cX11_decidingObject 5 (some .int) rm_X11_decidingObject Θ [.ref (tR Θ 0 14), .int a0, .int a1, .int a2] G Qc) (hv : ∀ r G1, Qc (.inl r) G1 → ∃ x : Int32, r = some (.int x)) (hx : ∀ E G1, Qc (.inr E) G1 → E = eX ∨ E = eA) : CtH l yL_decidingObject cL_decidingObject 6 (some .int) [(0, 12, 15, 22), (0, 12, 19, 49)] rm_L_decidingObject Θ [.ref (tR Θ 0 14), .int a0, .int a1, .int a2, .ref (tR Θ 0 38)] G (wQ fI [eX, eA] Qc) := by
  refine cth_of (LS := [some (.ref (tR Θ 0 14)), some (.int a0), some (.int a1), some (.int a2), some (.ref (tR Θ 0 38)), none]) hl (by decide +kernel) rfl rfl (Nat.le_of_ble_eq_true rfl) rfl ?_
  intro p e s m args below meth c hC hr hT
  have HX : ∀ E9 G9, Qc (.inr E9) G9 → ∃ (i : Nat) (x : ExceptionTableEntry) (nm : String), (tableOf [(0, 12, 15, 22), (0, 12, 19, 49)])[i]? = some x ∧ (∀ z ∈ (tableOf [(0, 12, 15, 22), (0, 12, 19, 49)]).take i, covers z 7 = false ∨ (z.catchType ≠ 0 ∧ ∃ nm : String, Cond.classLink RL z.catchType nm ∈ wALL ∧ (E9, nm) ∈ ncW)) ∧ covers x 7 = true ∧ x.catchType ≠ 0 ∧ Cond.classLink RL x.catchType nm ∈ wALL ∧ Cond.castable E9 nm ∈ excW ∧ ∀ q9 : Nat, V p l e rm_L_decidingObject s m args below meth c 6 Θ (wQ fI [eX, eA] Qc) rm_L_decidingObject.cells rm_L_decidingObject.slots (0 + rm_X11_decidingObject.cells) (0 + rm_X11_decidingObject.slots) x.handlerPc [some (.ref (tR Θ 0 14)), some (.int a0), some (.int a1), some (.int a2), some (.ref (tR Θ 0 38)), none] [.ref q9] G9 := by
    intro E9 G9 z9
    rcases hx E9 G9 z9 with rfl | rfl
    · refine ⟨0, _, _, rfl, (fun z hz => absurd hz (by simp)), by decide, by decide, cl_RL_22, by decide, fun q9 => ?_⟩
      show V p l e rm_L_decidingObject s m args below meth c 6 Θ (wQ fI [eX, eA] Qc) rm_L_decidingObject.cells rm_L_decidingObject.slots (0 + rm_X11_decidingObject.cells) (0 + rm_X11_decidingObject.slots) 15 [some (.ref (tR Θ 0 14)), some (.int a0), some (.int a1), some (.int a2), some (.ref (tR Θ 0 38)), none] [.ref q9] G9
      refine v_astore (q := 17) hC dL_decidingObject_15 rfl (lvc rfl) (Nat.le_of_ble_eq_true rfl) (Nat.le_of_ble_eq_true rfl) rfl ?_
      refine v_iconst (q := 18) (v := 1) hC dL_decidingObject_17 rfl (by decide) ?_
      refine v_iret hC dL_decidingObject_18 hr (rfl) ?_ (Nat.le_of_ble_eq_true rfl) (Nat.le_of_ble_eq_true rfl)
      exact Or.inr ⟨_, _, z9, by first | rfl | (congr 3), rfl⟩
    · refine ⟨1, _, _, rfl, (List.forall_mem_cons.mpr ⟨Or.inr ⟨by decide, _, cl_RL_22, by decide⟩, List.forall_mem_nil _⟩), by decide, by decide, cl_RL_49, by decide, fun q9 => ?_⟩
      show V p l e rm_L_decidingObject s m args below meth c 6 Θ (wQ fI [eX, eA] Qc) rm_L_decidingObject.cells rm_L_decidingObject.slots (0 + rm_X11_decidingObject.cells) (0 + rm_X11_decidingObject.slots) 19 [some (.ref (tR Θ 0 14)), some (.int a0), some (.int a1), some (.int a2), some (.ref (tR Θ 0 38)), none] [.ref q9] G9
      refine v_astore (q := 21) hC dL_decidingObject_19 rfl (lvc rfl) (Nat.le_of_ble_eq_true rfl) (Nat.le_of_ble_eq_true rfl) rfl ?_
      refine v_iconst (q := 22) (v := 2) hC dL_decidingObject_21 rfl (by decide) ?_
      refine v_iret hC dL_decidingObject_22 hr (rfl) ?_ (Nat.le_of_ble_eq_true rfl) (Nat.le_of_ble_eq_true rfl)
      exact Or.inr ⟨_, _, z9, by first | rfl | (congr 3), rfl⟩
  refine v_aload (q := 2) hC dL_decidingObject_0 rfl rfl ?_
  refine v_iconst (q := 3) (v := 0) hC dL_decidingObject_2 rfl (by decide) ?_
  refine v_aload_n (i := 0) (q := 4) hC dL_decidingObject_3 rfl rfl rfl ?_
  refine v_iload_n (i := 1) (q := 5) hC dL_decidingObject_4 rfl rfl rfl ?_
  refine v_iload_n (i := 2) (q := 6) hC dL_decidingObject_5 rfl rfl rfl ?_
  refine v_iload_n (i := 3) (q := 7) hC dL_decidingObject_6 rfl rfl rfl ?_
  refine v_callTry (q := 10) (rm := rm_X11_decidingObject) hC hT hM k_X11_decidingObject im_yX11_decidingObject se_yX11_decidingObject ml_RL_155 dL_decidingObject_7 rfl rfl rfl rfl rfl rfl (Nat.le_of_ble_eq_true rfl) ⟨Nat.le_of_ble_eq_true rfl, Nat.le_of_ble_eq_true rfl⟩ ⟨Nat.le_of_ble_eq_true rfl, Nat.le_of_ble_eq_true rfl⟩ (fun v9 G9 z9 => ?_) HX
  obtain ⟨x9, rfl⟩ := hv _ _ z9
  dsimp only [Option.toList, List.cons_append, List.nil_append]
  refine v_i2l (q := 11) hC dL_decidingObject_10 rfl ?_
  refine v_lastO (q := 12) hC dL_decidingObject_11 rfl ?_
  refine v_goto (q := 23) hC dL_decidingObject_12 (by decide) ?_
  refine v_iconst (q := 24) (v := 0) hC dL_decidingObject_23 rfl (by decide) ?_
  refine v_iret hC dL_decidingObject_24 hr (rfl) ?_ (Nat.le_of_ble_eq_true rfl) (Nat.le_of_ble_eq_true rfl)
  exact Or.inl ⟨x9, _, z9, rfl, rfl⟩
abbrev rm_L_decidingEntry : Room := { frames := 8, locals := 147, cells := 3, slots := 18 }
set_option maxHeartbeats 4000000 in
set_option maxRecDepth 20000 in
theorem w_L_decidingEntry {l : Launch} (hl : l.stackTraces = false) (Θ : cTH) {Qc : cOut → GS → Prop} (a0 a1 a2 : Int32) (G : GS) (hM : Ct l yX11_decidingEntry cX11_decidingEntry 5 (some .int) rm_X11_decidingEntry Θ [.ref (tR Θ 0 14), .int a0, .int a1, .int a2] G Qc) (hv : ∀ r G1, Qc (.inl r) G1 → ∃ x : Int32, r = some (.int x)) (hx : ∀ E G1, Qc (.inr E) G1 → E = eX ∨ E = eA) : CtH l yL_decidingEntry cL_decidingEntry 6 (some .int) [(0, 12, 15, 22), (0, 12, 19, 49)] rm_L_decidingEntry Θ [.ref (tR Θ 0 14), .int a0, .int a1, .int a2, .ref (tR Θ 0 38)] G (wQ fI [eX, eA] Qc) := by
  refine cth_of (LS := [some (.ref (tR Θ 0 14)), some (.int a0), some (.int a1), some (.int a2), some (.ref (tR Θ 0 38)), none]) hl (by decide +kernel) rfl rfl (Nat.le_of_ble_eq_true rfl) rfl ?_
  intro p e s m args below meth c hC hr hT
  have HX : ∀ E9 G9, Qc (.inr E9) G9 → ∃ (i : Nat) (x : ExceptionTableEntry) (nm : String), (tableOf [(0, 12, 15, 22), (0, 12, 19, 49)])[i]? = some x ∧ (∀ z ∈ (tableOf [(0, 12, 15, 22), (0, 12, 19, 49)]).take i, covers z 7 = false ∨ (z.catchType ≠ 0 ∧ ∃ nm : String, Cond.classLink RL z.catchType nm ∈ wALL ∧ (E9, nm) ∈ ncW)) ∧ covers x 7 = true ∧ x.catchType ≠ 0 ∧ Cond.classLink RL x.catchType nm ∈ wALL ∧ Cond.castable E9 nm ∈ excW ∧ ∀ q9 : Nat, V p l e rm_L_decidingEntry s m args below meth c 6 Θ (wQ fI [eX, eA] Qc) rm_L_decidingEntry.cells rm_L_decidingEntry.slots (0 + rm_X11_decidingEntry.cells) (0 + rm_X11_decidingEntry.slots) x.handlerPc [some (.ref (tR Θ 0 14)), some (.int a0), some (.int a1), some (.int a2), some (.ref (tR Θ 0 38)), none] [.ref q9] G9 := by
    intro E9 G9 z9
    rcases hx E9 G9 z9 with rfl | rfl
    · refine ⟨0, _, _, rfl, (fun z hz => absurd hz (by simp)), by decide, by decide, cl_RL_22, by decide, fun q9 => ?_⟩
      show V p l e rm_L_decidingEntry s m args below meth c 6 Θ (wQ fI [eX, eA] Qc) rm_L_decidingEntry.cells rm_L_decidingEntry.slots (0 + rm_X11_decidingEntry.cells) (0 + rm_X11_decidingEntry.slots) 15 [some (.ref (tR Θ 0 14)), some (.int a0), some (.int a1), some (.int a2), some (.ref (tR Θ 0 38)), none] [.ref q9] G9
      refine v_astore (q := 17) hC dL_decidingEntry_15 rfl (lvc rfl) (Nat.le_of_ble_eq_true rfl) (Nat.le_of_ble_eq_true rfl) rfl ?_
      refine v_iconst (q := 18) (v := 1) hC dL_decidingEntry_17 rfl (by decide) ?_
      refine v_iret hC dL_decidingEntry_18 hr (rfl) ?_ (Nat.le_of_ble_eq_true rfl) (Nat.le_of_ble_eq_true rfl)
      exact Or.inr ⟨_, _, z9, by first | rfl | (congr 3), rfl⟩
    · refine ⟨1, _, _, rfl, (List.forall_mem_cons.mpr ⟨Or.inr ⟨by decide, _, cl_RL_22, by decide⟩, List.forall_mem_nil _⟩), by decide, by decide, cl_RL_49, by decide, fun q9 => ?_⟩
      show V p l e rm_L_decidingEntry s m args below meth c 6 Θ (wQ fI [eX, eA] Qc) rm_L_decidingEntry.cells rm_L_decidingEntry.slots (0 + rm_X11_decidingEntry.cells) (0 + rm_X11_decidingEntry.slots) 19 [some (.ref (tR Θ 0 14)), some (.int a0), some (.int a1), some (.int a2), some (.ref (tR Θ 0 38)), none] [.ref q9] G9
      refine v_astore (q := 21) hC dL_decidingEntry_19 rfl (lvc rfl) (Nat.le_of_ble_eq_true rfl) (Nat.le_of_ble_eq_true rfl) rfl ?_
      refine v_iconst (q := 22) (v := 2) hC dL_decidingEntry_21 rfl (by decide) ?_
      refine v_iret hC dL_decidingEntry_22 hr (rfl) ?_ (Nat.le_of_ble_eq_true rfl) (Nat.le_of_ble_eq_true rfl)
      exact Or.inr ⟨_, _, z9, by first | rfl | (congr 3), rfl⟩
  refine v_aload (q := 2) hC dL_decidingEntry_0 rfl rfl ?_
  refine v_iconst (q := 3) (v := 0) hC dL_decidingEntry_2 rfl (by decide) ?_
  refine v_aload_n (i := 0) (q := 4) hC dL_decidingEntry_3 rfl rfl rfl ?_
  refine v_iload_n (i := 1) (q := 5) hC dL_decidingEntry_4 rfl rfl rfl ?_
  refine v_iload_n (i := 2) (q := 6) hC dL_decidingEntry_5 rfl rfl rfl ?_
  refine v_iload_n (i := 3) (q := 7) hC dL_decidingEntry_6 rfl rfl rfl ?_
  refine v_callTry (q := 10) (rm := rm_X11_decidingEntry) hC hT hM k_X11_decidingEntry im_yX11_decidingEntry se_yX11_decidingEntry ml_RL_158 dL_decidingEntry_7 rfl rfl rfl rfl rfl rfl (Nat.le_of_ble_eq_true rfl) ⟨Nat.le_of_ble_eq_true rfl, Nat.le_of_ble_eq_true rfl⟩ ⟨Nat.le_of_ble_eq_true rfl, Nat.le_of_ble_eq_true rfl⟩ (fun v9 G9 z9 => ?_) HX
  obtain ⟨x9, rfl⟩ := hv _ _ z9
  dsimp only [Option.toList, List.cons_append, List.nil_append]
  refine v_i2l (q := 11) hC dL_decidingEntry_10 rfl ?_
  refine v_lastO (q := 12) hC dL_decidingEntry_11 rfl ?_
  refine v_goto (q := 23) hC dL_decidingEntry_12 (by decide) ?_
  refine v_iconst (q := 24) (v := 0) hC dL_decidingEntry_23 rfl (by decide) ?_
  refine v_iret hC dL_decidingEntry_24 hr (rfl) ?_ (Nat.le_of_ble_eq_true rfl) (Nat.le_of_ble_eq_true rfl)
  exact Or.inl ⟨x9, _, z9, rfl, rfl⟩
abbrev rm_L_isStoppedByMask : Room := { frames := 8, locals := 171, cells := 3, slots := 18 }
set_option maxHeartbeats 4000000 in
set_option maxRecDepth 20000 in
theorem w_L_isStoppedByMask {l : Launch} (hl : l.stackTraces = false) (Θ : cTH) {Qc : cOut → GS → Prop} (a0 a1 a2 : Int32) (G : GS) (hM : Ct l yX11_isStoppedByMask cX11_isStoppedByMask 4 (some .boolean) rm_X11_isStoppedByMask Θ [.ref (tR Θ 0 14), .int a0, .int a1, .int a2] G Qc) (hv : ∀ r G1, Qc (.inl r) G1 → ∃ x : Int32, r = some (.int x)) (hx : ∀ E G1, Qc (.inr E) G1 → E = eX ∨ E = eA) : CtH l yL_isStoppedByMask cL_isStoppedByMask 6 (some .int) [(0, 19, 22, 22), (0, 19, 26, 49)] rm_L_isStoppedByMask Θ [.ref (tR Θ 0 14), .int a0, .int a1, .int a2, .ref (tR Θ 0 38)] G (wQ fZ [eX, eA] Qc) := by
  refine cth_of (LS := [some (.ref (tR Θ 0 14)), some (.int a0), some (.int a1), some (.int a2), some (.ref (tR Θ 0 38)), none]) hl (by decide +kernel) rfl rfl (Nat.le_of_ble_eq_true rfl) rfl ?_
  intro p e s m args below meth c hC hr hT
  have HX : ∀ E9 G9, Qc (.inr E9) G9 → ∃ (i : Nat) (x : ExceptionTableEntry) (nm : String), (tableOf [(0, 19, 22, 22), (0, 19, 26, 49)])[i]? = some x ∧ (∀ z ∈ (tableOf [(0, 19, 22, 22), (0, 19, 26, 49)]).take i, covers z 7 = false ∨ (z.catchType ≠ 0 ∧ ∃ nm : String, Cond.classLink RL z.catchType nm ∈ wALL ∧ (E9, nm) ∈ ncW)) ∧ covers x 7 = true ∧ x.catchType ≠ 0 ∧ Cond.classLink RL x.catchType nm ∈ wALL ∧ Cond.castable E9 nm ∈ excW ∧ ∀ q9 : Nat, V p l e rm_L_isStoppedByMask s m args below meth c 6 Θ (wQ fZ [eX, eA] Qc) rm_L_isStoppedByMask.cells rm_L_isStoppedByMask.slots (0 + rm_X11_isStoppedByMask.cells) (0 + rm_X11_isStoppedByMask.slots) x.handlerPc [some (.ref (tR Θ 0 14)), some (.int a0), some (.int a1), some (.int a2), some (.ref (tR Θ 0 38)), none] [.ref q9] G9 := by
    intro E9 G9 z9
    rcases hx E9 G9 z9 with rfl | rfl
    · refine ⟨0, _, _, rfl, (fun z hz => absurd hz (by simp)), by decide, by decide, cl_RL_22, by decide, fun q9 => ?_⟩
      show V p l e rm_L_isStoppedByMask s m args below meth c 6 Θ (wQ fZ [eX, eA] Qc) rm_L_isStoppedByMask.cells rm_L_isStoppedByMask.slots (0 + rm_X11_isStoppedByMask.cells) (0 + rm_X11_isStoppedByMask.slots) 22 [some (.ref (tR Θ 0 14)), some (.int a0), some (.int a1), some (.int a2), some (.ref (tR Θ 0 38)), none] [.ref q9] G9
      refine v_astore (q := 24) hC dL_isStoppedByMask_22 rfl (lvc rfl) (Nat.le_of_ble_eq_true rfl) (Nat.le_of_ble_eq_true rfl) rfl ?_
      refine v_iconst (q := 25) (v := 1) hC dL_isStoppedByMask_24 rfl (by decide) ?_
      refine v_iret hC dL_isStoppedByMask_25 hr (rfl) ?_ (Nat.le_of_ble_eq_true rfl) (Nat.le_of_ble_eq_true rfl)
      exact Or.inr ⟨_, _, z9, by first | rfl | (congr 3), rfl⟩
    · refine ⟨1, _, _, rfl, (List.forall_mem_cons.mpr ⟨Or.inr ⟨by decide, _, cl_RL_22, by decide⟩, List.forall_mem_nil _⟩), by decide, by decide, cl_RL_49, by decide, fun q9 => ?_⟩
      show V p l e rm_L_isStoppedByMask s m args below meth c 6 Θ (wQ fZ [eX, eA] Qc) rm_L_isStoppedByMask.cells rm_L_isStoppedByMask.slots (0 + rm_X11_isStoppedByMask.cells) (0 + rm_X11_isStoppedByMask.slots) 26 [some (.ref (tR Θ 0 14)), some (.int a0), some (.int a1), some (.int a2), some (.ref (tR Θ 0 38)), none] [.ref q9] G9
      refine v_astore (q := 28) hC dL_isStoppedByMask_26 rfl (lvc rfl) (Nat.le_of_ble_eq_true rfl) (Nat.le_of_ble_eq_true rfl) rfl ?_
      refine v_iconst (q := 29) (v := 2) hC dL_isStoppedByMask_28 rfl (by decide) ?_
      refine v_iret hC dL_isStoppedByMask_29 hr (rfl) ?_ (Nat.le_of_ble_eq_true rfl) (Nat.le_of_ble_eq_true rfl)
      exact Or.inr ⟨_, _, z9, by first | rfl | (congr 3), rfl⟩
  refine v_aload (q := 2) hC dL_isStoppedByMask_0 rfl rfl ?_
  refine v_iconst (q := 3) (v := 0) hC dL_isStoppedByMask_2 rfl (by decide) ?_
  refine v_aload_n (i := 0) (q := 4) hC dL_isStoppedByMask_3 rfl rfl rfl ?_
  refine v_iload_n (i := 1) (q := 5) hC dL_isStoppedByMask_4 rfl rfl rfl ?_
  refine v_iload_n (i := 2) (q := 6) hC dL_isStoppedByMask_5 rfl rfl rfl ?_
  refine v_iload_n (i := 3) (q := 7) hC dL_isStoppedByMask_6 rfl rfl rfl ?_
  refine v_callTry (q := 10) (rm := rm_X11_isStoppedByMask) hC hT hM k_X11_isStoppedByMask im_yX11_isStoppedByMask se_yX11_isStoppedByMask ml_RL_161 dL_isStoppedByMask_7 rfl rfl rfl rfl rfl rfl (Nat.le_of_ble_eq_true rfl) ⟨Nat.le_of_ble_eq_true rfl, Nat.le_of_ble_eq_true rfl⟩ ⟨Nat.le_of_ble_eq_true rfl, Nat.le_of_ble_eq_true rfl⟩ (fun v9 G9 z9 => ?_) HX
  obtain ⟨x9, rfl⟩ := hv _ _ z9
  dsimp only [Option.toList, List.cons_append, List.nil_append]
  refine v_if_eq (q := 17) (q2 := 13) hC dL_isStoppedByMask_10 (by decide) rfl (fun c_10 => ?_) (fun c_10 => ?_)
  · refine v_lconst (q := 18) (v := 0) hC dL_isStoppedByMask_17 rfl rfl ?_
    refine v_lastO (q := 19) hC dL_isStoppedByMask_18 rfl ?_
    refine v_goto (q := 30) hC dL_isStoppedByMask_19 (by decide) ?_
    refine v_iconst (q := 31) (v := 0) hC dL_isStoppedByMask_30 rfl (by decide) ?_
    refine v_iret hC dL_isStoppedByMask_31 hr (rfl) ?_ (Nat.le_of_ble_eq_true rfl) (Nat.le_of_ble_eq_true rfl)
    refine Or.inl ⟨x9, _, z9, rfl, ?_⟩
    first | (rw [fZ, if_pos c_10]) | (rw [fZ, if_neg c_10])
  · refine v_lconst (q := 14) (v := 1) hC dL_isStoppedByMask_13 rfl rfl ?_
    refine v_goto (q := 18) hC dL_isStoppedByMask_14 (by decide) ?_
    refine v_lastO (q := 19) hC dL_isStoppedByMask_18 rfl ?_
    refine v_goto (q := 30) hC dL_isStoppedByMask_19 (by decide) ?_
    refine v_iconst (q := 31) (v := 0) hC dL_isStoppedByMask_30 rfl (by decide) ?_
    refine v_iret hC dL_isStoppedByMask_31 hr (rfl) ?_ (Nat.le_of_ble_eq_true rfl) (Nat.le_of_ble_eq_true rfl)
    refine Or.inl ⟨x9, _, z9, rfl, ?_⟩
    first | (rw [fZ, if_pos c_10]) | (rw [fZ, if_neg c_10])
abbrev rm_L_usersWith : Room := { frames := 8, locals := 171, cells := 2, slots := 12 }
set_option maxHeartbeats 4000000 in
set_option maxRecDepth 20000 in
theorem w_L_usersWith {l : Launch} (hl : l.stackTraces = false) (Θ : cTH) {Qc : cOut → GS → Prop} (a0 a1 : Int32) (G : GS) (hM : Ct l yX11_usersWith cX11_usersWith 3 (some .int) rm_X11_usersWith Θ [.ref (tR Θ 0 14), .int a0, .int a1] G Qc) (hv : ∀ r G1, Qc (.inl r) G1 → ∃ x : Int32, r = some (.int x)) (hx : ∀ E G1, Qc (.inr E) G1 → E = eX ∨ E = eA) : CtH l yL_usersWith cL_usersWith 5 (some .int) [(0, 10, 13, 22), (0, 10, 17, 49)] rm_L_usersWith Θ [.ref (tR Θ 0 14), .int a0, .int a1, .ref (tR Θ 0 38)] G (wQ fI [eX, eA] Qc) := by
  refine cth_of (LS := [some (.ref (tR Θ 0 14)), some (.int a0), some (.int a1), some (.ref (tR Θ 0 38)), none]) hl (by decide +kernel) rfl rfl (Nat.le_of_ble_eq_true rfl) rfl ?_
  intro p e s m args below meth c hC hr hT
  have HX : ∀ E9 G9, Qc (.inr E9) G9 → ∃ (i : Nat) (x : ExceptionTableEntry) (nm : String), (tableOf [(0, 10, 13, 22), (0, 10, 17, 49)])[i]? = some x ∧ (∀ z ∈ (tableOf [(0, 10, 13, 22), (0, 10, 17, 49)]).take i, covers z 5 = false ∨ (z.catchType ≠ 0 ∧ ∃ nm : String, Cond.classLink RL z.catchType nm ∈ wALL ∧ (E9, nm) ∈ ncW)) ∧ covers x 5 = true ∧ x.catchType ≠ 0 ∧ Cond.classLink RL x.catchType nm ∈ wALL ∧ Cond.castable E9 nm ∈ excW ∧ ∀ q9 : Nat, V p l e rm_L_usersWith s m args below meth c 5 Θ (wQ fI [eX, eA] Qc) rm_L_usersWith.cells rm_L_usersWith.slots (0 + rm_X11_usersWith.cells) (0 + rm_X11_usersWith.slots) x.handlerPc [some (.ref (tR Θ 0 14)), some (.int a0), some (.int a1), some (.ref (tR Θ 0 38)), none] [.ref q9] G9 := by
    intro E9 G9 z9
    rcases hx E9 G9 z9 with rfl | rfl
    · refine ⟨0, _, _, rfl, (fun z hz => absurd hz (by simp)), by decide, by decide, cl_RL_22, by decide, fun q9 => ?_⟩
      show V p l e rm_L_usersWith s m args below meth c 5 Θ (wQ fI [eX, eA] Qc) rm_L_usersWith.cells rm_L_usersWith.slots (0 + rm_X11_usersWith.cells) (0 + rm_X11_usersWith.slots) 13 [some (.ref (tR Θ 0 14)), some (.int a0), some (.int a1), some (.ref (tR Θ 0 38)), none] [.ref q9] G9
      refine v_astore (q := 15) hC dL_usersWith_13 rfl (lvc rfl) (Nat.le_of_ble_eq_true rfl) (Nat.le_of_ble_eq_true rfl) rfl ?_
      refine v_iconst (q := 16) (v := 1) hC dL_usersWith_15 rfl (by decide) ?_
      refine v_iret hC dL_usersWith_16 hr (rfl) ?_ (Nat.le_of_ble_eq_true rfl) (Nat.le_of_ble_eq_true rfl)
      exact Or.inr ⟨_, _, z9, by first | rfl | (congr 3), rfl⟩
    · refine ⟨1, _, _, rfl, (List.forall_mem_cons.mpr ⟨Or.inr ⟨by decide, _, cl_RL_22, by decide⟩, List.forall_mem_nil _⟩), by decide, by decide, cl_RL_49, by decide, fun q9 => ?_⟩
      show V p l e rm_L_usersWith s m args below meth c 5 Θ (wQ fI [eX, eA] Qc) rm_L_usersWith.cells rm_L_usersWith.slots (0 + rm_X11_usersWith.cells) (0 + rm_X11_usersWith.slots) 17 [some (.ref (tR Θ 0 14)), some (.int a0), some (.int a1), some (.ref (tR Θ 0 38)), none] [.ref q9] G9
      refine v_astore (q := 19) hC dL_usersWith_17 rfl (lvc rfl) (Nat.le_of_ble_eq_true rfl) (Nat.le_of_ble_eq_true rfl) rfl ?_
      refine v_iconst (q := 20) (v := 2) hC dL_usersWith_19 rfl (by decide) ?_
      refine v_iret hC dL_usersWith_20 hr (rfl) ?_ (Nat.le_of_ble_eq_true rfl) (Nat.le_of_ble_eq_true rfl)
      exact Or.inr ⟨_, _, z9, by first | rfl | (congr 3), rfl⟩
  refine v_aload_n (i := 3) (q := 1) hC dL_usersWith_0 rfl rfl rfl ?_
  refine v_iconst (q := 2) (v := 0) hC dL_usersWith_1 rfl (by decide) ?_
  refine v_aload_n (i := 0) (q := 3) hC dL_usersWith_2 rfl rfl rfl ?_
  refine v_iload_n (i := 1) (q := 4) hC dL_usersWith_3 rfl rfl rfl ?_
  refine v_iload_n (i := 2) (q := 5) hC dL_usersWith_4 rfl rfl rfl ?_
  refine v_callTry (q := 8) (rm := rm_X11_usersWith) hC hT hM k_X11_usersWith im_yX11_usersWith se_yX11_usersWith ml_RL_164 dL_usersWith_5 rfl rfl rfl rfl rfl rfl (Nat.le_of_ble_eq_true rfl) ⟨Nat.le_of_ble_eq_true rfl, Nat.le_of_ble_eq_true rfl⟩ ⟨Nat.le_of_ble_eq_true rfl, Nat.le_of_ble_eq_true rfl⟩ (fun v9 G9 z9 => ?_) HX
  obtain ⟨x9, rfl⟩ := hv _ _ z9
  dsimp only [Option.toList, List.cons_append, List.nil_append]
  refine v_i2l (q := 9) hC dL_usersWith_8 rfl ?_
  refine v_lastO (q := 10) hC dL_usersWith_9 rfl ?_
  refine v_goto (q := 21) hC dL_usersWith_10 (by decide) ?_
  refine v_iconst (q := 22) (v := 0) hC dL_usersWith_21 rfl (by decide) ?_
  refine v_iret hC dL_usersWith_22 hr (rfl) ?_ (Nat.le_of_ble_eq_true rfl) (Nat.le_of_ble_eq_true rfl)
  exact Or.inl ⟨x9, _, z9, rfl, rfl⟩
abbrev rm_L_rightsThrough : Room := { frames := 8, locals := 172, cells := 2, slots := 12 }
set_option maxHeartbeats 4000000 in
set_option maxRecDepth 20000 in
theorem w_L_rightsThrough {l : Launch} (hl : l.stackTraces = false) (Θ : cTH) {Qc : cOut → GS → Prop} (a0 a1 : Int32) (G : GS) (hM : Ct l yX11_rightsThrough cX11_rightsThrough 3 (some .int) rm_X11_rightsThrough Θ [.ref (tR Θ 0 14), .int a0, .int a1] G Qc) (hv : ∀ r G1, Qc (.inl r) G1 → ∃ x : Int32, r = some (.int x)) (hx : ∀ E G1, Qc (.inr E) G1 → E = eX) : CtH l yL_rightsThrough cL_rightsThrough 5 (some .int) [(0, 10, 13, 22)] rm_L_rightsThrough Θ [.ref (tR Θ 0 14), .int a0, .int a1, .ref (tR Θ 0 38)] G (wQ fI [eX] Qc) := by
  refine cth_of (LS := [some (.ref (tR Θ 0 14)), some (.int a0), some (.int a1), some (.ref (tR Θ 0 38)), none]) hl (by decide +kernel) rfl rfl (Nat.le_of_ble_eq_true rfl) rfl ?_
  intro p e s m args below meth c hC hr hT
  have HX : ∀ E9 G9, Qc (.inr E9) G9 → ∃ (i : Nat) (x : ExceptionTableEntry) (nm : String), (tableOf [(0, 10, 13, 22)])[i]? = some x ∧ (∀ z ∈ (tableOf [(0, 10, 13, 22)]).take i, covers z 5 = false ∨ (z.catchType ≠ 0 ∧ ∃ nm : String, Cond.classLink RL z.catchType nm ∈ wALL ∧ (E9, nm) ∈ ncW)) ∧ covers x 5 = true ∧ x.catchType ≠ 0 ∧ Cond.classLink RL x.catchType nm ∈ wALL ∧ Cond.castable E9 nm ∈ excW ∧ ∀ q9 : Nat, V p l e rm_L_rightsThrough s m args below meth c 5 Θ (wQ fI [eX] Qc) rm_L_rightsThrough.cells rm_L_rightsThrough.slots (0 + rm_X11_rightsThrough.cells) (0 + rm_X11_rightsThrough.slots) x.handlerPc [some (.ref (tR Θ 0 14)), some (.int a0), some (.int a1), some (.ref (tR Θ 0 38)), none] [.ref q9] G9 := by
    intro E9 G9 z9
    rcases hx E9 G9 z9 with rfl
    · refine ⟨0, _, _, rfl, (fun z hz => absurd hz (by simp)), by decide, by decide, cl_RL_22, by decide, fun q9 => ?_⟩
      show V p l e rm_L_rightsThrough s m args below meth c 5 Θ (wQ fI [eX] Qc) rm_L_rightsThrough.cells rm_L_rightsThrough.slots (0 + rm_X11_rightsThrough.cells) (0 + rm_X11_rightsThrough.slots) 13 [some (.ref (tR Θ 0 14)), some (.int a0), some (.int a1), some (.ref (tR Θ 0 38)), none] [.ref q9] G9
      refine v_astore (q := 15) hC dL_rightsThrough_13 rfl (lvc rfl) (Nat.le_of_ble_eq_true rfl) (Nat.le_of_ble_eq_true rfl) rfl ?_
      refine v_iconst (q := 16) (v := 1) hC dL_rightsThrough_15 rfl (by decide) ?_
      refine v_iret hC dL_rightsThrough_16 hr (rfl) ?_ (Nat.le_of_ble_eq_true rfl) (Nat.le_of_ble_eq_true rfl)
      exact Or.inr ⟨_, _, z9, by first | rfl | (congr 3), rfl⟩
  refine v_aload_n (i := 3) (q := 1) hC dL_rightsThrough_0 rfl rfl rfl ?_
  refine v_iconst (q := 2) (v := 0) hC dL_rightsThrough_1 rfl (by decide) ?_
  refine v_aload_n (i := 0) (q := 3) hC dL_rightsThrough_2 rfl rfl rfl ?_
  refine v_iload_n (i := 1) (q := 4) hC dL_rightsThrough_3 rfl rfl rfl ?_
  refine v_iload_n (i := 2) (q := 5) hC dL_rightsThrough_4 rfl rfl rfl ?_
  refine v_callTry (q := 8) (rm := rm_X11_rightsThrough) hC hT hM k_X11_rightsThrough im_yX11_rightsThrough se_yX11_rightsThrough ml_RL_167 dL_rightsThrough_5 rfl rfl rfl rfl rfl rfl (Nat.le_of_ble_eq_true rfl) ⟨Nat.le_of_ble_eq_true rfl, Nat.le_of_ble_eq_true rfl⟩ ⟨Nat.le_of_ble_eq_true rfl, Nat.le_of_ble_eq_true rfl⟩ (fun v9 G9 z9 => ?_) HX
  obtain ⟨x9, rfl⟩ := hv _ _ z9
  dsimp only [Option.toList, List.cons_append, List.nil_append]
  refine v_i2l (q := 9) hC dL_rightsThrough_8 rfl ?_
  refine v_lastO (q := 10) hC dL_rightsThrough_9 rfl ?_
  refine v_goto (q := 17) hC dL_rightsThrough_10 (by decide) ?_
  refine v_iconst (q := 18) (v := 0) hC dL_rightsThrough_17 rfl (by decide) ?_
  refine v_iret hC dL_rightsThrough_18 hr (rfl) ?_ (Nat.le_of_ble_eq_true rfl) (Nat.le_of_ble_eq_true rfl)
  exact Or.inl ⟨x9, _, z9, rfl, rfl⟩
abbrev rm_L_isNeedless : Room := { frames := 9, locals := 173, cells := 2, slots := 12 }
set_option maxHeartbeats 4000000 in
set_option maxRecDepth 20000 in
theorem w_L_isNeedless {l : Launch} (hl : l.stackTraces = false) (Θ : cTH) {Qc : cOut → GS → Prop} (a0 a1 : Int32) (G : GS) (hM : Ct l yX11_isNeedless cX11_isNeedless 5 (some .boolean) rm_X11_isNeedless Θ [.ref (tR Θ 0 14), .int a0, .int a1] G Qc) (hv : ∀ r G1, Qc (.inl r) G1 → ∃ x : Int32, r = some (.int x)) (hx : ∀ E G1, Qc (.inr E) G1 → E = eX) : CtH l yL_isNeedless cL_isNeedless 5 (some .int) [(0, 17, 20, 22)] rm_L_isNeedless Θ [.ref (tR Θ 0 14), .int a0, .int a1, .ref (tR Θ 0 38)] G (wQ fZ [eX] Qc) := by
  refine cth_of (LS := [some (.ref (tR Θ 0 14)), some (.int a0), some (.int a1), some (.ref (tR Θ 0 38)), none]) hl (by decide +kernel) rfl rfl (Nat.le_of_ble_eq_true rfl) rfl ?_
  intro p e s m args below meth c hC hr hT
  have HX : ∀ E9 G9, Qc (.inr E9) G9 → ∃ (i : Nat) (x : ExceptionTableEntry) (nm : String), (tableOf [(0, 17, 20, 22)])[i]? = some x ∧ (∀ z ∈ (tableOf [(0, 17, 20, 22)]).take i, covers z 5 = false ∨ (z.catchType ≠ 0 ∧ ∃ nm : String, Cond.classLink RL z.catchType nm ∈ wALL ∧ (E9, nm) ∈ ncW)) ∧ covers x 5 = true ∧ x.catchType ≠ 0 ∧ Cond.classLink RL x.catchType nm ∈ wALL ∧ Cond.castable E9 nm ∈ excW ∧ ∀ q9 : Nat, V p l e rm_L_isNeedless s m args below meth c 5 Θ (wQ fZ [eX] Qc) rm_L_isNeedless.cells rm_L_isNeedless.slots (0 + rm_X11_isNeedless.cells) (0 + rm_X11_isNeedless.slots) x.handlerPc [some (.ref (tR Θ 0 14)), some (.int a0), some (.int a1), some (.ref (tR Θ 0 38)), none] [.ref q9] G9 := by
    intro E9 G9 z9
    rcases hx E9 G9 z9 with rfl
    · refine ⟨0, _, _, rfl, (fun z hz => absurd hz (by simp)), by decide, by decide, cl_RL_22, by decide, fun q9 => ?_⟩
      show V p l e rm_L_isNeedless s m args below meth c 5 Θ (wQ fZ [eX] Qc) rm_L_isNeedless.cells rm_L_isNeedless.slots (0 + rm_X11_isNeedless.cells) (0 + rm_X11_isNeedless.slots) 20 [some (.ref (tR Θ 0 14)), some (.int a0), some (.int a1), some (.ref (tR Θ 0 38)), none] [.ref q9] G9
      refine v_astore (q := 22) hC dL_isNeedless_20 rfl (lvc rfl) (Nat.le_of_ble_eq_true rfl) (Nat.le_of_ble_eq_true rfl) rfl ?_
      refine v_iconst (q := 23) (v := 1) hC dL_isNeedless_22 rfl (by decide) ?_
      refine v_iret hC dL_isNeedless_23 hr (rfl) ?_ (Nat.le_of_ble_eq_true rfl) (Nat.le_of_ble_eq_true rfl)
      exact Or.inr ⟨_, _, z9, by first | rfl | (congr 3), rfl⟩
  refine v_aload_n (i := 3) (q := 1) hC dL_isNeedless_0 rfl rfl rfl ?_
  refine v_iconst (q := 2) (v := 0) hC dL_isNeedless_1 rfl (by decide) ?_
  refine v_aload_n (i := 0) (q := 3) hC dL_isNeedless_2 rfl rfl rfl ?_
  refine v_iload_n (i := 1) (q := 4) hC dL_isNeedless_3 rfl rfl rfl ?_
  refine v_iload_n (i := 2) (q := 5) hC dL_isNeedless_4 rfl rfl rfl ?_
  refine v_callTry (q := 8) (rm := rm_X11_isNeedless) hC hT hM k_X11_isNeedless im_yX11_isNeedless se_yX11_isNeedless ml_RL_170 dL_isNeedless_5 rfl rfl rfl rfl rfl rfl (Nat.le_of_ble_eq_true rfl) ⟨Nat.le_of_ble_eq_true rfl, Nat.le_of_ble_eq_true rfl⟩ ⟨Nat.le_of_ble_eq_true rfl, Nat.le_of_ble_eq_true rfl⟩ (fun v9 G9 z9 => ?_) HX
  obtain ⟨x9, rfl⟩ := hv _ _ z9
  dsimp only [Option.toList, List.cons_append, List.nil_append]
  refine v_if_eq (q := 15) (q2 := 11) hC dL_isNeedless_8 (by decide) rfl (fun c_8 => ?_) (fun c_8 => ?_)
  · refine v_lconst (q := 16) (v := 0) hC dL_isNeedless_15 rfl rfl ?_
    refine v_lastO (q := 17) hC dL_isNeedless_16 rfl ?_
    refine v_goto (q := 24) hC dL_isNeedless_17 (by decide) ?_
    refine v_iconst (q := 25) (v := 0) hC dL_isNeedless_24 rfl (by decide) ?_
    refine v_iret hC dL_isNeedless_25 hr (rfl) ?_ (Nat.le_of_ble_eq_true rfl) (Nat.le_of_ble_eq_true rfl)
    refine Or.inl ⟨x9, _, z9, rfl, ?_⟩
    first | (rw [fZ, if_pos c_8]) | (rw [fZ, if_neg c_8])
  · refine v_lconst (q := 12) (v := 1) hC dL_isNeedless_11 rfl rfl ?_
    refine v_goto (q := 16) hC dL_isNeedless_12 (by decide) ?_
    refine v_lastO (q := 17) hC dL_isNeedless_16 rfl ?_
    refine v_goto (q := 24) hC dL_isNeedless_17 (by decide) ?_
    refine v_iconst (q := 25) (v := 0) hC dL_isNeedless_24 rfl (by decide) ?_
    refine v_iret hC dL_isNeedless_25 hr (rfl) ?_ (Nat.le_of_ble_eq_true rfl) (Nat.le_of_ble_eq_true rfl)
    refine Or.inl ⟨x9, _, z9, rfl, ?_⟩
    first | (rw [fZ, if_pos c_8]) | (rw [fZ, if_neg c_8])
abbrev rm_L_userOfRequest : Room := { frames := 8, locals := 132, cells := 1, slots := 6 }
set_option maxHeartbeats 4000000 in
set_option maxRecDepth 20000 in
theorem w_L_userOfRequest {l : Launch} (hl : l.stackTraces = false) (Θ : cTH) {Qc : cOut → GS → Prop} (a0 : Int32) (G : GS) (hM : Ct l yX11_userOfRequest cX11_userOfRequest 2 (some .int) rm_X11_userOfRequest Θ [.ref (tR Θ 0 14), .int a0] G Qc) (hv : ∀ r G1, Qc (.inl r) G1 → ∃ x : Int32, r = some (.int x)) (hx : ∀ E G1, Qc (.inr E) G1 → E = eX) : CtH l yL_userOfRequest cL_userOfRequest 4 (some .int) [(0, 9, 12, 22)] rm_L_userOfRequest Θ [.ref (tR Θ 0 14), .int a0, .ref (tR Θ 0 38)] G (wQ fI [eX] Qc) := by
  refine cth_of (LS := [some (.ref (tR Θ 0 14)), some (.int a0), some (.ref (tR Θ 0 38)), none]) hl (by decide +kernel) rfl rfl (Nat.le_of_ble_eq_true rfl) rfl ?_
  intro p e s m args below meth c hC hr hT
  have HX : ∀ E9 G9, Qc (.inr E9) G9 → ∃ (i : Nat) (x : ExceptionTableEntry) (nm : String), (tableOf [(0, 9, 12, 22)])[i]? = some x ∧ (∀ z ∈ (tableOf [(0, 9, 12, 22)]).take i, covers z 4 = false ∨ (z.catchType ≠ 0 ∧ ∃ nm : String, Cond.classLink RL z.catchType nm ∈ wALL ∧ (E9, nm) ∈ ncW)) ∧ covers x 4 = true ∧ x.catchType ≠ 0 ∧ Cond.classLink RL x.catchType nm ∈ wALL ∧ Cond.castable E9 nm ∈ excW ∧ ∀ q9 : Nat, V p l e rm_L_userOfRequest s m args below meth c 4 Θ (wQ fI [eX] Qc) rm_L_userOfRequest.cells rm_L_userOfRequest.slots (0 + rm_X11_userOfRequest.cells) (0 + rm_X11_userOfRequest.slots) x.handlerPc [some (.ref (tR Θ 0 14)), some (.int a0), some (.ref (tR Θ 0 38)), none] [.ref q9] G9 := by
    intro E9 G9 z9
    rcases hx E9 G9 z9 with rfl
    · refine ⟨0, _, _, rfl, (fun z hz => absurd hz (by simp)), by decide, by decide, cl_RL_22, by decide, fun q9 => ?_⟩
      show V p l e rm_L_userOfRequest s m args below meth c 4 Θ (wQ fI [eX] Qc) rm_L_userOfRequest.cells rm_L_userOfRequest.slots (0 + rm_X11_userOfRequest.cells) (0 + rm_X11_userOfRequest.slots) 12 [some (.ref (tR Θ 0 14)), some (.int a0), some (.ref (tR Θ 0 38)), none] [.ref q9] G9
      refine v_astore_n (i := 3) (q := 13) hC dL_userOfRequest_12 rfl rfl (lvc rfl) (Nat.le_of_ble_eq_true rfl) (Nat.le_of_ble_eq_true rfl) rfl ?_
      refine v_iconst (q := 14) (v := 1) hC dL_userOfRequest_13 rfl (by decide) ?_
      refine v_iret hC dL_userOfRequest_14 hr (rfl) ?_ (Nat.le_of_ble_eq_true rfl) (Nat.le_of_ble_eq_true rfl)
      exact Or.inr ⟨_, _, z9, by first | rfl | (congr 3), rfl⟩
  refine v_aload_n (i := 2) (q := 1) hC dL_userOfRequest_0 rfl rfl rfl ?_
  refine v_iconst (q := 2) (v := 0) hC dL_userOfRequest_1 rfl (by decide) ?_
  refine v_aload_n (i := 0) (q := 3) hC dL_userOfRequest_2 rfl rfl rfl ?_
  refine v_iload_n (i := 1) (q := 4) hC dL_userOfRequest_3 rfl rfl rfl ?_
  refine v_callTry (q := 7) (rm := rm_X11_userOfRequest) hC hT hM k_X11_userOfRequest im_yX11_userOfRequest se_yX11_userOfRequest ml_RL_173 dL_userOfRequest_4 rfl rfl rfl rfl rfl rfl (Nat.le_of_ble_eq_true rfl) ⟨Nat.le_of_ble_eq_true rfl, Nat.le_of_ble_eq_true rfl⟩ ⟨Nat.le_of_ble_eq_true rfl, Nat.le_of_ble_eq_true rfl⟩ (fun v9 G9 z9 => ?_) HX
  obtain ⟨x9, rfl⟩ := hv _ _ z9
  dsimp only [Option.toList, List.cons_append, List.nil_append]
  refine v_i2l (q := 8) hC dL_userOfRequest_7 rfl ?_
  refine v_lastO (q := 9) hC dL_userOfRequest_8 rfl ?_
  refine v_goto (q := 15) hC dL_userOfRequest_9 (by decide) ?_
  refine v_iconst (q := 16) (v := 0) hC dL_userOfRequest_15 rfl (by decide) ?_
  refine v_iret hC dL_userOfRequest_16 hr (rfl) ?_ (Nat.le_of_ble_eq_true rfl) (Nat.le_of_ble_eq_true rfl)
  exact Or.inl ⟨x9, _, z9, rfl, rfl⟩
abbrev rm_L_objectOfRequest : Room := { frames := 8, locals := 132, cells := 1, slots := 6 }
set_option maxHeartbeats 4000000 in
set_option maxRecDepth 20000 in
theorem w_L_objectOfRequest {l : Launch} (hl : l.stackTraces = false) (Θ : cTH) {Qc : cOut → GS → Prop} (a0 : Int32) (G : GS) (hM : Ct l yX11_objectOfRequest cX11_objectOfRequest 2 (some .int) rm_X11_objectOfRequest Θ [.ref (tR Θ 0 14), .int a0] G Qc) (hv : ∀ r G1, Qc (.inl r) G1 → ∃ x : Int32, r = some (.int x)) (hx : ∀ E G1, Qc (.inr E) G1 → E = eX) : CtH l yL_objectOfRequest cL_objectOfRequest 4 (some .int) [(0, 9, 12, 22)] rm_L_objectOfRequest Θ [.ref (tR Θ 0 14), .int a0, .ref (tR Θ 0 38)] G (wQ fI [eX] Qc) := by
  refine cth_of (LS := [some (.ref (tR Θ 0 14)), some (.int a0), some (.ref (tR Θ 0 38)), none]) hl (by decide +kernel) rfl rfl (Nat.le_of_ble_eq_true rfl) rfl ?_
  intro p e s m args below meth c hC hr hT
  have HX : ∀ E9 G9, Qc (.inr E9) G9 → ∃ (i : Nat) (x : ExceptionTableEntry) (nm : String), (tableOf [(0, 9, 12, 22)])[i]? = some x ∧ (∀ z ∈ (tableOf [(0, 9, 12, 22)]).take i, covers z 4 = false ∨ (z.catchType ≠ 0 ∧ ∃ nm : String, Cond.classLink RL z.catchType nm ∈ wALL ∧ (E9, nm) ∈ ncW)) ∧ covers x 4 = true ∧ x.catchType ≠ 0 ∧ Cond.classLink RL x.catchType nm ∈ wALL ∧ Cond.castable E9 nm ∈ excW ∧ ∀ q9 : Nat, V p l e rm_L_objectOfRequest s m args below meth c 4 Θ (wQ fI [eX] Qc) rm_L_objectOfRequest.cells rm_L_objectOfRequest.slots (0 + rm_X11_objectOfRequest.cells) (0 + rm_X11_objectOfRequest.slots) x.handlerPc [some (.ref (tR Θ 0 14)), some (.int a0), some (.ref (tR Θ 0 38)), none] [.ref q9] G9 := by
    intro E9 G9 z9
    rcases hx E9 G9 z9 with rfl
    · refine ⟨0, _, _, rfl, (fun z hz => absurd hz (by simp)), by decide, by decide, cl_RL_22, by decide, fun q9 => ?_⟩
      show V p l e rm_L_objectOfRequest s m args below meth c 4 Θ (wQ fI [eX] Qc) rm_L_objectOfRequest.cells rm_L_objectOfRequest.slots (0 + rm_X11_objectOfRequest.cells) (0 + rm_X11_objectOfRequest.slots) 12 [some (.ref (tR Θ 0 14)), some (.int a0), some (.ref (tR Θ 0 38)), none] [.ref q9] G9
      refine v_astore_n (i := 3) (q := 13) hC dL_objectOfRequest_12 rfl rfl (lvc rfl) (Nat.le_of_ble_eq_true rfl) (Nat.le_of_ble_eq_true rfl) rfl ?_
      refine v_iconst (q := 14) (v := 1) hC dL_objectOfRequest_13 rfl (by decide) ?_
      refine v_iret hC dL_objectOfRequest_14 hr (rfl) ?_ (Nat.le_of_ble_eq_true rfl) (Nat.le_of_ble_eq_true rfl)
      exact Or.inr ⟨_, _, z9, by first | rfl | (congr 3), rfl⟩
  refine v_aload_n (i := 2) (q := 1) hC dL_objectOfRequest_0 rfl rfl rfl ?_
  refine v_iconst (q := 2) (v := 0) hC dL_objectOfRequest_1 rfl (by decide) ?_
  refine v_aload_n (i := 0) (q := 3) hC dL_objectOfRequest_2 rfl rfl rfl ?_
  refine v_iload_n (i := 1) (q := 4) hC dL_objectOfRequest_3 rfl rfl rfl ?_
  refine v_callTry (q := 7) (rm := rm_X11_objectOfRequest) hC hT hM k_X11_objectOfRequest im_yX11_objectOfRequest se_yX11_objectOfRequest ml_RL_176 dL_objectOfRequest_4 rfl rfl rfl rfl rfl rfl (Nat.le_of_ble_eq_true rfl) ⟨Nat.le_of_ble_eq_true rfl, Nat.le_of_ble_eq_true rfl⟩ ⟨Nat.le_of_ble_eq_true rfl, Nat.le_of_ble_eq_true rfl⟩ (fun v9 G9 z9 => ?_) HX
  obtain ⟨x9, rfl⟩ := hv _ _ z9
  dsimp only [Option.toList, List.cons_append, List.nil_append]
  refine v_i2l (q := 8) hC dL_objectOfRequest_7 rfl ?_
  refine v_lastO (q := 9) hC dL_objectOfRequest_8 rfl ?_
  refine v_goto (q := 15) hC dL_objectOfRequest_9 (by decide) ?_
  refine v_iconst (q := 16) (v := 0) hC dL_objectOfRequest_15 rfl (by decide) ?_
  refine v_iret hC dL_objectOfRequest_16 hr (rfl) ?_ (Nat.le_of_ble_eq_true rfl) (Nat.le_of_ble_eq_true rfl)
  exact Or.inl ⟨x9, _, z9, rfl, rfl⟩
abbrev rm_L_wasAllowed : Room := { frames := 8, locals := 132, cells := 1, slots := 6 }
set_option maxHeartbeats 4000000 in
set_option maxRecDepth 20000 in
theorem w_L_wasAllowed {l : Launch} (hl : l.stackTraces = false) (Θ : cTH) {Qc : cOut → GS → Prop} (a0 : Int32) (G : GS) (hM : Ct l yX11_wasAllowed cX11_wasAllowed 2 (some .boolean) rm_X11_wasAllowed Θ [.ref (tR Θ 0 14), .int a0] G Qc) (hv : ∀ r G1, Qc (.inl r) G1 → ∃ x : Int32, r = some (.int x)) (hx : ∀ E G1, Qc (.inr E) G1 → E = eX) : CtH l yL_wasAllowed cL_wasAllowed 4 (some .int) [(0, 16, 19, 22)] rm_L_wasAllowed Θ [.ref (tR Θ 0 14), .int a0, .ref (tR Θ 0 38)] G (wQ fZ [eX] Qc) := by
  refine cth_of (LS := [some (.ref (tR Θ 0 14)), some (.int a0), some (.ref (tR Θ 0 38)), none]) hl (by decide +kernel) rfl rfl (Nat.le_of_ble_eq_true rfl) rfl ?_
  intro p e s m args below meth c hC hr hT
  have HX : ∀ E9 G9, Qc (.inr E9) G9 → ∃ (i : Nat) (x : ExceptionTableEntry) (nm : String), (tableOf [(0, 16, 19, 22)])[i]? = some x ∧ (∀ z ∈ (tableOf [(0, 16, 19, 22)]).take i, covers z 4 = false ∨ (z.catchType ≠ 0 ∧ ∃ nm : String, Cond.classLink RL z.catchType nm ∈ wALL ∧ (E9, nm) ∈ ncW)) ∧ covers x 4 = true ∧ x.catchType ≠ 0 ∧ Cond.classLink RL x.catchType nm ∈ wALL ∧ Cond.castable E9 nm ∈ excW ∧ ∀ q9 : Nat, V p l e rm_L_wasAllowed s m args below meth c 4 Θ (wQ fZ [eX] Qc) rm_L_wasAllowed.cells rm_L_wasAllowed.slots (0 + rm_X11_wasAllowed.cells) (0 + rm_X11_wasAllowed.slots) x.handlerPc [some (.ref (tR Θ 0 14)), some (.int a0), some (.ref (tR Θ 0 38)), none] [.ref q9] G9 := by
    intro E9 G9 z9
    rcases hx E9 G9 z9 with rfl
    · refine ⟨0, _, _, rfl, (fun z hz => absurd hz (by simp)), by decide, by decide, cl_RL_22, by decide, fun q9 => ?_⟩
      show V p l e rm_L_wasAllowed s m args below meth c 4 Θ (wQ fZ [eX] Qc) rm_L_wasAllowed.cells rm_L_wasAllowed.slots (0 + rm_X11_wasAllowed.cells) (0 + rm_X11_wasAllowed.slots) 19 [some (.ref (tR Θ 0 14)), some (.int a0), some (.ref (tR Θ 0 38)), none] [.ref q9] G9
      refine v_astore_n (i := 3) (q := 20) hC dL_wasAllowed_19 rfl rfl (lvc rfl) (Nat.le_of_ble_eq_true rfl) (Nat.le_of_ble_eq_true rfl) rfl ?_
      refine v_iconst (q := 21) (v := 1) hC dL_wasAllowed_20 rfl (by decide) ?_
      refine v_iret hC dL_wasAllowed_21 hr (rfl) ?_ (Nat.le_of_ble_eq_true rfl) (Nat.le_of_ble_eq_true rfl)
      exact Or.inr ⟨_, _, z9, by first | rfl | (congr 3), rfl⟩
  refine v_aload_n (i := 2) (q := 1) hC dL_wasAllowed_0 rfl rfl rfl ?_
  refine v_iconst (q := 2) (v := 0) hC dL_wasAllowed_1 rfl (by decide) ?_
  refine v_aload_n (i := 0) (q := 3) hC dL_wasAllowed_2 rfl rfl rfl ?_
  refine v_iload_n (i := 1) (q := 4) hC dL_wasAllowed_3 rfl rfl rfl ?_
  refine v_callTry (q := 7) (rm := rm_X11_wasAllowed) hC hT hM k_X11_wasAllowed im_yX11_wasAllowed se_yX11_wasAllowed ml_RL_179 dL_wasAllowed_4 rfl rfl rfl rfl rfl rfl (Nat.le_of_ble_eq_true rfl) ⟨Nat.le_of_ble_eq_true rfl, Nat.le_of_ble_eq_true rfl⟩ ⟨Nat.le_of_ble_eq_true rfl, Nat.le_of_ble_eq_true rfl⟩ (fun v9 G9 z9 => ?_) HX
  obtain ⟨x9, rfl⟩ := hv _ _ z9
  dsimp only [Option.toList, List.cons_append, List.nil_append]
  refine v_if_eq (q := 14) (q2 := 10) hC dL_wasAllowed_7 (by decide) rfl (fun c_7 => ?_) (fun c_7 => ?_)
  · refine v_lconst (q := 15) (v := 0) hC dL_wasAllowed_14 rfl rfl ?_
    refine v_lastO (q := 16) hC dL_wasAllowed_15 rfl ?_
    refine v_goto (q := 22) hC dL_wasAllowed_16 (by decide) ?_
    refine v_iconst (q := 23) (v := 0) hC dL_wasAllowed_22 rfl (by decide) ?_
    refine v_iret hC dL_wasAllowed_23 hr (rfl) ?_ (Nat.le_of_ble_eq_true rfl) (Nat.le_of_ble_eq_true rfl)
    refine Or.inl ⟨x9, _, z9, rfl, ?_⟩
    first | (rw [fZ, if_pos c_7]) | (rw [fZ, if_neg c_7])
  · refine v_lconst (q := 11) (v := 1) hC dL_wasAllowed_10 rfl rfl ?_
    refine v_goto (q := 15) hC dL_wasAllowed_11 (by decide) ?_
    refine v_lastO (q := 16) hC dL_wasAllowed_15 rfl ?_
    refine v_goto (q := 22) hC dL_wasAllowed_16 (by decide) ?_
    refine v_iconst (q := 23) (v := 0) hC dL_wasAllowed_22 rfl (by decide) ?_
    refine v_iret hC dL_wasAllowed_23 hr (rfl) ?_ (Nat.le_of_ble_eq_true rfl) (Nat.le_of_ble_eq_true rfl)
    refine Or.inl ⟨x9, _, z9, rfl, ?_⟩
    first | (rw [fZ, if_pos c_7]) | (rw [fZ, if_neg c_7])
abbrev rm_L_undo : Room := { frames := 7, locals := 131, cells := 1, slots := 6 }
set_option maxHeartbeats 4000000 in
set_option maxRecDepth 20000 in
theorem w_L_undo {l : Launch} (hl : l.stackTraces = false) (Θ : cTH) {Qc : cOut → GS → Prop} (G : GS) (hM : Ct l yX11_undo cX11_undo 1 (some .int) rm_X11_undo Θ [.ref (tR Θ 0 14)] G Qc) (hv : ∀ r G1, Qc (.inl r) G1 → ∃ x : Int32, r = some (.int x)) (hx : ∀ E G1, Qc (.inr E) G1 → E = eS) : CtH l yL_undo cL_undo 3 (some .int) [(0, 8, 11, 13)] rm_L_undo Θ [.ref (tR Θ 0 14), .ref (tR Θ 0 38)] G (wQ fI [eS] Qc) := by
  refine cth_of (LS := [some (.ref (tR Θ 0 14)), some (.ref (tR Θ 0 38)), none]) hl (by decide +kernel) rfl rfl (Nat.le_of_ble_eq_true rfl) rfl ?_
  intro p e s m args below meth c hC hr hT
  have HX : ∀ E9 G9, Qc (.inr E9) G9 → ∃ (i : Nat) (x : ExceptionTableEntry) (nm : String), (tableOf [(0, 8, 11, 13)])[i]? = some x ∧ (∀ z ∈ (tableOf [(0, 8, 11, 13)]).take i, covers z 3 = false ∨ (z.catchType ≠ 0 ∧ ∃ nm : String, Cond.classLink RL z.catchType nm ∈ wALL ∧ (E9, nm) ∈ ncW)) ∧ covers x 3 = true ∧ x.catchType ≠ 0 ∧ Cond.classLink RL x.catchType nm ∈ wALL ∧ Cond.castable E9 nm ∈ excW ∧ ∀ q9 : Nat, V p l e rm_L_undo s m args below meth c 3 Θ (wQ fI [eS] Qc) rm_L_undo.cells rm_L_undo.slots (0 + rm_X11_undo.cells) (0 + rm_X11_undo.slots) x.handlerPc [some (.ref (tR Θ 0 14)), some (.ref (tR Θ 0 38)), none] [.ref q9] G9 := by
    intro E9 G9 z9
    rcases hx E9 G9 z9 with rfl
    · refine ⟨0, _, _, rfl, (fun z hz => absurd hz (by simp)), by decide, by decide, cl_RL_13, by decide, fun q9 => ?_⟩
      show V p l e rm_L_undo s m args below meth c 3 Θ (wQ fI [eS] Qc) rm_L_undo.cells rm_L_undo.slots (0 + rm_X11_undo.cells) (0 + rm_X11_undo.slots) 11 [some (.ref (tR Θ 0 14)), some (.ref (tR Θ 0 38)), none] [.ref q9] G9
      refine v_astore_n (i := 2) (q := 12) hC dL_undo_11 rfl rfl (lvc rfl) (Nat.le_of_ble_eq_true rfl) (Nat.le_of_ble_eq_true rfl) rfl ?_
      refine v_iconst (q := 13) (v := 1) hC dL_undo_12 rfl (by decide) ?_
      refine v_iret hC dL_undo_13 hr (rfl) ?_ (Nat.le_of_ble_eq_true rfl) (Nat.le_of_ble_eq_true rfl)
      exact Or.inr ⟨_, _, z9, by first | rfl | (congr 3), rfl⟩
  refine v_aload_n (i := 1) (q := 1) hC dL_undo_0 rfl rfl rfl ?_
  refine v_iconst (q := 2) (v := 0) hC dL_undo_1 rfl (by decide) ?_
  refine v_aload_n (i := 0) (q := 3) hC dL_undo_2 rfl rfl rfl ?_
  refine v_callTry (q := 6) (rm := rm_X11_undo) hC hT hM k_X11_undo im_yX11_undo se_yX11_undo ml_RL_182 dL_undo_3 rfl rfl rfl rfl rfl rfl (Nat.le_of_ble_eq_true rfl) ⟨Nat.le_of_ble_eq_true rfl, Nat.le_of_ble_eq_true rfl⟩ ⟨Nat.le_of_ble_eq_true rfl, Nat.le_of_ble_eq_true rfl⟩ (fun v9 G9 z9 => ?_) HX
  obtain ⟨x9, rfl⟩ := hv _ _ z9
  dsimp only [Option.toList, List.cons_append, List.nil_append]
  refine v_i2l (q := 7) hC dL_undo_6 rfl ?_
  refine v_lastO (q := 8) hC dL_undo_7 rfl ?_
  refine v_goto (q := 14) hC dL_undo_8 (by decide) ?_
  refine v_iconst (q := 15) (v := 0) hC dL_undo_14 rfl (by decide) ?_
  refine v_iret hC dL_undo_15 hr (rfl) ?_ (Nat.le_of_ble_eq_true rfl) (Nat.le_of_ble_eq_true rfl)
  exact Or.inl ⟨x9, _, z9, rfl, rfl⟩
abbrev rm_L_restore : Room := { frames := 8, locals := 134, cells := 2, slots := 12 }
set_option maxHeartbeats 4000000 in
set_option maxRecDepth 20000 in
theorem w_L_restore {l : Launch} (hl : l.stackTraces = false) (Θ : cTH) {Qc : cOut → GS → Prop} (a0 : Int32) (G : GS) (hM : Ct l yX11_restore cX11_restore 3 (some .int) rm_X11_restore Θ [.ref (tR Θ 0 14), .int a0] G Qc) (hv : ∀ r G1, Qc (.inl r) G1 → ∃ x : Int32, r = some (.int x)) (hx : ∀ E G1, Qc (.inr E) G1 → E = eA ∨ E = eS) : CtH l yL_restore cL_restore 4 (some .int) [(0, 9, 12, 49), (0, 9, 15, 13)] rm_L_restore Θ [.ref (tR Θ 0 14), .int a0, .ref (tR Θ 0 38)] G (wQ fI [eA, eS] Qc) := by
  refine cth_of (LS := [some (.ref (tR Θ 0 14)), some (.int a0), some (.ref (tR Θ 0 38)), none]) hl (by decide +kernel) rfl rfl (Nat.le_of_ble_eq_true rfl) rfl ?_
  intro p e s m args below meth c hC hr hT
  have HX : ∀ E9 G9, Qc (.inr E9) G9 → ∃ (i : Nat) (x : ExceptionTableEntry) (nm : String), (tableOf [(0, 9, 12, 49), (0, 9, 15, 13)])[i]? = some x ∧ (∀ z ∈ (tableOf [(0, 9, 12, 49), (0, 9, 15, 13)]).take i, covers z 4 = false ∨ (z.catchType ≠ 0 ∧ ∃ nm : String, Cond.classLink RL z.catchType nm ∈ wALL ∧ (E9, nm) ∈ ncW)) ∧ covers x 4 = true ∧ x.catchType ≠ 0 ∧ Cond.classLink RL x.catchType nm ∈ wALL ∧ Cond.castable E9 nm ∈ excW ∧ ∀ q9 : Nat, V p l e rm_L_restore s m args below meth c 4 Θ (wQ fI [eA, eS] Qc) rm_L_restore.cells rm_L_restore.slots (0 + rm_X11_restore.cells) (0 + rm_X11_restore.slots) x.handlerPc [some (.ref (tR Θ 0 14)), some (.int a0), some (.ref (tR Θ 0 38)), none] [.ref q9] G9 := by
    intro E9 G9 z9
    rcases hx E9 G9 z9 with rfl | rfl
    · refine ⟨0, _, _, rfl, (fun z hz => absurd hz (by simp)), by decide, by decide, cl_RL_49, by decide, fun q9 => ?_⟩
      show V p l e rm_L_restore s m args below meth c 4 Θ (wQ fI [eA, eS] Qc) rm_L_restore.cells rm_L_restore.slots (0 + rm_X11_restore.cells) (0 + rm_X11_restore.slots) 12 [some (.ref (tR Θ 0 14)), some (.int a0), some (.ref (tR Θ 0 38)), none] [.ref q9] G9
      refine v_astore_n (i := 3) (q := 13) hC dL_restore_12 rfl rfl (lvc rfl) (Nat.le_of_ble_eq_true rfl) (Nat.le_of_ble_eq_true rfl) rfl ?_
      refine v_iconst (q := 14) (v := 1) hC dL_restore_13 rfl (by decide) ?_
      refine v_iret hC dL_restore_14 hr (rfl) ?_ (Nat.le_of_ble_eq_true rfl) (Nat.le_of_ble_eq_true rfl)
      exact Or.inr ⟨_, _, z9, by first | rfl | (congr 3), rfl⟩
    · refine ⟨1, _, _, rfl, (List.forall_mem_cons.mpr ⟨Or.inr ⟨by decide, _, cl_RL_49, by decide⟩, List.forall_mem_nil _⟩), by decide, by decide, cl_RL_13, by decide, fun q9 => ?_⟩
      show V p l e rm_L_restore s m args below meth c 4 Θ (wQ fI [eA, eS] Qc) rm_L_restore.cells rm_L_restore.slots (0 + rm_X11_restore.cells) (0 + rm_X11_restore.slots) 15 [some (.ref (tR Θ 0 14)), some (.int a0), some (.ref (tR Θ 0 38)), none] [.ref q9] G9
      refine v_astore_n (i := 3) (q := 16) hC dL_restore_15 rfl rfl (lvc rfl) (Nat.le_of_ble_eq_true rfl) (Nat.le_of_ble_eq_true rfl) rfl ?_
      refine v_iconst (q := 17) (v := 2) hC dL_restore_16 rfl (by decide) ?_
      refine v_iret hC dL_restore_17 hr (rfl) ?_ (Nat.le_of_ble_eq_true rfl) (Nat.le_of_ble_eq_true rfl)
      exact Or.inr ⟨_, _, z9, by first | rfl | (congr 3), rfl⟩
  refine v_aload_n (i := 2) (q := 1) hC dL_restore_0 rfl rfl rfl ?_
  refine v_iconst (q := 2) (v := 0) hC dL_restore_1 rfl (by decide) ?_
  refine v_aload_n (i := 0) (q := 3) hC dL_restore_2 rfl rfl rfl ?_
  refine v_iload_n (i := 1) (q := 4) hC dL_restore_3 rfl rfl rfl ?_
  refine v_callTry (q := 7) (rm := rm_X11_restore) hC hT hM k_X11_restore im_yX11_restore se_yX11_restore ml_RL_188 dL_restore_4 rfl rfl rfl rfl rfl rfl (Nat.le_of_ble_eq_true rfl) ⟨Nat.le_of_ble_eq_true rfl, Nat.le_of_ble_eq_true rfl⟩ ⟨Nat.le_of_ble_eq_true rfl, Nat.le_of_ble_eq_true rfl⟩ (fun v9 G9 z9 => ?_) HX
  obtain ⟨x9, rfl⟩ := hv _ _ z9
  dsimp only [Option.toList, List.cons_append, List.nil_append]
  refine v_i2l (q := 8) hC dL_restore_7 rfl ?_
  refine v_lastO (q := 9) hC dL_restore_8 rfl ?_
  refine v_goto (q := 18) hC dL_restore_9 (by decide) ?_
  refine v_iconst (q := 19) (v := 0) hC dL_restore_18 rfl (by decide) ?_
  refine v_iret hC dL_restore_19 hr (rfl) ?_ (Nat.le_of_ble_eq_true rfl) (Nat.le_of_ble_eq_true rfl)
  exact Or.inl ⟨x9, _, z9, rfl, rfl⟩
