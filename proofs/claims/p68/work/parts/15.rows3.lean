/-! Math.min, arraycopy, constants of the pool, switches of three, lengths and places of rows of references. -/
theorem cell_ext {cA : ClassId} {n : Nat} {f g : Nat → Int32} (h : ∀ j, j < n → f j = g j) : vp_cell cA (n, .inl f) = vp_cell cA (n, .inl g) := by
  rw [vp_cell_i, vp_cell_i]
  unfold arrV
  have e : (Array.ofFn (n := n) fun j => Value.int (f j.val)) = Array.ofFn (n := n) fun j => Value.int (g j.val) := by
    congr 1
    funext j
    rw [h j.val j.isLt]
  rw [e]
theorem va_P_ext {D : va_G} {cl : List vw_C} {ws : va_W} {H : Heap} (h : va_P D cl ws H) {k n a : Nat} {cA : ClassId} {f g : Nat → Int32} (hk : ws[k]? = some (a, .inl (cA, n, .inl f))) (hfg : ∀ j, j < n → f j = g j) : va_P D cl (ws.set k (a, .inl (cA, n, .inl g))) H := by
  intro i q hq
  by_cases hi : i = k
  · subst hi
    have hlt : i < ws.length := (List.getElem?_eq_some_iff.mp hk).1
    rw [List.getElem?_set_self hlt] at hq
    cases hq
    have h1 := h i _ hk
    show H[a]? = some (vp_cell cA (n, .inl g))
    rw [← cell_ext hfg]
    exact h1
  · rw [List.getElem?_set_ne (fun z => hi z.symm)] at hq
    exact h i q hq
section ROWS3
variable {p : Program} {l : Launch} {e : Env} {R : Room} {s : State} {m : MethodId} {args : Array Value} {below : List Frame} {meth : Method} {c : Code} {cc : ByteArray} {nL : Nat} {own : String} {Θ : cTH} {Qp : cOut → GS → Prop} {Q9 : State → Prop} {mc ms k n pc q q2 : Nat} {LS : List (Option Value)} {st rest : List Value} {G : GS}
theorem v_mmin (hC : cC p l s m args meth c cc nL own Θ) {x y : Int32} {idx : Nat} (d : decode cc pc = .ok (.invokestatic idx, 3)) (hq : pc + 3 = q) (hml : Cond.methodLink own idx Lib.Math.min.name ∈ wALL) (hR : 1 ≤ R.frames ∧ (rest.map fun v => v.category).sum + 13 ≤ R.locals ∧ k ≤ R.cells ∧ n ≤ R.slots) (kk : VG p l e R s m args below meth c nL Θ Q9 k n q LS (.int (if y < x then y else x) :: rest) G) : VG p l e R s m args below meth c nL Θ Q9 k n pc LS (.int y :: .int x :: rest) G := by
  subst hq
  exact fun H locs ls hH hS hl => va_mmin hC.1 hC.2.1 (by rw [hl.1, hC.2.2.1]) (cC_own hC) (cC_hts hC hml) (cC_hts hC st_min) (cC_hts hC in_java_lang_Math) (cC_hts hC cd_min) hR.1 hR.2.1 hR.2.2.1 hR.2.2.2 d (kk H locs ls hH hS hl)
theorem v_ldcw (hC : cC p l s m args meth c cc nL own Θ) {idx : Nat} {v : Int32} (d : decode cc pc = .ok (.ldc_w idx, 3)) (hq : pc + 3 = q) (hw : Cond.constant own idx v ∈ wALL) (kk : VG p l e R s m args below meth c nL Θ Q9 k n q LS (.int v :: rest) G) : VG p l e R s m args below meth c nL Θ Q9 k n pc LS rest G := by
  subst hq; exact v_lift0 (fun H locs ls Q w => lv_ldcw hC.1 hC.2.1 (cC_own hC) (cC_hts hC hw) d w) kk
theorem v_tab3 (hC : cC p l s m args meth c cc nL own Θ) {dflt o0 o1 o2 : Int} {len t0 t1 t2 t3 : Nat} {x : Int32} (d : decode cc pc = .ok (.tableswitch dflt 0 2 #[o0, o1, o2], len)) (h0 : (pc : Int) + o0 = (t0 : Int)) (h1 : (pc : Int) + o1 = (t1 : Int)) (h2 : (pc : Int) + o2 = (t2 : Int)) (h3 : (pc : Int) + dflt = (t3 : Int))
    (k0 : x = 0 → VG p l e R s m args below meth c nL Θ Q9 k n t0 LS rest G) (k1 : x = 1 → VG p l e R s m args below meth c nL Θ Q9 k n t1 LS rest G) (k2 : x = 2 → VG p l e R s m args below meth c nL Θ Q9 k n t2 LS rest G) (k3 : ¬ x = 0 → ¬ x = 1 → ¬ x = 2 → VG p l e R s m args below meth c nL Θ Q9 k n t3 LS rest G) : VG p l e R s m args below meth c nL Θ Q9 k n pc LS (.int x :: rest) G := by
  intro H locs ls hH hS hl
  by_cases e0 : x = 0
  · subst e0
    exact lv_tableIn hC.1 hC.2.1 d (by decide) (by decide) rfl h0 (k0 rfl H locs ls hH hS hl)
  · by_cases e1 : x = 1
    · subst e1
      exact lv_tableIn hC.1 hC.2.1 d (by decide) (by decide) rfl h1 (k1 rfl H locs ls hH hS hl)
    · by_cases e2 : x = 2
      · subst e2
        exact lv_tableIn hC.1 hC.2.1 d (by decide) (by decide) rfl h2 (k2 rfl H locs ls hH hS hl)
      · refine lv_tableOut hC.1 hC.2.1 d ?_ h3 (k3 e0 e1 e2 H locs ls hH hS hl)
        have n0 : x.toInt ≠ 0 := fun z => e0 (Int32.toInt_inj.mp z)
        have n1 : x.toInt ≠ 1 := fun z => e1 (Int32.toInt_inj.mp z)
        have n2 : x.toInt ≠ 2 := fun z => e2 (Int32.toInt_inj.mp z)
        omega
theorem v_aleni (hC : cC p l s m args meth c cc nL own Θ) {r o N : Nat} {f : Nat → Int32} {v : Int32} (d : decode cc pc = .ok (.arraylength, 1)) (hq : pc + 1 = q) (hid : okI G.2.2.1 r o = true) (hce : cellS Θ r o (G.1 r o) (G.2.1 r o) G.2.2 = .inl (tI Θ, N, .inl f)) (hv : Int32.ofNat N = v)
    (kk : VG p l e R s m args below meth c nL Θ Q9 k n q LS (.int v :: rest) G) : VG p l e R s m args below meth c nL Θ Q9 k n pc LS (.ref (tR Θ r o) :: rest) G := by
  subst hq
  intro H locs ls hH hS hl
  obtain ⟨k9, -, hk9⟩ := cW_get Θ G hid
  rw [hce] at hk9
  exact va_alen hC.1 hC.2.1 (cC_K hC) hH.1 k9 0 hk9 rfl hv d (kk H locs ls hH hS hl)
theorem v_alens (hC : cC p l s m args meth c cc nL own Θ) {r o N : Nat} {f : Nat → Option Nat} {v : Int32} (d : decode cc pc = .ok (.arraylength, 1)) (hq : pc + 1 = q) (hid : okI G.2.2.1 r o = true) (hce : cellS Θ r o (G.1 r o) (G.2.1 r o) G.2.2 = .inl (tS Θ, N, .inr (.inr (.inr (.inr f))))) (hv : Int32.ofNat N = v)
    (kk : VG p l e R s m args below meth c nL Θ Q9 k n q LS (.int v :: rest) G) : VG p l e R s m args below meth c nL Θ Q9 k n pc LS (.ref (tR Θ r o) :: rest) G := by
  subst hq
  intro H locs ls hH hS hl
  obtain ⟨k9, -, hk9⟩ := cW_get Θ G hid
  rw [hce] at hk9
  exact va_alen hC.1 hC.2.1 (cC_K hC) hH.1 k9 1 hk9 rfl hv d (kk H locs ls hH hS hl)
theorem v_aald (hC : cC p l s m args meth c cc nL own Θ) {r o N : Nat} {f : Nat → Option Nat} {i : Int32} {v : Value} (d : decode cc pc = .ok (.aaload, 1)) (hq : pc + 1 = q) (hid : okI G.2.2.1 r o = true) (hce : cellS Θ r o (G.1 r o) (G.2.1 r o) G.2.2 = .inl (tS Θ, N, .inr (.inr (.inr (.inr f))))) (hin : vp_in i N) (hv : va_rf (f i.toNatClampNeg) = v)
    (kk : VG p l e R s m args below meth c nL Θ Q9 k n q LS (v :: rest) G) : VG p l e R s m args below meth c nL Θ Q9 k n pc LS (.int i :: .ref (tR Θ r o) :: rest) G := by
  subst hq; subst hv
  intro H locs ls hH hS hl
  obtain ⟨k9, -, hk9⟩ := cW_get Θ G hid
  rw [hce] at hk9
  exact va_aldq hC.1 hC.2.1 (cC_K hC) hH.1 k9 1 hk9 rfl hin d (kk H locs ls hH hS hl)
/-- the whole of a row of ints onto another one of that length -/
theorem v_acopy (hC : cC p l s m args meth c cc nL own Θ) {r o r1 o1 N idx : Nat} {z : Int32} (d : decode cc pc = .ok (.invokestatic idx, 3)) (hq : pc + 3 = q) (hml : Cond.methodLink own idx arraycopyName ∈ wALL) (hid : okI G.2.2.1 r o = true) (hid1 : okI G.2.2.1 r1 o1 = true) (hN : N < 2 ^ 31 := by decide) (hz : z = nI N := by rfl) (hce : ∀ (f a : Nat → Int32), cellS Θ r o f a G.2.2 = .inl (tI Θ, N, .inl a) := by exact fun _ _ => rfl) (hce1 : ∀ (f a : Nat → Int32), cellS Θ r1 o1 f a G.2.2 = .inl (tI Θ, N, .inl a) := by exact fun _ _ => rfl)
    (hR : 1 ≤ R.frames ∧ (rest.map fun v => v.category).sum + 40 ≤ R.locals := by exact ⟨Nat.le_of_ble_eq_true rfl, Nat.le_of_ble_eq_true rfl⟩)
    (kk : VG p l e R s m args below meth c nL Θ Q9 k n q LS rest (putA G r1 o1 (G.2.1 r o))) : VG p l e R s m args below meth c nL Θ Q9 k n pc LS (.int z :: .int 0 :: .ref (tR Θ r1 o1) :: .int 0 :: .ref (tR Θ r o) :: rest) G := by
  subst hq; subst hz
  intro H locs ls hH hS hl
  obtain ⟨k9, -, hk9⟩ := cW_get Θ G hid
  obtain ⟨k8, hi8, hk8⟩ := cW_get Θ G hid1
  rw [hce] at hk9
  rw [hce1] at hk8
  have e0 : (0 : Int32).toNatClampNeg = 0 := rfl
  have eN : (nI N).toNatClampNeg = N := nI_clamp hN
  refine va_copyi hC.1 hC.2.1 (by rw [hl.1, hC.2.2.1]) (cC_own hC) (cC_hts hC hml) (cC_hts hC na_arraycopyName) (cC_hts hC st_arraycopyName) (cC_hts hC in_java_lang_System) (cC_K hC) hH.1 hH.2 hS k9 k8 0 0 hk9 hk8 rfl rfl rfl (by decide) (by decide) (nI_pos hN) (by rw [e0, eN]; omega) (by rw [e0, eN]; omega) (fun _ _ => rfl) hR.1 (Nat.le_trans (Nat.add_le_add_left (by decide) _) hR.2) d (fun H1 locs1 hP hD hS1 => ?_)
  rw [e0, eN] at hP hD
  have hlt : k8 < (cW Θ G).length := (List.getElem?_eq_some_iff.mp hk8).1
  have hw : ((cW Θ G).set k8 (tR Θ r1 o1, .inl (tI Θ, N, .inl (va_cpy (G.2.1 r o) (G.2.1 r1 o1) 0 0 N)))).set k8 (tR Θ r1 o1, .inl (tI Θ, N, .inl (G.2.1 r o))) = cW Θ (putA G r1 o1 (G.2.1 r o)) := by
    rw [List.set_set]
    exact cW_put hH.2 hi8 rfl putA_ne (by rw [putA_same]; exact hce1 _ _)
  have hP2 := va_P_ext (g := G.2.1 r o) hP (List.getElem?_set_self hlt) (fun j hj => by rw [pk_cpy_in (by omega) (by omega)]; simp)
  have hD2 := va_D.set (e := .inl (tI Θ, N, .inl (G.2.1 r o))) hD (List.getElem?_set_self hlt)
  rw [hw] at hP2 hD2
  exact kk H1 locs1 ls ⟨hP2, hD2⟩ hS1 hl
end ROWS3
theorem vx_ofWF {l : Launch} {y : MethodName} {ws ws' : List Cond} {rm : Room} {Pc : Array Value → State → Prop} {Qc : Array Value → State → Outcome → State → Prop} {XC : String → State → State → Prop} {mc ms : Nat} {free : Addr → Prop} {cc : ByteArray} {maxL : Nat} {ret : Option FieldType}
    (hy : plainFor y = true) (hw : ws = Cond.code y cc maxL ret :: ws')
    (body : ∀ p e s m args below meth c s₁, BodyLoose p l y (headSpec ws rm) cc maxL ret e s m args below meth c s₁ → c.maxLocals = maxL → (∀ x ∈ c.exceptionTable.toList, False) → Pc args s →
      W p l e (headSpec ws rm).room s m args below meth c s.heap [] 0 0 (vx_MQ below Qc XC args s mc ms free) (entryFrame m args maxL)) : vx_Met l y ws rm Pc Qc XC mc ms free := by
  refine MetFree.of_bodySF (code := cc) (maxLocals := maxL) (ret := ret) hy ?_ ?_
  · intro args s m h hn
    obtain ⟨meth, c, h1, h2, h3, h4, h5, h6, -, -⟩ := Cond.code_spec hn (atoms_spec (ws := ws) h _ (by rw [hw]; exact List.mem_cons_self))
    exact ⟨meth, c, h1, h2, h3, h4, h5, h6⟩
  · intro p e s m args below meth c s₁ B hml hP _
    have hh0 : s₁.heap = s.heap := by rw [B.state]; rfl
    have ht : ∀ x ∈ c.exceptionTable.toList, False := by
      obtain ⟨meth9, c9, h1, h2, -, -, -, -, h7, -⟩ := Cond.code_spec B.named (atoms_spec (ws := ws) B.pre _ (by rw [hw]; exact List.mem_cons_self))
      cases Option.some.inj (h1.symm.trans B.method)
      cases Option.some.inj (h2.symm.trans (Stand.of_body B).code)
      intro x hx
      rw [Array.isEmpty_iff.mp h7] at hx
      cases hx
    obtain ⟨t, a1, o, b1, b2, b3⟩ := body p e s m args below meth c s₁ B hml ht hP s₁ hh0 (Stand.of_body B)
    exact ⟨t, o, a1, b1, b2, b3⟩
theorem ct_ofF {l : Launch} {y : MethodName} {cc : ByteArray} {n : Nat} {ret : Option FieldType} {rm : Room} {Θ : cTH} {as : List Value} {G : GS} {Qp : cOut → GS → Prop} {LS : List (Option Value)} (hl : l.stackTraces = false) (hy : plainFor y = true) (hc : as.all (fun v => v.category == 1) = true) (hn : as.length ≤ n) (hLS : as.map some ++ List.replicate (n - as.length) none = LS)
    (body : ∀ (p : Program) (e : Env) (s : State) (m : MethodId) (args : Array Value) (below : List Frame) (meth : Method) (c : Code), cC p l s m args meth c cc n y.cls Θ → meth.sig.returnType = ret → V p l e rm s m args below meth c n Θ Qp rm.cells rm.slots 0 0 0 LS [] G) : Ct l y cc n ret rm Θ as G Qp := by
  refine vx_ofWF (cc := cc) (maxL := n) (ret := ret) hy rfl ?_
  intro p e s m args below meth c s₁ B hml htb hP
  obtain ⟨rfl, hK, hG, hZ, hz⟩ := hP
  have hts := atoms_spec (ws := Cond.code y cc n ret :: wALL) B.pre
  have hC : cC p l s m as.toArray meth c cc n y.cls Θ := ⟨B.exec, B.bytes, hml, findClass_of_methodNamed B.named, fun w hw => hts w (List.mem_cons_of_mem _ hw), B.notSynchronized, hK, hl, fun _ => htb, hZ, hz⟩
  have hb := body p e s m as.toArray below meth c hC B.returns
  obtain ⟨h1, h2⟩ := lvH_entry hc hn
  have hls := h2 _ (lv_entry as h1)
  rw [lg_entry_eq]
  refine hb s.heap [] _ hG va_S.rf (lvH_sub hls ?_)
  intro i v hi
  rw [← hLS] at hi
  by_cases hlt : i < (as.map some).length
  · rw [List.getElem?_append_left hlt] at hi; exact hi
  · rw [List.getElem?_append_right (Nat.not_lt.mp hlt)] at hi
    have h9 := List.eq_of_mem_replicate (List.mem_of_getElem? hi)
    cases h9
