/-! save on the machine: a slot that was empty gets a new State; from then on its region lies there. -/
def Th (Θ Θ2 : cTH) : Prop := ∃ ρ : Nat → Nat → Nat, Θ2 = (Θ.1, ρ, Θ.2.2) ∧ ∀ r o, (r < 6 ∨ 8 ≤ r) → ρ r o = tR Θ r o
theorem Th.refl (Θ : cTH) : Th Θ Θ := ⟨tR Θ, rfl, fun _ _ _ => rfl⟩
theorem Th.r {Θ Θ2 : cTH} (h : Th Θ Θ2) {r : Nat} (o : Nat) (hr : r < 6 ∨ 8 ≤ r) : tR Θ2 r o = tR Θ r o := by
  obtain ⟨ρ, rfl, h2⟩ := h
  exact h2 r o hr
/-- only the region of the JDK's texts is the same -/
def Th8 (Θ Θ2 : cTH) : Prop := ∃ ρ : Nat → Nat → Nat, Θ2 = (Θ.1, ρ, Θ.2.2) ∧ ∀ o, ρ 8 o = tR Θ 8 o
theorem Th.t8 {Θ Θ2 : cTH} (h : Th Θ Θ2) : Th8 Θ Θ2 := by
  obtain ⟨ρ, h1, h2⟩ := h
  exact ⟨ρ, h1, fun o => h2 8 o (Or.inr (by decide))⟩
theorem Th8.r {Θ Θ2 : cTH} (h : Th8 Θ Θ2) (o : Nat) : tR Θ2 8 o = tR Θ 8 o := by
  obtain ⟨ρ, rfl, h2⟩ := h
  exact h2 o
theorem Th8.K {Θ Θ2 : cTH} (h : Th8 Θ Θ2) {U : State} (hK : cK Θ U) : cK Θ2 U := by
  have e0 := h.r 0
  have e1 := h.r 1
  obtain ⟨ρ, rfl, _⟩ := h
  obtain ⟨h1, h2, h3, h4, ⟨h6, h7⟩, h8⟩ := hK
  exact ⟨h1, h2, h3, h4, ⟨by rw [e0]; exact h6, by rw [e1]; exact h7⟩, h8⟩
theorem Th8.Z {Θ Θ2 : cTH} (h : Th8 Θ Θ2) {U : State} {H : Heap} (hZ : cZ Θ U H) : cZ Θ2 U H := by
  have e8 : ∀ o, tR Θ2 8 o = tR Θ 8 o := fun o => h.r o
  obtain ⟨ρ, rfl, _⟩ := h
  obtain ⟨h1, h2, h3, h4, h5⟩ := hZ
  refine ⟨h1, h2, h3, h4, fun i hi => ?_⟩
  have h6 := h5 i hi
  rw [e8 i, e8 (i + 2)]
  exact h6
section TH
variable {p : Program} {l : Launch} {e : Env} {R : Room} {s : State} {m : MethodId} {args : Array Value} {below : List Frame} {meth : Method} {c : Code} {cc : ByteArray} {nL : Nat} {own : String} {Θ Θ2 : cTH} {Qp : cOut → GS → Prop} {Q9 : State → Prop} {mc ms2 k n pc q : Nat} {LS : List (Option Value)} {st rest : List Value} {G : GS}
theorem Th8.C (h : Th8 Θ Θ2) (hC : cC p l s m args meth c cc nL own Θ) : cC p l s m args meth c cc nL own Θ2 := by
  have hK2 := h.K hC.2.2.2.2.2.2.1
  have hZ2 := h.Z hC.2.2.2.2.2.2.2.2.2.1
  obtain ⟨ρ, rfl, _⟩ := h
  obtain ⟨h1, h2, h3, h4, h5, h6, -, h8, h9, -, h11⟩ := hC
  exact ⟨h1, h2, h3, h4, h5, h6, hK2, h8, h9, hZ2, h11⟩
theorem Th.C (h : Th Θ Θ2) (hC : cC p l s m args meth c cc nL own Θ) : cC p l s m args meth c cc nL own Θ2 := h.t8.C hC
theorem Th.S (h : Th Θ Θ2) {H0 H : Heap} {locs : List Loc} (hS : va_S (tA Θ) H0 H locs) : va_S (tA Θ2) H0 H locs := by
  obtain ⟨ρ, rfl, _⟩ := h
  exact hS
theorem Th.S2 (h : Th Θ Θ2) {H0 H : Heap} {locs : List Loc} (hS : va_S (tA Θ2) H0 H locs) : va_S (tA Θ) H0 H locs := by
  obtain ⟨ρ, rfl, _⟩ := h
  exact hS
/-- the end of a call in which regions may have come -/
def cQS (Θ : cTH) (Qp : cOut → GS → Prop) : Array Value → State → Outcome → State → Prop := fun _ st oc t => (∃ (r : Option Value) (Θ2 : cTH) (G1 : GS), oc = .returned r ∧ Th Θ Θ2 ∧ Qp (.inl r) G1 ∧ cG Θ2 G1 t.heap) ∧ va_F (tA Θ) st t
theorem v_iretS (hC : cC p l s m args meth c cc nL own Θ2) (hT : Th Θ Θ2) {x : Int32} {ty : FieldType} (d : decode cc pc = .ok (.ireturn, 1)) (hr : meth.sig.returnType = some ty) (hn : narrow ty (.int x) = .int x) (hq : Qp (.inl (some (.int x))) G) (hk : k ≤ mc) (hm : n ≤ ms2) : VG p l e R s m args below meth c nL Θ2 (vx_MQ below (cQS Θ Qp) (cX Θ Qp) args s mc ms2 (tA Θ)) k n pc LS [.int x] G := by
  intro H locs ls hH hS2 hl
  have hS := hT.S2 hS2
  refine W.widen hk hm ?_
  exact vx_ret (W.zret hC.1 hC.2.1 hr hn (fun t ht hW => ⟨⟨some (.int x), Θ2, G, rfl, hT, hq, by rw [ht]; exact hH⟩, hS.F ht⟩) hS.2.2 d hC.2.2.2.2.2.1)
/-- a call that doesn't throw, in any walk -/
theorem v_of_runN {mc1 ms1 : Nat} {a9 : Array Value} {Qc : cOut → GS → Prop} (hrun : ∀ (H : Heap) (locs : List Loc) (ls : Array Slot), cG Θ G H → va_S (tA Θ) s.heap H locs → lvH ls nL LS → vx_Run p l e R s m args below meth c H locs k n mc1 ms1 (F0 m pc ls st) rest (cQ Θ Qc a9) (cX Θ Qc) (tA Θ)) (hq : pc + 3 = q)
    (kk : ∀ (r : Option Value) (G1 : GS), Qc (.inl r) G1 → VG p l e R s m args below meth c nL Θ Q9 (k + mc1) (n + ms1) q LS (r.toList ++ rest) G1) (kn : ∀ (E : String) (G1 : GS), Qc (.inr E) G1 → False) : VG p l e R s m args below meth c nL Θ Q9 k n pc LS st G := by
  subst hq
  intro H locs ls hH hS hl T hT X
  rcases hrun H locs ls hH hS hl T hT X with ⟨v, st₀, t, T', L, h0, X', hL, e1, e2, ⟨⟨r, G1, hv, hp, hb⟩, hF⟩, sx⟩ | ⟨q, st₀, t, T', L, E, ce, h0, X', hL, e1, e2, ⟨⟨G1, hp, hb⟩, hF⟩, hce, hcv, hcl, sx⟩
  · injection hv with hv9; subst hv9
    obtain ⟨k1, k2, k3⟩ := vx_keep h0 e1 hS (fun _ _ h => h) (fun _ h => h) hL hF
    obtain ⟨t2, a1, b1⟩ := kk _ G1 hp T'.heap (locs ++ L) ls (by rw [e1]; exact hb) k3 hl T' rfl X'
    exact ⟨t2, sx t2 a1, b1⟩
  · exact (kn E G1 hp).elim
/-- a call that may throw, where nothing catches -/
theorem v_of_runQ (hC : cC p l s m args meth c cc nL own Θ) (ho : own ≠ RL) {QC : Array Value → State → Outcome → State → Prop} {XC : String → State → State → Prop} {mc1 ms1 : Nat} {a9 : Array Value} {Qc : cOut → GS → Prop} (hrun : ∀ (H : Heap) (locs : List Loc) (ls : Array Slot), cG Θ G H → va_S (tA Θ) s.heap H locs → lvH ls nL LS → vx_Run p l e R s m args below meth c H locs k n mc1 ms1 (F0 m pc ls st) rest (cQ Θ Qc a9) (cX Θ Qc) (tA Θ)) (hq : pc + 3 = q)
    (kk : ∀ (r : Option Value) (G1 : GS), Qc (.inl r) G1 → VG p l e R s m args below meth c nL Θ (vx_MQ below QC XC args s mc ms2 (tA Θ)) (k + mc1) (n + ms1) q LS (r.toList ++ rest) G1) (kx : ∀ (E : String) (G1 : GS) (t : State), Qc (.inr E) G1 → cG Θ G1 t.heap → va_F (tA Θ) s t → XC E s t) (hk : k + mc1 ≤ mc) (hm : n + ms1 ≤ ms2) : VG p l e R s m args below meth c nL Θ (vx_MQ below QC XC args s mc ms2 (tA Θ)) k n pc LS st G := by
  subst hq
  intro H locs ls hH hS hl T hT X
  rcases hrun H locs ls hH hS hl T hT X with ⟨v, st₀, t, T', L, h0, X', hL, e1, e2, ⟨⟨r, G1, hv, hp, hb⟩, hF⟩, sx⟩ | ⟨q, st₀, t, T', L, E, ce, h0, X', hL, e1, e2, ⟨⟨G1, hp, hb⟩, hF⟩, hce, hcv, hcl, sx⟩
  · injection hv with hv9; subst hv9
    obtain ⟨k1, k2, k3⟩ := vx_keep h0 e1 hS (fun _ _ h => h) (fun _ h => h) hL hF
    obtain ⟨t2, a1, b1⟩ := kk _ G1 hp T'.heap (locs ++ L) ls (by rw [e1]; exact hb) k3 hl T' rfl X'
    exact ⟨t2, sx t2 a1, b1⟩
  · obtain ⟨k1, k2, k3⟩ := vx_keep h0 e1 hS (fun _ _ h => h) (fun _ h => h) hL hF
    obtain ⟨t2, a1, b1⟩ := (vx_out (p := p) (l := l) (e := e) (R := R) (below := below) (meth := meth) (args := args) (Qc := QC) (XC := XC) (ls := ls) (rest := rest) (pc := pc) (locs := locs ++ L) (H := T'.heap) (free := tA Θ) (mc := mc) (ms := ms2) (fun x hx => absurd (hC.2.2.2.2.2.2.2.2.1 ho x hx) id) hC.2.2.2.2.2.1 (by rw [e1]; exact hce) hcv hcl (fun t9 ht9 ha9 => kx E G1 t9 hp (by rw [ht9, e1]; exact hb) (k3.F ht9)) k3.2.2 hk hm) T' rfl X'
    exact ⟨t2, sx.trans a1, b1⟩
theorem v_callVN (hC : cC p l s m args meth c cc nL own Θ) {y : MethodName} {cy : ByteArray} {nY na : Nat} {ret : Option FieldType} {rm : Room} {idx r o ci N : Nat} {T : u_T} {fs As : List Value} {Qc : cOut → GS → Prop} (hM : Ct l y cy nY ret rm Θ (.ref (tR Θ r o) :: As) G Qc) (ky : kY y cy nY ret na) (him : Cond.instanceMethod y ∈ wALL) (hse : Cond.selects y.cls y y ∈ wALL) (hml : Cond.methodLink own idx y ∈ wALL) (d : decode cc pc = .ok (.invokevirtual idx, 3)) (hq : pc + 3 = q)
    (hid : okI G.2.2.1 r o = true) (hce : cellS Θ r o (G.1 r o) (G.2.1 r o) G.2.2 = .inr (ci, fs)) (hcl : vwCl[ci]? = some (y.cls, T, N)) (hna : As.length = na) (hst : st = As.reverse ++ .ref (tR Θ r o) :: rest) (hsz : (rest.map fun v => v.category).sum ≤ 8) (hR : rm.frames + 1 ≤ R.frames ∧ 8 + (nY + 11) + rm.locals ≤ R.locals) (hcs : k + rm.cells ≤ R.cells ∧ n + rm.slots ≤ R.slots)
    (kk : ∀ (v : Option Value) (G1 : GS), Qc (.inl v) G1 → VG p l e R s m args below meth c nL Θ Q9 (k + rm.cells) (n + rm.slots) q LS (v.toList ++ rest) G1) (kn : ∀ (E : String) (G1 : GS), Qc (.inr E) G1 → False) : VG p l e R s m args below meth c nL Θ Q9 k n pc LS st G := by
  refine v_of_runN (a9 := (Value.ref (tR Θ r o) :: As).toArray) (fun H locs ls hH hS hl => ?_) hq kk kn
  obtain ⟨k9, -, hk9⟩ := cW_get Θ G hid
  rw [hce] at hk9
  exact vx_runV ⟨hC.1, hC.2.1, hC.2.2.1, cC_own hC, hC.2.2.2.2.1⟩ hM ⟨kY_callB hC ky hml hR, cC_hts hC him, cC_hts hC hse⟩ ⟨cP_blind, va_recv (cC_K hC) hH.1 hcl hk9, cC_pre hC hH hS⟩ rfl hna hl.1 hst (lv_room hsz) d hcs
theorem v_callVQ (hC : cC p l s m args meth c cc nL own Θ) (ho : own ≠ RL) {QC : Array Value → State → Outcome → State → Prop} {XC : String → State → State → Prop} {y : MethodName} {cy : ByteArray} {nY na : Nat} {ret : Option FieldType} {rm : Room} {idx r o ci N : Nat} {T : u_T} {fs As : List Value} {Qc : cOut → GS → Prop} (hM : Ct l y cy nY ret rm Θ (.ref (tR Θ r o) :: As) G Qc) (ky : kY y cy nY ret na) (him : Cond.instanceMethod y ∈ wALL) (hse : Cond.selects y.cls y y ∈ wALL) (hml : Cond.methodLink own idx y ∈ wALL) (d : decode cc pc = .ok (.invokevirtual idx, 3)) (hq : pc + 3 = q)
    (hid : okI G.2.2.1 r o = true) (hce : cellS Θ r o (G.1 r o) (G.2.1 r o) G.2.2 = .inr (ci, fs)) (hcl : vwCl[ci]? = some (y.cls, T, N)) (hna : As.length = na) (hst : st = As.reverse ++ .ref (tR Θ r o) :: rest) (hsz : (rest.map fun v => v.category).sum ≤ 8) (hR : rm.frames + 1 ≤ R.frames ∧ 8 + (nY + 11) + rm.locals ≤ R.locals) (hcs : k + rm.cells ≤ R.cells ∧ n + rm.slots ≤ R.slots)
    (kk : ∀ (v : Option Value) (G1 : GS), Qc (.inl v) G1 → VG p l e R s m args below meth c nL Θ (vx_MQ below QC XC args s mc ms2 (tA Θ)) (k + rm.cells) (n + rm.slots) q LS (v.toList ++ rest) G1) (kx : ∀ (E : String) (G1 : GS) (t : State), Qc (.inr E) G1 → cG Θ G1 t.heap → va_F (tA Θ) s t → XC E s t) (hk : k + rm.cells ≤ mc) (hm : n + rm.slots ≤ ms2) : VG p l e R s m args below meth c nL Θ (vx_MQ below QC XC args s mc ms2 (tA Θ)) k n pc LS st G := by
  refine v_of_runQ hC ho (a9 := (Value.ref (tR Θ r o) :: As).toArray) (fun H locs ls hH hS hl => ?_) hq kk kx hk hm
  obtain ⟨k9, -, hk9⟩ := cW_get Θ G hid
  rw [hce] at hk9
  exact vx_runV ⟨hC.1, hC.2.1, hC.2.2.1, cC_own hC, hC.2.2.2.2.1⟩ hM ⟨kY_callB hC ky hml hR, cC_hts hC him, cC_hts hC hse⟩ ⟨cP_blind, va_recv (cC_K hC) hH.1 hcl hk9, cC_pre hC hH hS⟩ rfl hna hl.1 hst (lv_room hsz) d hcs
end TH
/-! the world with the new region -/
theorem ids_r {lv : Nat → Bool} {x : Nat × Nat} (h : x ∈ ids lv) : x.1 < 6 ∨ (x.1 = 6 ∧ lv 0 = true) ∨ (x.1 = 7 ∧ lv 1 = true) := by
  have hf : ∀ r2 : Nat, x ∈ fam r2 → x.1 = r2 := by
    intro r2 h2
    obtain ⟨j, hj, e⟩ := List.mem_map.mp h2
    rw [← e]
  unfold ids at h
  rcases List.mem_append.mp h with h | h
  · rcases List.mem_append.mp h with h | h
    · rcases List.mem_append.mp h with h | h
      · obtain ⟨r2, h1, h2⟩ := List.mem_flatMap.mp h
        rw [hf r2 h2]
        exact Or.inl (List.mem_range.mp h1)
      · obtain ⟨j, hj, e⟩ := List.mem_map.mp h
        rw [← e]
        exact Or.inl (show 0 < 6 by decide)
    · by_cases hl : lv 0 = true
      · rw [if_pos hl] at h
        exact Or.inr (Or.inl ⟨hf 6 h, hl⟩)
      · rw [if_neg hl] at h; cases h
  · by_cases hl : lv 1 = true
    · rw [if_pos hl] at h
      exact Or.inr (Or.inr ⟨hf 7 h, hl⟩)
    · rw [if_neg hl] at h; cases h
theorem ids_14 {lv : Nat → Bool} {x : Nat × Nat} (h : x ∈ ids lv) (h14 : 14 ≤ x.2) : x.1 = 0 := by
  have hf : ∀ r2 : Nat, x ∈ fam r2 → False := by
    intro r2 h2
    obtain ⟨j, hj, e⟩ := List.mem_map.mp h2
    have h3 := List.mem_range.mp hj
    rw [← e] at h14
    have h4 : 14 ≤ j := h14
    omega
  unfold ids at h
  rcases List.mem_append.mp h with h | h
  · rcases List.mem_append.mp h with h | h
    · rcases List.mem_append.mp h with h | h
      · obtain ⟨r2, -, h2⟩ := List.mem_flatMap.mp h
        exact (hf r2 h2).elim
      · obtain ⟨j, hj, e⟩ := List.mem_map.mp h
        rw [← e]
    · by_cases hl : lv 0 = true
      · rw [if_pos hl] at h; exact (hf 6 h).elim
      · rw [if_neg hl] at h; cases h
  · by_cases hl : lv 1 = true
    · rw [if_pos hl] at h; exact (hf 7 h).elim
    · rw [if_neg hl] at h; cases h
theorem ids_17 {lv : Nat → Bool} {x : Nat × Nat} (h : x ∈ ids lv) (h17 : x.2 = 17) : x = (0, 17) := Prod.ext (ids_14 h (by omega)) h17
theorem ids_16 {lv : Nat → Bool} {x : Nat × Nat} (h : x ∈ ids lv) (h16 : x.2 = 16) : x = (0, 16) := Prod.ext (ids_14 h (by omega)) h16
theorem ids_sv {lv lv2 : Nat → Bool} {j : Nat} (hj : j < 2) (h : ∀ i, lv2 i = if i = j then true else lv i) {x : Nat × Nat} (hx : x ∈ ids lv2) : x ∈ fam (j + 6) ∨ x ∈ ids lv := by
  rcases (show j = 0 ∨ j = 1 by omega) with rfl | rfl
  · have e0 : lv2 0 = true := by rw [h]; rfl
    have e1 : lv2 1 = lv 1 := by rw [h]; rfl
    unfold ids at hx ⊢
    rw [e0, e1, if_pos rfl] at hx
    rcases List.mem_append.mp hx with hx | hx
    · rcases List.mem_append.mp hx with hx | hx
      · exact Or.inr (List.mem_append_left _ (List.mem_append_left _ hx))
      · exact Or.inl hx
    · exact Or.inr (List.mem_append_right _ hx)
  · have e0 : lv2 0 = lv 0 := by rw [h]; rfl
    have e1 : lv2 1 = true := by rw [h]; rfl
    unfold ids at hx ⊢
    rw [e0, e1, if_pos rfl] at hx
    rcases List.mem_append.mp hx with hx | hx
    · exact Or.inr (List.mem_append_left _ hx)
    · exact Or.inl hx
def svG (j : Nat) (G : GS) : GS := (fun r => if r = j + 6 then iF else G.1 r, fun r => if r = j + 6 then iA else G.2.1 r, fun i => if i = j then true else G.2.2.1 i, G.2.2.2)
def svT (Θ : cTH) (j : Nat) (f : Nat → Nat) : cTH := (Θ.1, fun r o => if r = j + 6 then f o else tR Θ r o, Θ.2.2)
theorem svT_s (Θ : cTH) (j : Nat) (f : Nat → Nat) (o : Nat) : tR (svT Θ j f) (j + 6) o = f o := by
  show (if j + 6 = j + 6 then f o else tR Θ (j + 6) o) = f o
  rw [if_pos rfl]
theorem svT_n (Θ : cTH) (j : Nat) (f : Nat → Nat) {r : Nat} (hr : ¬ r = j + 6) (o : Nat) : tR (svT Θ j f) r o = tR Θ r o := by
  show (if r = j + 6 then f o else tR Θ r o) = tR Θ r o
  rw [if_neg hr]
theorem svT_th (Θ : cTH) {j : Nat} (hj : j < 2) (f : Nat → Nat) : Th Θ (svT Θ j f) := ⟨_, rfl, fun r o hr => svT_n Θ j f (by omega) o⟩
/-- a cell is the same where the regions are -/
theorem cellS_th {Θ : cTH} {ρ : Nat → Nat → Nat} {r o : Nat} {F A : Nat → Int32} {g g2 : (Nat → Bool) × Int64} (hr : ∀ o, ρ r o = tR Θ r o) (h0 : ∀ o, ρ 0 o = tR Θ 0 o) (hg : g2.2 = g.2) (h16 : ¬ o = 16) (h17 : ¬ o = 17) : cellS (Θ.1, ρ, Θ.2.2) r o F A g2 = cellS Θ r o F A g := by
  have e0 : ∀ o, tR (Θ.1, ρ, Θ.2.2) 0 o = tR Θ 0 o := h0
  have er : ∀ o, tR (Θ.1, ρ, Θ.2.2) r o = tR Θ r o := hr
  match o, h16, h17 with
  | 0, _, _ => first | rfl | simp only [cellS, er, e0, hg]
  | 1, _, _ => first | rfl | simp only [cellS, er, e0, hg]
  | 2, _, _ => first | rfl | simp only [cellS, er, e0, hg]
  | 3, _, _ => first | rfl | simp only [cellS, er, e0, hg]
  | 4, _, _ => first | rfl | simp only [cellS, er, e0, hg]
  | 5, _, _ => first | rfl | simp only [cellS, er, e0, hg]
  | 6, _, _ => first | rfl | simp only [cellS, er, e0, hg]
  | 7, _, _ => first | rfl | simp only [cellS, er, e0, hg]
  | 8, _, _ => first | rfl | simp only [cellS, er, e0, hg]
  | 9, _, _ => first | rfl | simp only [cellS, er, e0, hg]
  | 10, _, _ => first | rfl | simp only [cellS, er, e0, hg]
  | 11, _, _ => first | rfl | simp only [cellS, er, e0, hg]
  | 12, _, _ => first | rfl | simp only [cellS, er, e0, hg]
  | 13, _, _ => first | rfl | simp only [cellS, er, e0, hg]
  | 14, _, _ => first | rfl | simp only [cellS, er, e0, hg]
  | 15, _, _ => first | rfl | simp only [cellS, er, e0, hg]
  | 18, _, _ => first | rfl | simp only [cellS, er, e0, hg]
  | 19, _, _ => first | rfl | simp only [cellS, er, e0, hg]
  | 20, _, _ => first | rfl | simp only [cellS, er, e0, hg]
  | 21, _, _ => first | rfl | simp only [cellS, er, e0, hg]
  | 22, _, _ => first | rfl | simp only [cellS, er, e0, hg]
  | 23, _, _ => first | rfl | simp only [cellS, er, e0, hg]
  | 24, _, _ => first | rfl | simp only [cellS, er, e0, hg]
  | 25, _, _ => first | rfl | simp only [cellS, er, e0, hg]
  | 26, _, _ => first | rfl | simp only [cellS, er, e0, hg]
  | 27, _, _ => first | rfl | simp only [cellS, er, e0, hg]
  | 28, _, _ => first | rfl | simp only [cellS, er, e0, hg]
  | 29, _, _ => first | rfl | simp only [cellS, er, e0, hg]
  | 30, _, _ => first | rfl | simp only [cellS, er, e0, hg]
  | 31, _, _ => first | rfl | simp only [cellS, er, e0, hg]
  | 32, _, _ => first | rfl | simp only [cellS, er, e0, hg]
  | 33, _, _ => first | rfl | simp only [cellS, er, e0, hg]
  | 34, _, _ => first | rfl | simp only [cellS, er, e0, hg]
  | 35, _, _ => first | rfl | simp only [cellS, er, e0, hg]
  | 36, _, _ => first | rfl | simp only [cellS, er, e0, hg]
  | 37, _, _ => first | rfl | simp only [cellS, er, e0, hg]
  | 16, h, _ => exact absurd rfl h
  | 17, _, h => exact absurd rfl h
  | _ + 38, _, _ => simp only [cellS, hg]
theorem set_mem {l : va_W} {k i : Nat} {x x2 : Nat × va_E} (hi : l[i]? = some x) (hne : ¬ i = k) : x ∈ l.set k x2 :=
  List.mem_of_getElem? (i := i) (by rw [List.getElem?_set_ne (fun z => hne z.symm)]; exact hi)
theorem stL_cell (Θ : cTH) (f : Nat → Nat) {ρ : Nat → Nat → Nat} {r : Nat} (hr : ∀ o, ρ r o = f o) (g : (Nat → Bool) × Int64) : ∀ o, o < 14 → (stL Θ f)[o]? = some (f o, cellS (Θ.1, ρ, Θ.2.2) r o (iF o) (iA o) g) := by
  have er : ∀ o, tR (Θ.1, ρ, Θ.2.2) r o = f o := hr
  intro o ho
  match o, ho with
  | 0, _ => simp only [cellS, er]; rfl
  | 1, _ => simp only [cellS, er]; rfl
  | 2, _ => simp only [cellS, er]; rfl
  | 3, _ => simp only [cellS, er]; rfl
  | 4, _ => simp only [cellS, er]; rfl
  | 5, _ => simp only [cellS, er]; rfl
  | 6, _ => simp only [cellS, er]; rfl
  | 7, _ => simp only [cellS, er]; rfl
  | 8, _ => simp only [cellS, er]; rfl
  | 9, _ => simp only [cellS, er]; rfl
  | 10, _ => simp only [cellS, er]; rfl
  | 11, _ => simp only [cellS, er]; rfl
  | 12, _ => simp only [cellS, er]; rfl
  | 13, _ => simp only [cellS, er]; rfl
  | o + 14, ho => exact absurd ho (by omega)
theorem sv_P {Θ : cTH} {G : GS} {H : Heap} {j k : Nat} (hj : j < 2) {f : Nat → Nat} {e : va_E} (hk : (ids G.2.2.1)[k]? = some (0, 17)) (hv : G.2.2.1 j = false) (he : e = .inl (tS Θ, 2, .inr (.inr (.inr (.inr (va_up (fun i => if G.2.2.1 i = true then some (tR Θ (i + 6) 0) else none) j (some (f 0))))))))
    (h : va_P (tD Θ) vwCl ((cW Θ G ++ stL Θ f).set k (tR Θ 0 17, e)) H) : va_P (tD (svT Θ j f)) vwCl (cW (svT Θ j f) (svG j G)) H := by
  have hkl : k < (ids G.2.2.1).length := (List.getElem?_eq_some_iff.mp hk).1
  have hlen : (cW Θ G).length = (ids G.2.2.1).length := by unfold cW; rw [List.length_map]
  have h0 : ∀ o, (fun r o => if r = j + 6 then f o else tR Θ r o) 0 o = tR Θ 0 o := fun o => if_neg (by omega)
  refine cW_P (Θ := svT Θ j f) (ws := (cW Θ G ++ stL Θ f).set k (tR Θ 0 17, e)) h fun x hx => ?_
  have hlive : ∀ i, (svG j G).2.2.1 i = if i = j then true else G.2.2.1 i := fun i => rfl
  rcases ids_sv hj hlive hx with hx | hx
  · obtain ⟨o, ho, rfl⟩ := List.mem_map.mp hx
    have ho := List.mem_range.mp ho
    show ∃ e : va_E, (tR (svT Θ j f) (j + 6) o, e) ∈ _ ∧ (e = cellS (svT Θ j f) (j + 6) o ((svG j G).1 (j + 6) o) ((svG j G).2.1 (j + 6) o) (svG j G).2.2 ∨ _)
    have eF : (svG j G).1 (j + 6) = iF := if_pos rfl
    have eA : (svG j G).2.1 (j + 6) = iA := if_pos rfl
    rw [svT_s, eF, eA]
    refine ⟨_, set_mem (i := (cW Θ G).length + o) ?_ (by omega), Or.inl rfl⟩
    exact app_at (stL_cell Θ f (r := j + 6) (fun o => if_pos rfl) _ o ho)
  · have hne : ¬ x.1 = j + 6 := by
      rcases ids_r hx with h1 | ⟨h1, h2⟩ | ⟨h1, h2⟩
      · omega
      · intro h3
        rw [show j = 0 by omega] at hv
        rw [hv] at h2; cases h2
      · intro h3
        rw [show j = 1 by omega] at hv
        rw [hv] at h2; cases h2
    have eF : (svG j G).1 x.1 = G.1 x.1 := if_neg hne
    have eA : (svG j G).2.1 x.1 = G.2.1 x.1 := if_neg hne
    rw [svT_n Θ j f hne, eF, eA]
    obtain ⟨i, hi⟩ := List.getElem?_of_mem hx
    have hil : i < (ids G.2.2.1).length := (List.getElem?_eq_some_iff.mp hi).1
    have hci : (cW Θ G ++ stL Θ f)[i]? = some (tR Θ x.1 x.2, cellS Θ x.1 x.2 (G.1 x.1 x.2) (G.2.1 x.1 x.2) G.2.2) := by
      rw [List.getElem?_append_left (by omega)]
      unfold cW
      rw [List.getElem?_map, hi]
      rfl
    have hrr : ∀ o, (fun r o => if r = j + 6 then f o else tR Θ r o) x.1 o = tR Θ x.1 o := fun o => if_neg hne
    by_cases h17 : x.2 = 17
    · -- the row of the slots
      have hx0 : x = (0, 17) := ids_17 hx h17
      subst hx0
      refine ⟨e, ?_, Or.inr ⟨tS Θ, 2, _, fun i => if (svG j G).2.2.1 i = true then some (tR (svT Θ j f) (i + 6) 0) else none, he, rfl, fun i hi2 => ?_⟩⟩
      · refine List.mem_of_getElem? (i := k) ?_
        rw [List.getElem?_set_self (by rw [List.length_append]; omega)]
      · show va_up (fun i => if G.2.2.1 i = true then some (tR Θ (i + 6) 0) else none) j (some (f 0)) i = if (if i = j then true else G.2.2.1 i) = true then some (tR (svT Θ j f) (i + 6) 0) else none
        by_cases hij : i = j
        · subst hij
          rw [if_pos rfl, if_pos rfl, svT_s]
          exact va_up_self _ _ _
        · rw [if_neg hij, svT_n Θ j f (by omega)]
          exact va_up_ne _ _ hij
    · have hik : ¬ i = k := by
        intro h9
        subst h9
        rw [hi] at hk
        cases hk
        exact h17 rfl
      by_cases h16 : x.2 = 16
      · have hx0 : x = (0, 16) := ids_16 hx h16
        subst hx0
        refine ⟨_, set_mem hci hik, Or.inr ⟨tS Θ, 5, _, fun i => some (tR (svT Θ j f) (i + 1) 0), rfl, rfl, fun i hi2 => ?_⟩⟩
        show some (tR Θ (i + 1) 0) = some (tR (svT Θ j f) (i + 1) 0)
        rw [svT_n Θ j f (by omega)]
      · exact ⟨_, set_mem hci hik, Or.inl (cellS_th (Θ := Θ) (ρ := fun r o => if r = j + 6 then f o else tR Θ r o) (F := G.1 x.1 x.2) (A := G.2.1 x.1 x.2) (g := G.2.2) (g2 := (svG j G).2.2) hrr h0 rfl h16 h17).symm⟩
/-- apart, by the addresses alone -/
theorem va_D_iff {A : Nat → Prop} {ws : va_W} : va_D A ws ↔ ((ws.map Prod.fst).Nodup ∧ ∀ a ∈ ws.map Prod.fst, A a) := by
  constructor
  · intro h
    refine ⟨?_, fun a ha => ?_⟩
    · rw [List.nodup_iff_pairwise_ne, List.pairwise_iff_getElem]
      intro i j hi hj hij he
      rw [List.length_map] at hi hj
      rw [List.getElem_map, List.getElem_map] at he
      exact absurd (h.1 i j _ _ (List.getElem?_eq_getElem hi) (List.getElem?_eq_getElem hj) he) (by omega)
    · obtain ⟨q, hq, rfl⟩ := List.mem_map.mp ha
      obtain ⟨i, hi⟩ := List.getElem?_of_mem hq
      exact h.2 i q hi
  · rintro ⟨h1, h2⟩
    rw [List.nodup_iff_pairwise_ne, List.pairwise_iff_getElem] at h1
    refine ⟨fun i j p q hi hj he => ?_, fun k q hk => h2 _ (List.mem_map.mpr ⟨q, List.mem_of_getElem? hk, rfl⟩)⟩
    obtain ⟨hil, hi2⟩ := List.getElem?_eq_some_iff.mp hi
    obtain ⟨hjl, hj2⟩ := List.getElem?_eq_some_iff.mp hj
    rcases Nat.lt_trichotomy i j with h | h | h
    · exact absurd (by rw [List.getElem_map, List.getElem_map, hi2, hj2]; exact he) (h1 i j (by rw [List.length_map]; exact hil) (by rw [List.length_map]; exact hjl) h)
    · exact h
    · exact absurd (by rw [List.getElem_map, List.getElem_map, hi2, hj2]; exact he.symm) (h1 j i (by rw [List.length_map]; exact hjl) (by rw [List.length_map]; exact hil) h)
theorem va_D.perm {A : Nat → Prop} {ws ws' : va_W} (h : va_D A ws) (hp : (ws'.map Prod.fst).Perm (ws.map Prod.fst)) : va_D A ws' := by
  obtain ⟨h1, h2⟩ := va_D_iff.mp h
  exact va_D_iff.mpr ⟨hp.nodup_iff.mpr h1, fun a ha => h2 a (hp.mem_iff.mp ha)⟩
theorem cW_fst (Θ : cTH) (G : GS) : (cW Θ G).map Prod.fst = (ids G.2.2.1).map (fun x => tR Θ x.1 x.2) := by
  unfold cW
  rw [List.map_map]
  rfl
theorem stL_fst (Θ : cTH) (f : Nat → Nat) (j : Nat) : (stL Θ f).map Prod.fst = (fam (j + 6)).map (fun x => tR (svT Θ j f) x.1 x.2) := by
  have h : (fam (j + 6)).map (fun x => tR (svT Θ j f) x.1 x.2) = (List.range 14).map f := by
    unfold fam
    rw [List.map_map]
    refine List.map_congr_left fun o _ => ?_
    exact svT_s Θ j f o
  rw [h]
  rfl
theorem sv_D {Θ : cTH} {G : GS} {j k : Nat} (hj : j < 2) {f : Nat → Nat} {e : va_E} (hk : (ids G.2.2.1)[k]? = some (0, 17)) (hv : G.2.2.1 j = false)
    (h : va_D (tA Θ) ((cW Θ G ++ stL Θ f).set k (tR Θ 0 17, e))) : va_D (tA (svT Θ j f)) (cW (svT Θ j f) (svG j G)) := by
  have hkl : k < (ids G.2.2.1).length := (List.getElem?_eq_some_iff.mp hk).1
  have hlen : (cW Θ G).length = (ids G.2.2.1).length := by unfold cW; rw [List.length_map]
  have hck : (cW Θ G ++ stL Θ f)[k]? = some (tR Θ 0 17, cellS Θ 0 17 (G.1 0 17) (G.2.1 0 17) G.2.2) := by
    rw [List.getElem?_append_left (by omega)]
    unfold cW
    rw [List.getElem?_map, hk]
    rfl
  have h9 : va_D (tA Θ) (cW Θ G ++ stL Θ f) := by
    have h2 := va_D.set (e := cellS Θ 0 17 (G.1 0 17) (G.2.1 0 17) G.2.2) h (List.getElem?_set_self (by rw [List.length_append]; omega))
    rw [List.set_set, set_same hck] at h2
    exact h2
  refine va_D.perm (A := tA (svT Θ j f)) h9 ?_
  rw [List.map_append, cW_fst, cW_fst, stL_fst Θ f j]
  have hm : ∀ l : List (Nat × Nat), (∀ x ∈ l, ¬ x.1 = j + 6) → l.map (fun x => tR (svT Θ j f) x.1 x.2) = l.map (fun x => tR Θ x.1 x.2) := fun l hl => List.map_congr_left fun x hx => svT_n Θ j f (hl x hx) x.2
  have hX : ∀ x ∈ (List.range 6).flatMap fam ++ (List.range 25).map (fun o => (0, o + 14)), ¬ x.1 = j + 6 := by
    intro x hx
    have h2 : x ∈ ids (fun _ => false) := by
      unfold ids
      exact List.mem_append_left _ (List.mem_append_left _ hx)
    rcases ids_r h2 with h3 | ⟨-, h3⟩ | ⟨-, h3⟩
    · omega
    · cases h3
    · cases h3
  have hfam : ∀ r2 : Nat, ∀ x ∈ fam r2, x.1 = r2 := by
    intro r2 x h2
    obtain ⟨j, hj, e⟩ := List.mem_map.mp h2
    rw [← e]
  rcases (show j = 0 ∨ j = 1 by omega) with rfl | rfl
  · have e0 : (svG 0 G).2.2.1 0 = true := rfl
    have e1 : (svG 0 G).2.2.1 1 = G.2.2.1 1 := rfl
    have hL := hm (if G.2.2.1 1 = true then fam 7 else []) (fun x hx => by
      by_cases h1 : G.2.2.1 1 = true
      · rw [if_pos h1] at hx
        rw [hfam 7 x hx]; decide
      · rw [if_neg h1] at hx; cases hx)
    have a1 : (ids (svG 0 G).2.2.1).map (fun x : Nat × Nat => tR (svT Θ 0 f) x.1 x.2) = ((List.range 6).flatMap fam ++ (List.range 25).map (fun o => ((0, o + 14) : Nat × Nat))).map (fun x : Nat × Nat => tR Θ x.1 x.2) ++ ((fam (0 + 6)).map (fun x : Nat × Nat => tR (svT Θ 0 f) x.1 x.2) ++ (if G.2.2.1 1 = true then fam 7 else []).map (fun x : Nat × Nat => tR Θ x.1 x.2)) := by
      unfold ids
      rw [e0, e1, if_pos rfl, List.map_append, List.map_append, hm _ hX, hL, List.append_assoc]
    have a2 : (ids G.2.2.1).map (fun x : Nat × Nat => tR Θ x.1 x.2) = ((List.range 6).flatMap fam ++ (List.range 25).map (fun o => ((0, o + 14) : Nat × Nat))).map (fun x : Nat × Nat => tR Θ x.1 x.2) ++ (if G.2.2.1 1 = true then fam 7 else []).map (fun x : Nat × Nat => tR Θ x.1 x.2) := by
      unfold ids
      rw [hv, if_neg (by decide), List.append_nil, List.map_append]
    rw [a1, a2, List.append_assoc]
    exact List.Perm.append_left _ List.perm_append_comm
  · have e0 : (svG 1 G).2.2.1 0 = G.2.2.1 0 := rfl
    have e1 : (svG 1 G).2.2.1 1 = true := rfl
    have hL := hm (if G.2.2.1 0 = true then fam 6 else []) (fun x hx => by
      by_cases h1 : G.2.2.1 0 = true
      · rw [if_pos h1] at hx
        rw [hfam 6 x hx]; decide
      · rw [if_neg h1] at hx; cases hx)
    have a1 : (ids (svG 1 G).2.2.1).map (fun x : Nat × Nat => tR (svT Θ 1 f) x.1 x.2) = (((List.range 6).flatMap fam ++ (List.range 25).map (fun o => ((0, o + 14) : Nat × Nat))).map (fun x : Nat × Nat => tR Θ x.1 x.2) ++ (if G.2.2.1 0 = true then fam 6 else []).map (fun x : Nat × Nat => tR Θ x.1 x.2)) ++ (fam (1 + 6)).map (fun x : Nat × Nat => tR (svT Θ 1 f) x.1 x.2) := by
      unfold ids
      rw [e0, e1, if_pos rfl, List.map_append, List.map_append, hm _ hX, hL]
    have a2 : (ids G.2.2.1).map (fun x : Nat × Nat => tR Θ x.1 x.2) = ((List.range 6).flatMap fam ++ (List.range 25).map (fun o => ((0, o + 14) : Nat × Nat))).map (fun x : Nat × Nat => tR Θ x.1 x.2) ++ (if G.2.2.1 0 = true then fam 6 else []).map (fun x : Nat × Nat => tR Θ x.1 x.2) := by
      have e9 : (if G.2.2.1 1 = true then fam 7 else []) = [] := by rw [hv]; rfl
      unfold ids
      rw [e9, List.append_nil, List.map_append]
    rw [a1, a2]
/-! the contract -/
abbrev rs_X11_save : Room := { frames := 7, locals := 111, cells := 15, slots := 262 }
def CtS (l : Launch) (y : MethodName) (w0 : Cond) (rm : Room) (Θ : cTH) (as : List Value) (G : GS) (Qp : cOut → GS → Prop) : Prop :=
  vx_Met l y (w0 :: wALL) rm (zP Θ as (cW Θ G)) (cQS Θ Qp) (cX Θ Qp) rm.cells rm.slots (tA Θ)
set_option maxHeartbeats 4000000 in
set_option maxRecDepth 20000 in
theorem sv_tail {p : Program} {l : Launch} (hl : l.stackTraces = false) {e : Env} {s : State} {m : MethodId} {args : Array Value} {below : List Frame} {meth : Method} {c : Code} {Θ Θ2 : cTH} (hC : cC p l s m args meth c cX11_save 3 RX11 Θ2) (hT : Th Θ Θ2) (hr : meth.sig.returnType = some .int) {j : Nat} {G G2 : GS} (hok : okR G2.2.2.1 (j + 6) = true) {Qp : cOut → GS → Prop} (hq : Qp (.inl (some (.int (jBc ((cpState (j + 6) 0 G2).1 0 4 0))))) (cpState (j + 6) 0 G2)) {k n : Nat} (hk : k ≤ 15) (hn : n ≤ 262) {LS : List (Option Value)} (hLS : LS = [some (.ref (tR Θ2 0 14)), some (.int (nI j)), some (.ref (tR Θ2 (j + 6) 0))]) : VG p l e rs_X11_save s m args below meth c 3 Θ2 (vx_MQ below (cQS Θ Qp) (cX Θ Qp) args s 15 262 (tA Θ)) k n 31 LS [] G2 := by
  subst hLS
  have hk2 : k + 0 ≤ 15 := hk
  have hn2 : n + 0 ≤ 262 := hn
  refine v_aload_n (i := 2) (q := 32) hC dX11_save_31 rfl rfl rfl ?_
  refine v_aload_n (i := 0) (q := 33) hC dX11_save_32 rfl rfl rfl ?_
  refine g_X11_0 (q := 36) hC dX11_save_33 rfl rfl fl_RX11_10 ?_
  refine v_callVN (q := 39) (rm := rm_X9_copyFrom) hC (c_X9_copyFrom hl Θ2 (j + 6) 0 G2 hok rfl) k_X9_copyFrom im_yX9_copyFrom se_yX9_copyFrom ml_RX11_374 dX11_save_36 rfl (okR_i hok rfl) rfl rfl rfl rfl (Nat.le_of_ble_eq_true rfl) ⟨Nat.le_of_ble_eq_true rfl, Nat.le_of_ble_eq_true rfl⟩ ⟨hk2, hn2⟩ (fR_k ?_) (fun _ _ z => by cases z.1)
  try dsimp only [Option.toList, List.cons_append, List.nil_append]
  refine v_aload_n (i := 0) (q := 40) hC dX11_save_39 rfl rfl rfl ?_
  refine g_X11_0 (q := 43) hC dX11_save_40 rfl rfl fl_RX11_10 ?_
  refine g_X9_1 (q := 46) hC dX11_save_43 rfl rfl fl_RX11_127 ?_
  refine v_callVN (q := 49) (rm := rm_X10_count) hC (c_X10_count hl Θ2 _) k_X10_count im_yX10_count se_yX10_count ml_RX11_159 dX11_save_46 rfl rfl rfl rfl rfl rfl (Nat.le_of_ble_eq_true rfl) ⟨Nat.le_of_ble_eq_true rfl, Nat.le_of_ble_eq_true rfl⟩ ⟨hk2, hn2⟩ (fR_k ?_) (fun _ _ z => by cases z.1)
  try dsimp only [Option.toList, List.cons_append, List.nil_append]
  exact v_iretS hC hT dX11_save_49 hr rfl hq hk2 hn2
set_option maxHeartbeats 4000000 in
set_option maxRecDepth 20000 in
theorem cS_save {l : Launch} (hl : l.stackTraces = false) (Θ : cTH) (a0 : Int32) (G : GS) : CtS l yX11_save (.code yX11_save cX11_save 3 (some .int)) rs_X11_save Θ [.ref (tR Θ 0 14), .int a0] G (svQ a0 G) := by
  unfold CtS
  refine vx_ofW (cc := cX11_save) (maxL := 3) (ret := some .int) (by decide +kernel) rfl ?_
  intro p e s m args below meth c s₁ B hml htb hP
  obtain ⟨rfl, hK, hG, hZ, hz, hO⟩ := hP
  have hts := atoms_spec (ws := Cond.code yX11_save cX11_save 3 (some .int) :: wALL) B.pre
  have hr := B.returns
  have hC : cC p l s m [Value.ref (tR Θ 0 14), .int a0].toArray meth c cX11_save 3 RX11 Θ := ⟨B.exec, B.bytes, hml, findClass_of_methodNamed B.named, fun w hw => hts w (List.mem_cons_of_mem _ hw), B.notSynchronized, hK, hl, fun _ => htb, hZ, hz⟩
  obtain ⟨h1, h2⟩ := lvH_entry (as := [.ref (tR Θ 0 14), .int a0]) (n := 3) rfl (Nat.le_of_ble_eq_true rfl)
  have hls := h2 _ (lv_entry [.ref (tR Θ 0 14), .int a0] h1)
  rw [lg_entry_eq]
  generalize [Value.ref (tR Θ 0 14), Value.int a0].toArray = args at hC ⊢
  have goalV : VG p l e rs_X11_save s m args below meth c 3 Θ (vx_MQ below (cQS Θ (svQ a0 G)) (cX Θ (svQ a0 G)) args s 15 262 (tA Θ)) 0 0 0 [some (.ref (tR Θ 0 14)), some (.int a0), none] [] G := by
    refine v_aload_n (i := 0) (q := 1) hC dX11_save_0 rfl rfl rfl ?_
    refine v_iload_n (i := 1) (q := 2) hC dX11_save_1 rfl rfl rfl ?_
    refine v_callVQ (q := 5) (rm := rm_X11_requireSlot) hC (by decide) (c_X11_requireSlot hl Θ a0 G) k_X11_requireSlot im_yX11_requireSlot se_yX11_requireSlot ml_RX11_371 dX11_save_2 rfl rfl rfl rfl rfl rfl (Nat.le_of_ble_eq_true rfl) ⟨Nat.le_of_ble_eq_true rfl, Nat.le_of_ble_eq_true rfl⟩ ⟨Nat.le_of_ble_eq_true rfl, Nat.le_of_ble_eq_true rfl⟩ (fG_k (fun r_2 => ?_)) (fun E G1 t hE hG1 hF => ?_) (Nat.le_of_ble_eq_true rfl) (Nat.le_of_ble_eq_true rfl)
    rotate_left
    · obtain ⟨hE1, rfl⟩ := hE
      by_cases hb : jIdx a0 2 = true
      · rw [if_pos hb] at hE1; cases hE1
      · rw [if_neg hb] at hE1
        cases hE1
        exact ⟨⟨G1, gt_f (Bool.eq_false_iff.mpr hb), hG1⟩, hF⟩
    try dsimp only [Option.toList, List.cons_append, List.nil_append]
    obtain ⟨j, hj, rfl⟩ := jIdx_ex (n := 2) (by decide) r_2
    have e2 : (nI j).toNatClampNeg = j := nI_clamp (by omega)
    have hsv : svQ (nI j) G = (fun o1 G1 => ∃ G0 : GS, (∀ r, ¬ r = j + 6 → G0.1 r = G.1 r ∧ G0.2.1 r = G.2.1 r) ∧ G0.2.2.2 = G.2.2.2 ∧ (∀ i, G0.2.2.1 i = if i = j then true else G.2.2.1 i) ∧ o1 = .inl (some (.int (jBc (G.1 0 4 0)))) ∧ G1 = cpState (j + 6) 0 G0) := by
      unfold svQ
      rw [gt_t r_2, e2]
    rw [hsv]
    have hcnt : ∀ G0 : GS, (∀ r, ¬ r = j + 6 → G0.1 r = G.1 r ∧ G0.2.1 r = G.2.1 r) → (cpState (j + 6) 0 G0).1 0 4 0 = G.1 0 4 0 := fun G0 h0 => by
      rw [(cp_oth G0 (a := j + 6) (b := 0) (r := 0) (by omega)).1, (h0 0 (by omega)).1]
    refine v_aload_n (i := 0) (q := 6) hC dX11_save_5 rfl rfl rfl ?_
    refine g_X11_2 (q := 9) hC dX11_save_6 rfl rfl fl_RX11_23 ?_
    refine v_iload_n (i := 1) (q := 10) hC dX11_save_9 rfl rfl rfl ?_
    rcases (Bool.eq_false_or_eq_true (G.2.2.1 j)).symm with hv | hv
    · refine v_aald (v := .null) (q := 11) hC dX11_save_10 rfl rfl rfl (vp_in_nI hj (by omega)) (by rw [e2, hv]; rfl) ?_
      refine v_astore_nN (i := 2) (q := 12) hC dX11_save_11 rfl rfl (lvc rfl) (Nat.le_of_ble_eq_true rfl) (Nat.le_of_ble_eq_true rfl) rfl ?_
      refine v_aload_nN (i := 2) (q := 13) hC dX11_save_12 rfl rfl rfl ?_
      refine v_ifnonnullN (q := 16) hC dX11_save_13 rfl ?_
      show VL p l e rs_X11_save s m args below meth c 3 Θ _ _ _ 16 _ [] (cW Θ G)
      refine z_new (ci := 8) (C := RX9) (T := TX9) (N := 4) (ty := tyX9) (fs := [.null, .null, .null, .null]) (q := 19) hC dX11_save_16 rfl rfl inl9 cl_RX11_7 ia_RX9 in_RX9 tyX9_ok (fun j hj => by rcases (show j = 0 ∨ j = 1 ∨ j = 2 ∨ j = 3 by omega) with rfl | rfl | rfl | rfl <;> rfl) (Nat.le_of_ble_eq_true rfl) (Nat.le_of_ble_eq_true rfl) (fun a1 => ?_)
      refine z_dup (q := 20) hC dX11_save_19 rfl rfl ?_
      refine z_callIN (q := 23) (rm := rz_X9) hC hO (z_X9_init hl Θ _ a1) k_X9_init im_yX9_init rfl nl_RX11_9 dX11_save_20 rfl rfl rfl (Nat.le_of_ble_eq_true rfl) ⟨Nat.le_of_ble_eq_true rfl, Nat.le_of_ble_eq_true rfl⟩ ⟨Nat.le_of_ble_eq_true rfl, Nat.le_of_ble_eq_true rfl⟩ ?_
      rintro r20 w20 ⟨rfl, f, rfl, rfl⟩
      show VL _ _ _ _ _ _ _ _ _ _ _ _ _ _ _ 23 _ (_ :: _) _
      refine z_astore_n (i := 2) (q := 24) hC dX11_save_23 rfl rfl (lvc rfl) (Nat.le_of_ble_eq_true rfl) (Nat.le_of_ble_eq_true rfl) rfl ?_
      refine z_aload_n (i := 0) (q := 25) hC dX11_save_24 rfl rfl rfl ?_
      obtain ⟨k14, hi14, hk14⟩ := cW_get Θ G (r := 0) (o := 14) rfl
      obtain ⟨k17, hi17, hk17⟩ := cW_get Θ G (r := 0) (o := 17) rfl
      have hl14 : k14 < (cW Θ G).length := (List.getElem?_eq_some_iff.mp hk14).1
      have hl17 : k17 < (cW Θ G).length := (List.getElem?_eq_some_iff.mp hk17).1
      refine z_get (w0 := []) (l1 := cW Θ G ++ stL Θ f) (i := k14) (ci := 10) (j := 2) (N := 7) (T := TX11) (q := 28) hC dX11_save_25 rfl (by rw [List.getElem?_append_left hl14]; exact hk14) rfl inl11 (by decide) rfl fl_RX11_23 ?_
      refine z_iload_n (i := 1) (q := 29) hC dX11_save_28 rfl rfl rfl ?_
      refine z_aload_n (i := 2) (q := 30) hC dX11_save_29 rfl rfl rfl ?_
      refine z_aast (w0 := []) (l1 := cW Θ G ++ stL Θ f) (i := k17) (i2 := (cW Θ G).length + 0) (q := 31) hC dX11_save_30 rfl (by rw [List.getElem?_append_left hl17]; exact hk17) (app_at (i := 0) rfl) (vp_in_nI hj (by omega)) rfl ?_
      intro H locs ls hH hS hl9
      have hTh := svT_th Θ hj f
      rw [e2] at hH
      have hH2 : cG (svT Θ j f) (svG j G) H := ⟨sv_P hj hi17 hv rfl hH.1, sv_D hj hi17 hv hH.2⟩
      refine sv_tail hl (Θ := Θ) (Θ2 := svT Θ j f) (j := j) (G := G) (G2 := svG j G) (hTh.C hC) hTh hr ?_ ?_ (Nat.le_of_ble_eq_true rfl) (Nat.le_of_ble_eq_true rfl) ?_ H locs ls hH2 (hTh.S hS) hl9
      · exact okR_67 hj (if_pos rfl)
      · have hoth : ∀ r, ¬ r = j + 6 → (svG j G).1 r = G.1 r ∧ (svG j G).2.1 r = G.2.1 r := fun r hr9 => ⟨if_neg hr9, if_neg hr9⟩
        exact ⟨svG j G, hoth, rfl, fun i => rfl, by rw [hcnt _ hoth], rfl⟩
      · rw [svT_s, svT_n Θ j f (show ¬ 0 = j + 6 by omega)]
        rfl
    · refine v_aald (v := .ref (tR Θ (j + 6) 0)) (q := 11) hC dX11_save_10 rfl rfl rfl (vp_in_nI hj (by omega)) (by rw [e2, if_pos hv]; rfl) ?_
      refine v_astore_n (i := 2) (q := 12) hC dX11_save_11 rfl rfl (lvc rfl) (Nat.le_of_ble_eq_true rfl) (Nat.le_of_ble_eq_true rfl) rfl ?_
      refine v_aload_n (i := 2) (q := 13) hC dX11_save_12 rfl rfl rfl ?_
      refine v_ifnonnull (q := 31) hC dX11_save_13 (by decide) ?_
      have hlv : ∀ i, G.2.2.1 i = if i = j then true else G.2.2.1 i := fun i => by
        by_cases h9 : i = j
        · subst h9; rw [if_pos rfl]; exact hv
        · rw [if_neg h9]
      exact sv_tail hl (Θ := Θ) (Θ2 := Θ) (j := j) (G := G) (G2 := G) hC (Th.refl Θ) hr (okR_67 hj hv) ⟨G, fun r _ => ⟨rfl, rfl⟩, rfl, hlv, by rw [hcnt _ (fun r _ => ⟨rfl, rfl⟩)], rfl⟩ (Nat.le_of_ble_eq_true rfl) (Nat.le_of_ble_eq_true rfl) rfl
  refine goalV s.heap [] _ hG va_S.rf (lvH_sub hls ?_)
  intro i v hi
  match i, hi with
  | 0, hi => exact hi
  | 1, hi => exact hi
  | 2, hi => cases hi
  | i + 3, hi => cases hi
section THS
variable {p : Program} {l : Launch} {e : Env} {R : Room} {s : State} {m : MethodId} {args : Array Value} {below : List Frame} {meth : Method} {c : Code} {cc : ByteArray} {nL : Nat} {own : String} {Θ Θ2 : cTH} {Qp : cOut → GS → Prop} {Q9 : State → Prop} {mc ms2 k n pc q : Nat} {LS : List (Option Value)} {st rest : List Value} {G : GS}
theorem v_of_runTS (hC : cC p l s m args meth c cc nL RL Θ) {hh : List (Nat × Nat × Nat × Nat)} (hT : c.exceptionTable.toList = tableOf hh) {mc1 ms1 : Nat} {a9 : Array Value} {Qc : cOut → GS → Prop} (hrun : ∀ (H : Heap) (locs : List Loc) (ls : Array Slot), cG Θ G H → va_S (tA Θ) s.heap H locs → lvH ls nL LS → vx_Run p l e R s m args below meth c H locs k n mc1 ms1 (F0 m pc ls st) rest (cQS Θ Qc a9) (cX Θ Qc) (tA Θ)) (hq : pc + 3 = q)
    (kk : ∀ (r : Option Value) (Θ2 : cTH) (G1 : GS), Th Θ Θ2 → Qc (.inl r) G1 → VG p l e R s m args below meth c nL Θ2 Q9 (k + mc1) (n + ms1) q LS (r.toList ++ rest) G1)
    (kx : ∀ (E : String) (G1 : GS), Qc (.inr E) G1 → ∃ (i : Nat) (x : ExceptionTableEntry) (nm : String), (tableOf hh)[i]? = some x ∧ (∀ z ∈ (tableOf hh).take i, covers z pc = false ∨ (z.catchType ≠ 0 ∧ ∃ nm : String, Cond.classLink RL z.catchType nm ∈ wALL ∧ (E, nm) ∈ ncW)) ∧ covers x pc = true ∧ x.catchType ≠ 0 ∧ Cond.classLink RL x.catchType nm ∈ wALL ∧ Cond.castable E nm ∈ excW ∧ ∀ q9 : Nat, VG p l e R s m args below meth c nL Θ Q9 (k + mc1) (n + ms1) x.handlerPc LS [.ref q9] G1) : VG p l e R s m args below meth c nL Θ Q9 k n pc LS st G := by
  subst hq
  intro H locs ls hH hS hl T hT9 X
  rcases hrun H locs ls hH hS hl T hT9 X with ⟨v, st₀, t, T', L, h0, X', hL, e1, e2, ⟨⟨r, Θ2, G1, hv, hTh, hp, hb⟩, hF⟩, sx⟩ | ⟨q, st₀, t, T', L, E, ce, h0, X', hL, e1, e2, ⟨⟨G1, hp, hb⟩, hF⟩, hce, hcv, hcl, sx⟩
  · injection hv with hv9; subst hv9
    obtain ⟨k1, k2, k3⟩ := vx_keep h0 e1 hS (fun _ _ h => h) (fun _ h => h) hL hF
    obtain ⟨t2, a1, b1⟩ := kk _ Θ2 G1 hTh hp T'.heap (locs ++ L) ls (by rw [e1]; exact hb) (hTh.S k3) hl T' rfl X'
    exact ⟨t2, sx t2 a1, b1⟩
  · obtain ⟨k1, k2, k3⟩ := vx_keep h0 e1 hS (fun _ _ h => h) (fun _ h => h) hL hF
    obtain ⟨i, x, nm, y1, y2, y3, y4, y5, y6, y7⟩ := kx E G1 hp
    have hcast : (Cond.castable E nm).before args s = true := va_Nw.use (excW_ot _ y6) (hC.2.2.2.2.2.2.1.2.2.1 _ y6)
    obtain ⟨t2, a1, b1⟩ := (vx_catch (cC_own hC) _ x _ (by rw [hT]; exact split_at9 _ i x y1) (fun z hz => by
      rcases y2 z hz with h | ⟨h3, nm2, h4, h5⟩
      · exact Or.inl h
      · exact Or.inr ⟨h3, nm2, cC_hts hC h4, hC.2.2.2.2.2.2.1.2.2.2.2.2 _ h5⟩) y3 y4 (cC_hts hC y5) hcast (by rw [e1]; exact hce) hcv hcl (y7 q T'.heap (locs ++ L) ls (by rw [e1]; exact hb) k3 hl)) T' rfl X'
    exact ⟨t2, sx.trans a1, b1⟩
end THS
theorem svQ_v {a0 : Int32} {G : GS} : ∀ r G1, svQ a0 G (.inl r) G1 → ∃ x : Int32, r = some (.int x) := by
  intro r G1 h
  unfold svQ gt at h
  by_cases hb : jIdx a0 2 = true
  · rw [if_pos hb] at h
    obtain ⟨G0, _, _, _, e1, _⟩ := h
    cases e1
    exact ⟨_, rfl⟩
  · rw [if_neg hb] at h
    cases h.1
theorem svQ_x {a0 : Int32} {G : GS} : ∀ E G1, svQ a0 G (.inr E) G1 → E = eA := by
  intro E G1 h
  unfold svQ gt at h
  by_cases hb : jIdx a0 2 = true
  · rw [if_pos hb] at h
    obtain ⟨G0, _, _, _, e1, _⟩ := h
    cases e1
  · rw [if_neg hb] at h
    cases h.1
    rfl
abbrev rs_L_save : Room := { frames := 8, locals := 133, cells := 15, slots := 262 }
set_option maxHeartbeats 4000000 in
set_option maxRecDepth 20000 in
theorem wS_save {l : Launch} (hl : l.stackTraces = false) (Θ : cTH) (a0 : Int32) (G : GS) : CtS l yL_save (.codeWith yL_save cL_save 4 (some .int) [(0, 9, 12, 49)]) rs_L_save Θ [.ref (tR Θ 0 14), .int a0, .ref (tR Θ 0 38)] G (wQ fI [eA] (svQ a0 G)) := by
  unfold CtS
  refine vx_ofWH (cc := cL_save) (maxL := 4) (ret := some .int) (hh := [(0, 9, 12, 49)]) (by decide +kernel) rfl ?_
  intro p e s m args below meth c s₁ B hml hP
  obtain ⟨rfl, hK, hG, hZ, hz, hO⟩ := hP
  have hts := atoms_spec (ws := Cond.codeWith yL_save cL_save 4 (some .int) [(0, 9, 12, 49)] :: wALL) B.pre
  have hr := B.returns
  have hC : cC p l s m [Value.ref (tR Θ 0 14), .int a0, .ref (tR Θ 0 38)].toArray meth c cL_save 4 RL Θ := ⟨B.exec, B.bytes, hml, findClass_of_methodNamed B.named, fun w hw => hts w (List.mem_cons_of_mem _ hw), B.notSynchronized, hK, hl, fun z => absurd rfl z, hZ, hz⟩
  have hT := vx_table (x := yL_save) B (hts _ List.mem_cons_self)
  obtain ⟨h1, h2⟩ := lvH_entry (as := [.ref (tR Θ 0 14), .int a0, .ref (tR Θ 0 38)]) (n := 4) rfl (Nat.le_of_ble_eq_true rfl)
  have hls := h2 _ (lv_entry [.ref (tR Θ 0 14), .int a0, .ref (tR Θ 0 38)] h1)
  rw [lg_entry_eq]
  generalize [Value.ref (tR Θ 0 14), Value.int a0, Value.ref (tR Θ 0 38)].toArray = args at hC ⊢
  have goalV : VG p l e rs_L_save s m args below meth c 4 Θ (vx_MQ below (cQS Θ (wQ fI [eA] (svQ a0 G))) (cX Θ (wQ fI [eA] (svQ a0 G))) args s 15 262 (tA Θ)) 0 0 0 [some (.ref (tR Θ 0 14)), some (.int a0), some (.ref (tR Θ 0 38)), none] [] G := by
    have HX : ∀ E9 G9, svQ a0 G (.inr E9) G9 → ∃ (i : Nat) (x : ExceptionTableEntry) (nm : String), (tableOf [(0, 9, 12, 49)])[i]? = some x ∧ (∀ z ∈ (tableOf [(0, 9, 12, 49)]).take i, covers z 4 = false ∨ (z.catchType ≠ 0 ∧ ∃ nm : String, Cond.classLink RL z.catchType nm ∈ wALL ∧ (E9, nm) ∈ ncW)) ∧ covers x 4 = true ∧ x.catchType ≠ 0 ∧ Cond.classLink RL x.catchType nm ∈ wALL ∧ Cond.castable E9 nm ∈ excW ∧ ∀ q9 : Nat, VG p l e rs_L_save s m args below meth c 4 Θ (vx_MQ below (cQS Θ (wQ fI [eA] (svQ a0 G))) (cX Θ (wQ fI [eA] (svQ a0 G))) args s 15 262 (tA Θ)) (0 + 15) (0 + 262) x.handlerPc [some (.ref (tR Θ 0 14)), some (.int a0), some (.ref (tR Θ 0 38)), none] [.ref q9] G9 := by
      intro E9 G9 z9
      rcases svQ_x E9 G9 z9 with rfl
      refine ⟨0, _, _, rfl, (fun z hz => absurd hz (by simp)), by decide, by decide, cl_RL_49, by decide, fun q9 => ?_⟩
      show VG p l e rs_L_save s m args below meth c 4 Θ (vx_MQ below (cQS Θ (wQ fI [eA] (svQ a0 G))) (cX Θ (wQ fI [eA] (svQ a0 G))) args s 15 262 (tA Θ)) (0 + 15) (0 + 262) 12 [some (.ref (tR Θ 0 14)), some (.int a0), some (.ref (tR Θ 0 38)), none] [.ref q9] G9
      refine v_astore_n (i := 3) (q := 13) hC dL_save_12 rfl rfl (lvc rfl) (Nat.le_of_ble_eq_true rfl) (Nat.le_of_ble_eq_true rfl) rfl ?_
      refine v_iconst (q := 14) (v := 1) hC dL_save_13 rfl (by decide) ?_
      exact v_iretS hC (Th.refl Θ) dL_save_14 hr rfl (Or.inr ⟨_, _, z9, by first | rfl | (congr 3), rfl⟩) (Nat.le_of_ble_eq_true rfl) (Nat.le_of_ble_eq_true rfl)
    refine v_aload_n (i := 2) (q := 1) hC dL_save_0 rfl rfl rfl ?_
    refine v_iconst (q := 2) (v := 0) hC dL_save_1 rfl (by decide) ?_
    refine v_aload_n (i := 0) (q := 3) hC dL_save_2 rfl rfl rfl ?_
    refine v_iload_n (i := 1) (q := 4) hC dL_save_3 rfl rfl rfl ?_
    refine v_of_runTS hC hT (mc1 := 15) (ms1 := 262) (q := 7) (rest := [.int 0, .ref (tR Θ 0 38)]) (a9 := [Value.ref (tR Θ 0 14), .int a0].toArray) (Qc := svQ a0 G) (fun H locs ls hH hS hl9 => ?_) rfl (fun v9 Θ2 G9 hTh z9 => ?_) HX
    · obtain ⟨k9, -, hk9⟩ := cW_get Θ G (r := 0) (o := 14) rfl
      exact vx_runV ⟨hC.1, hC.2.1, hC.2.2.1, cC_own hC, hC.2.2.2.2.1⟩ (cS_save hl Θ a0 G) ⟨kY_callB hC (rm := rs_X11_save) k_X11_save ml_RL_185 ⟨Nat.le_of_ble_eq_true rfl, Nat.le_of_ble_eq_true rfl⟩, cC_hts hC im_yX11_save, cC_hts hC se_yX11_save⟩ ⟨zP_blind, va_recv (ci := 10) (cC_K hC) hH.1 rfl hk9, zC_pre hC hO hH hS⟩ rfl rfl hl9.1 rfl (lv_room (Nat.le_of_ble_eq_true rfl)) dL_save_4 ⟨Nat.le_of_ble_eq_true rfl, Nat.le_of_ble_eq_true rfl⟩
    · obtain ⟨x9, rfl⟩ := svQ_v _ _ z9
      dsimp only [Option.toList, List.cons_append, List.nil_append]
      have hC2 := hTh.C hC
      rw [← hTh.r (r := 0) 38 (Or.inl (by decide))]
      refine v_i2l (q := 8) hC2 dL_save_7 rfl ?_
      refine v_lastO (q := 9) hC2 dL_save_8 rfl ?_
      refine v_goto (q := 15) hC2 dL_save_9 (by decide) ?_
      refine v_iconst (q := 16) (v := 0) hC2 dL_save_15 rfl (by decide) ?_
      exact v_iretS hC2 hTh dL_save_16 hr rfl (Or.inl ⟨x9, _, z9, rfl, rfl⟩) (Nat.le_of_ble_eq_true rfl) (Nat.le_of_ble_eq_true rfl)
  refine goalV s.heap [] _ hG va_S.rf (lvH_sub hls ?_)
  intro i v hi
  match i, hi with
  | 0, hi => exact hi
  | 1, hi => exact hi
  | 2, hi => exact hi
  | 3, hi => cases hi
  | i + 4, hi => cases hi
