/-! The law's wrappers -/
def gI (x : Int32) : Int32 := x
def gZ (x : Int32) : Int32 := if x = 0 then 0 else 1
/-- what a wrapper answers: the answer, or the number of the throw -/
def wP (g : Int32 → Int32) (cs : List String) (Qc : cOut → GS → Prop) : cOut → GS → Prop := fun o G2 => (∃ (x : Int32) (G1 : GS), Qc (.inl (some (.int x))) G1 ∧ o = .inl (some (.int (g x))) ∧ G2 = G1) ∨ (∃ (E : String) (G1 : GS), Qc (.inr E) G1 ∧ o = .inl (some (.int (-100 - cdE cs 1 E))) ∧ G2 = G1)
abbrev rm_L_addUserOf : Room := { frames := 7, locals := 132, cells := 1, slots := 6 }
set_option maxHeartbeats 4000000 in
set_option maxRecDepth 20000 in
theorem w_L_addUserOf {l : Launch} (hl : l.stackTraces = false) (Θ : cTH) {Qc : cOut → GS → Prop} (G : GS) (hM : Ct l yX11_addUser cX11_addUser 1 (some .int) rm_X11_addUser Θ [.ref (tR Θ 0 14)] G Qc) (hv : ∀ r G1, Qc (.inl r) G1 → ∃ x : Int32, r = some (.int x)) (hx : ∀ E G1, Qc (.inr E) G1 → E = eS) : CtH l yL_addUserOf cL_addUserOf 2 (some .int) [(0, 4, 5, 15)] rm_L_addUserOf Θ [.ref (tR Θ 0 14)] G (wP gI [eS] Qc) := by
  refine cth_of (LS := [some (.ref (tR Θ 0 14)), none]) hl (by decide +kernel) rfl rfl (Nat.le_of_ble_eq_true rfl) rfl ?_
  intro p e s m args below meth c hC hr hT
  have HX : ∀ E9 G9, Qc (.inr E9) G9 → ∃ (i : Nat) (x : ExceptionTableEntry) (nm : String), (tableOf [(0, 4, 5, 15)])[i]? = some x ∧ (∀ z ∈ (tableOf [(0, 4, 5, 15)]).take i, covers z 1 = false ∨ (z.catchType ≠ 0 ∧ ∃ nm : String, Cond.classLink RL z.catchType nm ∈ wALL ∧ (E9, nm) ∈ ncW)) ∧ covers x 1 = true ∧ x.catchType ≠ 0 ∧ Cond.classLink RL x.catchType nm ∈ wALL ∧ Cond.castable E9 nm ∈ excW ∧ ∀ q9 : Nat, V p l e rm_L_addUserOf s m args below meth c 2 Θ (wP gI [eS] Qc) rm_L_addUserOf.cells rm_L_addUserOf.slots (0 + rm_X11_addUser.cells) (0 + rm_X11_addUser.slots) x.handlerPc [some (.ref (tR Θ 0 14)), none] [.ref q9] G9 := by
    intro E9 G9 z9
    rcases hx E9 G9 z9 with rfl
    · refine ⟨0, _, _, rfl, (fun z hz => absurd hz (by simp)), by decide, by decide, cl_RL_15, by decide, fun q9 => ?_⟩
      show V p l e rm_L_addUserOf s m args below meth c 2 Θ (wP gI [eS] Qc) rm_L_addUserOf.cells rm_L_addUserOf.slots (0 + rm_X11_addUser.cells) (0 + rm_X11_addUser.slots) 5 [some (.ref (tR Θ 0 14)), none] [.ref q9] G9
      refine v_astore_n (i := 1) (q := 6) hC dL_addUserOf_5 rfl rfl (lvc rfl) (Nat.le_of_ble_eq_true rfl) (Nat.le_of_ble_eq_true rfl) rfl ?_
      refine v_bipush (q := 8) (v := (-101)) hC dL_addUserOf_6 rfl (by decide) ?_
      refine v_iret hC dL_addUserOf_8 hr (rfl) ?_ (Nat.le_of_ble_eq_true rfl) (Nat.le_of_ble_eq_true rfl)
      exact Or.inr ⟨_, _, z9, by first | rfl | decide, rfl⟩
  refine v_aload_n (i := 0) (q := 1) hC dL_addUserOf_0 rfl rfl rfl ?_
  refine v_callTry (q := 4) (rm := rm_X11_addUser) hC hT hM k_X11_addUser im_yX11_addUser se_yX11_addUser ml_RL_9 dL_addUserOf_1 rfl rfl rfl rfl rfl rfl (Nat.le_of_ble_eq_true rfl) ⟨Nat.le_of_ble_eq_true rfl, Nat.le_of_ble_eq_true rfl⟩ ⟨Nat.le_of_ble_eq_true rfl, Nat.le_of_ble_eq_true rfl⟩ (fun v9 G9 z9 => ?_) HX
  obtain ⟨x9, rfl⟩ := hv _ _ z9
  dsimp only [Option.toList, List.cons_append, List.nil_append]
  refine v_iret hC dL_addUserOf_4 hr (rfl) ?_ (Nat.le_of_ble_eq_true rfl) (Nat.le_of_ble_eq_true rfl)
  exact Or.inl ⟨x9, _, z9, rfl, rfl⟩
theorem kh_L_addUserOf : kH yL_addUserOf cL_addUserOf 2 (some .int) [(0, 4, 5, 15)] 1 := ⟨cw_yL_addUserOf, ⟨by decide, by decide⟩, by decide +kernel, in_RL, st_yL_addUserOf⟩
abbrev rm_L_addGroupOf : Room := { frames := 7, locals := 132, cells := 1, slots := 6 }
set_option maxHeartbeats 4000000 in
set_option maxRecDepth 20000 in
theorem w_L_addGroupOf {l : Launch} (hl : l.stackTraces = false) (Θ : cTH) {Qc : cOut → GS → Prop} (G : GS) (hM : Ct l yX11_addGroup cX11_addGroup 1 (some .int) rm_X11_addGroup Θ [.ref (tR Θ 0 14)] G Qc) (hv : ∀ r G1, Qc (.inl r) G1 → ∃ x : Int32, r = some (.int x)) (hx : ∀ E G1, Qc (.inr E) G1 → E = eS) : CtH l yL_addGroupOf cL_addGroupOf 2 (some .int) [(0, 4, 5, 15)] rm_L_addGroupOf Θ [.ref (tR Θ 0 14)] G (wP gI [eS] Qc) := by
  refine cth_of (LS := [some (.ref (tR Θ 0 14)), none]) hl (by decide +kernel) rfl rfl (Nat.le_of_ble_eq_true rfl) rfl ?_
  intro p e s m args below meth c hC hr hT
  have HX : ∀ E9 G9, Qc (.inr E9) G9 → ∃ (i : Nat) (x : ExceptionTableEntry) (nm : String), (tableOf [(0, 4, 5, 15)])[i]? = some x ∧ (∀ z ∈ (tableOf [(0, 4, 5, 15)]).take i, covers z 1 = false ∨ (z.catchType ≠ 0 ∧ ∃ nm : String, Cond.classLink RL z.catchType nm ∈ wALL ∧ (E9, nm) ∈ ncW)) ∧ covers x 1 = true ∧ x.catchType ≠ 0 ∧ Cond.classLink RL x.catchType nm ∈ wALL ∧ Cond.castable E9 nm ∈ excW ∧ ∀ q9 : Nat, V p l e rm_L_addGroupOf s m args below meth c 2 Θ (wP gI [eS] Qc) rm_L_addGroupOf.cells rm_L_addGroupOf.slots (0 + rm_X11_addGroup.cells) (0 + rm_X11_addGroup.slots) x.handlerPc [some (.ref (tR Θ 0 14)), none] [.ref q9] G9 := by
    intro E9 G9 z9
    rcases hx E9 G9 z9 with rfl
    · refine ⟨0, _, _, rfl, (fun z hz => absurd hz (by simp)), by decide, by decide, cl_RL_15, by decide, fun q9 => ?_⟩
      show V p l e rm_L_addGroupOf s m args below meth c 2 Θ (wP gI [eS] Qc) rm_L_addGroupOf.cells rm_L_addGroupOf.slots (0 + rm_X11_addGroup.cells) (0 + rm_X11_addGroup.slots) 5 [some (.ref (tR Θ 0 14)), none] [.ref q9] G9
      refine v_astore_n (i := 1) (q := 6) hC dL_addGroupOf_5 rfl rfl (lvc rfl) (Nat.le_of_ble_eq_true rfl) (Nat.le_of_ble_eq_true rfl) rfl ?_
      refine v_bipush (q := 8) (v := (-101)) hC dL_addGroupOf_6 rfl (by decide) ?_
      refine v_iret hC dL_addGroupOf_8 hr (rfl) ?_ (Nat.le_of_ble_eq_true rfl) (Nat.le_of_ble_eq_true rfl)
      exact Or.inr ⟨_, _, z9, by first | rfl | decide, rfl⟩
  refine v_aload_n (i := 0) (q := 1) hC dL_addGroupOf_0 rfl rfl rfl ?_
  refine v_callTry (q := 4) (rm := rm_X11_addGroup) hC hT hM k_X11_addGroup im_yX11_addGroup se_yX11_addGroup ml_RL_17 dL_addGroupOf_1 rfl rfl rfl rfl rfl rfl (Nat.le_of_ble_eq_true rfl) ⟨Nat.le_of_ble_eq_true rfl, Nat.le_of_ble_eq_true rfl⟩ ⟨Nat.le_of_ble_eq_true rfl, Nat.le_of_ble_eq_true rfl⟩ (fun v9 G9 z9 => ?_) HX
  obtain ⟨x9, rfl⟩ := hv _ _ z9
  dsimp only [Option.toList, List.cons_append, List.nil_append]
  refine v_iret hC dL_addGroupOf_4 hr (rfl) ?_ (Nat.le_of_ble_eq_true rfl) (Nat.le_of_ble_eq_true rfl)
  exact Or.inl ⟨x9, _, z9, rfl, rfl⟩
theorem kh_L_addGroupOf : kH yL_addGroupOf cL_addGroupOf 2 (some .int) [(0, 4, 5, 15)] 1 := ⟨cw_yL_addGroupOf, ⟨by decide, by decide⟩, by decide +kernel, in_RL, st_yL_addGroupOf⟩
abbrev rm_L_joinOf : Room := { frames := 8, locals := 134, cells := 3, slots := 18 }
set_option maxHeartbeats 4000000 in
set_option maxRecDepth 20000 in
theorem w_L_joinOf {l : Launch} (hl : l.stackTraces = false) (Θ : cTH) {Qc : cOut → GS → Prop} (a0 a1 : Int32) (G : GS) (hM : Ct l yX11_join cX11_join 3 (some .int) rm_X11_join Θ [.ref (tR Θ 0 14), .int a0, .int a1] G Qc) (hv : ∀ r G1, Qc (.inl r) G1 → ∃ x : Int32, r = some (.int x)) (hx : ∀ E G1, Qc (.inr E) G1 → E = eX ∨ E = eS) : CtH l yL_joinOf cL_joinOf 4 (some .int) [(0, 6, 7, 24), (0, 6, 11, 15)] rm_L_joinOf Θ [.ref (tR Θ 0 14), .int a0, .int a1] G (wP gI [eX, eS] Qc) := by
  refine cth_of (LS := [some (.ref (tR Θ 0 14)), some (.int a0), some (.int a1), none]) hl (by decide +kernel) rfl rfl (Nat.le_of_ble_eq_true rfl) rfl ?_
  intro p e s m args below meth c hC hr hT
  have HX : ∀ E9 G9, Qc (.inr E9) G9 → ∃ (i : Nat) (x : ExceptionTableEntry) (nm : String), (tableOf [(0, 6, 7, 24), (0, 6, 11, 15)])[i]? = some x ∧ (∀ z ∈ (tableOf [(0, 6, 7, 24), (0, 6, 11, 15)]).take i, covers z 3 = false ∨ (z.catchType ≠ 0 ∧ ∃ nm : String, Cond.classLink RL z.catchType nm ∈ wALL ∧ (E9, nm) ∈ ncW)) ∧ covers x 3 = true ∧ x.catchType ≠ 0 ∧ Cond.classLink RL x.catchType nm ∈ wALL ∧ Cond.castable E9 nm ∈ excW ∧ ∀ q9 : Nat, V p l e rm_L_joinOf s m args below meth c 4 Θ (wP gI [eX, eS] Qc) rm_L_joinOf.cells rm_L_joinOf.slots (0 + rm_X11_join.cells) (0 + rm_X11_join.slots) x.handlerPc [some (.ref (tR Θ 0 14)), some (.int a0), some (.int a1), none] [.ref q9] G9 := by
    intro E9 G9 z9
    rcases hx E9 G9 z9 with rfl | rfl
    · refine ⟨0, _, _, rfl, (fun z hz => absurd hz (by simp)), by decide, by decide, cl_RL_24, by decide, fun q9 => ?_⟩
      show V p l e rm_L_joinOf s m args below meth c 4 Θ (wP gI [eX, eS] Qc) rm_L_joinOf.cells rm_L_joinOf.slots (0 + rm_X11_join.cells) (0 + rm_X11_join.slots) 7 [some (.ref (tR Θ 0 14)), some (.int a0), some (.int a1), none] [.ref q9] G9
      refine v_astore_n (i := 3) (q := 8) hC dL_joinOf_7 rfl rfl (lvc rfl) (Nat.le_of_ble_eq_true rfl) (Nat.le_of_ble_eq_true rfl) rfl ?_
      refine v_bipush (q := 10) (v := (-101)) hC dL_joinOf_8 rfl (by decide) ?_
      refine v_iret hC dL_joinOf_10 hr (rfl) ?_ (Nat.le_of_ble_eq_true rfl) (Nat.le_of_ble_eq_true rfl)
      exact Or.inr ⟨_, _, z9, by first | rfl | decide, rfl⟩
    · refine ⟨1, _, _, rfl, (List.forall_mem_cons.mpr ⟨Or.inr ⟨by decide, _, cl_RL_24, by decide⟩, List.forall_mem_nil _⟩), by decide, by decide, cl_RL_15, by decide, fun q9 => ?_⟩
      show V p l e rm_L_joinOf s m args below meth c 4 Θ (wP gI [eX, eS] Qc) rm_L_joinOf.cells rm_L_joinOf.slots (0 + rm_X11_join.cells) (0 + rm_X11_join.slots) 11 [some (.ref (tR Θ 0 14)), some (.int a0), some (.int a1), none] [.ref q9] G9
      refine v_astore_n (i := 3) (q := 12) hC dL_joinOf_11 rfl rfl (lvc rfl) (Nat.le_of_ble_eq_true rfl) (Nat.le_of_ble_eq_true rfl) rfl ?_
      refine v_bipush (q := 14) (v := (-102)) hC dL_joinOf_12 rfl (by decide) ?_
      refine v_iret hC dL_joinOf_14 hr (rfl) ?_ (Nat.le_of_ble_eq_true rfl) (Nat.le_of_ble_eq_true rfl)
      exact Or.inr ⟨_, _, z9, by first | rfl | decide, rfl⟩
  refine v_aload_n (i := 0) (q := 1) hC dL_joinOf_0 rfl rfl rfl ?_
  refine v_iload_n (i := 1) (q := 2) hC dL_joinOf_1 rfl rfl rfl ?_
  refine v_iload_n (i := 2) (q := 3) hC dL_joinOf_2 rfl rfl rfl ?_
  refine v_callTry (q := 6) (rm := rm_X11_join) hC hT hM k_X11_join im_yX11_join se_yX11_join ml_RL_20 dL_joinOf_3 rfl rfl rfl rfl rfl rfl (Nat.le_of_ble_eq_true rfl) ⟨Nat.le_of_ble_eq_true rfl, Nat.le_of_ble_eq_true rfl⟩ ⟨Nat.le_of_ble_eq_true rfl, Nat.le_of_ble_eq_true rfl⟩ (fun v9 G9 z9 => ?_) HX
  obtain ⟨x9, rfl⟩ := hv _ _ z9
  dsimp only [Option.toList, List.cons_append, List.nil_append]
  refine v_iret hC dL_joinOf_6 hr (rfl) ?_ (Nat.le_of_ble_eq_true rfl) (Nat.le_of_ble_eq_true rfl)
  exact Or.inl ⟨x9, _, z9, rfl, rfl⟩
theorem kh_L_joinOf : kH yL_joinOf cL_joinOf 4 (some .int) [(0, 6, 7, 24), (0, 6, 11, 15)] 3 := ⟨cw_yL_joinOf, ⟨by decide, by decide⟩, by decide +kernel, in_RL, st_yL_joinOf⟩
abbrev rm_L_leaveOf : Room := { frames := 8, locals := 134, cells := 3, slots := 18 }
set_option maxHeartbeats 4000000 in
set_option maxRecDepth 20000 in
theorem w_L_leaveOf {l : Launch} (hl : l.stackTraces = false) (Θ : cTH) {Qc : cOut → GS → Prop} (a0 a1 : Int32) (G : GS) (hM : Ct l yX11_leave cX11_leave 3 (some .int) rm_X11_leave Θ [.ref (tR Θ 0 14), .int a0, .int a1] G Qc) (hv : ∀ r G1, Qc (.inl r) G1 → ∃ x : Int32, r = some (.int x)) (hx : ∀ E G1, Qc (.inr E) G1 → E = eX ∨ E = eS) : CtH l yL_leaveOf cL_leaveOf 4 (some .int) [(0, 6, 7, 24), (0, 6, 11, 15)] rm_L_leaveOf Θ [.ref (tR Θ 0 14), .int a0, .int a1] G (wP gI [eX, eS] Qc) := by
  refine cth_of (LS := [some (.ref (tR Θ 0 14)), some (.int a0), some (.int a1), none]) hl (by decide +kernel) rfl rfl (Nat.le_of_ble_eq_true rfl) rfl ?_
  intro p e s m args below meth c hC hr hT
  have HX : ∀ E9 G9, Qc (.inr E9) G9 → ∃ (i : Nat) (x : ExceptionTableEntry) (nm : String), (tableOf [(0, 6, 7, 24), (0, 6, 11, 15)])[i]? = some x ∧ (∀ z ∈ (tableOf [(0, 6, 7, 24), (0, 6, 11, 15)]).take i, covers z 3 = false ∨ (z.catchType ≠ 0 ∧ ∃ nm : String, Cond.classLink RL z.catchType nm ∈ wALL ∧ (E9, nm) ∈ ncW)) ∧ covers x 3 = true ∧ x.catchType ≠ 0 ∧ Cond.classLink RL x.catchType nm ∈ wALL ∧ Cond.castable E9 nm ∈ excW ∧ ∀ q9 : Nat, V p l e rm_L_leaveOf s m args below meth c 4 Θ (wP gI [eX, eS] Qc) rm_L_leaveOf.cells rm_L_leaveOf.slots (0 + rm_X11_leave.cells) (0 + rm_X11_leave.slots) x.handlerPc [some (.ref (tR Θ 0 14)), some (.int a0), some (.int a1), none] [.ref q9] G9 := by
    intro E9 G9 z9
    rcases hx E9 G9 z9 with rfl | rfl
    · refine ⟨0, _, _, rfl, (fun z hz => absurd hz (by simp)), by decide, by decide, cl_RL_24, by decide, fun q9 => ?_⟩
      show V p l e rm_L_leaveOf s m args below meth c 4 Θ (wP gI [eX, eS] Qc) rm_L_leaveOf.cells rm_L_leaveOf.slots (0 + rm_X11_leave.cells) (0 + rm_X11_leave.slots) 7 [some (.ref (tR Θ 0 14)), some (.int a0), some (.int a1), none] [.ref q9] G9
      refine v_astore_n (i := 3) (q := 8) hC dL_leaveOf_7 rfl rfl (lvc rfl) (Nat.le_of_ble_eq_true rfl) (Nat.le_of_ble_eq_true rfl) rfl ?_
      refine v_bipush (q := 10) (v := (-101)) hC dL_leaveOf_8 rfl (by decide) ?_
      refine v_iret hC dL_leaveOf_10 hr (rfl) ?_ (Nat.le_of_ble_eq_true rfl) (Nat.le_of_ble_eq_true rfl)
      exact Or.inr ⟨_, _, z9, by first | rfl | decide, rfl⟩
    · refine ⟨1, _, _, rfl, (List.forall_mem_cons.mpr ⟨Or.inr ⟨by decide, _, cl_RL_24, by decide⟩, List.forall_mem_nil _⟩), by decide, by decide, cl_RL_15, by decide, fun q9 => ?_⟩
      show V p l e rm_L_leaveOf s m args below meth c 4 Θ (wP gI [eX, eS] Qc) rm_L_leaveOf.cells rm_L_leaveOf.slots (0 + rm_X11_leave.cells) (0 + rm_X11_leave.slots) 11 [some (.ref (tR Θ 0 14)), some (.int a0), some (.int a1), none] [.ref q9] G9
      refine v_astore_n (i := 3) (q := 12) hC dL_leaveOf_11 rfl rfl (lvc rfl) (Nat.le_of_ble_eq_true rfl) (Nat.le_of_ble_eq_true rfl) rfl ?_
      refine v_bipush (q := 14) (v := (-102)) hC dL_leaveOf_12 rfl (by decide) ?_
      refine v_iret hC dL_leaveOf_14 hr (rfl) ?_ (Nat.le_of_ble_eq_true rfl) (Nat.le_of_ble_eq_true rfl)
      exact Or.inr ⟨_, _, z9, by first | rfl | decide, rfl⟩
  refine v_aload_n (i := 0) (q := 1) hC dL_leaveOf_0 rfl rfl rfl ?_
  refine v_iload_n (i := 1) (q := 2) hC dL_leaveOf_1 rfl rfl rfl ?_
  refine v_iload_n (i := 2) (q := 3) hC dL_leaveOf_2 rfl rfl rfl ?_
  refine v_callTry (q := 6) (rm := rm_X11_leave) hC hT hM k_X11_leave im_yX11_leave se_yX11_leave ml_RL_26 dL_leaveOf_3 rfl rfl rfl rfl rfl rfl (Nat.le_of_ble_eq_true rfl) ⟨Nat.le_of_ble_eq_true rfl, Nat.le_of_ble_eq_true rfl⟩ ⟨Nat.le_of_ble_eq_true rfl, Nat.le_of_ble_eq_true rfl⟩ (fun v9 G9 z9 => ?_) HX
  obtain ⟨x9, rfl⟩ := hv _ _ z9
  dsimp only [Option.toList, List.cons_append, List.nil_append]
  refine v_iret hC dL_leaveOf_6 hr (rfl) ?_ (Nat.le_of_ble_eq_true rfl) (Nat.le_of_ble_eq_true rfl)
  exact Or.inl ⟨x9, _, z9, rfl, rfl⟩
theorem kh_L_leaveOf : kH yL_leaveOf cL_leaveOf 4 (some .int) [(0, 6, 7, 24), (0, 6, 11, 15)] 3 := ⟨cw_yL_leaveOf, ⟨by decide, by decide⟩, by decide +kernel, in_RL, st_yL_leaveOf⟩
abbrev rm_L_nestOf : Room := { frames := 8, locals := 134, cells := 3, slots := 18 }
set_option maxHeartbeats 4000000 in
set_option maxRecDepth 20000 in
theorem w_L_nestOf {l : Launch} (hl : l.stackTraces = false) (Θ : cTH) {Qc : cOut → GS → Prop} (a0 a1 : Int32) (G : GS) (hM : Ct l yX11_nest cX11_nest 3 (some .int) rm_X11_nest Θ [.ref (tR Θ 0 14), .int a0, .int a1] G Qc) (hv : ∀ r G1, Qc (.inl r) G1 → ∃ x : Int32, r = some (.int x)) (hx : ∀ E G1, Qc (.inr E) G1 → E = eX ∨ E = eS) : CtH l yL_nestOf cL_nestOf 4 (some .int) [(0, 6, 7, 24), (0, 6, 11, 15)] rm_L_nestOf Θ [.ref (tR Θ 0 14), .int a0, .int a1] G (wP gI [eX, eS] Qc) := by
  refine cth_of (LS := [some (.ref (tR Θ 0 14)), some (.int a0), some (.int a1), none]) hl (by decide +kernel) rfl rfl (Nat.le_of_ble_eq_true rfl) rfl ?_
  intro p e s m args below meth c hC hr hT
  have HX : ∀ E9 G9, Qc (.inr E9) G9 → ∃ (i : Nat) (x : ExceptionTableEntry) (nm : String), (tableOf [(0, 6, 7, 24), (0, 6, 11, 15)])[i]? = some x ∧ (∀ z ∈ (tableOf [(0, 6, 7, 24), (0, 6, 11, 15)]).take i, covers z 3 = false ∨ (z.catchType ≠ 0 ∧ ∃ nm : String, Cond.classLink RL z.catchType nm ∈ wALL ∧ (E9, nm) ∈ ncW)) ∧ covers x 3 = true ∧ x.catchType ≠ 0 ∧ Cond.classLink RL x.catchType nm ∈ wALL ∧ Cond.castable E9 nm ∈ excW ∧ ∀ q9 : Nat, V p l e rm_L_nestOf s m args below meth c 4 Θ (wP gI [eX, eS] Qc) rm_L_nestOf.cells rm_L_nestOf.slots (0 + rm_X11_nest.cells) (0 + rm_X11_nest.slots) x.handlerPc [some (.ref (tR Θ 0 14)), some (.int a0), some (.int a1), none] [.ref q9] G9 := by
    intro E9 G9 z9
    rcases hx E9 G9 z9 with rfl | rfl
    · refine ⟨0, _, _, rfl, (fun z hz => absurd hz (by simp)), by decide, by decide, cl_RL_24, by decide, fun q9 => ?_⟩
      show V p l e rm_L_nestOf s m args below meth c 4 Θ (wP gI [eX, eS] Qc) rm_L_nestOf.cells rm_L_nestOf.slots (0 + rm_X11_nest.cells) (0 + rm_X11_nest.slots) 7 [some (.ref (tR Θ 0 14)), some (.int a0), some (.int a1), none] [.ref q9] G9
      refine v_astore_n (i := 3) (q := 8) hC dL_nestOf_7 rfl rfl (lvc rfl) (Nat.le_of_ble_eq_true rfl) (Nat.le_of_ble_eq_true rfl) rfl ?_
      refine v_bipush (q := 10) (v := (-101)) hC dL_nestOf_8 rfl (by decide) ?_
      refine v_iret hC dL_nestOf_10 hr (rfl) ?_ (Nat.le_of_ble_eq_true rfl) (Nat.le_of_ble_eq_true rfl)
      exact Or.inr ⟨_, _, z9, by first | rfl | decide, rfl⟩
    · refine ⟨1, _, _, rfl, (List.forall_mem_cons.mpr ⟨Or.inr ⟨by decide, _, cl_RL_24, by decide⟩, List.forall_mem_nil _⟩), by decide, by decide, cl_RL_15, by decide, fun q9 => ?_⟩
      show V p l e rm_L_nestOf s m args below meth c 4 Θ (wP gI [eX, eS] Qc) rm_L_nestOf.cells rm_L_nestOf.slots (0 + rm_X11_nest.cells) (0 + rm_X11_nest.slots) 11 [some (.ref (tR Θ 0 14)), some (.int a0), some (.int a1), none] [.ref q9] G9
      refine v_astore_n (i := 3) (q := 12) hC dL_nestOf_11 rfl rfl (lvc rfl) (Nat.le_of_ble_eq_true rfl) (Nat.le_of_ble_eq_true rfl) rfl ?_
      refine v_bipush (q := 14) (v := (-102)) hC dL_nestOf_12 rfl (by decide) ?_
      refine v_iret hC dL_nestOf_14 hr (rfl) ?_ (Nat.le_of_ble_eq_true rfl) (Nat.le_of_ble_eq_true rfl)
      exact Or.inr ⟨_, _, z9, by first | rfl | decide, rfl⟩
  refine v_aload_n (i := 0) (q := 1) hC dL_nestOf_0 rfl rfl rfl ?_
  refine v_iload_n (i := 1) (q := 2) hC dL_nestOf_1 rfl rfl rfl ?_
  refine v_iload_n (i := 2) (q := 3) hC dL_nestOf_2 rfl rfl rfl ?_
  refine v_callTry (q := 6) (rm := rm_X11_nest) hC hT hM k_X11_nest im_yX11_nest se_yX11_nest ml_RL_29 dL_nestOf_3 rfl rfl rfl rfl rfl rfl (Nat.le_of_ble_eq_true rfl) ⟨Nat.le_of_ble_eq_true rfl, Nat.le_of_ble_eq_true rfl⟩ ⟨Nat.le_of_ble_eq_true rfl, Nat.le_of_ble_eq_true rfl⟩ (fun v9 G9 z9 => ?_) HX
  obtain ⟨x9, rfl⟩ := hv _ _ z9
  dsimp only [Option.toList, List.cons_append, List.nil_append]
  refine v_iret hC dL_nestOf_6 hr (rfl) ?_ (Nat.le_of_ble_eq_true rfl) (Nat.le_of_ble_eq_true rfl)
  exact Or.inl ⟨x9, _, z9, rfl, rfl⟩
theorem kh_L_nestOf : kH yL_nestOf cL_nestOf 4 (some .int) [(0, 6, 7, 24), (0, 6, 11, 15)] 3 := ⟨cw_yL_nestOf, ⟨by decide, by decide⟩, by decide +kernel, in_RL, st_yL_nestOf⟩
abbrev rm_L_unnestOf : Room := { frames := 8, locals := 134, cells := 3, slots := 18 }
set_option maxHeartbeats 4000000 in
set_option maxRecDepth 20000 in
theorem w_L_unnestOf {l : Launch} (hl : l.stackTraces = false) (Θ : cTH) {Qc : cOut → GS → Prop} (a0 a1 : Int32) (G : GS) (hM : Ct l yX11_unnest cX11_unnest 3 (some .int) rm_X11_unnest Θ [.ref (tR Θ 0 14), .int a0, .int a1] G Qc) (hv : ∀ r G1, Qc (.inl r) G1 → ∃ x : Int32, r = some (.int x)) (hx : ∀ E G1, Qc (.inr E) G1 → E = eX ∨ E = eS) : CtH l yL_unnestOf cL_unnestOf 4 (some .int) [(0, 6, 7, 24), (0, 6, 11, 15)] rm_L_unnestOf Θ [.ref (tR Θ 0 14), .int a0, .int a1] G (wP gI [eX, eS] Qc) := by
  refine cth_of (LS := [some (.ref (tR Θ 0 14)), some (.int a0), some (.int a1), none]) hl (by decide +kernel) rfl rfl (Nat.le_of_ble_eq_true rfl) rfl ?_
  intro p e s m args below meth c hC hr hT
  have HX : ∀ E9 G9, Qc (.inr E9) G9 → ∃ (i : Nat) (x : ExceptionTableEntry) (nm : String), (tableOf [(0, 6, 7, 24), (0, 6, 11, 15)])[i]? = some x ∧ (∀ z ∈ (tableOf [(0, 6, 7, 24), (0, 6, 11, 15)]).take i, covers z 3 = false ∨ (z.catchType ≠ 0 ∧ ∃ nm : String, Cond.classLink RL z.catchType nm ∈ wALL ∧ (E9, nm) ∈ ncW)) ∧ covers x 3 = true ∧ x.catchType ≠ 0 ∧ Cond.classLink RL x.catchType nm ∈ wALL ∧ Cond.castable E9 nm ∈ excW ∧ ∀ q9 : Nat, V p l e rm_L_unnestOf s m args below meth c 4 Θ (wP gI [eX, eS] Qc) rm_L_unnestOf.cells rm_L_unnestOf.slots (0 + rm_X11_unnest.cells) (0 + rm_X11_unnest.slots) x.handlerPc [some (.ref (tR Θ 0 14)), some (.int a0), some (.int a1), none] [.ref q9] G9 := by
    intro E9 G9 z9
    rcases hx E9 G9 z9 with rfl | rfl
    · refine ⟨0, _, _, rfl, (fun z hz => absurd hz (by simp)), by decide, by decide, cl_RL_24, by decide, fun q9 => ?_⟩
      show V p l e rm_L_unnestOf s m args below meth c 4 Θ (wP gI [eX, eS] Qc) rm_L_unnestOf.cells rm_L_unnestOf.slots (0 + rm_X11_unnest.cells) (0 + rm_X11_unnest.slots) 7 [some (.ref (tR Θ 0 14)), some (.int a0), some (.int a1), none] [.ref q9] G9
      refine v_astore_n (i := 3) (q := 8) hC dL_unnestOf_7 rfl rfl (lvc rfl) (Nat.le_of_ble_eq_true rfl) (Nat.le_of_ble_eq_true rfl) rfl ?_
      refine v_bipush (q := 10) (v := (-101)) hC dL_unnestOf_8 rfl (by decide) ?_
      refine v_iret hC dL_unnestOf_10 hr (rfl) ?_ (Nat.le_of_ble_eq_true rfl) (Nat.le_of_ble_eq_true rfl)
      exact Or.inr ⟨_, _, z9, by first | rfl | decide, rfl⟩
    · refine ⟨1, _, _, rfl, (List.forall_mem_cons.mpr ⟨Or.inr ⟨by decide, _, cl_RL_24, by decide⟩, List.forall_mem_nil _⟩), by decide, by decide, cl_RL_15, by decide, fun q9 => ?_⟩
      show V p l e rm_L_unnestOf s m args below meth c 4 Θ (wP gI [eX, eS] Qc) rm_L_unnestOf.cells rm_L_unnestOf.slots (0 + rm_X11_unnest.cells) (0 + rm_X11_unnest.slots) 11 [some (.ref (tR Θ 0 14)), some (.int a0), some (.int a1), none] [.ref q9] G9
      refine v_astore_n (i := 3) (q := 12) hC dL_unnestOf_11 rfl rfl (lvc rfl) (Nat.le_of_ble_eq_true rfl) (Nat.le_of_ble_eq_true rfl) rfl ?_
      refine v_bipush (q := 14) (v := (-102)) hC dL_unnestOf_12 rfl (by decide) ?_
      refine v_iret hC dL_unnestOf_14 hr (rfl) ?_ (Nat.le_of_ble_eq_true rfl) (Nat.le_of_ble_eq_true rfl)
      exact Or.inr ⟨_, _, z9, by first | rfl | decide, rfl⟩
  refine v_aload_n (i := 0) (q := 1) hC dL_unnestOf_0 rfl rfl rfl ?_
  refine v_iload_n (i := 1) (q := 2) hC dL_unnestOf_1 rfl rfl rfl ?_
  refine v_iload_n (i := 2) (q := 3) hC dL_unnestOf_2 rfl rfl rfl ?_
  refine v_callTry (q := 6) (rm := rm_X11_unnest) hC hT hM k_X11_unnest im_yX11_unnest se_yX11_unnest ml_RL_32 dL_unnestOf_3 rfl rfl rfl rfl rfl rfl (Nat.le_of_ble_eq_true rfl) ⟨Nat.le_of_ble_eq_true rfl, Nat.le_of_ble_eq_true rfl⟩ ⟨Nat.le_of_ble_eq_true rfl, Nat.le_of_ble_eq_true rfl⟩ (fun v9 G9 z9 => ?_) HX
  obtain ⟨x9, rfl⟩ := hv _ _ z9
  dsimp only [Option.toList, List.cons_append, List.nil_append]
  refine v_iret hC dL_unnestOf_6 hr (rfl) ?_ (Nat.le_of_ble_eq_true rfl) (Nat.le_of_ble_eq_true rfl)
  exact Or.inl ⟨x9, _, z9, rfl, rfl⟩
theorem kh_L_unnestOf : kH yL_unnestOf cL_unnestOf 4 (some .int) [(0, 6, 7, 24), (0, 6, 11, 15)] 3 := ⟨cw_yL_unnestOf, ⟨by decide, by decide⟩, by decide +kernel, in_RL, st_yL_unnestOf⟩
abbrev rm_L_makeOf : Room := { frames := 8, locals := 135, cells := 3, slots := 18 }
set_option maxHeartbeats 4000000 in
set_option maxRecDepth 20000 in
theorem w_L_makeOf {l : Launch} (hl : l.stackTraces = false) (Θ : cTH) {Qc : cOut → GS → Prop} (a0 a1 : Int32) (G : GS) (hM : Ct l yX11_make cX11_make 4 (some .int) rm_X11_make Θ [.ref (tR Θ 0 14), .int a0, .int a1] G Qc) (hv : ∀ r G1, Qc (.inl r) G1 → ∃ x : Int32, r = some (.int x)) (hx : ∀ E G1, Qc (.inr E) G1 → E = eX ∨ E = eS) : CtH l yL_makeOf cL_makeOf 4 (some .int) [(0, 6, 7, 24), (0, 6, 11, 15)] rm_L_makeOf Θ [.ref (tR Θ 0 14), .int a0, .int a1] G (wP gI [eX, eS] Qc) := by
  refine cth_of (LS := [some (.ref (tR Θ 0 14)), some (.int a0), some (.int a1), none]) hl (by decide +kernel) rfl rfl (Nat.le_of_ble_eq_true rfl) rfl ?_
  intro p e s m args below meth c hC hr hT
  have HX : ∀ E9 G9, Qc (.inr E9) G9 → ∃ (i : Nat) (x : ExceptionTableEntry) (nm : String), (tableOf [(0, 6, 7, 24), (0, 6, 11, 15)])[i]? = some x ∧ (∀ z ∈ (tableOf [(0, 6, 7, 24), (0, 6, 11, 15)]).take i, covers z 3 = false ∨ (z.catchType ≠ 0 ∧ ∃ nm : String, Cond.classLink RL z.catchType nm ∈ wALL ∧ (E9, nm) ∈ ncW)) ∧ covers x 3 = true ∧ x.catchType ≠ 0 ∧ Cond.classLink RL x.catchType nm ∈ wALL ∧ Cond.castable E9 nm ∈ excW ∧ ∀ q9 : Nat, V p l e rm_L_makeOf s m args below meth c 4 Θ (wP gI [eX, eS] Qc) rm_L_makeOf.cells rm_L_makeOf.slots (0 + rm_X11_make.cells) (0 + rm_X11_make.slots) x.handlerPc [some (.ref (tR Θ 0 14)), some (.int a0), some (.int a1), none] [.ref q9] G9 := by
    intro E9 G9 z9
    rcases hx E9 G9 z9 with rfl | rfl
    · refine ⟨0, _, _, rfl, (fun z hz => absurd hz (by simp)), by decide, by decide, cl_RL_24, by decide, fun q9 => ?_⟩
      show V p l e rm_L_makeOf s m args below meth c 4 Θ (wP gI [eX, eS] Qc) rm_L_makeOf.cells rm_L_makeOf.slots (0 + rm_X11_make.cells) (0 + rm_X11_make.slots) 7 [some (.ref (tR Θ 0 14)), some (.int a0), some (.int a1), none] [.ref q9] G9
      refine v_astore_n (i := 3) (q := 8) hC dL_makeOf_7 rfl rfl (lvc rfl) (Nat.le_of_ble_eq_true rfl) (Nat.le_of_ble_eq_true rfl) rfl ?_
      refine v_bipush (q := 10) (v := (-101)) hC dL_makeOf_8 rfl (by decide) ?_
      refine v_iret hC dL_makeOf_10 hr (rfl) ?_ (Nat.le_of_ble_eq_true rfl) (Nat.le_of_ble_eq_true rfl)
      exact Or.inr ⟨_, _, z9, by first | rfl | decide, rfl⟩
    · refine ⟨1, _, _, rfl, (List.forall_mem_cons.mpr ⟨Or.inr ⟨by decide, _, cl_RL_24, by decide⟩, List.forall_mem_nil _⟩), by decide, by decide, cl_RL_15, by decide, fun q9 => ?_⟩
      show V p l e rm_L_makeOf s m args below meth c 4 Θ (wP gI [eX, eS] Qc) rm_L_makeOf.cells rm_L_makeOf.slots (0 + rm_X11_make.cells) (0 + rm_X11_make.slots) 11 [some (.ref (tR Θ 0 14)), some (.int a0), some (.int a1), none] [.ref q9] G9
      refine v_astore_n (i := 3) (q := 12) hC dL_makeOf_11 rfl rfl (lvc rfl) (Nat.le_of_ble_eq_true rfl) (Nat.le_of_ble_eq_true rfl) rfl ?_
      refine v_bipush (q := 14) (v := (-102)) hC dL_makeOf_12 rfl (by decide) ?_
      refine v_iret hC dL_makeOf_14 hr (rfl) ?_ (Nat.le_of_ble_eq_true rfl) (Nat.le_of_ble_eq_true rfl)
      exact Or.inr ⟨_, _, z9, by first | rfl | decide, rfl⟩
  refine v_aload_n (i := 0) (q := 1) hC dL_makeOf_0 rfl rfl rfl ?_
  refine v_iload_n (i := 1) (q := 2) hC dL_makeOf_1 rfl rfl rfl ?_
  refine v_iload_n (i := 2) (q := 3) hC dL_makeOf_2 rfl rfl rfl ?_
  refine v_callTry (q := 6) (rm := rm_X11_make) hC hT hM k_X11_make im_yX11_make se_yX11_make ml_RL_35 dL_makeOf_3 rfl rfl rfl rfl rfl rfl (Nat.le_of_ble_eq_true rfl) ⟨Nat.le_of_ble_eq_true rfl, Nat.le_of_ble_eq_true rfl⟩ ⟨Nat.le_of_ble_eq_true rfl, Nat.le_of_ble_eq_true rfl⟩ (fun v9 G9 z9 => ?_) HX
  obtain ⟨x9, rfl⟩ := hv _ _ z9
  dsimp only [Option.toList, List.cons_append, List.nil_append]
  refine v_iret hC dL_makeOf_6 hr (rfl) ?_ (Nat.le_of_ble_eq_true rfl) (Nat.le_of_ble_eq_true rfl)
  exact Or.inl ⟨x9, _, z9, rfl, rfl⟩
theorem kh_L_makeOf : kH yL_makeOf cL_makeOf 4 (some .int) [(0, 6, 7, 24), (0, 6, 11, 15)] 3 := ⟨cw_yL_makeOf, ⟨by decide, by decide⟩, by decide +kernel, in_RL, st_yL_makeOf⟩
abbrev rm_L_removeOf : Room := { frames := 8, locals := 133, cells := 2, slots := 12 }
set_option maxHeartbeats 4000000 in
set_option maxRecDepth 20000 in
theorem w_L_removeOf {l : Launch} (hl : l.stackTraces = false) (Θ : cTH) {Qc : cOut → GS → Prop} (a0 : Int32) (G : GS) (hM : Ct l yX11_remove cX11_remove 2 (some .int) rm_X11_remove Θ [.ref (tR Θ 0 14), .int a0] G Qc) (hv : ∀ r G1, Qc (.inl r) G1 → ∃ x : Int32, r = some (.int x)) (hx : ∀ E G1, Qc (.inr E) G1 → E = eX ∨ E = eS) : CtH l yL_removeOf cL_removeOf 3 (some .int) [(0, 5, 6, 24), (0, 5, 10, 15)] rm_L_removeOf Θ [.ref (tR Θ 0 14), .int a0] G (wP gI [eX, eS] Qc) := by
  refine cth_of (LS := [some (.ref (tR Θ 0 14)), some (.int a0), none]) hl (by decide +kernel) rfl rfl (Nat.le_of_ble_eq_true rfl) rfl ?_
  intro p e s m args below meth c hC hr hT
  have HX : ∀ E9 G9, Qc (.inr E9) G9 → ∃ (i : Nat) (x : ExceptionTableEntry) (nm : String), (tableOf [(0, 5, 6, 24), (0, 5, 10, 15)])[i]? = some x ∧ (∀ z ∈ (tableOf [(0, 5, 6, 24), (0, 5, 10, 15)]).take i, covers z 2 = false ∨ (z.catchType ≠ 0 ∧ ∃ nm : String, Cond.classLink RL z.catchType nm ∈ wALL ∧ (E9, nm) ∈ ncW)) ∧ covers x 2 = true ∧ x.catchType ≠ 0 ∧ Cond.classLink RL x.catchType nm ∈ wALL ∧ Cond.castable E9 nm ∈ excW ∧ ∀ q9 : Nat, V p l e rm_L_removeOf s m args below meth c 3 Θ (wP gI [eX, eS] Qc) rm_L_removeOf.cells rm_L_removeOf.slots (0 + rm_X11_remove.cells) (0 + rm_X11_remove.slots) x.handlerPc [some (.ref (tR Θ 0 14)), some (.int a0), none] [.ref q9] G9 := by
    intro E9 G9 z9
    rcases hx E9 G9 z9 with rfl | rfl
    · refine ⟨0, _, _, rfl, (fun z hz => absurd hz (by simp)), by decide, by decide, cl_RL_24, by decide, fun q9 => ?_⟩
      show V p l e rm_L_removeOf s m args below meth c 3 Θ (wP gI [eX, eS] Qc) rm_L_removeOf.cells rm_L_removeOf.slots (0 + rm_X11_remove.cells) (0 + rm_X11_remove.slots) 6 [some (.ref (tR Θ 0 14)), some (.int a0), none] [.ref q9] G9
      refine v_astore_n (i := 2) (q := 7) hC dL_removeOf_6 rfl rfl (lvc rfl) (Nat.le_of_ble_eq_true rfl) (Nat.le_of_ble_eq_true rfl) rfl ?_
      refine v_bipush (q := 9) (v := (-101)) hC dL_removeOf_7 rfl (by decide) ?_
      refine v_iret hC dL_removeOf_9 hr (rfl) ?_ (Nat.le_of_ble_eq_true rfl) (Nat.le_of_ble_eq_true rfl)
      exact Or.inr ⟨_, _, z9, by first | rfl | decide, rfl⟩
    · refine ⟨1, _, _, rfl, (List.forall_mem_cons.mpr ⟨Or.inr ⟨by decide, _, cl_RL_24, by decide⟩, List.forall_mem_nil _⟩), by decide, by decide, cl_RL_15, by decide, fun q9 => ?_⟩
      show V p l e rm_L_removeOf s m args below meth c 3 Θ (wP gI [eX, eS] Qc) rm_L_removeOf.cells rm_L_removeOf.slots (0 + rm_X11_remove.cells) (0 + rm_X11_remove.slots) 10 [some (.ref (tR Θ 0 14)), some (.int a0), none] [.ref q9] G9
      refine v_astore_n (i := 2) (q := 11) hC dL_removeOf_10 rfl rfl (lvc rfl) (Nat.le_of_ble_eq_true rfl) (Nat.le_of_ble_eq_true rfl) rfl ?_
      refine v_bipush (q := 13) (v := (-102)) hC dL_removeOf_11 rfl (by decide) ?_
      refine v_iret hC dL_removeOf_13 hr (rfl) ?_ (Nat.le_of_ble_eq_true rfl) (Nat.le_of_ble_eq_true rfl)
      exact Or.inr ⟨_, _, z9, by first | rfl | decide, rfl⟩
  refine v_aload_n (i := 0) (q := 1) hC dL_removeOf_0 rfl rfl rfl ?_
  refine v_iload_n (i := 1) (q := 2) hC dL_removeOf_1 rfl rfl rfl ?_
  refine v_callTry (q := 5) (rm := rm_X11_remove) hC hT hM k_X11_remove im_yX11_remove se_yX11_remove ml_RL_38 dL_removeOf_2 rfl rfl rfl rfl rfl rfl (Nat.le_of_ble_eq_true rfl) ⟨Nat.le_of_ble_eq_true rfl, Nat.le_of_ble_eq_true rfl⟩ ⟨Nat.le_of_ble_eq_true rfl, Nat.le_of_ble_eq_true rfl⟩ (fun v9 G9 z9 => ?_) HX
  obtain ⟨x9, rfl⟩ := hv _ _ z9
  dsimp only [Option.toList, List.cons_append, List.nil_append]
  refine v_iret hC dL_removeOf_5 hr (rfl) ?_ (Nat.le_of_ble_eq_true rfl) (Nat.le_of_ble_eq_true rfl)
  exact Or.inl ⟨x9, _, z9, rfl, rfl⟩
theorem kh_L_removeOf : kH yL_removeOf cL_removeOf 3 (some .int) [(0, 5, 6, 24), (0, 5, 10, 15)] 2 := ⟨cw_yL_removeOf, ⟨by decide, by decide⟩, by decide +kernel, in_RL, st_yL_removeOf⟩
abbrev rm_L_moveOf : Room := { frames := 8, locals := 135, cells := 3, slots := 18 }
set_option maxHeartbeats 4000000 in
set_option maxRecDepth 20000 in
theorem w_L_moveOf {l : Launch} (hl : l.stackTraces = false) (Θ : cTH) {Qc : cOut → GS → Prop} (a0 a1 : Int32) (G : GS) (hM : Ct l yX11_move cX11_move 4 (some .int) rm_X11_move Θ [.ref (tR Θ 0 14), .int a0, .int a1] G Qc) (hv : ∀ r G1, Qc (.inl r) G1 → ∃ x : Int32, r = some (.int x)) (hx : ∀ E G1, Qc (.inr E) G1 → E = eX ∨ E = eS) : CtH l yL_moveOf cL_moveOf 4 (some .int) [(0, 6, 7, 24), (0, 6, 11, 15)] rm_L_moveOf Θ [.ref (tR Θ 0 14), .int a0, .int a1] G (wP gI [eX, eS] Qc) := by
  refine cth_of (LS := [some (.ref (tR Θ 0 14)), some (.int a0), some (.int a1), none]) hl (by decide +kernel) rfl rfl (Nat.le_of_ble_eq_true rfl) rfl ?_
  intro p e s m args below meth c hC hr hT
  have HX : ∀ E9 G9, Qc (.inr E9) G9 → ∃ (i : Nat) (x : ExceptionTableEntry) (nm : String), (tableOf [(0, 6, 7, 24), (0, 6, 11, 15)])[i]? = some x ∧ (∀ z ∈ (tableOf [(0, 6, 7, 24), (0, 6, 11, 15)]).take i, covers z 3 = false ∨ (z.catchType ≠ 0 ∧ ∃ nm : String, Cond.classLink RL z.catchType nm ∈ wALL ∧ (E9, nm) ∈ ncW)) ∧ covers x 3 = true ∧ x.catchType ≠ 0 ∧ Cond.classLink RL x.catchType nm ∈ wALL ∧ Cond.castable E9 nm ∈ excW ∧ ∀ q9 : Nat, V p l e rm_L_moveOf s m args below meth c 4 Θ (wP gI [eX, eS] Qc) rm_L_moveOf.cells rm_L_moveOf.slots (0 + rm_X11_move.cells) (0 + rm_X11_move.slots) x.handlerPc [some (.ref (tR Θ 0 14)), some (.int a0), some (.int a1), none] [.ref q9] G9 := by
    intro E9 G9 z9
    rcases hx E9 G9 z9 with rfl | rfl
    · refine ⟨0, _, _, rfl, (fun z hz => absurd hz (by simp)), by decide, by decide, cl_RL_24, by decide, fun q9 => ?_⟩
      show V p l e rm_L_moveOf s m args below meth c 4 Θ (wP gI [eX, eS] Qc) rm_L_moveOf.cells rm_L_moveOf.slots (0 + rm_X11_move.cells) (0 + rm_X11_move.slots) 7 [some (.ref (tR Θ 0 14)), some (.int a0), some (.int a1), none] [.ref q9] G9
      refine v_astore_n (i := 3) (q := 8) hC dL_moveOf_7 rfl rfl (lvc rfl) (Nat.le_of_ble_eq_true rfl) (Nat.le_of_ble_eq_true rfl) rfl ?_
      refine v_bipush (q := 10) (v := (-101)) hC dL_moveOf_8 rfl (by decide) ?_
      refine v_iret hC dL_moveOf_10 hr (rfl) ?_ (Nat.le_of_ble_eq_true rfl) (Nat.le_of_ble_eq_true rfl)
      exact Or.inr ⟨_, _, z9, by first | rfl | decide, rfl⟩
    · refine ⟨1, _, _, rfl, (List.forall_mem_cons.mpr ⟨Or.inr ⟨by decide, _, cl_RL_24, by decide⟩, List.forall_mem_nil _⟩), by decide, by decide, cl_RL_15, by decide, fun q9 => ?_⟩
      show V p l e rm_L_moveOf s m args below meth c 4 Θ (wP gI [eX, eS] Qc) rm_L_moveOf.cells rm_L_moveOf.slots (0 + rm_X11_move.cells) (0 + rm_X11_move.slots) 11 [some (.ref (tR Θ 0 14)), some (.int a0), some (.int a1), none] [.ref q9] G9
      refine v_astore_n (i := 3) (q := 12) hC dL_moveOf_11 rfl rfl (lvc rfl) (Nat.le_of_ble_eq_true rfl) (Nat.le_of_ble_eq_true rfl) rfl ?_
      refine v_bipush (q := 14) (v := (-102)) hC dL_moveOf_12 rfl (by decide) ?_
      refine v_iret hC dL_moveOf_14 hr (rfl) ?_ (Nat.le_of_ble_eq_true rfl) (Nat.le_of_ble_eq_true rfl)
      exact Or.inr ⟨_, _, z9, by first | rfl | decide, rfl⟩
  refine v_aload_n (i := 0) (q := 1) hC dL_moveOf_0 rfl rfl rfl ?_
  refine v_iload_n (i := 1) (q := 2) hC dL_moveOf_1 rfl rfl rfl ?_
  refine v_iload_n (i := 2) (q := 3) hC dL_moveOf_2 rfl rfl rfl ?_
  refine v_callTry (q := 6) (rm := rm_X11_move) hC hT hM k_X11_move im_yX11_move se_yX11_move ml_RL_42 dL_moveOf_3 rfl rfl rfl rfl rfl rfl (Nat.le_of_ble_eq_true rfl) ⟨Nat.le_of_ble_eq_true rfl, Nat.le_of_ble_eq_true rfl⟩ ⟨Nat.le_of_ble_eq_true rfl, Nat.le_of_ble_eq_true rfl⟩ (fun v9 G9 z9 => ?_) HX
  obtain ⟨x9, rfl⟩ := hv _ _ z9
  dsimp only [Option.toList, List.cons_append, List.nil_append]
  refine v_iret hC dL_moveOf_6 hr (rfl) ?_ (Nat.le_of_ble_eq_true rfl) (Nat.le_of_ble_eq_true rfl)
  exact Or.inl ⟨x9, _, z9, rfl, rfl⟩
theorem kh_L_moveOf : kH yL_moveOf cL_moveOf 4 (some .int) [(0, 6, 7, 24), (0, 6, 11, 15)] 3 := ⟨cw_yL_moveOf, ⟨by decide, by decide⟩, by decide +kernel, in_RL, st_yL_moveOf⟩
abbrev rm_L_giveToOf : Room := { frames := 8, locals := 135, cells := 2, slots := 12 }
set_option maxHeartbeats 4000000 in
set_option maxRecDepth 20000 in
theorem w_L_giveToOf {l : Launch} (hl : l.stackTraces = false) (Θ : cTH) {Qc : cOut → GS → Prop} (a0 a1 : Int32) (G : GS) (hM : Ct l yX11_giveTo cX11_giveTo 4 (some .int) rm_X11_giveTo Θ [.ref (tR Θ 0 14), .int a0, .int a1] G Qc) (hv : ∀ r G1, Qc (.inl r) G1 → ∃ x : Int32, r = some (.int x)) (hx : ∀ E G1, Qc (.inr E) G1 → E = eX) : CtH l yL_giveToOf cL_giveToOf 4 (some .int) [(0, 6, 7, 24)] rm_L_giveToOf Θ [.ref (tR Θ 0 14), .int a0, .int a1] G (wP gI [eX] Qc) := by
  refine cth_of (LS := [some (.ref (tR Θ 0 14)), some (.int a0), some (.int a1), none]) hl (by decide +kernel) rfl rfl (Nat.le_of_ble_eq_true rfl) rfl ?_
  intro p e s m args below meth c hC hr hT
  have HX : ∀ E9 G9, Qc (.inr E9) G9 → ∃ (i : Nat) (x : ExceptionTableEntry) (nm : String), (tableOf [(0, 6, 7, 24)])[i]? = some x ∧ (∀ z ∈ (tableOf [(0, 6, 7, 24)]).take i, covers z 3 = false ∨ (z.catchType ≠ 0 ∧ ∃ nm : String, Cond.classLink RL z.catchType nm ∈ wALL ∧ (E9, nm) ∈ ncW)) ∧ covers x 3 = true ∧ x.catchType ≠ 0 ∧ Cond.classLink RL x.catchType nm ∈ wALL ∧ Cond.castable E9 nm ∈ excW ∧ ∀ q9 : Nat, V p l e rm_L_giveToOf s m args below meth c 4 Θ (wP gI [eX] Qc) rm_L_giveToOf.cells rm_L_giveToOf.slots (0 + rm_X11_giveTo.cells) (0 + rm_X11_giveTo.slots) x.handlerPc [some (.ref (tR Θ 0 14)), some (.int a0), some (.int a1), none] [.ref q9] G9 := by
    intro E9 G9 z9
    rcases hx E9 G9 z9 with rfl
    · refine ⟨0, _, _, rfl, (fun z hz => absurd hz (by simp)), by decide, by decide, cl_RL_24, by decide, fun q9 => ?_⟩
      show V p l e rm_L_giveToOf s m args below meth c 4 Θ (wP gI [eX] Qc) rm_L_giveToOf.cells rm_L_giveToOf.slots (0 + rm_X11_giveTo.cells) (0 + rm_X11_giveTo.slots) 7 [some (.ref (tR Θ 0 14)), some (.int a0), some (.int a1), none] [.ref q9] G9
      refine v_astore_n (i := 3) (q := 8) hC dL_giveToOf_7 rfl rfl (lvc rfl) (Nat.le_of_ble_eq_true rfl) (Nat.le_of_ble_eq_true rfl) rfl ?_
      refine v_bipush (q := 10) (v := (-101)) hC dL_giveToOf_8 rfl (by decide) ?_
      refine v_iret hC dL_giveToOf_10 hr (rfl) ?_ (Nat.le_of_ble_eq_true rfl) (Nat.le_of_ble_eq_true rfl)
      exact Or.inr ⟨_, _, z9, by first | rfl | decide, rfl⟩
  refine v_aload_n (i := 0) (q := 1) hC dL_giveToOf_0 rfl rfl rfl ?_
  refine v_iload_n (i := 1) (q := 2) hC dL_giveToOf_1 rfl rfl rfl ?_
  refine v_iload_n (i := 2) (q := 3) hC dL_giveToOf_2 rfl rfl rfl ?_
  refine v_callTry (q := 6) (rm := rm_X11_giveTo) hC hT hM k_X11_giveTo im_yX11_giveTo se_yX11_giveTo ml_RL_45 dL_giveToOf_3 rfl rfl rfl rfl rfl rfl (Nat.le_of_ble_eq_true rfl) ⟨Nat.le_of_ble_eq_true rfl, Nat.le_of_ble_eq_true rfl⟩ ⟨Nat.le_of_ble_eq_true rfl, Nat.le_of_ble_eq_true rfl⟩ (fun v9 G9 z9 => ?_) HX
  obtain ⟨x9, rfl⟩ := hv _ _ z9
  dsimp only [Option.toList, List.cons_append, List.nil_append]
  refine v_iret hC dL_giveToOf_6 hr (rfl) ?_ (Nat.le_of_ble_eq_true rfl) (Nat.le_of_ble_eq_true rfl)
  exact Or.inl ⟨x9, _, z9, rfl, rfl⟩
theorem kh_L_giveToOf : kH yL_giveToOf cL_giveToOf 4 (some .int) [(0, 6, 7, 24)] 3 := ⟨cw_yL_giveToOf, ⟨by decide, by decide⟩, by decide +kernel, in_RL, st_yL_giveToOf⟩
abbrev rm_L_setMaskOf : Room := { frames := 8, locals := 135, cells := 2, slots := 12 }
set_option maxHeartbeats 4000000 in
set_option maxRecDepth 20000 in
theorem w_L_setMaskOf {l : Launch} (hl : l.stackTraces = false) (Θ : cTH) {Qc : cOut → GS → Prop} (a0 a1 : Int32) (G : GS) (hM : Ct l yX11_setMask cX11_setMask 4 (some .int) rm_X11_setMask Θ [.ref (tR Θ 0 14), .int a0, .int a1] G Qc) (hv : ∀ r G1, Qc (.inl r) G1 → ∃ x : Int32, r = some (.int x)) (hx : ∀ E G1, Qc (.inr E) G1 → E = eX ∨ E = eA) : CtH l yL_setMaskOf cL_setMaskOf 4 (some .int) [(0, 6, 7, 24), (0, 6, 11, 51)] rm_L_setMaskOf Θ [.ref (tR Θ 0 14), .int a0, .int a1] G (wP gI [eX, eA] Qc) := by
  refine cth_of (LS := [some (.ref (tR Θ 0 14)), some (.int a0), some (.int a1), none]) hl (by decide +kernel) rfl rfl (Nat.le_of_ble_eq_true rfl) rfl ?_
  intro p e s m args below meth c hC hr hT
  have HX : ∀ E9 G9, Qc (.inr E9) G9 → ∃ (i : Nat) (x : ExceptionTableEntry) (nm : String), (tableOf [(0, 6, 7, 24), (0, 6, 11, 51)])[i]? = some x ∧ (∀ z ∈ (tableOf [(0, 6, 7, 24), (0, 6, 11, 51)]).take i, covers z 3 = false ∨ (z.catchType ≠ 0 ∧ ∃ nm : String, Cond.classLink RL z.catchType nm ∈ wALL ∧ (E9, nm) ∈ ncW)) ∧ covers x 3 = true ∧ x.catchType ≠ 0 ∧ Cond.classLink RL x.catchType nm ∈ wALL ∧ Cond.castable E9 nm ∈ excW ∧ ∀ q9 : Nat, V p l e rm_L_setMaskOf s m args below meth c 4 Θ (wP gI [eX, eA] Qc) rm_L_setMaskOf.cells rm_L_setMaskOf.slots (0 + rm_X11_setMask.cells) (0 + rm_X11_setMask.slots) x.handlerPc [some (.ref (tR Θ 0 14)), some (.int a0), some (.int a1), none] [.ref q9] G9 := by
    intro E9 G9 z9
    rcases hx E9 G9 z9 with rfl | rfl
    · refine ⟨0, _, _, rfl, (fun z hz => absurd hz (by simp)), by decide, by decide, cl_RL_24, by decide, fun q9 => ?_⟩
      show V p l e rm_L_setMaskOf s m args below meth c 4 Θ (wP gI [eX, eA] Qc) rm_L_setMaskOf.cells rm_L_setMaskOf.slots (0 + rm_X11_setMask.cells) (0 + rm_X11_setMask.slots) 7 [some (.ref (tR Θ 0 14)), some (.int a0), some (.int a1), none] [.ref q9] G9
      refine v_astore_n (i := 3) (q := 8) hC dL_setMaskOf_7 rfl rfl (lvc rfl) (Nat.le_of_ble_eq_true rfl) (Nat.le_of_ble_eq_true rfl) rfl ?_
      refine v_bipush (q := 10) (v := (-101)) hC dL_setMaskOf_8 rfl (by decide) ?_
      refine v_iret hC dL_setMaskOf_10 hr (rfl) ?_ (Nat.le_of_ble_eq_true rfl) (Nat.le_of_ble_eq_true rfl)
      exact Or.inr ⟨_, _, z9, by first | rfl | decide, rfl⟩
    · refine ⟨1, _, _, rfl, (List.forall_mem_cons.mpr ⟨Or.inr ⟨by decide, _, cl_RL_24, by decide⟩, List.forall_mem_nil _⟩), by decide, by decide, cl_RL_51, by decide, fun q9 => ?_⟩
      show V p l e rm_L_setMaskOf s m args below meth c 4 Θ (wP gI [eX, eA] Qc) rm_L_setMaskOf.cells rm_L_setMaskOf.slots (0 + rm_X11_setMask.cells) (0 + rm_X11_setMask.slots) 11 [some (.ref (tR Θ 0 14)), some (.int a0), some (.int a1), none] [.ref q9] G9
      refine v_astore_n (i := 3) (q := 12) hC dL_setMaskOf_11 rfl rfl (lvc rfl) (Nat.le_of_ble_eq_true rfl) (Nat.le_of_ble_eq_true rfl) rfl ?_
      refine v_bipush (q := 14) (v := (-102)) hC dL_setMaskOf_12 rfl (by decide) ?_
      refine v_iret hC dL_setMaskOf_14 hr (rfl) ?_ (Nat.le_of_ble_eq_true rfl) (Nat.le_of_ble_eq_true rfl)
      exact Or.inr ⟨_, _, z9, by first | rfl | decide, rfl⟩
  refine v_aload_n (i := 0) (q := 1) hC dL_setMaskOf_0 rfl rfl rfl ?_
  refine v_iload_n (i := 1) (q := 2) hC dL_setMaskOf_1 rfl rfl rfl ?_
  refine v_iload_n (i := 2) (q := 3) hC dL_setMaskOf_2 rfl rfl rfl ?_
  refine v_callTry (q := 6) (rm := rm_X11_setMask) hC hT hM k_X11_setMask im_yX11_setMask se_yX11_setMask ml_RL_48 dL_setMaskOf_3 rfl rfl rfl rfl rfl rfl (Nat.le_of_ble_eq_true rfl) ⟨Nat.le_of_ble_eq_true rfl, Nat.le_of_ble_eq_true rfl⟩ ⟨Nat.le_of_ble_eq_true rfl, Nat.le_of_ble_eq_true rfl⟩ (fun v9 G9 z9 => ?_) HX
  obtain ⟨x9, rfl⟩ := hv _ _ z9
  dsimp only [Option.toList, List.cons_append, List.nil_append]
  refine v_iret hC dL_setMaskOf_6 hr (rfl) ?_ (Nat.le_of_ble_eq_true rfl) (Nat.le_of_ble_eq_true rfl)
  exact Or.inl ⟨x9, _, z9, rfl, rfl⟩
theorem kh_L_setMaskOf : kH yL_setMaskOf cL_setMaskOf 4 (some .int) [(0, 6, 7, 24), (0, 6, 11, 51)] 3 := ⟨cw_yL_setMaskOf, ⟨by decide, by decide⟩, by decide +kernel, in_RL, st_yL_setMaskOf⟩
abbrev rm_L_setInheritingOf : Room := { frames := 8, locals := 135, cells := 1, slots := 6 }
set_option maxHeartbeats 4000000 in
set_option maxRecDepth 20000 in
theorem w_L_setInheritingOf {l : Launch} (hl : l.stackTraces = false) (Θ : cTH) {Qc : cOut → GS → Prop} (a0 a1 : Int32) (G : GS) (hM : Ct l yX11_setInheriting cX11_setInheriting 4 (some .boolean) rm_X11_setInheriting Θ [.ref (tR Θ 0 14), .int a0, .int a1] G Qc) (hv : ∀ r G1, Qc (.inl r) G1 → ∃ x : Int32, r = some (.int x)) (hx : ∀ E G1, Qc (.inr E) G1 → E = eX) : CtH l yL_setInheritingOf cL_setInheritingOf 4 (some .int) [(0, 14, 15, 24)] rm_L_setInheritingOf Θ [.ref (tR Θ 0 14), .int a0, .int a1] G (wP gZ [eX] Qc) := by
  refine cth_of (LS := [some (.ref (tR Θ 0 14)), some (.int a0), some (.int a1), none]) hl (by decide +kernel) rfl rfl (Nat.le_of_ble_eq_true rfl) rfl ?_
  intro p e s m args below meth c hC hr hT
  have HX : ∀ E9 G9, Qc (.inr E9) G9 → ∃ (i : Nat) (x : ExceptionTableEntry) (nm : String), (tableOf [(0, 14, 15, 24)])[i]? = some x ∧ (∀ z ∈ (tableOf [(0, 14, 15, 24)]).take i, covers z 3 = false ∨ (z.catchType ≠ 0 ∧ ∃ nm : String, Cond.classLink RL z.catchType nm ∈ wALL ∧ (E9, nm) ∈ ncW)) ∧ covers x 3 = true ∧ x.catchType ≠ 0 ∧ Cond.classLink RL x.catchType nm ∈ wALL ∧ Cond.castable E9 nm ∈ excW ∧ ∀ q9 : Nat, V p l e rm_L_setInheritingOf s m args below meth c 4 Θ (wP gZ [eX] Qc) rm_L_setInheritingOf.cells rm_L_setInheritingOf.slots (0 + rm_X11_setInheriting.cells) (0 + rm_X11_setInheriting.slots) x.handlerPc [some (.ref (tR Θ 0 14)), some (.int a0), some (.int a1), none] [.ref q9] G9 := by
    intro E9 G9 z9
    rcases hx E9 G9 z9 with rfl
    · refine ⟨0, _, _, rfl, (fun z hz => absurd hz (by simp)), by decide, by decide, cl_RL_24, by decide, fun q9 => ?_⟩
      show V p l e rm_L_setInheritingOf s m args below meth c 4 Θ (wP gZ [eX] Qc) rm_L_setInheritingOf.cells rm_L_setInheritingOf.slots (0 + rm_X11_setInheriting.cells) (0 + rm_X11_setInheriting.slots) 15 [some (.ref (tR Θ 0 14)), some (.int a0), some (.int a1), none] [.ref q9] G9
      refine v_astore_n (i := 3) (q := 16) hC dL_setInheritingOf_15 rfl rfl (lvc rfl) (Nat.le_of_ble_eq_true rfl) (Nat.le_of_ble_eq_true rfl) rfl ?_
      refine v_bipush (q := 18) (v := (-101)) hC dL_setInheritingOf_16 rfl (by decide) ?_
      refine v_iret hC dL_setInheritingOf_18 hr (rfl) ?_ (Nat.le_of_ble_eq_true rfl) (Nat.le_of_ble_eq_true rfl)
      exact Or.inr ⟨_, _, z9, by first | rfl | decide, rfl⟩
  refine v_aload_n (i := 0) (q := 1) hC dL_setInheritingOf_0 rfl rfl rfl ?_
  refine v_iload_n (i := 1) (q := 2) hC dL_setInheritingOf_1 rfl rfl rfl ?_
  refine v_iload_n (i := 2) (q := 3) hC dL_setInheritingOf_2 rfl rfl rfl ?_
  refine v_callTry (q := 6) (rm := rm_X11_setInheriting) hC hT hM k_X11_setInheriting im_yX11_setInheriting se_yX11_setInheriting ml_RL_53 dL_setInheritingOf_3 rfl rfl rfl rfl rfl rfl (Nat.le_of_ble_eq_true rfl) ⟨Nat.le_of_ble_eq_true rfl, Nat.le_of_ble_eq_true rfl⟩ ⟨Nat.le_of_ble_eq_true rfl, Nat.le_of_ble_eq_true rfl⟩ (fun v9 G9 z9 => ?_) HX
  obtain ⟨x9, rfl⟩ := hv _ _ z9
  dsimp only [Option.toList, List.cons_append, List.nil_append]
  refine v_if_eq (q := 13) (q2 := 9) hC dL_setInheritingOf_6 (by decide) rfl (fun c_6 => ?_) (fun c_6 => ?_)
  · refine v_iconst (q := 14) (v := 0) hC dL_setInheritingOf_13 rfl (by decide) ?_
    refine v_iret hC dL_setInheritingOf_14 hr (rfl) ?_ (Nat.le_of_ble_eq_true rfl) (Nat.le_of_ble_eq_true rfl)
    refine Or.inl ⟨x9, _, z9, ?_, rfl⟩
    first | (rw [gZ, if_pos c_6]) | (rw [gZ, if_neg c_6])
  · refine v_iconst (q := 10) (v := 1) hC dL_setInheritingOf_9 rfl (by decide) ?_
    refine v_goto (q := 14) hC dL_setInheritingOf_10 (by decide) ?_
    refine v_iret hC dL_setInheritingOf_14 hr (rfl) ?_ (Nat.le_of_ble_eq_true rfl) (Nat.le_of_ble_eq_true rfl)
    refine Or.inl ⟨x9, _, z9, ?_, rfl⟩
    first | (rw [gZ, if_pos c_6]) | (rw [gZ, if_neg c_6])
theorem kh_L_setInheritingOf : kH yL_setInheritingOf cL_setInheritingOf 4 (some .int) [(0, 14, 15, 24)] 3 := ⟨cw_yL_setInheritingOf, ⟨by decide, by decide⟩, by decide +kernel, in_RL, st_yL_setInheritingOf⟩
abbrev rm_L_addForUserOf : Room := { frames := 9, locals := 164, cells := 4, slots := 24 }
set_option maxHeartbeats 4000000 in
set_option maxRecDepth 20000 in
theorem w_L_addForUserOf {l : Launch} (hl : l.stackTraces = false) (Θ : cTH) {Qc : cOut → GS → Prop} (a0 a1 a2 a3 a4 : Int32) (G : GS) (hM : Ct l yX11_addForUser cX11_addForUser 6 (some .int) rm_X11_addForUser Θ [.ref (tR Θ 0 14), .int a0, .int a1, .int a2, .int a3, .int a4] G Qc) (hv : ∀ r G1, Qc (.inl r) G1 → ∃ x : Int32, r = some (.int x)) (hx : ∀ E G1, Qc (.inr E) G1 → E = eX ∨ E = eA ∨ E = eS) : CtH l yL_addForUserOf cL_addForUserOf 7 (some .int) [(0, 11, 12, 24), (0, 11, 17, 51), (0, 11, 22, 15)] rm_L_addForUserOf Θ [.ref (tR Θ 0 14), .int a0, .int a1, .int a2, .int a3, .int a4] G (wP gI [eX, eA, eS] Qc) := by
  refine cth_of (LS := [some (.ref (tR Θ 0 14)), some (.int a0), some (.int a1), some (.int a2), some (.int a3), some (.int a4), none]) hl (by decide +kernel) rfl rfl (Nat.le_of_ble_eq_true rfl) rfl ?_
  intro p e s m args below meth c hC hr hT
  have HX : ∀ E9 G9, Qc (.inr E9) G9 → ∃ (i : Nat) (x : ExceptionTableEntry) (nm : String), (tableOf [(0, 11, 12, 24), (0, 11, 17, 51), (0, 11, 22, 15)])[i]? = some x ∧ (∀ z ∈ (tableOf [(0, 11, 12, 24), (0, 11, 17, 51), (0, 11, 22, 15)]).take i, covers z 8 = false ∨ (z.catchType ≠ 0 ∧ ∃ nm : String, Cond.classLink RL z.catchType nm ∈ wALL ∧ (E9, nm) ∈ ncW)) ∧ covers x 8 = true ∧ x.catchType ≠ 0 ∧ Cond.classLink RL x.catchType nm ∈ wALL ∧ Cond.castable E9 nm ∈ excW ∧ ∀ q9 : Nat, V p l e rm_L_addForUserOf s m args below meth c 7 Θ (wP gI [eX, eA, eS] Qc) rm_L_addForUserOf.cells rm_L_addForUserOf.slots (0 + rm_X11_addForUser.cells) (0 + rm_X11_addForUser.slots) x.handlerPc [some (.ref (tR Θ 0 14)), some (.int a0), some (.int a1), some (.int a2), some (.int a3), some (.int a4), none] [.ref q9] G9 := by
    intro E9 G9 z9
    rcases hx E9 G9 z9 with rfl | rfl | rfl
    · refine ⟨0, _, _, rfl, (fun z hz => absurd hz (by simp)), by decide, by decide, cl_RL_24, by decide, fun q9 => ?_⟩
      show V p l e rm_L_addForUserOf s m args below meth c 7 Θ (wP gI [eX, eA, eS] Qc) rm_L_addForUserOf.cells rm_L_addForUserOf.slots (0 + rm_X11_addForUser.cells) (0 + rm_X11_addForUser.slots) 12 [some (.ref (tR Θ 0 14)), some (.int a0), some (.int a1), some (.int a2), some (.int a3), some (.int a4), none] [.ref q9] G9
      refine v_astore (q := 14) hC dL_addForUserOf_12 rfl (lvc rfl) (Nat.le_of_ble_eq_true rfl) (Nat.le_of_ble_eq_true rfl) rfl ?_
      refine v_bipush (q := 16) (v := (-101)) hC dL_addForUserOf_14 rfl (by decide) ?_
      refine v_iret hC dL_addForUserOf_16 hr (rfl) ?_ (Nat.le_of_ble_eq_true rfl) (Nat.le_of_ble_eq_true rfl)
      exact Or.inr ⟨_, _, z9, by first | rfl | decide, rfl⟩
    · refine ⟨1, _, _, rfl, (List.forall_mem_cons.mpr ⟨Or.inr ⟨by decide, _, cl_RL_24, by decide⟩, List.forall_mem_nil _⟩), by decide, by decide, cl_RL_51, by decide, fun q9 => ?_⟩
      show V p l e rm_L_addForUserOf s m args below meth c 7 Θ (wP gI [eX, eA, eS] Qc) rm_L_addForUserOf.cells rm_L_addForUserOf.slots (0 + rm_X11_addForUser.cells) (0 + rm_X11_addForUser.slots) 17 [some (.ref (tR Θ 0 14)), some (.int a0), some (.int a1), some (.int a2), some (.int a3), some (.int a4), none] [.ref q9] G9
      refine v_astore (q := 19) hC dL_addForUserOf_17 rfl (lvc rfl) (Nat.le_of_ble_eq_true rfl) (Nat.le_of_ble_eq_true rfl) rfl ?_
      refine v_bipush (q := 21) (v := (-102)) hC dL_addForUserOf_19 rfl (by decide) ?_
      refine v_iret hC dL_addForUserOf_21 hr (rfl) ?_ (Nat.le_of_ble_eq_true rfl) (Nat.le_of_ble_eq_true rfl)
      exact Or.inr ⟨_, _, z9, by first | rfl | decide, rfl⟩
    · refine ⟨2, _, _, rfl, (List.forall_mem_cons.mpr ⟨Or.inr ⟨by decide, _, cl_RL_24, by decide⟩, List.forall_mem_cons.mpr ⟨Or.inr ⟨by decide, _, cl_RL_51, by decide⟩, List.forall_mem_nil _⟩⟩), by decide, by decide, cl_RL_15, by decide, fun q9 => ?_⟩
      show V p l e rm_L_addForUserOf s m args below meth c 7 Θ (wP gI [eX, eA, eS] Qc) rm_L_addForUserOf.cells rm_L_addForUserOf.slots (0 + rm_X11_addForUser.cells) (0 + rm_X11_addForUser.slots) 22 [some (.ref (tR Θ 0 14)), some (.int a0), some (.int a1), some (.int a2), some (.int a3), some (.int a4), none] [.ref q9] G9
      refine v_astore (q := 24) hC dL_addForUserOf_22 rfl (lvc rfl) (Nat.le_of_ble_eq_true rfl) (Nat.le_of_ble_eq_true rfl) rfl ?_
      refine v_bipush (q := 26) (v := (-103)) hC dL_addForUserOf_24 rfl (by decide) ?_
      refine v_iret hC dL_addForUserOf_26 hr (rfl) ?_ (Nat.le_of_ble_eq_true rfl) (Nat.le_of_ble_eq_true rfl)
      exact Or.inr ⟨_, _, z9, by first | rfl | decide, rfl⟩
  refine v_aload_n (i := 0) (q := 1) hC dL_addForUserOf_0 rfl rfl rfl ?_
  refine v_iload_n (i := 1) (q := 2) hC dL_addForUserOf_1 rfl rfl rfl ?_
  refine v_iload_n (i := 2) (q := 3) hC dL_addForUserOf_2 rfl rfl rfl ?_
  refine v_iload_n (i := 3) (q := 4) hC dL_addForUserOf_3 rfl rfl rfl ?_
  refine v_iload (q := 6) hC dL_addForUserOf_4 rfl rfl ?_
  refine v_iload (q := 8) hC dL_addForUserOf_6 rfl rfl ?_
  refine v_callTry (q := 11) (rm := rm_X11_addForUser) hC hT hM k_X11_addForUser im_yX11_addForUser se_yX11_addForUser ml_RL_57 dL_addForUserOf_8 rfl rfl rfl rfl rfl rfl (Nat.le_of_ble_eq_true rfl) ⟨Nat.le_of_ble_eq_true rfl, Nat.le_of_ble_eq_true rfl⟩ ⟨Nat.le_of_ble_eq_true rfl, Nat.le_of_ble_eq_true rfl⟩ (fun v9 G9 z9 => ?_) HX
  obtain ⟨x9, rfl⟩ := hv _ _ z9
  dsimp only [Option.toList, List.cons_append, List.nil_append]
  refine v_iret hC dL_addForUserOf_11 hr (rfl) ?_ (Nat.le_of_ble_eq_true rfl) (Nat.le_of_ble_eq_true rfl)
  exact Or.inl ⟨x9, _, z9, rfl, rfl⟩
theorem kh_L_addForUserOf : kH yL_addForUserOf cL_addForUserOf 7 (some .int) [(0, 11, 12, 24), (0, 11, 17, 51), (0, 11, 22, 15)] 6 := ⟨cw_yL_addForUserOf, ⟨by decide, by decide⟩, by decide +kernel, in_RL, st_yL_addForUserOf⟩
abbrev rm_L_addForGroupOf : Room := { frames := 9, locals := 164, cells := 4, slots := 24 }
set_option maxHeartbeats 4000000 in
set_option maxRecDepth 20000 in
theorem w_L_addForGroupOf {l : Launch} (hl : l.stackTraces = false) (Θ : cTH) {Qc : cOut → GS → Prop} (a0 a1 a2 a3 a4 : Int32) (G : GS) (hM : Ct l yX11_addForGroup cX11_addForGroup 6 (some .int) rm_X11_addForGroup Θ [.ref (tR Θ 0 14), .int a0, .int a1, .int a2, .int a3, .int a4] G Qc) (hv : ∀ r G1, Qc (.inl r) G1 → ∃ x : Int32, r = some (.int x)) (hx : ∀ E G1, Qc (.inr E) G1 → E = eX ∨ E = eA ∨ E = eS) : CtH l yL_addForGroupOf cL_addForGroupOf 7 (some .int) [(0, 11, 12, 24), (0, 11, 17, 51), (0, 11, 22, 15)] rm_L_addForGroupOf Θ [.ref (tR Θ 0 14), .int a0, .int a1, .int a2, .int a3, .int a4] G (wP gI [eX, eA, eS] Qc) := by
  refine cth_of (LS := [some (.ref (tR Θ 0 14)), some (.int a0), some (.int a1), some (.int a2), some (.int a3), some (.int a4), none]) hl (by decide +kernel) rfl rfl (Nat.le_of_ble_eq_true rfl) rfl ?_
  intro p e s m args below meth c hC hr hT
  have HX : ∀ E9 G9, Qc (.inr E9) G9 → ∃ (i : Nat) (x : ExceptionTableEntry) (nm : String), (tableOf [(0, 11, 12, 24), (0, 11, 17, 51), (0, 11, 22, 15)])[i]? = some x ∧ (∀ z ∈ (tableOf [(0, 11, 12, 24), (0, 11, 17, 51), (0, 11, 22, 15)]).take i, covers z 8 = false ∨ (z.catchType ≠ 0 ∧ ∃ nm : String, Cond.classLink RL z.catchType nm ∈ wALL ∧ (E9, nm) ∈ ncW)) ∧ covers x 8 = true ∧ x.catchType ≠ 0 ∧ Cond.classLink RL x.catchType nm ∈ wALL ∧ Cond.castable E9 nm ∈ excW ∧ ∀ q9 : Nat, V p l e rm_L_addForGroupOf s m args below meth c 7 Θ (wP gI [eX, eA, eS] Qc) rm_L_addForGroupOf.cells rm_L_addForGroupOf.slots (0 + rm_X11_addForGroup.cells) (0 + rm_X11_addForGroup.slots) x.handlerPc [some (.ref (tR Θ 0 14)), some (.int a0), some (.int a1), some (.int a2), some (.int a3), some (.int a4), none] [.ref q9] G9 := by
    intro E9 G9 z9
    rcases hx E9 G9 z9 with rfl | rfl | rfl
    · refine ⟨0, _, _, rfl, (fun z hz => absurd hz (by simp)), by decide, by decide, cl_RL_24, by decide, fun q9 => ?_⟩
      show V p l e rm_L_addForGroupOf s m args below meth c 7 Θ (wP gI [eX, eA, eS] Qc) rm_L_addForGroupOf.cells rm_L_addForGroupOf.slots (0 + rm_X11_addForGroup.cells) (0 + rm_X11_addForGroup.slots) 12 [some (.ref (tR Θ 0 14)), some (.int a0), some (.int a1), some (.int a2), some (.int a3), some (.int a4), none] [.ref q9] G9
      refine v_astore (q := 14) hC dL_addForGroupOf_12 rfl (lvc rfl) (Nat.le_of_ble_eq_true rfl) (Nat.le_of_ble_eq_true rfl) rfl ?_
      refine v_bipush (q := 16) (v := (-101)) hC dL_addForGroupOf_14 rfl (by decide) ?_
      refine v_iret hC dL_addForGroupOf_16 hr (rfl) ?_ (Nat.le_of_ble_eq_true rfl) (Nat.le_of_ble_eq_true rfl)
      exact Or.inr ⟨_, _, z9, by first | rfl | decide, rfl⟩
    · refine ⟨1, _, _, rfl, (List.forall_mem_cons.mpr ⟨Or.inr ⟨by decide, _, cl_RL_24, by decide⟩, List.forall_mem_nil _⟩), by decide, by decide, cl_RL_51, by decide, fun q9 => ?_⟩
      show V p l e rm_L_addForGroupOf s m args below meth c 7 Θ (wP gI [eX, eA, eS] Qc) rm_L_addForGroupOf.cells rm_L_addForGroupOf.slots (0 + rm_X11_addForGroup.cells) (0 + rm_X11_addForGroup.slots) 17 [some (.ref (tR Θ 0 14)), some (.int a0), some (.int a1), some (.int a2), some (.int a3), some (.int a4), none] [.ref q9] G9
      refine v_astore (q := 19) hC dL_addForGroupOf_17 rfl (lvc rfl) (Nat.le_of_ble_eq_true rfl) (Nat.le_of_ble_eq_true rfl) rfl ?_
      refine v_bipush (q := 21) (v := (-102)) hC dL_addForGroupOf_19 rfl (by decide) ?_
      refine v_iret hC dL_addForGroupOf_21 hr (rfl) ?_ (Nat.le_of_ble_eq_true rfl) (Nat.le_of_ble_eq_true rfl)
      exact Or.inr ⟨_, _, z9, by first | rfl | decide, rfl⟩
    · refine ⟨2, _, _, rfl, (List.forall_mem_cons.mpr ⟨Or.inr ⟨by decide, _, cl_RL_24, by decide⟩, List.forall_mem_cons.mpr ⟨Or.inr ⟨by decide, _, cl_RL_51, by decide⟩, List.forall_mem_nil _⟩⟩), by decide, by decide, cl_RL_15, by decide, fun q9 => ?_⟩
      show V p l e rm_L_addForGroupOf s m args below meth c 7 Θ (wP gI [eX, eA, eS] Qc) rm_L_addForGroupOf.cells rm_L_addForGroupOf.slots (0 + rm_X11_addForGroup.cells) (0 + rm_X11_addForGroup.slots) 22 [some (.ref (tR Θ 0 14)), some (.int a0), some (.int a1), some (.int a2), some (.int a3), some (.int a4), none] [.ref q9] G9
      refine v_astore (q := 24) hC dL_addForGroupOf_22 rfl (lvc rfl) (Nat.le_of_ble_eq_true rfl) (Nat.le_of_ble_eq_true rfl) rfl ?_
      refine v_bipush (q := 26) (v := (-103)) hC dL_addForGroupOf_24 rfl (by decide) ?_
      refine v_iret hC dL_addForGroupOf_26 hr (rfl) ?_ (Nat.le_of_ble_eq_true rfl) (Nat.le_of_ble_eq_true rfl)
      exact Or.inr ⟨_, _, z9, by first | rfl | decide, rfl⟩
  refine v_aload_n (i := 0) (q := 1) hC dL_addForGroupOf_0 rfl rfl rfl ?_
  refine v_iload_n (i := 1) (q := 2) hC dL_addForGroupOf_1 rfl rfl rfl ?_
  refine v_iload_n (i := 2) (q := 3) hC dL_addForGroupOf_2 rfl rfl rfl ?_
  refine v_iload_n (i := 3) (q := 4) hC dL_addForGroupOf_3 rfl rfl rfl ?_
  refine v_iload (q := 6) hC dL_addForGroupOf_4 rfl rfl ?_
  refine v_iload (q := 8) hC dL_addForGroupOf_6 rfl rfl ?_
  refine v_callTry (q := 11) (rm := rm_X11_addForGroup) hC hT hM k_X11_addForGroup im_yX11_addForGroup se_yX11_addForGroup ml_RL_61 dL_addForGroupOf_8 rfl rfl rfl rfl rfl rfl (Nat.le_of_ble_eq_true rfl) ⟨Nat.le_of_ble_eq_true rfl, Nat.le_of_ble_eq_true rfl⟩ ⟨Nat.le_of_ble_eq_true rfl, Nat.le_of_ble_eq_true rfl⟩ (fun v9 G9 z9 => ?_) HX
  obtain ⟨x9, rfl⟩ := hv _ _ z9
  dsimp only [Option.toList, List.cons_append, List.nil_append]
  refine v_iret hC dL_addForGroupOf_11 hr (rfl) ?_ (Nat.le_of_ble_eq_true rfl) (Nat.le_of_ble_eq_true rfl)
  exact Or.inl ⟨x9, _, z9, rfl, rfl⟩
theorem kh_L_addForGroupOf : kH yL_addForGroupOf cL_addForGroupOf 7 (some .int) [(0, 11, 12, 24), (0, 11, 17, 51), (0, 11, 22, 15)] 6 := ⟨cw_yL_addForGroupOf, ⟨by decide, by decide⟩, by decide +kernel, in_RL, st_yL_addForGroupOf⟩
abbrev rm_L_addForOwnerOf : Room := { frames := 9, locals := 163, cells := 3, slots := 18 }
set_option maxHeartbeats 4000000 in
set_option maxRecDepth 20000 in
theorem w_L_addForOwnerOf {l : Launch} (hl : l.stackTraces = false) (Θ : cTH) {Qc : cOut → GS → Prop} (a0 a1 a2 a3 : Int32) (G : GS) (hM : Ct l yX11_addForOwner cX11_addForOwner 5 (some .int) rm_X11_addForOwner Θ [.ref (tR Θ 0 14), .int a0, .int a1, .int a2, .int a3] G Qc) (hv : ∀ r G1, Qc (.inl r) G1 → ∃ x : Int32, r = some (.int x)) (hx : ∀ E G1, Qc (.inr E) G1 → E = eX ∨ E = eA ∨ E = eS) : CtH l yL_addForOwnerOf cL_addForOwnerOf 6 (some .int) [(0, 9, 10, 24), (0, 9, 15, 51), (0, 9, 20, 15)] rm_L_addForOwnerOf Θ [.ref (tR Θ 0 14), .int a0, .int a1, .int a2, .int a3] G (wP gI [eX, eA, eS] Qc) := by
  refine cth_of (LS := [some (.ref (tR Θ 0 14)), some (.int a0), some (.int a1), some (.int a2), some (.int a3), none]) hl (by decide +kernel) rfl rfl (Nat.le_of_ble_eq_true rfl) rfl ?_
  intro p e s m args below meth c hC hr hT
  have HX : ∀ E9 G9, Qc (.inr E9) G9 → ∃ (i : Nat) (x : ExceptionTableEntry) (nm : String), (tableOf [(0, 9, 10, 24), (0, 9, 15, 51), (0, 9, 20, 15)])[i]? = some x ∧ (∀ z ∈ (tableOf [(0, 9, 10, 24), (0, 9, 15, 51), (0, 9, 20, 15)]).take i, covers z 6 = false ∨ (z.catchType ≠ 0 ∧ ∃ nm : String, Cond.classLink RL z.catchType nm ∈ wALL ∧ (E9, nm) ∈ ncW)) ∧ covers x 6 = true ∧ x.catchType ≠ 0 ∧ Cond.classLink RL x.catchType nm ∈ wALL ∧ Cond.castable E9 nm ∈ excW ∧ ∀ q9 : Nat, V p l e rm_L_addForOwnerOf s m args below meth c 6 Θ (wP gI [eX, eA, eS] Qc) rm_L_addForOwnerOf.cells rm_L_addForOwnerOf.slots (0 + rm_X11_addForOwner.cells) (0 + rm_X11_addForOwner.slots) x.handlerPc [some (.ref (tR Θ 0 14)), some (.int a0), some (.int a1), some (.int a2), some (.int a3), none] [.ref q9] G9 := by
    intro E9 G9 z9
    rcases hx E9 G9 z9 with rfl | rfl | rfl
    · refine ⟨0, _, _, rfl, (fun z hz => absurd hz (by simp)), by decide, by decide, cl_RL_24, by decide, fun q9 => ?_⟩
      show V p l e rm_L_addForOwnerOf s m args below meth c 6 Θ (wP gI [eX, eA, eS] Qc) rm_L_addForOwnerOf.cells rm_L_addForOwnerOf.slots (0 + rm_X11_addForOwner.cells) (0 + rm_X11_addForOwner.slots) 10 [some (.ref (tR Θ 0 14)), some (.int a0), some (.int a1), some (.int a2), some (.int a3), none] [.ref q9] G9
      refine v_astore (q := 12) hC dL_addForOwnerOf_10 rfl (lvc rfl) (Nat.le_of_ble_eq_true rfl) (Nat.le_of_ble_eq_true rfl) rfl ?_
      refine v_bipush (q := 14) (v := (-101)) hC dL_addForOwnerOf_12 rfl (by decide) ?_
      refine v_iret hC dL_addForOwnerOf_14 hr (rfl) ?_ (Nat.le_of_ble_eq_true rfl) (Nat.le_of_ble_eq_true rfl)
      exact Or.inr ⟨_, _, z9, by first | rfl | decide, rfl⟩
    · refine ⟨1, _, _, rfl, (List.forall_mem_cons.mpr ⟨Or.inr ⟨by decide, _, cl_RL_24, by decide⟩, List.forall_mem_nil _⟩), by decide, by decide, cl_RL_51, by decide, fun q9 => ?_⟩
      show V p l e rm_L_addForOwnerOf s m args below meth c 6 Θ (wP gI [eX, eA, eS] Qc) rm_L_addForOwnerOf.cells rm_L_addForOwnerOf.slots (0 + rm_X11_addForOwner.cells) (0 + rm_X11_addForOwner.slots) 15 [some (.ref (tR Θ 0 14)), some (.int a0), some (.int a1), some (.int a2), some (.int a3), none] [.ref q9] G9
      refine v_astore (q := 17) hC dL_addForOwnerOf_15 rfl (lvc rfl) (Nat.le_of_ble_eq_true rfl) (Nat.le_of_ble_eq_true rfl) rfl ?_
      refine v_bipush (q := 19) (v := (-102)) hC dL_addForOwnerOf_17 rfl (by decide) ?_
      refine v_iret hC dL_addForOwnerOf_19 hr (rfl) ?_ (Nat.le_of_ble_eq_true rfl) (Nat.le_of_ble_eq_true rfl)
      exact Or.inr ⟨_, _, z9, by first | rfl | decide, rfl⟩
    · refine ⟨2, _, _, rfl, (List.forall_mem_cons.mpr ⟨Or.inr ⟨by decide, _, cl_RL_24, by decide⟩, List.forall_mem_cons.mpr ⟨Or.inr ⟨by decide, _, cl_RL_51, by decide⟩, List.forall_mem_nil _⟩⟩), by decide, by decide, cl_RL_15, by decide, fun q9 => ?_⟩
      show V p l e rm_L_addForOwnerOf s m args below meth c 6 Θ (wP gI [eX, eA, eS] Qc) rm_L_addForOwnerOf.cells rm_L_addForOwnerOf.slots (0 + rm_X11_addForOwner.cells) (0 + rm_X11_addForOwner.slots) 20 [some (.ref (tR Θ 0 14)), some (.int a0), some (.int a1), some (.int a2), some (.int a3), none] [.ref q9] G9
      refine v_astore (q := 22) hC dL_addForOwnerOf_20 rfl (lvc rfl) (Nat.le_of_ble_eq_true rfl) (Nat.le_of_ble_eq_true rfl) rfl ?_
      refine v_bipush (q := 24) (v := (-103)) hC dL_addForOwnerOf_22 rfl (by decide) ?_
      refine v_iret hC dL_addForOwnerOf_24 hr (rfl) ?_ (Nat.le_of_ble_eq_true rfl) (Nat.le_of_ble_eq_true rfl)
      exact Or.inr ⟨_, _, z9, by first | rfl | decide, rfl⟩
  refine v_aload_n (i := 0) (q := 1) hC dL_addForOwnerOf_0 rfl rfl rfl ?_
  refine v_iload_n (i := 1) (q := 2) hC dL_addForOwnerOf_1 rfl rfl rfl ?_
  refine v_iload_n (i := 2) (q := 3) hC dL_addForOwnerOf_2 rfl rfl rfl ?_
  refine v_iload_n (i := 3) (q := 4) hC dL_addForOwnerOf_3 rfl rfl rfl ?_
  refine v_iload (q := 6) hC dL_addForOwnerOf_4 rfl rfl ?_
  refine v_callTry (q := 9) (rm := rm_X11_addForOwner) hC hT hM k_X11_addForOwner im_yX11_addForOwner se_yX11_addForOwner ml_RL_64 dL_addForOwnerOf_6 rfl rfl rfl rfl rfl rfl (Nat.le_of_ble_eq_true rfl) ⟨Nat.le_of_ble_eq_true rfl, Nat.le_of_ble_eq_true rfl⟩ ⟨Nat.le_of_ble_eq_true rfl, Nat.le_of_ble_eq_true rfl⟩ (fun v9 G9 z9 => ?_) HX
  obtain ⟨x9, rfl⟩ := hv _ _ z9
  dsimp only [Option.toList, List.cons_append, List.nil_append]
  refine v_iret hC dL_addForOwnerOf_9 hr (rfl) ?_ (Nat.le_of_ble_eq_true rfl) (Nat.le_of_ble_eq_true rfl)
  exact Or.inl ⟨x9, _, z9, rfl, rfl⟩
theorem kh_L_addForOwnerOf : kH yL_addForOwnerOf cL_addForOwnerOf 6 (some .int) [(0, 9, 10, 24), (0, 9, 15, 51), (0, 9, 20, 15)] 5 := ⟨cw_yL_addForOwnerOf, ⟨by decide, by decide⟩, by decide +kernel, in_RL, st_yL_addForOwnerOf⟩
abbrev rm_L_addForAllOf : Room := { frames := 9, locals := 163, cells := 3, slots := 18 }
set_option maxHeartbeats 4000000 in
set_option maxRecDepth 20000 in
theorem w_L_addForAllOf {l : Launch} (hl : l.stackTraces = false) (Θ : cTH) {Qc : cOut → GS → Prop} (a0 a1 a2 a3 : Int32) (G : GS) (hM : Ct l yX11_addForAll cX11_addForAll 5 (some .int) rm_X11_addForAll Θ [.ref (tR Θ 0 14), .int a0, .int a1, .int a2, .int a3] G Qc) (hv : ∀ r G1, Qc (.inl r) G1 → ∃ x : Int32, r = some (.int x)) (hx : ∀ E G1, Qc (.inr E) G1 → E = eX ∨ E = eA ∨ E = eS) : CtH l yL_addForAllOf cL_addForAllOf 6 (some .int) [(0, 9, 10, 24), (0, 9, 15, 51), (0, 9, 20, 15)] rm_L_addForAllOf Θ [.ref (tR Θ 0 14), .int a0, .int a1, .int a2, .int a3] G (wP gI [eX, eA, eS] Qc) := by
  refine cth_of (LS := [some (.ref (tR Θ 0 14)), some (.int a0), some (.int a1), some (.int a2), some (.int a3), none]) hl (by decide +kernel) rfl rfl (Nat.le_of_ble_eq_true rfl) rfl ?_
  intro p e s m args below meth c hC hr hT
  have HX : ∀ E9 G9, Qc (.inr E9) G9 → ∃ (i : Nat) (x : ExceptionTableEntry) (nm : String), (tableOf [(0, 9, 10, 24), (0, 9, 15, 51), (0, 9, 20, 15)])[i]? = some x ∧ (∀ z ∈ (tableOf [(0, 9, 10, 24), (0, 9, 15, 51), (0, 9, 20, 15)]).take i, covers z 6 = false ∨ (z.catchType ≠ 0 ∧ ∃ nm : String, Cond.classLink RL z.catchType nm ∈ wALL ∧ (E9, nm) ∈ ncW)) ∧ covers x 6 = true ∧ x.catchType ≠ 0 ∧ Cond.classLink RL x.catchType nm ∈ wALL ∧ Cond.castable E9 nm ∈ excW ∧ ∀ q9 : Nat, V p l e rm_L_addForAllOf s m args below meth c 6 Θ (wP gI [eX, eA, eS] Qc) rm_L_addForAllOf.cells rm_L_addForAllOf.slots (0 + rm_X11_addForAll.cells) (0 + rm_X11_addForAll.slots) x.handlerPc [some (.ref (tR Θ 0 14)), some (.int a0), some (.int a1), some (.int a2), some (.int a3), none] [.ref q9] G9 := by
    intro E9 G9 z9
    rcases hx E9 G9 z9 with rfl | rfl | rfl
    · refine ⟨0, _, _, rfl, (fun z hz => absurd hz (by simp)), by decide, by decide, cl_RL_24, by decide, fun q9 => ?_⟩
      show V p l e rm_L_addForAllOf s m args below meth c 6 Θ (wP gI [eX, eA, eS] Qc) rm_L_addForAllOf.cells rm_L_addForAllOf.slots (0 + rm_X11_addForAll.cells) (0 + rm_X11_addForAll.slots) 10 [some (.ref (tR Θ 0 14)), some (.int a0), some (.int a1), some (.int a2), some (.int a3), none] [.ref q9] G9
      refine v_astore (q := 12) hC dL_addForAllOf_10 rfl (lvc rfl) (Nat.le_of_ble_eq_true rfl) (Nat.le_of_ble_eq_true rfl) rfl ?_
      refine v_bipush (q := 14) (v := (-101)) hC dL_addForAllOf_12 rfl (by decide) ?_
      refine v_iret hC dL_addForAllOf_14 hr (rfl) ?_ (Nat.le_of_ble_eq_true rfl) (Nat.le_of_ble_eq_true rfl)
      exact Or.inr ⟨_, _, z9, by first | rfl | decide, rfl⟩
    · refine ⟨1, _, _, rfl, (List.forall_mem_cons.mpr ⟨Or.inr ⟨by decide, _, cl_RL_24, by decide⟩, List.forall_mem_nil _⟩), by decide, by decide, cl_RL_51, by decide, fun q9 => ?_⟩
      show V p l e rm_L_addForAllOf s m args below meth c 6 Θ (wP gI [eX, eA, eS] Qc) rm_L_addForAllOf.cells rm_L_addForAllOf.slots (0 + rm_X11_addForAll.cells) (0 + rm_X11_addForAll.slots) 15 [some (.ref (tR Θ 0 14)), some (.int a0), some (.int a1), some (.int a2), some (.int a3), none] [.ref q9] G9
      refine v_astore (q := 17) hC dL_addForAllOf_15 rfl (lvc rfl) (Nat.le_of_ble_eq_true rfl) (Nat.le_of_ble_eq_true rfl) rfl ?_
      refine v_bipush (q := 19) (v := (-102)) hC dL_addForAllOf_17 rfl (by decide) ?_
      refine v_iret hC dL_addForAllOf_19 hr (rfl) ?_ (Nat.le_of_ble_eq_true rfl) (Nat.le_of_ble_eq_true rfl)
      exact Or.inr ⟨_, _, z9, by first | rfl | decide, rfl⟩
    · refine ⟨2, _, _, rfl, (List.forall_mem_cons.mpr ⟨Or.inr ⟨by decide, _, cl_RL_24, by decide⟩, List.forall_mem_cons.mpr ⟨Or.inr ⟨by decide, _, cl_RL_51, by decide⟩, List.forall_mem_nil _⟩⟩), by decide, by decide, cl_RL_15, by decide, fun q9 => ?_⟩
      show V p l e rm_L_addForAllOf s m args below meth c 6 Θ (wP gI [eX, eA, eS] Qc) rm_L_addForAllOf.cells rm_L_addForAllOf.slots (0 + rm_X11_addForAll.cells) (0 + rm_X11_addForAll.slots) 20 [some (.ref (tR Θ 0 14)), some (.int a0), some (.int a1), some (.int a2), some (.int a3), none] [.ref q9] G9
      refine v_astore (q := 22) hC dL_addForAllOf_20 rfl (lvc rfl) (Nat.le_of_ble_eq_true rfl) (Nat.le_of_ble_eq_true rfl) rfl ?_
      refine v_bipush (q := 24) (v := (-103)) hC dL_addForAllOf_22 rfl (by decide) ?_
      refine v_iret hC dL_addForAllOf_24 hr (rfl) ?_ (Nat.le_of_ble_eq_true rfl) (Nat.le_of_ble_eq_true rfl)
      exact Or.inr ⟨_, _, z9, by first | rfl | decide, rfl⟩
  refine v_aload_n (i := 0) (q := 1) hC dL_addForAllOf_0 rfl rfl rfl ?_
  refine v_iload_n (i := 1) (q := 2) hC dL_addForAllOf_1 rfl rfl rfl ?_
  refine v_iload_n (i := 2) (q := 3) hC dL_addForAllOf_2 rfl rfl rfl ?_
  refine v_iload_n (i := 3) (q := 4) hC dL_addForAllOf_3 rfl rfl rfl ?_
  refine v_iload (q := 6) hC dL_addForAllOf_4 rfl rfl ?_
  refine v_callTry (q := 9) (rm := rm_X11_addForAll) hC hT hM k_X11_addForAll im_yX11_addForAll se_yX11_addForAll ml_RL_68 dL_addForAllOf_6 rfl rfl rfl rfl rfl rfl (Nat.le_of_ble_eq_true rfl) ⟨Nat.le_of_ble_eq_true rfl, Nat.le_of_ble_eq_true rfl⟩ ⟨Nat.le_of_ble_eq_true rfl, Nat.le_of_ble_eq_true rfl⟩ (fun v9 G9 z9 => ?_) HX
  obtain ⟨x9, rfl⟩ := hv _ _ z9
  dsimp only [Option.toList, List.cons_append, List.nil_append]
  refine v_iret hC dL_addForAllOf_9 hr (rfl) ?_ (Nat.le_of_ble_eq_true rfl) (Nat.le_of_ble_eq_true rfl)
  exact Or.inl ⟨x9, _, z9, rfl, rfl⟩
theorem kh_L_addForAllOf : kH yL_addForAllOf cL_addForAllOf 6 (some .int) [(0, 9, 10, 24), (0, 9, 15, 51), (0, 9, 20, 15)] 5 := ⟨cw_yL_addForAllOf, ⟨by decide, by decide⟩, by decide +kernel, in_RL, st_yL_addForAllOf⟩
abbrev rm_L_removeEntryOf : Room := { frames := 9, locals := 155, cells := 2, slots := 12 }
set_option maxHeartbeats 4000000 in
set_option maxRecDepth 20000 in
theorem w_L_removeEntryOf {l : Launch} (hl : l.stackTraces = false) (Θ : cTH) {Qc : cOut → GS → Prop} (a0 a1 : Int32) (G : GS) (hM : Ct l yX11_removeEntry cX11_removeEntry 3 (some .int) rm_X11_removeEntry Θ [.ref (tR Θ 0 14), .int a0, .int a1] G Qc) (hv : ∀ r G1, Qc (.inl r) G1 → ∃ x : Int32, r = some (.int x)) (hx : ∀ E G1, Qc (.inr E) G1 → E = eX) : CtH l yL_removeEntryOf cL_removeEntryOf 4 (some .int) [(0, 6, 7, 24)] rm_L_removeEntryOf Θ [.ref (tR Θ 0 14), .int a0, .int a1] G (wP gI [eX] Qc) := by
  refine cth_of (LS := [some (.ref (tR Θ 0 14)), some (.int a0), some (.int a1), none]) hl (by decide +kernel) rfl rfl (Nat.le_of_ble_eq_true rfl) rfl ?_
  intro p e s m args below meth c hC hr hT
  have HX : ∀ E9 G9, Qc (.inr E9) G9 → ∃ (i : Nat) (x : ExceptionTableEntry) (nm : String), (tableOf [(0, 6, 7, 24)])[i]? = some x ∧ (∀ z ∈ (tableOf [(0, 6, 7, 24)]).take i, covers z 3 = false ∨ (z.catchType ≠ 0 ∧ ∃ nm : String, Cond.classLink RL z.catchType nm ∈ wALL ∧ (E9, nm) ∈ ncW)) ∧ covers x 3 = true ∧ x.catchType ≠ 0 ∧ Cond.classLink RL x.catchType nm ∈ wALL ∧ Cond.castable E9 nm ∈ excW ∧ ∀ q9 : Nat, V p l e rm_L_removeEntryOf s m args below meth c 4 Θ (wP gI [eX] Qc) rm_L_removeEntryOf.cells rm_L_removeEntryOf.slots (0 + rm_X11_removeEntry.cells) (0 + rm_X11_removeEntry.slots) x.handlerPc [some (.ref (tR Θ 0 14)), some (.int a0), some (.int a1), none] [.ref q9] G9 := by
    intro E9 G9 z9
    rcases hx E9 G9 z9 with rfl
    · refine ⟨0, _, _, rfl, (fun z hz => absurd hz (by simp)), by decide, by decide, cl_RL_24, by decide, fun q9 => ?_⟩
      show V p l e rm_L_removeEntryOf s m args below meth c 4 Θ (wP gI [eX] Qc) rm_L_removeEntryOf.cells rm_L_removeEntryOf.slots (0 + rm_X11_removeEntry.cells) (0 + rm_X11_removeEntry.slots) 7 [some (.ref (tR Θ 0 14)), some (.int a0), some (.int a1), none] [.ref q9] G9
      refine v_astore_n (i := 3) (q := 8) hC dL_removeEntryOf_7 rfl rfl (lvc rfl) (Nat.le_of_ble_eq_true rfl) (Nat.le_of_ble_eq_true rfl) rfl ?_
      refine v_bipush (q := 10) (v := (-101)) hC dL_removeEntryOf_8 rfl (by decide) ?_
      refine v_iret hC dL_removeEntryOf_10 hr (rfl) ?_ (Nat.le_of_ble_eq_true rfl) (Nat.le_of_ble_eq_true rfl)
      exact Or.inr ⟨_, _, z9, by first | rfl | decide, rfl⟩
  refine v_aload_n (i := 0) (q := 1) hC dL_removeEntryOf_0 rfl rfl rfl ?_
  refine v_iload_n (i := 1) (q := 2) hC dL_removeEntryOf_1 rfl rfl rfl ?_
  refine v_iload_n (i := 2) (q := 3) hC dL_removeEntryOf_2 rfl rfl rfl ?_
  refine v_callTry (q := 6) (rm := rm_X11_removeEntry) hC hT hM k_X11_removeEntry im_yX11_removeEntry se_yX11_removeEntry ml_RL_71 dL_removeEntryOf_3 rfl rfl rfl rfl rfl rfl (Nat.le_of_ble_eq_true rfl) ⟨Nat.le_of_ble_eq_true rfl, Nat.le_of_ble_eq_true rfl⟩ ⟨Nat.le_of_ble_eq_true rfl, Nat.le_of_ble_eq_true rfl⟩ (fun v9 G9 z9 => ?_) HX
  obtain ⟨x9, rfl⟩ := hv _ _ z9
  dsimp only [Option.toList, List.cons_append, List.nil_append]
  refine v_iret hC dL_removeEntryOf_6 hr (rfl) ?_ (Nat.le_of_ble_eq_true rfl) (Nat.le_of_ble_eq_true rfl)
  exact Or.inl ⟨x9, _, z9, rfl, rfl⟩
theorem kh_L_removeEntryOf : kH yL_removeEntryOf cL_removeEntryOf 4 (some .int) [(0, 6, 7, 24)] 3 := ⟨cw_yL_removeEntryOf, ⟨by decide, by decide⟩, by decide +kernel, in_RL, st_yL_removeEntryOf⟩
abbrev rm_L_moveEntryOf : Room := { frames := 9, locals := 173, cells := 4, slots := 24 }
set_option maxHeartbeats 4000000 in
set_option maxRecDepth 20000 in
theorem w_L_moveEntryOf {l : Launch} (hl : l.stackTraces = false) (Θ : cTH) {Qc : cOut → GS → Prop} (a0 a1 a2 : Int32) (G : GS) (hM : Ct l yX11_moveEntry cX11_moveEntry 5 (some .int) rm_X11_moveEntry Θ [.ref (tR Θ 0 14), .int a0, .int a1, .int a2] G Qc) (hv : ∀ r G1, Qc (.inl r) G1 → ∃ x : Int32, r = some (.int x)) (hx : ∀ E G1, Qc (.inr E) G1 → E = eX) : CtH l yL_moveEntryOf cL_moveEntryOf 5 (some .int) [(0, 7, 8, 24)] rm_L_moveEntryOf Θ [.ref (tR Θ 0 14), .int a0, .int a1, .int a2] G (wP gI [eX] Qc) := by
  refine cth_of (LS := [some (.ref (tR Θ 0 14)), some (.int a0), some (.int a1), some (.int a2), none]) hl (by decide +kernel) rfl rfl (Nat.le_of_ble_eq_true rfl) rfl ?_
  intro p e s m args below meth c hC hr hT
  have HX : ∀ E9 G9, Qc (.inr E9) G9 → ∃ (i : Nat) (x : ExceptionTableEntry) (nm : String), (tableOf [(0, 7, 8, 24)])[i]? = some x ∧ (∀ z ∈ (tableOf [(0, 7, 8, 24)]).take i, covers z 4 = false ∨ (z.catchType ≠ 0 ∧ ∃ nm : String, Cond.classLink RL z.catchType nm ∈ wALL ∧ (E9, nm) ∈ ncW)) ∧ covers x 4 = true ∧ x.catchType ≠ 0 ∧ Cond.classLink RL x.catchType nm ∈ wALL ∧ Cond.castable E9 nm ∈ excW ∧ ∀ q9 : Nat, V p l e rm_L_moveEntryOf s m args below meth c 5 Θ (wP gI [eX] Qc) rm_L_moveEntryOf.cells rm_L_moveEntryOf.slots (0 + rm_X11_moveEntry.cells) (0 + rm_X11_moveEntry.slots) x.handlerPc [some (.ref (tR Θ 0 14)), some (.int a0), some (.int a1), some (.int a2), none] [.ref q9] G9 := by
    intro E9 G9 z9
    rcases hx E9 G9 z9 with rfl
    · refine ⟨0, _, _, rfl, (fun z hz => absurd hz (by simp)), by decide, by decide, cl_RL_24, by decide, fun q9 => ?_⟩
      show V p l e rm_L_moveEntryOf s m args below meth c 5 Θ (wP gI [eX] Qc) rm_L_moveEntryOf.cells rm_L_moveEntryOf.slots (0 + rm_X11_moveEntry.cells) (0 + rm_X11_moveEntry.slots) 8 [some (.ref (tR Θ 0 14)), some (.int a0), some (.int a1), some (.int a2), none] [.ref q9] G9
      refine v_astore (q := 10) hC dL_moveEntryOf_8 rfl (lvc rfl) (Nat.le_of_ble_eq_true rfl) (Nat.le_of_ble_eq_true rfl) rfl ?_
      refine v_bipush (q := 12) (v := (-101)) hC dL_moveEntryOf_10 rfl (by decide) ?_
      refine v_iret hC dL_moveEntryOf_12 hr (rfl) ?_ (Nat.le_of_ble_eq_true rfl) (Nat.le_of_ble_eq_true rfl)
      exact Or.inr ⟨_, _, z9, by first | rfl | decide, rfl⟩
  refine v_aload_n (i := 0) (q := 1) hC dL_moveEntryOf_0 rfl rfl rfl ?_
  refine v_iload_n (i := 1) (q := 2) hC dL_moveEntryOf_1 rfl rfl rfl ?_
  refine v_iload_n (i := 2) (q := 3) hC dL_moveEntryOf_2 rfl rfl rfl ?_
  refine v_iload_n (i := 3) (q := 4) hC dL_moveEntryOf_3 rfl rfl rfl ?_
  refine v_callTry (q := 7) (rm := rm_X11_moveEntry) hC hT hM k_X11_moveEntry im_yX11_moveEntry se_yX11_moveEntry ml_RL_74 dL_moveEntryOf_4 rfl rfl rfl rfl rfl rfl (Nat.le_of_ble_eq_true rfl) ⟨Nat.le_of_ble_eq_true rfl, Nat.le_of_ble_eq_true rfl⟩ ⟨Nat.le_of_ble_eq_true rfl, Nat.le_of_ble_eq_true rfl⟩ (fun v9 G9 z9 => ?_) HX
  obtain ⟨x9, rfl⟩ := hv _ _ z9
  dsimp only [Option.toList, List.cons_append, List.nil_append]
  refine v_iret hC dL_moveEntryOf_7 hr (rfl) ?_ (Nat.le_of_ble_eq_true rfl) (Nat.le_of_ble_eq_true rfl)
  exact Or.inl ⟨x9, _, z9, rfl, rfl⟩
theorem kh_L_moveEntryOf : kH yL_moveEntryOf cL_moveEntryOf 5 (some .int) [(0, 7, 8, 24)] 4 := ⟨cw_yL_moveEntryOf, ⟨by decide, by decide⟩, by decide +kernel, in_RL, st_yL_moveEntryOf⟩
abbrev rm_L_askOf : Room := { frames := 8, locals := 172, cells := 3, slots := 18 }
set_option maxHeartbeats 4000000 in
set_option maxRecDepth 20000 in
theorem w_L_askOf {l : Launch} (hl : l.stackTraces = false) (Θ : cTH) {Qc : cOut → GS → Prop} (a0 a1 a2 : Int32) (G : GS) (hM : Ct l yX11_ask cX11_ask 5 (some .boolean) rm_X11_ask Θ [.ref (tR Θ 0 14), .int a0, .int a1, .int a2] G Qc) (hv : ∀ r G1, Qc (.inl r) G1 → ∃ x : Int32, r = some (.int x)) (hx : ∀ E G1, Qc (.inr E) G1 → E = eX ∨ E = eA) : CtH l yL_askOf cL_askOf 5 (some .int) [(0, 15, 16, 24), (0, 15, 21, 51)] rm_L_askOf Θ [.ref (tR Θ 0 14), .int a0, .int a1, .int a2] G (wP gZ [eX, eA] Qc) := by
  refine cth_of (LS := [some (.ref (tR Θ 0 14)), some (.int a0), some (.int a1), some (.int a2), none]) hl (by decide +kernel) rfl rfl (Nat.le_of_ble_eq_true rfl) rfl ?_
  intro p e s m args below meth c hC hr hT
  have HX : ∀ E9 G9, Qc (.inr E9) G9 → ∃ (i : Nat) (x : ExceptionTableEntry) (nm : String), (tableOf [(0, 15, 16, 24), (0, 15, 21, 51)])[i]? = some x ∧ (∀ z ∈ (tableOf [(0, 15, 16, 24), (0, 15, 21, 51)]).take i, covers z 4 = false ∨ (z.catchType ≠ 0 ∧ ∃ nm : String, Cond.classLink RL z.catchType nm ∈ wALL ∧ (E9, nm) ∈ ncW)) ∧ covers x 4 = true ∧ x.catchType ≠ 0 ∧ Cond.classLink RL x.catchType nm ∈ wALL ∧ Cond.castable E9 nm ∈ excW ∧ ∀ q9 : Nat, V p l e rm_L_askOf s m args below meth c 5 Θ (wP gZ [eX, eA] Qc) rm_L_askOf.cells rm_L_askOf.slots (0 + rm_X11_ask.cells) (0 + rm_X11_ask.slots) x.handlerPc [some (.ref (tR Θ 0 14)), some (.int a0), some (.int a1), some (.int a2), none] [.ref q9] G9 := by
    intro E9 G9 z9
    rcases hx E9 G9 z9 with rfl | rfl
    · refine ⟨0, _, _, rfl, (fun z hz => absurd hz (by simp)), by decide, by decide, cl_RL_24, by decide, fun q9 => ?_⟩
      show V p l e rm_L_askOf s m args below meth c 5 Θ (wP gZ [eX, eA] Qc) rm_L_askOf.cells rm_L_askOf.slots (0 + rm_X11_ask.cells) (0 + rm_X11_ask.slots) 16 [some (.ref (tR Θ 0 14)), some (.int a0), some (.int a1), some (.int a2), none] [.ref q9] G9
      refine v_astore (q := 18) hC dL_askOf_16 rfl (lvc rfl) (Nat.le_of_ble_eq_true rfl) (Nat.le_of_ble_eq_true rfl) rfl ?_
      refine v_bipush (q := 20) (v := (-101)) hC dL_askOf_18 rfl (by decide) ?_
      refine v_iret hC dL_askOf_20 hr (rfl) ?_ (Nat.le_of_ble_eq_true rfl) (Nat.le_of_ble_eq_true rfl)
      exact Or.inr ⟨_, _, z9, by first | rfl | decide, rfl⟩
    · refine ⟨1, _, _, rfl, (List.forall_mem_cons.mpr ⟨Or.inr ⟨by decide, _, cl_RL_24, by decide⟩, List.forall_mem_nil _⟩), by decide, by decide, cl_RL_51, by decide, fun q9 => ?_⟩
      show V p l e rm_L_askOf s m args below meth c 5 Θ (wP gZ [eX, eA] Qc) rm_L_askOf.cells rm_L_askOf.slots (0 + rm_X11_ask.cells) (0 + rm_X11_ask.slots) 21 [some (.ref (tR Θ 0 14)), some (.int a0), some (.int a1), some (.int a2), none] [.ref q9] G9
      refine v_astore (q := 23) hC dL_askOf_21 rfl (lvc rfl) (Nat.le_of_ble_eq_true rfl) (Nat.le_of_ble_eq_true rfl) rfl ?_
      refine v_bipush (q := 25) (v := (-102)) hC dL_askOf_23 rfl (by decide) ?_
      refine v_iret hC dL_askOf_25 hr (rfl) ?_ (Nat.le_of_ble_eq_true rfl) (Nat.le_of_ble_eq_true rfl)
      exact Or.inr ⟨_, _, z9, by first | rfl | decide, rfl⟩
  refine v_aload_n (i := 0) (q := 1) hC dL_askOf_0 rfl rfl rfl ?_
  refine v_iload_n (i := 1) (q := 2) hC dL_askOf_1 rfl rfl rfl ?_
  refine v_iload_n (i := 2) (q := 3) hC dL_askOf_2 rfl rfl rfl ?_
  refine v_iload_n (i := 3) (q := 4) hC dL_askOf_3 rfl rfl rfl ?_
  refine v_callTry (q := 7) (rm := rm_X11_ask) hC hT hM k_X11_ask im_yX11_ask se_yX11_ask ml_RL_78 dL_askOf_4 rfl rfl rfl rfl rfl rfl (Nat.le_of_ble_eq_true rfl) ⟨Nat.le_of_ble_eq_true rfl, Nat.le_of_ble_eq_true rfl⟩ ⟨Nat.le_of_ble_eq_true rfl, Nat.le_of_ble_eq_true rfl⟩ (fun v9 G9 z9 => ?_) HX
  obtain ⟨x9, rfl⟩ := hv _ _ z9
  dsimp only [Option.toList, List.cons_append, List.nil_append]
  refine v_if_eq (q := 14) (q2 := 10) hC dL_askOf_7 (by decide) rfl (fun c_7 => ?_) (fun c_7 => ?_)
  · refine v_iconst (q := 15) (v := 0) hC dL_askOf_14 rfl (by decide) ?_
    refine v_iret hC dL_askOf_15 hr (rfl) ?_ (Nat.le_of_ble_eq_true rfl) (Nat.le_of_ble_eq_true rfl)
    refine Or.inl ⟨x9, _, z9, ?_, rfl⟩
    first | (rw [gZ, if_pos c_7]) | (rw [gZ, if_neg c_7])
  · refine v_iconst (q := 11) (v := 1) hC dL_askOf_10 rfl (by decide) ?_
    refine v_goto (q := 15) hC dL_askOf_11 (by decide) ?_
    refine v_iret hC dL_askOf_15 hr (rfl) ?_ (Nat.le_of_ble_eq_true rfl) (Nat.le_of_ble_eq_true rfl)
    refine Or.inl ⟨x9, _, z9, ?_, rfl⟩
    first | (rw [gZ, if_pos c_7]) | (rw [gZ, if_neg c_7])
theorem kh_L_askOf : kH yL_askOf cL_askOf 5 (some .int) [(0, 15, 16, 24), (0, 15, 21, 51)] 4 := ⟨cw_yL_askOf, ⟨by decide, by decide⟩, by decide +kernel, in_RL, st_yL_askOf⟩
abbrev rm_L_shareOf : Room := { frames := 8, locals := 149, cells := 6, slots := 36 }
set_option maxHeartbeats 4000000 in
set_option maxRecDepth 20000 in
theorem w_L_shareOf {l : Launch} (hl : l.stackTraces = false) (Θ : cTH) {Qc : cOut → GS → Prop} (a0 a1 a2 a3 : Int32) (G : GS) (hM : Ct l yX11_share cX11_share 6 (some .int) rm_X11_share Θ [.ref (tR Θ 0 14), .int a0, .int a1, .int a2, .int a3] G Qc) (hv : ∀ r G1, Qc (.inl r) G1 → ∃ x : Int32, r = some (.int x)) (hx : ∀ E G1, Qc (.inr E) G1 → E = eX ∨ E = eA ∨ E = eS) : CtH l yL_shareOf cL_shareOf 6 (some .int) [(0, 9, 10, 24), (0, 9, 15, 51), (0, 9, 20, 15)] rm_L_shareOf Θ [.ref (tR Θ 0 14), .int a0, .int a1, .int a2, .int a3] G (wP gI [eX, eA, eS] Qc) := by
  refine cth_of (LS := [some (.ref (tR Θ 0 14)), some (.int a0), some (.int a1), some (.int a2), some (.int a3), none]) hl (by decide +kernel) rfl rfl (Nat.le_of_ble_eq_true rfl) rfl ?_
  intro p e s m args below meth c hC hr hT
  have HX : ∀ E9 G9, Qc (.inr E9) G9 → ∃ (i : Nat) (x : ExceptionTableEntry) (nm : String), (tableOf [(0, 9, 10, 24), (0, 9, 15, 51), (0, 9, 20, 15)])[i]? = some x ∧ (∀ z ∈ (tableOf [(0, 9, 10, 24), (0, 9, 15, 51), (0, 9, 20, 15)]).take i, covers z 6 = false ∨ (z.catchType ≠ 0 ∧ ∃ nm : String, Cond.classLink RL z.catchType nm ∈ wALL ∧ (E9, nm) ∈ ncW)) ∧ covers x 6 = true ∧ x.catchType ≠ 0 ∧ Cond.classLink RL x.catchType nm ∈ wALL ∧ Cond.castable E9 nm ∈ excW ∧ ∀ q9 : Nat, V p l e rm_L_shareOf s m args below meth c 6 Θ (wP gI [eX, eA, eS] Qc) rm_L_shareOf.cells rm_L_shareOf.slots (0 + rm_X11_share.cells) (0 + rm_X11_share.slots) x.handlerPc [some (.ref (tR Θ 0 14)), some (.int a0), some (.int a1), some (.int a2), some (.int a3), none] [.ref q9] G9 := by
    intro E9 G9 z9
    rcases hx E9 G9 z9 with rfl | rfl | rfl
    · refine ⟨0, _, _, rfl, (fun z hz => absurd hz (by simp)), by decide, by decide, cl_RL_24, by decide, fun q9 => ?_⟩
      show V p l e rm_L_shareOf s m args below meth c 6 Θ (wP gI [eX, eA, eS] Qc) rm_L_shareOf.cells rm_L_shareOf.slots (0 + rm_X11_share.cells) (0 + rm_X11_share.slots) 10 [some (.ref (tR Θ 0 14)), some (.int a0), some (.int a1), some (.int a2), some (.int a3), none] [.ref q9] G9
      refine v_astore (q := 12) hC dL_shareOf_10 rfl (lvc rfl) (Nat.le_of_ble_eq_true rfl) (Nat.le_of_ble_eq_true rfl) rfl ?_
      refine v_bipush (q := 14) (v := (-101)) hC dL_shareOf_12 rfl (by decide) ?_
      refine v_iret hC dL_shareOf_14 hr (rfl) ?_ (Nat.le_of_ble_eq_true rfl) (Nat.le_of_ble_eq_true rfl)
      exact Or.inr ⟨_, _, z9, by first | rfl | decide, rfl⟩
    · refine ⟨1, _, _, rfl, (List.forall_mem_cons.mpr ⟨Or.inr ⟨by decide, _, cl_RL_24, by decide⟩, List.forall_mem_nil _⟩), by decide, by decide, cl_RL_51, by decide, fun q9 => ?_⟩
      show V p l e rm_L_shareOf s m args below meth c 6 Θ (wP gI [eX, eA, eS] Qc) rm_L_shareOf.cells rm_L_shareOf.slots (0 + rm_X11_share.cells) (0 + rm_X11_share.slots) 15 [some (.ref (tR Θ 0 14)), some (.int a0), some (.int a1), some (.int a2), some (.int a3), none] [.ref q9] G9
      refine v_astore (q := 17) hC dL_shareOf_15 rfl (lvc rfl) (Nat.le_of_ble_eq_true rfl) (Nat.le_of_ble_eq_true rfl) rfl ?_
      refine v_bipush (q := 19) (v := (-102)) hC dL_shareOf_17 rfl (by decide) ?_
      refine v_iret hC dL_shareOf_19 hr (rfl) ?_ (Nat.le_of_ble_eq_true rfl) (Nat.le_of_ble_eq_true rfl)
      exact Or.inr ⟨_, _, z9, by first | rfl | decide, rfl⟩
    · refine ⟨2, _, _, rfl, (List.forall_mem_cons.mpr ⟨Or.inr ⟨by decide, _, cl_RL_24, by decide⟩, List.forall_mem_cons.mpr ⟨Or.inr ⟨by decide, _, cl_RL_51, by decide⟩, List.forall_mem_nil _⟩⟩), by decide, by decide, cl_RL_15, by decide, fun q9 => ?_⟩
      show V p l e rm_L_shareOf s m args below meth c 6 Θ (wP gI [eX, eA, eS] Qc) rm_L_shareOf.cells rm_L_shareOf.slots (0 + rm_X11_share.cells) (0 + rm_X11_share.slots) 20 [some (.ref (tR Θ 0 14)), some (.int a0), some (.int a1), some (.int a2), some (.int a3), none] [.ref q9] G9
      refine v_astore (q := 22) hC dL_shareOf_20 rfl (lvc rfl) (Nat.le_of_ble_eq_true rfl) (Nat.le_of_ble_eq_true rfl) rfl ?_
      refine v_bipush (q := 24) (v := (-103)) hC dL_shareOf_22 rfl (by decide) ?_
      refine v_iret hC dL_shareOf_24 hr (rfl) ?_ (Nat.le_of_ble_eq_true rfl) (Nat.le_of_ble_eq_true rfl)
      exact Or.inr ⟨_, _, z9, by first | rfl | decide, rfl⟩
  refine v_aload_n (i := 0) (q := 1) hC dL_shareOf_0 rfl rfl rfl ?_
  refine v_iload_n (i := 1) (q := 2) hC dL_shareOf_1 rfl rfl rfl ?_
  refine v_iload_n (i := 2) (q := 3) hC dL_shareOf_2 rfl rfl rfl ?_
  refine v_iload_n (i := 3) (q := 4) hC dL_shareOf_3 rfl rfl rfl ?_
  refine v_iload (q := 6) hC dL_shareOf_4 rfl rfl ?_
  refine v_callTry (q := 9) (rm := rm_X11_share) hC hT hM k_X11_share im_yX11_share se_yX11_share ml_RL_82 dL_shareOf_6 rfl rfl rfl rfl rfl rfl (Nat.le_of_ble_eq_true rfl) ⟨Nat.le_of_ble_eq_true rfl, Nat.le_of_ble_eq_true rfl⟩ ⟨Nat.le_of_ble_eq_true rfl, Nat.le_of_ble_eq_true rfl⟩ (fun v9 G9 z9 => ?_) HX
  obtain ⟨x9, rfl⟩ := hv _ _ z9
  dsimp only [Option.toList, List.cons_append, List.nil_append]
  refine v_iret hC dL_shareOf_9 hr (rfl) ?_ (Nat.le_of_ble_eq_true rfl) (Nat.le_of_ble_eq_true rfl)
  exact Or.inl ⟨x9, _, z9, rfl, rfl⟩
theorem kh_L_shareOf : kH yL_shareOf cL_shareOf 6 (some .int) [(0, 9, 10, 24), (0, 9, 15, 51), (0, 9, 20, 15)] 5 := ⟨cw_yL_shareOf, ⟨by decide, by decide⟩, by decide +kernel, in_RL, st_yL_shareOf⟩
abbrev rm_L_isMemberOf : Room := { frames := 8, locals := 133, cells := 2, slots := 12 }
set_option maxHeartbeats 4000000 in
set_option maxRecDepth 20000 in
theorem w_L_isMemberOf {l : Launch} (hl : l.stackTraces = false) (Θ : cTH) {Qc : cOut → GS → Prop} (a0 a1 : Int32) (G : GS) (hM : Ct l yX11_isMember cX11_isMember 3 (some .boolean) rm_X11_isMember Θ [.ref (tR Θ 0 14), .int a0, .int a1] G Qc) (hv : ∀ r G1, Qc (.inl r) G1 → ∃ x : Int32, r = some (.int x)) (hx : ∀ E G1, Qc (.inr E) G1 → E = eX) : CtH l yL_isMemberOf cL_isMemberOf 4 (some .int) [(0, 14, 15, 24)] rm_L_isMemberOf Θ [.ref (tR Θ 0 14), .int a0, .int a1] G (wP gZ [eX] Qc) := by
  refine cth_of (LS := [some (.ref (tR Θ 0 14)), some (.int a0), some (.int a1), none]) hl (by decide +kernel) rfl rfl (Nat.le_of_ble_eq_true rfl) rfl ?_
  intro p e s m args below meth c hC hr hT
  have HX : ∀ E9 G9, Qc (.inr E9) G9 → ∃ (i : Nat) (x : ExceptionTableEntry) (nm : String), (tableOf [(0, 14, 15, 24)])[i]? = some x ∧ (∀ z ∈ (tableOf [(0, 14, 15, 24)]).take i, covers z 3 = false ∨ (z.catchType ≠ 0 ∧ ∃ nm : String, Cond.classLink RL z.catchType nm ∈ wALL ∧ (E9, nm) ∈ ncW)) ∧ covers x 3 = true ∧ x.catchType ≠ 0 ∧ Cond.classLink RL x.catchType nm ∈ wALL ∧ Cond.castable E9 nm ∈ excW ∧ ∀ q9 : Nat, V p l e rm_L_isMemberOf s m args below meth c 4 Θ (wP gZ [eX] Qc) rm_L_isMemberOf.cells rm_L_isMemberOf.slots (0 + rm_X11_isMember.cells) (0 + rm_X11_isMember.slots) x.handlerPc [some (.ref (tR Θ 0 14)), some (.int a0), some (.int a1), none] [.ref q9] G9 := by
    intro E9 G9 z9
    rcases hx E9 G9 z9 with rfl
    · refine ⟨0, _, _, rfl, (fun z hz => absurd hz (by simp)), by decide, by decide, cl_RL_24, by decide, fun q9 => ?_⟩
      show V p l e rm_L_isMemberOf s m args below meth c 4 Θ (wP gZ [eX] Qc) rm_L_isMemberOf.cells rm_L_isMemberOf.slots (0 + rm_X11_isMember.cells) (0 + rm_X11_isMember.slots) 15 [some (.ref (tR Θ 0 14)), some (.int a0), some (.int a1), none] [.ref q9] G9
      refine v_astore_n (i := 3) (q := 16) hC dL_isMemberOf_15 rfl rfl (lvc rfl) (Nat.le_of_ble_eq_true rfl) (Nat.le_of_ble_eq_true rfl) rfl ?_
      refine v_bipush (q := 18) (v := (-101)) hC dL_isMemberOf_16 rfl (by decide) ?_
      refine v_iret hC dL_isMemberOf_18 hr (rfl) ?_ (Nat.le_of_ble_eq_true rfl) (Nat.le_of_ble_eq_true rfl)
      exact Or.inr ⟨_, _, z9, by first | rfl | decide, rfl⟩
  refine v_aload_n (i := 0) (q := 1) hC dL_isMemberOf_0 rfl rfl rfl ?_
  refine v_iload_n (i := 1) (q := 2) hC dL_isMemberOf_1 rfl rfl rfl ?_
  refine v_iload_n (i := 2) (q := 3) hC dL_isMemberOf_2 rfl rfl rfl ?_
  refine v_callTry (q := 6) (rm := rm_X11_isMember) hC hT hM k_X11_isMember im_yX11_isMember se_yX11_isMember ml_RL_86 dL_isMemberOf_3 rfl rfl rfl rfl rfl rfl (Nat.le_of_ble_eq_true rfl) ⟨Nat.le_of_ble_eq_true rfl, Nat.le_of_ble_eq_true rfl⟩ ⟨Nat.le_of_ble_eq_true rfl, Nat.le_of_ble_eq_true rfl⟩ (fun v9 G9 z9 => ?_) HX
  obtain ⟨x9, rfl⟩ := hv _ _ z9
  dsimp only [Option.toList, List.cons_append, List.nil_append]
  refine v_if_eq (q := 13) (q2 := 9) hC dL_isMemberOf_6 (by decide) rfl (fun c_6 => ?_) (fun c_6 => ?_)
  · refine v_iconst (q := 14) (v := 0) hC dL_isMemberOf_13 rfl (by decide) ?_
    refine v_iret hC dL_isMemberOf_14 hr (rfl) ?_ (Nat.le_of_ble_eq_true rfl) (Nat.le_of_ble_eq_true rfl)
    refine Or.inl ⟨x9, _, z9, ?_, rfl⟩
    first | (rw [gZ, if_pos c_6]) | (rw [gZ, if_neg c_6])
  · refine v_iconst (q := 10) (v := 1) hC dL_isMemberOf_9 rfl (by decide) ?_
    refine v_goto (q := 14) hC dL_isMemberOf_10 (by decide) ?_
    refine v_iret hC dL_isMemberOf_14 hr (rfl) ?_ (Nat.le_of_ble_eq_true rfl) (Nat.le_of_ble_eq_true rfl)
    refine Or.inl ⟨x9, _, z9, ?_, rfl⟩
    first | (rw [gZ, if_pos c_6]) | (rw [gZ, if_neg c_6])
theorem kh_L_isMemberOf : kH yL_isMemberOf cL_isMemberOf 4 (some .int) [(0, 14, 15, 24)] 3 := ⟨cw_yL_isMemberOf, ⟨by decide, by decide⟩, by decide +kernel, in_RL, st_yL_isMemberOf⟩
abbrev rm_L_isNestedOf : Room := { frames := 8, locals := 133, cells := 2, slots := 12 }
set_option maxHeartbeats 4000000 in
set_option maxRecDepth 20000 in
theorem w_L_isNestedOf {l : Launch} (hl : l.stackTraces = false) (Θ : cTH) {Qc : cOut → GS → Prop} (a0 a1 : Int32) (G : GS) (hM : Ct l yX11_isNested cX11_isNested 3 (some .boolean) rm_X11_isNested Θ [.ref (tR Θ 0 14), .int a0, .int a1] G Qc) (hv : ∀ r G1, Qc (.inl r) G1 → ∃ x : Int32, r = some (.int x)) (hx : ∀ E G1, Qc (.inr E) G1 → E = eX) : CtH l yL_isNestedOf cL_isNestedOf 4 (some .int) [(0, 14, 15, 24)] rm_L_isNestedOf Θ [.ref (tR Θ 0 14), .int a0, .int a1] G (wP gZ [eX] Qc) := by
  refine cth_of (LS := [some (.ref (tR Θ 0 14)), some (.int a0), some (.int a1), none]) hl (by decide +kernel) rfl rfl (Nat.le_of_ble_eq_true rfl) rfl ?_
  intro p e s m args below meth c hC hr hT
  have HX : ∀ E9 G9, Qc (.inr E9) G9 → ∃ (i : Nat) (x : ExceptionTableEntry) (nm : String), (tableOf [(0, 14, 15, 24)])[i]? = some x ∧ (∀ z ∈ (tableOf [(0, 14, 15, 24)]).take i, covers z 3 = false ∨ (z.catchType ≠ 0 ∧ ∃ nm : String, Cond.classLink RL z.catchType nm ∈ wALL ∧ (E9, nm) ∈ ncW)) ∧ covers x 3 = true ∧ x.catchType ≠ 0 ∧ Cond.classLink RL x.catchType nm ∈ wALL ∧ Cond.castable E9 nm ∈ excW ∧ ∀ q9 : Nat, V p l e rm_L_isNestedOf s m args below meth c 4 Θ (wP gZ [eX] Qc) rm_L_isNestedOf.cells rm_L_isNestedOf.slots (0 + rm_X11_isNested.cells) (0 + rm_X11_isNested.slots) x.handlerPc [some (.ref (tR Θ 0 14)), some (.int a0), some (.int a1), none] [.ref q9] G9 := by
    intro E9 G9 z9
    rcases hx E9 G9 z9 with rfl
    · refine ⟨0, _, _, rfl, (fun z hz => absurd hz (by simp)), by decide, by decide, cl_RL_24, by decide, fun q9 => ?_⟩
      show V p l e rm_L_isNestedOf s m args below meth c 4 Θ (wP gZ [eX] Qc) rm_L_isNestedOf.cells rm_L_isNestedOf.slots (0 + rm_X11_isNested.cells) (0 + rm_X11_isNested.slots) 15 [some (.ref (tR Θ 0 14)), some (.int a0), some (.int a1), none] [.ref q9] G9
      refine v_astore_n (i := 3) (q := 16) hC dL_isNestedOf_15 rfl rfl (lvc rfl) (Nat.le_of_ble_eq_true rfl) (Nat.le_of_ble_eq_true rfl) rfl ?_
      refine v_bipush (q := 18) (v := (-101)) hC dL_isNestedOf_16 rfl (by decide) ?_
      refine v_iret hC dL_isNestedOf_18 hr (rfl) ?_ (Nat.le_of_ble_eq_true rfl) (Nat.le_of_ble_eq_true rfl)
      exact Or.inr ⟨_, _, z9, by first | rfl | decide, rfl⟩
  refine v_aload_n (i := 0) (q := 1) hC dL_isNestedOf_0 rfl rfl rfl ?_
  refine v_iload_n (i := 1) (q := 2) hC dL_isNestedOf_1 rfl rfl rfl ?_
  refine v_iload_n (i := 2) (q := 3) hC dL_isNestedOf_2 rfl rfl rfl ?_
  refine v_callTry (q := 6) (rm := rm_X11_isNested) hC hT hM k_X11_isNested im_yX11_isNested se_yX11_isNested ml_RL_90 dL_isNestedOf_3 rfl rfl rfl rfl rfl rfl (Nat.le_of_ble_eq_true rfl) ⟨Nat.le_of_ble_eq_true rfl, Nat.le_of_ble_eq_true rfl⟩ ⟨Nat.le_of_ble_eq_true rfl, Nat.le_of_ble_eq_true rfl⟩ (fun v9 G9 z9 => ?_) HX
  obtain ⟨x9, rfl⟩ := hv _ _ z9
  dsimp only [Option.toList, List.cons_append, List.nil_append]
  refine v_if_eq (q := 13) (q2 := 9) hC dL_isNestedOf_6 (by decide) rfl (fun c_6 => ?_) (fun c_6 => ?_)
  · refine v_iconst (q := 14) (v := 0) hC dL_isNestedOf_13 rfl (by decide) ?_
    refine v_iret hC dL_isNestedOf_14 hr (rfl) ?_ (Nat.le_of_ble_eq_true rfl) (Nat.le_of_ble_eq_true rfl)
    refine Or.inl ⟨x9, _, z9, ?_, rfl⟩
    first | (rw [gZ, if_pos c_6]) | (rw [gZ, if_neg c_6])
  · refine v_iconst (q := 10) (v := 1) hC dL_isNestedOf_9 rfl (by decide) ?_
    refine v_goto (q := 14) hC dL_isNestedOf_10 (by decide) ?_
    refine v_iret hC dL_isNestedOf_14 hr (rfl) ?_ (Nat.le_of_ble_eq_true rfl) (Nat.le_of_ble_eq_true rfl)
    refine Or.inl ⟨x9, _, z9, ?_, rfl⟩
    first | (rw [gZ, if_pos c_6]) | (rw [gZ, if_neg c_6])
theorem kh_L_isNestedOf : kH yL_isNestedOf cL_isNestedOf 4 (some .int) [(0, 14, 15, 24)] 3 := ⟨cw_yL_isNestedOf, ⟨by decide, by decide⟩, by decide +kernel, in_RL, st_yL_isNestedOf⟩
abbrev rm_L_belongsOf : Room := { frames := 8, locals := 133, cells := 2, slots := 12 }
set_option maxHeartbeats 4000000 in
set_option maxRecDepth 20000 in
theorem w_L_belongsOf {l : Launch} (hl : l.stackTraces = false) (Θ : cTH) {Qc : cOut → GS → Prop} (a0 a1 : Int32) (G : GS) (hM : Ct l yX11_belongs cX11_belongs 3 (some .boolean) rm_X11_belongs Θ [.ref (tR Θ 0 14), .int a0, .int a1] G Qc) (hv : ∀ r G1, Qc (.inl r) G1 → ∃ x : Int32, r = some (.int x)) (hx : ∀ E G1, Qc (.inr E) G1 → E = eX) : CtH l yL_belongsOf cL_belongsOf 4 (some .int) [(0, 14, 15, 24)] rm_L_belongsOf Θ [.ref (tR Θ 0 14), .int a0, .int a1] G (wP gZ [eX] Qc) := by
  refine cth_of (LS := [some (.ref (tR Θ 0 14)), some (.int a0), some (.int a1), none]) hl (by decide +kernel) rfl rfl (Nat.le_of_ble_eq_true rfl) rfl ?_
  intro p e s m args below meth c hC hr hT
  have HX : ∀ E9 G9, Qc (.inr E9) G9 → ∃ (i : Nat) (x : ExceptionTableEntry) (nm : String), (tableOf [(0, 14, 15, 24)])[i]? = some x ∧ (∀ z ∈ (tableOf [(0, 14, 15, 24)]).take i, covers z 3 = false ∨ (z.catchType ≠ 0 ∧ ∃ nm : String, Cond.classLink RL z.catchType nm ∈ wALL ∧ (E9, nm) ∈ ncW)) ∧ covers x 3 = true ∧ x.catchType ≠ 0 ∧ Cond.classLink RL x.catchType nm ∈ wALL ∧ Cond.castable E9 nm ∈ excW ∧ ∀ q9 : Nat, V p l e rm_L_belongsOf s m args below meth c 4 Θ (wP gZ [eX] Qc) rm_L_belongsOf.cells rm_L_belongsOf.slots (0 + rm_X11_belongs.cells) (0 + rm_X11_belongs.slots) x.handlerPc [some (.ref (tR Θ 0 14)), some (.int a0), some (.int a1), none] [.ref q9] G9 := by
    intro E9 G9 z9
    rcases hx E9 G9 z9 with rfl
    · refine ⟨0, _, _, rfl, (fun z hz => absurd hz (by simp)), by decide, by decide, cl_RL_24, by decide, fun q9 => ?_⟩
      show V p l e rm_L_belongsOf s m args below meth c 4 Θ (wP gZ [eX] Qc) rm_L_belongsOf.cells rm_L_belongsOf.slots (0 + rm_X11_belongs.cells) (0 + rm_X11_belongs.slots) 15 [some (.ref (tR Θ 0 14)), some (.int a0), some (.int a1), none] [.ref q9] G9
      refine v_astore_n (i := 3) (q := 16) hC dL_belongsOf_15 rfl rfl (lvc rfl) (Nat.le_of_ble_eq_true rfl) (Nat.le_of_ble_eq_true rfl) rfl ?_
      refine v_bipush (q := 18) (v := (-101)) hC dL_belongsOf_16 rfl (by decide) ?_
      refine v_iret hC dL_belongsOf_18 hr (rfl) ?_ (Nat.le_of_ble_eq_true rfl) (Nat.le_of_ble_eq_true rfl)
      exact Or.inr ⟨_, _, z9, by first | rfl | decide, rfl⟩
  refine v_aload_n (i := 0) (q := 1) hC dL_belongsOf_0 rfl rfl rfl ?_
  refine v_iload_n (i := 1) (q := 2) hC dL_belongsOf_1 rfl rfl rfl ?_
  refine v_iload_n (i := 2) (q := 3) hC dL_belongsOf_2 rfl rfl rfl ?_
  refine v_callTry (q := 6) (rm := rm_X11_belongs) hC hT hM k_X11_belongs im_yX11_belongs se_yX11_belongs ml_RL_93 dL_belongsOf_3 rfl rfl rfl rfl rfl rfl (Nat.le_of_ble_eq_true rfl) ⟨Nat.le_of_ble_eq_true rfl, Nat.le_of_ble_eq_true rfl⟩ ⟨Nat.le_of_ble_eq_true rfl, Nat.le_of_ble_eq_true rfl⟩ (fun v9 G9 z9 => ?_) HX
  obtain ⟨x9, rfl⟩ := hv _ _ z9
  dsimp only [Option.toList, List.cons_append, List.nil_append]
  refine v_if_eq (q := 13) (q2 := 9) hC dL_belongsOf_6 (by decide) rfl (fun c_6 => ?_) (fun c_6 => ?_)
  · refine v_iconst (q := 14) (v := 0) hC dL_belongsOf_13 rfl (by decide) ?_
    refine v_iret hC dL_belongsOf_14 hr (rfl) ?_ (Nat.le_of_ble_eq_true rfl) (Nat.le_of_ble_eq_true rfl)
    refine Or.inl ⟨x9, _, z9, ?_, rfl⟩
    first | (rw [gZ, if_pos c_6]) | (rw [gZ, if_neg c_6])
  · refine v_iconst (q := 10) (v := 1) hC dL_belongsOf_9 rfl (by decide) ?_
    refine v_goto (q := 14) hC dL_belongsOf_10 (by decide) ?_
    refine v_iret hC dL_belongsOf_14 hr (rfl) ?_ (Nat.le_of_ble_eq_true rfl) (Nat.le_of_ble_eq_true rfl)
    refine Or.inl ⟨x9, _, z9, ?_, rfl⟩
    first | (rw [gZ, if_pos c_6]) | (rw [gZ, if_neg c_6])
theorem kh_L_belongsOf : kH yL_belongsOf cL_belongsOf 4 (some .int) [(0, 14, 15, 24)] 3 := ⟨cw_yL_belongsOf, ⟨by decide, by decide⟩, by decide +kernel, in_RL, st_yL_belongsOf⟩
abbrev rm_L_belongsByMembersOf : Room := { frames := 8, locals := 133, cells := 2, slots := 12 }
set_option maxHeartbeats 4000000 in
set_option maxRecDepth 20000 in
theorem w_L_belongsByMembersOf {l : Launch} (hl : l.stackTraces = false) (Θ : cTH) {Qc : cOut → GS → Prop} (a0 a1 : Int32) (G : GS) (hM : Ct l yX11_belongsByMembers cX11_belongsByMembers 3 (some .boolean) rm_X11_belongsByMembers Θ [.ref (tR Θ 0 14), .int a0, .int a1] G Qc) (hv : ∀ r G1, Qc (.inl r) G1 → ∃ x : Int32, r = some (.int x)) (hx : ∀ E G1, Qc (.inr E) G1 → E = eX) : CtH l yL_belongsByMembersOf cL_belongsByMembersOf 4 (some .int) [(0, 14, 15, 24)] rm_L_belongsByMembersOf Θ [.ref (tR Θ 0 14), .int a0, .int a1] G (wP gZ [eX] Qc) := by
  refine cth_of (LS := [some (.ref (tR Θ 0 14)), some (.int a0), some (.int a1), none]) hl (by decide +kernel) rfl rfl (Nat.le_of_ble_eq_true rfl) rfl ?_
  intro p e s m args below meth c hC hr hT
  have HX : ∀ E9 G9, Qc (.inr E9) G9 → ∃ (i : Nat) (x : ExceptionTableEntry) (nm : String), (tableOf [(0, 14, 15, 24)])[i]? = some x ∧ (∀ z ∈ (tableOf [(0, 14, 15, 24)]).take i, covers z 3 = false ∨ (z.catchType ≠ 0 ∧ ∃ nm : String, Cond.classLink RL z.catchType nm ∈ wALL ∧ (E9, nm) ∈ ncW)) ∧ covers x 3 = true ∧ x.catchType ≠ 0 ∧ Cond.classLink RL x.catchType nm ∈ wALL ∧ Cond.castable E9 nm ∈ excW ∧ ∀ q9 : Nat, V p l e rm_L_belongsByMembersOf s m args below meth c 4 Θ (wP gZ [eX] Qc) rm_L_belongsByMembersOf.cells rm_L_belongsByMembersOf.slots (0 + rm_X11_belongsByMembers.cells) (0 + rm_X11_belongsByMembers.slots) x.handlerPc [some (.ref (tR Θ 0 14)), some (.int a0), some (.int a1), none] [.ref q9] G9 := by
    intro E9 G9 z9
    rcases hx E9 G9 z9 with rfl
    · refine ⟨0, _, _, rfl, (fun z hz => absurd hz (by simp)), by decide, by decide, cl_RL_24, by decide, fun q9 => ?_⟩
      show V p l e rm_L_belongsByMembersOf s m args below meth c 4 Θ (wP gZ [eX] Qc) rm_L_belongsByMembersOf.cells rm_L_belongsByMembersOf.slots (0 + rm_X11_belongsByMembers.cells) (0 + rm_X11_belongsByMembers.slots) 15 [some (.ref (tR Θ 0 14)), some (.int a0), some (.int a1), none] [.ref q9] G9
      refine v_astore_n (i := 3) (q := 16) hC dL_belongsByMembersOf_15 rfl rfl (lvc rfl) (Nat.le_of_ble_eq_true rfl) (Nat.le_of_ble_eq_true rfl) rfl ?_
      refine v_bipush (q := 18) (v := (-101)) hC dL_belongsByMembersOf_16 rfl (by decide) ?_
      refine v_iret hC dL_belongsByMembersOf_18 hr (rfl) ?_ (Nat.le_of_ble_eq_true rfl) (Nat.le_of_ble_eq_true rfl)
      exact Or.inr ⟨_, _, z9, by first | rfl | decide, rfl⟩
  refine v_aload_n (i := 0) (q := 1) hC dL_belongsByMembersOf_0 rfl rfl rfl ?_
  refine v_iload_n (i := 1) (q := 2) hC dL_belongsByMembersOf_1 rfl rfl rfl ?_
  refine v_iload_n (i := 2) (q := 3) hC dL_belongsByMembersOf_2 rfl rfl rfl ?_
  refine v_callTry (q := 6) (rm := rm_X11_belongsByMembers) hC hT hM k_X11_belongsByMembers im_yX11_belongsByMembers se_yX11_belongsByMembers ml_RL_96 dL_belongsByMembersOf_3 rfl rfl rfl rfl rfl rfl (Nat.le_of_ble_eq_true rfl) ⟨Nat.le_of_ble_eq_true rfl, Nat.le_of_ble_eq_true rfl⟩ ⟨Nat.le_of_ble_eq_true rfl, Nat.le_of_ble_eq_true rfl⟩ (fun v9 G9 z9 => ?_) HX
  obtain ⟨x9, rfl⟩ := hv _ _ z9
  dsimp only [Option.toList, List.cons_append, List.nil_append]
  refine v_if_eq (q := 13) (q2 := 9) hC dL_belongsByMembersOf_6 (by decide) rfl (fun c_6 => ?_) (fun c_6 => ?_)
  · refine v_iconst (q := 14) (v := 0) hC dL_belongsByMembersOf_13 rfl (by decide) ?_
    refine v_iret hC dL_belongsByMembersOf_14 hr (rfl) ?_ (Nat.le_of_ble_eq_true rfl) (Nat.le_of_ble_eq_true rfl)
    refine Or.inl ⟨x9, _, z9, ?_, rfl⟩
    first | (rw [gZ, if_pos c_6]) | (rw [gZ, if_neg c_6])
  · refine v_iconst (q := 10) (v := 1) hC dL_belongsByMembersOf_9 rfl (by decide) ?_
    refine v_goto (q := 14) hC dL_belongsByMembersOf_10 (by decide) ?_
    refine v_iret hC dL_belongsByMembersOf_14 hr (rfl) ?_ (Nat.le_of_ble_eq_true rfl) (Nat.le_of_ble_eq_true rfl)
    refine Or.inl ⟨x9, _, z9, ?_, rfl⟩
    first | (rw [gZ, if_pos c_6]) | (rw [gZ, if_neg c_6])
theorem kh_L_belongsByMembersOf : kH yL_belongsByMembersOf cL_belongsByMembersOf 4 (some .int) [(0, 14, 15, 24)] 3 := ⟨cw_yL_belongsByMembersOf, ⟨by decide, by decide⟩, by decide +kernel, in_RL, st_yL_belongsByMembersOf⟩
abbrev rm_L_parentOfOf : Room := { frames := 8, locals := 132, cells := 1, slots := 6 }
set_option maxHeartbeats 4000000 in
set_option maxRecDepth 20000 in
theorem w_L_parentOfOf {l : Launch} (hl : l.stackTraces = false) (Θ : cTH) {Qc : cOut → GS → Prop} (a0 : Int32) (G : GS) (hM : Ct l yX11_parentOf cX11_parentOf 2 (some .int) rm_X11_parentOf Θ [.ref (tR Θ 0 14), .int a0] G Qc) (hv : ∀ r G1, Qc (.inl r) G1 → ∃ x : Int32, r = some (.int x)) (hx : ∀ E G1, Qc (.inr E) G1 → E = eX) : CtH l yL_parentOfOf cL_parentOfOf 3 (some .int) [(0, 5, 6, 24)] rm_L_parentOfOf Θ [.ref (tR Θ 0 14), .int a0] G (wP gI [eX] Qc) := by
  refine cth_of (LS := [some (.ref (tR Θ 0 14)), some (.int a0), none]) hl (by decide +kernel) rfl rfl (Nat.le_of_ble_eq_true rfl) rfl ?_
  intro p e s m args below meth c hC hr hT
  have HX : ∀ E9 G9, Qc (.inr E9) G9 → ∃ (i : Nat) (x : ExceptionTableEntry) (nm : String), (tableOf [(0, 5, 6, 24)])[i]? = some x ∧ (∀ z ∈ (tableOf [(0, 5, 6, 24)]).take i, covers z 2 = false ∨ (z.catchType ≠ 0 ∧ ∃ nm : String, Cond.classLink RL z.catchType nm ∈ wALL ∧ (E9, nm) ∈ ncW)) ∧ covers x 2 = true ∧ x.catchType ≠ 0 ∧ Cond.classLink RL x.catchType nm ∈ wALL ∧ Cond.castable E9 nm ∈ excW ∧ ∀ q9 : Nat, V p l e rm_L_parentOfOf s m args below meth c 3 Θ (wP gI [eX] Qc) rm_L_parentOfOf.cells rm_L_parentOfOf.slots (0 + rm_X11_parentOf.cells) (0 + rm_X11_parentOf.slots) x.handlerPc [some (.ref (tR Θ 0 14)), some (.int a0), none] [.ref q9] G9 := by
    intro E9 G9 z9
    rcases hx E9 G9 z9 with rfl
    · refine ⟨0, _, _, rfl, (fun z hz => absurd hz (by simp)), by decide, by decide, cl_RL_24, by decide, fun q9 => ?_⟩
      show V p l e rm_L_parentOfOf s m args below meth c 3 Θ (wP gI [eX] Qc) rm_L_parentOfOf.cells rm_L_parentOfOf.slots (0 + rm_X11_parentOf.cells) (0 + rm_X11_parentOf.slots) 6 [some (.ref (tR Θ 0 14)), some (.int a0), none] [.ref q9] G9
      refine v_astore_n (i := 2) (q := 7) hC dL_parentOfOf_6 rfl rfl (lvc rfl) (Nat.le_of_ble_eq_true rfl) (Nat.le_of_ble_eq_true rfl) rfl ?_
      refine v_bipush (q := 9) (v := (-101)) hC dL_parentOfOf_7 rfl (by decide) ?_
      refine v_iret hC dL_parentOfOf_9 hr (rfl) ?_ (Nat.le_of_ble_eq_true rfl) (Nat.le_of_ble_eq_true rfl)
      exact Or.inr ⟨_, _, z9, by first | rfl | decide, rfl⟩
  refine v_aload_n (i := 0) (q := 1) hC dL_parentOfOf_0 rfl rfl rfl ?_
  refine v_iload_n (i := 1) (q := 2) hC dL_parentOfOf_1 rfl rfl rfl ?_
  refine v_callTry (q := 5) (rm := rm_X11_parentOf) hC hT hM k_X11_parentOf im_yX11_parentOf se_yX11_parentOf ml_RL_99 dL_parentOfOf_2 rfl rfl rfl rfl rfl rfl (Nat.le_of_ble_eq_true rfl) ⟨Nat.le_of_ble_eq_true rfl, Nat.le_of_ble_eq_true rfl⟩ ⟨Nat.le_of_ble_eq_true rfl, Nat.le_of_ble_eq_true rfl⟩ (fun v9 G9 z9 => ?_) HX
  obtain ⟨x9, rfl⟩ := hv _ _ z9
  dsimp only [Option.toList, List.cons_append, List.nil_append]
  refine v_iret hC dL_parentOfOf_5 hr (rfl) ?_ (Nat.le_of_ble_eq_true rfl) (Nat.le_of_ble_eq_true rfl)
  exact Or.inl ⟨x9, _, z9, rfl, rfl⟩
theorem kh_L_parentOfOf : kH yL_parentOfOf cL_parentOfOf 3 (some .int) [(0, 5, 6, 24)] 2 := ⟨cw_yL_parentOfOf, ⟨by decide, by decide⟩, by decide +kernel, in_RL, st_yL_parentOfOf⟩
abbrev rm_L_ownerOfOf : Room := { frames := 8, locals := 132, cells := 1, slots := 6 }
set_option maxHeartbeats 4000000 in
set_option maxRecDepth 20000 in
theorem w_L_ownerOfOf {l : Launch} (hl : l.stackTraces = false) (Θ : cTH) {Qc : cOut → GS → Prop} (a0 : Int32) (G : GS) (hM : Ct l yX11_ownerOf cX11_ownerOf 2 (some .int) rm_X11_ownerOf Θ [.ref (tR Θ 0 14), .int a0] G Qc) (hv : ∀ r G1, Qc (.inl r) G1 → ∃ x : Int32, r = some (.int x)) (hx : ∀ E G1, Qc (.inr E) G1 → E = eX) : CtH l yL_ownerOfOf cL_ownerOfOf 3 (some .int) [(0, 5, 6, 24)] rm_L_ownerOfOf Θ [.ref (tR Θ 0 14), .int a0] G (wP gI [eX] Qc) := by
  refine cth_of (LS := [some (.ref (tR Θ 0 14)), some (.int a0), none]) hl (by decide +kernel) rfl rfl (Nat.le_of_ble_eq_true rfl) rfl ?_
  intro p e s m args below meth c hC hr hT
  have HX : ∀ E9 G9, Qc (.inr E9) G9 → ∃ (i : Nat) (x : ExceptionTableEntry) (nm : String), (tableOf [(0, 5, 6, 24)])[i]? = some x ∧ (∀ z ∈ (tableOf [(0, 5, 6, 24)]).take i, covers z 2 = false ∨ (z.catchType ≠ 0 ∧ ∃ nm : String, Cond.classLink RL z.catchType nm ∈ wALL ∧ (E9, nm) ∈ ncW)) ∧ covers x 2 = true ∧ x.catchType ≠ 0 ∧ Cond.classLink RL x.catchType nm ∈ wALL ∧ Cond.castable E9 nm ∈ excW ∧ ∀ q9 : Nat, V p l e rm_L_ownerOfOf s m args below meth c 3 Θ (wP gI [eX] Qc) rm_L_ownerOfOf.cells rm_L_ownerOfOf.slots (0 + rm_X11_ownerOf.cells) (0 + rm_X11_ownerOf.slots) x.handlerPc [some (.ref (tR Θ 0 14)), some (.int a0), none] [.ref q9] G9 := by
    intro E9 G9 z9
    rcases hx E9 G9 z9 with rfl
    · refine ⟨0, _, _, rfl, (fun z hz => absurd hz (by simp)), by decide, by decide, cl_RL_24, by decide, fun q9 => ?_⟩
      show V p l e rm_L_ownerOfOf s m args below meth c 3 Θ (wP gI [eX] Qc) rm_L_ownerOfOf.cells rm_L_ownerOfOf.slots (0 + rm_X11_ownerOf.cells) (0 + rm_X11_ownerOf.slots) 6 [some (.ref (tR Θ 0 14)), some (.int a0), none] [.ref q9] G9
      refine v_astore_n (i := 2) (q := 7) hC dL_ownerOfOf_6 rfl rfl (lvc rfl) (Nat.le_of_ble_eq_true rfl) (Nat.le_of_ble_eq_true rfl) rfl ?_
      refine v_bipush (q := 9) (v := (-101)) hC dL_ownerOfOf_7 rfl (by decide) ?_
      refine v_iret hC dL_ownerOfOf_9 hr (rfl) ?_ (Nat.le_of_ble_eq_true rfl) (Nat.le_of_ble_eq_true rfl)
      exact Or.inr ⟨_, _, z9, by first | rfl | decide, rfl⟩
  refine v_aload_n (i := 0) (q := 1) hC dL_ownerOfOf_0 rfl rfl rfl ?_
  refine v_iload_n (i := 1) (q := 2) hC dL_ownerOfOf_1 rfl rfl rfl ?_
  refine v_callTry (q := 5) (rm := rm_X11_ownerOf) hC hT hM k_X11_ownerOf im_yX11_ownerOf se_yX11_ownerOf ml_RL_102 dL_ownerOfOf_2 rfl rfl rfl rfl rfl rfl (Nat.le_of_ble_eq_true rfl) ⟨Nat.le_of_ble_eq_true rfl, Nat.le_of_ble_eq_true rfl⟩ ⟨Nat.le_of_ble_eq_true rfl, Nat.le_of_ble_eq_true rfl⟩ (fun v9 G9 z9 => ?_) HX
  obtain ⟨x9, rfl⟩ := hv _ _ z9
  dsimp only [Option.toList, List.cons_append, List.nil_append]
  refine v_iret hC dL_ownerOfOf_5 hr (rfl) ?_ (Nat.le_of_ble_eq_true rfl) (Nat.le_of_ble_eq_true rfl)
  exact Or.inl ⟨x9, _, z9, rfl, rfl⟩
theorem kh_L_ownerOfOf : kH yL_ownerOfOf cL_ownerOfOf 3 (some .int) [(0, 5, 6, 24)] 2 := ⟨cw_yL_ownerOfOf, ⟨by decide, by decide⟩, by decide +kernel, in_RL, st_yL_ownerOfOf⟩
abbrev rm_L_maskOfOf : Room := { frames := 8, locals := 132, cells := 1, slots := 6 }
set_option maxHeartbeats 4000000 in
set_option maxRecDepth 20000 in
theorem w_L_maskOfOf {l : Launch} (hl : l.stackTraces = false) (Θ : cTH) {Qc : cOut → GS → Prop} (a0 : Int32) (G : GS) (hM : Ct l yX11_maskOf cX11_maskOf 2 (some .int) rm_X11_maskOf Θ [.ref (tR Θ 0 14), .int a0] G Qc) (hv : ∀ r G1, Qc (.inl r) G1 → ∃ x : Int32, r = some (.int x)) (hx : ∀ E G1, Qc (.inr E) G1 → E = eX) : CtH l yL_maskOfOf cL_maskOfOf 3 (some .int) [(0, 5, 6, 24)] rm_L_maskOfOf Θ [.ref (tR Θ 0 14), .int a0] G (wP gI [eX] Qc) := by
  refine cth_of (LS := [some (.ref (tR Θ 0 14)), some (.int a0), none]) hl (by decide +kernel) rfl rfl (Nat.le_of_ble_eq_true rfl) rfl ?_
  intro p e s m args below meth c hC hr hT
  have HX : ∀ E9 G9, Qc (.inr E9) G9 → ∃ (i : Nat) (x : ExceptionTableEntry) (nm : String), (tableOf [(0, 5, 6, 24)])[i]? = some x ∧ (∀ z ∈ (tableOf [(0, 5, 6, 24)]).take i, covers z 2 = false ∨ (z.catchType ≠ 0 ∧ ∃ nm : String, Cond.classLink RL z.catchType nm ∈ wALL ∧ (E9, nm) ∈ ncW)) ∧ covers x 2 = true ∧ x.catchType ≠ 0 ∧ Cond.classLink RL x.catchType nm ∈ wALL ∧ Cond.castable E9 nm ∈ excW ∧ ∀ q9 : Nat, V p l e rm_L_maskOfOf s m args below meth c 3 Θ (wP gI [eX] Qc) rm_L_maskOfOf.cells rm_L_maskOfOf.slots (0 + rm_X11_maskOf.cells) (0 + rm_X11_maskOf.slots) x.handlerPc [some (.ref (tR Θ 0 14)), some (.int a0), none] [.ref q9] G9 := by
    intro E9 G9 z9
    rcases hx E9 G9 z9 with rfl
    · refine ⟨0, _, _, rfl, (fun z hz => absurd hz (by simp)), by decide, by decide, cl_RL_24, by decide, fun q9 => ?_⟩
      show V p l e rm_L_maskOfOf s m args below meth c 3 Θ (wP gI [eX] Qc) rm_L_maskOfOf.cells rm_L_maskOfOf.slots (0 + rm_X11_maskOf.cells) (0 + rm_X11_maskOf.slots) 6 [some (.ref (tR Θ 0 14)), some (.int a0), none] [.ref q9] G9
      refine v_astore_n (i := 2) (q := 7) hC dL_maskOfOf_6 rfl rfl (lvc rfl) (Nat.le_of_ble_eq_true rfl) (Nat.le_of_ble_eq_true rfl) rfl ?_
      refine v_bipush (q := 9) (v := (-101)) hC dL_maskOfOf_7 rfl (by decide) ?_
      refine v_iret hC dL_maskOfOf_9 hr (rfl) ?_ (Nat.le_of_ble_eq_true rfl) (Nat.le_of_ble_eq_true rfl)
      exact Or.inr ⟨_, _, z9, by first | rfl | decide, rfl⟩
  refine v_aload_n (i := 0) (q := 1) hC dL_maskOfOf_0 rfl rfl rfl ?_
  refine v_iload_n (i := 1) (q := 2) hC dL_maskOfOf_1 rfl rfl rfl ?_
  refine v_callTry (q := 5) (rm := rm_X11_maskOf) hC hT hM k_X11_maskOf im_yX11_maskOf se_yX11_maskOf ml_RL_105 dL_maskOfOf_2 rfl rfl rfl rfl rfl rfl (Nat.le_of_ble_eq_true rfl) ⟨Nat.le_of_ble_eq_true rfl, Nat.le_of_ble_eq_true rfl⟩ ⟨Nat.le_of_ble_eq_true rfl, Nat.le_of_ble_eq_true rfl⟩ (fun v9 G9 z9 => ?_) HX
  obtain ⟨x9, rfl⟩ := hv _ _ z9
  dsimp only [Option.toList, List.cons_append, List.nil_append]
  refine v_iret hC dL_maskOfOf_5 hr (rfl) ?_ (Nat.le_of_ble_eq_true rfl) (Nat.le_of_ble_eq_true rfl)
  exact Or.inl ⟨x9, _, z9, rfl, rfl⟩
theorem kh_L_maskOfOf : kH yL_maskOfOf cL_maskOfOf 3 (some .int) [(0, 5, 6, 24)] 2 := ⟨cw_yL_maskOfOf, ⟨by decide, by decide⟩, by decide +kernel, in_RL, st_yL_maskOfOf⟩
abbrev rm_L_isInheritingOf : Room := { frames := 8, locals := 132, cells := 1, slots := 6 }
set_option maxHeartbeats 4000000 in
set_option maxRecDepth 20000 in
theorem w_L_isInheritingOf {l : Launch} (hl : l.stackTraces = false) (Θ : cTH) {Qc : cOut → GS → Prop} (a0 : Int32) (G : GS) (hM : Ct l yX11_isInheriting cX11_isInheriting 2 (some .boolean) rm_X11_isInheriting Θ [.ref (tR Θ 0 14), .int a0] G Qc) (hv : ∀ r G1, Qc (.inl r) G1 → ∃ x : Int32, r = some (.int x)) (hx : ∀ E G1, Qc (.inr E) G1 → E = eX) : CtH l yL_isInheritingOf cL_isInheritingOf 3 (some .int) [(0, 13, 14, 24)] rm_L_isInheritingOf Θ [.ref (tR Θ 0 14), .int a0] G (wP gZ [eX] Qc) := by
  refine cth_of (LS := [some (.ref (tR Θ 0 14)), some (.int a0), none]) hl (by decide +kernel) rfl rfl (Nat.le_of_ble_eq_true rfl) rfl ?_
  intro p e s m args below meth c hC hr hT
  have HX : ∀ E9 G9, Qc (.inr E9) G9 → ∃ (i : Nat) (x : ExceptionTableEntry) (nm : String), (tableOf [(0, 13, 14, 24)])[i]? = some x ∧ (∀ z ∈ (tableOf [(0, 13, 14, 24)]).take i, covers z 2 = false ∨ (z.catchType ≠ 0 ∧ ∃ nm : String, Cond.classLink RL z.catchType nm ∈ wALL ∧ (E9, nm) ∈ ncW)) ∧ covers x 2 = true ∧ x.catchType ≠ 0 ∧ Cond.classLink RL x.catchType nm ∈ wALL ∧ Cond.castable E9 nm ∈ excW ∧ ∀ q9 : Nat, V p l e rm_L_isInheritingOf s m args below meth c 3 Θ (wP gZ [eX] Qc) rm_L_isInheritingOf.cells rm_L_isInheritingOf.slots (0 + rm_X11_isInheriting.cells) (0 + rm_X11_isInheriting.slots) x.handlerPc [some (.ref (tR Θ 0 14)), some (.int a0), none] [.ref q9] G9 := by
    intro E9 G9 z9
    rcases hx E9 G9 z9 with rfl
    · refine ⟨0, _, _, rfl, (fun z hz => absurd hz (by simp)), by decide, by decide, cl_RL_24, by decide, fun q9 => ?_⟩
      show V p l e rm_L_isInheritingOf s m args below meth c 3 Θ (wP gZ [eX] Qc) rm_L_isInheritingOf.cells rm_L_isInheritingOf.slots (0 + rm_X11_isInheriting.cells) (0 + rm_X11_isInheriting.slots) 14 [some (.ref (tR Θ 0 14)), some (.int a0), none] [.ref q9] G9
      refine v_astore_n (i := 2) (q := 15) hC dL_isInheritingOf_14 rfl rfl (lvc rfl) (Nat.le_of_ble_eq_true rfl) (Nat.le_of_ble_eq_true rfl) rfl ?_
      refine v_bipush (q := 17) (v := (-101)) hC dL_isInheritingOf_15 rfl (by decide) ?_
      refine v_iret hC dL_isInheritingOf_17 hr (rfl) ?_ (Nat.le_of_ble_eq_true rfl) (Nat.le_of_ble_eq_true rfl)
      exact Or.inr ⟨_, _, z9, by first | rfl | decide, rfl⟩
  refine v_aload_n (i := 0) (q := 1) hC dL_isInheritingOf_0 rfl rfl rfl ?_
  refine v_iload_n (i := 1) (q := 2) hC dL_isInheritingOf_1 rfl rfl rfl ?_
  refine v_callTry (q := 5) (rm := rm_X11_isInheriting) hC hT hM k_X11_isInheriting im_yX11_isInheriting se_yX11_isInheriting ml_RL_108 dL_isInheritingOf_2 rfl rfl rfl rfl rfl rfl (Nat.le_of_ble_eq_true rfl) ⟨Nat.le_of_ble_eq_true rfl, Nat.le_of_ble_eq_true rfl⟩ ⟨Nat.le_of_ble_eq_true rfl, Nat.le_of_ble_eq_true rfl⟩ (fun v9 G9 z9 => ?_) HX
  obtain ⟨x9, rfl⟩ := hv _ _ z9
  dsimp only [Option.toList, List.cons_append, List.nil_append]
  refine v_if_eq (q := 12) (q2 := 8) hC dL_isInheritingOf_5 (by decide) rfl (fun c_5 => ?_) (fun c_5 => ?_)
  · refine v_iconst (q := 13) (v := 0) hC dL_isInheritingOf_12 rfl (by decide) ?_
    refine v_iret hC dL_isInheritingOf_13 hr (rfl) ?_ (Nat.le_of_ble_eq_true rfl) (Nat.le_of_ble_eq_true rfl)
    refine Or.inl ⟨x9, _, z9, ?_, rfl⟩
    first | (rw [gZ, if_pos c_5]) | (rw [gZ, if_neg c_5])
  · refine v_iconst (q := 9) (v := 1) hC dL_isInheritingOf_8 rfl (by decide) ?_
    refine v_goto (q := 13) hC dL_isInheritingOf_9 (by decide) ?_
    refine v_iret hC dL_isInheritingOf_13 hr (rfl) ?_ (Nat.le_of_ble_eq_true rfl) (Nat.le_of_ble_eq_true rfl)
    refine Or.inl ⟨x9, _, z9, ?_, rfl⟩
    first | (rw [gZ, if_pos c_5]) | (rw [gZ, if_neg c_5])
theorem kh_L_isInheritingOf : kH yL_isInheritingOf cL_isInheritingOf 3 (some .int) [(0, 13, 14, 24)] 2 := ⟨cw_yL_isInheritingOf, ⟨by decide, by decide⟩, by decide +kernel, in_RL, st_yL_isInheritingOf⟩
abbrev rm_L_belowOf : Room := { frames := 8, locals := 132, cells := 1, slots := 6 }
set_option maxHeartbeats 4000000 in
set_option maxRecDepth 20000 in
theorem w_L_belowOf {l : Launch} (hl : l.stackTraces = false) (Θ : cTH) {Qc : cOut → GS → Prop} (a0 : Int32) (G : GS) (hM : Ct l yX11_below cX11_below 2 (some .int) rm_X11_below Θ [.ref (tR Θ 0 14), .int a0] G Qc) (hv : ∀ r G1, Qc (.inl r) G1 → ∃ x : Int32, r = some (.int x)) (hx : ∀ E G1, Qc (.inr E) G1 → E = eX) : CtH l yL_belowOf cL_belowOf 3 (some .int) [(0, 5, 6, 24)] rm_L_belowOf Θ [.ref (tR Θ 0 14), .int a0] G (wP gI [eX] Qc) := by
  refine cth_of (LS := [some (.ref (tR Θ 0 14)), some (.int a0), none]) hl (by decide +kernel) rfl rfl (Nat.le_of_ble_eq_true rfl) rfl ?_
  intro p e s m args below meth c hC hr hT
  have HX : ∀ E9 G9, Qc (.inr E9) G9 → ∃ (i : Nat) (x : ExceptionTableEntry) (nm : String), (tableOf [(0, 5, 6, 24)])[i]? = some x ∧ (∀ z ∈ (tableOf [(0, 5, 6, 24)]).take i, covers z 2 = false ∨ (z.catchType ≠ 0 ∧ ∃ nm : String, Cond.classLink RL z.catchType nm ∈ wALL ∧ (E9, nm) ∈ ncW)) ∧ covers x 2 = true ∧ x.catchType ≠ 0 ∧ Cond.classLink RL x.catchType nm ∈ wALL ∧ Cond.castable E9 nm ∈ excW ∧ ∀ q9 : Nat, V p l e rm_L_belowOf s m args below meth c 3 Θ (wP gI [eX] Qc) rm_L_belowOf.cells rm_L_belowOf.slots (0 + rm_X11_below.cells) (0 + rm_X11_below.slots) x.handlerPc [some (.ref (tR Θ 0 14)), some (.int a0), none] [.ref q9] G9 := by
    intro E9 G9 z9
    rcases hx E9 G9 z9 with rfl
    · refine ⟨0, _, _, rfl, (fun z hz => absurd hz (by simp)), by decide, by decide, cl_RL_24, by decide, fun q9 => ?_⟩
      show V p l e rm_L_belowOf s m args below meth c 3 Θ (wP gI [eX] Qc) rm_L_belowOf.cells rm_L_belowOf.slots (0 + rm_X11_below.cells) (0 + rm_X11_below.slots) 6 [some (.ref (tR Θ 0 14)), some (.int a0), none] [.ref q9] G9
      refine v_astore_n (i := 2) (q := 7) hC dL_belowOf_6 rfl rfl (lvc rfl) (Nat.le_of_ble_eq_true rfl) (Nat.le_of_ble_eq_true rfl) rfl ?_
      refine v_bipush (q := 9) (v := (-101)) hC dL_belowOf_7 rfl (by decide) ?_
      refine v_iret hC dL_belowOf_9 hr (rfl) ?_ (Nat.le_of_ble_eq_true rfl) (Nat.le_of_ble_eq_true rfl)
      exact Or.inr ⟨_, _, z9, by first | rfl | decide, rfl⟩
  refine v_aload_n (i := 0) (q := 1) hC dL_belowOf_0 rfl rfl rfl ?_
  refine v_iload_n (i := 1) (q := 2) hC dL_belowOf_1 rfl rfl rfl ?_
  refine v_callTry (q := 5) (rm := rm_X11_below) hC hT hM k_X11_below im_yX11_below se_yX11_below ml_RL_112 dL_belowOf_2 rfl rfl rfl rfl rfl rfl (Nat.le_of_ble_eq_true rfl) ⟨Nat.le_of_ble_eq_true rfl, Nat.le_of_ble_eq_true rfl⟩ ⟨Nat.le_of_ble_eq_true rfl, Nat.le_of_ble_eq_true rfl⟩ (fun v9 G9 z9 => ?_) HX
  obtain ⟨x9, rfl⟩ := hv _ _ z9
  dsimp only [Option.toList, List.cons_append, List.nil_append]
  refine v_iret hC dL_belowOf_5 hr (rfl) ?_ (Nat.le_of_ble_eq_true rfl) (Nat.le_of_ble_eq_true rfl)
  exact Or.inl ⟨x9, _, z9, rfl, rfl⟩
theorem kh_L_belowOf : kH yL_belowOf cL_belowOf 3 (some .int) [(0, 5, 6, 24)] 2 := ⟨cw_yL_belowOf, ⟨by decide, by decide⟩, by decide +kernel, in_RL, st_yL_belowOf⟩
abbrev rm_L_entriesOfOf : Room := { frames := 8, locals := 132, cells := 1, slots := 6 }
set_option maxHeartbeats 4000000 in
set_option maxRecDepth 20000 in
theorem w_L_entriesOfOf {l : Launch} (hl : l.stackTraces = false) (Θ : cTH) {Qc : cOut → GS → Prop} (a0 : Int32) (G : GS) (hM : Ct l yX11_entriesOf cX11_entriesOf 2 (some .int) rm_X11_entriesOf Θ [.ref (tR Θ 0 14), .int a0] G Qc) (hv : ∀ r G1, Qc (.inl r) G1 → ∃ x : Int32, r = some (.int x)) (hx : ∀ E G1, Qc (.inr E) G1 → E = eX) : CtH l yL_entriesOfOf cL_entriesOfOf 3 (some .int) [(0, 5, 6, 24)] rm_L_entriesOfOf Θ [.ref (tR Θ 0 14), .int a0] G (wP gI [eX] Qc) := by
  refine cth_of (LS := [some (.ref (tR Θ 0 14)), some (.int a0), none]) hl (by decide +kernel) rfl rfl (Nat.le_of_ble_eq_true rfl) rfl ?_
  intro p e s m args below meth c hC hr hT
  have HX : ∀ E9 G9, Qc (.inr E9) G9 → ∃ (i : Nat) (x : ExceptionTableEntry) (nm : String), (tableOf [(0, 5, 6, 24)])[i]? = some x ∧ (∀ z ∈ (tableOf [(0, 5, 6, 24)]).take i, covers z 2 = false ∨ (z.catchType ≠ 0 ∧ ∃ nm : String, Cond.classLink RL z.catchType nm ∈ wALL ∧ (E9, nm) ∈ ncW)) ∧ covers x 2 = true ∧ x.catchType ≠ 0 ∧ Cond.classLink RL x.catchType nm ∈ wALL ∧ Cond.castable E9 nm ∈ excW ∧ ∀ q9 : Nat, V p l e rm_L_entriesOfOf s m args below meth c 3 Θ (wP gI [eX] Qc) rm_L_entriesOfOf.cells rm_L_entriesOfOf.slots (0 + rm_X11_entriesOf.cells) (0 + rm_X11_entriesOf.slots) x.handlerPc [some (.ref (tR Θ 0 14)), some (.int a0), none] [.ref q9] G9 := by
    intro E9 G9 z9
    rcases hx E9 G9 z9 with rfl
    · refine ⟨0, _, _, rfl, (fun z hz => absurd hz (by simp)), by decide, by decide, cl_RL_24, by decide, fun q9 => ?_⟩
      show V p l e rm_L_entriesOfOf s m args below meth c 3 Θ (wP gI [eX] Qc) rm_L_entriesOfOf.cells rm_L_entriesOfOf.slots (0 + rm_X11_entriesOf.cells) (0 + rm_X11_entriesOf.slots) 6 [some (.ref (tR Θ 0 14)), some (.int a0), none] [.ref q9] G9
      refine v_astore_n (i := 2) (q := 7) hC dL_entriesOfOf_6 rfl rfl (lvc rfl) (Nat.le_of_ble_eq_true rfl) (Nat.le_of_ble_eq_true rfl) rfl ?_
      refine v_bipush (q := 9) (v := (-101)) hC dL_entriesOfOf_7 rfl (by decide) ?_
      refine v_iret hC dL_entriesOfOf_9 hr (rfl) ?_ (Nat.le_of_ble_eq_true rfl) (Nat.le_of_ble_eq_true rfl)
      exact Or.inr ⟨_, _, z9, by first | rfl | decide, rfl⟩
  refine v_aload_n (i := 0) (q := 1) hC dL_entriesOfOf_0 rfl rfl rfl ?_
  refine v_iload_n (i := 1) (q := 2) hC dL_entriesOfOf_1 rfl rfl rfl ?_
  refine v_callTry (q := 5) (rm := rm_X11_entriesOf) hC hT hM k_X11_entriesOf im_yX11_entriesOf se_yX11_entriesOf ml_RL_115 dL_entriesOfOf_2 rfl rfl rfl rfl rfl rfl (Nat.le_of_ble_eq_true rfl) ⟨Nat.le_of_ble_eq_true rfl, Nat.le_of_ble_eq_true rfl⟩ ⟨Nat.le_of_ble_eq_true rfl, Nat.le_of_ble_eq_true rfl⟩ (fun v9 G9 z9 => ?_) HX
  obtain ⟨x9, rfl⟩ := hv _ _ z9
  dsimp only [Option.toList, List.cons_append, List.nil_append]
  refine v_iret hC dL_entriesOfOf_5 hr (rfl) ?_ (Nat.le_of_ble_eq_true rfl) (Nat.le_of_ble_eq_true rfl)
  exact Or.inl ⟨x9, _, z9, rfl, rfl⟩
theorem kh_L_entriesOfOf : kH yL_entriesOfOf cL_entriesOfOf 3 (some .int) [(0, 5, 6, 24)] 2 := ⟨cw_yL_entriesOfOf, ⟨by decide, by decide⟩, by decide +kernel, in_RL, st_yL_entriesOfOf⟩
abbrev rm_L_isAllowingOf : Room := { frames := 9, locals := 155, cells := 2, slots := 12 }
set_option maxHeartbeats 4000000 in
set_option maxRecDepth 20000 in
theorem w_L_isAllowingOf {l : Launch} (hl : l.stackTraces = false) (Θ : cTH) {Qc : cOut → GS → Prop} (a0 a1 : Int32) (G : GS) (hM : Ct l yX11_isAllowing cX11_isAllowing 3 (some .boolean) rm_X11_isAllowing Θ [.ref (tR Θ 0 14), .int a0, .int a1] G Qc) (hv : ∀ r G1, Qc (.inl r) G1 → ∃ x : Int32, r = some (.int x)) (hx : ∀ E G1, Qc (.inr E) G1 → E = eX) : CtH l yL_isAllowingOf cL_isAllowingOf 4 (some .int) [(0, 14, 15, 24)] rm_L_isAllowingOf Θ [.ref (tR Θ 0 14), .int a0, .int a1] G (wP gZ [eX] Qc) := by
  refine cth_of (LS := [some (.ref (tR Θ 0 14)), some (.int a0), some (.int a1), none]) hl (by decide +kernel) rfl rfl (Nat.le_of_ble_eq_true rfl) rfl ?_
  intro p e s m args below meth c hC hr hT
  have HX : ∀ E9 G9, Qc (.inr E9) G9 → ∃ (i : Nat) (x : ExceptionTableEntry) (nm : String), (tableOf [(0, 14, 15, 24)])[i]? = some x ∧ (∀ z ∈ (tableOf [(0, 14, 15, 24)]).take i, covers z 3 = false ∨ (z.catchType ≠ 0 ∧ ∃ nm : String, Cond.classLink RL z.catchType nm ∈ wALL ∧ (E9, nm) ∈ ncW)) ∧ covers x 3 = true ∧ x.catchType ≠ 0 ∧ Cond.classLink RL x.catchType nm ∈ wALL ∧ Cond.castable E9 nm ∈ excW ∧ ∀ q9 : Nat, V p l e rm_L_isAllowingOf s m args below meth c 4 Θ (wP gZ [eX] Qc) rm_L_isAllowingOf.cells rm_L_isAllowingOf.slots (0 + rm_X11_isAllowing.cells) (0 + rm_X11_isAllowing.slots) x.handlerPc [some (.ref (tR Θ 0 14)), some (.int a0), some (.int a1), none] [.ref q9] G9 := by
    intro E9 G9 z9
    rcases hx E9 G9 z9 with rfl
    · refine ⟨0, _, _, rfl, (fun z hz => absurd hz (by simp)), by decide, by decide, cl_RL_24, by decide, fun q9 => ?_⟩
      show V p l e rm_L_isAllowingOf s m args below meth c 4 Θ (wP gZ [eX] Qc) rm_L_isAllowingOf.cells rm_L_isAllowingOf.slots (0 + rm_X11_isAllowing.cells) (0 + rm_X11_isAllowing.slots) 15 [some (.ref (tR Θ 0 14)), some (.int a0), some (.int a1), none] [.ref q9] G9
      refine v_astore_n (i := 3) (q := 16) hC dL_isAllowingOf_15 rfl rfl (lvc rfl) (Nat.le_of_ble_eq_true rfl) (Nat.le_of_ble_eq_true rfl) rfl ?_
      refine v_bipush (q := 18) (v := (-101)) hC dL_isAllowingOf_16 rfl (by decide) ?_
      refine v_iret hC dL_isAllowingOf_18 hr (rfl) ?_ (Nat.le_of_ble_eq_true rfl) (Nat.le_of_ble_eq_true rfl)
      exact Or.inr ⟨_, _, z9, by first | rfl | decide, rfl⟩
  refine v_aload_n (i := 0) (q := 1) hC dL_isAllowingOf_0 rfl rfl rfl ?_
  refine v_iload_n (i := 1) (q := 2) hC dL_isAllowingOf_1 rfl rfl rfl ?_
  refine v_iload_n (i := 2) (q := 3) hC dL_isAllowingOf_2 rfl rfl rfl ?_
  refine v_callTry (q := 6) (rm := rm_X11_isAllowing) hC hT hM k_X11_isAllowing im_yX11_isAllowing se_yX11_isAllowing ml_RL_118 dL_isAllowingOf_3 rfl rfl rfl rfl rfl rfl (Nat.le_of_ble_eq_true rfl) ⟨Nat.le_of_ble_eq_true rfl, Nat.le_of_ble_eq_true rfl⟩ ⟨Nat.le_of_ble_eq_true rfl, Nat.le_of_ble_eq_true rfl⟩ (fun v9 G9 z9 => ?_) HX
  obtain ⟨x9, rfl⟩ := hv _ _ z9
  dsimp only [Option.toList, List.cons_append, List.nil_append]
  refine v_if_eq (q := 13) (q2 := 9) hC dL_isAllowingOf_6 (by decide) rfl (fun c_6 => ?_) (fun c_6 => ?_)
  · refine v_iconst (q := 14) (v := 0) hC dL_isAllowingOf_13 rfl (by decide) ?_
    refine v_iret hC dL_isAllowingOf_14 hr (rfl) ?_ (Nat.le_of_ble_eq_true rfl) (Nat.le_of_ble_eq_true rfl)
    refine Or.inl ⟨x9, _, z9, ?_, rfl⟩
    first | (rw [gZ, if_pos c_6]) | (rw [gZ, if_neg c_6])
  · refine v_iconst (q := 10) (v := 1) hC dL_isAllowingOf_9 rfl (by decide) ?_
    refine v_goto (q := 14) hC dL_isAllowingOf_10 (by decide) ?_
    refine v_iret hC dL_isAllowingOf_14 hr (rfl) ?_ (Nat.le_of_ble_eq_true rfl) (Nat.le_of_ble_eq_true rfl)
    refine Or.inl ⟨x9, _, z9, ?_, rfl⟩
    first | (rw [gZ, if_pos c_6]) | (rw [gZ, if_neg c_6])
theorem kh_L_isAllowingOf : kH yL_isAllowingOf cL_isAllowingOf 4 (some .int) [(0, 14, 15, 24)] 3 := ⟨cw_yL_isAllowingOf, ⟨by decide, by decide⟩, by decide +kernel, in_RL, st_yL_isAllowingOf⟩
abbrev rm_L_rightsOfEntryOf : Room := { frames := 9, locals := 155, cells := 2, slots := 12 }
set_option maxHeartbeats 4000000 in
set_option maxRecDepth 20000 in
theorem w_L_rightsOfEntryOf {l : Launch} (hl : l.stackTraces = false) (Θ : cTH) {Qc : cOut → GS → Prop} (a0 a1 : Int32) (G : GS) (hM : Ct l yX11_rightsOfEntry cX11_rightsOfEntry 3 (some .int) rm_X11_rightsOfEntry Θ [.ref (tR Θ 0 14), .int a0, .int a1] G Qc) (hv : ∀ r G1, Qc (.inl r) G1 → ∃ x : Int32, r = some (.int x)) (hx : ∀ E G1, Qc (.inr E) G1 → E = eX) : CtH l yL_rightsOfEntryOf cL_rightsOfEntryOf 4 (some .int) [(0, 6, 7, 24)] rm_L_rightsOfEntryOf Θ [.ref (tR Θ 0 14), .int a0, .int a1] G (wP gI [eX] Qc) := by
  refine cth_of (LS := [some (.ref (tR Θ 0 14)), some (.int a0), some (.int a1), none]) hl (by decide +kernel) rfl rfl (Nat.le_of_ble_eq_true rfl) rfl ?_
  intro p e s m args below meth c hC hr hT
  have HX : ∀ E9 G9, Qc (.inr E9) G9 → ∃ (i : Nat) (x : ExceptionTableEntry) (nm : String), (tableOf [(0, 6, 7, 24)])[i]? = some x ∧ (∀ z ∈ (tableOf [(0, 6, 7, 24)]).take i, covers z 3 = false ∨ (z.catchType ≠ 0 ∧ ∃ nm : String, Cond.classLink RL z.catchType nm ∈ wALL ∧ (E9, nm) ∈ ncW)) ∧ covers x 3 = true ∧ x.catchType ≠ 0 ∧ Cond.classLink RL x.catchType nm ∈ wALL ∧ Cond.castable E9 nm ∈ excW ∧ ∀ q9 : Nat, V p l e rm_L_rightsOfEntryOf s m args below meth c 4 Θ (wP gI [eX] Qc) rm_L_rightsOfEntryOf.cells rm_L_rightsOfEntryOf.slots (0 + rm_X11_rightsOfEntry.cells) (0 + rm_X11_rightsOfEntry.slots) x.handlerPc [some (.ref (tR Θ 0 14)), some (.int a0), some (.int a1), none] [.ref q9] G9 := by
    intro E9 G9 z9
    rcases hx E9 G9 z9 with rfl
    · refine ⟨0, _, _, rfl, (fun z hz => absurd hz (by simp)), by decide, by decide, cl_RL_24, by decide, fun q9 => ?_⟩
      show V p l e rm_L_rightsOfEntryOf s m args below meth c 4 Θ (wP gI [eX] Qc) rm_L_rightsOfEntryOf.cells rm_L_rightsOfEntryOf.slots (0 + rm_X11_rightsOfEntry.cells) (0 + rm_X11_rightsOfEntry.slots) 7 [some (.ref (tR Θ 0 14)), some (.int a0), some (.int a1), none] [.ref q9] G9
      refine v_astore_n (i := 3) (q := 8) hC dL_rightsOfEntryOf_7 rfl rfl (lvc rfl) (Nat.le_of_ble_eq_true rfl) (Nat.le_of_ble_eq_true rfl) rfl ?_
      refine v_bipush (q := 10) (v := (-101)) hC dL_rightsOfEntryOf_8 rfl (by decide) ?_
      refine v_iret hC dL_rightsOfEntryOf_10 hr (rfl) ?_ (Nat.le_of_ble_eq_true rfl) (Nat.le_of_ble_eq_true rfl)
      exact Or.inr ⟨_, _, z9, by first | rfl | decide, rfl⟩
  refine v_aload_n (i := 0) (q := 1) hC dL_rightsOfEntryOf_0 rfl rfl rfl ?_
  refine v_iload_n (i := 1) (q := 2) hC dL_rightsOfEntryOf_1 rfl rfl rfl ?_
  refine v_iload_n (i := 2) (q := 3) hC dL_rightsOfEntryOf_2 rfl rfl rfl ?_
  refine v_callTry (q := 6) (rm := rm_X11_rightsOfEntry) hC hT hM k_X11_rightsOfEntry im_yX11_rightsOfEntry se_yX11_rightsOfEntry ml_RL_121 dL_rightsOfEntryOf_3 rfl rfl rfl rfl rfl rfl (Nat.le_of_ble_eq_true rfl) ⟨Nat.le_of_ble_eq_true rfl, Nat.le_of_ble_eq_true rfl⟩ ⟨Nat.le_of_ble_eq_true rfl, Nat.le_of_ble_eq_true rfl⟩ (fun v9 G9 z9 => ?_) HX
  obtain ⟨x9, rfl⟩ := hv _ _ z9
  dsimp only [Option.toList, List.cons_append, List.nil_append]
  refine v_iret hC dL_rightsOfEntryOf_6 hr (rfl) ?_ (Nat.le_of_ble_eq_true rfl) (Nat.le_of_ble_eq_true rfl)
  exact Or.inl ⟨x9, _, z9, rfl, rfl⟩
theorem kh_L_rightsOfEntryOf : kH yL_rightsOfEntryOf cL_rightsOfEntryOf 4 (some .int) [(0, 6, 7, 24)] 3 := ⟨cw_yL_rightsOfEntryOf, ⟨by decide, by decide⟩, by decide +kernel, in_RL, st_yL_rightsOfEntryOf⟩
abbrev rm_L_userOfEntryOf : Room := { frames := 9, locals := 156, cells := 2, slots := 12 }
set_option maxHeartbeats 4000000 in
set_option maxRecDepth 20000 in
theorem w_L_userOfEntryOf {l : Launch} (hl : l.stackTraces = false) (Θ : cTH) {Qc : cOut → GS → Prop} (a0 a1 : Int32) (G : GS) (hM : Ct l yX11_userOfEntry cX11_userOfEntry 4 (some .int) rm_X11_userOfEntry Θ [.ref (tR Θ 0 14), .int a0, .int a1] G Qc) (hv : ∀ r G1, Qc (.inl r) G1 → ∃ x : Int32, r = some (.int x)) (hx : ∀ E G1, Qc (.inr E) G1 → E = eX) : CtH l yL_userOfEntryOf cL_userOfEntryOf 4 (some .int) [(0, 6, 7, 24)] rm_L_userOfEntryOf Θ [.ref (tR Θ 0 14), .int a0, .int a1] G (wP gI [eX] Qc) := by
  refine cth_of (LS := [some (.ref (tR Θ 0 14)), some (.int a0), some (.int a1), none]) hl (by decide +kernel) rfl rfl (Nat.le_of_ble_eq_true rfl) rfl ?_
  intro p e s m args below meth c hC hr hT
  have HX : ∀ E9 G9, Qc (.inr E9) G9 → ∃ (i : Nat) (x : ExceptionTableEntry) (nm : String), (tableOf [(0, 6, 7, 24)])[i]? = some x ∧ (∀ z ∈ (tableOf [(0, 6, 7, 24)]).take i, covers z 3 = false ∨ (z.catchType ≠ 0 ∧ ∃ nm : String, Cond.classLink RL z.catchType nm ∈ wALL ∧ (E9, nm) ∈ ncW)) ∧ covers x 3 = true ∧ x.catchType ≠ 0 ∧ Cond.classLink RL x.catchType nm ∈ wALL ∧ Cond.castable E9 nm ∈ excW ∧ ∀ q9 : Nat, V p l e rm_L_userOfEntryOf s m args below meth c 4 Θ (wP gI [eX] Qc) rm_L_userOfEntryOf.cells rm_L_userOfEntryOf.slots (0 + rm_X11_userOfEntry.cells) (0 + rm_X11_userOfEntry.slots) x.handlerPc [some (.ref (tR Θ 0 14)), some (.int a0), some (.int a1), none] [.ref q9] G9 := by
    intro E9 G9 z9
    rcases hx E9 G9 z9 with rfl
    · refine ⟨0, _, _, rfl, (fun z hz => absurd hz (by simp)), by decide, by decide, cl_RL_24, by decide, fun q9 => ?_⟩
      show V p l e rm_L_userOfEntryOf s m args below meth c 4 Θ (wP gI [eX] Qc) rm_L_userOfEntryOf.cells rm_L_userOfEntryOf.slots (0 + rm_X11_userOfEntry.cells) (0 + rm_X11_userOfEntry.slots) 7 [some (.ref (tR Θ 0 14)), some (.int a0), some (.int a1), none] [.ref q9] G9
      refine v_astore_n (i := 3) (q := 8) hC dL_userOfEntryOf_7 rfl rfl (lvc rfl) (Nat.le_of_ble_eq_true rfl) (Nat.le_of_ble_eq_true rfl) rfl ?_
      refine v_bipush (q := 10) (v := (-101)) hC dL_userOfEntryOf_8 rfl (by decide) ?_
      refine v_iret hC dL_userOfEntryOf_10 hr (rfl) ?_ (Nat.le_of_ble_eq_true rfl) (Nat.le_of_ble_eq_true rfl)
      exact Or.inr ⟨_, _, z9, by first | rfl | decide, rfl⟩
  refine v_aload_n (i := 0) (q := 1) hC dL_userOfEntryOf_0 rfl rfl rfl ?_
  refine v_iload_n (i := 1) (q := 2) hC dL_userOfEntryOf_1 rfl rfl rfl ?_
  refine v_iload_n (i := 2) (q := 3) hC dL_userOfEntryOf_2 rfl rfl rfl ?_
  refine v_callTry (q := 6) (rm := rm_X11_userOfEntry) hC hT hM k_X11_userOfEntry im_yX11_userOfEntry se_yX11_userOfEntry ml_RL_124 dL_userOfEntryOf_3 rfl rfl rfl rfl rfl rfl (Nat.le_of_ble_eq_true rfl) ⟨Nat.le_of_ble_eq_true rfl, Nat.le_of_ble_eq_true rfl⟩ ⟨Nat.le_of_ble_eq_true rfl, Nat.le_of_ble_eq_true rfl⟩ (fun v9 G9 z9 => ?_) HX
  obtain ⟨x9, rfl⟩ := hv _ _ z9
  dsimp only [Option.toList, List.cons_append, List.nil_append]
  refine v_iret hC dL_userOfEntryOf_6 hr (rfl) ?_ (Nat.le_of_ble_eq_true rfl) (Nat.le_of_ble_eq_true rfl)
  exact Or.inl ⟨x9, _, z9, rfl, rfl⟩
theorem kh_L_userOfEntryOf : kH yL_userOfEntryOf cL_userOfEntryOf 4 (some .int) [(0, 6, 7, 24)] 3 := ⟨cw_yL_userOfEntryOf, ⟨by decide, by decide⟩, by decide +kernel, in_RL, st_yL_userOfEntryOf⟩
abbrev rm_L_groupOfEntryOf : Room := { frames := 9, locals := 156, cells := 2, slots := 12 }
set_option maxHeartbeats 4000000 in
set_option maxRecDepth 20000 in
theorem w_L_groupOfEntryOf {l : Launch} (hl : l.stackTraces = false) (Θ : cTH) {Qc : cOut → GS → Prop} (a0 a1 : Int32) (G : GS) (hM : Ct l yX11_groupOfEntry cX11_groupOfEntry 4 (some .int) rm_X11_groupOfEntry Θ [.ref (tR Θ 0 14), .int a0, .int a1] G Qc) (hv : ∀ r G1, Qc (.inl r) G1 → ∃ x : Int32, r = some (.int x)) (hx : ∀ E G1, Qc (.inr E) G1 → E = eX) : CtH l yL_groupOfEntryOf cL_groupOfEntryOf 4 (some .int) [(0, 6, 7, 24)] rm_L_groupOfEntryOf Θ [.ref (tR Θ 0 14), .int a0, .int a1] G (wP gI [eX] Qc) := by
  refine cth_of (LS := [some (.ref (tR Θ 0 14)), some (.int a0), some (.int a1), none]) hl (by decide +kernel) rfl rfl (Nat.le_of_ble_eq_true rfl) rfl ?_
  intro p e s m args below meth c hC hr hT
  have HX : ∀ E9 G9, Qc (.inr E9) G9 → ∃ (i : Nat) (x : ExceptionTableEntry) (nm : String), (tableOf [(0, 6, 7, 24)])[i]? = some x ∧ (∀ z ∈ (tableOf [(0, 6, 7, 24)]).take i, covers z 3 = false ∨ (z.catchType ≠ 0 ∧ ∃ nm : String, Cond.classLink RL z.catchType nm ∈ wALL ∧ (E9, nm) ∈ ncW)) ∧ covers x 3 = true ∧ x.catchType ≠ 0 ∧ Cond.classLink RL x.catchType nm ∈ wALL ∧ Cond.castable E9 nm ∈ excW ∧ ∀ q9 : Nat, V p l e rm_L_groupOfEntryOf s m args below meth c 4 Θ (wP gI [eX] Qc) rm_L_groupOfEntryOf.cells rm_L_groupOfEntryOf.slots (0 + rm_X11_groupOfEntry.cells) (0 + rm_X11_groupOfEntry.slots) x.handlerPc [some (.ref (tR Θ 0 14)), some (.int a0), some (.int a1), none] [.ref q9] G9 := by
    intro E9 G9 z9
    rcases hx E9 G9 z9 with rfl
    · refine ⟨0, _, _, rfl, (fun z hz => absurd hz (by simp)), by decide, by decide, cl_RL_24, by decide, fun q9 => ?_⟩
      show V p l e rm_L_groupOfEntryOf s m args below meth c 4 Θ (wP gI [eX] Qc) rm_L_groupOfEntryOf.cells rm_L_groupOfEntryOf.slots (0 + rm_X11_groupOfEntry.cells) (0 + rm_X11_groupOfEntry.slots) 7 [some (.ref (tR Θ 0 14)), some (.int a0), some (.int a1), none] [.ref q9] G9
      refine v_astore_n (i := 3) (q := 8) hC dL_groupOfEntryOf_7 rfl rfl (lvc rfl) (Nat.le_of_ble_eq_true rfl) (Nat.le_of_ble_eq_true rfl) rfl ?_
      refine v_bipush (q := 10) (v := (-101)) hC dL_groupOfEntryOf_8 rfl (by decide) ?_
      refine v_iret hC dL_groupOfEntryOf_10 hr (rfl) ?_ (Nat.le_of_ble_eq_true rfl) (Nat.le_of_ble_eq_true rfl)
      exact Or.inr ⟨_, _, z9, by first | rfl | decide, rfl⟩
  refine v_aload_n (i := 0) (q := 1) hC dL_groupOfEntryOf_0 rfl rfl rfl ?_
  refine v_iload_n (i := 1) (q := 2) hC dL_groupOfEntryOf_1 rfl rfl rfl ?_
  refine v_iload_n (i := 2) (q := 3) hC dL_groupOfEntryOf_2 rfl rfl rfl ?_
  refine v_callTry (q := 6) (rm := rm_X11_groupOfEntry) hC hT hM k_X11_groupOfEntry im_yX11_groupOfEntry se_yX11_groupOfEntry ml_RL_127 dL_groupOfEntryOf_3 rfl rfl rfl rfl rfl rfl (Nat.le_of_ble_eq_true rfl) ⟨Nat.le_of_ble_eq_true rfl, Nat.le_of_ble_eq_true rfl⟩ ⟨Nat.le_of_ble_eq_true rfl, Nat.le_of_ble_eq_true rfl⟩ (fun v9 G9 z9 => ?_) HX
  obtain ⟨x9, rfl⟩ := hv _ _ z9
  dsimp only [Option.toList, List.cons_append, List.nil_append]
  refine v_iret hC dL_groupOfEntryOf_6 hr (rfl) ?_ (Nat.le_of_ble_eq_true rfl) (Nat.le_of_ble_eq_true rfl)
  exact Or.inl ⟨x9, _, z9, rfl, rfl⟩
theorem kh_L_groupOfEntryOf : kH yL_groupOfEntryOf cL_groupOfEntryOf 4 (some .int) [(0, 6, 7, 24)] 3 := ⟨cw_yL_groupOfEntryOf, ⟨by decide, by decide⟩, by decide +kernel, in_RL, st_yL_groupOfEntryOf⟩
abbrev rm_L_isForOwnerOf : Room := { frames := 9, locals := 155, cells := 2, slots := 12 }
set_option maxHeartbeats 4000000 in
set_option maxRecDepth 20000 in
theorem w_L_isForOwnerOf {l : Launch} (hl : l.stackTraces = false) (Θ : cTH) {Qc : cOut → GS → Prop} (a0 a1 : Int32) (G : GS) (hM : Ct l yX11_isForOwner cX11_isForOwner 3 (some .boolean) rm_X11_isForOwner Θ [.ref (tR Θ 0 14), .int a0, .int a1] G Qc) (hv : ∀ r G1, Qc (.inl r) G1 → ∃ x : Int32, r = some (.int x)) (hx : ∀ E G1, Qc (.inr E) G1 → E = eX) : CtH l yL_isForOwnerOf cL_isForOwnerOf 4 (some .int) [(0, 14, 15, 24)] rm_L_isForOwnerOf Θ [.ref (tR Θ 0 14), .int a0, .int a1] G (wP gZ [eX] Qc) := by
  refine cth_of (LS := [some (.ref (tR Θ 0 14)), some (.int a0), some (.int a1), none]) hl (by decide +kernel) rfl rfl (Nat.le_of_ble_eq_true rfl) rfl ?_
  intro p e s m args below meth c hC hr hT
  have HX : ∀ E9 G9, Qc (.inr E9) G9 → ∃ (i : Nat) (x : ExceptionTableEntry) (nm : String), (tableOf [(0, 14, 15, 24)])[i]? = some x ∧ (∀ z ∈ (tableOf [(0, 14, 15, 24)]).take i, covers z 3 = false ∨ (z.catchType ≠ 0 ∧ ∃ nm : String, Cond.classLink RL z.catchType nm ∈ wALL ∧ (E9, nm) ∈ ncW)) ∧ covers x 3 = true ∧ x.catchType ≠ 0 ∧ Cond.classLink RL x.catchType nm ∈ wALL ∧ Cond.castable E9 nm ∈ excW ∧ ∀ q9 : Nat, V p l e rm_L_isForOwnerOf s m args below meth c 4 Θ (wP gZ [eX] Qc) rm_L_isForOwnerOf.cells rm_L_isForOwnerOf.slots (0 + rm_X11_isForOwner.cells) (0 + rm_X11_isForOwner.slots) x.handlerPc [some (.ref (tR Θ 0 14)), some (.int a0), some (.int a1), none] [.ref q9] G9 := by
    intro E9 G9 z9
    rcases hx E9 G9 z9 with rfl
    · refine ⟨0, _, _, rfl, (fun z hz => absurd hz (by simp)), by decide, by decide, cl_RL_24, by decide, fun q9 => ?_⟩
      show V p l e rm_L_isForOwnerOf s m args below meth c 4 Θ (wP gZ [eX] Qc) rm_L_isForOwnerOf.cells rm_L_isForOwnerOf.slots (0 + rm_X11_isForOwner.cells) (0 + rm_X11_isForOwner.slots) 15 [some (.ref (tR Θ 0 14)), some (.int a0), some (.int a1), none] [.ref q9] G9
      refine v_astore_n (i := 3) (q := 16) hC dL_isForOwnerOf_15 rfl rfl (lvc rfl) (Nat.le_of_ble_eq_true rfl) (Nat.le_of_ble_eq_true rfl) rfl ?_
      refine v_bipush (q := 18) (v := (-101)) hC dL_isForOwnerOf_16 rfl (by decide) ?_
      refine v_iret hC dL_isForOwnerOf_18 hr (rfl) ?_ (Nat.le_of_ble_eq_true rfl) (Nat.le_of_ble_eq_true rfl)
      exact Or.inr ⟨_, _, z9, by first | rfl | decide, rfl⟩
  refine v_aload_n (i := 0) (q := 1) hC dL_isForOwnerOf_0 rfl rfl rfl ?_
  refine v_iload_n (i := 1) (q := 2) hC dL_isForOwnerOf_1 rfl rfl rfl ?_
  refine v_iload_n (i := 2) (q := 3) hC dL_isForOwnerOf_2 rfl rfl rfl ?_
  refine v_callTry (q := 6) (rm := rm_X11_isForOwner) hC hT hM k_X11_isForOwner im_yX11_isForOwner se_yX11_isForOwner ml_RL_130 dL_isForOwnerOf_3 rfl rfl rfl rfl rfl rfl (Nat.le_of_ble_eq_true rfl) ⟨Nat.le_of_ble_eq_true rfl, Nat.le_of_ble_eq_true rfl⟩ ⟨Nat.le_of_ble_eq_true rfl, Nat.le_of_ble_eq_true rfl⟩ (fun v9 G9 z9 => ?_) HX
  obtain ⟨x9, rfl⟩ := hv _ _ z9
  dsimp only [Option.toList, List.cons_append, List.nil_append]
  refine v_if_eq (q := 13) (q2 := 9) hC dL_isForOwnerOf_6 (by decide) rfl (fun c_6 => ?_) (fun c_6 => ?_)
  · refine v_iconst (q := 14) (v := 0) hC dL_isForOwnerOf_13 rfl (by decide) ?_
    refine v_iret hC dL_isForOwnerOf_14 hr (rfl) ?_ (Nat.le_of_ble_eq_true rfl) (Nat.le_of_ble_eq_true rfl)
    refine Or.inl ⟨x9, _, z9, ?_, rfl⟩
    first | (rw [gZ, if_pos c_6]) | (rw [gZ, if_neg c_6])
  · refine v_iconst (q := 10) (v := 1) hC dL_isForOwnerOf_9 rfl (by decide) ?_
    refine v_goto (q := 14) hC dL_isForOwnerOf_10 (by decide) ?_
    refine v_iret hC dL_isForOwnerOf_14 hr (rfl) ?_ (Nat.le_of_ble_eq_true rfl) (Nat.le_of_ble_eq_true rfl)
    refine Or.inl ⟨x9, _, z9, ?_, rfl⟩
    first | (rw [gZ, if_pos c_6]) | (rw [gZ, if_neg c_6])
theorem kh_L_isForOwnerOf : kH yL_isForOwnerOf cL_isForOwnerOf 4 (some .int) [(0, 14, 15, 24)] 3 := ⟨cw_yL_isForOwnerOf, ⟨by decide, by decide⟩, by decide +kernel, in_RL, st_yL_isForOwnerOf⟩
abbrev rm_L_isForBelowOf : Room := { frames := 9, locals := 155, cells := 2, slots := 12 }
set_option maxHeartbeats 4000000 in
set_option maxRecDepth 20000 in
theorem w_L_isForBelowOf {l : Launch} (hl : l.stackTraces = false) (Θ : cTH) {Qc : cOut → GS → Prop} (a0 a1 : Int32) (G : GS) (hM : Ct l yX11_isForBelow cX11_isForBelow 3 (some .boolean) rm_X11_isForBelow Θ [.ref (tR Θ 0 14), .int a0, .int a1] G Qc) (hv : ∀ r G1, Qc (.inl r) G1 → ∃ x : Int32, r = some (.int x)) (hx : ∀ E G1, Qc (.inr E) G1 → E = eX) : CtH l yL_isForBelowOf cL_isForBelowOf 4 (some .int) [(0, 14, 15, 24)] rm_L_isForBelowOf Θ [.ref (tR Θ 0 14), .int a0, .int a1] G (wP gZ [eX] Qc) := by
  refine cth_of (LS := [some (.ref (tR Θ 0 14)), some (.int a0), some (.int a1), none]) hl (by decide +kernel) rfl rfl (Nat.le_of_ble_eq_true rfl) rfl ?_
  intro p e s m args below meth c hC hr hT
  have HX : ∀ E9 G9, Qc (.inr E9) G9 → ∃ (i : Nat) (x : ExceptionTableEntry) (nm : String), (tableOf [(0, 14, 15, 24)])[i]? = some x ∧ (∀ z ∈ (tableOf [(0, 14, 15, 24)]).take i, covers z 3 = false ∨ (z.catchType ≠ 0 ∧ ∃ nm : String, Cond.classLink RL z.catchType nm ∈ wALL ∧ (E9, nm) ∈ ncW)) ∧ covers x 3 = true ∧ x.catchType ≠ 0 ∧ Cond.classLink RL x.catchType nm ∈ wALL ∧ Cond.castable E9 nm ∈ excW ∧ ∀ q9 : Nat, V p l e rm_L_isForBelowOf s m args below meth c 4 Θ (wP gZ [eX] Qc) rm_L_isForBelowOf.cells rm_L_isForBelowOf.slots (0 + rm_X11_isForBelow.cells) (0 + rm_X11_isForBelow.slots) x.handlerPc [some (.ref (tR Θ 0 14)), some (.int a0), some (.int a1), none] [.ref q9] G9 := by
    intro E9 G9 z9
    rcases hx E9 G9 z9 with rfl
    · refine ⟨0, _, _, rfl, (fun z hz => absurd hz (by simp)), by decide, by decide, cl_RL_24, by decide, fun q9 => ?_⟩
      show V p l e rm_L_isForBelowOf s m args below meth c 4 Θ (wP gZ [eX] Qc) rm_L_isForBelowOf.cells rm_L_isForBelowOf.slots (0 + rm_X11_isForBelow.cells) (0 + rm_X11_isForBelow.slots) 15 [some (.ref (tR Θ 0 14)), some (.int a0), some (.int a1), none] [.ref q9] G9
      refine v_astore_n (i := 3) (q := 16) hC dL_isForBelowOf_15 rfl rfl (lvc rfl) (Nat.le_of_ble_eq_true rfl) (Nat.le_of_ble_eq_true rfl) rfl ?_
      refine v_bipush (q := 18) (v := (-101)) hC dL_isForBelowOf_16 rfl (by decide) ?_
      refine v_iret hC dL_isForBelowOf_18 hr (rfl) ?_ (Nat.le_of_ble_eq_true rfl) (Nat.le_of_ble_eq_true rfl)
      exact Or.inr ⟨_, _, z9, by first | rfl | decide, rfl⟩
  refine v_aload_n (i := 0) (q := 1) hC dL_isForBelowOf_0 rfl rfl rfl ?_
  refine v_iload_n (i := 1) (q := 2) hC dL_isForBelowOf_1 rfl rfl rfl ?_
  refine v_iload_n (i := 2) (q := 3) hC dL_isForBelowOf_2 rfl rfl rfl ?_
  refine v_callTry (q := 6) (rm := rm_X11_isForBelow) hC hT hM k_X11_isForBelow im_yX11_isForBelow se_yX11_isForBelow ml_RL_133 dL_isForBelowOf_3 rfl rfl rfl rfl rfl rfl (Nat.le_of_ble_eq_true rfl) ⟨Nat.le_of_ble_eq_true rfl, Nat.le_of_ble_eq_true rfl⟩ ⟨Nat.le_of_ble_eq_true rfl, Nat.le_of_ble_eq_true rfl⟩ (fun v9 G9 z9 => ?_) HX
  obtain ⟨x9, rfl⟩ := hv _ _ z9
  dsimp only [Option.toList, List.cons_append, List.nil_append]
  refine v_if_eq (q := 13) (q2 := 9) hC dL_isForBelowOf_6 (by decide) rfl (fun c_6 => ?_) (fun c_6 => ?_)
  · refine v_iconst (q := 14) (v := 0) hC dL_isForBelowOf_13 rfl (by decide) ?_
    refine v_iret hC dL_isForBelowOf_14 hr (rfl) ?_ (Nat.le_of_ble_eq_true rfl) (Nat.le_of_ble_eq_true rfl)
    refine Or.inl ⟨x9, _, z9, ?_, rfl⟩
    first | (rw [gZ, if_pos c_6]) | (rw [gZ, if_neg c_6])
  · refine v_iconst (q := 10) (v := 1) hC dL_isForBelowOf_9 rfl (by decide) ?_
    refine v_goto (q := 14) hC dL_isForBelowOf_10 (by decide) ?_
    refine v_iret hC dL_isForBelowOf_14 hr (rfl) ?_ (Nat.le_of_ble_eq_true rfl) (Nat.le_of_ble_eq_true rfl)
    refine Or.inl ⟨x9, _, z9, ?_, rfl⟩
    first | (rw [gZ, if_pos c_6]) | (rw [gZ, if_neg c_6])
theorem kh_L_isForBelowOf : kH yL_isForBelowOf cL_isForBelowOf 4 (some .int) [(0, 14, 15, 24)] 3 := ⟨cw_yL_isForBelowOf, ⟨by decide, by decide⟩, by decide +kernel, in_RL, st_yL_isForBelowOf⟩
abbrev rm_L_isAllowedOf : Room := { frames := 8, locals := 171, cells := 3, slots := 18 }
set_option maxHeartbeats 4000000 in
set_option maxRecDepth 20000 in
theorem w_L_isAllowedOf {l : Launch} (hl : l.stackTraces = false) (Θ : cTH) {Qc : cOut → GS → Prop} (a0 a1 a2 : Int32) (G : GS) (hM : Ct l yX11_isAllowed cX11_isAllowed 4 (some .boolean) rm_X11_isAllowed Θ [.ref (tR Θ 0 14), .int a0, .int a1, .int a2] G Qc) (hv : ∀ r G1, Qc (.inl r) G1 → ∃ x : Int32, r = some (.int x)) (hx : ∀ E G1, Qc (.inr E) G1 → E = eX ∨ E = eA) : CtH l yL_isAllowedOf cL_isAllowedOf 5 (some .int) [(0, 15, 16, 24), (0, 15, 21, 51)] rm_L_isAllowedOf Θ [.ref (tR Θ 0 14), .int a0, .int a1, .int a2] G (wP gZ [eX, eA] Qc) := by
  refine cth_of (LS := [some (.ref (tR Θ 0 14)), some (.int a0), some (.int a1), some (.int a2), none]) hl (by decide +kernel) rfl rfl (Nat.le_of_ble_eq_true rfl) rfl ?_
  intro p e s m args below meth c hC hr hT
  have HX : ∀ E9 G9, Qc (.inr E9) G9 → ∃ (i : Nat) (x : ExceptionTableEntry) (nm : String), (tableOf [(0, 15, 16, 24), (0, 15, 21, 51)])[i]? = some x ∧ (∀ z ∈ (tableOf [(0, 15, 16, 24), (0, 15, 21, 51)]).take i, covers z 4 = false ∨ (z.catchType ≠ 0 ∧ ∃ nm : String, Cond.classLink RL z.catchType nm ∈ wALL ∧ (E9, nm) ∈ ncW)) ∧ covers x 4 = true ∧ x.catchType ≠ 0 ∧ Cond.classLink RL x.catchType nm ∈ wALL ∧ Cond.castable E9 nm ∈ excW ∧ ∀ q9 : Nat, V p l e rm_L_isAllowedOf s m args below meth c 5 Θ (wP gZ [eX, eA] Qc) rm_L_isAllowedOf.cells rm_L_isAllowedOf.slots (0 + rm_X11_isAllowed.cells) (0 + rm_X11_isAllowed.slots) x.handlerPc [some (.ref (tR Θ 0 14)), some (.int a0), some (.int a1), some (.int a2), none] [.ref q9] G9 := by
    intro E9 G9 z9
    rcases hx E9 G9 z9 with rfl | rfl
    · refine ⟨0, _, _, rfl, (fun z hz => absurd hz (by simp)), by decide, by decide, cl_RL_24, by decide, fun q9 => ?_⟩
      show V p l e rm_L_isAllowedOf s m args below meth c 5 Θ (wP gZ [eX, eA] Qc) rm_L_isAllowedOf.cells rm_L_isAllowedOf.slots (0 + rm_X11_isAllowed.cells) (0 + rm_X11_isAllowed.slots) 16 [some (.ref (tR Θ 0 14)), some (.int a0), some (.int a1), some (.int a2), none] [.ref q9] G9
      refine v_astore (q := 18) hC dL_isAllowedOf_16 rfl (lvc rfl) (Nat.le_of_ble_eq_true rfl) (Nat.le_of_ble_eq_true rfl) rfl ?_
      refine v_bipush (q := 20) (v := (-101)) hC dL_isAllowedOf_18 rfl (by decide) ?_
      refine v_iret hC dL_isAllowedOf_20 hr (rfl) ?_ (Nat.le_of_ble_eq_true rfl) (Nat.le_of_ble_eq_true rfl)
      exact Or.inr ⟨_, _, z9, by first | rfl | decide, rfl⟩
    · refine ⟨1, _, _, rfl, (List.forall_mem_cons.mpr ⟨Or.inr ⟨by decide, _, cl_RL_24, by decide⟩, List.forall_mem_nil _⟩), by decide, by decide, cl_RL_51, by decide, fun q9 => ?_⟩
      show V p l e rm_L_isAllowedOf s m args below meth c 5 Θ (wP gZ [eX, eA] Qc) rm_L_isAllowedOf.cells rm_L_isAllowedOf.slots (0 + rm_X11_isAllowed.cells) (0 + rm_X11_isAllowed.slots) 21 [some (.ref (tR Θ 0 14)), some (.int a0), some (.int a1), some (.int a2), none] [.ref q9] G9
      refine v_astore (q := 23) hC dL_isAllowedOf_21 rfl (lvc rfl) (Nat.le_of_ble_eq_true rfl) (Nat.le_of_ble_eq_true rfl) rfl ?_
      refine v_bipush (q := 25) (v := (-102)) hC dL_isAllowedOf_23 rfl (by decide) ?_
      refine v_iret hC dL_isAllowedOf_25 hr (rfl) ?_ (Nat.le_of_ble_eq_true rfl) (Nat.le_of_ble_eq_true rfl)
      exact Or.inr ⟨_, _, z9, by first | rfl | decide, rfl⟩
  refine v_aload_n (i := 0) (q := 1) hC dL_isAllowedOf_0 rfl rfl rfl ?_
  refine v_iload_n (i := 1) (q := 2) hC dL_isAllowedOf_1 rfl rfl rfl ?_
  refine v_iload_n (i := 2) (q := 3) hC dL_isAllowedOf_2 rfl rfl rfl ?_
  refine v_iload_n (i := 3) (q := 4) hC dL_isAllowedOf_3 rfl rfl rfl ?_
  refine v_callTry (q := 7) (rm := rm_X11_isAllowed) hC hT hM k_X11_isAllowed im_yX11_isAllowed se_yX11_isAllowed ml_RL_136 dL_isAllowedOf_4 rfl rfl rfl rfl rfl rfl (Nat.le_of_ble_eq_true rfl) ⟨Nat.le_of_ble_eq_true rfl, Nat.le_of_ble_eq_true rfl⟩ ⟨Nat.le_of_ble_eq_true rfl, Nat.le_of_ble_eq_true rfl⟩ (fun v9 G9 z9 => ?_) HX
  obtain ⟨x9, rfl⟩ := hv _ _ z9
  dsimp only [Option.toList, List.cons_append, List.nil_append]
  refine v_if_eq (q := 14) (q2 := 10) hC dL_isAllowedOf_7 (by decide) rfl (fun c_7 => ?_) (fun c_7 => ?_)
  · refine v_iconst (q := 15) (v := 0) hC dL_isAllowedOf_14 rfl (by decide) ?_
    refine v_iret hC dL_isAllowedOf_15 hr (rfl) ?_ (Nat.le_of_ble_eq_true rfl) (Nat.le_of_ble_eq_true rfl)
    refine Or.inl ⟨x9, _, z9, ?_, rfl⟩
    first | (rw [gZ, if_pos c_7]) | (rw [gZ, if_neg c_7])
  · refine v_iconst (q := 11) (v := 1) hC dL_isAllowedOf_10 rfl (by decide) ?_
    refine v_goto (q := 15) hC dL_isAllowedOf_11 (by decide) ?_
    refine v_iret hC dL_isAllowedOf_15 hr (rfl) ?_ (Nat.le_of_ble_eq_true rfl) (Nat.le_of_ble_eq_true rfl)
    refine Or.inl ⟨x9, _, z9, ?_, rfl⟩
    first | (rw [gZ, if_pos c_7]) | (rw [gZ, if_neg c_7])
theorem kh_L_isAllowedOf : kH yL_isAllowedOf cL_isAllowedOf 5 (some .int) [(0, 15, 16, 24), (0, 15, 21, 51)] 4 := ⟨cw_yL_isAllowedOf, ⟨by decide, by decide⟩, by decide +kernel, in_RL, st_yL_isAllowedOf⟩
abbrev rm_L_isAllowedByHandingDownOf : Room := { frames := 8, locals := 142, cells := 3, slots := 18 }
set_option maxHeartbeats 4000000 in
set_option maxRecDepth 20000 in
theorem w_L_isAllowedByHandingDownOf {l : Launch} (hl : l.stackTraces = false) (Θ : cTH) {Qc : cOut → GS → Prop} (a0 a1 a2 : Int32) (G : GS) (hM : Ct l yX11_isAllowedByHandingDown cX11_isAllowedByHandingDown 4 (some .boolean) rm_X11_isAllowedByHandingDown Θ [.ref (tR Θ 0 14), .int a0, .int a1, .int a2] G Qc) (hv : ∀ r G1, Qc (.inl r) G1 → ∃ x : Int32, r = some (.int x)) (hx : ∀ E G1, Qc (.inr E) G1 → E = eX ∨ E = eA) : CtH l yL_isAllowedByHandingDownOf cL_isAllowedByHandingDownOf 5 (some .int) [(0, 15, 16, 24), (0, 15, 21, 51)] rm_L_isAllowedByHandingDownOf Θ [.ref (tR Θ 0 14), .int a0, .int a1, .int a2] G (wP gZ [eX, eA] Qc) := by
  refine cth_of (LS := [some (.ref (tR Θ 0 14)), some (.int a0), some (.int a1), some (.int a2), none]) hl (by decide +kernel) rfl rfl (Nat.le_of_ble_eq_true rfl) rfl ?_
  intro p e s m args below meth c hC hr hT
  have HX : ∀ E9 G9, Qc (.inr E9) G9 → ∃ (i : Nat) (x : ExceptionTableEntry) (nm : String), (tableOf [(0, 15, 16, 24), (0, 15, 21, 51)])[i]? = some x ∧ (∀ z ∈ (tableOf [(0, 15, 16, 24), (0, 15, 21, 51)]).take i, covers z 4 = false ∨ (z.catchType ≠ 0 ∧ ∃ nm : String, Cond.classLink RL z.catchType nm ∈ wALL ∧ (E9, nm) ∈ ncW)) ∧ covers x 4 = true ∧ x.catchType ≠ 0 ∧ Cond.classLink RL x.catchType nm ∈ wALL ∧ Cond.castable E9 nm ∈ excW ∧ ∀ q9 : Nat, V p l e rm_L_isAllowedByHandingDownOf s m args below meth c 5 Θ (wP gZ [eX, eA] Qc) rm_L_isAllowedByHandingDownOf.cells rm_L_isAllowedByHandingDownOf.slots (0 + rm_X11_isAllowedByHandingDown.cells) (0 + rm_X11_isAllowedByHandingDown.slots) x.handlerPc [some (.ref (tR Θ 0 14)), some (.int a0), some (.int a1), some (.int a2), none] [.ref q9] G9 := by
    intro E9 G9 z9
    rcases hx E9 G9 z9 with rfl | rfl
    · refine ⟨0, _, _, rfl, (fun z hz => absurd hz (by simp)), by decide, by decide, cl_RL_24, by decide, fun q9 => ?_⟩
      show V p l e rm_L_isAllowedByHandingDownOf s m args below meth c 5 Θ (wP gZ [eX, eA] Qc) rm_L_isAllowedByHandingDownOf.cells rm_L_isAllowedByHandingDownOf.slots (0 + rm_X11_isAllowedByHandingDown.cells) (0 + rm_X11_isAllowedByHandingDown.slots) 16 [some (.ref (tR Θ 0 14)), some (.int a0), some (.int a1), some (.int a2), none] [.ref q9] G9
      refine v_astore (q := 18) hC dL_isAllowedByHandingDownOf_16 rfl (lvc rfl) (Nat.le_of_ble_eq_true rfl) (Nat.le_of_ble_eq_true rfl) rfl ?_
      refine v_bipush (q := 20) (v := (-101)) hC dL_isAllowedByHandingDownOf_18 rfl (by decide) ?_
      refine v_iret hC dL_isAllowedByHandingDownOf_20 hr (rfl) ?_ (Nat.le_of_ble_eq_true rfl) (Nat.le_of_ble_eq_true rfl)
      exact Or.inr ⟨_, _, z9, by first | rfl | decide, rfl⟩
    · refine ⟨1, _, _, rfl, (List.forall_mem_cons.mpr ⟨Or.inr ⟨by decide, _, cl_RL_24, by decide⟩, List.forall_mem_nil _⟩), by decide, by decide, cl_RL_51, by decide, fun q9 => ?_⟩
      show V p l e rm_L_isAllowedByHandingDownOf s m args below meth c 5 Θ (wP gZ [eX, eA] Qc) rm_L_isAllowedByHandingDownOf.cells rm_L_isAllowedByHandingDownOf.slots (0 + rm_X11_isAllowedByHandingDown.cells) (0 + rm_X11_isAllowedByHandingDown.slots) 21 [some (.ref (tR Θ 0 14)), some (.int a0), some (.int a1), some (.int a2), none] [.ref q9] G9
      refine v_astore (q := 23) hC dL_isAllowedByHandingDownOf_21 rfl (lvc rfl) (Nat.le_of_ble_eq_true rfl) (Nat.le_of_ble_eq_true rfl) rfl ?_
      refine v_bipush (q := 25) (v := (-102)) hC dL_isAllowedByHandingDownOf_23 rfl (by decide) ?_
      refine v_iret hC dL_isAllowedByHandingDownOf_25 hr (rfl) ?_ (Nat.le_of_ble_eq_true rfl) (Nat.le_of_ble_eq_true rfl)
      exact Or.inr ⟨_, _, z9, by first | rfl | decide, rfl⟩
  refine v_aload_n (i := 0) (q := 1) hC dL_isAllowedByHandingDownOf_0 rfl rfl rfl ?_
  refine v_iload_n (i := 1) (q := 2) hC dL_isAllowedByHandingDownOf_1 rfl rfl rfl ?_
  refine v_iload_n (i := 2) (q := 3) hC dL_isAllowedByHandingDownOf_2 rfl rfl rfl ?_
  refine v_iload_n (i := 3) (q := 4) hC dL_isAllowedByHandingDownOf_3 rfl rfl rfl ?_
  refine v_callTry (q := 7) (rm := rm_X11_isAllowedByHandingDown) hC hT hM k_X11_isAllowedByHandingDown im_yX11_isAllowedByHandingDown se_yX11_isAllowedByHandingDown ml_RL_139 dL_isAllowedByHandingDownOf_4 rfl rfl rfl rfl rfl rfl (Nat.le_of_ble_eq_true rfl) ⟨Nat.le_of_ble_eq_true rfl, Nat.le_of_ble_eq_true rfl⟩ ⟨Nat.le_of_ble_eq_true rfl, Nat.le_of_ble_eq_true rfl⟩ (fun v9 G9 z9 => ?_) HX
  obtain ⟨x9, rfl⟩ := hv _ _ z9
  dsimp only [Option.toList, List.cons_append, List.nil_append]
  refine v_if_eq (q := 14) (q2 := 10) hC dL_isAllowedByHandingDownOf_7 (by decide) rfl (fun c_7 => ?_) (fun c_7 => ?_)
  · refine v_iconst (q := 15) (v := 0) hC dL_isAllowedByHandingDownOf_14 rfl (by decide) ?_
    refine v_iret hC dL_isAllowedByHandingDownOf_15 hr (rfl) ?_ (Nat.le_of_ble_eq_true rfl) (Nat.le_of_ble_eq_true rfl)
    refine Or.inl ⟨x9, _, z9, ?_, rfl⟩
    first | (rw [gZ, if_pos c_7]) | (rw [gZ, if_neg c_7])
  · refine v_iconst (q := 11) (v := 1) hC dL_isAllowedByHandingDownOf_10 rfl (by decide) ?_
    refine v_goto (q := 15) hC dL_isAllowedByHandingDownOf_11 (by decide) ?_
    refine v_iret hC dL_isAllowedByHandingDownOf_15 hr (rfl) ?_ (Nat.le_of_ble_eq_true rfl) (Nat.le_of_ble_eq_true rfl)
    refine Or.inl ⟨x9, _, z9, ?_, rfl⟩
    first | (rw [gZ, if_pos c_7]) | (rw [gZ, if_neg c_7])
theorem kh_L_isAllowedByHandingDownOf : kH yL_isAllowedByHandingDownOf cL_isAllowedByHandingDownOf 5 (some .int) [(0, 15, 16, 24), (0, 15, 21, 51)] 4 := ⟨cw_yL_isAllowedByHandingDownOf, ⟨by decide, by decide⟩, by decide +kernel, in_RL, st_yL_isAllowedByHandingDownOf⟩
abbrev rm_L_rightsOfOf : Room := { frames := 8, locals := 146, cells := 2, slots := 12 }
set_option maxHeartbeats 4000000 in
set_option maxRecDepth 20000 in
theorem w_L_rightsOfOf {l : Launch} (hl : l.stackTraces = false) (Θ : cTH) {Qc : cOut → GS → Prop} (a0 a1 : Int32) (G : GS) (hM : Ct l yX11_rightsOf cX11_rightsOf 3 (some .int) rm_X11_rightsOf Θ [.ref (tR Θ 0 14), .int a0, .int a1] G Qc) (hv : ∀ r G1, Qc (.inl r) G1 → ∃ x : Int32, r = some (.int x)) (hx : ∀ E G1, Qc (.inr E) G1 → E = eX) : CtH l yL_rightsOfOf cL_rightsOfOf 4 (some .int) [(0, 6, 7, 24)] rm_L_rightsOfOf Θ [.ref (tR Θ 0 14), .int a0, .int a1] G (wP gI [eX] Qc) := by
  refine cth_of (LS := [some (.ref (tR Θ 0 14)), some (.int a0), some (.int a1), none]) hl (by decide +kernel) rfl rfl (Nat.le_of_ble_eq_true rfl) rfl ?_
  intro p e s m args below meth c hC hr hT
  have HX : ∀ E9 G9, Qc (.inr E9) G9 → ∃ (i : Nat) (x : ExceptionTableEntry) (nm : String), (tableOf [(0, 6, 7, 24)])[i]? = some x ∧ (∀ z ∈ (tableOf [(0, 6, 7, 24)]).take i, covers z 3 = false ∨ (z.catchType ≠ 0 ∧ ∃ nm : String, Cond.classLink RL z.catchType nm ∈ wALL ∧ (E9, nm) ∈ ncW)) ∧ covers x 3 = true ∧ x.catchType ≠ 0 ∧ Cond.classLink RL x.catchType nm ∈ wALL ∧ Cond.castable E9 nm ∈ excW ∧ ∀ q9 : Nat, V p l e rm_L_rightsOfOf s m args below meth c 4 Θ (wP gI [eX] Qc) rm_L_rightsOfOf.cells rm_L_rightsOfOf.slots (0 + rm_X11_rightsOf.cells) (0 + rm_X11_rightsOf.slots) x.handlerPc [some (.ref (tR Θ 0 14)), some (.int a0), some (.int a1), none] [.ref q9] G9 := by
    intro E9 G9 z9
    rcases hx E9 G9 z9 with rfl
    · refine ⟨0, _, _, rfl, (fun z hz => absurd hz (by simp)), by decide, by decide, cl_RL_24, by decide, fun q9 => ?_⟩
      show V p l e rm_L_rightsOfOf s m args below meth c 4 Θ (wP gI [eX] Qc) rm_L_rightsOfOf.cells rm_L_rightsOfOf.slots (0 + rm_X11_rightsOf.cells) (0 + rm_X11_rightsOf.slots) 7 [some (.ref (tR Θ 0 14)), some (.int a0), some (.int a1), none] [.ref q9] G9
      refine v_astore_n (i := 3) (q := 8) hC dL_rightsOfOf_7 rfl rfl (lvc rfl) (Nat.le_of_ble_eq_true rfl) (Nat.le_of_ble_eq_true rfl) rfl ?_
      refine v_bipush (q := 10) (v := (-101)) hC dL_rightsOfOf_8 rfl (by decide) ?_
      refine v_iret hC dL_rightsOfOf_10 hr (rfl) ?_ (Nat.le_of_ble_eq_true rfl) (Nat.le_of_ble_eq_true rfl)
      exact Or.inr ⟨_, _, z9, by first | rfl | decide, rfl⟩
  refine v_aload_n (i := 0) (q := 1) hC dL_rightsOfOf_0 rfl rfl rfl ?_
  refine v_iload_n (i := 1) (q := 2) hC dL_rightsOfOf_1 rfl rfl rfl ?_
  refine v_iload_n (i := 2) (q := 3) hC dL_rightsOfOf_2 rfl rfl rfl ?_
  refine v_callTry (q := 6) (rm := rm_X11_rightsOf) hC hT hM k_X11_rightsOf im_yX11_rightsOf se_yX11_rightsOf ml_RL_142 dL_rightsOfOf_3 rfl rfl rfl rfl rfl rfl (Nat.le_of_ble_eq_true rfl) ⟨Nat.le_of_ble_eq_true rfl, Nat.le_of_ble_eq_true rfl⟩ ⟨Nat.le_of_ble_eq_true rfl, Nat.le_of_ble_eq_true rfl⟩ (fun v9 G9 z9 => ?_) HX
  obtain ⟨x9, rfl⟩ := hv _ _ z9
  dsimp only [Option.toList, List.cons_append, List.nil_append]
  refine v_iret hC dL_rightsOfOf_6 hr (rfl) ?_ (Nat.le_of_ble_eq_true rfl) (Nat.le_of_ble_eq_true rfl)
  exact Or.inl ⟨x9, _, z9, rfl, rfl⟩
theorem kh_L_rightsOfOf : kH yL_rightsOfOf cL_rightsOfOf 4 (some .int) [(0, 6, 7, 24)] 3 := ⟨cw_yL_rightsOfOf, ⟨by decide, by decide⟩, by decide +kernel, in_RL, st_yL_rightsOfOf⟩
abbrev rm_L_decidingObjectOf : Room := { frames := 8, locals := 147, cells := 3, slots := 18 }
set_option maxHeartbeats 4000000 in
set_option maxRecDepth 20000 in
theorem w_L_decidingObjectOf {l : Launch} (hl : l.stackTraces = false) (Θ : cTH) {Qc : cOut → GS → Prop} (a0 a1 a2 : Int32) (G : GS) (hM : Ct l yX11_decidingObject cX11_decidingObject 5 (some .int) rm_X11_decidingObject Θ [.ref (tR Θ 0 14), .int a0, .int a1, .int a2] G Qc) (hv : ∀ r G1, Qc (.inl r) G1 → ∃ x : Int32, r = some (.int x)) (hx : ∀ E G1, Qc (.inr E) G1 → E = eX ∨ E = eA) : CtH l yL_decidingObjectOf cL_decidingObjectOf 5 (some .int) [(0, 7, 8, 24), (0, 7, 13, 51)] rm_L_decidingObjectOf Θ [.ref (tR Θ 0 14), .int a0, .int a1, .int a2] G (wP gI [eX, eA] Qc) := by
  refine cth_of (LS := [some (.ref (tR Θ 0 14)), some (.int a0), some (.int a1), some (.int a2), none]) hl (by decide +kernel) rfl rfl (Nat.le_of_ble_eq_true rfl) rfl ?_
  intro p e s m args below meth c hC hr hT
  have HX : ∀ E9 G9, Qc (.inr E9) G9 → ∃ (i : Nat) (x : ExceptionTableEntry) (nm : String), (tableOf [(0, 7, 8, 24), (0, 7, 13, 51)])[i]? = some x ∧ (∀ z ∈ (tableOf [(0, 7, 8, 24), (0, 7, 13, 51)]).take i, covers z 4 = false ∨ (z.catchType ≠ 0 ∧ ∃ nm : String, Cond.classLink RL z.catchType nm ∈ wALL ∧ (E9, nm) ∈ ncW)) ∧ covers x 4 = true ∧ x.catchType ≠ 0 ∧ Cond.classLink RL x.catchType nm ∈ wALL ∧ Cond.castable E9 nm ∈ excW ∧ ∀ q9 : Nat, V p l e rm_L_decidingObjectOf s m args below meth c 5 Θ (wP gI [eX, eA] Qc) rm_L_decidingObjectOf.cells rm_L_decidingObjectOf.slots (0 + rm_X11_decidingObject.cells) (0 + rm_X11_decidingObject.slots) x.handlerPc [some (.ref (tR Θ 0 14)), some (.int a0), some (.int a1), some (.int a2), none] [.ref q9] G9 := by
    intro E9 G9 z9
    rcases hx E9 G9 z9 with rfl | rfl
    · refine ⟨0, _, _, rfl, (fun z hz => absurd hz (by simp)), by decide, by decide, cl_RL_24, by decide, fun q9 => ?_⟩
      show V p l e rm_L_decidingObjectOf s m args below meth c 5 Θ (wP gI [eX, eA] Qc) rm_L_decidingObjectOf.cells rm_L_decidingObjectOf.slots (0 + rm_X11_decidingObject.cells) (0 + rm_X11_decidingObject.slots) 8 [some (.ref (tR Θ 0 14)), some (.int a0), some (.int a1), some (.int a2), none] [.ref q9] G9
      refine v_astore (q := 10) hC dL_decidingObjectOf_8 rfl (lvc rfl) (Nat.le_of_ble_eq_true rfl) (Nat.le_of_ble_eq_true rfl) rfl ?_
      refine v_bipush (q := 12) (v := (-101)) hC dL_decidingObjectOf_10 rfl (by decide) ?_
      refine v_iret hC dL_decidingObjectOf_12 hr (rfl) ?_ (Nat.le_of_ble_eq_true rfl) (Nat.le_of_ble_eq_true rfl)
      exact Or.inr ⟨_, _, z9, by first | rfl | decide, rfl⟩
    · refine ⟨1, _, _, rfl, (List.forall_mem_cons.mpr ⟨Or.inr ⟨by decide, _, cl_RL_24, by decide⟩, List.forall_mem_nil _⟩), by decide, by decide, cl_RL_51, by decide, fun q9 => ?_⟩
      show V p l e rm_L_decidingObjectOf s m args below meth c 5 Θ (wP gI [eX, eA] Qc) rm_L_decidingObjectOf.cells rm_L_decidingObjectOf.slots (0 + rm_X11_decidingObject.cells) (0 + rm_X11_decidingObject.slots) 13 [some (.ref (tR Θ 0 14)), some (.int a0), some (.int a1), some (.int a2), none] [.ref q9] G9
      refine v_astore (q := 15) hC dL_decidingObjectOf_13 rfl (lvc rfl) (Nat.le_of_ble_eq_true rfl) (Nat.le_of_ble_eq_true rfl) rfl ?_
      refine v_bipush (q := 17) (v := (-102)) hC dL_decidingObjectOf_15 rfl (by decide) ?_
      refine v_iret hC dL_decidingObjectOf_17 hr (rfl) ?_ (Nat.le_of_ble_eq_true rfl) (Nat.le_of_ble_eq_true rfl)
      exact Or.inr ⟨_, _, z9, by first | rfl | decide, rfl⟩
  refine v_aload_n (i := 0) (q := 1) hC dL_decidingObjectOf_0 rfl rfl rfl ?_
  refine v_iload_n (i := 1) (q := 2) hC dL_decidingObjectOf_1 rfl rfl rfl ?_
  refine v_iload_n (i := 2) (q := 3) hC dL_decidingObjectOf_2 rfl rfl rfl ?_
  refine v_iload_n (i := 3) (q := 4) hC dL_decidingObjectOf_3 rfl rfl rfl ?_
  refine v_callTry (q := 7) (rm := rm_X11_decidingObject) hC hT hM k_X11_decidingObject im_yX11_decidingObject se_yX11_decidingObject ml_RL_145 dL_decidingObjectOf_4 rfl rfl rfl rfl rfl rfl (Nat.le_of_ble_eq_true rfl) ⟨Nat.le_of_ble_eq_true rfl, Nat.le_of_ble_eq_true rfl⟩ ⟨Nat.le_of_ble_eq_true rfl, Nat.le_of_ble_eq_true rfl⟩ (fun v9 G9 z9 => ?_) HX
  obtain ⟨x9, rfl⟩ := hv _ _ z9
  dsimp only [Option.toList, List.cons_append, List.nil_append]
  refine v_iret hC dL_decidingObjectOf_7 hr (rfl) ?_ (Nat.le_of_ble_eq_true rfl) (Nat.le_of_ble_eq_true rfl)
  exact Or.inl ⟨x9, _, z9, rfl, rfl⟩
theorem kh_L_decidingObjectOf : kH yL_decidingObjectOf cL_decidingObjectOf 5 (some .int) [(0, 7, 8, 24), (0, 7, 13, 51)] 4 := ⟨cw_yL_decidingObjectOf, ⟨by decide, by decide⟩, by decide +kernel, in_RL, st_yL_decidingObjectOf⟩
abbrev rm_L_decidingEntryOf : Room := { frames := 8, locals := 147, cells := 3, slots := 18 }
set_option maxHeartbeats 4000000 in
set_option maxRecDepth 20000 in
theorem w_L_decidingEntryOf {l : Launch} (hl : l.stackTraces = false) (Θ : cTH) {Qc : cOut → GS → Prop} (a0 a1 a2 : Int32) (G : GS) (hM : Ct l yX11_decidingEntry cX11_decidingEntry 5 (some .int) rm_X11_decidingEntry Θ [.ref (tR Θ 0 14), .int a0, .int a1, .int a2] G Qc) (hv : ∀ r G1, Qc (.inl r) G1 → ∃ x : Int32, r = some (.int x)) (hx : ∀ E G1, Qc (.inr E) G1 → E = eX ∨ E = eA) : CtH l yL_decidingEntryOf cL_decidingEntryOf 5 (some .int) [(0, 7, 8, 24), (0, 7, 13, 51)] rm_L_decidingEntryOf Θ [.ref (tR Θ 0 14), .int a0, .int a1, .int a2] G (wP gI [eX, eA] Qc) := by
  refine cth_of (LS := [some (.ref (tR Θ 0 14)), some (.int a0), some (.int a1), some (.int a2), none]) hl (by decide +kernel) rfl rfl (Nat.le_of_ble_eq_true rfl) rfl ?_
  intro p e s m args below meth c hC hr hT
  have HX : ∀ E9 G9, Qc (.inr E9) G9 → ∃ (i : Nat) (x : ExceptionTableEntry) (nm : String), (tableOf [(0, 7, 8, 24), (0, 7, 13, 51)])[i]? = some x ∧ (∀ z ∈ (tableOf [(0, 7, 8, 24), (0, 7, 13, 51)]).take i, covers z 4 = false ∨ (z.catchType ≠ 0 ∧ ∃ nm : String, Cond.classLink RL z.catchType nm ∈ wALL ∧ (E9, nm) ∈ ncW)) ∧ covers x 4 = true ∧ x.catchType ≠ 0 ∧ Cond.classLink RL x.catchType nm ∈ wALL ∧ Cond.castable E9 nm ∈ excW ∧ ∀ q9 : Nat, V p l e rm_L_decidingEntryOf s m args below meth c 5 Θ (wP gI [eX, eA] Qc) rm_L_decidingEntryOf.cells rm_L_decidingEntryOf.slots (0 + rm_X11_decidingEntry.cells) (0 + rm_X11_decidingEntry.slots) x.handlerPc [some (.ref (tR Θ 0 14)), some (.int a0), some (.int a1), some (.int a2), none] [.ref q9] G9 := by
    intro E9 G9 z9
    rcases hx E9 G9 z9 with rfl | rfl
    · refine ⟨0, _, _, rfl, (fun z hz => absurd hz (by simp)), by decide, by decide, cl_RL_24, by decide, fun q9 => ?_⟩
      show V p l e rm_L_decidingEntryOf s m args below meth c 5 Θ (wP gI [eX, eA] Qc) rm_L_decidingEntryOf.cells rm_L_decidingEntryOf.slots (0 + rm_X11_decidingEntry.cells) (0 + rm_X11_decidingEntry.slots) 8 [some (.ref (tR Θ 0 14)), some (.int a0), some (.int a1), some (.int a2), none] [.ref q9] G9
      refine v_astore (q := 10) hC dL_decidingEntryOf_8 rfl (lvc rfl) (Nat.le_of_ble_eq_true rfl) (Nat.le_of_ble_eq_true rfl) rfl ?_
      refine v_bipush (q := 12) (v := (-101)) hC dL_decidingEntryOf_10 rfl (by decide) ?_
      refine v_iret hC dL_decidingEntryOf_12 hr (rfl) ?_ (Nat.le_of_ble_eq_true rfl) (Nat.le_of_ble_eq_true rfl)
      exact Or.inr ⟨_, _, z9, by first | rfl | decide, rfl⟩
    · refine ⟨1, _, _, rfl, (List.forall_mem_cons.mpr ⟨Or.inr ⟨by decide, _, cl_RL_24, by decide⟩, List.forall_mem_nil _⟩), by decide, by decide, cl_RL_51, by decide, fun q9 => ?_⟩
      show V p l e rm_L_decidingEntryOf s m args below meth c 5 Θ (wP gI [eX, eA] Qc) rm_L_decidingEntryOf.cells rm_L_decidingEntryOf.slots (0 + rm_X11_decidingEntry.cells) (0 + rm_X11_decidingEntry.slots) 13 [some (.ref (tR Θ 0 14)), some (.int a0), some (.int a1), some (.int a2), none] [.ref q9] G9
      refine v_astore (q := 15) hC dL_decidingEntryOf_13 rfl (lvc rfl) (Nat.le_of_ble_eq_true rfl) (Nat.le_of_ble_eq_true rfl) rfl ?_
      refine v_bipush (q := 17) (v := (-102)) hC dL_decidingEntryOf_15 rfl (by decide) ?_
      refine v_iret hC dL_decidingEntryOf_17 hr (rfl) ?_ (Nat.le_of_ble_eq_true rfl) (Nat.le_of_ble_eq_true rfl)
      exact Or.inr ⟨_, _, z9, by first | rfl | decide, rfl⟩
  refine v_aload_n (i := 0) (q := 1) hC dL_decidingEntryOf_0 rfl rfl rfl ?_
  refine v_iload_n (i := 1) (q := 2) hC dL_decidingEntryOf_1 rfl rfl rfl ?_
  refine v_iload_n (i := 2) (q := 3) hC dL_decidingEntryOf_2 rfl rfl rfl ?_
  refine v_iload_n (i := 3) (q := 4) hC dL_decidingEntryOf_3 rfl rfl rfl ?_
  refine v_callTry (q := 7) (rm := rm_X11_decidingEntry) hC hT hM k_X11_decidingEntry im_yX11_decidingEntry se_yX11_decidingEntry ml_RL_148 dL_decidingEntryOf_4 rfl rfl rfl rfl rfl rfl (Nat.le_of_ble_eq_true rfl) ⟨Nat.le_of_ble_eq_true rfl, Nat.le_of_ble_eq_true rfl⟩ ⟨Nat.le_of_ble_eq_true rfl, Nat.le_of_ble_eq_true rfl⟩ (fun v9 G9 z9 => ?_) HX
  obtain ⟨x9, rfl⟩ := hv _ _ z9
  dsimp only [Option.toList, List.cons_append, List.nil_append]
  refine v_iret hC dL_decidingEntryOf_7 hr (rfl) ?_ (Nat.le_of_ble_eq_true rfl) (Nat.le_of_ble_eq_true rfl)
  exact Or.inl ⟨x9, _, z9, rfl, rfl⟩
theorem kh_L_decidingEntryOf : kH yL_decidingEntryOf cL_decidingEntryOf 5 (some .int) [(0, 7, 8, 24), (0, 7, 13, 51)] 4 := ⟨cw_yL_decidingEntryOf, ⟨by decide, by decide⟩, by decide +kernel, in_RL, st_yL_decidingEntryOf⟩
abbrev rm_L_isStoppedByMaskOf : Room := { frames := 8, locals := 171, cells := 3, slots := 18 }
set_option maxHeartbeats 4000000 in
set_option maxRecDepth 20000 in
theorem w_L_isStoppedByMaskOf {l : Launch} (hl : l.stackTraces = false) (Θ : cTH) {Qc : cOut → GS → Prop} (a0 a1 a2 : Int32) (G : GS) (hM : Ct l yX11_isStoppedByMask cX11_isStoppedByMask 4 (some .boolean) rm_X11_isStoppedByMask Θ [.ref (tR Θ 0 14), .int a0, .int a1, .int a2] G Qc) (hv : ∀ r G1, Qc (.inl r) G1 → ∃ x : Int32, r = some (.int x)) (hx : ∀ E G1, Qc (.inr E) G1 → E = eX ∨ E = eA) : CtH l yL_isStoppedByMaskOf cL_isStoppedByMaskOf 5 (some .int) [(0, 15, 16, 24), (0, 15, 21, 51)] rm_L_isStoppedByMaskOf Θ [.ref (tR Θ 0 14), .int a0, .int a1, .int a2] G (wP gZ [eX, eA] Qc) := by
  refine cth_of (LS := [some (.ref (tR Θ 0 14)), some (.int a0), some (.int a1), some (.int a2), none]) hl (by decide +kernel) rfl rfl (Nat.le_of_ble_eq_true rfl) rfl ?_
  intro p e s m args below meth c hC hr hT
  have HX : ∀ E9 G9, Qc (.inr E9) G9 → ∃ (i : Nat) (x : ExceptionTableEntry) (nm : String), (tableOf [(0, 15, 16, 24), (0, 15, 21, 51)])[i]? = some x ∧ (∀ z ∈ (tableOf [(0, 15, 16, 24), (0, 15, 21, 51)]).take i, covers z 4 = false ∨ (z.catchType ≠ 0 ∧ ∃ nm : String, Cond.classLink RL z.catchType nm ∈ wALL ∧ (E9, nm) ∈ ncW)) ∧ covers x 4 = true ∧ x.catchType ≠ 0 ∧ Cond.classLink RL x.catchType nm ∈ wALL ∧ Cond.castable E9 nm ∈ excW ∧ ∀ q9 : Nat, V p l e rm_L_isStoppedByMaskOf s m args below meth c 5 Θ (wP gZ [eX, eA] Qc) rm_L_isStoppedByMaskOf.cells rm_L_isStoppedByMaskOf.slots (0 + rm_X11_isStoppedByMask.cells) (0 + rm_X11_isStoppedByMask.slots) x.handlerPc [some (.ref (tR Θ 0 14)), some (.int a0), some (.int a1), some (.int a2), none] [.ref q9] G9 := by
    intro E9 G9 z9
    rcases hx E9 G9 z9 with rfl | rfl
    · refine ⟨0, _, _, rfl, (fun z hz => absurd hz (by simp)), by decide, by decide, cl_RL_24, by decide, fun q9 => ?_⟩
      show V p l e rm_L_isStoppedByMaskOf s m args below meth c 5 Θ (wP gZ [eX, eA] Qc) rm_L_isStoppedByMaskOf.cells rm_L_isStoppedByMaskOf.slots (0 + rm_X11_isStoppedByMask.cells) (0 + rm_X11_isStoppedByMask.slots) 16 [some (.ref (tR Θ 0 14)), some (.int a0), some (.int a1), some (.int a2), none] [.ref q9] G9
      refine v_astore (q := 18) hC dL_isStoppedByMaskOf_16 rfl (lvc rfl) (Nat.le_of_ble_eq_true rfl) (Nat.le_of_ble_eq_true rfl) rfl ?_
      refine v_bipush (q := 20) (v := (-101)) hC dL_isStoppedByMaskOf_18 rfl (by decide) ?_
      refine v_iret hC dL_isStoppedByMaskOf_20 hr (rfl) ?_ (Nat.le_of_ble_eq_true rfl) (Nat.le_of_ble_eq_true rfl)
      exact Or.inr ⟨_, _, z9, by first | rfl | decide, rfl⟩
    · refine ⟨1, _, _, rfl, (List.forall_mem_cons.mpr ⟨Or.inr ⟨by decide, _, cl_RL_24, by decide⟩, List.forall_mem_nil _⟩), by decide, by decide, cl_RL_51, by decide, fun q9 => ?_⟩
      show V p l e rm_L_isStoppedByMaskOf s m args below meth c 5 Θ (wP gZ [eX, eA] Qc) rm_L_isStoppedByMaskOf.cells rm_L_isStoppedByMaskOf.slots (0 + rm_X11_isStoppedByMask.cells) (0 + rm_X11_isStoppedByMask.slots) 21 [some (.ref (tR Θ 0 14)), some (.int a0), some (.int a1), some (.int a2), none] [.ref q9] G9
      refine v_astore (q := 23) hC dL_isStoppedByMaskOf_21 rfl (lvc rfl) (Nat.le_of_ble_eq_true rfl) (Nat.le_of_ble_eq_true rfl) rfl ?_
      refine v_bipush (q := 25) (v := (-102)) hC dL_isStoppedByMaskOf_23 rfl (by decide) ?_
      refine v_iret hC dL_isStoppedByMaskOf_25 hr (rfl) ?_ (Nat.le_of_ble_eq_true rfl) (Nat.le_of_ble_eq_true rfl)
      exact Or.inr ⟨_, _, z9, by first | rfl | decide, rfl⟩
  refine v_aload_n (i := 0) (q := 1) hC dL_isStoppedByMaskOf_0 rfl rfl rfl ?_
  refine v_iload_n (i := 1) (q := 2) hC dL_isStoppedByMaskOf_1 rfl rfl rfl ?_
  refine v_iload_n (i := 2) (q := 3) hC dL_isStoppedByMaskOf_2 rfl rfl rfl ?_
  refine v_iload_n (i := 3) (q := 4) hC dL_isStoppedByMaskOf_3 rfl rfl rfl ?_
  refine v_callTry (q := 7) (rm := rm_X11_isStoppedByMask) hC hT hM k_X11_isStoppedByMask im_yX11_isStoppedByMask se_yX11_isStoppedByMask ml_RL_151 dL_isStoppedByMaskOf_4 rfl rfl rfl rfl rfl rfl (Nat.le_of_ble_eq_true rfl) ⟨Nat.le_of_ble_eq_true rfl, Nat.le_of_ble_eq_true rfl⟩ ⟨Nat.le_of_ble_eq_true rfl, Nat.le_of_ble_eq_true rfl⟩ (fun v9 G9 z9 => ?_) HX
  obtain ⟨x9, rfl⟩ := hv _ _ z9
  dsimp only [Option.toList, List.cons_append, List.nil_append]
  refine v_if_eq (q := 14) (q2 := 10) hC dL_isStoppedByMaskOf_7 (by decide) rfl (fun c_7 => ?_) (fun c_7 => ?_)
  · refine v_iconst (q := 15) (v := 0) hC dL_isStoppedByMaskOf_14 rfl (by decide) ?_
    refine v_iret hC dL_isStoppedByMaskOf_15 hr (rfl) ?_ (Nat.le_of_ble_eq_true rfl) (Nat.le_of_ble_eq_true rfl)
    refine Or.inl ⟨x9, _, z9, ?_, rfl⟩
    first | (rw [gZ, if_pos c_7]) | (rw [gZ, if_neg c_7])
  · refine v_iconst (q := 11) (v := 1) hC dL_isStoppedByMaskOf_10 rfl (by decide) ?_
    refine v_goto (q := 15) hC dL_isStoppedByMaskOf_11 (by decide) ?_
    refine v_iret hC dL_isStoppedByMaskOf_15 hr (rfl) ?_ (Nat.le_of_ble_eq_true rfl) (Nat.le_of_ble_eq_true rfl)
    refine Or.inl ⟨x9, _, z9, ?_, rfl⟩
    first | (rw [gZ, if_pos c_7]) | (rw [gZ, if_neg c_7])
theorem kh_L_isStoppedByMaskOf : kH yL_isStoppedByMaskOf cL_isStoppedByMaskOf 5 (some .int) [(0, 15, 16, 24), (0, 15, 21, 51)] 4 := ⟨cw_yL_isStoppedByMaskOf, ⟨by decide, by decide⟩, by decide +kernel, in_RL, st_yL_isStoppedByMaskOf⟩
abbrev rm_L_usersWithOf : Room := { frames := 8, locals := 171, cells := 2, slots := 12 }
set_option maxHeartbeats 4000000 in
set_option maxRecDepth 20000 in
theorem w_L_usersWithOf {l : Launch} (hl : l.stackTraces = false) (Θ : cTH) {Qc : cOut → GS → Prop} (a0 a1 : Int32) (G : GS) (hM : Ct l yX11_usersWith cX11_usersWith 3 (some .int) rm_X11_usersWith Θ [.ref (tR Θ 0 14), .int a0, .int a1] G Qc) (hv : ∀ r G1, Qc (.inl r) G1 → ∃ x : Int32, r = some (.int x)) (hx : ∀ E G1, Qc (.inr E) G1 → E = eX ∨ E = eA) : CtH l yL_usersWithOf cL_usersWithOf 4 (some .int) [(0, 6, 7, 24), (0, 6, 11, 51)] rm_L_usersWithOf Θ [.ref (tR Θ 0 14), .int a0, .int a1] G (wP gI [eX, eA] Qc) := by
  refine cth_of (LS := [some (.ref (tR Θ 0 14)), some (.int a0), some (.int a1), none]) hl (by decide +kernel) rfl rfl (Nat.le_of_ble_eq_true rfl) rfl ?_
  intro p e s m args below meth c hC hr hT
  have HX : ∀ E9 G9, Qc (.inr E9) G9 → ∃ (i : Nat) (x : ExceptionTableEntry) (nm : String), (tableOf [(0, 6, 7, 24), (0, 6, 11, 51)])[i]? = some x ∧ (∀ z ∈ (tableOf [(0, 6, 7, 24), (0, 6, 11, 51)]).take i, covers z 3 = false ∨ (z.catchType ≠ 0 ∧ ∃ nm : String, Cond.classLink RL z.catchType nm ∈ wALL ∧ (E9, nm) ∈ ncW)) ∧ covers x 3 = true ∧ x.catchType ≠ 0 ∧ Cond.classLink RL x.catchType nm ∈ wALL ∧ Cond.castable E9 nm ∈ excW ∧ ∀ q9 : Nat, V p l e rm_L_usersWithOf s m args below meth c 4 Θ (wP gI [eX, eA] Qc) rm_L_usersWithOf.cells rm_L_usersWithOf.slots (0 + rm_X11_usersWith.cells) (0 + rm_X11_usersWith.slots) x.handlerPc [some (.ref (tR Θ 0 14)), some (.int a0), some (.int a1), none] [.ref q9] G9 := by
    intro E9 G9 z9
    rcases hx E9 G9 z9 with rfl | rfl
    · refine ⟨0, _, _, rfl, (fun z hz => absurd hz (by simp)), by decide, by decide, cl_RL_24, by decide, fun q9 => ?_⟩
      show V p l e rm_L_usersWithOf s m args below meth c 4 Θ (wP gI [eX, eA] Qc) rm_L_usersWithOf.cells rm_L_usersWithOf.slots (0 + rm_X11_usersWith.cells) (0 + rm_X11_usersWith.slots) 7 [some (.ref (tR Θ 0 14)), some (.int a0), some (.int a1), none] [.ref q9] G9
      refine v_astore_n (i := 3) (q := 8) hC dL_usersWithOf_7 rfl rfl (lvc rfl) (Nat.le_of_ble_eq_true rfl) (Nat.le_of_ble_eq_true rfl) rfl ?_
      refine v_bipush (q := 10) (v := (-101)) hC dL_usersWithOf_8 rfl (by decide) ?_
      refine v_iret hC dL_usersWithOf_10 hr (rfl) ?_ (Nat.le_of_ble_eq_true rfl) (Nat.le_of_ble_eq_true rfl)
      exact Or.inr ⟨_, _, z9, by first | rfl | decide, rfl⟩
    · refine ⟨1, _, _, rfl, (List.forall_mem_cons.mpr ⟨Or.inr ⟨by decide, _, cl_RL_24, by decide⟩, List.forall_mem_nil _⟩), by decide, by decide, cl_RL_51, by decide, fun q9 => ?_⟩
      show V p l e rm_L_usersWithOf s m args below meth c 4 Θ (wP gI [eX, eA] Qc) rm_L_usersWithOf.cells rm_L_usersWithOf.slots (0 + rm_X11_usersWith.cells) (0 + rm_X11_usersWith.slots) 11 [some (.ref (tR Θ 0 14)), some (.int a0), some (.int a1), none] [.ref q9] G9
      refine v_astore_n (i := 3) (q := 12) hC dL_usersWithOf_11 rfl rfl (lvc rfl) (Nat.le_of_ble_eq_true rfl) (Nat.le_of_ble_eq_true rfl) rfl ?_
      refine v_bipush (q := 14) (v := (-102)) hC dL_usersWithOf_12 rfl (by decide) ?_
      refine v_iret hC dL_usersWithOf_14 hr (rfl) ?_ (Nat.le_of_ble_eq_true rfl) (Nat.le_of_ble_eq_true rfl)
      exact Or.inr ⟨_, _, z9, by first | rfl | decide, rfl⟩
  refine v_aload_n (i := 0) (q := 1) hC dL_usersWithOf_0 rfl rfl rfl ?_
  refine v_iload_n (i := 1) (q := 2) hC dL_usersWithOf_1 rfl rfl rfl ?_
  refine v_iload_n (i := 2) (q := 3) hC dL_usersWithOf_2 rfl rfl rfl ?_
  refine v_callTry (q := 6) (rm := rm_X11_usersWith) hC hT hM k_X11_usersWith im_yX11_usersWith se_yX11_usersWith ml_RL_154 dL_usersWithOf_3 rfl rfl rfl rfl rfl rfl (Nat.le_of_ble_eq_true rfl) ⟨Nat.le_of_ble_eq_true rfl, Nat.le_of_ble_eq_true rfl⟩ ⟨Nat.le_of_ble_eq_true rfl, Nat.le_of_ble_eq_true rfl⟩ (fun v9 G9 z9 => ?_) HX
  obtain ⟨x9, rfl⟩ := hv _ _ z9
  dsimp only [Option.toList, List.cons_append, List.nil_append]
  refine v_iret hC dL_usersWithOf_6 hr (rfl) ?_ (Nat.le_of_ble_eq_true rfl) (Nat.le_of_ble_eq_true rfl)
  exact Or.inl ⟨x9, _, z9, rfl, rfl⟩
theorem kh_L_usersWithOf : kH yL_usersWithOf cL_usersWithOf 4 (some .int) [(0, 6, 7, 24), (0, 6, 11, 51)] 3 := ⟨cw_yL_usersWithOf, ⟨by decide, by decide⟩, by decide +kernel, in_RL, st_yL_usersWithOf⟩
abbrev rm_L_rightsThroughOf : Room := { frames := 8, locals := 172, cells := 2, slots := 12 }
set_option maxHeartbeats 4000000 in
set_option maxRecDepth 20000 in
theorem w_L_rightsThroughOf {l : Launch} (hl : l.stackTraces = false) (Θ : cTH) {Qc : cOut → GS → Prop} (a0 a1 : Int32) (G : GS) (hM : Ct l yX11_rightsThrough cX11_rightsThrough 3 (some .int) rm_X11_rightsThrough Θ [.ref (tR Θ 0 14), .int a0, .int a1] G Qc) (hv : ∀ r G1, Qc (.inl r) G1 → ∃ x : Int32, r = some (.int x)) (hx : ∀ E G1, Qc (.inr E) G1 → E = eX) : CtH l yL_rightsThroughOf cL_rightsThroughOf 4 (some .int) [(0, 6, 7, 24)] rm_L_rightsThroughOf Θ [.ref (tR Θ 0 14), .int a0, .int a1] G (wP gI [eX] Qc) := by
  refine cth_of (LS := [some (.ref (tR Θ 0 14)), some (.int a0), some (.int a1), none]) hl (by decide +kernel) rfl rfl (Nat.le_of_ble_eq_true rfl) rfl ?_
  intro p e s m args below meth c hC hr hT
  have HX : ∀ E9 G9, Qc (.inr E9) G9 → ∃ (i : Nat) (x : ExceptionTableEntry) (nm : String), (tableOf [(0, 6, 7, 24)])[i]? = some x ∧ (∀ z ∈ (tableOf [(0, 6, 7, 24)]).take i, covers z 3 = false ∨ (z.catchType ≠ 0 ∧ ∃ nm : String, Cond.classLink RL z.catchType nm ∈ wALL ∧ (E9, nm) ∈ ncW)) ∧ covers x 3 = true ∧ x.catchType ≠ 0 ∧ Cond.classLink RL x.catchType nm ∈ wALL ∧ Cond.castable E9 nm ∈ excW ∧ ∀ q9 : Nat, V p l e rm_L_rightsThroughOf s m args below meth c 4 Θ (wP gI [eX] Qc) rm_L_rightsThroughOf.cells rm_L_rightsThroughOf.slots (0 + rm_X11_rightsThrough.cells) (0 + rm_X11_rightsThrough.slots) x.handlerPc [some (.ref (tR Θ 0 14)), some (.int a0), some (.int a1), none] [.ref q9] G9 := by
    intro E9 G9 z9
    rcases hx E9 G9 z9 with rfl
    · refine ⟨0, _, _, rfl, (fun z hz => absurd hz (by simp)), by decide, by decide, cl_RL_24, by decide, fun q9 => ?_⟩
      show V p l e rm_L_rightsThroughOf s m args below meth c 4 Θ (wP gI [eX] Qc) rm_L_rightsThroughOf.cells rm_L_rightsThroughOf.slots (0 + rm_X11_rightsThrough.cells) (0 + rm_X11_rightsThrough.slots) 7 [some (.ref (tR Θ 0 14)), some (.int a0), some (.int a1), none] [.ref q9] G9
      refine v_astore_n (i := 3) (q := 8) hC dL_rightsThroughOf_7 rfl rfl (lvc rfl) (Nat.le_of_ble_eq_true rfl) (Nat.le_of_ble_eq_true rfl) rfl ?_
      refine v_bipush (q := 10) (v := (-101)) hC dL_rightsThroughOf_8 rfl (by decide) ?_
      refine v_iret hC dL_rightsThroughOf_10 hr (rfl) ?_ (Nat.le_of_ble_eq_true rfl) (Nat.le_of_ble_eq_true rfl)
      exact Or.inr ⟨_, _, z9, by first | rfl | decide, rfl⟩
  refine v_aload_n (i := 0) (q := 1) hC dL_rightsThroughOf_0 rfl rfl rfl ?_
  refine v_iload_n (i := 1) (q := 2) hC dL_rightsThroughOf_1 rfl rfl rfl ?_
  refine v_iload_n (i := 2) (q := 3) hC dL_rightsThroughOf_2 rfl rfl rfl ?_
  refine v_callTry (q := 6) (rm := rm_X11_rightsThrough) hC hT hM k_X11_rightsThrough im_yX11_rightsThrough se_yX11_rightsThrough ml_RL_157 dL_rightsThroughOf_3 rfl rfl rfl rfl rfl rfl (Nat.le_of_ble_eq_true rfl) ⟨Nat.le_of_ble_eq_true rfl, Nat.le_of_ble_eq_true rfl⟩ ⟨Nat.le_of_ble_eq_true rfl, Nat.le_of_ble_eq_true rfl⟩ (fun v9 G9 z9 => ?_) HX
  obtain ⟨x9, rfl⟩ := hv _ _ z9
  dsimp only [Option.toList, List.cons_append, List.nil_append]
  refine v_iret hC dL_rightsThroughOf_6 hr (rfl) ?_ (Nat.le_of_ble_eq_true rfl) (Nat.le_of_ble_eq_true rfl)
  exact Or.inl ⟨x9, _, z9, rfl, rfl⟩
theorem kh_L_rightsThroughOf : kH yL_rightsThroughOf cL_rightsThroughOf 4 (some .int) [(0, 6, 7, 24)] 3 := ⟨cw_yL_rightsThroughOf, ⟨by decide, by decide⟩, by decide +kernel, in_RL, st_yL_rightsThroughOf⟩
abbrev rm_L_isNeedlessOf : Room := { frames := 9, locals := 173, cells := 2, slots := 12 }
set_option maxHeartbeats 4000000 in
set_option maxRecDepth 20000 in
theorem w_L_isNeedlessOf {l : Launch} (hl : l.stackTraces = false) (Θ : cTH) {Qc : cOut → GS → Prop} (a0 a1 : Int32) (G : GS) (hM : Ct l yX11_isNeedless cX11_isNeedless 5 (some .boolean) rm_X11_isNeedless Θ [.ref (tR Θ 0 14), .int a0, .int a1] G Qc) (hv : ∀ r G1, Qc (.inl r) G1 → ∃ x : Int32, r = some (.int x)) (hx : ∀ E G1, Qc (.inr E) G1 → E = eX) : CtH l yL_isNeedlessOf cL_isNeedlessOf 4 (some .int) [(0, 14, 15, 24)] rm_L_isNeedlessOf Θ [.ref (tR Θ 0 14), .int a0, .int a1] G (wP gZ [eX] Qc) := by
  refine cth_of (LS := [some (.ref (tR Θ 0 14)), some (.int a0), some (.int a1), none]) hl (by decide +kernel) rfl rfl (Nat.le_of_ble_eq_true rfl) rfl ?_
  intro p e s m args below meth c hC hr hT
  have HX : ∀ E9 G9, Qc (.inr E9) G9 → ∃ (i : Nat) (x : ExceptionTableEntry) (nm : String), (tableOf [(0, 14, 15, 24)])[i]? = some x ∧ (∀ z ∈ (tableOf [(0, 14, 15, 24)]).take i, covers z 3 = false ∨ (z.catchType ≠ 0 ∧ ∃ nm : String, Cond.classLink RL z.catchType nm ∈ wALL ∧ (E9, nm) ∈ ncW)) ∧ covers x 3 = true ∧ x.catchType ≠ 0 ∧ Cond.classLink RL x.catchType nm ∈ wALL ∧ Cond.castable E9 nm ∈ excW ∧ ∀ q9 : Nat, V p l e rm_L_isNeedlessOf s m args below meth c 4 Θ (wP gZ [eX] Qc) rm_L_isNeedlessOf.cells rm_L_isNeedlessOf.slots (0 + rm_X11_isNeedless.cells) (0 + rm_X11_isNeedless.slots) x.handlerPc [some (.ref (tR Θ 0 14)), some (.int a0), some (.int a1), none] [.ref q9] G9 := by
    intro E9 G9 z9
    rcases hx E9 G9 z9 with rfl
    · refine ⟨0, _, _, rfl, (fun z hz => absurd hz (by simp)), by decide, by decide, cl_RL_24, by decide, fun q9 => ?_⟩
      show V p l e rm_L_isNeedlessOf s m args below meth c 4 Θ (wP gZ [eX] Qc) rm_L_isNeedlessOf.cells rm_L_isNeedlessOf.slots (0 + rm_X11_isNeedless.cells) (0 + rm_X11_isNeedless.slots) 15 [some (.ref (tR Θ 0 14)), some (.int a0), some (.int a1), none] [.ref q9] G9
      refine v_astore_n (i := 3) (q := 16) hC dL_isNeedlessOf_15 rfl rfl (lvc rfl) (Nat.le_of_ble_eq_true rfl) (Nat.le_of_ble_eq_true rfl) rfl ?_
      refine v_bipush (q := 18) (v := (-101)) hC dL_isNeedlessOf_16 rfl (by decide) ?_
      refine v_iret hC dL_isNeedlessOf_18 hr (rfl) ?_ (Nat.le_of_ble_eq_true rfl) (Nat.le_of_ble_eq_true rfl)
      exact Or.inr ⟨_, _, z9, by first | rfl | decide, rfl⟩
  refine v_aload_n (i := 0) (q := 1) hC dL_isNeedlessOf_0 rfl rfl rfl ?_
  refine v_iload_n (i := 1) (q := 2) hC dL_isNeedlessOf_1 rfl rfl rfl ?_
  refine v_iload_n (i := 2) (q := 3) hC dL_isNeedlessOf_2 rfl rfl rfl ?_
  refine v_callTry (q := 6) (rm := rm_X11_isNeedless) hC hT hM k_X11_isNeedless im_yX11_isNeedless se_yX11_isNeedless ml_RL_160 dL_isNeedlessOf_3 rfl rfl rfl rfl rfl rfl (Nat.le_of_ble_eq_true rfl) ⟨Nat.le_of_ble_eq_true rfl, Nat.le_of_ble_eq_true rfl⟩ ⟨Nat.le_of_ble_eq_true rfl, Nat.le_of_ble_eq_true rfl⟩ (fun v9 G9 z9 => ?_) HX
  obtain ⟨x9, rfl⟩ := hv _ _ z9
  dsimp only [Option.toList, List.cons_append, List.nil_append]
  refine v_if_eq (q := 13) (q2 := 9) hC dL_isNeedlessOf_6 (by decide) rfl (fun c_6 => ?_) (fun c_6 => ?_)
  · refine v_iconst (q := 14) (v := 0) hC dL_isNeedlessOf_13 rfl (by decide) ?_
    refine v_iret hC dL_isNeedlessOf_14 hr (rfl) ?_ (Nat.le_of_ble_eq_true rfl) (Nat.le_of_ble_eq_true rfl)
    refine Or.inl ⟨x9, _, z9, ?_, rfl⟩
    first | (rw [gZ, if_pos c_6]) | (rw [gZ, if_neg c_6])
  · refine v_iconst (q := 10) (v := 1) hC dL_isNeedlessOf_9 rfl (by decide) ?_
    refine v_goto (q := 14) hC dL_isNeedlessOf_10 (by decide) ?_
    refine v_iret hC dL_isNeedlessOf_14 hr (rfl) ?_ (Nat.le_of_ble_eq_true rfl) (Nat.le_of_ble_eq_true rfl)
    refine Or.inl ⟨x9, _, z9, ?_, rfl⟩
    first | (rw [gZ, if_pos c_6]) | (rw [gZ, if_neg c_6])
theorem kh_L_isNeedlessOf : kH yL_isNeedlessOf cL_isNeedlessOf 4 (some .int) [(0, 14, 15, 24)] 3 := ⟨cw_yL_isNeedlessOf, ⟨by decide, by decide⟩, by decide +kernel, in_RL, st_yL_isNeedlessOf⟩
abbrev rm_L_userOfRequestOf : Room := { frames := 8, locals := 132, cells := 1, slots := 6 }
set_option maxHeartbeats 4000000 in
set_option maxRecDepth 20000 in
theorem w_L_userOfRequestOf {l : Launch} (hl : l.stackTraces = false) (Θ : cTH) {Qc : cOut → GS → Prop} (a0 : Int32) (G : GS) (hM : Ct l yX11_userOfRequest cX11_userOfRequest 2 (some .int) rm_X11_userOfRequest Θ [.ref (tR Θ 0 14), .int a0] G Qc) (hv : ∀ r G1, Qc (.inl r) G1 → ∃ x : Int32, r = some (.int x)) (hx : ∀ E G1, Qc (.inr E) G1 → E = eX) : CtH l yL_userOfRequestOf cL_userOfRequestOf 3 (some .int) [(0, 5, 6, 24)] rm_L_userOfRequestOf Θ [.ref (tR Θ 0 14), .int a0] G (wP gI [eX] Qc) := by
  refine cth_of (LS := [some (.ref (tR Θ 0 14)), some (.int a0), none]) hl (by decide +kernel) rfl rfl (Nat.le_of_ble_eq_true rfl) rfl ?_
  intro p e s m args below meth c hC hr hT
  have HX : ∀ E9 G9, Qc (.inr E9) G9 → ∃ (i : Nat) (x : ExceptionTableEntry) (nm : String), (tableOf [(0, 5, 6, 24)])[i]? = some x ∧ (∀ z ∈ (tableOf [(0, 5, 6, 24)]).take i, covers z 2 = false ∨ (z.catchType ≠ 0 ∧ ∃ nm : String, Cond.classLink RL z.catchType nm ∈ wALL ∧ (E9, nm) ∈ ncW)) ∧ covers x 2 = true ∧ x.catchType ≠ 0 ∧ Cond.classLink RL x.catchType nm ∈ wALL ∧ Cond.castable E9 nm ∈ excW ∧ ∀ q9 : Nat, V p l e rm_L_userOfRequestOf s m args below meth c 3 Θ (wP gI [eX] Qc) rm_L_userOfRequestOf.cells rm_L_userOfRequestOf.slots (0 + rm_X11_userOfRequest.cells) (0 + rm_X11_userOfRequest.slots) x.handlerPc [some (.ref (tR Θ 0 14)), some (.int a0), none] [.ref q9] G9 := by
    intro E9 G9 z9
    rcases hx E9 G9 z9 with rfl
    · refine ⟨0, _, _, rfl, (fun z hz => absurd hz (by simp)), by decide, by decide, cl_RL_24, by decide, fun q9 => ?_⟩
      show V p l e rm_L_userOfRequestOf s m args below meth c 3 Θ (wP gI [eX] Qc) rm_L_userOfRequestOf.cells rm_L_userOfRequestOf.slots (0 + rm_X11_userOfRequest.cells) (0 + rm_X11_userOfRequest.slots) 6 [some (.ref (tR Θ 0 14)), some (.int a0), none] [.ref q9] G9
      refine v_astore_n (i := 2) (q := 7) hC dL_userOfRequestOf_6 rfl rfl (lvc rfl) (Nat.le_of_ble_eq_true rfl) (Nat.le_of_ble_eq_true rfl) rfl ?_
      refine v_bipush (q := 9) (v := (-101)) hC dL_userOfRequestOf_7 rfl (by decide) ?_
      refine v_iret hC dL_userOfRequestOf_9 hr (rfl) ?_ (Nat.le_of_ble_eq_true rfl) (Nat.le_of_ble_eq_true rfl)
      exact Or.inr ⟨_, _, z9, by first | rfl | decide, rfl⟩
  refine v_aload_n (i := 0) (q := 1) hC dL_userOfRequestOf_0 rfl rfl rfl ?_
  refine v_iload_n (i := 1) (q := 2) hC dL_userOfRequestOf_1 rfl rfl rfl ?_
  refine v_callTry (q := 5) (rm := rm_X11_userOfRequest) hC hT hM k_X11_userOfRequest im_yX11_userOfRequest se_yX11_userOfRequest ml_RL_163 dL_userOfRequestOf_2 rfl rfl rfl rfl rfl rfl (Nat.le_of_ble_eq_true rfl) ⟨Nat.le_of_ble_eq_true rfl, Nat.le_of_ble_eq_true rfl⟩ ⟨Nat.le_of_ble_eq_true rfl, Nat.le_of_ble_eq_true rfl⟩ (fun v9 G9 z9 => ?_) HX
  obtain ⟨x9, rfl⟩ := hv _ _ z9
  dsimp only [Option.toList, List.cons_append, List.nil_append]
  refine v_iret hC dL_userOfRequestOf_5 hr (rfl) ?_ (Nat.le_of_ble_eq_true rfl) (Nat.le_of_ble_eq_true rfl)
  exact Or.inl ⟨x9, _, z9, rfl, rfl⟩
theorem kh_L_userOfRequestOf : kH yL_userOfRequestOf cL_userOfRequestOf 3 (some .int) [(0, 5, 6, 24)] 2 := ⟨cw_yL_userOfRequestOf, ⟨by decide, by decide⟩, by decide +kernel, in_RL, st_yL_userOfRequestOf⟩
abbrev rm_L_objectOfRequestOf : Room := { frames := 8, locals := 132, cells := 1, slots := 6 }
set_option maxHeartbeats 4000000 in
set_option maxRecDepth 20000 in
theorem w_L_objectOfRequestOf {l : Launch} (hl : l.stackTraces = false) (Θ : cTH) {Qc : cOut → GS → Prop} (a0 : Int32) (G : GS) (hM : Ct l yX11_objectOfRequest cX11_objectOfRequest 2 (some .int) rm_X11_objectOfRequest Θ [.ref (tR Θ 0 14), .int a0] G Qc) (hv : ∀ r G1, Qc (.inl r) G1 → ∃ x : Int32, r = some (.int x)) (hx : ∀ E G1, Qc (.inr E) G1 → E = eX) : CtH l yL_objectOfRequestOf cL_objectOfRequestOf 3 (some .int) [(0, 5, 6, 24)] rm_L_objectOfRequestOf Θ [.ref (tR Θ 0 14), .int a0] G (wP gI [eX] Qc) := by
  refine cth_of (LS := [some (.ref (tR Θ 0 14)), some (.int a0), none]) hl (by decide +kernel) rfl rfl (Nat.le_of_ble_eq_true rfl) rfl ?_
  intro p e s m args below meth c hC hr hT
  have HX : ∀ E9 G9, Qc (.inr E9) G9 → ∃ (i : Nat) (x : ExceptionTableEntry) (nm : String), (tableOf [(0, 5, 6, 24)])[i]? = some x ∧ (∀ z ∈ (tableOf [(0, 5, 6, 24)]).take i, covers z 2 = false ∨ (z.catchType ≠ 0 ∧ ∃ nm : String, Cond.classLink RL z.catchType nm ∈ wALL ∧ (E9, nm) ∈ ncW)) ∧ covers x 2 = true ∧ x.catchType ≠ 0 ∧ Cond.classLink RL x.catchType nm ∈ wALL ∧ Cond.castable E9 nm ∈ excW ∧ ∀ q9 : Nat, V p l e rm_L_objectOfRequestOf s m args below meth c 3 Θ (wP gI [eX] Qc) rm_L_objectOfRequestOf.cells rm_L_objectOfRequestOf.slots (0 + rm_X11_objectOfRequest.cells) (0 + rm_X11_objectOfRequest.slots) x.handlerPc [some (.ref (tR Θ 0 14)), some (.int a0), none] [.ref q9] G9 := by
    intro E9 G9 z9
    rcases hx E9 G9 z9 with rfl
    · refine ⟨0, _, _, rfl, (fun z hz => absurd hz (by simp)), by decide, by decide, cl_RL_24, by decide, fun q9 => ?_⟩
      show V p l e rm_L_objectOfRequestOf s m args below meth c 3 Θ (wP gI [eX] Qc) rm_L_objectOfRequestOf.cells rm_L_objectOfRequestOf.slots (0 + rm_X11_objectOfRequest.cells) (0 + rm_X11_objectOfRequest.slots) 6 [some (.ref (tR Θ 0 14)), some (.int a0), none] [.ref q9] G9
      refine v_astore_n (i := 2) (q := 7) hC dL_objectOfRequestOf_6 rfl rfl (lvc rfl) (Nat.le_of_ble_eq_true rfl) (Nat.le_of_ble_eq_true rfl) rfl ?_
      refine v_bipush (q := 9) (v := (-101)) hC dL_objectOfRequestOf_7 rfl (by decide) ?_
      refine v_iret hC dL_objectOfRequestOf_9 hr (rfl) ?_ (Nat.le_of_ble_eq_true rfl) (Nat.le_of_ble_eq_true rfl)
      exact Or.inr ⟨_, _, z9, by first | rfl | decide, rfl⟩
  refine v_aload_n (i := 0) (q := 1) hC dL_objectOfRequestOf_0 rfl rfl rfl ?_
  refine v_iload_n (i := 1) (q := 2) hC dL_objectOfRequestOf_1 rfl rfl rfl ?_
  refine v_callTry (q := 5) (rm := rm_X11_objectOfRequest) hC hT hM k_X11_objectOfRequest im_yX11_objectOfRequest se_yX11_objectOfRequest ml_RL_166 dL_objectOfRequestOf_2 rfl rfl rfl rfl rfl rfl (Nat.le_of_ble_eq_true rfl) ⟨Nat.le_of_ble_eq_true rfl, Nat.le_of_ble_eq_true rfl⟩ ⟨Nat.le_of_ble_eq_true rfl, Nat.le_of_ble_eq_true rfl⟩ (fun v9 G9 z9 => ?_) HX
  obtain ⟨x9, rfl⟩ := hv _ _ z9
  dsimp only [Option.toList, List.cons_append, List.nil_append]
  refine v_iret hC dL_objectOfRequestOf_5 hr (rfl) ?_ (Nat.le_of_ble_eq_true rfl) (Nat.le_of_ble_eq_true rfl)
  exact Or.inl ⟨x9, _, z9, rfl, rfl⟩
theorem kh_L_objectOfRequestOf : kH yL_objectOfRequestOf cL_objectOfRequestOf 3 (some .int) [(0, 5, 6, 24)] 2 := ⟨cw_yL_objectOfRequestOf, ⟨by decide, by decide⟩, by decide +kernel, in_RL, st_yL_objectOfRequestOf⟩
abbrev rm_L_wasAllowedOf : Room := { frames := 8, locals := 132, cells := 1, slots := 6 }
set_option maxHeartbeats 4000000 in
set_option maxRecDepth 20000 in
theorem w_L_wasAllowedOf {l : Launch} (hl : l.stackTraces = false) (Θ : cTH) {Qc : cOut → GS → Prop} (a0 : Int32) (G : GS) (hM : Ct l yX11_wasAllowed cX11_wasAllowed 2 (some .boolean) rm_X11_wasAllowed Θ [.ref (tR Θ 0 14), .int a0] G Qc) (hv : ∀ r G1, Qc (.inl r) G1 → ∃ x : Int32, r = some (.int x)) (hx : ∀ E G1, Qc (.inr E) G1 → E = eX) : CtH l yL_wasAllowedOf cL_wasAllowedOf 3 (some .int) [(0, 13, 14, 24)] rm_L_wasAllowedOf Θ [.ref (tR Θ 0 14), .int a0] G (wP gZ [eX] Qc) := by
  refine cth_of (LS := [some (.ref (tR Θ 0 14)), some (.int a0), none]) hl (by decide +kernel) rfl rfl (Nat.le_of_ble_eq_true rfl) rfl ?_
  intro p e s m args below meth c hC hr hT
  have HX : ∀ E9 G9, Qc (.inr E9) G9 → ∃ (i : Nat) (x : ExceptionTableEntry) (nm : String), (tableOf [(0, 13, 14, 24)])[i]? = some x ∧ (∀ z ∈ (tableOf [(0, 13, 14, 24)]).take i, covers z 2 = false ∨ (z.catchType ≠ 0 ∧ ∃ nm : String, Cond.classLink RL z.catchType nm ∈ wALL ∧ (E9, nm) ∈ ncW)) ∧ covers x 2 = true ∧ x.catchType ≠ 0 ∧ Cond.classLink RL x.catchType nm ∈ wALL ∧ Cond.castable E9 nm ∈ excW ∧ ∀ q9 : Nat, V p l e rm_L_wasAllowedOf s m args below meth c 3 Θ (wP gZ [eX] Qc) rm_L_wasAllowedOf.cells rm_L_wasAllowedOf.slots (0 + rm_X11_wasAllowed.cells) (0 + rm_X11_wasAllowed.slots) x.handlerPc [some (.ref (tR Θ 0 14)), some (.int a0), none] [.ref q9] G9 := by
    intro E9 G9 z9
    rcases hx E9 G9 z9 with rfl
    · refine ⟨0, _, _, rfl, (fun z hz => absurd hz (by simp)), by decide, by decide, cl_RL_24, by decide, fun q9 => ?_⟩
      show V p l e rm_L_wasAllowedOf s m args below meth c 3 Θ (wP gZ [eX] Qc) rm_L_wasAllowedOf.cells rm_L_wasAllowedOf.slots (0 + rm_X11_wasAllowed.cells) (0 + rm_X11_wasAllowed.slots) 14 [some (.ref (tR Θ 0 14)), some (.int a0), none] [.ref q9] G9
      refine v_astore_n (i := 2) (q := 15) hC dL_wasAllowedOf_14 rfl rfl (lvc rfl) (Nat.le_of_ble_eq_true rfl) (Nat.le_of_ble_eq_true rfl) rfl ?_
      refine v_bipush (q := 17) (v := (-101)) hC dL_wasAllowedOf_15 rfl (by decide) ?_
      refine v_iret hC dL_wasAllowedOf_17 hr (rfl) ?_ (Nat.le_of_ble_eq_true rfl) (Nat.le_of_ble_eq_true rfl)
      exact Or.inr ⟨_, _, z9, by first | rfl | decide, rfl⟩
  refine v_aload_n (i := 0) (q := 1) hC dL_wasAllowedOf_0 rfl rfl rfl ?_
  refine v_iload_n (i := 1) (q := 2) hC dL_wasAllowedOf_1 rfl rfl rfl ?_
  refine v_callTry (q := 5) (rm := rm_X11_wasAllowed) hC hT hM k_X11_wasAllowed im_yX11_wasAllowed se_yX11_wasAllowed ml_RL_169 dL_wasAllowedOf_2 rfl rfl rfl rfl rfl rfl (Nat.le_of_ble_eq_true rfl) ⟨Nat.le_of_ble_eq_true rfl, Nat.le_of_ble_eq_true rfl⟩ ⟨Nat.le_of_ble_eq_true rfl, Nat.le_of_ble_eq_true rfl⟩ (fun v9 G9 z9 => ?_) HX
  obtain ⟨x9, rfl⟩ := hv _ _ z9
  dsimp only [Option.toList, List.cons_append, List.nil_append]
  refine v_if_eq (q := 12) (q2 := 8) hC dL_wasAllowedOf_5 (by decide) rfl (fun c_5 => ?_) (fun c_5 => ?_)
  · refine v_iconst (q := 13) (v := 0) hC dL_wasAllowedOf_12 rfl (by decide) ?_
    refine v_iret hC dL_wasAllowedOf_13 hr (rfl) ?_ (Nat.le_of_ble_eq_true rfl) (Nat.le_of_ble_eq_true rfl)
    refine Or.inl ⟨x9, _, z9, ?_, rfl⟩
    first | (rw [gZ, if_pos c_5]) | (rw [gZ, if_neg c_5])
  · refine v_iconst (q := 9) (v := 1) hC dL_wasAllowedOf_8 rfl (by decide) ?_
    refine v_goto (q := 13) hC dL_wasAllowedOf_9 (by decide) ?_
    refine v_iret hC dL_wasAllowedOf_13 hr (rfl) ?_ (Nat.le_of_ble_eq_true rfl) (Nat.le_of_ble_eq_true rfl)
    refine Or.inl ⟨x9, _, z9, ?_, rfl⟩
    first | (rw [gZ, if_pos c_5]) | (rw [gZ, if_neg c_5])
theorem kh_L_wasAllowedOf : kH yL_wasAllowedOf cL_wasAllowedOf 3 (some .int) [(0, 13, 14, 24)] 2 := ⟨cw_yL_wasAllowedOf, ⟨by decide, by decide⟩, by decide +kernel, in_RL, st_yL_wasAllowedOf⟩
theorem k_L_cell : kY yL_cell cL_cell 2 (some .int) 2 := ⟨cd_yL_cell, ⟨by decide, by decide⟩, by decide +kernel, in_RL⟩
abbrev rm_L_cell : Room := { frames := 0, locals := 0, cells := 0, slots := 0 }
theorem k_L_has : kY yL_has cL_has 2 (some .boolean) 2 := ⟨cd_yL_has, ⟨by decide, by decide⟩, by decide +kernel, in_RL⟩
abbrev rm_L_has : Room := { frames := 0, locals := 0, cells := 0, slots := 0 }
theorem k_L_within : kY yL_within cL_within 5 (some .int) 2 := ⟨cd_yL_within, ⟨by decide, by decide⟩, by decide +kernel, in_RL⟩
abbrev rm_L_within : Room := { frames := 1, locals := 21, cells := 0, slots := 0 }
theorem k_L_belong : kY yL_belong cL_belong 5 (some .int) 2 := ⟨cd_yL_belong, ⟨by decide, by decide⟩, by decide +kernel, in_RL⟩
abbrev rm_L_belong : Room := { frames := 2, locals := 45, cells := 0, slots := 0 }
theorem k_L_many : kY yL_many cL_many 3 (some .int) 1 := ⟨cd_yL_many, ⟨by decide, by decide⟩, by decide +kernel, in_RL⟩
abbrev rm_L_many : Room := { frames := 0, locals := 0, cells := 0, slots := 0 }
theorem k_L_isFor : kY yL_isFor cL_isFor 7 (some .boolean) 5 := ⟨cd_yL_isFor, ⟨by decide, by decide⟩, by decide +kernel, in_RL⟩
abbrev rm_L_isFor : Room := { frames := 3, locals := 69, cells := 0, slots := 0 }
theorem k_L_deciding : kY yL_deciding cL_deciding 13 (some .int) 6 := ⟨cd_yL_deciding, ⟨by decide, by decide⟩, by decide +kernel, in_RL⟩
abbrev rm_L_deciding : Room := { frames := 4, locals := 95, cells := 0, slots := 0 }
theorem k_L_allowed : kY yL_allowed cL_allowed 7 (some .boolean) 6 := ⟨cd_yL_allowed, ⟨by decide, by decide⟩, by decide +kernel, in_RL⟩
abbrev rm_L_allowed : Room := { frames := 5, locals := 127, cells := 0, slots := 0 }
theorem k_L_rights : kY yL_rights cL_rights 7 (some .int) 5 := ⟨cd_yL_rights, ⟨by decide, by decide⟩, by decide +kernel, in_RL⟩
abbrev rm_L_rights : Room := { frames := 6, locals := 153, cells := 0, slots := 0 }
theorem k_L_notes : kY yL_notes cL_notes 9 none 5 := ⟨cd_yL_notes, ⟨by decide, by decide⟩, by decide +kernel, in_RL⟩
abbrev rm_L_notes : Room := { frames := 7, locals := 179, cells := 0, slots := 0 }
theorem k_L_unlike : kY yL_unlike cL_unlike 5 (some .int) 2 := ⟨cd_yL_unlike, ⟨by decide, by decide⟩, by decide +kernel, in_RL⟩
abbrev rm_L_unlike : Room := { frames := 0, locals := 0, cells := 0, slots := 0 }
theorem k_L_isUnder : kY yL_isUnder cL_isUnder 4 (some .boolean) 3 := ⟨cd_yL_isUnder, ⟨by decide, by decide⟩, by decide +kernel, in_RL⟩
abbrev rm_L_isUnder : Room := { frames := 0, locals := 0, cells := 0, slots := 0 }
theorem k_L_areGroups : kY yL_areGroups cL_areGroups 8 (some .boolean) 3 := ⟨cd_yL_areGroups, ⟨by decide, by decide⟩, by decide +kernel, in_RL⟩
theorem k_L_areObjects : kY yL_areObjects cL_areObjects 13 (some .boolean) 4 := ⟨cd_yL_areObjects, ⟨by decide, by decide⟩, by decide +kernel, in_RL⟩
theorem k_L_areRights : kY yL_areRights cL_areRights 14 (some .boolean) 7 := ⟨cd_yL_areRights, ⟨by decide, by decide⟩, by decide +kernel, in_RL⟩
theorem k_L_areSums : kY yL_areSums cL_areSums 13 (some .boolean) 6 := ⟨cd_yL_areSums, ⟨by decide, by decide⟩, by decide +kernel, in_RL⟩
theorem k_L_isNeedless : kY yL_isNeedless cL_isNeedless 10 (some .boolean) 7 := ⟨cd_yL_isNeedless, ⟨by decide, by decide⟩, by decide +kernel, in_RL⟩
theorem k_L_isLog : kY yL_isLog cL_isLog 7 (some .boolean) 3 := ⟨cd_yL_isLog, ⟨by decide, by decide⟩, by decide +kernel, in_RL⟩
theorem k_L_ofGroups : kY yL_ofGroups cL_ofGroups 12 (some .boolean) 5 := ⟨cd_yL_ofGroups, ⟨by decide, by decide⟩, by decide +kernel, in_RL⟩
theorem k_L_ofObjects : kY yL_ofObjects cL_ofObjects 11 (some .boolean) 5 := ⟨cd_yL_ofObjects, ⟨by decide, by decide⟩, by decide +kernel, in_RL⟩
theorem k_L_ofEntries : kY yL_ofEntries cL_ofEntries 21 (some .boolean) 7 := ⟨cd_yL_ofEntries, ⟨by decide, by decide⟩, by decide +kernel, in_RL⟩
theorem k_L_ofRequests : kY yL_ofRequests cL_ofRequests 16 (some .boolean) 8 := ⟨cd_yL_ofRequests, ⟨by decide, by decide⟩, by decide +kernel, in_RL⟩
