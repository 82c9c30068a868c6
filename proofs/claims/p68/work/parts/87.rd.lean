/-! the answers of the operations that only read -/
theorem r_parentOf {l : Launch} (hl : l.stackTraces = false) (Θ : cTH) {G0 G : GS} {t : Nat} (h0 : Nx G0 G t) (ht : t < 2 ^ 20) (a0 : Int32) : CtR l yL_parentOfOf cL_parentOfOf 3 (some .int) [(0, 5, 6, 24)] rm_L_parentOfOf Θ [.ref (tR Θ 0 14), .int a0] G (rQ G0 t (if (mHold (G0.2.1 0 30) a0) = true then (gI (G0.2.1 0 30 (oA a0.toNatClampNeg 1))) else -101)) := by
  have hS := h0.1
  have hO := op_parentOf hS ht a0
  refine ⟨_, w_L_parentOfOf hl Θ a0 G (c_X11_parentOf hl Θ a0 G) hO.v (fun E G9 h9 => mem1 (hO.2 E G9 h9).1), rd_gen hO h0 (fun _ _ => gI_f) cd1 fun Y hY => ?_⟩
  by_cases c0 : (mHold (G0.2.1 0 30) a0) = true
  · rw [if_pos c0]
    refine ⟨0, _, ?_, rfl⟩
    try dsimp only
    try unfold mOv
    try unfold mQ3
    try unfold mOGQ
    rw [hY, mg_t c0]
    exact ⟨rfl, rfl⟩
  · rw [if_neg c0]
    refine ⟨1, 0, ?_, rfl⟩
    try dsimp only
    try unfold mOv
    try unfold mQ3
    try unfold mOGQ
    rw [hY]
    unfold mg
    rw [if_neg c0]
    exact ⟨rfl, rfl⟩
theorem r_ownerOf {l : Launch} (hl : l.stackTraces = false) (Θ : cTH) {G0 G : GS} {t : Nat} (h0 : Nx G0 G t) (ht : t < 2 ^ 20) (a0 : Int32) : CtR l yL_ownerOfOf cL_ownerOfOf 3 (some .int) [(0, 5, 6, 24)] rm_L_ownerOfOf Θ [.ref (tR Θ 0 14), .int a0] G (rQ G0 t (if (mHold (G0.2.1 0 30) a0) = true then (gI (G0.2.1 0 30 (oA a0.toNatClampNeg 2))) else -101)) := by
  have hS := h0.1
  have hO := op_ownerOf hS ht a0
  refine ⟨_, w_L_ownerOfOf hl Θ a0 G (c_X11_ownerOf hl Θ a0 G) hO.v (fun E G9 h9 => mem1 (hO.2 E G9 h9).1), rd_gen hO h0 (fun _ _ => gI_f) cd1 fun Y hY => ?_⟩
  by_cases c0 : (mHold (G0.2.1 0 30) a0) = true
  · rw [if_pos c0]
    refine ⟨0, _, ?_, rfl⟩
    try dsimp only
    try unfold mOv
    try unfold mQ3
    try unfold mOGQ
    rw [hY, mg_t c0]
    exact ⟨rfl, rfl⟩
  · rw [if_neg c0]
    refine ⟨1, 0, ?_, rfl⟩
    try dsimp only
    try unfold mOv
    try unfold mQ3
    try unfold mOGQ
    rw [hY]
    unfold mg
    rw [if_neg c0]
    exact ⟨rfl, rfl⟩
theorem r_maskOf {l : Launch} (hl : l.stackTraces = false) (Θ : cTH) {G0 G : GS} {t : Nat} (h0 : Nx G0 G t) (ht : t < 2 ^ 20) (a0 : Int32) : CtR l yL_maskOfOf cL_maskOfOf 3 (some .int) [(0, 5, 6, 24)] rm_L_maskOfOf Θ [.ref (tR Θ 0 14), .int a0] G (rQ G0 t (if (mHold (G0.2.1 0 30) a0) = true then (gI (G0.2.1 0 30 (oA a0.toNatClampNeg 3))) else -101)) := by
  have hS := h0.1
  have hO := op_maskOf hS ht a0
  refine ⟨_, w_L_maskOfOf hl Θ a0 G (c_X11_maskOf hl Θ a0 G) hO.v (fun E G9 h9 => mem1 (hO.2 E G9 h9).1), rd_gen hO h0 (fun _ _ => gI_f) cd1 fun Y hY => ?_⟩
  by_cases c0 : (mHold (G0.2.1 0 30) a0) = true
  · rw [if_pos c0]
    refine ⟨0, _, ?_, rfl⟩
    try dsimp only
    try unfold mOv
    try unfold mQ3
    try unfold mOGQ
    rw [hY, mg_t c0]
    exact ⟨rfl, rfl⟩
  · rw [if_neg c0]
    refine ⟨1, 0, ?_, rfl⟩
    try dsimp only
    try unfold mOv
    try unfold mQ3
    try unfold mOGQ
    rw [hY]
    unfold mg
    rw [if_neg c0]
    exact ⟨rfl, rfl⟩
theorem r_isInheriting {l : Launch} (hl : l.stackTraces = false) (Θ : cTH) {G0 G : GS} {t : Nat} (h0 : Nx G0 G t) (ht : t < 2 ^ 20) (a0 : Int32) : CtR l yL_isInheritingOf cL_isInheritingOf 3 (some .int) [(0, 13, 14, 24)] rm_L_isInheritingOf Θ [.ref (tR Θ 0 14), .int a0] G (rQ G0 t (if (mHold (G0.2.1 0 30) a0) = true then (gZ (b2i (decide (G0.2.1 0 30 (oA a0.toNatClampNeg 4) = 1)))) else -101)) := by
  have hS := h0.1
  have hO := op_isInheriting hS ht a0
  refine ⟨_, w_L_isInheritingOf hl Θ a0 G (c_X11_isInheriting hl Θ a0 G) hO.v (fun E G9 h9 => mem1 (hO.2 E G9 h9).1), rd_gen hO h0 (fun _ _ => gZ_f) cd1 fun Y hY => ?_⟩
  by_cases c0 : (mHold (G0.2.1 0 30) a0) = true
  · rw [if_pos c0]
    refine ⟨0, _, ?_, rfl⟩
    try dsimp only
    try unfold mOv
    try unfold mQ3
    try unfold mOGQ
    rw [hY, mg_t c0]
    exact ⟨rfl, rfl⟩
  · rw [if_neg c0]
    refine ⟨1, 0, ?_, rfl⟩
    try dsimp only
    try unfold mOv
    try unfold mQ3
    try unfold mOGQ
    rw [hY]
    unfold mg
    rw [if_neg c0]
    exact ⟨rfl, rfl⟩
theorem r_below {l : Launch} (hl : l.stackTraces = false) (Θ : cTH) {G0 G : GS} {t : Nat} (h0 : Nx G0 G t) (ht : t < 2 ^ 20) (a0 : Int32) : CtR l yL_belowOf cL_belowOf 3 (some .int) [(0, 5, 6, 24)] rm_L_belowOf Θ [.ref (tR Θ 0 14), .int a0] G (rQ G0 t (if (mHold (G0.2.1 0 30) a0) = true then (gI (mBls (G0.2.1 0 30) a0 20 0 0)) else -101)) := by
  have hS := h0.1
  have hO := op_below hS ht a0
  refine ⟨_, w_L_belowOf hl Θ a0 G (c_X11_below hl Θ a0 G) hO.v (fun E G9 h9 => mem1 (hO.2 E G9 h9).1), rd_gen hO h0 (fun _ _ => gI_f) cd1 fun Y hY => ?_⟩
  by_cases c0 : (mHold (G0.2.1 0 30) a0) = true
  · rw [if_pos c0]
    refine ⟨0, _, ?_, rfl⟩
    try dsimp only
    try unfold mOv
    try unfold mQ3
    try unfold mOGQ
    rw [hY, mg_t c0]
    exact ⟨rfl, rfl⟩
  · rw [if_neg c0]
    refine ⟨1, 0, ?_, rfl⟩
    try dsimp only
    try unfold mOv
    try unfold mQ3
    try unfold mOGQ
    rw [hY]
    unfold mg
    rw [if_neg c0]
    exact ⟨rfl, rfl⟩
theorem r_entriesOf {l : Launch} (hl : l.stackTraces = false) (Θ : cTH) {G0 G : GS} {t : Nat} (h0 : Nx G0 G t) (ht : t < 2 ^ 20) (a0 : Int32) : CtR l yL_entriesOfOf cL_entriesOfOf 3 (some .int) [(0, 5, 6, 24)] rm_L_entriesOfOf Θ [.ref (tR Θ 0 14), .int a0] G (rQ G0 t (if (mHold (G0.2.1 0 30) a0) = true then (gI (G0.2.1 0 30 (oA a0.toNatClampNeg 5))) else -101)) := by
  have hS := h0.1
  have hO := op_entriesOf hS ht a0
  refine ⟨_, w_L_entriesOfOf hl Θ a0 G (c_X11_entriesOf hl Θ a0 G) hO.v (fun E G9 h9 => mem1 (hO.2 E G9 h9).1), rd_gen hO h0 (fun _ _ => gI_f) cd1 fun Y hY => ?_⟩
  by_cases c0 : (mHold (G0.2.1 0 30) a0) = true
  · rw [if_pos c0]
    refine ⟨0, _, ?_, rfl⟩
    try dsimp only
    try unfold mOv
    try unfold mQ3
    try unfold mOGQ
    rw [hY, mg_t c0]
    exact ⟨rfl, rfl⟩
  · rw [if_neg c0]
    refine ⟨1, 0, ?_, rfl⟩
    try dsimp only
    try unfold mOv
    try unfold mQ3
    try unfold mOGQ
    rw [hY]
    unfold mg
    rw [if_neg c0]
    exact ⟨rfl, rfl⟩
theorem r_isAllowing {l : Launch} (hl : l.stackTraces = false) (Θ : cTH) {G0 G : GS} {t : Nat} (h0 : Nx G0 G t) (ht : t < 2 ^ 20) (a0 : Int32) (a1 : Int32) : CtR l yL_isAllowingOf cL_isAllowingOf 4 (some .int) [(0, 14, 15, 24)] rm_L_isAllowingOf Θ [.ref (tR Θ 0 14), .int a0, .int a1] G (rQ G0 t (if (mEnt (G0.2.1 0 30) a0 a1) = true then (gZ (b2i (decide (G0.2.1 0 30 (enA a0.toNatClampNeg a1.toNatClampNeg 3) = 1)))) else -101)) := by
  have hS := h0.1
  have hO := op_isAllowing hS ht a0 a1
  refine ⟨_, w_L_isAllowingOf hl Θ a0 a1 G (c_X11_isAllowing hl Θ a0 a1 G) hO.v (fun E G9 h9 => mem1 (hO.2 E G9 h9).1), rd_gen hO h0 (fun _ _ => gZ_f) cd1 fun Y hY => ?_⟩
  by_cases c0 : (mEnt (G0.2.1 0 30) a0 a1) = true
  · rw [if_pos c0]
    refine ⟨0, _, ?_, rfl⟩
    try dsimp only
    try unfold mOv
    try unfold mQ3
    try unfold mOGQ
    rw [hY, mg_t c0]
    exact ⟨rfl, rfl⟩
  · rw [if_neg c0]
    refine ⟨1, 0, ?_, rfl⟩
    try dsimp only
    try unfold mOv
    try unfold mQ3
    try unfold mOGQ
    rw [hY]
    unfold mg
    rw [if_neg c0]
    exact ⟨rfl, rfl⟩
theorem r_rightsOfEntry {l : Launch} (hl : l.stackTraces = false) (Θ : cTH) {G0 G : GS} {t : Nat} (h0 : Nx G0 G t) (ht : t < 2 ^ 20) (a0 : Int32) (a1 : Int32) : CtR l yL_rightsOfEntryOf cL_rightsOfEntryOf 4 (some .int) [(0, 6, 7, 24)] rm_L_rightsOfEntryOf Θ [.ref (tR Θ 0 14), .int a0, .int a1] G (rQ G0 t (if (mEnt (G0.2.1 0 30) a0 a1) = true then (gI (G0.2.1 0 30 (enA a0.toNatClampNeg a1.toNatClampNeg 2))) else -101)) := by
  have hS := h0.1
  have hO := op_rightsOfEntry hS ht a0 a1
  refine ⟨_, w_L_rightsOfEntryOf hl Θ a0 a1 G (c_X11_rightsOfEntry hl Θ a0 a1 G) hO.v (fun E G9 h9 => mem1 (hO.2 E G9 h9).1), rd_gen hO h0 (fun _ _ => gI_f) cd1 fun Y hY => ?_⟩
  by_cases c0 : (mEnt (G0.2.1 0 30) a0 a1) = true
  · rw [if_pos c0]
    refine ⟨0, _, ?_, rfl⟩
    try dsimp only
    try unfold mOv
    try unfold mQ3
    try unfold mOGQ
    rw [hY, mg_t c0]
    exact ⟨rfl, rfl⟩
  · rw [if_neg c0]
    refine ⟨1, 0, ?_, rfl⟩
    try dsimp only
    try unfold mOv
    try unfold mQ3
    try unfold mOGQ
    rw [hY]
    unfold mg
    rw [if_neg c0]
    exact ⟨rfl, rfl⟩
theorem r_isForBelow {l : Launch} (hl : l.stackTraces = false) (Θ : cTH) {G0 G : GS} {t : Nat} (h0 : Nx G0 G t) (ht : t < 2 ^ 20) (a0 : Int32) (a1 : Int32) : CtR l yL_isForBelowOf cL_isForBelowOf 4 (some .int) [(0, 14, 15, 24)] rm_L_isForBelowOf Θ [.ref (tR Θ 0 14), .int a0, .int a1] G (rQ G0 t (if (mEnt (G0.2.1 0 30) a0 a1) = true then (gZ (b2i (decide (G0.2.1 0 30 (enA a0.toNatClampNeg a1.toNatClampNeg 4) = 1)))) else -101)) := by
  have hS := h0.1
  have hO := op_isForBelow hS ht a0 a1
  refine ⟨_, w_L_isForBelowOf hl Θ a0 a1 G (c_X11_isForBelow hl Θ a0 a1 G) hO.v (fun E G9 h9 => mem1 (hO.2 E G9 h9).1), rd_gen hO h0 (fun _ _ => gZ_f) cd1 fun Y hY => ?_⟩
  by_cases c0 : (mEnt (G0.2.1 0 30) a0 a1) = true
  · rw [if_pos c0]
    refine ⟨0, _, ?_, rfl⟩
    try dsimp only
    try unfold mOv
    try unfold mQ3
    try unfold mOGQ
    rw [hY, mg_t c0]
    exact ⟨rfl, rfl⟩
  · rw [if_neg c0]
    refine ⟨1, 0, ?_, rfl⟩
    try dsimp only
    try unfold mOv
    try unfold mQ3
    try unfold mOGQ
    rw [hY]
    unfold mg
    rw [if_neg c0]
    exact ⟨rfl, rfl⟩
theorem r_isForOwner {l : Launch} (hl : l.stackTraces = false) (Θ : cTH) {G0 G : GS} {t : Nat} (h0 : Nx G0 G t) (ht : t < 2 ^ 20) (a0 : Int32) (a1 : Int32) : CtR l yL_isForOwnerOf cL_isForOwnerOf 4 (some .int) [(0, 14, 15, 24)] rm_L_isForOwnerOf Θ [.ref (tR Θ 0 14), .int a0, .int a1] G (rQ G0 t (if (mEnt (G0.2.1 0 30) a0 a1) = true then (gZ (b2i (decide (G0.2.1 0 30 (enA a0.toNatClampNeg a1.toNatClampNeg 0) = 2)))) else -101)) := by
  have hS := h0.1
  have hO := op_isForOwner hS ht a0 a1
  refine ⟨_, w_L_isForOwnerOf hl Θ a0 a1 G (c_X11_isForOwner hl Θ a0 a1 G) hO.v (fun E G9 h9 => mem1 (hO.2 E G9 h9).1), rd_gen hO h0 (fun _ _ => gZ_f) cd1 fun Y hY => ?_⟩
  by_cases c0 : (mEnt (G0.2.1 0 30) a0 a1) = true
  · rw [if_pos c0]
    refine ⟨0, _, ?_, rfl⟩
    try dsimp only
    try unfold mOv
    try unfold mQ3
    try unfold mOGQ
    rw [hY, mg_t c0]
    exact ⟨rfl, rfl⟩
  · rw [if_neg c0]
    refine ⟨1, 0, ?_, rfl⟩
    try dsimp only
    try unfold mOv
    try unfold mQ3
    try unfold mOGQ
    rw [hY]
    unfold mg
    rw [if_neg c0]
    exact ⟨rfl, rfl⟩
theorem r_userOfEntry {l : Launch} (hl : l.stackTraces = false) (Θ : cTH) {G0 G : GS} {t : Nat} (h0 : Nx G0 G t) (ht : t < 2 ^ 20) (a0 : Int32) (a1 : Int32) : CtR l yL_userOfEntryOf cL_userOfEntryOf 4 (some .int) [(0, 6, 7, 24)] rm_L_userOfEntryOf Θ [.ref (tR Θ 0 14), .int a0, .int a1] G (rQ G0 t (if (mEnt (G0.2.1 0 30) a0 a1) = true then (gI (if G0.2.1 0 30 (enA a0.toNatClampNeg a1.toNatClampNeg 0) = 0 then G0.2.1 0 30 (enA a0.toNatClampNeg a1.toNatClampNeg 1) else -1)) else -101)) := by
  have hS := h0.1
  have hO := op_userOfEntry hS ht a0 a1
  refine ⟨_, w_L_userOfEntryOf hl Θ a0 a1 G (c_X11_userOfEntry hl Θ a0 a1 G) hO.v (fun E G9 h9 => mem1 (hO.2 E G9 h9).1), rd_gen hO h0 (fun _ _ => gI_f) cd1 fun Y hY => ?_⟩
  by_cases c0 : (mEnt (G0.2.1 0 30) a0 a1) = true
  · rw [if_pos c0]
    refine ⟨0, _, ?_, rfl⟩
    try dsimp only
    try unfold mOv
    try unfold mQ3
    try unfold mOGQ
    rw [hY, mg_t c0]
    exact ⟨rfl, rfl⟩
  · rw [if_neg c0]
    refine ⟨1, 0, ?_, rfl⟩
    try dsimp only
    try unfold mOv
    try unfold mQ3
    try unfold mOGQ
    rw [hY]
    unfold mg
    rw [if_neg c0]
    exact ⟨rfl, rfl⟩
theorem r_groupOfEntry {l : Launch} (hl : l.stackTraces = false) (Θ : cTH) {G0 G : GS} {t : Nat} (h0 : Nx G0 G t) (ht : t < 2 ^ 20) (a0 : Int32) (a1 : Int32) : CtR l yL_groupOfEntryOf cL_groupOfEntryOf 4 (some .int) [(0, 6, 7, 24)] rm_L_groupOfEntryOf Θ [.ref (tR Θ 0 14), .int a0, .int a1] G (rQ G0 t (if (mEnt (G0.2.1 0 30) a0 a1) = true then (gI (if G0.2.1 0 30 (enA a0.toNatClampNeg a1.toNatClampNeg 0) = 1 then G0.2.1 0 30 (enA a0.toNatClampNeg a1.toNatClampNeg 1) else -1)) else -101)) := by
  have hS := h0.1
  have hO := op_groupOfEntry hS ht a0 a1
  refine ⟨_, w_L_groupOfEntryOf hl Θ a0 a1 G (c_X11_groupOfEntry hl Θ a0 a1 G) hO.v (fun E G9 h9 => mem1 (hO.2 E G9 h9).1), rd_gen hO h0 (fun _ _ => gI_f) cd1 fun Y hY => ?_⟩
  by_cases c0 : (mEnt (G0.2.1 0 30) a0 a1) = true
  · rw [if_pos c0]
    refine ⟨0, _, ?_, rfl⟩
    try dsimp only
    try unfold mOv
    try unfold mQ3
    try unfold mOGQ
    rw [hY, mg_t c0]
    exact ⟨rfl, rfl⟩
  · rw [if_neg c0]
    refine ⟨1, 0, ?_, rfl⟩
    try dsimp only
    try unfold mOv
    try unfold mQ3
    try unfold mOGQ
    rw [hY]
    unfold mg
    rw [if_neg c0]
    exact ⟨rfl, rfl⟩
theorem r_isMember {l : Launch} (hl : l.stackTraces = false) (Θ : cTH) {G0 G : GS} {t : Nat} (h0 : Nx G0 G t) (ht : t < 2 ^ 20) (a0 : Int32) (a1 : Int32) : CtR l yL_isMemberOf cL_isMemberOf 4 (some .int) [(0, 14, 15, 24)] rm_L_isMemberOf Θ [.ref (tR Θ 0 14), .int a0, .int a1] G (rQ G0 t (if (mIn a0 0 (G0.2.1 0 30 0 - 1) && mIn a1 0 (G0.2.1 0 30 1 - 1)) = true then (gZ (b2i (mHas (G0.2.1 0 30 (2 + a1.toNatClampNeg)) a0))) else -101)) := by
  have hS := h0.1
  have hO := op_isMember hS ht a0 a1
  refine ⟨_, w_L_isMemberOf hl Θ a0 a1 G (c_X11_isMember hl Θ a0 a1 G) hO.v (fun E G9 h9 => mem1 (hO.2 E G9 h9).1), rd_gen hO h0 (fun _ _ => gZ_f) cd1 fun Y hY => ?_⟩
  by_cases c0 : (mIn a0 0 (G0.2.1 0 30 0 - 1) && mIn a1 0 (G0.2.1 0 30 1 - 1)) = true
  · rw [if_pos c0]
    refine ⟨0, _, ?_, rfl⟩
    try dsimp only
    try unfold mOv
    try unfold mQ3
    try unfold mOGQ
    rw [hY, mg_t c0]
    exact ⟨rfl, rfl⟩
  · rw [if_neg c0]
    refine ⟨1, 0, ?_, rfl⟩
    try dsimp only
    try unfold mOv
    try unfold mQ3
    try unfold mOGQ
    rw [hY]
    unfold mg
    rw [if_neg c0]
    exact ⟨rfl, rfl⟩
theorem r_isNested {l : Launch} (hl : l.stackTraces = false) (Θ : cTH) {G0 G : GS} {t : Nat} (h0 : Nx G0 G t) (ht : t < 2 ^ 20) (a0 : Int32) (a1 : Int32) : CtR l yL_isNestedOf cL_isNestedOf 4 (some .int) [(0, 14, 15, 24)] rm_L_isNestedOf Θ [.ref (tR Θ 0 14), .int a0, .int a1] G (rQ G0 t (if (mIn a0 0 (G0.2.1 0 30 1 - 1) && mIn a1 0 (G0.2.1 0 30 1 - 1)) = true then (gZ (b2i (mHas (G0.2.1 0 30 (10 + a0.toNatClampNeg)) a1))) else -101)) := by
  have hS := h0.1
  have hO := op_isNested hS ht a0 a1
  refine ⟨_, w_L_isNestedOf hl Θ a0 a1 G (c_X11_isNested hl Θ a0 a1 G) hO.v (fun E G9 h9 => mem1 (hO.2 E G9 h9).1), rd_gen hO h0 (fun _ _ => gZ_f) cd1 fun Y hY => ?_⟩
  by_cases c0 : (mIn a0 0 (G0.2.1 0 30 1 - 1) && mIn a1 0 (G0.2.1 0 30 1 - 1)) = true
  · rw [if_pos c0]
    refine ⟨0, _, ?_, rfl⟩
    try dsimp only
    try unfold mOv
    try unfold mQ3
    try unfold mOGQ
    rw [hY, mg_t c0]
    exact ⟨rfl, rfl⟩
  · rw [if_neg c0]
    refine ⟨1, 0, ?_, rfl⟩
    try dsimp only
    try unfold mOv
    try unfold mQ3
    try unfold mOGQ
    rw [hY]
    unfold mg
    rw [if_neg c0]
    exact ⟨rfl, rfl⟩
theorem r_belongs {l : Launch} (hl : l.stackTraces = false) (Θ : cTH) {G0 G : GS} {t : Nat} (h0 : Nx G0 G t) (ht : t < 2 ^ 20) (a0 : Int32) (a1 : Int32) : CtR l yL_belongsOf cL_belongsOf 4 (some .int) [(0, 14, 15, 24)] rm_L_belongsOf Θ [.ref (tR Θ 0 14), .int a0, .int a1] G (rQ G0 t (if (mIn a0 0 (G0.2.1 0 30 0 - 1) && mIn a1 0 (G0.2.1 0 30 1 - 1)) = true then (gZ (b2i (mIsOf (G0.2.1 0 30) (mGs (G0.2.1 0 30)) a0 a1.toNatClampNeg))) else -101)) := by
  have hS := h0.1
  have hO := op_belongs hS ht a0 a1
  refine ⟨_, w_L_belongsOf hl Θ a0 a1 G (c_X11_belongs hl Θ a0 a1 G hS.1.gOk_) hO.v (fun E G9 h9 => mem1 (hO.2 E G9 h9).1), rd_gen hO h0 (fun _ _ => gZ_f) cd1 fun Y hY => ?_⟩
  by_cases c0 : (mIn a0 0 (G0.2.1 0 30 0 - 1) && mIn a1 0 (G0.2.1 0 30 1 - 1)) = true
  · rw [if_pos c0]
    refine ⟨0, _, ?_, rfl⟩
    try dsimp only
    try unfold mOv
    try unfold mQ3
    try unfold mOGQ
    rw [hY, mg_t c0]
    exact ⟨rfl, rfl⟩
  · rw [if_neg c0]
    refine ⟨1, 0, ?_, rfl⟩
    try dsimp only
    try unfold mOv
    try unfold mQ3
    try unfold mOGQ
    rw [hY]
    unfold mg
    rw [if_neg c0]
    exact ⟨rfl, rfl⟩
theorem r_belongsByMembers {l : Launch} (hl : l.stackTraces = false) (Θ : cTH) {G0 G : GS} {t : Nat} (h0 : Nx G0 G t) (ht : t < 2 ^ 20) (a0 : Int32) (a1 : Int32) : CtR l yL_belongsByMembersOf cL_belongsByMembersOf 4 (some .int) [(0, 14, 15, 24)] rm_L_belongsByMembersOf Θ [.ref (tR Θ 0 14), .int a0, .int a1] G (rQ G0 t (if (mIn a0 0 (G0.2.1 0 30 0 - 1) && mIn a1 0 (G0.2.1 0 30 1 - 1)) = true then (gZ (b2i (mIsOf (G0.2.1 0 30) (mGs (G0.2.1 0 30)) a0 a1.toNatClampNeg))) else -101)) := by
  have hS := h0.1
  have hO := op_belongsByMembers hS ht a0 a1
  refine ⟨_, w_L_belongsByMembersOf hl Θ a0 a1 G (c_X11_belongsByMembers hl Θ a0 a1 G hS.1.gOk_) hO.v (fun E G9 h9 => mem1 (hO.2 E G9 h9).1), rd_gen hO h0 (fun _ _ => gZ_f) cd1 fun Y hY => ?_⟩
  by_cases c0 : (mIn a0 0 (G0.2.1 0 30 0 - 1) && mIn a1 0 (G0.2.1 0 30 1 - 1)) = true
  · rw [if_pos c0]
    refine ⟨0, _, ?_, rfl⟩
    try dsimp only
    try unfold mOv
    try unfold mQ3
    try unfold mOGQ
    rw [hY, mg_t c0]
    exact ⟨rfl, rfl⟩
  · rw [if_neg c0]
    refine ⟨1, 0, ?_, rfl⟩
    try dsimp only
    try unfold mOv
    try unfold mQ3
    try unfold mOGQ
    rw [hY]
    unfold mg
    rw [if_neg c0]
    exact ⟨rfl, rfl⟩
theorem r_rightsOf {l : Launch} (hl : l.stackTraces = false) (Θ : cTH) {G0 G : GS} {t : Nat} (h0 : Nx G0 G t) (ht : t < 2 ^ 20) (a0 : Int32) (a1 : Int32) : CtR l yL_rightsOfOf cL_rightsOfOf 4 (some .int) [(0, 6, 7, 24)] rm_L_rightsOfOf Θ [.ref (tR Θ 0 14), .int a0, .int a1] G (rQ G0 t (if (mIn a0 0 (G0.2.1 0 30 0 - 1) && mHold (G0.2.1 0 30) a1) = true then (gI (mRg (G0.2.1 0 30) a0 a1.toNatClampNeg)) else -101)) := by
  have hS := h0.1
  have hO := op_rightsOf hS ht a0 a1
  refine ⟨_, w_L_rightsOfOf hl Θ a0 a1 G (c_X11_rightsOf hl Θ a0 a1 G hS.1.gOk_) hO.v (fun E G9 h9 => mem1 (hO.2 E G9 h9).1), rd_gen hO h0 (fun _ _ => gI_f) cd1 fun Y hY => ?_⟩
  by_cases c0 : (mIn a0 0 (G0.2.1 0 30 0 - 1) && mHold (G0.2.1 0 30) a1) = true
  · rw [if_pos c0]
    refine ⟨0, _, ?_, rfl⟩
    try dsimp only
    try unfold mOv
    try unfold mQ3
    try unfold mOGQ
    rw [hY, mg_t c0]
    exact ⟨rfl, rfl⟩
  · rw [if_neg c0]
    refine ⟨1, 0, ?_, rfl⟩
    try dsimp only
    try unfold mOv
    try unfold mQ3
    try unfold mOGQ
    rw [hY]
    unfold mg
    rw [if_neg c0]
    exact ⟨rfl, rfl⟩
theorem r_rightsThrough {l : Launch} (hl : l.stackTraces = false) (Θ : cTH) {G0 G : GS} {t : Nat} (h0 : Nx G0 G t) (ht : t < 2 ^ 20) (a0 : Int32) (a1 : Int32) : CtR l yL_rightsThroughOf cL_rightsThroughOf 4 (some .int) [(0, 6, 7, 24)] rm_L_rightsThroughOf Θ [.ref (tR Θ 0 14), .int a0, .int a1] G (rQ G0 t (if (mIn a0 0 (G0.2.1 0 30 0 - 1) && mIn a1 0 (G0.2.1 0 30 1 - 1)) = true then (gI (mTr (G0.2.1 0 30) a0 a1 80 0 0)) else -101)) := by
  have hS := h0.1
  have hO := op_rightsThrough hS ht a0 a1
  refine ⟨_, w_L_rightsThroughOf hl Θ a0 a1 G (c_X11_rightsThrough hl Θ a0 a1 G hS.1.gOk_) hO.v (fun E G9 h9 => mem1 (hO.2 E G9 h9).1), rd_gen hO h0 (fun _ _ => gI_f) cd1 fun Y hY => ?_⟩
  by_cases c0 : (mIn a0 0 (G0.2.1 0 30 0 - 1) && mIn a1 0 (G0.2.1 0 30 1 - 1)) = true
  · rw [if_pos c0]
    refine ⟨0, _, ?_, rfl⟩
    try dsimp only
    try unfold mOv
    try unfold mQ3
    try unfold mOGQ
    rw [hY, mg_t c0]
    exact ⟨rfl, rfl⟩
  · rw [if_neg c0]
    refine ⟨1, 0, ?_, rfl⟩
    try dsimp only
    try unfold mOv
    try unfold mQ3
    try unfold mOGQ
    rw [hY]
    unfold mg
    rw [if_neg c0]
    exact ⟨rfl, rfl⟩
theorem r_isAllowed {l : Launch} (hl : l.stackTraces = false) (Θ : cTH) {G0 G : GS} {t : Nat} (h0 : Nx G0 G t) (ht : t < 2 ^ 20) (a0 : Int32) (a1 : Int32) (a2 : Int32) : CtR l yL_isAllowedOf cL_isAllowedOf 5 (some .int) [(0, 15, 16, 24), (0, 15, 21, 51)] rm_L_isAllowedOf Θ [.ref (tR Θ 0 14), .int a0, .int a1, .int a2] G (rQ G0 t (if (mIn a0 0 (G0.2.1 0 30 0 - 1) && mHold (G0.2.1 0 30) a1) = true then (if (mIn a2 0 3) = true then (gZ (b2i (mAl (G0.2.1 0 30) a0 a1.toNatClampNeg a2))) else -102) else -101)) := by
  have hS := h0.1
  have hO := op_isAllowed hS ht a0 a1 a2
  refine ⟨_, w_L_isAllowedOf hl Θ a0 a1 a2 G (c_X11_isAllowed hl Θ a0 a1 a2 G hS.1.gOk_) hO.v (fun E G9 h9 => mem2 (hO.2 E G9 h9).1), rd_gen hO h0 (fun _ _ => gZ_f) cd2 fun Y hY => ?_⟩
  by_cases c0 : (mIn a0 0 (G0.2.1 0 30 0 - 1) && mHold (G0.2.1 0 30) a1) = true
  · rw [if_pos c0]
    by_cases c1 : (mIn a2 0 3) = true
    · rw [if_pos c1]
      refine ⟨0, _, ?_, rfl⟩
      try dsimp only
      try unfold mOv
      try unfold mQ3
      try unfold mOGQ
      rw [hY, mg_t c0, mg_t c1]
      exact ⟨rfl, rfl⟩
    · rw [if_neg c1]
      refine ⟨2, 0, ?_, rfl⟩
      try dsimp only
      try unfold mOv
      try unfold mQ3
      try unfold mOGQ
      rw [hY, mg_t c0]
      unfold mg
      rw [if_neg c1]
      exact ⟨rfl, rfl⟩
  · rw [if_neg c0]
    refine ⟨1, 0, ?_, rfl⟩
    try dsimp only
    try unfold mOv
    try unfold mQ3
    try unfold mOGQ
    rw [hY]
    unfold mg
    rw [if_neg c0]
    exact ⟨rfl, rfl⟩
theorem r_isAllowedByHandingDown {l : Launch} (hl : l.stackTraces = false) (Θ : cTH) {G0 G : GS} {t : Nat} (h0 : Nx G0 G t) (ht : t < 2 ^ 20) (a0 : Int32) (a1 : Int32) (a2 : Int32) : CtR l yL_isAllowedByHandingDownOf cL_isAllowedByHandingDownOf 5 (some .int) [(0, 15, 16, 24), (0, 15, 21, 51)] rm_L_isAllowedByHandingDownOf Θ [.ref (tR Θ 0 14), .int a0, .int a1, .int a2] G (rQ G0 t (if (mIn a0 0 (G0.2.1 0 30 0 - 1) && mHold (G0.2.1 0 30) a1) = true then (if (mIn a2 0 3) = true then (gZ (b2i (mAl (G0.2.1 0 30) a0 a1.toNatClampNeg a2))) else -102) else -101)) := by
  have hS := h0.1
  have hO := op_isAllowedByHandingDown hS ht a0 a1 a2
  refine ⟨_, w_L_isAllowedByHandingDownOf hl Θ a0 a1 a2 G (c_X11_isAllowedByHandingDown hl Θ a0 a1 a2 G hS.1.gOk_) hO.v (fun E G9 h9 => mem2 (hO.2 E G9 h9).1), rd_gen hO h0 (fun _ _ => gZ_f) cd2 fun Y hY => ?_⟩
  by_cases c0 : (mIn a0 0 (G0.2.1 0 30 0 - 1) && mHold (G0.2.1 0 30) a1) = true
  · rw [if_pos c0]
    by_cases c1 : (mIn a2 0 3) = true
    · rw [if_pos c1]
      refine ⟨0, _, ?_, rfl⟩
      try dsimp only
      try unfold mOv
      try unfold mQ3
      try unfold mOGQ
      rw [hY, mg_t c0, mg_t c1]
      exact ⟨rfl, rfl⟩
    · rw [if_neg c1]
      refine ⟨2, 0, ?_, rfl⟩
      try dsimp only
      try unfold mOv
      try unfold mQ3
      try unfold mOGQ
      rw [hY, mg_t c0]
      unfold mg
      rw [if_neg c1]
      exact ⟨rfl, rfl⟩
  · rw [if_neg c0]
    refine ⟨1, 0, ?_, rfl⟩
    try dsimp only
    try unfold mOv
    try unfold mQ3
    try unfold mOGQ
    rw [hY]
    unfold mg
    rw [if_neg c0]
    exact ⟨rfl, rfl⟩
theorem r_decidingObject {l : Launch} (hl : l.stackTraces = false) (Θ : cTH) {G0 G : GS} {t : Nat} (h0 : Nx G0 G t) (ht : t < 2 ^ 20) (a0 : Int32) (a1 : Int32) (a2 : Int32) : CtR l yL_decidingObjectOf cL_decidingObjectOf 5 (some .int) [(0, 7, 8, 24), (0, 7, 13, 51)] rm_L_decidingObjectOf Θ [.ref (tR Θ 0 14), .int a0, .int a1, .int a2] G (rQ G0 t (if (mIn a0 0 (G0.2.1 0 30 0 - 1) && mHold (G0.2.1 0 30) a1) = true then (if (mIn a2 0 3) = true then (gI (if mDec (G0.2.1 0 30) a0 a1.toNatClampNeg a2 < 0 then -1 else mDec (G0.2.1 0 30) a0 a1.toNatClampNeg a2 / 6)) else -102) else -101)) := by
  have hS := h0.1
  have hO := op_decidingObject hS ht a0 a1 a2
  refine ⟨_, w_L_decidingObjectOf hl Θ a0 a1 a2 G (c_X11_decidingObject hl Θ a0 a1 a2 G hS.1.gOk_) hO.v (fun E G9 h9 => mem2 (hO.2 E G9 h9).1), rd_gen hO h0 (fun _ _ => gI_f) cd2 fun Y hY => ?_⟩
  by_cases c0 : (mIn a0 0 (G0.2.1 0 30 0 - 1) && mHold (G0.2.1 0 30) a1) = true
  · rw [if_pos c0]
    by_cases c1 : (mIn a2 0 3) = true
    · rw [if_pos c1]
      refine ⟨0, _, ?_, rfl⟩
      try dsimp only
      try unfold mOv
      try unfold mQ3
      try unfold mOGQ
      rw [hY, mg_t c0, mg_t c1]
      exact ⟨rfl, rfl⟩
    · rw [if_neg c1]
      refine ⟨2, 0, ?_, rfl⟩
      try dsimp only
      try unfold mOv
      try unfold mQ3
      try unfold mOGQ
      rw [hY, mg_t c0]
      unfold mg
      rw [if_neg c1]
      exact ⟨rfl, rfl⟩
  · rw [if_neg c0]
    refine ⟨1, 0, ?_, rfl⟩
    try dsimp only
    try unfold mOv
    try unfold mQ3
    try unfold mOGQ
    rw [hY]
    unfold mg
    rw [if_neg c0]
    exact ⟨rfl, rfl⟩
theorem r_decidingEntry {l : Launch} (hl : l.stackTraces = false) (Θ : cTH) {G0 G : GS} {t : Nat} (h0 : Nx G0 G t) (ht : t < 2 ^ 20) (a0 : Int32) (a1 : Int32) (a2 : Int32) : CtR l yL_decidingEntryOf cL_decidingEntryOf 5 (some .int) [(0, 7, 8, 24), (0, 7, 13, 51)] rm_L_decidingEntryOf Θ [.ref (tR Θ 0 14), .int a0, .int a1, .int a2] G (rQ G0 t (if (mIn a0 0 (G0.2.1 0 30 0 - 1) && mHold (G0.2.1 0 30) a1) = true then (if (mIn a2 0 3) = true then (gI (if mDec (G0.2.1 0 30) a0 a1.toNatClampNeg a2 < 0 then -1 else mDec (G0.2.1 0 30) a0 a1.toNatClampNeg a2 - (mDec (G0.2.1 0 30) a0 a1.toNatClampNeg a2 / 6) * 6)) else -102) else -101)) := by
  have hS := h0.1
  have hO := op_decidingEntry hS ht a0 a1 a2
  refine ⟨_, w_L_decidingEntryOf hl Θ a0 a1 a2 G (c_X11_decidingEntry hl Θ a0 a1 a2 G hS.1.gOk_) hO.v (fun E G9 h9 => mem2 (hO.2 E G9 h9).1), rd_gen hO h0 (fun _ _ => gI_f) cd2 fun Y hY => ?_⟩
  by_cases c0 : (mIn a0 0 (G0.2.1 0 30 0 - 1) && mHold (G0.2.1 0 30) a1) = true
  · rw [if_pos c0]
    by_cases c1 : (mIn a2 0 3) = true
    · rw [if_pos c1]
      refine ⟨0, _, ?_, rfl⟩
      try dsimp only
      try unfold mOv
      try unfold mQ3
      try unfold mOGQ
      rw [hY, mg_t c0, mg_t c1]
      exact ⟨rfl, rfl⟩
    · rw [if_neg c1]
      refine ⟨2, 0, ?_, rfl⟩
      try dsimp only
      try unfold mOv
      try unfold mQ3
      try unfold mOGQ
      rw [hY, mg_t c0]
      unfold mg
      rw [if_neg c1]
      exact ⟨rfl, rfl⟩
  · rw [if_neg c0]
    refine ⟨1, 0, ?_, rfl⟩
    try dsimp only
    try unfold mOv
    try unfold mQ3
    try unfold mOGQ
    rw [hY]
    unfold mg
    rw [if_neg c0]
    exact ⟨rfl, rfl⟩
theorem r_isStoppedByMask {l : Launch} (hl : l.stackTraces = false) (Θ : cTH) {G0 G : GS} {t : Nat} (h0 : Nx G0 G t) (ht : t < 2 ^ 20) (a0 : Int32) (a1 : Int32) (a2 : Int32) : CtR l yL_isStoppedByMaskOf cL_isStoppedByMaskOf 5 (some .int) [(0, 15, 16, 24), (0, 15, 21, 51)] rm_L_isStoppedByMaskOf Θ [.ref (tR Θ 0 14), .int a0, .int a1, .int a2] G (rQ G0 t (if (mIn a0 0 (G0.2.1 0 30 0 - 1) && mHold (G0.2.1 0 30) a1) = true then (if (mIn a2 0 3) = true then (gZ (b2i (!mAl (G0.2.1 0 30) a0 a1.toNatClampNeg a2 && mByL (G0.2.1 0 30) a0 a1.toNatClampNeg a2))) else -102) else -101)) := by
  have hS := h0.1
  have hO := op_isStoppedByMask hS ht a0 a1 a2
  refine ⟨_, w_L_isStoppedByMaskOf hl Θ a0 a1 a2 G (c_X11_isStoppedByMask hl Θ a0 a1 a2 G hS.1.gOk_) hO.v (fun E G9 h9 => mem2 (hO.2 E G9 h9).1), rd_gen hO h0 (fun _ _ => gZ_f) cd2 fun Y hY => ?_⟩
  by_cases c0 : (mIn a0 0 (G0.2.1 0 30 0 - 1) && mHold (G0.2.1 0 30) a1) = true
  · rw [if_pos c0]
    by_cases c1 : (mIn a2 0 3) = true
    · rw [if_pos c1]
      refine ⟨0, _, ?_, rfl⟩
      try dsimp only
      try unfold mOv
      try unfold mQ3
      try unfold mOGQ
      rw [hY, mg_t c0, mg_t c1]
      exact ⟨rfl, rfl⟩
    · rw [if_neg c1]
      refine ⟨2, 0, ?_, rfl⟩
      try dsimp only
      try unfold mOv
      try unfold mQ3
      try unfold mOGQ
      rw [hY, mg_t c0]
      unfold mg
      rw [if_neg c1]
      exact ⟨rfl, rfl⟩
  · rw [if_neg c0]
    refine ⟨1, 0, ?_, rfl⟩
    try dsimp only
    try unfold mOv
    try unfold mQ3
    try unfold mOGQ
    rw [hY]
    unfold mg
    rw [if_neg c0]
    exact ⟨rfl, rfl⟩
theorem r_usersWith {l : Launch} (hl : l.stackTraces = false) (Θ : cTH) {G0 G : GS} {t : Nat} (h0 : Nx G0 G t) (ht : t < 2 ^ 20) (a0 : Int32) (a1 : Int32) : CtR l yL_usersWithOf cL_usersWithOf 4 (some .int) [(0, 6, 7, 24), (0, 6, 11, 51)] rm_L_usersWithOf Θ [.ref (tR Θ 0 14), .int a0, .int a1] G (rQ G0 t (if (mHold (G0.2.1 0 30) a0) = true then (if (mIn a1 0 3) = true then (gI (mCuL (G0.2.1 0 30) a0.toNatClampNeg a1 (mUs (G0.2.1 0 30)) 0 0)) else -102) else -101)) := by
  have hS := h0.1
  have hO := op_usersWith hS ht a0 a1
  refine ⟨_, w_L_usersWithOf hl Θ a0 a1 G (c_X11_usersWith hl Θ a0 a1 G hS.1.gOk_) hO.v (fun E G9 h9 => mem2 (hO.2 E G9 h9).1), rd_gen hO h0 (fun _ _ => gI_f) cd2 fun Y hY => ?_⟩
  by_cases c0 : (mHold (G0.2.1 0 30) a0) = true
  · rw [if_pos c0]
    by_cases c1 : (mIn a1 0 3) = true
    · rw [if_pos c1]
      refine ⟨0, _, ?_, rfl⟩
      try dsimp only
      try unfold mOv
      try unfold mQ3
      try unfold mOGQ
      rw [hY, mg_t c0, mg_t c1]
      exact ⟨rfl, rfl⟩
    · rw [if_neg c1]
      refine ⟨2, 0, ?_, rfl⟩
      try dsimp only
      try unfold mOv
      try unfold mQ3
      try unfold mOGQ
      rw [hY, mg_t c0]
      unfold mg
      rw [if_neg c1]
      exact ⟨rfl, rfl⟩
  · rw [if_neg c0]
    refine ⟨1, 0, ?_, rfl⟩
    try dsimp only
    try unfold mOv
    try unfold mQ3
    try unfold mOGQ
    rw [hY]
    unfold mg
    rw [if_neg c0]
    exact ⟨rfl, rfl⟩
theorem r_userOfRequest {l : Launch} (hl : l.stackTraces = false) (Θ : cTH) {G0 G : GS} {t : Nat} (h0 : Nx G0 G t) (ht : t < 2 ^ 20) (a0 : Int32) : CtR l yL_userOfRequestOf cL_userOfRequestOf 3 (some .int) [(0, 5, 6, 24)] rm_L_userOfRequestOf Θ [.ref (tR Θ 0 14), .int a0] G (rQ G0 t (if (mLgd (G0.2.1 0 30) a0) = true then (gI (G0.2.1 0 30 (738 + 3 * a0.toNatClampNeg + 0))) else -101)) := by
  have hS := h0.1
  have hO := op_userOfRequest hS ht a0
  refine ⟨_, w_L_userOfRequestOf hl Θ a0 G (c_X11_userOfRequest hl Θ a0 G) hO.v (fun E G9 h9 => mem1 (hO.2 E G9 h9).1), rd_gen hO h0 (fun _ _ => gI_f) cd1 fun Y hY => ?_⟩
  by_cases c0 : (mLgd (G0.2.1 0 30) a0) = true
  · rw [if_pos c0]
    refine ⟨0, _, ?_, rfl⟩
    try dsimp only
    try unfold mOv
    try unfold mQ3
    try unfold mOGQ
    rw [hY, mg_t c0]
    exact ⟨rfl, rfl⟩
  · rw [if_neg c0]
    refine ⟨1, 0, ?_, rfl⟩
    try dsimp only
    try unfold mOv
    try unfold mQ3
    try unfold mOGQ
    rw [hY]
    unfold mg
    rw [if_neg c0]
    exact ⟨rfl, rfl⟩
theorem r_objectOfRequest {l : Launch} (hl : l.stackTraces = false) (Θ : cTH) {G0 G : GS} {t : Nat} (h0 : Nx G0 G t) (ht : t < 2 ^ 20) (a0 : Int32) : CtR l yL_objectOfRequestOf cL_objectOfRequestOf 3 (some .int) [(0, 5, 6, 24)] rm_L_objectOfRequestOf Θ [.ref (tR Θ 0 14), .int a0] G (rQ G0 t (if (mLgd (G0.2.1 0 30) a0) = true then (gI (G0.2.1 0 30 (738 + 3 * a0.toNatClampNeg + 1))) else -101)) := by
  have hS := h0.1
  have hO := op_objectOfRequest hS ht a0
  refine ⟨_, w_L_objectOfRequestOf hl Θ a0 G (c_X11_objectOfRequest hl Θ a0 G) hO.v (fun E G9 h9 => mem1 (hO.2 E G9 h9).1), rd_gen hO h0 (fun _ _ => gI_f) cd1 fun Y hY => ?_⟩
  by_cases c0 : (mLgd (G0.2.1 0 30) a0) = true
  · rw [if_pos c0]
    refine ⟨0, _, ?_, rfl⟩
    try dsimp only
    try unfold mOv
    try unfold mQ3
    try unfold mOGQ
    rw [hY, mg_t c0]
    exact ⟨rfl, rfl⟩
  · rw [if_neg c0]
    refine ⟨1, 0, ?_, rfl⟩
    try dsimp only
    try unfold mOv
    try unfold mQ3
    try unfold mOGQ
    rw [hY]
    unfold mg
    rw [if_neg c0]
    exact ⟨rfl, rfl⟩
theorem r_wasAllowed {l : Launch} (hl : l.stackTraces = false) (Θ : cTH) {G0 G : GS} {t : Nat} (h0 : Nx G0 G t) (ht : t < 2 ^ 20) (a0 : Int32) : CtR l yL_wasAllowedOf cL_wasAllowedOf 3 (some .int) [(0, 13, 14, 24)] rm_L_wasAllowedOf Θ [.ref (tR Θ 0 14), .int a0] G (rQ G0 t (if (mLgd (G0.2.1 0 30) a0) = true then (gZ (b2i (decide (G0.2.1 0 30 (738 + 3 * a0.toNatClampNeg + 2) = 1)))) else -101)) := by
  have hS := h0.1
  have hO := op_wasAllowed hS ht a0
  refine ⟨_, w_L_wasAllowedOf hl Θ a0 G (c_X11_wasAllowed hl Θ a0 G) hO.v (fun E G9 h9 => mem1 (hO.2 E G9 h9).1), rd_gen hO h0 (fun _ _ => gZ_f) cd1 fun Y hY => ?_⟩
  by_cases c0 : (mLgd (G0.2.1 0 30) a0) = true
  · rw [if_pos c0]
    refine ⟨0, _, ?_, rfl⟩
    try dsimp only
    try unfold mOv
    try unfold mQ3
    try unfold mOGQ
    rw [hY, mg_t c0]
    exact ⟨rfl, rfl⟩
  · rw [if_neg c0]
    refine ⟨1, 0, ?_, rfl⟩
    try dsimp only
    try unfold mOv
    try unfold mQ3
    try unfold mOGQ
    rw [hY]
    unfold mg
    rw [if_neg c0]
    exact ⟨rfl, rfl⟩
