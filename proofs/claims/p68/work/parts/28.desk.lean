/-! PermissionDesk -/
abbrev eS : String := "java/lang/IllegalStateException"
abbrev eX : String := "java/lang/IndexOutOfBoundsException"
abbrev eA : String := "java/lang/IllegalArgumentException"
/-- a guard: where it fails, E is thrown in G -/
def gt (b : Bool) (E : String) (X : cOut → GS → Prop) (G : GS) : cOut → GS → Prop := fun o G1 => if b = true then X o G1 else (o = .inr E ∧ G1 = G)
theorem gt_t {b : Bool} {E : String} {X : cOut → GS → Prop} {G : GS} (h : b = true) : gt b E X G = X := by
  funext o G1
  rw [gt, if_pos h]
theorem gt_f {b : Bool} {E : String} {X : cOut → GS → Prop} {G : GS} (h : b = false) : gt b E X G (.inr E) G := by
  rw [gt, if_neg (by rw [h]; decide)]
  exact ⟨rfl, rfl⟩
/-- the contract of a guard -/
def fG (b : Bool) (E : String) (G : GS) : cOut → GS → Prop := fun o G1 => o = (if b = true then .inl none else .inr E) ∧ G1 = G
theorem fG_k {b : Bool} {E : String} {G : GS} {P : Option Value → GS → Prop} (h : b = true → P none G) : ∀ (r : Option Value) (G9 : GS), fG b E G (.inl r) G9 → P r G9 := by
  rintro r G9 ⟨h1, rfl⟩
  cases b with
  | true => cases h1; exact h rfl
  | false => cases h1
theorem fG_x {b : Bool} {E : String} {G : GS} {Qp : cOut → GS → Prop} (h : b = false → Qp (.inr E) G) : ∀ (E9 : String) (G9 : GS), fG b E G (.inr E9) G9 → Qp (.inr E9) G9 := by
  rintro E9 G9 ⟨h1, rfl⟩
  cases b with
  | true => cases h1
  | false => cases h1; exact h rfl
def sKept (G : GS) : Int32 := if (8 : Int32) < G.1 0 11 0 then 8 else G.1 0 11 0
theorem dle {a b : Int32} (h : ¬ a < b) : decide (b ≤ a) = true := decide_eq_true (Int32.not_lt.mp h)
theorem dnle {a b : Int32} (h : a < b) : decide (b ≤ a) = false := decide_eq_false (Int32.not_le.mpr h)
theorem cp_fld (a b : Nat) (G : GS) : (cpState (a + 1) b G).1 0 = G.1 0 := by
  funext o k
  simp [cpState, cpLog, cpLists, cpTree, cpClub, putF_get, putA_fld]
theorem cp_row (a b : Nat) (G : GS) : (cpState (a + 1) b G).2.1 0 = G.2.1 0 := by
  funext o
  simp [cpState, cpLog, cpLists, cpTree, cpClub, putA_get, putF_row]
theorem sKeep_fld (G : GS) {o : Nat} (h : ¬ o = 15) : (sKeep G).1 0 o = G.1 0 o := by
  funext k
  unfold sKeep
  by_cases h1 : G.1 0 15 0 < 5
  · simp only [if_pos h1, putF_get, cp_fld, h, false_and, and_false, if_false]
  · simp only [if_neg h1, putF_get, cp_fld, h, false_and, and_false, if_false]
theorem sKeep_row (G : GS) : (sKeep G).2.1 0 = G.2.1 0 := by
  unfold sKeep
  by_cases h1 : G.1 0 15 0 < 5
  · simp only [if_pos h1, putF_row, cp_row]
  · simp only [if_neg h1, putF_row, cp_row]
theorem gOk_of {G G1 : GS} (h : G1.1 0 1 1 = G.1 0 1 1) (hg : gOk G) : gOk G1 := by
  unfold gOk gN at *
  rw [h]
  exact hg
theorem gOk_keep {G : GS} (hg : gOk G) : gOk (sKeep G) := gOk_of (by rw [sKeep_fld G (by decide)]) hg
def sSetM (g u : Int32) (b : Bool) (G : GS) : GS := if jIdx u 12 = true then putA G 0 2 (upd (G.2.1 0 2) u.toNatClampNeg (jChg (G.2.1 0 2 u.toNatClampNeg) g b)) else G
def sSetI (x y : Int32) (b : Bool) (G : GS) : GS := if jIdx y 8 = true then putA G 0 3 (upd (G.2.1 0 3) y.toNatClampNeg (jChg (G.2.1 0 3 y.toNatClampNeg) x b)) else G
theorem sSetM_fld (g u : Int32) (b : Bool) (G : GS) : (sSetM g u b G).1 = G.1 := by
  unfold sSetM
  by_cases h : jIdx u 12 = true
  · rw [if_pos h]; rfl
  · rw [if_neg h]
theorem sSetI_fld (g u : Int32) (b : Bool) (G : GS) : (sSetI g u b G).1 = G.1 := by
  unfold sSetI
  by_cases h : jIdx u 8 = true
  · rw [if_pos h]; rfl
  · rw [if_neg h]
theorem c_setM {l : Launch} (hl : l.stackTraces = false) (Θ : cTH) (g u : Int32) (b : Bool) (G : GS) : Ct l yX0_setMember cX0_setMember 4 none rm_X0_setMember Θ [.ref (tR Θ 0 1), .int g, .int u, .int (b2i b)] G (fR none (sSetM g u b G)) := c_X0_setMember hl Θ g u b G
theorem c_setI {l : Launch} (hl : l.stackTraces = false) (Θ : cTH) (x y : Int32) (b : Bool) (G : GS) : Ct l yX0_setInner cX0_setInner 4 none rm_X0_setInner Θ [.ref (tR Θ 0 1), .int x, .int y, .int (b2i b)] G (fR none (sSetI x y b G)) := c_X0_setInner hl Θ x y b G
abbrev uCnt (G : GS) (n : Nat) (g : Int32) : Int32 := jBc (sUsersIn (G.2.1 0 2) (G.2.1 0 3) n g)
/-- the judge, from any state -/
def jA (G : GS) (u o : Int32) : GS := jP G (jD G u o (G.2.1 0 19, G.2.1 0 20))
def jB (G : GS) (u o : Int32) : GS := jP G (dRes G u o)
def jStp (G : GS) (u o r : Int32) : Bool := jStop G u o r (G.2.1 0 19, G.2.1 0 20)
def jTb (G : GS) : GS := putA G 0 21 (tbO G 240 (G.2.1 0 21))
theorem cj_rightsAt {l : Launch} (hl : l.stackTraces = false) (Θ : cTH) (u o : Int32) (G : GS) (hg : gOk G) : Ct l yX4_rightsAt cX4_rightsAt 6 (some .int) rm_X4_rightsAt Θ [.ref (tR Θ 0 18), .ref (tR Θ 0 0), .int u, .int o] G (fR (some (.int (rAt G u o))) (jA G u o)) := by
  have h := c_X4_rightsAt hl Θ u o (G.2.1 0 19) (G.2.1 0 20) G hg
  rw [jS_self] at h
  exact h
theorem cj_grants {l : Launch} (hl : l.stackTraces = false) (Θ : cTH) (u o r : Int32) (G : GS) (hg : gOk G) : Ct l yX4_grants cX4_grants 5 (some .boolean) rm_X4_grants Θ [.ref (tR Θ 0 18), .ref (tR Θ 0 0), .int u, .int o, .int r] G (fR (some (.int (b2i (jHas (rAt G u o) r)))) (jA G u o)) := by
  have h := c_X4_grants hl Θ u o r (G.2.1 0 19) (G.2.1 0 20) G hg
  rw [jS_self] at h
  exact h
theorem cj_decidingPlace {l : Launch} (hl : l.stackTraces = false) (Θ : cTH) (u o r : Int32) (G : GS) (hg : gOk G) : Ct l yX4_decidingPlace cX4_decidingPlace 5 (some .int) rm_X4_decidingPlace Θ [.ref (tR Θ 0 18), .ref (tR Θ 0 0), .int u, .int o, .int r] G (fR (some (.int (if jIdx r 4 = true then (dRes G u o).1 r.toNatClampNeg else -1))) (jB G u o)) := by
  have h := c_X4_decidingPlace hl Θ u o r (G.2.1 0 19) (G.2.1 0 20) G hg
  rw [jS_self] at h
  exact h
theorem cj_isStopped {l : Launch} (hl : l.stackTraces = false) (Θ : cTH) (u o r : Int32) (G : GS) (hg : gOk G) : Ct l yX4_isStopped cX4_isStopped 5 (some .boolean) rm_X4_isStopped Θ [.ref (tR Θ 0 18), .ref (tR Θ 0 0), .int u, .int o, .int r] G (fR (some (.int (b2i (jStp G u o r)))) (jA G u o)) := by
  have h := c_X4_isStopped hl Θ u o r (G.2.1 0 19) (G.2.1 0 20) G hg
  rw [jS_self] at h
  exact h
theorem cj_countUsers {l : Launch} (hl : l.stackTraces = false) (Θ : cTH) (o r : Int32) (G : GS) (hg : gOk G) : Ct l yX4_countUsers cX4_countUsers 6 (some .int) rm_X4_countUsers Θ [.ref (tR Θ 0 18), .ref (tR Θ 0 0), .int o, .int r] G (jQ (some (.int (cuAt G o r))) G) := by
  have h := c_X4_countUsers hl Θ o r (G.2.1 0 19) (G.2.1 0 20) G hg
  rw [jS_self] at h
  exact h
theorem cj_countThrough {l : Launch} (hl : l.stackTraces = false) (Θ : cTH) (u gr : Int32) (G : GS) (hg : gOk G) : Ct l yX4_countThrough cX4_countThrough 7 (some .int) rm_X4_countThrough Θ [.ref (tR Θ 0 18), .ref (tR Θ 0 0), .int u, .int gr] G (jQ (some (.int (foldI (ctF G u gr) 20 0 0))) G) := by
  have h := c_X4_countThrough hl Θ u gr (G.2.1 0 19) (G.2.1 0 20) G hg
  rw [jS_self] at h
  exact h
theorem cj_countAll {l : Launch} (hl : l.stackTraces = false) (Θ : cTH) (G : GS) (hg : gOk G) : Ct l yX4_countAll cX4_countAll 5 (some .int) rm_X4_countAll Θ [.ref (tR Θ 0 18), .ref (tR Θ 0 0)] G (jQ (some (.int (foldI (caO G) 12 0 0))) G) := by
  have h := c_X4_countAll hl Θ (G.2.1 0 19) (G.2.1 0 20) G hg
  rw [jS_self] at h
  exact h
theorem cj_keepTable {l : Launch} (hl : l.stackTraces = false) (Θ : cTH) (G : GS) (hg : gOk G) : Ct l yX4_keepTable cX4_keepTable 4 none rm_X4_keepTable Θ [.ref (tR Θ 0 18), .ref (tR Θ 0 0)] G (jQ none (jTb G)) := by
  have h := c_X4_keepTable hl Θ (G.2.1 0 19) (G.2.1 0 20) G hg
  rw [jS_self] at h
  exact h
theorem cj_countDifferences {l : Launch} (hl : l.stackTraces = false) (Θ : cTH) (G : GS) (hg : gOk G) : Ct l yX4_countDifferences cX4_countDifferences 6 (some .int) rm_X4_countDifferences Θ [.ref (tR Θ 0 18), .ref (tR Θ 0 0)] G (jQ (some (.int (foldI (cdO G (G.2.1 0 21)) 12 0 0))) G) := by
  have h := c_X4_countDifferences hl Θ (G.2.1 0 19) (G.2.1 0 20) G hg
  rw [jS_self] at h
  exact h
set_option maxHeartbeats 4000000 in
set_option maxRecDepth 20000 in
theorem c_X11_requireUser {l : Launch} (hl : l.stackTraces = false) (Θ : cTH) (u : Int32) (G : GS) : Ct l yX11_requireUser cX11_requireUser 2 none rm_X11_requireUser Θ [.ref (tR Θ 0 14), .int u] (G) (fG (jIdx u (G.1 0 1 0)) eX G) := by
  refine ct_of (LS := [some (.ref (tR Θ 0 14)), some (.int u)]) hl (by decide +kernel) rfl (Nat.le_of_ble_eq_true rfl) rfl ?_
  intro p e s m args below meth c hC hr
  refine v_aload_n (i := 0) (q := 1) hC dX11_requireUser_0 rfl rfl rfl ?_
  refine g_X11_0 (q := 4) hC dX11_requireUser_1 rfl rfl fl_RX11_10 ?_
  refine g_X9_0 (q := 7) hC dX11_requireUser_4 rfl rfl fl_RX11_55 ?_
  refine v_iload_n (i := 1) (q := 8) hC dX11_requireUser_7 rfl rfl rfl ?_
  refine v_callV (q := 11) (rm := rm_X0_hasUser) hC (c_X0_hasUser hl Θ _ _) k_X0_hasUser im_yX0_hasUser se_yX0_hasUser ml_RX11_379 dX11_requireUser_8 rfl rfl rfl rfl rfl rfl (Nat.le_of_ble_eq_true rfl) ⟨Nat.le_of_ble_eq_true rfl, Nat.le_of_ble_eq_true rfl⟩ ⟨Nat.le_of_ble_eq_true rfl, Nat.le_of_ble_eq_true rfl⟩ (fR_k ?_) fR_x (Nat.le_of_ble_eq_true rfl) (Nat.le_of_ble_eq_true rfl)
  try dsimp only [Option.toList, List.cons_append, List.nil_append]
  refine v_ifb_ne (q := 25) (q2 := 14) hC dX11_requireUser_11 (by decide) rfl (fun c_11 => ?_) (fun c_11 => ?_)
  · refine v_vret hC dX11_requireUser_25 hr ?_ (Nat.le_of_ble_eq_true rfl) (Nat.le_of_ble_eq_true rfl)
    exact ⟨by rw [c_11]; rfl, rfl⟩
  · refine v_throwXW hC dX11_requireUser_14 dX11_requireUser_17 dX11_requireUser_18 dX11_requireUser_21 dX11_requireUser_24 cl_RX11_382 (i := 0) rfl ⟨Nat.le_of_ble_eq_true rfl, Nat.le_of_ble_eq_true rfl, Nat.le_of_ble_eq_true rfl, Nat.le_of_ble_eq_true rfl, Nat.le_of_ble_eq_true rfl, Nat.le_of_ble_eq_true rfl⟩ ?_
    exact ⟨by rw [c_11]; rfl, rfl⟩
set_option maxHeartbeats 4000000 in
set_option maxRecDepth 20000 in
theorem c_X11_requireGroup {l : Launch} (hl : l.stackTraces = false) (Θ : cTH) (g : Int32) (G : GS) : Ct l yX11_requireGroup cX11_requireGroup 2 none rm_X11_requireGroup Θ [.ref (tR Θ 0 14), .int g] (G) (fG (jIdx g (G.1 0 1 1)) eX G) := by
  refine ct_of (LS := [some (.ref (tR Θ 0 14)), some (.int g)]) hl (by decide +kernel) rfl (Nat.le_of_ble_eq_true rfl) rfl ?_
  intro p e s m args below meth c hC hr
  refine v_aload_n (i := 0) (q := 1) hC dX11_requireGroup_0 rfl rfl rfl ?_
  refine g_X11_0 (q := 4) hC dX11_requireGroup_1 rfl rfl fl_RX11_10 ?_
  refine g_X9_0 (q := 7) hC dX11_requireGroup_4 rfl rfl fl_RX11_55 ?_
  refine v_iload_n (i := 1) (q := 8) hC dX11_requireGroup_7 rfl rfl rfl ?_
  refine v_callV (q := 11) (rm := rm_X0_hasGroup) hC (c_X0_hasGroup hl Θ _ _) k_X0_hasGroup im_yX0_hasGroup se_yX0_hasGroup ml_RX11_387 dX11_requireGroup_8 rfl rfl rfl rfl rfl rfl (Nat.le_of_ble_eq_true rfl) ⟨Nat.le_of_ble_eq_true rfl, Nat.le_of_ble_eq_true rfl⟩ ⟨Nat.le_of_ble_eq_true rfl, Nat.le_of_ble_eq_true rfl⟩ (fR_k ?_) fR_x (Nat.le_of_ble_eq_true rfl) (Nat.le_of_ble_eq_true rfl)
  try dsimp only [Option.toList, List.cons_append, List.nil_append]
  refine v_ifb_ne (q := 25) (q2 := 14) hC dX11_requireGroup_11 (by decide) rfl (fun c_11 => ?_) (fun c_11 => ?_)
  · refine v_vret hC dX11_requireGroup_25 hr ?_ (Nat.le_of_ble_eq_true rfl) (Nat.le_of_ble_eq_true rfl)
    exact ⟨by rw [c_11]; rfl, rfl⟩
  · refine v_throwXW hC dX11_requireGroup_14 dX11_requireGroup_17 dX11_requireGroup_18 dX11_requireGroup_21 dX11_requireGroup_24 cl_RX11_382 (i := 1) rfl ⟨Nat.le_of_ble_eq_true rfl, Nat.le_of_ble_eq_true rfl, Nat.le_of_ble_eq_true rfl, Nat.le_of_ble_eq_true rfl, Nat.le_of_ble_eq_true rfl, Nat.le_of_ble_eq_true rfl⟩ ?_
    exact ⟨by rw [c_11]; rfl, rfl⟩
set_option maxHeartbeats 4000000 in
set_option maxRecDepth 20000 in
theorem c_X11_requireObject {l : Launch} (hl : l.stackTraces = false) (Θ : cTH) (o : Int32) (G : GS) : Ct l yX11_requireObject cX11_requireObject 2 none rm_X11_requireObject Θ [.ref (tR Θ 0 14), .int o] (G) (fG (tHold (G.1 0 4 0) o) eX G) := by
  refine ct_of (LS := [some (.ref (tR Θ 0 14)), some (.int o)]) hl (by decide +kernel) rfl (Nat.le_of_ble_eq_true rfl) rfl ?_
  intro p e s m args below meth c hC hr
  refine v_aload_n (i := 0) (q := 1) hC dX11_requireObject_0 rfl rfl rfl ?_
  refine g_X11_0 (q := 4) hC dX11_requireObject_1 rfl rfl fl_RX11_10 ?_
  refine g_X9_1 (q := 7) hC dX11_requireObject_4 rfl rfl fl_RX11_127 ?_
  refine v_iload_n (i := 1) (q := 8) hC dX11_requireObject_7 rfl rfl rfl ?_
  refine v_callV (q := 11) (rm := rm_X10_holds) hC (c_X10_holds hl Θ _ _) k_X10_holds im_yX10_holds se_yX10_holds ml_RX11_308 dX11_requireObject_8 rfl rfl rfl rfl rfl rfl (Nat.le_of_ble_eq_true rfl) ⟨Nat.le_of_ble_eq_true rfl, Nat.le_of_ble_eq_true rfl⟩ ⟨Nat.le_of_ble_eq_true rfl, Nat.le_of_ble_eq_true rfl⟩ (fR_k ?_) fR_x (Nat.le_of_ble_eq_true rfl) (Nat.le_of_ble_eq_true rfl)
  try dsimp only [Option.toList, List.cons_append, List.nil_append]
  refine v_ifb_ne (q := 25) (q2 := 14) hC dX11_requireObject_11 (by decide) rfl (fun c_11 => ?_) (fun c_11 => ?_)
  · refine v_vret hC dX11_requireObject_25 hr ?_ (Nat.le_of_ble_eq_true rfl) (Nat.le_of_ble_eq_true rfl)
    exact ⟨by rw [c_11]; rfl, rfl⟩
  · refine v_throwXW hC dX11_requireObject_14 dX11_requireObject_17 dX11_requireObject_18 dX11_requireObject_21 dX11_requireObject_24 cl_RX11_382 (i := 2) rfl ⟨Nat.le_of_ble_eq_true rfl, Nat.le_of_ble_eq_true rfl, Nat.le_of_ble_eq_true rfl, Nat.le_of_ble_eq_true rfl, Nat.le_of_ble_eq_true rfl, Nat.le_of_ble_eq_true rfl⟩ ?_
    exact ⟨by rw [c_11]; rfl, rfl⟩
set_option maxHeartbeats 4000000 in
set_option maxRecDepth 20000 in
theorem c_X11_requireEntry {l : Launch} (hl : l.stackTraces = false) (Θ : cTH) (o e : Int32) (G : GS) : Ct l yX11_requireEntry cX11_requireEntry 3 none rm_X11_requireEntry Θ [.ref (tR Θ 0 14), .int o, .int e] (G) (fG (tHold (G.1 0 4 0) o && jIdx e (sCnt (G.2.1 0 9) o)) eX G) := by
  refine ct_of (LS := [some (.ref (tR Θ 0 14)), some (.int o), some (.int e)]) hl (by decide +kernel) rfl (Nat.le_of_ble_eq_true rfl) rfl ?_
  intro p e s m args below meth c hC hr
  refine v_aload_n (i := 0) (q := 1) hC dX11_requireEntry_0 rfl rfl rfl ?_
  refine v_iload_n (i := 1) (q := 2) hC dX11_requireEntry_1 rfl rfl rfl ?_
  refine v_callV (q := 5) (rm := rm_X11_requireObject) hC (c_X11_requireObject hl Θ _ _) k_X11_requireObject im_yX11_requireObject se_yX11_requireObject ml_RX11_124 dX11_requireEntry_2 rfl rfl rfl rfl rfl rfl (Nat.le_of_ble_eq_true rfl) ⟨Nat.le_of_ble_eq_true rfl, Nat.le_of_ble_eq_true rfl⟩ ⟨Nat.le_of_ble_eq_true rfl, Nat.le_of_ble_eq_true rfl⟩ (fG_k (fun r_2 => ?_)) (fG_x (fun z => ⟨by rw [z]; rfl, rfl⟩)) (Nat.le_of_ble_eq_true rfl) (Nat.le_of_ble_eq_true rfl)
  try dsimp only [Option.toList, List.cons_append, List.nil_append]
  skip
  refine v_iload_n (i := 2) (q := 6) hC dX11_requireEntry_5 rfl rfl rfl ?_
  refine v_aload_n (i := 0) (q := 7) hC dX11_requireEntry_6 rfl rfl rfl ?_
  refine g_X11_0 (q := 10) hC dX11_requireEntry_7 rfl rfl fl_RX11_10 ?_
  refine g_X9_2 (q := 13) hC dX11_requireEntry_10 rfl rfl fl_RX11_150 ?_
  refine v_iload_n (i := 1) (q := 14) hC dX11_requireEntry_13 rfl rfl rfl ?_
  refine v_callV (q := 17) (rm := rm_X6_countAt) hC (c_X6_countAt hl Θ _ _) k_X6_countAt im_yX6_countAt se_yX6_countAt ml_RX11_210 dX11_requireEntry_14 rfl rfl rfl rfl rfl rfl (Nat.le_of_ble_eq_true rfl) ⟨Nat.le_of_ble_eq_true rfl, Nat.le_of_ble_eq_true rfl⟩ ⟨Nat.le_of_ble_eq_true rfl, Nat.le_of_ble_eq_true rfl⟩ (fR_k ?_) fR_x (Nat.le_of_ble_eq_true rfl) (Nat.le_of_ble_eq_true rfl)
  try dsimp only [Option.toList, List.cons_append, List.nil_append]
  refine v_callS (q := 20) (rm := rm_X11_isIndex) hC (c_X11_isIndex hl Θ _ _ _) k_X11_isIndex st_yX11_isIndex ml_RX11_394 dX11_requireEntry_17 rfl  rfl rfl (Nat.le_of_ble_eq_true rfl) ⟨Nat.le_of_ble_eq_true rfl, Nat.le_of_ble_eq_true rfl⟩ ⟨Nat.le_of_ble_eq_true rfl, Nat.le_of_ble_eq_true rfl⟩ (fR_k ?_) fR_x (Nat.le_of_ble_eq_true rfl) (Nat.le_of_ble_eq_true rfl)
  try dsimp only [Option.toList, List.cons_append, List.nil_append]
  refine v_ifb_ne (q := 34) (q2 := 23) hC dX11_requireEntry_20 (by decide) rfl (fun c_20 => ?_) (fun c_20 => ?_)
  · refine v_vret hC dX11_requireEntry_34 hr ?_ (Nat.le_of_ble_eq_true rfl) (Nat.le_of_ble_eq_true rfl)
    exact ⟨by rw [r_2, c_20]; rfl, rfl⟩
  · refine v_throwXW hC dX11_requireEntry_23 dX11_requireEntry_26 dX11_requireEntry_27 dX11_requireEntry_30 dX11_requireEntry_33 cl_RX11_382 (i := 3) rfl ⟨Nat.le_of_ble_eq_true rfl, Nat.le_of_ble_eq_true rfl, Nat.le_of_ble_eq_true rfl, Nat.le_of_ble_eq_true rfl, Nat.le_of_ble_eq_true rfl, Nat.le_of_ble_eq_true rfl⟩ ?_
    exact ⟨by rw [r_2, c_20]; rfl, rfl⟩
set_option maxHeartbeats 4000000 in
set_option maxRecDepth 20000 in
theorem c_X11_requireRequest {l : Launch} (hl : l.stackTraces = false) (Θ : cTH) (a : Int32) (G : GS) : Ct l yX11_requireRequest cX11_requireRequest 2 none rm_X11_requireRequest Θ [.ref (tR Θ 0 14), .int a] (G) (fG (jIdx a (sKept G)) eX G) := by
  refine ct_of (LS := [some (.ref (tR Θ 0 14)), some (.int a)]) hl (by decide +kernel) rfl (Nat.le_of_ble_eq_true rfl) rfl ?_
  intro p e s m args below meth c hC hr
  refine v_iload_n (i := 1) (q := 1) hC dX11_requireRequest_0 rfl rfl rfl ?_
  refine v_aload_n (i := 0) (q := 2) hC dX11_requireRequest_1 rfl rfl rfl ?_
  refine g_X11_0 (q := 5) hC dX11_requireRequest_2 rfl rfl fl_RX11_10 ?_
  refine g_X9_3 (q := 8) hC dX11_requireRequest_5 rfl rfl fl_RX11_230 ?_
  refine v_callV (q := 11) (rm := rm_X7_countKept) hC (c_X7_countKept hl Θ _) k_X7_countKept im_yX7_countKept se_yX7_countKept ml_RX11_399 dX11_requireRequest_8 rfl rfl rfl rfl rfl rfl (Nat.le_of_ble_eq_true rfl) ⟨Nat.le_of_ble_eq_true rfl, Nat.le_of_ble_eq_true rfl⟩ ⟨Nat.le_of_ble_eq_true rfl, Nat.le_of_ble_eq_true rfl⟩ (fR_k ?_) fR_x (Nat.le_of_ble_eq_true rfl) (Nat.le_of_ble_eq_true rfl)
  try dsimp only [Option.toList, List.cons_append, List.nil_append]
  refine v_callS (q := 14) (rm := rm_X11_isIndex) hC (c_X11_isIndex hl Θ _ _ _) k_X11_isIndex st_yX11_isIndex ml_RX11_394 dX11_requireRequest_11 rfl  rfl rfl (Nat.le_of_ble_eq_true rfl) ⟨Nat.le_of_ble_eq_true rfl, Nat.le_of_ble_eq_true rfl⟩ ⟨Nat.le_of_ble_eq_true rfl, Nat.le_of_ble_eq_true rfl⟩ (fR_k ?_) fR_x (Nat.le_of_ble_eq_true rfl) (Nat.le_of_ble_eq_true rfl)
  try dsimp only [Option.toList, List.cons_append, List.nil_append]
  try rw [show (if (8 : Int32) < G.1 0 11 0 then 8 else G.1 0 11 0) = sKept G from rfl]
  refine v_ifb_ne (q := 28) (q2 := 17) hC dX11_requireRequest_14 (by decide) rfl (fun c_14 => ?_) (fun c_14 => ?_)
  · refine v_vret hC dX11_requireRequest_28 hr ?_ (Nat.le_of_ble_eq_true rfl) (Nat.le_of_ble_eq_true rfl)
    exact ⟨by rw [c_14]; rfl, rfl⟩
  · refine v_throwXW hC dX11_requireRequest_17 dX11_requireRequest_20 dX11_requireRequest_21 dX11_requireRequest_24 dX11_requireRequest_27 cl_RX11_382 (i := 5) rfl ⟨Nat.le_of_ble_eq_true rfl, Nat.le_of_ble_eq_true rfl, Nat.le_of_ble_eq_true rfl, Nat.le_of_ble_eq_true rfl, Nat.le_of_ble_eq_true rfl, Nat.le_of_ble_eq_true rfl⟩ ?_
    exact ⟨by rw [c_14]; rfl, rfl⟩
set_option maxHeartbeats 4000000 in
set_option maxRecDepth 20000 in
theorem c_X11_requireRight {l : Launch} (hl : l.stackTraces = false) (Θ : cTH) (r : Int32) (G : GS) : Ct l yX11_requireRight cX11_requireRight 2 none rm_X11_requireRight Θ [.ref (tR Θ 0 14), .int r] (G) (fG (jIdx r 4) eA G) := by
  refine ct_of (LS := [some (.ref (tR Θ 0 14)), some (.int r)]) hl (by decide +kernel) rfl (Nat.le_of_ble_eq_true rfl) rfl ?_
  intro p e s m args below meth c hC hr
  refine v_iload_n (i := 1) (q := 1) hC dX11_requireRight_0 rfl rfl rfl ?_
  refine v_iconst (q := 2) (v := 4) hC dX11_requireRight_1 rfl (by decide) ?_
  refine v_callS (q := 5) (rm := rm_X11_isIndex) hC (c_X11_isIndex hl Θ _ _ _) k_X11_isIndex st_yX11_isIndex ml_RX11_394 dX11_requireRight_2 rfl  rfl rfl (Nat.le_of_ble_eq_true rfl) ⟨Nat.le_of_ble_eq_true rfl, Nat.le_of_ble_eq_true rfl⟩ ⟨Nat.le_of_ble_eq_true rfl, Nat.le_of_ble_eq_true rfl⟩ (fR_k ?_) fR_x (Nat.le_of_ble_eq_true rfl) (Nat.le_of_ble_eq_true rfl)
  try dsimp only [Option.toList, List.cons_append, List.nil_append]
  refine v_ifb_ne (q := 19) (q2 := 8) hC dX11_requireRight_5 (by decide) rfl (fun c_5 => ?_) (fun c_5 => ?_)
  · refine v_vret hC dX11_requireRight_19 hr ?_ (Nat.le_of_ble_eq_true rfl) (Nat.le_of_ble_eq_true rfl)
    exact ⟨by rw [c_5]; rfl, rfl⟩
  · refine v_throwAW hC dX11_requireRight_8 dX11_requireRight_11 dX11_requireRight_12 dX11_requireRight_15 dX11_requireRight_18 cl_RX11_252 (i := 4) rfl ⟨Nat.le_of_ble_eq_true rfl, Nat.le_of_ble_eq_true rfl, Nat.le_of_ble_eq_true rfl, Nat.le_of_ble_eq_true rfl, Nat.le_of_ble_eq_true rfl, Nat.le_of_ble_eq_true rfl⟩ ?_
    exact ⟨by rw [c_5]; rfl, rfl⟩
set_option maxHeartbeats 4000000 in
set_option maxRecDepth 20000 in
theorem c_X11_requireRights {l : Launch} (hl : l.stackTraces = false) (Θ : cTH) (r le : Int32) (G : GS) : Ct l yX11_requireRights cX11_requireRights 3 none rm_X11_requireRights Θ [.ref (tR Θ 0 14), .int r, .int le] (G) (fG (decide (le ≤ r) && decide (r ≤ 15)) eA G) := by
  refine ct_of (LS := [some (.ref (tR Θ 0 14)), some (.int r), some (.int le)]) hl (by decide +kernel) rfl (Nat.le_of_ble_eq_true rfl) rfl ?_
  intro p e s m args below meth c hC hr
  refine v_iload_n (i := 1) (q := 1) hC dX11_requireRights_0 rfl rfl rfl ?_
  refine v_iload_n (i := 2) (q := 2) hC dX11_requireRights_1 rfl rfl rfl ?_
  refine v_icmp_lt (q := 11) (q2 := 5) hC dX11_requireRights_2 (by decide) rfl (fun c_2 => ?_) (fun c_2 => ?_)
  · refine v_throwAW hC dX11_requireRights_11 dX11_requireRights_14 dX11_requireRights_15 dX11_requireRights_18 dX11_requireRights_21 cl_RX11_252 (i := 15) rfl ⟨Nat.le_of_ble_eq_true rfl, Nat.le_of_ble_eq_true rfl, Nat.le_of_ble_eq_true rfl, Nat.le_of_ble_eq_true rfl, Nat.le_of_ble_eq_true rfl, Nat.le_of_ble_eq_true rfl⟩ ?_
    first | exact ⟨by rw [dnle c_2]; rfl, rfl⟩ | exact ⟨by rw [decide_eq_false c_8, Bool.and_false]; rfl, rfl⟩
  · refine v_iload_n (i := 1) (q := 6) hC dX11_requireRights_5 rfl rfl rfl ?_
    refine v_bipush (q := 8) (v := 15) hC dX11_requireRights_6 rfl (by decide) ?_
    refine v_icmp_le (q := 22) (q2 := 11) hC dX11_requireRights_8 (by decide) rfl (fun c_8 => ?_) (fun c_8 => ?_)
    · refine v_vret hC dX11_requireRights_22 hr ?_ (Nat.le_of_ble_eq_true rfl) (Nat.le_of_ble_eq_true rfl)
      exact ⟨by rw [dle c_2, decide_eq_true c_8]; rfl, rfl⟩
    · refine v_throwAW hC dX11_requireRights_11 dX11_requireRights_14 dX11_requireRights_15 dX11_requireRights_18 dX11_requireRights_21 cl_RX11_252 (i := 15) rfl ⟨Nat.le_of_ble_eq_true rfl, Nat.le_of_ble_eq_true rfl, Nat.le_of_ble_eq_true rfl, Nat.le_of_ble_eq_true rfl, Nat.le_of_ble_eq_true rfl, Nat.le_of_ble_eq_true rfl⟩ ?_
      first | exact ⟨by rw [dnle c_2]; rfl, rfl⟩ | exact ⟨by rw [decide_eq_false c_8, Bool.and_false]; rfl, rfl⟩
set_option maxHeartbeats 4000000 in
set_option maxRecDepth 20000 in
theorem c_X11_requireRoom {l : Launch} (hl : l.stackTraces = false) (Θ : cTH) (o : Int32) (G : GS) : Ct l yX11_requireRoom cX11_requireRoom 2 none rm_X11_requireRoom Θ [.ref (tR Θ 0 14), .int o] (G) (fG (decide (sCnt (G.2.1 0 9) o < 6)) eS G) := by
  refine ct_of (LS := [some (.ref (tR Θ 0 14)), some (.int o)]) hl (by decide +kernel) rfl (Nat.le_of_ble_eq_true rfl) rfl ?_
  intro p e s m args below meth c hC hr
  refine v_aload_n (i := 0) (q := 1) hC dX11_requireRoom_0 rfl rfl rfl ?_
  refine g_X11_0 (q := 4) hC dX11_requireRoom_1 rfl rfl fl_RX11_10 ?_
  refine g_X9_2 (q := 7) hC dX11_requireRoom_4 rfl rfl fl_RX11_150 ?_
  refine v_iload_n (i := 1) (q := 8) hC dX11_requireRoom_7 rfl rfl rfl ?_
  refine v_callV (q := 11) (rm := rm_X6_countAt) hC (c_X6_countAt hl Θ _ _) k_X6_countAt im_yX6_countAt se_yX6_countAt ml_RX11_210 dX11_requireRoom_8 rfl rfl rfl rfl rfl rfl (Nat.le_of_ble_eq_true rfl) ⟨Nat.le_of_ble_eq_true rfl, Nat.le_of_ble_eq_true rfl⟩ ⟨Nat.le_of_ble_eq_true rfl, Nat.le_of_ble_eq_true rfl⟩ (fR_k ?_) fR_x (Nat.le_of_ble_eq_true rfl) (Nat.le_of_ble_eq_true rfl)
  try dsimp only [Option.toList, List.cons_append, List.nil_append]
  refine v_bipush (q := 13) (v := 6) hC dX11_requireRoom_11 rfl (by decide) ?_
  refine v_icmp_lt (q := 27) (q2 := 16) hC dX11_requireRoom_13 (by decide) rfl (fun c_13 => ?_) (fun c_13 => ?_)
  · refine v_vret hC dX11_requireRoom_27 hr ?_ (Nat.le_of_ble_eq_true rfl) (Nat.le_of_ble_eq_true rfl)
    exact ⟨by rw [decide_eq_true c_13]; rfl, rfl⟩
  · refine v_throwSW hC dX11_requireRoom_16 dX11_requireRoom_19 dX11_requireRoom_20 dX11_requireRoom_23 dX11_requireRoom_26 cl_RX11_65 (i := 16) rfl ⟨Nat.le_of_ble_eq_true rfl, Nat.le_of_ble_eq_true rfl, Nat.le_of_ble_eq_true rfl, Nat.le_of_ble_eq_true rfl, Nat.le_of_ble_eq_true rfl, Nat.le_of_ble_eq_true rfl⟩ ?_
    exact ⟨by rw [decide_eq_false c_13]; rfl, rfl⟩
-- users and groups
set_option maxHeartbeats 4000000 in
set_option maxRecDepth 20000 in
theorem c_X11_addUser {l : Launch} (hl : l.stackTraces = false) (Θ : cTH) (G : GS) : Ct l yX11_addUser cX11_addUser 1 (some .int) rm_X11_addUser Θ [.ref (tR Θ 0 14)] (G) (gt (decide (G.1 0 1 0 < 12)) eS (fR (some (.int ((sKeep G).1 0 1 0))) (putF (sKeep G) 0 1 0 ((sKeep G).1 0 1 0 + 1))) (G)) := by
  refine ct_of (LS := [some (.ref (tR Θ 0 14))]) hl (by decide +kernel) rfl (Nat.le_of_ble_eq_true rfl) rfl ?_
  intro p e s m args below meth c hC hr
  refine v_aload_n (i := 0) (q := 1) hC dX11_addUser_0 rfl rfl rfl ?_
  refine g_X11_0 (q := 4) hC dX11_addUser_1 rfl rfl fl_RX11_10 ?_
  refine g_X9_0 (q := 7) hC dX11_addUser_4 rfl rfl fl_RX11_55 ?_
  refine g_X0_0 (q := 10) hC dX11_addUser_7 rfl rfl fl_RX11_59 ?_
  refine v_bipush (q := 12) (v := 12) hC dX11_addUser_10 rfl (by decide) ?_
  refine v_icmp_lt (q := 25) (q2 := 15) hC dX11_addUser_12 (by decide) rfl (fun c_12 => ?_) (fun c_12 => ?_)
  · rw [gt_t (decide_eq_true c_12)]
    refine v_aload_n (i := 0) (q := 26) hC dX11_addUser_25 rfl rfl rfl ?_
    refine g_X11_1 (q := 29) hC dX11_addUser_26 rfl rfl fl_RX11_19 ?_
    refine v_aload_n (i := 0) (q := 30) hC dX11_addUser_29 rfl rfl rfl ?_
    refine g_X11_0 (q := 33) hC dX11_addUser_30 rfl rfl fl_RX11_10 ?_
    refine v_callV (q := 36) (rm := rm_X3_keep) hC (c_X3_keep hl Θ _) k_X3_keep im_yX3_keep se_yX3_keep ml_RX11_72 dX11_addUser_33 rfl rfl rfl rfl rfl rfl (Nat.le_of_ble_eq_true rfl) ⟨Nat.le_of_ble_eq_true rfl, Nat.le_of_ble_eq_true rfl⟩ ⟨Nat.le_of_ble_eq_true rfl, Nat.le_of_ble_eq_true rfl⟩ (fR_k ?_) fR_x (Nat.le_of_ble_eq_true rfl) (Nat.le_of_ble_eq_true rfl)
    try dsimp only [Option.toList, List.cons_append, List.nil_append]
    refine v_aload_n (i := 0) (q := 37) hC dX11_addUser_36 rfl rfl rfl ?_
    refine g_X11_0 (q := 40) hC dX11_addUser_37 rfl rfl fl_RX11_10 ?_
    refine g_X9_0 (q := 43) hC dX11_addUser_40 rfl rfl fl_RX11_55 ?_
    refine v_callV (q := 46) (rm := rm_X0_takeUser) hC (c_X0_takeUser hl Θ _) k_X0_takeUser im_yX0_takeUser se_yX0_takeUser ml_RX11_76 dX11_addUser_43 rfl rfl rfl rfl rfl rfl (Nat.le_of_ble_eq_true rfl) ⟨Nat.le_of_ble_eq_true rfl, Nat.le_of_ble_eq_true rfl⟩ ⟨Nat.le_of_ble_eq_true rfl, Nat.le_of_ble_eq_true rfl⟩ (fR_k ?_) fR_x (Nat.le_of_ble_eq_true rfl) (Nat.le_of_ble_eq_true rfl)
    try dsimp only [Option.toList, List.cons_append, List.nil_append]
    refine v_iret hC dX11_addUser_46 hr (rfl) ?_ (Nat.le_of_ble_eq_true rfl) (Nat.le_of_ble_eq_true rfl)
    exact ⟨rfl, rfl⟩
  · refine v_throwS hC dX11_addUser_15 dX11_addUser_18 dX11_addUser_19 dX11_addUser_21 dX11_addUser_24 cl_RX11_65 (i := 6) rfl ⟨Nat.le_of_ble_eq_true rfl, Nat.le_of_ble_eq_true rfl, Nat.le_of_ble_eq_true rfl, Nat.le_of_ble_eq_true rfl, Nat.le_of_ble_eq_true rfl, Nat.le_of_ble_eq_true rfl⟩ ?_
    exact gt_f (decide_eq_false c_12)
set_option maxHeartbeats 4000000 in
set_option maxRecDepth 20000 in
theorem c_X11_addGroup {l : Launch} (hl : l.stackTraces = false) (Θ : cTH) (G : GS) : Ct l yX11_addGroup cX11_addGroup 1 (some .int) rm_X11_addGroup Θ [.ref (tR Θ 0 14)] (G) (gt (decide (G.1 0 1 1 < 8)) eS (fR (some (.int ((sKeep G).1 0 1 1))) (putF (sKeep G) 0 1 1 ((sKeep G).1 0 1 1 + 1))) (G)) := by
  refine ct_of (LS := [some (.ref (tR Θ 0 14))]) hl (by decide +kernel) rfl (Nat.le_of_ble_eq_true rfl) rfl ?_
  intro p e s m args below meth c hC hr
  refine v_aload_n (i := 0) (q := 1) hC dX11_addGroup_0 rfl rfl rfl ?_
  refine g_X11_0 (q := 4) hC dX11_addGroup_1 rfl rfl fl_RX11_10 ?_
  refine g_X9_0 (q := 7) hC dX11_addGroup_4 rfl rfl fl_RX11_55 ?_
  refine g_X0_1 (q := 10) hC dX11_addGroup_7 rfl rfl fl_RX11_80 ?_
  refine v_bipush (q := 12) (v := 8) hC dX11_addGroup_10 rfl (by decide) ?_
  refine v_icmp_lt (q := 25) (q2 := 15) hC dX11_addGroup_12 (by decide) rfl (fun c_12 => ?_) (fun c_12 => ?_)
  · rw [gt_t (decide_eq_true c_12)]
    refine v_aload_n (i := 0) (q := 26) hC dX11_addGroup_25 rfl rfl rfl ?_
    refine g_X11_1 (q := 29) hC dX11_addGroup_26 rfl rfl fl_RX11_19 ?_
    refine v_aload_n (i := 0) (q := 30) hC dX11_addGroup_29 rfl rfl rfl ?_
    refine g_X11_0 (q := 33) hC dX11_addGroup_30 rfl rfl fl_RX11_10 ?_
    refine v_callV (q := 36) (rm := rm_X3_keep) hC (c_X3_keep hl Θ _) k_X3_keep im_yX3_keep se_yX3_keep ml_RX11_72 dX11_addGroup_33 rfl rfl rfl rfl rfl rfl (Nat.le_of_ble_eq_true rfl) ⟨Nat.le_of_ble_eq_true rfl, Nat.le_of_ble_eq_true rfl⟩ ⟨Nat.le_of_ble_eq_true rfl, Nat.le_of_ble_eq_true rfl⟩ (fR_k ?_) fR_x (Nat.le_of_ble_eq_true rfl) (Nat.le_of_ble_eq_true rfl)
    try dsimp only [Option.toList, List.cons_append, List.nil_append]
    refine v_aload_n (i := 0) (q := 37) hC dX11_addGroup_36 rfl rfl rfl ?_
    refine g_X11_0 (q := 40) hC dX11_addGroup_37 rfl rfl fl_RX11_10 ?_
    refine g_X9_0 (q := 43) hC dX11_addGroup_40 rfl rfl fl_RX11_55 ?_
    refine v_callV (q := 46) (rm := rm_X0_takeGroup) hC (c_X0_takeGroup hl Θ _) k_X0_takeGroup im_yX0_takeGroup se_yX0_takeGroup ml_RX11_85 dX11_addGroup_43 rfl rfl rfl rfl rfl rfl (Nat.le_of_ble_eq_true rfl) ⟨Nat.le_of_ble_eq_true rfl, Nat.le_of_ble_eq_true rfl⟩ ⟨Nat.le_of_ble_eq_true rfl, Nat.le_of_ble_eq_true rfl⟩ (fR_k ?_) fR_x (Nat.le_of_ble_eq_true rfl) (Nat.le_of_ble_eq_true rfl)
    try dsimp only [Option.toList, List.cons_append, List.nil_append]
    refine v_iret hC dX11_addGroup_46 hr (rfl) ?_ (Nat.le_of_ble_eq_true rfl) (Nat.le_of_ble_eq_true rfl)
    exact ⟨rfl, rfl⟩
  · refine v_throwS hC dX11_addGroup_15 dX11_addGroup_18 dX11_addGroup_19 dX11_addGroup_21 dX11_addGroup_24 cl_RX11_65 (i := 7) rfl ⟨Nat.le_of_ble_eq_true rfl, Nat.le_of_ble_eq_true rfl, Nat.le_of_ble_eq_true rfl, Nat.le_of_ble_eq_true rfl, Nat.le_of_ble_eq_true rfl, Nat.le_of_ble_eq_true rfl⟩ ?_
    exact gt_f (decide_eq_false c_12)
set_option maxHeartbeats 4000000 in
set_option maxRecDepth 20000 in
theorem c_X11_join {l : Launch} (hl : l.stackTraces = false) (Θ : cTH) (u g : Int32) (G : GS) (hg : gOk G) : Ct l yX11_join cX11_join 3 (some .int) rm_X11_join Θ [.ref (tR Θ 0 14), .int u, .int g] (G) (gt (jIdx u (G.1 0 1 0)) eX (gt (jIdx g (G.1 0 1 1)) eX (gt (!sMem (G.2.1 0 2) g u) eS (fR (some (.int (uCnt (sSetM g u true (sKeep G)) (gN G) g))) (sSetM g u true (sKeep G))) (G)) (G)) (G)) := by
  refine ct_of (LS := [some (.ref (tR Θ 0 14)), some (.int u), some (.int g)]) hl (by decide +kernel) rfl (Nat.le_of_ble_eq_true rfl) rfl ?_
  intro p e s m args below meth c hC hr
  refine v_aload_n (i := 0) (q := 1) hC dX11_join_0 rfl rfl rfl ?_
  refine v_iload_n (i := 1) (q := 2) hC dX11_join_1 rfl rfl rfl ?_
  refine v_callV (q := 5) (rm := rm_X11_requireUser) hC (c_X11_requireUser hl Θ _ _) k_X11_requireUser im_yX11_requireUser se_yX11_requireUser ml_RX11_88 dX11_join_2 rfl rfl rfl rfl rfl rfl (Nat.le_of_ble_eq_true rfl) ⟨Nat.le_of_ble_eq_true rfl, Nat.le_of_ble_eq_true rfl⟩ ⟨Nat.le_of_ble_eq_true rfl, Nat.le_of_ble_eq_true rfl⟩ (fG_k (fun r_2 => ?_)) (fG_x (fun z => gt_f z)) (Nat.le_of_ble_eq_true rfl) (Nat.le_of_ble_eq_true rfl)
  try dsimp only [Option.toList, List.cons_append, List.nil_append]
  rw [gt_t r_2]
  refine v_aload_n (i := 0) (q := 6) hC dX11_join_5 rfl rfl rfl ?_
  refine v_iload_n (i := 2) (q := 7) hC dX11_join_6 rfl rfl rfl ?_
  refine v_callV (q := 10) (rm := rm_X11_requireGroup) hC (c_X11_requireGroup hl Θ _ _) k_X11_requireGroup im_yX11_requireGroup se_yX11_requireGroup ml_RX11_92 dX11_join_7 rfl rfl rfl rfl rfl rfl (Nat.le_of_ble_eq_true rfl) ⟨Nat.le_of_ble_eq_true rfl, Nat.le_of_ble_eq_true rfl⟩ ⟨Nat.le_of_ble_eq_true rfl, Nat.le_of_ble_eq_true rfl⟩ (fG_k (fun r_7 => ?_)) (fG_x (fun z => gt_f z)) (Nat.le_of_ble_eq_true rfl) (Nat.le_of_ble_eq_true rfl)
  try dsimp only [Option.toList, List.cons_append, List.nil_append]
  rw [gt_t r_7]
  refine v_aload_n (i := 0) (q := 11) hC dX11_join_10 rfl rfl rfl ?_
  refine g_X11_0 (q := 14) hC dX11_join_11 rfl rfl fl_RX11_10 ?_
  refine g_X9_0 (q := 17) hC dX11_join_14 rfl rfl fl_RX11_55 ?_
  refine v_iload_n (i := 2) (q := 18) hC dX11_join_17 rfl rfl rfl ?_
  refine v_iload_n (i := 1) (q := 19) hC dX11_join_18 rfl rfl rfl ?_
  refine v_callV (q := 22) (rm := rm_X0_hasMember) hC (c_X0_hasMember hl Θ _ _ _) k_X0_hasMember im_yX0_hasMember se_yX0_hasMember ml_RX11_95 dX11_join_19 rfl rfl rfl rfl rfl rfl (Nat.le_of_ble_eq_true rfl) ⟨Nat.le_of_ble_eq_true rfl, Nat.le_of_ble_eq_true rfl⟩ ⟨Nat.le_of_ble_eq_true rfl, Nat.le_of_ble_eq_true rfl⟩ (fR_k ?_) fR_x (Nat.le_of_ble_eq_true rfl) (Nat.le_of_ble_eq_true rfl)
  try dsimp only [Option.toList, List.cons_append, List.nil_append]
  refine v_ifb_eq (q := 35) (q2 := 25) hC dX11_join_22 (by decide) rfl (fun c_22 => ?_) (fun c_22 => ?_)
  · rw [gt_t (by first | (rw [c_22]; done) | (rw [c_22]; rfl))]
    refine v_aload_n (i := 0) (q := 36) hC dX11_join_35 rfl rfl rfl ?_
    refine g_X11_1 (q := 39) hC dX11_join_36 rfl rfl fl_RX11_19 ?_
    refine v_aload_n (i := 0) (q := 40) hC dX11_join_39 rfl rfl rfl ?_
    refine g_X11_0 (q := 43) hC dX11_join_40 rfl rfl fl_RX11_10 ?_
    refine v_callV (q := 46) (rm := rm_X3_keep) hC (c_X3_keep hl Θ _) k_X3_keep im_yX3_keep se_yX3_keep ml_RX11_72 dX11_join_43 rfl rfl rfl rfl rfl rfl (Nat.le_of_ble_eq_true rfl) ⟨Nat.le_of_ble_eq_true rfl, Nat.le_of_ble_eq_true rfl⟩ ⟨Nat.le_of_ble_eq_true rfl, Nat.le_of_ble_eq_true rfl⟩ (fR_k ?_) fR_x (Nat.le_of_ble_eq_true rfl) (Nat.le_of_ble_eq_true rfl)
    try dsimp only [Option.toList, List.cons_append, List.nil_append]
    refine v_aload_n (i := 0) (q := 47) hC dX11_join_46 rfl rfl rfl ?_
    refine g_X11_0 (q := 50) hC dX11_join_47 rfl rfl fl_RX11_10 ?_
    refine g_X9_0 (q := 53) hC dX11_join_50 rfl rfl fl_RX11_55 ?_
    refine v_iload_n (i := 2) (q := 54) hC dX11_join_53 rfl rfl rfl ?_
    refine v_iload_n (i := 1) (q := 55) hC dX11_join_54 rfl rfl rfl ?_
    refine v_iconst (q := 56) (v := 1) hC dX11_join_55 rfl (by decide) ?_
    refine v_callV (q := 59) (rm := rm_X0_setMember) hC (c_setM hl Θ _ _ true _) k_X0_setMember im_yX0_setMember se_yX0_setMember ml_RX11_101 dX11_join_56 rfl rfl rfl rfl rfl rfl (Nat.le_of_ble_eq_true rfl) ⟨Nat.le_of_ble_eq_true rfl, Nat.le_of_ble_eq_true rfl⟩ ⟨Nat.le_of_ble_eq_true rfl, Nat.le_of_ble_eq_true rfl⟩ (fR_k ?_) fR_x (Nat.le_of_ble_eq_true rfl) (Nat.le_of_ble_eq_true rfl)
    try dsimp only [Option.toList, List.cons_append, List.nil_append]
    refine v_aload_n (i := 0) (q := 60) hC dX11_join_59 rfl rfl rfl ?_
    refine g_X11_0 (q := 63) hC dX11_join_60 rfl rfl fl_RX11_10 ?_
    refine g_X9_0 (q := 66) hC dX11_join_63 rfl rfl fl_RX11_55 ?_
    refine v_iload_n (i := 2) (q := 67) hC dX11_join_66 rfl rfl rfl ?_
    refine v_callV (q := 70) (rm := rm_X0_countUsersIn) hC (c_X0_countUsersIn hl Θ _ _ (gN G) (by rw [sSetM_fld, sKeep_fld G (by decide)]; exact hg.1) hg.2) k_X0_countUsersIn im_yX0_countUsersIn se_yX0_countUsersIn ml_RX11_105 dX11_join_67 rfl rfl rfl rfl rfl rfl (Nat.le_of_ble_eq_true rfl) ⟨Nat.le_of_ble_eq_true rfl, Nat.le_of_ble_eq_true rfl⟩ ⟨Nat.le_of_ble_eq_true rfl, Nat.le_of_ble_eq_true rfl⟩ (fR_k ?_) fR_x (Nat.le_of_ble_eq_true rfl) (Nat.le_of_ble_eq_true rfl)
    try dsimp only [Option.toList, List.cons_append, List.nil_append]
    refine v_iret hC dX11_join_70 hr (rfl) ?_ (Nat.le_of_ble_eq_true rfl) (Nat.le_of_ble_eq_true rfl)
    exact ⟨rfl, rfl⟩
  · refine v_throwS hC dX11_join_25 dX11_join_28 dX11_join_29 dX11_join_31 dX11_join_34 cl_RX11_65 (i := 8) rfl ⟨Nat.le_of_ble_eq_true rfl, Nat.le_of_ble_eq_true rfl, Nat.le_of_ble_eq_true rfl, Nat.le_of_ble_eq_true rfl, Nat.le_of_ble_eq_true rfl, Nat.le_of_ble_eq_true rfl⟩ ?_
    exact gt_f (by first | (rw [c_22]; done) | (rw [c_22]; rfl))
set_option maxHeartbeats 4000000 in
set_option maxRecDepth 20000 in
theorem c_X11_leave {l : Launch} (hl : l.stackTraces = false) (Θ : cTH) (u g : Int32) (G : GS) (hg : gOk G) : Ct l yX11_leave cX11_leave 3 (some .int) rm_X11_leave Θ [.ref (tR Θ 0 14), .int u, .int g] (G) (gt (jIdx u (G.1 0 1 0)) eX (gt (jIdx g (G.1 0 1 1)) eX (gt (sMem (G.2.1 0 2) g u) eS (fR (some (.int (uCnt (sSetM g u false (sKeep G)) (gN G) g))) (sSetM g u false (sKeep G))) (G)) (G)) (G)) := by
  refine ct_of (LS := [some (.ref (tR Θ 0 14)), some (.int u), some (.int g)]) hl (by decide +kernel) rfl (Nat.le_of_ble_eq_true rfl) rfl ?_
  intro p e s m args below meth c hC hr
  refine v_aload_n (i := 0) (q := 1) hC dX11_leave_0 rfl rfl rfl ?_
  refine v_iload_n (i := 1) (q := 2) hC dX11_leave_1 rfl rfl rfl ?_
  refine v_callV (q := 5) (rm := rm_X11_requireUser) hC (c_X11_requireUser hl Θ _ _) k_X11_requireUser im_yX11_requireUser se_yX11_requireUser ml_RX11_88 dX11_leave_2 rfl rfl rfl rfl rfl rfl (Nat.le_of_ble_eq_true rfl) ⟨Nat.le_of_ble_eq_true rfl, Nat.le_of_ble_eq_true rfl⟩ ⟨Nat.le_of_ble_eq_true rfl, Nat.le_of_ble_eq_true rfl⟩ (fG_k (fun r_2 => ?_)) (fG_x (fun z => gt_f z)) (Nat.le_of_ble_eq_true rfl) (Nat.le_of_ble_eq_true rfl)
  try dsimp only [Option.toList, List.cons_append, List.nil_append]
  rw [gt_t r_2]
  refine v_aload_n (i := 0) (q := 6) hC dX11_leave_5 rfl rfl rfl ?_
  refine v_iload_n (i := 2) (q := 7) hC dX11_leave_6 rfl rfl rfl ?_
  refine v_callV (q := 10) (rm := rm_X11_requireGroup) hC (c_X11_requireGroup hl Θ _ _) k_X11_requireGroup im_yX11_requireGroup se_yX11_requireGroup ml_RX11_92 dX11_leave_7 rfl rfl rfl rfl rfl rfl (Nat.le_of_ble_eq_true rfl) ⟨Nat.le_of_ble_eq_true rfl, Nat.le_of_ble_eq_true rfl⟩ ⟨Nat.le_of_ble_eq_true rfl, Nat.le_of_ble_eq_true rfl⟩ (fG_k (fun r_7 => ?_)) (fG_x (fun z => gt_f z)) (Nat.le_of_ble_eq_true rfl) (Nat.le_of_ble_eq_true rfl)
  try dsimp only [Option.toList, List.cons_append, List.nil_append]
  rw [gt_t r_7]
  refine v_aload_n (i := 0) (q := 11) hC dX11_leave_10 rfl rfl rfl ?_
  refine g_X11_0 (q := 14) hC dX11_leave_11 rfl rfl fl_RX11_10 ?_
  refine g_X9_0 (q := 17) hC dX11_leave_14 rfl rfl fl_RX11_55 ?_
  refine v_iload_n (i := 2) (q := 18) hC dX11_leave_17 rfl rfl rfl ?_
  refine v_iload_n (i := 1) (q := 19) hC dX11_leave_18 rfl rfl rfl ?_
  refine v_callV (q := 22) (rm := rm_X0_hasMember) hC (c_X0_hasMember hl Θ _ _ _) k_X0_hasMember im_yX0_hasMember se_yX0_hasMember ml_RX11_95 dX11_leave_19 rfl rfl rfl rfl rfl rfl (Nat.le_of_ble_eq_true rfl) ⟨Nat.le_of_ble_eq_true rfl, Nat.le_of_ble_eq_true rfl⟩ ⟨Nat.le_of_ble_eq_true rfl, Nat.le_of_ble_eq_true rfl⟩ (fR_k ?_) fR_x (Nat.le_of_ble_eq_true rfl) (Nat.le_of_ble_eq_true rfl)
  try dsimp only [Option.toList, List.cons_append, List.nil_append]
  refine v_ifb_ne (q := 35) (q2 := 25) hC dX11_leave_22 (by decide) rfl (fun c_22 => ?_) (fun c_22 => ?_)
  · rw [gt_t (by first | (rw [c_22]; done) | (rw [c_22]; rfl))]
    refine v_aload_n (i := 0) (q := 36) hC dX11_leave_35 rfl rfl rfl ?_
    refine g_X11_1 (q := 39) hC dX11_leave_36 rfl rfl fl_RX11_19 ?_
    refine v_aload_n (i := 0) (q := 40) hC dX11_leave_39 rfl rfl rfl ?_
    refine g_X11_0 (q := 43) hC dX11_leave_40 rfl rfl fl_RX11_10 ?_
    refine v_callV (q := 46) (rm := rm_X3_keep) hC (c_X3_keep hl Θ _) k_X3_keep im_yX3_keep se_yX3_keep ml_RX11_72 dX11_leave_43 rfl rfl rfl rfl rfl rfl (Nat.le_of_ble_eq_true rfl) ⟨Nat.le_of_ble_eq_true rfl, Nat.le_of_ble_eq_true rfl⟩ ⟨Nat.le_of_ble_eq_true rfl, Nat.le_of_ble_eq_true rfl⟩ (fR_k ?_) fR_x (Nat.le_of_ble_eq_true rfl) (Nat.le_of_ble_eq_true rfl)
    try dsimp only [Option.toList, List.cons_append, List.nil_append]
    refine v_aload_n (i := 0) (q := 47) hC dX11_leave_46 rfl rfl rfl ?_
    refine g_X11_0 (q := 50) hC dX11_leave_47 rfl rfl fl_RX11_10 ?_
    refine g_X9_0 (q := 53) hC dX11_leave_50 rfl rfl fl_RX11_55 ?_
    refine v_iload_n (i := 2) (q := 54) hC dX11_leave_53 rfl rfl rfl ?_
    refine v_iload_n (i := 1) (q := 55) hC dX11_leave_54 rfl rfl rfl ?_
    refine v_iconst (q := 56) (v := 0) hC dX11_leave_55 rfl (by decide) ?_
    refine v_callV (q := 59) (rm := rm_X0_setMember) hC (c_setM hl Θ _ _ false _) k_X0_setMember im_yX0_setMember se_yX0_setMember ml_RX11_101 dX11_leave_56 rfl rfl rfl rfl rfl rfl (Nat.le_of_ble_eq_true rfl) ⟨Nat.le_of_ble_eq_true rfl, Nat.le_of_ble_eq_true rfl⟩ ⟨Nat.le_of_ble_eq_true rfl, Nat.le_of_ble_eq_true rfl⟩ (fR_k ?_) fR_x (Nat.le_of_ble_eq_true rfl) (Nat.le_of_ble_eq_true rfl)
    try dsimp only [Option.toList, List.cons_append, List.nil_append]
    refine v_aload_n (i := 0) (q := 60) hC dX11_leave_59 rfl rfl rfl ?_
    refine g_X11_0 (q := 63) hC dX11_leave_60 rfl rfl fl_RX11_10 ?_
    refine g_X9_0 (q := 66) hC dX11_leave_63 rfl rfl fl_RX11_55 ?_
    refine v_iload_n (i := 2) (q := 67) hC dX11_leave_66 rfl rfl rfl ?_
    refine v_callV (q := 70) (rm := rm_X0_countUsersIn) hC (c_X0_countUsersIn hl Θ _ _ (gN G) (by rw [sSetM_fld, sKeep_fld G (by decide)]; exact hg.1) hg.2) k_X0_countUsersIn im_yX0_countUsersIn se_yX0_countUsersIn ml_RX11_105 dX11_leave_67 rfl rfl rfl rfl rfl rfl (Nat.le_of_ble_eq_true rfl) ⟨Nat.le_of_ble_eq_true rfl, Nat.le_of_ble_eq_true rfl⟩ ⟨Nat.le_of_ble_eq_true rfl, Nat.le_of_ble_eq_true rfl⟩ (fR_k ?_) fR_x (Nat.le_of_ble_eq_true rfl) (Nat.le_of_ble_eq_true rfl)
    try dsimp only [Option.toList, List.cons_append, List.nil_append]
    refine v_iret hC dX11_leave_70 hr (rfl) ?_ (Nat.le_of_ble_eq_true rfl) (Nat.le_of_ble_eq_true rfl)
    exact ⟨rfl, rfl⟩
  · refine v_throwS hC dX11_leave_25 dX11_leave_28 dX11_leave_29 dX11_leave_31 dX11_leave_34 cl_RX11_65 (i := 9) rfl ⟨Nat.le_of_ble_eq_true rfl, Nat.le_of_ble_eq_true rfl, Nat.le_of_ble_eq_true rfl, Nat.le_of_ble_eq_true rfl, Nat.le_of_ble_eq_true rfl, Nat.le_of_ble_eq_true rfl⟩ ?_
    exact gt_f (by first | (rw [c_22]; done) | (rw [c_22]; rfl))
set_option maxHeartbeats 4000000 in
set_option maxRecDepth 20000 in
theorem c_X11_nest {l : Launch} (hl : l.stackTraces = false) (Θ : cTH) (i o : Int32) (G : GS) (hg : gOk G) : Ct l yX11_nest cX11_nest 3 (some .int) rm_X11_nest Θ [.ref (tR Θ 0 14), .int i, .int o] (G) (gt (jIdx i (G.1 0 1 1)) eX (gt (jIdx o (G.1 0 1 1)) eX (gt (!(decide (i = o) || (sInn (G.2.1 0 3) o i || (jIdx o 8 && jHas (cUp (G.2.1 0 3) (gN G) (G.2.1 0 3 o.toNatClampNeg)) i)))) eS (fR (some (.int (uCnt (sSetI o i true (sKeep G)) (gN G) o))) (sSetI o i true (sKeep G))) (G)) (G)) (G)) := by
  refine ct_of (LS := [some (.ref (tR Θ 0 14)), some (.int i), some (.int o)]) hl (by decide +kernel) rfl (Nat.le_of_ble_eq_true rfl) rfl ?_
  intro p e s m args below meth c hC hr
  refine v_aload_n (i := 0) (q := 1) hC dX11_nest_0 rfl rfl rfl ?_
  refine v_iload_n (i := 1) (q := 2) hC dX11_nest_1 rfl rfl rfl ?_
  refine v_callV (q := 5) (rm := rm_X11_requireGroup) hC (c_X11_requireGroup hl Θ _ _) k_X11_requireGroup im_yX11_requireGroup se_yX11_requireGroup ml_RX11_92 dX11_nest_2 rfl rfl rfl rfl rfl rfl (Nat.le_of_ble_eq_true rfl) ⟨Nat.le_of_ble_eq_true rfl, Nat.le_of_ble_eq_true rfl⟩ ⟨Nat.le_of_ble_eq_true rfl, Nat.le_of_ble_eq_true rfl⟩ (fG_k (fun r_2 => ?_)) (fG_x (fun z => gt_f z)) (Nat.le_of_ble_eq_true rfl) (Nat.le_of_ble_eq_true rfl)
  try dsimp only [Option.toList, List.cons_append, List.nil_append]
  rw [gt_t r_2]
  refine v_aload_n (i := 0) (q := 6) hC dX11_nest_5 rfl rfl rfl ?_
  refine v_iload_n (i := 2) (q := 7) hC dX11_nest_6 rfl rfl rfl ?_
  refine v_callV (q := 10) (rm := rm_X11_requireGroup) hC (c_X11_requireGroup hl Θ _ _) k_X11_requireGroup im_yX11_requireGroup se_yX11_requireGroup ml_RX11_92 dX11_nest_7 rfl rfl rfl rfl rfl rfl (Nat.le_of_ble_eq_true rfl) ⟨Nat.le_of_ble_eq_true rfl, Nat.le_of_ble_eq_true rfl⟩ ⟨Nat.le_of_ble_eq_true rfl, Nat.le_of_ble_eq_true rfl⟩ (fG_k (fun r_7 => ?_)) (fG_x (fun z => gt_f z)) (Nat.le_of_ble_eq_true rfl) (Nat.le_of_ble_eq_true rfl)
  try dsimp only [Option.toList, List.cons_append, List.nil_append]
  rw [gt_t r_7]
  refine v_iload_n (i := 1) (q := 11) hC dX11_nest_10 rfl rfl rfl ?_
  refine v_iload_n (i := 2) (q := 12) hC dX11_nest_11 rfl rfl rfl ?_
  refine v_icmp_eq (q := 45) (q2 := 15) hC dX11_nest_12 (by decide) rfl (fun c_12 => ?_) (fun c_12 => ?_)
  · refine v_throwS hC dX11_nest_45 dX11_nest_48 dX11_nest_49 dX11_nest_51 dX11_nest_54 cl_RX11_65 (i := 10) rfl ⟨Nat.le_of_ble_eq_true rfl, Nat.le_of_ble_eq_true rfl, Nat.le_of_ble_eq_true rfl, Nat.le_of_ble_eq_true rfl, Nat.le_of_ble_eq_true rfl, Nat.le_of_ble_eq_true rfl⟩ ?_
    exact gt_f (by first | (rw [decide_eq_true c_12]; rfl) | (rw [c_27, Bool.true_or, Bool.or_true]; rfl) | (rw [c_42, Bool.or_true, Bool.or_true]; rfl))
  · refine v_aload_n (i := 0) (q := 16) hC dX11_nest_15 rfl rfl rfl ?_
    refine g_X11_0 (q := 19) hC dX11_nest_16 rfl rfl fl_RX11_10 ?_
    refine g_X9_0 (q := 22) hC dX11_nest_19 rfl rfl fl_RX11_55 ?_
    refine v_iload_n (i := 2) (q := 23) hC dX11_nest_22 rfl rfl rfl ?_
    refine v_iload_n (i := 1) (q := 24) hC dX11_nest_23 rfl rfl rfl ?_
    refine v_callV (q := 27) (rm := rm_X0_hasInner) hC (c_X0_hasInner hl Θ _ _ _) k_X0_hasInner im_yX0_hasInner se_yX0_hasInner ml_RX11_111 dX11_nest_24 rfl rfl rfl rfl rfl rfl (Nat.le_of_ble_eq_true rfl) ⟨Nat.le_of_ble_eq_true rfl, Nat.le_of_ble_eq_true rfl⟩ ⟨Nat.le_of_ble_eq_true rfl, Nat.le_of_ble_eq_true rfl⟩ (fR_k ?_) fR_x (Nat.le_of_ble_eq_true rfl) (Nat.le_of_ble_eq_true rfl)
    try dsimp only [Option.toList, List.cons_append, List.nil_append]
    refine v_ifb_ne (q := 45) (q2 := 30) hC dX11_nest_27 (by decide) rfl (fun c_27 => ?_) (fun c_27 => ?_)
    · refine v_throwS hC dX11_nest_45 dX11_nest_48 dX11_nest_49 dX11_nest_51 dX11_nest_54 cl_RX11_65 (i := 10) rfl ⟨Nat.le_of_ble_eq_true rfl, Nat.le_of_ble_eq_true rfl, Nat.le_of_ble_eq_true rfl, Nat.le_of_ble_eq_true rfl, Nat.le_of_ble_eq_true rfl, Nat.le_of_ble_eq_true rfl⟩ ?_
      exact gt_f (by first | (rw [decide_eq_true c_12]; rfl) | (rw [c_27, Bool.true_or, Bool.or_true]; rfl) | (rw [c_42, Bool.or_true, Bool.or_true]; rfl))
    · refine v_aload_n (i := 0) (q := 31) hC dX11_nest_30 rfl rfl rfl ?_
      refine g_X11_0 (q := 34) hC dX11_nest_31 rfl rfl fl_RX11_10 ?_
      refine g_X9_0 (q := 37) hC dX11_nest_34 rfl rfl fl_RX11_55 ?_
      refine v_iload_n (i := 2) (q := 38) hC dX11_nest_37 rfl rfl rfl ?_
      refine v_iload_n (i := 1) (q := 39) hC dX11_nest_38 rfl rfl rfl ?_
      refine v_callV (q := 42) (rm := rm_X0_isWithin) hC (c_X0_isWithin hl Θ _ _ _ (gN G) hg.1 hg.2) k_X0_isWithin im_yX0_isWithin se_yX0_isWithin ml_RX11_114 dX11_nest_39 rfl rfl rfl rfl rfl rfl (Nat.le_of_ble_eq_true rfl) ⟨Nat.le_of_ble_eq_true rfl, Nat.le_of_ble_eq_true rfl⟩ ⟨Nat.le_of_ble_eq_true rfl, Nat.le_of_ble_eq_true rfl⟩ (fR_k ?_) fR_x (Nat.le_of_ble_eq_true rfl) (Nat.le_of_ble_eq_true rfl)
      try dsimp only [Option.toList, List.cons_append, List.nil_append]
      refine v_ifb_eq (q := 55) (q2 := 45) hC dX11_nest_42 (by decide) rfl (fun c_42 => ?_) (fun c_42 => ?_)
      · rw [gt_t (by rw [decide_eq_false c_12, c_27, c_42]; rfl)]
        refine v_aload_n (i := 0) (q := 56) hC dX11_nest_55 rfl rfl rfl ?_
        refine g_X11_1 (q := 59) hC dX11_nest_56 rfl rfl fl_RX11_19 ?_
        refine v_aload_n (i := 0) (q := 60) hC dX11_nest_59 rfl rfl rfl ?_
        refine g_X11_0 (q := 63) hC dX11_nest_60 rfl rfl fl_RX11_10 ?_
        refine v_callV (q := 66) (rm := rm_X3_keep) hC (c_X3_keep hl Θ _) k_X3_keep im_yX3_keep se_yX3_keep ml_RX11_72 dX11_nest_63 rfl rfl rfl rfl rfl rfl (Nat.le_of_ble_eq_true rfl) ⟨Nat.le_of_ble_eq_true rfl, Nat.le_of_ble_eq_true rfl⟩ ⟨Nat.le_of_ble_eq_true rfl, Nat.le_of_ble_eq_true rfl⟩ (fR_k ?_) fR_x (Nat.le_of_ble_eq_true rfl) (Nat.le_of_ble_eq_true rfl)
        try dsimp only [Option.toList, List.cons_append, List.nil_append]
        refine v_aload_n (i := 0) (q := 67) hC dX11_nest_66 rfl rfl rfl ?_
        refine g_X11_0 (q := 70) hC dX11_nest_67 rfl rfl fl_RX11_10 ?_
        refine g_X9_0 (q := 73) hC dX11_nest_70 rfl rfl fl_RX11_55 ?_
        refine v_iload_n (i := 2) (q := 74) hC dX11_nest_73 rfl rfl rfl ?_
        refine v_iload_n (i := 1) (q := 75) hC dX11_nest_74 rfl rfl rfl ?_
        refine v_iconst (q := 76) (v := 1) hC dX11_nest_75 rfl (by decide) ?_
        refine v_callV (q := 79) (rm := rm_X0_setInner) hC (c_setI hl Θ _ _ true _) k_X0_setInner im_yX0_setInner se_yX0_setInner ml_RX11_119 dX11_nest_76 rfl rfl rfl rfl rfl rfl (Nat.le_of_ble_eq_true rfl) ⟨Nat.le_of_ble_eq_true rfl, Nat.le_of_ble_eq_true rfl⟩ ⟨Nat.le_of_ble_eq_true rfl, Nat.le_of_ble_eq_true rfl⟩ (fR_k ?_) fR_x (Nat.le_of_ble_eq_true rfl) (Nat.le_of_ble_eq_true rfl)
        try dsimp only [Option.toList, List.cons_append, List.nil_append]
        refine v_aload_n (i := 0) (q := 80) hC dX11_nest_79 rfl rfl rfl ?_
        refine g_X11_0 (q := 83) hC dX11_nest_80 rfl rfl fl_RX11_10 ?_
        refine g_X9_0 (q := 86) hC dX11_nest_83 rfl rfl fl_RX11_55 ?_
        refine v_iload_n (i := 2) (q := 87) hC dX11_nest_86 rfl rfl rfl ?_
        refine v_callV (q := 90) (rm := rm_X0_countUsersIn) hC (c_X0_countUsersIn hl Θ _ _ (gN G) (by rw [sSetI_fld, sKeep_fld G (by decide)]; exact hg.1) hg.2) k_X0_countUsersIn im_yX0_countUsersIn se_yX0_countUsersIn ml_RX11_105 dX11_nest_87 rfl rfl rfl rfl rfl rfl (Nat.le_of_ble_eq_true rfl) ⟨Nat.le_of_ble_eq_true rfl, Nat.le_of_ble_eq_true rfl⟩ ⟨Nat.le_of_ble_eq_true rfl, Nat.le_of_ble_eq_true rfl⟩ (fR_k ?_) fR_x (Nat.le_of_ble_eq_true rfl) (Nat.le_of_ble_eq_true rfl)
        try dsimp only [Option.toList, List.cons_append, List.nil_append]
        refine v_iret hC dX11_nest_90 hr (rfl) ?_ (Nat.le_of_ble_eq_true rfl) (Nat.le_of_ble_eq_true rfl)
        exact ⟨rfl, rfl⟩
      · refine v_throwS hC dX11_nest_45 dX11_nest_48 dX11_nest_49 dX11_nest_51 dX11_nest_54 cl_RX11_65 (i := 10) rfl ⟨Nat.le_of_ble_eq_true rfl, Nat.le_of_ble_eq_true rfl, Nat.le_of_ble_eq_true rfl, Nat.le_of_ble_eq_true rfl, Nat.le_of_ble_eq_true rfl, Nat.le_of_ble_eq_true rfl⟩ ?_
        exact gt_f (by first | (rw [decide_eq_true c_12]; rfl) | (rw [c_27, Bool.true_or, Bool.or_true]; rfl) | (rw [c_42, Bool.or_true, Bool.or_true]; rfl))
set_option maxHeartbeats 4000000 in
set_option maxRecDepth 20000 in
theorem c_X11_unnest {l : Launch} (hl : l.stackTraces = false) (Θ : cTH) (i o : Int32) (G : GS) (hg : gOk G) : Ct l yX11_unnest cX11_unnest 3 (some .int) rm_X11_unnest Θ [.ref (tR Θ 0 14), .int i, .int o] (G) (gt (jIdx i (G.1 0 1 1)) eX (gt (jIdx o (G.1 0 1 1)) eX (gt (sInn (G.2.1 0 3) o i) eS (fR (some (.int (uCnt (sSetI o i false (sKeep G)) (gN G) o))) (sSetI o i false (sKeep G))) (G)) (G)) (G)) := by
  refine ct_of (LS := [some (.ref (tR Θ 0 14)), some (.int i), some (.int o)]) hl (by decide +kernel) rfl (Nat.le_of_ble_eq_true rfl) rfl ?_
  intro p e s m args below meth c hC hr
  refine v_aload_n (i := 0) (q := 1) hC dX11_unnest_0 rfl rfl rfl ?_
  refine v_iload_n (i := 1) (q := 2) hC dX11_unnest_1 rfl rfl rfl ?_
  refine v_callV (q := 5) (rm := rm_X11_requireGroup) hC (c_X11_requireGroup hl Θ _ _) k_X11_requireGroup im_yX11_requireGroup se_yX11_requireGroup ml_RX11_92 dX11_unnest_2 rfl rfl rfl rfl rfl rfl (Nat.le_of_ble_eq_true rfl) ⟨Nat.le_of_ble_eq_true rfl, Nat.le_of_ble_eq_true rfl⟩ ⟨Nat.le_of_ble_eq_true rfl, Nat.le_of_ble_eq_true rfl⟩ (fG_k (fun r_2 => ?_)) (fG_x (fun z => gt_f z)) (Nat.le_of_ble_eq_true rfl) (Nat.le_of_ble_eq_true rfl)
  try dsimp only [Option.toList, List.cons_append, List.nil_append]
  rw [gt_t r_2]
  refine v_aload_n (i := 0) (q := 6) hC dX11_unnest_5 rfl rfl rfl ?_
  refine v_iload_n (i := 2) (q := 7) hC dX11_unnest_6 rfl rfl rfl ?_
  refine v_callV (q := 10) (rm := rm_X11_requireGroup) hC (c_X11_requireGroup hl Θ _ _) k_X11_requireGroup im_yX11_requireGroup se_yX11_requireGroup ml_RX11_92 dX11_unnest_7 rfl rfl rfl rfl rfl rfl (Nat.le_of_ble_eq_true rfl) ⟨Nat.le_of_ble_eq_true rfl, Nat.le_of_ble_eq_true rfl⟩ ⟨Nat.le_of_ble_eq_true rfl, Nat.le_of_ble_eq_true rfl⟩ (fG_k (fun r_7 => ?_)) (fG_x (fun z => gt_f z)) (Nat.le_of_ble_eq_true rfl) (Nat.le_of_ble_eq_true rfl)
  try dsimp only [Option.toList, List.cons_append, List.nil_append]
  rw [gt_t r_7]
  refine v_aload_n (i := 0) (q := 11) hC dX11_unnest_10 rfl rfl rfl ?_
  refine g_X11_0 (q := 14) hC dX11_unnest_11 rfl rfl fl_RX11_10 ?_
  refine g_X9_0 (q := 17) hC dX11_unnest_14 rfl rfl fl_RX11_55 ?_
  refine v_iload_n (i := 2) (q := 18) hC dX11_unnest_17 rfl rfl rfl ?_
  refine v_iload_n (i := 1) (q := 19) hC dX11_unnest_18 rfl rfl rfl ?_
  refine v_callV (q := 22) (rm := rm_X0_hasInner) hC (c_X0_hasInner hl Θ _ _ _) k_X0_hasInner im_yX0_hasInner se_yX0_hasInner ml_RX11_111 dX11_unnest_19 rfl rfl rfl rfl rfl rfl (Nat.le_of_ble_eq_true rfl) ⟨Nat.le_of_ble_eq_true rfl, Nat.le_of_ble_eq_true rfl⟩ ⟨Nat.le_of_ble_eq_true rfl, Nat.le_of_ble_eq_true rfl⟩ (fR_k ?_) fR_x (Nat.le_of_ble_eq_true rfl) (Nat.le_of_ble_eq_true rfl)
  try dsimp only [Option.toList, List.cons_append, List.nil_append]
  refine v_ifb_ne (q := 35) (q2 := 25) hC dX11_unnest_22 (by decide) rfl (fun c_22 => ?_) (fun c_22 => ?_)
  · rw [gt_t c_22]
    refine v_aload_n (i := 0) (q := 36) hC dX11_unnest_35 rfl rfl rfl ?_
    refine g_X11_1 (q := 39) hC dX11_unnest_36 rfl rfl fl_RX11_19 ?_
    refine v_aload_n (i := 0) (q := 40) hC dX11_unnest_39 rfl rfl rfl ?_
    refine g_X11_0 (q := 43) hC dX11_unnest_40 rfl rfl fl_RX11_10 ?_
    refine v_callV (q := 46) (rm := rm_X3_keep) hC (c_X3_keep hl Θ _) k_X3_keep im_yX3_keep se_yX3_keep ml_RX11_72 dX11_unnest_43 rfl rfl rfl rfl rfl rfl (Nat.le_of_ble_eq_true rfl) ⟨Nat.le_of_ble_eq_true rfl, Nat.le_of_ble_eq_true rfl⟩ ⟨Nat.le_of_ble_eq_true rfl, Nat.le_of_ble_eq_true rfl⟩ (fR_k ?_) fR_x (Nat.le_of_ble_eq_true rfl) (Nat.le_of_ble_eq_true rfl)
    try dsimp only [Option.toList, List.cons_append, List.nil_append]
    refine v_aload_n (i := 0) (q := 47) hC dX11_unnest_46 rfl rfl rfl ?_
    refine g_X11_0 (q := 50) hC dX11_unnest_47 rfl rfl fl_RX11_10 ?_
    refine g_X9_0 (q := 53) hC dX11_unnest_50 rfl rfl fl_RX11_55 ?_
    refine v_iload_n (i := 2) (q := 54) hC dX11_unnest_53 rfl rfl rfl ?_
    refine v_iload_n (i := 1) (q := 55) hC dX11_unnest_54 rfl rfl rfl ?_
    refine v_iconst (q := 56) (v := 0) hC dX11_unnest_55 rfl (by decide) ?_
    refine v_callV (q := 59) (rm := rm_X0_setInner) hC (c_setI hl Θ _ _ false _) k_X0_setInner im_yX0_setInner se_yX0_setInner ml_RX11_119 dX11_unnest_56 rfl rfl rfl rfl rfl rfl (Nat.le_of_ble_eq_true rfl) ⟨Nat.le_of_ble_eq_true rfl, Nat.le_of_ble_eq_true rfl⟩ ⟨Nat.le_of_ble_eq_true rfl, Nat.le_of_ble_eq_true rfl⟩ (fR_k ?_) fR_x (Nat.le_of_ble_eq_true rfl) (Nat.le_of_ble_eq_true rfl)
    try dsimp only [Option.toList, List.cons_append, List.nil_append]
    refine v_aload_n (i := 0) (q := 60) hC dX11_unnest_59 rfl rfl rfl ?_
    refine g_X11_0 (q := 63) hC dX11_unnest_60 rfl rfl fl_RX11_10 ?_
    refine g_X9_0 (q := 66) hC dX11_unnest_63 rfl rfl fl_RX11_55 ?_
    refine v_iload_n (i := 2) (q := 67) hC dX11_unnest_66 rfl rfl rfl ?_
    refine v_callV (q := 70) (rm := rm_X0_countUsersIn) hC (c_X0_countUsersIn hl Θ _ _ (gN G) (by rw [sSetI_fld, sKeep_fld G (by decide)]; exact hg.1) hg.2) k_X0_countUsersIn im_yX0_countUsersIn se_yX0_countUsersIn ml_RX11_105 dX11_unnest_67 rfl rfl rfl rfl rfl rfl (Nat.le_of_ble_eq_true rfl) ⟨Nat.le_of_ble_eq_true rfl, Nat.le_of_ble_eq_true rfl⟩ ⟨Nat.le_of_ble_eq_true rfl, Nat.le_of_ble_eq_true rfl⟩ (fR_k ?_) fR_x (Nat.le_of_ble_eq_true rfl) (Nat.le_of_ble_eq_true rfl)
    try dsimp only [Option.toList, List.cons_append, List.nil_append]
    refine v_iret hC dX11_unnest_70 hr (rfl) ?_ (Nat.le_of_ble_eq_true rfl) (Nat.le_of_ble_eq_true rfl)
    exact ⟨rfl, rfl⟩
  · refine v_throwS hC dX11_unnest_25 dX11_unnest_28 dX11_unnest_29 dX11_unnest_31 dX11_unnest_34 cl_RX11_65 (i := 11) rfl ⟨Nat.le_of_ble_eq_true rfl, Nat.le_of_ble_eq_true rfl, Nat.le_of_ble_eq_true rfl, Nat.le_of_ble_eq_true rfl, Nat.le_of_ble_eq_true rfl, Nat.le_of_ble_eq_true rfl⟩ ?_
    exact gt_f c_22
-- objects
set_option maxHeartbeats 4000000 in
set_option maxRecDepth 20000 in
theorem c_X11_make {l : Launch} (hl : l.stackTraces = false) (Θ : cTH) (pa ow : Int32) (G : GS) : Ct l yX11_make cX11_make 4 (some .int) rm_X11_make Θ [.ref (tR Θ 0 14), .int pa, .int ow] (G) (gt (tHold (G.1 0 4 0) pa) eX (gt (jIdx ow (G.1 0 1 0)) eX (gt (!decide (lFree (G.1 0 4 0) 20 0 = -1)) eS (fR (some (.int (lFree (G.1 0 4 0) 20 0))) (sMake (lFree (G.1 0 4 0) 20 0) pa ow (sKeep G))) (G)) (G)) (G)) := by
  refine ct_of (LS := [some (.ref (tR Θ 0 14)), some (.int pa), some (.int ow), none]) hl (by decide +kernel) rfl (Nat.le_of_ble_eq_true rfl) rfl ?_
  intro p e s m args below meth c hC hr
  refine v_aload_n (i := 0) (q := 1) hC dX11_make_0 rfl rfl rfl ?_
  refine v_iload_n (i := 1) (q := 2) hC dX11_make_1 rfl rfl rfl ?_
  refine v_callV (q := 5) (rm := rm_X11_requireObject) hC (c_X11_requireObject hl Θ _ _) k_X11_requireObject im_yX11_requireObject se_yX11_requireObject ml_RX11_124 dX11_make_2 rfl rfl rfl rfl rfl rfl (Nat.le_of_ble_eq_true rfl) ⟨Nat.le_of_ble_eq_true rfl, Nat.le_of_ble_eq_true rfl⟩ ⟨Nat.le_of_ble_eq_true rfl, Nat.le_of_ble_eq_true rfl⟩ (fG_k (fun r_2 => ?_)) (fG_x (fun z => gt_f z)) (Nat.le_of_ble_eq_true rfl) (Nat.le_of_ble_eq_true rfl)
  try dsimp only [Option.toList, List.cons_append, List.nil_append]
  rw [gt_t r_2]
  refine v_aload_n (i := 0) (q := 6) hC dX11_make_5 rfl rfl rfl ?_
  refine v_iload_n (i := 2) (q := 7) hC dX11_make_6 rfl rfl rfl ?_
  refine v_callV (q := 10) (rm := rm_X11_requireUser) hC (c_X11_requireUser hl Θ _ _) k_X11_requireUser im_yX11_requireUser se_yX11_requireUser ml_RX11_88 dX11_make_7 rfl rfl rfl rfl rfl rfl (Nat.le_of_ble_eq_true rfl) ⟨Nat.le_of_ble_eq_true rfl, Nat.le_of_ble_eq_true rfl⟩ ⟨Nat.le_of_ble_eq_true rfl, Nat.le_of_ble_eq_true rfl⟩ (fG_k (fun r_7 => ?_)) (fG_x (fun z => gt_f z)) (Nat.le_of_ble_eq_true rfl) (Nat.le_of_ble_eq_true rfl)
  try dsimp only [Option.toList, List.cons_append, List.nil_append]
  rw [gt_t r_7]
  refine v_aload_n (i := 0) (q := 11) hC dX11_make_10 rfl rfl rfl ?_
  refine g_X11_0 (q := 14) hC dX11_make_11 rfl rfl fl_RX11_10 ?_
  refine g_X9_1 (q := 17) hC dX11_make_14 rfl rfl fl_RX11_127 ?_
  refine v_callV (q := 20) (rm := rm_X10_lowestFree) hC (c_X10_lowestFree hl Θ _) k_X10_lowestFree im_yX10_lowestFree se_yX10_lowestFree ml_RX11_131 dX11_make_17 rfl rfl rfl rfl rfl rfl (Nat.le_of_ble_eq_true rfl) ⟨Nat.le_of_ble_eq_true rfl, Nat.le_of_ble_eq_true rfl⟩ ⟨Nat.le_of_ble_eq_true rfl, Nat.le_of_ble_eq_true rfl⟩ (fR_k ?_) fR_x (Nat.le_of_ble_eq_true rfl) (Nat.le_of_ble_eq_true rfl)
  try dsimp only [Option.toList, List.cons_append, List.nil_append]
  refine v_istore_n (i := 3) (q := 21) hC dX11_make_20 rfl rfl (lvc rfl) (Nat.le_of_ble_eq_true rfl) (Nat.le_of_ble_eq_true rfl) rfl ?_
  refine v_iload_n (i := 3) (q := 22) hC dX11_make_21 rfl rfl rfl ?_
  refine v_iconst (q := 23) (v := (-1)) hC dX11_make_22 rfl (by decide) ?_
  refine v_icmp_ne (q := 36) (q2 := 26) hC dX11_make_23 (by decide) rfl (fun c_23 => ?_) (fun c_23 => ?_)
  · rw [gt_t (by rw [decide_eq_false c_23]; rfl)]
    refine v_aload_n (i := 0) (q := 37) hC dX11_make_36 rfl rfl rfl ?_
    refine g_X11_1 (q := 40) hC dX11_make_37 rfl rfl fl_RX11_19 ?_
    refine v_aload_n (i := 0) (q := 41) hC dX11_make_40 rfl rfl rfl ?_
    refine g_X11_0 (q := 44) hC dX11_make_41 rfl rfl fl_RX11_10 ?_
    refine v_callV (q := 47) (rm := rm_X3_keep) hC (c_X3_keep hl Θ _) k_X3_keep im_yX3_keep se_yX3_keep ml_RX11_72 dX11_make_44 rfl rfl rfl rfl rfl rfl (Nat.le_of_ble_eq_true rfl) ⟨Nat.le_of_ble_eq_true rfl, Nat.le_of_ble_eq_true rfl⟩ ⟨Nat.le_of_ble_eq_true rfl, Nat.le_of_ble_eq_true rfl⟩ (fR_k ?_) fR_x (Nat.le_of_ble_eq_true rfl) (Nat.le_of_ble_eq_true rfl)
    try dsimp only [Option.toList, List.cons_append, List.nil_append]
    refine v_aload_n (i := 0) (q := 48) hC dX11_make_47 rfl rfl rfl ?_
    refine g_X11_0 (q := 51) hC dX11_make_48 rfl rfl fl_RX11_10 ?_
    refine g_X9_1 (q := 54) hC dX11_make_51 rfl rfl fl_RX11_127 ?_
    refine v_iload_n (i := 3) (q := 55) hC dX11_make_54 rfl rfl rfl ?_
    refine v_iload_n (i := 1) (q := 56) hC dX11_make_55 rfl rfl rfl ?_
    refine v_iload_n (i := 2) (q := 57) hC dX11_make_56 rfl rfl rfl ?_
    refine v_callV (q := 60) (rm := rm_X10_putObject) hC (c_X10_putObject hl Θ _ _ _ _) k_X10_putObject im_yX10_putObject se_yX10_putObject ml_RX11_138 dX11_make_57 rfl rfl rfl rfl rfl rfl (Nat.le_of_ble_eq_true rfl) ⟨Nat.le_of_ble_eq_true rfl, Nat.le_of_ble_eq_true rfl⟩ ⟨Nat.le_of_ble_eq_true rfl, Nat.le_of_ble_eq_true rfl⟩ (fR_k ?_) fR_x (Nat.le_of_ble_eq_true rfl) (Nat.le_of_ble_eq_true rfl)
    try dsimp only [Option.toList, List.cons_append, List.nil_append]
    refine v_iload_n (i := 3) (q := 61) hC dX11_make_60 rfl rfl rfl ?_
    refine v_iret hC dX11_make_61 hr (rfl) ?_ (Nat.le_of_ble_eq_true rfl) (Nat.le_of_ble_eq_true rfl)
    exact ⟨rfl, rfl⟩
  · refine v_throwS hC dX11_make_26 dX11_make_29 dX11_make_30 dX11_make_32 dX11_make_35 cl_RX11_65 (i := 12) rfl ⟨Nat.le_of_ble_eq_true rfl, Nat.le_of_ble_eq_true rfl, Nat.le_of_ble_eq_true rfl, Nat.le_of_ble_eq_true rfl, Nat.le_of_ble_eq_true rfl, Nat.le_of_ble_eq_true rfl⟩ ?_
    exact gt_f (by rw [decide_eq_true c_23]; rfl)
set_option maxHeartbeats 4000000 in
set_option maxRecDepth 20000 in
theorem c_X11_remove {l : Launch} (hl : l.stackTraces = false) (Θ : cTH) (o : Int32) (G : GS) : Ct l yX11_remove cX11_remove 2 (some .int) rm_X11_remove Θ [.ref (tR Θ 0 14), .int o] (G) (gt (tHold (G.1 0 4 0) o) eX (gt (!(decide (o = 0) || decide (0 < cUnd (G.1 0 4 0) (G.2.1 0 5) o 20 0 0))) eS (fR (some (.int (jBc (jChg (G.1 0 4 0) o false)))) (sArr (putF (sKeep G) 0 4 0 (jChg ((sKeep G).1 0 4 0) o false)) 0 9 20 o 0)) (G)) (G)) := by
  refine ct_of (LS := [some (.ref (tR Θ 0 14)), some (.int o)]) hl (by decide +kernel) rfl (Nat.le_of_ble_eq_true rfl) rfl ?_
  intro p e s m args below meth c hC hr
  refine v_aload_n (i := 0) (q := 1) hC dX11_remove_0 rfl rfl rfl ?_
  refine v_iload_n (i := 1) (q := 2) hC dX11_remove_1 rfl rfl rfl ?_
  refine v_callV (q := 5) (rm := rm_X11_requireObject) hC (c_X11_requireObject hl Θ _ _) k_X11_requireObject im_yX11_requireObject se_yX11_requireObject ml_RX11_124 dX11_remove_2 rfl rfl rfl rfl rfl rfl (Nat.le_of_ble_eq_true rfl) ⟨Nat.le_of_ble_eq_true rfl, Nat.le_of_ble_eq_true rfl⟩ ⟨Nat.le_of_ble_eq_true rfl, Nat.le_of_ble_eq_true rfl⟩ (fG_k (fun r_2 => ?_)) (fG_x (fun z => gt_f z)) (Nat.le_of_ble_eq_true rfl) (Nat.le_of_ble_eq_true rfl)
  try dsimp only [Option.toList, List.cons_append, List.nil_append]
  rw [gt_t r_2]
  refine v_iload_n (i := 1) (q := 6) hC dX11_remove_5 rfl rfl rfl ?_
  refine v_if_eq (q := 23) (q2 := 9) hC dX11_remove_6 (by decide) rfl (fun c_6 => ?_) (fun c_6 => ?_)
  · refine v_throwS hC dX11_remove_23 dX11_remove_26 dX11_remove_27 dX11_remove_29 dX11_remove_32 cl_RX11_65 (i := 13) rfl ⟨Nat.le_of_ble_eq_true rfl, Nat.le_of_ble_eq_true rfl, Nat.le_of_ble_eq_true rfl, Nat.le_of_ble_eq_true rfl, Nat.le_of_ble_eq_true rfl, Nat.le_of_ble_eq_true rfl⟩ ?_
    exact gt_f (by first | (rw [decide_eq_true c_6]; rfl) | (rw [decide_eq_true (Int32.not_le.mp c_20), Bool.or_true]; rfl))
  · refine v_aload_n (i := 0) (q := 10) hC dX11_remove_9 rfl rfl rfl ?_
    refine g_X11_0 (q := 13) hC dX11_remove_10 rfl rfl fl_RX11_10 ?_
    refine g_X9_1 (q := 16) hC dX11_remove_13 rfl rfl fl_RX11_127 ?_
    refine v_iload_n (i := 1) (q := 17) hC dX11_remove_16 rfl rfl rfl ?_
    refine v_callV (q := 20) (rm := rm_X10_countUnder) hC (c_X10_countUnder hl Θ _ _) k_X10_countUnder im_yX10_countUnder se_yX10_countUnder ml_RX11_142 dX11_remove_17 rfl rfl rfl rfl rfl rfl (Nat.le_of_ble_eq_true rfl) ⟨Nat.le_of_ble_eq_true rfl, Nat.le_of_ble_eq_true rfl⟩ ⟨Nat.le_of_ble_eq_true rfl, Nat.le_of_ble_eq_true rfl⟩ (fR_k ?_) fR_x (Nat.le_of_ble_eq_true rfl) (Nat.le_of_ble_eq_true rfl)
    try dsimp only [Option.toList, List.cons_append, List.nil_append]
    refine v_if_le (q := 33) (q2 := 23) hC dX11_remove_20 (by decide) rfl (fun c_20 => ?_) (fun c_20 => ?_)
    · rw [gt_t (by rw [decide_eq_false c_6, decide_eq_false (Int32.not_lt.mpr c_20)]; rfl)]
      refine v_aload_n (i := 0) (q := 34) hC dX11_remove_33 rfl rfl rfl ?_
      refine g_X11_1 (q := 37) hC dX11_remove_34 rfl rfl fl_RX11_19 ?_
      refine v_aload_n (i := 0) (q := 38) hC dX11_remove_37 rfl rfl rfl ?_
      refine g_X11_0 (q := 41) hC dX11_remove_38 rfl rfl fl_RX11_10 ?_
      refine v_callV (q := 44) (rm := rm_X3_keep) hC (c_X3_keep hl Θ _) k_X3_keep im_yX3_keep se_yX3_keep ml_RX11_72 dX11_remove_41 rfl rfl rfl rfl rfl rfl (Nat.le_of_ble_eq_true rfl) ⟨Nat.le_of_ble_eq_true rfl, Nat.le_of_ble_eq_true rfl⟩ ⟨Nat.le_of_ble_eq_true rfl, Nat.le_of_ble_eq_true rfl⟩ (fR_k ?_) fR_x (Nat.le_of_ble_eq_true rfl) (Nat.le_of_ble_eq_true rfl)
      try dsimp only [Option.toList, List.cons_append, List.nil_append]
      refine v_aload_n (i := 0) (q := 45) hC dX11_remove_44 rfl rfl rfl ?_
      refine g_X11_0 (q := 48) hC dX11_remove_45 rfl rfl fl_RX11_10 ?_
      refine g_X9_1 (q := 51) hC dX11_remove_48 rfl rfl fl_RX11_127 ?_
      refine v_iload_n (i := 1) (q := 52) hC dX11_remove_51 rfl rfl rfl ?_
      refine v_callV (q := 55) (rm := rm_X10_dropObject) hC (c_X10_dropObject hl Θ _ _) k_X10_dropObject im_yX10_dropObject se_yX10_dropObject ml_RX11_147 dX11_remove_52 rfl rfl rfl rfl rfl rfl (Nat.le_of_ble_eq_true rfl) ⟨Nat.le_of_ble_eq_true rfl, Nat.le_of_ble_eq_true rfl⟩ ⟨Nat.le_of_ble_eq_true rfl, Nat.le_of_ble_eq_true rfl⟩ (fR_k ?_) fR_x (Nat.le_of_ble_eq_true rfl) (Nat.le_of_ble_eq_true rfl)
      try dsimp only [Option.toList, List.cons_append, List.nil_append]
      refine v_aload_n (i := 0) (q := 56) hC dX11_remove_55 rfl rfl rfl ?_
      refine g_X11_0 (q := 59) hC dX11_remove_56 rfl rfl fl_RX11_10 ?_
      refine g_X9_2 (q := 62) hC dX11_remove_59 rfl rfl fl_RX11_150 ?_
      refine v_iload_n (i := 1) (q := 63) hC dX11_remove_62 rfl rfl rfl ?_
      refine v_callV (q := 66) (rm := rm_X6_empty) hC (c_X6_empty hl Θ _ _) k_X6_empty im_yX6_empty se_yX6_empty ml_RX11_154 dX11_remove_63 rfl rfl rfl rfl rfl rfl (Nat.le_of_ble_eq_true rfl) ⟨Nat.le_of_ble_eq_true rfl, Nat.le_of_ble_eq_true rfl⟩ ⟨Nat.le_of_ble_eq_true rfl, Nat.le_of_ble_eq_true rfl⟩ (fR_k ?_) fR_x (Nat.le_of_ble_eq_true rfl) (Nat.le_of_ble_eq_true rfl)
      try dsimp only [Option.toList, List.cons_append, List.nil_append]
      refine v_aload_n (i := 0) (q := 67) hC dX11_remove_66 rfl rfl rfl ?_
      refine g_X11_0 (q := 70) hC dX11_remove_67 rfl rfl fl_RX11_10 ?_
      refine g_X9_1 (q := 73) hC dX11_remove_70 rfl rfl fl_RX11_127 ?_
      refine v_callV (q := 76) (rm := rm_X10_count) hC (c_X10_count hl Θ _) k_X10_count im_yX10_count se_yX10_count ml_RX11_159 dX11_remove_73 rfl rfl rfl rfl rfl rfl (Nat.le_of_ble_eq_true rfl) ⟨Nat.le_of_ble_eq_true rfl, Nat.le_of_ble_eq_true rfl⟩ ⟨Nat.le_of_ble_eq_true rfl, Nat.le_of_ble_eq_true rfl⟩ (fR_k ?_) fR_x (Nat.le_of_ble_eq_true rfl) (Nat.le_of_ble_eq_true rfl)
      try dsimp only [Option.toList, List.cons_append, List.nil_append]
      refine v_iret hC dX11_remove_76 hr (rfl) ?_ (Nat.le_of_ble_eq_true rfl) (Nat.le_of_ble_eq_true rfl)
      refine ⟨?_, rfl⟩
      congr 4
      unfold sArr
      by_cases h : jIdx o 20 = true
      · rw [if_pos h]; simp only [putA_get, putA_fld, putF_get, putF_row, sKeep_fld G (show ¬ 4 = 15 by decide)]; simp
      · rw [if_neg h]; simp only [putA_get, putA_fld, putF_get, putF_row, sKeep_fld G (show ¬ 4 = 15 by decide)]; simp
    · refine v_throwS hC dX11_remove_23 dX11_remove_26 dX11_remove_27 dX11_remove_29 dX11_remove_32 cl_RX11_65 (i := 13) rfl ⟨Nat.le_of_ble_eq_true rfl, Nat.le_of_ble_eq_true rfl, Nat.le_of_ble_eq_true rfl, Nat.le_of_ble_eq_true rfl, Nat.le_of_ble_eq_true rfl, Nat.le_of_ble_eq_true rfl⟩ ?_
      exact gt_f (by first | (rw [decide_eq_true c_6]; rfl) | (rw [decide_eq_true (Int32.not_le.mp c_20), Bool.or_true]; rfl))
set_option maxHeartbeats 4000000 in
set_option maxRecDepth 20000 in
theorem c_X11_move {l : Launch} (hl : l.stackTraces = false) (Θ : cTH) (o pa : Int32) (G : GS) : Ct l yX11_move cX11_move 4 (some .int) rm_X11_move Θ [.ref (tR Θ 0 14), .int o, .int pa] (G) (gt (tHold (G.1 0 4 0) o) eX (gt (tHold (G.1 0 4 0) pa) eX (gt (!(decide (o = 0) || (decide (pa = o) || sUnder (G.1 0 4 0) (G.2.1 0 5) pa o))) eS (fR (some (.int (tAt ((sKeep G).1 0 4 0) ((sKeep G).2.1 0 5) o (-1)))) (sArr (sKeep G) 0 5 20 o pa)) (G)) (G)) (G)) := by
  refine ct_of (LS := [some (.ref (tR Θ 0 14)), some (.int o), some (.int pa), none]) hl (by decide +kernel) rfl (Nat.le_of_ble_eq_true rfl) rfl ?_
  intro p e s m args below meth c hC hr
  refine v_aload_n (i := 0) (q := 1) hC dX11_move_0 rfl rfl rfl ?_
  refine v_iload_n (i := 1) (q := 2) hC dX11_move_1 rfl rfl rfl ?_
  refine v_callV (q := 5) (rm := rm_X11_requireObject) hC (c_X11_requireObject hl Θ _ _) k_X11_requireObject im_yX11_requireObject se_yX11_requireObject ml_RX11_124 dX11_move_2 rfl rfl rfl rfl rfl rfl (Nat.le_of_ble_eq_true rfl) ⟨Nat.le_of_ble_eq_true rfl, Nat.le_of_ble_eq_true rfl⟩ ⟨Nat.le_of_ble_eq_true rfl, Nat.le_of_ble_eq_true rfl⟩ (fG_k (fun r_2 => ?_)) (fG_x (fun z => gt_f z)) (Nat.le_of_ble_eq_true rfl) (Nat.le_of_ble_eq_true rfl)
  try dsimp only [Option.toList, List.cons_append, List.nil_append]
  rw [gt_t r_2]
  refine v_aload_n (i := 0) (q := 6) hC dX11_move_5 rfl rfl rfl ?_
  refine v_iload_n (i := 2) (q := 7) hC dX11_move_6 rfl rfl rfl ?_
  refine v_callV (q := 10) (rm := rm_X11_requireObject) hC (c_X11_requireObject hl Θ _ _) k_X11_requireObject im_yX11_requireObject se_yX11_requireObject ml_RX11_124 dX11_move_7 rfl rfl rfl rfl rfl rfl (Nat.le_of_ble_eq_true rfl) ⟨Nat.le_of_ble_eq_true rfl, Nat.le_of_ble_eq_true rfl⟩ ⟨Nat.le_of_ble_eq_true rfl, Nat.le_of_ble_eq_true rfl⟩ (fG_k (fun r_7 => ?_)) (fG_x (fun z => gt_f z)) (Nat.le_of_ble_eq_true rfl) (Nat.le_of_ble_eq_true rfl)
  try dsimp only [Option.toList, List.cons_append, List.nil_append]
  rw [gt_t r_7]
  refine v_iload_n (i := 1) (q := 11) hC dX11_move_10 rfl rfl rfl ?_
  refine v_if_eq (q := 34) (q2 := 14) hC dX11_move_11 (by decide) rfl (fun c_11 => ?_) (fun c_11 => ?_)
  · refine v_throwS hC dX11_move_34 dX11_move_37 dX11_move_38 dX11_move_40 dX11_move_43 cl_RX11_65 (i := 14) rfl ⟨Nat.le_of_ble_eq_true rfl, Nat.le_of_ble_eq_true rfl, Nat.le_of_ble_eq_true rfl, Nat.le_of_ble_eq_true rfl, Nat.le_of_ble_eq_true rfl, Nat.le_of_ble_eq_true rfl⟩ ?_
    exact gt_f (by first | (rw [decide_eq_true c_11]; rfl) | (rw [decide_eq_true c_16, Bool.true_or, Bool.or_true]; rfl) | (rw [c_31, Bool.or_true, Bool.or_true]; rfl))
  · refine v_iload_n (i := 2) (q := 15) hC dX11_move_14 rfl rfl rfl ?_
    refine v_iload_n (i := 1) (q := 16) hC dX11_move_15 rfl rfl rfl ?_
    refine v_icmp_eq (q := 34) (q2 := 19) hC dX11_move_16 (by decide) rfl (fun c_16 => ?_) (fun c_16 => ?_)
    · refine v_throwS hC dX11_move_34 dX11_move_37 dX11_move_38 dX11_move_40 dX11_move_43 cl_RX11_65 (i := 14) rfl ⟨Nat.le_of_ble_eq_true rfl, Nat.le_of_ble_eq_true rfl, Nat.le_of_ble_eq_true rfl, Nat.le_of_ble_eq_true rfl, Nat.le_of_ble_eq_true rfl, Nat.le_of_ble_eq_true rfl⟩ ?_
      exact gt_f (by first | (rw [decide_eq_true c_11]; rfl) | (rw [decide_eq_true c_16, Bool.true_or, Bool.or_true]; rfl) | (rw [c_31, Bool.or_true, Bool.or_true]; rfl))
    · refine v_aload_n (i := 0) (q := 20) hC dX11_move_19 rfl rfl rfl ?_
      refine g_X11_0 (q := 23) hC dX11_move_20 rfl rfl fl_RX11_10 ?_
      refine g_X9_1 (q := 26) hC dX11_move_23 rfl rfl fl_RX11_127 ?_
      refine v_iload_n (i := 2) (q := 27) hC dX11_move_26 rfl rfl rfl ?_
      refine v_iload_n (i := 1) (q := 28) hC dX11_move_27 rfl rfl rfl ?_
      refine v_callV (q := 31) (rm := rm_X10_isUnder) hC (c_X10_isUnder hl Θ _ _ _) k_X10_isUnder im_yX10_isUnder se_yX10_isUnder ml_RX11_162 dX11_move_28 rfl rfl rfl rfl rfl rfl (Nat.le_of_ble_eq_true rfl) ⟨Nat.le_of_ble_eq_true rfl, Nat.le_of_ble_eq_true rfl⟩ ⟨Nat.le_of_ble_eq_true rfl, Nat.le_of_ble_eq_true rfl⟩ (fR_k ?_) fR_x (Nat.le_of_ble_eq_true rfl) (Nat.le_of_ble_eq_true rfl)
      try dsimp only [Option.toList, List.cons_append, List.nil_append]
      refine v_ifb_eq (q := 44) (q2 := 34) hC dX11_move_31 (by decide) rfl (fun c_31 => ?_) (fun c_31 => ?_)
      · rw [gt_t (by rw [decide_eq_false c_11, decide_eq_false c_16, c_31]; rfl)]
        refine v_aload_n (i := 0) (q := 45) hC dX11_move_44 rfl rfl rfl ?_
        refine g_X11_1 (q := 48) hC dX11_move_45 rfl rfl fl_RX11_19 ?_
        refine v_aload_n (i := 0) (q := 49) hC dX11_move_48 rfl rfl rfl ?_
        refine g_X11_0 (q := 52) hC dX11_move_49 rfl rfl fl_RX11_10 ?_
        refine v_callV (q := 55) (rm := rm_X3_keep) hC (c_X3_keep hl Θ _) k_X3_keep im_yX3_keep se_yX3_keep ml_RX11_72 dX11_move_52 rfl rfl rfl rfl rfl rfl (Nat.le_of_ble_eq_true rfl) ⟨Nat.le_of_ble_eq_true rfl, Nat.le_of_ble_eq_true rfl⟩ ⟨Nat.le_of_ble_eq_true rfl, Nat.le_of_ble_eq_true rfl⟩ (fR_k ?_) fR_x (Nat.le_of_ble_eq_true rfl) (Nat.le_of_ble_eq_true rfl)
        try dsimp only [Option.toList, List.cons_append, List.nil_append]
        refine v_aload_n (i := 0) (q := 56) hC dX11_move_55 rfl rfl rfl ?_
        refine g_X11_0 (q := 59) hC dX11_move_56 rfl rfl fl_RX11_10 ?_
        refine g_X9_1 (q := 62) hC dX11_move_59 rfl rfl fl_RX11_127 ?_
        refine v_iload_n (i := 1) (q := 63) hC dX11_move_62 rfl rfl rfl ?_
        refine v_callV (q := 66) (rm := rm_X10_parentAt) hC (c_X10_parentAt hl Θ _ _) k_X10_parentAt im_yX10_parentAt se_yX10_parentAt ml_RX11_167 dX11_move_63 rfl rfl rfl rfl rfl rfl (Nat.le_of_ble_eq_true rfl) ⟨Nat.le_of_ble_eq_true rfl, Nat.le_of_ble_eq_true rfl⟩ ⟨Nat.le_of_ble_eq_true rfl, Nat.le_of_ble_eq_true rfl⟩ (fR_k ?_) fR_x (Nat.le_of_ble_eq_true rfl) (Nat.le_of_ble_eq_true rfl)
        try dsimp only [Option.toList, List.cons_append, List.nil_append]
        refine v_istore_n (i := 3) (q := 67) hC dX11_move_66 rfl rfl (lvc rfl) (Nat.le_of_ble_eq_true rfl) (Nat.le_of_ble_eq_true rfl) rfl ?_
        refine v_aload_n (i := 0) (q := 68) hC dX11_move_67 rfl rfl rfl ?_
        refine g_X11_0 (q := 71) hC dX11_move_68 rfl rfl fl_RX11_10 ?_
        refine g_X9_1 (q := 74) hC dX11_move_71 rfl rfl fl_RX11_127 ?_
        refine v_iload_n (i := 1) (q := 75) hC dX11_move_74 rfl rfl rfl ?_
        refine v_iload_n (i := 2) (q := 76) hC dX11_move_75 rfl rfl rfl ?_
        refine v_callV (q := 79) (rm := rm_X10_setParent) hC (c_X10_setParent hl Θ _ _ _) k_X10_setParent im_yX10_setParent se_yX10_setParent ml_RX11_170 dX11_move_76 rfl rfl rfl rfl rfl rfl (Nat.le_of_ble_eq_true rfl) ⟨Nat.le_of_ble_eq_true rfl, Nat.le_of_ble_eq_true rfl⟩ ⟨Nat.le_of_ble_eq_true rfl, Nat.le_of_ble_eq_true rfl⟩ (fR_k ?_) fR_x (Nat.le_of_ble_eq_true rfl) (Nat.le_of_ble_eq_true rfl)
        try dsimp only [Option.toList, List.cons_append, List.nil_append]
        refine v_iload_n (i := 3) (q := 80) hC dX11_move_79 rfl rfl rfl ?_
        refine v_iret hC dX11_move_80 hr (rfl) ?_ (Nat.le_of_ble_eq_true rfl) (Nat.le_of_ble_eq_true rfl)
        exact ⟨rfl, rfl⟩
      · refine v_throwS hC dX11_move_34 dX11_move_37 dX11_move_38 dX11_move_40 dX11_move_43 cl_RX11_65 (i := 14) rfl ⟨Nat.le_of_ble_eq_true rfl, Nat.le_of_ble_eq_true rfl, Nat.le_of_ble_eq_true rfl, Nat.le_of_ble_eq_true rfl, Nat.le_of_ble_eq_true rfl, Nat.le_of_ble_eq_true rfl⟩ ?_
        exact gt_f (by first | (rw [decide_eq_true c_11]; rfl) | (rw [decide_eq_true c_16, Bool.true_or, Bool.or_true]; rfl) | (rw [c_31, Bool.or_true, Bool.or_true]; rfl))
set_option maxHeartbeats 4000000 in
set_option maxRecDepth 20000 in
theorem c_X11_giveTo {l : Launch} (hl : l.stackTraces = false) (Θ : cTH) (o ow : Int32) (G : GS) : Ct l yX11_giveTo cX11_giveTo 4 (some .int) rm_X11_giveTo Θ [.ref (tR Θ 0 14), .int o, .int ow] (G) (gt (tHold (G.1 0 4 0) o) eX (gt (jIdx ow (G.1 0 1 0)) eX (fR (some (.int (tAt ((sKeep G).1 0 4 0) ((sKeep G).2.1 0 6) o (-1)))) (sArr (sKeep G) 0 6 20 o ow)) (G)) (G)) := by
  refine ct_of (LS := [some (.ref (tR Θ 0 14)), some (.int o), some (.int ow), none]) hl (by decide +kernel) rfl (Nat.le_of_ble_eq_true rfl) rfl ?_
  intro p e s m args below meth c hC hr
  refine v_aload_n (i := 0) (q := 1) hC dX11_giveTo_0 rfl rfl rfl ?_
  refine v_iload_n (i := 1) (q := 2) hC dX11_giveTo_1 rfl rfl rfl ?_
  refine v_callV (q := 5) (rm := rm_X11_requireObject) hC (c_X11_requireObject hl Θ _ _) k_X11_requireObject im_yX11_requireObject se_yX11_requireObject ml_RX11_124 dX11_giveTo_2 rfl rfl rfl rfl rfl rfl (Nat.le_of_ble_eq_true rfl) ⟨Nat.le_of_ble_eq_true rfl, Nat.le_of_ble_eq_true rfl⟩ ⟨Nat.le_of_ble_eq_true rfl, Nat.le_of_ble_eq_true rfl⟩ (fG_k (fun r_2 => ?_)) (fG_x (fun z => gt_f z)) (Nat.le_of_ble_eq_true rfl) (Nat.le_of_ble_eq_true rfl)
  try dsimp only [Option.toList, List.cons_append, List.nil_append]
  rw [gt_t r_2]
  refine v_aload_n (i := 0) (q := 6) hC dX11_giveTo_5 rfl rfl rfl ?_
  refine v_iload_n (i := 2) (q := 7) hC dX11_giveTo_6 rfl rfl rfl ?_
  refine v_callV (q := 10) (rm := rm_X11_requireUser) hC (c_X11_requireUser hl Θ _ _) k_X11_requireUser im_yX11_requireUser se_yX11_requireUser ml_RX11_88 dX11_giveTo_7 rfl rfl rfl rfl rfl rfl (Nat.le_of_ble_eq_true rfl) ⟨Nat.le_of_ble_eq_true rfl, Nat.le_of_ble_eq_true rfl⟩ ⟨Nat.le_of_ble_eq_true rfl, Nat.le_of_ble_eq_true rfl⟩ (fG_k (fun r_7 => ?_)) (fG_x (fun z => gt_f z)) (Nat.le_of_ble_eq_true rfl) (Nat.le_of_ble_eq_true rfl)
  try dsimp only [Option.toList, List.cons_append, List.nil_append]
  rw [gt_t r_7]
  refine v_aload_n (i := 0) (q := 11) hC dX11_giveTo_10 rfl rfl rfl ?_
  refine g_X11_1 (q := 14) hC dX11_giveTo_11 rfl rfl fl_RX11_19 ?_
  refine v_aload_n (i := 0) (q := 15) hC dX11_giveTo_14 rfl rfl rfl ?_
  refine g_X11_0 (q := 18) hC dX11_giveTo_15 rfl rfl fl_RX11_10 ?_
  refine v_callV (q := 21) (rm := rm_X3_keep) hC (c_X3_keep hl Θ _) k_X3_keep im_yX3_keep se_yX3_keep ml_RX11_72 dX11_giveTo_18 rfl rfl rfl rfl rfl rfl (Nat.le_of_ble_eq_true rfl) ⟨Nat.le_of_ble_eq_true rfl, Nat.le_of_ble_eq_true rfl⟩ ⟨Nat.le_of_ble_eq_true rfl, Nat.le_of_ble_eq_true rfl⟩ (fR_k ?_) fR_x (Nat.le_of_ble_eq_true rfl) (Nat.le_of_ble_eq_true rfl)
  try dsimp only [Option.toList, List.cons_append, List.nil_append]
  refine v_aload_n (i := 0) (q := 22) hC dX11_giveTo_21 rfl rfl rfl ?_
  refine g_X11_0 (q := 25) hC dX11_giveTo_22 rfl rfl fl_RX11_10 ?_
  refine g_X9_1 (q := 28) hC dX11_giveTo_25 rfl rfl fl_RX11_127 ?_
  refine v_iload_n (i := 1) (q := 29) hC dX11_giveTo_28 rfl rfl rfl ?_
  refine v_callV (q := 32) (rm := rm_X10_ownerAt) hC (c_X10_ownerAt hl Θ _ _) k_X10_ownerAt im_yX10_ownerAt se_yX10_ownerAt ml_RX11_174 dX11_giveTo_29 rfl rfl rfl rfl rfl rfl (Nat.le_of_ble_eq_true rfl) ⟨Nat.le_of_ble_eq_true rfl, Nat.le_of_ble_eq_true rfl⟩ ⟨Nat.le_of_ble_eq_true rfl, Nat.le_of_ble_eq_true rfl⟩ (fR_k ?_) fR_x (Nat.le_of_ble_eq_true rfl) (Nat.le_of_ble_eq_true rfl)
  try dsimp only [Option.toList, List.cons_append, List.nil_append]
  refine v_istore_n (i := 3) (q := 33) hC dX11_giveTo_32 rfl rfl (lvc rfl) (Nat.le_of_ble_eq_true rfl) (Nat.le_of_ble_eq_true rfl) rfl ?_
  refine v_aload_n (i := 0) (q := 34) hC dX11_giveTo_33 rfl rfl rfl ?_
  refine g_X11_0 (q := 37) hC dX11_giveTo_34 rfl rfl fl_RX11_10 ?_
  refine g_X9_1 (q := 40) hC dX11_giveTo_37 rfl rfl fl_RX11_127 ?_
  refine v_iload_n (i := 1) (q := 41) hC dX11_giveTo_40 rfl rfl rfl ?_
  refine v_iload_n (i := 2) (q := 42) hC dX11_giveTo_41 rfl rfl rfl ?_
  refine v_callV (q := 45) (rm := rm_X10_setOwner) hC (c_X10_setOwner hl Θ _ _ _) k_X10_setOwner im_yX10_setOwner se_yX10_setOwner ml_RX11_177 dX11_giveTo_42 rfl rfl rfl rfl rfl rfl (Nat.le_of_ble_eq_true rfl) ⟨Nat.le_of_ble_eq_true rfl, Nat.le_of_ble_eq_true rfl⟩ ⟨Nat.le_of_ble_eq_true rfl, Nat.le_of_ble_eq_true rfl⟩ (fR_k ?_) fR_x (Nat.le_of_ble_eq_true rfl) (Nat.le_of_ble_eq_true rfl)
  try dsimp only [Option.toList, List.cons_append, List.nil_append]
  refine v_iload_n (i := 3) (q := 46) hC dX11_giveTo_45 rfl rfl rfl ?_
  refine v_iret hC dX11_giveTo_46 hr (rfl) ?_ (Nat.le_of_ble_eq_true rfl) (Nat.le_of_ble_eq_true rfl)
  exact ⟨rfl, rfl⟩
set_option maxHeartbeats 4000000 in
set_option maxRecDepth 20000 in
theorem c_X11_setMask {l : Launch} (hl : l.stackTraces = false) (Θ : cTH) (o r : Int32) (G : GS) : Ct l yX11_setMask cX11_setMask 4 (some .int) rm_X11_setMask Θ [.ref (tR Θ 0 14), .int o, .int r] (G) (gt (tHold (G.1 0 4 0) o) eX (gt (decide (0 ≤ r) && decide (r ≤ 15)) eA (fR (some (.int (tAt ((sKeep G).1 0 4 0) ((sKeep G).2.1 0 7) o 0))) (sArr (sKeep G) 0 7 20 o r)) (G)) (G)) := by
  refine ct_of (LS := [some (.ref (tR Θ 0 14)), some (.int o), some (.int r), none]) hl (by decide +kernel) rfl (Nat.le_of_ble_eq_true rfl) rfl ?_
  intro p e s m args below meth c hC hr
  refine v_aload_n (i := 0) (q := 1) hC dX11_setMask_0 rfl rfl rfl ?_
  refine v_iload_n (i := 1) (q := 2) hC dX11_setMask_1 rfl rfl rfl ?_
  refine v_callV (q := 5) (rm := rm_X11_requireObject) hC (c_X11_requireObject hl Θ _ _) k_X11_requireObject im_yX11_requireObject se_yX11_requireObject ml_RX11_124 dX11_setMask_2 rfl rfl rfl rfl rfl rfl (Nat.le_of_ble_eq_true rfl) ⟨Nat.le_of_ble_eq_true rfl, Nat.le_of_ble_eq_true rfl⟩ ⟨Nat.le_of_ble_eq_true rfl, Nat.le_of_ble_eq_true rfl⟩ (fG_k (fun r_2 => ?_)) (fG_x (fun z => gt_f z)) (Nat.le_of_ble_eq_true rfl) (Nat.le_of_ble_eq_true rfl)
  try dsimp only [Option.toList, List.cons_append, List.nil_append]
  rw [gt_t r_2]
  refine v_aload_n (i := 0) (q := 6) hC dX11_setMask_5 rfl rfl rfl ?_
  refine v_iload_n (i := 2) (q := 7) hC dX11_setMask_6 rfl rfl rfl ?_
  refine v_iconst (q := 8) (v := 0) hC dX11_setMask_7 rfl (by decide) ?_
  refine v_callV (q := 11) (rm := rm_X11_requireRights) hC (c_X11_requireRights hl Θ _ _ _) k_X11_requireRights im_yX11_requireRights se_yX11_requireRights ml_RX11_180 dX11_setMask_8 rfl rfl rfl rfl rfl rfl (Nat.le_of_ble_eq_true rfl) ⟨Nat.le_of_ble_eq_true rfl, Nat.le_of_ble_eq_true rfl⟩ ⟨Nat.le_of_ble_eq_true rfl, Nat.le_of_ble_eq_true rfl⟩ (fG_k (fun r_8 => ?_)) (fG_x (fun z => gt_f z)) (Nat.le_of_ble_eq_true rfl) (Nat.le_of_ble_eq_true rfl)
  try dsimp only [Option.toList, List.cons_append, List.nil_append]
  rw [gt_t r_8]
  refine v_aload_n (i := 0) (q := 12) hC dX11_setMask_11 rfl rfl rfl ?_
  refine g_X11_1 (q := 15) hC dX11_setMask_12 rfl rfl fl_RX11_19 ?_
  refine v_aload_n (i := 0) (q := 16) hC dX11_setMask_15 rfl rfl rfl ?_
  refine g_X11_0 (q := 19) hC dX11_setMask_16 rfl rfl fl_RX11_10 ?_
  refine v_callV (q := 22) (rm := rm_X3_keep) hC (c_X3_keep hl Θ _) k_X3_keep im_yX3_keep se_yX3_keep ml_RX11_72 dX11_setMask_19 rfl rfl rfl rfl rfl rfl (Nat.le_of_ble_eq_true rfl) ⟨Nat.le_of_ble_eq_true rfl, Nat.le_of_ble_eq_true rfl⟩ ⟨Nat.le_of_ble_eq_true rfl, Nat.le_of_ble_eq_true rfl⟩ (fR_k ?_) fR_x (Nat.le_of_ble_eq_true rfl) (Nat.le_of_ble_eq_true rfl)
  try dsimp only [Option.toList, List.cons_append, List.nil_append]
  refine v_aload_n (i := 0) (q := 23) hC dX11_setMask_22 rfl rfl rfl ?_
  refine g_X11_0 (q := 26) hC dX11_setMask_23 rfl rfl fl_RX11_10 ?_
  refine g_X9_1 (q := 29) hC dX11_setMask_26 rfl rfl fl_RX11_127 ?_
  refine v_iload_n (i := 1) (q := 30) hC dX11_setMask_29 rfl rfl rfl ?_
  refine v_callV (q := 33) (rm := rm_X10_maskAt) hC (c_X10_maskAt hl Θ _ _) k_X10_maskAt im_yX10_maskAt se_yX10_maskAt ml_RX11_183 dX11_setMask_30 rfl rfl rfl rfl rfl rfl (Nat.le_of_ble_eq_true rfl) ⟨Nat.le_of_ble_eq_true rfl, Nat.le_of_ble_eq_true rfl⟩ ⟨Nat.le_of_ble_eq_true rfl, Nat.le_of_ble_eq_true rfl⟩ (fR_k ?_) fR_x (Nat.le_of_ble_eq_true rfl) (Nat.le_of_ble_eq_true rfl)
  try dsimp only [Option.toList, List.cons_append, List.nil_append]
  refine v_istore_n (i := 3) (q := 34) hC dX11_setMask_33 rfl rfl (lvc rfl) (Nat.le_of_ble_eq_true rfl) (Nat.le_of_ble_eq_true rfl) rfl ?_
  refine v_aload_n (i := 0) (q := 35) hC dX11_setMask_34 rfl rfl rfl ?_
  refine g_X11_0 (q := 38) hC dX11_setMask_35 rfl rfl fl_RX11_10 ?_
  refine g_X9_1 (q := 41) hC dX11_setMask_38 rfl rfl fl_RX11_127 ?_
  refine v_iload_n (i := 1) (q := 42) hC dX11_setMask_41 rfl rfl rfl ?_
  refine v_iload_n (i := 2) (q := 43) hC dX11_setMask_42 rfl rfl rfl ?_
  refine v_callV (q := 46) (rm := rm_X10_limitTo) hC (c_X10_limitTo hl Θ _ _ _) k_X10_limitTo im_yX10_limitTo se_yX10_limitTo ml_RX11_186 dX11_setMask_43 rfl rfl rfl rfl rfl rfl (Nat.le_of_ble_eq_true rfl) ⟨Nat.le_of_ble_eq_true rfl, Nat.le_of_ble_eq_true rfl⟩ ⟨Nat.le_of_ble_eq_true rfl, Nat.le_of_ble_eq_true rfl⟩ (fR_k ?_) fR_x (Nat.le_of_ble_eq_true rfl) (Nat.le_of_ble_eq_true rfl)
  try dsimp only [Option.toList, List.cons_append, List.nil_append]
  refine v_iload_n (i := 3) (q := 47) hC dX11_setMask_46 rfl rfl rfl ?_
  refine v_iret hC dX11_setMask_47 hr (rfl) ?_ (Nat.le_of_ble_eq_true rfl) (Nat.le_of_ble_eq_true rfl)
  exact ⟨rfl, rfl⟩
set_option maxHeartbeats 4000000 in
set_option maxRecDepth 20000 in
theorem c_X11_setInheriting {l : Launch} (hl : l.stackTraces = false) (Θ : cTH) (o : Int32) (b : Bool) (G : GS) : Ct l yX11_setInheriting cX11_setInheriting 4 (some .boolean) rm_X11_setInheriting Θ [.ref (tR Θ 0 14), .int o, .int (b2i b)] (G) (gt (tHold (G.1 0 4 0) o) eX (fR (some (.int (b2i (jHas ((sKeep G).1 0 4 1) o)))) (putF (sKeep G) 0 4 1 (jChg ((sKeep G).1 0 4 1) o b))) (G)) := by
  refine ct_of (LS := [some (.ref (tR Θ 0 14)), some (.int o), some (.int (b2i b)), none]) hl (by decide +kernel) rfl (Nat.le_of_ble_eq_true rfl) rfl ?_
  intro p e s m args below meth c hC hr
  refine v_aload_n (i := 0) (q := 1) hC dX11_setInheriting_0 rfl rfl rfl ?_
  refine v_iload_n (i := 1) (q := 2) hC dX11_setInheriting_1 rfl rfl rfl ?_
  refine v_callV (q := 5) (rm := rm_X11_requireObject) hC (c_X11_requireObject hl Θ _ _) k_X11_requireObject im_yX11_requireObject se_yX11_requireObject ml_RX11_124 dX11_setInheriting_2 rfl rfl rfl rfl rfl rfl (Nat.le_of_ble_eq_true rfl) ⟨Nat.le_of_ble_eq_true rfl, Nat.le_of_ble_eq_true rfl⟩ ⟨Nat.le_of_ble_eq_true rfl, Nat.le_of_ble_eq_true rfl⟩ (fG_k (fun r_2 => ?_)) (fG_x (fun z => gt_f z)) (Nat.le_of_ble_eq_true rfl) (Nat.le_of_ble_eq_true rfl)
  try dsimp only [Option.toList, List.cons_append, List.nil_append]
  rw [gt_t r_2]
  refine v_aload_n (i := 0) (q := 6) hC dX11_setInheriting_5 rfl rfl rfl ?_
  refine g_X11_1 (q := 9) hC dX11_setInheriting_6 rfl rfl fl_RX11_19 ?_
  refine v_aload_n (i := 0) (q := 10) hC dX11_setInheriting_9 rfl rfl rfl ?_
  refine g_X11_0 (q := 13) hC dX11_setInheriting_10 rfl rfl fl_RX11_10 ?_
  refine v_callV (q := 16) (rm := rm_X3_keep) hC (c_X3_keep hl Θ _) k_X3_keep im_yX3_keep se_yX3_keep ml_RX11_72 dX11_setInheriting_13 rfl rfl rfl rfl rfl rfl (Nat.le_of_ble_eq_true rfl) ⟨Nat.le_of_ble_eq_true rfl, Nat.le_of_ble_eq_true rfl⟩ ⟨Nat.le_of_ble_eq_true rfl, Nat.le_of_ble_eq_true rfl⟩ (fR_k ?_) fR_x (Nat.le_of_ble_eq_true rfl) (Nat.le_of_ble_eq_true rfl)
  try dsimp only [Option.toList, List.cons_append, List.nil_append]
  refine v_aload_n (i := 0) (q := 17) hC dX11_setInheriting_16 rfl rfl rfl ?_
  refine g_X11_0 (q := 20) hC dX11_setInheriting_17 rfl rfl fl_RX11_10 ?_
  refine g_X9_1 (q := 23) hC dX11_setInheriting_20 rfl rfl fl_RX11_127 ?_
  refine v_iload_n (i := 1) (q := 24) hC dX11_setInheriting_23 rfl rfl rfl ?_
  refine v_callV (q := 27) (rm := rm_X10_inherits) hC (c_X10_inherits hl Θ _ _) k_X10_inherits im_yX10_inherits se_yX10_inherits ml_RX11_189 dX11_setInheriting_24 rfl rfl rfl rfl rfl rfl (Nat.le_of_ble_eq_true rfl) ⟨Nat.le_of_ble_eq_true rfl, Nat.le_of_ble_eq_true rfl⟩ ⟨Nat.le_of_ble_eq_true rfl, Nat.le_of_ble_eq_true rfl⟩ (fR_k ?_) fR_x (Nat.le_of_ble_eq_true rfl) (Nat.le_of_ble_eq_true rfl)
  try dsimp only [Option.toList, List.cons_append, List.nil_append]
  refine v_istore_n (i := 3) (q := 28) hC dX11_setInheriting_27 rfl rfl (lvc rfl) (Nat.le_of_ble_eq_true rfl) (Nat.le_of_ble_eq_true rfl) rfl ?_
  refine v_aload_n (i := 0) (q := 29) hC dX11_setInheriting_28 rfl rfl rfl ?_
  refine g_X11_0 (q := 32) hC dX11_setInheriting_29 rfl rfl fl_RX11_10 ?_
  refine g_X9_1 (q := 35) hC dX11_setInheriting_32 rfl rfl fl_RX11_127 ?_
  refine v_iload_n (i := 1) (q := 36) hC dX11_setInheriting_35 rfl rfl rfl ?_
  refine v_iload_n (i := 2) (q := 37) hC dX11_setInheriting_36 rfl rfl rfl ?_
  refine v_callV (q := 40) (rm := rm_X10_letInherit) hC (c_X10_letInherit hl Θ _ _ _) k_X10_letInherit im_yX10_letInherit se_yX10_letInherit ml_RX11_193 dX11_setInheriting_37 rfl rfl rfl rfl rfl rfl (Nat.le_of_ble_eq_true rfl) ⟨Nat.le_of_ble_eq_true rfl, Nat.le_of_ble_eq_true rfl⟩ ⟨Nat.le_of_ble_eq_true rfl, Nat.le_of_ble_eq_true rfl⟩ (fR_k ?_) fR_x (Nat.le_of_ble_eq_true rfl) (Nat.le_of_ble_eq_true rfl)
  try dsimp only [Option.toList, List.cons_append, List.nil_append]
  refine v_iload_n (i := 3) (q := 41) hC dX11_setInheriting_40 rfl rfl rfl ?_
  refine v_iret hC dX11_setInheriting_41 hr (by first | rfl | exact nar_b) ?_ (Nat.le_of_ble_eq_true rfl) (Nat.le_of_ble_eq_true rfl)
  exact ⟨rfl, rfl⟩
-- entries
def adL (o kind num r : Int32) (a b : Bool) (G : GS) : GS := putLs G (sPutIn (G.2.1 0 9) (G.2.1 0 10) o (sCnt (G.2.1 0 9) o) (eCode kind num r a b))
def adQ (o kind num r : Int32) (a b : Bool) (G : GS) : cOut → GS → Prop := gt (decide (1 ≤ r) && decide (r ≤ 15)) eA (gt (decide (sCnt (G.2.1 0 9) o < 6)) eS (fR (some (.int (sCnt ((adL o kind num r a b (sKeep G)).2.1 0 9) o))) (adL o kind num r a b (sKeep G))) (G)) (G)
theorem adQ_k {o kind num r : Int32} {a b : Bool} {G G1 : GS} {v : Option Value} (h : adQ o kind num r a b G (.inl v) G1) : ∃ x : Int32, v = some (.int x) := by
  unfold adQ gt at h
  by_cases h1 : (decide (1 ≤ r) && decide (r ≤ 15)) = true
  · rw [if_pos h1] at h
    by_cases h2 : decide (sCnt (G.2.1 0 9) o < 6) = true
    · rw [if_pos h2] at h
      have h3 := h.1
      cases h3
      exact ⟨_, rfl⟩
    · rw [if_neg h2] at h
      cases h.1
  · rw [if_neg h1] at h
    cases h.1
set_option maxHeartbeats 4000000 in
set_option maxRecDepth 20000 in
theorem c_X11_addLast {l : Launch} (hl : l.stackTraces = false) (Θ : cTH) (o kind num r : Int32) (a b : Bool) (G : GS) : Ct l yX11_addLast cX11_addLast 8 (some .int) rm_X11_addLast Θ [.ref (tR Θ 0 14), .int o, .int kind, .int num, .int r, .int (b2i a), .int (b2i b)] (G) (adQ o kind num r a b G) := by
  refine ct_of (LS := [some (.ref (tR Θ 0 14)), some (.int o), some (.int kind), some (.int num), some (.int r), some (.int (b2i a)), some (.int (b2i b)), none]) hl (by decide +kernel) rfl (Nat.le_of_ble_eq_true rfl) rfl ?_
  intro p e s m args below meth c hC hr
  rw [adQ]
  refine v_aload_n (i := 0) (q := 1) hC dX11_addLast_0 rfl rfl rfl ?_
  refine v_iload (q := 3) hC dX11_addLast_1 rfl rfl ?_
  refine v_iconst (q := 4) (v := 1) hC dX11_addLast_3 rfl (by decide) ?_
  refine v_callV (q := 7) (rm := rm_X11_requireRights) hC (c_X11_requireRights hl Θ _ _ _) k_X11_requireRights im_yX11_requireRights se_yX11_requireRights ml_RX11_180 dX11_addLast_4 rfl rfl rfl rfl rfl rfl (Nat.le_of_ble_eq_true rfl) ⟨Nat.le_of_ble_eq_true rfl, Nat.le_of_ble_eq_true rfl⟩ ⟨Nat.le_of_ble_eq_true rfl, Nat.le_of_ble_eq_true rfl⟩ (fG_k (fun r_4 => ?_)) (fG_x (fun z => gt_f z)) (Nat.le_of_ble_eq_true rfl) (Nat.le_of_ble_eq_true rfl)
  try dsimp only [Option.toList, List.cons_append, List.nil_append]
  rw [gt_t r_4]
  refine v_aload_n (i := 0) (q := 8) hC dX11_addLast_7 rfl rfl rfl ?_
  refine v_iload_n (i := 1) (q := 9) hC dX11_addLast_8 rfl rfl rfl ?_
  refine v_callV (q := 12) (rm := rm_X11_requireRoom) hC (c_X11_requireRoom hl Θ _ _) k_X11_requireRoom im_yX11_requireRoom se_yX11_requireRoom ml_RX11_245 dX11_addLast_9 rfl rfl rfl rfl rfl rfl (Nat.le_of_ble_eq_true rfl) ⟨Nat.le_of_ble_eq_true rfl, Nat.le_of_ble_eq_true rfl⟩ ⟨Nat.le_of_ble_eq_true rfl, Nat.le_of_ble_eq_true rfl⟩ (fG_k (fun r_9 => ?_)) (fG_x (fun z => gt_f z)) (Nat.le_of_ble_eq_true rfl) (Nat.le_of_ble_eq_true rfl)
  try dsimp only [Option.toList, List.cons_append, List.nil_append]
  rw [gt_t r_9]
  refine v_aload_n (i := 0) (q := 13) hC dX11_addLast_12 rfl rfl rfl ?_
  refine g_X11_1 (q := 16) hC dX11_addLast_13 rfl rfl fl_RX11_19 ?_
  refine v_aload_n (i := 0) (q := 17) hC dX11_addLast_16 rfl rfl rfl ?_
  refine g_X11_0 (q := 20) hC dX11_addLast_17 rfl rfl fl_RX11_10 ?_
  refine v_callV (q := 23) (rm := rm_X3_keep) hC (c_X3_keep hl Θ _) k_X3_keep im_yX3_keep se_yX3_keep ml_RX11_72 dX11_addLast_20 rfl rfl rfl rfl rfl rfl (Nat.le_of_ble_eq_true rfl) ⟨Nat.le_of_ble_eq_true rfl, Nat.le_of_ble_eq_true rfl⟩ ⟨Nat.le_of_ble_eq_true rfl, Nat.le_of_ble_eq_true rfl⟩ (fR_k ?_) fR_x (Nat.le_of_ble_eq_true rfl) (Nat.le_of_ble_eq_true rfl)
  try dsimp only [Option.toList, List.cons_append, List.nil_append]
  refine v_iload_n (i := 2) (q := 24) hC dX11_addLast_23 rfl rfl rfl ?_
  refine v_iload_n (i := 3) (q := 25) hC dX11_addLast_24 rfl rfl rfl ?_
  refine v_iload (q := 27) hC dX11_addLast_25 rfl rfl ?_
  refine v_iload (q := 29) hC dX11_addLast_27 rfl rfl ?_
  refine v_iload (q := 31) hC dX11_addLast_29 rfl rfl ?_
  refine v_callS (q := 34) (rm := rm_X1_code) hC (c_X1_code hl Θ _ _ _ _ _ _) k_X1_code st_yX1_code ml_RX11_248 dX11_addLast_31 rfl  rfl rfl (Nat.le_of_ble_eq_true rfl) ⟨Nat.le_of_ble_eq_true rfl, Nat.le_of_ble_eq_true rfl⟩ ⟨Nat.le_of_ble_eq_true rfl, Nat.le_of_ble_eq_true rfl⟩ (fR_k ?_) fR_x (Nat.le_of_ble_eq_true rfl) (Nat.le_of_ble_eq_true rfl)
  try dsimp only [Option.toList, List.cons_append, List.nil_append]
  refine v_istore (q := 36) hC dX11_addLast_34 rfl (lvc rfl) (Nat.le_of_ble_eq_true rfl) (Nat.le_of_ble_eq_true rfl) rfl ?_
  refine v_aload_n (i := 0) (q := 37) hC dX11_addLast_36 rfl rfl rfl ?_
  refine g_X11_0 (q := 40) hC dX11_addLast_37 rfl rfl fl_RX11_10 ?_
  refine g_X9_2 (q := 43) hC dX11_addLast_40 rfl rfl fl_RX11_150 ?_
  refine v_iload_n (i := 1) (q := 44) hC dX11_addLast_43 rfl rfl rfl ?_
  refine v_aload_n (i := 0) (q := 45) hC dX11_addLast_44 rfl rfl rfl ?_
  refine g_X11_0 (q := 48) hC dX11_addLast_45 rfl rfl fl_RX11_10 ?_
  refine g_X9_2 (q := 51) hC dX11_addLast_48 rfl rfl fl_RX11_150 ?_
  refine v_iload_n (i := 1) (q := 52) hC dX11_addLast_51 rfl rfl rfl ?_
  refine v_callV (q := 55) (rm := rm_X6_countAt) hC (c_X6_countAt hl Θ _ _) k_X6_countAt im_yX6_countAt se_yX6_countAt ml_RX11_210 dX11_addLast_52 rfl rfl rfl rfl rfl rfl (Nat.le_of_ble_eq_true rfl) ⟨Nat.le_of_ble_eq_true rfl, Nat.le_of_ble_eq_true rfl⟩ ⟨Nat.le_of_ble_eq_true rfl, Nat.le_of_ble_eq_true rfl⟩ (fR_k ?_) fR_x (Nat.le_of_ble_eq_true rfl) (Nat.le_of_ble_eq_true rfl)
  try dsimp only [Option.toList, List.cons_append, List.nil_append]
  refine v_iload (q := 57) hC dX11_addLast_55 rfl rfl ?_
  refine v_callV (q := 60) (rm := rm_X6_putIn) hC (c_X6_putIn hl Θ _ _ _ _) k_X6_putIn im_yX6_putIn se_yX6_putIn ml_RX11_216 dX11_addLast_57 rfl rfl rfl rfl rfl rfl (Nat.le_of_ble_eq_true rfl) ⟨Nat.le_of_ble_eq_true rfl, Nat.le_of_ble_eq_true rfl⟩ ⟨Nat.le_of_ble_eq_true rfl, Nat.le_of_ble_eq_true rfl⟩ (fR_k ?_) fR_x (Nat.le_of_ble_eq_true rfl) (Nat.le_of_ble_eq_true rfl)
  try dsimp only [Option.toList, List.cons_append, List.nil_append]
  refine v_aload_n (i := 0) (q := 61) hC dX11_addLast_60 rfl rfl rfl ?_
  refine g_X11_0 (q := 64) hC dX11_addLast_61 rfl rfl fl_RX11_10 ?_
  refine g_X9_2 (q := 67) hC dX11_addLast_64 rfl rfl fl_RX11_150 ?_
  refine v_iload_n (i := 1) (q := 68) hC dX11_addLast_67 rfl rfl rfl ?_
  refine v_callV (q := 71) (rm := rm_X6_countAt) hC (c_X6_countAt hl Θ _ _) k_X6_countAt im_yX6_countAt se_yX6_countAt ml_RX11_210 dX11_addLast_68 rfl rfl rfl rfl rfl rfl (Nat.le_of_ble_eq_true rfl) ⟨Nat.le_of_ble_eq_true rfl, Nat.le_of_ble_eq_true rfl⟩ ⟨Nat.le_of_ble_eq_true rfl, Nat.le_of_ble_eq_true rfl⟩ (fR_k ?_) fR_x (Nat.le_of_ble_eq_true rfl) (Nat.le_of_ble_eq_true rfl)
  try dsimp only [Option.toList, List.cons_append, List.nil_append]
  refine v_iret hC dX11_addLast_71 hr (rfl) ?_ (Nat.le_of_ble_eq_true rfl) (Nat.le_of_ble_eq_true rfl)
  exact ⟨rfl, rfl⟩
set_option maxHeartbeats 4000000 in
set_option maxRecDepth 20000 in
theorem c_X11_addForUser {l : Launch} (hl : l.stackTraces = false) (Θ : cTH) (o w r : Int32) (a b : Bool) (G : GS) : Ct l yX11_addForUser cX11_addForUser 6 (some .int) rm_X11_addForUser Θ [.ref (tR Θ 0 14), .int o, .int w, .int r, .int (b2i a), .int (b2i b)] (G) (gt (tHold (G.1 0 4 0) o) eX (gt (jIdx w (G.1 0 1 0)) eX (adQ o 0 w r a b G) (G)) (G)) := by
  refine ct_of (LS := [some (.ref (tR Θ 0 14)), some (.int o), some (.int w), some (.int r), some (.int (b2i a)), some (.int (b2i b))]) hl (by decide +kernel) rfl (Nat.le_of_ble_eq_true rfl) rfl ?_
  intro p e s m args below meth c hC hr
  refine v_aload_n (i := 0) (q := 1) hC dX11_addForUser_0 rfl rfl rfl ?_
  refine v_iload_n (i := 1) (q := 2) hC dX11_addForUser_1 rfl rfl rfl ?_
  refine v_callV (q := 5) (rm := rm_X11_requireObject) hC (c_X11_requireObject hl Θ _ _) k_X11_requireObject im_yX11_requireObject se_yX11_requireObject ml_RX11_124 dX11_addForUser_2 rfl rfl rfl rfl rfl rfl (Nat.le_of_ble_eq_true rfl) ⟨Nat.le_of_ble_eq_true rfl, Nat.le_of_ble_eq_true rfl⟩ ⟨Nat.le_of_ble_eq_true rfl, Nat.le_of_ble_eq_true rfl⟩ (fG_k (fun r_2 => ?_)) (fG_x (fun z => gt_f z)) (Nat.le_of_ble_eq_true rfl) (Nat.le_of_ble_eq_true rfl)
  try dsimp only [Option.toList, List.cons_append, List.nil_append]
  rw [gt_t r_2]
  refine v_aload_n (i := 0) (q := 6) hC dX11_addForUser_5 rfl rfl rfl ?_
  refine v_iload_n (i := 2) (q := 7) hC dX11_addForUser_6 rfl rfl rfl ?_
  refine v_callV (q := 10) (rm := rm_X11_requireUser) hC (c_X11_requireUser hl Θ _ _) k_X11_requireUser im_yX11_requireUser se_yX11_requireUser ml_RX11_88 dX11_addForUser_7 rfl rfl rfl rfl rfl rfl (Nat.le_of_ble_eq_true rfl) ⟨Nat.le_of_ble_eq_true rfl, Nat.le_of_ble_eq_true rfl⟩ ⟨Nat.le_of_ble_eq_true rfl, Nat.le_of_ble_eq_true rfl⟩ (fG_k (fun r_7 => ?_)) (fG_x (fun z => gt_f z)) (Nat.le_of_ble_eq_true rfl) (Nat.le_of_ble_eq_true rfl)
  try dsimp only [Option.toList, List.cons_append, List.nil_append]
  rw [gt_t r_7]
  refine v_aload_n (i := 0) (q := 11) hC dX11_addForUser_10 rfl rfl rfl ?_
  refine v_iload_n (i := 1) (q := 12) hC dX11_addForUser_11 rfl rfl rfl ?_
  refine v_iconst (q := 13) (v := 0) hC dX11_addForUser_12 rfl (by decide) ?_
  refine v_iload_n (i := 2) (q := 14) hC dX11_addForUser_13 rfl rfl rfl ?_
  refine v_iload_n (i := 3) (q := 15) hC dX11_addForUser_14 rfl rfl rfl ?_
  refine v_iload (q := 17) hC dX11_addForUser_15 rfl rfl ?_
  refine v_iload (q := 19) hC dX11_addForUser_17 rfl rfl ?_
  refine v_callV (q := 22) (rm := rm_X11_addLast) hC (c_X11_addLast hl Θ _ _ _ _ _ _ _) k_X11_addLast im_yX11_addLast se_yX11_addLast ml_RX11_199 dX11_addForUser_19 rfl rfl rfl rfl rfl rfl (Nat.le_of_ble_eq_true rfl) ⟨Nat.le_of_ble_eq_true rfl, Nat.le_of_ble_eq_true rfl⟩ ⟨Nat.le_of_ble_eq_true rfl, Nat.le_of_ble_eq_true rfl⟩ (fun r9 G9 z9 => ?_) (fun _ _ z => z) (Nat.le_of_ble_eq_true rfl) (Nat.le_of_ble_eq_true rfl)
  try dsimp only [Option.toList, List.cons_append, List.nil_append]
  obtain ⟨x9, rfl⟩ := adQ_k z9
  dsimp only [Option.toList, List.cons_append, List.nil_append]
  refine v_iret hC dX11_addForUser_22 hr (rfl) ?_ (Nat.le_of_ble_eq_true rfl) (Nat.le_of_ble_eq_true rfl)
  exact z9
set_option maxHeartbeats 4000000 in
set_option maxRecDepth 20000 in
theorem c_X11_addForGroup {l : Launch} (hl : l.stackTraces = false) (Θ : cTH) (o w r : Int32) (a b : Bool) (G : GS) : Ct l yX11_addForGroup cX11_addForGroup 6 (some .int) rm_X11_addForGroup Θ [.ref (tR Θ 0 14), .int o, .int w, .int r, .int (b2i a), .int (b2i b)] (G) (gt (tHold (G.1 0 4 0) o) eX (gt (jIdx w (G.1 0 1 1)) eX (adQ o 1 w r a b G) (G)) (G)) := by
  refine ct_of (LS := [some (.ref (tR Θ 0 14)), some (.int o), some (.int w), some (.int r), some (.int (b2i a)), some (.int (b2i b))]) hl (by decide +kernel) rfl (Nat.le_of_ble_eq_true rfl) rfl ?_
  intro p e s m args below meth c hC hr
  refine v_aload_n (i := 0) (q := 1) hC dX11_addForGroup_0 rfl rfl rfl ?_
  refine v_iload_n (i := 1) (q := 2) hC dX11_addForGroup_1 rfl rfl rfl ?_
  refine v_callV (q := 5) (rm := rm_X11_requireObject) hC (c_X11_requireObject hl Θ _ _) k_X11_requireObject im_yX11_requireObject se_yX11_requireObject ml_RX11_124 dX11_addForGroup_2 rfl rfl rfl rfl rfl rfl (Nat.le_of_ble_eq_true rfl) ⟨Nat.le_of_ble_eq_true rfl, Nat.le_of_ble_eq_true rfl⟩ ⟨Nat.le_of_ble_eq_true rfl, Nat.le_of_ble_eq_true rfl⟩ (fG_k (fun r_2 => ?_)) (fG_x (fun z => gt_f z)) (Nat.le_of_ble_eq_true rfl) (Nat.le_of_ble_eq_true rfl)
  try dsimp only [Option.toList, List.cons_append, List.nil_append]
  rw [gt_t r_2]
  refine v_aload_n (i := 0) (q := 6) hC dX11_addForGroup_5 rfl rfl rfl ?_
  refine v_iload_n (i := 2) (q := 7) hC dX11_addForGroup_6 rfl rfl rfl ?_
  refine v_callV (q := 10) (rm := rm_X11_requireGroup) hC (c_X11_requireGroup hl Θ _ _) k_X11_requireGroup im_yX11_requireGroup se_yX11_requireGroup ml_RX11_92 dX11_addForGroup_7 rfl rfl rfl rfl rfl rfl (Nat.le_of_ble_eq_true rfl) ⟨Nat.le_of_ble_eq_true rfl, Nat.le_of_ble_eq_true rfl⟩ ⟨Nat.le_of_ble_eq_true rfl, Nat.le_of_ble_eq_true rfl⟩ (fG_k (fun r_7 => ?_)) (fG_x (fun z => gt_f z)) (Nat.le_of_ble_eq_true rfl) (Nat.le_of_ble_eq_true rfl)
  try dsimp only [Option.toList, List.cons_append, List.nil_append]
  rw [gt_t r_7]
  refine v_aload_n (i := 0) (q := 11) hC dX11_addForGroup_10 rfl rfl rfl ?_
  refine v_iload_n (i := 1) (q := 12) hC dX11_addForGroup_11 rfl rfl rfl ?_
  refine v_iconst (q := 13) (v := 1) hC dX11_addForGroup_12 rfl (by decide) ?_
  refine v_iload_n (i := 2) (q := 14) hC dX11_addForGroup_13 rfl rfl rfl ?_
  refine v_iload_n (i := 3) (q := 15) hC dX11_addForGroup_14 rfl rfl rfl ?_
  refine v_iload (q := 17) hC dX11_addForGroup_15 rfl rfl ?_
  refine v_iload (q := 19) hC dX11_addForGroup_17 rfl rfl ?_
  refine v_callV (q := 22) (rm := rm_X11_addLast) hC (c_X11_addLast hl Θ _ _ _ _ _ _ _) k_X11_addLast im_yX11_addLast se_yX11_addLast ml_RX11_199 dX11_addForGroup_19 rfl rfl rfl rfl rfl rfl (Nat.le_of_ble_eq_true rfl) ⟨Nat.le_of_ble_eq_true rfl, Nat.le_of_ble_eq_true rfl⟩ ⟨Nat.le_of_ble_eq_true rfl, Nat.le_of_ble_eq_true rfl⟩ (fun r9 G9 z9 => ?_) (fun _ _ z => z) (Nat.le_of_ble_eq_true rfl) (Nat.le_of_ble_eq_true rfl)
  try dsimp only [Option.toList, List.cons_append, List.nil_append]
  obtain ⟨x9, rfl⟩ := adQ_k z9
  dsimp only [Option.toList, List.cons_append, List.nil_append]
  refine v_iret hC dX11_addForGroup_22 hr (rfl) ?_ (Nat.le_of_ble_eq_true rfl) (Nat.le_of_ble_eq_true rfl)
  exact z9
set_option maxHeartbeats 4000000 in
set_option maxRecDepth 20000 in
theorem c_X11_addForOwner {l : Launch} (hl : l.stackTraces = false) (Θ : cTH) (o r : Int32) (a b : Bool) (G : GS) : Ct l yX11_addForOwner cX11_addForOwner 5 (some .int) rm_X11_addForOwner Θ [.ref (tR Θ 0 14), .int o, .int r, .int (b2i a), .int (b2i b)] (G) (gt (tHold (G.1 0 4 0) o) eX (adQ o 2 0 r a b G) (G)) := by
  refine ct_of (LS := [some (.ref (tR Θ 0 14)), some (.int o), some (.int r), some (.int (b2i a)), some (.int (b2i b))]) hl (by decide +kernel) rfl (Nat.le_of_ble_eq_true rfl) rfl ?_
  intro p e s m args below meth c hC hr
  refine v_aload_n (i := 0) (q := 1) hC dX11_addForOwner_0 rfl rfl rfl ?_
  refine v_iload_n (i := 1) (q := 2) hC dX11_addForOwner_1 rfl rfl rfl ?_
  refine v_callV (q := 5) (rm := rm_X11_requireObject) hC (c_X11_requireObject hl Θ _ _) k_X11_requireObject im_yX11_requireObject se_yX11_requireObject ml_RX11_124 dX11_addForOwner_2 rfl rfl rfl rfl rfl rfl (Nat.le_of_ble_eq_true rfl) ⟨Nat.le_of_ble_eq_true rfl, Nat.le_of_ble_eq_true rfl⟩ ⟨Nat.le_of_ble_eq_true rfl, Nat.le_of_ble_eq_true rfl⟩ (fG_k (fun r_2 => ?_)) (fG_x (fun z => gt_f z)) (Nat.le_of_ble_eq_true rfl) (Nat.le_of_ble_eq_true rfl)
  try dsimp only [Option.toList, List.cons_append, List.nil_append]
  rw [gt_t r_2]
  refine v_aload_n (i := 0) (q := 6) hC dX11_addForOwner_5 rfl rfl rfl ?_
  refine v_iload_n (i := 1) (q := 7) hC dX11_addForOwner_6 rfl rfl rfl ?_
  refine v_iconst (q := 8) (v := 2) hC dX11_addForOwner_7 rfl (by decide) ?_
  refine v_iconst (q := 9) (v := 0) hC dX11_addForOwner_8 rfl (by decide) ?_
  refine v_iload_n (i := 2) (q := 10) hC dX11_addForOwner_9 rfl rfl rfl ?_
  refine v_iload_n (i := 3) (q := 11) hC dX11_addForOwner_10 rfl rfl rfl ?_
  refine v_iload (q := 13) hC dX11_addForOwner_11 rfl rfl ?_
  refine v_callV (q := 16) (rm := rm_X11_addLast) hC (c_X11_addLast hl Θ _ _ _ _ _ _ _) k_X11_addLast im_yX11_addLast se_yX11_addLast ml_RX11_199 dX11_addForOwner_13 rfl rfl rfl rfl rfl rfl (Nat.le_of_ble_eq_true rfl) ⟨Nat.le_of_ble_eq_true rfl, Nat.le_of_ble_eq_true rfl⟩ ⟨Nat.le_of_ble_eq_true rfl, Nat.le_of_ble_eq_true rfl⟩ (fun r9 G9 z9 => ?_) (fun _ _ z => z) (Nat.le_of_ble_eq_true rfl) (Nat.le_of_ble_eq_true rfl)
  try dsimp only [Option.toList, List.cons_append, List.nil_append]
  obtain ⟨x9, rfl⟩ := adQ_k z9
  dsimp only [Option.toList, List.cons_append, List.nil_append]
  refine v_iret hC dX11_addForOwner_16 hr (rfl) ?_ (Nat.le_of_ble_eq_true rfl) (Nat.le_of_ble_eq_true rfl)
  exact z9
set_option maxHeartbeats 4000000 in
set_option maxRecDepth 20000 in
theorem c_X11_addForAll {l : Launch} (hl : l.stackTraces = false) (Θ : cTH) (o r : Int32) (a b : Bool) (G : GS) : Ct l yX11_addForAll cX11_addForAll 5 (some .int) rm_X11_addForAll Θ [.ref (tR Θ 0 14), .int o, .int r, .int (b2i a), .int (b2i b)] (G) (gt (tHold (G.1 0 4 0) o) eX (adQ o 3 0 r a b G) (G)) := by
  refine ct_of (LS := [some (.ref (tR Θ 0 14)), some (.int o), some (.int r), some (.int (b2i a)), some (.int (b2i b))]) hl (by decide +kernel) rfl (Nat.le_of_ble_eq_true rfl) rfl ?_
  intro p e s m args below meth c hC hr
  refine v_aload_n (i := 0) (q := 1) hC dX11_addForAll_0 rfl rfl rfl ?_
  refine v_iload_n (i := 1) (q := 2) hC dX11_addForAll_1 rfl rfl rfl ?_
  refine v_callV (q := 5) (rm := rm_X11_requireObject) hC (c_X11_requireObject hl Θ _ _) k_X11_requireObject im_yX11_requireObject se_yX11_requireObject ml_RX11_124 dX11_addForAll_2 rfl rfl rfl rfl rfl rfl (Nat.le_of_ble_eq_true rfl) ⟨Nat.le_of_ble_eq_true rfl, Nat.le_of_ble_eq_true rfl⟩ ⟨Nat.le_of_ble_eq_true rfl, Nat.le_of_ble_eq_true rfl⟩ (fG_k (fun r_2 => ?_)) (fG_x (fun z => gt_f z)) (Nat.le_of_ble_eq_true rfl) (Nat.le_of_ble_eq_true rfl)
  try dsimp only [Option.toList, List.cons_append, List.nil_append]
  rw [gt_t r_2]
  refine v_aload_n (i := 0) (q := 6) hC dX11_addForAll_5 rfl rfl rfl ?_
  refine v_iload_n (i := 1) (q := 7) hC dX11_addForAll_6 rfl rfl rfl ?_
  refine v_iconst (q := 8) (v := 3) hC dX11_addForAll_7 rfl (by decide) ?_
  refine v_iconst (q := 9) (v := 0) hC dX11_addForAll_8 rfl (by decide) ?_
  refine v_iload_n (i := 2) (q := 10) hC dX11_addForAll_9 rfl rfl rfl ?_
  refine v_iload_n (i := 3) (q := 11) hC dX11_addForAll_10 rfl rfl rfl ?_
  refine v_iload (q := 13) hC dX11_addForAll_11 rfl rfl ?_
  refine v_callV (q := 16) (rm := rm_X11_addLast) hC (c_X11_addLast hl Θ _ _ _ _ _ _ _) k_X11_addLast im_yX11_addLast se_yX11_addLast ml_RX11_199 dX11_addForAll_13 rfl rfl rfl rfl rfl rfl (Nat.le_of_ble_eq_true rfl) ⟨Nat.le_of_ble_eq_true rfl, Nat.le_of_ble_eq_true rfl⟩ ⟨Nat.le_of_ble_eq_true rfl, Nat.le_of_ble_eq_true rfl⟩ (fun r9 G9 z9 => ?_) (fun _ _ z => z) (Nat.le_of_ble_eq_true rfl) (Nat.le_of_ble_eq_true rfl)
  try dsimp only [Option.toList, List.cons_append, List.nil_append]
  obtain ⟨x9, rfl⟩ := adQ_k z9
  dsimp only [Option.toList, List.cons_append, List.nil_append]
  refine v_iret hC dX11_addForAll_16 hr (rfl) ?_ (Nat.le_of_ble_eq_true rfl) (Nat.le_of_ble_eq_true rfl)
  exact z9
set_option maxHeartbeats 4000000 in
set_option maxRecDepth 20000 in
theorem c_X11_removeEntry {l : Launch} (hl : l.stackTraces = false) (Θ : cTH) (o e : Int32) (G : GS) : Ct l yX11_removeEntry cX11_removeEntry 3 (some .int) rm_X11_removeEntry Θ [.ref (tR Θ 0 14), .int o, .int e] (G) (gt (tHold (G.1 0 4 0) o && jIdx e (sCnt (G.2.1 0 9) o)) eX (fR (some (.int (sCnt (sTake ((sKeep G).2.1 0 9) ((sKeep G).2.1 0 10) o e).2.1 o))) (putLs (sKeep G) (sTake ((sKeep G).2.1 0 9) ((sKeep G).2.1 0 10) o e).2)) (G)) := by
  refine ct_of (LS := [some (.ref (tR Θ 0 14)), some (.int o), some (.int e)]) hl (by decide +kernel) rfl (Nat.le_of_ble_eq_true rfl) rfl ?_
  intro p e s m args below meth c hC hr
  refine v_aload_n (i := 0) (q := 1) hC dX11_removeEntry_0 rfl rfl rfl ?_
  refine v_iload_n (i := 1) (q := 2) hC dX11_removeEntry_1 rfl rfl rfl ?_
  refine v_iload_n (i := 2) (q := 3) hC dX11_removeEntry_2 rfl rfl rfl ?_
  refine v_callV (q := 6) (rm := rm_X11_requireEntry) hC (c_X11_requireEntry hl Θ _ _ _) k_X11_requireEntry im_yX11_requireEntry se_yX11_requireEntry ml_RX11_203 dX11_removeEntry_3 rfl rfl rfl rfl rfl rfl (Nat.le_of_ble_eq_true rfl) ⟨Nat.le_of_ble_eq_true rfl, Nat.le_of_ble_eq_true rfl⟩ ⟨Nat.le_of_ble_eq_true rfl, Nat.le_of_ble_eq_true rfl⟩ (fG_k (fun r_3 => ?_)) (fG_x (fun z => gt_f z)) (Nat.le_of_ble_eq_true rfl) (Nat.le_of_ble_eq_true rfl)
  try dsimp only [Option.toList, List.cons_append, List.nil_append]
  rw [gt_t r_3]
  refine v_aload_n (i := 0) (q := 7) hC dX11_removeEntry_6 rfl rfl rfl ?_
  refine g_X11_1 (q := 10) hC dX11_removeEntry_7 rfl rfl fl_RX11_19 ?_
  refine v_aload_n (i := 0) (q := 11) hC dX11_removeEntry_10 rfl rfl rfl ?_
  refine g_X11_0 (q := 14) hC dX11_removeEntry_11 rfl rfl fl_RX11_10 ?_
  refine v_callV (q := 17) (rm := rm_X3_keep) hC (c_X3_keep hl Θ _) k_X3_keep im_yX3_keep se_yX3_keep ml_RX11_72 dX11_removeEntry_14 rfl rfl rfl rfl rfl rfl (Nat.le_of_ble_eq_true rfl) ⟨Nat.le_of_ble_eq_true rfl, Nat.le_of_ble_eq_true rfl⟩ ⟨Nat.le_of_ble_eq_true rfl, Nat.le_of_ble_eq_true rfl⟩ (fR_k ?_) fR_x (Nat.le_of_ble_eq_true rfl) (Nat.le_of_ble_eq_true rfl)
  try dsimp only [Option.toList, List.cons_append, List.nil_append]
  refine v_aload_n (i := 0) (q := 18) hC dX11_removeEntry_17 rfl rfl rfl ?_
  refine g_X11_0 (q := 21) hC dX11_removeEntry_18 rfl rfl fl_RX11_10 ?_
  refine g_X9_2 (q := 24) hC dX11_removeEntry_21 rfl rfl fl_RX11_150 ?_
  refine v_iload_n (i := 1) (q := 25) hC dX11_removeEntry_24 rfl rfl rfl ?_
  refine v_iload_n (i := 2) (q := 26) hC dX11_removeEntry_25 rfl rfl rfl ?_
  refine v_callV (q := 29) (rm := rm_X6_takeOut) hC (c_X6_takeOut hl Θ _ _ _) k_X6_takeOut im_yX6_takeOut se_yX6_takeOut ml_RX11_206 dX11_removeEntry_26 rfl rfl rfl rfl rfl rfl (Nat.le_of_ble_eq_true rfl) ⟨Nat.le_of_ble_eq_true rfl, Nat.le_of_ble_eq_true rfl⟩ ⟨Nat.le_of_ble_eq_true rfl, Nat.le_of_ble_eq_true rfl⟩ (fR_k ?_) fR_x (Nat.le_of_ble_eq_true rfl) (Nat.le_of_ble_eq_true rfl)
  try dsimp only [Option.toList, List.cons_append, List.nil_append]
  refine v_pop (q := 30) hC dX11_removeEntry_29 rfl rfl ?_
  refine v_aload_n (i := 0) (q := 31) hC dX11_removeEntry_30 rfl rfl rfl ?_
  refine g_X11_0 (q := 34) hC dX11_removeEntry_31 rfl rfl fl_RX11_10 ?_
  refine g_X9_2 (q := 37) hC dX11_removeEntry_34 rfl rfl fl_RX11_150 ?_
  refine v_iload_n (i := 1) (q := 38) hC dX11_removeEntry_37 rfl rfl rfl ?_
  refine v_callV (q := 41) (rm := rm_X6_countAt) hC (c_X6_countAt hl Θ _ _) k_X6_countAt im_yX6_countAt se_yX6_countAt ml_RX11_210 dX11_removeEntry_38 rfl rfl rfl rfl rfl rfl (Nat.le_of_ble_eq_true rfl) ⟨Nat.le_of_ble_eq_true rfl, Nat.le_of_ble_eq_true rfl⟩ ⟨Nat.le_of_ble_eq_true rfl, Nat.le_of_ble_eq_true rfl⟩ (fR_k ?_) fR_x (Nat.le_of_ble_eq_true rfl) (Nat.le_of_ble_eq_true rfl)
  try dsimp only [Option.toList, List.cons_append, List.nil_append]
  refine v_iret hC dX11_removeEntry_41 hr (rfl) ?_ (Nat.le_of_ble_eq_true rfl) (Nat.le_of_ble_eq_true rfl)
  exact ⟨rfl, rfl⟩
/-- an entry is taken out and put in elsewhere -/
def mvT (o e : Int32) (G : GS) : GS := putLs G (sTake (G.2.1 0 9) (G.2.1 0 10) o e).2
def mvC (o e : Int32) (G : GS) : Int32 := (sTake (G.2.1 0 9) (G.2.1 0 10) o e).1
def mvP (o p x : Int32) (G : GS) : GS := putLs G (sPutIn (G.2.1 0 9) (G.2.1 0 10) o p x)
def mvE (o e p : Int32) (G : GS) : GS := mvP o p (mvC o e G) (mvT o e G)
def mvQ (o e q : Int32) (G : GS) : cOut → GS → Prop := fun v G1 => ∃ a b a2 b2, v = .inl (some (.int (foldI (cdO (mvE o e q (jS (jTb (sKeep G)) a b)) ((mvE o e q (jS (jTb (sKeep G)) a b)).2.1 0 21)) 12 0 0))) ∧ G1 = jS (mvE o e q (jS (jTb (sKeep G)) a b)) a2 b2
def ndQ (o e : Int32) (G : GS) : cOut → GS → Prop := fun v G1 => ∃ a b a2 b2, v = .inl (some (.int (b2i (decide (foldI (cdO (mvT o e (jS (jTb G) a b)) ((mvT o e (jS (jTb G) a b)).2.1 0 21)) 12 0 0 = 0))))) ∧ G1 = mvP o e (mvC o e (jS (jTb G) a b)) (jS (mvT o e (jS (jTb G) a b)) a2 b2)
set_option maxHeartbeats 4000000 in
set_option maxRecDepth 20000 in
theorem c_X11_moveEntry {l : Launch} (hl : l.stackTraces = false) (Θ : cTH) (o i q : Int32) (G : GS) (hg : gOk G) : Ct l yX11_moveEntry cX11_moveEntry 5 (some .int) rm_X11_moveEntry Θ [.ref (tR Θ 0 14), .int o, .int i, .int q] (G) (gt (tHold (G.1 0 4 0) o && jIdx i (sCnt (G.2.1 0 9) o)) eX (gt (tHold (G.1 0 4 0) o && jIdx q (sCnt (G.2.1 0 9) o)) eX (mvQ o i q G) (G)) (G)) := by
  refine ct_of (LS := [some (.ref (tR Θ 0 14)), some (.int o), some (.int i), some (.int q), none]) hl (by decide +kernel) rfl (Nat.le_of_ble_eq_true rfl) rfl ?_
  intro p e s m args below meth c hC hr
  refine v_aload_n (i := 0) (q := 1) hC dX11_moveEntry_0 rfl rfl rfl ?_
  refine v_iload_n (i := 1) (q := 2) hC dX11_moveEntry_1 rfl rfl rfl ?_
  refine v_iload_n (i := 2) (q := 3) hC dX11_moveEntry_2 rfl rfl rfl ?_
  refine v_callV (q := 6) (rm := rm_X11_requireEntry) hC (c_X11_requireEntry hl Θ _ _ _) k_X11_requireEntry im_yX11_requireEntry se_yX11_requireEntry ml_RX11_203 dX11_moveEntry_3 rfl rfl rfl rfl rfl rfl (Nat.le_of_ble_eq_true rfl) ⟨Nat.le_of_ble_eq_true rfl, Nat.le_of_ble_eq_true rfl⟩ ⟨Nat.le_of_ble_eq_true rfl, Nat.le_of_ble_eq_true rfl⟩ (fG_k (fun r_3 => ?_)) (fG_x (fun z => gt_f z)) (Nat.le_of_ble_eq_true rfl) (Nat.le_of_ble_eq_true rfl)
  try dsimp only [Option.toList, List.cons_append, List.nil_append]
  rw [gt_t r_3]
  refine v_aload_n (i := 0) (q := 7) hC dX11_moveEntry_6 rfl rfl rfl ?_
  refine v_iload_n (i := 1) (q := 8) hC dX11_moveEntry_7 rfl rfl rfl ?_
  refine v_iload_n (i := 3) (q := 9) hC dX11_moveEntry_8 rfl rfl rfl ?_
  refine v_callV (q := 12) (rm := rm_X11_requireEntry) hC (c_X11_requireEntry hl Θ _ _ _) k_X11_requireEntry im_yX11_requireEntry se_yX11_requireEntry ml_RX11_203 dX11_moveEntry_9 rfl rfl rfl rfl rfl rfl (Nat.le_of_ble_eq_true rfl) ⟨Nat.le_of_ble_eq_true rfl, Nat.le_of_ble_eq_true rfl⟩ ⟨Nat.le_of_ble_eq_true rfl, Nat.le_of_ble_eq_true rfl⟩ (fG_k (fun r_9 => ?_)) (fG_x (fun z => gt_f z)) (Nat.le_of_ble_eq_true rfl) (Nat.le_of_ble_eq_true rfl)
  try dsimp only [Option.toList, List.cons_append, List.nil_append]
  rw [gt_t r_9]
  refine v_aload_n (i := 0) (q := 13) hC dX11_moveEntry_12 rfl rfl rfl ?_
  refine g_X11_1 (q := 16) hC dX11_moveEntry_13 rfl rfl fl_RX11_19 ?_
  refine v_aload_n (i := 0) (q := 17) hC dX11_moveEntry_16 rfl rfl rfl ?_
  refine g_X11_0 (q := 20) hC dX11_moveEntry_17 rfl rfl fl_RX11_10 ?_
  refine v_callV (q := 23) (rm := rm_X3_keep) hC (c_X3_keep hl Θ _) k_X3_keep im_yX3_keep se_yX3_keep ml_RX11_72 dX11_moveEntry_20 rfl rfl rfl rfl rfl rfl (Nat.le_of_ble_eq_true rfl) ⟨Nat.le_of_ble_eq_true rfl, Nat.le_of_ble_eq_true rfl⟩ ⟨Nat.le_of_ble_eq_true rfl, Nat.le_of_ble_eq_true rfl⟩ (fR_k ?_) fR_x (Nat.le_of_ble_eq_true rfl) (Nat.le_of_ble_eq_true rfl)
  try dsimp only [Option.toList, List.cons_append, List.nil_append]
  refine v_aload_n (i := 0) (q := 24) hC dX11_moveEntry_23 rfl rfl rfl ?_
  refine g_X11_3 (q := 27) hC dX11_moveEntry_24 rfl rfl fl_RX11_30 ?_
  refine v_aload_n (i := 0) (q := 28) hC dX11_moveEntry_27 rfl rfl rfl ?_
  refine g_X11_0 (q := 31) hC dX11_moveEntry_28 rfl rfl fl_RX11_10 ?_
  refine v_callV (q := 34) (rm := rm_X4_keepTable) hC (cj_keepTable hl Θ _ (gOk_keep hg)) k_X4_keepTable im_yX4_keepTable se_yX4_keepTable ml_RX11_213 dX11_moveEntry_31 rfl rfl rfl rfl rfl rfl (Nat.le_of_ble_eq_true rfl) ⟨Nat.le_of_ble_eq_true rfl, Nat.le_of_ble_eq_true rfl⟩ ⟨Nat.le_of_ble_eq_true rfl, Nat.le_of_ble_eq_true rfl⟩ (jQ_k (fun a1 b1 => ?_)) jQ_x (Nat.le_of_ble_eq_true rfl) (Nat.le_of_ble_eq_true rfl)
  try dsimp only [Option.toList, List.cons_append, List.nil_append]
  refine v_aload_n (i := 0) (q := 35) hC dX11_moveEntry_34 rfl rfl rfl ?_
  refine g_X11_0 (q := 38) hC dX11_moveEntry_35 rfl rfl fl_RX11_10 ?_
  refine g_X9_2 (q := 41) hC dX11_moveEntry_38 rfl rfl fl_RX11_150 ?_
  refine v_iload_n (i := 1) (q := 42) hC dX11_moveEntry_41 rfl rfl rfl ?_
  refine v_iload_n (i := 2) (q := 43) hC dX11_moveEntry_42 rfl rfl rfl ?_
  refine v_callV (q := 46) (rm := rm_X6_takeOut) hC (c_X6_takeOut hl Θ _ _ _) k_X6_takeOut im_yX6_takeOut se_yX6_takeOut ml_RX11_206 dX11_moveEntry_43 rfl rfl rfl rfl rfl rfl (Nat.le_of_ble_eq_true rfl) ⟨Nat.le_of_ble_eq_true rfl, Nat.le_of_ble_eq_true rfl⟩ ⟨Nat.le_of_ble_eq_true rfl, Nat.le_of_ble_eq_true rfl⟩ (fR_k ?_) fR_x (Nat.le_of_ble_eq_true rfl) (Nat.le_of_ble_eq_true rfl)
  try dsimp only [Option.toList, List.cons_append, List.nil_append]
  refine v_istore (q := 48) hC dX11_moveEntry_46 rfl (lvc rfl) (Nat.le_of_ble_eq_true rfl) (Nat.le_of_ble_eq_true rfl) rfl ?_
  refine v_aload_n (i := 0) (q := 49) hC dX11_moveEntry_48 rfl rfl rfl ?_
  refine g_X11_0 (q := 52) hC dX11_moveEntry_49 rfl rfl fl_RX11_10 ?_
  refine g_X9_2 (q := 55) hC dX11_moveEntry_52 rfl rfl fl_RX11_150 ?_
  refine v_iload_n (i := 1) (q := 56) hC dX11_moveEntry_55 rfl rfl rfl ?_
  refine v_iload_n (i := 3) (q := 57) hC dX11_moveEntry_56 rfl rfl rfl ?_
  refine v_iload (q := 59) hC dX11_moveEntry_57 rfl rfl ?_
  refine v_callV (q := 62) (rm := rm_X6_putIn) hC (c_X6_putIn hl Θ _ _ _ _) k_X6_putIn im_yX6_putIn se_yX6_putIn ml_RX11_216 dX11_moveEntry_59 rfl rfl rfl rfl rfl rfl (Nat.le_of_ble_eq_true rfl) ⟨Nat.le_of_ble_eq_true rfl, Nat.le_of_ble_eq_true rfl⟩ ⟨Nat.le_of_ble_eq_true rfl, Nat.le_of_ble_eq_true rfl⟩ (fR_k ?_) fR_x (Nat.le_of_ble_eq_true rfl) (Nat.le_of_ble_eq_true rfl)
  try dsimp only [Option.toList, List.cons_append, List.nil_append]
  refine v_aload_n (i := 0) (q := 63) hC dX11_moveEntry_62 rfl rfl rfl ?_
  refine g_X11_3 (q := 66) hC dX11_moveEntry_63 rfl rfl fl_RX11_30 ?_
  refine v_aload_n (i := 0) (q := 67) hC dX11_moveEntry_66 rfl rfl rfl ?_
  refine g_X11_0 (q := 70) hC dX11_moveEntry_67 rfl rfl fl_RX11_10 ?_
  refine v_callV (q := 73) (rm := rm_X4_countDifferences) hC (cj_countDifferences hl Θ (mvE o i q (jS (jTb (sKeep G)) a1 b1)) (gOk_of (G := sKeep G) rfl (gOk_keep hg))) k_X4_countDifferences im_yX4_countDifferences se_yX4_countDifferences ml_RX11_219 dX11_moveEntry_70 rfl rfl rfl rfl rfl rfl (Nat.le_of_ble_eq_true rfl) ⟨Nat.le_of_ble_eq_true rfl, Nat.le_of_ble_eq_true rfl⟩ ⟨Nat.le_of_ble_eq_true rfl, Nat.le_of_ble_eq_true rfl⟩ (jQ_k (fun a2 b2 => ?_)) jQ_x (Nat.le_of_ble_eq_true rfl) (Nat.le_of_ble_eq_true rfl)
  try dsimp only [Option.toList, List.cons_append, List.nil_append]
  refine v_iret hC dX11_moveEntry_73 hr (rfl) ?_ (Nat.le_of_ble_eq_true rfl) (Nat.le_of_ble_eq_true rfl)
  exact (show mvQ o i q G _ _ from ⟨a1, b1, a2, b2, rfl, rfl⟩)
set_option maxHeartbeats 4000000 in
set_option maxRecDepth 20000 in
theorem c_X11_isNeedless {l : Launch} (hl : l.stackTraces = false) (Θ : cTH) (o i : Int32) (G : GS) (hg : gOk G) : Ct l yX11_isNeedless cX11_isNeedless 5 (some .boolean) rm_X11_isNeedless Θ [.ref (tR Θ 0 14), .int o, .int i] (G) (gt (tHold (G.1 0 4 0) o && jIdx i (sCnt (G.2.1 0 9) o)) eX (ndQ o i G) (G)) := by
  refine ct_of (LS := [some (.ref (tR Θ 0 14)), some (.int o), some (.int i), none, none]) hl (by decide +kernel) rfl (Nat.le_of_ble_eq_true rfl) rfl ?_
  intro p e s m args below meth c hC hr
  refine v_aload_n (i := 0) (q := 1) hC dX11_isNeedless_0 rfl rfl rfl ?_
  refine v_iload_n (i := 1) (q := 2) hC dX11_isNeedless_1 rfl rfl rfl ?_
  refine v_iload_n (i := 2) (q := 3) hC dX11_isNeedless_2 rfl rfl rfl ?_
  refine v_callV (q := 6) (rm := rm_X11_requireEntry) hC (c_X11_requireEntry hl Θ _ _ _) k_X11_requireEntry im_yX11_requireEntry se_yX11_requireEntry ml_RX11_203 dX11_isNeedless_3 rfl rfl rfl rfl rfl rfl (Nat.le_of_ble_eq_true rfl) ⟨Nat.le_of_ble_eq_true rfl, Nat.le_of_ble_eq_true rfl⟩ ⟨Nat.le_of_ble_eq_true rfl, Nat.le_of_ble_eq_true rfl⟩ (fG_k (fun r_3 => ?_)) (fG_x (fun z => gt_f z)) (Nat.le_of_ble_eq_true rfl) (Nat.le_of_ble_eq_true rfl)
  try dsimp only [Option.toList, List.cons_append, List.nil_append]
  rw [gt_t r_3]
  refine v_aload_n (i := 0) (q := 7) hC dX11_isNeedless_6 rfl rfl rfl ?_
  refine g_X11_3 (q := 10) hC dX11_isNeedless_7 rfl rfl fl_RX11_30 ?_
  refine v_aload_n (i := 0) (q := 11) hC dX11_isNeedless_10 rfl rfl rfl ?_
  refine g_X11_0 (q := 14) hC dX11_isNeedless_11 rfl rfl fl_RX11_10 ?_
  refine v_callV (q := 17) (rm := rm_X4_keepTable) hC (cj_keepTable hl Θ _ hg) k_X4_keepTable im_yX4_keepTable se_yX4_keepTable ml_RX11_213 dX11_isNeedless_14 rfl rfl rfl rfl rfl rfl (Nat.le_of_ble_eq_true rfl) ⟨Nat.le_of_ble_eq_true rfl, Nat.le_of_ble_eq_true rfl⟩ ⟨Nat.le_of_ble_eq_true rfl, Nat.le_of_ble_eq_true rfl⟩ (jQ_k (fun a1 b1 => ?_)) jQ_x (Nat.le_of_ble_eq_true rfl) (Nat.le_of_ble_eq_true rfl)
  try dsimp only [Option.toList, List.cons_append, List.nil_append]
  refine v_aload_n (i := 0) (q := 18) hC dX11_isNeedless_17 rfl rfl rfl ?_
  refine g_X11_0 (q := 21) hC dX11_isNeedless_18 rfl rfl fl_RX11_10 ?_
  refine g_X9_2 (q := 24) hC dX11_isNeedless_21 rfl rfl fl_RX11_150 ?_
  refine v_iload_n (i := 1) (q := 25) hC dX11_isNeedless_24 rfl rfl rfl ?_
  refine v_iload_n (i := 2) (q := 26) hC dX11_isNeedless_25 rfl rfl rfl ?_
  refine v_callV (q := 29) (rm := rm_X6_takeOut) hC (c_X6_takeOut hl Θ _ _ _) k_X6_takeOut im_yX6_takeOut se_yX6_takeOut ml_RX11_206 dX11_isNeedless_26 rfl rfl rfl rfl rfl rfl (Nat.le_of_ble_eq_true rfl) ⟨Nat.le_of_ble_eq_true rfl, Nat.le_of_ble_eq_true rfl⟩ ⟨Nat.le_of_ble_eq_true rfl, Nat.le_of_ble_eq_true rfl⟩ (fR_k ?_) fR_x (Nat.le_of_ble_eq_true rfl) (Nat.le_of_ble_eq_true rfl)
  try dsimp only [Option.toList, List.cons_append, List.nil_append]
  refine v_istore_n (i := 3) (q := 30) hC dX11_isNeedless_29 rfl rfl (lvc rfl) (Nat.le_of_ble_eq_true rfl) (Nat.le_of_ble_eq_true rfl) rfl ?_
  refine v_aload_n (i := 0) (q := 31) hC dX11_isNeedless_30 rfl rfl rfl ?_
  refine g_X11_3 (q := 34) hC dX11_isNeedless_31 rfl rfl fl_RX11_30 ?_
  refine v_aload_n (i := 0) (q := 35) hC dX11_isNeedless_34 rfl rfl rfl ?_
  refine g_X11_0 (q := 38) hC dX11_isNeedless_35 rfl rfl fl_RX11_10 ?_
  refine v_callV (q := 41) (rm := rm_X4_countDifferences) hC (cj_countDifferences hl Θ (mvT o i (jS (jTb G) a1 b1)) (gOk_of (G := G) rfl hg)) k_X4_countDifferences im_yX4_countDifferences se_yX4_countDifferences ml_RX11_219 dX11_isNeedless_38 rfl rfl rfl rfl rfl rfl (Nat.le_of_ble_eq_true rfl) ⟨Nat.le_of_ble_eq_true rfl, Nat.le_of_ble_eq_true rfl⟩ ⟨Nat.le_of_ble_eq_true rfl, Nat.le_of_ble_eq_true rfl⟩ (jQ_k (fun a2 b2 => ?_)) jQ_x (Nat.le_of_ble_eq_true rfl) (Nat.le_of_ble_eq_true rfl)
  try dsimp only [Option.toList, List.cons_append, List.nil_append]
  refine v_istore (q := 43) hC dX11_isNeedless_41 rfl (lvc rfl) (Nat.le_of_ble_eq_true rfl) (Nat.le_of_ble_eq_true rfl) rfl ?_
  refine v_aload_n (i := 0) (q := 44) hC dX11_isNeedless_43 rfl rfl rfl ?_
  refine g_X11_0 (q := 47) hC dX11_isNeedless_44 rfl rfl fl_RX11_10 ?_
  refine g_X9_2 (q := 50) hC dX11_isNeedless_47 rfl rfl fl_RX11_150 ?_
  refine v_iload_n (i := 1) (q := 51) hC dX11_isNeedless_50 rfl rfl rfl ?_
  refine v_iload_n (i := 2) (q := 52) hC dX11_isNeedless_51 rfl rfl rfl ?_
  refine v_iload_n (i := 3) (q := 53) hC dX11_isNeedless_52 rfl rfl rfl ?_
  refine v_callV (q := 56) (rm := rm_X6_putIn) hC (c_X6_putIn hl Θ _ _ _ _) k_X6_putIn im_yX6_putIn se_yX6_putIn ml_RX11_216 dX11_isNeedless_53 rfl rfl rfl rfl rfl rfl (Nat.le_of_ble_eq_true rfl) ⟨Nat.le_of_ble_eq_true rfl, Nat.le_of_ble_eq_true rfl⟩ ⟨Nat.le_of_ble_eq_true rfl, Nat.le_of_ble_eq_true rfl⟩ (fR_k ?_) fR_x (Nat.le_of_ble_eq_true rfl) (Nat.le_of_ble_eq_true rfl)
  try dsimp only [Option.toList, List.cons_append, List.nil_append]
  refine v_iload (q := 58) hC dX11_isNeedless_56 rfl rfl ?_
  refine v_if_ne (q := 65) (q2 := 61) hC dX11_isNeedless_58 (by decide) rfl (fun c_58 => ?_) (fun c_58 => ?_)
  · refine v_iconst (q := 66) (v := 0) hC dX11_isNeedless_65 rfl (by decide) ?_
    refine v_iret hC dX11_isNeedless_66 hr (by first | rfl | exact nar_b) ?_ (Nat.le_of_ble_eq_true rfl) (Nat.le_of_ble_eq_true rfl)
    refine (show ndQ o i G _ _ from ⟨a1, b1, a2, b2, ?_, rfl⟩)
    first | (rw [decide_eq_true c_58]; rfl) | (rw [decide_eq_false c_58]; rfl)
  · refine v_iconst (q := 62) (v := 1) hC dX11_isNeedless_61 rfl (by decide) ?_
    refine v_goto (q := 66) hC dX11_isNeedless_62 (by decide) ?_
    refine v_iret hC dX11_isNeedless_66 hr (by first | rfl | exact nar_b) ?_ (Nat.le_of_ble_eq_true rfl) (Nat.le_of_ble_eq_true rfl)
    refine (show ndQ o i G _ _ from ⟨a1, b1, a2, b2, ?_, rfl⟩)
    first | (rw [decide_eq_true c_58]; rfl) | (rw [decide_eq_false c_58]; rfl)
-- requests
theorem jD_jS (G : GS) (a b : Nat → Int32) (u o : Int32) (q : pRow) : jD (jS G a b) u o q = jD G u o q := rfl
set_option maxHeartbeats 4000000 in
set_option maxRecDepth 20000 in
theorem c_X11_ask {l : Launch} (hl : l.stackTraces = false) (Θ : cTH) (u o r : Int32) (G : GS) (hg : gOk G) : Ct l yX11_ask cX11_ask 5 (some .boolean) rm_X11_ask Θ [.ref (tR Θ 0 14), .int u, .int o, .int r] (G) (gt (jIdx u (G.1 0 1 0)) eX (gt (tHold (G.1 0 4 0) o) eX (gt (jIdx r 4) eA (fR (some (.int (b2i (jHas (rAt (sKeep G) u o) r)))) (sLog u o (jHas (rAt (sKeep G) u o) r) (jA (sKeep G) u o))) (G)) (G)) (G)) := by
  refine ct_of (LS := [some (.ref (tR Θ 0 14)), some (.int u), some (.int o), some (.int r), none]) hl (by decide +kernel) rfl (Nat.le_of_ble_eq_true rfl) rfl ?_
  intro p e s m args below meth c hC hr
  refine v_aload_n (i := 0) (q := 1) hC dX11_ask_0 rfl rfl rfl ?_
  refine v_iload_n (i := 1) (q := 2) hC dX11_ask_1 rfl rfl rfl ?_
  refine v_callV (q := 5) (rm := rm_X11_requireUser) hC (c_X11_requireUser hl Θ _ _) k_X11_requireUser im_yX11_requireUser se_yX11_requireUser ml_RX11_88 dX11_ask_2 rfl rfl rfl rfl rfl rfl (Nat.le_of_ble_eq_true rfl) ⟨Nat.le_of_ble_eq_true rfl, Nat.le_of_ble_eq_true rfl⟩ ⟨Nat.le_of_ble_eq_true rfl, Nat.le_of_ble_eq_true rfl⟩ (fG_k (fun r_2 => ?_)) (fG_x (fun z => gt_f z)) (Nat.le_of_ble_eq_true rfl) (Nat.le_of_ble_eq_true rfl)
  try dsimp only [Option.toList, List.cons_append, List.nil_append]
  rw [gt_t r_2]
  refine v_aload_n (i := 0) (q := 6) hC dX11_ask_5 rfl rfl rfl ?_
  refine v_iload_n (i := 2) (q := 7) hC dX11_ask_6 rfl rfl rfl ?_
  refine v_callV (q := 10) (rm := rm_X11_requireObject) hC (c_X11_requireObject hl Θ _ _) k_X11_requireObject im_yX11_requireObject se_yX11_requireObject ml_RX11_124 dX11_ask_7 rfl rfl rfl rfl rfl rfl (Nat.le_of_ble_eq_true rfl) ⟨Nat.le_of_ble_eq_true rfl, Nat.le_of_ble_eq_true rfl⟩ ⟨Nat.le_of_ble_eq_true rfl, Nat.le_of_ble_eq_true rfl⟩ (fG_k (fun r_7 => ?_)) (fG_x (fun z => gt_f z)) (Nat.le_of_ble_eq_true rfl) (Nat.le_of_ble_eq_true rfl)
  try dsimp only [Option.toList, List.cons_append, List.nil_append]
  rw [gt_t r_7]
  refine v_aload_n (i := 0) (q := 11) hC dX11_ask_10 rfl rfl rfl ?_
  refine v_iload_n (i := 3) (q := 12) hC dX11_ask_11 rfl rfl rfl ?_
  refine v_callV (q := 15) (rm := rm_X11_requireRight) hC (c_X11_requireRight hl Θ _ _) k_X11_requireRight im_yX11_requireRight se_yX11_requireRight ml_RX11_223 dX11_ask_12 rfl rfl rfl rfl rfl rfl (Nat.le_of_ble_eq_true rfl) ⟨Nat.le_of_ble_eq_true rfl, Nat.le_of_ble_eq_true rfl⟩ ⟨Nat.le_of_ble_eq_true rfl, Nat.le_of_ble_eq_true rfl⟩ (fG_k (fun r_12 => ?_)) (fG_x (fun z => gt_f z)) (Nat.le_of_ble_eq_true rfl) (Nat.le_of_ble_eq_true rfl)
  try dsimp only [Option.toList, List.cons_append, List.nil_append]
  rw [gt_t r_12]
  refine v_aload_n (i := 0) (q := 16) hC dX11_ask_15 rfl rfl rfl ?_
  refine g_X11_1 (q := 19) hC dX11_ask_16 rfl rfl fl_RX11_19 ?_
  refine v_aload_n (i := 0) (q := 20) hC dX11_ask_19 rfl rfl rfl ?_
  refine g_X11_0 (q := 23) hC dX11_ask_20 rfl rfl fl_RX11_10 ?_
  refine v_callV (q := 26) (rm := rm_X3_keep) hC (c_X3_keep hl Θ _) k_X3_keep im_yX3_keep se_yX3_keep ml_RX11_72 dX11_ask_23 rfl rfl rfl rfl rfl rfl (Nat.le_of_ble_eq_true rfl) ⟨Nat.le_of_ble_eq_true rfl, Nat.le_of_ble_eq_true rfl⟩ ⟨Nat.le_of_ble_eq_true rfl, Nat.le_of_ble_eq_true rfl⟩ (fR_k ?_) fR_x (Nat.le_of_ble_eq_true rfl) (Nat.le_of_ble_eq_true rfl)
  try dsimp only [Option.toList, List.cons_append, List.nil_append]
  refine v_aload_n (i := 0) (q := 27) hC dX11_ask_26 rfl rfl rfl ?_
  refine g_X11_3 (q := 30) hC dX11_ask_27 rfl rfl fl_RX11_30 ?_
  refine v_aload_n (i := 0) (q := 31) hC dX11_ask_30 rfl rfl rfl ?_
  refine g_X11_0 (q := 34) hC dX11_ask_31 rfl rfl fl_RX11_10 ?_
  refine v_iload_n (i := 1) (q := 35) hC dX11_ask_34 rfl rfl rfl ?_
  refine v_iload_n (i := 2) (q := 36) hC dX11_ask_35 rfl rfl rfl ?_
  refine v_iload_n (i := 3) (q := 37) hC dX11_ask_36 rfl rfl rfl ?_
  refine v_callV (q := 40) (rm := rm_X4_grants) hC (cj_grants hl Θ _ _ _ _ (gOk_keep hg)) k_X4_grants im_yX4_grants se_yX4_grants ml_RX11_226 dX11_ask_37 rfl rfl rfl rfl rfl rfl (Nat.le_of_ble_eq_true rfl) ⟨Nat.le_of_ble_eq_true rfl, Nat.le_of_ble_eq_true rfl⟩ ⟨Nat.le_of_ble_eq_true rfl, Nat.le_of_ble_eq_true rfl⟩ (fR_k ?_) fR_x (Nat.le_of_ble_eq_true rfl) (Nat.le_of_ble_eq_true rfl)
  try dsimp only [Option.toList, List.cons_append, List.nil_append]
  refine v_istore (q := 42) hC dX11_ask_40 rfl (lvc rfl) (Nat.le_of_ble_eq_true rfl) (Nat.le_of_ble_eq_true rfl) rfl ?_
  refine v_aload_n (i := 0) (q := 43) hC dX11_ask_42 rfl rfl rfl ?_
  refine g_X11_0 (q := 46) hC dX11_ask_43 rfl rfl fl_RX11_10 ?_
  refine g_X9_3 (q := 49) hC dX11_ask_46 rfl rfl fl_RX11_230 ?_
  refine v_iload_n (i := 1) (q := 50) hC dX11_ask_49 rfl rfl rfl ?_
  refine v_iload_n (i := 2) (q := 51) hC dX11_ask_50 rfl rfl rfl ?_
  refine v_iload (q := 53) hC dX11_ask_51 rfl rfl ?_
  refine v_callV (q := 56) (rm := rm_X7_put) hC (c_X7_put hl Θ _ _ (jHas (rAt (sKeep G) u o) r) _) k_X7_put im_yX7_put se_yX7_put ml_RX11_234 dX11_ask_53 rfl rfl rfl rfl rfl rfl (Nat.le_of_ble_eq_true rfl) ⟨Nat.le_of_ble_eq_true rfl, Nat.le_of_ble_eq_true rfl⟩ ⟨Nat.le_of_ble_eq_true rfl, Nat.le_of_ble_eq_true rfl⟩ (fR_k ?_) fR_x (Nat.le_of_ble_eq_true rfl) (Nat.le_of_ble_eq_true rfl)
  try dsimp only [Option.toList, List.cons_append, List.nil_append]
  refine v_iload (q := 58) hC dX11_ask_56 rfl rfl ?_
  refine v_iret hC dX11_ask_58 hr (by first | rfl | exact nar_b) ?_ (Nat.le_of_ble_eq_true rfl) (Nat.le_of_ble_eq_true rfl)
  exact ⟨rfl, rfl⟩
def shG (v o u r : Int32) (G : GS) : GS := mvP o 0 (eCode 0 u r true false) (sKeep (jA G v o))
set_option maxHeartbeats 4000000 in
set_option maxRecDepth 20000 in
theorem c_X11_share {l : Launch} (hl : l.stackTraces = false) (Θ : cTH) (v o u r : Int32) (G : GS) (hg : gOk G) : Ct l yX11_share cX11_share 6 (some .int) rm_X11_share Θ [.ref (tR Θ 0 14), .int v, .int o, .int u, .int r] (G) (gt (jIdx v (G.1 0 1 0)) eX (gt (tHold (G.1 0 4 0) o) eX (gt (jIdx u (G.1 0 1 0)) eX (gt (decide (1 ≤ r) && decide (r ≤ 15)) eA (gt (decide (rAt G v o &&& (r ||| 8) = r ||| 8)) eS (gt (decide (sCnt ((jA G v o).2.1 0 9) o < 6)) eS (fR (some (.int (rAt (shG v o u r G) u o))) (jA (shG v o u r G) u o)) (jA G v o)) (jA G v o)) (G)) (G)) (G)) (G)) := by
  refine ct_of (LS := [some (.ref (tR Θ 0 14)), some (.int v), some (.int o), some (.int u), some (.int r), none]) hl (by decide +kernel) rfl (Nat.le_of_ble_eq_true rfl) rfl ?_
  intro p e s m args below meth c hC hr
  refine v_aload_n (i := 0) (q := 1) hC dX11_share_0 rfl rfl rfl ?_
  refine v_iload_n (i := 1) (q := 2) hC dX11_share_1 rfl rfl rfl ?_
  refine v_callV (q := 5) (rm := rm_X11_requireUser) hC (c_X11_requireUser hl Θ _ _) k_X11_requireUser im_yX11_requireUser se_yX11_requireUser ml_RX11_88 dX11_share_2 rfl rfl rfl rfl rfl rfl (Nat.le_of_ble_eq_true rfl) ⟨Nat.le_of_ble_eq_true rfl, Nat.le_of_ble_eq_true rfl⟩ ⟨Nat.le_of_ble_eq_true rfl, Nat.le_of_ble_eq_true rfl⟩ (fG_k (fun r_2 => ?_)) (fG_x (fun z => gt_f z)) (Nat.le_of_ble_eq_true rfl) (Nat.le_of_ble_eq_true rfl)
  try dsimp only [Option.toList, List.cons_append, List.nil_append]
  rw [gt_t r_2]
  refine v_aload_n (i := 0) (q := 6) hC dX11_share_5 rfl rfl rfl ?_
  refine v_iload_n (i := 2) (q := 7) hC dX11_share_6 rfl rfl rfl ?_
  refine v_callV (q := 10) (rm := rm_X11_requireObject) hC (c_X11_requireObject hl Θ _ _) k_X11_requireObject im_yX11_requireObject se_yX11_requireObject ml_RX11_124 dX11_share_7 rfl rfl rfl rfl rfl rfl (Nat.le_of_ble_eq_true rfl) ⟨Nat.le_of_ble_eq_true rfl, Nat.le_of_ble_eq_true rfl⟩ ⟨Nat.le_of_ble_eq_true rfl, Nat.le_of_ble_eq_true rfl⟩ (fG_k (fun r_7 => ?_)) (fG_x (fun z => gt_f z)) (Nat.le_of_ble_eq_true rfl) (Nat.le_of_ble_eq_true rfl)
  try dsimp only [Option.toList, List.cons_append, List.nil_append]
  rw [gt_t r_7]
  refine v_aload_n (i := 0) (q := 11) hC dX11_share_10 rfl rfl rfl ?_
  refine v_iload_n (i := 3) (q := 12) hC dX11_share_11 rfl rfl rfl ?_
  refine v_callV (q := 15) (rm := rm_X11_requireUser) hC (c_X11_requireUser hl Θ _ _) k_X11_requireUser im_yX11_requireUser se_yX11_requireUser ml_RX11_88 dX11_share_12 rfl rfl rfl rfl rfl rfl (Nat.le_of_ble_eq_true rfl) ⟨Nat.le_of_ble_eq_true rfl, Nat.le_of_ble_eq_true rfl⟩ ⟨Nat.le_of_ble_eq_true rfl, Nat.le_of_ble_eq_true rfl⟩ (fG_k (fun r_12 => ?_)) (fG_x (fun z => gt_f z)) (Nat.le_of_ble_eq_true rfl) (Nat.le_of_ble_eq_true rfl)
  try dsimp only [Option.toList, List.cons_append, List.nil_append]
  rw [gt_t r_12]
  refine v_aload_n (i := 0) (q := 16) hC dX11_share_15 rfl rfl rfl ?_
  refine v_iload (q := 18) hC dX11_share_16 rfl rfl ?_
  refine v_iconst (q := 19) (v := 1) hC dX11_share_18 rfl (by decide) ?_
  refine v_callV (q := 22) (rm := rm_X11_requireRights) hC (c_X11_requireRights hl Θ _ _ _) k_X11_requireRights im_yX11_requireRights se_yX11_requireRights ml_RX11_180 dX11_share_19 rfl rfl rfl rfl rfl rfl (Nat.le_of_ble_eq_true rfl) ⟨Nat.le_of_ble_eq_true rfl, Nat.le_of_ble_eq_true rfl⟩ ⟨Nat.le_of_ble_eq_true rfl, Nat.le_of_ble_eq_true rfl⟩ (fG_k (fun r_19 => ?_)) (fG_x (fun z => gt_f z)) (Nat.le_of_ble_eq_true rfl) (Nat.le_of_ble_eq_true rfl)
  try dsimp only [Option.toList, List.cons_append, List.nil_append]
  rw [gt_t r_19]
  refine v_iload (q := 24) hC dX11_share_22 rfl rfl ?_
  refine v_bipush (q := 26) (v := 8) hC dX11_share_24 rfl (by decide) ?_
  refine v_ior (q := 27) hC dX11_share_26 rfl ?_
  refine v_istore (q := 29) hC dX11_share_27 rfl (lvc rfl) (Nat.le_of_ble_eq_true rfl) (Nat.le_of_ble_eq_true rfl) rfl ?_
  refine v_aload_n (i := 0) (q := 30) hC dX11_share_29 rfl rfl rfl ?_
  refine g_X11_3 (q := 33) hC dX11_share_30 rfl rfl fl_RX11_30 ?_
  refine v_aload_n (i := 0) (q := 34) hC dX11_share_33 rfl rfl rfl ?_
  refine g_X11_0 (q := 37) hC dX11_share_34 rfl rfl fl_RX11_10 ?_
  refine v_iload_n (i := 1) (q := 38) hC dX11_share_37 rfl rfl rfl ?_
  refine v_iload_n (i := 2) (q := 39) hC dX11_share_38 rfl rfl rfl ?_
  refine v_callV (q := 42) (rm := rm_X4_rightsAt) hC (cj_rightsAt hl Θ _ _ _ hg) k_X4_rightsAt im_yX4_rightsAt se_yX4_rightsAt ml_RX11_239 dX11_share_39 rfl rfl rfl rfl rfl rfl (Nat.le_of_ble_eq_true rfl) ⟨Nat.le_of_ble_eq_true rfl, Nat.le_of_ble_eq_true rfl⟩ ⟨Nat.le_of_ble_eq_true rfl, Nat.le_of_ble_eq_true rfl⟩ (fR_k ?_) fR_x (Nat.le_of_ble_eq_true rfl) (Nat.le_of_ble_eq_true rfl)
  try dsimp only [Option.toList, List.cons_append, List.nil_append]
  refine v_iload (q := 44) hC dX11_share_42 rfl rfl ?_
  refine v_iand (q := 45) hC dX11_share_44 rfl ?_
  refine v_iload (q := 47) hC dX11_share_45 rfl rfl ?_
  refine v_icmp_eq (q := 60) (q2 := 50) hC dX11_share_47 (by decide) rfl (fun c_47 => ?_) (fun c_47 => ?_)
  · rw [gt_t (decide_eq_true c_47)]
    refine v_aload_n (i := 0) (q := 61) hC dX11_share_60 rfl rfl rfl ?_
    refine v_iload_n (i := 2) (q := 62) hC dX11_share_61 rfl rfl rfl ?_
    refine v_callV (q := 65) (rm := rm_X11_requireRoom) hC (c_X11_requireRoom hl Θ _ _) k_X11_requireRoom im_yX11_requireRoom se_yX11_requireRoom ml_RX11_245 dX11_share_62 rfl rfl rfl rfl rfl rfl (Nat.le_of_ble_eq_true rfl) ⟨Nat.le_of_ble_eq_true rfl, Nat.le_of_ble_eq_true rfl⟩ ⟨Nat.le_of_ble_eq_true rfl, Nat.le_of_ble_eq_true rfl⟩ (fG_k (fun r_62 => ?_)) (fG_x (fun z => gt_f z)) (Nat.le_of_ble_eq_true rfl) (Nat.le_of_ble_eq_true rfl)
    try dsimp only [Option.toList, List.cons_append, List.nil_append]
    rw [gt_t r_62]
    refine v_aload_n (i := 0) (q := 66) hC dX11_share_65 rfl rfl rfl ?_
    refine g_X11_1 (q := 69) hC dX11_share_66 rfl rfl fl_RX11_19 ?_
    refine v_aload_n (i := 0) (q := 70) hC dX11_share_69 rfl rfl rfl ?_
    refine g_X11_0 (q := 73) hC dX11_share_70 rfl rfl fl_RX11_10 ?_
    refine v_callV (q := 76) (rm := rm_X3_keep) hC (c_X3_keep hl Θ _) k_X3_keep im_yX3_keep se_yX3_keep ml_RX11_72 dX11_share_73 rfl rfl rfl rfl rfl rfl (Nat.le_of_ble_eq_true rfl) ⟨Nat.le_of_ble_eq_true rfl, Nat.le_of_ble_eq_true rfl⟩ ⟨Nat.le_of_ble_eq_true rfl, Nat.le_of_ble_eq_true rfl⟩ (fR_k ?_) fR_x (Nat.le_of_ble_eq_true rfl) (Nat.le_of_ble_eq_true rfl)
    try dsimp only [Option.toList, List.cons_append, List.nil_append]
    refine v_aload_n (i := 0) (q := 77) hC dX11_share_76 rfl rfl rfl ?_
    refine g_X11_0 (q := 80) hC dX11_share_77 rfl rfl fl_RX11_10 ?_
    refine g_X9_2 (q := 83) hC dX11_share_80 rfl rfl fl_RX11_150 ?_
    refine v_iload_n (i := 2) (q := 84) hC dX11_share_83 rfl rfl rfl ?_
    refine v_iconst (q := 85) (v := 0) hC dX11_share_84 rfl (by decide) ?_
    refine v_iconst (q := 86) (v := 0) hC dX11_share_85 rfl (by decide) ?_
    refine v_iload_n (i := 3) (q := 87) hC dX11_share_86 rfl rfl rfl ?_
    refine v_iload (q := 89) hC dX11_share_87 rfl rfl ?_
    refine v_iconst (q := 90) (v := 1) hC dX11_share_89 rfl (by decide) ?_
    refine v_iconst (q := 91) (v := 0) hC dX11_share_90 rfl (by decide) ?_
    refine v_callS (q := 94) (rm := rm_X1_code) hC (c_X1_code hl Θ _ _ _ true false _) k_X1_code st_yX1_code ml_RX11_248 dX11_share_91 rfl  rfl rfl (Nat.le_of_ble_eq_true rfl) ⟨Nat.le_of_ble_eq_true rfl, Nat.le_of_ble_eq_true rfl⟩ ⟨Nat.le_of_ble_eq_true rfl, Nat.le_of_ble_eq_true rfl⟩ (fR_k ?_) fR_x (Nat.le_of_ble_eq_true rfl) (Nat.le_of_ble_eq_true rfl)
    try dsimp only [Option.toList, List.cons_append, List.nil_append]
    refine v_callV (q := 97) (rm := rm_X6_putIn) hC (c_X6_putIn hl Θ _ _ _ _) k_X6_putIn im_yX6_putIn se_yX6_putIn ml_RX11_216 dX11_share_94 rfl rfl rfl rfl rfl rfl (Nat.le_of_ble_eq_true rfl) ⟨Nat.le_of_ble_eq_true rfl, Nat.le_of_ble_eq_true rfl⟩ ⟨Nat.le_of_ble_eq_true rfl, Nat.le_of_ble_eq_true rfl⟩ (fR_k ?_) fR_x (Nat.le_of_ble_eq_true rfl) (Nat.le_of_ble_eq_true rfl)
    try dsimp only [Option.toList, List.cons_append, List.nil_append]
    refine v_aload_n (i := 0) (q := 98) hC dX11_share_97 rfl rfl rfl ?_
    refine g_X11_3 (q := 101) hC dX11_share_98 rfl rfl fl_RX11_30 ?_
    refine v_aload_n (i := 0) (q := 102) hC dX11_share_101 rfl rfl rfl ?_
    refine g_X11_0 (q := 105) hC dX11_share_102 rfl rfl fl_RX11_10 ?_
    refine v_iload_n (i := 3) (q := 106) hC dX11_share_105 rfl rfl rfl ?_
    refine v_iload_n (i := 2) (q := 107) hC dX11_share_106 rfl rfl rfl ?_
    refine v_callV (q := 110) (rm := rm_X4_rightsAt) hC (cj_rightsAt hl Θ _ _ (shG v o u r G) (gOk_of (G := sKeep (jA G v o)) rfl (gOk_keep (gOk_of (G := G) rfl hg)))) k_X4_rightsAt im_yX4_rightsAt se_yX4_rightsAt ml_RX11_239 dX11_share_107 rfl rfl rfl rfl rfl rfl (Nat.le_of_ble_eq_true rfl) ⟨Nat.le_of_ble_eq_true rfl, Nat.le_of_ble_eq_true rfl⟩ ⟨Nat.le_of_ble_eq_true rfl, Nat.le_of_ble_eq_true rfl⟩ (fR_k ?_) fR_x (Nat.le_of_ble_eq_true rfl) (Nat.le_of_ble_eq_true rfl)
    try dsimp only [Option.toList, List.cons_append, List.nil_append]
    refine v_iret hC dX11_share_110 hr (rfl) ?_ (Nat.le_of_ble_eq_true rfl) (Nat.le_of_ble_eq_true rfl)
    exact ⟨rfl, rfl⟩
  · refine v_throwS hC dX11_share_50 dX11_share_53 dX11_share_54 dX11_share_56 dX11_share_59 cl_RX11_65 (i := 17) rfl ⟨Nat.le_of_ble_eq_true rfl, Nat.le_of_ble_eq_true rfl, Nat.le_of_ble_eq_true rfl, Nat.le_of_ble_eq_true rfl, Nat.le_of_ble_eq_true rfl, Nat.le_of_ble_eq_true rfl⟩ ?_
    exact gt_f (decide_eq_false c_47)
-- texts
-- as they are
set_option maxHeartbeats 4000000 in
set_option maxRecDepth 20000 in
theorem c_X11_users {l : Launch} (hl : l.stackTraces = false) (Θ : cTH) (G : GS) : Ct l yX11_users cX11_users 1 (some .int) rm_X11_users Θ [.ref (tR Θ 0 14)] (G) (fR (some (.int (G.1 0 1 0))) G) := by
  refine ct_of (LS := [some (.ref (tR Θ 0 14))]) hl (by decide +kernel) rfl (Nat.le_of_ble_eq_true rfl) rfl ?_
  intro p e s m args below meth c hC hr
  refine v_aload_n (i := 0) (q := 1) hC dX11_users_0 rfl rfl rfl ?_
  refine g_X11_0 (q := 4) hC dX11_users_1 rfl rfl fl_RX11_10 ?_
  refine g_X9_0 (q := 7) hC dX11_users_4 rfl rfl fl_RX11_55 ?_
  refine g_X0_0 (q := 10) hC dX11_users_7 rfl rfl fl_RX11_59 ?_
  refine v_iret hC dX11_users_10 hr (rfl) ?_ (Nat.le_of_ble_eq_true rfl) (Nat.le_of_ble_eq_true rfl)
  exact ⟨rfl, rfl⟩
set_option maxHeartbeats 4000000 in
set_option maxRecDepth 20000 in
theorem c_X11_groups {l : Launch} (hl : l.stackTraces = false) (Θ : cTH) (G : GS) : Ct l yX11_groups cX11_groups 1 (some .int) rm_X11_groups Θ [.ref (tR Θ 0 14)] (G) (fR (some (.int (G.1 0 1 1))) G) := by
  refine ct_of (LS := [some (.ref (tR Θ 0 14))]) hl (by decide +kernel) rfl (Nat.le_of_ble_eq_true rfl) rfl ?_
  intro p e s m args below meth c hC hr
  refine v_aload_n (i := 0) (q := 1) hC dX11_groups_0 rfl rfl rfl ?_
  refine g_X11_0 (q := 4) hC dX11_groups_1 rfl rfl fl_RX11_10 ?_
  refine g_X9_0 (q := 7) hC dX11_groups_4 rfl rfl fl_RX11_55 ?_
  refine g_X0_1 (q := 10) hC dX11_groups_7 rfl rfl fl_RX11_80 ?_
  refine v_iret hC dX11_groups_10 hr (rfl) ?_ (Nat.le_of_ble_eq_true rfl) (Nat.le_of_ble_eq_true rfl)
  exact ⟨rfl, rfl⟩
set_option maxHeartbeats 4000000 in
set_option maxRecDepth 20000 in
theorem c_X11_isMember {l : Launch} (hl : l.stackTraces = false) (Θ : cTH) (u g : Int32) (G : GS) : Ct l yX11_isMember cX11_isMember 3 (some .boolean) rm_X11_isMember Θ [.ref (tR Θ 0 14), .int u, .int g] (G) (gt (jIdx u (G.1 0 1 0)) eX (gt (jIdx g (G.1 0 1 1)) eX (fR (some (.int (b2i (sMem (G.2.1 0 2) g u)))) G) (G)) (G)) := by
  refine ct_of (LS := [some (.ref (tR Θ 0 14)), some (.int u), some (.int g)]) hl (by decide +kernel) rfl (Nat.le_of_ble_eq_true rfl) rfl ?_
  intro p e s m args below meth c hC hr
  refine v_aload_n (i := 0) (q := 1) hC dX11_isMember_0 rfl rfl rfl ?_
  refine v_iload_n (i := 1) (q := 2) hC dX11_isMember_1 rfl rfl rfl ?_
  refine v_callV (q := 5) (rm := rm_X11_requireUser) hC (c_X11_requireUser hl Θ _ _) k_X11_requireUser im_yX11_requireUser se_yX11_requireUser ml_RX11_88 dX11_isMember_2 rfl rfl rfl rfl rfl rfl (Nat.le_of_ble_eq_true rfl) ⟨Nat.le_of_ble_eq_true rfl, Nat.le_of_ble_eq_true rfl⟩ ⟨Nat.le_of_ble_eq_true rfl, Nat.le_of_ble_eq_true rfl⟩ (fG_k (fun r_2 => ?_)) (fG_x (fun z => gt_f z)) (Nat.le_of_ble_eq_true rfl) (Nat.le_of_ble_eq_true rfl)
  try dsimp only [Option.toList, List.cons_append, List.nil_append]
  rw [gt_t r_2]
  refine v_aload_n (i := 0) (q := 6) hC dX11_isMember_5 rfl rfl rfl ?_
  refine v_iload_n (i := 2) (q := 7) hC dX11_isMember_6 rfl rfl rfl ?_
  refine v_callV (q := 10) (rm := rm_X11_requireGroup) hC (c_X11_requireGroup hl Θ _ _) k_X11_requireGroup im_yX11_requireGroup se_yX11_requireGroup ml_RX11_92 dX11_isMember_7 rfl rfl rfl rfl rfl rfl (Nat.le_of_ble_eq_true rfl) ⟨Nat.le_of_ble_eq_true rfl, Nat.le_of_ble_eq_true rfl⟩ ⟨Nat.le_of_ble_eq_true rfl, Nat.le_of_ble_eq_true rfl⟩ (fG_k (fun r_7 => ?_)) (fG_x (fun z => gt_f z)) (Nat.le_of_ble_eq_true rfl) (Nat.le_of_ble_eq_true rfl)
  try dsimp only [Option.toList, List.cons_append, List.nil_append]
  rw [gt_t r_7]
  refine v_aload_n (i := 0) (q := 11) hC dX11_isMember_10 rfl rfl rfl ?_
  refine g_X11_0 (q := 14) hC dX11_isMember_11 rfl rfl fl_RX11_10 ?_
  refine g_X9_0 (q := 17) hC dX11_isMember_14 rfl rfl fl_RX11_55 ?_
  refine v_iload_n (i := 2) (q := 18) hC dX11_isMember_17 rfl rfl rfl ?_
  refine v_iload_n (i := 1) (q := 19) hC dX11_isMember_18 rfl rfl rfl ?_
  refine v_callV (q := 22) (rm := rm_X0_hasMember) hC (c_X0_hasMember hl Θ _ _ _) k_X0_hasMember im_yX0_hasMember se_yX0_hasMember ml_RX11_95 dX11_isMember_19 rfl rfl rfl rfl rfl rfl (Nat.le_of_ble_eq_true rfl) ⟨Nat.le_of_ble_eq_true rfl, Nat.le_of_ble_eq_true rfl⟩ ⟨Nat.le_of_ble_eq_true rfl, Nat.le_of_ble_eq_true rfl⟩ (fR_k ?_) fR_x (Nat.le_of_ble_eq_true rfl) (Nat.le_of_ble_eq_true rfl)
  try dsimp only [Option.toList, List.cons_append, List.nil_append]
  refine v_iret hC dX11_isMember_22 hr (by first | rfl | exact nar_b) ?_ (Nat.le_of_ble_eq_true rfl) (Nat.le_of_ble_eq_true rfl)
  exact ⟨rfl, rfl⟩
set_option maxHeartbeats 4000000 in
set_option maxRecDepth 20000 in
theorem c_X11_isNested {l : Launch} (hl : l.stackTraces = false) (Θ : cTH) (i o : Int32) (G : GS) : Ct l yX11_isNested cX11_isNested 3 (some .boolean) rm_X11_isNested Θ [.ref (tR Θ 0 14), .int i, .int o] (G) (gt (jIdx i (G.1 0 1 1)) eX (gt (jIdx o (G.1 0 1 1)) eX (fR (some (.int (b2i (sInn (G.2.1 0 3) o i)))) G) (G)) (G)) := by
  refine ct_of (LS := [some (.ref (tR Θ 0 14)), some (.int i), some (.int o)]) hl (by decide +kernel) rfl (Nat.le_of_ble_eq_true rfl) rfl ?_
  intro p e s m args below meth c hC hr
  refine v_aload_n (i := 0) (q := 1) hC dX11_isNested_0 rfl rfl rfl ?_
  refine v_iload_n (i := 1) (q := 2) hC dX11_isNested_1 rfl rfl rfl ?_
  refine v_callV (q := 5) (rm := rm_X11_requireGroup) hC (c_X11_requireGroup hl Θ _ _) k_X11_requireGroup im_yX11_requireGroup se_yX11_requireGroup ml_RX11_92 dX11_isNested_2 rfl rfl rfl rfl rfl rfl (Nat.le_of_ble_eq_true rfl) ⟨Nat.le_of_ble_eq_true rfl, Nat.le_of_ble_eq_true rfl⟩ ⟨Nat.le_of_ble_eq_true rfl, Nat.le_of_ble_eq_true rfl⟩ (fG_k (fun r_2 => ?_)) (fG_x (fun z => gt_f z)) (Nat.le_of_ble_eq_true rfl) (Nat.le_of_ble_eq_true rfl)
  try dsimp only [Option.toList, List.cons_append, List.nil_append]
  rw [gt_t r_2]
  refine v_aload_n (i := 0) (q := 6) hC dX11_isNested_5 rfl rfl rfl ?_
  refine v_iload_n (i := 2) (q := 7) hC dX11_isNested_6 rfl rfl rfl ?_
  refine v_callV (q := 10) (rm := rm_X11_requireGroup) hC (c_X11_requireGroup hl Θ _ _) k_X11_requireGroup im_yX11_requireGroup se_yX11_requireGroup ml_RX11_92 dX11_isNested_7 rfl rfl rfl rfl rfl rfl (Nat.le_of_ble_eq_true rfl) ⟨Nat.le_of_ble_eq_true rfl, Nat.le_of_ble_eq_true rfl⟩ ⟨Nat.le_of_ble_eq_true rfl, Nat.le_of_ble_eq_true rfl⟩ (fG_k (fun r_7 => ?_)) (fG_x (fun z => gt_f z)) (Nat.le_of_ble_eq_true rfl) (Nat.le_of_ble_eq_true rfl)
  try dsimp only [Option.toList, List.cons_append, List.nil_append]
  rw [gt_t r_7]
  refine v_aload_n (i := 0) (q := 11) hC dX11_isNested_10 rfl rfl rfl ?_
  refine g_X11_0 (q := 14) hC dX11_isNested_11 rfl rfl fl_RX11_10 ?_
  refine g_X9_0 (q := 17) hC dX11_isNested_14 rfl rfl fl_RX11_55 ?_
  refine v_iload_n (i := 2) (q := 18) hC dX11_isNested_17 rfl rfl rfl ?_
  refine v_iload_n (i := 1) (q := 19) hC dX11_isNested_18 rfl rfl rfl ?_
  refine v_callV (q := 22) (rm := rm_X0_hasInner) hC (c_X0_hasInner hl Θ _ _ _) k_X0_hasInner im_yX0_hasInner se_yX0_hasInner ml_RX11_111 dX11_isNested_19 rfl rfl rfl rfl rfl rfl (Nat.le_of_ble_eq_true rfl) ⟨Nat.le_of_ble_eq_true rfl, Nat.le_of_ble_eq_true rfl⟩ ⟨Nat.le_of_ble_eq_true rfl, Nat.le_of_ble_eq_true rfl⟩ (fR_k ?_) fR_x (Nat.le_of_ble_eq_true rfl) (Nat.le_of_ble_eq_true rfl)
  try dsimp only [Option.toList, List.cons_append, List.nil_append]
  refine v_iret hC dX11_isNested_22 hr (by first | rfl | exact nar_b) ?_ (Nat.le_of_ble_eq_true rfl) (Nat.le_of_ble_eq_true rfl)
  exact ⟨rfl, rfl⟩
set_option maxHeartbeats 4000000 in
set_option maxRecDepth 20000 in
theorem c_X11_belongs {l : Launch} (hl : l.stackTraces = false) (Θ : cTH) (u g : Int32) (G : GS) (hg : gOk G) : Ct l yX11_belongs cX11_belongs 3 (some .boolean) rm_X11_belongs Θ [.ref (tR Θ 0 14), .int u, .int g] (G) (gt (jIdx u (G.1 0 1 0)) eX (gt (jIdx g (G.1 0 1 1)) eX (fR (some (.int (b2i (jHas (dGs G u) g)))) G) (G)) (G)) := by
  refine ct_of (LS := [some (.ref (tR Θ 0 14)), some (.int u), some (.int g)]) hl (by decide +kernel) rfl (Nat.le_of_ble_eq_true rfl) rfl ?_
  intro p e s m args below meth c hC hr
  refine v_aload_n (i := 0) (q := 1) hC dX11_belongs_0 rfl rfl rfl ?_
  refine v_iload_n (i := 1) (q := 2) hC dX11_belongs_1 rfl rfl rfl ?_
  refine v_callV (q := 5) (rm := rm_X11_requireUser) hC (c_X11_requireUser hl Θ _ _) k_X11_requireUser im_yX11_requireUser se_yX11_requireUser ml_RX11_88 dX11_belongs_2 rfl rfl rfl rfl rfl rfl (Nat.le_of_ble_eq_true rfl) ⟨Nat.le_of_ble_eq_true rfl, Nat.le_of_ble_eq_true rfl⟩ ⟨Nat.le_of_ble_eq_true rfl, Nat.le_of_ble_eq_true rfl⟩ (fG_k (fun r_2 => ?_)) (fG_x (fun z => gt_f z)) (Nat.le_of_ble_eq_true rfl) (Nat.le_of_ble_eq_true rfl)
  try dsimp only [Option.toList, List.cons_append, List.nil_append]
  rw [gt_t r_2]
  refine v_aload_n (i := 0) (q := 6) hC dX11_belongs_5 rfl rfl rfl ?_
  refine v_iload_n (i := 2) (q := 7) hC dX11_belongs_6 rfl rfl rfl ?_
  refine v_callV (q := 10) (rm := rm_X11_requireGroup) hC (c_X11_requireGroup hl Θ _ _) k_X11_requireGroup im_yX11_requireGroup se_yX11_requireGroup ml_RX11_92 dX11_belongs_7 rfl rfl rfl rfl rfl rfl (Nat.le_of_ble_eq_true rfl) ⟨Nat.le_of_ble_eq_true rfl, Nat.le_of_ble_eq_true rfl⟩ ⟨Nat.le_of_ble_eq_true rfl, Nat.le_of_ble_eq_true rfl⟩ (fG_k (fun r_7 => ?_)) (fG_x (fun z => gt_f z)) (Nat.le_of_ble_eq_true rfl) (Nat.le_of_ble_eq_true rfl)
  try dsimp only [Option.toList, List.cons_append, List.nil_append]
  rw [gt_t r_7]
  refine v_aload_n (i := 0) (q := 11) hC dX11_belongs_10 rfl rfl rfl ?_
  refine g_X11_0 (q := 14) hC dX11_belongs_11 rfl rfl fl_RX11_10 ?_
  refine g_X9_0 (q := 17) hC dX11_belongs_14 rfl rfl fl_RX11_55 ?_
  refine v_iload_n (i := 1) (q := 18) hC dX11_belongs_17 rfl rfl rfl ?_
  refine v_callV (q := 21) (rm := rm_X0_groupsOver) hC (c_X0_groupsOver hl Θ _ _ (gN G) hg.1 hg.2) k_X0_groupsOver im_yX0_groupsOver se_yX0_groupsOver ml_RX11_299 dX11_belongs_18 rfl rfl rfl rfl rfl rfl (Nat.le_of_ble_eq_true rfl) ⟨Nat.le_of_ble_eq_true rfl, Nat.le_of_ble_eq_true rfl⟩ ⟨Nat.le_of_ble_eq_true rfl, Nat.le_of_ble_eq_true rfl⟩ (fR_k ?_) fR_x (Nat.le_of_ble_eq_true rfl) (Nat.le_of_ble_eq_true rfl)
  try dsimp only [Option.toList, List.cons_append, List.nil_append]
  refine v_iload_n (i := 2) (q := 22) hC dX11_belongs_21 rfl rfl rfl ?_
  refine v_callS (q := 25) (rm := rm_X11_has) hC (c_X11_has hl Θ _ _ _) k_X11_has st_yX11_has ml_RX11_302 dX11_belongs_22 rfl  rfl rfl (Nat.le_of_ble_eq_true rfl) ⟨Nat.le_of_ble_eq_true rfl, Nat.le_of_ble_eq_true rfl⟩ ⟨Nat.le_of_ble_eq_true rfl, Nat.le_of_ble_eq_true rfl⟩ (fR_k ?_) fR_x (Nat.le_of_ble_eq_true rfl) (Nat.le_of_ble_eq_true rfl)
  try dsimp only [Option.toList, List.cons_append, List.nil_append]
  refine v_iret hC dX11_belongs_25 hr (by first | rfl | exact nar_b) ?_ (Nat.le_of_ble_eq_true rfl) (Nat.le_of_ble_eq_true rfl)
  exact ⟨rfl, rfl⟩
set_option maxHeartbeats 4000000 in
set_option maxRecDepth 20000 in
theorem c_X11_belongsByMembers {l : Launch} (hl : l.stackTraces = false) (Θ : cTH) (u g : Int32) (G : GS) (hg : gOk G) : Ct l yX11_belongsByMembers cX11_belongsByMembers 3 (some .boolean) rm_X11_belongsByMembers Θ [.ref (tR Θ 0 14), .int u, .int g] (G) (gt (jIdx u (G.1 0 1 0)) eX (gt (jIdx g (G.1 0 1 1)) eX (fR (some (.int (b2i (jHas (sUsersIn (G.2.1 0 2) (G.2.1 0 3) (gN G) g) u)))) G) (G)) (G)) := by
  refine ct_of (LS := [some (.ref (tR Θ 0 14)), some (.int u), some (.int g)]) hl (by decide +kernel) rfl (Nat.le_of_ble_eq_true rfl) rfl ?_
  intro p e s m args below meth c hC hr
  refine v_aload_n (i := 0) (q := 1) hC dX11_belongsByMembers_0 rfl rfl rfl ?_
  refine v_iload_n (i := 1) (q := 2) hC dX11_belongsByMembers_1 rfl rfl rfl ?_
  refine v_callV (q := 5) (rm := rm_X11_requireUser) hC (c_X11_requireUser hl Θ _ _) k_X11_requireUser im_yX11_requireUser se_yX11_requireUser ml_RX11_88 dX11_belongsByMembers_2 rfl rfl rfl rfl rfl rfl (Nat.le_of_ble_eq_true rfl) ⟨Nat.le_of_ble_eq_true rfl, Nat.le_of_ble_eq_true rfl⟩ ⟨Nat.le_of_ble_eq_true rfl, Nat.le_of_ble_eq_true rfl⟩ (fG_k (fun r_2 => ?_)) (fG_x (fun z => gt_f z)) (Nat.le_of_ble_eq_true rfl) (Nat.le_of_ble_eq_true rfl)
  try dsimp only [Option.toList, List.cons_append, List.nil_append]
  rw [gt_t r_2]
  refine v_aload_n (i := 0) (q := 6) hC dX11_belongsByMembers_5 rfl rfl rfl ?_
  refine v_iload_n (i := 2) (q := 7) hC dX11_belongsByMembers_6 rfl rfl rfl ?_
  refine v_callV (q := 10) (rm := rm_X11_requireGroup) hC (c_X11_requireGroup hl Θ _ _) k_X11_requireGroup im_yX11_requireGroup se_yX11_requireGroup ml_RX11_92 dX11_belongsByMembers_7 rfl rfl rfl rfl rfl rfl (Nat.le_of_ble_eq_true rfl) ⟨Nat.le_of_ble_eq_true rfl, Nat.le_of_ble_eq_true rfl⟩ ⟨Nat.le_of_ble_eq_true rfl, Nat.le_of_ble_eq_true rfl⟩ (fG_k (fun r_7 => ?_)) (fG_x (fun z => gt_f z)) (Nat.le_of_ble_eq_true rfl) (Nat.le_of_ble_eq_true rfl)
  try dsimp only [Option.toList, List.cons_append, List.nil_append]
  rw [gt_t r_7]
  refine v_aload_n (i := 0) (q := 11) hC dX11_belongsByMembers_10 rfl rfl rfl ?_
  refine g_X11_0 (q := 14) hC dX11_belongsByMembers_11 rfl rfl fl_RX11_10 ?_
  refine g_X9_0 (q := 17) hC dX11_belongsByMembers_14 rfl rfl fl_RX11_55 ?_
  refine v_iload_n (i := 2) (q := 18) hC dX11_belongsByMembers_17 rfl rfl rfl ?_
  refine v_callV (q := 21) (rm := rm_X0_usersIn) hC (c_X0_usersIn hl Θ _ _ (gN G) hg.1 hg.2) k_X0_usersIn im_yX0_usersIn se_yX0_usersIn ml_RX11_305 dX11_belongsByMembers_18 rfl rfl rfl rfl rfl rfl (Nat.le_of_ble_eq_true rfl) ⟨Nat.le_of_ble_eq_true rfl, Nat.le_of_ble_eq_true rfl⟩ ⟨Nat.le_of_ble_eq_true rfl, Nat.le_of_ble_eq_true rfl⟩ (fR_k ?_) fR_x (Nat.le_of_ble_eq_true rfl) (Nat.le_of_ble_eq_true rfl)
  try dsimp only [Option.toList, List.cons_append, List.nil_append]
  refine v_iload_n (i := 1) (q := 22) hC dX11_belongsByMembers_21 rfl rfl rfl ?_
  refine v_callS (q := 25) (rm := rm_X11_has) hC (c_X11_has hl Θ _ _ _) k_X11_has st_yX11_has ml_RX11_302 dX11_belongsByMembers_22 rfl  rfl rfl (Nat.le_of_ble_eq_true rfl) ⟨Nat.le_of_ble_eq_true rfl, Nat.le_of_ble_eq_true rfl⟩ ⟨Nat.le_of_ble_eq_true rfl, Nat.le_of_ble_eq_true rfl⟩ (fR_k ?_) fR_x (Nat.le_of_ble_eq_true rfl) (Nat.le_of_ble_eq_true rfl)
  try dsimp only [Option.toList, List.cons_append, List.nil_append]
  refine v_iret hC dX11_belongsByMembers_25 hr (by first | rfl | exact nar_b) ?_ (Nat.le_of_ble_eq_true rfl) (Nat.le_of_ble_eq_true rfl)
  exact ⟨rfl, rfl⟩
set_option maxHeartbeats 4000000 in
set_option maxRecDepth 20000 in
theorem c_X11_objects {l : Launch} (hl : l.stackTraces = false) (Θ : cTH) (G : GS) : Ct l yX11_objects cX11_objects 1 (some .int) rm_X11_objects Θ [.ref (tR Θ 0 14)] (G) (fR (some (.int (jBc (G.1 0 4 0)))) G) := by
  refine ct_of (LS := [some (.ref (tR Θ 0 14))]) hl (by decide +kernel) rfl (Nat.le_of_ble_eq_true rfl) rfl ?_
  intro p e s m args below meth c hC hr
  refine v_aload_n (i := 0) (q := 1) hC dX11_objects_0 rfl rfl rfl ?_
  refine g_X11_0 (q := 4) hC dX11_objects_1 rfl rfl fl_RX11_10 ?_
  refine g_X9_1 (q := 7) hC dX11_objects_4 rfl rfl fl_RX11_127 ?_
  refine v_callV (q := 10) (rm := rm_X10_count) hC (c_X10_count hl Θ _) k_X10_count im_yX10_count se_yX10_count ml_RX11_159 dX11_objects_7 rfl rfl rfl rfl rfl rfl (Nat.le_of_ble_eq_true rfl) ⟨Nat.le_of_ble_eq_true rfl, Nat.le_of_ble_eq_true rfl⟩ ⟨Nat.le_of_ble_eq_true rfl, Nat.le_of_ble_eq_true rfl⟩ (fR_k ?_) fR_x (Nat.le_of_ble_eq_true rfl) (Nat.le_of_ble_eq_true rfl)
  try dsimp only [Option.toList, List.cons_append, List.nil_append]
  refine v_iret hC dX11_objects_10 hr (rfl) ?_ (Nat.le_of_ble_eq_true rfl) (Nat.le_of_ble_eq_true rfl)
  exact ⟨rfl, rfl⟩
set_option maxHeartbeats 4000000 in
set_option maxRecDepth 20000 in
theorem c_X11_isThere {l : Launch} (hl : l.stackTraces = false) (Θ : cTH) (o : Int32) (G : GS) : Ct l yX11_isThere cX11_isThere 2 (some .boolean) rm_X11_isThere Θ [.ref (tR Θ 0 14), .int o] (G) (fR (some (.int (b2i (tHold (G.1 0 4 0) o)))) G) := by
  refine ct_of (LS := [some (.ref (tR Θ 0 14)), some (.int o)]) hl (by decide +kernel) rfl (Nat.le_of_ble_eq_true rfl) rfl ?_
  intro p e s m args below meth c hC hr
  refine v_aload_n (i := 0) (q := 1) hC dX11_isThere_0 rfl rfl rfl ?_
  refine g_X11_0 (q := 4) hC dX11_isThere_1 rfl rfl fl_RX11_10 ?_
  refine g_X9_1 (q := 7) hC dX11_isThere_4 rfl rfl fl_RX11_127 ?_
  refine v_iload_n (i := 1) (q := 8) hC dX11_isThere_7 rfl rfl rfl ?_
  refine v_callV (q := 11) (rm := rm_X10_holds) hC (c_X10_holds hl Θ _ _) k_X10_holds im_yX10_holds se_yX10_holds ml_RX11_308 dX11_isThere_8 rfl rfl rfl rfl rfl rfl (Nat.le_of_ble_eq_true rfl) ⟨Nat.le_of_ble_eq_true rfl, Nat.le_of_ble_eq_true rfl⟩ ⟨Nat.le_of_ble_eq_true rfl, Nat.le_of_ble_eq_true rfl⟩ (fR_k ?_) fR_x (Nat.le_of_ble_eq_true rfl) (Nat.le_of_ble_eq_true rfl)
  try dsimp only [Option.toList, List.cons_append, List.nil_append]
  refine v_iret hC dX11_isThere_11 hr (by first | rfl | exact nar_b) ?_ (Nat.le_of_ble_eq_true rfl) (Nat.le_of_ble_eq_true rfl)
  exact ⟨rfl, rfl⟩
set_option maxHeartbeats 4000000 in
set_option maxRecDepth 20000 in
theorem c_X11_parentOf {l : Launch} (hl : l.stackTraces = false) (Θ : cTH) (o : Int32) (G : GS) : Ct l yX11_parentOf cX11_parentOf 2 (some .int) rm_X11_parentOf Θ [.ref (tR Θ 0 14), .int o] (G) (gt (tHold (G.1 0 4 0) o) eX (fR (some (.int (tAt (G.1 0 4 0) (G.2.1 0 5) o (-1)))) G) (G)) := by
  refine ct_of (LS := [some (.ref (tR Θ 0 14)), some (.int o)]) hl (by decide +kernel) rfl (Nat.le_of_ble_eq_true rfl) rfl ?_
  intro p e s m args below meth c hC hr
  refine v_aload_n (i := 0) (q := 1) hC dX11_parentOf_0 rfl rfl rfl ?_
  refine v_iload_n (i := 1) (q := 2) hC dX11_parentOf_1 rfl rfl rfl ?_
  refine v_callV (q := 5) (rm := rm_X11_requireObject) hC (c_X11_requireObject hl Θ _ _) k_X11_requireObject im_yX11_requireObject se_yX11_requireObject ml_RX11_124 dX11_parentOf_2 rfl rfl rfl rfl rfl rfl (Nat.le_of_ble_eq_true rfl) ⟨Nat.le_of_ble_eq_true rfl, Nat.le_of_ble_eq_true rfl⟩ ⟨Nat.le_of_ble_eq_true rfl, Nat.le_of_ble_eq_true rfl⟩ (fG_k (fun r_2 => ?_)) (fG_x (fun z => gt_f z)) (Nat.le_of_ble_eq_true rfl) (Nat.le_of_ble_eq_true rfl)
  try dsimp only [Option.toList, List.cons_append, List.nil_append]
  rw [gt_t r_2]
  refine v_aload_n (i := 0) (q := 6) hC dX11_parentOf_5 rfl rfl rfl ?_
  refine g_X11_0 (q := 9) hC dX11_parentOf_6 rfl rfl fl_RX11_10 ?_
  refine g_X9_1 (q := 12) hC dX11_parentOf_9 rfl rfl fl_RX11_127 ?_
  refine v_iload_n (i := 1) (q := 13) hC dX11_parentOf_12 rfl rfl rfl ?_
  refine v_callV (q := 16) (rm := rm_X10_parentAt) hC (c_X10_parentAt hl Θ _ _) k_X10_parentAt im_yX10_parentAt se_yX10_parentAt ml_RX11_167 dX11_parentOf_13 rfl rfl rfl rfl rfl rfl (Nat.le_of_ble_eq_true rfl) ⟨Nat.le_of_ble_eq_true rfl, Nat.le_of_ble_eq_true rfl⟩ ⟨Nat.le_of_ble_eq_true rfl, Nat.le_of_ble_eq_true rfl⟩ (fR_k ?_) fR_x (Nat.le_of_ble_eq_true rfl) (Nat.le_of_ble_eq_true rfl)
  try dsimp only [Option.toList, List.cons_append, List.nil_append]
  refine v_iret hC dX11_parentOf_16 hr (rfl) ?_ (Nat.le_of_ble_eq_true rfl) (Nat.le_of_ble_eq_true rfl)
  exact ⟨rfl, rfl⟩
set_option maxHeartbeats 4000000 in
set_option maxRecDepth 20000 in
theorem c_X11_ownerOf {l : Launch} (hl : l.stackTraces = false) (Θ : cTH) (o : Int32) (G : GS) : Ct l yX11_ownerOf cX11_ownerOf 2 (some .int) rm_X11_ownerOf Θ [.ref (tR Θ 0 14), .int o] (G) (gt (tHold (G.1 0 4 0) o) eX (fR (some (.int (tAt (G.1 0 4 0) (G.2.1 0 6) o (-1)))) G) (G)) := by
  refine ct_of (LS := [some (.ref (tR Θ 0 14)), some (.int o)]) hl (by decide +kernel) rfl (Nat.le_of_ble_eq_true rfl) rfl ?_
  intro p e s m args below meth c hC hr
  refine v_aload_n (i := 0) (q := 1) hC dX11_ownerOf_0 rfl rfl rfl ?_
  refine v_iload_n (i := 1) (q := 2) hC dX11_ownerOf_1 rfl rfl rfl ?_
  refine v_callV (q := 5) (rm := rm_X11_requireObject) hC (c_X11_requireObject hl Θ _ _) k_X11_requireObject im_yX11_requireObject se_yX11_requireObject ml_RX11_124 dX11_ownerOf_2 rfl rfl rfl rfl rfl rfl (Nat.le_of_ble_eq_true rfl) ⟨Nat.le_of_ble_eq_true rfl, Nat.le_of_ble_eq_true rfl⟩ ⟨Nat.le_of_ble_eq_true rfl, Nat.le_of_ble_eq_true rfl⟩ (fG_k (fun r_2 => ?_)) (fG_x (fun z => gt_f z)) (Nat.le_of_ble_eq_true rfl) (Nat.le_of_ble_eq_true rfl)
  try dsimp only [Option.toList, List.cons_append, List.nil_append]
  rw [gt_t r_2]
  refine v_aload_n (i := 0) (q := 6) hC dX11_ownerOf_5 rfl rfl rfl ?_
  refine g_X11_0 (q := 9) hC dX11_ownerOf_6 rfl rfl fl_RX11_10 ?_
  refine g_X9_1 (q := 12) hC dX11_ownerOf_9 rfl rfl fl_RX11_127 ?_
  refine v_iload_n (i := 1) (q := 13) hC dX11_ownerOf_12 rfl rfl rfl ?_
  refine v_callV (q := 16) (rm := rm_X10_ownerAt) hC (c_X10_ownerAt hl Θ _ _) k_X10_ownerAt im_yX10_ownerAt se_yX10_ownerAt ml_RX11_174 dX11_ownerOf_13 rfl rfl rfl rfl rfl rfl (Nat.le_of_ble_eq_true rfl) ⟨Nat.le_of_ble_eq_true rfl, Nat.le_of_ble_eq_true rfl⟩ ⟨Nat.le_of_ble_eq_true rfl, Nat.le_of_ble_eq_true rfl⟩ (fR_k ?_) fR_x (Nat.le_of_ble_eq_true rfl) (Nat.le_of_ble_eq_true rfl)
  try dsimp only [Option.toList, List.cons_append, List.nil_append]
  refine v_iret hC dX11_ownerOf_16 hr (rfl) ?_ (Nat.le_of_ble_eq_true rfl) (Nat.le_of_ble_eq_true rfl)
  exact ⟨rfl, rfl⟩
set_option maxHeartbeats 4000000 in
set_option maxRecDepth 20000 in
theorem c_X11_maskOf {l : Launch} (hl : l.stackTraces = false) (Θ : cTH) (o : Int32) (G : GS) : Ct l yX11_maskOf cX11_maskOf 2 (some .int) rm_X11_maskOf Θ [.ref (tR Θ 0 14), .int o] (G) (gt (tHold (G.1 0 4 0) o) eX (fR (some (.int (tAt (G.1 0 4 0) (G.2.1 0 7) o 0))) G) (G)) := by
  refine ct_of (LS := [some (.ref (tR Θ 0 14)), some (.int o)]) hl (by decide +kernel) rfl (Nat.le_of_ble_eq_true rfl) rfl ?_
  intro p e s m args below meth c hC hr
  refine v_aload_n (i := 0) (q := 1) hC dX11_maskOf_0 rfl rfl rfl ?_
  refine v_iload_n (i := 1) (q := 2) hC dX11_maskOf_1 rfl rfl rfl ?_
  refine v_callV (q := 5) (rm := rm_X11_requireObject) hC (c_X11_requireObject hl Θ _ _) k_X11_requireObject im_yX11_requireObject se_yX11_requireObject ml_RX11_124 dX11_maskOf_2 rfl rfl rfl rfl rfl rfl (Nat.le_of_ble_eq_true rfl) ⟨Nat.le_of_ble_eq_true rfl, Nat.le_of_ble_eq_true rfl⟩ ⟨Nat.le_of_ble_eq_true rfl, Nat.le_of_ble_eq_true rfl⟩ (fG_k (fun r_2 => ?_)) (fG_x (fun z => gt_f z)) (Nat.le_of_ble_eq_true rfl) (Nat.le_of_ble_eq_true rfl)
  try dsimp only [Option.toList, List.cons_append, List.nil_append]
  rw [gt_t r_2]
  refine v_aload_n (i := 0) (q := 6) hC dX11_maskOf_5 rfl rfl rfl ?_
  refine g_X11_0 (q := 9) hC dX11_maskOf_6 rfl rfl fl_RX11_10 ?_
  refine g_X9_1 (q := 12) hC dX11_maskOf_9 rfl rfl fl_RX11_127 ?_
  refine v_iload_n (i := 1) (q := 13) hC dX11_maskOf_12 rfl rfl rfl ?_
  refine v_callV (q := 16) (rm := rm_X10_maskAt) hC (c_X10_maskAt hl Θ _ _) k_X10_maskAt im_yX10_maskAt se_yX10_maskAt ml_RX11_183 dX11_maskOf_13 rfl rfl rfl rfl rfl rfl (Nat.le_of_ble_eq_true rfl) ⟨Nat.le_of_ble_eq_true rfl, Nat.le_of_ble_eq_true rfl⟩ ⟨Nat.le_of_ble_eq_true rfl, Nat.le_of_ble_eq_true rfl⟩ (fR_k ?_) fR_x (Nat.le_of_ble_eq_true rfl) (Nat.le_of_ble_eq_true rfl)
  try dsimp only [Option.toList, List.cons_append, List.nil_append]
  refine v_iret hC dX11_maskOf_16 hr (rfl) ?_ (Nat.le_of_ble_eq_true rfl) (Nat.le_of_ble_eq_true rfl)
  exact ⟨rfl, rfl⟩
set_option maxHeartbeats 4000000 in
set_option maxRecDepth 20000 in
theorem c_X11_isInheriting {l : Launch} (hl : l.stackTraces = false) (Θ : cTH) (o : Int32) (G : GS) : Ct l yX11_isInheriting cX11_isInheriting 2 (some .boolean) rm_X11_isInheriting Θ [.ref (tR Θ 0 14), .int o] (G) (gt (tHold (G.1 0 4 0) o) eX (fR (some (.int (b2i (jHas (G.1 0 4 1) o)))) G) (G)) := by
  refine ct_of (LS := [some (.ref (tR Θ 0 14)), some (.int o)]) hl (by decide +kernel) rfl (Nat.le_of_ble_eq_true rfl) rfl ?_
  intro p e s m args below meth c hC hr
  refine v_aload_n (i := 0) (q := 1) hC dX11_isInheriting_0 rfl rfl rfl ?_
  refine v_iload_n (i := 1) (q := 2) hC dX11_isInheriting_1 rfl rfl rfl ?_
  refine v_callV (q := 5) (rm := rm_X11_requireObject) hC (c_X11_requireObject hl Θ _ _) k_X11_requireObject im_yX11_requireObject se_yX11_requireObject ml_RX11_124 dX11_isInheriting_2 rfl rfl rfl rfl rfl rfl (Nat.le_of_ble_eq_true rfl) ⟨Nat.le_of_ble_eq_true rfl, Nat.le_of_ble_eq_true rfl⟩ ⟨Nat.le_of_ble_eq_true rfl, Nat.le_of_ble_eq_true rfl⟩ (fG_k (fun r_2 => ?_)) (fG_x (fun z => gt_f z)) (Nat.le_of_ble_eq_true rfl) (Nat.le_of_ble_eq_true rfl)
  try dsimp only [Option.toList, List.cons_append, List.nil_append]
  rw [gt_t r_2]
  refine v_aload_n (i := 0) (q := 6) hC dX11_isInheriting_5 rfl rfl rfl ?_
  refine g_X11_0 (q := 9) hC dX11_isInheriting_6 rfl rfl fl_RX11_10 ?_
  refine g_X9_1 (q := 12) hC dX11_isInheriting_9 rfl rfl fl_RX11_127 ?_
  refine v_iload_n (i := 1) (q := 13) hC dX11_isInheriting_12 rfl rfl rfl ?_
  refine v_callV (q := 16) (rm := rm_X10_inherits) hC (c_X10_inherits hl Θ _ _) k_X10_inherits im_yX10_inherits se_yX10_inherits ml_RX11_189 dX11_isInheriting_13 rfl rfl rfl rfl rfl rfl (Nat.le_of_ble_eq_true rfl) ⟨Nat.le_of_ble_eq_true rfl, Nat.le_of_ble_eq_true rfl⟩ ⟨Nat.le_of_ble_eq_true rfl, Nat.le_of_ble_eq_true rfl⟩ (fR_k ?_) fR_x (Nat.le_of_ble_eq_true rfl) (Nat.le_of_ble_eq_true rfl)
  try dsimp only [Option.toList, List.cons_append, List.nil_append]
  refine v_iret hC dX11_isInheriting_16 hr (by first | rfl | exact nar_b) ?_ (Nat.le_of_ble_eq_true rfl) (Nat.le_of_ble_eq_true rfl)
  exact ⟨rfl, rfl⟩
set_option maxHeartbeats 4000000 in
set_option maxRecDepth 20000 in
theorem c_X11_below {l : Launch} (hl : l.stackTraces = false) (Θ : cTH) (o : Int32) (G : GS) : Ct l yX11_below cX11_below 2 (some .int) rm_X11_below Θ [.ref (tR Θ 0 14), .int o] (G) (gt (tHold (G.1 0 4 0) o) eX (fR (some (.int (cUnd (G.1 0 4 0) (G.2.1 0 5) o 20 0 0))) G) (G)) := by
  refine ct_of (LS := [some (.ref (tR Θ 0 14)), some (.int o)]) hl (by decide +kernel) rfl (Nat.le_of_ble_eq_true rfl) rfl ?_
  intro p e s m args below meth c hC hr
  refine v_aload_n (i := 0) (q := 1) hC dX11_below_0 rfl rfl rfl ?_
  refine v_iload_n (i := 1) (q := 2) hC dX11_below_1 rfl rfl rfl ?_
  refine v_callV (q := 5) (rm := rm_X11_requireObject) hC (c_X11_requireObject hl Θ _ _) k_X11_requireObject im_yX11_requireObject se_yX11_requireObject ml_RX11_124 dX11_below_2 rfl rfl rfl rfl rfl rfl (Nat.le_of_ble_eq_true rfl) ⟨Nat.le_of_ble_eq_true rfl, Nat.le_of_ble_eq_true rfl⟩ ⟨Nat.le_of_ble_eq_true rfl, Nat.le_of_ble_eq_true rfl⟩ (fG_k (fun r_2 => ?_)) (fG_x (fun z => gt_f z)) (Nat.le_of_ble_eq_true rfl) (Nat.le_of_ble_eq_true rfl)
  try dsimp only [Option.toList, List.cons_append, List.nil_append]
  rw [gt_t r_2]
  refine v_aload_n (i := 0) (q := 6) hC dX11_below_5 rfl rfl rfl ?_
  refine g_X11_0 (q := 9) hC dX11_below_6 rfl rfl fl_RX11_10 ?_
  refine g_X9_1 (q := 12) hC dX11_below_9 rfl rfl fl_RX11_127 ?_
  refine v_iload_n (i := 1) (q := 13) hC dX11_below_12 rfl rfl rfl ?_
  refine v_callV (q := 16) (rm := rm_X10_countUnder) hC (c_X10_countUnder hl Θ _ _) k_X10_countUnder im_yX10_countUnder se_yX10_countUnder ml_RX11_142 dX11_below_13 rfl rfl rfl rfl rfl rfl (Nat.le_of_ble_eq_true rfl) ⟨Nat.le_of_ble_eq_true rfl, Nat.le_of_ble_eq_true rfl⟩ ⟨Nat.le_of_ble_eq_true rfl, Nat.le_of_ble_eq_true rfl⟩ (fR_k ?_) fR_x (Nat.le_of_ble_eq_true rfl) (Nat.le_of_ble_eq_true rfl)
  try dsimp only [Option.toList, List.cons_append, List.nil_append]
  refine v_iret hC dX11_below_16 hr (rfl) ?_ (Nat.le_of_ble_eq_true rfl) (Nat.le_of_ble_eq_true rfl)
  exact ⟨rfl, rfl⟩
set_option maxHeartbeats 4000000 in
set_option maxRecDepth 20000 in
theorem c_X11_entriesOf {l : Launch} (hl : l.stackTraces = false) (Θ : cTH) (o : Int32) (G : GS) : Ct l yX11_entriesOf cX11_entriesOf 2 (some .int) rm_X11_entriesOf Θ [.ref (tR Θ 0 14), .int o] (G) (gt (tHold (G.1 0 4 0) o) eX (fR (some (.int (sCnt (G.2.1 0 9) o))) G) (G)) := by
  refine ct_of (LS := [some (.ref (tR Θ 0 14)), some (.int o)]) hl (by decide +kernel) rfl (Nat.le_of_ble_eq_true rfl) rfl ?_
  intro p e s m args below meth c hC hr
  refine v_aload_n (i := 0) (q := 1) hC dX11_entriesOf_0 rfl rfl rfl ?_
  refine v_iload_n (i := 1) (q := 2) hC dX11_entriesOf_1 rfl rfl rfl ?_
  refine v_callV (q := 5) (rm := rm_X11_requireObject) hC (c_X11_requireObject hl Θ _ _) k_X11_requireObject im_yX11_requireObject se_yX11_requireObject ml_RX11_124 dX11_entriesOf_2 rfl rfl rfl rfl rfl rfl (Nat.le_of_ble_eq_true rfl) ⟨Nat.le_of_ble_eq_true rfl, Nat.le_of_ble_eq_true rfl⟩ ⟨Nat.le_of_ble_eq_true rfl, Nat.le_of_ble_eq_true rfl⟩ (fG_k (fun r_2 => ?_)) (fG_x (fun z => gt_f z)) (Nat.le_of_ble_eq_true rfl) (Nat.le_of_ble_eq_true rfl)
  try dsimp only [Option.toList, List.cons_append, List.nil_append]
  rw [gt_t r_2]
  refine v_aload_n (i := 0) (q := 6) hC dX11_entriesOf_5 rfl rfl rfl ?_
  refine g_X11_0 (q := 9) hC dX11_entriesOf_6 rfl rfl fl_RX11_10 ?_
  refine g_X9_2 (q := 12) hC dX11_entriesOf_9 rfl rfl fl_RX11_150 ?_
  refine v_iload_n (i := 1) (q := 13) hC dX11_entriesOf_12 rfl rfl rfl ?_
  refine v_callV (q := 16) (rm := rm_X6_countAt) hC (c_X6_countAt hl Θ _ _) k_X6_countAt im_yX6_countAt se_yX6_countAt ml_RX11_210 dX11_entriesOf_13 rfl rfl rfl rfl rfl rfl (Nat.le_of_ble_eq_true rfl) ⟨Nat.le_of_ble_eq_true rfl, Nat.le_of_ble_eq_true rfl⟩ ⟨Nat.le_of_ble_eq_true rfl, Nat.le_of_ble_eq_true rfl⟩ (fR_k ?_) fR_x (Nat.le_of_ble_eq_true rfl) (Nat.le_of_ble_eq_true rfl)
  try dsimp only [Option.toList, List.cons_append, List.nil_append]
  refine v_iret hC dX11_entriesOf_16 hr (rfl) ?_ (Nat.le_of_ble_eq_true rfl) (Nat.le_of_ble_eq_true rfl)
  exact ⟨rfl, rfl⟩
set_option maxHeartbeats 4000000 in
set_option maxRecDepth 20000 in
theorem c_X11_isAllowing {l : Launch} (hl : l.stackTraces = false) (Θ : cTH) (o e : Int32) (G : GS) : Ct l yX11_isAllowing cX11_isAllowing 3 (some .boolean) rm_X11_isAllowing Θ [.ref (tR Θ 0 14), .int o, .int e] (G) (gt (tHold (G.1 0 4 0) o && jIdx e (sCnt (G.2.1 0 9) o)) eX (fR (some (.int (b2i (eAllows (sEnt (G.2.1 0 10) o e))))) G) (G)) := by
  refine ct_of (LS := [some (.ref (tR Θ 0 14)), some (.int o), some (.int e)]) hl (by decide +kernel) rfl (Nat.le_of_ble_eq_true rfl) rfl ?_
  intro p e s m args below meth c hC hr
  refine v_aload_n (i := 0) (q := 1) hC dX11_isAllowing_0 rfl rfl rfl ?_
  refine v_iload_n (i := 1) (q := 2) hC dX11_isAllowing_1 rfl rfl rfl ?_
  refine v_iload_n (i := 2) (q := 3) hC dX11_isAllowing_2 rfl rfl rfl ?_
  refine v_callV (q := 6) (rm := rm_X11_requireEntry) hC (c_X11_requireEntry hl Θ _ _ _) k_X11_requireEntry im_yX11_requireEntry se_yX11_requireEntry ml_RX11_203 dX11_isAllowing_3 rfl rfl rfl rfl rfl rfl (Nat.le_of_ble_eq_true rfl) ⟨Nat.le_of_ble_eq_true rfl, Nat.le_of_ble_eq_true rfl⟩ ⟨Nat.le_of_ble_eq_true rfl, Nat.le_of_ble_eq_true rfl⟩ (fG_k (fun r_3 => ?_)) (fG_x (fun z => gt_f z)) (Nat.le_of_ble_eq_true rfl) (Nat.le_of_ble_eq_true rfl)
  try dsimp only [Option.toList, List.cons_append, List.nil_append]
  rw [gt_t r_3]
  refine v_aload_n (i := 0) (q := 7) hC dX11_isAllowing_6 rfl rfl rfl ?_
  refine g_X11_0 (q := 10) hC dX11_isAllowing_7 rfl rfl fl_RX11_10 ?_
  refine g_X9_2 (q := 13) hC dX11_isAllowing_10 rfl rfl fl_RX11_150 ?_
  refine v_iload_n (i := 1) (q := 14) hC dX11_isAllowing_13 rfl rfl rfl ?_
  refine v_iload_n (i := 2) (q := 15) hC dX11_isAllowing_14 rfl rfl rfl ?_
  refine v_callV (q := 18) (rm := rm_X6_entryAt) hC (c_X6_entryAt hl Θ _ _ _) k_X6_entryAt im_yX6_entryAt se_yX6_entryAt ml_RX11_311 dX11_isAllowing_15 rfl rfl rfl rfl rfl rfl (Nat.le_of_ble_eq_true rfl) ⟨Nat.le_of_ble_eq_true rfl, Nat.le_of_ble_eq_true rfl⟩ ⟨Nat.le_of_ble_eq_true rfl, Nat.le_of_ble_eq_true rfl⟩ (fR_k ?_) fR_x (Nat.le_of_ble_eq_true rfl) (Nat.le_of_ble_eq_true rfl)
  try dsimp only [Option.toList, List.cons_append, List.nil_append]
  refine v_callS (q := 21) (rm := rm_X1_allows) hC (c_X1_allows hl Θ _ _) k_X1_allows st_yX1_allows ml_RX11_313 dX11_isAllowing_18 rfl  rfl rfl (Nat.le_of_ble_eq_true rfl) ⟨Nat.le_of_ble_eq_true rfl, Nat.le_of_ble_eq_true rfl⟩ ⟨Nat.le_of_ble_eq_true rfl, Nat.le_of_ble_eq_true rfl⟩ (fR_k ?_) fR_x (Nat.le_of_ble_eq_true rfl) (Nat.le_of_ble_eq_true rfl)
  try dsimp only [Option.toList, List.cons_append, List.nil_append]
  refine v_iret hC dX11_isAllowing_21 hr (by first | rfl | exact nar_b) ?_ (Nat.le_of_ble_eq_true rfl) (Nat.le_of_ble_eq_true rfl)
  exact ⟨rfl, rfl⟩
set_option maxHeartbeats 4000000 in
set_option maxRecDepth 20000 in
theorem c_X11_rightsOfEntry {l : Launch} (hl : l.stackTraces = false) (Θ : cTH) (o e : Int32) (G : GS) : Ct l yX11_rightsOfEntry cX11_rightsOfEntry 3 (some .int) rm_X11_rightsOfEntry Θ [.ref (tR Θ 0 14), .int o, .int e] (G) (gt (tHold (G.1 0 4 0) o && jIdx e (sCnt (G.2.1 0 9) o)) eX (fR (some (.int (eRights (sEnt (G.2.1 0 10) o e)))) G) (G)) := by
  refine ct_of (LS := [some (.ref (tR Θ 0 14)), some (.int o), some (.int e)]) hl (by decide +kernel) rfl (Nat.le_of_ble_eq_true rfl) rfl ?_
  intro p e s m args below meth c hC hr
  refine v_aload_n (i := 0) (q := 1) hC dX11_rightsOfEntry_0 rfl rfl rfl ?_
  refine v_iload_n (i := 1) (q := 2) hC dX11_rightsOfEntry_1 rfl rfl rfl ?_
  refine v_iload_n (i := 2) (q := 3) hC dX11_rightsOfEntry_2 rfl rfl rfl ?_
  refine v_callV (q := 6) (rm := rm_X11_requireEntry) hC (c_X11_requireEntry hl Θ _ _ _) k_X11_requireEntry im_yX11_requireEntry se_yX11_requireEntry ml_RX11_203 dX11_rightsOfEntry_3 rfl rfl rfl rfl rfl rfl (Nat.le_of_ble_eq_true rfl) ⟨Nat.le_of_ble_eq_true rfl, Nat.le_of_ble_eq_true rfl⟩ ⟨Nat.le_of_ble_eq_true rfl, Nat.le_of_ble_eq_true rfl⟩ (fG_k (fun r_3 => ?_)) (fG_x (fun z => gt_f z)) (Nat.le_of_ble_eq_true rfl) (Nat.le_of_ble_eq_true rfl)
  try dsimp only [Option.toList, List.cons_append, List.nil_append]
  rw [gt_t r_3]
  refine v_aload_n (i := 0) (q := 7) hC dX11_rightsOfEntry_6 rfl rfl rfl ?_
  refine g_X11_0 (q := 10) hC dX11_rightsOfEntry_7 rfl rfl fl_RX11_10 ?_
  refine g_X9_2 (q := 13) hC dX11_rightsOfEntry_10 rfl rfl fl_RX11_150 ?_
  refine v_iload_n (i := 1) (q := 14) hC dX11_rightsOfEntry_13 rfl rfl rfl ?_
  refine v_iload_n (i := 2) (q := 15) hC dX11_rightsOfEntry_14 rfl rfl rfl ?_
  refine v_callV (q := 18) (rm := rm_X6_entryAt) hC (c_X6_entryAt hl Θ _ _ _) k_X6_entryAt im_yX6_entryAt se_yX6_entryAt ml_RX11_311 dX11_rightsOfEntry_15 rfl rfl rfl rfl rfl rfl (Nat.le_of_ble_eq_true rfl) ⟨Nat.le_of_ble_eq_true rfl, Nat.le_of_ble_eq_true rfl⟩ ⟨Nat.le_of_ble_eq_true rfl, Nat.le_of_ble_eq_true rfl⟩ (fR_k ?_) fR_x (Nat.le_of_ble_eq_true rfl) (Nat.le_of_ble_eq_true rfl)
  try dsimp only [Option.toList, List.cons_append, List.nil_append]
  refine v_callS (q := 21) (rm := rm_X1_rights) hC (c_X1_rights hl Θ _ _) k_X1_rights st_yX1_rights ml_RX11_316 dX11_rightsOfEntry_18 rfl  rfl rfl (Nat.le_of_ble_eq_true rfl) ⟨Nat.le_of_ble_eq_true rfl, Nat.le_of_ble_eq_true rfl⟩ ⟨Nat.le_of_ble_eq_true rfl, Nat.le_of_ble_eq_true rfl⟩ (fR_k ?_) fR_x (Nat.le_of_ble_eq_true rfl) (Nat.le_of_ble_eq_true rfl)
  try dsimp only [Option.toList, List.cons_append, List.nil_append]
  refine v_iret hC dX11_rightsOfEntry_21 hr (rfl) ?_ (Nat.le_of_ble_eq_true rfl) (Nat.le_of_ble_eq_true rfl)
  exact ⟨rfl, rfl⟩
set_option maxHeartbeats 4000000 in
set_option maxRecDepth 20000 in
theorem c_X11_isForBelow {l : Launch} (hl : l.stackTraces = false) (Θ : cTH) (o e : Int32) (G : GS) : Ct l yX11_isForBelow cX11_isForBelow 3 (some .boolean) rm_X11_isForBelow Θ [.ref (tR Θ 0 14), .int o, .int e] (G) (gt (tHold (G.1 0 4 0) o && jIdx e (sCnt (G.2.1 0 9) o)) eX (fR (some (.int (b2i (eBelow (sEnt (G.2.1 0 10) o e))))) G) (G)) := by
  refine ct_of (LS := [some (.ref (tR Θ 0 14)), some (.int o), some (.int e)]) hl (by decide +kernel) rfl (Nat.le_of_ble_eq_true rfl) rfl ?_
  intro p e s m args below meth c hC hr
  refine v_aload_n (i := 0) (q := 1) hC dX11_isForBelow_0 rfl rfl rfl ?_
  refine v_iload_n (i := 1) (q := 2) hC dX11_isForBelow_1 rfl rfl rfl ?_
  refine v_iload_n (i := 2) (q := 3) hC dX11_isForBelow_2 rfl rfl rfl ?_
  refine v_callV (q := 6) (rm := rm_X11_requireEntry) hC (c_X11_requireEntry hl Θ _ _ _) k_X11_requireEntry im_yX11_requireEntry se_yX11_requireEntry ml_RX11_203 dX11_isForBelow_3 rfl rfl rfl rfl rfl rfl (Nat.le_of_ble_eq_true rfl) ⟨Nat.le_of_ble_eq_true rfl, Nat.le_of_ble_eq_true rfl⟩ ⟨Nat.le_of_ble_eq_true rfl, Nat.le_of_ble_eq_true rfl⟩ (fG_k (fun r_3 => ?_)) (fG_x (fun z => gt_f z)) (Nat.le_of_ble_eq_true rfl) (Nat.le_of_ble_eq_true rfl)
  try dsimp only [Option.toList, List.cons_append, List.nil_append]
  rw [gt_t r_3]
  refine v_aload_n (i := 0) (q := 7) hC dX11_isForBelow_6 rfl rfl rfl ?_
  refine g_X11_0 (q := 10) hC dX11_isForBelow_7 rfl rfl fl_RX11_10 ?_
  refine g_X9_2 (q := 13) hC dX11_isForBelow_10 rfl rfl fl_RX11_150 ?_
  refine v_iload_n (i := 1) (q := 14) hC dX11_isForBelow_13 rfl rfl rfl ?_
  refine v_iload_n (i := 2) (q := 15) hC dX11_isForBelow_14 rfl rfl rfl ?_
  refine v_callV (q := 18) (rm := rm_X6_entryAt) hC (c_X6_entryAt hl Θ _ _ _) k_X6_entryAt im_yX6_entryAt se_yX6_entryAt ml_RX11_311 dX11_isForBelow_15 rfl rfl rfl rfl rfl rfl (Nat.le_of_ble_eq_true rfl) ⟨Nat.le_of_ble_eq_true rfl, Nat.le_of_ble_eq_true rfl⟩ ⟨Nat.le_of_ble_eq_true rfl, Nat.le_of_ble_eq_true rfl⟩ (fR_k ?_) fR_x (Nat.le_of_ble_eq_true rfl) (Nat.le_of_ble_eq_true rfl)
  try dsimp only [Option.toList, List.cons_append, List.nil_append]
  refine v_callS (q := 21) (rm := rm_X1_countsBelow) hC (c_X1_countsBelow hl Θ _ _) k_X1_countsBelow st_yX1_countsBelow ml_RX11_325 dX11_isForBelow_18 rfl  rfl rfl (Nat.le_of_ble_eq_true rfl) ⟨Nat.le_of_ble_eq_true rfl, Nat.le_of_ble_eq_true rfl⟩ ⟨Nat.le_of_ble_eq_true rfl, Nat.le_of_ble_eq_true rfl⟩ (fR_k ?_) fR_x (Nat.le_of_ble_eq_true rfl) (Nat.le_of_ble_eq_true rfl)
  try dsimp only [Option.toList, List.cons_append, List.nil_append]
  refine v_iret hC dX11_isForBelow_21 hr (by first | rfl | exact nar_b) ?_ (Nat.le_of_ble_eq_true rfl) (Nat.le_of_ble_eq_true rfl)
  exact ⟨rfl, rfl⟩
set_option maxHeartbeats 4000000 in
set_option maxRecDepth 20000 in
theorem c_X11_userOfEntry {l : Launch} (hl : l.stackTraces = false) (Θ : cTH) (o e : Int32) (G : GS) : Ct l yX11_userOfEntry cX11_userOfEntry 4 (some .int) rm_X11_userOfEntry Θ [.ref (tR Θ 0 14), .int o, .int e] (G) (gt (tHold (G.1 0 4 0) o && jIdx e (sCnt (G.2.1 0 9) o)) eX (fR (some (.int (if eKind (sEnt (G.2.1 0 10) o e) = 0 then eNum (sEnt (G.2.1 0 10) o e) else -1))) G) (G)) := by
  refine ct_of (LS := [some (.ref (tR Θ 0 14)), some (.int o), some (.int e), none]) hl (by decide +kernel) rfl (Nat.le_of_ble_eq_true rfl) rfl ?_
  intro p e s m args below meth c hC hr
  refine v_aload_n (i := 0) (q := 1) hC dX11_userOfEntry_0 rfl rfl rfl ?_
  refine v_iload_n (i := 1) (q := 2) hC dX11_userOfEntry_1 rfl rfl rfl ?_
  refine v_iload_n (i := 2) (q := 3) hC dX11_userOfEntry_2 rfl rfl rfl ?_
  refine v_callV (q := 6) (rm := rm_X11_requireEntry) hC (c_X11_requireEntry hl Θ _ _ _) k_X11_requireEntry im_yX11_requireEntry se_yX11_requireEntry ml_RX11_203 dX11_userOfEntry_3 rfl rfl rfl rfl rfl rfl (Nat.le_of_ble_eq_true rfl) ⟨Nat.le_of_ble_eq_true rfl, Nat.le_of_ble_eq_true rfl⟩ ⟨Nat.le_of_ble_eq_true rfl, Nat.le_of_ble_eq_true rfl⟩ (fG_k (fun r_3 => ?_)) (fG_x (fun z => gt_f z)) (Nat.le_of_ble_eq_true rfl) (Nat.le_of_ble_eq_true rfl)
  try dsimp only [Option.toList, List.cons_append, List.nil_append]
  rw [gt_t r_3]
  refine v_aload_n (i := 0) (q := 7) hC dX11_userOfEntry_6 rfl rfl rfl ?_
  refine g_X11_0 (q := 10) hC dX11_userOfEntry_7 rfl rfl fl_RX11_10 ?_
  refine g_X9_2 (q := 13) hC dX11_userOfEntry_10 rfl rfl fl_RX11_150 ?_
  refine v_iload_n (i := 1) (q := 14) hC dX11_userOfEntry_13 rfl rfl rfl ?_
  refine v_iload_n (i := 2) (q := 15) hC dX11_userOfEntry_14 rfl rfl rfl ?_
  refine v_callV (q := 18) (rm := rm_X6_entryAt) hC (c_X6_entryAt hl Θ _ _ _) k_X6_entryAt im_yX6_entryAt se_yX6_entryAt ml_RX11_311 dX11_userOfEntry_15 rfl rfl rfl rfl rfl rfl (Nat.le_of_ble_eq_true rfl) ⟨Nat.le_of_ble_eq_true rfl, Nat.le_of_ble_eq_true rfl⟩ ⟨Nat.le_of_ble_eq_true rfl, Nat.le_of_ble_eq_true rfl⟩ (fR_k ?_) fR_x (Nat.le_of_ble_eq_true rfl) (Nat.le_of_ble_eq_true rfl)
  try dsimp only [Option.toList, List.cons_append, List.nil_append]
  refine v_istore_n (i := 3) (q := 19) hC dX11_userOfEntry_18 rfl rfl (lvc rfl) (Nat.le_of_ble_eq_true rfl) (Nat.le_of_ble_eq_true rfl) rfl ?_
  refine v_iload_n (i := 3) (q := 20) hC dX11_userOfEntry_19 rfl rfl rfl ?_
  refine v_callS (q := 23) (rm := rm_X1_kind) hC (c_X1_kind hl Θ _ _) k_X1_kind st_yX1_kind ml_RX11_319 dX11_userOfEntry_20 rfl  rfl rfl (Nat.le_of_ble_eq_true rfl) ⟨Nat.le_of_ble_eq_true rfl, Nat.le_of_ble_eq_true rfl⟩ ⟨Nat.le_of_ble_eq_true rfl, Nat.le_of_ble_eq_true rfl⟩ (fR_k ?_) fR_x (Nat.le_of_ble_eq_true rfl) (Nat.le_of_ble_eq_true rfl)
  try dsimp only [Option.toList, List.cons_append, List.nil_append]
  refine v_if_ne (q := 33) (q2 := 26) hC dX11_userOfEntry_23 (by decide) rfl (fun c_23 => ?_) (fun c_23 => ?_)
  · refine v_iconst (q := 34) (v := (-1)) hC dX11_userOfEntry_33 rfl (by decide) ?_
    refine v_iret hC dX11_userOfEntry_34 hr (rfl) ?_ (Nat.le_of_ble_eq_true rfl) (Nat.le_of_ble_eq_true rfl)
    refine ⟨?_, rfl⟩
    first | (rw [if_pos c_23]) | (rw [if_neg c_23])
  · refine v_iload_n (i := 3) (q := 27) hC dX11_userOfEntry_26 rfl rfl rfl ?_
    refine v_callS (q := 30) (rm := rm_X1_number) hC (c_X1_number hl Θ _ _) k_X1_number st_yX1_number ml_RX11_322 dX11_userOfEntry_27 rfl  rfl rfl (Nat.le_of_ble_eq_true rfl) ⟨Nat.le_of_ble_eq_true rfl, Nat.le_of_ble_eq_true rfl⟩ ⟨Nat.le_of_ble_eq_true rfl, Nat.le_of_ble_eq_true rfl⟩ (fR_k ?_) fR_x (Nat.le_of_ble_eq_true rfl) (Nat.le_of_ble_eq_true rfl)
    try dsimp only [Option.toList, List.cons_append, List.nil_append]
    refine v_goto (q := 34) hC dX11_userOfEntry_30 (by decide) ?_
    refine v_iret hC dX11_userOfEntry_34 hr (rfl) ?_ (Nat.le_of_ble_eq_true rfl) (Nat.le_of_ble_eq_true rfl)
    refine ⟨?_, rfl⟩
    first | (rw [if_pos c_23]) | (rw [if_neg c_23])
set_option maxHeartbeats 4000000 in
set_option maxRecDepth 20000 in
theorem c_X11_groupOfEntry {l : Launch} (hl : l.stackTraces = false) (Θ : cTH) (o e : Int32) (G : GS) : Ct l yX11_groupOfEntry cX11_groupOfEntry 4 (some .int) rm_X11_groupOfEntry Θ [.ref (tR Θ 0 14), .int o, .int e] (G) (gt (tHold (G.1 0 4 0) o && jIdx e (sCnt (G.2.1 0 9) o)) eX (fR (some (.int (if eKind (sEnt (G.2.1 0 10) o e) = 1 then eNum (sEnt (G.2.1 0 10) o e) else -1))) G) (G)) := by
  refine ct_of (LS := [some (.ref (tR Θ 0 14)), some (.int o), some (.int e), none]) hl (by decide +kernel) rfl (Nat.le_of_ble_eq_true rfl) rfl ?_
  intro p e s m args below meth c hC hr
  refine v_aload_n (i := 0) (q := 1) hC dX11_groupOfEntry_0 rfl rfl rfl ?_
  refine v_iload_n (i := 1) (q := 2) hC dX11_groupOfEntry_1 rfl rfl rfl ?_
  refine v_iload_n (i := 2) (q := 3) hC dX11_groupOfEntry_2 rfl rfl rfl ?_
  refine v_callV (q := 6) (rm := rm_X11_requireEntry) hC (c_X11_requireEntry hl Θ _ _ _) k_X11_requireEntry im_yX11_requireEntry se_yX11_requireEntry ml_RX11_203 dX11_groupOfEntry_3 rfl rfl rfl rfl rfl rfl (Nat.le_of_ble_eq_true rfl) ⟨Nat.le_of_ble_eq_true rfl, Nat.le_of_ble_eq_true rfl⟩ ⟨Nat.le_of_ble_eq_true rfl, Nat.le_of_ble_eq_true rfl⟩ (fG_k (fun r_3 => ?_)) (fG_x (fun z => gt_f z)) (Nat.le_of_ble_eq_true rfl) (Nat.le_of_ble_eq_true rfl)
  try dsimp only [Option.toList, List.cons_append, List.nil_append]
  rw [gt_t r_3]
  refine v_aload_n (i := 0) (q := 7) hC dX11_groupOfEntry_6 rfl rfl rfl ?_
  refine g_X11_0 (q := 10) hC dX11_groupOfEntry_7 rfl rfl fl_RX11_10 ?_
  refine g_X9_2 (q := 13) hC dX11_groupOfEntry_10 rfl rfl fl_RX11_150 ?_
  refine v_iload_n (i := 1) (q := 14) hC dX11_groupOfEntry_13 rfl rfl rfl ?_
  refine v_iload_n (i := 2) (q := 15) hC dX11_groupOfEntry_14 rfl rfl rfl ?_
  refine v_callV (q := 18) (rm := rm_X6_entryAt) hC (c_X6_entryAt hl Θ _ _ _) k_X6_entryAt im_yX6_entryAt se_yX6_entryAt ml_RX11_311 dX11_groupOfEntry_15 rfl rfl rfl rfl rfl rfl (Nat.le_of_ble_eq_true rfl) ⟨Nat.le_of_ble_eq_true rfl, Nat.le_of_ble_eq_true rfl⟩ ⟨Nat.le_of_ble_eq_true rfl, Nat.le_of_ble_eq_true rfl⟩ (fR_k ?_) fR_x (Nat.le_of_ble_eq_true rfl) (Nat.le_of_ble_eq_true rfl)
  try dsimp only [Option.toList, List.cons_append, List.nil_append]
  refine v_istore_n (i := 3) (q := 19) hC dX11_groupOfEntry_18 rfl rfl (lvc rfl) (Nat.le_of_ble_eq_true rfl) (Nat.le_of_ble_eq_true rfl) rfl ?_
  refine v_iload_n (i := 3) (q := 20) hC dX11_groupOfEntry_19 rfl rfl rfl ?_
  refine v_callS (q := 23) (rm := rm_X1_kind) hC (c_X1_kind hl Θ _ _) k_X1_kind st_yX1_kind ml_RX11_319 dX11_groupOfEntry_20 rfl  rfl rfl (Nat.le_of_ble_eq_true rfl) ⟨Nat.le_of_ble_eq_true rfl, Nat.le_of_ble_eq_true rfl⟩ ⟨Nat.le_of_ble_eq_true rfl, Nat.le_of_ble_eq_true rfl⟩ (fR_k ?_) fR_x (Nat.le_of_ble_eq_true rfl) (Nat.le_of_ble_eq_true rfl)
  try dsimp only [Option.toList, List.cons_append, List.nil_append]
  refine v_iconst (q := 24) (v := 1) hC dX11_groupOfEntry_23 rfl (by decide) ?_
  refine v_icmp_ne (q := 34) (q2 := 27) hC dX11_groupOfEntry_24 (by decide) rfl (fun c_24 => ?_) (fun c_24 => ?_)
  · refine v_iconst (q := 35) (v := (-1)) hC dX11_groupOfEntry_34 rfl (by decide) ?_
    refine v_iret hC dX11_groupOfEntry_35 hr (rfl) ?_ (Nat.le_of_ble_eq_true rfl) (Nat.le_of_ble_eq_true rfl)
    refine ⟨?_, rfl⟩
    first | (rw [if_pos c_24]) | (rw [if_neg c_24])
  · refine v_iload_n (i := 3) (q := 28) hC dX11_groupOfEntry_27 rfl rfl rfl ?_
    refine v_callS (q := 31) (rm := rm_X1_number) hC (c_X1_number hl Θ _ _) k_X1_number st_yX1_number ml_RX11_322 dX11_groupOfEntry_28 rfl  rfl rfl (Nat.le_of_ble_eq_true rfl) ⟨Nat.le_of_ble_eq_true rfl, Nat.le_of_ble_eq_true rfl⟩ ⟨Nat.le_of_ble_eq_true rfl, Nat.le_of_ble_eq_true rfl⟩ (fR_k ?_) fR_x (Nat.le_of_ble_eq_true rfl) (Nat.le_of_ble_eq_true rfl)
    try dsimp only [Option.toList, List.cons_append, List.nil_append]
    refine v_goto (q := 35) hC dX11_groupOfEntry_31 (by decide) ?_
    refine v_iret hC dX11_groupOfEntry_35 hr (rfl) ?_ (Nat.le_of_ble_eq_true rfl) (Nat.le_of_ble_eq_true rfl)
    refine ⟨?_, rfl⟩
    first | (rw [if_pos c_24]) | (rw [if_neg c_24])
set_option maxHeartbeats 4000000 in
set_option maxRecDepth 20000 in
theorem c_X11_isForOwner {l : Launch} (hl : l.stackTraces = false) (Θ : cTH) (o e : Int32) (G : GS) : Ct l yX11_isForOwner cX11_isForOwner 3 (some .boolean) rm_X11_isForOwner Θ [.ref (tR Θ 0 14), .int o, .int e] (G) (gt (tHold (G.1 0 4 0) o && jIdx e (sCnt (G.2.1 0 9) o)) eX (fR (some (.int (b2i (decide (eKind (sEnt (G.2.1 0 10) o e) = 2))))) G) (G)) := by
  refine ct_of (LS := [some (.ref (tR Θ 0 14)), some (.int o), some (.int e)]) hl (by decide +kernel) rfl (Nat.le_of_ble_eq_true rfl) rfl ?_
  intro p e s m args below meth c hC hr
  refine v_aload_n (i := 0) (q := 1) hC dX11_isForOwner_0 rfl rfl rfl ?_
  refine v_iload_n (i := 1) (q := 2) hC dX11_isForOwner_1 rfl rfl rfl ?_
  refine v_iload_n (i := 2) (q := 3) hC dX11_isForOwner_2 rfl rfl rfl ?_
  refine v_callV (q := 6) (rm := rm_X11_requireEntry) hC (c_X11_requireEntry hl Θ _ _ _) k_X11_requireEntry im_yX11_requireEntry se_yX11_requireEntry ml_RX11_203 dX11_isForOwner_3 rfl rfl rfl rfl rfl rfl (Nat.le_of_ble_eq_true rfl) ⟨Nat.le_of_ble_eq_true rfl, Nat.le_of_ble_eq_true rfl⟩ ⟨Nat.le_of_ble_eq_true rfl, Nat.le_of_ble_eq_true rfl⟩ (fG_k (fun r_3 => ?_)) (fG_x (fun z => gt_f z)) (Nat.le_of_ble_eq_true rfl) (Nat.le_of_ble_eq_true rfl)
  try dsimp only [Option.toList, List.cons_append, List.nil_append]
  rw [gt_t r_3]
  refine v_aload_n (i := 0) (q := 7) hC dX11_isForOwner_6 rfl rfl rfl ?_
  refine g_X11_0 (q := 10) hC dX11_isForOwner_7 rfl rfl fl_RX11_10 ?_
  refine g_X9_2 (q := 13) hC dX11_isForOwner_10 rfl rfl fl_RX11_150 ?_
  refine v_iload_n (i := 1) (q := 14) hC dX11_isForOwner_13 rfl rfl rfl ?_
  refine v_iload_n (i := 2) (q := 15) hC dX11_isForOwner_14 rfl rfl rfl ?_
  refine v_callV (q := 18) (rm := rm_X6_entryAt) hC (c_X6_entryAt hl Θ _ _ _) k_X6_entryAt im_yX6_entryAt se_yX6_entryAt ml_RX11_311 dX11_isForOwner_15 rfl rfl rfl rfl rfl rfl (Nat.le_of_ble_eq_true rfl) ⟨Nat.le_of_ble_eq_true rfl, Nat.le_of_ble_eq_true rfl⟩ ⟨Nat.le_of_ble_eq_true rfl, Nat.le_of_ble_eq_true rfl⟩ (fR_k ?_) fR_x (Nat.le_of_ble_eq_true rfl) (Nat.le_of_ble_eq_true rfl)
  try dsimp only [Option.toList, List.cons_append, List.nil_append]
  refine v_callS (q := 21) (rm := rm_X1_kind) hC (c_X1_kind hl Θ _ _) k_X1_kind st_yX1_kind ml_RX11_319 dX11_isForOwner_18 rfl  rfl rfl (Nat.le_of_ble_eq_true rfl) ⟨Nat.le_of_ble_eq_true rfl, Nat.le_of_ble_eq_true rfl⟩ ⟨Nat.le_of_ble_eq_true rfl, Nat.le_of_ble_eq_true rfl⟩ (fR_k ?_) fR_x (Nat.le_of_ble_eq_true rfl) (Nat.le_of_ble_eq_true rfl)
  try dsimp only [Option.toList, List.cons_append, List.nil_append]
  refine v_iconst (q := 22) (v := 2) hC dX11_isForOwner_21 rfl (by decide) ?_
  refine v_icmp_ne (q := 29) (q2 := 25) hC dX11_isForOwner_22 (by decide) rfl (fun c_22 => ?_) (fun c_22 => ?_)
  · refine v_iconst (q := 30) (v := 0) hC dX11_isForOwner_29 rfl (by decide) ?_
    refine v_iret hC dX11_isForOwner_30 hr (by first | rfl | exact nar_b) ?_ (Nat.le_of_ble_eq_true rfl) (Nat.le_of_ble_eq_true rfl)
    refine ⟨?_, rfl⟩
    first | (rw [decide_eq_true c_22]; rfl) | (rw [decide_eq_false c_22]; rfl)
  · refine v_iconst (q := 26) (v := 1) hC dX11_isForOwner_25 rfl (by decide) ?_
    refine v_goto (q := 30) hC dX11_isForOwner_26 (by decide) ?_
    refine v_iret hC dX11_isForOwner_30 hr (by first | rfl | exact nar_b) ?_ (Nat.le_of_ble_eq_true rfl) (Nat.le_of_ble_eq_true rfl)
    refine ⟨?_, rfl⟩
    first | (rw [decide_eq_true c_22]; rfl) | (rw [decide_eq_false c_22]; rfl)
-- what is allowed
set_option maxHeartbeats 4000000 in
set_option maxRecDepth 20000 in
theorem c_X11_isAllowed {l : Launch} (hl : l.stackTraces = false) (Θ : cTH) (u o r : Int32) (G : GS) (hg : gOk G) : Ct l yX11_isAllowed cX11_isAllowed 4 (some .boolean) rm_X11_isAllowed Θ [.ref (tR Θ 0 14), .int u, .int o, .int r] (G) (gt (jIdx u (G.1 0 1 0)) eX (gt (tHold (G.1 0 4 0) o) eX (gt (jIdx r 4) eA (fR (some (.int (b2i (jHas (rAt G u o) r)))) (jA G u o)) (G)) (G)) (G)) := by
  refine ct_of (LS := [some (.ref (tR Θ 0 14)), some (.int u), some (.int o), some (.int r)]) hl (by decide +kernel) rfl (Nat.le_of_ble_eq_true rfl) rfl ?_
  intro p e s m args below meth c hC hr
  refine v_aload_n (i := 0) (q := 1) hC dX11_isAllowed_0 rfl rfl rfl ?_
  refine v_iload_n (i := 1) (q := 2) hC dX11_isAllowed_1 rfl rfl rfl ?_
  refine v_callV (q := 5) (rm := rm_X11_requireUser) hC (c_X11_requireUser hl Θ _ _) k_X11_requireUser im_yX11_requireUser se_yX11_requireUser ml_RX11_88 dX11_isAllowed_2 rfl rfl rfl rfl rfl rfl (Nat.le_of_ble_eq_true rfl) ⟨Nat.le_of_ble_eq_true rfl, Nat.le_of_ble_eq_true rfl⟩ ⟨Nat.le_of_ble_eq_true rfl, Nat.le_of_ble_eq_true rfl⟩ (fG_k (fun r_2 => ?_)) (fG_x (fun z => gt_f z)) (Nat.le_of_ble_eq_true rfl) (Nat.le_of_ble_eq_true rfl)
  try dsimp only [Option.toList, List.cons_append, List.nil_append]
  rw [gt_t r_2]
  refine v_aload_n (i := 0) (q := 6) hC dX11_isAllowed_5 rfl rfl rfl ?_
  refine v_iload_n (i := 2) (q := 7) hC dX11_isAllowed_6 rfl rfl rfl ?_
  refine v_callV (q := 10) (rm := rm_X11_requireObject) hC (c_X11_requireObject hl Θ _ _) k_X11_requireObject im_yX11_requireObject se_yX11_requireObject ml_RX11_124 dX11_isAllowed_7 rfl rfl rfl rfl rfl rfl (Nat.le_of_ble_eq_true rfl) ⟨Nat.le_of_ble_eq_true rfl, Nat.le_of_ble_eq_true rfl⟩ ⟨Nat.le_of_ble_eq_true rfl, Nat.le_of_ble_eq_true rfl⟩ (fG_k (fun r_7 => ?_)) (fG_x (fun z => gt_f z)) (Nat.le_of_ble_eq_true rfl) (Nat.le_of_ble_eq_true rfl)
  try dsimp only [Option.toList, List.cons_append, List.nil_append]
  rw [gt_t r_7]
  refine v_aload_n (i := 0) (q := 11) hC dX11_isAllowed_10 rfl rfl rfl ?_
  refine v_iload_n (i := 3) (q := 12) hC dX11_isAllowed_11 rfl rfl rfl ?_
  refine v_callV (q := 15) (rm := rm_X11_requireRight) hC (c_X11_requireRight hl Θ _ _) k_X11_requireRight im_yX11_requireRight se_yX11_requireRight ml_RX11_223 dX11_isAllowed_12 rfl rfl rfl rfl rfl rfl (Nat.le_of_ble_eq_true rfl) ⟨Nat.le_of_ble_eq_true rfl, Nat.le_of_ble_eq_true rfl⟩ ⟨Nat.le_of_ble_eq_true rfl, Nat.le_of_ble_eq_true rfl⟩ (fG_k (fun r_12 => ?_)) (fG_x (fun z => gt_f z)) (Nat.le_of_ble_eq_true rfl) (Nat.le_of_ble_eq_true rfl)
  try dsimp only [Option.toList, List.cons_append, List.nil_append]
  rw [gt_t r_12]
  refine v_aload_n (i := 0) (q := 16) hC dX11_isAllowed_15 rfl rfl rfl ?_
  refine g_X11_3 (q := 19) hC dX11_isAllowed_16 rfl rfl fl_RX11_30 ?_
  refine v_aload_n (i := 0) (q := 20) hC dX11_isAllowed_19 rfl rfl rfl ?_
  refine g_X11_0 (q := 23) hC dX11_isAllowed_20 rfl rfl fl_RX11_10 ?_
  refine v_iload_n (i := 1) (q := 24) hC dX11_isAllowed_23 rfl rfl rfl ?_
  refine v_iload_n (i := 2) (q := 25) hC dX11_isAllowed_24 rfl rfl rfl ?_
  refine v_iload_n (i := 3) (q := 26) hC dX11_isAllowed_25 rfl rfl rfl ?_
  refine v_callV (q := 29) (rm := rm_X4_grants) hC (cj_grants hl Θ _ _ _ _ hg) k_X4_grants im_yX4_grants se_yX4_grants ml_RX11_226 dX11_isAllowed_26 rfl rfl rfl rfl rfl rfl (Nat.le_of_ble_eq_true rfl) ⟨Nat.le_of_ble_eq_true rfl, Nat.le_of_ble_eq_true rfl⟩ ⟨Nat.le_of_ble_eq_true rfl, Nat.le_of_ble_eq_true rfl⟩ (fR_k ?_) fR_x (Nat.le_of_ble_eq_true rfl) (Nat.le_of_ble_eq_true rfl)
  try dsimp only [Option.toList, List.cons_append, List.nil_append]
  refine v_iret hC dX11_isAllowed_29 hr (by first | rfl | exact nar_b) ?_ (Nat.le_of_ble_eq_true rfl) (Nat.le_of_ble_eq_true rfl)
  exact ⟨rfl, rfl⟩
set_option maxHeartbeats 4000000 in
set_option maxRecDepth 20000 in
theorem c_X11_isAllowedByHandingDown {l : Launch} (hl : l.stackTraces = false) (Θ : cTH) (u o r : Int32) (G : GS) (hg : gOk G) : Ct l yX11_isAllowedByHandingDown cX11_isAllowedByHandingDown 4 (some .boolean) rm_X11_isAllowedByHandingDown Θ [.ref (tR Θ 0 14), .int u, .int o, .int r] (G) (gt (jIdx u (G.1 0 1 0)) eX (gt (tHold (G.1 0 4 0) o) eX (gt (jIdx r 4) eA (fR (some (.int (b2i (hGr G u o r)))) (hP G (hAll G))) (G)) (G)) (G)) := by
  refine ct_of (LS := [some (.ref (tR Θ 0 14)), some (.int u), some (.int o), some (.int r)]) hl (by decide +kernel) rfl (Nat.le_of_ble_eq_true rfl) rfl ?_
  intro p e s m args below meth c hC hr
  refine v_aload_n (i := 0) (q := 1) hC dX11_isAllowedByHandingDown_0 rfl rfl rfl ?_
  refine v_iload_n (i := 1) (q := 2) hC dX11_isAllowedByHandingDown_1 rfl rfl rfl ?_
  refine v_callV (q := 5) (rm := rm_X11_requireUser) hC (c_X11_requireUser hl Θ _ _) k_X11_requireUser im_yX11_requireUser se_yX11_requireUser ml_RX11_88 dX11_isAllowedByHandingDown_2 rfl rfl rfl rfl rfl rfl (Nat.le_of_ble_eq_true rfl) ⟨Nat.le_of_ble_eq_true rfl, Nat.le_of_ble_eq_true rfl⟩ ⟨Nat.le_of_ble_eq_true rfl, Nat.le_of_ble_eq_true rfl⟩ (fG_k (fun r_2 => ?_)) (fG_x (fun z => gt_f z)) (Nat.le_of_ble_eq_true rfl) (Nat.le_of_ble_eq_true rfl)
  try dsimp only [Option.toList, List.cons_append, List.nil_append]
  rw [gt_t r_2]
  refine v_aload_n (i := 0) (q := 6) hC dX11_isAllowedByHandingDown_5 rfl rfl rfl ?_
  refine v_iload_n (i := 2) (q := 7) hC dX11_isAllowedByHandingDown_6 rfl rfl rfl ?_
  refine v_callV (q := 10) (rm := rm_X11_requireObject) hC (c_X11_requireObject hl Θ _ _) k_X11_requireObject im_yX11_requireObject se_yX11_requireObject ml_RX11_124 dX11_isAllowedByHandingDown_7 rfl rfl rfl rfl rfl rfl (Nat.le_of_ble_eq_true rfl) ⟨Nat.le_of_ble_eq_true rfl, Nat.le_of_ble_eq_true rfl⟩ ⟨Nat.le_of_ble_eq_true rfl, Nat.le_of_ble_eq_true rfl⟩ (fG_k (fun r_7 => ?_)) (fG_x (fun z => gt_f z)) (Nat.le_of_ble_eq_true rfl) (Nat.le_of_ble_eq_true rfl)
  try dsimp only [Option.toList, List.cons_append, List.nil_append]
  rw [gt_t r_7]
  refine v_aload_n (i := 0) (q := 11) hC dX11_isAllowedByHandingDown_10 rfl rfl rfl ?_
  refine v_iload_n (i := 3) (q := 12) hC dX11_isAllowedByHandingDown_11 rfl rfl rfl ?_
  refine v_callV (q := 15) (rm := rm_X11_requireRight) hC (c_X11_requireRight hl Θ _ _) k_X11_requireRight im_yX11_requireRight se_yX11_requireRight ml_RX11_223 dX11_isAllowedByHandingDown_12 rfl rfl rfl rfl rfl rfl (Nat.le_of_ble_eq_true rfl) ⟨Nat.le_of_ble_eq_true rfl, Nat.le_of_ble_eq_true rfl⟩ ⟨Nat.le_of_ble_eq_true rfl, Nat.le_of_ble_eq_true rfl⟩ (fG_k (fun r_12 => ?_)) (fG_x (fun z => gt_f z)) (Nat.le_of_ble_eq_true rfl) (Nat.le_of_ble_eq_true rfl)
  try dsimp only [Option.toList, List.cons_append, List.nil_append]
  rw [gt_t r_12]
  refine v_aload_n (i := 0) (q := 16) hC dX11_isAllowedByHandingDown_15 rfl rfl rfl ?_
  refine g_X11_4 (q := 19) hC dX11_isAllowedByHandingDown_16 rfl rfl fl_RX11_37 ?_
  refine v_aload_n (i := 0) (q := 20) hC dX11_isAllowedByHandingDown_19 rfl rfl rfl ?_
  refine g_X11_0 (q := 23) hC dX11_isAllowedByHandingDown_20 rfl rfl fl_RX11_10 ?_
  refine v_iload_n (i := 1) (q := 24) hC dX11_isAllowedByHandingDown_23 rfl rfl rfl ?_
  refine v_iload_n (i := 2) (q := 25) hC dX11_isAllowedByHandingDown_24 rfl rfl rfl ?_
  refine v_iload_n (i := 3) (q := 26) hC dX11_isAllowedByHandingDown_25 rfl rfl rfl ?_
  refine v_callV (q := 29) (rm := rm_X2_grants) hC (c_X2_grants hl Θ _ _ _ _ hg) k_X2_grants im_yX2_grants se_yX2_grants ml_RX11_328 dX11_isAllowedByHandingDown_26 rfl rfl rfl rfl rfl rfl (Nat.le_of_ble_eq_true rfl) ⟨Nat.le_of_ble_eq_true rfl, Nat.le_of_ble_eq_true rfl⟩ ⟨Nat.le_of_ble_eq_true rfl, Nat.le_of_ble_eq_true rfl⟩ (fR_k ?_) fR_x (Nat.le_of_ble_eq_true rfl) (Nat.le_of_ble_eq_true rfl)
  try dsimp only [Option.toList, List.cons_append, List.nil_append]
  refine v_iret hC dX11_isAllowedByHandingDown_29 hr (by first | rfl | exact nar_b) ?_ (Nat.le_of_ble_eq_true rfl) (Nat.le_of_ble_eq_true rfl)
  exact ⟨rfl, rfl⟩
set_option maxHeartbeats 4000000 in
set_option maxRecDepth 20000 in
theorem c_X11_rightsOf {l : Launch} (hl : l.stackTraces = false) (Θ : cTH) (u o : Int32) (G : GS) (hg : gOk G) : Ct l yX11_rightsOf cX11_rightsOf 3 (some .int) rm_X11_rightsOf Θ [.ref (tR Θ 0 14), .int u, .int o] (G) (gt (jIdx u (G.1 0 1 0)) eX (gt (tHold (G.1 0 4 0) o) eX (fR (some (.int (rAt G u o))) (jA G u o)) (G)) (G)) := by
  refine ct_of (LS := [some (.ref (tR Θ 0 14)), some (.int u), some (.int o)]) hl (by decide +kernel) rfl (Nat.le_of_ble_eq_true rfl) rfl ?_
  intro p e s m args below meth c hC hr
  refine v_aload_n (i := 0) (q := 1) hC dX11_rightsOf_0 rfl rfl rfl ?_
  refine v_iload_n (i := 1) (q := 2) hC dX11_rightsOf_1 rfl rfl rfl ?_
  refine v_callV (q := 5) (rm := rm_X11_requireUser) hC (c_X11_requireUser hl Θ _ _) k_X11_requireUser im_yX11_requireUser se_yX11_requireUser ml_RX11_88 dX11_rightsOf_2 rfl rfl rfl rfl rfl rfl (Nat.le_of_ble_eq_true rfl) ⟨Nat.le_of_ble_eq_true rfl, Nat.le_of_ble_eq_true rfl⟩ ⟨Nat.le_of_ble_eq_true rfl, Nat.le_of_ble_eq_true rfl⟩ (fG_k (fun r_2 => ?_)) (fG_x (fun z => gt_f z)) (Nat.le_of_ble_eq_true rfl) (Nat.le_of_ble_eq_true rfl)
  try dsimp only [Option.toList, List.cons_append, List.nil_append]
  rw [gt_t r_2]
  refine v_aload_n (i := 0) (q := 6) hC dX11_rightsOf_5 rfl rfl rfl ?_
  refine v_iload_n (i := 2) (q := 7) hC dX11_rightsOf_6 rfl rfl rfl ?_
  refine v_callV (q := 10) (rm := rm_X11_requireObject) hC (c_X11_requireObject hl Θ _ _) k_X11_requireObject im_yX11_requireObject se_yX11_requireObject ml_RX11_124 dX11_rightsOf_7 rfl rfl rfl rfl rfl rfl (Nat.le_of_ble_eq_true rfl) ⟨Nat.le_of_ble_eq_true rfl, Nat.le_of_ble_eq_true rfl⟩ ⟨Nat.le_of_ble_eq_true rfl, Nat.le_of_ble_eq_true rfl⟩ (fG_k (fun r_7 => ?_)) (fG_x (fun z => gt_f z)) (Nat.le_of_ble_eq_true rfl) (Nat.le_of_ble_eq_true rfl)
  try dsimp only [Option.toList, List.cons_append, List.nil_append]
  rw [gt_t r_7]
  refine v_aload_n (i := 0) (q := 11) hC dX11_rightsOf_10 rfl rfl rfl ?_
  refine g_X11_3 (q := 14) hC dX11_rightsOf_11 rfl rfl fl_RX11_30 ?_
  refine v_aload_n (i := 0) (q := 15) hC dX11_rightsOf_14 rfl rfl rfl ?_
  refine g_X11_0 (q := 18) hC dX11_rightsOf_15 rfl rfl fl_RX11_10 ?_
  refine v_iload_n (i := 1) (q := 19) hC dX11_rightsOf_18 rfl rfl rfl ?_
  refine v_iload_n (i := 2) (q := 20) hC dX11_rightsOf_19 rfl rfl rfl ?_
  refine v_callV (q := 23) (rm := rm_X4_rightsAt) hC (cj_rightsAt hl Θ _ _ _ hg) k_X4_rightsAt im_yX4_rightsAt se_yX4_rightsAt ml_RX11_239 dX11_rightsOf_20 rfl rfl rfl rfl rfl rfl (Nat.le_of_ble_eq_true rfl) ⟨Nat.le_of_ble_eq_true rfl, Nat.le_of_ble_eq_true rfl⟩ ⟨Nat.le_of_ble_eq_true rfl, Nat.le_of_ble_eq_true rfl⟩ (fR_k ?_) fR_x (Nat.le_of_ble_eq_true rfl) (Nat.le_of_ble_eq_true rfl)
  try dsimp only [Option.toList, List.cons_append, List.nil_append]
  refine v_iret hC dX11_rightsOf_23 hr (rfl) ?_ (Nat.le_of_ble_eq_true rfl) (Nat.le_of_ble_eq_true rfl)
  exact ⟨rfl, rfl⟩
def dPl (G : GS) (u o r : Int32) : Int32 := if jIdx r 4 = true then (dRes G u o).1 r.toNatClampNeg else -1
theorem cj_dPl {l : Launch} (hl : l.stackTraces = false) (Θ : cTH) (u o r : Int32) (G : GS) (hg : gOk G) : Ct l yX4_decidingPlace cX4_decidingPlace 5 (some .int) rm_X4_decidingPlace Θ [.ref (tR Θ 0 18), .ref (tR Θ 0 0), .int u, .int o, .int r] G (fR (some (.int (dPl G u o r))) (jB G u o)) := cj_decidingPlace hl Θ u o r G hg
set_option maxHeartbeats 4000000 in
set_option maxRecDepth 20000 in
theorem c_X11_decidingObject {l : Launch} (hl : l.stackTraces = false) (Θ : cTH) (u o r : Int32) (G : GS) (hg : gOk G) : Ct l yX11_decidingObject cX11_decidingObject 5 (some .int) rm_X11_decidingObject Θ [.ref (tR Θ 0 14), .int u, .int o, .int r] (G) (gt (jIdx u (G.1 0 1 0)) eX (gt (tHold (G.1 0 4 0) o) eX (gt (jIdx r 4) eA (fR (some (.int (if dPl G u o r = -1 then -1 else dPl G u o r / 6))) (jB G u o)) (G)) (G)) (G)) := by
  refine ct_of (LS := [some (.ref (tR Θ 0 14)), some (.int u), some (.int o), some (.int r), none]) hl (by decide +kernel) rfl (Nat.le_of_ble_eq_true rfl) rfl ?_
  intro p e s m args below meth c hC hr
  refine v_aload_n (i := 0) (q := 1) hC dX11_decidingObject_0 rfl rfl rfl ?_
  refine v_iload_n (i := 1) (q := 2) hC dX11_decidingObject_1 rfl rfl rfl ?_
  refine v_callV (q := 5) (rm := rm_X11_requireUser) hC (c_X11_requireUser hl Θ _ _) k_X11_requireUser im_yX11_requireUser se_yX11_requireUser ml_RX11_88 dX11_decidingObject_2 rfl rfl rfl rfl rfl rfl (Nat.le_of_ble_eq_true rfl) ⟨Nat.le_of_ble_eq_true rfl, Nat.le_of_ble_eq_true rfl⟩ ⟨Nat.le_of_ble_eq_true rfl, Nat.le_of_ble_eq_true rfl⟩ (fG_k (fun r_2 => ?_)) (fG_x (fun z => gt_f z)) (Nat.le_of_ble_eq_true rfl) (Nat.le_of_ble_eq_true rfl)
  try dsimp only [Option.toList, List.cons_append, List.nil_append]
  rw [gt_t r_2]
  refine v_aload_n (i := 0) (q := 6) hC dX11_decidingObject_5 rfl rfl rfl ?_
  refine v_iload_n (i := 2) (q := 7) hC dX11_decidingObject_6 rfl rfl rfl ?_
  refine v_callV (q := 10) (rm := rm_X11_requireObject) hC (c_X11_requireObject hl Θ _ _) k_X11_requireObject im_yX11_requireObject se_yX11_requireObject ml_RX11_124 dX11_decidingObject_7 rfl rfl rfl rfl rfl rfl (Nat.le_of_ble_eq_true rfl) ⟨Nat.le_of_ble_eq_true rfl, Nat.le_of_ble_eq_true rfl⟩ ⟨Nat.le_of_ble_eq_true rfl, Nat.le_of_ble_eq_true rfl⟩ (fG_k (fun r_7 => ?_)) (fG_x (fun z => gt_f z)) (Nat.le_of_ble_eq_true rfl) (Nat.le_of_ble_eq_true rfl)
  try dsimp only [Option.toList, List.cons_append, List.nil_append]
  rw [gt_t r_7]
  refine v_aload_n (i := 0) (q := 11) hC dX11_decidingObject_10 rfl rfl rfl ?_
  refine v_iload_n (i := 3) (q := 12) hC dX11_decidingObject_11 rfl rfl rfl ?_
  refine v_callV (q := 15) (rm := rm_X11_requireRight) hC (c_X11_requireRight hl Θ _ _) k_X11_requireRight im_yX11_requireRight se_yX11_requireRight ml_RX11_223 dX11_decidingObject_12 rfl rfl rfl rfl rfl rfl (Nat.le_of_ble_eq_true rfl) ⟨Nat.le_of_ble_eq_true rfl, Nat.le_of_ble_eq_true rfl⟩ ⟨Nat.le_of_ble_eq_true rfl, Nat.le_of_ble_eq_true rfl⟩ (fG_k (fun r_12 => ?_)) (fG_x (fun z => gt_f z)) (Nat.le_of_ble_eq_true rfl) (Nat.le_of_ble_eq_true rfl)
  try dsimp only [Option.toList, List.cons_append, List.nil_append]
  rw [gt_t r_12]
  refine v_aload_n (i := 0) (q := 16) hC dX11_decidingObject_15 rfl rfl rfl ?_
  refine g_X11_3 (q := 19) hC dX11_decidingObject_16 rfl rfl fl_RX11_30 ?_
  refine v_aload_n (i := 0) (q := 20) hC dX11_decidingObject_19 rfl rfl rfl ?_
  refine g_X11_0 (q := 23) hC dX11_decidingObject_20 rfl rfl fl_RX11_10 ?_
  refine v_iload_n (i := 1) (q := 24) hC dX11_decidingObject_23 rfl rfl rfl ?_
  refine v_iload_n (i := 2) (q := 25) hC dX11_decidingObject_24 rfl rfl rfl ?_
  refine v_iload_n (i := 3) (q := 26) hC dX11_decidingObject_25 rfl rfl rfl ?_
  refine v_callV (q := 29) (rm := rm_X4_decidingPlace) hC (cj_dPl hl Θ _ _ _ _ hg) k_X4_decidingPlace im_yX4_decidingPlace se_yX4_decidingPlace ml_RX11_329 dX11_decidingObject_26 rfl rfl rfl rfl rfl rfl (Nat.le_of_ble_eq_true rfl) ⟨Nat.le_of_ble_eq_true rfl, Nat.le_of_ble_eq_true rfl⟩ ⟨Nat.le_of_ble_eq_true rfl, Nat.le_of_ble_eq_true rfl⟩ (fR_k ?_) fR_x (Nat.le_of_ble_eq_true rfl) (Nat.le_of_ble_eq_true rfl)
  try dsimp only [Option.toList, List.cons_append, List.nil_append]
  refine v_istore (q := 31) hC dX11_decidingObject_29 rfl (lvc rfl) (Nat.le_of_ble_eq_true rfl) (Nat.le_of_ble_eq_true rfl) rfl ?_
  refine v_iload (q := 33) hC dX11_decidingObject_31 rfl rfl ?_
  refine v_iconst (q := 34) (v := (-1)) hC dX11_decidingObject_33 rfl (by decide) ?_
  refine v_icmp_ne (q := 41) (q2 := 37) hC dX11_decidingObject_34 (by decide) rfl (fun c_34 => ?_) (fun c_34 => ?_)
  · refine v_iload (q := 43) hC dX11_decidingObject_41 rfl rfl ?_
    refine v_bipush (q := 45) (v := 6) hC dX11_decidingObject_43 rfl (by decide) ?_
    refine v_idiv (q := 46) hC dX11_decidingObject_45 rfl (by decide) ?_
    refine v_iret hC dX11_decidingObject_46 hr (rfl) ?_ (Nat.le_of_ble_eq_true rfl) (Nat.le_of_ble_eq_true rfl)
    refine ⟨?_, rfl⟩
    first | (rw [if_pos c_34]) | (rw [if_neg c_34])
  · refine v_iconst (q := 38) (v := (-1)) hC dX11_decidingObject_37 rfl (by decide) ?_
    refine v_goto (q := 46) hC dX11_decidingObject_38 (by decide) ?_
    refine v_iret hC dX11_decidingObject_46 hr (rfl) ?_ (Nat.le_of_ble_eq_true rfl) (Nat.le_of_ble_eq_true rfl)
    refine ⟨?_, rfl⟩
    first | (rw [if_pos c_34]) | (rw [if_neg c_34])
set_option maxHeartbeats 4000000 in
set_option maxRecDepth 20000 in
theorem c_X11_decidingEntry {l : Launch} (hl : l.stackTraces = false) (Θ : cTH) (u o r : Int32) (G : GS) (hg : gOk G) : Ct l yX11_decidingEntry cX11_decidingEntry 5 (some .int) rm_X11_decidingEntry Θ [.ref (tR Θ 0 14), .int u, .int o, .int r] (G) (gt (jIdx u (G.1 0 1 0)) eX (gt (tHold (G.1 0 4 0) o) eX (gt (jIdx r 4) eA (fR (some (.int (if dPl G u o r = -1 then -1 else dPl G u o r - (dPl G u o r / 6) * 6))) (jB G u o)) (G)) (G)) (G)) := by
  refine ct_of (LS := [some (.ref (tR Θ 0 14)), some (.int u), some (.int o), some (.int r), none]) hl (by decide +kernel) rfl (Nat.le_of_ble_eq_true rfl) rfl ?_
  intro p e s m args below meth c hC hr
  refine v_aload_n (i := 0) (q := 1) hC dX11_decidingEntry_0 rfl rfl rfl ?_
  refine v_iload_n (i := 1) (q := 2) hC dX11_decidingEntry_1 rfl rfl rfl ?_
  refine v_callV (q := 5) (rm := rm_X11_requireUser) hC (c_X11_requireUser hl Θ _ _) k_X11_requireUser im_yX11_requireUser se_yX11_requireUser ml_RX11_88 dX11_decidingEntry_2 rfl rfl rfl rfl rfl rfl (Nat.le_of_ble_eq_true rfl) ⟨Nat.le_of_ble_eq_true rfl, Nat.le_of_ble_eq_true rfl⟩ ⟨Nat.le_of_ble_eq_true rfl, Nat.le_of_ble_eq_true rfl⟩ (fG_k (fun r_2 => ?_)) (fG_x (fun z => gt_f z)) (Nat.le_of_ble_eq_true rfl) (Nat.le_of_ble_eq_true rfl)
  try dsimp only [Option.toList, List.cons_append, List.nil_append]
  rw [gt_t r_2]
  refine v_aload_n (i := 0) (q := 6) hC dX11_decidingEntry_5 rfl rfl rfl ?_
  refine v_iload_n (i := 2) (q := 7) hC dX11_decidingEntry_6 rfl rfl rfl ?_
  refine v_callV (q := 10) (rm := rm_X11_requireObject) hC (c_X11_requireObject hl Θ _ _) k_X11_requireObject im_yX11_requireObject se_yX11_requireObject ml_RX11_124 dX11_decidingEntry_7 rfl rfl rfl rfl rfl rfl (Nat.le_of_ble_eq_true rfl) ⟨Nat.le_of_ble_eq_true rfl, Nat.le_of_ble_eq_true rfl⟩ ⟨Nat.le_of_ble_eq_true rfl, Nat.le_of_ble_eq_true rfl⟩ (fG_k (fun r_7 => ?_)) (fG_x (fun z => gt_f z)) (Nat.le_of_ble_eq_true rfl) (Nat.le_of_ble_eq_true rfl)
  try dsimp only [Option.toList, List.cons_append, List.nil_append]
  rw [gt_t r_7]
  refine v_aload_n (i := 0) (q := 11) hC dX11_decidingEntry_10 rfl rfl rfl ?_
  refine v_iload_n (i := 3) (q := 12) hC dX11_decidingEntry_11 rfl rfl rfl ?_
  refine v_callV (q := 15) (rm := rm_X11_requireRight) hC (c_X11_requireRight hl Θ _ _) k_X11_requireRight im_yX11_requireRight se_yX11_requireRight ml_RX11_223 dX11_decidingEntry_12 rfl rfl rfl rfl rfl rfl (Nat.le_of_ble_eq_true rfl) ⟨Nat.le_of_ble_eq_true rfl, Nat.le_of_ble_eq_true rfl⟩ ⟨Nat.le_of_ble_eq_true rfl, Nat.le_of_ble_eq_true rfl⟩ (fG_k (fun r_12 => ?_)) (fG_x (fun z => gt_f z)) (Nat.le_of_ble_eq_true rfl) (Nat.le_of_ble_eq_true rfl)
  try dsimp only [Option.toList, List.cons_append, List.nil_append]
  rw [gt_t r_12]
  refine v_aload_n (i := 0) (q := 16) hC dX11_decidingEntry_15 rfl rfl rfl ?_
  refine g_X11_3 (q := 19) hC dX11_decidingEntry_16 rfl rfl fl_RX11_30 ?_
  refine v_aload_n (i := 0) (q := 20) hC dX11_decidingEntry_19 rfl rfl rfl ?_
  refine g_X11_0 (q := 23) hC dX11_decidingEntry_20 rfl rfl fl_RX11_10 ?_
  refine v_iload_n (i := 1) (q := 24) hC dX11_decidingEntry_23 rfl rfl rfl ?_
  refine v_iload_n (i := 2) (q := 25) hC dX11_decidingEntry_24 rfl rfl rfl ?_
  refine v_iload_n (i := 3) (q := 26) hC dX11_decidingEntry_25 rfl rfl rfl ?_
  refine v_callV (q := 29) (rm := rm_X4_decidingPlace) hC (cj_dPl hl Θ _ _ _ _ hg) k_X4_decidingPlace im_yX4_decidingPlace se_yX4_decidingPlace ml_RX11_329 dX11_decidingEntry_26 rfl rfl rfl rfl rfl rfl (Nat.le_of_ble_eq_true rfl) ⟨Nat.le_of_ble_eq_true rfl, Nat.le_of_ble_eq_true rfl⟩ ⟨Nat.le_of_ble_eq_true rfl, Nat.le_of_ble_eq_true rfl⟩ (fR_k ?_) fR_x (Nat.le_of_ble_eq_true rfl) (Nat.le_of_ble_eq_true rfl)
  try dsimp only [Option.toList, List.cons_append, List.nil_append]
  refine v_istore (q := 31) hC dX11_decidingEntry_29 rfl (lvc rfl) (Nat.le_of_ble_eq_true rfl) (Nat.le_of_ble_eq_true rfl) rfl ?_
  refine v_iload (q := 33) hC dX11_decidingEntry_31 rfl rfl ?_
  refine v_iconst (q := 34) (v := (-1)) hC dX11_decidingEntry_33 rfl (by decide) ?_
  refine v_icmp_ne (q := 41) (q2 := 37) hC dX11_decidingEntry_34 (by decide) rfl (fun c_34 => ?_) (fun c_34 => ?_)
  · refine v_iload (q := 43) hC dX11_decidingEntry_41 rfl rfl ?_
    refine v_bipush (q := 45) (v := 6) hC dX11_decidingEntry_43 rfl (by decide) ?_
    refine v_irem (q := 46) hC dX11_decidingEntry_45 rfl (by decide) ?_
    refine v_iret hC dX11_decidingEntry_46 hr (rfl) ?_ (Nat.le_of_ble_eq_true rfl) (Nat.le_of_ble_eq_true rfl)
    refine ⟨?_, rfl⟩
    first | (rw [if_pos c_34]) | (rw [if_neg c_34])
  · refine v_iconst (q := 38) (v := (-1)) hC dX11_decidingEntry_37 rfl (by decide) ?_
    refine v_goto (q := 46) hC dX11_decidingEntry_38 (by decide) ?_
    refine v_iret hC dX11_decidingEntry_46 hr (rfl) ?_ (Nat.le_of_ble_eq_true rfl) (Nat.le_of_ble_eq_true rfl)
    refine ⟨?_, rfl⟩
    first | (rw [if_pos c_34]) | (rw [if_neg c_34])
set_option maxHeartbeats 4000000 in
set_option maxRecDepth 20000 in
theorem c_X11_isStoppedByMask {l : Launch} (hl : l.stackTraces = false) (Θ : cTH) (u o r : Int32) (G : GS) (hg : gOk G) : Ct l yX11_isStoppedByMask cX11_isStoppedByMask 4 (some .boolean) rm_X11_isStoppedByMask Θ [.ref (tR Θ 0 14), .int u, .int o, .int r] (G) (gt (jIdx u (G.1 0 1 0)) eX (gt (tHold (G.1 0 4 0) o) eX (gt (jIdx r 4) eA (fR (some (.int (b2i (jStp G u o r)))) (jA G u o)) (G)) (G)) (G)) := by
  refine ct_of (LS := [some (.ref (tR Θ 0 14)), some (.int u), some (.int o), some (.int r)]) hl (by decide +kernel) rfl (Nat.le_of_ble_eq_true rfl) rfl ?_
  intro p e s m args below meth c hC hr
  refine v_aload_n (i := 0) (q := 1) hC dX11_isStoppedByMask_0 rfl rfl rfl ?_
  refine v_iload_n (i := 1) (q := 2) hC dX11_isStoppedByMask_1 rfl rfl rfl ?_
  refine v_callV (q := 5) (rm := rm_X11_requireUser) hC (c_X11_requireUser hl Θ _ _) k_X11_requireUser im_yX11_requireUser se_yX11_requireUser ml_RX11_88 dX11_isStoppedByMask_2 rfl rfl rfl rfl rfl rfl (Nat.le_of_ble_eq_true rfl) ⟨Nat.le_of_ble_eq_true rfl, Nat.le_of_ble_eq_true rfl⟩ ⟨Nat.le_of_ble_eq_true rfl, Nat.le_of_ble_eq_true rfl⟩ (fG_k (fun r_2 => ?_)) (fG_x (fun z => gt_f z)) (Nat.le_of_ble_eq_true rfl) (Nat.le_of_ble_eq_true rfl)
  try dsimp only [Option.toList, List.cons_append, List.nil_append]
  rw [gt_t r_2]
  refine v_aload_n (i := 0) (q := 6) hC dX11_isStoppedByMask_5 rfl rfl rfl ?_
  refine v_iload_n (i := 2) (q := 7) hC dX11_isStoppedByMask_6 rfl rfl rfl ?_
  refine v_callV (q := 10) (rm := rm_X11_requireObject) hC (c_X11_requireObject hl Θ _ _) k_X11_requireObject im_yX11_requireObject se_yX11_requireObject ml_RX11_124 dX11_isStoppedByMask_7 rfl rfl rfl rfl rfl rfl (Nat.le_of_ble_eq_true rfl) ⟨Nat.le_of_ble_eq_true rfl, Nat.le_of_ble_eq_true rfl⟩ ⟨Nat.le_of_ble_eq_true rfl, Nat.le_of_ble_eq_true rfl⟩ (fG_k (fun r_7 => ?_)) (fG_x (fun z => gt_f z)) (Nat.le_of_ble_eq_true rfl) (Nat.le_of_ble_eq_true rfl)
  try dsimp only [Option.toList, List.cons_append, List.nil_append]
  rw [gt_t r_7]
  refine v_aload_n (i := 0) (q := 11) hC dX11_isStoppedByMask_10 rfl rfl rfl ?_
  refine v_iload_n (i := 3) (q := 12) hC dX11_isStoppedByMask_11 rfl rfl rfl ?_
  refine v_callV (q := 15) (rm := rm_X11_requireRight) hC (c_X11_requireRight hl Θ _ _) k_X11_requireRight im_yX11_requireRight se_yX11_requireRight ml_RX11_223 dX11_isStoppedByMask_12 rfl rfl rfl rfl rfl rfl (Nat.le_of_ble_eq_true rfl) ⟨Nat.le_of_ble_eq_true rfl, Nat.le_of_ble_eq_true rfl⟩ ⟨Nat.le_of_ble_eq_true rfl, Nat.le_of_ble_eq_true rfl⟩ (fG_k (fun r_12 => ?_)) (fG_x (fun z => gt_f z)) (Nat.le_of_ble_eq_true rfl) (Nat.le_of_ble_eq_true rfl)
  try dsimp only [Option.toList, List.cons_append, List.nil_append]
  rw [gt_t r_12]
  refine v_aload_n (i := 0) (q := 16) hC dX11_isStoppedByMask_15 rfl rfl rfl ?_
  refine g_X11_3 (q := 19) hC dX11_isStoppedByMask_16 rfl rfl fl_RX11_30 ?_
  refine v_aload_n (i := 0) (q := 20) hC dX11_isStoppedByMask_19 rfl rfl rfl ?_
  refine g_X11_0 (q := 23) hC dX11_isStoppedByMask_20 rfl rfl fl_RX11_10 ?_
  refine v_iload_n (i := 1) (q := 24) hC dX11_isStoppedByMask_23 rfl rfl rfl ?_
  refine v_iload_n (i := 2) (q := 25) hC dX11_isStoppedByMask_24 rfl rfl rfl ?_
  refine v_iload_n (i := 3) (q := 26) hC dX11_isStoppedByMask_25 rfl rfl rfl ?_
  refine v_callV (q := 29) (rm := rm_X4_isStopped) hC (cj_isStopped hl Θ _ _ _ _ hg) k_X4_isStopped im_yX4_isStopped se_yX4_isStopped ml_RX11_333 dX11_isStoppedByMask_26 rfl rfl rfl rfl rfl rfl (Nat.le_of_ble_eq_true rfl) ⟨Nat.le_of_ble_eq_true rfl, Nat.le_of_ble_eq_true rfl⟩ ⟨Nat.le_of_ble_eq_true rfl, Nat.le_of_ble_eq_true rfl⟩ (fR_k ?_) fR_x (Nat.le_of_ble_eq_true rfl) (Nat.le_of_ble_eq_true rfl)
  try dsimp only [Option.toList, List.cons_append, List.nil_append]
  refine v_iret hC dX11_isStoppedByMask_29 hr (by first | rfl | exact nar_b) ?_ (Nat.le_of_ble_eq_true rfl) (Nat.le_of_ble_eq_true rfl)
  exact ⟨rfl, rfl⟩
set_option maxHeartbeats 4000000 in
set_option maxRecDepth 20000 in
theorem c_X11_usersWith {l : Launch} (hl : l.stackTraces = false) (Θ : cTH) (o r : Int32) (G : GS) (hg : gOk G) : Ct l yX11_usersWith cX11_usersWith 3 (some .int) rm_X11_usersWith Θ [.ref (tR Θ 0 14), .int o, .int r] (G) (gt (tHold (G.1 0 4 0) o) eX (gt (jIdx r 4) eA (jQ (some (.int (cuAt G o r))) G) (G)) (G)) := by
  refine ct_of (LS := [some (.ref (tR Θ 0 14)), some (.int o), some (.int r)]) hl (by decide +kernel) rfl (Nat.le_of_ble_eq_true rfl) rfl ?_
  intro p e s m args below meth c hC hr
  refine v_aload_n (i := 0) (q := 1) hC dX11_usersWith_0 rfl rfl rfl ?_
  refine v_iload_n (i := 1) (q := 2) hC dX11_usersWith_1 rfl rfl rfl ?_
  refine v_callV (q := 5) (rm := rm_X11_requireObject) hC (c_X11_requireObject hl Θ _ _) k_X11_requireObject im_yX11_requireObject se_yX11_requireObject ml_RX11_124 dX11_usersWith_2 rfl rfl rfl rfl rfl rfl (Nat.le_of_ble_eq_true rfl) ⟨Nat.le_of_ble_eq_true rfl, Nat.le_of_ble_eq_true rfl⟩ ⟨Nat.le_of_ble_eq_true rfl, Nat.le_of_ble_eq_true rfl⟩ (fG_k (fun r_2 => ?_)) (fG_x (fun z => gt_f z)) (Nat.le_of_ble_eq_true rfl) (Nat.le_of_ble_eq_true rfl)
  try dsimp only [Option.toList, List.cons_append, List.nil_append]
  rw [gt_t r_2]
  refine v_aload_n (i := 0) (q := 6) hC dX11_usersWith_5 rfl rfl rfl ?_
  refine v_iload_n (i := 2) (q := 7) hC dX11_usersWith_6 rfl rfl rfl ?_
  refine v_callV (q := 10) (rm := rm_X11_requireRight) hC (c_X11_requireRight hl Θ _ _) k_X11_requireRight im_yX11_requireRight se_yX11_requireRight ml_RX11_223 dX11_usersWith_7 rfl rfl rfl rfl rfl rfl (Nat.le_of_ble_eq_true rfl) ⟨Nat.le_of_ble_eq_true rfl, Nat.le_of_ble_eq_true rfl⟩ ⟨Nat.le_of_ble_eq_true rfl, Nat.le_of_ble_eq_true rfl⟩ (fG_k (fun r_7 => ?_)) (fG_x (fun z => gt_f z)) (Nat.le_of_ble_eq_true rfl) (Nat.le_of_ble_eq_true rfl)
  try dsimp only [Option.toList, List.cons_append, List.nil_append]
  rw [gt_t r_7]
  refine v_aload_n (i := 0) (q := 11) hC dX11_usersWith_10 rfl rfl rfl ?_
  refine g_X11_3 (q := 14) hC dX11_usersWith_11 rfl rfl fl_RX11_30 ?_
  refine v_aload_n (i := 0) (q := 15) hC dX11_usersWith_14 rfl rfl rfl ?_
  refine g_X11_0 (q := 18) hC dX11_usersWith_15 rfl rfl fl_RX11_10 ?_
  refine v_iload_n (i := 1) (q := 19) hC dX11_usersWith_18 rfl rfl rfl ?_
  refine v_iload_n (i := 2) (q := 20) hC dX11_usersWith_19 rfl rfl rfl ?_
  refine v_callV (q := 23) (rm := rm_X4_countUsers) hC (cj_countUsers hl Θ _ _ _ hg) k_X4_countUsers im_yX4_countUsers se_yX4_countUsers ml_RX11_336 dX11_usersWith_20 rfl rfl rfl rfl rfl rfl (Nat.le_of_ble_eq_true rfl) ⟨Nat.le_of_ble_eq_true rfl, Nat.le_of_ble_eq_true rfl⟩ ⟨Nat.le_of_ble_eq_true rfl, Nat.le_of_ble_eq_true rfl⟩ (jQ_k (fun a1 b1 => ?_)) jQ_x (Nat.le_of_ble_eq_true rfl) (Nat.le_of_ble_eq_true rfl)
  try dsimp only [Option.toList, List.cons_append, List.nil_append]
  refine v_iret hC dX11_usersWith_23 hr (rfl) ?_ (Nat.le_of_ble_eq_true rfl) (Nat.le_of_ble_eq_true rfl)
  exact ⟨rfl, a1, b1, rfl⟩
set_option maxHeartbeats 4000000 in
set_option maxRecDepth 20000 in
theorem c_X11_rightsThrough {l : Launch} (hl : l.stackTraces = false) (Θ : cTH) (u g : Int32) (G : GS) (hg : gOk G) : Ct l yX11_rightsThrough cX11_rightsThrough 3 (some .int) rm_X11_rightsThrough Θ [.ref (tR Θ 0 14), .int u, .int g] (G) (gt (jIdx u (G.1 0 1 0)) eX (gt (jIdx g (G.1 0 1 1)) eX (jQ (some (.int (foldI (ctF G u g) 20 0 0))) G) (G)) (G)) := by
  refine ct_of (LS := [some (.ref (tR Θ 0 14)), some (.int u), some (.int g)]) hl (by decide +kernel) rfl (Nat.le_of_ble_eq_true rfl) rfl ?_
  intro p e s m args below meth c hC hr
  refine v_aload_n (i := 0) (q := 1) hC dX11_rightsThrough_0 rfl rfl rfl ?_
  refine v_iload_n (i := 1) (q := 2) hC dX11_rightsThrough_1 rfl rfl rfl ?_
  refine v_callV (q := 5) (rm := rm_X11_requireUser) hC (c_X11_requireUser hl Θ _ _) k_X11_requireUser im_yX11_requireUser se_yX11_requireUser ml_RX11_88 dX11_rightsThrough_2 rfl rfl rfl rfl rfl rfl (Nat.le_of_ble_eq_true rfl) ⟨Nat.le_of_ble_eq_true rfl, Nat.le_of_ble_eq_true rfl⟩ ⟨Nat.le_of_ble_eq_true rfl, Nat.le_of_ble_eq_true rfl⟩ (fG_k (fun r_2 => ?_)) (fG_x (fun z => gt_f z)) (Nat.le_of_ble_eq_true rfl) (Nat.le_of_ble_eq_true rfl)
  try dsimp only [Option.toList, List.cons_append, List.nil_append]
  rw [gt_t r_2]
  refine v_aload_n (i := 0) (q := 6) hC dX11_rightsThrough_5 rfl rfl rfl ?_
  refine v_iload_n (i := 2) (q := 7) hC dX11_rightsThrough_6 rfl rfl rfl ?_
  refine v_callV (q := 10) (rm := rm_X11_requireGroup) hC (c_X11_requireGroup hl Θ _ _) k_X11_requireGroup im_yX11_requireGroup se_yX11_requireGroup ml_RX11_92 dX11_rightsThrough_7 rfl rfl rfl rfl rfl rfl (Nat.le_of_ble_eq_true rfl) ⟨Nat.le_of_ble_eq_true rfl, Nat.le_of_ble_eq_true rfl⟩ ⟨Nat.le_of_ble_eq_true rfl, Nat.le_of_ble_eq_true rfl⟩ (fG_k (fun r_7 => ?_)) (fG_x (fun z => gt_f z)) (Nat.le_of_ble_eq_true rfl) (Nat.le_of_ble_eq_true rfl)
  try dsimp only [Option.toList, List.cons_append, List.nil_append]
  rw [gt_t r_7]
  refine v_aload_n (i := 0) (q := 11) hC dX11_rightsThrough_10 rfl rfl rfl ?_
  refine g_X11_3 (q := 14) hC dX11_rightsThrough_11 rfl rfl fl_RX11_30 ?_
  refine v_aload_n (i := 0) (q := 15) hC dX11_rightsThrough_14 rfl rfl rfl ?_
  refine g_X11_0 (q := 18) hC dX11_rightsThrough_15 rfl rfl fl_RX11_10 ?_
  refine v_iload_n (i := 1) (q := 19) hC dX11_rightsThrough_18 rfl rfl rfl ?_
  refine v_iload_n (i := 2) (q := 20) hC dX11_rightsThrough_19 rfl rfl rfl ?_
  refine v_callV (q := 23) (rm := rm_X4_countThrough) hC (cj_countThrough hl Θ _ _ _ hg) k_X4_countThrough im_yX4_countThrough se_yX4_countThrough ml_RX11_339 dX11_rightsThrough_20 rfl rfl rfl rfl rfl rfl (Nat.le_of_ble_eq_true rfl) ⟨Nat.le_of_ble_eq_true rfl, Nat.le_of_ble_eq_true rfl⟩ ⟨Nat.le_of_ble_eq_true rfl, Nat.le_of_ble_eq_true rfl⟩ (jQ_k (fun a1 b1 => ?_)) jQ_x (Nat.le_of_ble_eq_true rfl) (Nat.le_of_ble_eq_true rfl)
  try dsimp only [Option.toList, List.cons_append, List.nil_append]
  refine v_iret hC dX11_rightsThrough_23 hr (rfl) ?_ (Nat.le_of_ble_eq_true rfl) (Nat.le_of_ble_eq_true rfl)
  exact ⟨rfl, a1, b1, rfl⟩
set_option maxHeartbeats 4000000 in
set_option maxRecDepth 20000 in
theorem c_X11_allRights {l : Launch} (hl : l.stackTraces = false) (Θ : cTH) (G : GS) (hg : gOk G) : Ct l yX11_allRights cX11_allRights 1 (some .int) rm_X11_allRights Θ [.ref (tR Θ 0 14)] (G) (jQ (some (.int (foldI (caO G) 12 0 0))) G) := by
  refine ct_of (LS := [some (.ref (tR Θ 0 14))]) hl (by decide +kernel) rfl (Nat.le_of_ble_eq_true rfl) rfl ?_
  intro p e s m args below meth c hC hr
  refine v_aload_n (i := 0) (q := 1) hC dX11_allRights_0 rfl rfl rfl ?_
  refine g_X11_3 (q := 4) hC dX11_allRights_1 rfl rfl fl_RX11_30 ?_
  refine v_aload_n (i := 0) (q := 5) hC dX11_allRights_4 rfl rfl rfl ?_
  refine g_X11_0 (q := 8) hC dX11_allRights_5 rfl rfl fl_RX11_10 ?_
  refine v_callV (q := 11) (rm := rm_X4_countAll) hC (cj_countAll hl Θ _ hg) k_X4_countAll im_yX4_countAll se_yX4_countAll ml_RX11_342 dX11_allRights_8 rfl rfl rfl rfl rfl rfl (Nat.le_of_ble_eq_true rfl) ⟨Nat.le_of_ble_eq_true rfl, Nat.le_of_ble_eq_true rfl⟩ ⟨Nat.le_of_ble_eq_true rfl, Nat.le_of_ble_eq_true rfl⟩ (jQ_k (fun a1 b1 => ?_)) jQ_x (Nat.le_of_ble_eq_true rfl) (Nat.le_of_ble_eq_true rfl)
  try dsimp only [Option.toList, List.cons_append, List.nil_append]
  refine v_iret hC dX11_allRights_11 hr (rfl) ?_ (Nat.le_of_ble_eq_true rfl) (Nat.le_of_ble_eq_true rfl)
  exact ⟨rfl, a1, b1, rfl⟩
-- the log
set_option maxHeartbeats 4000000 in
set_option maxRecDepth 20000 in
theorem c_X11_requests {l : Launch} (hl : l.stackTraces = false) (Θ : cTH) (G : GS) : Ct l yX11_requests cX11_requests 1 (some .int) rm_X11_requests Θ [.ref (tR Θ 0 14)] (G) (fR (some (.int (G.1 0 11 0))) G) := by
  refine ct_of (LS := [some (.ref (tR Θ 0 14))]) hl (by decide +kernel) rfl (Nat.le_of_ble_eq_true rfl) rfl ?_
  intro p e s m args below meth c hC hr
  refine v_aload_n (i := 0) (q := 1) hC dX11_requests_0 rfl rfl rfl ?_
  refine g_X11_0 (q := 4) hC dX11_requests_1 rfl rfl fl_RX11_10 ?_
  refine g_X9_3 (q := 7) hC dX11_requests_4 rfl rfl fl_RX11_230 ?_
  refine g_X7_0 (q := 10) hC dX11_requests_7 rfl rfl fl_RX11_345 ?_
  refine v_iret hC dX11_requests_10 hr (rfl) ?_ (Nat.le_of_ble_eq_true rfl) (Nat.le_of_ble_eq_true rfl)
  exact ⟨rfl, rfl⟩
set_option maxHeartbeats 4000000 in
set_option maxRecDepth 20000 in
theorem c_X11_refusals {l : Launch} (hl : l.stackTraces = false) (Θ : cTH) (G : GS) : Ct l yX11_refusals cX11_refusals 1 (some .int) rm_X11_refusals Θ [.ref (tR Θ 0 14)] (G) (fR (some (.int (G.1 0 11 1))) G) := by
  refine ct_of (LS := [some (.ref (tR Θ 0 14))]) hl (by decide +kernel) rfl (Nat.le_of_ble_eq_true rfl) rfl ?_
  intro p e s m args below meth c hC hr
  refine v_aload_n (i := 0) (q := 1) hC dX11_refusals_0 rfl rfl rfl ?_
  refine g_X11_0 (q := 4) hC dX11_refusals_1 rfl rfl fl_RX11_10 ?_
  refine g_X9_3 (q := 7) hC dX11_refusals_4 rfl rfl fl_RX11_230 ?_
  refine g_X7_1 (q := 10) hC dX11_refusals_7 rfl rfl fl_RX11_348 ?_
  refine v_iret hC dX11_refusals_10 hr (rfl) ?_ (Nat.le_of_ble_eq_true rfl) (Nat.le_of_ble_eq_true rfl)
  exact ⟨rfl, rfl⟩
set_option maxHeartbeats 4000000 in
set_option maxRecDepth 20000 in
theorem c_X11_userOfRequest {l : Launch} (hl : l.stackTraces = false) (Θ : cTH) (a : Int32) (G : GS) : Ct l yX11_userOfRequest cX11_userOfRequest 2 (some .int) rm_X11_userOfRequest Θ [.ref (tR Θ 0 14), .int a] (G) (gt (jIdx a (sKept G)) eX (fR (some (.int (G.2.1 0 12 (lPlace (G.1 0 11 0) a).toNatClampNeg))) G) (G)) := by
  refine ct_of (LS := [some (.ref (tR Θ 0 14)), some (.int a)]) hl (by decide +kernel) rfl (Nat.le_of_ble_eq_true rfl) rfl ?_
  intro p e s m args below meth c hC hr
  refine v_aload_n (i := 0) (q := 1) hC dX11_userOfRequest_0 rfl rfl rfl ?_
  refine v_iload_n (i := 1) (q := 2) hC dX11_userOfRequest_1 rfl rfl rfl ?_
  refine v_callV (q := 5) (rm := rm_X11_requireRequest) hC (c_X11_requireRequest hl Θ _ _) k_X11_requireRequest im_yX11_requireRequest se_yX11_requireRequest ml_RX11_351 dX11_userOfRequest_2 rfl rfl rfl rfl rfl rfl (Nat.le_of_ble_eq_true rfl) ⟨Nat.le_of_ble_eq_true rfl, Nat.le_of_ble_eq_true rfl⟩ ⟨Nat.le_of_ble_eq_true rfl, Nat.le_of_ble_eq_true rfl⟩ (fG_k (fun r_2 => ?_)) (fG_x (fun z => gt_f z)) (Nat.le_of_ble_eq_true rfl) (Nat.le_of_ble_eq_true rfl)
  try dsimp only [Option.toList, List.cons_append, List.nil_append]
  rw [gt_t r_2]
  refine v_aload_n (i := 0) (q := 6) hC dX11_userOfRequest_5 rfl rfl rfl ?_
  refine g_X11_0 (q := 9) hC dX11_userOfRequest_6 rfl rfl fl_RX11_10 ?_
  refine g_X9_3 (q := 12) hC dX11_userOfRequest_9 rfl rfl fl_RX11_230 ?_
  refine v_iload_n (i := 1) (q := 13) hC dX11_userOfRequest_12 rfl rfl rfl ?_
  refine v_callV (q := 16) (rm := rm_X7_userAt) hC (c_X7_userAt hl Θ _ _) k_X7_userAt im_yX7_userAt se_yX7_userAt ml_RX11_354 dX11_userOfRequest_13 rfl rfl rfl rfl rfl rfl (Nat.le_of_ble_eq_true rfl) ⟨Nat.le_of_ble_eq_true rfl, Nat.le_of_ble_eq_true rfl⟩ ⟨Nat.le_of_ble_eq_true rfl, Nat.le_of_ble_eq_true rfl⟩ (fR_k ?_) fR_x (Nat.le_of_ble_eq_true rfl) (Nat.le_of_ble_eq_true rfl)
  try dsimp only [Option.toList, List.cons_append, List.nil_append]
  refine v_iret hC dX11_userOfRequest_16 hr (rfl) ?_ (Nat.le_of_ble_eq_true rfl) (Nat.le_of_ble_eq_true rfl)
  exact ⟨rfl, rfl⟩
set_option maxHeartbeats 4000000 in
set_option maxRecDepth 20000 in
theorem c_X11_objectOfRequest {l : Launch} (hl : l.stackTraces = false) (Θ : cTH) (a : Int32) (G : GS) : Ct l yX11_objectOfRequest cX11_objectOfRequest 2 (some .int) rm_X11_objectOfRequest Θ [.ref (tR Θ 0 14), .int a] (G) (gt (jIdx a (sKept G)) eX (fR (some (.int (G.2.1 0 13 (lPlace (G.1 0 11 0) a).toNatClampNeg))) G) (G)) := by
  refine ct_of (LS := [some (.ref (tR Θ 0 14)), some (.int a)]) hl (by decide +kernel) rfl (Nat.le_of_ble_eq_true rfl) rfl ?_
  intro p e s m args below meth c hC hr
  refine v_aload_n (i := 0) (q := 1) hC dX11_objectOfRequest_0 rfl rfl rfl ?_
  refine v_iload_n (i := 1) (q := 2) hC dX11_objectOfRequest_1 rfl rfl rfl ?_
  refine v_callV (q := 5) (rm := rm_X11_requireRequest) hC (c_X11_requireRequest hl Θ _ _) k_X11_requireRequest im_yX11_requireRequest se_yX11_requireRequest ml_RX11_351 dX11_objectOfRequest_2 rfl rfl rfl rfl rfl rfl (Nat.le_of_ble_eq_true rfl) ⟨Nat.le_of_ble_eq_true rfl, Nat.le_of_ble_eq_true rfl⟩ ⟨Nat.le_of_ble_eq_true rfl, Nat.le_of_ble_eq_true rfl⟩ (fG_k (fun r_2 => ?_)) (fG_x (fun z => gt_f z)) (Nat.le_of_ble_eq_true rfl) (Nat.le_of_ble_eq_true rfl)
  try dsimp only [Option.toList, List.cons_append, List.nil_append]
  rw [gt_t r_2]
  refine v_aload_n (i := 0) (q := 6) hC dX11_objectOfRequest_5 rfl rfl rfl ?_
  refine g_X11_0 (q := 9) hC dX11_objectOfRequest_6 rfl rfl fl_RX11_10 ?_
  refine g_X9_3 (q := 12) hC dX11_objectOfRequest_9 rfl rfl fl_RX11_230 ?_
  refine v_iload_n (i := 1) (q := 13) hC dX11_objectOfRequest_12 rfl rfl rfl ?_
  refine v_callV (q := 16) (rm := rm_X7_objectAt) hC (c_X7_objectAt hl Θ _ _) k_X7_objectAt im_yX7_objectAt se_yX7_objectAt ml_RX11_357 dX11_objectOfRequest_13 rfl rfl rfl rfl rfl rfl (Nat.le_of_ble_eq_true rfl) ⟨Nat.le_of_ble_eq_true rfl, Nat.le_of_ble_eq_true rfl⟩ ⟨Nat.le_of_ble_eq_true rfl, Nat.le_of_ble_eq_true rfl⟩ (fR_k ?_) fR_x (Nat.le_of_ble_eq_true rfl) (Nat.le_of_ble_eq_true rfl)
  try dsimp only [Option.toList, List.cons_append, List.nil_append]
  refine v_iret hC dX11_objectOfRequest_16 hr (rfl) ?_ (Nat.le_of_ble_eq_true rfl) (Nat.le_of_ble_eq_true rfl)
  exact ⟨rfl, rfl⟩
set_option maxHeartbeats 4000000 in
set_option maxRecDepth 20000 in
theorem c_X11_wasAllowed {l : Launch} (hl : l.stackTraces = false) (Θ : cTH) (a : Int32) (G : GS) : Ct l yX11_wasAllowed cX11_wasAllowed 2 (some .boolean) rm_X11_wasAllowed Θ [.ref (tR Θ 0 14), .int a] (G) (gt (jIdx a (sKept G)) eX (fR (some (.int (b2i (jHas (G.1 0 11 2) (lPlace (G.1 0 11 0) a))))) G) (G)) := by
  refine ct_of (LS := [some (.ref (tR Θ 0 14)), some (.int a)]) hl (by decide +kernel) rfl (Nat.le_of_ble_eq_true rfl) rfl ?_
  intro p e s m args below meth c hC hr
  refine v_aload_n (i := 0) (q := 1) hC dX11_wasAllowed_0 rfl rfl rfl ?_
  refine v_iload_n (i := 1) (q := 2) hC dX11_wasAllowed_1 rfl rfl rfl ?_
  refine v_callV (q := 5) (rm := rm_X11_requireRequest) hC (c_X11_requireRequest hl Θ _ _) k_X11_requireRequest im_yX11_requireRequest se_yX11_requireRequest ml_RX11_351 dX11_wasAllowed_2 rfl rfl rfl rfl rfl rfl (Nat.le_of_ble_eq_true rfl) ⟨Nat.le_of_ble_eq_true rfl, Nat.le_of_ble_eq_true rfl⟩ ⟨Nat.le_of_ble_eq_true rfl, Nat.le_of_ble_eq_true rfl⟩ (fG_k (fun r_2 => ?_)) (fG_x (fun z => gt_f z)) (Nat.le_of_ble_eq_true rfl) (Nat.le_of_ble_eq_true rfl)
  try dsimp only [Option.toList, List.cons_append, List.nil_append]
  rw [gt_t r_2]
  refine v_aload_n (i := 0) (q := 6) hC dX11_wasAllowed_5 rfl rfl rfl ?_
  refine g_X11_0 (q := 9) hC dX11_wasAllowed_6 rfl rfl fl_RX11_10 ?_
  refine g_X9_3 (q := 12) hC dX11_wasAllowed_9 rfl rfl fl_RX11_230 ?_
  refine v_iload_n (i := 1) (q := 13) hC dX11_wasAllowed_12 rfl rfl rfl ?_
  refine v_callV (q := 16) (rm := rm_X7_wasGranted) hC (c_X7_wasGranted hl Θ _ _) k_X7_wasGranted im_yX7_wasGranted se_yX7_wasGranted ml_RX11_360 dX11_wasAllowed_13 rfl rfl rfl rfl rfl rfl (Nat.le_of_ble_eq_true rfl) ⟨Nat.le_of_ble_eq_true rfl, Nat.le_of_ble_eq_true rfl⟩ ⟨Nat.le_of_ble_eq_true rfl, Nat.le_of_ble_eq_true rfl⟩ (fR_k ?_) fR_x (Nat.le_of_ble_eq_true rfl) (Nat.le_of_ble_eq_true rfl)
  try dsimp only [Option.toList, List.cons_append, List.nil_append]
  refine v_iret hC dX11_wasAllowed_16 hr (by first | rfl | exact nar_b) ?_ (Nat.le_of_ble_eq_true rfl) (Nat.le_of_ble_eq_true rfl)
  exact ⟨rfl, rfl⟩
