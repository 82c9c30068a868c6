/-! PermissionDesk: Lists, the loops of Tree, Log's rest -/
theorem jIdx_nI {i n : Int32} {N : Nat} (h : jIdx i n = true) (hn : n.toInt = N) (hN : N < 2 ^ 31) : ∃ j : Nat, j < N ∧ i = nI j := vp_in_of (jIdx_in h hn) hN
theorem nI_mul (a b : Nat) : nI a * nI b = nI (a * b) := pk_mul a b
theorem idx6_in {o x : Int32} (h1 : jIdx o 20 = true) (h2 : jIdx x 6 = true) : vp_in (o * 6 + x) 120 := by
  obtain ⟨a, ha, rfl⟩ := jIdx_nI h1 (N := 20) rfl (by decide)
  obtain ⟨b, hb, rfl⟩ := jIdx_nI h2 (N := 6) rfl (by decide)
  rw [show (6 : Int32) = nI 6 from rfl, nI_mul, nI_add]
  exact vp_in_nI (by omega) (by omega)
def sCnt (cnt : Nat → Int32) (o : Int32) : Int32 := if jIdx o 20 = true then cnt o.toNatClampNeg else 0
def sEnt (w : Nat → Int32) (o x : Int32) : Int32 := if jIdx o 20 = true ∧ jIdx x 6 = true then w (o * 6 + x).toNatClampNeg else 0
def sSetE (w : Nat → Int32) (o x v : Int32) : Nat → Int32 := if jIdx o 20 = true ∧ jIdx x 6 = true then upd w (o * 6 + x).toNatClampNeg v else w
theorem putA_self (G : GS) (r o : Nat) : putA G r o (G.2.1 r o) = G := by
  unfold putA
  have e : (fun r' o' => if r' = r ∧ o' = o then G.2.1 r o else G.2.1 r' o') = G.2.1 := by
    funext r' o'
    by_cases h : r' = r ∧ o' = o
    · rw [if_pos h, h.1, h.2]
    · rw [if_neg h]
  rw [e]
theorem putA_putA (G : GS) (r o : Nat) (a b : Nat → Int32) : putA (putA G r o a) r o b = putA G r o b := by
  unfold putA
  refine Prod.ext rfl (Prod.ext ?_ rfl)
  funext r' o'
  dsimp only
  by_cases h : r' = r ∧ o' = o
  · rw [if_pos h, if_pos h]
  · rw [if_neg h, if_neg h, if_neg h]
theorem putA_get (G : GS) (r o r' o' : Nat) (a : Nat → Int32) : (putA G r o a).2.1 r' o' = if r' = r ∧ o' = o then a else G.2.1 r' o' := rfl
theorem putA_fld (G : GS) (r o : Nat) (a : Nat → Int32) : (putA G r o a).1 = G.1 := rfl
theorem putF_row (G : GS) (r o k : Nat) (v : Int32) : (putF G r o k v).2 = G.2 := rfl
theorem putF_get (G : GS) (r o k r' o' : Nat) (v : Int32) (k' : Nat) : (putF G r o k v).1 r' o' k' = if r' = r ∧ o' = o ∧ k' = k then v else G.1 r' o' k' := by
  unfold putF
  dsimp only
  by_cases h : r' = r ∧ o' = o
  · obtain ⟨rfl, rfl⟩ := h
    rw [if_pos ⟨rfl, rfl⟩]
    by_cases h2 : k' = k
    · rw [if_pos h2, if_pos ⟨rfl, rfl, h2⟩]
    · rw [if_neg h2, if_neg (fun z => h2 z.2.2)]
  · rw [if_neg h, if_neg (fun z => h ⟨z.1, z.2.1⟩)]
set_option maxHeartbeats 4000000 in
set_option maxRecDepth 20000 in
theorem c_X6_countAt {l : Launch} (hl : l.stackTraces = false) (Θ : cTH) (o : Int32) (G : GS) : Ct l yX6_countAt cX6_countAt 2 (some .int) rm_X6_countAt Θ [.ref (tR Θ 0 8), .int o] (G) (fR (some (.int (sCnt (G.2.1 0 9) o))) G) := by
  refine ct_of (LS := [some (.ref (tR Θ 0 8)), some (.int o)]) hl (by decide +kernel) rfl (Nat.le_of_ble_eq_true rfl) rfl ?_
  intro p e s m args below meth c hC hr
  refine v_iload_n (i := 1) (q := 1) hC dX6_countAt_0 rfl rfl rfl ?_
  refine v_bipush (q := 3) (v := 20) hC dX6_countAt_1 rfl (by decide) ?_
  refine v_callN (q := 6) (rm := rm_X11_isIndex) hC (c_X11_isIndex hl Θ _ _ _) k_X11_isIndex st_yX11_isIndex nl_RX6_24 dX6_countAt_3 rfl  rfl rfl (Nat.le_of_ble_eq_true rfl) ⟨Nat.le_of_ble_eq_true rfl, Nat.le_of_ble_eq_true rfl⟩ ⟨Nat.le_of_ble_eq_true rfl, Nat.le_of_ble_eq_true rfl⟩ (fR_k ?_) fR_x (Nat.le_of_ble_eq_true rfl) (Nat.le_of_ble_eq_true rfl)
  try dsimp only [Option.toList, List.cons_append, List.nil_append]
  refine v_ifb_eq (q := 18) (q2 := 9) hC dX6_countAt_6 (by decide) rfl (fun c_6 => ?_) (fun c_6 => ?_)
  · refine v_iconst (q := 19) (v := 0) hC dX6_countAt_18 rfl (by decide) ?_
    refine v_iret hC dX6_countAt_19 hr (rfl) ?_ (Nat.le_of_ble_eq_true rfl) (Nat.le_of_ble_eq_true rfl)
    exact ⟨by simp_all [sCnt], rfl⟩
  · refine v_aload_n (i := 0) (q := 10) hC dX6_countAt_9 rfl rfl rfl ?_
    refine g_X6_0 (q := 13) hC dX6_countAt_10 rfl rfl fl_RX6_9 ?_
    refine v_iload_n (i := 1) (q := 14) hC dX6_countAt_13 rfl rfl rfl ?_
    refine v_iald (q := 15) hC dX6_countAt_14 rfl rfl rfl (jIdx_in ‹_› rfl) ?_
    refine v_goto (q := 19) hC dX6_countAt_15 (by decide) ?_
    refine v_iret hC dX6_countAt_19 hr (rfl) ?_ (Nat.le_of_ble_eq_true rfl) (Nat.le_of_ble_eq_true rfl)
    exact ⟨by simp_all [sCnt], rfl⟩
set_option maxHeartbeats 4000000 in
set_option maxRecDepth 20000 in
theorem c_X6_entryAt {l : Launch} (hl : l.stackTraces = false) (Θ : cTH) (o x : Int32) (G : GS) : Ct l yX6_entryAt cX6_entryAt 3 (some .int) rm_X6_entryAt Θ [.ref (tR Θ 0 8), .int o, .int x] (G) (fR (some (.int (sEnt (G.2.1 0 10) o x))) G) := by
  refine ct_of (LS := [some (.ref (tR Θ 0 8)), some (.int o), some (.int x)]) hl (by decide +kernel) rfl (Nat.le_of_ble_eq_true rfl) rfl ?_
  intro p e s m args below meth c hC hr
  refine v_iload_n (i := 1) (q := 1) hC dX6_entryAt_0 rfl rfl rfl ?_
  refine v_bipush (q := 3) (v := 20) hC dX6_entryAt_1 rfl (by decide) ?_
  refine v_callN (q := 6) (rm := rm_X11_isIndex) hC (c_X11_isIndex hl Θ _ _ _) k_X11_isIndex st_yX11_isIndex nl_RX6_24 dX6_entryAt_3 rfl  rfl rfl (Nat.le_of_ble_eq_true rfl) ⟨Nat.le_of_ble_eq_true rfl, Nat.le_of_ble_eq_true rfl⟩ ⟨Nat.le_of_ble_eq_true rfl, Nat.le_of_ble_eq_true rfl⟩ (fR_k ?_) fR_x (Nat.le_of_ble_eq_true rfl) (Nat.le_of_ble_eq_true rfl)
  try dsimp only [Option.toList, List.cons_append, List.nil_append]
  refine v_ifb_eq (q := 18) (q2 := 9) hC dX6_entryAt_6 (by decide) rfl (fun c_6 => ?_) (fun c_6 => ?_)
  · refine v_iconst (q := 19) (v := 0) hC dX6_entryAt_18 rfl (by decide) ?_
    refine v_iret hC dX6_entryAt_19 hr (rfl) ?_ (Nat.le_of_ble_eq_true rfl) (Nat.le_of_ble_eq_true rfl)
    exact ⟨by simp_all [sEnt], rfl⟩
  · refine v_iload_n (i := 2) (q := 10) hC dX6_entryAt_9 rfl rfl rfl ?_
    refine v_bipush (q := 12) (v := 6) hC dX6_entryAt_10 rfl (by decide) ?_
    refine v_callN (q := 15) (rm := rm_X11_isIndex) hC (c_X11_isIndex hl Θ _ _ _) k_X11_isIndex st_yX11_isIndex nl_RX6_24 dX6_entryAt_12 rfl  rfl rfl (Nat.le_of_ble_eq_true rfl) ⟨Nat.le_of_ble_eq_true rfl, Nat.le_of_ble_eq_true rfl⟩ ⟨Nat.le_of_ble_eq_true rfl, Nat.le_of_ble_eq_true rfl⟩ (fR_k ?_) fR_x (Nat.le_of_ble_eq_true rfl) (Nat.le_of_ble_eq_true rfl)
    try dsimp only [Option.toList, List.cons_append, List.nil_append]
    refine v_ifb_ne (q := 20) (q2 := 18) hC dX6_entryAt_15 (by decide) rfl (fun c_15 => ?_) (fun c_15 => ?_)
    · refine v_aload_n (i := 0) (q := 21) hC dX6_entryAt_20 rfl rfl rfl ?_
      refine g_X6_1 (q := 24) hC dX6_entryAt_21 rfl rfl fl_RX6_15 ?_
      refine v_iload_n (i := 1) (q := 25) hC dX6_entryAt_24 rfl rfl rfl ?_
      refine v_bipush (q := 27) (v := 6) hC dX6_entryAt_25 rfl (by decide) ?_
      refine v_imul (q := 28) hC dX6_entryAt_27 rfl ?_
      refine v_iload_n (i := 2) (q := 29) hC dX6_entryAt_28 rfl rfl rfl ?_
      refine v_iadd (q := 30) hC dX6_entryAt_29 rfl ?_
      refine v_iald (q := 31) hC dX6_entryAt_30 rfl rfl rfl (idx6_in ‹_› ‹_›) ?_
      refine v_iret hC dX6_entryAt_31 hr (rfl) ?_ (Nat.le_of_ble_eq_true rfl) (Nat.le_of_ble_eq_true rfl)
      exact ⟨by simp_all [sEnt], rfl⟩
    · refine v_iconst (q := 19) (v := 0) hC dX6_entryAt_18 rfl (by decide) ?_
      refine v_iret hC dX6_entryAt_19 hr (rfl) ?_ (Nat.le_of_ble_eq_true rfl) (Nat.le_of_ble_eq_true rfl)
      exact ⟨by simp_all [sEnt], rfl⟩
set_option maxHeartbeats 4000000 in
set_option maxRecDepth 20000 in
theorem c_X6_empty {l : Launch} (hl : l.stackTraces = false) (Θ : cTH) (o : Int32) (G : GS) : Ct l yX6_empty cX6_empty 2 none rm_X6_empty Θ [.ref (tR Θ 0 8), .int o] (G) (fR none (sArr G 0 9 20 o 0)) := by
  refine ct_of (LS := [some (.ref (tR Θ 0 8)), some (.int o)]) hl (by decide +kernel) rfl (Nat.le_of_ble_eq_true rfl) rfl ?_
  intro p e s m args below meth c hC hr
  refine v_iload_n (i := 1) (q := 1) hC dX6_empty_0 rfl rfl rfl ?_
  refine v_bipush (q := 3) (v := 20) hC dX6_empty_1 rfl (by decide) ?_
  refine v_callN (q := 6) (rm := rm_X11_isIndex) hC (c_X11_isIndex hl Θ _ _ _) k_X11_isIndex st_yX11_isIndex nl_RX6_24 dX6_empty_3 rfl  rfl rfl (Nat.le_of_ble_eq_true rfl) ⟨Nat.le_of_ble_eq_true rfl, Nat.le_of_ble_eq_true rfl⟩ ⟨Nat.le_of_ble_eq_true rfl, Nat.le_of_ble_eq_true rfl⟩ (fR_k ?_) fR_x (Nat.le_of_ble_eq_true rfl) (Nat.le_of_ble_eq_true rfl)
  try dsimp only [Option.toList, List.cons_append, List.nil_append]
  refine v_ifb_eq (q := 16) (q2 := 9) hC dX6_empty_6 (by decide) rfl (fun c_6 => ?_) (fun c_6 => ?_)
  · refine v_vret hC dX6_empty_16 hr ?_ (Nat.le_of_ble_eq_true rfl) (Nat.le_of_ble_eq_true rfl)
    exact ⟨rfl, by simp_all [sArr]⟩
  · refine v_aload_n (i := 0) (q := 10) hC dX6_empty_9 rfl rfl rfl ?_
    refine g_X6_0 (q := 13) hC dX6_empty_10 rfl rfl fl_RX6_9 ?_
    refine v_iload_n (i := 1) (q := 14) hC dX6_empty_13 rfl rfl rfl ?_
    refine v_iconst (q := 15) (v := 0) hC dX6_empty_14 rfl (by decide) ?_
    refine v_iast (q := 16) hC dX6_empty_15 rfl rfl (fun _ => rfl) (jIdx_in ‹_› rfl) ?_
    refine v_vret hC dX6_empty_16 hr ?_ (Nat.le_of_ble_eq_true rfl) (Nat.le_of_ble_eq_true rfl)
    exact ⟨rfl, by simp_all [sArr]⟩
set_option maxHeartbeats 4000000 in
set_option maxRecDepth 20000 in
theorem c_X6_setEntry {l : Launch} (hl : l.stackTraces = false) (Θ : cTH) (o x v : Int32) (G : GS) : Ct l yX6_setEntry cX6_setEntry 4 none rm_X6_setEntry Θ [.ref (tR Θ 0 8), .int o, .int x, .int v] (G) (fR none (putA G 0 10 (sSetE (G.2.1 0 10) o x v))) := by
  refine ct_of (LS := [some (.ref (tR Θ 0 8)), some (.int o), some (.int x), some (.int v)]) hl (by decide +kernel) rfl (Nat.le_of_ble_eq_true rfl) rfl ?_
  intro p e s m args below meth c hC hr
  refine v_iload_n (i := 1) (q := 1) hC dX6_setEntry_0 rfl rfl rfl ?_
  refine v_bipush (q := 3) (v := 20) hC dX6_setEntry_1 rfl (by decide) ?_
  refine v_callN (q := 6) (rm := rm_X11_isIndex) hC (c_X11_isIndex hl Θ _ _ _) k_X11_isIndex st_yX11_isIndex nl_RX6_24 dX6_setEntry_3 rfl  rfl rfl (Nat.le_of_ble_eq_true rfl) ⟨Nat.le_of_ble_eq_true rfl, Nat.le_of_ble_eq_true rfl⟩ ⟨Nat.le_of_ble_eq_true rfl, Nat.le_of_ble_eq_true rfl⟩ (fR_k ?_) fR_x (Nat.le_of_ble_eq_true rfl) (Nat.le_of_ble_eq_true rfl)
  try dsimp only [Option.toList, List.cons_append, List.nil_append]
  refine v_ifb_eq (q := 30) (q2 := 9) hC dX6_setEntry_6 (by decide) rfl (fun c_6 => ?_) (fun c_6 => ?_)
  · refine v_vret hC dX6_setEntry_30 hr ?_ (Nat.le_of_ble_eq_true rfl) (Nat.le_of_ble_eq_true rfl)
    exact ⟨rfl, by simp_all [sSetE, putA_self]⟩
  · refine v_iload_n (i := 2) (q := 10) hC dX6_setEntry_9 rfl rfl rfl ?_
    refine v_bipush (q := 12) (v := 6) hC dX6_setEntry_10 rfl (by decide) ?_
    refine v_callN (q := 15) (rm := rm_X11_isIndex) hC (c_X11_isIndex hl Θ _ _ _) k_X11_isIndex st_yX11_isIndex nl_RX6_24 dX6_setEntry_12 rfl  rfl rfl (Nat.le_of_ble_eq_true rfl) ⟨Nat.le_of_ble_eq_true rfl, Nat.le_of_ble_eq_true rfl⟩ ⟨Nat.le_of_ble_eq_true rfl, Nat.le_of_ble_eq_true rfl⟩ (fR_k ?_) fR_x (Nat.le_of_ble_eq_true rfl) (Nat.le_of_ble_eq_true rfl)
    try dsimp only [Option.toList, List.cons_append, List.nil_append]
    refine v_ifb_eq (q := 30) (q2 := 18) hC dX6_setEntry_15 (by decide) rfl (fun c_15 => ?_) (fun c_15 => ?_)
    · refine v_vret hC dX6_setEntry_30 hr ?_ (Nat.le_of_ble_eq_true rfl) (Nat.le_of_ble_eq_true rfl)
      exact ⟨rfl, by simp_all [sSetE, putA_self]⟩
    · refine v_aload_n (i := 0) (q := 19) hC dX6_setEntry_18 rfl rfl rfl ?_
      refine g_X6_1 (q := 22) hC dX6_setEntry_19 rfl rfl fl_RX6_15 ?_
      refine v_iload_n (i := 1) (q := 23) hC dX6_setEntry_22 rfl rfl rfl ?_
      refine v_bipush (q := 25) (v := 6) hC dX6_setEntry_23 rfl (by decide) ?_
      refine v_imul (q := 26) hC dX6_setEntry_25 rfl ?_
      refine v_iload_n (i := 2) (q := 27) hC dX6_setEntry_26 rfl rfl rfl ?_
      refine v_iadd (q := 28) hC dX6_setEntry_27 rfl ?_
      refine v_iload_n (i := 3) (q := 29) hC dX6_setEntry_28 rfl rfl rfl ?_
      refine v_iast (q := 30) hC dX6_setEntry_29 rfl rfl (fun _ => rfl) (idx6_in ‹_› ‹_›) ?_
      refine v_vret hC dX6_setEntry_30 hr ?_ (Nat.le_of_ble_eq_true rfl) (Nat.le_of_ble_eq_true rfl)
      exact ⟨rfl, by simp_all [sSetE, putA_self]⟩
/-- makes room ahead of the place: entries from e down -/
def insSh (o pl : Int32) : Nat → (Nat → Int32) → Nat → Int32
  | 0, w => w
  | e + 1, w => if pl < nI (e + 1) then insSh o pl e (sSetE w o (nI (e + 1)) (sEnt w o (nI (e + 1) - 1))) else w
def sPutIn (cnt w : Nat → Int32) (o pl v : Int32) : (Nat → Int32) × (Nat → Int32) :=
  if jIdx o 20 = true ∧ jIdx pl 6 = true ∧ cnt o.toNatClampNeg < 6 then (upd cnt o.toNatClampNeg (cnt o.toNatClampNeg + 1), sSetE (insSh o pl 5 w) o pl v) else (cnt, w)
def putLs (G : GS) (q : (Nat → Int32) × (Nat → Int32)) : GS := putA (putA G 0 10 q.2) 0 9 q.1
theorem putLs_self (G : GS) : putLs G (G.2.1 0 9, G.2.1 0 10) = G := by
  unfold putLs
  dsimp only
  rw [putA_self]
  exact putA_self G 0 9
set_option maxHeartbeats 4000000 in
set_option maxRecDepth 20000 in
theorem c_X6_putIn {l : Launch} (hl : l.stackTraces = false) (Θ : cTH) (o pl v : Int32) (G : GS) : Ct l yX6_putIn cX6_putIn 5 none rm_X6_putIn Θ [.ref (tR Θ 0 8), .int o, .int pl, .int v] (G) (fR none (putLs G (sPutIn (G.2.1 0 9) (G.2.1 0 10) o pl v))) := by
  refine ct_of (LS := [some (.ref (tR Θ 0 8)), some (.int o), some (.int pl), some (.int v), none]) hl (by decide +kernel) rfl (Nat.le_of_ble_eq_true rfl) rfl ?_
  intro p e s m args below meth c hC hr
  have L : ∀ (n : Nat) (w : Nat → Int32), n ≤ 5 → jIdx o 20 = true → jIdx pl 6 = true → G.2.1 0 9 o.toNatClampNeg < 6 → insSh o pl n w = insSh o pl 5 (G.2.1 0 10) → V p l e rm_X6_putIn s m args below meth c 5 Θ (fR none (putLs G (sPutIn (G.2.1 0 9) (G.2.1 0 10) o pl v))) 0 0 0 0 33 [some (.ref (tR Θ 0 8)), some (.int o), some (.int pl), some (.int v), some (.int (nI n))] [] (putA G 0 10 w) := by
    intro n
    induction n with
    | zero =>
      intro w hn h1 h2 h3 h4
      have h5 : (0 : Int32) ≤ pl := by simp_all [jIdx]
      refine v_iload (q := 35) hC dX6_putIn_33 rfl rfl ?_
      refine v_iload_n (i := 2) (q := 36) hC dX6_putIn_35 rfl rfl rfl ?_
      refine v_icmp_le (q := 61) (q2 := 39) hC dX6_putIn_36 (by decide) rfl (fun c_36 => ?_) (fun c_36 => ?_)
      · refine v_aload_n (i := 0) (q := 62) hC dX6_putIn_61 rfl rfl rfl ?_
        refine v_iload_n (i := 1) (q := 63) hC dX6_putIn_62 rfl rfl rfl ?_
        refine v_iload_n (i := 2) (q := 64) hC dX6_putIn_63 rfl rfl rfl ?_
        refine v_iload_n (i := 3) (q := 65) hC dX6_putIn_64 rfl rfl rfl ?_
        refine v_callV (q := 68) (rm := rm_X6_setEntry) hC (c_X6_setEntry hl Θ _ _ _ _) k_X6_setEntry im_yX6_setEntry se_yX6_setEntry ml_RX6_32 dX6_putIn_65 rfl rfl rfl rfl rfl rfl (Nat.le_of_ble_eq_true rfl) ⟨Nat.le_of_ble_eq_true rfl, Nat.le_of_ble_eq_true rfl⟩ ⟨Nat.le_of_ble_eq_true rfl, Nat.le_of_ble_eq_true rfl⟩ (fR_k ?_) fR_x (Nat.le_of_ble_eq_true rfl) (Nat.le_of_ble_eq_true rfl)
        try dsimp only [Option.toList, List.cons_append, List.nil_append]
        refine v_aload_n (i := 0) (q := 69) hC dX6_putIn_68 rfl rfl rfl ?_
        refine g_X6_0 (q := 72) hC dX6_putIn_69 rfl rfl fl_RX6_9 ?_
        refine v_iload_n (i := 1) (q := 73) hC dX6_putIn_72 rfl rfl rfl ?_
        refine v_dup2 (q := 74) hC dX6_putIn_73 rfl rfl rfl ?_
        refine v_iald (q := 75) hC dX6_putIn_74 rfl rfl rfl (jIdx_in h1 rfl) ?_
        refine v_iconst (q := 76) (v := 1) hC dX6_putIn_75 rfl (by decide) ?_
        refine v_iadd (q := 77) hC dX6_putIn_76 rfl ?_
        refine v_iast (q := 78) hC dX6_putIn_77 rfl rfl (fun _ => rfl) (jIdx_in h1 rfl) ?_
        refine v_vret hC dX6_putIn_78 hr ?_ (Nat.le_of_ble_eq_true rfl) (Nat.le_of_ble_eq_true rfl)
        have e5 : insSh o pl 5 (G.2.1 0 10) = w := by rw [← h4, insSh]
        exact ⟨rfl, by simp only [putLs, sPutIn, if_pos (show jIdx o 20 = true ∧ jIdx pl 6 = true ∧ G.2.1 0 9 o.toNatClampNeg < 6 from ⟨h1, h2, h3⟩), putA_putA, putA_same, e5]; rfl⟩
      · exact absurd h5 c_36
    | succ n ih =>
      intro w hn h1 h2 h3 h4
      refine v_iload (q := 35) hC dX6_putIn_33 rfl rfl ?_
      refine v_iload_n (i := 2) (q := 36) hC dX6_putIn_35 rfl rfl rfl ?_
      refine v_icmp_le (q := 61) (q2 := 39) hC dX6_putIn_36 (by decide) rfl (fun c_36 => ?_) (fun c_36 => ?_)
      · refine v_aload_n (i := 0) (q := 62) hC dX6_putIn_61 rfl rfl rfl ?_
        refine v_iload_n (i := 1) (q := 63) hC dX6_putIn_62 rfl rfl rfl ?_
        refine v_iload_n (i := 2) (q := 64) hC dX6_putIn_63 rfl rfl rfl ?_
        refine v_iload_n (i := 3) (q := 65) hC dX6_putIn_64 rfl rfl rfl ?_
        refine v_callV (q := 68) (rm := rm_X6_setEntry) hC (c_X6_setEntry hl Θ _ _ _ _) k_X6_setEntry im_yX6_setEntry se_yX6_setEntry ml_RX6_32 dX6_putIn_65 rfl rfl rfl rfl rfl rfl (Nat.le_of_ble_eq_true rfl) ⟨Nat.le_of_ble_eq_true rfl, Nat.le_of_ble_eq_true rfl⟩ ⟨Nat.le_of_ble_eq_true rfl, Nat.le_of_ble_eq_true rfl⟩ (fR_k ?_) fR_x (Nat.le_of_ble_eq_true rfl) (Nat.le_of_ble_eq_true rfl)
        try dsimp only [Option.toList, List.cons_append, List.nil_append]
        refine v_aload_n (i := 0) (q := 69) hC dX6_putIn_68 rfl rfl rfl ?_
        refine g_X6_0 (q := 72) hC dX6_putIn_69 rfl rfl fl_RX6_9 ?_
        refine v_iload_n (i := 1) (q := 73) hC dX6_putIn_72 rfl rfl rfl ?_
        refine v_dup2 (q := 74) hC dX6_putIn_73 rfl rfl rfl ?_
        refine v_iald (q := 75) hC dX6_putIn_74 rfl rfl rfl (jIdx_in h1 rfl) ?_
        refine v_iconst (q := 76) (v := 1) hC dX6_putIn_75 rfl (by decide) ?_
        refine v_iadd (q := 77) hC dX6_putIn_76 rfl ?_
        refine v_iast (q := 78) hC dX6_putIn_77 rfl rfl (fun _ => rfl) (jIdx_in h1 rfl) ?_
        refine v_vret hC dX6_putIn_78 hr ?_ (Nat.le_of_ble_eq_true rfl) (Nat.le_of_ble_eq_true rfl)
        have e5 : insSh o pl 5 (G.2.1 0 10) = w := by rw [← h4, insSh, if_neg (Int32.not_lt.mpr c_36)]
        exact ⟨rfl, by simp only [putLs, sPutIn, if_pos (show jIdx o 20 = true ∧ jIdx pl 6 = true ∧ G.2.1 0 9 o.toNatClampNeg < 6 from ⟨h1, h2, h3⟩), putA_putA, putA_same, e5]; rfl⟩
      · refine v_aload_n (i := 0) (q := 40) hC dX6_putIn_39 rfl rfl rfl ?_
        refine v_iload_n (i := 1) (q := 41) hC dX6_putIn_40 rfl rfl rfl ?_
        refine v_iload (q := 43) hC dX6_putIn_41 rfl rfl ?_
        refine v_aload_n (i := 0) (q := 44) hC dX6_putIn_43 rfl rfl rfl ?_
        refine v_iload_n (i := 1) (q := 45) hC dX6_putIn_44 rfl rfl rfl ?_
        refine v_iload (q := 47) hC dX6_putIn_45 rfl rfl ?_
        refine v_iconst (q := 48) (v := 1) hC dX6_putIn_47 rfl (by decide) ?_
        refine v_isub (q := 49) hC dX6_putIn_48 rfl ?_
        refine v_callV (q := 52) (rm := rm_X6_entryAt) hC (c_X6_entryAt hl Θ _ _ _) k_X6_entryAt im_yX6_entryAt se_yX6_entryAt ml_RX6_28 dX6_putIn_49 rfl rfl rfl rfl rfl rfl (Nat.le_of_ble_eq_true rfl) ⟨Nat.le_of_ble_eq_true rfl, Nat.le_of_ble_eq_true rfl⟩ ⟨Nat.le_of_ble_eq_true rfl, Nat.le_of_ble_eq_true rfl⟩ (fR_k ?_) fR_x (Nat.le_of_ble_eq_true rfl) (Nat.le_of_ble_eq_true rfl)
        try dsimp only [Option.toList, List.cons_append, List.nil_append]
        refine v_callV (q := 55) (rm := rm_X6_setEntry) hC (c_X6_setEntry hl Θ _ _ _ _) k_X6_setEntry im_yX6_setEntry se_yX6_setEntry ml_RX6_32 dX6_putIn_52 rfl rfl rfl rfl rfl rfl (Nat.le_of_ble_eq_true rfl) ⟨Nat.le_of_ble_eq_true rfl, Nat.le_of_ble_eq_true rfl⟩ ⟨Nat.le_of_ble_eq_true rfl, Nat.le_of_ble_eq_true rfl⟩ (fR_k ?_) fR_x (Nat.le_of_ble_eq_true rfl) (Nat.le_of_ble_eq_true rfl)
        try dsimp only [Option.toList, List.cons_append, List.nil_append]
        refine v_iinc (q := 58) (v := nI n) hC dX6_putIn_55 rfl rfl (pk_m1 n) (lvc rfl) (Nat.le_of_ble_eq_true rfl) (Nat.le_of_ble_eq_true rfl) rfl ?_
        refine v_goto (q := 33) hC dX6_putIn_58 (by decide) ?_
        rw [putA_putA, putA_same]; exact ih _ (by omega) h1 h2 h3 (by rw [← h4, insSh, if_pos (Int32.not_le.mp c_36)])
  refine v_iload_n (i := 1) (q := 1) hC dX6_putIn_0 rfl rfl rfl ?_
  refine v_bipush (q := 3) (v := 20) hC dX6_putIn_1 rfl (by decide) ?_
  refine v_callN (q := 6) (rm := rm_X11_isIndex) hC (c_X11_isIndex hl Θ _ _ _) k_X11_isIndex st_yX11_isIndex nl_RX6_24 dX6_putIn_3 rfl  rfl rfl (Nat.le_of_ble_eq_true rfl) ⟨Nat.le_of_ble_eq_true rfl, Nat.le_of_ble_eq_true rfl⟩ ⟨Nat.le_of_ble_eq_true rfl, Nat.le_of_ble_eq_true rfl⟩ (fR_k ?_) fR_x (Nat.le_of_ble_eq_true rfl) (Nat.le_of_ble_eq_true rfl)
  try dsimp only [Option.toList, List.cons_append, List.nil_append]
  refine v_ifb_eq (q := 29) (q2 := 9) hC dX6_putIn_6 (by decide) rfl (fun c_6 => ?_) (fun c_6 => ?_)
  · refine v_vret hC dX6_putIn_29 hr ?_ (Nat.le_of_ble_eq_true rfl) (Nat.le_of_ble_eq_true rfl)
    exact ⟨rfl, by simp only [sPutIn]; rw [if_neg (by simp_all), putLs_self]⟩
  · refine v_iload_n (i := 2) (q := 10) hC dX6_putIn_9 rfl rfl rfl ?_
    refine v_bipush (q := 12) (v := 6) hC dX6_putIn_10 rfl (by decide) ?_
    refine v_callN (q := 15) (rm := rm_X11_isIndex) hC (c_X11_isIndex hl Θ _ _ _) k_X11_isIndex st_yX11_isIndex nl_RX6_24 dX6_putIn_12 rfl  rfl rfl (Nat.le_of_ble_eq_true rfl) ⟨Nat.le_of_ble_eq_true rfl, Nat.le_of_ble_eq_true rfl⟩ ⟨Nat.le_of_ble_eq_true rfl, Nat.le_of_ble_eq_true rfl⟩ (fR_k ?_) fR_x (Nat.le_of_ble_eq_true rfl) (Nat.le_of_ble_eq_true rfl)
    try dsimp only [Option.toList, List.cons_append, List.nil_append]
    refine v_ifb_eq (q := 29) (q2 := 18) hC dX6_putIn_15 (by decide) rfl (fun c_15 => ?_) (fun c_15 => ?_)
    · refine v_vret hC dX6_putIn_29 hr ?_ (Nat.le_of_ble_eq_true rfl) (Nat.le_of_ble_eq_true rfl)
      exact ⟨rfl, by simp only [sPutIn]; rw [if_neg (by simp_all), putLs_self]⟩
    · refine v_aload_n (i := 0) (q := 19) hC dX6_putIn_18 rfl rfl rfl ?_
      refine g_X6_0 (q := 22) hC dX6_putIn_19 rfl rfl fl_RX6_9 ?_
      refine v_iload_n (i := 1) (q := 23) hC dX6_putIn_22 rfl rfl rfl ?_
      refine v_iald (q := 24) hC dX6_putIn_23 rfl rfl rfl (jIdx_in ‹_› rfl) ?_
      refine v_bipush (q := 26) (v := 6) hC dX6_putIn_24 rfl (by decide) ?_
      refine v_icmp_lt (q := 30) (q2 := 29) hC dX6_putIn_26 (by decide) rfl (fun c_26 => ?_) (fun c_26 => ?_)
      · refine v_iconst (q := 31) (v := 5) hC dX6_putIn_30 rfl (by decide) ?_
        refine v_istore (q := 33) hC dX6_putIn_31 rfl (lvc rfl) (Nat.le_of_ble_eq_true rfl) (Nat.le_of_ble_eq_true rfl) rfl ?_
        have e := L 5 (G.2.1 0 10) (by omega) (by assumption) (by assumption) (by assumption) rfl; rw [putA_self] at e; exact e
      · refine v_vret hC dX6_putIn_29 hr ?_ (Nat.le_of_ble_eq_true rfl) (Nat.le_of_ble_eq_true rfl)
        exact ⟨rfl, by simp only [sPutIn]; rw [if_neg (by simp_all), putLs_self]⟩
/-- closes the gap: n entries left, from e on -/
def delSh (o : Int32) : Nat → Nat → (Nat → Int32) → Nat → Int32
  | 0, _, w => w
  | n + 1, x, w => delSh o n (x + 1) (sSetE w o (nI x) (sEnt w o (nI x + 1)))
def sTake (cnt w : Nat → Int32) (o pl : Int32) : Int32 × ((Nat → Int32) × (Nat → Int32)) :=
  if jIdx o 20 = true ∧ jIdx pl (cnt o.toNatClampNeg) = true then (sEnt w o pl, (upd cnt o.toNatClampNeg (cnt o.toNatClampNeg - 1), delSh o (5 - pl.toNatClampNeg) pl.toNatClampNeg w)) else (0, (cnt, w))
set_option maxHeartbeats 4000000 in
set_option maxRecDepth 20000 in
theorem c_X6_takeOut {l : Launch} (hl : l.stackTraces = false) (Θ : cTH) (o pl : Int32) (G : GS) : Ct l yX6_takeOut cX6_takeOut 5 (some .int) rm_X6_takeOut Θ [.ref (tR Θ 0 8), .int o, .int pl] (G) (fR (some (.int (sTake (G.2.1 0 9) (G.2.1 0 10) o pl).1)) (putLs G (sTake (G.2.1 0 9) (G.2.1 0 10) o pl).2)) := by
  refine ct_of (LS := [some (.ref (tR Θ 0 8)), some (.int o), some (.int pl), none, none]) hl (by decide +kernel) rfl (Nat.le_of_ble_eq_true rfl) rfl ?_
  intro p e s m args below meth c hC hr
  have L : ∀ (n x : Nat) (w : Nat → Int32), n = 5 - x → x < 2 ^ 31 → jIdx o 20 = true → jIdx pl (G.2.1 0 9 o.toNatClampNeg) = true → delSh o n x w = delSh o (5 - pl.toNatClampNeg) pl.toNatClampNeg (G.2.1 0 10) → V p l e rm_X6_takeOut s m args below meth c 5 Θ (fR (some (.int (sTake (G.2.1 0 9) (G.2.1 0 10) o pl).1)) (putLs G (sTake (G.2.1 0 9) (G.2.1 0 10) o pl).2)) 0 0 0 0 34 [some (.ref (tR Θ 0 8)), some (.int o), some (.int pl), some (.int (sEnt (G.2.1 0 10) o pl)), some (.int (nI x))] [] (putA G 0 10 w) := by
    intro n
    induction n with
    | zero =>
      intro x w hn hx h1 h2 h4
      refine v_iload (q := 36) hC dX6_takeOut_34 rfl rfl ?_
      refine v_iconst (q := 37) (v := 5) hC dX6_takeOut_36 rfl (by decide) ?_
      refine v_icmp_ge (q := 62) (q2 := 40) hC dX6_takeOut_37 (by decide) rfl (fun c_37 => ?_) (fun c_37 => ?_)
      · refine v_aload_n (i := 0) (q := 63) hC dX6_takeOut_62 rfl rfl rfl ?_
        refine g_X6_0 (q := 66) hC dX6_takeOut_63 rfl rfl fl_RX6_9 ?_
        refine v_iload_n (i := 1) (q := 67) hC dX6_takeOut_66 rfl rfl rfl ?_
        refine v_dup2 (q := 68) hC dX6_takeOut_67 rfl rfl rfl ?_
        refine v_iald (q := 69) hC dX6_takeOut_68 rfl rfl rfl (jIdx_in h1 rfl) ?_
        refine v_iconst (q := 70) (v := 1) hC dX6_takeOut_69 rfl (by decide) ?_
        refine v_isub (q := 71) hC dX6_takeOut_70 rfl ?_
        refine v_iast (q := 72) hC dX6_takeOut_71 rfl rfl (fun _ => rfl) (jIdx_in h1 rfl) ?_
        refine v_iload_n (i := 3) (q := 73) hC dX6_takeOut_72 rfl rfl rfl ?_
        refine v_iret hC dX6_takeOut_73 hr (rfl) ?_ (Nat.le_of_ble_eq_true rfl) (Nat.le_of_ble_eq_true rfl)
        exact ⟨by simp only [sTake, if_pos (show jIdx o 20 = true ∧ jIdx pl (G.2.1 0 9 o.toNatClampNeg) = true from ⟨h1, h2⟩)], by simp only [putLs, sTake, if_pos (show jIdx o 20 = true ∧ jIdx pl (G.2.1 0 9 o.toNatClampNeg) = true from ⟨h1, h2⟩), ← h4, delSh]; rfl⟩
      · exact absurd (nI_le (a := 5) (by omega) hx) c_37
    | succ n ih =>
      intro x w hn hx h1 h2 h4
      refine v_iload (q := 36) hC dX6_takeOut_34 rfl rfl ?_
      refine v_iconst (q := 37) (v := 5) hC dX6_takeOut_36 rfl (by decide) ?_
      refine v_icmp_ge (q := 62) (q2 := 40) hC dX6_takeOut_37 (by decide) rfl (fun c_37 => ?_) (fun c_37 => ?_)
      · exact absurd c_37 (nI_ge (b := 5) (by omega) (by decide))
      · refine v_aload_n (i := 0) (q := 41) hC dX6_takeOut_40 rfl rfl rfl ?_
        refine v_iload_n (i := 1) (q := 42) hC dX6_takeOut_41 rfl rfl rfl ?_
        refine v_iload (q := 44) hC dX6_takeOut_42 rfl rfl ?_
        refine v_aload_n (i := 0) (q := 45) hC dX6_takeOut_44 rfl rfl rfl ?_
        refine v_iload_n (i := 1) (q := 46) hC dX6_takeOut_45 rfl rfl rfl ?_
        refine v_iload (q := 48) hC dX6_takeOut_46 rfl rfl ?_
        refine v_iconst (q := 49) (v := 1) hC dX6_takeOut_48 rfl (by decide) ?_
        refine v_iadd (q := 50) hC dX6_takeOut_49 rfl ?_
        refine v_callV (q := 53) (rm := rm_X6_entryAt) hC (c_X6_entryAt hl Θ _ _ _) k_X6_entryAt im_yX6_entryAt se_yX6_entryAt ml_RX6_28 dX6_takeOut_50 rfl rfl rfl rfl rfl rfl (Nat.le_of_ble_eq_true rfl) ⟨Nat.le_of_ble_eq_true rfl, Nat.le_of_ble_eq_true rfl⟩ ⟨Nat.le_of_ble_eq_true rfl, Nat.le_of_ble_eq_true rfl⟩ (fR_k ?_) fR_x (Nat.le_of_ble_eq_true rfl) (Nat.le_of_ble_eq_true rfl)
        try dsimp only [Option.toList, List.cons_append, List.nil_append]
        refine v_callV (q := 56) (rm := rm_X6_setEntry) hC (c_X6_setEntry hl Θ _ _ _ _) k_X6_setEntry im_yX6_setEntry se_yX6_setEntry ml_RX6_32 dX6_takeOut_53 rfl rfl rfl rfl rfl rfl (Nat.le_of_ble_eq_true rfl) ⟨Nat.le_of_ble_eq_true rfl, Nat.le_of_ble_eq_true rfl⟩ ⟨Nat.le_of_ble_eq_true rfl, Nat.le_of_ble_eq_true rfl⟩ (fR_k ?_) fR_x (Nat.le_of_ble_eq_true rfl) (Nat.le_of_ble_eq_true rfl)
        try dsimp only [Option.toList, List.cons_append, List.nil_append]
        refine v_iinc (q := 59) (v := nI (x + 1)) hC dX6_takeOut_56 rfl rfl (nI_1 x) (lvc rfl) (Nat.le_of_ble_eq_true rfl) (Nat.le_of_ble_eq_true rfl) rfl ?_
        refine v_goto (q := 34) hC dX6_takeOut_59 (by decide) ?_
        rw [putA_putA, putA_same]; exact ih (x + 1) _ (by omega) (by omega) h1 h2 (by rw [← h4, delSh])
  refine v_iload_n (i := 1) (q := 1) hC dX6_takeOut_0 rfl rfl rfl ?_
  refine v_bipush (q := 3) (v := 20) hC dX6_takeOut_1 rfl (by decide) ?_
  refine v_callN (q := 6) (rm := rm_X11_isIndex) hC (c_X11_isIndex hl Θ _ _ _) k_X11_isIndex st_yX11_isIndex nl_RX6_24 dX6_takeOut_3 rfl  rfl rfl (Nat.le_of_ble_eq_true rfl) ⟨Nat.le_of_ble_eq_true rfl, Nat.le_of_ble_eq_true rfl⟩ ⟨Nat.le_of_ble_eq_true rfl, Nat.le_of_ble_eq_true rfl⟩ (fR_k ?_) fR_x (Nat.le_of_ble_eq_true rfl) (Nat.le_of_ble_eq_true rfl)
  try dsimp only [Option.toList, List.cons_append, List.nil_append]
  refine v_ifb_eq (q := 22) (q2 := 9) hC dX6_takeOut_6 (by decide) rfl (fun c_6 => ?_) (fun c_6 => ?_)
  · refine v_iconst (q := 23) (v := 0) hC dX6_takeOut_22 rfl (by decide) ?_
    refine v_iret hC dX6_takeOut_23 hr (rfl) ?_ (Nat.le_of_ble_eq_true rfl) (Nat.le_of_ble_eq_true rfl)
    exact ⟨by simp only [sTake]; rw [if_neg (by simp_all)], by simp only [sTake]; rw [if_neg (by simp_all), putLs_self]⟩
  · refine v_iload_n (i := 2) (q := 10) hC dX6_takeOut_9 rfl rfl rfl ?_
    refine v_aload_n (i := 0) (q := 11) hC dX6_takeOut_10 rfl rfl rfl ?_
    refine g_X6_0 (q := 14) hC dX6_takeOut_11 rfl rfl fl_RX6_9 ?_
    refine v_iload_n (i := 1) (q := 15) hC dX6_takeOut_14 rfl rfl rfl ?_
    refine v_iald (q := 16) hC dX6_takeOut_15 rfl rfl rfl (jIdx_in ‹_› rfl) ?_
    refine v_callN (q := 19) (rm := rm_X11_isIndex) hC (c_X11_isIndex hl Θ _ _ _) k_X11_isIndex st_yX11_isIndex nl_RX6_24 dX6_takeOut_16 rfl  rfl rfl (Nat.le_of_ble_eq_true rfl) ⟨Nat.le_of_ble_eq_true rfl, Nat.le_of_ble_eq_true rfl⟩ ⟨Nat.le_of_ble_eq_true rfl, Nat.le_of_ble_eq_true rfl⟩ (fR_k ?_) fR_x (Nat.le_of_ble_eq_true rfl) (Nat.le_of_ble_eq_true rfl)
    try dsimp only [Option.toList, List.cons_append, List.nil_append]
    refine v_ifb_ne (q := 24) (q2 := 22) hC dX6_takeOut_19 (by decide) rfl (fun c_19 => ?_) (fun c_19 => ?_)
    · refine v_aload_n (i := 0) (q := 25) hC dX6_takeOut_24 rfl rfl rfl ?_
      refine v_iload_n (i := 1) (q := 26) hC dX6_takeOut_25 rfl rfl rfl ?_
      refine v_iload_n (i := 2) (q := 27) hC dX6_takeOut_26 rfl rfl rfl ?_
      refine v_callV (q := 30) (rm := rm_X6_entryAt) hC (c_X6_entryAt hl Θ _ _ _) k_X6_entryAt im_yX6_entryAt se_yX6_entryAt ml_RX6_28 dX6_takeOut_27 rfl rfl rfl rfl rfl rfl (Nat.le_of_ble_eq_true rfl) ⟨Nat.le_of_ble_eq_true rfl, Nat.le_of_ble_eq_true rfl⟩ ⟨Nat.le_of_ble_eq_true rfl, Nat.le_of_ble_eq_true rfl⟩ (fR_k ?_) fR_x (Nat.le_of_ble_eq_true rfl) (Nat.le_of_ble_eq_true rfl)
      try dsimp only [Option.toList, List.cons_append, List.nil_append]
      refine v_istore_n (i := 3) (q := 31) hC dX6_takeOut_30 rfl rfl (lvc rfl) (Nat.le_of_ble_eq_true rfl) (Nat.le_of_ble_eq_true rfl) rfl ?_
      refine v_iload_n (i := 2) (q := 32) hC dX6_takeOut_31 rfl rfl rfl ?_
      refine v_istore (q := 34) hC dX6_takeOut_32 rfl (lvc rfl) (Nat.le_of_ble_eq_true rfl) (Nat.le_of_ble_eq_true rfl) rfl ?_
      obtain ⟨j, hj, e9⟩ := nI_of (x := pl) (by simp_all [jIdx, ← Int32.not_lt]); have e := L (5 - pl.toNatClampNeg) pl.toNatClampNeg (G.2.1 0 10) rfl (by rw [e9, nI_clamp hj]; exact hj) (by assumption) (by assumption) rfl; rw [putA_self, e9, nI_clamp hj, ← e9] at e; exact e
    · refine v_iconst (q := 23) (v := 0) hC dX6_takeOut_22 rfl (by decide) ?_
      refine v_iret hC dX6_takeOut_23 hr (rfl) ?_ (Nat.le_of_ble_eq_true rfl) (Nat.le_of_ble_eq_true rfl)
      exact ⟨by simp only [sTake]; rw [if_neg (by simp_all)], by simp only [sTake]; rw [if_neg (by simp_all), putLs_self]⟩
