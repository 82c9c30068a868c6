/-! Arrays.fill; Judge -/
theorem cG_ext {Θ : cTH} {G : GS} {H : Heap} {r o N : Nat} {f g : Nat → Int32} (hid : okI G.2.2.1 r o = true) (hce : ∀ (x a : Nat → Int32), cellS Θ r o x a G.2.2 = .inl (tI Θ, N, .inl a)) (h : ∀ j, j < N → f j = g j) (hH : cG Θ (putA G r o f) H) : cG Θ (putA G r o g) H := by
  obtain ⟨k9, hi9, hk9⟩ := cW_get Θ (putA G r o f) (r := r) (o := o) hid
  rw [putA_same, show (putA G r o f).2.2 = G.2.2 from rfl, hce] at hk9
  have hw : (cW Θ (putA G r o f)).set k9 (tR Θ r o, .inl (tI Θ, N, .inl g)) = cW Θ (putA G r o g) := by
    refine cW_put (A := tA Θ) hH.2 hi9 rfl ?_ (by rw [putA_same]; exact hce _ _)
    intro r' o' hne
    exact ⟨rfl, by rw [putA_get, putA_get, if_neg hne, if_neg hne]⟩
  have hP := va_P_ext hH.1 hk9 h
  have hD := va_D.set (e := .inl (tI Θ, N, .inl g)) hH.2 hk9
  rw [hw] at hP hD
  exact ⟨hP, hD⟩
section EXT
variable {p : Program} {l : Launch} {e : Env} {R : Room} {s : State} {m : MethodId} {args : Array Value} {below : List Frame} {meth : Method} {c : Code} {cc : ByteArray} {nL : Nat} {own : String} {Θ : cTH} {Qp : cOut → GS → Prop} {Q9 : State → Prop} {mc ms k n pc q q2 : Nat} {LS : List (Option Value)} {st rest : List Value} {G : GS}
theorem v_ext {r o N : Nat} {f g : Nat → Int32} (hid : okI G.2.2.1 r o = true) (hce : ∀ (x a : Nat → Int32), cellS Θ r o x a G.2.2 = .inl (tI Θ, N, .inl a)) (h : ∀ j, j < N → f j = g j) (kk : VG p l e R s m args below meth c nL Θ Q9 k n pc LS st (putA G r o g)) : VG p l e R s m args below meth c nL Θ Q9 k n pc LS st (putA G r o f) :=
  fun H locs ls hH hS hl => kk H locs ls (cG_ext hid hce h hH) hS hl
end EXT
def fil (w : Nat → Int32) (x : Int32) (i : Nat) : Nat → Int32 := fun j => if j < i then x else w j
set_option maxHeartbeats 4000000 in
set_option maxRecDepth 20000 in
theorem c_J7_fill_53178 {l : Launch} (hl : l.stackTraces = false) (Θ : cTH) (r o N : Nat) (x : Int32) (G : GS) (hid : okI G.2.2.1 r o = true) (hce : ∀ (x a : Nat → Int32), cellS Θ r o x a G.2.2 = .inl (tI Θ, N, .inl a)) (hN : N < 2 ^ 31) : Ct l yJ7_fill_53178 cJ7_fill_53178 4 none rm_J7_fill_53178 Θ [.ref (tR Θ r o), .int x] (G) (fR none (putA G r o (fun _ => x))) := by
  refine ct_of (LS := [some (.ref (tR Θ r o)), some (.int x), none, none]) hl (by decide +kernel) rfl (Nat.le_of_ble_eq_true rfl) rfl ?_
  intro p e s m args below meth c hC hr
  have L : ∀ (n j : Nat), n + j = N → V p l e rm_J7_fill_53178 s m args below meth c 4 Θ (fR none (putA G r o (fun _ => x))) 0 0 0 0 5 [some (.ref (tR Θ r o)), some (.int x), some (.int (nI j)), some (.int (nI N))] [] (putA G r o (fil (G.2.1 r o) x j)) := by
    intro n
    induction n with
    | zero =>
      intro j h1
      refine v_ext (N := N) hid hce (g := fun _ => x) (fun i hi => by simp only [fil]; rw [if_pos (by omega)]) ?_
      refine v_iload_n (i := 2) (q := 6) hC dJ7_fill_53178_5 rfl rfl rfl ?_
      refine v_iload_n (i := 3) (q := 7) hC dJ7_fill_53178_6 rfl rfl rfl ?_
      refine v_icmp_ge (q := 20) (q2 := 10) hC dJ7_fill_53178_7 (by decide) rfl (fun c_7 => ?_) (fun c_7 => ?_)
      · refine v_vret hC dJ7_fill_53178_20 hr ?_ (Nat.le_of_ble_eq_true rfl) (Nat.le_of_ble_eq_true rfl)
        exact ⟨rfl, rfl⟩
      · exact absurd (nI_le (by omega) (by omega)) c_7
    | succ n ih =>
      intro j h1
      have e2 := nI_clamp (show j < 2 ^ 31 by omega)
      refine v_iload_n (i := 2) (q := 6) hC dJ7_fill_53178_5 rfl rfl rfl ?_
      refine v_iload_n (i := 3) (q := 7) hC dJ7_fill_53178_6 rfl rfl rfl ?_
      refine v_icmp_ge (q := 20) (q2 := 10) hC dJ7_fill_53178_7 (by decide) rfl (fun c_7 => ?_) (fun c_7 => ?_)
      · exact absurd c_7 (nI_ge (by omega) (by omega))
      · refine v_aload_n (i := 0) (q := 11) hC dJ7_fill_53178_10 rfl rfl rfl ?_
        refine v_iload_n (i := 2) (q := 12) hC dJ7_fill_53178_11 rfl rfl rfl ?_
        refine v_iload_n (i := 1) (q := 13) hC dJ7_fill_53178_12 rfl rfl rfl ?_
        refine v_iast (q := 14) (N := N) hC dJ7_fill_53178_13 rfl hid (fun a => hce _ a) (vp_in_nI (by omega) (by omega)) ?_
        rw [putA_putA, putA_same, e2]
        refine v_iinc (q := 17) (v := nI (j + 1)) hC dJ7_fill_53178_14 rfl rfl (nI_1 j) (lvc rfl) (Nat.le_of_ble_eq_true rfl) (Nat.le_of_ble_eq_true rfl) rfl ?_
        refine v_goto (q := 5) hC dJ7_fill_53178_17 (by decide) ?_
        have e3 : upd (fil (G.2.1 r o) x j) j x = fil (G.2.1 r o) x (j + 1) := by
          funext i
          simp only [fil, upd]
          by_cases hi : i = j
          · rw [if_pos hi, if_pos (by omega)]
          · rw [if_neg hi]
            by_cases h9 : i < j
            · rw [if_pos h9, if_pos (by omega)]
            · rw [if_neg h9, if_neg (by omega)]
        rw [e3]
        exact ih (j + 1) (by omega)
  refine v_iconst (q := 1) (v := 0) hC dJ7_fill_53178_0 rfl (by decide) ?_
  refine v_istore_n (i := 2) (q := 2) hC dJ7_fill_53178_1 rfl rfl (lvc rfl) (Nat.le_of_ble_eq_true rfl) (Nat.le_of_ble_eq_true rfl) rfl ?_
  refine v_aload_n (i := 0) (q := 3) hC dJ7_fill_53178_2 rfl rfl rfl ?_
  refine v_aleni (q := 4) (N := N) hC dJ7_fill_53178_3 rfl hid (hce _ _) rfl ?_
  refine v_istore_n (i := 3) (q := 5) hC dJ7_fill_53178_4 rfl rfl (lvc rfl) (Nat.le_of_ble_eq_true rfl) (Nat.le_of_ble_eq_true rfl) rfl ?_
  have e := L N 0 rfl
  rw [show fil (G.2.1 r o) x 0 = G.2.1 r o from by funext i; simp [fil], putA_self] at e
  exact e
abbrev jS (G : GS) (a b : Nat → Int32) : GS := putA (putA G 0 19 a) 0 20 b
theorem jS_jS (G : GS) (a b a' b' : Nat → Int32) : jS (jS G a b) a' b' = jS G a' b' := by
  unfold jS putA
  refine Prod.ext rfl (Prod.ext ?_ rfl)
  funext r o
  dsimp only
  by_cases h : r = 0 ∧ o = 20
  · rw [if_pos h, if_pos h]
  · rw [if_neg h, if_neg h]
    by_cases h2 : r = 0 ∧ o = 19
    · rw [if_pos h2, if_neg h, if_pos h2]
    · rw [if_neg h2, if_neg h, if_neg h2, if_neg h2]
theorem jS_19 (G : GS) (a b : Nat → Int32) : (jS G a b).2.1 0 19 = a := rfl
theorem jS_20 (G : GS) (a b : Nat → Int32) : (jS G a b).2.1 0 20 = b := rfl
theorem jS_self (G : GS) : jS G (G.2.1 0 19) (G.2.1 0 20) = G := by
  unfold jS
  rw [putA_self]
  exact putA_self G 0 20
/-- settle: from the place j on, n left -/
def stl (rs pl cd : Int32) : Nat → Nat → (Nat → Int32) × (Nat → Int32) → (Nat → Int32) × (Nat → Int32)
  | 0, _, q => q
  | n + 1, j, q => stl rs pl cd n (j + 1) (if jHas rs (nI j) = true then (upd q.1 j pl, upd q.2 j cd) else q)
set_option maxHeartbeats 4000000 in
set_option maxRecDepth 20000 in
theorem c_X4_settle {l : Launch} (hl : l.stackTraces = false) (Θ : cTH) (rs pl cd : Int32) (G : GS) : Ct l yX4_settle cX4_settle 5 none rm_X4_settle Θ [.ref (tR Θ 0 18), .int rs, .int pl, .int cd] (G) (fR none (jS G (stl rs pl cd 4 0 (G.2.1 0 19, G.2.1 0 20)).1 (stl rs pl cd 4 0 (G.2.1 0 19, G.2.1 0 20)).2)) := by
  refine ct_of (LS := [some (.ref (tR Θ 0 18)), some (.int rs), some (.int pl), some (.int cd), none]) hl (by decide +kernel) rfl (Nat.le_of_ble_eq_true rfl) rfl ?_
  intro p e s m args below meth c hC hr
  have L : ∀ (n j : Nat) (a b : Nat → Int32), n + j = 4 → stl rs pl cd n j (a, b) = stl rs pl cd 4 0 (G.2.1 0 19, G.2.1 0 20) → V p l e rm_X4_settle s m args below meth c 5 Θ (fR none (jS G (stl rs pl cd 4 0 (G.2.1 0 19, G.2.1 0 20)).1 (stl rs pl cd 4 0 (G.2.1 0 19, G.2.1 0 20)).2)) 0 0 0 0 3 [some (.ref (tR Θ 0 18)), some (.int rs), some (.int pl), some (.int cd), some (.int (nI j))] [] (jS G a b) := by
    intro n
    induction n with
    | zero =>
      intro j a b h1 h2
      refine v_iload (q := 5) hC dX4_settle_3 rfl rfl ?_
      refine v_iconst (q := 6) (v := 4) hC dX4_settle_5 rfl (by decide) ?_
      refine v_icmp_ge (q := 40) (q2 := 9) hC dX4_settle_6 (by decide) rfl (fun c_6 => ?_) (fun c_6 => ?_)
      · refine v_vret hC dX4_settle_40 hr ?_ (Nat.le_of_ble_eq_true rfl) (Nat.le_of_ble_eq_true rfl)
        exact ⟨rfl, by rw [← h2, stl]⟩
      · exact absurd (by rw [show j = 4 by omega]; decide) c_6
    | succ n ih =>
      intro j a b h1 h2
      have e2 := nI_clamp (show j < 2 ^ 31 by omega)
      refine v_iload (q := 5) hC dX4_settle_3 rfl rfl ?_
      refine v_iconst (q := 6) (v := 4) hC dX4_settle_5 rfl (by decide) ?_
      refine v_icmp_ge (q := 40) (q2 := 9) hC dX4_settle_6 (by decide) rfl (fun c_6 => ?_) (fun c_6 => ?_)
      · exact absurd c_6 (by rw [show (4 : Int32) = nI 4 from rfl]; exact nI_ge (by omega) (by omega))
      · refine v_iload_n (i := 1) (q := 10) hC dX4_settle_9 rfl rfl rfl ?_
        refine v_iload (q := 12) hC dX4_settle_10 rfl rfl ?_
        refine v_callN (q := 15) (rm := rm_X11_has) hC (c_X11_has hl Θ _ _ _) k_X11_has st_yX11_has nl_RX4_25 dX4_settle_12 rfl  rfl rfl (Nat.le_of_ble_eq_true rfl) ⟨Nat.le_of_ble_eq_true rfl, Nat.le_of_ble_eq_true rfl⟩ ⟨Nat.le_of_ble_eq_true rfl, Nat.le_of_ble_eq_true rfl⟩ (fR_k ?_) fR_x (Nat.le_of_ble_eq_true rfl) (Nat.le_of_ble_eq_true rfl)
        try dsimp only [Option.toList, List.cons_append, List.nil_append]
        refine v_ifb_eq (q := 34) (q2 := 18) hC dX4_settle_15 (by decide) rfl (fun c_15 => ?_) (fun c_15 => ?_)
        · refine v_iinc (q := 37) (v := nI (j + 1)) hC dX4_settle_34 rfl rfl (nI_1 j) (lvc rfl) (Nat.le_of_ble_eq_true rfl) (Nat.le_of_ble_eq_true rfl) rfl ?_
          refine v_goto (q := 3) hC dX4_settle_37 (by decide) ?_
          exact ih (j + 1) a b (by omega) (by rw [← h2, stl, if_neg (by rw [c_15]; decide)])
        · refine v_aload_n (i := 0) (q := 19) hC dX4_settle_18 rfl rfl rfl ?_
          refine g_X4_0 (q := 22) hC dX4_settle_19 rfl rfl fl_RX4_9 ?_
          refine v_iload (q := 24) hC dX4_settle_22 rfl rfl ?_
          refine v_iload_n (i := 2) (q := 25) hC dX4_settle_24 rfl rfl rfl ?_
          refine v_iast (q := 26) hC dX4_settle_25 rfl rfl (fun _ => rfl) (vp_in_nI (by omega) (by omega)) ?_
          refine v_aload_n (i := 0) (q := 27) hC dX4_settle_26 rfl rfl rfl ?_
          refine g_X4_1 (q := 30) hC dX4_settle_27 rfl rfl fl_RX4_15 ?_
          refine v_iload (q := 32) hC dX4_settle_30 rfl rfl ?_
          refine v_iload_n (i := 3) (q := 33) hC dX4_settle_32 rfl rfl rfl ?_
          refine v_iast (q := 34) hC dX4_settle_33 rfl rfl (fun _ => rfl) (vp_in_nI (by omega) (by omega)) ?_
          refine v_iinc (q := 37) (v := nI (j + 1)) hC dX4_settle_34 rfl rfl (nI_1 j) (lvc rfl) (Nat.le_of_ble_eq_true rfl) (Nat.le_of_ble_eq_true rfl) rfl ?_
          refine v_goto (q := 3) hC dX4_settle_37 (by decide) ?_
          have e9 : putA (putA (jS G a b) 0 19 (upd ((jS G a b).2.1 0 19) (nI j).toNatClampNeg pl)) 0 20 (upd ((putA (jS G a b) 0 19 (upd ((jS G a b).2.1 0 19) (nI j).toNatClampNeg pl)).2.1 0 20) (nI j).toNatClampNeg cd) = jS G (upd a j pl) (upd b j cd) := by
            rw [e2]; exact jS_jS G a b (upd a j pl) (upd b j cd)
          rw [e9]
          exact ih (j + 1) _ _ (by omega) (by rw [← h2, stl, if_pos c_15])
  refine v_iconst (q := 1) (v := 0) hC dX4_settle_0 rfl (by decide) ?_
  refine v_istore (q := 3) hC dX4_settle_1 rfl (lvc rfl) (Nat.le_of_ble_eq_true rfl) (Nat.le_of_ble_eq_true rfl) rfl ?_
  have e := L 4 0 (G.2.1 0 19) (G.2.1 0 20) rfl rfl
  rw [jS_self] at e
  exact e
/-- what is kept of the state besides the judge's rows; the groups' count -/
def gN (G : GS) : Nat := (G.1 0 1 1).toNatClampNeg
def gOk (G : GS) : Prop := G.1 0 1 1 = nI (gN G) ∧ gN G ≤ 8
def jQ (v : Option Value) (G : GS) : cOut → GS → Prop := fun r G1 => r = .inl v ∧ ∃ a b, G1 = jS G a b
theorem jQ_k {v : Option Value} {G : GS} {P : Option Value → GS → Prop} (h : ∀ a b, P v (jS G a b)) : ∀ (r : Option Value) (G9 : GS), jQ v G (.inl r) G9 → P r G9 := by
  rintro r G9 ⟨h1, a, b, rfl⟩
  cases h1
  exact h a b
theorem jQ_x {v : Option Value} {G : GS} {Qp : cOut → GS → Prop} : ∀ (E : String) (G9 : GS), jQ v G (.inr E) G9 → Qp (.inr E) G9 := by
  rintro E G9 ⟨h1, _⟩
  cases h1
abbrev pRow := (Nat → Int32) × (Nat → Int32)
/-- one entry of a climb -/
def dStep (u gs : Int32) (own cts : Bool) (pl x : Int32) (q : pRow × Int32) : pRow × Int32 :=
  if (cts && eFor x u gs own) = true then (stl (eRights x &&& q.2) pl x 4 0 q.1, q.2 &&& (eRights x ^^^ (-1))) else q
def dEnt (en : Nat → Int32) (u gs : Int32) (own l0 : Bool) (o cnt : Int32) : Nat → Nat → pRow × Int32 → pRow × Int32
  | 0, _, q => q
  | n + 1, j, q => if nI j < cnt then dEnt en u gs own l0 o cnt n (j + 1) (dStep u gs own (l0 || eBelow (sEnt en o (nI j))) (o * 6 + nI j) (sEnt en o (nI j)) q) else q
def dLev (ct en : Nat → Int32) (up : Int32 → Int32) (u gs : Int32) (own : Bool) : Nat → Nat → Int32 → pRow × Int32 → pRow
  | 0, _, _, q => q.1
  | n + 1, lv, o, q => if o = -1 ∨ q.2 = 0 then q.1 else dLev ct en up u gs own n (lv + 1) (up o) (dEnt en u gs own (decide (nI lv = (0 : Int32))) o (sCnt ct o) 6 0 q)
def dGs (G : GS) (u : Int32) : Int32 := if jIdx u 12 = true then cUp (G.2.1 0 3) (gN G) (G.2.1 0 2 u.toNatClampNeg) else 0
def dOwn (G : GS) (u o : Int32) : Bool := decide (tAt (G.1 0 4 0) (G.2.1 0 6) o (-1) = u)
def dUpG (G : GS) (o : Int32) : Int32 := tUp (G.1 0 4 0) (G.1 0 4 1) (G.2.1 0 5) o
def dRes (G : GS) (u o : Int32) : pRow := dLev (G.2.1 0 9) (G.2.1 0 10) (dUpG G) u (dGs G u) (dOwn G u o) 20 0 o ((fun _ => -1, fun _ => 0), 15)
set_option maxHeartbeats 4000000 in
set_option maxRecDepth 20000 in
theorem c_X4_decide {l : Launch} (hl : l.stackTraces = false) (Θ : cTH) (u o : Int32) (G : GS) (hg : gOk G) : Ct l yX4_decide cX4_decide 13 none rm_X4_decide Θ [.ref (tR Θ 0 18), .ref (tR Θ 0 0), .int u, .int o] (G) (fR none (jS G (dRes G u o).1 (dRes G u o).2)) := by
  refine ct_of (LS := [some (.ref (tR Θ 0 18)), some (.ref (tR Θ 0 0)), some (.int u), some (.int o), none, none, none, none, none, none, none, none, none]) hl (by decide +kernel) rfl (Nat.le_of_ble_eq_true rfl) rfl ?_
  intro p e s m args below meth c hC hr
  have L : ∀ (n lv : Nat) (at' op : Int32) (a b : Nat → Int32) (x9 x10 x11 x12 : Option Value), n + lv = 20 → dLev (G.2.1 0 9) (G.2.1 0 10) (dUpG G) u (dGs G u) (dOwn G u o) n lv at' ((a, b), op) = dRes G u o → V p l e rm_X4_decide s m args below meth c 13 Θ (fR none (jS G (dRes G u o).1 (dRes G u o).2)) 0 0 0 0 55 [some (.ref (tR Θ 0 18)), some (.ref (tR Θ 0 0)), some (.int u), some (.int o), some (.int (dGs G u)), some (.int (b2i (dOwn G u o))), some (.int op), some (.int at'), some (.int (nI lv)), x9, x10, x11, x12] [] (jS G a b) := by
    intro n
    induction n with
    | zero =>
      intro lv at' op a b x9 x10 x11 x12 h1 h2
      refine v_iload (q := 57) hC dX4_decide_55 rfl rfl ?_
      refine v_bipush (q := 59) (v := 20) hC dX4_decide_57 rfl (by decide) ?_
      refine v_icmp_ge (q := 209) (q2 := 62) hC dX4_decide_59 (by decide) rfl (fun c_59 => ?_) (fun c_59 => ?_)
      · refine v_vret hC dX4_decide_209 hr ?_ (Nat.le_of_ble_eq_true rfl) (Nat.le_of_ble_eq_true rfl)
        exact ⟨rfl, by rw [← h2, dLev]⟩
      · exact absurd (by rw [show lv = 20 by omega]; decide) c_59
    | succ n ih =>
      intro lv at' op a b x9 x10 x11 x12 h1 h2
      have L2 : ∀ (k j : Nat) (a2 b2 : Nat → Int32) (op2 : Int32) (y11 y12 : Option Value), k + j = 6 → ¬ at' = -1 → ¬ op = 0 → dEnt (G.2.1 0 10) u (dGs G u) (dOwn G u o) (decide (nI lv = (0 : Int32))) at' (sCnt (G.2.1 0 9) at') k j ((a2, b2), op2) = dEnt (G.2.1 0 10) u (dGs G u) (dOwn G u o) (decide (nI lv = (0 : Int32))) at' (sCnt (G.2.1 0 9) at') 6 0 ((a, b), op) → V p l e rm_X4_decide s m args below meth c 13 Θ (fR none (jS G (dRes G u o).1 (dRes G u o).2)) 0 0 0 0 87 [some (.ref (tR Θ 0 18)), some (.ref (tR Θ 0 0)), some (.int u), some (.int o), some (.int (dGs G u)), some (.int (b2i (dOwn G u o))), some (.int op2), some (.int at'), some (.int (nI lv)), some (.int (sCnt (G.2.1 0 9) at')), some (.int (nI j)), y11, y12] [] (jS G a2 b2) := by
        intro k
        induction k with
        | zero =>
          intro j a2 b2 op2 y11 y12 h4 h5 h6 h7
          refine v_iload (q := 89) hC dX4_decide_87 rfl rfl ?_
          refine v_bipush (q := 91) (v := 6) hC dX4_decide_89 rfl (by decide) ?_
          refine v_icmp_ge (q := 192) (q2 := 94) hC dX4_decide_91 (by decide) rfl (fun c_91 => ?_) (fun c_91 => ?_)
          · refine v_aload_n (i := 1) (q := 193) hC dX4_decide_192 rfl rfl rfl ?_
            refine g_X9_1 (q := 196) hC dX4_decide_193 rfl rfl fl_RX4_41 ?_
            refine v_iload (q := 198) hC dX4_decide_196 rfl rfl ?_
            refine v_callV (q := 201) (rm := rm_X10_nextUp) hC (c_X10_nextUp hl Θ _ _) k_X10_nextUp im_yX10_nextUp se_yX10_nextUp ml_RX4_124 dX4_decide_198 rfl rfl rfl rfl rfl rfl (Nat.le_of_ble_eq_true rfl) ⟨Nat.le_of_ble_eq_true rfl, Nat.le_of_ble_eq_true rfl⟩ ⟨Nat.le_of_ble_eq_true rfl, Nat.le_of_ble_eq_true rfl⟩ (fR_k ?_) fR_x (Nat.le_of_ble_eq_true rfl) (Nat.le_of_ble_eq_true rfl)
            try dsimp only [Option.toList, List.cons_append, List.nil_append]
            refine v_istore (q := 203) hC dX4_decide_201 rfl (lvc rfl) (Nat.le_of_ble_eq_true rfl) (Nat.le_of_ble_eq_true rfl) rfl ?_
            refine v_iinc (q := 206) (v := nI (lv + 1)) hC dX4_decide_203 rfl rfl (nI_1 lv) (lvc rfl) (Nat.le_of_ble_eq_true rfl) (Nat.le_of_ble_eq_true rfl) rfl ?_
            refine v_goto (q := 55) hC dX4_decide_206 (by decide) ?_
            exact ih (lv + 1) _ _ _ _ _ _ _ _ (by omega) (by rw [← h2, dLev, if_neg (fun z => z.elim h5 h6), ← h7, dEnt]; rfl)
          · exact absurd (by rw [show j = 6 by omega]; decide) c_91
        | succ k ih2 =>
          intro j a2 b2 op2 y11 y12 h4 h5 h6 h7
          have K : ∀ (v : Bool), v = (decide (nI lv = (0 : Int32)) || eBelow (sEnt (G.2.1 0 10) at' (nI j))) → nI j < sCnt (G.2.1 0 9) at' → V p l e rm_X4_decide s m args below meth c 13 Θ (fR none (jS G (dRes G u o).1 (dRes G u o).2)) 0 0 0 0 132 [some (.ref (tR Θ 0 18)), some (.ref (tR Θ 0 0)), some (.int u), some (.int o), some (.int (dGs G u)), some (.int (b2i (dOwn G u o))), some (.int op2), some (.int at'), some (.int (nI lv)), some (.int (sCnt (G.2.1 0 9) at')), some (.int (nI j)), some (.int (sEnt (G.2.1 0 10) at' (nI j))), y12] [.int (b2i v)] (jS G a2 b2) := by
            intro v hv h9
            cases v with
            | false =>
              refine v_istore (q := 134) hC dX4_decide_132 rfl (lvc rfl) (Nat.le_of_ble_eq_true rfl) (Nat.le_of_ble_eq_true rfl) rfl ?_
              refine v_iload (q := 136) hC dX4_decide_134 rfl rfl ?_
              refine v_if_eq (q := 186) (q2 := 139) hC dX4_decide_136 (by decide) rfl (fun c_136 => ?_) (fun c_136 => ?_)
              · refine v_iinc (q := 189) (v := nI (j + 1)) hC dX4_decide_186 rfl rfl (nI_1 j) (lvc rfl) (Nat.le_of_ble_eq_true rfl) (Nat.le_of_ble_eq_true rfl) rfl ?_
                refine v_goto (q := 87) hC dX4_decide_189 (by decide) ?_
                refine ih2 (j + 1) _ _ _ _ _ (by omega) h5 h6 ?_
                rw [← h7, dEnt, if_pos h9, dStep, ← hv, if_neg (by simp)]
              · exact absurd rfl c_136
            | true =>
              refine v_istore (q := 134) hC dX4_decide_132 rfl (lvc rfl) (Nat.le_of_ble_eq_true rfl) (Nat.le_of_ble_eq_true rfl) rfl ?_
              refine v_iload (q := 136) hC dX4_decide_134 rfl rfl ?_
              refine v_if_eq (q := 186) (q2 := 139) hC dX4_decide_136 (by decide) rfl (fun c_136 => ?_) (fun c_136 => ?_)
              · exact absurd c_136 (by decide)
              · refine v_iload (q := 141) hC dX4_decide_139 rfl rfl ?_
                refine v_iload_n (i := 2) (q := 142) hC dX4_decide_141 rfl rfl rfl ?_
                refine v_iload (q := 144) hC dX4_decide_142 rfl rfl ?_
                refine v_iload (q := 146) hC dX4_decide_144 rfl rfl ?_
                refine v_callS (q := 149) (rm := rm_X1_isFor) hC (c_X1_isFor hl Θ _ _ _ _ _) k_X1_isFor st_yX1_isFor ml_RX4_113 dX4_decide_146 rfl  rfl rfl (Nat.le_of_ble_eq_true rfl) ⟨Nat.le_of_ble_eq_true rfl, Nat.le_of_ble_eq_true rfl⟩ ⟨Nat.le_of_ble_eq_true rfl, Nat.le_of_ble_eq_true rfl⟩ (fR_k ?_) fR_x (Nat.le_of_ble_eq_true rfl) (Nat.le_of_ble_eq_true rfl)
                try dsimp only [Option.toList, List.cons_append, List.nil_append]
                refine v_ifb_eq (q := 186) (q2 := 152) hC dX4_decide_149 (by decide) rfl (fun c_149 => ?_) (fun c_149 => ?_)
                · refine v_iinc (q := 189) (v := nI (j + 1)) hC dX4_decide_186 rfl rfl (nI_1 j) (lvc rfl) (Nat.le_of_ble_eq_true rfl) (Nat.le_of_ble_eq_true rfl) rfl ?_
                  refine v_goto (q := 87) hC dX4_decide_189 (by decide) ?_
                  refine ih2 (j + 1) _ _ _ _ _ (by omega) h5 h6 ?_
                  rw [← h7, dEnt, if_pos h9, dStep, ← hv]
                  first | (rw [if_pos (by simpa using c_149)]; rfl) | rw [if_neg (by simp [c_149])]
                · refine v_aload_n (i := 0) (q := 153) hC dX4_decide_152 rfl rfl rfl ?_
                  refine v_iload (q := 155) hC dX4_decide_153 rfl rfl ?_
                  refine v_callS (q := 158) (rm := rm_X1_rights) hC (c_X1_rights hl Θ _ _) k_X1_rights st_yX1_rights ml_RX4_117 dX4_decide_155 rfl  rfl rfl (Nat.le_of_ble_eq_true rfl) ⟨Nat.le_of_ble_eq_true rfl, Nat.le_of_ble_eq_true rfl⟩ ⟨Nat.le_of_ble_eq_true rfl, Nat.le_of_ble_eq_true rfl⟩ (fR_k ?_) fR_x (Nat.le_of_ble_eq_true rfl) (Nat.le_of_ble_eq_true rfl)
                  try dsimp only [Option.toList, List.cons_append, List.nil_append]
                  refine v_iload (q := 160) hC dX4_decide_158 rfl rfl ?_
                  refine v_iand (q := 161) hC dX4_decide_160 rfl ?_
                  refine v_iload (q := 163) hC dX4_decide_161 rfl rfl ?_
                  refine v_bipush (q := 165) (v := 6) hC dX4_decide_163 rfl (by decide) ?_
                  refine v_imul (q := 166) hC dX4_decide_165 rfl ?_
                  refine v_iload (q := 168) hC dX4_decide_166 rfl rfl ?_
                  refine v_iadd (q := 169) hC dX4_decide_168 rfl ?_
                  refine v_iload (q := 171) hC dX4_decide_169 rfl rfl ?_
                  refine v_callV (q := 174) (rm := rm_X4_settle) hC (c_X4_settle hl Θ _ _ _ _) k_X4_settle im_yX4_settle se_yX4_settle ml_RX4_120 dX4_decide_171 rfl rfl rfl rfl rfl rfl (Nat.le_of_ble_eq_true rfl) ⟨Nat.le_of_ble_eq_true rfl, Nat.le_of_ble_eq_true rfl⟩ ⟨Nat.le_of_ble_eq_true rfl, Nat.le_of_ble_eq_true rfl⟩ (fR_k ?_) fR_x (Nat.le_of_ble_eq_true rfl) (Nat.le_of_ble_eq_true rfl)
                  try dsimp only [Option.toList, List.cons_append, List.nil_append]
                  rw [jS_jS]
                  refine v_iload (q := 176) hC dX4_decide_174 rfl rfl ?_
                  refine v_iload (q := 178) hC dX4_decide_176 rfl rfl ?_
                  refine v_callS (q := 181) (rm := rm_X1_rights) hC (c_X1_rights hl Θ _ _) k_X1_rights st_yX1_rights ml_RX4_117 dX4_decide_178 rfl  rfl rfl (Nat.le_of_ble_eq_true rfl) ⟨Nat.le_of_ble_eq_true rfl, Nat.le_of_ble_eq_true rfl⟩ ⟨Nat.le_of_ble_eq_true rfl, Nat.le_of_ble_eq_true rfl⟩ (fR_k ?_) fR_x (Nat.le_of_ble_eq_true rfl) (Nat.le_of_ble_eq_true rfl)
                  try dsimp only [Option.toList, List.cons_append, List.nil_append]
                  refine v_iconst (q := 182) (v := (-1)) hC dX4_decide_181 rfl (by decide) ?_
                  refine v_ixor (q := 183) hC dX4_decide_182 rfl ?_
                  refine v_iand (q := 184) hC dX4_decide_183 rfl ?_
                  refine v_istore (q := 186) hC dX4_decide_184 rfl (lvc rfl) (Nat.le_of_ble_eq_true rfl) (Nat.le_of_ble_eq_true rfl) rfl ?_
                  refine v_iinc (q := 189) (v := nI (j + 1)) hC dX4_decide_186 rfl rfl (nI_1 j) (lvc rfl) (Nat.le_of_ble_eq_true rfl) (Nat.le_of_ble_eq_true rfl) rfl ?_
                  refine v_goto (q := 87) hC dX4_decide_189 (by decide) ?_
                  refine ih2 (j + 1) _ _ _ _ _ (by omega) h5 h6 ?_
                  rw [← h7, dEnt, if_pos h9, dStep, ← hv]
                  first | (rw [if_pos (by simpa using c_149)]; rfl) | rw [if_neg (by simp [c_149])]
          refine v_iload (q := 89) hC dX4_decide_87 rfl rfl ?_
          refine v_bipush (q := 91) (v := 6) hC dX4_decide_89 rfl (by decide) ?_
          refine v_icmp_ge (q := 192) (q2 := 94) hC dX4_decide_91 (by decide) rfl (fun c_91 => ?_) (fun c_91 => ?_)
          · exact absurd c_91 (by rw [show (6 : Int32) = nI 6 from rfl]; exact nI_ge (by omega) (by omega))
          · refine v_iload (q := 96) hC dX4_decide_94 rfl rfl ?_
            refine v_iload (q := 98) hC dX4_decide_96 rfl rfl ?_
            refine v_icmp_ge (q := 192) (q2 := 101) hC dX4_decide_98 (by decide) rfl (fun c_98 => ?_) (fun c_98 => ?_)
            · refine v_aload_n (i := 1) (q := 193) hC dX4_decide_192 rfl rfl rfl ?_
              refine g_X9_1 (q := 196) hC dX4_decide_193 rfl rfl fl_RX4_41 ?_
              refine v_iload (q := 198) hC dX4_decide_196 rfl rfl ?_
              refine v_callV (q := 201) (rm := rm_X10_nextUp) hC (c_X10_nextUp hl Θ _ _) k_X10_nextUp im_yX10_nextUp se_yX10_nextUp ml_RX4_124 dX4_decide_198 rfl rfl rfl rfl rfl rfl (Nat.le_of_ble_eq_true rfl) ⟨Nat.le_of_ble_eq_true rfl, Nat.le_of_ble_eq_true rfl⟩ ⟨Nat.le_of_ble_eq_true rfl, Nat.le_of_ble_eq_true rfl⟩ (fR_k ?_) fR_x (Nat.le_of_ble_eq_true rfl) (Nat.le_of_ble_eq_true rfl)
              try dsimp only [Option.toList, List.cons_append, List.nil_append]
              refine v_istore (q := 203) hC dX4_decide_201 rfl (lvc rfl) (Nat.le_of_ble_eq_true rfl) (Nat.le_of_ble_eq_true rfl) rfl ?_
              refine v_iinc (q := 206) (v := nI (lv + 1)) hC dX4_decide_203 rfl rfl (nI_1 lv) (lvc rfl) (Nat.le_of_ble_eq_true rfl) (Nat.le_of_ble_eq_true rfl) rfl ?_
              refine v_goto (q := 55) hC dX4_decide_206 (by decide) ?_
              exact ih (lv + 1) _ _ _ _ _ _ _ _ (by omega) (by rw [← h2, dLev, if_neg (fun z => z.elim h5 h6), ← h7, dEnt, if_neg (Int32.not_lt.mpr c_98)]; rfl)
            · refine v_aload_n (i := 1) (q := 102) hC dX4_decide_101 rfl rfl rfl ?_
              refine g_X9_2 (q := 105) hC dX4_decide_102 rfl rfl fl_RX4_97 ?_
              refine v_iload (q := 107) hC dX4_decide_105 rfl rfl ?_
              refine v_iload (q := 109) hC dX4_decide_107 rfl rfl ?_
              refine v_callV (q := 112) (rm := rm_X6_entryAt) hC (c_X6_entryAt hl Θ _ _ _) k_X6_entryAt im_yX6_entryAt se_yX6_entryAt ml_RX4_106 dX4_decide_109 rfl rfl rfl rfl rfl rfl (Nat.le_of_ble_eq_true rfl) ⟨Nat.le_of_ble_eq_true rfl, Nat.le_of_ble_eq_true rfl⟩ ⟨Nat.le_of_ble_eq_true rfl, Nat.le_of_ble_eq_true rfl⟩ (fR_k ?_) fR_x (Nat.le_of_ble_eq_true rfl) (Nat.le_of_ble_eq_true rfl)
              try dsimp only [Option.toList, List.cons_append, List.nil_append]
              refine v_istore (q := 114) hC dX4_decide_112 rfl (lvc rfl) (Nat.le_of_ble_eq_true rfl) (Nat.le_of_ble_eq_true rfl) rfl ?_
              refine v_iload (q := 116) hC dX4_decide_114 rfl rfl ?_
              refine v_if_eq (q := 127) (q2 := 119) hC dX4_decide_116 (by decide) rfl (fun c_116 => ?_) (fun c_116 => ?_)
              · refine v_iconst (q := 128) (v := 1) hC dX4_decide_127 rfl (by decide) ?_
                refine v_goto (q := 132) hC dX4_decide_128 (by decide) ?_
                first | exact K true (by simp_all [putA_get, putA_fld, putF_get, putF_row]) (Int32.not_le.mp c_98) | exact K false (by simp_all [putA_get, putA_fld, putF_get, putF_row]) (Int32.not_le.mp c_98)
              · refine v_iload (q := 121) hC dX4_decide_119 rfl rfl ?_
                refine v_callS (q := 124) (rm := rm_X1_countsBelow) hC (c_X1_countsBelow hl Θ _ _) k_X1_countsBelow st_yX1_countsBelow ml_RX4_110 dX4_decide_121 rfl  rfl rfl (Nat.le_of_ble_eq_true rfl) ⟨Nat.le_of_ble_eq_true rfl, Nat.le_of_ble_eq_true rfl⟩ ⟨Nat.le_of_ble_eq_true rfl, Nat.le_of_ble_eq_true rfl⟩ (fR_k ?_) fR_x (Nat.le_of_ble_eq_true rfl) (Nat.le_of_ble_eq_true rfl)
                try dsimp only [Option.toList, List.cons_append, List.nil_append]
                refine v_ifb_eq (q := 131) (q2 := 127) hC dX4_decide_124 (by decide) rfl (fun c_124 => ?_) (fun c_124 => ?_)
                · refine v_iconst (q := 132) (v := 0) hC dX4_decide_131 rfl (by decide) ?_
                  first | exact K true (by simp_all [putA_get, putA_fld, putF_get, putF_row]) (Int32.not_le.mp c_98) | exact K false (by simp_all [putA_get, putA_fld, putF_get, putF_row]) (Int32.not_le.mp c_98)
                · refine v_iconst (q := 128) (v := 1) hC dX4_decide_127 rfl (by decide) ?_
                  refine v_goto (q := 132) hC dX4_decide_128 (by decide) ?_
                  first | exact K true (by simp_all [putA_get, putA_fld, putF_get, putF_row]) (Int32.not_le.mp c_98) | exact K false (by simp_all [putA_get, putA_fld, putF_get, putF_row]) (Int32.not_le.mp c_98)
      refine v_iload (q := 57) hC dX4_decide_55 rfl rfl ?_
      refine v_bipush (q := 59) (v := 20) hC dX4_decide_57 rfl (by decide) ?_
      refine v_icmp_ge (q := 209) (q2 := 62) hC dX4_decide_59 (by decide) rfl (fun c_59 => ?_) (fun c_59 => ?_)
      · exact absurd c_59 (by rw [show (20 : Int32) = nI 20 from rfl]; exact nI_ge (by omega) (by omega))
      · refine v_iload (q := 64) hC dX4_decide_62 rfl rfl ?_
        refine v_iconst (q := 65) (v := (-1)) hC dX4_decide_64 rfl (by decide) ?_
        refine v_icmp_eq (q := 209) (q2 := 68) hC dX4_decide_65 (by decide) rfl (fun c_65 => ?_) (fun c_65 => ?_)
        · refine v_vret hC dX4_decide_209 hr ?_ (Nat.le_of_ble_eq_true rfl) (Nat.le_of_ble_eq_true rfl)
          exact ⟨rfl, by rw [← h2, dLev, if_pos (by simp_all [putA_get, putA_fld, putF_get, putF_row])]⟩
        · refine v_iload (q := 70) hC dX4_decide_68 rfl rfl ?_
          refine v_if_eq (q := 209) (q2 := 73) hC dX4_decide_70 (by decide) rfl (fun c_70 => ?_) (fun c_70 => ?_)
          · refine v_vret hC dX4_decide_209 hr ?_ (Nat.le_of_ble_eq_true rfl) (Nat.le_of_ble_eq_true rfl)
            exact ⟨rfl, by rw [← h2, dLev, if_pos (by simp_all [putA_get, putA_fld, putF_get, putF_row])]⟩
          · refine v_aload_n (i := 1) (q := 74) hC dX4_decide_73 rfl rfl rfl ?_
            refine g_X9_2 (q := 77) hC dX4_decide_74 rfl rfl fl_RX4_97 ?_
            refine v_iload (q := 79) hC dX4_decide_77 rfl rfl ?_
            refine v_callV (q := 82) (rm := rm_X6_countAt) hC (c_X6_countAt hl Θ _ _) k_X6_countAt im_yX6_countAt se_yX6_countAt ml_RX4_101 dX4_decide_79 rfl rfl rfl rfl rfl rfl (Nat.le_of_ble_eq_true rfl) ⟨Nat.le_of_ble_eq_true rfl, Nat.le_of_ble_eq_true rfl⟩ ⟨Nat.le_of_ble_eq_true rfl, Nat.le_of_ble_eq_true rfl⟩ (fR_k ?_) fR_x (Nat.le_of_ble_eq_true rfl) (Nat.le_of_ble_eq_true rfl)
            try dsimp only [Option.toList, List.cons_append, List.nil_append]
            refine v_istore (q := 84) hC dX4_decide_82 rfl (lvc rfl) (Nat.le_of_ble_eq_true rfl) (Nat.le_of_ble_eq_true rfl) rfl ?_
            refine v_iconst (q := 85) (v := 0) hC dX4_decide_84 rfl (by decide) ?_
            refine v_istore (q := 87) hC dX4_decide_85 rfl (lvc rfl) (Nat.le_of_ble_eq_true rfl) (Nat.le_of_ble_eq_true rfl) rfl ?_
            exact L2 6 0 a b op _ _ rfl c_65 c_70 rfl
  have Lm : ∀ (v : Bool), v = dOwn G u o → V p l e rm_X4_decide s m args below meth c 13 Θ (fR none (jS G (dRes G u o).1 (dRes G u o).2)) 0 0 0 0 43 [some (.ref (tR Θ 0 18)), some (.ref (tR Θ 0 0)), some (.int u), some (.int o), some (.int (dGs G u)), none, none, none, none, none, none, none, none] [.int (b2i v)] (jS G (fun _ => -1) (fun _ => 0)) := by
    intro v hv
    subst hv
    refine v_istore (q := 45) hC dX4_decide_43 rfl (lvc rfl) (Nat.le_of_ble_eq_true rfl) (Nat.le_of_ble_eq_true rfl) rfl ?_
    refine v_bipush (q := 47) (v := 15) hC dX4_decide_45 rfl (by decide) ?_
    refine v_istore (q := 49) hC dX4_decide_47 rfl (lvc rfl) (Nat.le_of_ble_eq_true rfl) (Nat.le_of_ble_eq_true rfl) rfl ?_
    refine v_iload_n (i := 3) (q := 50) hC dX4_decide_49 rfl rfl rfl ?_
    refine v_istore (q := 52) hC dX4_decide_50 rfl (lvc rfl) (Nat.le_of_ble_eq_true rfl) (Nat.le_of_ble_eq_true rfl) rfl ?_
    refine v_iconst (q := 53) (v := 0) hC dX4_decide_52 rfl (by decide) ?_
    refine v_istore (q := 55) hC dX4_decide_53 rfl (lvc rfl) (Nat.le_of_ble_eq_true rfl) (Nat.le_of_ble_eq_true rfl) rfl ?_
    exact L 20 0 o 15 _ _ none none none none rfl rfl
  refine v_aload_n (i := 0) (q := 1) hC dX4_decide_0 rfl rfl rfl ?_
  refine g_X4_0 (q := 4) hC dX4_decide_1 rfl rfl fl_RX4_9 ?_
  refine v_iconst (q := 5) (v := (-1)) hC dX4_decide_4 rfl (by decide) ?_
  refine v_callS (q := 8) (rm := rm_J7_fill_53178) hC (c_J7_fill_53178 hl Θ 0 19 4 _ _ rfl (fun _ _ => rfl) (by decide)) k_J7_fill_53178 st_yJ7_fill_53178 ml_RX4_85 dX4_decide_5 rfl  rfl rfl (Nat.le_of_ble_eq_true rfl) ⟨Nat.le_of_ble_eq_true rfl, Nat.le_of_ble_eq_true rfl⟩ ⟨Nat.le_of_ble_eq_true rfl, Nat.le_of_ble_eq_true rfl⟩ (fR_k ?_) fR_x (Nat.le_of_ble_eq_true rfl) (Nat.le_of_ble_eq_true rfl)
  try dsimp only [Option.toList, List.cons_append, List.nil_append]
  refine v_aload_n (i := 0) (q := 9) hC dX4_decide_8 rfl rfl rfl ?_
  refine g_X4_1 (q := 12) hC dX4_decide_9 rfl rfl fl_RX4_15 ?_
  refine v_iconst (q := 13) (v := 0) hC dX4_decide_12 rfl (by decide) ?_
  refine v_callS (q := 16) (rm := rm_J7_fill_53178) hC (c_J7_fill_53178 hl Θ 0 20 4 _ _ rfl (fun _ _ => rfl) (by decide)) k_J7_fill_53178 st_yJ7_fill_53178 ml_RX4_85 dX4_decide_13 rfl  rfl rfl (Nat.le_of_ble_eq_true rfl) ⟨Nat.le_of_ble_eq_true rfl, Nat.le_of_ble_eq_true rfl⟩ ⟨Nat.le_of_ble_eq_true rfl, Nat.le_of_ble_eq_true rfl⟩ (fR_k ?_) fR_x (Nat.le_of_ble_eq_true rfl) (Nat.le_of_ble_eq_true rfl)
  try dsimp only [Option.toList, List.cons_append, List.nil_append]
  refine v_aload_n (i := 1) (q := 17) hC dX4_decide_16 rfl rfl rfl ?_
  refine g_X9_0 (q := 20) hC dX4_decide_17 rfl rfl fl_RX4_29 ?_
  refine v_iload_n (i := 2) (q := 21) hC dX4_decide_20 rfl rfl rfl ?_
  refine v_callV (q := 24) (rm := rm_X0_groupsOver) hC (c_X0_groupsOver hl Θ _ _ (gN G) hg.1 hg.2) k_X0_groupsOver im_yX0_groupsOver se_yX0_groupsOver ml_RX4_91 dX4_decide_21 rfl rfl rfl rfl rfl rfl (Nat.le_of_ble_eq_true rfl) ⟨Nat.le_of_ble_eq_true rfl, Nat.le_of_ble_eq_true rfl⟩ ⟨Nat.le_of_ble_eq_true rfl, Nat.le_of_ble_eq_true rfl⟩ (fR_k ?_) fR_x (Nat.le_of_ble_eq_true rfl) (Nat.le_of_ble_eq_true rfl)
  try dsimp only [Option.toList, List.cons_append, List.nil_append]
  refine v_istore (q := 26) hC dX4_decide_24 rfl (lvc rfl) (Nat.le_of_ble_eq_true rfl) (Nat.le_of_ble_eq_true rfl) rfl ?_
  refine v_aload_n (i := 1) (q := 27) hC dX4_decide_26 rfl rfl rfl ?_
  refine g_X9_1 (q := 30) hC dX4_decide_27 rfl rfl fl_RX4_41 ?_
  refine v_iload_n (i := 3) (q := 31) hC dX4_decide_30 rfl rfl rfl ?_
  refine v_callV (q := 34) (rm := rm_X10_ownerAt) hC (c_X10_ownerAt hl Θ _ _) k_X10_ownerAt im_yX10_ownerAt se_yX10_ownerAt ml_RX4_94 dX4_decide_31 rfl rfl rfl rfl rfl rfl (Nat.le_of_ble_eq_true rfl) ⟨Nat.le_of_ble_eq_true rfl, Nat.le_of_ble_eq_true rfl⟩ ⟨Nat.le_of_ble_eq_true rfl, Nat.le_of_ble_eq_true rfl⟩ (fR_k ?_) fR_x (Nat.le_of_ble_eq_true rfl) (Nat.le_of_ble_eq_true rfl)
  try dsimp only [Option.toList, List.cons_append, List.nil_append]
  refine v_iload_n (i := 2) (q := 35) hC dX4_decide_34 rfl rfl rfl ?_
  refine v_icmp_ne (q := 42) (q2 := 38) hC dX4_decide_35 (by decide) rfl (fun c_35 => ?_) (fun c_35 => ?_)
  · refine v_iconst (q := 43) (v := 0) hC dX4_decide_42 rfl (by decide) ?_
    first | exact Lm true (by simp_all [dOwn, putA_get, putA_fld, putF_get, putF_row]) | exact Lm false (by simp_all [dOwn, putA_get, putA_fld, putF_get, putF_row])
  · refine v_iconst (q := 39) (v := 1) hC dX4_decide_38 rfl (by decide) ?_
    refine v_goto (q := 43) hC dX4_decide_39 (by decide) ?_
    first | exact Lm true (by simp_all [dOwn, putA_get, putA_fld, putF_get, putF_row]) | exact Lm false (by simp_all [dOwn, putA_get, putA_fld, putF_get, putF_row])
theorem dRes_jS (G : GS) (a b : Nat → Int32) (u o : Int32) : dRes (jS G a b) u o = dRes G u o := rfl
/-- rights as a set -/
def rAcc (f : Nat → Bool) : Nat → Nat → Int32 → Int32
  | 0, _, s => s
  | n + 1, j, s => rAcc f n (j + 1) (if f j = true then s ||| ((1 : Int32) <<< (nI j &&& 31)) else s)
theorem rAcc_t {f : Nat → Bool} {n j : Nat} {s : Int32} (h : f j = true) : rAcc f (n + 1) j s = rAcc f n (j + 1) (s ||| ((1 : Int32) <<< (nI j &&& 31))) := by rw [rAcc, if_pos h]
theorem rAcc_f {f : Nat → Bool} {n j : Nat} {s : Int32} (h : f j = false) : rAcc f (n + 1) j s = rAcc f n (j + 1) s := by rw [rAcc, if_neg (by rw [h]; decide)]
def dOk (G : GS) (u o : Int32) : Bool := jIdx u (G.1 0 1 0) && tHold (G.1 0 4 0) o
def dSet (G : GS) (u o : Int32) : Int32 := rAcc (fun j => sGr (G.1 0 4 0) (G.2.1 0 6) (G.2.1 0 7) u o (nI j) ((dRes G u o).2 j)) 4 0 0
def rAt (G : GS) (u o : Int32) : Int32 := if dOk G u o = true then dSet G u o else 0
def jD (G : GS) (u o : Int32) (q : pRow) : pRow := if dOk G u o = true then dRes G u o else q
abbrev jP (G : GS) (q : pRow) : GS := jS G q.1 q.2
set_option maxHeartbeats 4000000 in
set_option maxRecDepth 20000 in
theorem c_X4_rightsAt {l : Launch} (hl : l.stackTraces = false) (Θ : cTH) (u o : Int32) (a b : Nat → Int32) (G : GS) (hg : gOk G) : Ct l yX4_rightsAt cX4_rightsAt 6 (some .int) rm_X4_rightsAt Θ [.ref (tR Θ 0 18), .ref (tR Θ 0 0), .int u, .int o] (jS G a b) (fR (some (.int (rAt G u o))) (jP G (jD G u o (a, b)))) := by
  refine ct_of (LS := [some (.ref (tR Θ 0 18)), some (.ref (tR Θ 0 0)), some (.int u), some (.int o), none, none]) hl (by decide +kernel) rfl (Nat.le_of_ble_eq_true rfl) rfl ?_
  intro p e s m args below meth c hC hr
  have L : ∀ (n j : Nat) (r : Int32), n + j = 4 → dOk G u o = true → rAcc (fun j => sGr (G.1 0 4 0) (G.2.1 0 6) (G.2.1 0 7) u o (nI j) ((dRes G u o).2 j)) n j r = dSet G u o → V p l e rm_X4_rightsAt s m args below meth c 6 Θ (fR (some (.int (rAt G u o))) (jP G (jD G u o (a, b)))) 0 0 0 0 37 [some (.ref (tR Θ 0 18)), some (.ref (tR Θ 0 0)), some (.int u), some (.int o), some (.int r), some (.int (nI j))] [] (jP G (dRes G u o)) := by
    intro n
    induction n with
    | zero =>
      intro j r h1 h2 h3
      refine v_iload (q := 39) hC dX4_rightsAt_37 rfl rfl ?_
      refine v_iconst (q := 40) (v := 4) hC dX4_rightsAt_39 rfl (by decide) ?_
      refine v_icmp_ge (q := 76) (q2 := 43) hC dX4_rightsAt_40 (by decide) rfl (fun c_40 => ?_) (fun c_40 => ?_)
      · refine v_iload (q := 78) hC dX4_rightsAt_76 rfl rfl ?_
        refine v_iret hC dX4_rightsAt_78 hr (rfl) ?_ (Nat.le_of_ble_eq_true rfl) (Nat.le_of_ble_eq_true rfl)
        exact ⟨by rw [rAt, if_pos h2, ← h3, rAcc], by rw [jD, if_pos h2]⟩
      · exact absurd (by rw [show j = 4 by omega]; decide) c_40
    | succ n ih =>
      intro j r h1 h2 h3
      have e2 := nI_clamp (show j < 2 ^ 31 by omega)
      refine v_iload (q := 39) hC dX4_rightsAt_37 rfl rfl ?_
      refine v_iconst (q := 40) (v := 4) hC dX4_rightsAt_39 rfl (by decide) ?_
      refine v_icmp_ge (q := 76) (q2 := 43) hC dX4_rightsAt_40 (by decide) rfl (fun c_40 => ?_) (fun c_40 => ?_)
      · exact absurd c_40 (by rw [show (4 : Int32) = nI 4 from rfl]; exact nI_ge (by omega) (by omega))
      · refine v_aload_n (i := 1) (q := 44) hC dX4_rightsAt_43 rfl rfl rfl ?_
        refine v_iload_n (i := 2) (q := 45) hC dX4_rightsAt_44 rfl rfl rfl ?_
        refine v_iload_n (i := 3) (q := 46) hC dX4_rightsAt_45 rfl rfl rfl ?_
        refine v_iload (q := 48) hC dX4_rightsAt_46 rfl rfl ?_
        refine v_aload_n (i := 0) (q := 49) hC dX4_rightsAt_48 rfl rfl rfl ?_
        refine g_X4_1 (q := 52) hC dX4_rightsAt_49 rfl rfl fl_RX4_15 ?_
        refine v_iload (q := 54) hC dX4_rightsAt_52 rfl rfl ?_
        refine v_iald (q := 55) hC dX4_rightsAt_54 rfl rfl rfl (vp_in_nI (by omega) (by omega)) ?_
        rw [e2]
        refine v_callV (q := 58) (rm := rm_X9_grants) hC (c_X9_grants hl Θ _ _ _ _ _) k_X9_grants im_yX9_grants se_yX9_grants ml_RX4_54 dX4_rightsAt_55 rfl rfl rfl rfl rfl rfl (Nat.le_of_ble_eq_true rfl) ⟨Nat.le_of_ble_eq_true rfl, Nat.le_of_ble_eq_true rfl⟩ ⟨Nat.le_of_ble_eq_true rfl, Nat.le_of_ble_eq_true rfl⟩ (fR_k ?_) fR_x (Nat.le_of_ble_eq_true rfl) (Nat.le_of_ble_eq_true rfl)
        try dsimp only [Option.toList, List.cons_append, List.nil_append]
        refine v_ifb_eq (q := 70) (q2 := 61) hC dX4_rightsAt_58 (by decide) rfl (fun c_58 => ?_) (fun c_58 => ?_)
        · refine v_iinc (q := 73) (v := nI (j + 1)) hC dX4_rightsAt_70 rfl rfl (nI_1 j) (lvc rfl) (Nat.le_of_ble_eq_true rfl) (Nat.le_of_ble_eq_true rfl) rfl ?_
          refine v_goto (q := 37) hC dX4_rightsAt_73 (by decide) ?_
          refine ih (j + 1) _ (by omega) h2 ?_
          rw [← h3]
          first | refine (rAcc_t ?_).symm; exact c_58 | refine (rAcc_f ?_).symm; exact c_58
        · refine v_iload (q := 63) hC dX4_rightsAt_61 rfl rfl ?_
          refine v_iconst (q := 64) (v := 1) hC dX4_rightsAt_63 rfl (by decide) ?_
          refine v_iload (q := 66) hC dX4_rightsAt_64 rfl rfl ?_
          refine v_ishl (q := 67) hC dX4_rightsAt_66 rfl ?_
          refine v_ior (q := 68) hC dX4_rightsAt_67 rfl ?_
          refine v_istore (q := 70) hC dX4_rightsAt_68 rfl (lvc rfl) (Nat.le_of_ble_eq_true rfl) (Nat.le_of_ble_eq_true rfl) rfl ?_
          refine v_iinc (q := 73) (v := nI (j + 1)) hC dX4_rightsAt_70 rfl rfl (nI_1 j) (lvc rfl) (Nat.le_of_ble_eq_true rfl) (Nat.le_of_ble_eq_true rfl) rfl ?_
          refine v_goto (q := 37) hC dX4_rightsAt_73 (by decide) ?_
          refine ih (j + 1) _ (by omega) h2 ?_
          rw [← h3]
          first | refine (rAcc_t ?_).symm; exact c_58 | refine (rAcc_f ?_).symm; exact c_58
  refine v_aload_n (i := 1) (q := 1) hC dX4_rightsAt_0 rfl rfl rfl ?_
  refine g_X9_0 (q := 4) hC dX4_rightsAt_1 rfl rfl fl_RX4_29 ?_
  refine v_iload_n (i := 2) (q := 5) hC dX4_rightsAt_4 rfl rfl rfl ?_
  refine v_callV (q := 8) (rm := rm_X0_hasUser) hC (c_X0_hasUser hl Θ _ _) k_X0_hasUser im_yX0_hasUser se_yX0_hasUser ml_RX4_35 dX4_rightsAt_5 rfl rfl rfl rfl rfl rfl (Nat.le_of_ble_eq_true rfl) ⟨Nat.le_of_ble_eq_true rfl, Nat.le_of_ble_eq_true rfl⟩ ⟨Nat.le_of_ble_eq_true rfl, Nat.le_of_ble_eq_true rfl⟩ (fR_k ?_) fR_x (Nat.le_of_ble_eq_true rfl) (Nat.le_of_ble_eq_true rfl)
  try dsimp only [Option.toList, List.cons_append, List.nil_append]
  refine v_ifb_eq (q := 22) (q2 := 11) hC dX4_rightsAt_8 (by decide) rfl (fun c_8 => ?_) (fun c_8 => ?_)
  · refine v_iconst (q := 23) (v := 0) hC dX4_rightsAt_22 rfl (by decide) ?_
    refine v_iret hC dX4_rightsAt_23 hr (rfl) ?_ (Nat.le_of_ble_eq_true rfl) (Nat.le_of_ble_eq_true rfl)
    exact ⟨by rw [rAt, if_neg (by simp_all [dOk, putA_get, putA_fld, putF_get, putF_row])], by rw [jD, if_neg (by simp_all [dOk, putA_get, putA_fld, putF_get, putF_row])]⟩
  · refine v_aload_n (i := 1) (q := 12) hC dX4_rightsAt_11 rfl rfl rfl ?_
    refine g_X9_1 (q := 15) hC dX4_rightsAt_12 rfl rfl fl_RX4_41 ?_
    refine v_iload_n (i := 3) (q := 16) hC dX4_rightsAt_15 rfl rfl rfl ?_
    refine v_callV (q := 19) (rm := rm_X10_holds) hC (c_X10_holds hl Θ _ _) k_X10_holds im_yX10_holds se_yX10_holds ml_RX4_45 dX4_rightsAt_16 rfl rfl rfl rfl rfl rfl (Nat.le_of_ble_eq_true rfl) ⟨Nat.le_of_ble_eq_true rfl, Nat.le_of_ble_eq_true rfl⟩ ⟨Nat.le_of_ble_eq_true rfl, Nat.le_of_ble_eq_true rfl⟩ (fR_k ?_) fR_x (Nat.le_of_ble_eq_true rfl) (Nat.le_of_ble_eq_true rfl)
    try dsimp only [Option.toList, List.cons_append, List.nil_append]
    refine v_ifb_ne (q := 24) (q2 := 22) hC dX4_rightsAt_19 (by decide) rfl (fun c_19 => ?_) (fun c_19 => ?_)
    · refine v_aload_n (i := 0) (q := 25) hC dX4_rightsAt_24 rfl rfl rfl ?_
      refine v_aload_n (i := 1) (q := 26) hC dX4_rightsAt_25 rfl rfl rfl ?_
      refine v_iload_n (i := 2) (q := 27) hC dX4_rightsAt_26 rfl rfl rfl ?_
      refine v_iload_n (i := 3) (q := 28) hC dX4_rightsAt_27 rfl rfl rfl ?_
      refine v_callV (q := 31) (rm := rm_X4_decide) hC (c_X4_decide hl Θ u o (jS G a b) hg) k_X4_decide im_yX4_decide se_yX4_decide ml_RX4_50 dX4_rightsAt_28 rfl rfl rfl rfl rfl rfl (Nat.le_of_ble_eq_true rfl) ⟨Nat.le_of_ble_eq_true rfl, Nat.le_of_ble_eq_true rfl⟩ ⟨Nat.le_of_ble_eq_true rfl, Nat.le_of_ble_eq_true rfl⟩ (fR_k ?_) fR_x (Nat.le_of_ble_eq_true rfl) (Nat.le_of_ble_eq_true rfl)
      try dsimp only [Option.toList, List.cons_append, List.nil_append]
      rw [jS_jS, dRes_jS]
      refine v_iconst (q := 32) (v := 0) hC dX4_rightsAt_31 rfl (by decide) ?_
      refine v_istore (q := 34) hC dX4_rightsAt_32 rfl (lvc rfl) (Nat.le_of_ble_eq_true rfl) (Nat.le_of_ble_eq_true rfl) rfl ?_
      refine v_iconst (q := 35) (v := 0) hC dX4_rightsAt_34 rfl (by decide) ?_
      refine v_istore (q := 37) hC dX4_rightsAt_35 rfl (lvc rfl) (Nat.le_of_ble_eq_true rfl) (Nat.le_of_ble_eq_true rfl) rfl ?_
      exact L 4 0 0 rfl (by simp_all [dOk, putA_get, putA_fld, putF_get, putF_row]) rfl
    · refine v_iconst (q := 23) (v := 0) hC dX4_rightsAt_22 rfl (by decide) ?_
      refine v_iret hC dX4_rightsAt_23 hr (rfl) ?_ (Nat.le_of_ble_eq_true rfl) (Nat.le_of_ble_eq_true rfl)
      exact ⟨by rw [rAt, if_neg (by simp_all [dOk, putA_get, putA_fld, putF_get, putF_row])], by rw [jD, if_neg (by simp_all [dOk, putA_get, putA_fld, putF_get, putF_row])]⟩
set_option maxHeartbeats 4000000 in
set_option maxRecDepth 20000 in
theorem c_X4_grants {l : Launch} (hl : l.stackTraces = false) (Θ : cTH) (u o r : Int32) (a b : Nat → Int32) (G : GS) (hg : gOk G) : Ct l yX4_grants cX4_grants 5 (some .boolean) rm_X4_grants Θ [.ref (tR Θ 0 18), .ref (tR Θ 0 0), .int u, .int o, .int r] (jS G a b) (fR (some (.int (b2i (jHas (rAt G u o) r)))) (jP G (jD G u o (a, b)))) := by
  refine ct_of (LS := [some (.ref (tR Θ 0 18)), some (.ref (tR Θ 0 0)), some (.int u), some (.int o), some (.int r)]) hl (by decide +kernel) rfl (Nat.le_of_ble_eq_true rfl) rfl ?_
  intro p e s m args below meth c hC hr
  refine v_aload_n (i := 0) (q := 1) hC dX4_grants_0 rfl rfl rfl ?_
  refine v_aload_n (i := 1) (q := 2) hC dX4_grants_1 rfl rfl rfl ?_
  refine v_iload_n (i := 2) (q := 3) hC dX4_grants_2 rfl rfl rfl ?_
  refine v_iload_n (i := 3) (q := 4) hC dX4_grants_3 rfl rfl rfl ?_
  refine v_callV (q := 7) (rm := rm_X4_rightsAt) hC (c_X4_rightsAt hl Θ u o a b G hg) k_X4_rightsAt im_yX4_rightsAt se_yX4_rightsAt ml_RX4_21 dX4_grants_4 rfl rfl rfl rfl rfl rfl (Nat.le_of_ble_eq_true rfl) ⟨Nat.le_of_ble_eq_true rfl, Nat.le_of_ble_eq_true rfl⟩ ⟨Nat.le_of_ble_eq_true rfl, Nat.le_of_ble_eq_true rfl⟩ (fR_k ?_) fR_x (Nat.le_of_ble_eq_true rfl) (Nat.le_of_ble_eq_true rfl)
  try dsimp only [Option.toList, List.cons_append, List.nil_append]
  refine v_iload (q := 9) hC dX4_grants_7 rfl rfl ?_
  refine v_callN (q := 12) (rm := rm_X11_has) hC (c_X11_has hl Θ _ _ _) k_X11_has st_yX11_has nl_RX4_25 dX4_grants_9 rfl  rfl rfl (Nat.le_of_ble_eq_true rfl) ⟨Nat.le_of_ble_eq_true rfl, Nat.le_of_ble_eq_true rfl⟩ ⟨Nat.le_of_ble_eq_true rfl, Nat.le_of_ble_eq_true rfl⟩ (fR_k ?_) fR_x (Nat.le_of_ble_eq_true rfl) (Nat.le_of_ble_eq_true rfl)
  try dsimp only [Option.toList, List.cons_append, List.nil_append]
  refine v_iret hC dX4_grants_12 hr (by first | rfl | exact nar_b) ?_ (Nat.le_of_ble_eq_true rfl) (Nat.le_of_ble_eq_true rfl)
  exact ⟨rfl, rfl⟩
set_option maxHeartbeats 4000000 in
set_option maxRecDepth 20000 in
theorem c_X4_decidingPlace {l : Launch} (hl : l.stackTraces = false) (Θ : cTH) (u o r : Int32) (a b : Nat → Int32) (G : GS) (hg : gOk G) : Ct l yX4_decidingPlace cX4_decidingPlace 5 (some .int) rm_X4_decidingPlace Θ [.ref (tR Θ 0 18), .ref (tR Θ 0 0), .int u, .int o, .int r] (jS G a b) (fR (some (.int (if jIdx r 4 = true then (dRes G u o).1 r.toNatClampNeg else -1))) (jP G (dRes G u o))) := by
  refine ct_of (LS := [some (.ref (tR Θ 0 18)), some (.ref (tR Θ 0 0)), some (.int u), some (.int o), some (.int r)]) hl (by decide +kernel) rfl (Nat.le_of_ble_eq_true rfl) rfl ?_
  intro p e s m args below meth c hC hr
  refine v_aload_n (i := 0) (q := 1) hC dX4_decidingPlace_0 rfl rfl rfl ?_
  refine v_aload_n (i := 1) (q := 2) hC dX4_decidingPlace_1 rfl rfl rfl ?_
  refine v_iload_n (i := 2) (q := 3) hC dX4_decidingPlace_2 rfl rfl rfl ?_
  refine v_iload_n (i := 3) (q := 4) hC dX4_decidingPlace_3 rfl rfl rfl ?_
  refine v_callV (q := 7) (rm := rm_X4_decide) hC (c_X4_decide hl Θ u o (jS G a b) hg) k_X4_decide im_yX4_decide se_yX4_decide ml_RX4_50 dX4_decidingPlace_4 rfl rfl rfl rfl rfl rfl (Nat.le_of_ble_eq_true rfl) ⟨Nat.le_of_ble_eq_true rfl, Nat.le_of_ble_eq_true rfl⟩ ⟨Nat.le_of_ble_eq_true rfl, Nat.le_of_ble_eq_true rfl⟩ (fR_k ?_) fR_x (Nat.le_of_ble_eq_true rfl) (Nat.le_of_ble_eq_true rfl)
  try dsimp only [Option.toList, List.cons_append, List.nil_append]
  rw [jS_jS, dRes_jS]
  refine v_iload (q := 9) hC dX4_decidingPlace_7 rfl rfl ?_
  refine v_iconst (q := 10) (v := 4) hC dX4_decidingPlace_9 rfl (by decide) ?_
  refine v_callN (q := 13) (rm := rm_X11_isIndex) hC (c_X11_isIndex hl Θ _ _ _) k_X11_isIndex st_yX11_isIndex nl_RX4_58 dX4_decidingPlace_10 rfl  rfl rfl (Nat.le_of_ble_eq_true rfl) ⟨Nat.le_of_ble_eq_true rfl, Nat.le_of_ble_eq_true rfl⟩ ⟨Nat.le_of_ble_eq_true rfl, Nat.le_of_ble_eq_true rfl⟩ (fR_k ?_) fR_x (Nat.le_of_ble_eq_true rfl) (Nat.le_of_ble_eq_true rfl)
  try dsimp only [Option.toList, List.cons_append, List.nil_append]
  refine v_ifb_eq (q := 26) (q2 := 16) hC dX4_decidingPlace_13 (by decide) rfl (fun c_13 => ?_) (fun c_13 => ?_)
  · refine v_iconst (q := 27) (v := (-1)) hC dX4_decidingPlace_26 rfl (by decide) ?_
    refine v_iret hC dX4_decidingPlace_27 hr (rfl) ?_ (Nat.le_of_ble_eq_true rfl) (Nat.le_of_ble_eq_true rfl)
    exact ⟨by simp_all [putA_get, putA_fld, putF_get, putF_row], rfl⟩
  · refine v_aload_n (i := 0) (q := 17) hC dX4_decidingPlace_16 rfl rfl rfl ?_
    refine g_X4_0 (q := 20) hC dX4_decidingPlace_17 rfl rfl fl_RX4_9 ?_
    refine v_iload (q := 22) hC dX4_decidingPlace_20 rfl rfl ?_
    refine v_iald (q := 23) hC dX4_decidingPlace_22 rfl rfl rfl (jIdx_in ‹_› rfl) ?_
    refine v_goto (q := 27) hC dX4_decidingPlace_23 (by decide) ?_
    refine v_iret hC dX4_decidingPlace_27 hr (rfl) ?_ (Nat.le_of_ble_eq_true rfl) (Nat.le_of_ble_eq_true rfl)
    exact ⟨by simp_all [putA_get, putA_fld, putF_get, putF_row], rfl⟩
def jStop (G : GS) (u o r : Int32) (q : pRow) : Bool := !jHas (rAt G u o) r && (jIdx r 4 && eAllows ((jD G u o q).2 r.toNatClampNeg))
set_option maxHeartbeats 4000000 in
set_option maxRecDepth 20000 in
theorem c_X4_isStopped {l : Launch} (hl : l.stackTraces = false) (Θ : cTH) (u o r : Int32) (a b : Nat → Int32) (G : GS) (hg : gOk G) : Ct l yX4_isStopped cX4_isStopped 5 (some .boolean) rm_X4_isStopped Θ [.ref (tR Θ 0 18), .ref (tR Θ 0 0), .int u, .int o, .int r] (jS G a b) (fR (some (.int (b2i (jStop G u o r (a, b))))) (jP G (jD G u o (a, b)))) := by
  refine ct_of (LS := [some (.ref (tR Θ 0 18)), some (.ref (tR Θ 0 0)), some (.int u), some (.int o), some (.int r)]) hl (by decide +kernel) rfl (Nat.le_of_ble_eq_true rfl) rfl ?_
  intro p e s m args below meth c hC hr
  refine v_aload_n (i := 0) (q := 1) hC dX4_isStopped_0 rfl rfl rfl ?_
  refine v_aload_n (i := 1) (q := 2) hC dX4_isStopped_1 rfl rfl rfl ?_
  refine v_iload_n (i := 2) (q := 3) hC dX4_isStopped_2 rfl rfl rfl ?_
  refine v_iload_n (i := 3) (q := 4) hC dX4_isStopped_3 rfl rfl rfl ?_
  refine v_callV (q := 7) (rm := rm_X4_rightsAt) hC (c_X4_rightsAt hl Θ u o a b G hg) k_X4_rightsAt im_yX4_rightsAt se_yX4_rightsAt ml_RX4_21 dX4_isStopped_4 rfl rfl rfl rfl rfl rfl (Nat.le_of_ble_eq_true rfl) ⟨Nat.le_of_ble_eq_true rfl, Nat.le_of_ble_eq_true rfl⟩ ⟨Nat.le_of_ble_eq_true rfl, Nat.le_of_ble_eq_true rfl⟩ (fR_k ?_) fR_x (Nat.le_of_ble_eq_true rfl) (Nat.le_of_ble_eq_true rfl)
  try dsimp only [Option.toList, List.cons_append, List.nil_append]
  refine v_iload (q := 9) hC dX4_isStopped_7 rfl rfl ?_
  refine v_callN (q := 12) (rm := rm_X11_has) hC (c_X11_has hl Θ _ _ _) k_X11_has st_yX11_has nl_RX4_25 dX4_isStopped_9 rfl  rfl rfl (Nat.le_of_ble_eq_true rfl) ⟨Nat.le_of_ble_eq_true rfl, Nat.le_of_ble_eq_true rfl⟩ ⟨Nat.le_of_ble_eq_true rfl, Nat.le_of_ble_eq_true rfl⟩ (fR_k ?_) fR_x (Nat.le_of_ble_eq_true rfl) (Nat.le_of_ble_eq_true rfl)
  try dsimp only [Option.toList, List.cons_append, List.nil_append]
  refine v_ifb_ne (q := 41) (q2 := 15) hC dX4_isStopped_12 (by decide) rfl (fun c_12 => ?_) (fun c_12 => ?_)
  · refine v_iconst (q := 42) (v := 0) hC dX4_isStopped_41 rfl (by decide) ?_
    refine v_iret hC dX4_isStopped_42 hr (by first | rfl | exact nar_b) ?_ (Nat.le_of_ble_eq_true rfl) (Nat.le_of_ble_eq_true rfl)
    exact ⟨by simp_all [jStop, b2i, putA_get, putA_fld, putF_get, putF_row], rfl⟩
  · refine v_iload (q := 17) hC dX4_isStopped_15 rfl rfl ?_
    refine v_iconst (q := 18) (v := 4) hC dX4_isStopped_17 rfl (by decide) ?_
    refine v_callN (q := 21) (rm := rm_X11_isIndex) hC (c_X11_isIndex hl Θ _ _ _) k_X11_isIndex st_yX11_isIndex nl_RX4_58 dX4_isStopped_18 rfl  rfl rfl (Nat.le_of_ble_eq_true rfl) ⟨Nat.le_of_ble_eq_true rfl, Nat.le_of_ble_eq_true rfl⟩ ⟨Nat.le_of_ble_eq_true rfl, Nat.le_of_ble_eq_true rfl⟩ (fR_k ?_) fR_x (Nat.le_of_ble_eq_true rfl) (Nat.le_of_ble_eq_true rfl)
    try dsimp only [Option.toList, List.cons_append, List.nil_append]
    refine v_ifb_eq (q := 41) (q2 := 24) hC dX4_isStopped_21 (by decide) rfl (fun c_21 => ?_) (fun c_21 => ?_)
    · refine v_iconst (q := 42) (v := 0) hC dX4_isStopped_41 rfl (by decide) ?_
      refine v_iret hC dX4_isStopped_42 hr (by first | rfl | exact nar_b) ?_ (Nat.le_of_ble_eq_true rfl) (Nat.le_of_ble_eq_true rfl)
      exact ⟨by simp_all [jStop, b2i, putA_get, putA_fld, putF_get, putF_row], rfl⟩
    · refine v_aload_n (i := 0) (q := 25) hC dX4_isStopped_24 rfl rfl rfl ?_
      refine g_X4_1 (q := 28) hC dX4_isStopped_25 rfl rfl fl_RX4_15 ?_
      refine v_iload (q := 30) hC dX4_isStopped_28 rfl rfl ?_
      refine v_iald (q := 31) hC dX4_isStopped_30 rfl rfl rfl (jIdx_in ‹_› rfl) ?_
      refine v_callS (q := 34) (rm := rm_X1_allows) hC (c_X1_allows hl Θ _ _) k_X1_allows st_yX1_allows ml_RX4_61 dX4_isStopped_31 rfl  rfl rfl (Nat.le_of_ble_eq_true rfl) ⟨Nat.le_of_ble_eq_true rfl, Nat.le_of_ble_eq_true rfl⟩ ⟨Nat.le_of_ble_eq_true rfl, Nat.le_of_ble_eq_true rfl⟩ (fR_k ?_) fR_x (Nat.le_of_ble_eq_true rfl) (Nat.le_of_ble_eq_true rfl)
      try dsimp only [Option.toList, List.cons_append, List.nil_append]
      refine v_ifb_eq (q := 41) (q2 := 37) hC dX4_isStopped_34 (by decide) rfl (fun c_34 => ?_) (fun c_34 => ?_)
      · refine v_iconst (q := 42) (v := 0) hC dX4_isStopped_41 rfl (by decide) ?_
        refine v_iret hC dX4_isStopped_42 hr (by first | rfl | exact nar_b) ?_ (Nat.le_of_ble_eq_true rfl) (Nat.le_of_ble_eq_true rfl)
        exact ⟨by simp_all [jStop, b2i, putA_get, putA_fld, putF_get, putF_row], rfl⟩
      · refine v_iconst (q := 38) (v := 1) hC dX4_isStopped_37 rfl (by decide) ?_
        refine v_goto (q := 42) hC dX4_isStopped_38 (by decide) ?_
        refine v_iret hC dX4_isStopped_42 hr (by first | rfl | exact nar_b) ?_ (Nat.le_of_ble_eq_true rfl) (Nat.le_of_ble_eq_true rfl)
        exact ⟨by simp_all [jStop, b2i, putA_get, putA_fld, putF_get, putF_row], rfl⟩
/-- counting over the users below a bound -/
def cuL (f : Nat → Bool) (us : Int32) : Nat → Nat → Int32 → Int32
  | 0, _, c => c
  | n + 1, j, c => if nI j < us then cuL f us n (j + 1) (if f j = true then c + 1 else c) else c
theorem cuL_e {f : Nat → Bool} {us : Int32} {n j : Nat} {t : Int32} (h : us ≤ nI j) : cuL f us (n + 1) j t = t := by rw [cuL, if_neg (Int32.not_lt.mpr h)]
theorem cuL_t {f : Nat → Bool} {us : Int32} {n j : Nat} {t : Int32} (h : ¬ us ≤ nI j) (h2 : f j = true) : cuL f us (n + 1) j t = cuL f us n (j + 1) (t + 1) := by rw [cuL, if_pos (Int32.not_le.mp h), if_pos h2]
theorem cuL_f {f : Nat → Bool} {us : Int32} {n j : Nat} {t : Int32} (h : ¬ us ≤ nI j) (h2 : f j = false) : cuL f us (n + 1) j t = cuL f us n (j + 1) t := by rw [cuL, if_pos (Int32.not_le.mp h), if_neg (by rw [h2]; decide)]
def cuAt (G : GS) (o r : Int32) : Int32 := cuL (fun j => jHas (rAt G (nI j) o) r) (G.1 0 1 0) 12 0 0
set_option maxHeartbeats 4000000 in
set_option maxRecDepth 20000 in
theorem c_X4_countUsers {l : Launch} (hl : l.stackTraces = false) (Θ : cTH) (o r : Int32) (a b : Nat → Int32) (G : GS) (hg : gOk G) : Ct l yX4_countUsers cX4_countUsers 6 (some .int) rm_X4_countUsers Θ [.ref (tR Θ 0 18), .ref (tR Θ 0 0), .int o, .int r] (jS G a b) (jQ (some (.int (cuAt G o r))) G) := by
  refine ct_of (LS := [some (.ref (tR Θ 0 18)), some (.ref (tR Θ 0 0)), some (.int o), some (.int r), none, none]) hl (by decide +kernel) rfl (Nat.le_of_ble_eq_true rfl) rfl ?_
  intro p e s m args below meth c hC hr
  have L : ∀ (n j : Nat) (t : Int32) (a b : Nat → Int32), n + j = 12 → cuL (fun j => jHas (rAt G (nI j) o) r) (G.1 0 1 0) n j t = cuAt G o r → V p l e rm_X4_countUsers s m args below meth c 6 Θ (jQ (some (.int (cuAt G o r))) G) 0 0 0 0 6 [some (.ref (tR Θ 0 18)), some (.ref (tR Θ 0 0)), some (.int o), some (.int r), some (.int t), some (.int (nI j))] [] (jS G a b) := by
    intro n
    induction n with
    | zero =>
      intro j t a b h1 h2
      refine v_iload (q := 8) hC dX4_countUsers_6 rfl rfl ?_
      refine v_bipush (q := 10) (v := 12) hC dX4_countUsers_8 rfl (by decide) ?_
      refine v_icmp_ge (q := 49) (q2 := 13) hC dX4_countUsers_10 (by decide) rfl (fun c_10 => ?_) (fun c_10 => ?_)
      · refine v_iload (q := 51) hC dX4_countUsers_49 rfl rfl ?_
        refine v_iret hC dX4_countUsers_51 hr (rfl) ?_ (Nat.le_of_ble_eq_true rfl) (Nat.le_of_ble_eq_true rfl)
        exact ⟨by rw [← h2, cuL], a, b, rfl⟩
      · exact absurd (by rw [show j = 12 by omega]; decide) c_10
    | succ n ih =>
      intro j t a b h1 h2
      refine v_iload (q := 8) hC dX4_countUsers_6 rfl rfl ?_
      refine v_bipush (q := 10) (v := 12) hC dX4_countUsers_8 rfl (by decide) ?_
      refine v_icmp_ge (q := 49) (q2 := 13) hC dX4_countUsers_10 (by decide) rfl (fun c_10 => ?_) (fun c_10 => ?_)
      · exact absurd c_10 (by rw [show (12 : Int32) = nI 12 from rfl]; exact nI_ge (by omega) (by omega))
      · refine v_iload (q := 15) hC dX4_countUsers_13 rfl rfl ?_
        refine v_aload_n (i := 1) (q := 16) hC dX4_countUsers_15 rfl rfl rfl ?_
        refine g_X9_0 (q := 19) hC dX4_countUsers_16 rfl rfl fl_RX4_29 ?_
        refine g_X0_0 (q := 22) hC dX4_countUsers_19 rfl rfl fl_RX4_66 ?_
        refine v_icmp_ge (q := 49) (q2 := 25) hC dX4_countUsers_22 (by decide) rfl (fun c_22 => ?_) (fun c_22 => ?_)
        · refine v_iload (q := 51) hC dX4_countUsers_49 rfl rfl ?_
          refine v_iret hC dX4_countUsers_51 hr (rfl) ?_ (Nat.le_of_ble_eq_true rfl) (Nat.le_of_ble_eq_true rfl)
          refine ⟨?_, a, b, rfl⟩
          rw [← h2]
          refine congrArg (fun x => Sum.inl (some (Value.int x))) (cuL_e ?_).symm
          exact c_22
        · refine v_aload_n (i := 0) (q := 26) hC dX4_countUsers_25 rfl rfl rfl ?_
          refine v_aload_n (i := 1) (q := 27) hC dX4_countUsers_26 rfl rfl rfl ?_
          refine v_iload (q := 29) hC dX4_countUsers_27 rfl rfl ?_
          refine v_iload_n (i := 2) (q := 30) hC dX4_countUsers_29 rfl rfl rfl ?_
          refine v_callV (q := 33) (rm := rm_X4_rightsAt) hC (c_X4_rightsAt hl Θ (nI j) o a b G hg) k_X4_rightsAt im_yX4_rightsAt se_yX4_rightsAt ml_RX4_21 dX4_countUsers_30 rfl rfl rfl rfl rfl rfl (Nat.le_of_ble_eq_true rfl) ⟨Nat.le_of_ble_eq_true rfl, Nat.le_of_ble_eq_true rfl⟩ ⟨Nat.le_of_ble_eq_true rfl, Nat.le_of_ble_eq_true rfl⟩ (fR_k ?_) fR_x (Nat.le_of_ble_eq_true rfl) (Nat.le_of_ble_eq_true rfl)
          try dsimp only [Option.toList, List.cons_append, List.nil_append]
          refine v_iload_n (i := 3) (q := 34) hC dX4_countUsers_33 rfl rfl rfl ?_
          refine v_callN (q := 37) (rm := rm_X11_has) hC (c_X11_has hl Θ _ _ _) k_X11_has st_yX11_has nl_RX4_25 dX4_countUsers_34 rfl  rfl rfl (Nat.le_of_ble_eq_true rfl) ⟨Nat.le_of_ble_eq_true rfl, Nat.le_of_ble_eq_true rfl⟩ ⟨Nat.le_of_ble_eq_true rfl, Nat.le_of_ble_eq_true rfl⟩ (fR_k ?_) fR_x (Nat.le_of_ble_eq_true rfl) (Nat.le_of_ble_eq_true rfl)
          try dsimp only [Option.toList, List.cons_append, List.nil_append]
          refine v_ifb_eq (q := 43) (q2 := 40) hC dX4_countUsers_37 (by decide) rfl (fun c_37 => ?_) (fun c_37 => ?_)
          · refine v_iinc (q := 46) (v := nI (j + 1)) hC dX4_countUsers_43 rfl rfl (nI_1 j) (lvc rfl) (Nat.le_of_ble_eq_true rfl) (Nat.le_of_ble_eq_true rfl) rfl ?_
            refine v_goto (q := 6) hC dX4_countUsers_46 (by decide) ?_
            refine ih (j + 1) _ _ _ (by omega) ?_
            rw [← h2]
            first | refine (cuL_t c_22 ?_).symm; exact c_37 | refine (cuL_f c_22 ?_).symm; exact c_37
          · refine v_iinc (q := 43) hC dX4_countUsers_40 rfl rfl rfl (lvc rfl) (Nat.le_of_ble_eq_true rfl) (Nat.le_of_ble_eq_true rfl) rfl ?_
            refine v_iinc (q := 46) (v := nI (j + 1)) hC dX4_countUsers_43 rfl rfl (nI_1 j) (lvc rfl) (Nat.le_of_ble_eq_true rfl) (Nat.le_of_ble_eq_true rfl) rfl ?_
            refine v_goto (q := 6) hC dX4_countUsers_46 (by decide) ?_
            refine ih (j + 1) _ _ _ (by omega) ?_
            rw [← h2]
            first | refine (cuL_t c_22 ?_).symm; exact c_37 | refine (cuL_f c_22 ?_).symm; exact c_37
  refine v_iconst (q := 1) (v := 0) hC dX4_countUsers_0 rfl (by decide) ?_
  refine v_istore (q := 3) hC dX4_countUsers_1 rfl (lvc rfl) (Nat.le_of_ble_eq_true rfl) (Nat.le_of_ble_eq_true rfl) rfl ?_
  refine v_iconst (q := 4) (v := 0) hC dX4_countUsers_3 rfl (by decide) ?_
  refine v_istore (q := 6) hC dX4_countUsers_4 rfl (lvc rfl) (Nat.le_of_ble_eq_true rfl) (Nat.le_of_ble_eq_true rfl) rfl ?_
  exact L 12 0 0 a b rfl rfl
/-- a fold over the places 0 .. 3, 0 .. 19, 0 .. 11 -/
def foldI (f : Nat → Int32 → Int32) : Nat → Nat → Int32 → Int32
  | 0, _, c => c
  | n + 1, j, c => foldI f n (j + 1) (f j c)
def dForP (gr x : Int32) : Bool := eAllows x && (decide (eKind x = 1) && decide (eNum x = gr))
def dFor (w : Nat → Int32) (gr : Int32) : Int32 := rAcc (fun j => dForP gr (w j)) 4 0 0
set_option maxHeartbeats 4000000 in
set_option maxRecDepth 20000 in
theorem c_X4_decidedFor {l : Launch} (hl : l.stackTraces = false) (Θ : cTH) (gr : Int32) (G : GS) : Ct l yX4_decidedFor cX4_decidedFor 5 (some .int) rm_X4_decidedFor Θ [.ref (tR Θ 0 18), .int gr] (G) (fR (some (.int (dFor (G.2.1 0 20) gr))) G) := by
  refine ct_of (LS := [some (.ref (tR Θ 0 18)), some (.int gr), none, none, none]) hl (by decide +kernel) rfl (Nat.le_of_ble_eq_true rfl) rfl ?_
  intro p e s m args below meth c hC hr
  have L : ∀ (n j : Nat) (t : Int32) (x4 : Option Value), n + j = 4 → rAcc (fun j => dForP gr (G.2.1 0 20 j)) n j t = dFor (G.2.1 0 20) gr → V p l e rm_X4_decidedFor s m args below meth c 5 Θ (fR (some (.int (dFor (G.2.1 0 20) gr))) G) 0 0 0 0 4 [some (.ref (tR Θ 0 18)), some (.int gr), some (.int t), some (.int (nI j)), x4] [] (G) := by
    intro n
    induction n with
    | zero =>
      intro j t x4 h1 h2
      refine v_iload_n (i := 3) (q := 5) hC dX4_decidedFor_4 rfl rfl rfl ?_
      refine v_iconst (q := 6) (v := 4) hC dX4_decidedFor_5 rfl (by decide) ?_
      refine v_icmp_ge (q := 55) (q2 := 9) hC dX4_decidedFor_6 (by decide) rfl (fun c_6 => ?_) (fun c_6 => ?_)
      · refine v_iload_n (i := 2) (q := 56) hC dX4_decidedFor_55 rfl rfl rfl ?_
        refine v_iret hC dX4_decidedFor_56 hr (rfl) ?_ (Nat.le_of_ble_eq_true rfl) (Nat.le_of_ble_eq_true rfl)
        exact ⟨by rw [← h2, rAcc], rfl⟩
      · exact absurd (by rw [show j = 4 by omega]; decide) c_6
    | succ n ih =>
      intro j t x4 h1 h2
      have e2 := nI_clamp (show j < 2 ^ 31 by omega)
      refine v_iload_n (i := 3) (q := 5) hC dX4_decidedFor_4 rfl rfl rfl ?_
      refine v_iconst (q := 6) (v := 4) hC dX4_decidedFor_5 rfl (by decide) ?_
      refine v_icmp_ge (q := 55) (q2 := 9) hC dX4_decidedFor_6 (by decide) rfl (fun c_6 => ?_) (fun c_6 => ?_)
      · exact absurd c_6 (by rw [show (4 : Int32) = nI 4 from rfl]; exact nI_ge (by omega) (by omega))
      · refine v_aload_n (i := 0) (q := 10) hC dX4_decidedFor_9 rfl rfl rfl ?_
        refine g_X4_1 (q := 13) hC dX4_decidedFor_10 rfl rfl fl_RX4_15 ?_
        refine v_iload_n (i := 3) (q := 14) hC dX4_decidedFor_13 rfl rfl rfl ?_
        refine v_iald (q := 15) hC dX4_decidedFor_14 rfl rfl rfl (vp_in_nI (by omega) (by omega)) ?_
        rw [e2]
        refine v_istore (q := 17) hC dX4_decidedFor_15 rfl (lvc rfl) (Nat.le_of_ble_eq_true rfl) (Nat.le_of_ble_eq_true rfl) rfl ?_
        refine v_iload (q := 19) hC dX4_decidedFor_17 rfl rfl ?_
        refine v_callS (q := 22) (rm := rm_X1_allows) hC (c_X1_allows hl Θ _ _) k_X1_allows st_yX1_allows ml_RX4_61 dX4_decidedFor_19 rfl  rfl rfl (Nat.le_of_ble_eq_true rfl) ⟨Nat.le_of_ble_eq_true rfl, Nat.le_of_ble_eq_true rfl⟩ ⟨Nat.le_of_ble_eq_true rfl, Nat.le_of_ble_eq_true rfl⟩ (fR_k ?_) fR_x (Nat.le_of_ble_eq_true rfl) (Nat.le_of_ble_eq_true rfl)
        try dsimp only [Option.toList, List.cons_append, List.nil_append]
        refine v_ifb_eq (q := 49) (q2 := 25) hC dX4_decidedFor_22 (by decide) rfl (fun c_22 => ?_) (fun c_22 => ?_)
        · refine v_iinc (q := 52) (v := nI (j + 1)) hC dX4_decidedFor_49 rfl rfl (nI_1 j) (lvc rfl) (Nat.le_of_ble_eq_true rfl) (Nat.le_of_ble_eq_true rfl) rfl ?_
          refine v_goto (q := 4) hC dX4_decidedFor_52 (by decide) ?_
          refine ih (j + 1) _ _ (by omega) ?_
          rw [← h2]
          first | exact (rAcc_t (by clear ih h2; simp_all [dForP, putA_get, putA_fld, putF_get, putF_row])).symm | exact (rAcc_f (by clear ih h2; simp_all [dForP, putA_get, putA_fld, putF_get, putF_row])).symm
        · refine v_iload (q := 27) hC dX4_decidedFor_25 rfl rfl ?_
          refine v_callS (q := 30) (rm := rm_X1_kind) hC (c_X1_kind hl Θ _ _) k_X1_kind st_yX1_kind ml_RX4_79 dX4_decidedFor_27 rfl  rfl rfl (Nat.le_of_ble_eq_true rfl) ⟨Nat.le_of_ble_eq_true rfl, Nat.le_of_ble_eq_true rfl⟩ ⟨Nat.le_of_ble_eq_true rfl, Nat.le_of_ble_eq_true rfl⟩ (fR_k ?_) fR_x (Nat.le_of_ble_eq_true rfl) (Nat.le_of_ble_eq_true rfl)
          try dsimp only [Option.toList, List.cons_append, List.nil_append]
          refine v_iconst (q := 31) (v := 1) hC dX4_decidedFor_30 rfl (by decide) ?_
          refine v_icmp_ne (q := 49) (q2 := 34) hC dX4_decidedFor_31 (by decide) rfl (fun c_31 => ?_) (fun c_31 => ?_)
          · refine v_iinc (q := 52) (v := nI (j + 1)) hC dX4_decidedFor_49 rfl rfl (nI_1 j) (lvc rfl) (Nat.le_of_ble_eq_true rfl) (Nat.le_of_ble_eq_true rfl) rfl ?_
            refine v_goto (q := 4) hC dX4_decidedFor_52 (by decide) ?_
            refine ih (j + 1) _ _ (by omega) ?_
            rw [← h2]
            first | exact (rAcc_t (by clear ih h2; simp_all [dForP, putA_get, putA_fld, putF_get, putF_row])).symm | exact (rAcc_f (by clear ih h2; simp_all [dForP, putA_get, putA_fld, putF_get, putF_row])).symm
          · refine v_iload (q := 36) hC dX4_decidedFor_34 rfl rfl ?_
            refine v_callS (q := 39) (rm := rm_X1_number) hC (c_X1_number hl Θ _ _) k_X1_number st_yX1_number ml_RX4_82 dX4_decidedFor_36 rfl  rfl rfl (Nat.le_of_ble_eq_true rfl) ⟨Nat.le_of_ble_eq_true rfl, Nat.le_of_ble_eq_true rfl⟩ ⟨Nat.le_of_ble_eq_true rfl, Nat.le_of_ble_eq_true rfl⟩ (fR_k ?_) fR_x (Nat.le_of_ble_eq_true rfl) (Nat.le_of_ble_eq_true rfl)
            try dsimp only [Option.toList, List.cons_append, List.nil_append]
            refine v_iload_n (i := 1) (q := 40) hC dX4_decidedFor_39 rfl rfl rfl ?_
            refine v_icmp_ne (q := 49) (q2 := 43) hC dX4_decidedFor_40 (by decide) rfl (fun c_40 => ?_) (fun c_40 => ?_)
            · refine v_iinc (q := 52) (v := nI (j + 1)) hC dX4_decidedFor_49 rfl rfl (nI_1 j) (lvc rfl) (Nat.le_of_ble_eq_true rfl) (Nat.le_of_ble_eq_true rfl) rfl ?_
              refine v_goto (q := 4) hC dX4_decidedFor_52 (by decide) ?_
              refine ih (j + 1) _ _ (by omega) ?_
              rw [← h2]
              first | exact (rAcc_t (by clear ih h2; simp_all [dForP, putA_get, putA_fld, putF_get, putF_row])).symm | exact (rAcc_f (by clear ih h2; simp_all [dForP, putA_get, putA_fld, putF_get, putF_row])).symm
            · refine v_iload_n (i := 2) (q := 44) hC dX4_decidedFor_43 rfl rfl rfl ?_
              refine v_iconst (q := 45) (v := 1) hC dX4_decidedFor_44 rfl (by decide) ?_
              refine v_iload_n (i := 3) (q := 46) hC dX4_decidedFor_45 rfl rfl rfl ?_
              refine v_ishl (q := 47) hC dX4_decidedFor_46 rfl ?_
              refine v_ior (q := 48) hC dX4_decidedFor_47 rfl ?_
              refine v_istore_n (i := 2) (q := 49) hC dX4_decidedFor_48 rfl rfl (lvc rfl) (Nat.le_of_ble_eq_true rfl) (Nat.le_of_ble_eq_true rfl) rfl ?_
              refine v_iinc (q := 52) (v := nI (j + 1)) hC dX4_decidedFor_49 rfl rfl (nI_1 j) (lvc rfl) (Nat.le_of_ble_eq_true rfl) (Nat.le_of_ble_eq_true rfl) rfl ?_
              refine v_goto (q := 4) hC dX4_decidedFor_52 (by decide) ?_
              refine ih (j + 1) _ _ (by omega) ?_
              rw [← h2]
              first | exact (rAcc_t (by clear ih h2; simp_all [dForP, putA_get, putA_fld, putF_get, putF_row])).symm | exact (rAcc_f (by clear ih h2; simp_all [dForP, putA_get, putA_fld, putF_get, putF_row])).symm
  refine v_iconst (q := 1) (v := 0) hC dX4_decidedFor_0 rfl (by decide) ?_
  refine v_istore_n (i := 2) (q := 2) hC dX4_decidedFor_1 rfl rfl (lvc rfl) (Nat.le_of_ble_eq_true rfl) (Nat.le_of_ble_eq_true rfl) rfl ?_
  refine v_iconst (q := 3) (v := 0) hC dX4_decidedFor_2 rfl (by decide) ?_
  refine v_istore_n (i := 3) (q := 4) hC dX4_decidedFor_3 rfl rfl (lvc rfl) (Nat.le_of_ble_eq_true rfl) (Nat.le_of_ble_eq_true rfl) rfl ?_
  exact L 4 0 0 none rfl rfl
def ctF (G : GS) (u gr : Int32) (j : Nat) (c : Int32) : Int32 := if rAt G u (nI j) = 0 then c else c + jBc (rAt G u (nI j) &&& dFor (dRes G u (nI j)).2 gr)
theorem rAt_ok {G : GS} {u o : Int32} (h : ¬ rAt G u o = 0) : dOk G u o = true := by
  cases h9 : dOk G u o with
  | true => rfl
  | false => exact absurd (by rw [rAt, if_neg (by rw [h9]; decide)]) h
set_option maxHeartbeats 4000000 in
set_option maxRecDepth 20000 in
theorem c_X4_countThrough {l : Launch} (hl : l.stackTraces = false) (Θ : cTH) (u gr : Int32) (a b : Nat → Int32) (G : GS) (hg : gOk G) : Ct l yX4_countThrough cX4_countThrough 7 (some .int) rm_X4_countThrough Θ [.ref (tR Θ 0 18), .ref (tR Θ 0 0), .int u, .int gr] (jS G a b) (jQ (some (.int (foldI (ctF G u gr) 20 0 0))) G) := by
  refine ct_of (LS := [some (.ref (tR Θ 0 18)), some (.ref (tR Θ 0 0)), some (.int u), some (.int gr), none, none, none]) hl (by decide +kernel) rfl (Nat.le_of_ble_eq_true rfl) rfl ?_
  intro p e s m args below meth c hC hr
  have L : ∀ (n j : Nat) (t : Int32) (x6 : Option Value) (a b : Nat → Int32), n + j = 20 → foldI (ctF G u gr) n j t = foldI (ctF G u gr) 20 0 0 → V p l e rm_X4_countThrough s m args below meth c 7 Θ (jQ (some (.int (foldI (ctF G u gr) 20 0 0))) G) 0 0 0 0 6 [some (.ref (tR Θ 0 18)), some (.ref (tR Θ 0 0)), some (.int u), some (.int gr), some (.int t), some (.int (nI j)), x6] [] (jS G a b) := by
    intro n
    induction n with
    | zero =>
      intro j t x6 a b h1 h2
      refine v_iload (q := 8) hC dX4_countThrough_6 rfl rfl ?_
      refine v_bipush (q := 10) (v := 20) hC dX4_countThrough_8 rfl (by decide) ?_
      refine v_icmp_ge (q := 50) (q2 := 13) hC dX4_countThrough_10 (by decide) rfl (fun c_10 => ?_) (fun c_10 => ?_)
      · refine v_iload (q := 52) hC dX4_countThrough_50 rfl rfl ?_
        refine v_iret hC dX4_countThrough_52 hr (rfl) ?_ (Nat.le_of_ble_eq_true rfl) (Nat.le_of_ble_eq_true rfl)
        exact ⟨by rw [← h2, foldI], a, b, rfl⟩
      · exact absurd (by rw [show j = 20 by omega]; decide) c_10
    | succ n ih =>
      intro j t x6 a b h1 h2
      refine v_iload (q := 8) hC dX4_countThrough_6 rfl rfl ?_
      refine v_bipush (q := 10) (v := 20) hC dX4_countThrough_8 rfl (by decide) ?_
      refine v_icmp_ge (q := 50) (q2 := 13) hC dX4_countThrough_10 (by decide) rfl (fun c_10 => ?_) (fun c_10 => ?_)
      · exact absurd c_10 (by rw [show (20 : Int32) = nI 20 from rfl]; exact nI_ge (by omega) (by omega))
      · refine v_aload_n (i := 0) (q := 14) hC dX4_countThrough_13 rfl rfl rfl ?_
        refine v_aload_n (i := 1) (q := 15) hC dX4_countThrough_14 rfl rfl rfl ?_
        refine v_iload_n (i := 2) (q := 16) hC dX4_countThrough_15 rfl rfl rfl ?_
        refine v_iload (q := 18) hC dX4_countThrough_16 rfl rfl ?_
        refine v_callV (q := 21) (rm := rm_X4_rightsAt) hC (c_X4_rightsAt hl Θ u (nI j) a b G hg) k_X4_rightsAt im_yX4_rightsAt se_yX4_rightsAt ml_RX4_21 dX4_countThrough_18 rfl rfl rfl rfl rfl rfl (Nat.le_of_ble_eq_true rfl) ⟨Nat.le_of_ble_eq_true rfl, Nat.le_of_ble_eq_true rfl⟩ ⟨Nat.le_of_ble_eq_true rfl, Nat.le_of_ble_eq_true rfl⟩ (fR_k ?_) fR_x (Nat.le_of_ble_eq_true rfl) (Nat.le_of_ble_eq_true rfl)
        try dsimp only [Option.toList, List.cons_append, List.nil_append]
        refine v_istore (q := 23) hC dX4_countThrough_21 rfl (lvc rfl) (Nat.le_of_ble_eq_true rfl) (Nat.le_of_ble_eq_true rfl) rfl ?_
        refine v_iload (q := 25) hC dX4_countThrough_23 rfl rfl ?_
        refine v_if_eq (q := 44) (q2 := 28) hC dX4_countThrough_25 (by decide) rfl (fun c_25 => ?_) (fun c_25 => ?_)
        · refine v_iinc (q := 47) (v := nI (j + 1)) hC dX4_countThrough_44 rfl rfl (nI_1 j) (lvc rfl) (Nat.le_of_ble_eq_true rfl) (Nat.le_of_ble_eq_true rfl) rfl ?_
          refine v_goto (q := 6) hC dX4_countThrough_47 (by decide) ?_
          refine ih (j + 1) _ _ _ _ (by omega) ?_
          rw [← h2, foldI, ctF]
          first | rw [if_pos c_25] | rw [if_neg c_25, jD, if_pos (rAt_ok c_25)]; rfl
        · refine v_iload (q := 30) hC dX4_countThrough_28 rfl rfl ?_
          refine v_iload (q := 32) hC dX4_countThrough_30 rfl rfl ?_
          refine v_aload_n (i := 0) (q := 33) hC dX4_countThrough_32 rfl rfl rfl ?_
          refine v_iload_n (i := 3) (q := 34) hC dX4_countThrough_33 rfl rfl rfl ?_
          refine v_callV (q := 37) (rm := rm_X4_decidedFor) hC (c_X4_decidedFor hl Θ _ _) k_X4_decidedFor im_yX4_decidedFor se_yX4_decidedFor ml_RX4_70 dX4_countThrough_34 rfl rfl rfl rfl rfl rfl (Nat.le_of_ble_eq_true rfl) ⟨Nat.le_of_ble_eq_true rfl, Nat.le_of_ble_eq_true rfl⟩ ⟨Nat.le_of_ble_eq_true rfl, Nat.le_of_ble_eq_true rfl⟩ (fR_k ?_) fR_x (Nat.le_of_ble_eq_true rfl) (Nat.le_of_ble_eq_true rfl)
          try dsimp only [Option.toList, List.cons_append, List.nil_append]
          refine v_iand (q := 38) hC dX4_countThrough_37 rfl ?_
          refine v_callS (q := 41) (rm := rm_J6_bitCount_0f7a4) hC (c_J6_bitCount_0f7a4 hl Θ _ _) k_J6_bitCount_0f7a4 st_yJ6_bitCount_0f7a4 ml_RX4_74 dX4_countThrough_38 rfl  rfl rfl (Nat.le_of_ble_eq_true rfl) ⟨Nat.le_of_ble_eq_true rfl, Nat.le_of_ble_eq_true rfl⟩ ⟨Nat.le_of_ble_eq_true rfl, Nat.le_of_ble_eq_true rfl⟩ (fR_k ?_) fR_x (Nat.le_of_ble_eq_true rfl) (Nat.le_of_ble_eq_true rfl)
          try dsimp only [Option.toList, List.cons_append, List.nil_append]
          refine v_iadd (q := 42) hC dX4_countThrough_41 rfl ?_
          refine v_istore (q := 44) hC dX4_countThrough_42 rfl (lvc rfl) (Nat.le_of_ble_eq_true rfl) (Nat.le_of_ble_eq_true rfl) rfl ?_
          refine v_iinc (q := 47) (v := nI (j + 1)) hC dX4_countThrough_44 rfl rfl (nI_1 j) (lvc rfl) (Nat.le_of_ble_eq_true rfl) (Nat.le_of_ble_eq_true rfl) rfl ?_
          refine v_goto (q := 6) hC dX4_countThrough_47 (by decide) ?_
          refine ih (j + 1) _ _ _ _ (by omega) ?_
          rw [← h2, foldI, ctF]
          first | rw [if_pos c_25] | rw [if_neg c_25, jD, if_pos (rAt_ok c_25)]; rfl
  refine v_iconst (q := 1) (v := 0) hC dX4_countThrough_0 rfl (by decide) ?_
  refine v_istore (q := 3) hC dX4_countThrough_1 rfl (lvc rfl) (Nat.le_of_ble_eq_true rfl) (Nat.le_of_ble_eq_true rfl) rfl ?_
  refine v_iconst (q := 4) (v := 0) hC dX4_countThrough_3 rfl (by decide) ?_
  refine v_istore (q := 6) hC dX4_countThrough_4 rfl (lvc rfl) (Nat.le_of_ble_eq_true rfl) (Nat.le_of_ble_eq_true rfl) rfl ?_
  exact L 20 0 0 none a b rfl rfl
def caF (G : GS) (u : Nat) (o : Nat) (c : Int32) : Int32 := c + jBc (rAt G (nI u) (nI o))
def caO (G : GS) (u : Nat) (c : Int32) : Int32 := foldI (caF G u) 20 0 c
set_option maxHeartbeats 4000000 in
set_option maxRecDepth 20000 in
theorem c_X4_countAll {l : Launch} (hl : l.stackTraces = false) (Θ : cTH) (a b : Nat → Int32) (G : GS) (hg : gOk G) : Ct l yX4_countAll cX4_countAll 5 (some .int) rm_X4_countAll Θ [.ref (tR Θ 0 18), .ref (tR Θ 0 0)] (jS G a b) (jQ (some (.int (foldI (caO G) 12 0 0))) G) := by
  refine ct_of (LS := [some (.ref (tR Θ 0 18)), some (.ref (tR Θ 0 0)), none, none, none]) hl (by decide +kernel) rfl (Nat.le_of_ble_eq_true rfl) rfl ?_
  intro p e s m args below meth c hC hr
  have L : ∀ (n j : Nat) (t : Int32) (x4 : Option Value) (a b : Nat → Int32), n + j = 12 → foldI (caO G) n j t = foldI (caO G) 12 0 0 → V p l e rm_X4_countAll s m args below meth c 5 Θ (jQ (some (.int (foldI (caO G) 12 0 0))) G) 0 0 0 0 4 [some (.ref (tR Θ 0 18)), some (.ref (tR Θ 0 0)), some (.int t), some (.int (nI j)), x4] [] (jS G a b) := by
    intro n
    induction n with
    | zero =>
      intro j t x4 a b h1 h2
      refine v_iload_n (i := 3) (q := 5) hC dX4_countAll_4 rfl rfl rfl ?_
      refine v_bipush (q := 7) (v := 12) hC dX4_countAll_5 rfl (by decide) ?_
      refine v_icmp_ge (q := 46) (q2 := 10) hC dX4_countAll_7 (by decide) rfl (fun c_7 => ?_) (fun c_7 => ?_)
      · refine v_iload_n (i := 2) (q := 47) hC dX4_countAll_46 rfl rfl rfl ?_
        refine v_iret hC dX4_countAll_47 hr (rfl) ?_ (Nat.le_of_ble_eq_true rfl) (Nat.le_of_ble_eq_true rfl)
        exact ⟨by rw [← h2, foldI], a, b, rfl⟩
      · exact absurd (by rw [show j = 12 by omega]; decide) c_7
    | succ n ih =>
      intro j t x4 a b h1 h2
      have L2 : ∀ (n2 j2 : Nat) (t2 : Int32) (a b : Nat → Int32), n2 + j2 = 20 → foldI (caF G j) n2 j2 t2 = caO G j t → V p l e rm_X4_countAll s m args below meth c 5 Θ (jQ (some (.int (foldI (caO G) 12 0 0))) G) 0 0 0 0 13 [some (.ref (tR Θ 0 18)), some (.ref (tR Θ 0 0)), some (.int t2), some (.int (nI j)), some (.int (nI j2))] [] (jS G a b) := by
        intro n2
        induction n2 with
        | zero =>
          intro j2 t2 a b h4 h5
          refine v_iload (q := 15) hC dX4_countAll_13 rfl rfl ?_
          refine v_bipush (q := 17) (v := 20) hC dX4_countAll_15 rfl (by decide) ?_
          refine v_icmp_ge (q := 40) (q2 := 20) hC dX4_countAll_17 (by decide) rfl (fun c_17 => ?_) (fun c_17 => ?_)
          · refine v_iinc (q := 43) (v := nI (j + 1)) hC dX4_countAll_40 rfl rfl (nI_1 j) (lvc rfl) (Nat.le_of_ble_eq_true rfl) (Nat.le_of_ble_eq_true rfl) rfl ?_
            refine v_goto (q := 4) hC dX4_countAll_43 (by decide) ?_
            exact ih (j + 1) _ _ _ _ (by omega) (by rw [← h2, foldI, ← h5, foldI])
          · exact absurd (by rw [show j2 = 20 by omega]; decide) c_17
        | succ n2 ih2 =>
          intro j2 t2 a b h4 h5
          refine v_iload (q := 15) hC dX4_countAll_13 rfl rfl ?_
          refine v_bipush (q := 17) (v := 20) hC dX4_countAll_15 rfl (by decide) ?_
          refine v_icmp_ge (q := 40) (q2 := 20) hC dX4_countAll_17 (by decide) rfl (fun c_17 => ?_) (fun c_17 => ?_)
          · exact absurd c_17 (by rw [show (20 : Int32) = nI 20 from rfl]; exact nI_ge (by omega) (by omega))
          · refine v_iload_n (i := 2) (q := 21) hC dX4_countAll_20 rfl rfl rfl ?_
            refine v_aload_n (i := 0) (q := 22) hC dX4_countAll_21 rfl rfl rfl ?_
            refine v_aload_n (i := 1) (q := 23) hC dX4_countAll_22 rfl rfl rfl ?_
            refine v_iload_n (i := 3) (q := 24) hC dX4_countAll_23 rfl rfl rfl ?_
            refine v_iload (q := 26) hC dX4_countAll_24 rfl rfl ?_
            refine v_callV (q := 29) (rm := rm_X4_rightsAt) hC (c_X4_rightsAt hl Θ (nI j) (nI j2) a b G hg) k_X4_rightsAt im_yX4_rightsAt se_yX4_rightsAt ml_RX4_21 dX4_countAll_26 rfl rfl rfl rfl rfl rfl (Nat.le_of_ble_eq_true rfl) ⟨Nat.le_of_ble_eq_true rfl, Nat.le_of_ble_eq_true rfl⟩ ⟨Nat.le_of_ble_eq_true rfl, Nat.le_of_ble_eq_true rfl⟩ (fR_k ?_) fR_x (Nat.le_of_ble_eq_true rfl) (Nat.le_of_ble_eq_true rfl)
            try dsimp only [Option.toList, List.cons_append, List.nil_append]
            refine v_callS (q := 32) (rm := rm_J6_bitCount_0f7a4) hC (c_J6_bitCount_0f7a4 hl Θ _ _) k_J6_bitCount_0f7a4 st_yJ6_bitCount_0f7a4 ml_RX4_74 dX4_countAll_29 rfl  rfl rfl (Nat.le_of_ble_eq_true rfl) ⟨Nat.le_of_ble_eq_true rfl, Nat.le_of_ble_eq_true rfl⟩ ⟨Nat.le_of_ble_eq_true rfl, Nat.le_of_ble_eq_true rfl⟩ (fR_k ?_) fR_x (Nat.le_of_ble_eq_true rfl) (Nat.le_of_ble_eq_true rfl)
            try dsimp only [Option.toList, List.cons_append, List.nil_append]
            refine v_iadd (q := 33) hC dX4_countAll_32 rfl ?_
            refine v_istore_n (i := 2) (q := 34) hC dX4_countAll_33 rfl rfl (lvc rfl) (Nat.le_of_ble_eq_true rfl) (Nat.le_of_ble_eq_true rfl) rfl ?_
            refine v_iinc (q := 37) (v := nI (j2 + 1)) hC dX4_countAll_34 rfl rfl (nI_1 j2) (lvc rfl) (Nat.le_of_ble_eq_true rfl) (Nat.le_of_ble_eq_true rfl) rfl ?_
            refine v_goto (q := 13) hC dX4_countAll_37 (by decide) ?_
            exact ih2 (j2 + 1) _ _ _ (by omega) (by rw [← h5, foldI, caF])
      refine v_iload_n (i := 3) (q := 5) hC dX4_countAll_4 rfl rfl rfl ?_
      refine v_bipush (q := 7) (v := 12) hC dX4_countAll_5 rfl (by decide) ?_
      refine v_icmp_ge (q := 46) (q2 := 10) hC dX4_countAll_7 (by decide) rfl (fun c_7 => ?_) (fun c_7 => ?_)
      · exact absurd c_7 (by rw [show (12 : Int32) = nI 12 from rfl]; exact nI_ge (by omega) (by omega))
      · refine v_iconst (q := 11) (v := 0) hC dX4_countAll_10 rfl (by decide) ?_
        refine v_istore (q := 13) hC dX4_countAll_11 rfl (lvc rfl) (Nat.le_of_ble_eq_true rfl) (Nat.le_of_ble_eq_true rfl) rfl ?_
        exact L2 20 0 t _ _ rfl rfl
  refine v_iconst (q := 1) (v := 0) hC dX4_countAll_0 rfl (by decide) ?_
  refine v_istore_n (i := 2) (q := 2) hC dX4_countAll_1 rfl rfl (lvc rfl) (Nat.le_of_ble_eq_true rfl) (Nat.le_of_ble_eq_true rfl) rfl ?_
  refine v_iconst (q := 3) (v := 0) hC dX4_countAll_2 rfl (by decide) ?_
  refine v_istore_n (i := 3) (q := 4) hC dX4_countAll_3 rfl rfl (lvc rfl) (Nat.le_of_ble_eq_true rfl) (Nat.le_of_ble_eq_true rfl) rfl ?_
  exact L 12 0 0 none a b rfl rfl
/-- the table: the first k cells hold what is allowed -/
def tbO (G : GS) (k : Nat) (w : Nat → Int32) : Nat → Int32 := fun i => if i < k then rAt G (nI (i / 20)) (nI (i % 20)) else w i
theorem tb_idx (u o : Nat) : nI u * (20 : Int32) + nI o = nI (u * 20 + o) := by
  rw [show (20 : Int32) = nI 20 from rfl, nI_mul, nI_add]
theorem tbO_upd (G : GS) (w : Nat → Int32) {u o : Nat} (ho : o < 20) : upd (tbO G (u * 20 + o) w) (u * 20 + o) (rAt G (nI u) (nI o)) = tbO G (u * 20 + (o + 1)) w := by
  funext i
  simp only [upd, tbO]
  by_cases h : i = u * 20 + o
  · rw [if_pos h, if_pos (by omega), h, show (u * 20 + o) / 20 = u by omega, show (u * 20 + o) % 20 = o by omega]
  · rw [if_neg h]
    by_cases h2 : i < u * 20 + o
    · rw [if_pos h2, if_pos (by omega)]
    · rw [if_neg h2, if_neg (by omega)]
theorem rAt_21 (G : GS) (w : Nat → Int32) (u o : Int32) : rAt (putA G 0 21 w) u o = rAt G u o := rfl
theorem jS_21 (G : GS) (w a b : Nat → Int32) (v : Nat → Int32) : putA (jS (putA G 0 21 w) a b) 0 21 v = jS (putA G 0 21 v) a b := by
  unfold jS putA
  refine Prod.ext rfl (Prod.ext ?_ rfl)
  funext r o
  dsimp only
  by_cases h : r = 0 ∧ o = 21
  · rw [if_pos h, if_neg (by omega), if_neg (by omega), if_pos h]
  · rw [if_neg h]
    by_cases h2 : r = 0 ∧ o = 20
    · rw [if_pos h2, if_pos h2]
    · rw [if_neg h2, if_neg h2, if_neg h, if_neg h]
def tQ (G : GS) : cOut → GS → Prop := fun r G1 => r = .inl none ∧ ∃ a b, G1 = jS (putA G 0 21 (tbO G 240 (G.2.1 0 21))) a b
set_option maxHeartbeats 4000000 in
set_option maxRecDepth 20000 in
theorem c_X4_keepTable {l : Launch} (hl : l.stackTraces = false) (Θ : cTH) (a b : Nat → Int32) (G : GS) (hg : gOk G) : Ct l yX4_keepTable cX4_keepTable 4 none rm_X4_keepTable Θ [.ref (tR Θ 0 18), .ref (tR Θ 0 0)] (jS G a b) (tQ G) := by
  refine ct_of (LS := [some (.ref (tR Θ 0 18)), some (.ref (tR Θ 0 0)), none, none]) hl (by decide +kernel) rfl (Nat.le_of_ble_eq_true rfl) rfl ?_
  intro p e s m args below meth c hC hr
  have L : ∀ (n j : Nat) (x3 : Option Value) (a b : Nat → Int32), n + j = 12 → V p l e rm_X4_keepTable s m args below meth c 4 Θ (tQ G) 0 0 0 0 2 [some (.ref (tR Θ 0 18)), some (.ref (tR Θ 0 0)), some (.int (nI j)), x3] [] (jS (putA G 0 21 (tbO G (j * 20) (G.2.1 0 21))) a b) := by
    intro n
    induction n with
    | zero =>
      intro j x3 a b h1
      have h9 : j = 12 := by omega
      subst h9
      refine v_iload_n (i := 2) (q := 3) hC dX4_keepTable_2 rfl rfl rfl ?_
      refine v_bipush (q := 5) (v := 12) hC dX4_keepTable_3 rfl (by decide) ?_
      refine v_icmp_ge (q := 46) (q2 := 8) hC dX4_keepTable_5 (by decide) rfl (fun c_5 => ?_) (fun c_5 => ?_)
      · refine v_vret hC dX4_keepTable_46 hr ?_ (Nat.le_of_ble_eq_true rfl) (Nat.le_of_ble_eq_true rfl)
        exact ⟨rfl, a, b, rfl⟩
      · exact absurd (by decide) c_5
    | succ n ih =>
      intro j x3 a b h1
      have L2 : ∀ (n2 j2 : Nat) (a b : Nat → Int32), n2 + j2 = 20 → V p l e rm_X4_keepTable s m args below meth c 4 Θ (tQ G) 0 0 0 0 10 [some (.ref (tR Θ 0 18)), some (.ref (tR Θ 0 0)), some (.int (nI j)), some (.int (nI j2))] [] (jS (putA G 0 21 (tbO G (j * 20 + j2) (G.2.1 0 21))) a b) := by
        intro n2
        induction n2 with
        | zero =>
          intro j2 a b h4
          have h9 : j2 = 20 := by omega
          subst h9
          refine v_iload_n (i := 3) (q := 11) hC dX4_keepTable_10 rfl rfl rfl ?_
          refine v_bipush (q := 13) (v := 20) hC dX4_keepTable_11 rfl (by decide) ?_
          refine v_icmp_ge (q := 40) (q2 := 16) hC dX4_keepTable_13 (by decide) rfl (fun c_13 => ?_) (fun c_13 => ?_)
          · refine v_iinc (q := 43) (v := nI (j + 1)) hC dX4_keepTable_40 rfl rfl (nI_1 j) (lvc rfl) (Nat.le_of_ble_eq_true rfl) (Nat.le_of_ble_eq_true rfl) rfl ?_
            refine v_goto (q := 2) hC dX4_keepTable_43 (by decide) ?_
            have e := ih (j + 1) (some (.int (nI 20))) a b (by omega)
            rw [show (j + 1) * 20 = j * 20 + 20 by omega] at e
            exact e
          · exact absurd (by decide) c_13
        | succ n2 ih2 =>
          intro j2 a b h4
          refine v_iload_n (i := 3) (q := 11) hC dX4_keepTable_10 rfl rfl rfl ?_
          refine v_bipush (q := 13) (v := 20) hC dX4_keepTable_11 rfl (by decide) ?_
          refine v_icmp_ge (q := 40) (q2 := 16) hC dX4_keepTable_13 (by decide) rfl (fun c_13 => ?_) (fun c_13 => ?_)
          · exact absurd c_13 (by rw [show (20 : Int32) = nI 20 from rfl]; exact nI_ge (by omega) (by omega))
          · refine v_aload_n (i := 0) (q := 17) hC dX4_keepTable_16 rfl rfl rfl ?_
            refine g_X4_2 (q := 20) hC dX4_keepTable_17 rfl rfl fl_RX4_18 ?_
            refine v_iload_n (i := 2) (q := 21) hC dX4_keepTable_20 rfl rfl rfl ?_
            refine v_bipush (q := 23) (v := 20) hC dX4_keepTable_21 rfl (by decide) ?_
            refine v_imul (q := 24) hC dX4_keepTable_23 rfl ?_
            refine v_iload_n (i := 3) (q := 25) hC dX4_keepTable_24 rfl rfl rfl ?_
            refine v_iadd (q := 26) hC dX4_keepTable_25 rfl ?_
            refine v_aload_n (i := 0) (q := 27) hC dX4_keepTable_26 rfl rfl rfl ?_
            refine v_aload_n (i := 1) (q := 28) hC dX4_keepTable_27 rfl rfl rfl ?_
            refine v_iload_n (i := 2) (q := 29) hC dX4_keepTable_28 rfl rfl rfl ?_
            refine v_iload_n (i := 3) (q := 30) hC dX4_keepTable_29 rfl rfl rfl ?_
            refine v_callV (q := 33) (rm := rm_X4_rightsAt) hC (c_X4_rightsAt hl Θ (nI j) (nI j2) a b (putA G 0 21 (tbO G (j * 20 + j2) (G.2.1 0 21))) hg) k_X4_rightsAt im_yX4_rightsAt se_yX4_rightsAt ml_RX4_21 dX4_keepTable_30 rfl rfl rfl rfl rfl rfl (Nat.le_of_ble_eq_true rfl) ⟨Nat.le_of_ble_eq_true rfl, Nat.le_of_ble_eq_true rfl⟩ ⟨Nat.le_of_ble_eq_true rfl, Nat.le_of_ble_eq_true rfl⟩ (fR_k ?_) fR_x (Nat.le_of_ble_eq_true rfl) (Nat.le_of_ble_eq_true rfl)
            try dsimp only [Option.toList, List.cons_append, List.nil_append]
            rw [rAt_21, tb_idx]
            refine v_iast (q := 34) hC dX4_keepTable_33 rfl rfl (fun _ => rfl) (vp_in_nI (by omega) (by omega)) ?_
            rw [nI_clamp (show j * 20 + j2 < 2 ^ 31 by omega), jS_21, show (jP (putA G 0 21 (tbO G (j * 20 + j2) (G.2.1 0 21))) (jD (putA G 0 21 (tbO G (j * 20 + j2) (G.2.1 0 21))) (nI j) (nI j2) (a, b))).2.1 0 21 = tbO G (j * 20 + j2) (G.2.1 0 21) from rfl, tbO_upd G _ (by omega)]
            refine v_iinc (q := 37) (v := nI (j2 + 1)) hC dX4_keepTable_34 rfl rfl (nI_1 j2) (lvc rfl) (Nat.le_of_ble_eq_true rfl) (Nat.le_of_ble_eq_true rfl) rfl ?_
            refine v_goto (q := 10) hC dX4_keepTable_37 (by decide) ?_
            exact ih2 (j2 + 1) _ _ (by omega)
      refine v_iload_n (i := 2) (q := 3) hC dX4_keepTable_2 rfl rfl rfl ?_
      refine v_bipush (q := 5) (v := 12) hC dX4_keepTable_3 rfl (by decide) ?_
      refine v_icmp_ge (q := 46) (q2 := 8) hC dX4_keepTable_5 (by decide) rfl (fun c_5 => ?_) (fun c_5 => ?_)
      · exact absurd c_5 (by rw [show (12 : Int32) = nI 12 from rfl]; exact nI_ge (by omega) (by omega))
      · refine v_iconst (q := 9) (v := 0) hC dX4_keepTable_8 rfl (by decide) ?_
        refine v_istore_n (i := 3) (q := 10) hC dX4_keepTable_9 rfl rfl (lvc rfl) (Nat.le_of_ble_eq_true rfl) (Nat.le_of_ble_eq_true rfl) rfl ?_
        exact L2 20 0 _ _ rfl
  refine v_iconst (q := 1) (v := 0) hC dX4_keepTable_0 rfl (by decide) ?_
  refine v_istore_n (i := 2) (q := 2) hC dX4_keepTable_1 rfl rfl (lvc rfl) (Nat.le_of_ble_eq_true rfl) (Nat.le_of_ble_eq_true rfl) rfl ?_
  have e := L 12 0 none a b rfl
  rw [show tbO G (0 * 20) (G.2.1 0 21) = G.2.1 0 21 from by funext i; simp [tbO], putA_self] at e
  exact e
def cdF (G : GS) (w : Nat → Int32) (u : Nat) (o : Nat) (c : Int32) : Int32 := c + jBc (w (u * 20 + o) ^^^ rAt G (nI u) (nI o))
def cdO (G : GS) (w : Nat → Int32) (u : Nat) (c : Int32) : Int32 := foldI (cdF G w u) 20 0 c
set_option maxHeartbeats 4000000 in
set_option maxRecDepth 20000 in
theorem c_X4_countDifferences {l : Launch} (hl : l.stackTraces = false) (Θ : cTH) (a b : Nat → Int32) (G : GS) (hg : gOk G) : Ct l yX4_countDifferences cX4_countDifferences 6 (some .int) rm_X4_countDifferences Θ [.ref (tR Θ 0 18), .ref (tR Θ 0 0)] (jS G a b) (jQ (some (.int (foldI (cdO G (G.2.1 0 21)) 12 0 0))) G) := by
  refine ct_of (LS := [some (.ref (tR Θ 0 18)), some (.ref (tR Θ 0 0)), none, none, none, none]) hl (by decide +kernel) rfl (Nat.le_of_ble_eq_true rfl) rfl ?_
  intro p e s m args below meth c hC hr
  have L : ∀ (n j : Nat) (t : Int32) (x4 x5 : Option Value) (a b : Nat → Int32), n + j = 12 → foldI (cdO G (G.2.1 0 21)) n j t = foldI (cdO G (G.2.1 0 21)) 12 0 0 → V p l e rm_X4_countDifferences s m args below meth c 6 Θ (jQ (some (.int (foldI (cdO G (G.2.1 0 21)) 12 0 0))) G) 0 0 0 0 4 [some (.ref (tR Θ 0 18)), some (.ref (tR Θ 0 0)), some (.int t), some (.int (nI j)), x4, x5] [] (jS G a b) := by
    intro n
    induction n with
    | zero =>
      intro j t x4 x5 a b h1 h2
      refine v_iload_n (i := 3) (q := 5) hC dX4_countDifferences_4 rfl rfl rfl ?_
      refine v_bipush (q := 7) (v := 12) hC dX4_countDifferences_5 rfl (by decide) ?_
      refine v_icmp_ge (q := 63) (q2 := 10) hC dX4_countDifferences_7 (by decide) rfl (fun c_7 => ?_) (fun c_7 => ?_)
      · refine v_iload_n (i := 2) (q := 64) hC dX4_countDifferences_63 rfl rfl rfl ?_
        refine v_iret hC dX4_countDifferences_64 hr (rfl) ?_ (Nat.le_of_ble_eq_true rfl) (Nat.le_of_ble_eq_true rfl)
        exact ⟨by rw [← h2, foldI], a, b, rfl⟩
      · exact absurd (by rw [show j = 12 by omega]; decide) c_7
    | succ n ih =>
      intro j t x4 x5 a b h1 h2
      have L2 : ∀ (n2 j2 : Nat) (t2 : Int32) (x5 : Option Value) (a b : Nat → Int32), n2 + j2 = 20 → foldI (cdF G (G.2.1 0 21) j) n2 j2 t2 = cdO G (G.2.1 0 21) j t → V p l e rm_X4_countDifferences s m args below meth c 6 Θ (jQ (some (.int (foldI (cdO G (G.2.1 0 21)) 12 0 0))) G) 0 0 0 0 13 [some (.ref (tR Θ 0 18)), some (.ref (tR Θ 0 0)), some (.int t2), some (.int (nI j)), some (.int (nI j2)), x5] [] (jS G a b) := by
        intro n2
        induction n2 with
        | zero =>
          intro j2 t2 x5 a b h4 h5
          refine v_iload (q := 15) hC dX4_countDifferences_13 rfl rfl ?_
          refine v_bipush (q := 17) (v := 20) hC dX4_countDifferences_15 rfl (by decide) ?_
          refine v_icmp_ge (q := 57) (q2 := 20) hC dX4_countDifferences_17 (by decide) rfl (fun c_17 => ?_) (fun c_17 => ?_)
          · refine v_iinc (q := 60) (v := nI (j + 1)) hC dX4_countDifferences_57 rfl rfl (nI_1 j) (lvc rfl) (Nat.le_of_ble_eq_true rfl) (Nat.le_of_ble_eq_true rfl) rfl ?_
            refine v_goto (q := 4) hC dX4_countDifferences_60 (by decide) ?_
            exact ih (j + 1) _ _ _ _ _ (by omega) (by rw [← h2, foldI, ← h5, foldI])
          · exact absurd (by rw [show j2 = 20 by omega]; decide) c_17
        | succ n2 ih2 =>
          intro j2 t2 x5 a b h4 h5
          refine v_iload (q := 15) hC dX4_countDifferences_13 rfl rfl ?_
          refine v_bipush (q := 17) (v := 20) hC dX4_countDifferences_15 rfl (by decide) ?_
          refine v_icmp_ge (q := 57) (q2 := 20) hC dX4_countDifferences_17 (by decide) rfl (fun c_17 => ?_) (fun c_17 => ?_)
          · exact absurd c_17 (by rw [show (20 : Int32) = nI 20 from rfl]; exact nI_ge (by omega) (by omega))
          · refine v_aload_n (i := 0) (q := 21) hC dX4_countDifferences_20 rfl rfl rfl ?_
            refine g_X4_2 (q := 24) hC dX4_countDifferences_21 rfl rfl fl_RX4_18 ?_
            refine v_iload_n (i := 3) (q := 25) hC dX4_countDifferences_24 rfl rfl rfl ?_
            refine v_bipush (q := 27) (v := 20) hC dX4_countDifferences_25 rfl (by decide) ?_
            refine v_imul (q := 28) hC dX4_countDifferences_27 rfl ?_
            refine v_iload (q := 30) hC dX4_countDifferences_28 rfl rfl ?_
            refine v_iadd (q := 31) hC dX4_countDifferences_30 rfl ?_
            rw [tb_idx]
            refine v_iald (q := 32) hC dX4_countDifferences_31 rfl rfl rfl (vp_in_nI (by omega) (by omega)) ?_
            rw [nI_clamp (show j * 20 + j2 < 2 ^ 31 by omega)]
            refine v_istore (q := 34) hC dX4_countDifferences_32 rfl (lvc rfl) (Nat.le_of_ble_eq_true rfl) (Nat.le_of_ble_eq_true rfl) rfl ?_
            refine v_iload_n (i := 2) (q := 35) hC dX4_countDifferences_34 rfl rfl rfl ?_
            refine v_iload (q := 37) hC dX4_countDifferences_35 rfl rfl ?_
            refine v_aload_n (i := 0) (q := 38) hC dX4_countDifferences_37 rfl rfl rfl ?_
            refine v_aload_n (i := 1) (q := 39) hC dX4_countDifferences_38 rfl rfl rfl ?_
            refine v_iload_n (i := 3) (q := 40) hC dX4_countDifferences_39 rfl rfl rfl ?_
            refine v_iload (q := 42) hC dX4_countDifferences_40 rfl rfl ?_
            refine v_callV (q := 45) (rm := rm_X4_rightsAt) hC (c_X4_rightsAt hl Θ (nI j) (nI j2) a b G hg) k_X4_rightsAt im_yX4_rightsAt se_yX4_rightsAt ml_RX4_21 dX4_countDifferences_42 rfl rfl rfl rfl rfl rfl (Nat.le_of_ble_eq_true rfl) ⟨Nat.le_of_ble_eq_true rfl, Nat.le_of_ble_eq_true rfl⟩ ⟨Nat.le_of_ble_eq_true rfl, Nat.le_of_ble_eq_true rfl⟩ (fR_k ?_) fR_x (Nat.le_of_ble_eq_true rfl) (Nat.le_of_ble_eq_true rfl)
            try dsimp only [Option.toList, List.cons_append, List.nil_append]
            refine v_ixor (q := 46) hC dX4_countDifferences_45 rfl ?_
            refine v_callS (q := 49) (rm := rm_J6_bitCount_0f7a4) hC (c_J6_bitCount_0f7a4 hl Θ _ _) k_J6_bitCount_0f7a4 st_yJ6_bitCount_0f7a4 ml_RX4_74 dX4_countDifferences_46 rfl  rfl rfl (Nat.le_of_ble_eq_true rfl) ⟨Nat.le_of_ble_eq_true rfl, Nat.le_of_ble_eq_true rfl⟩ ⟨Nat.le_of_ble_eq_true rfl, Nat.le_of_ble_eq_true rfl⟩ (fR_k ?_) fR_x (Nat.le_of_ble_eq_true rfl) (Nat.le_of_ble_eq_true rfl)
            try dsimp only [Option.toList, List.cons_append, List.nil_append]
            refine v_iadd (q := 50) hC dX4_countDifferences_49 rfl ?_
            refine v_istore_n (i := 2) (q := 51) hC dX4_countDifferences_50 rfl rfl (lvc rfl) (Nat.le_of_ble_eq_true rfl) (Nat.le_of_ble_eq_true rfl) rfl ?_
            refine v_iinc (q := 54) (v := nI (j2 + 1)) hC dX4_countDifferences_51 rfl rfl (nI_1 j2) (lvc rfl) (Nat.le_of_ble_eq_true rfl) (Nat.le_of_ble_eq_true rfl) rfl ?_
            refine v_goto (q := 13) hC dX4_countDifferences_54 (by decide) ?_
            exact ih2 (j2 + 1) _ _ _ _ (by omega) (by rw [← h5, foldI, cdF]; rfl)
      refine v_iload_n (i := 3) (q := 5) hC dX4_countDifferences_4 rfl rfl rfl ?_
      refine v_bipush (q := 7) (v := 12) hC dX4_countDifferences_5 rfl (by decide) ?_
      refine v_icmp_ge (q := 63) (q2 := 10) hC dX4_countDifferences_7 (by decide) rfl (fun c_7 => ?_) (fun c_7 => ?_)
      · exact absurd c_7 (by rw [show (12 : Int32) = nI 12 from rfl]; exact nI_ge (by omega) (by omega))
      · refine v_iconst (q := 11) (v := 0) hC dX4_countDifferences_10 rfl (by decide) ?_
        refine v_istore (q := 13) hC dX4_countDifferences_11 rfl (lvc rfl) (Nat.le_of_ble_eq_true rfl) (Nat.le_of_ble_eq_true rfl) rfl ?_
        exact L2 20 0 t _ _ _ rfl rfl
  refine v_iconst (q := 1) (v := 0) hC dX4_countDifferences_0 rfl (by decide) ?_
  refine v_istore_n (i := 2) (q := 2) hC dX4_countDifferences_1 rfl rfl (lvc rfl) (Nat.le_of_ble_eq_true rfl) (Nat.le_of_ble_eq_true rfl) rfl ?_
  refine v_iconst (q := 3) (v := 0) hC dX4_countDifferences_2 rfl (by decide) ?_
  refine v_istore_n (i := 3) (q := 4) hC dX4_countDifferences_3 rfl rfl (lvc rfl) (Nat.le_of_ble_eq_true rfl) (Nat.le_of_ble_eq_true rfl) rfl ?_
  exact L 12 0 0 none none a b rfl rfl
