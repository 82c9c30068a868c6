/-! Arrays.fill; Judge -/
theorem cG_ext {Θ : cTH} {G : GS} {H : Heap} {r o N : Nat} {f g : Nat → Int32} (hid : okI G.2.2.1 r o = true) (hce : ∀ (x a : Nat → Int32), cellS Θ r o x a G.2.2 = .inl (tI Θ, N, .inl a)) (h : ∀ j, j < N → f j = g j) (hH : cG Θ (putA G r o f) H) : cG Θ (putA G r o g) H := by
  obtain ⟨k9, hi9, hk9⟩ := cW_get Θ (putA G r o f) (r := r) (o := o) hid
  rw [putA_same, show (putA G r o f).2.2 = G.2.2 from rfl, hce] at hk9
  have hw : (cW Θ (putA G r o f)).set k9 (tR Θ r o, .inl (tI Θ, N, .inl g)) = cW Θ (putA G r o g) := by
    refine cW_put (A := tA Θ) hH.2 hi9 rfl ?_ (by rw [putA_same]; exact hce _ _)
    intro r' o' hne
    exact ⟨rfl, by rw [putA_get, putA_get, if_neg hne, if_neg hne]⟩
  have hP := va_P_ext hH.1 hk9 h
  have hD := va_D.set (e := .inl (tI Θ, N, .inl g)) hH.2 hk9
  rw [hw] at hP hD
  exact ⟨hP, hD⟩
section EXT
variable {p : Program} {l : Launch} {e : Env} {R : Room} {s : State} {m : MethodId} {args : Array Value} {below : List Frame} {meth : Method} {c : Code} {cc : ByteArray} {nL : Nat} {own : String} {Θ : cTH} {Qp : cOut → GS → Prop} {mc ms k n pc q q2 : Nat} {LS : List (Option Value)} {st rest : List Value} {G : GS}
theorem v_ext {r o N : Nat} {f g : Nat → Int32} (hid : okI G.2.2.1 r o = true) (hce : ∀ (x a : Nat → Int32), cellS Θ r o x a G.2.2 = .inl (tI Θ, N, .inl a)) (h : ∀ j, j < N → f j = g j) (kk : V p l e R s m args below meth c nL Θ Qp mc ms k n pc LS st (putA G r o g)) : V p l e R s m args below meth c nL Θ Qp mc ms k n pc LS st (putA G r o f) :=
  fun H locs ls hH hS hl => kk H locs ls (cG_ext hid hce h hH) hS hl
end EXT
def fil (w : Nat → Int32) (x : Int32) (i : Nat) : Nat → Int32 := fun j => if j < i then x else w j
set_option maxHeartbeats 4000000 in
set_option maxRecDepth 20000 in
theorem c_J7_fill_53178 {l : Launch} (hl : l.stackTraces = false) (Θ : cTH) (r o N : Nat) (x : Int32) (G : GS) (hid : okI G.2.2.1 r o = true) (hce : ∀ (x a : Nat → Int32), cellS Θ r o x a G.2.2 = .inl (tI Θ, N, .inl a)) (hN : N < 2 ^ 31) : Ct l yJ7_fill_53178 cJ7_fill_53178 4 none rm_J7_fill_53178 Θ [.ref (tR Θ r o), .int x] (G) (fR none (putA G r o (fun _ => x))) := by
  refine ct_of (LS := [some (.ref (tR Θ r o)), some (.int x), none, none]) hl (by decide +kernel) rfl (Nat.le_of_ble_eq_true rfl) rfl ?_
  intro p e s m args below meth c hC hr
  have L : ∀ (n j : Nat), n + j = N → V p l e rm_J7_fill_53178 s m args below meth c 4 Θ (fR none (putA G r o (fun _ => x))) 0 0 0 0 5 [some (.ref (tR Θ r o)), some (.int x), some (.int (nI j)), some (.int (nI N))] [] (putA G r o (fil (G.2.1 r o) x j)) := by
    intro n
    induction n with
    | zero =>
      intro j h1
      refine v_ext (N := N) hid hce (g := fun _ => x) (fun i hi => by simp only [fil]; rw [if_pos (by omega)]) ?_
      refine v_iload_n (i := 2) (q := 6) hC dJ7_fill_53178_5 rfl rfl rfl ?_
      refine v_iload_n (i := 3) (q := 7) hC dJ7_fill_53178_6 rfl rfl rfl ?_
      refine v_icmp_ge (q := 20) (q2 := 10) hC dJ7_fill_53178_7 (by decide) rfl (fun c_7 => ?_) (fun c_7 => ?_)
      · refine v_vret hC dJ7_fill_53178_20 hr ?_ (Nat.le_of_ble_eq_true rfl) (Nat.le_of_ble_eq_true rfl)
        exact ⟨rfl, rfl⟩
      · exact absurd (nI_le (by omega) (by omega)) c_7
    | succ n ih =>
      intro j h1
      have e2 := nI_clamp (show j < 2 ^ 31 by omega)
      refine v_iload_n (i := 2) (q := 6) hC dJ7_fill_53178_5 rfl rfl rfl ?_
      refine v_iload_n (i := 3) (q := 7) hC dJ7_fill_53178_6 rfl rfl rfl ?_
      refine v_icmp_ge (q := 20) (q2 := 10) hC dJ7_fill_53178_7 (by decide) rfl (fun c_7 => ?_) (fun c_7 => ?_)
      · exact absurd c_7 (nI_ge (by omega) (by omega))
      · refine v_aload_n (i := 0) (q := 11) hC dJ7_fill_53178_10 rfl rfl rfl ?_
        refine v_iload_n (i := 2) (q := 12) hC dJ7_fill_53178_11 rfl rfl rfl ?_
        refine v_iload_n (i := 1) (q := 13) hC dJ7_fill_53178_12 rfl rfl rfl ?_
        refine v_iast (q := 14) (N := N) hC dJ7_fill_53178_13 rfl hid (fun a => hce _ a) (vp_in_nI (by omega) (by omega)) ?_
        rw [putA_putA, putA_same, e2]
        refine v_iinc (q := 17) (v := nI (j + 1)) hC dJ7_fill_53178_14 rfl rfl (nI_1 j) (lvc rfl) (Nat.le_of_ble_eq_true rfl) (Nat.le_of_ble_eq_true rfl) rfl ?_
        refine v_goto (q := 5) hC dJ7_fill_53178_17 (by decide) ?_
        have e3 : upd (fil (G.2.1 r o) x j) j x = fil (G.2.1 r o) x (j + 1) := by
          funext i
          simp only [fil, upd]
          by_cases hi : i = j
          · rw [if_pos hi, if_pos (by omega)]
          · rw [if_neg hi]
            by_cases h9 : i < j
            · rw [if_pos h9, if_pos (by omega)]
            · rw [if_neg h9, if_neg (by omega)]
        rw [e3]
        exact ih (j + 1) (by omega)
  refine v_iconst (q := 1) (v := 0) hC dJ7_fill_53178_0 rfl (by decide) ?_
  refine v_istore_n (i := 2) (q := 2) hC dJ7_fill_53178_1 rfl rfl (lvc rfl) (Nat.le_of_ble_eq_true rfl) (Nat.le_of_ble_eq_true rfl) rfl ?_
  refine v_aload_n (i := 0) (q := 3) hC dJ7_fill_53178_2 rfl rfl rfl ?_
  refine v_aleni (q := 4) (N := N) hC dJ7_fill_53178_3 rfl hid (hce _ _) rfl ?_
  refine v_istore_n (i := 3) (q := 5) hC dJ7_fill_53178_4 rfl rfl (lvc rfl) (Nat.le_of_ble_eq_true rfl) (Nat.le_of_ble_eq_true rfl) rfl ?_
  have e := L N 0 rfl
  rw [show fil (G.2.1 r o) x 0 = G.2.1 r o from by funext i; simp [fil], putA_self] at e
  exact e
abbrev jS (G : GS) (a b : Nat → Int32) : GS := putA (putA G 0 19 a) 0 20 b
theorem jS_jS (G : GS) (a b a' b' : Nat → Int32) : jS (jS G a b) a' b' = jS G a' b' := by
  unfold jS putA
  refine Prod.ext rfl (Prod.ext ?_ rfl)
  funext r o
  dsimp only
  by_cases h : r = 0 ∧ o = 20
  · rw [if_pos h, if_pos h]
  · rw [if_neg h, if_neg h]
    by_cases h2 : r = 0 ∧ o = 19
    · rw [if_pos h2, if_neg h, if_pos h2]
    · rw [if_neg h2, if_neg h, if_neg h2, if_neg h, if_neg h2]
theorem jS_19 (G : GS) (a b : Nat → Int32) : (jS G a b).2.1 0 19 = a := rfl
theorem jS_20 (G : GS) (a b : Nat → Int32) : (jS G a b).2.1 0 20 = b := rfl
theorem jS_self (G : GS) : jS G (G.2.1 0 19) (G.2.1 0 20) = G := by
  unfold jS
  rw [putA_self]
  exact putA_self G 0 20
/-- settle: from the place j on, n left -/
def stl (rs pl cd : Int32) : Nat → Nat → (Nat → Int32) × (Nat → Int32) → (Nat → Int32) × (Nat → Int32)
  | 0, _, q => q
  | n + 1, j, q => stl rs pl cd n (j + 1) (if jHas rs (nI j) = true then (upd q.1 j pl, upd q.2 j cd) else q)
set_option maxHeartbeats 4000000 in
set_option maxRecDepth 20000 in
theorem c_X4_settle {l : Launch} (hl : l.stackTraces = false) (Θ : cTH) (rs pl cd : Int32) (G : GS) : Ct l yX4_settle cX4_settle 5 none rm_X4_settle Θ [.ref (tR Θ 0 18), .int rs, .int pl, .int cd] (G) (fR none (jS G (stl rs pl cd 4 0 (G.2.1 0 19, G.2.1 0 20)).1 (stl rs pl cd 4 0 (G.2.1 0 19, G.2.1 0 20)).2)) := by
  refine ct_of (LS := [some (.ref (tR Θ 0 18)), some (.int rs), some (.int pl), some (.int cd), none]) hl (by decide +kernel) rfl (Nat.le_of_ble_eq_true rfl) rfl ?_
  intro p e s m args below meth c hC hr
  have L : ∀ (n j : Nat) (a b : Nat → Int32), n + j = 4 → stl rs pl cd n j (a, b) = stl rs pl cd 4 0 (G.2.1 0 19, G.2.1 0 20) → V p l e rm_X4_settle s m args below meth c 5 Θ (fR none (jS G (stl rs pl cd 4 0 (G.2.1 0 19, G.2.1 0 20)).1 (stl rs pl cd 4 0 (G.2.1 0 19, G.2.1 0 20)).2)) 0 0 0 0 3 [some (.ref (tR Θ 0 18)), some (.int rs), some (.int pl), some (.int cd), some (.int (nI j))] [] (jS G a b) := by
    intro n
    induction n with
    | zero =>
      intro j a b h1 h2
      refine v_iload (q := 5) hC dX4_settle_3 rfl rfl ?_
      refine v_iconst (q := 6) (v := 4) hC dX4_settle_5 rfl (by decide) ?_
      refine v_icmp_ge (q := 40) (q2 := 9) hC dX4_settle_6 (by decide) rfl (fun c_6 => ?_) (fun c_6 => ?_)
      · refine v_vret hC dX4_settle_40 hr ?_ (Nat.le_of_ble_eq_true rfl) (Nat.le_of_ble_eq_true rfl)
        exact ⟨rfl, by rw [← h2, stl]⟩
      · exact absurd (by rw [show j = 4 by omega]; decide) c_6
    | succ n ih =>
      intro j a b h1 h2
      have e2 := nI_clamp (show j < 2 ^ 31 by omega)
      refine v_iload (q := 5) hC dX4_settle_3 rfl rfl ?_
      refine v_iconst (q := 6) (v := 4) hC dX4_settle_5 rfl (by decide) ?_
      refine v_icmp_ge (q := 40) (q2 := 9) hC dX4_settle_6 (by decide) rfl (fun c_6 => ?_) (fun c_6 => ?_)
      · exact absurd c_6 (by rw [show (4 : Int32) = nI 4 from rfl]; exact nI_ge (by omega) (by omega))
      · refine v_iload_n (i := 1) (q := 10) hC dX4_settle_9 rfl rfl rfl ?_
        refine v_iload (q := 12) hC dX4_settle_10 rfl rfl ?_
        refine v_callN (q := 15) (rm := rm_X11_has) hC (c_X11_has hl Θ _ _ _) k_X11_has st_yX11_has nl_RX4_25 dX4_settle_12 rfl  rfl rfl (Nat.le_of_ble_eq_true rfl) ⟨Nat.le_of_ble_eq_true rfl, Nat.le_of_ble_eq_true rfl⟩ ⟨Nat.le_of_ble_eq_true rfl, Nat.le_of_ble_eq_true rfl⟩ (fR_k ?_) fR_x (Nat.le_of_ble_eq_true rfl) (Nat.le_of_ble_eq_true rfl)
        try dsimp only [Option.toList, List.cons_append, List.nil_append]
        refine v_ifb_eq (q := 34) (q2 := 18) hC dX4_settle_15 (by decide) rfl (fun c_15 => ?_) (fun c_15 => ?_)
        · refine v_iinc (q := 37) (v := nI (j + 1)) hC dX4_settle_34 rfl rfl (nI_1 j) (lvc rfl) (Nat.le_of_ble_eq_true rfl) (Nat.le_of_ble_eq_true rfl) rfl ?_
          refine v_goto (q := 3) hC dX4_settle_37 (by decide) ?_
          exact ih (j + 1) a b (by omega) (by rw [← h2, stl, if_neg (by rw [c_15]; decide)])
        · refine v_aload_n (i := 0) (q := 19) hC dX4_settle_18 rfl rfl rfl ?_
          refine g_X4_0 (q := 22) hC dX4_settle_19 rfl rfl fl_RX4_9 ?_
          refine v_iload (q := 24) hC dX4_settle_22 rfl rfl ?_
          refine v_iload_n (i := 2) (q := 25) hC dX4_settle_24 rfl rfl rfl ?_
          refine v_iast (q := 26) hC dX4_settle_25 rfl rfl (fun _ => rfl) (vp_in_nI (by omega) (by omega)) ?_
          refine v_aload_n (i := 0) (q := 27) hC dX4_settle_26 rfl rfl rfl ?_
          refine g_X4_1 (q := 30) hC dX4_settle_27 rfl rfl fl_RX4_15 ?_
          refine v_iload (q := 32) hC dX4_settle_30 rfl rfl ?_
          refine v_iload_n (i := 3) (q := 33) hC dX4_settle_32 rfl rfl rfl ?_
          refine v_iast (q := 34) hC dX4_settle_33 rfl rfl (fun _ => rfl) (vp_in_nI (by omega) (by omega)) ?_
          refine v_iinc (q := 37) (v := nI (j + 1)) hC dX4_settle_34 rfl rfl (nI_1 j) (lvc rfl) (Nat.le_of_ble_eq_true rfl) (Nat.le_of_ble_eq_true rfl) rfl ?_
          refine v_goto (q := 3) hC dX4_settle_37 (by decide) ?_
          have e9 : putA (putA (jS G a b) 0 19 (upd ((jS G a b).2.1 0 19) (nI j).toNatClampNeg pl)) 0 20 (upd ((putA (jS G a b) 0 19 (upd ((jS G a b).2.1 0 19) (nI j).toNatClampNeg pl)).2.1 0 20) (nI j).toNatClampNeg cd) = jS G (upd a j pl) (upd b j cd) := by
            rw [e2]; exact jS_jS G a b (upd a j pl) (upd b j cd)
          rw [e9]
          exact ih (j + 1) _ _ (by omega) (by rw [← h2, stl, if_pos c_15])
  refine v_iconst (q := 1) (v := 0) hC dX4_settle_0 rfl (by decide) ?_
  refine v_istore (q := 3) hC dX4_settle_1 rfl (lvc rfl) (Nat.le_of_ble_eq_true rfl) (Nat.le_of_ble_eq_true rfl) rfl ?_
  have e := L 4 0 (G.2.1 0 19) (G.2.1 0 20) rfl rfl
  rw [jS_self] at e
  exact e
