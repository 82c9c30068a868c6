/-! changes of users and groups -/
section NEG
variable {p : Program} {l : Launch} {e : Env} {R : Room} {s : State} {m : MethodId} {args : Array Value} {below : List Frame} {meth : Method} {c : Code} {cc : ByteArray} {nL : Nat} {own : String} {Θ : cTH} {Q9 : State → Prop} {k n pc q : Nat} {LS : List (Option Value)} {rest : List Value} {G : GS}
theorem v_ineg (hC : cC p l s m args meth c cc nL own Θ) {x : Int32} (d : decode cc pc = .ok (.ineg, 1)) (hq : pc + 1 = q) (kk : VG p l e R s m args below meth c nL Θ Q9 k n q LS (.int (-x) :: rest) G) : VG p l e R s m args below meth c nL Θ Q9 k n pc LS (.int x :: rest) G := by
  subst hq; exact v_lift0 (fun H locs ls Q w => lv_ineg hC.1 hC.2.1 d w) kk
end NEG
/-- the end of a change: the law's rows say again what the model's row says -/
def fQ (t : Nat) : cOut → GS → Prop := fun o G1 => o = .inl (some (.int 1)) ∧ Sim G1 (t + 1) ∧ LR G1 ∧ noT G1.2.2.1 2
theorem LRq.rows {G1 Gm : GS} {w2 : Nat → Int32} (hw : G1.2.1 0 30 = w2) (ha : ∀ o, 40 ≤ o → o < 48 → G1.2.1 0 o = Gm.2.1 0 o) (h : LRq w2 (Gm.2.1 0 40) (Gm.2.1 0 41) (Gm.2.1 0 42) (Gm.2.1 0 43) (Gm.2.1 0 44)) : LRq (G1.2.1 0 30) (G1.2.1 0 40) (G1.2.1 0 41) (G1.2.1 0 42) (G1.2.1 0 43) (G1.2.1 0 44) := by
  rw [hw, ha 40 (by decide) (by decide), ha 41 (by decide) (by decide), ha 42 (by decide) (by decide), ha 43 (by decide) (by decide), ha 44 (by decide) (by decide)]
  exact h
theorem fQ_mk {G1 Gm : GS} {w2 : Nat → Int32} {t : Nat} (hS : Sim G1 (t + 1)) (hw : G1.2.1 0 30 = w2) (ha : ∀ o, 40 ≤ o → o < 48 → G1.2.1 0 o = Gm.2.1 0 o) (hl : G1.2.2.1 = Gm.2.2.1) (hlv : noT Gm.2.2.1 2) (h : LRq w2 (Gm.2.1 0 40) (Gm.2.1 0 41) (Gm.2.1 0 42) (Gm.2.1 0 43) (Gm.2.1 0 44)) : fQ t (.inl (some (.int 1))) G1 := ⟨rfl, hS, LR.of hS (LRq.rows hw ha h), by rw [hl]; exact hlv⟩
theorem CtR.p {l : Launch} {y : MethodName} {cc : ByteArray} {n : Nat} {ret : Option FieldType} {hh : List (Nat × Nat × Nat × Nat)} {rm : Room} {Θ : cTH} {as : List Value} {G G0 : GS} {t : Nat} {v v2 : Int32} {w w2 : Nat → Int32} (h : CtR l y cc n ret hh rm Θ as G (pQ G0 t v w)) (e : v = v2) (e2 : w = w2) : CtR l y cc n ret hh rm Θ as G (pQ G0 t v2 w2) := e ▸ e2 ▸ h
theorem upd_same (f : Nat → Int32) (k : Nat) {v : Int32} (h : v = f k) : upd f k v = f := by
  funext x
  by_cases hx : x = k
  · subst hx; rw [upd_s, h]
  · rw [upd_n hx]
theorem putA_lv (G : GS) (r o : Nat) (a : Nat → Int32) : (putA G r o a).2.2.1 = G.2.2.1 := rfl
abbrev rm_L_ofGroups : Room := { frames := 9, locals := 157, cells := 26, slots := 156 }
set_option maxHeartbeats 4000000 in
set_option maxRecDepth 20000 in
theorem c_L_ofGroups {l : Launch} (hl : l.stackTraces = false) (Θ : cTH) (way y t : Nat) (G : GS) (hS : Sim G t) (hL : LR G) (ht : t < 2 ^ 20) (hlv : noT G.2.2.1 2) (hw : way < 8) (hy : y < 2 ^ 31) : Ct l yL_ofGroups cL_ofGroups 12 (some .boolean) rm_L_ofGroups Θ [.ref (tR Θ 0 14), .ref (tR Θ 0 40), .ref (tR Θ 0 44), .int (nI way), .int (nI y)] (G) (fQ t) := by
  refine ct_of (LS := [some (.ref (tR Θ 0 14)), some (.ref (tR Θ 0 40)), some (.ref (tR Θ 0 44)), some (.int (nI way)), some (.int (nI y)), none, none, none, none, none, none, none]) hl (by decide +kernel) rfl (Nat.le_of_ble_eq_true rfl) rfl ?_
  intro p e s m args below meth c hC hr
  have hLq := hL.q
  obtain ⟨hD, ⟨e0, us1⟩, e1, -⟩ := hL
  have hU := hD.ok.us12
  have hG := hD.ok.gs8
  have w0 := hD.ok.us
  have w1 := hD.ok.gs
  have hc : ∀ k, k < 10 → mCt (G.2.1 0 30) k ≤ 6 := fun k hk => hD.ok.ct6 (by omega)
  -- behind the numbers
  have D : ∀ (u g o2 : Nat), u < 12 → g < 8 → o2 < 8 → V p l e rm_L_ofGroups s m args below meth c 12 Θ (fQ t) 26 156 0 0 27 [some (.ref (tR Θ 0 14)), some (.ref (tR Θ 0 40)), some (.ref (tR Θ 0 44)), some (.int (nI way)), some (.int (nI y)), some (.int (nI u)), some (.int (nI g)), some (.int (nI o2)), none, none, none, none] [] (G) := by
    intro u g o2 hu hg ho
    by_cases h0 : way = 0
    · subst h0
      have hSm : ∀ v, Sim (putA G 0 44 (upd (G.2.1 0 44) 0 v)) t := fun v => hS.pa (by decide)
      by_cases hf : mUs (G.2.1 0 30) = 12
      · have c0 : ¬ (!decide (G.2.1 0 30 0 = 12)) = true := by rw [w0, hf]; decide
        refine v_iload_n (i := 3) (q := 28) hC dL_ofGroups_27 rfl rfl rfl ?_
        refine v_if_ne (q := 90) (q2 := 31) hC dL_ofGroups_28 (by decide) rfl (fun c_28 => ?_) (fun c_28 => ?_)
        · exact absurd rfl c_28
        · refine v_aload_n (i := 2) (q := 32) hC dL_ofGroups_31 rfl rfl rfl ?_
          refine v_iconst (q := 33) (v := 0) hC dL_ofGroups_32 rfl (by decide) ?_
          refine v_ialdV (q := 34) hC dL_ofGroups_33 rfl rfl rfl (i := 0) (rfl) (by first | decide | omega) (by decide) (e0) ?_
          refine v_bipush (q := 36) (v := 12) hC dL_ofGroups_34 rfl (by decide) ?_
          refine v_icmp_ne (q := 43) (q2 := 39) hC dL_ofGroups_36 (by decide) rfl (fun c_36 => ?_) (fun c_36 => ?_)
          · exact absurd (by rw [hf]; rfl) c_36
          · refine v_iconst (q := 40) (v := 1) hC dL_ofGroups_39 rfl (by decide) ?_
            refine v_goto (q := 44) hC dL_ofGroups_40 (by decide) ?_
            refine v_istore (q := 46) hC dL_ofGroups_44 rfl (lvc rfl) (Nat.le_of_ble_eq_true rfl) (Nat.le_of_ble_eq_true rfl) rfl ?_
            refine v_aload_n (i := 2) (q := 47) hC dL_ofGroups_46 rfl rfl rfl ?_
            refine v_iconst (q := 48) (v := 0) hC dL_ofGroups_47 rfl (by decide) ?_
            refine v_dup2 (q := 49) hC dL_ofGroups_48 rfl rfl rfl ?_
            refine v_ialdV (q := 50) hC dL_ofGroups_49 rfl rfl rfl (i := 0) (rfl) (by first | decide | omega) (by decide) (e0) ?_
            refine v_iload (q := 52) hC dL_ofGroups_50 rfl rfl ?_
            refine v_if_eq (q := 59) (q2 := 55) hC dL_ofGroups_52 (by decide) rfl (fun c_52 => ?_) (fun c_52 => ?_)
            · exact absurd c_52 (by decide)
            · refine v_iconst (q := 56) (v := 0) hC dL_ofGroups_55 rfl (by decide) ?_
              refine v_goto (q := 60) hC dL_ofGroups_56 (by decide) ?_
              refine v_iadd (q := 61) hC dL_ofGroups_60 rfl ?_
              refine v_iastN (q := 62) hC dL_ofGroups_61 rfl rfl (fun _ => rfl) (i := 0) (rfl) (by first | decide | omega | (unfold oA; omega) | (unfold enA; omega)) (by decide) ?_
              refine v_aload_n (i := 0) (q := 63) hC dL_ofGroups_62 rfl rfl rfl ?_
              refine v_callR (q := 66) (rm := rm_L_addUserOf) hC ((r_addUser hl Θ (Nx.refl (hSm _)) ht).p (v2 := -101) (w2 := G.2.1 0 30) (if_neg c0) (if_neg c0)) kh_L_addUserOf ml_RL_331 dL_ofGroups_63 rfl rfl rfl (Nat.le_of_ble_eq_true rfl) ⟨Nat.le_of_ble_eq_true rfl, Nat.le_of_ble_eq_true rfl⟩ (c1 := 1) (s1 := 6) rfl rfl ⟨show _ + 1 ≤ 26 by omega, show _ + 6 ≤ 156 by omega⟩ (pQ_k (fun G_63 s_63 w_63 a_63 l_63 => ?_)) pQ_n
              try dsimp only [Option.toList, List.cons_append, List.nil_append]
              refine v_iload (q := 68) hC dL_ofGroups_66 rfl rfl ?_
              refine v_if_eq (q := 76) (q2 := 71) hC dL_ofGroups_68 (by decide) rfl (fun c_68 => ?_) (fun c_68 => ?_)
              · exact absurd c_68 (by decide)
              · refine v_bipush (q := 73) (v := (-101)) hC dL_ofGroups_71 rfl (by decide) ?_
                refine v_goto (q := 81) hC dL_ofGroups_73 (by decide) ?_
                refine v_icmp_ne (q := 88) (q2 := 84) hC dL_ofGroups_81 (by decide) rfl (fun c_81 => ?_) (fun c_81 => ?_)
                · exact absurd rfl c_81
                · refine v_iconst (q := 85) (v := 1) hC dL_ofGroups_84 rfl (by decide) ?_
                  refine v_goto (q := 89) hC dL_ofGroups_85 (by decide) ?_
                  refine v_iret hC dL_ofGroups_89 hr (rfl) ?_ (show _ ≤ 26 by omega) (show _ ≤ 156 by omega)
                  refine fQ_mk s_63 w_63 a_63 l_63 hlv ?_
                  show LRq (G.2.1 0 30) (G.2.1 0 40) (G.2.1 0 41) (G.2.1 0 42) (G.2.1 0 43) (upd (G.2.1 0 44) 0 _)
                  rw [upd_same _ _ (by rw [e0, Int32.add_zero])]
                  exact hLq
      · have c0 : (!decide (G.2.1 0 30 0 = 12)) = true := by
          rw [w0, decide_eq_false (show ¬ nI (mUs (G.2.1 0 30)) = 12 from fun z => hf ((nI_eq (b := 12) (by omega) (by decide)).mp z))]; rfl
        refine v_iload_n (i := 3) (q := 28) hC dL_ofGroups_27 rfl rfl rfl ?_
        refine v_if_ne (q := 90) (q2 := 31) hC dL_ofGroups_28 (by decide) rfl (fun c_28 => ?_) (fun c_28 => ?_)
        · exact absurd rfl c_28
        · refine v_aload_n (i := 2) (q := 32) hC dL_ofGroups_31 rfl rfl rfl ?_
          refine v_iconst (q := 33) (v := 0) hC dL_ofGroups_32 rfl (by decide) ?_
          refine v_ialdV (q := 34) hC dL_ofGroups_33 rfl rfl rfl (i := 0) (rfl) (by first | decide | omega) (by decide) (e0) ?_
          refine v_bipush (q := 36) (v := 12) hC dL_ofGroups_34 rfl (by decide) ?_
          refine v_icmp_ne (q := 43) (q2 := 39) hC dL_ofGroups_36 (by decide) rfl (fun c_36 => ?_) (fun c_36 => ?_)
          · refine v_iconst (q := 44) (v := 0) hC dL_ofGroups_43 rfl (by decide) ?_
            refine v_istore (q := 46) hC dL_ofGroups_44 rfl (lvc rfl) (Nat.le_of_ble_eq_true rfl) (Nat.le_of_ble_eq_true rfl) rfl ?_
            refine v_aload_n (i := 2) (q := 47) hC dL_ofGroups_46 rfl rfl rfl ?_
            refine v_iconst (q := 48) (v := 0) hC dL_ofGroups_47 rfl (by decide) ?_
            refine v_dup2 (q := 49) hC dL_ofGroups_48 rfl rfl rfl ?_
            refine v_ialdV (q := 50) hC dL_ofGroups_49 rfl rfl rfl (i := 0) (rfl) (by first | decide | omega) (by decide) (e0) ?_
            refine v_iload (q := 52) hC dL_ofGroups_50 rfl rfl ?_
            refine v_if_eq (q := 59) (q2 := 55) hC dL_ofGroups_52 (by decide) rfl (fun c_52 => ?_) (fun c_52 => ?_)
            · refine v_iconst (q := 60) (v := 1) hC dL_ofGroups_59 rfl (by decide) ?_
              refine v_iadd (q := 61) hC dL_ofGroups_60 rfl ?_
              refine v_iastN (q := 62) hC dL_ofGroups_61 rfl rfl (fun _ => rfl) (i := 0) (rfl) (by first | decide | omega | (unfold oA; omega) | (unfold enA; omega)) (by decide) ?_
              refine v_aload_n (i := 0) (q := 63) hC dL_ofGroups_62 rfl rfl rfl ?_
              refine v_callR (q := 66) (rm := rm_L_addUserOf) hC ((r_addUser hl Θ (Nx.refl (hSm _)) ht).p (v2 := nI (mUs (G.2.1 0 30))) (w2 := upd (G.2.1 0 30) 0 (G.2.1 0 30 0 + 1)) ((if_pos c0).trans (by
                show gI (G.2.1 0 30 0 + 1 - 1) = _
                rw [w0, gI, nI_1, nI_pred])) (if_pos c0)) kh_L_addUserOf ml_RL_331 dL_ofGroups_63 rfl rfl rfl (Nat.le_of_ble_eq_true rfl) ⟨Nat.le_of_ble_eq_true rfl, Nat.le_of_ble_eq_true rfl⟩ (c1 := 1) (s1 := 6) rfl rfl ⟨show _ + 1 ≤ 26 by omega, show _ + 6 ≤ 156 by omega⟩ (pQ_k (fun G_63 s_63 w_63 a_63 l_63 => ?_)) pQ_n
              try dsimp only [Option.toList, List.cons_append, List.nil_append]
              refine v_iload (q := 68) hC dL_ofGroups_66 rfl rfl ?_
              refine v_if_eq (q := 76) (q2 := 71) hC dL_ofGroups_68 (by decide) rfl (fun c_68 => ?_) (fun c_68 => ?_)
              · refine v_aload_n (i := 2) (q := 77) hC dL_ofGroups_76 rfl rfl rfl ?_
                refine v_iconst (q := 78) (v := 0) hC dL_ofGroups_77 rfl (by decide) ?_
                refine v_ialdV (q := 79) hC dL_ofGroups_78 rfl rfl rfl (i := 0) (rfl) (by first | decide | omega) (by decide) ((congrFun (a_63 44 (by decide) (by decide)) 0).trans ((congrFun (putA_same _ _ _ _) 0).trans (upd_s _ _ _))) ?_
                refine v_iconst (q := 80) (v := 1) hC dL_ofGroups_79 rfl (by decide) ?_
                refine v_isub (q := 81) hC dL_ofGroups_80 rfl ?_
                rw [nI_1, nI_pred]
                refine v_icmp_ne (q := 88) (q2 := 84) hC dL_ofGroups_81 (by decide) rfl (fun c_81 => ?_) (fun c_81 => ?_)
                · exact absurd rfl c_81
                · refine v_iconst (q := 85) (v := 1) hC dL_ofGroups_84 rfl (by decide) ?_
                  refine v_goto (q := 89) hC dL_ofGroups_85 (by decide) ?_
                  refine v_iret hC dL_ofGroups_89 hr (rfl) ?_ (show _ ≤ 26 by omega) (show _ ≤ 156 by omega)
                  refine fQ_mk s_63 w_63 a_63 l_63 hlv ?_
                  show LRq _ (G.2.1 0 40) (G.2.1 0 41) (G.2.1 0 42) (G.2.1 0 43) (upd (G.2.1 0 44) 0 _)
                  rw [← e0]
                  exact hLq.addUser hc
              · exact absurd rfl c_68
            · exact absurd rfl c_52
          · exact absurd ((nI_eq (b := 12) (by omega) (by decide)).mp c_36) hf
    by_cases h1 : way = 1
    · subst h1
      have hSm : ∀ v, Sim (putA G 0 44 (upd (G.2.1 0 44) 1 v)) t := fun v => hS.pa (by decide)
      by_cases hf : mGs (G.2.1 0 30) = 8
      · have c0 : ¬ (!decide (G.2.1 0 30 1 = 8)) = true := by rw [w1, hf]; decide
        refine v_iload_n (i := 3) (q := 28) hC dL_ofGroups_27 rfl rfl rfl ?_
        refine v_if_ne (q := 90) (q2 := 31) hC dL_ofGroups_28 (by decide) rfl (fun c_28 => ?_) (fun c_28 => ?_)
        · refine v_iload_n (i := 3) (q := 91) hC dL_ofGroups_90 rfl rfl rfl ?_
          refine v_iconst (q := 92) (v := 1) hC dL_ofGroups_91 rfl (by decide) ?_
          refine v_icmp_ne (q := 154) (q2 := 95) hC dL_ofGroups_92 (by decide) rfl (fun c_92 => ?_) (fun c_92 => ?_)
          · exact absurd rfl c_92
          · refine v_aload_n (i := 2) (q := 96) hC dL_ofGroups_95 rfl rfl rfl ?_
            refine v_iconst (q := 97) (v := 1) hC dL_ofGroups_96 rfl (by decide) ?_
            refine v_ialdV (q := 98) hC dL_ofGroups_97 rfl rfl rfl (i := 1) (rfl) (by first | decide | omega) (by decide) (e1) ?_
            refine v_bipush (q := 100) (v := 8) hC dL_ofGroups_98 rfl (by decide) ?_
            refine v_icmp_ne (q := 107) (q2 := 103) hC dL_ofGroups_100 (by decide) rfl (fun c_100 => ?_) (fun c_100 => ?_)
            · exact absurd (by rw [hf]; rfl) c_100
            · refine v_iconst (q := 104) (v := 1) hC dL_ofGroups_103 rfl (by decide) ?_
              refine v_goto (q := 108) hC dL_ofGroups_104 (by decide) ?_
              refine v_istore (q := 110) hC dL_ofGroups_108 rfl (lvc rfl) (Nat.le_of_ble_eq_true rfl) (Nat.le_of_ble_eq_true rfl) rfl ?_
              refine v_aload_n (i := 2) (q := 111) hC dL_ofGroups_110 rfl rfl rfl ?_
              refine v_iconst (q := 112) (v := 1) hC dL_ofGroups_111 rfl (by decide) ?_
              refine v_dup2 (q := 113) hC dL_ofGroups_112 rfl rfl rfl ?_
              refine v_ialdV (q := 114) hC dL_ofGroups_113 rfl rfl rfl (i := 1) (rfl) (by first | decide | omega) (by decide) (e1) ?_
              refine v_iload (q := 116) hC dL_ofGroups_114 rfl rfl ?_
              refine v_if_eq (q := 123) (q2 := 119) hC dL_ofGroups_116 (by decide) rfl (fun c_116 => ?_) (fun c_116 => ?_)
              · exact absurd c_116 (by decide)
              · refine v_iconst (q := 120) (v := 0) hC dL_ofGroups_119 rfl (by decide) ?_
                refine v_goto (q := 124) hC dL_ofGroups_120 (by decide) ?_
                refine v_iadd (q := 125) hC dL_ofGroups_124 rfl ?_
                refine v_iastN (q := 126) hC dL_ofGroups_125 rfl rfl (fun _ => rfl) (i := 1) (rfl) (by first | decide | omega | (unfold oA; omega) | (unfold enA; omega)) (by decide) ?_
                refine v_aload_n (i := 0) (q := 127) hC dL_ofGroups_126 rfl rfl rfl ?_
                refine v_callR (q := 130) (rm := rm_L_addGroupOf) hC ((r_addGroup hl Θ (Nx.refl (hSm _)) ht).p (v2 := -101) (w2 := G.2.1 0 30) (if_neg c0) (if_neg c0)) kh_L_addGroupOf ml_RL_335 dL_ofGroups_127 rfl rfl rfl (Nat.le_of_ble_eq_true rfl) ⟨Nat.le_of_ble_eq_true rfl, Nat.le_of_ble_eq_true rfl⟩ (c1 := 1) (s1 := 6) rfl rfl ⟨show _ + 1 ≤ 26 by omega, show _ + 6 ≤ 156 by omega⟩ (pQ_k (fun G_127 s_127 w_127 a_127 l_127 => ?_)) pQ_n
                try dsimp only [Option.toList, List.cons_append, List.nil_append]
                refine v_iload (q := 132) hC dL_ofGroups_130 rfl rfl ?_
                refine v_if_eq (q := 140) (q2 := 135) hC dL_ofGroups_132 (by decide) rfl (fun c_132 => ?_) (fun c_132 => ?_)
                · exact absurd c_132 (by decide)
                · refine v_bipush (q := 137) (v := (-101)) hC dL_ofGroups_135 rfl (by decide) ?_
                  refine v_goto (q := 145) hC dL_ofGroups_137 (by decide) ?_
                  refine v_icmp_ne (q := 152) (q2 := 148) hC dL_ofGroups_145 (by decide) rfl (fun c_145 => ?_) (fun c_145 => ?_)
                  · exact absurd rfl c_145
                  · refine v_iconst (q := 149) (v := 1) hC dL_ofGroups_148 rfl (by decide) ?_
                    refine v_goto (q := 153) hC dL_ofGroups_149 (by decide) ?_
                    refine v_iret hC dL_ofGroups_153 hr (rfl) ?_ (show _ ≤ 26 by omega) (show _ ≤ 156 by omega)
                    refine fQ_mk s_127 w_127 a_127 l_127 hlv ?_
                    show LRq (G.2.1 0 30) (G.2.1 0 40) (G.2.1 0 41) (G.2.1 0 42) (G.2.1 0 43) (upd (G.2.1 0 44) 1 _)
                    rw [upd_same _ _ (by rw [e1, Int32.add_zero])]
                    exact hLq
        · exact absurd c_28 (by decide)
      · have c0 : (!decide (G.2.1 0 30 1 = 8)) = true := by
          rw [w1, decide_eq_false (show ¬ nI (mGs (G.2.1 0 30)) = 8 from fun z => hf ((nI_eq (b := 8) (by omega) (by decide)).mp z))]; rfl
        refine v_iload_n (i := 3) (q := 28) hC dL_ofGroups_27 rfl rfl rfl ?_
        refine v_if_ne (q := 90) (q2 := 31) hC dL_ofGroups_28 (by decide) rfl (fun c_28 => ?_) (fun c_28 => ?_)
        · refine v_iload_n (i := 3) (q := 91) hC dL_ofGroups_90 rfl rfl rfl ?_
          refine v_iconst (q := 92) (v := 1) hC dL_ofGroups_91 rfl (by decide) ?_
          refine v_icmp_ne (q := 154) (q2 := 95) hC dL_ofGroups_92 (by decide) rfl (fun c_92 => ?_) (fun c_92 => ?_)
          · exact absurd rfl c_92
          · refine v_aload_n (i := 2) (q := 96) hC dL_ofGroups_95 rfl rfl rfl ?_
            refine v_iconst (q := 97) (v := 1) hC dL_ofGroups_96 rfl (by decide) ?_
            refine v_ialdV (q := 98) hC dL_ofGroups_97 rfl rfl rfl (i := 1) (rfl) (by first | decide | omega) (by decide) (e1) ?_
            refine v_bipush (q := 100) (v := 8) hC dL_ofGroups_98 rfl (by decide) ?_
            refine v_icmp_ne (q := 107) (q2 := 103) hC dL_ofGroups_100 (by decide) rfl (fun c_100 => ?_) (fun c_100 => ?_)
            · refine v_iconst (q := 108) (v := 0) hC dL_ofGroups_107 rfl (by decide) ?_
              refine v_istore (q := 110) hC dL_ofGroups_108 rfl (lvc rfl) (Nat.le_of_ble_eq_true rfl) (Nat.le_of_ble_eq_true rfl) rfl ?_
              refine v_aload_n (i := 2) (q := 111) hC dL_ofGroups_110 rfl rfl rfl ?_
              refine v_iconst (q := 112) (v := 1) hC dL_ofGroups_111 rfl (by decide) ?_
              refine v_dup2 (q := 113) hC dL_ofGroups_112 rfl rfl rfl ?_
              refine v_ialdV (q := 114) hC dL_ofGroups_113 rfl rfl rfl (i := 1) (rfl) (by first | decide | omega) (by decide) (e1) ?_
              refine v_iload (q := 116) hC dL_ofGroups_114 rfl rfl ?_
              refine v_if_eq (q := 123) (q2 := 119) hC dL_ofGroups_116 (by decide) rfl (fun c_116 => ?_) (fun c_116 => ?_)
              · refine v_iconst (q := 124) (v := 1) hC dL_ofGroups_123 rfl (by decide) ?_
                refine v_iadd (q := 125) hC dL_ofGroups_124 rfl ?_
                refine v_iastN (q := 126) hC dL_ofGroups_125 rfl rfl (fun _ => rfl) (i := 1) (rfl) (by first | decide | omega | (unfold oA; omega) | (unfold enA; omega)) (by decide) ?_
                refine v_aload_n (i := 0) (q := 127) hC dL_ofGroups_126 rfl rfl rfl ?_
                refine v_callR (q := 130) (rm := rm_L_addGroupOf) hC ((r_addGroup hl Θ (Nx.refl (hSm _)) ht).p (v2 := nI (mGs (G.2.1 0 30))) (w2 := upd (G.2.1 0 30) 1 (G.2.1 0 30 1 + 1)) ((if_pos c0).trans (by
                  show gI (G.2.1 0 30 1 + 1 - 1) = _
                  rw [w1, gI, nI_1, nI_pred])) (if_pos c0)) kh_L_addGroupOf ml_RL_335 dL_ofGroups_127 rfl rfl rfl (Nat.le_of_ble_eq_true rfl) ⟨Nat.le_of_ble_eq_true rfl, Nat.le_of_ble_eq_true rfl⟩ (c1 := 1) (s1 := 6) rfl rfl ⟨show _ + 1 ≤ 26 by omega, show _ + 6 ≤ 156 by omega⟩ (pQ_k (fun G_127 s_127 w_127 a_127 l_127 => ?_)) pQ_n
                try dsimp only [Option.toList, List.cons_append, List.nil_append]
                refine v_iload (q := 132) hC dL_ofGroups_130 rfl rfl ?_
                refine v_if_eq (q := 140) (q2 := 135) hC dL_ofGroups_132 (by decide) rfl (fun c_132 => ?_) (fun c_132 => ?_)
                · refine v_aload_n (i := 2) (q := 141) hC dL_ofGroups_140 rfl rfl rfl ?_
                  refine v_iconst (q := 142) (v := 1) hC dL_ofGroups_141 rfl (by decide) ?_
                  refine v_ialdV (q := 143) hC dL_ofGroups_142 rfl rfl rfl (i := 1) (rfl) (by first | decide | omega) (by decide) ((congrFun (a_127 44 (by decide) (by decide)) 1).trans ((congrFun (putA_same _ _ _ _) 1).trans (upd_s _ _ _))) ?_
                  refine v_iconst (q := 144) (v := 1) hC dL_ofGroups_143 rfl (by decide) ?_
                  refine v_isub (q := 145) hC dL_ofGroups_144 rfl ?_
                  rw [nI_1, nI_pred]
                  refine v_icmp_ne (q := 152) (q2 := 148) hC dL_ofGroups_145 (by decide) rfl (fun c_145 => ?_) (fun c_145 => ?_)
                  · exact absurd rfl c_145
                  · refine v_iconst (q := 149) (v := 1) hC dL_ofGroups_148 rfl (by decide) ?_
                    refine v_goto (q := 153) hC dL_ofGroups_149 (by decide) ?_
                    refine v_iret hC dL_ofGroups_153 hr (rfl) ?_ (show _ ≤ 26 by omega) (show _ ≤ 156 by omega)
                    refine fQ_mk s_127 w_127 a_127 l_127 hlv ?_
                    show LRq _ (G.2.1 0 40) (G.2.1 0 41) (G.2.1 0 42) (G.2.1 0 43) (upd (G.2.1 0 44) 1 _)
                    rw [← e1]
                    exact hLq.addGroup hc
                · exact absurd rfl c_132
              · exact absurd rfl c_116
            · exact absurd ((nI_eq (b := 8) (by omega) (by decide)).mp c_100) hf
        · exact absurd c_28 (by decide)
    have n0 : ¬ nI way = 0 := fun z => h0 ((nI_eq (b := 0) (by omega) (by decide)).mp z)
    have n1 : ¬ nI way = 1 := fun z => h1 ((nI_eq (b := 1) (by omega) (by decide)).mp z)
    have eu : (nI u).toNatClampNeg = u := nI_clamp (by omega)
    have eg : (nI g).toNatClampNeg = g := nI_clamp (by omega)
    have eo : (nI o2).toNatClampNeg = o2 := nI_clamp (by omega)
    have z0 : Nx G G t := Nx.refl hS
    have ps : ∀ x, bt x g = false → x + ((1 : Int32) <<< (nI g &&& 31)) = x ||| ((1 : Int32) <<< (nI g &&& 31)) := fun x hx => add_p x (by omega) hx
    by_cases h5 : way < 5
    · -- join, leave
      have n5 : nI way < 5 := nI_lt (b := 5) h5 (by decide)
      have mg : G.2.1 0 40 g = G.2.1 0 30 (2 + g) := hD.gm hg
      have hmem : mHas (G.2.1 0 30 (2 + g)) (nI u) = bt (G.2.1 0 30 (2 + g)) u := mHas_i _ (by omega)
      by_cases hth : u < mUs (G.2.1 0 30) ∧ g < mGs (G.2.1 0 30)
      · have cg : (mIn (nI u) 0 (G.2.1 0 30 0 - 1) && mIn (nI g) 0 (G.2.1 0 30 1 - 1)) = true := by
          rw [hD.mU (by omega), hD.mG (by omega), decide_eq_true hth.1, decide_eq_true hth.2]; rfl
        have W : ∀ x, Sim (putA G 0 40 (upd (G.2.1 0 40) g x)) t := fun x => hS.pa (by decide)
        -- the answer of a change
        have A : ∀ (x : Int32) (G' : GS) (x9 : Value), Sim G' (t + 1) → G'.2.1 0 30 = upd (G.2.1 0 30) (2 + g) x → (∀ o, 40 ≤ o → o < 48 → G'.2.1 0 o = (putA G 0 40 (upd (G.2.1 0 40) g x)).2.1 0 o) → G'.2.2.1 = G.2.2.1 → ∀ (jn : Int32) (k9 n9 : Nat), k9 ≤ 20 → n9 ≤ 140 → V p l e rm_L_ofGroups s m args below meth c 12 Θ (fQ t) 26 156 k9 n9 310 [some (.ref (tR Θ 0 14)), some (.ref (tR Θ 0 40)), some (.ref (tR Θ 0 44)), some (.int (nI way)), some (.int (nI y)), some (.int (nI u)), some (.int (nI g)), some (.int (nI o2)), some (.int 1), some x9, some (.int jn), none] [.int (mHow (upd (G.2.1 0 30) (2 + g) x) (mGs (G.2.1 0 30)) g (mUs (G.2.1 0 30)) 0 0)] (G') := by
          intro x G' x9 s9 w9 a9 l9 jn k9 n9 hk9 hn9
          have hq9 : LRq (G'.2.1 0 30) (G'.2.1 0 40) (G'.2.1 0 41) (G'.2.1 0 42) (G'.2.1 0 43) (G'.2.1 0 44) := LRq.rows w9 a9 (hLq.mem hc hg x)
          have hL9 := LR.of s9 hq9
          have hhow := many_how hL9.1 (fun a ha => s9.1.wl ha) hg
          have eU : mUs (upd (G.2.1 0 30) (2 + g) x) = mUs (G.2.1 0 30) := by unfold mUs; rw [upd_n (by omega)]
          have eG : mGs (upd (G.2.1 0 30) (2 + g) x) = mGs (G.2.1 0 30) := by unfold mGs; rw [upd_n (by omega)]
          rw [w9, eU, eG] at hhow
          refine v_aload_n (i := 1) (q := 311) hC dL_ofGroups_310 rfl rfl rfl ?_
          refine v_iload (q := 313) hC dL_ofGroups_311 rfl rfl ?_
          refine v_callSN (q := 316) (rm := rm_L_belong) hC (c_L_belong hl Θ g _ hg hL9.1.g8) k_L_belong st_yL_belong ml_RL_181 dL_ofGroups_313 rfl rfl rfl (Nat.le_of_ble_eq_true rfl) ⟨Nat.le_of_ble_eq_true rfl, Nat.le_of_ble_eq_true rfl⟩ (c1 := 0) (s1 := 0) rfl rfl ⟨show _ + 0 ≤ 26 by omega, show _ + 0 ≤ 156 by omega⟩ (fR_k ?_) fR_n
          try dsimp only [Option.toList, List.cons_append, List.nil_append]
          refine v_callSN (q := 319) (rm := rm_L_many) hC (c_L_many hl Θ _ _) k_L_many st_yL_many ml_RL_299 dL_ofGroups_316 rfl rfl rfl (Nat.le_of_ble_eq_true rfl) ⟨Nat.le_of_ble_eq_true rfl, Nat.le_of_ble_eq_true rfl⟩ (c1 := 0) (s1 := 0) rfl rfl ⟨show _ + 0 ≤ 26 by omega, show _ + 0 ≤ 156 by omega⟩ (fR_k ?_) fR_n
          try dsimp only [Option.toList, List.cons_append, List.nil_append]
          rw [hhow]
          refine v_icmp_ne (q := 326) (q2 := 322) hC dL_ofGroups_319 (by decide) rfl (fun c_319 => ?_) (fun c_319 => ?_)
          · exact absurd rfl c_319
          · refine v_iconst (q := 323) (v := 1) hC dL_ofGroups_322 rfl (by decide) ?_
            refine v_goto (q := 327) hC dL_ofGroups_323 (by decide) ?_
            refine v_iret hC dL_ofGroups_327 hr (rfl) ?_ (show _ ≤ 26 by omega) (show _ ≤ 156 by omega)
            exact ⟨rfl, s9, hL9, by rw [l9]; exact hlv⟩
        by_cases hj : way < 4
        · have n4 : nI way < 4 := nI_lt (b := 4) hj (by decide)
          cases hm : bt (G.2.1 0 30 (2 + g)) u with
          | true =>
            rw [hm] at hmem
            have c1 : ¬ (!mHas (G.2.1 0 30 (2 + g)) (nI u)) = true := by rw [hmem]; decide
            refine v_iload_n (i := 3) (q := 28) hC dL_ofGroups_27 rfl rfl rfl ?_
            refine v_if_ne (q := 90) (q2 := 31) hC dL_ofGroups_28 (by decide) rfl (fun c_28 => ?_) (fun c_28 => ?_)
            · refine v_iload_n (i := 3) (q := 91) hC dL_ofGroups_90 rfl rfl rfl ?_
              refine v_iconst (q := 92) (v := 1) hC dL_ofGroups_91 rfl (by decide) ?_
              refine v_icmp_ne (q := 154) (q2 := 95) hC dL_ofGroups_92 (by decide) rfl (fun c_92 => ?_) (fun c_92 => ?_)
              · refine v_iload_n (i := 3) (q := 155) hC dL_ofGroups_154 rfl rfl rfl ?_
                refine v_iconst (q := 156) (v := 5) hC dL_ofGroups_155 rfl (by decide) ?_
                refine v_icmp_ge (q := 328) (q2 := 159) hC dL_ofGroups_156 (by decide) rfl (fun c_156 => ?_) (fun c_156 => ?_)
                · exact absurd n5 (Int32.not_lt.mpr c_156)
                · refine v_iload (q := 161) hC dL_ofGroups_159 rfl rfl ?_
                  refine v_aload_n (i := 2) (q := 162) hC dL_ofGroups_161 rfl rfl rfl ?_
                  refine v_iconst (q := 163) (v := 0) hC dL_ofGroups_162 rfl (by decide) ?_
                  refine v_ialdV (q := 164) hC dL_ofGroups_163 rfl rfl rfl (i := 0) (rfl) (by first | decide | omega) (by decide) (e0) ?_
                  refine v_icmp_ge (q := 179) (q2 := 167) hC dL_ofGroups_164 (by decide) rfl (fun c_164 => ?_) (fun c_164 => ?_)
                  · exact absurd c_164 (nI_ge hth.1 (by omega))
                  · refine v_iload (q := 169) hC dL_ofGroups_167 rfl rfl ?_
                    refine v_aload_n (i := 2) (q := 170) hC dL_ofGroups_169 rfl rfl rfl ?_
                    refine v_iconst (q := 171) (v := 1) hC dL_ofGroups_170 rfl (by decide) ?_
                    refine v_ialdV (q := 172) hC dL_ofGroups_171 rfl rfl rfl (i := 1) (rfl) (by first | decide | omega) (by decide) (e1) ?_
                    refine v_icmp_ge (q := 179) (q2 := 175) hC dL_ofGroups_172 (by decide) rfl (fun c_172 => ?_) (fun c_172 => ?_)
                    · exact absurd c_172 (nI_ge hth.2 (by omega))
                    · refine v_iconst (q := 176) (v := 1) hC dL_ofGroups_175 rfl (by decide) ?_
                      refine v_goto (q := 180) hC dL_ofGroups_176 (by decide) ?_
                      refine v_istore (q := 182) hC dL_ofGroups_180 rfl (lvc rfl) (Nat.le_of_ble_eq_true rfl) (Nat.le_of_ble_eq_true rfl) rfl ?_
                      refine v_aload_n (i := 1) (q := 183) hC dL_ofGroups_182 rfl rfl rfl ?_
                      refine v_iload (q := 185) hC dL_ofGroups_183 rfl rfl ?_
                      refine v_ialdV (q := 186) hC dL_ofGroups_185 rfl rfl rfl (i := g) (rfl) (by first | decide | omega) (by decide) (mg) ?_
                      refine v_iload (q := 188) hC dL_ofGroups_186 rfl rfl ?_
                      refine v_callSN (q := 191) (rm := rm_L_has) hC (c_L_has hl Θ _ _ _) k_L_has st_yL_has ml_RL_172 dL_ofGroups_188 rfl rfl rfl (Nat.le_of_ble_eq_true rfl) ⟨Nat.le_of_ble_eq_true rfl, Nat.le_of_ble_eq_true rfl⟩ (c1 := 0) (s1 := 0) rfl rfl ⟨show _ + 0 ≤ 26 by omega, show _ + 0 ≤ 156 by omega⟩ (fR_k ?_) fR_n
                      try dsimp only [Option.toList, List.cons_append, List.nil_append]
                      rw [hmem]
                      refine v_istore (q := 193) hC dL_ofGroups_191 rfl (lvc rfl) (Nat.le_of_ble_eq_true rfl) (Nat.le_of_ble_eq_true rfl) rfl ?_
                      refine v_iload_n (i := 3) (q := 194) hC dL_ofGroups_193 rfl rfl rfl ?_
                      refine v_iconst (q := 195) (v := 4) hC dL_ofGroups_194 rfl (by decide) ?_
                      refine v_icmp_ge (q := 202) (q2 := 198) hC dL_ofGroups_195 (by decide) rfl (fun c_195 => ?_) (fun c_195 => ?_)
                      · exact absurd n4 (Int32.not_lt.mpr c_195)
                      · refine v_iconst (q := 199) (v := 1) hC dL_ofGroups_198 rfl (by decide) ?_
                        refine v_goto (q := 203) hC dL_ofGroups_199 (by decide) ?_
                        refine v_istore (q := 205) hC dL_ofGroups_203 rfl (lvc rfl) (Nat.le_of_ble_eq_true rfl) (Nat.le_of_ble_eq_true rfl) rfl ?_
                        refine v_iload (q := 207) hC dL_ofGroups_205 rfl rfl ?_
                        refine v_if_eq (q := 217) (q2 := 210) hC dL_ofGroups_207 (by decide) rfl (fun c_207 => ?_) (fun c_207 => ?_)
                        · exact absurd c_207 (by decide)
                        · refine v_iload (q := 212) hC dL_ofGroups_210 rfl rfl ?_
                          refine v_iload (q := 214) hC dL_ofGroups_212 rfl rfl ?_
                          refine v_icmp_ne (q := 262) (q2 := 217) hC dL_ofGroups_214 (by decide) rfl (fun c_214 => ?_) (fun c_214 => ?_)
                          · exact absurd rfl c_214
                          · refine v_iload (q := 219) hC dL_ofGroups_217 rfl rfl ?_
                            refine v_if_eq (q := 233) (q2 := 222) hC dL_ofGroups_219 (by decide) rfl (fun c_219 => ?_) (fun c_219 => ?_)
                            · exact absurd c_219 (by decide)
                            · refine v_aload_n (i := 0) (q := 223) hC dL_ofGroups_222 rfl rfl rfl ?_
                              refine v_iload (q := 225) hC dL_ofGroups_223 rfl rfl ?_
                              refine v_iload (q := 227) hC dL_ofGroups_225 rfl rfl ?_
                              refine v_callR (q := 230) (rm := rm_L_joinOf) hC ((r_join hl Θ z0 ht (nI u) (nI g)).p (v2 := -102) (w2 := G.2.1 0 30) (by rw [if_pos cg, eg]; exact if_neg c1) (by rw [if_pos cg, eg]; exact if_neg c1)) kh_L_joinOf ml_RL_338 dL_ofGroups_227 rfl rfl rfl (Nat.le_of_ble_eq_true rfl) ⟨Nat.le_of_ble_eq_true rfl, Nat.le_of_ble_eq_true rfl⟩ (c1 := 3) (s1 := 18) rfl rfl ⟨show _ + 3 ≤ 26 by omega, show _ + 18 ≤ 156 by omega⟩ (pQ_k (fun G_227 s_227 w_227 a_227 l_227 => ?_)) pQ_n
                              try dsimp only [Option.toList, List.cons_append, List.nil_append]
                              refine v_goto (q := 241) hC dL_ofGroups_230 (by decide) ?_
                              refine v_iload (q := 243) hC dL_ofGroups_241 rfl rfl ?_
                              refine v_if_eq (q := 251) (q2 := 246) hC dL_ofGroups_243 (by decide) rfl (fun c_243 => ?_) (fun c_243 => ?_)
                              · exact absurd c_243 (by decide)
                              · refine v_bipush (q := 248) (v := (-102)) hC dL_ofGroups_246 rfl (by decide) ?_
                                refine v_goto (q := 253) hC dL_ofGroups_248 (by decide) ?_
                                refine v_icmp_ne (q := 260) (q2 := 256) hC dL_ofGroups_253 (by decide) rfl (fun c_253 => ?_) (fun c_253 => ?_)
                                · exact absurd rfl c_253
                                · refine v_iconst (q := 257) (v := 1) hC dL_ofGroups_256 rfl (by decide) ?_
                                  refine v_goto (q := 261) hC dL_ofGroups_257 (by decide) ?_
                                  refine v_iret hC dL_ofGroups_261 hr (rfl) ?_ (show _ ≤ 26 by omega) (show _ ≤ 156 by omega)
                                  exact fQ_mk s_227 w_227 a_227 l_227 hlv hLq
              · exact absurd c_92 n1
            · exact absurd c_28 n0
          | false =>
            rw [hm] at hmem
            have c1 : (!mHas (G.2.1 0 30 (2 + g)) (nI u)) = true := by rw [hmem]; rfl
            have eb : G.2.1 0 30 (2 + g) + ((1 : Int32) <<< (nI u &&& 31)) = G.2.1 0 30 (2 + g) ||| ((1 : Int32) <<< (nI u &&& 31)) := add_p _ (by omega) hm
            refine v_iload_n (i := 3) (q := 28) hC dL_ofGroups_27 rfl rfl rfl ?_
            refine v_if_ne (q := 90) (q2 := 31) hC dL_ofGroups_28 (by decide) rfl (fun c_28 => ?_) (fun c_28 => ?_)
            · refine v_iload_n (i := 3) (q := 91) hC dL_ofGroups_90 rfl rfl rfl ?_
              refine v_iconst (q := 92) (v := 1) hC dL_ofGroups_91 rfl (by decide) ?_
              refine v_icmp_ne (q := 154) (q2 := 95) hC dL_ofGroups_92 (by decide) rfl (fun c_92 => ?_) (fun c_92 => ?_)
              · refine v_iload_n (i := 3) (q := 155) hC dL_ofGroups_154 rfl rfl rfl ?_
                refine v_iconst (q := 156) (v := 5) hC dL_ofGroups_155 rfl (by decide) ?_
                refine v_icmp_ge (q := 328) (q2 := 159) hC dL_ofGroups_156 (by decide) rfl (fun c_156 => ?_) (fun c_156 => ?_)
                · exact absurd n5 (Int32.not_lt.mpr c_156)
                · refine v_iload (q := 161) hC dL_ofGroups_159 rfl rfl ?_
                  refine v_aload_n (i := 2) (q := 162) hC dL_ofGroups_161 rfl rfl rfl ?_
                  refine v_iconst (q := 163) (v := 0) hC dL_ofGroups_162 rfl (by decide) ?_
                  refine v_ialdV (q := 164) hC dL_ofGroups_163 rfl rfl rfl (i := 0) (rfl) (by first | decide | omega) (by decide) (e0) ?_
                  refine v_icmp_ge (q := 179) (q2 := 167) hC dL_ofGroups_164 (by decide) rfl (fun c_164 => ?_) (fun c_164 => ?_)
                  · exact absurd c_164 (nI_ge hth.1 (by omega))
                  · refine v_iload (q := 169) hC dL_ofGroups_167 rfl rfl ?_
                    refine v_aload_n (i := 2) (q := 170) hC dL_ofGroups_169 rfl rfl rfl ?_
                    refine v_iconst (q := 171) (v := 1) hC dL_ofGroups_170 rfl (by decide) ?_
                    refine v_ialdV (q := 172) hC dL_ofGroups_171 rfl rfl rfl (i := 1) (rfl) (by first | decide | omega) (by decide) (e1) ?_
                    refine v_icmp_ge (q := 179) (q2 := 175) hC dL_ofGroups_172 (by decide) rfl (fun c_172 => ?_) (fun c_172 => ?_)
                    · exact absurd c_172 (nI_ge hth.2 (by omega))
                    · refine v_iconst (q := 176) (v := 1) hC dL_ofGroups_175 rfl (by decide) ?_
                      refine v_goto (q := 180) hC dL_ofGroups_176 (by decide) ?_
                      refine v_istore (q := 182) hC dL_ofGroups_180 rfl (lvc rfl) (Nat.le_of_ble_eq_true rfl) (Nat.le_of_ble_eq_true rfl) rfl ?_
                      refine v_aload_n (i := 1) (q := 183) hC dL_ofGroups_182 rfl rfl rfl ?_
                      refine v_iload (q := 185) hC dL_ofGroups_183 rfl rfl ?_
                      refine v_ialdV (q := 186) hC dL_ofGroups_185 rfl rfl rfl (i := g) (rfl) (by first | decide | omega) (by decide) (mg) ?_
                      refine v_iload (q := 188) hC dL_ofGroups_186 rfl rfl ?_
                      refine v_callSN (q := 191) (rm := rm_L_has) hC (c_L_has hl Θ _ _ _) k_L_has st_yL_has ml_RL_172 dL_ofGroups_188 rfl rfl rfl (Nat.le_of_ble_eq_true rfl) ⟨Nat.le_of_ble_eq_true rfl, Nat.le_of_ble_eq_true rfl⟩ (c1 := 0) (s1 := 0) rfl rfl ⟨show _ + 0 ≤ 26 by omega, show _ + 0 ≤ 156 by omega⟩ (fR_k ?_) fR_n
                      try dsimp only [Option.toList, List.cons_append, List.nil_append]
                      rw [hmem]
                      refine v_istore (q := 193) hC dL_ofGroups_191 rfl (lvc rfl) (Nat.le_of_ble_eq_true rfl) (Nat.le_of_ble_eq_true rfl) rfl ?_
                      refine v_iload_n (i := 3) (q := 194) hC dL_ofGroups_193 rfl rfl rfl ?_
                      refine v_iconst (q := 195) (v := 4) hC dL_ofGroups_194 rfl (by decide) ?_
                      refine v_icmp_ge (q := 202) (q2 := 198) hC dL_ofGroups_195 (by decide) rfl (fun c_195 => ?_) (fun c_195 => ?_)
                      · exact absurd n4 (Int32.not_lt.mpr c_195)
                      · refine v_iconst (q := 199) (v := 1) hC dL_ofGroups_198 rfl (by decide) ?_
                        refine v_goto (q := 203) hC dL_ofGroups_199 (by decide) ?_
                        refine v_istore (q := 205) hC dL_ofGroups_203 rfl (lvc rfl) (Nat.le_of_ble_eq_true rfl) (Nat.le_of_ble_eq_true rfl) rfl ?_
                        refine v_iload (q := 207) hC dL_ofGroups_205 rfl rfl ?_
                        refine v_if_eq (q := 217) (q2 := 210) hC dL_ofGroups_207 (by decide) rfl (fun c_207 => ?_) (fun c_207 => ?_)
                        · exact absurd c_207 (by decide)
                        · refine v_iload (q := 212) hC dL_ofGroups_210 rfl rfl ?_
                          refine v_iload (q := 214) hC dL_ofGroups_212 rfl rfl ?_
                          refine v_icmp_ne (q := 262) (q2 := 217) hC dL_ofGroups_214 (by decide) rfl (fun c_214 => ?_) (fun c_214 => ?_)
                          · refine v_aload_n (i := 1) (q := 263) hC dL_ofGroups_262 rfl rfl rfl ?_
                            refine v_iload (q := 265) hC dL_ofGroups_263 rfl rfl ?_
                            refine v_dup2 (q := 266) hC dL_ofGroups_265 rfl rfl rfl ?_
                            refine v_ialdV (q := 267) hC dL_ofGroups_266 rfl rfl rfl (i := g) (rfl) (by first | decide | omega) (by decide) (mg) ?_
                            refine v_iload (q := 269) hC dL_ofGroups_267 rfl rfl ?_
                            refine v_if_eq (q := 279) (q2 := 272) hC dL_ofGroups_269 (by decide) rfl (fun c_269 => ?_) (fun c_269 => ?_)
                            · exact absurd c_269 (by decide)
                            · refine v_iconst (q := 273) (v := 1) hC dL_ofGroups_272 rfl (by decide) ?_
                              refine v_iload (q := 275) hC dL_ofGroups_273 rfl rfl ?_
                              refine v_ishl (q := 276) hC dL_ofGroups_275 rfl ?_
                              refine v_goto (q := 284) hC dL_ofGroups_276 (by decide) ?_
                              refine v_iadd (q := 285) hC dL_ofGroups_284 rfl ?_
                              refine v_iastN (q := 286) hC dL_ofGroups_285 rfl rfl (fun _ => rfl) (i := g) (rfl) (by first | decide | omega | (unfold oA; omega) | (unfold enA; omega)) (by decide) ?_
                              rw [eb]
                              refine v_iload (q := 288) hC dL_ofGroups_286 rfl rfl ?_
                              refine v_if_eq (q := 302) (q2 := 291) hC dL_ofGroups_288 (by decide) rfl (fun c_288 => ?_) (fun c_288 => ?_)
                              · exact absurd c_288 (by decide)
                              · refine v_aload_n (i := 0) (q := 292) hC dL_ofGroups_291 rfl rfl rfl ?_
                                refine v_iload (q := 294) hC dL_ofGroups_292 rfl rfl ?_
                                refine v_iload (q := 296) hC dL_ofGroups_294 rfl rfl ?_
                                refine v_callR (q := 299) (rm := rm_L_joinOf) hC ((r_join hl Θ (Nx.refl (W _)) ht (nI u) (nI g)).p (v2 := mHow (upd (G.2.1 0 30) (2 + g) (G.2.1 0 30 (2 + g) ||| ((1 : Int32) <<< (nI u &&& 31)))) (mGs (G.2.1 0 30)) g (mUs (G.2.1 0 30)) 0 0) (w2 := upd (G.2.1 0 30) (2 + g) (G.2.1 0 30 (2 + g) ||| ((1 : Int32) <<< (nI u &&& 31)))) (by rw [eg]; exact (if_pos cg).trans (if_pos c1)) (by rw [eg]; exact (if_pos cg).trans (if_pos c1))) kh_L_joinOf ml_RL_338 dL_ofGroups_296 rfl rfl rfl (Nat.le_of_ble_eq_true rfl) ⟨Nat.le_of_ble_eq_true rfl, Nat.le_of_ble_eq_true rfl⟩ (c1 := 3) (s1 := 18) rfl rfl ⟨show _ + 3 ≤ 26 by omega, show _ + 18 ≤ 156 by omega⟩ (pQ_k (fun G_296 s_296 w_296 a_296 l_296 => ?_)) pQ_n
                                try dsimp only [Option.toList, List.cons_append, List.nil_append]
                                refine v_goto (q := 310) hC dL_ofGroups_299 (by decide) ?_
                                exact A _ _ _ s_296 w_296 a_296 l_296 _ _ _ (by decide) (by decide)
                          · exact absurd c_214 (by decide)
              · exact absurd c_92 n1
            · exact absurd c_28 n0
        · have n4 : ¬ nI way < 4 := nI_nlt (b := 4) (by omega) (by omega)
          cases hm : bt (G.2.1 0 30 (2 + g)) u with
          | false =>
            rw [hm] at hmem
            have c1 : ¬ mHas (G.2.1 0 30 (2 + g)) (nI u) = true := by rw [hmem]; decide
            refine v_iload_n (i := 3) (q := 28) hC dL_ofGroups_27 rfl rfl rfl ?_
            refine v_if_ne (q := 90) (q2 := 31) hC dL_ofGroups_28 (by decide) rfl (fun c_28 => ?_) (fun c_28 => ?_)
            · refine v_iload_n (i := 3) (q := 91) hC dL_ofGroups_90 rfl rfl rfl ?_
              refine v_iconst (q := 92) (v := 1) hC dL_ofGroups_91 rfl (by decide) ?_
              refine v_icmp_ne (q := 154) (q2 := 95) hC dL_ofGroups_92 (by decide) rfl (fun c_92 => ?_) (fun c_92 => ?_)
              · refine v_iload_n (i := 3) (q := 155) hC dL_ofGroups_154 rfl rfl rfl ?_
                refine v_iconst (q := 156) (v := 5) hC dL_ofGroups_155 rfl (by decide) ?_
                refine v_icmp_ge (q := 328) (q2 := 159) hC dL_ofGroups_156 (by decide) rfl (fun c_156 => ?_) (fun c_156 => ?_)
                · exact absurd n5 (Int32.not_lt.mpr c_156)
                · refine v_iload (q := 161) hC dL_ofGroups_159 rfl rfl ?_
                  refine v_aload_n (i := 2) (q := 162) hC dL_ofGroups_161 rfl rfl rfl ?_
                  refine v_iconst (q := 163) (v := 0) hC dL_ofGroups_162 rfl (by decide) ?_
                  refine v_ialdV (q := 164) hC dL_ofGroups_163 rfl rfl rfl (i := 0) (rfl) (by first | decide | omega) (by decide) (e0) ?_
                  refine v_icmp_ge (q := 179) (q2 := 167) hC dL_ofGroups_164 (by decide) rfl (fun c_164 => ?_) (fun c_164 => ?_)
                  · exact absurd c_164 (nI_ge hth.1 (by omega))
                  · refine v_iload (q := 169) hC dL_ofGroups_167 rfl rfl ?_
                    refine v_aload_n (i := 2) (q := 170) hC dL_ofGroups_169 rfl rfl rfl ?_
                    refine v_iconst (q := 171) (v := 1) hC dL_ofGroups_170 rfl (by decide) ?_
                    refine v_ialdV (q := 172) hC dL_ofGroups_171 rfl rfl rfl (i := 1) (rfl) (by first | decide | omega) (by decide) (e1) ?_
                    refine v_icmp_ge (q := 179) (q2 := 175) hC dL_ofGroups_172 (by decide) rfl (fun c_172 => ?_) (fun c_172 => ?_)
                    · exact absurd c_172 (nI_ge hth.2 (by omega))
                    · refine v_iconst (q := 176) (v := 1) hC dL_ofGroups_175 rfl (by decide) ?_
                      refine v_goto (q := 180) hC dL_ofGroups_176 (by decide) ?_
                      refine v_istore (q := 182) hC dL_ofGroups_180 rfl (lvc rfl) (Nat.le_of_ble_eq_true rfl) (Nat.le_of_ble_eq_true rfl) rfl ?_
                      refine v_aload_n (i := 1) (q := 183) hC dL_ofGroups_182 rfl rfl rfl ?_
                      refine v_iload (q := 185) hC dL_ofGroups_183 rfl rfl ?_
                      refine v_ialdV (q := 186) hC dL_ofGroups_185 rfl rfl rfl (i := g) (rfl) (by first | decide | omega) (by decide) (mg) ?_
                      refine v_iload (q := 188) hC dL_ofGroups_186 rfl rfl ?_
                      refine v_callSN (q := 191) (rm := rm_L_has) hC (c_L_has hl Θ _ _ _) k_L_has st_yL_has ml_RL_172 dL_ofGroups_188 rfl rfl rfl (Nat.le_of_ble_eq_true rfl) ⟨Nat.le_of_ble_eq_true rfl, Nat.le_of_ble_eq_true rfl⟩ (c1 := 0) (s1 := 0) rfl rfl ⟨show _ + 0 ≤ 26 by omega, show _ + 0 ≤ 156 by omega⟩ (fR_k ?_) fR_n
                      try dsimp only [Option.toList, List.cons_append, List.nil_append]
                      rw [hmem]
                      refine v_istore (q := 193) hC dL_ofGroups_191 rfl (lvc rfl) (Nat.le_of_ble_eq_true rfl) (Nat.le_of_ble_eq_true rfl) rfl ?_
                      refine v_iload_n (i := 3) (q := 194) hC dL_ofGroups_193 rfl rfl rfl ?_
                      refine v_iconst (q := 195) (v := 4) hC dL_ofGroups_194 rfl (by decide) ?_
                      refine v_icmp_ge (q := 202) (q2 := 198) hC dL_ofGroups_195 (by decide) rfl (fun c_195 => ?_) (fun c_195 => ?_)
                      · refine v_iconst (q := 203) (v := 0) hC dL_ofGroups_202 rfl (by decide) ?_
                        refine v_istore (q := 205) hC dL_ofGroups_203 rfl (lvc rfl) (Nat.le_of_ble_eq_true rfl) (Nat.le_of_ble_eq_true rfl) rfl ?_
                        refine v_iload (q := 207) hC dL_ofGroups_205 rfl rfl ?_
                        refine v_if_eq (q := 217) (q2 := 210) hC dL_ofGroups_207 (by decide) rfl (fun c_207 => ?_) (fun c_207 => ?_)
                        · exact absurd c_207 (by decide)
                        · refine v_iload (q := 212) hC dL_ofGroups_210 rfl rfl ?_
                          refine v_iload (q := 214) hC dL_ofGroups_212 rfl rfl ?_
                          refine v_icmp_ne (q := 262) (q2 := 217) hC dL_ofGroups_214 (by decide) rfl (fun c_214 => ?_) (fun c_214 => ?_)
                          · exact absurd rfl c_214
                          · refine v_iload (q := 219) hC dL_ofGroups_217 rfl rfl ?_
                            refine v_if_eq (q := 233) (q2 := 222) hC dL_ofGroups_219 (by decide) rfl (fun c_219 => ?_) (fun c_219 => ?_)
                            · refine v_aload_n (i := 0) (q := 234) hC dL_ofGroups_233 rfl rfl rfl ?_
                              refine v_iload (q := 236) hC dL_ofGroups_234 rfl rfl ?_
                              refine v_iload (q := 238) hC dL_ofGroups_236 rfl rfl ?_
                              refine v_callR (q := 241) (rm := rm_L_leaveOf) hC ((r_leave hl Θ z0 ht (nI u) (nI g)).p (v2 := -102) (w2 := G.2.1 0 30) (by rw [if_pos cg, eg]; exact if_neg c1) (by rw [if_pos cg, eg]; exact if_neg c1)) kh_L_leaveOf ml_RL_341 dL_ofGroups_238 rfl rfl rfl (Nat.le_of_ble_eq_true rfl) ⟨Nat.le_of_ble_eq_true rfl, Nat.le_of_ble_eq_true rfl⟩ (c1 := 3) (s1 := 18) rfl rfl ⟨show _ + 3 ≤ 26 by omega, show _ + 18 ≤ 156 by omega⟩ (pQ_k (fun G_238 s_238 w_238 a_238 l_238 => ?_)) pQ_n
                              try dsimp only [Option.toList, List.cons_append, List.nil_append]
                              refine v_iload (q := 243) hC dL_ofGroups_241 rfl rfl ?_
                              refine v_if_eq (q := 251) (q2 := 246) hC dL_ofGroups_243 (by decide) rfl (fun c_243 => ?_) (fun c_243 => ?_)
                              · exact absurd c_243 (by decide)
                              · refine v_bipush (q := 248) (v := (-102)) hC dL_ofGroups_246 rfl (by decide) ?_
                                refine v_goto (q := 253) hC dL_ofGroups_248 (by decide) ?_
                                refine v_icmp_ne (q := 260) (q2 := 256) hC dL_ofGroups_253 (by decide) rfl (fun c_253 => ?_) (fun c_253 => ?_)
                                · exact absurd rfl c_253
                                · refine v_iconst (q := 257) (v := 1) hC dL_ofGroups_256 rfl (by decide) ?_
                                  refine v_goto (q := 261) hC dL_ofGroups_257 (by decide) ?_
                                  refine v_iret hC dL_ofGroups_261 hr (rfl) ?_ (show _ ≤ 26 by omega) (show _ ≤ 156 by omega)
                                  exact fQ_mk s_238 w_238 a_238 l_238 hlv hLq
                            · exact absurd rfl c_219
                      · exact absurd (Int32.not_le.mp c_195) n4
              · exact absurd c_92 n1
            · exact absurd c_28 n0
          | true =>
            rw [hm] at hmem
            have c1 : mHas (G.2.1 0 30 (2 + g)) (nI u) = true := hmem
            have eb : G.2.1 0 30 (2 + g) + (-((1 : Int32) <<< (nI u &&& 31))) = G.2.1 0 30 (2 + g) - ((1 : Int32) <<< (nI u &&& 31)) := (Int32.sub_eq_add_neg _ _).symm
            refine v_iload_n (i := 3) (q := 28) hC dL_ofGroups_27 rfl rfl rfl ?_
            refine v_if_ne (q := 90) (q2 := 31) hC dL_ofGroups_28 (by decide) rfl (fun c_28 => ?_) (fun c_28 => ?_)
            · refine v_iload_n (i := 3) (q := 91) hC dL_ofGroups_90 rfl rfl rfl ?_
              refine v_iconst (q := 92) (v := 1) hC dL_ofGroups_91 rfl (by decide) ?_
              refine v_icmp_ne (q := 154) (q2 := 95) hC dL_ofGroups_92 (by decide) rfl (fun c_92 => ?_) (fun c_92 => ?_)
              · refine v_iload_n (i := 3) (q := 155) hC dL_ofGroups_154 rfl rfl rfl ?_
                refine v_iconst (q := 156) (v := 5) hC dL_ofGroups_155 rfl (by decide) ?_
                refine v_icmp_ge (q := 328) (q2 := 159) hC dL_ofGroups_156 (by decide) rfl (fun c_156 => ?_) (fun c_156 => ?_)
                · exact absurd n5 (Int32.not_lt.mpr c_156)
                · refine v_iload (q := 161) hC dL_ofGroups_159 rfl rfl ?_
                  refine v_aload_n (i := 2) (q := 162) hC dL_ofGroups_161 rfl rfl rfl ?_
                  refine v_iconst (q := 163) (v := 0) hC dL_ofGroups_162 rfl (by decide) ?_
                  refine v_ialdV (q := 164) hC dL_ofGroups_163 rfl rfl rfl (i := 0) (rfl) (by first | decide | omega) (by decide) (e0) ?_
                  refine v_icmp_ge (q := 179) (q2 := 167) hC dL_ofGroups_164 (by decide) rfl (fun c_164 => ?_) (fun c_164 => ?_)
                  · exact absurd c_164 (nI_ge hth.1 (by omega))
                  · refine v_iload (q := 169) hC dL_ofGroups_167 rfl rfl ?_
                    refine v_aload_n (i := 2) (q := 170) hC dL_ofGroups_169 rfl rfl rfl ?_
                    refine v_iconst (q := 171) (v := 1) hC dL_ofGroups_170 rfl (by decide) ?_
                    refine v_ialdV (q := 172) hC dL_ofGroups_171 rfl rfl rfl (i := 1) (rfl) (by first | decide | omega) (by decide) (e1) ?_
                    refine v_icmp_ge (q := 179) (q2 := 175) hC dL_ofGroups_172 (by decide) rfl (fun c_172 => ?_) (fun c_172 => ?_)
                    · exact absurd c_172 (nI_ge hth.2 (by omega))
                    · refine v_iconst (q := 176) (v := 1) hC dL_ofGroups_175 rfl (by decide) ?_
                      refine v_goto (q := 180) hC dL_ofGroups_176 (by decide) ?_
                      refine v_istore (q := 182) hC dL_ofGroups_180 rfl (lvc rfl) (Nat.le_of_ble_eq_true rfl) (Nat.le_of_ble_eq_true rfl) rfl ?_
                      refine v_aload_n (i := 1) (q := 183) hC dL_ofGroups_182 rfl rfl rfl ?_
                      refine v_iload (q := 185) hC dL_ofGroups_183 rfl rfl ?_
                      refine v_ialdV (q := 186) hC dL_ofGroups_185 rfl rfl rfl (i := g) (rfl) (by first | decide | omega) (by decide) (mg) ?_
                      refine v_iload (q := 188) hC dL_ofGroups_186 rfl rfl ?_
                      refine v_callSN (q := 191) (rm := rm_L_has) hC (c_L_has hl Θ _ _ _) k_L_has st_yL_has ml_RL_172 dL_ofGroups_188 rfl rfl rfl (Nat.le_of_ble_eq_true rfl) ⟨Nat.le_of_ble_eq_true rfl, Nat.le_of_ble_eq_true rfl⟩ (c1 := 0) (s1 := 0) rfl rfl ⟨show _ + 0 ≤ 26 by omega, show _ + 0 ≤ 156 by omega⟩ (fR_k ?_) fR_n
                      try dsimp only [Option.toList, List.cons_append, List.nil_append]
                      rw [hmem]
                      refine v_istore (q := 193) hC dL_ofGroups_191 rfl (lvc rfl) (Nat.le_of_ble_eq_true rfl) (Nat.le_of_ble_eq_true rfl) rfl ?_
                      refine v_iload_n (i := 3) (q := 194) hC dL_ofGroups_193 rfl rfl rfl ?_
                      refine v_iconst (q := 195) (v := 4) hC dL_ofGroups_194 rfl (by decide) ?_
                      refine v_icmp_ge (q := 202) (q2 := 198) hC dL_ofGroups_195 (by decide) rfl (fun c_195 => ?_) (fun c_195 => ?_)
                      · refine v_iconst (q := 203) (v := 0) hC dL_ofGroups_202 rfl (by decide) ?_
                        refine v_istore (q := 205) hC dL_ofGroups_203 rfl (lvc rfl) (Nat.le_of_ble_eq_true rfl) (Nat.le_of_ble_eq_true rfl) rfl ?_
                        refine v_iload (q := 207) hC dL_ofGroups_205 rfl rfl ?_
                        refine v_if_eq (q := 217) (q2 := 210) hC dL_ofGroups_207 (by decide) rfl (fun c_207 => ?_) (fun c_207 => ?_)
                        · exact absurd c_207 (by decide)
                        · refine v_iload (q := 212) hC dL_ofGroups_210 rfl rfl ?_
                          refine v_iload (q := 214) hC dL_ofGroups_212 rfl rfl ?_
                          refine v_icmp_ne (q := 262) (q2 := 217) hC dL_ofGroups_214 (by decide) rfl (fun c_214 => ?_) (fun c_214 => ?_)
                          · refine v_aload_n (i := 1) (q := 263) hC dL_ofGroups_262 rfl rfl rfl ?_
                            refine v_iload (q := 265) hC dL_ofGroups_263 rfl rfl ?_
                            refine v_dup2 (q := 266) hC dL_ofGroups_265 rfl rfl rfl ?_
                            refine v_ialdV (q := 267) hC dL_ofGroups_266 rfl rfl rfl (i := g) (rfl) (by first | decide | omega) (by decide) (mg) ?_
                            refine v_iload (q := 269) hC dL_ofGroups_267 rfl rfl ?_
                            refine v_if_eq (q := 279) (q2 := 272) hC dL_ofGroups_269 (by decide) rfl (fun c_269 => ?_) (fun c_269 => ?_)
                            · refine v_iconst (q := 280) (v := 1) hC dL_ofGroups_279 rfl (by decide) ?_
                              refine v_iload (q := 282) hC dL_ofGroups_280 rfl rfl ?_
                              refine v_ishl (q := 283) hC dL_ofGroups_282 rfl ?_
                              refine v_ineg (q := 284) hC dL_ofGroups_283 rfl ?_
                              refine v_iadd (q := 285) hC dL_ofGroups_284 rfl ?_
                              refine v_iastN (q := 286) hC dL_ofGroups_285 rfl rfl (fun _ => rfl) (i := g) (rfl) (by first | decide | omega | (unfold oA; omega) | (unfold enA; omega)) (by decide) ?_
                              rw [eb]
                              refine v_iload (q := 288) hC dL_ofGroups_286 rfl rfl ?_
                              refine v_if_eq (q := 302) (q2 := 291) hC dL_ofGroups_288 (by decide) rfl (fun c_288 => ?_) (fun c_288 => ?_)
                              · refine v_aload_n (i := 0) (q := 303) hC dL_ofGroups_302 rfl rfl rfl ?_
                                refine v_iload (q := 305) hC dL_ofGroups_303 rfl rfl ?_
                                refine v_iload (q := 307) hC dL_ofGroups_305 rfl rfl ?_
                                refine v_callR (q := 310) (rm := rm_L_leaveOf) hC ((r_leave hl Θ (Nx.refl (W _)) ht (nI u) (nI g)).p (v2 := mHow (upd (G.2.1 0 30) (2 + g) (G.2.1 0 30 (2 + g) - ((1 : Int32) <<< (nI u &&& 31)))) (mGs (G.2.1 0 30)) g (mUs (G.2.1 0 30)) 0 0) (w2 := upd (G.2.1 0 30) (2 + g) (G.2.1 0 30 (2 + g) - ((1 : Int32) <<< (nI u &&& 31)))) (by rw [eg]; exact (if_pos cg).trans (if_pos c1)) (by rw [eg]; exact (if_pos cg).trans (if_pos c1))) kh_L_leaveOf ml_RL_341 dL_ofGroups_307 rfl rfl rfl (Nat.le_of_ble_eq_true rfl) ⟨Nat.le_of_ble_eq_true rfl, Nat.le_of_ble_eq_true rfl⟩ (c1 := 3) (s1 := 18) rfl rfl ⟨show _ + 3 ≤ 26 by omega, show _ + 18 ≤ 156 by omega⟩ (pQ_k (fun G_307 s_307 w_307 a_307 l_307 => ?_)) pQ_n
                                try dsimp only [Option.toList, List.cons_append, List.nil_append]
                                exact A _ _ _ s_307 w_307 a_307 l_307 _ _ _ (by decide) (by decide)
                              · exact absurd rfl c_288
                            · exact absurd rfl c_269
                          · exact absurd c_214 (by decide)
                      · exact absurd (Int32.not_le.mp c_195) n4
              · exact absurd c_92 n1
            · exact absurd c_28 n0
      · have cg : ¬ (mIn (nI u) 0 (G.2.1 0 30 0 - 1) && mIn (nI g) 0 (G.2.1 0 30 1 - 1)) = true := by
          rw [hD.mU (by omega), hD.mG (by omega)]
          intro z
          obtain ⟨z1, z2⟩ := Bool.and_eq_true_iff.mp z
          exact hth ⟨of_decide_eq_true z1, of_decide_eq_true z2⟩
        refine v_iload_n (i := 3) (q := 28) hC dL_ofGroups_27 rfl rfl rfl ?_
        refine v_if_ne (q := 90) (q2 := 31) hC dL_ofGroups_28 (by decide) rfl (fun c_28 => ?_) (fun c_28 => ?_)
        · refine v_iload_n (i := 3) (q := 91) hC dL_ofGroups_90 rfl rfl rfl ?_
          refine v_iconst (q := 92) (v := 1) hC dL_ofGroups_91 rfl (by decide) ?_
          refine v_icmp_ne (q := 154) (q2 := 95) hC dL_ofGroups_92 (by decide) rfl (fun c_92 => ?_) (fun c_92 => ?_)
          · refine v_iload_n (i := 3) (q := 155) hC dL_ofGroups_154 rfl rfl rfl ?_
            refine v_iconst (q := 156) (v := 5) hC dL_ofGroups_155 rfl (by decide) ?_
            refine v_icmp_ge (q := 328) (q2 := 159) hC dL_ofGroups_156 (by decide) rfl (fun c_156 => ?_) (fun c_156 => ?_)
            · exact absurd n5 (Int32.not_lt.mpr c_156)
            · refine v_iload (q := 161) hC dL_ofGroups_159 rfl rfl ?_
              refine v_aload_n (i := 2) (q := 162) hC dL_ofGroups_161 rfl rfl rfl ?_
              refine v_iconst (q := 163) (v := 0) hC dL_ofGroups_162 rfl (by decide) ?_
              refine v_ialdV (q := 164) hC dL_ofGroups_163 rfl rfl rfl (i := 0) (rfl) (by first | decide | omega) (by decide) (e0) ?_
              refine v_icmp_ge (q := 179) (q2 := 167) hC dL_ofGroups_164 (by decide) rfl (fun c_164 => ?_) (fun c_164 => ?_)
              · refine v_iconst (q := 180) (v := 0) hC dL_ofGroups_179 rfl (by decide) ?_
                refine v_istore (q := 182) hC dL_ofGroups_180 rfl (lvc rfl) (Nat.le_of_ble_eq_true rfl) (Nat.le_of_ble_eq_true rfl) rfl ?_
                refine v_aload_n (i := 1) (q := 183) hC dL_ofGroups_182 rfl rfl rfl ?_
                refine v_iload (q := 185) hC dL_ofGroups_183 rfl rfl ?_
                refine v_ialdV (q := 186) hC dL_ofGroups_185 rfl rfl rfl (i := g) (rfl) (by first | decide | omega) (by decide) (mg) ?_
                refine v_iload (q := 188) hC dL_ofGroups_186 rfl rfl ?_
                refine v_callSN (q := 191) (rm := rm_L_has) hC (c_L_has hl Θ _ _ _) k_L_has st_yL_has ml_RL_172 dL_ofGroups_188 rfl rfl rfl (Nat.le_of_ble_eq_true rfl) ⟨Nat.le_of_ble_eq_true rfl, Nat.le_of_ble_eq_true rfl⟩ (c1 := 0) (s1 := 0) rfl rfl ⟨show _ + 0 ≤ 26 by omega, show _ + 0 ≤ 156 by omega⟩ (fR_k ?_) fR_n
                try dsimp only [Option.toList, List.cons_append, List.nil_append]
                refine v_istore (q := 193) hC dL_ofGroups_191 rfl (lvc rfl) (Nat.le_of_ble_eq_true rfl) (Nat.le_of_ble_eq_true rfl) rfl ?_
                refine v_iload_n (i := 3) (q := 194) hC dL_ofGroups_193 rfl rfl rfl ?_
                refine v_iconst (q := 195) (v := 4) hC dL_ofGroups_194 rfl (by decide) ?_
                refine v_icmp_ge (q := 202) (q2 := 198) hC dL_ofGroups_195 (by decide) rfl (fun c_195 => ?_) (fun c_195 => ?_)
                · refine v_iconst (q := 203) (v := 0) hC dL_ofGroups_202 rfl (by decide) ?_
                  refine v_istore (q := 205) hC dL_ofGroups_203 rfl (lvc rfl) (Nat.le_of_ble_eq_true rfl) (Nat.le_of_ble_eq_true rfl) rfl ?_
                  refine v_iload (q := 207) hC dL_ofGroups_205 rfl rfl ?_
                  refine v_if_eq (q := 217) (q2 := 210) hC dL_ofGroups_207 (by decide) rfl (fun c_207 => ?_) (fun c_207 => ?_)
                  · refine v_iload (q := 219) hC dL_ofGroups_217 rfl rfl ?_
                    refine v_if_eq (q := 233) (q2 := 222) hC dL_ofGroups_219 (by decide) rfl (fun c_219 => ?_) (fun c_219 => ?_)
                    · first
                      | exact absurd c_219 (by decide)
                      |
                        refine v_aload_n (i := 0) (q := 234) hC dL_ofGroups_233 rfl rfl rfl ?_
                        refine v_iload (q := 236) hC dL_ofGroups_234 rfl rfl ?_
                        refine v_iload (q := 238) hC dL_ofGroups_236 rfl rfl ?_
                        refine v_callR (q := 241) (rm := rm_L_leaveOf) hC ((r_leave hl Θ z0 ht (nI u) (nI g)).p (v2 := -101) (w2 := G.2.1 0 30) (if_neg cg) (if_neg cg)) kh_L_leaveOf ml_RL_341 dL_ofGroups_238 rfl rfl rfl (Nat.le_of_ble_eq_true rfl) ⟨Nat.le_of_ble_eq_true rfl, Nat.le_of_ble_eq_true rfl⟩ (c1 := 3) (s1 := 18) rfl rfl ⟨show _ + 3 ≤ 26 by omega, show _ + 18 ≤ 156 by omega⟩ (pQ_k (fun G_238 s_238 w_238 a_238 l_238 => ?_)) pQ_n
                        try dsimp only [Option.toList, List.cons_append, List.nil_append]
                        refine v_iload (q := 243) hC dL_ofGroups_241 rfl rfl ?_
                        refine v_if_eq (q := 251) (q2 := 246) hC dL_ofGroups_243 (by decide) rfl (fun c_243 => ?_) (fun c_243 => ?_)
                        · refine v_bipush (q := 253) (v := (-101)) hC dL_ofGroups_251 rfl (by decide) ?_
                          refine v_icmp_ne (q := 260) (q2 := 256) hC dL_ofGroups_253 (by decide) rfl (fun c_253 => ?_) (fun c_253 => ?_)
                          · exact absurd rfl c_253
                          · refine v_iconst (q := 257) (v := 1) hC dL_ofGroups_256 rfl (by decide) ?_
                            refine v_goto (q := 261) hC dL_ofGroups_257 (by decide) ?_
                            refine v_iret hC dL_ofGroups_261 hr (rfl) ?_ (show _ ≤ 26 by omega) (show _ ≤ 156 by omega)
                            first | exact fQ_mk s_227 w_227 a_227 l_227 hlv hLq | exact fQ_mk s_238 w_238 a_238 l_238 hlv hLq
                        · exact absurd rfl c_243
                    · first
                      | exact absurd c_219 (by decide)
                      |
                        refine v_aload_n (i := 0) (q := 223) hC dL_ofGroups_222 rfl rfl rfl ?_
                        refine v_iload (q := 225) hC dL_ofGroups_223 rfl rfl ?_
                        refine v_iload (q := 227) hC dL_ofGroups_225 rfl rfl ?_
                        refine v_callR (q := 230) (rm := rm_L_joinOf) hC ((r_join hl Θ z0 ht (nI u) (nI g)).p (v2 := -101) (w2 := G.2.1 0 30) (if_neg cg) (if_neg cg)) kh_L_joinOf ml_RL_338 dL_ofGroups_227 rfl rfl rfl (Nat.le_of_ble_eq_true rfl) ⟨Nat.le_of_ble_eq_true rfl, Nat.le_of_ble_eq_true rfl⟩ (c1 := 3) (s1 := 18) rfl rfl ⟨show _ + 3 ≤ 26 by omega, show _ + 18 ≤ 156 by omega⟩ (pQ_k (fun G_227 s_227 w_227 a_227 l_227 => ?_)) pQ_n
                        try dsimp only [Option.toList, List.cons_append, List.nil_append]
                        refine v_goto (q := 241) hC dL_ofGroups_230 (by decide) ?_
                        refine v_iload (q := 243) hC dL_ofGroups_241 rfl rfl ?_
                        refine v_if_eq (q := 251) (q2 := 246) hC dL_ofGroups_243 (by decide) rfl (fun c_243 => ?_) (fun c_243 => ?_)
                        · refine v_bipush (q := 253) (v := (-101)) hC dL_ofGroups_251 rfl (by decide) ?_
                          refine v_icmp_ne (q := 260) (q2 := 256) hC dL_ofGroups_253 (by decide) rfl (fun c_253 => ?_) (fun c_253 => ?_)
                          · exact absurd rfl c_253
                          · refine v_iconst (q := 257) (v := 1) hC dL_ofGroups_256 rfl (by decide) ?_
                            refine v_goto (q := 261) hC dL_ofGroups_257 (by decide) ?_
                            refine v_iret hC dL_ofGroups_261 hr (rfl) ?_ (show _ ≤ 26 by omega) (show _ ≤ 156 by omega)
                            first | exact fQ_mk s_227 w_227 a_227 l_227 hlv hLq | exact fQ_mk s_238 w_238 a_238 l_238 hlv hLq
                        · exact absurd rfl c_243
                  · exact absurd rfl c_207
                · refine v_iconst (q := 199) (v := 1) hC dL_ofGroups_198 rfl (by decide) ?_
                  refine v_goto (q := 203) hC dL_ofGroups_199 (by decide) ?_
                  refine v_istore (q := 205) hC dL_ofGroups_203 rfl (lvc rfl) (Nat.le_of_ble_eq_true rfl) (Nat.le_of_ble_eq_true rfl) rfl ?_
                  refine v_iload (q := 207) hC dL_ofGroups_205 rfl rfl ?_
                  refine v_if_eq (q := 217) (q2 := 210) hC dL_ofGroups_207 (by decide) rfl (fun c_207 => ?_) (fun c_207 => ?_)
                  · refine v_iload (q := 219) hC dL_ofGroups_217 rfl rfl ?_
                    refine v_if_eq (q := 233) (q2 := 222) hC dL_ofGroups_219 (by decide) rfl (fun c_219 => ?_) (fun c_219 => ?_)
                    · first
                      | exact absurd c_219 (by decide)
                      |
                        refine v_aload_n (i := 0) (q := 234) hC dL_ofGroups_233 rfl rfl rfl ?_
                        refine v_iload (q := 236) hC dL_ofGroups_234 rfl rfl ?_
                        refine v_iload (q := 238) hC dL_ofGroups_236 rfl rfl ?_
                        refine v_callR (q := 241) (rm := rm_L_leaveOf) hC ((r_leave hl Θ z0 ht (nI u) (nI g)).p (v2 := -101) (w2 := G.2.1 0 30) (if_neg cg) (if_neg cg)) kh_L_leaveOf ml_RL_341 dL_ofGroups_238 rfl rfl rfl (Nat.le_of_ble_eq_true rfl) ⟨Nat.le_of_ble_eq_true rfl, Nat.le_of_ble_eq_true rfl⟩ (c1 := 3) (s1 := 18) rfl rfl ⟨show _ + 3 ≤ 26 by omega, show _ + 18 ≤ 156 by omega⟩ (pQ_k (fun G_238 s_238 w_238 a_238 l_238 => ?_)) pQ_n
                        try dsimp only [Option.toList, List.cons_append, List.nil_append]
                        refine v_iload (q := 243) hC dL_ofGroups_241 rfl rfl ?_
                        refine v_if_eq (q := 251) (q2 := 246) hC dL_ofGroups_243 (by decide) rfl (fun c_243 => ?_) (fun c_243 => ?_)
                        · refine v_bipush (q := 253) (v := (-101)) hC dL_ofGroups_251 rfl (by decide) ?_
                          refine v_icmp_ne (q := 260) (q2 := 256) hC dL_ofGroups_253 (by decide) rfl (fun c_253 => ?_) (fun c_253 => ?_)
                          · exact absurd rfl c_253
                          · refine v_iconst (q := 257) (v := 1) hC dL_ofGroups_256 rfl (by decide) ?_
                            refine v_goto (q := 261) hC dL_ofGroups_257 (by decide) ?_
                            refine v_iret hC dL_ofGroups_261 hr (rfl) ?_ (show _ ≤ 26 by omega) (show _ ≤ 156 by omega)
                            first | exact fQ_mk s_227 w_227 a_227 l_227 hlv hLq | exact fQ_mk s_238 w_238 a_238 l_238 hlv hLq
                        · exact absurd rfl c_243
                    · first
                      | exact absurd c_219 (by decide)
                      |
                        refine v_aload_n (i := 0) (q := 223) hC dL_ofGroups_222 rfl rfl rfl ?_
                        refine v_iload (q := 225) hC dL_ofGroups_223 rfl rfl ?_
                        refine v_iload (q := 227) hC dL_ofGroups_225 rfl rfl ?_
                        refine v_callR (q := 230) (rm := rm_L_joinOf) hC ((r_join hl Θ z0 ht (nI u) (nI g)).p (v2 := -101) (w2 := G.2.1 0 30) (if_neg cg) (if_neg cg)) kh_L_joinOf ml_RL_338 dL_ofGroups_227 rfl rfl rfl (Nat.le_of_ble_eq_true rfl) ⟨Nat.le_of_ble_eq_true rfl, Nat.le_of_ble_eq_true rfl⟩ (c1 := 3) (s1 := 18) rfl rfl ⟨show _ + 3 ≤ 26 by omega, show _ + 18 ≤ 156 by omega⟩ (pQ_k (fun G_227 s_227 w_227 a_227 l_227 => ?_)) pQ_n
                        try dsimp only [Option.toList, List.cons_append, List.nil_append]
                        refine v_goto (q := 241) hC dL_ofGroups_230 (by decide) ?_
                        refine v_iload (q := 243) hC dL_ofGroups_241 rfl rfl ?_
                        refine v_if_eq (q := 251) (q2 := 246) hC dL_ofGroups_243 (by decide) rfl (fun c_243 => ?_) (fun c_243 => ?_)
                        · refine v_bipush (q := 253) (v := (-101)) hC dL_ofGroups_251 rfl (by decide) ?_
                          refine v_icmp_ne (q := 260) (q2 := 256) hC dL_ofGroups_253 (by decide) rfl (fun c_253 => ?_) (fun c_253 => ?_)
                          · exact absurd rfl c_253
                          · refine v_iconst (q := 257) (v := 1) hC dL_ofGroups_256 rfl (by decide) ?_
                            refine v_goto (q := 261) hC dL_ofGroups_257 (by decide) ?_
                            refine v_iret hC dL_ofGroups_261 hr (rfl) ?_ (show _ ≤ 26 by omega) (show _ ≤ 156 by omega)
                            first | exact fQ_mk s_227 w_227 a_227 l_227 hlv hLq | exact fQ_mk s_238 w_238 a_238 l_238 hlv hLq
                        · exact absurd rfl c_243
                  · exact absurd rfl c_207
              · refine v_iload (q := 169) hC dL_ofGroups_167 rfl rfl ?_
                refine v_aload_n (i := 2) (q := 170) hC dL_ofGroups_169 rfl rfl rfl ?_
                refine v_iconst (q := 171) (v := 1) hC dL_ofGroups_170 rfl (by decide) ?_
                refine v_ialdV (q := 172) hC dL_ofGroups_171 rfl rfl rfl (i := 1) (rfl) (by first | decide | omega) (by decide) (e1) ?_
                refine v_icmp_ge (q := 179) (q2 := 175) hC dL_ofGroups_172 (by decide) rfl (fun c_172 => ?_) (fun c_172 => ?_)
                · refine v_iconst (q := 180) (v := 0) hC dL_ofGroups_179 rfl (by decide) ?_
                  refine v_istore (q := 182) hC dL_ofGroups_180 rfl (lvc rfl) (Nat.le_of_ble_eq_true rfl) (Nat.le_of_ble_eq_true rfl) rfl ?_
                  refine v_aload_n (i := 1) (q := 183) hC dL_ofGroups_182 rfl rfl rfl ?_
                  refine v_iload (q := 185) hC dL_ofGroups_183 rfl rfl ?_
                  refine v_ialdV (q := 186) hC dL_ofGroups_185 rfl rfl rfl (i := g) (rfl) (by first | decide | omega) (by decide) (mg) ?_
                  refine v_iload (q := 188) hC dL_ofGroups_186 rfl rfl ?_
                  refine v_callSN (q := 191) (rm := rm_L_has) hC (c_L_has hl Θ _ _ _) k_L_has st_yL_has ml_RL_172 dL_ofGroups_188 rfl rfl rfl (Nat.le_of_ble_eq_true rfl) ⟨Nat.le_of_ble_eq_true rfl, Nat.le_of_ble_eq_true rfl⟩ (c1 := 0) (s1 := 0) rfl rfl ⟨show _ + 0 ≤ 26 by omega, show _ + 0 ≤ 156 by omega⟩ (fR_k ?_) fR_n
                  try dsimp only [Option.toList, List.cons_append, List.nil_append]
                  refine v_istore (q := 193) hC dL_ofGroups_191 rfl (lvc rfl) (Nat.le_of_ble_eq_true rfl) (Nat.le_of_ble_eq_true rfl) rfl ?_
                  refine v_iload_n (i := 3) (q := 194) hC dL_ofGroups_193 rfl rfl rfl ?_
                  refine v_iconst (q := 195) (v := 4) hC dL_ofGroups_194 rfl (by decide) ?_
                  refine v_icmp_ge (q := 202) (q2 := 198) hC dL_ofGroups_195 (by decide) rfl (fun c_195 => ?_) (fun c_195 => ?_)
                  · refine v_iconst (q := 203) (v := 0) hC dL_ofGroups_202 rfl (by decide) ?_
                    refine v_istore (q := 205) hC dL_ofGroups_203 rfl (lvc rfl) (Nat.le_of_ble_eq_true rfl) (Nat.le_of_ble_eq_true rfl) rfl ?_
                    refine v_iload (q := 207) hC dL_ofGroups_205 rfl rfl ?_
                    refine v_if_eq (q := 217) (q2 := 210) hC dL_ofGroups_207 (by decide) rfl (fun c_207 => ?_) (fun c_207 => ?_)
                    · refine v_iload (q := 219) hC dL_ofGroups_217 rfl rfl ?_
                      refine v_if_eq (q := 233) (q2 := 222) hC dL_ofGroups_219 (by decide) rfl (fun c_219 => ?_) (fun c_219 => ?_)
                      · first
                        | exact absurd c_219 (by decide)
                        |
                          refine v_aload_n (i := 0) (q := 234) hC dL_ofGroups_233 rfl rfl rfl ?_
                          refine v_iload (q := 236) hC dL_ofGroups_234 rfl rfl ?_
                          refine v_iload (q := 238) hC dL_ofGroups_236 rfl rfl ?_
                          refine v_callR (q := 241) (rm := rm_L_leaveOf) hC ((r_leave hl Θ z0 ht (nI u) (nI g)).p (v2 := -101) (w2 := G.2.1 0 30) (if_neg cg) (if_neg cg)) kh_L_leaveOf ml_RL_341 dL_ofGroups_238 rfl rfl rfl (Nat.le_of_ble_eq_true rfl) ⟨Nat.le_of_ble_eq_true rfl, Nat.le_of_ble_eq_true rfl⟩ (c1 := 3) (s1 := 18) rfl rfl ⟨show _ + 3 ≤ 26 by omega, show _ + 18 ≤ 156 by omega⟩ (pQ_k (fun G_238 s_238 w_238 a_238 l_238 => ?_)) pQ_n
                          try dsimp only [Option.toList, List.cons_append, List.nil_append]
                          refine v_iload (q := 243) hC dL_ofGroups_241 rfl rfl ?_
                          refine v_if_eq (q := 251) (q2 := 246) hC dL_ofGroups_243 (by decide) rfl (fun c_243 => ?_) (fun c_243 => ?_)
                          · refine v_bipush (q := 253) (v := (-101)) hC dL_ofGroups_251 rfl (by decide) ?_
                            refine v_icmp_ne (q := 260) (q2 := 256) hC dL_ofGroups_253 (by decide) rfl (fun c_253 => ?_) (fun c_253 => ?_)
                            · exact absurd rfl c_253
                            · refine v_iconst (q := 257) (v := 1) hC dL_ofGroups_256 rfl (by decide) ?_
                              refine v_goto (q := 261) hC dL_ofGroups_257 (by decide) ?_
                              refine v_iret hC dL_ofGroups_261 hr (rfl) ?_ (show _ ≤ 26 by omega) (show _ ≤ 156 by omega)
                              first | exact fQ_mk s_227 w_227 a_227 l_227 hlv hLq | exact fQ_mk s_238 w_238 a_238 l_238 hlv hLq
                          · exact absurd rfl c_243
                      · first
                        | exact absurd c_219 (by decide)
                        |
                          refine v_aload_n (i := 0) (q := 223) hC dL_ofGroups_222 rfl rfl rfl ?_
                          refine v_iload (q := 225) hC dL_ofGroups_223 rfl rfl ?_
                          refine v_iload (q := 227) hC dL_ofGroups_225 rfl rfl ?_
                          refine v_callR (q := 230) (rm := rm_L_joinOf) hC ((r_join hl Θ z0 ht (nI u) (nI g)).p (v2 := -101) (w2 := G.2.1 0 30) (if_neg cg) (if_neg cg)) kh_L_joinOf ml_RL_338 dL_ofGroups_227 rfl rfl rfl (Nat.le_of_ble_eq_true rfl) ⟨Nat.le_of_ble_eq_true rfl, Nat.le_of_ble_eq_true rfl⟩ (c1 := 3) (s1 := 18) rfl rfl ⟨show _ + 3 ≤ 26 by omega, show _ + 18 ≤ 156 by omega⟩ (pQ_k (fun G_227 s_227 w_227 a_227 l_227 => ?_)) pQ_n
                          try dsimp only [Option.toList, List.cons_append, List.nil_append]
                          refine v_goto (q := 241) hC dL_ofGroups_230 (by decide) ?_
                          refine v_iload (q := 243) hC dL_ofGroups_241 rfl rfl ?_
                          refine v_if_eq (q := 251) (q2 := 246) hC dL_ofGroups_243 (by decide) rfl (fun c_243 => ?_) (fun c_243 => ?_)
                          · refine v_bipush (q := 253) (v := (-101)) hC dL_ofGroups_251 rfl (by decide) ?_
                            refine v_icmp_ne (q := 260) (q2 := 256) hC dL_ofGroups_253 (by decide) rfl (fun c_253 => ?_) (fun c_253 => ?_)
                            · exact absurd rfl c_253
                            · refine v_iconst (q := 257) (v := 1) hC dL_ofGroups_256 rfl (by decide) ?_
                              refine v_goto (q := 261) hC dL_ofGroups_257 (by decide) ?_
                              refine v_iret hC dL_ofGroups_261 hr (rfl) ?_ (show _ ≤ 26 by omega) (show _ ≤ 156 by omega)
                              first | exact fQ_mk s_227 w_227 a_227 l_227 hlv hLq | exact fQ_mk s_238 w_238 a_238 l_238 hlv hLq
                          · exact absurd rfl c_243
                    · exact absurd rfl c_207
                  · refine v_iconst (q := 199) (v := 1) hC dL_ofGroups_198 rfl (by decide) ?_
                    refine v_goto (q := 203) hC dL_ofGroups_199 (by decide) ?_
                    refine v_istore (q := 205) hC dL_ofGroups_203 rfl (lvc rfl) (Nat.le_of_ble_eq_true rfl) (Nat.le_of_ble_eq_true rfl) rfl ?_
                    refine v_iload (q := 207) hC dL_ofGroups_205 rfl rfl ?_
                    refine v_if_eq (q := 217) (q2 := 210) hC dL_ofGroups_207 (by decide) rfl (fun c_207 => ?_) (fun c_207 => ?_)
                    · refine v_iload (q := 219) hC dL_ofGroups_217 rfl rfl ?_
                      refine v_if_eq (q := 233) (q2 := 222) hC dL_ofGroups_219 (by decide) rfl (fun c_219 => ?_) (fun c_219 => ?_)
                      · first
                        | exact absurd c_219 (by decide)
                        |
                          refine v_aload_n (i := 0) (q := 234) hC dL_ofGroups_233 rfl rfl rfl ?_
                          refine v_iload (q := 236) hC dL_ofGroups_234 rfl rfl ?_
                          refine v_iload (q := 238) hC dL_ofGroups_236 rfl rfl ?_
                          refine v_callR (q := 241) (rm := rm_L_leaveOf) hC ((r_leave hl Θ z0 ht (nI u) (nI g)).p (v2 := -101) (w2 := G.2.1 0 30) (if_neg cg) (if_neg cg)) kh_L_leaveOf ml_RL_341 dL_ofGroups_238 rfl rfl rfl (Nat.le_of_ble_eq_true rfl) ⟨Nat.le_of_ble_eq_true rfl, Nat.le_of_ble_eq_true rfl⟩ (c1 := 3) (s1 := 18) rfl rfl ⟨show _ + 3 ≤ 26 by omega, show _ + 18 ≤ 156 by omega⟩ (pQ_k (fun G_238 s_238 w_238 a_238 l_238 => ?_)) pQ_n
                          try dsimp only [Option.toList, List.cons_append, List.nil_append]
                          refine v_iload (q := 243) hC dL_ofGroups_241 rfl rfl ?_
                          refine v_if_eq (q := 251) (q2 := 246) hC dL_ofGroups_243 (by decide) rfl (fun c_243 => ?_) (fun c_243 => ?_)
                          · refine v_bipush (q := 253) (v := (-101)) hC dL_ofGroups_251 rfl (by decide) ?_
                            refine v_icmp_ne (q := 260) (q2 := 256) hC dL_ofGroups_253 (by decide) rfl (fun c_253 => ?_) (fun c_253 => ?_)
                            · exact absurd rfl c_253
                            · refine v_iconst (q := 257) (v := 1) hC dL_ofGroups_256 rfl (by decide) ?_
                              refine v_goto (q := 261) hC dL_ofGroups_257 (by decide) ?_
                              refine v_iret hC dL_ofGroups_261 hr (rfl) ?_ (show _ ≤ 26 by omega) (show _ ≤ 156 by omega)
                              first | exact fQ_mk s_227 w_227 a_227 l_227 hlv hLq | exact fQ_mk s_238 w_238 a_238 l_238 hlv hLq
                          · exact absurd rfl c_243
                      · first
                        | exact absurd c_219 (by decide)
                        |
                          refine v_aload_n (i := 0) (q := 223) hC dL_ofGroups_222 rfl rfl rfl ?_
                          refine v_iload (q := 225) hC dL_ofGroups_223 rfl rfl ?_
                          refine v_iload (q := 227) hC dL_ofGroups_225 rfl rfl ?_
                          refine v_callR (q := 230) (rm := rm_L_joinOf) hC ((r_join hl Θ z0 ht (nI u) (nI g)).p (v2 := -101) (w2 := G.2.1 0 30) (if_neg cg) (if_neg cg)) kh_L_joinOf ml_RL_338 dL_ofGroups_227 rfl rfl rfl (Nat.le_of_ble_eq_true rfl) ⟨Nat.le_of_ble_eq_true rfl, Nat.le_of_ble_eq_true rfl⟩ (c1 := 3) (s1 := 18) rfl rfl ⟨show _ + 3 ≤ 26 by omega, show _ + 18 ≤ 156 by omega⟩ (pQ_k (fun G_227 s_227 w_227 a_227 l_227 => ?_)) pQ_n
                          try dsimp only [Option.toList, List.cons_append, List.nil_append]
                          refine v_goto (q := 241) hC dL_ofGroups_230 (by decide) ?_
                          refine v_iload (q := 243) hC dL_ofGroups_241 rfl rfl ?_
                          refine v_if_eq (q := 251) (q2 := 246) hC dL_ofGroups_243 (by decide) rfl (fun c_243 => ?_) (fun c_243 => ?_)
                          · refine v_bipush (q := 253) (v := (-101)) hC dL_ofGroups_251 rfl (by decide) ?_
                            refine v_icmp_ne (q := 260) (q2 := 256) hC dL_ofGroups_253 (by decide) rfl (fun c_253 => ?_) (fun c_253 => ?_)
                            · exact absurd rfl c_253
                            · refine v_iconst (q := 257) (v := 1) hC dL_ofGroups_256 rfl (by decide) ?_
                              refine v_goto (q := 261) hC dL_ofGroups_257 (by decide) ?_
                              refine v_iret hC dL_ofGroups_261 hr (rfl) ?_ (show _ ≤ 26 by omega) (show _ ≤ 156 by omega)
                              first | exact fQ_mk s_227 w_227 a_227 l_227 hlv hLq | exact fQ_mk s_238 w_238 a_238 l_238 hlv hLq
                          · exact absurd rfl c_243
                    · exact absurd rfl c_207
                · exact absurd ⟨(nI_ltI (by omega) (by omega)).mp (Int32.not_le.mp c_164), (nI_ltI (by omega) (by omega)).mp (Int32.not_le.mp c_172)⟩ hth
          · exact absurd c_92 n1
        · exact absurd c_28 n0
    · -- nest, unnest
      have n5 : ¬ nI way < 5 := nI_nlt (b := 5) (by omega) (by omega)
      have hin : mHas (G.2.1 0 30 (10 + g)) (nI o2) = bt (G.2.1 0 30 (10 + g)) o2 := mHas_i _ (by omega)
      have hnm : mHas (G.2.1 0 40 (8 + o2)) (nI g) = bt (G.2.1 0 30 (10 + g)) o2 := (mHas_i _ (by omega)).trans (hD.gt ho hg)
      have hlt : ∀ a, a < 8 → bLt (G.2.1 0 30 (10 + a)) (mGs (G.2.1 0 30)) := fun a ha => hS.1.nl ha
      have hwi : mHas (lWi (G.2.1 0 40) g) (nI o2) = (decide (nI g = nI o2) || mHas (mOut (G.2.1 0 30) o2) (nI g)) := by
        rw [mHas_i _ (by omega), mHas_i _ (by omega)]
        refine Bool.eq_iff_iff.mpr ?_
        rw [hD.within hg, Bool.or_eq_true, decide_eq_true_eq, nI_eq (by omega) (by omega), mOut_iff hlt hG ho g]
        constructor
        · rintro (h9 | ⟨_, h9⟩)
          · exact Or.inl h9.symm
          · exact Or.inr h9
        · rintro (h9 | h9)
          · exact Or.inl h9.symm
          · exact Or.inr ⟨ho, h9⟩
      by_cases hth : g < mGs (G.2.1 0 30) ∧ o2 < mGs (G.2.1 0 30)
      · have cg : (mIn (nI g) 0 (G.2.1 0 30 1 - 1) && mIn (nI o2) 0 (G.2.1 0 30 1 - 1)) = true := by
          rw [hD.mG (by omega), hD.mG (by omega), decide_eq_true hth.1, decide_eq_true hth.2]; rfl
        have W : ∀ x, Sim (putA G 0 40 (upd (G.2.1 0 40) (8 + o2) x)) t := fun x => hS.pa (by decide)
        have A : ∀ (b : Bool) (G' : GS) (x9 : Value), Sim G' (t + 1) → G'.2.1 0 30 = upd (G.2.1 0 30) (10 + g) (jChg (G.2.1 0 30 (10 + g)) (nI o2) b) → (∀ o, 40 ≤ o → o < 48 → G'.2.1 0 o = (putA G 0 40 (upd (G.2.1 0 40) (8 + o2) (jChg (G.2.1 0 40 (8 + o2)) (nI g) b))).2.1 0 o) → G'.2.2.1 = G.2.2.1 → ∀ (jn cn : Int32) (k9 n9 : Nat), k9 ≤ 20 → n9 ≤ 140 → V p l e rm_L_ofGroups s m args below meth c 12 Θ (fQ t) 26 156 k9 n9 520 [some (.ref (tR Θ 0 14)), some (.ref (tR Θ 0 40)), some (.ref (tR Θ 0 44)), some (.int (nI way)), some (.int (nI y)), some (.int (nI u)), some (.int (nI g)), some (.int (nI o2)), some (.int 1), some x9, some (.int jn), some (.int cn)] [.int (mHow (upd (G.2.1 0 30) (10 + g) (jChg (G.2.1 0 30 (10 + g)) (nI o2) b)) (mGs (G.2.1 0 30)) o2 (mUs (G.2.1 0 30)) 0 0)] (G') := by
          intro b G' x9 s9 w9 a9 l9 jn cn k9 n9 hk9 hn9
          have hq9 : LRq (G'.2.1 0 30) (G'.2.1 0 40) (G'.2.1 0 41) (G'.2.1 0 42) (G'.2.1 0 43) (G'.2.1 0 44) := LRq.rows w9 a9 (hLq.inn hc hg ho b)
          have hL9 := LR.of s9 hq9
          have hhow := many_how hL9.1 (fun a ha => s9.1.wl ha) ho
          have eU : mUs (upd (G.2.1 0 30) (10 + g) (jChg (G.2.1 0 30 (10 + g)) (nI o2) b)) = mUs (G.2.1 0 30) := by unfold mUs; rw [upd_n (by omega)]
          have eG : mGs (upd (G.2.1 0 30) (10 + g) (jChg (G.2.1 0 30 (10 + g)) (nI o2) b)) = mGs (G.2.1 0 30) := by unfold mGs; rw [upd_n (by omega)]
          rw [w9, eU, eG] at hhow
          refine v_aload_n (i := 1) (q := 521) hC dL_ofGroups_520 rfl rfl rfl ?_
          refine v_iload (q := 523) hC dL_ofGroups_521 rfl rfl ?_
          refine v_callSN (q := 526) (rm := rm_L_belong) hC (c_L_belong hl Θ o2 _ ho hL9.1.g8) k_L_belong st_yL_belong ml_RL_181 dL_ofGroups_523 rfl rfl rfl (Nat.le_of_ble_eq_true rfl) ⟨Nat.le_of_ble_eq_true rfl, Nat.le_of_ble_eq_true rfl⟩ (c1 := 0) (s1 := 0) rfl rfl ⟨show _ + 0 ≤ 26 by omega, show _ + 0 ≤ 156 by omega⟩ (fR_k ?_) fR_n
          try dsimp only [Option.toList, List.cons_append, List.nil_append]
          refine v_callSN (q := 529) (rm := rm_L_many) hC (c_L_many hl Θ _ _) k_L_many st_yL_many ml_RL_299 dL_ofGroups_526 rfl rfl rfl (Nat.le_of_ble_eq_true rfl) ⟨Nat.le_of_ble_eq_true rfl, Nat.le_of_ble_eq_true rfl⟩ (c1 := 0) (s1 := 0) rfl rfl ⟨show _ + 0 ≤ 26 by omega, show _ + 0 ≤ 156 by omega⟩ (fR_k ?_) fR_n
          try dsimp only [Option.toList, List.cons_append, List.nil_append]
          rw [hhow]
          refine v_icmp_ne (q := 536) (q2 := 532) hC dL_ofGroups_529 (by decide) rfl (fun c_529 => ?_) (fun c_529 => ?_)
          · exact absurd rfl c_529
          · refine v_iconst (q := 533) (v := 1) hC dL_ofGroups_532 rfl (by decide) ?_
            refine v_goto (q := 537) hC dL_ofGroups_533 (by decide) ?_
            refine v_iret hC dL_ofGroups_537 hr (rfl) ?_ (show _ ≤ 26 by omega) (show _ ≤ 156 by omega)
            exact ⟨rfl, s9, hL9, by rw [l9]; exact hlv⟩
        by_cases hj : way < 7
        · have n7 : nI way < 7 := nI_lt (b := 7) hj (by decide)
          by_cases hcan : (!(decide (nI g = nI o2) || (mHas (G.2.1 0 30 (10 + g)) (nI o2) || mHas (mOut (G.2.1 0 30) o2) (nI g)))) = true
          · have hb : bt (G.2.1 0 30 (10 + g)) o2 = false ∧ mHas (lWi (G.2.1 0 40) g) (nI o2) = false := by
              rw [hin] at hcan
              rw [hwi]
              revert hcan
              cases decide (nI g = nI o2) <;> cases bt (G.2.1 0 30 (10 + g)) o2 <;> cases mHas (mOut (G.2.1 0 30) o2) (nI g) <;> decide
            have eb : G.2.1 0 40 (8 + o2) + ((1 : Int32) <<< (nI g &&& 31)) = jChg (G.2.1 0 40 (8 + o2)) (nI g) true := (add_p _ (by omega) ((hD.gt ho hg).trans hb.1)).trans (or_p _ _)
            refine v_iload_n (i := 3) (q := 28) hC dL_ofGroups_27 rfl rfl rfl ?_
            refine v_if_ne (q := 90) (q2 := 31) hC dL_ofGroups_28 (by decide) rfl (fun c_28 => ?_) (fun c_28 => ?_)
            · refine v_iload_n (i := 3) (q := 91) hC dL_ofGroups_90 rfl rfl rfl ?_
              refine v_iconst (q := 92) (v := 1) hC dL_ofGroups_91 rfl (by decide) ?_
              refine v_icmp_ne (q := 154) (q2 := 95) hC dL_ofGroups_92 (by decide) rfl (fun c_92 => ?_) (fun c_92 => ?_)
              · refine v_iload_n (i := 3) (q := 155) hC dL_ofGroups_154 rfl rfl rfl ?_
                refine v_iconst (q := 156) (v := 5) hC dL_ofGroups_155 rfl (by decide) ?_
                refine v_icmp_ge (q := 328) (q2 := 159) hC dL_ofGroups_156 (by decide) rfl (fun c_156 => ?_) (fun c_156 => ?_)
                · refine v_iload (q := 330) hC dL_ofGroups_328 rfl rfl ?_
                  refine v_aload_n (i := 2) (q := 331) hC dL_ofGroups_330 rfl rfl rfl ?_
                  refine v_iconst (q := 332) (v := 1) hC dL_ofGroups_331 rfl (by decide) ?_
                  refine v_ialdV (q := 333) hC dL_ofGroups_332 rfl rfl rfl (i := 1) (rfl) (by first | decide | omega) (by decide) (e1) ?_
                  refine v_icmp_ge (q := 348) (q2 := 336) hC dL_ofGroups_333 (by decide) rfl (fun c_333 => ?_) (fun c_333 => ?_)
                  · exact absurd c_333 (nI_ge hth.1 (by omega))
                  · refine v_iload (q := 338) hC dL_ofGroups_336 rfl rfl ?_
                    refine v_aload_n (i := 2) (q := 339) hC dL_ofGroups_338 rfl rfl rfl ?_
                    refine v_iconst (q := 340) (v := 1) hC dL_ofGroups_339 rfl (by decide) ?_
                    refine v_ialdV (q := 341) hC dL_ofGroups_340 rfl rfl rfl (i := 1) (rfl) (by first | decide | omega) (by decide) (e1) ?_
                    refine v_icmp_ge (q := 348) (q2 := 344) hC dL_ofGroups_341 (by decide) rfl (fun c_341 => ?_) (fun c_341 => ?_)
                    · exact absurd c_341 (nI_ge hth.2 (by omega))
                    · refine v_iconst (q := 345) (v := 1) hC dL_ofGroups_344 rfl (by decide) ?_
                      refine v_goto (q := 349) hC dL_ofGroups_345 (by decide) ?_
                      refine v_istore (q := 351) hC dL_ofGroups_349 rfl (lvc rfl) (Nat.le_of_ble_eq_true rfl) (Nat.le_of_ble_eq_true rfl) rfl ?_
                      refine v_aload_n (i := 1) (q := 352) hC dL_ofGroups_351 rfl rfl rfl ?_
                      refine v_bipush (q := 354) (v := 8) hC dL_ofGroups_352 rfl (by decide) ?_
                      refine v_iload (q := 356) hC dL_ofGroups_354 rfl rfl ?_
                      refine v_iadd (q := 357) hC dL_ofGroups_356 rfl ?_
                      refine v_ialdV (q := 358) hC dL_ofGroups_357 rfl rfl rfl (i := 8 + o2) (nI_add 8 o2) (by first | decide | omega) (by decide) (rfl) ?_
                      refine v_iload (q := 360) hC dL_ofGroups_358 rfl rfl ?_
                      refine v_callSN (q := 363) (rm := rm_L_has) hC (c_L_has hl Θ _ _ _) k_L_has st_yL_has ml_RL_172 dL_ofGroups_360 rfl rfl rfl (Nat.le_of_ble_eq_true rfl) ⟨Nat.le_of_ble_eq_true rfl, Nat.le_of_ble_eq_true rfl⟩ (c1 := 0) (s1 := 0) rfl rfl ⟨show _ + 0 ≤ 26 by omega, show _ + 0 ≤ 156 by omega⟩ (fR_k ?_) fR_n
                      try dsimp only [Option.toList, List.cons_append, List.nil_append]
                      rw [hnm, hb.1]
                      refine v_istore (q := 365) hC dL_ofGroups_363 rfl (lvc rfl) (Nat.le_of_ble_eq_true rfl) (Nat.le_of_ble_eq_true rfl) rfl ?_
                      refine v_iload_n (i := 3) (q := 366) hC dL_ofGroups_365 rfl rfl rfl ?_
                      refine v_bipush (q := 368) (v := 7) hC dL_ofGroups_366 rfl (by decide) ?_
                      refine v_icmp_ge (q := 375) (q2 := 371) hC dL_ofGroups_368 (by decide) rfl (fun c_368 => ?_) (fun c_368 => ?_)
                      · exact absurd n7 (Int32.not_lt.mpr c_368)
                      · refine v_iconst (q := 372) (v := 1) hC dL_ofGroups_371 rfl (by decide) ?_
                        refine v_goto (q := 376) hC dL_ofGroups_372 (by decide) ?_
                        refine v_istore (q := 378) hC dL_ofGroups_376 rfl (lvc rfl) (Nat.le_of_ble_eq_true rfl) (Nat.le_of_ble_eq_true rfl) rfl ?_
                        refine v_iload (q := 380) hC dL_ofGroups_378 rfl rfl ?_
                        refine v_if_eq (q := 410) (q2 := 383) hC dL_ofGroups_380 (by decide) rfl (fun c_380 => ?_) (fun c_380 => ?_)
                        · exact absurd c_380 (by decide)
                        · refine v_iload (q := 385) hC dL_ofGroups_383 rfl rfl ?_
                          refine v_if_ne (q := 406) (q2 := 388) hC dL_ofGroups_385 (by decide) rfl (fun c_385 => ?_) (fun c_385 => ?_)
                          · exact absurd rfl c_385
                          · refine v_aload_n (i := 1) (q := 389) hC dL_ofGroups_388 rfl rfl rfl ?_
                            refine v_iload (q := 391) hC dL_ofGroups_389 rfl rfl ?_
                            refine v_callSN (q := 394) (rm := rm_L_within) hC (c_L_within hl Θ g _ hg hD.g8) k_L_within st_yL_within ml_RL_177 dL_ofGroups_391 rfl rfl rfl (Nat.le_of_ble_eq_true rfl) ⟨Nat.le_of_ble_eq_true rfl, Nat.le_of_ble_eq_true rfl⟩ (c1 := 0) (s1 := 0) rfl rfl ⟨show _ + 0 ≤ 26 by omega, show _ + 0 ≤ 156 by omega⟩ (fR_k ?_) fR_n
                            try dsimp only [Option.toList, List.cons_append, List.nil_append]
                            refine v_iload (q := 396) hC dL_ofGroups_394 rfl rfl ?_
                            refine v_callSN (q := 399) (rm := rm_L_has) hC (c_L_has hl Θ _ _ _) k_L_has st_yL_has ml_RL_172 dL_ofGroups_396 rfl rfl rfl (Nat.le_of_ble_eq_true rfl) ⟨Nat.le_of_ble_eq_true rfl, Nat.le_of_ble_eq_true rfl⟩ (c1 := 0) (s1 := 0) rfl rfl ⟨show _ + 0 ≤ 26 by omega, show _ + 0 ≤ 156 by omega⟩ (fR_k ?_) fR_n
                            try dsimp only [Option.toList, List.cons_append, List.nil_append]
                            rw [hb.2]
                            refine v_ifb_ne (q := 406) (q2 := 402) hC dL_ofGroups_399 (by decide) rfl (fun c_399 => ?_) (fun c_399 => ?_)
                            · exact absurd c_399 (by decide)
                            · refine v_iconst (q := 403) (v := 1) hC dL_ofGroups_402 rfl (by decide) ?_
                              refine v_goto (q := 412) hC dL_ofGroups_403 (by decide) ?_
                              refine v_istore (q := 414) hC dL_ofGroups_412 rfl (lvc rfl) (Nat.le_of_ble_eq_true rfl) (Nat.le_of_ble_eq_true rfl) rfl ?_
                              refine v_iload (q := 416) hC dL_ofGroups_414 rfl rfl ?_
                              refine v_if_eq (q := 424) (q2 := 419) hC dL_ofGroups_416 (by decide) rfl (fun c_416 => ?_) (fun c_416 => ?_)
                              · exact absurd c_416 (by decide)
                              · refine v_iload (q := 421) hC dL_ofGroups_419 rfl rfl ?_
                                refine v_if_ne (q := 469) (q2 := 424) hC dL_ofGroups_421 (by decide) rfl (fun c_421 => ?_) (fun c_421 => ?_)
                                · refine v_aload_n (i := 1) (q := 470) hC dL_ofGroups_469 rfl rfl rfl ?_
                                  refine v_bipush (q := 472) (v := 8) hC dL_ofGroups_470 rfl (by decide) ?_
                                  refine v_iload (q := 474) hC dL_ofGroups_472 rfl rfl ?_
                                  refine v_iadd (q := 475) hC dL_ofGroups_474 rfl ?_
                                  refine v_dup2 (q := 476) hC dL_ofGroups_475 rfl rfl rfl ?_
                                  refine v_ialdV (q := 477) hC dL_ofGroups_476 rfl rfl rfl (i := 8 + o2) (nI_add 8 o2) (by first | decide | omega) (by decide) (rfl) ?_
                                  refine v_iload (q := 479) hC dL_ofGroups_477 rfl rfl ?_
                                  refine v_if_eq (q := 489) (q2 := 482) hC dL_ofGroups_479 (by decide) rfl (fun c_479 => ?_) (fun c_479 => ?_)
                                  · exact absurd c_479 (by decide)
                                  · refine v_iconst (q := 483) (v := 1) hC dL_ofGroups_482 rfl (by decide) ?_
                                    refine v_iload (q := 485) hC dL_ofGroups_483 rfl rfl ?_
                                    refine v_ishl (q := 486) hC dL_ofGroups_485 rfl ?_
                                    refine v_goto (q := 494) hC dL_ofGroups_486 (by decide) ?_
                                    refine v_iadd (q := 495) hC dL_ofGroups_494 rfl ?_
                                    refine v_iastN (q := 496) hC dL_ofGroups_495 rfl rfl (fun _ => rfl) (i := 8 + o2) (nI_add 8 o2) (by first | decide | omega | (unfold oA; omega) | (unfold enA; omega)) (by decide) ?_
                                    rw [eb]
                                    refine v_iload (q := 498) hC dL_ofGroups_496 rfl rfl ?_
                                    refine v_if_eq (q := 512) (q2 := 501) hC dL_ofGroups_498 (by decide) rfl (fun c_498 => ?_) (fun c_498 => ?_)
                                    · exact absurd c_498 (by decide)
                                    · refine v_aload_n (i := 0) (q := 502) hC dL_ofGroups_501 rfl rfl rfl ?_
                                      refine v_iload (q := 504) hC dL_ofGroups_502 rfl rfl ?_
                                      refine v_iload (q := 506) hC dL_ofGroups_504 rfl rfl ?_
                                      refine v_callR (q := 509) (rm := rm_L_nestOf) hC ((r_nest hl Θ (Nx.refl (W _)) ht (nI g) (nI o2)).p (v2 := mHow (upd (G.2.1 0 30) (10 + g) (jChg (G.2.1 0 30 (10 + g)) (nI o2) true)) (mGs (G.2.1 0 30)) o2 (mUs (G.2.1 0 30)) 0 0) (w2 := upd (G.2.1 0 30) (10 + g) (jChg (G.2.1 0 30 (10 + g)) (nI o2) true)) (by rw [eg, eo]; exact (if_pos cg).trans (if_pos hcan)) (by rw [eg, eo]; exact (if_pos cg).trans (if_pos hcan))) kh_L_nestOf ml_RL_344 dL_ofGroups_506 rfl rfl rfl (Nat.le_of_ble_eq_true rfl) ⟨Nat.le_of_ble_eq_true rfl, Nat.le_of_ble_eq_true rfl⟩ (c1 := 3) (s1 := 18) rfl rfl ⟨show _ + 3 ≤ 26 by omega, show _ + 18 ≤ 156 by omega⟩ (pQ_k (fun G_506 s_506 w_506 a_506 l_506 => ?_)) pQ_n
                                      try dsimp only [Option.toList, List.cons_append, List.nil_append]
                                      refine v_goto (q := 520) hC dL_ofGroups_509 (by decide) ?_
                                      exact A true _ _ s_506 w_506 a_506 l_506 _ _ _ _ (by decide) (by decide)
                                · exact absurd c_421 (by decide)
                · exact absurd (Int32.not_le.mp c_156) n5
              · exact absurd c_92 n1
            · exact absurd c_28 n0
          · have hb : bt (G.2.1 0 30 (10 + g)) o2 = true ∨ (bt (G.2.1 0 30 (10 + g)) o2 = false ∧ mHas (lWi (G.2.1 0 40) g) (nI o2) = true) := by
              rw [hin] at hcan
              rw [hwi]
              revert hcan
              cases decide (nI g = nI o2) <;> cases bt (G.2.1 0 30 (10 + g)) o2 <;> cases mHas (mOut (G.2.1 0 30) o2) (nI g) <;> decide
            have vN := (r_nest hl Θ z0 ht (nI g) (nI o2)).p (v2 := -102) (w2 := G.2.1 0 30) (by rw [eg, eo]; exact (if_pos cg).trans (if_neg hcan)) (by rw [eg, eo]; exact (if_pos cg).trans (if_neg hcan))
            rcases hb with hb | ⟨hb, hb2⟩
            · refine v_iload_n (i := 3) (q := 28) hC dL_ofGroups_27 rfl rfl rfl ?_
              refine v_if_ne (q := 90) (q2 := 31) hC dL_ofGroups_28 (by decide) rfl (fun c_28 => ?_) (fun c_28 => ?_)
              · refine v_iload_n (i := 3) (q := 91) hC dL_ofGroups_90 rfl rfl rfl ?_
                refine v_iconst (q := 92) (v := 1) hC dL_ofGroups_91 rfl (by decide) ?_
                refine v_icmp_ne (q := 154) (q2 := 95) hC dL_ofGroups_92 (by decide) rfl (fun c_92 => ?_) (fun c_92 => ?_)
                · refine v_iload_n (i := 3) (q := 155) hC dL_ofGroups_154 rfl rfl rfl ?_
                  refine v_iconst (q := 156) (v := 5) hC dL_ofGroups_155 rfl (by decide) ?_
                  refine v_icmp_ge (q := 328) (q2 := 159) hC dL_ofGroups_156 (by decide) rfl (fun c_156 => ?_) (fun c_156 => ?_)
                  · refine v_iload (q := 330) hC dL_ofGroups_328 rfl rfl ?_
                    refine v_aload_n (i := 2) (q := 331) hC dL_ofGroups_330 rfl rfl rfl ?_
                    refine v_iconst (q := 332) (v := 1) hC dL_ofGroups_331 rfl (by decide) ?_
                    refine v_ialdV (q := 333) hC dL_ofGroups_332 rfl rfl rfl (i := 1) (rfl) (by first | decide | omega) (by decide) (e1) ?_
                    refine v_icmp_ge (q := 348) (q2 := 336) hC dL_ofGroups_333 (by decide) rfl (fun c_333 => ?_) (fun c_333 => ?_)
                    · exact absurd c_333 (nI_ge hth.1 (by omega))
                    · refine v_iload (q := 338) hC dL_ofGroups_336 rfl rfl ?_
                      refine v_aload_n (i := 2) (q := 339) hC dL_ofGroups_338 rfl rfl rfl ?_
                      refine v_iconst (q := 340) (v := 1) hC dL_ofGroups_339 rfl (by decide) ?_
                      refine v_ialdV (q := 341) hC dL_ofGroups_340 rfl rfl rfl (i := 1) (rfl) (by first | decide | omega) (by decide) (e1) ?_
                      refine v_icmp_ge (q := 348) (q2 := 344) hC dL_ofGroups_341 (by decide) rfl (fun c_341 => ?_) (fun c_341 => ?_)
                      · exact absurd c_341 (nI_ge hth.2 (by omega))
                      · refine v_iconst (q := 345) (v := 1) hC dL_ofGroups_344 rfl (by decide) ?_
                        refine v_goto (q := 349) hC dL_ofGroups_345 (by decide) ?_
                        refine v_istore (q := 351) hC dL_ofGroups_349 rfl (lvc rfl) (Nat.le_of_ble_eq_true rfl) (Nat.le_of_ble_eq_true rfl) rfl ?_
                        refine v_aload_n (i := 1) (q := 352) hC dL_ofGroups_351 rfl rfl rfl ?_
                        refine v_bipush (q := 354) (v := 8) hC dL_ofGroups_352 rfl (by decide) ?_
                        refine v_iload (q := 356) hC dL_ofGroups_354 rfl rfl ?_
                        refine v_iadd (q := 357) hC dL_ofGroups_356 rfl ?_
                        refine v_ialdV (q := 358) hC dL_ofGroups_357 rfl rfl rfl (i := 8 + o2) (nI_add 8 o2) (by first | decide | omega) (by decide) (rfl) ?_
                        refine v_iload (q := 360) hC dL_ofGroups_358 rfl rfl ?_
                        refine v_callSN (q := 363) (rm := rm_L_has) hC (c_L_has hl Θ _ _ _) k_L_has st_yL_has ml_RL_172 dL_ofGroups_360 rfl rfl rfl (Nat.le_of_ble_eq_true rfl) ⟨Nat.le_of_ble_eq_true rfl, Nat.le_of_ble_eq_true rfl⟩ (c1 := 0) (s1 := 0) rfl rfl ⟨show _ + 0 ≤ 26 by omega, show _ + 0 ≤ 156 by omega⟩ (fR_k ?_) fR_n
                        try dsimp only [Option.toList, List.cons_append, List.nil_append]
                        rw [hnm, hb]
                        refine v_istore (q := 365) hC dL_ofGroups_363 rfl (lvc rfl) (Nat.le_of_ble_eq_true rfl) (Nat.le_of_ble_eq_true rfl) rfl ?_
                        refine v_iload_n (i := 3) (q := 366) hC dL_ofGroups_365 rfl rfl rfl ?_
                        refine v_bipush (q := 368) (v := 7) hC dL_ofGroups_366 rfl (by decide) ?_
                        refine v_icmp_ge (q := 375) (q2 := 371) hC dL_ofGroups_368 (by decide) rfl (fun c_368 => ?_) (fun c_368 => ?_)
                        · exact absurd n7 (Int32.not_lt.mpr c_368)
                        · refine v_iconst (q := 372) (v := 1) hC dL_ofGroups_371 rfl (by decide) ?_
                          refine v_goto (q := 376) hC dL_ofGroups_372 (by decide) ?_
                          refine v_istore (q := 378) hC dL_ofGroups_376 rfl (lvc rfl) (Nat.le_of_ble_eq_true rfl) (Nat.le_of_ble_eq_true rfl) rfl ?_
                          refine v_iload (q := 380) hC dL_ofGroups_378 rfl rfl ?_
                          refine v_if_eq (q := 410) (q2 := 383) hC dL_ofGroups_380 (by decide) rfl (fun c_380 => ?_) (fun c_380 => ?_)
                          · exact absurd c_380 (by decide)
                          · refine v_iload (q := 385) hC dL_ofGroups_383 rfl rfl ?_
                            refine v_if_ne (q := 406) (q2 := 388) hC dL_ofGroups_385 (by decide) rfl (fun c_385 => ?_) (fun c_385 => ?_)
                            · refine v_iconst (q := 407) (v := 0) hC dL_ofGroups_406 rfl (by decide) ?_
                              refine v_goto (q := 412) hC dL_ofGroups_407 (by decide) ?_
                              refine v_istore (q := 414) hC dL_ofGroups_412 rfl (lvc rfl) (Nat.le_of_ble_eq_true rfl) (Nat.le_of_ble_eq_true rfl) rfl ?_
                              refine v_iload (q := 416) hC dL_ofGroups_414 rfl rfl ?_
                              refine v_if_eq (q := 424) (q2 := 419) hC dL_ofGroups_416 (by decide) rfl (fun c_416 => ?_) (fun c_416 => ?_)
                              · exact absurd c_416 (by decide)
                              · refine v_iload (q := 421) hC dL_ofGroups_419 rfl rfl ?_
                                refine v_if_ne (q := 469) (q2 := 424) hC dL_ofGroups_421 (by decide) rfl (fun c_421 => ?_) (fun c_421 => ?_)
                                · exact absurd rfl c_421
                                · refine v_iload (q := 426) hC dL_ofGroups_424 rfl rfl ?_
                                  refine v_if_eq (q := 440) (q2 := 429) hC dL_ofGroups_426 (by decide) rfl (fun c_426 => ?_) (fun c_426 => ?_)
                                  · exact absurd c_426 (by decide)
                                  · refine v_aload_n (i := 0) (q := 430) hC dL_ofGroups_429 rfl rfl rfl ?_
                                    refine v_iload (q := 432) hC dL_ofGroups_430 rfl rfl ?_
                                    refine v_iload (q := 434) hC dL_ofGroups_432 rfl rfl ?_
                                    refine v_callR (q := 437) (rm := rm_L_nestOf) hC (vN) kh_L_nestOf ml_RL_344 dL_ofGroups_434 rfl rfl rfl (Nat.le_of_ble_eq_true rfl) ⟨Nat.le_of_ble_eq_true rfl, Nat.le_of_ble_eq_true rfl⟩ (c1 := 3) (s1 := 18) rfl rfl ⟨show _ + 3 ≤ 26 by omega, show _ + 18 ≤ 156 by omega⟩ (pQ_k (fun G_434 s_434 w_434 a_434 l_434 => ?_)) pQ_n
                                    try dsimp only [Option.toList, List.cons_append, List.nil_append]
                                    refine v_goto (q := 448) hC dL_ofGroups_437 (by decide) ?_
                                    refine v_iload (q := 450) hC dL_ofGroups_448 rfl rfl ?_
                                    refine v_if_eq (q := 458) (q2 := 453) hC dL_ofGroups_450 (by decide) rfl (fun c_450 => ?_) (fun c_450 => ?_)
                                    · exact absurd c_450 (by decide)
                                    · refine v_bipush (q := 455) (v := (-102)) hC dL_ofGroups_453 rfl (by decide) ?_
                                      refine v_goto (q := 460) hC dL_ofGroups_455 (by decide) ?_
                                      refine v_icmp_ne (q := 467) (q2 := 463) hC dL_ofGroups_460 (by decide) rfl (fun c_460 => ?_) (fun c_460 => ?_)
                                      · exact absurd rfl c_460
                                      · refine v_iconst (q := 464) (v := 1) hC dL_ofGroups_463 rfl (by decide) ?_
                                        refine v_goto (q := 468) hC dL_ofGroups_464 (by decide) ?_
                                        refine v_iret hC dL_ofGroups_468 hr (rfl) ?_ (show _ ≤ 26 by omega) (show _ ≤ 156 by omega)
                                        exact fQ_mk s_434 w_434 a_434 l_434 hlv hLq
                            · exact absurd c_385 (by decide)
                  · exact absurd (Int32.not_le.mp c_156) n5
                · exact absurd c_92 n1
              · exact absurd c_28 n0
            · refine v_iload_n (i := 3) (q := 28) hC dL_ofGroups_27 rfl rfl rfl ?_
              refine v_if_ne (q := 90) (q2 := 31) hC dL_ofGroups_28 (by decide) rfl (fun c_28 => ?_) (fun c_28 => ?_)
              · refine v_iload_n (i := 3) (q := 91) hC dL_ofGroups_90 rfl rfl rfl ?_
                refine v_iconst (q := 92) (v := 1) hC dL_ofGroups_91 rfl (by decide) ?_
                refine v_icmp_ne (q := 154) (q2 := 95) hC dL_ofGroups_92 (by decide) rfl (fun c_92 => ?_) (fun c_92 => ?_)
                · refine v_iload_n (i := 3) (q := 155) hC dL_ofGroups_154 rfl rfl rfl ?_
                  refine v_iconst (q := 156) (v := 5) hC dL_ofGroups_155 rfl (by decide) ?_
                  refine v_icmp_ge (q := 328) (q2 := 159) hC dL_ofGroups_156 (by decide) rfl (fun c_156 => ?_) (fun c_156 => ?_)
                  · refine v_iload (q := 330) hC dL_ofGroups_328 rfl rfl ?_
                    refine v_aload_n (i := 2) (q := 331) hC dL_ofGroups_330 rfl rfl rfl ?_
                    refine v_iconst (q := 332) (v := 1) hC dL_ofGroups_331 rfl (by decide) ?_
                    refine v_ialdV (q := 333) hC dL_ofGroups_332 rfl rfl rfl (i := 1) (rfl) (by first | decide | omega) (by decide) (e1) ?_
                    refine v_icmp_ge (q := 348) (q2 := 336) hC dL_ofGroups_333 (by decide) rfl (fun c_333 => ?_) (fun c_333 => ?_)
                    · exact absurd c_333 (nI_ge hth.1 (by omega))
                    · refine v_iload (q := 338) hC dL_ofGroups_336 rfl rfl ?_
                      refine v_aload_n (i := 2) (q := 339) hC dL_ofGroups_338 rfl rfl rfl ?_
                      refine v_iconst (q := 340) (v := 1) hC dL_ofGroups_339 rfl (by decide) ?_
                      refine v_ialdV (q := 341) hC dL_ofGroups_340 rfl rfl rfl (i := 1) (rfl) (by first | decide | omega) (by decide) (e1) ?_
                      refine v_icmp_ge (q := 348) (q2 := 344) hC dL_ofGroups_341 (by decide) rfl (fun c_341 => ?_) (fun c_341 => ?_)
                      · exact absurd c_341 (nI_ge hth.2 (by omega))
                      · refine v_iconst (q := 345) (v := 1) hC dL_ofGroups_344 rfl (by decide) ?_
                        refine v_goto (q := 349) hC dL_ofGroups_345 (by decide) ?_
                        refine v_istore (q := 351) hC dL_ofGroups_349 rfl (lvc rfl) (Nat.le_of_ble_eq_true rfl) (Nat.le_of_ble_eq_true rfl) rfl ?_
                        refine v_aload_n (i := 1) (q := 352) hC dL_ofGroups_351 rfl rfl rfl ?_
                        refine v_bipush (q := 354) (v := 8) hC dL_ofGroups_352 rfl (by decide) ?_
                        refine v_iload (q := 356) hC dL_ofGroups_354 rfl rfl ?_
                        refine v_iadd (q := 357) hC dL_ofGroups_356 rfl ?_
                        refine v_ialdV (q := 358) hC dL_ofGroups_357 rfl rfl rfl (i := 8 + o2) (nI_add 8 o2) (by first | decide | omega) (by decide) (rfl) ?_
                        refine v_iload (q := 360) hC dL_ofGroups_358 rfl rfl ?_
                        refine v_callSN (q := 363) (rm := rm_L_has) hC (c_L_has hl Θ _ _ _) k_L_has st_yL_has ml_RL_172 dL_ofGroups_360 rfl rfl rfl (Nat.le_of_ble_eq_true rfl) ⟨Nat.le_of_ble_eq_true rfl, Nat.le_of_ble_eq_true rfl⟩ (c1 := 0) (s1 := 0) rfl rfl ⟨show _ + 0 ≤ 26 by omega, show _ + 0 ≤ 156 by omega⟩ (fR_k ?_) fR_n
                        try dsimp only [Option.toList, List.cons_append, List.nil_append]
                        rw [hnm, hb]
                        refine v_istore (q := 365) hC dL_ofGroups_363 rfl (lvc rfl) (Nat.le_of_ble_eq_true rfl) (Nat.le_of_ble_eq_true rfl) rfl ?_
                        refine v_iload_n (i := 3) (q := 366) hC dL_ofGroups_365 rfl rfl rfl ?_
                        refine v_bipush (q := 368) (v := 7) hC dL_ofGroups_366 rfl (by decide) ?_
                        refine v_icmp_ge (q := 375) (q2 := 371) hC dL_ofGroups_368 (by decide) rfl (fun c_368 => ?_) (fun c_368 => ?_)
                        · exact absurd n7 (Int32.not_lt.mpr c_368)
                        · refine v_iconst (q := 372) (v := 1) hC dL_ofGroups_371 rfl (by decide) ?_
                          refine v_goto (q := 376) hC dL_ofGroups_372 (by decide) ?_
                          refine v_istore (q := 378) hC dL_ofGroups_376 rfl (lvc rfl) (Nat.le_of_ble_eq_true rfl) (Nat.le_of_ble_eq_true rfl) rfl ?_
                          refine v_iload (q := 380) hC dL_ofGroups_378 rfl rfl ?_
                          refine v_if_eq (q := 410) (q2 := 383) hC dL_ofGroups_380 (by decide) rfl (fun c_380 => ?_) (fun c_380 => ?_)
                          · exact absurd c_380 (by decide)
                          · refine v_iload (q := 385) hC dL_ofGroups_383 rfl rfl ?_
                            refine v_if_ne (q := 406) (q2 := 388) hC dL_ofGroups_385 (by decide) rfl (fun c_385 => ?_) (fun c_385 => ?_)
                            · exact absurd rfl c_385
                            · refine v_aload_n (i := 1) (q := 389) hC dL_ofGroups_388 rfl rfl rfl ?_
                              refine v_iload (q := 391) hC dL_ofGroups_389 rfl rfl ?_
                              refine v_callSN (q := 394) (rm := rm_L_within) hC (c_L_within hl Θ g _ hg hD.g8) k_L_within st_yL_within ml_RL_177 dL_ofGroups_391 rfl rfl rfl (Nat.le_of_ble_eq_true rfl) ⟨Nat.le_of_ble_eq_true rfl, Nat.le_of_ble_eq_true rfl⟩ (c1 := 0) (s1 := 0) rfl rfl ⟨show _ + 0 ≤ 26 by omega, show _ + 0 ≤ 156 by omega⟩ (fR_k ?_) fR_n
                              try dsimp only [Option.toList, List.cons_append, List.nil_append]
                              refine v_iload (q := 396) hC dL_ofGroups_394 rfl rfl ?_
                              refine v_callSN (q := 399) (rm := rm_L_has) hC (c_L_has hl Θ _ _ _) k_L_has st_yL_has ml_RL_172 dL_ofGroups_396 rfl rfl rfl (Nat.le_of_ble_eq_true rfl) ⟨Nat.le_of_ble_eq_true rfl, Nat.le_of_ble_eq_true rfl⟩ (c1 := 0) (s1 := 0) rfl rfl ⟨show _ + 0 ≤ 26 by omega, show _ + 0 ≤ 156 by omega⟩ (fR_k ?_) fR_n
                              try dsimp only [Option.toList, List.cons_append, List.nil_append]
                              rw [hb2]
                              refine v_ifb_ne (q := 406) (q2 := 402) hC dL_ofGroups_399 (by decide) rfl (fun c_399 => ?_) (fun c_399 => ?_)
                              · refine v_iconst (q := 407) (v := 0) hC dL_ofGroups_406 rfl (by decide) ?_
                                refine v_goto (q := 412) hC dL_ofGroups_407 (by decide) ?_
                                refine v_istore (q := 414) hC dL_ofGroups_412 rfl (lvc rfl) (Nat.le_of_ble_eq_true rfl) (Nat.le_of_ble_eq_true rfl) rfl ?_
                                refine v_iload (q := 416) hC dL_ofGroups_414 rfl rfl ?_
                                refine v_if_eq (q := 424) (q2 := 419) hC dL_ofGroups_416 (by decide) rfl (fun c_416 => ?_) (fun c_416 => ?_)
                                · exact absurd c_416 (by decide)
                                · refine v_iload (q := 421) hC dL_ofGroups_419 rfl rfl ?_
                                  refine v_if_ne (q := 469) (q2 := 424) hC dL_ofGroups_421 (by decide) rfl (fun c_421 => ?_) (fun c_421 => ?_)
                                  · exact absurd rfl c_421
                                  · refine v_iload (q := 426) hC dL_ofGroups_424 rfl rfl ?_
                                    refine v_if_eq (q := 440) (q2 := 429) hC dL_ofGroups_426 (by decide) rfl (fun c_426 => ?_) (fun c_426 => ?_)
                                    · exact absurd c_426 (by decide)
                                    · refine v_aload_n (i := 0) (q := 430) hC dL_ofGroups_429 rfl rfl rfl ?_
                                      refine v_iload (q := 432) hC dL_ofGroups_430 rfl rfl ?_
                                      refine v_iload (q := 434) hC dL_ofGroups_432 rfl rfl ?_
                                      refine v_callR (q := 437) (rm := rm_L_nestOf) hC (vN) kh_L_nestOf ml_RL_344 dL_ofGroups_434 rfl rfl rfl (Nat.le_of_ble_eq_true rfl) ⟨Nat.le_of_ble_eq_true rfl, Nat.le_of_ble_eq_true rfl⟩ (c1 := 3) (s1 := 18) rfl rfl ⟨show _ + 3 ≤ 26 by omega, show _ + 18 ≤ 156 by omega⟩ (pQ_k (fun G_434 s_434 w_434 a_434 l_434 => ?_)) pQ_n
                                      try dsimp only [Option.toList, List.cons_append, List.nil_append]
                                      refine v_goto (q := 448) hC dL_ofGroups_437 (by decide) ?_
                                      refine v_iload (q := 450) hC dL_ofGroups_448 rfl rfl ?_
                                      refine v_if_eq (q := 458) (q2 := 453) hC dL_ofGroups_450 (by decide) rfl (fun c_450 => ?_) (fun c_450 => ?_)
                                      · exact absurd c_450 (by decide)
                                      · refine v_bipush (q := 455) (v := (-102)) hC dL_ofGroups_453 rfl (by decide) ?_
                                        refine v_goto (q := 460) hC dL_ofGroups_455 (by decide) ?_
                                        refine v_icmp_ne (q := 467) (q2 := 463) hC dL_ofGroups_460 (by decide) rfl (fun c_460 => ?_) (fun c_460 => ?_)
                                        · exact absurd rfl c_460
                                        · refine v_iconst (q := 464) (v := 1) hC dL_ofGroups_463 rfl (by decide) ?_
                                          refine v_goto (q := 468) hC dL_ofGroups_464 (by decide) ?_
                                          refine v_iret hC dL_ofGroups_468 hr (rfl) ?_ (show _ ≤ 26 by omega) (show _ ≤ 156 by omega)
                                          exact fQ_mk s_434 w_434 a_434 l_434 hlv hLq
                              · exact absurd c_399 (by decide)
                  · exact absurd (Int32.not_le.mp c_156) n5
                · exact absurd c_92 n1
              · exact absurd c_28 n0
        · have n7 : ¬ nI way < 7 := nI_nlt (b := 7) (by omega) (by omega)
          cases hm : bt (G.2.1 0 30 (10 + g)) o2 with
          | false =>
            rw [hm] at hin hnm
            have c1 : ¬ mHas (G.2.1 0 30 (10 + g)) (nI o2) = true := by rw [hin]; decide
            refine v_iload_n (i := 3) (q := 28) hC dL_ofGroups_27 rfl rfl rfl ?_
            refine v_if_ne (q := 90) (q2 := 31) hC dL_ofGroups_28 (by decide) rfl (fun c_28 => ?_) (fun c_28 => ?_)
            · refine v_iload_n (i := 3) (q := 91) hC dL_ofGroups_90 rfl rfl rfl ?_
              refine v_iconst (q := 92) (v := 1) hC dL_ofGroups_91 rfl (by decide) ?_
              refine v_icmp_ne (q := 154) (q2 := 95) hC dL_ofGroups_92 (by decide) rfl (fun c_92 => ?_) (fun c_92 => ?_)
              · refine v_iload_n (i := 3) (q := 155) hC dL_ofGroups_154 rfl rfl rfl ?_
                refine v_iconst (q := 156) (v := 5) hC dL_ofGroups_155 rfl (by decide) ?_
                refine v_icmp_ge (q := 328) (q2 := 159) hC dL_ofGroups_156 (by decide) rfl (fun c_156 => ?_) (fun c_156 => ?_)
                · refine v_iload (q := 330) hC dL_ofGroups_328 rfl rfl ?_
                  refine v_aload_n (i := 2) (q := 331) hC dL_ofGroups_330 rfl rfl rfl ?_
                  refine v_iconst (q := 332) (v := 1) hC dL_ofGroups_331 rfl (by decide) ?_
                  refine v_ialdV (q := 333) hC dL_ofGroups_332 rfl rfl rfl (i := 1) (rfl) (by first | decide | omega) (by decide) (e1) ?_
                  refine v_icmp_ge (q := 348) (q2 := 336) hC dL_ofGroups_333 (by decide) rfl (fun c_333 => ?_) (fun c_333 => ?_)
                  · exact absurd c_333 (nI_ge hth.1 (by omega))
                  · refine v_iload (q := 338) hC dL_ofGroups_336 rfl rfl ?_
                    refine v_aload_n (i := 2) (q := 339) hC dL_ofGroups_338 rfl rfl rfl ?_
                    refine v_iconst (q := 340) (v := 1) hC dL_ofGroups_339 rfl (by decide) ?_
                    refine v_ialdV (q := 341) hC dL_ofGroups_340 rfl rfl rfl (i := 1) (rfl) (by first | decide | omega) (by decide) (e1) ?_
                    refine v_icmp_ge (q := 348) (q2 := 344) hC dL_ofGroups_341 (by decide) rfl (fun c_341 => ?_) (fun c_341 => ?_)
                    · exact absurd c_341 (nI_ge hth.2 (by omega))
                    · refine v_iconst (q := 345) (v := 1) hC dL_ofGroups_344 rfl (by decide) ?_
                      refine v_goto (q := 349) hC dL_ofGroups_345 (by decide) ?_
                      refine v_istore (q := 351) hC dL_ofGroups_349 rfl (lvc rfl) (Nat.le_of_ble_eq_true rfl) (Nat.le_of_ble_eq_true rfl) rfl ?_
                      refine v_aload_n (i := 1) (q := 352) hC dL_ofGroups_351 rfl rfl rfl ?_
                      refine v_bipush (q := 354) (v := 8) hC dL_ofGroups_352 rfl (by decide) ?_
                      refine v_iload (q := 356) hC dL_ofGroups_354 rfl rfl ?_
                      refine v_iadd (q := 357) hC dL_ofGroups_356 rfl ?_
                      refine v_ialdV (q := 358) hC dL_ofGroups_357 rfl rfl rfl (i := 8 + o2) (nI_add 8 o2) (by first | decide | omega) (by decide) (rfl) ?_
                      refine v_iload (q := 360) hC dL_ofGroups_358 rfl rfl ?_
                      refine v_callSN (q := 363) (rm := rm_L_has) hC (c_L_has hl Θ _ _ _) k_L_has st_yL_has ml_RL_172 dL_ofGroups_360 rfl rfl rfl (Nat.le_of_ble_eq_true rfl) ⟨Nat.le_of_ble_eq_true rfl, Nat.le_of_ble_eq_true rfl⟩ (c1 := 0) (s1 := 0) rfl rfl ⟨show _ + 0 ≤ 26 by omega, show _ + 0 ≤ 156 by omega⟩ (fR_k ?_) fR_n
                      try dsimp only [Option.toList, List.cons_append, List.nil_append]
                      rw [hnm]
                      refine v_istore (q := 365) hC dL_ofGroups_363 rfl (lvc rfl) (Nat.le_of_ble_eq_true rfl) (Nat.le_of_ble_eq_true rfl) rfl ?_
                      refine v_iload_n (i := 3) (q := 366) hC dL_ofGroups_365 rfl rfl rfl ?_
                      refine v_bipush (q := 368) (v := 7) hC dL_ofGroups_366 rfl (by decide) ?_
                      refine v_icmp_ge (q := 375) (q2 := 371) hC dL_ofGroups_368 (by decide) rfl (fun c_368 => ?_) (fun c_368 => ?_)
                      · refine v_iconst (q := 376) (v := 0) hC dL_ofGroups_375 rfl (by decide) ?_
                        refine v_istore (q := 378) hC dL_ofGroups_376 rfl (lvc rfl) (Nat.le_of_ble_eq_true rfl) (Nat.le_of_ble_eq_true rfl) rfl ?_
                        refine v_iload (q := 380) hC dL_ofGroups_378 rfl rfl ?_
                        refine v_if_eq (q := 410) (q2 := 383) hC dL_ofGroups_380 (by decide) rfl (fun c_380 => ?_) (fun c_380 => ?_)
                        · refine v_iload (q := 412) hC dL_ofGroups_410 rfl rfl ?_
                          refine v_istore (q := 414) hC dL_ofGroups_412 rfl (lvc rfl) (Nat.le_of_ble_eq_true rfl) (Nat.le_of_ble_eq_true rfl) rfl ?_
                          refine v_iload (q := 416) hC dL_ofGroups_414 rfl rfl ?_
                          refine v_if_eq (q := 424) (q2 := 419) hC dL_ofGroups_416 (by decide) rfl (fun c_416 => ?_) (fun c_416 => ?_)
                          · exact absurd c_416 (by decide)
                          · refine v_iload (q := 421) hC dL_ofGroups_419 rfl rfl ?_
                            refine v_if_ne (q := 469) (q2 := 424) hC dL_ofGroups_421 (by decide) rfl (fun c_421 => ?_) (fun c_421 => ?_)
                            · exact absurd rfl c_421
                            · refine v_iload (q := 426) hC dL_ofGroups_424 rfl rfl ?_
                              refine v_if_eq (q := 440) (q2 := 429) hC dL_ofGroups_426 (by decide) rfl (fun c_426 => ?_) (fun c_426 => ?_)
                              · refine v_aload_n (i := 0) (q := 441) hC dL_ofGroups_440 rfl rfl rfl ?_
                                refine v_iload (q := 443) hC dL_ofGroups_441 rfl rfl ?_
                                refine v_iload (q := 445) hC dL_ofGroups_443 rfl rfl ?_
                                refine v_callR (q := 448) (rm := rm_L_unnestOf) hC ((r_unnest hl Θ z0 ht (nI g) (nI o2)).p (v2 := -102) (w2 := G.2.1 0 30) (by rw [eg]; exact (if_pos cg).trans (if_neg c1)) (by rw [eg]; exact (if_pos cg).trans (if_neg c1))) kh_L_unnestOf ml_RL_347 dL_ofGroups_445 rfl rfl rfl (Nat.le_of_ble_eq_true rfl) ⟨Nat.le_of_ble_eq_true rfl, Nat.le_of_ble_eq_true rfl⟩ (c1 := 3) (s1 := 18) rfl rfl ⟨show _ + 3 ≤ 26 by omega, show _ + 18 ≤ 156 by omega⟩ (pQ_k (fun G_445 s_445 w_445 a_445 l_445 => ?_)) pQ_n
                                try dsimp only [Option.toList, List.cons_append, List.nil_append]
                                refine v_iload (q := 450) hC dL_ofGroups_448 rfl rfl ?_
                                refine v_if_eq (q := 458) (q2 := 453) hC dL_ofGroups_450 (by decide) rfl (fun c_450 => ?_) (fun c_450 => ?_)
                                · exact absurd c_450 (by decide)
                                · refine v_bipush (q := 455) (v := (-102)) hC dL_ofGroups_453 rfl (by decide) ?_
                                  refine v_goto (q := 460) hC dL_ofGroups_455 (by decide) ?_
                                  refine v_icmp_ne (q := 467) (q2 := 463) hC dL_ofGroups_460 (by decide) rfl (fun c_460 => ?_) (fun c_460 => ?_)
                                  · exact absurd rfl c_460
                                  · refine v_iconst (q := 464) (v := 1) hC dL_ofGroups_463 rfl (by decide) ?_
                                    refine v_goto (q := 468) hC dL_ofGroups_464 (by decide) ?_
                                    refine v_iret hC dL_ofGroups_468 hr (rfl) ?_ (show _ ≤ 26 by omega) (show _ ≤ 156 by omega)
                                    exact fQ_mk s_445 w_445 a_445 l_445 hlv hLq
                              · exact absurd rfl c_426
                        · exact absurd rfl c_380
                      · exact absurd (Int32.not_le.mp c_368) n7
                · exact absurd (Int32.not_le.mp c_156) n5
              · exact absurd c_92 n1
            · exact absurd c_28 n0
          | true =>
            rw [hm] at hin hnm
            have eb : G.2.1 0 40 (8 + o2) + (-((1 : Int32) <<< (nI g &&& 31))) = jChg (G.2.1 0 40 (8 + o2)) (nI g) false := (Int32.sub_eq_add_neg _ _).symm.trans (sub_p _ (by omega) ((hD.gt ho hg).trans hm))
            have ew : G.2.1 0 30 (10 + g) - ((1 : Int32) <<< (nI o2 &&& 31)) = jChg (G.2.1 0 30 (10 + g)) (nI o2) false := sub_p _ (by omega) hm
            refine v_iload_n (i := 3) (q := 28) hC dL_ofGroups_27 rfl rfl rfl ?_
            refine v_if_ne (q := 90) (q2 := 31) hC dL_ofGroups_28 (by decide) rfl (fun c_28 => ?_) (fun c_28 => ?_)
            · refine v_iload_n (i := 3) (q := 91) hC dL_ofGroups_90 rfl rfl rfl ?_
              refine v_iconst (q := 92) (v := 1) hC dL_ofGroups_91 rfl (by decide) ?_
              refine v_icmp_ne (q := 154) (q2 := 95) hC dL_ofGroups_92 (by decide) rfl (fun c_92 => ?_) (fun c_92 => ?_)
              · refine v_iload_n (i := 3) (q := 155) hC dL_ofGroups_154 rfl rfl rfl ?_
                refine v_iconst (q := 156) (v := 5) hC dL_ofGroups_155 rfl (by decide) ?_
                refine v_icmp_ge (q := 328) (q2 := 159) hC dL_ofGroups_156 (by decide) rfl (fun c_156 => ?_) (fun c_156 => ?_)
                · refine v_iload (q := 330) hC dL_ofGroups_328 rfl rfl ?_
                  refine v_aload_n (i := 2) (q := 331) hC dL_ofGroups_330 rfl rfl rfl ?_
                  refine v_iconst (q := 332) (v := 1) hC dL_ofGroups_331 rfl (by decide) ?_
                  refine v_ialdV (q := 333) hC dL_ofGroups_332 rfl rfl rfl (i := 1) (rfl) (by first | decide | omega) (by decide) (e1) ?_
                  refine v_icmp_ge (q := 348) (q2 := 336) hC dL_ofGroups_333 (by decide) rfl (fun c_333 => ?_) (fun c_333 => ?_)
                  · exact absurd c_333 (nI_ge hth.1 (by omega))
                  · refine v_iload (q := 338) hC dL_ofGroups_336 rfl rfl ?_
                    refine v_aload_n (i := 2) (q := 339) hC dL_ofGroups_338 rfl rfl rfl ?_
                    refine v_iconst (q := 340) (v := 1) hC dL_ofGroups_339 rfl (by decide) ?_
                    refine v_ialdV (q := 341) hC dL_ofGroups_340 rfl rfl rfl (i := 1) (rfl) (by first | decide | omega) (by decide) (e1) ?_
                    refine v_icmp_ge (q := 348) (q2 := 344) hC dL_ofGroups_341 (by decide) rfl (fun c_341 => ?_) (fun c_341 => ?_)
                    · exact absurd c_341 (nI_ge hth.2 (by omega))
                    · refine v_iconst (q := 345) (v := 1) hC dL_ofGroups_344 rfl (by decide) ?_
                      refine v_goto (q := 349) hC dL_ofGroups_345 (by decide) ?_
                      refine v_istore (q := 351) hC dL_ofGroups_349 rfl (lvc rfl) (Nat.le_of_ble_eq_true rfl) (Nat.le_of_ble_eq_true rfl) rfl ?_
                      refine v_aload_n (i := 1) (q := 352) hC dL_ofGroups_351 rfl rfl rfl ?_
                      refine v_bipush (q := 354) (v := 8) hC dL_ofGroups_352 rfl (by decide) ?_
                      refine v_iload (q := 356) hC dL_ofGroups_354 rfl rfl ?_
                      refine v_iadd (q := 357) hC dL_ofGroups_356 rfl ?_
                      refine v_ialdV (q := 358) hC dL_ofGroups_357 rfl rfl rfl (i := 8 + o2) (nI_add 8 o2) (by first | decide | omega) (by decide) (rfl) ?_
                      refine v_iload (q := 360) hC dL_ofGroups_358 rfl rfl ?_
                      refine v_callSN (q := 363) (rm := rm_L_has) hC (c_L_has hl Θ _ _ _) k_L_has st_yL_has ml_RL_172 dL_ofGroups_360 rfl rfl rfl (Nat.le_of_ble_eq_true rfl) ⟨Nat.le_of_ble_eq_true rfl, Nat.le_of_ble_eq_true rfl⟩ (c1 := 0) (s1 := 0) rfl rfl ⟨show _ + 0 ≤ 26 by omega, show _ + 0 ≤ 156 by omega⟩ (fR_k ?_) fR_n
                      try dsimp only [Option.toList, List.cons_append, List.nil_append]
                      rw [hnm]
                      refine v_istore (q := 365) hC dL_ofGroups_363 rfl (lvc rfl) (Nat.le_of_ble_eq_true rfl) (Nat.le_of_ble_eq_true rfl) rfl ?_
                      refine v_iload_n (i := 3) (q := 366) hC dL_ofGroups_365 rfl rfl rfl ?_
                      refine v_bipush (q := 368) (v := 7) hC dL_ofGroups_366 rfl (by decide) ?_
                      refine v_icmp_ge (q := 375) (q2 := 371) hC dL_ofGroups_368 (by decide) rfl (fun c_368 => ?_) (fun c_368 => ?_)
                      · refine v_iconst (q := 376) (v := 0) hC dL_ofGroups_375 rfl (by decide) ?_
                        refine v_istore (q := 378) hC dL_ofGroups_376 rfl (lvc rfl) (Nat.le_of_ble_eq_true rfl) (Nat.le_of_ble_eq_true rfl) rfl ?_
                        refine v_iload (q := 380) hC dL_ofGroups_378 rfl rfl ?_
                        refine v_if_eq (q := 410) (q2 := 383) hC dL_ofGroups_380 (by decide) rfl (fun c_380 => ?_) (fun c_380 => ?_)
                        · refine v_iload (q := 412) hC dL_ofGroups_410 rfl rfl ?_
                          refine v_istore (q := 414) hC dL_ofGroups_412 rfl (lvc rfl) (Nat.le_of_ble_eq_true rfl) (Nat.le_of_ble_eq_true rfl) rfl ?_
                          refine v_iload (q := 416) hC dL_ofGroups_414 rfl rfl ?_
                          refine v_if_eq (q := 424) (q2 := 419) hC dL_ofGroups_416 (by decide) rfl (fun c_416 => ?_) (fun c_416 => ?_)
                          · exact absurd c_416 (by decide)
                          · refine v_iload (q := 421) hC dL_ofGroups_419 rfl rfl ?_
                            refine v_if_ne (q := 469) (q2 := 424) hC dL_ofGroups_421 (by decide) rfl (fun c_421 => ?_) (fun c_421 => ?_)
                            · refine v_aload_n (i := 1) (q := 470) hC dL_ofGroups_469 rfl rfl rfl ?_
                              refine v_bipush (q := 472) (v := 8) hC dL_ofGroups_470 rfl (by decide) ?_
                              refine v_iload (q := 474) hC dL_ofGroups_472 rfl rfl ?_
                              refine v_iadd (q := 475) hC dL_ofGroups_474 rfl ?_
                              refine v_dup2 (q := 476) hC dL_ofGroups_475 rfl rfl rfl ?_
                              refine v_ialdV (q := 477) hC dL_ofGroups_476 rfl rfl rfl (i := 8 + o2) (nI_add 8 o2) (by first | decide | omega) (by decide) (rfl) ?_
                              refine v_iload (q := 479) hC dL_ofGroups_477 rfl rfl ?_
                              refine v_if_eq (q := 489) (q2 := 482) hC dL_ofGroups_479 (by decide) rfl (fun c_479 => ?_) (fun c_479 => ?_)
                              · refine v_iconst (q := 490) (v := 1) hC dL_ofGroups_489 rfl (by decide) ?_
                                refine v_iload (q := 492) hC dL_ofGroups_490 rfl rfl ?_
                                refine v_ishl (q := 493) hC dL_ofGroups_492 rfl ?_
                                refine v_ineg (q := 494) hC dL_ofGroups_493 rfl ?_
                                refine v_iadd (q := 495) hC dL_ofGroups_494 rfl ?_
                                refine v_iastN (q := 496) hC dL_ofGroups_495 rfl rfl (fun _ => rfl) (i := 8 + o2) (nI_add 8 o2) (by first | decide | omega | (unfold oA; omega) | (unfold enA; omega)) (by decide) ?_
                                rw [eb]
                                refine v_iload (q := 498) hC dL_ofGroups_496 rfl rfl ?_
                                refine v_if_eq (q := 512) (q2 := 501) hC dL_ofGroups_498 (by decide) rfl (fun c_498 => ?_) (fun c_498 => ?_)
                                · refine v_aload_n (i := 0) (q := 513) hC dL_ofGroups_512 rfl rfl rfl ?_
                                  refine v_iload (q := 515) hC dL_ofGroups_513 rfl rfl ?_
                                  refine v_iload (q := 517) hC dL_ofGroups_515 rfl rfl ?_
                                  refine v_callR (q := 520) (rm := rm_L_unnestOf) hC ((r_unnest hl Θ (Nx.refl (W _)) ht (nI g) (nI o2)).p (v2 := mHow (upd (G.2.1 0 30) (10 + g) (jChg (G.2.1 0 30 (10 + g)) (nI o2) false)) (mGs (G.2.1 0 30)) o2 (mUs (G.2.1 0 30)) 0 0) (w2 := upd (G.2.1 0 30) (10 + g) (jChg (G.2.1 0 30 (10 + g)) (nI o2) false)) (by rw [eg, eo, ← ew]; exact (if_pos cg).trans (if_pos hin)) (by rw [eg, ← ew]; exact (if_pos cg).trans (if_pos hin))) kh_L_unnestOf ml_RL_347 dL_ofGroups_517 rfl rfl rfl (Nat.le_of_ble_eq_true rfl) ⟨Nat.le_of_ble_eq_true rfl, Nat.le_of_ble_eq_true rfl⟩ (c1 := 3) (s1 := 18) rfl rfl ⟨show _ + 3 ≤ 26 by omega, show _ + 18 ≤ 156 by omega⟩ (pQ_k (fun G_517 s_517 w_517 a_517 l_517 => ?_)) pQ_n
                                  try dsimp only [Option.toList, List.cons_append, List.nil_append]
                                  exact A false _ _ s_517 w_517 a_517 l_517 _ _ _ _ (by decide) (by decide)
                                · exact absurd rfl c_498
                              · exact absurd rfl c_479
                            · exact absurd c_421 (by decide)
                        · exact absurd rfl c_380
                      · exact absurd (Int32.not_le.mp c_368) n7
                · exact absurd (Int32.not_le.mp c_156) n5
              · exact absurd c_92 n1
            · exact absurd c_28 n0
      · have cg : ¬ (mIn (nI g) 0 (G.2.1 0 30 1 - 1) && mIn (nI o2) 0 (G.2.1 0 30 1 - 1)) = true := by
          rw [hD.mG (by omega), hD.mG (by omega)]
          intro z
          obtain ⟨z1, z2⟩ := Bool.and_eq_true_iff.mp z
          exact hth ⟨of_decide_eq_true z1, of_decide_eq_true z2⟩
        refine v_iload_n (i := 3) (q := 28) hC dL_ofGroups_27 rfl rfl rfl ?_
        refine v_if_ne (q := 90) (q2 := 31) hC dL_ofGroups_28 (by decide) rfl (fun c_28 => ?_) (fun c_28 => ?_)
        · refine v_iload_n (i := 3) (q := 91) hC dL_ofGroups_90 rfl rfl rfl ?_
          refine v_iconst (q := 92) (v := 1) hC dL_ofGroups_91 rfl (by decide) ?_
          refine v_icmp_ne (q := 154) (q2 := 95) hC dL_ofGroups_92 (by decide) rfl (fun c_92 => ?_) (fun c_92 => ?_)
          · refine v_iload_n (i := 3) (q := 155) hC dL_ofGroups_154 rfl rfl rfl ?_
            refine v_iconst (q := 156) (v := 5) hC dL_ofGroups_155 rfl (by decide) ?_
            refine v_icmp_ge (q := 328) (q2 := 159) hC dL_ofGroups_156 (by decide) rfl (fun c_156 => ?_) (fun c_156 => ?_)
            · refine v_iload (q := 330) hC dL_ofGroups_328 rfl rfl ?_
              refine v_aload_n (i := 2) (q := 331) hC dL_ofGroups_330 rfl rfl rfl ?_
              refine v_iconst (q := 332) (v := 1) hC dL_ofGroups_331 rfl (by decide) ?_
              refine v_ialdV (q := 333) hC dL_ofGroups_332 rfl rfl rfl (i := 1) (rfl) (by first | decide | omega) (by decide) (e1) ?_
              refine v_icmp_ge (q := 348) (q2 := 336) hC dL_ofGroups_333 (by decide) rfl (fun c_333 => ?_) (fun c_333 => ?_)
              · refine v_iconst (q := 349) (v := 0) hC dL_ofGroups_348 rfl (by decide) ?_
                refine v_istore (q := 351) hC dL_ofGroups_349 rfl (lvc rfl) (Nat.le_of_ble_eq_true rfl) (Nat.le_of_ble_eq_true rfl) rfl ?_
                refine v_aload_n (i := 1) (q := 352) hC dL_ofGroups_351 rfl rfl rfl ?_
                refine v_bipush (q := 354) (v := 8) hC dL_ofGroups_352 rfl (by decide) ?_
                refine v_iload (q := 356) hC dL_ofGroups_354 rfl rfl ?_
                refine v_iadd (q := 357) hC dL_ofGroups_356 rfl ?_
                refine v_ialdV (q := 358) hC dL_ofGroups_357 rfl rfl rfl (i := 8 + o2) (nI_add 8 o2) (by first | decide | omega) (by decide) (rfl) ?_
                refine v_iload (q := 360) hC dL_ofGroups_358 rfl rfl ?_
                refine v_callSN (q := 363) (rm := rm_L_has) hC (c_L_has hl Θ _ _ _) k_L_has st_yL_has ml_RL_172 dL_ofGroups_360 rfl rfl rfl (Nat.le_of_ble_eq_true rfl) ⟨Nat.le_of_ble_eq_true rfl, Nat.le_of_ble_eq_true rfl⟩ (c1 := 0) (s1 := 0) rfl rfl ⟨show _ + 0 ≤ 26 by omega, show _ + 0 ≤ 156 by omega⟩ (fR_k ?_) fR_n
                try dsimp only [Option.toList, List.cons_append, List.nil_append]
                refine v_istore (q := 365) hC dL_ofGroups_363 rfl (lvc rfl) (Nat.le_of_ble_eq_true rfl) (Nat.le_of_ble_eq_true rfl) rfl ?_
                refine v_iload_n (i := 3) (q := 366) hC dL_ofGroups_365 rfl rfl rfl ?_
                refine v_bipush (q := 368) (v := 7) hC dL_ofGroups_366 rfl (by decide) ?_
                refine v_icmp_ge (q := 375) (q2 := 371) hC dL_ofGroups_368 (by decide) rfl (fun c_368 => ?_) (fun c_368 => ?_)
                · refine v_iconst (q := 376) (v := 0) hC dL_ofGroups_375 rfl (by decide) ?_
                  refine v_istore (q := 378) hC dL_ofGroups_376 rfl (lvc rfl) (Nat.le_of_ble_eq_true rfl) (Nat.le_of_ble_eq_true rfl) rfl ?_
                  refine v_iload (q := 380) hC dL_ofGroups_378 rfl rfl ?_
                  refine v_if_eq (q := 410) (q2 := 383) hC dL_ofGroups_380 (by decide) rfl (fun c_380 => ?_) (fun c_380 => ?_)
                  · first
                    | exact absurd c_380 (by decide)
                    |
                      refine v_iload (q := 412) hC dL_ofGroups_410 rfl rfl ?_
                      refine v_istore (q := 414) hC dL_ofGroups_412 rfl (lvc rfl) (Nat.le_of_ble_eq_true rfl) (Nat.le_of_ble_eq_true rfl) rfl ?_
                      refine v_iload (q := 416) hC dL_ofGroups_414 rfl rfl ?_
                      refine v_if_eq (q := 424) (q2 := 419) hC dL_ofGroups_416 (by decide) rfl (fun c_416 => ?_) (fun c_416 => ?_)
                      · refine v_iload (q := 426) hC dL_ofGroups_424 rfl rfl ?_
                        refine v_if_eq (q := 440) (q2 := 429) hC dL_ofGroups_426 (by decide) rfl (fun c_426 => ?_) (fun c_426 => ?_)
                        · first
                          | exact absurd c_426 (by decide)
                          |
                            refine v_aload_n (i := 0) (q := 441) hC dL_ofGroups_440 rfl rfl rfl ?_
                            refine v_iload (q := 443) hC dL_ofGroups_441 rfl rfl ?_
                            refine v_iload (q := 445) hC dL_ofGroups_443 rfl rfl ?_
                            refine v_callR (q := 448) (rm := rm_L_unnestOf) hC ((r_unnest hl Θ z0 ht (nI g) (nI o2)).p (v2 := -101) (w2 := G.2.1 0 30) (if_neg cg) (if_neg cg)) kh_L_unnestOf ml_RL_347 dL_ofGroups_445 rfl rfl rfl (Nat.le_of_ble_eq_true rfl) ⟨Nat.le_of_ble_eq_true rfl, Nat.le_of_ble_eq_true rfl⟩ (c1 := 3) (s1 := 18) rfl rfl ⟨show _ + 3 ≤ 26 by omega, show _ + 18 ≤ 156 by omega⟩ (pQ_k (fun G_445 s_445 w_445 a_445 l_445 => ?_)) pQ_n
                            try dsimp only [Option.toList, List.cons_append, List.nil_append]
                            refine v_iload (q := 450) hC dL_ofGroups_448 rfl rfl ?_
                            refine v_if_eq (q := 458) (q2 := 453) hC dL_ofGroups_450 (by decide) rfl (fun c_450 => ?_) (fun c_450 => ?_)
                            · refine v_bipush (q := 460) (v := (-101)) hC dL_ofGroups_458 rfl (by decide) ?_
                              refine v_icmp_ne (q := 467) (q2 := 463) hC dL_ofGroups_460 (by decide) rfl (fun c_460 => ?_) (fun c_460 => ?_)
                              · exact absurd rfl c_460
                              · refine v_iconst (q := 464) (v := 1) hC dL_ofGroups_463 rfl (by decide) ?_
                                refine v_goto (q := 468) hC dL_ofGroups_464 (by decide) ?_
                                refine v_iret hC dL_ofGroups_468 hr (rfl) ?_ (show _ ≤ 26 by omega) (show _ ≤ 156 by omega)
                                first | exact fQ_mk s_434 w_434 a_434 l_434 hlv hLq | exact fQ_mk s_445 w_445 a_445 l_445 hlv hLq
                            · exact absurd rfl c_450
                        · first
                          | exact absurd c_426 (by decide)
                          |
                            refine v_aload_n (i := 0) (q := 430) hC dL_ofGroups_429 rfl rfl rfl ?_
                            refine v_iload (q := 432) hC dL_ofGroups_430 rfl rfl ?_
                            refine v_iload (q := 434) hC dL_ofGroups_432 rfl rfl ?_
                            refine v_callR (q := 437) (rm := rm_L_nestOf) hC ((r_nest hl Θ z0 ht (nI g) (nI o2)).p (v2 := -101) (w2 := G.2.1 0 30) (if_neg cg) (if_neg cg)) kh_L_nestOf ml_RL_344 dL_ofGroups_434 rfl rfl rfl (Nat.le_of_ble_eq_true rfl) ⟨Nat.le_of_ble_eq_true rfl, Nat.le_of_ble_eq_true rfl⟩ (c1 := 3) (s1 := 18) rfl rfl ⟨show _ + 3 ≤ 26 by omega, show _ + 18 ≤ 156 by omega⟩ (pQ_k (fun G_434 s_434 w_434 a_434 l_434 => ?_)) pQ_n
                            try dsimp only [Option.toList, List.cons_append, List.nil_append]
                            refine v_goto (q := 448) hC dL_ofGroups_437 (by decide) ?_
                            refine v_iload (q := 450) hC dL_ofGroups_448 rfl rfl ?_
                            refine v_if_eq (q := 458) (q2 := 453) hC dL_ofGroups_450 (by decide) rfl (fun c_450 => ?_) (fun c_450 => ?_)
                            · refine v_bipush (q := 460) (v := (-101)) hC dL_ofGroups_458 rfl (by decide) ?_
                              refine v_icmp_ne (q := 467) (q2 := 463) hC dL_ofGroups_460 (by decide) rfl (fun c_460 => ?_) (fun c_460 => ?_)
                              · exact absurd rfl c_460
                              · refine v_iconst (q := 464) (v := 1) hC dL_ofGroups_463 rfl (by decide) ?_
                                refine v_goto (q := 468) hC dL_ofGroups_464 (by decide) ?_
                                refine v_iret hC dL_ofGroups_468 hr (rfl) ?_ (show _ ≤ 26 by omega) (show _ ≤ 156 by omega)
                                first | exact fQ_mk s_434 w_434 a_434 l_434 hlv hLq | exact fQ_mk s_445 w_445 a_445 l_445 hlv hLq
                            · exact absurd rfl c_450
                      · exact absurd rfl c_416
                  · first
                    | exact absurd c_380 (by decide)
                    |
                      refine v_iload (q := 385) hC dL_ofGroups_383 rfl rfl ?_
                      refine v_if_ne (q := 406) (q2 := 388) hC dL_ofGroups_385 (by decide) rfl (fun c_385 => ?_) (fun c_385 => ?_)
                      · refine v_iconst (q := 407) (v := 0) hC dL_ofGroups_406 rfl (by decide) ?_
                        refine v_goto (q := 412) hC dL_ofGroups_407 (by decide) ?_
                        refine v_istore (q := 414) hC dL_ofGroups_412 rfl (lvc rfl) (Nat.le_of_ble_eq_true rfl) (Nat.le_of_ble_eq_true rfl) rfl ?_
                        refine v_iload (q := 416) hC dL_ofGroups_414 rfl rfl ?_
                        refine v_if_eq (q := 424) (q2 := 419) hC dL_ofGroups_416 (by decide) rfl (fun c_416 => ?_) (fun c_416 => ?_)
                        · refine v_iload (q := 426) hC dL_ofGroups_424 rfl rfl ?_
                          refine v_if_eq (q := 440) (q2 := 429) hC dL_ofGroups_426 (by decide) rfl (fun c_426 => ?_) (fun c_426 => ?_)
                          · first
                            | exact absurd c_426 (by decide)
                            |
                              refine v_aload_n (i := 0) (q := 441) hC dL_ofGroups_440 rfl rfl rfl ?_
                              refine v_iload (q := 443) hC dL_ofGroups_441 rfl rfl ?_
                              refine v_iload (q := 445) hC dL_ofGroups_443 rfl rfl ?_
                              refine v_callR (q := 448) (rm := rm_L_unnestOf) hC ((r_unnest hl Θ z0 ht (nI g) (nI o2)).p (v2 := -101) (w2 := G.2.1 0 30) (if_neg cg) (if_neg cg)) kh_L_unnestOf ml_RL_347 dL_ofGroups_445 rfl rfl rfl (Nat.le_of_ble_eq_true rfl) ⟨Nat.le_of_ble_eq_true rfl, Nat.le_of_ble_eq_true rfl⟩ (c1 := 3) (s1 := 18) rfl rfl ⟨show _ + 3 ≤ 26 by omega, show _ + 18 ≤ 156 by omega⟩ (pQ_k (fun G_445 s_445 w_445 a_445 l_445 => ?_)) pQ_n
                              try dsimp only [Option.toList, List.cons_append, List.nil_append]
                              refine v_iload (q := 450) hC dL_ofGroups_448 rfl rfl ?_
                              refine v_if_eq (q := 458) (q2 := 453) hC dL_ofGroups_450 (by decide) rfl (fun c_450 => ?_) (fun c_450 => ?_)
                              · refine v_bipush (q := 460) (v := (-101)) hC dL_ofGroups_458 rfl (by decide) ?_
                                refine v_icmp_ne (q := 467) (q2 := 463) hC dL_ofGroups_460 (by decide) rfl (fun c_460 => ?_) (fun c_460 => ?_)
                                · exact absurd rfl c_460
                                · refine v_iconst (q := 464) (v := 1) hC dL_ofGroups_463 rfl (by decide) ?_
                                  refine v_goto (q := 468) hC dL_ofGroups_464 (by decide) ?_
                                  refine v_iret hC dL_ofGroups_468 hr (rfl) ?_ (show _ ≤ 26 by omega) (show _ ≤ 156 by omega)
                                  first | exact fQ_mk s_434 w_434 a_434 l_434 hlv hLq | exact fQ_mk s_445 w_445 a_445 l_445 hlv hLq
                              · exact absurd rfl c_450
                          · first
                            | exact absurd c_426 (by decide)
                            |
                              refine v_aload_n (i := 0) (q := 430) hC dL_ofGroups_429 rfl rfl rfl ?_
                              refine v_iload (q := 432) hC dL_ofGroups_430 rfl rfl ?_
                              refine v_iload (q := 434) hC dL_ofGroups_432 rfl rfl ?_
                              refine v_callR (q := 437) (rm := rm_L_nestOf) hC ((r_nest hl Θ z0 ht (nI g) (nI o2)).p (v2 := -101) (w2 := G.2.1 0 30) (if_neg cg) (if_neg cg)) kh_L_nestOf ml_RL_344 dL_ofGroups_434 rfl rfl rfl (Nat.le_of_ble_eq_true rfl) ⟨Nat.le_of_ble_eq_true rfl, Nat.le_of_ble_eq_true rfl⟩ (c1 := 3) (s1 := 18) rfl rfl ⟨show _ + 3 ≤ 26 by omega, show _ + 18 ≤ 156 by omega⟩ (pQ_k (fun G_434 s_434 w_434 a_434 l_434 => ?_)) pQ_n
                              try dsimp only [Option.toList, List.cons_append, List.nil_append]
                              refine v_goto (q := 448) hC dL_ofGroups_437 (by decide) ?_
                              refine v_iload (q := 450) hC dL_ofGroups_448 rfl rfl ?_
                              refine v_if_eq (q := 458) (q2 := 453) hC dL_ofGroups_450 (by decide) rfl (fun c_450 => ?_) (fun c_450 => ?_)
                              · refine v_bipush (q := 460) (v := (-101)) hC dL_ofGroups_458 rfl (by decide) ?_
                                refine v_icmp_ne (q := 467) (q2 := 463) hC dL_ofGroups_460 (by decide) rfl (fun c_460 => ?_) (fun c_460 => ?_)
                                · exact absurd rfl c_460
                                · refine v_iconst (q := 464) (v := 1) hC dL_ofGroups_463 rfl (by decide) ?_
                                  refine v_goto (q := 468) hC dL_ofGroups_464 (by decide) ?_
                                  refine v_iret hC dL_ofGroups_468 hr (rfl) ?_ (show _ ≤ 26 by omega) (show _ ≤ 156 by omega)
                                  first | exact fQ_mk s_434 w_434 a_434 l_434 hlv hLq | exact fQ_mk s_445 w_445 a_445 l_445 hlv hLq
                              · exact absurd rfl c_450
                        · exact absurd rfl c_416
                      · refine v_aload_n (i := 1) (q := 389) hC dL_ofGroups_388 rfl rfl rfl ?_
                        refine v_iload (q := 391) hC dL_ofGroups_389 rfl rfl ?_
                        refine v_callSN (q := 394) (rm := rm_L_within) hC (c_L_within hl Θ g _ hg hD.g8) k_L_within st_yL_within ml_RL_177 dL_ofGroups_391 rfl rfl rfl (Nat.le_of_ble_eq_true rfl) ⟨Nat.le_of_ble_eq_true rfl, Nat.le_of_ble_eq_true rfl⟩ (c1 := 0) (s1 := 0) rfl rfl ⟨show _ + 0 ≤ 26 by omega, show _ + 0 ≤ 156 by omega⟩ (fR_k ?_) fR_n
                        try dsimp only [Option.toList, List.cons_append, List.nil_append]
                        refine v_iload (q := 396) hC dL_ofGroups_394 rfl rfl ?_
                        refine v_callSN (q := 399) (rm := rm_L_has) hC (c_L_has hl Θ _ _ _) k_L_has st_yL_has ml_RL_172 dL_ofGroups_396 rfl rfl rfl (Nat.le_of_ble_eq_true rfl) ⟨Nat.le_of_ble_eq_true rfl, Nat.le_of_ble_eq_true rfl⟩ (c1 := 0) (s1 := 0) rfl rfl ⟨show _ + 0 ≤ 26 by omega, show _ + 0 ≤ 156 by omega⟩ (fR_k ?_) fR_n
                        try dsimp only [Option.toList, List.cons_append, List.nil_append]
                        refine v_ifb_ne (q := 406) (q2 := 402) hC dL_ofGroups_399 (by decide) rfl (fun c_399 => ?_) (fun c_399 => ?_)
                        · refine v_iconst (q := 407) (v := 0) hC dL_ofGroups_406 rfl (by decide) ?_
                          refine v_goto (q := 412) hC dL_ofGroups_407 (by decide) ?_
                          refine v_istore (q := 414) hC dL_ofGroups_412 rfl (lvc rfl) (Nat.le_of_ble_eq_true rfl) (Nat.le_of_ble_eq_true rfl) rfl ?_
                          refine v_iload (q := 416) hC dL_ofGroups_414 rfl rfl ?_
                          refine v_if_eq (q := 424) (q2 := 419) hC dL_ofGroups_416 (by decide) rfl (fun c_416 => ?_) (fun c_416 => ?_)
                          · refine v_iload (q := 426) hC dL_ofGroups_424 rfl rfl ?_
                            refine v_if_eq (q := 440) (q2 := 429) hC dL_ofGroups_426 (by decide) rfl (fun c_426 => ?_) (fun c_426 => ?_)
                            · first
                              | exact absurd c_426 (by decide)
                              |
                                refine v_aload_n (i := 0) (q := 441) hC dL_ofGroups_440 rfl rfl rfl ?_
                                refine v_iload (q := 443) hC dL_ofGroups_441 rfl rfl ?_
                                refine v_iload (q := 445) hC dL_ofGroups_443 rfl rfl ?_
                                refine v_callR (q := 448) (rm := rm_L_unnestOf) hC ((r_unnest hl Θ z0 ht (nI g) (nI o2)).p (v2 := -101) (w2 := G.2.1 0 30) (if_neg cg) (if_neg cg)) kh_L_unnestOf ml_RL_347 dL_ofGroups_445 rfl rfl rfl (Nat.le_of_ble_eq_true rfl) ⟨Nat.le_of_ble_eq_true rfl, Nat.le_of_ble_eq_true rfl⟩ (c1 := 3) (s1 := 18) rfl rfl ⟨show _ + 3 ≤ 26 by omega, show _ + 18 ≤ 156 by omega⟩ (pQ_k (fun G_445 s_445 w_445 a_445 l_445 => ?_)) pQ_n
                                try dsimp only [Option.toList, List.cons_append, List.nil_append]
                                refine v_iload (q := 450) hC dL_ofGroups_448 rfl rfl ?_
                                refine v_if_eq (q := 458) (q2 := 453) hC dL_ofGroups_450 (by decide) rfl (fun c_450 => ?_) (fun c_450 => ?_)
                                · refine v_bipush (q := 460) (v := (-101)) hC dL_ofGroups_458 rfl (by decide) ?_
                                  refine v_icmp_ne (q := 467) (q2 := 463) hC dL_ofGroups_460 (by decide) rfl (fun c_460 => ?_) (fun c_460 => ?_)
                                  · exact absurd rfl c_460
                                  · refine v_iconst (q := 464) (v := 1) hC dL_ofGroups_463 rfl (by decide) ?_
                                    refine v_goto (q := 468) hC dL_ofGroups_464 (by decide) ?_
                                    refine v_iret hC dL_ofGroups_468 hr (rfl) ?_ (show _ ≤ 26 by omega) (show _ ≤ 156 by omega)
                                    first | exact fQ_mk s_434 w_434 a_434 l_434 hlv hLq | exact fQ_mk s_445 w_445 a_445 l_445 hlv hLq
                                · exact absurd rfl c_450
                            · first
                              | exact absurd c_426 (by decide)
                              |
                                refine v_aload_n (i := 0) (q := 430) hC dL_ofGroups_429 rfl rfl rfl ?_
                                refine v_iload (q := 432) hC dL_ofGroups_430 rfl rfl ?_
                                refine v_iload (q := 434) hC dL_ofGroups_432 rfl rfl ?_
                                refine v_callR (q := 437) (rm := rm_L_nestOf) hC ((r_nest hl Θ z0 ht (nI g) (nI o2)).p (v2 := -101) (w2 := G.2.1 0 30) (if_neg cg) (if_neg cg)) kh_L_nestOf ml_RL_344 dL_ofGroups_434 rfl rfl rfl (Nat.le_of_ble_eq_true rfl) ⟨Nat.le_of_ble_eq_true rfl, Nat.le_of_ble_eq_true rfl⟩ (c1 := 3) (s1 := 18) rfl rfl ⟨show _ + 3 ≤ 26 by omega, show _ + 18 ≤ 156 by omega⟩ (pQ_k (fun G_434 s_434 w_434 a_434 l_434 => ?_)) pQ_n
                                try dsimp only [Option.toList, List.cons_append, List.nil_append]
                                refine v_goto (q := 448) hC dL_ofGroups_437 (by decide) ?_
                                refine v_iload (q := 450) hC dL_ofGroups_448 rfl rfl ?_
                                refine v_if_eq (q := 458) (q2 := 453) hC dL_ofGroups_450 (by decide) rfl (fun c_450 => ?_) (fun c_450 => ?_)
                                · refine v_bipush (q := 460) (v := (-101)) hC dL_ofGroups_458 rfl (by decide) ?_
                                  refine v_icmp_ne (q := 467) (q2 := 463) hC dL_ofGroups_460 (by decide) rfl (fun c_460 => ?_) (fun c_460 => ?_)
                                  · exact absurd rfl c_460
                                  · refine v_iconst (q := 464) (v := 1) hC dL_ofGroups_463 rfl (by decide) ?_
                                    refine v_goto (q := 468) hC dL_ofGroups_464 (by decide) ?_
                                    refine v_iret hC dL_ofGroups_468 hr (rfl) ?_ (show _ ≤ 26 by omega) (show _ ≤ 156 by omega)
                                    first | exact fQ_mk s_434 w_434 a_434 l_434 hlv hLq | exact fQ_mk s_445 w_445 a_445 l_445 hlv hLq
                                · exact absurd rfl c_450
                          · exact absurd rfl c_416
                        · refine v_iconst (q := 403) (v := 1) hC dL_ofGroups_402 rfl (by decide) ?_
                          refine v_goto (q := 412) hC dL_ofGroups_403 (by decide) ?_
                          refine v_istore (q := 414) hC dL_ofGroups_412 rfl (lvc rfl) (Nat.le_of_ble_eq_true rfl) (Nat.le_of_ble_eq_true rfl) rfl ?_
                          refine v_iload (q := 416) hC dL_ofGroups_414 rfl rfl ?_
                          refine v_if_eq (q := 424) (q2 := 419) hC dL_ofGroups_416 (by decide) rfl (fun c_416 => ?_) (fun c_416 => ?_)
                          · refine v_iload (q := 426) hC dL_ofGroups_424 rfl rfl ?_
                            refine v_if_eq (q := 440) (q2 := 429) hC dL_ofGroups_426 (by decide) rfl (fun c_426 => ?_) (fun c_426 => ?_)
                            · first
                              | exact absurd c_426 (by decide)
                              |
                                refine v_aload_n (i := 0) (q := 441) hC dL_ofGroups_440 rfl rfl rfl ?_
                                refine v_iload (q := 443) hC dL_ofGroups_441 rfl rfl ?_
                                refine v_iload (q := 445) hC dL_ofGroups_443 rfl rfl ?_
                                refine v_callR (q := 448) (rm := rm_L_unnestOf) hC ((r_unnest hl Θ z0 ht (nI g) (nI o2)).p (v2 := -101) (w2 := G.2.1 0 30) (if_neg cg) (if_neg cg)) kh_L_unnestOf ml_RL_347 dL_ofGroups_445 rfl rfl rfl (Nat.le_of_ble_eq_true rfl) ⟨Nat.le_of_ble_eq_true rfl, Nat.le_of_ble_eq_true rfl⟩ (c1 := 3) (s1 := 18) rfl rfl ⟨show _ + 3 ≤ 26 by omega, show _ + 18 ≤ 156 by omega⟩ (pQ_k (fun G_445 s_445 w_445 a_445 l_445 => ?_)) pQ_n
                                try dsimp only [Option.toList, List.cons_append, List.nil_append]
                                refine v_iload (q := 450) hC dL_ofGroups_448 rfl rfl ?_
                                refine v_if_eq (q := 458) (q2 := 453) hC dL_ofGroups_450 (by decide) rfl (fun c_450 => ?_) (fun c_450 => ?_)
                                · refine v_bipush (q := 460) (v := (-101)) hC dL_ofGroups_458 rfl (by decide) ?_
                                  refine v_icmp_ne (q := 467) (q2 := 463) hC dL_ofGroups_460 (by decide) rfl (fun c_460 => ?_) (fun c_460 => ?_)
                                  · exact absurd rfl c_460
                                  · refine v_iconst (q := 464) (v := 1) hC dL_ofGroups_463 rfl (by decide) ?_
                                    refine v_goto (q := 468) hC dL_ofGroups_464 (by decide) ?_
                                    refine v_iret hC dL_ofGroups_468 hr (rfl) ?_ (show _ ≤ 26 by omega) (show _ ≤ 156 by omega)
                                    first | exact fQ_mk s_434 w_434 a_434 l_434 hlv hLq | exact fQ_mk s_445 w_445 a_445 l_445 hlv hLq
                                · exact absurd rfl c_450
                            · first
                              | exact absurd c_426 (by decide)
                              |
                                refine v_aload_n (i := 0) (q := 430) hC dL_ofGroups_429 rfl rfl rfl ?_
                                refine v_iload (q := 432) hC dL_ofGroups_430 rfl rfl ?_
                                refine v_iload (q := 434) hC dL_ofGroups_432 rfl rfl ?_
                                refine v_callR (q := 437) (rm := rm_L_nestOf) hC ((r_nest hl Θ z0 ht (nI g) (nI o2)).p (v2 := -101) (w2 := G.2.1 0 30) (if_neg cg) (if_neg cg)) kh_L_nestOf ml_RL_344 dL_ofGroups_434 rfl rfl rfl (Nat.le_of_ble_eq_true rfl) ⟨Nat.le_of_ble_eq_true rfl, Nat.le_of_ble_eq_true rfl⟩ (c1 := 3) (s1 := 18) rfl rfl ⟨show _ + 3 ≤ 26 by omega, show _ + 18 ≤ 156 by omega⟩ (pQ_k (fun G_434 s_434 w_434 a_434 l_434 => ?_)) pQ_n
                                try dsimp only [Option.toList, List.cons_append, List.nil_append]
                                refine v_goto (q := 448) hC dL_ofGroups_437 (by decide) ?_
                                refine v_iload (q := 450) hC dL_ofGroups_448 rfl rfl ?_
                                refine v_if_eq (q := 458) (q2 := 453) hC dL_ofGroups_450 (by decide) rfl (fun c_450 => ?_) (fun c_450 => ?_)
                                · refine v_bipush (q := 460) (v := (-101)) hC dL_ofGroups_458 rfl (by decide) ?_
                                  refine v_icmp_ne (q := 467) (q2 := 463) hC dL_ofGroups_460 (by decide) rfl (fun c_460 => ?_) (fun c_460 => ?_)
                                  · exact absurd rfl c_460
                                  · refine v_iconst (q := 464) (v := 1) hC dL_ofGroups_463 rfl (by decide) ?_
                                    refine v_goto (q := 468) hC dL_ofGroups_464 (by decide) ?_
                                    refine v_iret hC dL_ofGroups_468 hr (rfl) ?_ (show _ ≤ 26 by omega) (show _ ≤ 156 by omega)
                                    first | exact fQ_mk s_434 w_434 a_434 l_434 hlv hLq | exact fQ_mk s_445 w_445 a_445 l_445 hlv hLq
                                · exact absurd rfl c_450
                          · exact absurd rfl c_416
                · refine v_iconst (q := 372) (v := 1) hC dL_ofGroups_371 rfl (by decide) ?_
                  refine v_goto (q := 376) hC dL_ofGroups_372 (by decide) ?_
                  refine v_istore (q := 378) hC dL_ofGroups_376 rfl (lvc rfl) (Nat.le_of_ble_eq_true rfl) (Nat.le_of_ble_eq_true rfl) rfl ?_
                  refine v_iload (q := 380) hC dL_ofGroups_378 rfl rfl ?_
                  refine v_if_eq (q := 410) (q2 := 383) hC dL_ofGroups_380 (by decide) rfl (fun c_380 => ?_) (fun c_380 => ?_)
                  · first
                    | exact absurd c_380 (by decide)
                    |
                      refine v_iload (q := 412) hC dL_ofGroups_410 rfl rfl ?_
                      refine v_istore (q := 414) hC dL_ofGroups_412 rfl (lvc rfl) (Nat.le_of_ble_eq_true rfl) (Nat.le_of_ble_eq_true rfl) rfl ?_
                      refine v_iload (q := 416) hC dL_ofGroups_414 rfl rfl ?_
                      refine v_if_eq (q := 424) (q2 := 419) hC dL_ofGroups_416 (by decide) rfl (fun c_416 => ?_) (fun c_416 => ?_)
                      · refine v_iload (q := 426) hC dL_ofGroups_424 rfl rfl ?_
                        refine v_if_eq (q := 440) (q2 := 429) hC dL_ofGroups_426 (by decide) rfl (fun c_426 => ?_) (fun c_426 => ?_)
                        · first
                          | exact absurd c_426 (by decide)
                          |
                            refine v_aload_n (i := 0) (q := 441) hC dL_ofGroups_440 rfl rfl rfl ?_
                            refine v_iload (q := 443) hC dL_ofGroups_441 rfl rfl ?_
                            refine v_iload (q := 445) hC dL_ofGroups_443 rfl rfl ?_
                            refine v_callR (q := 448) (rm := rm_L_unnestOf) hC ((r_unnest hl Θ z0 ht (nI g) (nI o2)).p (v2 := -101) (w2 := G.2.1 0 30) (if_neg cg) (if_neg cg)) kh_L_unnestOf ml_RL_347 dL_ofGroups_445 rfl rfl rfl (Nat.le_of_ble_eq_true rfl) ⟨Nat.le_of_ble_eq_true rfl, Nat.le_of_ble_eq_true rfl⟩ (c1 := 3) (s1 := 18) rfl rfl ⟨show _ + 3 ≤ 26 by omega, show _ + 18 ≤ 156 by omega⟩ (pQ_k (fun G_445 s_445 w_445 a_445 l_445 => ?_)) pQ_n
                            try dsimp only [Option.toList, List.cons_append, List.nil_append]
                            refine v_iload (q := 450) hC dL_ofGroups_448 rfl rfl ?_
                            refine v_if_eq (q := 458) (q2 := 453) hC dL_ofGroups_450 (by decide) rfl (fun c_450 => ?_) (fun c_450 => ?_)
                            · refine v_bipush (q := 460) (v := (-101)) hC dL_ofGroups_458 rfl (by decide) ?_
                              refine v_icmp_ne (q := 467) (q2 := 463) hC dL_ofGroups_460 (by decide) rfl (fun c_460 => ?_) (fun c_460 => ?_)
                              · exact absurd rfl c_460
                              · refine v_iconst (q := 464) (v := 1) hC dL_ofGroups_463 rfl (by decide) ?_
                                refine v_goto (q := 468) hC dL_ofGroups_464 (by decide) ?_
                                refine v_iret hC dL_ofGroups_468 hr (rfl) ?_ (show _ ≤ 26 by omega) (show _ ≤ 156 by omega)
                                first | exact fQ_mk s_434 w_434 a_434 l_434 hlv hLq | exact fQ_mk s_445 w_445 a_445 l_445 hlv hLq
                            · exact absurd rfl c_450
                        · first
                          | exact absurd c_426 (by decide)
                          |
                            refine v_aload_n (i := 0) (q := 430) hC dL_ofGroups_429 rfl rfl rfl ?_
                            refine v_iload (q := 432) hC dL_ofGroups_430 rfl rfl ?_
                            refine v_iload (q := 434) hC dL_ofGroups_432 rfl rfl ?_
                            refine v_callR (q := 437) (rm := rm_L_nestOf) hC ((r_nest hl Θ z0 ht (nI g) (nI o2)).p (v2 := -101) (w2 := G.2.1 0 30) (if_neg cg) (if_neg cg)) kh_L_nestOf ml_RL_344 dL_ofGroups_434 rfl rfl rfl (Nat.le_of_ble_eq_true rfl) ⟨Nat.le_of_ble_eq_true rfl, Nat.le_of_ble_eq_true rfl⟩ (c1 := 3) (s1 := 18) rfl rfl ⟨show _ + 3 ≤ 26 by omega, show _ + 18 ≤ 156 by omega⟩ (pQ_k (fun G_434 s_434 w_434 a_434 l_434 => ?_)) pQ_n
                            try dsimp only [Option.toList, List.cons_append, List.nil_append]
                            refine v_goto (q := 448) hC dL_ofGroups_437 (by decide) ?_
                            refine v_iload (q := 450) hC dL_ofGroups_448 rfl rfl ?_
                            refine v_if_eq (q := 458) (q2 := 453) hC dL_ofGroups_450 (by decide) rfl (fun c_450 => ?_) (fun c_450 => ?_)
                            · refine v_bipush (q := 460) (v := (-101)) hC dL_ofGroups_458 rfl (by decide) ?_
                              refine v_icmp_ne (q := 467) (q2 := 463) hC dL_ofGroups_460 (by decide) rfl (fun c_460 => ?_) (fun c_460 => ?_)
                              · exact absurd rfl c_460
                              · refine v_iconst (q := 464) (v := 1) hC dL_ofGroups_463 rfl (by decide) ?_
                                refine v_goto (q := 468) hC dL_ofGroups_464 (by decide) ?_
                                refine v_iret hC dL_ofGroups_468 hr (rfl) ?_ (show _ ≤ 26 by omega) (show _ ≤ 156 by omega)
                                first | exact fQ_mk s_434 w_434 a_434 l_434 hlv hLq | exact fQ_mk s_445 w_445 a_445 l_445 hlv hLq
                            · exact absurd rfl c_450
                      · exact absurd rfl c_416
                  · first
                    | exact absurd c_380 (by decide)
                    |
                      refine v_iload (q := 385) hC dL_ofGroups_383 rfl rfl ?_
                      refine v_if_ne (q := 406) (q2 := 388) hC dL_ofGroups_385 (by decide) rfl (fun c_385 => ?_) (fun c_385 => ?_)
                      · refine v_iconst (q := 407) (v := 0) hC dL_ofGroups_406 rfl (by decide) ?_
                        refine v_goto (q := 412) hC dL_ofGroups_407 (by decide) ?_
                        refine v_istore (q := 414) hC dL_ofGroups_412 rfl (lvc rfl) (Nat.le_of_ble_eq_true rfl) (Nat.le_of_ble_eq_true rfl) rfl ?_
                        refine v_iload (q := 416) hC dL_ofGroups_414 rfl rfl ?_
                        refine v_if_eq (q := 424) (q2 := 419) hC dL_ofGroups_416 (by decide) rfl (fun c_416 => ?_) (fun c_416 => ?_)
                        · refine v_iload (q := 426) hC dL_ofGroups_424 rfl rfl ?_
                          refine v_if_eq (q := 440) (q2 := 429) hC dL_ofGroups_426 (by decide) rfl (fun c_426 => ?_) (fun c_426 => ?_)
                          · first
                            | exact absurd c_426 (by decide)
                            |
                              refine v_aload_n (i := 0) (q := 441) hC dL_ofGroups_440 rfl rfl rfl ?_
                              refine v_iload (q := 443) hC dL_ofGroups_441 rfl rfl ?_
                              refine v_iload (q := 445) hC dL_ofGroups_443 rfl rfl ?_
                              refine v_callR (q := 448) (rm := rm_L_unnestOf) hC ((r_unnest hl Θ z0 ht (nI g) (nI o2)).p (v2 := -101) (w2 := G.2.1 0 30) (if_neg cg) (if_neg cg)) kh_L_unnestOf ml_RL_347 dL_ofGroups_445 rfl rfl rfl (Nat.le_of_ble_eq_true rfl) ⟨Nat.le_of_ble_eq_true rfl, Nat.le_of_ble_eq_true rfl⟩ (c1 := 3) (s1 := 18) rfl rfl ⟨show _ + 3 ≤ 26 by omega, show _ + 18 ≤ 156 by omega⟩ (pQ_k (fun G_445 s_445 w_445 a_445 l_445 => ?_)) pQ_n
                              try dsimp only [Option.toList, List.cons_append, List.nil_append]
                              refine v_iload (q := 450) hC dL_ofGroups_448 rfl rfl ?_
                              refine v_if_eq (q := 458) (q2 := 453) hC dL_ofGroups_450 (by decide) rfl (fun c_450 => ?_) (fun c_450 => ?_)
                              · refine v_bipush (q := 460) (v := (-101)) hC dL_ofGroups_458 rfl (by decide) ?_
                                refine v_icmp_ne (q := 467) (q2 := 463) hC dL_ofGroups_460 (by decide) rfl (fun c_460 => ?_) (fun c_460 => ?_)
                                · exact absurd rfl c_460
                                · refine v_iconst (q := 464) (v := 1) hC dL_ofGroups_463 rfl (by decide) ?_
                                  refine v_goto (q := 468) hC dL_ofGroups_464 (by decide) ?_
                                  refine v_iret hC dL_ofGroups_468 hr (rfl) ?_ (show _ ≤ 26 by omega) (show _ ≤ 156 by omega)
                                  first | exact fQ_mk s_434 w_434 a_434 l_434 hlv hLq | exact fQ_mk s_445 w_445 a_445 l_445 hlv hLq
                              · exact absurd rfl c_450
                          · first
                            | exact absurd c_426 (by decide)
                            |
                              refine v_aload_n (i := 0) (q := 430) hC dL_ofGroups_429 rfl rfl rfl ?_
                              refine v_iload (q := 432) hC dL_ofGroups_430 rfl rfl ?_
                              refine v_iload (q := 434) hC dL_ofGroups_432 rfl rfl ?_
                              refine v_callR (q := 437) (rm := rm_L_nestOf) hC ((r_nest hl Θ z0 ht (nI g) (nI o2)).p (v2 := -101) (w2 := G.2.1 0 30) (if_neg cg) (if_neg cg)) kh_L_nestOf ml_RL_344 dL_ofGroups_434 rfl rfl rfl (Nat.le_of_ble_eq_true rfl) ⟨Nat.le_of_ble_eq_true rfl, Nat.le_of_ble_eq_true rfl⟩ (c1 := 3) (s1 := 18) rfl rfl ⟨show _ + 3 ≤ 26 by omega, show _ + 18 ≤ 156 by omega⟩ (pQ_k (fun G_434 s_434 w_434 a_434 l_434 => ?_)) pQ_n
                              try dsimp only [Option.toList, List.cons_append, List.nil_append]
                              refine v_goto (q := 448) hC dL_ofGroups_437 (by decide) ?_
                              refine v_iload (q := 450) hC dL_ofGroups_448 rfl rfl ?_
                              refine v_if_eq (q := 458) (q2 := 453) hC dL_ofGroups_450 (by decide) rfl (fun c_450 => ?_) (fun c_450 => ?_)
                              · refine v_bipush (q := 460) (v := (-101)) hC dL_ofGroups_458 rfl (by decide) ?_
                                refine v_icmp_ne (q := 467) (q2 := 463) hC dL_ofGroups_460 (by decide) rfl (fun c_460 => ?_) (fun c_460 => ?_)
                                · exact absurd rfl c_460
                                · refine v_iconst (q := 464) (v := 1) hC dL_ofGroups_463 rfl (by decide) ?_
                                  refine v_goto (q := 468) hC dL_ofGroups_464 (by decide) ?_
                                  refine v_iret hC dL_ofGroups_468 hr (rfl) ?_ (show _ ≤ 26 by omega) (show _ ≤ 156 by omega)
                                  first | exact fQ_mk s_434 w_434 a_434 l_434 hlv hLq | exact fQ_mk s_445 w_445 a_445 l_445 hlv hLq
                              · exact absurd rfl c_450
                        · exact absurd rfl c_416
                      · refine v_aload_n (i := 1) (q := 389) hC dL_ofGroups_388 rfl rfl rfl ?_
                        refine v_iload (q := 391) hC dL_ofGroups_389 rfl rfl ?_
                        refine v_callSN (q := 394) (rm := rm_L_within) hC (c_L_within hl Θ g _ hg hD.g8) k_L_within st_yL_within ml_RL_177 dL_ofGroups_391 rfl rfl rfl (Nat.le_of_ble_eq_true rfl) ⟨Nat.le_of_ble_eq_true rfl, Nat.le_of_ble_eq_true rfl⟩ (c1 := 0) (s1 := 0) rfl rfl ⟨show _ + 0 ≤ 26 by omega, show _ + 0 ≤ 156 by omega⟩ (fR_k ?_) fR_n
                        try dsimp only [Option.toList, List.cons_append, List.nil_append]
                        refine v_iload (q := 396) hC dL_ofGroups_394 rfl rfl ?_
                        refine v_callSN (q := 399) (rm := rm_L_has) hC (c_L_has hl Θ _ _ _) k_L_has st_yL_has ml_RL_172 dL_ofGroups_396 rfl rfl rfl (Nat.le_of_ble_eq_true rfl) ⟨Nat.le_of_ble_eq_true rfl, Nat.le_of_ble_eq_true rfl⟩ (c1 := 0) (s1 := 0) rfl rfl ⟨show _ + 0 ≤ 26 by omega, show _ + 0 ≤ 156 by omega⟩ (fR_k ?_) fR_n
                        try dsimp only [Option.toList, List.cons_append, List.nil_append]
                        refine v_ifb_ne (q := 406) (q2 := 402) hC dL_ofGroups_399 (by decide) rfl (fun c_399 => ?_) (fun c_399 => ?_)
                        · refine v_iconst (q := 407) (v := 0) hC dL_ofGroups_406 rfl (by decide) ?_
                          refine v_goto (q := 412) hC dL_ofGroups_407 (by decide) ?_
                          refine v_istore (q := 414) hC dL_ofGroups_412 rfl (lvc rfl) (Nat.le_of_ble_eq_true rfl) (Nat.le_of_ble_eq_true rfl) rfl ?_
                          refine v_iload (q := 416) hC dL_ofGroups_414 rfl rfl ?_
                          refine v_if_eq (q := 424) (q2 := 419) hC dL_ofGroups_416 (by decide) rfl (fun c_416 => ?_) (fun c_416 => ?_)
                          · refine v_iload (q := 426) hC dL_ofGroups_424 rfl rfl ?_
                            refine v_if_eq (q := 440) (q2 := 429) hC dL_ofGroups_426 (by decide) rfl (fun c_426 => ?_) (fun c_426 => ?_)
                            · first
                              | exact absurd c_426 (by decide)
                              |
                                refine v_aload_n (i := 0) (q := 441) hC dL_ofGroups_440 rfl rfl rfl ?_
                                refine v_iload (q := 443) hC dL_ofGroups_441 rfl rfl ?_
                                refine v_iload (q := 445) hC dL_ofGroups_443 rfl rfl ?_
                                refine v_callR (q := 448) (rm := rm_L_unnestOf) hC ((r_unnest hl Θ z0 ht (nI g) (nI o2)).p (v2 := -101) (w2 := G.2.1 0 30) (if_neg cg) (if_neg cg)) kh_L_unnestOf ml_RL_347 dL_ofGroups_445 rfl rfl rfl (Nat.le_of_ble_eq_true rfl) ⟨Nat.le_of_ble_eq_true rfl, Nat.le_of_ble_eq_true rfl⟩ (c1 := 3) (s1 := 18) rfl rfl ⟨show _ + 3 ≤ 26 by omega, show _ + 18 ≤ 156 by omega⟩ (pQ_k (fun G_445 s_445 w_445 a_445 l_445 => ?_)) pQ_n
                                try dsimp only [Option.toList, List.cons_append, List.nil_append]
                                refine v_iload (q := 450) hC dL_ofGroups_448 rfl rfl ?_
                                refine v_if_eq (q := 458) (q2 := 453) hC dL_ofGroups_450 (by decide) rfl (fun c_450 => ?_) (fun c_450 => ?_)
                                · refine v_bipush (q := 460) (v := (-101)) hC dL_ofGroups_458 rfl (by decide) ?_
                                  refine v_icmp_ne (q := 467) (q2 := 463) hC dL_ofGroups_460 (by decide) rfl (fun c_460 => ?_) (fun c_460 => ?_)
                                  · exact absurd rfl c_460
                                  · refine v_iconst (q := 464) (v := 1) hC dL_ofGroups_463 rfl (by decide) ?_
                                    refine v_goto (q := 468) hC dL_ofGroups_464 (by decide) ?_
                                    refine v_iret hC dL_ofGroups_468 hr (rfl) ?_ (show _ ≤ 26 by omega) (show _ ≤ 156 by omega)
                                    first | exact fQ_mk s_434 w_434 a_434 l_434 hlv hLq | exact fQ_mk s_445 w_445 a_445 l_445 hlv hLq
                                · exact absurd rfl c_450
                            · first
                              | exact absurd c_426 (by decide)
                              |
                                refine v_aload_n (i := 0) (q := 430) hC dL_ofGroups_429 rfl rfl rfl ?_
                                refine v_iload (q := 432) hC dL_ofGroups_430 rfl rfl ?_
                                refine v_iload (q := 434) hC dL_ofGroups_432 rfl rfl ?_
                                refine v_callR (q := 437) (rm := rm_L_nestOf) hC ((r_nest hl Θ z0 ht (nI g) (nI o2)).p (v2 := -101) (w2 := G.2.1 0 30) (if_neg cg) (if_neg cg)) kh_L_nestOf ml_RL_344 dL_ofGroups_434 rfl rfl rfl (Nat.le_of_ble_eq_true rfl) ⟨Nat.le_of_ble_eq_true rfl, Nat.le_of_ble_eq_true rfl⟩ (c1 := 3) (s1 := 18) rfl rfl ⟨show _ + 3 ≤ 26 by omega, show _ + 18 ≤ 156 by omega⟩ (pQ_k (fun G_434 s_434 w_434 a_434 l_434 => ?_)) pQ_n
                                try dsimp only [Option.toList, List.cons_append, List.nil_append]
                                refine v_goto (q := 448) hC dL_ofGroups_437 (by decide) ?_
                                refine v_iload (q := 450) hC dL_ofGroups_448 rfl rfl ?_
                                refine v_if_eq (q := 458) (q2 := 453) hC dL_ofGroups_450 (by decide) rfl (fun c_450 => ?_) (fun c_450 => ?_)
                                · refine v_bipush (q := 460) (v := (-101)) hC dL_ofGroups_458 rfl (by decide) ?_
                                  refine v_icmp_ne (q := 467) (q2 := 463) hC dL_ofGroups_460 (by decide) rfl (fun c_460 => ?_) (fun c_460 => ?_)
                                  · exact absurd rfl c_460
                                  · refine v_iconst (q := 464) (v := 1) hC dL_ofGroups_463 rfl (by decide) ?_
                                    refine v_goto (q := 468) hC dL_ofGroups_464 (by decide) ?_
                                    refine v_iret hC dL_ofGroups_468 hr (rfl) ?_ (show _ ≤ 26 by omega) (show _ ≤ 156 by omega)
                                    first | exact fQ_mk s_434 w_434 a_434 l_434 hlv hLq | exact fQ_mk s_445 w_445 a_445 l_445 hlv hLq
                                · exact absurd rfl c_450
                          · exact absurd rfl c_416
                        · refine v_iconst (q := 403) (v := 1) hC dL_ofGroups_402 rfl (by decide) ?_
                          refine v_goto (q := 412) hC dL_ofGroups_403 (by decide) ?_
                          refine v_istore (q := 414) hC dL_ofGroups_412 rfl (lvc rfl) (Nat.le_of_ble_eq_true rfl) (Nat.le_of_ble_eq_true rfl) rfl ?_
                          refine v_iload (q := 416) hC dL_ofGroups_414 rfl rfl ?_
                          refine v_if_eq (q := 424) (q2 := 419) hC dL_ofGroups_416 (by decide) rfl (fun c_416 => ?_) (fun c_416 => ?_)
                          · refine v_iload (q := 426) hC dL_ofGroups_424 rfl rfl ?_
                            refine v_if_eq (q := 440) (q2 := 429) hC dL_ofGroups_426 (by decide) rfl (fun c_426 => ?_) (fun c_426 => ?_)
                            · first
                              | exact absurd c_426 (by decide)
                              |
                                refine v_aload_n (i := 0) (q := 441) hC dL_ofGroups_440 rfl rfl rfl ?_
                                refine v_iload (q := 443) hC dL_ofGroups_441 rfl rfl ?_
                                refine v_iload (q := 445) hC dL_ofGroups_443 rfl rfl ?_
                                refine v_callR (q := 448) (rm := rm_L_unnestOf) hC ((r_unnest hl Θ z0 ht (nI g) (nI o2)).p (v2 := -101) (w2 := G.2.1 0 30) (if_neg cg) (if_neg cg)) kh_L_unnestOf ml_RL_347 dL_ofGroups_445 rfl rfl rfl (Nat.le_of_ble_eq_true rfl) ⟨Nat.le_of_ble_eq_true rfl, Nat.le_of_ble_eq_true rfl⟩ (c1 := 3) (s1 := 18) rfl rfl ⟨show _ + 3 ≤ 26 by omega, show _ + 18 ≤ 156 by omega⟩ (pQ_k (fun G_445 s_445 w_445 a_445 l_445 => ?_)) pQ_n
                                try dsimp only [Option.toList, List.cons_append, List.nil_append]
                                refine v_iload (q := 450) hC dL_ofGroups_448 rfl rfl ?_
                                refine v_if_eq (q := 458) (q2 := 453) hC dL_ofGroups_450 (by decide) rfl (fun c_450 => ?_) (fun c_450 => ?_)
                                · refine v_bipush (q := 460) (v := (-101)) hC dL_ofGroups_458 rfl (by decide) ?_
                                  refine v_icmp_ne (q := 467) (q2 := 463) hC dL_ofGroups_460 (by decide) rfl (fun c_460 => ?_) (fun c_460 => ?_)
                                  · exact absurd rfl c_460
                                  · refine v_iconst (q := 464) (v := 1) hC dL_ofGroups_463 rfl (by decide) ?_
                                    refine v_goto (q := 468) hC dL_ofGroups_464 (by decide) ?_
                                    refine v_iret hC dL_ofGroups_468 hr (rfl) ?_ (show _ ≤ 26 by omega) (show _ ≤ 156 by omega)
                                    first | exact fQ_mk s_434 w_434 a_434 l_434 hlv hLq | exact fQ_mk s_445 w_445 a_445 l_445 hlv hLq
                                · exact absurd rfl c_450
                            · first
                              | exact absurd c_426 (by decide)
                              |
                                refine v_aload_n (i := 0) (q := 430) hC dL_ofGroups_429 rfl rfl rfl ?_
                                refine v_iload (q := 432) hC dL_ofGroups_430 rfl rfl ?_
                                refine v_iload (q := 434) hC dL_ofGroups_432 rfl rfl ?_
                                refine v_callR (q := 437) (rm := rm_L_nestOf) hC ((r_nest hl Θ z0 ht (nI g) (nI o2)).p (v2 := -101) (w2 := G.2.1 0 30) (if_neg cg) (if_neg cg)) kh_L_nestOf ml_RL_344 dL_ofGroups_434 rfl rfl rfl (Nat.le_of_ble_eq_true rfl) ⟨Nat.le_of_ble_eq_true rfl, Nat.le_of_ble_eq_true rfl⟩ (c1 := 3) (s1 := 18) rfl rfl ⟨show _ + 3 ≤ 26 by omega, show _ + 18 ≤ 156 by omega⟩ (pQ_k (fun G_434 s_434 w_434 a_434 l_434 => ?_)) pQ_n
                                try dsimp only [Option.toList, List.cons_append, List.nil_append]
                                refine v_goto (q := 448) hC dL_ofGroups_437 (by decide) ?_
                                refine v_iload (q := 450) hC dL_ofGroups_448 rfl rfl ?_
                                refine v_if_eq (q := 458) (q2 := 453) hC dL_ofGroups_450 (by decide) rfl (fun c_450 => ?_) (fun c_450 => ?_)
                                · refine v_bipush (q := 460) (v := (-101)) hC dL_ofGroups_458 rfl (by decide) ?_
                                  refine v_icmp_ne (q := 467) (q2 := 463) hC dL_ofGroups_460 (by decide) rfl (fun c_460 => ?_) (fun c_460 => ?_)
                                  · exact absurd rfl c_460
                                  · refine v_iconst (q := 464) (v := 1) hC dL_ofGroups_463 rfl (by decide) ?_
                                    refine v_goto (q := 468) hC dL_ofGroups_464 (by decide) ?_
                                    refine v_iret hC dL_ofGroups_468 hr (rfl) ?_ (show _ ≤ 26 by omega) (show _ ≤ 156 by omega)
                                    first | exact fQ_mk s_434 w_434 a_434 l_434 hlv hLq | exact fQ_mk s_445 w_445 a_445 l_445 hlv hLq
                                · exact absurd rfl c_450
                          · exact absurd rfl c_416
              · refine v_iload (q := 338) hC dL_ofGroups_336 rfl rfl ?_
                refine v_aload_n (i := 2) (q := 339) hC dL_ofGroups_338 rfl rfl rfl ?_
                refine v_iconst (q := 340) (v := 1) hC dL_ofGroups_339 rfl (by decide) ?_
                refine v_ialdV (q := 341) hC dL_ofGroups_340 rfl rfl rfl (i := 1) (rfl) (by first | decide | omega) (by decide) (e1) ?_
                refine v_icmp_ge (q := 348) (q2 := 344) hC dL_ofGroups_341 (by decide) rfl (fun c_341 => ?_) (fun c_341 => ?_)
                · refine v_iconst (q := 349) (v := 0) hC dL_ofGroups_348 rfl (by decide) ?_
                  refine v_istore (q := 351) hC dL_ofGroups_349 rfl (lvc rfl) (Nat.le_of_ble_eq_true rfl) (Nat.le_of_ble_eq_true rfl) rfl ?_
                  refine v_aload_n (i := 1) (q := 352) hC dL_ofGroups_351 rfl rfl rfl ?_
                  refine v_bipush (q := 354) (v := 8) hC dL_ofGroups_352 rfl (by decide) ?_
                  refine v_iload (q := 356) hC dL_ofGroups_354 rfl rfl ?_
                  refine v_iadd (q := 357) hC dL_ofGroups_356 rfl ?_
                  refine v_ialdV (q := 358) hC dL_ofGroups_357 rfl rfl rfl (i := 8 + o2) (nI_add 8 o2) (by first | decide | omega) (by decide) (rfl) ?_
                  refine v_iload (q := 360) hC dL_ofGroups_358 rfl rfl ?_
                  refine v_callSN (q := 363) (rm := rm_L_has) hC (c_L_has hl Θ _ _ _) k_L_has st_yL_has ml_RL_172 dL_ofGroups_360 rfl rfl rfl (Nat.le_of_ble_eq_true rfl) ⟨Nat.le_of_ble_eq_true rfl, Nat.le_of_ble_eq_true rfl⟩ (c1 := 0) (s1 := 0) rfl rfl ⟨show _ + 0 ≤ 26 by omega, show _ + 0 ≤ 156 by omega⟩ (fR_k ?_) fR_n
                  try dsimp only [Option.toList, List.cons_append, List.nil_append]
                  refine v_istore (q := 365) hC dL_ofGroups_363 rfl (lvc rfl) (Nat.le_of_ble_eq_true rfl) (Nat.le_of_ble_eq_true rfl) rfl ?_
                  refine v_iload_n (i := 3) (q := 366) hC dL_ofGroups_365 rfl rfl rfl ?_
                  refine v_bipush (q := 368) (v := 7) hC dL_ofGroups_366 rfl (by decide) ?_
                  refine v_icmp_ge (q := 375) (q2 := 371) hC dL_ofGroups_368 (by decide) rfl (fun c_368 => ?_) (fun c_368 => ?_)
                  · refine v_iconst (q := 376) (v := 0) hC dL_ofGroups_375 rfl (by decide) ?_
                    refine v_istore (q := 378) hC dL_ofGroups_376 rfl (lvc rfl) (Nat.le_of_ble_eq_true rfl) (Nat.le_of_ble_eq_true rfl) rfl ?_
                    refine v_iload (q := 380) hC dL_ofGroups_378 rfl rfl ?_
                    refine v_if_eq (q := 410) (q2 := 383) hC dL_ofGroups_380 (by decide) rfl (fun c_380 => ?_) (fun c_380 => ?_)
                    · first
                      | exact absurd c_380 (by decide)
                      |
                        refine v_iload (q := 412) hC dL_ofGroups_410 rfl rfl ?_
                        refine v_istore (q := 414) hC dL_ofGroups_412 rfl (lvc rfl) (Nat.le_of_ble_eq_true rfl) (Nat.le_of_ble_eq_true rfl) rfl ?_
                        refine v_iload (q := 416) hC dL_ofGroups_414 rfl rfl ?_
                        refine v_if_eq (q := 424) (q2 := 419) hC dL_ofGroups_416 (by decide) rfl (fun c_416 => ?_) (fun c_416 => ?_)
                        · refine v_iload (q := 426) hC dL_ofGroups_424 rfl rfl ?_
                          refine v_if_eq (q := 440) (q2 := 429) hC dL_ofGroups_426 (by decide) rfl (fun c_426 => ?_) (fun c_426 => ?_)
                          · first
                            | exact absurd c_426 (by decide)
                            |
                              refine v_aload_n (i := 0) (q := 441) hC dL_ofGroups_440 rfl rfl rfl ?_
                              refine v_iload (q := 443) hC dL_ofGroups_441 rfl rfl ?_
                              refine v_iload (q := 445) hC dL_ofGroups_443 rfl rfl ?_
                              refine v_callR (q := 448) (rm := rm_L_unnestOf) hC ((r_unnest hl Θ z0 ht (nI g) (nI o2)).p (v2 := -101) (w2 := G.2.1 0 30) (if_neg cg) (if_neg cg)) kh_L_unnestOf ml_RL_347 dL_ofGroups_445 rfl rfl rfl (Nat.le_of_ble_eq_true rfl) ⟨Nat.le_of_ble_eq_true rfl, Nat.le_of_ble_eq_true rfl⟩ (c1 := 3) (s1 := 18) rfl rfl ⟨show _ + 3 ≤ 26 by omega, show _ + 18 ≤ 156 by omega⟩ (pQ_k (fun G_445 s_445 w_445 a_445 l_445 => ?_)) pQ_n
                              try dsimp only [Option.toList, List.cons_append, List.nil_append]
                              refine v_iload (q := 450) hC dL_ofGroups_448 rfl rfl ?_
                              refine v_if_eq (q := 458) (q2 := 453) hC dL_ofGroups_450 (by decide) rfl (fun c_450 => ?_) (fun c_450 => ?_)
                              · refine v_bipush (q := 460) (v := (-101)) hC dL_ofGroups_458 rfl (by decide) ?_
                                refine v_icmp_ne (q := 467) (q2 := 463) hC dL_ofGroups_460 (by decide) rfl (fun c_460 => ?_) (fun c_460 => ?_)
                                · exact absurd rfl c_460
                                · refine v_iconst (q := 464) (v := 1) hC dL_ofGroups_463 rfl (by decide) ?_
                                  refine v_goto (q := 468) hC dL_ofGroups_464 (by decide) ?_
                                  refine v_iret hC dL_ofGroups_468 hr (rfl) ?_ (show _ ≤ 26 by omega) (show _ ≤ 156 by omega)
                                  first | exact fQ_mk s_434 w_434 a_434 l_434 hlv hLq | exact fQ_mk s_445 w_445 a_445 l_445 hlv hLq
                              · exact absurd rfl c_450
                          · first
                            | exact absurd c_426 (by decide)
                            |
                              refine v_aload_n (i := 0) (q := 430) hC dL_ofGroups_429 rfl rfl rfl ?_
                              refine v_iload (q := 432) hC dL_ofGroups_430 rfl rfl ?_
                              refine v_iload (q := 434) hC dL_ofGroups_432 rfl rfl ?_
                              refine v_callR (q := 437) (rm := rm_L_nestOf) hC ((r_nest hl Θ z0 ht (nI g) (nI o2)).p (v2 := -101) (w2 := G.2.1 0 30) (if_neg cg) (if_neg cg)) kh_L_nestOf ml_RL_344 dL_ofGroups_434 rfl rfl rfl (Nat.le_of_ble_eq_true rfl) ⟨Nat.le_of_ble_eq_true rfl, Nat.le_of_ble_eq_true rfl⟩ (c1 := 3) (s1 := 18) rfl rfl ⟨show _ + 3 ≤ 26 by omega, show _ + 18 ≤ 156 by omega⟩ (pQ_k (fun G_434 s_434 w_434 a_434 l_434 => ?_)) pQ_n
                              try dsimp only [Option.toList, List.cons_append, List.nil_append]
                              refine v_goto (q := 448) hC dL_ofGroups_437 (by decide) ?_
                              refine v_iload (q := 450) hC dL_ofGroups_448 rfl rfl ?_
                              refine v_if_eq (q := 458) (q2 := 453) hC dL_ofGroups_450 (by decide) rfl (fun c_450 => ?_) (fun c_450 => ?_)
                              · refine v_bipush (q := 460) (v := (-101)) hC dL_ofGroups_458 rfl (by decide) ?_
                                refine v_icmp_ne (q := 467) (q2 := 463) hC dL_ofGroups_460 (by decide) rfl (fun c_460 => ?_) (fun c_460 => ?_)
                                · exact absurd rfl c_460
                                · refine v_iconst (q := 464) (v := 1) hC dL_ofGroups_463 rfl (by decide) ?_
                                  refine v_goto (q := 468) hC dL_ofGroups_464 (by decide) ?_
                                  refine v_iret hC dL_ofGroups_468 hr (rfl) ?_ (show _ ≤ 26 by omega) (show _ ≤ 156 by omega)
                                  first | exact fQ_mk s_434 w_434 a_434 l_434 hlv hLq | exact fQ_mk s_445 w_445 a_445 l_445 hlv hLq
                              · exact absurd rfl c_450
                        · exact absurd rfl c_416
                    · first
                      | exact absurd c_380 (by decide)
                      |
                        refine v_iload (q := 385) hC dL_ofGroups_383 rfl rfl ?_
                        refine v_if_ne (q := 406) (q2 := 388) hC dL_ofGroups_385 (by decide) rfl (fun c_385 => ?_) (fun c_385 => ?_)
                        · refine v_iconst (q := 407) (v := 0) hC dL_ofGroups_406 rfl (by decide) ?_
                          refine v_goto (q := 412) hC dL_ofGroups_407 (by decide) ?_
                          refine v_istore (q := 414) hC dL_ofGroups_412 rfl (lvc rfl) (Nat.le_of_ble_eq_true rfl) (Nat.le_of_ble_eq_true rfl) rfl ?_
                          refine v_iload (q := 416) hC dL_ofGroups_414 rfl rfl ?_
                          refine v_if_eq (q := 424) (q2 := 419) hC dL_ofGroups_416 (by decide) rfl (fun c_416 => ?_) (fun c_416 => ?_)
                          · refine v_iload (q := 426) hC dL_ofGroups_424 rfl rfl ?_
                            refine v_if_eq (q := 440) (q2 := 429) hC dL_ofGroups_426 (by decide) rfl (fun c_426 => ?_) (fun c_426 => ?_)
                            · first
                              | exact absurd c_426 (by decide)
                              |
                                refine v_aload_n (i := 0) (q := 441) hC dL_ofGroups_440 rfl rfl rfl ?_
                                refine v_iload (q := 443) hC dL_ofGroups_441 rfl rfl ?_
                                refine v_iload (q := 445) hC dL_ofGroups_443 rfl rfl ?_
                                refine v_callR (q := 448) (rm := rm_L_unnestOf) hC ((r_unnest hl Θ z0 ht (nI g) (nI o2)).p (v2 := -101) (w2 := G.2.1 0 30) (if_neg cg) (if_neg cg)) kh_L_unnestOf ml_RL_347 dL_ofGroups_445 rfl rfl rfl (Nat.le_of_ble_eq_true rfl) ⟨Nat.le_of_ble_eq_true rfl, Nat.le_of_ble_eq_true rfl⟩ (c1 := 3) (s1 := 18) rfl rfl ⟨show _ + 3 ≤ 26 by omega, show _ + 18 ≤ 156 by omega⟩ (pQ_k (fun G_445 s_445 w_445 a_445 l_445 => ?_)) pQ_n
                                try dsimp only [Option.toList, List.cons_append, List.nil_append]
                                refine v_iload (q := 450) hC dL_ofGroups_448 rfl rfl ?_
                                refine v_if_eq (q := 458) (q2 := 453) hC dL_ofGroups_450 (by decide) rfl (fun c_450 => ?_) (fun c_450 => ?_)
                                · refine v_bipush (q := 460) (v := (-101)) hC dL_ofGroups_458 rfl (by decide) ?_
                                  refine v_icmp_ne (q := 467) (q2 := 463) hC dL_ofGroups_460 (by decide) rfl (fun c_460 => ?_) (fun c_460 => ?_)
                                  · exact absurd rfl c_460
                                  · refine v_iconst (q := 464) (v := 1) hC dL_ofGroups_463 rfl (by decide) ?_
                                    refine v_goto (q := 468) hC dL_ofGroups_464 (by decide) ?_
                                    refine v_iret hC dL_ofGroups_468 hr (rfl) ?_ (show _ ≤ 26 by omega) (show _ ≤ 156 by omega)
                                    first | exact fQ_mk s_434 w_434 a_434 l_434 hlv hLq | exact fQ_mk s_445 w_445 a_445 l_445 hlv hLq
                                · exact absurd rfl c_450
                            · first
                              | exact absurd c_426 (by decide)
                              |
                                refine v_aload_n (i := 0) (q := 430) hC dL_ofGroups_429 rfl rfl rfl ?_
                                refine v_iload (q := 432) hC dL_ofGroups_430 rfl rfl ?_
                                refine v_iload (q := 434) hC dL_ofGroups_432 rfl rfl ?_
                                refine v_callR (q := 437) (rm := rm_L_nestOf) hC ((r_nest hl Θ z0 ht (nI g) (nI o2)).p (v2 := -101) (w2 := G.2.1 0 30) (if_neg cg) (if_neg cg)) kh_L_nestOf ml_RL_344 dL_ofGroups_434 rfl rfl rfl (Nat.le_of_ble_eq_true rfl) ⟨Nat.le_of_ble_eq_true rfl, Nat.le_of_ble_eq_true rfl⟩ (c1 := 3) (s1 := 18) rfl rfl ⟨show _ + 3 ≤ 26 by omega, show _ + 18 ≤ 156 by omega⟩ (pQ_k (fun G_434 s_434 w_434 a_434 l_434 => ?_)) pQ_n
                                try dsimp only [Option.toList, List.cons_append, List.nil_append]
                                refine v_goto (q := 448) hC dL_ofGroups_437 (by decide) ?_
                                refine v_iload (q := 450) hC dL_ofGroups_448 rfl rfl ?_
                                refine v_if_eq (q := 458) (q2 := 453) hC dL_ofGroups_450 (by decide) rfl (fun c_450 => ?_) (fun c_450 => ?_)
                                · refine v_bipush (q := 460) (v := (-101)) hC dL_ofGroups_458 rfl (by decide) ?_
                                  refine v_icmp_ne (q := 467) (q2 := 463) hC dL_ofGroups_460 (by decide) rfl (fun c_460 => ?_) (fun c_460 => ?_)
                                  · exact absurd rfl c_460
                                  · refine v_iconst (q := 464) (v := 1) hC dL_ofGroups_463 rfl (by decide) ?_
                                    refine v_goto (q := 468) hC dL_ofGroups_464 (by decide) ?_
                                    refine v_iret hC dL_ofGroups_468 hr (rfl) ?_ (show _ ≤ 26 by omega) (show _ ≤ 156 by omega)
                                    first | exact fQ_mk s_434 w_434 a_434 l_434 hlv hLq | exact fQ_mk s_445 w_445 a_445 l_445 hlv hLq
                                · exact absurd rfl c_450
                          · exact absurd rfl c_416
                        · refine v_aload_n (i := 1) (q := 389) hC dL_ofGroups_388 rfl rfl rfl ?_
                          refine v_iload (q := 391) hC dL_ofGroups_389 rfl rfl ?_
                          refine v_callSN (q := 394) (rm := rm_L_within) hC (c_L_within hl Θ g _ hg hD.g8) k_L_within st_yL_within ml_RL_177 dL_ofGroups_391 rfl rfl rfl (Nat.le_of_ble_eq_true rfl) ⟨Nat.le_of_ble_eq_true rfl, Nat.le_of_ble_eq_true rfl⟩ (c1 := 0) (s1 := 0) rfl rfl ⟨show _ + 0 ≤ 26 by omega, show _ + 0 ≤ 156 by omega⟩ (fR_k ?_) fR_n
                          try dsimp only [Option.toList, List.cons_append, List.nil_append]
                          refine v_iload (q := 396) hC dL_ofGroups_394 rfl rfl ?_
                          refine v_callSN (q := 399) (rm := rm_L_has) hC (c_L_has hl Θ _ _ _) k_L_has st_yL_has ml_RL_172 dL_ofGroups_396 rfl rfl rfl (Nat.le_of_ble_eq_true rfl) ⟨Nat.le_of_ble_eq_true rfl, Nat.le_of_ble_eq_true rfl⟩ (c1 := 0) (s1 := 0) rfl rfl ⟨show _ + 0 ≤ 26 by omega, show _ + 0 ≤ 156 by omega⟩ (fR_k ?_) fR_n
                          try dsimp only [Option.toList, List.cons_append, List.nil_append]
                          refine v_ifb_ne (q := 406) (q2 := 402) hC dL_ofGroups_399 (by decide) rfl (fun c_399 => ?_) (fun c_399 => ?_)
                          · refine v_iconst (q := 407) (v := 0) hC dL_ofGroups_406 rfl (by decide) ?_
                            refine v_goto (q := 412) hC dL_ofGroups_407 (by decide) ?_
                            refine v_istore (q := 414) hC dL_ofGroups_412 rfl (lvc rfl) (Nat.le_of_ble_eq_true rfl) (Nat.le_of_ble_eq_true rfl) rfl ?_
                            refine v_iload (q := 416) hC dL_ofGroups_414 rfl rfl ?_
                            refine v_if_eq (q := 424) (q2 := 419) hC dL_ofGroups_416 (by decide) rfl (fun c_416 => ?_) (fun c_416 => ?_)
                            · refine v_iload (q := 426) hC dL_ofGroups_424 rfl rfl ?_
                              refine v_if_eq (q := 440) (q2 := 429) hC dL_ofGroups_426 (by decide) rfl (fun c_426 => ?_) (fun c_426 => ?_)
                              · first
                                | exact absurd c_426 (by decide)
                                |
                                  refine v_aload_n (i := 0) (q := 441) hC dL_ofGroups_440 rfl rfl rfl ?_
                                  refine v_iload (q := 443) hC dL_ofGroups_441 rfl rfl ?_
                                  refine v_iload (q := 445) hC dL_ofGroups_443 rfl rfl ?_
                                  refine v_callR (q := 448) (rm := rm_L_unnestOf) hC ((r_unnest hl Θ z0 ht (nI g) (nI o2)).p (v2 := -101) (w2 := G.2.1 0 30) (if_neg cg) (if_neg cg)) kh_L_unnestOf ml_RL_347 dL_ofGroups_445 rfl rfl rfl (Nat.le_of_ble_eq_true rfl) ⟨Nat.le_of_ble_eq_true rfl, Nat.le_of_ble_eq_true rfl⟩ (c1 := 3) (s1 := 18) rfl rfl ⟨show _ + 3 ≤ 26 by omega, show _ + 18 ≤ 156 by omega⟩ (pQ_k (fun G_445 s_445 w_445 a_445 l_445 => ?_)) pQ_n
                                  try dsimp only [Option.toList, List.cons_append, List.nil_append]
                                  refine v_iload (q := 450) hC dL_ofGroups_448 rfl rfl ?_
                                  refine v_if_eq (q := 458) (q2 := 453) hC dL_ofGroups_450 (by decide) rfl (fun c_450 => ?_) (fun c_450 => ?_)
                                  · refine v_bipush (q := 460) (v := (-101)) hC dL_ofGroups_458 rfl (by decide) ?_
                                    refine v_icmp_ne (q := 467) (q2 := 463) hC dL_ofGroups_460 (by decide) rfl (fun c_460 => ?_) (fun c_460 => ?_)
                                    · exact absurd rfl c_460
                                    · refine v_iconst (q := 464) (v := 1) hC dL_ofGroups_463 rfl (by decide) ?_
                                      refine v_goto (q := 468) hC dL_ofGroups_464 (by decide) ?_
                                      refine v_iret hC dL_ofGroups_468 hr (rfl) ?_ (show _ ≤ 26 by omega) (show _ ≤ 156 by omega)
                                      first | exact fQ_mk s_434 w_434 a_434 l_434 hlv hLq | exact fQ_mk s_445 w_445 a_445 l_445 hlv hLq
                                  · exact absurd rfl c_450
                              · first
                                | exact absurd c_426 (by decide)
                                |
                                  refine v_aload_n (i := 0) (q := 430) hC dL_ofGroups_429 rfl rfl rfl ?_
                                  refine v_iload (q := 432) hC dL_ofGroups_430 rfl rfl ?_
                                  refine v_iload (q := 434) hC dL_ofGroups_432 rfl rfl ?_
                                  refine v_callR (q := 437) (rm := rm_L_nestOf) hC ((r_nest hl Θ z0 ht (nI g) (nI o2)).p (v2 := -101) (w2 := G.2.1 0 30) (if_neg cg) (if_neg cg)) kh_L_nestOf ml_RL_344 dL_ofGroups_434 rfl rfl rfl (Nat.le_of_ble_eq_true rfl) ⟨Nat.le_of_ble_eq_true rfl, Nat.le_of_ble_eq_true rfl⟩ (c1 := 3) (s1 := 18) rfl rfl ⟨show _ + 3 ≤ 26 by omega, show _ + 18 ≤ 156 by omega⟩ (pQ_k (fun G_434 s_434 w_434 a_434 l_434 => ?_)) pQ_n
                                  try dsimp only [Option.toList, List.cons_append, List.nil_append]
                                  refine v_goto (q := 448) hC dL_ofGroups_437 (by decide) ?_
                                  refine v_iload (q := 450) hC dL_ofGroups_448 rfl rfl ?_
                                  refine v_if_eq (q := 458) (q2 := 453) hC dL_ofGroups_450 (by decide) rfl (fun c_450 => ?_) (fun c_450 => ?_)
                                  · refine v_bipush (q := 460) (v := (-101)) hC dL_ofGroups_458 rfl (by decide) ?_
                                    refine v_icmp_ne (q := 467) (q2 := 463) hC dL_ofGroups_460 (by decide) rfl (fun c_460 => ?_) (fun c_460 => ?_)
                                    · exact absurd rfl c_460
                                    · refine v_iconst (q := 464) (v := 1) hC dL_ofGroups_463 rfl (by decide) ?_
                                      refine v_goto (q := 468) hC dL_ofGroups_464 (by decide) ?_
                                      refine v_iret hC dL_ofGroups_468 hr (rfl) ?_ (show _ ≤ 26 by omega) (show _ ≤ 156 by omega)
                                      first | exact fQ_mk s_434 w_434 a_434 l_434 hlv hLq | exact fQ_mk s_445 w_445 a_445 l_445 hlv hLq
                                  · exact absurd rfl c_450
                            · exact absurd rfl c_416
                          · refine v_iconst (q := 403) (v := 1) hC dL_ofGroups_402 rfl (by decide) ?_
                            refine v_goto (q := 412) hC dL_ofGroups_403 (by decide) ?_
                            refine v_istore (q := 414) hC dL_ofGroups_412 rfl (lvc rfl) (Nat.le_of_ble_eq_true rfl) (Nat.le_of_ble_eq_true rfl) rfl ?_
                            refine v_iload (q := 416) hC dL_ofGroups_414 rfl rfl ?_
                            refine v_if_eq (q := 424) (q2 := 419) hC dL_ofGroups_416 (by decide) rfl (fun c_416 => ?_) (fun c_416 => ?_)
                            · refine v_iload (q := 426) hC dL_ofGroups_424 rfl rfl ?_
                              refine v_if_eq (q := 440) (q2 := 429) hC dL_ofGroups_426 (by decide) rfl (fun c_426 => ?_) (fun c_426 => ?_)
                              · first
                                | exact absurd c_426 (by decide)
                                |
                                  refine v_aload_n (i := 0) (q := 441) hC dL_ofGroups_440 rfl rfl rfl ?_
                                  refine v_iload (q := 443) hC dL_ofGroups_441 rfl rfl ?_
                                  refine v_iload (q := 445) hC dL_ofGroups_443 rfl rfl ?_
                                  refine v_callR (q := 448) (rm := rm_L_unnestOf) hC ((r_unnest hl Θ z0 ht (nI g) (nI o2)).p (v2 := -101) (w2 := G.2.1 0 30) (if_neg cg) (if_neg cg)) kh_L_unnestOf ml_RL_347 dL_ofGroups_445 rfl rfl rfl (Nat.le_of_ble_eq_true rfl) ⟨Nat.le_of_ble_eq_true rfl, Nat.le_of_ble_eq_true rfl⟩ (c1 := 3) (s1 := 18) rfl rfl ⟨show _ + 3 ≤ 26 by omega, show _ + 18 ≤ 156 by omega⟩ (pQ_k (fun G_445 s_445 w_445 a_445 l_445 => ?_)) pQ_n
                                  try dsimp only [Option.toList, List.cons_append, List.nil_append]
                                  refine v_iload (q := 450) hC dL_ofGroups_448 rfl rfl ?_
                                  refine v_if_eq (q := 458) (q2 := 453) hC dL_ofGroups_450 (by decide) rfl (fun c_450 => ?_) (fun c_450 => ?_)
                                  · refine v_bipush (q := 460) (v := (-101)) hC dL_ofGroups_458 rfl (by decide) ?_
                                    refine v_icmp_ne (q := 467) (q2 := 463) hC dL_ofGroups_460 (by decide) rfl (fun c_460 => ?_) (fun c_460 => ?_)
                                    · exact absurd rfl c_460
                                    · refine v_iconst (q := 464) (v := 1) hC dL_ofGroups_463 rfl (by decide) ?_
                                      refine v_goto (q := 468) hC dL_ofGroups_464 (by decide) ?_
                                      refine v_iret hC dL_ofGroups_468 hr (rfl) ?_ (show _ ≤ 26 by omega) (show _ ≤ 156 by omega)
                                      first | exact fQ_mk s_434 w_434 a_434 l_434 hlv hLq | exact fQ_mk s_445 w_445 a_445 l_445 hlv hLq
                                  · exact absurd rfl c_450
                              · first
                                | exact absurd c_426 (by decide)
                                |
                                  refine v_aload_n (i := 0) (q := 430) hC dL_ofGroups_429 rfl rfl rfl ?_
                                  refine v_iload (q := 432) hC dL_ofGroups_430 rfl rfl ?_
                                  refine v_iload (q := 434) hC dL_ofGroups_432 rfl rfl ?_
                                  refine v_callR (q := 437) (rm := rm_L_nestOf) hC ((r_nest hl Θ z0 ht (nI g) (nI o2)).p (v2 := -101) (w2 := G.2.1 0 30) (if_neg cg) (if_neg cg)) kh_L_nestOf ml_RL_344 dL_ofGroups_434 rfl rfl rfl (Nat.le_of_ble_eq_true rfl) ⟨Nat.le_of_ble_eq_true rfl, Nat.le_of_ble_eq_true rfl⟩ (c1 := 3) (s1 := 18) rfl rfl ⟨show _ + 3 ≤ 26 by omega, show _ + 18 ≤ 156 by omega⟩ (pQ_k (fun G_434 s_434 w_434 a_434 l_434 => ?_)) pQ_n
                                  try dsimp only [Option.toList, List.cons_append, List.nil_append]
                                  refine v_goto (q := 448) hC dL_ofGroups_437 (by decide) ?_
                                  refine v_iload (q := 450) hC dL_ofGroups_448 rfl rfl ?_
                                  refine v_if_eq (q := 458) (q2 := 453) hC dL_ofGroups_450 (by decide) rfl (fun c_450 => ?_) (fun c_450 => ?_)
                                  · refine v_bipush (q := 460) (v := (-101)) hC dL_ofGroups_458 rfl (by decide) ?_
                                    refine v_icmp_ne (q := 467) (q2 := 463) hC dL_ofGroups_460 (by decide) rfl (fun c_460 => ?_) (fun c_460 => ?_)
                                    · exact absurd rfl c_460
                                    · refine v_iconst (q := 464) (v := 1) hC dL_ofGroups_463 rfl (by decide) ?_
                                      refine v_goto (q := 468) hC dL_ofGroups_464 (by decide) ?_
                                      refine v_iret hC dL_ofGroups_468 hr (rfl) ?_ (show _ ≤ 26 by omega) (show _ ≤ 156 by omega)
                                      first | exact fQ_mk s_434 w_434 a_434 l_434 hlv hLq | exact fQ_mk s_445 w_445 a_445 l_445 hlv hLq
                                  · exact absurd rfl c_450
                            · exact absurd rfl c_416
                  · refine v_iconst (q := 372) (v := 1) hC dL_ofGroups_371 rfl (by decide) ?_
                    refine v_goto (q := 376) hC dL_ofGroups_372 (by decide) ?_
                    refine v_istore (q := 378) hC dL_ofGroups_376 rfl (lvc rfl) (Nat.le_of_ble_eq_true rfl) (Nat.le_of_ble_eq_true rfl) rfl ?_
                    refine v_iload (q := 380) hC dL_ofGroups_378 rfl rfl ?_
                    refine v_if_eq (q := 410) (q2 := 383) hC dL_ofGroups_380 (by decide) rfl (fun c_380 => ?_) (fun c_380 => ?_)
                    · first
                      | exact absurd c_380 (by decide)
                      |
                        refine v_iload (q := 412) hC dL_ofGroups_410 rfl rfl ?_
                        refine v_istore (q := 414) hC dL_ofGroups_412 rfl (lvc rfl) (Nat.le_of_ble_eq_true rfl) (Nat.le_of_ble_eq_true rfl) rfl ?_
                        refine v_iload (q := 416) hC dL_ofGroups_414 rfl rfl ?_
                        refine v_if_eq (q := 424) (q2 := 419) hC dL_ofGroups_416 (by decide) rfl (fun c_416 => ?_) (fun c_416 => ?_)
                        · refine v_iload (q := 426) hC dL_ofGroups_424 rfl rfl ?_
                          refine v_if_eq (q := 440) (q2 := 429) hC dL_ofGroups_426 (by decide) rfl (fun c_426 => ?_) (fun c_426 => ?_)
                          · first
                            | exact absurd c_426 (by decide)
                            |
                              refine v_aload_n (i := 0) (q := 441) hC dL_ofGroups_440 rfl rfl rfl ?_
                              refine v_iload (q := 443) hC dL_ofGroups_441 rfl rfl ?_
                              refine v_iload (q := 445) hC dL_ofGroups_443 rfl rfl ?_
                              refine v_callR (q := 448) (rm := rm_L_unnestOf) hC ((r_unnest hl Θ z0 ht (nI g) (nI o2)).p (v2 := -101) (w2 := G.2.1 0 30) (if_neg cg) (if_neg cg)) kh_L_unnestOf ml_RL_347 dL_ofGroups_445 rfl rfl rfl (Nat.le_of_ble_eq_true rfl) ⟨Nat.le_of_ble_eq_true rfl, Nat.le_of_ble_eq_true rfl⟩ (c1 := 3) (s1 := 18) rfl rfl ⟨show _ + 3 ≤ 26 by omega, show _ + 18 ≤ 156 by omega⟩ (pQ_k (fun G_445 s_445 w_445 a_445 l_445 => ?_)) pQ_n
                              try dsimp only [Option.toList, List.cons_append, List.nil_append]
                              refine v_iload (q := 450) hC dL_ofGroups_448 rfl rfl ?_
                              refine v_if_eq (q := 458) (q2 := 453) hC dL_ofGroups_450 (by decide) rfl (fun c_450 => ?_) (fun c_450 => ?_)
                              · refine v_bipush (q := 460) (v := (-101)) hC dL_ofGroups_458 rfl (by decide) ?_
                                refine v_icmp_ne (q := 467) (q2 := 463) hC dL_ofGroups_460 (by decide) rfl (fun c_460 => ?_) (fun c_460 => ?_)
                                · exact absurd rfl c_460
                                · refine v_iconst (q := 464) (v := 1) hC dL_ofGroups_463 rfl (by decide) ?_
                                  refine v_goto (q := 468) hC dL_ofGroups_464 (by decide) ?_
                                  refine v_iret hC dL_ofGroups_468 hr (rfl) ?_ (show _ ≤ 26 by omega) (show _ ≤ 156 by omega)
                                  first | exact fQ_mk s_434 w_434 a_434 l_434 hlv hLq | exact fQ_mk s_445 w_445 a_445 l_445 hlv hLq
                              · exact absurd rfl c_450
                          · first
                            | exact absurd c_426 (by decide)
                            |
                              refine v_aload_n (i := 0) (q := 430) hC dL_ofGroups_429 rfl rfl rfl ?_
                              refine v_iload (q := 432) hC dL_ofGroups_430 rfl rfl ?_
                              refine v_iload (q := 434) hC dL_ofGroups_432 rfl rfl ?_
                              refine v_callR (q := 437) (rm := rm_L_nestOf) hC ((r_nest hl Θ z0 ht (nI g) (nI o2)).p (v2 := -101) (w2 := G.2.1 0 30) (if_neg cg) (if_neg cg)) kh_L_nestOf ml_RL_344 dL_ofGroups_434 rfl rfl rfl (Nat.le_of_ble_eq_true rfl) ⟨Nat.le_of_ble_eq_true rfl, Nat.le_of_ble_eq_true rfl⟩ (c1 := 3) (s1 := 18) rfl rfl ⟨show _ + 3 ≤ 26 by omega, show _ + 18 ≤ 156 by omega⟩ (pQ_k (fun G_434 s_434 w_434 a_434 l_434 => ?_)) pQ_n
                              try dsimp only [Option.toList, List.cons_append, List.nil_append]
                              refine v_goto (q := 448) hC dL_ofGroups_437 (by decide) ?_
                              refine v_iload (q := 450) hC dL_ofGroups_448 rfl rfl ?_
                              refine v_if_eq (q := 458) (q2 := 453) hC dL_ofGroups_450 (by decide) rfl (fun c_450 => ?_) (fun c_450 => ?_)
                              · refine v_bipush (q := 460) (v := (-101)) hC dL_ofGroups_458 rfl (by decide) ?_
                                refine v_icmp_ne (q := 467) (q2 := 463) hC dL_ofGroups_460 (by decide) rfl (fun c_460 => ?_) (fun c_460 => ?_)
                                · exact absurd rfl c_460
                                · refine v_iconst (q := 464) (v := 1) hC dL_ofGroups_463 rfl (by decide) ?_
                                  refine v_goto (q := 468) hC dL_ofGroups_464 (by decide) ?_
                                  refine v_iret hC dL_ofGroups_468 hr (rfl) ?_ (show _ ≤ 26 by omega) (show _ ≤ 156 by omega)
                                  first | exact fQ_mk s_434 w_434 a_434 l_434 hlv hLq | exact fQ_mk s_445 w_445 a_445 l_445 hlv hLq
                              · exact absurd rfl c_450
                        · exact absurd rfl c_416
                    · first
                      | exact absurd c_380 (by decide)
                      |
                        refine v_iload (q := 385) hC dL_ofGroups_383 rfl rfl ?_
                        refine v_if_ne (q := 406) (q2 := 388) hC dL_ofGroups_385 (by decide) rfl (fun c_385 => ?_) (fun c_385 => ?_)
                        · refine v_iconst (q := 407) (v := 0) hC dL_ofGroups_406 rfl (by decide) ?_
                          refine v_goto (q := 412) hC dL_ofGroups_407 (by decide) ?_
                          refine v_istore (q := 414) hC dL_ofGroups_412 rfl (lvc rfl) (Nat.le_of_ble_eq_true rfl) (Nat.le_of_ble_eq_true rfl) rfl ?_
                          refine v_iload (q := 416) hC dL_ofGroups_414 rfl rfl ?_
                          refine v_if_eq (q := 424) (q2 := 419) hC dL_ofGroups_416 (by decide) rfl (fun c_416 => ?_) (fun c_416 => ?_)
                          · refine v_iload (q := 426) hC dL_ofGroups_424 rfl rfl ?_
                            refine v_if_eq (q := 440) (q2 := 429) hC dL_ofGroups_426 (by decide) rfl (fun c_426 => ?_) (fun c_426 => ?_)
                            · first
                              | exact absurd c_426 (by decide)
                              |
                                refine v_aload_n (i := 0) (q := 441) hC dL_ofGroups_440 rfl rfl rfl ?_
                                refine v_iload (q := 443) hC dL_ofGroups_441 rfl rfl ?_
                                refine v_iload (q := 445) hC dL_ofGroups_443 rfl rfl ?_
                                refine v_callR (q := 448) (rm := rm_L_unnestOf) hC ((r_unnest hl Θ z0 ht (nI g) (nI o2)).p (v2 := -101) (w2 := G.2.1 0 30) (if_neg cg) (if_neg cg)) kh_L_unnestOf ml_RL_347 dL_ofGroups_445 rfl rfl rfl (Nat.le_of_ble_eq_true rfl) ⟨Nat.le_of_ble_eq_true rfl, Nat.le_of_ble_eq_true rfl⟩ (c1 := 3) (s1 := 18) rfl rfl ⟨show _ + 3 ≤ 26 by omega, show _ + 18 ≤ 156 by omega⟩ (pQ_k (fun G_445 s_445 w_445 a_445 l_445 => ?_)) pQ_n
                                try dsimp only [Option.toList, List.cons_append, List.nil_append]
                                refine v_iload (q := 450) hC dL_ofGroups_448 rfl rfl ?_
                                refine v_if_eq (q := 458) (q2 := 453) hC dL_ofGroups_450 (by decide) rfl (fun c_450 => ?_) (fun c_450 => ?_)
                                · refine v_bipush (q := 460) (v := (-101)) hC dL_ofGroups_458 rfl (by decide) ?_
                                  refine v_icmp_ne (q := 467) (q2 := 463) hC dL_ofGroups_460 (by decide) rfl (fun c_460 => ?_) (fun c_460 => ?_)
                                  · exact absurd rfl c_460
                                  · refine v_iconst (q := 464) (v := 1) hC dL_ofGroups_463 rfl (by decide) ?_
                                    refine v_goto (q := 468) hC dL_ofGroups_464 (by decide) ?_
                                    refine v_iret hC dL_ofGroups_468 hr (rfl) ?_ (show _ ≤ 26 by omega) (show _ ≤ 156 by omega)
                                    first | exact fQ_mk s_434 w_434 a_434 l_434 hlv hLq | exact fQ_mk s_445 w_445 a_445 l_445 hlv hLq
                                · exact absurd rfl c_450
                            · first
                              | exact absurd c_426 (by decide)
                              |
                                refine v_aload_n (i := 0) (q := 430) hC dL_ofGroups_429 rfl rfl rfl ?_
                                refine v_iload (q := 432) hC dL_ofGroups_430 rfl rfl ?_
                                refine v_iload (q := 434) hC dL_ofGroups_432 rfl rfl ?_
                                refine v_callR (q := 437) (rm := rm_L_nestOf) hC ((r_nest hl Θ z0 ht (nI g) (nI o2)).p (v2 := -101) (w2 := G.2.1 0 30) (if_neg cg) (if_neg cg)) kh_L_nestOf ml_RL_344 dL_ofGroups_434 rfl rfl rfl (Nat.le_of_ble_eq_true rfl) ⟨Nat.le_of_ble_eq_true rfl, Nat.le_of_ble_eq_true rfl⟩ (c1 := 3) (s1 := 18) rfl rfl ⟨show _ + 3 ≤ 26 by omega, show _ + 18 ≤ 156 by omega⟩ (pQ_k (fun G_434 s_434 w_434 a_434 l_434 => ?_)) pQ_n
                                try dsimp only [Option.toList, List.cons_append, List.nil_append]
                                refine v_goto (q := 448) hC dL_ofGroups_437 (by decide) ?_
                                refine v_iload (q := 450) hC dL_ofGroups_448 rfl rfl ?_
                                refine v_if_eq (q := 458) (q2 := 453) hC dL_ofGroups_450 (by decide) rfl (fun c_450 => ?_) (fun c_450 => ?_)
                                · refine v_bipush (q := 460) (v := (-101)) hC dL_ofGroups_458 rfl (by decide) ?_
                                  refine v_icmp_ne (q := 467) (q2 := 463) hC dL_ofGroups_460 (by decide) rfl (fun c_460 => ?_) (fun c_460 => ?_)
                                  · exact absurd rfl c_460
                                  · refine v_iconst (q := 464) (v := 1) hC dL_ofGroups_463 rfl (by decide) ?_
                                    refine v_goto (q := 468) hC dL_ofGroups_464 (by decide) ?_
                                    refine v_iret hC dL_ofGroups_468 hr (rfl) ?_ (show _ ≤ 26 by omega) (show _ ≤ 156 by omega)
                                    first | exact fQ_mk s_434 w_434 a_434 l_434 hlv hLq | exact fQ_mk s_445 w_445 a_445 l_445 hlv hLq
                                · exact absurd rfl c_450
                          · exact absurd rfl c_416
                        · refine v_aload_n (i := 1) (q := 389) hC dL_ofGroups_388 rfl rfl rfl ?_
                          refine v_iload (q := 391) hC dL_ofGroups_389 rfl rfl ?_
                          refine v_callSN (q := 394) (rm := rm_L_within) hC (c_L_within hl Θ g _ hg hD.g8) k_L_within st_yL_within ml_RL_177 dL_ofGroups_391 rfl rfl rfl (Nat.le_of_ble_eq_true rfl) ⟨Nat.le_of_ble_eq_true rfl, Nat.le_of_ble_eq_true rfl⟩ (c1 := 0) (s1 := 0) rfl rfl ⟨show _ + 0 ≤ 26 by omega, show _ + 0 ≤ 156 by omega⟩ (fR_k ?_) fR_n
                          try dsimp only [Option.toList, List.cons_append, List.nil_append]
                          refine v_iload (q := 396) hC dL_ofGroups_394 rfl rfl ?_
                          refine v_callSN (q := 399) (rm := rm_L_has) hC (c_L_has hl Θ _ _ _) k_L_has st_yL_has ml_RL_172 dL_ofGroups_396 rfl rfl rfl (Nat.le_of_ble_eq_true rfl) ⟨Nat.le_of_ble_eq_true rfl, Nat.le_of_ble_eq_true rfl⟩ (c1 := 0) (s1 := 0) rfl rfl ⟨show _ + 0 ≤ 26 by omega, show _ + 0 ≤ 156 by omega⟩ (fR_k ?_) fR_n
                          try dsimp only [Option.toList, List.cons_append, List.nil_append]
                          refine v_ifb_ne (q := 406) (q2 := 402) hC dL_ofGroups_399 (by decide) rfl (fun c_399 => ?_) (fun c_399 => ?_)
                          · refine v_iconst (q := 407) (v := 0) hC dL_ofGroups_406 rfl (by decide) ?_
                            refine v_goto (q := 412) hC dL_ofGroups_407 (by decide) ?_
                            refine v_istore (q := 414) hC dL_ofGroups_412 rfl (lvc rfl) (Nat.le_of_ble_eq_true rfl) (Nat.le_of_ble_eq_true rfl) rfl ?_
                            refine v_iload (q := 416) hC dL_ofGroups_414 rfl rfl ?_
                            refine v_if_eq (q := 424) (q2 := 419) hC dL_ofGroups_416 (by decide) rfl (fun c_416 => ?_) (fun c_416 => ?_)
                            · refine v_iload (q := 426) hC dL_ofGroups_424 rfl rfl ?_
                              refine v_if_eq (q := 440) (q2 := 429) hC dL_ofGroups_426 (by decide) rfl (fun c_426 => ?_) (fun c_426 => ?_)
                              · first
                                | exact absurd c_426 (by decide)
                                |
                                  refine v_aload_n (i := 0) (q := 441) hC dL_ofGroups_440 rfl rfl rfl ?_
                                  refine v_iload (q := 443) hC dL_ofGroups_441 rfl rfl ?_
                                  refine v_iload (q := 445) hC dL_ofGroups_443 rfl rfl ?_
                                  refine v_callR (q := 448) (rm := rm_L_unnestOf) hC ((r_unnest hl Θ z0 ht (nI g) (nI o2)).p (v2 := -101) (w2 := G.2.1 0 30) (if_neg cg) (if_neg cg)) kh_L_unnestOf ml_RL_347 dL_ofGroups_445 rfl rfl rfl (Nat.le_of_ble_eq_true rfl) ⟨Nat.le_of_ble_eq_true rfl, Nat.le_of_ble_eq_true rfl⟩ (c1 := 3) (s1 := 18) rfl rfl ⟨show _ + 3 ≤ 26 by omega, show _ + 18 ≤ 156 by omega⟩ (pQ_k (fun G_445 s_445 w_445 a_445 l_445 => ?_)) pQ_n
                                  try dsimp only [Option.toList, List.cons_append, List.nil_append]
                                  refine v_iload (q := 450) hC dL_ofGroups_448 rfl rfl ?_
                                  refine v_if_eq (q := 458) (q2 := 453) hC dL_ofGroups_450 (by decide) rfl (fun c_450 => ?_) (fun c_450 => ?_)
                                  · refine v_bipush (q := 460) (v := (-101)) hC dL_ofGroups_458 rfl (by decide) ?_
                                    refine v_icmp_ne (q := 467) (q2 := 463) hC dL_ofGroups_460 (by decide) rfl (fun c_460 => ?_) (fun c_460 => ?_)
                                    · exact absurd rfl c_460
                                    · refine v_iconst (q := 464) (v := 1) hC dL_ofGroups_463 rfl (by decide) ?_
                                      refine v_goto (q := 468) hC dL_ofGroups_464 (by decide) ?_
                                      refine v_iret hC dL_ofGroups_468 hr (rfl) ?_ (show _ ≤ 26 by omega) (show _ ≤ 156 by omega)
                                      first | exact fQ_mk s_434 w_434 a_434 l_434 hlv hLq | exact fQ_mk s_445 w_445 a_445 l_445 hlv hLq
                                  · exact absurd rfl c_450
                              · first
                                | exact absurd c_426 (by decide)
                                |
                                  refine v_aload_n (i := 0) (q := 430) hC dL_ofGroups_429 rfl rfl rfl ?_
                                  refine v_iload (q := 432) hC dL_ofGroups_430 rfl rfl ?_
                                  refine v_iload (q := 434) hC dL_ofGroups_432 rfl rfl ?_
                                  refine v_callR (q := 437) (rm := rm_L_nestOf) hC ((r_nest hl Θ z0 ht (nI g) (nI o2)).p (v2 := -101) (w2 := G.2.1 0 30) (if_neg cg) (if_neg cg)) kh_L_nestOf ml_RL_344 dL_ofGroups_434 rfl rfl rfl (Nat.le_of_ble_eq_true rfl) ⟨Nat.le_of_ble_eq_true rfl, Nat.le_of_ble_eq_true rfl⟩ (c1 := 3) (s1 := 18) rfl rfl ⟨show _ + 3 ≤ 26 by omega, show _ + 18 ≤ 156 by omega⟩ (pQ_k (fun G_434 s_434 w_434 a_434 l_434 => ?_)) pQ_n
                                  try dsimp only [Option.toList, List.cons_append, List.nil_append]
                                  refine v_goto (q := 448) hC dL_ofGroups_437 (by decide) ?_
                                  refine v_iload (q := 450) hC dL_ofGroups_448 rfl rfl ?_
                                  refine v_if_eq (q := 458) (q2 := 453) hC dL_ofGroups_450 (by decide) rfl (fun c_450 => ?_) (fun c_450 => ?_)
                                  · refine v_bipush (q := 460) (v := (-101)) hC dL_ofGroups_458 rfl (by decide) ?_
                                    refine v_icmp_ne (q := 467) (q2 := 463) hC dL_ofGroups_460 (by decide) rfl (fun c_460 => ?_) (fun c_460 => ?_)
                                    · exact absurd rfl c_460
                                    · refine v_iconst (q := 464) (v := 1) hC dL_ofGroups_463 rfl (by decide) ?_
                                      refine v_goto (q := 468) hC dL_ofGroups_464 (by decide) ?_
                                      refine v_iret hC dL_ofGroups_468 hr (rfl) ?_ (show _ ≤ 26 by omega) (show _ ≤ 156 by omega)
                                      first | exact fQ_mk s_434 w_434 a_434 l_434 hlv hLq | exact fQ_mk s_445 w_445 a_445 l_445 hlv hLq
                                  · exact absurd rfl c_450
                            · exact absurd rfl c_416
                          · refine v_iconst (q := 403) (v := 1) hC dL_ofGroups_402 rfl (by decide) ?_
                            refine v_goto (q := 412) hC dL_ofGroups_403 (by decide) ?_
                            refine v_istore (q := 414) hC dL_ofGroups_412 rfl (lvc rfl) (Nat.le_of_ble_eq_true rfl) (Nat.le_of_ble_eq_true rfl) rfl ?_
                            refine v_iload (q := 416) hC dL_ofGroups_414 rfl rfl ?_
                            refine v_if_eq (q := 424) (q2 := 419) hC dL_ofGroups_416 (by decide) rfl (fun c_416 => ?_) (fun c_416 => ?_)
                            · refine v_iload (q := 426) hC dL_ofGroups_424 rfl rfl ?_
                              refine v_if_eq (q := 440) (q2 := 429) hC dL_ofGroups_426 (by decide) rfl (fun c_426 => ?_) (fun c_426 => ?_)
                              · first
                                | exact absurd c_426 (by decide)
                                |
                                  refine v_aload_n (i := 0) (q := 441) hC dL_ofGroups_440 rfl rfl rfl ?_
                                  refine v_iload (q := 443) hC dL_ofGroups_441 rfl rfl ?_
                                  refine v_iload (q := 445) hC dL_ofGroups_443 rfl rfl ?_
                                  refine v_callR (q := 448) (rm := rm_L_unnestOf) hC ((r_unnest hl Θ z0 ht (nI g) (nI o2)).p (v2 := -101) (w2 := G.2.1 0 30) (if_neg cg) (if_neg cg)) kh_L_unnestOf ml_RL_347 dL_ofGroups_445 rfl rfl rfl (Nat.le_of_ble_eq_true rfl) ⟨Nat.le_of_ble_eq_true rfl, Nat.le_of_ble_eq_true rfl⟩ (c1 := 3) (s1 := 18) rfl rfl ⟨show _ + 3 ≤ 26 by omega, show _ + 18 ≤ 156 by omega⟩ (pQ_k (fun G_445 s_445 w_445 a_445 l_445 => ?_)) pQ_n
                                  try dsimp only [Option.toList, List.cons_append, List.nil_append]
                                  refine v_iload (q := 450) hC dL_ofGroups_448 rfl rfl ?_
                                  refine v_if_eq (q := 458) (q2 := 453) hC dL_ofGroups_450 (by decide) rfl (fun c_450 => ?_) (fun c_450 => ?_)
                                  · refine v_bipush (q := 460) (v := (-101)) hC dL_ofGroups_458 rfl (by decide) ?_
                                    refine v_icmp_ne (q := 467) (q2 := 463) hC dL_ofGroups_460 (by decide) rfl (fun c_460 => ?_) (fun c_460 => ?_)
                                    · exact absurd rfl c_460
                                    · refine v_iconst (q := 464) (v := 1) hC dL_ofGroups_463 rfl (by decide) ?_
                                      refine v_goto (q := 468) hC dL_ofGroups_464 (by decide) ?_
                                      refine v_iret hC dL_ofGroups_468 hr (rfl) ?_ (show _ ≤ 26 by omega) (show _ ≤ 156 by omega)
                                      first | exact fQ_mk s_434 w_434 a_434 l_434 hlv hLq | exact fQ_mk s_445 w_445 a_445 l_445 hlv hLq
                                  · exact absurd rfl c_450
                              · first
                                | exact absurd c_426 (by decide)
                                |
                                  refine v_aload_n (i := 0) (q := 430) hC dL_ofGroups_429 rfl rfl rfl ?_
                                  refine v_iload (q := 432) hC dL_ofGroups_430 rfl rfl ?_
                                  refine v_iload (q := 434) hC dL_ofGroups_432 rfl rfl ?_
                                  refine v_callR (q := 437) (rm := rm_L_nestOf) hC ((r_nest hl Θ z0 ht (nI g) (nI o2)).p (v2 := -101) (w2 := G.2.1 0 30) (if_neg cg) (if_neg cg)) kh_L_nestOf ml_RL_344 dL_ofGroups_434 rfl rfl rfl (Nat.le_of_ble_eq_true rfl) ⟨Nat.le_of_ble_eq_true rfl, Nat.le_of_ble_eq_true rfl⟩ (c1 := 3) (s1 := 18) rfl rfl ⟨show _ + 3 ≤ 26 by omega, show _ + 18 ≤ 156 by omega⟩ (pQ_k (fun G_434 s_434 w_434 a_434 l_434 => ?_)) pQ_n
                                  try dsimp only [Option.toList, List.cons_append, List.nil_append]
                                  refine v_goto (q := 448) hC dL_ofGroups_437 (by decide) ?_
                                  refine v_iload (q := 450) hC dL_ofGroups_448 rfl rfl ?_
                                  refine v_if_eq (q := 458) (q2 := 453) hC dL_ofGroups_450 (by decide) rfl (fun c_450 => ?_) (fun c_450 => ?_)
                                  · refine v_bipush (q := 460) (v := (-101)) hC dL_ofGroups_458 rfl (by decide) ?_
                                    refine v_icmp_ne (q := 467) (q2 := 463) hC dL_ofGroups_460 (by decide) rfl (fun c_460 => ?_) (fun c_460 => ?_)
                                    · exact absurd rfl c_460
                                    · refine v_iconst (q := 464) (v := 1) hC dL_ofGroups_463 rfl (by decide) ?_
                                      refine v_goto (q := 468) hC dL_ofGroups_464 (by decide) ?_
                                      refine v_iret hC dL_ofGroups_468 hr (rfl) ?_ (show _ ≤ 26 by omega) (show _ ≤ 156 by omega)
                                      first | exact fQ_mk s_434 w_434 a_434 l_434 hlv hLq | exact fQ_mk s_445 w_445 a_445 l_445 hlv hLq
                                  · exact absurd rfl c_450
                            · exact absurd rfl c_416
                · exact absurd ⟨(nI_ltI (by omega) (by omega)).mp (Int32.not_le.mp c_333), (nI_ltI (by omega) (by omega)).mp (Int32.not_le.mp c_341)⟩ hth
            · exact absurd (Int32.not_le.mp c_156) n5
          · exact absurd c_92 n1
        · exact absurd c_28 n0
  have d1 : nI y - nI y / 12 * 12 = nI (y % 12) := pk_rem (d := 12) hy (by decide) (by decide)
  have q2 : nI y / 12 = nI (y / 12) := pk_div (d := 12) hy (by decide) (by decide)
  have d2 : nI y / 12 - nI y / 12 / 8 * 8 = nI (y / 12 % 8) := by
    rw [q2]; exact pk_rem (d := 8) (by omega) (by decide) (by decide)
  have q3 : nI y / 96 = nI (y / 96) := pk_div (d := 96) hy (by decide) (by decide)
  have d3 : nI y / 96 - nI y / 96 / 8 * 8 = nI (y / 96 % 8) := by
    rw [q3]; exact pk_rem (d := 8) (by omega) (by decide) (by decide)
  refine v_iload (q := 2) hC dL_ofGroups_0 rfl rfl ?_
  refine v_bipush (q := 4) (v := 12) hC dL_ofGroups_2 rfl (by decide) ?_
  refine v_irem (q := 5) hC dL_ofGroups_4 rfl (by decide) ?_
  rw [d1]
  refine v_istore (q := 7) hC dL_ofGroups_5 rfl (lvc rfl) (Nat.le_of_ble_eq_true rfl) (Nat.le_of_ble_eq_true rfl) rfl ?_
  refine v_iload (q := 9) hC dL_ofGroups_7 rfl rfl ?_
  refine v_bipush (q := 11) (v := 12) hC dL_ofGroups_9 rfl (by decide) ?_
  refine v_idiv (q := 12) hC dL_ofGroups_11 rfl (by decide) ?_
  refine v_bipush (q := 14) (v := 8) hC dL_ofGroups_12 rfl (by decide) ?_
  refine v_irem (q := 15) hC dL_ofGroups_14 rfl (by decide) ?_
  rw [d2]
  refine v_istore (q := 17) hC dL_ofGroups_15 rfl (lvc rfl) (Nat.le_of_ble_eq_true rfl) (Nat.le_of_ble_eq_true rfl) rfl ?_
  refine v_iload (q := 19) hC dL_ofGroups_17 rfl rfl ?_
  refine v_bipush (q := 21) (v := 96) hC dL_ofGroups_19 rfl (by decide) ?_
  refine v_idiv (q := 22) hC dL_ofGroups_21 rfl (by decide) ?_
  refine v_bipush (q := 24) (v := 8) hC dL_ofGroups_22 rfl (by decide) ?_
  refine v_irem (q := 25) hC dL_ofGroups_24 rfl (by decide) ?_
  rw [d3]
  refine v_istore (q := 27) hC dL_ofGroups_25 rfl (lvc rfl) (Nat.le_of_ble_eq_true rfl) (Nat.le_of_ble_eq_true rfl) rfl ?_
  exact D _ _ _ (Nat.mod_lt _ (by decide)) (Nat.mod_lt _ (by decide)) (Nat.mod_lt _ (by decide))
