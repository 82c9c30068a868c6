/-! requests and shared rights -/
theorem LRq.sh {w m p e l t : Nat → Int32} (h : LRq w m p e l t) (hc : ∀ k, k < 10 → mCt w k ≤ 6) {o n u r : Nat} (ho : o < 10) (h1 : w (oA o 0) = 1) (hn : mCt w o = n) (hn6 : n < 6) (hu : u < 12) (hr : r < 16) : LRq (mSh w o (nI u) (nI r)) m (upd p (40 + o) (nI (n + 1))) (upd (opE e (6 * o) (6 * o + n)) (6 * o) (nI (lCode 0 u r true false))) l t := by
  subst hn
  unfold mSh
  refine h.list hc ho h1 (fun x h5 hx => ?_) ?_ (by omega) (fun x hx => ?_) (fun i hi => ?_)
  · rw [mWrt_o _ _ _ _ _ _ (by unfold enA at *; omega), mOpn_at _ _ _ _ _ h5 (by unfold enA at *; omega)]
  · rw [mWrt_o _ _ _ _ _ _ (by unfold enA oA; omega), mOpn, upd_s]
  · rw [upd_n (by omega), opE, if_neg (by omega)]
  · by_cases hi0 : i = 0
    · subst hi0
      obtain ⟨m0, m1, m2, m3, m4⟩ := mWrt_0 (mOpn w o 0 (mCt w o)) o 0 0 (nI u) (nI r) true false
      rw [Nat.add_zero, upd_s]
      exact ⟨0, u, r, true, false, ⟨by decide, hu, hr⟩, rfl, ⟨m0, m1, m2⟩, m3, m4⟩
    · rw [upd_n (by omega), opE, if_pos (by omega), show 6 * o + i - 1 = 6 * o + (i - 1) by omega]
      exact lCd_congr (fun q hq => by
        rw [mWrt_o _ _ _ _ _ _ (by unfold enA; omega), mOpn_hi _ (by unfold enA oA; omega) (by unfold enA; omega)]
        refine congrArg w ?_
        unfold enA; omega) (h.2.2.1 o (i - 1) ho h1 (by omega))
theorem mSh_0 {w : Nat → Int32} {o : Nat} (u r : Int32) (hc : mCt w o ≤ 6) : mSh w o u r (oA o 0) = w (oA o 0) := by
  unfold mSh
  rw [mWrt_o _ _ _ _ _ _ (by unfold enA oA; omega), mOpn_at _ _ _ _ _ (by unfold oA; omega) (by unfold enA oA; omega)]
theorem log_c1 (u o : Nat) : (100 : Int32) * nI u + 2 * nI o + 1 = nI (100 * u + 2 * o + true.toNat) := by
  rw [show (100 : Int32) = nI 100 from rfl, show (2 : Int32) = nI 2 from rfl, nI_mul, nI_mul, nI_add, nI_1]; rfl
theorem log_c0 (u o : Nat) : (100 : Int32) * nI u + 2 * nI o + 0 = nI (100 * u + 2 * o + false.toNat) := by
  rw [Int32.add_zero, show (100 : Int32) = nI 100 from rfl, show (2 : Int32) = nI 2 from rfl, nI_mul, nI_mul, nI_add]; rfl
theorem sh_cod (u r : Nat) : ((16 : Int32) * nI u + nI r) * 4 + 2 = nI (lCode 0 u r true false) := by
  rw [show (16 : Int32) = nI 16 from rfl, show (4 : Int32) = nI 4 from rfl, show (2 : Int32) = nI 2 from rfl, nI_mul, nI_add, nI_mul, nI_add]
  refine congrArg nI ?_
  show (16 * u + r) * 4 + 2 = ((16 * 0 + u) * 16 + r) * 4 + 2 * 1 + 0
  omega
abbrev rm_L_ofRequests : Room := { frames := 9, locals := 196, cells := 24, slots := 144 }
set_option maxHeartbeats 4000000 in
set_option maxRecDepth 20000 in
theorem c_L_ofRequests {l : Launch} (hl : l.stackTraces = false) (Θ : cTH) (way y t : Nat) (G : GS) (hS : Sim G t) (hL : LR G) (ht : t < 2 ^ 20) (ht2 : t + 1 < 2 ^ 20) (hlv : noT G.2.2.1 2) (hw : way < 3) (hy : y < 2 ^ 31) : Ct l yL_ofRequests cL_ofRequests 16 (some .boolean) rm_L_ofRequests Θ [.ref (tR Θ 0 14), .ref (tR Θ 0 40), .ref (tR Θ 0 41), .ref (tR Θ 0 42), .ref (tR Θ 0 43), .ref (tR Θ 0 44), .int (nI way), .int (nI y)] (G) (fQ t) := by
  refine ct_of (LS := [some (.ref (tR Θ 0 14)), some (.ref (tR Θ 0 40)), some (.ref (tR Θ 0 41)), some (.ref (tR Θ 0 42)), some (.ref (tR Θ 0 43)), some (.ref (tR Θ 0 44)), some (.int (nI way)), some (.int (nI y)), none, none, none, none, none, none, none, none]) hl (by decide +kernel) rfl (Nat.le_of_ble_eq_true rfl) rfl ?_
  intro p e s m args below meth c hC hr
  have hLq := hL.q
  obtain ⟨hD, ⟨e0, us1⟩, e1, -⟩ := hL
  have hU := hD.ok.us12
  have hc : ∀ k, k < 10 → mCt (G.2.1 0 30) k ≤ 6 := fun k hk => hD.ok.ct6 (by omega)
  have z0 : Nx G G t := Nx.refl hS
  obtain ⟨q, hqt, -, hq763, -⟩ := hS.1.place ht
  have q480 : nI y / 480 = nI (y / 480) := pk_div (d := 480) hy (by decide) (by decide)
  have q5760 : nI y / 5760 = nI (y / 5760) := pk_div (d := 5760) hy (by decide) (by decide)
  have d4 : (1 : Int32) + (nI y / 5760 - nI y / 5760 / 15 * 15) = nI (1 + y / 5760 % 15) := by
    rw [q5760, show nI (y / 5760) - nI (y / 5760) / 15 * 15 = nI (y / 5760 % 15) from pk_rem (d := 15) (by omega) (by decide) (by decide), show (1 : Int32) = nI 1 from rfl, nI_add]
  have d3 : nI y / 480 - nI y / 480 / nI (mUs (G.2.1 0 30)) * nI (mUs (G.2.1 0 30)) = nI (y / 480 % mUs (G.2.1 0 30)) := by
    rw [q480]; exact pk_rem (d := mUs (G.2.1 0 30)) (by omega) us1 (by omega)
  have hnz : ¬ nI (mUs (G.2.1 0 30)) = 0 := fun z => by
    have h9 := (nI_eq (b := 0) (by omega) (by decide)).mp z
    omega
  have hotU : y / 480 % mUs (G.2.1 0 30) < mUs (G.2.1 0 30) := Nat.mod_lt _ us1
  have hr16 : 1 + y / 5760 % 15 < 16 := by omega
  have mr : mIn (nI (1 + y / 5760 % 15)) 1 15 = true := by
    unfold mIn
    rw [decide_eq_true (show (1 : Int32) ≤ nI (1 + y / 5760 % 15) from nI_le (a := 1) (by omega) (by omega)), decide_eq_true (show nI (1 + y / 5760 % 15) ≤ 15 from nI_le (b := 15) (by omega) (by decide))]; rfl
  generalize 1 + y / 5760 % 15 = r at d4 hr16 mr
  generalize y / 480 % mUs (G.2.1 0 30) = ot at d3 hotU
  have D : ∀ (u ob ri : Nat), u < 12 → ob < 10 → ri < 4 → V p l e rm_L_ofRequests s m args below meth c 16 Θ (fQ t) 24 144 0 0 26 [some (.ref (tR Θ 0 14)), some (.ref (tR Θ 0 40)), some (.ref (tR Θ 0 41)), some (.ref (tR Θ 0 42)), some (.ref (tR Θ 0 43)), some (.ref (tR Θ 0 44)), some (.int (nI way)), some (.int (nI y)), some (.int (nI u)), some (.int (nI ob)), some (.int (nI ri)), none, none, none, none, none] [] (G) := by
    intro u ob ri hu hob hri
    have eu : (nI u).toNatClampNeg = u := nI_clamp (by omega)
    have eob : (nI ob).toNatClampNeg = ob := nI_clamp (by omega)
    have h6 := hc ob hob
    have hct := hD.ok.ct (show ob < 20 by omega)
    have ix : ∀ k, (6 : Int32) * nI ob + nI k = nI (6 * ob + k) := fun k => by rw [show (6 : Int32) = nI 6 from rfl, nI_mul, nI_add]
    have hh := hD.hold (show ob < 20 by omega)
    by_cases hth : u < mUs (G.2.1 0 30) ∧ G.2.1 0 30 (oA ob 0) = 1
    · obtain ⟨hu1, h1⟩ := hth
      have hpc := hD.pc hob h1
      rw [hct] at hpc
      by_cases hw2 : way < 2
      · have n2 : nI way < 2 := nI_lt (b := 2) hw2 (by decide)
        have cg : (mIn (nI u) 0 (G.2.1 0 30 0 - 1) && mHold (G.2.1 0 30) (nI ob)) = true := by
          rw [hD.mU (by omega), hh, decide_eq_true hu1, decide_eq_true h1]; rfl
        have c3 : mIn (nI ri) 0 3 = true := mIn3 hri
        have r43 : ∀ a, (putA G 0 43 a).2.1 0 43 = a := fun a => putA_same _ _ _ _
        have F : ∀ (b : Bool) (G1 : GS), mAl (G.2.1 0 30) (nI u) ob (nI ri) = b → Sim G1 t → G1.2.1 0 30 = G.2.1 0 30 → G1.2.2.1 = G.2.2.1 → LRq (mLog (G.2.1 0 30) (nI u) (nI ob) b) (G1.2.1 0 40) (G1.2.1 0 41) (G1.2.1 0 42) (G1.2.1 0 43) (G1.2.1 0 44) → V p l e rm_L_ofRequests s m args below meth c 16 Θ (fQ t) 24 144 0 0 174 [some (.ref (tR Θ 0 14)), some (.ref (tR Θ 0 40)), some (.ref (tR Θ 0 41)), some (.ref (tR Θ 0 42)), some (.ref (tR Θ 0 43)), some (.ref (tR Θ 0 44)), some (.int (nI way)), some (.int (nI y)), some (.int (nI u)), some (.int (nI ob)), some (.int (nI ri)), some (.int (1)), some (.int (b2i b)), some (.int (0)), none, none] [] (G1) := by
          intro b G1 hm hS1 hw1 hl1 hq1
          have hlv1 : noT G1.2.2.1 2 := by rw [hl1]; exact hlv
          refine v_aload_n (i := 0) (q := 175) hC dL_ofRequests_174 rfl rfl rfl ?_
          refine v_iload (q := 177) hC dL_ofRequests_175 rfl rfl ?_
          refine v_iload (q := 179) hC dL_ofRequests_177 rfl rfl ?_
          refine v_iload (q := 181) hC dL_ofRequests_179 rfl rfl ?_
          refine v_callR (q := 184) (rm := rm_L_askOf) hC ((r_ask hl Θ (Nx.refl hS1) ht (nI u) (nI ob) (nI ri)).p (v2 := b2i b) (w2 := mLog (G.2.1 0 30) (nI u) (nI ob) b) (by rw [hw1, if_pos cg, if_pos c3, eob, hm, gZ_b]) (by rw [hw1, if_pos cg, if_pos c3, eob, hm])) kh_L_askOf ml_RL_389 dL_ofRequests_181 rfl rfl rfl (Nat.le_of_ble_eq_true rfl) ⟨Nat.le_of_ble_eq_true rfl, Nat.le_of_ble_eq_true rfl⟩ (c1 := 3) (s1 := 18) rfl rfl ⟨show _ + 3 ≤ 24 by omega, show _ + 18 ≤ 144 by omega⟩ (pQ_k (fun G_181 s_181 w_181 a_181 l_181 => ?_)) pQ_n
          try dsimp only [Option.toList, List.cons_append, List.nil_append]
          refine v_iload (q := 186) hC dL_ofRequests_184 rfl rfl ?_
          refine v_if_eq (q := 193) (q2 := 189) hC dL_ofRequests_186 (by decide) rfl (fun c_186 => ?_) (fun c_186 => ?_)
          · refine v_iconst (q := 194) (v := 0) hC dL_ofRequests_193 rfl (by decide) ?_
            refine v_icmp_ne (q := 201) (q2 := 197) hC dL_ofRequests_194 (by decide) rfl (fun c_194 => ?_) (fun c_194 => ?_)
            · first
                | exact absurd (by rw [b2i_1 c_186]; rfl) c_194
                | exact absurd (by rw [b2i_0 c_186]; rfl) c_194
            · refine v_iconst (q := 198) (v := 1) hC dL_ofRequests_197 rfl (by decide) ?_
              refine v_goto (q := 202) hC dL_ofRequests_198 (by decide) ?_
              refine v_iret hC dL_ofRequests_202 hr (rfl) ?_ (show _ ≤ 24 by omega) (show _ ≤ 144 by omega)
              exact fQ_mk s_181 w_181 a_181 l_181 hlv1 hq1
          · refine v_iconst (q := 190) (v := 1) hC dL_ofRequests_189 rfl (by decide) ?_
            refine v_goto (q := 194) hC dL_ofRequests_190 (by decide) ?_
            refine v_icmp_ne (q := 201) (q2 := 197) hC dL_ofRequests_194 (by decide) rfl (fun c_194 => ?_) (fun c_194 => ?_)
            · first
                | exact absurd (by rw [b2i_1 c_186]; rfl) c_194
                | exact absurd (by rw [b2i_0 c_186]; rfl) c_194
            · refine v_iconst (q := 198) (v := 1) hC dL_ofRequests_197 rfl (by decide) ?_
              refine v_goto (q := 202) hC dL_ofRequests_198 (by decide) ?_
              refine v_iret hC dL_ofRequests_202 hr (rfl) ?_ (show _ ≤ 24 by omega) (show _ ≤ 144 by omega)
              exact fQ_mk s_181 w_181 a_181 l_181 hlv1 hq1
        have Atrue : mAl (G.2.1 0 30) (nI u) ob (nI ri) = true → V p l e rm_L_ofRequests s m args below meth c 16 Θ (fQ t) 24 144 0 0 97 [some (.ref (tR Θ 0 14)), some (.ref (tR Θ 0 40)), some (.ref (tR Θ 0 41)), some (.ref (tR Θ 0 42)), some (.ref (tR Θ 0 43)), some (.ref (tR Θ 0 44)), some (.int (nI way)), some (.int (nI y)), some (.int (nI u)), some (.int (nI ob)), some (.int (nI ri)), some (.int (1)), some (.int (b2i true)), none, none, none] [] (G) := by
          intro hm
          have hq := hLq.log hc (b := true) (l2 := upd (opE (G.2.1 0 43) 0 7) 0 (nI (100 * u + 2 * ob + Bool.toNat true))) hu hob hq763 (by omega) (fun a => by
            by_cases ha : a = 0
            · rw [ha, upd_s, if_pos rfl]
            · rw [upd_n ha, if_neg ha, opE]
              by_cases h7 : a < 8
              · rw [if_pos (by omega), if_pos h7]
              · rw [if_neg (by omega), if_neg h7])
          have L : ∀ (k : Nat), k ≤ 7 → V p l e rm_L_ofRequests s m args below meth c 16 Θ (fQ t) 24 144 0 0 101 [some (.ref (tR Θ 0 14)), some (.ref (tR Θ 0 40)), some (.ref (tR Θ 0 41)), some (.ref (tR Θ 0 42)), some (.ref (tR Θ 0 43)), some (.ref (tR Θ 0 44)), some (.int (nI way)), some (.int (nI y)), some (.int (nI u)), some (.int (nI ob)), some (.int (nI ri)), some (.int (1)), some (.int (b2i true)), some (.int (nI k)), none, none] [] (putA G 0 43 (opE (G.2.1 0 43) k 7)) := by
            intro k
            induction k with
            | zero =>
              intro hk
              refine v_iload (q := 103) hC dL_ofRequests_101 rfl rfl ?_
              refine v_if_le (q := 124) (q2 := 106) hC dL_ofRequests_103 (by decide) rfl (fun c_103 => ?_) (fun c_103 => ?_)
              · refine v_aload (q := 126) hC dL_ofRequests_124 rfl rfl ?_
                refine v_iconst (q := 127) (v := 0) hC dL_ofRequests_126 rfl (by decide) ?_
                refine v_bipush (q := 129) (v := 100) hC dL_ofRequests_127 rfl (by decide) ?_
                refine v_iload (q := 131) hC dL_ofRequests_129 rfl rfl ?_
                refine v_imul (q := 132) hC dL_ofRequests_131 rfl ?_
                refine v_iconst (q := 133) (v := 2) hC dL_ofRequests_132 rfl (by decide) ?_
                refine v_iload (q := 135) hC dL_ofRequests_133 rfl rfl ?_
                refine v_imul (q := 136) hC dL_ofRequests_135 rfl ?_
                refine v_iadd (q := 137) hC dL_ofRequests_136 rfl ?_
                refine v_iload (q := 139) hC dL_ofRequests_137 rfl rfl ?_
                refine v_if_eq (q := 146) (q2 := 142) hC dL_ofRequests_139 (by decide) rfl (fun c_139 => ?_) (fun c_139 => ?_)
                · exact absurd c_139 (by decide)
                · refine v_iconst (q := 143) (v := 1) hC dL_ofRequests_142 rfl (by decide) ?_
                  refine v_goto (q := 147) hC dL_ofRequests_143 (by decide) ?_
                  refine v_iadd (q := 148) hC dL_ofRequests_147 rfl ?_
                  rw [log_c1]
                  refine v_iastN (q := 149) hC dL_ofRequests_148 rfl rfl (fun _ => rfl) (i := 0) (rfl) (by first | decide | omega | (unfold oA; omega) | (unfold enA; omega)) (by decide) ?_
                  refine v_aload (q := 151) hC dL_ofRequests_149 rfl rfl ?_
                  refine v_iconst (q := 152) (v := 3) hC dL_ofRequests_151 rfl (by decide) ?_
                  refine v_dup2 (q := 153) hC dL_ofRequests_152 rfl rfl rfl ?_
                  refine v_ialdV (q := 154) hC dL_ofRequests_153 rfl rfl rfl (i := 3) (rfl) (by first | decide | omega) (by decide) (rfl) ?_
                  refine v_iconst (q := 155) (v := 1) hC dL_ofRequests_154 rfl (by decide) ?_
                  refine v_iadd (q := 156) hC dL_ofRequests_155 rfl ?_
                  refine v_iastN (q := 157) hC dL_ofRequests_156 rfl rfl (fun _ => rfl) (i := 3) (rfl) (by first | decide | omega | (unfold oA; omega) | (unfold enA; omega)) (by decide) ?_
                  refine v_aload (q := 159) hC dL_ofRequests_157 rfl rfl ?_
                  refine v_iconst (q := 160) (v := 4) hC dL_ofRequests_159 rfl (by decide) ?_
                  refine v_dup2 (q := 161) hC dL_ofRequests_160 rfl rfl rfl ?_
                  refine v_ialdV (q := 162) hC dL_ofRequests_161 rfl rfl rfl (i := 4) (rfl) (by first | decide | omega) (by decide) ((congrFun (putA_same _ _ _ _) 4).trans (upd_n (by decide))) ?_
                  refine v_iload (q := 164) hC dL_ofRequests_162 rfl rfl ?_
                  refine v_if_eq (q := 171) (q2 := 167) hC dL_ofRequests_164 (by decide) rfl (fun c_164 => ?_) (fun c_164 => ?_)
                  · exact absurd c_164 (by decide)
                  · refine v_iconst (q := 168) (v := 0) hC dL_ofRequests_167 rfl (by decide) ?_
                    refine v_goto (q := 172) hC dL_ofRequests_168 (by decide) ?_
                    refine v_iadd (q := 173) hC dL_ofRequests_172 rfl ?_
                    refine v_iastN (q := 174) hC dL_ofRequests_173 rfl rfl (fun _ => rfl) (i := 4) (rfl) (by first | decide | omega | (unfold oA; omega) | (unfold enA; omega)) (by decide) ?_
                    exact F true _ hm (((hS.pa (by decide)).pa (by decide)).pa (by decide)) rfl rfl hq
              · exact absurd (by decide) c_103
            | succ k ih =>
              intro hk
              refine v_iload (q := 103) hC dL_ofRequests_101 rfl rfl ?_
              refine v_if_le (q := 124) (q2 := 106) hC dL_ofRequests_103 (by decide) rfl (fun c_103 => ?_) (fun c_103 => ?_)
              · exact absurd c_103 (Int32.not_le.mpr (nI_lt (a := 0) (by omega) (by omega)))
              · refine v_aload (q := 108) hC dL_ofRequests_106 rfl rfl ?_
                refine v_iload (q := 110) hC dL_ofRequests_108 rfl rfl ?_
                refine v_aload (q := 112) hC dL_ofRequests_110 rfl rfl ?_
                refine v_iload (q := 114) hC dL_ofRequests_112 rfl rfl ?_
                refine v_iconst (q := 115) (v := 1) hC dL_ofRequests_114 rfl (by decide) ?_
                refine v_isub (q := 116) hC dL_ofRequests_115 rfl ?_
                refine v_ialdN (q := 117) hC dL_ofRequests_116 rfl rfl rfl (i := k) (nI_pred k) (by first | decide | omega | (unfold oA; omega) | (unfold enA; omega)) (by decide) ?_
                refine v_iastN (q := 118) hC dL_ofRequests_117 rfl rfl (fun _ => rfl) (i := k + 1) (rfl) (by first | decide | omega | (unfold oA; omega) | (unfold enA; omega)) (by decide) ?_
                rw [putA_putA, r43, opE_step _ (by omega)]
                refine v_iinc (q := 121) (v := nI k) hC dL_ofRequests_118 rfl rfl (nI_dn k) (lvc rfl) (Nat.le_of_ble_eq_true rfl) (Nat.le_of_ble_eq_true rfl) rfl ?_
                refine v_goto (q := 101) hC dL_ofRequests_121 (by decide) ?_
                exact ih (by omega)
          have h9 := L 7 (by decide)
          rw [opE_0, putA_self] at h9
          refine v_bipush (q := 99) (v := 7) hC dL_ofRequests_97 rfl (by decide) ?_
          refine v_istore (q := 101) hC dL_ofRequests_99 rfl (lvc rfl) (Nat.le_of_ble_eq_true rfl) (Nat.le_of_ble_eq_true rfl) rfl ?_
          exact h9
        have Afalse : mAl (G.2.1 0 30) (nI u) ob (nI ri) = false → V p l e rm_L_ofRequests s m args below meth c 16 Θ (fQ t) 24 144 0 0 97 [some (.ref (tR Θ 0 14)), some (.ref (tR Θ 0 40)), some (.ref (tR Θ 0 41)), some (.ref (tR Θ 0 42)), some (.ref (tR Θ 0 43)), some (.ref (tR Θ 0 44)), some (.int (nI way)), some (.int (nI y)), some (.int (nI u)), some (.int (nI ob)), some (.int (nI ri)), some (.int (1)), some (.int (b2i false)), none, none, none] [] (G) := by
          intro hm
          have hq := hLq.log hc (b := false) (l2 := upd (opE (G.2.1 0 43) 0 7) 0 (nI (100 * u + 2 * ob + Bool.toNat false))) hu hob hq763 (by omega) (fun a => by
            by_cases ha : a = 0
            · rw [ha, upd_s, if_pos rfl]
            · rw [upd_n ha, if_neg ha, opE]
              by_cases h7 : a < 8
              · rw [if_pos (by omega), if_pos h7]
              · rw [if_neg (by omega), if_neg h7])
          have L : ∀ (k : Nat), k ≤ 7 → V p l e rm_L_ofRequests s m args below meth c 16 Θ (fQ t) 24 144 0 0 101 [some (.ref (tR Θ 0 14)), some (.ref (tR Θ 0 40)), some (.ref (tR Θ 0 41)), some (.ref (tR Θ 0 42)), some (.ref (tR Θ 0 43)), some (.ref (tR Θ 0 44)), some (.int (nI way)), some (.int (nI y)), some (.int (nI u)), some (.int (nI ob)), some (.int (nI ri)), some (.int (1)), some (.int (b2i false)), some (.int (nI k)), none, none] [] (putA G 0 43 (opE (G.2.1 0 43) k 7)) := by
            intro k
            induction k with
            | zero =>
              intro hk
              refine v_iload (q := 103) hC dL_ofRequests_101 rfl rfl ?_
              refine v_if_le (q := 124) (q2 := 106) hC dL_ofRequests_103 (by decide) rfl (fun c_103 => ?_) (fun c_103 => ?_)
              · refine v_aload (q := 126) hC dL_ofRequests_124 rfl rfl ?_
                refine v_iconst (q := 127) (v := 0) hC dL_ofRequests_126 rfl (by decide) ?_
                refine v_bipush (q := 129) (v := 100) hC dL_ofRequests_127 rfl (by decide) ?_
                refine v_iload (q := 131) hC dL_ofRequests_129 rfl rfl ?_
                refine v_imul (q := 132) hC dL_ofRequests_131 rfl ?_
                refine v_iconst (q := 133) (v := 2) hC dL_ofRequests_132 rfl (by decide) ?_
                refine v_iload (q := 135) hC dL_ofRequests_133 rfl rfl ?_
                refine v_imul (q := 136) hC dL_ofRequests_135 rfl ?_
                refine v_iadd (q := 137) hC dL_ofRequests_136 rfl ?_
                refine v_iload (q := 139) hC dL_ofRequests_137 rfl rfl ?_
                refine v_if_eq (q := 146) (q2 := 142) hC dL_ofRequests_139 (by decide) rfl (fun c_139 => ?_) (fun c_139 => ?_)
                · refine v_iconst (q := 147) (v := 0) hC dL_ofRequests_146 rfl (by decide) ?_
                  refine v_iadd (q := 148) hC dL_ofRequests_147 rfl ?_
                  rw [log_c0]
                  refine v_iastN (q := 149) hC dL_ofRequests_148 rfl rfl (fun _ => rfl) (i := 0) (rfl) (by first | decide | omega | (unfold oA; omega) | (unfold enA; omega)) (by decide) ?_
                  refine v_aload (q := 151) hC dL_ofRequests_149 rfl rfl ?_
                  refine v_iconst (q := 152) (v := 3) hC dL_ofRequests_151 rfl (by decide) ?_
                  refine v_dup2 (q := 153) hC dL_ofRequests_152 rfl rfl rfl ?_
                  refine v_ialdV (q := 154) hC dL_ofRequests_153 rfl rfl rfl (i := 3) (rfl) (by first | decide | omega) (by decide) (rfl) ?_
                  refine v_iconst (q := 155) (v := 1) hC dL_ofRequests_154 rfl (by decide) ?_
                  refine v_iadd (q := 156) hC dL_ofRequests_155 rfl ?_
                  refine v_iastN (q := 157) hC dL_ofRequests_156 rfl rfl (fun _ => rfl) (i := 3) (rfl) (by first | decide | omega | (unfold oA; omega) | (unfold enA; omega)) (by decide) ?_
                  refine v_aload (q := 159) hC dL_ofRequests_157 rfl rfl ?_
                  refine v_iconst (q := 160) (v := 4) hC dL_ofRequests_159 rfl (by decide) ?_
                  refine v_dup2 (q := 161) hC dL_ofRequests_160 rfl rfl rfl ?_
                  refine v_ialdV (q := 162) hC dL_ofRequests_161 rfl rfl rfl (i := 4) (rfl) (by first | decide | omega) (by decide) ((congrFun (putA_same _ _ _ _) 4).trans (upd_n (by decide))) ?_
                  refine v_iload (q := 164) hC dL_ofRequests_162 rfl rfl ?_
                  refine v_if_eq (q := 171) (q2 := 167) hC dL_ofRequests_164 (by decide) rfl (fun c_164 => ?_) (fun c_164 => ?_)
                  · refine v_iconst (q := 172) (v := 1) hC dL_ofRequests_171 rfl (by decide) ?_
                    refine v_iadd (q := 173) hC dL_ofRequests_172 rfl ?_
                    refine v_iastN (q := 174) hC dL_ofRequests_173 rfl rfl (fun _ => rfl) (i := 4) (rfl) (by first | decide | omega | (unfold oA; omega) | (unfold enA; omega)) (by decide) ?_
                    exact F false _ hm (((hS.pa (by decide)).pa (by decide)).pa (by decide)) rfl rfl hq
                  · exact absurd rfl c_164
                · exact absurd rfl c_139
              · exact absurd (by decide) c_103
            | succ k ih =>
              intro hk
              refine v_iload (q := 103) hC dL_ofRequests_101 rfl rfl ?_
              refine v_if_le (q := 124) (q2 := 106) hC dL_ofRequests_103 (by decide) rfl (fun c_103 => ?_) (fun c_103 => ?_)
              · exact absurd c_103 (Int32.not_le.mpr (nI_lt (a := 0) (by omega) (by omega)))
              · refine v_aload (q := 108) hC dL_ofRequests_106 rfl rfl ?_
                refine v_iload (q := 110) hC dL_ofRequests_108 rfl rfl ?_
                refine v_aload (q := 112) hC dL_ofRequests_110 rfl rfl ?_
                refine v_iload (q := 114) hC dL_ofRequests_112 rfl rfl ?_
                refine v_iconst (q := 115) (v := 1) hC dL_ofRequests_114 rfl (by decide) ?_
                refine v_isub (q := 116) hC dL_ofRequests_115 rfl ?_
                refine v_ialdN (q := 117) hC dL_ofRequests_116 rfl rfl rfl (i := k) (nI_pred k) (by first | decide | omega | (unfold oA; omega) | (unfold enA; omega)) (by decide) ?_
                refine v_iastN (q := 118) hC dL_ofRequests_117 rfl rfl (fun _ => rfl) (i := k + 1) (rfl) (by first | decide | omega | (unfold oA; omega) | (unfold enA; omega)) (by decide) ?_
                rw [putA_putA, r43, opE_step _ (by omega)]
                refine v_iinc (q := 121) (v := nI k) hC dL_ofRequests_118 rfl rfl (nI_dn k) (lvc rfl) (Nat.le_of_ble_eq_true rfl) (Nat.le_of_ble_eq_true rfl) rfl ?_
                refine v_goto (q := 101) hC dL_ofRequests_121 (by decide) ?_
                exact ih (by omega)
          have h9 := L 7 (by decide)
          rw [opE_0, putA_self] at h9
          refine v_bipush (q := 99) (v := 7) hC dL_ofRequests_97 rfl (by decide) ?_
          refine v_istore (q := 101) hC dL_ofRequests_99 rfl (lvc rfl) (Nat.le_of_ble_eq_true rfl) (Nat.le_of_ble_eq_true rfl) rfl ?_
          exact h9
        refine v_iload (q := 28) hC dL_ofRequests_26 rfl rfl ?_
        refine v_aload (q := 30) hC dL_ofRequests_28 rfl rfl ?_
        refine v_iconst (q := 31) (v := 0) hC dL_ofRequests_30 rfl (by decide) ?_
        refine v_ialdV (q := 32) hC dL_ofRequests_31 rfl rfl rfl (i := 0) (rfl) (by first | decide | omega) (by decide) (e0) ?_
        refine v_icmp_ge (q := 48) (q2 := 35) hC dL_ofRequests_32 (by decide) rfl (fun c_32 => ?_) (fun c_32 => ?_)
        · exact absurd c_32 (nI_ge hu1 (by omega))
        · refine v_aload_n (i := 2) (q := 36) hC dL_ofRequests_35 rfl rfl rfl ?_
          refine v_iload (q := 38) hC dL_ofRequests_36 rfl rfl ?_
          refine v_ialdV (q := 39) hC dL_ofRequests_38 rfl rfl rfl (i := ob) (rfl) (by first | decide | omega) (by decide) (rfl) ?_
          refine v_bipush (q := 41) (v := (-2)) hC dL_ofRequests_39 rfl (by decide) ?_
          refine v_icmp_eq (q := 48) (q2 := 44) hC dL_ofRequests_41 (by decide) rfl (fun c_41 => ?_) (fun c_41 => ?_)
          · exact absurd h1 ((hD.p2 hob).mp c_41)
          · refine v_iconst (q := 45) (v := 1) hC dL_ofRequests_44 rfl (by decide) ?_
            refine v_goto (q := 49) hC dL_ofRequests_45 (by decide) ?_
            refine v_istore (q := 51) hC dL_ofRequests_49 rfl (lvc rfl) (Nat.le_of_ble_eq_true rfl) (Nat.le_of_ble_eq_true rfl) rfl ?_
            refine v_iload (q := 53) hC dL_ofRequests_51 rfl rfl ?_
            refine v_iconst (q := 54) (v := 2) hC dL_ofRequests_53 rfl (by decide) ?_
            refine v_icmp_ge (q := 203) (q2 := 57) hC dL_ofRequests_54 (by decide) rfl (fun c_54 => ?_) (fun c_54 => ?_)
            · exact absurd n2 (Int32.not_lt.mpr c_54)
            · refine v_iload (q := 59) hC dL_ofRequests_57 rfl rfl ?_
              refine v_if_ne (q := 83) (q2 := 62) hC dL_ofRequests_59 (by decide) rfl (fun c_59 => ?_) (fun c_59 => ?_)
              · refine v_aload_n (i := 1) (q := 84) hC dL_ofRequests_83 rfl rfl rfl ?_
                refine v_aload_n (i := 2) (q := 85) hC dL_ofRequests_84 rfl rfl rfl ?_
                refine v_aload_n (i := 3) (q := 86) hC dL_ofRequests_85 rfl rfl rfl ?_
                refine v_iload (q := 88) hC dL_ofRequests_86 rfl rfl ?_
                refine v_iload (q := 90) hC dL_ofRequests_88 rfl rfl ?_
                refine v_iload (q := 92) hC dL_ofRequests_90 rfl rfl ?_
                refine v_callSN (q := 95) (rm := rm_L_allowed) hC (c_L_allowed hl Θ u ob ri _ hD hu hob h1 hri) k_L_allowed st_yL_allowed ml_RL_192 dL_ofRequests_92 rfl rfl rfl (Nat.le_of_ble_eq_true rfl) ⟨Nat.le_of_ble_eq_true rfl, Nat.le_of_ble_eq_true rfl⟩ (c1 := 0) (s1 := 0) rfl rfl ⟨show _ + 0 ≤ 24 by omega, show _ + 0 ≤ 144 by omega⟩ (fR_k ?_) fR_n
                try dsimp only [Option.toList, List.cons_append, List.nil_append]
                refine v_istore (q := 97) hC dL_ofRequests_95 rfl (lvc rfl) (Nat.le_of_ble_eq_true rfl) (Nat.le_of_ble_eq_true rfl) rfl ?_
                cases hm : mAl (G.2.1 0 30) (nI u) ob (nI ri)
                · exact Afalse hm
                · exact Atrue hm
              · exact absurd c_59 (by decide)
      · have n2 : ¬ nI way < 2 := nI_nlt (b := 2) (by omega) (by omega)
        have cg : (mIn (nI u) 0 (G.2.1 0 30 0 - 1) && (mHold (G.2.1 0 30) (nI ob) && mIn (nI ot) 0 (G.2.1 0 30 0 - 1))) = true := by
          rw [hD.mU (by omega), hD.mU (by omega), hh, decide_eq_true hu1, decide_eq_true h1, decide_eq_true hotU]; rfl
        by_cases hcan : mRg (G.2.1 0 30) (nI u) ob &&& (nI r ||| 8) = nI r ||| 8 ∧ ¬ mCt (G.2.1 0 30) ob = 6
        · have c2 : (!(!decide (mRg (G.2.1 0 30) (nI u) ob &&& (nI r ||| 8) = nI r ||| 8) || decide (G.2.1 0 30 (oA ob 5) = 6))) = true := by
            rw [decide_eq_true hcan.1, hct, decide_eq_false (show ¬ nI (mCt (G.2.1 0 30) ob) = 6 from fun z => hcan.2 ((nI_eq (b := 6) (by omega) (by decide)).mp z))]; rfl
          have hq := hLq.sh hc hob h1 rfl (show mCt (G.2.1 0 30) ob < 6 by omega) (show ot < 12 by omega) hr16
          have r42 : ∀ a, (putA G 0 42 a).2.1 0 42 = a := fun a => putA_same _ _ _ _
          have F : ∀ (G1 : GS), Sim G1 t → G1.2.1 0 30 = G.2.1 0 30 → G1.2.2.1 = G.2.2.1 → LRq (mSh (G.2.1 0 30) ob (nI ot) (nI r)) (G1.2.1 0 40) (G1.2.1 0 41) (G1.2.1 0 42) (G1.2.1 0 43) (G1.2.1 0 44) → V p l e rm_L_ofRequests s m args below meth c 16 Θ (fQ t) 24 144 0 0 389 [some (.ref (tR Θ 0 14)), some (.ref (tR Θ 0 40)), some (.ref (tR Θ 0 41)), some (.ref (tR Θ 0 42)), some (.ref (tR Θ 0 43)), some (.ref (tR Θ 0 44)), some (.int (nI way)), some (.int (nI y)), some (.int (nI u)), some (.int (nI ob)), some (.int (nI ri)), some (.int (1)), some (.int (nI ot)), some (.int (nI r)), some (.int (nI r ||| 8)), some (.int (0))] [] (G1) := by
            intro G1 hS1 hw1 hl1 hq1
            refine v_aload_n (i := 0) (q := 390) hC dL_ofRequests_389 rfl rfl rfl ?_
            refine v_iload (q := 392) hC dL_ofRequests_390 rfl rfl ?_
            refine v_iload (q := 394) hC dL_ofRequests_392 rfl rfl ?_
            refine v_iload (q := 396) hC dL_ofRequests_394 rfl rfl ?_
            refine v_iload (q := 398) hC dL_ofRequests_396 rfl rfl ?_
            refine v_callR (q := 401) (rm := rm_L_shareOf) hC ((r_share hl Θ (Nx.refl hS1) ht (nI u) (nI ob) (nI ot) (nI r)).p (v2 := mRg (mSh (G.2.1 0 30) ob (nI ot) (nI r)) (nI ot) ob) (w2 := mSh (G.2.1 0 30) ob (nI ot) (nI r)) (by rw [hw1, if_pos cg, if_pos mr, eob, if_pos c2]; rfl) (by rw [hw1, if_pos cg, if_pos mr, eob, if_pos c2])) kh_L_shareOf ml_RL_392 dL_ofRequests_398 rfl rfl rfl (Nat.le_of_ble_eq_true rfl) ⟨Nat.le_of_ble_eq_true rfl, Nat.le_of_ble_eq_true rfl⟩ (c1 := 6) (s1 := 36) rfl rfl ⟨show _ + 6 ≤ 24 by omega, show _ + 36 ≤ 144 by omega⟩ (pQ_k (fun G_398 s_398 w_398 a_398 l_398 => ?_)) pQ_n
            try dsimp only [Option.toList, List.cons_append, List.nil_append]
            have hL9 := LR.lrq s_398 w_398 a_398 hq1
            refine v_aload_n (i := 1) (q := 402) hC dL_ofRequests_401 rfl rfl rfl ?_
            refine v_aload_n (i := 2) (q := 403) hC dL_ofRequests_402 rfl rfl rfl ?_
            refine v_aload_n (i := 3) (q := 404) hC dL_ofRequests_403 rfl rfl rfl ?_
            refine v_iload (q := 406) hC dL_ofRequests_404 rfl rfl ?_
            refine v_iload (q := 408) hC dL_ofRequests_406 rfl rfl ?_
            refine v_callSN (q := 411) (rm := rm_L_rights) hC (c_L_rights hl Θ ot ob _ hL9.1 (by omega) hob (by rw [w_398, mSh_0 _ _ h6]; exact h1)) k_L_rights st_yL_rights ml_RL_198 dL_ofRequests_408 rfl rfl rfl (Nat.le_of_ble_eq_true rfl) ⟨Nat.le_of_ble_eq_true rfl, Nat.le_of_ble_eq_true rfl⟩ (c1 := 0) (s1 := 0) rfl rfl ⟨show _ + 0 ≤ 24 by omega, show _ + 0 ≤ 144 by omega⟩ (fR_k ?_) fR_n
            try dsimp only [Option.toList, List.cons_append, List.nil_append]
            rw [w_398]
            refine v_icmp_ne (q := 418) (q2 := 414) hC dL_ofRequests_411 (by decide) rfl (fun c_411 => ?_) (fun c_411 => ?_)
            · exact absurd rfl c_411
            · refine v_iconst (q := 415) (v := 1) hC dL_ofRequests_414 rfl (by decide) ?_
              refine v_goto (q := 419) hC dL_ofRequests_415 (by decide) ?_
              refine v_iret hC dL_ofRequests_419 hr (rfl) ?_ (show _ ≤ 24 by omega) (show _ ≤ 144 by omega)
              exact ⟨rfl, s_398, hL9, by rw [l_398, hl1]; exact hlv⟩
          have L : ∀ (k : Nat), k ≤ mCt (G.2.1 0 30) ob → V p l e rm_L_ofRequests s m args below meth c 16 Θ (fQ t) 24 144 0 0 326 [some (.ref (tR Θ 0 14)), some (.ref (tR Θ 0 40)), some (.ref (tR Θ 0 41)), some (.ref (tR Θ 0 42)), some (.ref (tR Θ 0 43)), some (.ref (tR Θ 0 44)), some (.int (nI way)), some (.int (nI y)), some (.int (nI u)), some (.int (nI ob)), some (.int (nI ri)), some (.int (1)), some (.int (nI ot)), some (.int (nI r)), some (.int (nI r ||| 8)), some (.int (nI k))] [] (putA G 0 42 (opE (G.2.1 0 42) (6 * ob + k) (6 * ob + mCt (G.2.1 0 30) ob))) := by
            intro k
            induction k with
            | zero =>
              intro hk
              refine v_iload (q := 328) hC dL_ofRequests_326 rfl rfl ?_
              refine v_if_le (q := 359) (q2 := 331) hC dL_ofRequests_328 (by decide) rfl (fun c_328 => ?_) (fun c_328 => ?_)
              · refine v_aload_n (i := 3) (q := 360) hC dL_ofRequests_359 rfl rfl rfl ?_
                refine v_bipush (q := 362) (v := 6) hC dL_ofRequests_360 rfl (by decide) ?_
                refine v_iload (q := 364) hC dL_ofRequests_362 rfl rfl ?_
                refine v_imul (q := 365) hC dL_ofRequests_364 rfl ?_
                refine v_bipush (q := 367) (v := 16) hC dL_ofRequests_365 rfl (by decide) ?_
                refine v_iload (q := 369) hC dL_ofRequests_367 rfl rfl ?_
                refine v_imul (q := 370) hC dL_ofRequests_369 rfl ?_
                refine v_iload (q := 372) hC dL_ofRequests_370 rfl rfl ?_
                refine v_iadd (q := 373) hC dL_ofRequests_372 rfl ?_
                refine v_iconst (q := 374) (v := 4) hC dL_ofRequests_373 rfl (by decide) ?_
                refine v_imul (q := 375) hC dL_ofRequests_374 rfl ?_
                refine v_iconst (q := 376) (v := 2) hC dL_ofRequests_375 rfl (by decide) ?_
                refine v_iadd (q := 377) hC dL_ofRequests_376 rfl ?_
                rw [sh_cod]
                refine v_iastN (q := 378) hC dL_ofRequests_377 rfl rfl (fun _ => rfl) (i := 6 * ob) ((by rw [show (6 : Int32) = nI 6 from rfl, nI_mul])) (by first | decide | omega | (unfold oA; omega) | (unfold enA; omega)) (by decide) ?_
                refine v_aload_n (i := 2) (q := 379) hC dL_ofRequests_378 rfl rfl rfl ?_
                refine v_bipush (q := 381) (v := 40) hC dL_ofRequests_379 rfl (by decide) ?_
                refine v_iload (q := 383) hC dL_ofRequests_381 rfl rfl ?_
                refine v_iadd (q := 384) hC dL_ofRequests_383 rfl ?_
                refine v_dup2 (q := 385) hC dL_ofRequests_384 rfl rfl rfl ?_
                refine v_ialdV (q := 386) hC dL_ofRequests_385 rfl rfl rfl (i := 40 + ob) (nI_add 40 ob) (by first | decide | omega) (by decide) ((congrFun (putA_o _ _ (by decide)) _).trans ((congrFun (putA_o _ _ (by decide)) _).trans hpc)) ?_
                refine v_iconst (q := 387) (v := 1) hC dL_ofRequests_386 rfl (by decide) ?_
                refine v_iadd (q := 388) hC dL_ofRequests_387 rfl ?_
                rw [nI_1]
                refine v_iastN (q := 389) hC dL_ofRequests_388 rfl rfl (fun _ => rfl) (i := 40 + ob) (nI_add 40 ob) (by first | decide | omega | (unfold oA; omega) | (unfold enA; omega)) (by decide) ?_
                exact F _ (((hS.pa (by decide)).pa (by decide)).pa (by decide)) rfl rfl hq
              · exact absurd (by decide) c_328
            | succ k ih =>
              intro hk
              refine v_iload (q := 328) hC dL_ofRequests_326 rfl rfl ?_
              refine v_if_le (q := 359) (q2 := 331) hC dL_ofRequests_328 (by decide) rfl (fun c_328 => ?_) (fun c_328 => ?_)
              · exact absurd c_328 (Int32.not_le.mpr (nI_lt (a := 0) (by omega) (by omega)))
              · refine v_aload_n (i := 3) (q := 332) hC dL_ofRequests_331 rfl rfl rfl ?_
                refine v_bipush (q := 334) (v := 6) hC dL_ofRequests_332 rfl (by decide) ?_
                refine v_iload (q := 336) hC dL_ofRequests_334 rfl rfl ?_
                refine v_imul (q := 337) hC dL_ofRequests_336 rfl ?_
                refine v_iload (q := 339) hC dL_ofRequests_337 rfl rfl ?_
                refine v_iadd (q := 340) hC dL_ofRequests_339 rfl ?_
                refine v_aload_n (i := 3) (q := 341) hC dL_ofRequests_340 rfl rfl rfl ?_
                refine v_bipush (q := 343) (v := 6) hC dL_ofRequests_341 rfl (by decide) ?_
                refine v_iload (q := 345) hC dL_ofRequests_343 rfl rfl ?_
                refine v_imul (q := 346) hC dL_ofRequests_345 rfl ?_
                refine v_iload (q := 348) hC dL_ofRequests_346 rfl rfl ?_
                refine v_iadd (q := 349) hC dL_ofRequests_348 rfl ?_
                refine v_iconst (q := 350) (v := 1) hC dL_ofRequests_349 rfl (by decide) ?_
                refine v_isub (q := 351) hC dL_ofRequests_350 rfl ?_
                refine v_ialdN (q := 352) hC dL_ofRequests_351 rfl rfl rfl (i := 6 * ob + k) ((by rw [ix, show 6 * ob + (k + 1) = 6 * ob + k + 1 by omega, nI_pred])) (by first | decide | omega | (unfold oA; omega) | (unfold enA; omega)) (by decide) ?_
                refine v_iastN (q := 353) hC dL_ofRequests_352 rfl rfl (fun _ => rfl) (i := 6 * ob + k + 1) (ix (k + 1)) (by first | decide | omega | (unfold oA; omega) | (unfold enA; omega)) (by decide) ?_
                rw [putA_putA, r42, show 6 * ob + (k + 1) = 6 * ob + k + 1 by omega, opE_step _ (by omega)]
                refine v_iinc (q := 356) (v := nI k) hC dL_ofRequests_353 rfl rfl (nI_dn k) (lvc rfl) (Nat.le_of_ble_eq_true rfl) (Nat.le_of_ble_eq_true rfl) rfl ?_
                refine v_goto (q := 326) hC dL_ofRequests_356 (by decide) ?_
                exact ih (by omega)
          have h9 := L (mCt (G.2.1 0 30) ob) (Nat.le_refl _)
          rw [opE_0, putA_self] at h9
          refine v_iload (q := 28) hC dL_ofRequests_26 rfl rfl ?_
          refine v_aload (q := 30) hC dL_ofRequests_28 rfl rfl ?_
          refine v_iconst (q := 31) (v := 0) hC dL_ofRequests_30 rfl (by decide) ?_
          refine v_ialdV (q := 32) hC dL_ofRequests_31 rfl rfl rfl (i := 0) (rfl) (by first | decide | omega) (by decide) (e0) ?_
          refine v_icmp_ge (q := 48) (q2 := 35) hC dL_ofRequests_32 (by decide) rfl (fun c_32 => ?_) (fun c_32 => ?_)
          · exact absurd c_32 (nI_ge hu1 (by omega))
          · refine v_aload_n (i := 2) (q := 36) hC dL_ofRequests_35 rfl rfl rfl ?_
            refine v_iload (q := 38) hC dL_ofRequests_36 rfl rfl ?_
            refine v_ialdV (q := 39) hC dL_ofRequests_38 rfl rfl rfl (i := ob) (rfl) (by first | decide | omega) (by decide) (rfl) ?_
            refine v_bipush (q := 41) (v := (-2)) hC dL_ofRequests_39 rfl (by decide) ?_
            refine v_icmp_eq (q := 48) (q2 := 44) hC dL_ofRequests_41 (by decide) rfl (fun c_41 => ?_) (fun c_41 => ?_)
            · exact absurd h1 ((hD.p2 hob).mp c_41)
            · refine v_iconst (q := 45) (v := 1) hC dL_ofRequests_44 rfl (by decide) ?_
              refine v_goto (q := 49) hC dL_ofRequests_45 (by decide) ?_
              refine v_istore (q := 51) hC dL_ofRequests_49 rfl (lvc rfl) (Nat.le_of_ble_eq_true rfl) (Nat.le_of_ble_eq_true rfl) rfl ?_
              refine v_iload (q := 53) hC dL_ofRequests_51 rfl rfl ?_
              refine v_iconst (q := 54) (v := 2) hC dL_ofRequests_53 rfl (by decide) ?_
              refine v_icmp_ge (q := 203) (q2 := 57) hC dL_ofRequests_54 (by decide) rfl (fun c_54 => ?_) (fun c_54 => ?_)
              · refine v_iload (q := 205) hC dL_ofRequests_203 rfl rfl ?_
                refine v_sipush (q := 208) (v := 480) hC dL_ofRequests_205 rfl (by decide) ?_
                refine v_idiv (q := 209) hC dL_ofRequests_208 rfl (by decide) ?_
                refine v_aload (q := 211) hC dL_ofRequests_209 rfl rfl ?_
                refine v_iconst (q := 212) (v := 0) hC dL_ofRequests_211 rfl (by decide) ?_
                refine v_ialdV (q := 213) hC dL_ofRequests_212 rfl rfl rfl (i := 0) (rfl) (by first | decide | omega) (by decide) (e0) ?_
                refine v_irem (q := 214) hC dL_ofRequests_213 rfl (hnz) ?_
                rw [d3]
                refine v_istore (q := 216) hC dL_ofRequests_214 rfl (lvc rfl) (Nat.le_of_ble_eq_true rfl) (Nat.le_of_ble_eq_true rfl) rfl ?_
                refine v_iconst (q := 217) (v := 1) hC dL_ofRequests_216 rfl (by decide) ?_
                refine v_iload (q := 219) hC dL_ofRequests_217 rfl rfl ?_
                refine v_sipush (q := 222) (v := 5760) hC dL_ofRequests_219 rfl (by decide) ?_
                refine v_idiv (q := 223) hC dL_ofRequests_222 rfl (by decide) ?_
                refine v_bipush (q := 225) (v := 15) hC dL_ofRequests_223 rfl (by decide) ?_
                refine v_irem (q := 226) hC dL_ofRequests_225 rfl (by decide) ?_
                refine v_iadd (q := 227) hC dL_ofRequests_226 rfl ?_
                rw [d4]
                refine v_istore (q := 229) hC dL_ofRequests_227 rfl (lvc rfl) (Nat.le_of_ble_eq_true rfl) (Nat.le_of_ble_eq_true rfl) rfl ?_
                refine v_iload (q := 231) hC dL_ofRequests_229 rfl rfl ?_
                refine v_bipush (q := 233) (v := 8) hC dL_ofRequests_231 rfl (by decide) ?_
                refine v_ior (q := 234) hC dL_ofRequests_233 rfl ?_
                refine v_istore (q := 236) hC dL_ofRequests_234 rfl (lvc rfl) (Nat.le_of_ble_eq_true rfl) (Nat.le_of_ble_eq_true rfl) rfl ?_
                refine v_iload (q := 238) hC dL_ofRequests_236 rfl rfl ?_
                refine v_if_ne (q := 264) (q2 := 241) hC dL_ofRequests_238 (by decide) rfl (fun c_238 => ?_) (fun c_238 => ?_)
                · refine v_aload_n (i := 1) (q := 265) hC dL_ofRequests_264 rfl rfl rfl ?_
                  refine v_aload_n (i := 2) (q := 266) hC dL_ofRequests_265 rfl rfl rfl ?_
                  refine v_aload_n (i := 3) (q := 267) hC dL_ofRequests_266 rfl rfl rfl ?_
                  refine v_iload (q := 269) hC dL_ofRequests_267 rfl rfl ?_
                  refine v_iload (q := 271) hC dL_ofRequests_269 rfl rfl ?_
                  refine v_callSN (q := 274) (rm := rm_L_rights) hC (c_L_rights hl Θ u ob _ hD hu hob h1) k_L_rights st_yL_rights ml_RL_198 dL_ofRequests_271 rfl rfl rfl (Nat.le_of_ble_eq_true rfl) ⟨Nat.le_of_ble_eq_true rfl, Nat.le_of_ble_eq_true rfl⟩ (c1 := 0) (s1 := 0) rfl rfl ⟨show _ + 0 ≤ 24 by omega, show _ + 0 ≤ 144 by omega⟩ (fR_k ?_) fR_n
                  try dsimp only [Option.toList, List.cons_append, List.nil_append]
                  refine v_iload (q := 276) hC dL_ofRequests_274 rfl rfl ?_
                  refine v_iand (q := 277) hC dL_ofRequests_276 rfl ?_
                  refine v_iload (q := 279) hC dL_ofRequests_277 rfl rfl ?_
                  refine v_icmp_ne (q := 294) (q2 := 282) hC dL_ofRequests_279 (by decide) rfl (fun c_279 => ?_) (fun c_279 => ?_)
                  · exact absurd hcan.1 c_279
                  · refine v_aload_n (i := 2) (q := 283) hC dL_ofRequests_282 rfl rfl rfl ?_
                    refine v_bipush (q := 285) (v := 40) hC dL_ofRequests_283 rfl (by decide) ?_
                    refine v_iload (q := 287) hC dL_ofRequests_285 rfl rfl ?_
                    refine v_iadd (q := 288) hC dL_ofRequests_287 rfl ?_
                    refine v_ialdV (q := 289) hC dL_ofRequests_288 rfl rfl rfl (i := 40 + ob) (nI_add 40 ob) (by first | decide | omega) (by decide) (hpc) ?_
                    refine v_bipush (q := 291) (v := 6) hC dL_ofRequests_289 rfl (by decide) ?_
                    refine v_icmp_ne (q := 317) (q2 := 294) hC dL_ofRequests_291 (by decide) rfl (fun c_291 => ?_) (fun c_291 => ?_)
                    · refine v_aload_n (i := 2) (q := 318) hC dL_ofRequests_317 rfl rfl rfl ?_
                      refine v_bipush (q := 320) (v := 40) hC dL_ofRequests_318 rfl (by decide) ?_
                      refine v_iload (q := 322) hC dL_ofRequests_320 rfl rfl ?_
                      refine v_iadd (q := 323) hC dL_ofRequests_322 rfl ?_
                      refine v_ialdV (q := 324) hC dL_ofRequests_323 rfl rfl rfl (i := 40 + ob) (nI_add 40 ob) (by first | decide | omega) (by decide) (hpc) ?_
                      refine v_istore (q := 326) hC dL_ofRequests_324 rfl (lvc rfl) (Nat.le_of_ble_eq_true rfl) (Nat.le_of_ble_eq_true rfl) rfl ?_
                      exact h9
                    · exact absurd ((nI_eq (b := 6) (by omega) (by decide)).mp c_291) hcan.2
                · exact absurd c_238 (by decide)
              · exact absurd (Int32.not_le.mp c_54) n2
        · have c2 : ¬ (!(!decide (mRg (G.2.1 0 30) (nI u) ob &&& (nI r ||| 8) = nI r ||| 8) || decide (G.2.1 0 30 (oA ob 5) = 6))) = true := by
            rw [hct]
            intro z
            refine hcan ⟨?_, fun z2 => ?_⟩
            · refine Classical.byContradiction fun z3 => ?_
              rw [decide_eq_false z3, Bool.not_false, Bool.true_or] at z
              exact absurd z (by decide)
            · rw [z2, show decide (nI 6 = 6) = true from rfl, Bool.or_true] at z
              exact absurd z (by decide)
          have vN := (r_share hl Θ z0 ht (nI u) (nI ob) (nI ot) (nI r)).p (v2 := -103) (w2 := G.2.1 0 30) (by rw [eob]; exact (if_pos cg).trans ((if_pos mr).trans (if_neg c2))) (by rw [eob]; exact (if_pos cg).trans ((if_pos mr).trans (if_neg c2)))
          refine v_iload (q := 28) hC dL_ofRequests_26 rfl rfl ?_
          refine v_aload (q := 30) hC dL_ofRequests_28 rfl rfl ?_
          refine v_iconst (q := 31) (v := 0) hC dL_ofRequests_30 rfl (by decide) ?_
          refine v_ialdV (q := 32) hC dL_ofRequests_31 rfl rfl rfl (i := 0) (rfl) (by first | decide | omega) (by decide) (e0) ?_
          refine v_icmp_ge (q := 48) (q2 := 35) hC dL_ofRequests_32 (by decide) rfl (fun c_32 => ?_) (fun c_32 => ?_)
          · exact absurd c_32 (nI_ge hu1 (by omega))
          · refine v_aload_n (i := 2) (q := 36) hC dL_ofRequests_35 rfl rfl rfl ?_
            refine v_iload (q := 38) hC dL_ofRequests_36 rfl rfl ?_
            refine v_ialdV (q := 39) hC dL_ofRequests_38 rfl rfl rfl (i := ob) (rfl) (by first | decide | omega) (by decide) (rfl) ?_
            refine v_bipush (q := 41) (v := (-2)) hC dL_ofRequests_39 rfl (by decide) ?_
            refine v_icmp_eq (q := 48) (q2 := 44) hC dL_ofRequests_41 (by decide) rfl (fun c_41 => ?_) (fun c_41 => ?_)
            · exact absurd h1 ((hD.p2 hob).mp c_41)
            · refine v_iconst (q := 45) (v := 1) hC dL_ofRequests_44 rfl (by decide) ?_
              refine v_goto (q := 49) hC dL_ofRequests_45 (by decide) ?_
              refine v_istore (q := 51) hC dL_ofRequests_49 rfl (lvc rfl) (Nat.le_of_ble_eq_true rfl) (Nat.le_of_ble_eq_true rfl) rfl ?_
              refine v_iload (q := 53) hC dL_ofRequests_51 rfl rfl ?_
              refine v_iconst (q := 54) (v := 2) hC dL_ofRequests_53 rfl (by decide) ?_
              refine v_icmp_ge (q := 203) (q2 := 57) hC dL_ofRequests_54 (by decide) rfl (fun c_54 => ?_) (fun c_54 => ?_)
              · refine v_iload (q := 205) hC dL_ofRequests_203 rfl rfl ?_
                refine v_sipush (q := 208) (v := 480) hC dL_ofRequests_205 rfl (by decide) ?_
                refine v_idiv (q := 209) hC dL_ofRequests_208 rfl (by decide) ?_
                refine v_aload (q := 211) hC dL_ofRequests_209 rfl rfl ?_
                refine v_iconst (q := 212) (v := 0) hC dL_ofRequests_211 rfl (by decide) ?_
                refine v_ialdV (q := 213) hC dL_ofRequests_212 rfl rfl rfl (i := 0) (rfl) (by first | decide | omega) (by decide) (e0) ?_
                refine v_irem (q := 214) hC dL_ofRequests_213 rfl (hnz) ?_
                rw [d3]
                refine v_istore (q := 216) hC dL_ofRequests_214 rfl (lvc rfl) (Nat.le_of_ble_eq_true rfl) (Nat.le_of_ble_eq_true rfl) rfl ?_
                refine v_iconst (q := 217) (v := 1) hC dL_ofRequests_216 rfl (by decide) ?_
                refine v_iload (q := 219) hC dL_ofRequests_217 rfl rfl ?_
                refine v_sipush (q := 222) (v := 5760) hC dL_ofRequests_219 rfl (by decide) ?_
                refine v_idiv (q := 223) hC dL_ofRequests_222 rfl (by decide) ?_
                refine v_bipush (q := 225) (v := 15) hC dL_ofRequests_223 rfl (by decide) ?_
                refine v_irem (q := 226) hC dL_ofRequests_225 rfl (by decide) ?_
                refine v_iadd (q := 227) hC dL_ofRequests_226 rfl ?_
                rw [d4]
                refine v_istore (q := 229) hC dL_ofRequests_227 rfl (lvc rfl) (Nat.le_of_ble_eq_true rfl) (Nat.le_of_ble_eq_true rfl) rfl ?_
                refine v_iload (q := 231) hC dL_ofRequests_229 rfl rfl ?_
                refine v_bipush (q := 233) (v := 8) hC dL_ofRequests_231 rfl (by decide) ?_
                refine v_ior (q := 234) hC dL_ofRequests_233 rfl ?_
                refine v_istore (q := 236) hC dL_ofRequests_234 rfl (lvc rfl) (Nat.le_of_ble_eq_true rfl) (Nat.le_of_ble_eq_true rfl) rfl ?_
                refine v_iload (q := 238) hC dL_ofRequests_236 rfl rfl ?_
                refine v_if_ne (q := 264) (q2 := 241) hC dL_ofRequests_238 (by decide) rfl (fun c_238 => ?_) (fun c_238 => ?_)
                · refine v_aload_n (i := 1) (q := 265) hC dL_ofRequests_264 rfl rfl rfl ?_
                  refine v_aload_n (i := 2) (q := 266) hC dL_ofRequests_265 rfl rfl rfl ?_
                  refine v_aload_n (i := 3) (q := 267) hC dL_ofRequests_266 rfl rfl rfl ?_
                  refine v_iload (q := 269) hC dL_ofRequests_267 rfl rfl ?_
                  refine v_iload (q := 271) hC dL_ofRequests_269 rfl rfl ?_
                  refine v_callSN (q := 274) (rm := rm_L_rights) hC (c_L_rights hl Θ u ob _ hD hu hob h1) k_L_rights st_yL_rights ml_RL_198 dL_ofRequests_271 rfl rfl rfl (Nat.le_of_ble_eq_true rfl) ⟨Nat.le_of_ble_eq_true rfl, Nat.le_of_ble_eq_true rfl⟩ (c1 := 0) (s1 := 0) rfl rfl ⟨show _ + 0 ≤ 24 by omega, show _ + 0 ≤ 144 by omega⟩ (fR_k ?_) fR_n
                  try dsimp only [Option.toList, List.cons_append, List.nil_append]
                  refine v_iload (q := 276) hC dL_ofRequests_274 rfl rfl ?_
                  refine v_iand (q := 277) hC dL_ofRequests_276 rfl ?_
                  refine v_iload (q := 279) hC dL_ofRequests_277 rfl rfl ?_
                  refine v_icmp_ne (q := 294) (q2 := 282) hC dL_ofRequests_279 (by decide) rfl (fun c_279 => ?_) (fun c_279 => ?_)
                  · refine v_aload_n (i := 0) (q := 295) hC dL_ofRequests_294 rfl rfl rfl ?_
                    refine v_iload (q := 297) hC dL_ofRequests_295 rfl rfl ?_
                    refine v_iload (q := 299) hC dL_ofRequests_297 rfl rfl ?_
                    refine v_iload (q := 301) hC dL_ofRequests_299 rfl rfl ?_
                    refine v_iload (q := 303) hC dL_ofRequests_301 rfl rfl ?_
                    refine v_callR (q := 306) (rm := rm_L_shareOf) hC (vN) kh_L_shareOf ml_RL_392 dL_ofRequests_303 rfl rfl rfl (Nat.le_of_ble_eq_true rfl) ⟨Nat.le_of_ble_eq_true rfl, Nat.le_of_ble_eq_true rfl⟩ (c1 := 6) (s1 := 36) rfl rfl ⟨show _ + 6 ≤ 24 by omega, show _ + 36 ≤ 144 by omega⟩ (pQ_k (fun G_303 s_303 w_303 a_303 l_303 => ?_)) pQ_n
                    try dsimp only [Option.toList, List.cons_append, List.nil_append]
                    refine v_bipush (q := 308) (v := (-103)) hC dL_ofRequests_306 rfl (by decide) ?_
                    refine v_icmp_ne (q := 315) (q2 := 311) hC dL_ofRequests_308 (by decide) rfl (fun c_308 => ?_) (fun c_308 => ?_)
                    · exact absurd rfl c_308
                    · refine v_iconst (q := 312) (v := 1) hC dL_ofRequests_311 rfl (by decide) ?_
                      refine v_goto (q := 316) hC dL_ofRequests_312 (by decide) ?_
                      refine v_iret hC dL_ofRequests_316 hr (rfl) ?_ (show _ ≤ 24 by omega) (show _ ≤ 144 by omega)
                      exact fQ_mk s_303 w_303 a_303 l_303 hlv hLq
                  · refine v_aload_n (i := 2) (q := 283) hC dL_ofRequests_282 rfl rfl rfl ?_
                    refine v_bipush (q := 285) (v := 40) hC dL_ofRequests_283 rfl (by decide) ?_
                    refine v_iload (q := 287) hC dL_ofRequests_285 rfl rfl ?_
                    refine v_iadd (q := 288) hC dL_ofRequests_287 rfl ?_
                    refine v_ialdV (q := 289) hC dL_ofRequests_288 rfl rfl rfl (i := 40 + ob) (nI_add 40 ob) (by first | decide | omega) (by decide) (hpc) ?_
                    refine v_bipush (q := 291) (v := 6) hC dL_ofRequests_289 rfl (by decide) ?_
                    refine v_icmp_ne (q := 317) (q2 := 294) hC dL_ofRequests_291 (by decide) rfl (fun c_291 => ?_) (fun c_291 => ?_)
                    · exact absurd ⟨c_279, fun z => c_291 (by rw [z]; rfl)⟩ hcan
                    · refine v_aload_n (i := 0) (q := 295) hC dL_ofRequests_294 rfl rfl rfl ?_
                      refine v_iload (q := 297) hC dL_ofRequests_295 rfl rfl ?_
                      refine v_iload (q := 299) hC dL_ofRequests_297 rfl rfl ?_
                      refine v_iload (q := 301) hC dL_ofRequests_299 rfl rfl ?_
                      refine v_iload (q := 303) hC dL_ofRequests_301 rfl rfl ?_
                      refine v_callR (q := 306) (rm := rm_L_shareOf) hC (vN) kh_L_shareOf ml_RL_392 dL_ofRequests_303 rfl rfl rfl (Nat.le_of_ble_eq_true rfl) ⟨Nat.le_of_ble_eq_true rfl, Nat.le_of_ble_eq_true rfl⟩ (c1 := 6) (s1 := 36) rfl rfl ⟨show _ + 6 ≤ 24 by omega, show _ + 36 ≤ 144 by omega⟩ (pQ_k (fun G_303 s_303 w_303 a_303 l_303 => ?_)) pQ_n
                      try dsimp only [Option.toList, List.cons_append, List.nil_append]
                      refine v_bipush (q := 308) (v := (-103)) hC dL_ofRequests_306 rfl (by decide) ?_
                      refine v_icmp_ne (q := 315) (q2 := 311) hC dL_ofRequests_308 (by decide) rfl (fun c_308 => ?_) (fun c_308 => ?_)
                      · exact absurd rfl c_308
                      · refine v_iconst (q := 312) (v := 1) hC dL_ofRequests_311 rfl (by decide) ?_
                        refine v_goto (q := 316) hC dL_ofRequests_312 (by decide) ?_
                        refine v_iret hC dL_ofRequests_316 hr (rfl) ?_ (show _ ≤ 24 by omega) (show _ ≤ 144 by omega)
                        exact fQ_mk s_303 w_303 a_303 l_303 hlv hLq
                · exact absurd c_238 (by decide)
              · exact absurd (Int32.not_le.mp c_54) n2
    · have hno : ¬ (mIn (nI u) 0 (G.2.1 0 30 0 - 1) && mHold (G.2.1 0 30) (nI ob)) = true := by
        rw [hD.mU (by omega), hh]
        intro z
        obtain ⟨z1, z2⟩ := Bool.and_eq_true_iff.mp z
        exact hth ⟨of_decide_eq_true z1, of_decide_eq_true z2⟩
      have hno2 : ¬ (mIn (nI u) 0 (G.2.1 0 30 0 - 1) && (mHold (G.2.1 0 30) (nI ob) && mIn (nI ot) 0 (G.2.1 0 30 0 - 1))) = true := fun z => by
        obtain ⟨z1, z2⟩ := Bool.and_eq_true_iff.mp z
        obtain ⟨z3, z4⟩ := Bool.and_eq_true_iff.mp z2
        exact hno (Bool.and_eq_true_iff.mpr ⟨z1, z3⟩)
      by_cases hw2 : way < 2
      · have n2 : nI way < 2 := nI_lt (b := 2) hw2 (by decide)
        refine v_iload (q := 28) hC dL_ofRequests_26 rfl rfl ?_
        refine v_aload (q := 30) hC dL_ofRequests_28 rfl rfl ?_
        refine v_iconst (q := 31) (v := 0) hC dL_ofRequests_30 rfl (by decide) ?_
        refine v_ialdV (q := 32) hC dL_ofRequests_31 rfl rfl rfl (i := 0) (rfl) (by first | decide | omega) (by decide) (e0) ?_
        refine v_icmp_ge (q := 48) (q2 := 35) hC dL_ofRequests_32 (by decide) rfl (fun c_32 => ?_) (fun c_32 => ?_)
        · refine v_iconst (q := 49) (v := 0) hC dL_ofRequests_48 rfl (by decide) ?_
          refine v_istore (q := 51) hC dL_ofRequests_49 rfl (lvc rfl) (Nat.le_of_ble_eq_true rfl) (Nat.le_of_ble_eq_true rfl) rfl ?_
          refine v_iload (q := 53) hC dL_ofRequests_51 rfl rfl ?_
          refine v_iconst (q := 54) (v := 2) hC dL_ofRequests_53 rfl (by decide) ?_
          refine v_icmp_ge (q := 203) (q2 := 57) hC dL_ofRequests_54 (by decide) rfl (fun c_54 => ?_) (fun c_54 => ?_)
          · exact absurd n2 (Int32.not_lt.mpr c_54)
          · refine v_iload (q := 59) hC dL_ofRequests_57 rfl rfl ?_
            refine v_if_ne (q := 83) (q2 := 62) hC dL_ofRequests_59 (by decide) rfl (fun c_59 => ?_) (fun c_59 => ?_)
            · exact absurd rfl c_59
            · refine v_aload_n (i := 0) (q := 63) hC dL_ofRequests_62 rfl rfl rfl ?_
              refine v_iload (q := 65) hC dL_ofRequests_63 rfl rfl ?_
              refine v_iload (q := 67) hC dL_ofRequests_65 rfl rfl ?_
              refine v_iload (q := 69) hC dL_ofRequests_67 rfl rfl ?_
              refine v_callR (q := 72) (rm := rm_L_askOf) hC ((r_ask hl Θ z0 ht (nI u) (nI ob) (nI ri)).p (v2 := -101) (w2 := G.2.1 0 30) (if_neg hno) (if_neg hno)) kh_L_askOf ml_RL_389 dL_ofRequests_69 rfl rfl rfl (Nat.le_of_ble_eq_true rfl) ⟨Nat.le_of_ble_eq_true rfl, Nat.le_of_ble_eq_true rfl⟩ (c1 := 3) (s1 := 18) rfl rfl ⟨show _ + 3 ≤ 24 by omega, show _ + 18 ≤ 144 by omega⟩ (pQ_k (fun G_69 s_69 w_69 a_69 l_69 => ?_)) pQ_n
              try dsimp only [Option.toList, List.cons_append, List.nil_append]
              refine v_bipush (q := 74) (v := (-101)) hC dL_ofRequests_72 rfl (by decide) ?_
              refine v_icmp_ne (q := 81) (q2 := 77) hC dL_ofRequests_74 (by decide) rfl (fun c_74 => ?_) (fun c_74 => ?_)
              · exact absurd rfl c_74
              · refine v_iconst (q := 78) (v := 1) hC dL_ofRequests_77 rfl (by decide) ?_
                refine v_goto (q := 82) hC dL_ofRequests_78 (by decide) ?_
                refine v_iret hC dL_ofRequests_82 hr (rfl) ?_ (show _ ≤ 24 by omega) (show _ ≤ 144 by omega)
                exact fQ_mk s_69 w_69 a_69 l_69 hlv hLq
        · refine v_aload_n (i := 2) (q := 36) hC dL_ofRequests_35 rfl rfl rfl ?_
          refine v_iload (q := 38) hC dL_ofRequests_36 rfl rfl ?_
          refine v_ialdV (q := 39) hC dL_ofRequests_38 rfl rfl rfl (i := ob) (rfl) (by first | decide | omega) (by decide) (rfl) ?_
          refine v_bipush (q := 41) (v := (-2)) hC dL_ofRequests_39 rfl (by decide) ?_
          refine v_icmp_eq (q := 48) (q2 := 44) hC dL_ofRequests_41 (by decide) rfl (fun c_41 => ?_) (fun c_41 => ?_)
          · refine v_iconst (q := 49) (v := 0) hC dL_ofRequests_48 rfl (by decide) ?_
            refine v_istore (q := 51) hC dL_ofRequests_49 rfl (lvc rfl) (Nat.le_of_ble_eq_true rfl) (Nat.le_of_ble_eq_true rfl) rfl ?_
            refine v_iload (q := 53) hC dL_ofRequests_51 rfl rfl ?_
            refine v_iconst (q := 54) (v := 2) hC dL_ofRequests_53 rfl (by decide) ?_
            refine v_icmp_ge (q := 203) (q2 := 57) hC dL_ofRequests_54 (by decide) rfl (fun c_54 => ?_) (fun c_54 => ?_)
            · exact absurd n2 (Int32.not_lt.mpr c_54)
            · refine v_iload (q := 59) hC dL_ofRequests_57 rfl rfl ?_
              refine v_if_ne (q := 83) (q2 := 62) hC dL_ofRequests_59 (by decide) rfl (fun c_59 => ?_) (fun c_59 => ?_)
              · exact absurd rfl c_59
              · refine v_aload_n (i := 0) (q := 63) hC dL_ofRequests_62 rfl rfl rfl ?_
                refine v_iload (q := 65) hC dL_ofRequests_63 rfl rfl ?_
                refine v_iload (q := 67) hC dL_ofRequests_65 rfl rfl ?_
                refine v_iload (q := 69) hC dL_ofRequests_67 rfl rfl ?_
                refine v_callR (q := 72) (rm := rm_L_askOf) hC ((r_ask hl Θ z0 ht (nI u) (nI ob) (nI ri)).p (v2 := -101) (w2 := G.2.1 0 30) (if_neg hno) (if_neg hno)) kh_L_askOf ml_RL_389 dL_ofRequests_69 rfl rfl rfl (Nat.le_of_ble_eq_true rfl) ⟨Nat.le_of_ble_eq_true rfl, Nat.le_of_ble_eq_true rfl⟩ (c1 := 3) (s1 := 18) rfl rfl ⟨show _ + 3 ≤ 24 by omega, show _ + 18 ≤ 144 by omega⟩ (pQ_k (fun G_69 s_69 w_69 a_69 l_69 => ?_)) pQ_n
                try dsimp only [Option.toList, List.cons_append, List.nil_append]
                refine v_bipush (q := 74) (v := (-101)) hC dL_ofRequests_72 rfl (by decide) ?_
                refine v_icmp_ne (q := 81) (q2 := 77) hC dL_ofRequests_74 (by decide) rfl (fun c_74 => ?_) (fun c_74 => ?_)
                · exact absurd rfl c_74
                · refine v_iconst (q := 78) (v := 1) hC dL_ofRequests_77 rfl (by decide) ?_
                  refine v_goto (q := 82) hC dL_ofRequests_78 (by decide) ?_
                  refine v_iret hC dL_ofRequests_82 hr (rfl) ?_ (show _ ≤ 24 by omega) (show _ ≤ 144 by omega)
                  exact fQ_mk s_69 w_69 a_69 l_69 hlv hLq
          · exact absurd ⟨(nI_ltI (by omega) (by omega)).mp (Int32.not_le.mp c_32), Classical.byContradiction fun z => c_41 ((hD.p2 hob).mpr z)⟩ hth
      · have n2 : ¬ nI way < 2 := nI_nlt (b := 2) (by omega) (by omega)
        refine v_iload (q := 28) hC dL_ofRequests_26 rfl rfl ?_
        refine v_aload (q := 30) hC dL_ofRequests_28 rfl rfl ?_
        refine v_iconst (q := 31) (v := 0) hC dL_ofRequests_30 rfl (by decide) ?_
        refine v_ialdV (q := 32) hC dL_ofRequests_31 rfl rfl rfl (i := 0) (rfl) (by first | decide | omega) (by decide) (e0) ?_
        refine v_icmp_ge (q := 48) (q2 := 35) hC dL_ofRequests_32 (by decide) rfl (fun c_32 => ?_) (fun c_32 => ?_)
        · refine v_iconst (q := 49) (v := 0) hC dL_ofRequests_48 rfl (by decide) ?_
          refine v_istore (q := 51) hC dL_ofRequests_49 rfl (lvc rfl) (Nat.le_of_ble_eq_true rfl) (Nat.le_of_ble_eq_true rfl) rfl ?_
          refine v_iload (q := 53) hC dL_ofRequests_51 rfl rfl ?_
          refine v_iconst (q := 54) (v := 2) hC dL_ofRequests_53 rfl (by decide) ?_
          refine v_icmp_ge (q := 203) (q2 := 57) hC dL_ofRequests_54 (by decide) rfl (fun c_54 => ?_) (fun c_54 => ?_)
          · refine v_iload (q := 205) hC dL_ofRequests_203 rfl rfl ?_
            refine v_sipush (q := 208) (v := 480) hC dL_ofRequests_205 rfl (by decide) ?_
            refine v_idiv (q := 209) hC dL_ofRequests_208 rfl (by decide) ?_
            refine v_aload (q := 211) hC dL_ofRequests_209 rfl rfl ?_
            refine v_iconst (q := 212) (v := 0) hC dL_ofRequests_211 rfl (by decide) ?_
            refine v_ialdV (q := 213) hC dL_ofRequests_212 rfl rfl rfl (i := 0) (rfl) (by first | decide | omega) (by decide) (e0) ?_
            refine v_irem (q := 214) hC dL_ofRequests_213 rfl (hnz) ?_
            rw [d3]
            refine v_istore (q := 216) hC dL_ofRequests_214 rfl (lvc rfl) (Nat.le_of_ble_eq_true rfl) (Nat.le_of_ble_eq_true rfl) rfl ?_
            refine v_iconst (q := 217) (v := 1) hC dL_ofRequests_216 rfl (by decide) ?_
            refine v_iload (q := 219) hC dL_ofRequests_217 rfl rfl ?_
            refine v_sipush (q := 222) (v := 5760) hC dL_ofRequests_219 rfl (by decide) ?_
            refine v_idiv (q := 223) hC dL_ofRequests_222 rfl (by decide) ?_
            refine v_bipush (q := 225) (v := 15) hC dL_ofRequests_223 rfl (by decide) ?_
            refine v_irem (q := 226) hC dL_ofRequests_225 rfl (by decide) ?_
            refine v_iadd (q := 227) hC dL_ofRequests_226 rfl ?_
            rw [d4]
            refine v_istore (q := 229) hC dL_ofRequests_227 rfl (lvc rfl) (Nat.le_of_ble_eq_true rfl) (Nat.le_of_ble_eq_true rfl) rfl ?_
            refine v_iload (q := 231) hC dL_ofRequests_229 rfl rfl ?_
            refine v_bipush (q := 233) (v := 8) hC dL_ofRequests_231 rfl (by decide) ?_
            refine v_ior (q := 234) hC dL_ofRequests_233 rfl ?_
            refine v_istore (q := 236) hC dL_ofRequests_234 rfl (lvc rfl) (Nat.le_of_ble_eq_true rfl) (Nat.le_of_ble_eq_true rfl) rfl ?_
            refine v_iload (q := 238) hC dL_ofRequests_236 rfl rfl ?_
            refine v_if_ne (q := 264) (q2 := 241) hC dL_ofRequests_238 (by decide) rfl (fun c_238 => ?_) (fun c_238 => ?_)
            · exact absurd rfl c_238
            · refine v_aload_n (i := 0) (q := 242) hC dL_ofRequests_241 rfl rfl rfl ?_
              refine v_iload (q := 244) hC dL_ofRequests_242 rfl rfl ?_
              refine v_iload (q := 246) hC dL_ofRequests_244 rfl rfl ?_
              refine v_iload (q := 248) hC dL_ofRequests_246 rfl rfl ?_
              refine v_iload (q := 250) hC dL_ofRequests_248 rfl rfl ?_
              refine v_callR (q := 253) (rm := rm_L_shareOf) hC ((r_share hl Θ z0 ht (nI u) (nI ob) (nI ot) (nI r)).p (v2 := -101) (w2 := G.2.1 0 30) (if_neg hno2) (if_neg hno2)) kh_L_shareOf ml_RL_392 dL_ofRequests_250 rfl rfl rfl (Nat.le_of_ble_eq_true rfl) ⟨Nat.le_of_ble_eq_true rfl, Nat.le_of_ble_eq_true rfl⟩ (c1 := 6) (s1 := 36) rfl rfl ⟨show _ + 6 ≤ 24 by omega, show _ + 36 ≤ 144 by omega⟩ (pQ_k (fun G_250 s_250 w_250 a_250 l_250 => ?_)) pQ_n
              try dsimp only [Option.toList, List.cons_append, List.nil_append]
              refine v_bipush (q := 255) (v := (-101)) hC dL_ofRequests_253 rfl (by decide) ?_
              refine v_icmp_ne (q := 262) (q2 := 258) hC dL_ofRequests_255 (by decide) rfl (fun c_255 => ?_) (fun c_255 => ?_)
              · exact absurd rfl c_255
              · refine v_iconst (q := 259) (v := 1) hC dL_ofRequests_258 rfl (by decide) ?_
                refine v_goto (q := 263) hC dL_ofRequests_259 (by decide) ?_
                refine v_iret hC dL_ofRequests_263 hr (rfl) ?_ (show _ ≤ 24 by omega) (show _ ≤ 144 by omega)
                exact fQ_mk s_250 w_250 a_250 l_250 hlv hLq
          · exact absurd (Int32.not_le.mp c_54) n2
        · refine v_aload_n (i := 2) (q := 36) hC dL_ofRequests_35 rfl rfl rfl ?_
          refine v_iload (q := 38) hC dL_ofRequests_36 rfl rfl ?_
          refine v_ialdV (q := 39) hC dL_ofRequests_38 rfl rfl rfl (i := ob) (rfl) (by first | decide | omega) (by decide) (rfl) ?_
          refine v_bipush (q := 41) (v := (-2)) hC dL_ofRequests_39 rfl (by decide) ?_
          refine v_icmp_eq (q := 48) (q2 := 44) hC dL_ofRequests_41 (by decide) rfl (fun c_41 => ?_) (fun c_41 => ?_)
          · refine v_iconst (q := 49) (v := 0) hC dL_ofRequests_48 rfl (by decide) ?_
            refine v_istore (q := 51) hC dL_ofRequests_49 rfl (lvc rfl) (Nat.le_of_ble_eq_true rfl) (Nat.le_of_ble_eq_true rfl) rfl ?_
            refine v_iload (q := 53) hC dL_ofRequests_51 rfl rfl ?_
            refine v_iconst (q := 54) (v := 2) hC dL_ofRequests_53 rfl (by decide) ?_
            refine v_icmp_ge (q := 203) (q2 := 57) hC dL_ofRequests_54 (by decide) rfl (fun c_54 => ?_) (fun c_54 => ?_)
            · refine v_iload (q := 205) hC dL_ofRequests_203 rfl rfl ?_
              refine v_sipush (q := 208) (v := 480) hC dL_ofRequests_205 rfl (by decide) ?_
              refine v_idiv (q := 209) hC dL_ofRequests_208 rfl (by decide) ?_
              refine v_aload (q := 211) hC dL_ofRequests_209 rfl rfl ?_
              refine v_iconst (q := 212) (v := 0) hC dL_ofRequests_211 rfl (by decide) ?_
              refine v_ialdV (q := 213) hC dL_ofRequests_212 rfl rfl rfl (i := 0) (rfl) (by first | decide | omega) (by decide) (e0) ?_
              refine v_irem (q := 214) hC dL_ofRequests_213 rfl (hnz) ?_
              rw [d3]
              refine v_istore (q := 216) hC dL_ofRequests_214 rfl (lvc rfl) (Nat.le_of_ble_eq_true rfl) (Nat.le_of_ble_eq_true rfl) rfl ?_
              refine v_iconst (q := 217) (v := 1) hC dL_ofRequests_216 rfl (by decide) ?_
              refine v_iload (q := 219) hC dL_ofRequests_217 rfl rfl ?_
              refine v_sipush (q := 222) (v := 5760) hC dL_ofRequests_219 rfl (by decide) ?_
              refine v_idiv (q := 223) hC dL_ofRequests_222 rfl (by decide) ?_
              refine v_bipush (q := 225) (v := 15) hC dL_ofRequests_223 rfl (by decide) ?_
              refine v_irem (q := 226) hC dL_ofRequests_225 rfl (by decide) ?_
              refine v_iadd (q := 227) hC dL_ofRequests_226 rfl ?_
              rw [d4]
              refine v_istore (q := 229) hC dL_ofRequests_227 rfl (lvc rfl) (Nat.le_of_ble_eq_true rfl) (Nat.le_of_ble_eq_true rfl) rfl ?_
              refine v_iload (q := 231) hC dL_ofRequests_229 rfl rfl ?_
              refine v_bipush (q := 233) (v := 8) hC dL_ofRequests_231 rfl (by decide) ?_
              refine v_ior (q := 234) hC dL_ofRequests_233 rfl ?_
              refine v_istore (q := 236) hC dL_ofRequests_234 rfl (lvc rfl) (Nat.le_of_ble_eq_true rfl) (Nat.le_of_ble_eq_true rfl) rfl ?_
              refine v_iload (q := 238) hC dL_ofRequests_236 rfl rfl ?_
              refine v_if_ne (q := 264) (q2 := 241) hC dL_ofRequests_238 (by decide) rfl (fun c_238 => ?_) (fun c_238 => ?_)
              · exact absurd rfl c_238
              · refine v_aload_n (i := 0) (q := 242) hC dL_ofRequests_241 rfl rfl rfl ?_
                refine v_iload (q := 244) hC dL_ofRequests_242 rfl rfl ?_
                refine v_iload (q := 246) hC dL_ofRequests_244 rfl rfl ?_
                refine v_iload (q := 248) hC dL_ofRequests_246 rfl rfl ?_
                refine v_iload (q := 250) hC dL_ofRequests_248 rfl rfl ?_
                refine v_callR (q := 253) (rm := rm_L_shareOf) hC ((r_share hl Θ z0 ht (nI u) (nI ob) (nI ot) (nI r)).p (v2 := -101) (w2 := G.2.1 0 30) (if_neg hno2) (if_neg hno2)) kh_L_shareOf ml_RL_392 dL_ofRequests_250 rfl rfl rfl (Nat.le_of_ble_eq_true rfl) ⟨Nat.le_of_ble_eq_true rfl, Nat.le_of_ble_eq_true rfl⟩ (c1 := 6) (s1 := 36) rfl rfl ⟨show _ + 6 ≤ 24 by omega, show _ + 36 ≤ 144 by omega⟩ (pQ_k (fun G_250 s_250 w_250 a_250 l_250 => ?_)) pQ_n
                try dsimp only [Option.toList, List.cons_append, List.nil_append]
                refine v_bipush (q := 255) (v := (-101)) hC dL_ofRequests_253 rfl (by decide) ?_
                refine v_icmp_ne (q := 262) (q2 := 258) hC dL_ofRequests_255 (by decide) rfl (fun c_255 => ?_) (fun c_255 => ?_)
                · exact absurd rfl c_255
                · refine v_iconst (q := 259) (v := 1) hC dL_ofRequests_258 rfl (by decide) ?_
                  refine v_goto (q := 263) hC dL_ofRequests_259 (by decide) ?_
                  refine v_iret hC dL_ofRequests_263 hr (rfl) ?_ (show _ ≤ 24 by omega) (show _ ≤ 144 by omega)
                  exact fQ_mk s_250 w_250 a_250 l_250 hlv hLq
            · exact absurd (Int32.not_le.mp c_54) n2
          · exact absurd ⟨(nI_ltI (by omega) (by omega)).mp (Int32.not_le.mp c_32), Classical.byContradiction fun z => c_41 ((hD.p2 hob).mpr z)⟩ hth
  have q12 : nI y / 12 = nI (y / 12) := pk_div (d := 12) hy (by decide) (by decide)
  have q120 : nI y / 120 = nI (y / 120) := pk_div (d := 120) hy (by decide) (by decide)
  have d1 : nI y - nI y / 12 * 12 = nI (y % 12) := pk_rem (d := 12) hy (by decide) (by decide)
  have d2 : nI y / 12 - nI y / 12 / 10 * 10 = nI (y / 12 % 10) := by
    rw [q12]; exact pk_rem (d := 10) (by omega) (by decide) (by decide)
  have d5 : nI y / 120 - nI y / 120 / 4 * 4 = nI (y / 120 % 4) := by
    rw [q120]; exact pk_rem (d := 4) (by omega) (by decide) (by decide)
  refine v_iload (q := 2) hC dL_ofRequests_0 rfl rfl ?_
  refine v_bipush (q := 4) (v := 12) hC dL_ofRequests_2 rfl (by decide) ?_
  refine v_irem (q := 5) hC dL_ofRequests_4 rfl (by decide) ?_
  rw [d1]
  refine v_istore (q := 7) hC dL_ofRequests_5 rfl (lvc rfl) (Nat.le_of_ble_eq_true rfl) (Nat.le_of_ble_eq_true rfl) rfl ?_
  refine v_iload (q := 9) hC dL_ofRequests_7 rfl rfl ?_
  refine v_bipush (q := 11) (v := 12) hC dL_ofRequests_9 rfl (by decide) ?_
  refine v_idiv (q := 12) hC dL_ofRequests_11 rfl (by decide) ?_
  refine v_bipush (q := 14) (v := 10) hC dL_ofRequests_12 rfl (by decide) ?_
  refine v_irem (q := 15) hC dL_ofRequests_14 rfl (by decide) ?_
  rw [d2]
  refine v_istore (q := 17) hC dL_ofRequests_15 rfl (lvc rfl) (Nat.le_of_ble_eq_true rfl) (Nat.le_of_ble_eq_true rfl) rfl ?_
  refine v_iload (q := 19) hC dL_ofRequests_17 rfl rfl ?_
  refine v_bipush (q := 21) (v := 120) hC dL_ofRequests_19 rfl (by decide) ?_
  refine v_idiv (q := 22) hC dL_ofRequests_21 rfl (by decide) ?_
  refine v_iconst (q := 23) (v := 4) hC dL_ofRequests_22 rfl (by decide) ?_
  refine v_irem (q := 24) hC dL_ofRequests_23 rfl (by decide) ?_
  rw [d5]
  refine v_istore (q := 26) hC dL_ofRequests_24 rfl (lvc rfl) (Nat.le_of_ble_eq_true rfl) (Nat.le_of_ble_eq_true rfl) rfl ?_
  exact D _ _ _ (Nat.mod_lt _ (by decide)) (Nat.mod_lt _ (by decide)) (Nat.mod_lt _ (by decide))
