/-! the law's rows and the world; the groups are looked at -/
theorem CtR.v {l : Launch} {y : MethodName} {cc : ByteArray} {n : Nat} {ret : Option FieldType} {hh : List (Nat × Nat × Nat × Nat)} {rm : Room} {Θ : cTH} {as : List Value} {G G0 : GS} {t : Nat} {v v2 : Int32} (h : CtR l y cc n ret hh rm Θ as G (rQ G0 t v)) (e : v = v2) : CtR l y cc n ret hh rm Θ as G (rQ G0 t v2) := e ▸ h
/-- the log, as the law keeps it -/
def LLo (w l t : Nat → Int32) : Prop := (t 3 = w 763 ∧ t 4 = w 764) ∧ ∃ q, q < 2 ^ 20 ∧ w 763 = nI q ∧ w 762 = nI (min 8 q) ∧ ∀ a, a < min 8 q → ∃ (u o : Nat) (b : Bool), (u < 12 ∧ o < 10) ∧ w (738 + 3 * a) = nI u ∧ w (739 + 3 * a) = nI o ∧ w (740 + 3 * a) = b2i b ∧ l a = nI (100 * u + 2 * o + b.toNat)
/-- the law's rows say what the model's row says -/
def LR (G : GS) : Prop := LD (G.2.1 0 30) (G.2.1 0 40) (G.2.1 0 41) (G.2.1 0 42) ∧ (G.2.1 0 44 0 = nI (mUs (G.2.1 0 30)) ∧ 1 ≤ mUs (G.2.1 0 30)) ∧ G.2.1 0 44 1 = nI (mGs (G.2.1 0 30)) ∧ G.2.1 0 44 2 = mHo (G.2.1 0 30) 20 0 0 ∧ LLo (G.2.1 0 30) (G.2.1 0 43) (G.2.1 0 44) ∧ ∀ k, k < 10 → G.2.1 0 30 (oA k 0) = 1 → G.2.1 0 30 (oA k 4) = 0 ∨ G.2.1 0 30 (oA k 4) = 1
theorem LR.nx {G G1 : GS} {t : Nat} (h : LR G) (hx : Nx G G1 t) : LR G1 := by
  unfold LR
  rw [hx.w, hx.a (o := 40) (by decide) (by decide), hx.a (o := 41) (by decide) (by decide), hx.a (o := 42) (by decide) (by decide), hx.a (o := 43) (by decide) (by decide), hx.a (o := 44) (by decide) (by decide)]
  exact h
theorem jIdx_d {a n : Nat} (ha : a < 2 ^ 31) (hn : n < 2 ^ 31) : jIdx (nI a) (nI n) = decide (a < n) := by
  unfold jIdx
  rw [decide_eq_true (nI_pos' ha), Bool.true_and]
  by_cases h : a < n
  · rw [decide_eq_true h, decide_eq_true (nI_lt h hn)]
  · rw [decide_eq_false h, decide_eq_false (nI_nlt (by omega) ha)]
theorem jIdx_m1 (n : Int32) : jIdx (-1) n = false := by
  unfold jIdx
  rw [show decide ((0 : Int32) ≤ -1) = false by decide, Bool.false_and]
section LV
variable {w m p e : Nat → Int32}
theorem LD.mU (h : LD w m p e) {a : Nat} (ha : a < 2 ^ 20) : mIn (nI a) 0 (w 0 - 1) = decide (a < mUs w) := by
  have h12 := h.ok.us12
  rw [h.ok.us, mIn_idx (by omega), jIdx_d (by omega) (by omega)]
theorem LD.mG (h : LD w m p e) {a : Nat} (ha : a < 2 ^ 20) : mIn (nI a) 0 (w 1 - 1) = decide (a < mGs w) := by
  have h12 := h.ok.gs8
  rw [h.ok.gs, mIn_idx (by omega), jIdx_d (by omega) (by omega)]
theorem LD.mUm (h : LD w m p e) : mIn (-1) 0 (w 0 - 1) = false := by
  have h12 := h.ok.us12
  rw [h.ok.us, mIn_idx (by omega), jIdx_m1]
theorem LD.hold (_ : LD w m p e) {k : Nat} (hk : k < 20) : mHold w (nI k) = decide (w (oA k 0) = 1) := by
  unfold mHold
  rw [nI_clamp (by omega), show mIn (nI k) 0 19 = true from by
    unfold mIn
    rw [decide_eq_true (nI_pos' (by omega)), decide_eq_true (show nI k ≤ 19 from nI_le (b := 19) (by omega) (by decide))]; rfl, Bool.true_and]
theorem hold20 (w : Nat → Int32) : mHold w 20 = false := by
  unfold mHold
  rw [show mIn 20 0 19 = false by decide, Bool.false_and]
theorem holdm1 (w : Nat → Int32) : mHold w (-1) = false := by
  unfold mHold
  rw [show mIn (-1) 0 19 = false by decide, Bool.false_and]
theorem LD.ent (h : LD w m p e) {k i : Nat} (hk : k < 20) (hi : i < 2 ^ 20) : mEnt w (nI k) (nI i) = (decide (w (oA k 0) = 1) && decide (i < mCt w k)) := by
  unfold mEnt
  have h6 := h.ok.ct6 hk
  rw [h.hold hk, nI_clamp (by omega), h.ok.ct hk, mIn_idx (by omega), jIdx_d (by omega) (by omega)]
theorem mIn3 {r : Nat} (hr : r < 4) : mIn (nI r) 0 3 = true := by
  rcases (show r = 0 ∨ r = 1 ∨ r = 2 ∨ r = 3 by omega) with rfl | rfl | rfl | rfl <;> decide
end LV
abbrev rm_L_areGroups : Room := { frames := 9, locals := 156, cells := 720, slots := 4320 }
set_option maxHeartbeats 4000000 in
set_option maxRecDepth 20000 in
theorem c_L_areGroups {l : Launch} (hl : l.stackTraces = false) (Θ : cTH) (t : Nat) (G : GS) (hS : Sim G t) (hL : LR G) (ht : t < 2 ^ 20) : Ct l yL_areGroups cL_areGroups 8 (some .boolean) rm_L_areGroups Θ [.ref (tR Θ 0 14), .ref (tR Θ 0 40), .ref (tR Θ 0 44)] (G) (rQ G t 1) := by
  refine ct_of (LS := [some (.ref (tR Θ 0 14)), some (.ref (tR Θ 0 40)), some (.ref (tR Θ 0 44)), none, none, none, none, none]) hl (by decide +kernel) rfl (Nat.le_of_ble_eq_true rfl) rfl ?_
  intro p e s m args below meth c hC hr
  obtain ⟨hD, ⟨e0, us1⟩, e1, -⟩ := hL
  have hU := hD.ok.us12
  have hG := hD.ok.gs8
  have z0 : Nx G G t := Nx.refl hS
  have h8 : ∀ {G' : GS}, Nx G G' t → ∀ a, a < 8 → bLt (G'.2.1 0 40 (8 + a)) 8 := fun z => by rw [z.a (by decide) (by decide)]; exact hD.g8
  -- one user
  have M : ∀ (g k : Nat) (G' : GS) (x7 : Option Value), g < mGs (G.2.1 0 30) → k < mUs (G.2.1 0 30) → Nx G G' t → (∀ (G2 : GS) (x7 : Option Value), Nx G G2 t → V p l e rm_L_areGroups s m args below meth c 8 Θ (rQ G t 1) 720 4320 (10 + 88 * g + 6 * k + 6) (60 + 528 * g + 36 * k + 36) 114 [some (.ref (tR Θ 0 14)), some (.ref (tR Θ 0 40)), some (.ref (tR Θ 0 44)), some (.int 1), some (.int (nI g)), some (.int (lBe (G.2.1 0 40) g)), some (.int (nI (k + 1))), x7] [] (G2)) → V p l e rm_L_areGroups s m args below meth c 8 Θ (rQ G t 1) 720 4320 (10 + 88 * g + 6 * k) (60 + 528 * g + 36 * k) 141 [some (.ref (tR Θ 0 14)), some (.ref (tR Θ 0 40)), some (.ref (tR Θ 0 44)), some (.int 1), some (.int (nI g)), some (.int (lBe (G.2.1 0 40) g)), some (.int (nI k)), x7] [.int (b2i (mIsOf (G.2.1 0 30) (mGs (G.2.1 0 30)) (nI k) g))] (G') := by
    intro g k G' x7 hg hk z kk
    have c9 : (mIn (nI k) 0 (G.2.1 0 30 0 - 1) && mIn (nI g) 0 (G.2.1 0 30 1 - 1)) = true := by
      rw [hD.mU (by omega), hD.mG (by omega), decide_eq_true hk, decide_eq_true hg]; rfl
    have eg : (nI g).toNatClampNeg = g := nI_clamp (by omega)
    refine v_istore (q := 143) hC dL_areGroups_141 rfl (lvc rfl) (Nat.le_of_ble_eq_true rfl) (Nat.le_of_ble_eq_true rfl) rfl ?_
    refine v_aload_n (i := 0) (q := 144) hC dL_areGroups_143 rfl rfl rfl ?_
    refine v_iload (q := 146) hC dL_areGroups_144 rfl rfl ?_
    refine v_iload (q := 148) hC dL_areGroups_146 rfl rfl ?_
    refine v_callR (q := 151) (rm := rm_L_isMemberOf) hC ((r_isMember hl Θ z ht (nI k) (nI g)).v (v2 := b2i (mHas (G.2.1 0 30 (2 + g)) (nI k))) (by rw [if_pos c9, gZ_b, eg])) kh_L_isMemberOf ml_RL_208 dL_areGroups_148 rfl rfl rfl (Nat.le_of_ble_eq_true rfl) ⟨Nat.le_of_ble_eq_true rfl, Nat.le_of_ble_eq_true rfl⟩ (c1 := 2) (s1 := 12) rfl rfl ⟨show _ + 2 ≤ 720 by omega, show _ + 12 ≤ 4320 by omega⟩ (rQ_k (fun G_148 z_148 => ?_)) rQ_n
    try dsimp only [Option.toList, List.cons_append, List.nil_append]
    refine v_aload_n (i := 1) (q := 152) hC dL_areGroups_151 rfl rfl rfl ?_
    refine v_iload (q := 154) hC dL_areGroups_152 rfl rfl ?_
    refine v_ialdV (q := 155) hC dL_areGroups_154 rfl rfl rfl (i := g) (rfl) (by first | decide | omega) (by decide) (NxR z_148 (by decide) (by decide) (hD.gm (by omega))) ?_
    refine v_iload (q := 157) hC dL_areGroups_155 rfl rfl ?_
    refine v_callSN (q := 160) (rm := rm_L_has) hC (c_L_has hl Θ _ _ _) k_L_has st_yL_has ml_RL_172 dL_areGroups_157 rfl rfl rfl (Nat.le_of_ble_eq_true rfl) ⟨Nat.le_of_ble_eq_true rfl, Nat.le_of_ble_eq_true rfl⟩ (c1 := 0) (s1 := 0) rfl rfl ⟨show _ + 0 ≤ 720 by omega, show _ + 0 ≤ 4320 by omega⟩ (fR_k ?_) fR_n
    try dsimp only [Option.toList, List.cons_append, List.nil_append]
    refine v_ifb_eq (q := 167) (q2 := 163) hC dL_areGroups_160 (by decide) rfl (fun c_160 => ?_) (fun c_160 => ?_)
    · refine v_iconst (q := 168) (v := 0) hC dL_areGroups_167 rfl (by decide) ?_
      refine v_icmp_ne (q := 201) (q2 := 171) hC dL_areGroups_168 (by decide) rfl (fun c_168 => ?_) (fun c_168 => ?_)
      · exact absurd (by rw [c_160]; rfl) c_168
      · refine v_aload_n (i := 0) (q := 172) hC dL_areGroups_171 rfl rfl rfl ?_
        refine v_iload (q := 174) hC dL_areGroups_172 rfl rfl ?_
        refine v_iload (q := 176) hC dL_areGroups_174 rfl rfl ?_
        refine v_callR (q := 179) (rm := rm_L_belongsOf) hC ((r_belongs hl Θ z_148 ht (nI k) (nI g)).v (v2 := b2i (mIsOf (G.2.1 0 30) (mGs (G.2.1 0 30)) (nI k) g)) (by rw [if_pos c9, gZ_b, eg])) kh_L_belongsOf ml_RL_215 dL_areGroups_176 rfl rfl rfl (Nat.le_of_ble_eq_true rfl) ⟨Nat.le_of_ble_eq_true rfl, Nat.le_of_ble_eq_true rfl⟩ (c1 := 2) (s1 := 12) rfl rfl ⟨show _ + 2 ≤ 720 by omega, show _ + 12 ≤ 4320 by omega⟩ (rQ_k (fun G_176 z_176 => ?_)) rQ_n
        try dsimp only [Option.toList, List.cons_append, List.nil_append]
        refine v_iload (q := 181) hC dL_areGroups_179 rfl rfl ?_
        refine v_icmp_ne (q := 201) (q2 := 184) hC dL_areGroups_181 (by decide) rfl (fun c_181 => ?_) (fun c_181 => ?_)
        · exact absurd rfl c_181
        · refine v_aload_n (i := 0) (q := 185) hC dL_areGroups_184 rfl rfl rfl ?_
          refine v_iload (q := 187) hC dL_areGroups_185 rfl rfl ?_
          refine v_iload (q := 189) hC dL_areGroups_187 rfl rfl ?_
          refine v_callR (q := 192) (rm := rm_L_belongsByMembersOf) hC ((r_belongsByMembers hl Θ z_176 ht (nI k) (nI g)).v (v2 := b2i (mIsOf (G.2.1 0 30) (mGs (G.2.1 0 30)) (nI k) g)) (by rw [if_pos c9, gZ_b, eg])) kh_L_belongsByMembersOf ml_RL_218 dL_areGroups_189 rfl rfl rfl (Nat.le_of_ble_eq_true rfl) ⟨Nat.le_of_ble_eq_true rfl, Nat.le_of_ble_eq_true rfl⟩ (c1 := 2) (s1 := 12) rfl rfl ⟨show _ + 2 ≤ 720 by omega, show _ + 12 ≤ 4320 by omega⟩ (rQ_k (fun G_189 z_189 => ?_)) rQ_n
          try dsimp only [Option.toList, List.cons_append, List.nil_append]
          refine v_iload (q := 194) hC dL_areGroups_192 rfl rfl ?_
          refine v_icmp_ne (q := 201) (q2 := 197) hC dL_areGroups_194 (by decide) rfl (fun c_194 => ?_) (fun c_194 => ?_)
          · exact absurd rfl c_194
          · refine v_iconst (q := 198) (v := 1) hC dL_areGroups_197 rfl (by decide) ?_
            refine v_goto (q := 202) hC dL_areGroups_198 (by decide) ?_
            refine v_istore_n (i := 3) (q := 203) hC dL_areGroups_202 rfl rfl (lvc rfl) (Nat.le_of_ble_eq_true rfl) (Nat.le_of_ble_eq_true rfl) rfl ?_
            refine v_iinc (q := 206) (v := nI (k + 1)) hC dL_areGroups_203 rfl rfl (nI_1 k) (lvc rfl) (Nat.le_of_ble_eq_true rfl) (Nat.le_of_ble_eq_true rfl) rfl ?_
            refine v_goto (q := 114) hC dL_areGroups_206 (by decide) ?_
            exact kk _ _ z_189
    · refine v_iconst (q := 164) (v := 1) hC dL_areGroups_163 rfl (by decide) ?_
      refine v_goto (q := 168) hC dL_areGroups_164 (by decide) ?_
      refine v_icmp_ne (q := 201) (q2 := 171) hC dL_areGroups_168 (by decide) rfl (fun c_168 => ?_) (fun c_168 => ?_)
      · exact absurd (by rw [c_160]; rfl) c_168
      · refine v_aload_n (i := 0) (q := 172) hC dL_areGroups_171 rfl rfl rfl ?_
        refine v_iload (q := 174) hC dL_areGroups_172 rfl rfl ?_
        refine v_iload (q := 176) hC dL_areGroups_174 rfl rfl ?_
        refine v_callR (q := 179) (rm := rm_L_belongsOf) hC ((r_belongs hl Θ z_148 ht (nI k) (nI g)).v (v2 := b2i (mIsOf (G.2.1 0 30) (mGs (G.2.1 0 30)) (nI k) g)) (by rw [if_pos c9, gZ_b, eg])) kh_L_belongsOf ml_RL_215 dL_areGroups_176 rfl rfl rfl (Nat.le_of_ble_eq_true rfl) ⟨Nat.le_of_ble_eq_true rfl, Nat.le_of_ble_eq_true rfl⟩ (c1 := 2) (s1 := 12) rfl rfl ⟨show _ + 2 ≤ 720 by omega, show _ + 12 ≤ 4320 by omega⟩ (rQ_k (fun G_176 z_176 => ?_)) rQ_n
        try dsimp only [Option.toList, List.cons_append, List.nil_append]
        refine v_iload (q := 181) hC dL_areGroups_179 rfl rfl ?_
        refine v_icmp_ne (q := 201) (q2 := 184) hC dL_areGroups_181 (by decide) rfl (fun c_181 => ?_) (fun c_181 => ?_)
        · exact absurd rfl c_181
        · refine v_aload_n (i := 0) (q := 185) hC dL_areGroups_184 rfl rfl rfl ?_
          refine v_iload (q := 187) hC dL_areGroups_185 rfl rfl ?_
          refine v_iload (q := 189) hC dL_areGroups_187 rfl rfl ?_
          refine v_callR (q := 192) (rm := rm_L_belongsByMembersOf) hC ((r_belongsByMembers hl Θ z_176 ht (nI k) (nI g)).v (v2 := b2i (mIsOf (G.2.1 0 30) (mGs (G.2.1 0 30)) (nI k) g)) (by rw [if_pos c9, gZ_b, eg])) kh_L_belongsByMembersOf ml_RL_218 dL_areGroups_189 rfl rfl rfl (Nat.le_of_ble_eq_true rfl) ⟨Nat.le_of_ble_eq_true rfl, Nat.le_of_ble_eq_true rfl⟩ (c1 := 2) (s1 := 12) rfl rfl ⟨show _ + 2 ≤ 720 by omega, show _ + 12 ≤ 4320 by omega⟩ (rQ_k (fun G_189 z_189 => ?_)) rQ_n
          try dsimp only [Option.toList, List.cons_append, List.nil_append]
          refine v_iload (q := 194) hC dL_areGroups_192 rfl rfl ?_
          refine v_icmp_ne (q := 201) (q2 := 197) hC dL_areGroups_194 (by decide) rfl (fun c_194 => ?_) (fun c_194 => ?_)
          · exact absurd rfl c_194
          · refine v_iconst (q := 198) (v := 1) hC dL_areGroups_197 rfl (by decide) ?_
            refine v_goto (q := 202) hC dL_areGroups_198 (by decide) ?_
            refine v_istore_n (i := 3) (q := 203) hC dL_areGroups_202 rfl rfl (lvc rfl) (Nat.le_of_ble_eq_true rfl) (Nat.le_of_ble_eq_true rfl) rfl ?_
            refine v_iinc (q := 206) (v := nI (k + 1)) hC dL_areGroups_203 rfl rfl (nI_1 k) (lvc rfl) (Nat.le_of_ble_eq_true rfl) (Nat.le_of_ble_eq_true rfl) rfl ?_
            refine v_goto (q := 114) hC dL_areGroups_206 (by decide) ?_
            exact kk _ _ z_189
  -- the users
  have L2 : ∀ (g : Nat), g < mGs (G.2.1 0 30) → (∀ (G2 : GS) (x6 x7 : Option Value), Nx G G2 t → V p l e rm_L_areGroups s m args below meth c 8 Θ (rQ G t 1) 720 4320 (10 + 88 * g + 72) (60 + 528 * g + 432) 209 [some (.ref (tR Θ 0 14)), some (.ref (tR Θ 0 40)), some (.ref (tR Θ 0 44)), some (.int 1), some (.int (nI g)), some (.int (lBe (G.2.1 0 40) g)), x6, x7] [] (G2)) → ∀ (n k : Nat) (G' : GS) (x7 : Option Value), n + k = mUs (G.2.1 0 30) → Nx G G' t → V p l e rm_L_areGroups s m args below meth c 8 Θ (rQ G t 1) 720 4320 (10 + 88 * g + 6 * k) (60 + 528 * g + 36 * k) 114 [some (.ref (tR Θ 0 14)), some (.ref (tR Θ 0 40)), some (.ref (tR Θ 0 44)), some (.int 1), some (.int (nI g)), some (.int (lBe (G.2.1 0 40) g)), some (.int (nI k)), x7] [] (G') := by
    intro g hg kk n
    induction n with
    | zero =>
      intro k G' x7 h1 z
      refine v_iload (q := 116) hC dL_areGroups_114 rfl rfl ?_
      refine v_aload_n (i := 2) (q := 117) hC dL_areGroups_116 rfl rfl rfl ?_
      refine v_iconst (q := 118) (v := 0) hC dL_areGroups_117 rfl (by decide) ?_
      refine v_ialdV (q := 119) hC dL_areGroups_118 rfl rfl rfl (i := 0) (rfl) (by first | decide | omega) (by decide) (NxR z (by decide) (by decide) (e0)) ?_
      refine v_icmp_ge (q := 209) (q2 := 122) hC dL_areGroups_119 (by decide) rfl (fun c_119 => ?_) (fun c_119 => ?_)
      · exact v_widen (by omega) (by omega) (kk _ _ _ z)
      · exact absurd (nI_le (by omega) (by omega)) c_119
    | succ n ih =>
      intro k G' x7 h1 z
      have hM := M g k G' x7 hg (by omega) z (fun G2 x7 z2 => v_widen (by omega) (by omega) (ih (k + 1) G2 x7 (by omega) z2))
      have hb : mIsOf (G.2.1 0 30) (mGs (G.2.1 0 30)) (nI k) g = mHas (lBe (G.2.1 0 40) g) (nI k) := ((mHas_i _ (by omega)).trans (hD.belong (by omega) (by omega))).symm
      rw [hb] at hM
      refine v_iload (q := 116) hC dL_areGroups_114 rfl rfl ?_
      refine v_aload_n (i := 2) (q := 117) hC dL_areGroups_116 rfl rfl rfl ?_
      refine v_iconst (q := 118) (v := 0) hC dL_areGroups_117 rfl (by decide) ?_
      refine v_ialdV (q := 119) hC dL_areGroups_118 rfl rfl rfl (i := 0) (rfl) (by first | decide | omega) (by decide) (NxR z (by decide) (by decide) (e0)) ?_
      refine v_icmp_ge (q := 209) (q2 := 122) hC dL_areGroups_119 (by decide) rfl (fun c_119 => ?_) (fun c_119 => ?_)
      · exact absurd c_119 (nI_ge (by omega) (by omega))
      · refine v_iload_n (i := 3) (q := 123) hC dL_areGroups_122 rfl rfl rfl ?_
        refine v_if_eq (q := 209) (q2 := 126) hC dL_areGroups_123 (by decide) rfl (fun c_123 => ?_) (fun c_123 => ?_)
        · exact absurd c_123 (by decide)
        · refine v_iload (q := 128) hC dL_areGroups_126 rfl rfl ?_
          refine v_iload (q := 130) hC dL_areGroups_128 rfl rfl ?_
          refine v_callSN (q := 133) (rm := rm_L_has) hC (c_L_has hl Θ _ _ _) k_L_has st_yL_has ml_RL_172 dL_areGroups_130 rfl rfl rfl (Nat.le_of_ble_eq_true rfl) ⟨Nat.le_of_ble_eq_true rfl, Nat.le_of_ble_eq_true rfl⟩ (c1 := 0) (s1 := 0) rfl rfl ⟨show _ + 0 ≤ 720 by omega, show _ + 0 ≤ 4320 by omega⟩ (fR_k ?_) fR_n
          try dsimp only [Option.toList, List.cons_append, List.nil_append]
          refine v_ifb_eq (q := 140) (q2 := 136) hC dL_areGroups_133 (by decide) rfl (fun c_133 => ?_) (fun c_133 => ?_)
          · refine v_iconst (q := 141) (v := 0) hC dL_areGroups_140 rfl (by decide) ?_
            rw [c_133] at hM
            exact hM
          · refine v_iconst (q := 137) (v := 1) hC dL_areGroups_136 rfl (by decide) ?_
            refine v_goto (q := 141) hC dL_areGroups_137 (by decide) ?_
            rw [c_133] at hM
            exact hM
  -- the groups within
  have L3 : ∀ (g : Nat), g < mGs (G.2.1 0 30) → (∀ (G2 : GS) (x6 x7 : Option Value), Nx G G2 t → V p l e rm_L_areGroups s m args below meth c 8 Θ (rQ G t 1) 720 4320 (10 + 88 * g + 88) (60 + 528 * g + 528) 91 [some (.ref (tR Θ 0 14)), some (.ref (tR Θ 0 40)), some (.ref (tR Θ 0 44)), some (.int 1), some (.int (nI (g + 1))), some (.int (lBe (G.2.1 0 40) g)), x6, x7] [] (G2)) → ∀ (n k : Nat) (G' : GS) (x7 : Option Value), n + k = mGs (G.2.1 0 30) → Nx G G' t → V p l e rm_L_areGroups s m args below meth c 8 Θ (rQ G t 1) 720 4320 (10 + 88 * g + 72 + 2 * k) (60 + 528 * g + 432 + 12 * k) 212 [some (.ref (tR Θ 0 14)), some (.ref (tR Θ 0 40)), some (.ref (tR Θ 0 44)), some (.int 1), some (.int (nI g)), some (.int (lBe (G.2.1 0 40) g)), some (.int (nI k)), x7] [] (G') := by
    intro g hg kk n
    induction n with
    | zero =>
      intro k G' x7 h1 z
      refine v_iload (q := 214) hC dL_areGroups_212 rfl rfl ?_
      refine v_aload_n (i := 2) (q := 215) hC dL_areGroups_214 rfl rfl rfl ?_
      refine v_iconst (q := 216) (v := 1) hC dL_areGroups_215 rfl (by decide) ?_
      refine v_ialdV (q := 217) hC dL_areGroups_216 rfl rfl rfl (i := 1) (rfl) (by first | decide | omega) (by decide) (NxR z (by decide) (by decide) (e1)) ?_
      refine v_icmp_ge (q := 267) (q2 := 220) hC dL_areGroups_217 (by decide) rfl (fun c_217 => ?_) (fun c_217 => ?_)
      · refine v_iinc (q := 270) (v := nI (g + 1)) hC dL_areGroups_267 rfl rfl (nI_1 g) (lvc rfl) (Nat.le_of_ble_eq_true rfl) (Nat.le_of_ble_eq_true rfl) rfl ?_
        refine v_goto (q := 91) hC dL_areGroups_270 (by decide) ?_
        exact v_widen (by omega) (by omega) (kk _ _ _ z)
      · exact absurd (nI_le (by omega) (by omega)) c_217
    | succ n ih =>
      intro k G' x7 h1 z
      have c9 : (mIn (nI k) 0 (G.2.1 0 30 1 - 1) && mIn (nI g) 0 (G.2.1 0 30 1 - 1)) = true := by
        rw [hD.mG (by omega), hD.mG (by omega), decide_eq_true (show k < mGs (G.2.1 0 30) by omega), decide_eq_true hg]; rfl
      have ek : (nI k).toNatClampNeg = k := nI_clamp (by omega)
      have hq : mHas (G.2.1 0 30 (10 + k)) (nI g) = mHas (G.2.1 0 40 (8 + g)) (nI k) := by
        rw [mHas_i _ (by omega), mHas_i _ (by omega), hD.gt (by omega) (by omega)]
      refine v_iload (q := 214) hC dL_areGroups_212 rfl rfl ?_
      refine v_aload_n (i := 2) (q := 215) hC dL_areGroups_214 rfl rfl rfl ?_
      refine v_iconst (q := 216) (v := 1) hC dL_areGroups_215 rfl (by decide) ?_
      refine v_ialdV (q := 217) hC dL_areGroups_216 rfl rfl rfl (i := 1) (rfl) (by first | decide | omega) (by decide) (NxR z (by decide) (by decide) (e1)) ?_
      refine v_icmp_ge (q := 267) (q2 := 220) hC dL_areGroups_217 (by decide) rfl (fun c_217 => ?_) (fun c_217 => ?_)
      · exact absurd c_217 (nI_ge (by omega) (by omega))
      · refine v_iload_n (i := 3) (q := 221) hC dL_areGroups_220 rfl rfl rfl ?_
        refine v_if_eq (q := 267) (q2 := 224) hC dL_areGroups_221 (by decide) rfl (fun c_221 => ?_) (fun c_221 => ?_)
        · exact absurd c_221 (by decide)
        · refine v_aload_n (i := 0) (q := 225) hC dL_areGroups_224 rfl rfl rfl ?_
          refine v_iload (q := 227) hC dL_areGroups_225 rfl rfl ?_
          refine v_iload (q := 229) hC dL_areGroups_227 rfl rfl ?_
          refine v_callR (q := 232) (rm := rm_L_isNestedOf) hC ((r_isNested hl Θ z ht (nI k) (nI g)).v (v2 := b2i (mHas (G.2.1 0 40 (8 + g)) (nI k))) (by rw [if_pos c9, gZ_b, ek, hq])) kh_L_isNestedOf ml_RL_212 dL_areGroups_229 rfl rfl rfl (Nat.le_of_ble_eq_true rfl) ⟨Nat.le_of_ble_eq_true rfl, Nat.le_of_ble_eq_true rfl⟩ (c1 := 2) (s1 := 12) rfl rfl ⟨show _ + 2 ≤ 720 by omega, show _ + 12 ≤ 4320 by omega⟩ (rQ_k (fun G_229 z_229 => ?_)) rQ_n
          try dsimp only [Option.toList, List.cons_append, List.nil_append]
          refine v_aload_n (i := 1) (q := 233) hC dL_areGroups_232 rfl rfl rfl ?_
          refine v_bipush (q := 235) (v := 8) hC dL_areGroups_233 rfl (by decide) ?_
          refine v_iload (q := 237) hC dL_areGroups_235 rfl rfl ?_
          refine v_iadd (q := 238) hC dL_areGroups_237 rfl ?_
          refine v_ialdV (q := 239) hC dL_areGroups_238 rfl rfl rfl (i := 8 + g) (nI_add 8 g) (by first | decide | omega) (by decide) (NxR z_229 (by decide) (by decide) (rfl)) ?_
          refine v_iload (q := 241) hC dL_areGroups_239 rfl rfl ?_
          refine v_callSN (q := 244) (rm := rm_L_has) hC (c_L_has hl Θ _ _ _) k_L_has st_yL_has ml_RL_172 dL_areGroups_241 rfl rfl rfl (Nat.le_of_ble_eq_true rfl) ⟨Nat.le_of_ble_eq_true rfl, Nat.le_of_ble_eq_true rfl⟩ (c1 := 0) (s1 := 0) rfl rfl ⟨show _ + 0 ≤ 720 by omega, show _ + 0 ≤ 4320 by omega⟩ (fR_k ?_) fR_n
          try dsimp only [Option.toList, List.cons_append, List.nil_append]
          refine v_ifb_eq (q := 251) (q2 := 247) hC dL_areGroups_244 (by decide) rfl (fun c_244 => ?_) (fun c_244 => ?_)
          · refine v_iconst (q := 252) (v := 0) hC dL_areGroups_251 rfl (by decide) ?_
            refine v_icmp_ne (q := 259) (q2 := 255) hC dL_areGroups_252 (by decide) rfl (fun c_252 => ?_) (fun c_252 => ?_)
            · exact absurd (by rw [c_244]; rfl) c_252
            · refine v_iconst (q := 256) (v := 1) hC dL_areGroups_255 rfl (by decide) ?_
              refine v_goto (q := 260) hC dL_areGroups_256 (by decide) ?_
              refine v_istore_n (i := 3) (q := 261) hC dL_areGroups_260 rfl rfl (lvc rfl) (Nat.le_of_ble_eq_true rfl) (Nat.le_of_ble_eq_true rfl) rfl ?_
              refine v_iinc (q := 264) (v := nI (k + 1)) hC dL_areGroups_261 rfl rfl (nI_1 k) (lvc rfl) (Nat.le_of_ble_eq_true rfl) (Nat.le_of_ble_eq_true rfl) rfl ?_
              refine v_goto (q := 212) hC dL_areGroups_264 (by decide) ?_
              exact v_widen (by omega) (by omega) (ih (k + 1) _ _ (by omega) z_229)
          · refine v_iconst (q := 248) (v := 1) hC dL_areGroups_247 rfl (by decide) ?_
            refine v_goto (q := 252) hC dL_areGroups_248 (by decide) ?_
            refine v_icmp_ne (q := 259) (q2 := 255) hC dL_areGroups_252 (by decide) rfl (fun c_252 => ?_) (fun c_252 => ?_)
            · exact absurd (by rw [c_244]; rfl) c_252
            · refine v_iconst (q := 256) (v := 1) hC dL_areGroups_255 rfl (by decide) ?_
              refine v_goto (q := 260) hC dL_areGroups_256 (by decide) ?_
              refine v_istore_n (i := 3) (q := 261) hC dL_areGroups_260 rfl rfl (lvc rfl) (Nat.le_of_ble_eq_true rfl) (Nat.le_of_ble_eq_true rfl) rfl ?_
              refine v_iinc (q := 264) (v := nI (k + 1)) hC dL_areGroups_261 rfl rfl (nI_1 k) (lvc rfl) (Nat.le_of_ble_eq_true rfl) (Nat.le_of_ble_eq_true rfl) rfl ?_
              refine v_goto (q := 212) hC dL_areGroups_264 (by decide) ?_
              exact v_widen (by omega) (by omega) (ih (k + 1) _ _ (by omega) z_229)
  have L1 : ∀ (n g : Nat) (G' : GS) (x5 x6 x7 : Option Value), n + g = mGs (G.2.1 0 30) → Nx G G' t → V p l e rm_L_areGroups s m args below meth c 8 Θ (rQ G t 1) 720 4320 (10 + 88 * g) (60 + 528 * g) 91 [some (.ref (tR Θ 0 14)), some (.ref (tR Θ 0 40)), some (.ref (tR Θ 0 44)), some (.int 1), some (.int (nI g)), x5, x6, x7] [] (G') := by
    intro n
    induction n with
    | zero =>
      intro g G' x5 x6 x7 h1 z
      refine v_iload (q := 93) hC dL_areGroups_91 rfl rfl ?_
      refine v_aload_n (i := 2) (q := 94) hC dL_areGroups_93 rfl rfl rfl ?_
      refine v_iconst (q := 95) (v := 1) hC dL_areGroups_94 rfl (by decide) ?_
      refine v_ialdV (q := 96) hC dL_areGroups_95 rfl rfl rfl (i := 1) (rfl) (by first | decide | omega) (by decide) (NxR z (by decide) (by decide) (e1)) ?_
      refine v_icmp_ge (q := 273) (q2 := 99) hC dL_areGroups_96 (by decide) rfl (fun c_96 => ?_) (fun c_96 => ?_)
      · refine v_iload_n (i := 3) (q := 274) hC dL_areGroups_273 rfl rfl rfl ?_
        refine v_iret hC dL_areGroups_274 hr (rfl) ?_ (show _ ≤ 720 by omega) (show _ ≤ 4320 by omega)
        exact ⟨rfl, z⟩
      · exact absurd (nI_le (by omega) (by omega)) c_96
    | succ n ih =>
      intro g G' x5 x6 x7 h1 z
      have hg : g < mGs (G.2.1 0 30) := by omega
      refine v_iload (q := 93) hC dL_areGroups_91 rfl rfl ?_
      refine v_aload_n (i := 2) (q := 94) hC dL_areGroups_93 rfl rfl rfl ?_
      refine v_iconst (q := 95) (v := 1) hC dL_areGroups_94 rfl (by decide) ?_
      refine v_ialdV (q := 96) hC dL_areGroups_95 rfl rfl rfl (i := 1) (rfl) (by first | decide | omega) (by decide) (NxR z (by decide) (by decide) (e1)) ?_
      refine v_icmp_ge (q := 273) (q2 := 99) hC dL_areGroups_96 (by decide) rfl (fun c_96 => ?_) (fun c_96 => ?_)
      · exact absurd c_96 (nI_ge (by omega) (by omega))
      · refine v_iload_n (i := 3) (q := 100) hC dL_areGroups_99 rfl rfl rfl ?_
        refine v_if_eq (q := 273) (q2 := 103) hC dL_areGroups_100 (by decide) rfl (fun c_100 => ?_) (fun c_100 => ?_)
        · exact absurd c_100 (by decide)
        · refine v_aload_n (i := 1) (q := 104) hC dL_areGroups_103 rfl rfl rfl ?_
          refine v_iload (q := 106) hC dL_areGroups_104 rfl rfl ?_
          refine v_callSN (q := 109) (rm := rm_L_belong) hC (c_L_belong hl Θ g _ (by omega) (h8 z)) k_L_belong st_yL_belong ml_RL_181 dL_areGroups_106 rfl rfl rfl (Nat.le_of_ble_eq_true rfl) ⟨Nat.le_of_ble_eq_true rfl, Nat.le_of_ble_eq_true rfl⟩ (c1 := 0) (s1 := 0) rfl rfl ⟨show _ + 0 ≤ 720 by omega, show _ + 0 ≤ 4320 by omega⟩ (fR_k ?_) fR_n
          try dsimp only [Option.toList, List.cons_append, List.nil_append]
          rw [z.a (o := 40) (by decide) (by decide)]
          refine v_istore (q := 111) hC dL_areGroups_109 rfl (lvc rfl) (Nat.le_of_ble_eq_true rfl) (Nat.le_of_ble_eq_true rfl) rfl ?_
          refine v_iconst (q := 112) (v := 0) hC dL_areGroups_111 rfl (by decide) ?_
          refine v_istore (q := 114) hC dL_areGroups_112 rfl (lvc rfl) (Nat.le_of_ble_eq_true rfl) (Nat.le_of_ble_eq_true rfl) rfl ?_
          refine L2 g hg (fun G2 x6 x7 z2 => ?_) (mUs (G.2.1 0 30)) 0 _ _ rfl z
          refine v_iconst (q := 210) (v := 0) hC dL_areGroups_209 rfl (by decide) ?_
          refine v_istore (q := 212) hC dL_areGroups_210 rfl (lvc rfl) (Nat.le_of_ble_eq_true rfl) (Nat.le_of_ble_eq_true rfl) rfl ?_
          exact L3 g hg (fun G3 x6 x7 z3 => v_widen (by omega) (by omega) (ih (g + 1) _ _ _ _ (by omega) z3)) (mGs (G.2.1 0 30)) 0 _ _ rfl z2
  refine v_aload_n (i := 0) (q := 1) hC dL_areGroups_0 rfl rfl rfl ?_
  refine v_callVN (q := 4) (rm := rm_X11_users) hC (c_X11_users hl Θ _) k_X11_users im_yX11_users se_yX11_users ml_RL_202 dL_areGroups_1 rfl rfl rfl rfl rfl rfl (Nat.le_of_ble_eq_true rfl) ⟨Nat.le_of_ble_eq_true rfl, Nat.le_of_ble_eq_true rfl⟩ (c1 := 0) (s1 := 0) rfl rfl ⟨show _ + 0 ≤ 720 by omega, show _ + 0 ≤ 4320 by omega⟩ (fR_k ?_) fR_n
  try dsimp only [Option.toList, List.cons_append, List.nil_append]
  rw [hS.1.us]
  refine v_aload_n (i := 2) (q := 5) hC dL_areGroups_4 rfl rfl rfl ?_
  refine v_iconst (q := 6) (v := 0) hC dL_areGroups_5 rfl (by decide) ?_
  refine v_ialdV (q := 7) hC dL_areGroups_6 rfl rfl rfl (i := 0) (rfl) (by first | decide | omega) (by decide) (NxR z0 (by decide) (by decide) (e0)) ?_
  refine v_icmp_ne (q := 86) (q2 := 10) hC dL_areGroups_7 (by decide) rfl (fun c_7 => ?_) (fun c_7 => ?_)
  · exact absurd rfl c_7
  · refine v_aload_n (i := 0) (q := 11) hC dL_areGroups_10 rfl rfl rfl ?_
    refine v_callVN (q := 14) (rm := rm_X11_groups) hC (c_X11_groups hl Θ _) k_X11_groups im_yX11_groups se_yX11_groups ml_RL_205 dL_areGroups_11 rfl rfl rfl rfl rfl rfl (Nat.le_of_ble_eq_true rfl) ⟨Nat.le_of_ble_eq_true rfl, Nat.le_of_ble_eq_true rfl⟩ (c1 := 0) (s1 := 0) rfl rfl ⟨show _ + 0 ≤ 720 by omega, show _ + 0 ≤ 4320 by omega⟩ (fR_k ?_) fR_n
    try dsimp only [Option.toList, List.cons_append, List.nil_append]
    rw [hS.1.gs]
    refine v_aload_n (i := 2) (q := 15) hC dL_areGroups_14 rfl rfl rfl ?_
    refine v_iconst (q := 16) (v := 1) hC dL_areGroups_15 rfl (by decide) ?_
    refine v_ialdV (q := 17) hC dL_areGroups_16 rfl rfl rfl (i := 1) (rfl) (by first | decide | omega) (by decide) (NxR z0 (by decide) (by decide) (e1)) ?_
    refine v_icmp_ne (q := 86) (q2 := 20) hC dL_areGroups_17 (by decide) rfl (fun c_17 => ?_) (fun c_17 => ?_)
    · exact absurd rfl c_17
    · refine v_aload_n (i := 0) (q := 21) hC dL_areGroups_20 rfl rfl rfl ?_
      refine v_aload_n (i := 2) (q := 22) hC dL_areGroups_21 rfl rfl rfl ?_
      refine v_iconst (q := 23) (v := 0) hC dL_areGroups_22 rfl (by decide) ?_
      refine v_ialdV (q := 24) hC dL_areGroups_23 rfl rfl rfl (i := 0) (rfl) (by first | decide | omega) (by decide) (NxR z0 (by decide) (by decide) (e0)) ?_
      refine v_iconst (q := 25) (v := 0) hC dL_areGroups_24 rfl (by decide) ?_
      refine v_callR (q := 28) (rm := rm_L_isMemberOf) hC ((r_isMember hl Θ z0 ht (nI (mUs (G.2.1 0 30))) 0).v (v2 := -101) (by rw [hD.mU (by omega), decide_eq_false (Nat.lt_irrefl _), Bool.false_and, if_neg (by decide)])) kh_L_isMemberOf ml_RL_208 dL_areGroups_25 rfl rfl rfl (Nat.le_of_ble_eq_true rfl) ⟨Nat.le_of_ble_eq_true rfl, Nat.le_of_ble_eq_true rfl⟩ (c1 := 2) (s1 := 12) rfl rfl ⟨show _ + 2 ≤ 720 by omega, show _ + 12 ≤ 4320 by omega⟩ (rQ_k (fun G_25 z_25 => ?_)) rQ_n
      try dsimp only [Option.toList, List.cons_append, List.nil_append]
      refine v_bipush (q := 30) (v := (-101)) hC dL_areGroups_28 rfl (by decide) ?_
      refine v_icmp_ne (q := 86) (q2 := 33) hC dL_areGroups_30 (by decide) rfl (fun c_30 => ?_) (fun c_30 => ?_)
      · exact absurd rfl c_30
      · refine v_aload_n (i := 0) (q := 34) hC dL_areGroups_33 rfl rfl rfl ?_
        refine v_iconst (q := 35) (v := 0) hC dL_areGroups_34 rfl (by decide) ?_
        refine v_aload_n (i := 2) (q := 36) hC dL_areGroups_35 rfl rfl rfl ?_
        refine v_iconst (q := 37) (v := 1) hC dL_areGroups_36 rfl (by decide) ?_
        refine v_ialdV (q := 38) hC dL_areGroups_37 rfl rfl rfl (i := 1) (rfl) (by first | decide | omega) (by decide) (NxR z_25 (by decide) (by decide) (e1)) ?_
        refine v_callR (q := 41) (rm := rm_L_isMemberOf) hC ((r_isMember hl Θ z_25 ht 0 (nI (mGs (G.2.1 0 30)))).v (v2 := -101) (by rw [hD.mG (by omega), decide_eq_false (Nat.lt_irrefl _), Bool.and_false, if_neg (by decide)])) kh_L_isMemberOf ml_RL_208 dL_areGroups_38 rfl rfl rfl (Nat.le_of_ble_eq_true rfl) ⟨Nat.le_of_ble_eq_true rfl, Nat.le_of_ble_eq_true rfl⟩ (c1 := 2) (s1 := 12) rfl rfl ⟨show _ + 2 ≤ 720 by omega, show _ + 12 ≤ 4320 by omega⟩ (rQ_k (fun G_38 z_38 => ?_)) rQ_n
        try dsimp only [Option.toList, List.cons_append, List.nil_append]
        refine v_bipush (q := 43) (v := (-101)) hC dL_areGroups_41 rfl (by decide) ?_
        refine v_icmp_ne (q := 86) (q2 := 46) hC dL_areGroups_43 (by decide) rfl (fun c_43 => ?_) (fun c_43 => ?_)
        · exact absurd rfl c_43
        · refine v_aload_n (i := 0) (q := 47) hC dL_areGroups_46 rfl rfl rfl ?_
          refine v_aload_n (i := 2) (q := 48) hC dL_areGroups_47 rfl rfl rfl ?_
          refine v_iconst (q := 49) (v := 1) hC dL_areGroups_48 rfl (by decide) ?_
          refine v_ialdV (q := 50) hC dL_areGroups_49 rfl rfl rfl (i := 1) (rfl) (by first | decide | omega) (by decide) (NxR z_38 (by decide) (by decide) (e1)) ?_
          refine v_iconst (q := 51) (v := 0) hC dL_areGroups_50 rfl (by decide) ?_
          refine v_callR (q := 54) (rm := rm_L_isNestedOf) hC ((r_isNested hl Θ z_38 ht (nI (mGs (G.2.1 0 30))) 0).v (v2 := -101) (by rw [hD.mG (by omega), decide_eq_false (Nat.lt_irrefl _), Bool.false_and, if_neg (by decide)])) kh_L_isNestedOf ml_RL_212 dL_areGroups_51 rfl rfl rfl (Nat.le_of_ble_eq_true rfl) ⟨Nat.le_of_ble_eq_true rfl, Nat.le_of_ble_eq_true rfl⟩ (c1 := 2) (s1 := 12) rfl rfl ⟨show _ + 2 ≤ 720 by omega, show _ + 12 ≤ 4320 by omega⟩ (rQ_k (fun G_51 z_51 => ?_)) rQ_n
          try dsimp only [Option.toList, List.cons_append, List.nil_append]
          refine v_bipush (q := 56) (v := (-101)) hC dL_areGroups_54 rfl (by decide) ?_
          refine v_icmp_ne (q := 86) (q2 := 59) hC dL_areGroups_56 (by decide) rfl (fun c_56 => ?_) (fun c_56 => ?_)
          · exact absurd rfl c_56
          · refine v_aload_n (i := 0) (q := 60) hC dL_areGroups_59 rfl rfl rfl ?_
            refine v_iconst (q := 61) (v := (-1)) hC dL_areGroups_60 rfl (by decide) ?_
            refine v_iconst (q := 62) (v := 0) hC dL_areGroups_61 rfl (by decide) ?_
            refine v_callR (q := 65) (rm := rm_L_belongsOf) hC ((r_belongs hl Θ z_51 ht (-1) 0).v (v2 := -101) (by rw [hD.mUm, Bool.false_and, if_neg (by decide)])) kh_L_belongsOf ml_RL_215 dL_areGroups_62 rfl rfl rfl (Nat.le_of_ble_eq_true rfl) ⟨Nat.le_of_ble_eq_true rfl, Nat.le_of_ble_eq_true rfl⟩ (c1 := 2) (s1 := 12) rfl rfl ⟨show _ + 2 ≤ 720 by omega, show _ + 12 ≤ 4320 by omega⟩ (rQ_k (fun G_62 z_62 => ?_)) rQ_n
            try dsimp only [Option.toList, List.cons_append, List.nil_append]
            refine v_bipush (q := 67) (v := (-101)) hC dL_areGroups_65 rfl (by decide) ?_
            refine v_icmp_ne (q := 86) (q2 := 70) hC dL_areGroups_67 (by decide) rfl (fun c_67 => ?_) (fun c_67 => ?_)
            · exact absurd rfl c_67
            · refine v_aload_n (i := 0) (q := 71) hC dL_areGroups_70 rfl rfl rfl ?_
              refine v_iconst (q := 72) (v := 0) hC dL_areGroups_71 rfl (by decide) ?_
              refine v_bipush (q := 74) (v := 8) hC dL_areGroups_72 rfl (by decide) ?_
              refine v_callR (q := 77) (rm := rm_L_belongsByMembersOf) hC ((r_belongsByMembers hl Θ z_62 ht 0 8).v (v2 := -101) (by rw [show (8 : Int32) = nI 8 from rfl, hD.mG (by omega), decide_eq_false (by omega), Bool.and_false, if_neg (by decide)])) kh_L_belongsByMembersOf ml_RL_218 dL_areGroups_74 rfl rfl rfl (Nat.le_of_ble_eq_true rfl) ⟨Nat.le_of_ble_eq_true rfl, Nat.le_of_ble_eq_true rfl⟩ (c1 := 2) (s1 := 12) rfl rfl ⟨show _ + 2 ≤ 720 by omega, show _ + 12 ≤ 4320 by omega⟩ (rQ_k (fun G_74 z_74 => ?_)) rQ_n
              try dsimp only [Option.toList, List.cons_append, List.nil_append]
              refine v_bipush (q := 79) (v := (-101)) hC dL_areGroups_77 rfl (by decide) ?_
              refine v_icmp_ne (q := 86) (q2 := 82) hC dL_areGroups_79 (by decide) rfl (fun c_79 => ?_) (fun c_79 => ?_)
              · exact absurd rfl c_79
              · refine v_iconst (q := 83) (v := 1) hC dL_areGroups_82 rfl (by decide) ?_
                refine v_goto (q := 87) hC dL_areGroups_83 (by decide) ?_
                refine v_istore_n (i := 3) (q := 88) hC dL_areGroups_87 rfl rfl (lvc rfl) (Nat.le_of_ble_eq_true rfl) (Nat.le_of_ble_eq_true rfl) rfl ?_
                refine v_iconst (q := 89) (v := 0) hC dL_areGroups_88 rfl (by decide) ?_
                refine v_istore (q := 91) hC dL_areGroups_89 rfl (lvc rfl) (Nat.le_of_ble_eq_true rfl) (Nat.le_of_ble_eq_true rfl) rfl ?_
                exact L1 (mGs (G.2.1 0 30)) 0 _ _ _ _ rfl z_74
