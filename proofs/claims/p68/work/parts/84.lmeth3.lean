/-! The law's own helpers: which entry decides, what is allowed, what rights there are. -/
def oI (li : Nat) : Option Nat → Int32
  | some i => nI (6 * li + i)
  | none => -1
theorem mDe_s (w : Nat → Int32) (u : Int32) (o : Nat) (r : Int32) (n : Nat) {j : Nat} (hj : j < 2 ^ 31) : mDe w u o r (n + 1) (nI j) = (match mDeI w u o r j (mCt w j) 0 with
    | some i => nI (6 * j + i)
    | none => mDe w u o r n (if w (oA j 4) = 1 then w (oA j 1) else -1)) := by
  rw [mDe, if_neg (nI_pos hj), nI_clamp hj]
  cases mDeI w u o r j (mCt w j) 0 <;> rfl
theorem dec_i (x : Int32) : x + Int32.ofInt (-1) = x - 1 := by
  rw [Int32.sub_eq_add_neg]; rfl
theorem lCd_mCo {w m p e : Nat → Int32} (_ : LD w m p e) {li i : Nat} {x : Int32} (hc : lCd w li i x) (u : Int32) (o : Nat) (r : Int32) : mCo w u o r li i = ((decide (nI li = nI o) || decide (x &&& 1 = 1)) && (mHas ((x >>> (2 &&& 31)) &&& 15) r && mFor w u o li i)) := by
  obtain ⟨kd, n, r4, a, b, ⟨hk, hn, hr4⟩, rfl, ⟨e1, e2, e3⟩, e4, e5⟩ := hc
  obtain ⟨-, ⟨d3, -⟩, ⟨d5, -⟩, -⟩ := lCode_d kd hk n hn r4 hr4 a b
  unfold mCo
  rw [d3, d5, e3, e5]
set_option maxHeartbeats 4000000 in
set_option maxRecDepth 20000 in
theorem c_L_deciding {l : Launch} (hl : l.stackTraces = false) (Θ : cTH) (u o r : Nat) (G : GS) (hD : LD (G.2.1 0 30) (G.2.1 0 40) (G.2.1 0 41) (G.2.1 0 42)) (hu : u < 12) (ho : o < 10) (h1 : G.2.1 0 30 (oA o 0) = 1) : Ct l yL_deciding cL_deciding 13 (some .int) rm_L_deciding Θ [.ref (tR Θ 0 40), .ref (tR Θ 0 41), .ref (tR Θ 0 42), .int (nI u), .int (nI o), .int (nI r)] (G) (fR (some (.int (mDec (G.2.1 0 30) (nI u) o (nI r)))) G) := by
  refine ct_of (LS := [some (.ref (tR Θ 0 40)), some (.ref (tR Θ 0 41)), some (.ref (tR Θ 0 42)), some (.int (nI u)), some (.int (nI o)), some (.int (nI r)), none, none, none, none, none, none, none]) hl (by decide +kernel) rfl (Nat.le_of_ble_eq_true rfl) rfl ?_
  intro p e s m args below meth c hC hr
  obtain ⟨rk, hrk⟩ := hD.ok.rk
  -- the end
  have E : ∀ (x7 x9 x10 x11 x12 : Option Value), V p l e rm_L_deciding s m args below meth c 13 Θ (fR (some (.int (mDec (G.2.1 0 30) (nI u) o (nI r)))) G) 0 0 0 0 10 [some (.ref (tR Θ 0 40)), some (.ref (tR Θ 0 41)), some (.ref (tR Θ 0 42)), some (.int (nI u)), some (.int (nI o)), some (.int (nI r)), some (.int (mDec (G.2.1 0 30) (nI u) o (nI r))), x7, some (.int 0), x9, x10, x11, x12] [] (G) := by
    intro x7 x9 x10 x11 x12
    refine v_iload (q := 12) hC dL_deciding_10 rfl rfl ?_
    refine v_if_eq (q := 180) (q2 := 15) hC dL_deciding_12 (by decide) rfl (fun c_12 => ?_) (fun c_12 => ?_)
    · refine v_iload (q := 182) hC dL_deciding_180 rfl rfl ?_
      refine v_iret hC dL_deciding_182 hr (rfl) ?_ (Nat.le_of_ble_eq_true rfl) (Nat.le_of_ble_eq_true rfl)
      exact ⟨rfl, rfl⟩
    · exact absurd rfl c_12
  have L : ∀ (n li : Nat) (fd : Int32) (x9 x10 x11 x12 : Option Value), li < 10 → G.2.1 0 30 (oA li 0) = 1 → rk li < n → ((fd = -1 ∧ mDe (G.2.1 0 30) (nI u) o (nI r) n (nI li) = mDec (G.2.1 0 30) (nI u) o (nI r)) ∨ (¬ fd < 0 ∧ fd = mDec (G.2.1 0 30) (nI u) o (nI r))) → V p l e rm_L_deciding s m args below meth c 13 Θ (fR (some (.int (mDec (G.2.1 0 30) (nI u) o (nI r)))) G) 0 0 0 0 10 [some (.ref (tR Θ 0 40)), some (.ref (tR Θ 0 41)), some (.ref (tR Θ 0 42)), some (.int (nI u)), some (.int (nI o)), some (.int (nI r)), some (.int fd), some (.int (nI li)), some (.int 1), x9, x10, x11, x12] [] (G) := by
    intro n
    induction n with
    | zero => intro li fd x9 x10 x11 x12 _ _ h; exact absurd h (by omega)
    | succ n ih =>
      intro li fd x9 x10 x11 x12 hli hl1 hrl hfd
      have hcc := hD.ok.ct (o := li) (by omega)
      have hc6 := hD.ok.ct6 (o := li) (by omega)
      have hpc := hD.pc hli hl1
      have hpi := hD.pi hli hl1
      have hpp := hD.p1 hli hl1
      have hpar := hD.par hrk hli hl1
      rw [hcc] at hpc
      rw [mDe_s _ _ _ _ _ (by omega)] at hfd
      -- up to the next list
      have M : ∀ (f2 : Int32) (x9 x10 x11 x12 : Option Value), ((f2 = -1 ∧ mDe (G.2.1 0 30) (nI u) o (nI r) n (if G.2.1 0 30 (oA li 4) = 1 then G.2.1 0 30 (oA li 1) else -1) = mDec (G.2.1 0 30) (nI u) o (nI r)) ∨ (¬ f2 < 0 ∧ f2 = mDec (G.2.1 0 30) (nI u) o (nI r))) → V p l e rm_L_deciding s m args below meth c 13 Θ (fR (some (.int (mDec (G.2.1 0 30) (nI u) o (nI r)))) G) 0 0 0 0 136 [some (.ref (tR Θ 0 40)), some (.ref (tR Θ 0 41)), some (.ref (tR Θ 0 42)), some (.int (nI u)), some (.int (nI o)), some (.int (nI r)), some (.int f2), some (.int (nI li)), some (.int 1), x9, x10, x11, x12] [] (G) := by
        intro f2 x9 x10 x11 x12 hf2
        have Z : ∀ z : Int32, mDe (G.2.1 0 30) (nI u) o (nI r) n z = -1 → (if G.2.1 0 30 (oA li 4) = 1 then G.2.1 0 30 (oA li 1) else -1) = z → f2 = mDec (G.2.1 0 30) (nI u) o (nI r) := by
          intro z h2 h3
          rcases hf2 with ⟨h4, h5⟩ | ⟨h4, h5⟩
          · rw [h3, h2] at h5
            rw [h4]; exact h5
          · exact h5
        refine v_aload_n (i := 1) (q := 137) hC dL_deciding_136 rfl rfl rfl ?_
        refine v_bipush (q := 139) (v := 30) hC dL_deciding_137 rfl (by decide) ?_
        refine v_iload (q := 141) hC dL_deciding_139 rfl rfl ?_
        refine v_iadd (q := 142) hC dL_deciding_141 rfl ?_
        refine v_ialdV (q := 143) hC dL_deciding_142 rfl rfl rfl (i := 30 + li) (nI_add 30 li) (by first | decide | omega) (by decide) (hpi) ?_
        refine v_iconst (q := 144) (v := 1) hC dL_deciding_143 rfl (by decide) ?_
        refine v_icmp_ne (q := 158) (q2 := 147) hC dL_deciding_144 (by decide) rfl (fun c_144 => ?_) (fun c_144 => ?_)
        · refine v_iconst (q := 159) (v := 0) hC dL_deciding_158 rfl (by decide) ?_
          refine v_istore (q := 161) hC dL_deciding_159 rfl (lvc rfl) (Nat.le_of_ble_eq_true rfl) (Nat.le_of_ble_eq_true rfl) rfl ?_
          refine v_iload (q := 163) hC dL_deciding_161 rfl rfl ?_
          refine v_if_eq (q := 173) (q2 := 166) hC dL_deciding_163 (by decide) rfl (fun c_163 => ?_) (fun c_163 => ?_)
          · first
            | exact absurd c_163 (by decide)
            |
              refine v_iload (q := 175) hC dL_deciding_173 rfl rfl ?_
              refine v_istore (q := 177) hC dL_deciding_175 rfl (lvc rfl) (Nat.le_of_ble_eq_true rfl) (Nat.le_of_ble_eq_true rfl) rfl ?_
              refine v_goto (q := 10) hC dL_deciding_177 (by decide) ?_
              first
              | (have e9 := Z (-1) (mDe_m1 _ _ _ _ _) (by rw [if_neg c_144])
                 rw [e9]
                 exact E _ _ _ _ _)
              | (rcases hpar with h5 | ⟨j2, h5, h6, h7, h8⟩
                 · have e9 := Z (-1) (mDe_m1 _ _ _ _ _) (by rw [if_pos c_144, h5])
                   rw [h5] at c_151
                   first
                   | exact absurd (show (-1 : Int32) < 0 by decide) c_151
                   | (rw [e9]
                      exact E _ _ _ _ _)
                 · rw [h6] at c_151
                   first
                   | exact absurd c_151 (nI_pos (by omega))
                   | (rw [h6]
                      refine ih j2 f2 _ _ _ _ h5 h7 (by omega) ?_
                      rw [if_pos c_144, h6] at hf2
                      exact hf2))
          · first
            | exact absurd c_163 (by decide)
            |
              refine v_aload_n (i := 1) (q := 167) hC dL_deciding_166 rfl rfl rfl ?_
              refine v_iload (q := 169) hC dL_deciding_167 rfl rfl ?_
              refine v_ialdV (q := 170) hC dL_deciding_169 rfl rfl rfl (i := li) (rfl) (by first | decide | omega) (by decide) (hpp) ?_
              refine v_goto (q := 175) hC dL_deciding_170 (by decide) ?_
              refine v_istore (q := 177) hC dL_deciding_175 rfl (lvc rfl) (Nat.le_of_ble_eq_true rfl) (Nat.le_of_ble_eq_true rfl) rfl ?_
              refine v_goto (q := 10) hC dL_deciding_177 (by decide) ?_
              first
              | (have e9 := Z (-1) (mDe_m1 _ _ _ _ _) (by rw [if_neg c_144])
                 rw [e9]
                 exact E _ _ _ _ _)
              | (rcases hpar with h5 | ⟨j2, h5, h6, h7, h8⟩
                 · have e9 := Z (-1) (mDe_m1 _ _ _ _ _) (by rw [if_pos c_144, h5])
                   rw [h5] at c_151
                   first
                   | exact absurd (show (-1 : Int32) < 0 by decide) c_151
                   | (rw [e9]
                      exact E _ _ _ _ _)
                 · rw [h6] at c_151
                   first
                   | exact absurd c_151 (nI_pos (by omega))
                   | (rw [h6]
                      refine ih j2 f2 _ _ _ _ h5 h7 (by omega) ?_
                      rw [if_pos c_144, h6] at hf2
                      exact hf2))
        · refine v_aload_n (i := 1) (q := 148) hC dL_deciding_147 rfl rfl rfl ?_
          refine v_iload (q := 150) hC dL_deciding_148 rfl rfl ?_
          refine v_ialdV (q := 151) hC dL_deciding_150 rfl rfl rfl (i := li) (rfl) (by first | decide | omega) (by decide) (hpp) ?_
          refine v_if_lt (q := 158) (q2 := 154) hC dL_deciding_151 (by decide) rfl (fun c_151 => ?_) (fun c_151 => ?_)
          · refine v_iconst (q := 159) (v := 0) hC dL_deciding_158 rfl (by decide) ?_
            refine v_istore (q := 161) hC dL_deciding_159 rfl (lvc rfl) (Nat.le_of_ble_eq_true rfl) (Nat.le_of_ble_eq_true rfl) rfl ?_
            refine v_iload (q := 163) hC dL_deciding_161 rfl rfl ?_
            refine v_if_eq (q := 173) (q2 := 166) hC dL_deciding_163 (by decide) rfl (fun c_163 => ?_) (fun c_163 => ?_)
            · first
              | exact absurd c_163 (by decide)
              |
                refine v_iload (q := 175) hC dL_deciding_173 rfl rfl ?_
                refine v_istore (q := 177) hC dL_deciding_175 rfl (lvc rfl) (Nat.le_of_ble_eq_true rfl) (Nat.le_of_ble_eq_true rfl) rfl ?_
                refine v_goto (q := 10) hC dL_deciding_177 (by decide) ?_
                first
                | (have e9 := Z (-1) (mDe_m1 _ _ _ _ _) (by rw [if_neg c_144])
                   rw [e9]
                   exact E _ _ _ _ _)
                | (rcases hpar with h5 | ⟨j2, h5, h6, h7, h8⟩
                   · have e9 := Z (-1) (mDe_m1 _ _ _ _ _) (by rw [if_pos c_144, h5])
                     rw [h5] at c_151
                     first
                     | exact absurd (show (-1 : Int32) < 0 by decide) c_151
                     | (rw [e9]
                        exact E _ _ _ _ _)
                   · rw [h6] at c_151
                     first
                     | exact absurd c_151 (nI_pos (by omega))
                     | (rw [h6]
                        refine ih j2 f2 _ _ _ _ h5 h7 (by omega) ?_
                        rw [if_pos c_144, h6] at hf2
                        exact hf2))
            · first
              | exact absurd c_163 (by decide)
              |
                refine v_aload_n (i := 1) (q := 167) hC dL_deciding_166 rfl rfl rfl ?_
                refine v_iload (q := 169) hC dL_deciding_167 rfl rfl ?_
                refine v_ialdV (q := 170) hC dL_deciding_169 rfl rfl rfl (i := li) (rfl) (by first | decide | omega) (by decide) (hpp) ?_
                refine v_goto (q := 175) hC dL_deciding_170 (by decide) ?_
                refine v_istore (q := 177) hC dL_deciding_175 rfl (lvc rfl) (Nat.le_of_ble_eq_true rfl) (Nat.le_of_ble_eq_true rfl) rfl ?_
                refine v_goto (q := 10) hC dL_deciding_177 (by decide) ?_
                first
                | (have e9 := Z (-1) (mDe_m1 _ _ _ _ _) (by rw [if_neg c_144])
                   rw [e9]
                   exact E _ _ _ _ _)
                | (rcases hpar with h5 | ⟨j2, h5, h6, h7, h8⟩
                   · have e9 := Z (-1) (mDe_m1 _ _ _ _ _) (by rw [if_pos c_144, h5])
                     rw [h5] at c_151
                     first
                     | exact absurd (show (-1 : Int32) < 0 by decide) c_151
                     | (rw [e9]
                        exact E _ _ _ _ _)
                   · rw [h6] at c_151
                     first
                     | exact absurd c_151 (nI_pos (by omega))
                     | (rw [h6]
                        refine ih j2 f2 _ _ _ _ h5 h7 (by omega) ?_
                        rw [if_pos c_144, h6] at hf2
                        exact hf2))
          · refine v_iconst (q := 155) (v := 1) hC dL_deciding_154 rfl (by decide) ?_
            refine v_goto (q := 159) hC dL_deciding_155 (by decide) ?_
            refine v_istore (q := 161) hC dL_deciding_159 rfl (lvc rfl) (Nat.le_of_ble_eq_true rfl) (Nat.le_of_ble_eq_true rfl) rfl ?_
            refine v_iload (q := 163) hC dL_deciding_161 rfl rfl ?_
            refine v_if_eq (q := 173) (q2 := 166) hC dL_deciding_163 (by decide) rfl (fun c_163 => ?_) (fun c_163 => ?_)
            · first
              | exact absurd c_163 (by decide)
              |
                refine v_iload (q := 175) hC dL_deciding_173 rfl rfl ?_
                refine v_istore (q := 177) hC dL_deciding_175 rfl (lvc rfl) (Nat.le_of_ble_eq_true rfl) (Nat.le_of_ble_eq_true rfl) rfl ?_
                refine v_goto (q := 10) hC dL_deciding_177 (by decide) ?_
                first
                | (have e9 := Z (-1) (mDe_m1 _ _ _ _ _) (by rw [if_neg c_144])
                   rw [e9]
                   exact E _ _ _ _ _)
                | (rcases hpar with h5 | ⟨j2, h5, h6, h7, h8⟩
                   · have e9 := Z (-1) (mDe_m1 _ _ _ _ _) (by rw [if_pos c_144, h5])
                     rw [h5] at c_151
                     first
                     | exact absurd (show (-1 : Int32) < 0 by decide) c_151
                     | (rw [e9]
                        exact E _ _ _ _ _)
                   · rw [h6] at c_151
                     first
                     | exact absurd c_151 (nI_pos (by omega))
                     | (rw [h6]
                        refine ih j2 f2 _ _ _ _ h5 h7 (by omega) ?_
                        rw [if_pos c_144, h6] at hf2
                        exact hf2))
            · first
              | exact absurd c_163 (by decide)
              |
                refine v_aload_n (i := 1) (q := 167) hC dL_deciding_166 rfl rfl rfl ?_
                refine v_iload (q := 169) hC dL_deciding_167 rfl rfl ?_
                refine v_ialdV (q := 170) hC dL_deciding_169 rfl rfl rfl (i := li) (rfl) (by first | decide | omega) (by decide) (hpp) ?_
                refine v_goto (q := 175) hC dL_deciding_170 (by decide) ?_
                refine v_istore (q := 177) hC dL_deciding_175 rfl (lvc rfl) (Nat.le_of_ble_eq_true rfl) (Nat.le_of_ble_eq_true rfl) rfl ?_
                refine v_goto (q := 10) hC dL_deciding_177 (by decide) ?_
                first
                | (have e9 := Z (-1) (mDe_m1 _ _ _ _ _) (by rw [if_neg c_144])
                   rw [e9]
                   exact E _ _ _ _ _)
                | (rcases hpar with h5 | ⟨j2, h5, h6, h7, h8⟩
                   · have e9 := Z (-1) (mDe_m1 _ _ _ _ _) (by rw [if_pos c_144, h5])
                     rw [h5] at c_151
                     first
                     | exact absurd (show (-1 : Int32) < 0 by decide) c_151
                     | (rw [e9]
                        exact E _ _ _ _ _)
                   · rw [h6] at c_151
                     first
                     | exact absurd c_151 (nI_pos (by omega))
                     | (rw [h6]
                        refine ih j2 f2 _ _ _ _ h5 h7 (by omega) ?_
                        rw [if_pos c_144, h6] at hf2
                        exact hf2))
      have L2 : ∀ (c2 : Nat) (x11 x12 : Option Value), c2 ≤ mCt (G.2.1 0 30) li → V p l e rm_L_deciding s m args below meth c 13 Θ (fR (some (.int (mDec (G.2.1 0 30) (nI u) o (nI r)))) G) 0 0 0 0 29 [some (.ref (tR Θ 0 40)), some (.ref (tR Θ 0 41)), some (.ref (tR Θ 0 42)), some (.int (nI u)), some (.int (nI o)), some (.int (nI r)), some (.int fd), some (.int (nI li)), some (.int 1), some (.int (oI li (mDeI (G.2.1 0 30) (nI u) o (nI r) li (mCt (G.2.1 0 30) li - c2) c2))), some (.int (nI c2 - 1)), x11, x12] [] (G) := by
        intro c2
        induction c2 with
        | zero =>
          intro x11 x12 h2
          rw [Nat.sub_zero]
          cases hm : mDeI (G.2.1 0 30) (nI u) o (nI r) li (mCt (G.2.1 0 30) li) 0 with
          | none =>
            rw [hm] at hfd
            dsimp only at hfd
            refine v_iload (q := 31) hC dL_deciding_29 rfl rfl ?_
            refine v_if_lt (q := 122) (q2 := 34) hC dL_deciding_31 (by decide) rfl (fun c_31 => ?_) (fun c_31 => ?_)
            · refine v_iload (q := 124) hC dL_deciding_122 rfl rfl ?_
              refine v_if_ge (q := 132) (q2 := 127) hC dL_deciding_124 (by decide) rfl (fun c_124 => ?_) (fun c_124 => ?_)
              · refine v_iload (q := 134) hC dL_deciding_132 rfl rfl ?_
                refine v_istore (q := 136) hC dL_deciding_134 rfl (lvc rfl) (Nat.le_of_ble_eq_true rfl) (Nat.le_of_ble_eq_true rfl) rfl ?_
                first
                | (refine M _ _ _ _ _ (Or.inr ?_)
                   rcases hfd with ⟨z, _⟩ | z
                   · rw [z] at c_124; exact absurd c_124 (by decide)
                   · exact z)
                | (refine M _ _ _ _ _ (Or.inl ⟨rfl, ?_⟩)
                   rcases hfd with ⟨_, z⟩ | ⟨z, _⟩
                   · exact z
                   · exact absurd (ls2 z) c_124)
              · refine v_iload (q := 129) hC dL_deciding_127 rfl rfl ?_
                refine v_goto (q := 134) hC dL_deciding_129 (by decide) ?_
                refine v_istore (q := 136) hC dL_deciding_134 rfl (lvc rfl) (Nat.le_of_ble_eq_true rfl) (Nat.le_of_ble_eq_true rfl) rfl ?_
                first
                | (refine M _ _ _ _ _ (Or.inr ?_)
                   rcases hfd with ⟨z, _⟩ | z
                   · rw [z] at c_124; exact absurd c_124 (by decide)
                   · exact z)
                | (refine M _ _ _ _ _ (Or.inl ⟨rfl, ?_⟩)
                   rcases hfd with ⟨_, z⟩ | ⟨z, _⟩
                   · exact z
                   · exact absurd (ls2 z) c_124)
            · exact absurd (by decide) c_31
          | some i =>
            rw [hm] at hfd
            dsimp only at hfd
            have hi6 : i < 6 := by have := mDeI_lt _ _ hm; omega
            refine v_iload (q := 31) hC dL_deciding_29 rfl rfl ?_
            refine v_if_lt (q := 122) (q2 := 34) hC dL_deciding_31 (by decide) rfl (fun c_31 => ?_) (fun c_31 => ?_)
            · refine v_iload (q := 124) hC dL_deciding_122 rfl rfl ?_
              refine v_if_ge (q := 132) (q2 := 127) hC dL_deciding_124 (by decide) rfl (fun c_124 => ?_) (fun c_124 => ?_)
              · refine v_iload (q := 134) hC dL_deciding_132 rfl rfl ?_
                refine v_istore (q := 136) hC dL_deciding_134 rfl (lvc rfl) (Nat.le_of_ble_eq_true rfl) (Nat.le_of_ble_eq_true rfl) rfl ?_
                first
                | (refine M _ _ _ _ _ (Or.inr ?_)
                   rcases hfd with ⟨z, _⟩ | z
                   · rw [z] at c_124; exact absurd c_124 (by decide)
                   · exact z)
                | (refine M _ _ _ _ _ (Or.inr ?_)
                   rcases hfd with ⟨_, z⟩ | ⟨z, _⟩
                   · exact ⟨nI_pos (by omega), z⟩
                   · exact absurd (ls2 z) c_124)
              · refine v_iload (q := 129) hC dL_deciding_127 rfl rfl ?_
                refine v_goto (q := 134) hC dL_deciding_129 (by decide) ?_
                refine v_istore (q := 136) hC dL_deciding_134 rfl (lvc rfl) (Nat.le_of_ble_eq_true rfl) (Nat.le_of_ble_eq_true rfl) rfl ?_
                first
                | (refine M _ _ _ _ _ (Or.inr ?_)
                   rcases hfd with ⟨z, _⟩ | z
                   · rw [z] at c_124; exact absurd c_124 (by decide)
                   · exact z)
                | (refine M _ _ _ _ _ (Or.inr ?_)
                   rcases hfd with ⟨_, z⟩ | ⟨z, _⟩
                   · exact ⟨nI_pos (by omega), z⟩
                   · exact absurd (ls2 z) c_124)
            · exact absurd (by decide) c_31
        | succ i ih2 =>
          intro x11 x12 h2
          have hlc := hD.ce hli hl1 (show i < mCt (G.2.1 0 30) li by omega)
          have hco := lCd_mCo hD hlc (nI u) o (nI r)
          have hs : mCt (G.2.1 0 30) li - i = (mCt (G.2.1 0 30) li - (i + 1)) + 1 := by omega
          have ih3 := fun x11 x12 => ih2 x11 x12 (by omega)
          rw [hs, mDeI] at ih3
          rw [nI_pred]
          refine v_iload (q := 31) hC dL_deciding_29 rfl rfl ?_
          refine v_if_lt (q := 122) (q2 := 34) hC dL_deciding_31 (by decide) rfl (fun c_31 => ?_) (fun c_31 => ?_)
          · exact absurd c_31 (nI_pos (by omega))
          · refine v_aload_n (i := 2) (q := 35) hC dL_deciding_34 rfl rfl rfl ?_
            refine v_bipush (q := 37) (v := 6) hC dL_deciding_35 rfl (by decide) ?_
            refine v_iload (q := 39) hC dL_deciding_37 rfl rfl ?_
            refine v_imul (q := 40) hC dL_deciding_39 rfl ?_
            refine v_iload (q := 42) hC dL_deciding_40 rfl rfl ?_
            refine v_iadd (q := 43) hC dL_deciding_42 rfl ?_
            refine v_ialdN (q := 44) hC dL_deciding_43 rfl rfl rfl (i := 6 * li + i) (by rw [show (6 : Int32) = nI 6 from rfl, nI_mul, nI_add]) (by first | decide | omega | (unfold oA; omega) | (unfold enA; omega)) (by decide) ?_
            refine v_istore (q := 46) hC dL_deciding_44 rfl (lvc rfl) (Nat.le_of_ble_eq_true rfl) (Nat.le_of_ble_eq_true rfl) rfl ?_
            refine v_iload (q := 48) hC dL_deciding_46 rfl rfl ?_
            refine v_iload (q := 50) hC dL_deciding_48 rfl rfl ?_
            refine v_icmp_eq (q := 61) (q2 := 53) hC dL_deciding_50 (by decide) rfl (fun c_50 => ?_) (fun c_50 => ?_)
            · refine v_iload (q := 63) hC dL_deciding_61 rfl rfl ?_
              refine v_iconst (q := 64) (v := 2) hC dL_deciding_63 rfl (by decide) ?_
              refine v_ishr (q := 65) hC dL_deciding_64 rfl ?_
              refine v_bipush (q := 67) (v := 15) hC dL_deciding_65 rfl (by decide) ?_
              refine v_iand (q := 68) hC dL_deciding_67 rfl ?_
              refine v_iload (q := 70) hC dL_deciding_68 rfl rfl ?_
              refine v_callSN (q := 73) (rm := rm_L_has) hC (c_L_has hl Θ _ _ _) k_L_has st_yL_has ml_RL_172 dL_deciding_70 rfl rfl rfl (Nat.le_of_ble_eq_true rfl) ⟨Nat.le_of_ble_eq_true rfl, Nat.le_of_ble_eq_true rfl⟩ (c1 := 0) (s1 := 0) rfl rfl ⟨Nat.le_of_ble_eq_true rfl, Nat.le_of_ble_eq_true rfl⟩ (fR_k ?_) fR_n
              try dsimp only [Option.toList, List.cons_append, List.nil_append]
              refine v_ifb_eq (q := 93) (q2 := 76) hC dL_deciding_73 (by decide) rfl (fun c_73 => ?_) (fun c_73 => ?_)
              · refine v_iconst (q := 94) (v := 0) hC dL_deciding_93 rfl (by decide) ?_
                refine v_istore (q := 96) hC dL_deciding_94 rfl (lvc rfl) (Nat.le_of_ble_eq_true rfl) (Nat.le_of_ble_eq_true rfl) rfl ?_
                refine v_iload (q := 98) hC dL_deciding_96 rfl rfl ?_
                refine v_if_eq (q := 112) (q2 := 101) hC dL_deciding_98 (by decide) rfl (fun c_98 => ?_) (fun c_98 => ?_)
                · first
                  | exact absurd c_98 (by decide)
                  |
                    refine v_iload (q := 114) hC dL_deciding_112 rfl rfl ?_
                    refine v_istore (q := 116) hC dL_deciding_114 rfl (lvc rfl) (Nat.le_of_ble_eq_true rfl) (Nat.le_of_ble_eq_true rfl) rfl ?_
                    refine v_iinc (q := 119) (v := nI i - 1) hC dL_deciding_116 rfl rfl (dec_i _) (lvc rfl) (Nat.le_of_ble_eq_true rfl) (Nat.le_of_ble_eq_true rfl) rfl ?_
                    refine v_goto (q := 29) hC dL_deciding_119 (by decide) ?_
                    first
                    | (rw [if_pos (by rw [hco]; simp_all)] at ih3
                       have h9 := ih3 (some (.int (G.2.1 0 42 (6 * li + i)))) (some (.int 1))
                       have e6 : (6 : Int32) * nI li + nI i = oI li (some i) := by rw [show (6 : Int32) = nI 6 from rfl, nI_mul, nI_add]; rfl
                       rw [e6]
                       exact h9)
                    | (rw [if_neg (by rw [hco]; simp_all)] at ih3
                       exact ih3 (some (.int (G.2.1 0 42 (6 * li + i)))) (some (.int 0)))
                · first
                  | exact absurd c_98 (by decide)
                  |
                    refine v_bipush (q := 103) (v := 6) hC dL_deciding_101 rfl (by decide) ?_
                    refine v_iload (q := 105) hC dL_deciding_103 rfl rfl ?_
                    refine v_imul (q := 106) hC dL_deciding_105 rfl ?_
                    refine v_iload (q := 108) hC dL_deciding_106 rfl rfl ?_
                    refine v_iadd (q := 109) hC dL_deciding_108 rfl ?_
                    refine v_goto (q := 114) hC dL_deciding_109 (by decide) ?_
                    refine v_istore (q := 116) hC dL_deciding_114 rfl (lvc rfl) (Nat.le_of_ble_eq_true rfl) (Nat.le_of_ble_eq_true rfl) rfl ?_
                    refine v_iinc (q := 119) (v := nI i - 1) hC dL_deciding_116 rfl rfl (dec_i _) (lvc rfl) (Nat.le_of_ble_eq_true rfl) (Nat.le_of_ble_eq_true rfl) rfl ?_
                    refine v_goto (q := 29) hC dL_deciding_119 (by decide) ?_
                    first
                    | (rw [if_pos (by rw [hco]; simp_all)] at ih3
                       have h9 := ih3 (some (.int (G.2.1 0 42 (6 * li + i)))) (some (.int 1))
                       have e6 : (6 : Int32) * nI li + nI i = oI li (some i) := by rw [show (6 : Int32) = nI 6 from rfl, nI_mul, nI_add]; rfl
                       rw [e6]
                       exact h9)
                    | (rw [if_neg (by rw [hco]; simp_all)] at ih3
                       exact ih3 (some (.int (G.2.1 0 42 (6 * li + i)))) (some (.int 0)))
              · refine v_aload_n (i := 0) (q := 77) hC dL_deciding_76 rfl rfl rfl ?_
                refine v_aload_n (i := 1) (q := 78) hC dL_deciding_77 rfl rfl rfl ?_
                refine v_iload (q := 80) hC dL_deciding_78 rfl rfl ?_
                refine v_iload_n (i := 3) (q := 81) hC dL_deciding_80 rfl rfl rfl ?_
                refine v_iload (q := 83) hC dL_deciding_81 rfl rfl ?_
                refine v_callSN (q := 86) (rm := rm_L_isFor) hC (c_L_isFor hl Θ li i u o _ (G.2.1 0 42) _ hD (by omega) (by omega) hu ho h1 hlc) k_L_isFor st_yL_isFor ml_RL_184 dL_deciding_83 rfl rfl rfl (Nat.le_of_ble_eq_true rfl) ⟨Nat.le_of_ble_eq_true rfl, Nat.le_of_ble_eq_true rfl⟩ (c1 := 0) (s1 := 0) rfl rfl ⟨Nat.le_of_ble_eq_true rfl, Nat.le_of_ble_eq_true rfl⟩ (fR_k ?_) fR_n
                try dsimp only [Option.toList, List.cons_append, List.nil_append]
                refine v_ifb_eq (q := 93) (q2 := 89) hC dL_deciding_86 (by decide) rfl (fun c_86 => ?_) (fun c_86 => ?_)
                · refine v_iconst (q := 94) (v := 0) hC dL_deciding_93 rfl (by decide) ?_
                  refine v_istore (q := 96) hC dL_deciding_94 rfl (lvc rfl) (Nat.le_of_ble_eq_true rfl) (Nat.le_of_ble_eq_true rfl) rfl ?_
                  refine v_iload (q := 98) hC dL_deciding_96 rfl rfl ?_
                  refine v_if_eq (q := 112) (q2 := 101) hC dL_deciding_98 (by decide) rfl (fun c_98 => ?_) (fun c_98 => ?_)
                  · first
                    | exact absurd c_98 (by decide)
                    |
                      refine v_iload (q := 114) hC dL_deciding_112 rfl rfl ?_
                      refine v_istore (q := 116) hC dL_deciding_114 rfl (lvc rfl) (Nat.le_of_ble_eq_true rfl) (Nat.le_of_ble_eq_true rfl) rfl ?_
                      refine v_iinc (q := 119) (v := nI i - 1) hC dL_deciding_116 rfl rfl (dec_i _) (lvc rfl) (Nat.le_of_ble_eq_true rfl) (Nat.le_of_ble_eq_true rfl) rfl ?_
                      refine v_goto (q := 29) hC dL_deciding_119 (by decide) ?_
                      first
                      | (rw [if_pos (by rw [hco]; simp_all)] at ih3
                         have h9 := ih3 (some (.int (G.2.1 0 42 (6 * li + i)))) (some (.int 1))
                         have e6 : (6 : Int32) * nI li + nI i = oI li (some i) := by rw [show (6 : Int32) = nI 6 from rfl, nI_mul, nI_add]; rfl
                         rw [e6]
                         exact h9)
                      | (rw [if_neg (by rw [hco]; simp_all)] at ih3
                         exact ih3 (some (.int (G.2.1 0 42 (6 * li + i)))) (some (.int 0)))
                  · first
                    | exact absurd c_98 (by decide)
                    |
                      refine v_bipush (q := 103) (v := 6) hC dL_deciding_101 rfl (by decide) ?_
                      refine v_iload (q := 105) hC dL_deciding_103 rfl rfl ?_
                      refine v_imul (q := 106) hC dL_deciding_105 rfl ?_
                      refine v_iload (q := 108) hC dL_deciding_106 rfl rfl ?_
                      refine v_iadd (q := 109) hC dL_deciding_108 rfl ?_
                      refine v_goto (q := 114) hC dL_deciding_109 (by decide) ?_
                      refine v_istore (q := 116) hC dL_deciding_114 rfl (lvc rfl) (Nat.le_of_ble_eq_true rfl) (Nat.le_of_ble_eq_true rfl) rfl ?_
                      refine v_iinc (q := 119) (v := nI i - 1) hC dL_deciding_116 rfl rfl (dec_i _) (lvc rfl) (Nat.le_of_ble_eq_true rfl) (Nat.le_of_ble_eq_true rfl) rfl ?_
                      refine v_goto (q := 29) hC dL_deciding_119 (by decide) ?_
                      first
                      | (rw [if_pos (by rw [hco]; simp_all)] at ih3
                         have h9 := ih3 (some (.int (G.2.1 0 42 (6 * li + i)))) (some (.int 1))
                         have e6 : (6 : Int32) * nI li + nI i = oI li (some i) := by rw [show (6 : Int32) = nI 6 from rfl, nI_mul, nI_add]; rfl
                         rw [e6]
                         exact h9)
                      | (rw [if_neg (by rw [hco]; simp_all)] at ih3
                         exact ih3 (some (.int (G.2.1 0 42 (6 * li + i)))) (some (.int 0)))
                · refine v_iconst (q := 90) (v := 1) hC dL_deciding_89 rfl (by decide) ?_
                  refine v_goto (q := 94) hC dL_deciding_90 (by decide) ?_
                  refine v_istore (q := 96) hC dL_deciding_94 rfl (lvc rfl) (Nat.le_of_ble_eq_true rfl) (Nat.le_of_ble_eq_true rfl) rfl ?_
                  refine v_iload (q := 98) hC dL_deciding_96 rfl rfl ?_
                  refine v_if_eq (q := 112) (q2 := 101) hC dL_deciding_98 (by decide) rfl (fun c_98 => ?_) (fun c_98 => ?_)
                  · first
                    | exact absurd c_98 (by decide)
                    |
                      refine v_iload (q := 114) hC dL_deciding_112 rfl rfl ?_
                      refine v_istore (q := 116) hC dL_deciding_114 rfl (lvc rfl) (Nat.le_of_ble_eq_true rfl) (Nat.le_of_ble_eq_true rfl) rfl ?_
                      refine v_iinc (q := 119) (v := nI i - 1) hC dL_deciding_116 rfl rfl (dec_i _) (lvc rfl) (Nat.le_of_ble_eq_true rfl) (Nat.le_of_ble_eq_true rfl) rfl ?_
                      refine v_goto (q := 29) hC dL_deciding_119 (by decide) ?_
                      first
                      | (rw [if_pos (by rw [hco]; simp_all)] at ih3
                         have h9 := ih3 (some (.int (G.2.1 0 42 (6 * li + i)))) (some (.int 1))
                         have e6 : (6 : Int32) * nI li + nI i = oI li (some i) := by rw [show (6 : Int32) = nI 6 from rfl, nI_mul, nI_add]; rfl
                         rw [e6]
                         exact h9)
                      | (rw [if_neg (by rw [hco]; simp_all)] at ih3
                         exact ih3 (some (.int (G.2.1 0 42 (6 * li + i)))) (some (.int 0)))
                  · first
                    | exact absurd c_98 (by decide)
                    |
                      refine v_bipush (q := 103) (v := 6) hC dL_deciding_101 rfl (by decide) ?_
                      refine v_iload (q := 105) hC dL_deciding_103 rfl rfl ?_
                      refine v_imul (q := 106) hC dL_deciding_105 rfl ?_
                      refine v_iload (q := 108) hC dL_deciding_106 rfl rfl ?_
                      refine v_iadd (q := 109) hC dL_deciding_108 rfl ?_
                      refine v_goto (q := 114) hC dL_deciding_109 (by decide) ?_
                      refine v_istore (q := 116) hC dL_deciding_114 rfl (lvc rfl) (Nat.le_of_ble_eq_true rfl) (Nat.le_of_ble_eq_true rfl) rfl ?_
                      refine v_iinc (q := 119) (v := nI i - 1) hC dL_deciding_116 rfl rfl (dec_i _) (lvc rfl) (Nat.le_of_ble_eq_true rfl) (Nat.le_of_ble_eq_true rfl) rfl ?_
                      refine v_goto (q := 29) hC dL_deciding_119 (by decide) ?_
                      first
                      | (rw [if_pos (by rw [hco]; simp_all)] at ih3
                         have h9 := ih3 (some (.int (G.2.1 0 42 (6 * li + i)))) (some (.int 1))
                         have e6 : (6 : Int32) * nI li + nI i = oI li (some i) := by rw [show (6 : Int32) = nI 6 from rfl, nI_mul, nI_add]; rfl
                         rw [e6]
                         exact h9)
                      | (rw [if_neg (by rw [hco]; simp_all)] at ih3
                         exact ih3 (some (.int (G.2.1 0 42 (6 * li + i)))) (some (.int 0)))
            · refine v_iload (q := 55) hC dL_deciding_53 rfl rfl ?_
              refine v_iconst (q := 56) (v := 1) hC dL_deciding_55 rfl (by decide) ?_
              refine v_iand (q := 57) hC dL_deciding_56 rfl ?_
              refine v_iconst (q := 58) (v := 1) hC dL_deciding_57 rfl (by decide) ?_
              refine v_icmp_ne (q := 93) (q2 := 61) hC dL_deciding_58 (by decide) rfl (fun c_58 => ?_) (fun c_58 => ?_)
              · refine v_iconst (q := 94) (v := 0) hC dL_deciding_93 rfl (by decide) ?_
                refine v_istore (q := 96) hC dL_deciding_94 rfl (lvc rfl) (Nat.le_of_ble_eq_true rfl) (Nat.le_of_ble_eq_true rfl) rfl ?_
                refine v_iload (q := 98) hC dL_deciding_96 rfl rfl ?_
                refine v_if_eq (q := 112) (q2 := 101) hC dL_deciding_98 (by decide) rfl (fun c_98 => ?_) (fun c_98 => ?_)
                · first
                  | exact absurd c_98 (by decide)
                  |
                    refine v_iload (q := 114) hC dL_deciding_112 rfl rfl ?_
                    refine v_istore (q := 116) hC dL_deciding_114 rfl (lvc rfl) (Nat.le_of_ble_eq_true rfl) (Nat.le_of_ble_eq_true rfl) rfl ?_
                    refine v_iinc (q := 119) (v := nI i - 1) hC dL_deciding_116 rfl rfl (dec_i _) (lvc rfl) (Nat.le_of_ble_eq_true rfl) (Nat.le_of_ble_eq_true rfl) rfl ?_
                    refine v_goto (q := 29) hC dL_deciding_119 (by decide) ?_
                    first
                    | (rw [if_pos (by rw [hco]; simp_all)] at ih3
                       have h9 := ih3 (some (.int (G.2.1 0 42 (6 * li + i)))) (some (.int 1))
                       have e6 : (6 : Int32) * nI li + nI i = oI li (some i) := by rw [show (6 : Int32) = nI 6 from rfl, nI_mul, nI_add]; rfl
                       rw [e6]
                       exact h9)
                    | (rw [if_neg (by rw [hco]; simp_all)] at ih3
                       exact ih3 (some (.int (G.2.1 0 42 (6 * li + i)))) (some (.int 0)))
                · first
                  | exact absurd c_98 (by decide)
                  |
                    refine v_bipush (q := 103) (v := 6) hC dL_deciding_101 rfl (by decide) ?_
                    refine v_iload (q := 105) hC dL_deciding_103 rfl rfl ?_
                    refine v_imul (q := 106) hC dL_deciding_105 rfl ?_
                    refine v_iload (q := 108) hC dL_deciding_106 rfl rfl ?_
                    refine v_iadd (q := 109) hC dL_deciding_108 rfl ?_
                    refine v_goto (q := 114) hC dL_deciding_109 (by decide) ?_
                    refine v_istore (q := 116) hC dL_deciding_114 rfl (lvc rfl) (Nat.le_of_ble_eq_true rfl) (Nat.le_of_ble_eq_true rfl) rfl ?_
                    refine v_iinc (q := 119) (v := nI i - 1) hC dL_deciding_116 rfl rfl (dec_i _) (lvc rfl) (Nat.le_of_ble_eq_true rfl) (Nat.le_of_ble_eq_true rfl) rfl ?_
                    refine v_goto (q := 29) hC dL_deciding_119 (by decide) ?_
                    first
                    | (rw [if_pos (by rw [hco]; simp_all)] at ih3
                       have h9 := ih3 (some (.int (G.2.1 0 42 (6 * li + i)))) (some (.int 1))
                       have e6 : (6 : Int32) * nI li + nI i = oI li (some i) := by rw [show (6 : Int32) = nI 6 from rfl, nI_mul, nI_add]; rfl
                       rw [e6]
                       exact h9)
                    | (rw [if_neg (by rw [hco]; simp_all)] at ih3
                       exact ih3 (some (.int (G.2.1 0 42 (6 * li + i)))) (some (.int 0)))
              · refine v_iload (q := 63) hC dL_deciding_61 rfl rfl ?_
                refine v_iconst (q := 64) (v := 2) hC dL_deciding_63 rfl (by decide) ?_
                refine v_ishr (q := 65) hC dL_deciding_64 rfl ?_
                refine v_bipush (q := 67) (v := 15) hC dL_deciding_65 rfl (by decide) ?_
                refine v_iand (q := 68) hC dL_deciding_67 rfl ?_
                refine v_iload (q := 70) hC dL_deciding_68 rfl rfl ?_
                refine v_callSN (q := 73) (rm := rm_L_has) hC (c_L_has hl Θ _ _ _) k_L_has st_yL_has ml_RL_172 dL_deciding_70 rfl rfl rfl (Nat.le_of_ble_eq_true rfl) ⟨Nat.le_of_ble_eq_true rfl, Nat.le_of_ble_eq_true rfl⟩ (c1 := 0) (s1 := 0) rfl rfl ⟨Nat.le_of_ble_eq_true rfl, Nat.le_of_ble_eq_true rfl⟩ (fR_k ?_) fR_n
                try dsimp only [Option.toList, List.cons_append, List.nil_append]
                refine v_ifb_eq (q := 93) (q2 := 76) hC dL_deciding_73 (by decide) rfl (fun c_73 => ?_) (fun c_73 => ?_)
                · refine v_iconst (q := 94) (v := 0) hC dL_deciding_93 rfl (by decide) ?_
                  refine v_istore (q := 96) hC dL_deciding_94 rfl (lvc rfl) (Nat.le_of_ble_eq_true rfl) (Nat.le_of_ble_eq_true rfl) rfl ?_
                  refine v_iload (q := 98) hC dL_deciding_96 rfl rfl ?_
                  refine v_if_eq (q := 112) (q2 := 101) hC dL_deciding_98 (by decide) rfl (fun c_98 => ?_) (fun c_98 => ?_)
                  · first
                    | exact absurd c_98 (by decide)
                    |
                      refine v_iload (q := 114) hC dL_deciding_112 rfl rfl ?_
                      refine v_istore (q := 116) hC dL_deciding_114 rfl (lvc rfl) (Nat.le_of_ble_eq_true rfl) (Nat.le_of_ble_eq_true rfl) rfl ?_
                      refine v_iinc (q := 119) (v := nI i - 1) hC dL_deciding_116 rfl rfl (dec_i _) (lvc rfl) (Nat.le_of_ble_eq_true rfl) (Nat.le_of_ble_eq_true rfl) rfl ?_
                      refine v_goto (q := 29) hC dL_deciding_119 (by decide) ?_
                      first
                      | (rw [if_pos (by rw [hco]; simp_all)] at ih3
                         have h9 := ih3 (some (.int (G.2.1 0 42 (6 * li + i)))) (some (.int 1))
                         have e6 : (6 : Int32) * nI li + nI i = oI li (some i) := by rw [show (6 : Int32) = nI 6 from rfl, nI_mul, nI_add]; rfl
                         rw [e6]
                         exact h9)
                      | (rw [if_neg (by rw [hco]; simp_all)] at ih3
                         exact ih3 (some (.int (G.2.1 0 42 (6 * li + i)))) (some (.int 0)))
                  · first
                    | exact absurd c_98 (by decide)
                    |
                      refine v_bipush (q := 103) (v := 6) hC dL_deciding_101 rfl (by decide) ?_
                      refine v_iload (q := 105) hC dL_deciding_103 rfl rfl ?_
                      refine v_imul (q := 106) hC dL_deciding_105 rfl ?_
                      refine v_iload (q := 108) hC dL_deciding_106 rfl rfl ?_
                      refine v_iadd (q := 109) hC dL_deciding_108 rfl ?_
                      refine v_goto (q := 114) hC dL_deciding_109 (by decide) ?_
                      refine v_istore (q := 116) hC dL_deciding_114 rfl (lvc rfl) (Nat.le_of_ble_eq_true rfl) (Nat.le_of_ble_eq_true rfl) rfl ?_
                      refine v_iinc (q := 119) (v := nI i - 1) hC dL_deciding_116 rfl rfl (dec_i _) (lvc rfl) (Nat.le_of_ble_eq_true rfl) (Nat.le_of_ble_eq_true rfl) rfl ?_
                      refine v_goto (q := 29) hC dL_deciding_119 (by decide) ?_
                      first
                      | (rw [if_pos (by rw [hco]; simp_all)] at ih3
                         have h9 := ih3 (some (.int (G.2.1 0 42 (6 * li + i)))) (some (.int 1))
                         have e6 : (6 : Int32) * nI li + nI i = oI li (some i) := by rw [show (6 : Int32) = nI 6 from rfl, nI_mul, nI_add]; rfl
                         rw [e6]
                         exact h9)
                      | (rw [if_neg (by rw [hco]; simp_all)] at ih3
                         exact ih3 (some (.int (G.2.1 0 42 (6 * li + i)))) (some (.int 0)))
                · refine v_aload_n (i := 0) (q := 77) hC dL_deciding_76 rfl rfl rfl ?_
                  refine v_aload_n (i := 1) (q := 78) hC dL_deciding_77 rfl rfl rfl ?_
                  refine v_iload (q := 80) hC dL_deciding_78 rfl rfl ?_
                  refine v_iload_n (i := 3) (q := 81) hC dL_deciding_80 rfl rfl rfl ?_
                  refine v_iload (q := 83) hC dL_deciding_81 rfl rfl ?_
                  refine v_callSN (q := 86) (rm := rm_L_isFor) hC (c_L_isFor hl Θ li i u o _ (G.2.1 0 42) _ hD (by omega) (by omega) hu ho h1 hlc) k_L_isFor st_yL_isFor ml_RL_184 dL_deciding_83 rfl rfl rfl (Nat.le_of_ble_eq_true rfl) ⟨Nat.le_of_ble_eq_true rfl, Nat.le_of_ble_eq_true rfl⟩ (c1 := 0) (s1 := 0) rfl rfl ⟨Nat.le_of_ble_eq_true rfl, Nat.le_of_ble_eq_true rfl⟩ (fR_k ?_) fR_n
                  try dsimp only [Option.toList, List.cons_append, List.nil_append]
                  refine v_ifb_eq (q := 93) (q2 := 89) hC dL_deciding_86 (by decide) rfl (fun c_86 => ?_) (fun c_86 => ?_)
                  · refine v_iconst (q := 94) (v := 0) hC dL_deciding_93 rfl (by decide) ?_
                    refine v_istore (q := 96) hC dL_deciding_94 rfl (lvc rfl) (Nat.le_of_ble_eq_true rfl) (Nat.le_of_ble_eq_true rfl) rfl ?_
                    refine v_iload (q := 98) hC dL_deciding_96 rfl rfl ?_
                    refine v_if_eq (q := 112) (q2 := 101) hC dL_deciding_98 (by decide) rfl (fun c_98 => ?_) (fun c_98 => ?_)
                    · first
                      | exact absurd c_98 (by decide)
                      |
                        refine v_iload (q := 114) hC dL_deciding_112 rfl rfl ?_
                        refine v_istore (q := 116) hC dL_deciding_114 rfl (lvc rfl) (Nat.le_of_ble_eq_true rfl) (Nat.le_of_ble_eq_true rfl) rfl ?_
                        refine v_iinc (q := 119) (v := nI i - 1) hC dL_deciding_116 rfl rfl (dec_i _) (lvc rfl) (Nat.le_of_ble_eq_true rfl) (Nat.le_of_ble_eq_true rfl) rfl ?_
                        refine v_goto (q := 29) hC dL_deciding_119 (by decide) ?_
                        first
                        | (rw [if_pos (by rw [hco]; simp_all)] at ih3
                           have h9 := ih3 (some (.int (G.2.1 0 42 (6 * li + i)))) (some (.int 1))
                           have e6 : (6 : Int32) * nI li + nI i = oI li (some i) := by rw [show (6 : Int32) = nI 6 from rfl, nI_mul, nI_add]; rfl
                           rw [e6]
                           exact h9)
                        | (rw [if_neg (by rw [hco]; simp_all)] at ih3
                           exact ih3 (some (.int (G.2.1 0 42 (6 * li + i)))) (some (.int 0)))
                    · first
                      | exact absurd c_98 (by decide)
                      |
                        refine v_bipush (q := 103) (v := 6) hC dL_deciding_101 rfl (by decide) ?_
                        refine v_iload (q := 105) hC dL_deciding_103 rfl rfl ?_
                        refine v_imul (q := 106) hC dL_deciding_105 rfl ?_
                        refine v_iload (q := 108) hC dL_deciding_106 rfl rfl ?_
                        refine v_iadd (q := 109) hC dL_deciding_108 rfl ?_
                        refine v_goto (q := 114) hC dL_deciding_109 (by decide) ?_
                        refine v_istore (q := 116) hC dL_deciding_114 rfl (lvc rfl) (Nat.le_of_ble_eq_true rfl) (Nat.le_of_ble_eq_true rfl) rfl ?_
                        refine v_iinc (q := 119) (v := nI i - 1) hC dL_deciding_116 rfl rfl (dec_i _) (lvc rfl) (Nat.le_of_ble_eq_true rfl) (Nat.le_of_ble_eq_true rfl) rfl ?_
                        refine v_goto (q := 29) hC dL_deciding_119 (by decide) ?_
                        first
                        | (rw [if_pos (by rw [hco]; simp_all)] at ih3
                           have h9 := ih3 (some (.int (G.2.1 0 42 (6 * li + i)))) (some (.int 1))
                           have e6 : (6 : Int32) * nI li + nI i = oI li (some i) := by rw [show (6 : Int32) = nI 6 from rfl, nI_mul, nI_add]; rfl
                           rw [e6]
                           exact h9)
                        | (rw [if_neg (by rw [hco]; simp_all)] at ih3
                           exact ih3 (some (.int (G.2.1 0 42 (6 * li + i)))) (some (.int 0)))
                  · refine v_iconst (q := 90) (v := 1) hC dL_deciding_89 rfl (by decide) ?_
                    refine v_goto (q := 94) hC dL_deciding_90 (by decide) ?_
                    refine v_istore (q := 96) hC dL_deciding_94 rfl (lvc rfl) (Nat.le_of_ble_eq_true rfl) (Nat.le_of_ble_eq_true rfl) rfl ?_
                    refine v_iload (q := 98) hC dL_deciding_96 rfl rfl ?_
                    refine v_if_eq (q := 112) (q2 := 101) hC dL_deciding_98 (by decide) rfl (fun c_98 => ?_) (fun c_98 => ?_)
                    · first
                      | exact absurd c_98 (by decide)
                      |
                        refine v_iload (q := 114) hC dL_deciding_112 rfl rfl ?_
                        refine v_istore (q := 116) hC dL_deciding_114 rfl (lvc rfl) (Nat.le_of_ble_eq_true rfl) (Nat.le_of_ble_eq_true rfl) rfl ?_
                        refine v_iinc (q := 119) (v := nI i - 1) hC dL_deciding_116 rfl rfl (dec_i _) (lvc rfl) (Nat.le_of_ble_eq_true rfl) (Nat.le_of_ble_eq_true rfl) rfl ?_
                        refine v_goto (q := 29) hC dL_deciding_119 (by decide) ?_
                        first
                        | (rw [if_pos (by rw [hco]; simp_all)] at ih3
                           have h9 := ih3 (some (.int (G.2.1 0 42 (6 * li + i)))) (some (.int 1))
                           have e6 : (6 : Int32) * nI li + nI i = oI li (some i) := by rw [show (6 : Int32) = nI 6 from rfl, nI_mul, nI_add]; rfl
                           rw [e6]
                           exact h9)
                        | (rw [if_neg (by rw [hco]; simp_all)] at ih3
                           exact ih3 (some (.int (G.2.1 0 42 (6 * li + i)))) (some (.int 0)))
                    · first
                      | exact absurd c_98 (by decide)
                      |
                        refine v_bipush (q := 103) (v := 6) hC dL_deciding_101 rfl (by decide) ?_
                        refine v_iload (q := 105) hC dL_deciding_103 rfl rfl ?_
                        refine v_imul (q := 106) hC dL_deciding_105 rfl ?_
                        refine v_iload (q := 108) hC dL_deciding_106 rfl rfl ?_
                        refine v_iadd (q := 109) hC dL_deciding_108 rfl ?_
                        refine v_goto (q := 114) hC dL_deciding_109 (by decide) ?_
                        refine v_istore (q := 116) hC dL_deciding_114 rfl (lvc rfl) (Nat.le_of_ble_eq_true rfl) (Nat.le_of_ble_eq_true rfl) rfl ?_
                        refine v_iinc (q := 119) (v := nI i - 1) hC dL_deciding_116 rfl rfl (dec_i _) (lvc rfl) (Nat.le_of_ble_eq_true rfl) (Nat.le_of_ble_eq_true rfl) rfl ?_
                        refine v_goto (q := 29) hC dL_deciding_119 (by decide) ?_
                        first
                        | (rw [if_pos (by rw [hco]; simp_all)] at ih3
                           have h9 := ih3 (some (.int (G.2.1 0 42 (6 * li + i)))) (some (.int 1))
                           have e6 : (6 : Int32) * nI li + nI i = oI li (some i) := by rw [show (6 : Int32) = nI 6 from rfl, nI_mul, nI_add]; rfl
                           rw [e6]
                           exact h9)
                        | (rw [if_neg (by rw [hco]; simp_all)] at ih3
                           exact ih3 (some (.int (G.2.1 0 42 (6 * li + i)))) (some (.int 0)))
      have h0 := L2 (mCt (G.2.1 0 30) li) x11 x12 (Nat.le_refl _)
      rw [Nat.sub_self, mDeI] at h0
      refine v_iload (q := 12) hC dL_deciding_10 rfl rfl ?_
      refine v_if_eq (q := 180) (q2 := 15) hC dL_deciding_12 (by decide) rfl (fun c_12 => ?_) (fun c_12 => ?_)
      · exact absurd c_12 (by decide)
      · refine v_iconst (q := 16) (v := (-1)) hC dL_deciding_15 rfl (by decide) ?_
        refine v_istore (q := 18) hC dL_deciding_16 rfl (lvc rfl) (Nat.le_of_ble_eq_true rfl) (Nat.le_of_ble_eq_true rfl) rfl ?_
        refine v_aload_n (i := 1) (q := 19) hC dL_deciding_18 rfl rfl rfl ?_
        refine v_bipush (q := 21) (v := 40) hC dL_deciding_19 rfl (by decide) ?_
        refine v_iload (q := 23) hC dL_deciding_21 rfl rfl ?_
        refine v_iadd (q := 24) hC dL_deciding_23 rfl ?_
        refine v_ialdV (q := 25) hC dL_deciding_24 rfl rfl rfl (i := 40 + li) (nI_add 40 li) (by first | decide | omega) (by decide) (hpc) ?_
        refine v_iconst (q := 26) (v := 1) hC dL_deciding_25 rfl (by decide) ?_
        refine v_isub (q := 27) hC dL_deciding_26 rfl ?_
        refine v_istore (q := 29) hC dL_deciding_27 rfl (lvc rfl) (Nat.le_of_ble_eq_true rfl) (Nat.le_of_ble_eq_true rfl) rfl ?_
        exact h0
  refine v_iconst (q := 1) (v := (-1)) hC dL_deciding_0 rfl (by decide) ?_
  refine v_istore (q := 3) hC dL_deciding_1 rfl (lvc rfl) (Nat.le_of_ble_eq_true rfl) (Nat.le_of_ble_eq_true rfl) rfl ?_
  refine v_iload (q := 5) hC dL_deciding_3 rfl rfl ?_
  refine v_istore (q := 7) hC dL_deciding_5 rfl (lvc rfl) (Nat.le_of_ble_eq_true rfl) (Nat.le_of_ble_eq_true rfl) rfl ?_
  refine v_iconst (q := 8) (v := 1) hC dL_deciding_7 rfl (by decide) ?_
  refine v_istore (q := 10) hC dL_deciding_8 rfl (lvc rfl) (Nat.le_of_ble_eq_true rfl) (Nat.le_of_ble_eq_true rfl) rfl ?_
  exact L 20 o (-1) none none none none ho h1 (hrk o (by omega)).1 (Or.inl ⟨rfl, rfl⟩)
set_option maxHeartbeats 4000000 in
set_option maxRecDepth 20000 in
theorem c_L_allowed {l : Launch} (hl : l.stackTraces = false) (Θ : cTH) (u o r : Nat) (G : GS) (hD : LD (G.2.1 0 30) (G.2.1 0 40) (G.2.1 0 41) (G.2.1 0 42)) (hu : u < 12) (ho : o < 10) (h1 : G.2.1 0 30 (oA o 0) = 1) (hr4 : r < 4) : Ct l yL_allowed cL_allowed 7 (some .boolean) rm_L_allowed Θ [.ref (tR Θ 0 40), .ref (tR Θ 0 41), .ref (tR Θ 0 42), .int (nI u), .int (nI o), .int (nI r)] (G) (fR (some (.int (b2i (mAl (G.2.1 0 30) (nI u) o (nI r))))) G) := by
  refine ct_of (LS := [some (.ref (tR Θ 0 40)), some (.ref (tR Θ 0 41)), some (.ref (tR Θ 0 42)), some (.int (nI u)), some (.int (nI o)), some (.int (nI r)), none]) hl (by decide +kernel) rfl (Nat.le_of_ble_eq_true rfl) rfl ?_
  intro p e s m args below meth c hC hr
  have hpo := hD.po ho h1
  have hpm := hD.pm ho h1
  have hA : mAl (G.2.1 0 30) (nI u) o (nI r) = (decide (nI u = 0) || ((decide (nI r = 3) && decide (G.2.1 0 30 (oA o 2) = nI u)) || (mHas (G.2.1 0 30 (oA o 3)) (nI r) && mByL (G.2.1 0 30) (nI u) o (nI r)))) := rfl
  have R : ∀ b9 : Bool, mAl (G.2.1 0 30) (nI u) o (nI r) = b9 → fR (some (.int (b2i (mAl (G.2.1 0 30) (nI u) o (nI r))))) G (.inl (some (.int (b2i b9)))) G := fun b9 h9 => ⟨by rw [h9], rfl⟩
  -- behind the first test
  have S : ¬ nI u = 0 → ¬ (nI r = 3 ∧ G.2.1 0 30 (oA o 2) = nI u) → V p l e rm_L_allowed s m args below meth c 7 Θ (fR (some (.int (b2i (mAl (G.2.1 0 30) (nI u) o (nI r))))) G) 0 0 0 0 23 [some (.ref (tR Θ 0 40)), some (.ref (tR Θ 0 41)), some (.ref (tR Θ 0 42)), some (.int (nI u)), some (.int (nI o)), some (.int (nI r)), none] [] (G) := by
    intro g1 g2
    have hA2 : mAl (G.2.1 0 30) (nI u) o (nI r) = (mHas (G.2.1 0 30 (oA o 3)) (nI r) && mByL (G.2.1 0 30) (nI u) o (nI r)) := by
      rw [hA, decide_eq_false g1, Bool.false_or]
      have g3 : (decide (nI r = 3) && decide (G.2.1 0 30 (oA o 2) = nI u)) = false := by
        refine Bool.eq_false_iff.mpr fun z => g2 ?_
        obtain ⟨z1, z2⟩ := Bool.and_eq_true_iff.mp z
        exact ⟨of_decide_eq_true z1, of_decide_eq_true z2⟩
      rw [g3, Bool.false_or]
    rcases mDec_rng hD.ok (nI u) (show o < 20 by omega) (nI r) with h2 | ⟨li, i, h2, h3, h4, h5⟩
    · have hB : mByL (G.2.1 0 30) (nI u) o (nI r) = false := by
        unfold mByL; rw [h2, if_pos (by decide)]
      rw [hB, Bool.and_false] at hA2
      refine v_aload_n (i := 0) (q := 24) hC dL_allowed_23 rfl rfl rfl ?_
      refine v_aload_n (i := 1) (q := 25) hC dL_allowed_24 rfl rfl rfl ?_
      refine v_aload_n (i := 2) (q := 26) hC dL_allowed_25 rfl rfl rfl ?_
      refine v_iload_n (i := 3) (q := 27) hC dL_allowed_26 rfl rfl rfl ?_
      refine v_iload (q := 29) hC dL_allowed_27 rfl rfl ?_
      refine v_iload (q := 31) hC dL_allowed_29 rfl rfl ?_
      refine v_callSN (q := 34) (rm := rm_L_deciding) hC (c_L_deciding hl Θ u o r _ hD hu ho h1) k_L_deciding st_yL_deciding ml_RL_188 dL_allowed_31 rfl rfl rfl (Nat.le_of_ble_eq_true rfl) ⟨Nat.le_of_ble_eq_true rfl, Nat.le_of_ble_eq_true rfl⟩ (c1 := 0) (s1 := 0) rfl rfl ⟨Nat.le_of_ble_eq_true rfl, Nat.le_of_ble_eq_true rfl⟩ (fR_k ?_) fR_n
      try dsimp only [Option.toList, List.cons_append, List.nil_append]
      refine v_istore (q := 36) hC dL_allowed_34 rfl (lvc rfl) (Nat.le_of_ble_eq_true rfl) (Nat.le_of_ble_eq_true rfl) rfl ?_
      refine v_iload (q := 38) hC dL_allowed_36 rfl rfl ?_
      refine v_if_lt (q := 70) (q2 := 41) hC dL_allowed_38 (by decide) rfl (fun c_38 => ?_) (fun c_38 => ?_)
      · refine v_iconst (q := 71) (v := 0) hC dL_allowed_70 rfl (by decide) ?_
        refine v_iret hC dL_allowed_71 hr (by first | rfl | exact nar_b) ?_ (Nat.le_of_ble_eq_true rfl) (Nat.le_of_ble_eq_true rfl)
        exact R false hA2
      · exact absurd (by rw [h2]; decide) c_38
    · have hl1 := hD.th h2 h4
      have hl10 := hD.lt h2 hl1
      have hlc := hD.ce hl10 hl1 h4
      obtain ⟨kd, n, r4, a, b, ⟨hk, hn, hr5⟩, ev, ⟨e1, e2, e3⟩, e4, e5⟩ := hlc
      obtain ⟨-, -, ⟨-, d6⟩, -⟩ := lCode_d kd hk n hn r4 hr5 a b
      have hB : mByL (G.2.1 0 30) (nI u) o (nI r) = a := by
        unfold mByL
        rw [h5, if_neg (nI_pos (by omega)), nI_clamp (by omega), show (6 * li + i) / 6 = li by omega, show (6 * li + i) % 6 = i by omega, e4]
        cases a <;> rfl
      rw [hB] at hA2
      refine v_aload_n (i := 0) (q := 24) hC dL_allowed_23 rfl rfl rfl ?_
      refine v_aload_n (i := 1) (q := 25) hC dL_allowed_24 rfl rfl rfl ?_
      refine v_aload_n (i := 2) (q := 26) hC dL_allowed_25 rfl rfl rfl ?_
      refine v_iload_n (i := 3) (q := 27) hC dL_allowed_26 rfl rfl rfl ?_
      refine v_iload (q := 29) hC dL_allowed_27 rfl rfl ?_
      refine v_iload (q := 31) hC dL_allowed_29 rfl rfl ?_
      refine v_callSN (q := 34) (rm := rm_L_deciding) hC (c_L_deciding hl Θ u o r _ hD hu ho h1) k_L_deciding st_yL_deciding ml_RL_188 dL_allowed_31 rfl rfl rfl (Nat.le_of_ble_eq_true rfl) ⟨Nat.le_of_ble_eq_true rfl, Nat.le_of_ble_eq_true rfl⟩ (c1 := 0) (s1 := 0) rfl rfl ⟨Nat.le_of_ble_eq_true rfl, Nat.le_of_ble_eq_true rfl⟩ (fR_k ?_) fR_n
      try dsimp only [Option.toList, List.cons_append, List.nil_append]
      rw [h5]
      refine v_istore (q := 36) hC dL_allowed_34 rfl (lvc rfl) (Nat.le_of_ble_eq_true rfl) (Nat.le_of_ble_eq_true rfl) rfl ?_
      refine v_iload (q := 38) hC dL_allowed_36 rfl rfl ?_
      refine v_if_lt (q := 70) (q2 := 41) hC dL_allowed_38 (by decide) rfl (fun c_38 => ?_) (fun c_38 => ?_)
      · exact absurd c_38 (nI_pos (by omega))
      · refine v_aload_n (i := 2) (q := 42) hC dL_allowed_41 rfl rfl rfl ?_
        refine v_iload (q := 44) hC dL_allowed_42 rfl rfl ?_
        refine v_ialdV (q := 45) hC dL_allowed_44 rfl rfl rfl (i := 6 * li + i) (rfl) (by first | decide | omega) (by decide) (ev) ?_
        refine v_iconst (q := 46) (v := 2) hC dL_allowed_45 rfl (by decide) ?_
        refine v_iand (q := 47) hC dL_allowed_46 rfl ?_
        refine v_iconst (q := 48) (v := 2) hC dL_allowed_47 rfl (by decide) ?_
        refine v_icmp_ne (q := 70) (q2 := 51) hC dL_allowed_48 (by decide) rfl (fun c_48 => ?_) (fun c_48 => ?_)
        · refine v_iconst (q := 71) (v := 0) hC dL_allowed_70 rfl (by decide) ?_
          refine v_iret hC dL_allowed_71 hr (by first | rfl | exact nar_b) ?_ (Nat.le_of_ble_eq_true rfl) (Nat.le_of_ble_eq_true rfl)
          first
          | exact R true (by rw [hA2, d6.mp c_48, c_63]; rfl)
          | exact R false (by rw [hA2, c_63]; rfl)
          | exact R false (by rw [hA2, (Bool.eq_false_iff.mpr fun z => c_48 (d6.mpr z)), Bool.and_false])
        · refine v_aload_n (i := 1) (q := 52) hC dL_allowed_51 rfl rfl rfl ?_
          refine v_bipush (q := 54) (v := 20) hC dL_allowed_52 rfl (by decide) ?_
          refine v_iload (q := 56) hC dL_allowed_54 rfl rfl ?_
          refine v_iadd (q := 57) hC dL_allowed_56 rfl ?_
          refine v_ialdV (q := 58) hC dL_allowed_57 rfl rfl rfl (i := 20 + o) (nI_add 20 o) (by first | decide | omega) (by decide) (hpm) ?_
          refine v_iload (q := 60) hC dL_allowed_58 rfl rfl ?_
          refine v_callSN (q := 63) (rm := rm_L_has) hC (c_L_has hl Θ _ _ _) k_L_has st_yL_has ml_RL_172 dL_allowed_60 rfl rfl rfl (Nat.le_of_ble_eq_true rfl) ⟨Nat.le_of_ble_eq_true rfl, Nat.le_of_ble_eq_true rfl⟩ (c1 := 0) (s1 := 0) rfl rfl ⟨Nat.le_of_ble_eq_true rfl, Nat.le_of_ble_eq_true rfl⟩ (fR_k ?_) fR_n
          try dsimp only [Option.toList, List.cons_append, List.nil_append]
          refine v_ifb_eq (q := 70) (q2 := 66) hC dL_allowed_63 (by decide) rfl (fun c_63 => ?_) (fun c_63 => ?_)
          · refine v_iconst (q := 71) (v := 0) hC dL_allowed_70 rfl (by decide) ?_
            refine v_iret hC dL_allowed_71 hr (by first | rfl | exact nar_b) ?_ (Nat.le_of_ble_eq_true rfl) (Nat.le_of_ble_eq_true rfl)
            first
            | exact R true (by rw [hA2, d6.mp c_48, c_63]; rfl)
            | exact R false (by rw [hA2, c_63]; rfl)
            | exact R false (by rw [hA2, (Bool.eq_false_iff.mpr fun z => c_48 (d6.mpr z)), Bool.and_false])
          · refine v_iconst (q := 67) (v := 1) hC dL_allowed_66 rfl (by decide) ?_
            refine v_goto (q := 71) hC dL_allowed_67 (by decide) ?_
            refine v_iret hC dL_allowed_71 hr (by first | rfl | exact nar_b) ?_ (Nat.le_of_ble_eq_true rfl) (Nat.le_of_ble_eq_true rfl)
            first
            | exact R true (by rw [hA2, d6.mp c_48, c_63]; rfl)
            | exact R false (by rw [hA2, c_63]; rfl)
            | exact R false (by rw [hA2, (Bool.eq_false_iff.mpr fun z => c_48 (d6.mpr z)), Bool.and_false])
  refine v_iload_n (i := 3) (q := 1) hC dL_allowed_0 rfl rfl rfl ?_
  refine v_if_eq (q := 21) (q2 := 4) hC dL_allowed_1 (by decide) rfl (fun c_1 => ?_) (fun c_1 => ?_)
  · refine v_iconst (q := 22) (v := 1) hC dL_allowed_21 rfl (by decide) ?_
    refine v_iret hC dL_allowed_22 hr (by first | rfl | exact nar_b) ?_ (Nat.le_of_ble_eq_true rfl) (Nat.le_of_ble_eq_true rfl)
    first
    | exact R true (by rw [hA, decide_eq_true c_1]; rfl)
    | exact R true (by rw [hA, decide_eq_true c_7, decide_eq_true c_18, Bool.true_and, Bool.true_or, Bool.or_true])
  · refine v_iload (q := 6) hC dL_allowed_4 rfl rfl ?_
    refine v_iconst (q := 7) (v := 3) hC dL_allowed_6 rfl (by decide) ?_
    refine v_icmp_ne (q := 23) (q2 := 10) hC dL_allowed_7 (by decide) rfl (fun c_7 => ?_) (fun c_7 => ?_)
    · first
      | exact S c_1 (fun z => c_7 z.1)
      | exact S c_1 (fun z => c_18 z.2)
    · refine v_aload_n (i := 1) (q := 11) hC dL_allowed_10 rfl rfl rfl ?_
      refine v_bipush (q := 13) (v := 10) hC dL_allowed_11 rfl (by decide) ?_
      refine v_iload (q := 15) hC dL_allowed_13 rfl rfl ?_
      refine v_iadd (q := 16) hC dL_allowed_15 rfl ?_
      refine v_ialdV (q := 17) hC dL_allowed_16 rfl rfl rfl (i := 10 + o) (nI_add 10 o) (by first | decide | omega) (by decide) (hpo) ?_
      refine v_iload_n (i := 3) (q := 18) hC dL_allowed_17 rfl rfl rfl ?_
      refine v_icmp_ne (q := 23) (q2 := 21) hC dL_allowed_18 (by decide) rfl (fun c_18 => ?_) (fun c_18 => ?_)
      · first
        | exact S c_1 (fun z => c_7 z.1)
        | exact S c_1 (fun z => c_18 z.2)
      · refine v_iconst (q := 22) (v := 1) hC dL_allowed_21 rfl (by decide) ?_
        refine v_iret hC dL_allowed_22 hr (by first | rfl | exact nar_b) ?_ (Nat.le_of_ble_eq_true rfl) (Nat.le_of_ble_eq_true rfl)
        first
        | exact R true (by rw [hA, decide_eq_true c_1]; rfl)
        | exact R true (by rw [hA, decide_eq_true c_7, decide_eq_true c_18, Bool.true_and, Bool.true_or, Bool.or_true])
set_option maxHeartbeats 4000000 in
set_option maxRecDepth 20000 in
theorem c_L_rights {l : Launch} (hl : l.stackTraces = false) (Θ : cTH) (u o : Nat) (G : GS) (hD : LD (G.2.1 0 30) (G.2.1 0 40) (G.2.1 0 41) (G.2.1 0 42)) (hu : u < 12) (ho : o < 10) (h1 : G.2.1 0 30 (oA o 0) = 1) : Ct l yL_rights cL_rights 7 (some .int) rm_L_rights Θ [.ref (tR Θ 0 40), .ref (tR Θ 0 41), .ref (tR Θ 0 42), .int (nI u), .int (nI o)] (G) (fR (some (.int (mRg (G.2.1 0 30) (nI u) o))) G) := by
  refine ct_of (LS := [some (.ref (tR Θ 0 40)), some (.ref (tR Θ 0 41)), some (.ref (tR Θ 0 42)), some (.int (nI u)), some (.int (nI o)), none, none]) hl (by decide +kernel) rfl (Nat.le_of_ble_eq_true rfl) rfl ?_
  intro p e s m args below meth c hC hr
  have L : ∀ (n j : Nat) (x : Int32), n + j = 4 → mRi (fun j => mAl (G.2.1 0 30) (nI u) o (nI j)) n j x = mRg (G.2.1 0 30) (nI u) o → V p l e rm_L_rights s m args below meth c 7 Θ (fR (some (.int (mRg (G.2.1 0 30) (nI u) o))) G) 0 0 0 0 6 [some (.ref (tR Θ 0 40)), some (.ref (tR Θ 0 41)), some (.ref (tR Θ 0 42)), some (.int (nI u)), some (.int (nI o)), some (.int x), some (.int (nI j))] [] (G) := by
    intro n
    induction n with
    | zero =>
      intro j x h2 h3
      refine v_iload (q := 8) hC dL_rights_6 rfl rfl ?_
      refine v_iconst (q := 9) (v := 4) hC dL_rights_8 rfl (by decide) ?_
      refine v_icmp_ge (q := 45) (q2 := 12) hC dL_rights_9 (by decide) rfl (fun c_9 => ?_) (fun c_9 => ?_)
      · refine v_iload (q := 47) hC dL_rights_45 rfl rfl ?_
        refine v_iret hC dL_rights_47 hr (rfl) ?_ (Nat.le_of_ble_eq_true rfl) (Nat.le_of_ble_eq_true rfl)
        exact ⟨by rw [← h3, mRi], rfl⟩
      · exact absurd (by rw [show j = 4 by omega]; decide) c_9
    | succ n ih =>
      intro j x h2 h3
      rw [mRi] at h3
      refine v_iload (q := 8) hC dL_rights_6 rfl rfl ?_
      refine v_iconst (q := 9) (v := 4) hC dL_rights_8 rfl (by decide) ?_
      refine v_icmp_ge (q := 45) (q2 := 12) hC dL_rights_9 (by decide) rfl (fun c_9 => ?_) (fun c_9 => ?_)
      · exact absurd c_9 (by rw [show (4 : Int32) = nI 4 from rfl]; exact nI_ge (by omega) (by omega))
      · refine v_iload (q := 14) hC dL_rights_12 rfl rfl ?_
        refine v_aload_n (i := 0) (q := 15) hC dL_rights_14 rfl rfl rfl ?_
        refine v_aload_n (i := 1) (q := 16) hC dL_rights_15 rfl rfl rfl ?_
        refine v_aload_n (i := 2) (q := 17) hC dL_rights_16 rfl rfl rfl ?_
        refine v_iload_n (i := 3) (q := 18) hC dL_rights_17 rfl rfl rfl ?_
        refine v_iload (q := 20) hC dL_rights_18 rfl rfl ?_
        refine v_iload (q := 22) hC dL_rights_20 rfl rfl ?_
        refine v_callSN (q := 25) (rm := rm_L_allowed) hC (c_L_allowed hl Θ u o j _ hD hu ho h1 (by omega)) k_L_allowed st_yL_allowed ml_RL_192 dL_rights_22 rfl rfl rfl (Nat.le_of_ble_eq_true rfl) ⟨Nat.le_of_ble_eq_true rfl, Nat.le_of_ble_eq_true rfl⟩ (c1 := 0) (s1 := 0) rfl rfl ⟨Nat.le_of_ble_eq_true rfl, Nat.le_of_ble_eq_true rfl⟩ (fR_k ?_) fR_n
        try dsimp only [Option.toList, List.cons_append, List.nil_append]
        refine v_ifb_eq (q := 35) (q2 := 28) hC dL_rights_25 (by decide) rfl (fun c_25 => ?_) (fun c_25 => ?_)
        · refine v_iconst (q := 36) (v := 0) hC dL_rights_35 rfl (by decide) ?_
          refine v_ior (q := 37) hC dL_rights_36 rfl ?_
          refine v_istore (q := 39) hC dL_rights_37 rfl (lvc rfl) (Nat.le_of_ble_eq_true rfl) (Nat.le_of_ble_eq_true rfl) rfl ?_
          refine v_iinc (q := 42) (v := nI (j + 1)) hC dL_rights_39 rfl rfl (nI_1 j) (lvc rfl) (Nat.le_of_ble_eq_true rfl) (Nat.le_of_ble_eq_true rfl) rfl ?_
          refine v_goto (q := 6) hC dL_rights_42 (by decide) ?_
          refine ih (j + 1) _ (by omega) ?_
          rw [← h3]
          try dsimp only
          first | rw [if_pos c_25] | rw [if_neg (by rw [c_25]; decide)]
        · refine v_iconst (q := 29) (v := 1) hC dL_rights_28 rfl (by decide) ?_
          refine v_iload (q := 31) hC dL_rights_29 rfl rfl ?_
          refine v_ishl (q := 32) hC dL_rights_31 rfl ?_
          refine v_goto (q := 36) hC dL_rights_32 (by decide) ?_
          refine v_ior (q := 37) hC dL_rights_36 rfl ?_
          refine v_istore (q := 39) hC dL_rights_37 rfl (lvc rfl) (Nat.le_of_ble_eq_true rfl) (Nat.le_of_ble_eq_true rfl) rfl ?_
          refine v_iinc (q := 42) (v := nI (j + 1)) hC dL_rights_39 rfl rfl (nI_1 j) (lvc rfl) (Nat.le_of_ble_eq_true rfl) (Nat.le_of_ble_eq_true rfl) rfl ?_
          refine v_goto (q := 6) hC dL_rights_42 (by decide) ?_
          refine ih (j + 1) _ (by omega) ?_
          rw [← h3]
          try dsimp only
          first | rw [if_pos c_25] | rw [if_neg (by rw [c_25]; decide)]
  refine v_iconst (q := 1) (v := 0) hC dL_rights_0 rfl (by decide) ?_
  refine v_istore (q := 3) hC dL_rights_1 rfl (lvc rfl) (Nat.le_of_ble_eq_true rfl) (Nat.le_of_ble_eq_true rfl) rfl ?_
  refine v_iconst (q := 4) (v := 0) hC dL_rights_3 rfl (by decide) ?_
  refine v_istore (q := 6) hC dL_rights_4 rfl (lvc rfl) (Nat.le_of_ble_eq_true rfl) (Nat.le_of_ble_eq_true rfl) rfl ?_
  exact L 4 0 0 rfl rfl
