/-! sums are looked at; an entry is looked at that may give nothing -/
theorem Sim.pa {G : GS} {t o : Nat} {a : Nat → Int32} (h : Sim G t) (ho : 40 ≤ o) : Sim (putA G 0 o a) t :=
  h.ag ((AgX.refl G).a (by omega)) (h.2.2.2.ag ((AgP.refl G).a (by omega))) (by
    rw [putA_o _ _ (by omega)]
    exact h.1.congr ⟨⟨rfl, rfl, rfl, rfl, rfl, rfl, rfl⟩, putA_o _ _ (by omega), putA_o _ _ (by omega), putA_o _ _ (by omega), putA_o _ _ (by omega), putA_o _ _ (by omega), putA_o _ _ (by omega), putA_o _ _ (by omega), putA_o _ _ (by omega), putA_o _ _ (by omega)⟩ (fun _ _ => rfl) (Nat.le_refl t)) (Nat.le_refl t)
theorem Sim.lv {G G2 : GS} {t j : Nat} (h : Sim G t) (hj : 2 ≤ j) (h1 : G2.1 = G.1) (h2 : ∀ r o, ¬ (r = 0 ∧ 40 ≤ o) → G2.2.1 r o = G.2.1 r o) (h3 : ∀ i, ¬ i = j → G2.2.2.1 i = G.2.2.1 i) : Sim G2 t := by
  obtain ⟨a1, ⟨kq, od, b1, b2, b3, b4, b5, b6⟩, a3, ⟨n, p1, p2, p3, p4⟩, p5, p6⟩ := h
  have hr : ∀ r, ¬ r = 0 → G2.2.1 r = G.2.1 r := fun r hn => funext fun o => h2 r o (fun z => hn z.1)
  have h0 : ∀ o, o < 40 → G2.2.1 0 o = G.2.1 0 o := fun o ho => h2 0 o (by omega)
  refine ⟨?_, ⟨kq, od, b1, b2, by rw [h1]; exact b3, by rw [h1]; exact b4, by rw [h1]; exact b5, fun i hi => ?_⟩, fun i hi => ?_, ⟨n, p1, by rw [h1]; exact p2, by rw [h1]; exact p3, fun i hi => ?_⟩, by rw [h1]; exact p5, by rw [h1]; exact p6⟩
  · rw [h1, h0 30 (by decide)]
    exact a1.congr ⟨⟨rfl, rfl, rfl, rfl, rfl, rfl, rfl⟩, h0 _ (by decide), h0 _ (by decide), h0 _ (by decide), h0 _ (by decide), h0 _ (by decide), h0 _ (by decide), h0 _ (by decide), h0 _ (by decide), h0 _ (by decide)⟩ (fun _ _ => rfl) (Nat.le_refl t)
  · rw [h1, hr ((od + i) % 5 + 1) (by omega), h0 31 (by decide)]
    exact b6 i hi
  · rw [h1, hr (i + 6) (by omega), h0 32 (by decide), h0 33 (by decide), h3 i (by omega)]
    exact a3 i hi
  · rw [h0 26 (by decide), h0 34 (by decide)]
    exact p4 i hi
theorem Sim.tp {G : GS} {t j : Nat} (h : Sim G t) (hj : 2 ≤ j) : Sim (tpG G j) t :=
  h.lv hj rfl (fun r o hn => if_neg (fun z => hn ⟨z.1, by omega⟩)) (fun i hi => if_neg hi)
theorem Sim.dp {G : GS} {t j : Nat} (h : Sim G t) (hj : 2 ≤ j) : Sim (dpG G j) t :=
  h.lv hj rfl (fun _ _ _ => rfl) (fun i hi => if_neg hi)
theorem LR.cg {G G1 : GS} (h : LR G) (hx : ∀ o, o = 30 ∨ (40 ≤ o ∧ o < 45) → G1.2.1 0 o = G.2.1 0 o) : LR G1 := by
  unfold LR
  rw [hx 30 (Or.inl rfl), hx 40 (by omega), hx 41 (by omega), hx 42 (by omega), hx 43 (by omega), hx 44 (by omega)]
  exact h
theorem tpG_o (G : GS) {j o : Nat} (h : ¬ o = 43 + j) : (tpG G j).2.1 0 o = G.2.1 0 o := if_neg (fun z => h z.2)
theorem tpG_s (G : GS) (j : Nat) : (tpG G j).2.1 0 (43 + j) = fun _ => 0 := if_pos ⟨rfl, rfl⟩
theorem tpG_l (G : GS) (j : Nat) : (tpG G j).2.2.1 j = true := by
  show (if j = j then true else G.2.2.1 j) = true
  rw [if_pos rfl]
theorem tpG_ln (G : GS) {i j : Nat} (h : ¬ i = j) : (tpG G j).2.2.1 i = G.2.2.1 i := by
  show (if i = j then true else G.2.2.1 i) = G.2.2.1 i
  rw [if_neg h]
theorem dpG_l (G : GS) (j : Nat) : (dpG G j).2.2.1 j = false := by
  show (if j = j then false else G.2.2.1 j) = false
  rw [if_pos rfl]
theorem dpG_ln (G : GS) {i j : Nat} (h : ¬ i = j) : (dpG G j).2.2.1 i = G.2.2.1 i := by
  show (if i = j then false else G.2.2.1 i) = G.2.2.1 i
  rw [if_neg h]
/-- the world behind a look: rows made on the way are gone -/
def Ny (G G1 : GS) (t : Nat) : Prop := Sim G1 t ∧ G1.2.1 0 30 = G.2.1 0 30 ∧ (∀ o, 40 ≤ o → o < 45 → G1.2.1 0 o = G.2.1 0 o) ∧ noT G1.2.2.1 2
def sQ (G : GS) (t : Nat) (v : Int32) : cOut → GS → Prop := fun o G1 => o = .inl (some (.int v)) ∧ Ny G G1 t
theorem sQ_k {G : GS} {t : Nat} {v : Int32} {P : Option Value → GS → Prop} (h : ∀ G1, Ny G G1 t → P (some (.int v)) G1) : ∀ r G9, sQ G t v (.inl r) G9 → P r G9 := by
  rintro r G9 ⟨h1, h2⟩
  cases h1
  exact h G9 h2
theorem sQ_n {G : GS} {t : Nat} {v : Int32} : ∀ E G9, sQ G t v (.inr E) G9 → False := by
  rintro E G9 ⟨h1, -⟩
  cases h1
def oR (G : GS) (t : Nat) (d : UInt64) : cOut → GS → Prop := fun o G1 => o = .inl (some (.double d)) ∧ Nx G G1 t
theorem oR_k {G : GS} {t : Nat} {v : UInt64} {P : Option Value → GS → Prop} (h : ∀ G1, Nx G G1 t → P (some (.double v)) G1) : ∀ r G9, oR G t v (.inl r) G9 → P r G9 := by
  rintro r G9 ⟨h1, h2⟩
  cases h1
  exact h G9 h2
theorem oR_n {G : GS} {t : Nat} {v : UInt64} : ∀ E G9, oR G t v (.inr E) G9 → False := by
  rintro E G9 ⟨h1, -⟩
  cases h1
def opW (w : Nat → Int32) : UInt64 := FP.ddiv (FP.i2d (mEv w (mUs w) 0 0)) (FP.i2d (4 * nI (mUs w) * mHo w 20 0 0))
theorem x_openness {l : Launch} {G0 G : GS} {t : Nat} (hl : l.stackTraces = false) (Θ : cTH) (h0 : Nx G0 G t) : CtV l yX11_openness cX11_openness 2 (some .double) rm_X11_openness Θ [.ref (tR Θ 0 14)] G (oR G0 t (opW (G0.2.1 0 30))) ∧ vf_n64 (opW (G0.2.1 0 30)) := by
  have hn := h0.1.1.opn
  have e : FP.ddiv (FP.i2d (opA G)) (FP.i2d (opM G)) = opW (G0.2.1 0 30) := by
    unfold opW
    rw [hn.2.2.1, hn.2.2.2]
    unfold mOA mOM
    rw [h0.1.1.ok.us, h0.w]
  refine ⟨⟨_, c_X11_openness hl Θ G h0.1.1.gOk_ (fun _ => hn.2.1), fun o G1 h => ⟨G1, Gh.refl _, ?_⟩⟩, by rw [← e]; exact hn.2.1⟩
  obtain ⟨rfl, ja, jb, rfl⟩ := h
  have hR : AgR G (jS G ja jb) := (AgR.refl G).jS_ ja jb
  refine ⟨?_, h0.ag hR.2.1 (h0.1.agR hR (Nat.le_refl _))⟩
  unfold opD
  rw [if_pos hn.1, e]
section GHR
variable {p : Program} {l : Launch} {e : Env} {R : Room} {s : State} {m : MethodId} {args : Array Value} {below : List Frame} {meth : Method} {c : Code} {nL : Nat} {Θ : cTH} {Q9 : State → Prop} {k n pc : Nat} {LS : List (Option Value)} {st : List Value} {G G2 : GS}
theorem v_gh (h : Gh G G2) (kk : VG p l e R s m args below meth c nL Θ Q9 k n pc LS st G2) : VG p l e R s m args below meth c nL Θ Q9 k n pc LS st G :=
  fun H locs ls hH hS hl => kk H locs ls (cG_gh h hH) hS hl
end GHR
/-- how many of u users have the right r at ob -/
def cuP (w : Nat → Int32) (ob : Nat) : Nat → Nat → Int32
  | 0, _ => 0
  | u + 1, r => cuP w ob u r + ((mNt w (20 * u + ob) >>> (nI r &&& 31)) &&& 1)
def cuQ (w : Nat → Int32) (ob u r0 : Nat) : Nat → Int32 := fun r => if r < r0 then cuP w ob (u + 1) r else if r < 4 then cuP w ob u r else 0
def cuR (w : Nat → Int32) (ob u : Nat) : Nat → Int32 := cuQ w ob u 0
theorem cuQ_4 (w : Nat → Int32) (ob u : Nat) : cuQ w ob u 4 = cuR w ob (u + 1) := by
  funext r
  unfold cuR cuQ
  rw [if_neg (show ¬ r < 0 by omega)]
  by_cases h : r < 4
  · rw [if_pos h, if_pos h]
  · rw [if_neg h, if_neg h, if_neg h]
theorem cuQ_s (w : Nat → Int32) {ob u r0 : Nat} (h0 : r0 < 4) : upd (cuQ w ob u r0) r0 (cuP w ob u r0 + ((mNt w (20 * u + ob) >>> (nI r0 &&& 31)) &&& 1)) = cuQ w ob u (r0 + 1) := by
  funext r
  by_cases h : r = r0
  · subst h
    rw [upd_s]
    unfold cuQ
    rw [if_pos (by omega), cuP]
  · rw [upd_n h]
    unfold cuQ
    by_cases h2 : r < r0
    · rw [if_pos h2, if_pos (show r < r0 + 1 by omega)]
    · rw [if_neg h2, if_neg (show ¬ r < r0 + 1 by omega)]
theorem cuR_0 (w : Nat → Int32) (ob : Nat) : cuR w ob 0 = fun _ => 0 := by
  funext r
  unfold cuR cuQ
  rw [if_neg (show ¬ r < 0 by omega)]
  by_cases h : r < 4
  · rw [if_pos h]; rfl
  · rw [if_neg h]
theorem cuR_at (w : Nat → Int32) {ob u r : Nat} (hr : r < 4) : cuR w ob u r = cuP w ob u r := by
  unfold cuR cuQ
  rw [if_neg (show ¬ r < 0 by omega), if_pos hr]
theorem cuP_mCuL {w : Nat → Int32} (hw : mOk w) {ob r : Nat} (hob : ob < 20) (h1 : w (oA ob 0) = 1) (hr : r < 4) : ∀ (n u : Nat), n + u = mUs w → mCuL w ob (nI r) n u (cuP w ob u r) = cuP w ob (mUs w) r := by
  intro n
  induction n with
  | zero =>
    intro u h
    rw [mCuL, show u = mUs w by omega]
  | succ n ih =>
    intro u h
    have h2 := ih (u + 1) (by omega)
    rw [cuP, mNt_at hw (by omega) hob, if_pos h1, has_01, mHas_bt _ (by omega), mRg_bt _ _ _ hr] at h2
    rw [mCuL]
    exact h2
theorem mSz_0 : mSz 0 20 0 0 = 0 := by decide +kernel
theorem mEvO_tail {w : Nat → Int32} (hn : ∀ k, 10 ≤ k → k < 20 → mHold w (nI k) = false) (u : Int32) : ∀ (n j : Nat) (t : Int32), 10 ≤ j → n + j ≤ 20 → mEvO w u n j t = t := by
  intro n
  induction n with
  | zero => intro j t _ _; rfl
  | succ n ih =>
    intro j t h1 h2
    rw [mEvO, hn j h1 (by omega), if_neg (by decide), Int32.add_zero]
    exact ih (j + 1) t (by omega) (by omega)
abbrev rm_L_areSums : Room := { frames := 9, locals := 207, cells := 12, slots := 80 }
set_option maxHeartbeats 4000000 in
set_option maxRecDepth 20000 in
theorem c_L_areSums {l : Launch} (hl : l.stackTraces = false) (Θ : cTH) (ob t : Nat) (G : GS) (hS : Sim G t) (hL : LR G) (ht : t < 2 ^ 20) (hob : ob < 10) (hlv : noT G.2.2.1 2) : Ct l yL_areSums cL_areSums 13 (some .boolean) rm_L_areSums Θ [.ref (tR Θ 0 14), .ref (tR Θ 0 40), .ref (tR Θ 0 41), .ref (tR Θ 0 42), .ref (tR Θ 0 44), .int (nI ob)] (G) (sQ G t 1) := by
  refine ct_of (LS := [some (.ref (tR Θ 0 14)), some (.ref (tR Θ 0 40)), some (.ref (tR Θ 0 41)), some (.ref (tR Θ 0 42)), some (.ref (tR Θ 0 44)), some (.int (nI ob)), none, none, none, none, none, none, none]) hl (by decide +kernel) rfl (Nat.le_of_ble_eq_true rfl) rfl ?_
  intro p e s m args below meth c hC hr
  -- behind the sums
  have S3 : ∀ (Q9 : State → Prop) (Θ : cTH) (B : GS), cC p l s m args meth c cL_areSums 13 yL_areSums.cls Θ → Sim B t → LR B → (∀ r, r < 4 → B.2.1 0 47 r = cuP (B.2.1 0 30) ob (mUs (B.2.1 0 30)) r) → B.2.2.1 4 = true → (∀ (G2 : GS) (LS : List (Option Value)), Nx B G2 t → VG p l e rm_L_areSums s m args below meth c 13 Θ Q9 10 64 224 LS [.int 1] G2) → ∀ (x9 x10 x11 x12 : Option Value), VG p l e rm_L_areSums s m args below meth c 13 Θ Q9 2 16 125 [some (.ref (tR Θ 0 14)), some (.ref (tR Θ 0 40)), some (.ref (tR Θ 0 41)), some (.ref (tR Θ 0 42)), some (.ref (tR Θ 0 44)), some (.int (nI ob)), some (.ref (tR Θ 0 45)), some (.int (mEv (B.2.1 0 30) (mUs (B.2.1 0 30)) 0 0)), some (.ref (tR Θ 0 47)), x9, x10, x11, x12] [] (B) := by
    intro Q9 Θ B hC hSB hLB h47 hv4 kk x9 x10 x11 x12
    have hLB2 := hLB
    obtain ⟨hD, ⟨e0, us1⟩, e1, e2, -⟩ := hLB
    have z0 : Nx B B t := Nx.refl hSB
    have hok : ∀ {G' : GS}, Nx B G' t → okI G'.2.2.1 0 47 = true := fun z => by
      rw [z.2.2.2]
      show (false || (true && ((((false || false) || (false && B.2.2.1 2)) || (false && B.2.2.1 3)) || (true && B.2.2.1 4)))) = true
      rw [hv4]; rfl
    have hob20 : ob < 20 := by omega
    have eo : (nI ob).toNatClampNeg = ob := nI_clamp (by omega)
    have L : ∀ (n r : Nat) (G' : GS), n + r = 4 → Nx B G' t → VG p l e rm_L_areSums s m args below meth c 13 Θ Q9 (2 + 2 * r) (16 + 12 * r) 168 [some (.ref (tR Θ 0 14)), some (.ref (tR Θ 0 40)), some (.ref (tR Θ 0 41)), some (.ref (tR Θ 0 42)), some (.ref (tR Θ 0 44)), some (.int (nI ob)), some (.ref (tR Θ 0 45)), some (.int (mEv (B.2.1 0 30) (mUs (B.2.1 0 30)) 0 0)), some (.ref (tR Θ 0 47)), some (.int 1), some (.int (nI r)), x11, x12] [] (G') := by
      intro n
      induction n with
      | zero =>
        intro r G' h1 z
        have hr : r = 4 := by omega
        subst hr
        refine v_iload (q := 170) hC dL_areSums_168 rfl rfl ?_
        refine v_iconst (q := 171) (v := 4) hC dL_areSums_170 rfl (by decide) ?_
        refine v_icmp_ge (q := 222) (q2 := 174) hC dL_areSums_171 (by decide) rfl (fun c_171 => ?_) (fun c_171 => ?_)
        · refine v_iload (q := 224) hC dL_areSums_222 rfl rfl ?_
          exact kk _ _ z
        · exact absurd (by decide) c_171
      | succ n ih =>
        intro r G' h1 z
        have hr : r < 4 := by omega
        have m3 := mIn3 hr
        by_cases hc : B.2.1 0 30 (oA ob 0) = 1
        · have hy : mHold (B.2.1 0 30) (nI ob) = true := by rw [hD.hold hob20]; exact decide_eq_true hc
          have hcu := cuP_mCuL hD.ok hob20 hc hr (mUs (B.2.1 0 30)) 0 rfl
          refine v_iload (q := 170) hC dL_areSums_168 rfl rfl ?_
          refine v_iconst (q := 171) (v := 4) hC dL_areSums_170 rfl (by decide) ?_
          refine v_icmp_ge (q := 222) (q2 := 174) hC dL_areSums_171 (by decide) rfl (fun c_171 => ?_) (fun c_171 => ?_)
          · exact absurd c_171 (by rw [show (4 : Int32) = nI 4 from rfl]; exact nI_ge (by omega) (by omega))
          · refine v_iload (q := 176) hC dL_areSums_174 rfl rfl ?_
            refine v_if_eq (q := 213) (q2 := 179) hC dL_areSums_176 (by decide) rfl (fun c_176 => ?_) (fun c_176 => ?_)
            · exact absurd c_176 (by decide)
            · refine v_aload_n (i := 0) (q := 180) hC dL_areSums_179 rfl rfl rfl ?_
              refine v_iload (q := 182) hC dL_areSums_180 rfl rfl ?_
              refine v_iload (q := 184) hC dL_areSums_182 rfl rfl ?_
              refine v_callR (q := 187) (rm := rm_L_usersWithOf) hC ((r_usersWith hl Θ z ht (nI ob) (nI r)).v (v2 := cuP (B.2.1 0 30) ob (mUs (B.2.1 0 30)) r) (by rw [if_pos hy, if_pos m3, gI, eo]; exact hcu)) kh_L_usersWithOf ml_RL_275 dL_areSums_184 rfl rfl rfl (Nat.le_of_ble_eq_true rfl) ⟨Nat.le_of_ble_eq_true rfl, Nat.le_of_ble_eq_true rfl⟩ (c1 := 2) (s1 := 12) rfl rfl ⟨show _ + 2 ≤ 12 by omega, show _ + 12 ≤ 80 by omega⟩ (rQ_k (fun G_184 z_184 => ?_)) rQ_n
              try dsimp only [Option.toList, List.cons_append, List.nil_append]
              refine v_aload_n (i := 2) (q := 188) hC dL_areSums_187 rfl rfl rfl ?_
              refine v_iload (q := 190) hC dL_areSums_188 rfl rfl ?_
              refine v_ialdV (q := 191) hC dL_areSums_190 rfl rfl rfl (i := ob) (rfl) (by first | decide | omega) (by decide) (NxR z_184 (by decide) (by decide) (rfl)) ?_
              refine v_bipush (q := 193) (v := (-2)) hC dL_areSums_191 rfl (by decide) ?_
              refine v_icmp_ne (q := 201) (q2 := 196) hC dL_areSums_193 (by decide) rfl (fun c_193 => ?_) (fun c_193 => ?_)
              · refine v_aload (q := 203) hC dL_areSums_201 rfl rfl ?_
                refine v_iload (q := 205) hC dL_areSums_203 rfl rfl ?_
                refine v_ialdV (q := 206) hC dL_areSums_205 rfl (hok z_184) rfl (i := r) (rfl) (by first | decide | omega) (by decide) (NxR z_184 (by decide) (by decide) (h47 r hr)) ?_
                refine v_icmp_ne (q := 213) (q2 := 209) hC dL_areSums_206 (by decide) rfl (fun c_206 => ?_) (fun c_206 => ?_)
                · exact absurd rfl c_206
                · refine v_iconst (q := 210) (v := 1) hC dL_areSums_209 rfl (by decide) ?_
                  refine v_goto (q := 214) hC dL_areSums_210 (by decide) ?_
                  refine v_istore (q := 216) hC dL_areSums_214 rfl (lvc rfl) (Nat.le_of_ble_eq_true rfl) (Nat.le_of_ble_eq_true rfl) rfl ?_
                  refine v_iinc (q := 219) (v := nI (r + 1)) hC dL_areSums_216 rfl rfl (nI_1 r) (lvc rfl) (Nat.le_of_ble_eq_true rfl) (Nat.le_of_ble_eq_true rfl) rfl ?_
                  refine v_goto (q := 168) hC dL_areSums_219 (by decide) ?_
                  exact v_widen (by omega) (by omega) (ih (r + 1) _ (by omega) z_184)
              · exact absurd hc ((hD.p2 hob).mp c_193)
        · have hn : ¬ mHold (B.2.1 0 30) (nI ob) = true := by rw [hD.hold hob20, decide_eq_false hc]; decide
          refine v_iload (q := 170) hC dL_areSums_168 rfl rfl ?_
          refine v_iconst (q := 171) (v := 4) hC dL_areSums_170 rfl (by decide) ?_
          refine v_icmp_ge (q := 222) (q2 := 174) hC dL_areSums_171 (by decide) rfl (fun c_171 => ?_) (fun c_171 => ?_)
          · exact absurd c_171 (by rw [show (4 : Int32) = nI 4 from rfl]; exact nI_ge (by omega) (by omega))
          · refine v_iload (q := 176) hC dL_areSums_174 rfl rfl ?_
            refine v_if_eq (q := 213) (q2 := 179) hC dL_areSums_176 (by decide) rfl (fun c_176 => ?_) (fun c_176 => ?_)
            · exact absurd c_176 (by decide)
            · refine v_aload_n (i := 0) (q := 180) hC dL_areSums_179 rfl rfl rfl ?_
              refine v_iload (q := 182) hC dL_areSums_180 rfl rfl ?_
              refine v_iload (q := 184) hC dL_areSums_182 rfl rfl ?_
              refine v_callR (q := 187) (rm := rm_L_usersWithOf) hC ((r_usersWith hl Θ z ht (nI ob) (nI r)).v (v2 := -101) (if_neg hn)) kh_L_usersWithOf ml_RL_275 dL_areSums_184 rfl rfl rfl (Nat.le_of_ble_eq_true rfl) ⟨Nat.le_of_ble_eq_true rfl, Nat.le_of_ble_eq_true rfl⟩ (c1 := 2) (s1 := 12) rfl rfl ⟨show _ + 2 ≤ 12 by omega, show _ + 12 ≤ 80 by omega⟩ (rQ_k (fun G_184 z_184 => ?_)) rQ_n
              try dsimp only [Option.toList, List.cons_append, List.nil_append]
              refine v_aload_n (i := 2) (q := 188) hC dL_areSums_187 rfl rfl rfl ?_
              refine v_iload (q := 190) hC dL_areSums_188 rfl rfl ?_
              refine v_ialdV (q := 191) hC dL_areSums_190 rfl rfl rfl (i := ob) (rfl) (by first | decide | omega) (by decide) (NxR z_184 (by decide) (by decide) (rfl)) ?_
              refine v_bipush (q := 193) (v := (-2)) hC dL_areSums_191 rfl (by decide) ?_
              refine v_icmp_ne (q := 201) (q2 := 196) hC dL_areSums_193 (by decide) rfl (fun c_193 => ?_) (fun c_193 => ?_)
              · exact absurd ((hD.p2 hob).mpr hc) c_193
              · refine v_bipush (q := 198) (v := (-101)) hC dL_areSums_196 rfl (by decide) ?_
                refine v_goto (q := 206) hC dL_areSums_198 (by decide) ?_
                refine v_icmp_ne (q := 213) (q2 := 209) hC dL_areSums_206 (by decide) rfl (fun c_206 => ?_) (fun c_206 => ?_)
                · exact absurd rfl c_206
                · refine v_iconst (q := 210) (v := 1) hC dL_areSums_209 rfl (by decide) ?_
                  refine v_goto (q := 214) hC dL_areSums_210 (by decide) ?_
                  refine v_istore (q := 216) hC dL_areSums_214 rfl (lvc rfl) (Nat.le_of_ble_eq_true rfl) (Nat.le_of_ble_eq_true rfl) rfl ?_
                  refine v_iinc (q := 219) (v := nI (r + 1)) hC dL_areSums_216 rfl rfl (nI_1 r) (lvc rfl) (Nat.le_of_ble_eq_true rfl) (Nat.le_of_ble_eq_true rfl) rfl ?_
                  refine v_goto (q := 168) hC dL_areSums_219 (by decide) ?_
                  exact v_widen (by omega) (by omega) (ih (r + 1) _ (by omega) z_184)
    have hne : vf_n64 (FP.ddiv (FP.i2d (mEv (B.2.1 0 30) (mUs (B.2.1 0 30)) 0 0)) (FP.i2d (4 * nI (mUs (B.2.1 0 30)) * mHo (B.2.1 0 30) 20 0 0))) := (x_openness hl Θ z0).2
    refine v_aload_n (i := 0) (q := 126) hC dL_areSums_125 rfl rfl rfl ?_
    refine v_callVR (q := 129) (rm := rm_X11_allRights) hC (x_allRights hl Θ z0) k_X11_allRights im_yX11_allRights se_yX11_allRights ml_RL_302 dL_areSums_126 rfl rfl rfl rfl rfl rfl (Nat.le_of_ble_eq_true rfl) ⟨Nat.le_of_ble_eq_true rfl, Nat.le_of_ble_eq_true rfl⟩ (c1 := 0) (s1 := 0) rfl rfl ⟨show _ + 0 ≤ 12 by omega, show _ + 0 ≤ 80 by omega⟩ (rQ_k (fun G_126 z_126 => ?_)) rQ_n
    try dsimp only [Option.toList, List.cons_append, List.nil_append]
    refine v_iload (q := 131) hC dL_areSums_129 rfl rfl ?_
    refine v_icmp_ne (q := 162) (q2 := 134) hC dL_areSums_131 (by decide) rfl (fun c_131 => ?_) (fun c_131 => ?_)
    · exact absurd rfl c_131
    · refine v_aload_n (i := 0) (q := 135) hC dL_areSums_134 rfl rfl rfl ?_
      refine v_callVR (q := 138) (rm := rm_X11_openness) hC ((x_openness hl Θ z_126).1) k_X11_openness im_yX11_openness se_yX11_openness ml_RL_305 dL_areSums_135 rfl rfl rfl rfl rfl rfl (Nat.le_of_ble_eq_true rfl) ⟨Nat.le_of_ble_eq_true rfl, Nat.le_of_ble_eq_true rfl⟩ (c1 := 0) (s1 := 0) rfl rfl ⟨show _ + 0 ≤ 12 by omega, show _ + 0 ≤ 80 by omega⟩ (oR_k (fun G_135 z_135 => ?_)) oR_n
      try dsimp only [Option.toList, List.cons_append, List.nil_append]
      refine v_iload (q := 140) hC dL_areSums_138 rfl rfl ?_
      refine v_i2d (q := 141) hC dL_areSums_140 rfl ?_
      refine v_iconst (q := 142) (v := 4) hC dL_areSums_141 rfl (by decide) ?_
      refine v_aload (q := 144) hC dL_areSums_142 rfl rfl ?_
      refine v_iconst (q := 145) (v := 0) hC dL_areSums_144 rfl (by decide) ?_
      refine v_ialdV (q := 146) hC dL_areSums_145 rfl rfl rfl (i := 0) (rfl) (by first | decide | omega) (by decide) (NxR z_135 (by decide) (by decide) (e0)) ?_
      refine v_imul (q := 147) hC dL_areSums_146 rfl ?_
      refine v_aload (q := 149) hC dL_areSums_147 rfl rfl ?_
      refine v_iconst (q := 150) (v := 2) hC dL_areSums_149 rfl (by decide) ?_
      refine v_ialdV (q := 151) hC dL_areSums_150 rfl rfl rfl (i := 2) (rfl) (by first | decide | omega) (by decide) (NxR z_135 (by decide) (by decide) (e2)) ?_
      refine v_imul (q := 152) hC dL_areSums_151 rfl ?_
      refine v_i2d (q := 153) hC dL_areSums_152 rfl ?_
      refine v_ddiv (q := 154) hC dL_areSums_153 rfl hne ?_
      refine v_dcmp (q := 155) hC dL_areSums_154 rfl ?_
      refine v_if_ne (q := 162) (q2 := 158) hC dL_areSums_155 (by decide) rfl (fun c_155 => ?_) (fun c_155 => ?_)
      · exact absurd (dcmp_self hne) c_155
      · refine v_iconst (q := 159) (v := 1) hC dL_areSums_158 rfl (by decide) ?_
        refine v_goto (q := 163) hC dL_areSums_159 (by decide) ?_
        refine v_istore (q := 165) hC dL_areSums_163 rfl (lvc rfl) (Nat.le_of_ble_eq_true rfl) (Nat.le_of_ble_eq_true rfl) rfl ?_
        refine v_iconst (q := 166) (v := 0) hC dL_areSums_165 rfl (by decide) ?_
        refine v_istore (q := 168) hC dL_areSums_166 rfl (lvc rfl) (Nat.le_of_ble_eq_true rfl) (Nat.le_of_ble_eq_true rfl) rfl ?_
        exact L 4 0 _ rfl z_135
  -- the sums
  have S2 : ∀ (Q9 : State → Prop) (Θ : cTH) (B : GS), cC p l s m args meth c cL_areSums 13 yL_areSums.cls Θ → Sim B t → LR B → (∀ u k, u < mUs (B.2.1 0 30) → k < 10 → B.2.1 0 45 (10 * u + k) = mNt (B.2.1 0 30) (20 * u + k)) → B.2.1 0 47 = (fun _ => 0) → B.2.2.1 2 = true → B.2.2.1 4 = true → (∀ (G2 : GS) (LS : List (Option Value)), Nx (putA B 0 47 (cuR (B.2.1 0 30) ob (mUs (B.2.1 0 30)))) G2 t → VG p l e rm_L_areSums s m args below meth c 13 Θ Q9 10 64 224 LS [.int 1] G2) → VG p l e rm_L_areSums s m args below meth c 13 Θ Q9 2 16 22 [some (.ref (tR Θ 0 14)), some (.ref (tR Θ 0 40)), some (.ref (tR Θ 0 41)), some (.ref (tR Θ 0 42)), some (.ref (tR Θ 0 44)), some (.int (nI ob)), some (.ref (tR Θ 0 45)), some (.int 0), none, none, none, none, none] [.ref (tR Θ 0 47)] (B) := by
    intro Q9 Θ B hC hSB hLB h45 h47 hv2 hv4 kk
    have hLB2 := hLB
    obtain ⟨hD, ⟨e0, us1⟩, e1, e2, -⟩ := hLB
    have hU := hD.ok.us12
    have hn20 : ∀ k, 10 ≤ k → k < 20 → mHold (B.2.1 0 30) (nI k) = false := fun k h1 h2 => by rw [hD.hold h2, decide_eq_false (hD.no h1 h2)]
    have hi45 : okI B.2.2.1 0 45 = true := by
      show (false || (true && ((((false || false) || (true && B.2.2.1 2)) || (false && B.2.2.1 3)) || (false && B.2.2.1 4)))) = true
      rw [hv2]; rfl
    have hi47 : okI B.2.2.1 0 47 = true := by
      show (false || (true && ((((false || false) || (false && B.2.2.1 2)) || (false && B.2.2.1 3)) || (true && B.2.2.1 4)))) = true
      rw [hv4]; rfl
    have r44 : ∀ a, (putA B 0 47 a).2.1 0 44 = B.2.1 0 44 := fun a => putA_o _ _ (by decide)
    have r45 : ∀ a, (putA B 0 47 a).2.1 0 45 = B.2.1 0 45 := fun a => putA_o _ _ (by decide)
    have r47 : ∀ a, (putA B 0 47 a).2.1 0 47 = a := fun a => putA_same _ _ _ _
    have L1 : ∀ (n u : Nat) (nv : Int32) (x10 x11 x12 : Option Value), n + u = mUs (B.2.1 0 30) → mEv (B.2.1 0 30) n u nv = mEv (B.2.1 0 30) (mUs (B.2.1 0 30)) 0 0 → VG p l e rm_L_areSums s m args below meth c 13 Θ Q9 2 16 27 [some (.ref (tR Θ 0 14)), some (.ref (tR Θ 0 40)), some (.ref (tR Θ 0 41)), some (.ref (tR Θ 0 42)), some (.ref (tR Θ 0 44)), some (.int (nI ob)), some (.ref (tR Θ 0 45)), some (.int nv), some (.ref (tR Θ 0 47)), some (.int (nI u)), x10, x11, x12] [] (putA B 0 47 (cuR (B.2.1 0 30) ob u)) := by
      intro n
      induction n with
      | zero =>
        intro u nv x10 x11 x12 h1 h2
        have hu : u = mUs (B.2.1 0 30) := by omega
        subst hu
        rw [mEv] at h2
        subst h2
        have hS3 := S3 Q9 Θ (putA B 0 47 (cuR (B.2.1 0 30) ob (mUs (B.2.1 0 30)))) hC (hSB.pa (by decide)) (hLB2.cg fun o ho => putA_o _ _ (by omega)) (fun r hr => by
          rw [r47, putA_o _ _ (by decide)]
          exact cuR_at _ hr) hv4 kk
        rw [putA_o _ _ (by decide)] at hS3
        refine v_iload (q := 29) hC dL_areSums_27 rfl rfl ?_
        refine v_aload (q := 31) hC dL_areSums_29 rfl rfl ?_
        refine v_iconst (q := 32) (v := 0) hC dL_areSums_31 rfl (by decide) ?_
        refine v_ialdV (q := 33) hC dL_areSums_32 rfl rfl rfl (i := 0) (rfl) (by first | decide | omega) (by decide) ((congrFun (r44 _) 0).trans e0) ?_
        refine v_icmp_ge (q := 125) (q2 := 36) hC dL_areSums_33 (by decide) rfl (fun c_33 => ?_) (fun c_33 => ?_)
        · exact hS3 _ _ _ _
        · exact absurd (nI_le (Nat.le_refl _) (by omega)) c_33
      | succ n ih =>
        intro u nv x10 x11 x12 h1 h2
        have hu : u < mUs (B.2.1 0 30) := by omega
        have hu12 : u < 12 := by omega
        rw [mEv] at h2
        have L2 : ∀ (n2 k : Nat) (nv2 : Int32) (x11 x12 : Option Value), n2 + k = 10 → mEvO (B.2.1 0 30) (nI u) (n2 + 10) k nv2 = mEvO (B.2.1 0 30) (nI u) 20 0 nv → VG p l e rm_L_areSums s m args below meth c 13 Θ Q9 2 16 39 [some (.ref (tR Θ 0 14)), some (.ref (tR Θ 0 40)), some (.ref (tR Θ 0 41)), some (.ref (tR Θ 0 42)), some (.ref (tR Θ 0 44)), some (.int (nI ob)), some (.ref (tR Θ 0 45)), some (.int nv2), some (.ref (tR Θ 0 47)), some (.int (nI u)), some (.int (nI k)), x11, x12] [] (putA B 0 47 (cuR (B.2.1 0 30) ob (if ob < k then u + 1 else u))) := by
          intro n2
          induction n2 with
          | zero =>
            intro k nv2 x11 x12 h3 h4
            have hk : k = 10 := by omega
            subst hk
            rw [mEvO_tail hn20 _ _ _ _ (by omega) (by omega)] at h4
            subst h4
            rw [if_pos hob]
            refine v_iload (q := 41) hC dL_areSums_39 rfl rfl ?_
            refine v_bipush (q := 43) (v := 10) hC dL_areSums_41 rfl (by decide) ?_
            refine v_icmp_ge (q := 119) (q2 := 46) hC dL_areSums_43 (by decide) rfl (fun c_43 => ?_) (fun c_43 => ?_)
            · refine v_iinc (q := 122) (v := nI (u + 1)) hC dL_areSums_119 rfl rfl (nI_1 u) (lvc rfl) (Nat.le_of_ble_eq_true rfl) (Nat.le_of_ble_eq_true rfl) rfl ?_
              refine v_goto (q := 27) hC dL_areSums_122 (by decide) ?_
              exact ih (u + 1) _ _ _ _ (by omega) h2
            · exact absurd (by decide) c_43
          | succ n2 ih2 =>
            intro k nv2 x11 x12 h3 h4
            have hk : k < 10 := by omega
            have hm := mNt_at hD.ok hu (show k < 20 by omega)
            have hset : ((pkL (fun k' => (putA B 0 47 (cuR (B.2.1 0 30) ob (if ob < k then u + 1 else u))).2.1 0 45 (10 * u + k')) >>> ((36 - 4 * nI k).toInt64 &&& 63)) &&& 15).toInt32 = mNt (B.2.1 0 30) (20 * u + k) := by
              rw [r45, pkL_congr (g := fun k' => mNt (B.2.1 0 30) (20 * u + k')) (fun i hi => h45 u i hu hi), show (36 : Int32) - 4 * nI k = nI (36 - 4 * k) by
                rw [show (4 : Int32) = nI 4 from rfl, nI_mul, show (36 : Int32) = nI 36 from rfl, pk_sub (by omega)]]
              exact pkL_set (fun k' => mNt_lt _ _) hk
            have h5 : mEvO (B.2.1 0 30) (nI u) (n2 + 10) (k + 1) (nv2 + mSz (mNt (B.2.1 0 30) (20 * u + k)) 20 0 0) = mEvO (B.2.1 0 30) (nI u) 20 0 nv := by
              have hs : mEvO (B.2.1 0 30) (nI u) (n2 + 1 + 10) k nv2 = mEvO (B.2.1 0 30) (nI u) (n2 + 10) (k + 1) (nv2 + (if mHold (B.2.1 0 30) (nI k) = true then mSz (mRg (B.2.1 0 30) (nI u) k) 20 0 0 else 0)) := by
                rw [show n2 + 1 + 10 = (n2 + 10) + 1 by omega, mEvO]
              rw [← h4, hs, hm, hD.hold (by omega)]
              by_cases hc : B.2.1 0 30 (oA k 0) = 1
              · rw [if_pos hc, if_pos (decide_eq_true hc)]
              · rw [if_neg hc, if_neg (by rw [decide_eq_false hc]; decide), mSz_0]
            by_cases hko : k = ob
            · subst hko
              rw [if_neg (Nat.lt_irrefl k)] at hset ⊢
              have ih3 := ih2 (k + 1) (nv2 + mSz (mNt (B.2.1 0 30) (20 * u + k)) 20 0 0) (some (.int (mNt (B.2.1 0 30) (20 * u + k)))) (some (.int (nI 4))) (by omega) h5
              rw [if_pos (Nat.lt_succ_self k)] at ih3
              have L3 : ∀ (n3 r : Nat), n3 + r = 4 → VG p l e rm_L_areSums s m args below meth c 13 Θ Q9 2 16 79 [some (.ref (tR Θ 0 14)), some (.ref (tR Θ 0 40)), some (.ref (tR Θ 0 41)), some (.ref (tR Θ 0 42)), some (.ref (tR Θ 0 44)), some (.int (nI k)), some (.ref (tR Θ 0 45)), some (.int (nv2 + mSz (mNt (B.2.1 0 30) (20 * u + k)) 20 0 0)), some (.ref (tR Θ 0 47)), some (.int (nI u)), some (.int (nI k)), some (.int (mNt (B.2.1 0 30) (20 * u + k))), some (.int (nI r))] [] (putA B 0 47 (cuQ (B.2.1 0 30) k u r)) := by
                intro n3
                induction n3 with
                | zero =>
                  intro r h6
                  have hr : r = 4 := by omega
                  subst hr
                  rw [cuQ_4]
                  refine v_iload (q := 81) hC dL_areSums_79 rfl rfl ?_
                  refine v_iconst (q := 82) (v := 4) hC dL_areSums_81 rfl (by decide) ?_
                  refine v_icmp_ge (q := 113) (q2 := 85) hC dL_areSums_82 (by decide) rfl (fun c_82 => ?_) (fun c_82 => ?_)
                  · refine v_iinc (q := 116) (v := nI (k + 1)) hC dL_areSums_113 rfl rfl (nI_1 k) (lvc rfl) (Nat.le_of_ble_eq_true rfl) (Nat.le_of_ble_eq_true rfl) rfl ?_
                    refine v_goto (q := 39) hC dL_areSums_116 (by decide) ?_
                    exact ih3
                  · exact absurd (by decide) c_82
                | succ n3 ih4 =>
                  intro r h6
                  have hr : r < 4 := by omega
                  have v9 : cuQ (B.2.1 0 30) k u r r = cuP (B.2.1 0 30) k u r := by
                    unfold cuQ
                    rw [if_neg (Nat.lt_irrefl r), if_pos hr]
                  refine v_iload (q := 81) hC dL_areSums_79 rfl rfl ?_
                  refine v_iconst (q := 82) (v := 4) hC dL_areSums_81 rfl (by decide) ?_
                  refine v_icmp_ge (q := 113) (q2 := 85) hC dL_areSums_82 (by decide) rfl (fun c_82 => ?_) (fun c_82 => ?_)
                  · exact absurd c_82 (by rw [show (4 : Int32) = nI 4 from rfl]; exact nI_ge (by omega) (by omega))
                  · refine v_iload (q := 87) hC dL_areSums_85 rfl rfl ?_
                    refine v_iload (q := 89) hC dL_areSums_87 rfl rfl ?_
                    refine v_icmp_ne (q := 113) (q2 := 92) hC dL_areSums_89 (by decide) rfl (fun c_89 => ?_) (fun c_89 => ?_)
                    · exact absurd rfl c_89
                    · refine v_aload (q := 94) hC dL_areSums_92 rfl rfl ?_
                      refine v_iload (q := 96) hC dL_areSums_94 rfl rfl ?_
                      refine v_dup2 (q := 97) hC dL_areSums_96 rfl rfl rfl ?_
                      refine v_ialdV (q := 98) hC dL_areSums_97 rfl (hi47) rfl (i := r) (rfl) (by first | decide | omega) (by decide) ((congrFun (r47 _) r).trans v9) ?_
                      refine v_iload (q := 100) hC dL_areSums_98 rfl rfl ?_
                      refine v_iload (q := 102) hC dL_areSums_100 rfl rfl ?_
                      refine v_ishr (q := 103) hC dL_areSums_102 rfl ?_
                      refine v_iconst (q := 104) (v := 1) hC dL_areSums_103 rfl (by decide) ?_
                      refine v_iand (q := 105) hC dL_areSums_104 rfl ?_
                      refine v_iadd (q := 106) hC dL_areSums_105 rfl ?_
                      refine v_iastN (q := 107) hC dL_areSums_106 rfl (hi47) (fun _ => rfl) (i := r) (rfl) (by first | decide | omega | (unfold oA; omega) | (unfold enA; omega)) (by decide) ?_
                      rw [putA_putA, r47, cuQ_s _ hr]
                      refine v_iinc (q := 110) (v := nI (r + 1)) hC dL_areSums_107 rfl rfl (nI_1 r) (lvc rfl) (Nat.le_of_ble_eq_true rfl) (Nat.le_of_ble_eq_true rfl) rfl ?_
                      refine v_goto (q := 79) hC dL_areSums_110 (by decide) ?_
                      exact ih4 (r + 1) (by omega)
              refine v_iload (q := 41) hC dL_areSums_39 rfl rfl ?_
              refine v_bipush (q := 43) (v := 10) hC dL_areSums_41 rfl (by decide) ?_
              refine v_icmp_ge (q := 119) (q2 := 46) hC dL_areSums_43 (by decide) rfl (fun c_43 => ?_) (fun c_43 => ?_)
              · exact absurd c_43 (by rw [show (10 : Int32) = nI 10 from rfl]; exact nI_ge (by omega) (by omega))
              · refine v_aload (q := 48) hC dL_areSums_46 rfl rfl ?_
                refine v_iload (q := 50) hC dL_areSums_48 rfl rfl ?_
                refine v_laldP (q := 51) (o := 45) (u := u) hC dL_areSums_50 rfl hi45 (fun a => rfl) hu12 ?_
                refine v_bipush (q := 53) (v := 36) hC dL_areSums_51 rfl (by decide) ?_
                refine v_iconst (q := 54) (v := 4) hC dL_areSums_53 rfl (by decide) ?_
                refine v_iload (q := 56) hC dL_areSums_54 rfl rfl ?_
                refine v_imul (q := 57) hC dL_areSums_56 rfl ?_
                refine v_isub (q := 58) hC dL_areSums_57 rfl ?_
                refine v_lshr (q := 59) hC dL_areSums_58 rfl ?_
                refine v_ldc2 (q := 62) hC co_RL_297 dL_areSums_59 rfl ?_
                refine v_land (q := 63) hC dL_areSums_62 rfl ?_
                refine v_l2i (q := 64) hC dL_areSums_63 rfl ?_
                rw [hset]
                refine v_istore (q := 66) hC dL_areSums_64 rfl (lvc rfl) (Nat.le_of_ble_eq_true rfl) (Nat.le_of_ble_eq_true rfl) rfl ?_
                refine v_iload (q := 68) hC dL_areSums_66 rfl rfl ?_
                refine v_iload (q := 70) hC dL_areSums_68 rfl rfl ?_
                refine v_callSN (q := 73) (rm := rm_L_many) hC (c_L_many hl Θ _ _) k_L_many st_yL_many ml_RL_299 dL_areSums_70 rfl rfl rfl (Nat.le_of_ble_eq_true rfl) ⟨Nat.le_of_ble_eq_true rfl, Nat.le_of_ble_eq_true rfl⟩ (c1 := 0) (s1 := 0) rfl rfl ⟨show _ + 0 ≤ 12 by omega, show _ + 0 ≤ 80 by omega⟩ (fR_k ?_) fR_n
                try dsimp only [Option.toList, List.cons_append, List.nil_append]
                refine v_iadd (q := 74) hC dL_areSums_73 rfl ?_
                refine v_istore (q := 76) hC dL_areSums_74 rfl (lvc rfl) (Nat.le_of_ble_eq_true rfl) (Nat.le_of_ble_eq_true rfl) rfl ?_
                refine v_iconst (q := 77) (v := 0) hC dL_areSums_76 rfl (by decide) ?_
                refine v_istore (q := 79) hC dL_areSums_77 rfl (lvc rfl) (Nat.le_of_ble_eq_true rfl) (Nat.le_of_ble_eq_true rfl) rfl ?_
                exact L3 4 0 rfl
            · have hw : (if ob < k + 1 then u + 1 else u) = (if ob < k then u + 1 else u) := by
                by_cases h9 : ob < k
                · rw [if_pos h9, if_pos (by omega)]
                · rw [if_neg h9, if_neg (by omega)]
              have ih3 := ih2 (k + 1) (nv2 + mSz (mNt (B.2.1 0 30) (20 * u + k)) 20 0 0) (some (.int (mNt (B.2.1 0 30) (20 * u + k)))) (some (.int 0)) (by omega) h5
              rw [hw] at ih3
              refine v_iload (q := 41) hC dL_areSums_39 rfl rfl ?_
              refine v_bipush (q := 43) (v := 10) hC dL_areSums_41 rfl (by decide) ?_
              refine v_icmp_ge (q := 119) (q2 := 46) hC dL_areSums_43 (by decide) rfl (fun c_43 => ?_) (fun c_43 => ?_)
              · exact absurd c_43 (by rw [show (10 : Int32) = nI 10 from rfl]; exact nI_ge (by omega) (by omega))
              · refine v_aload (q := 48) hC dL_areSums_46 rfl rfl ?_
                refine v_iload (q := 50) hC dL_areSums_48 rfl rfl ?_
                refine v_laldP (q := 51) (o := 45) (u := u) hC dL_areSums_50 rfl hi45 (fun a => rfl) hu12 ?_
                refine v_bipush (q := 53) (v := 36) hC dL_areSums_51 rfl (by decide) ?_
                refine v_iconst (q := 54) (v := 4) hC dL_areSums_53 rfl (by decide) ?_
                refine v_iload (q := 56) hC dL_areSums_54 rfl rfl ?_
                refine v_imul (q := 57) hC dL_areSums_56 rfl ?_
                refine v_isub (q := 58) hC dL_areSums_57 rfl ?_
                refine v_lshr (q := 59) hC dL_areSums_58 rfl ?_
                refine v_ldc2 (q := 62) hC co_RL_297 dL_areSums_59 rfl ?_
                refine v_land (q := 63) hC dL_areSums_62 rfl ?_
                refine v_l2i (q := 64) hC dL_areSums_63 rfl ?_
                rw [hset]
                refine v_istore (q := 66) hC dL_areSums_64 rfl (lvc rfl) (Nat.le_of_ble_eq_true rfl) (Nat.le_of_ble_eq_true rfl) rfl ?_
                refine v_iload (q := 68) hC dL_areSums_66 rfl rfl ?_
                refine v_iload (q := 70) hC dL_areSums_68 rfl rfl ?_
                refine v_callSN (q := 73) (rm := rm_L_many) hC (c_L_many hl Θ _ _) k_L_many st_yL_many ml_RL_299 dL_areSums_70 rfl rfl rfl (Nat.le_of_ble_eq_true rfl) ⟨Nat.le_of_ble_eq_true rfl, Nat.le_of_ble_eq_true rfl⟩ (c1 := 0) (s1 := 0) rfl rfl ⟨show _ + 0 ≤ 12 by omega, show _ + 0 ≤ 80 by omega⟩ (fR_k ?_) fR_n
                try dsimp only [Option.toList, List.cons_append, List.nil_append]
                refine v_iadd (q := 74) hC dL_areSums_73 rfl ?_
                refine v_istore (q := 76) hC dL_areSums_74 rfl (lvc rfl) (Nat.le_of_ble_eq_true rfl) (Nat.le_of_ble_eq_true rfl) rfl ?_
                refine v_iconst (q := 77) (v := 0) hC dL_areSums_76 rfl (by decide) ?_
                refine v_istore (q := 79) hC dL_areSums_77 rfl (lvc rfl) (Nat.le_of_ble_eq_true rfl) (Nat.le_of_ble_eq_true rfl) rfl ?_
                refine v_iload (q := 81) hC dL_areSums_79 rfl rfl ?_
                refine v_iconst (q := 82) (v := 4) hC dL_areSums_81 rfl (by decide) ?_
                refine v_icmp_ge (q := 113) (q2 := 85) hC dL_areSums_82 (by decide) rfl (fun c_82 => ?_) (fun c_82 => ?_)
                · exact absurd c_82 (by decide)
                · refine v_iload (q := 87) hC dL_areSums_85 rfl rfl ?_
                  refine v_iload (q := 89) hC dL_areSums_87 rfl rfl ?_
                  refine v_icmp_ne (q := 113) (q2 := 92) hC dL_areSums_89 (by decide) rfl (fun c_89 => ?_) (fun c_89 => ?_)
                  · refine v_iinc (q := 116) (v := nI (k + 1)) hC dL_areSums_113 rfl rfl (nI_1 k) (lvc rfl) (Nat.le_of_ble_eq_true rfl) (Nat.le_of_ble_eq_true rfl) rfl ?_
                    refine v_goto (q := 39) hC dL_areSums_116 (by decide) ?_
                    exact ih3
                  · exact absurd ((nI_eq (by omega) (by omega)).mp c_89) hko
        refine v_iload (q := 29) hC dL_areSums_27 rfl rfl ?_
        refine v_aload (q := 31) hC dL_areSums_29 rfl rfl ?_
        refine v_iconst (q := 32) (v := 0) hC dL_areSums_31 rfl (by decide) ?_
        refine v_ialdV (q := 33) hC dL_areSums_32 rfl rfl rfl (i := 0) (rfl) (by first | decide | omega) (by decide) ((congrFun (r44 _) 0).trans e0) ?_
        refine v_icmp_ge (q := 125) (q2 := 36) hC dL_areSums_33 (by decide) rfl (fun c_33 => ?_) (fun c_33 => ?_)
        · exact absurd c_33 (nI_ge (by omega) (by omega))
        · refine v_iconst (q := 37) (v := 0) hC dL_areSums_36 rfl (by decide) ?_
          refine v_istore (q := 39) hC dL_areSums_37 rfl (lvc rfl) (Nat.le_of_ble_eq_true rfl) (Nat.le_of_ble_eq_true rfl) rfl ?_
          exact L2 10 0 nv _ _ rfl rfl
    have h0 := L1 (mUs (B.2.1 0 30)) 0 0 none none none rfl rfl
    rw [cuR_0, ← h47, putA_self] at h0
    refine v_astore (q := 24) hC dL_areSums_22 rfl (lvc rfl) (Nat.le_of_ble_eq_true rfl) (Nat.le_of_ble_eq_true rfl) rfl ?_
    refine v_iconst (q := 25) (v := 0) hC dL_areSums_24 rfl (by decide) ?_
    refine v_istore (q := 27) hC dL_areSums_25 rfl (lvc rfl) (Nat.le_of_ble_eq_true rfl) (Nat.le_of_ble_eq_true rfl) rfl ?_
    exact h0
  -- the notes
  have S1 : ∀ (Q9 : State → Prop) (Θ : cTH) (B : GS), cC p l s m args meth c cL_areSums 13 yL_areSums.cls Θ → Sim B t → LR B → B.2.2.1 2 = true → noT B.2.2.1 3 → (∀ (b : Nat) (G2 : GS) (LS : List (Option Value)), Sim G2 t → (∀ o, o = 30 ∨ (40 ≤ o ∧ o < 45) → G2.2.1 0 o = B.2.1 0 o) → G2.2.2.1 2 = true → G2.2.2.1 3 = false → G2.2.2.1 4 = true → VG p l e rm_L_areSums s m args below meth c 13 (tU Θ 47 b) Q9 10 64 224 LS [.int 1] G2) → VG p l e rm_L_areSums s m args below meth c 13 Θ Q9 1 12 4 [some (.ref (tR Θ 0 14)), some (.ref (tR Θ 0 40)), some (.ref (tR Θ 0 41)), some (.ref (tR Θ 0 42)), some (.ref (tR Θ 0 44)), some (.int (nI ob)), none, none, none, none, none, none, none] [.ref (tR Θ 0 45)] (B) := by
    intro Q9 Θ B hC hSB hLB hv2 hno kk
    have hLB2 := hLB
    obtain ⟨hD, ⟨e0, us1⟩, e1, e2, -⟩ := hLB
    have hi45 : okI B.2.2.1 0 45 = true := by
      show (false || (true && ((((false || false) || (true && B.2.2.1 2)) || (false && B.2.2.1 3)) || (false && B.2.2.1 4)))) = true
      rw [hv2]; rfl
    refine v_astore (q := 6) hC dL_areSums_4 rfl (lvc rfl) (Nat.le_of_ble_eq_true rfl) (Nat.le_of_ble_eq_true rfl) rfl ?_
    refine v_aload_n (i := 1) (q := 7) hC dL_areSums_6 rfl rfl rfl ?_
    refine v_aload_n (i := 2) (q := 8) hC dL_areSums_7 rfl rfl rfl ?_
    refine v_aload_n (i := 3) (q := 9) hC dL_areSums_8 rfl rfl rfl ?_
    refine v_aload (q := 11) hC dL_areSums_9 rfl rfl ?_
    refine v_aload (q := 13) hC dL_areSums_11 rfl rfl ?_
    refine v_callSN (q := 16) (rm := rm_L_notes) hC (c_L_notes hl Θ 45 _ (Or.inl rfl) hi45 hD e0) k_L_notes st_yL_notes ml_RL_293 dL_areSums_13 rfl rfl rfl (Nat.le_of_ble_eq_true rfl) ⟨Nat.le_of_ble_eq_true rfl, Nat.le_of_ble_eq_true rfl⟩ (c1 := 0) (s1 := 0) rfl rfl ⟨show _ + 0 ≤ 12 by omega, show _ + 0 ≤ 80 by omega⟩ (fR_k ?_) fR_n
    try dsimp only [Option.toList, List.cons_append, List.nil_append]
    refine v_iconst (q := 17) (v := 0) hC dL_areSums_16 rfl (by decide) ?_
    refine v_istore (q := 19) hC dL_areSums_17 rfl (lvc rfl) (Nat.le_of_ble_eq_true rfl) (Nat.le_of_ble_eq_true rfl) rfl ?_
    refine v_iconst (q := 20) (v := 4) hC dL_areSums_19 rfl (by decide) ?_
    refine v_newI (q := 22) hC (fun i h1 h2 => hno i (by omega) h2) dL_areSums_20 rfl (Nat.le_of_ble_eq_true rfl) (Nat.le_of_ble_eq_true rfl) (fun b9 => ?_)
    refine S2 Q9 (tU Θ 47 b9) (tpG (putA B 0 45 (lNt (B.2.1 0 30) (B.2.1 0 45) (mUs (B.2.1 0 30)))) 4) (cC_tu hC 47 b9) ((hSB.pa (by decide)).tp (by decide)) (hLB2.cg fun o ho => (tpG_o _ (by omega)).trans (putA_o _ _ (by omega))) ?_ (tpG_s _ 4) ?_ (tpG_l _ 4) ?_
    · intro u k hu hk
      rw [tpG_o _ (by decide), putA_o _ _ (by decide)] at hu
      rw [tpG_o _ (by decide), tpG_o _ (by decide), putA_same, putA_o _ _ (by decide)]
      unfold lNt
      rw [if_pos (by omega), show (10 * u + k) / 10 = u by omega, show (10 * u + k) % 10 = k by omega]
    · exact (tpG_ln _ (by decide)).trans hv2
    · intro G2 LS z
      refine kk b9 G2 LS z.1 (fun o ho => ?_) ?_ ?_ ?_
      · rcases ho with rfl | ⟨ho1, ho2⟩
        · exact z.w.trans ((putA_o _ _ (by decide)).trans ((tpG_o _ (by decide)).trans (putA_o _ _ (by decide))))
        · exact (z.a ho1 (by omega)).trans ((putA_o _ _ (by omega)).trans ((tpG_o _ (by omega)).trans (putA_o _ _ (by omega))))
      · rw [z.2.2.2]; exact (tpG_ln _ (by decide)).trans hv2
      · rw [z.2.2.2]; exact (tpG_ln _ (by decide)).trans (hno 3 (by decide) (by decide))
      · rw [z.2.2.2]; exact tpG_l _ 4
  refine v_bipush (q := 2) (v := 12) hC dL_areSums_0 rfl (by decide) ?_
  refine v_newJ (q := 4) (j := 2) hC (Or.inl rfl) hlv dL_areSums_2 rfl (Nat.le_of_ble_eq_true rfl) (Nat.le_of_ble_eq_true rfl) (fun a9 => ?_)
  refine S1 _ (tU Θ 45 a9) (tpG G 2) (cC_tu hC 45 a9) (hS.tp (by decide)) (hL.cg fun o ho => tpG_o _ (by omega)) (tpG_l _ 2) (fun i h1 h2 => (tpG_ln _ (by omega)).trans (hlv i (by omega) h2)) ?_
  intro b9 G2 LS g1 g2 g3 g4 g5
  refine v_drop (j := 4) (by decide) (fun i h1 h2 => absurd h1 (by omega)) g5 ?_
  refine v_drop (j := 2) (by decide) (fun i h1 h2 => ?_) ((dpG_ln _ (by decide)).trans g3) ?_
  · by_cases h9 : i = 4
    · subst h9; exact dpG_l _ 4
    · rw [dpG_ln _ h9, show i = 3 by omega]; exact g4
  · refine v_iret hC dL_areSums_224 hr (by rfl) ⟨rfl, (g1.dp (by decide)).dp (by decide), (g2 30 (Or.inl rfl)).trans (tpG_o _ (by decide)), fun o h1 h2 => (g2 o (Or.inr ⟨h1, h2⟩)).trans (tpG_o _ (by omega)), fun i h1 h2 => ?_⟩ (Nat.le_of_ble_eq_true rfl) (Nat.le_of_ble_eq_true rfl)
    by_cases h8 : i = 2
    · subst h8; exact dpG_l _ 2
    · rw [dpG_ln _ h8]
      by_cases h9 : i = 4
      · subst h9; exact dpG_l _ 4
      · rw [dpG_ln _ h9, show i = 3 by omega]; exact g4
