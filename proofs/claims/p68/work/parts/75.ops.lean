/-! the log; how an operation is held against the model's -/
theorem Rel.log {K : GS} {w : Nat → Int32} {t : Nat} (h : Rel (K.1 0) (K.2.1 0) w t) (u o : Int32) (b : Bool) (ht : t < 2 ^ 20) : Rel ((sLog u o b K).1 0) ((sLog u o b K).2.1 0) (mLog w u o b) (t + 1) := by
  obtain ⟨q, h1, h2, h3, h4, h5, h6⟩ := h.lg
  have hpl : lPlace (K.1 0 11 0 + 1) 0 = nI (q % 8) := by
    unfold lPlace
    rw [h2, nI_1, show (8 : Int32) = nI 8 from rfl, show nI (q + 1) - 1 = nI q from nI_pred q, Int32.sub_zero, jMod_nI (by omega) (by decide) (by decide)]
  have hq8 : q % 8 < 8 := Nat.mod_lt _ (by decide)
  have f0 : (sLog u o b K).1 0 11 0 = nI (q + 1) := by
    unfold sLog; (try dsimp only)
    rw [putF_k _ _ (by decide), putA_fld, putA_fld, putF_k _ _ (by decide), putF_v, h2, nI_1]
  have f1 : (sLog u o b K).1 0 11 1 = K.1 0 11 1 + (if b = true then 0 else 1) := by
    unfold sLog; (try dsimp only)
    rw [putF_k _ _ (by decide), putA_fld, putA_fld, putF_v]
  have f2 : (sLog u o b K).1 0 11 2 = jChg (K.1 0 11 2) (nI (q % 8)) b := by
    unfold sLog; try dsimp only
    rw [putF_v, hpl]
  have fo : ∀ f, ¬ f = 11 → (sLog u o b K).1 0 f = K.1 0 f := by
    intro f hf
    unfold sLog; try dsimp only
    rw [putF_o _ _ _ hf]
    show (putF (putF K 0 11 0 (K.1 0 11 0 + 1)) 0 11 1 _).1 0 f = _
    rw [putF_o _ _ _ hf, putF_o _ _ _ hf]
  have a12 : (sLog u o b K).2.1 0 12 = upd (K.2.1 0 12) (q % 8) u := by
    unfold sLog; try dsimp only
    rw [hpl, nI_clamp (by omega)]
    rfl
  have a13 : (sLog u o b K).2.1 0 13 = upd (K.2.1 0 13) (q % 8) o := by
    unfold sLog; try dsimp only
    rw [hpl, nI_clamp (by omega)]
    rfl
  have ao : ∀ f, f < 12 → (sLog u o b K).2.1 0 f = K.2.1 0 f := by
    intro f hf
    unfold sLog; try dsimp only
    show (putA (putA (putF (putF K 0 11 0 (K.1 0 11 0 + 1)) 0 11 1 _) 0 12 _) 0 13 _).2.1 0 f = _
    rw [putA_o _ _ (by omega), putA_o _ _ (by omega)]
    rfl
  have wl : ∀ x, x < 738 → mLog w u o b x = w x := by
    intro x hx
    unfold mLog mL5 mL4 mL3
    rw [upd_n (by omega), upd_n (by omega), upd_n (by omega), upd_n (by omega), upd_n (by omega), upd_n (by omega), mLgK, if_neg (by omega)]
  have e762 : mL3 w u o b 762 = w 762 := by
    unfold mL3
    rw [upd_n (by decide), upd_n (by decide), upd_n (by decide), mLgK, if_neg (by omega)]
  have e763 : mL4 w u o b 763 = w 763 := by
    unfold mL4 mL3
    rw [upd_n (by decide), upd_n (by decide), upd_n (by decide), upd_n (by decide), mLgK, if_neg (by omega)]
  have e764 : mL5 w u o b 764 = w 764 := by
    unfold mL5 mL4 mL3
    rw [upd_n (by decide), upd_n (by decide), upd_n (by decide), upd_n (by decide), upd_n (by decide), mLgK, if_neg (by omega)]
  have w762 : mLog w u o b 762 = nI (min 8 (q + 1)) := by
    unfold mLog mL5 mL4
    rw [upd_n (by decide), upd_n (by decide), upd_s, e762, h5]
    by_cases hc : q < 8
    · rw [if_pos (show nI (min 8 q) < 8 from nI_lt (b := 8) (by omega) (by decide)), nI_1]
      refine congrArg nI ?_; omega
    · rw [if_neg (show ¬ nI (min 8 q) < 8 from nI_nlt (b := 8) (by omega) (by omega)), Int32.add_zero]
      refine congrArg nI ?_; omega
  have w763 : mLog w u o b 763 = nI (q + 1) := by
    unfold mLog mL5
    rw [upd_n (by decide), upd_s, e763, h3, nI_1]
  have w764 : mLog w u o b 764 = w 764 + (if b = true then 0 else 1) := by
    unfold mLog
    rw [upd_s, e764]
  have w3 : ∀ x, x < 762 → mLog w u o b x = mL3 w u o b x := by
    intro x hx
    unfold mLog mL5 mL4
    rw [upd_n (by omega), upd_n (by omega), upd_n (by omega)]
  refine ⟨rUG_congr h.1 (by rw [fo 1 (by decide)]) (by rw [fo 1 (by decide)]) (fun _ _ => by rw [ao 2 (by decide)]) (fun _ _ => by rw [ao 3 (by decide)]) (fun x hx => wl x (by omega)), rTr_congr h.2.1 (by rw [fo 4 (by decide)]) (by rw [fo 4 (by decide)]) (fun _ _ => by rw [ao 5 (by decide), ao 6 (by decide), ao 7 (by decide)]; exact ⟨rfl, rfl, rfl⟩) (fun _ _ _ _ => wl _ (by unfold oA; omega)), rLs_congr h.2.2.1 (fun _ ho => h.ok.ct6 ho) (fun _ _ => by rw [ao 9 (by decide)]) (fun _ _ => by rw [ao 10 (by decide)]) (fun _ _ => ⟨wl _ (by unfold oA; omega), wl _ (by unfold oA; omega), fun _ _ _ _ => wl _ (by unfold enA; omega)⟩), ⟨q + 1, by omega, f0, w763, by rw [f1, w764, h4], w762, fun a ha => ?_⟩, mOk_congr h.ok wl⟩
  rw [a12, a13, f2, w3 _ (by omega), w3 _ (by omega), w3 _ (by omega), jChg_bt _ (by omega) b (by have := Nat.mod_lt (q + 1 - 1 - a) (show 0 < 8 by decide); omega)]
  by_cases ha0 : a = 0
  · subst ha0
    have e : (q + 1 - 1 - 0) % 8 = q % 8 := by omega
    rw [e, upd_s, upd_s, if_pos rfl]
    unfold mL3
    refine ⟨?_, ?_, ?_⟩
    · rw [upd_n (by decide), upd_n (by decide), upd_s]
    · rw [upd_n (by decide), upd_s]
    · rw [upd_s]; cases b <;> rfl
  · have hne : ¬ (q + 1 - 1 - a) % 8 = q % 8 := by omega
    have e : (q + 1 - 1 - a) % 8 = (q - 1 - (a - 1)) % 8 := by omega
    have h9 := h6 (a - 1) (by omega)
    have m3 : ∀ x, 741 ≤ x → x < 762 → mL3 w u o b x = w (x - 3) := by
      intro x h1 h2
      unfold mL3
      rw [upd_n (by omega), upd_n (by omega), upd_n (by omega), mLgK, if_pos (by omega)]
    rw [upd_n hne, upd_n hne, if_neg hne, m3 _ (by omega) (by omega), m3 _ (by omega) (by omega), m3 _ (by omega) (by omega), e, show 738 + 3 * a - 3 = 738 + 3 * (a - 1) by omega, show 739 + 3 * a - 3 = 739 + 3 * (a - 1) by omega, show 740 + 3 * a - 3 = 740 + 3 * (a - 1) by omega]
    exact h9
theorem Rel.place {F A : Nat → Nat → Int32} {w : Nat → Int32} {t : Nat} (h : Rel F A w t) (ht : t < 2 ^ 20) : ∃ q, q ≤ t ∧ F 11 0 = nI q ∧ w 763 = nI q ∧ w 762 = nI (min 8 q) ∧ (if (8 : Int32) < F 11 0 then 8 else F 11 0) = nI (min 8 q) ∧ ∀ a, a < min 8 q → A 12 (lPlace (F 11 0) (nI a)).toNatClampNeg = w (738 + 3 * a) ∧ A 13 (lPlace (F 11 0) (nI a)).toNatClampNeg = w (739 + 3 * a) ∧ jHas (F 11 2) (lPlace (F 11 0) (nI a)) = decide (w (740 + 3 * a) = 1) := by
  obtain ⟨q, h1, h2, h3, h4, h5, h6⟩ := h.lg
  refine ⟨q, h1, h2, h3, h5, ?_, fun a ha => ?_⟩
  · rw [h2]
    by_cases hc : 8 < q
    · rw [if_pos (show (8 : Int32) < nI q from nI_lt (a := 8) hc (by omega)), show min 8 q = 8 by omega]; rfl
    · rw [if_neg (show ¬ (8 : Int32) < nI q from nI_nlt (a := 8) (by omega) (by decide)), show min 8 q = q by omega]
  · have e : lPlace (F 11 0) (nI a) = nI ((q - 1 - a) % 8) := by
      unfold lPlace
      rw [h2, nI_m1 (by omega), pk_sub (by omega), show (8 : Int32) = nI 8 from rfl, jMod_nI (by omega) (by decide) (by decide)]
    have h8 : (q - 1 - a) % 8 < 8 := Nat.mod_lt _ (by decide)
    rw [e, nI_clamp (by omega), jHas_bt _ (by omega)]
    exact h6 a ha
/-- an end where all is alike -/
def Leaf (f : Int32 → Int64) (x : Int32) (t : Nat) (o2 : cOut) (G2 : GS) : Prop := ∃ y, o2 = .inl (some (.int y)) ∧ f y = f x ∧ G2.2.2.2 = f x ∧ G2.1 0 29 5 = 0 ∧ Sim G2 t
/-- the class's operation (Qc, from G) and the model's (Qm) end alike -/
def OpI (G : GS) (f : Int32 → Int64) (cs : List String) (Qc : cOut → GS → Prop) (Qm : GS → cOut → GS → Prop) (t : Nat) : Prop :=
  (∀ v G1, Qc (.inl v) G1 → ∃ x, v = some (.int x) ∧ AgC G G1 ∧ ∀ o2 G2, Qm (setO G1 (f x)) o2 G2 → Leaf f x t o2 G2) ∧
  (∀ E G1, Qc (.inr E) G1 → E ∈ cs ∧ AgC G G1 ∧ ∀ o2 G2, Qm G1 o2 G2 → ∃ y, o2 = .inl (some (.int y)) ∧ G2.1 0 29 5 = cdE cs 1 E ∧ Sim G2 t)
/-- the class read only -/
def AgR (G G1 : GS) : Prop := (AgX G G1 ∧ AgP G G1) ∧ AgC G G1 ∧ SmR (G.1 0) (G.2.1 0) (G1.1 0) (G1.2.1 0)
theorem AgR.refl (G : GS) : AgR G G := ⟨⟨AgX.refl G, AgP.refl G⟩, AgC.refl G, SmR.refl _ _⟩
theorem AgR.w {G G1 : GS} (h : AgR G G1) : G1.2.1 0 30 = G.2.1 0 30 := h.2.1.2 30 (by decide) (by decide)
theorem SmR.trans {F A F2 A2 F3 A3 : Nat → Nat → Int32} (h : SmR F A F2 A2) (h2 : SmR F2 A2 F3 A3) : SmR F A F3 A3 := by
  obtain ⟨⟨a1, a2, a3, a4, a5, a6, a7⟩, b1, b2, b3, b4, b5, b6, b7, b8, b9⟩ := h
  obtain ⟨⟨c1, c2, c3, c4, c5, c6, c7⟩, d1, d2, d3, d4, d5, d6, d7, d8, d9⟩ := h2
  exact ⟨⟨c1.trans a1, c2.trans a2, c3.trans a3, c4.trans a4, c5.trans a5, c6.trans a6, c7.trans a7⟩, d1.trans b1, d2.trans b2, d3.trans b3, d4.trans b4, d5.trans b5, d6.trans b6, d7.trans b7, d8.trans b8, d9.trans b9⟩
theorem AgR.trans {G G1 G2 : GS} (h : AgR G G1) (h2 : AgR G1 G2) : AgR G G2 := ⟨⟨h.1.1.trans h2.1.1, h.1.2.trans h2.1.2⟩, h.2.1.trans h2.2.1, h.2.2.trans h2.2.2⟩
theorem SmR.f {F A : Nat → Nat → Int32} {G : GS} (h : SmR F A (G.1 0) (G.2.1 0)) {o k : Nat} {v : Int32} (ho : ¬ o = 1 ∧ ¬ o = 4 ∧ ¬ o = 11) : SmR F A ((putF G 0 o k v).1 0) ((putF G 0 o k v).2.1 0) := by
  obtain ⟨⟨a1, a2, a3, a4, a5, a6, a7⟩, b⟩ := h
  have e1 := putF_o G (o := o) (o2 := 1) k v (fun z => ho.1 z.symm)
  have e4 := putF_o G (o := o) (o2 := 4) k v (fun z => ho.2.1 z.symm)
  have e11 := putF_o G (o := o) (o2 := 11) k v (fun z => ho.2.2 z.symm)
  exact ⟨by rw [e1, e4, e11]; exact ⟨a1, a2, a3, a4, a5, a6, a7⟩, b⟩
theorem SmR.a {F A : Nat → Nat → Int32} {G : GS} (h : SmR F A (G.1 0) (G.2.1 0)) {o : Nat} {a : Nat → Int32} (ho : 14 ≤ o) : SmR F A ((putA G 0 o a).1 0) ((putA G 0 o a).2.1 0) := by
  obtain ⟨a1, b1, b2, b3, b4, b5, b6, b7, b8, b9⟩ := h
  exact ⟨a1, by rw [putA_o _ _ (by omega)]; exact b1, by rw [putA_o _ _ (by omega)]; exact b2, by rw [putA_o _ _ (by omega)]; exact b3, by rw [putA_o _ _ (by omega)]; exact b4, by rw [putA_o _ _ (by omega)]; exact b5, by rw [putA_o _ _ (by omega)]; exact b6, by rw [putA_o _ _ (by omega)]; exact b7, by rw [putA_o _ _ (by omega)]; exact b8, by rw [putA_o _ _ (by omega)]; exact b9⟩
theorem AgR.f {G G1 : GS} (h : AgR G G1) {o k : Nat} {v : Int32} (ho : o = 22 ∨ o = 27) : AgR G (putF G1 0 o k v) := ⟨⟨h.1.1.f (by omega), h.1.2.f (by omega)⟩, h.2.1.f (by omega), h.2.2.f (by omega)⟩
theorem AgR.a {G G1 : GS} (h : AgR G G1) {o : Nat} {a : Nat → Int32} (ho : 14 ≤ o ∧ o < 30 ∧ ¬ o = 26) : AgR G (putA G1 0 o a) := ⟨⟨h.1.1.a (by omega), h.1.2.a (by omega)⟩, h.2.1.a (by omega), h.2.2.a (by omega)⟩
theorem AgR.jS_ {G G1 : GS} (h : AgR G G1) (a b : Nat → Int32) : AgR G (jS G1 a b) := (h.a (o := 19) (by decide)).a (o := 20) (by decide)
theorem AgR.hP_ {G G1 : GS} (h : AgR G G1) (q : hT) : AgR G (hP G1 q) := ((h.f (o := 22) (Or.inl rfl)).a (o := 23) (by decide)).a (o := 24) (by decide)
theorem Sim.agR {G G1 : GS} {t t2 : Nat} (h : Sim G t) (ha : AgR G G1) (ht : t ≤ t2) : Sim G1 t2 :=
  h.ag ha.1.1 (h.2.2.2.ag ha.1.2) (by rw [ha.w]; exact h.1.congr ha.2.2 (fun _ _ => rfl) ht) ht
theorem Sim.ms_ {G : GS} {t t2 : Nat} (h : Sim G t) (k : Int32) (ht : t ≤ t2) : Sim (ms k G) t2 :=
  h.ag ((AgX.refl G).f (by decide)) (h.2.2.2.ag ((AgP.refl G).f (by decide))) (h.1.congr ((SmR.refl _ _).f (by decide)) (fun _ _ => rfl) ht) ht
theorem Sim.setO_ {G : GS} {t : Nat} (h : Sim G t) (v : Int64) : Sim (setO G v) t := h
theorem ms_5 (k : Int32) (G : GS) : (ms k G).1 0 29 5 = k := putF_v _ _ _ _
/-! guards -/
theorem OpI.t {G : GS} {f : Int32 → Int64} {cs : List String} {b : Bool} {E : String} {X : cOut → GS → Prop} {G9 : GS} {Qm : GS → cOut → GS → Prop} {t : Nat} (hb : b = true) (h : OpI G f cs X Qm t) : OpI G f cs (gt b E X G9) Qm t := by
  rw [gt_t hb]; exact h
/-- the class throws, the model fails -/
theorem OpI.n {G G9 : GS} {f : Int32 → Int64} {cs : List String} {b : Bool} {E : String} {X : cOut → GS → Prop} {Qm : GS → cOut → GS → Prop} {t t2 : Nat} {k : Int32} (hS : Sim G t) (ht : t ≤ t2) (hb : b = false) (hE : E ∈ cs) (hk : cdE cs 1 E = k) (hR : AgR G G9) (hm : ∀ o2 G2, Qm G9 o2 G2 → o2 = .inl (some (.int 0)) ∧ G2 = ms k G9) : OpI G f cs (gt b E X G9) Qm t2 := by
  refine ⟨fun v G1 h => ?_, fun E1 G1 h => ?_⟩
  · unfold gt at h
    rw [if_neg (by rw [hb]; decide)] at h
    cases h.1
  · unfold gt at h
    rw [if_neg (by rw [hb]; decide)] at h
    obtain ⟨h1, rfl⟩ := h
    cases h1
    refine ⟨hE, hR.2.1, fun o2 G2 h2 => ?_⟩
    obtain ⟨rfl, rfl⟩ := hm o2 G2 h2
    exact ⟨0, rfl, by rw [ms_5, hk], (hS.agR hR ht).ms_ k (Nat.le_refl _)⟩
theorem mg_n {b : Bool} {k : Int32} {X : cOut → GS → Prop} {G : GS} (h : b = false) {o2 : cOut} {G2 : GS} (h2 : mg b k X G o2 G2) : o2 = .inl (some (.int 0)) ∧ G2 = ms k G := by
  unfold mg at h2
  rw [if_neg (by rw [h]; decide)] at h2
  exact h2
theorem OpI.l {G G1 : GS} {f : Int32 → Int64} {cs : List String} {Qm : GS → cOut → GS → Prop} {t : Nat} {x : Int32} (hC : AgC G G1) (h : ∀ o2 G2, Qm (setO G1 (f x)) o2 G2 → Leaf f x t o2 G2) : OpI G f cs (fR (some (.int x)) G1) Qm t := by
  refine ⟨fun v G9 h9 => ?_, fun E G9 h9 => ?_⟩
  · obtain ⟨h1, rfl⟩ := h9
    cases h1
    exact ⟨x, rfl, hC, h⟩
  · cases h9.1
/-- a reader's end: the model answers y -/
theorem OpI.r {G G1 : GS} {f : Int32 → Int64} {cs : List String} {Qm : GS → cOut → GS → Prop} {t t2 : Nat} {x y : Int32} (hS : Sim G t) (ht : t ≤ t2) (hR : AgR G G1) (e : f y = f x) (hm : ∀ o2 G2, Qm (setO G1 (f x)) o2 G2 → o2 = .inl (some (.int y)) ∧ G2 = ms 0 (setO G1 (f x))) : OpI G f cs (fR (some (.int x)) G1) Qm t2 := by
  refine OpI.l hR.2.1 fun o2 G2 h2 => ?_
  obtain ⟨rfl, rfl⟩ := hm o2 G2 h2
  exact ⟨y, rfl, e, rfl, ms_5 _ _, ((hS.agR hR ht).setO_ _).ms_ 0 (Nat.le_refl _)⟩
theorem OpI.jq {G G9 : GS} {f : Int32 → Int64} {cs : List String} {Qm : GS → cOut → GS → Prop} {t : Nat} {v : Option Value} (h : ∀ a b, OpI G f cs (fR v (jS G9 a b)) Qm t) : OpI G f cs (jQ v G9) Qm t := by
  refine ⟨fun v1 G1 h1 => ?_, fun E G1 h1 => ?_⟩
  · obtain ⟨h2, a, b, rfl⟩ := h1
    cases h2
    exact (h a b).1 v _ ⟨rfl, rfl⟩
  · cases h1.1
