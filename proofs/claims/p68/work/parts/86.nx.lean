/-! What the class's answers are, in the model's row; what stays as it was. -/
/-- only what no cell holds has changed -/
def Gh (G G2 : GS) : Prop := (∀ r o, ¬ (r = 0 ∧ 29 ≤ o ∧ o < 40) → G2.1 r o = G.1 r o ∧ G2.2.1 r o = G.2.1 r o) ∧ G2.2.2.1 = G.2.2.1
theorem Gh.refl (G : GS) : Gh G G := ⟨fun _ _ _ => ⟨rfl, rfl⟩, rfl⟩
theorem Gh.trans {G G2 G3 : GS} (h : Gh G G2) (h2 : Gh G2 G3) : Gh G G3 := ⟨fun r o hn => ⟨(h2.1 r o hn).1.trans (h.1 r o hn).1, (h2.1 r o hn).2.trans (h.1 r o hn).2⟩, h2.2.trans h.2⟩
theorem Gh.f {G G2 : GS} (h : Gh G G2) {o k : Nat} {v : Int32} (ho : 29 ≤ o ∧ o < 40) : Gh G (putF G2 0 o k v) := h.trans ⟨fun r o2 hn => ⟨by
  show (if r = 0 ∧ o2 = o then _ else G2.1 r o2) = G2.1 r o2
  rw [if_neg (fun z => hn ⟨z.1, by omega, by omega⟩)], rfl⟩, rfl⟩
theorem Gh.a {G G2 : GS} (h : Gh G G2) {o : Nat} {a : Nat → Int32} (ho : 29 ≤ o ∧ o < 40) : Gh G (putA G2 0 o a) := h.trans ⟨fun r o2 hn => ⟨rfl, by
  show (if r = 0 ∧ o2 = o then _ else G2.2.1 r o2) = G2.2.1 r o2
  rw [if_neg (fun z => hn ⟨z.1, by omega, by omega⟩)]⟩, rfl⟩
theorem Gh.o {G G2 : GS} (h : Gh G G2) {v : Int64} : Gh G (setO G2 v) := h.trans ⟨fun _ _ _ => ⟨rfl, rfl⟩, rfl⟩
theorem Gh.ms_ {G G2 : GS} (h : Gh G G2) (k : Int32) : Gh G (ms k G2) := h.f (by decide)
theorem Gh.mC_ {G G2 : GS} (h : Gh G G2) : Gh G (mC G2) := h.trans ⟨fun r o hn => ⟨mC_f _ (fun z => hn ⟨z.1, by omega, by omega⟩), mC_a _ (fun z => hn ⟨z.1, by omega, by omega⟩)⟩, congrArg Prod.fst (mC_lv G2)⟩
theorem Gh.wr {G G2 : GS} (h : Gh G G2) (w : Nat → Int32) : Gh G (mWr w G2) := h.a (by decide)
theorem Gh.up {G G2 : GS} (h : Gh G G2) (i : Nat) (x : Int32) : Gh G (mUp i x G2) := h.a (by decide)
theorem ids_gh {lv : Nat → Bool} {x : Nat × Nat} (h : x ∈ ids lv) : ¬ (x.1 = 0 ∧ 29 ≤ x.2 ∧ x.2 < 40) := by
  have hf : ∀ r2 : Nat, x ∈ fam r2 → x.2 < 14 := by
    intro r2 h2
    obtain ⟨i, hi, e⟩ := List.mem_map.mp h2
    have h9 := List.mem_range.mp hi
    rw [← e]; exact h9
  have ht : ∀ {b : Bool} {l : List (Nat × Nat)}, x ∈ tmp b l → x ∈ l := by
    intro b l hx
    cases b with
    | true => exact hx
    | false => cases hx
  rintro ⟨h0, h1, h2⟩
  unfold ids at h
  rcases List.mem_append.mp h with h | h
  · obtain ⟨r2, -, h3⟩ := List.mem_flatMap.mp h
    have := hf r2 h3
    omega
  rcases List.mem_append.mp h with h | h
  · obtain ⟨i, hi, e⟩ := List.mem_map.mp h
    have h9 := List.mem_range.mp hi
    rw [← e] at h1
    have h8 : 29 ≤ i + 14 := h1
    omega
  rcases List.mem_append.mp h with h | h
  · obtain ⟨i, hi, e⟩ := List.mem_map.mp h
    rw [← e] at h2
    have h8 : i + 40 < 40 := h2
    omega
  rcases List.mem_append.mp h with h | h
  · have := hf 6 (ht h); omega
  rcases List.mem_append.mp h with h | h
  · have := hf 7 (ht h); omega
  rcases List.mem_append.mp h with h | h
  · rw [List.mem_singleton.mp (ht h)] at h2
    exact absurd (show 45 < 40 from h2) (by decide)
  rcases List.mem_append.mp h with h | h
  · rw [List.mem_singleton.mp (ht h)] at h2
    exact absurd (show 46 < 40 from h2) (by decide)
  · rw [List.mem_singleton.mp (ht h)] at h2
    exact absurd (show 47 < 40 from h2) (by decide)
theorem cellS_g (Θ : cTH) (r o : Nat) (F A : Nat → Int32) (g g2 : (Nat → Bool) × Int64) : cellS Θ r o F A g = cellS Θ r o F A g2 := by
  unfold cellS; rfl
theorem cW_gh {Θ : cTH} {G G2 : GS} (h : Gh G G2) : cW Θ G2 = cW Θ G := by
  unfold cW
  rw [h.2]
  refine map_app9 fun x hx => ?_
  obtain ⟨h1, h2⟩ := h.1 x.1 x.2 (ids_gh hx)
  rw [h1, h2, cellS_g Θ _ _ _ _ G2.2.2 G.2.2]
theorem cG_gh {Θ : cTH} {G G2 : GS} {H : Heap} (h : Gh G G2) (hG : cG Θ G H) : cG Θ G2 H := by
  unfold cG
  rw [cW_gh h]
  exact hG
/-- the world after answers alone: the model's row and the law's rows as they were -/
def Nx (G G1 : GS) (t : Nat) : Prop := Sim G1 t ∧ G1.2.1 0 30 = G.2.1 0 30 ∧ (∀ o, 40 ≤ o → o < 48 → G1.2.1 0 o = G.2.1 0 o) ∧ G1.2.2.1 = G.2.2.1
theorem Nx.refl {G : GS} {t : Nat} (h : Sim G t) : Nx G G t := ⟨h, rfl, fun _ _ _ => rfl, rfl⟩
theorem Nx.trans {G G1 G2 : GS} {t t2 : Nat} (h : Nx G G1 t) (h2 : Nx G1 G2 t2) : Nx G G2 t2 := ⟨h2.1, h2.2.1.trans h.2.1, fun o h3 h4 => (h2.2.2.1 o h3 h4).trans (h.2.2.1 o h3 h4), h2.2.2.2.trans h.2.2.2⟩
theorem Nx.w {G G1 : GS} {t : Nat} (h : Nx G G1 t) : G1.2.1 0 30 = G.2.1 0 30 := h.2.1
theorem Nx.a {G G1 : GS} {t : Nat} (h : Nx G G1 t) {o : Nat} (h1 : 40 ≤ o) (h2 : o < 48) : G1.2.1 0 o = G.2.1 0 o := h.2.2.1 o h1 h2
theorem NxR {G G1 : GS} {t : Nat} (h : Nx G G1 t) {o i : Nat} {v : Int32} (h1 : 40 ≤ o) (h2 : o < 48) (e : G.2.1 0 o i = v) : G1.2.1 0 o i = v := by rw [h.a h1 h2]; exact e
theorem Nx.ag {G G1 G2 : GS} {t t2 : Nat} (h : Nx G G1 t) (ha : AgC G1 G2) (hS : Sim G2 t2) : Nx G G2 t2 := ⟨hS, (ha.2 30 (by decide) (by decide)).trans h.2.1, fun o h1 h2 => (ha.2 o (by omega) h2).trans (h.2.2.1 o h1 h2), ha.1.2.trans h.2.2.2⟩
def rQ (G : GS) (t : Nat) (v : Int32) : cOut → GS → Prop := fun o G1 => o = .inl (some (.int v)) ∧ Nx G G1 t
theorem rQ_k {G : GS} {t : Nat} {v : Int32} {P : Option Value → GS → Prop} (h : ∀ G1, Nx G G1 t → P (some (.int v)) G1) : ∀ r G9, rQ G t v (.inl r) G9 → P r G9 := by
  rintro r G9 ⟨h1, h2⟩
  cases h1
  exact h G9 h2
theorem rQ_n {G : GS} {t : Nat} {v : Int32} : ∀ E G9, rQ G t v (.inr E) G9 → False := by
  rintro E G9 ⟨h1, -⟩
  cases h1
/-- a contract whose end is read as P; cells that no cell holds may be written anew -/
def CtR (l : Launch) (y : MethodName) (cc : ByteArray) (n : Nat) (ret : Option FieldType) (hh : List (Nat × Nat × Nat × Nat)) (rm : Room) (Θ : cTH) (as : List Value) (G : GS) (P : cOut → GS → Prop) : Prop :=
  ∃ Q : cOut → GS → Prop, CtH l y cc n ret hh rm Θ as G Q ∧ ∀ o G1, Q o G1 → ∃ G2, Gh G1 G2 ∧ P o G2
def CtV (l : Launch) (y : MethodName) (cc : ByteArray) (n : Nat) (ret : Option FieldType) (rm : Room) (Θ : cTH) (as : List Value) (G : GS) (P : cOut → GS → Prop) : Prop :=
  ∃ Q : cOut → GS → Prop, Ct l y cc n ret rm Θ as G Q ∧ ∀ o G1, Q o G1 → ∃ G2, Gh G1 G2 ∧ P o G2
section CTR
variable {p : Program} {l : Launch} {e : Env} {R : Room} {s : State} {m : MethodId} {args : Array Value} {below : List Frame} {meth : Method} {c : Code} {cc : ByteArray} {nL : Nat} {own : String} {Θ : cTH} {Q9 : State → Prop} {k n pc q : Nat} {LS : List (Option Value)} {st rest : List Value} {G : GS}
theorem v_callR (hC : cC p l s m args meth c cc nL own Θ) {y : MethodName} {cy : ByteArray} {nY na : Nat} {ret : Option FieldType} {hh : List (Nat × Nat × Nat × Nat)} {rm : Room} {idx : Nat} {As : List Value} {P : cOut → GS → Prop} (hX : CtR l y cy nY ret hh rm Θ As G P) (ky : kH y cy nY ret hh na) (hml : Cond.methodLink own idx y ∈ wALL) (d : decode cc pc = .ok (.invokestatic idx, 3)) (hq : pc + 3 = q)
    (hna : As.length = na) (hst : st = As.reverse ++ rest) (hsz : (rest.map fun v => v.category).sum ≤ 8) (hR : rm.frames + 1 ≤ R.frames ∧ 8 + (nY + 11) + rm.locals ≤ R.locals) {c1 s1 : Nat} (hc1 : rm.cells = c1) (hs1 : rm.slots = s1) (hcs : k + c1 ≤ R.cells ∧ n + s1 ≤ R.slots)
    (kk : ∀ (v : Option Value) (G1 : GS), P (.inl v) G1 → VG p l e R s m args below meth c nL Θ Q9 (k + c1) (n + s1) q LS (v.toList ++ rest) G1) (kn : ∀ (E : String) (G1 : GS), P (.inr E) G1 → False) : VG p l e R s m args below meth c nL Θ Q9 k n pc LS st G := by
  obtain ⟨Q, hM, hP⟩ := hX
  refine v_callSH hC hM ky hml d hq hna hst hsz hR hc1 hs1 hcs (fun v G1 h => ?_) (fun E G1 h => ?_)
  · obtain ⟨G2, hg, h2⟩ := hP _ _ h
    exact fun H locs ls hH hS hl => kk v G2 h2 H locs ls (cG_gh hg hH) hS hl
  · obtain ⟨G2, hg, h2⟩ := hP _ _ h
    exact kn E G2 h2
theorem v_callVR (hC : cC p l s m args meth c cc nL own Θ) {y : MethodName} {cy : ByteArray} {nY na : Nat} {ret : Option FieldType} {rm : Room} {idx r o ci N : Nat} {T : u_T} {fs As : List Value} {P : cOut → GS → Prop} (hX : CtV l y cy nY ret rm Θ (.ref (tR Θ r o) :: As) G P) (ky : kY y cy nY ret na) (him : Cond.instanceMethod y ∈ wALL) (hse : Cond.selects y.cls y y ∈ wALL) (hml : Cond.methodLink own idx y ∈ wALL) (d : decode cc pc = .ok (.invokevirtual idx, 3)) (hq : pc + 3 = q)
    (hid : okI G.2.2.1 r o = true) (hce : cellS Θ r o (G.1 r o) (G.2.1 r o) G.2.2 = .inr (ci, fs)) (hcl : vwCl[ci]? = some (y.cls, T, N)) (hna : As.length = na) (hst : st = As.reverse ++ .ref (tR Θ r o) :: rest) (hsz : (rest.map fun v => v.category).sum ≤ 8) (hR : rm.frames + 1 ≤ R.frames ∧ 8 + (nY + 11) + rm.locals ≤ R.locals) {c1 s1 : Nat} (hc1 : rm.cells = c1) (hs1 : rm.slots = s1) (hcs : k + c1 ≤ R.cells ∧ n + s1 ≤ R.slots)
    (kk : ∀ (v : Option Value) (G1 : GS), P (.inl v) G1 → VG p l e R s m args below meth c nL Θ Q9 (k + c1) (n + s1) q LS (v.toList ++ rest) G1) (kn : ∀ (E : String) (G1 : GS), P (.inr E) G1 → False) : VG p l e R s m args below meth c nL Θ Q9 k n pc LS st G := by
  obtain ⟨Q, hM, hP⟩ := hX
  refine v_callVN hC hM ky him hse hml d hq hid hce hcl hna hst hsz hR hc1 hs1 hcs (fun v G1 h => ?_) (fun E G1 h => ?_)
  · obtain ⟨G2, hg, h2⟩ := hP _ _ h
    exact fun H locs ls hH hS hl => kk v G2 h2 H locs ls (cG_gh hg hH) hS hl
  · obtain ⟨G2, hg, h2⟩ := hP _ _ h
    exact kn E G2 h2
end CTR
theorem mem1 {a E : String} (h : E ∈ [a]) : E = a := List.mem_singleton.mp h
theorem mem2 {a b E : String} (h : E ∈ [a, b]) : E = a ∨ E = b := by
  rcases List.mem_cons.mp h with h | h
  · exact Or.inl h
  · exact Or.inr (mem1 h)
theorem mem3 {a b c E : String} (h : E ∈ [a, b, c]) : E = a ∨ E = b ∨ E = c := by
  rcases List.mem_cons.mp h with h | h
  · exact Or.inl h
  · exact Or.inr (mem2 h)
theorem cd1 {a : String} : ∀ E ∈ [a], ¬ cdE [a] 1 E = 0 := by
  intro E h
  rw [mem1 h]
  simp only [cdE, if_pos]
  decide
theorem cd2 {a b : String} : ∀ E ∈ [a, b], ¬ cdE [a, b] 1 E = 0 := by
  intro E h
  simp only [cdE]
  by_cases h1 : E = a
  · rw [if_pos h1]; decide
  · rw [if_neg h1]
    by_cases h2 : E = b
    · rw [if_pos h2]; decide
    · rw [if_neg h2]; decide
theorem cd3 {a b c : String} : ∀ E ∈ [a, b, c], ¬ cdE [a, b, c] 1 E = 0 := by
  intro E h
  simp only [cdE]
  by_cases h1 : E = a
  · rw [if_pos h1]; decide
  · rw [if_neg h1]
    by_cases h2 : E = b
    · rw [if_pos h2]; decide
    · rw [if_neg h2]
      by_cases h3 : E = c
      · rw [if_pos h3]; decide
      · rw [if_neg h3]; decide
theorem OpI.v {G : GS} {f : Int32 → Int64} {cs : List String} {Qc : cOut → GS → Prop} {Qm : GS → cOut → GS → Prop} {t : Nat} (h : OpI G f cs Qc Qm t) : ∀ r G1, Qc (.inl r) G1 → ∃ x : Int32, r = some (.int x) := fun r G1 h1 => by
  obtain ⟨x, e, _⟩ := h.1 r G1 h1
  exact ⟨x, e⟩
theorem Sim.unms {Y : GS} {k : Int32} {t : Nat} (h : Sim (ms k Y) t) : Sim Y t := by
  have h2 := h.ms_ (Y.1 0 29 5) (Nat.le_refl _)
  unfold ms at h2
  rw [putF_putF, putF_self] at h2
  exact h2
theorem gI_f {x y : Int32} (h : fI y = fI x) : gI x = gI y := by
  unfold fI at h
  unfold gI
  have h2 := congrArg Int64.toInt h
  rw [Int32.toInt_toInt64, Int32.toInt_toInt64] at h2
  exact (Int32.toInt_inj.mp h2).symm
theorem gZ_f {x y : Int32} (h : fZ y = fZ x) : gZ x = gZ y := by
  unfold fZ at h
  unfold gZ
  by_cases hx : x = 0
  · rw [if_pos hx] at h ⊢
    by_cases hy : y = 0
    · rw [if_pos hy]
    · rw [if_neg hy] at h; exact absurd h (by decide)
  · rw [if_neg hx] at h ⊢
    by_cases hy : y = 0
    · rw [if_pos hy] at h; exact absurd h (by decide)
    · rw [if_neg hy]
theorem gZ_b (b : Bool) : gZ (b2i b) = b2i b := by cases b <;> rfl
/-- a reader's end: k 0, the model's answer; else the number of the throw -/
theorem rd_gen {G G0 : GS} {t : Nat} {f : Int32 → Int64} {g : Int32 → Int32} {cs : List String} {Qc : cOut → GS → Prop} {Qm : GS → cOut → GS → Prop} {v : Int32} (hO : OpI G f cs Qc Qm t) (h0 : Nx G0 G t) (hg : ∀ x y, f y = f x → g x = g y) (hcs : ∀ E ∈ cs, ¬ cdE cs 1 E = 0) (hQ : ∀ Y : GS, Y.2.1 0 30 = G0.2.1 0 30 → ∃ k y : Int32, Qm Y (.inl (some (.int y))) (ms k Y) ∧ v = if k = 0 then g y else -100 - k) : ∀ o G1, wP g cs Qc o G1 → ∃ G2, Gh G1 G2 ∧ rQ G0 t v o G2 := by
  intro o G1 h
  refine ⟨G1, Gh.refl _, ?_⟩
  rcases h with ⟨x, G9, h1, rfl, rfl⟩ | ⟨E, G9, h1, rfl, rfl⟩
  · obtain ⟨x2, e2, hA, h2⟩ := hO.1 _ _ h1
    cases e2
    obtain ⟨k, y, h3, h4⟩ := hQ (setO G1 (f x)) ((hA.2 30 (by decide) (by decide)).trans h0.w)
    obtain ⟨y2, e3, e4, -, e6, e7⟩ := h2 _ _ h3
    cases e3
    rw [ms_5] at e6
    subst e6
    refine ⟨?_, h0.ag hA (Sim.unms e7)⟩
    rw [h4, if_pos rfl, hg _ _ e4]
  · obtain ⟨hE, hA, h2⟩ := hO.2 _ _ h1
    obtain ⟨k, y, h3, h4⟩ := hQ G1 ((hA.2 30 (by decide) (by decide)).trans h0.w)
    obtain ⟨y2, e3, e4, e5⟩ := h2 _ _ h3
    rw [ms_5] at e4
    subst e4
    refine ⟨?_, h0.ag hA (Sim.unms e5)⟩
    rw [h4, if_neg (hcs E hE)]
