/-! The start: what the tables say; the law from its entry. -/
theorem tq_1 {w : Cond} (h : w ∈ tables_1_1) : w ∈ lw_tbl := List.mem_append_right _ (List.mem_append_left _ h)
theorem tq_2 {w : Cond} (h : w ∈ tables_1_2) : w ∈ lw_tbl := List.mem_append_right _ (List.mem_append_right _ (List.mem_append_left _ h))
theorem tq_3 {w : Cond} (h : w ∈ tables_1_3) : w ∈ lw_tbl := List.mem_append_right _ (List.mem_append_right _ (List.mem_append_right _ (List.mem_append_left _ h)))
theorem tq_4 {w : Cond} (h : w ∈ tables_1_4) : w ∈ lw_tbl := List.mem_append_right _ (List.mem_append_right _ (List.mem_append_right _ (List.mem_append_right _ (List.mem_append_left _ h))))
theorem tq_5 {w : Cond} (h : w ∈ tables_1_5) : w ∈ lw_tbl := List.mem_append_right _ (List.mem_append_right _ (List.mem_append_right _ (List.mem_append_right _ (List.mem_append_right _ (List.mem_append_left _ h)))))
theorem tq_6 {w : Cond} (h : w ∈ tables_1_6) : w ∈ lw_tbl := List.mem_append_right _ (List.mem_append_right _ (List.mem_append_right _ (List.mem_append_right _ (List.mem_append_right _ (List.mem_append_right _ (h))))))
section START
variable {args : Array Value} {s : State}
theorem st_nest (hts : ∀ w ∈ lw_tbl, w.before args s = true) : ∀ w ∈ nestW, va_Nw w s :=
  (List.forall_mem_cons.mpr ⟨va_Nw.of rfl (hts _ (tq_1 (List.mem_of_getElem? (i := 33) rfl))), (List.forall_mem_cons.mpr ⟨va_Nw.of rfl (hts _ (tq_1 (List.mem_of_getElem? (i := 39) rfl))), (List.forall_mem_cons.mpr ⟨va_Nw.of rfl (hts _ (tq_1 (List.mem_of_getElem? (i := 84) rfl))), (List.forall_mem_cons.mpr ⟨va_Nw.of rfl (hts _ (tq_1 (List.mem_of_getElem? (i := 97) rfl))), (List.forall_mem_cons.mpr ⟨va_Nw.of rfl (hts _ (tq_1 (List.mem_of_getElem? (i := 150) rfl))), (List.forall_mem_cons.mpr ⟨va_Nw.of rfl (hts _ (tq_1 (List.mem_of_getElem? (i := 163) rfl))), (List.forall_mem_cons.mpr ⟨va_Nw.of rfl (hts _ (tq_1 (List.mem_of_getElem? (i := 179) rfl))), (List.forall_mem_cons.mpr ⟨va_Nw.of rfl (hts _ (tq_1 (List.mem_of_getElem? (i := 195) rfl))), (List.forall_mem_cons.mpr ⟨va_Nw.of rfl (hts _ (tq_1 (List.mem_of_getElem? (i := 208) rfl))), (List.forall_mem_cons.mpr ⟨va_Nw.of rfl (hts _ (tq_2 (List.mem_of_getElem? (i := 38) rfl))), (List.forall_mem_cons.mpr ⟨va_Nw.of rfl (hts _ (tq_2 (List.mem_of_getElem? (i := 122) rfl))), (List.forall_mem_cons.mpr ⟨va_Nw.of rfl (hts _ (tq_2 (List.mem_of_getElem? (i := 229) rfl))), (List.forall_mem_cons.mpr ⟨va_Nw.of rfl (hts _ (tq_3 (List.mem_of_getElem? (i := 26) rfl))), (List.forall_mem_cons.mpr ⟨va_Nw.of rfl (hts _ (tq_3 (List.mem_of_getElem? (i := 168) rfl))), (List.forall_mem_cons.mpr ⟨va_Nw.of rfl (hts _ (tq_3 (List.mem_of_getElem? (i := 174) rfl))), (List.forall_mem_cons.mpr ⟨va_Nw.of rfl (hts _ (tq_3 (List.mem_of_getElem? (i := 187) rfl))), (List.forall_mem_cons.mpr ⟨va_Nw.of rfl (hts _ (tq_3 (List.mem_of_getElem? (i := 199) rfl))), (List.forall_mem_cons.mpr ⟨va_Nw.of rfl (hts _ (tq_4 (List.mem_of_getElem? (i := 11) rfl))), (List.forall_mem_cons.mpr ⟨va_Nw.of rfl (hts _ (tq_4 (List.mem_of_getElem? (i := 20) rfl))), (List.forall_mem_cons.mpr ⟨va_Nw.of rfl (hts _ (tq_4 (List.mem_of_getElem? (i := 22) rfl))), (List.forall_mem_cons.mpr ⟨va_Nw.of rfl (hts _ (tq_4 (List.mem_of_getElem? (i := 204) rfl))), (List.forall_mem_cons.mpr ⟨va_Nw.of rfl (hts _ (tq_5 (List.mem_of_getElem? (i := 51) rfl))), (List.forall_mem_cons.mpr ⟨va_Nw.of rfl (hts _ (tq_5 (List.mem_of_getElem? (i := 109) rfl))), (List.forall_mem_cons.mpr ⟨va_Nw.of rfl (hts _ (tq_5 (List.mem_of_getElem? (i := 114) rfl))), (List.forall_mem_cons.mpr ⟨va_Nw.of rfl (hts _ (tq_6 (List.mem_of_getElem? (i := 13) rfl))), (fun _ h => absurd h List.not_mem_nil)⟩)⟩)⟩)⟩)⟩)⟩)⟩)⟩)⟩)⟩)⟩)⟩)⟩)⟩)⟩)⟩)⟩)⟩)⟩)⟩)⟩)⟩)⟩)⟩)⟩)
theorem st_exc (hts : ∀ w ∈ lw_tbl, w.before args s = true) : ∀ w ∈ excW, va_Nw w s :=
  (List.forall_mem_cons.mpr ⟨va_Nw.of rfl (hts _ (tq_2 (List.mem_of_getElem? (i := 43) rfl))), (List.forall_mem_cons.mpr ⟨va_Nw.of rfl (hts _ (tq_2 (List.mem_of_getElem? (i := 44) rfl))), (List.forall_mem_cons.mpr ⟨va_Nw.of rfl (hts _ (tq_2 (List.mem_of_getElem? (i := 45) rfl))), (List.forall_mem_cons.mpr ⟨va_Nw.of rfl (hts _ (tq_2 (List.mem_of_getElem? (i := 46) rfl))), (List.forall_mem_cons.mpr ⟨va_Nw.of rfl (hts _ (tq_2 (List.mem_of_getElem? (i := 47) rfl))), (List.forall_mem_cons.mpr ⟨va_Nw.of rfl (hts _ (tq_2 (List.mem_of_getElem? (i := 48) rfl))), (List.forall_mem_cons.mpr ⟨va_Nw.of rfl (hts _ (tq_2 (List.mem_of_getElem? (i := 49) rfl))), (List.forall_mem_cons.mpr ⟨va_Nw.of rfl (hts _ (tq_3 (List.mem_of_getElem? (i := 127) rfl))), (List.forall_mem_cons.mpr ⟨va_Nw.of rfl (hts _ (tq_4 (List.mem_of_getElem? (i := 218) rfl))), (fun _ h => absurd h List.not_mem_nil)⟩)⟩)⟩)⟩)⟩)⟩)⟩)⟩)⟩)
theorem st_str {own tx : String} {k cur : Nat} (hcur : s.vm.findClass own = some cur) (h : (Cond.stringRef own k tx).before args s = true) : ∃ a : Nat, vk_R own k tx a s := by
  obtain ⟨k9, cf, i, a, -, -, -, -, -, h6⟩ := Cond.stringRef_spec hcur h
  exact ⟨a, vk_R.of h h6⟩
theorem st_txt (hts : ∀ w ∈ lw_tbl, w.before args s = true) {cur : Nat} (hcur : s.vm.findClass RX11 = some cur) : ∀ q ∈ txtW, ∃ a : Nat, vk_R RX11 q.1 q.2 a s :=
  (List.forall_mem_cons.mpr ⟨st_str hcur (hts _ (tq_2 (List.mem_of_getElem? (i := 82) rfl))), (List.forall_mem_cons.mpr ⟨st_str hcur (hts _ (tq_2 (List.mem_of_getElem? (i := 117) rfl))), (List.forall_mem_cons.mpr ⟨st_str hcur (hts _ (tq_2 (List.mem_of_getElem? (i := 212) rfl))), (List.forall_mem_cons.mpr ⟨st_str hcur (hts _ (tq_3 (List.mem_of_getElem? (i := 55) rfl))), (List.forall_mem_cons.mpr ⟨st_str hcur (hts _ (tq_3 (List.mem_of_getElem? (i := 134) rfl))), (List.forall_mem_cons.mpr ⟨st_str hcur (hts _ (tq_4 (List.mem_of_getElem? (i := 170) rfl))), (List.forall_mem_cons.mpr ⟨st_str hcur (hts _ (tq_4 (List.mem_of_getElem? (i := 225) rfl))), (List.forall_mem_cons.mpr ⟨st_str hcur (hts _ (tq_5 (List.mem_of_getElem? (i := 34) rfl))), (List.forall_mem_cons.mpr ⟨st_str hcur (hts _ (tq_5 (List.mem_of_getElem? (i := 46) rfl))), (List.forall_mem_cons.mpr ⟨st_str hcur (hts _ (tq_5 (List.mem_of_getElem? (i := 65) rfl))), (List.forall_mem_cons.mpr ⟨st_str hcur (hts _ (tq_5 (List.mem_of_getElem? (i := 77) rfl))), (List.forall_mem_cons.mpr ⟨st_str hcur (hts _ (tq_5 (List.mem_of_getElem? (i := 89) rfl))), (List.forall_mem_cons.mpr ⟨st_str hcur (hts _ (tq_5 (List.mem_of_getElem? (i := 104) rfl))), (List.forall_mem_cons.mpr ⟨st_str hcur (hts _ (tq_5 (List.mem_of_getElem? (i := 134) rfl))), (List.forall_mem_cons.mpr ⟨st_str hcur (hts _ (tq_5 (List.mem_of_getElem? (i := 151) rfl))), (List.forall_mem_cons.mpr ⟨st_str hcur (hts _ (tq_5 (List.mem_of_getElem? (i := 172) rfl))), (List.forall_mem_cons.mpr ⟨st_str hcur (hts _ (tq_5 (List.mem_of_getElem? (i := 200) rfl))), (List.forall_mem_cons.mpr ⟨st_str hcur (hts _ (tq_6 (List.mem_of_getElem? (i := 21) rfl))), (fun _ h => absurd h List.not_mem_nil)⟩)⟩)⟩)⟩)⟩)⟩)⟩)⟩)⟩)⟩)⟩)⟩)⟩)⟩)⟩)⟩)⟩)⟩)
theorem st_nc (hs : ∀ w ∈ flatC (Jvm.Cond.and given_1 narrow_1), w.before args s = true) : ∀ q ∈ ncW, va_Nc q.1 q.2 s :=
  (List.forall_mem_cons.mpr ⟨va_Nc.of (hs (.not (.castable "java/lang/IllegalStateException" "java/lang/IndexOutOfBoundsException")) (by decide +kernel)), (List.forall_mem_cons.mpr ⟨va_Nc.of (hs (.not (.castable "java/lang/IllegalStateException" "java/lang/IllegalArgumentException")) (by decide +kernel)), (List.forall_mem_cons.mpr ⟨va_Nc.of (hs (.not (.castable "java/lang/IndexOutOfBoundsException" "java/lang/IllegalStateException")) (by decide +kernel)), (List.forall_mem_cons.mpr ⟨va_Nc.of (hs (.not (.castable "java/lang/IndexOutOfBoundsException" "java/lang/IllegalArgumentException")) (by decide +kernel)), (List.forall_mem_cons.mpr ⟨va_Nc.of (hs (.not (.castable "java/lang/IllegalArgumentException" "java/lang/IllegalStateException")) (by decide +kernel)), (List.forall_mem_cons.mpr ⟨va_Nc.of (hs (.not (.castable "java/lang/IllegalArgumentException" "java/lang/IndexOutOfBoundsException")) (by decide +kernel)), (fun _ h => absurd h List.not_mem_nil)⟩)⟩)⟩)⟩)⟩)⟩)
theorem st_arr {ty : FieldType} (h : (Cond.arrayClass ty).before args s = true) : ∃ cA kA comp, s.vm.findClass ("[" ++ ty.toString) = some cA ∧ s.vm.classes[cA]? = some kA ∧ kA.kind = .array comp ty := Cond.arrayClass_spec h
set_option maxHeartbeats 2000000 in
set_option maxRecDepth 20000 in
theorem st_world (hts : ∀ w ∈ lw_tbl, w.before args s = true) (hs : ∀ w ∈ flatC (Jvm.Cond.and given_1 narrow_1), w.before args s = true) : ∃ Θ : cTH, tB Θ = s.heap.size ∧ cK Θ s ∧ cZ Θ s s.heap ∧ va_AO RX9 s := by
  have htw : ∀ w ∈ wALL, w.before args s = true := fun w hw => hts w (wALL_tbl w hw)
  have hO : va_AO RX9 s := hts _ (tq_1 (List.mem_of_getElem? (i := 149) rfl))
  obtain ⟨c0, i0, hk0⟩ := u_known (C := RX0) (T := TX0) (N := 4) (n := 4) htw inl0 (htw _ ia_RX0)
  obtain ⟨c1, i1, hk1⟩ := u_known (C := RX2) (T := TX2) (N := 3) (n := 3) htw inl2 (htw _ ia_RX2)
  obtain ⟨c2, i2, hk2⟩ := u_known (C := RX3) (T := TX3) (N := 3) (n := 3) htw inl3 (htw _ ia_RX3)
  obtain ⟨c3, i3, hk3⟩ := u_known (C := RX4) (T := TX4) (N := 3) (n := 3) htw inl4 (htw _ ia_RX4)
  obtain ⟨c4, i4, hk4⟩ := u_known (C := RX5) (T := TX5) (N := 4) (n := 4) htw inl5 (htw _ ia_RX5)
  obtain ⟨c5, i5, hk5⟩ := u_known (C := RX6) (T := TX6) (N := 2) (n := 2) htw inl6 (htw _ ia_RX6)
  obtain ⟨c6, i6, hk6⟩ := u_known (C := RX7) (T := TX7) (N := 5) (n := 5) htw inl7 (htw _ ia_RX7)
  obtain ⟨c7, i7, hk7⟩ := u_known (C := RX8) (T := TX8) (N := 2) (n := 2) htw inl8 (htw _ ia_RX8)
  obtain ⟨c8, i8, hk8⟩ := u_known (C := RX9) (T := TX9) (N := 4) (n := 4) htw inl9 (htw _ ia_RX9)
  obtain ⟨c9, i9, hk9⟩ := u_known (C := RX10) (T := TX10) (N := 5) (n := 5) htw inl10 (htw _ ia_RX10)
  obtain ⟨c10, i10, hk10⟩ := u_known (C := RX11) (T := TX11) (N := 7) (n := 7) htw inl11 (htw _ ia_RX11)
  obtain ⟨cI, kI, oI, a1, a2, a3⟩ := st_arr (hts _ (tq_1 (List.mem_of_getElem? (i := 59) rfl)))
  obtain ⟨cJ, kJ, oJ, j1, j2, j3⟩ := st_arr (hts _ (tq_4 (List.mem_of_getElem? (i := 106) rfl)))
  obtain ⟨oS, cS9, kS, d1, d2, d3, d4, d5⟩ := Cond.arrayOver_spec hO
  have hA : ∀ a : Nat, a < s.heap.size → ¬ (fun q : Nat => s.heap.size ≤ q) a := fun a h h2 => by
    have h3 : s.heap.size ≤ a := h2
    omega
  obtain ⟨cur, _, hcur, _⟩ := Cond.instantiable_spec (htw _ ia_RX11)
  refine ⟨(((fun k => if k = 0 then c0 else if k = 1 then c1 else if k = 2 then c2 else if k = 3 then c3 else if k = 4 then c4 else if k = 5 then c5 else if k = 6 then c6 else if k = 7 then c7 else if k = 8 then c8 else if k = 9 then c9 else c10, fun k => if k = 0 then i0 else if k = 1 then i1 else if k = 2 then i2 else if k = 3 then i3 else if k = 4 then i4 else if k = 5 then i5 else if k = 6 then i6 else if k = 7 then i7 else if k = 8 then i8 else if k = 9 then i9 else i10), cI, cI, cS9, cJ), fun _ _ => 0, s.heap.size), rfl, ⟨⟨?_, ?_⟩, st_nest hts, st_exc hts, st_txt hts hcur, trivial, st_nc hs⟩, ⟨vx_Zqof (hts _ (tq_2 (List.mem_of_getElem? (i := 68) rfl))) (hts _ (tq_1 (List.mem_of_getElem? (i := 12) rfl))) (hs _ (by decide +kernel)) hA, vx_Zqof (hts _ (tq_2 (List.mem_of_getElem? (i := 70) rfl))) (hts _ (tq_1 (List.mem_of_getElem? (i := 12) rfl))) (hs _ (by decide +kernel)) hA, trivial⟩, hO⟩
  · intro k q hq
    match k, hq with
    | 0, hq => cases hq; exact hk0
    | 1, hq => cases hq; exact hk1
    | 2, hq => cases hq; exact hk2
    | 3, hq => cases hq; exact hk3
    | 4, hq => cases hq; exact hk4
    | 5, hq => cases hq; exact hk5
    | 6, hq => cases hq; exact hk6
    | 7, hq => cases hq; exact hk7
    | 8, hq => cases hq; exact hk8
    | 9, hq => cases hq; exact hk9
    | 10, hq => cases hq; exact hk10
    | k + 11, hq => simp [vwCl] at hq
  · intro k q hq
    match k, hq with
    | 0, hq => cases hq; exact ⟨fun n z => ⟨fun k h => (by cases h), kI, a2, oI, a3⟩, a1⟩
    | 1, hq => cases hq; exact ⟨fun n z => ⟨fun k h => (by cases h), kS, d3, oS, d4⟩, kS, oS, d3, d4, d1, d5⟩
    | 2, hq => cases hq; exact ⟨fun n z => ⟨fun k h => (by cases h), kJ, j2, oJ, j3⟩, j1⟩
    | k + 3, hq => simp at hq
end START
section ZST
variable {p : Program} {l : Launch} {e : Env} {R : Room} {s : State} {m : MethodId} {args : Array Value} {below : List Frame} {meth : Method} {c : Code} {cc : ByteArray} {nL : Nat} {own : String} {Θ : cTH} {Q9 : State → Prop} {k n pc q : Nat} {LS : List (Option Value)} {rest : List Value} {ws : va_W}
theorem z_astore (hC : cC p l s m args meth c cc nL own Θ) {i : Nat} {x : Nat} {LS2 : List (Option Value)} (d : decode cc pc = .ok (.astore i, 2)) (hq : pc + 2 = q) (hc : lvC LS i) (hn : i < nL) (hi2 : i < LS.length) (h2 : LS.set i (some (.ref x)) = LS2) (kk : VL p l e R s m args below meth c nL Θ Q9 k n q LS2 rest ws) : VL p l e R s m args below meth c nL Θ Q9 k n pc LS (.ref x :: rest) ws := by
  subst hq; subst h2; exact z_lift (fun H locs ls Q hl w => lv_astore hC.1 hC.2.1 d hl hn rfl (fun ls2 h9 => w ls2 (lvH_set hc h9 hi2))) kk
end ZST
set_option maxHeartbeats 8000000 in
set_option maxRecDepth 20000 in
theorem whole_start {p : Program} {e : Env} {s : State} {m : MethodId} {below : List Frame} {meth : Method} {c : Code} (l : Launch) (hflags : l.flags = flags0) {b L : Nat} {xs : Nat → Int32} (hL : L ≤ 260) (C0 : lw_At p s m meth c b L xs) : W p l e room_1 s m #[Value.ref b] below meth c s.heap [] 0 0 (lw_Z below #[Value.ref b] s) (entryFrame m ([Value.ref b] : List Value).toArray 13) := by
  obtain ⟨hx, hb, hr, hml, hown, hts, hX, hbl, hlocks, hgv⟩ := id C0
  have hs := flat_of_before _ hgv
  have hl9 : l.stackTraces = false := by
    unfold Launch.stackTraces
    rw [hflags]
    decide +kernel
  obtain ⟨Θ, hB, hK, hZ, hO⟩ := st_world hts hs
  have hC : cC p l s m #[Value.ref b] meth c cL_law 13 RL Θ := ⟨hx, hb, hml, hown, fun w hw => hts w (wALL_tbl w hw), hlocks, hK, hl9, fun z => absurd rfl z, hZ, Nat.le_of_eq hB⟩
  have hend : ∀ (Θ2 : cTH) (hB2 : tB Θ2 = s.heap.size) (G : GS) (LS : List (Option Value)), VG p l e room_1 s m #[Value.ref b] below meth c 13 Θ2 (lw_Z below #[Value.ref b] s) 672488 7084235 404 LS [.int 1] G := by
    intro Θ2 hB2 G LS H locs ls hH hS hl
    refine va_forget (fun q hq => ?_) ?_
    · have h1 : tB Θ2 ≤ q.base := hS.2.2 q hq
      omega
    · exact lw_ret (d0 := s.drawn) (Drawn.sameBut.refl s.drawn lw_cs) hx hb hr hlocks dL_law_404
  obtain ⟨h1, h2⟩ := lvH_entry (as := [.ref b]) (n := 13) rfl (Nat.le_of_ble_eq_true rfl)
  have hls := h2 _ (lv_entry [.ref b] h1)
  rw [lg_entry_eq]
  have goalL : VL p l e room_1 s m #[Value.ref b] below meth c 13 Θ (lw_Z below #[Value.ref b] s) 0 0 0 [some (.ref b), none, none, none, none, none, none, none, none, none, none, none, none] [] [] := by
    refine z_new (ci := 10) (C := RX11) (T := TX11) (N := 7) (ty := tyX11) (fs := [.null, .null, .null, .null, .null, .null, .null]) (q := 3) hC dL_law_0 rfl rfl inl11 cl_RL_10 ia_RX11 in_RX11 tyX11_ok (fun j hj => by rcases (show j = 0 ∨ j = 1 ∨ j = 2 ∨ j = 3 ∨ j = 4 ∨ j = 5 ∨ j = 6 by omega) with rfl | rfl | rfl | rfl | rfl | rfl | rfl <;> rfl) (Nat.le_of_ble_eq_true rfl) (Nat.le_of_ble_eq_true rfl) (fun x9 => ?_)
    refine z_dup (q := 4) hC dL_law_3 rfl rfl ?_
    refine z_callI (q := 7) (rm := rz_X11) hC hO (z_X11_init hl9 Θ [] x9) k_X11_init im_yX11_init rfl ml_RL_396 dL_law_4 rfl rfl rfl (Nat.le_of_ble_eq_true rfl) ⟨Nat.le_of_ble_eq_true rfl, Nat.le_of_ble_eq_true rfl⟩ ⟨Nat.le_of_ble_eq_true rfl, Nat.le_of_ble_eq_true rfl⟩ ?_
    rintro r4 w4 ⟨rfl, f0, hw, f1, f2, f3, f4, f5, a2, a3, a4, a4_1, a4_2, a4_3, a5, a5_1, a5_2, a6, a6_1, a7, a7_1, rfl⟩
    show VL _ _ _ _ _ _ _ _ _ _ _ _ _ _ _ 7 _ (_ :: _) _
    refine z_astore_n (i := 1) (q := 8) hC dL_law_7 rfl rfl (lvc rfl) (Nat.le_of_ble_eq_true rfl) (Nat.le_of_ble_eq_true rfl) rfl ?_
    rw [List.nil_append]
    refine z_bipush (q := 10) (v := 16) hC dL_law_8 rfl (by decide) ?_
    refine z_newi (N := 16) (q := 12) hC dL_law_10 rfl (by decide) (by decide) (Nat.le_of_ble_eq_true rfl) (Nat.le_of_ble_eq_true rfl) (Nat.le_of_ble_eq_true rfl) (fun rm => ?_)
    refine z_astore_n (i := 2) (q := 13) hC dL_law_12 rfl rfl (lvc rfl) (Nat.le_of_ble_eq_true rfl) (Nat.le_of_ble_eq_true rfl) rfl ?_
    refine z_bipush (q := 15) (v := 50) hC dL_law_13 rfl (by decide) ?_
    refine z_newi (N := 50) (q := 17) hC dL_law_15 rfl (by decide) (by decide) (Nat.le_of_ble_eq_true rfl) (Nat.le_of_ble_eq_true rfl) (Nat.le_of_ble_eq_true rfl) (fun rp => ?_)
    rw [List.append_assoc]
    refine z_astore_n (i := 3) (q := 18) hC dL_law_17 rfl rfl (lvc rfl) (Nat.le_of_ble_eq_true rfl) (Nat.le_of_ble_eq_true rfl) rfl ?_
    refine z_bipush (q := 20) (v := 60) hC dL_law_18 rfl (by decide) ?_
    refine z_newi (N := 60) (q := 22) hC dL_law_20 rfl (by decide) (by decide) (Nat.le_of_ble_eq_true rfl) (Nat.le_of_ble_eq_true rfl) (Nat.le_of_ble_eq_true rfl) (fun re => ?_)
    rw [List.append_assoc]
    refine z_astore (q := 24) hC dL_law_22 rfl (lvc rfl) (Nat.le_of_ble_eq_true rfl) (Nat.le_of_ble_eq_true rfl) rfl ?_
    refine z_bipush (q := 26) (v := 8) hC dL_law_24 rfl (by decide) ?_
    refine z_newi (N := 8) (q := 28) hC dL_law_26 rfl (by decide) (by decide) (Nat.le_of_ble_eq_true rfl) (Nat.le_of_ble_eq_true rfl) (Nat.le_of_ble_eq_true rfl) (fun rl => ?_)
    rw [List.append_assoc]
    refine z_astore (q := 30) hC dL_law_28 rfl (lvc rfl) (Nat.le_of_ble_eq_true rfl) (Nat.le_of_ble_eq_true rfl) rfl ?_
    refine z_iconst (q := 31) (v := 5) hC dL_law_30 rfl (by decide) ?_
    refine z_newi (N := 5) (q := 33) hC dL_law_31 rfl (by decide) (by decide) (Nat.le_of_ble_eq_true rfl) (Nat.le_of_ble_eq_true rfl) (Nat.le_of_ble_eq_true rfl) (fun rt => ?_)
    rw [List.append_assoc]
    refine z_astore (q := 35) hC dL_law_33 rfl (lvc rfl) (Nat.le_of_ble_eq_true rfl) (Nat.le_of_ble_eq_true rfl) rfl ?_
    intro H locs ls hH hS hl
    have hCL : cC p l s m #[Value.ref b] meth c cL_law 13 RL (thL Θ x9 f0 hw f1 f2 f3 f4 f5 a2 a3 a4 a4_1 a4_2 a4_3 a5 a5_1 a5_2 a6 a6_1 a7 a7_1 rm rp re rl rt) := hC
    have key := law_rows (e := e) (below := below) (b := b) (Q9 := lw_Z below #[Value.ref b] s) hCL (law_loop (e := e) (below := below) (Q9 := lw_Z below #[Value.ref b] s) hl9 hCL hX (show b < tB Θ by rw [hB]; exact hbl) hL (hend _ hB) 60 0 0 _ rfl (Nat.le_refl 0) sim1 lr1 (fun _ _ _ => rfl))
    exact W.widen (k := 200) (n := 6000) (Nat.le_of_ble_eq_true rfl) (Nat.le_of_ble_eq_true rfl) (key H locs ls ⟨allL_P x9 f0 hw f1 f2 f3 f4 f5 a2 a3 a4 a4_1 a4_2 a4_3 a5 a5_1 a5_2 a6 a6_1 a7 a7_1 rm rp re rl rt hH.1, allL_D x9 f0 hw f1 f2 f3 f4 f5 a2 a3 a4 a4_1 a4_2 a4_3 a5 a5_1 a5_2 a6 a6_1 a7 a7_1 rm rp re rl rt hH.2⟩ hS hl)
  refine goalL s.heap [] _ ⟨fun k q h => by simp at h, ⟨fun i j p q h => by simp at h, fun k q h => by simp at h⟩⟩ va_S.rf (lvH_sub hls ?_)
  intro i v hi
  match i, hi with
  | 0, hi => exact hi
  | 1, hi => cases hi
  | 2, hi => cases hi
  | 3, hi => cases hi
  | 4, hi => cases hi
  | 5, hi => cases hi
  | 6, hi => cases hi
  | 7, hi => cases hi
  | 8, hi => cases hi
  | 9, hi => cases hi
  | 10, hi => cases hi
  | 11, hi => cases hi
  | 12, hi => cases hi
  | i + 13, hi => cases hi
