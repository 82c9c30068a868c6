/-! The start: what the tables say; the law from its entry. -/
theorem tq_1 {w : Cond} (h : w ∈ tables_1_1) : w ∈ lw_tbl := List.mem_append_right _ (List.mem_append_left _ h)
theorem tq_2 {w : Cond} (h : w ∈ tables_1_2) : w ∈ lw_tbl := List.mem_append_right _ (List.mem_append_right _ (List.mem_append_left _ h))
theorem tq_3 {w : Cond} (h : w ∈ tables_1_3) : w ∈ lw_tbl := List.mem_append_right _ (List.mem_append_right _ (List.mem_append_right _ (List.mem_append_left _ h)))
theorem tq_4 {w : Cond} (h : w ∈ tables_1_4) : w ∈ lw_tbl := List.mem_append_right _ (List.mem_append_right _ (List.mem_append_right _ (List.mem_append_right _ (List.mem_append_left _ h))))
theorem tq_5 {w : Cond} (h : w ∈ tables_1_5) : w ∈ lw_tbl := List.mem_append_right _ (List.mem_append_right _ (List.mem_append_right _ (List.mem_append_right _ (List.mem_append_right _ (List.mem_append_left _ h)))))
theorem tq_6 {w : Cond} (h : w ∈ tables_1_6) : w ∈ lw_tbl := List.mem_append_right _ (List.mem_append_right _ (List.mem_append_right _ (List.mem_append_right _ (List.mem_append_right _ (List.mem_append_right _ (List.mem_append_left _ h))))))
theorem tq_7 {w : Cond} (h : w ∈ tables_1_7) : w ∈ lw_tbl := List.mem_append_right _ (List.mem_append_right _ (List.mem_append_right _ (List.mem_append_right _ (List.mem_append_right _ (List.mem_append_right _ (List.mem_append_right _ (List.mem_append_left _ h)))))))
theorem tq_8 {w : Cond} (h : w ∈ tables_1_8) : w ∈ lw_tbl := List.mem_append_right _ (List.mem_append_right _ (List.mem_append_right _ (List.mem_append_right _ (List.mem_append_right _ (List.mem_append_right _ (List.mem_append_right _ (List.mem_append_right _ (h))))))))
section START
variable {args : Array Value} {s : State}
theorem st_nest (hts : ∀ w ∈ lw_tbl, w.before args s = true) : ∀ w ∈ nestW, va_Nw w s :=
  (List.forall_mem_cons.mpr ⟨va_Nw.of rfl (hts _ (tq_1 (List.mem_of_getElem? (i := 38) rfl))), (List.forall_mem_cons.mpr ⟨va_Nw.of rfl (hts _ (tq_1 (List.mem_of_getElem? (i := 44) rfl))), (List.forall_mem_cons.mpr ⟨va_Nw.of rfl (hts _ (tq_1 (List.mem_of_getElem? (i := 89) rfl))), (List.forall_mem_cons.mpr ⟨va_Nw.of rfl (hts _ (tq_1 (List.mem_of_getElem? (i := 102) rfl))), (List.forall_mem_cons.mpr ⟨va_Nw.of rfl (hts _ (tq_1 (List.mem_of_getElem? (i := 157) rfl))), (List.forall_mem_cons.mpr ⟨va_Nw.of rfl (hts _ (tq_1 (List.mem_of_getElem? (i := 171) rfl))), (List.forall_mem_cons.mpr ⟨va_Nw.of rfl (hts _ (tq_1 (List.mem_of_getElem? (i := 187) rfl))), (List.forall_mem_cons.mpr ⟨va_Nw.of rfl (hts _ (tq_1 (List.mem_of_getElem? (i := 203) rfl))), (List.forall_mem_cons.mpr ⟨va_Nw.of rfl (hts _ (tq_1 (List.mem_of_getElem? (i := 218) rfl))), (List.forall_mem_cons.mpr ⟨va_Nw.of rfl (hts _ (tq_2 (List.mem_of_getElem? (i := 118) rfl))), (List.forall_mem_cons.mpr ⟨va_Nw.of rfl (hts _ (tq_2 (List.mem_of_getElem? (i := 171) rfl))), (List.forall_mem_cons.mpr ⟨va_Nw.of rfl (hts _ (tq_2 (List.mem_of_getElem? (i := 188) rfl))), (List.forall_mem_cons.mpr ⟨va_Nw.of rfl (hts _ (tq_2 (List.mem_of_getElem? (i := 200) rfl))), (List.forall_mem_cons.mpr ⟨va_Nw.of rfl (hts _ (tq_2 (List.mem_of_getElem? (i := 217) rfl))), (List.forall_mem_cons.mpr ⟨va_Nw.of rfl (hts _ (tq_2 (List.mem_of_getElem? (i := 225) rfl))), (List.forall_mem_cons.mpr ⟨va_Nw.of rfl (hts _ (tq_2 (List.mem_of_getElem? (i := 234) rfl))), (List.forall_mem_cons.mpr ⟨va_Nw.of rfl (hts _ (tq_3 (List.mem_of_getElem? (i := 11) rfl))), (List.forall_mem_cons.mpr ⟨va_Nw.of rfl (hts _ (tq_3 (List.mem_of_getElem? (i := 196) rfl))), (List.forall_mem_cons.mpr ⟨va_Nw.of rfl (hts _ (tq_4 (List.mem_of_getElem? (i := 29) rfl))), (List.forall_mem_cons.mpr ⟨va_Nw.of rfl (hts _ (tq_4 (List.mem_of_getElem? (i := 34) rfl))), (List.forall_mem_cons.mpr ⟨va_Nw.of rfl (hts _ (tq_4 (List.mem_of_getElem? (i := 235) rfl))), (List.forall_mem_cons.mpr ⟨va_Nw.of rfl (hts _ (tq_5 (List.mem_of_getElem? (i := 18) rfl))), (List.forall_mem_cons.mpr ⟨va_Nw.of rfl (hts _ (tq_5 (List.mem_of_getElem? (i := 67) rfl))), (List.forall_mem_cons.mpr ⟨va_Nw.of rfl (hts _ (tq_5 (List.mem_of_getElem? (i := 226) rfl))), (List.forall_mem_cons.mpr ⟨va_Nw.of rfl (hts _ (tq_5 (List.mem_of_getElem? (i := 233) rfl))), (List.forall_mem_cons.mpr ⟨va_Nw.of rfl (hts _ (tq_5 (List.mem_of_getElem? (i := 235) rfl))), (List.forall_mem_cons.mpr ⟨va_Nw.of rfl (hts _ (tq_6 (List.mem_of_getElem? (i := 37) rfl))), (List.forall_mem_cons.mpr ⟨va_Nw.of rfl (hts _ (tq_6 (List.mem_of_getElem? (i := 137) rfl))), (fun _ h => absurd h List.not_mem_nil)⟩)⟩)⟩)⟩)⟩)⟩)⟩)⟩)⟩)⟩)⟩)⟩)⟩)⟩)⟩)⟩)⟩)⟩)⟩)⟩)⟩)⟩)⟩)⟩)⟩)⟩)⟩)⟩)
theorem st_exc (hts : ∀ w ∈ lw_tbl, w.before args s = true) : ∀ w ∈ excW, va_Nw w s :=
  (List.forall_mem_cons.mpr ⟨va_Nw.of rfl (hts _ (tq_3 (List.mem_of_getElem? (i := 35) rfl))), (List.forall_mem_cons.mpr ⟨va_Nw.of rfl (hts _ (tq_3 (List.mem_of_getElem? (i := 36) rfl))), (List.forall_mem_cons.mpr ⟨va_Nw.of rfl (hts _ (tq_3 (List.mem_of_getElem? (i := 37) rfl))), (List.forall_mem_cons.mpr ⟨va_Nw.of rfl (hts _ (tq_3 (List.mem_of_getElem? (i := 38) rfl))), (List.forall_mem_cons.mpr ⟨va_Nw.of rfl (hts _ (tq_3 (List.mem_of_getElem? (i := 39) rfl))), (List.forall_mem_cons.mpr ⟨va_Nw.of rfl (hts _ (tq_3 (List.mem_of_getElem? (i := 40) rfl))), (List.forall_mem_cons.mpr ⟨va_Nw.of rfl (hts _ (tq_3 (List.mem_of_getElem? (i := 41) rfl))), (List.forall_mem_cons.mpr ⟨va_Nw.of rfl (hts _ (tq_3 (List.mem_of_getElem? (i := 164) rfl))), (List.forall_mem_cons.mpr ⟨va_Nw.of rfl (hts _ (tq_4 (List.mem_of_getElem? (i := 105) rfl))), (fun _ h => absurd h List.not_mem_nil)⟩)⟩)⟩)⟩)⟩)⟩)⟩)⟩)⟩)
theorem st_str {own tx : String} {k cur : Nat} (hcur : s.vm.findClass own = some cur) (h : (Cond.stringRef own k tx).before args s = true) : ∃ a : Nat, vk_R own k tx a s := by
  obtain ⟨k9, cf, i, a, -, -, -, -, -, h6⟩ := Cond.stringRef_spec hcur h
  exact ⟨a, vk_R.of h h6⟩
theorem st_txt (hts : ∀ w ∈ lw_tbl, w.before args s = true) {cur : Nat} (hcur : s.vm.findClass RX11 = some cur) : ∀ q ∈ txtW, ∃ a : Nat, vk_R RX11 q.1 q.2 a s :=
  (List.forall_mem_cons.mpr ⟨st_str hcur (hts _ (tq_3 (List.mem_of_getElem? (i := 74) rfl))), (List.forall_mem_cons.mpr ⟨st_str hcur (hts _ (tq_3 (List.mem_of_getElem? (i := 144) rfl))), (List.forall_mem_cons.mpr ⟨st_str hcur (hts _ (tq_3 (List.mem_of_getElem? (i := 171) rfl))), (List.forall_mem_cons.mpr ⟨st_str hcur (hts _ (tq_3 (List.mem_of_getElem? (i := 186) rfl))), (List.forall_mem_cons.mpr ⟨st_str hcur (hts _ (tq_3 (List.mem_of_getElem? (i := 191) rfl))), (List.forall_mem_cons.mpr ⟨st_str hcur (hts _ (tq_3 (List.mem_of_getElem? (i := 219) rfl))), (List.forall_mem_cons.mpr ⟨st_str hcur (hts _ (tq_3 (List.mem_of_getElem? (i := 235) rfl))), (List.forall_mem_cons.mpr ⟨st_str hcur (hts _ (tq_4 (List.mem_of_getElem? (i := 7) rfl))), (List.forall_mem_cons.mpr ⟨st_str hcur (hts _ (tq_4 (List.mem_of_getElem? (i := 19) rfl))), (List.forall_mem_cons.mpr ⟨st_str hcur (hts _ (tq_4 (List.mem_of_getElem? (i := 24) rfl))), (List.forall_mem_cons.mpr ⟨st_str hcur (hts _ (tq_4 (List.mem_of_getElem? (i := 62) rfl))), (List.forall_mem_cons.mpr ⟨st_str hcur (hts _ (tq_4 (List.mem_of_getElem? (i := 79) rfl))), (List.forall_mem_cons.mpr ⟨st_str hcur (hts _ (tq_4 (List.mem_of_getElem? (i := 112) rfl))), (List.forall_mem_cons.mpr ⟨st_str hcur (hts _ (tq_4 (List.mem_of_getElem? (i := 146) rfl))), (List.forall_mem_cons.mpr ⟨st_str hcur (hts _ (tq_4 (List.mem_of_getElem? (i := 190) rfl))), (List.forall_mem_cons.mpr ⟨st_str hcur (hts _ (tq_4 (List.mem_of_getElem? (i := 221) rfl))), (List.forall_mem_cons.mpr ⟨st_str hcur (hts _ (tq_5 (List.mem_of_getElem? (i := 4) rfl))), (List.forall_mem_cons.mpr ⟨st_str hcur (hts _ (tq_5 (List.mem_of_getElem? (i := 12) rfl))), (List.forall_mem_cons.mpr ⟨st_str hcur (hts _ (tq_5 (List.mem_of_getElem? (i := 13) rfl))), (List.forall_mem_cons.mpr ⟨st_str hcur (hts _ (tq_5 (List.mem_of_getElem? (i := 26) rfl))), (List.forall_mem_cons.mpr ⟨st_str hcur (hts _ (tq_5 (List.mem_of_getElem? (i := 36) rfl))), (List.forall_mem_cons.mpr ⟨st_str hcur (hts _ (tq_5 (List.mem_of_getElem? (i := 76) rfl))), (List.forall_mem_cons.mpr ⟨st_str hcur (hts _ (tq_6 (List.mem_of_getElem? (i := 110) rfl))), (List.forall_mem_cons.mpr ⟨st_str hcur (hts _ (tq_6 (List.mem_of_getElem? (i := 145) rfl))), (List.forall_mem_cons.mpr ⟨st_str hcur (hts _ (tq_6 (List.mem_of_getElem? (i := 161) rfl))), (List.forall_mem_cons.mpr ⟨st_str hcur (hts _ (tq_6 (List.mem_of_getElem? (i := 170) rfl))), (fun _ h => absurd h List.not_mem_nil)⟩)⟩)⟩)⟩)⟩)⟩)⟩)⟩)⟩)⟩)⟩)⟩)⟩)⟩)⟩)⟩)⟩)⟩)⟩)⟩)⟩)⟩)⟩)⟩)⟩)⟩)
theorem st_nc (hs : ∀ w ∈ flatC (Jvm.Cond.and given_1 narrow_1), w.before args s = true) : ∀ q ∈ ncW, va_Nc q.1 q.2 s :=
  (List.forall_mem_cons.mpr ⟨va_Nc.of (hs (.not (.castable "java/lang/IllegalStateException" "java/lang/IndexOutOfBoundsException")) (by decide +kernel)), (List.forall_mem_cons.mpr ⟨va_Nc.of (hs (.not (.castable "java/lang/IllegalStateException" "java/lang/IllegalArgumentException")) (by decide +kernel)), (List.forall_mem_cons.mpr ⟨va_Nc.of (hs (.not (.castable "java/lang/IndexOutOfBoundsException" "java/lang/IllegalStateException")) (by decide +kernel)), (List.forall_mem_cons.mpr ⟨va_Nc.of (hs (.not (.castable "java/lang/IndexOutOfBoundsException" "java/lang/IllegalArgumentException")) (by decide +kernel)), (List.forall_mem_cons.mpr ⟨va_Nc.of (hs (.not (.castable "java/lang/IllegalArgumentException" "java/lang/IllegalStateException")) (by decide +kernel)), (List.forall_mem_cons.mpr ⟨va_Nc.of (hs (.not (.castable "java/lang/IllegalArgumentException" "java/lang/IndexOutOfBoundsException")) (by decide +kernel)), (fun _ h => absurd h List.not_mem_nil)⟩)⟩)⟩)⟩)⟩)⟩)
theorem st_S (hs : ∀ w ∈ flatC (Jvm.Cond.and given_1 narrow_1), w.before args s = true) {A : Nat → Prop} (hA : ∀ a : Nat, a < s.heap.size → ¬ A a) : ∀ i : Nat, i < 2 → ∃ a v : Nat, vk_S 1 [4] [sTx i] (fun _ => a) (fun _ => v) A s s.heap ∧ (Term.string RX5 (if i = 0 then 105 else 116)).eval args s none [] s = some (.ref a) := by
  intro i hi
  have key : ∀ (k : Nat) (bs : List Int32), (Cond.exactly (.string RX5 k) "java/lang/String").before args s = true → (Cond.eq (.field (.string RX5 k) "java/lang/String" "coder" "B") (.int 0)).before args s = true → (Cond.arrayOf (.field (.string RX5 k) "java/lang/String" "value" "[B") .byte).before args s = true → (Cond.eq (.length (.field (.string RX5 k) "java/lang/String" "value" "[B")) (.int 4)).before args s = true →
      (∀ j : Nat, j < 4 → (Cond.eq (.elem (.field (.string RX5 k) "java/lang/String" "value" "[B") (.int (Int32.ofNat j))) (.int (bs.getD j 0))).before args s = true) → ∃ a v : Nat, vk_S 1 [4] [bs] (fun _ => a) (fun _ => v) A s s.heap ∧ (Term.string RX5 k).eval args s none [] s = some (.ref a) := by
    intro k bs h1 h2 h3 h4 h5
    have z : ∀ i : Nat, i < 1 → i = 0 := fun i hi => by omega
    obtain ⟨adK, adV, h6, h7⟩ := vk_Sof (args := args) (s := s) (N := 1) (tm := fun _ => .string RX5 k) (len := [4]) (byt := [bs]) (A := A) (fun i hi => by rw [z i hi]; decide) (fun _ _ => h1) (fun _ _ => h2) (fun _ _ => h3) (fun i hi => by rw [z i hi]; exact h4) (fun i hi j hj => by
      rw [z i hi] at hj ⊢
      exact h5 j hj) (fun i j hi hj hne => absurd ((z i hi).trans (z j hj).symm) hne) hA
    refine ⟨adK 0, adV 0, ⟨fun i hi => ?_, fun i j hi hj _ => (z i hi).trans (z j hj).symm⟩, h7 0 (by decide)⟩
    have h8 := h6.1 0 (by decide)
    rw [z i hi]
    exact h8
  rcases (show i = 0 ∨ i = 1 by omega) with rfl | rfl
  · refine key 105 _ (hs _ (by decide +kernel)) (hs _ (by decide +kernel)) (hs _ (by decide +kernel)) (hs _ (by decide +kernel)) fun j hj => ?_
    rcases (show j = 0 ∨ j = 1 ∨ j = 2 ∨ j = 3 by omega) with rfl | rfl | rfl | rfl
    · exact hs (.eq (.elem (.field (.string RX5 105) "java/lang/String" "value" "[B") (.int 0)) (.int 117)) (by decide +kernel)
    · exact hs (.eq (.elem (.field (.string RX5 105) "java/lang/String" "value" "[B") (.int 1)) (.int 103)) (by decide +kernel)
    · exact hs (.eq (.elem (.field (.string RX5 105) "java/lang/String" "value" "[B") (.int 2)) (.int 111)) (by decide +kernel)
    · exact hs (.eq (.elem (.field (.string RX5 105) "java/lang/String" "value" "[B") (.int 3)) (.int 97)) (by decide +kernel)
  · refine key 116 _ (hs _ (by decide +kernel)) (hs _ (by decide +kernel)) (hs _ (by decide +kernel)) (hs _ (by decide +kernel)) fun j hj => ?_
    rcases (show j = 0 ∨ j = 1 ∨ j = 2 ∨ j = 3 by omega) with rfl | rfl | rfl | rfl
    · exact hs (.eq (.elem (.field (.string RX5 116) "java/lang/String" "value" "[B") (.int 0)) (.int 114)) (by decide +kernel)
    · exact hs (.eq (.elem (.field (.string RX5 116) "java/lang/String" "value" "[B") (.int 1)) (.int 119)) (by decide +kernel)
    · exact hs (.eq (.elem (.field (.string RX5 116) "java/lang/String" "value" "[B") (.int 2)) (.int 120)) (by decide +kernel)
    · exact hs (.eq (.elem (.field (.string RX5 116) "java/lang/String" "value" "[B") (.int 3)) (.int 109)) (by decide +kernel)
theorem st_arr {ty : FieldType} (h : (Cond.arrayClass ty).before args s = true) : ∃ cA kA comp, s.vm.findClass ("[" ++ ty.toString) = some cA ∧ s.vm.classes[cA]? = some kA ∧ kA.kind = .array comp ty := Cond.arrayClass_spec h
set_option maxHeartbeats 2000000 in
set_option maxRecDepth 20000 in
theorem st_world (hts : ∀ w ∈ lw_tbl, w.before args s = true) (hs : ∀ w ∈ flatC (Jvm.Cond.and given_1 narrow_1), w.before args s = true) : ∃ Θ : cTH, tB Θ = s.heap.size ∧ cK Θ s ∧ cZ Θ s s.heap ∧ va_AO RX9 s := by
  have htw : ∀ w ∈ wALL, w.before args s = true := fun w hw => hts w (wALL_tbl w hw)
  have hO : va_AO RX9 s := hts _ (tq_1 (List.mem_of_getElem? (i := 156) rfl))
  obtain ⟨c0, i0, hk0⟩ := u_known (C := RX0) (T := TX0) (N := 4) (n := 4) htw inl0 (htw _ ia_RX0)
  obtain ⟨c1, i1, hk1⟩ := u_known (C := RX2) (T := TX2) (N := 3) (n := 3) htw inl2 (htw _ ia_RX2)
  obtain ⟨c2, i2, hk2⟩ := u_known (C := RX3) (T := TX3) (N := 3) (n := 3) htw inl3 (htw _ ia_RX3)
  obtain ⟨c3, i3, hk3⟩ := u_known (C := RX4) (T := TX4) (N := 3) (n := 3) htw inl4 (htw _ ia_RX4)
  obtain ⟨c4, i4, hk4⟩ := u_known (C := RX5) (T := TX5) (N := 4) (n := 4) htw inl5 (htw _ ia_RX5)
  obtain ⟨c5, i5, hk5⟩ := u_known (C := RX6) (T := TX6) (N := 2) (n := 2) htw inl6 (htw _ ia_RX6)
  obtain ⟨c6, i6, hk6⟩ := u_known (C := RX7) (T := TX7) (N := 5) (n := 5) htw inl7 (htw _ ia_RX7)
  obtain ⟨c7, i7, hk7⟩ := u_known (C := RX8) (T := TX8) (N := 2) (n := 2) htw inl8 (htw _ ia_RX8)
  obtain ⟨c8, i8, hk8⟩ := u_known (C := RX9) (T := TX9) (N := 4) (n := 4) htw inl9 (htw _ ia_RX9)
  obtain ⟨c9, i9, hk9⟩ := u_known (C := RX10) (T := TX10) (N := 5) (n := 5) htw inl10 (htw _ ia_RX10)
  obtain ⟨c10, i10, hk10⟩ := u_known (C := RX11) (T := TX11) (N := 7) (n := 7) htw inl11 (htw _ ia_RX11)
  obtain ⟨c11, i11, hk11⟩ := u_known (C := RX12) (T := TX12) (N := 15) (n := 15) htw inl12 (htw _ ia_RX12)
  obtain ⟨cI, kI, oI, a1, a2, a3⟩ := st_arr (hts _ (tq_1 (List.mem_of_getElem? (i := 64) rfl)))
  obtain ⟨cB, kB, oB, b1, b2, b3⟩ := st_arr (hts _ (tq_6 (List.mem_of_getElem? (i := 230) rfl)))
  obtain ⟨cJ, kJ, oJ, j1, j2, j3⟩ := st_arr (hts _ (tq_8 (List.mem_of_getElem? (i := 217) rfl)))
  obtain ⟨oS, cS9, kS, d1, d2, d3, d4, d5⟩ := Cond.arrayOver_spec hO
  have hA : ∀ a : Nat, a < s.heap.size → ¬ (fun q : Nat => s.heap.size ≤ q) a := fun a h h2 => by
    have h3 : s.heap.size ≤ a := h2
    omega
  obtain ⟨t0, v0, e0, f0⟩ := st_S hs hA 0 (by decide)
  obtain ⟨t1, v1, e1, f1⟩ := st_S hs hA 1 (by decide)
  obtain ⟨cur, _, hcur, _⟩ := Cond.instantiable_spec (htw _ ia_RX11)
  refine ⟨(((fun k => if k = 0 then c0 else if k = 1 then c1 else if k = 2 then c2 else if k = 3 then c3 else if k = 4 then c4 else if k = 5 then c5 else if k = 6 then c6 else if k = 7 then c7 else if k = 8 then c8 else if k = 9 then c9 else if k = 10 then c10 else c11, fun k => if k = 0 then i0 else if k = 1 then i1 else if k = 2 then i2 else if k = 3 then i3 else if k = 4 then i4 else if k = 5 then i5 else if k = 6 then i6 else if k = 7 then i7 else if k = 8 then i8 else if k = 9 then i9 else if k = 10 then i10 else i11), cI, cB, cS9, cJ), fun _ o => if o = 0 then t0 else if o = 1 then t1 else if o = 2 then v0 else v1, s.heap.size), rfl, ⟨⟨?_, ?_⟩, st_nest hts, st_exc hts, st_txt hts hcur, ⟨vk_R.of (hts _ (tq_2 (List.mem_of_getElem? (i := 60) rfl))) f0, vk_R.of (hts _ (tq_2 (List.mem_of_getElem? (i := 117) rfl))) f1⟩, st_nc hs⟩, ⟨vx_Zqof (hts _ (tq_3 (List.mem_of_getElem? (i := 60) rfl))) (hts _ (tq_1 (List.mem_of_getElem? (i := 13) rfl))) (hs _ (by decide +kernel)) hA, vx_Zqof (hts _ (tq_3 (List.mem_of_getElem? (i := 62) rfl))) (hts _ (tq_1 (List.mem_of_getElem? (i := 13) rfl))) (hs _ (by decide +kernel)) hA, va_Zof (hts _ (tq_2 (List.mem_of_getElem? (i := 70) rfl))) (hts _ (tq_1 (List.mem_of_getElem? (i := 24) rfl))) (va_eqt (hs _ (by decide +kernel))) hA, vx_Zqof (hts _ (tq_2 (List.mem_of_getElem? (i := 86) rfl))) (hts _ (tq_1 (List.mem_of_getElem? (i := 26) rfl))) (hs _ (by decide +kernel)) hA, ?_⟩, hO⟩
  · intro k q hq
    match k, hq with
    | 0, hq => cases hq; exact hk0
    | 1, hq => cases hq; exact hk1
    | 2, hq => cases hq; exact hk2
    | 3, hq => cases hq; exact hk3
    | 4, hq => cases hq; exact hk4
    | 5, hq => cases hq; exact hk5
    | 6, hq => cases hq; exact hk6
    | 7, hq => cases hq; exact hk7
    | 8, hq => cases hq; exact hk8
    | 9, hq => cases hq; exact hk9
    | 10, hq => cases hq; exact hk10
    | 11, hq => cases hq; exact hk11
    | k + 12, hq => simp [vwCl] at hq
  · intro k q hq
    match k, hq with
    | 0, hq => cases hq; exact ⟨fun n z => ⟨fun k h => (by cases h), kI, a2, oI, a3⟩, a1⟩
    | 1, hq => cases hq; exact ⟨fun n z => ⟨fun k h => (by cases h), kB, b2, oB, b3⟩, b1⟩
    | 2, hq => cases hq; exact ⟨fun n z => ⟨fun k h => (by cases h), kS, d3, oS, d4⟩, kS, oS, d3, d4, d1, d5⟩
    | 3, hq => cases hq; exact ⟨fun n z => ⟨fun k h => (by cases h), kJ, j2, oJ, j3⟩, j1⟩
    | k + 4, hq => simp at hq
  · intro i hi
    rcases (show i = 0 ∨ i = 1 by omega) with rfl | rfl
    · exact e0
    · exact e1
end START
set_option maxHeartbeats 8000000 in
set_option maxRecDepth 20000 in
theorem whole_start {p : Program} {e : Env} {s : State} {m : MethodId} {below : List Frame} {meth : Method} {c : Code} (l : Launch) (hflags : l.flags = flags0) {b L : Nat} {xs : Nat → Int32} (hL : L ≤ 3072) (C0 : lw_At p s m meth c b L xs) : W p l e room_1 s m #[Value.ref b] below meth c s.heap [] 0 0 (lw_Z below #[Value.ref b] s) (entryFrame m ([Value.ref b] : List Value).toArray 9) := by
  obtain ⟨hx, hb, hr, hml, hown, hts, hX, hbl, hlocks, hgv⟩ := id C0
  have hs := flat_of_before _ hgv
  have hl9 : l.stackTraces = false := by
    unfold Launch.stackTraces
    rw [hflags]
    decide +kernel
  obtain ⟨Θ, hB, hK, hZ, hO⟩ := st_world hts hs
  have hC : cC p l s m #[Value.ref b] meth c cL_law 9 RL Θ := ⟨hx, hb, hml, hown, fun w hw => hts w (wALL_tbl w hw), hlocks, hK, hl9, fun z => absurd rfl z, hZ, Nat.le_of_eq hB⟩
  have hend : ∀ (Θ : cTH) (G : GS) (k n : Nat) (LS : List (Option Value)), lCx p l s m meth c b L xs Θ → k ≤ 601024 → n ≤ 7293034 → VG p l e room_1 s m #[Value.ref b] below meth c 9 Θ (lw_Z below #[Value.ref b] s) k n 4434 LS [.int 1] G := by
    intro Θ G k n LS hx9 hk hn H locs ls hH hS hl
    have hB9 := hx9.2.2.1.2.2
    refine va_forget (fun q hq => ?_) (W.widen hk hn ?_)
    · have h1 : tB Θ ≤ q.base := hS.2.2 q hq
      omega
    · exact lw_ret (d0 := s.drawn) (Drawn.sameBut.refl s.drawn lw_cs) hx hb hr hlocks dL_law_4434
  obtain ⟨h1, h2⟩ := lvH_entry (as := [.ref b]) (n := 9) rfl (Nat.le_of_ble_eq_true rfl)
  have hls := h2 _ (lv_entry [.ref b] h1)
  rw [lg_entry_eq]
  have goalL : VL p l e room_1 s m #[Value.ref b] below meth c 9 Θ (lw_Z below #[Value.ref b] s) 0 0 0 [some (.ref b), none, none, none, none, none, none, none, none] [] [] := by
    refine z_new (ci := 10) (C := RX11) (T := TX11) (N := 7) (ty := tyX11) (fs := [.null, .null, .null, .null, .null, .null, .null]) (q := 3) hC dL_law_0 rfl rfl inl11 cl_RL_8 ia_RX11 in_RX11 tyX11_ok (fun j hj => by rcases (show j = 0 ∨ j = 1 ∨ j = 2 ∨ j = 3 ∨ j = 4 ∨ j = 5 ∨ j = 6 by omega) with rfl | rfl | rfl | rfl | rfl | rfl | rfl <;> rfl) (Nat.le_of_ble_eq_true rfl) (Nat.le_of_ble_eq_true rfl) (fun x9 => ?_)
    refine z_dup (q := 4) hC dL_law_3 rfl rfl ?_
    refine z_callI (q := 7) (rm := rz_X11) hC hO (z_X11_init hl9 Θ [] x9) k_X11_init im_yX11_init rfl ml_RL_191 dL_law_4 rfl rfl rfl (Nat.le_of_ble_eq_true rfl) ⟨Nat.le_of_ble_eq_true rfl, Nat.le_of_ble_eq_true rfl⟩ ⟨Nat.le_of_ble_eq_true rfl, Nat.le_of_ble_eq_true rfl⟩ ?_
    rintro r4 w4 ⟨rfl, f0, hw, f1, f2, f3, f4, f5, a2, a3, a4, a4_1, a4_2, a4_3, a5, a5_1, a5_2, a6, a6_1, a7, a7_1, rfl⟩
    show VL _ _ _ _ _ _ _ _ _ _ _ _ _ _ _ 7 _ (_ :: _) _
    refine z_astore_n (i := 1) (q := 8) hC dL_law_7 rfl rfl (lvc rfl) (Nat.le_of_ble_eq_true rfl) (Nat.le_of_ble_eq_true rfl) rfl ?_
    refine z_new (ci := 11) (C := RX12) (T := TX12) (N := 15) (ty := tyX12) (fs := [.null, .null, .null, .null, .int 0, .int 0, .null, .int 0, .null, .null, .int 0, .int 0, .int 0, .int 0, .null]) (q := 11) hC dL_law_8 rfl rfl inl12 cl_RL_192 ia_RX12 in_RX12 tyX12_ok (fun j hj => by rcases (show j = 0 ∨ j = 1 ∨ j = 2 ∨ j = 3 ∨ j = 4 ∨ j = 5 ∨ j = 6 ∨ j = 7 ∨ j = 8 ∨ j = 9 ∨ j = 10 ∨ j = 11 ∨ j = 12 ∨ j = 13 ∨ j = 14 by omega) with rfl | rfl | rfl | rfl | rfl | rfl | rfl | rfl | rfl | rfl | rfl | rfl | rfl | rfl | rfl <;> rfl) (Nat.le_of_ble_eq_true rfl) (Nat.le_of_ble_eq_true rfl) (fun mo => ?_)
    refine z_dup (q := 12) hC dL_law_11 rfl rfl ?_
    refine z_callI (q := 15) (rm := rz_X12) hC hO (z_X12_init hl9 Θ _ mo) k_X12_init im_yX12_init rfl ml_RL_194 dL_law_12 rfl rfl rfl (Nat.le_of_ble_eq_true rfl) ⟨Nat.le_of_ble_eq_true rfl, Nat.le_of_ble_eq_true rfl⟩ ⟨Nat.le_of_ble_eq_true rfl, Nat.le_of_ble_eq_true rfl⟩ ?_
    rintro r12 w12 ⟨rfl, m1, m2, m3, m4, m5, m6, m7, m8, rfl⟩
    show VL _ _ _ _ _ _ _ _ _ _ _ _ _ _ _ 15 _ (_ :: _) _
    refine z_astore_n (i := 2) (q := 16) hC dL_law_15 rfl rfl (lvc rfl) (Nat.le_of_ble_eq_true rfl) (Nat.le_of_ble_eq_true rfl) rfl ?_
    refine z_iconst (q := 17) (v := 1) hC dL_law_16 rfl (by decide) ?_
    refine z_newj (q := 19) (N := 1) hC dL_law_17 rfl (by decide) (by decide) (by decide) (Nat.le_of_ble_eq_true rfl) (Nat.le_of_ble_eq_true rfl) (fun ou => ?_)
    refine z_astore_n (i := 3) (q := 20) hC dL_law_19 rfl rfl (lvc rfl) (Nat.le_of_ble_eq_true rfl) (Nat.le_of_ble_eq_true rfl) rfl ?_
    refine z_iconst (q := 21) (v := 0) hC dL_law_20 rfl (by decide) ?_
    refine z_istore (q := 23) hC dL_law_21 rfl (lvc rfl) (Nat.le_of_ble_eq_true rfl) (Nat.le_of_ble_eq_true rfl) rfl ?_
    rw [List.nil_append, List.append_assoc]
    intro H locs ls hH hS hl
    have h8 : Th8 Θ (thL Θ x9 f0 hw f1 f2 f3 f4 f5 a2 a3 a4 a4_1 a4_2 a4_3 a5 a5_1 a5_2 a6 a6_1 a7 a7_1 mo m1 m2 m3 m4 m5 m6 m7 m8 ou) := ⟨rhoL Θ x9 f0 hw f1 f2 f3 f4 f5 a2 a3 a4 a4_1 a4_2 a4_3 a5 a5_1 a5_2 a6 a6_1 a7 a7_1 mo m1 m2 m3 m4 m5 m6 m7 m8 ou, rfl, fun o => rfl⟩
    have hxL : lCx p l s m meth c b L xs (thL Θ x9 f0 hw f1 f2 f3 f4 f5 a2 a3 a4 a4_1 a4_2 a4_3 a5 a5_1 a5_2 a6 a6_1 a7 a7_1 mo m1 m2 m3 m4 m5 m6 m7 m8 ou) := ⟨h8.C hC, hO, ⟨hX, hbl, hB⟩, hL, hl9⟩
    have key := law_loop (e := e) (below := below) (Q9 := lw_Z below #[Value.ref b] s) hend L 0 (thL Θ x9 f0 hw f1 f2 f3 f4 f5 a2 a3 a4 a4_1 a4_2 a4_3 a5 a5_1 a5_2 a6 a6_1 a7 a7_1 mo m1 m2 m3 m4 m5 m6 m7 m8 ou) G0 200 12000 hxL sim0 (by omega) (by omega) (by omega) (by omega)
    exact W.widen (k := 200) (n := 12000) (Nat.le_of_ble_eq_true rfl) (Nat.le_of_ble_eq_true rfl) (key H locs ls ⟨allL_P x9 f0 hw f1 f2 f3 f4 f5 a2 a3 a4 a4_1 a4_2 a4_3 a5 a5_1 a5_2 a6 a6_1 a7 a7_1 mo m1 m2 m3 m4 m5 m6 m7 m8 ou hH.1, allL_D x9 f0 hw f1 f2 f3 f4 f5 a2 a3 a4 a4_1 a4_2 a4_3 a5 a5_1 a5_2 a6 a6_1 a7 a7_1 mo m1 m2 m3 m4 m5 m6 m7 m8 ou hH.2⟩ hS hl)
  refine goalL s.heap [] _ ⟨fun k q h => by simp at h, ⟨fun i j p q h => by simp at h, fun k q h => by simp at h⟩⟩ va_S.rf (lvH_sub hls ?_)
  intro i v hi
  match i, hi with
  | 0, hi => exact hi
  | 1, hi => cases hi
  | 2, hi => cases hi
  | 3, hi => cases hi
  | 4, hi => cases hi
  | 5, hi => cases hi
  | 6, hi => cases hi
  | 7, hi => cases hi
  | 8, hi => cases hi
  | i + 9, hi => cases hi
