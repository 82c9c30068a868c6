/-! The cases of the law, 0 to 15 (by genlaw.py). -/
theorem kh_L_addUser : kH yL_addUser cL_addUser 3 (some .int) [(0, 8, 11, 13)] 2 := ⟨cw_yL_addUser, ⟨by decide, by decide⟩, by decide +kernel, in_RL, st_yL_addUser⟩
theorem kh_L_addGroup : kH yL_addGroup cL_addGroup 3 (some .int) [(0, 8, 11, 13)] 2 := ⟨cw_yL_addGroup, ⟨by decide, by decide⟩, by decide +kernel, in_RL, st_yL_addGroup⟩
theorem kh_L_join : kH yL_join cL_join 5 (some .int) [(0, 10, 13, 22), (0, 10, 17, 13)] 4 := ⟨cw_yL_join, ⟨by decide, by decide⟩, by decide +kernel, in_RL, st_yL_join⟩
theorem kh_L_leave : kH yL_leave cL_leave 5 (some .int) [(0, 10, 13, 22), (0, 10, 17, 13)] 4 := ⟨cw_yL_leave, ⟨by decide, by decide⟩, by decide +kernel, in_RL, st_yL_leave⟩
theorem kh_L_nest : kH yL_nest cL_nest 5 (some .int) [(0, 10, 13, 22), (0, 10, 17, 13)] 4 := ⟨cw_yL_nest, ⟨by decide, by decide⟩, by decide +kernel, in_RL, st_yL_nest⟩
theorem kh_L_unnest : kH yL_unnest cL_unnest 5 (some .int) [(0, 10, 13, 22), (0, 10, 17, 13)] 4 := ⟨cw_yL_unnest, ⟨by decide, by decide⟩, by decide +kernel, in_RL, st_yL_unnest⟩
theorem kh_L_make : kH yL_make cL_make 5 (some .int) [(0, 10, 13, 22), (0, 10, 17, 13)] 4 := ⟨cw_yL_make, ⟨by decide, by decide⟩, by decide +kernel, in_RL, st_yL_make⟩
theorem kh_L_remove : kH yL_remove cL_remove 4 (some .int) [(0, 9, 12, 22), (0, 9, 15, 13)] 3 := ⟨cw_yL_remove, ⟨by decide, by decide⟩, by decide +kernel, in_RL, st_yL_remove⟩
theorem kh_L_move : kH yL_move cL_move 5 (some .int) [(0, 10, 13, 22), (0, 10, 17, 13)] 4 := ⟨cw_yL_move, ⟨by decide, by decide⟩, by decide +kernel, in_RL, st_yL_move⟩
theorem kh_L_giveTo : kH yL_giveTo cL_giveTo 5 (some .int) [(0, 10, 13, 22)] 4 := ⟨cw_yL_giveTo, ⟨by decide, by decide⟩, by decide +kernel, in_RL, st_yL_giveTo⟩
theorem kh_L_setMask : kH yL_setMask cL_setMask 5 (some .int) [(0, 10, 13, 22), (0, 10, 17, 49)] 4 := ⟨cw_yL_setMask, ⟨by decide, by decide⟩, by decide +kernel, in_RL, st_yL_setMask⟩
theorem kh_L_setInheriting : kH yL_setInheriting cL_setInheriting 5 (some .int) [(0, 17, 20, 22)] 4 := ⟨cw_yL_setInheriting, ⟨by decide, by decide⟩, by decide +kernel, in_RL, st_yL_setInheriting⟩
theorem kh_L_addForUser : kH yL_addForUser cL_addForUser 8 (some .int) [(0, 16, 19, 22), (0, 16, 23, 49), (0, 16, 27, 13)] 7 := ⟨cw_yL_addForUser, ⟨by decide, by decide⟩, by decide +kernel, in_RL, st_yL_addForUser⟩
theorem kh_L_addForGroup : kH yL_addForGroup cL_addForGroup 8 (some .int) [(0, 16, 19, 22), (0, 16, 23, 49), (0, 16, 27, 13)] 7 := ⟨cw_yL_addForGroup, ⟨by decide, by decide⟩, by decide +kernel, in_RL, st_yL_addForGroup⟩
theorem kh_L_addForOwner : kH yL_addForOwner cL_addForOwner 7 (some .int) [(0, 14, 17, 22), (0, 14, 21, 49), (0, 14, 25, 13)] 6 := ⟨cw_yL_addForOwner, ⟨by decide, by decide⟩, by decide +kernel, in_RL, st_yL_addForOwner⟩
theorem kh_L_addForAll : kH yL_addForAll cL_addForAll 7 (some .int) [(0, 14, 17, 22), (0, 14, 21, 49), (0, 14, 25, 13)] 6 := ⟨cw_yL_addForAll, ⟨by decide, by decide⟩, by decide +kernel, in_RL, st_yL_addForAll⟩
theorem kh_L_removeEntry : kH yL_removeEntry cL_removeEntry 5 (some .int) [(0, 10, 13, 22)] 4 := ⟨cw_yL_removeEntry, ⟨by decide, by decide⟩, by decide +kernel, in_RL, st_yL_removeEntry⟩
theorem kh_L_moveEntry : kH yL_moveEntry cL_moveEntry 6 (some .int) [(0, 12, 15, 22)] 5 := ⟨cw_yL_moveEntry, ⟨by decide, by decide⟩, by decide +kernel, in_RL, st_yL_moveEntry⟩
theorem kh_L_ask : kH yL_ask cL_ask 6 (some .int) [(0, 19, 22, 22), (0, 19, 26, 49)] 5 := ⟨cw_yL_ask, ⟨by decide, by decide⟩, by decide +kernel, in_RL, st_yL_ask⟩
theorem kh_L_share : kH yL_share cL_share 7 (some .int) [(0, 14, 17, 22), (0, 14, 21, 49), (0, 14, 25, 13)] 6 := ⟨cw_yL_share, ⟨by decide, by decide⟩, by decide +kernel, in_RL, st_yL_share⟩
theorem kh_L_append : kH yL_append cL_append 4 (some .int) [(0, 9, 12, 49), (0, 9, 15, 13)] 3 := ⟨cw_yL_append, ⟨by decide, by decide⟩, by decide +kernel, in_RL, st_yL_append⟩
theorem kh_L_loadEntries : kH yL_loadEntries cL_loadEntries 3 (some .int) [(0, 8, 11, 13)] 2 := ⟨cw_yL_loadEntries, ⟨by decide, by decide⟩, by decide +kernel, in_RL, st_yL_loadEntries⟩
theorem kh_L_writeEntries : kH yL_writeEntries cL_writeEntries 4 (some .int) [(0, 9, 12, 22)] 3 := ⟨cw_yL_writeEntries, ⟨by decide, by decide⟩, by decide +kernel, in_RL, st_yL_writeEntries⟩
theorem kh_L_codeAt : kH yL_codeAt cL_codeAt 4 (some .int) [(0, 9, 12, 49)] 3 := ⟨cw_yL_codeAt, ⟨by decide, by decide⟩, by decide +kernel, in_RL, st_yL_codeAt⟩
theorem kh_L_isMember : kH yL_isMember cL_isMember 5 (some .int) [(0, 17, 20, 22)] 4 := ⟨cw_yL_isMember, ⟨by decide, by decide⟩, by decide +kernel, in_RL, st_yL_isMember⟩
theorem kh_L_isNested : kH yL_isNested cL_isNested 5 (some .int) [(0, 17, 20, 22)] 4 := ⟨cw_yL_isNested, ⟨by decide, by decide⟩, by decide +kernel, in_RL, st_yL_isNested⟩
theorem kh_L_belongs : kH yL_belongs cL_belongs 5 (some .int) [(0, 17, 20, 22)] 4 := ⟨cw_yL_belongs, ⟨by decide, by decide⟩, by decide +kernel, in_RL, st_yL_belongs⟩
theorem kh_L_belongsByMembers : kH yL_belongsByMembers cL_belongsByMembers 5 (some .int) [(0, 17, 20, 22)] 4 := ⟨cw_yL_belongsByMembers, ⟨by decide, by decide⟩, by decide +kernel, in_RL, st_yL_belongsByMembers⟩
theorem kh_L_parentOf : kH yL_parentOf cL_parentOf 4 (some .int) [(0, 9, 12, 22)] 3 := ⟨cw_yL_parentOf, ⟨by decide, by decide⟩, by decide +kernel, in_RL, st_yL_parentOf⟩
theorem kh_L_ownerOf : kH yL_ownerOf cL_ownerOf 4 (some .int) [(0, 9, 12, 22)] 3 := ⟨cw_yL_ownerOf, ⟨by decide, by decide⟩, by decide +kernel, in_RL, st_yL_ownerOf⟩
theorem kh_L_maskOf : kH yL_maskOf cL_maskOf 4 (some .int) [(0, 9, 12, 22)] 3 := ⟨cw_yL_maskOf, ⟨by decide, by decide⟩, by decide +kernel, in_RL, st_yL_maskOf⟩
theorem kh_L_isInheriting : kH yL_isInheriting cL_isInheriting 4 (some .int) [(0, 16, 19, 22)] 3 := ⟨cw_yL_isInheriting, ⟨by decide, by decide⟩, by decide +kernel, in_RL, st_yL_isInheriting⟩
theorem kh_L_below : kH yL_below cL_below 4 (some .int) [(0, 9, 12, 22)] 3 := ⟨cw_yL_below, ⟨by decide, by decide⟩, by decide +kernel, in_RL, st_yL_below⟩
theorem kh_L_entriesOf : kH yL_entriesOf cL_entriesOf 4 (some .int) [(0, 9, 12, 22)] 3 := ⟨cw_yL_entriesOf, ⟨by decide, by decide⟩, by decide +kernel, in_RL, st_yL_entriesOf⟩
theorem kh_L_isAllowing : kH yL_isAllowing cL_isAllowing 5 (some .int) [(0, 17, 20, 22)] 4 := ⟨cw_yL_isAllowing, ⟨by decide, by decide⟩, by decide +kernel, in_RL, st_yL_isAllowing⟩
theorem kh_L_rightsOfEntry : kH yL_rightsOfEntry cL_rightsOfEntry 5 (some .int) [(0, 10, 13, 22)] 4 := ⟨cw_yL_rightsOfEntry, ⟨by decide, by decide⟩, by decide +kernel, in_RL, st_yL_rightsOfEntry⟩
theorem kh_L_userOfEntry : kH yL_userOfEntry cL_userOfEntry 5 (some .int) [(0, 10, 13, 22)] 4 := ⟨cw_yL_userOfEntry, ⟨by decide, by decide⟩, by decide +kernel, in_RL, st_yL_userOfEntry⟩
theorem kh_L_groupOfEntry : kH yL_groupOfEntry cL_groupOfEntry 5 (some .int) [(0, 10, 13, 22)] 4 := ⟨cw_yL_groupOfEntry, ⟨by decide, by decide⟩, by decide +kernel, in_RL, st_yL_groupOfEntry⟩
theorem kh_L_isForOwner : kH yL_isForOwner cL_isForOwner 5 (some .int) [(0, 17, 20, 22)] 4 := ⟨cw_yL_isForOwner, ⟨by decide, by decide⟩, by decide +kernel, in_RL, st_yL_isForOwner⟩
theorem kh_L_isForBelow : kH yL_isForBelow cL_isForBelow 5 (some .int) [(0, 17, 20, 22)] 4 := ⟨cw_yL_isForBelow, ⟨by decide, by decide⟩, by decide +kernel, in_RL, st_yL_isForBelow⟩
theorem kh_L_isAllowed : kH yL_isAllowed cL_isAllowed 6 (some .int) [(0, 19, 22, 22), (0, 19, 26, 49)] 5 := ⟨cw_yL_isAllowed, ⟨by decide, by decide⟩, by decide +kernel, in_RL, st_yL_isAllowed⟩
theorem kh_L_isAllowedByHandingDown : kH yL_isAllowedByHandingDown cL_isAllowedByHandingDown 6 (some .int) [(0, 19, 22, 22), (0, 19, 26, 49)] 5 := ⟨cw_yL_isAllowedByHandingDown, ⟨by decide, by decide⟩, by decide +kernel, in_RL, st_yL_isAllowedByHandingDown⟩
theorem kh_L_rightsOf : kH yL_rightsOf cL_rightsOf 5 (some .int) [(0, 10, 13, 22)] 4 := ⟨cw_yL_rightsOf, ⟨by decide, by decide⟩, by decide +kernel, in_RL, st_yL_rightsOf⟩
theorem kh_L_decidingObject : kH yL_decidingObject cL_decidingObject 6 (some .int) [(0, 12, 15, 22), (0, 12, 19, 49)] 5 := ⟨cw_yL_decidingObject, ⟨by decide, by decide⟩, by decide +kernel, in_RL, st_yL_decidingObject⟩
theorem kh_L_decidingEntry : kH yL_decidingEntry cL_decidingEntry 6 (some .int) [(0, 12, 15, 22), (0, 12, 19, 49)] 5 := ⟨cw_yL_decidingEntry, ⟨by decide, by decide⟩, by decide +kernel, in_RL, st_yL_decidingEntry⟩
theorem kh_L_isStoppedByMask : kH yL_isStoppedByMask cL_isStoppedByMask 6 (some .int) [(0, 19, 22, 22), (0, 19, 26, 49)] 5 := ⟨cw_yL_isStoppedByMask, ⟨by decide, by decide⟩, by decide +kernel, in_RL, st_yL_isStoppedByMask⟩
theorem kh_L_usersWith : kH yL_usersWith cL_usersWith 5 (some .int) [(0, 10, 13, 22), (0, 10, 17, 49)] 4 := ⟨cw_yL_usersWith, ⟨by decide, by decide⟩, by decide +kernel, in_RL, st_yL_usersWith⟩
theorem kh_L_rightsThrough : kH yL_rightsThrough cL_rightsThrough 5 (some .int) [(0, 10, 13, 22)] 4 := ⟨cw_yL_rightsThrough, ⟨by decide, by decide⟩, by decide +kernel, in_RL, st_yL_rightsThrough⟩
theorem kh_L_isNeedless : kH yL_isNeedless cL_isNeedless 5 (some .int) [(0, 17, 20, 22)] 4 := ⟨cw_yL_isNeedless, ⟨by decide, by decide⟩, by decide +kernel, in_RL, st_yL_isNeedless⟩
theorem kh_L_userOfRequest : kH yL_userOfRequest cL_userOfRequest 4 (some .int) [(0, 9, 12, 22)] 3 := ⟨cw_yL_userOfRequest, ⟨by decide, by decide⟩, by decide +kernel, in_RL, st_yL_userOfRequest⟩
theorem kh_L_objectOfRequest : kH yL_objectOfRequest cL_objectOfRequest 4 (some .int) [(0, 9, 12, 22)] 3 := ⟨cw_yL_objectOfRequest, ⟨by decide, by decide⟩, by decide +kernel, in_RL, st_yL_objectOfRequest⟩
theorem kh_L_wasAllowed : kH yL_wasAllowed cL_wasAllowed 4 (some .int) [(0, 16, 19, 22)] 3 := ⟨cw_yL_wasAllowed, ⟨by decide, by decide⟩, by decide +kernel, in_RL, st_yL_wasAllowed⟩
theorem kh_L_undo : kH yL_undo cL_undo 3 (some .int) [(0, 8, 11, 13)] 2 := ⟨cw_yL_undo, ⟨by decide, by decide⟩, by decide +kernel, in_RL, st_yL_undo⟩
theorem kh_L_save : kH yL_save cL_save 4 (some .int) [(0, 9, 12, 49)] 3 := ⟨cw_yL_save, ⟨by decide, by decide⟩, by decide +kernel, in_RL, st_yL_save⟩
theorem kh_L_restore : kH yL_restore cL_restore 4 (some .int) [(0, 9, 12, 49), (0, 9, 15, 13)] 3 := ⟨cw_yL_restore, ⟨by decide, by decide⟩, by decide +kernel, in_RL, st_yL_restore⟩
theorem lsL_th {Θ Θ2 : cTH} (h : Th Θ Θ2) {b z : Nat} {a5 a6 : Option Value} : lsL Θ b z a5 a6 = lsL Θ2 b z a5 a6 := by
  unfold lsL
  rw [h.r (r := 0) 14 (Or.inl (by decide)), h.r (r := 0) 29 (Or.inl (by decide)), h.r (r := 0) 38 (Or.inl (by decide))]
section LAWC0
variable {p : Program} {l : Launch} {e : Env} {s : State} {m : MethodId} {below : List Frame} {meth : Method} {c : Code} {Θ : cTH} {Q9 : State → Prop} {k n t b L : Nat} {xs : Nat → Int32} {G : GS}
set_option maxHeartbeats 2000000 in
set_option maxRecDepth 20000 in
theorem law_c0 (hx : lCx p l s m meth c b L xs Θ) (hS : Sim G t) (hz : 6 * t + 6 ≤ L) (hroom : k + 15 ≤ 601024 ∧ n + 262 ≤ 7293034) (kk : ∀ (Θ2 : cTH) (G2 : GS), Th Θ Θ2 → Sim G2 (t + 1) → VG p l e room_1 s m #[Value.ref b] below meth c 9 Θ2 Q9 (k + 15) (n + 262) 4427 (lsL Θ2 b (6 * t) none none) [] G2) : VG p l e room_1 s m #[Value.ref b] below meth c 9 Θ Q9 k n 316 (lsL Θ b (6 * t) none none) [] G := by
  have hC := hx.1
  have hl9 := hx.2.2.2.2
  have hL := hx.2.2.2.1
  have hop := op_addUser hS (show t < 2 ^ 20 by omega) 
  refine v_aload_n (i := 1) (q := 317) hC dL_law_316 rfl rfl rfl ?_
  refine v_aload_n (i := 3) (q := 318) hC dL_law_317 rfl rfl rfl ?_
  refine v_callSX (q := 321) (rm := rm_L_addUser) hC (w_L_addUser hl9 Θ  G (c_X11_addUser hl9 Θ  G ) hop.v (fun E G1 h => mem1 (hop.2 E G1 h).1)) kh_L_addUser ml_RL_195 dL_law_318 rfl rfl rfl (Nat.le_of_ble_eq_true rfl) ⟨Nat.le_of_ble_eq_true rfl, Nat.le_of_ble_eq_true rfl⟩ ⟨Nat.le_of_ble_eq_true rfl, Nat.le_of_ble_eq_true rfl⟩ hroom (fun v G1 hw => ?_) wQ_no
  obtain ⟨kv, rfl, hA, h2⟩ := hop.out cd1 hw
  have hM := hS.M.agC hA
  dsimp only [Option.toList, List.cons_append, List.nil_append]
  refine v_istore (q := 323) hC dL_law_321 rfl (lvc rfl) (Nat.le_of_ble_eq_true rfl) (Nat.le_of_ble_eq_true rfl) rfl ?_
  show VG p l e room_1 s m #[Value.ref b] below meth c 9 Θ Q9 (k + 15) (n + 262) 323 (lsL Θ b (6 * t) (some (.int kv)) none) [] G1
  refine v_aload_n (i := 2) (q := 324) hC dL_law_323 rfl rfl rfl ?_
  refine v_callV0 (q := 327) (rm := rm_X12_addUser) hC (c_X12_addUser hl9 _  G1 hM.1) k_X12_addUser im_yX12_addUser se_yX12_addUser ml_RL_200 dL_law_324 rfl rfl rfl rfl rfl rfl (Nat.le_of_ble_eq_true rfl) ⟨Nat.le_of_ble_eq_true rfl, Nat.le_of_ble_eq_true rfl⟩ ⟨rfl, rfl⟩ hroom (fun v2 G2 h3 => ?_) (fun E G2 h3 => by obtain ⟨y, h4, _⟩ := h2 _ _ h3; cases h4)
  obtain ⟨y, e4, h5, h6, h7⟩ := h2 _ _ h3
  cases e4
  dsimp only [Option.toList, List.cons_append, List.nil_append]
  exact law_tailI hx ⟨⟨dL_law_327, dL_law_329, dL_law_330, dL_law_333, dL_law_335, dL_law_340⟩, dL_law_342, dL_law_345, dL_law_346, dL_law_347, dL_law_348, dL_law_350, dL_law_351, dL_law_352, dL_law_357⟩ (by decide) h5 h6 hroom (kk Θ G2 (Th.refl Θ) h7)
set_option maxHeartbeats 2000000 in
set_option maxRecDepth 20000 in
theorem law_c1 (hx : lCx p l s m meth c b L xs Θ) (hS : Sim G t) (hz : 6 * t + 6 ≤ L) (hroom : k + 15 ≤ 601024 ∧ n + 262 ≤ 7293034) (kk : ∀ (Θ2 : cTH) (G2 : GS), Th Θ Θ2 → Sim G2 (t + 1) → VG p l e room_1 s m #[Value.ref b] below meth c 9 Θ2 Q9 (k + 15) (n + 262) 4427 (lsL Θ2 b (6 * t) none none) [] G2) : VG p l e room_1 s m #[Value.ref b] below meth c 9 Θ Q9 k n 360 (lsL Θ b (6 * t) none none) [] G := by
  have hC := hx.1
  have hl9 := hx.2.2.2.2
  have hL := hx.2.2.2.1
  have hop := op_addGroup hS (show t < 2 ^ 20 by omega) 
  refine v_aload_n (i := 1) (q := 361) hC dL_law_360 rfl rfl rfl ?_
  refine v_aload_n (i := 3) (q := 362) hC dL_law_361 rfl rfl rfl ?_
  refine v_callSX (q := 365) (rm := rm_L_addGroup) hC (w_L_addGroup hl9 Θ  G (c_X11_addGroup hl9 Θ  G ) hop.v (fun E G1 h => mem1 (hop.2 E G1 h).1)) kh_L_addGroup ml_RL_204 dL_law_362 rfl rfl rfl (Nat.le_of_ble_eq_true rfl) ⟨Nat.le_of_ble_eq_true rfl, Nat.le_of_ble_eq_true rfl⟩ ⟨Nat.le_of_ble_eq_true rfl, Nat.le_of_ble_eq_true rfl⟩ hroom (fun v G1 hw => ?_) wQ_no
  obtain ⟨kv, rfl, hA, h2⟩ := hop.out cd1 hw
  have hM := hS.M.agC hA
  dsimp only [Option.toList, List.cons_append, List.nil_append]
  refine v_istore (q := 367) hC dL_law_365 rfl (lvc rfl) (Nat.le_of_ble_eq_true rfl) (Nat.le_of_ble_eq_true rfl) rfl ?_
  show VG p l e room_1 s m #[Value.ref b] below meth c 9 Θ Q9 (k + 15) (n + 262) 367 (lsL Θ b (6 * t) (some (.int kv)) none) [] G1
  refine v_aload_n (i := 2) (q := 368) hC dL_law_367 rfl rfl rfl ?_
  refine v_callV0 (q := 371) (rm := rm_X12_addGroup) hC (c_X12_addGroup hl9 _  G1 hM.1) k_X12_addGroup im_yX12_addGroup se_yX12_addGroup ml_RL_206 dL_law_368 rfl rfl rfl rfl rfl rfl (Nat.le_of_ble_eq_true rfl) ⟨Nat.le_of_ble_eq_true rfl, Nat.le_of_ble_eq_true rfl⟩ ⟨rfl, rfl⟩ hroom (fun v2 G2 h3 => ?_) (fun E G2 h3 => by obtain ⟨y, h4, _⟩ := h2 _ _ h3; cases h4)
  obtain ⟨y, e4, h5, h6, h7⟩ := h2 _ _ h3
  cases e4
  dsimp only [Option.toList, List.cons_append, List.nil_append]
  exact law_tailI hx ⟨⟨dL_law_371, dL_law_373, dL_law_374, dL_law_377, dL_law_379, dL_law_384⟩, dL_law_386, dL_law_389, dL_law_390, dL_law_391, dL_law_392, dL_law_394, dL_law_395, dL_law_396, dL_law_401⟩ (by decide) h5 h6 hroom (kk Θ G2 (Th.refl Θ) h7)
set_option maxHeartbeats 2000000 in
set_option maxRecDepth 20000 in
theorem law_c2 (hx : lCx p l s m meth c b L xs Θ) (hS : Sim G t) (hz : 6 * t + 6 ≤ L) (hroom : k + 15 ≤ 601024 ∧ n + 262 ≤ 7293034) (kk : ∀ (Θ2 : cTH) (G2 : GS), Th Θ Θ2 → Sim G2 (t + 1) → VG p l e room_1 s m #[Value.ref b] below meth c 9 Θ2 Q9 (k + 15) (n + 262) 4427 (lsL Θ2 b (6 * t) none none) [] G2) : VG p l e room_1 s m #[Value.ref b] below meth c 9 Θ Q9 k n 404 (lsL Θ b (6 * t) none none) [] G := by
  have hC := hx.1
  have hl9 := hx.2.2.2.2
  have hL := hx.2.2.2.1
  have hop := op_join hS (show t < 2 ^ 20 by omega) (xs (6 * t + 1)) (xs (6 * t + 2))
  refine v_aload_n (i := 1) (q := 405) hC dL_law_404 rfl rfl rfl ?_
  refine v_arg (q := 411) hx 1 (by decide) ⟨dL_law_405, dL_law_406, dL_law_408, dL_law_409, dL_law_410⟩ rfl (by omega) ?_
  refine v_arg (q := 417) hx 2 (by decide) ⟨dL_law_411, dL_law_412, dL_law_414, dL_law_415, dL_law_416⟩ rfl (by omega) ?_
  refine v_aload_n (i := 3) (q := 418) hC dL_law_417 rfl rfl rfl ?_
  refine v_callSX (q := 421) (rm := rm_L_join) hC (w_L_join hl9 Θ (xs (6 * t + 1)) (xs (6 * t + 2)) G (c_X11_join hl9 Θ (xs (6 * t + 1)) (xs (6 * t + 2)) G hS.1.gOk_) hop.v (fun E G1 h => mem2 (hop.2 E G1 h).1)) kh_L_join ml_RL_207 dL_law_418 rfl rfl rfl (Nat.le_of_ble_eq_true rfl) ⟨Nat.le_of_ble_eq_true rfl, Nat.le_of_ble_eq_true rfl⟩ ⟨Nat.le_of_ble_eq_true rfl, Nat.le_of_ble_eq_true rfl⟩ hroom (fun v G1 hw => ?_) wQ_no
  obtain ⟨kv, rfl, hA, h2⟩ := hop.out cd2 hw
  have hM := hS.M.agC hA
  dsimp only [Option.toList, List.cons_append, List.nil_append]
  refine v_istore (q := 423) hC dL_law_421 rfl (lvc rfl) (Nat.le_of_ble_eq_true rfl) (Nat.le_of_ble_eq_true rfl) rfl ?_
  show VG p l e room_1 s m #[Value.ref b] below meth c 9 Θ Q9 (k + 15) (n + 262) 423 (lsL Θ b (6 * t) (some (.int kv)) none) [] G1
  refine v_aload_n (i := 2) (q := 424) hC dL_law_423 rfl rfl rfl ?_
  refine v_arg (q := 430) hx 1 (by decide) ⟨dL_law_424, dL_law_425, dL_law_427, dL_law_428, dL_law_429⟩ rfl (by omega) ?_
  refine v_arg (q := 436) hx 2 (by decide) ⟨dL_law_430, dL_law_431, dL_law_433, dL_law_434, dL_law_435⟩ rfl (by omega) ?_
  refine v_callV0 (q := 439) (rm := rm_X12_join) hC (c_X12_join hl9 _ (xs (6 * t + 1)) (xs (6 * t + 2)) G1 hM.1) k_X12_join im_yX12_join se_yX12_join ml_RL_210 dL_law_436 rfl rfl rfl rfl rfl rfl (Nat.le_of_ble_eq_true rfl) ⟨Nat.le_of_ble_eq_true rfl, Nat.le_of_ble_eq_true rfl⟩ ⟨rfl, rfl⟩ hroom (fun v2 G2 h3 => ?_) (fun E G2 h3 => by obtain ⟨y, h4, _⟩ := h2 _ _ h3; cases h4)
  obtain ⟨y, e4, h5, h6, h7⟩ := h2 _ _ h3
  cases e4
  dsimp only [Option.toList, List.cons_append, List.nil_append]
  exact law_tailI hx ⟨⟨dL_law_439, dL_law_441, dL_law_442, dL_law_445, dL_law_447, dL_law_452⟩, dL_law_454, dL_law_457, dL_law_458, dL_law_459, dL_law_460, dL_law_462, dL_law_463, dL_law_464, dL_law_469⟩ (by decide) h5 h6 hroom (kk Θ G2 (Th.refl Θ) h7)
set_option maxHeartbeats 2000000 in
set_option maxRecDepth 20000 in
theorem law_c3 (hx : lCx p l s m meth c b L xs Θ) (hS : Sim G t) (hz : 6 * t + 6 ≤ L) (hroom : k + 15 ≤ 601024 ∧ n + 262 ≤ 7293034) (kk : ∀ (Θ2 : cTH) (G2 : GS), Th Θ Θ2 → Sim G2 (t + 1) → VG p l e room_1 s m #[Value.ref b] below meth c 9 Θ2 Q9 (k + 15) (n + 262) 4427 (lsL Θ2 b (6 * t) none none) [] G2) : VG p l e room_1 s m #[Value.ref b] below meth c 9 Θ Q9 k n 472 (lsL Θ b (6 * t) none none) [] G := by
  have hC := hx.1
  have hl9 := hx.2.2.2.2
  have hL := hx.2.2.2.1
  have hop := op_leave hS (show t < 2 ^ 20 by omega) (xs (6 * t + 1)) (xs (6 * t + 2))
  refine v_aload_n (i := 1) (q := 473) hC dL_law_472 rfl rfl rfl ?_
  refine v_arg (q := 479) hx 1 (by decide) ⟨dL_law_473, dL_law_474, dL_law_476, dL_law_477, dL_law_478⟩ rfl (by omega) ?_
  refine v_arg (q := 485) hx 2 (by decide) ⟨dL_law_479, dL_law_480, dL_law_482, dL_law_483, dL_law_484⟩ rfl (by omega) ?_
  refine v_aload_n (i := 3) (q := 486) hC dL_law_485 rfl rfl rfl ?_
  refine v_callSX (q := 489) (rm := rm_L_leave) hC (w_L_leave hl9 Θ (xs (6 * t + 1)) (xs (6 * t + 2)) G (c_X11_leave hl9 Θ (xs (6 * t + 1)) (xs (6 * t + 2)) G hS.1.gOk_) hop.v (fun E G1 h => mem2 (hop.2 E G1 h).1)) kh_L_leave ml_RL_211 dL_law_486 rfl rfl rfl (Nat.le_of_ble_eq_true rfl) ⟨Nat.le_of_ble_eq_true rfl, Nat.le_of_ble_eq_true rfl⟩ ⟨Nat.le_of_ble_eq_true rfl, Nat.le_of_ble_eq_true rfl⟩ hroom (fun v G1 hw => ?_) wQ_no
  obtain ⟨kv, rfl, hA, h2⟩ := hop.out cd2 hw
  have hM := hS.M.agC hA
  dsimp only [Option.toList, List.cons_append, List.nil_append]
  refine v_istore (q := 491) hC dL_law_489 rfl (lvc rfl) (Nat.le_of_ble_eq_true rfl) (Nat.le_of_ble_eq_true rfl) rfl ?_
  show VG p l e room_1 s m #[Value.ref b] below meth c 9 Θ Q9 (k + 15) (n + 262) 491 (lsL Θ b (6 * t) (some (.int kv)) none) [] G1
  refine v_aload_n (i := 2) (q := 492) hC dL_law_491 rfl rfl rfl ?_
  refine v_arg (q := 498) hx 1 (by decide) ⟨dL_law_492, dL_law_493, dL_law_495, dL_law_496, dL_law_497⟩ rfl (by omega) ?_
  refine v_arg (q := 504) hx 2 (by decide) ⟨dL_law_498, dL_law_499, dL_law_501, dL_law_502, dL_law_503⟩ rfl (by omega) ?_
  refine v_callV0 (q := 507) (rm := rm_X12_leave) hC (c_X12_leave hl9 _ (xs (6 * t + 1)) (xs (6 * t + 2)) G1 hM.1) k_X12_leave im_yX12_leave se_yX12_leave ml_RL_213 dL_law_504 rfl rfl rfl rfl rfl rfl (Nat.le_of_ble_eq_true rfl) ⟨Nat.le_of_ble_eq_true rfl, Nat.le_of_ble_eq_true rfl⟩ ⟨rfl, rfl⟩ hroom (fun v2 G2 h3 => ?_) (fun E G2 h3 => by obtain ⟨y, h4, _⟩ := h2 _ _ h3; cases h4)
  obtain ⟨y, e4, h5, h6, h7⟩ := h2 _ _ h3
  cases e4
  dsimp only [Option.toList, List.cons_append, List.nil_append]
  exact law_tailI hx ⟨⟨dL_law_507, dL_law_509, dL_law_510, dL_law_513, dL_law_515, dL_law_520⟩, dL_law_522, dL_law_525, dL_law_526, dL_law_527, dL_law_528, dL_law_530, dL_law_531, dL_law_532, dL_law_537⟩ (by decide) h5 h6 hroom (kk Θ G2 (Th.refl Θ) h7)
set_option maxHeartbeats 2000000 in
set_option maxRecDepth 20000 in
theorem law_c4 (hx : lCx p l s m meth c b L xs Θ) (hS : Sim G t) (hz : 6 * t + 6 ≤ L) (hroom : k + 15 ≤ 601024 ∧ n + 262 ≤ 7293034) (kk : ∀ (Θ2 : cTH) (G2 : GS), Th Θ Θ2 → Sim G2 (t + 1) → VG p l e room_1 s m #[Value.ref b] below meth c 9 Θ2 Q9 (k + 15) (n + 262) 4427 (lsL Θ2 b (6 * t) none none) [] G2) : VG p l e room_1 s m #[Value.ref b] below meth c 9 Θ Q9 k n 540 (lsL Θ b (6 * t) none none) [] G := by
  have hC := hx.1
  have hl9 := hx.2.2.2.2
  have hL := hx.2.2.2.1
  have hop := op_nest hS (show t < 2 ^ 20 by omega) (xs (6 * t + 1)) (xs (6 * t + 2))
  refine v_aload_n (i := 1) (q := 541) hC dL_law_540 rfl rfl rfl ?_
  refine v_arg (q := 547) hx 1 (by decide) ⟨dL_law_541, dL_law_542, dL_law_544, dL_law_545, dL_law_546⟩ rfl (by omega) ?_
  refine v_arg (q := 553) hx 2 (by decide) ⟨dL_law_547, dL_law_548, dL_law_550, dL_law_551, dL_law_552⟩ rfl (by omega) ?_
  refine v_aload_n (i := 3) (q := 554) hC dL_law_553 rfl rfl rfl ?_
  refine v_callSX (q := 557) (rm := rm_L_nest) hC (w_L_nest hl9 Θ (xs (6 * t + 1)) (xs (6 * t + 2)) G (c_X11_nest hl9 Θ (xs (6 * t + 1)) (xs (6 * t + 2)) G hS.1.gOk_) hop.v (fun E G1 h => mem2 (hop.2 E G1 h).1)) kh_L_nest ml_RL_214 dL_law_554 rfl rfl rfl (Nat.le_of_ble_eq_true rfl) ⟨Nat.le_of_ble_eq_true rfl, Nat.le_of_ble_eq_true rfl⟩ ⟨Nat.le_of_ble_eq_true rfl, Nat.le_of_ble_eq_true rfl⟩ hroom (fun v G1 hw => ?_) wQ_no
  obtain ⟨kv, rfl, hA, h2⟩ := hop.out cd2 hw
  have hM := hS.M.agC hA
  dsimp only [Option.toList, List.cons_append, List.nil_append]
  refine v_istore (q := 559) hC dL_law_557 rfl (lvc rfl) (Nat.le_of_ble_eq_true rfl) (Nat.le_of_ble_eq_true rfl) rfl ?_
  show VG p l e room_1 s m #[Value.ref b] below meth c 9 Θ Q9 (k + 15) (n + 262) 559 (lsL Θ b (6 * t) (some (.int kv)) none) [] G1
  refine v_aload_n (i := 2) (q := 560) hC dL_law_559 rfl rfl rfl ?_
  refine v_arg (q := 566) hx 1 (by decide) ⟨dL_law_560, dL_law_561, dL_law_563, dL_law_564, dL_law_565⟩ rfl (by omega) ?_
  refine v_arg (q := 572) hx 2 (by decide) ⟨dL_law_566, dL_law_567, dL_law_569, dL_law_570, dL_law_571⟩ rfl (by omega) ?_
  refine v_callV0 (q := 575) (rm := rm_X12_nest) hC (c_X12_nest hl9 _ (xs (6 * t + 1)) (xs (6 * t + 2)) G1 hM.1) k_X12_nest im_yX12_nest se_yX12_nest ml_RL_216 dL_law_572 rfl rfl rfl rfl rfl rfl (Nat.le_of_ble_eq_true rfl) ⟨Nat.le_of_ble_eq_true rfl, Nat.le_of_ble_eq_true rfl⟩ ⟨rfl, rfl⟩ hroom (fun v2 G2 h3 => ?_) (fun E G2 h3 => by obtain ⟨y, h4, _⟩ := h2 _ _ h3; cases h4)
  obtain ⟨y, e4, h5, h6, h7⟩ := h2 _ _ h3
  cases e4
  dsimp only [Option.toList, List.cons_append, List.nil_append]
  exact law_tailI hx ⟨⟨dL_law_575, dL_law_577, dL_law_578, dL_law_581, dL_law_583, dL_law_588⟩, dL_law_590, dL_law_593, dL_law_594, dL_law_595, dL_law_596, dL_law_598, dL_law_599, dL_law_600, dL_law_605⟩ (by decide) h5 h6 hroom (kk Θ G2 (Th.refl Θ) h7)
set_option maxHeartbeats 2000000 in
set_option maxRecDepth 20000 in
theorem law_c5 (hx : lCx p l s m meth c b L xs Θ) (hS : Sim G t) (hz : 6 * t + 6 ≤ L) (hroom : k + 15 ≤ 601024 ∧ n + 262 ≤ 7293034) (kk : ∀ (Θ2 : cTH) (G2 : GS), Th Θ Θ2 → Sim G2 (t + 1) → VG p l e room_1 s m #[Value.ref b] below meth c 9 Θ2 Q9 (k + 15) (n + 262) 4427 (lsL Θ2 b (6 * t) none none) [] G2) : VG p l e room_1 s m #[Value.ref b] below meth c 9 Θ Q9 k n 608 (lsL Θ b (6 * t) none none) [] G := by
  have hC := hx.1
  have hl9 := hx.2.2.2.2
  have hL := hx.2.2.2.1
  have hop := op_unnest hS (show t < 2 ^ 20 by omega) (xs (6 * t + 1)) (xs (6 * t + 2))
  refine v_aload_n (i := 1) (q := 609) hC dL_law_608 rfl rfl rfl ?_
  refine v_arg (q := 615) hx 1 (by decide) ⟨dL_law_609, dL_law_610, dL_law_612, dL_law_613, dL_law_614⟩ rfl (by omega) ?_
  refine v_arg (q := 621) hx 2 (by decide) ⟨dL_law_615, dL_law_616, dL_law_618, dL_law_619, dL_law_620⟩ rfl (by omega) ?_
  refine v_aload_n (i := 3) (q := 622) hC dL_law_621 rfl rfl rfl ?_
  refine v_callSX (q := 625) (rm := rm_L_unnest) hC (w_L_unnest hl9 Θ (xs (6 * t + 1)) (xs (6 * t + 2)) G (c_X11_unnest hl9 Θ (xs (6 * t + 1)) (xs (6 * t + 2)) G hS.1.gOk_) hop.v (fun E G1 h => mem2 (hop.2 E G1 h).1)) kh_L_unnest ml_RL_217 dL_law_622 rfl rfl rfl (Nat.le_of_ble_eq_true rfl) ⟨Nat.le_of_ble_eq_true rfl, Nat.le_of_ble_eq_true rfl⟩ ⟨Nat.le_of_ble_eq_true rfl, Nat.le_of_ble_eq_true rfl⟩ hroom (fun v G1 hw => ?_) wQ_no
  obtain ⟨kv, rfl, hA, h2⟩ := hop.out cd2 hw
  have hM := hS.M.agC hA
  dsimp only [Option.toList, List.cons_append, List.nil_append]
  refine v_istore (q := 627) hC dL_law_625 rfl (lvc rfl) (Nat.le_of_ble_eq_true rfl) (Nat.le_of_ble_eq_true rfl) rfl ?_
  show VG p l e room_1 s m #[Value.ref b] below meth c 9 Θ Q9 (k + 15) (n + 262) 627 (lsL Θ b (6 * t) (some (.int kv)) none) [] G1
  refine v_aload_n (i := 2) (q := 628) hC dL_law_627 rfl rfl rfl ?_
  refine v_arg (q := 634) hx 1 (by decide) ⟨dL_law_628, dL_law_629, dL_law_631, dL_law_632, dL_law_633⟩ rfl (by omega) ?_
  refine v_arg (q := 640) hx 2 (by decide) ⟨dL_law_634, dL_law_635, dL_law_637, dL_law_638, dL_law_639⟩ rfl (by omega) ?_
  refine v_callV0 (q := 643) (rm := rm_X12_unnest) hC (c_X12_unnest hl9 _ (xs (6 * t + 1)) (xs (6 * t + 2)) G1 hM.1) k_X12_unnest im_yX12_unnest se_yX12_unnest ml_RL_219 dL_law_640 rfl rfl rfl rfl rfl rfl (Nat.le_of_ble_eq_true rfl) ⟨Nat.le_of_ble_eq_true rfl, Nat.le_of_ble_eq_true rfl⟩ ⟨rfl, rfl⟩ hroom (fun v2 G2 h3 => ?_) (fun E G2 h3 => by obtain ⟨y, h4, _⟩ := h2 _ _ h3; cases h4)
  obtain ⟨y, e4, h5, h6, h7⟩ := h2 _ _ h3
  cases e4
  dsimp only [Option.toList, List.cons_append, List.nil_append]
  exact law_tailI hx ⟨⟨dL_law_643, dL_law_645, dL_law_646, dL_law_649, dL_law_651, dL_law_656⟩, dL_law_658, dL_law_661, dL_law_662, dL_law_663, dL_law_664, dL_law_666, dL_law_667, dL_law_668, dL_law_673⟩ (by decide) h5 h6 hroom (kk Θ G2 (Th.refl Θ) h7)
set_option maxHeartbeats 2000000 in
set_option maxRecDepth 20000 in
theorem law_c6 (hx : lCx p l s m meth c b L xs Θ) (hS : Sim G t) (hz : 6 * t + 6 ≤ L) (hroom : k + 15 ≤ 601024 ∧ n + 262 ≤ 7293034) (kk : ∀ (Θ2 : cTH) (G2 : GS), Th Θ Θ2 → Sim G2 (t + 1) → VG p l e room_1 s m #[Value.ref b] below meth c 9 Θ2 Q9 (k + 15) (n + 262) 4427 (lsL Θ2 b (6 * t) none none) [] G2) : VG p l e room_1 s m #[Value.ref b] below meth c 9 Θ Q9 k n 676 (lsL Θ b (6 * t) none none) [] G := by
  have hC := hx.1
  have hl9 := hx.2.2.2.2
  have hL := hx.2.2.2.1
  have hop := op_make hS (show t < 2 ^ 20 by omega) (xs (6 * t + 1)) (xs (6 * t + 2))
  refine v_aload_n (i := 1) (q := 677) hC dL_law_676 rfl rfl rfl ?_
  refine v_arg (q := 683) hx 1 (by decide) ⟨dL_law_677, dL_law_678, dL_law_680, dL_law_681, dL_law_682⟩ rfl (by omega) ?_
  refine v_arg (q := 689) hx 2 (by decide) ⟨dL_law_683, dL_law_684, dL_law_686, dL_law_687, dL_law_688⟩ rfl (by omega) ?_
  refine v_aload_n (i := 3) (q := 690) hC dL_law_689 rfl rfl rfl ?_
  refine v_callSX (q := 693) (rm := rm_L_make) hC (w_L_make hl9 Θ (xs (6 * t + 1)) (xs (6 * t + 2)) G (c_X11_make hl9 Θ (xs (6 * t + 1)) (xs (6 * t + 2)) G ) hop.v (fun E G1 h => mem2 (hop.2 E G1 h).1)) kh_L_make ml_RL_220 dL_law_690 rfl rfl rfl (Nat.le_of_ble_eq_true rfl) ⟨Nat.le_of_ble_eq_true rfl, Nat.le_of_ble_eq_true rfl⟩ ⟨Nat.le_of_ble_eq_true rfl, Nat.le_of_ble_eq_true rfl⟩ hroom (fun v G1 hw => ?_) wQ_no
  obtain ⟨kv, rfl, hA, h2⟩ := hop.out cd2 hw
  have hM := hS.M.agC hA
  dsimp only [Option.toList, List.cons_append, List.nil_append]
  refine v_istore (q := 695) hC dL_law_693 rfl (lvc rfl) (Nat.le_of_ble_eq_true rfl) (Nat.le_of_ble_eq_true rfl) rfl ?_
  show VG p l e room_1 s m #[Value.ref b] below meth c 9 Θ Q9 (k + 15) (n + 262) 695 (lsL Θ b (6 * t) (some (.int kv)) none) [] G1
  refine v_aload_n (i := 2) (q := 696) hC dL_law_695 rfl rfl rfl ?_
  refine v_arg (q := 702) hx 1 (by decide) ⟨dL_law_696, dL_law_697, dL_law_699, dL_law_700, dL_law_701⟩ rfl (by omega) ?_
  refine v_arg (q := 708) hx 2 (by decide) ⟨dL_law_702, dL_law_703, dL_law_705, dL_law_706, dL_law_707⟩ rfl (by omega) ?_
  refine v_callV0 (q := 711) (rm := rm_X12_make) hC (c_X12_make hl9 _ (xs (6 * t + 1)) (xs (6 * t + 2)) G1 hM.1) k_X12_make im_yX12_make se_yX12_make ml_RL_222 dL_law_708 rfl rfl rfl rfl rfl rfl (Nat.le_of_ble_eq_true rfl) ⟨Nat.le_of_ble_eq_true rfl, Nat.le_of_ble_eq_true rfl⟩ ⟨rfl, rfl⟩ hroom (fun v2 G2 h3 => ?_) (fun E G2 h3 => by obtain ⟨y, h4, _⟩ := h2 _ _ h3; cases h4)
  obtain ⟨y, e4, h5, h6, h7⟩ := h2 _ _ h3
  cases e4
  dsimp only [Option.toList, List.cons_append, List.nil_append]
  exact law_tailI hx ⟨⟨dL_law_711, dL_law_713, dL_law_714, dL_law_717, dL_law_719, dL_law_724⟩, dL_law_726, dL_law_729, dL_law_730, dL_law_731, dL_law_732, dL_law_734, dL_law_735, dL_law_736, dL_law_741⟩ (by decide) h5 h6 hroom (kk Θ G2 (Th.refl Θ) h7)
set_option maxHeartbeats 2000000 in
set_option maxRecDepth 20000 in
theorem law_c7 (hx : lCx p l s m meth c b L xs Θ) (hS : Sim G t) (hz : 6 * t + 6 ≤ L) (hroom : k + 15 ≤ 601024 ∧ n + 262 ≤ 7293034) (kk : ∀ (Θ2 : cTH) (G2 : GS), Th Θ Θ2 → Sim G2 (t + 1) → VG p l e room_1 s m #[Value.ref b] below meth c 9 Θ2 Q9 (k + 15) (n + 262) 4427 (lsL Θ2 b (6 * t) none none) [] G2) : VG p l e room_1 s m #[Value.ref b] below meth c 9 Θ Q9 k n 744 (lsL Θ b (6 * t) none none) [] G := by
  have hC := hx.1
  have hl9 := hx.2.2.2.2
  have hL := hx.2.2.2.1
  have hop := op_remove hS (show t < 2 ^ 20 by omega) (xs (6 * t + 1))
  refine v_aload_n (i := 1) (q := 745) hC dL_law_744 rfl rfl rfl ?_
  refine v_arg (q := 751) hx 1 (by decide) ⟨dL_law_745, dL_law_746, dL_law_748, dL_law_749, dL_law_750⟩ rfl (by omega) ?_
  refine v_aload_n (i := 3) (q := 752) hC dL_law_751 rfl rfl rfl ?_
  refine v_callSX (q := 755) (rm := rm_L_remove) hC (w_L_remove hl9 Θ (xs (6 * t + 1)) G (c_X11_remove hl9 Θ (xs (6 * t + 1)) G ) hop.v (fun E G1 h => mem2 (hop.2 E G1 h).1)) kh_L_remove ml_RL_223 dL_law_752 rfl rfl rfl (Nat.le_of_ble_eq_true rfl) ⟨Nat.le_of_ble_eq_true rfl, Nat.le_of_ble_eq_true rfl⟩ ⟨Nat.le_of_ble_eq_true rfl, Nat.le_of_ble_eq_true rfl⟩ hroom (fun v G1 hw => ?_) wQ_no
  obtain ⟨kv, rfl, hA, h2⟩ := hop.out cd2 hw
  have hM := hS.M.agC hA
  dsimp only [Option.toList, List.cons_append, List.nil_append]
  refine v_istore (q := 757) hC dL_law_755 rfl (lvc rfl) (Nat.le_of_ble_eq_true rfl) (Nat.le_of_ble_eq_true rfl) rfl ?_
  show VG p l e room_1 s m #[Value.ref b] below meth c 9 Θ Q9 (k + 15) (n + 262) 757 (lsL Θ b (6 * t) (some (.int kv)) none) [] G1
  refine v_aload_n (i := 2) (q := 758) hC dL_law_757 rfl rfl rfl ?_
  refine v_arg (q := 764) hx 1 (by decide) ⟨dL_law_758, dL_law_759, dL_law_761, dL_law_762, dL_law_763⟩ rfl (by omega) ?_
  refine v_callV0 (q := 767) (rm := rm_X12_remove) hC (c_X12_remove hl9 _ (xs (6 * t + 1)) G1 hM.1) k_X12_remove im_yX12_remove se_yX12_remove ml_RL_226 dL_law_764 rfl rfl rfl rfl rfl rfl (Nat.le_of_ble_eq_true rfl) ⟨Nat.le_of_ble_eq_true rfl, Nat.le_of_ble_eq_true rfl⟩ ⟨rfl, rfl⟩ hroom (fun v2 G2 h3 => ?_) (fun E G2 h3 => by obtain ⟨y, h4, _⟩ := h2 _ _ h3; cases h4)
  obtain ⟨y, e4, h5, h6, h7⟩ := h2 _ _ h3
  cases e4
  dsimp only [Option.toList, List.cons_append, List.nil_append]
  exact law_tailI hx ⟨⟨dL_law_767, dL_law_769, dL_law_770, dL_law_773, dL_law_775, dL_law_780⟩, dL_law_782, dL_law_785, dL_law_786, dL_law_787, dL_law_788, dL_law_790, dL_law_791, dL_law_792, dL_law_797⟩ (by decide) h5 h6 hroom (kk Θ G2 (Th.refl Θ) h7)
set_option maxHeartbeats 2000000 in
set_option maxRecDepth 20000 in
theorem law_c8 (hx : lCx p l s m meth c b L xs Θ) (hS : Sim G t) (hz : 6 * t + 6 ≤ L) (hroom : k + 15 ≤ 601024 ∧ n + 262 ≤ 7293034) (kk : ∀ (Θ2 : cTH) (G2 : GS), Th Θ Θ2 → Sim G2 (t + 1) → VG p l e room_1 s m #[Value.ref b] below meth c 9 Θ2 Q9 (k + 15) (n + 262) 4427 (lsL Θ2 b (6 * t) none none) [] G2) : VG p l e room_1 s m #[Value.ref b] below meth c 9 Θ Q9 k n 800 (lsL Θ b (6 * t) none none) [] G := by
  have hC := hx.1
  have hl9 := hx.2.2.2.2
  have hL := hx.2.2.2.1
  have hop := op_move hS (show t < 2 ^ 20 by omega) (xs (6 * t + 1)) (xs (6 * t + 2))
  refine v_aload_n (i := 1) (q := 801) hC dL_law_800 rfl rfl rfl ?_
  refine v_arg (q := 807) hx 1 (by decide) ⟨dL_law_801, dL_law_802, dL_law_804, dL_law_805, dL_law_806⟩ rfl (by omega) ?_
  refine v_arg (q := 813) hx 2 (by decide) ⟨dL_law_807, dL_law_808, dL_law_810, dL_law_811, dL_law_812⟩ rfl (by omega) ?_
  refine v_aload_n (i := 3) (q := 814) hC dL_law_813 rfl rfl rfl ?_
  refine v_callSX (q := 817) (rm := rm_L_move) hC (w_L_move hl9 Θ (xs (6 * t + 1)) (xs (6 * t + 2)) G (c_X11_move hl9 Θ (xs (6 * t + 1)) (xs (6 * t + 2)) G ) hop.v (fun E G1 h => mem2 (hop.2 E G1 h).1)) kh_L_move ml_RL_227 dL_law_814 rfl rfl rfl (Nat.le_of_ble_eq_true rfl) ⟨Nat.le_of_ble_eq_true rfl, Nat.le_of_ble_eq_true rfl⟩ ⟨Nat.le_of_ble_eq_true rfl, Nat.le_of_ble_eq_true rfl⟩ hroom (fun v G1 hw => ?_) wQ_no
  obtain ⟨kv, rfl, hA, h2⟩ := hop.out cd2 hw
  have hM := hS.M.agC hA
  dsimp only [Option.toList, List.cons_append, List.nil_append]
  refine v_istore (q := 819) hC dL_law_817 rfl (lvc rfl) (Nat.le_of_ble_eq_true rfl) (Nat.le_of_ble_eq_true rfl) rfl ?_
  show VG p l e room_1 s m #[Value.ref b] below meth c 9 Θ Q9 (k + 15) (n + 262) 819 (lsL Θ b (6 * t) (some (.int kv)) none) [] G1
  refine v_aload_n (i := 2) (q := 820) hC dL_law_819 rfl rfl rfl ?_
  refine v_arg (q := 826) hx 1 (by decide) ⟨dL_law_820, dL_law_821, dL_law_823, dL_law_824, dL_law_825⟩ rfl (by omega) ?_
  refine v_arg (q := 832) hx 2 (by decide) ⟨dL_law_826, dL_law_827, dL_law_829, dL_law_830, dL_law_831⟩ rfl (by omega) ?_
  refine v_callV0 (q := 835) (rm := rm_X12_move) hC (c_X12_move hl9 _ (xs (6 * t + 1)) (xs (6 * t + 2)) G1 hM.1) k_X12_move im_yX12_move se_yX12_move ml_RL_229 dL_law_832 rfl rfl rfl rfl rfl rfl (Nat.le_of_ble_eq_true rfl) ⟨Nat.le_of_ble_eq_true rfl, Nat.le_of_ble_eq_true rfl⟩ ⟨rfl, rfl⟩ hroom (fun v2 G2 h3 => ?_) (fun E G2 h3 => by obtain ⟨y, h4, _⟩ := h2 _ _ h3; cases h4)
  obtain ⟨y, e4, h5, h6, h7⟩ := h2 _ _ h3
  cases e4
  dsimp only [Option.toList, List.cons_append, List.nil_append]
  exact law_tailI hx ⟨⟨dL_law_835, dL_law_837, dL_law_838, dL_law_841, dL_law_843, dL_law_848⟩, dL_law_850, dL_law_853, dL_law_854, dL_law_855, dL_law_856, dL_law_858, dL_law_859, dL_law_860, dL_law_865⟩ (by decide) h5 h6 hroom (kk Θ G2 (Th.refl Θ) h7)
set_option maxHeartbeats 2000000 in
set_option maxRecDepth 20000 in
theorem law_c9 (hx : lCx p l s m meth c b L xs Θ) (hS : Sim G t) (hz : 6 * t + 6 ≤ L) (hroom : k + 15 ≤ 601024 ∧ n + 262 ≤ 7293034) (kk : ∀ (Θ2 : cTH) (G2 : GS), Th Θ Θ2 → Sim G2 (t + 1) → VG p l e room_1 s m #[Value.ref b] below meth c 9 Θ2 Q9 (k + 15) (n + 262) 4427 (lsL Θ2 b (6 * t) none none) [] G2) : VG p l e room_1 s m #[Value.ref b] below meth c 9 Θ Q9 k n 868 (lsL Θ b (6 * t) none none) [] G := by
  have hC := hx.1
  have hl9 := hx.2.2.2.2
  have hL := hx.2.2.2.1
  have hop := op_giveTo hS (show t < 2 ^ 20 by omega) (xs (6 * t + 1)) (xs (6 * t + 2))
  refine v_aload_n (i := 1) (q := 869) hC dL_law_868 rfl rfl rfl ?_
  refine v_arg (q := 875) hx 1 (by decide) ⟨dL_law_869, dL_law_870, dL_law_872, dL_law_873, dL_law_874⟩ rfl (by omega) ?_
  refine v_arg (q := 881) hx 2 (by decide) ⟨dL_law_875, dL_law_876, dL_law_878, dL_law_879, dL_law_880⟩ rfl (by omega) ?_
  refine v_aload_n (i := 3) (q := 882) hC dL_law_881 rfl rfl rfl ?_
  refine v_callSX (q := 885) (rm := rm_L_giveTo) hC (w_L_giveTo hl9 Θ (xs (6 * t + 1)) (xs (6 * t + 2)) G (c_X11_giveTo hl9 Θ (xs (6 * t + 1)) (xs (6 * t + 2)) G ) hop.v (fun E G1 h => mem1 (hop.2 E G1 h).1)) kh_L_giveTo ml_RL_230 dL_law_882 rfl rfl rfl (Nat.le_of_ble_eq_true rfl) ⟨Nat.le_of_ble_eq_true rfl, Nat.le_of_ble_eq_true rfl⟩ ⟨Nat.le_of_ble_eq_true rfl, Nat.le_of_ble_eq_true rfl⟩ hroom (fun v G1 hw => ?_) wQ_no
  obtain ⟨kv, rfl, hA, h2⟩ := hop.out cd1 hw
  have hM := hS.M.agC hA
  dsimp only [Option.toList, List.cons_append, List.nil_append]
  refine v_istore (q := 887) hC dL_law_885 rfl (lvc rfl) (Nat.le_of_ble_eq_true rfl) (Nat.le_of_ble_eq_true rfl) rfl ?_
  show VG p l e room_1 s m #[Value.ref b] below meth c 9 Θ Q9 (k + 15) (n + 262) 887 (lsL Θ b (6 * t) (some (.int kv)) none) [] G1
  refine v_aload_n (i := 2) (q := 888) hC dL_law_887 rfl rfl rfl ?_
  refine v_arg (q := 894) hx 1 (by decide) ⟨dL_law_888, dL_law_889, dL_law_891, dL_law_892, dL_law_893⟩ rfl (by omega) ?_
  refine v_arg (q := 900) hx 2 (by decide) ⟨dL_law_894, dL_law_895, dL_law_897, dL_law_898, dL_law_899⟩ rfl (by omega) ?_
  refine v_callV0 (q := 903) (rm := rm_X12_giveTo) hC (c_X12_giveTo hl9 _ (xs (6 * t + 1)) (xs (6 * t + 2)) G1 hM.1) k_X12_giveTo im_yX12_giveTo se_yX12_giveTo ml_RL_232 dL_law_900 rfl rfl rfl rfl rfl rfl (Nat.le_of_ble_eq_true rfl) ⟨Nat.le_of_ble_eq_true rfl, Nat.le_of_ble_eq_true rfl⟩ ⟨rfl, rfl⟩ hroom (fun v2 G2 h3 => ?_) (fun E G2 h3 => by obtain ⟨y, h4, _⟩ := h2 _ _ h3; cases h4)
  obtain ⟨y, e4, h5, h6, h7⟩ := h2 _ _ h3
  cases e4
  dsimp only [Option.toList, List.cons_append, List.nil_append]
  exact law_tailI hx ⟨⟨dL_law_903, dL_law_905, dL_law_906, dL_law_909, dL_law_911, dL_law_916⟩, dL_law_918, dL_law_921, dL_law_922, dL_law_923, dL_law_924, dL_law_926, dL_law_927, dL_law_928, dL_law_933⟩ (by decide) h5 h6 hroom (kk Θ G2 (Th.refl Θ) h7)
set_option maxHeartbeats 2000000 in
set_option maxRecDepth 20000 in
theorem law_c10 (hx : lCx p l s m meth c b L xs Θ) (hS : Sim G t) (hz : 6 * t + 6 ≤ L) (hroom : k + 15 ≤ 601024 ∧ n + 262 ≤ 7293034) (kk : ∀ (Θ2 : cTH) (G2 : GS), Th Θ Θ2 → Sim G2 (t + 1) → VG p l e room_1 s m #[Value.ref b] below meth c 9 Θ2 Q9 (k + 15) (n + 262) 4427 (lsL Θ2 b (6 * t) none none) [] G2) : VG p l e room_1 s m #[Value.ref b] below meth c 9 Θ Q9 k n 936 (lsL Θ b (6 * t) none none) [] G := by
  have hC := hx.1
  have hl9 := hx.2.2.2.2
  have hL := hx.2.2.2.1
  have hop := op_setMask hS (show t < 2 ^ 20 by omega) (xs (6 * t + 1)) (xs (6 * t + 2))
  refine v_aload_n (i := 1) (q := 937) hC dL_law_936 rfl rfl rfl ?_
  refine v_arg (q := 943) hx 1 (by decide) ⟨dL_law_937, dL_law_938, dL_law_940, dL_law_941, dL_law_942⟩ rfl (by omega) ?_
  refine v_arg (q := 949) hx 2 (by decide) ⟨dL_law_943, dL_law_944, dL_law_946, dL_law_947, dL_law_948⟩ rfl (by omega) ?_
  refine v_aload_n (i := 3) (q := 950) hC dL_law_949 rfl rfl rfl ?_
  refine v_callSX (q := 953) (rm := rm_L_setMask) hC (w_L_setMask hl9 Θ (xs (6 * t + 1)) (xs (6 * t + 2)) G (c_X11_setMask hl9 Θ (xs (6 * t + 1)) (xs (6 * t + 2)) G ) hop.v (fun E G1 h => mem2 (hop.2 E G1 h).1)) kh_L_setMask ml_RL_233 dL_law_950 rfl rfl rfl (Nat.le_of_ble_eq_true rfl) ⟨Nat.le_of_ble_eq_true rfl, Nat.le_of_ble_eq_true rfl⟩ ⟨Nat.le_of_ble_eq_true rfl, Nat.le_of_ble_eq_true rfl⟩ hroom (fun v G1 hw => ?_) wQ_no
  obtain ⟨kv, rfl, hA, h2⟩ := hop.out cd2 hw
  have hM := hS.M.agC hA
  dsimp only [Option.toList, List.cons_append, List.nil_append]
  refine v_istore (q := 955) hC dL_law_953 rfl (lvc rfl) (Nat.le_of_ble_eq_true rfl) (Nat.le_of_ble_eq_true rfl) rfl ?_
  show VG p l e room_1 s m #[Value.ref b] below meth c 9 Θ Q9 (k + 15) (n + 262) 955 (lsL Θ b (6 * t) (some (.int kv)) none) [] G1
  refine v_aload_n (i := 2) (q := 956) hC dL_law_955 rfl rfl rfl ?_
  refine v_arg (q := 962) hx 1 (by decide) ⟨dL_law_956, dL_law_957, dL_law_959, dL_law_960, dL_law_961⟩ rfl (by omega) ?_
  refine v_arg (q := 968) hx 2 (by decide) ⟨dL_law_962, dL_law_963, dL_law_965, dL_law_966, dL_law_967⟩ rfl (by omega) ?_
  refine v_callV0 (q := 971) (rm := rm_X12_setMask) hC (c_X12_setMask hl9 _ (xs (6 * t + 1)) (xs (6 * t + 2)) G1 hM.1) k_X12_setMask im_yX12_setMask se_yX12_setMask ml_RL_235 dL_law_968 rfl rfl rfl rfl rfl rfl (Nat.le_of_ble_eq_true rfl) ⟨Nat.le_of_ble_eq_true rfl, Nat.le_of_ble_eq_true rfl⟩ ⟨rfl, rfl⟩ hroom (fun v2 G2 h3 => ?_) (fun E G2 h3 => by obtain ⟨y, h4, _⟩ := h2 _ _ h3; cases h4)
  obtain ⟨y, e4, h5, h6, h7⟩ := h2 _ _ h3
  cases e4
  dsimp only [Option.toList, List.cons_append, List.nil_append]
  exact law_tailI hx ⟨⟨dL_law_971, dL_law_973, dL_law_974, dL_law_977, dL_law_979, dL_law_984⟩, dL_law_986, dL_law_989, dL_law_990, dL_law_991, dL_law_992, dL_law_994, dL_law_995, dL_law_996, dL_law_1001⟩ (by decide) h5 h6 hroom (kk Θ G2 (Th.refl Θ) h7)
set_option maxHeartbeats 2000000 in
set_option maxRecDepth 20000 in
theorem law_c11 (hx : lCx p l s m meth c b L xs Θ) (hS : Sim G t) (hz : 6 * t + 6 ≤ L) (hroom : k + 15 ≤ 601024 ∧ n + 262 ≤ 7293034) (kk : ∀ (Θ2 : cTH) (G2 : GS), Th Θ Θ2 → Sim G2 (t + 1) → VG p l e room_1 s m #[Value.ref b] below meth c 9 Θ2 Q9 (k + 15) (n + 262) 4427 (lsL Θ2 b (6 * t) none none) [] G2) : VG p l e room_1 s m #[Value.ref b] below meth c 9 Θ Q9 k n 1004 (lsL Θ b (6 * t) none none) [] G := by
  have hC := hx.1
  have hl9 := hx.2.2.2.2
  have hL := hx.2.2.2.1
  have hop := op_setInheriting hS (show t < 2 ^ 20 by omega) (xs (6 * t + 1)) (!decide (xs (6 * t + 2) = 0))
  refine v_aload_n (i := 1) (q := 1005) hC dL_law_1004 rfl rfl rfl ?_
  refine v_arg (q := 1011) hx 1 (by decide) ⟨dL_law_1005, dL_law_1006, dL_law_1008, dL_law_1009, dL_law_1010⟩ rfl (by omega) ?_
  refine v_argB (q := 1025) hx 2 (by decide) ⟨⟨dL_law_1011, dL_law_1012, dL_law_1014, dL_law_1015, dL_law_1016⟩, dL_law_1017, dL_law_1020, dL_law_1021, dL_law_1024⟩ rfl (by omega) ?_
  refine v_aload_n (i := 3) (q := 1026) hC dL_law_1025 rfl rfl rfl ?_
  refine v_callSX (q := 1029) (rm := rm_L_setInheriting) hC (w_L_setInheriting hl9 Θ (xs (6 * t + 1)) (b2i (!decide (xs (6 * t + 2) = 0))) G (c_X11_setInheriting hl9 Θ (xs (6 * t + 1)) (!decide (xs (6 * t + 2) = 0)) G ) hop.v (fun E G1 h => mem1 (hop.2 E G1 h).1)) kh_L_setInheriting ml_RL_236 dL_law_1026 rfl rfl rfl (Nat.le_of_ble_eq_true rfl) ⟨Nat.le_of_ble_eq_true rfl, Nat.le_of_ble_eq_true rfl⟩ ⟨Nat.le_of_ble_eq_true rfl, Nat.le_of_ble_eq_true rfl⟩ hroom (fun v G1 hw => ?_) wQ_no
  obtain ⟨kv, rfl, hA, h2⟩ := hop.out cd1 hw
  have hM := hS.M.agC hA
  dsimp only [Option.toList, List.cons_append, List.nil_append]
  refine v_istore (q := 1031) hC dL_law_1029 rfl (lvc rfl) (Nat.le_of_ble_eq_true rfl) (Nat.le_of_ble_eq_true rfl) rfl ?_
  show VG p l e room_1 s m #[Value.ref b] below meth c 9 Θ Q9 (k + 15) (n + 262) 1031 (lsL Θ b (6 * t) (some (.int kv)) none) [] G1
  refine v_aload_n (i := 2) (q := 1032) hC dL_law_1031 rfl rfl rfl ?_
  refine v_arg (q := 1038) hx 1 (by decide) ⟨dL_law_1032, dL_law_1033, dL_law_1035, dL_law_1036, dL_law_1037⟩ rfl (by omega) ?_
  refine v_argB (q := 1052) hx 2 (by decide) ⟨⟨dL_law_1038, dL_law_1039, dL_law_1041, dL_law_1042, dL_law_1043⟩, dL_law_1044, dL_law_1047, dL_law_1048, dL_law_1051⟩ rfl (by omega) ?_
  refine v_callV0 (q := 1055) (rm := rm_X12_setInheriting) hC (c_X12_setInheriting hl9 _ (xs (6 * t + 1)) (!decide (xs (6 * t + 2) = 0)) G1 hM.1) k_X12_setInheriting im_yX12_setInheriting se_yX12_setInheriting ml_RL_239 dL_law_1052 rfl rfl rfl rfl rfl rfl (Nat.le_of_ble_eq_true rfl) ⟨Nat.le_of_ble_eq_true rfl, Nat.le_of_ble_eq_true rfl⟩ ⟨rfl, rfl⟩ hroom (fun v2 G2 h3 => ?_) (fun E G2 h3 => by obtain ⟨y, h4, _⟩ := h2 _ _ h3; cases h4)
  obtain ⟨y, e4, h5, h6, h7⟩ := h2 _ _ h3
  cases e4
  dsimp only [Option.toList, List.cons_append, List.nil_append]
  exact law_tailZ hx ⟨⟨dL_law_1055, dL_law_1057, dL_law_1058, dL_law_1061, dL_law_1063, dL_law_1068⟩, dL_law_1070, dL_law_1073, dL_law_1074, dL_law_1075, dL_law_1076, dL_law_1078, dL_law_1081, dL_law_1082, dL_law_1085, dL_law_1086, dL_law_1087, dL_law_1092⟩ (by decide) h5 h6 hroom (kk Θ G2 (Th.refl Θ) h7)
set_option maxHeartbeats 2000000 in
set_option maxRecDepth 20000 in
theorem law_c12 (hx : lCx p l s m meth c b L xs Θ) (hS : Sim G t) (hz : 6 * t + 6 ≤ L) (hroom : k + 15 ≤ 601024 ∧ n + 262 ≤ 7293034) (kk : ∀ (Θ2 : cTH) (G2 : GS), Th Θ Θ2 → Sim G2 (t + 1) → VG p l e room_1 s m #[Value.ref b] below meth c 9 Θ2 Q9 (k + 15) (n + 262) 4427 (lsL Θ2 b (6 * t) none none) [] G2) : VG p l e room_1 s m #[Value.ref b] below meth c 9 Θ Q9 k n 1095 (lsL Θ b (6 * t) none none) [] G := by
  have hC := hx.1
  have hl9 := hx.2.2.2.2
  have hL := hx.2.2.2.1
  have hop := op_addForUser hS (show t < 2 ^ 20 by omega) (xs (6 * t + 1)) (xs (6 * t + 2)) (xs (6 * t + 3)) (!decide (xs (6 * t + 4) = 0)) (!decide (xs (6 * t + 5) = 0))
  refine v_aload_n (i := 1) (q := 1096) hC dL_law_1095 rfl rfl rfl ?_
  refine v_arg (q := 1102) hx 1 (by decide) ⟨dL_law_1096, dL_law_1097, dL_law_1099, dL_law_1100, dL_law_1101⟩ rfl (by omega) ?_
  refine v_arg (q := 1108) hx 2 (by decide) ⟨dL_law_1102, dL_law_1103, dL_law_1105, dL_law_1106, dL_law_1107⟩ rfl (by omega) ?_
  refine v_arg (q := 1114) hx 3 (by decide) ⟨dL_law_1108, dL_law_1109, dL_law_1111, dL_law_1112, dL_law_1113⟩ rfl (by omega) ?_
  refine v_argB (q := 1128) hx 4 (by decide) ⟨⟨dL_law_1114, dL_law_1115, dL_law_1117, dL_law_1118, dL_law_1119⟩, dL_law_1120, dL_law_1123, dL_law_1124, dL_law_1127⟩ rfl (by omega) ?_
  refine v_argB (q := 1142) hx 5 (by decide) ⟨⟨dL_law_1128, dL_law_1129, dL_law_1131, dL_law_1132, dL_law_1133⟩, dL_law_1134, dL_law_1137, dL_law_1138, dL_law_1141⟩ rfl (by omega) ?_
  refine v_aload_n (i := 3) (q := 1143) hC dL_law_1142 rfl rfl rfl ?_
  refine v_callSX (q := 1146) (rm := rm_L_addForUser) hC (w_L_addForUser hl9 Θ (xs (6 * t + 1)) (xs (6 * t + 2)) (xs (6 * t + 3)) (b2i (!decide (xs (6 * t + 4) = 0))) (b2i (!decide (xs (6 * t + 5) = 0))) G (c_X11_addForUser hl9 Θ (xs (6 * t + 1)) (xs (6 * t + 2)) (xs (6 * t + 3)) (!decide (xs (6 * t + 4) = 0)) (!decide (xs (6 * t + 5) = 0)) G ) hop.v (fun E G1 h => mem3 (hop.2 E G1 h).1)) kh_L_addForUser ml_RL_240 dL_law_1143 rfl rfl rfl (Nat.le_of_ble_eq_true rfl) ⟨Nat.le_of_ble_eq_true rfl, Nat.le_of_ble_eq_true rfl⟩ ⟨Nat.le_of_ble_eq_true rfl, Nat.le_of_ble_eq_true rfl⟩ hroom (fun v G1 hw => ?_) wQ_no
  obtain ⟨kv, rfl, hA, h2⟩ := hop.out cd3 hw
  have hM := hS.M.agC hA
  dsimp only [Option.toList, List.cons_append, List.nil_append]
  refine v_istore (q := 1148) hC dL_law_1146 rfl (lvc rfl) (Nat.le_of_ble_eq_true rfl) (Nat.le_of_ble_eq_true rfl) rfl ?_
  show VG p l e room_1 s m #[Value.ref b] below meth c 9 Θ Q9 (k + 15) (n + 262) 1148 (lsL Θ b (6 * t) (some (.int kv)) none) [] G1
  refine v_aload_n (i := 2) (q := 1149) hC dL_law_1148 rfl rfl rfl ?_
  refine v_arg (q := 1155) hx 1 (by decide) ⟨dL_law_1149, dL_law_1150, dL_law_1152, dL_law_1153, dL_law_1154⟩ rfl (by omega) ?_
  refine v_arg (q := 1161) hx 2 (by decide) ⟨dL_law_1155, dL_law_1156, dL_law_1158, dL_law_1159, dL_law_1160⟩ rfl (by omega) ?_
  refine v_arg (q := 1167) hx 3 (by decide) ⟨dL_law_1161, dL_law_1162, dL_law_1164, dL_law_1165, dL_law_1166⟩ rfl (by omega) ?_
  refine v_argB (q := 1181) hx 4 (by decide) ⟨⟨dL_law_1167, dL_law_1168, dL_law_1170, dL_law_1171, dL_law_1172⟩, dL_law_1173, dL_law_1176, dL_law_1177, dL_law_1180⟩ rfl (by omega) ?_
  refine v_argB (q := 1195) hx 5 (by decide) ⟨⟨dL_law_1181, dL_law_1182, dL_law_1184, dL_law_1185, dL_law_1186⟩, dL_law_1187, dL_law_1190, dL_law_1191, dL_law_1194⟩ rfl (by omega) ?_
  refine v_callV0 (q := 1198) (rm := rm_X12_addForUser) hC (c_X12_addForUser hl9 _ (xs (6 * t + 1)) (xs (6 * t + 2)) (xs (6 * t + 3)) (!decide (xs (6 * t + 4) = 0)) (!decide (xs (6 * t + 5) = 0)) G1 hM.1) k_X12_addForUser im_yX12_addForUser se_yX12_addForUser ml_RL_243 dL_law_1195 rfl rfl rfl rfl rfl rfl (Nat.le_of_ble_eq_true rfl) ⟨Nat.le_of_ble_eq_true rfl, Nat.le_of_ble_eq_true rfl⟩ ⟨rfl, rfl⟩ hroom (fun v2 G2 h3 => ?_) (fun E G2 h3 => by obtain ⟨y, h4, _⟩ := h2 _ _ h3; cases h4)
  obtain ⟨y, e4, h5, h6, h7⟩ := h2 _ _ h3
  cases e4
  dsimp only [Option.toList, List.cons_append, List.nil_append]
  exact law_tailI hx ⟨⟨dL_law_1198, dL_law_1200, dL_law_1201, dL_law_1204, dL_law_1206, dL_law_1211⟩, dL_law_1213, dL_law_1216, dL_law_1217, dL_law_1218, dL_law_1219, dL_law_1221, dL_law_1222, dL_law_1223, dL_law_1228⟩ (by decide) h5 h6 hroom (kk Θ G2 (Th.refl Θ) h7)
set_option maxHeartbeats 2000000 in
set_option maxRecDepth 20000 in
theorem law_c13 (hx : lCx p l s m meth c b L xs Θ) (hS : Sim G t) (hz : 6 * t + 6 ≤ L) (hroom : k + 15 ≤ 601024 ∧ n + 262 ≤ 7293034) (kk : ∀ (Θ2 : cTH) (G2 : GS), Th Θ Θ2 → Sim G2 (t + 1) → VG p l e room_1 s m #[Value.ref b] below meth c 9 Θ2 Q9 (k + 15) (n + 262) 4427 (lsL Θ2 b (6 * t) none none) [] G2) : VG p l e room_1 s m #[Value.ref b] below meth c 9 Θ Q9 k n 1231 (lsL Θ b (6 * t) none none) [] G := by
  have hC := hx.1
  have hl9 := hx.2.2.2.2
  have hL := hx.2.2.2.1
  have hop := op_addForGroup hS (show t < 2 ^ 20 by omega) (xs (6 * t + 1)) (xs (6 * t + 2)) (xs (6 * t + 3)) (!decide (xs (6 * t + 4) = 0)) (!decide (xs (6 * t + 5) = 0))
  refine v_aload_n (i := 1) (q := 1232) hC dL_law_1231 rfl rfl rfl ?_
  refine v_arg (q := 1238) hx 1 (by decide) ⟨dL_law_1232, dL_law_1233, dL_law_1235, dL_law_1236, dL_law_1237⟩ rfl (by omega) ?_
  refine v_arg (q := 1244) hx 2 (by decide) ⟨dL_law_1238, dL_law_1239, dL_law_1241, dL_law_1242, dL_law_1243⟩ rfl (by omega) ?_
  refine v_arg (q := 1250) hx 3 (by decide) ⟨dL_law_1244, dL_law_1245, dL_law_1247, dL_law_1248, dL_law_1249⟩ rfl (by omega) ?_
  refine v_argB (q := 1264) hx 4 (by decide) ⟨⟨dL_law_1250, dL_law_1251, dL_law_1253, dL_law_1254, dL_law_1255⟩, dL_law_1256, dL_law_1259, dL_law_1260, dL_law_1263⟩ rfl (by omega) ?_
  refine v_argB (q := 1278) hx 5 (by decide) ⟨⟨dL_law_1264, dL_law_1265, dL_law_1267, dL_law_1268, dL_law_1269⟩, dL_law_1270, dL_law_1273, dL_law_1274, dL_law_1277⟩ rfl (by omega) ?_
  refine v_aload_n (i := 3) (q := 1279) hC dL_law_1278 rfl rfl rfl ?_
  refine v_callSX (q := 1282) (rm := rm_L_addForGroup) hC (w_L_addForGroup hl9 Θ (xs (6 * t + 1)) (xs (6 * t + 2)) (xs (6 * t + 3)) (b2i (!decide (xs (6 * t + 4) = 0))) (b2i (!decide (xs (6 * t + 5) = 0))) G (c_X11_addForGroup hl9 Θ (xs (6 * t + 1)) (xs (6 * t + 2)) (xs (6 * t + 3)) (!decide (xs (6 * t + 4) = 0)) (!decide (xs (6 * t + 5) = 0)) G ) hop.v (fun E G1 h => mem3 (hop.2 E G1 h).1)) kh_L_addForGroup ml_RL_244 dL_law_1279 rfl rfl rfl (Nat.le_of_ble_eq_true rfl) ⟨Nat.le_of_ble_eq_true rfl, Nat.le_of_ble_eq_true rfl⟩ ⟨Nat.le_of_ble_eq_true rfl, Nat.le_of_ble_eq_true rfl⟩ hroom (fun v G1 hw => ?_) wQ_no
  obtain ⟨kv, rfl, hA, h2⟩ := hop.out cd3 hw
  have hM := hS.M.agC hA
  dsimp only [Option.toList, List.cons_append, List.nil_append]
  refine v_istore (q := 1284) hC dL_law_1282 rfl (lvc rfl) (Nat.le_of_ble_eq_true rfl) (Nat.le_of_ble_eq_true rfl) rfl ?_
  show VG p l e room_1 s m #[Value.ref b] below meth c 9 Θ Q9 (k + 15) (n + 262) 1284 (lsL Θ b (6 * t) (some (.int kv)) none) [] G1
  refine v_aload_n (i := 2) (q := 1285) hC dL_law_1284 rfl rfl rfl ?_
  refine v_arg (q := 1291) hx 1 (by decide) ⟨dL_law_1285, dL_law_1286, dL_law_1288, dL_law_1289, dL_law_1290⟩ rfl (by omega) ?_
  refine v_arg (q := 1297) hx 2 (by decide) ⟨dL_law_1291, dL_law_1292, dL_law_1294, dL_law_1295, dL_law_1296⟩ rfl (by omega) ?_
  refine v_arg (q := 1303) hx 3 (by decide) ⟨dL_law_1297, dL_law_1298, dL_law_1300, dL_law_1301, dL_law_1302⟩ rfl (by omega) ?_
  refine v_argB (q := 1317) hx 4 (by decide) ⟨⟨dL_law_1303, dL_law_1304, dL_law_1306, dL_law_1307, dL_law_1308⟩, dL_law_1309, dL_law_1312, dL_law_1313, dL_law_1316⟩ rfl (by omega) ?_
  refine v_argB (q := 1331) hx 5 (by decide) ⟨⟨dL_law_1317, dL_law_1318, dL_law_1320, dL_law_1321, dL_law_1322⟩, dL_law_1323, dL_law_1326, dL_law_1327, dL_law_1330⟩ rfl (by omega) ?_
  refine v_callV0 (q := 1334) (rm := rm_X12_addForGroup) hC (c_X12_addForGroup hl9 _ (xs (6 * t + 1)) (xs (6 * t + 2)) (xs (6 * t + 3)) (!decide (xs (6 * t + 4) = 0)) (!decide (xs (6 * t + 5) = 0)) G1 hM.1) k_X12_addForGroup im_yX12_addForGroup se_yX12_addForGroup ml_RL_246 dL_law_1331 rfl rfl rfl rfl rfl rfl (Nat.le_of_ble_eq_true rfl) ⟨Nat.le_of_ble_eq_true rfl, Nat.le_of_ble_eq_true rfl⟩ ⟨rfl, rfl⟩ hroom (fun v2 G2 h3 => ?_) (fun E G2 h3 => by obtain ⟨y, h4, _⟩ := h2 _ _ h3; cases h4)
  obtain ⟨y, e4, h5, h6, h7⟩ := h2 _ _ h3
  cases e4
  dsimp only [Option.toList, List.cons_append, List.nil_append]
  exact law_tailI hx ⟨⟨dL_law_1334, dL_law_1336, dL_law_1337, dL_law_1340, dL_law_1342, dL_law_1347⟩, dL_law_1349, dL_law_1352, dL_law_1353, dL_law_1354, dL_law_1355, dL_law_1357, dL_law_1358, dL_law_1359, dL_law_1364⟩ (by decide) h5 h6 hroom (kk Θ G2 (Th.refl Θ) h7)
set_option maxHeartbeats 2000000 in
set_option maxRecDepth 20000 in
theorem law_c14 (hx : lCx p l s m meth c b L xs Θ) (hS : Sim G t) (hz : 6 * t + 6 ≤ L) (hroom : k + 15 ≤ 601024 ∧ n + 262 ≤ 7293034) (kk : ∀ (Θ2 : cTH) (G2 : GS), Th Θ Θ2 → Sim G2 (t + 1) → VG p l e room_1 s m #[Value.ref b] below meth c 9 Θ2 Q9 (k + 15) (n + 262) 4427 (lsL Θ2 b (6 * t) none none) [] G2) : VG p l e room_1 s m #[Value.ref b] below meth c 9 Θ Q9 k n 1367 (lsL Θ b (6 * t) none none) [] G := by
  have hC := hx.1
  have hl9 := hx.2.2.2.2
  have hL := hx.2.2.2.1
  have hop := op_addForOwner hS (show t < 2 ^ 20 by omega) (xs (6 * t + 1)) (xs (6 * t + 2)) (!decide (xs (6 * t + 3) = 0)) (!decide (xs (6 * t + 4) = 0))
  refine v_aload_n (i := 1) (q := 1368) hC dL_law_1367 rfl rfl rfl ?_
  refine v_arg (q := 1374) hx 1 (by decide) ⟨dL_law_1368, dL_law_1369, dL_law_1371, dL_law_1372, dL_law_1373⟩ rfl (by omega) ?_
  refine v_arg (q := 1380) hx 2 (by decide) ⟨dL_law_1374, dL_law_1375, dL_law_1377, dL_law_1378, dL_law_1379⟩ rfl (by omega) ?_
  refine v_argB (q := 1394) hx 3 (by decide) ⟨⟨dL_law_1380, dL_law_1381, dL_law_1383, dL_law_1384, dL_law_1385⟩, dL_law_1386, dL_law_1389, dL_law_1390, dL_law_1393⟩ rfl (by omega) ?_
  refine v_argB (q := 1408) hx 4 (by decide) ⟨⟨dL_law_1394, dL_law_1395, dL_law_1397, dL_law_1398, dL_law_1399⟩, dL_law_1400, dL_law_1403, dL_law_1404, dL_law_1407⟩ rfl (by omega) ?_
  refine v_aload_n (i := 3) (q := 1409) hC dL_law_1408 rfl rfl rfl ?_
  refine v_callSX (q := 1412) (rm := rm_L_addForOwner) hC (w_L_addForOwner hl9 Θ (xs (6 * t + 1)) (xs (6 * t + 2)) (b2i (!decide (xs (6 * t + 3) = 0))) (b2i (!decide (xs (6 * t + 4) = 0))) G (c_X11_addForOwner hl9 Θ (xs (6 * t + 1)) (xs (6 * t + 2)) (!decide (xs (6 * t + 3) = 0)) (!decide (xs (6 * t + 4) = 0)) G ) hop.v (fun E G1 h => mem3 (hop.2 E G1 h).1)) kh_L_addForOwner ml_RL_247 dL_law_1409 rfl rfl rfl (Nat.le_of_ble_eq_true rfl) ⟨Nat.le_of_ble_eq_true rfl, Nat.le_of_ble_eq_true rfl⟩ ⟨Nat.le_of_ble_eq_true rfl, Nat.le_of_ble_eq_true rfl⟩ hroom (fun v G1 hw => ?_) wQ_no
  obtain ⟨kv, rfl, hA, h2⟩ := hop.out cd3 hw
  have hM := hS.M.agC hA
  dsimp only [Option.toList, List.cons_append, List.nil_append]
  refine v_istore (q := 1414) hC dL_law_1412 rfl (lvc rfl) (Nat.le_of_ble_eq_true rfl) (Nat.le_of_ble_eq_true rfl) rfl ?_
  show VG p l e room_1 s m #[Value.ref b] below meth c 9 Θ Q9 (k + 15) (n + 262) 1414 (lsL Θ b (6 * t) (some (.int kv)) none) [] G1
  refine v_aload_n (i := 2) (q := 1415) hC dL_law_1414 rfl rfl rfl ?_
  refine v_arg (q := 1421) hx 1 (by decide) ⟨dL_law_1415, dL_law_1416, dL_law_1418, dL_law_1419, dL_law_1420⟩ rfl (by omega) ?_
  refine v_arg (q := 1427) hx 2 (by decide) ⟨dL_law_1421, dL_law_1422, dL_law_1424, dL_law_1425, dL_law_1426⟩ rfl (by omega) ?_
  refine v_argB (q := 1441) hx 3 (by decide) ⟨⟨dL_law_1427, dL_law_1428, dL_law_1430, dL_law_1431, dL_law_1432⟩, dL_law_1433, dL_law_1436, dL_law_1437, dL_law_1440⟩ rfl (by omega) ?_
  refine v_argB (q := 1455) hx 4 (by decide) ⟨⟨dL_law_1441, dL_law_1442, dL_law_1444, dL_law_1445, dL_law_1446⟩, dL_law_1447, dL_law_1450, dL_law_1451, dL_law_1454⟩ rfl (by omega) ?_
  refine v_callV0 (q := 1458) (rm := rm_X12_addForOwner) hC (c_X12_addForOwner hl9 _ (xs (6 * t + 1)) (xs (6 * t + 2)) (!decide (xs (6 * t + 3) = 0)) (!decide (xs (6 * t + 4) = 0)) G1 hM.1) k_X12_addForOwner im_yX12_addForOwner se_yX12_addForOwner ml_RL_250 dL_law_1455 rfl rfl rfl rfl rfl rfl (Nat.le_of_ble_eq_true rfl) ⟨Nat.le_of_ble_eq_true rfl, Nat.le_of_ble_eq_true rfl⟩ ⟨rfl, rfl⟩ hroom (fun v2 G2 h3 => ?_) (fun E G2 h3 => by obtain ⟨y, h4, _⟩ := h2 _ _ h3; cases h4)
  obtain ⟨y, e4, h5, h6, h7⟩ := h2 _ _ h3
  cases e4
  dsimp only [Option.toList, List.cons_append, List.nil_append]
  exact law_tailI hx ⟨⟨dL_law_1458, dL_law_1460, dL_law_1461, dL_law_1464, dL_law_1466, dL_law_1471⟩, dL_law_1473, dL_law_1476, dL_law_1477, dL_law_1478, dL_law_1479, dL_law_1481, dL_law_1482, dL_law_1483, dL_law_1488⟩ (by decide) h5 h6 hroom (kk Θ G2 (Th.refl Θ) h7)
set_option maxHeartbeats 2000000 in
set_option maxRecDepth 20000 in
theorem law_c15 (hx : lCx p l s m meth c b L xs Θ) (hS : Sim G t) (hz : 6 * t + 6 ≤ L) (hroom : k + 15 ≤ 601024 ∧ n + 262 ≤ 7293034) (kk : ∀ (Θ2 : cTH) (G2 : GS), Th Θ Θ2 → Sim G2 (t + 1) → VG p l e room_1 s m #[Value.ref b] below meth c 9 Θ2 Q9 (k + 15) (n + 262) 4427 (lsL Θ2 b (6 * t) none none) [] G2) : VG p l e room_1 s m #[Value.ref b] below meth c 9 Θ Q9 k n 1491 (lsL Θ b (6 * t) none none) [] G := by
  have hC := hx.1
  have hl9 := hx.2.2.2.2
  have hL := hx.2.2.2.1
  have hop := op_addForAll hS (show t < 2 ^ 20 by omega) (xs (6 * t + 1)) (xs (6 * t + 2)) (!decide (xs (6 * t + 3) = 0)) (!decide (xs (6 * t + 4) = 0))
  refine v_aload_n (i := 1) (q := 1492) hC dL_law_1491 rfl rfl rfl ?_
  refine v_arg (q := 1498) hx 1 (by decide) ⟨dL_law_1492, dL_law_1493, dL_law_1495, dL_law_1496, dL_law_1497⟩ rfl (by omega) ?_
  refine v_arg (q := 1504) hx 2 (by decide) ⟨dL_law_1498, dL_law_1499, dL_law_1501, dL_law_1502, dL_law_1503⟩ rfl (by omega) ?_
  refine v_argB (q := 1518) hx 3 (by decide) ⟨⟨dL_law_1504, dL_law_1505, dL_law_1507, dL_law_1508, dL_law_1509⟩, dL_law_1510, dL_law_1513, dL_law_1514, dL_law_1517⟩ rfl (by omega) ?_
  refine v_argB (q := 1532) hx 4 (by decide) ⟨⟨dL_law_1518, dL_law_1519, dL_law_1521, dL_law_1522, dL_law_1523⟩, dL_law_1524, dL_law_1527, dL_law_1528, dL_law_1531⟩ rfl (by omega) ?_
  refine v_aload_n (i := 3) (q := 1533) hC dL_law_1532 rfl rfl rfl ?_
  refine v_callSX (q := 1536) (rm := rm_L_addForAll) hC (w_L_addForAll hl9 Θ (xs (6 * t + 1)) (xs (6 * t + 2)) (b2i (!decide (xs (6 * t + 3) = 0))) (b2i (!decide (xs (6 * t + 4) = 0))) G (c_X11_addForAll hl9 Θ (xs (6 * t + 1)) (xs (6 * t + 2)) (!decide (xs (6 * t + 3) = 0)) (!decide (xs (6 * t + 4) = 0)) G ) hop.v (fun E G1 h => mem3 (hop.2 E G1 h).1)) kh_L_addForAll ml_RL_251 dL_law_1533 rfl rfl rfl (Nat.le_of_ble_eq_true rfl) ⟨Nat.le_of_ble_eq_true rfl, Nat.le_of_ble_eq_true rfl⟩ ⟨Nat.le_of_ble_eq_true rfl, Nat.le_of_ble_eq_true rfl⟩ hroom (fun v G1 hw => ?_) wQ_no
  obtain ⟨kv, rfl, hA, h2⟩ := hop.out cd3 hw
  have hM := hS.M.agC hA
  dsimp only [Option.toList, List.cons_append, List.nil_append]
  refine v_istore (q := 1538) hC dL_law_1536 rfl (lvc rfl) (Nat.le_of_ble_eq_true rfl) (Nat.le_of_ble_eq_true rfl) rfl ?_
  show VG p l e room_1 s m #[Value.ref b] below meth c 9 Θ Q9 (k + 15) (n + 262) 1538 (lsL Θ b (6 * t) (some (.int kv)) none) [] G1
  refine v_aload_n (i := 2) (q := 1539) hC dL_law_1538 rfl rfl rfl ?_
  refine v_arg (q := 1545) hx 1 (by decide) ⟨dL_law_1539, dL_law_1540, dL_law_1542, dL_law_1543, dL_law_1544⟩ rfl (by omega) ?_
  refine v_arg (q := 1551) hx 2 (by decide) ⟨dL_law_1545, dL_law_1546, dL_law_1548, dL_law_1549, dL_law_1550⟩ rfl (by omega) ?_
  refine v_argB (q := 1565) hx 3 (by decide) ⟨⟨dL_law_1551, dL_law_1552, dL_law_1554, dL_law_1555, dL_law_1556⟩, dL_law_1557, dL_law_1560, dL_law_1561, dL_law_1564⟩ rfl (by omega) ?_
  refine v_argB (q := 1579) hx 4 (by decide) ⟨⟨dL_law_1565, dL_law_1566, dL_law_1568, dL_law_1569, dL_law_1570⟩, dL_law_1571, dL_law_1574, dL_law_1575, dL_law_1578⟩ rfl (by omega) ?_
  refine v_callV0 (q := 1582) (rm := rm_X12_addForAll) hC (c_X12_addForAll hl9 _ (xs (6 * t + 1)) (xs (6 * t + 2)) (!decide (xs (6 * t + 3) = 0)) (!decide (xs (6 * t + 4) = 0)) G1 hM.1) k_X12_addForAll im_yX12_addForAll se_yX12_addForAll ml_RL_253 dL_law_1579 rfl rfl rfl rfl rfl rfl (Nat.le_of_ble_eq_true rfl) ⟨Nat.le_of_ble_eq_true rfl, Nat.le_of_ble_eq_true rfl⟩ ⟨rfl, rfl⟩ hroom (fun v2 G2 h3 => ?_) (fun E G2 h3 => by obtain ⟨y, h4, _⟩ := h2 _ _ h3; cases h4)
  obtain ⟨y, e4, h5, h6, h7⟩ := h2 _ _ h3
  cases e4
  dsimp only [Option.toList, List.cons_append, List.nil_append]
  exact law_tailI hx ⟨⟨dL_law_1582, dL_law_1584, dL_law_1585, dL_law_1588, dL_law_1590, dL_law_1595⟩, dL_law_1597, dL_law_1600, dL_law_1601, dL_law_1602, dL_law_1603, dL_law_1605, dL_law_1606, dL_law_1607, dL_law_1612⟩ (by decide) h5 h6 hroom (kk Θ G2 (Th.refl Θ) h7)
end LAWC0
