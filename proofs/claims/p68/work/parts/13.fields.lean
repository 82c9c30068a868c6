/-! by program: each field read and written, each method with its room, each private of a nest mate -/
section FLD
variable {p : Program} {l : Launch} {e : Env} {R : Room} {s : State} {m : MethodId} {args : Array Value} {below : List Frame} {meth : Method} {c : Code} {cc : ByteArray} {nL : Nat} {own : String} {Θ : cTH} {Qp : cOut → GS → Prop} {Q9 : State → Prop} {mc ms k n pc q : Nat} {LS : List (Option Value)} {st rest : List Value} {G : GS}
theorem g_X9_0 (hC : cC p l s m args meth c cc nL own Θ) {r idx : Nat} (d : decode cc pc = .ok (.getfield idx, 3)) (hq : pc + 3 = q) (hid : okI G.2.2.1 r 0 = true) (hlk : Cond.fieldLink own idx "PermissionDesk$State" "club" "LPermissionDesk$Club;" ∈ wALL) (kk : VG p l e R s m args below meth c nL Θ Q9 k n q LS (.ref (tR Θ r 1) :: rest) G) : VG p l e R s m args below meth c nL Θ Q9 k n pc LS (.ref (tR Θ r 0) :: rest) G := v_get (ci := 8) (j := 0) (N := 4) (T := TX9) hC d hq hid rfl rfl inl9 (by decide) rfl hlk kk
theorem g_X9_1 (hC : cC p l s m args meth c cc nL own Θ) {r idx : Nat} (d : decode cc pc = .ok (.getfield idx, 3)) (hq : pc + 3 = q) (hid : okI G.2.2.1 r 0 = true) (hlk : Cond.fieldLink own idx "PermissionDesk$State" "tree" "LPermissionDesk$Tree;" ∈ wALL) (kk : VG p l e R s m args below meth c nL Θ Q9 k n q LS (.ref (tR Θ r 4) :: rest) G) : VG p l e R s m args below meth c nL Θ Q9 k n pc LS (.ref (tR Θ r 0) :: rest) G := v_get (ci := 8) (j := 1) (N := 4) (T := TX9) hC d hq hid rfl rfl inl9 (by decide) rfl hlk kk
theorem g_X9_2 (hC : cC p l s m args meth c cc nL own Θ) {r idx : Nat} (d : decode cc pc = .ok (.getfield idx, 3)) (hq : pc + 3 = q) (hid : okI G.2.2.1 r 0 = true) (hlk : Cond.fieldLink own idx "PermissionDesk$State" "lists" "LPermissionDesk$Lists;" ∈ wALL) (kk : VG p l e R s m args below meth c nL Θ Q9 k n q LS (.ref (tR Θ r 8) :: rest) G) : VG p l e R s m args below meth c nL Θ Q9 k n pc LS (.ref (tR Θ r 0) :: rest) G := v_get (ci := 8) (j := 2) (N := 4) (T := TX9) hC d hq hid rfl rfl inl9 (by decide) rfl hlk kk
theorem g_X9_3 (hC : cC p l s m args meth c cc nL own Θ) {r idx : Nat} (d : decode cc pc = .ok (.getfield idx, 3)) (hq : pc + 3 = q) (hid : okI G.2.2.1 r 0 = true) (hlk : Cond.fieldLink own idx "PermissionDesk$State" "log" "LPermissionDesk$Log;" ∈ wALL) (kk : VG p l e R s m args below meth c nL Θ Q9 k n q LS (.ref (tR Θ r 11) :: rest) G) : VG p l e R s m args below meth c nL Θ Q9 k n pc LS (.ref (tR Θ r 0) :: rest) G := v_get (ci := 8) (j := 3) (N := 4) (T := TX9) hC d hq hid rfl rfl inl9 (by decide) rfl hlk kk
theorem g_X0_0 (hC : cC p l s m args meth c cc nL own Θ) {r idx : Nat} (d : decode cc pc = .ok (.getfield idx, 3)) (hq : pc + 3 = q) (hid : okI G.2.2.1 r 1 = true) (hlk : Cond.fieldLink own idx "PermissionDesk$Club" "users" "I" ∈ wALL) (kk : VG p l e R s m args below meth c nL Θ Q9 k n q LS (.int (G.1 r 1 0) :: rest) G) : VG p l e R s m args below meth c nL Θ Q9 k n pc LS (.ref (tR Θ r 1) :: rest) G := v_get (ci := 0) (j := 0) (N := 4) (T := TX0) hC d hq hid rfl rfl inl0 (by decide) rfl hlk kk
theorem p_X0_0 (hC : cC p l s m args meth c cc nL own Θ) {r idx : Nat} {x : Int32} (d : decode cc pc = .ok (.putfield idx, 3)) (hq : pc + 3 = q) (hid : okI G.2.2.1 r 1 = true) (hlk : Cond.fieldLink own idx "PermissionDesk$Club" "users" "I" ∈ wALL) (kk : VG p l e R s m args below meth c nL Θ Q9 k n q LS rest (putF G r 1 0 x)) : VG p l e R s m args below meth c nL Θ Q9 k n pc LS (.int x :: .ref (tR Θ r 1) :: rest) G := v_put (ci := 0) (j := 0) (N := 4) (T := TX0) (ty0 := tyX0) hC d hq hid rfl rfl inl0 tyX0_ok nmX0 (by decide) (by decide +kernel) rfl (Nat.lt_of_lt_of_le (Nat.lt_succ_self 0) (Nat.le_of_ble_eq_true rfl)) hlk rfl kk
theorem g_X0_1 (hC : cC p l s m args meth c cc nL own Θ) {r idx : Nat} (d : decode cc pc = .ok (.getfield idx, 3)) (hq : pc + 3 = q) (hid : okI G.2.2.1 r 1 = true) (hlk : Cond.fieldLink own idx "PermissionDesk$Club" "groups" "I" ∈ wALL) (kk : VG p l e R s m args below meth c nL Θ Q9 k n q LS (.int (G.1 r 1 1) :: rest) G) : VG p l e R s m args below meth c nL Θ Q9 k n pc LS (.ref (tR Θ r 1) :: rest) G := v_get (ci := 0) (j := 1) (N := 4) (T := TX0) hC d hq hid rfl rfl inl0 (by decide) rfl hlk kk
theorem p_X0_1 (hC : cC p l s m args meth c cc nL own Θ) {r idx : Nat} {x : Int32} (d : decode cc pc = .ok (.putfield idx, 3)) (hq : pc + 3 = q) (hid : okI G.2.2.1 r 1 = true) (hlk : Cond.fieldLink own idx "PermissionDesk$Club" "groups" "I" ∈ wALL) (kk : VG p l e R s m args below meth c nL Θ Q9 k n q LS rest (putF G r 1 1 x)) : VG p l e R s m args below meth c nL Θ Q9 k n pc LS (.int x :: .ref (tR Θ r 1) :: rest) G := v_put (ci := 0) (j := 1) (N := 4) (T := TX0) (ty0 := tyX0) hC d hq hid rfl rfl inl0 tyX0_ok nmX0 (by decide) (by decide +kernel) rfl (Nat.lt_of_lt_of_le (Nat.lt_succ_self 1) (Nat.le_of_ble_eq_true rfl)) hlk rfl kk
theorem g_X0_2 (hC : cC p l s m args meth c cc nL own Θ) {r idx : Nat} (d : decode cc pc = .ok (.getfield idx, 3)) (hq : pc + 3 = q) (hid : okI G.2.2.1 r 1 = true) (hlk : Cond.fieldLink own idx "PermissionDesk$Club" "groupsOfUser" "[I" ∈ wALL) (kk : VG p l e R s m args below meth c nL Θ Q9 k n q LS (.ref (tR Θ r 2) :: rest) G) : VG p l e R s m args below meth c nL Θ Q9 k n pc LS (.ref (tR Θ r 1) :: rest) G := v_get (ci := 0) (j := 2) (N := 4) (T := TX0) hC d hq hid rfl rfl inl0 (by decide) rfl hlk kk
theorem g_X0_3 (hC : cC p l s m args meth c cc nL own Θ) {r idx : Nat} (d : decode cc pc = .ok (.getfield idx, 3)) (hq : pc + 3 = q) (hid : okI G.2.2.1 r 1 = true) (hlk : Cond.fieldLink own idx "PermissionDesk$Club" "outersOfGroup" "[I" ∈ wALL) (kk : VG p l e R s m args below meth c nL Θ Q9 k n q LS (.ref (tR Θ r 3) :: rest) G) : VG p l e R s m args below meth c nL Θ Q9 k n pc LS (.ref (tR Θ r 1) :: rest) G := v_get (ci := 0) (j := 3) (N := 4) (T := TX0) hC d hq hid rfl rfl inl0 (by decide) rfl hlk kk
theorem g_X10_0 (hC : cC p l s m args meth c cc nL own Θ) {r idx : Nat} (d : decode cc pc = .ok (.getfield idx, 3)) (hq : pc + 3 = q) (hid : okI G.2.2.1 r 4 = true) (hlk : Cond.fieldLink own idx "PermissionDesk$Tree" "there" "I" ∈ wALL) (kk : VG p l e R s m args below meth c nL Θ Q9 k n q LS (.int (G.1 r 4 0) :: rest) G) : VG p l e R s m args below meth c nL Θ Q9 k n pc LS (.ref (tR Θ r 4) :: rest) G := v_get (ci := 9) (j := 0) (N := 5) (T := TX10) hC d hq hid rfl rfl inl10 (by decide) rfl hlk kk
theorem p_X10_0 (hC : cC p l s m args meth c cc nL own Θ) {r idx : Nat} {x : Int32} (d : decode cc pc = .ok (.putfield idx, 3)) (hq : pc + 3 = q) (hid : okI G.2.2.1 r 4 = true) (hlk : Cond.fieldLink own idx "PermissionDesk$Tree" "there" "I" ∈ wALL) (kk : VG p l e R s m args below meth c nL Θ Q9 k n q LS rest (putF G r 4 0 x)) : VG p l e R s m args below meth c nL Θ Q9 k n pc LS (.int x :: .ref (tR Θ r 4) :: rest) G := v_put (ci := 9) (j := 0) (N := 5) (T := TX10) (ty0 := tyX10) hC d hq hid rfl rfl inl10 tyX10_ok nmX10 (by decide) (by decide +kernel) rfl (Nat.lt_of_lt_of_le (Nat.lt_succ_self 0) (Nat.le_of_ble_eq_true rfl)) hlk rfl kk
theorem g_X10_1 (hC : cC p l s m args meth c cc nL own Θ) {r idx : Nat} (d : decode cc pc = .ok (.getfield idx, 3)) (hq : pc + 3 = q) (hid : okI G.2.2.1 r 4 = true) (hlk : Cond.fieldLink own idx "PermissionDesk$Tree" "inheriting" "I" ∈ wALL) (kk : VG p l e R s m args below meth c nL Θ Q9 k n q LS (.int (G.1 r 4 1) :: rest) G) : VG p l e R s m args below meth c nL Θ Q9 k n pc LS (.ref (tR Θ r 4) :: rest) G := v_get (ci := 9) (j := 1) (N := 5) (T := TX10) hC d hq hid rfl rfl inl10 (by decide) rfl hlk kk
theorem p_X10_1 (hC : cC p l s m args meth c cc nL own Θ) {r idx : Nat} {x : Int32} (d : decode cc pc = .ok (.putfield idx, 3)) (hq : pc + 3 = q) (hid : okI G.2.2.1 r 4 = true) (hlk : Cond.fieldLink own idx "PermissionDesk$Tree" "inheriting" "I" ∈ wALL) (kk : VG p l e R s m args below meth c nL Θ Q9 k n q LS rest (putF G r 4 1 x)) : VG p l e R s m args below meth c nL Θ Q9 k n pc LS (.int x :: .ref (tR Θ r 4) :: rest) G := v_put (ci := 9) (j := 1) (N := 5) (T := TX10) (ty0 := tyX10) hC d hq hid rfl rfl inl10 tyX10_ok nmX10 (by decide) (by decide +kernel) rfl (Nat.lt_of_lt_of_le (Nat.lt_succ_self 1) (Nat.le_of_ble_eq_true rfl)) hlk rfl kk
theorem g_X10_2 (hC : cC p l s m args meth c cc nL own Θ) {r idx : Nat} (d : decode cc pc = .ok (.getfield idx, 3)) (hq : pc + 3 = q) (hid : okI G.2.2.1 r 4 = true) (hlk : Cond.fieldLink own idx "PermissionDesk$Tree" "parents" "[I" ∈ wALL) (kk : VG p l e R s m args below meth c nL Θ Q9 k n q LS (.ref (tR Θ r 5) :: rest) G) : VG p l e R s m args below meth c nL Θ Q9 k n pc LS (.ref (tR Θ r 4) :: rest) G := v_get (ci := 9) (j := 2) (N := 5) (T := TX10) hC d hq hid rfl rfl inl10 (by decide) rfl hlk kk
theorem g_X10_3 (hC : cC p l s m args meth c cc nL own Θ) {r idx : Nat} (d : decode cc pc = .ok (.getfield idx, 3)) (hq : pc + 3 = q) (hid : okI G.2.2.1 r 4 = true) (hlk : Cond.fieldLink own idx "PermissionDesk$Tree" "owners" "[I" ∈ wALL) (kk : VG p l e R s m args below meth c nL Θ Q9 k n q LS (.ref (tR Θ r 6) :: rest) G) : VG p l e R s m args below meth c nL Θ Q9 k n pc LS (.ref (tR Θ r 4) :: rest) G := v_get (ci := 9) (j := 3) (N := 5) (T := TX10) hC d hq hid rfl rfl inl10 (by decide) rfl hlk kk
theorem g_X10_4 (hC : cC p l s m args meth c cc nL own Θ) {r idx : Nat} (d : decode cc pc = .ok (.getfield idx, 3)) (hq : pc + 3 = q) (hid : okI G.2.2.1 r 4 = true) (hlk : Cond.fieldLink own idx "PermissionDesk$Tree" "masks" "[I" ∈ wALL) (kk : VG p l e R s m args below meth c nL Θ Q9 k n q LS (.ref (tR Θ r 7) :: rest) G) : VG p l e R s m args below meth c nL Θ Q9 k n pc LS (.ref (tR Θ r 4) :: rest) G := v_get (ci := 9) (j := 4) (N := 5) (T := TX10) hC d hq hid rfl rfl inl10 (by decide) rfl hlk kk
theorem g_X6_0 (hC : cC p l s m args meth c cc nL own Θ) {r idx : Nat} (d : decode cc pc = .ok (.getfield idx, 3)) (hq : pc + 3 = q) (hid : okI G.2.2.1 r 8 = true) (hlk : Cond.fieldLink own idx "PermissionDesk$Lists" "counts" "[I" ∈ wALL) (kk : VG p l e R s m args below meth c nL Θ Q9 k n q LS (.ref (tR Θ r 9) :: rest) G) : VG p l e R s m args below meth c nL Θ Q9 k n pc LS (.ref (tR Θ r 8) :: rest) G := v_get (ci := 5) (j := 0) (N := 2) (T := TX6) hC d hq hid rfl rfl inl6 (by decide) rfl hlk kk
theorem g_X6_1 (hC : cC p l s m args meth c cc nL own Θ) {r idx : Nat} (d : decode cc pc = .ok (.getfield idx, 3)) (hq : pc + 3 = q) (hid : okI G.2.2.1 r 8 = true) (hlk : Cond.fieldLink own idx "PermissionDesk$Lists" "entries" "[I" ∈ wALL) (kk : VG p l e R s m args below meth c nL Θ Q9 k n q LS (.ref (tR Θ r 10) :: rest) G) : VG p l e R s m args below meth c nL Θ Q9 k n pc LS (.ref (tR Θ r 8) :: rest) G := v_get (ci := 5) (j := 1) (N := 2) (T := TX6) hC d hq hid rfl rfl inl6 (by decide) rfl hlk kk
theorem g_X7_0 (hC : cC p l s m args meth c cc nL own Θ) {r idx : Nat} (d : decode cc pc = .ok (.getfield idx, 3)) (hq : pc + 3 = q) (hid : okI G.2.2.1 r 11 = true) (hlk : Cond.fieldLink own idx "PermissionDesk$Log" "requests" "I" ∈ wALL) (kk : VG p l e R s m args below meth c nL Θ Q9 k n q LS (.int (G.1 r 11 0) :: rest) G) : VG p l e R s m args below meth c nL Θ Q9 k n pc LS (.ref (tR Θ r 11) :: rest) G := v_get (ci := 6) (j := 0) (N := 5) (T := TX7) hC d hq hid rfl rfl inl7 (by decide) rfl hlk kk
theorem p_X7_0 (hC : cC p l s m args meth c cc nL own Θ) {r idx : Nat} {x : Int32} (d : decode cc pc = .ok (.putfield idx, 3)) (hq : pc + 3 = q) (hid : okI G.2.2.1 r 11 = true) (hlk : Cond.fieldLink own idx "PermissionDesk$Log" "requests" "I" ∈ wALL) (kk : VG p l e R s m args below meth c nL Θ Q9 k n q LS rest (putF G r 11 0 x)) : VG p l e R s m args below meth c nL Θ Q9 k n pc LS (.int x :: .ref (tR Θ r 11) :: rest) G := v_put (ci := 6) (j := 0) (N := 5) (T := TX7) (ty0 := tyX7) hC d hq hid rfl rfl inl7 tyX7_ok nmX7 (by decide) (by decide +kernel) rfl (Nat.lt_of_lt_of_le (Nat.lt_succ_self 0) (Nat.le_of_ble_eq_true rfl)) hlk rfl kk
theorem g_X7_1 (hC : cC p l s m args meth c cc nL own Θ) {r idx : Nat} (d : decode cc pc = .ok (.getfield idx, 3)) (hq : pc + 3 = q) (hid : okI G.2.2.1 r 11 = true) (hlk : Cond.fieldLink own idx "PermissionDesk$Log" "refusals" "I" ∈ wALL) (kk : VG p l e R s m args below meth c nL Θ Q9 k n q LS (.int (G.1 r 11 1) :: rest) G) : VG p l e R s m args below meth c nL Θ Q9 k n pc LS (.ref (tR Θ r 11) :: rest) G := v_get (ci := 6) (j := 1) (N := 5) (T := TX7) hC d hq hid rfl rfl inl7 (by decide) rfl hlk kk
theorem p_X7_1 (hC : cC p l s m args meth c cc nL own Θ) {r idx : Nat} {x : Int32} (d : decode cc pc = .ok (.putfield idx, 3)) (hq : pc + 3 = q) (hid : okI G.2.2.1 r 11 = true) (hlk : Cond.fieldLink own idx "PermissionDesk$Log" "refusals" "I" ∈ wALL) (kk : VG p l e R s m args below meth c nL Θ Q9 k n q LS rest (putF G r 11 1 x)) : VG p l e R s m args below meth c nL Θ Q9 k n pc LS (.int x :: .ref (tR Θ r 11) :: rest) G := v_put (ci := 6) (j := 1) (N := 5) (T := TX7) (ty0 := tyX7) hC d hq hid rfl rfl inl7 tyX7_ok nmX7 (by decide) (by decide +kernel) rfl (Nat.lt_of_lt_of_le (Nat.lt_succ_self 1) (Nat.le_of_ble_eq_true rfl)) hlk rfl kk
theorem g_X7_2 (hC : cC p l s m args meth c cc nL own Θ) {r idx : Nat} (d : decode cc pc = .ok (.getfield idx, 3)) (hq : pc + 3 = q) (hid : okI G.2.2.1 r 11 = true) (hlk : Cond.fieldLink own idx "PermissionDesk$Log" "granted" "I" ∈ wALL) (kk : VG p l e R s m args below meth c nL Θ Q9 k n q LS (.int (G.1 r 11 2) :: rest) G) : VG p l e R s m args below meth c nL Θ Q9 k n pc LS (.ref (tR Θ r 11) :: rest) G := v_get (ci := 6) (j := 2) (N := 5) (T := TX7) hC d hq hid rfl rfl inl7 (by decide) rfl hlk kk
theorem p_X7_2 (hC : cC p l s m args meth c cc nL own Θ) {r idx : Nat} {x : Int32} (d : decode cc pc = .ok (.putfield idx, 3)) (hq : pc + 3 = q) (hid : okI G.2.2.1 r 11 = true) (hlk : Cond.fieldLink own idx "PermissionDesk$Log" "granted" "I" ∈ wALL) (kk : VG p l e R s m args below meth c nL Θ Q9 k n q LS rest (putF G r 11 2 x)) : VG p l e R s m args below meth c nL Θ Q9 k n pc LS (.int x :: .ref (tR Θ r 11) :: rest) G := v_put (ci := 6) (j := 2) (N := 5) (T := TX7) (ty0 := tyX7) hC d hq hid rfl rfl inl7 tyX7_ok nmX7 (by decide) (by decide +kernel) rfl (Nat.lt_of_lt_of_le (Nat.lt_succ_self 2) (Nat.le_of_ble_eq_true rfl)) hlk rfl kk
theorem g_X7_3 (hC : cC p l s m args meth c cc nL own Θ) {r idx : Nat} (d : decode cc pc = .ok (.getfield idx, 3)) (hq : pc + 3 = q) (hid : okI G.2.2.1 r 11 = true) (hlk : Cond.fieldLink own idx "PermissionDesk$Log" "users" "[I" ∈ wALL) (kk : VG p l e R s m args below meth c nL Θ Q9 k n q LS (.ref (tR Θ r 12) :: rest) G) : VG p l e R s m args below meth c nL Θ Q9 k n pc LS (.ref (tR Θ r 11) :: rest) G := v_get (ci := 6) (j := 3) (N := 5) (T := TX7) hC d hq hid rfl rfl inl7 (by decide) rfl hlk kk
theorem g_X7_4 (hC : cC p l s m args meth c cc nL own Θ) {r idx : Nat} (d : decode cc pc = .ok (.getfield idx, 3)) (hq : pc + 3 = q) (hid : okI G.2.2.1 r 11 = true) (hlk : Cond.fieldLink own idx "PermissionDesk$Log" "objects" "[I" ∈ wALL) (kk : VG p l e R s m args below meth c nL Θ Q9 k n q LS (.ref (tR Θ r 13) :: rest) G) : VG p l e R s m args below meth c nL Θ Q9 k n pc LS (.ref (tR Θ r 11) :: rest) G := v_get (ci := 6) (j := 4) (N := 5) (T := TX7) hC d hq hid rfl rfl inl7 (by decide) rfl hlk kk
theorem g_X11_0 (hC : cC p l s m args meth c cc nL own Θ) {r idx : Nat} (d : decode cc pc = .ok (.getfield idx, 3)) (hq : pc + 3 = q) (hid : okI G.2.2.1 r 14 = true) (hlk : Cond.fieldLink own idx "PermissionDesk" "now" "LPermissionDesk$State;" ∈ wALL) (kk : VG p l e R s m args below meth c nL Θ Q9 k n q LS (.ref (tR Θ 0 0) :: rest) G) : VG p l e R s m args below meth c nL Θ Q9 k n pc LS (.ref (tR Θ r 14) :: rest) G := v_get (ci := 10) (j := 0) (N := 7) (T := TX11) hC d hq hid rfl rfl inl11 (by decide) rfl hlk kk
theorem g_X11_1 (hC : cC p l s m args meth c cc nL own Θ) {r idx : Nat} (d : decode cc pc = .ok (.getfield idx, 3)) (hq : pc + 3 = q) (hid : okI G.2.2.1 r 14 = true) (hlk : Cond.fieldLink own idx "PermissionDesk" "history" "LPermissionDesk$History;" ∈ wALL) (kk : VG p l e R s m args below meth c nL Θ Q9 k n q LS (.ref (tR Θ 0 15) :: rest) G) : VG p l e R s m args below meth c nL Θ Q9 k n pc LS (.ref (tR Θ r 14) :: rest) G := v_get (ci := 10) (j := 1) (N := 7) (T := TX11) hC d hq hid rfl rfl inl11 (by decide) rfl hlk kk
theorem g_X11_2 (hC : cC p l s m args meth c cc nL own Θ) {r idx : Nat} (d : decode cc pc = .ok (.getfield idx, 3)) (hq : pc + 3 = q) (hid : okI G.2.2.1 r 14 = true) (hlk : Cond.fieldLink own idx "PermissionDesk" "slots" "[LPermissionDesk$State;" ∈ wALL) (kk : VG p l e R s m args below meth c nL Θ Q9 k n q LS (.ref (tR Θ 0 17) :: rest) G) : VG p l e R s m args below meth c nL Θ Q9 k n pc LS (.ref (tR Θ r 14) :: rest) G := v_get (ci := 10) (j := 2) (N := 7) (T := TX11) hC d hq hid rfl rfl inl11 (by decide) rfl hlk kk
theorem g_X11_3 (hC : cC p l s m args meth c cc nL own Θ) {r idx : Nat} (d : decode cc pc = .ok (.getfield idx, 3)) (hq : pc + 3 = q) (hid : okI G.2.2.1 r 14 = true) (hlk : Cond.fieldLink own idx "PermissionDesk" "judge" "LPermissionDesk$Judge;" ∈ wALL) (kk : VG p l e R s m args below meth c nL Θ Q9 k n q LS (.ref (tR Θ 0 18) :: rest) G) : VG p l e R s m args below meth c nL Θ Q9 k n pc LS (.ref (tR Θ r 14) :: rest) G := v_get (ci := 10) (j := 3) (N := 7) (T := TX11) hC d hq hid rfl rfl inl11 (by decide) rfl hlk kk
theorem g_X11_4 (hC : cC p l s m args meth c cc nL own Θ) {r idx : Nat} (d : decode cc pc = .ok (.getfield idx, 3)) (hq : pc + 3 = q) (hid : okI G.2.2.1 r 14 = true) (hlk : Cond.fieldLink own idx "PermissionDesk" "handing" "LPermissionDesk$Handing;" ∈ wALL) (kk : VG p l e R s m args below meth c nL Θ Q9 k n q LS (.ref (tR Θ 0 22) :: rest) G) : VG p l e R s m args below meth c nL Θ Q9 k n pc LS (.ref (tR Θ r 14) :: rest) G := v_get (ci := 10) (j := 4) (N := 7) (T := TX11) hC d hq hid rfl rfl inl11 (by decide) rfl hlk kk
theorem g_X11_5 (hC : cC p l s m args meth c cc nL own Θ) {r idx : Nat} (d : decode cc pc = .ok (.getfield idx, 3)) (hq : pc + 3 = q) (hid : okI G.2.2.1 r 14 = true) (hlk : Cond.fieldLink own idx "PermissionDesk" "pad" "LPermissionDesk$Pad;" ∈ wALL) (kk : VG p l e R s m args below meth c nL Θ Q9 k n q LS (.ref (tR Θ 0 25) :: rest) G) : VG p l e R s m args below meth c nL Θ Q9 k n pc LS (.ref (tR Θ r 14) :: rest) G := v_get (ci := 10) (j := 5) (N := 7) (T := TX11) hC d hq hid rfl rfl inl11 (by decide) rfl hlk kk
theorem g_X11_6 (hC : cC p l s m args meth c cc nL own Θ) {r idx : Nat} (d : decode cc pc = .ok (.getfield idx, 3)) (hq : pc + 3 = q) (hid : okI G.2.2.1 r 14 = true) (hlk : Cond.fieldLink own idx "PermissionDesk" "text" "LPermissionDesk$ListText;" ∈ wALL) (kk : VG p l e R s m args below meth c nL Θ Q9 k n q LS (.ref (tR Θ 0 27) :: rest) G) : VG p l e R s m args below meth c nL Θ Q9 k n pc LS (.ref (tR Θ r 14) :: rest) G := v_get (ci := 10) (j := 6) (N := 7) (T := TX11) hC d hq hid rfl rfl inl11 (by decide) rfl hlk kk
theorem g_X3_0 (hC : cC p l s m args meth c cc nL own Θ) {r idx : Nat} (d : decode cc pc = .ok (.getfield idx, 3)) (hq : pc + 3 = q) (hid : okI G.2.2.1 r 15 = true) (hlk : Cond.fieldLink own idx "PermissionDesk$History" "kept" "I" ∈ wALL) (kk : VG p l e R s m args below meth c nL Θ Q9 k n q LS (.int (G.1 r 15 0) :: rest) G) : VG p l e R s m args below meth c nL Θ Q9 k n pc LS (.ref (tR Θ r 15) :: rest) G := v_get (ci := 2) (j := 0) (N := 3) (T := TX3) hC d hq hid rfl rfl inl3 (by decide) rfl hlk kk
theorem p_X3_0 (hC : cC p l s m args meth c cc nL own Θ) {r idx : Nat} {x : Int32} (d : decode cc pc = .ok (.putfield idx, 3)) (hq : pc + 3 = q) (hid : okI G.2.2.1 r 15 = true) (hlk : Cond.fieldLink own idx "PermissionDesk$History" "kept" "I" ∈ wALL) (kk : VG p l e R s m args below meth c nL Θ Q9 k n q LS rest (putF G r 15 0 x)) : VG p l e R s m args below meth c nL Θ Q9 k n pc LS (.int x :: .ref (tR Θ r 15) :: rest) G := v_put (ci := 2) (j := 0) (N := 3) (T := TX3) (ty0 := tyX3) hC d hq hid rfl rfl inl3 tyX3_ok nmX3 (by decide) (by decide +kernel) rfl (Nat.lt_of_lt_of_le (Nat.lt_succ_self 0) (Nat.le_of_ble_eq_true rfl)) hlk rfl kk
theorem g_X3_1 (hC : cC p l s m args meth c cc nL own Θ) {r idx : Nat} (d : decode cc pc = .ok (.getfield idx, 3)) (hq : pc + 3 = q) (hid : okI G.2.2.1 r 15 = true) (hlk : Cond.fieldLink own idx "PermissionDesk$History" "oldest" "I" ∈ wALL) (kk : VG p l e R s m args below meth c nL Θ Q9 k n q LS (.int (G.1 r 15 1) :: rest) G) : VG p l e R s m args below meth c nL Θ Q9 k n pc LS (.ref (tR Θ r 15) :: rest) G := v_get (ci := 2) (j := 1) (N := 3) (T := TX3) hC d hq hid rfl rfl inl3 (by decide) rfl hlk kk
theorem p_X3_1 (hC : cC p l s m args meth c cc nL own Θ) {r idx : Nat} {x : Int32} (d : decode cc pc = .ok (.putfield idx, 3)) (hq : pc + 3 = q) (hid : okI G.2.2.1 r 15 = true) (hlk : Cond.fieldLink own idx "PermissionDesk$History" "oldest" "I" ∈ wALL) (kk : VG p l e R s m args below meth c nL Θ Q9 k n q LS rest (putF G r 15 1 x)) : VG p l e R s m args below meth c nL Θ Q9 k n pc LS (.int x :: .ref (tR Θ r 15) :: rest) G := v_put (ci := 2) (j := 1) (N := 3) (T := TX3) (ty0 := tyX3) hC d hq hid rfl rfl inl3 tyX3_ok nmX3 (by decide) (by decide +kernel) rfl (Nat.lt_of_lt_of_le (Nat.lt_succ_self 1) (Nat.le_of_ble_eq_true rfl)) hlk rfl kk
theorem g_X3_2 (hC : cC p l s m args meth c cc nL own Θ) {r idx : Nat} (d : decode cc pc = .ok (.getfield idx, 3)) (hq : pc + 3 = q) (hid : okI G.2.2.1 r 15 = true) (hlk : Cond.fieldLink own idx "PermissionDesk$History" "rows" "[LPermissionDesk$State;" ∈ wALL) (kk : VG p l e R s m args below meth c nL Θ Q9 k n q LS (.ref (tR Θ 0 16) :: rest) G) : VG p l e R s m args below meth c nL Θ Q9 k n pc LS (.ref (tR Θ r 15) :: rest) G := v_get (ci := 2) (j := 2) (N := 3) (T := TX3) hC d hq hid rfl rfl inl3 (by decide) rfl hlk kk
theorem g_X4_0 (hC : cC p l s m args meth c cc nL own Θ) {r idx : Nat} (d : decode cc pc = .ok (.getfield idx, 3)) (hq : pc + 3 = q) (hid : okI G.2.2.1 r 18 = true) (hlk : Cond.fieldLink own idx "PermissionDesk$Judge" "places" "[I" ∈ wALL) (kk : VG p l e R s m args below meth c nL Θ Q9 k n q LS (.ref (tR Θ 0 19) :: rest) G) : VG p l e R s m args below meth c nL Θ Q9 k n pc LS (.ref (tR Θ r 18) :: rest) G := v_get (ci := 3) (j := 0) (N := 3) (T := TX4) hC d hq hid rfl rfl inl4 (by decide) rfl hlk kk
theorem g_X4_1 (hC : cC p l s m args meth c cc nL own Θ) {r idx : Nat} (d : decode cc pc = .ok (.getfield idx, 3)) (hq : pc + 3 = q) (hid : okI G.2.2.1 r 18 = true) (hlk : Cond.fieldLink own idx "PermissionDesk$Judge" "deciders" "[I" ∈ wALL) (kk : VG p l e R s m args below meth c nL Θ Q9 k n q LS (.ref (tR Θ 0 20) :: rest) G) : VG p l e R s m args below meth c nL Θ Q9 k n pc LS (.ref (tR Θ r 18) :: rest) G := v_get (ci := 3) (j := 1) (N := 3) (T := TX4) hC d hq hid rfl rfl inl4 (by decide) rfl hlk kk
theorem g_X4_2 (hC : cC p l s m args meth c cc nL own Θ) {r idx : Nat} (d : decode cc pc = .ok (.getfield idx, 3)) (hq : pc + 3 = q) (hid : okI G.2.2.1 r 18 = true) (hlk : Cond.fieldLink own idx "PermissionDesk$Judge" "table" "[I" ∈ wALL) (kk : VG p l e R s m args below meth c nL Θ Q9 k n q LS (.ref (tR Θ 0 21) :: rest) G) : VG p l e R s m args below meth c nL Θ Q9 k n pc LS (.ref (tR Θ r 18) :: rest) G := v_get (ci := 3) (j := 2) (N := 3) (T := TX4) hC d hq hid rfl rfl inl4 (by decide) rfl hlk kk
theorem g_X2_0 (hC : cC p l s m args meth c cc nL own Θ) {r idx : Nat} (d : decode cc pc = .ok (.getfield idx, 3)) (hq : pc + 3 = q) (hid : okI G.2.2.1 r 22 = true) (hlk : Cond.fieldLink own idx "PermissionDesk$Handing" "reached" "I" ∈ wALL) (kk : VG p l e R s m args below meth c nL Θ Q9 k n q LS (.int (G.1 r 22 0) :: rest) G) : VG p l e R s m args below meth c nL Θ Q9 k n pc LS (.ref (tR Θ r 22) :: rest) G := v_get (ci := 1) (j := 0) (N := 3) (T := TX2) hC d hq hid rfl rfl inl2 (by decide) rfl hlk kk
theorem p_X2_0 (hC : cC p l s m args meth c cc nL own Θ) {r idx : Nat} {x : Int32} (d : decode cc pc = .ok (.putfield idx, 3)) (hq : pc + 3 = q) (hid : okI G.2.2.1 r 22 = true) (hlk : Cond.fieldLink own idx "PermissionDesk$Handing" "reached" "I" ∈ wALL) (kk : VG p l e R s m args below meth c nL Θ Q9 k n q LS rest (putF G r 22 0 x)) : VG p l e R s m args below meth c nL Θ Q9 k n pc LS (.int x :: .ref (tR Θ r 22) :: rest) G := v_put (ci := 1) (j := 0) (N := 3) (T := TX2) (ty0 := tyX2) hC d hq hid rfl rfl inl2 tyX2_ok nmX2 (by decide) (by decide +kernel) rfl (Nat.lt_of_lt_of_le (Nat.lt_succ_self 0) (Nat.le_of_ble_eq_true rfl)) hlk rfl kk
theorem g_X2_1 (hC : cC p l s m args meth c cc nL own Θ) {r idx : Nat} (d : decode cc pc = .ok (.getfield idx, 3)) (hq : pc + 3 = q) (hid : okI G.2.2.1 r 22 = true) (hlk : Cond.fieldLink own idx "PermissionDesk$Handing" "lengths" "[I" ∈ wALL) (kk : VG p l e R s m args below meth c nL Θ Q9 k n q LS (.ref (tR Θ 0 23) :: rest) G) : VG p l e R s m args below meth c nL Θ Q9 k n pc LS (.ref (tR Θ r 22) :: rest) G := v_get (ci := 1) (j := 1) (N := 3) (T := TX2) hC d hq hid rfl rfl inl2 (by decide) rfl hlk kk
theorem g_X2_2 (hC : cC p l s m args meth c cc nL own Θ) {r idx : Nat} (d : decode cc pc = .ok (.getfield idx, 3)) (hq : pc + 3 = q) (hid : okI G.2.2.1 r 22 = true) (hlk : Cond.fieldLink own idx "PermissionDesk$Handing" "lists" "[I" ∈ wALL) (kk : VG p l e R s m args below meth c nL Θ Q9 k n q LS (.ref (tR Θ 0 24) :: rest) G) : VG p l e R s m args below meth c nL Θ Q9 k n pc LS (.ref (tR Θ r 22) :: rest) G := v_get (ci := 1) (j := 2) (N := 3) (T := TX2) hC d hq hid rfl rfl inl2 (by decide) rfl hlk kk
theorem g_X8_0 (hC : cC p l s m args meth c cc nL own Θ) {r idx : Nat} (d : decode cc pc = .ok (.getfield idx, 3)) (hq : pc + 3 = q) (hid : okI G.2.2.1 r 25 = true) (hlk : Cond.fieldLink own idx "PermissionDesk$Pad" "length" "I" ∈ wALL) (kk : VG p l e R s m args below meth c nL Θ Q9 k n q LS (.int (G.1 r 25 0) :: rest) G) : VG p l e R s m args below meth c nL Θ Q9 k n pc LS (.ref (tR Θ r 25) :: rest) G := v_get (ci := 7) (j := 0) (N := 2) (T := TX8) hC d hq hid rfl rfl inl8 (by decide) rfl hlk kk
theorem p_X8_0 (hC : cC p l s m args meth c cc nL own Θ) {r idx : Nat} {x : Int32} (d : decode cc pc = .ok (.putfield idx, 3)) (hq : pc + 3 = q) (hid : okI G.2.2.1 r 25 = true) (hlk : Cond.fieldLink own idx "PermissionDesk$Pad" "length" "I" ∈ wALL) (kk : VG p l e R s m args below meth c nL Θ Q9 k n q LS rest (putF G r 25 0 x)) : VG p l e R s m args below meth c nL Θ Q9 k n pc LS (.int x :: .ref (tR Θ r 25) :: rest) G := v_put (ci := 7) (j := 0) (N := 2) (T := TX8) (ty0 := tyX8) hC d hq hid rfl rfl inl8 tyX8_ok nmX8 (by decide) (by decide +kernel) rfl (Nat.lt_of_lt_of_le (Nat.lt_succ_self 0) (Nat.le_of_ble_eq_true rfl)) hlk rfl kk
theorem g_X8_1 (hC : cC p l s m args meth c cc nL own Θ) {r idx : Nat} (d : decode cc pc = .ok (.getfield idx, 3)) (hq : pc + 3 = q) (hid : okI G.2.2.1 r 25 = true) (hlk : Cond.fieldLink own idx "PermissionDesk$Pad" "signs" "[I" ∈ wALL) (kk : VG p l e R s m args below meth c nL Θ Q9 k n q LS (.ref (tR Θ 0 26) :: rest) G) : VG p l e R s m args below meth c nL Θ Q9 k n pc LS (.ref (tR Θ r 25) :: rest) G := v_get (ci := 7) (j := 1) (N := 2) (T := TX8) hC d hq hid rfl rfl inl8 (by decide) rfl hlk kk
theorem g_X5_0 (hC : cC p l s m args meth c cc nL own Θ) {r idx : Nat} (d : decode cc pc = .ok (.getfield idx, 3)) (hq : pc + 3 = q) (hid : okI G.2.2.1 r 27 = true) (hlk : Cond.fieldLink own idx "PermissionDesk$ListText" "at" "I" ∈ wALL) (kk : VG p l e R s m args below meth c nL Θ Q9 k n q LS (.int (G.1 r 27 0) :: rest) G) : VG p l e R s m args below meth c nL Θ Q9 k n pc LS (.ref (tR Θ r 27) :: rest) G := v_get (ci := 4) (j := 0) (N := 4) (T := TX5) hC d hq hid rfl rfl inl5 (by decide) rfl hlk kk
theorem p_X5_0 (hC : cC p l s m args meth c cc nL own Θ) {r idx : Nat} {x : Int32} (d : decode cc pc = .ok (.putfield idx, 3)) (hq : pc + 3 = q) (hid : okI G.2.2.1 r 27 = true) (hlk : Cond.fieldLink own idx "PermissionDesk$ListText" "at" "I" ∈ wALL) (kk : VG p l e R s m args below meth c nL Θ Q9 k n q LS rest (putF G r 27 0 x)) : VG p l e R s m args below meth c nL Θ Q9 k n pc LS (.int x :: .ref (tR Θ r 27) :: rest) G := v_put (ci := 4) (j := 0) (N := 4) (T := TX5) (ty0 := tyX5) hC d hq hid rfl rfl inl5 tyX5_ok nmX5 (by decide) (by decide +kernel) rfl (Nat.lt_of_lt_of_le (Nat.lt_succ_self 0) (Nat.le_of_ble_eq_true rfl)) hlk rfl kk
theorem g_X5_1 (hC : cC p l s m args meth c cc nL own Θ) {r idx : Nat} (d : decode cc pc = .ok (.getfield idx, 3)) (hq : pc + 3 = q) (hid : okI G.2.2.1 r 27 = true) (hlk : Cond.fieldLink own idx "PermissionDesk$ListText" "object" "I" ∈ wALL) (kk : VG p l e R s m args below meth c nL Θ Q9 k n q LS (.int (G.1 r 27 1) :: rest) G) : VG p l e R s m args below meth c nL Θ Q9 k n pc LS (.ref (tR Θ r 27) :: rest) G := v_get (ci := 4) (j := 1) (N := 4) (T := TX5) hC d hq hid rfl rfl inl5 (by decide) rfl hlk kk
theorem p_X5_1 (hC : cC p l s m args meth c cc nL own Θ) {r idx : Nat} {x : Int32} (d : decode cc pc = .ok (.putfield idx, 3)) (hq : pc + 3 = q) (hid : okI G.2.2.1 r 27 = true) (hlk : Cond.fieldLink own idx "PermissionDesk$ListText" "object" "I" ∈ wALL) (kk : VG p l e R s m args below meth c nL Θ Q9 k n q LS rest (putF G r 27 1 x)) : VG p l e R s m args below meth c nL Θ Q9 k n pc LS (.int x :: .ref (tR Θ r 27) :: rest) G := v_put (ci := 4) (j := 1) (N := 4) (T := TX5) (ty0 := tyX5) hC d hq hid rfl rfl inl5 tyX5_ok nmX5 (by decide) (by decide +kernel) rfl (Nat.lt_of_lt_of_le (Nat.lt_succ_self 1) (Nat.le_of_ble_eq_true rfl)) hlk rfl kk
theorem g_X5_2 (hC : cC p l s m args meth c cc nL own Θ) {r idx : Nat} (d : decode cc pc = .ok (.getfield idx, 3)) (hq : pc + 3 = q) (hid : okI G.2.2.1 r 27 = true) (hlk : Cond.fieldLink own idx "PermissionDesk$ListText" "count" "I" ∈ wALL) (kk : VG p l e R s m args below meth c nL Θ Q9 k n q LS (.int (G.1 r 27 2) :: rest) G) : VG p l e R s m args below meth c nL Θ Q9 k n pc LS (.ref (tR Θ r 27) :: rest) G := v_get (ci := 4) (j := 2) (N := 4) (T := TX5) hC d hq hid rfl rfl inl5 (by decide) rfl hlk kk
theorem p_X5_2 (hC : cC p l s m args meth c cc nL own Θ) {r idx : Nat} {x : Int32} (d : decode cc pc = .ok (.putfield idx, 3)) (hq : pc + 3 = q) (hid : okI G.2.2.1 r 27 = true) (hlk : Cond.fieldLink own idx "PermissionDesk$ListText" "count" "I" ∈ wALL) (kk : VG p l e R s m args below meth c nL Θ Q9 k n q LS rest (putF G r 27 2 x)) : VG p l e R s m args below meth c nL Θ Q9 k n pc LS (.int x :: .ref (tR Θ r 27) :: rest) G := v_put (ci := 4) (j := 2) (N := 4) (T := TX5) (ty0 := tyX5) hC d hq hid rfl rfl inl5 tyX5_ok nmX5 (by decide) (by decide +kernel) rfl (Nat.lt_of_lt_of_le (Nat.lt_succ_self 2) (Nat.le_of_ble_eq_true rfl)) hlk rfl kk
theorem g_X5_3 (hC : cC p l s m args meth c cc nL own Θ) {r idx : Nat} (d : decode cc pc = .ok (.getfield idx, 3)) (hq : pc + 3 = q) (hid : okI G.2.2.1 r 27 = true) (hlk : Cond.fieldLink own idx "PermissionDesk$ListText" "entries" "[I" ∈ wALL) (kk : VG p l e R s m args below meth c nL Θ Q9 k n q LS (.ref (tR Θ 0 28) :: rest) G) : VG p l e R s m args below meth c nL Θ Q9 k n pc LS (.ref (tR Θ r 27) :: rest) G := v_get (ci := 4) (j := 3) (N := 4) (T := TX5) hC d hq hid rfl rfl inl5 (by decide) rfl hlk kk
end FLD
abbrev rm_X11_init : Room := { frames := 4, locals := 81, cells := 0, slots := 0 }
theorem k_X11_init : kY yX11_init cX11_init 1 none 0 := ⟨cd_yX11_init, ⟨by decide, by decide⟩, by decide +kernel, in_RX11⟩
abbrev rm_X9_init : Room := { frames := 2, locals := 40, cells := 0, slots := 0 }
theorem k_X9_init : kY yX9_init cX9_init 1 none 0 := ⟨cd_yX9_init, ⟨by decide, by decide⟩, by decide +kernel, in_RX9⟩
abbrev rm_X0_init : Room := { frames := 1, locals := 20, cells := 0, slots := 0 }
theorem k_X0_init : kY yX0_init cX0_init 1 none 0 := ⟨cd_yX0_init, ⟨by decide, by decide⟩, by decide +kernel, in_RX0⟩
abbrev rm_X10_init : Room := { frames := 1, locals := 20, cells := 0, slots := 0 }
theorem k_X10_init : kY yX10_init cX10_init 1 none 0 := ⟨cd_yX10_init, ⟨by decide, by decide⟩, by decide +kernel, in_RX10⟩
abbrev rm_X6_init : Room := { frames := 1, locals := 20, cells := 0, slots := 0 }
theorem k_X6_init : kY yX6_init cX6_init 1 none 0 := ⟨cd_yX6_init, ⟨by decide, by decide⟩, by decide +kernel, in_RX6⟩
abbrev rm_X7_init : Room := { frames := 1, locals := 20, cells := 0, slots := 0 }
theorem k_X7_init : kY yX7_init cX7_init 1 none 0 := ⟨cd_yX7_init, ⟨by decide, by decide⟩, by decide +kernel, in_RX7⟩
abbrev rm_X3_init : Room := { frames := 3, locals := 60, cells := 0, slots := 0 }
theorem k_X3_init : kY yX3_init cX3_init 2 none 0 := ⟨cd_yX3_init, ⟨by decide, by decide⟩, by decide +kernel, in_RX3⟩
abbrev rm_X4_init : Room := { frames := 1, locals := 20, cells := 0, slots := 0 }
theorem k_X4_init : kY yX4_init cX4_init 1 none 0 := ⟨cd_yX4_init, ⟨by decide, by decide⟩, by decide +kernel, in_RX4⟩
abbrev rm_X2_init : Room := { frames := 1, locals := 20, cells := 0, slots := 0 }
theorem k_X2_init : kY yX2_init cX2_init 1 none 0 := ⟨cd_yX2_init, ⟨by decide, by decide⟩, by decide +kernel, in_RX2⟩
abbrev rm_X8_init : Room := { frames := 1, locals := 20, cells := 0, slots := 0 }
theorem k_X8_init : kY yX8_init cX8_init 1 none 0 := ⟨cd_yX8_init, ⟨by decide, by decide⟩, by decide +kernel, in_RX8⟩
abbrev rm_X5_init : Room := { frames := 1, locals := 20, cells := 0, slots := 0 }
theorem k_X5_init : kY yX5_init cX5_init 1 none 0 := ⟨cd_yX5_init, ⟨by decide, by decide⟩, by decide +kernel, in_RX5⟩
abbrev rm_X11_addUser : Room := { frames := 6, locals := 112, cells := 1, slots := 6 }
theorem k_X11_addUser : kY yX11_addUser cX11_addUser 1 (some .int) 0 := ⟨cd_yX11_addUser, ⟨by decide, by decide⟩, by decide +kernel, in_RX11⟩
abbrev rm_X3_keep : Room := { frames := 3, locals := 90, cells := 0, slots := 0 }
theorem k_X3_keep : kY yX3_keep cX3_keep 3 none 1 := ⟨cd_yX3_keep, ⟨by decide, by decide⟩, by decide +kernel, in_RX3⟩
abbrev rm_J9_floorMod_7cf53 : Room := { frames := 0, locals := 0, cells := 0, slots := 0 }
theorem k_J9_floorMod_7cf53 : kY yJ9_floorMod_7cf53 cJ9_floorMod_7cf53 3 (some .int) 2 := ⟨cd_yJ9_floorMod_7cf53, ⟨by decide, by decide⟩, by decide +kernel, in_RJ9⟩
abbrev rm_X9_copyFrom : Room := { frames := 2, locals := 69, cells := 0, slots := 0 }
theorem k_X9_copyFrom : kY yX9_copyFrom cX9_copyFrom 2 none 1 := ⟨cd_yX9_copyFrom, ⟨by decide, by decide⟩, by decide +kernel, in_RX9⟩
abbrev rm_X0_copyFrom : Room := { frames := 1, locals := 48, cells := 0, slots := 0 }
theorem k_X0_copyFrom : kY yX0_copyFrom cX0_copyFrom 2 none 1 := ⟨cd_yX0_copyFrom, ⟨by decide, by decide⟩, by decide +kernel, in_RX0⟩
abbrev rm_X10_copyFrom : Room := { frames := 1, locals := 48, cells := 0, slots := 0 }
theorem k_X10_copyFrom : kY yX10_copyFrom cX10_copyFrom 2 none 1 := ⟨cd_yX10_copyFrom, ⟨by decide, by decide⟩, by decide +kernel, in_RX10⟩
abbrev rm_X6_copyFrom : Room := { frames := 1, locals := 48, cells := 0, slots := 0 }
theorem k_X6_copyFrom : kY yX6_copyFrom cX6_copyFrom 2 none 1 := ⟨cd_yX6_copyFrom, ⟨by decide, by decide⟩, by decide +kernel, in_RX6⟩
abbrev rm_X7_copyFrom : Room := { frames := 1, locals := 48, cells := 0, slots := 0 }
theorem k_X7_copyFrom : kY yX7_copyFrom cX7_copyFrom 2 none 1 := ⟨cd_yX7_copyFrom, ⟨by decide, by decide⟩, by decide +kernel, in_RX7⟩
abbrev rm_X0_takeUser : Room := { frames := 0, locals := 0, cells := 0, slots := 0 }
theorem k_X0_takeUser : kY yX0_takeUser cX0_takeUser 2 (some .int) 0 := ⟨cd_yX0_takeUser, ⟨by decide, by decide⟩, by decide +kernel, in_RX0⟩
abbrev rm_X11_addGroup : Room := { frames := 6, locals := 112, cells := 1, slots := 6 }
theorem k_X11_addGroup : kY yX11_addGroup cX11_addGroup 1 (some .int) 0 := ⟨cd_yX11_addGroup, ⟨by decide, by decide⟩, by decide +kernel, in_RX11⟩
abbrev rm_X0_takeGroup : Room := { frames := 0, locals := 0, cells := 0, slots := 0 }
theorem k_X0_takeGroup : kY yX0_takeGroup cX0_takeGroup 2 (some .int) 0 := ⟨cd_yX0_takeGroup, ⟨by decide, by decide⟩, by decide +kernel, in_RX0⟩
abbrev rm_X11_join : Room := { frames := 7, locals := 112, cells := 3, slots := 18 }
theorem k_X11_join : kY yX11_join cX11_join 3 (some .int) 2 := ⟨cd_yX11_join, ⟨by decide, by decide⟩, by decide +kernel, in_RX11⟩
abbrev rm_X11_requireUser : Room := { frames := 6, locals := 90, cells := 1, slots := 6 }
theorem k_X11_requireUser : kY yX11_requireUser cX11_requireUser 2 none 1 := ⟨cd_yX11_requireUser, ⟨by decide, by decide⟩, by decide +kernel, in_RX11⟩
abbrev rm_X0_hasUser : Room := { frames := 1, locals := 21, cells := 0, slots := 0 }
theorem k_X0_hasUser : kY yX0_hasUser cX0_hasUser 2 (some .boolean) 1 := ⟨cd_yX0_hasUser, ⟨by decide, by decide⟩, by decide +kernel, in_RX0⟩
abbrev rm_X11_isIndex : Room := { frames := 0, locals := 0, cells := 0, slots := 0 }
theorem k_X11_isIndex : kY yX11_isIndex cX11_isIndex 2 (some .boolean) 2 := ⟨cd_yX11_isIndex, ⟨by decide, by decide⟩, by decide +kernel, in_RX11⟩
abbrev rm_X11_requireGroup : Room := { frames := 6, locals := 90, cells := 1, slots := 6 }
theorem k_X11_requireGroup : kY yX11_requireGroup cX11_requireGroup 2 none 1 := ⟨cd_yX11_requireGroup, ⟨by decide, by decide⟩, by decide +kernel, in_RX11⟩
abbrev rm_X0_hasGroup : Room := { frames := 1, locals := 21, cells := 0, slots := 0 }
theorem k_X0_hasGroup : kY yX0_hasGroup cX0_hasGroup 2 (some .boolean) 1 := ⟨cd_yX0_hasGroup, ⟨by decide, by decide⟩, by decide +kernel, in_RX0⟩
abbrev rm_X0_hasMember : Room := { frames := 1, locals := 21, cells := 0, slots := 0 }
theorem k_X0_hasMember : kY yX0_hasMember cX0_hasMember 3 (some .boolean) 2 := ⟨cd_yX0_hasMember, ⟨by decide, by decide⟩, by decide +kernel, in_RX0⟩
abbrev rm_X11_has : Room := { frames := 0, locals := 0, cells := 0, slots := 0 }
theorem k_X11_has : kY yX11_has cX11_has 2 (some .boolean) 2 := ⟨cd_yX11_has, ⟨by decide, by decide⟩, by decide +kernel, in_RX11⟩
abbrev rm_X0_setMember : Room := { frames := 1, locals := 22, cells := 0, slots := 0 }
theorem k_X0_setMember : kY yX0_setMember cX0_setMember 4 none 3 := ⟨cd_yX0_setMember, ⟨by decide, by decide⟩, by decide +kernel, in_RX0⟩
abbrev rm_X11_changed : Room := { frames := 0, locals := 0, cells := 0, slots := 0 }
theorem k_X11_changed : kY yX11_changed cX11_changed 3 (some .int) 3 := ⟨cd_yX11_changed, ⟨by decide, by decide⟩, by decide +kernel, in_RX11⟩
abbrev rm_X0_countUsersIn : Room := { frames := 2, locals := 49, cells := 0, slots := 0 }
theorem k_X0_countUsersIn : kY yX0_countUsersIn cX0_countUsersIn 2 (some .int) 1 := ⟨cd_yX0_countUsersIn, ⟨by decide, by decide⟩, by decide +kernel, in_RX0⟩
abbrev rm_X0_usersIn : Room := { frames := 1, locals := 25, cells := 0, slots := 0 }
theorem k_X0_usersIn : kY yX0_usersIn cX0_usersIn 5 (some .int) 1 := ⟨cd_yX0_usersIn, ⟨by decide, by decide⟩, by decide +kernel, in_RX0⟩
abbrev rm_X0_groupsUnder : Room := { frames := 0, locals := 0, cells := 0, slots := 0 }
theorem k_X0_groupsUnder : kY yX0_groupsUnder cX0_groupsUnder 6 (some .int) 1 := ⟨cd_yX0_groupsUnder, ⟨by decide, by decide⟩, by decide +kernel, in_RX0⟩
abbrev rm_J6_bitCount_0f7a4 : Room := { frames := 0, locals := 0, cells := 0, slots := 0 }
theorem k_J6_bitCount_0f7a4 : kY yJ6_bitCount_0f7a4 cJ6_bitCount_0f7a4 1 (some .int) 1 := ⟨cd_yJ6_bitCount_0f7a4, ⟨by decide, by decide⟩, by decide +kernel, in_RJ6⟩
abbrev rm_X11_leave : Room := { frames := 7, locals := 112, cells := 3, slots := 18 }
theorem k_X11_leave : kY yX11_leave cX11_leave 3 (some .int) 2 := ⟨cd_yX11_leave, ⟨by decide, by decide⟩, by decide +kernel, in_RX11⟩
abbrev rm_X11_nest : Room := { frames := 7, locals := 112, cells := 3, slots := 18 }
theorem k_X11_nest : kY yX11_nest cX11_nest 3 (some .int) 2 := ⟨cd_yX11_nest, ⟨by decide, by decide⟩, by decide +kernel, in_RX11⟩
abbrev rm_X0_hasInner : Room := { frames := 1, locals := 21, cells := 0, slots := 0 }
theorem k_X0_hasInner : kY yX0_hasInner cX0_hasInner 3 (some .boolean) 2 := ⟨cd_yX0_hasInner, ⟨by decide, by decide⟩, by decide +kernel, in_RX0⟩
abbrev rm_X0_isWithin : Room := { frames := 2, locals := 46, cells := 0, slots := 0 }
theorem k_X0_isWithin : kY yX0_isWithin cX0_isWithin 3 (some .boolean) 2 := ⟨cd_yX0_isWithin, ⟨by decide, by decide⟩, by decide +kernel, in_RX0⟩
abbrev rm_X0_climbFrom : Room := { frames := 1, locals := 21, cells := 0, slots := 0 }
theorem k_X0_climbFrom : kY yX0_climbFrom cX0_climbFrom 6 (some .int) 1 := ⟨cd_yX0_climbFrom, ⟨by decide, by decide⟩, by decide +kernel, in_RX0⟩
abbrev rm_X0_setInner : Room := { frames := 1, locals := 22, cells := 0, slots := 0 }
theorem k_X0_setInner : kY yX0_setInner cX0_setInner 4 none 3 := ⟨cd_yX0_setInner, ⟨by decide, by decide⟩, by decide +kernel, in_RX0⟩
abbrev rm_X11_unnest : Room := { frames := 7, locals := 112, cells := 3, slots := 18 }
theorem k_X11_unnest : kY yX11_unnest cX11_unnest 3 (some .int) 2 := ⟨cd_yX11_unnest, ⟨by decide, by decide⟩, by decide +kernel, in_RX11⟩
abbrev rm_X11_make : Room := { frames := 7, locals := 112, cells := 3, slots := 18 }
theorem k_X11_make : kY yX11_make cX11_make 4 (some .int) 2 := ⟨cd_yX11_make, ⟨by decide, by decide⟩, by decide +kernel, in_RX11⟩
abbrev rm_X11_requireObject : Room := { frames := 6, locals := 90, cells := 1, slots := 6 }
theorem k_X11_requireObject : kY yX11_requireObject cX11_requireObject 2 none 1 := ⟨cd_yX11_requireObject, ⟨by decide, by decide⟩, by decide +kernel, in_RX11⟩
abbrev rm_X10_holds : Room := { frames := 0, locals := 0, cells := 0, slots := 0 }
theorem k_X10_holds : kY yX10_holds cX10_holds 2 (some .boolean) 1 := ⟨cd_yX10_holds, ⟨by decide, by decide⟩, by decide +kernel, in_RX10⟩
abbrev rm_X10_lowestFree : Room := { frames := 1, locals := 21, cells := 0, slots := 0 }
theorem k_X10_lowestFree : kY yX10_lowestFree cX10_lowestFree 2 (some .int) 0 := ⟨cd_yX10_lowestFree, ⟨by decide, by decide⟩, by decide +kernel, in_RX10⟩
abbrev rm_X10_putObject : Room := { frames := 2, locals := 44, cells := 0, slots := 0 }
theorem k_X10_putObject : kY yX10_putObject cX10_putObject 4 none 3 := ⟨cd_yX10_putObject, ⟨by decide, by decide⟩, by decide +kernel, in_RX10⟩
abbrev rm_X10_setParent : Room := { frames := 1, locals := 21, cells := 0, slots := 0 }
theorem k_X10_setParent : kY yX10_setParent cX10_setParent 3 none 2 := ⟨cd_yX10_setParent, ⟨by decide, by decide⟩, by decide +kernel, in_RX10⟩
abbrev rm_X10_setOwner : Room := { frames := 1, locals := 21, cells := 0, slots := 0 }
theorem k_X10_setOwner : kY yX10_setOwner cX10_setOwner 3 none 2 := ⟨cd_yX10_setOwner, ⟨by decide, by decide⟩, by decide +kernel, in_RX10⟩
abbrev rm_X10_limitTo : Room := { frames := 1, locals := 21, cells := 0, slots := 0 }
theorem k_X10_limitTo : kY yX10_limitTo cX10_limitTo 3 none 2 := ⟨cd_yX10_limitTo, ⟨by decide, by decide⟩, by decide +kernel, in_RX10⟩
abbrev rm_X10_letInherit : Room := { frames := 1, locals := 22, cells := 0, slots := 0 }
theorem k_X10_letInherit : kY yX10_letInherit cX10_letInherit 3 none 2 := ⟨cd_yX10_letInherit, ⟨by decide, by decide⟩, by decide +kernel, in_RX10⟩
abbrev rm_X11_remove : Room := { frames := 7, locals := 112, cells := 2, slots := 12 }
theorem k_X11_remove : kY yX11_remove cX11_remove 2 (some .int) 1 := ⟨cd_yX11_remove, ⟨by decide, by decide⟩, by decide +kernel, in_RX11⟩
abbrev rm_X10_countUnder : Room := { frames := 3, locals := 66, cells := 0, slots := 0 }
theorem k_X10_countUnder : kY yX10_countUnder cX10_countUnder 4 (some .int) 1 := ⟨cd_yX10_countUnder, ⟨by decide, by decide⟩, by decide +kernel, in_RX10⟩
abbrev rm_X10_isUnder : Room := { frames := 2, locals := 42, cells := 0, slots := 0 }
theorem k_X10_isUnder : kY yX10_isUnder cX10_isUnder 5 (some .boolean) 2 := ⟨cd_yX10_isUnder, ⟨by decide, by decide⟩, by decide +kernel, in_RX10⟩
abbrev rm_X10_parentAt : Room := { frames := 1, locals := 21, cells := 0, slots := 0 }
theorem k_X10_parentAt : kY yX10_parentAt cX10_parentAt 2 (some .int) 1 := ⟨cd_yX10_parentAt, ⟨by decide, by decide⟩, by decide +kernel, in_RX10⟩
abbrev rm_X10_dropObject : Room := { frames := 1, locals := 22, cells := 0, slots := 0 }
theorem k_X10_dropObject : kY yX10_dropObject cX10_dropObject 2 none 1 := ⟨cd_yX10_dropObject, ⟨by decide, by decide⟩, by decide +kernel, in_RX10⟩
abbrev rm_X6_empty : Room := { frames := 1, locals := 21, cells := 0, slots := 0 }
theorem k_X6_empty : kY yX6_empty cX6_empty 2 none 1 := ⟨cd_yX6_empty, ⟨by decide, by decide⟩, by decide +kernel, in_RX6⟩
abbrev rm_X10_count : Room := { frames := 1, locals := 20, cells := 0, slots := 0 }
theorem k_X10_count : kY yX10_count cX10_count 1 (some .int) 0 := ⟨cd_yX10_count, ⟨by decide, by decide⟩, by decide +kernel, in_RX10⟩
abbrev rm_X11_move : Room := { frames := 7, locals := 112, cells := 3, slots := 18 }
theorem k_X11_move : kY yX11_move cX11_move 4 (some .int) 2 := ⟨cd_yX11_move, ⟨by decide, by decide⟩, by decide +kernel, in_RX11⟩
abbrev rm_X11_giveTo : Room := { frames := 7, locals := 112, cells := 2, slots := 12 }
theorem k_X11_giveTo : kY yX11_giveTo cX11_giveTo 4 (some .int) 2 := ⟨cd_yX11_giveTo, ⟨by decide, by decide⟩, by decide +kernel, in_RX11⟩
abbrev rm_X10_ownerAt : Room := { frames := 1, locals := 21, cells := 0, slots := 0 }
theorem k_X10_ownerAt : kY yX10_ownerAt cX10_ownerAt 2 (some .int) 1 := ⟨cd_yX10_ownerAt, ⟨by decide, by decide⟩, by decide +kernel, in_RX10⟩
abbrev rm_X11_setMask : Room := { frames := 7, locals := 112, cells := 2, slots := 12 }
theorem k_X11_setMask : kY yX11_setMask cX11_setMask 4 (some .int) 2 := ⟨cd_yX11_setMask, ⟨by decide, by decide⟩, by decide +kernel, in_RX11⟩
abbrev rm_X11_requireRights : Room := { frames := 6, locals := 90, cells := 1, slots := 6 }
theorem k_X11_requireRights : kY yX11_requireRights cX11_requireRights 3 none 2 := ⟨cd_yX11_requireRights, ⟨by decide, by decide⟩, by decide +kernel, in_RX11⟩
abbrev rm_X10_maskAt : Room := { frames := 1, locals := 21, cells := 0, slots := 0 }
theorem k_X10_maskAt : kY yX10_maskAt cX10_maskAt 2 (some .int) 1 := ⟨cd_yX10_maskAt, ⟨by decide, by decide⟩, by decide +kernel, in_RX10⟩
abbrev rm_X11_setInheriting : Room := { frames := 7, locals := 112, cells := 1, slots := 6 }
theorem k_X11_setInheriting : kY yX11_setInheriting cX11_setInheriting 4 (some .boolean) 2 := ⟨cd_yX11_setInheriting, ⟨by decide, by decide⟩, by decide +kernel, in_RX11⟩
abbrev rm_X10_inherits : Room := { frames := 1, locals := 21, cells := 0, slots := 0 }
theorem k_X10_inherits : kY yX10_inherits cX10_inherits 2 (some .boolean) 1 := ⟨cd_yX10_inherits, ⟨by decide, by decide⟩, by decide +kernel, in_RX10⟩
abbrev rm_X11_addForUser : Room := { frames := 8, locals := 139, cells := 4, slots := 24 }
theorem k_X11_addForUser : kY yX11_addForUser cX11_addForUser 6 (some .int) 5 := ⟨cd_yX11_addForUser, ⟨by decide, by decide⟩, by decide +kernel, in_RX11⟩
abbrev rm_X11_addLast : Room := { frames := 7, locals := 112, cells := 2, slots := 12 }
theorem k_X11_addLast : kY yX11_addLast cX11_addLast 8 (some .int) 6 := ⟨cd_yX11_addLast, ⟨by decide, by decide⟩, by decide +kernel, in_RX11⟩
abbrev rm_X11_requireRoom : Room := { frames := 6, locals := 90, cells := 1, slots := 6 }
theorem k_X11_requireRoom : kY yX11_requireRoom cX11_requireRoom 2 none 1 := ⟨cd_yX11_requireRoom, ⟨by decide, by decide⟩, by decide +kernel, in_RX11⟩
abbrev rm_X6_countAt : Room := { frames := 1, locals := 21, cells := 0, slots := 0 }
theorem k_X6_countAt : kY yX6_countAt cX6_countAt 2 (some .int) 1 := ⟨cd_yX6_countAt, ⟨by decide, by decide⟩, by decide +kernel, in_RX6⟩
abbrev rm_X1_code : Room := { frames := 0, locals := 0, cells := 0, slots := 0 }
theorem k_X1_code : kY yX1_code cX1_code 6 (some .int) 5 := ⟨cd_yX1_code, ⟨by decide, by decide⟩, by decide +kernel, in_RX1⟩
abbrev rm_X6_putIn : Room := { frames := 2, locals := 44, cells := 0, slots := 0 }
theorem k_X6_putIn : kY yX6_putIn cX6_putIn 5 none 3 := ⟨cd_yX6_putIn, ⟨by decide, by decide⟩, by decide +kernel, in_RX6⟩
abbrev rm_X6_entryAt : Room := { frames := 1, locals := 21, cells := 0, slots := 0 }
theorem k_X6_entryAt : kY yX6_entryAt cX6_entryAt 3 (some .int) 2 := ⟨cd_yX6_entryAt, ⟨by decide, by decide⟩, by decide +kernel, in_RX6⟩
abbrev rm_X6_setEntry : Room := { frames := 1, locals := 21, cells := 0, slots := 0 }
theorem k_X6_setEntry : kY yX6_setEntry cX6_setEntry 4 none 3 := ⟨cd_yX6_setEntry, ⟨by decide, by decide⟩, by decide +kernel, in_RX6⟩
abbrev rm_X11_addForGroup : Room := { frames := 8, locals := 139, cells := 4, slots := 24 }
theorem k_X11_addForGroup : kY yX11_addForGroup cX11_addForGroup 6 (some .int) 5 := ⟨cd_yX11_addForGroup, ⟨by decide, by decide⟩, by decide +kernel, in_RX11⟩
abbrev rm_X11_addForOwner : Room := { frames := 8, locals := 139, cells := 3, slots := 18 }
theorem k_X11_addForOwner : kY yX11_addForOwner cX11_addForOwner 5 (some .int) 4 := ⟨cd_yX11_addForOwner, ⟨by decide, by decide⟩, by decide +kernel, in_RX11⟩
abbrev rm_X11_addForAll : Room := { frames := 8, locals := 139, cells := 3, slots := 18 }
theorem k_X11_addForAll : kY yX11_addForAll cX11_addForAll 5 (some .int) 4 := ⟨cd_yX11_addForAll, ⟨by decide, by decide⟩, by decide +kernel, in_RX11⟩
abbrev rm_X11_removeEntry : Room := { frames := 8, locals := 133, cells := 2, slots := 12 }
theorem k_X11_removeEntry : kY yX11_removeEntry cX11_removeEntry 3 (some .int) 2 := ⟨cd_yX11_removeEntry, ⟨by decide, by decide⟩, by decide +kernel, in_RX11⟩
abbrev rm_X11_requireEntry : Room := { frames := 7, locals := 111, cells := 2, slots := 12 }
theorem k_X11_requireEntry : kY yX11_requireEntry cX11_requireEntry 3 none 2 := ⟨cd_yX11_requireEntry, ⟨by decide, by decide⟩, by decide +kernel, in_RX11⟩
abbrev rm_X6_takeOut : Room := { frames := 2, locals := 44, cells := 0, slots := 0 }
theorem k_X6_takeOut : kY yX6_takeOut cX6_takeOut 5 (some .int) 2 := ⟨cd_yX6_takeOut, ⟨by decide, by decide⟩, by decide +kernel, in_RX6⟩
abbrev rm_X11_moveEntry : Room := { frames := 8, locals := 149, cells := 4, slots := 24 }
theorem k_X11_moveEntry : kY yX11_moveEntry cX11_moveEntry 5 (some .int) 3 := ⟨cd_yX11_moveEntry, ⟨by decide, by decide⟩, by decide +kernel, in_RX11⟩
abbrev rm_X4_keepTable : Room := { frames := 5, locals := 124, cells := 0, slots := 0 }
theorem k_X4_keepTable : kY yX4_keepTable cX4_keepTable 4 none 1 := ⟨cd_yX4_keepTable, ⟨by decide, by decide⟩, by decide +kernel, in_RX4⟩
abbrev rm_X4_rightsAt : Room := { frames := 4, locals := 99, cells := 0, slots := 0 }
theorem k_X4_rightsAt : kY yX4_rightsAt cX4_rightsAt 6 (some .int) 3 := ⟨cd_yX4_rightsAt, ⟨by decide, by decide⟩, by decide +kernel, in_RX4⟩
abbrev rm_X4_decide : Room := { frames := 3, locals := 67, cells := 0, slots := 0 }
theorem k_X4_decide : kY yX4_decide cX4_decide 13 none 3 := ⟨cd_yX4_decide, ⟨by decide, by decide⟩, by decide +kernel, in_RX4⟩
abbrev rm_J7_fill_53178 : Room := { frames := 0, locals := 0, cells := 0, slots := 0 }
theorem k_J7_fill_53178 : kY yJ7_fill_53178 cJ7_fill_53178 4 none 2 := ⟨cd_yJ7_fill_53178, ⟨by decide, by decide⟩, by decide +kernel, in_RJ7⟩
abbrev rm_X0_groupsOver : Room := { frames := 2, locals := 46, cells := 0, slots := 0 }
theorem k_X0_groupsOver : kY yX0_groupsOver cX0_groupsOver 2 (some .int) 1 := ⟨cd_yX0_groupsOver, ⟨by decide, by decide⟩, by decide +kernel, in_RX0⟩
abbrev rm_X1_countsBelow : Room := { frames := 0, locals := 0, cells := 0, slots := 0 }
theorem k_X1_countsBelow : kY yX1_countsBelow cX1_countsBelow 1 (some .boolean) 1 := ⟨cd_yX1_countsBelow, ⟨by decide, by decide⟩, by decide +kernel, in_RX1⟩
abbrev rm_X1_isFor : Room := { frames := 1, locals := 21, cells := 0, slots := 0 }
theorem k_X1_isFor : kY yX1_isFor cX1_isFor 4 (some .boolean) 4 := ⟨cd_yX1_isFor, ⟨by decide, by decide⟩, by decide +kernel, in_RX1⟩
abbrev rm_X1_kind : Room := { frames := 0, locals := 0, cells := 0, slots := 0 }
theorem k_X1_kind : kY yX1_kind cX1_kind 1 (some .int) 1 := ⟨cd_yX1_kind, ⟨by decide, by decide⟩, by decide +kernel, in_RX1⟩
abbrev rm_X1_number : Room := { frames := 0, locals := 0, cells := 0, slots := 0 }
theorem k_X1_number : kY yX1_number cX1_number 1 (some .int) 1 := ⟨cd_yX1_number, ⟨by decide, by decide⟩, by decide +kernel, in_RX1⟩
abbrev rm_X1_rights : Room := { frames := 0, locals := 0, cells := 0, slots := 0 }
theorem k_X1_rights : kY yX1_rights cX1_rights 1 (some .int) 1 := ⟨cd_yX1_rights, ⟨by decide, by decide⟩, by decide +kernel, in_RX1⟩
abbrev rm_X4_settle : Room := { frames := 1, locals := 21, cells := 0, slots := 0 }
theorem k_X4_settle : kY yX4_settle cX4_settle 5 none 3 := ⟨cd_yX4_settle, ⟨by decide, by decide⟩, by decide +kernel, in_RX4⟩
abbrev rm_X10_nextUp : Room := { frames := 2, locals := 42, cells := 0, slots := 0 }
theorem k_X10_nextUp : kY yX10_nextUp cX10_nextUp 2 (some .int) 1 := ⟨cd_yX10_nextUp, ⟨by decide, by decide⟩, by decide +kernel, in_RX10⟩
abbrev rm_X9_grants : Room := { frames := 2, locals := 42, cells := 0, slots := 0 }
theorem k_X9_grants : kY yX9_grants cX9_grants 5 (some .boolean) 4 := ⟨cd_yX9_grants, ⟨by decide, by decide⟩, by decide +kernel, in_RX9⟩
abbrev rm_X1_allows : Room := { frames := 0, locals := 0, cells := 0, slots := 0 }
theorem k_X1_allows : kY yX1_allows cX1_allows 1 (some .boolean) 1 := ⟨cd_yX1_allows, ⟨by decide, by decide⟩, by decide +kernel, in_RX1⟩
abbrev rm_X4_countDifferences : Room := { frames := 5, locals := 124, cells := 0, slots := 0 }
theorem k_X4_countDifferences : kY yX4_countDifferences cX4_countDifferences 6 (some .int) 1 := ⟨cd_yX4_countDifferences, ⟨by decide, by decide⟩, by decide +kernel, in_RX4⟩
abbrev rm_X11_ask : Room := { frames := 7, locals := 148, cells := 3, slots := 18 }
theorem k_X11_ask : kY yX11_ask cX11_ask 5 (some .boolean) 3 := ⟨cd_yX11_ask, ⟨by decide, by decide⟩, by decide +kernel, in_RX11⟩
abbrev rm_X11_requireRight : Room := { frames := 6, locals := 90, cells := 1, slots := 6 }
theorem k_X11_requireRight : kY yX11_requireRight cX11_requireRight 2 none 1 := ⟨cd_yX11_requireRight, ⟨by decide, by decide⟩, by decide +kernel, in_RX11⟩
abbrev rm_X4_grants : Room := { frames := 5, locals := 124, cells := 0, slots := 0 }
theorem k_X4_grants : kY yX4_grants cX4_grants 5 (some .boolean) 4 := ⟨cd_yX4_grants, ⟨by decide, by decide⟩, by decide +kernel, in_RX4⟩
abbrev rm_X7_put : Room := { frames := 2, locals := 43, cells := 0, slots := 0 }
theorem k_X7_put : kY yX7_put cX7_put 5 none 3 := ⟨cd_yX7_put, ⟨by decide, by decide⟩, by decide +kernel, in_RX7⟩
abbrev rm_X7_placeOf : Room := { frames := 1, locals := 22, cells := 0, slots := 0 }
theorem k_X7_placeOf : kY yX7_placeOf cX7_placeOf 2 (some .int) 1 := ⟨cd_yX7_placeOf, ⟨by decide, by decide⟩, by decide +kernel, in_RX7⟩
abbrev rm_X11_share : Room := { frames := 7, locals := 124, cells := 6, slots := 36 }
theorem k_X11_share : kY yX11_share cX11_share 6 (some .int) 4 := ⟨cd_yX11_share, ⟨by decide, by decide⟩, by decide +kernel, in_RX11⟩
abbrev rm_X11_objects : Room := { frames := 2, locals := 40, cells := 0, slots := 0 }
theorem k_X11_objects : kY yX11_objects cX11_objects 1 (some .int) 0 := ⟨cd_yX11_objects, ⟨by decide, by decide⟩, by decide +kernel, in_RX11⟩
abbrev rm_X11_isThere : Room := { frames := 1, locals := 21, cells := 0, slots := 0 }
theorem k_X11_isThere : kY yX11_isThere cX11_isThere 2 (some .boolean) 1 := ⟨cd_yX11_isThere, ⟨by decide, by decide⟩, by decide +kernel, in_RX11⟩
abbrev rm_X11_parentOf : Room := { frames := 7, locals := 111, cells := 1, slots := 6 }
theorem k_X11_parentOf : kY yX11_parentOf cX11_parentOf 2 (some .int) 1 := ⟨cd_yX11_parentOf, ⟨by decide, by decide⟩, by decide +kernel, in_RX11⟩
abbrev rm_X11_entriesOf : Room := { frames := 7, locals := 111, cells := 1, slots := 6 }
theorem k_X11_entriesOf : kY yX11_entriesOf cX11_entriesOf 2 (some .int) 1 := ⟨cd_yX11_entriesOf, ⟨by decide, by decide⟩, by decide +kernel, in_RX11⟩
abbrev rm_X11_ownerOf : Room := { frames := 7, locals := 111, cells := 1, slots := 6 }
theorem k_X11_ownerOf : kY yX11_ownerOf cX11_ownerOf 2 (some .int) 1 := ⟨cd_yX11_ownerOf, ⟨by decide, by decide⟩, by decide +kernel, in_RX11⟩
abbrev rm_X11_maskOf : Room := { frames := 7, locals := 111, cells := 1, slots := 6 }
theorem k_X11_maskOf : kY yX11_maskOf cX11_maskOf 2 (some .int) 1 := ⟨cd_yX11_maskOf, ⟨by decide, by decide⟩, by decide +kernel, in_RX11⟩
abbrev rm_X11_isInheriting : Room := { frames := 7, locals := 111, cells := 1, slots := 6 }
theorem k_X11_isInheriting : kY yX11_isInheriting cX11_isInheriting 2 (some .boolean) 1 := ⟨cd_yX11_isInheriting, ⟨by decide, by decide⟩, by decide +kernel, in_RX11⟩
abbrev rm_X11_below : Room := { frames := 7, locals := 111, cells := 1, slots := 6 }
theorem k_X11_below : kY yX11_below cX11_below 2 (some .int) 1 := ⟨cd_yX11_below, ⟨by decide, by decide⟩, by decide +kernel, in_RX11⟩
abbrev rm_X11_isAllowing : Room := { frames := 8, locals := 133, cells := 2, slots := 12 }
theorem k_X11_isAllowing : kY yX11_isAllowing cX11_isAllowing 3 (some .boolean) 2 := ⟨cd_yX11_isAllowing, ⟨by decide, by decide⟩, by decide +kernel, in_RX11⟩
abbrev rm_X11_rightsOfEntry : Room := { frames := 8, locals := 133, cells := 2, slots := 12 }
theorem k_X11_rightsOfEntry : kY yX11_rightsOfEntry cX11_rightsOfEntry 3 (some .int) 2 := ⟨cd_yX11_rightsOfEntry, ⟨by decide, by decide⟩, by decide +kernel, in_RX11⟩
abbrev rm_X11_userOfEntry : Room := { frames := 8, locals := 133, cells := 2, slots := 12 }
theorem k_X11_userOfEntry : kY yX11_userOfEntry cX11_userOfEntry 4 (some .int) 2 := ⟨cd_yX11_userOfEntry, ⟨by decide, by decide⟩, by decide +kernel, in_RX11⟩
abbrev rm_X11_groupOfEntry : Room := { frames := 8, locals := 133, cells := 2, slots := 12 }
theorem k_X11_groupOfEntry : kY yX11_groupOfEntry cX11_groupOfEntry 4 (some .int) 2 := ⟨cd_yX11_groupOfEntry, ⟨by decide, by decide⟩, by decide +kernel, in_RX11⟩
abbrev rm_X11_isForOwner : Room := { frames := 8, locals := 133, cells := 2, slots := 12 }
theorem k_X11_isForOwner : kY yX11_isForOwner cX11_isForOwner 3 (some .boolean) 2 := ⟨cd_yX11_isForOwner, ⟨by decide, by decide⟩, by decide +kernel, in_RX11⟩
abbrev rm_X11_isForBelow : Room := { frames := 8, locals := 133, cells := 2, slots := 12 }
theorem k_X11_isForBelow : kY yX11_isForBelow cX11_isForBelow 3 (some .boolean) 2 := ⟨cd_yX11_isForBelow, ⟨by decide, by decide⟩, by decide +kernel, in_RX11⟩
abbrev rm_X11_isAllowed : Room := { frames := 7, locals := 148, cells := 3, slots := 18 }
theorem k_X11_isAllowed : kY yX11_isAllowed cX11_isAllowed 4 (some .boolean) 3 := ⟨cd_yX11_isAllowed, ⟨by decide, by decide⟩, by decide +kernel, in_RX11⟩
abbrev rm_X11_decidingObject : Room := { frames := 7, locals := 123, cells := 3, slots := 18 }
theorem k_X11_decidingObject : kY yX11_decidingObject cX11_decidingObject 5 (some .int) 3 := ⟨cd_yX11_decidingObject, ⟨by decide, by decide⟩, by decide +kernel, in_RX11⟩
abbrev rm_X4_decidingPlace : Room := { frames := 4, locals := 99, cells := 0, slots := 0 }
theorem k_X4_decidingPlace : kY yX4_decidingPlace cX4_decidingPlace 5 (some .int) 4 := ⟨cd_yX4_decidingPlace, ⟨by decide, by decide⟩, by decide +kernel, in_RX4⟩
abbrev rm_X11_usersWith : Room := { frames := 7, locals := 149, cells := 2, slots := 12 }
theorem k_X11_usersWith : kY yX11_usersWith cX11_usersWith 3 (some .int) 2 := ⟨cd_yX11_usersWith, ⟨by decide, by decide⟩, by decide +kernel, in_RX11⟩
abbrev rm_X4_countUsers : Room := { frames := 5, locals := 124, cells := 0, slots := 0 }
theorem k_X4_countUsers : kY yX4_countUsers cX4_countUsers 6 (some .int) 3 := ⟨cd_yX4_countUsers, ⟨by decide, by decide⟩, by decide +kernel, in_RX4⟩
abbrev rm_X11_rightsOf : Room := { frames := 7, locals := 124, cells := 2, slots := 12 }
theorem k_X11_rightsOf : kY yX11_rightsOf cX11_rightsOf 3 (some .int) 2 := ⟨cd_yX11_rightsOf, ⟨by decide, by decide⟩, by decide +kernel, in_RX11⟩
abbrev rm_X11_isAllowedByHandingDown : Room := { frames := 7, locals := 119, cells := 3, slots := 18 }
theorem k_X11_isAllowedByHandingDown : kY yX11_isAllowedByHandingDown cX11_isAllowedByHandingDown 4 (some .boolean) 3 := ⟨cd_yX11_isAllowedByHandingDown, ⟨by decide, by decide⟩, by decide +kernel, in_RX11⟩
abbrev rm_X2_grants : Room := { frames := 4, locals := 95, cells := 0, slots := 0 }
theorem k_X2_grants : kY yX2_grants cX2_grants 5 (some .boolean) 4 := ⟨cd_yX2_grants, ⟨by decide, by decide⟩, by decide +kernel, in_RX2⟩
abbrev rm_X2_handAllDown : Room := { frames := 3, locals := 68, cells := 0, slots := 0 }
theorem k_X2_handAllDown : kY yX2_handAllDown cX2_handAllDown 5 none 1 := ⟨cd_yX2_handAllDown, ⟨by decide, by decide⟩, by decide +kernel, in_RX2⟩
abbrev rm_X2_takeOwn : Room := { frames := 2, locals := 43, cells := 0, slots := 0 }
theorem k_X2_takeOwn : kY yX2_takeOwn cX2_takeOwn 5 none 2 := ⟨cd_yX2_takeOwn, ⟨by decide, by decide⟩, by decide +kernel, in_RX2⟩
abbrev rm_X2_putLast : Room := { frames := 1, locals := 21, cells := 0, slots := 0 }
theorem k_X2_putLast : kY yX2_putLast cX2_putLast 3 none 2 := ⟨cd_yX2_putLast, ⟨by decide, by decide⟩, by decide +kernel, in_RX2⟩
abbrev rm_X2_takeHanded : Room := { frames := 2, locals := 43, cells := 0, slots := 0 }
theorem k_X2_takeHanded : kY yX2_takeHanded cX2_takeHanded 6 none 3 := ⟨cd_yX2_takeHanded, ⟨by decide, by decide⟩, by decide +kernel, in_RX2⟩
abbrev rm_X2_lengthAt : Room := { frames := 1, locals := 21, cells := 0, slots := 0 }
theorem k_X2_lengthAt : kY yX2_lengthAt cX2_lengthAt 2 (some .int) 1 := ⟨cd_yX2_lengthAt, ⟨by decide, by decide⟩, by decide +kernel, in_RX2⟩
abbrev rm_X2_codeIn : Room := { frames := 1, locals := 21, cells := 0, slots := 0 }
theorem k_X2_codeIn : kY yX2_codeIn cX2_codeIn 3 (some .int) 2 := ⟨cd_yX2_codeIn, ⟨by decide, by decide⟩, by decide +kernel, in_RX2⟩
abbrev rm_X2_decider : Room := { frames := 3, locals := 67, cells := 0, slots := 0 }
theorem k_X2_decider : kY yX2_decider cX2_decider 9 (some .int) 4 := ⟨cd_yX2_decider, ⟨by decide, by decide⟩, by decide +kernel, in_RX2⟩
abbrev rm_X11_decidingEntry : Room := { frames := 7, locals := 123, cells := 3, slots := 18 }
theorem k_X11_decidingEntry : kY yX11_decidingEntry cX11_decidingEntry 5 (some .int) 3 := ⟨cd_yX11_decidingEntry, ⟨by decide, by decide⟩, by decide +kernel, in_RX11⟩
abbrev rm_X11_isStoppedByMask : Room := { frames := 7, locals := 148, cells := 3, slots := 18 }
theorem k_X11_isStoppedByMask : kY yX11_isStoppedByMask cX11_isStoppedByMask 4 (some .boolean) 3 := ⟨cd_yX11_isStoppedByMask, ⟨by decide, by decide⟩, by decide +kernel, in_RX11⟩
abbrev rm_X4_isStopped : Room := { frames := 5, locals := 124, cells := 0, slots := 0 }
theorem k_X4_isStopped : kY yX4_isStopped cX4_isStopped 5 (some .boolean) 4 := ⟨cd_yX4_isStopped, ⟨by decide, by decide⟩, by decide +kernel, in_RX4⟩
abbrev rm_X11_rightsThrough : Room := { frames := 7, locals := 150, cells := 2, slots := 12 }
theorem k_X11_rightsThrough : kY yX11_rightsThrough cX11_rightsThrough 3 (some .int) 2 := ⟨cd_yX11_rightsThrough, ⟨by decide, by decide⟩, by decide +kernel, in_RX11⟩
abbrev rm_X4_countThrough : Room := { frames := 5, locals := 124, cells := 0, slots := 0 }
theorem k_X4_countThrough : kY yX4_countThrough cX4_countThrough 7 (some .int) 3 := ⟨cd_yX4_countThrough, ⟨by decide, by decide⟩, by decide +kernel, in_RX4⟩
abbrev rm_X4_decidedFor : Room := { frames := 1, locals := 20, cells := 0, slots := 0 }
theorem k_X4_decidedFor : kY yX4_decidedFor cX4_decidedFor 5 (some .int) 1 := ⟨cd_yX4_decidedFor, ⟨by decide, by decide⟩, by decide +kernel, in_RX4⟩
abbrev rm_X11_requests : Room := { frames := 0, locals := 0, cells := 0, slots := 0 }
theorem k_X11_requests : kY yX11_requests cX11_requests 1 (some .int) 0 := ⟨cd_yX11_requests, ⟨by decide, by decide⟩, by decide +kernel, in_RX11⟩
abbrev rm_X11_refusals : Room := { frames := 0, locals := 0, cells := 0, slots := 0 }
theorem k_X11_refusals : kY yX11_refusals cX11_refusals 1 (some .int) 0 := ⟨cd_yX11_refusals, ⟨by decide, by decide⟩, by decide +kernel, in_RX11⟩
abbrev rm_X11_userOfRequest : Room := { frames := 7, locals := 111, cells := 1, slots := 6 }
theorem k_X11_userOfRequest : kY yX11_userOfRequest cX11_userOfRequest 2 (some .int) 1 := ⟨cd_yX11_userOfRequest, ⟨by decide, by decide⟩, by decide +kernel, in_RX11⟩
abbrev rm_X11_requireRequest : Room := { frames := 6, locals := 90, cells := 1, slots := 6 }
theorem k_X11_requireRequest : kY yX11_requireRequest cX11_requireRequest 2 none 1 := ⟨cd_yX11_requireRequest, ⟨by decide, by decide⟩, by decide +kernel, in_RX11⟩
abbrev rm_X7_countKept : Room := { frames := 1, locals := 21, cells := 0, slots := 0 }
theorem k_X7_countKept : kY yX7_countKept cX7_countKept 1 (some .int) 0 := ⟨cd_yX7_countKept, ⟨by decide, by decide⟩, by decide +kernel, in_RX7⟩
abbrev rm_X7_userAt : Room := { frames := 2, locals := 43, cells := 0, slots := 0 }
theorem k_X7_userAt : kY yX7_userAt cX7_userAt 2 (some .int) 1 := ⟨cd_yX7_userAt, ⟨by decide, by decide⟩, by decide +kernel, in_RX7⟩
abbrev rm_X11_objectOfRequest : Room := { frames := 7, locals := 111, cells := 1, slots := 6 }
theorem k_X11_objectOfRequest : kY yX11_objectOfRequest cX11_objectOfRequest 2 (some .int) 1 := ⟨cd_yX11_objectOfRequest, ⟨by decide, by decide⟩, by decide +kernel, in_RX11⟩
abbrev rm_X7_objectAt : Room := { frames := 2, locals := 43, cells := 0, slots := 0 }
theorem k_X7_objectAt : kY yX7_objectAt cX7_objectAt 2 (some .int) 1 := ⟨cd_yX7_objectAt, ⟨by decide, by decide⟩, by decide +kernel, in_RX7⟩
abbrev rm_X11_wasAllowed : Room := { frames := 7, locals := 111, cells := 1, slots := 6 }
theorem k_X11_wasAllowed : kY yX11_wasAllowed cX11_wasAllowed 2 (some .boolean) 1 := ⟨cd_yX11_wasAllowed, ⟨by decide, by decide⟩, by decide +kernel, in_RX11⟩
abbrev rm_X7_wasGranted : Room := { frames := 2, locals := 43, cells := 0, slots := 0 }
theorem k_X7_wasGranted : kY yX7_wasGranted cX7_wasGranted 2 (some .boolean) 1 := ⟨cd_yX7_wasGranted, ⟨by decide, by decide⟩, by decide +kernel, in_RX7⟩
abbrev rm_X11_users : Room := { frames := 0, locals := 0, cells := 0, slots := 0 }
theorem k_X11_users : kY yX11_users cX11_users 1 (some .int) 0 := ⟨cd_yX11_users, ⟨by decide, by decide⟩, by decide +kernel, in_RX11⟩
abbrev rm_X11_groups : Room := { frames := 0, locals := 0, cells := 0, slots := 0 }
theorem k_X11_groups : kY yX11_groups cX11_groups 1 (some .int) 0 := ⟨cd_yX11_groups, ⟨by decide, by decide⟩, by decide +kernel, in_RX11⟩
abbrev rm_X11_isMember : Room := { frames := 7, locals := 111, cells := 2, slots := 12 }
theorem k_X11_isMember : kY yX11_isMember cX11_isMember 3 (some .boolean) 2 := ⟨cd_yX11_isMember, ⟨by decide, by decide⟩, by decide +kernel, in_RX11⟩
abbrev rm_X11_isNested : Room := { frames := 7, locals := 111, cells := 2, slots := 12 }
theorem k_X11_isNested : kY yX11_isNested cX11_isNested 3 (some .boolean) 2 := ⟨cd_yX11_isNested, ⟨by decide, by decide⟩, by decide +kernel, in_RX11⟩
abbrev rm_X11_belongs : Room := { frames := 7, locals := 111, cells := 2, slots := 12 }
theorem k_X11_belongs : kY yX11_belongs cX11_belongs 3 (some .boolean) 2 := ⟨cd_yX11_belongs, ⟨by decide, by decide⟩, by decide +kernel, in_RX11⟩
abbrev rm_X11_belongsByMembers : Room := { frames := 7, locals := 111, cells := 2, slots := 12 }
theorem k_X11_belongsByMembers : kY yX11_belongsByMembers cX11_belongsByMembers 3 (some .boolean) 2 := ⟨cd_yX11_belongsByMembers, ⟨by decide, by decide⟩, by decide +kernel, in_RX11⟩
abbrev rm_X11_allRights : Room := { frames := 6, locals := 148, cells := 0, slots := 0 }
theorem k_X11_allRights : kY yX11_allRights cX11_allRights 1 (some .int) 0 := ⟨cd_yX11_allRights, ⟨by decide, by decide⟩, by decide +kernel, in_RX11⟩
abbrev rm_X4_countAll : Room := { frames := 5, locals := 124, cells := 0, slots := 0 }
theorem k_X4_countAll : kY yX4_countAll cX4_countAll 5 (some .int) 1 := ⟨cd_yX4_countAll, ⟨by decide, by decide⟩, by decide +kernel, in_RX4⟩
abbrev rm_X11_openness : Room := { frames := 6, locals := 148, cells := 0, slots := 0 }
theorem k_X11_openness : kY yX11_openness cX11_openness 2 (some .double) 0 := ⟨cd_yX11_openness, ⟨by decide, by decide⟩, by decide +kernel, in_RX11⟩
abbrev rm_X11_isNeedless : Room := { frames := 8, locals := 149, cells := 2, slots := 12 }
theorem k_X11_isNeedless : kY yX11_isNeedless cX11_isNeedless 5 (some .boolean) 2 := ⟨cd_yX11_isNeedless, ⟨by decide, by decide⟩, by decide +kernel, in_RX11⟩
theorem nl_RX11_9 : Cond.methodLinkNest RX11 9 yX9_init RX11 ∈ nestW := List.mem_of_getElem? (i := 0) rfl
theorem nl_RX9_11 : Cond.methodLinkNest RX9 11 yX0_init RX11 ∈ nestW := List.mem_of_getElem? (i := 1) rfl
theorem nl_RX9_27 : Cond.methodLinkNest RX9 27 yX6_init RX11 ∈ nestW := List.mem_of_getElem? (i := 2) rfl
theorem nl_RX9_34 : Cond.methodLinkNest RX9 34 yX7_init RX11 ∈ nestW := List.mem_of_getElem? (i := 3) rfl
theorem nl_RX3_24 : Cond.methodLinkNest RX3 24 yX9_init RX11 ∈ nestW := List.mem_of_getElem? (i := 4) rfl
theorem nl_RX11_29 : Cond.methodLinkNest RX11 29 yX4_init RX11 ∈ nestW := List.mem_of_getElem? (i := 5) rfl
theorem nl_RX11_36 : Cond.methodLinkNest RX11 36 yX2_init RX11 ∈ nestW := List.mem_of_getElem? (i := 6) rfl
theorem nl_RX11_43 : Cond.methodLinkNest RX11 43 yX8_init RX11 ∈ nestW := List.mem_of_getElem? (i := 7) rfl
theorem nl_RX11_50 : Cond.methodLinkNest RX11 50 yX5_init RX11 ∈ nestW := List.mem_of_getElem? (i := 8) rfl
theorem nl_RX0_31 : Cond.methodLinkNest RX0 31 yX11_isIndex RX11 ∈ nestW := List.mem_of_getElem? (i := 9) rfl
theorem nl_RX0_35 : Cond.methodLinkNest RX0 35 yX11_has RX11 ∈ nestW := List.mem_of_getElem? (i := 10) rfl
theorem nl_RX6_24 : Cond.methodLinkNest RX6 24 yX11_isIndex RX11 ∈ nestW := List.mem_of_getElem? (i := 11) rfl
theorem nl_RX10_40 : Cond.methodLinkNest RX10 40 yX11_has RX11 ∈ nestW := List.mem_of_getElem? (i := 12) rfl
theorem nl_RX1_18 : Cond.methodLinkNest RX1 18 yX11_has RX11 ∈ nestW := List.mem_of_getElem? (i := 13) rfl
theorem nl_RX4_25 : Cond.methodLinkNest RX4 25 yX11_has RX11 ∈ nestW := List.mem_of_getElem? (i := 14) rfl
theorem nl_RX9_65 : Cond.methodLinkNest RX9 65 yX11_has RX11 ∈ nestW := List.mem_of_getElem? (i := 15) rfl
theorem nl_RX4_58 : Cond.methodLinkNest RX4 58 yX11_isIndex RX11 ∈ nestW := List.mem_of_getElem? (i := 16) rfl
theorem nl_RX2_99 : Cond.methodLinkNest RX2 99 yX11_changed RX11 ∈ nestW := List.mem_of_getElem? (i := 17) rfl
theorem nl_RX2_118 : Cond.methodLinkNest RX2 118 yX11_isIndex RX11 ∈ nestW := List.mem_of_getElem? (i := 18) rfl
theorem nl_RX2_67 : Cond.methodLinkNest RX2 67 yX11_has RX11 ∈ nestW := List.mem_of_getElem? (i := 19) rfl
theorem nl_RX7_48 : Cond.methodLinkNest RX7 48 yX11_has RX11 ∈ nestW := List.mem_of_getElem? (i := 20) rfl
theorem nl_RX0_38 : Cond.methodLinkNest RX0 38 yX11_changed RX11 ∈ nestW := List.mem_of_getElem? (i := 21) rfl
theorem nl_RX10_44 : Cond.methodLinkNest RX10 44 yX11_changed RX11 ∈ nestW := List.mem_of_getElem? (i := 22) rfl
theorem nl_RX10_66 : Cond.methodLinkNest RX10 66 yX11_isIndex RX11 ∈ nestW := List.mem_of_getElem? (i := 23) rfl
theorem nl_RX7_38 : Cond.methodLinkNest RX7 38 yX11_changed RX11 ∈ nestW := List.mem_of_getElem? (i := 24) rfl
