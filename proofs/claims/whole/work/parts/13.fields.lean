/-! by program: each field read and written, each method with its room, each private of a nest mate -/
section FLD
variable {p : Program} {l : Launch} {e : Env} {R : Room} {s : State} {m : MethodId} {args : Array Value} {below : List Frame} {meth : Method} {c : Code} {cc : ByteArray} {nL : Nat} {own : String} {Θ : cTH} {Qp : cOut → GS → Prop} {Q9 : State → Prop} {mc ms k n pc q : Nat} {LS : List (Option Value)} {st rest : List Value} {G : GS}
theorem g_X9_0 (hC : cC p l s m args meth c cc nL own Θ) {r idx : Nat} (d : decode cc pc = .ok (.getfield idx, 3)) (hq : pc + 3 = q) (hid : okI G.2.2.1 r 0 = true) (hlk : Cond.fieldLink own idx "PermissionDesk$State" "club" "LPermissionDesk$Club;" ∈ wALL) (kk : VG p l e R s m args below meth c nL Θ Q9 k n q LS (.ref (tR Θ r 1) :: rest) G) : VG p l e R s m args below meth c nL Θ Q9 k n pc LS (.ref (tR Θ r 0) :: rest) G := v_get (ci := 8) (j := 0) (N := 4) (T := TX9) hC d hq hid rfl rfl inl9 (by decide) rfl hlk kk
theorem g_X9_1 (hC : cC p l s m args meth c cc nL own Θ) {r idx : Nat} (d : decode cc pc = .ok (.getfield idx, 3)) (hq : pc + 3 = q) (hid : okI G.2.2.1 r 0 = true) (hlk : Cond.fieldLink own idx "PermissionDesk$State" "tree" "LPermissionDesk$Tree;" ∈ wALL) (kk : VG p l e R s m args below meth c nL Θ Q9 k n q LS (.ref (tR Θ r 4) :: rest) G) : VG p l e R s m args below meth c nL Θ Q9 k n pc LS (.ref (tR Θ r 0) :: rest) G := v_get (ci := 8) (j := 1) (N := 4) (T := TX9) hC d hq hid rfl rfl inl9 (by decide) rfl hlk kk
theorem g_X9_2 (hC : cC p l s m args meth c cc nL own Θ) {r idx : Nat} (d : decode cc pc = .ok (.getfield idx, 3)) (hq : pc + 3 = q) (hid : okI G.2.2.1 r 0 = true) (hlk : Cond.fieldLink own idx "PermissionDesk$State" "lists" "LPermissionDesk$Lists;" ∈ wALL) (kk : VG p l e R s m args below meth c nL Θ Q9 k n q LS (.ref (tR Θ r 8) :: rest) G) : VG p l e R s m args below meth c nL Θ Q9 k n pc LS (.ref (tR Θ r 0) :: rest) G := v_get (ci := 8) (j := 2) (N := 4) (T := TX9) hC d hq hid rfl rfl inl9 (by decide) rfl hlk kk
theorem g_X9_3 (hC : cC p l s m args meth c cc nL own Θ) {r idx : Nat} (d : decode cc pc = .ok (.getfield idx, 3)) (hq : pc + 3 = q) (hid : okI G.2.2.1 r 0 = true) (hlk : Cond.fieldLink own idx "PermissionDesk$State" "log" "LPermissionDesk$Log;" ∈ wALL) (kk : VG p l e R s m args below meth c nL Θ Q9 k n q LS (.ref (tR Θ r 11) :: rest) G) : VG p l e R s m args below meth c nL Θ Q9 k n pc LS (.ref (tR Θ r 0) :: rest) G := v_get (ci := 8) (j := 3) (N := 4) (T := TX9) hC d hq hid rfl rfl inl9 (by decide) rfl hlk kk
theorem g_X0_0 (hC : cC p l s m args meth c cc nL own Θ) {r idx : Nat} (d : decode cc pc = .ok (.getfield idx, 3)) (hq : pc + 3 = q) (hid : okI G.2.2.1 r 1 = true) (hlk : Cond.fieldLink own idx "PermissionDesk$Club" "users" "I" ∈ wALL) (kk : VG p l e R s m args below meth c nL Θ Q9 k n q LS (.int (G.1 r 1 0) :: rest) G) : VG p l e R s m args below meth c nL Θ Q9 k n pc LS (.ref (tR Θ r 1) :: rest) G := v_get (ci := 0) (j := 0) (N := 4) (T := TX0) hC d hq hid rfl rfl inl0 (by decide) rfl hlk kk
theorem p_X0_0 (hC : cC p l s m args meth c cc nL own Θ) {r idx : Nat} {x : Int32} (d : decode cc pc = .ok (.putfield idx, 3)) (hq : pc + 3 = q) (hid : okI G.2.2.1 r 1 = true) (hlk : Cond.fieldLink own idx "PermissionDesk$Club" "users" "I" ∈ wALL) (kk : VG p l e R s m args below meth c nL Θ Q9 k n q LS rest (putF G r 1 0 x)) : VG p l e R s m args below meth c nL Θ Q9 k n pc LS (.int x :: .ref (tR Θ r 1) :: rest) G := v_put (ci := 0) (j := 0) (N := 4) (T := TX0) (ty0 := tyX0) hC d hq hid rfl rfl inl0 tyX0_ok nmX0 (by decide) (by decide +kernel) rfl (Nat.lt_of_lt_of_le (Nat.lt_succ_self 0) (Nat.le_of_ble_eq_true rfl)) hlk rfl kk
theorem g_X0_1 (hC : cC p l s m args meth c cc nL own Θ) {r idx : Nat} (d : decode cc pc = .ok (.getfield idx, 3)) (hq : pc + 3 = q) (hid : okI G.2.2.1 r 1 = true) (hlk : Cond.fieldLink own idx "PermissionDesk$Club" "groups" "I" ∈ wALL) (kk : VG p l e R s m args below meth c nL Θ Q9 k n q LS (.int (G.1 r 1 1) :: rest) G) : VG p l e R s m args below meth c nL Θ Q9 k n pc LS (.ref (tR Θ r 1) :: rest) G := v_get (ci := 0) (j := 1) (N := 4) (T := TX0) hC d hq hid rfl rfl inl0 (by decide) rfl hlk kk
theorem p_X0_1 (hC : cC p l s m args meth c cc nL own Θ) {r idx : Nat} {x : Int32} (d : decode cc pc = .ok (.putfield idx, 3)) (hq : pc + 3 = q) (hid : okI G.2.2.1 r 1 = true) (hlk : Cond.fieldLink own idx "PermissionDesk$Club" "groups" "I" ∈ wALL) (kk : VG p l e R s m args below meth c nL Θ Q9 k n q LS rest (putF G r 1 1 x)) : VG p l e R s m args below meth c nL Θ Q9 k n pc LS (.int x :: .ref (tR Θ r 1) :: rest) G := v_put (ci := 0) (j := 1) (N := 4) (T := TX0) (ty0 := tyX0) hC d hq hid rfl rfl inl0 tyX0_ok nmX0 (by decide) (by decide +kernel) rfl (Nat.lt_of_lt_of_le (Nat.lt_succ_self 1) (Nat.le_of_ble_eq_true rfl)) hlk rfl kk
theorem g_X0_2 (hC : cC p l s m args meth c cc nL own Θ) {r idx : Nat} (d : decode cc pc = .ok (.getfield idx, 3)) (hq : pc + 3 = q) (hid : okI G.2.2.1 r 1 = true) (hlk : Cond.fieldLink own idx "PermissionDesk$Club" "groupsOfUser" "[I" ∈ wALL) (kk : VG p l e R s m args below meth c nL Θ Q9 k n q LS (.ref (tR Θ r 2) :: rest) G) : VG p l e R s m args below meth c nL Θ Q9 k n pc LS (.ref (tR Θ r 1) :: rest) G := v_get (ci := 0) (j := 2) (N := 4) (T := TX0) hC d hq hid rfl rfl inl0 (by decide) rfl hlk kk
theorem g_X0_3 (hC : cC p l s m args meth c cc nL own Θ) {r idx : Nat} (d : decode cc pc = .ok (.getfield idx, 3)) (hq : pc + 3 = q) (hid : okI G.2.2.1 r 1 = true) (hlk : Cond.fieldLink own idx "PermissionDesk$Club" "outersOfGroup" "[I" ∈ wALL) (kk : VG p l e R s m args below meth c nL Θ Q9 k n q LS (.ref (tR Θ r 3) :: rest) G) : VG p l e R s m args below meth c nL Θ Q9 k n pc LS (.ref (tR Θ r 1) :: rest) G := v_get (ci := 0) (j := 3) (N := 4) (T := TX0) hC d hq hid rfl rfl inl0 (by decide) rfl hlk kk
theorem g_X10_0 (hC : cC p l s m args meth c cc nL own Θ) {r idx : Nat} (d : decode cc pc = .ok (.getfield idx, 3)) (hq : pc + 3 = q) (hid : okI G.2.2.1 r 4 = true) (hlk : Cond.fieldLink own idx "PermissionDesk$Tree" "there" "I" ∈ wALL) (kk : VG p l e R s m args below meth c nL Θ Q9 k n q LS (.int (G.1 r 4 0) :: rest) G) : VG p l e R s m args below meth c nL Θ Q9 k n pc LS (.ref (tR Θ r 4) :: rest) G := v_get (ci := 9) (j := 0) (N := 5) (T := TX10) hC d hq hid rfl rfl inl10 (by decide) rfl hlk kk
theorem p_X10_0 (hC : cC p l s m args meth c cc nL own Θ) {r idx : Nat} {x : Int32} (d : decode cc pc = .ok (.putfield idx, 3)) (hq : pc + 3 = q) (hid : okI G.2.2.1 r 4 = true) (hlk : Cond.fieldLink own idx "PermissionDesk$Tree" "there" "I" ∈ wALL) (kk : VG p l e R s m args below meth c nL Θ Q9 k n q LS rest (putF G r 4 0 x)) : VG p l e R s m args below meth c nL Θ Q9 k n pc LS (.int x :: .ref (tR Θ r 4) :: rest) G := v_put (ci := 9) (j := 0) (N := 5) (T := TX10) (ty0 := tyX10) hC d hq hid rfl rfl inl10 tyX10_ok nmX10 (by decide) (by decide +kernel) rfl (Nat.lt_of_lt_of_le (Nat.lt_succ_self 0) (Nat.le_of_ble_eq_true rfl)) hlk rfl kk
theorem g_X10_1 (hC : cC p l s m args meth c cc nL own Θ) {r idx : Nat} (d : decode cc pc = .ok (.getfield idx, 3)) (hq : pc + 3 = q) (hid : okI G.2.2.1 r 4 = true) (hlk : Cond.fieldLink own idx "PermissionDesk$Tree" "inheriting" "I" ∈ wALL) (kk : VG p l e R s m args below meth c nL Θ Q9 k n q LS (.int (G.1 r 4 1) :: rest) G) : VG p l e R s m args below meth c nL Θ Q9 k n pc LS (.ref (tR Θ r 4) :: rest) G := v_get (ci := 9) (j := 1) (N := 5) (T := TX10) hC d hq hid rfl rfl inl10 (by decide) rfl hlk kk
theorem p_X10_1 (hC : cC p l s m args meth c cc nL own Θ) {r idx : Nat} {x : Int32} (d : decode cc pc = .ok (.putfield idx, 3)) (hq : pc + 3 = q) (hid : okI G.2.2.1 r 4 = true) (hlk : Cond.fieldLink own idx "PermissionDesk$Tree" "inheriting" "I" ∈ wALL) (kk : VG p l e R s m args below meth c nL Θ Q9 k n q LS rest (putF G r 4 1 x)) : VG p l e R s m args below meth c nL Θ Q9 k n pc LS (.int x :: .ref (tR Θ r 4) :: rest) G := v_put (ci := 9) (j := 1) (N := 5) (T := TX10) (ty0 := tyX10) hC d hq hid rfl rfl inl10 tyX10_ok nmX10 (by decide) (by decide +kernel) rfl (Nat.lt_of_lt_of_le (Nat.lt_succ_self 1) (Nat.le_of_ble_eq_true rfl)) hlk rfl kk
theorem g_X10_2 (hC : cC p l s m args meth c cc nL own Θ) {r idx : Nat} (d : decode cc pc = .ok (.getfield idx, 3)) (hq : pc + 3 = q) (hid : okI G.2.2.1 r 4 = true) (hlk : Cond.fieldLink own idx "PermissionDesk$Tree" "parents" "[I" ∈ wALL) (kk : VG p l e R s m args below meth c nL Θ Q9 k n q LS (.ref (tR Θ r 5) :: rest) G) : VG p l e R s m args below meth c nL Θ Q9 k n pc LS (.ref (tR Θ r 4) :: rest) G := v_get (ci := 9) (j := 2) (N := 5) (T := TX10) hC d hq hid rfl rfl inl10 (by decide) rfl hlk kk
theorem g_X10_3 (hC : cC p l s m args meth c cc nL own Θ) {r idx : Nat} (d : decode cc pc = .ok (.getfield idx, 3)) (hq : pc + 3 = q) (hid : okI G.2.2.1 r 4 = true) (hlk : Cond.fieldLink own idx "PermissionDesk$Tree" "owners" "[I" ∈ wALL) (kk : VG p l e R s m args below meth c nL Θ Q9 k n q LS (.ref (tR Θ r 6) :: rest) G) : VG p l e R s m args below meth c nL Θ Q9 k n pc LS (.ref (tR Θ r 4) :: rest) G := v_get (ci := 9) (j := 3) (N := 5) (T := TX10) hC d hq hid rfl rfl inl10 (by decide) rfl hlk kk
theorem g_X10_4 (hC : cC p l s m args meth c cc nL own Θ) {r idx : Nat} (d : decode cc pc = .ok (.getfield idx, 3)) (hq : pc + 3 = q) (hid : okI G.2.2.1 r 4 = true) (hlk : Cond.fieldLink own idx "PermissionDesk$Tree" "masks" "[I" ∈ wALL) (kk : VG p l e R s m args below meth c nL Θ Q9 k n q LS (.ref (tR Θ r 7) :: rest) G) : VG p l e R s m args below meth c nL Θ Q9 k n pc LS (.ref (tR Θ r 4) :: rest) G := v_get (ci := 9) (j := 4) (N := 5) (T := TX10) hC d hq hid rfl rfl inl10 (by decide) rfl hlk kk
theorem g_X6_0 (hC : cC p l s m args meth c cc nL own Θ) {r idx : Nat} (d : decode cc pc = .ok (.getfield idx, 3)) (hq : pc + 3 = q) (hid : okI G.2.2.1 r 8 = true) (hlk : Cond.fieldLink own idx "PermissionDesk$Lists" "counts" "[I" ∈ wALL) (kk : VG p l e R s m args below meth c nL Θ Q9 k n q LS (.ref (tR Θ r 9) :: rest) G) : VG p l e R s m args below meth c nL Θ Q9 k n pc LS (.ref (tR Θ r 8) :: rest) G := v_get (ci := 5) (j := 0) (N := 2) (T := TX6) hC d hq hid rfl rfl inl6 (by decide) rfl hlk kk
theorem g_X6_1 (hC : cC p l s m args meth c cc nL own Θ) {r idx : Nat} (d : decode cc pc = .ok (.getfield idx, 3)) (hq : pc + 3 = q) (hid : okI G.2.2.1 r 8 = true) (hlk : Cond.fieldLink own idx "PermissionDesk$Lists" "entries" "[I" ∈ wALL) (kk : VG p l e R s m args below meth c nL Θ Q9 k n q LS (.ref (tR Θ r 10) :: rest) G) : VG p l e R s m args below meth c nL Θ Q9 k n pc LS (.ref (tR Θ r 8) :: rest) G := v_get (ci := 5) (j := 1) (N := 2) (T := TX6) hC d hq hid rfl rfl inl6 (by decide) rfl hlk kk
theorem g_X7_0 (hC : cC p l s m args meth c cc nL own Θ) {r idx : Nat} (d : decode cc pc = .ok (.getfield idx, 3)) (hq : pc + 3 = q) (hid : okI G.2.2.1 r 11 = true) (hlk : Cond.fieldLink own idx "PermissionDesk$Log" "requests" "I" ∈ wALL) (kk : VG p l e R s m args below meth c nL Θ Q9 k n q LS (.int (G.1 r 11 0) :: rest) G) : VG p l e R s m args below meth c nL Θ Q9 k n pc LS (.ref (tR Θ r 11) :: rest) G := v_get (ci := 6) (j := 0) (N := 5) (T := TX7) hC d hq hid rfl rfl inl7 (by decide) rfl hlk kk
theorem p_X7_0 (hC : cC p l s m args meth c cc nL own Θ) {r idx : Nat} {x : Int32} (d : decode cc pc = .ok (.putfield idx, 3)) (hq : pc + 3 = q) (hid : okI G.2.2.1 r 11 = true) (hlk : Cond.fieldLink own idx "PermissionDesk$Log" "requests" "I" ∈ wALL) (kk : VG p l e R s m args below meth c nL Θ Q9 k n q LS rest (putF G r 11 0 x)) : VG p l e R s m args below meth c nL Θ Q9 k n pc LS (.int x :: .ref (tR Θ r 11) :: rest) G := v_put (ci := 6) (j := 0) (N := 5) (T := TX7) (ty0 := tyX7) hC d hq hid rfl rfl inl7 tyX7_ok nmX7 (by decide) (by decide +kernel) rfl (Nat.lt_of_lt_of_le (Nat.lt_succ_self 0) (Nat.le_of_ble_eq_true rfl)) hlk rfl kk
theorem g_X7_1 (hC : cC p l s m args meth c cc nL own Θ) {r idx : Nat} (d : decode cc pc = .ok (.getfield idx, 3)) (hq : pc + 3 = q) (hid : okI G.2.2.1 r 11 = true) (hlk : Cond.fieldLink own idx "PermissionDesk$Log" "refusals" "I" ∈ wALL) (kk : VG p l e R s m args below meth c nL Θ Q9 k n q LS (.int (G.1 r 11 1) :: rest) G) : VG p l e R s m args below meth c nL Θ Q9 k n pc LS (.ref (tR Θ r 11) :: rest) G := v_get (ci := 6) (j := 1) (N := 5) (T := TX7) hC d hq hid rfl rfl inl7 (by decide) rfl hlk kk
theorem p_X7_1 (hC : cC p l s m args meth c cc nL own Θ) {r idx : Nat} {x : Int32} (d : decode cc pc = .ok (.putfield idx, 3)) (hq : pc + 3 = q) (hid : okI G.2.2.1 r 11 = true) (hlk : Cond.fieldLink own idx "PermissionDesk$Log" "refusals" "I" ∈ wALL) (kk : VG p l e R s m args below meth c nL Θ Q9 k n q LS rest (putF G r 11 1 x)) : VG p l e R s m args below meth c nL Θ Q9 k n pc LS (.int x :: .ref (tR Θ r 11) :: rest) G := v_put (ci := 6) (j := 1) (N := 5) (T := TX7) (ty0 := tyX7) hC d hq hid rfl rfl inl7 tyX7_ok nmX7 (by decide) (by decide +kernel) rfl (Nat.lt_of_lt_of_le (Nat.lt_succ_self 1) (Nat.le_of_ble_eq_true rfl)) hlk rfl kk
theorem g_X7_2 (hC : cC p l s m args meth c cc nL own Θ) {r idx : Nat} (d : decode cc pc = .ok (.getfield idx, 3)) (hq : pc + 3 = q) (hid : okI G.2.2.1 r 11 = true) (hlk : Cond.fieldLink own idx "PermissionDesk$Log" "granted" "I" ∈ wALL) (kk : VG p l e R s m args below meth c nL Θ Q9 k n q LS (.int (G.1 r 11 2) :: rest) G) : VG p l e R s m args below meth c nL Θ Q9 k n pc LS (.ref (tR Θ r 11) :: rest) G := v_get (ci := 6) (j := 2) (N := 5) (T := TX7) hC d hq hid rfl rfl inl7 (by decide) rfl hlk kk
theorem p_X7_2 (hC : cC p l s m args meth c cc nL own Θ) {r idx : Nat} {x : Int32} (d : decode cc pc = .ok (.putfield idx, 3)) (hq : pc + 3 = q) (hid : okI G.2.2.1 r 11 = true) (hlk : Cond.fieldLink own idx "PermissionDesk$Log" "granted" "I" ∈ wALL) (kk : VG p l e R s m args below meth c nL Θ Q9 k n q LS rest (putF G r 11 2 x)) : VG p l e R s m args below meth c nL Θ Q9 k n pc LS (.int x :: .ref (tR Θ r 11) :: rest) G := v_put (ci := 6) (j := 2) (N := 5) (T := TX7) (ty0 := tyX7) hC d hq hid rfl rfl inl7 tyX7_ok nmX7 (by decide) (by decide +kernel) rfl (Nat.lt_of_lt_of_le (Nat.lt_succ_self 2) (Nat.le_of_ble_eq_true rfl)) hlk rfl kk
theorem g_X7_3 (hC : cC p l s m args meth c cc nL own Θ) {r idx : Nat} (d : decode cc pc = .ok (.getfield idx, 3)) (hq : pc + 3 = q) (hid : okI G.2.2.1 r 11 = true) (hlk : Cond.fieldLink own idx "PermissionDesk$Log" "users" "[I" ∈ wALL) (kk : VG p l e R s m args below meth c nL Θ Q9 k n q LS (.ref (tR Θ r 12) :: rest) G) : VG p l e R s m args below meth c nL Θ Q9 k n pc LS (.ref (tR Θ r 11) :: rest) G := v_get (ci := 6) (j := 3) (N := 5) (T := TX7) hC d hq hid rfl rfl inl7 (by decide) rfl hlk kk
theorem g_X7_4 (hC : cC p l s m args meth c cc nL own Θ) {r idx : Nat} (d : decode cc pc = .ok (.getfield idx, 3)) (hq : pc + 3 = q) (hid : okI G.2.2.1 r 11 = true) (hlk : Cond.fieldLink own idx "PermissionDesk$Log" "objects" "[I" ∈ wALL) (kk : VG p l e R s m args below meth c nL Θ Q9 k n q LS (.ref (tR Θ r 13) :: rest) G) : VG p l e R s m args below meth c nL Θ Q9 k n pc LS (.ref (tR Θ r 11) :: rest) G := v_get (ci := 6) (j := 4) (N := 5) (T := TX7) hC d hq hid rfl rfl inl7 (by decide) rfl hlk kk
theorem g_X11_0 (hC : cC p l s m args meth c cc nL own Θ) {r idx : Nat} (d : decode cc pc = .ok (.getfield idx, 3)) (hq : pc + 3 = q) (hid : okI G.2.2.1 r 14 = true) (hlk : Cond.fieldLink own idx "PermissionDesk" "now" "LPermissionDesk$State;" ∈ wALL) (kk : VG p l e R s m args below meth c nL Θ Q9 k n q LS (.ref (tR Θ 0 0) :: rest) G) : VG p l e R s m args below meth c nL Θ Q9 k n pc LS (.ref (tR Θ r 14) :: rest) G := v_get (ci := 10) (j := 0) (N := 7) (T := TX11) hC d hq hid rfl rfl inl11 (by decide) rfl hlk kk
theorem g_X11_1 (hC : cC p l s m args meth c cc nL own Θ) {r idx : Nat} (d : decode cc pc = .ok (.getfield idx, 3)) (hq : pc + 3 = q) (hid : okI G.2.2.1 r 14 = true) (hlk : Cond.fieldLink own idx "PermissionDesk" "history" "LPermissionDesk$History;" ∈ wALL) (kk : VG p l e R s m args below meth c nL Θ Q9 k n q LS (.ref (tR Θ 0 15) :: rest) G) : VG p l e R s m args below meth c nL Θ Q9 k n pc LS (.ref (tR Θ r 14) :: rest) G := v_get (ci := 10) (j := 1) (N := 7) (T := TX11) hC d hq hid rfl rfl inl11 (by decide) rfl hlk kk
theorem g_X11_2 (hC : cC p l s m args meth c cc nL own Θ) {r idx : Nat} (d : decode cc pc = .ok (.getfield idx, 3)) (hq : pc + 3 = q) (hid : okI G.2.2.1 r 14 = true) (hlk : Cond.fieldLink own idx "PermissionDesk" "slots" "[LPermissionDesk$State;" ∈ wALL) (kk : VG p l e R s m args below meth c nL Θ Q9 k n q LS (.ref (tR Θ 0 17) :: rest) G) : VG p l e R s m args below meth c nL Θ Q9 k n pc LS (.ref (tR Θ r 14) :: rest) G := v_get (ci := 10) (j := 2) (N := 7) (T := TX11) hC d hq hid rfl rfl inl11 (by decide) rfl hlk kk
theorem g_X11_3 (hC : cC p l s m args meth c cc nL own Θ) {r idx : Nat} (d : decode cc pc = .ok (.getfield idx, 3)) (hq : pc + 3 = q) (hid : okI G.2.2.1 r 14 = true) (hlk : Cond.fieldLink own idx "PermissionDesk" "judge" "LPermissionDesk$Judge;" ∈ wALL) (kk : VG p l e R s m args below meth c nL Θ Q9 k n q LS (.ref (tR Θ 0 18) :: rest) G) : VG p l e R s m args below meth c nL Θ Q9 k n pc LS (.ref (tR Θ r 14) :: rest) G := v_get (ci := 10) (j := 3) (N := 7) (T := TX11) hC d hq hid rfl rfl inl11 (by decide) rfl hlk kk
theorem g_X11_4 (hC : cC p l s m args meth c cc nL own Θ) {r idx : Nat} (d : decode cc pc = .ok (.getfield idx, 3)) (hq : pc + 3 = q) (hid : okI G.2.2.1 r 14 = true) (hlk : Cond.fieldLink own idx "PermissionDesk" "handing" "LPermissionDesk$Handing;" ∈ wALL) (kk : VG p l e R s m args below meth c nL Θ Q9 k n q LS (.ref (tR Θ 0 22) :: rest) G) : VG p l e R s m args below meth c nL Θ Q9 k n pc LS (.ref (tR Θ r 14) :: rest) G := v_get (ci := 10) (j := 4) (N := 7) (T := TX11) hC d hq hid rfl rfl inl11 (by decide) rfl hlk kk
theorem g_X11_5 (hC : cC p l s m args meth c cc nL own Θ) {r idx : Nat} (d : decode cc pc = .ok (.getfield idx, 3)) (hq : pc + 3 = q) (hid : okI G.2.2.1 r 14 = true) (hlk : Cond.fieldLink own idx "PermissionDesk" "pad" "LPermissionDesk$Pad;" ∈ wALL) (kk : VG p l e R s m args below meth c nL Θ Q9 k n q LS (.ref (tR Θ 0 25) :: rest) G) : VG p l e R s m args below meth c nL Θ Q9 k n pc LS (.ref (tR Θ r 14) :: rest) G := v_get (ci := 10) (j := 5) (N := 7) (T := TX11) hC d hq hid rfl rfl inl11 (by decide) rfl hlk kk
theorem g_X11_6 (hC : cC p l s m args meth c cc nL own Θ) {r idx : Nat} (d : decode cc pc = .ok (.getfield idx, 3)) (hq : pc + 3 = q) (hid : okI G.2.2.1 r 14 = true) (hlk : Cond.fieldLink own idx "PermissionDesk" "text" "LPermissionDesk$ListText;" ∈ wALL) (kk : VG p l e R s m args below meth c nL Θ Q9 k n q LS (.ref (tR Θ 0 27) :: rest) G) : VG p l e R s m args below meth c nL Θ Q9 k n pc LS (.ref (tR Θ r 14) :: rest) G := v_get (ci := 10) (j := 6) (N := 7) (T := TX11) hC d hq hid rfl rfl inl11 (by decide) rfl hlk kk
theorem g_X3_0 (hC : cC p l s m args meth c cc nL own Θ) {r idx : Nat} (d : decode cc pc = .ok (.getfield idx, 3)) (hq : pc + 3 = q) (hid : okI G.2.2.1 r 15 = true) (hlk : Cond.fieldLink own idx "PermissionDesk$History" "kept" "I" ∈ wALL) (kk : VG p l e R s m args below meth c nL Θ Q9 k n q LS (.int (G.1 r 15 0) :: rest) G) : VG p l e R s m args below meth c nL Θ Q9 k n pc LS (.ref (tR Θ r 15) :: rest) G := v_get (ci := 2) (j := 0) (N := 3) (T := TX3) hC d hq hid rfl rfl inl3 (by decide) rfl hlk kk
theorem p_X3_0 (hC : cC p l s m args meth c cc nL own Θ) {r idx : Nat} {x : Int32} (d : decode cc pc = .ok (.putfield idx, 3)) (hq : pc + 3 = q) (hid : okI G.2.2.1 r 15 = true) (hlk : Cond.fieldLink own idx "PermissionDesk$History" "kept" "I" ∈ wALL) (kk : VG p l e R s m args below meth c nL Θ Q9 k n q LS rest (putF G r 15 0 x)) : VG p l e R s m args below meth c nL Θ Q9 k n pc LS (.int x :: .ref (tR Θ r 15) :: rest) G := v_put (ci := 2) (j := 0) (N := 3) (T := TX3) (ty0 := tyX3) hC d hq hid rfl rfl inl3 tyX3_ok nmX3 (by decide) (by decide +kernel) rfl (Nat.lt_of_lt_of_le (Nat.lt_succ_self 0) (Nat.le_of_ble_eq_true rfl)) hlk rfl kk
theorem g_X3_1 (hC : cC p l s m args meth c cc nL own Θ) {r idx : Nat} (d : decode cc pc = .ok (.getfield idx, 3)) (hq : pc + 3 = q) (hid : okI G.2.2.1 r 15 = true) (hlk : Cond.fieldLink own idx "PermissionDesk$History" "oldest" "I" ∈ wALL) (kk : VG p l e R s m args below meth c nL Θ Q9 k n q LS (.int (G.1 r 15 1) :: rest) G) : VG p l e R s m args below meth c nL Θ Q9 k n pc LS (.ref (tR Θ r 15) :: rest) G := v_get (ci := 2) (j := 1) (N := 3) (T := TX3) hC d hq hid rfl rfl inl3 (by decide) rfl hlk kk
theorem p_X3_1 (hC : cC p l s m args meth c cc nL own Θ) {r idx : Nat} {x : Int32} (d : decode cc pc = .ok (.putfield idx, 3)) (hq : pc + 3 = q) (hid : okI G.2.2.1 r 15 = true) (hlk : Cond.fieldLink own idx "PermissionDesk$History" "oldest" "I" ∈ wALL) (kk : VG p l e R s m args below meth c nL Θ Q9 k n q LS rest (putF G r 15 1 x)) : VG p l e R s m args below meth c nL Θ Q9 k n pc LS (.int x :: .ref (tR Θ r 15) :: rest) G := v_put (ci := 2) (j := 1) (N := 3) (T := TX3) (ty0 := tyX3) hC d hq hid rfl rfl inl3 tyX3_ok nmX3 (by decide) (by decide +kernel) rfl (Nat.lt_of_lt_of_le (Nat.lt_succ_self 1) (Nat.le_of_ble_eq_true rfl)) hlk rfl kk
theorem g_X3_2 (hC : cC p l s m args meth c cc nL own Θ) {r idx : Nat} (d : decode cc pc = .ok (.getfield idx, 3)) (hq : pc + 3 = q) (hid : okI G.2.2.1 r 15 = true) (hlk : Cond.fieldLink own idx "PermissionDesk$History" "rows" "[LPermissionDesk$State;" ∈ wALL) (kk : VG p l e R s m args below meth c nL Θ Q9 k n q LS (.ref (tR Θ 0 16) :: rest) G) : VG p l e R s m args below meth c nL Θ Q9 k n pc LS (.ref (tR Θ r 15) :: rest) G := v_get (ci := 2) (j := 2) (N := 3) (T := TX3) hC d hq hid rfl rfl inl3 (by decide) rfl hlk kk
theorem g_X4_0 (hC : cC p l s m args meth c cc nL own Θ) {r idx : Nat} (d : decode cc pc = .ok (.getfield idx, 3)) (hq : pc + 3 = q) (hid : okI G.2.2.1 r 18 = true) (hlk : Cond.fieldLink own idx "PermissionDesk$Judge" "places" "[I" ∈ wALL) (kk : VG p l e R s m args below meth c nL Θ Q9 k n q LS (.ref (tR Θ 0 19) :: rest) G) : VG p l e R s m args below meth c nL Θ Q9 k n pc LS (.ref (tR Θ r 18) :: rest) G := v_get (ci := 3) (j := 0) (N := 3) (T := TX4) hC d hq hid rfl rfl inl4 (by decide) rfl hlk kk
theorem g_X4_1 (hC : cC p l s m args meth c cc nL own Θ) {r idx : Nat} (d : decode cc pc = .ok (.getfield idx, 3)) (hq : pc + 3 = q) (hid : okI G.2.2.1 r 18 = true) (hlk : Cond.fieldLink own idx "PermissionDesk$Judge" "deciders" "[I" ∈ wALL) (kk : VG p l e R s m args below meth c nL Θ Q9 k n q LS (.ref (tR Θ 0 20) :: rest) G) : VG p l e R s m args below meth c nL Θ Q9 k n pc LS (.ref (tR Θ r 18) :: rest) G := v_get (ci := 3) (j := 1) (N := 3) (T := TX4) hC d hq hid rfl rfl inl4 (by decide) rfl hlk kk
theorem g_X4_2 (hC : cC p l s m args meth c cc nL own Θ) {r idx : Nat} (d : decode cc pc = .ok (.getfield idx, 3)) (hq : pc + 3 = q) (hid : okI G.2.2.1 r 18 = true) (hlk : Cond.fieldLink own idx "PermissionDesk$Judge" "table" "[I" ∈ wALL) (kk : VG p l e R s m args below meth c nL Θ Q9 k n q LS (.ref (tR Θ 0 21) :: rest) G) : VG p l e R s m args below meth c nL Θ Q9 k n pc LS (.ref (tR Θ r 18) :: rest) G := v_get (ci := 3) (j := 2) (N := 3) (T := TX4) hC d hq hid rfl rfl inl4 (by decide) rfl hlk kk
theorem g_X2_0 (hC : cC p l s m args meth c cc nL own Θ) {r idx : Nat} (d : decode cc pc = .ok (.getfield idx, 3)) (hq : pc + 3 = q) (hid : okI G.2.2.1 r 22 = true) (hlk : Cond.fieldLink own idx "PermissionDesk$Handing" "reached" "I" ∈ wALL) (kk : VG p l e R s m args below meth c nL Θ Q9 k n q LS (.int (G.1 r 22 0) :: rest) G) : VG p l e R s m args below meth c nL Θ Q9 k n pc LS (.ref (tR Θ r 22) :: rest) G := v_get (ci := 1) (j := 0) (N := 3) (T := TX2) hC d hq hid rfl rfl inl2 (by decide) rfl hlk kk
theorem p_X2_0 (hC : cC p l s m args meth c cc nL own Θ) {r idx : Nat} {x : Int32} (d : decode cc pc = .ok (.putfield idx, 3)) (hq : pc + 3 = q) (hid : okI G.2.2.1 r 22 = true) (hlk : Cond.fieldLink own idx "PermissionDesk$Handing" "reached" "I" ∈ wALL) (kk : VG p l e R s m args below meth c nL Θ Q9 k n q LS rest (putF G r 22 0 x)) : VG p l e R s m args below meth c nL Θ Q9 k n pc LS (.int x :: .ref (tR Θ r 22) :: rest) G := v_put (ci := 1) (j := 0) (N := 3) (T := TX2) (ty0 := tyX2) hC d hq hid rfl rfl inl2 tyX2_ok nmX2 (by decide) (by decide +kernel) rfl (Nat.lt_of_lt_of_le (Nat.lt_succ_self 0) (Nat.le_of_ble_eq_true rfl)) hlk rfl kk
theorem g_X2_1 (hC : cC p l s m args meth c cc nL own Θ) {r idx : Nat} (d : decode cc pc = .ok (.getfield idx, 3)) (hq : pc + 3 = q) (hid : okI G.2.2.1 r 22 = true) (hlk : Cond.fieldLink own idx "PermissionDesk$Handing" "lengths" "[I" ∈ wALL) (kk : VG p l e R s m args below meth c nL Θ Q9 k n q LS (.ref (tR Θ 0 23) :: rest) G) : VG p l e R s m args below meth c nL Θ Q9 k n pc LS (.ref (tR Θ r 22) :: rest) G := v_get (ci := 1) (j := 1) (N := 3) (T := TX2) hC d hq hid rfl rfl inl2 (by decide) rfl hlk kk
theorem g_X2_2 (hC : cC p l s m args meth c cc nL own Θ) {r idx : Nat} (d : decode cc pc = .ok (.getfield idx, 3)) (hq : pc + 3 = q) (hid : okI G.2.2.1 r 22 = true) (hlk : Cond.fieldLink own idx "PermissionDesk$Handing" "lists" "[I" ∈ wALL) (kk : VG p l e R s m args below meth c nL Θ Q9 k n q LS (.ref (tR Θ 0 24) :: rest) G) : VG p l e R s m args below meth c nL Θ Q9 k n pc LS (.ref (tR Θ r 22) :: rest) G := v_get (ci := 1) (j := 2) (N := 3) (T := TX2) hC d hq hid rfl rfl inl2 (by decide) rfl hlk kk
theorem g_X8_0 (hC : cC p l s m args meth c cc nL own Θ) {r idx : Nat} (d : decode cc pc = .ok (.getfield idx, 3)) (hq : pc + 3 = q) (hid : okI G.2.2.1 r 25 = true) (hlk : Cond.fieldLink own idx "PermissionDesk$Pad" "length" "I" ∈ wALL) (kk : VG p l e R s m args below meth c nL Θ Q9 k n q LS (.int (G.1 r 25 0) :: rest) G) : VG p l e R s m args below meth c nL Θ Q9 k n pc LS (.ref (tR Θ r 25) :: rest) G := v_get (ci := 7) (j := 0) (N := 2) (T := TX8) hC d hq hid rfl rfl inl8 (by decide) rfl hlk kk
theorem p_X8_0 (hC : cC p l s m args meth c cc nL own Θ) {r idx : Nat} {x : Int32} (d : decode cc pc = .ok (.putfield idx, 3)) (hq : pc + 3 = q) (hid : okI G.2.2.1 r 25 = true) (hlk : Cond.fieldLink own idx "PermissionDesk$Pad" "length" "I" ∈ wALL) (kk : VG p l e R s m args below meth c nL Θ Q9 k n q LS rest (putF G r 25 0 x)) : VG p l e R s m args below meth c nL Θ Q9 k n pc LS (.int x :: .ref (tR Θ r 25) :: rest) G := v_put (ci := 7) (j := 0) (N := 2) (T := TX8) (ty0 := tyX8) hC d hq hid rfl rfl inl8 tyX8_ok nmX8 (by decide) (by decide +kernel) rfl (Nat.lt_of_lt_of_le (Nat.lt_succ_self 0) (Nat.le_of_ble_eq_true rfl)) hlk rfl kk
theorem g_X8_1 (hC : cC p l s m args meth c cc nL own Θ) {r idx : Nat} (d : decode cc pc = .ok (.getfield idx, 3)) (hq : pc + 3 = q) (hid : okI G.2.2.1 r 25 = true) (hlk : Cond.fieldLink own idx "PermissionDesk$Pad" "signs" "[I" ∈ wALL) (kk : VG p l e R s m args below meth c nL Θ Q9 k n q LS (.ref (tR Θ 0 26) :: rest) G) : VG p l e R s m args below meth c nL Θ Q9 k n pc LS (.ref (tR Θ r 25) :: rest) G := v_get (ci := 7) (j := 1) (N := 2) (T := TX8) hC d hq hid rfl rfl inl8 (by decide) rfl hlk kk
theorem g_X5_0 (hC : cC p l s m args meth c cc nL own Θ) {r idx : Nat} (d : decode cc pc = .ok (.getfield idx, 3)) (hq : pc + 3 = q) (hid : okI G.2.2.1 r 27 = true) (hlk : Cond.fieldLink own idx "PermissionDesk$ListText" "at" "I" ∈ wALL) (kk : VG p l e R s m args below meth c nL Θ Q9 k n q LS (.int (G.1 r 27 0) :: rest) G) : VG p l e R s m args below meth c nL Θ Q9 k n pc LS (.ref (tR Θ r 27) :: rest) G := v_get (ci := 4) (j := 0) (N := 4) (T := TX5) hC d hq hid rfl rfl inl5 (by decide) rfl hlk kk
theorem p_X5_0 (hC : cC p l s m args meth c cc nL own Θ) {r idx : Nat} {x : Int32} (d : decode cc pc = .ok (.putfield idx, 3)) (hq : pc + 3 = q) (hid : okI G.2.2.1 r 27 = true) (hlk : Cond.fieldLink own idx "PermissionDesk$ListText" "at" "I" ∈ wALL) (kk : VG p l e R s m args below meth c nL Θ Q9 k n q LS rest (putF G r 27 0 x)) : VG p l e R s m args below meth c nL Θ Q9 k n pc LS (.int x :: .ref (tR Θ r 27) :: rest) G := v_put (ci := 4) (j := 0) (N := 4) (T := TX5) (ty0 := tyX5) hC d hq hid rfl rfl inl5 tyX5_ok nmX5 (by decide) (by decide +kernel) rfl (Nat.lt_of_lt_of_le (Nat.lt_succ_self 0) (Nat.le_of_ble_eq_true rfl)) hlk rfl kk
theorem g_X5_1 (hC : cC p l s m args meth c cc nL own Θ) {r idx : Nat} (d : decode cc pc = .ok (.getfield idx, 3)) (hq : pc + 3 = q) (hid : okI G.2.2.1 r 27 = true) (hlk : Cond.fieldLink own idx "PermissionDesk$ListText" "object" "I" ∈ wALL) (kk : VG p l e R s m args below meth c nL Θ Q9 k n q LS (.int (G.1 r 27 1) :: rest) G) : VG p l e R s m args below meth c nL Θ Q9 k n pc LS (.ref (tR Θ r 27) :: rest) G := v_get (ci := 4) (j := 1) (N := 4) (T := TX5) hC d hq hid rfl rfl inl5 (by decide) rfl hlk kk
theorem p_X5_1 (hC : cC p l s m args meth c cc nL own Θ) {r idx : Nat} {x : Int32} (d : decode cc pc = .ok (.putfield idx, 3)) (hq : pc + 3 = q) (hid : okI G.2.2.1 r 27 = true) (hlk : Cond.fieldLink own idx "PermissionDesk$ListText" "object" "I" ∈ wALL) (kk : VG p l e R s m args below meth c nL Θ Q9 k n q LS rest (putF G r 27 1 x)) : VG p l e R s m args below meth c nL Θ Q9 k n pc LS (.int x :: .ref (tR Θ r 27) :: rest) G := v_put (ci := 4) (j := 1) (N := 4) (T := TX5) (ty0 := tyX5) hC d hq hid rfl rfl inl5 tyX5_ok nmX5 (by decide) (by decide +kernel) rfl (Nat.lt_of_lt_of_le (Nat.lt_succ_self 1) (Nat.le_of_ble_eq_true rfl)) hlk rfl kk
theorem g_X5_2 (hC : cC p l s m args meth c cc nL own Θ) {r idx : Nat} (d : decode cc pc = .ok (.getfield idx, 3)) (hq : pc + 3 = q) (hid : okI G.2.2.1 r 27 = true) (hlk : Cond.fieldLink own idx "PermissionDesk$ListText" "count" "I" ∈ wALL) (kk : VG p l e R s m args below meth c nL Θ Q9 k n q LS (.int (G.1 r 27 2) :: rest) G) : VG p l e R s m args below meth c nL Θ Q9 k n pc LS (.ref (tR Θ r 27) :: rest) G := v_get (ci := 4) (j := 2) (N := 4) (T := TX5) hC d hq hid rfl rfl inl5 (by decide) rfl hlk kk
theorem p_X5_2 (hC : cC p l s m args meth c cc nL own Θ) {r idx : Nat} {x : Int32} (d : decode cc pc = .ok (.putfield idx, 3)) (hq : pc + 3 = q) (hid : okI G.2.2.1 r 27 = true) (hlk : Cond.fieldLink own idx "PermissionDesk$ListText" "count" "I" ∈ wALL) (kk : VG p l e R s m args below meth c nL Θ Q9 k n q LS rest (putF G r 27 2 x)) : VG p l e R s m args below meth c nL Θ Q9 k n pc LS (.int x :: .ref (tR Θ r 27) :: rest) G := v_put (ci := 4) (j := 2) (N := 4) (T := TX5) (ty0 := tyX5) hC d hq hid rfl rfl inl5 tyX5_ok nmX5 (by decide) (by decide +kernel) rfl (Nat.lt_of_lt_of_le (Nat.lt_succ_self 2) (Nat.le_of_ble_eq_true rfl)) hlk rfl kk
theorem g_X5_3 (hC : cC p l s m args meth c cc nL own Θ) {r idx : Nat} (d : decode cc pc = .ok (.getfield idx, 3)) (hq : pc + 3 = q) (hid : okI G.2.2.1 r 27 = true) (hlk : Cond.fieldLink own idx "PermissionDesk$ListText" "entries" "[I" ∈ wALL) (kk : VG p l e R s m args below meth c nL Θ Q9 k n q LS (.ref (tR Θ 0 28) :: rest) G) : VG p l e R s m args below meth c nL Θ Q9 k n pc LS (.ref (tR Θ r 27) :: rest) G := v_get (ci := 4) (j := 3) (N := 4) (T := TX5) hC d hq hid rfl rfl inl5 (by decide) rfl hlk kk
theorem g_X12_0 (hC : cC p l s m args meth c cc nL own Θ) {r idx : Nat} (d : decode cc pc = .ok (.getfield idx, 3)) (hq : pc + 3 = q) (hid : okI G.2.2.1 r 29 = true) (hlk : Cond.fieldLink own idx "PermissionDeskModel" "s" "[I" ∈ wALL) (kk : VG p l e R s m args below meth c nL Θ Q9 k n q LS (.ref (tR Θ 0 30) :: rest) G) : VG p l e R s m args below meth c nL Θ Q9 k n pc LS (.ref (tR Θ r 29) :: rest) G := v_get (ci := 11) (j := 0) (N := 15) (T := TX12) hC d hq hid rfl rfl inl12 (by decide) rfl hlk kk
theorem g_X12_1 (hC : cC p l s m args meth c cc nL own Θ) {r idx : Nat} (d : decode cc pc = .ok (.getfield idx, 3)) (hq : pc + 3 = q) (hid : okI G.2.2.1 r 29 = true) (hlk : Cond.fieldLink own idx "PermissionDeskModel" "past" "[I" ∈ wALL) (kk : VG p l e R s m args below meth c nL Θ Q9 k n q LS (.ref (tR Θ 0 31) :: rest) G) : VG p l e R s m args below meth c nL Θ Q9 k n pc LS (.ref (tR Θ r 29) :: rest) G := v_get (ci := 11) (j := 1) (N := 15) (T := TX12) hC d hq hid rfl rfl inl12 (by decide) rfl hlk kk
theorem g_X12_2 (hC : cC p l s m args meth c cc nL own Θ) {r idx : Nat} (d : decode cc pc = .ok (.getfield idx, 3)) (hq : pc + 3 = q) (hid : okI G.2.2.1 r 29 = true) (hlk : Cond.fieldLink own idx "PermissionDeskModel" "slots" "[I" ∈ wALL) (kk : VG p l e R s m args below meth c nL Θ Q9 k n q LS (.ref (tR Θ 0 32) :: rest) G) : VG p l e R s m args below meth c nL Θ Q9 k n pc LS (.ref (tR Θ r 29) :: rest) G := v_get (ci := 11) (j := 2) (N := 15) (T := TX12) hC d hq hid rfl rfl inl12 (by decide) rfl hlk kk
theorem g_X12_3 (hC : cC p l s m args meth c cc nL own Θ) {r idx : Nat} (d : decode cc pc = .ok (.getfield idx, 3)) (hq : pc + 3 = q) (hid : okI G.2.2.1 r 29 = true) (hlk : Cond.fieldLink own idx "PermissionDeskModel" "filled" "[Z" ∈ wALL) (kk : VG p l e R s m args below meth c nL Θ Q9 k n q LS (.ref (tR Θ 0 33) :: rest) G) : VG p l e R s m args below meth c nL Θ Q9 k n pc LS (.ref (tR Θ r 29) :: rest) G := v_get (ci := 11) (j := 3) (N := 15) (T := TX12) hC d hq hid rfl rfl inl12 (by decide) rfl hlk kk
theorem g_X12_4 (hC : cC p l s m args meth c cc nL own Θ) {r idx : Nat} (d : decode cc pc = .ok (.getfield idx, 3)) (hq : pc + 3 = q) (hid : okI G.2.2.1 r 29 = true) (hlk : Cond.fieldLink own idx "PermissionDeskModel" "pasts" "I" ∈ wALL) (kk : VG p l e R s m args below meth c nL Θ Q9 k n q LS (.int (G.1 r 29 4) :: rest) G) : VG p l e R s m args below meth c nL Θ Q9 k n pc LS (.ref (tR Θ r 29) :: rest) G := v_get (ci := 11) (j := 4) (N := 15) (T := TX12) hC d hq hid rfl rfl inl12 (by decide) rfl hlk kk
theorem p_X12_4 (hC : cC p l s m args meth c cc nL own Θ) {r idx : Nat} {x : Int32} (d : decode cc pc = .ok (.putfield idx, 3)) (hq : pc + 3 = q) (hid : okI G.2.2.1 r 29 = true) (hlk : Cond.fieldLink own idx "PermissionDeskModel" "pasts" "I" ∈ wALL) (kk : VG p l e R s m args below meth c nL Θ Q9 k n q LS rest (putF G r 29 4 x)) : VG p l e R s m args below meth c nL Θ Q9 k n pc LS (.int x :: .ref (tR Θ r 29) :: rest) G := v_put (ci := 11) (j := 4) (N := 15) (T := TX12) (ty0 := tyX12) hC d hq hid rfl rfl inl12 tyX12_ok nmX12 (by decide) (by decide +kernel) rfl (Nat.lt_of_lt_of_le (Nat.lt_succ_self 4) (Nat.le_of_ble_eq_true rfl)) hlk rfl kk
theorem g_X12_5 (hC : cC p l s m args meth c cc nL own Θ) {r idx : Nat} (d : decode cc pc = .ok (.getfield idx, 3)) (hq : pc + 3 = q) (hid : okI G.2.2.1 r 29 = true) (hlk : Cond.fieldLink own idx "PermissionDeskModel" "last" "I" ∈ wALL) (kk : VG p l e R s m args below meth c nL Θ Q9 k n q LS (.int (G.1 r 29 5) :: rest) G) : VG p l e R s m args below meth c nL Θ Q9 k n pc LS (.ref (tR Θ r 29) :: rest) G := v_get (ci := 11) (j := 5) (N := 15) (T := TX12) hC d hq hid rfl rfl inl12 (by decide) rfl hlk kk
theorem p_X12_5 (hC : cC p l s m args meth c cc nL own Θ) {r idx : Nat} {x : Int32} (d : decode cc pc = .ok (.putfield idx, 3)) (hq : pc + 3 = q) (hid : okI G.2.2.1 r 29 = true) (hlk : Cond.fieldLink own idx "PermissionDeskModel" "last" "I" ∈ wALL) (kk : VG p l e R s m args below meth c nL Θ Q9 k n q LS rest (putF G r 29 5 x)) : VG p l e R s m args below meth c nL Θ Q9 k n pc LS (.int x :: .ref (tR Θ r 29) :: rest) G := v_put (ci := 11) (j := 5) (N := 15) (T := TX12) (ty0 := tyX12) hC d hq hid rfl rfl inl12 tyX12_ok nmX12 (by decide) (by decide +kernel) rfl (Nat.lt_of_lt_of_le (Nat.lt_succ_self 5) (Nat.le_of_ble_eq_true rfl)) hlk rfl kk
theorem g_X12_6 (hC : cC p l s m args meth c cc nL own Θ) {r idx : Nat} (d : decode cc pc = .ok (.getfield idx, 3)) (hq : pc + 3 = q) (hid : okI G.2.2.1 r 29 = true) (hlk : Cond.fieldLink own idx "PermissionDeskModel" "pad" "[I" ∈ wALL) (kk : VG p l e R s m args below meth c nL Θ Q9 k n q LS (.ref (tR Θ 0 34) :: rest) G) : VG p l e R s m args below meth c nL Θ Q9 k n pc LS (.ref (tR Θ r 29) :: rest) G := v_get (ci := 11) (j := 6) (N := 15) (T := TX12) hC d hq hid rfl rfl inl12 (by decide) rfl hlk kk
theorem g_X12_7 (hC : cC p l s m args meth c cc nL own Θ) {r idx : Nat} (d : decode cc pc = .ok (.getfield idx, 3)) (hq : pc + 3 = q) (hid : okI G.2.2.1 r 29 = true) (hlk : Cond.fieldLink own idx "PermissionDeskModel" "typed" "I" ∈ wALL) (kk : VG p l e R s m args below meth c nL Θ Q9 k n q LS (.int (G.1 r 29 7) :: rest) G) : VG p l e R s m args below meth c nL Θ Q9 k n pc LS (.ref (tR Θ r 29) :: rest) G := v_get (ci := 11) (j := 7) (N := 15) (T := TX12) hC d hq hid rfl rfl inl12 (by decide) rfl hlk kk
theorem p_X12_7 (hC : cC p l s m args meth c cc nL own Θ) {r idx : Nat} {x : Int32} (d : decode cc pc = .ok (.putfield idx, 3)) (hq : pc + 3 = q) (hid : okI G.2.2.1 r 29 = true) (hlk : Cond.fieldLink own idx "PermissionDeskModel" "typed" "I" ∈ wALL) (kk : VG p l e R s m args below meth c nL Θ Q9 k n q LS rest (putF G r 29 7 x)) : VG p l e R s m args below meth c nL Θ Q9 k n pc LS (.int x :: .ref (tR Θ r 29) :: rest) G := v_put (ci := 11) (j := 7) (N := 15) (T := TX12) (ty0 := tyX12) hC d hq hid rfl rfl inl12 tyX12_ok nmX12 (by decide) (by decide +kernel) rfl (Nat.lt_of_lt_of_le (Nat.lt_succ_self 7) (Nat.le_of_ble_eq_true rfl)) hlk rfl kk
theorem g_X12_8 (hC : cC p l s m args meth c cc nL own Θ) {r idx : Nat} (d : decode cc pc = .ok (.getfield idx, 3)) (hq : pc + 3 = q) (hid : okI G.2.2.1 r 29 = true) (hlk : Cond.fieldLink own idx "PermissionDeskModel" "was" "[I" ∈ wALL) (kk : VG p l e R s m args below meth c nL Θ Q9 k n q LS (.ref (tR Θ 0 35) :: rest) G) : VG p l e R s m args below meth c nL Θ Q9 k n pc LS (.ref (tR Θ r 29) :: rest) G := v_get (ci := 11) (j := 8) (N := 15) (T := TX12) hC d hq hid rfl rfl inl12 (by decide) rfl hlk kk
theorem g_X12_9 (hC : cC p l s m args meth c cc nL own Θ) {r idx : Nat} (d : decode cc pc = .ok (.getfield idx, 3)) (hq : pc + 3 = q) (hid : okI G.2.2.1 r 29 = true) (hlk : Cond.fieldLink own idx "PermissionDeskModel" "one" "[I" ∈ wALL) (kk : VG p l e R s m args below meth c nL Θ Q9 k n q LS (.ref (tR Θ 0 36) :: rest) G) : VG p l e R s m args below meth c nL Θ Q9 k n pc LS (.ref (tR Θ r 29) :: rest) G := v_get (ci := 11) (j := 9) (N := 15) (T := TX12) hC d hq hid rfl rfl inl12 (by decide) rfl hlk kk
theorem g_X12_10 (hC : cC p l s m args meth c cc nL own Θ) {r idx : Nat} (d : decode cc pc = .ok (.getfield idx, 3)) (hq : pc + 3 = q) (hid : okI G.2.2.1 r 29 = true) (hlk : Cond.fieldLink own idx "PermissionDeskModel" "spot" "I" ∈ wALL) (kk : VG p l e R s m args below meth c nL Θ Q9 k n q LS (.int (G.1 r 29 10) :: rest) G) : VG p l e R s m args below meth c nL Θ Q9 k n pc LS (.ref (tR Θ r 29) :: rest) G := v_get (ci := 11) (j := 10) (N := 15) (T := TX12) hC d hq hid rfl rfl inl12 (by decide) rfl hlk kk
theorem p_X12_10 (hC : cC p l s m args meth c cc nL own Θ) {r idx : Nat} {x : Int32} (d : decode cc pc = .ok (.putfield idx, 3)) (hq : pc + 3 = q) (hid : okI G.2.2.1 r 29 = true) (hlk : Cond.fieldLink own idx "PermissionDeskModel" "spot" "I" ∈ wALL) (kk : VG p l e R s m args below meth c nL Θ Q9 k n q LS rest (putF G r 29 10 x)) : VG p l e R s m args below meth c nL Θ Q9 k n pc LS (.int x :: .ref (tR Θ r 29) :: rest) G := v_put (ci := 11) (j := 10) (N := 15) (T := TX12) (ty0 := tyX12) hC d hq hid rfl rfl inl12 tyX12_ok nmX12 (by decide) (by decide +kernel) rfl (Nat.lt_of_lt_of_le (Nat.lt_succ_self 10) (Nat.le_of_ble_eq_true rfl)) hlk rfl kk
theorem g_X12_11 (hC : cC p l s m args meth c cc nL own Θ) {r idx : Nat} (d : decode cc pc = .ok (.getfield idx, 3)) (hq : pc + 3 = q) (hid : okI G.2.2.1 r 29 = true) (hlk : Cond.fieldLink own idx "PermissionDeskModel" "told" "I" ∈ wALL) (kk : VG p l e R s m args below meth c nL Θ Q9 k n q LS (.int (G.1 r 29 11) :: rest) G) : VG p l e R s m args below meth c nL Θ Q9 k n pc LS (.ref (tR Θ r 29) :: rest) G := v_get (ci := 11) (j := 11) (N := 15) (T := TX12) hC d hq hid rfl rfl inl12 (by decide) rfl hlk kk
theorem p_X12_11 (hC : cC p l s m args meth c cc nL own Θ) {r idx : Nat} {x : Int32} (d : decode cc pc = .ok (.putfield idx, 3)) (hq : pc + 3 = q) (hid : okI G.2.2.1 r 29 = true) (hlk : Cond.fieldLink own idx "PermissionDeskModel" "told" "I" ∈ wALL) (kk : VG p l e R s m args below meth c nL Θ Q9 k n q LS rest (putF G r 29 11 x)) : VG p l e R s m args below meth c nL Θ Q9 k n pc LS (.int x :: .ref (tR Θ r 29) :: rest) G := v_put (ci := 11) (j := 11) (N := 15) (T := TX12) (ty0 := tyX12) hC d hq hid rfl rfl inl12 tyX12_ok nmX12 (by decide) (by decide +kernel) rfl (Nat.lt_of_lt_of_le (Nat.lt_succ_self 11) (Nat.le_of_ble_eq_true rfl)) hlk rfl kk
theorem g_X12_12 (hC : cC p l s m args meth c cc nL own Θ) {r idx : Nat} (d : decode cc pc = .ok (.getfield idx, 3)) (hq : pc + 3 = q) (hid : okI G.2.2.1 r 29 = true) (hlk : Cond.fieldLink own idx "PermissionDeskModel" "parts" "I" ∈ wALL) (kk : VG p l e R s m args below meth c nL Θ Q9 k n q LS (.int (G.1 r 29 12) :: rest) G) : VG p l e R s m args below meth c nL Θ Q9 k n pc LS (.ref (tR Θ r 29) :: rest) G := v_get (ci := 11) (j := 12) (N := 15) (T := TX12) hC d hq hid rfl rfl inl12 (by decide) rfl hlk kk
theorem p_X12_12 (hC : cC p l s m args meth c cc nL own Θ) {r idx : Nat} {x : Int32} (d : decode cc pc = .ok (.putfield idx, 3)) (hq : pc + 3 = q) (hid : okI G.2.2.1 r 29 = true) (hlk : Cond.fieldLink own idx "PermissionDeskModel" "parts" "I" ∈ wALL) (kk : VG p l e R s m args below meth c nL Θ Q9 k n q LS rest (putF G r 29 12 x)) : VG p l e R s m args below meth c nL Θ Q9 k n pc LS (.int x :: .ref (tR Θ r 29) :: rest) G := v_put (ci := 11) (j := 12) (N := 15) (T := TX12) (ty0 := tyX12) hC d hq hid rfl rfl inl12 tyX12_ok nmX12 (by decide) (by decide +kernel) rfl (Nat.lt_of_lt_of_le (Nat.lt_succ_self 12) (Nat.le_of_ble_eq_true rfl)) hlk rfl kk
theorem g_X12_13 (hC : cC p l s m args meth c cc nL own Θ) {r idx : Nat} (d : decode cc pc = .ok (.getfield idx, 3)) (hq : pc + 3 = q) (hid : okI G.2.2.1 r 29 = true) (hlk : Cond.fieldLink own idx "PermissionDeskModel" "value" "I" ∈ wALL) (kk : VG p l e R s m args below meth c nL Θ Q9 k n q LS (.int (G.1 r 29 13) :: rest) G) : VG p l e R s m args below meth c nL Θ Q9 k n pc LS (.ref (tR Θ r 29) :: rest) G := v_get (ci := 11) (j := 13) (N := 15) (T := TX12) hC d hq hid rfl rfl inl12 (by decide) rfl hlk kk
theorem p_X12_13 (hC : cC p l s m args meth c cc nL own Θ) {r idx : Nat} {x : Int32} (d : decode cc pc = .ok (.putfield idx, 3)) (hq : pc + 3 = q) (hid : okI G.2.2.1 r 29 = true) (hlk : Cond.fieldLink own idx "PermissionDeskModel" "value" "I" ∈ wALL) (kk : VG p l e R s m args below meth c nL Θ Q9 k n q LS rest (putF G r 29 13 x)) : VG p l e R s m args below meth c nL Θ Q9 k n pc LS (.int x :: .ref (tR Θ r 29) :: rest) G := v_put (ci := 11) (j := 13) (N := 15) (T := TX12) (ty0 := tyX12) hC d hq hid rfl rfl inl12 tyX12_ok nmX12 (by decide) (by decide +kernel) rfl (Nat.lt_of_lt_of_le (Nat.lt_succ_self 13) (Nat.le_of_ble_eq_true rfl)) hlk rfl kk
theorem g_X12_14 (hC : cC p l s m args meth c cc nL own Θ) {r idx : Nat} (d : decode cc pc = .ok (.getfield idx, 3)) (hq : pc + 3 = q) (hid : okI G.2.2.1 r 29 = true) (hlk : Cond.fieldLink own idx "PermissionDeskModel" "part" "[I" ∈ wALL) (kk : VG p l e R s m args below meth c nL Θ Q9 k n q LS (.ref (tR Θ 0 37) :: rest) G) : VG p l e R s m args below meth c nL Θ Q9 k n pc LS (.ref (tR Θ r 29) :: rest) G := v_get (ci := 11) (j := 14) (N := 15) (T := TX12) hC d hq hid rfl rfl inl12 (by decide) rfl hlk kk
end FLD
abbrev rm_X11_init : Room := { frames := 4, locals := 81, cells := 0, slots := 0 }
theorem k_X11_init : kY yX11_init cX11_init 1 none 0 := ⟨cd_yX11_init, ⟨by decide, by decide⟩, by decide +kernel, in_RX11⟩
abbrev rm_X9_init : Room := { frames := 2, locals := 40, cells := 0, slots := 0 }
theorem k_X9_init : kY yX9_init cX9_init 1 none 0 := ⟨cd_yX9_init, ⟨by decide, by decide⟩, by decide +kernel, in_RX9⟩
abbrev rm_X0_init : Room := { frames := 1, locals := 20, cells := 0, slots := 0 }
theorem k_X0_init : kY yX0_init cX0_init 1 none 0 := ⟨cd_yX0_init, ⟨by decide, by decide⟩, by decide +kernel, in_RX0⟩
abbrev rm_X10_init : Room := { frames := 1, locals := 20, cells := 0, slots := 0 }
theorem k_X10_init : kY yX10_init cX10_init 1 none 0 := ⟨cd_yX10_init, ⟨by decide, by decide⟩, by decide +kernel, in_RX10⟩
abbrev rm_X6_init : Room := { frames := 1, locals := 20, cells := 0, slots := 0 }
theorem k_X6_init : kY yX6_init cX6_init 1 none 0 := ⟨cd_yX6_init, ⟨by decide, by decide⟩, by decide +kernel, in_RX6⟩
abbrev rm_X7_init : Room := { frames := 1, locals := 20, cells := 0, slots := 0 }
theorem k_X7_init : kY yX7_init cX7_init 1 none 0 := ⟨cd_yX7_init, ⟨by decide, by decide⟩, by decide +kernel, in_RX7⟩
abbrev rm_X3_init : Room := { frames := 3, locals := 60, cells := 0, slots := 0 }
theorem k_X3_init : kY yX3_init cX3_init 2 none 0 := ⟨cd_yX3_init, ⟨by decide, by decide⟩, by decide +kernel, in_RX3⟩
abbrev rm_X4_init : Room := { frames := 1, locals := 20, cells := 0, slots := 0 }
theorem k_X4_init : kY yX4_init cX4_init 1 none 0 := ⟨cd_yX4_init, ⟨by decide, by decide⟩, by decide +kernel, in_RX4⟩
abbrev rm_X2_init : Room := { frames := 1, locals := 20, cells := 0, slots := 0 }
theorem k_X2_init : kY yX2_init cX2_init 1 none 0 := ⟨cd_yX2_init, ⟨by decide, by decide⟩, by decide +kernel, in_RX2⟩
abbrev rm_X8_init : Room := { frames := 1, locals := 20, cells := 0, slots := 0 }
theorem k_X8_init : kY yX8_init cX8_init 1 none 0 := ⟨cd_yX8_init, ⟨by decide, by decide⟩, by decide +kernel, in_RX8⟩
abbrev rm_X5_init : Room := { frames := 1, locals := 20, cells := 0, slots := 0 }
theorem k_X5_init : kY yX5_init cX5_init 1 none 0 := ⟨cd_yX5_init, ⟨by decide, by decide⟩, by decide +kernel, in_RX5⟩
abbrev rm_X12_init : Room := { frames := 2, locals := 45, cells := 0, slots := 0 }
theorem k_X12_init : kY yX12_init cX12_init 1 none 0 := ⟨cd_yX12_init, ⟨by decide, by decide⟩, by decide +kernel, in_RX12⟩
abbrev rm_X12_founds : Room := { frames := 1, locals := 21, cells := 0, slots := 0 }
theorem k_X12_founds : kY yX12_founds cX12_founds 5 none 3 := ⟨cd_yX12_founds, ⟨by decide, by decide⟩, by decide +kernel, in_RX12⟩
abbrev rm_X12_at : Room := { frames := 0, locals := 0, cells := 0, slots := 0 }
theorem k_X12_at : kY yX12_at cX12_at 2 (some .int) 2 := ⟨cd_yX12_at, ⟨by decide, by decide⟩, by decide +kernel, in_RX12⟩
abbrev rm_X11_addUser : Room := { frames := 6, locals := 112, cells := 1, slots := 6 }
theorem k_X11_addUser : kY yX11_addUser cX11_addUser 1 (some .int) 0 := ⟨cd_yX11_addUser, ⟨by decide, by decide⟩, by decide +kernel, in_RX11⟩
abbrev rm_X3_keep : Room := { frames := 3, locals := 90, cells := 0, slots := 0 }
theorem k_X3_keep : kY yX3_keep cX3_keep 3 none 1 := ⟨cd_yX3_keep, ⟨by decide, by decide⟩, by decide +kernel, in_RX3⟩
abbrev rm_J9_floorMod_7cf53 : Room := { frames := 0, locals := 0, cells := 0, slots := 0 }
theorem k_J9_floorMod_7cf53 : kY yJ9_floorMod_7cf53 cJ9_floorMod_7cf53 3 (some .int) 2 := ⟨cd_yJ9_floorMod_7cf53, ⟨by decide, by decide⟩, by decide +kernel, in_RJ9⟩
abbrev rm_X9_copyFrom : Room := { frames := 2, locals := 69, cells := 0, slots := 0 }
theorem k_X9_copyFrom : kY yX9_copyFrom cX9_copyFrom 2 none 1 := ⟨cd_yX9_copyFrom, ⟨by decide, by decide⟩, by decide +kernel, in_RX9⟩
abbrev rm_X0_copyFrom : Room := { frames := 1, locals := 48, cells := 0, slots := 0 }
theorem k_X0_copyFrom : kY yX0_copyFrom cX0_copyFrom 2 none 1 := ⟨cd_yX0_copyFrom, ⟨by decide, by decide⟩, by decide +kernel, in_RX0⟩
abbrev rm_X10_copyFrom : Room := { frames := 1, locals := 48, cells := 0, slots := 0 }
theorem k_X10_copyFrom : kY yX10_copyFrom cX10_copyFrom 2 none 1 := ⟨cd_yX10_copyFrom, ⟨by decide, by decide⟩, by decide +kernel, in_RX10⟩
abbrev rm_X6_copyFrom : Room := { frames := 1, locals := 48, cells := 0, slots := 0 }
theorem k_X6_copyFrom : kY yX6_copyFrom cX6_copyFrom 2 none 1 := ⟨cd_yX6_copyFrom, ⟨by decide, by decide⟩, by decide +kernel, in_RX6⟩
abbrev rm_X7_copyFrom : Room := { frames := 1, locals := 48, cells := 0, slots := 0 }
theorem k_X7_copyFrom : kY yX7_copyFrom cX7_copyFrom 2 none 1 := ⟨cd_yX7_copyFrom, ⟨by decide, by decide⟩, by decide +kernel, in_RX7⟩
abbrev rm_X0_takeUser : Room := { frames := 0, locals := 0, cells := 0, slots := 0 }
theorem k_X0_takeUser : kY yX0_takeUser cX0_takeUser 2 (some .int) 0 := ⟨cd_yX0_takeUser, ⟨by decide, by decide⟩, by decide +kernel, in_RX0⟩
abbrev rm_X12_addUser : Room := { frames := 1, locals := 21, cells := 0, slots := 0 }
theorem k_X12_addUser : kY yX12_addUser cX12_addUser 1 (some .int) 0 := ⟨cd_yX12_addUser, ⟨by decide, by decide⟩, by decide +kernel, in_RX12⟩
abbrev rm_X12_fails : Room := { frames := 0, locals := 0, cells := 0, slots := 0 }
theorem k_X12_fails : kY yX12_fails cX12_fails 2 (some .int) 1 := ⟨cd_yX12_fails, ⟨by decide, by decide⟩, by decide +kernel, in_RX12⟩
abbrev rm_X12_changes : Room := { frames := 0, locals := 0, cells := 0, slots := 0 }
theorem k_X12_changes : kY yX12_changes cX12_changes 2 none 0 := ⟨cd_yX12_changes, ⟨by decide, by decide⟩, by decide +kernel, in_RX12⟩
abbrev rm_X12_thrown : Room := { frames := 0, locals := 0, cells := 0, slots := 0 }
theorem k_X12_thrown : kY yX12_thrown cX12_thrown 1 (some .int) 0 := ⟨cd_yX12_thrown, ⟨by decide, by decide⟩, by decide +kernel, in_RX12⟩
abbrev rm_X11_addGroup : Room := { frames := 6, locals := 112, cells := 1, slots := 6 }
theorem k_X11_addGroup : kY yX11_addGroup cX11_addGroup 1 (some .int) 0 := ⟨cd_yX11_addGroup, ⟨by decide, by decide⟩, by decide +kernel, in_RX11⟩
abbrev rm_X0_takeGroup : Room := { frames := 0, locals := 0, cells := 0, slots := 0 }
theorem k_X0_takeGroup : kY yX0_takeGroup cX0_takeGroup 2 (some .int) 0 := ⟨cd_yX0_takeGroup, ⟨by decide, by decide⟩, by decide +kernel, in_RX0⟩
abbrev rm_X12_addGroup : Room := { frames := 1, locals := 21, cells := 0, slots := 0 }
theorem k_X12_addGroup : kY yX12_addGroup cX12_addGroup 1 (some .int) 0 := ⟨cd_yX12_addGroup, ⟨by decide, by decide⟩, by decide +kernel, in_RX12⟩
abbrev rm_X11_join : Room := { frames := 7, locals := 112, cells := 3, slots := 18 }
theorem k_X11_join : kY yX11_join cX11_join 3 (some .int) 2 := ⟨cd_yX11_join, ⟨by decide, by decide⟩, by decide +kernel, in_RX11⟩
abbrev rm_X11_requireUser : Room := { frames := 6, locals := 90, cells := 1, slots := 6 }
theorem k_X11_requireUser : kY yX11_requireUser cX11_requireUser 2 none 1 := ⟨cd_yX11_requireUser, ⟨by decide, by decide⟩, by decide +kernel, in_RX11⟩
abbrev rm_X0_hasUser : Room := { frames := 1, locals := 21, cells := 0, slots := 0 }
theorem k_X0_hasUser : kY yX0_hasUser cX0_hasUser 2 (some .boolean) 1 := ⟨cd_yX0_hasUser, ⟨by decide, by decide⟩, by decide +kernel, in_RX0⟩
abbrev rm_X11_isIndex : Room := { frames := 0, locals := 0, cells := 0, slots := 0 }
theorem k_X11_isIndex : kY yX11_isIndex cX11_isIndex 2 (some .boolean) 2 := ⟨cd_yX11_isIndex, ⟨by decide, by decide⟩, by decide +kernel, in_RX11⟩
abbrev rm_X11_requireGroup : Room := { frames := 6, locals := 90, cells := 1, slots := 6 }
theorem k_X11_requireGroup : kY yX11_requireGroup cX11_requireGroup 2 none 1 := ⟨cd_yX11_requireGroup, ⟨by decide, by decide⟩, by decide +kernel, in_RX11⟩
abbrev rm_X0_hasGroup : Room := { frames := 1, locals := 21, cells := 0, slots := 0 }
theorem k_X0_hasGroup : kY yX0_hasGroup cX0_hasGroup 2 (some .boolean) 1 := ⟨cd_yX0_hasGroup, ⟨by decide, by decide⟩, by decide +kernel, in_RX0⟩
abbrev rm_X0_hasMember : Room := { frames := 1, locals := 21, cells := 0, slots := 0 }
theorem k_X0_hasMember : kY yX0_hasMember cX0_hasMember 3 (some .boolean) 2 := ⟨cd_yX0_hasMember, ⟨by decide, by decide⟩, by decide +kernel, in_RX0⟩
abbrev rm_X11_has : Room := { frames := 0, locals := 0, cells := 0, slots := 0 }
theorem k_X11_has : kY yX11_has cX11_has 2 (some .boolean) 2 := ⟨cd_yX11_has, ⟨by decide, by decide⟩, by decide +kernel, in_RX11⟩
abbrev rm_X0_setMember : Room := { frames := 1, locals := 22, cells := 0, slots := 0 }
theorem k_X0_setMember : kY yX0_setMember cX0_setMember 4 none 3 := ⟨cd_yX0_setMember, ⟨by decide, by decide⟩, by decide +kernel, in_RX0⟩
abbrev rm_X11_changed : Room := { frames := 0, locals := 0, cells := 0, slots := 0 }
theorem k_X11_changed : kY yX11_changed cX11_changed 3 (some .int) 3 := ⟨cd_yX11_changed, ⟨by decide, by decide⟩, by decide +kernel, in_RX11⟩
abbrev rm_X0_countUsersIn : Room := { frames := 2, locals := 49, cells := 0, slots := 0 }
theorem k_X0_countUsersIn : kY yX0_countUsersIn cX0_countUsersIn 2 (some .int) 1 := ⟨cd_yX0_countUsersIn, ⟨by decide, by decide⟩, by decide +kernel, in_RX0⟩
abbrev rm_X0_usersIn : Room := { frames := 1, locals := 25, cells := 0, slots := 0 }
theorem k_X0_usersIn : kY yX0_usersIn cX0_usersIn 5 (some .int) 1 := ⟨cd_yX0_usersIn, ⟨by decide, by decide⟩, by decide +kernel, in_RX0⟩
abbrev rm_X0_groupsUnder : Room := { frames := 0, locals := 0, cells := 0, slots := 0 }
theorem k_X0_groupsUnder : kY yX0_groupsUnder cX0_groupsUnder 6 (some .int) 1 := ⟨cd_yX0_groupsUnder, ⟨by decide, by decide⟩, by decide +kernel, in_RX0⟩
abbrev rm_J6_bitCount_0f7a4 : Room := { frames := 0, locals := 0, cells := 0, slots := 0 }
theorem k_J6_bitCount_0f7a4 : kY yJ6_bitCount_0f7a4 cJ6_bitCount_0f7a4 1 (some .int) 1 := ⟨cd_yJ6_bitCount_0f7a4, ⟨by decide, by decide⟩, by decide +kernel, in_RJ6⟩
abbrev rm_X12_join : Room := { frames := 4, locals := 92, cells := 0, slots := 0 }
theorem k_X12_join : kY yX12_join cX12_join 3 (some .int) 2 := ⟨cd_yX12_join, ⟨by decide, by decide⟩, by decide +kernel, in_RX12⟩
abbrev rm_X12_isUser : Room := { frames := 1, locals := 22, cells := 0, slots := 0 }
theorem k_X12_isUser : kY yX12_isUser cX12_isUser 2 (some .boolean) 1 := ⟨cd_yX12_isUser, ⟨by decide, by decide⟩, by decide +kernel, in_RX12⟩
abbrev rm_X12_in : Room := { frames := 0, locals := 0, cells := 0, slots := 0 }
theorem k_X12_in : kY yX12_in cX12_in 3 (some .boolean) 3 := ⟨cd_yX12_in, ⟨by decide, by decide⟩, by decide +kernel, in_RX12⟩
abbrev rm_X12_isGroup : Room := { frames := 1, locals := 22, cells := 0, slots := 0 }
theorem k_X12_isGroup : kY yX12_isGroup cX12_isGroup 2 (some .boolean) 1 := ⟨cd_yX12_isGroup, ⟨by decide, by decide⟩, by decide +kernel, in_RX12⟩
abbrev rm_X12_has : Room := { frames := 0, locals := 0, cells := 0, slots := 0 }
theorem k_X12_has : kY yX12_has cX12_has 2 (some .boolean) 2 := ⟨cd_yX12_has, ⟨by decide, by decide⟩, by decide +kernel, in_RX12⟩
abbrev rm_X12_howMany : Room := { frames := 3, locals := 69, cells := 0, slots := 0 }
theorem k_X12_howMany : kY yX12_howMany cX12_howMany 4 (some .int) 1 := ⟨cd_yX12_howMany, ⟨by decide, by decide⟩, by decide +kernel, in_RX12⟩
abbrev rm_X12_isOf : Room := { frames := 2, locals := 45, cells := 0, slots := 0 }
theorem k_X12_isOf : kY yX12_isOf cX12_isOf 5 (some .boolean) 2 := ⟨cd_yX12_isOf, ⟨by decide, by decide⟩, by decide +kernel, in_RX12⟩
abbrev rm_X12_outers : Room := { frames := 1, locals := 21, cells := 0, slots := 0 }
theorem k_X12_outers : kY yX12_outers cX12_outers 5 (some .int) 1 := ⟨cd_yX12_outers, ⟨by decide, by decide⟩, by decide +kernel, in_RX12⟩
abbrev rm_X11_leave : Room := { frames := 7, locals := 112, cells := 3, slots := 18 }
theorem k_X11_leave : kY yX11_leave cX11_leave 3 (some .int) 2 := ⟨cd_yX11_leave, ⟨by decide, by decide⟩, by decide +kernel, in_RX11⟩
abbrev rm_X12_leave : Room := { frames := 4, locals := 92, cells := 0, slots := 0 }
theorem k_X12_leave : kY yX12_leave cX12_leave 3 (some .int) 2 := ⟨cd_yX12_leave, ⟨by decide, by decide⟩, by decide +kernel, in_RX12⟩
abbrev rm_X11_nest : Room := { frames := 7, locals := 112, cells := 3, slots := 18 }
theorem k_X11_nest : kY yX11_nest cX11_nest 3 (some .int) 2 := ⟨cd_yX11_nest, ⟨by decide, by decide⟩, by decide +kernel, in_RX11⟩
abbrev rm_X0_hasInner : Room := { frames := 1, locals := 21, cells := 0, slots := 0 }
theorem k_X0_hasInner : kY yX0_hasInner cX0_hasInner 3 (some .boolean) 2 := ⟨cd_yX0_hasInner, ⟨by decide, by decide⟩, by decide +kernel, in_RX0⟩
abbrev rm_X0_isWithin : Room := { frames := 2, locals := 46, cells := 0, slots := 0 }
theorem k_X0_isWithin : kY yX0_isWithin cX0_isWithin 3 (some .boolean) 2 := ⟨cd_yX0_isWithin, ⟨by decide, by decide⟩, by decide +kernel, in_RX0⟩
abbrev rm_X0_climbFrom : Room := { frames := 1, locals := 21, cells := 0, slots := 0 }
theorem k_X0_climbFrom : kY yX0_climbFrom cX0_climbFrom 6 (some .int) 1 := ⟨cd_yX0_climbFrom, ⟨by decide, by decide⟩, by decide +kernel, in_RX0⟩
abbrev rm_X0_setInner : Room := { frames := 1, locals := 22, cells := 0, slots := 0 }
theorem k_X0_setInner : kY yX0_setInner cX0_setInner 4 none 3 := ⟨cd_yX0_setInner, ⟨by decide, by decide⟩, by decide +kernel, in_RX0⟩
abbrev rm_X12_nest : Room := { frames := 4, locals := 92, cells := 0, slots := 0 }
theorem k_X12_nest : kY yX12_nest cX12_nest 3 (some .int) 2 := ⟨cd_yX12_nest, ⟨by decide, by decide⟩, by decide +kernel, in_RX12⟩
abbrev rm_X11_unnest : Room := { frames := 7, locals := 112, cells := 3, slots := 18 }
theorem k_X11_unnest : kY yX11_unnest cX11_unnest 3 (some .int) 2 := ⟨cd_yX11_unnest, ⟨by decide, by decide⟩, by decide +kernel, in_RX11⟩
abbrev rm_X12_unnest : Room := { frames := 4, locals := 92, cells := 0, slots := 0 }
theorem k_X12_unnest : kY yX12_unnest cX12_unnest 3 (some .int) 2 := ⟨cd_yX12_unnest, ⟨by decide, by decide⟩, by decide +kernel, in_RX12⟩
abbrev rm_X11_make : Room := { frames := 7, locals := 112, cells := 3, slots := 18 }
theorem k_X11_make : kY yX11_make cX11_make 4 (some .int) 2 := ⟨cd_yX11_make, ⟨by decide, by decide⟩, by decide +kernel, in_RX11⟩
abbrev rm_X11_requireObject : Room := { frames := 6, locals := 90, cells := 1, slots := 6 }
theorem k_X11_requireObject : kY yX11_requireObject cX11_requireObject 2 none 1 := ⟨cd_yX11_requireObject, ⟨by decide, by decide⟩, by decide +kernel, in_RX11⟩
abbrev rm_X10_holds : Room := { frames := 0, locals := 0, cells := 0, slots := 0 }
theorem k_X10_holds : kY yX10_holds cX10_holds 2 (some .boolean) 1 := ⟨cd_yX10_holds, ⟨by decide, by decide⟩, by decide +kernel, in_RX10⟩
abbrev rm_X10_lowestFree : Room := { frames := 1, locals := 21, cells := 0, slots := 0 }
theorem k_X10_lowestFree : kY yX10_lowestFree cX10_lowestFree 2 (some .int) 0 := ⟨cd_yX10_lowestFree, ⟨by decide, by decide⟩, by decide +kernel, in_RX10⟩
abbrev rm_X10_putObject : Room := { frames := 2, locals := 44, cells := 0, slots := 0 }
theorem k_X10_putObject : kY yX10_putObject cX10_putObject 4 none 3 := ⟨cd_yX10_putObject, ⟨by decide, by decide⟩, by decide +kernel, in_RX10⟩
abbrev rm_X10_setParent : Room := { frames := 1, locals := 21, cells := 0, slots := 0 }
theorem k_X10_setParent : kY yX10_setParent cX10_setParent 3 none 2 := ⟨cd_yX10_setParent, ⟨by decide, by decide⟩, by decide +kernel, in_RX10⟩
abbrev rm_X10_setOwner : Room := { frames := 1, locals := 21, cells := 0, slots := 0 }
theorem k_X10_setOwner : kY yX10_setOwner cX10_setOwner 3 none 2 := ⟨cd_yX10_setOwner, ⟨by decide, by decide⟩, by decide +kernel, in_RX10⟩
abbrev rm_X10_limitTo : Room := { frames := 1, locals := 21, cells := 0, slots := 0 }
theorem k_X10_limitTo : kY yX10_limitTo cX10_limitTo 3 none 2 := ⟨cd_yX10_limitTo, ⟨by decide, by decide⟩, by decide +kernel, in_RX10⟩
abbrev rm_X10_letInherit : Room := { frames := 1, locals := 22, cells := 0, slots := 0 }
theorem k_X10_letInherit : kY yX10_letInherit cX10_letInherit 3 none 2 := ⟨cd_yX10_letInherit, ⟨by decide, by decide⟩, by decide +kernel, in_RX10⟩
abbrev rm_X12_make : Room := { frames := 3, locals := 65, cells := 0, slots := 0 }
theorem k_X12_make : kY yX12_make cX12_make 4 (some .int) 2 := ⟨cd_yX12_make, ⟨by decide, by decide⟩, by decide +kernel, in_RX12⟩
abbrev rm_X12_isObject : Room := { frames := 2, locals := 43, cells := 0, slots := 0 }
theorem k_X12_isObject : kY yX12_isObject cX12_isObject 2 (some .boolean) 1 := ⟨cd_yX12_isObject, ⟨by decide, by decide⟩, by decide +kernel, in_RX12⟩
abbrev rm_X12_of : Room := { frames := 1, locals := 21, cells := 0, slots := 0 }
theorem k_X12_of : kY yX12_of cX12_of 3 (some .int) 2 := ⟨cd_yX12_of, ⟨by decide, by decide⟩, by decide +kernel, in_RX12⟩
abbrev rm_X12_howManyObjects : Room := { frames := 2, locals := 43, cells := 0, slots := 0 }
theorem k_X12_howManyObjects : kY yX12_howManyObjects cX12_howManyObjects 3 (some .int) 0 := ⟨cd_yX12_howManyObjects, ⟨by decide, by decide⟩, by decide +kernel, in_RX12⟩
abbrev rm_X11_remove : Room := { frames := 7, locals := 112, cells := 2, slots := 12 }
theorem k_X11_remove : kY yX11_remove cX11_remove 2 (some .int) 1 := ⟨cd_yX11_remove, ⟨by decide, by decide⟩, by decide +kernel, in_RX11⟩
abbrev rm_X10_countUnder : Room := { frames := 3, locals := 66, cells := 0, slots := 0 }
theorem k_X10_countUnder : kY yX10_countUnder cX10_countUnder 4 (some .int) 1 := ⟨cd_yX10_countUnder, ⟨by decide, by decide⟩, by decide +kernel, in_RX10⟩
abbrev rm_X10_isUnder : Room := { frames := 2, locals := 42, cells := 0, slots := 0 }
theorem k_X10_isUnder : kY yX10_isUnder cX10_isUnder 5 (some .boolean) 2 := ⟨cd_yX10_isUnder, ⟨by decide, by decide⟩, by decide +kernel, in_RX10⟩
abbrev rm_X10_parentAt : Room := { frames := 1, locals := 21, cells := 0, slots := 0 }
theorem k_X10_parentAt : kY yX10_parentAt cX10_parentAt 2 (some .int) 1 := ⟨cd_yX10_parentAt, ⟨by decide, by decide⟩, by decide +kernel, in_RX10⟩
abbrev rm_X10_dropObject : Room := { frames := 1, locals := 22, cells := 0, slots := 0 }
theorem k_X10_dropObject : kY yX10_dropObject cX10_dropObject 2 none 1 := ⟨cd_yX10_dropObject, ⟨by decide, by decide⟩, by decide +kernel, in_RX10⟩
abbrev rm_X6_empty : Room := { frames := 1, locals := 21, cells := 0, slots := 0 }
theorem k_X6_empty : kY yX6_empty cX6_empty 2 none 1 := ⟨cd_yX6_empty, ⟨by decide, by decide⟩, by decide +kernel, in_RX6⟩
abbrev rm_X10_count : Room := { frames := 1, locals := 20, cells := 0, slots := 0 }
theorem k_X10_count : kY yX10_count cX10_count 1 (some .int) 0 := ⟨cd_yX10_count, ⟨by decide, by decide⟩, by decide +kernel, in_RX10⟩
abbrev rm_X12_remove : Room := { frames := 4, locals := 89, cells := 0, slots := 0 }
theorem k_X12_remove : kY yX12_remove cX12_remove 3 (some .int) 1 := ⟨cd_yX12_remove, ⟨by decide, by decide⟩, by decide +kernel, in_RX12⟩
abbrev rm_X12_belows : Room := { frames := 3, locals := 66, cells := 0, slots := 0 }
theorem k_X12_belows : kY yX12_belows cX12_belows 4 (some .int) 1 := ⟨cd_yX12_belows, ⟨by decide, by decide⟩, by decide +kernel, in_RX12⟩
abbrev rm_X12_isBelow : Room := { frames := 2, locals := 43, cells := 0, slots := 0 }
theorem k_X12_isBelow : kY yX12_isBelow cX12_isBelow 4 (some .boolean) 2 := ⟨cd_yX12_isBelow, ⟨by decide, by decide⟩, by decide +kernel, in_RX12⟩
abbrev rm_X11_move : Room := { frames := 7, locals := 112, cells := 3, slots := 18 }
theorem k_X11_move : kY yX11_move cX11_move 4 (some .int) 2 := ⟨cd_yX11_move, ⟨by decide, by decide⟩, by decide +kernel, in_RX11⟩
abbrev rm_X12_move : Room := { frames := 3, locals := 66, cells := 0, slots := 0 }
theorem k_X12_move : kY yX12_move cX12_move 4 (some .int) 2 := ⟨cd_yX12_move, ⟨by decide, by decide⟩, by decide +kernel, in_RX12⟩
abbrev rm_X11_giveTo : Room := { frames := 7, locals := 112, cells := 2, slots := 12 }
theorem k_X11_giveTo : kY yX11_giveTo cX11_giveTo 4 (some .int) 2 := ⟨cd_yX11_giveTo, ⟨by decide, by decide⟩, by decide +kernel, in_RX11⟩
abbrev rm_X10_ownerAt : Room := { frames := 1, locals := 21, cells := 0, slots := 0 }
theorem k_X10_ownerAt : kY yX10_ownerAt cX10_ownerAt 2 (some .int) 1 := ⟨cd_yX10_ownerAt, ⟨by decide, by decide⟩, by decide +kernel, in_RX10⟩
abbrev rm_X12_giveTo : Room := { frames := 3, locals := 64, cells := 0, slots := 0 }
theorem k_X12_giveTo : kY yX12_giveTo cX12_giveTo 4 (some .int) 2 := ⟨cd_yX12_giveTo, ⟨by decide, by decide⟩, by decide +kernel, in_RX12⟩
abbrev rm_X11_setMask : Room := { frames := 7, locals := 112, cells := 2, slots := 12 }
theorem k_X11_setMask : kY yX11_setMask cX11_setMask 4 (some .int) 2 := ⟨cd_yX11_setMask, ⟨by decide, by decide⟩, by decide +kernel, in_RX11⟩
abbrev rm_X11_requireRights : Room := { frames := 6, locals := 90, cells := 1, slots := 6 }
theorem k_X11_requireRights : kY yX11_requireRights cX11_requireRights 3 none 2 := ⟨cd_yX11_requireRights, ⟨by decide, by decide⟩, by decide +kernel, in_RX11⟩
abbrev rm_X10_maskAt : Room := { frames := 1, locals := 21, cells := 0, slots := 0 }
theorem k_X10_maskAt : kY yX10_maskAt cX10_maskAt 2 (some .int) 1 := ⟨cd_yX10_maskAt, ⟨by decide, by decide⟩, by decide +kernel, in_RX10⟩
abbrev rm_X12_setMask : Room := { frames := 3, locals := 64, cells := 0, slots := 0 }
theorem k_X12_setMask : kY yX12_setMask cX12_setMask 4 (some .int) 2 := ⟨cd_yX12_setMask, ⟨by decide, by decide⟩, by decide +kernel, in_RX12⟩
abbrev rm_X11_setInheriting : Room := { frames := 7, locals := 112, cells := 1, slots := 6 }
theorem k_X11_setInheriting : kY yX11_setInheriting cX11_setInheriting 4 (some .boolean) 2 := ⟨cd_yX11_setInheriting, ⟨by decide, by decide⟩, by decide +kernel, in_RX11⟩
abbrev rm_X10_inherits : Room := { frames := 1, locals := 21, cells := 0, slots := 0 }
theorem k_X10_inherits : kY yX10_inherits cX10_inherits 2 (some .boolean) 1 := ⟨cd_yX10_inherits, ⟨by decide, by decide⟩, by decide +kernel, in_RX10⟩
abbrev rm_X12_setInheriting : Room := { frames := 3, locals := 64, cells := 0, slots := 0 }
theorem k_X12_setInheriting : kY yX12_setInheriting cX12_setInheriting 4 (some .boolean) 2 := ⟨cd_yX12_setInheriting, ⟨by decide, by decide⟩, by decide +kernel, in_RX12⟩
abbrev rm_X11_addForUser : Room := { frames := 8, locals := 139, cells := 4, slots := 24 }
theorem k_X11_addForUser : kY yX11_addForUser cX11_addForUser 6 (some .int) 5 := ⟨cd_yX11_addForUser, ⟨by decide, by decide⟩, by decide +kernel, in_RX11⟩
abbrev rm_X11_addLast : Room := { frames := 7, locals := 112, cells := 2, slots := 12 }
theorem k_X11_addLast : kY yX11_addLast cX11_addLast 8 (some .int) 6 := ⟨cd_yX11_addLast, ⟨by decide, by decide⟩, by decide +kernel, in_RX11⟩
abbrev rm_X11_requireRoom : Room := { frames := 6, locals := 90, cells := 1, slots := 6 }
theorem k_X11_requireRoom : kY yX11_requireRoom cX11_requireRoom 2 none 1 := ⟨cd_yX11_requireRoom, ⟨by decide, by decide⟩, by decide +kernel, in_RX11⟩
abbrev rm_X6_countAt : Room := { frames := 1, locals := 21, cells := 0, slots := 0 }
theorem k_X6_countAt : kY yX6_countAt cX6_countAt 2 (some .int) 1 := ⟨cd_yX6_countAt, ⟨by decide, by decide⟩, by decide +kernel, in_RX6⟩
abbrev rm_X1_code : Room := { frames := 0, locals := 0, cells := 0, slots := 0 }
theorem k_X1_code : kY yX1_code cX1_code 6 (some .int) 5 := ⟨cd_yX1_code, ⟨by decide, by decide⟩, by decide +kernel, in_RX1⟩
abbrev rm_X6_putIn : Room := { frames := 2, locals := 44, cells := 0, slots := 0 }
theorem k_X6_putIn : kY yX6_putIn cX6_putIn 5 none 3 := ⟨cd_yX6_putIn, ⟨by decide, by decide⟩, by decide +kernel, in_RX6⟩
abbrev rm_X6_entryAt : Room := { frames := 1, locals := 21, cells := 0, slots := 0 }
theorem k_X6_entryAt : kY yX6_entryAt cX6_entryAt 3 (some .int) 2 := ⟨cd_yX6_entryAt, ⟨by decide, by decide⟩, by decide +kernel, in_RX6⟩
abbrev rm_X6_setEntry : Room := { frames := 1, locals := 21, cells := 0, slots := 0 }
theorem k_X6_setEntry : kY yX6_setEntry cX6_setEntry 4 none 3 := ⟨cd_yX6_setEntry, ⟨by decide, by decide⟩, by decide +kernel, in_RX6⟩
abbrev rm_X12_addForUser : Room := { frames := 4, locals := 97, cells := 0, slots := 0 }
theorem k_X12_addForUser : kY yX12_addForUser cX12_addForUser 6 (some .int) 5 := ⟨cd_yX12_addForUser, ⟨by decide, by decide⟩, by decide +kernel, in_RX12⟩
abbrev rm_X12_adds : Room := { frames := 3, locals := 70, cells := 0, slots := 0 }
theorem k_X12_adds : kY yX12_adds cX12_adds 8 (some .int) 6 := ⟨cd_yX12_adds, ⟨by decide, by decide⟩, by decide +kernel, in_RX12⟩
abbrev rm_X12_areRights : Room := { frames := 1, locals := 22, cells := 0, slots := 0 }
theorem k_X12_areRights : kY yX12_areRights cX12_areRights 1 (some .boolean) 1 := ⟨cd_yX12_areRights, ⟨by decide, by decide⟩, by decide +kernel, in_RX12⟩
abbrev rm_X12_writes : Room := { frames := 2, locals := 43, cells := 0, slots := 0 }
theorem k_X12_writes : kY yX12_writes cX12_writes 8 none 7 := ⟨cd_yX12_writes, ⟨by decide, by decide⟩, by decide +kernel, in_RX12⟩
abbrev rm_X12_entryAt : Room := { frames := 1, locals := 21, cells := 0, slots := 0 }
theorem k_X12_entryAt : kY yX12_entryAt cX12_entryAt 3 (some .int) 3 := ⟨cd_yX12_entryAt, ⟨by decide, by decide⟩, by decide +kernel, in_RX12⟩
abbrev rm_X11_addForGroup : Room := { frames := 8, locals := 139, cells := 4, slots := 24 }
theorem k_X11_addForGroup : kY yX11_addForGroup cX11_addForGroup 6 (some .int) 5 := ⟨cd_yX11_addForGroup, ⟨by decide, by decide⟩, by decide +kernel, in_RX11⟩
abbrev rm_X12_addForGroup : Room := { frames := 4, locals := 97, cells := 0, slots := 0 }
theorem k_X12_addForGroup : kY yX12_addForGroup cX12_addForGroup 6 (some .int) 5 := ⟨cd_yX12_addForGroup, ⟨by decide, by decide⟩, by decide +kernel, in_RX12⟩
abbrev rm_X11_addForOwner : Room := { frames := 8, locals := 139, cells := 3, slots := 18 }
theorem k_X11_addForOwner : kY yX11_addForOwner cX11_addForOwner 5 (some .int) 4 := ⟨cd_yX11_addForOwner, ⟨by decide, by decide⟩, by decide +kernel, in_RX11⟩
abbrev rm_X12_addForOwner : Room := { frames := 4, locals := 97, cells := 0, slots := 0 }
theorem k_X12_addForOwner : kY yX12_addForOwner cX12_addForOwner 5 (some .int) 4 := ⟨cd_yX12_addForOwner, ⟨by decide, by decide⟩, by decide +kernel, in_RX12⟩
abbrev rm_X11_addForAll : Room := { frames := 8, locals := 139, cells := 3, slots := 18 }
theorem k_X11_addForAll : kY yX11_addForAll cX11_addForAll 5 (some .int) 4 := ⟨cd_yX11_addForAll, ⟨by decide, by decide⟩, by decide +kernel, in_RX11⟩
abbrev rm_X12_addForAll : Room := { frames := 4, locals := 97, cells := 0, slots := 0 }
theorem k_X12_addForAll : kY yX12_addForAll cX12_addForAll 5 (some .int) 4 := ⟨cd_yX12_addForAll, ⟨by decide, by decide⟩, by decide +kernel, in_RX12⟩
abbrev rm_X11_removeEntry : Room := { frames := 8, locals := 133, cells := 2, slots := 12 }
theorem k_X11_removeEntry : kY yX11_removeEntry cX11_removeEntry 3 (some .int) 2 := ⟨cd_yX11_removeEntry, ⟨by decide, by decide⟩, by decide +kernel, in_RX11⟩
abbrev rm_X11_requireEntry : Room := { frames := 7, locals := 111, cells := 2, slots := 12 }
theorem k_X11_requireEntry : kY yX11_requireEntry cX11_requireEntry 3 none 2 := ⟨cd_yX11_requireEntry, ⟨by decide, by decide⟩, by decide +kernel, in_RX11⟩
abbrev rm_X6_takeOut : Room := { frames := 2, locals := 44, cells := 0, slots := 0 }
theorem k_X6_takeOut : kY yX6_takeOut cX6_takeOut 5 (some .int) 2 := ⟨cd_yX6_takeOut, ⟨by decide, by decide⟩, by decide +kernel, in_RX6⟩
abbrev rm_X12_removeEntry : Room := { frames := 4, locals := 86, cells := 0, slots := 0 }
theorem k_X12_removeEntry : kY yX12_removeEntry cX12_removeEntry 3 (some .int) 2 := ⟨cd_yX12_removeEntry, ⟨by decide, by decide⟩, by decide +kernel, in_RX12⟩
abbrev rm_X12_isEntry : Room := { frames := 3, locals := 64, cells := 0, slots := 0 }
theorem k_X12_isEntry : kY yX12_isEntry cX12_isEntry 3 (some .boolean) 2 := ⟨cd_yX12_isEntry, ⟨by decide, by decide⟩, by decide +kernel, in_RX12⟩
abbrev rm_X12_takesOut : Room := { frames := 2, locals := 43, cells := 0, slots := 0 }
theorem k_X12_takesOut : kY yX12_takesOut cX12_takesOut 4 none 2 := ⟨cd_yX12_takesOut, ⟨by decide, by decide⟩, by decide +kernel, in_RX12⟩
abbrev rm_X11_moveEntry : Room := { frames := 8, locals := 149, cells := 4, slots := 24 }
theorem k_X11_moveEntry : kY yX11_moveEntry cX11_moveEntry 5 (some .int) 3 := ⟨cd_yX11_moveEntry, ⟨by decide, by decide⟩, by decide +kernel, in_RX11⟩
abbrev rm_X4_keepTable : Room := { frames := 5, locals := 124, cells := 0, slots := 0 }
theorem k_X4_keepTable : kY yX4_keepTable cX4_keepTable 4 none 1 := ⟨cd_yX4_keepTable, ⟨by decide, by decide⟩, by decide +kernel, in_RX4⟩
abbrev rm_X4_rightsAt : Room := { frames := 4, locals := 99, cells := 0, slots := 0 }
theorem k_X4_rightsAt : kY yX4_rightsAt cX4_rightsAt 6 (some .int) 3 := ⟨cd_yX4_rightsAt, ⟨by decide, by decide⟩, by decide +kernel, in_RX4⟩
abbrev rm_X4_decide : Room := { frames := 3, locals := 67, cells := 0, slots := 0 }
theorem k_X4_decide : kY yX4_decide cX4_decide 13 none 3 := ⟨cd_yX4_decide, ⟨by decide, by decide⟩, by decide +kernel, in_RX4⟩
abbrev rm_J7_fill_53178 : Room := { frames := 0, locals := 0, cells := 0, slots := 0 }
theorem k_J7_fill_53178 : kY yJ7_fill_53178 cJ7_fill_53178 4 none 2 := ⟨cd_yJ7_fill_53178, ⟨by decide, by decide⟩, by decide +kernel, in_RJ7⟩
abbrev rm_X0_groupsOver : Room := { frames := 2, locals := 46, cells := 0, slots := 0 }
theorem k_X0_groupsOver : kY yX0_groupsOver cX0_groupsOver 2 (some .int) 1 := ⟨cd_yX0_groupsOver, ⟨by decide, by decide⟩, by decide +kernel, in_RX0⟩
abbrev rm_X1_countsBelow : Room := { frames := 0, locals := 0, cells := 0, slots := 0 }
theorem k_X1_countsBelow : kY yX1_countsBelow cX1_countsBelow 1 (some .boolean) 1 := ⟨cd_yX1_countsBelow, ⟨by decide, by decide⟩, by decide +kernel, in_RX1⟩
abbrev rm_X1_isFor : Room := { frames := 1, locals := 21, cells := 0, slots := 0 }
theorem k_X1_isFor : kY yX1_isFor cX1_isFor 4 (some .boolean) 4 := ⟨cd_yX1_isFor, ⟨by decide, by decide⟩, by decide +kernel, in_RX1⟩
abbrev rm_X1_kind : Room := { frames := 0, locals := 0, cells := 0, slots := 0 }
theorem k_X1_kind : kY yX1_kind cX1_kind 1 (some .int) 1 := ⟨cd_yX1_kind, ⟨by decide, by decide⟩, by decide +kernel, in_RX1⟩
abbrev rm_X1_number : Room := { frames := 0, locals := 0, cells := 0, slots := 0 }
theorem k_X1_number : kY yX1_number cX1_number 1 (some .int) 1 := ⟨cd_yX1_number, ⟨by decide, by decide⟩, by decide +kernel, in_RX1⟩
abbrev rm_X1_rights : Room := { frames := 0, locals := 0, cells := 0, slots := 0 }
theorem k_X1_rights : kY yX1_rights cX1_rights 1 (some .int) 1 := ⟨cd_yX1_rights, ⟨by decide, by decide⟩, by decide +kernel, in_RX1⟩
abbrev rm_X4_settle : Room := { frames := 1, locals := 21, cells := 0, slots := 0 }
theorem k_X4_settle : kY yX4_settle cX4_settle 5 none 3 := ⟨cd_yX4_settle, ⟨by decide, by decide⟩, by decide +kernel, in_RX4⟩
abbrev rm_X10_nextUp : Room := { frames := 2, locals := 42, cells := 0, slots := 0 }
theorem k_X10_nextUp : kY yX10_nextUp cX10_nextUp 2 (some .int) 1 := ⟨cd_yX10_nextUp, ⟨by decide, by decide⟩, by decide +kernel, in_RX10⟩
abbrev rm_X9_grants : Room := { frames := 2, locals := 42, cells := 0, slots := 0 }
theorem k_X9_grants : kY yX9_grants cX9_grants 5 (some .boolean) 4 := ⟨cd_yX9_grants, ⟨by decide, by decide⟩, by decide +kernel, in_RX9⟩
abbrev rm_X1_allows : Room := { frames := 0, locals := 0, cells := 0, slots := 0 }
theorem k_X1_allows : kY yX1_allows cX1_allows 1 (some .boolean) 1 := ⟨cd_yX1_allows, ⟨by decide, by decide⟩, by decide +kernel, in_RX1⟩
abbrev rm_X4_countDifferences : Room := { frames := 5, locals := 124, cells := 0, slots := 0 }
theorem k_X4_countDifferences : kY yX4_countDifferences cX4_countDifferences 6 (some .int) 1 := ⟨cd_yX4_countDifferences, ⟨by decide, by decide⟩, by decide +kernel, in_RX4⟩
abbrev rm_X12_moveEntry : Room := { frames := 9, locals := 215, cells := 0, slots := 0 }
theorem k_X12_moveEntry : kY yX12_moveEntry cX12_moveEntry 4 (some .int) 3 := ⟨cd_yX12_moveEntry, ⟨by decide, by decide⟩, by decide +kernel, in_RX12⟩
abbrev rm_X12_notes : Room := { frames := 8, locals := 191, cells := 0, slots := 0 }
theorem k_X12_notes : kY yX12_notes cX12_notes 2 none 0 := ⟨cd_yX12_notes, ⟨by decide, by decide⟩, by decide +kernel, in_RX12⟩
abbrev rm_X12_rights : Room := { frames := 7, locals := 167, cells := 0, slots := 0 }
theorem k_X12_rights : kY yX12_rights cX12_rights 5 (some .int) 2 := ⟨cd_yX12_rights, ⟨by decide, by decide⟩, by decide +kernel, in_RX12⟩
abbrev rm_X12_allows : Room := { frames := 6, locals := 144, cells := 0, slots := 0 }
theorem k_X12_allows : kY yX12_allows cX12_allows 4 (some .boolean) 3 := ⟨cd_yX12_allows, ⟨by decide, by decide⟩, by decide +kernel, in_RX12⟩
abbrev rm_X12_isByList : Room := { frames := 5, locals := 120, cells := 0, slots := 0 }
theorem k_X12_isByList : kY yX12_isByList cX12_isByList 5 (some .boolean) 3 := ⟨cd_yX12_isByList, ⟨by decide, by decide⟩, by decide +kernel, in_RX12⟩
abbrev rm_X12_decides : Room := { frames := 4, locals := 94, cells := 0, slots := 0 }
theorem k_X12_decides : kY yX12_decides cX12_decides 7 (some .int) 3 := ⟨cd_yX12_decides, ⟨by decide, by decide⟩, by decide +kernel, in_RX12⟩
abbrev rm_X12_ofEntry : Room := { frames := 2, locals := 43, cells := 0, slots := 0 }
theorem k_X12_ofEntry : kY yX12_ofEntry cX12_ofEntry 4 (some .int) 3 := ⟨cd_yX12_ofEntry, ⟨by decide, by decide⟩, by decide +kernel, in_RX12⟩
abbrev rm_X12_isFor : Room := { frames := 3, locals := 69, cells := 0, slots := 0 }
theorem k_X12_isFor : kY yX12_isFor cX12_isFor 6 (some .boolean) 4 := ⟨cd_yX12_isFor, ⟨by decide, by decide⟩, by decide +kernel, in_RX12⟩
abbrev rm_X12_keepsOne : Room := { frames := 3, locals := 66, cells := 0, slots := 0 }
theorem k_X12_keepsOne : kY yX12_keepsOne cX12_keepsOne 4 none 2 := ⟨cd_yX12_keepsOne, ⟨by decide, by decide⟩, by decide +kernel, in_RX12⟩
abbrev rm_X12_putsOne : Room := { frames := 3, locals := 66, cells := 0, slots := 0 }
theorem k_X12_putsOne : kY yX12_putsOne cX12_putsOne 4 none 2 := ⟨cd_yX12_putsOne, ⟨by decide, by decide⟩, by decide +kernel, in_RX12⟩
abbrev rm_X12_opens : Room := { frames := 2, locals := 43, cells := 0, slots := 0 }
theorem k_X12_opens : kY yX12_opens cX12_opens 4 none 2 := ⟨cd_yX12_opens, ⟨by decide, by decide⟩, by decide +kernel, in_RX12⟩
abbrev rm_X12_unlike : Room := { frames := 8, locals := 191, cells := 0, slots := 0 }
theorem k_X12_unlike : kY yX12_unlike cX12_unlike 5 (some .int) 0 := ⟨cd_yX12_unlike, ⟨by decide, by decide⟩, by decide +kernel, in_RX12⟩
abbrev rm_X11_ask : Room := { frames := 7, locals := 148, cells := 3, slots := 18 }
theorem k_X11_ask : kY yX11_ask cX11_ask 5 (some .boolean) 3 := ⟨cd_yX11_ask, ⟨by decide, by decide⟩, by decide +kernel, in_RX11⟩
abbrev rm_X11_requireRight : Room := { frames := 6, locals := 90, cells := 1, slots := 6 }
theorem k_X11_requireRight : kY yX11_requireRight cX11_requireRight 2 none 1 := ⟨cd_yX11_requireRight, ⟨by decide, by decide⟩, by decide +kernel, in_RX11⟩
abbrev rm_X4_grants : Room := { frames := 5, locals := 124, cells := 0, slots := 0 }
theorem k_X4_grants : kY yX4_grants cX4_grants 5 (some .boolean) 4 := ⟨cd_yX4_grants, ⟨by decide, by decide⟩, by decide +kernel, in_RX4⟩
abbrev rm_X7_put : Room := { frames := 2, locals := 43, cells := 0, slots := 0 }
theorem k_X7_put : kY yX7_put cX7_put 5 none 3 := ⟨cd_yX7_put, ⟨by decide, by decide⟩, by decide +kernel, in_RX7⟩
abbrev rm_X7_placeOf : Room := { frames := 1, locals := 22, cells := 0, slots := 0 }
theorem k_X7_placeOf : kY yX7_placeOf cX7_placeOf 2 (some .int) 1 := ⟨cd_yX7_placeOf, ⟨by decide, by decide⟩, by decide +kernel, in_RX7⟩
abbrev rm_X12_ask : Room := { frames := 7, locals := 167, cells := 0, slots := 0 }
theorem k_X12_ask : kY yX12_ask cX12_ask 6 (some .boolean) 3 := ⟨cd_yX12_ask, ⟨by decide, by decide⟩, by decide +kernel, in_RX12⟩
abbrev rm_X12_isRight : Room := { frames := 1, locals := 22, cells := 0, slots := 0 }
theorem k_X12_isRight : kY yX12_isRight cX12_isRight 1 (some .boolean) 1 := ⟨cd_yX12_isRight, ⟨by decide, by decide⟩, by decide +kernel, in_RX12⟩
abbrev rm_X11_share : Room := { frames := 7, locals := 124, cells := 6, slots := 36 }
theorem k_X11_share : kY yX11_share cX11_share 6 (some .int) 4 := ⟨cd_yX11_share, ⟨by decide, by decide⟩, by decide +kernel, in_RX11⟩
abbrev rm_X12_share : Room := { frames := 8, locals := 191, cells := 0, slots := 0 }
theorem k_X12_share : kY yX12_share cX12_share 7 (some .int) 4 := ⟨cd_yX12_share, ⟨by decide, by decide⟩, by decide +kernel, in_RX12⟩
abbrev rm_X11_append : Room := { frames := 6, locals := 90, cells := 2, slots := 12 }
theorem k_X11_append : kY yX11_append cX11_append 2 (some .int) 1 := ⟨cd_yX11_append, ⟨by decide, by decide⟩, by decide +kernel, in_RX11⟩
abbrev rm_X8_put : Room := { frames := 1, locals := 21, cells := 0, slots := 0 }
theorem k_X8_put : kY yX8_put cX8_put 2 none 1 := ⟨cd_yX8_put, ⟨by decide, by decide⟩, by decide +kernel, in_RX8⟩
abbrev rm_X12_append : Room := { frames := 1, locals := 22, cells := 0, slots := 0 }
theorem k_X12_append : kY yX12_append cX12_append 2 (some .int) 1 := ⟨cd_yX12_append, ⟨by decide, by decide⟩, by decide +kernel, in_RX12⟩
abbrev rm_X11_clear : Room := { frames := 1, locals := 20, cells := 0, slots := 0 }
theorem k_X11_clear : kY yX11_clear cX11_clear 2 (some .int) 0 := ⟨cd_yX11_clear, ⟨by decide, by decide⟩, by decide +kernel, in_RX11⟩
abbrev rm_X8_wipe : Room := { frames := 0, locals := 0, cells := 0, slots := 0 }
theorem k_X8_wipe : kY yX8_wipe cX8_wipe 1 none 0 := ⟨cd_yX8_wipe, ⟨by decide, by decide⟩, by decide +kernel, in_RX8⟩
abbrev rm_X12_clear : Room := { frames := 0, locals := 0, cells := 0, slots := 0 }
theorem k_X12_clear : kY yX12_clear cX12_clear 2 (some .int) 0 := ⟨cd_yX12_clear, ⟨by decide, by decide⟩, by decide +kernel, in_RX12⟩
abbrev rm_X11_fault : Room := { frames := 8, locals := 176, cells := 0, slots := 0 }
theorem k_X11_fault : kY yX11_fault cX11_fault 1 (some .int) 0 := ⟨cd_yX11_fault, ⟨by decide, by decide⟩, by decide +kernel, in_RX11⟩
abbrev rm_X5_read : Room := { frames := 7, locals := 154, cells := 0, slots := 0 }
theorem k_X5_read : kY yX5_read cX5_read 3 (some .boolean) 1 := ⟨cd_yX5_read, ⟨by decide, by decide⟩, by decide +kernel, in_RX5⟩
abbrev rm_X5_takeNumber : Room := { frames := 2, locals := 44, cells := 0, slots := 0 }
theorem k_X5_takeNumber : kY yX5_takeNumber cX5_takeNumber 5 (some .int) 2 := ⟨cd_yX5_takeNumber, ⟨by decide, by decide⟩, by decide +kernel, in_RX5⟩
abbrev rm_X5_digitAt : Room := { frames := 1, locals := 21, cells := 0, slots := 0 }
theorem k_X5_digitAt : kY yX5_digitAt cX5_digitAt 4 (some .int) 2 := ⟨cd_yX5_digitAt, ⟨by decide, by decide⟩, by decide +kernel, in_RX5⟩
abbrev rm_X8_signAt : Room := { frames := 0, locals := 0, cells := 0, slots := 0 }
theorem k_X8_signAt : kY yX8_signAt cX8_signAt 2 (some .int) 1 := ⟨cd_yX8_signAt, ⟨by decide, by decide⟩, by decide +kernel, in_RX8⟩
abbrev rm_X5_take : Room := { frames := 1, locals := 21, cells := 0, slots := 0 }
theorem k_X5_take : kY yX5_take cX5_take 3 (some .boolean) 2 := ⟨cd_yX5_take, ⟨by decide, by decide⟩, by decide +kernel, in_RX5⟩
abbrev rm_X5_takeEntry : Room := { frames := 6, locals := 129, cells := 0, slots := 0 }
theorem k_X5_takeEntry : kY yX5_takeEntry cX5_takeEntry 6 (some .boolean) 1 := ⟨cd_yX5_takeEntry, ⟨by decide, by decide⟩, by decide +kernel, in_RX5⟩
abbrev rm_X5_takeKind : Room := { frames := 5, locals := 106, cells := 0, slots := 0 }
theorem k_X5_takeKind : kY yX5_takeKind cX5_takeKind 3 (some .int) 1 := ⟨cd_yX5_takeKind, ⟨by decide, by decide⟩, by decide +kernel, in_RX5⟩
abbrev rm_J0_length_8abf5 : Room := { frames := 1, locals := 20, cells := 0, slots := 0 }
theorem k_J0_length_8abf5 : kY yJ0_length_8abf5 cJ0_length_8abf5 1 (some .int) 0 := ⟨cd_yJ0_length_8abf5, ⟨by decide, by decide⟩, by decide +kernel, in_RJ0⟩
abbrev rm_J0_coder_7d493 : Room := { frames := 0, locals := 0, cells := 0, slots := 0 }
theorem k_J0_coder_7d493 : kY yJ0_coder_7d493 cJ0_coder_7d493 1 (some .byte) 0 := ⟨cd_yJ0_coder_7d493, ⟨by decide, by decide⟩, by decide +kernel, in_RJ0⟩
abbrev rm_J0_charAt_5068e : Room := { frames := 4, locals := 85, cells := 0, slots := 0 }
theorem k_J0_charAt_5068e : kY yJ0_charAt_5068e cJ0_charAt_5068e 2 (some .char) 1 := ⟨cd_yJ0_charAt_5068e, ⟨by decide, by decide⟩, by decide +kernel, in_RJ0⟩
abbrev rm_J0_isLatin1_aae02 : Room := { frames := 0, locals := 0, cells := 0, slots := 0 }
theorem k_J0_isLatin1_aae02 : kY yJ0_isLatin1_aae02 cJ0_isLatin1_aae02 1 (some .boolean) 0 := ⟨cd_yJ0_isLatin1_aae02, ⟨by decide, by decide⟩, by decide +kernel, in_RJ0⟩
abbrev rm_J1_charAt_3b067 : Room := { frames := 2, locals := 43, cells := 0, slots := 0 }
theorem k_J1_charAt_3b067 : kY yJ1_charAt_3b067 cJ1_charAt_3b067 2 (some .char) 2 := ⟨cd_yJ1_charAt_3b067, ⟨by decide, by decide⟩, by decide +kernel, in_RJ1⟩
abbrev rm_J0_checkIndex_df160 : Room := { frames := 1, locals := 22, cells := 0, slots := 0 }
theorem k_J0_checkIndex_df160 : kY yJ0_checkIndex_df160 cJ0_checkIndex_df160 2 none 2 := ⟨cd_yJ0_checkIndex_df160, ⟨by decide, by decide⟩, by decide +kernel, in_RJ0⟩
abbrev rm_J3_checkIndex_8e157 : Room := { frames := 0, locals := 0, cells := 0, slots := 0 }
theorem k_J3_checkIndex_8e157 : kY yJ3_checkIndex_8e157 cJ3_checkIndex_8e157 3 (some .int) 3 := ⟨cd_yJ3_checkIndex_8e157, ⟨by decide, by decide⟩, by decide +kernel, in_RJ3⟩
abbrev rm_J2_charAt_3b067 : Room := { frames := 3, locals := 64, cells := 0, slots := 0 }
theorem k_J2_charAt_3b067 : kY yJ2_charAt_3b067 cJ2_charAt_3b067 2 (some .char) 2 := ⟨cd_yJ2_charAt_3b067, ⟨by decide, by decide⟩, by decide +kernel, in_RJ2⟩
abbrev rm_J2_checkIndex_2214a : Room := { frames := 2, locals := 43, cells := 0, slots := 0 }
theorem k_J2_checkIndex_2214a : kY yJ2_checkIndex_2214a cJ2_checkIndex_2214a 2 none 2 := ⟨cd_yJ2_checkIndex_2214a, ⟨by decide, by decide⟩, by decide +kernel, in_RJ2⟩
abbrev rm_J2_length_9d52b : Room := { frames := 0, locals := 0, cells := 0, slots := 0 }
theorem k_J2_length_9d52b : kY yJ2_length_9d52b cJ2_length_9d52b 1 (some .int) 1 := ⟨cd_yJ2_length_9d52b, ⟨by decide, by decide⟩, by decide +kernel, in_RJ2⟩
abbrev rm_J2_getChar_3b067 : Room := { frames := 1, locals := 20, cells := 0, slots := 0 }
theorem k_J2_getChar_3b067 : kY yJ2_getChar_3b067 cJ2_getChar_3b067 2 (some .char) 2 := ⟨cd_yJ2_getChar_3b067, ⟨by decide, by decide⟩, by decide +kernel, in_RJ2⟩
abbrev rm_X5_takeNumberOf : Room := { frames := 3, locals := 68, cells := 0, slots := 0 }
theorem k_X5_takeNumberOf : kY yX5_takeNumberOf cX5_takeNumberOf 3 (some .int) 2 := ⟨cd_yX5_takeNumberOf, ⟨by decide, by decide⟩, by decide +kernel, in_RX5⟩
abbrev rm_X5_takeRights : Room := { frames := 5, locals := 106, cells := 0, slots := 0 }
theorem k_X5_takeRights : kY yX5_takeRights cX5_takeRights 4 (some .int) 1 := ⟨cd_yX5_takeRights, ⟨by decide, by decide⟩, by decide +kernel, in_RX5⟩
abbrev rm_X12_fault : Room := { frames := 6, locals := 132, cells := 0, slots := 0 }
theorem k_X12_fault : kY yX12_fault cX12_fault 1 (some .int) 0 := ⟨cd_yX12_fault, ⟨by decide, by decide⟩, by decide +kernel, in_RX12⟩
abbrev rm_X12_wrong : Room := { frames := 5, locals := 111, cells := 0, slots := 0 }
theorem k_X12_wrong : kY yX12_wrong cX12_wrong 2 (some .int) 0 := ⟨cd_yX12_wrong, ⟨by decide, by decide⟩, by decide +kernel, in_RX12⟩
abbrev rm_X12_number : Room := { frames := 2, locals := 44, cells := 0, slots := 0 }
theorem k_X12_number : kY yX12_number cX12_number 2 (some .boolean) 1 := ⟨cd_yX12_number, ⟨by decide, by decide⟩, by decide +kernel, in_RX12⟩
abbrev rm_X12_sees : Room := { frames := 1, locals := 22, cells := 0, slots := 0 }
theorem k_X12_sees : kY yX12_sees cX12_sees 3 (some .boolean) 2 := ⟨cd_yX12_sees, ⟨by decide, by decide⟩, by decide +kernel, in_RX12⟩
abbrev rm_X12_sign : Room := { frames := 2, locals := 44, cells := 0, slots := 0 }
theorem k_X12_sign : kY yX12_sign cX12_sign 3 (some .boolean) 1 := ⟨cd_yX12_sign, ⟨by decide, by decide⟩, by decide +kernel, in_RX12⟩
abbrev rm_X12_entryRead : Room := { frames := 4, locals := 88, cells := 0, slots := 0 }
theorem k_X12_entryRead : kY yX12_entryRead cX12_entryRead 4 (some .boolean) 0 := ⟨cd_yX12_entryRead, ⟨by decide, by decide⟩, by decide +kernel, in_RX12⟩
abbrev rm_X12_whomRead : Room := { frames := 3, locals := 66, cells := 0, slots := 0 }
theorem k_X12_whomRead : kY yX12_whomRead cX12_whomRead 3 (some .boolean) 0 := ⟨cd_yX12_whomRead, ⟨by decide, by decide⟩, by decide +kernel, in_RX12⟩
abbrev rm_X11_loadEntries : Room := { frames := 8, locals := 176, cells := 2, slots := 12 }
theorem k_X11_loadEntries : kY yX11_loadEntries cX11_loadEntries 2 (some .int) 0 := ⟨cd_yX11_loadEntries, ⟨by decide, by decide⟩, by decide +kernel, in_RX11⟩
abbrev rm_X5_isKnownTo : Room := { frames := 2, locals := 42, cells := 0, slots := 0 }
theorem k_X5_isKnownTo : kY yX5_isKnownTo cX5_isKnownTo 5 (some .boolean) 1 := ⟨cd_yX5_isKnownTo, ⟨by decide, by decide⟩, by decide +kernel, in_RX5⟩
abbrev rm_X5_entryAt : Room := { frames := 1, locals := 21, cells := 0, slots := 0 }
theorem k_X5_entryAt : kY yX5_entryAt cX5_entryAt 2 (some .int) 1 := ⟨cd_yX5_entryAt, ⟨by decide, by decide⟩, by decide +kernel, in_RX5⟩
abbrev rm_X12_loadEntries : Room := { frames := 6, locals := 132, cells := 0, slots := 0 }
theorem k_X12_loadEntries : kY yX12_loadEntries cX12_loadEntries 2 (some .int) 0 := ⟨cd_yX12_loadEntries, ⟨by decide, by decide⟩, by decide +kernel, in_RX12⟩
abbrev rm_X12_areThere : Room := { frames := 3, locals := 64, cells := 0, slots := 0 }
theorem k_X12_areThere : kY yX12_areThere cX12_areThere 4 (some .boolean) 0 := ⟨cd_yX12_areThere, ⟨by decide, by decide⟩, by decide +kernel, in_RX12⟩
abbrev rm_X11_writeEntries : Room := { frames := 7, locals := 155, cells := 1, slots := 6 }
theorem k_X11_writeEntries : kY yX11_writeEntries cX11_writeEntries 2 (some .int) 1 := ⟨cd_yX11_writeEntries, ⟨by decide, by decide⟩, by decide +kernel, in_RX11⟩
abbrev rm_X5_write : Room := { frames := 6, locals := 130, cells := 0, slots := 0 }
theorem k_X5_write : kY yX5_write cX5_write 6 none 3 := ⟨cd_yX5_write, ⟨by decide, by decide⟩, by decide +kernel, in_RX5⟩
abbrev rm_X8_putNumber : Room := { frames := 2, locals := 42, cells := 0, slots := 0 }
theorem k_X8_putNumber : kY yX8_putNumber cX8_putNumber 2 none 1 := ⟨cd_yX8_putNumber, ⟨by decide, by decide⟩, by decide +kernel, in_RX8⟩
abbrev rm_X5_writeEntry : Room := { frames := 5, locals := 106, cells := 0, slots := 0 }
theorem k_X5_writeEntry : kY yX5_writeEntry cX5_writeEntry 5 none 2 := ⟨cd_yX5_writeEntry, ⟨by decide, by decide⟩, by decide +kernel, in_RX5⟩
abbrev rm_X12_writeEntries : Room := { frames := 4, locals := 90, cells := 0, slots := 0 }
theorem k_X12_writeEntries : kY yX12_writeEntries cX12_writeEntries 3 (some .int) 1 := ⟨cd_yX12_writeEntries, ⟨by decide, by decide⟩, by decide +kernel, in_RX12⟩
abbrev rm_X12_putsNumber : Room := { frames := 1, locals := 21, cells := 0, slots := 0 }
theorem k_X12_putsNumber : kY yX12_putsNumber cX12_putsNumber 2 none 1 := ⟨cd_yX12_putsNumber, ⟨by decide, by decide⟩, by decide +kernel, in_RX12⟩
abbrev rm_X12_puts : Room := { frames := 0, locals := 0, cells := 0, slots := 0 }
theorem k_X12_puts : kY yX12_puts cX12_puts 2 none 1 := ⟨cd_yX12_puts, ⟨by decide, by decide⟩, by decide +kernel, in_RX12⟩
abbrev rm_X12_putsEntry : Room := { frames := 3, locals := 66, cells := 0, slots := 0 }
theorem k_X12_putsEntry : kY yX12_putsEntry cX12_putsEntry 5 none 2 := ⟨cd_yX12_putsEntry, ⟨by decide, by decide⟩, by decide +kernel, in_RX12⟩
abbrev rm_X12_putsRight : Room := { frames := 1, locals := 21, cells := 0, slots := 0 }
theorem k_X12_putsRight : kY yX12_putsRight cX12_putsRight 4 none 3 := ⟨cd_yX12_putsRight, ⟨by decide, by decide⟩, by decide +kernel, in_RX12⟩
abbrev rm_X11_codeAt : Room := { frames := 6, locals := 90, cells := 1, slots := 6 }
theorem k_X11_codeAt : kY yX11_codeAt cX11_codeAt 2 (some .int) 1 := ⟨cd_yX11_codeAt, ⟨by decide, by decide⟩, by decide +kernel, in_RX11⟩
abbrev rm_X12_codeAt : Room := { frames := 1, locals := 22, cells := 0, slots := 0 }
theorem k_X12_codeAt : kY yX12_codeAt cX12_codeAt 2 (some .int) 1 := ⟨cd_yX12_codeAt, ⟨by decide, by decide⟩, by decide +kernel, in_RX12⟩
abbrev rm_X11_users : Room := { frames := 0, locals := 0, cells := 0, slots := 0 }
theorem k_X11_users : kY yX11_users cX11_users 1 (some .int) 0 := ⟨cd_yX11_users, ⟨by decide, by decide⟩, by decide +kernel, in_RX11⟩
abbrev rm_X12_users : Room := { frames := 0, locals := 0, cells := 0, slots := 0 }
theorem k_X12_users : kY yX12_users cX12_users 1 (some .int) 0 := ⟨cd_yX12_users, ⟨by decide, by decide⟩, by decide +kernel, in_RX12⟩
abbrev rm_X11_groups : Room := { frames := 0, locals := 0, cells := 0, slots := 0 }
theorem k_X11_groups : kY yX11_groups cX11_groups 1 (some .int) 0 := ⟨cd_yX11_groups, ⟨by decide, by decide⟩, by decide +kernel, in_RX11⟩
abbrev rm_X12_groups : Room := { frames := 0, locals := 0, cells := 0, slots := 0 }
theorem k_X12_groups : kY yX12_groups cX12_groups 1 (some .int) 0 := ⟨cd_yX12_groups, ⟨by decide, by decide⟩, by decide +kernel, in_RX12⟩
abbrev rm_X11_isMember : Room := { frames := 7, locals := 111, cells := 2, slots := 12 }
theorem k_X11_isMember : kY yX11_isMember cX11_isMember 3 (some .boolean) 2 := ⟨cd_yX11_isMember, ⟨by decide, by decide⟩, by decide +kernel, in_RX11⟩
abbrev rm_X12_isMember : Room := { frames := 2, locals := 43, cells := 0, slots := 0 }
theorem k_X12_isMember : kY yX12_isMember cX12_isMember 3 (some .boolean) 2 := ⟨cd_yX12_isMember, ⟨by decide, by decide⟩, by decide +kernel, in_RX12⟩
abbrev rm_X11_isNested : Room := { frames := 7, locals := 111, cells := 2, slots := 12 }
theorem k_X11_isNested : kY yX11_isNested cX11_isNested 3 (some .boolean) 2 := ⟨cd_yX11_isNested, ⟨by decide, by decide⟩, by decide +kernel, in_RX11⟩
abbrev rm_X12_isNested : Room := { frames := 2, locals := 43, cells := 0, slots := 0 }
theorem k_X12_isNested : kY yX12_isNested cX12_isNested 3 (some .boolean) 2 := ⟨cd_yX12_isNested, ⟨by decide, by decide⟩, by decide +kernel, in_RX12⟩
abbrev rm_X11_belongs : Room := { frames := 7, locals := 111, cells := 2, slots := 12 }
theorem k_X11_belongs : kY yX11_belongs cX11_belongs 3 (some .boolean) 2 := ⟨cd_yX11_belongs, ⟨by decide, by decide⟩, by decide +kernel, in_RX11⟩
abbrev rm_X12_belongs : Room := { frames := 4, locals := 91, cells := 0, slots := 0 }
theorem k_X12_belongs : kY yX12_belongs cX12_belongs 3 (some .boolean) 2 := ⟨cd_yX12_belongs, ⟨by decide, by decide⟩, by decide +kernel, in_RX12⟩
abbrev rm_X12_isOfGroup : Room := { frames := 3, locals := 69, cells := 0, slots := 0 }
theorem k_X12_isOfGroup : kY yX12_isOfGroup cX12_isOfGroup 3 (some .boolean) 2 := ⟨cd_yX12_isOfGroup, ⟨by decide, by decide⟩, by decide +kernel, in_RX12⟩
abbrev rm_X11_belongsByMembers : Room := { frames := 7, locals := 111, cells := 2, slots := 12 }
theorem k_X11_belongsByMembers : kY yX11_belongsByMembers cX11_belongsByMembers 3 (some .boolean) 2 := ⟨cd_yX11_belongsByMembers, ⟨by decide, by decide⟩, by decide +kernel, in_RX11⟩
abbrev rm_X12_belongsByMembers : Room := { frames := 4, locals := 91, cells := 0, slots := 0 }
theorem k_X12_belongsByMembers : kY yX12_belongsByMembers cX12_belongsByMembers 3 (some .boolean) 2 := ⟨cd_yX12_belongsByMembers, ⟨by decide, by decide⟩, by decide +kernel, in_RX12⟩
abbrev rm_X11_objects : Room := { frames := 2, locals := 40, cells := 0, slots := 0 }
theorem k_X11_objects : kY yX11_objects cX11_objects 1 (some .int) 0 := ⟨cd_yX11_objects, ⟨by decide, by decide⟩, by decide +kernel, in_RX11⟩
abbrev rm_X12_objects : Room := { frames := 3, locals := 65, cells := 0, slots := 0 }
theorem k_X12_objects : kY yX12_objects cX12_objects 1 (some .int) 0 := ⟨cd_yX12_objects, ⟨by decide, by decide⟩, by decide +kernel, in_RX12⟩
abbrev rm_X11_isThere : Room := { frames := 1, locals := 21, cells := 0, slots := 0 }
theorem k_X11_isThere : kY yX11_isThere cX11_isThere 2 (some .boolean) 1 := ⟨cd_yX11_isThere, ⟨by decide, by decide⟩, by decide +kernel, in_RX11⟩
abbrev rm_X12_isThere : Room := { frames := 3, locals := 64, cells := 0, slots := 0 }
theorem k_X12_isThere : kY yX12_isThere cX12_isThere 2 (some .boolean) 1 := ⟨cd_yX12_isThere, ⟨by decide, by decide⟩, by decide +kernel, in_RX12⟩
abbrev rm_X11_parentOf : Room := { frames := 7, locals := 111, cells := 1, slots := 6 }
theorem k_X11_parentOf : kY yX11_parentOf cX11_parentOf 2 (some .int) 1 := ⟨cd_yX11_parentOf, ⟨by decide, by decide⟩, by decide +kernel, in_RX11⟩
abbrev rm_X12_parentOf : Room := { frames := 4, locals := 86, cells := 0, slots := 0 }
theorem k_X12_parentOf : kY yX12_parentOf cX12_parentOf 2 (some .int) 1 := ⟨cd_yX12_parentOf, ⟨by decide, by decide⟩, by decide +kernel, in_RX12⟩
abbrev rm_X12_ofObject : Room := { frames := 3, locals := 64, cells := 0, slots := 0 }
theorem k_X12_ofObject : kY yX12_ofObject cX12_ofObject 3 (some .int) 2 := ⟨cd_yX12_ofObject, ⟨by decide, by decide⟩, by decide +kernel, in_RX12⟩
abbrev rm_X11_ownerOf : Room := { frames := 7, locals := 111, cells := 1, slots := 6 }
theorem k_X11_ownerOf : kY yX11_ownerOf cX11_ownerOf 2 (some .int) 1 := ⟨cd_yX11_ownerOf, ⟨by decide, by decide⟩, by decide +kernel, in_RX11⟩
abbrev rm_X12_ownerOf : Room := { frames := 4, locals := 86, cells := 0, slots := 0 }
theorem k_X12_ownerOf : kY yX12_ownerOf cX12_ownerOf 2 (some .int) 1 := ⟨cd_yX12_ownerOf, ⟨by decide, by decide⟩, by decide +kernel, in_RX12⟩
abbrev rm_X11_maskOf : Room := { frames := 7, locals := 111, cells := 1, slots := 6 }
theorem k_X11_maskOf : kY yX11_maskOf cX11_maskOf 2 (some .int) 1 := ⟨cd_yX11_maskOf, ⟨by decide, by decide⟩, by decide +kernel, in_RX11⟩
abbrev rm_X12_maskOf : Room := { frames := 4, locals := 86, cells := 0, slots := 0 }
theorem k_X12_maskOf : kY yX12_maskOf cX12_maskOf 2 (some .int) 1 := ⟨cd_yX12_maskOf, ⟨by decide, by decide⟩, by decide +kernel, in_RX12⟩
abbrev rm_X11_isInheriting : Room := { frames := 7, locals := 111, cells := 1, slots := 6 }
theorem k_X11_isInheriting : kY yX11_isInheriting cX11_isInheriting 2 (some .boolean) 1 := ⟨cd_yX11_isInheriting, ⟨by decide, by decide⟩, by decide +kernel, in_RX11⟩
abbrev rm_X12_isInheriting : Room := { frames := 4, locals := 86, cells := 0, slots := 0 }
theorem k_X12_isInheriting : kY yX12_isInheriting cX12_isInheriting 2 (some .boolean) 1 := ⟨cd_yX12_isInheriting, ⟨by decide, by decide⟩, by decide +kernel, in_RX12⟩
abbrev rm_X11_below : Room := { frames := 7, locals := 111, cells := 1, slots := 6 }
theorem k_X11_below : kY yX11_below cX11_below 2 (some .int) 1 := ⟨cd_yX11_below, ⟨by decide, by decide⟩, by decide +kernel, in_RX11⟩
abbrev rm_X12_below : Room := { frames := 4, locals := 89, cells := 0, slots := 0 }
theorem k_X12_below : kY yX12_below cX12_below 2 (some .int) 1 := ⟨cd_yX12_below, ⟨by decide, by decide⟩, by decide +kernel, in_RX12⟩
abbrev rm_X11_entriesOf : Room := { frames := 7, locals := 111, cells := 1, slots := 6 }
theorem k_X11_entriesOf : kY yX11_entriesOf cX11_entriesOf 2 (some .int) 1 := ⟨cd_yX11_entriesOf, ⟨by decide, by decide⟩, by decide +kernel, in_RX11⟩
abbrev rm_X12_entriesOf : Room := { frames := 4, locals := 86, cells := 0, slots := 0 }
theorem k_X12_entriesOf : kY yX12_entriesOf cX12_entriesOf 2 (some .int) 1 := ⟨cd_yX12_entriesOf, ⟨by decide, by decide⟩, by decide +kernel, in_RX12⟩
abbrev rm_X11_isAllowing : Room := { frames := 8, locals := 133, cells := 2, slots := 12 }
theorem k_X11_isAllowing : kY yX11_isAllowing cX11_isAllowing 3 (some .boolean) 2 := ⟨cd_yX11_isAllowing, ⟨by decide, by decide⟩, by decide +kernel, in_RX11⟩
abbrev rm_X12_isAllowing : Room := { frames := 5, locals := 109, cells := 0, slots := 0 }
theorem k_X12_isAllowing : kY yX12_isAllowing cX12_isAllowing 3 (some .boolean) 2 := ⟨cd_yX12_isAllowing, ⟨by decide, by decide⟩, by decide +kernel, in_RX12⟩
abbrev rm_X12_ofTheEntry : Room := { frames := 4, locals := 86, cells := 0, slots := 0 }
theorem k_X12_ofTheEntry : kY yX12_ofTheEntry cX12_ofTheEntry 4 (some .int) 3 := ⟨cd_yX12_ofTheEntry, ⟨by decide, by decide⟩, by decide +kernel, in_RX12⟩
abbrev rm_X11_rightsOfEntry : Room := { frames := 8, locals := 133, cells := 2, slots := 12 }
theorem k_X11_rightsOfEntry : kY yX11_rightsOfEntry cX11_rightsOfEntry 3 (some .int) 2 := ⟨cd_yX11_rightsOfEntry, ⟨by decide, by decide⟩, by decide +kernel, in_RX11⟩
abbrev rm_X12_rightsOfEntry : Room := { frames := 5, locals := 109, cells := 0, slots := 0 }
theorem k_X12_rightsOfEntry : kY yX12_rightsOfEntry cX12_rightsOfEntry 3 (some .int) 2 := ⟨cd_yX12_rightsOfEntry, ⟨by decide, by decide⟩, by decide +kernel, in_RX12⟩
abbrev rm_X11_userOfEntry : Room := { frames := 8, locals := 133, cells := 2, slots := 12 }
theorem k_X11_userOfEntry : kY yX11_userOfEntry cX11_userOfEntry 4 (some .int) 2 := ⟨cd_yX11_userOfEntry, ⟨by decide, by decide⟩, by decide +kernel, in_RX11⟩
abbrev rm_X12_userOfEntry : Room := { frames := 6, locals := 133, cells := 0, slots := 0 }
theorem k_X12_userOfEntry : kY yX12_userOfEntry cX12_userOfEntry 3 (some .int) 2 := ⟨cd_yX12_userOfEntry, ⟨by decide, by decide⟩, by decide +kernel, in_RX12⟩
abbrev rm_X12_whomOf : Room := { frames := 5, locals := 109, cells := 0, slots := 0 }
theorem k_X12_whomOf : kY yX12_whomOf cX12_whomOf 5 (some .int) 3 := ⟨cd_yX12_whomOf, ⟨by decide, by decide⟩, by decide +kernel, in_RX12⟩
abbrev rm_X11_groupOfEntry : Room := { frames := 8, locals := 133, cells := 2, slots := 12 }
theorem k_X11_groupOfEntry : kY yX11_groupOfEntry cX11_groupOfEntry 4 (some .int) 2 := ⟨cd_yX11_groupOfEntry, ⟨by decide, by decide⟩, by decide +kernel, in_RX11⟩
abbrev rm_X12_groupOfEntry : Room := { frames := 6, locals := 133, cells := 0, slots := 0 }
theorem k_X12_groupOfEntry : kY yX12_groupOfEntry cX12_groupOfEntry 3 (some .int) 2 := ⟨cd_yX12_groupOfEntry, ⟨by decide, by decide⟩, by decide +kernel, in_RX12⟩
abbrev rm_X11_isForOwner : Room := { frames := 8, locals := 133, cells := 2, slots := 12 }
theorem k_X11_isForOwner : kY yX11_isForOwner cX11_isForOwner 3 (some .boolean) 2 := ⟨cd_yX11_isForOwner, ⟨by decide, by decide⟩, by decide +kernel, in_RX11⟩
abbrev rm_X12_isForOwner : Room := { frames := 5, locals := 109, cells := 0, slots := 0 }
theorem k_X12_isForOwner : kY yX12_isForOwner cX12_isForOwner 3 (some .boolean) 2 := ⟨cd_yX12_isForOwner, ⟨by decide, by decide⟩, by decide +kernel, in_RX12⟩
abbrev rm_X11_isForBelow : Room := { frames := 8, locals := 133, cells := 2, slots := 12 }
theorem k_X11_isForBelow : kY yX11_isForBelow cX11_isForBelow 3 (some .boolean) 2 := ⟨cd_yX11_isForBelow, ⟨by decide, by decide⟩, by decide +kernel, in_RX11⟩
abbrev rm_X12_isForBelow : Room := { frames := 5, locals := 109, cells := 0, slots := 0 }
theorem k_X12_isForBelow : kY yX12_isForBelow cX12_isForBelow 3 (some .boolean) 2 := ⟨cd_yX12_isForBelow, ⟨by decide, by decide⟩, by decide +kernel, in_RX12⟩
abbrev rm_X11_isAllowed : Room := { frames := 7, locals := 148, cells := 3, slots := 18 }
theorem k_X11_isAllowed : kY yX11_isAllowed cX11_isAllowed 4 (some .boolean) 3 := ⟨cd_yX11_isAllowed, ⟨by decide, by decide⟩, by decide +kernel, in_RX11⟩
abbrev rm_X12_isAllowed : Room := { frames := 7, locals := 167, cells := 0, slots := 0 }
theorem k_X12_isAllowed : kY yX12_isAllowed cX12_isAllowed 4 (some .boolean) 3 := ⟨cd_yX12_isAllowed, ⟨by decide, by decide⟩, by decide +kernel, in_RX12⟩
abbrev rm_X12_isQuestion : Room := { frames := 3, locals := 64, cells := 0, slots := 0 }
theorem k_X12_isQuestion : kY yX12_isQuestion cX12_isQuestion 4 (some .boolean) 3 := ⟨cd_yX12_isQuestion, ⟨by decide, by decide⟩, by decide +kernel, in_RX12⟩
abbrev rm_X11_isAllowedByHandingDown : Room := { frames := 7, locals := 119, cells := 3, slots := 18 }
theorem k_X11_isAllowedByHandingDown : kY yX11_isAllowedByHandingDown cX11_isAllowedByHandingDown 4 (some .boolean) 3 := ⟨cd_yX11_isAllowedByHandingDown, ⟨by decide, by decide⟩, by decide +kernel, in_RX11⟩
abbrev rm_X2_grants : Room := { frames := 4, locals := 95, cells := 0, slots := 0 }
theorem k_X2_grants : kY yX2_grants cX2_grants 5 (some .boolean) 4 := ⟨cd_yX2_grants, ⟨by decide, by decide⟩, by decide +kernel, in_RX2⟩
abbrev rm_X2_handAllDown : Room := { frames := 3, locals := 68, cells := 0, slots := 0 }
theorem k_X2_handAllDown : kY yX2_handAllDown cX2_handAllDown 5 none 1 := ⟨cd_yX2_handAllDown, ⟨by decide, by decide⟩, by decide +kernel, in_RX2⟩
abbrev rm_X2_takeOwn : Room := { frames := 2, locals := 43, cells := 0, slots := 0 }
theorem k_X2_takeOwn : kY yX2_takeOwn cX2_takeOwn 5 none 2 := ⟨cd_yX2_takeOwn, ⟨by decide, by decide⟩, by decide +kernel, in_RX2⟩
abbrev rm_X2_putLast : Room := { frames := 1, locals := 21, cells := 0, slots := 0 }
theorem k_X2_putLast : kY yX2_putLast cX2_putLast 3 none 2 := ⟨cd_yX2_putLast, ⟨by decide, by decide⟩, by decide +kernel, in_RX2⟩
abbrev rm_X2_takeHanded : Room := { frames := 2, locals := 43, cells := 0, slots := 0 }
theorem k_X2_takeHanded : kY yX2_takeHanded cX2_takeHanded 6 none 3 := ⟨cd_yX2_takeHanded, ⟨by decide, by decide⟩, by decide +kernel, in_RX2⟩
abbrev rm_X2_lengthAt : Room := { frames := 1, locals := 21, cells := 0, slots := 0 }
theorem k_X2_lengthAt : kY yX2_lengthAt cX2_lengthAt 2 (some .int) 1 := ⟨cd_yX2_lengthAt, ⟨by decide, by decide⟩, by decide +kernel, in_RX2⟩
abbrev rm_X2_codeIn : Room := { frames := 1, locals := 21, cells := 0, slots := 0 }
theorem k_X2_codeIn : kY yX2_codeIn cX2_codeIn 3 (some .int) 2 := ⟨cd_yX2_codeIn, ⟨by decide, by decide⟩, by decide +kernel, in_RX2⟩
abbrev rm_X2_decider : Room := { frames := 3, locals := 67, cells := 0, slots := 0 }
theorem k_X2_decider : kY yX2_decider cX2_decider 9 (some .int) 4 := ⟨cd_yX2_decider, ⟨by decide, by decide⟩, by decide +kernel, in_RX2⟩
abbrev rm_X12_isAllowedByHandingDown : Room := { frames := 7, locals := 167, cells := 0, slots := 0 }
theorem k_X12_isAllowedByHandingDown : kY yX12_isAllowedByHandingDown cX12_isAllowedByHandingDown 4 (some .boolean) 3 := ⟨cd_yX12_isAllowedByHandingDown, ⟨by decide, by decide⟩, by decide +kernel, in_RX12⟩
abbrev rm_X11_rightsOf : Room := { frames := 7, locals := 124, cells := 2, slots := 12 }
theorem k_X11_rightsOf : kY yX11_rightsOf cX11_rightsOf 3 (some .int) 2 := ⟨cd_yX11_rightsOf, ⟨by decide, by decide⟩, by decide +kernel, in_RX11⟩
abbrev rm_X12_rightsOf : Room := { frames := 8, locals := 191, cells := 0, slots := 0 }
theorem k_X12_rightsOf : kY yX12_rightsOf cX12_rightsOf 3 (some .int) 2 := ⟨cd_yX12_rightsOf, ⟨by decide, by decide⟩, by decide +kernel, in_RX12⟩
abbrev rm_X11_decidingObject : Room := { frames := 7, locals := 123, cells := 3, slots := 18 }
theorem k_X11_decidingObject : kY yX11_decidingObject cX11_decidingObject 5 (some .int) 3 := ⟨cd_yX11_decidingObject, ⟨by decide, by decide⟩, by decide +kernel, in_RX11⟩
abbrev rm_X4_decidingPlace : Room := { frames := 4, locals := 99, cells := 0, slots := 0 }
theorem k_X4_decidingPlace : kY yX4_decidingPlace cX4_decidingPlace 5 (some .int) 4 := ⟨cd_yX4_decidingPlace, ⟨by decide, by decide⟩, by decide +kernel, in_RX4⟩
abbrev rm_X12_decidingObject : Room := { frames := 5, locals := 120, cells := 0, slots := 0 }
theorem k_X12_decidingObject : kY yX12_decidingObject cX12_decidingObject 5 (some .int) 3 := ⟨cd_yX12_decidingObject, ⟨by decide, by decide⟩, by decide +kernel, in_RX12⟩
abbrev rm_X11_decidingEntry : Room := { frames := 7, locals := 123, cells := 3, slots := 18 }
theorem k_X11_decidingEntry : kY yX11_decidingEntry cX11_decidingEntry 5 (some .int) 3 := ⟨cd_yX11_decidingEntry, ⟨by decide, by decide⟩, by decide +kernel, in_RX11⟩
abbrev rm_X12_decidingEntry : Room := { frames := 5, locals := 120, cells := 0, slots := 0 }
theorem k_X12_decidingEntry : kY yX12_decidingEntry cX12_decidingEntry 5 (some .int) 3 := ⟨cd_yX12_decidingEntry, ⟨by decide, by decide⟩, by decide +kernel, in_RX12⟩
abbrev rm_X11_isStoppedByMask : Room := { frames := 7, locals := 148, cells := 3, slots := 18 }
theorem k_X11_isStoppedByMask : kY yX11_isStoppedByMask cX11_isStoppedByMask 4 (some .boolean) 3 := ⟨cd_yX11_isStoppedByMask, ⟨by decide, by decide⟩, by decide +kernel, in_RX11⟩
abbrev rm_X4_isStopped : Room := { frames := 5, locals := 124, cells := 0, slots := 0 }
theorem k_X4_isStopped : kY yX4_isStopped cX4_isStopped 5 (some .boolean) 4 := ⟨cd_yX4_isStopped, ⟨by decide, by decide⟩, by decide +kernel, in_RX4⟩
abbrev rm_X12_isStoppedByMask : Room := { frames := 7, locals := 167, cells := 0, slots := 0 }
theorem k_X12_isStoppedByMask : kY yX12_isStoppedByMask cX12_isStoppedByMask 4 (some .boolean) 3 := ⟨cd_yX12_isStoppedByMask, ⟨by decide, by decide⟩, by decide +kernel, in_RX12⟩
abbrev rm_X11_usersWith : Room := { frames := 7, locals := 149, cells := 2, slots := 12 }
theorem k_X11_usersWith : kY yX11_usersWith cX11_usersWith 3 (some .int) 2 := ⟨cd_yX11_usersWith, ⟨by decide, by decide⟩, by decide +kernel, in_RX11⟩
abbrev rm_X4_countUsers : Room := { frames := 5, locals := 124, cells := 0, slots := 0 }
theorem k_X4_countUsers : kY yX4_countUsers cX4_countUsers 6 (some .int) 3 := ⟨cd_yX4_countUsers, ⟨by decide, by decide⟩, by decide +kernel, in_RX4⟩
abbrev rm_X12_usersWith : Room := { frames := 7, locals := 167, cells := 0, slots := 0 }
theorem k_X12_usersWith : kY yX12_usersWith cX12_usersWith 5 (some .int) 2 := ⟨cd_yX12_usersWith, ⟨by decide, by decide⟩, by decide +kernel, in_RX12⟩
abbrev rm_X11_rightsThrough : Room := { frames := 7, locals := 150, cells := 2, slots := 12 }
theorem k_X11_rightsThrough : kY yX11_rightsThrough cX11_rightsThrough 3 (some .int) 2 := ⟨cd_yX11_rightsThrough, ⟨by decide, by decide⟩, by decide +kernel, in_RX11⟩
abbrev rm_X4_countThrough : Room := { frames := 5, locals := 124, cells := 0, slots := 0 }
theorem k_X4_countThrough : kY yX4_countThrough cX4_countThrough 7 (some .int) 3 := ⟨cd_yX4_countThrough, ⟨by decide, by decide⟩, by decide +kernel, in_RX4⟩
abbrev rm_X4_decidedFor : Room := { frames := 1, locals := 20, cells := 0, slots := 0 }
theorem k_X4_decidedFor : kY yX4_decidedFor cX4_decidedFor 5 (some .int) 1 := ⟨cd_yX4_decidedFor, ⟨by decide, by decide⟩, by decide +kernel, in_RX4⟩
abbrev rm_X12_rightsThrough : Room := { frames := 8, locals := 194, cells := 0, slots := 0 }
theorem k_X12_rightsThrough : kY yX12_rightsThrough cX12_rightsThrough 5 (some .int) 2 := ⟨cd_yX12_rightsThrough, ⟨by decide, by decide⟩, by decide +kernel, in_RX12⟩
abbrev rm_X12_isThrough : Room := { frames := 7, locals := 167, cells := 0, slots := 0 }
theorem k_X12_isThrough : kY yX12_isThrough cX12_isThrough 8 (some .boolean) 4 := ⟨cd_yX12_isThrough, ⟨by decide, by decide⟩, by decide +kernel, in_RX12⟩
abbrev rm_X11_isNeedless : Room := { frames := 8, locals := 149, cells := 2, slots := 12 }
theorem k_X11_isNeedless : kY yX11_isNeedless cX11_isNeedless 5 (some .boolean) 2 := ⟨cd_yX11_isNeedless, ⟨by decide, by decide⟩, by decide +kernel, in_RX11⟩
abbrev rm_X12_isNeedless : Room := { frames := 9, locals := 215, cells := 0, slots := 0 }
theorem k_X12_isNeedless : kY yX12_isNeedless cX12_isNeedless 4 (some .boolean) 2 := ⟨cd_yX12_isNeedless, ⟨by decide, by decide⟩, by decide +kernel, in_RX12⟩
abbrev rm_X11_allRights : Room := { frames := 6, locals := 148, cells := 0, slots := 0 }
theorem k_X11_allRights : kY yX11_allRights cX11_allRights 1 (some .int) 0 := ⟨cd_yX11_allRights, ⟨by decide, by decide⟩, by decide +kernel, in_RX11⟩
abbrev rm_X4_countAll : Room := { frames := 5, locals := 124, cells := 0, slots := 0 }
theorem k_X4_countAll : kY yX4_countAll cX4_countAll 5 (some .int) 1 := ⟨cd_yX4_countAll, ⟨by decide, by decide⟩, by decide +kernel, in_RX4⟩
abbrev rm_X12_allRights : Room := { frames := 9, locals := 214, cells := 0, slots := 0 }
theorem k_X12_allRights : kY yX12_allRights cX12_allRights 1 (some .int) 0 := ⟨cd_yX12_allRights, ⟨by decide, by decide⟩, by decide +kernel, in_RX12⟩
abbrev rm_X12_everything : Room := { frames := 8, locals := 191, cells := 0, slots := 0 }
theorem k_X12_everything : kY yX12_everything cX12_everything 4 (some .int) 0 := ⟨cd_yX12_everything, ⟨by decide, by decide⟩, by decide +kernel, in_RX12⟩
abbrev rm_X12_size : Room := { frames := 1, locals := 21, cells := 0, slots := 0 }
theorem k_X12_size : kY yX12_size cX12_size 3 (some .int) 1 := ⟨cd_yX12_size, ⟨by decide, by decide⟩, by decide +kernel, in_RX12⟩
abbrev rm_X11_openness : Room := { frames := 6, locals := 148, cells := 0, slots := 0 }
theorem k_X11_openness : kY yX11_openness cX11_openness 2 (some .double) 0 := ⟨cd_yX11_openness, ⟨by decide, by decide⟩, by decide +kernel, in_RX11⟩
abbrev rm_X12_openness : Room := { frames := 9, locals := 214, cells := 0, slots := 0 }
theorem k_X12_openness : kY yX12_openness cX12_openness 3 (some .double) 0 := ⟨cd_yX12_openness, ⟨by decide, by decide⟩, by decide +kernel, in_RX12⟩
abbrev rm_X11_requests : Room := { frames := 0, locals := 0, cells := 0, slots := 0 }
theorem k_X11_requests : kY yX11_requests cX11_requests 1 (some .int) 0 := ⟨cd_yX11_requests, ⟨by decide, by decide⟩, by decide +kernel, in_RX11⟩
abbrev rm_X12_requests : Room := { frames := 0, locals := 0, cells := 0, slots := 0 }
theorem k_X12_requests : kY yX12_requests cX12_requests 1 (some .int) 0 := ⟨cd_yX12_requests, ⟨by decide, by decide⟩, by decide +kernel, in_RX12⟩
abbrev rm_X11_refusals : Room := { frames := 0, locals := 0, cells := 0, slots := 0 }
theorem k_X11_refusals : kY yX11_refusals cX11_refusals 1 (some .int) 0 := ⟨cd_yX11_refusals, ⟨by decide, by decide⟩, by decide +kernel, in_RX11⟩
abbrev rm_X12_refusals : Room := { frames := 0, locals := 0, cells := 0, slots := 0 }
theorem k_X12_refusals : kY yX12_refusals cX12_refusals 1 (some .int) 0 := ⟨cd_yX12_refusals, ⟨by decide, by decide⟩, by decide +kernel, in_RX12⟩
abbrev rm_X11_userOfRequest : Room := { frames := 7, locals := 111, cells := 1, slots := 6 }
theorem k_X11_userOfRequest : kY yX11_userOfRequest cX11_userOfRequest 2 (some .int) 1 := ⟨cd_yX11_userOfRequest, ⟨by decide, by decide⟩, by decide +kernel, in_RX11⟩
abbrev rm_X11_requireRequest : Room := { frames := 6, locals := 90, cells := 1, slots := 6 }
theorem k_X11_requireRequest : kY yX11_requireRequest cX11_requireRequest 2 none 1 := ⟨cd_yX11_requireRequest, ⟨by decide, by decide⟩, by decide +kernel, in_RX11⟩
abbrev rm_X7_countKept : Room := { frames := 1, locals := 21, cells := 0, slots := 0 }
theorem k_X7_countKept : kY yX7_countKept cX7_countKept 1 (some .int) 0 := ⟨cd_yX7_countKept, ⟨by decide, by decide⟩, by decide +kernel, in_RX7⟩
abbrev rm_X7_userAt : Room := { frames := 2, locals := 43, cells := 0, slots := 0 }
theorem k_X7_userAt : kY yX7_userAt cX7_userAt 2 (some .int) 1 := ⟨cd_yX7_userAt, ⟨by decide, by decide⟩, by decide +kernel, in_RX7⟩
abbrev rm_X12_userOfRequest : Room := { frames := 2, locals := 44, cells := 0, slots := 0 }
theorem k_X12_userOfRequest : kY yX12_userOfRequest cX12_userOfRequest 2 (some .int) 1 := ⟨cd_yX12_userOfRequest, ⟨by decide, by decide⟩, by decide +kernel, in_RX12⟩
abbrev rm_X12_logged : Room := { frames := 1, locals := 22, cells := 0, slots := 0 }
theorem k_X12_logged : kY yX12_logged cX12_logged 3 (some .int) 2 := ⟨cd_yX12_logged, ⟨by decide, by decide⟩, by decide +kernel, in_RX12⟩
abbrev rm_X11_objectOfRequest : Room := { frames := 7, locals := 111, cells := 1, slots := 6 }
theorem k_X11_objectOfRequest : kY yX11_objectOfRequest cX11_objectOfRequest 2 (some .int) 1 := ⟨cd_yX11_objectOfRequest, ⟨by decide, by decide⟩, by decide +kernel, in_RX11⟩
abbrev rm_X7_objectAt : Room := { frames := 2, locals := 43, cells := 0, slots := 0 }
theorem k_X7_objectAt : kY yX7_objectAt cX7_objectAt 2 (some .int) 1 := ⟨cd_yX7_objectAt, ⟨by decide, by decide⟩, by decide +kernel, in_RX7⟩
abbrev rm_X12_objectOfRequest : Room := { frames := 2, locals := 44, cells := 0, slots := 0 }
theorem k_X12_objectOfRequest : kY yX12_objectOfRequest cX12_objectOfRequest 2 (some .int) 1 := ⟨cd_yX12_objectOfRequest, ⟨by decide, by decide⟩, by decide +kernel, in_RX12⟩
abbrev rm_X11_wasAllowed : Room := { frames := 7, locals := 111, cells := 1, slots := 6 }
theorem k_X11_wasAllowed : kY yX11_wasAllowed cX11_wasAllowed 2 (some .boolean) 1 := ⟨cd_yX11_wasAllowed, ⟨by decide, by decide⟩, by decide +kernel, in_RX11⟩
abbrev rm_X7_wasGranted : Room := { frames := 2, locals := 43, cells := 0, slots := 0 }
theorem k_X7_wasGranted : kY yX7_wasGranted cX7_wasGranted 2 (some .boolean) 1 := ⟨cd_yX7_wasGranted, ⟨by decide, by decide⟩, by decide +kernel, in_RX7⟩
abbrev rm_X12_wasAllowed : Room := { frames := 2, locals := 44, cells := 0, slots := 0 }
theorem k_X12_wasAllowed : kY yX12_wasAllowed cX12_wasAllowed 2 (some .boolean) 1 := ⟨cd_yX12_wasAllowed, ⟨by decide, by decide⟩, by decide +kernel, in_RX12⟩
abbrev rm_X11_undo : Room := { frames := 6, locals := 111, cells := 1, slots := 6 }
theorem k_X11_undo : kY yX11_undo cX11_undo 1 (some .int) 0 := ⟨cd_yX11_undo, ⟨by decide, by decide⟩, by decide +kernel, in_RX11⟩
abbrev rm_X3_takeBack : Room := { frames := 3, locals := 90, cells := 0, slots := 0 }
theorem k_X3_takeBack : kY yX3_takeBack cX3_takeBack 2 none 1 := ⟨cd_yX3_takeBack, ⟨by decide, by decide⟩, by decide +kernel, in_RX3⟩
abbrev rm_X12_undo : Room := { frames := 1, locals := 21, cells := 0, slots := 0 }
theorem k_X12_undo : kY yX12_undo cX12_undo 2 (some .int) 0 := ⟨cd_yX12_undo, ⟨by decide, by decide⟩, by decide +kernel, in_RX12⟩
abbrev rm_X11_save : Room := { frames := 7, locals := 111, cells := 1, slots := 6 }
theorem k_X11_save : kY yX11_save cX11_save 3 (some .int) 1 := ⟨cd_yX11_save, ⟨by decide, by decide⟩, by decide +kernel, in_RX11⟩
abbrev rm_X11_requireSlot : Room := { frames := 6, locals := 90, cells := 1, slots := 6 }
theorem k_X11_requireSlot : kY yX11_requireSlot cX11_requireSlot 2 none 1 := ⟨cd_yX11_requireSlot, ⟨by decide, by decide⟩, by decide +kernel, in_RX11⟩
abbrev rm_X12_save : Room := { frames := 3, locals := 65, cells := 0, slots := 0 }
theorem k_X12_save : kY yX12_save cX12_save 3 (some .int) 1 := ⟨cd_yX12_save, ⟨by decide, by decide⟩, by decide +kernel, in_RX12⟩
abbrev rm_X11_restore : Room := { frames := 7, locals := 112, cells := 2, slots := 12 }
theorem k_X11_restore : kY yX11_restore cX11_restore 3 (some .int) 1 := ⟨cd_yX11_restore, ⟨by decide, by decide⟩, by decide +kernel, in_RX11⟩
abbrev rm_X12_restore : Room := { frames := 3, locals := 65, cells := 0, slots := 0 }
theorem k_X12_restore : kY yX12_restore cX12_restore 3 (some .int) 1 := ⟨cd_yX12_restore, ⟨by decide, by decide⟩, by decide +kernel, in_RX12⟩
theorem nl_RX11_9 : Cond.methodLinkNest RX11 9 yX9_init RX11 ∈ nestW := List.mem_of_getElem? (i := 0) rfl
theorem nl_RX9_11 : Cond.methodLinkNest RX9 11 yX0_init RX11 ∈ nestW := List.mem_of_getElem? (i := 1) rfl
theorem nl_RX9_27 : Cond.methodLinkNest RX9 27 yX6_init RX11 ∈ nestW := List.mem_of_getElem? (i := 2) rfl
theorem nl_RX9_34 : Cond.methodLinkNest RX9 34 yX7_init RX11 ∈ nestW := List.mem_of_getElem? (i := 3) rfl
theorem nl_RX3_24 : Cond.methodLinkNest RX3 24 yX9_init RX11 ∈ nestW := List.mem_of_getElem? (i := 4) rfl
theorem nl_RX11_29 : Cond.methodLinkNest RX11 29 yX4_init RX11 ∈ nestW := List.mem_of_getElem? (i := 5) rfl
theorem nl_RX11_36 : Cond.methodLinkNest RX11 36 yX2_init RX11 ∈ nestW := List.mem_of_getElem? (i := 6) rfl
theorem nl_RX11_43 : Cond.methodLinkNest RX11 43 yX8_init RX11 ∈ nestW := List.mem_of_getElem? (i := 7) rfl
theorem nl_RX11_50 : Cond.methodLinkNest RX11 50 yX5_init RX11 ∈ nestW := List.mem_of_getElem? (i := 8) rfl
theorem nl_RX5_75 : Cond.methodLinkNest RX5 75 yX11_isIndex RX11 ∈ nestW := List.mem_of_getElem? (i := 9) rfl
theorem nl_RX0_31 : Cond.methodLinkNest RX0 31 yX11_isIndex RX11 ∈ nestW := List.mem_of_getElem? (i := 10) rfl
theorem nl_RX0_35 : Cond.methodLinkNest RX0 35 yX11_has RX11 ∈ nestW := List.mem_of_getElem? (i := 11) rfl
theorem nl_RX6_24 : Cond.methodLinkNest RX6 24 yX11_isIndex RX11 ∈ nestW := List.mem_of_getElem? (i := 12) rfl
theorem nl_RX1_18 : Cond.methodLinkNest RX1 18 yX11_has RX11 ∈ nestW := List.mem_of_getElem? (i := 13) rfl
theorem nl_RX4_25 : Cond.methodLinkNest RX4 25 yX11_has RX11 ∈ nestW := List.mem_of_getElem? (i := 14) rfl
theorem nl_RX10_40 : Cond.methodLinkNest RX10 40 yX11_has RX11 ∈ nestW := List.mem_of_getElem? (i := 15) rfl
theorem nl_RX9_65 : Cond.methodLinkNest RX9 65 yX11_has RX11 ∈ nestW := List.mem_of_getElem? (i := 16) rfl
theorem nl_RX0_38 : Cond.methodLinkNest RX0 38 yX11_changed RX11 ∈ nestW := List.mem_of_getElem? (i := 17) rfl
theorem nl_RX10_44 : Cond.methodLinkNest RX10 44 yX11_changed RX11 ∈ nestW := List.mem_of_getElem? (i := 18) rfl
theorem nl_RX10_66 : Cond.methodLinkNest RX10 66 yX11_isIndex RX11 ∈ nestW := List.mem_of_getElem? (i := 19) rfl
theorem nl_RX7_38 : Cond.methodLinkNest RX7 38 yX11_changed RX11 ∈ nestW := List.mem_of_getElem? (i := 20) rfl
theorem nl_RX8_19 : Cond.methodLinkNest RX8 19 yX11_isIndex RX11 ∈ nestW := List.mem_of_getElem? (i := 21) rfl
theorem nl_RX5_121 : Cond.methodLinkNest RX5 121 yX11_has RX11 ∈ nestW := List.mem_of_getElem? (i := 22) rfl
theorem nl_RX2_99 : Cond.methodLinkNest RX2 99 yX11_changed RX11 ∈ nestW := List.mem_of_getElem? (i := 23) rfl
theorem nl_RX2_118 : Cond.methodLinkNest RX2 118 yX11_isIndex RX11 ∈ nestW := List.mem_of_getElem? (i := 24) rfl
theorem nl_RX2_67 : Cond.methodLinkNest RX2 67 yX11_has RX11 ∈ nestW := List.mem_of_getElem? (i := 25) rfl
theorem nl_RX4_58 : Cond.methodLinkNest RX4 58 yX11_isIndex RX11 ∈ nestW := List.mem_of_getElem? (i := 26) rfl
theorem nl_RX7_48 : Cond.methodLinkNest RX7 48 yX11_has RX11 ∈ nestW := List.mem_of_getElem? (i := 27) rfl
