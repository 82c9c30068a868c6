/-! every word that a row needs, by its name. wALL: the words of every contract (the good ones of the tables) -/
def wALL : List Cond := lw_tbl.filter goodWord
theorem wALL_tbl : ∀ w ∈ wALL, w ∈ lw_tbl := fun _ h => (List.mem_filter.mp h).1
theorem wALL_good : ∀ w ∈ wALL, goodWord w = true := fun _ h => (List.mem_filter.mp h).2
theorem tb_1 {w : Cond} (h : w ∈ tables_1_1) (g : goodWord w = true) : w ∈ wALL := List.mem_filter.mpr ⟨List.mem_append_right _ (List.mem_append_left _ h), g⟩
theorem tb_2 {w : Cond} (h : w ∈ tables_1_2) (g : goodWord w = true) : w ∈ wALL := List.mem_filter.mpr ⟨List.mem_append_right _ (List.mem_append_right _ (List.mem_append_left _ h)), g⟩
theorem tb_3 {w : Cond} (h : w ∈ tables_1_3) (g : goodWord w = true) : w ∈ wALL := List.mem_filter.mpr ⟨List.mem_append_right _ (List.mem_append_right _ (List.mem_append_right _ (List.mem_append_left _ h))), g⟩
theorem tb_4 {w : Cond} (h : w ∈ tables_1_4) (g : goodWord w = true) : w ∈ wALL := List.mem_filter.mpr ⟨List.mem_append_right _ (List.mem_append_right _ (List.mem_append_right _ (List.mem_append_right _ (List.mem_append_left _ h)))), g⟩
theorem tb_5 {w : Cond} (h : w ∈ tables_1_5) (g : goodWord w = true) : w ∈ wALL := List.mem_filter.mpr ⟨List.mem_append_right _ (List.mem_append_right _ (List.mem_append_right _ (List.mem_append_right _ (List.mem_append_right _ (List.mem_append_left _ h))))), g⟩
theorem tb_6 {w : Cond} (h : w ∈ tables_1_6) (g : goodWord w = true) : w ∈ wALL := List.mem_filter.mpr ⟨List.mem_append_right _ (List.mem_append_right _ (List.mem_append_right _ (List.mem_append_right _ (List.mem_append_right _ (List.mem_append_right _ (List.mem_append_left _ h)))))), g⟩
theorem tb_7 {w : Cond} (h : w ∈ tables_1_7) (g : goodWord w = true) : w ∈ wALL := List.mem_filter.mpr ⟨List.mem_append_right _ (List.mem_append_right _ (List.mem_append_right _ (List.mem_append_right _ (List.mem_append_right _ (List.mem_append_right _ (List.mem_append_right _ (List.mem_append_left _ h))))))), g⟩
theorem tb_8 {w : Cond} (h : w ∈ tables_1_8) (g : goodWord w = true) : w ∈ wALL := List.mem_filter.mpr ⟨List.mem_append_right _ (List.mem_append_right _ (List.mem_append_right _ (List.mem_append_right _ (List.mem_append_right _ (List.mem_append_right _ (List.mem_append_right _ (List.mem_append_right _ (h)))))))), g⟩
theorem tp_1 {y : MethodName} {n : Nat} (h : (y, n) ∈ lw_privs_1) (g : goodWord (.selects y.cls y y) = true) : Cond.selects y.cls y y ∈ wALL := List.mem_filter.mpr ⟨List.mem_append_left _ (List.mem_map.mpr ⟨(y, n), List.mem_append_left _ h, rfl⟩), g⟩
theorem tp_2 {y : MethodName} {n : Nat} (h : (y, n) ∈ lw_privs_2) (g : goodWord (.selects y.cls y y) = true) : Cond.selects y.cls y y ∈ wALL := List.mem_filter.mpr ⟨List.mem_append_left _ (List.mem_map.mpr ⟨(y, n), List.mem_append_right _ (List.mem_append_left _ h), rfl⟩), g⟩
theorem tp_3 {y : MethodName} {n : Nat} (h : (y, n) ∈ lw_privs_3) (g : goodWord (.selects y.cls y y) = true) : Cond.selects y.cls y y ∈ wALL := List.mem_filter.mpr ⟨List.mem_append_left _ (List.mem_map.mpr ⟨(y, n), List.mem_append_right _ (List.mem_append_right _ (List.mem_append_left _ h)), rfl⟩), g⟩
theorem tp_4 {y : MethodName} {n : Nat} (h : (y, n) ∈ lw_privs_4) (g : goodWord (.selects y.cls y y) = true) : Cond.selects y.cls y y ∈ wALL := List.mem_filter.mpr ⟨List.mem_append_left _ (List.mem_map.mpr ⟨(y, n), List.mem_append_right _ (List.mem_append_right _ (List.mem_append_right _ (List.mem_append_left _ h))), rfl⟩), g⟩
theorem tp_5 {y : MethodName} {n : Nat} (h : (y, n) ∈ lw_privs_5) (g : goodWord (.selects y.cls y y) = true) : Cond.selects y.cls y y ∈ wALL := List.mem_filter.mpr ⟨List.mem_append_left _ (List.mem_map.mpr ⟨(y, n), List.mem_append_right _ (List.mem_append_right _ (List.mem_append_right _ (List.mem_append_right _ (h)))), rfl⟩), g⟩
theorem cl_RL_8 : Cond.classLink RL 8 RX11 ∈ wALL := tb_1 (List.mem_of_getElem? (i := 28) rfl) rfl
theorem ia_RX11 : Cond.instantiable RX11 7 ∈ wALL := tb_1 (List.mem_of_getElem? (i := 29) rfl) rfl
theorem in_RX11 : Cond.initialized RX11 ∈ wALL := tb_1 (List.mem_of_getElem? (i := 1) rfl) rfl
theorem cl_RL_192 : Cond.classLink RL 192 RX12 ∈ wALL := tb_6 (List.mem_of_getElem? (i := 171) rfl) rfl
theorem ia_RX12 : Cond.instantiable RX12 15 ∈ wALL := tb_6 (List.mem_of_getElem? (i := 172) rfl) rfl
theorem in_RX12 : Cond.initialized RX12 ∈ wALL := tb_1 (List.mem_of_getElem? (i := 12) rfl) rfl
theorem ac__long : Cond.arrayClass .long ∈ wALL := tb_8 (List.mem_of_getElem? (i := 217) rfl) rfl
theorem ml_RL_191 : Cond.methodLink RL 191 yX11_init ∈ wALL := tb_1 (List.mem_of_getElem? (i := 30) rfl) rfl
theorem im_yX11_init : Cond.instanceMethod yX11_init ∈ wALL := tb_1 (List.mem_of_getElem? (i := 31) rfl) rfl
theorem cd_yX11_init : Cond.code yX11_init cX11_init 1 none ∈ wALL := tb_1 (List.mem_of_getElem? (i := 32) rfl) rfl
theorem ml_RX11_1 : Cond.methodLink RX11 1 objectInit ∈ wALL := tb_1 (List.mem_of_getElem? (i := 33) rfl) rfl
theorem im_objectInit : Cond.instanceMethod objectInit ∈ wALL := tb_1 (List.mem_of_getElem? (i := 34) rfl) rfl
theorem cd_objectInit : Cond.code objectInit ⟨#[0xb1]⟩ 1 none ∈ wALL := tb_1 (List.mem_of_getElem? (i := 35) rfl) rfl
theorem cl_RX11_7 : Cond.classLink RX11 7 RX9 ∈ wALL := tb_1 (List.mem_of_getElem? (i := 36) rfl) rfl
theorem ia_RX9 : Cond.instantiable RX9 4 ∈ wALL := tb_1 (List.mem_of_getElem? (i := 37) rfl) rfl
theorem in_RX9 : Cond.initialized RX9 ∈ wALL := tb_1 (List.mem_of_getElem? (i := 2) rfl) rfl
theorem fl_RX11_10 : Cond.fieldLink RX11 10 "PermissionDesk" "now" "LPermissionDesk$State;" ∈ wALL := tb_1 (List.mem_of_getElem? (i := 238) rfl) rfl
theorem cl_RX11_16 : Cond.classLink RX11 16 RX3 ∈ wALL := tb_1 (List.mem_of_getElem? (i := 149) rfl) rfl
theorem ia_RX3 : Cond.instantiable RX3 3 ∈ wALL := tb_1 (List.mem_of_getElem? (i := 150) rfl) rfl
theorem in_RX3 : Cond.initialized RX3 ∈ wALL := tb_1 (List.mem_of_getElem? (i := 7) rfl) rfl
theorem fl_RX11_19 : Cond.fieldLink RX11 19 "PermissionDesk" "history" "LPermissionDesk$History;" ∈ wALL := tb_1 (List.mem_of_getElem? (i := 239) rfl) rfl
theorem fl_RX11_23 : Cond.fieldLink RX11 23 "PermissionDesk" "slots" "[LPermissionDesk$State;" ∈ wALL := tb_2 (List.mem_of_getElem? (i := 0) rfl) rfl
theorem cl_RX11_27 : Cond.classLink RX11 27 RX4 ∈ wALL := tb_1 (List.mem_of_getElem? (i := 169) rfl) rfl
theorem ia_RX4 : Cond.instantiable RX4 3 ∈ wALL := tb_1 (List.mem_of_getElem? (i := 170) rfl) rfl
theorem in_RX4 : Cond.initialized RX4 ∈ wALL := tb_1 (List.mem_of_getElem? (i := 8) rfl) rfl
theorem fl_RX11_30 : Cond.fieldLink RX11 30 "PermissionDesk" "judge" "LPermissionDesk$Judge;" ∈ wALL := tb_2 (List.mem_of_getElem? (i := 1) rfl) rfl
theorem cl_RX11_34 : Cond.classLink RX11 34 RX2 ∈ wALL := tb_1 (List.mem_of_getElem? (i := 185) rfl) rfl
theorem ia_RX2 : Cond.instantiable RX2 3 ∈ wALL := tb_1 (List.mem_of_getElem? (i := 186) rfl) rfl
theorem in_RX2 : Cond.initialized RX2 ∈ wALL := tb_1 (List.mem_of_getElem? (i := 9) rfl) rfl
theorem fl_RX11_37 : Cond.fieldLink RX11 37 "PermissionDesk" "handing" "LPermissionDesk$Handing;" ∈ wALL := tb_2 (List.mem_of_getElem? (i := 2) rfl) rfl
theorem cl_RX11_41 : Cond.classLink RX11 41 RX8 ∈ wALL := tb_1 (List.mem_of_getElem? (i := 201) rfl) rfl
theorem ia_RX8 : Cond.instantiable RX8 2 ∈ wALL := tb_1 (List.mem_of_getElem? (i := 202) rfl) rfl
theorem in_RX8 : Cond.initialized RX8 ∈ wALL := tb_1 (List.mem_of_getElem? (i := 10) rfl) rfl
theorem fl_RX11_44 : Cond.fieldLink RX11 44 "PermissionDesk" "pad" "LPermissionDesk$Pad;" ∈ wALL := tb_2 (List.mem_of_getElem? (i := 3) rfl) rfl
theorem cl_RX11_48 : Cond.classLink RX11 48 RX5 ∈ wALL := tb_1 (List.mem_of_getElem? (i := 216) rfl) rfl
theorem ia_RX5 : Cond.instantiable RX5 4 ∈ wALL := tb_1 (List.mem_of_getElem? (i := 217) rfl) rfl
theorem in_RX5 : Cond.initialized RX5 ∈ wALL := tb_1 (List.mem_of_getElem? (i := 11) rfl) rfl
theorem fl_RX11_51 : Cond.fieldLink RX11 51 "PermissionDesk" "text" "LPermissionDesk$ListText;" ∈ wALL := tb_2 (List.mem_of_getElem? (i := 4) rfl) rfl
theorem im_yX9_init : Cond.instanceMethod yX9_init ∈ wALL := tb_1 (List.mem_of_getElem? (i := 39) rfl) rfl
theorem cd_yX9_init : Cond.code yX9_init cX9_init 1 none ∈ wALL := tb_1 (List.mem_of_getElem? (i := 40) rfl) rfl
theorem ml_RX9_3 : Cond.methodLink RX9 3 objectInit ∈ wALL := tb_1 (List.mem_of_getElem? (i := 41) rfl) rfl
theorem cl_RX9_9 : Cond.classLink RX9 9 RX0 ∈ wALL := tb_1 (List.mem_of_getElem? (i := 42) rfl) rfl
theorem ia_RX0 : Cond.instantiable RX0 4 ∈ wALL := tb_1 (List.mem_of_getElem? (i := 43) rfl) rfl
theorem in_RX0 : Cond.initialized RX0 ∈ wALL := tb_1 (List.mem_of_getElem? (i := 3) rfl) rfl
theorem fl_RX9_12 : Cond.fieldLink RX9 12 "PermissionDesk$State" "club" "LPermissionDesk$Club;" ∈ wALL := tb_1 (List.mem_of_getElem? (i := 124) rfl) rfl
theorem cl_RX9_18 : Cond.classLink RX9 18 RX10 ∈ wALL := tb_1 (List.mem_of_getElem? (i := 65) rfl) rfl
theorem ia_RX10 : Cond.instantiable RX10 5 ∈ wALL := tb_1 (List.mem_of_getElem? (i := 66) rfl) rfl
theorem in_RX10 : Cond.initialized RX10 ∈ wALL := tb_1 (List.mem_of_getElem? (i := 4) rfl) rfl
theorem fl_RX9_21 : Cond.fieldLink RX9 21 "PermissionDesk$State" "tree" "LPermissionDesk$Tree;" ∈ wALL := tb_1 (List.mem_of_getElem? (i := 129) rfl) rfl
theorem cl_RX9_25 : Cond.classLink RX9 25 RX6 ∈ wALL := tb_1 (List.mem_of_getElem? (i := 87) rfl) rfl
theorem ia_RX6 : Cond.instantiable RX6 2 ∈ wALL := tb_1 (List.mem_of_getElem? (i := 88) rfl) rfl
theorem in_RX6 : Cond.initialized RX6 ∈ wALL := tb_1 (List.mem_of_getElem? (i := 5) rfl) rfl
theorem fl_RX9_28 : Cond.fieldLink RX9 28 "PermissionDesk$State" "lists" "LPermissionDesk$Lists;" ∈ wALL := tb_1 (List.mem_of_getElem? (i := 134) rfl) rfl
theorem cl_RX9_32 : Cond.classLink RX9 32 RX7 ∈ wALL := tb_1 (List.mem_of_getElem? (i := 100) rfl) rfl
theorem ia_RX7 : Cond.instantiable RX7 5 ∈ wALL := tb_1 (List.mem_of_getElem? (i := 101) rfl) rfl
theorem in_RX7 : Cond.initialized RX7 ∈ wALL := tb_1 (List.mem_of_getElem? (i := 6) rfl) rfl
theorem fl_RX9_35 : Cond.fieldLink RX9 35 "PermissionDesk$State" "log" "LPermissionDesk$Log;" ∈ wALL := tb_1 (List.mem_of_getElem? (i := 138) rfl) rfl
theorem im_yX0_init : Cond.instanceMethod yX0_init ∈ wALL := tb_1 (List.mem_of_getElem? (i := 45) rfl) rfl
theorem cd_yX0_init : Cond.code yX0_init cX0_init 1 none ∈ wALL := tb_1 (List.mem_of_getElem? (i := 46) rfl) rfl
theorem ml_RX0_3 : Cond.methodLink RX0 3 objectInit ∈ wALL := tb_1 (List.mem_of_getElem? (i := 47) rfl) rfl
theorem fl_RX0_9 : Cond.fieldLink RX0 9 "PermissionDesk$Club" "users" "I" ∈ wALL := tb_1 (List.mem_of_getElem? (i := 48) rfl) rfl
theorem fl_RX0_15 : Cond.fieldLink RX0 15 "PermissionDesk$Club" "groups" "I" ∈ wALL := tb_1 (List.mem_of_getElem? (i := 51) rfl) rfl
theorem ac__int : Cond.arrayClass .int ∈ wALL := tb_1 (List.mem_of_getElem? (i := 64) rfl) rfl
theorem fl_RX0_18 : Cond.fieldLink RX0 18 "PermissionDesk$Club" "groupsOfUser" "[I" ∈ wALL := tb_1 (List.mem_of_getElem? (i := 53) rfl) rfl
theorem fl_RX0_22 : Cond.fieldLink RX0 22 "PermissionDesk$Club" "outersOfGroup" "[I" ∈ wALL := tb_1 (List.mem_of_getElem? (i := 54) rfl) rfl
theorem ml_RX9_20 : Cond.methodLink RX9 20 yX10_init ∈ wALL := tb_1 (List.mem_of_getElem? (i := 67) rfl) rfl
theorem im_yX10_init : Cond.instanceMethod yX10_init ∈ wALL := tb_1 (List.mem_of_getElem? (i := 68) rfl) rfl
theorem cd_yX10_init : Cond.code yX10_init cX10_init 1 none ∈ wALL := tb_1 (List.mem_of_getElem? (i := 69) rfl) rfl
theorem ml_RX10_3 : Cond.methodLink RX10 3 objectInit ∈ wALL := tb_1 (List.mem_of_getElem? (i := 70) rfl) rfl
theorem fl_RX10_9 : Cond.fieldLink RX10 9 "PermissionDesk$Tree" "there" "I" ∈ wALL := tb_1 (List.mem_of_getElem? (i := 71) rfl) rfl
theorem fl_RX10_15 : Cond.fieldLink RX10 15 "PermissionDesk$Tree" "inheriting" "I" ∈ wALL := tb_1 (List.mem_of_getElem? (i := 72) rfl) rfl
theorem fl_RX10_18 : Cond.fieldLink RX10 18 "PermissionDesk$Tree" "parents" "[I" ∈ wALL := tb_1 (List.mem_of_getElem? (i := 73) rfl) rfl
theorem fl_RX10_22 : Cond.fieldLink RX10 22 "PermissionDesk$Tree" "owners" "[I" ∈ wALL := tb_1 (List.mem_of_getElem? (i := 74) rfl) rfl
theorem fl_RX10_25 : Cond.fieldLink RX10 25 "PermissionDesk$Tree" "masks" "[I" ∈ wALL := tb_1 (List.mem_of_getElem? (i := 75) rfl) rfl
theorem im_yX6_init : Cond.instanceMethod yX6_init ∈ wALL := tb_1 (List.mem_of_getElem? (i := 90) rfl) rfl
theorem cd_yX6_init : Cond.code yX6_init cX6_init 1 none ∈ wALL := tb_1 (List.mem_of_getElem? (i := 91) rfl) rfl
theorem ml_RX6_3 : Cond.methodLink RX6 3 objectInit ∈ wALL := tb_1 (List.mem_of_getElem? (i := 92) rfl) rfl
theorem fl_RX6_9 : Cond.fieldLink RX6 9 "PermissionDesk$Lists" "counts" "[I" ∈ wALL := tb_1 (List.mem_of_getElem? (i := 93) rfl) rfl
theorem fl_RX6_15 : Cond.fieldLink RX6 15 "PermissionDesk$Lists" "entries" "[I" ∈ wALL := tb_1 (List.mem_of_getElem? (i := 94) rfl) rfl
theorem im_yX7_init : Cond.instanceMethod yX7_init ∈ wALL := tb_1 (List.mem_of_getElem? (i := 103) rfl) rfl
theorem cd_yX7_init : Cond.code yX7_init cX7_init 1 none ∈ wALL := tb_1 (List.mem_of_getElem? (i := 104) rfl) rfl
theorem ml_RX7_3 : Cond.methodLink RX7 3 objectInit ∈ wALL := tb_1 (List.mem_of_getElem? (i := 105) rfl) rfl
theorem fl_RX7_9 : Cond.fieldLink RX7 9 "PermissionDesk$Log" "requests" "I" ∈ wALL := tb_1 (List.mem_of_getElem? (i := 106) rfl) rfl
theorem fl_RX7_15 : Cond.fieldLink RX7 15 "PermissionDesk$Log" "refusals" "I" ∈ wALL := tb_1 (List.mem_of_getElem? (i := 108) rfl) rfl
theorem fl_RX7_18 : Cond.fieldLink RX7 18 "PermissionDesk$Log" "granted" "I" ∈ wALL := tb_1 (List.mem_of_getElem? (i := 110) rfl) rfl
theorem fl_RX7_21 : Cond.fieldLink RX7 21 "PermissionDesk$Log" "users" "[I" ∈ wALL := tb_1 (List.mem_of_getElem? (i := 111) rfl) rfl
theorem fl_RX7_25 : Cond.fieldLink RX7 25 "PermissionDesk$Log" "objects" "[I" ∈ wALL := tb_1 (List.mem_of_getElem? (i := 112) rfl) rfl
theorem ml_RX11_18 : Cond.methodLink RX11 18 yX3_init ∈ wALL := tb_1 (List.mem_of_getElem? (i := 151) rfl) rfl
theorem im_yX3_init : Cond.instanceMethod yX3_init ∈ wALL := tb_1 (List.mem_of_getElem? (i := 152) rfl) rfl
theorem cd_yX3_init : Cond.code yX3_init cX3_init 2 none ∈ wALL := tb_1 (List.mem_of_getElem? (i := 153) rfl) rfl
theorem ml_RX3_3 : Cond.methodLink RX3 3 objectInit ∈ wALL := tb_1 (List.mem_of_getElem? (i := 154) rfl) rfl
theorem fl_RX3_9 : Cond.fieldLink RX3 9 "PermissionDesk$History" "kept" "I" ∈ wALL := tb_1 (List.mem_of_getElem? (i := 158) rfl) rfl
theorem fl_RX3_15 : Cond.fieldLink RX3 15 "PermissionDesk$History" "oldest" "I" ∈ wALL := tb_1 (List.mem_of_getElem? (i := 160) rfl) rfl
theorem cl_RX3_18 : Cond.classLink RX3 18 RX9 ∈ wALL := tb_1 (List.mem_of_getElem? (i := 155) rfl) rfl
theorem fl_RX3_20 : Cond.fieldLink RX3 20 "PermissionDesk$History" "rows" "[LPermissionDesk$State;" ∈ wALL := tb_1 (List.mem_of_getElem? (i := 161) rfl) rfl
theorem im_yX4_init : Cond.instanceMethod yX4_init ∈ wALL := tb_1 (List.mem_of_getElem? (i := 172) rfl) rfl
theorem cd_yX4_init : Cond.code yX4_init cX4_init 1 none ∈ wALL := tb_1 (List.mem_of_getElem? (i := 173) rfl) rfl
theorem ml_RX4_3 : Cond.methodLink RX4 3 objectInit ∈ wALL := tb_1 (List.mem_of_getElem? (i := 174) rfl) rfl
theorem fl_RX4_9 : Cond.fieldLink RX4 9 "PermissionDesk$Judge" "places" "[I" ∈ wALL := tb_1 (List.mem_of_getElem? (i := 175) rfl) rfl
theorem fl_RX4_15 : Cond.fieldLink RX4 15 "PermissionDesk$Judge" "deciders" "[I" ∈ wALL := tb_1 (List.mem_of_getElem? (i := 176) rfl) rfl
theorem fl_RX4_18 : Cond.fieldLink RX4 18 "PermissionDesk$Judge" "table" "[I" ∈ wALL := tb_1 (List.mem_of_getElem? (i := 177) rfl) rfl
theorem im_yX2_init : Cond.instanceMethod yX2_init ∈ wALL := tb_1 (List.mem_of_getElem? (i := 188) rfl) rfl
theorem cd_yX2_init : Cond.code yX2_init cX2_init 1 none ∈ wALL := tb_1 (List.mem_of_getElem? (i := 189) rfl) rfl
theorem ml_RX2_3 : Cond.methodLink RX2 3 objectInit ∈ wALL := tb_1 (List.mem_of_getElem? (i := 190) rfl) rfl
theorem fl_RX2_9 : Cond.fieldLink RX2 9 "PermissionDesk$Handing" "reached" "I" ∈ wALL := tb_1 (List.mem_of_getElem? (i := 191) rfl) rfl
theorem fl_RX2_15 : Cond.fieldLink RX2 15 "PermissionDesk$Handing" "lengths" "[I" ∈ wALL := tb_1 (List.mem_of_getElem? (i := 192) rfl) rfl
theorem fl_RX2_19 : Cond.fieldLink RX2 19 "PermissionDesk$Handing" "lists" "[I" ∈ wALL := tb_1 (List.mem_of_getElem? (i := 193) rfl) rfl
theorem im_yX8_init : Cond.instanceMethod yX8_init ∈ wALL := tb_1 (List.mem_of_getElem? (i := 204) rfl) rfl
theorem cd_yX8_init : Cond.code yX8_init cX8_init 1 none ∈ wALL := tb_1 (List.mem_of_getElem? (i := 205) rfl) rfl
theorem ml_RX8_3 : Cond.methodLink RX8 3 objectInit ∈ wALL := tb_1 (List.mem_of_getElem? (i := 206) rfl) rfl
theorem fl_RX8_9 : Cond.fieldLink RX8 9 "PermissionDesk$Pad" "length" "I" ∈ wALL := tb_1 (List.mem_of_getElem? (i := 207) rfl) rfl
theorem fl_RX8_15 : Cond.fieldLink RX8 15 "PermissionDesk$Pad" "signs" "[I" ∈ wALL := tb_1 (List.mem_of_getElem? (i := 210) rfl) rfl
theorem im_yX5_init : Cond.instanceMethod yX5_init ∈ wALL := tb_1 (List.mem_of_getElem? (i := 219) rfl) rfl
theorem cd_yX5_init : Cond.code yX5_init cX5_init 1 none ∈ wALL := tb_1 (List.mem_of_getElem? (i := 220) rfl) rfl
theorem ml_RX5_3 : Cond.methodLink RX5 3 objectInit ∈ wALL := tb_1 (List.mem_of_getElem? (i := 221) rfl) rfl
theorem fl_RX5_9 : Cond.fieldLink RX5 9 "PermissionDesk$ListText" "at" "I" ∈ wALL := tb_1 (List.mem_of_getElem? (i := 222) rfl) rfl
theorem fl_RX5_15 : Cond.fieldLink RX5 15 "PermissionDesk$ListText" "object" "I" ∈ wALL := tb_1 (List.mem_of_getElem? (i := 224) rfl) rfl
theorem fl_RX5_18 : Cond.fieldLink RX5 18 "PermissionDesk$ListText" "count" "I" ∈ wALL := tb_1 (List.mem_of_getElem? (i := 226) rfl) rfl
theorem fl_RX5_21 : Cond.fieldLink RX5 21 "PermissionDesk$ListText" "entries" "[I" ∈ wALL := tb_1 (List.mem_of_getElem? (i := 228) rfl) rfl
theorem ml_RL_194 : Cond.methodLink RL 194 yX12_init ∈ wALL := tb_6 (List.mem_of_getElem? (i := 173) rfl) rfl
theorem im_yX12_init : Cond.instanceMethod yX12_init ∈ wALL := tb_6 (List.mem_of_getElem? (i := 174) rfl) rfl
theorem cd_yX12_init : Cond.code yX12_init cX12_init 1 none ∈ wALL := tb_6 (List.mem_of_getElem? (i := 175) rfl) rfl
theorem ml_RX12_1 : Cond.methodLink RX12 1 objectInit ∈ wALL := tb_6 (List.mem_of_getElem? (i := 176) rfl) rfl
theorem fl_RX12_7 : Cond.fieldLink RX12 7 "PermissionDeskModel" "s" "[I" ∈ wALL := tb_6 (List.mem_of_getElem? (i := 184) rfl) rfl
theorem fl_RX12_13 : Cond.fieldLink RX12 13 "PermissionDeskModel" "past" "[I" ∈ wALL := tb_6 (List.mem_of_getElem? (i := 185) rfl) rfl
theorem fl_RX12_16 : Cond.fieldLink RX12 16 "PermissionDeskModel" "slots" "[I" ∈ wALL := tb_6 (List.mem_of_getElem? (i := 186) rfl) rfl
theorem ac__boolean : Cond.arrayClass .boolean ∈ wALL := tb_6 (List.mem_of_getElem? (i := 230) rfl) rfl
theorem fl_RX12_19 : Cond.fieldLink RX12 19 "PermissionDeskModel" "filled" "[Z" ∈ wALL := tb_6 (List.mem_of_getElem? (i := 187) rfl) rfl
theorem fl_RX12_23 : Cond.fieldLink RX12 23 "PermissionDeskModel" "pad" "[I" ∈ wALL := tb_6 (List.mem_of_getElem? (i := 190) rfl) rfl
theorem fl_RX12_26 : Cond.fieldLink RX12 26 "PermissionDeskModel" "was" "[I" ∈ wALL := tb_6 (List.mem_of_getElem? (i := 192) rfl) rfl
theorem fl_RX12_29 : Cond.fieldLink RX12 29 "PermissionDeskModel" "one" "[I" ∈ wALL := tb_6 (List.mem_of_getElem? (i := 193) rfl) rfl
theorem fl_RX12_32 : Cond.fieldLink RX12 32 "PermissionDeskModel" "part" "[I" ∈ wALL := tb_6 (List.mem_of_getElem? (i := 198) rfl) rfl
theorem ml_RX12_35 : Cond.methodLink RX12 35 yX12_founds ∈ wALL := tb_6 (List.mem_of_getElem? (i := 177) rfl) rfl
theorem im_yX12_founds : Cond.instanceMethod yX12_founds ∈ wALL := tb_6 (List.mem_of_getElem? (i := 179) rfl) rfl
theorem se_yX12_founds : Cond.selects RX12 yX12_founds yX12_founds ∈ wALL := tp_3 (n := 15) (List.mem_of_getElem? (i := 1) rfl) rfl
theorem cd_yX12_founds : Cond.code yX12_founds cX12_founds 5 none ∈ wALL := tb_6 (List.mem_of_getElem? (i := 180) rfl) rfl
theorem ml_RX12_50 : Cond.methodLink RX12 50 yX12_at ∈ wALL := tb_6 (List.mem_of_getElem? (i := 181) rfl) rfl
theorem st_yX12_at : Cond.static yX12_at ∈ wALL := tb_6 (List.mem_of_getElem? (i := 182) rfl) rfl
theorem cd_yX12_at : Cond.code yX12_at cX12_at 2 (some .int) ∈ wALL := tb_6 (List.mem_of_getElem? (i := 183) rfl) rfl
theorem ml_RL_195 : Cond.methodLink RL 195 yL_addUser ∈ wALL := tb_3 (List.mem_of_getElem? (i := 25) rfl) rfl
theorem st_yL_addUser : Cond.static yL_addUser ∈ wALL := tb_3 (List.mem_of_getElem? (i := 26) rfl) rfl
theorem in_RL : Cond.initialized RL ∈ wALL := tb_1 (List.mem_of_getElem? (i := 0) rfl) rfl
theorem cw_yL_addUser : Cond.codeWith yL_addUser cL_addUser 3 (some .int) [(0, 8, 11, 13)] ∈ wALL := tb_3 (List.mem_of_getElem? (i := 27) rfl) rfl
theorem cl_RL_13 : Cond.classLink RL 13 "java/lang/IllegalStateException" ∈ wALL := tb_3 (List.mem_of_getElem? (i := 28) rfl) rfl
theorem ml_RL_7 : Cond.methodLink RL 7 yX11_addUser ∈ wALL := tb_3 (List.mem_of_getElem? (i := 29) rfl) rfl
theorem im_yX11_addUser : Cond.instanceMethod yX11_addUser ∈ wALL := tb_3 (List.mem_of_getElem? (i := 30) rfl) rfl
theorem se_yX11_addUser : Cond.selects RX11 yX11_addUser yX11_addUser ∈ wALL := tb_3 (List.mem_of_getElem? (i := 31) rfl) rfl
theorem cd_yX11_addUser : Cond.code yX11_addUser cX11_addUser 1 (some .int) ∈ wALL := tb_3 (List.mem_of_getElem? (i := 32) rfl) rfl
theorem cl_RX11_65 : Cond.classLink RX11 65 "java/lang/IllegalStateException" ∈ wALL := tb_3 (List.mem_of_getElem? (i := 33) rfl) rfl
theorem in_java_lang_IllegalStateException : Cond.initialized "java/lang/IllegalStateException" ∈ wALL := tb_1 (List.mem_of_getElem? (i := 16) rfl) rfl
theorem fl_RX11_55 : Cond.fieldLink RX11 55 "PermissionDesk$State" "club" "LPermissionDesk$Club;" ∈ wALL := tb_1 (List.mem_of_getElem? (i := 125) rfl) rfl
theorem fl_RX11_59 : Cond.fieldLink RX11 59 "PermissionDesk$Club" "users" "I" ∈ wALL := tb_1 (List.mem_of_getElem? (i := 49) rfl) rfl
theorem ml_RX11_72 : Cond.methodLink RX11 72 yX3_keep ∈ wALL := tb_3 (List.mem_of_getElem? (i := 100) rfl) rfl
theorem im_yX3_keep : Cond.instanceMethod yX3_keep ∈ wALL := tb_3 (List.mem_of_getElem? (i := 101) rfl) rfl
theorem se_yX3_keep : Cond.selects RX3 yX3_keep yX3_keep ∈ wALL := tb_3 (List.mem_of_getElem? (i := 102) rfl) rfl
theorem cd_yX3_keep : Cond.code yX3_keep cX3_keep 3 none ∈ wALL := tb_3 (List.mem_of_getElem? (i := 103) rfl) rfl
theorem ml_RX3_25 : Cond.methodLink RX3 25 yJ9_floorMod_7cf53 ∈ wALL := tb_3 (List.mem_of_getElem? (i := 104) rfl) rfl
theorem st_yJ9_floorMod_7cf53 : Cond.static yJ9_floorMod_7cf53 ∈ wALL := tb_3 (List.mem_of_getElem? (i := 105) rfl) rfl
theorem in_RJ9 : Cond.initialized RJ9 ∈ wALL := tb_1 (List.mem_of_getElem? (i := 17) rfl) rfl
theorem cd_yJ9_floorMod_7cf53 : Cond.code yJ9_floorMod_7cf53 cJ9_floorMod_7cf53 3 (some .int) ∈ wALL := tb_3 (List.mem_of_getElem? (i := 106) rfl) rfl
theorem ml_RX3_31 : Cond.methodLink RX3 31 yX9_copyFrom ∈ wALL := tb_3 (List.mem_of_getElem? (i := 107) rfl) rfl
theorem im_yX9_copyFrom : Cond.instanceMethod yX9_copyFrom ∈ wALL := tb_3 (List.mem_of_getElem? (i := 108) rfl) rfl
theorem se_yX9_copyFrom : Cond.selects RX9 yX9_copyFrom yX9_copyFrom ∈ wALL := tb_3 (List.mem_of_getElem? (i := 109) rfl) rfl
theorem cd_yX9_copyFrom : Cond.code yX9_copyFrom cX9_copyFrom 2 none ∈ wALL := tb_3 (List.mem_of_getElem? (i := 110) rfl) rfl
theorem ml_RX9_39 : Cond.methodLink RX9 39 yX0_copyFrom ∈ wALL := tb_3 (List.mem_of_getElem? (i := 111) rfl) rfl
theorem im_yX0_copyFrom : Cond.instanceMethod yX0_copyFrom ∈ wALL := tb_3 (List.mem_of_getElem? (i := 112) rfl) rfl
theorem se_yX0_copyFrom : Cond.selects RX0 yX0_copyFrom yX0_copyFrom ∈ wALL := tb_3 (List.mem_of_getElem? (i := 113) rfl) rfl
theorem cd_yX0_copyFrom : Cond.code yX0_copyFrom cX0_copyFrom 2 none ∈ wALL := tb_3 (List.mem_of_getElem? (i := 114) rfl) rfl
theorem ml_RX0_25 : Cond.methodLink RX0 25 arraycopyName ∈ wALL := tb_3 (List.mem_of_getElem? (i := 115) rfl) rfl
theorem na_arraycopyName : Cond.native arraycopyName ∈ wALL := tb_3 (List.mem_of_getElem? (i := 117) rfl) rfl
theorem st_arraycopyName : Cond.static arraycopyName ∈ wALL := tb_3 (List.mem_of_getElem? (i := 116) rfl) rfl
theorem in_java_lang_System : Cond.initialized "java/lang/System" ∈ wALL := tb_1 (List.mem_of_getElem? (i := 18) rfl) rfl
theorem ml_RX9_43 : Cond.methodLink RX9 43 yX10_copyFrom ∈ wALL := tb_3 (List.mem_of_getElem? (i := 118) rfl) rfl
theorem im_yX10_copyFrom : Cond.instanceMethod yX10_copyFrom ∈ wALL := tb_3 (List.mem_of_getElem? (i := 119) rfl) rfl
theorem se_yX10_copyFrom : Cond.selects RX10 yX10_copyFrom yX10_copyFrom ∈ wALL := tb_3 (List.mem_of_getElem? (i := 120) rfl) rfl
theorem cd_yX10_copyFrom : Cond.code yX10_copyFrom cX10_copyFrom 2 none ∈ wALL := tb_3 (List.mem_of_getElem? (i := 121) rfl) rfl
theorem ml_RX10_28 : Cond.methodLink RX10 28 arraycopyName ∈ wALL := tb_3 (List.mem_of_getElem? (i := 122) rfl) rfl
theorem ml_RX9_46 : Cond.methodLink RX9 46 yX6_copyFrom ∈ wALL := tb_3 (List.mem_of_getElem? (i := 123) rfl) rfl
theorem im_yX6_copyFrom : Cond.instanceMethod yX6_copyFrom ∈ wALL := tb_3 (List.mem_of_getElem? (i := 124) rfl) rfl
theorem se_yX6_copyFrom : Cond.selects RX6 yX6_copyFrom yX6_copyFrom ∈ wALL := tb_3 (List.mem_of_getElem? (i := 125) rfl) rfl
theorem cd_yX6_copyFrom : Cond.code yX6_copyFrom cX6_copyFrom 2 none ∈ wALL := tb_3 (List.mem_of_getElem? (i := 126) rfl) rfl
theorem ml_RX6_18 : Cond.methodLink RX6 18 arraycopyName ∈ wALL := tb_3 (List.mem_of_getElem? (i := 127) rfl) rfl
theorem ml_RX9_49 : Cond.methodLink RX9 49 yX7_copyFrom ∈ wALL := tb_3 (List.mem_of_getElem? (i := 128) rfl) rfl
theorem im_yX7_copyFrom : Cond.instanceMethod yX7_copyFrom ∈ wALL := tb_3 (List.mem_of_getElem? (i := 129) rfl) rfl
theorem se_yX7_copyFrom : Cond.selects RX7 yX7_copyFrom yX7_copyFrom ∈ wALL := tb_3 (List.mem_of_getElem? (i := 130) rfl) rfl
theorem cd_yX7_copyFrom : Cond.code yX7_copyFrom cX7_copyFrom 2 none ∈ wALL := tb_3 (List.mem_of_getElem? (i := 131) rfl) rfl
theorem ml_RX7_28 : Cond.methodLink RX7 28 arraycopyName ∈ wALL := tb_3 (List.mem_of_getElem? (i := 132) rfl) rfl
theorem ml_RX11_76 : Cond.methodLink RX11 76 yX0_takeUser ∈ wALL := tb_3 (List.mem_of_getElem? (i := 133) rfl) rfl
theorem im_yX0_takeUser : Cond.instanceMethod yX0_takeUser ∈ wALL := tb_3 (List.mem_of_getElem? (i := 134) rfl) rfl
theorem se_yX0_takeUser : Cond.selects RX0 yX0_takeUser yX0_takeUser ∈ wALL := tb_3 (List.mem_of_getElem? (i := 135) rfl) rfl
theorem cd_yX0_takeUser : Cond.code yX0_takeUser cX0_takeUser 2 (some .int) ∈ wALL := tb_3 (List.mem_of_getElem? (i := 136) rfl) rfl
theorem ml_RL_200 : Cond.methodLink RL 200 yX12_addUser ∈ wALL := tb_6 (List.mem_of_getElem? (i := 235) rfl) rfl
theorem im_yX12_addUser : Cond.instanceMethod yX12_addUser ∈ wALL := tb_6 (List.mem_of_getElem? (i := 236) rfl) rfl
theorem se_yX12_addUser : Cond.selects RX12 yX12_addUser yX12_addUser ∈ wALL := tb_6 (List.mem_of_getElem? (i := 237) rfl) rfl
theorem cd_yX12_addUser : Cond.code yX12_addUser cX12_addUser 1 (some .int) ∈ wALL := tb_6 (List.mem_of_getElem? (i := 238) rfl) rfl
theorem fl_RX12_39 : Cond.fieldLink RX12 39 "PermissionDeskModel" "last" "I" ∈ wALL := tb_6 (List.mem_of_getElem? (i := 189) rfl) rfl
theorem ml_RX12_76 : Cond.methodLink RX12 76 yX12_fails ∈ wALL := tb_6 (List.mem_of_getElem? (i := 239) rfl) rfl
theorem im_yX12_fails : Cond.instanceMethod yX12_fails ∈ wALL := tb_7 (List.mem_of_getElem? (i := 1) rfl) rfl
theorem se_yX12_fails : Cond.selects RX12 yX12_fails yX12_fails ∈ wALL := tp_3 (n := 15) (List.mem_of_getElem? (i := 2) rfl) rfl
theorem cd_yX12_fails : Cond.code yX12_fails cX12_fails 2 (some .int) ∈ wALL := tb_7 (List.mem_of_getElem? (i := 2) rfl) rfl
theorem ml_RX12_79 : Cond.methodLink RX12 79 yX12_changes ∈ wALL := tb_7 (List.mem_of_getElem? (i := 3) rfl) rfl
theorem im_yX12_changes : Cond.instanceMethod yX12_changes ∈ wALL := tb_7 (List.mem_of_getElem? (i := 5) rfl) rfl
theorem se_yX12_changes : Cond.selects RX12 yX12_changes yX12_changes ∈ wALL := tp_3 (n := 15) (List.mem_of_getElem? (i := 3) rfl) rfl
theorem cd_yX12_changes : Cond.code yX12_changes cX12_changes 2 none ∈ wALL := tb_7 (List.mem_of_getElem? (i := 6) rfl) rfl
theorem fl_RX12_43 : Cond.fieldLink RX12 43 "PermissionDeskModel" "pasts" "I" ∈ wALL := tb_6 (List.mem_of_getElem? (i := 188) rfl) rfl
theorem ml_RL_201 : Cond.methodLink RL 201 yX12_thrown ∈ wALL := tb_6 (List.mem_of_getElem? (i := 231) rfl) rfl
theorem im_yX12_thrown : Cond.instanceMethod yX12_thrown ∈ wALL := tb_6 (List.mem_of_getElem? (i := 232) rfl) rfl
theorem se_yX12_thrown : Cond.selects RX12 yX12_thrown yX12_thrown ∈ wALL := tb_6 (List.mem_of_getElem? (i := 233) rfl) rfl
theorem cd_yX12_thrown : Cond.code yX12_thrown cX12_thrown 1 (some .int) ∈ wALL := tb_6 (List.mem_of_getElem? (i := 234) rfl) rfl
theorem ml_RL_204 : Cond.methodLink RL 204 yL_addGroup ∈ wALL := tb_3 (List.mem_of_getElem? (i := 137) rfl) rfl
theorem st_yL_addGroup : Cond.static yL_addGroup ∈ wALL := tb_3 (List.mem_of_getElem? (i := 138) rfl) rfl
theorem cw_yL_addGroup : Cond.codeWith yL_addGroup cL_addGroup 3 (some .int) [(0, 8, 11, 13)] ∈ wALL := tb_3 (List.mem_of_getElem? (i := 139) rfl) rfl
theorem ml_RL_15 : Cond.methodLink RL 15 yX11_addGroup ∈ wALL := tb_3 (List.mem_of_getElem? (i := 140) rfl) rfl
theorem im_yX11_addGroup : Cond.instanceMethod yX11_addGroup ∈ wALL := tb_3 (List.mem_of_getElem? (i := 141) rfl) rfl
theorem se_yX11_addGroup : Cond.selects RX11 yX11_addGroup yX11_addGroup ∈ wALL := tb_3 (List.mem_of_getElem? (i := 142) rfl) rfl
theorem cd_yX11_addGroup : Cond.code yX11_addGroup cX11_addGroup 1 (some .int) ∈ wALL := tb_3 (List.mem_of_getElem? (i := 143) rfl) rfl
theorem fl_RX11_80 : Cond.fieldLink RX11 80 "PermissionDesk$Club" "groups" "I" ∈ wALL := tb_1 (List.mem_of_getElem? (i := 52) rfl) rfl
theorem ml_RX11_85 : Cond.methodLink RX11 85 yX0_takeGroup ∈ wALL := tb_3 (List.mem_of_getElem? (i := 145) rfl) rfl
theorem im_yX0_takeGroup : Cond.instanceMethod yX0_takeGroup ∈ wALL := tb_3 (List.mem_of_getElem? (i := 146) rfl) rfl
theorem se_yX0_takeGroup : Cond.selects RX0 yX0_takeGroup yX0_takeGroup ∈ wALL := tb_3 (List.mem_of_getElem? (i := 147) rfl) rfl
theorem cd_yX0_takeGroup : Cond.code yX0_takeGroup cX0_takeGroup 2 (some .int) ∈ wALL := tb_3 (List.mem_of_getElem? (i := 148) rfl) rfl
theorem ml_RL_206 : Cond.methodLink RL 206 yX12_addGroup ∈ wALL := tb_7 (List.mem_of_getElem? (i := 7) rfl) rfl
theorem im_yX12_addGroup : Cond.instanceMethod yX12_addGroup ∈ wALL := tb_7 (List.mem_of_getElem? (i := 8) rfl) rfl
theorem se_yX12_addGroup : Cond.selects RX12 yX12_addGroup yX12_addGroup ∈ wALL := tb_7 (List.mem_of_getElem? (i := 9) rfl) rfl
theorem cd_yX12_addGroup : Cond.code yX12_addGroup cX12_addGroup 1 (some .int) ∈ wALL := tb_7 (List.mem_of_getElem? (i := 10) rfl) rfl
theorem ml_RL_207 : Cond.methodLink RL 207 yL_join ∈ wALL := tb_3 (List.mem_of_getElem? (i := 149) rfl) rfl
theorem st_yL_join : Cond.static yL_join ∈ wALL := tb_3 (List.mem_of_getElem? (i := 150) rfl) rfl
theorem cw_yL_join : Cond.codeWith yL_join cL_join 5 (some .int) [(0, 10, 13, 22), (0, 10, 17, 13)] ∈ wALL := tb_3 (List.mem_of_getElem? (i := 151) rfl) rfl
theorem cl_RL_22 : Cond.classLink RL 22 "java/lang/IndexOutOfBoundsException" ∈ wALL := tb_3 (List.mem_of_getElem? (i := 152) rfl) rfl
theorem ml_RL_18 : Cond.methodLink RL 18 yX11_join ∈ wALL := tb_3 (List.mem_of_getElem? (i := 153) rfl) rfl
theorem im_yX11_join : Cond.instanceMethod yX11_join ∈ wALL := tb_3 (List.mem_of_getElem? (i := 154) rfl) rfl
theorem se_yX11_join : Cond.selects RX11 yX11_join yX11_join ∈ wALL := tb_3 (List.mem_of_getElem? (i := 155) rfl) rfl
theorem cd_yX11_join : Cond.code yX11_join cX11_join 3 (some .int) ∈ wALL := tb_3 (List.mem_of_getElem? (i := 156) rfl) rfl
theorem ml_RX11_88 : Cond.methodLink RX11 88 yX11_requireUser ∈ wALL := tb_3 (List.mem_of_getElem? (i := 157) rfl) rfl
theorem im_yX11_requireUser : Cond.instanceMethod yX11_requireUser ∈ wALL := tb_3 (List.mem_of_getElem? (i := 159) rfl) rfl
theorem se_yX11_requireUser : Cond.selects RX11 yX11_requireUser yX11_requireUser ∈ wALL := tp_1 (n := 7) (List.mem_of_getElem? (i := 11) rfl) rfl
theorem cd_yX11_requireUser : Cond.code yX11_requireUser cX11_requireUser 2 none ∈ wALL := tb_3 (List.mem_of_getElem? (i := 160) rfl) rfl
theorem cl_RX11_382 : Cond.classLink RX11 382 "java/lang/IndexOutOfBoundsException" ∈ wALL := tb_3 (List.mem_of_getElem? (i := 162) rfl) rfl
theorem in_java_lang_IndexOutOfBoundsException : Cond.initialized "java/lang/IndexOutOfBoundsException" ∈ wALL := tb_1 (List.mem_of_getElem? (i := 19) rfl) rfl
theorem ml_RX11_379 : Cond.methodLink RX11 379 yX0_hasUser ∈ wALL := tb_3 (List.mem_of_getElem? (i := 161) rfl) rfl
theorem im_yX0_hasUser : Cond.instanceMethod yX0_hasUser ∈ wALL := tb_2 (List.mem_of_getElem? (i := 168) rfl) rfl
theorem se_yX0_hasUser : Cond.selects RX0 yX0_hasUser yX0_hasUser ∈ wALL := tb_2 (List.mem_of_getElem? (i := 169) rfl) rfl
theorem cd_yX0_hasUser : Cond.code yX0_hasUser cX0_hasUser 2 (some .boolean) ∈ wALL := tb_2 (List.mem_of_getElem? (i := 170) rfl) rfl
theorem st_yX11_isIndex : Cond.static yX11_isIndex ∈ wALL := tb_2 (List.mem_of_getElem? (i := 119) rfl) rfl
theorem cd_yX11_isIndex : Cond.code yX11_isIndex cX11_isIndex 2 (some .boolean) ∈ wALL := tb_2 (List.mem_of_getElem? (i := 120) rfl) rfl
theorem ml_RX11_92 : Cond.methodLink RX11 92 yX11_requireGroup ∈ wALL := tb_3 (List.mem_of_getElem? (i := 178) rfl) rfl
theorem im_yX11_requireGroup : Cond.instanceMethod yX11_requireGroup ∈ wALL := tb_3 (List.mem_of_getElem? (i := 180) rfl) rfl
theorem se_yX11_requireGroup : Cond.selects RX11 yX11_requireGroup yX11_requireGroup ∈ wALL := tp_1 (n := 7) (List.mem_of_getElem? (i := 12) rfl) rfl
theorem cd_yX11_requireGroup : Cond.code yX11_requireGroup cX11_requireGroup 2 none ∈ wALL := tb_3 (List.mem_of_getElem? (i := 181) rfl) rfl
theorem ml_RX11_387 : Cond.methodLink RX11 387 yX0_hasGroup ∈ wALL := tb_3 (List.mem_of_getElem? (i := 182) rfl) rfl
theorem im_yX0_hasGroup : Cond.instanceMethod yX0_hasGroup ∈ wALL := tb_3 (List.mem_of_getElem? (i := 183) rfl) rfl
theorem se_yX0_hasGroup : Cond.selects RX0 yX0_hasGroup yX0_hasGroup ∈ wALL := tb_3 (List.mem_of_getElem? (i := 184) rfl) rfl
theorem cd_yX0_hasGroup : Cond.code yX0_hasGroup cX0_hasGroup 2 (some .boolean) ∈ wALL := tb_3 (List.mem_of_getElem? (i := 185) rfl) rfl
theorem ml_RX11_95 : Cond.methodLink RX11 95 yX0_hasMember ∈ wALL := tb_3 (List.mem_of_getElem? (i := 187) rfl) rfl
theorem im_yX0_hasMember : Cond.instanceMethod yX0_hasMember ∈ wALL := tb_3 (List.mem_of_getElem? (i := 188) rfl) rfl
theorem se_yX0_hasMember : Cond.selects RX0 yX0_hasMember yX0_hasMember ∈ wALL := tb_3 (List.mem_of_getElem? (i := 189) rfl) rfl
theorem cd_yX0_hasMember : Cond.code yX0_hasMember cX0_hasMember 3 (some .boolean) ∈ wALL := tb_3 (List.mem_of_getElem? (i := 190) rfl) rfl
theorem st_yX11_has : Cond.static yX11_has ∈ wALL := tb_2 (List.mem_of_getElem? (i := 189) rfl) rfl
theorem cd_yX11_has : Cond.code yX11_has cX11_has 2 (some .boolean) ∈ wALL := tb_2 (List.mem_of_getElem? (i := 190) rfl) rfl
theorem ml_RX11_101 : Cond.methodLink RX11 101 yX0_setMember ∈ wALL := tb_3 (List.mem_of_getElem? (i := 192) rfl) rfl
theorem im_yX0_setMember : Cond.instanceMethod yX0_setMember ∈ wALL := tb_3 (List.mem_of_getElem? (i := 193) rfl) rfl
theorem se_yX0_setMember : Cond.selects RX0 yX0_setMember yX0_setMember ∈ wALL := tb_3 (List.mem_of_getElem? (i := 194) rfl) rfl
theorem cd_yX0_setMember : Cond.code yX0_setMember cX0_setMember 4 none ∈ wALL := tb_3 (List.mem_of_getElem? (i := 195) rfl) rfl
theorem st_yX11_changed : Cond.static yX11_changed ∈ wALL := tb_3 (List.mem_of_getElem? (i := 197) rfl) rfl
theorem cd_yX11_changed : Cond.code yX11_changed cX11_changed 3 (some .int) ∈ wALL := tb_3 (List.mem_of_getElem? (i := 198) rfl) rfl
theorem ml_RX11_105 : Cond.methodLink RX11 105 yX0_countUsersIn ∈ wALL := tb_3 (List.mem_of_getElem? (i := 199) rfl) rfl
theorem im_yX0_countUsersIn : Cond.instanceMethod yX0_countUsersIn ∈ wALL := tb_3 (List.mem_of_getElem? (i := 200) rfl) rfl
theorem se_yX0_countUsersIn : Cond.selects RX0 yX0_countUsersIn yX0_countUsersIn ∈ wALL := tb_3 (List.mem_of_getElem? (i := 201) rfl) rfl
theorem cd_yX0_countUsersIn : Cond.code yX0_countUsersIn cX0_countUsersIn 2 (some .int) ∈ wALL := tb_3 (List.mem_of_getElem? (i := 202) rfl) rfl
theorem ml_RX0_49 : Cond.methodLink RX0 49 yX0_usersIn ∈ wALL := tb_3 (List.mem_of_getElem? (i := 203) rfl) rfl
theorem im_yX0_usersIn : Cond.instanceMethod yX0_usersIn ∈ wALL := tb_3 (List.mem_of_getElem? (i := 204) rfl) rfl
theorem se_yX0_usersIn : Cond.selects RX0 yX0_usersIn yX0_usersIn ∈ wALL := tb_3 (List.mem_of_getElem? (i := 205) rfl) rfl
theorem cd_yX0_usersIn : Cond.code yX0_usersIn cX0_usersIn 5 (some .int) ∈ wALL := tb_3 (List.mem_of_getElem? (i := 206) rfl) rfl
theorem ml_RX0_46 : Cond.methodLink RX0 46 yX0_groupsUnder ∈ wALL := tb_3 (List.mem_of_getElem? (i := 207) rfl) rfl
theorem im_yX0_groupsUnder : Cond.instanceMethod yX0_groupsUnder ∈ wALL := tb_3 (List.mem_of_getElem? (i := 209) rfl) rfl
theorem se_yX0_groupsUnder : Cond.selects RX0 yX0_groupsUnder yX0_groupsUnder ∈ wALL := tp_1 (n := 4) (List.mem_of_getElem? (i := 13) rfl) rfl
theorem cd_yX0_groupsUnder : Cond.code yX0_groupsUnder cX0_groupsUnder 6 (some .int) ∈ wALL := tb_3 (List.mem_of_getElem? (i := 210) rfl) rfl
theorem ml_RX0_52 : Cond.methodLink RX0 52 yJ6_bitCount_0f7a4 ∈ wALL := tb_3 (List.mem_of_getElem? (i := 211) rfl) rfl
theorem st_yJ6_bitCount_0f7a4 : Cond.static yJ6_bitCount_0f7a4 ∈ wALL := tb_2 (List.mem_of_getElem? (i := 142) rfl) rfl
theorem in_RJ6 : Cond.initialized RJ6 ∈ wALL := tb_1 (List.mem_of_getElem? (i := 20) rfl) rfl
theorem cd_yJ6_bitCount_0f7a4 : Cond.code yJ6_bitCount_0f7a4 cJ6_bitCount_0f7a4 1 (some .int) ∈ wALL := tb_2 (List.mem_of_getElem? (i := 143) rfl) rfl
theorem co_RJ6_265 : Cond.constant RJ6 265 (1431655765) ∈ wALL := tb_2 (List.mem_of_getElem? (i := 144) rfl) rfl
theorem co_RJ6_266 : Cond.constant RJ6 266 (858993459) ∈ wALL := tb_2 (List.mem_of_getElem? (i := 145) rfl) rfl
theorem co_RJ6_267 : Cond.constant RJ6 267 (252645135) ∈ wALL := tb_2 (List.mem_of_getElem? (i := 146) rfl) rfl
theorem ml_RL_210 : Cond.methodLink RL 210 yX12_join ∈ wALL := tb_7 (List.mem_of_getElem? (i := 11) rfl) rfl
theorem im_yX12_join : Cond.instanceMethod yX12_join ∈ wALL := tb_7 (List.mem_of_getElem? (i := 12) rfl) rfl
theorem se_yX12_join : Cond.selects RX12 yX12_join yX12_join ∈ wALL := tb_7 (List.mem_of_getElem? (i := 13) rfl) rfl
theorem cd_yX12_join : Cond.code yX12_join cX12_join 3 (some .int) ∈ wALL := tb_7 (List.mem_of_getElem? (i := 14) rfl) rfl
theorem ml_RX12_82 : Cond.methodLink RX12 82 yX12_isUser ∈ wALL := tb_7 (List.mem_of_getElem? (i := 15) rfl) rfl
theorem im_yX12_isUser : Cond.instanceMethod yX12_isUser ∈ wALL := tb_7 (List.mem_of_getElem? (i := 17) rfl) rfl
theorem se_yX12_isUser : Cond.selects RX12 yX12_isUser yX12_isUser ∈ wALL := tp_3 (n := 15) (List.mem_of_getElem? (i := 4) rfl) rfl
theorem cd_yX12_isUser : Cond.code yX12_isUser cX12_isUser 2 (some .boolean) ∈ wALL := tb_7 (List.mem_of_getElem? (i := 18) rfl) rfl
theorem ml_RX12_46 : Cond.methodLink RX12 46 yX12_in ∈ wALL := tb_7 (List.mem_of_getElem? (i := 19) rfl) rfl
theorem st_yX12_in : Cond.static yX12_in ∈ wALL := tb_7 (List.mem_of_getElem? (i := 20) rfl) rfl
theorem cd_yX12_in : Cond.code yX12_in cX12_in 3 (some .boolean) ∈ wALL := tb_7 (List.mem_of_getElem? (i := 21) rfl) rfl
theorem ml_RX12_85 : Cond.methodLink RX12 85 yX12_isGroup ∈ wALL := tb_7 (List.mem_of_getElem? (i := 22) rfl) rfl
theorem im_yX12_isGroup : Cond.instanceMethod yX12_isGroup ∈ wALL := tb_7 (List.mem_of_getElem? (i := 24) rfl) rfl
theorem se_yX12_isGroup : Cond.selects RX12 yX12_isGroup yX12_isGroup ∈ wALL := tp_3 (n := 15) (List.mem_of_getElem? (i := 5) rfl) rfl
theorem cd_yX12_isGroup : Cond.code yX12_isGroup cX12_isGroup 2 (some .boolean) ∈ wALL := tb_7 (List.mem_of_getElem? (i := 25) rfl) rfl
theorem ml_RX12_65 : Cond.methodLink RX12 65 yX12_has ∈ wALL := tb_7 (List.mem_of_getElem? (i := 26) rfl) rfl
theorem st_yX12_has : Cond.static yX12_has ∈ wALL := tb_7 (List.mem_of_getElem? (i := 27) rfl) rfl
theorem cd_yX12_has : Cond.code yX12_has cX12_has 2 (some .boolean) ∈ wALL := tb_7 (List.mem_of_getElem? (i := 28) rfl) rfl
theorem ml_RX12_88 : Cond.methodLink RX12 88 yX12_howMany ∈ wALL := tb_7 (List.mem_of_getElem? (i := 29) rfl) rfl
theorem im_yX12_howMany : Cond.instanceMethod yX12_howMany ∈ wALL := tb_7 (List.mem_of_getElem? (i := 31) rfl) rfl
theorem se_yX12_howMany : Cond.selects RX12 yX12_howMany yX12_howMany ∈ wALL := tp_3 (n := 15) (List.mem_of_getElem? (i := 6) rfl) rfl
theorem cd_yX12_howMany : Cond.code yX12_howMany cX12_howMany 4 (some .int) ∈ wALL := tb_7 (List.mem_of_getElem? (i := 32) rfl) rfl
theorem ml_RX12_73 : Cond.methodLink RX12 73 yX12_isOf ∈ wALL := tb_7 (List.mem_of_getElem? (i := 33) rfl) rfl
theorem im_yX12_isOf : Cond.instanceMethod yX12_isOf ∈ wALL := tb_7 (List.mem_of_getElem? (i := 35) rfl) rfl
theorem se_yX12_isOf : Cond.selects RX12 yX12_isOf yX12_isOf ∈ wALL := tp_3 (n := 15) (List.mem_of_getElem? (i := 7) rfl) rfl
theorem cd_yX12_isOf : Cond.code yX12_isOf cX12_isOf 5 (some .boolean) ∈ wALL := tb_7 (List.mem_of_getElem? (i := 36) rfl) rfl
theorem ml_RX12_69 : Cond.methodLink RX12 69 yX12_outers ∈ wALL := tb_7 (List.mem_of_getElem? (i := 37) rfl) rfl
theorem im_yX12_outers : Cond.instanceMethod yX12_outers ∈ wALL := tb_7 (List.mem_of_getElem? (i := 39) rfl) rfl
theorem se_yX12_outers : Cond.selects RX12 yX12_outers yX12_outers ∈ wALL := tp_3 (n := 15) (List.mem_of_getElem? (i := 8) rfl) rfl
theorem cd_yX12_outers : Cond.code yX12_outers cX12_outers 5 (some .int) ∈ wALL := tb_7 (List.mem_of_getElem? (i := 40) rfl) rfl
theorem ml_RL_211 : Cond.methodLink RL 211 yL_leave ∈ wALL := tb_3 (List.mem_of_getElem? (i := 212) rfl) rfl
theorem st_yL_leave : Cond.static yL_leave ∈ wALL := tb_3 (List.mem_of_getElem? (i := 213) rfl) rfl
theorem cw_yL_leave : Cond.codeWith yL_leave cL_leave 5 (some .int) [(0, 10, 13, 22), (0, 10, 17, 13)] ∈ wALL := tb_3 (List.mem_of_getElem? (i := 214) rfl) rfl
theorem ml_RL_24 : Cond.methodLink RL 24 yX11_leave ∈ wALL := tb_3 (List.mem_of_getElem? (i := 215) rfl) rfl
theorem im_yX11_leave : Cond.instanceMethod yX11_leave ∈ wALL := tb_3 (List.mem_of_getElem? (i := 216) rfl) rfl
theorem se_yX11_leave : Cond.selects RX11 yX11_leave yX11_leave ∈ wALL := tb_3 (List.mem_of_getElem? (i := 217) rfl) rfl
theorem cd_yX11_leave : Cond.code yX11_leave cX11_leave 3 (some .int) ∈ wALL := tb_3 (List.mem_of_getElem? (i := 218) rfl) rfl
theorem ml_RL_213 : Cond.methodLink RL 213 yX12_leave ∈ wALL := tb_7 (List.mem_of_getElem? (i := 41) rfl) rfl
theorem im_yX12_leave : Cond.instanceMethod yX12_leave ∈ wALL := tb_7 (List.mem_of_getElem? (i := 42) rfl) rfl
theorem se_yX12_leave : Cond.selects RX12 yX12_leave yX12_leave ∈ wALL := tb_7 (List.mem_of_getElem? (i := 43) rfl) rfl
theorem cd_yX12_leave : Cond.code yX12_leave cX12_leave 3 (some .int) ∈ wALL := tb_7 (List.mem_of_getElem? (i := 44) rfl) rfl
theorem ml_RL_214 : Cond.methodLink RL 214 yL_nest ∈ wALL := tb_3 (List.mem_of_getElem? (i := 220) rfl) rfl
theorem st_yL_nest : Cond.static yL_nest ∈ wALL := tb_3 (List.mem_of_getElem? (i := 221) rfl) rfl
theorem cw_yL_nest : Cond.codeWith yL_nest cL_nest 5 (some .int) [(0, 10, 13, 22), (0, 10, 17, 13)] ∈ wALL := tb_3 (List.mem_of_getElem? (i := 222) rfl) rfl
theorem ml_RL_27 : Cond.methodLink RL 27 yX11_nest ∈ wALL := tb_3 (List.mem_of_getElem? (i := 223) rfl) rfl
theorem im_yX11_nest : Cond.instanceMethod yX11_nest ∈ wALL := tb_3 (List.mem_of_getElem? (i := 224) rfl) rfl
theorem se_yX11_nest : Cond.selects RX11 yX11_nest yX11_nest ∈ wALL := tb_3 (List.mem_of_getElem? (i := 225) rfl) rfl
theorem cd_yX11_nest : Cond.code yX11_nest cX11_nest 3 (some .int) ∈ wALL := tb_3 (List.mem_of_getElem? (i := 226) rfl) rfl
theorem ml_RX11_111 : Cond.methodLink RX11 111 yX0_hasInner ∈ wALL := tb_3 (List.mem_of_getElem? (i := 227) rfl) rfl
theorem im_yX0_hasInner : Cond.instanceMethod yX0_hasInner ∈ wALL := tb_3 (List.mem_of_getElem? (i := 228) rfl) rfl
theorem se_yX0_hasInner : Cond.selects RX0 yX0_hasInner yX0_hasInner ∈ wALL := tb_3 (List.mem_of_getElem? (i := 229) rfl) rfl
theorem cd_yX0_hasInner : Cond.code yX0_hasInner cX0_hasInner 3 (some .boolean) ∈ wALL := tb_3 (List.mem_of_getElem? (i := 230) rfl) rfl
theorem ml_RX11_114 : Cond.methodLink RX11 114 yX0_isWithin ∈ wALL := tb_3 (List.mem_of_getElem? (i := 231) rfl) rfl
theorem im_yX0_isWithin : Cond.instanceMethod yX0_isWithin ∈ wALL := tb_3 (List.mem_of_getElem? (i := 232) rfl) rfl
theorem se_yX0_isWithin : Cond.selects RX0 yX0_isWithin yX0_isWithin ∈ wALL := tb_3 (List.mem_of_getElem? (i := 233) rfl) rfl
theorem cd_yX0_isWithin : Cond.code yX0_isWithin cX0_isWithin 3 (some .boolean) ∈ wALL := tb_3 (List.mem_of_getElem? (i := 234) rfl) rfl
theorem ml_RX0_42 : Cond.methodLink RX0 42 yX0_climbFrom ∈ wALL := tb_2 (List.mem_of_getElem? (i := 184) rfl) rfl
theorem im_yX0_climbFrom : Cond.instanceMethod yX0_climbFrom ∈ wALL := tb_2 (List.mem_of_getElem? (i := 186) rfl) rfl
theorem se_yX0_climbFrom : Cond.selects RX0 yX0_climbFrom yX0_climbFrom ∈ wALL := tp_1 (n := 4) (List.mem_of_getElem? (i := 8) rfl) rfl
theorem cd_yX0_climbFrom : Cond.code yX0_climbFrom cX0_climbFrom 6 (some .int) ∈ wALL := tb_2 (List.mem_of_getElem? (i := 187) rfl) rfl
theorem ml_RX11_119 : Cond.methodLink RX11 119 yX0_setInner ∈ wALL := tb_3 (List.mem_of_getElem? (i := 236) rfl) rfl
theorem im_yX0_setInner : Cond.instanceMethod yX0_setInner ∈ wALL := tb_3 (List.mem_of_getElem? (i := 237) rfl) rfl
theorem se_yX0_setInner : Cond.selects RX0 yX0_setInner yX0_setInner ∈ wALL := tb_3 (List.mem_of_getElem? (i := 238) rfl) rfl
theorem cd_yX0_setInner : Cond.code yX0_setInner cX0_setInner 4 none ∈ wALL := tb_3 (List.mem_of_getElem? (i := 239) rfl) rfl
theorem ml_RL_216 : Cond.methodLink RL 216 yX12_nest ∈ wALL := tb_7 (List.mem_of_getElem? (i := 45) rfl) rfl
theorem im_yX12_nest : Cond.instanceMethod yX12_nest ∈ wALL := tb_7 (List.mem_of_getElem? (i := 46) rfl) rfl
theorem se_yX12_nest : Cond.selects RX12 yX12_nest yX12_nest ∈ wALL := tb_7 (List.mem_of_getElem? (i := 47) rfl) rfl
theorem cd_yX12_nest : Cond.code yX12_nest cX12_nest 3 (some .int) ∈ wALL := tb_7 (List.mem_of_getElem? (i := 48) rfl) rfl
theorem ml_RL_217 : Cond.methodLink RL 217 yL_unnest ∈ wALL := tb_4 (List.mem_of_getElem? (i := 0) rfl) rfl
theorem st_yL_unnest : Cond.static yL_unnest ∈ wALL := tb_4 (List.mem_of_getElem? (i := 1) rfl) rfl
theorem cw_yL_unnest : Cond.codeWith yL_unnest cL_unnest 5 (some .int) [(0, 10, 13, 22), (0, 10, 17, 13)] ∈ wALL := tb_4 (List.mem_of_getElem? (i := 2) rfl) rfl
theorem ml_RL_30 : Cond.methodLink RL 30 yX11_unnest ∈ wALL := tb_4 (List.mem_of_getElem? (i := 3) rfl) rfl
theorem im_yX11_unnest : Cond.instanceMethod yX11_unnest ∈ wALL := tb_4 (List.mem_of_getElem? (i := 4) rfl) rfl
theorem se_yX11_unnest : Cond.selects RX11 yX11_unnest yX11_unnest ∈ wALL := tb_4 (List.mem_of_getElem? (i := 5) rfl) rfl
theorem cd_yX11_unnest : Cond.code yX11_unnest cX11_unnest 3 (some .int) ∈ wALL := tb_4 (List.mem_of_getElem? (i := 6) rfl) rfl
theorem ml_RL_219 : Cond.methodLink RL 219 yX12_unnest ∈ wALL := tb_7 (List.mem_of_getElem? (i := 49) rfl) rfl
theorem im_yX12_unnest : Cond.instanceMethod yX12_unnest ∈ wALL := tb_7 (List.mem_of_getElem? (i := 50) rfl) rfl
theorem se_yX12_unnest : Cond.selects RX12 yX12_unnest yX12_unnest ∈ wALL := tb_7 (List.mem_of_getElem? (i := 51) rfl) rfl
theorem cd_yX12_unnest : Cond.code yX12_unnest cX12_unnest 3 (some .int) ∈ wALL := tb_7 (List.mem_of_getElem? (i := 52) rfl) rfl
theorem ml_RL_220 : Cond.methodLink RL 220 yL_make ∈ wALL := tb_4 (List.mem_of_getElem? (i := 8) rfl) rfl
theorem st_yL_make : Cond.static yL_make ∈ wALL := tb_4 (List.mem_of_getElem? (i := 9) rfl) rfl
theorem cw_yL_make : Cond.codeWith yL_make cL_make 5 (some .int) [(0, 10, 13, 22), (0, 10, 17, 13)] ∈ wALL := tb_4 (List.mem_of_getElem? (i := 10) rfl) rfl
theorem ml_RL_33 : Cond.methodLink RL 33 yX11_make ∈ wALL := tb_4 (List.mem_of_getElem? (i := 11) rfl) rfl
theorem im_yX11_make : Cond.instanceMethod yX11_make ∈ wALL := tb_4 (List.mem_of_getElem? (i := 12) rfl) rfl
theorem se_yX11_make : Cond.selects RX11 yX11_make yX11_make ∈ wALL := tb_4 (List.mem_of_getElem? (i := 13) rfl) rfl
theorem cd_yX11_make : Cond.code yX11_make cX11_make 4 (some .int) ∈ wALL := tb_4 (List.mem_of_getElem? (i := 14) rfl) rfl
theorem fl_RX11_127 : Cond.fieldLink RX11 127 "PermissionDesk$State" "tree" "LPermissionDesk$Tree;" ∈ wALL := tb_1 (List.mem_of_getElem? (i := 133) rfl) rfl
theorem ml_RX11_124 : Cond.methodLink RX11 124 yX11_requireObject ∈ wALL := tb_4 (List.mem_of_getElem? (i := 15) rfl) rfl
theorem im_yX11_requireObject : Cond.instanceMethod yX11_requireObject ∈ wALL := tb_4 (List.mem_of_getElem? (i := 17) rfl) rfl
theorem se_yX11_requireObject : Cond.selects RX11 yX11_requireObject yX11_requireObject ∈ wALL := tp_1 (n := 7) (List.mem_of_getElem? (i := 14) rfl) rfl
theorem cd_yX11_requireObject : Cond.code yX11_requireObject cX11_requireObject 2 none ∈ wALL := tb_4 (List.mem_of_getElem? (i := 18) rfl) rfl
theorem ml_RX11_308 : Cond.methodLink RX11 308 yX10_holds ∈ wALL := tb_2 (List.mem_of_getElem? (i := 151) rfl) rfl
theorem im_yX10_holds : Cond.instanceMethod yX10_holds ∈ wALL := tb_2 (List.mem_of_getElem? (i := 152) rfl) rfl
theorem se_yX10_holds : Cond.selects RX10 yX10_holds yX10_holds ∈ wALL := tb_2 (List.mem_of_getElem? (i := 153) rfl) rfl
theorem cd_yX10_holds : Cond.code yX10_holds cX10_holds 2 (some .boolean) ∈ wALL := tb_2 (List.mem_of_getElem? (i := 154) rfl) rfl
theorem ml_RX11_131 : Cond.methodLink RX11 131 yX10_lowestFree ∈ wALL := tb_4 (List.mem_of_getElem? (i := 20) rfl) rfl
theorem im_yX10_lowestFree : Cond.instanceMethod yX10_lowestFree ∈ wALL := tb_4 (List.mem_of_getElem? (i := 21) rfl) rfl
theorem se_yX10_lowestFree : Cond.selects RX10 yX10_lowestFree yX10_lowestFree ∈ wALL := tb_4 (List.mem_of_getElem? (i := 22) rfl) rfl
theorem cd_yX10_lowestFree : Cond.code yX10_lowestFree cX10_lowestFree 2 (some .int) ∈ wALL := tb_4 (List.mem_of_getElem? (i := 23) rfl) rfl
theorem ml_RX11_138 : Cond.methodLink RX11 138 yX10_putObject ∈ wALL := tb_4 (List.mem_of_getElem? (i := 25) rfl) rfl
theorem im_yX10_putObject : Cond.instanceMethod yX10_putObject ∈ wALL := tb_4 (List.mem_of_getElem? (i := 26) rfl) rfl
theorem se_yX10_putObject : Cond.selects RX10 yX10_putObject yX10_putObject ∈ wALL := tb_4 (List.mem_of_getElem? (i := 27) rfl) rfl
theorem cd_yX10_putObject : Cond.code yX10_putObject cX10_putObject 4 none ∈ wALL := tb_4 (List.mem_of_getElem? (i := 28) rfl) rfl
theorem ml_RX10_48 : Cond.methodLink RX10 48 yX10_setParent ∈ wALL := tb_4 (List.mem_of_getElem? (i := 30) rfl) rfl
theorem im_yX10_setParent : Cond.instanceMethod yX10_setParent ∈ wALL := tb_4 (List.mem_of_getElem? (i := 31) rfl) rfl
theorem se_yX10_setParent : Cond.selects RX10 yX10_setParent yX10_setParent ∈ wALL := tb_4 (List.mem_of_getElem? (i := 32) rfl) rfl
theorem cd_yX10_setParent : Cond.code yX10_setParent cX10_setParent 3 none ∈ wALL := tb_4 (List.mem_of_getElem? (i := 33) rfl) rfl
theorem ml_RX10_52 : Cond.methodLink RX10 52 yX10_setOwner ∈ wALL := tb_4 (List.mem_of_getElem? (i := 35) rfl) rfl
theorem im_yX10_setOwner : Cond.instanceMethod yX10_setOwner ∈ wALL := tb_4 (List.mem_of_getElem? (i := 36) rfl) rfl
theorem se_yX10_setOwner : Cond.selects RX10 yX10_setOwner yX10_setOwner ∈ wALL := tb_4 (List.mem_of_getElem? (i := 37) rfl) rfl
theorem cd_yX10_setOwner : Cond.code yX10_setOwner cX10_setOwner 3 none ∈ wALL := tb_4 (List.mem_of_getElem? (i := 38) rfl) rfl
theorem ml_RX10_55 : Cond.methodLink RX10 55 yX10_limitTo ∈ wALL := tb_4 (List.mem_of_getElem? (i := 39) rfl) rfl
theorem im_yX10_limitTo : Cond.instanceMethod yX10_limitTo ∈ wALL := tb_4 (List.mem_of_getElem? (i := 40) rfl) rfl
theorem se_yX10_limitTo : Cond.selects RX10 yX10_limitTo yX10_limitTo ∈ wALL := tb_4 (List.mem_of_getElem? (i := 41) rfl) rfl
theorem cd_yX10_limitTo : Cond.code yX10_limitTo cX10_limitTo 3 none ∈ wALL := tb_4 (List.mem_of_getElem? (i := 42) rfl) rfl
theorem ml_RX10_58 : Cond.methodLink RX10 58 yX10_letInherit ∈ wALL := tb_4 (List.mem_of_getElem? (i := 43) rfl) rfl
theorem im_yX10_letInherit : Cond.instanceMethod yX10_letInherit ∈ wALL := tb_4 (List.mem_of_getElem? (i := 44) rfl) rfl
theorem se_yX10_letInherit : Cond.selects RX10 yX10_letInherit yX10_letInherit ∈ wALL := tb_4 (List.mem_of_getElem? (i := 45) rfl) rfl
theorem cd_yX10_letInherit : Cond.code yX10_letInherit cX10_letInherit 3 none ∈ wALL := tb_4 (List.mem_of_getElem? (i := 46) rfl) rfl
theorem ml_RL_222 : Cond.methodLink RL 222 yX12_make ∈ wALL := tb_7 (List.mem_of_getElem? (i := 53) rfl) rfl
theorem im_yX12_make : Cond.instanceMethod yX12_make ∈ wALL := tb_7 (List.mem_of_getElem? (i := 54) rfl) rfl
theorem se_yX12_make : Cond.selects RX12 yX12_make yX12_make ∈ wALL := tb_7 (List.mem_of_getElem? (i := 55) rfl) rfl
theorem cd_yX12_make : Cond.code yX12_make cX12_make 4 (some .int) ∈ wALL := tb_7 (List.mem_of_getElem? (i := 56) rfl) rfl
theorem ml_RX12_57 : Cond.methodLink RX12 57 yX12_isObject ∈ wALL := tb_7 (List.mem_of_getElem? (i := 57) rfl) rfl
theorem im_yX12_isObject : Cond.instanceMethod yX12_isObject ∈ wALL := tb_7 (List.mem_of_getElem? (i := 59) rfl) rfl
theorem se_yX12_isObject : Cond.selects RX12 yX12_isObject yX12_isObject ∈ wALL := tp_3 (n := 15) (List.mem_of_getElem? (i := 9) rfl) rfl
theorem cd_yX12_isObject : Cond.code yX12_isObject cX12_isObject 2 (some .boolean) ∈ wALL := tb_7 (List.mem_of_getElem? (i := 60) rfl) rfl
theorem ml_RX12_54 : Cond.methodLink RX12 54 yX12_of ∈ wALL := tb_7 (List.mem_of_getElem? (i := 61) rfl) rfl
theorem im_yX12_of : Cond.instanceMethod yX12_of ∈ wALL := tb_7 (List.mem_of_getElem? (i := 63) rfl) rfl
theorem se_yX12_of : Cond.selects RX12 yX12_of yX12_of ∈ wALL := tp_3 (n := 15) (List.mem_of_getElem? (i := 10) rfl) rfl
theorem cd_yX12_of : Cond.code yX12_of cX12_of 3 (some .int) ∈ wALL := tb_7 (List.mem_of_getElem? (i := 64) rfl) rfl
theorem ml_RX12_94 : Cond.methodLink RX12 94 yX12_howManyObjects ∈ wALL := tb_7 (List.mem_of_getElem? (i := 65) rfl) rfl
theorem im_yX12_howManyObjects : Cond.instanceMethod yX12_howManyObjects ∈ wALL := tb_7 (List.mem_of_getElem? (i := 67) rfl) rfl
theorem se_yX12_howManyObjects : Cond.selects RX12 yX12_howManyObjects yX12_howManyObjects ∈ wALL := tp_3 (n := 15) (List.mem_of_getElem? (i := 11) rfl) rfl
theorem cd_yX12_howManyObjects : Cond.code yX12_howManyObjects cX12_howManyObjects 3 (some .int) ∈ wALL := tb_7 (List.mem_of_getElem? (i := 68) rfl) rfl
theorem ml_RL_223 : Cond.methodLink RL 223 yL_remove ∈ wALL := tb_4 (List.mem_of_getElem? (i := 47) rfl) rfl
theorem st_yL_remove : Cond.static yL_remove ∈ wALL := tb_4 (List.mem_of_getElem? (i := 48) rfl) rfl
theorem cw_yL_remove : Cond.codeWith yL_remove cL_remove 4 (some .int) [(0, 9, 12, 22), (0, 9, 15, 13)] ∈ wALL := tb_4 (List.mem_of_getElem? (i := 49) rfl) rfl
theorem ml_RL_36 : Cond.methodLink RL 36 yX11_remove ∈ wALL := tb_4 (List.mem_of_getElem? (i := 50) rfl) rfl
theorem im_yX11_remove : Cond.instanceMethod yX11_remove ∈ wALL := tb_4 (List.mem_of_getElem? (i := 51) rfl) rfl
theorem se_yX11_remove : Cond.selects RX11 yX11_remove yX11_remove ∈ wALL := tb_4 (List.mem_of_getElem? (i := 52) rfl) rfl
theorem cd_yX11_remove : Cond.code yX11_remove cX11_remove 2 (some .int) ∈ wALL := tb_4 (List.mem_of_getElem? (i := 53) rfl) rfl
theorem fl_RX11_150 : Cond.fieldLink RX11 150 "PermissionDesk$State" "lists" "LPermissionDesk$Lists;" ∈ wALL := tb_1 (List.mem_of_getElem? (i := 136) rfl) rfl
theorem ml_RX11_142 : Cond.methodLink RX11 142 yX10_countUnder ∈ wALL := tb_4 (List.mem_of_getElem? (i := 54) rfl) rfl
theorem im_yX10_countUnder : Cond.instanceMethod yX10_countUnder ∈ wALL := tb_4 (List.mem_of_getElem? (i := 55) rfl) rfl
theorem se_yX10_countUnder : Cond.selects RX10 yX10_countUnder yX10_countUnder ∈ wALL := tb_4 (List.mem_of_getElem? (i := 56) rfl) rfl
theorem cd_yX10_countUnder : Cond.code yX10_countUnder cX10_countUnder 4 (some .int) ∈ wALL := tb_4 (List.mem_of_getElem? (i := 57) rfl) rfl
theorem ml_RX10_75 : Cond.methodLink RX10 75 yX10_isUnder ∈ wALL := tb_4 (List.mem_of_getElem? (i := 58) rfl) rfl
theorem im_yX10_isUnder : Cond.instanceMethod yX10_isUnder ∈ wALL := tb_4 (List.mem_of_getElem? (i := 59) rfl) rfl
theorem se_yX10_isUnder : Cond.selects RX10 yX10_isUnder yX10_isUnder ∈ wALL := tb_4 (List.mem_of_getElem? (i := 60) rfl) rfl
theorem cd_yX10_isUnder : Cond.code yX10_isUnder cX10_isUnder 5 (some .boolean) ∈ wALL := tb_4 (List.mem_of_getElem? (i := 61) rfl) rfl
theorem ml_RX10_72 : Cond.methodLink RX10 72 yX10_parentAt ∈ wALL := tb_2 (List.mem_of_getElem? (i := 235) rfl) rfl
theorem im_yX10_parentAt : Cond.instanceMethod yX10_parentAt ∈ wALL := tb_2 (List.mem_of_getElem? (i := 236) rfl) rfl
theorem se_yX10_parentAt : Cond.selects RX10 yX10_parentAt yX10_parentAt ∈ wALL := tb_2 (List.mem_of_getElem? (i := 237) rfl) rfl
theorem cd_yX10_parentAt : Cond.code yX10_parentAt cX10_parentAt 2 (some .int) ∈ wALL := tb_2 (List.mem_of_getElem? (i := 238) rfl) rfl
theorem ml_RX10_62 : Cond.methodLink RX10 62 yX10_holds ∈ wALL := tb_2 (List.mem_of_getElem? (i := 195) rfl) rfl
theorem ml_RX11_147 : Cond.methodLink RX11 147 yX10_dropObject ∈ wALL := tb_4 (List.mem_of_getElem? (i := 63) rfl) rfl
theorem im_yX10_dropObject : Cond.instanceMethod yX10_dropObject ∈ wALL := tb_4 (List.mem_of_getElem? (i := 64) rfl) rfl
theorem se_yX10_dropObject : Cond.selects RX10 yX10_dropObject yX10_dropObject ∈ wALL := tb_4 (List.mem_of_getElem? (i := 65) rfl) rfl
theorem cd_yX10_dropObject : Cond.code yX10_dropObject cX10_dropObject 2 none ∈ wALL := tb_4 (List.mem_of_getElem? (i := 66) rfl) rfl
theorem ml_RX11_154 : Cond.methodLink RX11 154 yX6_empty ∈ wALL := tb_4 (List.mem_of_getElem? (i := 67) rfl) rfl
theorem im_yX6_empty : Cond.instanceMethod yX6_empty ∈ wALL := tb_4 (List.mem_of_getElem? (i := 68) rfl) rfl
theorem se_yX6_empty : Cond.selects RX6 yX6_empty yX6_empty ∈ wALL := tb_4 (List.mem_of_getElem? (i := 69) rfl) rfl
theorem cd_yX6_empty : Cond.code yX6_empty cX6_empty 2 none ∈ wALL := tb_4 (List.mem_of_getElem? (i := 70) rfl) rfl
theorem ml_RX11_159 : Cond.methodLink RX11 159 yX10_count ∈ wALL := tb_2 (List.mem_of_getElem? (i := 137) rfl) rfl
theorem im_yX10_count : Cond.instanceMethod yX10_count ∈ wALL := tb_2 (List.mem_of_getElem? (i := 138) rfl) rfl
theorem se_yX10_count : Cond.selects RX10 yX10_count yX10_count ∈ wALL := tb_2 (List.mem_of_getElem? (i := 139) rfl) rfl
theorem cd_yX10_count : Cond.code yX10_count cX10_count 1 (some .int) ∈ wALL := tb_2 (List.mem_of_getElem? (i := 140) rfl) rfl
theorem ml_RX10_34 : Cond.methodLink RX10 34 yJ6_bitCount_0f7a4 ∈ wALL := tb_2 (List.mem_of_getElem? (i := 141) rfl) rfl
theorem ml_RL_226 : Cond.methodLink RL 226 yX12_remove ∈ wALL := tb_7 (List.mem_of_getElem? (i := 69) rfl) rfl
theorem im_yX12_remove : Cond.instanceMethod yX12_remove ∈ wALL := tb_7 (List.mem_of_getElem? (i := 70) rfl) rfl
theorem se_yX12_remove : Cond.selects RX12 yX12_remove yX12_remove ∈ wALL := tb_7 (List.mem_of_getElem? (i := 71) rfl) rfl
theorem cd_yX12_remove : Cond.code yX12_remove cX12_remove 3 (some .int) ∈ wALL := tb_7 (List.mem_of_getElem? (i := 72) rfl) rfl
theorem ml_RX12_98 : Cond.methodLink RX12 98 yX12_belows ∈ wALL := tb_7 (List.mem_of_getElem? (i := 73) rfl) rfl
theorem im_yX12_belows : Cond.instanceMethod yX12_belows ∈ wALL := tb_7 (List.mem_of_getElem? (i := 75) rfl) rfl
theorem se_yX12_belows : Cond.selects RX12 yX12_belows yX12_belows ∈ wALL := tp_3 (n := 15) (List.mem_of_getElem? (i := 12) rfl) rfl
theorem cd_yX12_belows : Cond.code yX12_belows cX12_belows 4 (some .int) ∈ wALL := tb_7 (List.mem_of_getElem? (i := 76) rfl) rfl
theorem ml_RX12_91 : Cond.methodLink RX12 91 yX12_isBelow ∈ wALL := tb_7 (List.mem_of_getElem? (i := 77) rfl) rfl
theorem im_yX12_isBelow : Cond.instanceMethod yX12_isBelow ∈ wALL := tb_7 (List.mem_of_getElem? (i := 79) rfl) rfl
theorem se_yX12_isBelow : Cond.selects RX12 yX12_isBelow yX12_isBelow ∈ wALL := tp_3 (n := 15) (List.mem_of_getElem? (i := 13) rfl) rfl
theorem cd_yX12_isBelow : Cond.code yX12_isBelow cX12_isBelow 4 (some .boolean) ∈ wALL := tb_7 (List.mem_of_getElem? (i := 80) rfl) rfl
theorem ml_RL_227 : Cond.methodLink RL 227 yL_move ∈ wALL := tb_4 (List.mem_of_getElem? (i := 71) rfl) rfl
theorem st_yL_move : Cond.static yL_move ∈ wALL := tb_4 (List.mem_of_getElem? (i := 72) rfl) rfl
theorem cw_yL_move : Cond.codeWith yL_move cL_move 5 (some .int) [(0, 10, 13, 22), (0, 10, 17, 13)] ∈ wALL := tb_4 (List.mem_of_getElem? (i := 73) rfl) rfl
theorem ml_RL_40 : Cond.methodLink RL 40 yX11_move ∈ wALL := tb_4 (List.mem_of_getElem? (i := 74) rfl) rfl
theorem im_yX11_move : Cond.instanceMethod yX11_move ∈ wALL := tb_4 (List.mem_of_getElem? (i := 75) rfl) rfl
theorem se_yX11_move : Cond.selects RX11 yX11_move yX11_move ∈ wALL := tb_4 (List.mem_of_getElem? (i := 76) rfl) rfl
theorem cd_yX11_move : Cond.code yX11_move cX11_move 4 (some .int) ∈ wALL := tb_4 (List.mem_of_getElem? (i := 77) rfl) rfl
theorem ml_RX11_162 : Cond.methodLink RX11 162 yX10_isUnder ∈ wALL := tb_4 (List.mem_of_getElem? (i := 78) rfl) rfl
theorem ml_RX11_167 : Cond.methodLink RX11 167 yX10_parentAt ∈ wALL := tb_4 (List.mem_of_getElem? (i := 80) rfl) rfl
theorem ml_RX11_170 : Cond.methodLink RX11 170 yX10_setParent ∈ wALL := tb_4 (List.mem_of_getElem? (i := 81) rfl) rfl
theorem ml_RL_229 : Cond.methodLink RL 229 yX12_move ∈ wALL := tb_7 (List.mem_of_getElem? (i := 81) rfl) rfl
theorem im_yX12_move : Cond.instanceMethod yX12_move ∈ wALL := tb_7 (List.mem_of_getElem? (i := 82) rfl) rfl
theorem se_yX12_move : Cond.selects RX12 yX12_move yX12_move ∈ wALL := tb_7 (List.mem_of_getElem? (i := 83) rfl) rfl
theorem cd_yX12_move : Cond.code yX12_move cX12_move 4 (some .int) ∈ wALL := tb_7 (List.mem_of_getElem? (i := 84) rfl) rfl
theorem ml_RL_230 : Cond.methodLink RL 230 yL_giveTo ∈ wALL := tb_4 (List.mem_of_getElem? (i := 82) rfl) rfl
theorem st_yL_giveTo : Cond.static yL_giveTo ∈ wALL := tb_4 (List.mem_of_getElem? (i := 83) rfl) rfl
theorem cw_yL_giveTo : Cond.codeWith yL_giveTo cL_giveTo 5 (some .int) [(0, 10, 13, 22)] ∈ wALL := tb_4 (List.mem_of_getElem? (i := 84) rfl) rfl
theorem ml_RL_43 : Cond.methodLink RL 43 yX11_giveTo ∈ wALL := tb_4 (List.mem_of_getElem? (i := 85) rfl) rfl
theorem im_yX11_giveTo : Cond.instanceMethod yX11_giveTo ∈ wALL := tb_4 (List.mem_of_getElem? (i := 86) rfl) rfl
theorem se_yX11_giveTo : Cond.selects RX11 yX11_giveTo yX11_giveTo ∈ wALL := tb_4 (List.mem_of_getElem? (i := 87) rfl) rfl
theorem cd_yX11_giveTo : Cond.code yX11_giveTo cX11_giveTo 4 (some .int) ∈ wALL := tb_4 (List.mem_of_getElem? (i := 88) rfl) rfl
theorem ml_RX11_174 : Cond.methodLink RX11 174 yX10_ownerAt ∈ wALL := tb_4 (List.mem_of_getElem? (i := 89) rfl) rfl
theorem im_yX10_ownerAt : Cond.instanceMethod yX10_ownerAt ∈ wALL := tb_2 (List.mem_of_getElem? (i := 192) rfl) rfl
theorem se_yX10_ownerAt : Cond.selects RX10 yX10_ownerAt yX10_ownerAt ∈ wALL := tb_2 (List.mem_of_getElem? (i := 193) rfl) rfl
theorem cd_yX10_ownerAt : Cond.code yX10_ownerAt cX10_ownerAt 2 (some .int) ∈ wALL := tb_2 (List.mem_of_getElem? (i := 194) rfl) rfl
theorem ml_RX11_177 : Cond.methodLink RX11 177 yX10_setOwner ∈ wALL := tb_4 (List.mem_of_getElem? (i := 90) rfl) rfl
theorem ml_RL_232 : Cond.methodLink RL 232 yX12_giveTo ∈ wALL := tb_7 (List.mem_of_getElem? (i := 85) rfl) rfl
theorem im_yX12_giveTo : Cond.instanceMethod yX12_giveTo ∈ wALL := tb_7 (List.mem_of_getElem? (i := 86) rfl) rfl
theorem se_yX12_giveTo : Cond.selects RX12 yX12_giveTo yX12_giveTo ∈ wALL := tb_7 (List.mem_of_getElem? (i := 87) rfl) rfl
theorem cd_yX12_giveTo : Cond.code yX12_giveTo cX12_giveTo 4 (some .int) ∈ wALL := tb_7 (List.mem_of_getElem? (i := 88) rfl) rfl
theorem ml_RL_233 : Cond.methodLink RL 233 yL_setMask ∈ wALL := tb_4 (List.mem_of_getElem? (i := 91) rfl) rfl
theorem st_yL_setMask : Cond.static yL_setMask ∈ wALL := tb_4 (List.mem_of_getElem? (i := 92) rfl) rfl
theorem cw_yL_setMask : Cond.codeWith yL_setMask cL_setMask 5 (some .int) [(0, 10, 13, 22), (0, 10, 17, 49)] ∈ wALL := tb_4 (List.mem_of_getElem? (i := 93) rfl) rfl
theorem cl_RL_49 : Cond.classLink RL 49 "java/lang/IllegalArgumentException" ∈ wALL := tb_4 (List.mem_of_getElem? (i := 94) rfl) rfl
theorem ml_RL_46 : Cond.methodLink RL 46 yX11_setMask ∈ wALL := tb_4 (List.mem_of_getElem? (i := 95) rfl) rfl
theorem im_yX11_setMask : Cond.instanceMethod yX11_setMask ∈ wALL := tb_4 (List.mem_of_getElem? (i := 96) rfl) rfl
theorem se_yX11_setMask : Cond.selects RX11 yX11_setMask yX11_setMask ∈ wALL := tb_4 (List.mem_of_getElem? (i := 97) rfl) rfl
theorem cd_yX11_setMask : Cond.code yX11_setMask cX11_setMask 4 (some .int) ∈ wALL := tb_4 (List.mem_of_getElem? (i := 98) rfl) rfl
theorem ml_RX11_180 : Cond.methodLink RX11 180 yX11_requireRights ∈ wALL := tb_4 (List.mem_of_getElem? (i := 99) rfl) rfl
theorem im_yX11_requireRights : Cond.instanceMethod yX11_requireRights ∈ wALL := tb_4 (List.mem_of_getElem? (i := 101) rfl) rfl
theorem se_yX11_requireRights : Cond.selects RX11 yX11_requireRights yX11_requireRights ∈ wALL := tp_1 (n := 7) (List.mem_of_getElem? (i := 15) rfl) rfl
theorem cd_yX11_requireRights : Cond.code yX11_requireRights cX11_requireRights 3 none ∈ wALL := tb_4 (List.mem_of_getElem? (i := 102) rfl) rfl
theorem cl_RX11_252 : Cond.classLink RX11 252 "java/lang/IllegalArgumentException" ∈ wALL := tb_4 (List.mem_of_getElem? (i := 103) rfl) rfl
theorem in_java_lang_IllegalArgumentException : Cond.initialized "java/lang/IllegalArgumentException" ∈ wALL := tb_1 (List.mem_of_getElem? (i := 21) rfl) rfl
theorem ml_RX11_183 : Cond.methodLink RX11 183 yX10_maskAt ∈ wALL := tb_4 (List.mem_of_getElem? (i := 119) rfl) rfl
theorem im_yX10_maskAt : Cond.instanceMethod yX10_maskAt ∈ wALL := tb_3 (List.mem_of_getElem? (i := 8) rfl) rfl
theorem se_yX10_maskAt : Cond.selects RX10 yX10_maskAt yX10_maskAt ∈ wALL := tb_3 (List.mem_of_getElem? (i := 9) rfl) rfl
theorem cd_yX10_maskAt : Cond.code yX10_maskAt cX10_maskAt 2 (some .int) ∈ wALL := tb_3 (List.mem_of_getElem? (i := 10) rfl) rfl
theorem ml_RX11_186 : Cond.methodLink RX11 186 yX10_limitTo ∈ wALL := tb_4 (List.mem_of_getElem? (i := 120) rfl) rfl
theorem ml_RL_235 : Cond.methodLink RL 235 yX12_setMask ∈ wALL := tb_7 (List.mem_of_getElem? (i := 89) rfl) rfl
theorem im_yX12_setMask : Cond.instanceMethod yX12_setMask ∈ wALL := tb_7 (List.mem_of_getElem? (i := 90) rfl) rfl
theorem se_yX12_setMask : Cond.selects RX12 yX12_setMask yX12_setMask ∈ wALL := tb_7 (List.mem_of_getElem? (i := 91) rfl) rfl
theorem cd_yX12_setMask : Cond.code yX12_setMask cX12_setMask 4 (some .int) ∈ wALL := tb_7 (List.mem_of_getElem? (i := 92) rfl) rfl
theorem ml_RL_236 : Cond.methodLink RL 236 yL_setInheriting ∈ wALL := tb_4 (List.mem_of_getElem? (i := 121) rfl) rfl
theorem st_yL_setInheriting : Cond.static yL_setInheriting ∈ wALL := tb_4 (List.mem_of_getElem? (i := 122) rfl) rfl
theorem cw_yL_setInheriting : Cond.codeWith yL_setInheriting cL_setInheriting 5 (some .int) [(0, 17, 20, 22)] ∈ wALL := tb_4 (List.mem_of_getElem? (i := 123) rfl) rfl
theorem ml_RL_51 : Cond.methodLink RL 51 yX11_setInheriting ∈ wALL := tb_4 (List.mem_of_getElem? (i := 124) rfl) rfl
theorem im_yX11_setInheriting : Cond.instanceMethod yX11_setInheriting ∈ wALL := tb_4 (List.mem_of_getElem? (i := 125) rfl) rfl
theorem se_yX11_setInheriting : Cond.selects RX11 yX11_setInheriting yX11_setInheriting ∈ wALL := tb_4 (List.mem_of_getElem? (i := 126) rfl) rfl
theorem cd_yX11_setInheriting : Cond.code yX11_setInheriting cX11_setInheriting 4 (some .boolean) ∈ wALL := tb_4 (List.mem_of_getElem? (i := 127) rfl) rfl
theorem ml_RX11_189 : Cond.methodLink RX11 189 yX10_inherits ∈ wALL := tb_4 (List.mem_of_getElem? (i := 128) rfl) rfl
theorem im_yX10_inherits : Cond.instanceMethod yX10_inherits ∈ wALL := tb_2 (List.mem_of_getElem? (i := 231) rfl) rfl
theorem se_yX10_inherits : Cond.selects RX10 yX10_inherits yX10_inherits ∈ wALL := tb_2 (List.mem_of_getElem? (i := 232) rfl) rfl
theorem cd_yX10_inherits : Cond.code yX10_inherits cX10_inherits 2 (some .boolean) ∈ wALL := tb_2 (List.mem_of_getElem? (i := 233) rfl) rfl
theorem ml_RX11_193 : Cond.methodLink RX11 193 yX10_letInherit ∈ wALL := tb_4 (List.mem_of_getElem? (i := 129) rfl) rfl
theorem ml_RL_239 : Cond.methodLink RL 239 yX12_setInheriting ∈ wALL := tb_7 (List.mem_of_getElem? (i := 93) rfl) rfl
theorem im_yX12_setInheriting : Cond.instanceMethod yX12_setInheriting ∈ wALL := tb_7 (List.mem_of_getElem? (i := 94) rfl) rfl
theorem se_yX12_setInheriting : Cond.selects RX12 yX12_setInheriting yX12_setInheriting ∈ wALL := tb_7 (List.mem_of_getElem? (i := 95) rfl) rfl
theorem cd_yX12_setInheriting : Cond.code yX12_setInheriting cX12_setInheriting 4 (some .boolean) ∈ wALL := tb_7 (List.mem_of_getElem? (i := 96) rfl) rfl
theorem ml_RL_240 : Cond.methodLink RL 240 yL_addForUser ∈ wALL := tb_4 (List.mem_of_getElem? (i := 130) rfl) rfl
theorem st_yL_addForUser : Cond.static yL_addForUser ∈ wALL := tb_4 (List.mem_of_getElem? (i := 131) rfl) rfl
theorem cw_yL_addForUser : Cond.codeWith yL_addForUser cL_addForUser 8 (some .int) [(0, 16, 19, 22), (0, 16, 23, 49), (0, 16, 27, 13)] ∈ wALL := tb_4 (List.mem_of_getElem? (i := 132) rfl) rfl
theorem ml_RL_55 : Cond.methodLink RL 55 yX11_addForUser ∈ wALL := tb_4 (List.mem_of_getElem? (i := 133) rfl) rfl
theorem im_yX11_addForUser : Cond.instanceMethod yX11_addForUser ∈ wALL := tb_4 (List.mem_of_getElem? (i := 134) rfl) rfl
theorem se_yX11_addForUser : Cond.selects RX11 yX11_addForUser yX11_addForUser ∈ wALL := tb_4 (List.mem_of_getElem? (i := 135) rfl) rfl
theorem cd_yX11_addForUser : Cond.code yX11_addForUser cX11_addForUser 6 (some .int) ∈ wALL := tb_4 (List.mem_of_getElem? (i := 136) rfl) rfl
theorem ml_RX11_199 : Cond.methodLink RX11 199 yX11_addLast ∈ wALL := tb_4 (List.mem_of_getElem? (i := 137) rfl) rfl
theorem im_yX11_addLast : Cond.instanceMethod yX11_addLast ∈ wALL := tb_4 (List.mem_of_getElem? (i := 139) rfl) rfl
theorem se_yX11_addLast : Cond.selects RX11 yX11_addLast yX11_addLast ∈ wALL := tp_2 (n := 7) (List.mem_of_getElem? (i := 0) rfl) rfl
theorem cd_yX11_addLast : Cond.code yX11_addLast cX11_addLast 8 (some .int) ∈ wALL := tb_4 (List.mem_of_getElem? (i := 140) rfl) rfl
theorem ml_RX11_245 : Cond.methodLink RX11 245 yX11_requireRoom ∈ wALL := tb_4 (List.mem_of_getElem? (i := 141) rfl) rfl
theorem im_yX11_requireRoom : Cond.instanceMethod yX11_requireRoom ∈ wALL := tb_4 (List.mem_of_getElem? (i := 143) rfl) rfl
theorem se_yX11_requireRoom : Cond.selects RX11 yX11_requireRoom yX11_requireRoom ∈ wALL := tp_2 (n := 7) (List.mem_of_getElem? (i := 1) rfl) rfl
theorem cd_yX11_requireRoom : Cond.code yX11_requireRoom cX11_requireRoom 2 none ∈ wALL := tb_4 (List.mem_of_getElem? (i := 144) rfl) rfl
theorem ml_RX11_210 : Cond.methodLink RX11 210 yX6_countAt ∈ wALL := tb_4 (List.mem_of_getElem? (i := 145) rfl) rfl
theorem im_yX6_countAt : Cond.instanceMethod yX6_countAt ∈ wALL := tb_2 (List.mem_of_getElem? (i := 197) rfl) rfl
theorem se_yX6_countAt : Cond.selects RX6 yX6_countAt yX6_countAt ∈ wALL := tb_2 (List.mem_of_getElem? (i := 198) rfl) rfl
theorem cd_yX6_countAt : Cond.code yX6_countAt cX6_countAt 2 (some .int) ∈ wALL := tb_2 (List.mem_of_getElem? (i := 199) rfl) rfl
theorem ml_RX11_248 : Cond.methodLink RX11 248 yX1_code ∈ wALL := tb_4 (List.mem_of_getElem? (i := 147) rfl) rfl
theorem st_yX1_code : Cond.static yX1_code ∈ wALL := tb_2 (List.mem_of_getElem? (i := 122) rfl) rfl
theorem in_RX1 : Cond.initialized RX1 ∈ wALL := tb_1 (List.mem_of_getElem? (i := 22) rfl) rfl
theorem cd_yX1_code : Cond.code yX1_code cX1_code 6 (some .int) ∈ wALL := tb_2 (List.mem_of_getElem? (i := 123) rfl) rfl
theorem ml_RX11_216 : Cond.methodLink RX11 216 yX6_putIn ∈ wALL := tb_4 (List.mem_of_getElem? (i := 148) rfl) rfl
theorem im_yX6_putIn : Cond.instanceMethod yX6_putIn ∈ wALL := tb_4 (List.mem_of_getElem? (i := 149) rfl) rfl
theorem se_yX6_putIn : Cond.selects RX6 yX6_putIn yX6_putIn ∈ wALL := tb_4 (List.mem_of_getElem? (i := 150) rfl) rfl
theorem cd_yX6_putIn : Cond.code yX6_putIn cX6_putIn 5 none ∈ wALL := tb_4 (List.mem_of_getElem? (i := 151) rfl) rfl
theorem ml_RX6_28 : Cond.methodLink RX6 28 yX6_entryAt ∈ wALL := tb_4 (List.mem_of_getElem? (i := 152) rfl) rfl
theorem im_yX6_entryAt : Cond.instanceMethod yX6_entryAt ∈ wALL := tb_2 (List.mem_of_getElem? (i := 202) rfl) rfl
theorem se_yX6_entryAt : Cond.selects RX6 yX6_entryAt yX6_entryAt ∈ wALL := tb_2 (List.mem_of_getElem? (i := 203) rfl) rfl
theorem cd_yX6_entryAt : Cond.code yX6_entryAt cX6_entryAt 3 (some .int) ∈ wALL := tb_2 (List.mem_of_getElem? (i := 204) rfl) rfl
theorem ml_RX6_32 : Cond.methodLink RX6 32 yX6_setEntry ∈ wALL := tb_4 (List.mem_of_getElem? (i := 153) rfl) rfl
theorem im_yX6_setEntry : Cond.instanceMethod yX6_setEntry ∈ wALL := tb_4 (List.mem_of_getElem? (i := 155) rfl) rfl
theorem se_yX6_setEntry : Cond.selects RX6 yX6_setEntry yX6_setEntry ∈ wALL := tp_2 (n := 2) (List.mem_of_getElem? (i := 2) rfl) rfl
theorem cd_yX6_setEntry : Cond.code yX6_setEntry cX6_setEntry 4 none ∈ wALL := tb_4 (List.mem_of_getElem? (i := 156) rfl) rfl
theorem ml_RL_243 : Cond.methodLink RL 243 yX12_addForUser ∈ wALL := tb_7 (List.mem_of_getElem? (i := 97) rfl) rfl
theorem im_yX12_addForUser : Cond.instanceMethod yX12_addForUser ∈ wALL := tb_7 (List.mem_of_getElem? (i := 98) rfl) rfl
theorem se_yX12_addForUser : Cond.selects RX12 yX12_addForUser yX12_addForUser ∈ wALL := tb_7 (List.mem_of_getElem? (i := 99) rfl) rfl
theorem cd_yX12_addForUser : Cond.code yX12_addForUser cX12_addForUser 6 (some .int) ∈ wALL := tb_7 (List.mem_of_getElem? (i := 100) rfl) rfl
theorem ml_RX12_108 : Cond.methodLink RX12 108 yX12_adds ∈ wALL := tb_7 (List.mem_of_getElem? (i := 101) rfl) rfl
theorem im_yX12_adds : Cond.instanceMethod yX12_adds ∈ wALL := tb_7 (List.mem_of_getElem? (i := 103) rfl) rfl
theorem se_yX12_adds : Cond.selects RX12 yX12_adds yX12_adds ∈ wALL := tp_3 (n := 15) (List.mem_of_getElem? (i := 14) rfl) rfl
theorem cd_yX12_adds : Cond.code yX12_adds cX12_adds 8 (some .int) ∈ wALL := tb_7 (List.mem_of_getElem? (i := 104) rfl) rfl
theorem ml_RX12_101 : Cond.methodLink RX12 101 yX12_areRights ∈ wALL := tb_7 (List.mem_of_getElem? (i := 105) rfl) rfl
theorem st_yX12_areRights : Cond.static yX12_areRights ∈ wALL := tb_7 (List.mem_of_getElem? (i := 106) rfl) rfl
theorem cd_yX12_areRights : Cond.code yX12_areRights cX12_areRights 1 (some .boolean) ∈ wALL := tb_7 (List.mem_of_getElem? (i := 107) rfl) rfl
theorem ml_RX12_104 : Cond.methodLink RX12 104 yX12_writes ∈ wALL := tb_7 (List.mem_of_getElem? (i := 108) rfl) rfl
theorem im_yX12_writes : Cond.instanceMethod yX12_writes ∈ wALL := tb_7 (List.mem_of_getElem? (i := 110) rfl) rfl
theorem se_yX12_writes : Cond.selects RX12 yX12_writes yX12_writes ∈ wALL := tp_3 (n := 15) (List.mem_of_getElem? (i := 15) rfl) rfl
theorem cd_yX12_writes : Cond.code yX12_writes cX12_writes 8 none ∈ wALL := tb_7 (List.mem_of_getElem? (i := 111) rfl) rfl
theorem ml_RX12_61 : Cond.methodLink RX12 61 yX12_entryAt ∈ wALL := tb_7 (List.mem_of_getElem? (i := 112) rfl) rfl
theorem st_yX12_entryAt : Cond.static yX12_entryAt ∈ wALL := tb_7 (List.mem_of_getElem? (i := 113) rfl) rfl
theorem cd_yX12_entryAt : Cond.code yX12_entryAt cX12_entryAt 3 (some .int) ∈ wALL := tb_7 (List.mem_of_getElem? (i := 114) rfl) rfl
theorem ml_RL_244 : Cond.methodLink RL 244 yL_addForGroup ∈ wALL := tb_4 (List.mem_of_getElem? (i := 157) rfl) rfl
theorem st_yL_addForGroup : Cond.static yL_addForGroup ∈ wALL := tb_4 (List.mem_of_getElem? (i := 158) rfl) rfl
theorem cw_yL_addForGroup : Cond.codeWith yL_addForGroup cL_addForGroup 8 (some .int) [(0, 16, 19, 22), (0, 16, 23, 49), (0, 16, 27, 13)] ∈ wALL := tb_4 (List.mem_of_getElem? (i := 159) rfl) rfl
theorem ml_RL_59 : Cond.methodLink RL 59 yX11_addForGroup ∈ wALL := tb_4 (List.mem_of_getElem? (i := 160) rfl) rfl
theorem im_yX11_addForGroup : Cond.instanceMethod yX11_addForGroup ∈ wALL := tb_4 (List.mem_of_getElem? (i := 161) rfl) rfl
theorem se_yX11_addForGroup : Cond.selects RX11 yX11_addForGroup yX11_addForGroup ∈ wALL := tb_4 (List.mem_of_getElem? (i := 162) rfl) rfl
theorem cd_yX11_addForGroup : Cond.code yX11_addForGroup cX11_addForGroup 6 (some .int) ∈ wALL := tb_4 (List.mem_of_getElem? (i := 163) rfl) rfl
theorem ml_RL_246 : Cond.methodLink RL 246 yX12_addForGroup ∈ wALL := tb_7 (List.mem_of_getElem? (i := 115) rfl) rfl
theorem im_yX12_addForGroup : Cond.instanceMethod yX12_addForGroup ∈ wALL := tb_7 (List.mem_of_getElem? (i := 116) rfl) rfl
theorem se_yX12_addForGroup : Cond.selects RX12 yX12_addForGroup yX12_addForGroup ∈ wALL := tb_7 (List.mem_of_getElem? (i := 117) rfl) rfl
theorem cd_yX12_addForGroup : Cond.code yX12_addForGroup cX12_addForGroup 6 (some .int) ∈ wALL := tb_7 (List.mem_of_getElem? (i := 118) rfl) rfl
theorem ml_RL_247 : Cond.methodLink RL 247 yL_addForOwner ∈ wALL := tb_4 (List.mem_of_getElem? (i := 164) rfl) rfl
theorem st_yL_addForOwner : Cond.static yL_addForOwner ∈ wALL := tb_4 (List.mem_of_getElem? (i := 165) rfl) rfl
theorem cw_yL_addForOwner : Cond.codeWith yL_addForOwner cL_addForOwner 7 (some .int) [(0, 14, 17, 22), (0, 14, 21, 49), (0, 14, 25, 13)] ∈ wALL := tb_4 (List.mem_of_getElem? (i := 166) rfl) rfl
theorem ml_RL_62 : Cond.methodLink RL 62 yX11_addForOwner ∈ wALL := tb_4 (List.mem_of_getElem? (i := 167) rfl) rfl
theorem im_yX11_addForOwner : Cond.instanceMethod yX11_addForOwner ∈ wALL := tb_4 (List.mem_of_getElem? (i := 168) rfl) rfl
theorem se_yX11_addForOwner : Cond.selects RX11 yX11_addForOwner yX11_addForOwner ∈ wALL := tb_4 (List.mem_of_getElem? (i := 169) rfl) rfl
theorem cd_yX11_addForOwner : Cond.code yX11_addForOwner cX11_addForOwner 5 (some .int) ∈ wALL := tb_4 (List.mem_of_getElem? (i := 170) rfl) rfl
theorem ml_RL_250 : Cond.methodLink RL 250 yX12_addForOwner ∈ wALL := tb_7 (List.mem_of_getElem? (i := 119) rfl) rfl
theorem im_yX12_addForOwner : Cond.instanceMethod yX12_addForOwner ∈ wALL := tb_7 (List.mem_of_getElem? (i := 120) rfl) rfl
theorem se_yX12_addForOwner : Cond.selects RX12 yX12_addForOwner yX12_addForOwner ∈ wALL := tb_7 (List.mem_of_getElem? (i := 121) rfl) rfl
theorem cd_yX12_addForOwner : Cond.code yX12_addForOwner cX12_addForOwner 5 (some .int) ∈ wALL := tb_7 (List.mem_of_getElem? (i := 122) rfl) rfl
theorem ml_RL_251 : Cond.methodLink RL 251 yL_addForAll ∈ wALL := tb_4 (List.mem_of_getElem? (i := 171) rfl) rfl
theorem st_yL_addForAll : Cond.static yL_addForAll ∈ wALL := tb_4 (List.mem_of_getElem? (i := 172) rfl) rfl
theorem cw_yL_addForAll : Cond.codeWith yL_addForAll cL_addForAll 7 (some .int) [(0, 14, 17, 22), (0, 14, 21, 49), (0, 14, 25, 13)] ∈ wALL := tb_4 (List.mem_of_getElem? (i := 173) rfl) rfl
theorem ml_RL_66 : Cond.methodLink RL 66 yX11_addForAll ∈ wALL := tb_4 (List.mem_of_getElem? (i := 174) rfl) rfl
theorem im_yX11_addForAll : Cond.instanceMethod yX11_addForAll ∈ wALL := tb_4 (List.mem_of_getElem? (i := 175) rfl) rfl
theorem se_yX11_addForAll : Cond.selects RX11 yX11_addForAll yX11_addForAll ∈ wALL := tb_4 (List.mem_of_getElem? (i := 176) rfl) rfl
theorem cd_yX11_addForAll : Cond.code yX11_addForAll cX11_addForAll 5 (some .int) ∈ wALL := tb_4 (List.mem_of_getElem? (i := 177) rfl) rfl
theorem ml_RL_253 : Cond.methodLink RL 253 yX12_addForAll ∈ wALL := tb_7 (List.mem_of_getElem? (i := 123) rfl) rfl
theorem im_yX12_addForAll : Cond.instanceMethod yX12_addForAll ∈ wALL := tb_7 (List.mem_of_getElem? (i := 124) rfl) rfl
theorem se_yX12_addForAll : Cond.selects RX12 yX12_addForAll yX12_addForAll ∈ wALL := tb_7 (List.mem_of_getElem? (i := 125) rfl) rfl
theorem cd_yX12_addForAll : Cond.code yX12_addForAll cX12_addForAll 5 (some .int) ∈ wALL := tb_7 (List.mem_of_getElem? (i := 126) rfl) rfl
theorem ml_RL_254 : Cond.methodLink RL 254 yL_removeEntry ∈ wALL := tb_4 (List.mem_of_getElem? (i := 178) rfl) rfl
theorem st_yL_removeEntry : Cond.static yL_removeEntry ∈ wALL := tb_4 (List.mem_of_getElem? (i := 179) rfl) rfl
theorem cw_yL_removeEntry : Cond.codeWith yL_removeEntry cL_removeEntry 5 (some .int) [(0, 10, 13, 22)] ∈ wALL := tb_4 (List.mem_of_getElem? (i := 180) rfl) rfl
theorem ml_RL_69 : Cond.methodLink RL 69 yX11_removeEntry ∈ wALL := tb_4 (List.mem_of_getElem? (i := 181) rfl) rfl
theorem im_yX11_removeEntry : Cond.instanceMethod yX11_removeEntry ∈ wALL := tb_4 (List.mem_of_getElem? (i := 182) rfl) rfl
theorem se_yX11_removeEntry : Cond.selects RX11 yX11_removeEntry yX11_removeEntry ∈ wALL := tb_4 (List.mem_of_getElem? (i := 183) rfl) rfl
theorem cd_yX11_removeEntry : Cond.code yX11_removeEntry cX11_removeEntry 3 (some .int) ∈ wALL := tb_4 (List.mem_of_getElem? (i := 184) rfl) rfl
theorem ml_RX11_203 : Cond.methodLink RX11 203 yX11_requireEntry ∈ wALL := tb_4 (List.mem_of_getElem? (i := 185) rfl) rfl
theorem im_yX11_requireEntry : Cond.instanceMethod yX11_requireEntry ∈ wALL := tb_4 (List.mem_of_getElem? (i := 187) rfl) rfl
theorem se_yX11_requireEntry : Cond.selects RX11 yX11_requireEntry yX11_requireEntry ∈ wALL := tp_2 (n := 7) (List.mem_of_getElem? (i := 3) rfl) rfl
theorem cd_yX11_requireEntry : Cond.code yX11_requireEntry cX11_requireEntry 3 none ∈ wALL := tb_4 (List.mem_of_getElem? (i := 188) rfl) rfl
theorem ml_RX11_394 : Cond.methodLink RX11 394 yX11_isIndex ∈ wALL := tb_4 (List.mem_of_getElem? (i := 189) rfl) rfl
theorem ml_RX11_206 : Cond.methodLink RX11 206 yX6_takeOut ∈ wALL := tb_4 (List.mem_of_getElem? (i := 191) rfl) rfl
theorem im_yX6_takeOut : Cond.instanceMethod yX6_takeOut ∈ wALL := tb_4 (List.mem_of_getElem? (i := 192) rfl) rfl
theorem se_yX6_takeOut : Cond.selects RX6 yX6_takeOut yX6_takeOut ∈ wALL := tb_4 (List.mem_of_getElem? (i := 193) rfl) rfl
theorem cd_yX6_takeOut : Cond.code yX6_takeOut cX6_takeOut 5 (some .int) ∈ wALL := tb_4 (List.mem_of_getElem? (i := 194) rfl) rfl
theorem ml_RL_256 : Cond.methodLink RL 256 yX12_removeEntry ∈ wALL := tb_7 (List.mem_of_getElem? (i := 127) rfl) rfl
theorem im_yX12_removeEntry : Cond.instanceMethod yX12_removeEntry ∈ wALL := tb_7 (List.mem_of_getElem? (i := 128) rfl) rfl
theorem se_yX12_removeEntry : Cond.selects RX12 yX12_removeEntry yX12_removeEntry ∈ wALL := tb_7 (List.mem_of_getElem? (i := 129) rfl) rfl
theorem cd_yX12_removeEntry : Cond.code yX12_removeEntry cX12_removeEntry 3 (some .int) ∈ wALL := tb_7 (List.mem_of_getElem? (i := 130) rfl) rfl
theorem ml_RX12_112 : Cond.methodLink RX12 112 yX12_isEntry ∈ wALL := tb_7 (List.mem_of_getElem? (i := 131) rfl) rfl
theorem im_yX12_isEntry : Cond.instanceMethod yX12_isEntry ∈ wALL := tb_7 (List.mem_of_getElem? (i := 133) rfl) rfl
theorem se_yX12_isEntry : Cond.selects RX12 yX12_isEntry yX12_isEntry ∈ wALL := tp_4 (n := 15) (List.mem_of_getElem? (i := 0) rfl) rfl
theorem cd_yX12_isEntry : Cond.code yX12_isEntry cX12_isEntry 3 (some .boolean) ∈ wALL := tb_7 (List.mem_of_getElem? (i := 134) rfl) rfl
theorem ml_RX12_115 : Cond.methodLink RX12 115 yX12_takesOut ∈ wALL := tb_7 (List.mem_of_getElem? (i := 135) rfl) rfl
theorem im_yX12_takesOut : Cond.instanceMethod yX12_takesOut ∈ wALL := tb_7 (List.mem_of_getElem? (i := 137) rfl) rfl
theorem se_yX12_takesOut : Cond.selects RX12 yX12_takesOut yX12_takesOut ∈ wALL := tp_4 (n := 15) (List.mem_of_getElem? (i := 1) rfl) rfl
theorem cd_yX12_takesOut : Cond.code yX12_takesOut cX12_takesOut 4 none ∈ wALL := tb_7 (List.mem_of_getElem? (i := 138) rfl) rfl
theorem ml_RL_257 : Cond.methodLink RL 257 yL_moveEntry ∈ wALL := tb_4 (List.mem_of_getElem? (i := 195) rfl) rfl
theorem st_yL_moveEntry : Cond.static yL_moveEntry ∈ wALL := tb_4 (List.mem_of_getElem? (i := 196) rfl) rfl
theorem cw_yL_moveEntry : Cond.codeWith yL_moveEntry cL_moveEntry 6 (some .int) [(0, 12, 15, 22)] ∈ wALL := tb_4 (List.mem_of_getElem? (i := 197) rfl) rfl
theorem ml_RL_72 : Cond.methodLink RL 72 yX11_moveEntry ∈ wALL := tb_4 (List.mem_of_getElem? (i := 198) rfl) rfl
theorem im_yX11_moveEntry : Cond.instanceMethod yX11_moveEntry ∈ wALL := tb_4 (List.mem_of_getElem? (i := 199) rfl) rfl
theorem se_yX11_moveEntry : Cond.selects RX11 yX11_moveEntry yX11_moveEntry ∈ wALL := tb_4 (List.mem_of_getElem? (i := 200) rfl) rfl
theorem cd_yX11_moveEntry : Cond.code yX11_moveEntry cX11_moveEntry 5 (some .int) ∈ wALL := tb_4 (List.mem_of_getElem? (i := 201) rfl) rfl
theorem ml_RX11_213 : Cond.methodLink RX11 213 yX4_keepTable ∈ wALL := tb_4 (List.mem_of_getElem? (i := 202) rfl) rfl
theorem im_yX4_keepTable : Cond.instanceMethod yX4_keepTable ∈ wALL := tb_4 (List.mem_of_getElem? (i := 203) rfl) rfl
theorem se_yX4_keepTable : Cond.selects RX4 yX4_keepTable yX4_keepTable ∈ wALL := tb_4 (List.mem_of_getElem? (i := 204) rfl) rfl
theorem cd_yX4_keepTable : Cond.code yX4_keepTable cX4_keepTable 4 none ∈ wALL := tb_4 (List.mem_of_getElem? (i := 205) rfl) rfl
theorem ml_RX4_21 : Cond.methodLink RX4 21 yX4_rightsAt ∈ wALL := tb_2 (List.mem_of_getElem? (i := 163) rfl) rfl
theorem im_yX4_rightsAt : Cond.instanceMethod yX4_rightsAt ∈ wALL := tb_2 (List.mem_of_getElem? (i := 164) rfl) rfl
theorem se_yX4_rightsAt : Cond.selects RX4 yX4_rightsAt yX4_rightsAt ∈ wALL := tb_2 (List.mem_of_getElem? (i := 165) rfl) rfl
theorem cd_yX4_rightsAt : Cond.code yX4_rightsAt cX4_rightsAt 6 (some .int) ∈ wALL := tb_2 (List.mem_of_getElem? (i := 166) rfl) rfl
theorem fl_RX4_29 : Cond.fieldLink RX4 29 "PermissionDesk$State" "club" "LPermissionDesk$Club;" ∈ wALL := tb_1 (List.mem_of_getElem? (i := 126) rfl) rfl
theorem fl_RX4_41 : Cond.fieldLink RX4 41 "PermissionDesk$State" "tree" "LPermissionDesk$Tree;" ∈ wALL := tb_1 (List.mem_of_getElem? (i := 132) rfl) rfl
theorem ml_RX4_35 : Cond.methodLink RX4 35 yX0_hasUser ∈ wALL := tb_2 (List.mem_of_getElem? (i := 167) rfl) rfl
theorem ml_RX4_45 : Cond.methodLink RX4 45 yX10_holds ∈ wALL := tb_2 (List.mem_of_getElem? (i := 172) rfl) rfl
theorem ml_RX4_50 : Cond.methodLink RX4 50 yX4_decide ∈ wALL := tb_2 (List.mem_of_getElem? (i := 173) rfl) rfl
theorem im_yX4_decide : Cond.instanceMethod yX4_decide ∈ wALL := tb_2 (List.mem_of_getElem? (i := 175) rfl) rfl
theorem se_yX4_decide : Cond.selects RX4 yX4_decide yX4_decide ∈ wALL := tp_1 (n := 3) (List.mem_of_getElem? (i := 7) rfl) rfl
theorem cd_yX4_decide : Cond.code yX4_decide cX4_decide 13 none ∈ wALL := tb_2 (List.mem_of_getElem? (i := 176) rfl) rfl
theorem fl_RX4_97 : Cond.fieldLink RX4 97 "PermissionDesk$State" "lists" "LPermissionDesk$Lists;" ∈ wALL := tb_1 (List.mem_of_getElem? (i := 137) rfl) rfl
theorem ml_RX4_85 : Cond.methodLink RX4 85 yJ7_fill_53178 ∈ wALL := tb_2 (List.mem_of_getElem? (i := 177) rfl) rfl
theorem st_yJ7_fill_53178 : Cond.static yJ7_fill_53178 ∈ wALL := tb_2 (List.mem_of_getElem? (i := 178) rfl) rfl
theorem in_RJ7 : Cond.initialized RJ7 ∈ wALL := tb_1 (List.mem_of_getElem? (i := 23) rfl) rfl
theorem cd_yJ7_fill_53178 : Cond.code yJ7_fill_53178 cJ7_fill_53178 4 none ∈ wALL := tb_2 (List.mem_of_getElem? (i := 179) rfl) rfl
theorem ml_RX4_91 : Cond.methodLink RX4 91 yX0_groupsOver ∈ wALL := tb_2 (List.mem_of_getElem? (i := 180) rfl) rfl
theorem im_yX0_groupsOver : Cond.instanceMethod yX0_groupsOver ∈ wALL := tb_2 (List.mem_of_getElem? (i := 181) rfl) rfl
theorem se_yX0_groupsOver : Cond.selects RX0 yX0_groupsOver yX0_groupsOver ∈ wALL := tb_2 (List.mem_of_getElem? (i := 182) rfl) rfl
theorem cd_yX0_groupsOver : Cond.code yX0_groupsOver cX0_groupsOver 2 (some .int) ∈ wALL := tb_2 (List.mem_of_getElem? (i := 183) rfl) rfl
theorem ml_RX4_94 : Cond.methodLink RX4 94 yX10_ownerAt ∈ wALL := tb_2 (List.mem_of_getElem? (i := 191) rfl) rfl
theorem ml_RX4_101 : Cond.methodLink RX4 101 yX6_countAt ∈ wALL := tb_2 (List.mem_of_getElem? (i := 196) rfl) rfl
theorem ml_RX4_106 : Cond.methodLink RX4 106 yX6_entryAt ∈ wALL := tb_2 (List.mem_of_getElem? (i := 201) rfl) rfl
theorem ml_RX4_110 : Cond.methodLink RX4 110 yX1_countsBelow ∈ wALL := tb_2 (List.mem_of_getElem? (i := 205) rfl) rfl
theorem st_yX1_countsBelow : Cond.static yX1_countsBelow ∈ wALL := tb_2 (List.mem_of_getElem? (i := 206) rfl) rfl
theorem cd_yX1_countsBelow : Cond.code yX1_countsBelow cX1_countsBelow 1 (some .boolean) ∈ wALL := tb_2 (List.mem_of_getElem? (i := 207) rfl) rfl
theorem ml_RX4_113 : Cond.methodLink RX4 113 yX1_isFor ∈ wALL := tb_2 (List.mem_of_getElem? (i := 208) rfl) rfl
theorem st_yX1_isFor : Cond.static yX1_isFor ∈ wALL := tb_2 (List.mem_of_getElem? (i := 209) rfl) rfl
theorem cd_yX1_isFor : Cond.code yX1_isFor cX1_isFor 4 (some .boolean) ∈ wALL := tb_2 (List.mem_of_getElem? (i := 210) rfl) rfl
theorem ml_RX1_11 : Cond.methodLink RX1 11 yX1_kind ∈ wALL := tb_2 (List.mem_of_getElem? (i := 211) rfl) rfl
theorem st_yX1_kind : Cond.static yX1_kind ∈ wALL := tb_2 (List.mem_of_getElem? (i := 212) rfl) rfl
theorem cd_yX1_kind : Cond.code yX1_kind cX1_kind 1 (some .int) ∈ wALL := tb_2 (List.mem_of_getElem? (i := 213) rfl) rfl
theorem ml_RX1_15 : Cond.methodLink RX1 15 yX1_number ∈ wALL := tb_2 (List.mem_of_getElem? (i := 214) rfl) rfl
theorem st_yX1_number : Cond.static yX1_number ∈ wALL := tb_2 (List.mem_of_getElem? (i := 215) rfl) rfl
theorem cd_yX1_number : Cond.code yX1_number cX1_number 1 (some .int) ∈ wALL := tb_2 (List.mem_of_getElem? (i := 216) rfl) rfl
theorem ml_RX4_117 : Cond.methodLink RX4 117 yX1_rights ∈ wALL := tb_2 (List.mem_of_getElem? (i := 218) rfl) rfl
theorem st_yX1_rights : Cond.static yX1_rights ∈ wALL := tb_2 (List.mem_of_getElem? (i := 219) rfl) rfl
theorem cd_yX1_rights : Cond.code yX1_rights cX1_rights 1 (some .int) ∈ wALL := tb_2 (List.mem_of_getElem? (i := 220) rfl) rfl
theorem ml_RX4_120 : Cond.methodLink RX4 120 yX4_settle ∈ wALL := tb_2 (List.mem_of_getElem? (i := 221) rfl) rfl
theorem im_yX4_settle : Cond.instanceMethod yX4_settle ∈ wALL := tb_2 (List.mem_of_getElem? (i := 223) rfl) rfl
theorem se_yX4_settle : Cond.selects RX4 yX4_settle yX4_settle ∈ wALL := tp_1 (n := 3) (List.mem_of_getElem? (i := 9) rfl) rfl
theorem cd_yX4_settle : Cond.code yX4_settle cX4_settle 5 none ∈ wALL := tb_2 (List.mem_of_getElem? (i := 224) rfl) rfl
theorem ml_RX4_124 : Cond.methodLink RX4 124 yX10_nextUp ∈ wALL := tb_2 (List.mem_of_getElem? (i := 226) rfl) rfl
theorem im_yX10_nextUp : Cond.instanceMethod yX10_nextUp ∈ wALL := tb_2 (List.mem_of_getElem? (i := 227) rfl) rfl
theorem se_yX10_nextUp : Cond.selects RX10 yX10_nextUp yX10_nextUp ∈ wALL := tb_2 (List.mem_of_getElem? (i := 228) rfl) rfl
theorem cd_yX10_nextUp : Cond.code yX10_nextUp cX10_nextUp 2 (some .int) ∈ wALL := tb_2 (List.mem_of_getElem? (i := 229) rfl) rfl
theorem ml_RX10_69 : Cond.methodLink RX10 69 yX10_inherits ∈ wALL := tb_2 (List.mem_of_getElem? (i := 230) rfl) rfl
theorem ml_RX4_54 : Cond.methodLink RX4 54 yX9_grants ∈ wALL := tb_2 (List.mem_of_getElem? (i := 239) rfl) rfl
theorem im_yX9_grants : Cond.instanceMethod yX9_grants ∈ wALL := tb_3 (List.mem_of_getElem? (i := 0) rfl) rfl
theorem se_yX9_grants : Cond.selects RX9 yX9_grants yX9_grants ∈ wALL := tb_3 (List.mem_of_getElem? (i := 1) rfl) rfl
theorem cd_yX9_grants : Cond.code yX9_grants cX9_grants 5 (some .boolean) ∈ wALL := tb_3 (List.mem_of_getElem? (i := 2) rfl) rfl
theorem ml_RX9_52 : Cond.methodLink RX9 52 yX10_ownerAt ∈ wALL := tb_3 (List.mem_of_getElem? (i := 3) rfl) rfl
theorem ml_RX9_56 : Cond.methodLink RX9 56 yX1_allows ∈ wALL := tb_3 (List.mem_of_getElem? (i := 4) rfl) rfl
theorem st_yX1_allows : Cond.static yX1_allows ∈ wALL := tb_3 (List.mem_of_getElem? (i := 5) rfl) rfl
theorem cd_yX1_allows : Cond.code yX1_allows cX1_allows 1 (some .boolean) ∈ wALL := tb_3 (List.mem_of_getElem? (i := 6) rfl) rfl
theorem ml_RX9_62 : Cond.methodLink RX9 62 yX10_maskAt ∈ wALL := tb_3 (List.mem_of_getElem? (i := 7) rfl) rfl
theorem ml_RX11_219 : Cond.methodLink RX11 219 yX4_countDifferences ∈ wALL := tb_4 (List.mem_of_getElem? (i := 206) rfl) rfl
theorem im_yX4_countDifferences : Cond.instanceMethod yX4_countDifferences ∈ wALL := tb_4 (List.mem_of_getElem? (i := 207) rfl) rfl
theorem se_yX4_countDifferences : Cond.selects RX4 yX4_countDifferences yX4_countDifferences ∈ wALL := tb_4 (List.mem_of_getElem? (i := 208) rfl) rfl
theorem cd_yX4_countDifferences : Cond.code yX4_countDifferences cX4_countDifferences 6 (some .int) ∈ wALL := tb_4 (List.mem_of_getElem? (i := 209) rfl) rfl
theorem ml_RX4_74 : Cond.methodLink RX4 74 yJ6_bitCount_0f7a4 ∈ wALL := tb_3 (List.mem_of_getElem? (i := 12) rfl) rfl
theorem ml_RL_260 : Cond.methodLink RL 260 yX12_moveEntry ∈ wALL := tb_7 (List.mem_of_getElem? (i := 139) rfl) rfl
theorem im_yX12_moveEntry : Cond.instanceMethod yX12_moveEntry ∈ wALL := tb_7 (List.mem_of_getElem? (i := 140) rfl) rfl
theorem se_yX12_moveEntry : Cond.selects RX12 yX12_moveEntry yX12_moveEntry ∈ wALL := tb_7 (List.mem_of_getElem? (i := 141) rfl) rfl
theorem cd_yX12_moveEntry : Cond.code yX12_moveEntry cX12_moveEntry 4 (some .int) ∈ wALL := tb_7 (List.mem_of_getElem? (i := 142) rfl) rfl
theorem ml_RX12_128 : Cond.methodLink RX12 128 yX12_notes ∈ wALL := tb_7 (List.mem_of_getElem? (i := 143) rfl) rfl
theorem im_yX12_notes : Cond.instanceMethod yX12_notes ∈ wALL := tb_7 (List.mem_of_getElem? (i := 145) rfl) rfl
theorem se_yX12_notes : Cond.selects RX12 yX12_notes yX12_notes ∈ wALL := tp_4 (n := 15) (List.mem_of_getElem? (i := 2) rfl) rfl
theorem cd_yX12_notes : Cond.code yX12_notes cX12_notes 2 none ∈ wALL := tb_7 (List.mem_of_getElem? (i := 146) rfl) rfl
theorem ml_RX12_119 : Cond.methodLink RX12 119 yX12_rights ∈ wALL := tb_7 (List.mem_of_getElem? (i := 147) rfl) rfl
theorem im_yX12_rights : Cond.instanceMethod yX12_rights ∈ wALL := tb_7 (List.mem_of_getElem? (i := 149) rfl) rfl
theorem se_yX12_rights : Cond.selects RX12 yX12_rights yX12_rights ∈ wALL := tp_4 (n := 15) (List.mem_of_getElem? (i := 3) rfl) rfl
theorem cd_yX12_rights : Cond.code yX12_rights cX12_rights 5 (some .int) ∈ wALL := tb_7 (List.mem_of_getElem? (i := 150) rfl) rfl
theorem ml_RX12_150 : Cond.methodLink RX12 150 yX12_allows ∈ wALL := tb_7 (List.mem_of_getElem? (i := 151) rfl) rfl
theorem im_yX12_allows : Cond.instanceMethod yX12_allows ∈ wALL := tb_7 (List.mem_of_getElem? (i := 153) rfl) rfl
theorem se_yX12_allows : Cond.selects RX12 yX12_allows yX12_allows ∈ wALL := tp_4 (n := 15) (List.mem_of_getElem? (i := 4) rfl) rfl
theorem cd_yX12_allows : Cond.code yX12_allows cX12_allows 4 (some .boolean) ∈ wALL := tb_7 (List.mem_of_getElem? (i := 154) rfl) rfl
theorem ml_RX12_147 : Cond.methodLink RX12 147 yX12_isByList ∈ wALL := tb_7 (List.mem_of_getElem? (i := 155) rfl) rfl
theorem im_yX12_isByList : Cond.instanceMethod yX12_isByList ∈ wALL := tb_7 (List.mem_of_getElem? (i := 157) rfl) rfl
theorem se_yX12_isByList : Cond.selects RX12 yX12_isByList yX12_isByList ∈ wALL := tp_4 (n := 15) (List.mem_of_getElem? (i := 5) rfl) rfl
theorem cd_yX12_isByList : Cond.code yX12_isByList cX12_isByList 5 (some .boolean) ∈ wALL := tb_7 (List.mem_of_getElem? (i := 158) rfl) rfl
theorem ml_RX12_144 : Cond.methodLink RX12 144 yX12_decides ∈ wALL := tb_7 (List.mem_of_getElem? (i := 159) rfl) rfl
theorem im_yX12_decides : Cond.instanceMethod yX12_decides ∈ wALL := tb_7 (List.mem_of_getElem? (i := 161) rfl) rfl
theorem se_yX12_decides : Cond.selects RX12 yX12_decides yX12_decides ∈ wALL := tp_4 (n := 15) (List.mem_of_getElem? (i := 6) rfl) rfl
theorem cd_yX12_decides : Cond.code yX12_decides cX12_decides 7 (some .int) ∈ wALL := tb_7 (List.mem_of_getElem? (i := 162) rfl) rfl
theorem ml_RX12_122 : Cond.methodLink RX12 122 yX12_ofEntry ∈ wALL := tb_7 (List.mem_of_getElem? (i := 163) rfl) rfl
theorem im_yX12_ofEntry : Cond.instanceMethod yX12_ofEntry ∈ wALL := tb_7 (List.mem_of_getElem? (i := 165) rfl) rfl
theorem se_yX12_ofEntry : Cond.selects RX12 yX12_ofEntry yX12_ofEntry ∈ wALL := tp_4 (n := 15) (List.mem_of_getElem? (i := 7) rfl) rfl
theorem cd_yX12_ofEntry : Cond.code yX12_ofEntry cX12_ofEntry 4 (some .int) ∈ wALL := tb_7 (List.mem_of_getElem? (i := 166) rfl) rfl
theorem ml_RX12_140 : Cond.methodLink RX12 140 yX12_isFor ∈ wALL := tb_7 (List.mem_of_getElem? (i := 167) rfl) rfl
theorem im_yX12_isFor : Cond.instanceMethod yX12_isFor ∈ wALL := tb_7 (List.mem_of_getElem? (i := 169) rfl) rfl
theorem se_yX12_isFor : Cond.selects RX12 yX12_isFor yX12_isFor ∈ wALL := tp_4 (n := 15) (List.mem_of_getElem? (i := 8) rfl) rfl
theorem cd_yX12_isFor : Cond.code yX12_isFor cX12_isFor 6 (some .boolean) ∈ wALL := tb_7 (List.mem_of_getElem? (i := 170) rfl) rfl
theorem ml_RX12_131 : Cond.methodLink RX12 131 yX12_keepsOne ∈ wALL := tb_7 (List.mem_of_getElem? (i := 171) rfl) rfl
theorem im_yX12_keepsOne : Cond.instanceMethod yX12_keepsOne ∈ wALL := tb_7 (List.mem_of_getElem? (i := 173) rfl) rfl
theorem se_yX12_keepsOne : Cond.selects RX12 yX12_keepsOne yX12_keepsOne ∈ wALL := tp_4 (n := 15) (List.mem_of_getElem? (i := 9) rfl) rfl
theorem cd_yX12_keepsOne : Cond.code yX12_keepsOne cX12_keepsOne 4 none ∈ wALL := tb_7 (List.mem_of_getElem? (i := 174) rfl) rfl
theorem ml_RX12_134 : Cond.methodLink RX12 134 yX12_putsOne ∈ wALL := tb_7 (List.mem_of_getElem? (i := 175) rfl) rfl
theorem im_yX12_putsOne : Cond.instanceMethod yX12_putsOne ∈ wALL := tb_7 (List.mem_of_getElem? (i := 177) rfl) rfl
theorem se_yX12_putsOne : Cond.selects RX12 yX12_putsOne yX12_putsOne ∈ wALL := tp_4 (n := 15) (List.mem_of_getElem? (i := 10) rfl) rfl
theorem cd_yX12_putsOne : Cond.code yX12_putsOne cX12_putsOne 4 none ∈ wALL := tb_7 (List.mem_of_getElem? (i := 178) rfl) rfl
theorem ml_RX12_125 : Cond.methodLink RX12 125 yX12_opens ∈ wALL := tb_7 (List.mem_of_getElem? (i := 179) rfl) rfl
theorem im_yX12_opens : Cond.instanceMethod yX12_opens ∈ wALL := tb_7 (List.mem_of_getElem? (i := 181) rfl) rfl
theorem se_yX12_opens : Cond.selects RX12 yX12_opens yX12_opens ∈ wALL := tp_4 (n := 15) (List.mem_of_getElem? (i := 11) rfl) rfl
theorem cd_yX12_opens : Cond.code yX12_opens cX12_opens 4 none ∈ wALL := tb_7 (List.mem_of_getElem? (i := 182) rfl) rfl
theorem ml_RX12_137 : Cond.methodLink RX12 137 yX12_unlike ∈ wALL := tb_7 (List.mem_of_getElem? (i := 183) rfl) rfl
theorem im_yX12_unlike : Cond.instanceMethod yX12_unlike ∈ wALL := tb_7 (List.mem_of_getElem? (i := 185) rfl) rfl
theorem se_yX12_unlike : Cond.selects RX12 yX12_unlike yX12_unlike ∈ wALL := tp_4 (n := 15) (List.mem_of_getElem? (i := 12) rfl) rfl
theorem cd_yX12_unlike : Cond.code yX12_unlike cX12_unlike 5 (some .int) ∈ wALL := tb_7 (List.mem_of_getElem? (i := 186) rfl) rfl
theorem ml_RL_261 : Cond.methodLink RL 261 yL_ask ∈ wALL := tb_4 (List.mem_of_getElem? (i := 210) rfl) rfl
theorem st_yL_ask : Cond.static yL_ask ∈ wALL := tb_4 (List.mem_of_getElem? (i := 211) rfl) rfl
theorem cw_yL_ask : Cond.codeWith yL_ask cL_ask 6 (some .int) [(0, 19, 22, 22), (0, 19, 26, 49)] ∈ wALL := tb_4 (List.mem_of_getElem? (i := 212) rfl) rfl
theorem ml_RL_76 : Cond.methodLink RL 76 yX11_ask ∈ wALL := tb_4 (List.mem_of_getElem? (i := 213) rfl) rfl
theorem im_yX11_ask : Cond.instanceMethod yX11_ask ∈ wALL := tb_4 (List.mem_of_getElem? (i := 214) rfl) rfl
theorem se_yX11_ask : Cond.selects RX11 yX11_ask yX11_ask ∈ wALL := tb_4 (List.mem_of_getElem? (i := 215) rfl) rfl
theorem cd_yX11_ask : Cond.code yX11_ask cX11_ask 5 (some .boolean) ∈ wALL := tb_4 (List.mem_of_getElem? (i := 216) rfl) rfl
theorem fl_RX11_230 : Cond.fieldLink RX11 230 "PermissionDesk$State" "log" "LPermissionDesk$Log;" ∈ wALL := tb_1 (List.mem_of_getElem? (i := 139) rfl) rfl
theorem ml_RX11_223 : Cond.methodLink RX11 223 yX11_requireRight ∈ wALL := tb_4 (List.mem_of_getElem? (i := 217) rfl) rfl
theorem im_yX11_requireRight : Cond.instanceMethod yX11_requireRight ∈ wALL := tb_4 (List.mem_of_getElem? (i := 219) rfl) rfl
theorem se_yX11_requireRight : Cond.selects RX11 yX11_requireRight yX11_requireRight ∈ wALL := tp_2 (n := 7) (List.mem_of_getElem? (i := 4) rfl) rfl
theorem cd_yX11_requireRight : Cond.code yX11_requireRight cX11_requireRight 2 none ∈ wALL := tb_4 (List.mem_of_getElem? (i := 220) rfl) rfl
theorem ml_RX11_226 : Cond.methodLink RX11 226 yX4_grants ∈ wALL := tb_4 (List.mem_of_getElem? (i := 222) rfl) rfl
theorem im_yX4_grants : Cond.instanceMethod yX4_grants ∈ wALL := tb_4 (List.mem_of_getElem? (i := 223) rfl) rfl
theorem se_yX4_grants : Cond.selects RX4 yX4_grants yX4_grants ∈ wALL := tb_4 (List.mem_of_getElem? (i := 224) rfl) rfl
theorem cd_yX4_grants : Cond.code yX4_grants cX4_grants 5 (some .boolean) ∈ wALL := tb_4 (List.mem_of_getElem? (i := 225) rfl) rfl
theorem ml_RX11_234 : Cond.methodLink RX11 234 yX7_put ∈ wALL := tb_4 (List.mem_of_getElem? (i := 226) rfl) rfl
theorem im_yX7_put : Cond.instanceMethod yX7_put ∈ wALL := tb_4 (List.mem_of_getElem? (i := 227) rfl) rfl
theorem se_yX7_put : Cond.selects RX7 yX7_put yX7_put ∈ wALL := tb_4 (List.mem_of_getElem? (i := 228) rfl) rfl
theorem cd_yX7_put : Cond.code yX7_put cX7_put 5 none ∈ wALL := tb_4 (List.mem_of_getElem? (i := 229) rfl) rfl
theorem ml_RX7_34 : Cond.methodLink RX7 34 yX7_placeOf ∈ wALL := tb_4 (List.mem_of_getElem? (i := 230) rfl) rfl
theorem im_yX7_placeOf : Cond.instanceMethod yX7_placeOf ∈ wALL := tb_4 (List.mem_of_getElem? (i := 232) rfl) rfl
theorem se_yX7_placeOf : Cond.selects RX7 yX7_placeOf yX7_placeOf ∈ wALL := tp_2 (n := 5) (List.mem_of_getElem? (i := 5) rfl) rfl
theorem cd_yX7_placeOf : Cond.code yX7_placeOf cX7_placeOf 2 (some .int) ∈ wALL := tb_4 (List.mem_of_getElem? (i := 233) rfl) rfl
theorem ml_RX7_52 : Cond.methodLink RX7 52 yJ9_floorMod_7cf53 ∈ wALL := tb_4 (List.mem_of_getElem? (i := 234) rfl) rfl
theorem ml_RL_263 : Cond.methodLink RL 263 yX12_ask ∈ wALL := tb_7 (List.mem_of_getElem? (i := 187) rfl) rfl
theorem im_yX12_ask : Cond.instanceMethod yX12_ask ∈ wALL := tb_7 (List.mem_of_getElem? (i := 188) rfl) rfl
theorem se_yX12_ask : Cond.selects RX12 yX12_ask yX12_ask ∈ wALL := tb_7 (List.mem_of_getElem? (i := 189) rfl) rfl
theorem cd_yX12_ask : Cond.code yX12_ask cX12_ask 6 (some .boolean) ∈ wALL := tb_7 (List.mem_of_getElem? (i := 190) rfl) rfl
theorem ml_RX12_156 : Cond.methodLink RX12 156 yX12_isRight ∈ wALL := tb_7 (List.mem_of_getElem? (i := 191) rfl) rfl
theorem st_yX12_isRight : Cond.static yX12_isRight ∈ wALL := tb_7 (List.mem_of_getElem? (i := 192) rfl) rfl
theorem cd_yX12_isRight : Cond.code yX12_isRight cX12_isRight 1 (some .boolean) ∈ wALL := tb_7 (List.mem_of_getElem? (i := 193) rfl) rfl
theorem ml_RL_264 : Cond.methodLink RL 264 yL_share ∈ wALL := tb_4 (List.mem_of_getElem? (i := 236) rfl) rfl
theorem st_yL_share : Cond.static yL_share ∈ wALL := tb_4 (List.mem_of_getElem? (i := 237) rfl) rfl
theorem cw_yL_share : Cond.codeWith yL_share cL_share 7 (some .int) [(0, 14, 17, 22), (0, 14, 21, 49), (0, 14, 25, 13)] ∈ wALL := tb_4 (List.mem_of_getElem? (i := 238) rfl) rfl
theorem ml_RL_80 : Cond.methodLink RL 80 yX11_share ∈ wALL := tb_4 (List.mem_of_getElem? (i := 239) rfl) rfl
theorem im_yX11_share : Cond.instanceMethod yX11_share ∈ wALL := tb_5 (List.mem_of_getElem? (i := 0) rfl) rfl
theorem se_yX11_share : Cond.selects RX11 yX11_share yX11_share ∈ wALL := tb_5 (List.mem_of_getElem? (i := 1) rfl) rfl
theorem cd_yX11_share : Cond.code yX11_share cX11_share 6 (some .int) ∈ wALL := tb_5 (List.mem_of_getElem? (i := 2) rfl) rfl
theorem ml_RX11_239 : Cond.methodLink RX11 239 yX4_rightsAt ∈ wALL := tb_5 (List.mem_of_getElem? (i := 3) rfl) rfl
theorem ml_RL_267 : Cond.methodLink RL 267 yX12_share ∈ wALL := tb_7 (List.mem_of_getElem? (i := 194) rfl) rfl
theorem im_yX12_share : Cond.instanceMethod yX12_share ∈ wALL := tb_7 (List.mem_of_getElem? (i := 195) rfl) rfl
theorem se_yX12_share : Cond.selects RX12 yX12_share yX12_share ∈ wALL := tb_7 (List.mem_of_getElem? (i := 196) rfl) rfl
theorem cd_yX12_share : Cond.code yX12_share cX12_share 7 (some .int) ∈ wALL := tb_7 (List.mem_of_getElem? (i := 197) rfl) rfl
theorem ml_RL_268 : Cond.methodLink RL 268 yL_append ∈ wALL := tb_5 (List.mem_of_getElem? (i := 5) rfl) rfl
theorem st_yL_append : Cond.static yL_append ∈ wALL := tb_5 (List.mem_of_getElem? (i := 6) rfl) rfl
theorem cw_yL_append : Cond.codeWith yL_append cL_append 4 (some .int) [(0, 9, 12, 49), (0, 9, 15, 13)] ∈ wALL := tb_5 (List.mem_of_getElem? (i := 7) rfl) rfl
theorem ml_RL_84 : Cond.methodLink RL 84 yX11_append ∈ wALL := tb_5 (List.mem_of_getElem? (i := 8) rfl) rfl
theorem im_yX11_append : Cond.instanceMethod yX11_append ∈ wALL := tb_5 (List.mem_of_getElem? (i := 9) rfl) rfl
theorem se_yX11_append : Cond.selects RX11 yX11_append yX11_append ∈ wALL := tb_5 (List.mem_of_getElem? (i := 10) rfl) rfl
theorem cd_yX11_append : Cond.code yX11_append cX11_append 2 (some .int) ∈ wALL := tb_5 (List.mem_of_getElem? (i := 11) rfl) rfl
theorem fl_RX11_257 : Cond.fieldLink RX11 257 "PermissionDesk$Pad" "length" "I" ∈ wALL := tb_1 (List.mem_of_getElem? (i := 209) rfl) rfl
theorem ml_RX11_262 : Cond.methodLink RX11 262 yX8_put ∈ wALL := tb_5 (List.mem_of_getElem? (i := 14) rfl) rfl
theorem im_yX8_put : Cond.instanceMethod yX8_put ∈ wALL := tb_5 (List.mem_of_getElem? (i := 15) rfl) rfl
theorem se_yX8_put : Cond.selects RX8 yX8_put yX8_put ∈ wALL := tb_5 (List.mem_of_getElem? (i := 16) rfl) rfl
theorem cd_yX8_put : Cond.code yX8_put cX8_put 2 none ∈ wALL := tb_5 (List.mem_of_getElem? (i := 17) rfl) rfl
theorem ml_RL_270 : Cond.methodLink RL 270 yX12_append ∈ wALL := tb_7 (List.mem_of_getElem? (i := 198) rfl) rfl
theorem im_yX12_append : Cond.instanceMethod yX12_append ∈ wALL := tb_7 (List.mem_of_getElem? (i := 199) rfl) rfl
theorem se_yX12_append : Cond.selects RX12 yX12_append yX12_append ∈ wALL := tb_7 (List.mem_of_getElem? (i := 200) rfl) rfl
theorem cd_yX12_append : Cond.code yX12_append cX12_append 2 (some .int) ∈ wALL := tb_7 (List.mem_of_getElem? (i := 201) rfl) rfl
theorem fl_RX12_159 : Cond.fieldLink RX12 159 "PermissionDeskModel" "typed" "I" ∈ wALL := tb_6 (List.mem_of_getElem? (i := 191) rfl) rfl
theorem ml_RL_271 : Cond.methodLink RL 271 yX11_clear ∈ wALL := tb_2 (List.mem_of_getElem? (i := 20) rfl) rfl
theorem im_yX11_clear : Cond.instanceMethod yX11_clear ∈ wALL := tb_2 (List.mem_of_getElem? (i := 21) rfl) rfl
theorem se_yX11_clear : Cond.selects RX11 yX11_clear yX11_clear ∈ wALL := tb_2 (List.mem_of_getElem? (i := 22) rfl) rfl
theorem cd_yX11_clear : Cond.code yX11_clear cX11_clear 2 (some .int) ∈ wALL := tb_2 (List.mem_of_getElem? (i := 23) rfl) rfl
theorem ml_RX11_264 : Cond.methodLink RX11 264 yX8_wipe ∈ wALL := tb_2 (List.mem_of_getElem? (i := 24) rfl) rfl
theorem im_yX8_wipe : Cond.instanceMethod yX8_wipe ∈ wALL := tb_2 (List.mem_of_getElem? (i := 25) rfl) rfl
theorem se_yX8_wipe : Cond.selects RX8 yX8_wipe yX8_wipe ∈ wALL := tb_2 (List.mem_of_getElem? (i := 26) rfl) rfl
theorem cd_yX8_wipe : Cond.code yX8_wipe cX8_wipe 1 none ∈ wALL := tb_2 (List.mem_of_getElem? (i := 27) rfl) rfl
theorem ml_RL_274 : Cond.methodLink RL 274 yX12_clear ∈ wALL := tb_7 (List.mem_of_getElem? (i := 202) rfl) rfl
theorem im_yX12_clear : Cond.instanceMethod yX12_clear ∈ wALL := tb_7 (List.mem_of_getElem? (i := 203) rfl) rfl
theorem se_yX12_clear : Cond.selects RX12 yX12_clear yX12_clear ∈ wALL := tb_7 (List.mem_of_getElem? (i := 204) rfl) rfl
theorem cd_yX12_clear : Cond.code yX12_clear cX12_clear 2 (some .int) ∈ wALL := tb_7 (List.mem_of_getElem? (i := 205) rfl) rfl
theorem ml_RL_275 : Cond.methodLink RL 275 yX11_fault ∈ wALL := tb_2 (List.mem_of_getElem? (i := 28) rfl) rfl
theorem im_yX11_fault : Cond.instanceMethod yX11_fault ∈ wALL := tb_2 (List.mem_of_getElem? (i := 29) rfl) rfl
theorem se_yX11_fault : Cond.selects RX11 yX11_fault yX11_fault ∈ wALL := tb_2 (List.mem_of_getElem? (i := 30) rfl) rfl
theorem cd_yX11_fault : Cond.code yX11_fault cX11_fault 1 (some .int) ∈ wALL := tb_2 (List.mem_of_getElem? (i := 31) rfl) rfl
theorem fl_RX11_271 : Cond.fieldLink RX11 271 "PermissionDesk$ListText" "at" "I" ∈ wALL := tb_1 (List.mem_of_getElem? (i := 223) rfl) rfl
theorem ml_RX11_267 : Cond.methodLink RX11 267 yX5_read ∈ wALL := tb_2 (List.mem_of_getElem? (i := 32) rfl) rfl
theorem im_yX5_read : Cond.instanceMethod yX5_read ∈ wALL := tb_2 (List.mem_of_getElem? (i := 33) rfl) rfl
theorem se_yX5_read : Cond.selects RX5 yX5_read yX5_read ∈ wALL := tb_2 (List.mem_of_getElem? (i := 34) rfl) rfl
theorem cd_yX5_read : Cond.code yX5_read cX5_read 3 (some .boolean) ∈ wALL := tb_2 (List.mem_of_getElem? (i := 35) rfl) rfl
theorem fl_RX5_33 : Cond.fieldLink RX5 33 "PermissionDesk$Pad" "length" "I" ∈ wALL := tb_1 (List.mem_of_getElem? (i := 208) rfl) rfl
theorem ml_RX5_25 : Cond.methodLink RX5 25 yX5_takeNumber ∈ wALL := tb_2 (List.mem_of_getElem? (i := 36) rfl) rfl
theorem im_yX5_takeNumber : Cond.instanceMethod yX5_takeNumber ∈ wALL := tb_2 (List.mem_of_getElem? (i := 38) rfl) rfl
theorem se_yX5_takeNumber : Cond.selects RX5 yX5_takeNumber yX5_takeNumber ∈ wALL := tp_1 (n := 4) (List.mem_of_getElem? (i := 0) rfl) rfl
theorem cd_yX5_takeNumber : Cond.code yX5_takeNumber cX5_takeNumber 5 (some .int) ∈ wALL := tb_2 (List.mem_of_getElem? (i := 39) rfl) rfl
theorem ml_RX5_142 : Cond.methodLink RX5 142 yX5_digitAt ∈ wALL := tb_2 (List.mem_of_getElem? (i := 40) rfl) rfl
theorem im_yX5_digitAt : Cond.instanceMethod yX5_digitAt ∈ wALL := tb_2 (List.mem_of_getElem? (i := 42) rfl) rfl
theorem se_yX5_digitAt : Cond.selects RX5 yX5_digitAt yX5_digitAt ∈ wALL := tp_1 (n := 4) (List.mem_of_getElem? (i := 1) rfl) rfl
theorem cd_yX5_digitAt : Cond.code yX5_digitAt cX5_digitAt 4 (some .int) ∈ wALL := tb_2 (List.mem_of_getElem? (i := 43) rfl) rfl
theorem ml_RX5_145 : Cond.methodLink RX5 145 yX8_signAt ∈ wALL := tb_2 (List.mem_of_getElem? (i := 44) rfl) rfl
theorem im_yX8_signAt : Cond.instanceMethod yX8_signAt ∈ wALL := tb_2 (List.mem_of_getElem? (i := 45) rfl) rfl
theorem se_yX8_signAt : Cond.selects RX8 yX8_signAt yX8_signAt ∈ wALL := tb_2 (List.mem_of_getElem? (i := 46) rfl) rfl
theorem cd_yX8_signAt : Cond.code yX8_signAt cX8_signAt 2 (some .int) ∈ wALL := tb_2 (List.mem_of_getElem? (i := 47) rfl) rfl
theorem ml_RX5_29 : Cond.methodLink RX5 29 yX5_take ∈ wALL := tb_2 (List.mem_of_getElem? (i := 48) rfl) rfl
theorem im_yX5_take : Cond.instanceMethod yX5_take ∈ wALL := tb_2 (List.mem_of_getElem? (i := 50) rfl) rfl
theorem se_yX5_take : Cond.selects RX5 yX5_take yX5_take ∈ wALL := tp_1 (n := 4) (List.mem_of_getElem? (i := 2) rfl) rfl
theorem cd_yX5_take : Cond.code yX5_take cX5_take 3 (some .boolean) ∈ wALL := tb_2 (List.mem_of_getElem? (i := 51) rfl) rfl
theorem ml_RX5_38 : Cond.methodLink RX5 38 yX5_takeEntry ∈ wALL := tb_2 (List.mem_of_getElem? (i := 52) rfl) rfl
theorem im_yX5_takeEntry : Cond.instanceMethod yX5_takeEntry ∈ wALL := tb_2 (List.mem_of_getElem? (i := 54) rfl) rfl
theorem se_yX5_takeEntry : Cond.selects RX5 yX5_takeEntry yX5_takeEntry ∈ wALL := tp_1 (n := 4) (List.mem_of_getElem? (i := 3) rfl) rfl
theorem cd_yX5_takeEntry : Cond.code yX5_takeEntry cX5_takeEntry 6 (some .boolean) ∈ wALL := tb_2 (List.mem_of_getElem? (i := 55) rfl) rfl
theorem ml_RX5_127 : Cond.methodLink RX5 127 yX5_takeKind ∈ wALL := tb_2 (List.mem_of_getElem? (i := 56) rfl) rfl
theorem im_yX5_takeKind : Cond.instanceMethod yX5_takeKind ∈ wALL := tb_2 (List.mem_of_getElem? (i := 58) rfl) rfl
theorem se_yX5_takeKind : Cond.selects RX5 yX5_takeKind yX5_takeKind ∈ wALL := tp_1 (n := 4) (List.mem_of_getElem? (i := 4) rfl) rfl
theorem cd_yX5_takeKind : Cond.code yX5_takeKind cX5_takeKind 3 (some .int) ∈ wALL := tb_2 (List.mem_of_getElem? (i := 59) rfl) rfl
theorem ml_RX5_107 : Cond.methodLink RX5 107 yJ0_length_8abf5 ∈ wALL := tb_2 (List.mem_of_getElem? (i := 61) rfl) rfl
theorem im_yJ0_length_8abf5 : Cond.instanceMethod yJ0_length_8abf5 ∈ wALL := tb_2 (List.mem_of_getElem? (i := 62) rfl) rfl
theorem se_yJ0_length_8abf5 : Cond.selects RJ0 yJ0_length_8abf5 yJ0_length_8abf5 ∈ wALL := tb_2 (List.mem_of_getElem? (i := 63) rfl) rfl
theorem in_RJ0 : Cond.initialized RJ0 ∈ wALL := tb_1 (List.mem_of_getElem? (i := 24) rfl) rfl
theorem cd_yJ0_length_8abf5 : Cond.code yJ0_length_8abf5 cJ0_length_8abf5 1 (some .int) ∈ wALL := tb_2 (List.mem_of_getElem? (i := 64) rfl) rfl
theorem fl_RJ0_9 : Cond.fieldLink RJ0 9 "java/lang/String" "value" "[B" ∈ wALL := tb_8 (List.mem_of_getElem? (i := 219) rfl) rfl
theorem ml_RJ0_335 : Cond.methodLink RJ0 335 yJ0_coder_7d493 ∈ wALL := tb_2 (List.mem_of_getElem? (i := 65) rfl) rfl
theorem im_yJ0_coder_7d493 : Cond.instanceMethod yJ0_coder_7d493 ∈ wALL := tb_2 (List.mem_of_getElem? (i := 66) rfl) rfl
theorem se_yJ0_coder_7d493 : Cond.selects RJ0 yJ0_coder_7d493 yJ0_coder_7d493 ∈ wALL := tb_2 (List.mem_of_getElem? (i := 67) rfl) rfl
theorem cd_yJ0_coder_7d493 : Cond.code yJ0_coder_7d493 cJ0_coder_7d493 1 (some .byte) ∈ wALL := tb_2 (List.mem_of_getElem? (i := 68) rfl) rfl
theorem fl_RJ0_38 : Cond.fieldLink RJ0 38 "java/lang/String" "COMPACT_STRINGS" "Z" ∈ wALL := tb_2 (List.mem_of_getElem? (i := 69) rfl) rfl
theorem fl_RJ0_15 : Cond.fieldLink RJ0 15 "java/lang/String" "coder" "B" ∈ wALL := tb_8 (List.mem_of_getElem? (i := 220) rfl) rfl
theorem ml_RX5_112 : Cond.methodLink RX5 112 yJ0_charAt_5068e ∈ wALL := tb_2 (List.mem_of_getElem? (i := 71) rfl) rfl
theorem im_yJ0_charAt_5068e : Cond.instanceMethod yJ0_charAt_5068e ∈ wALL := tb_2 (List.mem_of_getElem? (i := 72) rfl) rfl
theorem se_yJ0_charAt_5068e : Cond.selects RJ0 yJ0_charAt_5068e yJ0_charAt_5068e ∈ wALL := tb_2 (List.mem_of_getElem? (i := 73) rfl) rfl
theorem cd_yJ0_charAt_5068e : Cond.code yJ0_charAt_5068e cJ0_charAt_5068e 2 (some .char) ∈ wALL := tb_2 (List.mem_of_getElem? (i := 74) rfl) rfl
theorem ml_RJ0_492 : Cond.methodLink RJ0 492 yJ0_isLatin1_aae02 ∈ wALL := tb_2 (List.mem_of_getElem? (i := 75) rfl) rfl
theorem im_yJ0_isLatin1_aae02 : Cond.instanceMethod yJ0_isLatin1_aae02 ∈ wALL := tb_2 (List.mem_of_getElem? (i := 76) rfl) rfl
theorem se_yJ0_isLatin1_aae02 : Cond.selects RJ0 yJ0_isLatin1_aae02 yJ0_isLatin1_aae02 ∈ wALL := tb_2 (List.mem_of_getElem? (i := 77) rfl) rfl
theorem cd_yJ0_isLatin1_aae02 : Cond.code yJ0_isLatin1_aae02 cJ0_isLatin1_aae02 1 (some .boolean) ∈ wALL := tb_2 (List.mem_of_getElem? (i := 78) rfl) rfl
theorem ml_RJ0_495 : Cond.methodLink RJ0 495 yJ1_charAt_3b067 ∈ wALL := tb_2 (List.mem_of_getElem? (i := 79) rfl) rfl
theorem st_yJ1_charAt_3b067 : Cond.static yJ1_charAt_3b067 ∈ wALL := tb_2 (List.mem_of_getElem? (i := 80) rfl) rfl
theorem in_RJ1 : Cond.initialized RJ1 ∈ wALL := tb_1 (List.mem_of_getElem? (i := 25) rfl) rfl
theorem cd_yJ1_charAt_3b067 : Cond.code yJ1_charAt_3b067 cJ1_charAt_3b067 2 (some .char) ∈ wALL := tb_2 (List.mem_of_getElem? (i := 81) rfl) rfl
theorem ml_RJ1_9 : Cond.methodLink RJ1 9 yJ0_checkIndex_df160 ∈ wALL := tb_2 (List.mem_of_getElem? (i := 82) rfl) rfl
theorem st_yJ0_checkIndex_df160 : Cond.static yJ0_checkIndex_df160 ∈ wALL := tb_2 (List.mem_of_getElem? (i := 83) rfl) rfl
theorem cd_yJ0_checkIndex_df160 : Cond.code yJ0_checkIndex_df160 cJ0_checkIndex_df160 2 none ∈ wALL := tb_2 (List.mem_of_getElem? (i := 84) rfl) rfl
theorem fl_RJ0_1053 : Cond.fieldLink RJ0 1053 "jdk/internal/util/Preconditions" "SIOOBE_FORMATTER" "Ljava/util/function/BiFunction;" ∈ wALL := tb_2 (List.mem_of_getElem? (i := 85) rfl) rfl
theorem ml_RJ0_1059 : Cond.methodLink RJ0 1059 yJ3_checkIndex_8e157 ∈ wALL := tb_2 (List.mem_of_getElem? (i := 87) rfl) rfl
theorem st_yJ3_checkIndex_8e157 : Cond.static yJ3_checkIndex_8e157 ∈ wALL := tb_2 (List.mem_of_getElem? (i := 88) rfl) rfl
theorem in_RJ3 : Cond.initialized RJ3 ∈ wALL := tb_1 (List.mem_of_getElem? (i := 26) rfl) rfl
theorem cd_yJ3_checkIndex_8e157 : Cond.code yJ3_checkIndex_8e157 cJ3_checkIndex_8e157 3 (some .int) ∈ wALL := tb_2 (List.mem_of_getElem? (i := 89) rfl) rfl
theorem ml_RJ0_498 : Cond.methodLink RJ0 498 yJ2_charAt_3b067 ∈ wALL := tb_2 (List.mem_of_getElem? (i := 90) rfl) rfl
theorem st_yJ2_charAt_3b067 : Cond.static yJ2_charAt_3b067 ∈ wALL := tb_2 (List.mem_of_getElem? (i := 91) rfl) rfl
theorem in_RJ2 : Cond.initialized RJ2 ∈ wALL := tb_1 (List.mem_of_getElem? (i := 27) rfl) rfl
theorem cd_yJ2_charAt_3b067 : Cond.code yJ2_charAt_3b067 cJ2_charAt_3b067 2 (some .char) ∈ wALL := tb_2 (List.mem_of_getElem? (i := 92) rfl) rfl
theorem ml_RJ2_67 : Cond.methodLink RJ2 67 yJ2_checkIndex_2214a ∈ wALL := tb_2 (List.mem_of_getElem? (i := 93) rfl) rfl
theorem st_yJ2_checkIndex_2214a : Cond.static yJ2_checkIndex_2214a ∈ wALL := tb_2 (List.mem_of_getElem? (i := 94) rfl) rfl
theorem cd_yJ2_checkIndex_2214a : Cond.code yJ2_checkIndex_2214a cJ2_checkIndex_2214a 2 none ∈ wALL := tb_2 (List.mem_of_getElem? (i := 95) rfl) rfl
theorem ml_RJ2_48 : Cond.methodLink RJ2 48 yJ2_length_9d52b ∈ wALL := tb_2 (List.mem_of_getElem? (i := 96) rfl) rfl
theorem st_yJ2_length_9d52b : Cond.static yJ2_length_9d52b ∈ wALL := tb_2 (List.mem_of_getElem? (i := 97) rfl) rfl
theorem cd_yJ2_length_9d52b : Cond.code yJ2_length_9d52b cJ2_length_9d52b 1 (some .int) ∈ wALL := tb_2 (List.mem_of_getElem? (i := 98) rfl) rfl
theorem ml_RJ2_414 : Cond.methodLink RJ2 414 yJ0_checkIndex_df160 ∈ wALL := tb_2 (List.mem_of_getElem? (i := 99) rfl) rfl
theorem ml_RJ2_71 : Cond.methodLink RJ2 71 yJ2_getChar_3b067 ∈ wALL := tb_2 (List.mem_of_getElem? (i := 100) rfl) rfl
theorem st_yJ2_getChar_3b067 : Cond.static yJ2_getChar_3b067 ∈ wALL := tb_2 (List.mem_of_getElem? (i := 101) rfl) rfl
theorem cd_yJ2_getChar_3b067 : Cond.code yJ2_getChar_3b067 cJ2_getChar_3b067 2 (some .char) ∈ wALL := tb_2 (List.mem_of_getElem? (i := 102) rfl) rfl
theorem fl_RJ2_44 : Cond.fieldLink RJ2 44 "java/lang/StringUTF16" "$assertionsDisabled" "Z" ∈ wALL := tb_2 (List.mem_of_getElem? (i := 103) rfl) rfl
theorem fl_RJ2_59 : Cond.fieldLink RJ2 59 "java/lang/StringUTF16" "HI_BYTE_SHIFT" "I" ∈ wALL := tb_2 (List.mem_of_getElem? (i := 105) rfl) rfl
theorem fl_RJ2_63 : Cond.fieldLink RJ2 63 "java/lang/StringUTF16" "LO_BYTE_SHIFT" "I" ∈ wALL := tb_2 (List.mem_of_getElem? (i := 107) rfl) rfl
theorem ml_RX5_131 : Cond.methodLink RX5 131 yX5_takeNumberOf ∈ wALL := tb_2 (List.mem_of_getElem? (i := 109) rfl) rfl
theorem im_yX5_takeNumberOf : Cond.instanceMethod yX5_takeNumberOf ∈ wALL := tb_2 (List.mem_of_getElem? (i := 111) rfl) rfl
theorem se_yX5_takeNumberOf : Cond.selects RX5 yX5_takeNumberOf yX5_takeNumberOf ∈ wALL := tp_1 (n := 4) (List.mem_of_getElem? (i := 5) rfl) rfl
theorem cd_yX5_takeNumberOf : Cond.code yX5_takeNumberOf cX5_takeNumberOf 3 (some .int) ∈ wALL := tb_2 (List.mem_of_getElem? (i := 112) rfl) rfl
theorem ml_RX5_135 : Cond.methodLink RX5 135 yX5_takeRights ∈ wALL := tb_2 (List.mem_of_getElem? (i := 113) rfl) rfl
theorem im_yX5_takeRights : Cond.instanceMethod yX5_takeRights ∈ wALL := tb_2 (List.mem_of_getElem? (i := 115) rfl) rfl
theorem se_yX5_takeRights : Cond.selects RX5 yX5_takeRights yX5_takeRights ∈ wALL := tp_1 (n := 4) (List.mem_of_getElem? (i := 6) rfl) rfl
theorem cd_yX5_takeRights : Cond.code yX5_takeRights cX5_takeRights 4 (some .int) ∈ wALL := tb_2 (List.mem_of_getElem? (i := 116) rfl) rfl
theorem ml_RX5_138 : Cond.methodLink RX5 138 yX1_code ∈ wALL := tb_2 (List.mem_of_getElem? (i := 121) rfl) rfl
theorem ml_RL_278 : Cond.methodLink RL 278 yX12_fault ∈ wALL := tb_7 (List.mem_of_getElem? (i := 206) rfl) rfl
theorem im_yX12_fault : Cond.instanceMethod yX12_fault ∈ wALL := tb_7 (List.mem_of_getElem? (i := 207) rfl) rfl
theorem se_yX12_fault : Cond.selects RX12 yX12_fault yX12_fault ∈ wALL := tb_7 (List.mem_of_getElem? (i := 208) rfl) rfl
theorem cd_yX12_fault : Cond.code yX12_fault cX12_fault 1 (some .int) ∈ wALL := tb_7 (List.mem_of_getElem? (i := 209) rfl) rfl
theorem ml_RX12_190 : Cond.methodLink RX12 190 yX12_wrong ∈ wALL := tb_7 (List.mem_of_getElem? (i := 210) rfl) rfl
theorem im_yX12_wrong : Cond.instanceMethod yX12_wrong ∈ wALL := tb_7 (List.mem_of_getElem? (i := 212) rfl) rfl
theorem se_yX12_wrong : Cond.selects RX12 yX12_wrong yX12_wrong ∈ wALL := tp_4 (n := 15) (List.mem_of_getElem? (i := 13) rfl) rfl
theorem cd_yX12_wrong : Cond.code yX12_wrong cX12_wrong 2 (some .int) ∈ wALL := tb_7 (List.mem_of_getElem? (i := 213) rfl) rfl
theorem fl_RX12_162 : Cond.fieldLink RX12 162 "PermissionDeskModel" "spot" "I" ∈ wALL := tb_6 (List.mem_of_getElem? (i := 194) rfl) rfl
theorem fl_RX12_171 : Cond.fieldLink RX12 171 "PermissionDeskModel" "parts" "I" ∈ wALL := tb_6 (List.mem_of_getElem? (i := 196) rfl) rfl
theorem fl_RX12_184 : Cond.fieldLink RX12 184 "PermissionDeskModel" "told" "I" ∈ wALL := tb_6 (List.mem_of_getElem? (i := 195) rfl) rfl
theorem fl_RX12_168 : Cond.fieldLink RX12 168 "PermissionDeskModel" "value" "I" ∈ wALL := tb_6 (List.mem_of_getElem? (i := 197) rfl) rfl
theorem ml_RX12_177 : Cond.methodLink RX12 177 yX12_number ∈ wALL := tb_7 (List.mem_of_getElem? (i := 214) rfl) rfl
theorem im_yX12_number : Cond.instanceMethod yX12_number ∈ wALL := tb_7 (List.mem_of_getElem? (i := 216) rfl) rfl
theorem se_yX12_number : Cond.selects RX12 yX12_number yX12_number ∈ wALL := tp_4 (n := 15) (List.mem_of_getElem? (i := 14) rfl) rfl
theorem cd_yX12_number : Cond.code yX12_number cX12_number 2 (some .boolean) ∈ wALL := tb_7 (List.mem_of_getElem? (i := 217) rfl) rfl
theorem ml_RX12_165 : Cond.methodLink RX12 165 yX12_sees ∈ wALL := tb_7 (List.mem_of_getElem? (i := 218) rfl) rfl
theorem im_yX12_sees : Cond.instanceMethod yX12_sees ∈ wALL := tb_7 (List.mem_of_getElem? (i := 220) rfl) rfl
theorem se_yX12_sees : Cond.selects RX12 yX12_sees yX12_sees ∈ wALL := tp_4 (n := 15) (List.mem_of_getElem? (i := 15) rfl) rfl
theorem cd_yX12_sees : Cond.code yX12_sees cX12_sees 3 (some .boolean) ∈ wALL := tb_7 (List.mem_of_getElem? (i := 221) rfl) rfl
theorem ml_RX12_174 : Cond.methodLink RX12 174 yX12_sign ∈ wALL := tb_7 (List.mem_of_getElem? (i := 222) rfl) rfl
theorem im_yX12_sign : Cond.instanceMethod yX12_sign ∈ wALL := tb_7 (List.mem_of_getElem? (i := 224) rfl) rfl
theorem se_yX12_sign : Cond.selects RX12 yX12_sign yX12_sign ∈ wALL := tp_5 (n := 15) (List.mem_of_getElem? (i := 0) rfl) rfl
theorem cd_yX12_sign : Cond.code yX12_sign cX12_sign 3 (some .boolean) ∈ wALL := tb_7 (List.mem_of_getElem? (i := 225) rfl) rfl
theorem ml_RX12_187 : Cond.methodLink RX12 187 yX12_entryRead ∈ wALL := tb_7 (List.mem_of_getElem? (i := 226) rfl) rfl
theorem im_yX12_entryRead : Cond.instanceMethod yX12_entryRead ∈ wALL := tb_7 (List.mem_of_getElem? (i := 228) rfl) rfl
theorem se_yX12_entryRead : Cond.selects RX12 yX12_entryRead yX12_entryRead ∈ wALL := tp_5 (n := 15) (List.mem_of_getElem? (i := 1) rfl) rfl
theorem cd_yX12_entryRead : Cond.code yX12_entryRead cX12_entryRead 4 (some .boolean) ∈ wALL := tb_7 (List.mem_of_getElem? (i := 229) rfl) rfl
theorem ml_RX12_180 : Cond.methodLink RX12 180 yX12_whomRead ∈ wALL := tb_7 (List.mem_of_getElem? (i := 230) rfl) rfl
theorem im_yX12_whomRead : Cond.instanceMethod yX12_whomRead ∈ wALL := tb_7 (List.mem_of_getElem? (i := 232) rfl) rfl
theorem se_yX12_whomRead : Cond.selects RX12 yX12_whomRead yX12_whomRead ∈ wALL := tp_5 (n := 15) (List.mem_of_getElem? (i := 2) rfl) rfl
theorem cd_yX12_whomRead : Cond.code yX12_whomRead cX12_whomRead 3 (some .boolean) ∈ wALL := tb_7 (List.mem_of_getElem? (i := 233) rfl) rfl
theorem ml_RL_279 : Cond.methodLink RL 279 yL_loadEntries ∈ wALL := tb_5 (List.mem_of_getElem? (i := 19) rfl) rfl
theorem st_yL_loadEntries : Cond.static yL_loadEntries ∈ wALL := tb_5 (List.mem_of_getElem? (i := 20) rfl) rfl
theorem cw_yL_loadEntries : Cond.codeWith yL_loadEntries cL_loadEntries 3 (some .int) [(0, 8, 11, 13)] ∈ wALL := tb_5 (List.mem_of_getElem? (i := 21) rfl) rfl
theorem ml_RL_87 : Cond.methodLink RL 87 yX11_loadEntries ∈ wALL := tb_5 (List.mem_of_getElem? (i := 22) rfl) rfl
theorem im_yX11_loadEntries : Cond.instanceMethod yX11_loadEntries ∈ wALL := tb_5 (List.mem_of_getElem? (i := 23) rfl) rfl
theorem se_yX11_loadEntries : Cond.selects RX11 yX11_loadEntries yX11_loadEntries ∈ wALL := tb_5 (List.mem_of_getElem? (i := 24) rfl) rfl
theorem cd_yX11_loadEntries : Cond.code yX11_loadEntries cX11_loadEntries 2 (some .int) ∈ wALL := tb_5 (List.mem_of_getElem? (i := 25) rfl) rfl
theorem fl_RX11_282 : Cond.fieldLink RX11 282 "PermissionDesk$ListText" "object" "I" ∈ wALL := tb_1 (List.mem_of_getElem? (i := 225) rfl) rfl
theorem fl_RX11_285 : Cond.fieldLink RX11 285 "PermissionDesk$ListText" "count" "I" ∈ wALL := tb_1 (List.mem_of_getElem? (i := 227) rfl) rfl
theorem ml_RX11_276 : Cond.methodLink RX11 276 yX5_isKnownTo ∈ wALL := tb_5 (List.mem_of_getElem? (i := 27) rfl) rfl
theorem im_yX5_isKnownTo : Cond.instanceMethod yX5_isKnownTo ∈ wALL := tb_5 (List.mem_of_getElem? (i := 28) rfl) rfl
theorem se_yX5_isKnownTo : Cond.selects RX5 yX5_isKnownTo yX5_isKnownTo ∈ wALL := tb_5 (List.mem_of_getElem? (i := 29) rfl) rfl
theorem cd_yX5_isKnownTo : Cond.code yX5_isKnownTo cX5_isKnownTo 5 (some .boolean) ∈ wALL := tb_5 (List.mem_of_getElem? (i := 30) rfl) rfl
theorem fl_RX5_42 : Cond.fieldLink RX5 42 "PermissionDesk$State" "tree" "LPermissionDesk$Tree;" ∈ wALL := tb_1 (List.mem_of_getElem? (i := 130) rfl) rfl
theorem fl_RX5_63 : Cond.fieldLink RX5 63 "PermissionDesk$State" "club" "LPermissionDesk$Club;" ∈ wALL := tb_1 (List.mem_of_getElem? (i := 128) rfl) rfl
theorem ml_RX5_48 : Cond.methodLink RX5 48 yX10_holds ∈ wALL := tb_5 (List.mem_of_getElem? (i := 31) rfl) rfl
theorem ml_RX5_54 : Cond.methodLink RX5 54 yX1_number ∈ wALL := tb_5 (List.mem_of_getElem? (i := 32) rfl) rfl
theorem ml_RX5_60 : Cond.methodLink RX5 60 yX1_kind ∈ wALL := tb_5 (List.mem_of_getElem? (i := 33) rfl) rfl
theorem ml_RX5_67 : Cond.methodLink RX5 67 yX0_hasUser ∈ wALL := tb_5 (List.mem_of_getElem? (i := 34) rfl) rfl
theorem ml_RX5_72 : Cond.methodLink RX5 72 yX0_hasGroup ∈ wALL := tb_5 (List.mem_of_getElem? (i := 35) rfl) rfl
theorem ml_RX11_287 : Cond.methodLink RX11 287 yX5_entryAt ∈ wALL := tb_5 (List.mem_of_getElem? (i := 37) rfl) rfl
theorem im_yX5_entryAt : Cond.instanceMethod yX5_entryAt ∈ wALL := tb_5 (List.mem_of_getElem? (i := 38) rfl) rfl
theorem se_yX5_entryAt : Cond.selects RX5 yX5_entryAt yX5_entryAt ∈ wALL := tb_5 (List.mem_of_getElem? (i := 39) rfl) rfl
theorem cd_yX5_entryAt : Cond.code yX5_entryAt cX5_entryAt 2 (some .int) ∈ wALL := tb_5 (List.mem_of_getElem? (i := 40) rfl) rfl
theorem ml_RL_281 : Cond.methodLink RL 281 yX12_loadEntries ∈ wALL := tb_7 (List.mem_of_getElem? (i := 234) rfl) rfl
theorem im_yX12_loadEntries : Cond.instanceMethod yX12_loadEntries ∈ wALL := tb_7 (List.mem_of_getElem? (i := 235) rfl) rfl
theorem se_yX12_loadEntries : Cond.selects RX12 yX12_loadEntries yX12_loadEntries ∈ wALL := tb_7 (List.mem_of_getElem? (i := 236) rfl) rfl
theorem cd_yX12_loadEntries : Cond.code yX12_loadEntries cX12_loadEntries 2 (some .int) ∈ wALL := tb_7 (List.mem_of_getElem? (i := 237) rfl) rfl
theorem ml_RX12_193 : Cond.methodLink RX12 193 yX12_areThere ∈ wALL := tb_7 (List.mem_of_getElem? (i := 238) rfl) rfl
theorem im_yX12_areThere : Cond.instanceMethod yX12_areThere ∈ wALL := tb_8 (List.mem_of_getElem? (i := 0) rfl) rfl
theorem se_yX12_areThere : Cond.selects RX12 yX12_areThere yX12_areThere ∈ wALL := tp_5 (n := 15) (List.mem_of_getElem? (i := 3) rfl) rfl
theorem cd_yX12_areThere : Cond.code yX12_areThere cX12_areThere 4 (some .boolean) ∈ wALL := tb_8 (List.mem_of_getElem? (i := 1) rfl) rfl
theorem ml_RL_282 : Cond.methodLink RL 282 yL_writeEntries ∈ wALL := tb_5 (List.mem_of_getElem? (i := 41) rfl) rfl
theorem st_yL_writeEntries : Cond.static yL_writeEntries ∈ wALL := tb_5 (List.mem_of_getElem? (i := 42) rfl) rfl
theorem cw_yL_writeEntries : Cond.codeWith yL_writeEntries cL_writeEntries 4 (some .int) [(0, 9, 12, 22)] ∈ wALL := tb_5 (List.mem_of_getElem? (i := 43) rfl) rfl
theorem ml_RL_90 : Cond.methodLink RL 90 yX11_writeEntries ∈ wALL := tb_5 (List.mem_of_getElem? (i := 44) rfl) rfl
theorem im_yX11_writeEntries : Cond.instanceMethod yX11_writeEntries ∈ wALL := tb_5 (List.mem_of_getElem? (i := 45) rfl) rfl
theorem se_yX11_writeEntries : Cond.selects RX11 yX11_writeEntries yX11_writeEntries ∈ wALL := tb_5 (List.mem_of_getElem? (i := 46) rfl) rfl
theorem cd_yX11_writeEntries : Cond.code yX11_writeEntries cX11_writeEntries 2 (some .int) ∈ wALL := tb_5 (List.mem_of_getElem? (i := 47) rfl) rfl
theorem ml_RX11_290 : Cond.methodLink RX11 290 yX5_write ∈ wALL := tb_5 (List.mem_of_getElem? (i := 48) rfl) rfl
theorem im_yX5_write : Cond.instanceMethod yX5_write ∈ wALL := tb_5 (List.mem_of_getElem? (i := 49) rfl) rfl
theorem se_yX5_write : Cond.selects RX5 yX5_write yX5_write ∈ wALL := tb_5 (List.mem_of_getElem? (i := 50) rfl) rfl
theorem cd_yX5_write : Cond.code yX5_write cX5_write 6 none ∈ wALL := tb_5 (List.mem_of_getElem? (i := 51) rfl) rfl
theorem ml_RX5_79 : Cond.methodLink RX5 79 yX8_wipe ∈ wALL := tb_5 (List.mem_of_getElem? (i := 52) rfl) rfl
theorem ml_RX5_82 : Cond.methodLink RX5 82 yX8_putNumber ∈ wALL := tb_5 (List.mem_of_getElem? (i := 53) rfl) rfl
theorem im_yX8_putNumber : Cond.instanceMethod yX8_putNumber ∈ wALL := tb_5 (List.mem_of_getElem? (i := 54) rfl) rfl
theorem se_yX8_putNumber : Cond.selects RX8 yX8_putNumber yX8_putNumber ∈ wALL := tb_5 (List.mem_of_getElem? (i := 55) rfl) rfl
theorem cd_yX8_putNumber : Cond.code yX8_putNumber cX8_putNumber 2 none ∈ wALL := tb_5 (List.mem_of_getElem? (i := 56) rfl) rfl
theorem ml_RX8_23 : Cond.methodLink RX8 23 yX8_put ∈ wALL := tb_5 (List.mem_of_getElem? (i := 57) rfl) rfl
theorem ml_RX5_86 : Cond.methodLink RX5 86 yX8_put ∈ wALL := tb_5 (List.mem_of_getElem? (i := 58) rfl) rfl
theorem ml_RX5_89 : Cond.methodLink RX5 89 yX6_countAt ∈ wALL := tb_5 (List.mem_of_getElem? (i := 59) rfl) rfl
theorem ml_RX5_94 : Cond.methodLink RX5 94 yX6_entryAt ∈ wALL := tb_5 (List.mem_of_getElem? (i := 60) rfl) rfl
theorem ml_RX5_98 : Cond.methodLink RX5 98 yX5_writeEntry ∈ wALL := tb_5 (List.mem_of_getElem? (i := 61) rfl) rfl
theorem im_yX5_writeEntry : Cond.instanceMethod yX5_writeEntry ∈ wALL := tb_5 (List.mem_of_getElem? (i := 63) rfl) rfl
theorem se_yX5_writeEntry : Cond.selects RX5 yX5_writeEntry yX5_writeEntry ∈ wALL := tp_2 (n := 4) (List.mem_of_getElem? (i := 6) rfl) rfl
theorem cd_yX5_writeEntry : Cond.code yX5_writeEntry cX5_writeEntry 5 none ∈ wALL := tb_5 (List.mem_of_getElem? (i := 64) rfl) rfl
theorem ml_RX5_102 : Cond.methodLink RX5 102 yX1_allows ∈ wALL := tb_5 (List.mem_of_getElem? (i := 65) rfl) rfl
theorem ml_RX5_118 : Cond.methodLink RX5 118 yX1_rights ∈ wALL := tb_5 (List.mem_of_getElem? (i := 66) rfl) rfl
theorem ml_RX5_124 : Cond.methodLink RX5 124 yX1_countsBelow ∈ wALL := tb_5 (List.mem_of_getElem? (i := 68) rfl) rfl
theorem ml_RL_284 : Cond.methodLink RL 284 yX12_writeEntries ∈ wALL := tb_8 (List.mem_of_getElem? (i := 2) rfl) rfl
theorem im_yX12_writeEntries : Cond.instanceMethod yX12_writeEntries ∈ wALL := tb_8 (List.mem_of_getElem? (i := 3) rfl) rfl
theorem se_yX12_writeEntries : Cond.selects RX12 yX12_writeEntries yX12_writeEntries ∈ wALL := tb_8 (List.mem_of_getElem? (i := 4) rfl) rfl
theorem cd_yX12_writeEntries : Cond.code yX12_writeEntries cX12_writeEntries 3 (some .int) ∈ wALL := tb_8 (List.mem_of_getElem? (i := 5) rfl) rfl
theorem ml_RX12_200 : Cond.methodLink RX12 200 yX12_putsNumber ∈ wALL := tb_8 (List.mem_of_getElem? (i := 6) rfl) rfl
theorem im_yX12_putsNumber : Cond.instanceMethod yX12_putsNumber ∈ wALL := tb_8 (List.mem_of_getElem? (i := 8) rfl) rfl
theorem se_yX12_putsNumber : Cond.selects RX12 yX12_putsNumber yX12_putsNumber ∈ wALL := tp_5 (n := 15) (List.mem_of_getElem? (i := 4) rfl) rfl
theorem cd_yX12_putsNumber : Cond.code yX12_putsNumber cX12_putsNumber 2 none ∈ wALL := tb_8 (List.mem_of_getElem? (i := 9) rfl) rfl
theorem ml_RX12_196 : Cond.methodLink RX12 196 yX12_puts ∈ wALL := tb_8 (List.mem_of_getElem? (i := 10) rfl) rfl
theorem im_yX12_puts : Cond.instanceMethod yX12_puts ∈ wALL := tb_8 (List.mem_of_getElem? (i := 12) rfl) rfl
theorem se_yX12_puts : Cond.selects RX12 yX12_puts yX12_puts ∈ wALL := tp_5 (n := 15) (List.mem_of_getElem? (i := 5) rfl) rfl
theorem cd_yX12_puts : Cond.code yX12_puts cX12_puts 2 none ∈ wALL := tb_8 (List.mem_of_getElem? (i := 13) rfl) rfl
theorem ml_RX12_206 : Cond.methodLink RX12 206 yX12_putsEntry ∈ wALL := tb_8 (List.mem_of_getElem? (i := 14) rfl) rfl
theorem im_yX12_putsEntry : Cond.instanceMethod yX12_putsEntry ∈ wALL := tb_8 (List.mem_of_getElem? (i := 16) rfl) rfl
theorem se_yX12_putsEntry : Cond.selects RX12 yX12_putsEntry yX12_putsEntry ∈ wALL := tp_5 (n := 15) (List.mem_of_getElem? (i := 6) rfl) rfl
theorem cd_yX12_putsEntry : Cond.code yX12_putsEntry cX12_putsEntry 5 none ∈ wALL := tb_8 (List.mem_of_getElem? (i := 17) rfl) rfl
theorem ml_RX12_203 : Cond.methodLink RX12 203 yX12_putsRight ∈ wALL := tb_8 (List.mem_of_getElem? (i := 18) rfl) rfl
theorem im_yX12_putsRight : Cond.instanceMethod yX12_putsRight ∈ wALL := tb_8 (List.mem_of_getElem? (i := 20) rfl) rfl
theorem se_yX12_putsRight : Cond.selects RX12 yX12_putsRight yX12_putsRight ∈ wALL := tp_5 (n := 15) (List.mem_of_getElem? (i := 7) rfl) rfl
theorem cd_yX12_putsRight : Cond.code yX12_putsRight cX12_putsRight 4 none ∈ wALL := tb_8 (List.mem_of_getElem? (i := 21) rfl) rfl
theorem ml_RL_285 : Cond.methodLink RL 285 yL_codeAt ∈ wALL := tb_5 (List.mem_of_getElem? (i := 69) rfl) rfl
theorem st_yL_codeAt : Cond.static yL_codeAt ∈ wALL := tb_5 (List.mem_of_getElem? (i := 70) rfl) rfl
theorem cw_yL_codeAt : Cond.codeWith yL_codeAt cL_codeAt 4 (some .int) [(0, 9, 12, 49)] ∈ wALL := tb_5 (List.mem_of_getElem? (i := 71) rfl) rfl
theorem ml_RL_93 : Cond.methodLink RL 93 yX11_codeAt ∈ wALL := tb_5 (List.mem_of_getElem? (i := 72) rfl) rfl
theorem im_yX11_codeAt : Cond.instanceMethod yX11_codeAt ∈ wALL := tb_5 (List.mem_of_getElem? (i := 73) rfl) rfl
theorem se_yX11_codeAt : Cond.selects RX11 yX11_codeAt yX11_codeAt ∈ wALL := tb_5 (List.mem_of_getElem? (i := 74) rfl) rfl
theorem cd_yX11_codeAt : Cond.code yX11_codeAt cX11_codeAt 2 (some .int) ∈ wALL := tb_5 (List.mem_of_getElem? (i := 75) rfl) rfl
theorem ml_RX11_296 : Cond.methodLink RX11 296 yX8_signAt ∈ wALL := tb_5 (List.mem_of_getElem? (i := 77) rfl) rfl
theorem ml_RL_287 : Cond.methodLink RL 287 yX12_codeAt ∈ wALL := tb_8 (List.mem_of_getElem? (i := 22) rfl) rfl
theorem im_yX12_codeAt : Cond.instanceMethod yX12_codeAt ∈ wALL := tb_8 (List.mem_of_getElem? (i := 23) rfl) rfl
theorem se_yX12_codeAt : Cond.selects RX12 yX12_codeAt yX12_codeAt ∈ wALL := tb_8 (List.mem_of_getElem? (i := 24) rfl) rfl
theorem cd_yX12_codeAt : Cond.code yX12_codeAt cX12_codeAt 2 (some .int) ∈ wALL := tb_8 (List.mem_of_getElem? (i := 25) rfl) rfl
theorem ml_RL_288 : Cond.methodLink RL 288 yX11_users ∈ wALL := tb_2 (List.mem_of_getElem? (i := 125) rfl) rfl
theorem im_yX11_users : Cond.instanceMethod yX11_users ∈ wALL := tb_2 (List.mem_of_getElem? (i := 126) rfl) rfl
theorem se_yX11_users : Cond.selects RX11 yX11_users yX11_users ∈ wALL := tb_2 (List.mem_of_getElem? (i := 127) rfl) rfl
theorem cd_yX11_users : Cond.code yX11_users cX11_users 1 (some .int) ∈ wALL := tb_2 (List.mem_of_getElem? (i := 128) rfl) rfl
theorem ml_RL_291 : Cond.methodLink RL 291 yX12_users ∈ wALL := tb_8 (List.mem_of_getElem? (i := 26) rfl) rfl
theorem im_yX12_users : Cond.instanceMethod yX12_users ∈ wALL := tb_8 (List.mem_of_getElem? (i := 27) rfl) rfl
theorem se_yX12_users : Cond.selects RX12 yX12_users yX12_users ∈ wALL := tb_8 (List.mem_of_getElem? (i := 28) rfl) rfl
theorem cd_yX12_users : Cond.code yX12_users cX12_users 1 (some .int) ∈ wALL := tb_8 (List.mem_of_getElem? (i := 29) rfl) rfl
theorem ml_RL_292 : Cond.methodLink RL 292 yX11_groups ∈ wALL := tb_2 (List.mem_of_getElem? (i := 129) rfl) rfl
theorem im_yX11_groups : Cond.instanceMethod yX11_groups ∈ wALL := tb_2 (List.mem_of_getElem? (i := 130) rfl) rfl
theorem se_yX11_groups : Cond.selects RX11 yX11_groups yX11_groups ∈ wALL := tb_2 (List.mem_of_getElem? (i := 131) rfl) rfl
theorem cd_yX11_groups : Cond.code yX11_groups cX11_groups 1 (some .int) ∈ wALL := tb_2 (List.mem_of_getElem? (i := 132) rfl) rfl
theorem ml_RL_295 : Cond.methodLink RL 295 yX12_groups ∈ wALL := tb_8 (List.mem_of_getElem? (i := 30) rfl) rfl
theorem im_yX12_groups : Cond.instanceMethod yX12_groups ∈ wALL := tb_8 (List.mem_of_getElem? (i := 31) rfl) rfl
theorem se_yX12_groups : Cond.selects RX12 yX12_groups yX12_groups ∈ wALL := tb_8 (List.mem_of_getElem? (i := 32) rfl) rfl
theorem cd_yX12_groups : Cond.code yX12_groups cX12_groups 1 (some .int) ∈ wALL := tb_8 (List.mem_of_getElem? (i := 33) rfl) rfl
theorem ml_RL_296 : Cond.methodLink RL 296 yL_isMember ∈ wALL := tb_5 (List.mem_of_getElem? (i := 78) rfl) rfl
theorem st_yL_isMember : Cond.static yL_isMember ∈ wALL := tb_5 (List.mem_of_getElem? (i := 79) rfl) rfl
theorem cw_yL_isMember : Cond.codeWith yL_isMember cL_isMember 5 (some .int) [(0, 17, 20, 22)] ∈ wALL := tb_5 (List.mem_of_getElem? (i := 80) rfl) rfl
theorem ml_RL_96 : Cond.methodLink RL 96 yX11_isMember ∈ wALL := tb_5 (List.mem_of_getElem? (i := 81) rfl) rfl
theorem im_yX11_isMember : Cond.instanceMethod yX11_isMember ∈ wALL := tb_5 (List.mem_of_getElem? (i := 82) rfl) rfl
theorem se_yX11_isMember : Cond.selects RX11 yX11_isMember yX11_isMember ∈ wALL := tb_5 (List.mem_of_getElem? (i := 83) rfl) rfl
theorem cd_yX11_isMember : Cond.code yX11_isMember cX11_isMember 3 (some .boolean) ∈ wALL := tb_5 (List.mem_of_getElem? (i := 84) rfl) rfl
theorem ml_RL_298 : Cond.methodLink RL 298 yX12_isMember ∈ wALL := tb_8 (List.mem_of_getElem? (i := 34) rfl) rfl
theorem im_yX12_isMember : Cond.instanceMethod yX12_isMember ∈ wALL := tb_8 (List.mem_of_getElem? (i := 35) rfl) rfl
theorem se_yX12_isMember : Cond.selects RX12 yX12_isMember yX12_isMember ∈ wALL := tb_8 (List.mem_of_getElem? (i := 36) rfl) rfl
theorem cd_yX12_isMember : Cond.code yX12_isMember cX12_isMember 3 (some .boolean) ∈ wALL := tb_8 (List.mem_of_getElem? (i := 37) rfl) rfl
theorem ml_RL_299 : Cond.methodLink RL 299 yL_isNested ∈ wALL := tb_5 (List.mem_of_getElem? (i := 85) rfl) rfl
theorem st_yL_isNested : Cond.static yL_isNested ∈ wALL := tb_5 (List.mem_of_getElem? (i := 86) rfl) rfl
theorem cw_yL_isNested : Cond.codeWith yL_isNested cL_isNested 5 (some .int) [(0, 17, 20, 22)] ∈ wALL := tb_5 (List.mem_of_getElem? (i := 87) rfl) rfl
theorem ml_RL_100 : Cond.methodLink RL 100 yX11_isNested ∈ wALL := tb_5 (List.mem_of_getElem? (i := 88) rfl) rfl
theorem im_yX11_isNested : Cond.instanceMethod yX11_isNested ∈ wALL := tb_5 (List.mem_of_getElem? (i := 89) rfl) rfl
theorem se_yX11_isNested : Cond.selects RX11 yX11_isNested yX11_isNested ∈ wALL := tb_5 (List.mem_of_getElem? (i := 90) rfl) rfl
theorem cd_yX11_isNested : Cond.code yX11_isNested cX11_isNested 3 (some .boolean) ∈ wALL := tb_5 (List.mem_of_getElem? (i := 91) rfl) rfl
theorem ml_RL_301 : Cond.methodLink RL 301 yX12_isNested ∈ wALL := tb_8 (List.mem_of_getElem? (i := 38) rfl) rfl
theorem im_yX12_isNested : Cond.instanceMethod yX12_isNested ∈ wALL := tb_8 (List.mem_of_getElem? (i := 39) rfl) rfl
theorem se_yX12_isNested : Cond.selects RX12 yX12_isNested yX12_isNested ∈ wALL := tb_8 (List.mem_of_getElem? (i := 40) rfl) rfl
theorem cd_yX12_isNested : Cond.code yX12_isNested cX12_isNested 3 (some .boolean) ∈ wALL := tb_8 (List.mem_of_getElem? (i := 41) rfl) rfl
theorem ml_RL_302 : Cond.methodLink RL 302 yL_belongs ∈ wALL := tb_5 (List.mem_of_getElem? (i := 92) rfl) rfl
theorem st_yL_belongs : Cond.static yL_belongs ∈ wALL := tb_5 (List.mem_of_getElem? (i := 93) rfl) rfl
theorem cw_yL_belongs : Cond.codeWith yL_belongs cL_belongs 5 (some .int) [(0, 17, 20, 22)] ∈ wALL := tb_5 (List.mem_of_getElem? (i := 94) rfl) rfl
theorem ml_RL_103 : Cond.methodLink RL 103 yX11_belongs ∈ wALL := tb_5 (List.mem_of_getElem? (i := 95) rfl) rfl
theorem im_yX11_belongs : Cond.instanceMethod yX11_belongs ∈ wALL := tb_5 (List.mem_of_getElem? (i := 96) rfl) rfl
theorem se_yX11_belongs : Cond.selects RX11 yX11_belongs yX11_belongs ∈ wALL := tb_5 (List.mem_of_getElem? (i := 97) rfl) rfl
theorem cd_yX11_belongs : Cond.code yX11_belongs cX11_belongs 3 (some .boolean) ∈ wALL := tb_5 (List.mem_of_getElem? (i := 98) rfl) rfl
theorem ml_RX11_299 : Cond.methodLink RX11 299 yX0_groupsOver ∈ wALL := tb_5 (List.mem_of_getElem? (i := 99) rfl) rfl
theorem ml_RX11_302 : Cond.methodLink RX11 302 yX11_has ∈ wALL := tb_5 (List.mem_of_getElem? (i := 100) rfl) rfl
theorem ml_RL_304 : Cond.methodLink RL 304 yX12_belongs ∈ wALL := tb_8 (List.mem_of_getElem? (i := 42) rfl) rfl
theorem im_yX12_belongs : Cond.instanceMethod yX12_belongs ∈ wALL := tb_8 (List.mem_of_getElem? (i := 43) rfl) rfl
theorem se_yX12_belongs : Cond.selects RX12 yX12_belongs yX12_belongs ∈ wALL := tb_8 (List.mem_of_getElem? (i := 44) rfl) rfl
theorem cd_yX12_belongs : Cond.code yX12_belongs cX12_belongs 3 (some .boolean) ∈ wALL := tb_8 (List.mem_of_getElem? (i := 45) rfl) rfl
theorem ml_RX12_209 : Cond.methodLink RX12 209 yX12_isOfGroup ∈ wALL := tb_8 (List.mem_of_getElem? (i := 46) rfl) rfl
theorem im_yX12_isOfGroup : Cond.instanceMethod yX12_isOfGroup ∈ wALL := tb_8 (List.mem_of_getElem? (i := 48) rfl) rfl
theorem se_yX12_isOfGroup : Cond.selects RX12 yX12_isOfGroup yX12_isOfGroup ∈ wALL := tp_5 (n := 15) (List.mem_of_getElem? (i := 8) rfl) rfl
theorem cd_yX12_isOfGroup : Cond.code yX12_isOfGroup cX12_isOfGroup 3 (some .boolean) ∈ wALL := tb_8 (List.mem_of_getElem? (i := 49) rfl) rfl
theorem ml_RL_305 : Cond.methodLink RL 305 yL_belongsByMembers ∈ wALL := tb_5 (List.mem_of_getElem? (i := 101) rfl) rfl
theorem st_yL_belongsByMembers : Cond.static yL_belongsByMembers ∈ wALL := tb_5 (List.mem_of_getElem? (i := 102) rfl) rfl
theorem cw_yL_belongsByMembers : Cond.codeWith yL_belongsByMembers cL_belongsByMembers 5 (some .int) [(0, 17, 20, 22)] ∈ wALL := tb_5 (List.mem_of_getElem? (i := 103) rfl) rfl
theorem ml_RL_106 : Cond.methodLink RL 106 yX11_belongsByMembers ∈ wALL := tb_5 (List.mem_of_getElem? (i := 104) rfl) rfl
theorem im_yX11_belongsByMembers : Cond.instanceMethod yX11_belongsByMembers ∈ wALL := tb_5 (List.mem_of_getElem? (i := 105) rfl) rfl
theorem se_yX11_belongsByMembers : Cond.selects RX11 yX11_belongsByMembers yX11_belongsByMembers ∈ wALL := tb_5 (List.mem_of_getElem? (i := 106) rfl) rfl
theorem cd_yX11_belongsByMembers : Cond.code yX11_belongsByMembers cX11_belongsByMembers 3 (some .boolean) ∈ wALL := tb_5 (List.mem_of_getElem? (i := 107) rfl) rfl
theorem ml_RX11_305 : Cond.methodLink RX11 305 yX0_usersIn ∈ wALL := tb_5 (List.mem_of_getElem? (i := 108) rfl) rfl
theorem ml_RL_307 : Cond.methodLink RL 307 yX12_belongsByMembers ∈ wALL := tb_8 (List.mem_of_getElem? (i := 50) rfl) rfl
theorem im_yX12_belongsByMembers : Cond.instanceMethod yX12_belongsByMembers ∈ wALL := tb_8 (List.mem_of_getElem? (i := 51) rfl) rfl
theorem se_yX12_belongsByMembers : Cond.selects RX12 yX12_belongsByMembers yX12_belongsByMembers ∈ wALL := tb_8 (List.mem_of_getElem? (i := 52) rfl) rfl
theorem cd_yX12_belongsByMembers : Cond.code yX12_belongsByMembers cX12_belongsByMembers 3 (some .boolean) ∈ wALL := tb_8 (List.mem_of_getElem? (i := 53) rfl) rfl
theorem ml_RL_308 : Cond.methodLink RL 308 yX11_objects ∈ wALL := tb_2 (List.mem_of_getElem? (i := 133) rfl) rfl
theorem im_yX11_objects : Cond.instanceMethod yX11_objects ∈ wALL := tb_2 (List.mem_of_getElem? (i := 134) rfl) rfl
theorem se_yX11_objects : Cond.selects RX11 yX11_objects yX11_objects ∈ wALL := tb_2 (List.mem_of_getElem? (i := 135) rfl) rfl
theorem cd_yX11_objects : Cond.code yX11_objects cX11_objects 1 (some .int) ∈ wALL := tb_2 (List.mem_of_getElem? (i := 136) rfl) rfl
theorem ml_RL_311 : Cond.methodLink RL 311 yX12_objects ∈ wALL := tb_8 (List.mem_of_getElem? (i := 54) rfl) rfl
theorem im_yX12_objects : Cond.instanceMethod yX12_objects ∈ wALL := tb_8 (List.mem_of_getElem? (i := 55) rfl) rfl
theorem se_yX12_objects : Cond.selects RX12 yX12_objects yX12_objects ∈ wALL := tb_8 (List.mem_of_getElem? (i := 56) rfl) rfl
theorem cd_yX12_objects : Cond.code yX12_objects cX12_objects 1 (some .int) ∈ wALL := tb_8 (List.mem_of_getElem? (i := 57) rfl) rfl
theorem ml_RL_312 : Cond.methodLink RL 312 yX11_isThere ∈ wALL := tb_2 (List.mem_of_getElem? (i := 147) rfl) rfl
theorem im_yX11_isThere : Cond.instanceMethod yX11_isThere ∈ wALL := tb_2 (List.mem_of_getElem? (i := 148) rfl) rfl
theorem se_yX11_isThere : Cond.selects RX11 yX11_isThere yX11_isThere ∈ wALL := tb_2 (List.mem_of_getElem? (i := 149) rfl) rfl
theorem cd_yX11_isThere : Cond.code yX11_isThere cX11_isThere 2 (some .boolean) ∈ wALL := tb_2 (List.mem_of_getElem? (i := 150) rfl) rfl
theorem ml_RL_315 : Cond.methodLink RL 315 yX12_isThere ∈ wALL := tb_8 (List.mem_of_getElem? (i := 58) rfl) rfl
theorem im_yX12_isThere : Cond.instanceMethod yX12_isThere ∈ wALL := tb_8 (List.mem_of_getElem? (i := 59) rfl) rfl
theorem se_yX12_isThere : Cond.selects RX12 yX12_isThere yX12_isThere ∈ wALL := tb_8 (List.mem_of_getElem? (i := 60) rfl) rfl
theorem cd_yX12_isThere : Cond.code yX12_isThere cX12_isThere 2 (some .boolean) ∈ wALL := tb_8 (List.mem_of_getElem? (i := 61) rfl) rfl
theorem ml_RL_316 : Cond.methodLink RL 316 yL_parentOf ∈ wALL := tb_5 (List.mem_of_getElem? (i := 109) rfl) rfl
theorem st_yL_parentOf : Cond.static yL_parentOf ∈ wALL := tb_5 (List.mem_of_getElem? (i := 110) rfl) rfl
theorem cw_yL_parentOf : Cond.codeWith yL_parentOf cL_parentOf 4 (some .int) [(0, 9, 12, 22)] ∈ wALL := tb_5 (List.mem_of_getElem? (i := 111) rfl) rfl
theorem ml_RL_109 : Cond.methodLink RL 109 yX11_parentOf ∈ wALL := tb_5 (List.mem_of_getElem? (i := 112) rfl) rfl
theorem im_yX11_parentOf : Cond.instanceMethod yX11_parentOf ∈ wALL := tb_5 (List.mem_of_getElem? (i := 113) rfl) rfl
theorem se_yX11_parentOf : Cond.selects RX11 yX11_parentOf yX11_parentOf ∈ wALL := tb_5 (List.mem_of_getElem? (i := 114) rfl) rfl
theorem cd_yX11_parentOf : Cond.code yX11_parentOf cX11_parentOf 2 (some .int) ∈ wALL := tb_5 (List.mem_of_getElem? (i := 115) rfl) rfl
theorem ml_RL_318 : Cond.methodLink RL 318 yX12_parentOf ∈ wALL := tb_8 (List.mem_of_getElem? (i := 62) rfl) rfl
theorem im_yX12_parentOf : Cond.instanceMethod yX12_parentOf ∈ wALL := tb_8 (List.mem_of_getElem? (i := 63) rfl) rfl
theorem se_yX12_parentOf : Cond.selects RX12 yX12_parentOf yX12_parentOf ∈ wALL := tb_8 (List.mem_of_getElem? (i := 64) rfl) rfl
theorem cd_yX12_parentOf : Cond.code yX12_parentOf cX12_parentOf 2 (some .int) ∈ wALL := tb_8 (List.mem_of_getElem? (i := 65) rfl) rfl
theorem ml_RX12_212 : Cond.methodLink RX12 212 yX12_ofObject ∈ wALL := tb_8 (List.mem_of_getElem? (i := 66) rfl) rfl
theorem im_yX12_ofObject : Cond.instanceMethod yX12_ofObject ∈ wALL := tb_8 (List.mem_of_getElem? (i := 68) rfl) rfl
theorem se_yX12_ofObject : Cond.selects RX12 yX12_ofObject yX12_ofObject ∈ wALL := tp_5 (n := 15) (List.mem_of_getElem? (i := 9) rfl) rfl
theorem cd_yX12_ofObject : Cond.code yX12_ofObject cX12_ofObject 3 (some .int) ∈ wALL := tb_8 (List.mem_of_getElem? (i := 69) rfl) rfl
theorem ml_RL_319 : Cond.methodLink RL 319 yL_ownerOf ∈ wALL := tb_5 (List.mem_of_getElem? (i := 116) rfl) rfl
theorem st_yL_ownerOf : Cond.static yL_ownerOf ∈ wALL := tb_5 (List.mem_of_getElem? (i := 117) rfl) rfl
theorem cw_yL_ownerOf : Cond.codeWith yL_ownerOf cL_ownerOf 4 (some .int) [(0, 9, 12, 22)] ∈ wALL := tb_5 (List.mem_of_getElem? (i := 118) rfl) rfl
theorem ml_RL_112 : Cond.methodLink RL 112 yX11_ownerOf ∈ wALL := tb_5 (List.mem_of_getElem? (i := 119) rfl) rfl
theorem im_yX11_ownerOf : Cond.instanceMethod yX11_ownerOf ∈ wALL := tb_5 (List.mem_of_getElem? (i := 120) rfl) rfl
theorem se_yX11_ownerOf : Cond.selects RX11 yX11_ownerOf yX11_ownerOf ∈ wALL := tb_5 (List.mem_of_getElem? (i := 121) rfl) rfl
theorem cd_yX11_ownerOf : Cond.code yX11_ownerOf cX11_ownerOf 2 (some .int) ∈ wALL := tb_5 (List.mem_of_getElem? (i := 122) rfl) rfl
theorem ml_RL_321 : Cond.methodLink RL 321 yX12_ownerOf ∈ wALL := tb_8 (List.mem_of_getElem? (i := 70) rfl) rfl
theorem im_yX12_ownerOf : Cond.instanceMethod yX12_ownerOf ∈ wALL := tb_8 (List.mem_of_getElem? (i := 71) rfl) rfl
theorem se_yX12_ownerOf : Cond.selects RX12 yX12_ownerOf yX12_ownerOf ∈ wALL := tb_8 (List.mem_of_getElem? (i := 72) rfl) rfl
theorem cd_yX12_ownerOf : Cond.code yX12_ownerOf cX12_ownerOf 2 (some .int) ∈ wALL := tb_8 (List.mem_of_getElem? (i := 73) rfl) rfl
theorem ml_RL_322 : Cond.methodLink RL 322 yL_maskOf ∈ wALL := tb_5 (List.mem_of_getElem? (i := 123) rfl) rfl
theorem st_yL_maskOf : Cond.static yL_maskOf ∈ wALL := tb_5 (List.mem_of_getElem? (i := 124) rfl) rfl
theorem cw_yL_maskOf : Cond.codeWith yL_maskOf cL_maskOf 4 (some .int) [(0, 9, 12, 22)] ∈ wALL := tb_5 (List.mem_of_getElem? (i := 125) rfl) rfl
theorem ml_RL_115 : Cond.methodLink RL 115 yX11_maskOf ∈ wALL := tb_5 (List.mem_of_getElem? (i := 126) rfl) rfl
theorem im_yX11_maskOf : Cond.instanceMethod yX11_maskOf ∈ wALL := tb_5 (List.mem_of_getElem? (i := 127) rfl) rfl
theorem se_yX11_maskOf : Cond.selects RX11 yX11_maskOf yX11_maskOf ∈ wALL := tb_5 (List.mem_of_getElem? (i := 128) rfl) rfl
theorem cd_yX11_maskOf : Cond.code yX11_maskOf cX11_maskOf 2 (some .int) ∈ wALL := tb_5 (List.mem_of_getElem? (i := 129) rfl) rfl
theorem ml_RL_324 : Cond.methodLink RL 324 yX12_maskOf ∈ wALL := tb_8 (List.mem_of_getElem? (i := 74) rfl) rfl
theorem im_yX12_maskOf : Cond.instanceMethod yX12_maskOf ∈ wALL := tb_8 (List.mem_of_getElem? (i := 75) rfl) rfl
theorem se_yX12_maskOf : Cond.selects RX12 yX12_maskOf yX12_maskOf ∈ wALL := tb_8 (List.mem_of_getElem? (i := 76) rfl) rfl
theorem cd_yX12_maskOf : Cond.code yX12_maskOf cX12_maskOf 2 (some .int) ∈ wALL := tb_8 (List.mem_of_getElem? (i := 77) rfl) rfl
theorem ml_RL_325 : Cond.methodLink RL 325 yL_isInheriting ∈ wALL := tb_5 (List.mem_of_getElem? (i := 130) rfl) rfl
theorem st_yL_isInheriting : Cond.static yL_isInheriting ∈ wALL := tb_5 (List.mem_of_getElem? (i := 131) rfl) rfl
theorem cw_yL_isInheriting : Cond.codeWith yL_isInheriting cL_isInheriting 4 (some .int) [(0, 16, 19, 22)] ∈ wALL := tb_5 (List.mem_of_getElem? (i := 132) rfl) rfl
theorem ml_RL_118 : Cond.methodLink RL 118 yX11_isInheriting ∈ wALL := tb_5 (List.mem_of_getElem? (i := 133) rfl) rfl
theorem im_yX11_isInheriting : Cond.instanceMethod yX11_isInheriting ∈ wALL := tb_5 (List.mem_of_getElem? (i := 134) rfl) rfl
theorem se_yX11_isInheriting : Cond.selects RX11 yX11_isInheriting yX11_isInheriting ∈ wALL := tb_5 (List.mem_of_getElem? (i := 135) rfl) rfl
theorem cd_yX11_isInheriting : Cond.code yX11_isInheriting cX11_isInheriting 2 (some .boolean) ∈ wALL := tb_5 (List.mem_of_getElem? (i := 136) rfl) rfl
theorem ml_RL_327 : Cond.methodLink RL 327 yX12_isInheriting ∈ wALL := tb_8 (List.mem_of_getElem? (i := 78) rfl) rfl
theorem im_yX12_isInheriting : Cond.instanceMethod yX12_isInheriting ∈ wALL := tb_8 (List.mem_of_getElem? (i := 79) rfl) rfl
theorem se_yX12_isInheriting : Cond.selects RX12 yX12_isInheriting yX12_isInheriting ∈ wALL := tb_8 (List.mem_of_getElem? (i := 80) rfl) rfl
theorem cd_yX12_isInheriting : Cond.code yX12_isInheriting cX12_isInheriting 2 (some .boolean) ∈ wALL := tb_8 (List.mem_of_getElem? (i := 81) rfl) rfl
theorem ml_RL_328 : Cond.methodLink RL 328 yL_below ∈ wALL := tb_5 (List.mem_of_getElem? (i := 137) rfl) rfl
theorem st_yL_below : Cond.static yL_below ∈ wALL := tb_5 (List.mem_of_getElem? (i := 138) rfl) rfl
theorem cw_yL_below : Cond.codeWith yL_below cL_below 4 (some .int) [(0, 9, 12, 22)] ∈ wALL := tb_5 (List.mem_of_getElem? (i := 139) rfl) rfl
theorem ml_RL_122 : Cond.methodLink RL 122 yX11_below ∈ wALL := tb_5 (List.mem_of_getElem? (i := 140) rfl) rfl
theorem im_yX11_below : Cond.instanceMethod yX11_below ∈ wALL := tb_5 (List.mem_of_getElem? (i := 141) rfl) rfl
theorem se_yX11_below : Cond.selects RX11 yX11_below yX11_below ∈ wALL := tb_5 (List.mem_of_getElem? (i := 142) rfl) rfl
theorem cd_yX11_below : Cond.code yX11_below cX11_below 2 (some .int) ∈ wALL := tb_5 (List.mem_of_getElem? (i := 143) rfl) rfl
theorem ml_RL_330 : Cond.methodLink RL 330 yX12_below ∈ wALL := tb_8 (List.mem_of_getElem? (i := 82) rfl) rfl
theorem im_yX12_below : Cond.instanceMethod yX12_below ∈ wALL := tb_8 (List.mem_of_getElem? (i := 83) rfl) rfl
theorem se_yX12_below : Cond.selects RX12 yX12_below yX12_below ∈ wALL := tb_8 (List.mem_of_getElem? (i := 84) rfl) rfl
theorem cd_yX12_below : Cond.code yX12_below cX12_below 2 (some .int) ∈ wALL := tb_8 (List.mem_of_getElem? (i := 85) rfl) rfl
theorem ml_RL_331 : Cond.methodLink RL 331 yL_entriesOf ∈ wALL := tb_5 (List.mem_of_getElem? (i := 144) rfl) rfl
theorem st_yL_entriesOf : Cond.static yL_entriesOf ∈ wALL := tb_5 (List.mem_of_getElem? (i := 145) rfl) rfl
theorem cw_yL_entriesOf : Cond.codeWith yL_entriesOf cL_entriesOf 4 (some .int) [(0, 9, 12, 22)] ∈ wALL := tb_5 (List.mem_of_getElem? (i := 146) rfl) rfl
theorem ml_RL_125 : Cond.methodLink RL 125 yX11_entriesOf ∈ wALL := tb_5 (List.mem_of_getElem? (i := 147) rfl) rfl
theorem im_yX11_entriesOf : Cond.instanceMethod yX11_entriesOf ∈ wALL := tb_5 (List.mem_of_getElem? (i := 148) rfl) rfl
theorem se_yX11_entriesOf : Cond.selects RX11 yX11_entriesOf yX11_entriesOf ∈ wALL := tb_5 (List.mem_of_getElem? (i := 149) rfl) rfl
theorem cd_yX11_entriesOf : Cond.code yX11_entriesOf cX11_entriesOf 2 (some .int) ∈ wALL := tb_5 (List.mem_of_getElem? (i := 150) rfl) rfl
theorem ml_RL_333 : Cond.methodLink RL 333 yX12_entriesOf ∈ wALL := tb_8 (List.mem_of_getElem? (i := 86) rfl) rfl
theorem im_yX12_entriesOf : Cond.instanceMethod yX12_entriesOf ∈ wALL := tb_8 (List.mem_of_getElem? (i := 87) rfl) rfl
theorem se_yX12_entriesOf : Cond.selects RX12 yX12_entriesOf yX12_entriesOf ∈ wALL := tb_8 (List.mem_of_getElem? (i := 88) rfl) rfl
theorem cd_yX12_entriesOf : Cond.code yX12_entriesOf cX12_entriesOf 2 (some .int) ∈ wALL := tb_8 (List.mem_of_getElem? (i := 89) rfl) rfl
theorem ml_RL_334 : Cond.methodLink RL 334 yL_isAllowing ∈ wALL := tb_5 (List.mem_of_getElem? (i := 151) rfl) rfl
theorem st_yL_isAllowing : Cond.static yL_isAllowing ∈ wALL := tb_5 (List.mem_of_getElem? (i := 152) rfl) rfl
theorem cw_yL_isAllowing : Cond.codeWith yL_isAllowing cL_isAllowing 5 (some .int) [(0, 17, 20, 22)] ∈ wALL := tb_5 (List.mem_of_getElem? (i := 153) rfl) rfl
theorem ml_RL_128 : Cond.methodLink RL 128 yX11_isAllowing ∈ wALL := tb_5 (List.mem_of_getElem? (i := 154) rfl) rfl
theorem im_yX11_isAllowing : Cond.instanceMethod yX11_isAllowing ∈ wALL := tb_5 (List.mem_of_getElem? (i := 155) rfl) rfl
theorem se_yX11_isAllowing : Cond.selects RX11 yX11_isAllowing yX11_isAllowing ∈ wALL := tb_5 (List.mem_of_getElem? (i := 156) rfl) rfl
theorem cd_yX11_isAllowing : Cond.code yX11_isAllowing cX11_isAllowing 3 (some .boolean) ∈ wALL := tb_5 (List.mem_of_getElem? (i := 157) rfl) rfl
theorem ml_RX11_311 : Cond.methodLink RX11 311 yX6_entryAt ∈ wALL := tb_5 (List.mem_of_getElem? (i := 158) rfl) rfl
theorem ml_RX11_313 : Cond.methodLink RX11 313 yX1_allows ∈ wALL := tb_5 (List.mem_of_getElem? (i := 159) rfl) rfl
theorem ml_RL_336 : Cond.methodLink RL 336 yX12_isAllowing ∈ wALL := tb_8 (List.mem_of_getElem? (i := 90) rfl) rfl
theorem im_yX12_isAllowing : Cond.instanceMethod yX12_isAllowing ∈ wALL := tb_8 (List.mem_of_getElem? (i := 91) rfl) rfl
theorem se_yX12_isAllowing : Cond.selects RX12 yX12_isAllowing yX12_isAllowing ∈ wALL := tb_8 (List.mem_of_getElem? (i := 92) rfl) rfl
theorem cd_yX12_isAllowing : Cond.code yX12_isAllowing cX12_isAllowing 3 (some .boolean) ∈ wALL := tb_8 (List.mem_of_getElem? (i := 93) rfl) rfl
theorem ml_RX12_215 : Cond.methodLink RX12 215 yX12_ofTheEntry ∈ wALL := tb_8 (List.mem_of_getElem? (i := 94) rfl) rfl
theorem im_yX12_ofTheEntry : Cond.instanceMethod yX12_ofTheEntry ∈ wALL := tb_8 (List.mem_of_getElem? (i := 96) rfl) rfl
theorem se_yX12_ofTheEntry : Cond.selects RX12 yX12_ofTheEntry yX12_ofTheEntry ∈ wALL := tp_5 (n := 15) (List.mem_of_getElem? (i := 10) rfl) rfl
theorem cd_yX12_ofTheEntry : Cond.code yX12_ofTheEntry cX12_ofTheEntry 4 (some .int) ∈ wALL := tb_8 (List.mem_of_getElem? (i := 97) rfl) rfl
theorem ml_RL_337 : Cond.methodLink RL 337 yL_rightsOfEntry ∈ wALL := tb_5 (List.mem_of_getElem? (i := 160) rfl) rfl
theorem st_yL_rightsOfEntry : Cond.static yL_rightsOfEntry ∈ wALL := tb_5 (List.mem_of_getElem? (i := 161) rfl) rfl
theorem cw_yL_rightsOfEntry : Cond.codeWith yL_rightsOfEntry cL_rightsOfEntry 5 (some .int) [(0, 10, 13, 22)] ∈ wALL := tb_5 (List.mem_of_getElem? (i := 162) rfl) rfl
theorem ml_RL_131 : Cond.methodLink RL 131 yX11_rightsOfEntry ∈ wALL := tb_5 (List.mem_of_getElem? (i := 163) rfl) rfl
theorem im_yX11_rightsOfEntry : Cond.instanceMethod yX11_rightsOfEntry ∈ wALL := tb_5 (List.mem_of_getElem? (i := 164) rfl) rfl
theorem se_yX11_rightsOfEntry : Cond.selects RX11 yX11_rightsOfEntry yX11_rightsOfEntry ∈ wALL := tb_5 (List.mem_of_getElem? (i := 165) rfl) rfl
theorem cd_yX11_rightsOfEntry : Cond.code yX11_rightsOfEntry cX11_rightsOfEntry 3 (some .int) ∈ wALL := tb_5 (List.mem_of_getElem? (i := 166) rfl) rfl
theorem ml_RX11_316 : Cond.methodLink RX11 316 yX1_rights ∈ wALL := tb_5 (List.mem_of_getElem? (i := 167) rfl) rfl
theorem ml_RL_339 : Cond.methodLink RL 339 yX12_rightsOfEntry ∈ wALL := tb_8 (List.mem_of_getElem? (i := 98) rfl) rfl
theorem im_yX12_rightsOfEntry : Cond.instanceMethod yX12_rightsOfEntry ∈ wALL := tb_8 (List.mem_of_getElem? (i := 99) rfl) rfl
theorem se_yX12_rightsOfEntry : Cond.selects RX12 yX12_rightsOfEntry yX12_rightsOfEntry ∈ wALL := tb_8 (List.mem_of_getElem? (i := 100) rfl) rfl
theorem cd_yX12_rightsOfEntry : Cond.code yX12_rightsOfEntry cX12_rightsOfEntry 3 (some .int) ∈ wALL := tb_8 (List.mem_of_getElem? (i := 101) rfl) rfl
theorem ml_RL_340 : Cond.methodLink RL 340 yL_userOfEntry ∈ wALL := tb_5 (List.mem_of_getElem? (i := 168) rfl) rfl
theorem st_yL_userOfEntry : Cond.static yL_userOfEntry ∈ wALL := tb_5 (List.mem_of_getElem? (i := 169) rfl) rfl
theorem cw_yL_userOfEntry : Cond.codeWith yL_userOfEntry cL_userOfEntry 5 (some .int) [(0, 10, 13, 22)] ∈ wALL := tb_5 (List.mem_of_getElem? (i := 170) rfl) rfl
theorem ml_RL_134 : Cond.methodLink RL 134 yX11_userOfEntry ∈ wALL := tb_5 (List.mem_of_getElem? (i := 171) rfl) rfl
theorem im_yX11_userOfEntry : Cond.instanceMethod yX11_userOfEntry ∈ wALL := tb_5 (List.mem_of_getElem? (i := 172) rfl) rfl
theorem se_yX11_userOfEntry : Cond.selects RX11 yX11_userOfEntry yX11_userOfEntry ∈ wALL := tb_5 (List.mem_of_getElem? (i := 173) rfl) rfl
theorem cd_yX11_userOfEntry : Cond.code yX11_userOfEntry cX11_userOfEntry 4 (some .int) ∈ wALL := tb_5 (List.mem_of_getElem? (i := 174) rfl) rfl
theorem ml_RX11_319 : Cond.methodLink RX11 319 yX1_kind ∈ wALL := tb_5 (List.mem_of_getElem? (i := 175) rfl) rfl
theorem ml_RX11_322 : Cond.methodLink RX11 322 yX1_number ∈ wALL := tb_5 (List.mem_of_getElem? (i := 176) rfl) rfl
theorem ml_RL_342 : Cond.methodLink RL 342 yX12_userOfEntry ∈ wALL := tb_8 (List.mem_of_getElem? (i := 102) rfl) rfl
theorem im_yX12_userOfEntry : Cond.instanceMethod yX12_userOfEntry ∈ wALL := tb_8 (List.mem_of_getElem? (i := 103) rfl) rfl
theorem se_yX12_userOfEntry : Cond.selects RX12 yX12_userOfEntry yX12_userOfEntry ∈ wALL := tb_8 (List.mem_of_getElem? (i := 104) rfl) rfl
theorem cd_yX12_userOfEntry : Cond.code yX12_userOfEntry cX12_userOfEntry 3 (some .int) ∈ wALL := tb_8 (List.mem_of_getElem? (i := 105) rfl) rfl
theorem ml_RX12_218 : Cond.methodLink RX12 218 yX12_whomOf ∈ wALL := tb_8 (List.mem_of_getElem? (i := 106) rfl) rfl
theorem im_yX12_whomOf : Cond.instanceMethod yX12_whomOf ∈ wALL := tb_8 (List.mem_of_getElem? (i := 108) rfl) rfl
theorem se_yX12_whomOf : Cond.selects RX12 yX12_whomOf yX12_whomOf ∈ wALL := tp_5 (n := 15) (List.mem_of_getElem? (i := 11) rfl) rfl
theorem cd_yX12_whomOf : Cond.code yX12_whomOf cX12_whomOf 5 (some .int) ∈ wALL := tb_8 (List.mem_of_getElem? (i := 109) rfl) rfl
theorem ml_RL_343 : Cond.methodLink RL 343 yL_groupOfEntry ∈ wALL := tb_5 (List.mem_of_getElem? (i := 177) rfl) rfl
theorem st_yL_groupOfEntry : Cond.static yL_groupOfEntry ∈ wALL := tb_5 (List.mem_of_getElem? (i := 178) rfl) rfl
theorem cw_yL_groupOfEntry : Cond.codeWith yL_groupOfEntry cL_groupOfEntry 5 (some .int) [(0, 10, 13, 22)] ∈ wALL := tb_5 (List.mem_of_getElem? (i := 179) rfl) rfl
theorem ml_RL_137 : Cond.methodLink RL 137 yX11_groupOfEntry ∈ wALL := tb_5 (List.mem_of_getElem? (i := 180) rfl) rfl
theorem im_yX11_groupOfEntry : Cond.instanceMethod yX11_groupOfEntry ∈ wALL := tb_5 (List.mem_of_getElem? (i := 181) rfl) rfl
theorem se_yX11_groupOfEntry : Cond.selects RX11 yX11_groupOfEntry yX11_groupOfEntry ∈ wALL := tb_5 (List.mem_of_getElem? (i := 182) rfl) rfl
theorem cd_yX11_groupOfEntry : Cond.code yX11_groupOfEntry cX11_groupOfEntry 4 (some .int) ∈ wALL := tb_5 (List.mem_of_getElem? (i := 183) rfl) rfl
theorem ml_RL_345 : Cond.methodLink RL 345 yX12_groupOfEntry ∈ wALL := tb_8 (List.mem_of_getElem? (i := 110) rfl) rfl
theorem im_yX12_groupOfEntry : Cond.instanceMethod yX12_groupOfEntry ∈ wALL := tb_8 (List.mem_of_getElem? (i := 111) rfl) rfl
theorem se_yX12_groupOfEntry : Cond.selects RX12 yX12_groupOfEntry yX12_groupOfEntry ∈ wALL := tb_8 (List.mem_of_getElem? (i := 112) rfl) rfl
theorem cd_yX12_groupOfEntry : Cond.code yX12_groupOfEntry cX12_groupOfEntry 3 (some .int) ∈ wALL := tb_8 (List.mem_of_getElem? (i := 113) rfl) rfl
theorem ml_RL_346 : Cond.methodLink RL 346 yL_isForOwner ∈ wALL := tb_5 (List.mem_of_getElem? (i := 184) rfl) rfl
theorem st_yL_isForOwner : Cond.static yL_isForOwner ∈ wALL := tb_5 (List.mem_of_getElem? (i := 185) rfl) rfl
theorem cw_yL_isForOwner : Cond.codeWith yL_isForOwner cL_isForOwner 5 (some .int) [(0, 17, 20, 22)] ∈ wALL := tb_5 (List.mem_of_getElem? (i := 186) rfl) rfl
theorem ml_RL_140 : Cond.methodLink RL 140 yX11_isForOwner ∈ wALL := tb_5 (List.mem_of_getElem? (i := 187) rfl) rfl
theorem im_yX11_isForOwner : Cond.instanceMethod yX11_isForOwner ∈ wALL := tb_5 (List.mem_of_getElem? (i := 188) rfl) rfl
theorem se_yX11_isForOwner : Cond.selects RX11 yX11_isForOwner yX11_isForOwner ∈ wALL := tb_5 (List.mem_of_getElem? (i := 189) rfl) rfl
theorem cd_yX11_isForOwner : Cond.code yX11_isForOwner cX11_isForOwner 3 (some .boolean) ∈ wALL := tb_5 (List.mem_of_getElem? (i := 190) rfl) rfl
theorem ml_RL_348 : Cond.methodLink RL 348 yX12_isForOwner ∈ wALL := tb_8 (List.mem_of_getElem? (i := 114) rfl) rfl
theorem im_yX12_isForOwner : Cond.instanceMethod yX12_isForOwner ∈ wALL := tb_8 (List.mem_of_getElem? (i := 115) rfl) rfl
theorem se_yX12_isForOwner : Cond.selects RX12 yX12_isForOwner yX12_isForOwner ∈ wALL := tb_8 (List.mem_of_getElem? (i := 116) rfl) rfl
theorem cd_yX12_isForOwner : Cond.code yX12_isForOwner cX12_isForOwner 3 (some .boolean) ∈ wALL := tb_8 (List.mem_of_getElem? (i := 117) rfl) rfl
theorem ml_RL_349 : Cond.methodLink RL 349 yL_isForBelow ∈ wALL := tb_5 (List.mem_of_getElem? (i := 191) rfl) rfl
theorem st_yL_isForBelow : Cond.static yL_isForBelow ∈ wALL := tb_5 (List.mem_of_getElem? (i := 192) rfl) rfl
theorem cw_yL_isForBelow : Cond.codeWith yL_isForBelow cL_isForBelow 5 (some .int) [(0, 17, 20, 22)] ∈ wALL := tb_5 (List.mem_of_getElem? (i := 193) rfl) rfl
theorem ml_RL_143 : Cond.methodLink RL 143 yX11_isForBelow ∈ wALL := tb_5 (List.mem_of_getElem? (i := 194) rfl) rfl
theorem im_yX11_isForBelow : Cond.instanceMethod yX11_isForBelow ∈ wALL := tb_5 (List.mem_of_getElem? (i := 195) rfl) rfl
theorem se_yX11_isForBelow : Cond.selects RX11 yX11_isForBelow yX11_isForBelow ∈ wALL := tb_5 (List.mem_of_getElem? (i := 196) rfl) rfl
theorem cd_yX11_isForBelow : Cond.code yX11_isForBelow cX11_isForBelow 3 (some .boolean) ∈ wALL := tb_5 (List.mem_of_getElem? (i := 197) rfl) rfl
theorem ml_RX11_325 : Cond.methodLink RX11 325 yX1_countsBelow ∈ wALL := tb_5 (List.mem_of_getElem? (i := 198) rfl) rfl
theorem ml_RL_351 : Cond.methodLink RL 351 yX12_isForBelow ∈ wALL := tb_8 (List.mem_of_getElem? (i := 118) rfl) rfl
theorem im_yX12_isForBelow : Cond.instanceMethod yX12_isForBelow ∈ wALL := tb_8 (List.mem_of_getElem? (i := 119) rfl) rfl
theorem se_yX12_isForBelow : Cond.selects RX12 yX12_isForBelow yX12_isForBelow ∈ wALL := tb_8 (List.mem_of_getElem? (i := 120) rfl) rfl
theorem cd_yX12_isForBelow : Cond.code yX12_isForBelow cX12_isForBelow 3 (some .boolean) ∈ wALL := tb_8 (List.mem_of_getElem? (i := 121) rfl) rfl
theorem ml_RL_352 : Cond.methodLink RL 352 yL_isAllowed ∈ wALL := tb_5 (List.mem_of_getElem? (i := 199) rfl) rfl
theorem st_yL_isAllowed : Cond.static yL_isAllowed ∈ wALL := tb_5 (List.mem_of_getElem? (i := 200) rfl) rfl
theorem cw_yL_isAllowed : Cond.codeWith yL_isAllowed cL_isAllowed 6 (some .int) [(0, 19, 22, 22), (0, 19, 26, 49)] ∈ wALL := tb_5 (List.mem_of_getElem? (i := 201) rfl) rfl
theorem ml_RL_146 : Cond.methodLink RL 146 yX11_isAllowed ∈ wALL := tb_5 (List.mem_of_getElem? (i := 202) rfl) rfl
theorem im_yX11_isAllowed : Cond.instanceMethod yX11_isAllowed ∈ wALL := tb_5 (List.mem_of_getElem? (i := 203) rfl) rfl
theorem se_yX11_isAllowed : Cond.selects RX11 yX11_isAllowed yX11_isAllowed ∈ wALL := tb_5 (List.mem_of_getElem? (i := 204) rfl) rfl
theorem cd_yX11_isAllowed : Cond.code yX11_isAllowed cX11_isAllowed 4 (some .boolean) ∈ wALL := tb_5 (List.mem_of_getElem? (i := 205) rfl) rfl
theorem ml_RL_354 : Cond.methodLink RL 354 yX12_isAllowed ∈ wALL := tb_8 (List.mem_of_getElem? (i := 122) rfl) rfl
theorem im_yX12_isAllowed : Cond.instanceMethod yX12_isAllowed ∈ wALL := tb_8 (List.mem_of_getElem? (i := 123) rfl) rfl
theorem se_yX12_isAllowed : Cond.selects RX12 yX12_isAllowed yX12_isAllowed ∈ wALL := tb_8 (List.mem_of_getElem? (i := 124) rfl) rfl
theorem cd_yX12_isAllowed : Cond.code yX12_isAllowed cX12_isAllowed 4 (some .boolean) ∈ wALL := tb_8 (List.mem_of_getElem? (i := 125) rfl) rfl
theorem ml_RX12_221 : Cond.methodLink RX12 221 yX12_isQuestion ∈ wALL := tb_8 (List.mem_of_getElem? (i := 126) rfl) rfl
theorem im_yX12_isQuestion : Cond.instanceMethod yX12_isQuestion ∈ wALL := tb_8 (List.mem_of_getElem? (i := 128) rfl) rfl
theorem se_yX12_isQuestion : Cond.selects RX12 yX12_isQuestion yX12_isQuestion ∈ wALL := tp_5 (n := 15) (List.mem_of_getElem? (i := 12) rfl) rfl
theorem cd_yX12_isQuestion : Cond.code yX12_isQuestion cX12_isQuestion 4 (some .boolean) ∈ wALL := tb_8 (List.mem_of_getElem? (i := 129) rfl) rfl
theorem ml_RL_355 : Cond.methodLink RL 355 yL_isAllowedByHandingDown ∈ wALL := tb_5 (List.mem_of_getElem? (i := 206) rfl) rfl
theorem st_yL_isAllowedByHandingDown : Cond.static yL_isAllowedByHandingDown ∈ wALL := tb_5 (List.mem_of_getElem? (i := 207) rfl) rfl
theorem cw_yL_isAllowedByHandingDown : Cond.codeWith yL_isAllowedByHandingDown cL_isAllowedByHandingDown 6 (some .int) [(0, 19, 22, 22), (0, 19, 26, 49)] ∈ wALL := tb_5 (List.mem_of_getElem? (i := 208) rfl) rfl
theorem ml_RL_149 : Cond.methodLink RL 149 yX11_isAllowedByHandingDown ∈ wALL := tb_5 (List.mem_of_getElem? (i := 209) rfl) rfl
theorem im_yX11_isAllowedByHandingDown : Cond.instanceMethod yX11_isAllowedByHandingDown ∈ wALL := tb_5 (List.mem_of_getElem? (i := 210) rfl) rfl
theorem se_yX11_isAllowedByHandingDown : Cond.selects RX11 yX11_isAllowedByHandingDown yX11_isAllowedByHandingDown ∈ wALL := tb_5 (List.mem_of_getElem? (i := 211) rfl) rfl
theorem cd_yX11_isAllowedByHandingDown : Cond.code yX11_isAllowedByHandingDown cX11_isAllowedByHandingDown 4 (some .boolean) ∈ wALL := tb_5 (List.mem_of_getElem? (i := 212) rfl) rfl
theorem ml_RX11_328 : Cond.methodLink RX11 328 yX2_grants ∈ wALL := tb_5 (List.mem_of_getElem? (i := 213) rfl) rfl
theorem im_yX2_grants : Cond.instanceMethod yX2_grants ∈ wALL := tb_5 (List.mem_of_getElem? (i := 214) rfl) rfl
theorem se_yX2_grants : Cond.selects RX2 yX2_grants yX2_grants ∈ wALL := tb_5 (List.mem_of_getElem? (i := 215) rfl) rfl
theorem cd_yX2_grants : Cond.code yX2_grants cX2_grants 5 (some .boolean) ∈ wALL := tb_5 (List.mem_of_getElem? (i := 216) rfl) rfl
theorem ml_RX2_22 : Cond.methodLink RX2 22 yX2_handAllDown ∈ wALL := tb_5 (List.mem_of_getElem? (i := 217) rfl) rfl
theorem im_yX2_handAllDown : Cond.instanceMethod yX2_handAllDown ∈ wALL := tb_5 (List.mem_of_getElem? (i := 219) rfl) rfl
theorem se_yX2_handAllDown : Cond.selects RX2 yX2_handAllDown yX2_handAllDown ∈ wALL := tp_2 (n := 3) (List.mem_of_getElem? (i := 7) rfl) rfl
theorem cd_yX2_handAllDown : Cond.code yX2_handAllDown cX2_handAllDown 5 none ∈ wALL := tb_5 (List.mem_of_getElem? (i := 220) rfl) rfl
theorem fl_RX2_81 : Cond.fieldLink RX2 81 "PermissionDesk$State" "lists" "LPermissionDesk$Lists;" ∈ wALL := tb_1 (List.mem_of_getElem? (i := 135) rfl) rfl
theorem fl_RX2_46 : Cond.fieldLink RX2 46 "PermissionDesk$State" "tree" "LPermissionDesk$Tree;" ∈ wALL := tb_1 (List.mem_of_getElem? (i := 131) rfl) rfl
theorem ml_RX2_75 : Cond.methodLink RX2 75 yJ7_fill_53178 ∈ wALL := tb_5 (List.mem_of_getElem? (i := 221) rfl) rfl
theorem ml_RX2_84 : Cond.methodLink RX2 84 yX2_takeOwn ∈ wALL := tb_5 (List.mem_of_getElem? (i := 222) rfl) rfl
theorem im_yX2_takeOwn : Cond.instanceMethod yX2_takeOwn ∈ wALL := tb_5 (List.mem_of_getElem? (i := 224) rfl) rfl
theorem se_yX2_takeOwn : Cond.selects RX2 yX2_takeOwn yX2_takeOwn ∈ wALL := tp_2 (n := 3) (List.mem_of_getElem? (i := 8) rfl) rfl
theorem cd_yX2_takeOwn : Cond.code yX2_takeOwn cX2_takeOwn 5 none ∈ wALL := tb_5 (List.mem_of_getElem? (i := 225) rfl) rfl
theorem ml_RX2_103 : Cond.methodLink RX2 103 yX6_countAt ∈ wALL := tb_5 (List.mem_of_getElem? (i := 227) rfl) rfl
theorem ml_RX2_108 : Cond.methodLink RX2 108 yX6_entryAt ∈ wALL := tb_5 (List.mem_of_getElem? (i := 228) rfl) rfl
theorem ml_RX2_111 : Cond.methodLink RX2 111 yX2_putLast ∈ wALL := tb_5 (List.mem_of_getElem? (i := 229) rfl) rfl
theorem im_yX2_putLast : Cond.instanceMethod yX2_putLast ∈ wALL := tb_5 (List.mem_of_getElem? (i := 231) rfl) rfl
theorem se_yX2_putLast : Cond.selects RX2 yX2_putLast yX2_putLast ∈ wALL := tp_2 (n := 3) (List.mem_of_getElem? (i := 9) rfl) rfl
theorem cd_yX2_putLast : Cond.code yX2_putLast cX2_putLast 3 none ∈ wALL := tb_5 (List.mem_of_getElem? (i := 232) rfl) rfl
theorem ml_RX2_88 : Cond.methodLink RX2 88 yX10_parentAt ∈ wALL := tb_5 (List.mem_of_getElem? (i := 234) rfl) rfl
theorem ml_RX2_91 : Cond.methodLink RX2 91 yX10_inherits ∈ wALL := tb_5 (List.mem_of_getElem? (i := 236) rfl) rfl
theorem ml_RX2_95 : Cond.methodLink RX2 95 yX2_takeHanded ∈ wALL := tb_5 (List.mem_of_getElem? (i := 237) rfl) rfl
theorem im_yX2_takeHanded : Cond.instanceMethod yX2_takeHanded ∈ wALL := tb_5 (List.mem_of_getElem? (i := 239) rfl) rfl
theorem se_yX2_takeHanded : Cond.selects RX2 yX2_takeHanded yX2_takeHanded ∈ wALL := tp_2 (n := 3) (List.mem_of_getElem? (i := 10) rfl) rfl
theorem cd_yX2_takeHanded : Cond.code yX2_takeHanded cX2_takeHanded 6 none ∈ wALL := tb_6 (List.mem_of_getElem? (i := 0) rfl) rfl
theorem ml_RX2_55 : Cond.methodLink RX2 55 yX2_lengthAt ∈ wALL := tb_6 (List.mem_of_getElem? (i := 1) rfl) rfl
theorem im_yX2_lengthAt : Cond.instanceMethod yX2_lengthAt ∈ wALL := tb_6 (List.mem_of_getElem? (i := 3) rfl) rfl
theorem se_yX2_lengthAt : Cond.selects RX2 yX2_lengthAt yX2_lengthAt ∈ wALL := tp_2 (n := 3) (List.mem_of_getElem? (i := 11) rfl) rfl
theorem cd_yX2_lengthAt : Cond.code yX2_lengthAt cX2_lengthAt 2 (some .int) ∈ wALL := tb_6 (List.mem_of_getElem? (i := 4) rfl) rfl
theorem ml_RX2_58 : Cond.methodLink RX2 58 yX2_codeIn ∈ wALL := tb_6 (List.mem_of_getElem? (i := 5) rfl) rfl
theorem im_yX2_codeIn : Cond.instanceMethod yX2_codeIn ∈ wALL := tb_6 (List.mem_of_getElem? (i := 7) rfl) rfl
theorem se_yX2_codeIn : Cond.selects RX2 yX2_codeIn yX2_codeIn ∈ wALL := tp_2 (n := 3) (List.mem_of_getElem? (i := 12) rfl) rfl
theorem cd_yX2_codeIn : Cond.code yX2_codeIn cX2_codeIn 3 (some .int) ∈ wALL := tb_6 (List.mem_of_getElem? (i := 8) rfl) rfl
theorem ml_RX2_115 : Cond.methodLink RX2 115 yX1_countsBelow ∈ wALL := tb_6 (List.mem_of_getElem? (i := 9) rfl) rfl
theorem ml_RX2_26 : Cond.methodLink RX2 26 yX2_decider ∈ wALL := tb_6 (List.mem_of_getElem? (i := 10) rfl) rfl
theorem im_yX2_decider : Cond.instanceMethod yX2_decider ∈ wALL := tb_6 (List.mem_of_getElem? (i := 12) rfl) rfl
theorem se_yX2_decider : Cond.selects RX2 yX2_decider yX2_decider ∈ wALL := tp_2 (n := 3) (List.mem_of_getElem? (i := 13) rfl) rfl
theorem cd_yX2_decider : Cond.code yX2_decider cX2_decider 9 (some .int) ∈ wALL := tb_6 (List.mem_of_getElem? (i := 13) rfl) rfl
theorem fl_RX2_36 : Cond.fieldLink RX2 36 "PermissionDesk$State" "club" "LPermissionDesk$Club;" ∈ wALL := tb_1 (List.mem_of_getElem? (i := 127) rfl) rfl
theorem ml_RX2_40 : Cond.methodLink RX2 40 yX0_groupsOver ∈ wALL := tb_6 (List.mem_of_getElem? (i := 14) rfl) rfl
theorem ml_RX2_50 : Cond.methodLink RX2 50 yX10_ownerAt ∈ wALL := tb_6 (List.mem_of_getElem? (i := 15) rfl) rfl
theorem ml_RX2_62 : Cond.methodLink RX2 62 yX1_rights ∈ wALL := tb_6 (List.mem_of_getElem? (i := 16) rfl) rfl
theorem ml_RX2_71 : Cond.methodLink RX2 71 yX1_isFor ∈ wALL := tb_6 (List.mem_of_getElem? (i := 17) rfl) rfl
theorem ml_RX2_30 : Cond.methodLink RX2 30 yX9_grants ∈ wALL := tb_6 (List.mem_of_getElem? (i := 18) rfl) rfl
theorem ml_RL_357 : Cond.methodLink RL 357 yX12_isAllowedByHandingDown ∈ wALL := tb_8 (List.mem_of_getElem? (i := 130) rfl) rfl
theorem im_yX12_isAllowedByHandingDown : Cond.instanceMethod yX12_isAllowedByHandingDown ∈ wALL := tb_8 (List.mem_of_getElem? (i := 131) rfl) rfl
theorem se_yX12_isAllowedByHandingDown : Cond.selects RX12 yX12_isAllowedByHandingDown yX12_isAllowedByHandingDown ∈ wALL := tb_8 (List.mem_of_getElem? (i := 132) rfl) rfl
theorem cd_yX12_isAllowedByHandingDown : Cond.code yX12_isAllowedByHandingDown cX12_isAllowedByHandingDown 4 (some .boolean) ∈ wALL := tb_8 (List.mem_of_getElem? (i := 133) rfl) rfl
theorem ml_RL_358 : Cond.methodLink RL 358 yL_rightsOf ∈ wALL := tb_6 (List.mem_of_getElem? (i := 19) rfl) rfl
theorem st_yL_rightsOf : Cond.static yL_rightsOf ∈ wALL := tb_6 (List.mem_of_getElem? (i := 20) rfl) rfl
theorem cw_yL_rightsOf : Cond.codeWith yL_rightsOf cL_rightsOf 5 (some .int) [(0, 10, 13, 22)] ∈ wALL := tb_6 (List.mem_of_getElem? (i := 21) rfl) rfl
theorem ml_RL_152 : Cond.methodLink RL 152 yX11_rightsOf ∈ wALL := tb_6 (List.mem_of_getElem? (i := 22) rfl) rfl
theorem im_yX11_rightsOf : Cond.instanceMethod yX11_rightsOf ∈ wALL := tb_6 (List.mem_of_getElem? (i := 23) rfl) rfl
theorem se_yX11_rightsOf : Cond.selects RX11 yX11_rightsOf yX11_rightsOf ∈ wALL := tb_6 (List.mem_of_getElem? (i := 24) rfl) rfl
theorem cd_yX11_rightsOf : Cond.code yX11_rightsOf cX11_rightsOf 3 (some .int) ∈ wALL := tb_6 (List.mem_of_getElem? (i := 25) rfl) rfl
theorem ml_RL_360 : Cond.methodLink RL 360 yX12_rightsOf ∈ wALL := tb_8 (List.mem_of_getElem? (i := 134) rfl) rfl
theorem im_yX12_rightsOf : Cond.instanceMethod yX12_rightsOf ∈ wALL := tb_8 (List.mem_of_getElem? (i := 135) rfl) rfl
theorem se_yX12_rightsOf : Cond.selects RX12 yX12_rightsOf yX12_rightsOf ∈ wALL := tb_8 (List.mem_of_getElem? (i := 136) rfl) rfl
theorem cd_yX12_rightsOf : Cond.code yX12_rightsOf cX12_rightsOf 3 (some .int) ∈ wALL := tb_8 (List.mem_of_getElem? (i := 137) rfl) rfl
theorem ml_RL_361 : Cond.methodLink RL 361 yL_decidingObject ∈ wALL := tb_6 (List.mem_of_getElem? (i := 26) rfl) rfl
theorem st_yL_decidingObject : Cond.static yL_decidingObject ∈ wALL := tb_6 (List.mem_of_getElem? (i := 27) rfl) rfl
theorem cw_yL_decidingObject : Cond.codeWith yL_decidingObject cL_decidingObject 6 (some .int) [(0, 12, 15, 22), (0, 12, 19, 49)] ∈ wALL := tb_6 (List.mem_of_getElem? (i := 28) rfl) rfl
theorem ml_RL_155 : Cond.methodLink RL 155 yX11_decidingObject ∈ wALL := tb_6 (List.mem_of_getElem? (i := 29) rfl) rfl
theorem im_yX11_decidingObject : Cond.instanceMethod yX11_decidingObject ∈ wALL := tb_6 (List.mem_of_getElem? (i := 30) rfl) rfl
theorem se_yX11_decidingObject : Cond.selects RX11 yX11_decidingObject yX11_decidingObject ∈ wALL := tb_6 (List.mem_of_getElem? (i := 31) rfl) rfl
theorem cd_yX11_decidingObject : Cond.code yX11_decidingObject cX11_decidingObject 5 (some .int) ∈ wALL := tb_6 (List.mem_of_getElem? (i := 32) rfl) rfl
theorem ml_RX11_329 : Cond.methodLink RX11 329 yX4_decidingPlace ∈ wALL := tb_6 (List.mem_of_getElem? (i := 33) rfl) rfl
theorem im_yX4_decidingPlace : Cond.instanceMethod yX4_decidingPlace ∈ wALL := tb_6 (List.mem_of_getElem? (i := 34) rfl) rfl
theorem se_yX4_decidingPlace : Cond.selects RX4 yX4_decidingPlace yX4_decidingPlace ∈ wALL := tb_6 (List.mem_of_getElem? (i := 35) rfl) rfl
theorem cd_yX4_decidingPlace : Cond.code yX4_decidingPlace cX4_decidingPlace 5 (some .int) ∈ wALL := tb_6 (List.mem_of_getElem? (i := 36) rfl) rfl
theorem ml_RL_363 : Cond.methodLink RL 363 yX12_decidingObject ∈ wALL := tb_8 (List.mem_of_getElem? (i := 138) rfl) rfl
theorem im_yX12_decidingObject : Cond.instanceMethod yX12_decidingObject ∈ wALL := tb_8 (List.mem_of_getElem? (i := 139) rfl) rfl
theorem se_yX12_decidingObject : Cond.selects RX12 yX12_decidingObject yX12_decidingObject ∈ wALL := tb_8 (List.mem_of_getElem? (i := 140) rfl) rfl
theorem cd_yX12_decidingObject : Cond.code yX12_decidingObject cX12_decidingObject 5 (some .int) ∈ wALL := tb_8 (List.mem_of_getElem? (i := 141) rfl) rfl
theorem ml_RL_364 : Cond.methodLink RL 364 yL_decidingEntry ∈ wALL := tb_6 (List.mem_of_getElem? (i := 38) rfl) rfl
theorem st_yL_decidingEntry : Cond.static yL_decidingEntry ∈ wALL := tb_6 (List.mem_of_getElem? (i := 39) rfl) rfl
theorem cw_yL_decidingEntry : Cond.codeWith yL_decidingEntry cL_decidingEntry 6 (some .int) [(0, 12, 15, 22), (0, 12, 19, 49)] ∈ wALL := tb_6 (List.mem_of_getElem? (i := 40) rfl) rfl
theorem ml_RL_158 : Cond.methodLink RL 158 yX11_decidingEntry ∈ wALL := tb_6 (List.mem_of_getElem? (i := 41) rfl) rfl
theorem im_yX11_decidingEntry : Cond.instanceMethod yX11_decidingEntry ∈ wALL := tb_6 (List.mem_of_getElem? (i := 42) rfl) rfl
theorem se_yX11_decidingEntry : Cond.selects RX11 yX11_decidingEntry yX11_decidingEntry ∈ wALL := tb_6 (List.mem_of_getElem? (i := 43) rfl) rfl
theorem cd_yX11_decidingEntry : Cond.code yX11_decidingEntry cX11_decidingEntry 5 (some .int) ∈ wALL := tb_6 (List.mem_of_getElem? (i := 44) rfl) rfl
theorem ml_RL_366 : Cond.methodLink RL 366 yX12_decidingEntry ∈ wALL := tb_8 (List.mem_of_getElem? (i := 142) rfl) rfl
theorem im_yX12_decidingEntry : Cond.instanceMethod yX12_decidingEntry ∈ wALL := tb_8 (List.mem_of_getElem? (i := 143) rfl) rfl
theorem se_yX12_decidingEntry : Cond.selects RX12 yX12_decidingEntry yX12_decidingEntry ∈ wALL := tb_8 (List.mem_of_getElem? (i := 144) rfl) rfl
theorem cd_yX12_decidingEntry : Cond.code yX12_decidingEntry cX12_decidingEntry 5 (some .int) ∈ wALL := tb_8 (List.mem_of_getElem? (i := 145) rfl) rfl
theorem ml_RL_367 : Cond.methodLink RL 367 yL_isStoppedByMask ∈ wALL := tb_6 (List.mem_of_getElem? (i := 45) rfl) rfl
theorem st_yL_isStoppedByMask : Cond.static yL_isStoppedByMask ∈ wALL := tb_6 (List.mem_of_getElem? (i := 46) rfl) rfl
theorem cw_yL_isStoppedByMask : Cond.codeWith yL_isStoppedByMask cL_isStoppedByMask 6 (some .int) [(0, 19, 22, 22), (0, 19, 26, 49)] ∈ wALL := tb_6 (List.mem_of_getElem? (i := 47) rfl) rfl
theorem ml_RL_161 : Cond.methodLink RL 161 yX11_isStoppedByMask ∈ wALL := tb_6 (List.mem_of_getElem? (i := 48) rfl) rfl
theorem im_yX11_isStoppedByMask : Cond.instanceMethod yX11_isStoppedByMask ∈ wALL := tb_6 (List.mem_of_getElem? (i := 49) rfl) rfl
theorem se_yX11_isStoppedByMask : Cond.selects RX11 yX11_isStoppedByMask yX11_isStoppedByMask ∈ wALL := tb_6 (List.mem_of_getElem? (i := 50) rfl) rfl
theorem cd_yX11_isStoppedByMask : Cond.code yX11_isStoppedByMask cX11_isStoppedByMask 4 (some .boolean) ∈ wALL := tb_6 (List.mem_of_getElem? (i := 51) rfl) rfl
theorem ml_RX11_333 : Cond.methodLink RX11 333 yX4_isStopped ∈ wALL := tb_6 (List.mem_of_getElem? (i := 52) rfl) rfl
theorem im_yX4_isStopped : Cond.instanceMethod yX4_isStopped ∈ wALL := tb_6 (List.mem_of_getElem? (i := 53) rfl) rfl
theorem se_yX4_isStopped : Cond.selects RX4 yX4_isStopped yX4_isStopped ∈ wALL := tb_6 (List.mem_of_getElem? (i := 54) rfl) rfl
theorem cd_yX4_isStopped : Cond.code yX4_isStopped cX4_isStopped 5 (some .boolean) ∈ wALL := tb_6 (List.mem_of_getElem? (i := 55) rfl) rfl
theorem ml_RX4_61 : Cond.methodLink RX4 61 yX1_allows ∈ wALL := tb_6 (List.mem_of_getElem? (i := 56) rfl) rfl
theorem ml_RL_369 : Cond.methodLink RL 369 yX12_isStoppedByMask ∈ wALL := tb_8 (List.mem_of_getElem? (i := 146) rfl) rfl
theorem im_yX12_isStoppedByMask : Cond.instanceMethod yX12_isStoppedByMask ∈ wALL := tb_8 (List.mem_of_getElem? (i := 147) rfl) rfl
theorem se_yX12_isStoppedByMask : Cond.selects RX12 yX12_isStoppedByMask yX12_isStoppedByMask ∈ wALL := tb_8 (List.mem_of_getElem? (i := 148) rfl) rfl
theorem cd_yX12_isStoppedByMask : Cond.code yX12_isStoppedByMask cX12_isStoppedByMask 4 (some .boolean) ∈ wALL := tb_8 (List.mem_of_getElem? (i := 149) rfl) rfl
theorem ml_RL_370 : Cond.methodLink RL 370 yL_usersWith ∈ wALL := tb_6 (List.mem_of_getElem? (i := 57) rfl) rfl
theorem st_yL_usersWith : Cond.static yL_usersWith ∈ wALL := tb_6 (List.mem_of_getElem? (i := 58) rfl) rfl
theorem cw_yL_usersWith : Cond.codeWith yL_usersWith cL_usersWith 5 (some .int) [(0, 10, 13, 22), (0, 10, 17, 49)] ∈ wALL := tb_6 (List.mem_of_getElem? (i := 59) rfl) rfl
theorem ml_RL_164 : Cond.methodLink RL 164 yX11_usersWith ∈ wALL := tb_6 (List.mem_of_getElem? (i := 60) rfl) rfl
theorem im_yX11_usersWith : Cond.instanceMethod yX11_usersWith ∈ wALL := tb_6 (List.mem_of_getElem? (i := 61) rfl) rfl
theorem se_yX11_usersWith : Cond.selects RX11 yX11_usersWith yX11_usersWith ∈ wALL := tb_6 (List.mem_of_getElem? (i := 62) rfl) rfl
theorem cd_yX11_usersWith : Cond.code yX11_usersWith cX11_usersWith 3 (some .int) ∈ wALL := tb_6 (List.mem_of_getElem? (i := 63) rfl) rfl
theorem ml_RX11_336 : Cond.methodLink RX11 336 yX4_countUsers ∈ wALL := tb_6 (List.mem_of_getElem? (i := 64) rfl) rfl
theorem im_yX4_countUsers : Cond.instanceMethod yX4_countUsers ∈ wALL := tb_6 (List.mem_of_getElem? (i := 65) rfl) rfl
theorem se_yX4_countUsers : Cond.selects RX4 yX4_countUsers yX4_countUsers ∈ wALL := tb_6 (List.mem_of_getElem? (i := 66) rfl) rfl
theorem cd_yX4_countUsers : Cond.code yX4_countUsers cX4_countUsers 6 (some .int) ∈ wALL := tb_6 (List.mem_of_getElem? (i := 67) rfl) rfl
theorem fl_RX4_66 : Cond.fieldLink RX4 66 "PermissionDesk$Club" "users" "I" ∈ wALL := tb_1 (List.mem_of_getElem? (i := 50) rfl) rfl
theorem ml_RL_372 : Cond.methodLink RL 372 yX12_usersWith ∈ wALL := tb_8 (List.mem_of_getElem? (i := 150) rfl) rfl
theorem im_yX12_usersWith : Cond.instanceMethod yX12_usersWith ∈ wALL := tb_8 (List.mem_of_getElem? (i := 151) rfl) rfl
theorem se_yX12_usersWith : Cond.selects RX12 yX12_usersWith yX12_usersWith ∈ wALL := tb_8 (List.mem_of_getElem? (i := 152) rfl) rfl
theorem cd_yX12_usersWith : Cond.code yX12_usersWith cX12_usersWith 5 (some .int) ∈ wALL := tb_8 (List.mem_of_getElem? (i := 153) rfl) rfl
theorem ml_RL_373 : Cond.methodLink RL 373 yL_rightsThrough ∈ wALL := tb_6 (List.mem_of_getElem? (i := 68) rfl) rfl
theorem st_yL_rightsThrough : Cond.static yL_rightsThrough ∈ wALL := tb_6 (List.mem_of_getElem? (i := 69) rfl) rfl
theorem cw_yL_rightsThrough : Cond.codeWith yL_rightsThrough cL_rightsThrough 5 (some .int) [(0, 10, 13, 22)] ∈ wALL := tb_6 (List.mem_of_getElem? (i := 70) rfl) rfl
theorem ml_RL_167 : Cond.methodLink RL 167 yX11_rightsThrough ∈ wALL := tb_6 (List.mem_of_getElem? (i := 71) rfl) rfl
theorem im_yX11_rightsThrough : Cond.instanceMethod yX11_rightsThrough ∈ wALL := tb_6 (List.mem_of_getElem? (i := 72) rfl) rfl
theorem se_yX11_rightsThrough : Cond.selects RX11 yX11_rightsThrough yX11_rightsThrough ∈ wALL := tb_6 (List.mem_of_getElem? (i := 73) rfl) rfl
theorem cd_yX11_rightsThrough : Cond.code yX11_rightsThrough cX11_rightsThrough 3 (some .int) ∈ wALL := tb_6 (List.mem_of_getElem? (i := 74) rfl) rfl
theorem ml_RX11_339 : Cond.methodLink RX11 339 yX4_countThrough ∈ wALL := tb_6 (List.mem_of_getElem? (i := 75) rfl) rfl
theorem im_yX4_countThrough : Cond.instanceMethod yX4_countThrough ∈ wALL := tb_6 (List.mem_of_getElem? (i := 76) rfl) rfl
theorem se_yX4_countThrough : Cond.selects RX4 yX4_countThrough yX4_countThrough ∈ wALL := tb_6 (List.mem_of_getElem? (i := 77) rfl) rfl
theorem cd_yX4_countThrough : Cond.code yX4_countThrough cX4_countThrough 7 (some .int) ∈ wALL := tb_6 (List.mem_of_getElem? (i := 78) rfl) rfl
theorem ml_RX4_70 : Cond.methodLink RX4 70 yX4_decidedFor ∈ wALL := tb_6 (List.mem_of_getElem? (i := 79) rfl) rfl
theorem im_yX4_decidedFor : Cond.instanceMethod yX4_decidedFor ∈ wALL := tb_6 (List.mem_of_getElem? (i := 81) rfl) rfl
theorem se_yX4_decidedFor : Cond.selects RX4 yX4_decidedFor yX4_decidedFor ∈ wALL := tp_2 (n := 3) (List.mem_of_getElem? (i := 14) rfl) rfl
theorem cd_yX4_decidedFor : Cond.code yX4_decidedFor cX4_decidedFor 5 (some .int) ∈ wALL := tb_6 (List.mem_of_getElem? (i := 82) rfl) rfl
theorem ml_RX4_79 : Cond.methodLink RX4 79 yX1_kind ∈ wALL := tb_6 (List.mem_of_getElem? (i := 83) rfl) rfl
theorem ml_RX4_82 : Cond.methodLink RX4 82 yX1_number ∈ wALL := tb_6 (List.mem_of_getElem? (i := 84) rfl) rfl
theorem ml_RL_375 : Cond.methodLink RL 375 yX12_rightsThrough ∈ wALL := tb_8 (List.mem_of_getElem? (i := 154) rfl) rfl
theorem im_yX12_rightsThrough : Cond.instanceMethod yX12_rightsThrough ∈ wALL := tb_8 (List.mem_of_getElem? (i := 155) rfl) rfl
theorem se_yX12_rightsThrough : Cond.selects RX12 yX12_rightsThrough yX12_rightsThrough ∈ wALL := tb_8 (List.mem_of_getElem? (i := 156) rfl) rfl
theorem cd_yX12_rightsThrough : Cond.code yX12_rightsThrough cX12_rightsThrough 5 (some .int) ∈ wALL := tb_8 (List.mem_of_getElem? (i := 157) rfl) rfl
theorem ml_RX12_224 : Cond.methodLink RX12 224 yX12_isThrough ∈ wALL := tb_8 (List.mem_of_getElem? (i := 158) rfl) rfl
theorem im_yX12_isThrough : Cond.instanceMethod yX12_isThrough ∈ wALL := tb_8 (List.mem_of_getElem? (i := 160) rfl) rfl
theorem se_yX12_isThrough : Cond.selects RX12 yX12_isThrough yX12_isThrough ∈ wALL := tp_5 (n := 15) (List.mem_of_getElem? (i := 13) rfl) rfl
theorem cd_yX12_isThrough : Cond.code yX12_isThrough cX12_isThrough 8 (some .boolean) ∈ wALL := tb_8 (List.mem_of_getElem? (i := 161) rfl) rfl
theorem ml_RL_376 : Cond.methodLink RL 376 yL_isNeedless ∈ wALL := tb_6 (List.mem_of_getElem? (i := 85) rfl) rfl
theorem st_yL_isNeedless : Cond.static yL_isNeedless ∈ wALL := tb_6 (List.mem_of_getElem? (i := 86) rfl) rfl
theorem cw_yL_isNeedless : Cond.codeWith yL_isNeedless cL_isNeedless 5 (some .int) [(0, 17, 20, 22)] ∈ wALL := tb_6 (List.mem_of_getElem? (i := 87) rfl) rfl
theorem ml_RL_170 : Cond.methodLink RL 170 yX11_isNeedless ∈ wALL := tb_6 (List.mem_of_getElem? (i := 88) rfl) rfl
theorem im_yX11_isNeedless : Cond.instanceMethod yX11_isNeedless ∈ wALL := tb_6 (List.mem_of_getElem? (i := 89) rfl) rfl
theorem se_yX11_isNeedless : Cond.selects RX11 yX11_isNeedless yX11_isNeedless ∈ wALL := tb_6 (List.mem_of_getElem? (i := 90) rfl) rfl
theorem cd_yX11_isNeedless : Cond.code yX11_isNeedless cX11_isNeedless 5 (some .boolean) ∈ wALL := tb_6 (List.mem_of_getElem? (i := 91) rfl) rfl
theorem ml_RL_378 : Cond.methodLink RL 378 yX12_isNeedless ∈ wALL := tb_8 (List.mem_of_getElem? (i := 162) rfl) rfl
theorem im_yX12_isNeedless : Cond.instanceMethod yX12_isNeedless ∈ wALL := tb_8 (List.mem_of_getElem? (i := 163) rfl) rfl
theorem se_yX12_isNeedless : Cond.selects RX12 yX12_isNeedless yX12_isNeedless ∈ wALL := tb_8 (List.mem_of_getElem? (i := 164) rfl) rfl
theorem cd_yX12_isNeedless : Cond.code yX12_isNeedless cX12_isNeedless 4 (some .boolean) ∈ wALL := tb_8 (List.mem_of_getElem? (i := 165) rfl) rfl
theorem ml_RL_379 : Cond.methodLink RL 379 yX11_allRights ∈ wALL := tb_2 (List.mem_of_getElem? (i := 155) rfl) rfl
theorem im_yX11_allRights : Cond.instanceMethod yX11_allRights ∈ wALL := tb_2 (List.mem_of_getElem? (i := 156) rfl) rfl
theorem se_yX11_allRights : Cond.selects RX11 yX11_allRights yX11_allRights ∈ wALL := tb_2 (List.mem_of_getElem? (i := 157) rfl) rfl
theorem cd_yX11_allRights : Cond.code yX11_allRights cX11_allRights 1 (some .int) ∈ wALL := tb_2 (List.mem_of_getElem? (i := 158) rfl) rfl
theorem ml_RX11_342 : Cond.methodLink RX11 342 yX4_countAll ∈ wALL := tb_2 (List.mem_of_getElem? (i := 159) rfl) rfl
theorem im_yX4_countAll : Cond.instanceMethod yX4_countAll ∈ wALL := tb_2 (List.mem_of_getElem? (i := 160) rfl) rfl
theorem se_yX4_countAll : Cond.selects RX4 yX4_countAll yX4_countAll ∈ wALL := tb_2 (List.mem_of_getElem? (i := 161) rfl) rfl
theorem cd_yX4_countAll : Cond.code yX4_countAll cX4_countAll 5 (some .int) ∈ wALL := tb_2 (List.mem_of_getElem? (i := 162) rfl) rfl
theorem ml_RL_382 : Cond.methodLink RL 382 yX12_allRights ∈ wALL := tb_8 (List.mem_of_getElem? (i := 166) rfl) rfl
theorem im_yX12_allRights : Cond.instanceMethod yX12_allRights ∈ wALL := tb_8 (List.mem_of_getElem? (i := 167) rfl) rfl
theorem se_yX12_allRights : Cond.selects RX12 yX12_allRights yX12_allRights ∈ wALL := tb_8 (List.mem_of_getElem? (i := 168) rfl) rfl
theorem cd_yX12_allRights : Cond.code yX12_allRights cX12_allRights 1 (some .int) ∈ wALL := tb_8 (List.mem_of_getElem? (i := 169) rfl) rfl
theorem ml_RX12_227 : Cond.methodLink RX12 227 yX12_everything ∈ wALL := tb_8 (List.mem_of_getElem? (i := 170) rfl) rfl
theorem im_yX12_everything : Cond.instanceMethod yX12_everything ∈ wALL := tb_8 (List.mem_of_getElem? (i := 172) rfl) rfl
theorem se_yX12_everything : Cond.selects RX12 yX12_everything yX12_everything ∈ wALL := tp_5 (n := 15) (List.mem_of_getElem? (i := 14) rfl) rfl
theorem cd_yX12_everything : Cond.code yX12_everything cX12_everything 4 (some .int) ∈ wALL := tb_8 (List.mem_of_getElem? (i := 173) rfl) rfl
theorem ml_RX12_153 : Cond.methodLink RX12 153 yX12_size ∈ wALL := tb_8 (List.mem_of_getElem? (i := 174) rfl) rfl
theorem st_yX12_size : Cond.static yX12_size ∈ wALL := tb_8 (List.mem_of_getElem? (i := 175) rfl) rfl
theorem cd_yX12_size : Cond.code yX12_size cX12_size 3 (some .int) ∈ wALL := tb_8 (List.mem_of_getElem? (i := 176) rfl) rfl
theorem ml_RL_383 : Cond.methodLink RL 383 yX11_openness ∈ wALL := tb_3 (List.mem_of_getElem? (i := 13) rfl) rfl
theorem im_yX11_openness : Cond.instanceMethod yX11_openness ∈ wALL := tb_3 (List.mem_of_getElem? (i := 14) rfl) rfl
theorem se_yX11_openness : Cond.selects RX11 yX11_openness yX11_openness ∈ wALL := tb_3 (List.mem_of_getElem? (i := 15) rfl) rfl
theorem cd_yX11_openness : Cond.code yX11_openness cX11_openness 2 (some .double) ∈ wALL := tb_3 (List.mem_of_getElem? (i := 16) rfl) rfl
theorem ml_RL_387 : Cond.methodLink RL 387 yX12_openness ∈ wALL := tb_8 (List.mem_of_getElem? (i := 177) rfl) rfl
theorem im_yX12_openness : Cond.instanceMethod yX12_openness ∈ wALL := tb_8 (List.mem_of_getElem? (i := 178) rfl) rfl
theorem se_yX12_openness : Cond.selects RX12 yX12_openness yX12_openness ∈ wALL := tb_8 (List.mem_of_getElem? (i := 179) rfl) rfl
theorem cd_yX12_openness : Cond.code yX12_openness cX12_openness 3 (some .double) ∈ wALL := tb_8 (List.mem_of_getElem? (i := 180) rfl) rfl
theorem ml_RL_388 : Cond.methodLink RL 388 yX11_requests ∈ wALL := tb_3 (List.mem_of_getElem? (i := 17) rfl) rfl
theorem im_yX11_requests : Cond.instanceMethod yX11_requests ∈ wALL := tb_3 (List.mem_of_getElem? (i := 18) rfl) rfl
theorem se_yX11_requests : Cond.selects RX11 yX11_requests yX11_requests ∈ wALL := tb_3 (List.mem_of_getElem? (i := 19) rfl) rfl
theorem cd_yX11_requests : Cond.code yX11_requests cX11_requests 1 (some .int) ∈ wALL := tb_3 (List.mem_of_getElem? (i := 20) rfl) rfl
theorem fl_RX11_345 : Cond.fieldLink RX11 345 "PermissionDesk$Log" "requests" "I" ∈ wALL := tb_1 (List.mem_of_getElem? (i := 107) rfl) rfl
theorem ml_RL_391 : Cond.methodLink RL 391 yX12_requests ∈ wALL := tb_8 (List.mem_of_getElem? (i := 181) rfl) rfl
theorem im_yX12_requests : Cond.instanceMethod yX12_requests ∈ wALL := tb_8 (List.mem_of_getElem? (i := 182) rfl) rfl
theorem se_yX12_requests : Cond.selects RX12 yX12_requests yX12_requests ∈ wALL := tb_8 (List.mem_of_getElem? (i := 183) rfl) rfl
theorem cd_yX12_requests : Cond.code yX12_requests cX12_requests 1 (some .int) ∈ wALL := tb_8 (List.mem_of_getElem? (i := 184) rfl) rfl
theorem ml_RL_392 : Cond.methodLink RL 392 yX11_refusals ∈ wALL := tb_3 (List.mem_of_getElem? (i := 21) rfl) rfl
theorem im_yX11_refusals : Cond.instanceMethod yX11_refusals ∈ wALL := tb_3 (List.mem_of_getElem? (i := 22) rfl) rfl
theorem se_yX11_refusals : Cond.selects RX11 yX11_refusals yX11_refusals ∈ wALL := tb_3 (List.mem_of_getElem? (i := 23) rfl) rfl
theorem cd_yX11_refusals : Cond.code yX11_refusals cX11_refusals 1 (some .int) ∈ wALL := tb_3 (List.mem_of_getElem? (i := 24) rfl) rfl
theorem fl_RX11_348 : Cond.fieldLink RX11 348 "PermissionDesk$Log" "refusals" "I" ∈ wALL := tb_1 (List.mem_of_getElem? (i := 109) rfl) rfl
theorem ml_RL_395 : Cond.methodLink RL 395 yX12_refusals ∈ wALL := tb_8 (List.mem_of_getElem? (i := 185) rfl) rfl
theorem im_yX12_refusals : Cond.instanceMethod yX12_refusals ∈ wALL := tb_8 (List.mem_of_getElem? (i := 186) rfl) rfl
theorem se_yX12_refusals : Cond.selects RX12 yX12_refusals yX12_refusals ∈ wALL := tb_8 (List.mem_of_getElem? (i := 187) rfl) rfl
theorem cd_yX12_refusals : Cond.code yX12_refusals cX12_refusals 1 (some .int) ∈ wALL := tb_8 (List.mem_of_getElem? (i := 188) rfl) rfl
theorem ml_RL_396 : Cond.methodLink RL 396 yL_userOfRequest ∈ wALL := tb_6 (List.mem_of_getElem? (i := 92) rfl) rfl
theorem st_yL_userOfRequest : Cond.static yL_userOfRequest ∈ wALL := tb_6 (List.mem_of_getElem? (i := 93) rfl) rfl
theorem cw_yL_userOfRequest : Cond.codeWith yL_userOfRequest cL_userOfRequest 4 (some .int) [(0, 9, 12, 22)] ∈ wALL := tb_6 (List.mem_of_getElem? (i := 94) rfl) rfl
theorem ml_RL_173 : Cond.methodLink RL 173 yX11_userOfRequest ∈ wALL := tb_6 (List.mem_of_getElem? (i := 95) rfl) rfl
theorem im_yX11_userOfRequest : Cond.instanceMethod yX11_userOfRequest ∈ wALL := tb_6 (List.mem_of_getElem? (i := 96) rfl) rfl
theorem se_yX11_userOfRequest : Cond.selects RX11 yX11_userOfRequest yX11_userOfRequest ∈ wALL := tb_6 (List.mem_of_getElem? (i := 97) rfl) rfl
theorem cd_yX11_userOfRequest : Cond.code yX11_userOfRequest cX11_userOfRequest 2 (some .int) ∈ wALL := tb_6 (List.mem_of_getElem? (i := 98) rfl) rfl
theorem ml_RX11_351 : Cond.methodLink RX11 351 yX11_requireRequest ∈ wALL := tb_6 (List.mem_of_getElem? (i := 99) rfl) rfl
theorem im_yX11_requireRequest : Cond.instanceMethod yX11_requireRequest ∈ wALL := tb_6 (List.mem_of_getElem? (i := 101) rfl) rfl
theorem se_yX11_requireRequest : Cond.selects RX11 yX11_requireRequest yX11_requireRequest ∈ wALL := tp_2 (n := 7) (List.mem_of_getElem? (i := 15) rfl) rfl
theorem cd_yX11_requireRequest : Cond.code yX11_requireRequest cX11_requireRequest 2 none ∈ wALL := tb_6 (List.mem_of_getElem? (i := 102) rfl) rfl
theorem ml_RX11_399 : Cond.methodLink RX11 399 yX7_countKept ∈ wALL := tb_6 (List.mem_of_getElem? (i := 103) rfl) rfl
theorem im_yX7_countKept : Cond.instanceMethod yX7_countKept ∈ wALL := tb_6 (List.mem_of_getElem? (i := 104) rfl) rfl
theorem se_yX7_countKept : Cond.selects RX7 yX7_countKept yX7_countKept ∈ wALL := tb_6 (List.mem_of_getElem? (i := 105) rfl) rfl
theorem cd_yX7_countKept : Cond.code yX7_countKept cX7_countKept 1 (some .int) ∈ wALL := tb_6 (List.mem_of_getElem? (i := 106) rfl) rfl
theorem in_java_lang_Math : Cond.initialized "java/lang/Math" ∈ wALL := tb_1 (List.mem_of_getElem? (i := 17) rfl) rfl
theorem ml_RX11_354 : Cond.methodLink RX11 354 yX7_userAt ∈ wALL := tb_6 (List.mem_of_getElem? (i := 111) rfl) rfl
theorem im_yX7_userAt : Cond.instanceMethod yX7_userAt ∈ wALL := tb_6 (List.mem_of_getElem? (i := 112) rfl) rfl
theorem se_yX7_userAt : Cond.selects RX7 yX7_userAt yX7_userAt ∈ wALL := tb_6 (List.mem_of_getElem? (i := 113) rfl) rfl
theorem cd_yX7_userAt : Cond.code yX7_userAt cX7_userAt 2 (some .int) ∈ wALL := tb_6 (List.mem_of_getElem? (i := 114) rfl) rfl
theorem ml_RL_398 : Cond.methodLink RL 398 yX12_userOfRequest ∈ wALL := tb_8 (List.mem_of_getElem? (i := 189) rfl) rfl
theorem im_yX12_userOfRequest : Cond.instanceMethod yX12_userOfRequest ∈ wALL := tb_8 (List.mem_of_getElem? (i := 190) rfl) rfl
theorem se_yX12_userOfRequest : Cond.selects RX12 yX12_userOfRequest yX12_userOfRequest ∈ wALL := tb_8 (List.mem_of_getElem? (i := 191) rfl) rfl
theorem cd_yX12_userOfRequest : Cond.code yX12_userOfRequest cX12_userOfRequest 2 (some .int) ∈ wALL := tb_8 (List.mem_of_getElem? (i := 192) rfl) rfl
theorem ml_RX12_230 : Cond.methodLink RX12 230 yX12_logged ∈ wALL := tb_8 (List.mem_of_getElem? (i := 193) rfl) rfl
theorem im_yX12_logged : Cond.instanceMethod yX12_logged ∈ wALL := tb_8 (List.mem_of_getElem? (i := 195) rfl) rfl
theorem se_yX12_logged : Cond.selects RX12 yX12_logged yX12_logged ∈ wALL := tp_5 (n := 15) (List.mem_of_getElem? (i := 15) rfl) rfl
theorem cd_yX12_logged : Cond.code yX12_logged cX12_logged 3 (some .int) ∈ wALL := tb_8 (List.mem_of_getElem? (i := 196) rfl) rfl
theorem ml_RL_399 : Cond.methodLink RL 399 yL_objectOfRequest ∈ wALL := tb_6 (List.mem_of_getElem? (i := 115) rfl) rfl
theorem st_yL_objectOfRequest : Cond.static yL_objectOfRequest ∈ wALL := tb_6 (List.mem_of_getElem? (i := 116) rfl) rfl
theorem cw_yL_objectOfRequest : Cond.codeWith yL_objectOfRequest cL_objectOfRequest 4 (some .int) [(0, 9, 12, 22)] ∈ wALL := tb_6 (List.mem_of_getElem? (i := 117) rfl) rfl
theorem ml_RL_176 : Cond.methodLink RL 176 yX11_objectOfRequest ∈ wALL := tb_6 (List.mem_of_getElem? (i := 118) rfl) rfl
theorem im_yX11_objectOfRequest : Cond.instanceMethod yX11_objectOfRequest ∈ wALL := tb_6 (List.mem_of_getElem? (i := 119) rfl) rfl
theorem se_yX11_objectOfRequest : Cond.selects RX11 yX11_objectOfRequest yX11_objectOfRequest ∈ wALL := tb_6 (List.mem_of_getElem? (i := 120) rfl) rfl
theorem cd_yX11_objectOfRequest : Cond.code yX11_objectOfRequest cX11_objectOfRequest 2 (some .int) ∈ wALL := tb_6 (List.mem_of_getElem? (i := 121) rfl) rfl
theorem ml_RX11_357 : Cond.methodLink RX11 357 yX7_objectAt ∈ wALL := tb_6 (List.mem_of_getElem? (i := 122) rfl) rfl
theorem im_yX7_objectAt : Cond.instanceMethod yX7_objectAt ∈ wALL := tb_6 (List.mem_of_getElem? (i := 123) rfl) rfl
theorem se_yX7_objectAt : Cond.selects RX7 yX7_objectAt yX7_objectAt ∈ wALL := tb_6 (List.mem_of_getElem? (i := 124) rfl) rfl
theorem cd_yX7_objectAt : Cond.code yX7_objectAt cX7_objectAt 2 (some .int) ∈ wALL := tb_6 (List.mem_of_getElem? (i := 125) rfl) rfl
theorem ml_RL_401 : Cond.methodLink RL 401 yX12_objectOfRequest ∈ wALL := tb_8 (List.mem_of_getElem? (i := 197) rfl) rfl
theorem im_yX12_objectOfRequest : Cond.instanceMethod yX12_objectOfRequest ∈ wALL := tb_8 (List.mem_of_getElem? (i := 198) rfl) rfl
theorem se_yX12_objectOfRequest : Cond.selects RX12 yX12_objectOfRequest yX12_objectOfRequest ∈ wALL := tb_8 (List.mem_of_getElem? (i := 199) rfl) rfl
theorem cd_yX12_objectOfRequest : Cond.code yX12_objectOfRequest cX12_objectOfRequest 2 (some .int) ∈ wALL := tb_8 (List.mem_of_getElem? (i := 200) rfl) rfl
theorem ml_RL_402 : Cond.methodLink RL 402 yL_wasAllowed ∈ wALL := tb_6 (List.mem_of_getElem? (i := 126) rfl) rfl
theorem st_yL_wasAllowed : Cond.static yL_wasAllowed ∈ wALL := tb_6 (List.mem_of_getElem? (i := 127) rfl) rfl
theorem cw_yL_wasAllowed : Cond.codeWith yL_wasAllowed cL_wasAllowed 4 (some .int) [(0, 16, 19, 22)] ∈ wALL := tb_6 (List.mem_of_getElem? (i := 128) rfl) rfl
theorem ml_RL_179 : Cond.methodLink RL 179 yX11_wasAllowed ∈ wALL := tb_6 (List.mem_of_getElem? (i := 129) rfl) rfl
theorem im_yX11_wasAllowed : Cond.instanceMethod yX11_wasAllowed ∈ wALL := tb_6 (List.mem_of_getElem? (i := 130) rfl) rfl
theorem se_yX11_wasAllowed : Cond.selects RX11 yX11_wasAllowed yX11_wasAllowed ∈ wALL := tb_6 (List.mem_of_getElem? (i := 131) rfl) rfl
theorem cd_yX11_wasAllowed : Cond.code yX11_wasAllowed cX11_wasAllowed 2 (some .boolean) ∈ wALL := tb_6 (List.mem_of_getElem? (i := 132) rfl) rfl
theorem ml_RX11_360 : Cond.methodLink RX11 360 yX7_wasGranted ∈ wALL := tb_6 (List.mem_of_getElem? (i := 133) rfl) rfl
theorem im_yX7_wasGranted : Cond.instanceMethod yX7_wasGranted ∈ wALL := tb_6 (List.mem_of_getElem? (i := 134) rfl) rfl
theorem se_yX7_wasGranted : Cond.selects RX7 yX7_wasGranted yX7_wasGranted ∈ wALL := tb_6 (List.mem_of_getElem? (i := 135) rfl) rfl
theorem cd_yX7_wasGranted : Cond.code yX7_wasGranted cX7_wasGranted 2 (some .boolean) ∈ wALL := tb_6 (List.mem_of_getElem? (i := 136) rfl) rfl
theorem ml_RL_404 : Cond.methodLink RL 404 yX12_wasAllowed ∈ wALL := tb_8 (List.mem_of_getElem? (i := 201) rfl) rfl
theorem im_yX12_wasAllowed : Cond.instanceMethod yX12_wasAllowed ∈ wALL := tb_8 (List.mem_of_getElem? (i := 202) rfl) rfl
theorem se_yX12_wasAllowed : Cond.selects RX12 yX12_wasAllowed yX12_wasAllowed ∈ wALL := tb_8 (List.mem_of_getElem? (i := 203) rfl) rfl
theorem cd_yX12_wasAllowed : Cond.code yX12_wasAllowed cX12_wasAllowed 2 (some .boolean) ∈ wALL := tb_8 (List.mem_of_getElem? (i := 204) rfl) rfl
theorem ml_RL_405 : Cond.methodLink RL 405 yL_undo ∈ wALL := tb_6 (List.mem_of_getElem? (i := 138) rfl) rfl
theorem st_yL_undo : Cond.static yL_undo ∈ wALL := tb_6 (List.mem_of_getElem? (i := 139) rfl) rfl
theorem cw_yL_undo : Cond.codeWith yL_undo cL_undo 3 (some .int) [(0, 8, 11, 13)] ∈ wALL := tb_6 (List.mem_of_getElem? (i := 140) rfl) rfl
theorem ml_RL_182 : Cond.methodLink RL 182 yX11_undo ∈ wALL := tb_6 (List.mem_of_getElem? (i := 141) rfl) rfl
theorem im_yX11_undo : Cond.instanceMethod yX11_undo ∈ wALL := tb_6 (List.mem_of_getElem? (i := 142) rfl) rfl
theorem se_yX11_undo : Cond.selects RX11 yX11_undo yX11_undo ∈ wALL := tb_6 (List.mem_of_getElem? (i := 143) rfl) rfl
theorem cd_yX11_undo : Cond.code yX11_undo cX11_undo 1 (some .int) ∈ wALL := tb_6 (List.mem_of_getElem? (i := 144) rfl) rfl
theorem fl_RX11_363 : Cond.fieldLink RX11 363 "PermissionDesk$History" "kept" "I" ∈ wALL := tb_1 (List.mem_of_getElem? (i := 159) rfl) rfl
theorem ml_RX11_368 : Cond.methodLink RX11 368 yX3_takeBack ∈ wALL := tb_6 (List.mem_of_getElem? (i := 146) rfl) rfl
theorem im_yX3_takeBack : Cond.instanceMethod yX3_takeBack ∈ wALL := tb_6 (List.mem_of_getElem? (i := 147) rfl) rfl
theorem se_yX3_takeBack : Cond.selects RX3 yX3_takeBack yX3_takeBack ∈ wALL := tb_6 (List.mem_of_getElem? (i := 148) rfl) rfl
theorem cd_yX3_takeBack : Cond.code yX3_takeBack cX3_takeBack 2 none ∈ wALL := tb_6 (List.mem_of_getElem? (i := 149) rfl) rfl
theorem ml_RL_407 : Cond.methodLink RL 407 yX12_undo ∈ wALL := tb_8 (List.mem_of_getElem? (i := 205) rfl) rfl
theorem im_yX12_undo : Cond.instanceMethod yX12_undo ∈ wALL := tb_8 (List.mem_of_getElem? (i := 206) rfl) rfl
theorem se_yX12_undo : Cond.selects RX12 yX12_undo yX12_undo ∈ wALL := tb_8 (List.mem_of_getElem? (i := 207) rfl) rfl
theorem cd_yX12_undo : Cond.code yX12_undo cX12_undo 2 (some .int) ∈ wALL := tb_8 (List.mem_of_getElem? (i := 208) rfl) rfl
theorem ml_RL_408 : Cond.methodLink RL 408 yL_save ∈ wALL := tb_6 (List.mem_of_getElem? (i := 150) rfl) rfl
theorem st_yL_save : Cond.static yL_save ∈ wALL := tb_6 (List.mem_of_getElem? (i := 151) rfl) rfl
theorem cw_yL_save : Cond.codeWith yL_save cL_save 4 (some .int) [(0, 9, 12, 49)] ∈ wALL := tb_6 (List.mem_of_getElem? (i := 152) rfl) rfl
theorem ml_RL_185 : Cond.methodLink RL 185 yX11_save ∈ wALL := tb_6 (List.mem_of_getElem? (i := 153) rfl) rfl
theorem im_yX11_save : Cond.instanceMethod yX11_save ∈ wALL := tb_6 (List.mem_of_getElem? (i := 154) rfl) rfl
theorem se_yX11_save : Cond.selects RX11 yX11_save yX11_save ∈ wALL := tb_6 (List.mem_of_getElem? (i := 155) rfl) rfl
theorem cd_yX11_save : Cond.code yX11_save cX11_save 3 (some .int) ∈ wALL := tb_6 (List.mem_of_getElem? (i := 156) rfl) rfl
theorem ml_RX11_371 : Cond.methodLink RX11 371 yX11_requireSlot ∈ wALL := tb_6 (List.mem_of_getElem? (i := 157) rfl) rfl
theorem im_yX11_requireSlot : Cond.instanceMethod yX11_requireSlot ∈ wALL := tb_6 (List.mem_of_getElem? (i := 159) rfl) rfl
theorem se_yX11_requireSlot : Cond.selects RX11 yX11_requireSlot yX11_requireSlot ∈ wALL := tp_3 (n := 7) (List.mem_of_getElem? (i := 0) rfl) rfl
theorem cd_yX11_requireSlot : Cond.code yX11_requireSlot cX11_requireSlot 2 none ∈ wALL := tb_6 (List.mem_of_getElem? (i := 160) rfl) rfl
theorem ml_RX11_374 : Cond.methodLink RX11 374 yX9_copyFrom ∈ wALL := tb_6 (List.mem_of_getElem? (i := 162) rfl) rfl
theorem ml_RL_410 : Cond.methodLink RL 410 yX12_save ∈ wALL := tb_8 (List.mem_of_getElem? (i := 209) rfl) rfl
theorem im_yX12_save : Cond.instanceMethod yX12_save ∈ wALL := tb_8 (List.mem_of_getElem? (i := 210) rfl) rfl
theorem se_yX12_save : Cond.selects RX12 yX12_save yX12_save ∈ wALL := tb_8 (List.mem_of_getElem? (i := 211) rfl) rfl
theorem cd_yX12_save : Cond.code yX12_save cX12_save 3 (some .int) ∈ wALL := tb_8 (List.mem_of_getElem? (i := 212) rfl) rfl
theorem ml_RL_411 : Cond.methodLink RL 411 yL_restore ∈ wALL := tb_6 (List.mem_of_getElem? (i := 163) rfl) rfl
theorem st_yL_restore : Cond.static yL_restore ∈ wALL := tb_6 (List.mem_of_getElem? (i := 164) rfl) rfl
theorem cw_yL_restore : Cond.codeWith yL_restore cL_restore 4 (some .int) [(0, 9, 12, 49), (0, 9, 15, 13)] ∈ wALL := tb_6 (List.mem_of_getElem? (i := 165) rfl) rfl
theorem ml_RL_188 : Cond.methodLink RL 188 yX11_restore ∈ wALL := tb_6 (List.mem_of_getElem? (i := 166) rfl) rfl
theorem im_yX11_restore : Cond.instanceMethod yX11_restore ∈ wALL := tb_6 (List.mem_of_getElem? (i := 167) rfl) rfl
theorem se_yX11_restore : Cond.selects RX11 yX11_restore yX11_restore ∈ wALL := tb_6 (List.mem_of_getElem? (i := 168) rfl) rfl
theorem cd_yX11_restore : Cond.code yX11_restore cX11_restore 3 (some .int) ∈ wALL := tb_6 (List.mem_of_getElem? (i := 169) rfl) rfl
theorem ml_RL_413 : Cond.methodLink RL 413 yX12_restore ∈ wALL := tb_8 (List.mem_of_getElem? (i := 213) rfl) rfl
theorem im_yX12_restore : Cond.instanceMethod yX12_restore ∈ wALL := tb_8 (List.mem_of_getElem? (i := 214) rfl) rfl
theorem se_yX12_restore : Cond.selects RX12 yX12_restore yX12_restore ∈ wALL := tb_8 (List.mem_of_getElem? (i := 215) rfl) rfl
theorem cd_yX12_restore : Cond.code yX12_restore cX12_restore 3 (some .int) ∈ wALL := tb_8 (List.mem_of_getElem? (i := 216) rfl) rfl
theorem ml_RX7_42 : Cond.methodLink RX7 42 Lib.Math.min.name ∈ wALL := tb_6 (List.mem_of_getElem? (i := 107) rfl) rfl
theorem st_min : Cond.static Lib.Math.min.name ∈ wALL := tb_6 (List.mem_of_getElem? (i := 108) rfl) rfl
theorem cd_min : Cond.code Lib.Math.min.name Lib.Math.min.code 2 (some .int) ∈ wALL := tb_6 (List.mem_of_getElem? (i := 109) rfl) rfl
theorem inl0 : ∀ w ∈ wsX00, w ∈ wALL := List.forall_mem_cons.mpr ⟨tb_1 (List.mem_of_getElem? (i := 55) rfl) rfl, List.forall_mem_cons.mpr ⟨tb_1 (List.mem_of_getElem? (i := 57) rfl) rfl, List.forall_mem_cons.mpr ⟨tb_1 (List.mem_of_getElem? (i := 59) rfl) rfl, List.forall_mem_cons.mpr ⟨tb_1 (List.mem_of_getElem? (i := 61) rfl) rfl, fun _ h => absurd h List.not_mem_nil⟩⟩⟩⟩
theorem inl2 : ∀ w ∈ wsX20, w ∈ wALL := List.forall_mem_cons.mpr ⟨tb_1 (List.mem_of_getElem? (i := 194) rfl) rfl, List.forall_mem_cons.mpr ⟨tb_1 (List.mem_of_getElem? (i := 196) rfl) rfl, List.forall_mem_cons.mpr ⟨tb_1 (List.mem_of_getElem? (i := 198) rfl) rfl, fun _ h => absurd h List.not_mem_nil⟩⟩⟩
theorem inl3 : ∀ w ∈ wsX30, w ∈ wALL := List.forall_mem_cons.mpr ⟨tb_1 (List.mem_of_getElem? (i := 162) rfl) rfl, List.forall_mem_cons.mpr ⟨tb_1 (List.mem_of_getElem? (i := 164) rfl) rfl, List.forall_mem_cons.mpr ⟨tb_1 (List.mem_of_getElem? (i := 166) rfl) rfl, fun _ h => absurd h List.not_mem_nil⟩⟩⟩
theorem inl4 : ∀ w ∈ wsX40, w ∈ wALL := List.forall_mem_cons.mpr ⟨tb_1 (List.mem_of_getElem? (i := 178) rfl) rfl, List.forall_mem_cons.mpr ⟨tb_1 (List.mem_of_getElem? (i := 180) rfl) rfl, List.forall_mem_cons.mpr ⟨tb_1 (List.mem_of_getElem? (i := 182) rfl) rfl, fun _ h => absurd h List.not_mem_nil⟩⟩⟩
theorem inl5 : ∀ w ∈ wsX50, w ∈ wALL := List.forall_mem_cons.mpr ⟨tb_1 (List.mem_of_getElem? (i := 229) rfl) rfl, List.forall_mem_cons.mpr ⟨tb_1 (List.mem_of_getElem? (i := 231) rfl) rfl, List.forall_mem_cons.mpr ⟨tb_1 (List.mem_of_getElem? (i := 233) rfl) rfl, List.forall_mem_cons.mpr ⟨tb_1 (List.mem_of_getElem? (i := 235) rfl) rfl, fun _ h => absurd h List.not_mem_nil⟩⟩⟩⟩
theorem inl6 : ∀ w ∈ wsX60, w ∈ wALL := List.forall_mem_cons.mpr ⟨tb_1 (List.mem_of_getElem? (i := 95) rfl) rfl, List.forall_mem_cons.mpr ⟨tb_1 (List.mem_of_getElem? (i := 97) rfl) rfl, fun _ h => absurd h List.not_mem_nil⟩⟩
theorem inl7 : ∀ w ∈ wsX70, w ∈ wALL := List.forall_mem_cons.mpr ⟨tb_1 (List.mem_of_getElem? (i := 113) rfl) rfl, List.forall_mem_cons.mpr ⟨tb_1 (List.mem_of_getElem? (i := 115) rfl) rfl, List.forall_mem_cons.mpr ⟨tb_1 (List.mem_of_getElem? (i := 117) rfl) rfl, List.forall_mem_cons.mpr ⟨tb_1 (List.mem_of_getElem? (i := 119) rfl) rfl, List.forall_mem_cons.mpr ⟨tb_1 (List.mem_of_getElem? (i := 121) rfl) rfl, fun _ h => absurd h List.not_mem_nil⟩⟩⟩⟩⟩
theorem inl8 : ∀ w ∈ wsX80, w ∈ wALL := List.forall_mem_cons.mpr ⟨tb_1 (List.mem_of_getElem? (i := 211) rfl) rfl, List.forall_mem_cons.mpr ⟨tb_1 (List.mem_of_getElem? (i := 213) rfl) rfl, fun _ h => absurd h List.not_mem_nil⟩⟩
theorem inl9 : ∀ w ∈ wsX90, w ∈ wALL := List.forall_mem_cons.mpr ⟨tb_1 (List.mem_of_getElem? (i := 140) rfl) rfl, List.forall_mem_cons.mpr ⟨tb_1 (List.mem_of_getElem? (i := 142) rfl) rfl, List.forall_mem_cons.mpr ⟨tb_1 (List.mem_of_getElem? (i := 144) rfl) rfl, List.forall_mem_cons.mpr ⟨tb_1 (List.mem_of_getElem? (i := 146) rfl) rfl, fun _ h => absurd h List.not_mem_nil⟩⟩⟩⟩
theorem inl10 : ∀ w ∈ wsX100, w ∈ wALL := List.forall_mem_cons.mpr ⟨tb_1 (List.mem_of_getElem? (i := 76) rfl) rfl, List.forall_mem_cons.mpr ⟨tb_1 (List.mem_of_getElem? (i := 78) rfl) rfl, List.forall_mem_cons.mpr ⟨tb_1 (List.mem_of_getElem? (i := 80) rfl) rfl, List.forall_mem_cons.mpr ⟨tb_1 (List.mem_of_getElem? (i := 82) rfl) rfl, List.forall_mem_cons.mpr ⟨tb_1 (List.mem_of_getElem? (i := 84) rfl) rfl, fun _ h => absurd h List.not_mem_nil⟩⟩⟩⟩⟩
theorem inl11 : ∀ w ∈ wsX110, w ∈ wALL := List.forall_mem_cons.mpr ⟨tb_2 (List.mem_of_getElem? (i := 5) rfl) rfl, List.forall_mem_cons.mpr ⟨tb_2 (List.mem_of_getElem? (i := 7) rfl) rfl, List.forall_mem_cons.mpr ⟨tb_2 (List.mem_of_getElem? (i := 9) rfl) rfl, List.forall_mem_cons.mpr ⟨tb_2 (List.mem_of_getElem? (i := 11) rfl) rfl, List.forall_mem_cons.mpr ⟨tb_2 (List.mem_of_getElem? (i := 13) rfl) rfl, List.forall_mem_cons.mpr ⟨tb_2 (List.mem_of_getElem? (i := 15) rfl) rfl, List.forall_mem_cons.mpr ⟨tb_2 (List.mem_of_getElem? (i := 17) rfl) rfl, fun _ h => absurd h List.not_mem_nil⟩⟩⟩⟩⟩⟩⟩
theorem inl12 : ∀ w ∈ wsX120, w ∈ wALL := List.forall_mem_cons.mpr ⟨tb_6 (List.mem_of_getElem? (i := 199) rfl) rfl, List.forall_mem_cons.mpr ⟨tb_6 (List.mem_of_getElem? (i := 201) rfl) rfl, List.forall_mem_cons.mpr ⟨tb_6 (List.mem_of_getElem? (i := 203) rfl) rfl, List.forall_mem_cons.mpr ⟨tb_6 (List.mem_of_getElem? (i := 205) rfl) rfl, List.forall_mem_cons.mpr ⟨tb_6 (List.mem_of_getElem? (i := 207) rfl) rfl, List.forall_mem_cons.mpr ⟨tb_6 (List.mem_of_getElem? (i := 209) rfl) rfl, List.forall_mem_cons.mpr ⟨tb_6 (List.mem_of_getElem? (i := 211) rfl) rfl, List.forall_mem_cons.mpr ⟨tb_6 (List.mem_of_getElem? (i := 213) rfl) rfl, List.forall_mem_cons.mpr ⟨tb_6 (List.mem_of_getElem? (i := 215) rfl) rfl, List.forall_mem_cons.mpr ⟨tb_6 (List.mem_of_getElem? (i := 217) rfl) rfl, List.forall_mem_cons.mpr ⟨tb_6 (List.mem_of_getElem? (i := 219) rfl) rfl, List.forall_mem_cons.mpr ⟨tb_6 (List.mem_of_getElem? (i := 221) rfl) rfl, List.forall_mem_cons.mpr ⟨tb_6 (List.mem_of_getElem? (i := 223) rfl) rfl, List.forall_mem_cons.mpr ⟨tb_6 (List.mem_of_getElem? (i := 225) rfl) rfl, List.forall_mem_cons.mpr ⟨tb_6 (List.mem_of_getElem? (i := 227) rfl) rfl, fun _ h => absurd h List.not_mem_nil⟩⟩⟩⟩⟩⟩⟩⟩⟩⟩⟩⟩⟩⟩⟩
