/-! every word that a row needs, by its name. wALL: the words of every contract (the good ones of the tables) -/
def wALL : List Cond := lw_tbl.filter goodWord
theorem wALL_tbl : ∀ w ∈ wALL, w ∈ lw_tbl := fun _ h => (List.mem_filter.mp h).1
theorem wALL_good : ∀ w ∈ wALL, goodWord w = true := fun _ h => (List.mem_filter.mp h).2
theorem tb_1 {w : Cond} (h : w ∈ tables_1_1) (g : goodWord w = true) : w ∈ wALL := List.mem_filter.mpr ⟨List.mem_append_right _ (List.mem_append_left _ h), g⟩
theorem tb_2 {w : Cond} (h : w ∈ tables_1_2) (g : goodWord w = true) : w ∈ wALL := List.mem_filter.mpr ⟨List.mem_append_right _ (List.mem_append_right _ (List.mem_append_left _ h)), g⟩
theorem tb_3 {w : Cond} (h : w ∈ tables_1_3) (g : goodWord w = true) : w ∈ wALL := List.mem_filter.mpr ⟨List.mem_append_right _ (List.mem_append_right _ (List.mem_append_right _ (List.mem_append_left _ h))), g⟩
theorem tb_4 {w : Cond} (h : w ∈ tables_1_4) (g : goodWord w = true) : w ∈ wALL := List.mem_filter.mpr ⟨List.mem_append_right _ (List.mem_append_right _ (List.mem_append_right _ (List.mem_append_right _ (List.mem_append_left _ h)))), g⟩
theorem tb_5 {w : Cond} (h : w ∈ tables_1_5) (g : goodWord w = true) : w ∈ wALL := List.mem_filter.mpr ⟨List.mem_append_right _ (List.mem_append_right _ (List.mem_append_right _ (List.mem_append_right _ (List.mem_append_right _ (List.mem_append_left _ h))))), g⟩
theorem tb_6 {w : Cond} (h : w ∈ tables_1_6) (g : goodWord w = true) : w ∈ wALL := List.mem_filter.mpr ⟨List.mem_append_right _ (List.mem_append_right _ (List.mem_append_right _ (List.mem_append_right _ (List.mem_append_right _ (List.mem_append_right _ (h)))))), g⟩
theorem tp_1 {y : MethodName} {n : Nat} (h : (y, n) ∈ lw_privs_1) (g : goodWord (.selects y.cls y y) = true) : Cond.selects y.cls y y ∈ wALL := List.mem_filter.mpr ⟨List.mem_append_left _ (List.mem_map.mpr ⟨(y, n), List.mem_append_left _ h, rfl⟩), g⟩
theorem tp_2 {y : MethodName} {n : Nat} (h : (y, n) ∈ lw_privs_2) (g : goodWord (.selects y.cls y y) = true) : Cond.selects y.cls y y ∈ wALL := List.mem_filter.mpr ⟨List.mem_append_left _ (List.mem_map.mpr ⟨(y, n), List.mem_append_right _ (h), rfl⟩), g⟩
theorem cl_RL_10 : Cond.classLink RL 10 RX11 ∈ wALL := tb_1 (List.mem_of_getElem? (i := 23) rfl) rfl
theorem ia_RX11 : Cond.instantiable RX11 7 ∈ wALL := tb_1 (List.mem_of_getElem? (i := 24) rfl) rfl
theorem in_RX11 : Cond.initialized RX11 ∈ wALL := tb_1 (List.mem_of_getElem? (i := 1) rfl) rfl
theorem ac__int : Cond.arrayClass .int ∈ wALL := tb_1 (List.mem_of_getElem? (i := 59) rfl) rfl
theorem co_RL_8 : Cond.constant RL 8 (2147483647) ∈ wALL := tb_6 (List.mem_of_getElem? (i := 22) rfl) rfl
theorem ml_RL_396 : Cond.methodLink RL 396 yX11_init ∈ wALL := tb_1 (List.mem_of_getElem? (i := 25) rfl) rfl
theorem im_yX11_init : Cond.instanceMethod yX11_init ∈ wALL := tb_1 (List.mem_of_getElem? (i := 26) rfl) rfl
theorem cd_yX11_init : Cond.code yX11_init cX11_init 1 none ∈ wALL := tb_1 (List.mem_of_getElem? (i := 27) rfl) rfl
theorem ml_RX11_1 : Cond.methodLink RX11 1 objectInit ∈ wALL := tb_1 (List.mem_of_getElem? (i := 28) rfl) rfl
theorem im_objectInit : Cond.instanceMethod objectInit ∈ wALL := tb_1 (List.mem_of_getElem? (i := 29) rfl) rfl
theorem cd_objectInit : Cond.code objectInit ⟨#[0xb1]⟩ 1 none ∈ wALL := tb_1 (List.mem_of_getElem? (i := 30) rfl) rfl
theorem cl_RX11_7 : Cond.classLink RX11 7 RX9 ∈ wALL := tb_1 (List.mem_of_getElem? (i := 31) rfl) rfl
theorem ia_RX9 : Cond.instantiable RX9 4 ∈ wALL := tb_1 (List.mem_of_getElem? (i := 32) rfl) rfl
theorem in_RX9 : Cond.initialized RX9 ∈ wALL := tb_1 (List.mem_of_getElem? (i := 2) rfl) rfl
theorem fl_RX11_10 : Cond.fieldLink RX11 10 "PermissionDesk" "now" "LPermissionDesk$State;" ∈ wALL := tb_1 (List.mem_of_getElem? (i := 225) rfl) rfl
theorem cl_RX11_16 : Cond.classLink RX11 16 RX3 ∈ wALL := tb_1 (List.mem_of_getElem? (i := 142) rfl) rfl
theorem ia_RX3 : Cond.instantiable RX3 3 ∈ wALL := tb_1 (List.mem_of_getElem? (i := 143) rfl) rfl
theorem in_RX3 : Cond.initialized RX3 ∈ wALL := tb_1 (List.mem_of_getElem? (i := 7) rfl) rfl
theorem fl_RX11_19 : Cond.fieldLink RX11 19 "PermissionDesk" "history" "LPermissionDesk$History;" ∈ wALL := tb_1 (List.mem_of_getElem? (i := 226) rfl) rfl
theorem fl_RX11_23 : Cond.fieldLink RX11 23 "PermissionDesk" "slots" "[LPermissionDesk$State;" ∈ wALL := tb_1 (List.mem_of_getElem? (i := 227) rfl) rfl
theorem cl_RX11_27 : Cond.classLink RX11 27 RX4 ∈ wALL := tb_1 (List.mem_of_getElem? (i := 161) rfl) rfl
theorem ia_RX4 : Cond.instantiable RX4 3 ∈ wALL := tb_1 (List.mem_of_getElem? (i := 162) rfl) rfl
theorem in_RX4 : Cond.initialized RX4 ∈ wALL := tb_1 (List.mem_of_getElem? (i := 8) rfl) rfl
theorem fl_RX11_30 : Cond.fieldLink RX11 30 "PermissionDesk" "judge" "LPermissionDesk$Judge;" ∈ wALL := tb_1 (List.mem_of_getElem? (i := 228) rfl) rfl
theorem cl_RX11_34 : Cond.classLink RX11 34 RX2 ∈ wALL := tb_1 (List.mem_of_getElem? (i := 177) rfl) rfl
theorem ia_RX2 : Cond.instantiable RX2 3 ∈ wALL := tb_1 (List.mem_of_getElem? (i := 178) rfl) rfl
theorem in_RX2 : Cond.initialized RX2 ∈ wALL := tb_1 (List.mem_of_getElem? (i := 9) rfl) rfl
theorem fl_RX11_37 : Cond.fieldLink RX11 37 "PermissionDesk" "handing" "LPermissionDesk$Handing;" ∈ wALL := tb_1 (List.mem_of_getElem? (i := 229) rfl) rfl
theorem cl_RX11_41 : Cond.classLink RX11 41 RX8 ∈ wALL := tb_1 (List.mem_of_getElem? (i := 193) rfl) rfl
theorem ia_RX8 : Cond.instantiable RX8 2 ∈ wALL := tb_1 (List.mem_of_getElem? (i := 194) rfl) rfl
theorem in_RX8 : Cond.initialized RX8 ∈ wALL := tb_1 (List.mem_of_getElem? (i := 10) rfl) rfl
theorem fl_RX11_44 : Cond.fieldLink RX11 44 "PermissionDesk" "pad" "LPermissionDesk$Pad;" ∈ wALL := tb_1 (List.mem_of_getElem? (i := 230) rfl) rfl
theorem cl_RX11_48 : Cond.classLink RX11 48 RX5 ∈ wALL := tb_1 (List.mem_of_getElem? (i := 206) rfl) rfl
theorem ia_RX5 : Cond.instantiable RX5 4 ∈ wALL := tb_1 (List.mem_of_getElem? (i := 207) rfl) rfl
theorem in_RX5 : Cond.initialized RX5 ∈ wALL := tb_1 (List.mem_of_getElem? (i := 11) rfl) rfl
theorem fl_RX11_51 : Cond.fieldLink RX11 51 "PermissionDesk" "text" "LPermissionDesk$ListText;" ∈ wALL := tb_1 (List.mem_of_getElem? (i := 231) rfl) rfl
theorem im_yX9_init : Cond.instanceMethod yX9_init ∈ wALL := tb_1 (List.mem_of_getElem? (i := 34) rfl) rfl
theorem cd_yX9_init : Cond.code yX9_init cX9_init 1 none ∈ wALL := tb_1 (List.mem_of_getElem? (i := 35) rfl) rfl
theorem ml_RX9_3 : Cond.methodLink RX9 3 objectInit ∈ wALL := tb_1 (List.mem_of_getElem? (i := 36) rfl) rfl
theorem cl_RX9_9 : Cond.classLink RX9 9 RX0 ∈ wALL := tb_1 (List.mem_of_getElem? (i := 37) rfl) rfl
theorem ia_RX0 : Cond.instantiable RX0 4 ∈ wALL := tb_1 (List.mem_of_getElem? (i := 38) rfl) rfl
theorem in_RX0 : Cond.initialized RX0 ∈ wALL := tb_1 (List.mem_of_getElem? (i := 3) rfl) rfl
theorem fl_RX9_12 : Cond.fieldLink RX9 12 "PermissionDesk$State" "club" "LPermissionDesk$Club;" ∈ wALL := tb_1 (List.mem_of_getElem? (i := 119) rfl) rfl
theorem cl_RX9_18 : Cond.classLink RX9 18 RX10 ∈ wALL := tb_1 (List.mem_of_getElem? (i := 60) rfl) rfl
theorem ia_RX10 : Cond.instantiable RX10 5 ∈ wALL := tb_1 (List.mem_of_getElem? (i := 61) rfl) rfl
theorem in_RX10 : Cond.initialized RX10 ∈ wALL := tb_1 (List.mem_of_getElem? (i := 4) rfl) rfl
theorem fl_RX9_21 : Cond.fieldLink RX9 21 "PermissionDesk$State" "tree" "LPermissionDesk$Tree;" ∈ wALL := tb_1 (List.mem_of_getElem? (i := 123) rfl) rfl
theorem cl_RX9_25 : Cond.classLink RX9 25 RX6 ∈ wALL := tb_1 (List.mem_of_getElem? (i := 82) rfl) rfl
theorem ia_RX6 : Cond.instantiable RX6 2 ∈ wALL := tb_1 (List.mem_of_getElem? (i := 83) rfl) rfl
theorem in_RX6 : Cond.initialized RX6 ∈ wALL := tb_1 (List.mem_of_getElem? (i := 5) rfl) rfl
theorem fl_RX9_28 : Cond.fieldLink RX9 28 "PermissionDesk$State" "lists" "LPermissionDesk$Lists;" ∈ wALL := tb_1 (List.mem_of_getElem? (i := 127) rfl) rfl
theorem cl_RX9_32 : Cond.classLink RX9 32 RX7 ∈ wALL := tb_1 (List.mem_of_getElem? (i := 95) rfl) rfl
theorem ia_RX7 : Cond.instantiable RX7 5 ∈ wALL := tb_1 (List.mem_of_getElem? (i := 96) rfl) rfl
theorem in_RX7 : Cond.initialized RX7 ∈ wALL := tb_1 (List.mem_of_getElem? (i := 6) rfl) rfl
theorem fl_RX9_35 : Cond.fieldLink RX9 35 "PermissionDesk$State" "log" "LPermissionDesk$Log;" ∈ wALL := tb_1 (List.mem_of_getElem? (i := 131) rfl) rfl
theorem im_yX0_init : Cond.instanceMethod yX0_init ∈ wALL := tb_1 (List.mem_of_getElem? (i := 40) rfl) rfl
theorem cd_yX0_init : Cond.code yX0_init cX0_init 1 none ∈ wALL := tb_1 (List.mem_of_getElem? (i := 41) rfl) rfl
theorem ml_RX0_3 : Cond.methodLink RX0 3 objectInit ∈ wALL := tb_1 (List.mem_of_getElem? (i := 42) rfl) rfl
theorem fl_RX0_9 : Cond.fieldLink RX0 9 "PermissionDesk$Club" "users" "I" ∈ wALL := tb_1 (List.mem_of_getElem? (i := 43) rfl) rfl
theorem fl_RX0_15 : Cond.fieldLink RX0 15 "PermissionDesk$Club" "groups" "I" ∈ wALL := tb_1 (List.mem_of_getElem? (i := 46) rfl) rfl
theorem fl_RX0_18 : Cond.fieldLink RX0 18 "PermissionDesk$Club" "groupsOfUser" "[I" ∈ wALL := tb_1 (List.mem_of_getElem? (i := 48) rfl) rfl
theorem fl_RX0_22 : Cond.fieldLink RX0 22 "PermissionDesk$Club" "outersOfGroup" "[I" ∈ wALL := tb_1 (List.mem_of_getElem? (i := 49) rfl) rfl
theorem ml_RX9_20 : Cond.methodLink RX9 20 yX10_init ∈ wALL := tb_1 (List.mem_of_getElem? (i := 62) rfl) rfl
theorem im_yX10_init : Cond.instanceMethod yX10_init ∈ wALL := tb_1 (List.mem_of_getElem? (i := 63) rfl) rfl
theorem cd_yX10_init : Cond.code yX10_init cX10_init 1 none ∈ wALL := tb_1 (List.mem_of_getElem? (i := 64) rfl) rfl
theorem ml_RX10_3 : Cond.methodLink RX10 3 objectInit ∈ wALL := tb_1 (List.mem_of_getElem? (i := 65) rfl) rfl
theorem fl_RX10_9 : Cond.fieldLink RX10 9 "PermissionDesk$Tree" "there" "I" ∈ wALL := tb_1 (List.mem_of_getElem? (i := 66) rfl) rfl
theorem fl_RX10_15 : Cond.fieldLink RX10 15 "PermissionDesk$Tree" "inheriting" "I" ∈ wALL := tb_1 (List.mem_of_getElem? (i := 67) rfl) rfl
theorem fl_RX10_18 : Cond.fieldLink RX10 18 "PermissionDesk$Tree" "parents" "[I" ∈ wALL := tb_1 (List.mem_of_getElem? (i := 68) rfl) rfl
theorem fl_RX10_22 : Cond.fieldLink RX10 22 "PermissionDesk$Tree" "owners" "[I" ∈ wALL := tb_1 (List.mem_of_getElem? (i := 69) rfl) rfl
theorem fl_RX10_25 : Cond.fieldLink RX10 25 "PermissionDesk$Tree" "masks" "[I" ∈ wALL := tb_1 (List.mem_of_getElem? (i := 70) rfl) rfl
theorem im_yX6_init : Cond.instanceMethod yX6_init ∈ wALL := tb_1 (List.mem_of_getElem? (i := 85) rfl) rfl
theorem cd_yX6_init : Cond.code yX6_init cX6_init 1 none ∈ wALL := tb_1 (List.mem_of_getElem? (i := 86) rfl) rfl
theorem ml_RX6_3 : Cond.methodLink RX6 3 objectInit ∈ wALL := tb_1 (List.mem_of_getElem? (i := 87) rfl) rfl
theorem fl_RX6_9 : Cond.fieldLink RX6 9 "PermissionDesk$Lists" "counts" "[I" ∈ wALL := tb_1 (List.mem_of_getElem? (i := 88) rfl) rfl
theorem fl_RX6_15 : Cond.fieldLink RX6 15 "PermissionDesk$Lists" "entries" "[I" ∈ wALL := tb_1 (List.mem_of_getElem? (i := 89) rfl) rfl
theorem im_yX7_init : Cond.instanceMethod yX7_init ∈ wALL := tb_1 (List.mem_of_getElem? (i := 98) rfl) rfl
theorem cd_yX7_init : Cond.code yX7_init cX7_init 1 none ∈ wALL := tb_1 (List.mem_of_getElem? (i := 99) rfl) rfl
theorem ml_RX7_3 : Cond.methodLink RX7 3 objectInit ∈ wALL := tb_1 (List.mem_of_getElem? (i := 100) rfl) rfl
theorem fl_RX7_9 : Cond.fieldLink RX7 9 "PermissionDesk$Log" "requests" "I" ∈ wALL := tb_1 (List.mem_of_getElem? (i := 101) rfl) rfl
theorem fl_RX7_15 : Cond.fieldLink RX7 15 "PermissionDesk$Log" "refusals" "I" ∈ wALL := tb_1 (List.mem_of_getElem? (i := 103) rfl) rfl
theorem fl_RX7_18 : Cond.fieldLink RX7 18 "PermissionDesk$Log" "granted" "I" ∈ wALL := tb_1 (List.mem_of_getElem? (i := 105) rfl) rfl
theorem fl_RX7_21 : Cond.fieldLink RX7 21 "PermissionDesk$Log" "users" "[I" ∈ wALL := tb_1 (List.mem_of_getElem? (i := 106) rfl) rfl
theorem fl_RX7_25 : Cond.fieldLink RX7 25 "PermissionDesk$Log" "objects" "[I" ∈ wALL := tb_1 (List.mem_of_getElem? (i := 107) rfl) rfl
theorem ml_RX11_18 : Cond.methodLink RX11 18 yX3_init ∈ wALL := tb_1 (List.mem_of_getElem? (i := 144) rfl) rfl
theorem im_yX3_init : Cond.instanceMethod yX3_init ∈ wALL := tb_1 (List.mem_of_getElem? (i := 145) rfl) rfl
theorem cd_yX3_init : Cond.code yX3_init cX3_init 2 none ∈ wALL := tb_1 (List.mem_of_getElem? (i := 146) rfl) rfl
theorem ml_RX3_3 : Cond.methodLink RX3 3 objectInit ∈ wALL := tb_1 (List.mem_of_getElem? (i := 147) rfl) rfl
theorem fl_RX3_9 : Cond.fieldLink RX3 9 "PermissionDesk$History" "kept" "I" ∈ wALL := tb_1 (List.mem_of_getElem? (i := 151) rfl) rfl
theorem fl_RX3_15 : Cond.fieldLink RX3 15 "PermissionDesk$History" "oldest" "I" ∈ wALL := tb_1 (List.mem_of_getElem? (i := 152) rfl) rfl
theorem cl_RX3_18 : Cond.classLink RX3 18 RX9 ∈ wALL := tb_1 (List.mem_of_getElem? (i := 148) rfl) rfl
theorem fl_RX3_20 : Cond.fieldLink RX3 20 "PermissionDesk$History" "rows" "[LPermissionDesk$State;" ∈ wALL := tb_1 (List.mem_of_getElem? (i := 153) rfl) rfl
theorem im_yX4_init : Cond.instanceMethod yX4_init ∈ wALL := tb_1 (List.mem_of_getElem? (i := 164) rfl) rfl
theorem cd_yX4_init : Cond.code yX4_init cX4_init 1 none ∈ wALL := tb_1 (List.mem_of_getElem? (i := 165) rfl) rfl
theorem ml_RX4_3 : Cond.methodLink RX4 3 objectInit ∈ wALL := tb_1 (List.mem_of_getElem? (i := 166) rfl) rfl
theorem fl_RX4_9 : Cond.fieldLink RX4 9 "PermissionDesk$Judge" "places" "[I" ∈ wALL := tb_1 (List.mem_of_getElem? (i := 167) rfl) rfl
theorem fl_RX4_15 : Cond.fieldLink RX4 15 "PermissionDesk$Judge" "deciders" "[I" ∈ wALL := tb_1 (List.mem_of_getElem? (i := 168) rfl) rfl
theorem fl_RX4_18 : Cond.fieldLink RX4 18 "PermissionDesk$Judge" "table" "[I" ∈ wALL := tb_1 (List.mem_of_getElem? (i := 169) rfl) rfl
theorem im_yX2_init : Cond.instanceMethod yX2_init ∈ wALL := tb_1 (List.mem_of_getElem? (i := 180) rfl) rfl
theorem cd_yX2_init : Cond.code yX2_init cX2_init 1 none ∈ wALL := tb_1 (List.mem_of_getElem? (i := 181) rfl) rfl
theorem ml_RX2_3 : Cond.methodLink RX2 3 objectInit ∈ wALL := tb_1 (List.mem_of_getElem? (i := 182) rfl) rfl
theorem fl_RX2_9 : Cond.fieldLink RX2 9 "PermissionDesk$Handing" "reached" "I" ∈ wALL := tb_1 (List.mem_of_getElem? (i := 183) rfl) rfl
theorem fl_RX2_15 : Cond.fieldLink RX2 15 "PermissionDesk$Handing" "lengths" "[I" ∈ wALL := tb_1 (List.mem_of_getElem? (i := 184) rfl) rfl
theorem fl_RX2_19 : Cond.fieldLink RX2 19 "PermissionDesk$Handing" "lists" "[I" ∈ wALL := tb_1 (List.mem_of_getElem? (i := 185) rfl) rfl
theorem im_yX8_init : Cond.instanceMethod yX8_init ∈ wALL := tb_1 (List.mem_of_getElem? (i := 196) rfl) rfl
theorem cd_yX8_init : Cond.code yX8_init cX8_init 1 none ∈ wALL := tb_1 (List.mem_of_getElem? (i := 197) rfl) rfl
theorem ml_RX8_3 : Cond.methodLink RX8 3 objectInit ∈ wALL := tb_1 (List.mem_of_getElem? (i := 198) rfl) rfl
theorem fl_RX8_9 : Cond.fieldLink RX8 9 "PermissionDesk$Pad" "length" "I" ∈ wALL := tb_1 (List.mem_of_getElem? (i := 199) rfl) rfl
theorem fl_RX8_15 : Cond.fieldLink RX8 15 "PermissionDesk$Pad" "signs" "[I" ∈ wALL := tb_1 (List.mem_of_getElem? (i := 200) rfl) rfl
theorem im_yX5_init : Cond.instanceMethod yX5_init ∈ wALL := tb_1 (List.mem_of_getElem? (i := 209) rfl) rfl
theorem cd_yX5_init : Cond.code yX5_init cX5_init 1 none ∈ wALL := tb_1 (List.mem_of_getElem? (i := 210) rfl) rfl
theorem ml_RX5_3 : Cond.methodLink RX5 3 objectInit ∈ wALL := tb_1 (List.mem_of_getElem? (i := 211) rfl) rfl
theorem fl_RX5_9 : Cond.fieldLink RX5 9 "PermissionDesk$ListText" "at" "I" ∈ wALL := tb_1 (List.mem_of_getElem? (i := 212) rfl) rfl
theorem fl_RX5_15 : Cond.fieldLink RX5 15 "PermissionDesk$ListText" "object" "I" ∈ wALL := tb_1 (List.mem_of_getElem? (i := 213) rfl) rfl
theorem fl_RX5_18 : Cond.fieldLink RX5 18 "PermissionDesk$ListText" "count" "I" ∈ wALL := tb_1 (List.mem_of_getElem? (i := 214) rfl) rfl
theorem fl_RX5_21 : Cond.fieldLink RX5 21 "PermissionDesk$ListText" "entries" "[I" ∈ wALL := tb_1 (List.mem_of_getElem? (i := 215) rfl) rfl
theorem ml_RL_397 : Cond.methodLink RL 397 yL_cell ∈ wALL := tb_2 (List.mem_of_getElem? (i := 7) rfl) rfl
theorem st_yL_cell : Cond.static yL_cell ∈ wALL := tb_2 (List.mem_of_getElem? (i := 8) rfl) rfl
theorem in_RL : Cond.initialized RL ∈ wALL := tb_1 (List.mem_of_getElem? (i := 0) rfl) rfl
theorem cd_yL_cell : Cond.code yL_cell cL_cell 2 (some .int) ∈ wALL := tb_2 (List.mem_of_getElem? (i := 9) rfl) rfl
theorem co_RL_7 : Cond.constant RL 7 (40503) ∈ wALL := tb_2 (List.mem_of_getElem? (i := 10) rfl) rfl
theorem ml_RL_400 : Cond.methodLink RL 400 yL_ofGroups ∈ wALL := tb_4 (List.mem_of_getElem? (i := 205) rfl) rfl
theorem st_yL_ofGroups : Cond.static yL_ofGroups ∈ wALL := tb_4 (List.mem_of_getElem? (i := 206) rfl) rfl
theorem cd_yL_ofGroups : Cond.code yL_ofGroups cL_ofGroups 12 (some .boolean) ∈ wALL := tb_4 (List.mem_of_getElem? (i := 207) rfl) rfl
theorem ml_RL_331 : Cond.methodLink RL 331 yL_addUserOf ∈ wALL := tb_4 (List.mem_of_getElem? (i := 208) rfl) rfl
theorem st_yL_addUserOf : Cond.static yL_addUserOf ∈ wALL := tb_4 (List.mem_of_getElem? (i := 209) rfl) rfl
theorem cw_yL_addUserOf : Cond.codeWith yL_addUserOf cL_addUserOf 2 (some .int) [(0, 4, 5, 15)] ∈ wALL := tb_4 (List.mem_of_getElem? (i := 210) rfl) rfl
theorem cl_RL_15 : Cond.classLink RL 15 "java/lang/IllegalStateException" ∈ wALL := tb_4 (List.mem_of_getElem? (i := 211) rfl) rfl
theorem ml_RL_9 : Cond.methodLink RL 9 yX11_addUser ∈ wALL := tb_4 (List.mem_of_getElem? (i := 212) rfl) rfl
theorem im_yX11_addUser : Cond.instanceMethod yX11_addUser ∈ wALL := tb_4 (List.mem_of_getElem? (i := 213) rfl) rfl
theorem se_yX11_addUser : Cond.selects RX11 yX11_addUser yX11_addUser ∈ wALL := tb_4 (List.mem_of_getElem? (i := 214) rfl) rfl
theorem cd_yX11_addUser : Cond.code yX11_addUser cX11_addUser 1 (some .int) ∈ wALL := tb_4 (List.mem_of_getElem? (i := 215) rfl) rfl
theorem cl_RX11_65 : Cond.classLink RX11 65 "java/lang/IllegalStateException" ∈ wALL := tb_4 (List.mem_of_getElem? (i := 216) rfl) rfl
theorem in_java_lang_IllegalStateException : Cond.initialized "java/lang/IllegalStateException" ∈ wALL := tb_1 (List.mem_of_getElem? (i := 15) rfl) rfl
theorem fl_RX11_55 : Cond.fieldLink RX11 55 "PermissionDesk$State" "club" "LPermissionDesk$Club;" ∈ wALL := tb_1 (List.mem_of_getElem? (i := 120) rfl) rfl
theorem fl_RX11_59 : Cond.fieldLink RX11 59 "PermissionDesk$Club" "users" "I" ∈ wALL := tb_1 (List.mem_of_getElem? (i := 44) rfl) rfl
theorem ml_RX11_72 : Cond.methodLink RX11 72 yX3_keep ∈ wALL := tb_4 (List.mem_of_getElem? (i := 232) rfl) rfl
theorem im_yX3_keep : Cond.instanceMethod yX3_keep ∈ wALL := tb_4 (List.mem_of_getElem? (i := 233) rfl) rfl
theorem se_yX3_keep : Cond.selects RX3 yX3_keep yX3_keep ∈ wALL := tb_4 (List.mem_of_getElem? (i := 234) rfl) rfl
theorem cd_yX3_keep : Cond.code yX3_keep cX3_keep 3 none ∈ wALL := tb_4 (List.mem_of_getElem? (i := 235) rfl) rfl
theorem ml_RX3_25 : Cond.methodLink RX3 25 yJ9_floorMod_7cf53 ∈ wALL := tb_4 (List.mem_of_getElem? (i := 236) rfl) rfl
theorem st_yJ9_floorMod_7cf53 : Cond.static yJ9_floorMod_7cf53 ∈ wALL := tb_4 (List.mem_of_getElem? (i := 180) rfl) rfl
theorem in_RJ9 : Cond.initialized RJ9 ∈ wALL := tb_1 (List.mem_of_getElem? (i := 16) rfl) rfl
theorem cd_yJ9_floorMod_7cf53 : Cond.code yJ9_floorMod_7cf53 cJ9_floorMod_7cf53 3 (some .int) ∈ wALL := tb_4 (List.mem_of_getElem? (i := 181) rfl) rfl
theorem ml_RX3_31 : Cond.methodLink RX3 31 yX9_copyFrom ∈ wALL := tb_4 (List.mem_of_getElem? (i := 237) rfl) rfl
theorem im_yX9_copyFrom : Cond.instanceMethod yX9_copyFrom ∈ wALL := tb_4 (List.mem_of_getElem? (i := 238) rfl) rfl
theorem se_yX9_copyFrom : Cond.selects RX9 yX9_copyFrom yX9_copyFrom ∈ wALL := tb_4 (List.mem_of_getElem? (i := 239) rfl) rfl
theorem cd_yX9_copyFrom : Cond.code yX9_copyFrom cX9_copyFrom 2 none ∈ wALL := tb_5 (List.mem_of_getElem? (i := 0) rfl) rfl
theorem ml_RX9_39 : Cond.methodLink RX9 39 yX0_copyFrom ∈ wALL := tb_5 (List.mem_of_getElem? (i := 1) rfl) rfl
theorem im_yX0_copyFrom : Cond.instanceMethod yX0_copyFrom ∈ wALL := tb_5 (List.mem_of_getElem? (i := 2) rfl) rfl
theorem se_yX0_copyFrom : Cond.selects RX0 yX0_copyFrom yX0_copyFrom ∈ wALL := tb_5 (List.mem_of_getElem? (i := 3) rfl) rfl
theorem cd_yX0_copyFrom : Cond.code yX0_copyFrom cX0_copyFrom 2 none ∈ wALL := tb_5 (List.mem_of_getElem? (i := 4) rfl) rfl
theorem ml_RX0_25 : Cond.methodLink RX0 25 arraycopyName ∈ wALL := tb_5 (List.mem_of_getElem? (i := 5) rfl) rfl
theorem na_arraycopyName : Cond.native arraycopyName ∈ wALL := tb_5 (List.mem_of_getElem? (i := 7) rfl) rfl
theorem st_arraycopyName : Cond.static arraycopyName ∈ wALL := tb_5 (List.mem_of_getElem? (i := 6) rfl) rfl
theorem in_java_lang_System : Cond.initialized "java/lang/System" ∈ wALL := tb_1 (List.mem_of_getElem? (i := 17) rfl) rfl
theorem ml_RX9_43 : Cond.methodLink RX9 43 yX10_copyFrom ∈ wALL := tb_5 (List.mem_of_getElem? (i := 8) rfl) rfl
theorem im_yX10_copyFrom : Cond.instanceMethod yX10_copyFrom ∈ wALL := tb_5 (List.mem_of_getElem? (i := 9) rfl) rfl
theorem se_yX10_copyFrom : Cond.selects RX10 yX10_copyFrom yX10_copyFrom ∈ wALL := tb_5 (List.mem_of_getElem? (i := 10) rfl) rfl
theorem cd_yX10_copyFrom : Cond.code yX10_copyFrom cX10_copyFrom 2 none ∈ wALL := tb_5 (List.mem_of_getElem? (i := 11) rfl) rfl
theorem ml_RX10_28 : Cond.methodLink RX10 28 arraycopyName ∈ wALL := tb_5 (List.mem_of_getElem? (i := 12) rfl) rfl
theorem ml_RX9_46 : Cond.methodLink RX9 46 yX6_copyFrom ∈ wALL := tb_5 (List.mem_of_getElem? (i := 13) rfl) rfl
theorem im_yX6_copyFrom : Cond.instanceMethod yX6_copyFrom ∈ wALL := tb_5 (List.mem_of_getElem? (i := 14) rfl) rfl
theorem se_yX6_copyFrom : Cond.selects RX6 yX6_copyFrom yX6_copyFrom ∈ wALL := tb_5 (List.mem_of_getElem? (i := 15) rfl) rfl
theorem cd_yX6_copyFrom : Cond.code yX6_copyFrom cX6_copyFrom 2 none ∈ wALL := tb_5 (List.mem_of_getElem? (i := 16) rfl) rfl
theorem ml_RX6_18 : Cond.methodLink RX6 18 arraycopyName ∈ wALL := tb_5 (List.mem_of_getElem? (i := 17) rfl) rfl
theorem ml_RX9_49 : Cond.methodLink RX9 49 yX7_copyFrom ∈ wALL := tb_5 (List.mem_of_getElem? (i := 18) rfl) rfl
theorem im_yX7_copyFrom : Cond.instanceMethod yX7_copyFrom ∈ wALL := tb_5 (List.mem_of_getElem? (i := 19) rfl) rfl
theorem se_yX7_copyFrom : Cond.selects RX7 yX7_copyFrom yX7_copyFrom ∈ wALL := tb_5 (List.mem_of_getElem? (i := 20) rfl) rfl
theorem cd_yX7_copyFrom : Cond.code yX7_copyFrom cX7_copyFrom 2 none ∈ wALL := tb_5 (List.mem_of_getElem? (i := 21) rfl) rfl
theorem ml_RX7_28 : Cond.methodLink RX7 28 arraycopyName ∈ wALL := tb_5 (List.mem_of_getElem? (i := 22) rfl) rfl
theorem ml_RX11_76 : Cond.methodLink RX11 76 yX0_takeUser ∈ wALL := tb_5 (List.mem_of_getElem? (i := 23) rfl) rfl
theorem im_yX0_takeUser : Cond.instanceMethod yX0_takeUser ∈ wALL := tb_5 (List.mem_of_getElem? (i := 24) rfl) rfl
theorem se_yX0_takeUser : Cond.selects RX0 yX0_takeUser yX0_takeUser ∈ wALL := tb_5 (List.mem_of_getElem? (i := 25) rfl) rfl
theorem cd_yX0_takeUser : Cond.code yX0_takeUser cX0_takeUser 2 (some .int) ∈ wALL := tb_5 (List.mem_of_getElem? (i := 26) rfl) rfl
theorem ml_RL_335 : Cond.methodLink RL 335 yL_addGroupOf ∈ wALL := tb_5 (List.mem_of_getElem? (i := 27) rfl) rfl
theorem st_yL_addGroupOf : Cond.static yL_addGroupOf ∈ wALL := tb_5 (List.mem_of_getElem? (i := 28) rfl) rfl
theorem cw_yL_addGroupOf : Cond.codeWith yL_addGroupOf cL_addGroupOf 2 (some .int) [(0, 4, 5, 15)] ∈ wALL := tb_5 (List.mem_of_getElem? (i := 29) rfl) rfl
theorem ml_RL_17 : Cond.methodLink RL 17 yX11_addGroup ∈ wALL := tb_5 (List.mem_of_getElem? (i := 30) rfl) rfl
theorem im_yX11_addGroup : Cond.instanceMethod yX11_addGroup ∈ wALL := tb_5 (List.mem_of_getElem? (i := 31) rfl) rfl
theorem se_yX11_addGroup : Cond.selects RX11 yX11_addGroup yX11_addGroup ∈ wALL := tb_5 (List.mem_of_getElem? (i := 32) rfl) rfl
theorem cd_yX11_addGroup : Cond.code yX11_addGroup cX11_addGroup 1 (some .int) ∈ wALL := tb_5 (List.mem_of_getElem? (i := 33) rfl) rfl
theorem fl_RX11_80 : Cond.fieldLink RX11 80 "PermissionDesk$Club" "groups" "I" ∈ wALL := tb_1 (List.mem_of_getElem? (i := 47) rfl) rfl
theorem ml_RX11_85 : Cond.methodLink RX11 85 yX0_takeGroup ∈ wALL := tb_5 (List.mem_of_getElem? (i := 35) rfl) rfl
theorem im_yX0_takeGroup : Cond.instanceMethod yX0_takeGroup ∈ wALL := tb_5 (List.mem_of_getElem? (i := 36) rfl) rfl
theorem se_yX0_takeGroup : Cond.selects RX0 yX0_takeGroup yX0_takeGroup ∈ wALL := tb_5 (List.mem_of_getElem? (i := 37) rfl) rfl
theorem cd_yX0_takeGroup : Cond.code yX0_takeGroup cX0_takeGroup 2 (some .int) ∈ wALL := tb_5 (List.mem_of_getElem? (i := 38) rfl) rfl
theorem ml_RL_172 : Cond.methodLink RL 172 yL_has ∈ wALL := tb_2 (List.mem_of_getElem? (i := 173) rfl) rfl
theorem st_yL_has : Cond.static yL_has ∈ wALL := tb_2 (List.mem_of_getElem? (i := 174) rfl) rfl
theorem cd_yL_has : Cond.code yL_has cL_has 2 (some .boolean) ∈ wALL := tb_2 (List.mem_of_getElem? (i := 175) rfl) rfl
theorem ml_RL_338 : Cond.methodLink RL 338 yL_joinOf ∈ wALL := tb_5 (List.mem_of_getElem? (i := 39) rfl) rfl
theorem st_yL_joinOf : Cond.static yL_joinOf ∈ wALL := tb_5 (List.mem_of_getElem? (i := 40) rfl) rfl
theorem cw_yL_joinOf : Cond.codeWith yL_joinOf cL_joinOf 4 (some .int) [(0, 6, 7, 24), (0, 6, 11, 15)] ∈ wALL := tb_5 (List.mem_of_getElem? (i := 41) rfl) rfl
theorem cl_RL_24 : Cond.classLink RL 24 "java/lang/IndexOutOfBoundsException" ∈ wALL := tb_2 (List.mem_of_getElem? (i := 25) rfl) rfl
theorem ml_RL_20 : Cond.methodLink RL 20 yX11_join ∈ wALL := tb_5 (List.mem_of_getElem? (i := 42) rfl) rfl
theorem im_yX11_join : Cond.instanceMethod yX11_join ∈ wALL := tb_5 (List.mem_of_getElem? (i := 43) rfl) rfl
theorem se_yX11_join : Cond.selects RX11 yX11_join yX11_join ∈ wALL := tb_5 (List.mem_of_getElem? (i := 44) rfl) rfl
theorem cd_yX11_join : Cond.code yX11_join cX11_join 3 (some .int) ∈ wALL := tb_5 (List.mem_of_getElem? (i := 45) rfl) rfl
theorem ml_RX11_88 : Cond.methodLink RX11 88 yX11_requireUser ∈ wALL := tb_2 (List.mem_of_getElem? (i := 30) rfl) rfl
theorem im_yX11_requireUser : Cond.instanceMethod yX11_requireUser ∈ wALL := tb_2 (List.mem_of_getElem? (i := 32) rfl) rfl
theorem se_yX11_requireUser : Cond.selects RX11 yX11_requireUser yX11_requireUser ∈ wALL := tp_1 (n := 7) (List.mem_of_getElem? (i := 0) rfl) rfl
theorem cd_yX11_requireUser : Cond.code yX11_requireUser cX11_requireUser 2 none ∈ wALL := tb_2 (List.mem_of_getElem? (i := 33) rfl) rfl
theorem cl_RX11_382 : Cond.classLink RX11 382 "java/lang/IndexOutOfBoundsException" ∈ wALL := tb_2 (List.mem_of_getElem? (i := 41) rfl) rfl
theorem in_java_lang_IndexOutOfBoundsException : Cond.initialized "java/lang/IndexOutOfBoundsException" ∈ wALL := tb_1 (List.mem_of_getElem? (i := 18) rfl) rfl
theorem ml_RX11_379 : Cond.methodLink RX11 379 yX0_hasUser ∈ wALL := tb_2 (List.mem_of_getElem? (i := 34) rfl) rfl
theorem im_yX0_hasUser : Cond.instanceMethod yX0_hasUser ∈ wALL := tb_2 (List.mem_of_getElem? (i := 35) rfl) rfl
theorem se_yX0_hasUser : Cond.selects RX0 yX0_hasUser yX0_hasUser ∈ wALL := tb_2 (List.mem_of_getElem? (i := 36) rfl) rfl
theorem cd_yX0_hasUser : Cond.code yX0_hasUser cX0_hasUser 2 (some .boolean) ∈ wALL := tb_2 (List.mem_of_getElem? (i := 37) rfl) rfl
theorem st_yX11_isIndex : Cond.static yX11_isIndex ∈ wALL := tb_2 (List.mem_of_getElem? (i := 39) rfl) rfl
theorem cd_yX11_isIndex : Cond.code yX11_isIndex cX11_isIndex 2 (some .boolean) ∈ wALL := tb_2 (List.mem_of_getElem? (i := 40) rfl) rfl
theorem ml_RX11_92 : Cond.methodLink RX11 92 yX11_requireGroup ∈ wALL := tb_2 (List.mem_of_getElem? (i := 109) rfl) rfl
theorem im_yX11_requireGroup : Cond.instanceMethod yX11_requireGroup ∈ wALL := tb_2 (List.mem_of_getElem? (i := 111) rfl) rfl
theorem se_yX11_requireGroup : Cond.selects RX11 yX11_requireGroup yX11_requireGroup ∈ wALL := tp_1 (n := 7) (List.mem_of_getElem? (i := 2) rfl) rfl
theorem cd_yX11_requireGroup : Cond.code yX11_requireGroup cX11_requireGroup 2 none ∈ wALL := tb_2 (List.mem_of_getElem? (i := 112) rfl) rfl
theorem ml_RX11_387 : Cond.methodLink RX11 387 yX0_hasGroup ∈ wALL := tb_2 (List.mem_of_getElem? (i := 113) rfl) rfl
theorem im_yX0_hasGroup : Cond.instanceMethod yX0_hasGroup ∈ wALL := tb_2 (List.mem_of_getElem? (i := 114) rfl) rfl
theorem se_yX0_hasGroup : Cond.selects RX0 yX0_hasGroup yX0_hasGroup ∈ wALL := tb_2 (List.mem_of_getElem? (i := 115) rfl) rfl
theorem cd_yX0_hasGroup : Cond.code yX0_hasGroup cX0_hasGroup 2 (some .boolean) ∈ wALL := tb_2 (List.mem_of_getElem? (i := 116) rfl) rfl
theorem ml_RX11_95 : Cond.methodLink RX11 95 yX0_hasMember ∈ wALL := tb_2 (List.mem_of_getElem? (i := 118) rfl) rfl
theorem im_yX0_hasMember : Cond.instanceMethod yX0_hasMember ∈ wALL := tb_2 (List.mem_of_getElem? (i := 119) rfl) rfl
theorem se_yX0_hasMember : Cond.selects RX0 yX0_hasMember yX0_hasMember ∈ wALL := tb_2 (List.mem_of_getElem? (i := 120) rfl) rfl
theorem cd_yX0_hasMember : Cond.code yX0_hasMember cX0_hasMember 3 (some .boolean) ∈ wALL := tb_2 (List.mem_of_getElem? (i := 121) rfl) rfl
theorem st_yX11_has : Cond.static yX11_has ∈ wALL := tb_2 (List.mem_of_getElem? (i := 123) rfl) rfl
theorem cd_yX11_has : Cond.code yX11_has cX11_has 2 (some .boolean) ∈ wALL := tb_2 (List.mem_of_getElem? (i := 124) rfl) rfl
theorem ml_RX11_101 : Cond.methodLink RX11 101 yX0_setMember ∈ wALL := tb_5 (List.mem_of_getElem? (i := 47) rfl) rfl
theorem im_yX0_setMember : Cond.instanceMethod yX0_setMember ∈ wALL := tb_5 (List.mem_of_getElem? (i := 48) rfl) rfl
theorem se_yX0_setMember : Cond.selects RX0 yX0_setMember yX0_setMember ∈ wALL := tb_5 (List.mem_of_getElem? (i := 49) rfl) rfl
theorem cd_yX0_setMember : Cond.code yX0_setMember cX0_setMember 4 none ∈ wALL := tb_5 (List.mem_of_getElem? (i := 50) rfl) rfl
theorem st_yX11_changed : Cond.static yX11_changed ∈ wALL := tb_4 (List.mem_of_getElem? (i := 12) rfl) rfl
theorem cd_yX11_changed : Cond.code yX11_changed cX11_changed 3 (some .int) ∈ wALL := tb_4 (List.mem_of_getElem? (i := 13) rfl) rfl
theorem ml_RX11_105 : Cond.methodLink RX11 105 yX0_countUsersIn ∈ wALL := tb_5 (List.mem_of_getElem? (i := 52) rfl) rfl
theorem im_yX0_countUsersIn : Cond.instanceMethod yX0_countUsersIn ∈ wALL := tb_5 (List.mem_of_getElem? (i := 53) rfl) rfl
theorem se_yX0_countUsersIn : Cond.selects RX0 yX0_countUsersIn yX0_countUsersIn ∈ wALL := tb_5 (List.mem_of_getElem? (i := 54) rfl) rfl
theorem cd_yX0_countUsersIn : Cond.code yX0_countUsersIn cX0_countUsersIn 2 (some .int) ∈ wALL := tb_5 (List.mem_of_getElem? (i := 55) rfl) rfl
theorem ml_RX0_49 : Cond.methodLink RX0 49 yX0_usersIn ∈ wALL := tb_5 (List.mem_of_getElem? (i := 56) rfl) rfl
theorem im_yX0_usersIn : Cond.instanceMethod yX0_usersIn ∈ wALL := tb_2 (List.mem_of_getElem? (i := 160) rfl) rfl
theorem se_yX0_usersIn : Cond.selects RX0 yX0_usersIn yX0_usersIn ∈ wALL := tb_2 (List.mem_of_getElem? (i := 161) rfl) rfl
theorem cd_yX0_usersIn : Cond.code yX0_usersIn cX0_usersIn 5 (some .int) ∈ wALL := tb_2 (List.mem_of_getElem? (i := 162) rfl) rfl
theorem ml_RX0_46 : Cond.methodLink RX0 46 yX0_groupsUnder ∈ wALL := tb_2 (List.mem_of_getElem? (i := 163) rfl) rfl
theorem im_yX0_groupsUnder : Cond.instanceMethod yX0_groupsUnder ∈ wALL := tb_2 (List.mem_of_getElem? (i := 165) rfl) rfl
theorem se_yX0_groupsUnder : Cond.selects RX0 yX0_groupsUnder yX0_groupsUnder ∈ wALL := tp_1 (n := 4) (List.mem_of_getElem? (i := 4) rfl) rfl
theorem cd_yX0_groupsUnder : Cond.code yX0_groupsUnder cX0_groupsUnder 6 (some .int) ∈ wALL := tb_2 (List.mem_of_getElem? (i := 166) rfl) rfl
theorem ml_RX0_52 : Cond.methodLink RX0 52 yJ6_bitCount_0f7a4 ∈ wALL := tb_5 (List.mem_of_getElem? (i := 57) rfl) rfl
theorem st_yJ6_bitCount_0f7a4 : Cond.static yJ6_bitCount_0f7a4 ∈ wALL := tb_2 (List.mem_of_getElem? (i := 188) rfl) rfl
theorem in_RJ6 : Cond.initialized RJ6 ∈ wALL := tb_1 (List.mem_of_getElem? (i := 19) rfl) rfl
theorem cd_yJ6_bitCount_0f7a4 : Cond.code yJ6_bitCount_0f7a4 cJ6_bitCount_0f7a4 1 (some .int) ∈ wALL := tb_2 (List.mem_of_getElem? (i := 189) rfl) rfl
theorem co_RJ6_265 : Cond.constant RJ6 265 (1431655765) ∈ wALL := tb_2 (List.mem_of_getElem? (i := 190) rfl) rfl
theorem co_RJ6_266 : Cond.constant RJ6 266 (858993459) ∈ wALL := tb_2 (List.mem_of_getElem? (i := 191) rfl) rfl
theorem co_RJ6_267 : Cond.constant RJ6 267 (252645135) ∈ wALL := tb_2 (List.mem_of_getElem? (i := 192) rfl) rfl
theorem ml_RL_341 : Cond.methodLink RL 341 yL_leaveOf ∈ wALL := tb_5 (List.mem_of_getElem? (i := 58) rfl) rfl
theorem st_yL_leaveOf : Cond.static yL_leaveOf ∈ wALL := tb_5 (List.mem_of_getElem? (i := 59) rfl) rfl
theorem cw_yL_leaveOf : Cond.codeWith yL_leaveOf cL_leaveOf 4 (some .int) [(0, 6, 7, 24), (0, 6, 11, 15)] ∈ wALL := tb_5 (List.mem_of_getElem? (i := 60) rfl) rfl
theorem ml_RL_26 : Cond.methodLink RL 26 yX11_leave ∈ wALL := tb_5 (List.mem_of_getElem? (i := 61) rfl) rfl
theorem im_yX11_leave : Cond.instanceMethod yX11_leave ∈ wALL := tb_5 (List.mem_of_getElem? (i := 62) rfl) rfl
theorem se_yX11_leave : Cond.selects RX11 yX11_leave yX11_leave ∈ wALL := tb_5 (List.mem_of_getElem? (i := 63) rfl) rfl
theorem cd_yX11_leave : Cond.code yX11_leave cX11_leave 3 (some .int) ∈ wALL := tb_5 (List.mem_of_getElem? (i := 64) rfl) rfl
theorem ml_RL_181 : Cond.methodLink RL 181 yL_belong ∈ wALL := tb_2 (List.mem_of_getElem? (i := 167) rfl) rfl
theorem st_yL_belong : Cond.static yL_belong ∈ wALL := tb_2 (List.mem_of_getElem? (i := 168) rfl) rfl
theorem cd_yL_belong : Cond.code yL_belong cL_belong 5 (some .int) ∈ wALL := tb_2 (List.mem_of_getElem? (i := 169) rfl) rfl
theorem ml_RL_177 : Cond.methodLink RL 177 yL_within ∈ wALL := tb_2 (List.mem_of_getElem? (i := 170) rfl) rfl
theorem st_yL_within : Cond.static yL_within ∈ wALL := tb_2 (List.mem_of_getElem? (i := 171) rfl) rfl
theorem cd_yL_within : Cond.code yL_within cL_within 5 (some .int) ∈ wALL := tb_2 (List.mem_of_getElem? (i := 172) rfl) rfl
theorem ml_RL_299 : Cond.methodLink RL 299 yL_many ∈ wALL := tb_4 (List.mem_of_getElem? (i := 91) rfl) rfl
theorem st_yL_many : Cond.static yL_many ∈ wALL := tb_4 (List.mem_of_getElem? (i := 92) rfl) rfl
theorem cd_yL_many : Cond.code yL_many cL_many 3 (some .int) ∈ wALL := tb_4 (List.mem_of_getElem? (i := 93) rfl) rfl
theorem ml_RL_344 : Cond.methodLink RL 344 yL_nestOf ∈ wALL := tb_5 (List.mem_of_getElem? (i := 66) rfl) rfl
theorem st_yL_nestOf : Cond.static yL_nestOf ∈ wALL := tb_5 (List.mem_of_getElem? (i := 67) rfl) rfl
theorem cw_yL_nestOf : Cond.codeWith yL_nestOf cL_nestOf 4 (some .int) [(0, 6, 7, 24), (0, 6, 11, 15)] ∈ wALL := tb_5 (List.mem_of_getElem? (i := 68) rfl) rfl
theorem ml_RL_29 : Cond.methodLink RL 29 yX11_nest ∈ wALL := tb_5 (List.mem_of_getElem? (i := 69) rfl) rfl
theorem im_yX11_nest : Cond.instanceMethod yX11_nest ∈ wALL := tb_5 (List.mem_of_getElem? (i := 70) rfl) rfl
theorem se_yX11_nest : Cond.selects RX11 yX11_nest yX11_nest ∈ wALL := tb_5 (List.mem_of_getElem? (i := 71) rfl) rfl
theorem cd_yX11_nest : Cond.code yX11_nest cX11_nest 3 (some .int) ∈ wALL := tb_5 (List.mem_of_getElem? (i := 72) rfl) rfl
theorem ml_RX11_111 : Cond.methodLink RX11 111 yX0_hasInner ∈ wALL := tb_2 (List.mem_of_getElem? (i := 132) rfl) rfl
theorem im_yX0_hasInner : Cond.instanceMethod yX0_hasInner ∈ wALL := tb_2 (List.mem_of_getElem? (i := 133) rfl) rfl
theorem se_yX0_hasInner : Cond.selects RX0 yX0_hasInner yX0_hasInner ∈ wALL := tb_2 (List.mem_of_getElem? (i := 134) rfl) rfl
theorem cd_yX0_hasInner : Cond.code yX0_hasInner cX0_hasInner 3 (some .boolean) ∈ wALL := tb_2 (List.mem_of_getElem? (i := 135) rfl) rfl
theorem ml_RX11_114 : Cond.methodLink RX11 114 yX0_isWithin ∈ wALL := tb_5 (List.mem_of_getElem? (i := 73) rfl) rfl
theorem im_yX0_isWithin : Cond.instanceMethod yX0_isWithin ∈ wALL := tb_5 (List.mem_of_getElem? (i := 74) rfl) rfl
theorem se_yX0_isWithin : Cond.selects RX0 yX0_isWithin yX0_isWithin ∈ wALL := tb_5 (List.mem_of_getElem? (i := 75) rfl) rfl
theorem cd_yX0_isWithin : Cond.code yX0_isWithin cX0_isWithin 3 (some .boolean) ∈ wALL := tb_5 (List.mem_of_getElem? (i := 76) rfl) rfl
theorem ml_RX0_42 : Cond.methodLink RX0 42 yX0_climbFrom ∈ wALL := tb_2 (List.mem_of_getElem? (i := 147) rfl) rfl
theorem im_yX0_climbFrom : Cond.instanceMethod yX0_climbFrom ∈ wALL := tb_2 (List.mem_of_getElem? (i := 149) rfl) rfl
theorem se_yX0_climbFrom : Cond.selects RX0 yX0_climbFrom yX0_climbFrom ∈ wALL := tp_1 (n := 4) (List.mem_of_getElem? (i := 3) rfl) rfl
theorem cd_yX0_climbFrom : Cond.code yX0_climbFrom cX0_climbFrom 6 (some .int) ∈ wALL := tb_2 (List.mem_of_getElem? (i := 150) rfl) rfl
theorem ml_RX11_119 : Cond.methodLink RX11 119 yX0_setInner ∈ wALL := tb_5 (List.mem_of_getElem? (i := 78) rfl) rfl
theorem im_yX0_setInner : Cond.instanceMethod yX0_setInner ∈ wALL := tb_5 (List.mem_of_getElem? (i := 79) rfl) rfl
theorem se_yX0_setInner : Cond.selects RX0 yX0_setInner yX0_setInner ∈ wALL := tb_5 (List.mem_of_getElem? (i := 80) rfl) rfl
theorem cd_yX0_setInner : Cond.code yX0_setInner cX0_setInner 4 none ∈ wALL := tb_5 (List.mem_of_getElem? (i := 81) rfl) rfl
theorem ml_RL_347 : Cond.methodLink RL 347 yL_unnestOf ∈ wALL := tb_5 (List.mem_of_getElem? (i := 82) rfl) rfl
theorem st_yL_unnestOf : Cond.static yL_unnestOf ∈ wALL := tb_5 (List.mem_of_getElem? (i := 83) rfl) rfl
theorem cw_yL_unnestOf : Cond.codeWith yL_unnestOf cL_unnestOf 4 (some .int) [(0, 6, 7, 24), (0, 6, 11, 15)] ∈ wALL := tb_5 (List.mem_of_getElem? (i := 84) rfl) rfl
theorem ml_RL_32 : Cond.methodLink RL 32 yX11_unnest ∈ wALL := tb_5 (List.mem_of_getElem? (i := 85) rfl) rfl
theorem im_yX11_unnest : Cond.instanceMethod yX11_unnest ∈ wALL := tb_5 (List.mem_of_getElem? (i := 86) rfl) rfl
theorem se_yX11_unnest : Cond.selects RX11 yX11_unnest yX11_unnest ∈ wALL := tb_5 (List.mem_of_getElem? (i := 87) rfl) rfl
theorem cd_yX11_unnest : Cond.code yX11_unnest cX11_unnest 3 (some .int) ∈ wALL := tb_5 (List.mem_of_getElem? (i := 88) rfl) rfl
theorem ml_RL_404 : Cond.methodLink RL 404 yL_ofObjects ∈ wALL := tb_5 (List.mem_of_getElem? (i := 90) rfl) rfl
theorem st_yL_ofObjects : Cond.static yL_ofObjects ∈ wALL := tb_5 (List.mem_of_getElem? (i := 91) rfl) rfl
theorem cd_yL_ofObjects : Cond.code yL_ofObjects cL_ofObjects 11 (some .boolean) ∈ wALL := tb_5 (List.mem_of_getElem? (i := 92) rfl) rfl
theorem ml_RL_350 : Cond.methodLink RL 350 yL_makeOf ∈ wALL := tb_5 (List.mem_of_getElem? (i := 93) rfl) rfl
theorem st_yL_makeOf : Cond.static yL_makeOf ∈ wALL := tb_5 (List.mem_of_getElem? (i := 94) rfl) rfl
theorem cw_yL_makeOf : Cond.codeWith yL_makeOf cL_makeOf 4 (some .int) [(0, 6, 7, 24), (0, 6, 11, 15)] ∈ wALL := tb_5 (List.mem_of_getElem? (i := 95) rfl) rfl
theorem ml_RL_35 : Cond.methodLink RL 35 yX11_make ∈ wALL := tb_5 (List.mem_of_getElem? (i := 96) rfl) rfl
theorem im_yX11_make : Cond.instanceMethod yX11_make ∈ wALL := tb_5 (List.mem_of_getElem? (i := 97) rfl) rfl
theorem se_yX11_make : Cond.selects RX11 yX11_make yX11_make ∈ wALL := tb_5 (List.mem_of_getElem? (i := 98) rfl) rfl
theorem cd_yX11_make : Cond.code yX11_make cX11_make 4 (some .int) ∈ wALL := tb_5 (List.mem_of_getElem? (i := 99) rfl) rfl
theorem fl_RX11_127 : Cond.fieldLink RX11 127 "PermissionDesk$State" "tree" "LPermissionDesk$Tree;" ∈ wALL := tb_1 (List.mem_of_getElem? (i := 126) rfl) rfl
theorem ml_RX11_124 : Cond.methodLink RX11 124 yX11_requireObject ∈ wALL := tb_2 (List.mem_of_getElem? (i := 208) rfl) rfl
theorem im_yX11_requireObject : Cond.instanceMethod yX11_requireObject ∈ wALL := tb_2 (List.mem_of_getElem? (i := 210) rfl) rfl
theorem se_yX11_requireObject : Cond.selects RX11 yX11_requireObject yX11_requireObject ∈ wALL := tp_1 (n := 7) (List.mem_of_getElem? (i := 5) rfl) rfl
theorem cd_yX11_requireObject : Cond.code yX11_requireObject cX11_requireObject 2 none ∈ wALL := tb_2 (List.mem_of_getElem? (i := 211) rfl) rfl
theorem ml_RX11_308 : Cond.methodLink RX11 308 yX10_holds ∈ wALL := tb_2 (List.mem_of_getElem? (i := 197) rfl) rfl
theorem im_yX10_holds : Cond.instanceMethod yX10_holds ∈ wALL := tb_2 (List.mem_of_getElem? (i := 198) rfl) rfl
theorem se_yX10_holds : Cond.selects RX10 yX10_holds yX10_holds ∈ wALL := tb_2 (List.mem_of_getElem? (i := 199) rfl) rfl
theorem cd_yX10_holds : Cond.code yX10_holds cX10_holds 2 (some .boolean) ∈ wALL := tb_2 (List.mem_of_getElem? (i := 200) rfl) rfl
theorem ml_RX11_131 : Cond.methodLink RX11 131 yX10_lowestFree ∈ wALL := tb_5 (List.mem_of_getElem? (i := 100) rfl) rfl
theorem im_yX10_lowestFree : Cond.instanceMethod yX10_lowestFree ∈ wALL := tb_5 (List.mem_of_getElem? (i := 101) rfl) rfl
theorem se_yX10_lowestFree : Cond.selects RX10 yX10_lowestFree yX10_lowestFree ∈ wALL := tb_5 (List.mem_of_getElem? (i := 102) rfl) rfl
theorem cd_yX10_lowestFree : Cond.code yX10_lowestFree cX10_lowestFree 2 (some .int) ∈ wALL := tb_5 (List.mem_of_getElem? (i := 103) rfl) rfl
theorem ml_RX11_138 : Cond.methodLink RX11 138 yX10_putObject ∈ wALL := tb_5 (List.mem_of_getElem? (i := 105) rfl) rfl
theorem im_yX10_putObject : Cond.instanceMethod yX10_putObject ∈ wALL := tb_5 (List.mem_of_getElem? (i := 106) rfl) rfl
theorem se_yX10_putObject : Cond.selects RX10 yX10_putObject yX10_putObject ∈ wALL := tb_5 (List.mem_of_getElem? (i := 107) rfl) rfl
theorem cd_yX10_putObject : Cond.code yX10_putObject cX10_putObject 4 none ∈ wALL := tb_5 (List.mem_of_getElem? (i := 108) rfl) rfl
theorem ml_RX10_48 : Cond.methodLink RX10 48 yX10_setParent ∈ wALL := tb_5 (List.mem_of_getElem? (i := 110) rfl) rfl
theorem im_yX10_setParent : Cond.instanceMethod yX10_setParent ∈ wALL := tb_5 (List.mem_of_getElem? (i := 111) rfl) rfl
theorem se_yX10_setParent : Cond.selects RX10 yX10_setParent yX10_setParent ∈ wALL := tb_5 (List.mem_of_getElem? (i := 112) rfl) rfl
theorem cd_yX10_setParent : Cond.code yX10_setParent cX10_setParent 3 none ∈ wALL := tb_5 (List.mem_of_getElem? (i := 113) rfl) rfl
theorem ml_RX10_52 : Cond.methodLink RX10 52 yX10_setOwner ∈ wALL := tb_5 (List.mem_of_getElem? (i := 115) rfl) rfl
theorem im_yX10_setOwner : Cond.instanceMethod yX10_setOwner ∈ wALL := tb_5 (List.mem_of_getElem? (i := 116) rfl) rfl
theorem se_yX10_setOwner : Cond.selects RX10 yX10_setOwner yX10_setOwner ∈ wALL := tb_5 (List.mem_of_getElem? (i := 117) rfl) rfl
theorem cd_yX10_setOwner : Cond.code yX10_setOwner cX10_setOwner 3 none ∈ wALL := tb_5 (List.mem_of_getElem? (i := 118) rfl) rfl
theorem ml_RX10_55 : Cond.methodLink RX10 55 yX10_limitTo ∈ wALL := tb_5 (List.mem_of_getElem? (i := 119) rfl) rfl
theorem im_yX10_limitTo : Cond.instanceMethod yX10_limitTo ∈ wALL := tb_5 (List.mem_of_getElem? (i := 120) rfl) rfl
theorem se_yX10_limitTo : Cond.selects RX10 yX10_limitTo yX10_limitTo ∈ wALL := tb_5 (List.mem_of_getElem? (i := 121) rfl) rfl
theorem cd_yX10_limitTo : Cond.code yX10_limitTo cX10_limitTo 3 none ∈ wALL := tb_5 (List.mem_of_getElem? (i := 122) rfl) rfl
theorem ml_RX10_58 : Cond.methodLink RX10 58 yX10_letInherit ∈ wALL := tb_5 (List.mem_of_getElem? (i := 123) rfl) rfl
theorem im_yX10_letInherit : Cond.instanceMethod yX10_letInherit ∈ wALL := tb_5 (List.mem_of_getElem? (i := 124) rfl) rfl
theorem se_yX10_letInherit : Cond.selects RX10 yX10_letInherit yX10_letInherit ∈ wALL := tb_5 (List.mem_of_getElem? (i := 125) rfl) rfl
theorem cd_yX10_letInherit : Cond.code yX10_letInherit cX10_letInherit 3 none ∈ wALL := tb_5 (List.mem_of_getElem? (i := 126) rfl) rfl
theorem ml_RL_353 : Cond.methodLink RL 353 yL_removeOf ∈ wALL := tb_5 (List.mem_of_getElem? (i := 127) rfl) rfl
theorem st_yL_removeOf : Cond.static yL_removeOf ∈ wALL := tb_5 (List.mem_of_getElem? (i := 128) rfl) rfl
theorem cw_yL_removeOf : Cond.codeWith yL_removeOf cL_removeOf 3 (some .int) [(0, 5, 6, 24), (0, 5, 10, 15)] ∈ wALL := tb_5 (List.mem_of_getElem? (i := 129) rfl) rfl
theorem ml_RL_38 : Cond.methodLink RL 38 yX11_remove ∈ wALL := tb_5 (List.mem_of_getElem? (i := 130) rfl) rfl
theorem im_yX11_remove : Cond.instanceMethod yX11_remove ∈ wALL := tb_5 (List.mem_of_getElem? (i := 131) rfl) rfl
theorem se_yX11_remove : Cond.selects RX11 yX11_remove yX11_remove ∈ wALL := tb_5 (List.mem_of_getElem? (i := 132) rfl) rfl
theorem cd_yX11_remove : Cond.code yX11_remove cX11_remove 2 (some .int) ∈ wALL := tb_5 (List.mem_of_getElem? (i := 133) rfl) rfl
theorem fl_RX11_150 : Cond.fieldLink RX11 150 "PermissionDesk$State" "lists" "LPermissionDesk$Lists;" ∈ wALL := tb_1 (List.mem_of_getElem? (i := 129) rfl) rfl
theorem ml_RX11_142 : Cond.methodLink RX11 142 yX10_countUnder ∈ wALL := tb_3 (List.mem_of_getElem? (i := 34) rfl) rfl
theorem im_yX10_countUnder : Cond.instanceMethod yX10_countUnder ∈ wALL := tb_3 (List.mem_of_getElem? (i := 35) rfl) rfl
theorem se_yX10_countUnder : Cond.selects RX10 yX10_countUnder yX10_countUnder ∈ wALL := tb_3 (List.mem_of_getElem? (i := 36) rfl) rfl
theorem cd_yX10_countUnder : Cond.code yX10_countUnder cX10_countUnder 4 (some .int) ∈ wALL := tb_3 (List.mem_of_getElem? (i := 37) rfl) rfl
theorem ml_RX10_75 : Cond.methodLink RX10 75 yX10_isUnder ∈ wALL := tb_3 (List.mem_of_getElem? (i := 38) rfl) rfl
theorem im_yX10_isUnder : Cond.instanceMethod yX10_isUnder ∈ wALL := tb_3 (List.mem_of_getElem? (i := 39) rfl) rfl
theorem se_yX10_isUnder : Cond.selects RX10 yX10_isUnder yX10_isUnder ∈ wALL := tb_3 (List.mem_of_getElem? (i := 40) rfl) rfl
theorem cd_yX10_isUnder : Cond.code yX10_isUnder cX10_isUnder 5 (some .boolean) ∈ wALL := tb_3 (List.mem_of_getElem? (i := 41) rfl) rfl
theorem ml_RX10_72 : Cond.methodLink RX10 72 yX10_parentAt ∈ wALL := tb_3 (List.mem_of_getElem? (i := 42) rfl) rfl
theorem im_yX10_parentAt : Cond.instanceMethod yX10_parentAt ∈ wALL := tb_2 (List.mem_of_getElem? (i := 214) rfl) rfl
theorem se_yX10_parentAt : Cond.selects RX10 yX10_parentAt yX10_parentAt ∈ wALL := tb_2 (List.mem_of_getElem? (i := 215) rfl) rfl
theorem cd_yX10_parentAt : Cond.code yX10_parentAt cX10_parentAt 2 (some .int) ∈ wALL := tb_2 (List.mem_of_getElem? (i := 216) rfl) rfl
theorem ml_RX10_62 : Cond.methodLink RX10 62 yX10_holds ∈ wALL := tb_2 (List.mem_of_getElem? (i := 217) rfl) rfl
theorem ml_RX11_147 : Cond.methodLink RX11 147 yX10_dropObject ∈ wALL := tb_5 (List.mem_of_getElem? (i := 135) rfl) rfl
theorem im_yX10_dropObject : Cond.instanceMethod yX10_dropObject ∈ wALL := tb_5 (List.mem_of_getElem? (i := 136) rfl) rfl
theorem se_yX10_dropObject : Cond.selects RX10 yX10_dropObject yX10_dropObject ∈ wALL := tb_5 (List.mem_of_getElem? (i := 137) rfl) rfl
theorem cd_yX10_dropObject : Cond.code yX10_dropObject cX10_dropObject 2 none ∈ wALL := tb_5 (List.mem_of_getElem? (i := 138) rfl) rfl
theorem ml_RX11_154 : Cond.methodLink RX11 154 yX6_empty ∈ wALL := tb_5 (List.mem_of_getElem? (i := 139) rfl) rfl
theorem im_yX6_empty : Cond.instanceMethod yX6_empty ∈ wALL := tb_5 (List.mem_of_getElem? (i := 140) rfl) rfl
theorem se_yX6_empty : Cond.selects RX6 yX6_empty yX6_empty ∈ wALL := tb_5 (List.mem_of_getElem? (i := 141) rfl) rfl
theorem cd_yX6_empty : Cond.code yX6_empty cX6_empty 2 none ∈ wALL := tb_5 (List.mem_of_getElem? (i := 142) rfl) rfl
theorem ml_RX11_159 : Cond.methodLink RX11 159 yX10_count ∈ wALL := tb_2 (List.mem_of_getElem? (i := 183) rfl) rfl
theorem im_yX10_count : Cond.instanceMethod yX10_count ∈ wALL := tb_2 (List.mem_of_getElem? (i := 184) rfl) rfl
theorem se_yX10_count : Cond.selects RX10 yX10_count yX10_count ∈ wALL := tb_2 (List.mem_of_getElem? (i := 185) rfl) rfl
theorem cd_yX10_count : Cond.code yX10_count cX10_count 1 (some .int) ∈ wALL := tb_2 (List.mem_of_getElem? (i := 186) rfl) rfl
theorem ml_RX10_34 : Cond.methodLink RX10 34 yJ6_bitCount_0f7a4 ∈ wALL := tb_2 (List.mem_of_getElem? (i := 187) rfl) rfl
theorem ml_RL_234 : Cond.methodLink RL 234 yL_isUnder ∈ wALL := tb_2 (List.mem_of_getElem? (i := 230) rfl) rfl
theorem st_yL_isUnder : Cond.static yL_isUnder ∈ wALL := tb_2 (List.mem_of_getElem? (i := 231) rfl) rfl
theorem cd_yL_isUnder : Cond.code yL_isUnder cL_isUnder 4 (some .boolean) ∈ wALL := tb_2 (List.mem_of_getElem? (i := 232) rfl) rfl
theorem ml_RL_356 : Cond.methodLink RL 356 yL_moveOf ∈ wALL := tb_5 (List.mem_of_getElem? (i := 143) rfl) rfl
theorem st_yL_moveOf : Cond.static yL_moveOf ∈ wALL := tb_5 (List.mem_of_getElem? (i := 144) rfl) rfl
theorem cw_yL_moveOf : Cond.codeWith yL_moveOf cL_moveOf 4 (some .int) [(0, 6, 7, 24), (0, 6, 11, 15)] ∈ wALL := tb_5 (List.mem_of_getElem? (i := 145) rfl) rfl
theorem ml_RL_42 : Cond.methodLink RL 42 yX11_move ∈ wALL := tb_5 (List.mem_of_getElem? (i := 146) rfl) rfl
theorem im_yX11_move : Cond.instanceMethod yX11_move ∈ wALL := tb_5 (List.mem_of_getElem? (i := 147) rfl) rfl
theorem se_yX11_move : Cond.selects RX11 yX11_move yX11_move ∈ wALL := tb_5 (List.mem_of_getElem? (i := 148) rfl) rfl
theorem cd_yX11_move : Cond.code yX11_move cX11_move 4 (some .int) ∈ wALL := tb_5 (List.mem_of_getElem? (i := 149) rfl) rfl
theorem ml_RX11_162 : Cond.methodLink RX11 162 yX10_isUnder ∈ wALL := tb_5 (List.mem_of_getElem? (i := 150) rfl) rfl
theorem ml_RX11_167 : Cond.methodLink RX11 167 yX10_parentAt ∈ wALL := tb_2 (List.mem_of_getElem? (i := 213) rfl) rfl
theorem ml_RX11_170 : Cond.methodLink RX11 170 yX10_setParent ∈ wALL := tb_5 (List.mem_of_getElem? (i := 152) rfl) rfl
theorem ml_RL_359 : Cond.methodLink RL 359 yL_giveToOf ∈ wALL := tb_5 (List.mem_of_getElem? (i := 153) rfl) rfl
theorem st_yL_giveToOf : Cond.static yL_giveToOf ∈ wALL := tb_5 (List.mem_of_getElem? (i := 154) rfl) rfl
theorem cw_yL_giveToOf : Cond.codeWith yL_giveToOf cL_giveToOf 4 (some .int) [(0, 6, 7, 24)] ∈ wALL := tb_5 (List.mem_of_getElem? (i := 155) rfl) rfl
theorem ml_RL_45 : Cond.methodLink RL 45 yX11_giveTo ∈ wALL := tb_5 (List.mem_of_getElem? (i := 156) rfl) rfl
theorem im_yX11_giveTo : Cond.instanceMethod yX11_giveTo ∈ wALL := tb_5 (List.mem_of_getElem? (i := 157) rfl) rfl
theorem se_yX11_giveTo : Cond.selects RX11 yX11_giveTo yX11_giveTo ∈ wALL := tb_5 (List.mem_of_getElem? (i := 158) rfl) rfl
theorem cd_yX11_giveTo : Cond.code yX11_giveTo cX11_giveTo 4 (some .int) ∈ wALL := tb_5 (List.mem_of_getElem? (i := 159) rfl) rfl
theorem ml_RX11_174 : Cond.methodLink RX11 174 yX10_ownerAt ∈ wALL := tb_3 (List.mem_of_getElem? (i := 0) rfl) rfl
theorem im_yX10_ownerAt : Cond.instanceMethod yX10_ownerAt ∈ wALL := tb_3 (List.mem_of_getElem? (i := 1) rfl) rfl
theorem se_yX10_ownerAt : Cond.selects RX10 yX10_ownerAt yX10_ownerAt ∈ wALL := tb_3 (List.mem_of_getElem? (i := 2) rfl) rfl
theorem cd_yX10_ownerAt : Cond.code yX10_ownerAt cX10_ownerAt 2 (some .int) ∈ wALL := tb_3 (List.mem_of_getElem? (i := 3) rfl) rfl
theorem ml_RX11_177 : Cond.methodLink RX11 177 yX10_setOwner ∈ wALL := tb_5 (List.mem_of_getElem? (i := 160) rfl) rfl
theorem ml_RL_362 : Cond.methodLink RL 362 yL_setMaskOf ∈ wALL := tb_5 (List.mem_of_getElem? (i := 161) rfl) rfl
theorem st_yL_setMaskOf : Cond.static yL_setMaskOf ∈ wALL := tb_5 (List.mem_of_getElem? (i := 162) rfl) rfl
theorem cw_yL_setMaskOf : Cond.codeWith yL_setMaskOf cL_setMaskOf 4 (some .int) [(0, 6, 7, 24), (0, 6, 11, 51)] ∈ wALL := tb_5 (List.mem_of_getElem? (i := 163) rfl) rfl
theorem cl_RL_51 : Cond.classLink RL 51 "java/lang/IllegalArgumentException" ∈ wALL := tb_3 (List.mem_of_getElem? (i := 116) rfl) rfl
theorem ml_RL_48 : Cond.methodLink RL 48 yX11_setMask ∈ wALL := tb_5 (List.mem_of_getElem? (i := 164) rfl) rfl
theorem im_yX11_setMask : Cond.instanceMethod yX11_setMask ∈ wALL := tb_5 (List.mem_of_getElem? (i := 165) rfl) rfl
theorem se_yX11_setMask : Cond.selects RX11 yX11_setMask yX11_setMask ∈ wALL := tb_5 (List.mem_of_getElem? (i := 166) rfl) rfl
theorem cd_yX11_setMask : Cond.code yX11_setMask cX11_setMask 4 (some .int) ∈ wALL := tb_5 (List.mem_of_getElem? (i := 167) rfl) rfl
theorem ml_RX11_180 : Cond.methodLink RX11 180 yX11_requireRights ∈ wALL := tb_5 (List.mem_of_getElem? (i := 168) rfl) rfl
theorem im_yX11_requireRights : Cond.instanceMethod yX11_requireRights ∈ wALL := tb_5 (List.mem_of_getElem? (i := 170) rfl) rfl
theorem se_yX11_requireRights : Cond.selects RX11 yX11_requireRights yX11_requireRights ∈ wALL := tp_2 (n := 7) (List.mem_of_getElem? (i := 5) rfl) rfl
theorem cd_yX11_requireRights : Cond.code yX11_requireRights cX11_requireRights 3 none ∈ wALL := tb_5 (List.mem_of_getElem? (i := 171) rfl) rfl
theorem cl_RX11_252 : Cond.classLink RX11 252 "java/lang/IllegalArgumentException" ∈ wALL := tb_3 (List.mem_of_getElem? (i := 125) rfl) rfl
theorem in_java_lang_IllegalArgumentException : Cond.initialized "java/lang/IllegalArgumentException" ∈ wALL := tb_1 (List.mem_of_getElem? (i := 20) rfl) rfl
theorem ml_RX11_183 : Cond.methodLink RX11 183 yX10_maskAt ∈ wALL := tb_3 (List.mem_of_getElem? (i := 11) rfl) rfl
theorem im_yX10_maskAt : Cond.instanceMethod yX10_maskAt ∈ wALL := tb_3 (List.mem_of_getElem? (i := 12) rfl) rfl
theorem se_yX10_maskAt : Cond.selects RX10 yX10_maskAt yX10_maskAt ∈ wALL := tb_3 (List.mem_of_getElem? (i := 13) rfl) rfl
theorem cd_yX10_maskAt : Cond.code yX10_maskAt cX10_maskAt 2 (some .int) ∈ wALL := tb_3 (List.mem_of_getElem? (i := 14) rfl) rfl
theorem ml_RX11_186 : Cond.methodLink RX11 186 yX10_limitTo ∈ wALL := tb_5 (List.mem_of_getElem? (i := 173) rfl) rfl
theorem ml_RL_365 : Cond.methodLink RL 365 yL_setInheritingOf ∈ wALL := tb_5 (List.mem_of_getElem? (i := 174) rfl) rfl
theorem st_yL_setInheritingOf : Cond.static yL_setInheritingOf ∈ wALL := tb_5 (List.mem_of_getElem? (i := 175) rfl) rfl
theorem cw_yL_setInheritingOf : Cond.codeWith yL_setInheritingOf cL_setInheritingOf 4 (some .int) [(0, 14, 15, 24)] ∈ wALL := tb_5 (List.mem_of_getElem? (i := 176) rfl) rfl
theorem ml_RL_53 : Cond.methodLink RL 53 yX11_setInheriting ∈ wALL := tb_5 (List.mem_of_getElem? (i := 177) rfl) rfl
theorem im_yX11_setInheriting : Cond.instanceMethod yX11_setInheriting ∈ wALL := tb_5 (List.mem_of_getElem? (i := 178) rfl) rfl
theorem se_yX11_setInheriting : Cond.selects RX11 yX11_setInheriting yX11_setInheriting ∈ wALL := tb_5 (List.mem_of_getElem? (i := 179) rfl) rfl
theorem cd_yX11_setInheriting : Cond.code yX11_setInheriting cX11_setInheriting 4 (some .boolean) ∈ wALL := tb_5 (List.mem_of_getElem? (i := 180) rfl) rfl
theorem ml_RX11_189 : Cond.methodLink RX11 189 yX10_inherits ∈ wALL := tb_3 (List.mem_of_getElem? (i := 22) rfl) rfl
theorem im_yX10_inherits : Cond.instanceMethod yX10_inherits ∈ wALL := tb_3 (List.mem_of_getElem? (i := 23) rfl) rfl
theorem se_yX10_inherits : Cond.selects RX10 yX10_inherits yX10_inherits ∈ wALL := tb_3 (List.mem_of_getElem? (i := 24) rfl) rfl
theorem cd_yX10_inherits : Cond.code yX10_inherits cX10_inherits 2 (some .boolean) ∈ wALL := tb_3 (List.mem_of_getElem? (i := 25) rfl) rfl
theorem ml_RX11_193 : Cond.methodLink RX11 193 yX10_letInherit ∈ wALL := tb_5 (List.mem_of_getElem? (i := 181) rfl) rfl
theorem ml_RL_407 : Cond.methodLink RL 407 yL_ofEntries ∈ wALL := tb_5 (List.mem_of_getElem? (i := 182) rfl) rfl
theorem st_yL_ofEntries : Cond.static yL_ofEntries ∈ wALL := tb_5 (List.mem_of_getElem? (i := 183) rfl) rfl
theorem cd_yL_ofEntries : Cond.code yL_ofEntries cL_ofEntries 21 (some .boolean) ∈ wALL := tb_5 (List.mem_of_getElem? (i := 184) rfl) rfl
theorem ac__long : Cond.arrayClass .long ∈ wALL := tb_4 (List.mem_of_getElem? (i := 106) rfl) rfl
theorem ml_RL_369 : Cond.methodLink RL 369 yL_addForUserOf ∈ wALL := tb_5 (List.mem_of_getElem? (i := 185) rfl) rfl
theorem st_yL_addForUserOf : Cond.static yL_addForUserOf ∈ wALL := tb_5 (List.mem_of_getElem? (i := 186) rfl) rfl
theorem cw_yL_addForUserOf : Cond.codeWith yL_addForUserOf cL_addForUserOf 7 (some .int) [(0, 11, 12, 24), (0, 11, 17, 51), (0, 11, 22, 15)] ∈ wALL := tb_5 (List.mem_of_getElem? (i := 187) rfl) rfl
theorem ml_RL_57 : Cond.methodLink RL 57 yX11_addForUser ∈ wALL := tb_5 (List.mem_of_getElem? (i := 188) rfl) rfl
theorem im_yX11_addForUser : Cond.instanceMethod yX11_addForUser ∈ wALL := tb_5 (List.mem_of_getElem? (i := 189) rfl) rfl
theorem se_yX11_addForUser : Cond.selects RX11 yX11_addForUser yX11_addForUser ∈ wALL := tb_5 (List.mem_of_getElem? (i := 190) rfl) rfl
theorem cd_yX11_addForUser : Cond.code yX11_addForUser cX11_addForUser 6 (some .int) ∈ wALL := tb_5 (List.mem_of_getElem? (i := 191) rfl) rfl
theorem ml_RX11_199 : Cond.methodLink RX11 199 yX11_addLast ∈ wALL := tb_5 (List.mem_of_getElem? (i := 192) rfl) rfl
theorem im_yX11_addLast : Cond.instanceMethod yX11_addLast ∈ wALL := tb_5 (List.mem_of_getElem? (i := 194) rfl) rfl
theorem se_yX11_addLast : Cond.selects RX11 yX11_addLast yX11_addLast ∈ wALL := tp_2 (n := 7) (List.mem_of_getElem? (i := 6) rfl) rfl
theorem cd_yX11_addLast : Cond.code yX11_addLast cX11_addLast 8 (some .int) ∈ wALL := tb_5 (List.mem_of_getElem? (i := 195) rfl) rfl
theorem ml_RX11_245 : Cond.methodLink RX11 245 yX11_requireRoom ∈ wALL := tb_5 (List.mem_of_getElem? (i := 196) rfl) rfl
theorem im_yX11_requireRoom : Cond.instanceMethod yX11_requireRoom ∈ wALL := tb_5 (List.mem_of_getElem? (i := 198) rfl) rfl
theorem se_yX11_requireRoom : Cond.selects RX11 yX11_requireRoom yX11_requireRoom ∈ wALL := tp_2 (n := 7) (List.mem_of_getElem? (i := 7) rfl) rfl
theorem cd_yX11_requireRoom : Cond.code yX11_requireRoom cX11_requireRoom 2 none ∈ wALL := tb_5 (List.mem_of_getElem? (i := 199) rfl) rfl
theorem ml_RX11_210 : Cond.methodLink RX11 210 yX6_countAt ∈ wALL := tb_2 (List.mem_of_getElem? (i := 225) rfl) rfl
theorem im_yX6_countAt : Cond.instanceMethod yX6_countAt ∈ wALL := tb_2 (List.mem_of_getElem? (i := 226) rfl) rfl
theorem se_yX6_countAt : Cond.selects RX6 yX6_countAt yX6_countAt ∈ wALL := tb_2 (List.mem_of_getElem? (i := 227) rfl) rfl
theorem cd_yX6_countAt : Cond.code yX6_countAt cX6_countAt 2 (some .int) ∈ wALL := tb_2 (List.mem_of_getElem? (i := 228) rfl) rfl
theorem ml_RX11_248 : Cond.methodLink RX11 248 yX1_code ∈ wALL := tb_5 (List.mem_of_getElem? (i := 201) rfl) rfl
theorem st_yX1_code : Cond.static yX1_code ∈ wALL := tb_5 (List.mem_of_getElem? (i := 202) rfl) rfl
theorem in_RX1 : Cond.initialized RX1 ∈ wALL := tb_1 (List.mem_of_getElem? (i := 21) rfl) rfl
theorem cd_yX1_code : Cond.code yX1_code cX1_code 6 (some .int) ∈ wALL := tb_5 (List.mem_of_getElem? (i := 203) rfl) rfl
theorem ml_RX11_216 : Cond.methodLink RX11 216 yX6_putIn ∈ wALL := tb_4 (List.mem_of_getElem? (i := 134) rfl) rfl
theorem im_yX6_putIn : Cond.instanceMethod yX6_putIn ∈ wALL := tb_4 (List.mem_of_getElem? (i := 135) rfl) rfl
theorem se_yX6_putIn : Cond.selects RX6 yX6_putIn yX6_putIn ∈ wALL := tb_4 (List.mem_of_getElem? (i := 136) rfl) rfl
theorem cd_yX6_putIn : Cond.code yX6_putIn cX6_putIn 5 none ∈ wALL := tb_4 (List.mem_of_getElem? (i := 137) rfl) rfl
theorem ml_RX6_28 : Cond.methodLink RX6 28 yX6_entryAt ∈ wALL := tb_4 (List.mem_of_getElem? (i := 125) rfl) rfl
theorem im_yX6_entryAt : Cond.instanceMethod yX6_entryAt ∈ wALL := tb_3 (List.mem_of_getElem? (i := 57) rfl) rfl
theorem se_yX6_entryAt : Cond.selects RX6 yX6_entryAt yX6_entryAt ∈ wALL := tb_3 (List.mem_of_getElem? (i := 58) rfl) rfl
theorem cd_yX6_entryAt : Cond.code yX6_entryAt cX6_entryAt 3 (some .int) ∈ wALL := tb_3 (List.mem_of_getElem? (i := 59) rfl) rfl
theorem ml_RX6_32 : Cond.methodLink RX6 32 yX6_setEntry ∈ wALL := tb_4 (List.mem_of_getElem? (i := 126) rfl) rfl
theorem im_yX6_setEntry : Cond.instanceMethod yX6_setEntry ∈ wALL := tb_4 (List.mem_of_getElem? (i := 128) rfl) rfl
theorem se_yX6_setEntry : Cond.selects RX6 yX6_setEntry yX6_setEntry ∈ wALL := tp_2 (n := 2) (List.mem_of_getElem? (i := 2) rfl) rfl
theorem cd_yX6_setEntry : Cond.code yX6_setEntry cX6_setEntry 4 none ∈ wALL := tb_4 (List.mem_of_getElem? (i := 129) rfl) rfl
theorem ml_RL_373 : Cond.methodLink RL 373 yL_addForGroupOf ∈ wALL := tb_5 (List.mem_of_getElem? (i := 204) rfl) rfl
theorem st_yL_addForGroupOf : Cond.static yL_addForGroupOf ∈ wALL := tb_5 (List.mem_of_getElem? (i := 205) rfl) rfl
theorem cw_yL_addForGroupOf : Cond.codeWith yL_addForGroupOf cL_addForGroupOf 7 (some .int) [(0, 11, 12, 24), (0, 11, 17, 51), (0, 11, 22, 15)] ∈ wALL := tb_5 (List.mem_of_getElem? (i := 206) rfl) rfl
theorem ml_RL_61 : Cond.methodLink RL 61 yX11_addForGroup ∈ wALL := tb_5 (List.mem_of_getElem? (i := 207) rfl) rfl
theorem im_yX11_addForGroup : Cond.instanceMethod yX11_addForGroup ∈ wALL := tb_5 (List.mem_of_getElem? (i := 208) rfl) rfl
theorem se_yX11_addForGroup : Cond.selects RX11 yX11_addForGroup yX11_addForGroup ∈ wALL := tb_5 (List.mem_of_getElem? (i := 209) rfl) rfl
theorem cd_yX11_addForGroup : Cond.code yX11_addForGroup cX11_addForGroup 6 (some .int) ∈ wALL := tb_5 (List.mem_of_getElem? (i := 210) rfl) rfl
theorem ml_RL_376 : Cond.methodLink RL 376 yL_addForOwnerOf ∈ wALL := tb_5 (List.mem_of_getElem? (i := 211) rfl) rfl
theorem st_yL_addForOwnerOf : Cond.static yL_addForOwnerOf ∈ wALL := tb_5 (List.mem_of_getElem? (i := 212) rfl) rfl
theorem cw_yL_addForOwnerOf : Cond.codeWith yL_addForOwnerOf cL_addForOwnerOf 6 (some .int) [(0, 9, 10, 24), (0, 9, 15, 51), (0, 9, 20, 15)] ∈ wALL := tb_5 (List.mem_of_getElem? (i := 213) rfl) rfl
theorem ml_RL_64 : Cond.methodLink RL 64 yX11_addForOwner ∈ wALL := tb_5 (List.mem_of_getElem? (i := 214) rfl) rfl
theorem im_yX11_addForOwner : Cond.instanceMethod yX11_addForOwner ∈ wALL := tb_5 (List.mem_of_getElem? (i := 215) rfl) rfl
theorem se_yX11_addForOwner : Cond.selects RX11 yX11_addForOwner yX11_addForOwner ∈ wALL := tb_5 (List.mem_of_getElem? (i := 216) rfl) rfl
theorem cd_yX11_addForOwner : Cond.code yX11_addForOwner cX11_addForOwner 5 (some .int) ∈ wALL := tb_5 (List.mem_of_getElem? (i := 217) rfl) rfl
theorem ml_RL_380 : Cond.methodLink RL 380 yL_addForAllOf ∈ wALL := tb_5 (List.mem_of_getElem? (i := 218) rfl) rfl
theorem st_yL_addForAllOf : Cond.static yL_addForAllOf ∈ wALL := tb_5 (List.mem_of_getElem? (i := 219) rfl) rfl
theorem cw_yL_addForAllOf : Cond.codeWith yL_addForAllOf cL_addForAllOf 6 (some .int) [(0, 9, 10, 24), (0, 9, 15, 51), (0, 9, 20, 15)] ∈ wALL := tb_5 (List.mem_of_getElem? (i := 220) rfl) rfl
theorem ml_RL_68 : Cond.methodLink RL 68 yX11_addForAll ∈ wALL := tb_5 (List.mem_of_getElem? (i := 221) rfl) rfl
theorem im_yX11_addForAll : Cond.instanceMethod yX11_addForAll ∈ wALL := tb_5 (List.mem_of_getElem? (i := 222) rfl) rfl
theorem se_yX11_addForAll : Cond.selects RX11 yX11_addForAll yX11_addForAll ∈ wALL := tb_5 (List.mem_of_getElem? (i := 223) rfl) rfl
theorem cd_yX11_addForAll : Cond.code yX11_addForAll cX11_addForAll 5 (some .int) ∈ wALL := tb_5 (List.mem_of_getElem? (i := 224) rfl) rfl
theorem ml_RL_383 : Cond.methodLink RL 383 yL_removeEntryOf ∈ wALL := tb_5 (List.mem_of_getElem? (i := 225) rfl) rfl
theorem st_yL_removeEntryOf : Cond.static yL_removeEntryOf ∈ wALL := tb_5 (List.mem_of_getElem? (i := 226) rfl) rfl
theorem cw_yL_removeEntryOf : Cond.codeWith yL_removeEntryOf cL_removeEntryOf 4 (some .int) [(0, 6, 7, 24)] ∈ wALL := tb_5 (List.mem_of_getElem? (i := 227) rfl) rfl
theorem ml_RL_71 : Cond.methodLink RL 71 yX11_removeEntry ∈ wALL := tb_5 (List.mem_of_getElem? (i := 228) rfl) rfl
theorem im_yX11_removeEntry : Cond.instanceMethod yX11_removeEntry ∈ wALL := tb_5 (List.mem_of_getElem? (i := 229) rfl) rfl
theorem se_yX11_removeEntry : Cond.selects RX11 yX11_removeEntry yX11_removeEntry ∈ wALL := tb_5 (List.mem_of_getElem? (i := 230) rfl) rfl
theorem cd_yX11_removeEntry : Cond.code yX11_removeEntry cX11_removeEntry 3 (some .int) ∈ wALL := tb_5 (List.mem_of_getElem? (i := 231) rfl) rfl
theorem ml_RX11_203 : Cond.methodLink RX11 203 yX11_requireEntry ∈ wALL := tb_3 (List.mem_of_getElem? (i := 50) rfl) rfl
theorem im_yX11_requireEntry : Cond.instanceMethod yX11_requireEntry ∈ wALL := tb_3 (List.mem_of_getElem? (i := 52) rfl) rfl
theorem se_yX11_requireEntry : Cond.selects RX11 yX11_requireEntry yX11_requireEntry ∈ wALL := tp_1 (n := 7) (List.mem_of_getElem? (i := 6) rfl) rfl
theorem cd_yX11_requireEntry : Cond.code yX11_requireEntry cX11_requireEntry 3 none ∈ wALL := tb_3 (List.mem_of_getElem? (i := 53) rfl) rfl
theorem ml_RX11_394 : Cond.methodLink RX11 394 yX11_isIndex ∈ wALL := tb_3 (List.mem_of_getElem? (i := 54) rfl) rfl
theorem ml_RX11_206 : Cond.methodLink RX11 206 yX6_takeOut ∈ wALL := tb_4 (List.mem_of_getElem? (i := 121) rfl) rfl
theorem im_yX6_takeOut : Cond.instanceMethod yX6_takeOut ∈ wALL := tb_4 (List.mem_of_getElem? (i := 122) rfl) rfl
theorem se_yX6_takeOut : Cond.selects RX6 yX6_takeOut yX6_takeOut ∈ wALL := tb_4 (List.mem_of_getElem? (i := 123) rfl) rfl
theorem cd_yX6_takeOut : Cond.code yX6_takeOut cX6_takeOut 5 (some .int) ∈ wALL := tb_4 (List.mem_of_getElem? (i := 124) rfl) rfl
theorem ml_RL_386 : Cond.methodLink RL 386 yL_moveEntryOf ∈ wALL := tb_5 (List.mem_of_getElem? (i := 232) rfl) rfl
theorem st_yL_moveEntryOf : Cond.static yL_moveEntryOf ∈ wALL := tb_5 (List.mem_of_getElem? (i := 233) rfl) rfl
theorem cw_yL_moveEntryOf : Cond.codeWith yL_moveEntryOf cL_moveEntryOf 5 (some .int) [(0, 7, 8, 24)] ∈ wALL := tb_5 (List.mem_of_getElem? (i := 234) rfl) rfl
theorem ml_RL_74 : Cond.methodLink RL 74 yX11_moveEntry ∈ wALL := tb_5 (List.mem_of_getElem? (i := 235) rfl) rfl
theorem im_yX11_moveEntry : Cond.instanceMethod yX11_moveEntry ∈ wALL := tb_5 (List.mem_of_getElem? (i := 236) rfl) rfl
theorem se_yX11_moveEntry : Cond.selects RX11 yX11_moveEntry yX11_moveEntry ∈ wALL := tb_5 (List.mem_of_getElem? (i := 237) rfl) rfl
theorem cd_yX11_moveEntry : Cond.code yX11_moveEntry cX11_moveEntry 5 (some .int) ∈ wALL := tb_5 (List.mem_of_getElem? (i := 238) rfl) rfl
theorem ml_RX11_213 : Cond.methodLink RX11 213 yX4_keepTable ∈ wALL := tb_4 (List.mem_of_getElem? (i := 117) rfl) rfl
theorem im_yX4_keepTable : Cond.instanceMethod yX4_keepTable ∈ wALL := tb_4 (List.mem_of_getElem? (i := 118) rfl) rfl
theorem se_yX4_keepTable : Cond.selects RX4 yX4_keepTable yX4_keepTable ∈ wALL := tb_4 (List.mem_of_getElem? (i := 119) rfl) rfl
theorem cd_yX4_keepTable : Cond.code yX4_keepTable cX4_keepTable 4 none ∈ wALL := tb_4 (List.mem_of_getElem? (i := 120) rfl) rfl
theorem ml_RX4_21 : Cond.methodLink RX4 21 yX4_rightsAt ∈ wALL := tb_3 (List.mem_of_getElem? (i := 145) rfl) rfl
theorem im_yX4_rightsAt : Cond.instanceMethod yX4_rightsAt ∈ wALL := tb_3 (List.mem_of_getElem? (i := 146) rfl) rfl
theorem se_yX4_rightsAt : Cond.selects RX4 yX4_rightsAt yX4_rightsAt ∈ wALL := tb_3 (List.mem_of_getElem? (i := 147) rfl) rfl
theorem cd_yX4_rightsAt : Cond.code yX4_rightsAt cX4_rightsAt 6 (some .int) ∈ wALL := tb_3 (List.mem_of_getElem? (i := 148) rfl) rfl
theorem fl_RX4_29 : Cond.fieldLink RX4 29 "PermissionDesk$State" "club" "LPermissionDesk$Club;" ∈ wALL := tb_1 (List.mem_of_getElem? (i := 121) rfl) rfl
theorem fl_RX4_41 : Cond.fieldLink RX4 41 "PermissionDesk$State" "tree" "LPermissionDesk$Tree;" ∈ wALL := tb_1 (List.mem_of_getElem? (i := 125) rfl) rfl
theorem ml_RX4_35 : Cond.methodLink RX4 35 yX0_hasUser ∈ wALL := tb_3 (List.mem_of_getElem? (i := 149) rfl) rfl
theorem ml_RX4_45 : Cond.methodLink RX4 45 yX10_holds ∈ wALL := tb_3 (List.mem_of_getElem? (i := 150) rfl) rfl
theorem ml_RX4_50 : Cond.methodLink RX4 50 yX4_decide ∈ wALL := tb_3 (List.mem_of_getElem? (i := 151) rfl) rfl
theorem im_yX4_decide : Cond.instanceMethod yX4_decide ∈ wALL := tb_3 (List.mem_of_getElem? (i := 153) rfl) rfl
theorem se_yX4_decide : Cond.selects RX4 yX4_decide yX4_decide ∈ wALL := tp_1 (n := 3) (List.mem_of_getElem? (i := 8) rfl) rfl
theorem cd_yX4_decide : Cond.code yX4_decide cX4_decide 13 none ∈ wALL := tb_3 (List.mem_of_getElem? (i := 154) rfl) rfl
theorem fl_RX4_97 : Cond.fieldLink RX4 97 "PermissionDesk$State" "lists" "LPermissionDesk$Lists;" ∈ wALL := tb_1 (List.mem_of_getElem? (i := 130) rfl) rfl
theorem ml_RX4_85 : Cond.methodLink RX4 85 yJ7_fill_53178 ∈ wALL := tb_3 (List.mem_of_getElem? (i := 155) rfl) rfl
theorem st_yJ7_fill_53178 : Cond.static yJ7_fill_53178 ∈ wALL := tb_3 (List.mem_of_getElem? (i := 156) rfl) rfl
theorem in_RJ7 : Cond.initialized RJ7 ∈ wALL := tb_1 (List.mem_of_getElem? (i := 22) rfl) rfl
theorem cd_yJ7_fill_53178 : Cond.code yJ7_fill_53178 cJ7_fill_53178 4 none ∈ wALL := tb_3 (List.mem_of_getElem? (i := 157) rfl) rfl
theorem ml_RX4_91 : Cond.methodLink RX4 91 yX0_groupsOver ∈ wALL := tb_3 (List.mem_of_getElem? (i := 158) rfl) rfl
theorem im_yX0_groupsOver : Cond.instanceMethod yX0_groupsOver ∈ wALL := tb_2 (List.mem_of_getElem? (i := 144) rfl) rfl
theorem se_yX0_groupsOver : Cond.selects RX0 yX0_groupsOver yX0_groupsOver ∈ wALL := tb_2 (List.mem_of_getElem? (i := 145) rfl) rfl
theorem cd_yX0_groupsOver : Cond.code yX0_groupsOver cX0_groupsOver 2 (some .int) ∈ wALL := tb_2 (List.mem_of_getElem? (i := 146) rfl) rfl
theorem ml_RX4_94 : Cond.methodLink RX4 94 yX10_ownerAt ∈ wALL := tb_3 (List.mem_of_getElem? (i := 159) rfl) rfl
theorem ml_RX4_101 : Cond.methodLink RX4 101 yX6_countAt ∈ wALL := tb_3 (List.mem_of_getElem? (i := 160) rfl) rfl
theorem ml_RX4_106 : Cond.methodLink RX4 106 yX6_entryAt ∈ wALL := tb_3 (List.mem_of_getElem? (i := 161) rfl) rfl
theorem ml_RX4_110 : Cond.methodLink RX4 110 yX1_countsBelow ∈ wALL := tb_3 (List.mem_of_getElem? (i := 162) rfl) rfl
theorem st_yX1_countsBelow : Cond.static yX1_countsBelow ∈ wALL := tb_3 (List.mem_of_getElem? (i := 108) rfl) rfl
theorem cd_yX1_countsBelow : Cond.code yX1_countsBelow cX1_countsBelow 1 (some .boolean) ∈ wALL := tb_3 (List.mem_of_getElem? (i := 109) rfl) rfl
theorem ml_RX4_113 : Cond.methodLink RX4 113 yX1_isFor ∈ wALL := tb_3 (List.mem_of_getElem? (i := 163) rfl) rfl
theorem st_yX1_isFor : Cond.static yX1_isFor ∈ wALL := tb_3 (List.mem_of_getElem? (i := 164) rfl) rfl
theorem cd_yX1_isFor : Cond.code yX1_isFor cX1_isFor 4 (some .boolean) ∈ wALL := tb_3 (List.mem_of_getElem? (i := 165) rfl) rfl
theorem ml_RX1_11 : Cond.methodLink RX1 11 yX1_kind ∈ wALL := tb_3 (List.mem_of_getElem? (i := 166) rfl) rfl
theorem st_yX1_kind : Cond.static yX1_kind ∈ wALL := tb_3 (List.mem_of_getElem? (i := 81) rfl) rfl
theorem cd_yX1_kind : Cond.code yX1_kind cX1_kind 1 (some .int) ∈ wALL := tb_3 (List.mem_of_getElem? (i := 82) rfl) rfl
theorem ml_RX1_15 : Cond.methodLink RX1 15 yX1_number ∈ wALL := tb_3 (List.mem_of_getElem? (i := 167) rfl) rfl
theorem st_yX1_number : Cond.static yX1_number ∈ wALL := tb_3 (List.mem_of_getElem? (i := 84) rfl) rfl
theorem cd_yX1_number : Cond.code yX1_number cX1_number 1 (some .int) ∈ wALL := tb_3 (List.mem_of_getElem? (i := 85) rfl) rfl
theorem ml_RX4_117 : Cond.methodLink RX4 117 yX1_rights ∈ wALL := tb_3 (List.mem_of_getElem? (i := 169) rfl) rfl
theorem st_yX1_rights : Cond.static yX1_rights ∈ wALL := tb_3 (List.mem_of_getElem? (i := 71) rfl) rfl
theorem cd_yX1_rights : Cond.code yX1_rights cX1_rights 1 (some .int) ∈ wALL := tb_3 (List.mem_of_getElem? (i := 72) rfl) rfl
theorem ml_RX4_120 : Cond.methodLink RX4 120 yX4_settle ∈ wALL := tb_3 (List.mem_of_getElem? (i := 170) rfl) rfl
theorem im_yX4_settle : Cond.instanceMethod yX4_settle ∈ wALL := tb_3 (List.mem_of_getElem? (i := 172) rfl) rfl
theorem se_yX4_settle : Cond.selects RX4 yX4_settle yX4_settle ∈ wALL := tp_1 (n := 3) (List.mem_of_getElem? (i := 9) rfl) rfl
theorem cd_yX4_settle : Cond.code yX4_settle cX4_settle 5 none ∈ wALL := tb_3 (List.mem_of_getElem? (i := 173) rfl) rfl
theorem ml_RX4_124 : Cond.methodLink RX4 124 yX10_nextUp ∈ wALL := tb_3 (List.mem_of_getElem? (i := 175) rfl) rfl
theorem im_yX10_nextUp : Cond.instanceMethod yX10_nextUp ∈ wALL := tb_3 (List.mem_of_getElem? (i := 176) rfl) rfl
theorem se_yX10_nextUp : Cond.selects RX10 yX10_nextUp yX10_nextUp ∈ wALL := tb_3 (List.mem_of_getElem? (i := 177) rfl) rfl
theorem cd_yX10_nextUp : Cond.code yX10_nextUp cX10_nextUp 2 (some .int) ∈ wALL := tb_3 (List.mem_of_getElem? (i := 178) rfl) rfl
theorem ml_RX10_69 : Cond.methodLink RX10 69 yX10_inherits ∈ wALL := tb_3 (List.mem_of_getElem? (i := 179) rfl) rfl
theorem ml_RX4_54 : Cond.methodLink RX4 54 yX9_grants ∈ wALL := tb_3 (List.mem_of_getElem? (i := 180) rfl) rfl
theorem im_yX9_grants : Cond.instanceMethod yX9_grants ∈ wALL := tb_3 (List.mem_of_getElem? (i := 181) rfl) rfl
theorem se_yX9_grants : Cond.selects RX9 yX9_grants yX9_grants ∈ wALL := tb_3 (List.mem_of_getElem? (i := 182) rfl) rfl
theorem cd_yX9_grants : Cond.code yX9_grants cX9_grants 5 (some .boolean) ∈ wALL := tb_3 (List.mem_of_getElem? (i := 183) rfl) rfl
theorem ml_RX9_52 : Cond.methodLink RX9 52 yX10_ownerAt ∈ wALL := tb_3 (List.mem_of_getElem? (i := 184) rfl) rfl
theorem ml_RX9_56 : Cond.methodLink RX9 56 yX1_allows ∈ wALL := tb_3 (List.mem_of_getElem? (i := 185) rfl) rfl
theorem st_yX1_allows : Cond.static yX1_allows ∈ wALL := tb_3 (List.mem_of_getElem? (i := 61) rfl) rfl
theorem cd_yX1_allows : Cond.code yX1_allows cX1_allows 1 (some .boolean) ∈ wALL := tb_3 (List.mem_of_getElem? (i := 62) rfl) rfl
theorem ml_RX9_62 : Cond.methodLink RX9 62 yX10_maskAt ∈ wALL := tb_3 (List.mem_of_getElem? (i := 186) rfl) rfl
theorem ml_RX11_219 : Cond.methodLink RX11 219 yX4_countDifferences ∈ wALL := tb_4 (List.mem_of_getElem? (i := 130) rfl) rfl
theorem im_yX4_countDifferences : Cond.instanceMethod yX4_countDifferences ∈ wALL := tb_4 (List.mem_of_getElem? (i := 131) rfl) rfl
theorem se_yX4_countDifferences : Cond.selects RX4 yX4_countDifferences yX4_countDifferences ∈ wALL := tb_4 (List.mem_of_getElem? (i := 132) rfl) rfl
theorem cd_yX4_countDifferences : Cond.code yX4_countDifferences cX4_countDifferences 6 (some .int) ∈ wALL := tb_4 (List.mem_of_getElem? (i := 133) rfl) rfl
theorem ml_RX4_74 : Cond.methodLink RX4 74 yJ6_bitCount_0f7a4 ∈ wALL := tb_4 (List.mem_of_getElem? (i := 82) rfl) rfl
theorem ml_RL_293 : Cond.methodLink RL 293 yL_notes ∈ wALL := tb_4 (List.mem_of_getElem? (i := 86) rfl) rfl
theorem st_yL_notes : Cond.static yL_notes ∈ wALL := tb_4 (List.mem_of_getElem? (i := 87) rfl) rfl
theorem cd_yL_notes : Cond.code yL_notes cL_notes 9 none ∈ wALL := tb_4 (List.mem_of_getElem? (i := 88) rfl) rfl
theorem co_RL_196 : Cond.constantLong RL 196 (16) ∈ wALL := tb_4 (List.mem_of_getElem? (i := 89) rfl) rfl
theorem ml_RL_198 : Cond.methodLink RL 198 yL_rights ∈ wALL := tb_3 (List.mem_of_getElem? (i := 219) rfl) rfl
theorem st_yL_rights : Cond.static yL_rights ∈ wALL := tb_3 (List.mem_of_getElem? (i := 220) rfl) rfl
theorem cd_yL_rights : Cond.code yL_rights cL_rights 7 (some .int) ∈ wALL := tb_3 (List.mem_of_getElem? (i := 221) rfl) rfl
theorem ml_RL_192 : Cond.methodLink RL 192 yL_allowed ∈ wALL := tb_3 (List.mem_of_getElem? (i := 222) rfl) rfl
theorem st_yL_allowed : Cond.static yL_allowed ∈ wALL := tb_3 (List.mem_of_getElem? (i := 223) rfl) rfl
theorem cd_yL_allowed : Cond.code yL_allowed cL_allowed 7 (some .boolean) ∈ wALL := tb_3 (List.mem_of_getElem? (i := 224) rfl) rfl
theorem ml_RL_188 : Cond.methodLink RL 188 yL_deciding ∈ wALL := tb_3 (List.mem_of_getElem? (i := 225) rfl) rfl
theorem st_yL_deciding : Cond.static yL_deciding ∈ wALL := tb_3 (List.mem_of_getElem? (i := 226) rfl) rfl
theorem cd_yL_deciding : Cond.code yL_deciding cL_deciding 13 (some .int) ∈ wALL := tb_3 (List.mem_of_getElem? (i := 227) rfl) rfl
theorem ml_RL_184 : Cond.methodLink RL 184 yL_isFor ∈ wALL := tb_3 (List.mem_of_getElem? (i := 228) rfl) rfl
theorem st_yL_isFor : Cond.static yL_isFor ∈ wALL := tb_3 (List.mem_of_getElem? (i := 229) rfl) rfl
theorem cd_yL_isFor : Cond.code yL_isFor cL_isFor 7 (some .boolean) ∈ wALL := tb_3 (List.mem_of_getElem? (i := 230) rfl) rfl
theorem ml_RL_312 : Cond.methodLink RL 312 yL_unlike ∈ wALL := tb_4 (List.mem_of_getElem? (i := 138) rfl) rfl
theorem st_yL_unlike : Cond.static yL_unlike ∈ wALL := tb_4 (List.mem_of_getElem? (i := 139) rfl) rfl
theorem cd_yL_unlike : Cond.code yL_unlike cL_unlike 5 (some .int) ∈ wALL := tb_4 (List.mem_of_getElem? (i := 140) rfl) rfl
theorem ml_RL_411 : Cond.methodLink RL 411 yL_ofRequests ∈ wALL := tb_5 (List.mem_of_getElem? (i := 239) rfl) rfl
theorem st_yL_ofRequests : Cond.static yL_ofRequests ∈ wALL := tb_6 (List.mem_of_getElem? (i := 0) rfl) rfl
theorem cd_yL_ofRequests : Cond.code yL_ofRequests cL_ofRequests 16 (some .boolean) ∈ wALL := tb_6 (List.mem_of_getElem? (i := 1) rfl) rfl
theorem ml_RL_389 : Cond.methodLink RL 389 yL_askOf ∈ wALL := tb_6 (List.mem_of_getElem? (i := 2) rfl) rfl
theorem st_yL_askOf : Cond.static yL_askOf ∈ wALL := tb_6 (List.mem_of_getElem? (i := 3) rfl) rfl
theorem cw_yL_askOf : Cond.codeWith yL_askOf cL_askOf 5 (some .int) [(0, 15, 16, 24), (0, 15, 21, 51)] ∈ wALL := tb_6 (List.mem_of_getElem? (i := 4) rfl) rfl
theorem ml_RL_78 : Cond.methodLink RL 78 yX11_ask ∈ wALL := tb_6 (List.mem_of_getElem? (i := 5) rfl) rfl
theorem im_yX11_ask : Cond.instanceMethod yX11_ask ∈ wALL := tb_6 (List.mem_of_getElem? (i := 6) rfl) rfl
theorem se_yX11_ask : Cond.selects RX11 yX11_ask yX11_ask ∈ wALL := tb_6 (List.mem_of_getElem? (i := 7) rfl) rfl
theorem cd_yX11_ask : Cond.code yX11_ask cX11_ask 5 (some .boolean) ∈ wALL := tb_6 (List.mem_of_getElem? (i := 8) rfl) rfl
theorem fl_RX11_230 : Cond.fieldLink RX11 230 "PermissionDesk$State" "log" "LPermissionDesk$Log;" ∈ wALL := tb_1 (List.mem_of_getElem? (i := 132) rfl) rfl
theorem ml_RX11_223 : Cond.methodLink RX11 223 yX11_requireRight ∈ wALL := tb_3 (List.mem_of_getElem? (i := 121) rfl) rfl
theorem im_yX11_requireRight : Cond.instanceMethod yX11_requireRight ∈ wALL := tb_3 (List.mem_of_getElem? (i := 123) rfl) rfl
theorem se_yX11_requireRight : Cond.selects RX11 yX11_requireRight yX11_requireRight ∈ wALL := tp_1 (n := 7) (List.mem_of_getElem? (i := 7) rfl) rfl
theorem cd_yX11_requireRight : Cond.code yX11_requireRight cX11_requireRight 2 none ∈ wALL := tb_3 (List.mem_of_getElem? (i := 124) rfl) rfl
theorem ml_RX11_226 : Cond.methodLink RX11 226 yX4_grants ∈ wALL := tb_3 (List.mem_of_getElem? (i := 141) rfl) rfl
theorem im_yX4_grants : Cond.instanceMethod yX4_grants ∈ wALL := tb_3 (List.mem_of_getElem? (i := 142) rfl) rfl
theorem se_yX4_grants : Cond.selects RX4 yX4_grants yX4_grants ∈ wALL := tb_3 (List.mem_of_getElem? (i := 143) rfl) rfl
theorem cd_yX4_grants : Cond.code yX4_grants cX4_grants 5 (some .boolean) ∈ wALL := tb_3 (List.mem_of_getElem? (i := 144) rfl) rfl
theorem ml_RX11_234 : Cond.methodLink RX11 234 yX7_put ∈ wALL := tb_6 (List.mem_of_getElem? (i := 9) rfl) rfl
theorem im_yX7_put : Cond.instanceMethod yX7_put ∈ wALL := tb_6 (List.mem_of_getElem? (i := 10) rfl) rfl
theorem se_yX7_put : Cond.selects RX7 yX7_put yX7_put ∈ wALL := tb_6 (List.mem_of_getElem? (i := 11) rfl) rfl
theorem cd_yX7_put : Cond.code yX7_put cX7_put 5 none ∈ wALL := tb_6 (List.mem_of_getElem? (i := 12) rfl) rfl
theorem ml_RX7_34 : Cond.methodLink RX7 34 yX7_placeOf ∈ wALL := tb_4 (List.mem_of_getElem? (i := 175) rfl) rfl
theorem im_yX7_placeOf : Cond.instanceMethod yX7_placeOf ∈ wALL := tb_4 (List.mem_of_getElem? (i := 177) rfl) rfl
theorem se_yX7_placeOf : Cond.selects RX7 yX7_placeOf yX7_placeOf ∈ wALL := tp_2 (n := 5) (List.mem_of_getElem? (i := 4) rfl) rfl
theorem cd_yX7_placeOf : Cond.code yX7_placeOf cX7_placeOf 2 (some .int) ∈ wALL := tb_4 (List.mem_of_getElem? (i := 178) rfl) rfl
theorem ml_RX7_52 : Cond.methodLink RX7 52 yJ9_floorMod_7cf53 ∈ wALL := tb_4 (List.mem_of_getElem? (i := 179) rfl) rfl
theorem ml_RL_392 : Cond.methodLink RL 392 yL_shareOf ∈ wALL := tb_6 (List.mem_of_getElem? (i := 14) rfl) rfl
theorem st_yL_shareOf : Cond.static yL_shareOf ∈ wALL := tb_6 (List.mem_of_getElem? (i := 15) rfl) rfl
theorem cw_yL_shareOf : Cond.codeWith yL_shareOf cL_shareOf 6 (some .int) [(0, 9, 10, 24), (0, 9, 15, 51), (0, 9, 20, 15)] ∈ wALL := tb_6 (List.mem_of_getElem? (i := 16) rfl) rfl
theorem ml_RL_82 : Cond.methodLink RL 82 yX11_share ∈ wALL := tb_6 (List.mem_of_getElem? (i := 17) rfl) rfl
theorem im_yX11_share : Cond.instanceMethod yX11_share ∈ wALL := tb_6 (List.mem_of_getElem? (i := 18) rfl) rfl
theorem se_yX11_share : Cond.selects RX11 yX11_share yX11_share ∈ wALL := tb_6 (List.mem_of_getElem? (i := 19) rfl) rfl
theorem cd_yX11_share : Cond.code yX11_share cX11_share 6 (some .int) ∈ wALL := tb_6 (List.mem_of_getElem? (i := 20) rfl) rfl
theorem ml_RX11_239 : Cond.methodLink RX11 239 yX4_rightsAt ∈ wALL := tb_3 (List.mem_of_getElem? (i := 218) rfl) rfl
theorem ml_RL_415 : Cond.methodLink RL 415 yL_areObjects ∈ wALL := tb_2 (List.mem_of_getElem? (i := 176) rfl) rfl
theorem st_yL_areObjects : Cond.static yL_areObjects ∈ wALL := tb_2 (List.mem_of_getElem? (i := 177) rfl) rfl
theorem cd_yL_areObjects : Cond.code yL_areObjects cL_areObjects 13 (some .boolean) ∈ wALL := tb_2 (List.mem_of_getElem? (i := 178) rfl) rfl
theorem ml_RL_221 : Cond.methodLink RL 221 yX11_objects ∈ wALL := tb_2 (List.mem_of_getElem? (i := 179) rfl) rfl
theorem im_yX11_objects : Cond.instanceMethod yX11_objects ∈ wALL := tb_2 (List.mem_of_getElem? (i := 180) rfl) rfl
theorem se_yX11_objects : Cond.selects RX11 yX11_objects yX11_objects ∈ wALL := tb_2 (List.mem_of_getElem? (i := 181) rfl) rfl
theorem cd_yX11_objects : Cond.code yX11_objects cX11_objects 1 (some .int) ∈ wALL := tb_2 (List.mem_of_getElem? (i := 182) rfl) rfl
theorem ml_RL_224 : Cond.methodLink RL 224 yX11_isThere ∈ wALL := tb_2 (List.mem_of_getElem? (i := 193) rfl) rfl
theorem im_yX11_isThere : Cond.instanceMethod yX11_isThere ∈ wALL := tb_2 (List.mem_of_getElem? (i := 194) rfl) rfl
theorem se_yX11_isThere : Cond.selects RX11 yX11_isThere yX11_isThere ∈ wALL := tb_2 (List.mem_of_getElem? (i := 195) rfl) rfl
theorem cd_yX11_isThere : Cond.code yX11_isThere cX11_isThere 2 (some .boolean) ∈ wALL := tb_2 (List.mem_of_getElem? (i := 196) rfl) rfl
theorem ml_RL_227 : Cond.methodLink RL 227 yL_parentOfOf ∈ wALL := tb_2 (List.mem_of_getElem? (i := 201) rfl) rfl
theorem st_yL_parentOfOf : Cond.static yL_parentOfOf ∈ wALL := tb_2 (List.mem_of_getElem? (i := 202) rfl) rfl
theorem cw_yL_parentOfOf : Cond.codeWith yL_parentOfOf cL_parentOfOf 3 (some .int) [(0, 5, 6, 24)] ∈ wALL := tb_2 (List.mem_of_getElem? (i := 203) rfl) rfl
theorem ml_RL_99 : Cond.methodLink RL 99 yX11_parentOf ∈ wALL := tb_2 (List.mem_of_getElem? (i := 204) rfl) rfl
theorem im_yX11_parentOf : Cond.instanceMethod yX11_parentOf ∈ wALL := tb_2 (List.mem_of_getElem? (i := 205) rfl) rfl
theorem se_yX11_parentOf : Cond.selects RX11 yX11_parentOf yX11_parentOf ∈ wALL := tb_2 (List.mem_of_getElem? (i := 206) rfl) rfl
theorem cd_yX11_parentOf : Cond.code yX11_parentOf cX11_parentOf 2 (some .int) ∈ wALL := tb_2 (List.mem_of_getElem? (i := 207) rfl) rfl
theorem ml_RL_231 : Cond.methodLink RL 231 yL_entriesOfOf ∈ wALL := tb_2 (List.mem_of_getElem? (i := 218) rfl) rfl
theorem st_yL_entriesOfOf : Cond.static yL_entriesOfOf ∈ wALL := tb_2 (List.mem_of_getElem? (i := 219) rfl) rfl
theorem cw_yL_entriesOfOf : Cond.codeWith yL_entriesOfOf cL_entriesOfOf 3 (some .int) [(0, 5, 6, 24)] ∈ wALL := tb_2 (List.mem_of_getElem? (i := 220) rfl) rfl
theorem ml_RL_115 : Cond.methodLink RL 115 yX11_entriesOf ∈ wALL := tb_2 (List.mem_of_getElem? (i := 221) rfl) rfl
theorem im_yX11_entriesOf : Cond.instanceMethod yX11_entriesOf ∈ wALL := tb_2 (List.mem_of_getElem? (i := 222) rfl) rfl
theorem se_yX11_entriesOf : Cond.selects RX11 yX11_entriesOf yX11_entriesOf ∈ wALL := tb_2 (List.mem_of_getElem? (i := 223) rfl) rfl
theorem cd_yX11_entriesOf : Cond.code yX11_entriesOf cX11_entriesOf 2 (some .int) ∈ wALL := tb_2 (List.mem_of_getElem? (i := 224) rfl) rfl
theorem ml_RL_238 : Cond.methodLink RL 238 yL_ownerOfOf ∈ wALL := tb_2 (List.mem_of_getElem? (i := 233) rfl) rfl
theorem st_yL_ownerOfOf : Cond.static yL_ownerOfOf ∈ wALL := tb_2 (List.mem_of_getElem? (i := 234) rfl) rfl
theorem cw_yL_ownerOfOf : Cond.codeWith yL_ownerOfOf cL_ownerOfOf 3 (some .int) [(0, 5, 6, 24)] ∈ wALL := tb_2 (List.mem_of_getElem? (i := 235) rfl) rfl
theorem ml_RL_102 : Cond.methodLink RL 102 yX11_ownerOf ∈ wALL := tb_2 (List.mem_of_getElem? (i := 236) rfl) rfl
theorem im_yX11_ownerOf : Cond.instanceMethod yX11_ownerOf ∈ wALL := tb_2 (List.mem_of_getElem? (i := 237) rfl) rfl
theorem se_yX11_ownerOf : Cond.selects RX11 yX11_ownerOf yX11_ownerOf ∈ wALL := tb_2 (List.mem_of_getElem? (i := 238) rfl) rfl
theorem cd_yX11_ownerOf : Cond.code yX11_ownerOf cX11_ownerOf 2 (some .int) ∈ wALL := tb_2 (List.mem_of_getElem? (i := 239) rfl) rfl
theorem ml_RL_241 : Cond.methodLink RL 241 yL_maskOfOf ∈ wALL := tb_3 (List.mem_of_getElem? (i := 4) rfl) rfl
theorem st_yL_maskOfOf : Cond.static yL_maskOfOf ∈ wALL := tb_3 (List.mem_of_getElem? (i := 5) rfl) rfl
theorem cw_yL_maskOfOf : Cond.codeWith yL_maskOfOf cL_maskOfOf 3 (some .int) [(0, 5, 6, 24)] ∈ wALL := tb_3 (List.mem_of_getElem? (i := 6) rfl) rfl
theorem ml_RL_105 : Cond.methodLink RL 105 yX11_maskOf ∈ wALL := tb_3 (List.mem_of_getElem? (i := 7) rfl) rfl
theorem im_yX11_maskOf : Cond.instanceMethod yX11_maskOf ∈ wALL := tb_3 (List.mem_of_getElem? (i := 8) rfl) rfl
theorem se_yX11_maskOf : Cond.selects RX11 yX11_maskOf yX11_maskOf ∈ wALL := tb_3 (List.mem_of_getElem? (i := 9) rfl) rfl
theorem cd_yX11_maskOf : Cond.code yX11_maskOf cX11_maskOf 2 (some .int) ∈ wALL := tb_3 (List.mem_of_getElem? (i := 10) rfl) rfl
theorem ml_RL_244 : Cond.methodLink RL 244 yL_isInheritingOf ∈ wALL := tb_3 (List.mem_of_getElem? (i := 15) rfl) rfl
theorem st_yL_isInheritingOf : Cond.static yL_isInheritingOf ∈ wALL := tb_3 (List.mem_of_getElem? (i := 16) rfl) rfl
theorem cw_yL_isInheritingOf : Cond.codeWith yL_isInheritingOf cL_isInheritingOf 3 (some .int) [(0, 13, 14, 24)] ∈ wALL := tb_3 (List.mem_of_getElem? (i := 17) rfl) rfl
theorem ml_RL_108 : Cond.methodLink RL 108 yX11_isInheriting ∈ wALL := tb_3 (List.mem_of_getElem? (i := 18) rfl) rfl
theorem im_yX11_isInheriting : Cond.instanceMethod yX11_isInheriting ∈ wALL := tb_3 (List.mem_of_getElem? (i := 19) rfl) rfl
theorem se_yX11_isInheriting : Cond.selects RX11 yX11_isInheriting yX11_isInheriting ∈ wALL := tb_3 (List.mem_of_getElem? (i := 20) rfl) rfl
theorem cd_yX11_isInheriting : Cond.code yX11_isInheriting cX11_isInheriting 2 (some .boolean) ∈ wALL := tb_3 (List.mem_of_getElem? (i := 21) rfl) rfl
theorem ml_RL_247 : Cond.methodLink RL 247 yL_belowOf ∈ wALL := tb_3 (List.mem_of_getElem? (i := 27) rfl) rfl
theorem st_yL_belowOf : Cond.static yL_belowOf ∈ wALL := tb_3 (List.mem_of_getElem? (i := 28) rfl) rfl
theorem cw_yL_belowOf : Cond.codeWith yL_belowOf cL_belowOf 3 (some .int) [(0, 5, 6, 24)] ∈ wALL := tb_3 (List.mem_of_getElem? (i := 29) rfl) rfl
theorem ml_RL_112 : Cond.methodLink RL 112 yX11_below ∈ wALL := tb_3 (List.mem_of_getElem? (i := 30) rfl) rfl
theorem im_yX11_below : Cond.instanceMethod yX11_below ∈ wALL := tb_3 (List.mem_of_getElem? (i := 31) rfl) rfl
theorem se_yX11_below : Cond.selects RX11 yX11_below yX11_below ∈ wALL := tb_3 (List.mem_of_getElem? (i := 32) rfl) rfl
theorem cd_yX11_below : Cond.code yX11_below cX11_below 2 (some .int) ∈ wALL := tb_3 (List.mem_of_getElem? (i := 33) rfl) rfl
theorem ml_RL_250 : Cond.methodLink RL 250 yL_isAllowingOf ∈ wALL := tb_3 (List.mem_of_getElem? (i := 43) rfl) rfl
theorem st_yL_isAllowingOf : Cond.static yL_isAllowingOf ∈ wALL := tb_3 (List.mem_of_getElem? (i := 44) rfl) rfl
theorem cw_yL_isAllowingOf : Cond.codeWith yL_isAllowingOf cL_isAllowingOf 4 (some .int) [(0, 14, 15, 24)] ∈ wALL := tb_3 (List.mem_of_getElem? (i := 45) rfl) rfl
theorem ml_RL_118 : Cond.methodLink RL 118 yX11_isAllowing ∈ wALL := tb_3 (List.mem_of_getElem? (i := 46) rfl) rfl
theorem im_yX11_isAllowing : Cond.instanceMethod yX11_isAllowing ∈ wALL := tb_3 (List.mem_of_getElem? (i := 47) rfl) rfl
theorem se_yX11_isAllowing : Cond.selects RX11 yX11_isAllowing yX11_isAllowing ∈ wALL := tb_3 (List.mem_of_getElem? (i := 48) rfl) rfl
theorem cd_yX11_isAllowing : Cond.code yX11_isAllowing cX11_isAllowing 3 (some .boolean) ∈ wALL := tb_3 (List.mem_of_getElem? (i := 49) rfl) rfl
theorem ml_RX11_311 : Cond.methodLink RX11 311 yX6_entryAt ∈ wALL := tb_3 (List.mem_of_getElem? (i := 56) rfl) rfl
theorem ml_RX11_313 : Cond.methodLink RX11 313 yX1_allows ∈ wALL := tb_3 (List.mem_of_getElem? (i := 60) rfl) rfl
theorem ml_RL_253 : Cond.methodLink RL 253 yL_rightsOfEntryOf ∈ wALL := tb_3 (List.mem_of_getElem? (i := 63) rfl) rfl
theorem st_yL_rightsOfEntryOf : Cond.static yL_rightsOfEntryOf ∈ wALL := tb_3 (List.mem_of_getElem? (i := 64) rfl) rfl
theorem cw_yL_rightsOfEntryOf : Cond.codeWith yL_rightsOfEntryOf cL_rightsOfEntryOf 4 (some .int) [(0, 6, 7, 24)] ∈ wALL := tb_3 (List.mem_of_getElem? (i := 65) rfl) rfl
theorem ml_RL_121 : Cond.methodLink RL 121 yX11_rightsOfEntry ∈ wALL := tb_3 (List.mem_of_getElem? (i := 66) rfl) rfl
theorem im_yX11_rightsOfEntry : Cond.instanceMethod yX11_rightsOfEntry ∈ wALL := tb_3 (List.mem_of_getElem? (i := 67) rfl) rfl
theorem se_yX11_rightsOfEntry : Cond.selects RX11 yX11_rightsOfEntry yX11_rightsOfEntry ∈ wALL := tb_3 (List.mem_of_getElem? (i := 68) rfl) rfl
theorem cd_yX11_rightsOfEntry : Cond.code yX11_rightsOfEntry cX11_rightsOfEntry 3 (some .int) ∈ wALL := tb_3 (List.mem_of_getElem? (i := 69) rfl) rfl
theorem ml_RX11_316 : Cond.methodLink RX11 316 yX1_rights ∈ wALL := tb_3 (List.mem_of_getElem? (i := 70) rfl) rfl
theorem ml_RL_256 : Cond.methodLink RL 256 yL_userOfEntryOf ∈ wALL := tb_3 (List.mem_of_getElem? (i := 73) rfl) rfl
theorem st_yL_userOfEntryOf : Cond.static yL_userOfEntryOf ∈ wALL := tb_3 (List.mem_of_getElem? (i := 74) rfl) rfl
theorem cw_yL_userOfEntryOf : Cond.codeWith yL_userOfEntryOf cL_userOfEntryOf 4 (some .int) [(0, 6, 7, 24)] ∈ wALL := tb_3 (List.mem_of_getElem? (i := 75) rfl) rfl
theorem ml_RL_124 : Cond.methodLink RL 124 yX11_userOfEntry ∈ wALL := tb_3 (List.mem_of_getElem? (i := 76) rfl) rfl
theorem im_yX11_userOfEntry : Cond.instanceMethod yX11_userOfEntry ∈ wALL := tb_3 (List.mem_of_getElem? (i := 77) rfl) rfl
theorem se_yX11_userOfEntry : Cond.selects RX11 yX11_userOfEntry yX11_userOfEntry ∈ wALL := tb_3 (List.mem_of_getElem? (i := 78) rfl) rfl
theorem cd_yX11_userOfEntry : Cond.code yX11_userOfEntry cX11_userOfEntry 4 (some .int) ∈ wALL := tb_3 (List.mem_of_getElem? (i := 79) rfl) rfl
theorem ml_RX11_319 : Cond.methodLink RX11 319 yX1_kind ∈ wALL := tb_3 (List.mem_of_getElem? (i := 80) rfl) rfl
theorem ml_RX11_322 : Cond.methodLink RX11 322 yX1_number ∈ wALL := tb_3 (List.mem_of_getElem? (i := 83) rfl) rfl
theorem ml_RL_259 : Cond.methodLink RL 259 yL_groupOfEntryOf ∈ wALL := tb_3 (List.mem_of_getElem? (i := 86) rfl) rfl
theorem st_yL_groupOfEntryOf : Cond.static yL_groupOfEntryOf ∈ wALL := tb_3 (List.mem_of_getElem? (i := 87) rfl) rfl
theorem cw_yL_groupOfEntryOf : Cond.codeWith yL_groupOfEntryOf cL_groupOfEntryOf 4 (some .int) [(0, 6, 7, 24)] ∈ wALL := tb_3 (List.mem_of_getElem? (i := 88) rfl) rfl
theorem ml_RL_127 : Cond.methodLink RL 127 yX11_groupOfEntry ∈ wALL := tb_3 (List.mem_of_getElem? (i := 89) rfl) rfl
theorem im_yX11_groupOfEntry : Cond.instanceMethod yX11_groupOfEntry ∈ wALL := tb_3 (List.mem_of_getElem? (i := 90) rfl) rfl
theorem se_yX11_groupOfEntry : Cond.selects RX11 yX11_groupOfEntry yX11_groupOfEntry ∈ wALL := tb_3 (List.mem_of_getElem? (i := 91) rfl) rfl
theorem cd_yX11_groupOfEntry : Cond.code yX11_groupOfEntry cX11_groupOfEntry 4 (some .int) ∈ wALL := tb_3 (List.mem_of_getElem? (i := 92) rfl) rfl
theorem ml_RL_262 : Cond.methodLink RL 262 yL_isForOwnerOf ∈ wALL := tb_3 (List.mem_of_getElem? (i := 93) rfl) rfl
theorem st_yL_isForOwnerOf : Cond.static yL_isForOwnerOf ∈ wALL := tb_3 (List.mem_of_getElem? (i := 94) rfl) rfl
theorem cw_yL_isForOwnerOf : Cond.codeWith yL_isForOwnerOf cL_isForOwnerOf 4 (some .int) [(0, 14, 15, 24)] ∈ wALL := tb_3 (List.mem_of_getElem? (i := 95) rfl) rfl
theorem ml_RL_130 : Cond.methodLink RL 130 yX11_isForOwner ∈ wALL := tb_3 (List.mem_of_getElem? (i := 96) rfl) rfl
theorem im_yX11_isForOwner : Cond.instanceMethod yX11_isForOwner ∈ wALL := tb_3 (List.mem_of_getElem? (i := 97) rfl) rfl
theorem se_yX11_isForOwner : Cond.selects RX11 yX11_isForOwner yX11_isForOwner ∈ wALL := tb_3 (List.mem_of_getElem? (i := 98) rfl) rfl
theorem cd_yX11_isForOwner : Cond.code yX11_isForOwner cX11_isForOwner 3 (some .boolean) ∈ wALL := tb_3 (List.mem_of_getElem? (i := 99) rfl) rfl
theorem ml_RL_265 : Cond.methodLink RL 265 yL_isForBelowOf ∈ wALL := tb_3 (List.mem_of_getElem? (i := 100) rfl) rfl
theorem st_yL_isForBelowOf : Cond.static yL_isForBelowOf ∈ wALL := tb_3 (List.mem_of_getElem? (i := 101) rfl) rfl
theorem cw_yL_isForBelowOf : Cond.codeWith yL_isForBelowOf cL_isForBelowOf 4 (some .int) [(0, 14, 15, 24)] ∈ wALL := tb_3 (List.mem_of_getElem? (i := 102) rfl) rfl
theorem ml_RL_133 : Cond.methodLink RL 133 yX11_isForBelow ∈ wALL := tb_3 (List.mem_of_getElem? (i := 103) rfl) rfl
theorem im_yX11_isForBelow : Cond.instanceMethod yX11_isForBelow ∈ wALL := tb_3 (List.mem_of_getElem? (i := 104) rfl) rfl
theorem se_yX11_isForBelow : Cond.selects RX11 yX11_isForBelow yX11_isForBelow ∈ wALL := tb_3 (List.mem_of_getElem? (i := 105) rfl) rfl
theorem cd_yX11_isForBelow : Cond.code yX11_isForBelow cX11_isForBelow 3 (some .boolean) ∈ wALL := tb_3 (List.mem_of_getElem? (i := 106) rfl) rfl
theorem ml_RX11_325 : Cond.methodLink RX11 325 yX1_countsBelow ∈ wALL := tb_3 (List.mem_of_getElem? (i := 107) rfl) rfl
theorem ml_RL_419 : Cond.methodLink RL 419 yL_areRights ∈ wALL := tb_3 (List.mem_of_getElem? (i := 110) rfl) rfl
theorem st_yL_areRights : Cond.static yL_areRights ∈ wALL := tb_3 (List.mem_of_getElem? (i := 111) rfl) rfl
theorem cd_yL_areRights : Cond.code yL_areRights cL_areRights 14 (some .boolean) ∈ wALL := tb_3 (List.mem_of_getElem? (i := 112) rfl) rfl
theorem ml_RL_268 : Cond.methodLink RL 268 yL_isAllowedOf ∈ wALL := tb_3 (List.mem_of_getElem? (i := 113) rfl) rfl
theorem st_yL_isAllowedOf : Cond.static yL_isAllowedOf ∈ wALL := tb_3 (List.mem_of_getElem? (i := 114) rfl) rfl
theorem cw_yL_isAllowedOf : Cond.codeWith yL_isAllowedOf cL_isAllowedOf 5 (some .int) [(0, 15, 16, 24), (0, 15, 21, 51)] ∈ wALL := tb_3 (List.mem_of_getElem? (i := 115) rfl) rfl
theorem ml_RL_136 : Cond.methodLink RL 136 yX11_isAllowed ∈ wALL := tb_3 (List.mem_of_getElem? (i := 117) rfl) rfl
theorem im_yX11_isAllowed : Cond.instanceMethod yX11_isAllowed ∈ wALL := tb_3 (List.mem_of_getElem? (i := 118) rfl) rfl
theorem se_yX11_isAllowed : Cond.selects RX11 yX11_isAllowed yX11_isAllowed ∈ wALL := tb_3 (List.mem_of_getElem? (i := 119) rfl) rfl
theorem cd_yX11_isAllowed : Cond.code yX11_isAllowed cX11_isAllowed 4 (some .boolean) ∈ wALL := tb_3 (List.mem_of_getElem? (i := 120) rfl) rfl
theorem ml_RL_272 : Cond.methodLink RL 272 yL_decidingObjectOf ∈ wALL := tb_3 (List.mem_of_getElem? (i := 188) rfl) rfl
theorem st_yL_decidingObjectOf : Cond.static yL_decidingObjectOf ∈ wALL := tb_3 (List.mem_of_getElem? (i := 189) rfl) rfl
theorem cw_yL_decidingObjectOf : Cond.codeWith yL_decidingObjectOf cL_decidingObjectOf 5 (some .int) [(0, 7, 8, 24), (0, 7, 13, 51)] ∈ wALL := tb_3 (List.mem_of_getElem? (i := 190) rfl) rfl
theorem ml_RL_145 : Cond.methodLink RL 145 yX11_decidingObject ∈ wALL := tb_3 (List.mem_of_getElem? (i := 191) rfl) rfl
theorem im_yX11_decidingObject : Cond.instanceMethod yX11_decidingObject ∈ wALL := tb_3 (List.mem_of_getElem? (i := 192) rfl) rfl
theorem se_yX11_decidingObject : Cond.selects RX11 yX11_decidingObject yX11_decidingObject ∈ wALL := tb_3 (List.mem_of_getElem? (i := 193) rfl) rfl
theorem cd_yX11_decidingObject : Cond.code yX11_decidingObject cX11_decidingObject 5 (some .int) ∈ wALL := tb_3 (List.mem_of_getElem? (i := 194) rfl) rfl
theorem ml_RX11_329 : Cond.methodLink RX11 329 yX4_decidingPlace ∈ wALL := tb_3 (List.mem_of_getElem? (i := 195) rfl) rfl
theorem im_yX4_decidingPlace : Cond.instanceMethod yX4_decidingPlace ∈ wALL := tb_3 (List.mem_of_getElem? (i := 196) rfl) rfl
theorem se_yX4_decidingPlace : Cond.selects RX4 yX4_decidingPlace yX4_decidingPlace ∈ wALL := tb_3 (List.mem_of_getElem? (i := 197) rfl) rfl
theorem cd_yX4_decidingPlace : Cond.code yX4_decidingPlace cX4_decidingPlace 5 (some .int) ∈ wALL := tb_3 (List.mem_of_getElem? (i := 198) rfl) rfl
theorem ml_RL_275 : Cond.methodLink RL 275 yL_usersWithOf ∈ wALL := tb_3 (List.mem_of_getElem? (i := 200) rfl) rfl
theorem st_yL_usersWithOf : Cond.static yL_usersWithOf ∈ wALL := tb_3 (List.mem_of_getElem? (i := 201) rfl) rfl
theorem cw_yL_usersWithOf : Cond.codeWith yL_usersWithOf cL_usersWithOf 4 (some .int) [(0, 6, 7, 24), (0, 6, 11, 51)] ∈ wALL := tb_3 (List.mem_of_getElem? (i := 202) rfl) rfl
theorem ml_RL_154 : Cond.methodLink RL 154 yX11_usersWith ∈ wALL := tb_3 (List.mem_of_getElem? (i := 203) rfl) rfl
theorem im_yX11_usersWith : Cond.instanceMethod yX11_usersWith ∈ wALL := tb_3 (List.mem_of_getElem? (i := 204) rfl) rfl
theorem se_yX11_usersWith : Cond.selects RX11 yX11_usersWith yX11_usersWith ∈ wALL := tb_3 (List.mem_of_getElem? (i := 205) rfl) rfl
theorem cd_yX11_usersWith : Cond.code yX11_usersWith cX11_usersWith 3 (some .int) ∈ wALL := tb_3 (List.mem_of_getElem? (i := 206) rfl) rfl
theorem ml_RX11_336 : Cond.methodLink RX11 336 yX4_countUsers ∈ wALL := tb_3 (List.mem_of_getElem? (i := 207) rfl) rfl
theorem im_yX4_countUsers : Cond.instanceMethod yX4_countUsers ∈ wALL := tb_3 (List.mem_of_getElem? (i := 208) rfl) rfl
theorem se_yX4_countUsers : Cond.selects RX4 yX4_countUsers yX4_countUsers ∈ wALL := tb_3 (List.mem_of_getElem? (i := 209) rfl) rfl
theorem cd_yX4_countUsers : Cond.code yX4_countUsers cX4_countUsers 6 (some .int) ∈ wALL := tb_3 (List.mem_of_getElem? (i := 210) rfl) rfl
theorem fl_RX4_66 : Cond.fieldLink RX4 66 "PermissionDesk$Club" "users" "I" ∈ wALL := tb_1 (List.mem_of_getElem? (i := 45) rfl) rfl
theorem ml_RL_278 : Cond.methodLink RL 278 yL_rightsOfOf ∈ wALL := tb_3 (List.mem_of_getElem? (i := 211) rfl) rfl
theorem st_yL_rightsOfOf : Cond.static yL_rightsOfOf ∈ wALL := tb_3 (List.mem_of_getElem? (i := 212) rfl) rfl
theorem cw_yL_rightsOfOf : Cond.codeWith yL_rightsOfOf cL_rightsOfOf 4 (some .int) [(0, 6, 7, 24)] ∈ wALL := tb_3 (List.mem_of_getElem? (i := 213) rfl) rfl
theorem ml_RL_142 : Cond.methodLink RL 142 yX11_rightsOf ∈ wALL := tb_3 (List.mem_of_getElem? (i := 214) rfl) rfl
theorem im_yX11_rightsOf : Cond.instanceMethod yX11_rightsOf ∈ wALL := tb_3 (List.mem_of_getElem? (i := 215) rfl) rfl
theorem se_yX11_rightsOf : Cond.selects RX11 yX11_rightsOf yX11_rightsOf ∈ wALL := tb_3 (List.mem_of_getElem? (i := 216) rfl) rfl
theorem cd_yX11_rightsOf : Cond.code yX11_rightsOf cX11_rightsOf 3 (some .int) ∈ wALL := tb_3 (List.mem_of_getElem? (i := 217) rfl) rfl
theorem ml_RL_281 : Cond.methodLink RL 281 yL_isAllowedByHandingDownOf ∈ wALL := tb_3 (List.mem_of_getElem? (i := 231) rfl) rfl
theorem st_yL_isAllowedByHandingDownOf : Cond.static yL_isAllowedByHandingDownOf ∈ wALL := tb_3 (List.mem_of_getElem? (i := 232) rfl) rfl
theorem cw_yL_isAllowedByHandingDownOf : Cond.codeWith yL_isAllowedByHandingDownOf cL_isAllowedByHandingDownOf 5 (some .int) [(0, 15, 16, 24), (0, 15, 21, 51)] ∈ wALL := tb_3 (List.mem_of_getElem? (i := 233) rfl) rfl
theorem ml_RL_139 : Cond.methodLink RL 139 yX11_isAllowedByHandingDown ∈ wALL := tb_3 (List.mem_of_getElem? (i := 234) rfl) rfl
theorem im_yX11_isAllowedByHandingDown : Cond.instanceMethod yX11_isAllowedByHandingDown ∈ wALL := tb_3 (List.mem_of_getElem? (i := 235) rfl) rfl
theorem se_yX11_isAllowedByHandingDown : Cond.selects RX11 yX11_isAllowedByHandingDown yX11_isAllowedByHandingDown ∈ wALL := tb_3 (List.mem_of_getElem? (i := 236) rfl) rfl
theorem cd_yX11_isAllowedByHandingDown : Cond.code yX11_isAllowedByHandingDown cX11_isAllowedByHandingDown 4 (some .boolean) ∈ wALL := tb_3 (List.mem_of_getElem? (i := 237) rfl) rfl
theorem ml_RX11_328 : Cond.methodLink RX11 328 yX2_grants ∈ wALL := tb_3 (List.mem_of_getElem? (i := 238) rfl) rfl
theorem im_yX2_grants : Cond.instanceMethod yX2_grants ∈ wALL := tb_3 (List.mem_of_getElem? (i := 239) rfl) rfl
theorem se_yX2_grants : Cond.selects RX2 yX2_grants yX2_grants ∈ wALL := tb_4 (List.mem_of_getElem? (i := 0) rfl) rfl
theorem cd_yX2_grants : Cond.code yX2_grants cX2_grants 5 (some .boolean) ∈ wALL := tb_4 (List.mem_of_getElem? (i := 1) rfl) rfl
theorem ml_RX2_22 : Cond.methodLink RX2 22 yX2_handAllDown ∈ wALL := tb_4 (List.mem_of_getElem? (i := 2) rfl) rfl
theorem im_yX2_handAllDown : Cond.instanceMethod yX2_handAllDown ∈ wALL := tb_4 (List.mem_of_getElem? (i := 4) rfl) rfl
theorem se_yX2_handAllDown : Cond.selects RX2 yX2_handAllDown yX2_handAllDown ∈ wALL := tp_1 (n := 3) (List.mem_of_getElem? (i := 10) rfl) rfl
theorem cd_yX2_handAllDown : Cond.code yX2_handAllDown cX2_handAllDown 5 none ∈ wALL := tb_4 (List.mem_of_getElem? (i := 5) rfl) rfl
theorem fl_RX2_81 : Cond.fieldLink RX2 81 "PermissionDesk$State" "lists" "LPermissionDesk$Lists;" ∈ wALL := tb_1 (List.mem_of_getElem? (i := 128) rfl) rfl
theorem fl_RX2_46 : Cond.fieldLink RX2 46 "PermissionDesk$State" "tree" "LPermissionDesk$Tree;" ∈ wALL := tb_1 (List.mem_of_getElem? (i := 124) rfl) rfl
theorem ml_RX2_75 : Cond.methodLink RX2 75 yJ7_fill_53178 ∈ wALL := tb_4 (List.mem_of_getElem? (i := 6) rfl) rfl
theorem ml_RX2_84 : Cond.methodLink RX2 84 yX2_takeOwn ∈ wALL := tb_4 (List.mem_of_getElem? (i := 7) rfl) rfl
theorem im_yX2_takeOwn : Cond.instanceMethod yX2_takeOwn ∈ wALL := tb_4 (List.mem_of_getElem? (i := 9) rfl) rfl
theorem se_yX2_takeOwn : Cond.selects RX2 yX2_takeOwn yX2_takeOwn ∈ wALL := tp_1 (n := 3) (List.mem_of_getElem? (i := 11) rfl) rfl
theorem cd_yX2_takeOwn : Cond.code yX2_takeOwn cX2_takeOwn 5 none ∈ wALL := tb_4 (List.mem_of_getElem? (i := 10) rfl) rfl
theorem ml_RX2_103 : Cond.methodLink RX2 103 yX6_countAt ∈ wALL := tb_4 (List.mem_of_getElem? (i := 14) rfl) rfl
theorem ml_RX2_108 : Cond.methodLink RX2 108 yX6_entryAt ∈ wALL := tb_4 (List.mem_of_getElem? (i := 15) rfl) rfl
theorem ml_RX2_111 : Cond.methodLink RX2 111 yX2_putLast ∈ wALL := tb_4 (List.mem_of_getElem? (i := 16) rfl) rfl
theorem im_yX2_putLast : Cond.instanceMethod yX2_putLast ∈ wALL := tb_4 (List.mem_of_getElem? (i := 18) rfl) rfl
theorem se_yX2_putLast : Cond.selects RX2 yX2_putLast yX2_putLast ∈ wALL := tp_1 (n := 3) (List.mem_of_getElem? (i := 12) rfl) rfl
theorem cd_yX2_putLast : Cond.code yX2_putLast cX2_putLast 3 none ∈ wALL := tb_4 (List.mem_of_getElem? (i := 19) rfl) rfl
theorem ml_RX2_88 : Cond.methodLink RX2 88 yX10_parentAt ∈ wALL := tb_4 (List.mem_of_getElem? (i := 21) rfl) rfl
theorem ml_RX2_91 : Cond.methodLink RX2 91 yX10_inherits ∈ wALL := tb_4 (List.mem_of_getElem? (i := 23) rfl) rfl
theorem ml_RX2_95 : Cond.methodLink RX2 95 yX2_takeHanded ∈ wALL := tb_4 (List.mem_of_getElem? (i := 24) rfl) rfl
theorem im_yX2_takeHanded : Cond.instanceMethod yX2_takeHanded ∈ wALL := tb_4 (List.mem_of_getElem? (i := 26) rfl) rfl
theorem se_yX2_takeHanded : Cond.selects RX2 yX2_takeHanded yX2_takeHanded ∈ wALL := tp_1 (n := 3) (List.mem_of_getElem? (i := 13) rfl) rfl
theorem cd_yX2_takeHanded : Cond.code yX2_takeHanded cX2_takeHanded 6 none ∈ wALL := tb_4 (List.mem_of_getElem? (i := 27) rfl) rfl
theorem ml_RX2_55 : Cond.methodLink RX2 55 yX2_lengthAt ∈ wALL := tb_4 (List.mem_of_getElem? (i := 28) rfl) rfl
theorem im_yX2_lengthAt : Cond.instanceMethod yX2_lengthAt ∈ wALL := tb_4 (List.mem_of_getElem? (i := 30) rfl) rfl
theorem se_yX2_lengthAt : Cond.selects RX2 yX2_lengthAt yX2_lengthAt ∈ wALL := tp_1 (n := 3) (List.mem_of_getElem? (i := 14) rfl) rfl
theorem cd_yX2_lengthAt : Cond.code yX2_lengthAt cX2_lengthAt 2 (some .int) ∈ wALL := tb_4 (List.mem_of_getElem? (i := 31) rfl) rfl
theorem ml_RX2_58 : Cond.methodLink RX2 58 yX2_codeIn ∈ wALL := tb_4 (List.mem_of_getElem? (i := 32) rfl) rfl
theorem im_yX2_codeIn : Cond.instanceMethod yX2_codeIn ∈ wALL := tb_4 (List.mem_of_getElem? (i := 34) rfl) rfl
theorem se_yX2_codeIn : Cond.selects RX2 yX2_codeIn yX2_codeIn ∈ wALL := tp_1 (n := 3) (List.mem_of_getElem? (i := 15) rfl) rfl
theorem cd_yX2_codeIn : Cond.code yX2_codeIn cX2_codeIn 3 (some .int) ∈ wALL := tb_4 (List.mem_of_getElem? (i := 35) rfl) rfl
theorem ml_RX2_115 : Cond.methodLink RX2 115 yX1_countsBelow ∈ wALL := tb_4 (List.mem_of_getElem? (i := 36) rfl) rfl
theorem ml_RX2_26 : Cond.methodLink RX2 26 yX2_decider ∈ wALL := tb_4 (List.mem_of_getElem? (i := 37) rfl) rfl
theorem im_yX2_decider : Cond.instanceMethod yX2_decider ∈ wALL := tb_4 (List.mem_of_getElem? (i := 39) rfl) rfl
theorem se_yX2_decider : Cond.selects RX2 yX2_decider yX2_decider ∈ wALL := tp_2 (n := 3) (List.mem_of_getElem? (i := 0) rfl) rfl
theorem cd_yX2_decider : Cond.code yX2_decider cX2_decider 9 (some .int) ∈ wALL := tb_4 (List.mem_of_getElem? (i := 40) rfl) rfl
theorem fl_RX2_36 : Cond.fieldLink RX2 36 "PermissionDesk$State" "club" "LPermissionDesk$Club;" ∈ wALL := tb_1 (List.mem_of_getElem? (i := 122) rfl) rfl
theorem ml_RX2_40 : Cond.methodLink RX2 40 yX0_groupsOver ∈ wALL := tb_4 (List.mem_of_getElem? (i := 41) rfl) rfl
theorem ml_RX2_50 : Cond.methodLink RX2 50 yX10_ownerAt ∈ wALL := tb_4 (List.mem_of_getElem? (i := 42) rfl) rfl
theorem ml_RX2_62 : Cond.methodLink RX2 62 yX1_rights ∈ wALL := tb_4 (List.mem_of_getElem? (i := 43) rfl) rfl
theorem ml_RX2_71 : Cond.methodLink RX2 71 yX1_isFor ∈ wALL := tb_4 (List.mem_of_getElem? (i := 44) rfl) rfl
theorem ml_RX2_30 : Cond.methodLink RX2 30 yX9_grants ∈ wALL := tb_4 (List.mem_of_getElem? (i := 45) rfl) rfl
theorem ml_RL_284 : Cond.methodLink RL 284 yL_decidingEntryOf ∈ wALL := tb_4 (List.mem_of_getElem? (i := 46) rfl) rfl
theorem st_yL_decidingEntryOf : Cond.static yL_decidingEntryOf ∈ wALL := tb_4 (List.mem_of_getElem? (i := 47) rfl) rfl
theorem cw_yL_decidingEntryOf : Cond.codeWith yL_decidingEntryOf cL_decidingEntryOf 5 (some .int) [(0, 7, 8, 24), (0, 7, 13, 51)] ∈ wALL := tb_4 (List.mem_of_getElem? (i := 48) rfl) rfl
theorem ml_RL_148 : Cond.methodLink RL 148 yX11_decidingEntry ∈ wALL := tb_4 (List.mem_of_getElem? (i := 49) rfl) rfl
theorem im_yX11_decidingEntry : Cond.instanceMethod yX11_decidingEntry ∈ wALL := tb_4 (List.mem_of_getElem? (i := 50) rfl) rfl
theorem se_yX11_decidingEntry : Cond.selects RX11 yX11_decidingEntry yX11_decidingEntry ∈ wALL := tb_4 (List.mem_of_getElem? (i := 51) rfl) rfl
theorem cd_yX11_decidingEntry : Cond.code yX11_decidingEntry cX11_decidingEntry 5 (some .int) ∈ wALL := tb_4 (List.mem_of_getElem? (i := 52) rfl) rfl
theorem ml_RL_287 : Cond.methodLink RL 287 yL_isStoppedByMaskOf ∈ wALL := tb_4 (List.mem_of_getElem? (i := 53) rfl) rfl
theorem st_yL_isStoppedByMaskOf : Cond.static yL_isStoppedByMaskOf ∈ wALL := tb_4 (List.mem_of_getElem? (i := 54) rfl) rfl
theorem cw_yL_isStoppedByMaskOf : Cond.codeWith yL_isStoppedByMaskOf cL_isStoppedByMaskOf 5 (some .int) [(0, 15, 16, 24), (0, 15, 21, 51)] ∈ wALL := tb_4 (List.mem_of_getElem? (i := 55) rfl) rfl
theorem ml_RL_151 : Cond.methodLink RL 151 yX11_isStoppedByMask ∈ wALL := tb_4 (List.mem_of_getElem? (i := 56) rfl) rfl
theorem im_yX11_isStoppedByMask : Cond.instanceMethod yX11_isStoppedByMask ∈ wALL := tb_4 (List.mem_of_getElem? (i := 57) rfl) rfl
theorem se_yX11_isStoppedByMask : Cond.selects RX11 yX11_isStoppedByMask yX11_isStoppedByMask ∈ wALL := tb_4 (List.mem_of_getElem? (i := 58) rfl) rfl
theorem cd_yX11_isStoppedByMask : Cond.code yX11_isStoppedByMask cX11_isStoppedByMask 4 (some .boolean) ∈ wALL := tb_4 (List.mem_of_getElem? (i := 59) rfl) rfl
theorem ml_RX11_333 : Cond.methodLink RX11 333 yX4_isStopped ∈ wALL := tb_4 (List.mem_of_getElem? (i := 60) rfl) rfl
theorem im_yX4_isStopped : Cond.instanceMethod yX4_isStopped ∈ wALL := tb_4 (List.mem_of_getElem? (i := 61) rfl) rfl
theorem se_yX4_isStopped : Cond.selects RX4 yX4_isStopped yX4_isStopped ∈ wALL := tb_4 (List.mem_of_getElem? (i := 62) rfl) rfl
theorem cd_yX4_isStopped : Cond.code yX4_isStopped cX4_isStopped 5 (some .boolean) ∈ wALL := tb_4 (List.mem_of_getElem? (i := 63) rfl) rfl
theorem ml_RX4_61 : Cond.methodLink RX4 61 yX1_allows ∈ wALL := tb_4 (List.mem_of_getElem? (i := 64) rfl) rfl
theorem ml_RL_290 : Cond.methodLink RL 290 yL_rightsThroughOf ∈ wALL := tb_4 (List.mem_of_getElem? (i := 65) rfl) rfl
theorem st_yL_rightsThroughOf : Cond.static yL_rightsThroughOf ∈ wALL := tb_4 (List.mem_of_getElem? (i := 66) rfl) rfl
theorem cw_yL_rightsThroughOf : Cond.codeWith yL_rightsThroughOf cL_rightsThroughOf 4 (some .int) [(0, 6, 7, 24)] ∈ wALL := tb_4 (List.mem_of_getElem? (i := 67) rfl) rfl
theorem ml_RL_157 : Cond.methodLink RL 157 yX11_rightsThrough ∈ wALL := tb_4 (List.mem_of_getElem? (i := 68) rfl) rfl
theorem im_yX11_rightsThrough : Cond.instanceMethod yX11_rightsThrough ∈ wALL := tb_4 (List.mem_of_getElem? (i := 69) rfl) rfl
theorem se_yX11_rightsThrough : Cond.selects RX11 yX11_rightsThrough yX11_rightsThrough ∈ wALL := tb_4 (List.mem_of_getElem? (i := 70) rfl) rfl
theorem cd_yX11_rightsThrough : Cond.code yX11_rightsThrough cX11_rightsThrough 3 (some .int) ∈ wALL := tb_4 (List.mem_of_getElem? (i := 71) rfl) rfl
theorem ml_RX11_339 : Cond.methodLink RX11 339 yX4_countThrough ∈ wALL := tb_4 (List.mem_of_getElem? (i := 72) rfl) rfl
theorem im_yX4_countThrough : Cond.instanceMethod yX4_countThrough ∈ wALL := tb_4 (List.mem_of_getElem? (i := 73) rfl) rfl
theorem se_yX4_countThrough : Cond.selects RX4 yX4_countThrough yX4_countThrough ∈ wALL := tb_4 (List.mem_of_getElem? (i := 74) rfl) rfl
theorem cd_yX4_countThrough : Cond.code yX4_countThrough cX4_countThrough 7 (some .int) ∈ wALL := tb_4 (List.mem_of_getElem? (i := 75) rfl) rfl
theorem ml_RX4_70 : Cond.methodLink RX4 70 yX4_decidedFor ∈ wALL := tb_4 (List.mem_of_getElem? (i := 76) rfl) rfl
theorem im_yX4_decidedFor : Cond.instanceMethod yX4_decidedFor ∈ wALL := tb_4 (List.mem_of_getElem? (i := 78) rfl) rfl
theorem se_yX4_decidedFor : Cond.selects RX4 yX4_decidedFor yX4_decidedFor ∈ wALL := tp_2 (n := 3) (List.mem_of_getElem? (i := 1) rfl) rfl
theorem cd_yX4_decidedFor : Cond.code yX4_decidedFor cX4_decidedFor 5 (some .int) ∈ wALL := tb_4 (List.mem_of_getElem? (i := 79) rfl) rfl
theorem ml_RX4_79 : Cond.methodLink RX4 79 yX1_kind ∈ wALL := tb_4 (List.mem_of_getElem? (i := 80) rfl) rfl
theorem ml_RX4_82 : Cond.methodLink RX4 82 yX1_number ∈ wALL := tb_4 (List.mem_of_getElem? (i := 81) rfl) rfl
theorem ml_RL_422 : Cond.methodLink RL 422 yL_isLog ∈ wALL := tb_4 (List.mem_of_getElem? (i := 141) rfl) rfl
theorem st_yL_isLog : Cond.static yL_isLog ∈ wALL := tb_4 (List.mem_of_getElem? (i := 142) rfl) rfl
theorem cd_yL_isLog : Cond.code yL_isLog cL_isLog 7 (some .boolean) ∈ wALL := tb_4 (List.mem_of_getElem? (i := 143) rfl) rfl
theorem ml_RL_316 : Cond.methodLink RL 316 yX11_requests ∈ wALL := tb_4 (List.mem_of_getElem? (i := 144) rfl) rfl
theorem im_yX11_requests : Cond.instanceMethod yX11_requests ∈ wALL := tb_4 (List.mem_of_getElem? (i := 145) rfl) rfl
theorem se_yX11_requests : Cond.selects RX11 yX11_requests yX11_requests ∈ wALL := tb_4 (List.mem_of_getElem? (i := 146) rfl) rfl
theorem cd_yX11_requests : Cond.code yX11_requests cX11_requests 1 (some .int) ∈ wALL := tb_4 (List.mem_of_getElem? (i := 147) rfl) rfl
theorem fl_RX11_345 : Cond.fieldLink RX11 345 "PermissionDesk$Log" "requests" "I" ∈ wALL := tb_1 (List.mem_of_getElem? (i := 102) rfl) rfl
theorem ml_RL_319 : Cond.methodLink RL 319 yX11_refusals ∈ wALL := tb_4 (List.mem_of_getElem? (i := 148) rfl) rfl
theorem im_yX11_refusals : Cond.instanceMethod yX11_refusals ∈ wALL := tb_4 (List.mem_of_getElem? (i := 149) rfl) rfl
theorem se_yX11_refusals : Cond.selects RX11 yX11_refusals yX11_refusals ∈ wALL := tb_4 (List.mem_of_getElem? (i := 150) rfl) rfl
theorem cd_yX11_refusals : Cond.code yX11_refusals cX11_refusals 1 (some .int) ∈ wALL := tb_4 (List.mem_of_getElem? (i := 151) rfl) rfl
theorem fl_RX11_348 : Cond.fieldLink RX11 348 "PermissionDesk$Log" "refusals" "I" ∈ wALL := tb_1 (List.mem_of_getElem? (i := 104) rfl) rfl
theorem ml_RL_322 : Cond.methodLink RL 322 yL_userOfRequestOf ∈ wALL := tb_4 (List.mem_of_getElem? (i := 152) rfl) rfl
theorem st_yL_userOfRequestOf : Cond.static yL_userOfRequestOf ∈ wALL := tb_4 (List.mem_of_getElem? (i := 153) rfl) rfl
theorem cw_yL_userOfRequestOf : Cond.codeWith yL_userOfRequestOf cL_userOfRequestOf 3 (some .int) [(0, 5, 6, 24)] ∈ wALL := tb_4 (List.mem_of_getElem? (i := 154) rfl) rfl
theorem ml_RL_163 : Cond.methodLink RL 163 yX11_userOfRequest ∈ wALL := tb_4 (List.mem_of_getElem? (i := 155) rfl) rfl
theorem im_yX11_userOfRequest : Cond.instanceMethod yX11_userOfRequest ∈ wALL := tb_4 (List.mem_of_getElem? (i := 156) rfl) rfl
theorem se_yX11_userOfRequest : Cond.selects RX11 yX11_userOfRequest yX11_userOfRequest ∈ wALL := tb_4 (List.mem_of_getElem? (i := 157) rfl) rfl
theorem cd_yX11_userOfRequest : Cond.code yX11_userOfRequest cX11_userOfRequest 2 (some .int) ∈ wALL := tb_4 (List.mem_of_getElem? (i := 158) rfl) rfl
theorem ml_RX11_351 : Cond.methodLink RX11 351 yX11_requireRequest ∈ wALL := tb_4 (List.mem_of_getElem? (i := 159) rfl) rfl
theorem im_yX11_requireRequest : Cond.instanceMethod yX11_requireRequest ∈ wALL := tb_4 (List.mem_of_getElem? (i := 161) rfl) rfl
theorem se_yX11_requireRequest : Cond.selects RX11 yX11_requireRequest yX11_requireRequest ∈ wALL := tp_2 (n := 7) (List.mem_of_getElem? (i := 3) rfl) rfl
theorem cd_yX11_requireRequest : Cond.code yX11_requireRequest cX11_requireRequest 2 none ∈ wALL := tb_4 (List.mem_of_getElem? (i := 162) rfl) rfl
theorem ml_RX11_399 : Cond.methodLink RX11 399 yX7_countKept ∈ wALL := tb_4 (List.mem_of_getElem? (i := 163) rfl) rfl
theorem im_yX7_countKept : Cond.instanceMethod yX7_countKept ∈ wALL := tb_4 (List.mem_of_getElem? (i := 164) rfl) rfl
theorem se_yX7_countKept : Cond.selects RX7 yX7_countKept yX7_countKept ∈ wALL := tb_4 (List.mem_of_getElem? (i := 165) rfl) rfl
theorem cd_yX7_countKept : Cond.code yX7_countKept cX7_countKept 1 (some .int) ∈ wALL := tb_4 (List.mem_of_getElem? (i := 166) rfl) rfl
theorem in_java_lang_Math : Cond.initialized "java/lang/Math" ∈ wALL := tb_1 (List.mem_of_getElem? (i := 16) rfl) rfl
theorem ml_RX11_354 : Cond.methodLink RX11 354 yX7_userAt ∈ wALL := tb_4 (List.mem_of_getElem? (i := 171) rfl) rfl
theorem im_yX7_userAt : Cond.instanceMethod yX7_userAt ∈ wALL := tb_4 (List.mem_of_getElem? (i := 172) rfl) rfl
theorem se_yX7_userAt : Cond.selects RX7 yX7_userAt yX7_userAt ∈ wALL := tb_4 (List.mem_of_getElem? (i := 173) rfl) rfl
theorem cd_yX7_userAt : Cond.code yX7_userAt cX7_userAt 2 (some .int) ∈ wALL := tb_4 (List.mem_of_getElem? (i := 174) rfl) rfl
theorem ml_RL_325 : Cond.methodLink RL 325 yL_objectOfRequestOf ∈ wALL := tb_4 (List.mem_of_getElem? (i := 182) rfl) rfl
theorem st_yL_objectOfRequestOf : Cond.static yL_objectOfRequestOf ∈ wALL := tb_4 (List.mem_of_getElem? (i := 183) rfl) rfl
theorem cw_yL_objectOfRequestOf : Cond.codeWith yL_objectOfRequestOf cL_objectOfRequestOf 3 (some .int) [(0, 5, 6, 24)] ∈ wALL := tb_4 (List.mem_of_getElem? (i := 184) rfl) rfl
theorem ml_RL_166 : Cond.methodLink RL 166 yX11_objectOfRequest ∈ wALL := tb_4 (List.mem_of_getElem? (i := 185) rfl) rfl
theorem im_yX11_objectOfRequest : Cond.instanceMethod yX11_objectOfRequest ∈ wALL := tb_4 (List.mem_of_getElem? (i := 186) rfl) rfl
theorem se_yX11_objectOfRequest : Cond.selects RX11 yX11_objectOfRequest yX11_objectOfRequest ∈ wALL := tb_4 (List.mem_of_getElem? (i := 187) rfl) rfl
theorem cd_yX11_objectOfRequest : Cond.code yX11_objectOfRequest cX11_objectOfRequest 2 (some .int) ∈ wALL := tb_4 (List.mem_of_getElem? (i := 188) rfl) rfl
theorem ml_RX11_357 : Cond.methodLink RX11 357 yX7_objectAt ∈ wALL := tb_4 (List.mem_of_getElem? (i := 189) rfl) rfl
theorem im_yX7_objectAt : Cond.instanceMethod yX7_objectAt ∈ wALL := tb_4 (List.mem_of_getElem? (i := 190) rfl) rfl
theorem se_yX7_objectAt : Cond.selects RX7 yX7_objectAt yX7_objectAt ∈ wALL := tb_4 (List.mem_of_getElem? (i := 191) rfl) rfl
theorem cd_yX7_objectAt : Cond.code yX7_objectAt cX7_objectAt 2 (some .int) ∈ wALL := tb_4 (List.mem_of_getElem? (i := 192) rfl) rfl
theorem ml_RL_328 : Cond.methodLink RL 328 yL_wasAllowedOf ∈ wALL := tb_4 (List.mem_of_getElem? (i := 193) rfl) rfl
theorem st_yL_wasAllowedOf : Cond.static yL_wasAllowedOf ∈ wALL := tb_4 (List.mem_of_getElem? (i := 194) rfl) rfl
theorem cw_yL_wasAllowedOf : Cond.codeWith yL_wasAllowedOf cL_wasAllowedOf 3 (some .int) [(0, 13, 14, 24)] ∈ wALL := tb_4 (List.mem_of_getElem? (i := 195) rfl) rfl
theorem ml_RL_169 : Cond.methodLink RL 169 yX11_wasAllowed ∈ wALL := tb_4 (List.mem_of_getElem? (i := 196) rfl) rfl
theorem im_yX11_wasAllowed : Cond.instanceMethod yX11_wasAllowed ∈ wALL := tb_4 (List.mem_of_getElem? (i := 197) rfl) rfl
theorem se_yX11_wasAllowed : Cond.selects RX11 yX11_wasAllowed yX11_wasAllowed ∈ wALL := tb_4 (List.mem_of_getElem? (i := 198) rfl) rfl
theorem cd_yX11_wasAllowed : Cond.code yX11_wasAllowed cX11_wasAllowed 2 (some .boolean) ∈ wALL := tb_4 (List.mem_of_getElem? (i := 199) rfl) rfl
theorem ml_RX11_360 : Cond.methodLink RX11 360 yX7_wasGranted ∈ wALL := tb_4 (List.mem_of_getElem? (i := 200) rfl) rfl
theorem im_yX7_wasGranted : Cond.instanceMethod yX7_wasGranted ∈ wALL := tb_4 (List.mem_of_getElem? (i := 201) rfl) rfl
theorem se_yX7_wasGranted : Cond.selects RX7 yX7_wasGranted yX7_wasGranted ∈ wALL := tb_4 (List.mem_of_getElem? (i := 202) rfl) rfl
theorem cd_yX7_wasGranted : Cond.code yX7_wasGranted cX7_wasGranted 2 (some .boolean) ∈ wALL := tb_4 (List.mem_of_getElem? (i := 203) rfl) rfl
theorem ml_RL_426 : Cond.methodLink RL 426 yL_areGroups ∈ wALL := tb_2 (List.mem_of_getElem? (i := 11) rfl) rfl
theorem st_yL_areGroups : Cond.static yL_areGroups ∈ wALL := tb_2 (List.mem_of_getElem? (i := 12) rfl) rfl
theorem cd_yL_areGroups : Cond.code yL_areGroups cL_areGroups 8 (some .boolean) ∈ wALL := tb_2 (List.mem_of_getElem? (i := 13) rfl) rfl
theorem ml_RL_202 : Cond.methodLink RL 202 yX11_users ∈ wALL := tb_2 (List.mem_of_getElem? (i := 14) rfl) rfl
theorem im_yX11_users : Cond.instanceMethod yX11_users ∈ wALL := tb_2 (List.mem_of_getElem? (i := 15) rfl) rfl
theorem se_yX11_users : Cond.selects RX11 yX11_users yX11_users ∈ wALL := tb_2 (List.mem_of_getElem? (i := 16) rfl) rfl
theorem cd_yX11_users : Cond.code yX11_users cX11_users 1 (some .int) ∈ wALL := tb_2 (List.mem_of_getElem? (i := 17) rfl) rfl
theorem ml_RL_205 : Cond.methodLink RL 205 yX11_groups ∈ wALL := tb_2 (List.mem_of_getElem? (i := 18) rfl) rfl
theorem im_yX11_groups : Cond.instanceMethod yX11_groups ∈ wALL := tb_2 (List.mem_of_getElem? (i := 19) rfl) rfl
theorem se_yX11_groups : Cond.selects RX11 yX11_groups yX11_groups ∈ wALL := tb_2 (List.mem_of_getElem? (i := 20) rfl) rfl
theorem cd_yX11_groups : Cond.code yX11_groups cX11_groups 1 (some .int) ∈ wALL := tb_2 (List.mem_of_getElem? (i := 21) rfl) rfl
theorem ml_RL_208 : Cond.methodLink RL 208 yL_isMemberOf ∈ wALL := tb_2 (List.mem_of_getElem? (i := 22) rfl) rfl
theorem st_yL_isMemberOf : Cond.static yL_isMemberOf ∈ wALL := tb_2 (List.mem_of_getElem? (i := 23) rfl) rfl
theorem cw_yL_isMemberOf : Cond.codeWith yL_isMemberOf cL_isMemberOf 4 (some .int) [(0, 14, 15, 24)] ∈ wALL := tb_2 (List.mem_of_getElem? (i := 24) rfl) rfl
theorem ml_RL_86 : Cond.methodLink RL 86 yX11_isMember ∈ wALL := tb_2 (List.mem_of_getElem? (i := 26) rfl) rfl
theorem im_yX11_isMember : Cond.instanceMethod yX11_isMember ∈ wALL := tb_2 (List.mem_of_getElem? (i := 27) rfl) rfl
theorem se_yX11_isMember : Cond.selects RX11 yX11_isMember yX11_isMember ∈ wALL := tb_2 (List.mem_of_getElem? (i := 28) rfl) rfl
theorem cd_yX11_isMember : Cond.code yX11_isMember cX11_isMember 3 (some .boolean) ∈ wALL := tb_2 (List.mem_of_getElem? (i := 29) rfl) rfl
theorem ml_RL_212 : Cond.methodLink RL 212 yL_isNestedOf ∈ wALL := tb_2 (List.mem_of_getElem? (i := 125) rfl) rfl
theorem st_yL_isNestedOf : Cond.static yL_isNestedOf ∈ wALL := tb_2 (List.mem_of_getElem? (i := 126) rfl) rfl
theorem cw_yL_isNestedOf : Cond.codeWith yL_isNestedOf cL_isNestedOf 4 (some .int) [(0, 14, 15, 24)] ∈ wALL := tb_2 (List.mem_of_getElem? (i := 127) rfl) rfl
theorem ml_RL_90 : Cond.methodLink RL 90 yX11_isNested ∈ wALL := tb_2 (List.mem_of_getElem? (i := 128) rfl) rfl
theorem im_yX11_isNested : Cond.instanceMethod yX11_isNested ∈ wALL := tb_2 (List.mem_of_getElem? (i := 129) rfl) rfl
theorem se_yX11_isNested : Cond.selects RX11 yX11_isNested yX11_isNested ∈ wALL := tb_2 (List.mem_of_getElem? (i := 130) rfl) rfl
theorem cd_yX11_isNested : Cond.code yX11_isNested cX11_isNested 3 (some .boolean) ∈ wALL := tb_2 (List.mem_of_getElem? (i := 131) rfl) rfl
theorem ml_RL_215 : Cond.methodLink RL 215 yL_belongsOf ∈ wALL := tb_2 (List.mem_of_getElem? (i := 136) rfl) rfl
theorem st_yL_belongsOf : Cond.static yL_belongsOf ∈ wALL := tb_2 (List.mem_of_getElem? (i := 137) rfl) rfl
theorem cw_yL_belongsOf : Cond.codeWith yL_belongsOf cL_belongsOf 4 (some .int) [(0, 14, 15, 24)] ∈ wALL := tb_2 (List.mem_of_getElem? (i := 138) rfl) rfl
theorem ml_RL_93 : Cond.methodLink RL 93 yX11_belongs ∈ wALL := tb_2 (List.mem_of_getElem? (i := 139) rfl) rfl
theorem im_yX11_belongs : Cond.instanceMethod yX11_belongs ∈ wALL := tb_2 (List.mem_of_getElem? (i := 140) rfl) rfl
theorem se_yX11_belongs : Cond.selects RX11 yX11_belongs yX11_belongs ∈ wALL := tb_2 (List.mem_of_getElem? (i := 141) rfl) rfl
theorem cd_yX11_belongs : Cond.code yX11_belongs cX11_belongs 3 (some .boolean) ∈ wALL := tb_2 (List.mem_of_getElem? (i := 142) rfl) rfl
theorem ml_RX11_299 : Cond.methodLink RX11 299 yX0_groupsOver ∈ wALL := tb_2 (List.mem_of_getElem? (i := 143) rfl) rfl
theorem ml_RX11_302 : Cond.methodLink RX11 302 yX11_has ∈ wALL := tb_2 (List.mem_of_getElem? (i := 151) rfl) rfl
theorem ml_RL_218 : Cond.methodLink RL 218 yL_belongsByMembersOf ∈ wALL := tb_2 (List.mem_of_getElem? (i := 152) rfl) rfl
theorem st_yL_belongsByMembersOf : Cond.static yL_belongsByMembersOf ∈ wALL := tb_2 (List.mem_of_getElem? (i := 153) rfl) rfl
theorem cw_yL_belongsByMembersOf : Cond.codeWith yL_belongsByMembersOf cL_belongsByMembersOf 4 (some .int) [(0, 14, 15, 24)] ∈ wALL := tb_2 (List.mem_of_getElem? (i := 154) rfl) rfl
theorem ml_RL_96 : Cond.methodLink RL 96 yX11_belongsByMembers ∈ wALL := tb_2 (List.mem_of_getElem? (i := 155) rfl) rfl
theorem im_yX11_belongsByMembers : Cond.instanceMethod yX11_belongsByMembers ∈ wALL := tb_2 (List.mem_of_getElem? (i := 156) rfl) rfl
theorem se_yX11_belongsByMembers : Cond.selects RX11 yX11_belongsByMembers yX11_belongsByMembers ∈ wALL := tb_2 (List.mem_of_getElem? (i := 157) rfl) rfl
theorem cd_yX11_belongsByMembers : Cond.code yX11_belongsByMembers cX11_belongsByMembers 3 (some .boolean) ∈ wALL := tb_2 (List.mem_of_getElem? (i := 158) rfl) rfl
theorem ml_RX11_305 : Cond.methodLink RX11 305 yX0_usersIn ∈ wALL := tb_2 (List.mem_of_getElem? (i := 159) rfl) rfl
theorem ml_RL_429 : Cond.methodLink RL 429 yL_areSums ∈ wALL := tb_4 (List.mem_of_getElem? (i := 83) rfl) rfl
theorem st_yL_areSums : Cond.static yL_areSums ∈ wALL := tb_4 (List.mem_of_getElem? (i := 84) rfl) rfl
theorem cd_yL_areSums : Cond.code yL_areSums cL_areSums 13 (some .boolean) ∈ wALL := tb_4 (List.mem_of_getElem? (i := 85) rfl) rfl
theorem co_RL_297 : Cond.constantLong RL 297 (15) ∈ wALL := tb_4 (List.mem_of_getElem? (i := 90) rfl) rfl
theorem ml_RL_302 : Cond.methodLink RL 302 yX11_allRights ∈ wALL := tb_4 (List.mem_of_getElem? (i := 94) rfl) rfl
theorem im_yX11_allRights : Cond.instanceMethod yX11_allRights ∈ wALL := tb_4 (List.mem_of_getElem? (i := 95) rfl) rfl
theorem se_yX11_allRights : Cond.selects RX11 yX11_allRights yX11_allRights ∈ wALL := tb_4 (List.mem_of_getElem? (i := 96) rfl) rfl
theorem cd_yX11_allRights : Cond.code yX11_allRights cX11_allRights 1 (some .int) ∈ wALL := tb_4 (List.mem_of_getElem? (i := 97) rfl) rfl
theorem ml_RX11_342 : Cond.methodLink RX11 342 yX4_countAll ∈ wALL := tb_4 (List.mem_of_getElem? (i := 98) rfl) rfl
theorem im_yX4_countAll : Cond.instanceMethod yX4_countAll ∈ wALL := tb_4 (List.mem_of_getElem? (i := 99) rfl) rfl
theorem se_yX4_countAll : Cond.selects RX4 yX4_countAll yX4_countAll ∈ wALL := tb_4 (List.mem_of_getElem? (i := 100) rfl) rfl
theorem cd_yX4_countAll : Cond.code yX4_countAll cX4_countAll 5 (some .int) ∈ wALL := tb_4 (List.mem_of_getElem? (i := 101) rfl) rfl
theorem ml_RL_305 : Cond.methodLink RL 305 yX11_openness ∈ wALL := tb_4 (List.mem_of_getElem? (i := 102) rfl) rfl
theorem im_yX11_openness : Cond.instanceMethod yX11_openness ∈ wALL := tb_4 (List.mem_of_getElem? (i := 103) rfl) rfl
theorem se_yX11_openness : Cond.selects RX11 yX11_openness yX11_openness ∈ wALL := tb_4 (List.mem_of_getElem? (i := 104) rfl) rfl
theorem cd_yX11_openness : Cond.code yX11_openness cX11_openness 2 (some .double) ∈ wALL := tb_4 (List.mem_of_getElem? (i := 105) rfl) rfl
theorem ml_RL_433 : Cond.methodLink RL 433 yL_isNeedless ∈ wALL := tb_4 (List.mem_of_getElem? (i := 107) rfl) rfl
theorem st_yL_isNeedless : Cond.static yL_isNeedless ∈ wALL := tb_4 (List.mem_of_getElem? (i := 108) rfl) rfl
theorem cd_yL_isNeedless : Cond.code yL_isNeedless cL_isNeedless 10 (some .boolean) ∈ wALL := tb_4 (List.mem_of_getElem? (i := 109) rfl) rfl
theorem ml_RL_309 : Cond.methodLink RL 309 yL_isNeedlessOf ∈ wALL := tb_4 (List.mem_of_getElem? (i := 110) rfl) rfl
theorem st_yL_isNeedlessOf : Cond.static yL_isNeedlessOf ∈ wALL := tb_4 (List.mem_of_getElem? (i := 111) rfl) rfl
theorem cw_yL_isNeedlessOf : Cond.codeWith yL_isNeedlessOf cL_isNeedlessOf 4 (some .int) [(0, 14, 15, 24)] ∈ wALL := tb_4 (List.mem_of_getElem? (i := 112) rfl) rfl
theorem ml_RL_160 : Cond.methodLink RL 160 yX11_isNeedless ∈ wALL := tb_4 (List.mem_of_getElem? (i := 113) rfl) rfl
theorem im_yX11_isNeedless : Cond.instanceMethod yX11_isNeedless ∈ wALL := tb_4 (List.mem_of_getElem? (i := 114) rfl) rfl
theorem se_yX11_isNeedless : Cond.selects RX11 yX11_isNeedless yX11_isNeedless ∈ wALL := tb_4 (List.mem_of_getElem? (i := 115) rfl) rfl
theorem cd_yX11_isNeedless : Cond.code yX11_isNeedless cX11_isNeedless 5 (some .boolean) ∈ wALL := tb_4 (List.mem_of_getElem? (i := 116) rfl) rfl
theorem ml_RX7_42 : Cond.methodLink RX7 42 Lib.Math.min.name ∈ wALL := tb_4 (List.mem_of_getElem? (i := 167) rfl) rfl
theorem st_min : Cond.static Lib.Math.min.name ∈ wALL := tb_4 (List.mem_of_getElem? (i := 168) rfl) rfl
theorem cd_min : Cond.code Lib.Math.min.name Lib.Math.min.code 2 (some .int) ∈ wALL := tb_4 (List.mem_of_getElem? (i := 169) rfl) rfl
theorem inl0 : ∀ w ∈ wsX00, w ∈ wALL := List.forall_mem_cons.mpr ⟨tb_1 (List.mem_of_getElem? (i := 50) rfl) rfl, List.forall_mem_cons.mpr ⟨tb_1 (List.mem_of_getElem? (i := 52) rfl) rfl, List.forall_mem_cons.mpr ⟨tb_1 (List.mem_of_getElem? (i := 54) rfl) rfl, List.forall_mem_cons.mpr ⟨tb_1 (List.mem_of_getElem? (i := 56) rfl) rfl, fun _ h => absurd h List.not_mem_nil⟩⟩⟩⟩
theorem inl2 : ∀ w ∈ wsX20, w ∈ wALL := List.forall_mem_cons.mpr ⟨tb_1 (List.mem_of_getElem? (i := 186) rfl) rfl, List.forall_mem_cons.mpr ⟨tb_1 (List.mem_of_getElem? (i := 188) rfl) rfl, List.forall_mem_cons.mpr ⟨tb_1 (List.mem_of_getElem? (i := 190) rfl) rfl, fun _ h => absurd h List.not_mem_nil⟩⟩⟩
theorem inl3 : ∀ w ∈ wsX30, w ∈ wALL := List.forall_mem_cons.mpr ⟨tb_1 (List.mem_of_getElem? (i := 154) rfl) rfl, List.forall_mem_cons.mpr ⟨tb_1 (List.mem_of_getElem? (i := 156) rfl) rfl, List.forall_mem_cons.mpr ⟨tb_1 (List.mem_of_getElem? (i := 158) rfl) rfl, fun _ h => absurd h List.not_mem_nil⟩⟩⟩
theorem inl4 : ∀ w ∈ wsX40, w ∈ wALL := List.forall_mem_cons.mpr ⟨tb_1 (List.mem_of_getElem? (i := 170) rfl) rfl, List.forall_mem_cons.mpr ⟨tb_1 (List.mem_of_getElem? (i := 172) rfl) rfl, List.forall_mem_cons.mpr ⟨tb_1 (List.mem_of_getElem? (i := 174) rfl) rfl, fun _ h => absurd h List.not_mem_nil⟩⟩⟩
theorem inl5 : ∀ w ∈ wsX50, w ∈ wALL := List.forall_mem_cons.mpr ⟨tb_1 (List.mem_of_getElem? (i := 216) rfl) rfl, List.forall_mem_cons.mpr ⟨tb_1 (List.mem_of_getElem? (i := 218) rfl) rfl, List.forall_mem_cons.mpr ⟨tb_1 (List.mem_of_getElem? (i := 220) rfl) rfl, List.forall_mem_cons.mpr ⟨tb_1 (List.mem_of_getElem? (i := 222) rfl) rfl, fun _ h => absurd h List.not_mem_nil⟩⟩⟩⟩
theorem inl6 : ∀ w ∈ wsX60, w ∈ wALL := List.forall_mem_cons.mpr ⟨tb_1 (List.mem_of_getElem? (i := 90) rfl) rfl, List.forall_mem_cons.mpr ⟨tb_1 (List.mem_of_getElem? (i := 92) rfl) rfl, fun _ h => absurd h List.not_mem_nil⟩⟩
theorem inl7 : ∀ w ∈ wsX70, w ∈ wALL := List.forall_mem_cons.mpr ⟨tb_1 (List.mem_of_getElem? (i := 108) rfl) rfl, List.forall_mem_cons.mpr ⟨tb_1 (List.mem_of_getElem? (i := 110) rfl) rfl, List.forall_mem_cons.mpr ⟨tb_1 (List.mem_of_getElem? (i := 112) rfl) rfl, List.forall_mem_cons.mpr ⟨tb_1 (List.mem_of_getElem? (i := 114) rfl) rfl, List.forall_mem_cons.mpr ⟨tb_1 (List.mem_of_getElem? (i := 116) rfl) rfl, fun _ h => absurd h List.not_mem_nil⟩⟩⟩⟩⟩
theorem inl8 : ∀ w ∈ wsX80, w ∈ wALL := List.forall_mem_cons.mpr ⟨tb_1 (List.mem_of_getElem? (i := 201) rfl) rfl, List.forall_mem_cons.mpr ⟨tb_1 (List.mem_of_getElem? (i := 203) rfl) rfl, fun _ h => absurd h List.not_mem_nil⟩⟩
theorem inl9 : ∀ w ∈ wsX90, w ∈ wALL := List.forall_mem_cons.mpr ⟨tb_1 (List.mem_of_getElem? (i := 133) rfl) rfl, List.forall_mem_cons.mpr ⟨tb_1 (List.mem_of_getElem? (i := 135) rfl) rfl, List.forall_mem_cons.mpr ⟨tb_1 (List.mem_of_getElem? (i := 137) rfl) rfl, List.forall_mem_cons.mpr ⟨tb_1 (List.mem_of_getElem? (i := 139) rfl) rfl, fun _ h => absurd h List.not_mem_nil⟩⟩⟩⟩
theorem inl10 : ∀ w ∈ wsX100, w ∈ wALL := List.forall_mem_cons.mpr ⟨tb_1 (List.mem_of_getElem? (i := 71) rfl) rfl, List.forall_mem_cons.mpr ⟨tb_1 (List.mem_of_getElem? (i := 73) rfl) rfl, List.forall_mem_cons.mpr ⟨tb_1 (List.mem_of_getElem? (i := 75) rfl) rfl, List.forall_mem_cons.mpr ⟨tb_1 (List.mem_of_getElem? (i := 77) rfl) rfl, List.forall_mem_cons.mpr ⟨tb_1 (List.mem_of_getElem? (i := 79) rfl) rfl, fun _ h => absurd h List.not_mem_nil⟩⟩⟩⟩⟩
theorem inl11 : ∀ w ∈ wsX110, w ∈ wALL := List.forall_mem_cons.mpr ⟨tb_1 (List.mem_of_getElem? (i := 232) rfl) rfl, List.forall_mem_cons.mpr ⟨tb_1 (List.mem_of_getElem? (i := 234) rfl) rfl, List.forall_mem_cons.mpr ⟨tb_1 (List.mem_of_getElem? (i := 236) rfl) rfl, List.forall_mem_cons.mpr ⟨tb_1 (List.mem_of_getElem? (i := 238) rfl) rfl, List.forall_mem_cons.mpr ⟨tb_2 (List.mem_of_getElem? (i := 0) rfl) rfl, List.forall_mem_cons.mpr ⟨tb_2 (List.mem_of_getElem? (i := 2) rfl) rfl, List.forall_mem_cons.mpr ⟨tb_2 (List.mem_of_getElem? (i := 4) rfl) rfl, fun _ h => absurd h List.not_mem_nil⟩⟩⟩⟩⟩⟩⟩
