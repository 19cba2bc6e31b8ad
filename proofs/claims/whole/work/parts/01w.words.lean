/-! the words that a call keeps, and each of them by name -/
def TB : List Cond := lw_tbl.filter goodWord
theorem TB_in {w : Cond} (h : w ∈ lw_tbl) (hg : goodWord w = true) : w ∈ TB := List.mem_filter.mpr ⟨h, hg⟩
theorem TB_t {w : Cond} (i : Nat) (h : tables_1[i]? = some w) (hg : goodWord w = true) : w ∈ TB := TB_in (List.mem_append_right _ (List.mem_of_getElem? h)) hg
theorem TB_p {w : Cond} (i : Nat) (h : (k2_sels lw_privs)[i]? = some w) (hg : goodWord w = true) : w ∈ TB := TB_in (List.mem_append_left _ (List.mem_of_getElem? h)) hg
theorem in_L : Cond.initialized RL ∈ TB := TB_t 0 (by decide +kernel) rfl
theorem in_X6 : Cond.initialized RX6 ∈ TB := TB_t 1 (by decide +kernel) rfl
theorem in_X5 : Cond.initialized RX5 ∈ TB := TB_t 2 (by decide +kernel) rfl
theorem in_X1 : Cond.initialized RX1 ∈ TB := TB_t 3 (by decide +kernel) rfl
theorem in_X0 : Cond.initialized RX0 ∈ TB := TB_t 4 (by decide +kernel) rfl
theorem in_X2 : Cond.initialized RX2 ∈ TB := TB_t 5 (by decide +kernel) rfl
theorem in_X4 : Cond.initialized RX4 ∈ TB := TB_t 6 (by decide +kernel) rfl
theorem in_X3 : Cond.initialized RX3 ∈ TB := TB_t 7 (by decide +kernel) rfl
theorem in_X7 : Cond.initialized RX7 ∈ TB := TB_t 8 (by decide +kernel) rfl
theorem in_J9 : Cond.initialized RJ9 ∈ TB := TB_t 9 (by decide +kernel) rfl
theorem in_J10 : Cond.initialized RJ10 ∈ TB := TB_t 10 (by decide +kernel) rfl
theorem in_J6 : Cond.initialized RJ6 ∈ TB := TB_t 11 (by decide +kernel) rfl
theorem cl_L_7 : Cond.classLink RL 7 RX6 ∈ TB := TB_t 12 (by decide +kernel) rfl
theorem ia_X6 : Cond.instantiable RX6 13 ∈ TB := TB_t 13 (by decide +kernel) rfl
theorem ml_L_9 : Cond.methodLink RL 9 yX6_init ∈ TB := TB_t 14 (by decide +kernel) rfl
theorem im_X6_init : Cond.instanceMethod yX6_init ∈ TB := TB_t 15 (by decide +kernel) rfl
set_option maxRecDepth 100000 in
theorem co_X6_init : Cond.code yX6_init cX6_init 2 none ∈ TB := TB_t 16 rfl rfl
theorem ml_X6_1 : Cond.methodLink RX6 1 (⟨"java/lang/Object", "<init>", "()V"⟩ : MethodName) ∈ TB := TB_t 17 (by decide +kernel) rfl
theorem im_Obj : Cond.instanceMethod (⟨"java/lang/Object", "<init>", "()V"⟩ : MethodName) ∈ TB := TB_t 18 (by decide +kernel) rfl
set_option maxRecDepth 100000 in
theorem co_Obj : Cond.code objectInit ⟨#[0xb1]⟩ 1 none ∈ TB := TB_t 19 rfl rfl
theorem cl_X6_7 : Cond.classLink RX6 7 RX5 ∈ TB := TB_t 20 (by decide +kernel) rfl
theorem ia_X5 : Cond.instantiable RX5 6 ∈ TB := TB_t 21 (by decide +kernel) rfl
theorem im_X5_init : Cond.instanceMethod yX5_init ∈ TB := TB_t 23 (by decide +kernel) rfl
set_option maxRecDepth 100000 in
theorem co_X5_init : Cond.code yX5_init cX5_init 1 none ∈ TB := TB_t 24 rfl rfl
theorem ml_X5_3 : Cond.methodLink RX5 3 (⟨"java/lang/Object", "<init>", "()V"⟩ : MethodName) ∈ TB := TB_t 25 (by decide +kernel) rfl
theorem fl_X5_9 : Cond.fieldLink RX5 9 "SparrowChange$Text" "letters" "[I" ∈ TB := TB_t 26 (by decide +kernel) rfl
theorem fl_X5_15 : Cond.fieldLink RX5 15 "SparrowChange$Text" "length" "I" ∈ TB := TB_t 27 (by decide +kernel) rfl
theorem fl_X6_81 : Cond.fieldLink RX6 81 "SparrowChange$Text" "length" "I" ∈ TB := TB_t 28 (by decide +kernel) rfl
theorem fl_X5_19 : Cond.fieldLink RX5 19 "SparrowChange$Text" "faultAt" "I" ∈ TB := TB_t 29 (by decide +kernel) rfl
theorem fl_X6_104 : Cond.fieldLink RX6 104 "SparrowChange$Text" "faultAt" "I" ∈ TB := TB_t 30 (by decide +kernel) rfl
theorem fl_X5_22 : Cond.fieldLink RX5 22 "SparrowChange$Text" "faultNumber" "I" ∈ TB := TB_t 31 (by decide +kernel) rfl
theorem fl_X5_25 : Cond.fieldLink RX5 25 "SparrowChange$Text" "at" "I" ∈ TB := TB_t 32 (by decide +kernel) rfl
theorem fl_X5_28 : Cond.fieldLink RX5 28 "SparrowChange$Text" "numberAt" "I" ∈ TB := TB_t 33 (by decide +kernel) rfl
theorem ac_int : Cond.arrayClass .int ∈ TB := TB_t 47 (by decide +kernel) rfl
theorem cl_X6_16 : Cond.classLink RX6 16 RX1 ∈ TB := TB_t 48 (by decide +kernel) rfl
theorem ia_X1 : Cond.instantiable RX1 11 ∈ TB := TB_t 49 (by decide +kernel) rfl
theorem im_X1_init : Cond.instanceMethod yX1_init ∈ TB := TB_t 51 (by decide +kernel) rfl
set_option maxRecDepth 100000 in
theorem co_X1_init : Cond.code yX1_init cX1_init 1 none ∈ TB := TB_t 52 rfl rfl
theorem ml_X1_3 : Cond.methodLink RX1 3 (⟨"java/lang/Object", "<init>", "()V"⟩ : MethodName) ∈ TB := TB_t 53 (by decide +kernel) rfl
theorem fl_X1_9 : Cond.fieldLink RX1 9 "SparrowChange$Parish" "stands" "Z" ∈ TB := TB_t 54 (by decide +kernel) rfl
theorem fl_X0_43 : Cond.fieldLink RX0 43 "SparrowChange$Parish" "stands" "Z" ∈ TB := TB_t 55 (by decide +kernel) rfl
theorem fl_X5_60 : Cond.fieldLink RX5 60 "SparrowChange$Parish" "stands" "Z" ∈ TB := TB_t 56 (by decide +kernel) rfl
theorem fl_X6_218 : Cond.fieldLink RX6 218 "SparrowChange$Parish" "stands" "Z" ∈ TB := TB_t 57 (by decide +kernel) rfl
theorem fl_X1_15 : Cond.fieldLink RX1 15 "SparrowChange$Parish" "dusk" "I" ∈ TB := TB_t 58 (by decide +kernel) rfl
theorem fl_X6_107 : Cond.fieldLink RX6 107 "SparrowChange$Parish" "dusk" "I" ∈ TB := TB_t 59 (by decide +kernel) rfl
theorem fl_X0_122 : Cond.fieldLink RX0 122 "SparrowChange$Parish" "dusk" "I" ∈ TB := TB_t 60 (by decide +kernel) rfl
theorem fl_X1_19 : Cond.fieldLink RX1 19 "SparrowChange$Parish" "tree" "I" ∈ TB := TB_t 61 (by decide +kernel) rfl
theorem fl_X0_40 : Cond.fieldLink RX0 40 "SparrowChange$Parish" "tree" "I" ∈ TB := TB_t 62 (by decide +kernel) rfl
theorem fl_X1_22 : Cond.fieldLink RX1 22 "SparrowChange$Parish" "persons" "I" ∈ TB := TB_t 63 (by decide +kernel) rfl
theorem fl_X6_101 : Cond.fieldLink RX6 101 "SparrowChange$Parish" "persons" "I" ∈ TB := TB_t 64 (by decide +kernel) rfl
theorem fl_X5_64 : Cond.fieldLink RX5 64 "SparrowChange$Parish" "persons" "I" ∈ TB := TB_t 65 (by decide +kernel) rfl
theorem fl_X0_95 : Cond.fieldLink RX0 95 "SparrowChange$Parish" "persons" "I" ∈ TB := TB_t 66 (by decide +kernel) rfl
theorem fl_X1_25 : Cond.fieldLink RX1 25 "SparrowChange$Parish" "debts" "I" ∈ TB := TB_t 67 (by decide +kernel) rfl
theorem fl_X4_21 : Cond.fieldLink RX4 21 "SparrowChange$Parish" "debts" "I" ∈ TB := TB_t 68 (by decide +kernel) rfl
theorem fl_X5_67 : Cond.fieldLink RX5 67 "SparrowChange$Parish" "debts" "I" ∈ TB := TB_t 69 (by decide +kernel) rfl
theorem fl_X6_110 : Cond.fieldLink RX6 110 "SparrowChange$Parish" "debts" "I" ∈ TB := TB_t 70 (by decide +kernel) rfl
theorem fl_X0_86 : Cond.fieldLink RX0 86 "SparrowChange$Parish" "debts" "I" ∈ TB := TB_t 71 (by decide +kernel) rfl
theorem fl_X1_28 : Cond.fieldLink RX1 28 "SparrowChange$Parish" "kind" "[I" ∈ TB := TB_t 72 (by decide +kernel) rfl
theorem fl_X6_161 : Cond.fieldLink RX6 161 "SparrowChange$Parish" "kind" "[I" ∈ TB := TB_t 73 (by decide +kernel) rfl
theorem fl_X0_112 : Cond.fieldLink RX0 112 "SparrowChange$Parish" "kind" "[I" ∈ TB := TB_t 74 (by decide +kernel) rfl
theorem fl_X1_32 : Cond.fieldLink RX1 32 "SparrowChange$Parish" "birds" "[I" ∈ TB := TB_t 75 (by decide +kernel) rfl
theorem fl_X0_51 : Cond.fieldLink RX0 51 "SparrowChange$Parish" "birds" "[I" ∈ TB := TB_t 76 (by decide +kernel) rfl
theorem fl_X1_35 : Cond.fieldLink RX1 35 "SparrowChange$Parish" "door" "[I" ∈ TB := TB_t 77 (by decide +kernel) rfl
theorem fl_X6_167 : Cond.fieldLink RX6 167 "SparrowChange$Parish" "door" "[I" ∈ TB := TB_t 78 (by decide +kernel) rfl
theorem fl_X0_98 : Cond.fieldLink RX0 98 "SparrowChange$Parish" "door" "[I" ∈ TB := TB_t 79 (by decide +kernel) rfl
theorem fl_X1_38 : Cond.fieldLink RX1 38 "SparrowChange$Parish" "debtor" "[I" ∈ TB := TB_t 80 (by decide +kernel) rfl
theorem fl_X4_41 : Cond.fieldLink RX4 41 "SparrowChange$Parish" "debtor" "[I" ∈ TB := TB_t 81 (by decide +kernel) rfl
theorem fl_X6_189 : Cond.fieldLink RX6 189 "SparrowChange$Parish" "debtor" "[I" ∈ TB := TB_t 82 (by decide +kernel) rfl
theorem fl_X0_89 : Cond.fieldLink RX0 89 "SparrowChange$Parish" "debtor" "[I" ∈ TB := TB_t 83 (by decide +kernel) rfl
theorem fl_X1_41 : Cond.fieldLink RX1 41 "SparrowChange$Parish" "creditor" "[I" ∈ TB := TB_t 84 (by decide +kernel) rfl
theorem fl_X6_192 : Cond.fieldLink RX6 192 "SparrowChange$Parish" "creditor" "[I" ∈ TB := TB_t 85 (by decide +kernel) rfl
theorem fl_X4_76 : Cond.fieldLink RX4 76 "SparrowChange$Parish" "creditor" "[I" ∈ TB := TB_t 86 (by decide +kernel) rfl
theorem fl_X0_92 : Cond.fieldLink RX0 92 "SparrowChange$Parish" "creditor" "[I" ∈ TB := TB_t 87 (by decide +kernel) rfl
theorem fl_X1_44 : Cond.fieldLink RX1 44 "SparrowChange$Parish" "owed" "[I" ∈ TB := TB_t 88 (by decide +kernel) rfl
theorem fl_X0_55 : Cond.fieldLink RX0 55 "SparrowChange$Parish" "owed" "[I" ∈ TB := TB_t 89 (by decide +kernel) rfl
theorem cl_X6_26 : Cond.classLink RX6 26 RX0 ∈ TB := TB_t 113 (by decide +kernel) rfl
theorem ia_X0 : Cond.instantiable RX0 9 ∈ TB := TB_t 114 (by decide +kernel) rfl
theorem im_X0_init : Cond.instanceMethod yX0_init ∈ TB := TB_t 116 (by decide +kernel) rfl
set_option maxRecDepth 100000 in
theorem co_X0_init : Cond.code yX0_init cX0_init 1 none ∈ TB := TB_t 117 rfl rfl
theorem ml_X0_3 : Cond.methodLink RX0 3 (⟨"java/lang/Object", "<init>", "()V"⟩ : MethodName) ∈ TB := TB_t 118 (by decide +kernel) rfl
theorem fl_X0_9 : Cond.fieldLink RX0 9 "SparrowChange$Flock" "tree" "I" ∈ TB := TB_t 119 (by decide +kernel) rfl
theorem fl_X6_116 : Cond.fieldLink RX6 116 "SparrowChange$Flock" "tree" "I" ∈ TB := TB_t 120 (by decide +kernel) rfl
theorem fl_X0_15 : Cond.fieldLink RX0 15 "SparrowChange$Flock" "hours" "I" ∈ TB := TB_t 121 (by decide +kernel) rfl
theorem fl_X6_113 : Cond.fieldLink RX6 113 "SparrowChange$Flock" "hours" "I" ∈ TB := TB_t 122 (by decide +kernel) rfl
theorem fl_X0_18 : Cond.fieldLink RX0 18 "SparrowChange$Flock" "netted" "I" ∈ TB := TB_t 123 (by decide +kernel) rfl
theorem fl_X6_123 : Cond.fieldLink RX6 123 "SparrowChange$Flock" "netted" "I" ∈ TB := TB_t 124 (by decide +kernel) rfl
theorem fl_X0_21 : Cond.fieldLink RX0 21 "SparrowChange$Flock" "ringed" "I" ∈ TB := TB_t 125 (by decide +kernel) rfl
theorem fl_X6_126 : Cond.fieldLink RX6 126 "SparrowChange$Flock" "ringed" "I" ∈ TB := TB_t 126 (by decide +kernel) rfl
theorem fl_X0_24 : Cond.fieldLink RX0 24 "SparrowChange$Flock" "placesEver" "I" ∈ TB := TB_t 127 (by decide +kernel) rfl
theorem fl_X0_27 : Cond.fieldLink RX0 27 "SparrowChange$Flock" "birds" "[I" ∈ TB := TB_t 128 (by decide +kernel) rfl
theorem fl_X6_164 : Cond.fieldLink RX6 164 "SparrowChange$Flock" "birds" "[I" ∈ TB := TB_t 129 (by decide +kernel) rfl
theorem fl_X3_38 : Cond.fieldLink RX3 38 "SparrowChange$Flock" "birds" "[I" ∈ TB := TB_t 130 (by decide +kernel) rfl
theorem fl_X4_67 : Cond.fieldLink RX4 67 "SparrowChange$Flock" "birds" "[I" ∈ TB := TB_t 131 (by decide +kernel) rfl
theorem fl_X0_31 : Cond.fieldLink RX0 31 "SparrowChange$Flock" "crumbs" "[I" ∈ TB := TB_t 132 (by decide +kernel) rfl
theorem fl_X6_170 : Cond.fieldLink RX6 170 "SparrowChange$Flock" "crumbs" "[I" ∈ TB := TB_t 133 (by decide +kernel) rfl
theorem fl_X0_34 : Cond.fieldLink RX0 34 "SparrowChange$Flock" "owed" "[I" ∈ TB := TB_t 134 (by decide +kernel) rfl
theorem fl_X4_44 : Cond.fieldLink RX4 44 "SparrowChange$Flock" "owed" "[I" ∈ TB := TB_t 135 (by decide +kernel) rfl
theorem fl_X6_195 : Cond.fieldLink RX6 195 "SparrowChange$Flock" "owed" "[I" ∈ TB := TB_t 136 (by decide +kernel) rfl
theorem fl_X0_37 : Cond.fieldLink RX0 37 "SparrowChange$Flock" "places" "[I" ∈ TB := TB_t 137 (by decide +kernel) rfl
theorem cl_X6_36 : Cond.classLink RX6 36 RX2 ∈ TB := TB_t 157 (by decide +kernel) rfl
theorem ia_X2 : Cond.instantiable RX2 3 ∈ TB := TB_t 158 (by decide +kernel) rfl
theorem ml_X6_38 : Cond.methodLink RX6 38 yX2_init ∈ TB := TB_t 159 (by decide +kernel) rfl
theorem im_X2_init : Cond.instanceMethod yX2_init ∈ TB := TB_t 160 (by decide +kernel) rfl
set_option maxRecDepth 100000 in
theorem co_X2_init : Cond.code yX2_init cX2_init 2 none ∈ TB := TB_t 161 rfl rfl
theorem ml_X2_3 : Cond.methodLink RX2 3 (⟨"java/lang/Object", "<init>", "()V"⟩ : MethodName) ∈ TB := TB_t 162 (by decide +kernel) rfl
theorem cl_X2_9 : Cond.classLink RX2 9 RX0 ∈ TB := TB_t 163 (by decide +kernel) rfl
theorem fl_X2_11 : Cond.fieldLink RX2 11 "SparrowChange$Past" "flocks" "[LSparrowChange$Flock;" ∈ TB := TB_t 166 (by decide +kernel) rfl
theorem fl_X2_17 : Cond.fieldLink RX2 17 "SparrowChange$Past" "next" "I" ∈ TB := TB_t 167 (by decide +kernel) rfl
theorem fl_X2_21 : Cond.fieldLink RX2 21 "SparrowChange$Past" "size" "I" ∈ TB := TB_t 168 (by decide +kernel) rfl
theorem fl_X6_153 : Cond.fieldLink RX6 153 "SparrowChange$Past" "size" "I" ∈ TB := TB_t 169 (by decide +kernel) rfl
theorem cl_X6_55 : Cond.classLink RX6 55 RX4 ∈ TB := TB_t 177 (by decide +kernel) rfl
theorem ia_X4 : Cond.instantiable RX4 2 ∈ TB := TB_t 178 (by decide +kernel) rfl
theorem im_X4_init : Cond.instanceMethod yX4_init ∈ TB := TB_t 180 (by decide +kernel) rfl
set_option maxRecDepth 100000 in
theorem co_X4_init : Cond.code yX4_init cX4_init 1 none ∈ TB := TB_t 181 rfl rfl
theorem ml_X4_3 : Cond.methodLink RX4 3 (⟨"java/lang/Object", "<init>", "()V"⟩ : MethodName) ∈ TB := TB_t 182 (by decide +kernel) rfl
theorem fl_X4_9 : Cond.fieldLink RX4 9 "SparrowChange$Settling" "hats" "[I" ∈ TB := TB_t 183 (by decide +kernel) rfl
theorem fl_X4_15 : Cond.fieldLink RX4 15 "SparrowChange$Settling" "bestBySet" "[I" ∈ TB := TB_t 184 (by decide +kernel) rfl
theorem ac_boolean : Cond.arrayClass .boolean ∈ TB := TB_t 190 (by decide +kernel) rfl
theorem cl_X6_62 : Cond.classLink RX6 62 RX3 ∈ TB := TB_t 191 (by decide +kernel) rfl
theorem ia_X3 : Cond.instantiable RX3 8 ∈ TB := TB_t 192 (by decide +kernel) rfl
theorem im_X3_init : Cond.instanceMethod yX3_init ∈ TB := TB_t 194 (by decide +kernel) rfl
set_option maxRecDepth 100000 in
theorem co_X3_init : Cond.code yX3_init cX3_init 1 none ∈ TB := TB_t 195 rfl rfl
theorem ml_X3_3 : Cond.methodLink RX3 3 (⟨"java/lang/Object", "<init>", "()V"⟩ : MethodName) ∈ TB := TB_t 196 (by decide +kernel) rfl
theorem fl_X3_9 : Cond.fieldLink RX3 9 "SparrowChange$Seen" "watched" "[I" ∈ TB := TB_t 197 (by decide +kernel) rfl
theorem fl_X3_15 : Cond.fieldLink RX3 15 "SparrowChange$Seen" "doorsOff" "[I" ∈ TB := TB_t 198 (by decide +kernel) rfl
theorem fl_X3_18 : Cond.fieldLink RX3 18 "SparrowChange$Seen" "wasFelt" "[Z" ∈ TB := TB_t 199 (by decide +kernel) rfl
theorem fl_X3_22 : Cond.fieldLink RX3 22 "SparrowChange$Seen" "entryPerson" "[I" ∈ TB := TB_t 200 (by decide +kernel) rfl
theorem fl_X3_25 : Cond.fieldLink RX3 25 "SparrowChange$Seen" "entryBirds" "[I" ∈ TB := TB_t 201 (by decide +kernel) rfl
theorem fl_X3_28 : Cond.fieldLink RX3 28 "SparrowChange$Seen" "watches" "I" ∈ TB := TB_t 202 (by decide +kernel) rfl
theorem fl_X6_144 : Cond.fieldLink RX6 144 "SparrowChange$Seen" "watches" "I" ∈ TB := TB_t 203 (by decide +kernel) rfl
theorem fl_X3_32 : Cond.fieldLink RX3 32 "SparrowChange$Seen" "feelings" "I" ∈ TB := TB_t 204 (by decide +kernel) rfl
theorem fl_X6_147 : Cond.fieldLink RX6 147 "SparrowChange$Seen" "feelings" "I" ∈ TB := TB_t 205 (by decide +kernel) rfl
theorem fl_X3_35 : Cond.fieldLink RX3 35 "SparrowChange$Seen" "entries" "I" ∈ TB := TB_t 206 (by decide +kernel) rfl
theorem fl_X6_150 : Cond.fieldLink RX6 150 "SparrowChange$Seen" "entries" "I" ∈ TB := TB_t 207 (by decide +kernel) rfl
theorem fl_X6_10 : Cond.fieldLink RX6 10 "SparrowChange" "text" "LSparrowChange$Text;" ∈ TB := TB_t 225 (by decide +kernel) rfl
theorem fl_X6_19 : Cond.fieldLink RX6 19 "SparrowChange" "here" "LSparrowChange$Parish;" ∈ TB := TB_t 226 (by decide +kernel) rfl
theorem fl_X6_23 : Cond.fieldLink RX6 23 "SparrowChange" "draft" "LSparrowChange$Parish;" ∈ TB := TB_t 227 (by decide +kernel) rfl
theorem fl_X6_29 : Cond.fieldLink RX6 29 "SparrowChange" "now" "LSparrowChange$Flock;" ∈ TB := TB_t 228 (by decide +kernel) rfl
theorem fl_X6_33 : Cond.fieldLink RX6 33 "SparrowChange" "trial" "LSparrowChange$Flock;" ∈ TB := TB_t 229 (by decide +kernel) rfl
theorem fl_X6_39 : Cond.fieldLink RX6 39 "SparrowChange" "past" "LSparrowChange$Past;" ∈ TB := TB_t 230 (by decide +kernel) rfl
theorem fl_X6_43 : Cond.fieldLink RX6 43 "SparrowChange" "images" "[LSparrowChange$Flock;" ∈ TB := TB_t 231 (by decide +kernel) rfl
theorem fl_X6_47 : Cond.fieldLink RX6 47 "SparrowChange" "imageSeeds" "[I" ∈ TB := TB_t 232 (by decide +kernel) rfl
theorem fl_X6_51 : Cond.fieldLink RX6 51 "SparrowChange" "imageThere" "[Z" ∈ TB := TB_t 233 (by decide +kernel) rfl
theorem fl_X6_58 : Cond.fieldLink RX6 58 "SparrowChange" "settling" "LSparrowChange$Settling;" ∈ TB := TB_t 234 (by decide +kernel) rfl
theorem fl_X6_65 : Cond.fieldLink RX6 65 "SparrowChange" "seen" "LSparrowChange$Seen;" ∈ TB := TB_t 235 (by decide +kernel) rfl
theorem fl_X6_69 : Cond.fieldLink RX6 69 "SparrowChange" "owedOnward" "[I" ∈ TB := TB_t 236 (by decide +kernel) rfl
theorem fl_X6_72 : Cond.fieldLink RX6 72 "SparrowChange" "theSeed" "I" ∈ TB := TB_t 237 (by decide +kernel) rfl
theorem ml_L_13 : Cond.methodLink RL 13 yX6_feed ∈ TB := TB_t 265 (by decide +kernel) rfl
theorem im_X6_feed : Cond.instanceMethod yX6_feed ∈ TB := TB_t 266 (by decide +kernel) rfl
theorem se_X6_feed : Cond.selects RX6 yX6_feed yX6_feed ∈ TB := TB_t 267 (by decide +kernel) rfl
set_option maxRecDepth 100000 in
theorem co_X6_feed : Cond.code yX6_feed cX6_feed 2 (some .int) ∈ TB := TB_t 268 rfl rfl
theorem ml_X6_76 : Cond.methodLink RX6 76 yX6_isOutside ∈ TB := TB_t 269 (by decide +kernel) rfl
theorem sm_X6_isOutside : Cond.static yX6_isOutside ∈ TB := TB_t 270 (by decide +kernel) rfl
set_option maxRecDepth 100000 in
theorem co_X6_isOutside : Cond.code yX6_isOutside cX6_isOutside 3 (some .boolean) ∈ TB := TB_t 271 rfl rfl
theorem kc_X6_80 : Cond.constant RX6 80 (-1000000002) ∈ TB := TB_t 272 (by decide +kernel) rfl
theorem kc_X6_84 : Cond.constant RX6 84 (-1000000004) ∈ TB := TB_t 273 (by decide +kernel) rfl
theorem ml_X6_85 : Cond.methodLink RX6 85 yX5_append ∈ TB := TB_t 274 (by decide +kernel) rfl
theorem im_X5_append : Cond.instanceMethod yX5_append ∈ TB := TB_t 275 (by decide +kernel) rfl
theorem se_X5_append : Cond.selects RX5 yX5_append yX5_append ∈ TB := TB_t 276 (by decide +kernel) rfl
set_option maxRecDepth 100000 in
theorem co_X5_append : Cond.code yX5_append cX5_append 2 (some .int) ∈ TB := TB_t 277 rfl rfl
theorem ml_L_18 : Cond.methodLink RL 18 yX6_parish ∈ TB := TB_t 278 (by decide +kernel) rfl
theorem im_X6_parish : Cond.instanceMethod yX6_parish ∈ TB := TB_t 279 (by decide +kernel) rfl
theorem se_X6_parish : Cond.selects RX6 yX6_parish yX6_parish ∈ TB := TB_t 280 (by decide +kernel) rfl
set_option maxRecDepth 100000 in
theorem co_X6_parish : Cond.code yX6_parish cX6_parish 4 (some .int) ∈ TB := TB_t 281 rfl rfl
theorem ml_X6_89 : Cond.methodLink RX6 89 yX5_readInto ∈ TB := TB_t 282 (by decide +kernel) rfl
theorem im_X5_readInto : Cond.instanceMethod yX5_readInto ∈ TB := TB_t 283 (by decide +kernel) rfl
theorem se_X5_readInto : Cond.selects RX5 yX5_readInto yX5_readInto ∈ TB := TB_t 284 (by decide +kernel) rfl
set_option maxRecDepth 100000 in
theorem co_X5_readInto : Cond.code yX5_readInto cX5_readInto 3 (some .int) ∈ TB := TB_t 285 rfl rfl
theorem ml_X5_31 : Cond.methodLink RX5 31 yX1_clear ∈ TB := TB_t 286 (by decide +kernel) rfl
theorem im_X1_clear : Cond.instanceMethod yX1_clear ∈ TB := TB_t 287 (by decide +kernel) rfl
theorem se_X1_clear : Cond.selects RX1 yX1_clear yX1_clear ∈ TB := TB_t 288 (by decide +kernel) rfl
set_option maxRecDepth 100000 in
theorem co_X1_clear : Cond.code yX1_clear cX1_clear 1 none ∈ TB := TB_t 289 rfl rfl
theorem ml_X5_36 : Cond.methodLink RX5 36 yX5_skipBlanks ∈ TB := TB_t 290 (by decide +kernel) rfl
theorem im_X5_skipBlanks : Cond.instanceMethod yX5_skipBlanks ∈ TB := TB_t 292 (by decide +kernel) rfl
set_option maxRecDepth 100000 in
theorem co_X5_skipBlanks : Cond.code yX5_skipBlanks cX5_skipBlanks 1 none ∈ TB := TB_t 293 rfl rfl
theorem ml_X5_39 : Cond.methodLink RX5 39 yX5_readClause ∈ TB := TB_t 294 (by decide +kernel) rfl
theorem im_X5_readClause : Cond.instanceMethod yX5_readClause ∈ TB := TB_t 296 (by decide +kernel) rfl
set_option maxRecDepth 100000 in
theorem co_X5_readClause : Cond.code yX5_readClause cX5_readClause 4 none ∈ TB := TB_t 297 rfl rfl
theorem ml_X5_43 : Cond.methodLink RX5 43 yX5_faultOfWord ∈ TB := TB_t 298 (by decide +kernel) rfl
theorem sm_X5_faultOfWord : Cond.static yX5_faultOfWord ∈ TB := TB_t 299 (by decide +kernel) rfl
set_option maxRecDepth 100000 in
theorem co_X5_faultOfWord : Cond.code yX5_faultOfWord cX5_faultOfWord 2 (some .int) ∈ TB := TB_t 300 rfl rfl
theorem ml_X5_47 : Cond.methodLink RX5 47 yX5_noteFault ∈ TB := TB_t 301 (by decide +kernel) rfl
theorem im_X5_noteFault : Cond.instanceMethod yX5_noteFault ∈ TB := TB_t 303 (by decide +kernel) rfl
set_option maxRecDepth 100000 in
theorem co_X5_noteFault : Cond.code yX5_noteFault cX5_noteFault 3 none ∈ TB := TB_t 304 rfl rfl
theorem ml_X5_51 : Cond.methodLink RX5 51 yX5_readTree ∈ TB := TB_t 305 (by decide +kernel) rfl
theorem im_X5_readTree : Cond.instanceMethod yX5_readTree ∈ TB := TB_t 307 (by decide +kernel) rfl
set_option maxRecDepth 100000 in
theorem co_X5_readTree : Cond.code yX5_readTree cX5_readTree 4 none ∈ TB := TB_t 308 rfl rfl
theorem ml_X5_70 : Cond.methodLink RX5 70 yX5_readNumber ∈ TB := TB_t 309 (by decide +kernel) rfl
theorem im_X5_readNumber : Cond.instanceMethod yX5_readNumber ∈ TB := TB_t 311 (by decide +kernel) rfl
set_option maxRecDepth 100000 in
theorem co_X5_readNumber : Cond.code yX5_readNumber cX5_readNumber 4 (some .int) ∈ TB := TB_t 312 rfl rfl
theorem ml_X5_74 : Cond.methodLink RX5 74 yX5_readEnd ∈ TB := TB_t 314 (by decide +kernel) rfl
theorem im_X5_readEnd : Cond.instanceMethod yX5_readEnd ∈ TB := TB_t 316 (by decide +kernel) rfl
set_option maxRecDepth 100000 in
theorem co_X5_readEnd : Cond.code yX5_readEnd cX5_readEnd 1 none ∈ TB := TB_t 317 rfl rfl
theorem ml_X5_77 : Cond.methodLink RX5 77 yX1_setTree ∈ TB := TB_t 318 (by decide +kernel) rfl
theorem im_X1_setTree : Cond.instanceMethod yX1_setTree ∈ TB := TB_t 319 (by decide +kernel) rfl
theorem se_X1_setTree : Cond.selects RX1 yX1_setTree yX1_setTree ∈ TB := TB_t 320 (by decide +kernel) rfl
set_option maxRecDepth 100000 in
theorem co_X1_setTree : Cond.code yX1_setTree cX1_setTree 3 none ∈ TB := TB_t 321 rfl rfl
theorem ml_X5_54 : Cond.methodLink RX5 54 yX5_readPerson ∈ TB := TB_t 322 (by decide +kernel) rfl
theorem im_X5_readPerson : Cond.instanceMethod yX5_readPerson ∈ TB := TB_t 324 (by decide +kernel) rfl
set_option maxRecDepth 100000 in
theorem co_X5_readPerson : Cond.code yX5_readPerson cX5_readPerson 5 none ∈ TB := TB_t 325 rfl rfl
theorem ml_X5_80 : Cond.methodLink RX5 80 yX1_addPerson ∈ TB := TB_t 326 (by decide +kernel) rfl
theorem im_X1_addPerson : Cond.instanceMethod yX1_addPerson ∈ TB := TB_t 327 (by decide +kernel) rfl
theorem se_X1_addPerson : Cond.selects RX1 yX1_addPerson yX1_addPerson ∈ TB := TB_t 328 (by decide +kernel) rfl
set_option maxRecDepth 100000 in
theorem co_X1_addPerson : Cond.code yX1_addPerson cX1_addPerson 4 none ∈ TB := TB_t 329 rfl rfl
theorem ml_X5_57 : Cond.methodLink RX5 57 yX5_readDebt ∈ TB := TB_t 330 (by decide +kernel) rfl
theorem im_X5_readDebt : Cond.instanceMethod yX5_readDebt ∈ TB := TB_t 332 (by decide +kernel) rfl
set_option maxRecDepth 100000 in
theorem co_X5_readDebt : Cond.code yX5_readDebt cX5_readDebt 5 none ∈ TB := TB_t 333 rfl rfl
theorem ml_X5_84 : Cond.methodLink RX5 84 yX1_addDebt ∈ TB := TB_t 334 (by decide +kernel) rfl
theorem im_X1_addDebt : Cond.instanceMethod yX1_addDebt ∈ TB := TB_t 335 (by decide +kernel) rfl
theorem se_X1_addDebt : Cond.selects RX1 yX1_addDebt yX1_addDebt ∈ TB := TB_t 336 (by decide +kernel) rfl
set_option maxRecDepth 100000 in
theorem co_X1_addDebt : Cond.code yX1_addDebt cX1_addDebt 4 none ∈ TB := TB_t 337 rfl rfl
theorem ml_X6_93 : Cond.methodLink RX6 93 yX0_begin ∈ TB := TB_t 338 (by decide +kernel) rfl
theorem im_X0_begin : Cond.instanceMethod yX0_begin ∈ TB := TB_t 339 (by decide +kernel) rfl
theorem se_X0_begin : Cond.selects RX0 yX0_begin yX0_begin ∈ TB := TB_t 340 (by decide +kernel) rfl
set_option maxRecDepth 100000 in
theorem co_X0_begin : Cond.code yX0_begin cX0_begin 3 none ∈ TB := TB_t 341 rfl rfl
theorem ml_X0_47 : Cond.methodLink RX0 47 yX1_hasPerson ∈ TB := TB_t 342 (by decide +kernel) rfl
theorem im_X1_hasPerson : Cond.instanceMethod yX1_hasPerson ∈ TB := TB_t 343 (by decide +kernel) rfl
theorem se_X1_hasPerson : Cond.selects RX1 yX1_hasPerson yX1_hasPerson ∈ TB := TB_t 344 (by decide +kernel) rfl
set_option maxRecDepth 100000 in
theorem co_X1_hasPerson : Cond.code yX1_hasPerson cX1_hasPerson 2 (some .boolean) ∈ TB := TB_t 345 rfl rfl
theorem ml_X0_52 : Cond.methodLink RX0 52 yX1_hasDebt ∈ TB := TB_t 346 (by decide +kernel) rfl
theorem im_X1_hasDebt : Cond.instanceMethod yX1_hasDebt ∈ TB := TB_t 347 (by decide +kernel) rfl
theorem se_X1_hasDebt : Cond.selects RX1 yX1_hasDebt yX1_hasDebt ∈ TB := TB_t 348 (by decide +kernel) rfl
set_option maxRecDepth 100000 in
theorem co_X1_hasDebt : Cond.code yX1_hasDebt cX1_hasDebt 2 (some .boolean) ∈ TB := TB_t 349 rfl rfl
theorem ml_X0_56 : Cond.methodLink RX0 56 yX0_notePlace ∈ TB := TB_t 350 (by decide +kernel) rfl
theorem im_X0_notePlace : Cond.instanceMethod yX0_notePlace ∈ TB := TB_t 352 (by decide +kernel) rfl
set_option maxRecDepth 100000 in
theorem co_X0_notePlace : Cond.code yX0_notePlace cX0_notePlace 1 none ∈ TB := TB_t 353 rfl rfl
theorem ml_X0_69 : Cond.methodLink RX0 69 yJ9_floorMod_7cf53 ∈ TB := TB_t 354 (by decide +kernel) rfl
theorem sm_J9_floorMod_7cf53 : Cond.static yJ9_floorMod_7cf53 ∈ TB := TB_t 355 (by decide +kernel) rfl
set_option maxRecDepth 100000 in
theorem co_J9_floorMod_7cf53 : Cond.code yJ9_floorMod_7cf53 cJ9_floorMod_7cf53 3 (some .int) ∈ TB := TB_t 356 rfl rfl
theorem ml_X6_97 : Cond.methodLink RX6 97 yX2_forget ∈ TB := TB_t 357 (by decide +kernel) rfl
theorem im_X2_forget : Cond.instanceMethod yX2_forget ∈ TB := TB_t 358 (by decide +kernel) rfl
theorem se_X2_forget : Cond.selects RX2 yX2_forget yX2_forget ∈ TB := TB_t 359 (by decide +kernel) rfl
set_option maxRecDepth 100000 in
theorem co_X2_forget : Cond.code yX2_forget cX2_forget 1 none ∈ TB := TB_t 360 rfl rfl
theorem ml_X6_100 : Cond.methodLink RX6 100 yX3_forget ∈ TB := TB_t 361 (by decide +kernel) rfl
theorem im_X3_forget : Cond.instanceMethod yX3_forget ∈ TB := TB_t 362 (by decide +kernel) rfl
theorem se_X3_forget : Cond.selects RX3 yX3_forget yX3_forget ∈ TB := TB_t 363 (by decide +kernel) rfl
set_option maxRecDepth 100000 in
theorem co_X3_forget : Cond.code yX3_forget cX3_forget 1 none ∈ TB := TB_t 364 rfl rfl
theorem ml_L_23 : Cond.methodLink RL 23 yX6_fault ∈ TB := TB_t 365 (by decide +kernel) rfl
theorem im_X6_fault : Cond.instanceMethod yX6_fault ∈ TB := TB_t 366 (by decide +kernel) rfl
theorem se_X6_fault : Cond.selects RX6 yX6_fault yX6_fault ∈ TB := TB_t 367 (by decide +kernel) rfl
set_option maxRecDepth 100000 in
theorem co_X6_fault : Cond.code yX6_fault cX6_fault 1 (some .int) ∈ TB := TB_t 368 rfl rfl
theorem ml_L_27 : Cond.methodLink RL 27 yX6_told ∈ TB := TB_t 369 (by decide +kernel) rfl
theorem im_X6_told : Cond.instanceMethod yX6_told ∈ TB := TB_t 370 (by decide +kernel) rfl
theorem se_X6_told : Cond.selects RX6 yX6_told yX6_told ∈ TB := TB_t 371 (by decide +kernel) rfl
set_option maxRecDepth 100000 in
theorem co_X6_told : Cond.code yX6_told cX6_told 2 (some .int) ∈ TB := TB_t 372 rfl rfl
theorem ml_X6_119 : Cond.methodLink RX6 119 yX0_inAllHats ∈ TB := TB_t 373 (by decide +kernel) rfl
theorem im_X0_inAllHats : Cond.instanceMethod yX0_inAllHats ∈ TB := TB_t 374 (by decide +kernel) rfl
theorem se_X0_inAllHats : Cond.selects RX0 yX0_inAllHats yX0_inAllHats ∈ TB := TB_t 375 (by decide +kernel) rfl
set_option maxRecDepth 100000 in
theorem co_X0_inAllHats : Cond.code yX0_inAllHats cX0_inAllHats 3 (some .int) ∈ TB := TB_t 376 rfl rfl
theorem ml_X6_129 : Cond.methodLink RX6 129 yX0_placesKnown ∈ TB := TB_t 377 (by decide +kernel) rfl
theorem im_X0_placesKnown : Cond.instanceMethod yX0_placesKnown ∈ TB := TB_t 378 (by decide +kernel) rfl
theorem se_X0_placesKnown : Cond.selects RX0 yX0_placesKnown yX0_placesKnown ∈ TB := TB_t 379 (by decide +kernel) rfl
set_option maxRecDepth 100000 in
theorem co_X0_placesKnown : Cond.code yX0_placesKnown cX0_placesKnown 1 (some .int) ∈ TB := TB_t 380 rfl rfl
theorem ml_X0_75 : Cond.methodLink RX0 75 yJ9_min_7cf53 ∈ TB := TB_t 381 (by decide +kernel) rfl
theorem sm_J9_min_7cf53 : Cond.static yJ9_min_7cf53 ∈ TB := TB_t 382 (by decide +kernel) rfl
set_option maxRecDepth 100000 in
theorem co_J9_min_7cf53 : Cond.code yJ9_min_7cf53 cJ9_min_7cf53 2 (some .int) ∈ TB := TB_t 383 rfl rfl
theorem ml_X6_132 : Cond.methodLink RX6 132 yX6_richest ∈ TB := TB_t 384 (by decide +kernel) rfl
theorem im_X6_richest : Cond.instanceMethod yX6_richest ∈ TB := TB_t 386 (by decide +kernel) rfl
set_option maxRecDepth 100000 in
theorem co_X6_richest : Cond.code yX6_richest cX6_richest 4 (some .int) ∈ TB := TB_t 387 rfl rfl
theorem ml_X6_135 : Cond.methodLink RX6 135 yX6_rings ∈ TB := TB_t 388 (by decide +kernel) rfl
theorem im_X6_rings : Cond.instanceMethod yX6_rings ∈ TB := TB_t 390 (by decide +kernel) rfl
set_option maxRecDepth 100000 in
theorem co_X6_rings : Cond.code yX6_rings cX6_rings 3 (some .int) ∈ TB := TB_t 391 rfl rfl
theorem ml_X6_312 : Cond.methodLink RX6 312 yX6_creditorsOf ∈ TB := TB_t 392 (by decide +kernel) rfl
theorem im_X6_creditorsOf : Cond.instanceMethod yX6_creditorsOf ∈ TB := TB_t 394 (by decide +kernel) rfl
set_option maxRecDepth 100000 in
theorem co_X6_creditorsOf : Cond.code yX6_creditorsOf cX6_creditorsOf 4 (some .int) ∈ TB := TB_t 395 rfl rfl
theorem ml_X6_315 : Cond.methodLink RX6 315 yX6_has ∈ TB := TB_t 396 (by decide +kernel) rfl
theorem sm_X6_has : Cond.static yX6_has ∈ TB := TB_t 397 (by decide +kernel) rfl
set_option maxRecDepth 100000 in
theorem co_X6_has : Cond.code yX6_has cX6_has 2 (some .boolean) ∈ TB := TB_t 398 rfl rfl
theorem ml_X6_138 : Cond.methodLink RX6 138 yX6_owedInAll ∈ TB := TB_t 399 (by decide +kernel) rfl
theorem im_X6_owedInAll : Cond.instanceMethod yX6_owedInAll ∈ TB := TB_t 401 (by decide +kernel) rfl
set_option maxRecDepth 100000 in
theorem co_X6_owedInAll : Cond.code yX6_owedInAll cX6_owedInAll 3 (some .int) ∈ TB := TB_t 402 rfl rfl
theorem ml_X6_141 : Cond.methodLink RX6 141 yX6_suspects ∈ TB := TB_t 403 (by decide +kernel) rfl
theorem im_X6_suspects : Cond.instanceMethod yX6_suspects ∈ TB := TB_t 405 (by decide +kernel) rfl
set_option maxRecDepth 100000 in
theorem co_X6_suspects : Cond.code yX6_suspects cX6_suspects 3 (some .int) ∈ TB := TB_t 406 rfl rfl
theorem ml_X6_319 : Cond.methodLink RX6 319 yX0_drawnBy ∈ TB := TB_t 407 (by decide +kernel) rfl
theorem im_X0_drawnBy : Cond.instanceMethod yX0_drawnBy ∈ TB := TB_t 408 (by decide +kernel) rfl
theorem se_X0_drawnBy : Cond.selects RX0 yX0_drawnBy yX0_drawnBy ∈ TB := TB_t 409 (by decide +kernel) rfl
set_option maxRecDepth 100000 in
theorem co_X0_drawnBy : Cond.code yX0_drawnBy cX0_drawnBy 5 (some .int) ∈ TB := TB_t 410 rfl rfl
theorem ml_X0_115 : Cond.methodLink RX0 115 yX0_loss ∈ TB := TB_t 411 (by decide +kernel) rfl
theorem im_X0_loss : Cond.instanceMethod yX0_loss ∈ TB := TB_t 412 (by decide +kernel) rfl
theorem se_X0_loss : Cond.selects RX0 yX0_loss yX0_loss ∈ TB := TB_t 413 (by decide +kernel) rfl
set_option maxRecDepth 100000 in
theorem co_X0_loss : Cond.code yX0_loss cX0_loss 6 (some .int) ∈ TB := TB_t 414 rfl rfl
theorem ml_X0_105 : Cond.methodLink RX0 105 yX0_hasNet ∈ TB := TB_t 415 (by decide +kernel) rfl
theorem im_X0_hasNet : Cond.instanceMethod yX0_hasNet ∈ TB := TB_t 416 (by decide +kernel) rfl
theorem se_X0_hasNet : Cond.selects RX0 yX0_hasNet yX0_hasNet ∈ TB := TB_t 417 (by decide +kernel) rfl
set_option maxRecDepth 100000 in
theorem co_X0_hasNet : Cond.code yX0_hasNet cX0_hasNet 2 (some .boolean) ∈ TB := TB_t 418 rfl rfl
theorem ml_X6_323 : Cond.methodLink RX6 323 yX3_allWatchedAre ∈ TB := TB_t 420 (by decide +kernel) rfl
theorem im_X3_allWatchedAre : Cond.instanceMethod yX3_allWatchedAre ∈ TB := TB_t 421 (by decide +kernel) rfl
theorem se_X3_allWatchedAre : Cond.selects RX3 yX3_allWatchedAre yX3_allWatchedAre ∈ TB := TB_t 422 (by decide +kernel) rfl
set_option maxRecDepth 100000 in
theorem co_X3_allWatchedAre : Cond.code yX3_allWatchedAre cX3_allWatchedAre 3 (some .boolean) ∈ TB := TB_t 423 rfl rfl
theorem ml_L_31 : Cond.methodLink RL 31 yX6_person ∈ TB := TB_t 424 (by decide +kernel) rfl
theorem im_X6_person : Cond.instanceMethod yX6_person ∈ TB := TB_t 425 (by decide +kernel) rfl
theorem se_X6_person : Cond.selects RX6 yX6_person yX6_person ∈ TB := TB_t 426 (by decide +kernel) rfl
set_option maxRecDepth 100000 in
theorem co_X6_person : Cond.code yX6_person cX6_person 3 (some .int) ∈ TB := TB_t 427 rfl rfl
theorem ml_X6_156 : Cond.methodLink RX6 156 yX1_hasPerson ∈ TB := TB_t 428 (by decide +kernel) rfl
theorem kc_X6_160 : Cond.constant RX6 160 (-1000000001) ∈ TB := TB_t 429 (by decide +kernel) rfl
theorem ml_X6_173 : Cond.methodLink RX6 173 yX0_hasNet ∈ TB := TB_t 430 (by decide +kernel) rfl
theorem ml_X6_176 : Cond.methodLink RX6 176 yX6_owedBy ∈ TB := TB_t 431 (by decide +kernel) rfl
theorem im_X6_owedBy : Cond.instanceMethod yX6_owedBy ∈ TB := TB_t 433 (by decide +kernel) rfl
set_option maxRecDepth 100000 in
theorem co_X6_owedBy : Cond.code yX6_owedBy cX6_owedBy 4 (some .int) ∈ TB := TB_t 434 rfl rfl
theorem ml_X6_179 : Cond.methodLink RX6 179 yX6_owedTo ∈ TB := TB_t 435 (by decide +kernel) rfl
theorem im_X6_owedTo : Cond.instanceMethod yX6_owedTo ∈ TB := TB_t 437 (by decide +kernel) rfl
set_option maxRecDepth 100000 in
theorem co_X6_owedTo : Cond.code yX6_owedTo cX6_owedTo 4 (some .int) ∈ TB := TB_t 438 rfl rfl
theorem ml_X6_182 : Cond.methodLink RX6 182 yX0_loss ∈ TB := TB_t 439 (by decide +kernel) rfl
theorem ml_L_36 : Cond.methodLink RL 36 yX6_debt ∈ TB := TB_t 440 (by decide +kernel) rfl
theorem im_X6_debt : Cond.instanceMethod yX6_debt ∈ TB := TB_t 441 (by decide +kernel) rfl
theorem se_X6_debt : Cond.selects RX6 yX6_debt yX6_debt ∈ TB := TB_t 442 (by decide +kernel) rfl
set_option maxRecDepth 100000 in
theorem co_X6_debt : Cond.code yX6_debt cX6_debt 3 (some .int) ∈ TB := TB_t 443 rfl rfl
theorem ml_X6_186 : Cond.methodLink RX6 186 yX1_hasDebt ∈ TB := TB_t 444 (by decide +kernel) rfl
theorem ml_L_40 : Cond.methodLink RL 40 yX6_trace ∈ TB := TB_t 445 (by decide +kernel) rfl
theorem im_X6_trace : Cond.instanceMethod yX6_trace ∈ TB := TB_t 446 (by decide +kernel) rfl
theorem se_X6_trace : Cond.selects RX6 yX6_trace yX6_trace ∈ TB := TB_t 447 (by decide +kernel) rfl
set_option maxRecDepth 100000 in
theorem co_X6_trace : Cond.code yX6_trace cX6_trace 2 (some .int) ∈ TB := TB_t 448 rfl rfl
theorem ml_X6_198 : Cond.methodLink RX6 198 yX0_placeBack ∈ TB := TB_t 449 (by decide +kernel) rfl
theorem im_X0_placeBack : Cond.instanceMethod yX0_placeBack ∈ TB := TB_t 450 (by decide +kernel) rfl
theorem se_X0_placeBack : Cond.selects RX0 yX0_placeBack yX0_placeBack ∈ TB := TB_t 451 (by decide +kernel) rfl
set_option maxRecDepth 100000 in
theorem co_X0_placeBack : Cond.code yX0_placeBack cX0_placeBack 2 (some .int) ∈ TB := TB_t 452 rfl rfl
theorem ml_X0_78 : Cond.methodLink RX0 78 yX0_placesKnown ∈ TB := TB_t 453 (by decide +kernel) rfl
theorem ml_L_44 : Cond.methodLink RL 44 yX6_count ∈ TB := TB_t 454 (by decide +kernel) rfl
theorem im_X6_count : Cond.instanceMethod yX6_count ∈ TB := TB_t 455 (by decide +kernel) rfl
theorem se_X6_count : Cond.selects RX6 yX6_count yX6_count ∈ TB := TB_t 456 (by decide +kernel) rfl
set_option maxRecDepth 100000 in
theorem co_X6_count : Cond.code yX6_count cX6_count 3 (some .int) ∈ TB := TB_t 457 rfl rfl
theorem kc_X6_201 : Cond.constant RX6 201 (-1000000003) ∈ TB := TB_t 458 (by decide +kernel) rfl
theorem ml_X6_202 : Cond.methodLink RX6 202 yX2_remember ∈ TB := TB_t 459 (by decide +kernel) rfl
theorem im_X2_remember : Cond.instanceMethod yX2_remember ∈ TB := TB_t 460 (by decide +kernel) rfl
theorem se_X2_remember : Cond.selects RX2 yX2_remember yX2_remember ∈ TB := TB_t 461 (by decide +kernel) rfl
set_option maxRecDepth 100000 in
theorem co_X2_remember : Cond.code yX2_remember cX2_remember 2 none ∈ TB := TB_t 462 rfl rfl
theorem ml_X2_25 : Cond.methodLink RX2 25 yX0_copyFrom ∈ TB := TB_t 463 (by decide +kernel) rfl
theorem im_X0_copyFrom : Cond.instanceMethod yX0_copyFrom ∈ TB := TB_t 464 (by decide +kernel) rfl
theorem se_X0_copyFrom : Cond.selects RX0 yX0_copyFrom yX0_copyFrom ∈ TB := TB_t 465 (by decide +kernel) rfl
set_option maxRecDepth 100000 in
theorem co_X0_copyFrom : Cond.code yX0_copyFrom cX0_copyFrom 2 none ∈ TB := TB_t 466 rfl rfl
theorem ml_X0_59 : Cond.methodLink RX0 59 (⟨"java/lang/System", "arraycopy", "(Ljava/lang/Object;ILjava/lang/Object;II)V"⟩ : MethodName) ∈ TB := TB_t 467 (by decide +kernel) rfl
theorem sm_Obj : Cond.static (⟨"java/lang/System", "arraycopy", "(Ljava/lang/Object;ILjava/lang/Object;II)V"⟩ : MethodName) ∈ TB := TB_t 468 (by decide +kernel) rfl
theorem nat_arraycopy : Cond.native arraycopyName ∈ TB := TB_t 469 (by decide +kernel) rfl
theorem ml_X2_29 : Cond.methodLink RX2 29 yJ9_min_7cf53 ∈ TB := TB_t 470 (by decide +kernel) rfl
theorem ml_X6_206 : Cond.methodLink RX6 206 yX0_move ∈ TB := TB_t 471 (by decide +kernel) rfl
theorem im_X0_move : Cond.instanceMethod yX0_move ∈ TB := TB_t 472 (by decide +kernel) rfl
theorem se_X0_move : Cond.selects RX0 yX0_move yX0_move ∈ TB := TB_t 473 (by decide +kernel) rfl
set_option maxRecDepth 100000 in
theorem co_X0_move : Cond.code yX0_move cX0_move 4 none ∈ TB := TB_t 474 rfl rfl
theorem ml_X0_82 : Cond.methodLink RX0 82 yX0_changeBy ∈ TB := TB_t 475 (by decide +kernel) rfl
theorem im_X0_changeBy : Cond.instanceMethod yX0_changeBy ∈ TB := TB_t 477 (by decide +kernel) rfl
set_option maxRecDepth 100000 in
theorem co_X0_changeBy : Cond.code yX0_changeBy cX0_changeBy 3 none ∈ TB := TB_t 478 rfl rfl
theorem ml_L_48 : Cond.methodLink RL 48 yX6_pay ∈ TB := TB_t 479 (by decide +kernel) rfl
theorem im_X6_pay : Cond.instanceMethod yX6_pay ∈ TB := TB_t 480 (by decide +kernel) rfl
theorem se_X6_pay : Cond.selects RX6 yX6_pay yX6_pay ∈ TB := TB_t 481 (by decide +kernel) rfl
set_option maxRecDepth 100000 in
theorem co_X6_pay : Cond.code yX6_pay cX6_pay 4 (some .int) ∈ TB := TB_t 482 rfl rfl
theorem ml_X6_210 : Cond.methodLink RX6 210 yX0_lessenDebts ∈ TB := TB_t 483 (by decide +kernel) rfl
theorem im_X0_lessenDebts : Cond.instanceMethod yX0_lessenDebts ∈ TB := TB_t 484 (by decide +kernel) rfl
theorem se_X0_lessenDebts : Cond.selects RX0 yX0_lessenDebts yX0_lessenDebts ∈ TB := TB_t 485 (by decide +kernel) rfl
set_option maxRecDepth 100000 in
theorem co_X0_lessenDebts : Cond.code yX0_lessenDebts cX0_lessenDebts 9 (some .int) ∈ TB := TB_t 486 rfl rfl
theorem ml_L_53 : Cond.methodLink RL 53 yX6_strew ∈ TB := TB_t 487 (by decide +kernel) rfl
theorem im_X6_strew : Cond.instanceMethod yX6_strew ∈ TB := TB_t 488 (by decide +kernel) rfl
theorem se_X6_strew : Cond.selects RX6 yX6_strew yX6_strew ∈ TB := TB_t 489 (by decide +kernel) rfl
set_option maxRecDepth 100000 in
theorem co_X6_strew : Cond.code yX6_strew cX6_strew 3 (some .int) ∈ TB := TB_t 490 rfl rfl
theorem ml_X6_214 : Cond.methodLink RX6 214 yX0_addCrumbs ∈ TB := TB_t 491 (by decide +kernel) rfl
theorem im_X0_addCrumbs : Cond.instanceMethod yX0_addCrumbs ∈ TB := TB_t 492 (by decide +kernel) rfl
theorem se_X0_addCrumbs : Cond.selects RX0 yX0_addCrumbs yX0_addCrumbs ∈ TB := TB_t 493 (by decide +kernel) rfl
set_option maxRecDepth 100000 in
theorem co_X0_addCrumbs : Cond.code yX0_addCrumbs cX0_addCrumbs 3 none ∈ TB := TB_t 494 rfl rfl
theorem ml_L_57 : Cond.methodLink RL 57 yX6_net ∈ TB := TB_t 495 (by decide +kernel) rfl
theorem im_X6_net : Cond.instanceMethod yX6_net ∈ TB := TB_t 496 (by decide +kernel) rfl
theorem se_X6_net : Cond.selects RX6 yX6_net yX6_net ∈ TB := TB_t 497 (by decide +kernel) rfl
set_option maxRecDepth 100000 in
theorem co_X6_net : Cond.code yX6_net cX6_net 5 (some .int) ∈ TB := TB_t 498 rfl rfl
theorem ml_L_62 : Cond.methodLink RL 62 yX6_hawk ∈ TB := TB_t 499 (by decide +kernel) rfl
theorem im_X6_hawk : Cond.instanceMethod yX6_hawk ∈ TB := TB_t 500 (by decide +kernel) rfl
theorem se_X6_hawk : Cond.selects RX6 yX6_hawk yX6_hawk ∈ TB := TB_t 501 (by decide +kernel) rfl
set_option maxRecDepth 100000 in
theorem co_X6_hawk : Cond.code yX6_hawk cX6_hawk 3 (some .int) ∈ TB := TB_t 502 rfl rfl
theorem ml_X6_222 : Cond.methodLink RX6 222 yX0_scare ∈ TB := TB_t 503 (by decide +kernel) rfl
theorem im_X0_scare : Cond.instanceMethod yX0_scare ∈ TB := TB_t 504 (by decide +kernel) rfl
theorem se_X0_scare : Cond.selects RX0 yX0_scare yX0_scare ∈ TB := TB_t 505 (by decide +kernel) rfl
set_option maxRecDepth 100000 in
theorem co_X0_scare : Cond.code yX0_scare cX0_scare 6 (some .int) ∈ TB := TB_t 506 rfl rfl
theorem ml_X0_101 : Cond.methodLink RX0 101 yJ9_abs_0f7a4 ∈ TB := TB_t 507 (by decide +kernel) rfl
theorem sm_J9_abs_0f7a4 : Cond.static yJ9_abs_0f7a4 ∈ TB := TB_t 508 (by decide +kernel) rfl
set_option maxRecDepth 100000 in
theorem co_J9_abs_0f7a4 : Cond.code yJ9_abs_0f7a4 cJ9_abs_0f7a4 1 (some .int) ∈ TB := TB_t 509 rfl rfl
theorem ml_X0_108 : Cond.methodLink RX0 108 yX0_move ∈ TB := TB_t 510 (by decide +kernel) rfl
theorem ml_L_66 : Cond.methodLink RL 66 yX6_hour ∈ TB := TB_t 511 (by decide +kernel) rfl
theorem im_X6_hour : Cond.instanceMethod yX6_hour ∈ TB := TB_t 512 (by decide +kernel) rfl
theorem se_X6_hour : Cond.selects RX6 yX6_hour yX6_hour ∈ TB := TB_t 513 (by decide +kernel) rfl
set_option maxRecDepth 100000 in
theorem co_X6_hour : Cond.code yX6_hour cX6_hour 4 (some .int) ∈ TB := TB_t 514 rfl rfl
theorem ml_X6_226 : Cond.methodLink RX6 226 yX6_refusalOfHours ∈ TB := TB_t 515 (by decide +kernel) rfl
theorem im_X6_refusalOfHours : Cond.instanceMethod yX6_refusalOfHours ∈ TB := TB_t 517 (by decide +kernel) rfl
set_option maxRecDepth 100000 in
theorem co_X6_refusalOfHours : Cond.code yX6_refusalOfHours cX6_refusalOfHours 2 (some .int) ∈ TB := TB_t 518 rfl rfl
theorem ml_X6_229 : Cond.methodLink RX6 229 yX0_passHour ∈ TB := TB_t 519 (by decide +kernel) rfl
theorem im_X0_passHour : Cond.instanceMethod yX0_passHour ∈ TB := TB_t 520 (by decide +kernel) rfl
theorem se_X0_passHour : Cond.selects RX0 yX0_passHour yX0_passHour ∈ TB := TB_t 521 (by decide +kernel) rfl
set_option maxRecDepth 100000 in
theorem co_X0_passHour : Cond.code yX0_passHour cX0_passHour 2 none ∈ TB := TB_t 522 rfl rfl
theorem ml_X0_125 : Cond.methodLink RX0 125 yX0_flyForAnHour ∈ TB := TB_t 523 (by decide +kernel) rfl
theorem im_X0_flyForAnHour : Cond.instanceMethod yX0_flyForAnHour ∈ TB := TB_t 524 (by decide +kernel) rfl
theorem se_X0_flyForAnHour : Cond.selects RX0 yX0_flyForAnHour yX0_flyForAnHour ∈ TB := TB_t 525 (by decide +kernel) rfl
set_option maxRecDepth 100000 in
theorem co_X0_flyForAnHour : Cond.code yX0_flyForAnHour cX0_flyForAnHour 4 none ∈ TB := TB_t 526 rfl rfl
theorem ml_X0_119 : Cond.methodLink RX0 119 yX0_whoDraws ∈ TB := TB_t 527 (by decide +kernel) rfl
theorem im_X0_whoDraws : Cond.instanceMethod yX0_whoDraws ∈ TB := TB_t 529 (by decide +kernel) rfl
set_option maxRecDepth 100000 in
theorem co_X0_whoDraws : Cond.code yX0_whoDraws cX0_whoDraws 4 (some .int) ∈ TB := TB_t 530 rfl rfl
theorem ml_X0_129 : Cond.methodLink RX0 129 yX0_isDusk ∈ TB := TB_t 531 (by decide +kernel) rfl
theorem im_X0_isDusk : Cond.instanceMethod yX0_isDusk ∈ TB := TB_t 532 (by decide +kernel) rfl
theorem se_X0_isDusk : Cond.selects RX0 yX0_isDusk yX0_isDusk ∈ TB := TB_t 533 (by decide +kernel) rfl
set_option maxRecDepth 100000 in
theorem co_X0_isDusk : Cond.code yX0_isDusk cX0_isDusk 2 (some .boolean) ∈ TB := TB_t 534 rfl rfl
theorem ml_X0_133 : Cond.methodLink RX0 133 yX0_goHome ∈ TB := TB_t 535 (by decide +kernel) rfl
theorem im_X0_goHome : Cond.instanceMethod yX0_goHome ∈ TB := TB_t 537 (by decide +kernel) rfl
set_option maxRecDepth 100000 in
theorem co_X0_goHome : Cond.code yX0_goHome cX0_goHome 3 none ∈ TB := TB_t 538 rfl rfl
theorem ml_L_70 : Cond.methodLink RL 70 yX6_drift ∈ TB := TB_t 539 (by decide +kernel) rfl
theorem im_X6_drift : Cond.instanceMethod yX6_drift ∈ TB := TB_t 540 (by decide +kernel) rfl
theorem se_X6_drift : Cond.selects RX6 yX6_drift yX6_drift ∈ TB := TB_t 541 (by decide +kernel) rfl
set_option maxRecDepth 100000 in
theorem co_X6_drift : Cond.code yX6_drift cX6_drift 4 (some .int) ∈ TB := TB_t 542 rfl rfl
theorem ml_X6_232 : Cond.methodLink RX6 232 yX6_doByDraw ∈ TB := TB_t 543 (by decide +kernel) rfl
theorem im_X6_doByDraw : Cond.instanceMethod yX6_doByDraw ∈ TB := TB_t 545 (by decide +kernel) rfl
set_option maxRecDepth 100000 in
theorem co_X6_doByDraw : Cond.code yX6_doByDraw cX6_doByDraw 3 none ∈ TB := TB_t 546 rfl rfl
theorem ml_X6_306 : Cond.methodLink RX6 306 yX6_drawOf ∈ TB := TB_t 547 (by decide +kernel) rfl
theorem im_X6_drawOf : Cond.instanceMethod yX6_drawOf ∈ TB := TB_t 549 (by decide +kernel) rfl
set_option maxRecDepth 100000 in
theorem co_X6_drawOf : Cond.code yX6_drawOf cX6_drawOf 2 (some .int) ∈ TB := TB_t 550 rfl rfl
theorem kc_X6_303 : Cond.constant RX6 303 (1103515245) ∈ TB := TB_t 551 (by decide +kernel) rfl
theorem kc_X6_304 : Cond.constant RX6 304 (2147483647) ∈ TB := TB_t 552 (by decide +kernel) rfl
theorem kc_X6_305 : Cond.constant RX6 305 (65536) ∈ TB := TB_t 553 (by decide +kernel) rfl
theorem ml_X6_309 : Cond.methodLink RX6 309 yJ9_min_7cf53 ∈ TB := TB_t 554 (by decide +kernel) rfl
theorem ml_L_74 : Cond.methodLink RL 74 yX6_undo ∈ TB := TB_t 555 (by decide +kernel) rfl
theorem im_X6_undo : Cond.instanceMethod yX6_undo ∈ TB := TB_t 556 (by decide +kernel) rfl
theorem se_X6_undo : Cond.selects RX6 yX6_undo yX6_undo ∈ TB := TB_t 557 (by decide +kernel) rfl
set_option maxRecDepth 100000 in
theorem co_X6_undo : Cond.code yX6_undo cX6_undo 1 (some .int) ∈ TB := TB_t 558 rfl rfl
theorem ml_X6_235 : Cond.methodLink RX6 235 yX2_recallInto ∈ TB := TB_t 559 (by decide +kernel) rfl
theorem im_X2_recallInto : Cond.instanceMethod yX2_recallInto ∈ TB := TB_t 560 (by decide +kernel) rfl
theorem se_X2_recallInto : Cond.selects RX2 yX2_recallInto yX2_recallInto ∈ TB := TB_t 561 (by decide +kernel) rfl
set_option maxRecDepth 100000 in
theorem co_X2_recallInto : Cond.code yX2_recallInto cX2_recallInto 2 none ∈ TB := TB_t 562 rfl rfl
theorem ml_L_78 : Cond.methodLink RL 78 yX6_hat ∈ TB := TB_t 563 (by decide +kernel) rfl
theorem im_X6_hat : Cond.instanceMethod yX6_hat ∈ TB := TB_t 564 (by decide +kernel) rfl
theorem se_X6_hat : Cond.selects RX6 yX6_hat yX6_hat ∈ TB := TB_t 565 (by decide +kernel) rfl
set_option maxRecDepth 100000 in
theorem co_X6_hat : Cond.code yX6_hat cX6_hat 4 (some .int) ∈ TB := TB_t 566 rfl rfl
theorem ml_X6_238 : Cond.methodLink RX6 238 yX0_copyFrom ∈ TB := TB_t 567 (by decide +kernel) rfl
theorem ml_L_82 : Cond.methodLink RL 82 yX6_most ∈ TB := TB_t 568 (by decide +kernel) rfl
theorem im_X6_most : Cond.instanceMethod yX6_most ∈ TB := TB_t 569 (by decide +kernel) rfl
theorem se_X6_most : Cond.selects RX6 yX6_most yX6_most ∈ TB := TB_t 570 (by decide +kernel) rfl
set_option maxRecDepth 100000 in
theorem co_X6_most : Cond.code yX6_most cX6_most 7 (some .int) ∈ TB := TB_t 571 rfl rfl
theorem ml_L_86 : Cond.methodLink RL 86 yX6_kept ∈ TB := TB_t 572 (by decide +kernel) rfl
theorem im_X6_kept : Cond.instanceMethod yX6_kept ∈ TB := TB_t 573 (by decide +kernel) rfl
theorem se_X6_kept : Cond.selects RX6 yX6_kept yX6_kept ∈ TB := TB_t 574 (by decide +kernel) rfl
set_option maxRecDepth 100000 in
theorem co_X6_kept : Cond.code yX6_kept cX6_kept 3 (some .int) ∈ TB := TB_t 575 rfl rfl
theorem ml_X6_241 : Cond.methodLink RX6 241 yX0_flyForAnHour ∈ TB := TB_t 576 (by decide +kernel) rfl
theorem ml_X6_244 : Cond.methodLink RX6 244 yX0_isDusk ∈ TB := TB_t 577 (by decide +kernel) rfl
theorem ml_L_90 : Cond.methodLink RL 90 yX6_settled ∈ TB := TB_t 578 (by decide +kernel) rfl
theorem im_X6_settled : Cond.instanceMethod yX6_settled ∈ TB := TB_t 579 (by decide +kernel) rfl
theorem se_X6_settled : Cond.selects RX6 yX6_settled yX6_settled ∈ TB := TB_t 580 (by decide +kernel) rfl
set_option maxRecDepth 100000 in
theorem co_X6_settled : Cond.code yX6_settled cX6_settled 3 (some .int) ∈ TB := TB_t 581 rfl rfl
theorem ml_X6_248 : Cond.methodLink RX6 248 yX4_longestRow ∈ TB := TB_t 582 (by decide +kernel) rfl
theorem im_X4_longestRow : Cond.instanceMethod yX4_longestRow ∈ TB := TB_t 583 (by decide +kernel) rfl
theorem se_X4_longestRow : Cond.selects RX4 yX4_longestRow yX4_longestRow ∈ TB := TB_t 584 (by decide +kernel) rfl
set_option maxRecDepth 100000 in
theorem co_X4_longestRow : Cond.code yX4_longestRow cX4_longestRow 9 (some .int) ∈ TB := TB_t 585 rfl rfl
theorem ml_X4_18 : Cond.methodLink RX4 18 yX4_beginSets ∈ TB := TB_t 586 (by decide +kernel) rfl
theorem im_X4_beginSets : Cond.instanceMethod yX4_beginSets ∈ TB := TB_t 588 (by decide +kernel) rfl
set_option maxRecDepth 100000 in
theorem co_X4_beginSets : Cond.code yX4_beginSets cX4_beginSets 2 none ∈ TB := TB_t 589 rfl rfl
theorem ml_X4_27 : Cond.methodLink RX4 27 yJ6_bitCount_0f7a4 ∈ TB := TB_t 590 (by decide +kernel) rfl
theorem sm_J6_bitCount_0f7a4 : Cond.static yJ6_bitCount_0f7a4 ∈ TB := TB_t 591 (by decide +kernel) rfl
set_option maxRecDepth 100000 in
theorem co_J6_bitCount_0f7a4 : Cond.code yJ6_bitCount_0f7a4 cJ6_bitCount_0f7a4 1 (some .int) ∈ TB := TB_t 592 rfl rfl
theorem kc_J6_265 : Cond.constant RJ6 265 (1431655765) ∈ TB := TB_t 593 (by decide +kernel) rfl
theorem kc_J6_266 : Cond.constant RJ6 266 (858993459) ∈ TB := TB_t 594 (by decide +kernel) rfl
theorem kc_J6_267 : Cond.constant RJ6 267 (252645135) ∈ TB := TB_t 595 (by decide +kernel) rfl
theorem ml_X4_33 : Cond.methodLink RX4 33 yX4_fillHats ∈ TB := TB_t 596 (by decide +kernel) rfl
theorem im_X4_fillHats : Cond.instanceMethod yX4_fillHats ∈ TB := TB_t 598 (by decide +kernel) rfl
set_option maxRecDepth 100000 in
theorem co_X4_fillHats : Cond.code yX4_fillHats cX4_fillHats 5 none ∈ TB := TB_t 599 rfl rfl
theorem ml_X4_70 : Cond.methodLink RX4 70 (⟨"java/lang/System", "arraycopy", "(Ljava/lang/Object;ILjava/lang/Object;II)V"⟩ : MethodName) ∈ TB := TB_t 600 (by decide +kernel) rfl
theorem ml_X4_37 : Cond.methodLink RX4 37 yX4_isOpen ∈ TB := TB_t 602 (by decide +kernel) rfl
theorem sm_X4_isOpen : Cond.static yX4_isOpen ∈ TB := TB_t 603 (by decide +kernel) rfl
set_option maxRecDepth 100000 in
theorem co_X4_isOpen : Cond.code yX4_isOpen cX4_isOpen 3 (some .boolean) ∈ TB := TB_t 604 rfl rfl
theorem ml_X4_49 : Cond.methodLink RX4 49 yX4_offer ∈ TB := TB_t 605 (by decide +kernel) rfl
theorem im_X4_offer : Cond.instanceMethod yX4_offer ∈ TB := TB_t 607 (by decide +kernel) rfl
set_option maxRecDepth 100000 in
theorem co_X4_offer : Cond.code yX4_offer cX4_offer 3 none ∈ TB := TB_t 608 rfl rfl
theorem ml_X6_252 : Cond.methodLink RX6 252 yX6_figuresOf ∈ TB := TB_t 609 (by decide +kernel) rfl
theorem sm_X6_figuresOf : Cond.static yX6_figuresOf ∈ TB := TB_t 610 (by decide +kernel) rfl
set_option maxRecDepth 100000 in
theorem co_X6_figuresOf : Cond.code yX6_figuresOf cX6_figuresOf 3 (some .int) ∈ TB := TB_t 611 rfl rfl
theorem ml_L_94 : Cond.methodLink RL 94 yX6_toFloat ∈ TB := TB_t 612 (by decide +kernel) rfl
theorem im_X6_toFloat : Cond.instanceMethod yX6_toFloat ∈ TB := TB_t 613 (by decide +kernel) rfl
theorem se_X6_toFloat : Cond.selects RX6 yX6_toFloat yX6_toFloat ∈ TB := TB_t 614 (by decide +kernel) rfl
set_option maxRecDepth 100000 in
theorem co_X6_toFloat : Cond.code yX6_toFloat cX6_toFloat 2 (some .int) ∈ TB := TB_t 615 rfl rfl
theorem ml_X6_255 : Cond.methodLink RX6 255 yX4_leastFloat ∈ TB := TB_t 616 (by decide +kernel) rfl
theorem im_X4_leastFloat : Cond.instanceMethod yX4_leastFloat ∈ TB := TB_t 617 (by decide +kernel) rfl
theorem se_X4_leastFloat : Cond.selects RX4 yX4_leastFloat yX4_leastFloat ∈ TB := TB_t 618 (by decide +kernel) rfl
set_option maxRecDepth 100000 in
theorem co_X4_leastFloat : Cond.code yX4_leastFloat cX4_leastFloat 8 (some .int) ∈ TB := TB_t 619 rfl rfl
theorem ml_X4_53 : Cond.methodLink RX4 53 yJ9_max_7cf53 ∈ TB := TB_t 620 (by decide +kernel) rfl
theorem sm_J9_max_7cf53 : Cond.static yJ9_max_7cf53 ∈ TB := TB_t 621 (by decide +kernel) rfl
set_option maxRecDepth 100000 in
theorem co_J9_max_7cf53 : Cond.code yJ9_max_7cf53 cJ9_max_7cf53 2 (some .int) ∈ TB := TB_t 622 rfl rfl
theorem ml_X4_59 : Cond.methodLink RX4 59 yX4_allOpen ∈ TB := TB_t 623 (by decide +kernel) rfl
theorem sm_X4_allOpen : Cond.static yX4_allOpen ∈ TB := TB_t 624 (by decide +kernel) rfl
set_option maxRecDepth 100000 in
theorem co_X4_allOpen : Cond.code yX4_allOpen cX4_allOpen 4 (some .int) ∈ TB := TB_t 625 rfl rfl
theorem ml_L_98 : Cond.methodLink RL 98 yX6_nets ∈ TB := TB_t 626 (by decide +kernel) rfl
theorem im_X6_nets : Cond.instanceMethod yX6_nets ∈ TB := TB_t 627 (by decide +kernel) rfl
theorem se_X6_nets : Cond.selects RX6 yX6_nets yX6_nets ∈ TB := TB_t 628 (by decide +kernel) rfl
set_option maxRecDepth 100000 in
theorem co_X6_nets : Cond.code yX6_nets cX6_nets 8 (some .int) ∈ TB := TB_t 629 rfl rfl
theorem ml_X6_259 : Cond.methodLink RX6 259 yJ6_bitCount_0f7a4 ∈ TB := TB_t 630 (by decide +kernel) rfl
theorem ml_X6_264 : Cond.methodLink RX6 264 yX6_birdsWithNets ∈ TB := TB_t 631 (by decide +kernel) rfl
theorem im_X6_birdsWithNets : Cond.instanceMethod yX6_birdsWithNets ∈ TB := TB_t 633 (by decide +kernel) rfl
set_option maxRecDepth 100000 in
theorem co_X6_birdsWithNets : Cond.code yX6_birdsWithNets cX6_birdsWithNets 4 (some .int) ∈ TB := TB_t 634 rfl rfl
theorem ml_L_102 : Cond.methodLink RL 102 yX6_calm ∈ TB := TB_t 635 (by decide +kernel) rfl
theorem im_X6_calm : Cond.instanceMethod yX6_calm ∈ TB := TB_t 636 (by decide +kernel) rfl
theorem se_X6_calm : Cond.selects RX6 yX6_calm yX6_calm ∈ TB := TB_t 637 (by decide +kernel) rfl
set_option maxRecDepth 100000 in
theorem co_X6_calm : Cond.code yX6_calm cX6_calm 6 (some .int) ∈ TB := TB_t 638 rfl rfl
theorem kl_X6_268 : Cond.constantLong RX6 268 (1000000000) ∈ TB := TB_t 639 (by decide +kernel) rfl
theorem kl_X6_270 : Cond.constantLong RX6 270 (100) ∈ TB := TB_t 640 (by decide +kernel) rfl
theorem ml_L_106 : Cond.methodLink RL 106 yX6_watch ∈ TB := TB_t 641 (by decide +kernel) rfl
theorem im_X6_watch : Cond.instanceMethod yX6_watch ∈ TB := TB_t 642 (by decide +kernel) rfl
theorem se_X6_watch : Cond.selects RX6 yX6_watch yX6_watch ∈ TB := TB_t 643 (by decide +kernel) rfl
set_option maxRecDepth 100000 in
theorem co_X6_watch : Cond.code yX6_watch cX6_watch 2 (some .int) ∈ TB := TB_t 644 rfl rfl
theorem ml_X6_272 : Cond.methodLink RX6 272 yX3_addWatched ∈ TB := TB_t 645 (by decide +kernel) rfl
theorem im_X3_addWatched : Cond.instanceMethod yX3_addWatched ∈ TB := TB_t 646 (by decide +kernel) rfl
theorem se_X3_addWatched : Cond.selects RX3 yX3_addWatched yX3_addWatched ∈ TB := TB_t 647 (by decide +kernel) rfl
set_option maxRecDepth 100000 in
theorem co_X3_addWatched : Cond.code yX3_addWatched cX3_addWatched 2 (some .int) ∈ TB := TB_t 648 rfl rfl
theorem ml_L_110 : Cond.methodLink RL 110 yX6_feel ∈ TB := TB_t 649 (by decide +kernel) rfl
theorem im_X6_feel : Cond.instanceMethod yX6_feel ∈ TB := TB_t 650 (by decide +kernel) rfl
theorem se_X6_feel : Cond.selects RX6 yX6_feel yX6_feel ∈ TB := TB_t 651 (by decide +kernel) rfl
set_option maxRecDepth 100000 in
theorem co_X6_feel : Cond.code yX6_feel cX6_feel 4 (some .int) ∈ TB := TB_t 652 rfl rfl
theorem ml_X6_275 : Cond.methodLink RX6 275 yJ9_abs_0f7a4 ∈ TB := TB_t 653 (by decide +kernel) rfl
theorem ml_X6_280 : Cond.methodLink RX6 280 yX3_addFelt ∈ TB := TB_t 654 (by decide +kernel) rfl
theorem im_X3_addFelt : Cond.instanceMethod yX3_addFelt ∈ TB := TB_t 655 (by decide +kernel) rfl
theorem se_X3_addFelt : Cond.selects RX3 yX3_addFelt yX3_addFelt ∈ TB := TB_t 656 (by decide +kernel) rfl
set_option maxRecDepth 100000 in
theorem co_X3_addFelt : Cond.code yX3_addFelt cX3_addFelt 3 (some .int) ∈ TB := TB_t 657 rfl rfl
theorem ml_L_115 : Cond.methodLink RL 115 yX6_reach ∈ TB := TB_t 658 (by decide +kernel) rfl
theorem im_X6_reach : Cond.instanceMethod yX6_reach ∈ TB := TB_t 659 (by decide +kernel) rfl
theorem se_X6_reach : Cond.selects RX6 yX6_reach yX6_reach ∈ TB := TB_t 660 (by decide +kernel) rfl
set_option maxRecDepth 100000 in
theorem co_X6_reach : Cond.code yX6_reach cX6_reach 2 (some .int) ∈ TB := TB_t 661 rfl rfl
theorem ml_X6_284 : Cond.methodLink RX6 284 yX3_reachesBelow ∈ TB := TB_t 662 (by decide +kernel) rfl
theorem im_X3_reachesBelow : Cond.instanceMethod yX3_reachesBelow ∈ TB := TB_t 663 (by decide +kernel) rfl
theorem se_X3_reachesBelow : Cond.selects RX3 yX3_reachesBelow yX3_reachesBelow ∈ TB := TB_t 664 (by decide +kernel) rfl
set_option maxRecDepth 100000 in
theorem co_X3_reachesBelow : Cond.code yX3_reachesBelow cX3_reachesBelow 4 (some .int) ∈ TB := TB_t 665 rfl rfl
theorem ml_X3_43 : Cond.methodLink RX3 43 yX3_canReach ∈ TB := TB_t 666 (by decide +kernel) rfl
theorem im_X3_canReach : Cond.instanceMethod yX3_canReach ∈ TB := TB_t 668 (by decide +kernel) rfl
set_option maxRecDepth 100000 in
theorem co_X3_canReach : Cond.code yX3_canReach cX3_canReach 3 (some .boolean) ∈ TB := TB_t 669 rfl rfl
theorem ml_X6_287 : Cond.methodLink RX6 287 yX3_leastReach ∈ TB := TB_t 670 (by decide +kernel) rfl
theorem im_X3_leastReach : Cond.instanceMethod yX3_leastReach ∈ TB := TB_t 671 (by decide +kernel) rfl
theorem se_X3_leastReach : Cond.selects RX3 yX3_leastReach yX3_leastReach ∈ TB := TB_t 672 (by decide +kernel) rfl
set_option maxRecDepth 100000 in
theorem co_X3_leastReach : Cond.code yX3_leastReach cX3_leastReach 2 (some .int) ∈ TB := TB_t 673 rfl rfl
theorem ml_X6_290 : Cond.methodLink RX6 290 yX3_greatestReach ∈ TB := TB_t 674 (by decide +kernel) rfl
theorem im_X3_greatestReach : Cond.instanceMethod yX3_greatestReach ∈ TB := TB_t 675 (by decide +kernel) rfl
theorem se_X3_greatestReach : Cond.selects RX3 yX3_greatestReach yX3_greatestReach ∈ TB := TB_t 676 (by decide +kernel) rfl
set_option maxRecDepth 100000 in
theorem co_X3_greatestReach : Cond.code yX3_greatestReach cX3_greatestReach 2 (some .int) ∈ TB := TB_t 677 rfl rfl
theorem ml_X6_293 : Cond.methodLink RX6 293 yX3_bestDoorToPart ∈ TB := TB_t 678 (by decide +kernel) rfl
theorem im_X3_bestDoorToPart : Cond.instanceMethod yX3_bestDoorToPart ∈ TB := TB_t 679 (by decide +kernel) rfl
theorem se_X3_bestDoorToPart : Cond.selects RX3 yX3_bestDoorToPart yX3_bestDoorToPart ∈ TB := TB_t 680 (by decide +kernel) rfl
set_option maxRecDepth 100000 in
theorem co_X3_bestDoorToPart : Cond.code yX3_bestDoorToPart cX3_bestDoorToPart 7 (some .int) ∈ TB := TB_t 681 rfl rfl
theorem ml_X3_47 : Cond.methodLink RX3 47 yX3_reachesBelow ∈ TB := TB_t 682 (by decide +kernel) rfl
theorem ml_X3_51 : Cond.methodLink RX3 51 yJ9_max_7cf53 ∈ TB := TB_t 683 (by decide +kernel) rfl
theorem ml_L_119 : Cond.methodLink RL 119 yX6_write ∈ TB := TB_t 684 (by decide +kernel) rfl
theorem im_X6_write : Cond.instanceMethod yX6_write ∈ TB := TB_t 685 (by decide +kernel) rfl
theorem se_X6_write : Cond.selects RX6 yX6_write yX6_write ∈ TB := TB_t 686 (by decide +kernel) rfl
set_option maxRecDepth 100000 in
theorem co_X6_write : Cond.code yX6_write cX6_write 3 (some .int) ∈ TB := TB_t 687 rfl rfl
theorem ml_X6_296 : Cond.methodLink RX6 296 yX3_addEntry ∈ TB := TB_t 688 (by decide +kernel) rfl
theorem im_X3_addEntry : Cond.instanceMethod yX3_addEntry ∈ TB := TB_t 689 (by decide +kernel) rfl
theorem se_X3_addEntry : Cond.selects RX3 yX3_addEntry yX3_addEntry ∈ TB := TB_t 690 (by decide +kernel) rfl
set_option maxRecDepth 100000 in
theorem co_X3_addEntry : Cond.code yX3_addEntry cX3_addEntry 3 (some .int) ∈ TB := TB_t 691 rfl rfl
theorem ml_L_123 : Cond.methodLink RL 123 yX6_tear ∈ TB := TB_t 692 (by decide +kernel) rfl
theorem im_X6_tear : Cond.instanceMethod yX6_tear ∈ TB := TB_t 693 (by decide +kernel) rfl
theorem se_X6_tear : Cond.selects RX6 yX6_tear yX6_tear ∈ TB := TB_t 694 (by decide +kernel) rfl
set_option maxRecDepth 100000 in
theorem co_X6_tear : Cond.code yX6_tear cX6_tear 2 (some .int) ∈ TB := TB_t 695 rfl rfl
theorem ml_L_127 : Cond.methodLink RL 127 yX6_judge ∈ TB := TB_t 696 (by decide +kernel) rfl
theorem im_X6_judge : Cond.instanceMethod yX6_judge ∈ TB := TB_t 697 (by decide +kernel) rfl
theorem se_X6_judge : Cond.selects RX6 yX6_judge yX6_judge ∈ TB := TB_t 698 (by decide +kernel) rfl
set_option maxRecDepth 100000 in
theorem co_X6_judge : Cond.code yX6_judge cX6_judge 1 (some .int) ∈ TB := TB_t 699 rfl rfl
theorem ml_X6_299 : Cond.methodLink RX6 299 yX3_firstWrong ∈ TB := TB_t 700 (by decide +kernel) rfl
theorem im_X3_firstWrong : Cond.instanceMethod yX3_firstWrong ∈ TB := TB_t 701 (by decide +kernel) rfl
theorem se_X3_firstWrong : Cond.selects RX3 yX3_firstWrong yX3_firstWrong ∈ TB := TB_t 702 (by decide +kernel) rfl
set_option maxRecDepth 100000 in
theorem co_X3_firstWrong : Cond.code yX3_firstWrong cX3_firstWrong 3 (some .int) ∈ TB := TB_t 703 rfl rfl
theorem ml_L_131 : Cond.methodLink RL 131 yX6_seed ∈ TB := TB_t 704 (by decide +kernel) rfl
theorem im_X6_seed : Cond.instanceMethod yX6_seed ∈ TB := TB_t 705 (by decide +kernel) rfl
theorem se_X6_seed : Cond.selects RX6 yX6_seed yX6_seed ∈ TB := TB_t 706 (by decide +kernel) rfl
set_option maxRecDepth 100000 in
theorem co_X6_seed : Cond.code yX6_seed cX6_seed 3 (some .int) ∈ TB := TB_t 707 rfl rfl
theorem ml_L_135 : Cond.methodLink RL 135 yX6_keep ∈ TB := TB_t 708 (by decide +kernel) rfl
theorem im_X6_keep : Cond.instanceMethod yX6_keep ∈ TB := TB_t 709 (by decide +kernel) rfl
theorem se_X6_keep : Cond.selects RX6 yX6_keep yX6_keep ∈ TB := TB_t 710 (by decide +kernel) rfl
set_option maxRecDepth 100000 in
theorem co_X6_keep : Cond.code yX6_keep cX6_keep 2 (some .int) ∈ TB := TB_t 711 rfl rfl
theorem ml_L_139 : Cond.methodLink RL 139 yX6_goBack ∈ TB := TB_t 712 (by decide +kernel) rfl
theorem im_X6_goBack : Cond.instanceMethod yX6_goBack ∈ TB := TB_t 713 (by decide +kernel) rfl
theorem se_X6_goBack : Cond.selects RX6 yX6_goBack yX6_goBack ∈ TB := TB_t 714 (by decide +kernel) rfl
set_option maxRecDepth 100000 in
theorem co_X6_goBack : Cond.code yX6_goBack cX6_goBack 2 (some .int) ∈ TB := TB_t 715 rfl rfl
theorem cl_L_10 : Cond.classLink RL 10 RX7 ∈ TB := TB_t 716 (by decide +kernel) rfl
theorem ia_X7 : Cond.instantiable RX7 26 ∈ TB := TB_t 717 (by decide +kernel) rfl
theorem ml_L_12 : Cond.methodLink RL 12 yX7_init ∈ TB := TB_t 718 (by decide +kernel) rfl
theorem im_X7_init : Cond.instanceMethod yX7_init ∈ TB := TB_t 719 (by decide +kernel) rfl
set_option maxRecDepth 100000 in
theorem co_X7_init : Cond.code yX7_init cX7_init 1 none ∈ TB := TB_t 720 rfl rfl
theorem ml_X7_1 : Cond.methodLink RX7 1 (⟨"java/lang/Object", "<init>", "()V"⟩ : MethodName) ∈ TB := TB_t 721 (by decide +kernel) rfl
theorem fl_X7_7 : Cond.fieldLink RX7 7 "SparrowChangeModel" "parish" "[I" ∈ TB := TB_t 722 (by decide +kernel) rfl
theorem fl_X7_13 : Cond.fieldLink RX7 13 "SparrowChangeModel" "read" "[I" ∈ TB := TB_t 723 (by decide +kernel) rfl
theorem fl_X7_16 : Cond.fieldLink RX7 16 "SparrowChangeModel" "now" "[I" ∈ TB := TB_t 724 (by decide +kernel) rfl
theorem fl_X7_19 : Cond.fieldLink RX7 19 "SparrowChangeModel" "aside" "[I" ∈ TB := TB_t 725 (by decide +kernel) rfl
theorem fl_X7_22 : Cond.fieldLink RX7 22 "SparrowChangeModel" "past" "[I" ∈ TB := TB_t 726 (by decide +kernel) rfl
theorem fl_X7_58 : Cond.fieldLink RX7 58 "SparrowChangeModel" "undos" "I" ∈ TB := TB_t 727 (by decide +kernel) rfl
theorem fl_X7_25 : Cond.fieldLink RX7 25 "SparrowChangeModel" "images" "[I" ∈ TB := TB_t 728 (by decide +kernel) rfl
theorem fl_X7_28 : Cond.fieldLink RX7 28 "SparrowChangeModel" "kept" "[Z" ∈ TB := TB_t 729 (by decide +kernel) rfl
theorem fl_X7_212 : Cond.fieldLink RX7 212 "SparrowChangeModel" "seed" "J" ∈ TB := TB_t 730 (by decide +kernel) rfl
theorem fl_X7_32 : Cond.fieldLink RX7 32 "SparrowChangeModel" "text" "[I" ∈ TB := TB_t 731 (by decide +kernel) rfl
theorem fl_X7_77 : Cond.fieldLink RX7 77 "SparrowChangeModel" "size" "I" ∈ TB := TB_t 732 (by decide +kernel) rfl
theorem fl_X7_35 : Cond.fieldLink RX7 35 "SparrowChangeModel" "fault" "I" ∈ TB := TB_t 733 (by decide +kernel) rfl
theorem fl_X7_39 : Cond.fieldLink RX7 39 "SparrowChangeModel" "watched" "[I" ∈ TB := TB_t 734 (by decide +kernel) rfl
theorem fl_X7_61 : Cond.fieldLink RX7 61 "SparrowChangeModel" "watchedMany" "I" ∈ TB := TB_t 735 (by decide +kernel) rfl
theorem fl_X7_42 : Cond.fieldLink RX7 42 "SparrowChangeModel" "felt" "[I" ∈ TB := TB_t 736 (by decide +kernel) rfl
theorem fl_X7_64 : Cond.fieldLink RX7 64 "SparrowChangeModel" "feltMany" "I" ∈ TB := TB_t 737 (by decide +kernel) rfl
theorem fl_X7_45 : Cond.fieldLink RX7 45 "SparrowChangeModel" "book" "[I" ∈ TB := TB_t 738 (by decide +kernel) rfl
theorem fl_X7_67 : Cond.fieldLink RX7 67 "SparrowChangeModel" "bookMany" "I" ∈ TB := TB_t 739 (by decide +kernel) rfl
theorem fl_X7_81 : Cond.fieldLink RX7 81 "SparrowChangeModel" "at" "I" ∈ TB := TB_t 740 (by decide +kernel) rfl
theorem fl_X7_88 : Cond.fieldLink RX7 88 "SparrowChangeModel" "begin" "I" ∈ TB := TB_t 741 (by decide +kernel) rfl
theorem fl_X7_91 : Cond.fieldLink RX7 91 "SparrowChangeModel" "sign" "I" ∈ TB := TB_t 742 (by decide +kernel) rfl
theorem fl_X7_94 : Cond.fieldLink RX7 94 "SparrowChangeModel" "figures" "I" ∈ TB := TB_t 743 (by decide +kernel) rfl
theorem fl_X7_97 : Cond.fieldLink RX7 97 "SparrowChangeModel" "value" "I" ∈ TB := TB_t 744 (by decide +kernel) rfl
theorem fl_X7_104 : Cond.fieldLink RX7 104 "SparrowChangeModel" "wrong" "I" ∈ TB := TB_t 745 (by decide +kernel) rfl
theorem fl_X7_48 : Cond.fieldLink RX7 48 "SparrowChangeModel" "loss" "[I" ∈ TB := TB_t 746 (by decide +kernel) rfl
theorem fl_X7_51 : Cond.fieldLink RX7 51 "SparrowChangeModel" "can" "[I" ∈ TB := TB_t 747 (by decide +kernel) rfl
theorem ml_L_17 : Cond.methodLink RL 17 yX7_feed ∈ TB := TB_t 801 (by decide +kernel) rfl
theorem im_X7_feed : Cond.instanceMethod yX7_feed ∈ TB := TB_t 802 (by decide +kernel) rfl
theorem se_X7_feed : Cond.selects RX7 yX7_feed yX7_feed ∈ TB := TB_t 803 (by decide +kernel) rfl
set_option maxRecDepth 100000 in
theorem co_X7_feed : Cond.code yX7_feed cX7_feed 2 (some .int) ∈ TB := TB_t 804 rfl rfl
theorem kl_X7_70 : Cond.constantLong RX7 70 (255) ∈ TB := TB_t 805 (by decide +kernel) rfl
theorem ml_X7_72 : Cond.methodLink RX7 72 yX7_in ∈ TB := TB_t 806 (by decide +kernel) rfl
theorem sm_X7_in : Cond.static yX7_in ∈ TB := TB_t 807 (by decide +kernel) rfl
set_option maxRecDepth 100000 in
theorem co_X7_in : Cond.code yX7_in cX7_in 6 (some .boolean) ∈ TB := TB_t 808 rfl rfl
theorem kc_X7_76 : Cond.constant RX7 76 (-1000000002) ∈ TB := TB_t 809 (by decide +kernel) rfl
theorem kc_X7_80 : Cond.constant RX7 80 (-1000000004) ∈ TB := TB_t 810 (by decide +kernel) rfl
theorem ml_L_22 : Cond.methodLink RL 22 yX7_parish ∈ TB := TB_t 811 (by decide +kernel) rfl
theorem im_X7_parish : Cond.instanceMethod yX7_parish ∈ TB := TB_t 812 (by decide +kernel) rfl
theorem se_X7_parish : Cond.selects RX7 yX7_parish yX7_parish ∈ TB := TB_t 813 (by decide +kernel) rfl
set_option maxRecDepth 100000 in
theorem co_X7_parish : Cond.code yX7_parish cX7_parish 2 (some .int) ∈ TB := TB_t 814 rfl rfl
theorem ml_X7_107 : Cond.methodLink RX7 107 yX7_step ∈ TB := TB_t 815 (by decide +kernel) rfl
theorem im_X7_step : Cond.instanceMethod yX7_step ∈ TB := TB_t 817 (by decide +kernel) rfl
set_option maxRecDepth 100000 in
theorem co_X7_step : Cond.code yX7_step cX7_step 1 none ∈ TB := TB_t 818 rfl rfl
theorem ml_X7_84 : Cond.methodLink RX7 84 yX7_here ∈ TB := TB_t 819 (by decide +kernel) rfl
theorem im_X7_here : Cond.instanceMethod yX7_here ∈ TB := TB_t 821 (by decide +kernel) rfl
set_option maxRecDepth 100000 in
theorem co_X7_here : Cond.code yX7_here cX7_here 1 (some .int) ∈ TB := TB_t 822 rfl rfl
theorem kl_X7_100 : Cond.constantLong RX7 100 (48) ∈ TB := TB_t 823 (by decide +kernel) rfl
theorem kl_X7_102 : Cond.constantLong RX7 102 (57) ∈ TB := TB_t 824 (by decide +kernel) rfl
theorem ml_X7_128 : Cond.methodLink RX7 128 yX7_readsClause ∈ TB := TB_t 825 (by decide +kernel) rfl
theorem im_X7_readsClause : Cond.instanceMethod yX7_readsClause ∈ TB := TB_t 827 (by decide +kernel) rfl
set_option maxRecDepth 100000 in
theorem co_X7_readsClause : Cond.code yX7_readsClause cX7_readsClause 1 (some .boolean) ∈ TB := TB_t 828 rfl rfl
theorem ml_X7_110 : Cond.methodLink RX7 110 yX7_fails ∈ TB := TB_t 829 (by decide +kernel) rfl
theorem im_X7_fails : Cond.instanceMethod yX7_fails ∈ TB := TB_t 831 (by decide +kernel) rfl
set_option maxRecDepth 100000 in
theorem co_X7_fails : Cond.code yX7_fails cX7_fails 2 (some .boolean) ∈ TB := TB_t 832 rfl rfl
theorem ml_X7_114 : Cond.methodLink RX7 114 yX7_number ∈ TB := TB_t 833 (by decide +kernel) rfl
theorem im_X7_number : Cond.instanceMethod yX7_number ∈ TB := TB_t 835 (by decide +kernel) rfl
set_option maxRecDepth 100000 in
theorem co_X7_number : Cond.code yX7_number cX7_number 4 (some .boolean) ∈ TB := TB_t 836 rfl rfl
theorem ml_X7_118 : Cond.methodLink RX7 118 yX7_ends ∈ TB := TB_t 837 (by decide +kernel) rfl
theorem im_X7_ends : Cond.instanceMethod yX7_ends ∈ TB := TB_t 839 (by decide +kernel) rfl
set_option maxRecDepth 100000 in
theorem co_X7_ends : Cond.code yX7_ends cX7_ends 1 (some .boolean) ∈ TB := TB_t 840 rfl rfl
theorem ml_X7_122 : Cond.methodLink RX7 122 yX7_readsPerson ∈ TB := TB_t 841 (by decide +kernel) rfl
theorem im_X7_readsPerson : Cond.instanceMethod yX7_readsPerson ∈ TB := TB_t 843 (by decide +kernel) rfl
set_option maxRecDepth 100000 in
theorem co_X7_readsPerson : Cond.code yX7_readsPerson cX7_readsPerson 2 (some .boolean) ∈ TB := TB_t 844 rfl rfl
theorem ml_X7_125 : Cond.methodLink RX7 125 yX7_readsDebt ∈ TB := TB_t 845 (by decide +kernel) rfl
theorem im_X7_readsDebt : Cond.instanceMethod yX7_readsDebt ∈ TB := TB_t 847 (by decide +kernel) rfl
set_option maxRecDepth 100000 in
theorem co_X7_readsDebt : Cond.code yX7_readsDebt cX7_readsDebt 3 (some .boolean) ∈ TB := TB_t 848 rfl rfl
theorem ml_X7_54 : Cond.methodLink RX7 54 yX7_copies ∈ TB := TB_t 849 (by decide +kernel) rfl
theorem sm_X7_copies : Cond.static yX7_copies ∈ TB := TB_t 850 (by decide +kernel) rfl
set_option maxRecDepth 100000 in
theorem co_X7_copies : Cond.code yX7_copies cX7_copies 6 none ∈ TB := TB_t 851 rfl rfl
theorem ml_X7_131 : Cond.methodLink RX7 131 yX7_begins ∈ TB := TB_t 852 (by decide +kernel) rfl
theorem im_X7_begins : Cond.instanceMethod yX7_begins ∈ TB := TB_t 854 (by decide +kernel) rfl
set_option maxRecDepth 100000 in
theorem co_X7_begins : Cond.code yX7_begins cX7_begins 2 none ∈ TB := TB_t 855 rfl rfl
theorem ml_L_26 : Cond.methodLink RL 26 yX7_fault ∈ TB := TB_t 856 (by decide +kernel) rfl
theorem im_X7_fault : Cond.instanceMethod yX7_fault ∈ TB := TB_t 857 (by decide +kernel) rfl
theorem se_X7_fault : Cond.selects RX7 yX7_fault yX7_fault ∈ TB := TB_t 858 (by decide +kernel) rfl
set_option maxRecDepth 100000 in
theorem co_X7_fault : Cond.code yX7_fault cX7_fault 1 (some .int) ∈ TB := TB_t 859 rfl rfl
theorem ml_L_30 : Cond.methodLink RL 30 yX7_told ∈ TB := TB_t 860 (by decide +kernel) rfl
theorem im_X7_told : Cond.instanceMethod yX7_told ∈ TB := TB_t 861 (by decide +kernel) rfl
theorem se_X7_told : Cond.selects RX7 yX7_told yX7_told ∈ TB := TB_t 862 (by decide +kernel) rfl
set_option maxRecDepth 100000 in
theorem co_X7_told : Cond.code yX7_told cX7_told 2 (some .int) ∈ TB := TB_t 863 rfl rfl
theorem ml_X7_165 : Cond.methodLink RX7 165 yX7_hatsOn ∈ TB := TB_t 864 (by decide +kernel) rfl
theorem im_X7_hatsOn : Cond.instanceMethod yX7_hatsOn ∈ TB := TB_t 866 (by decide +kernel) rfl
set_option maxRecDepth 100000 in
theorem co_X7_hatsOn : Cond.code yX7_hatsOn cX7_hatsOn 4 (some .int) ∈ TB := TB_t 867 rfl rfl
theorem ml_X7_168 : Cond.methodLink RX7 168 yX7_rich ∈ TB := TB_t 868 (by decide +kernel) rfl
theorem im_X7_rich : Cond.instanceMethod yX7_rich ∈ TB := TB_t 870 (by decide +kernel) rfl
set_option maxRecDepth 100000 in
theorem co_X7_rich : Cond.code yX7_rich cX7_rich 3 (some .int) ∈ TB := TB_t 871 rfl rfl
theorem ml_X7_171 : Cond.methodLink RX7 171 yX7_rings ∈ TB := TB_t 872 (by decide +kernel) rfl
theorem im_X7_rings : Cond.instanceMethod yX7_rings ∈ TB := TB_t 874 (by decide +kernel) rfl
set_option maxRecDepth 100000 in
theorem co_X7_rings : Cond.code yX7_rings cX7_rings 7 (some .int) ∈ TB := TB_t 875 rfl rfl
theorem ml_X7_142 : Cond.methodLink RX7 142 yX7_has ∈ TB := TB_t 876 (by decide +kernel) rfl
theorem sm_X7_has : Cond.static yX7_has ∈ TB := TB_t 877 (by decide +kernel) rfl
set_option maxRecDepth 100000 in
theorem co_X7_has : Cond.code yX7_has cX7_has 2 (some .boolean) ∈ TB := TB_t 878 rfl rfl
theorem ml_X7_174 : Cond.methodLink RX7 174 yX7_owes ∈ TB := TB_t 879 (by decide +kernel) rfl
theorem im_X7_owes : Cond.instanceMethod yX7_owes ∈ TB := TB_t 881 (by decide +kernel) rfl
set_option maxRecDepth 100000 in
theorem co_X7_owes : Cond.code yX7_owes cX7_owes 6 (some .int) ∈ TB := TB_t 882 rfl rfl
theorem ml_X7_177 : Cond.methodLink RX7 177 yX7_who ∈ TB := TB_t 883 (by decide +kernel) rfl
theorem im_X7_who : Cond.instanceMethod yX7_who ∈ TB := TB_t 885 (by decide +kernel) rfl
set_option maxRecDepth 100000 in
theorem co_X7_who : Cond.code yX7_who cX7_who 5 (some .int) ∈ TB := TB_t 886 rfl rfl
theorem ml_X7_162 : Cond.methodLink RX7 162 yX7_drawnBy ∈ TB := TB_t 887 (by decide +kernel) rfl
theorem im_X7_drawnBy : Cond.instanceMethod yX7_drawnBy ∈ TB := TB_t 889 (by decide +kernel) rfl
set_option maxRecDepth 100000 in
theorem co_X7_drawnBy : Cond.code yX7_drawnBy cX7_drawnBy 4 (some .int) ∈ TB := TB_t 890 rfl rfl
theorem ml_X7_146 : Cond.methodLink RX7 146 yX7_lossBy ∈ TB := TB_t 891 (by decide +kernel) rfl
theorem sm_X7_lossBy : Cond.static yX7_lossBy ∈ TB := TB_t 892 (by decide +kernel) rfl
set_option maxRecDepth 100000 in
theorem co_X7_lossBy : Cond.code yX7_lossBy cX7_lossBy 3 (some .int) ∈ TB := TB_t 893 rfl rfl
theorem ml_X7_134 : Cond.methodLink RX7 134 yX7_plainLoss ∈ TB := TB_t 894 (by decide +kernel) rfl
theorem sm_X7_plainLoss : Cond.static yX7_plainLoss ∈ TB := TB_t 895 (by decide +kernel) rfl
set_option maxRecDepth 100000 in
theorem co_X7_plainLoss : Cond.code yX7_plainLoss cX7_plainLoss 1 (some .int) ∈ TB := TB_t 896 rfl rfl
theorem ml_X7_138 : Cond.methodLink RX7 138 yX7_lesser ∈ TB := TB_t 897 (by decide +kernel) rfl
theorem sm_X7_lesser : Cond.static yX7_lesser ∈ TB := TB_t 898 (by decide +kernel) rfl
set_option maxRecDepth 100000 in
theorem co_X7_lesser : Cond.code yX7_lesser cX7_lesser 2 (some .int) ∈ TB := TB_t 899 rfl rfl
theorem ml_L_35 : Cond.methodLink RL 35 yX7_person ∈ TB := TB_t 900 (by decide +kernel) rfl
theorem im_X7_person : Cond.instanceMethod yX7_person ∈ TB := TB_t 901 (by decide +kernel) rfl
theorem se_X7_person : Cond.selects RX7 yX7_person yX7_person ∈ TB := TB_t 902 (by decide +kernel) rfl
set_option maxRecDepth 100000 in
theorem co_X7_person : Cond.code yX7_person cX7_person 3 (some .int) ∈ TB := TB_t 903 rfl rfl
theorem ml_X7_180 : Cond.methodLink RX7 180 yX7_isPerson ∈ TB := TB_t 904 (by decide +kernel) rfl
theorem im_X7_isPerson : Cond.instanceMethod yX7_isPerson ∈ TB := TB_t 906 (by decide +kernel) rfl
set_option maxRecDepth 100000 in
theorem co_X7_isPerson : Cond.code yX7_isPerson cX7_isPerson 2 (some .boolean) ∈ TB := TB_t 907 rfl rfl
theorem kc_X7_183 : Cond.constant RX7 183 (-1000000001) ∈ TB := TB_t 908 (by decide +kernel) rfl
theorem ml_X7_154 : Cond.methodLink RX7 154 yX7_lossOn ∈ TB := TB_t 909 (by decide +kernel) rfl
theorem im_X7_lossOn : Cond.instanceMethod yX7_lossOn ∈ TB := TB_t 911 (by decide +kernel) rfl
set_option maxRecDepth 100000 in
theorem co_X7_lossOn : Cond.code yX7_lossOn cX7_lossOn 3 (some .int) ∈ TB := TB_t 912 rfl rfl
theorem ml_L_39 : Cond.methodLink RL 39 yX7_debt ∈ TB := TB_t 913 (by decide +kernel) rfl
theorem im_X7_debt : Cond.instanceMethod yX7_debt ∈ TB := TB_t 914 (by decide +kernel) rfl
theorem se_X7_debt : Cond.selects RX7 yX7_debt yX7_debt ∈ TB := TB_t 915 (by decide +kernel) rfl
set_option maxRecDepth 100000 in
theorem co_X7_debt : Cond.code yX7_debt cX7_debt 3 (some .int) ∈ TB := TB_t 916 rfl rfl
theorem kl_X7_184 : Cond.constantLong RX7 184 (2) ∈ TB := TB_t 917 (by decide +kernel) rfl
theorem ml_L_43 : Cond.methodLink RL 43 yX7_trace ∈ TB := TB_t 918 (by decide +kernel) rfl
theorem im_X7_trace : Cond.instanceMethod yX7_trace ∈ TB := TB_t 919 (by decide +kernel) rfl
theorem se_X7_trace : Cond.selects RX7 yX7_trace yX7_trace ∈ TB := TB_t 920 (by decide +kernel) rfl
set_option maxRecDepth 100000 in
theorem co_X7_trace : Cond.code yX7_trace cX7_trace 2 (some .int) ∈ TB := TB_t 921 rfl rfl
theorem ml_L_47 : Cond.methodLink RL 47 yX7_count ∈ TB := TB_t 922 (by decide +kernel) rfl
theorem im_X7_count : Cond.instanceMethod yX7_count ∈ TB := TB_t 923 (by decide +kernel) rfl
theorem se_X7_count : Cond.selects RX7 yX7_count yX7_count ∈ TB := TB_t 924 (by decide +kernel) rfl
set_option maxRecDepth 100000 in
theorem co_X7_count : Cond.code yX7_count cX7_count 3 (some .int) ∈ TB := TB_t 925 rfl rfl
theorem kl_X7_186 : Cond.constantLong RX7 186 (999) ∈ TB := TB_t 926 (by decide +kernel) rfl
theorem kc_X7_188 : Cond.constant RX7 188 (-1000000003) ∈ TB := TB_t 927 (by decide +kernel) rfl
theorem ml_X7_189 : Cond.methodLink RX7 189 yX7_remember ∈ TB := TB_t 928 (by decide +kernel) rfl
theorem im_X7_remember : Cond.instanceMethod yX7_remember ∈ TB := TB_t 930 (by decide +kernel) rfl
set_option maxRecDepth 100000 in
theorem co_X7_remember : Cond.code yX7_remember cX7_remember 2 none ∈ TB := TB_t 931 rfl rfl
theorem ml_X7_158 : Cond.methodLink RX7 158 yX7_flies ∈ TB := TB_t 932 (by decide +kernel) rfl
theorem sm_X7_flies : Cond.static yX7_flies ∈ TB := TB_t 933 (by decide +kernel) rfl
set_option maxRecDepth 100000 in
theorem co_X7_flies : Cond.code yX7_flies cX7_flies 5 none ∈ TB := TB_t 934 rfl rfl
theorem ml_L_52 : Cond.methodLink RL 52 yX7_pay ∈ TB := TB_t 935 (by decide +kernel) rfl
theorem im_X7_pay : Cond.instanceMethod yX7_pay ∈ TB := TB_t 936 (by decide +kernel) rfl
theorem se_X7_pay : Cond.selects RX7 yX7_pay yX7_pay ∈ TB := TB_t 937 (by decide +kernel) rfl
set_option maxRecDepth 100000 in
theorem co_X7_pay : Cond.code yX7_pay cX7_pay 7 (some .int) ∈ TB := TB_t 938 rfl rfl
theorem ml_L_56 : Cond.methodLink RL 56 yX7_strew ∈ TB := TB_t 939 (by decide +kernel) rfl
theorem im_X7_strew : Cond.instanceMethod yX7_strew ∈ TB := TB_t 940 (by decide +kernel) rfl
theorem se_X7_strew : Cond.selects RX7 yX7_strew yX7_strew ∈ TB := TB_t 941 (by decide +kernel) rfl
set_option maxRecDepth 100000 in
theorem co_X7_strew : Cond.code yX7_strew cX7_strew 3 (some .int) ∈ TB := TB_t 942 rfl rfl
theorem kl_X7_192 : Cond.constantLong RX7 192 (99) ∈ TB := TB_t 943 (by decide +kernel) rfl
theorem ml_X7_194 : Cond.methodLink RX7 194 yX7_strews ∈ TB := TB_t 944 (by decide +kernel) rfl
theorem im_X7_strews : Cond.instanceMethod yX7_strews ∈ TB := TB_t 946 (by decide +kernel) rfl
set_option maxRecDepth 100000 in
theorem co_X7_strews : Cond.code yX7_strews cX7_strews 3 none ∈ TB := TB_t 947 rfl rfl
theorem ml_L_61 : Cond.methodLink RL 61 yX7_net ∈ TB := TB_t 948 (by decide +kernel) rfl
theorem im_X7_net : Cond.instanceMethod yX7_net ∈ TB := TB_t 949 (by decide +kernel) rfl
theorem se_X7_net : Cond.selects RX7 yX7_net yX7_net ∈ TB := TB_t 950 (by decide +kernel) rfl
set_option maxRecDepth 100000 in
theorem co_X7_net : Cond.code yX7_net cX7_net 4 (some .int) ∈ TB := TB_t 951 rfl rfl
theorem ml_L_65 : Cond.methodLink RL 65 yX7_hawk ∈ TB := TB_t 952 (by decide +kernel) rfl
theorem im_X7_hawk : Cond.instanceMethod yX7_hawk ∈ TB := TB_t 953 (by decide +kernel) rfl
theorem se_X7_hawk : Cond.selects RX7 yX7_hawk yX7_hawk ∈ TB := TB_t 954 (by decide +kernel) rfl
set_option maxRecDepth 100000 in
theorem co_X7_hawk : Cond.code yX7_hawk cX7_hawk 3 (some .int) ∈ TB := TB_t 955 rfl rfl
theorem kl_X7_198 : Cond.constantLong RX7 198 (50) ∈ TB := TB_t 956 (by decide +kernel) rfl
theorem ml_X7_200 : Cond.methodLink RX7 200 yX7_hawks ∈ TB := TB_t 957 (by decide +kernel) rfl
theorem im_X7_hawks : Cond.instanceMethod yX7_hawks ∈ TB := TB_t 959 (by decide +kernel) rfl
set_option maxRecDepth 100000 in
theorem co_X7_hawks : Cond.code yX7_hawks cX7_hawks 6 (some .int) ∈ TB := TB_t 960 rfl rfl
theorem ml_L_69 : Cond.methodLink RL 69 yX7_hour ∈ TB := TB_t 961 (by decide +kernel) rfl
theorem im_X7_hour : Cond.instanceMethod yX7_hour ∈ TB := TB_t 962 (by decide +kernel) rfl
theorem se_X7_hour : Cond.selects RX7 yX7_hour yX7_hour ∈ TB := TB_t 963 (by decide +kernel) rfl
set_option maxRecDepth 100000 in
theorem co_X7_hour : Cond.code yX7_hour cX7_hour 4 (some .int) ∈ TB := TB_t 964 rfl rfl
theorem ml_X7_205 : Cond.methodLink RX7 205 yX7_refuses ∈ TB := TB_t 965 (by decide +kernel) rfl
theorem im_X7_refuses : Cond.instanceMethod yX7_refuses ∈ TB := TB_t 967 (by decide +kernel) rfl
set_option maxRecDepth 100000 in
theorem co_X7_refuses : Cond.code yX7_refuses cX7_refuses 2 (some .int) ∈ TB := TB_t 968 rfl rfl
theorem kl_X7_203 : Cond.constantLong RX7 203 (60) ∈ TB := TB_t 969 (by decide +kernel) rfl
theorem ml_X7_208 : Cond.methodLink RX7 208 yX7_hourGoes ∈ TB := TB_t 970 (by decide +kernel) rfl
theorem im_X7_hourGoes : Cond.instanceMethod yX7_hourGoes ∈ TB := TB_t 972 (by decide +kernel) rfl
set_option maxRecDepth 100000 in
theorem co_X7_hourGoes : Cond.code yX7_hourGoes cX7_hourGoes 5 none ∈ TB := TB_t 973 rfl rfl
theorem ml_X7_150 : Cond.methodLink RX7 150 yX7_drawerOn ∈ TB := TB_t 974 (by decide +kernel) rfl
theorem im_X7_drawerOn : Cond.instanceMethod yX7_drawerOn ∈ TB := TB_t 976 (by decide +kernel) rfl
set_option maxRecDepth 100000 in
theorem co_X7_drawerOn : Cond.code yX7_drawerOn cX7_drawerOn 4 (some .int) ∈ TB := TB_t 977 rfl rfl
theorem ml_L_73 : Cond.methodLink RL 73 yX7_drift ∈ TB := TB_t 978 (by decide +kernel) rfl
theorem im_X7_drift : Cond.instanceMethod yX7_drift ∈ TB := TB_t 979 (by decide +kernel) rfl
theorem se_X7_drift : Cond.selects RX7 yX7_drift yX7_drift ∈ TB := TB_t 980 (by decide +kernel) rfl
set_option maxRecDepth 100000 in
theorem co_X7_drift : Cond.code yX7_drift cX7_drift 4 (some .int) ∈ TB := TB_t 981 rfl rfl
theorem ml_X7_227 : Cond.methodLink RX7 227 yX7_draws ∈ TB := TB_t 982 (by decide +kernel) rfl
theorem im_X7_draws : Cond.instanceMethod yX7_draws ∈ TB := TB_t 984 (by decide +kernel) rfl
set_option maxRecDepth 100000 in
theorem co_X7_draws : Cond.code yX7_draws cX7_draws 4 none ∈ TB := TB_t 985 rfl rfl
theorem ml_X7_224 : Cond.methodLink RX7 224 yX7_draw ∈ TB := TB_t 986 (by decide +kernel) rfl
theorem im_X7_draw : Cond.instanceMethod yX7_draw ∈ TB := TB_t 988 (by decide +kernel) rfl
set_option maxRecDepth 100000 in
theorem co_X7_draw : Cond.code yX7_draw cX7_draw 2 (some .int) ∈ TB := TB_t 989 rfl rfl
theorem kl_X7_216 : Cond.constantLong RX7 216 (1103515245) ∈ TB := TB_t 990 (by decide +kernel) rfl
theorem kl_X7_218 : Cond.constantLong RX7 218 (12345) ∈ TB := TB_t 991 (by decide +kernel) rfl
theorem kl_X7_220 : Cond.constantLong RX7 220 (2147483648) ∈ TB := TB_t 992 (by decide +kernel) rfl
theorem kl_X7_222 : Cond.constantLong RX7 222 (65536) ∈ TB := TB_t 993 (by decide +kernel) rfl
theorem ml_L_77 : Cond.methodLink RL 77 yX7_undo ∈ TB := TB_t 994 (by decide +kernel) rfl
theorem im_X7_undo : Cond.instanceMethod yX7_undo ∈ TB := TB_t 995 (by decide +kernel) rfl
theorem se_X7_undo : Cond.selects RX7 yX7_undo yX7_undo ∈ TB := TB_t 996 (by decide +kernel) rfl
set_option maxRecDepth 100000 in
theorem co_X7_undo : Cond.code yX7_undo cX7_undo 1 (some .int) ∈ TB := TB_t 997 rfl rfl
theorem ml_L_81 : Cond.methodLink RL 81 yX7_hat ∈ TB := TB_t 998 (by decide +kernel) rfl
theorem im_X7_hat : Cond.instanceMethod yX7_hat ∈ TB := TB_t 999 (by decide +kernel) rfl
theorem se_X7_hat : Cond.selects RX7 yX7_hat yX7_hat ∈ TB := TB_t 1000 (by decide +kernel) rfl
set_option maxRecDepth 100000 in
theorem co_X7_hat : Cond.code yX7_hat cX7_hat 4 (some .int) ∈ TB := TB_t 1001 rfl rfl
theorem kl_X7_230 : Cond.constantLong RX7 230 (100) ∈ TB := TB_t 1002 (by decide +kernel) rfl
theorem ml_X7_232 : Cond.methodLink RX7 232 yX7_layAside ∈ TB := TB_t 1003 (by decide +kernel) rfl
theorem im_X7_layAside : Cond.instanceMethod yX7_layAside ∈ TB := TB_t 1005 (by decide +kernel) rfl
set_option maxRecDepth 100000 in
theorem co_X7_layAside : Cond.code yX7_layAside cX7_layAside 1 none ∈ TB := TB_t 1006 rfl rfl
theorem ml_L_85 : Cond.methodLink RL 85 yX7_most ∈ TB := TB_t 1007 (by decide +kernel) rfl
theorem im_X7_most : Cond.instanceMethod yX7_most ∈ TB := TB_t 1008 (by decide +kernel) rfl
theorem se_X7_most : Cond.selects RX7 yX7_most yX7_most ∈ TB := TB_t 1009 (by decide +kernel) rfl
set_option maxRecDepth 100000 in
theorem co_X7_most : Cond.code yX7_most cX7_most 7 (some .int) ∈ TB := TB_t 1010 rfl rfl
theorem ml_X7_235 : Cond.methodLink RX7 235 yX7_greater ∈ TB := TB_t 1011 (by decide +kernel) rfl
theorem sm_X7_greater : Cond.static yX7_greater ∈ TB := TB_t 1012 (by decide +kernel) rfl
set_option maxRecDepth 100000 in
theorem co_X7_greater : Cond.code yX7_greater cX7_greater 2 (some .int) ∈ TB := TB_t 1013 rfl rfl
theorem ml_L_89 : Cond.methodLink RL 89 yX7_kept ∈ TB := TB_t 1014 (by decide +kernel) rfl
theorem im_X7_kept : Cond.instanceMethod yX7_kept ∈ TB := TB_t 1015 (by decide +kernel) rfl
theorem se_X7_kept : Cond.selects RX7 yX7_kept yX7_kept ∈ TB := TB_t 1016 (by decide +kernel) rfl
set_option maxRecDepth 100000 in
theorem co_X7_kept : Cond.code yX7_kept cX7_kept 2 (some .int) ∈ TB := TB_t 1017 rfl rfl
theorem ml_L_93 : Cond.methodLink RL 93 yX7_settled ∈ TB := TB_t 1018 (by decide +kernel) rfl
theorem im_X7_settled : Cond.instanceMethod yX7_settled ∈ TB := TB_t 1019 (by decide +kernel) rfl
theorem se_X7_settled : Cond.selects RX7 yX7_settled yX7_settled ∈ TB := TB_t 1020 (by decide +kernel) rfl
set_option maxRecDepth 100000 in
theorem co_X7_settled : Cond.code yX7_settled cX7_settled 6 (some .int) ∈ TB := TB_t 1021 rfl rfl
theorem ml_X7_245 : Cond.methodLink RX7 245 yX7_laysDebts ∈ TB := TB_t 1022 (by decide +kernel) rfl
theorem im_X7_laysDebts : Cond.instanceMethod yX7_laysDebts ∈ TB := TB_t 1024 (by decide +kernel) rfl
set_option maxRecDepth 100000 in
theorem co_X7_laysDebts : Cond.code yX7_laysDebts cX7_laysDebts 5 (some .int) ∈ TB := TB_t 1025 rfl rfl
theorem ml_X7_238 : Cond.methodLink RX7 238 yX7_isOwed ∈ TB := TB_t 1026 (by decide +kernel) rfl
theorem im_X7_isOwed : Cond.instanceMethod yX7_isOwed ∈ TB := TB_t 1028 (by decide +kernel) rfl
set_option maxRecDepth 100000 in
theorem co_X7_isOwed : Cond.code yX7_isOwed cX7_isOwed 2 (some .boolean) ∈ TB := TB_t 1029 rfl rfl
theorem ml_X7_241 : Cond.methodLink RX7 241 yX7_mayPay ∈ TB := TB_t 1030 (by decide +kernel) rfl
theorem im_X7_mayPay : Cond.instanceMethod yX7_mayPay ∈ TB := TB_t 1032 (by decide +kernel) rfl
set_option maxRecDepth 100000 in
theorem co_X7_mayPay : Cond.code yX7_mayPay cX7_mayPay 8 (some .boolean) ∈ TB := TB_t 1033 rfl rfl
theorem ml_L_97 : Cond.methodLink RL 97 yX7_toFloat ∈ TB := TB_t 1034 (by decide +kernel) rfl
theorem im_X7_toFloat : Cond.instanceMethod yX7_toFloat ∈ TB := TB_t 1035 (by decide +kernel) rfl
theorem se_X7_toFloat : Cond.selects RX7 yX7_toFloat yX7_toFloat ∈ TB := TB_t 1036 (by decide +kernel) rfl
set_option maxRecDepth 100000 in
theorem co_X7_toFloat : Cond.code yX7_toFloat cX7_toFloat 6 (some .int) ∈ TB := TB_t 1037 rfl rfl
theorem ml_L_101 : Cond.methodLink RL 101 yX7_nets ∈ TB := TB_t 1038 (by decide +kernel) rfl
theorem im_X7_nets : Cond.instanceMethod yX7_nets ∈ TB := TB_t 1039 (by decide +kernel) rfl
theorem se_X7_nets : Cond.selects RX7 yX7_nets yX7_nets ∈ TB := TB_t 1040 (by decide +kernel) rfl
set_option maxRecDepth 100000 in
theorem co_X7_nets : Cond.code yX7_nets cX7_nets 6 (some .int) ∈ TB := TB_t 1041 rfl rfl
theorem kl_X7_248 : Cond.constantLong RX7 248 (9999) ∈ TB := TB_t 1042 (by decide +kernel) rfl
theorem kl_X7_250 : Cond.constantLong RX7 250 (24) ∈ TB := TB_t 1043 (by decide +kernel) rfl
theorem ml_X7_252 : Cond.methodLink RX7 252 yX7_bits ∈ TB := TB_t 1044 (by decide +kernel) rfl
theorem sm_X7_bits : Cond.static yX7_bits ∈ TB := TB_t 1045 (by decide +kernel) rfl
set_option maxRecDepth 100000 in
theorem co_X7_bits : Cond.code yX7_bits cX7_bits 3 (some .int) ∈ TB := TB_t 1046 rfl rfl
theorem ml_L_105 : Cond.methodLink RL 105 yX7_calm ∈ TB := TB_t 1047 (by decide +kernel) rfl
theorem im_X7_calm : Cond.instanceMethod yX7_calm ∈ TB := TB_t 1048 (by decide +kernel) rfl
theorem se_X7_calm : Cond.selects RX7 yX7_calm yX7_calm ∈ TB := TB_t 1049 (by decide +kernel) rfl
set_option maxRecDepth 100000 in
theorem co_X7_calm : Cond.code yX7_calm cX7_calm 6 (some .int) ∈ TB := TB_t 1050 rfl rfl
theorem kl_X7_255 : Cond.constantLong RX7 255 (1000000000) ∈ TB := TB_t 1051 (by decide +kernel) rfl
theorem ml_L_109 : Cond.methodLink RL 109 yX7_watch ∈ TB := TB_t 1052 (by decide +kernel) rfl
theorem im_X7_watch : Cond.instanceMethod yX7_watch ∈ TB := TB_t 1053 (by decide +kernel) rfl
theorem se_X7_watch : Cond.selects RX7 yX7_watch yX7_watch ∈ TB := TB_t 1054 (by decide +kernel) rfl
set_option maxRecDepth 100000 in
theorem co_X7_watch : Cond.code yX7_watch cX7_watch 2 (some .int) ∈ TB := TB_t 1055 rfl rfl
theorem ml_L_114 : Cond.methodLink RL 114 yX7_feel ∈ TB := TB_t 1056 (by decide +kernel) rfl
theorem im_X7_feel : Cond.instanceMethod yX7_feel ∈ TB := TB_t 1057 (by decide +kernel) rfl
theorem se_X7_feel : Cond.selects RX7 yX7_feel yX7_feel ∈ TB := TB_t 1058 (by decide +kernel) rfl
set_option maxRecDepth 100000 in
theorem co_X7_feel : Cond.code yX7_feel cX7_feel 4 (some .int) ∈ TB := TB_t 1059 rfl rfl
theorem ml_L_118 : Cond.methodLink RL 118 yX7_reach ∈ TB := TB_t 1060 (by decide +kernel) rfl
theorem im_X7_reach : Cond.instanceMethod yX7_reach ∈ TB := TB_t 1061 (by decide +kernel) rfl
theorem se_X7_reach : Cond.selects RX7 yX7_reach yX7_reach ∈ TB := TB_t 1062 (by decide +kernel) rfl
set_option maxRecDepth 100000 in
theorem co_X7_reach : Cond.code yX7_reach cX7_reach 10 (some .int) ∈ TB := TB_t 1063 rfl rfl
theorem kl_X7_257 : Cond.constantLong RX7 257 (3) ∈ TB := TB_t 1064 (by decide +kernel) rfl
theorem ml_X7_259 : Cond.methodLink RX7 259 yX7_isSo ∈ TB := TB_t 1065 (by decide +kernel) rfl
theorem im_X7_isSo : Cond.instanceMethod yX7_isSo ∈ TB := TB_t 1067 (by decide +kernel) rfl
set_option maxRecDepth 100000 in
theorem co_X7_isSo : Cond.code yX7_isSo cX7_isSo 4 (some .boolean) ∈ TB := TB_t 1068 rfl rfl
theorem ml_L_122 : Cond.methodLink RL 122 yX7_write ∈ TB := TB_t 1069 (by decide +kernel) rfl
theorem im_X7_write : Cond.instanceMethod yX7_write ∈ TB := TB_t 1070 (by decide +kernel) rfl
theorem se_X7_write : Cond.selects RX7 yX7_write yX7_write ∈ TB := TB_t 1071 (by decide +kernel) rfl
set_option maxRecDepth 100000 in
theorem co_X7_write : Cond.code yX7_write cX7_write 3 (some .int) ∈ TB := TB_t 1072 rfl rfl
theorem ml_L_126 : Cond.methodLink RL 126 yX7_tear ∈ TB := TB_t 1073 (by decide +kernel) rfl
theorem im_X7_tear : Cond.instanceMethod yX7_tear ∈ TB := TB_t 1074 (by decide +kernel) rfl
theorem se_X7_tear : Cond.selects RX7 yX7_tear yX7_tear ∈ TB := TB_t 1075 (by decide +kernel) rfl
set_option maxRecDepth 100000 in
theorem co_X7_tear : Cond.code yX7_tear cX7_tear 2 (some .int) ∈ TB := TB_t 1076 rfl rfl
theorem ml_L_130 : Cond.methodLink RL 130 yX7_judge ∈ TB := TB_t 1077 (by decide +kernel) rfl
theorem im_X7_judge : Cond.instanceMethod yX7_judge ∈ TB := TB_t 1078 (by decide +kernel) rfl
theorem se_X7_judge : Cond.selects RX7 yX7_judge yX7_judge ∈ TB := TB_t 1079 (by decide +kernel) rfl
set_option maxRecDepth 100000 in
theorem co_X7_judge : Cond.code yX7_judge cX7_judge 2 (some .int) ∈ TB := TB_t 1080 rfl rfl
theorem ml_L_134 : Cond.methodLink RL 134 yX7_seed ∈ TB := TB_t 1081 (by decide +kernel) rfl
theorem im_X7_seed : Cond.instanceMethod yX7_seed ∈ TB := TB_t 1082 (by decide +kernel) rfl
theorem se_X7_seed : Cond.selects RX7 yX7_seed yX7_seed ∈ TB := TB_t 1083 (by decide +kernel) rfl
set_option maxRecDepth 100000 in
theorem co_X7_seed : Cond.code yX7_seed cX7_seed 3 (some .int) ∈ TB := TB_t 1084 rfl rfl
theorem ml_L_138 : Cond.methodLink RL 138 yX7_keep ∈ TB := TB_t 1085 (by decide +kernel) rfl
theorem im_X7_keep : Cond.instanceMethod yX7_keep ∈ TB := TB_t 1086 (by decide +kernel) rfl
theorem se_X7_keep : Cond.selects RX7 yX7_keep yX7_keep ∈ TB := TB_t 1087 (by decide +kernel) rfl
set_option maxRecDepth 100000 in
theorem co_X7_keep : Cond.code yX7_keep cX7_keep 2 (some .int) ∈ TB := TB_t 1088 rfl rfl
theorem ml_L_142 : Cond.methodLink RL 142 yX7_goBack ∈ TB := TB_t 1089 (by decide +kernel) rfl
theorem im_X7_goBack : Cond.instanceMethod yX7_goBack ∈ TB := TB_t 1090 (by decide +kernel) rfl
theorem se_X7_goBack : Cond.selects RX7 yX7_goBack yX7_goBack ∈ TB := TB_t 1091 (by decide +kernel) rfl
set_option maxRecDepth 100000 in
theorem co_X7_goBack : Cond.code yX7_goBack cX7_goBack 2 (some .int) ∈ TB := TB_t 1092 rfl rfl
theorem se_X5_skipBlanks : Cond.selects RX5 yX5_skipBlanks yX5_skipBlanks ∈ TB := TB_p 0 (by decide +kernel) rfl
theorem se_X5_readClause : Cond.selects RX5 yX5_readClause yX5_readClause ∈ TB := TB_p 1 (by decide +kernel) rfl
theorem se_X5_noteFault : Cond.selects RX5 yX5_noteFault yX5_noteFault ∈ TB := TB_p 2 (by decide +kernel) rfl
theorem se_X5_readTree : Cond.selects RX5 yX5_readTree yX5_readTree ∈ TB := TB_p 3 (by decide +kernel) rfl
theorem se_X5_readNumber : Cond.selects RX5 yX5_readNumber yX5_readNumber ∈ TB := TB_p 4 (by decide +kernel) rfl
theorem se_X5_readEnd : Cond.selects RX5 yX5_readEnd yX5_readEnd ∈ TB := TB_p 5 (by decide +kernel) rfl
theorem se_X5_readPerson : Cond.selects RX5 yX5_readPerson yX5_readPerson ∈ TB := TB_p 6 (by decide +kernel) rfl
theorem se_X5_readDebt : Cond.selects RX5 yX5_readDebt yX5_readDebt ∈ TB := TB_p 7 (by decide +kernel) rfl
theorem se_X0_notePlace : Cond.selects RX0 yX0_notePlace yX0_notePlace ∈ TB := TB_p 8 (by decide +kernel) rfl
theorem se_X6_richest : Cond.selects RX6 yX6_richest yX6_richest ∈ TB := TB_p 9 (by decide +kernel) rfl
theorem se_X6_rings : Cond.selects RX6 yX6_rings yX6_rings ∈ TB := TB_p 10 (by decide +kernel) rfl
theorem se_X6_creditorsOf : Cond.selects RX6 yX6_creditorsOf yX6_creditorsOf ∈ TB := TB_p 11 (by decide +kernel) rfl
theorem se_X6_owedInAll : Cond.selects RX6 yX6_owedInAll yX6_owedInAll ∈ TB := TB_p 12 (by decide +kernel) rfl
theorem se_X6_suspects : Cond.selects RX6 yX6_suspects yX6_suspects ∈ TB := TB_p 13 (by decide +kernel) rfl
theorem se_X6_owedBy : Cond.selects RX6 yX6_owedBy yX6_owedBy ∈ TB := TB_p 14 (by decide +kernel) rfl
theorem se_X6_owedTo : Cond.selects RX6 yX6_owedTo yX6_owedTo ∈ TB := TB_p 15 (by decide +kernel) rfl
theorem se_X0_changeBy : Cond.selects RX0 yX0_changeBy yX0_changeBy ∈ TB := TB_p 16 (by decide +kernel) rfl
theorem se_X6_refusalOfHours : Cond.selects RX6 yX6_refusalOfHours yX6_refusalOfHours ∈ TB := TB_p 17 (by decide +kernel) rfl
theorem se_X0_whoDraws : Cond.selects RX0 yX0_whoDraws yX0_whoDraws ∈ TB := TB_p 18 (by decide +kernel) rfl
theorem se_X0_goHome : Cond.selects RX0 yX0_goHome yX0_goHome ∈ TB := TB_p 19 (by decide +kernel) rfl
theorem se_X6_doByDraw : Cond.selects RX6 yX6_doByDraw yX6_doByDraw ∈ TB := TB_p 20 (by decide +kernel) rfl
theorem se_X6_drawOf : Cond.selects RX6 yX6_drawOf yX6_drawOf ∈ TB := TB_p 21 (by decide +kernel) rfl
theorem se_X4_beginSets : Cond.selects RX4 yX4_beginSets yX4_beginSets ∈ TB := TB_p 22 (by decide +kernel) rfl
theorem se_X4_fillHats : Cond.selects RX4 yX4_fillHats yX4_fillHats ∈ TB := TB_p 23 (by decide +kernel) rfl
theorem se_X4_offer : Cond.selects RX4 yX4_offer yX4_offer ∈ TB := TB_p 24 (by decide +kernel) rfl
theorem se_X6_birdsWithNets : Cond.selects RX6 yX6_birdsWithNets yX6_birdsWithNets ∈ TB := TB_p 25 (by decide +kernel) rfl
theorem se_X3_canReach : Cond.selects RX3 yX3_canReach yX3_canReach ∈ TB := TB_p 26 (by decide +kernel) rfl
theorem se_X7_step : Cond.selects RX7 yX7_step yX7_step ∈ TB := TB_p 27 (by decide +kernel) rfl
theorem se_X7_here : Cond.selects RX7 yX7_here yX7_here ∈ TB := TB_p 28 (by decide +kernel) rfl
theorem se_X7_readsClause : Cond.selects RX7 yX7_readsClause yX7_readsClause ∈ TB := TB_p 29 (by decide +kernel) rfl
theorem se_X7_fails : Cond.selects RX7 yX7_fails yX7_fails ∈ TB := TB_p 30 (by decide +kernel) rfl
theorem se_X7_number : Cond.selects RX7 yX7_number yX7_number ∈ TB := TB_p 31 (by decide +kernel) rfl
theorem se_X7_ends : Cond.selects RX7 yX7_ends yX7_ends ∈ TB := TB_p 32 (by decide +kernel) rfl
theorem se_X7_readsPerson : Cond.selects RX7 yX7_readsPerson yX7_readsPerson ∈ TB := TB_p 33 (by decide +kernel) rfl
theorem se_X7_readsDebt : Cond.selects RX7 yX7_readsDebt yX7_readsDebt ∈ TB := TB_p 34 (by decide +kernel) rfl
theorem se_X7_begins : Cond.selects RX7 yX7_begins yX7_begins ∈ TB := TB_p 35 (by decide +kernel) rfl
theorem se_X7_hatsOn : Cond.selects RX7 yX7_hatsOn yX7_hatsOn ∈ TB := TB_p 36 (by decide +kernel) rfl
theorem se_X7_rich : Cond.selects RX7 yX7_rich yX7_rich ∈ TB := TB_p 37 (by decide +kernel) rfl
theorem se_X7_rings : Cond.selects RX7 yX7_rings yX7_rings ∈ TB := TB_p 38 (by decide +kernel) rfl
theorem se_X7_owes : Cond.selects RX7 yX7_owes yX7_owes ∈ TB := TB_p 39 (by decide +kernel) rfl
theorem se_X7_who : Cond.selects RX7 yX7_who yX7_who ∈ TB := TB_p 40 (by decide +kernel) rfl
theorem se_X7_drawnBy : Cond.selects RX7 yX7_drawnBy yX7_drawnBy ∈ TB := TB_p 41 (by decide +kernel) rfl
theorem se_X7_isPerson : Cond.selects RX7 yX7_isPerson yX7_isPerson ∈ TB := TB_p 42 (by decide +kernel) rfl
theorem se_X7_lossOn : Cond.selects RX7 yX7_lossOn yX7_lossOn ∈ TB := TB_p 43 (by decide +kernel) rfl
theorem se_X7_remember : Cond.selects RX7 yX7_remember yX7_remember ∈ TB := TB_p 44 (by decide +kernel) rfl
theorem se_X7_strews : Cond.selects RX7 yX7_strews yX7_strews ∈ TB := TB_p 45 (by decide +kernel) rfl
theorem se_X7_hawks : Cond.selects RX7 yX7_hawks yX7_hawks ∈ TB := TB_p 46 (by decide +kernel) rfl
theorem se_X7_refuses : Cond.selects RX7 yX7_refuses yX7_refuses ∈ TB := TB_p 47 (by decide +kernel) rfl
theorem se_X7_hourGoes : Cond.selects RX7 yX7_hourGoes yX7_hourGoes ∈ TB := TB_p 48 (by decide +kernel) rfl
theorem se_X7_drawerOn : Cond.selects RX7 yX7_drawerOn yX7_drawerOn ∈ TB := TB_p 49 (by decide +kernel) rfl
theorem se_X7_draws : Cond.selects RX7 yX7_draws yX7_draws ∈ TB := TB_p 50 (by decide +kernel) rfl
theorem se_X7_draw : Cond.selects RX7 yX7_draw yX7_draw ∈ TB := TB_p 51 (by decide +kernel) rfl
theorem se_X7_layAside : Cond.selects RX7 yX7_layAside yX7_layAside ∈ TB := TB_p 52 (by decide +kernel) rfl
theorem se_X7_laysDebts : Cond.selects RX7 yX7_laysDebts yX7_laysDebts ∈ TB := TB_p 53 (by decide +kernel) rfl
theorem se_X7_isOwed : Cond.selects RX7 yX7_isOwed yX7_isOwed ∈ TB := TB_p 54 (by decide +kernel) rfl
theorem se_X7_mayPay : Cond.selects RX7 yX7_mayPay yX7_mayPay ∈ TB := TB_p 55 (by decide +kernel) rfl
theorem se_X7_isSo : Cond.selects RX7 yX7_isSo yX7_isSo ∈ TB := TB_p 56 (by decide +kernel) rfl
def nestW : List (String × Nat × MethodName × String) := [(RX6, 9, yX5_init, RX6), (RX6, 18, yX1_init, RX6), (RX6, 28, yX0_init, RX6), (RX2, 24, yX0_init, RX6), (RX6, 57, yX4_init, RX6), (RX6, 64, yX3_init, RX6), (RX5, 87, yX6_isOutside, RX6), (RX0, 65, yX6_has, RX6), (RX4, 63, yX6_has, RX6)]
theorem nestW_in : ∀ q ∈ nestW, Cond.methodLinkNest q.1 q.2.1 q.2.2.1 q.2.2.2 ∈ lw_tbl := by decide +kernel
set_option maxRecDepth 100000 in
theorem ao_in : Cond.arrayOver (.object "SparrowChange$Flock") ∈ lw_tbl := List.mem_append_right _ (List.mem_of_getElem? (i := 164) rfl)
theorem inB0 : ∀ w ∈ u_ws RX0 TX0 9, w ∈ TB := fun w hw => TB_in (inX0 w hw) (List.all_eq_true.mp (by decide +kernel : (u_ws RX0 TX0 9).all goodWord = true) w hw)
theorem inB1 : ∀ w ∈ u_ws RX1 TX1 11, w ∈ TB := fun w hw => TB_in (inX1 w hw) (List.all_eq_true.mp (by decide +kernel : (u_ws RX1 TX1 11).all goodWord = true) w hw)
theorem inB2 : ∀ w ∈ u_ws RX2 TX2 3, w ∈ TB := fun w hw => TB_in (inX2 w hw) (List.all_eq_true.mp (by decide +kernel : (u_ws RX2 TX2 3).all goodWord = true) w hw)
theorem inB3 : ∀ w ∈ u_ws RX3 TX3 8, w ∈ TB := fun w hw => TB_in (inX3 w hw) (List.all_eq_true.mp (by decide +kernel : (u_ws RX3 TX3 8).all goodWord = true) w hw)
theorem inB4 : ∀ w ∈ u_ws RX4 TX4 2, w ∈ TB := fun w hw => TB_in (inX4 w hw) (List.all_eq_true.mp (by decide +kernel : (u_ws RX4 TX4 2).all goodWord = true) w hw)
theorem inB5 : ∀ w ∈ u_ws RX5 TX5 6, w ∈ TB := fun w hw => TB_in (inX5 w hw) (List.all_eq_true.mp (by decide +kernel : (u_ws RX5 TX5 6).all goodWord = true) w hw)
theorem inB6 : ∀ w ∈ u_ws RX6 TX6 13, w ∈ TB := fun w hw => TB_in (inX6 w hw) (List.all_eq_true.mp (by decide +kernel : (u_ws RX6 TX6 13).all goodWord = true) w hw)
theorem inB7 : ∀ w ∈ u_ws RX7 TX7 26, w ∈ TB := fun w hw => TB_in (inX7 w hw) (List.all_eq_true.mp (by decide +kernel : (u_ws RX7 TX7 26).all goodWord = true) w hw)
