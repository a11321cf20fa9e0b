theorem in_L : Cond.initialized RL ∈ TB := TB_mem 56 rfl rfl
theorem in_X4 : Cond.initialized RX4 ∈ TB := TB_mem 57 rfl rfl
theorem in_X1 : Cond.initialized RX1 ∈ TB := TB_mem 58 rfl rfl
theorem in_X0 : Cond.initialized RX0 ∈ TB := TB_mem 59 rfl rfl
theorem in_X2 : Cond.initialized RX2 ∈ TB := TB_mem 60 rfl rfl
theorem in_X3 : Cond.initialized RX3 ∈ TB := TB_mem 61 rfl rfl
theorem in_J7 : Cond.initialized RJ7 ∈ TB := TB_mem 62 rfl rfl
theorem in_J10 : Cond.initialized RJ10 ∈ TB := TB_mem 63 rfl rfl
theorem in_X5 : Cond.initialized RX5 ∈ TB := TB_mem 64 rfl rfl
theorem in_java_lang_Throwable : Cond.initialized "java/lang/Throwable" ∈ TB := TB_mem 65 rfl rfl
theorem in_java_lang_Exception : Cond.initialized "java/lang/Exception" ∈ TB := TB_mem 66 rfl rfl
theorem in_java_lang_RuntimeException : Cond.initialized "java/lang/RuntimeException" ∈ TB := TB_mem 67 rfl rfl
theorem in_java_lang_IllegalArgumentException : Cond.initialized "java/lang/IllegalArgumentException" ∈ TB := TB_mem 68 rfl rfl
theorem in_java_lang_UnsupportedOperationException : Cond.initialized "java/lang/UnsupportedOperationException" ∈ TB := TB_mem 69 rfl rfl
theorem in_java_lang_IllegalStateException : Cond.initialized "java/lang/IllegalStateException" ∈ TB := TB_mem 70 rfl rfl
theorem in_J9 : Cond.initialized RJ9 ∈ TB := TB_mem 71 rfl rfl
theorem cl_L_8 : Cond.classLink RL 8 RX4 ∈ TB := TB_mem 72 rfl rfl
theorem ia_X4 : Cond.instantiable RX4 7 ∈ TB := TB_mem 73 rfl rfl
theorem ml_L_41 : Cond.methodLink RL 41 yX4_init ∈ TB := TB_mem 74 rfl rfl
theorem im_yX4_init : Cond.instanceMethod yX4_init ∈ TB := TB_mem 75 rfl rfl
theorem cd_yX4_init : Cond.code yX4_init cX4_init 1 none ∈ TB := TB_mem 76 rfl rfl
theorem ml_X4_1 : Cond.methodLink RX4 1 objectInit ∈ TB := TB_mem 77 rfl rfl
theorem im_objectInit : Cond.instanceMethod objectInit ∈ TB := TB_mem 78 rfl rfl
theorem cl_X4_7 : Cond.classLink RX4 7 RX1 ∈ TB := TB_mem 80 rfl rfl
theorem ia_X1 : Cond.instantiable RX1 8 ∈ TB := TB_mem 81 rfl rfl
theorem ml_X4_9 : Cond.methodLink RX4 9 yX1_init ∈ TB := TB_mem 82 rfl rfl
theorem im_yX1_init : Cond.instanceMethod yX1_init ∈ TB := TB_mem 83 rfl rfl
theorem cd_yX1_init : Cond.code yX1_init cX1_init 1 none ∈ TB := TB_mem 84 rfl rfl
theorem ml_X1_3 : Cond.methodLink RX1 3 objectInit ∈ TB := TB_mem 85 rfl rfl
theorem co_X1_9 : Cond.constant RX1 9 (Int32.ofInt 65280) ∈ TB := TB_mem 86 rfl rfl
theorem fl_X1_10 : Cond.fieldLink RX1 10 "HashPages$Disk" "cells" "[I" ∈ TB := TB_mem 87 rfl rfl
theorem fl_X1_16 : Cond.fieldLink RX1 16 "HashPages$Disk" "kinds" "[I" ∈ TB := TB_mem 88 rfl rfl
theorem fl_X1_33 : Cond.fieldLink RX1 33 "HashPages$Disk" "kindsAreOld" "Z" ∈ TB := TB_mem 89 rfl rfl
theorem fl_X1_19 : Cond.fieldLink RX1 19 "HashPages$Disk" "pages" "I" ∈ TB := TB_mem 90 rfl rfl
theorem fl_X1_23 : Cond.fieldLink RX1 23 "HashPages$Disk" "log" "I" ∈ TB := TB_mem 91 rfl rfl
theorem fl_X1_26 : Cond.fieldLink RX1 26 "HashPages$Disk" "writes" "I" ∈ TB := TB_mem 92 rfl rfl
theorem fl_X1_64 : Cond.fieldLink RX1 64 "HashPages$Disk" "allowed" "I" ∈ TB := TB_mem 93 rfl rfl
theorem fl_X1_67 : Cond.fieldLink RX1 67 "HashPages$Disk" "down" "Z" ∈ TB := TB_mem 94 rfl rfl
theorem ac_int : Cond.arrayClass .int ∈ TB := TB_mem 112 rfl rfl
theorem cl_X4_16 : Cond.classLink RX4 16 RX0 ∈ TB := TB_mem 113 rfl rfl
theorem ia_X0 : Cond.instantiable RX0 3 ∈ TB := TB_mem 114 rfl rfl
theorem ml_X4_18 : Cond.methodLink RX4 18 yX0_init ∈ TB := TB_mem 115 rfl rfl
theorem im_yX0_init : Cond.instanceMethod yX0_init ∈ TB := TB_mem 116 rfl rfl
theorem cd_yX0_init : Cond.code yX0_init cX0_init 2 none ∈ TB := TB_mem 117 rfl rfl
theorem ml_X0_3 : Cond.methodLink RX0 3 objectInit ∈ TB := TB_mem 118 rfl rfl
theorem cl_X0_15 : Cond.classLink RX0 15 RX2 ∈ TB := TB_mem 119 rfl rfl
theorem ia_X2 : Cond.instantiable RX2 1 ∈ TB := TB_mem 120 rfl rfl
theorem ml_X0_17 : Cond.methodLink RX0 17 yX2_init ∈ TB := TB_mem 121 rfl rfl
theorem im_yX2_init : Cond.instanceMethod yX2_init ∈ TB := TB_mem 122 rfl rfl
theorem cd_yX2_init : Cond.code yX2_init cX2_init 1 none ∈ TB := TB_mem 123 rfl rfl
theorem ml_X2_3 : Cond.methodLink RX2 3 objectInit ∈ TB := TB_mem 124 rfl rfl
theorem fl_X2_9 : Cond.fieldLink RX2 9 "HashPages$Page" "bytes" "[I" ∈ TB := TB_mem 125 rfl rfl
theorem fl_X0_9 : Cond.fieldLink RX0 9 "HashPages$Change" "disk" "LHashPages$Disk;" ∈ TB := TB_mem 129 rfl rfl
theorem fl_X0_18 : Cond.fieldLink RX0 18 "HashPages$Change" "journal" "LHashPages$Page;" ∈ TB := TB_mem 130 rfl rfl
theorem fl_X0_22 : Cond.fieldLink RX0 22 "HashPages$Change" "image" "LHashPages$Page;" ∈ TB := TB_mem 131 rfl rfl
theorem cl_X4_25 : Cond.classLink RX4 25 RX2 ∈ TB := TB_mem 139 rfl rfl
theorem ml_X4_27 : Cond.methodLink RX4 27 yX2_init ∈ TB := TB_mem 140 rfl rfl
theorem cl_X4_35 : Cond.classLink RX4 35 RX3 ∈ TB := TB_mem 141 rfl rfl
theorem ia_X3 : Cond.instantiable RX3 2 ∈ TB := TB_mem 142 rfl rfl
theorem ml_X4_37 : Cond.methodLink RX4 37 yX3_init ∈ TB := TB_mem 143 rfl rfl
theorem im_yX3_init : Cond.instanceMethod yX3_init ∈ TB := TB_mem 144 rfl rfl
theorem cd_yX3_init : Cond.code yX3_init cX3_init 1 none ∈ TB := TB_mem 145 rfl rfl
theorem ml_X3_3 : Cond.methodLink RX3 3 objectInit ∈ TB := TB_mem 146 rfl rfl
theorem fl_X3_9 : Cond.fieldLink RX3 9 "HashPages$Tape" "bytes" "[I" ∈ TB := TB_mem 147 rfl rfl
theorem fl_X3_15 : Cond.fieldLink RX3 15 "HashPages$Tape" "size" "I" ∈ TB := TB_mem 148 rfl rfl
theorem ml_X4_50 : Cond.methodLink RX4 50 yX1_wipe ∈ TB := TB_mem 154 rfl rfl
theorem im_yX1_wipe : Cond.instanceMethod yX1_wipe ∈ TB := TB_mem 155 rfl rfl
theorem se_yX1_wipe : Cond.selects RX1 yX1_wipe yX1_wipe ∈ TB := TB_mem 156 rfl rfl
theorem cd_yX1_wipe : Cond.code yX1_wipe cX1_wipe 5 none ∈ TB := TB_mem 157 rfl rfl
theorem ml_X1_29 : Cond.methodLink RX1 29 yX1_allow ∈ TB := TB_mem 158 rfl rfl
theorem im_yX1_allow : Cond.instanceMethod yX1_allow ∈ TB := TB_mem 159 rfl rfl
theorem se_yX1_allow : Cond.selects RX1 yX1_allow yX1_allow ∈ TB := TB_mem 160 rfl rfl
theorem cd_yX1_allow : Cond.code yX1_allow cX1_allow 2 none ∈ TB := TB_mem 161 rfl rfl
theorem ml_X1_37 : Cond.methodLink RX1 37 yX2_clear ∈ TB := TB_mem 162 rfl rfl
theorem im_yX2_clear : Cond.instanceMethod yX2_clear ∈ TB := TB_mem 163 rfl rfl
theorem se_yX2_clear : Cond.selects RX2 yX2_clear yX2_clear ∈ TB := TB_mem 164 rfl rfl
theorem cd_yX2_clear : Cond.code yX2_clear cX2_clear 1 none ∈ TB := TB_mem 165 rfl rfl
theorem ml_X2_15 : Cond.methodLink RX2 15 yJ7_fill_53178 ∈ TB := TB_mem 166 rfl rfl
theorem sm_yJ7_fill_53178 : Cond.static yJ7_fill_53178 ∈ TB := TB_mem 167 rfl rfl
theorem cd_yJ7_fill_53178 : Cond.code yJ7_fill_53178 cJ7_fill_53178 4 none ∈ TB := TB_mem 168 rfl rfl
theorem ml_X1_42 : Cond.methodLink RX1 42 yX1_place ∈ TB := TB_mem 169 rfl rfl
theorem im_yX1_place : Cond.instanceMethod yX1_place ∈ TB := TB_mem 171 rfl rfl
theorem cd_yX1_place : Cond.code yX1_place cX1_place 3 none ∈ TB := TB_mem 172 rfl rfl
theorem ml_X1_50 : Cond.methodLink RX1 50 yX1_isPage ∈ TB := TB_mem 173 rfl rfl
theorem im_yX1_isPage : Cond.instanceMethod yX1_isPage ∈ TB := TB_mem 175 rfl rfl
theorem cd_yX1_isPage : Cond.code yX1_isPage cX1_isPage 2 (some .boolean) ∈ TB := TB_mem 176 rfl rfl
theorem ml_X1_54 : Cond.methodLink RX1 54 yX2_bytes ∈ TB := TB_mem 177 rfl rfl
theorem im_yX2_bytes : Cond.instanceMethod yX2_bytes ∈ TB := TB_mem 178 rfl rfl
theorem se_yX2_bytes : Cond.selects RX2 yX2_bytes yX2_bytes ∈ TB := TB_mem 179 rfl rfl
theorem cd_yX2_bytes : Cond.code yX2_bytes cX2_bytes 1 (some (.array .int)) ∈ TB := TB_mem 180 rfl rfl
theorem ml_X1_58 : Cond.methodLink RX1 58 arraycopyName ∈ TB := TB_mem 181 rfl rfl
theorem sm_arraycopyName : Cond.static arraycopyName ∈ TB := TB_mem 182 rfl rfl
theorem nm_arraycopyName : Cond.native arraycopyName ∈ TB := TB_mem 183 rfl rfl
theorem ml_X1_46 : Cond.methodLink RX1 46 yX1_lay ∈ TB := TB_mem 184 rfl rfl
theorem im_yX1_lay : Cond.instanceMethod yX1_lay ∈ TB := TB_mem 186 rfl rfl
theorem cd_yX1_lay : Cond.code yX1_lay cX1_lay 4 none ∈ TB := TB_mem 187 rfl rfl
theorem fl_X4_10 : Cond.fieldLink RX4 10 "HashPages" "disk" "LHashPages$Disk;" ∈ TB := TB_mem 188 rfl rfl
theorem fl_X4_21 : Cond.fieldLink RX4 21 "HashPages" "change" "LHashPages$Change;" ∈ TB := TB_mem 189 rfl rfl
theorem fl_X4_28 : Cond.fieldLink RX4 28 "HashPages" "built" "LHashPages$Page;" ∈ TB := TB_mem 190 rfl rfl
theorem fl_X4_32 : Cond.fieldLink RX4 32 "HashPages" "head" "LHashPages$Page;" ∈ TB := TB_mem 191 rfl rfl
theorem fl_X4_38 : Cond.fieldLink RX4 38 "HashPages" "tape" "LHashPages$Tape;" ∈ TB := TB_mem 192 rfl rfl
theorem fl_X4_42 : Cond.fieldLink RX4 42 "HashPages" "answerBytes" "[I" ∈ TB := TB_mem 193 rfl rfl
theorem fl_X4_46 : Cond.fieldLink RX4 46 "HashPages" "answerSize" "I" ∈ TB := TB_mem 194 rfl rfl
theorem ml_L_71 : Cond.methodLink RL 71 yX4_answer ∈ TB := TB_mem 210 rfl rfl
theorem im_yX4_answer : Cond.instanceMethod yX4_answer ∈ TB := TB_mem 211 rfl rfl
theorem se_yX4_answer : Cond.selects RX4 yX4_answer yX4_answer ∈ TB := TB_mem 212 rfl rfl
theorem cd_yX4_answer : Cond.code yX4_answer cX4_answer 2 (some .int) ∈ TB := TB_mem 213 rfl rfl
theorem ml_L_82 : Cond.methodLink RL 82 yX4_byteOf ∈ TB := TB_mem 214 rfl rfl
theorem im_yX4_byteOf : Cond.instanceMethod yX4_byteOf ∈ TB := TB_mem 215 rfl rfl
theorem se_yX4_byteOf : Cond.selects RX4 yX4_byteOf yX4_byteOf ∈ TB := TB_mem 216 rfl rfl
theorem cd_yX4_byteOf : Cond.code yX4_byteOf cX4_byteOf 3 (some .int) ∈ TB := TB_mem 217 rfl rfl
theorem ml_X4_130 : Cond.methodLink RX4 130 yX1_at ∈ TB := TB_mem 218 rfl rfl
theorem im_yX1_at : Cond.instanceMethod yX1_at ∈ TB := TB_mem 219 rfl rfl
theorem se_yX1_at : Cond.selects RX1 yX1_at yX1_at ∈ TB := TB_mem 220 rfl rfl
theorem cd_yX1_at : Cond.code yX1_at cX1_at 3 (some .int) ∈ TB := TB_mem 221 rfl rfl
theorem ml_L_87 : Cond.methodLink RL 87 yX4_kind ∈ TB := TB_mem 222 rfl rfl
theorem im_yX4_kind : Cond.instanceMethod yX4_kind ∈ TB := TB_mem 223 rfl rfl
theorem se_yX4_kind : Cond.selects RX4 yX4_kind yX4_kind ∈ TB := TB_mem 224 rfl rfl
theorem cd_yX4_kind : Cond.code yX4_kind cX4_kind 2 (some .int) ∈ TB := TB_mem 225 rfl rfl
theorem ml_X4_142 : Cond.methodLink RX4 142 yX1_kindOf ∈ TB := TB_mem 226 rfl rfl
theorem im_yX1_kindOf : Cond.instanceMethod yX1_kindOf ∈ TB := TB_mem 227 rfl rfl
theorem se_yX1_kindOf : Cond.selects RX1 yX1_kindOf yX1_kindOf ∈ TB := TB_mem 228 rfl rfl
theorem cd_yX1_kindOf : Cond.code yX1_kindOf cX1_kindOf 2 (some .int) ∈ TB := TB_mem 229 rfl rfl
theorem ml_X1_88 : Cond.methodLink RX1 88 yX1_learnKinds ∈ TB := TB_mem 230 rfl rfl
theorem im_yX1_learnKinds : Cond.instanceMethod yX1_learnKinds ∈ TB := TB_mem 232 rfl rfl
theorem cd_yX1_learnKinds : Cond.code yX1_learnKinds cX1_learnKinds 7 none ∈ TB := TB_mem 233 rfl rfl
theorem ml_X1_91 : Cond.methodLink RX1 91 yJ7_fill_53178 ∈ TB := TB_mem 234 rfl rfl
theorem ml_X1_70 : Cond.methodLink RX1 70 yX1_at ∈ TB := TB_mem 235 rfl rfl
theorem sm_yX4_pagesFor : Cond.static yX4_pagesFor ∈ TB := TB_mem 237 rfl rfl
theorem cd_yX4_pagesFor : Cond.code yX4_pagesFor cX4_pagesFor 1 (some .int) ∈ TB := TB_mem 238 rfl rfl
theorem ml_X1_100 : Cond.methodLink RX1 100 yJ9_min_7cf53 ∈ TB := TB_mem 239 rfl rfl
theorem sm_yJ9_min_7cf53 : Cond.static yJ9_min_7cf53 ∈ TB := TB_mem 240 rfl rfl
theorem cd_yJ9_min_7cf53 : Cond.code yJ9_min_7cf53 cJ9_min_7cf53 2 (some .int) ∈ TB := TB_mem 241 rfl rfl
theorem ml_X1_105 : Cond.methodLink RX1 105 yX1_mark ∈ TB := TB_mem 242 rfl rfl
theorem im_yX1_mark : Cond.instanceMethod yX1_mark ∈ TB := TB_mem 244 rfl rfl
theorem cd_yX1_mark : Cond.code yX1_mark cX1_mark 3 none ∈ TB := TB_mem 245 rfl rfl
theorem ml_L_91 : Cond.methodLink RL 91 yX4_hash ∈ TB := TB_mem 246 rfl rfl
theorem im_yX4_hash : Cond.instanceMethod yX4_hash ∈ TB := TB_mem 247 rfl rfl
theorem se_yX4_hash : Cond.selects RX4 yX4_hash yX4_hash ∈ TB := TB_mem 248 rfl rfl
theorem cd_yX4_hash : Cond.code yX4_hash cX4_hash 2 (some .int) ∈ TB := TB_mem 249 rfl rfl
theorem ml_X4_67 : Cond.methodLink RX4 67 yX3_size ∈ TB := TB_mem 250 rfl rfl
set_option maxRecDepth 100000 in
theorem im_yX3_size : Cond.instanceMethod yX3_size ∈ TB := TB_mem 251 rfl rfl
set_option maxRecDepth 100000 in
theorem se_yX3_size : Cond.selects RX3 yX3_size yX3_size ∈ TB := TB_mem 252 rfl rfl
set_option maxRecDepth 100000 in
theorem cd_yX3_size : Cond.code yX3_size cX3_size 1 (some .int) ∈ TB := TB_mem 253 rfl rfl
set_option maxRecDepth 100000 in
theorem ml_X4_96 : Cond.methodLink RX4 96 yX3_keyHash ∈ TB := TB_mem 254 rfl rfl
set_option maxRecDepth 100000 in
theorem im_yX3_keyHash : Cond.instanceMethod yX3_keyHash ∈ TB := TB_mem 255 rfl rfl
set_option maxRecDepth 100000 in
theorem se_yX3_keyHash : Cond.selects RX3 yX3_keyHash yX3_keyHash ∈ TB := TB_mem 256 rfl rfl
set_option maxRecDepth 100000 in
theorem cd_yX3_keyHash : Cond.code yX3_keyHash cX3_keyHash 2 (some .int) ∈ TB := TB_mem 257 rfl rfl
set_option maxRecDepth 100000 in
theorem sm_yX4_hashOf : Cond.static yX4_hashOf ∈ TB := TB_mem 259 rfl rfl
set_option maxRecDepth 100000 in
theorem cd_yX4_hashOf : Cond.code yX4_hashOf cX4_hashOf 5 (some .int) ∈ TB := TB_mem 260 rfl rfl
set_option maxRecDepth 100000 in
theorem co_X4_264 : Cond.constant RX4 264 (Int32.ofInt 40503) ∈ TB := TB_mem 261 rfl rfl
set_option maxRecDepth 100000 in
theorem co_X4_265 : Cond.constant RX4 265 (Int32.ofInt 65535) ∈ TB := TB_mem 262 rfl rfl
set_option maxRecDepth 100000 in
theorem ml_L_95 : Cond.methodLink RL 95 yX4_entry ∈ TB := TB_mem 263 rfl rfl
set_option maxRecDepth 100000 in
theorem im_yX4_entry : Cond.instanceMethod yX4_entry ∈ TB := TB_mem 264 rfl rfl
set_option maxRecDepth 100000 in
theorem se_yX4_entry : Cond.selects RX4 yX4_entry yX4_entry ∈ TB := TB_mem 265 rfl rfl
set_option maxRecDepth 100000 in
theorem cd_yX4_entry : Cond.code yX4_entry cX4_entry 2 (some .int) ∈ TB := TB_mem 266 rfl rfl
set_option maxRecDepth 100000 in
theorem ml_X4_145 : Cond.methodLink RX4 145 yX1_entryAt ∈ TB := TB_mem 267 rfl rfl
set_option maxRecDepth 100000 in
theorem im_yX1_entryAt : Cond.instanceMethod yX1_entryAt ∈ TB := TB_mem 268 rfl rfl
set_option maxRecDepth 100000 in
theorem se_yX1_entryAt : Cond.selects RX1 yX1_entryAt yX1_entryAt ∈ TB := TB_mem 269 rfl rfl
set_option maxRecDepth 100000 in
theorem cd_yX1_entryAt : Cond.code yX1_entryAt cX1_entryAt 2 (some .int) ∈ TB := TB_mem 270 rfl rfl
set_option maxRecDepth 100000 in
theorem ml_X1_74 : Cond.methodLink RX1 74 yX1_depth ∈ TB := TB_mem 271 rfl rfl
set_option maxRecDepth 100000 in
theorem im_yX1_depth : Cond.instanceMethod yX1_depth ∈ TB := TB_mem 272 rfl rfl
set_option maxRecDepth 100000 in
theorem se_yX1_depth : Cond.selects RX1 yX1_depth yX1_depth ∈ TB := TB_mem 273 rfl rfl
set_option maxRecDepth 100000 in
theorem cd_yX1_depth : Cond.code yX1_depth cX1_depth 1 (some .int) ∈ TB := TB_mem 274 rfl rfl
set_option maxRecDepth 100000 in
theorem ml_X1_78 : Cond.methodLink RX1 78 yX1_directoryPage ∈ TB := TB_mem 275 rfl rfl
set_option maxRecDepth 100000 in
theorem im_yX1_directoryPage : Cond.instanceMethod yX1_directoryPage ∈ TB := TB_mem 276 rfl rfl
set_option maxRecDepth 100000 in
theorem se_yX1_directoryPage : Cond.selects RX1 yX1_directoryPage yX1_directoryPage ∈ TB := TB_mem 277 rfl rfl
set_option maxRecDepth 100000 in
theorem cd_yX1_directoryPage : Cond.code yX1_directoryPage cX1_directoryPage 2 (some .int) ∈ TB := TB_mem 278 rfl rfl
set_option maxRecDepth 100000 in
theorem ml_L_99 : Cond.methodLink RL 99 yX4_bucket ∈ TB := TB_mem 279 rfl rfl
set_option maxRecDepth 100000 in
theorem im_yX4_bucket : Cond.instanceMethod yX4_bucket ∈ TB := TB_mem 280 rfl rfl
set_option maxRecDepth 100000 in
theorem se_yX4_bucket : Cond.selects RX4 yX4_bucket yX4_bucket ∈ TB := TB_mem 281 rfl rfl
set_option maxRecDepth 100000 in
theorem cd_yX4_bucket : Cond.code yX4_bucket cX4_bucket 3 (some .int) ∈ TB := TB_mem 282 rfl rfl
set_option maxRecDepth 100000 in
theorem ml_X4_148 : Cond.methodLink RX4 148 yX1_recordBytes ∈ TB := TB_mem 283 rfl rfl
set_option maxRecDepth 100000 in
theorem im_yX1_recordBytes : Cond.instanceMethod yX1_recordBytes ∈ TB := TB_mem 284 rfl rfl
set_option maxRecDepth 100000 in
theorem se_yX1_recordBytes : Cond.selects RX1 yX1_recordBytes yX1_recordBytes ∈ TB := TB_mem 285 rfl rfl
set_option maxRecDepth 100000 in
theorem cd_yX1_recordBytes : Cond.code yX1_recordBytes cX1_recordBytes 2 (some .int) ∈ TB := TB_mem 286 rfl rfl
set_option maxRecDepth 100000 in
theorem ml_L_103 : Cond.methodLink RL 103 yX4_record ∈ TB := TB_mem 287 rfl rfl
set_option maxRecDepth 100000 in
theorem im_yX4_record : Cond.instanceMethod yX4_record ∈ TB := TB_mem 288 rfl rfl
set_option maxRecDepth 100000 in
theorem se_yX4_record : Cond.selects RX4 yX4_record yX4_record ∈ TB := TB_mem 289 rfl rfl
set_option maxRecDepth 100000 in
theorem cd_yX4_record : Cond.code yX4_record cX4_record 7 (some .int) ∈ TB := TB_mem 290 rfl rfl
set_option maxRecDepth 100000 in
theorem ml_X4_151 : Cond.methodLink RX4 151 yX1_recordStart ∈ TB := TB_mem 291 rfl rfl
set_option maxRecDepth 100000 in
theorem im_yX1_recordStart : Cond.instanceMethod yX1_recordStart ∈ TB := TB_mem 292 rfl rfl
set_option maxRecDepth 100000 in
theorem se_yX1_recordStart : Cond.selects RX1 yX1_recordStart yX1_recordStart ∈ TB := TB_mem 293 rfl rfl
set_option maxRecDepth 100000 in
theorem cd_yX1_recordStart : Cond.code yX1_recordStart cX1_recordStart 5 (some .int) ∈ TB := TB_mem 294 rfl rfl
set_option maxRecDepth 100000 in
theorem ml_X1_112 : Cond.methodLink RX1 112 yX1_recordSize ∈ TB := TB_mem 295 rfl rfl
set_option maxRecDepth 100000 in
theorem im_yX1_recordSize : Cond.instanceMethod yX1_recordSize ∈ TB := TB_mem 296 rfl rfl
set_option maxRecDepth 100000 in
theorem se_yX1_recordSize : Cond.selects RX1 yX1_recordSize yX1_recordSize ∈ TB := TB_mem 297 rfl rfl
set_option maxRecDepth 100000 in
theorem cd_yX1_recordSize : Cond.code yX1_recordSize cX1_recordSize 3 (some .int) ∈ TB := TB_mem 298 rfl rfl
set_option maxRecDepth 100000 in
theorem ml_L_108 : Cond.methodLink RL 108 yX4_look ∈ TB := TB_mem 299 rfl rfl
set_option maxRecDepth 100000 in
theorem im_yX4_look : Cond.instanceMethod yX4_look ∈ TB := TB_mem 300 rfl rfl
set_option maxRecDepth 100000 in
theorem se_yX4_look : Cond.selects RX4 yX4_look yX4_look ∈ TB := TB_mem 301 rfl rfl
set_option maxRecDepth 100000 in
theorem cd_yX4_look : Cond.code yX4_look cX4_look 2 (some .int) ∈ TB := TB_mem 302 rfl rfl
set_option maxRecDepth 100000 in
theorem ml_X4_154 : Cond.methodLink RX4 154 yX1_pages ∈ TB := TB_mem 303 rfl rfl
set_option maxRecDepth 100000 in
theorem im_yX1_pages : Cond.instanceMethod yX1_pages ∈ TB := TB_mem 304 rfl rfl
set_option maxRecDepth 100000 in
theorem se_yX1_pages : Cond.selects RX1 yX1_pages yX1_pages ∈ TB := TB_mem 305 rfl rfl
set_option maxRecDepth 100000 in
theorem cd_yX1_pages : Cond.code yX1_pages cX1_pages 1 (some .int) ∈ TB := TB_mem 306 rfl rfl
set_option maxRecDepth 100000 in
theorem ml_X4_157 : Cond.methodLink RX4 157 yX1_log ∈ TB := TB_mem 307 rfl rfl
set_option maxRecDepth 100000 in
theorem im_yX1_log : Cond.instanceMethod yX1_log ∈ TB := TB_mem 308 rfl rfl
set_option maxRecDepth 100000 in
theorem se_yX1_log : Cond.selects RX1 yX1_log yX1_log ∈ TB := TB_mem 309 rfl rfl
set_option maxRecDepth 100000 in
theorem cd_yX1_log : Cond.code yX1_log cX1_log 1 (some .int) ∈ TB := TB_mem 310 rfl rfl
set_option maxRecDepth 100000 in
theorem ml_X4_160 : Cond.methodLink RX4 160 yX1_depth ∈ TB := TB_mem 311 rfl rfl
set_option maxRecDepth 100000 in
theorem ml_X4_163 : Cond.methodLink RX4 163 yX1_countKind ∈ TB := TB_mem 312 rfl rfl
set_option maxRecDepth 100000 in
theorem im_yX1_countKind : Cond.instanceMethod yX1_countKind ∈ TB := TB_mem 313 rfl rfl
set_option maxRecDepth 100000 in
theorem se_yX1_countKind : Cond.selects RX1 yX1_countKind yX1_countKind ∈ TB := TB_mem 314 rfl rfl
set_option maxRecDepth 100000 in
theorem cd_yX1_countKind : Cond.code yX1_countKind cX1_countKind 4 (some .int) ∈ TB := TB_mem 315 rfl rfl
set_option maxRecDepth 100000 in
theorem ml_X1_109 : Cond.methodLink RX1 109 yX1_kindOf ∈ TB := TB_mem 316 rfl rfl
set_option maxRecDepth 100000 in
theorem ml_X4_166 : Cond.methodLink RX4 166 yX1_countRecords ∈ TB := TB_mem 317 rfl rfl
set_option maxRecDepth 100000 in
theorem im_yX1_countRecords : Cond.instanceMethod yX1_countRecords ∈ TB := TB_mem 318 rfl rfl
set_option maxRecDepth 100000 in
theorem se_yX1_countRecords : Cond.selects RX1 yX1_countRecords yX1_countRecords ∈ TB := TB_mem 319 rfl rfl
set_option maxRecDepth 100000 in
theorem cd_yX1_countRecords : Cond.code yX1_countRecords cX1_countRecords 3 (some .int) ∈ TB := TB_mem 320 rfl rfl
set_option maxRecDepth 100000 in
theorem ml_X4_169 : Cond.methodLink RX4 169 yX1_writes ∈ TB := TB_mem 321 rfl rfl
set_option maxRecDepth 100000 in
theorem im_yX1_writes : Cond.instanceMethod yX1_writes ∈ TB := TB_mem 322 rfl rfl
set_option maxRecDepth 100000 in
theorem se_yX1_writes : Cond.selects RX1 yX1_writes yX1_writes ∈ TB := TB_mem 323 rfl rfl
set_option maxRecDepth 100000 in
theorem cd_yX1_writes : Cond.code yX1_writes cX1_writes 1 (some .int) ∈ TB := TB_mem 324 rfl rfl
set_option maxRecDepth 100000 in
theorem ml_X4_83 : Cond.methodLink RX4 83 yX1_isDown ∈ TB := TB_mem 325 rfl rfl
set_option maxRecDepth 100000 in
theorem im_yX1_isDown : Cond.instanceMethod yX1_isDown ∈ TB := TB_mem 326 rfl rfl
set_option maxRecDepth 100000 in
theorem se_yX1_isDown : Cond.selects RX1 yX1_isDown yX1_isDown ∈ TB := TB_mem 327 rfl rfl
set_option maxRecDepth 100000 in
theorem cd_yX1_isDown : Cond.code yX1_isDown cX1_isDown 1 (some .boolean) ∈ TB := TB_mem 328 rfl rfl
set_option maxRecDepth 100000 in
theorem ml_X4_172 : Cond.methodLink RX4 172 yX1_allowed ∈ TB := TB_mem 329 rfl rfl
set_option maxRecDepth 100000 in
theorem im_yX1_allowed : Cond.instanceMethod yX1_allowed ∈ TB := TB_mem 330 rfl rfl
set_option maxRecDepth 100000 in
theorem se_yX1_allowed : Cond.selects RX1 yX1_allowed yX1_allowed ∈ TB := TB_mem 331 rfl rfl
set_option maxRecDepth 100000 in
theorem cd_yX1_allowed : Cond.code yX1_allowed cX1_allowed 1 (some .int) ∈ TB := TB_mem 332 rfl rfl
set_option maxRecDepth 100000 in
theorem ml_L_45 : Cond.methodLink RL 45 yL_format ∈ TB := TB_mem 333 rfl rfl
set_option maxRecDepth 100000 in
theorem sm_yL_format : Cond.static yL_format ∈ TB := TB_mem 334 rfl rfl
set_option maxRecDepth 100000 in
theorem cl_L_13 : Cond.classLink RL 13 "java/lang/IllegalArgumentException" ∈ TB := TB_mem 336 rfl rfl
set_option maxRecDepth 100000 in
theorem ml_L_7 : Cond.methodLink RL 7 yX4_format ∈ TB := TB_mem 337 rfl rfl
set_option maxRecDepth 100000 in
theorem im_yX4_format : Cond.instanceMethod yX4_format ∈ TB := TB_mem 338 rfl rfl
set_option maxRecDepth 100000 in
theorem se_yX4_format : Cond.selects RX4 yX4_format yX4_format ∈ TB := TB_mem 339 rfl rfl
set_option maxRecDepth 100000 in
theorem cd_yX4_format : Cond.code yX4_format cX4_format 3 none ∈ TB := TB_mem 340 rfl rfl
set_option maxRecDepth 100000 in
theorem cl_X4_54 : Cond.classLink RX4 54 "java/lang/IllegalArgumentException" ∈ TB := TB_mem 341 rfl rfl
set_option maxRecDepth 100000 in
theorem ia_java_lang_IllegalArgumentException : Cond.instantiable "java/lang/IllegalArgumentException" 6 ∈ TB := TB_mem 342 rfl rfl
set_option maxRecDepth 100000 in
theorem fl_java_lang_Throwable_198 : Cond.fieldLink "java/lang/Throwable" 198 "java/lang/Throwable" "backtrace" "Ljava/lang/Object;" ∈ TB := TB_mem 362 rfl rfl
set_option maxRecDepth 100000 in
theorem im___java_lang_Throwable_____init_______V__ : Cond.instanceMethod ⟨"java/lang/Throwable", "<init>", "()V"⟩ ∈ TB := TB_mem 364 rfl rfl
set_option maxRecDepth 100000 in
theorem cd___java_lang_Throwable_____init_______V__ : Cond.code ⟨"java/lang/Throwable", "<init>", "()V"⟩ prog_15_method_1_code 1 none ∈ TB := TB_mem 365 rfl rfl
set_option maxRecDepth 100000 in
theorem ml_java_lang_Throwable_1 : Cond.methodLink "java/lang/Throwable" 1 objectInit ∈ TB := TB_mem 366 rfl rfl
set_option maxRecDepth 100000 in
theorem fl_java_lang_Throwable_13 : Cond.fieldLink "java/lang/Throwable" 13 "java/lang/Throwable" "UNASSIGNED_STACK" "[Ljava/lang/StackTraceElement;" ∈ TB := TB_mem 367 rfl rfl
set_option maxRecDepth 100000 in
theorem fl_java_lang_Throwable_20 : Cond.fieldLink "java/lang/Throwable" 20 "java/lang/Throwable" "SUPPRESSED_SENTINEL" "Ljava/util/List;" ∈ TB := TB_mem 369 rfl rfl
set_option maxRecDepth 100000 in
theorem ml_java_lang_Throwable_27 : Cond.methodLink "java/lang/Throwable" 27 ⟨"java/lang/Throwable", "fillInStackTrace", "()Ljava/lang/Throwable;"⟩ ∈ TB := TB_mem 371 rfl rfl
set_option maxRecDepth 100000 in
theorem im___java_lang_Throwable____fillInStackTrace______Ljava_lang_Throwable___ : Cond.instanceMethod ⟨"java/lang/Throwable", "fillInStackTrace", "()Ljava/lang/Throwable;"⟩ ∈ TB := TB_mem 372 rfl rfl
set_option maxRecDepth 100000 in
theorem ml_java_lang_Throwable_202 : Cond.methodLink "java/lang/Throwable" 202 ⟨"java/lang/Throwable", "fillInStackTrace", "(I)Ljava/lang/Throwable;"⟩ ∈ TB := TB_mem 377 rfl rfl
set_option maxRecDepth 100000 in
theorem im___java_lang_Throwable____fillInStackTrace_____I_Ljava_lang_Throwable___ : Cond.instanceMethod ⟨"java/lang/Throwable", "fillInStackTrace", "(I)Ljava/lang/Throwable;"⟩ ∈ TB := TB_mem 379 rfl rfl
set_option maxRecDepth 100000 in
theorem ia_java_lang_Throwable : Cond.instantiable "java/lang/Throwable" 6 ∈ TB := TB_mem 380 rfl rfl
set_option maxRecDepth 100000 in
theorem nm___java_lang_Throwable____fillInStackTrace_____I_Ljava_lang_Throwable___ : Cond.native ⟨"java/lang/Throwable", "fillInStackTrace", "(I)Ljava/lang/Throwable;"⟩ ∈ TB := TB_mem 381 rfl rfl
set_option maxRecDepth 100000 in
theorem ml_X4_58 : Cond.methodLink RX4 58 ⟨"java/lang/IllegalArgumentException", "<init>", "(Ljava/lang/String;)V"⟩ ∈ TB := TB_mem 383 rfl rfl
set_option maxRecDepth 100000 in
theorem im___java_lang_IllegalArgumentException_____init______Ljava_lang_String__V__ : Cond.instanceMethod ⟨"java/lang/IllegalArgumentException", "<init>", "(Ljava/lang/String;)V"⟩ ∈ TB := TB_mem 384 rfl rfl
set_option maxRecDepth 100000 in
theorem cd___java_lang_IllegalArgumentException_____init______Ljava_lang_String__V__ : Cond.code ⟨"java/lang/IllegalArgumentException", "<init>", "(Ljava/lang/String;)V"⟩ prog_9_method_2_code 2 none ∈ TB := TB_mem 385 rfl rfl
set_option maxRecDepth 100000 in
theorem ml_java_lang_IllegalArgumentException_7 : Cond.methodLink "java/lang/IllegalArgumentException" 7 ⟨"java/lang/RuntimeException", "<init>", "(Ljava/lang/String;)V"⟩ ∈ TB := TB_mem 386 rfl rfl
set_option maxRecDepth 100000 in
theorem im___java_lang_RuntimeException_____init______Ljava_lang_String__V__ : Cond.instanceMethod ⟨"java/lang/RuntimeException", "<init>", "(Ljava/lang/String;)V"⟩ ∈ TB := TB_mem 387 rfl rfl
set_option maxRecDepth 100000 in
theorem cd___java_lang_RuntimeException_____init______Ljava_lang_String__V__ : Cond.code ⟨"java/lang/RuntimeException", "<init>", "(Ljava/lang/String;)V"⟩ prog_12_method_2_code 2 none ∈ TB := TB_mem 388 rfl rfl
set_option maxRecDepth 100000 in
theorem ml_java_lang_RuntimeException_7 : Cond.methodLink "java/lang/RuntimeException" 7 ⟨"java/lang/Exception", "<init>", "(Ljava/lang/String;)V"⟩ ∈ TB := TB_mem 389 rfl rfl
set_option maxRecDepth 100000 in
theorem im___java_lang_Exception_____init______Ljava_lang_String__V__ : Cond.instanceMethod ⟨"java/lang/Exception", "<init>", "(Ljava/lang/String;)V"⟩ ∈ TB := TB_mem 390 rfl rfl
set_option maxRecDepth 100000 in
theorem cd___java_lang_Exception_____init______Ljava_lang_String__V__ : Cond.code ⟨"java/lang/Exception", "<init>", "(Ljava/lang/String;)V"⟩ prog_8_method_2_code 2 none ∈ TB := TB_mem 391 rfl rfl
set_option maxRecDepth 100000 in
theorem ml_java_lang_Exception_7 : Cond.methodLink "java/lang/Exception" 7 ⟨"java/lang/Throwable", "<init>", "(Ljava/lang/String;)V"⟩ ∈ TB := TB_mem 392 rfl rfl
set_option maxRecDepth 100000 in
theorem im___java_lang_Throwable_____init______Ljava_lang_String__V__ : Cond.instanceMethod ⟨"java/lang/Throwable", "<init>", "(Ljava/lang/String;)V"⟩ ∈ TB := TB_mem 393 rfl rfl
set_option maxRecDepth 100000 in
theorem cd___java_lang_Throwable_____init______Ljava_lang_String__V__ : Cond.code ⟨"java/lang/Throwable", "<init>", "(Ljava/lang/String;)V"⟩ prog_15_method_2_code 2 none ∈ TB := TB_mem 394 rfl rfl
set_option maxRecDepth 100000 in
theorem fl_java_lang_Throwable_31 : Cond.fieldLink "java/lang/Throwable" 31 "java/lang/Throwable" "detailMessage" "Ljava/lang/String;" ∈ TB := TB_mem 396 rfl rfl
set_option maxRecDepth 100000 in
theorem fl_java_lang_Throwable_7 : Cond.fieldLink "java/lang/Throwable" 7 "java/lang/Throwable" "cause" "Ljava/lang/Throwable;" ∈ TB := TB_mem 397 rfl rfl
set_option maxRecDepth 100000 in
theorem fl_java_lang_Throwable_17 : Cond.fieldLink "java/lang/Throwable" 17 "java/lang/Throwable" "stackTrace" "[Ljava/lang/StackTraceElement;" ∈ TB := TB_mem 398 rfl rfl
set_option maxRecDepth 100000 in
theorem fl_java_lang_Throwable_24 : Cond.fieldLink "java/lang/Throwable" 24 "java/lang/Throwable" "suppressedExceptions" "Ljava/util/List;" ∈ TB := TB_mem 399 rfl rfl
set_option maxRecDepth 100000 in
theorem ac_byte : Cond.arrayClass .byte ∈ TB := TB_mem 408 rfl rfl
set_option maxRecDepth 100000 in
theorem ml_L_56 : Cond.methodLink RL 56 yL_feed ∈ TB := TB_mem 411 rfl rfl
set_option maxRecDepth 100000 in
theorem sm_yL_feed : Cond.static yL_feed ∈ TB := TB_mem 412 rfl rfl
set_option maxRecDepth 100000 in
theorem cl_L_19 : Cond.classLink RL 19 "java/lang/UnsupportedOperationException" ∈ TB := TB_mem 414 rfl rfl
set_option maxRecDepth 100000 in
theorem ml_L_15 : Cond.methodLink RL 15 yX4_feed ∈ TB := TB_mem 415 rfl rfl
set_option maxRecDepth 100000 in
theorem im_yX4_feed : Cond.instanceMethod yX4_feed ∈ TB := TB_mem 416 rfl rfl
set_option maxRecDepth 100000 in
theorem se_yX4_feed : Cond.selects RX4 yX4_feed yX4_feed ∈ TB := TB_mem 417 rfl rfl
set_option maxRecDepth 100000 in
theorem cd_yX4_feed : Cond.code yX4_feed cX4_feed 9 (some .int) ∈ TB := TB_mem 418 rfl rfl
set_option maxRecDepth 100000 in
theorem cl_X4_71 : Cond.classLink RX4 71 "java/lang/UnsupportedOperationException" ∈ TB := TB_mem 420 rfl rfl
set_option maxRecDepth 100000 in
theorem ia_java_lang_UnsupportedOperationException : Cond.instantiable "java/lang/UnsupportedOperationException" 6 ∈ TB := TB_mem 421 rfl rfl
set_option maxRecDepth 100000 in
theorem ml_X4_75 : Cond.methodLink RX4 75 ⟨"java/lang/UnsupportedOperationException", "<init>", "(Ljava/lang/String;)V"⟩ ∈ TB := TB_mem 430 rfl rfl
set_option maxRecDepth 100000 in
theorem im___java_lang_UnsupportedOperationException_____init______Ljava_lang_String__V__ : Cond.instanceMethod ⟨"java/lang/UnsupportedOperationException", "<init>", "(Ljava/lang/String;)V"⟩ ∈ TB := TB_mem 431 rfl rfl
set_option maxRecDepth 100000 in
theorem cd___java_lang_UnsupportedOperationException_____init______Ljava_lang_String__V__ : Cond.code ⟨"java/lang/UnsupportedOperationException", "<init>", "(Ljava/lang/String;)V"⟩ prog_16_method_2_code 2 none ∈ TB := TB_mem 432 rfl rfl
set_option maxRecDepth 100000 in
theorem ml_java_lang_UnsupportedOperationException_7 : Cond.methodLink "java/lang/UnsupportedOperationException" 7 ⟨"java/lang/RuntimeException", "<init>", "(Ljava/lang/String;)V"⟩ ∈ TB := TB_mem 433 rfl rfl
set_option maxRecDepth 100000 in
theorem ml_X4_76 : Cond.methodLink RX4 76 yX3_append ∈ TB := TB_mem 436 rfl rfl
set_option maxRecDepth 100000 in
theorem im_yX3_append : Cond.instanceMethod yX3_append ∈ TB := TB_mem 437 rfl rfl
set_option maxRecDepth 100000 in
theorem se_yX3_append : Cond.selects RX3 yX3_append yX3_append ∈ TB := TB_mem 438 rfl rfl
set_option maxRecDepth 100000 in
theorem cd_yX3_append : Cond.code yX3_append cX3_append 2 none ∈ TB := TB_mem 439 rfl rfl
set_option maxRecDepth 100000 in
theorem ml_L_60 : Cond.methodLink RL 60 yL_put ∈ TB := TB_mem 440 rfl rfl
set_option maxRecDepth 100000 in
theorem sm_yL_put : Cond.static yL_put ∈ TB := TB_mem 441 rfl rfl
set_option maxRecDepth 100000 in
theorem cl_L_25 : Cond.classLink RL 25 "java/lang/IllegalStateException" ∈ TB := TB_mem 443 rfl rfl
set_option maxRecDepth 100000 in
theorem ml_L_21 : Cond.methodLink RL 21 yX4_put ∈ TB := TB_mem 444 rfl rfl
set_option maxRecDepth 100000 in
theorem im_yX4_put : Cond.instanceMethod yX4_put ∈ TB := TB_mem 445 rfl rfl
set_option maxRecDepth 100000 in
theorem se_yX4_put : Cond.selects RX4 yX4_put yX4_put ∈ TB := TB_mem 446 rfl rfl
set_option maxRecDepth 100000 in
theorem cd_yX4_put : Cond.code yX4_put cX4_put 5 (some .int) ∈ TB := TB_mem 447 rfl rfl
set_option maxRecDepth 100000 in
theorem ml_X4_80 : Cond.methodLink RX4 80 yX3_take ∈ TB := TB_mem 448 rfl rfl
set_option maxRecDepth 100000 in
theorem im_yX3_take : Cond.instanceMethod yX3_take ∈ TB := TB_mem 449 rfl rfl
set_option maxRecDepth 100000 in
theorem se_yX3_take : Cond.selects RX3 yX3_take yX3_take ∈ TB := TB_mem 450 rfl rfl
set_option maxRecDepth 100000 in
theorem cd_yX3_take : Cond.code yX3_take cX3_take 2 (some .int) ∈ TB := TB_mem 451 rfl rfl
set_option maxRecDepth 100000 in
theorem cl_X4_87 : Cond.classLink RX4 87 "java/lang/IllegalStateException" ∈ TB := TB_mem 452 rfl rfl
set_option maxRecDepth 100000 in
theorem ia_java_lang_IllegalStateException : Cond.instantiable "java/lang/IllegalStateException" 6 ∈ TB := TB_mem 453 rfl rfl
set_option maxRecDepth 100000 in
theorem ml_X4_91 : Cond.methodLink RX4 91 ⟨"java/lang/IllegalStateException", "<init>", "(Ljava/lang/String;)V"⟩ ∈ TB := TB_mem 462 rfl rfl
set_option maxRecDepth 100000 in
theorem im___java_lang_IllegalStateException_____init______Ljava_lang_String__V__ : Cond.instanceMethod ⟨"java/lang/IllegalStateException", "<init>", "(Ljava/lang/String;)V"⟩ ∈ TB := TB_mem 463 rfl rfl
set_option maxRecDepth 100000 in
theorem cd___java_lang_IllegalStateException_____init______Ljava_lang_String__V__ : Cond.code ⟨"java/lang/IllegalStateException", "<init>", "(Ljava/lang/String;)V"⟩ prog_10_method_2_code 2 none ∈ TB := TB_mem 464 rfl rfl
set_option maxRecDepth 100000 in
theorem ml_java_lang_IllegalStateException_7 : Cond.methodLink "java/lang/IllegalStateException" 7 ⟨"java/lang/RuntimeException", "<init>", "(Ljava/lang/String;)V"⟩ ∈ TB := TB_mem 465 rfl rfl
set_option maxRecDepth 100000 in
theorem ml_X4_100 : Cond.methodLink RX4 100 yX4_makePlace ∈ TB := TB_mem 470 rfl rfl
set_option maxRecDepth 100000 in
theorem im_yX4_makePlace : Cond.instanceMethod yX4_makePlace ∈ TB := TB_mem 472 rfl rfl
set_option maxRecDepth 100000 in
theorem cd_yX4_makePlace : Cond.code yX4_makePlace cX4_makePlace 8 (some .int) ∈ TB := TB_mem 473 rfl rfl
set_option maxRecDepth 100000 in
theorem ml_X4_104 : Cond.methodLink RX4 104 yX1_bucketOf ∈ TB := TB_mem 474 rfl rfl
set_option maxRecDepth 100000 in
theorem im_yX1_bucketOf : Cond.instanceMethod yX1_bucketOf ∈ TB := TB_mem 475 rfl rfl
set_option maxRecDepth 100000 in
theorem se_yX1_bucketOf : Cond.selects RX1 yX1_bucketOf yX1_bucketOf ∈ TB := TB_mem 476 rfl rfl
set_option maxRecDepth 100000 in
theorem cd_yX1_bucketOf : Cond.code yX1_bucketOf cX1_bucketOf 2 (some .int) ∈ TB := TB_mem 477 rfl rfl
set_option maxRecDepth 100000 in
theorem ml_X1_82 : Cond.methodLink RX1 82 yX1_indexOf ∈ TB := TB_mem 478 rfl rfl
set_option maxRecDepth 100000 in
theorem im_yX1_indexOf : Cond.instanceMethod yX1_indexOf ∈ TB := TB_mem 479 rfl rfl
set_option maxRecDepth 100000 in
theorem se_yX1_indexOf : Cond.selects RX1 yX1_indexOf yX1_indexOf ∈ TB := TB_mem 480 rfl rfl
set_option maxRecDepth 100000 in
theorem cd_yX1_indexOf : Cond.code yX1_indexOf cX1_indexOf 2 (some .int) ∈ TB := TB_mem 481 rfl rfl
set_option maxRecDepth 100000 in
theorem ml_X1_85 : Cond.methodLink RX1 85 yX1_entryAt ∈ TB := TB_mem 482 rfl rfl
set_option maxRecDepth 100000 in
theorem ml_X4_175 : Cond.methodLink RX4 175 yX4_hasPlace ∈ TB := TB_mem 483 rfl rfl
set_option maxRecDepth 100000 in
theorem im_yX4_hasPlace : Cond.instanceMethod yX4_hasPlace ∈ TB := TB_mem 485 rfl rfl
set_option maxRecDepth 100000 in
theorem cd_yX4_hasPlace : Cond.code yX4_hasPlace cX4_hasPlace 6 (some .boolean) ∈ TB := TB_mem 486 rfl rfl
set_option maxRecDepth 100000 in
theorem ml_X4_112 : Cond.methodLink RX4 112 yX1_find ∈ TB := TB_mem 487 rfl rfl
set_option maxRecDepth 100000 in
theorem im_yX1_find : Cond.instanceMethod yX1_find ∈ TB := TB_mem 488 rfl rfl
set_option maxRecDepth 100000 in
theorem se_yX1_find : Cond.selects RX1 yX1_find yX1_find ∈ TB := TB_mem 489 rfl rfl
set_option maxRecDepth 100000 in
theorem cd_yX1_find : Cond.code yX1_find cX1_find 7 (some .int) ∈ TB := TB_mem 490 rfl rfl
set_option maxRecDepth 100000 in
theorem ml_X1_122 : Cond.methodLink RX1 122 yX1_hasKey ∈ TB := TB_mem 491 rfl rfl
set_option maxRecDepth 100000 in
theorem im_yX1_hasKey : Cond.instanceMethod yX1_hasKey ∈ TB := TB_mem 493 rfl rfl
set_option maxRecDepth 100000 in
theorem cd_yX1_hasKey : Cond.code yX1_hasKey cX1_hasKey 6 (some .boolean) ∈ TB := TB_mem 494 rfl rfl
set_option maxRecDepth 100000 in
theorem ml_X1_126 : Cond.methodLink RX1 126 yX3_byteAt ∈ TB := TB_mem 495 rfl rfl
set_option maxRecDepth 100000 in
theorem im_yX3_byteAt : Cond.instanceMethod yX3_byteAt ∈ TB := TB_mem 496 rfl rfl
set_option maxRecDepth 100000 in
theorem se_yX3_byteAt : Cond.selects RX3 yX3_byteAt yX3_byteAt ∈ TB := TB_mem 497 rfl rfl
set_option maxRecDepth 100000 in
theorem cd_yX3_byteAt : Cond.code yX3_byteAt cX3_byteAt 2 (some .int) ∈ TB := TB_mem 498 rfl rfl
set_option maxRecDepth 100000 in
theorem ml_X4_189 : Cond.methodLink RX4 189 yX1_recordSize ∈ TB := TB_mem 499 rfl rfl
set_option maxRecDepth 100000 in
theorem ml_X4_179 : Cond.methodLink RX4 179 yX1_allHashesAre ∈ TB := TB_mem 500 rfl rfl
set_option maxRecDepth 100000 in
theorem im_yX1_allHashesAre : Cond.instanceMethod yX1_allHashesAre ∈ TB := TB_mem 501 rfl rfl
set_option maxRecDepth 100000 in
theorem se_yX1_allHashesAre : Cond.selects RX1 yX1_allHashesAre yX1_allHashesAre ∈ TB := TB_mem 502 rfl rfl
set_option maxRecDepth 100000 in
theorem cd_yX1_allHashesAre : Cond.code yX1_allHashesAre cX1_allHashesAre 6 (some .boolean) ∈ TB := TB_mem 503 rfl rfl
set_option maxRecDepth 100000 in
theorem ml_X1_119 : Cond.methodLink RX1 119 yX1_recordHash ∈ TB := TB_mem 504 rfl rfl
set_option maxRecDepth 100000 in
theorem im_yX1_recordHash : Cond.instanceMethod yX1_recordHash ∈ TB := TB_mem 505 rfl rfl
set_option maxRecDepth 100000 in
theorem se_yX1_recordHash : Cond.selects RX1 yX1_recordHash yX1_recordHash ∈ TB := TB_mem 506 rfl rfl
set_option maxRecDepth 100000 in
theorem cd_yX1_recordHash : Cond.code yX1_recordHash cX1_recordHash 3 (some .int) ∈ TB := TB_mem 507 rfl rfl
set_option maxRecDepth 100000 in
theorem ml_X4_183 : Cond.methodLink RX4 183 yX4_resizeDirectory ∈ TB := TB_mem 509 rfl rfl
set_option maxRecDepth 100000 in
theorem im_yX4_resizeDirectory : Cond.instanceMethod yX4_resizeDirectory ∈ TB := TB_mem 511 rfl rfl
set_option maxRecDepth 100000 in
theorem cd_yX4_resizeDirectory : Cond.code yX4_resizeDirectory cX4_resizeDirectory 7 (some .int) ∈ TB := TB_mem 512 rfl rfl
set_option maxRecDepth 100000 in
theorem ml_X4_206 : Cond.methodLink RX4 206 yX4_pagesFor ∈ TB := TB_mem 513 rfl rfl
set_option maxRecDepth 100000 in
theorem ml_X4_209 : Cond.methodLink RX4 209 yX0_begin ∈ TB := TB_mem 514 rfl rfl
set_option maxRecDepth 100000 in
theorem im_yX0_begin : Cond.instanceMethod yX0_begin ∈ TB := TB_mem 515 rfl rfl
set_option maxRecDepth 100000 in
theorem se_yX0_begin : Cond.selects RX0 yX0_begin yX0_begin ∈ TB := TB_mem 516 rfl rfl
set_option maxRecDepth 100000 in
theorem cd_yX0_begin : Cond.code yX0_begin cX0_begin 1 none ∈ TB := TB_mem 517 rfl rfl
set_option maxRecDepth 100000 in
theorem ml_X0_25 : Cond.methodLink RX0 25 yX2_clear ∈ TB := TB_mem 518 rfl rfl
set_option maxRecDepth 100000 in
theorem ml_X4_212 : Cond.methodLink RX4 212 yX2_clear ∈ TB := TB_mem 519 rfl rfl
set_option maxRecDepth 100000 in
theorem ml_X4_215 : Cond.methodLink RX4 215 yX2_set ∈ TB := TB_mem 520 rfl rfl
set_option maxRecDepth 100000 in
theorem im_yX2_set : Cond.instanceMethod yX2_set ∈ TB := TB_mem 521 rfl rfl
set_option maxRecDepth 100000 in
theorem se_yX2_set : Cond.selects RX2 yX2_set yX2_set ∈ TB := TB_mem 522 rfl rfl
set_option maxRecDepth 100000 in
theorem cd_yX2_set : Cond.code yX2_set cX2_set 3 none ∈ TB := TB_mem 523 rfl rfl
set_option maxRecDepth 100000 in
theorem ml_X4_218 : Cond.methodLink RX4 218 yX1_directoryPage ∈ TB := TB_mem 524 rfl rfl
set_option maxRecDepth 100000 in
theorem ml_X4_221 : Cond.methodLink RX4 221 yX1_freeBehind ∈ TB := TB_mem 525 rfl rfl
set_option maxRecDepth 100000 in
theorem im_yX1_freeBehind : Cond.instanceMethod yX1_freeBehind ∈ TB := TB_mem 526 rfl rfl
set_option maxRecDepth 100000 in
theorem se_yX1_freeBehind : Cond.selects RX1 yX1_freeBehind yX1_freeBehind ∈ TB := TB_mem 527 rfl rfl
set_option maxRecDepth 100000 in
theorem cd_yX1_freeBehind : Cond.code yX1_freeBehind cX1_freeBehind 3 (some .int) ∈ TB := TB_mem 528 rfl rfl
set_option maxRecDepth 100000 in
theorem ml_X4_224 : Cond.methodLink RX4 224 yX4_buildDirectoryPage ∈ TB := TB_mem 529 rfl rfl
set_option maxRecDepth 100000 in
theorem im_yX4_buildDirectoryPage : Cond.instanceMethod yX4_buildDirectoryPage ∈ TB := TB_mem 531 rfl rfl
set_option maxRecDepth 100000 in
theorem cd_yX4_buildDirectoryPage : Cond.code yX4_buildDirectoryPage cX4_buildDirectoryPage 8 none ∈ TB := TB_mem 532 rfl rfl
set_option maxRecDepth 100000 in
theorem ml_X4_227 : Cond.methodLink RX4 227 yX0_add ∈ TB := TB_mem 533 rfl rfl
set_option maxRecDepth 100000 in
theorem im_yX0_add : Cond.instanceMethod yX0_add ∈ TB := TB_mem 534 rfl rfl
set_option maxRecDepth 100000 in
theorem se_yX0_add : Cond.selects RX0 yX0_add yX0_add ∈ TB := TB_mem 535 rfl rfl
set_option maxRecDepth 100000 in
theorem cd_yX0_add : Cond.code yX0_add cX0_add 4 (some .boolean) ∈ TB := TB_mem 536 rfl rfl
set_option maxRecDepth 100000 in
theorem ml_X0_28 : Cond.methodLink RX0 28 yX2_byteAt ∈ TB := TB_mem 537 rfl rfl
set_option maxRecDepth 100000 in
theorem im_yX2_byteAt : Cond.instanceMethod yX2_byteAt ∈ TB := TB_mem 538 rfl rfl
set_option maxRecDepth 100000 in
theorem se_yX2_byteAt : Cond.selects RX2 yX2_byteAt yX2_byteAt ∈ TB := TB_mem 539 rfl rfl
set_option maxRecDepth 100000 in
theorem cd_yX2_byteAt : Cond.code yX2_byteAt cX2_byteAt 2 (some .int) ∈ TB := TB_mem 540 rfl rfl
set_option maxRecDepth 100000 in
theorem ml_X0_32 : Cond.methodLink RX0 32 yX2_set ∈ TB := TB_mem 541 rfl rfl
set_option maxRecDepth 100000 in
theorem ml_X0_36 : Cond.methodLink RX0 36 yX1_write ∈ TB := TB_mem 542 rfl rfl
set_option maxRecDepth 100000 in
theorem im_yX1_write : Cond.instanceMethod yX1_write ∈ TB := TB_mem 543 rfl rfl
set_option maxRecDepth 100000 in
theorem se_yX1_write : Cond.selects RX1 yX1_write yX1_write ∈ TB := TB_mem 544 rfl rfl
set_option maxRecDepth 100000 in
theorem cd_yX1_write : Cond.code yX1_write cX1_write 3 (some .boolean) ∈ TB := TB_mem 545 rfl rfl
set_option maxRecDepth 100000 in
theorem ml_X4_231 : Cond.methodLink RX4 231 yX0_finish ∈ TB := TB_mem 546 rfl rfl
set_option maxRecDepth 100000 in
theorem im_yX0_finish : Cond.instanceMethod yX0_finish ∈ TB := TB_mem 547 rfl rfl
set_option maxRecDepth 100000 in
theorem se_yX0_finish : Cond.selects RX0 yX0_finish yX0_finish ∈ TB := TB_mem 548 rfl rfl
set_option maxRecDepth 100000 in
theorem cd_yX0_finish : Cond.code yX0_finish cX0_finish 1 (some .boolean) ∈ TB := TB_mem 549 rfl rfl
set_option maxRecDepth 100000 in
theorem ml_X0_42 : Cond.methodLink RX0 42 yX0_settle ∈ TB := TB_mem 550 rfl rfl
set_option maxRecDepth 100000 in
theorem im_yX0_settle : Cond.instanceMethod yX0_settle ∈ TB := TB_mem 551 rfl rfl
set_option maxRecDepth 100000 in
theorem se_yX0_settle : Cond.selects RX0 yX0_settle yX0_settle ∈ TB := TB_mem 552 rfl rfl
set_option maxRecDepth 100000 in
theorem cd_yX0_settle : Cond.code yX0_settle cX0_settle 3 (some .boolean) ∈ TB := TB_mem 553 rfl rfl
set_option maxRecDepth 100000 in
theorem ml_X0_46 : Cond.methodLink RX0 46 yX1_at ∈ TB := TB_mem 554 rfl rfl
set_option maxRecDepth 100000 in
theorem ml_X0_50 : Cond.methodLink RX0 50 yX1_read ∈ TB := TB_mem 555 rfl rfl
set_option maxRecDepth 100000 in
theorem im_yX1_read : Cond.instanceMethod yX1_read ∈ TB := TB_mem 556 rfl rfl
set_option maxRecDepth 100000 in
theorem se_yX1_read : Cond.selects RX1 yX1_read yX1_read ∈ TB := TB_mem 557 rfl rfl
set_option maxRecDepth 100000 in
theorem cd_yX1_read : Cond.code yX1_read cX1_read 3 none ∈ TB := TB_mem 558 rfl rfl
set_option maxRecDepth 100000 in
theorem ml_X4_186 : Cond.methodLink RX4 186 yX4_split ∈ TB := TB_mem 559 rfl rfl
set_option maxRecDepth 100000 in
theorem im_yX4_split : Cond.instanceMethod yX4_split ∈ TB := TB_mem 561 rfl rfl
set_option maxRecDepth 100000 in
theorem cd_yX4_split : Cond.code yX4_split cX4_split 9 (some .int) ∈ TB := TB_mem 562 rfl rfl
set_option maxRecDepth 100000 in
theorem ml_X4_234 : Cond.methodLink RX4 234 yX1_indexOf ∈ TB := TB_mem 563 rfl rfl
set_option maxRecDepth 100000 in
theorem ml_X4_237 : Cond.methodLink RX4 237 yX4_directoryPagesOf ∈ TB := TB_mem 564 rfl rfl
set_option maxRecDepth 100000 in
theorem sm_yX4_directoryPagesOf : Cond.static yX4_directoryPagesOf ∈ TB := TB_mem 565 rfl rfl
set_option maxRecDepth 100000 in
theorem cd_yX4_directoryPagesOf : Cond.code yX4_directoryPagesOf cX4_directoryPagesOf 2 (some .int) ∈ TB := TB_mem 566 rfl rfl
set_option maxRecDepth 100000 in
theorem ml_X4_240 : Cond.methodLink RX4 240 yX4_buildHalf ∈ TB := TB_mem 567 rfl rfl
set_option maxRecDepth 100000 in
theorem im_yX4_buildHalf : Cond.instanceMethod yX4_buildHalf ∈ TB := TB_mem 569 rfl rfl
set_option maxRecDepth 100000 in
theorem cd_yX4_buildHalf : Cond.code yX4_buildHalf cX4_buildHalf 8 none ∈ TB := TB_mem 570 rfl rfl
set_option maxRecDepth 100000 in
theorem ml_X4_196 : Cond.methodLink RX4 196 yX2_startBucket ∈ TB := TB_mem 571 rfl rfl
set_option maxRecDepth 100000 in
theorem im_yX2_startBucket : Cond.instanceMethod yX2_startBucket ∈ TB := TB_mem 572 rfl rfl
set_option maxRecDepth 100000 in
theorem se_yX2_startBucket : Cond.selects RX2 yX2_startBucket yX2_startBucket ∈ TB := TB_mem 573 rfl rfl
set_option maxRecDepth 100000 in
theorem cd_yX2_startBucket : Cond.code yX2_startBucket cX2_startBucket 2 none ∈ TB := TB_mem 574 rfl rfl
set_option maxRecDepth 100000 in
theorem ml_X2_21 : Cond.methodLink RX2 21 yX2_clear ∈ TB := TB_mem 575 rfl rfl
set_option maxRecDepth 100000 in
theorem ml_X2_24 : Cond.methodLink RX2 24 yX2_set ∈ TB := TB_mem 576 rfl rfl
set_option maxRecDepth 100000 in
theorem ml_X4_247 : Cond.methodLink RX4 247 yX1_recordHash ∈ TB := TB_mem 577 rfl rfl
set_option maxRecDepth 100000 in
theorem ml_X4_202 : Cond.methodLink RX4 202 yX2_copyRecord ∈ TB := TB_mem 578 rfl rfl
set_option maxRecDepth 100000 in
theorem im_yX2_copyRecord : Cond.instanceMethod yX2_copyRecord ∈ TB := TB_mem 579 rfl rfl
set_option maxRecDepth 100000 in
theorem se_yX2_copyRecord : Cond.selects RX2 yX2_copyRecord yX2_copyRecord ∈ TB := TB_mem 580 rfl rfl
set_option maxRecDepth 100000 in
theorem cd_yX2_copyRecord : Cond.code yX2_copyRecord cX2_copyRecord 7 none ∈ TB := TB_mem 581 rfl rfl
set_option maxRecDepth 100000 in
theorem ml_X2_28 : Cond.methodLink RX2 28 yX1_recordSize ∈ TB := TB_mem 582 rfl rfl
set_option maxRecDepth 100000 in
theorem ml_X2_34 : Cond.methodLink RX2 34 yX2_countRecord ∈ TB := TB_mem 583 rfl rfl
set_option maxRecDepth 100000 in
theorem im_yX2_countRecord : Cond.instanceMethod yX2_countRecord ∈ TB := TB_mem 585 rfl rfl
set_option maxRecDepth 100000 in
theorem cd_yX2_countRecord : Cond.code yX2_countRecord cX2_countRecord 3 (some .int) ∈ TB := TB_mem 586 rfl rfl
set_option maxRecDepth 100000 in
theorem ml_X2_46 : Cond.methodLink RX2 46 yX2_byteAt ∈ TB := TB_mem 587 rfl rfl
set_option maxRecDepth 100000 in
theorem ml_X2_38 : Cond.methodLink RX2 38 yX1_at ∈ TB := TB_mem 588 rfl rfl
set_option maxRecDepth 100000 in
theorem ml_X4_244 : Cond.methodLink RX4 244 yX4_retell ∈ TB := TB_mem 589 rfl rfl
set_option maxRecDepth 100000 in
theorem im_yX4_retell : Cond.instanceMethod yX4_retell ∈ TB := TB_mem 591 rfl rfl
set_option maxRecDepth 100000 in
theorem cd_yX4_retell : Cond.code yX4_retell cX4_retell 9 (some .boolean) ∈ TB := TB_mem 592 rfl rfl
set_option maxRecDepth 100000 in
theorem ml_X4_250 : Cond.methodLink RX4 250 yX1_read ∈ TB := TB_mem 593 rfl rfl
set_option maxRecDepth 100000 in
theorem ml_X4_107 : Cond.methodLink RX4 107 yX4_storeRecord ∈ TB := TB_mem 594 rfl rfl
set_option maxRecDepth 100000 in
theorem im_yX4_storeRecord : Cond.instanceMethod yX4_storeRecord ∈ TB := TB_mem 596 rfl rfl
set_option maxRecDepth 100000 in
theorem cd_yX4_storeRecord : Cond.code yX4_storeRecord cX4_storeRecord 4 (some .int) ∈ TB := TB_mem 597 rfl rfl
set_option maxRecDepth 100000 in
theorem ml_X4_116 : Cond.methodLink RX4 116 yX4_buildWithout ∈ TB := TB_mem 598 rfl rfl
set_option maxRecDepth 100000 in
theorem im_yX4_buildWithout : Cond.instanceMethod yX4_buildWithout ∈ TB := TB_mem 600 rfl rfl
set_option maxRecDepth 100000 in
theorem cd_yX4_buildWithout : Cond.code yX4_buildWithout cX4_buildWithout 3 none ∈ TB := TB_mem 601 rfl rfl
set_option maxRecDepth 100000 in
theorem ml_X4_199 : Cond.methodLink RX4 199 yX4_addRecordsBut ∈ TB := TB_mem 602 rfl rfl
set_option maxRecDepth 100000 in
theorem im_yX4_addRecordsBut : Cond.instanceMethod yX4_addRecordsBut ∈ TB := TB_mem 604 rfl rfl
set_option maxRecDepth 100000 in
theorem cd_yX4_addRecordsBut : Cond.code yX4_addRecordsBut cX4_addRecordsBut 6 none ∈ TB := TB_mem 605 rfl rfl
set_option maxRecDepth 100000 in
theorem ml_X4_192 : Cond.methodLink RX4 192 yX2_addRecord ∈ TB := TB_mem 606 rfl rfl
set_option maxRecDepth 100000 in
theorem im_yX2_addRecord : Cond.instanceMethod yX2_addRecord ∈ TB := TB_mem 607 rfl rfl
set_option maxRecDepth 100000 in
theorem se_yX2_addRecord : Cond.selects RX2 yX2_addRecord yX2_addRecord ∈ TB := TB_mem 608 rfl rfl
set_option maxRecDepth 100000 in
theorem cd_yX2_addRecord : Cond.code yX2_addRecord cX2_addRecord 6 none ∈ TB := TB_mem 609 rfl rfl
set_option maxRecDepth 100000 in
theorem ml_X2_41 : Cond.methodLink RX2 41 yX3_byteAt ∈ TB := TB_mem 610 rfl rfl
set_option maxRecDepth 100000 in
theorem ml_X4_120 : Cond.methodLink RX4 120 yX1_write ∈ TB := TB_mem 611 rfl rfl
set_option maxRecDepth 100000 in
theorem ml_L_64 : Cond.methodLink RL 64 yL_remove ∈ TB := TB_mem 612 rfl rfl
set_option maxRecDepth 100000 in
theorem sm_yL_remove : Cond.static yL_remove ∈ TB := TB_mem 613 rfl rfl
set_option maxRecDepth 100000 in
theorem ml_L_27 : Cond.methodLink RL 27 yX4_remove ∈ TB := TB_mem 615 rfl rfl
set_option maxRecDepth 100000 in
theorem im_yX4_remove : Cond.instanceMethod yX4_remove ∈ TB := TB_mem 616 rfl rfl
set_option maxRecDepth 100000 in
theorem se_yX4_remove : Cond.selects RX4 yX4_remove yX4_remove ∈ TB := TB_mem 617 rfl rfl
set_option maxRecDepth 100000 in
theorem cd_yX4_remove : Cond.code yX4_remove cX4_remove 6 (some .int) ∈ TB := TB_mem 618 rfl rfl
set_option maxRecDepth 100000 in
theorem ml_X4_124 : Cond.methodLink RX4 124 yX4_mergeAll ∈ TB := TB_mem 620 rfl rfl
set_option maxRecDepth 100000 in
theorem im_yX4_mergeAll : Cond.instanceMethod yX4_mergeAll ∈ TB := TB_mem 622 rfl rfl
set_option maxRecDepth 100000 in
theorem cd_yX4_mergeAll : Cond.code yX4_mergeAll cX4_mergeAll 5 (some .int) ∈ TB := TB_mem 623 rfl rfl
set_option maxRecDepth 100000 in
theorem ml_X4_254 : Cond.methodLink RX4 254 yX4_mergePartner ∈ TB := TB_mem 624 rfl rfl
set_option maxRecDepth 100000 in
theorem im_yX4_mergePartner : Cond.instanceMethod yX4_mergePartner ∈ TB := TB_mem 626 rfl rfl
set_option maxRecDepth 100000 in
theorem cd_yX4_mergePartner : Cond.code yX4_mergePartner cX4_mergePartner 5 (some .int) ∈ TB := TB_mem 627 rfl rfl
set_option maxRecDepth 100000 in
theorem ml_X4_257 : Cond.methodLink RX4 257 yX4_merge ∈ TB := TB_mem 628 rfl rfl
set_option maxRecDepth 100000 in
theorem im_yX4_merge : Cond.instanceMethod yX4_merge ∈ TB := TB_mem 630 rfl rfl
set_option maxRecDepth 100000 in
theorem cd_yX4_merge : Cond.code yX4_merge cX4_merge 11 (some .int) ∈ TB := TB_mem 631 rfl rfl
set_option maxRecDepth 100000 in
theorem ml_X4_127 : Cond.methodLink RX4 127 yX4_halveAll ∈ TB := TB_mem 632 rfl rfl
set_option maxRecDepth 100000 in
theorem im_yX4_halveAll : Cond.instanceMethod yX4_halveAll ∈ TB := TB_mem 634 rfl rfl
set_option maxRecDepth 100000 in
theorem cd_yX4_halveAll : Cond.code yX4_halveAll cX4_halveAll 4 (some .int) ∈ TB := TB_mem 635 rfl rfl
set_option maxRecDepth 100000 in
theorem ml_X4_260 : Cond.methodLink RX4 260 yX1_hasBucketOfDepth ∈ TB := TB_mem 636 rfl rfl
set_option maxRecDepth 100000 in
theorem im_yX1_hasBucketOfDepth : Cond.instanceMethod yX1_hasBucketOfDepth ∈ TB := TB_mem 637 rfl rfl
set_option maxRecDepth 100000 in
theorem se_yX1_hasBucketOfDepth : Cond.selects RX1 yX1_hasBucketOfDepth yX1_hasBucketOfDepth ∈ TB := TB_mem 638 rfl rfl
set_option maxRecDepth 100000 in
theorem cd_yX1_hasBucketOfDepth : Cond.code yX1_hasBucketOfDepth cX1_hasBucketOfDepth 3 (some .boolean) ∈ TB := TB_mem 639 rfl rfl
set_option maxRecDepth 100000 in
theorem ml_L_68 : Cond.methodLink RL 68 yL_get ∈ TB := TB_mem 640 rfl rfl
set_option maxRecDepth 100000 in
theorem sm_yL_get : Cond.static yL_get ∈ TB := TB_mem 641 rfl rfl
set_option maxRecDepth 100000 in
theorem ml_L_31 : Cond.methodLink RL 31 yX4_get ∈ TB := TB_mem 643 rfl rfl
set_option maxRecDepth 100000 in
theorem im_yX4_get : Cond.instanceMethod yX4_get ∈ TB := TB_mem 644 rfl rfl
set_option maxRecDepth 100000 in
theorem se_yX4_get : Cond.selects RX4 yX4_get yX4_get ∈ TB := TB_mem 645 rfl rfl
set_option maxRecDepth 100000 in
theorem cd_yX4_get : Cond.code yX4_get cX4_get 6 (some .int) ∈ TB := TB_mem 646 rfl rfl
set_option maxRecDepth 100000 in
theorem ml_L_75 : Cond.methodLink RL 75 yL_power ∈ TB := TB_mem 647 rfl rfl
set_option maxRecDepth 100000 in
theorem sm_yL_power : Cond.static yL_power ∈ TB := TB_mem 648 rfl rfl
set_option maxRecDepth 100000 in
theorem ml_L_34 : Cond.methodLink RL 34 yX4_power ∈ TB := TB_mem 650 rfl rfl
set_option maxRecDepth 100000 in
theorem im_yX4_power : Cond.instanceMethod yX4_power ∈ TB := TB_mem 651 rfl rfl
set_option maxRecDepth 100000 in
theorem se_yX4_power : Cond.selects RX4 yX4_power yX4_power ∈ TB := TB_mem 652 rfl rfl
set_option maxRecDepth 100000 in
theorem cd_yX4_power : Cond.code yX4_power cX4_power 2 none ∈ TB := TB_mem 653 rfl rfl
set_option maxRecDepth 100000 in
theorem ml_X4_136 : Cond.methodLink RX4 136 yX1_allow ∈ TB := TB_mem 655 rfl rfl
set_option maxRecDepth 100000 in
theorem ml_L_79 : Cond.methodLink RL 79 yL_recover ∈ TB := TB_mem 656 rfl rfl
set_option maxRecDepth 100000 in
theorem sm_yL_recover : Cond.static yL_recover ∈ TB := TB_mem 657 rfl rfl
set_option maxRecDepth 100000 in
theorem ml_L_38 : Cond.methodLink RL 38 yX4_recover ∈ TB := TB_mem 659 rfl rfl
set_option maxRecDepth 100000 in
theorem im_yX4_recover : Cond.instanceMethod yX4_recover ∈ TB := TB_mem 660 rfl rfl
set_option maxRecDepth 100000 in
theorem se_yX4_recover : Cond.selects RX4 yX4_recover yX4_recover ∈ TB := TB_mem 661 rfl rfl
set_option maxRecDepth 100000 in
theorem cd_yX4_recover : Cond.code yX4_recover cX4_recover 2 (some .int) ∈ TB := TB_mem 662 rfl rfl
set_option maxRecDepth 100000 in
theorem ml_X4_139 : Cond.methodLink RX4 139 yX0_settle ∈ TB := TB_mem 663 rfl rfl
set_option maxRecDepth 100000 in
theorem ml_L_51 : Cond.methodLink RL 51 yX5_thrown ∈ TB := TB_mem 664 rfl rfl
set_option maxRecDepth 100000 in
theorem im_yX5_thrown : Cond.instanceMethod yX5_thrown ∈ TB := TB_mem 665 rfl rfl
set_option maxRecDepth 100000 in
theorem se_yX5_thrown : Cond.selects RX5 yX5_thrown yX5_thrown ∈ TB := TB_mem 666 rfl rfl
set_option maxRecDepth 100000 in
theorem cd_yX5_thrown : Cond.code yX5_thrown cX5_thrown 1 (some .int) ∈ TB := TB_mem 667 rfl rfl
set_option maxRecDepth 100000 in
theorem cl_L_42 : Cond.classLink RL 42 RX5 ∈ TB := TB_mem 668 rfl rfl
set_option maxRecDepth 100000 in
theorem ia_X5 : Cond.instantiable RX5 26 ∈ TB := TB_mem 669 rfl rfl
set_option maxRecDepth 100000 in
theorem ml_L_44 : Cond.methodLink RL 44 yX5_init ∈ TB := TB_mem 670 rfl rfl
set_option maxRecDepth 100000 in
theorem im_yX5_init : Cond.instanceMethod yX5_init ∈ TB := TB_mem 671 rfl rfl
set_option maxRecDepth 100000 in
theorem cd_yX5_init : Cond.code yX5_init cX5_init 1 none ∈ TB := TB_mem 672 rfl rfl
set_option maxRecDepth 100000 in
theorem ml_X5_7 : Cond.methodLink RX5 7 objectInit ∈ TB := TB_mem 673 rfl rfl
set_option maxRecDepth 100000 in
theorem co_X5_13 : Cond.constant RX5 13 (Int32.ofInt 65536) ∈ TB := TB_mem 674 rfl rfl
set_option maxRecDepth 100000 in
theorem co_X5_44 : Cond.constant RX5 44 (Int32.ofInt 46080) ∈ TB := TB_mem 675 rfl rfl
set_option maxRecDepth 100000 in
theorem co_X5_49 : Cond.constant RX5 49 (Int32.ofInt 92160) ∈ TB := TB_mem 676 rfl rfl
set_option maxRecDepth 100000 in
theorem ml_X5_65 : Cond.methodLink RX5 65 yX5_anew ∈ TB := TB_mem 677 rfl rfl
set_option maxRecDepth 100000 in
theorem im_yX5_anew : Cond.instanceMethod yX5_anew ∈ TB := TB_mem 679 rfl rfl
set_option maxRecDepth 100000 in
theorem cd_yX5_anew : Cond.code yX5_anew cX5_anew 4 none ∈ TB := TB_mem 680 rfl rfl
set_option maxRecDepth 100000 in
theorem ml_X5_88 : Cond.methodLink RX5 88 yX5_decode ∈ TB := TB_mem 681 rfl rfl
set_option maxRecDepth 100000 in
theorem im_yX5_decode : Cond.instanceMethod yX5_decode ∈ TB := TB_mem 683 rfl rfl
set_option maxRecDepth 100000 in
theorem cd_yX5_decode : Cond.code yX5_decode cX5_decode 4 none ∈ TB := TB_mem 684 rfl rfl
set_option maxRecDepth 100000 in
theorem ml_X5_91 : Cond.methodLink RX5 91 yX5_at ∈ TB := TB_mem 685 rfl rfl
set_option maxRecDepth 100000 in
theorem im_yX5_at : Cond.instanceMethod yX5_at ∈ TB := TB_mem 687 rfl rfl
set_option maxRecDepth 100000 in
theorem cd_yX5_at : Cond.code yX5_at cX5_at 3 (some .int) ∈ TB := TB_mem 688 rfl rfl
set_option maxRecDepth 100000 in
theorem ml_X5_101 : Cond.methodLink RX5 101 yX5_isDirectory ∈ TB := TB_mem 689 rfl rfl
set_option maxRecDepth 100000 in
theorem im_yX5_isDirectory : Cond.instanceMethod yX5_isDirectory ∈ TB := TB_mem 691 rfl rfl
set_option maxRecDepth 100000 in
theorem cd_yX5_isDirectory : Cond.code yX5_isDirectory cX5_isDirectory 3 (some .boolean) ∈ TB := TB_mem 692 rfl rfl
set_option maxRecDepth 100000 in
theorem ml_X5_105 : Cond.methodLink RX5 105 yX5_bucket ∈ TB := TB_mem 693 rfl rfl
set_option maxRecDepth 100000 in
theorem im_yX5_bucket : Cond.instanceMethod yX5_bucket ∈ TB := TB_mem 695 rfl rfl
set_option maxRecDepth 100000 in
theorem cd_yX5_bucket : Cond.code yX5_bucket cX5_bucket 6 none ∈ TB := TB_mem 696 rfl rfl
set_option maxRecDepth 100000 in
theorem fl_X5_1 : Cond.fieldLink RX5 1 "HashPagesModel" "thrown" "I" ∈ TB := TB_mem 697 rfl rfl
set_option maxRecDepth 100000 in
theorem fl_X5_14 : Cond.fieldLink RX5 14 "HashPagesModel" "disk" "[B" ∈ TB := TB_mem 698 rfl rfl
set_option maxRecDepth 100000 in
theorem fl_X5_69 : Cond.fieldLink RX5 69 "HashPagesModel" "pages" "I" ∈ TB := TB_mem 699 rfl rfl
set_option maxRecDepth 100000 in
theorem fl_X5_72 : Cond.fieldLink RX5 72 "HashPagesModel" "log" "I" ∈ TB := TB_mem 700 rfl rfl
set_option maxRecDepth 100000 in
theorem fl_X5_75 : Cond.fieldLink RX5 75 "HashPagesModel" "written" "I" ∈ TB := TB_mem 701 rfl rfl
set_option maxRecDepth 100000 in
theorem fl_X5_78 : Cond.fieldLink RX5 78 "HashPagesModel" "power" "I" ∈ TB := TB_mem 702 rfl rfl
set_option maxRecDepth 100000 in
theorem fl_X5_81 : Cond.fieldLink RX5 81 "HashPagesModel" "down" "Z" ∈ TB := TB_mem 703 rfl rfl
set_option maxRecDepth 100000 in
theorem fl_X5_95 : Cond.fieldLink RX5 95 "HashPagesModel" "depth" "I" ∈ TB := TB_mem 704 rfl rfl
set_option maxRecDepth 100000 in
theorem fl_X5_98 : Cond.fieldLink RX5 98 "HashPagesModel" "dirMany" "I" ∈ TB := TB_mem 705 rfl rfl
set_option maxRecDepth 100000 in
theorem fl_X5_18 : Cond.fieldLink RX5 18 "HashPagesModel" "dir" "[I" ∈ TB := TB_mem 706 rfl rfl
set_option maxRecDepth 100000 in
theorem fl_X5_22 : Cond.fieldLink RX5 22 "HashPagesModel" "entries" "[I" ∈ TB := TB_mem 707 rfl rfl
set_option maxRecDepth 100000 in
theorem fl_X5_25 : Cond.fieldLink RX5 25 "HashPagesModel" "other" "[I" ∈ TB := TB_mem 708 rfl rfl
set_option maxRecDepth 100000 in
theorem fl_X5_28 : Cond.fieldLink RX5 28 "HashPagesModel" "isBucket" "[Z" ∈ TB := TB_mem 709 rfl rfl
set_option maxRecDepth 100000 in
theorem fl_X5_32 : Cond.fieldLink RX5 32 "HashPagesModel" "bucketDepth" "[I" ∈ TB := TB_mem 710 rfl rfl
set_option maxRecDepth 100000 in
theorem fl_X5_35 : Cond.fieldLink RX5 35 "HashPagesModel" "many" "[I" ∈ TB := TB_mem 711 rfl rfl
set_option maxRecDepth 100000 in
theorem fl_X5_38 : Cond.fieldLink RX5 38 "HashPagesModel" "keySize" "[I" ∈ TB := TB_mem 712 rfl rfl
set_option maxRecDepth 100000 in
theorem fl_X5_41 : Cond.fieldLink RX5 41 "HashPagesModel" "valueSize" "[I" ∈ TB := TB_mem 713 rfl rfl
set_option maxRecDepth 100000 in
theorem fl_X5_45 : Cond.fieldLink RX5 45 "HashPagesModel" "keys" "[J" ∈ TB := TB_mem 714 rfl rfl
set_option maxRecDepth 100000 in
theorem fl_X5_50 : Cond.fieldLink RX5 50 "HashPagesModel" "values" "[J" ∈ TB := TB_mem 715 rfl rfl
set_option maxRecDepth 100000 in
theorem fl_X5_53 : Cond.fieldLink RX5 53 "HashPagesModel" "tape" "[B" ∈ TB := TB_mem 716 rfl rfl
set_option maxRecDepth 100000 in
theorem fl_X5_172 : Cond.fieldLink RX5 172 "HashPagesModel" "taped" "I" ∈ TB := TB_mem 717 rfl rfl
set_option maxRecDepth 100000 in
theorem fl_X5_56 : Cond.fieldLink RX5 56 "HashPagesModel" "answer" "[B" ∈ TB := TB_mem 718 rfl rfl
set_option maxRecDepth 100000 in
theorem fl_X5_85 : Cond.fieldLink RX5 85 "HashPagesModel" "answered" "I" ∈ TB := TB_mem 719 rfl rfl
set_option maxRecDepth 100000 in
theorem fl_X5_59 : Cond.fieldLink RX5 59 "HashPagesModel" "out" "[I" ∈ TB := TB_mem 720 rfl rfl
set_option maxRecDepth 100000 in
theorem fl_X5_62 : Cond.fieldLink RX5 62 "HashPagesModel" "change" "[I" ∈ TB := TB_mem 721 rfl rfl
set_option maxRecDepth 100000 in
theorem fl_X5_124 : Cond.fieldLink RX5 124 "HashPagesModel" "changes" "I" ∈ TB := TB_mem 722 rfl rfl
set_option maxRecDepth 100000 in
theorem ac_boolean : Cond.arrayClass .boolean ∈ TB := TB_mem 776 rfl rfl
set_option maxRecDepth 100000 in
theorem ac_long : Cond.arrayClass .long ∈ TB := TB_mem 777 rfl rfl
set_option maxRecDepth 100000 in
theorem ml_L_50 : Cond.methodLink RL 50 yX5_format ∈ TB := TB_mem 778 rfl rfl
set_option maxRecDepth 100000 in
theorem im_yX5_format : Cond.instanceMethod yX5_format ∈ TB := TB_mem 779 rfl rfl
set_option maxRecDepth 100000 in
theorem se_yX5_format : Cond.selects RX5 yX5_format yX5_format ∈ TB := TB_mem 780 rfl rfl
set_option maxRecDepth 100000 in
theorem cd_yX5_format : Cond.code yX5_format cX5_format 3 none ∈ TB := TB_mem 781 rfl rfl
set_option maxRecDepth 100000 in
theorem ml_L_63 : Cond.methodLink RL 63 yX5_put ∈ TB := TB_mem 782 rfl rfl
set_option maxRecDepth 100000 in
theorem im_yX5_put : Cond.instanceMethod yX5_put ∈ TB := TB_mem 783 rfl rfl
set_option maxRecDepth 100000 in
theorem se_yX5_put : Cond.selects RX5 yX5_put yX5_put ∈ TB := TB_mem 784 rfl rfl
set_option maxRecDepth 100000 in
theorem cd_yX5_put : Cond.code yX5_put cX5_put 8 (some .int) ∈ TB := TB_mem 785 rfl rfl
set_option maxRecDepth 100000 in
theorem ml_X5_175 : Cond.methodLink RX5 175 yX5_throwing ∈ TB := TB_mem 786 rfl rfl
set_option maxRecDepth 100000 in
theorem im_yX5_throwing : Cond.instanceMethod yX5_throwing ∈ TB := TB_mem 788 rfl rfl
set_option maxRecDepth 100000 in
theorem cd_yX5_throwing : Cond.code yX5_throwing cX5_throwing 2 (some .int) ∈ TB := TB_mem 789 rfl rfl
set_option maxRecDepth 100000 in
theorem ml_X5_140 : Cond.methodLink RX5 140 yX5_tapeHash ∈ TB := TB_mem 790 rfl rfl
set_option maxRecDepth 100000 in
theorem im_yX5_tapeHash : Cond.instanceMethod yX5_tapeHash ∈ TB := TB_mem 792 rfl rfl
set_option maxRecDepth 100000 in
theorem cd_yX5_tapeHash : Cond.code yX5_tapeHash cX5_tapeHash 4 (some .int) ∈ TB := TB_mem 793 rfl rfl
set_option maxRecDepth 100000 in
theorem co_X5_109 : Cond.constant RX5 109 (Int32.ofInt 40503) ∈ TB := TB_mem 794 rfl rfl
set_option maxRecDepth 100000 in
theorem ml_X5_114 : Cond.methodLink RX5 114 yX5_step ∈ TB := TB_mem 795 rfl rfl
set_option maxRecDepth 100000 in
theorem sm_yX5_step : Cond.static yX5_step ∈ TB := TB_mem 796 rfl rfl
set_option maxRecDepth 100000 in
theorem cd_yX5_step : Cond.code yX5_step cX5_step 3 (some .int) ∈ TB := TB_mem 797 rfl rfl
set_option maxRecDepth 100000 in
theorem co_X5_110 : Cond.constant RX5 110 (Int32.ofInt 65535) ∈ TB := TB_mem 798 rfl rfl
set_option maxRecDepth 100000 in
theorem ml_X5_178 : Cond.methodLink RX5 178 yX5_bucketOf ∈ TB := TB_mem 799 rfl rfl
set_option maxRecDepth 100000 in
theorem im_yX5_bucketOf : Cond.instanceMethod yX5_bucketOf ∈ TB := TB_mem 801 rfl rfl
set_option maxRecDepth 100000 in
theorem cd_yX5_bucketOf : Cond.code yX5_bucketOf cX5_bucketOf 2 (some .int) ∈ TB := TB_mem 802 rfl rfl
set_option maxRecDepth 100000 in
theorem ml_X5_143 : Cond.methodLink RX5 143 yX5_first ∈ TB := TB_mem 803 rfl rfl
set_option maxRecDepth 100000 in
theorem sm_yX5_first : Cond.static yX5_first ∈ TB := TB_mem 804 rfl rfl
set_option maxRecDepth 100000 in
theorem cd_yX5_first : Cond.code yX5_first cX5_first 2 (some .int) ∈ TB := TB_mem 805 rfl rfl
set_option maxRecDepth 100000 in
theorem ml_X5_181 : Cond.methodLink RX5 181 yX5_filled ∈ TB := TB_mem 806 rfl rfl
set_option maxRecDepth 100000 in
theorem im_yX5_filled : Cond.instanceMethod yX5_filled ∈ TB := TB_mem 808 rfl rfl
set_option maxRecDepth 100000 in
theorem cd_yX5_filled : Cond.code yX5_filled cX5_filled 6 (some .int) ∈ TB := TB_mem 809 rfl rfl
set_option maxRecDepth 100000 in
theorem ml_X5_169 : Cond.methodLink RX5 169 yX5_find ∈ TB := TB_mem 810 rfl rfl
set_option maxRecDepth 100000 in
theorem im_yX5_find : Cond.instanceMethod yX5_find ∈ TB := TB_mem 812 rfl rfl
set_option maxRecDepth 100000 in
theorem cd_yX5_find : Cond.code yX5_find cX5_find 4 (some .int) ∈ TB := TB_mem 813 rfl rfl
set_option maxRecDepth 100000 in
theorem ml_X5_146 : Cond.methodLink RX5 146 yX5_isKey ∈ TB := TB_mem 814 rfl rfl
set_option maxRecDepth 100000 in
theorem im_yX5_isKey : Cond.instanceMethod yX5_isKey ∈ TB := TB_mem 816 rfl rfl
set_option maxRecDepth 100000 in
theorem cd_yX5_isKey : Cond.code yX5_isKey cX5_isKey 5 (some .boolean) ∈ TB := TB_mem 817 rfl rfl
set_option maxRecDepth 100000 in
theorem ml_X5_111 : Cond.methodLink RX5 111 yX5_keyByte ∈ TB := TB_mem 818 rfl rfl
set_option maxRecDepth 100000 in
theorem im_yX5_keyByte : Cond.instanceMethod yX5_keyByte ∈ TB := TB_mem 820 rfl rfl
set_option maxRecDepth 100000 in
theorem cd_yX5_keyByte : Cond.code yX5_keyByte cX5_keyByte 3 (some .int) ∈ TB := TB_mem 821 rfl rfl
set_option maxRecDepth 100000 in
theorem ml_X5_117 : Cond.methodLink RX5 117 yX5_bytesOf ∈ TB := TB_mem 822 rfl rfl
set_option maxRecDepth 100000 in
theorem im_yX5_bytesOf : Cond.instanceMethod yX5_bytesOf ∈ TB := TB_mem 824 rfl rfl
set_option maxRecDepth 100000 in
theorem cd_yX5_bytesOf : Cond.code yX5_bytesOf cX5_bytesOf 4 (some .int) ∈ TB := TB_mem 825 rfl rfl
set_option maxRecDepth 100000 in
theorem ml_X5_185 : Cond.methodLink RX5 185 yX5_isAlike ∈ TB := TB_mem 826 rfl rfl
set_option maxRecDepth 100000 in
theorem im_yX5_isAlike : Cond.instanceMethod yX5_isAlike ∈ TB := TB_mem 828 rfl rfl
set_option maxRecDepth 100000 in
theorem cd_yX5_isAlike : Cond.code yX5_isAlike cX5_isAlike 5 (some .boolean) ∈ TB := TB_mem 829 rfl rfl
set_option maxRecDepth 100000 in
theorem ml_X5_163 : Cond.methodLink RX5 163 yX5_hashOf ∈ TB := TB_mem 830 rfl rfl
set_option maxRecDepth 100000 in
theorem im_yX5_hashOf : Cond.instanceMethod yX5_hashOf ∈ TB := TB_mem 832 rfl rfl
set_option maxRecDepth 100000 in
theorem cd_yX5_hashOf : Cond.code yX5_hashOf cX5_hashOf 4 (some .int) ∈ TB := TB_mem 833 rfl rfl
set_option maxRecDepth 100000 in
theorem ml_X5_188 : Cond.methodLink RX5 188 yX5_doubles ∈ TB := TB_mem 834 rfl rfl
set_option maxRecDepth 100000 in
theorem im_yX5_doubles : Cond.instanceMethod yX5_doubles ∈ TB := TB_mem 836 rfl rfl
set_option maxRecDepth 100000 in
theorem cd_yX5_doubles : Cond.code yX5_doubles cX5_doubles 5 (some .int) ∈ TB := TB_mem 837 rfl rfl
set_option maxRecDepth 100000 in
theorem ml_X5_153 : Cond.methodLink RX5 153 yX5_free ∈ TB := TB_mem 838 rfl rfl
set_option maxRecDepth 100000 in
theorem im_yX5_free : Cond.instanceMethod yX5_free ∈ TB := TB_mem 840 rfl rfl
set_option maxRecDepth 100000 in
theorem cd_yX5_free : Cond.code yX5_free cX5_free 3 (some .int) ∈ TB := TB_mem 841 rfl rfl
set_option maxRecDepth 100000 in
theorem ml_X5_156 : Cond.methodLink RX5 156 yX5_changed ∈ TB := TB_mem 842 rfl rfl
set_option maxRecDepth 100000 in
theorem im_yX5_changed : Cond.instanceMethod yX5_changed ∈ TB := TB_mem 844 rfl rfl
set_option maxRecDepth 100000 in
theorem cd_yX5_changed : Cond.code yX5_changed cX5_changed 1 (some .int) ∈ TB := TB_mem 845 rfl rfl
set_option maxRecDepth 100000 in
theorem ml_X5_136 : Cond.methodLink RX5 136 yX5_allWritten ∈ TB := TB_mem 846 rfl rfl
set_option maxRecDepth 100000 in
theorem im_yX5_allWritten : Cond.instanceMethod yX5_allWritten ∈ TB := TB_mem 848 rfl rfl
set_option maxRecDepth 100000 in
theorem cd_yX5_allWritten : Cond.code yX5_allWritten cX5_allWritten 2 (some .boolean) ∈ TB := TB_mem 849 rfl rfl
set_option maxRecDepth 100000 in
theorem ml_X5_127 : Cond.methodLink RX5 127 yX5_render ∈ TB := TB_mem 850 rfl rfl
set_option maxRecDepth 100000 in
theorem im_yX5_render : Cond.instanceMethod yX5_render ∈ TB := TB_mem 852 rfl rfl
set_option maxRecDepth 100000 in
theorem cd_yX5_render : Cond.code yX5_render cX5_render 7 none ∈ TB := TB_mem 853 rfl rfl
set_option maxRecDepth 100000 in
theorem ml_X5_121 : Cond.methodLink RX5 121 yX5_valueByte ∈ TB := TB_mem 854 rfl rfl
set_option maxRecDepth 100000 in
theorem im_yX5_valueByte : Cond.instanceMethod yX5_valueByte ∈ TB := TB_mem 856 rfl rfl
set_option maxRecDepth 100000 in
theorem cd_yX5_valueByte : Cond.code yX5_valueByte cX5_valueByte 3 (some .int) ∈ TB := TB_mem 857 rfl rfl
set_option maxRecDepth 100000 in
theorem ml_X5_130 : Cond.methodLink RX5 130 yX5_writes ∈ TB := TB_mem 858 rfl rfl
set_option maxRecDepth 100000 in
theorem im_yX5_writes : Cond.instanceMethod yX5_writes ∈ TB := TB_mem 860 rfl rfl
set_option maxRecDepth 100000 in
theorem cd_yX5_writes : Cond.code yX5_writes cX5_writes 3 (some .boolean) ∈ TB := TB_mem 861 rfl rfl
set_option maxRecDepth 100000 in
theorem ml_X5_133 : Cond.methodLink RX5 133 yX5_journal ∈ TB := TB_mem 862 rfl rfl
set_option maxRecDepth 100000 in
theorem im_yX5_journal : Cond.instanceMethod yX5_journal ∈ TB := TB_mem 864 rfl rfl
set_option maxRecDepth 100000 in
theorem cd_yX5_journal : Cond.code yX5_journal cX5_journal 3 none ∈ TB := TB_mem 865 rfl rfl
set_option maxRecDepth 100000 in
theorem ml_X5_191 : Cond.methodLink RX5 191 yX5_splits ∈ TB := TB_mem 866 rfl rfl
set_option maxRecDepth 100000 in
theorem im_yX5_splits : Cond.instanceMethod yX5_splits ∈ TB := TB_mem 868 rfl rfl
set_option maxRecDepth 100000 in
theorem cd_yX5_splits : Cond.code yX5_splits cX5_splits 6 (some .int) ∈ TB := TB_mem 869 rfl rfl
set_option maxRecDepth 100000 in
theorem ml_X5_160 : Cond.methodLink RX5 160 yX5_unlike ∈ TB := TB_mem 870 rfl rfl
set_option maxRecDepth 100000 in
theorem im_yX5_unlike : Cond.instanceMethod yX5_unlike ∈ TB := TB_mem 872 rfl rfl
set_option maxRecDepth 100000 in
theorem cd_yX5_unlike : Cond.code yX5_unlike cX5_unlike 6 (some .int) ∈ TB := TB_mem 873 rfl rfl
set_option maxRecDepth 100000 in
theorem ml_X5_150 : Cond.methodLink RX5 150 yX5_copyRecord ∈ TB := TB_mem 874 rfl rfl
set_option maxRecDepth 100000 in
theorem im_yX5_copyRecord : Cond.instanceMethod yX5_copyRecord ∈ TB := TB_mem 876 rfl rfl
set_option maxRecDepth 100000 in
theorem cd_yX5_copyRecord : Cond.code yX5_copyRecord cX5_copyRecord 4 none ∈ TB := TB_mem 877 rfl rfl
set_option maxRecDepth 100000 in
theorem ml_X5_166 : Cond.methodLink RX5 166 yX5_drop ∈ TB := TB_mem 878 rfl rfl
set_option maxRecDepth 100000 in
theorem im_yX5_drop : Cond.instanceMethod yX5_drop ∈ TB := TB_mem 880 rfl rfl
set_option maxRecDepth 100000 in
theorem cd_yX5_drop : Cond.code yX5_drop cX5_drop 4 none ∈ TB := TB_mem 881 rfl rfl
set_option maxRecDepth 100000 in
theorem ml_X5_196 : Cond.methodLink RX5 196 yX5_wroteBucket ∈ TB := TB_mem 883 rfl rfl
set_option maxRecDepth 100000 in
theorem im_yX5_wroteBucket : Cond.instanceMethod yX5_wroteBucket ∈ TB := TB_mem 885 rfl rfl
set_option maxRecDepth 100000 in
theorem cd_yX5_wroteBucket : Cond.code yX5_wroteBucket cX5_wroteBucket 2 (some .int) ∈ TB := TB_mem 886 rfl rfl
set_option maxRecDepth 100000 in
theorem ml_L_67 : Cond.methodLink RL 67 yX5_remove ∈ TB := TB_mem 887 rfl rfl
set_option maxRecDepth 100000 in
theorem im_yX5_remove : Cond.instanceMethod yX5_remove ∈ TB := TB_mem 888 rfl rfl
set_option maxRecDepth 100000 in
theorem se_yX5_remove : Cond.selects RX5 yX5_remove yX5_remove ∈ TB := TB_mem 889 rfl rfl
set_option maxRecDepth 100000 in
theorem cd_yX5_remove : Cond.code yX5_remove cX5_remove 6 (some .int) ∈ TB := TB_mem 890 rfl rfl
set_option maxRecDepth 100000 in
theorem ml_X5_202 : Cond.methodLink RX5 202 yX5_merges ∈ TB := TB_mem 891 rfl rfl
set_option maxRecDepth 100000 in
theorem im_yX5_merges : Cond.instanceMethod yX5_merges ∈ TB := TB_mem 893 rfl rfl
set_option maxRecDepth 100000 in
theorem cd_yX5_merges : Cond.code yX5_merges cX5_merges 9 (some .int) ∈ TB := TB_mem 894 rfl rfl
set_option maxRecDepth 100000 in
theorem ml_X5_199 : Cond.methodLink RX5 199 yX5_buddy ∈ TB := TB_mem 895 rfl rfl
set_option maxRecDepth 100000 in
theorem im_yX5_buddy : Cond.instanceMethod yX5_buddy ∈ TB := TB_mem 897 rfl rfl
set_option maxRecDepth 100000 in
theorem cd_yX5_buddy : Cond.code yX5_buddy cX5_buddy 5 (some .int) ∈ TB := TB_mem 898 rfl rfl
set_option maxRecDepth 100000 in
theorem ml_X5_205 : Cond.methodLink RX5 205 yX5_halves ∈ TB := TB_mem 899 rfl rfl
set_option maxRecDepth 100000 in
theorem im_yX5_halves : Cond.instanceMethod yX5_halves ∈ TB := TB_mem 901 rfl rfl
set_option maxRecDepth 100000 in
theorem cd_yX5_halves : Cond.code yX5_halves cX5_halves 3 (some .int) ∈ TB := TB_mem 902 rfl rfl
set_option maxRecDepth 100000 in
theorem ml_L_59 : Cond.methodLink RL 59 yX5_feed ∈ TB := TB_mem 903 rfl rfl
set_option maxRecDepth 100000 in
theorem im_yX5_feed : Cond.instanceMethod yX5_feed ∈ TB := TB_mem 904 rfl rfl
set_option maxRecDepth 100000 in
theorem se_yX5_feed : Cond.selects RX5 yX5_feed yX5_feed ∈ TB := TB_mem 905 rfl rfl
set_option maxRecDepth 100000 in
theorem cd_yX5_feed : Cond.code yX5_feed cX5_feed 7 (some .int) ∈ TB := TB_mem 906 rfl rfl
set_option maxRecDepth 100000 in
theorem ml_L_70 : Cond.methodLink RL 70 yX5_get ∈ TB := TB_mem 907 rfl rfl
set_option maxRecDepth 100000 in
theorem im_yX5_get : Cond.instanceMethod yX5_get ∈ TB := TB_mem 908 rfl rfl
set_option maxRecDepth 100000 in
theorem se_yX5_get : Cond.selects RX5 yX5_get yX5_get ∈ TB := TB_mem 909 rfl rfl
set_option maxRecDepth 100000 in
theorem cd_yX5_get : Cond.code yX5_get cX5_get 6 (some .int) ∈ TB := TB_mem 910 rfl rfl
set_option maxRecDepth 100000 in
theorem ml_L_74 : Cond.methodLink RL 74 yX5_answer ∈ TB := TB_mem 911 rfl rfl
set_option maxRecDepth 100000 in
theorem im_yX5_answer : Cond.instanceMethod yX5_answer ∈ TB := TB_mem 912 rfl rfl
set_option maxRecDepth 100000 in
theorem se_yX5_answer : Cond.selects RX5 yX5_answer yX5_answer ∈ TB := TB_mem 913 rfl rfl
set_option maxRecDepth 100000 in
theorem cd_yX5_answer : Cond.code yX5_answer cX5_answer 2 (some .int) ∈ TB := TB_mem 914 rfl rfl
set_option maxRecDepth 100000 in
theorem ml_L_78 : Cond.methodLink RL 78 yX5_power ∈ TB := TB_mem 915 rfl rfl
set_option maxRecDepth 100000 in
theorem im_yX5_power : Cond.instanceMethod yX5_power ∈ TB := TB_mem 916 rfl rfl
set_option maxRecDepth 100000 in
theorem se_yX5_power : Cond.selects RX5 yX5_power yX5_power ∈ TB := TB_mem 917 rfl rfl
set_option maxRecDepth 100000 in
theorem cd_yX5_power : Cond.code yX5_power cX5_power 2 none ∈ TB := TB_mem 918 rfl rfl
set_option maxRecDepth 100000 in
theorem ml_L_81 : Cond.methodLink RL 81 yX5_recover ∈ TB := TB_mem 919 rfl rfl
set_option maxRecDepth 100000 in
theorem im_yX5_recover : Cond.instanceMethod yX5_recover ∈ TB := TB_mem 920 rfl rfl
set_option maxRecDepth 100000 in
theorem se_yX5_recover : Cond.selects RX5 yX5_recover yX5_recover ∈ TB := TB_mem 921 rfl rfl
set_option maxRecDepth 100000 in
theorem cd_yX5_recover : Cond.code yX5_recover cX5_recover 5 (some .int) ∈ TB := TB_mem 922 rfl rfl
set_option maxRecDepth 100000 in
theorem ml_L_86 : Cond.methodLink RL 86 yX5_byteOf ∈ TB := TB_mem 923 rfl rfl
set_option maxRecDepth 100000 in
theorem im_yX5_byteOf : Cond.instanceMethod yX5_byteOf ∈ TB := TB_mem 924 rfl rfl
set_option maxRecDepth 100000 in
theorem se_yX5_byteOf : Cond.selects RX5 yX5_byteOf yX5_byteOf ∈ TB := TB_mem 925 rfl rfl
set_option maxRecDepth 100000 in
theorem cd_yX5_byteOf : Cond.code yX5_byteOf cX5_byteOf 3 (some .int) ∈ TB := TB_mem 926 rfl rfl
set_option maxRecDepth 100000 in
theorem ml_X5_208 : Cond.methodLink RX5 208 yX5_isPage ∈ TB := TB_mem 927 rfl rfl
set_option maxRecDepth 100000 in
theorem im_yX5_isPage : Cond.instanceMethod yX5_isPage ∈ TB := TB_mem 929 rfl rfl
set_option maxRecDepth 100000 in
theorem cd_yX5_isPage : Cond.code yX5_isPage cX5_isPage 2 (some .boolean) ∈ TB := TB_mem 930 rfl rfl
set_option maxRecDepth 100000 in
theorem ml_L_90 : Cond.methodLink RL 90 yX5_kind ∈ TB := TB_mem 931 rfl rfl
set_option maxRecDepth 100000 in
theorem im_yX5_kind : Cond.instanceMethod yX5_kind ∈ TB := TB_mem 932 rfl rfl
set_option maxRecDepth 100000 in
theorem se_yX5_kind : Cond.selects RX5 yX5_kind yX5_kind ∈ TB := TB_mem 933 rfl rfl
set_option maxRecDepth 100000 in
theorem cd_yX5_kind : Cond.code yX5_kind cX5_kind 2 (some .int) ∈ TB := TB_mem 934 rfl rfl
set_option maxRecDepth 100000 in
theorem ml_X5_211 : Cond.methodLink RX5 211 yX5_kindOf ∈ TB := TB_mem 935 rfl rfl
set_option maxRecDepth 100000 in
theorem im_yX5_kindOf : Cond.instanceMethod yX5_kindOf ∈ TB := TB_mem 937 rfl rfl
set_option maxRecDepth 100000 in
theorem cd_yX5_kindOf : Cond.code yX5_kindOf cX5_kindOf 2 (some .int) ∈ TB := TB_mem 938 rfl rfl
set_option maxRecDepth 100000 in
theorem ml_L_94 : Cond.methodLink RL 94 yX5_hash ∈ TB := TB_mem 939 rfl rfl
set_option maxRecDepth 100000 in
theorem im_yX5_hash : Cond.instanceMethod yX5_hash ∈ TB := TB_mem 940 rfl rfl
set_option maxRecDepth 100000 in
theorem se_yX5_hash : Cond.selects RX5 yX5_hash yX5_hash ∈ TB := TB_mem 941 rfl rfl
set_option maxRecDepth 100000 in
theorem cd_yX5_hash : Cond.code yX5_hash cX5_hash 1 (some .int) ∈ TB := TB_mem 942 rfl rfl
set_option maxRecDepth 100000 in
theorem ml_L_98 : Cond.methodLink RL 98 yX5_entry ∈ TB := TB_mem 943 rfl rfl
set_option maxRecDepth 100000 in
theorem im_yX5_entry : Cond.instanceMethod yX5_entry ∈ TB := TB_mem 944 rfl rfl
set_option maxRecDepth 100000 in
theorem se_yX5_entry : Cond.selects RX5 yX5_entry yX5_entry ∈ TB := TB_mem 945 rfl rfl
set_option maxRecDepth 100000 in
theorem cd_yX5_entry : Cond.code yX5_entry cX5_entry 2 (some .int) ∈ TB := TB_mem 946 rfl rfl
set_option maxRecDepth 100000 in
theorem ml_L_102 : Cond.methodLink RL 102 yX5_bucket_ ∈ TB := TB_mem 947 rfl rfl
set_option maxRecDepth 100000 in
theorem im_yX5_bucket_ : Cond.instanceMethod yX5_bucket_ ∈ TB := TB_mem 948 rfl rfl
set_option maxRecDepth 100000 in
theorem se_yX5_bucket_ : Cond.selects RX5 yX5_bucket_ yX5_bucket_ ∈ TB := TB_mem 949 rfl rfl
set_option maxRecDepth 100000 in
theorem cd_yX5_bucket_ : Cond.code yX5_bucket_ cX5_bucket_ 3 (some .int) ∈ TB := TB_mem 950 rfl rfl
set_option maxRecDepth 100000 in
theorem ml_L_107 : Cond.methodLink RL 107 yX5_record ∈ TB := TB_mem 951 rfl rfl
set_option maxRecDepth 100000 in
theorem im_yX5_record : Cond.instanceMethod yX5_record ∈ TB := TB_mem 952 rfl rfl
set_option maxRecDepth 100000 in
theorem se_yX5_record : Cond.selects RX5 yX5_record yX5_record ∈ TB := TB_mem 953 rfl rfl
set_option maxRecDepth 100000 in
theorem cd_yX5_record : Cond.code yX5_record cX5_record 6 (some .int) ∈ TB := TB_mem 954 rfl rfl
set_option maxRecDepth 100000 in
theorem ml_L_111 : Cond.methodLink RL 111 yX5_look ∈ TB := TB_mem 955 rfl rfl
set_option maxRecDepth 100000 in
theorem im_yX5_look : Cond.instanceMethod yX5_look ∈ TB := TB_mem 956 rfl rfl
set_option maxRecDepth 100000 in
theorem se_yX5_look : Cond.selects RX5 yX5_look yX5_look ∈ TB := TB_mem 957 rfl rfl
set_option maxRecDepth 100000 in
theorem cd_yX5_look : Cond.code yX5_look cX5_look 4 (some .int) ∈ TB := TB_mem 958 rfl rfl
set_option maxRecDepth 100000 in
theorem ml_X5_214 : Cond.methodLink RX5 214 yX5_manyOf ∈ TB := TB_mem 959 rfl rfl
set_option maxRecDepth 100000 in
theorem im_yX5_manyOf : Cond.instanceMethod yX5_manyOf ∈ TB := TB_mem 961 rfl rfl
set_option maxRecDepth 100000 in
theorem cd_yX5_manyOf : Cond.code yX5_manyOf cX5_manyOf 4 (some .int) ∈ TB := TB_mem 962 rfl rfl
theorem se_yX1_place : Cond.selects RX1 yX1_place yX1_place ∈ TB := TB_mem 0 rfl rfl
theorem se_yX1_isPage : Cond.selects RX1 yX1_isPage yX1_isPage ∈ TB := TB_mem 1 rfl rfl
theorem se_yX1_lay : Cond.selects RX1 yX1_lay yX1_lay ∈ TB := TB_mem 2 rfl rfl
theorem se_yX1_learnKinds : Cond.selects RX1 yX1_learnKinds yX1_learnKinds ∈ TB := TB_mem 3 rfl rfl
theorem se_yX1_mark : Cond.selects RX1 yX1_mark yX1_mark ∈ TB := TB_mem 4 rfl rfl
theorem se_yX4_makePlace : Cond.selects RX4 yX4_makePlace yX4_makePlace ∈ TB := TB_mem 6 rfl rfl
theorem se_yX4_hasPlace : Cond.selects RX4 yX4_hasPlace yX4_hasPlace ∈ TB := TB_mem 7 rfl rfl
theorem se_yX1_hasKey : Cond.selects RX1 yX1_hasKey yX1_hasKey ∈ TB := TB_mem 8 rfl rfl
theorem se_yX4_resizeDirectory : Cond.selects RX4 yX4_resizeDirectory yX4_resizeDirectory ∈ TB := TB_mem 9 rfl rfl
theorem se_yX4_buildDirectoryPage : Cond.selects RX4 yX4_buildDirectoryPage yX4_buildDirectoryPage ∈ TB := TB_mem 10 rfl rfl
theorem se_yX4_split : Cond.selects RX4 yX4_split yX4_split ∈ TB := TB_mem 11 rfl rfl
theorem se_yX4_buildHalf : Cond.selects RX4 yX4_buildHalf yX4_buildHalf ∈ TB := TB_mem 12 rfl rfl
theorem se_yX2_countRecord : Cond.selects RX2 yX2_countRecord yX2_countRecord ∈ TB := TB_mem 13 rfl rfl
theorem se_yX4_retell : Cond.selects RX4 yX4_retell yX4_retell ∈ TB := TB_mem 14 rfl rfl
theorem se_yX4_storeRecord : Cond.selects RX4 yX4_storeRecord yX4_storeRecord ∈ TB := TB_mem 15 rfl rfl
theorem se_yX4_buildWithout : Cond.selects RX4 yX4_buildWithout yX4_buildWithout ∈ TB := TB_mem 16 rfl rfl
theorem se_yX4_addRecordsBut : Cond.selects RX4 yX4_addRecordsBut yX4_addRecordsBut ∈ TB := TB_mem 17 rfl rfl
theorem se_yX4_mergeAll : Cond.selects RX4 yX4_mergeAll yX4_mergeAll ∈ TB := TB_mem 18 rfl rfl
theorem se_yX4_mergePartner : Cond.selects RX4 yX4_mergePartner yX4_mergePartner ∈ TB := TB_mem 19 rfl rfl
theorem se_yX4_merge : Cond.selects RX4 yX4_merge yX4_merge ∈ TB := TB_mem 20 rfl rfl
theorem se_yX4_halveAll : Cond.selects RX4 yX4_halveAll yX4_halveAll ∈ TB := TB_mem 21 rfl rfl
theorem se_yX5_anew : Cond.selects RX5 yX5_anew yX5_anew ∈ TB := TB_mem 22 rfl rfl
theorem se_yX5_decode : Cond.selects RX5 yX5_decode yX5_decode ∈ TB := TB_mem 23 rfl rfl
theorem se_yX5_at : Cond.selects RX5 yX5_at yX5_at ∈ TB := TB_mem 24 rfl rfl
theorem se_yX5_isDirectory : Cond.selects RX5 yX5_isDirectory yX5_isDirectory ∈ TB := TB_mem 25 rfl rfl
theorem se_yX5_bucket : Cond.selects RX5 yX5_bucket yX5_bucket ∈ TB := TB_mem 26 rfl rfl
theorem se_yX5_throwing : Cond.selects RX5 yX5_throwing yX5_throwing ∈ TB := TB_mem 27 rfl rfl
theorem se_yX5_tapeHash : Cond.selects RX5 yX5_tapeHash yX5_tapeHash ∈ TB := TB_mem 28 rfl rfl
theorem se_yX5_bucketOf : Cond.selects RX5 yX5_bucketOf yX5_bucketOf ∈ TB := TB_mem 29 rfl rfl
theorem se_yX5_filled : Cond.selects RX5 yX5_filled yX5_filled ∈ TB := TB_mem 30 rfl rfl
theorem se_yX5_find : Cond.selects RX5 yX5_find yX5_find ∈ TB := TB_mem 31 rfl rfl
theorem se_yX5_isKey : Cond.selects RX5 yX5_isKey yX5_isKey ∈ TB := TB_mem 32 rfl rfl
theorem se_yX5_keyByte : Cond.selects RX5 yX5_keyByte yX5_keyByte ∈ TB := TB_mem 33 rfl rfl
theorem se_yX5_bytesOf : Cond.selects RX5 yX5_bytesOf yX5_bytesOf ∈ TB := TB_mem 34 rfl rfl
theorem se_yX5_isAlike : Cond.selects RX5 yX5_isAlike yX5_isAlike ∈ TB := TB_mem 35 rfl rfl
theorem se_yX5_hashOf : Cond.selects RX5 yX5_hashOf yX5_hashOf ∈ TB := TB_mem 36 rfl rfl
theorem se_yX5_doubles : Cond.selects RX5 yX5_doubles yX5_doubles ∈ TB := TB_mem 37 rfl rfl
theorem se_yX5_free : Cond.selects RX5 yX5_free yX5_free ∈ TB := TB_mem 38 rfl rfl
theorem se_yX5_changed : Cond.selects RX5 yX5_changed yX5_changed ∈ TB := TB_mem 39 rfl rfl
theorem se_yX5_allWritten : Cond.selects RX5 yX5_allWritten yX5_allWritten ∈ TB := TB_mem 40 rfl rfl
theorem se_yX5_render : Cond.selects RX5 yX5_render yX5_render ∈ TB := TB_mem 41 rfl rfl
theorem se_yX5_valueByte : Cond.selects RX5 yX5_valueByte yX5_valueByte ∈ TB := TB_mem 42 rfl rfl
theorem se_yX5_writes : Cond.selects RX5 yX5_writes yX5_writes ∈ TB := TB_mem 43 rfl rfl
theorem se_yX5_journal : Cond.selects RX5 yX5_journal yX5_journal ∈ TB := TB_mem 44 rfl rfl
theorem se_yX5_splits : Cond.selects RX5 yX5_splits yX5_splits ∈ TB := TB_mem 45 rfl rfl
theorem se_yX5_unlike : Cond.selects RX5 yX5_unlike yX5_unlike ∈ TB := TB_mem 46 rfl rfl
theorem se_yX5_copyRecord : Cond.selects RX5 yX5_copyRecord yX5_copyRecord ∈ TB := TB_mem 47 rfl rfl
theorem se_yX5_drop : Cond.selects RX5 yX5_drop yX5_drop ∈ TB := TB_mem 48 rfl rfl
theorem se_yX5_wroteBucket : Cond.selects RX5 yX5_wroteBucket yX5_wroteBucket ∈ TB := TB_mem 49 rfl rfl
theorem se_yX5_merges : Cond.selects RX5 yX5_merges yX5_merges ∈ TB := TB_mem 50 rfl rfl
theorem se_yX5_buddy : Cond.selects RX5 yX5_buddy yX5_buddy ∈ TB := TB_mem 51 rfl rfl
theorem se_yX5_halves : Cond.selects RX5 yX5_halves yX5_halves ∈ TB := TB_mem 52 rfl rfl
theorem se_yX5_isPage : Cond.selects RX5 yX5_isPage yX5_isPage ∈ TB := TB_mem 53 rfl rfl
theorem se_yX5_kindOf : Cond.selects RX5 yX5_kindOf yX5_kindOf ∈ TB := TB_mem 54 rfl rfl
theorem se_yX5_manyOf : Cond.selects RX5 yX5_manyOf yX5_manyOf ∈ TB := TB_mem 55 rfl rfl
theorem uTB0 : ∀ w ∈ u_ws RX0 TX0 3, w ∈ TB := by decide +kernel
theorem uTB1 : ∀ w ∈ u_ws RX1 TX1 8, w ∈ TB := by decide +kernel
theorem uTB2 : ∀ w ∈ u_ws RX2 TX2 1, w ∈ TB := by decide +kernel
theorem uTB3 : ∀ w ∈ u_ws RX3 TX3 2, w ∈ TB := by decide +kernel
theorem uTB4 : ∀ w ∈ u_ws RX4 TX4 7, w ∈ TB := by decide +kernel
theorem uTB5 : ∀ w ∈ u_ws RX5 TX5 26, w ∈ TB := by decide +kernel
