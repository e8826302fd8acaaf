set_option maxRecDepth 100000
set_option maxHeartbeats 4000000
def hk_gd (w : Cond) : Prop := w ∈ lw_tbl ∧ goodWord w = true
theorem hk_t101 {w : Cond} (h : w ∈ tables_1_1) : w ∈ lw_tbl := List.mem_append_right _ (show w ∈ tables_1 from List.mem_append_left _ h)
theorem hk_t102 {w : Cond} (h : w ∈ tables_1_2) : w ∈ lw_tbl := List.mem_append_right _ (show w ∈ tables_1 from List.mem_append_right _ (List.mem_append_left _ h))
theorem hk_t103 {w : Cond} (h : w ∈ tables_1_3) : w ∈ lw_tbl := List.mem_append_right _ (show w ∈ tables_1 from List.mem_append_right _ (List.mem_append_right _ (List.mem_append_left _ h)))
theorem hk_t104 {w : Cond} (h : w ∈ tables_1_4) : w ∈ lw_tbl := List.mem_append_right _ (show w ∈ tables_1 from List.mem_append_right _ (List.mem_append_right _ (List.mem_append_right _ (List.mem_append_left _ h))))
theorem hk_t105 {w : Cond} (h : w ∈ tables_1_5) : w ∈ lw_tbl := List.mem_append_right _ (show w ∈ tables_1 from List.mem_append_right _ (List.mem_append_right _ (List.mem_append_right _ (List.mem_append_right _ (List.mem_append_left _ h)))))
theorem hk_t106 {w : Cond} (h : w ∈ tables_1_6) : w ∈ lw_tbl := List.mem_append_right _ (show w ∈ tables_1 from List.mem_append_right _ (List.mem_append_right _ (List.mem_append_right _ (List.mem_append_right _ (List.mem_append_right _ (List.mem_append_left _ h))))))
theorem hk_t107 {w : Cond} (h : w ∈ tables_1_7) : w ∈ lw_tbl := List.mem_append_right _ (show w ∈ tables_1 from List.mem_append_right _ (List.mem_append_right _ (List.mem_append_right _ (List.mem_append_right _ (List.mem_append_right _ (List.mem_append_right _ (List.mem_append_left _ h)))))))
theorem hk_t108 {w : Cond} (h : w ∈ tables_1_8) : w ∈ lw_tbl := List.mem_append_right _ (show w ∈ tables_1 from List.mem_append_right _ (List.mem_append_right _ (List.mem_append_right _ (List.mem_append_right _ (List.mem_append_right _ (List.mem_append_right _ (List.mem_append_right _ (List.mem_append_left _ h))))))))
theorem hk_t109 {w : Cond} (h : w ∈ tables_1_9) : w ∈ lw_tbl := List.mem_append_right _ (show w ∈ tables_1 from List.mem_append_right _ (List.mem_append_right _ (List.mem_append_right _ (List.mem_append_right _ (List.mem_append_right _ (List.mem_append_right _ (List.mem_append_right _ (List.mem_append_right _ (List.mem_append_left _ h)))))))))
theorem hk_t110 {w : Cond} (h : w ∈ tables_1_10) : w ∈ lw_tbl := List.mem_append_right _ (show w ∈ tables_1 from List.mem_append_right _ (List.mem_append_right _ (List.mem_append_right _ (List.mem_append_right _ (List.mem_append_right _ (List.mem_append_right _ (List.mem_append_right _ (List.mem_append_right _ (List.mem_append_right _ (h))))))))))
theorem hk_p1 {q : MethodName × Nat} (h : q ∈ lw_privs_1) : q ∈ lw_privs := List.mem_append_left _ h
theorem hk_p2 {q : MethodName × Nat} (h : q ∈ lw_privs_2) : q ∈ lw_privs := List.mem_append_right _ (List.mem_append_left _ h)
theorem hk_p3 {q : MethodName × Nat} (h : q ∈ lw_privs_3) : q ∈ lw_privs := List.mem_append_right _ (List.mem_append_right _ (List.mem_append_left _ h))
theorem hk_p4 {q : MethodName × Nat} (h : q ∈ lw_privs_4) : q ∈ lw_privs := List.mem_append_right _ (List.mem_append_right _ (List.mem_append_right _ (List.mem_append_left _ h)))
theorem hk_p5 {q : MethodName × Nat} (h : q ∈ lw_privs_5) : q ∈ lw_privs := List.mem_append_right _ (List.mem_append_right _ (List.mem_append_right _ (List.mem_append_right _ (List.mem_append_left _ h))))
theorem hk_p6 {q : MethodName × Nat} (h : q ∈ lw_privs_6) : q ∈ lw_privs := List.mem_append_right _ (List.mem_append_right _ (List.mem_append_right _ (List.mem_append_right _ (List.mem_append_right _ (h)))))
theorem hk_tp {q : MethodName × Nat} (h : q ∈ lw_privs) : Cond.selects q.1.cls q.1 q.1 ∈ lw_tbl := List.mem_append_left _ (List.mem_map.mpr ⟨q, h, rfl⟩)
theorem hk_g0 : GoodIn lw_tbl [] := fun _ h => nomatch h
theorem hk_g1 {w : Cond} {ws : List Cond} (h : hk_gd w) (t : GoodIn lw_tbl ws) : GoodIn lw_tbl (w :: ws) := fun v hv => (List.mem_cons.mp hv).elim (fun e => by subst e; exact ⟨h.1, good_of_word h.2⟩) (t v)
theorem xg_8l : GoodIn lw_tbl wwX_t0 := goodIn_sub (by decide +kernel) xg_8g
theorem xg_11l : GoodIn lw_tbl wwX_t1 := goodIn_sub (by decide +kernel) xg_11g
theorem xb_bl : ∀ w ∈ xb_b, w ∈ lw_tbl := by decide +kernel
theorem tw_0 : hk_gd (Cond.methodLink RX0 69 yX0_mixRound) := ⟨hk_t105 (List.mem_of_getElem? (i := 178) rfl), rfl⟩
theorem tw_1 : hk_gd (Cond.fieldLink RX0 66 "LzmaChains$Checks" "SHA_KEYS" "[I") := ⟨hk_t105 (List.mem_of_getElem? (i := 176) rfl), rfl⟩
theorem tw_2 : hk_gd (Cond.initialized "java/lang/System") := ⟨hk_t101 (List.mem_of_getElem? (i := 26) rfl), rfl⟩
theorem tw_3 : hk_gd (Cond.static arraycopyName) := ⟨hk_t103 (List.mem_of_getElem? (i := 199) rfl), rfl⟩
theorem tw_4 : hk_gd (Cond.native arraycopyName) := ⟨hk_t103 (List.mem_of_getElem? (i := 200) rfl), rfl⟩
theorem tw_5 : hk_gd (Cond.methodLink RX0 47 arraycopyName) := ⟨hk_t105 (List.mem_of_getElem? (i := 165) rfl), rfl⟩
theorem tw_6 : hk_gd (Cond.fieldLink RX0 15 "LzmaChains$Checks" "mixed" "[I") := ⟨hk_t101 (List.mem_of_getElem? (i := 213) rfl), rfl⟩
theorem tw_7 : hk_gd (Cond.code yJ6_rotateRight_7cf53 cJ6_rotateRight_7cf53 2 (some .int)) := ⟨hk_t105 (List.mem_of_getElem? (i := 175) rfl), rfl⟩
theorem tw_8 : hk_gd (Cond.static yJ6_rotateRight_7cf53) := ⟨hk_t105 (List.mem_of_getElem? (i := 174) rfl), rfl⟩
theorem tw_9 : hk_gd (Cond.methodLink RX0 60 yJ6_rotateRight_7cf53) := ⟨hk_t105 (List.mem_of_getElem? (i := 173) rfl), rfl⟩
theorem tw_10 : hk_gd (Cond.fieldLink RX0 18 "LzmaChains$Checks" "schedule" "[I") := ⟨hk_t101 (List.mem_of_getElem? (i := 214) rfl), rfl⟩
theorem tw_11 : hk_gd (Cond.constantLong RX0 42 (-3932672073523589310)) := ⟨hk_t105 (List.mem_of_getElem? (i := 158) rfl), rfl⟩
theorem tw_12 : hk_gd (Cond.constantLong RX0 40 (-1)) := ⟨hk_t105 (List.mem_of_getElem? (i := 157) rfl), rfl⟩
theorem tw_13 : hk_gd (Cond.constant RX0 39 (-306674912)) := ⟨hk_t105 (List.mem_of_getElem? (i := 142) rfl), rfl⟩
theorem tw_14 : hk_gd (Cond.code yX9_get cX9_get 2 (some .int)) := ⟨hk_t104 (List.mem_of_getElem? (i := 214) rfl), rfl⟩
theorem tw_15 : hk_gd (Cond.initialized RX9) := ⟨hk_t101 (List.mem_of_getElem? (i := 3) rfl), rfl⟩
theorem tw_16 : hk_gd (Cond.selects RX9 yX9_get yX9_get) := ⟨hk_t104 (List.mem_of_getElem? (i := 213) rfl), rfl⟩
theorem tw_17 : hk_gd (Cond.instanceMethod yX9_get) := ⟨hk_t104 (List.mem_of_getElem? (i := 212) rfl), rfl⟩
theorem tw_18 : hk_gd (Cond.methodLink RX0 33 yX9_get) := ⟨hk_t105 (List.mem_of_getElem? (i := 141) rfl), rfl⟩
theorem tw_19 : hk_gd (Cond.code yX0_sha256 cX0_sha256 10 none) := ⟨hk_t105 (List.mem_of_getElem? (i := 162) rfl), rfl⟩
theorem tw_20 : hk_gd (Cond.selects RX0 yX0_sha256 yX0_sha256) := ⟨hk_t105 (List.mem_of_getElem? (i := 161) rfl), rfl⟩
theorem tw_21 : hk_gd (Cond.instanceMethod yX0_sha256) := ⟨hk_t105 (List.mem_of_getElem? (i := 160) rfl), rfl⟩
theorem tw_22 : hk_gd (Cond.methodLink RX0 29 yX0_sha256) := ⟨hk_t105 (List.mem_of_getElem? (i := 159) rfl), rfl⟩
theorem tw_23 : hk_gd (Cond.code yX0_crc64 cX0_crc64 7 (some .long)) := ⟨hk_t105 (List.mem_of_getElem? (i := 156) rfl), rfl⟩
theorem tw_24 : hk_gd (Cond.static yX0_crc64) := ⟨hk_t105 (List.mem_of_getElem? (i := 155) rfl), rfl⟩
theorem tw_25 : hk_gd (Cond.methodLink RX0 25 yX0_crc64) := ⟨hk_t105 (List.mem_of_getElem? (i := 154) rfl), rfl⟩
theorem tw_26 : hk_gd (Cond.code yX0_crc32 cX0_crc32 6 (some .int)) := ⟨hk_t105 (List.mem_of_getElem? (i := 140) rfl), rfl⟩
theorem tw_27 : hk_gd (Cond.initialized RX0) := ⟨hk_t101 (List.mem_of_getElem? (i := 7) rfl), rfl⟩
theorem tw_28 : hk_gd (Cond.static yX0_crc32) := ⟨hk_t105 (List.mem_of_getElem? (i := 139) rfl), rfl⟩
theorem tw_29 : hk_gd (Cond.methodLink RX0 21 yX0_crc32) := ⟨hk_t105 (List.mem_of_getElem? (i := 153) rfl), rfl⟩
theorem tw_30 : hk_gd (Cond.fieldLink RX0 9 "LzmaChains$Checks" "words" "[I") := ⟨hk_t101 (List.mem_of_getElem? (i := 211) rfl), rfl⟩
theorem tw_31 : hk_gd (Cond.code yJ7_rangeCheck_23922 cJ7_rangeCheck_23922 3 none) := ⟨hk_t103 (List.mem_of_getElem? (i := 78) rfl), rfl⟩
theorem tw_32 : hk_gd (Cond.initialized RJ7) := ⟨hk_t101 (List.mem_of_getElem? (i := 15) rfl), rfl⟩
theorem tw_33 : hk_gd (Cond.static yJ7_rangeCheck_23922) := ⟨hk_t103 (List.mem_of_getElem? (i := 77) rfl), rfl⟩
theorem tw_34 : hk_gd (Cond.methodLink RJ7 13 yJ7_rangeCheck_23922) := ⟨hk_t103 (List.mem_of_getElem? (i := 76) rfl), rfl⟩
theorem tw_35 : hk_gd (Cond.constant RJ6 264 65536) := ⟨hk_t104 (List.mem_of_getElem? (i := 185) rfl), rfl⟩
theorem tw_36 : hk_gd (Cond.code yJ6_numberOfLeadingZeros_0f7a4 cJ6_numberOfLeadingZeros_0f7a4 2 (some .int)) := ⟨hk_t104 (List.mem_of_getElem? (i := 184) rfl), rfl⟩
theorem tw_37 : hk_gd (Cond.initialized RJ6) := ⟨hk_t101 (List.mem_of_getElem? (i := 29) rfl), rfl⟩
theorem tw_38 : hk_gd (Cond.static yJ6_numberOfLeadingZeros_0f7a4) := ⟨hk_t104 (List.mem_of_getElem? (i := 183) rfl), rfl⟩
theorem tw_39 : hk_gd (Cond.methodLink RJ13 308 yJ6_numberOfLeadingZeros_0f7a4) := ⟨hk_t105 (List.mem_of_getElem? (i := 67) rfl), rfl⟩
theorem tw_40 : hk_gd (Cond.instanceMethod yX0_compute) := ⟨hk_t105 (List.mem_of_getElem? (i := 150) rfl), rfl⟩
theorem tw_41 : hk_gd (Cond.methodLink RX11 242 yX0_compute) := ⟨hk_t106 (List.mem_of_getElem? (i := 236) rfl), rfl⟩
theorem tw_42 : hk_gd (Cond.fieldLink RX11 100 "LzmaChains$Row" "size" "I") := ⟨hk_t101 (List.mem_of_getElem? (i := 102) rfl), rfl⟩
theorem tw_43 : hk_gd (Cond.fieldLink RX11 29 "LzmaChains" "output" "LLzmaChains$Row;") := ⟨hk_t102 (List.mem_of_getElem? (i := 211) rfl), rfl⟩
theorem tw_44 : hk_gd (Cond.fieldLink RX11 54 "LzmaChains" "checks" "LLzmaChains$Checks;") := ⟨hk_t102 (List.mem_of_getElem? (i := 213) rfl), rfl⟩
theorem tw_45 : hk_gd (Cond.code yX0_bytesOf cX0_bytesOf 1 (some .int)) := ⟨hk_t105 (List.mem_of_getElem? (i := 209) rfl), rfl⟩
theorem tw_46 : hk_gd (Cond.static yX0_bytesOf) := ⟨hk_t105 (List.mem_of_getElem? (i := 208) rfl), rfl⟩
theorem tw_47 : hk_gd (Cond.methodLink RX11 239 yX0_bytesOf) := ⟨hk_t106 (List.mem_of_getElem? (i := 235) rfl), rfl⟩
theorem tw_48 : hk_gd (Cond.methodLink RX11 235 yX0_isKind) := ⟨hk_t106 (List.mem_of_getElem? (i := 234) rfl), rfl⟩
theorem tw_49 : hk_gd (Cond.code yX4_blockPart cX4_blockPart 3 (some .int)) := ⟨hk_t105 (List.mem_of_getElem? (i := 227) rfl), rfl⟩
theorem tw_50 : hk_gd (Cond.initialized RX4) := ⟨hk_t101 (List.mem_of_getElem? (i := 8) rfl), rfl⟩
theorem tw_51 : hk_gd (Cond.selects RX4 yX4_blockPart yX4_blockPart) := ⟨hk_t105 (List.mem_of_getElem? (i := 226) rfl), rfl⟩
theorem tw_52 : hk_gd (Cond.instanceMethod yX4_blockPart) := ⟨hk_t105 (List.mem_of_getElem? (i := 225) rfl), rfl⟩
theorem tw_53 : hk_gd (Cond.methodLink RX11 232 yX4_blockPart) := ⟨hk_t106 (List.mem_of_getElem? (i := 229) rfl), rfl⟩
theorem tw_54 : hk_gd (Cond.fieldLink RX11 229 "LzmaChains$Ledger" "blocks" "I") := ⟨hk_t101 (List.mem_of_getElem? (i := 234) rfl), rfl⟩
theorem tw_55 : hk_gd (Cond.fieldLink RX11 61 "LzmaChains" "ledger" "LLzmaChains$Ledger;") := ⟨hk_t102 (List.mem_of_getElem? (i := 214) rfl), rfl⟩
theorem tw_56 : hk_gd (Cond.fieldLink RX10 39 "LzmaChains$Settings" "mark" "I") := ⟨hk_t101 (List.mem_of_getElem? (i := 62) rfl), rfl⟩
theorem tw_57 : hk_gd (Cond.fieldLink RX10 30 "LzmaChains$Settings" "check" "I") := ⟨hk_t101 (List.mem_of_getElem? (i := 59) rfl), rfl⟩
theorem tw_58 : hk_gd (Cond.code yX0_isKind cX0_isKind 1 (some .boolean)) := ⟨hk_t103 (List.mem_of_getElem? (i := 16) rfl), rfl⟩
theorem tw_59 : hk_gd (Cond.static yX0_isKind) := ⟨hk_t103 (List.mem_of_getElem? (i := 15) rfl), rfl⟩
theorem tw_60 : hk_gd (Cond.methodLink RX10 33 yX0_isKind) := ⟨hk_t103 (List.mem_of_getElem? (i := 14) rfl), rfl⟩
theorem tw_61 : hk_gd (Cond.fieldLink RX10 27 "LzmaChains$Settings" "block" "I") := ⟨hk_t101 (List.mem_of_getElem? (i := 57) rfl), rfl⟩
theorem tw_62 : hk_gd (Cond.fieldLink RX10 24 "LzmaChains$Settings" "chunk" "I") := ⟨hk_t101 (List.mem_of_getElem? (i := 55) rfl), rfl⟩
theorem tw_63 : hk_gd (Cond.fieldLink RX10 45 "LzmaChains$Settings" "branch" "I") := ⟨hk_t101 (List.mem_of_getElem? (i := 65) rfl), rfl⟩
theorem tw_64 : hk_gd (Cond.fieldLink RX10 42 "LzmaChains$Settings" "delta" "I") := ⟨hk_t101 (List.mem_of_getElem? (i := 63) rfl), rfl⟩
theorem tw_65 : hk_gd (Cond.fieldLink RX10 21 "LzmaChains$Settings" "dictionary" "I") := ⟨hk_t101 (List.mem_of_getElem? (i := 52) rfl), rfl⟩
theorem tw_66 : hk_gd (Cond.fieldLink RX10 9 "LzmaChains$Settings" "lc" "I") := ⟨hk_t101 (List.mem_of_getElem? (i := 46) rfl), rfl⟩
theorem tw_67 : hk_gd (Cond.fieldLink RX10 15 "LzmaChains$Settings" "lp" "I") := ⟨hk_t101 (List.mem_of_getElem? (i := 48) rfl), rfl⟩
theorem tw_68 : hk_gd (Cond.fieldLink RX10 18 "LzmaChains$Settings" "pb" "I") := ⟨hk_t101 (List.mem_of_getElem? (i := 50) rfl), rfl⟩
theorem tw_69 : hk_gd (Cond.code yX0_mixBlock cX0_mixBlock 6 none) := ⟨hk_t105 (List.mem_of_getElem? (i := 172) rfl), rfl⟩
theorem tw_70 : hk_gd (Cond.selects RX0 yX0_mixBlock yX0_mixBlock) := ⟨hk_t105 (List.mem_of_getElem? (i := 171) rfl), rfl⟩
theorem tw_71 : hk_gd (Cond.instanceMethod yX0_mixBlock) := ⟨hk_t105 (List.mem_of_getElem? (i := 170) rfl), rfl⟩
theorem tw_72 : hk_gd (Cond.methodLink RX0 57 yX0_mixBlock) := ⟨hk_t105 (List.mem_of_getElem? (i := 169) rfl), rfl⟩
theorem tw_73 : hk_gd (Cond.code yX0_shaByte cX0_shaByte 4 (some .int)) := ⟨hk_t105 (List.mem_of_getElem? (i := 168) rfl), rfl⟩
theorem tw_74 : hk_gd (Cond.static yX0_shaByte) := ⟨hk_t105 (List.mem_of_getElem? (i := 167) rfl), rfl⟩
theorem tw_75 : hk_gd (Cond.methodLink RX0 53 yX0_shaByte) := ⟨hk_t105 (List.mem_of_getElem? (i := 166) rfl), rfl⟩
theorem tw_76 : hk_gd (Cond.fieldLink RX0 44 "LzmaChains$Checks" "SHA_START" "[I") := ⟨hk_t105 (List.mem_of_getElem? (i := 163) rfl), rfl⟩
theorem tw_77 : hk_gd (Cond.code yX0_mixRound cX0_mixRound 10 none) := ⟨hk_t105 (List.mem_of_getElem? (i := 181) rfl), rfl⟩
theorem tw_78 : hk_gd (Cond.selects RX0 yX0_mixRound yX0_mixRound) := ⟨hk_t105 (List.mem_of_getElem? (i := 180) rfl), rfl⟩
theorem tw_79 : hk_gd (Cond.instanceMethod yX0_mixRound) := ⟨hk_t105 (List.mem_of_getElem? (i := 179) rfl), rfl⟩
theorem tw_80 : hk_gd (Cond.methodLink RX11 110 yX7_begin) := ⟨hk_t103 (List.mem_of_getElem? (i := 54) rfl), rfl⟩
theorem tw_81 : hk_gd (Cond.fieldLink RX11 70 "LzmaChains" "packer" "LLzmaChains$Packer;") := ⟨hk_t102 (List.mem_of_getElem? (i := 215) rfl), rfl⟩
theorem tw_82 : hk_gd (Cond.methodLink RX11 216 yX9_get) := ⟨hk_t106 (List.mem_of_getElem? (i := 212) rfl), rfl⟩
theorem tw_83 : hk_gd (Cond.initialized "java/lang/ArrayIndexOutOfBoundsException") := ⟨hk_t101 (List.mem_of_getElem? (i := 20) rfl), rfl⟩
theorem tw_84 : hk_gd (Cond.classLink RX11 220 "java/lang/ArrayIndexOutOfBoundsException") := ⟨hk_t107 (List.mem_of_getElem? (i := 18) rfl), rfl⟩
theorem tw_85 : hk_gd (Cond.code yX9_put cX9_put 2 none) := ⟨hk_t103 (List.mem_of_getElem? (i := 36) rfl), rfl⟩
theorem tw_86 : hk_gd (Cond.selects RX9 yX9_put yX9_put) := ⟨hk_t103 (List.mem_of_getElem? (i := 35) rfl), rfl⟩
theorem tw_87 : hk_gd (Cond.instanceMethod yX9_put) := ⟨hk_t103 (List.mem_of_getElem? (i := 34) rfl), rfl⟩
theorem tw_88 : hk_gd (Cond.methodLink RX11 107 yX9_put) := ⟨hk_t103 (List.mem_of_getElem? (i := 49) rfl), rfl⟩
theorem tw_89 : hk_gd (Cond.code yX4_clear cX4_clear 1 none) := ⟨hk_t103 (List.mem_of_getElem? (i := 61) rfl), rfl⟩
theorem tw_90 : hk_gd (Cond.selects RX4 yX4_clear yX4_clear) := ⟨hk_t103 (List.mem_of_getElem? (i := 60) rfl), rfl⟩
theorem tw_91 : hk_gd (Cond.instanceMethod yX4_clear) := ⟨hk_t103 (List.mem_of_getElem? (i := 59) rfl), rfl⟩
theorem tw_92 : hk_gd (Cond.methodLink RX11 157 yX4_clear) := ⟨hk_t105 (List.mem_of_getElem? (i := 237) rfl), rfl⟩
theorem tw_93 : hk_gd (Cond.fieldLink RX11 86 "LzmaChains" "lastState" "I") := ⟨hk_t102 (List.mem_of_getElem? (i := 218) rfl), rfl⟩
theorem tw_94 : hk_gd (Cond.fieldLink RX11 154 "LzmaChains$Model" "state" "I") := ⟨hk_t101 (List.mem_of_getElem? (i := 188) rfl), rfl⟩
theorem tw_95 : hk_gd (Cond.fieldLink RX11 47 "LzmaChains" "model" "LLzmaChains$Model;") := ⟨hk_t102 (List.mem_of_getElem? (i := 212) rfl), rfl⟩
theorem tw_96 : hk_gd (Cond.fieldLink RX11 213 "LzmaChains$Reader" "at" "I") := ⟨hk_t101 (List.mem_of_getElem? (i := 124) rfl), rfl⟩
theorem tw_97 : hk_gd (Cond.code yX4_bytesOfBlocks cX4_bytesOfBlocks 3 (some .int)) := ⟨hk_t106 (List.mem_of_getElem? (i := 203) rfl), rfl⟩
theorem tw_98 : hk_gd (Cond.selects RX4 yX4_bytesOfBlocks yX4_bytesOfBlocks) := ⟨hk_t106 (List.mem_of_getElem? (i := 202) rfl), rfl⟩
theorem tw_99 : hk_gd (Cond.instanceMethod yX4_bytesOfBlocks) := ⟨hk_t106 (List.mem_of_getElem? (i := 201) rfl), rfl⟩
theorem tw_100 : hk_gd (Cond.methodLink RX11 210 yX4_bytesOfBlocks) := ⟨hk_t106 (List.mem_of_getElem? (i := 200) rfl), rfl⟩
theorem tw_101 : hk_gd (Cond.fieldLink RX11 9 "LzmaChains" "form" "I") := ⟨hk_t102 (List.mem_of_getElem? (i := 208) rfl), rfl⟩
theorem tw_102 : hk_gd (Cond.fieldLink RX11 83 "LzmaChains" "broken" "I") := ⟨hk_t102 (List.mem_of_getElem? (i := 217) rfl), rfl⟩
theorem tw_103 : hk_gd (Cond.fieldLink RX11 209 "LzmaChains$Reader" "broken" "I") := ⟨hk_t101 (List.mem_of_getElem? (i := 128) rfl), rfl⟩
theorem tw_104 : hk_gd (Cond.fieldLink RX11 205 "LzmaChains$Opener" "source" "LLzmaChains$Reader;") := ⟨hk_t102 (List.mem_of_getElem? (i := 159) rfl), rfl⟩
theorem tw_105 : hk_gd (Cond.fieldLink RX11 79 "LzmaChains" "opener" "LLzmaChains$Opener;") := ⟨hk_t102 (List.mem_of_getElem? (i := 216) rfl), rfl⟩
theorem tw_106 : hk_gd (Cond.code yX10_setFilter cX10_setFilter 3 (some .boolean)) := ⟨hk_t103 (List.mem_of_getElem? (i := 24) rfl), rfl⟩
theorem tw_107 : hk_gd (Cond.initialized RX10) := ⟨hk_t101 (List.mem_of_getElem? (i := 2) rfl), rfl⟩
theorem tw_108 : hk_gd (Cond.selects RX10 yX10_setFilter yX10_setFilter) := ⟨hk_t103 (List.mem_of_getElem? (i := 23) rfl), rfl⟩
theorem tw_109 : hk_gd (Cond.instanceMethod yX10_setFilter) := ⟨hk_t103 (List.mem_of_getElem? (i := 22) rfl), rfl⟩
theorem tw_110 : hk_gd (Cond.methodLink RX11 97 yX10_setFilter) := ⟨hk_t103 (List.mem_of_getElem? (i := 21) rfl), rfl⟩
theorem tw_111 : hk_gd (Cond.fieldLink RX11 16 "LzmaChains" "settings" "LLzmaChains$Settings;") := ⟨hk_t102 (List.mem_of_getElem? (i := 209) rfl), rfl⟩
theorem tw_112 : hk_gd (Cond.code yX9_putHigh cX9_putHigh 5 none) := ⟨hk_t103 (List.mem_of_getElem? (i := 32) rfl), rfl⟩
theorem tw_113 : hk_gd (Cond.selects RX9 yX9_putHigh yX9_putHigh) := ⟨hk_t103 (List.mem_of_getElem? (i := 31) rfl), rfl⟩
theorem tw_114 : hk_gd (Cond.instanceMethod yX9_putHigh) := ⟨hk_t103 (List.mem_of_getElem? (i := 30) rfl), rfl⟩
theorem tw_115 : hk_gd (Cond.methodLink RX11 103 yX9_putHigh) := ⟨hk_t103 (List.mem_of_getElem? (i := 29) rfl), rfl⟩
theorem tw_116 : hk_gd (Cond.fieldLink RX11 25 "LzmaChains" "input" "LLzmaChains$Row;") := ⟨hk_t102 (List.mem_of_getElem? (i := 210) rfl), rfl⟩
theorem tw_117 : hk_gd (Cond.fieldLink RX11 246 "LzmaChains$Checks" "words" "[I") := ⟨hk_t101 (List.mem_of_getElem? (i := 212) rfl), rfl⟩
theorem tw_118 : hk_gd (Cond.code yX0_compute cX0_compute 7 none) := ⟨hk_t105 (List.mem_of_getElem? (i := 152) rfl), rfl⟩
theorem tw_119 : hk_gd (Cond.selects RX0 yX0_compute yX0_compute) := ⟨hk_t105 (List.mem_of_getElem? (i := 151) rfl), rfl⟩
theorem tw_120 : hk_gd (Cond.code yX7_writeIndex cX7_writeIndex 1 none) := ⟨hk_t105 (List.mem_of_getElem? (i := 217) rfl), rfl⟩
theorem tw_121 : hk_gd (Cond.selects RX7 yX7_writeIndex yX7_writeIndex) := ⟨hk_t105 (List.mem_of_getElem? (i := 216) rfl), rfl⟩
theorem tw_122 : hk_gd (Cond.instanceMethod yX7_writeIndex) := ⟨hk_t105 (List.mem_of_getElem? (i := 215) rfl), rfl⟩
theorem tw_123 : hk_gd (Cond.methodLink RX11 144 yX7_writeIndex) := ⟨hk_t105 (List.mem_of_getElem? (i := 214) rfl), rfl⟩
theorem tw_124 : hk_gd (Cond.code yX7_writeTail cX7_writeTail 4 none) := ⟨hk_t105 (List.mem_of_getElem? (i := 206) rfl), rfl⟩
theorem tw_125 : hk_gd (Cond.selects RX7 yX7_writeTail yX7_writeTail) := ⟨hk_t105 (List.mem_of_getElem? (i := 205) rfl), rfl⟩
theorem tw_126 : hk_gd (Cond.instanceMethod yX7_writeTail) := ⟨hk_t105 (List.mem_of_getElem? (i := 204) rfl), rfl⟩
theorem tw_127 : hk_gd (Cond.methodLink RX11 141 yX7_writeTail) := ⟨hk_t105 (List.mem_of_getElem? (i := 203) rfl), rfl⟩
theorem tw_128 : hk_gd (Cond.code yX7_writeHead cX7_writeHead 5 none) := ⟨hk_t105 (List.mem_of_getElem? (i := 148) rfl), rfl⟩
theorem tw_129 : hk_gd (Cond.selects RX7 yX7_writeHead yX7_writeHead) := ⟨hk_t105 (List.mem_of_getElem? (i := 147) rfl), rfl⟩
theorem tw_130 : hk_gd (Cond.instanceMethod yX7_writeHead) := ⟨hk_t105 (List.mem_of_getElem? (i := 146) rfl), rfl⟩
theorem tw_131 : hk_gd (Cond.methodLink RX11 138 yX7_writeHead) := ⟨hk_t105 (List.mem_of_getElem? (i := 145) rfl), rfl⟩
theorem tw_132 : hk_gd (Cond.code Lib.Math.min.name Lib.Math.min.code 2 (some .int)) := ⟨hk_t103 (List.mem_of_getElem? (i := 72) rfl), rfl⟩
theorem tw_133 : hk_gd (Cond.static Lib.Math.min.name) := ⟨hk_t103 (List.mem_of_getElem? (i := 71) rfl), rfl⟩
theorem tw_134 : hk_gd (Cond.methodLink RX11 135 Lib.Math.min.name) := ⟨hk_t105 (List.mem_of_getElem? (i := 144) rfl), rfl⟩
theorem tw_135 : hk_gd (Cond.code Lib.Math.max.name Lib.Math.max.code 2 (some .int)) := ⟨hk_t103 (List.mem_of_getElem? (i := 181) rfl), rfl⟩
theorem tw_136 : hk_gd (Cond.initialized "java/lang/Math") := ⟨hk_t101 (List.mem_of_getElem? (i := 14) rfl), rfl⟩
theorem tw_137 : hk_gd (Cond.static Lib.Math.max.name) := ⟨hk_t103 (List.mem_of_getElem? (i := 180) rfl), rfl⟩
theorem tw_138 : hk_gd (Cond.methodLink RX11 129 Lib.Math.max.name) := ⟨hk_t105 (List.mem_of_getElem? (i := 143) rfl), rfl⟩
theorem tw_139 : hk_gd (Cond.fieldLink RX11 126 "LzmaChains$Settings" "block" "I") := ⟨hk_t101 (List.mem_of_getElem? (i := 58) rfl), rfl⟩
theorem tw_140 : hk_gd (Cond.code yX7_writeStart cX7_writeStart 1 none) := ⟨hk_t105 (List.mem_of_getElem? (i := 133) rfl), rfl⟩
theorem tw_141 : hk_gd (Cond.selects RX7 yX7_writeStart yX7_writeStart) := ⟨hk_t105 (List.mem_of_getElem? (i := 132) rfl), rfl⟩
theorem tw_142 : hk_gd (Cond.instanceMethod yX7_writeStart) := ⟨hk_t105 (List.mem_of_getElem? (i := 131) rfl), rfl⟩
theorem tw_143 : hk_gd (Cond.methodLink RX11 123 yX7_writeStart) := ⟨hk_t105 (List.mem_of_getElem? (i := 130) rfl), rfl⟩
theorem tw_144 : hk_gd (Cond.code yX7_noteChunks cX7_noteChunks 1 none) := ⟨hk_t105 (List.mem_of_getElem? (i := 125) rfl), rfl⟩
theorem tw_145 : hk_gd (Cond.selects RX7 yX7_noteChunks yX7_noteChunks) := ⟨hk_t105 (List.mem_of_getElem? (i := 124) rfl), rfl⟩
theorem tw_146 : hk_gd (Cond.instanceMethod yX7_noteChunks) := ⟨hk_t105 (List.mem_of_getElem? (i := 123) rfl), rfl⟩
theorem tw_147 : hk_gd (Cond.methodLink RX11 120 yX7_noteChunks) := ⟨hk_t105 (List.mem_of_getElem? (i := 122) rfl), rfl⟩
theorem tw_148 : hk_gd (Cond.code yX7_writeChunks cX7_writeChunks 9 none) := ⟨hk_t105 (List.mem_of_getElem? (i := 106) rfl), rfl⟩
theorem tw_149 : hk_gd (Cond.selects RX7 yX7_writeChunks yX7_writeChunks) := ⟨hk_t105 (List.mem_of_getElem? (i := 105) rfl), rfl⟩
theorem tw_150 : hk_gd (Cond.instanceMethod yX7_writeChunks) := ⟨hk_t105 (List.mem_of_getElem? (i := 104) rfl), rfl⟩
theorem tw_151 : hk_gd (Cond.methodLink RX11 116 yX7_writeChunks) := ⟨hk_t105 (List.mem_of_getElem? (i := 103) rfl), rfl⟩
theorem tw_152 : hk_gd (Cond.code yX7_writeAlone cX7_writeAlone 2 none) := ⟨hk_t104 (List.mem_of_getElem? (i := 151) rfl), rfl⟩
theorem tw_153 : hk_gd (Cond.selects RX7 yX7_writeAlone yX7_writeAlone) := ⟨hk_t104 (List.mem_of_getElem? (i := 150) rfl), rfl⟩
theorem tw_154 : hk_gd (Cond.instanceMethod yX7_writeAlone) := ⟨hk_t104 (List.mem_of_getElem? (i := 149) rfl), rfl⟩
theorem tw_155 : hk_gd (Cond.methodLink RX11 113 yX7_writeAlone) := ⟨hk_t104 (List.mem_of_getElem? (i := 148) rfl), rfl⟩
theorem tw_156 : hk_gd (Cond.code yX7_begin cX7_begin 2 none) := ⟨hk_t103 (List.mem_of_getElem? (i := 57) rfl), rfl⟩
theorem tw_157 : hk_gd (Cond.initialized RX7) := ⟨hk_t101 (List.mem_of_getElem? (i := 9) rfl), rfl⟩
theorem tw_158 : hk_gd (Cond.selects RX7 yX7_begin yX7_begin) := ⟨hk_t103 (List.mem_of_getElem? (i := 56) rfl), rfl⟩
theorem tw_159 : hk_gd (Cond.instanceMethod yX7_begin) := ⟨hk_t103 (List.mem_of_getElem? (i := 55) rfl), rfl⟩
theorem tw_160 : hk_gd (Cond.selects RX1 yX1_chooseCheapest yX1_chooseCheapest) := ⟨hk_t104 (List.mem_of_getElem? (i := 201) rfl), rfl⟩
theorem tw_161 : hk_gd (Cond.instanceMethod yX1_chooseCheapest) := ⟨hk_t104 (List.mem_of_getElem? (i := 200) rfl), rfl⟩
theorem tw_162 : hk_gd (Cond.methodLink RX1 79 yX1_chooseCheapest) := ⟨hk_t104 (List.mem_of_getElem? (i := 199) rfl), rfl⟩
theorem tw_163 : hk_gd (Cond.code yX1_take cX1_take 4 none) := ⟨hk_t104 (List.mem_of_getElem? (i := 198) rfl), rfl⟩
theorem tw_164 : hk_gd (Cond.initialized RX1) := ⟨hk_t101 (List.mem_of_getElem? (i := 10) rfl), rfl⟩
theorem tw_165 : hk_gd (Cond.selects RX1 yX1_take yX1_take) := ⟨hk_t104 (List.mem_of_getElem? (i := 197) rfl), rfl⟩
theorem tw_166 : hk_gd (Cond.instanceMethod yX1_take) := ⟨hk_t104 (List.mem_of_getElem? (i := 196) rfl), rfl⟩
theorem tw_167 : hk_gd (Cond.methodLink RX1 75 yX1_take) := ⟨hk_t104 (List.mem_of_getElem? (i := 195) rfl), rfl⟩
theorem tw_168 : hk_gd (Cond.fieldLink RX1 48 "LzmaChains$Chooser" "to" "I") := ⟨hk_t102 (List.mem_of_getElem? (i := 25) rfl), rfl⟩
theorem tw_169 : hk_gd (Cond.fieldLink RX1 39 "LzmaChains$Chooser" "from" "I") := ⟨hk_t102 (List.mem_of_getElem? (i := 24) rfl), rfl⟩
theorem tw_170 : hk_gd (Cond.code yX9_branch cX9_branch 8 none) := ⟨hk_t105 (List.mem_of_getElem? (i := 198) rfl), rfl⟩
theorem tw_171 : hk_gd (Cond.selects RX9 yX9_branch yX9_branch) := ⟨hk_t105 (List.mem_of_getElem? (i := 197) rfl), rfl⟩
theorem tw_172 : hk_gd (Cond.instanceMethod yX9_branch) := ⟨hk_t105 (List.mem_of_getElem? (i := 196) rfl), rfl⟩
theorem tw_173 : hk_gd (Cond.methodLink RX11 254 yX9_branch) := ⟨hk_t107 (List.mem_of_getElem? (i := 2) rfl), rfl⟩
theorem tw_174 : hk_gd (Cond.code yX9_delta cX9_delta 9 none) := ⟨hk_t105 (List.mem_of_getElem? (i := 185) rfl), rfl⟩
theorem tw_175 : hk_gd (Cond.selects RX9 yX9_delta yX9_delta) := ⟨hk_t105 (List.mem_of_getElem? (i := 184) rfl), rfl⟩
theorem tw_176 : hk_gd (Cond.instanceMethod yX9_delta) := ⟨hk_t105 (List.mem_of_getElem? (i := 183) rfl), rfl⟩
theorem tw_177 : hk_gd (Cond.methodLink RX11 250 yX9_delta) := ⟨hk_t107 (List.mem_of_getElem? (i := 1) rfl), rfl⟩
theorem tw_178 : hk_gd (Cond.code yX4_stepPart cX4_stepPart 3 (some .int)) := ⟨hk_t106 (List.mem_of_getElem? (i := 220) rfl), rfl⟩
theorem tw_179 : hk_gd (Cond.selects RX4 yX4_stepPart yX4_stepPart) := ⟨hk_t106 (List.mem_of_getElem? (i := 219) rfl), rfl⟩
theorem tw_180 : hk_gd (Cond.instanceMethod yX4_stepPart) := ⟨hk_t106 (List.mem_of_getElem? (i := 218) rfl), rfl⟩
theorem tw_181 : hk_gd (Cond.methodLink RX11 226 yX4_stepPart) := ⟨hk_t106 (List.mem_of_getElem? (i := 217) rfl), rfl⟩
theorem tw_182 : hk_gd (Cond.fieldLink RX11 223 "LzmaChains$Ledger" "steps" "I") := ⟨hk_t101 (List.mem_of_getElem? (i := 232) rfl), rfl⟩
theorem tw_183 : hk_gd (Cond.code yX10_setShape cX10_setShape 3 (some .boolean)) := ⟨hk_t103 (List.mem_of_getElem? (i := 13) rfl), rfl⟩
theorem tw_184 : hk_gd (Cond.selects RX10 yX10_setShape yX10_setShape) := ⟨hk_t103 (List.mem_of_getElem? (i := 12) rfl), rfl⟩
theorem tw_185 : hk_gd (Cond.instanceMethod yX10_setShape) := ⟨hk_t103 (List.mem_of_getElem? (i := 11) rfl), rfl⟩
theorem tw_186 : hk_gd (Cond.methodLink RX11 93 yX10_setShape) := ⟨hk_t103 (List.mem_of_getElem? (i := 10) rfl), rfl⟩
theorem tw_187 : hk_gd (Cond.code yX10_setCoding cX10_setCoding 4 (some .boolean)) := ⟨hk_t103 (List.mem_of_getElem? (i := 9) rfl), rfl⟩
theorem tw_188 : hk_gd (Cond.selects RX10 yX10_setCoding yX10_setCoding) := ⟨hk_t103 (List.mem_of_getElem? (i := 8) rfl), rfl⟩
theorem tw_189 : hk_gd (Cond.instanceMethod yX10_setCoding) := ⟨hk_t103 (List.mem_of_getElem? (i := 7) rfl), rfl⟩
theorem tw_190 : hk_gd (Cond.methodLink RX11 89 yX10_setCoding) := ⟨hk_t103 (List.mem_of_getElem? (i := 6) rfl), rfl⟩
theorem tw_191 : hk_gd (Cond.code yX11_finishPacking cX11_finishPacking 1 (some .int)) := ⟨hk_t105 (List.mem_of_getElem? (i := 236) rfl), rfl⟩
theorem tw_192 : hk_gd (Cond.initialized RX11) := ⟨hk_t101 (List.mem_of_getElem? (i := 1) rfl), rfl⟩
theorem tw_193 : hk_gd (Cond.selects RX11 yX11_finishPacking yX11_finishPacking) := ⟨hk_tp (q := (yX11_finishPacking, _)) (hk_p1 (List.mem_of_getElem? (i := 1) rfl)), rfl⟩
theorem tw_194 : hk_gd (Cond.instanceMethod yX11_finishPacking) := ⟨hk_t105 (List.mem_of_getElem? (i := 235) rfl), rfl⟩
theorem tw_195 : hk_gd (Cond.methodLink RX11 150 yX11_finishPacking) := ⟨hk_t105 (List.mem_of_getElem? (i := 233) rfl), rfl⟩
theorem tw_196 : hk_gd (Cond.code yX7_writeFoot cX7_writeFoot 4 none) := ⟨hk_t105 (List.mem_of_getElem? (i := 232) rfl), rfl⟩
theorem tw_197 : hk_gd (Cond.selects RX7 yX7_writeFoot yX7_writeFoot) := ⟨hk_t105 (List.mem_of_getElem? (i := 231) rfl), rfl⟩
theorem tw_198 : hk_gd (Cond.instanceMethod yX7_writeFoot) := ⟨hk_t105 (List.mem_of_getElem? (i := 230) rfl), rfl⟩
theorem tw_199 : hk_gd (Cond.methodLink RX11 147 yX7_writeFoot) := ⟨hk_t105 (List.mem_of_getElem? (i := 229) rfl), rfl⟩
theorem tw_200 : hk_gd (Cond.instanceMethod yX1_weigh) := ⟨hk_t104 (List.mem_of_getElem? (i := 179) rfl), rfl⟩
theorem tw_201 : hk_gd (Cond.methodLink RX1 55 yX1_weigh) := ⟨hk_t104 (List.mem_of_getElem? (i := 178) rfl), rfl⟩
theorem tw_202 : hk_gd (Cond.code yX1_findLongest cX1_findLongest 9 none) := ⟨hk_t104 (List.mem_of_getElem? (i := 174) rfl), rfl⟩
theorem tw_203 : hk_gd (Cond.selects RX1 yX1_findLongest yX1_findLongest) := ⟨hk_t104 (List.mem_of_getElem? (i := 173) rfl), rfl⟩
theorem tw_204 : hk_gd (Cond.instanceMethod yX1_findLongest) := ⟨hk_t104 (List.mem_of_getElem? (i := 172) rfl), rfl⟩
theorem tw_205 : hk_gd (Cond.methodLink RX1 51 yX1_findLongest) := ⟨hk_t104 (List.mem_of_getElem? (i := 171) rfl), rfl⟩
theorem tw_206 : hk_gd (Cond.fieldLink RX1 35 "LzmaChains$Chooser" "base" "I") := ⟨hk_t102 (List.mem_of_getElem? (i := 23) rfl), rfl⟩
theorem tw_207 : hk_gd (Cond.methodLink RX1 42 Lib.Math.min.name) := ⟨hk_t104 (List.mem_of_getElem? (i := 170) rfl), rfl⟩
theorem tw_208 : hk_gd (Cond.code yJ7_fill_53178 cJ7_fill_53178 4 none) := ⟨hk_t104 (List.mem_of_getElem? (i := 177) rfl), rfl⟩
theorem tw_209 : hk_gd (Cond.static yJ7_fill_53178) := ⟨hk_t104 (List.mem_of_getElem? (i := 176) rfl), rfl⟩
theorem tw_210 : hk_gd (Cond.methodLink RX1 63 yJ7_fill_53178) := ⟨hk_t104 (List.mem_of_getElem? (i := 175) rfl), rfl⟩
theorem tw_211 : hk_gd (Cond.fieldLink RX1 26 "LzmaChains$Chooser" "runs" "[I") := ⟨hk_t102 (List.mem_of_getElem? (i := 20) rfl), rfl⟩
theorem tw_212 : hk_gd (Cond.fieldLink RX1 58 "LzmaChains$Row" "data" "[I") := ⟨hk_t101 (List.mem_of_getElem? (i := 95) rfl), rfl⟩
theorem tw_213 : hk_gd (Cond.fieldLink RX1 9 "LzmaChains$Chooser" "row" "LLzmaChains$Row;") := ⟨hk_t102 (List.mem_of_getElem? (i := 16) rfl), rfl⟩
theorem tw_214 : hk_gd (Cond.fieldLink RX1 94 "LzmaChains$Chooser" "far" "I") := ⟨hk_t102 (List.mem_of_getElem? (i := 31) rfl), rfl⟩
theorem tw_215 : hk_gd (Cond.fieldLink RX1 91 "LzmaChains$Chooser" "length" "I") := ⟨hk_t102 (List.mem_of_getElem? (i := 29) rfl), rfl⟩
theorem tw_216 : hk_gd (Cond.fieldLink RX1 19 "LzmaChains$Chooser" "longest" "[I") := ⟨hk_t102 (List.mem_of_getElem? (i := 18) rfl), rfl⟩
theorem tw_217 : hk_gd (Cond.fieldLink RX1 88 "LzmaChains$Chooser" "kind" "I") := ⟨hk_t102 (List.mem_of_getElem? (i := 27) rfl), rfl⟩
theorem tw_218 : hk_gd (Cond.fieldLink RX1 23 "LzmaChains$Chooser" "nearest" "[I") := ⟨hk_t102 (List.mem_of_getElem? (i := 19) rfl), rfl⟩
theorem tw_219 : hk_gd (Cond.code yX1_repeat cX1_repeat 6 (some .int)) := ⟨hk_t104 (List.mem_of_getElem? (i := 210) rfl), rfl⟩
theorem tw_220 : hk_gd (Cond.selects RX1 yX1_repeat yX1_repeat) := ⟨hk_t104 (List.mem_of_getElem? (i := 209) rfl), rfl⟩
theorem tw_221 : hk_gd (Cond.instanceMethod yX1_repeat) := ⟨hk_t104 (List.mem_of_getElem? (i := 208) rfl), rfl⟩
theorem tw_222 : hk_gd (Cond.methodLink RX1 103 yX1_repeat) := ⟨hk_t104 (List.mem_of_getElem? (i := 207) rfl), rfl⟩
theorem tw_223 : hk_gd (Cond.code yX5_back cX5_back 2 (some .long)) := ⟨hk_t104 (List.mem_of_getElem? (i := 206) rfl), rfl⟩
theorem tw_224 : hk_gd (Cond.initialized RX5) := ⟨hk_t101 (List.mem_of_getElem? (i := 5) rfl), rfl⟩
theorem tw_225 : hk_gd (Cond.selects RX5 yX5_back yX5_back) := ⟨hk_t104 (List.mem_of_getElem? (i := 205) rfl), rfl⟩
theorem tw_226 : hk_gd (Cond.instanceMethod yX5_back) := ⟨hk_t104 (List.mem_of_getElem? (i := 204) rfl), rfl⟩
theorem tw_227 : hk_gd (Cond.methodLink RX1 97 yX5_back) := ⟨hk_t104 (List.mem_of_getElem? (i := 203) rfl), rfl⟩
theorem tw_228 : hk_gd (Cond.fieldLink RX1 107 "LzmaChains$Model" "state" "I") := ⟨hk_t101 (List.mem_of_getElem? (i := 190) rfl), rfl⟩
theorem tw_229 : hk_gd (Cond.fieldLink RX1 15 "LzmaChains$Chooser" "model" "LLzmaChains$Model;") := ⟨hk_t102 (List.mem_of_getElem? (i := 17) rfl), rfl⟩
theorem tw_230 : hk_gd (Cond.fieldLink RX1 32 "LzmaChains$Chooser" "strides" "[I") := ⟨hk_t102 (List.mem_of_getElem? (i := 22) rfl), rfl⟩
theorem tw_231 : hk_gd (Cond.code yX1_chooseGreedily cX1_chooseGreedily 6 none) := ⟨hk_t104 (List.mem_of_getElem? (i := 222) rfl), rfl⟩
theorem tw_232 : hk_gd (Cond.selects RX1 yX1_chooseGreedily yX1_chooseGreedily) := ⟨hk_t104 (List.mem_of_getElem? (i := 221) rfl), rfl⟩
theorem tw_233 : hk_gd (Cond.instanceMethod yX1_chooseGreedily) := ⟨hk_t104 (List.mem_of_getElem? (i := 220) rfl), rfl⟩
theorem tw_234 : hk_gd (Cond.methodLink RX1 85 yX1_chooseGreedily) := ⟨hk_t104 (List.mem_of_getElem? (i := 219) rfl), rfl⟩
theorem tw_235 : hk_gd (Cond.code yX1_chooseLazily cX1_chooseLazily 5 none) := ⟨hk_t104 (List.mem_of_getElem? (i := 218) rfl), rfl⟩
theorem tw_236 : hk_gd (Cond.selects RX1 yX1_chooseLazily yX1_chooseLazily) := ⟨hk_t104 (List.mem_of_getElem? (i := 217) rfl), rfl⟩
theorem tw_237 : hk_gd (Cond.instanceMethod yX1_chooseLazily) := ⟨hk_t104 (List.mem_of_getElem? (i := 216) rfl), rfl⟩
theorem tw_238 : hk_gd (Cond.methodLink RX1 82 yX1_chooseLazily) := ⟨hk_t104 (List.mem_of_getElem? (i := 215) rfl), rfl⟩
theorem tw_239 : hk_gd (Cond.code yX1_chooseCheapest cX1_chooseCheapest 5 none) := ⟨hk_t104 (List.mem_of_getElem? (i := 202) rfl), rfl⟩
theorem tw_240 : hk_gd (Cond.selects RX2 yX2_shift yX2_shift) := ⟨hk_t105 (List.mem_of_getElem? (i := 35) rfl), rfl⟩
theorem tw_241 : hk_gd (Cond.instanceMethod yX2_shift) := ⟨hk_t105 (List.mem_of_getElem? (i := 34) rfl), rfl⟩
theorem tw_242 : hk_gd (Cond.methodLink RX2 74 yX2_shift) := ⟨hk_t105 (List.mem_of_getElem? (i := 33) rfl), rfl⟩
theorem tw_243 : hk_gd (Cond.code Lib.MathLoose.min_long.x Lib.MathLoose.min_long.code 4 (some .long)) := ⟨hk_t105 (List.mem_of_getElem? (i := 32) rfl), rfl⟩
theorem tw_244 : hk_gd (Cond.static Lib.MathLoose.min_long.x) := ⟨hk_t105 (List.mem_of_getElem? (i := 31) rfl), rfl⟩
theorem tw_245 : hk_gd (Cond.methodLink RX2 68 Lib.MathLoose.min_long.x) := ⟨hk_t105 (List.mem_of_getElem? (i := 30) rfl), rfl⟩
theorem tw_246 : hk_gd (Cond.constantLong RX2 66 1099511627776) := ⟨hk_t105 (List.mem_of_getElem? (i := 29) rfl), rfl⟩
theorem tw_247 : hk_gd (Cond.constantLong RX2 64 16777216) := ⟨hk_t105 (List.mem_of_getElem? (i := 3) rfl), rfl⟩
theorem tw_248 : hk_gd (Cond.code yX2_skip cX2_skip 3 none) := ⟨hk_t105 (List.mem_of_getElem? (i := 2) rfl), rfl⟩
theorem tw_249 : hk_gd (Cond.initialized RX2) := ⟨hk_t101 (List.mem_of_getElem? (i := 6) rfl), rfl⟩
theorem tw_250 : hk_gd (Cond.selects RX2 yX2_skip yX2_skip) := ⟨hk_t105 (List.mem_of_getElem? (i := 1) rfl), rfl⟩
theorem tw_251 : hk_gd (Cond.instanceMethod yX2_skip) := ⟨hk_t105 (List.mem_of_getElem? (i := 0) rfl), rfl⟩
theorem tw_252 : hk_gd (Cond.methodLink RX2 60 yX2_skip) := ⟨hk_t104 (List.mem_of_getElem? (i := 239) rfl), rfl⟩
theorem tw_253 : hk_gd (Cond.fieldLink RX2 19 "LzmaChains$Coder" "chances" "[I") := ⟨hk_t101 (List.mem_of_getElem? (i := 146) rfl), rfl⟩
theorem tw_254 : hk_gd (Cond.fieldLink RX2 40 "LzmaChains$Coder" "waiting" "I") := ⟨hk_t101 (List.mem_of_getElem? (i := 156) rfl), rfl⟩
theorem tw_255 : hk_gd (Cond.fieldLink RX2 36 "LzmaChains$Coder" "held" "I") := ⟨hk_t101 (List.mem_of_getElem? (i := 155) rfl), rfl⟩
theorem tw_256 : hk_gd (Cond.fieldLink RX2 27 "LzmaChains$Coder" "low" "J") := ⟨hk_t101 (List.mem_of_getElem? (i := 151) rfl), rfl⟩
theorem tw_257 : hk_gd (Cond.fieldLink RX2 57 "LzmaChains$Coder" "code" "J") := ⟨hk_t101 (List.mem_of_getElem? (i := 153) rfl), rfl⟩
theorem tw_258 : hk_gd (Cond.code yX8_high cX8_high 4 (some .int)) := ⟨hk_t106 (List.mem_of_getElem? (i := 50) rfl), rfl⟩
theorem tw_259 : hk_gd (Cond.selects RX8 yX8_high yX8_high) := ⟨hk_t106 (List.mem_of_getElem? (i := 49) rfl), rfl⟩
theorem tw_260 : hk_gd (Cond.instanceMethod yX8_high) := ⟨hk_t106 (List.mem_of_getElem? (i := 48) rfl), rfl⟩
theorem tw_261 : hk_gd (Cond.methodLink RX2 53 yX8_high) := ⟨hk_t106 (List.mem_of_getElem? (i := 47) rfl), rfl⟩
theorem tw_262 : hk_gd (Cond.code yX8_fail cX8_fail 2 none) := ⟨hk_t106 (List.mem_of_getElem? (i := 26) rfl), rfl⟩
theorem tw_263 : hk_gd (Cond.selects RX8 yX8_fail yX8_fail) := ⟨hk_t106 (List.mem_of_getElem? (i := 25) rfl), rfl⟩
theorem tw_264 : hk_gd (Cond.instanceMethod yX8_fail) := ⟨hk_t106 (List.mem_of_getElem? (i := 24) rfl), rfl⟩
theorem tw_265 : hk_gd (Cond.methodLink RX2 49 yX8_fail) := ⟨hk_t106 (List.mem_of_getElem? (i := 46) rfl), rfl⟩
theorem tw_266 : hk_gd (Cond.code yX8_next cX8_next 2 (some .int)) := ⟨hk_t105 (List.mem_of_getElem? (i := 7) rfl), rfl⟩
theorem tw_267 : hk_gd (Cond.initialized RX8) := ⟨hk_t101 (List.mem_of_getElem? (i := 4) rfl), rfl⟩
theorem tw_268 : hk_gd (Cond.selects RX8 yX8_next yX8_next) := ⟨hk_t105 (List.mem_of_getElem? (i := 6) rfl), rfl⟩
theorem tw_269 : hk_gd (Cond.instanceMethod yX8_next) := ⟨hk_t105 (List.mem_of_getElem? (i := 5) rfl), rfl⟩
theorem tw_270 : hk_gd (Cond.methodLink RX2 43 yX8_next) := ⟨hk_t105 (List.mem_of_getElem? (i := 4) rfl), rfl⟩
theorem tw_271 : hk_gd (Cond.fieldLink RX2 7 "LzmaChains$Coder" "source" "LLzmaChains$Reader;") := ⟨hk_t101 (List.mem_of_getElem? (i := 148) rfl), rfl⟩
theorem tw_272 : hk_gd (Cond.fieldLink RX2 33 "LzmaChains$Coder" "range" "J") := ⟨hk_t101 (List.mem_of_getElem? (i := 152) rfl), rfl⟩
theorem tw_273 : hk_gd (Cond.constantLong RX2 31 4294967295) := ⟨hk_t104 (List.mem_of_getElem? (i := 190) rfl), rfl⟩
theorem tw_274 : hk_gd (Cond.fieldLink RX2 23 "LzmaChains$Coder" "opening" "Z") := ⟨hk_t101 (List.mem_of_getElem? (i := 150) rfl), rfl⟩
theorem tw_275 : hk_gd (Cond.methodLink RX1 69 yJ6_numberOfLeadingZeros_0f7a4) := ⟨hk_t104 (List.mem_of_getElem? (i := 182) rfl), rfl⟩
theorem tw_276 : hk_gd (Cond.fieldLink RX1 29 "LzmaChains$Chooser" "costs" "[I") := ⟨hk_t102 (List.mem_of_getElem? (i := 21) rfl), rfl⟩
theorem tw_277 : hk_gd (Cond.methodLink RX1 110 yX9_get) := ⟨hk_t104 (List.mem_of_getElem? (i := 211) rfl), rfl⟩
theorem tw_278 : hk_gd (Cond.code yX1_weigh cX1_weigh 8 none) := ⟨hk_t104 (List.mem_of_getElem? (i := 181) rfl), rfl⟩
theorem tw_279 : hk_gd (Cond.selects RX1 yX1_weigh yX1_weigh) := ⟨hk_t104 (List.mem_of_getElem? (i := 180) rfl), rfl⟩
theorem tw_280 : hk_gd (Cond.instanceMethod yX3_readDictionary) := ⟨hk_t106 (List.mem_of_getElem? (i := 159) rfl), rfl⟩
theorem tw_281 : hk_gd (Cond.methodLink RX3 59 yX3_readDictionary) := ⟨hk_t106 (List.mem_of_getElem? (i := 158) rfl), rfl⟩
theorem tw_282 : hk_gd (Cond.code yX3_nextOfHead cX3_nextOfHead 1 (some .int)) := ⟨hk_t106 (List.mem_of_getElem? (i := 139) rfl), rfl⟩
theorem tw_283 : hk_gd (Cond.selects RX3 yX3_nextOfHead yX3_nextOfHead) := ⟨hk_t106 (List.mem_of_getElem? (i := 138) rfl), rfl⟩
theorem tw_284 : hk_gd (Cond.instanceMethod yX3_nextOfHead) := ⟨hk_t106 (List.mem_of_getElem? (i := 137) rfl), rfl⟩
theorem tw_285 : hk_gd (Cond.methodLink RX3 22 yX3_nextOfHead) := ⟨hk_t106 (List.mem_of_getElem? (i := 136) rfl), rfl⟩
theorem tw_286 : hk_gd (Cond.fieldLink RX3 19 "LzmaChains$Head" "values" "[I") := ⟨hk_t102 (List.mem_of_getElem? (i := 125) rfl), rfl⟩
theorem tw_287 : hk_gd (Cond.fieldLink RX3 15 "LzmaChains$Head" "kinds" "[I") := ⟨hk_t102 (List.mem_of_getElem? (i := 124) rfl), rfl⟩
theorem tw_288 : hk_gd (Cond.constantLong RX3 57 7) := ⟨hk_t106 (List.mem_of_getElem? (i := 157) rfl), rfl⟩
theorem tw_289 : hk_gd (Cond.constantLong RX3 55 3) := ⟨hk_t106 (List.mem_of_getElem? (i := 156) rfl), rfl⟩
theorem tw_290 : hk_gd (Cond.constantLong RX3 53 33) := ⟨hk_t106 (List.mem_of_getElem? (i := 155) rfl), rfl⟩
theorem tw_291 : hk_gd (Cond.code yX3_readNumber cX3_readNumber 5 (some .long)) := ⟨hk_t106 (List.mem_of_getElem? (i := 145) rfl), rfl⟩
theorem tw_292 : hk_gd (Cond.initialized RX3) := ⟨hk_t101 (List.mem_of_getElem? (i := 12) rfl), rfl⟩
theorem tw_293 : hk_gd (Cond.selects RX3 yX3_readNumber yX3_readNumber) := ⟨hk_t106 (List.mem_of_getElem? (i := 144) rfl), rfl⟩
theorem tw_294 : hk_gd (Cond.instanceMethod yX3_readNumber) := ⟨hk_t106 (List.mem_of_getElem? (i := 143) rfl), rfl⟩
theorem tw_295 : hk_gd (Cond.methodLink RX3 36 yX3_readNumber) := ⟨hk_t106 (List.mem_of_getElem? (i := 142) rfl), rfl⟩
theorem tw_296 : hk_gd (Cond.fieldLink RX3 66 "LzmaChains$Head" "dictionary" "J") := ⟨hk_t102 (List.mem_of_getElem? (i := 135) rfl), rfl⟩
theorem tw_297 : hk_gd (Cond.constantLong RX3 64 2) := ⟨hk_t106 (List.mem_of_getElem? (i := 163) rfl), rfl⟩
theorem tw_298 : hk_gd (Cond.constantLong RX3 62 4294967295) := ⟨hk_t106 (List.mem_of_getElem? (i := 162) rfl), rfl⟩
theorem tw_299 : hk_gd (Cond.methodLink RX3 78 yX8_next) := ⟨hk_t106 (List.mem_of_getElem? (i := 141) rfl), rfl⟩
theorem tw_300 : hk_gd (Cond.methodLink RX3 26 yX8_fail) := ⟨hk_t106 (List.mem_of_getElem? (i := 140) rfl), rfl⟩
theorem tw_301 : hk_gd (Cond.fieldLink RX3 75 "LzmaChains$Head" "size" "I") := ⟨hk_t102 (List.mem_of_getElem? (i := 130) rfl), rfl⟩
theorem tw_302 : hk_gd (Cond.fieldLink RX3 72 "LzmaChains$Head" "place" "I") := ⟨hk_t102 (List.mem_of_getElem? (i := 128) rfl), rfl⟩
theorem tw_303 : hk_gd (Cond.fieldLink RX3 69 "LzmaChains$Reader" "at" "I") := ⟨hk_t101 (List.mem_of_getElem? (i := 123) rfl), rfl⟩
theorem tw_304 : hk_gd (Cond.fieldLink RX3 9 "LzmaChains$Head" "source" "LLzmaChains$Reader;") := ⟨hk_t102 (List.mem_of_getElem? (i := 123) rfl), rfl⟩
theorem tw_305 : hk_gd (Cond.code yX2_bit cX2_bit 7 (some .int)) := ⟨hk_t104 (List.mem_of_getElem? (i := 238) rfl), rfl⟩
theorem tw_306 : hk_gd (Cond.selects RX2 yX2_bit yX2_bit) := ⟨hk_t104 (List.mem_of_getElem? (i := 237) rfl), rfl⟩
theorem tw_307 : hk_gd (Cond.instanceMethod yX2_bit) := ⟨hk_t104 (List.mem_of_getElem? (i := 236) rfl), rfl⟩
theorem tw_308 : hk_gd (Cond.methodLink RX2 91 yX2_bit) := ⟨hk_t105 (List.mem_of_getElem? (i := 54) rfl), rfl⟩
theorem tw_309 : hk_gd (Cond.constantLong RX2 89 16777215) := ⟨hk_t105 (List.mem_of_getElem? (i := 39) rfl), rfl⟩
theorem tw_310 : hk_gd (Cond.fieldLink RX2 86 "LzmaChains$Row" "data" "[I") := ⟨hk_t101 (List.mem_of_getElem? (i := 97) rfl), rfl⟩
theorem tw_311 : hk_gd (Cond.fieldLink RX2 81 "LzmaChains$Row" "size" "I") := ⟨hk_t101 (List.mem_of_getElem? (i := 103) rfl), rfl⟩
theorem tw_312 : hk_gd (Cond.fieldLink RX2 13 "LzmaChains$Coder" "sink" "LLzmaChains$Row;") := ⟨hk_t101 (List.mem_of_getElem? (i := 149) rfl), rfl⟩
theorem tw_313 : hk_gd (Cond.constantLong RX2 79 4294967296) := ⟨hk_t105 (List.mem_of_getElem? (i := 38) rfl), rfl⟩
theorem tw_314 : hk_gd (Cond.constantLong RX2 77 4278190080) := ⟨hk_t105 (List.mem_of_getElem? (i := 37) rfl), rfl⟩
theorem tw_315 : hk_gd (Cond.code yX2_plainBit cX2_plainBit 3 (some .int)) := ⟨hk_t105 (List.mem_of_getElem? (i := 80) rfl), rfl⟩
theorem tw_316 : hk_gd (Cond.selects RX2 yX2_plainBit yX2_plainBit) := ⟨hk_t105 (List.mem_of_getElem? (i := 79) rfl), rfl⟩
theorem tw_317 : hk_gd (Cond.instanceMethod yX2_plainBit) := ⟨hk_t105 (List.mem_of_getElem? (i := 78) rfl), rfl⟩
theorem tw_318 : hk_gd (Cond.methodLink RX2 95 yX2_plainBit) := ⟨hk_t105 (List.mem_of_getElem? (i := 77) rfl), rfl⟩
theorem tw_319 : hk_gd (Cond.code yX2_shift cX2_shift 4 none) := ⟨hk_t105 (List.mem_of_getElem? (i := 36) rfl), rfl⟩
theorem tw_320 : hk_gd (Cond.static yX5_slotOf) := ⟨hk_t105 (List.mem_of_getElem? (i := 61) rfl), rfl⟩
theorem tw_321 : hk_gd (Cond.methodLink RX5 67 yX5_slotOf) := ⟨hk_t105 (List.mem_of_getElem? (i := 60) rfl), rfl⟩
theorem tw_322 : hk_gd (Cond.fieldLink RX5 11 "LzmaChains$Model" "coder" "LLzmaChains$Coder;") := ⟨hk_t101 (List.mem_of_getElem? (i := 180) rfl), rfl⟩
theorem tw_323 : hk_gd (Cond.methodLink RX5 64 Lib.Math.max.name) := ⟨hk_t105 (List.mem_of_getElem? (i := 59) rfl), rfl⟩
theorem tw_324 : hk_gd (Cond.methodLink RX5 35 Lib.Math.min.name) := ⟨hk_t103 (List.mem_of_getElem? (i := 70) rfl), rfl⟩
theorem tw_325 : hk_gd (Cond.fieldLink RX5 15 "LzmaChains$Model" "backs" "[J") := ⟨hk_t101 (List.mem_of_getElem? (i := 183) rfl), rfl⟩
theorem tw_326 : hk_gd (Cond.code yX9_putZeros cX9_putZeros 3 none) := ⟨hk_t105 (List.mem_of_getElem? (i := 202) rfl), rfl⟩
theorem tw_327 : hk_gd (Cond.selects RX9 yX9_putZeros yX9_putZeros) := ⟨hk_t105 (List.mem_of_getElem? (i := 201) rfl), rfl⟩
theorem tw_328 : hk_gd (Cond.instanceMethod yX9_putZeros) := ⟨hk_t105 (List.mem_of_getElem? (i := 200) rfl), rfl⟩
theorem tw_329 : hk_gd (Cond.methodLink RX4 41 yX9_putZeros) := ⟨hk_t105 (List.mem_of_getElem? (i := 228) rfl), rfl⟩
theorem tw_330 : hk_gd (Cond.code yX9_putNumber cX9_putNumber 4 none) := ⟨hk_t105 (List.mem_of_getElem? (i := 194) rfl), rfl⟩
theorem tw_331 : hk_gd (Cond.selects RX9 yX9_putNumber yX9_putNumber) := ⟨hk_t105 (List.mem_of_getElem? (i := 193) rfl), rfl⟩
theorem tw_332 : hk_gd (Cond.instanceMethod yX9_putNumber) := ⟨hk_t105 (List.mem_of_getElem? (i := 192) rfl), rfl⟩
theorem tw_333 : hk_gd (Cond.methodLink RX4 38 yX9_putNumber) := ⟨hk_t105 (List.mem_of_getElem? (i := 223) rfl), rfl⟩
theorem tw_334 : hk_gd (Cond.methodLink RX4 34 yX9_put) := ⟨hk_t105 (List.mem_of_getElem? (i := 222) rfl), rfl⟩
theorem tw_335 : hk_gd (Cond.fieldLink RX4 29 "LzmaChains$Row" "size" "I") := ⟨hk_t101 (List.mem_of_getElem? (i := 104) rfl), rfl⟩
theorem tw_336 : hk_gd (Cond.methodLink RX4 25 yX4_blockPart) := ⟨hk_t105 (List.mem_of_getElem? (i := 224) rfl), rfl⟩
theorem tw_337 : hk_gd (Cond.fieldLink RX4 9 "LzmaChains$Ledger" "stepParts" "[I") := ⟨hk_t101 (List.mem_of_getElem? (i := 228) rfl), rfl⟩
theorem tw_338 : hk_gd (Cond.fieldLink RX4 18 "LzmaChains$Ledger" "steps" "I") := ⟨hk_t101 (List.mem_of_getElem? (i := 230) rfl), rfl⟩
theorem tw_339 : hk_gd (Cond.fieldLink RX4 15 "LzmaChains$Ledger" "blockParts" "[I") := ⟨hk_t101 (List.mem_of_getElem? (i := 229) rfl), rfl⟩
theorem tw_340 : hk_gd (Cond.fieldLink RX4 22 "LzmaChains$Ledger" "blocks" "I") := ⟨hk_t101 (List.mem_of_getElem? (i := 233) rfl), rfl⟩
theorem tw_341 : hk_gd (Cond.methodLink RX3 102 yX9_branch) := ⟨hk_t106 (List.mem_of_getElem? (i := 179) rfl), rfl⟩
theorem tw_342 : hk_gd (Cond.methodLink RX3 98 yX9_delta) := ⟨hk_t106 (List.mem_of_getElem? (i := 178) rfl), rfl⟩
theorem tw_343 : hk_gd (Cond.fieldLink RX3 95 "LzmaChains$Row" "size" "I") := ⟨hk_t101 (List.mem_of_getElem? (i := 105) rfl), rfl⟩
theorem tw_344 : hk_gd (Cond.fieldLink RX3 46 "LzmaChains$Head" "toldBytes" "J") := ⟨hk_t102 (List.mem_of_getElem? (i := 133) rfl), rfl⟩
theorem tw_345 : hk_gd (Cond.fieldLink RX3 42 "LzmaChains$Head" "toldPacked" "J") := ⟨hk_t102 (List.mem_of_getElem? (i := 131) rfl), rfl⟩
theorem tw_346 : hk_gd (Cond.constantLong RX3 40 (-1)) := ⟨hk_t106 (List.mem_of_getElem? (i := 146) rfl), rfl⟩
theorem tw_347 : hk_gd (Cond.code yX8_low cX8_low 5 (some .long)) := ⟨hk_t106 (List.mem_of_getElem? (i := 30) rfl), rfl⟩
theorem tw_348 : hk_gd (Cond.selects RX8 yX8_low yX8_low) := ⟨hk_t106 (List.mem_of_getElem? (i := 29) rfl), rfl⟩
theorem tw_349 : hk_gd (Cond.instanceMethod yX8_low) := ⟨hk_t106 (List.mem_of_getElem? (i := 28) rfl), rfl⟩
theorem tw_350 : hk_gd (Cond.methodLink RX3 91 yX8_low) := ⟨hk_t106 (List.mem_of_getElem? (i := 169) rfl), rfl⟩
theorem tw_351 : hk_gd (Cond.methodLink RX3 85 yX0_crc32) := ⟨hk_t106 (List.mem_of_getElem? (i := 168) rfl), rfl⟩
theorem tw_352 : hk_gd (Cond.fieldLink RX3 81 "LzmaChains$Reader" "row" "LLzmaChains$Row;") := ⟨hk_t101 (List.mem_of_getElem? (i := 120) rfl), rfl⟩
theorem tw_353 : hk_gd (Cond.code yX3_readFilter cX3_readFilter 6 none) := ⟨hk_t106 (List.mem_of_getElem? (i := 154) rfl), rfl⟩
theorem tw_354 : hk_gd (Cond.selects RX3 yX3_readFilter yX3_readFilter) := ⟨hk_t106 (List.mem_of_getElem? (i := 153) rfl), rfl⟩
theorem tw_355 : hk_gd (Cond.instanceMethod yX3_readFilter) := ⟨hk_t106 (List.mem_of_getElem? (i := 152) rfl), rfl⟩
theorem tw_356 : hk_gd (Cond.methodLink RX3 49 yX3_readFilter) := ⟨hk_t106 (List.mem_of_getElem? (i := 151) rfl), rfl⟩
theorem tw_357 : hk_gd (Cond.fieldLink RX3 32 "LzmaChains$Head" "filters" "I") := ⟨hk_t102 (List.mem_of_getElem? (i := 126) rfl), rfl⟩
theorem tw_358 : hk_gd (Cond.code yX3_readDictionary cX3_readDictionary 2 none) := ⟨hk_t106 (List.mem_of_getElem? (i := 161) rfl), rfl⟩
theorem tw_359 : hk_gd (Cond.selects RX3 yX3_readDictionary yX3_readDictionary) := ⟨hk_t106 (List.mem_of_getElem? (i := 160) rfl), rfl⟩
theorem tw_360 : hk_gd (Cond.fieldLink RX6 9 "LzmaChains$Opener" "source" "LLzmaChains$Reader;") := ⟨hk_t102 (List.mem_of_getElem? (i := 158) rfl), rfl⟩
theorem tw_361 : hk_gd (Cond.fieldLink RX5 26 "LzmaChains$Model" "pb" "I") := ⟨hk_t101 (List.mem_of_getElem? (i := 186) rfl), rfl⟩
theorem tw_362 : hk_gd (Cond.code yJ13_numberOfLeadingZeros_95d88 cJ13_numberOfLeadingZeros_95d88 3 (some .int)) := ⟨hk_t105 (List.mem_of_getElem? (i := 66) rfl), rfl⟩
theorem tw_363 : hk_gd (Cond.initialized RJ13) := ⟨hk_t101 (List.mem_of_getElem? (i := 31) rfl), rfl⟩
theorem tw_364 : hk_gd (Cond.static yJ13_numberOfLeadingZeros_95d88) := ⟨hk_t105 (List.mem_of_getElem? (i := 65) rfl), rfl⟩
theorem tw_365 : hk_gd (Cond.methodLink RX5 82 yJ13_numberOfLeadingZeros_95d88) := ⟨hk_t105 (List.mem_of_getElem? (i := 64) rfl), rfl⟩
theorem tw_366 : hk_gd (Cond.constantLong RX5 80 4) := ⟨hk_t105 (List.mem_of_getElem? (i := 63) rfl), rfl⟩
theorem tw_367 : hk_gd (Cond.code yJ7_fill_d0a16 cJ7_fill_d0a16 5 none) := ⟨hk_t104 (List.mem_of_getElem? (i := 147) rfl), rfl⟩
theorem tw_368 : hk_gd (Cond.static yJ7_fill_d0a16) := ⟨hk_t104 (List.mem_of_getElem? (i := 146) rfl), rfl⟩
theorem tw_369 : hk_gd (Cond.methodLink RX5 47 yJ7_fill_d0a16) := ⟨hk_t104 (List.mem_of_getElem? (i := 145) rfl), rfl⟩
theorem tw_370 : hk_gd (Cond.code yJ7_fill_fda19 cJ7_fill_fda19 5 none) := ⟨hk_t103 (List.mem_of_getElem? (i := 75) rfl), rfl⟩
theorem tw_371 : hk_gd (Cond.static yJ7_fill_fda19) := ⟨hk_t103 (List.mem_of_getElem? (i := 74) rfl), rfl⟩
theorem tw_372 : hk_gd (Cond.methodLink RX5 41 yJ7_fill_fda19) := ⟨hk_t103 (List.mem_of_getElem? (i := 73) rfl), rfl⟩
theorem tw_373 : hk_gd (Cond.fieldLink RX5 29 "LzmaChains$Coder" "chances" "[I") := ⟨hk_t101 (List.mem_of_getElem? (i := 147) rfl), rfl⟩
theorem tw_374 : hk_gd (Cond.code yX5_bringToFront cX5_bringToFront 5 none) := ⟨hk_t105 (List.mem_of_getElem? (i := 88) rfl), rfl⟩
theorem tw_375 : hk_gd (Cond.selects RX5 yX5_bringToFront yX5_bringToFront) := ⟨hk_t105 (List.mem_of_getElem? (i := 87) rfl), rfl⟩
theorem tw_376 : hk_gd (Cond.instanceMethod yX5_bringToFront) := ⟨hk_t105 (List.mem_of_getElem? (i := 86) rfl), rfl⟩
theorem tw_377 : hk_gd (Cond.methodLink RX5 87 yX5_bringToFront) := ⟨hk_t105 (List.mem_of_getElem? (i := 85) rfl), rfl⟩
theorem tw_378 : hk_gd (Cond.fieldLink RX5 19 "LzmaChains$Model" "lc" "I") := ⟨hk_t101 (List.mem_of_getElem? (i := 184) rfl), rfl⟩
theorem tw_379 : hk_gd (Cond.fieldLink RX5 23 "LzmaChains$Model" "lp" "I") := ⟨hk_t101 (List.mem_of_getElem? (i := 185) rfl), rfl⟩
theorem tw_380 : hk_gd (Cond.methodLink RX5 57 yX2_bit) := ⟨hk_t104 (List.mem_of_getElem? (i := 235) rfl), rfl⟩
theorem tw_381 : hk_gd (Cond.fieldLink RX5 50 "LzmaChains$Model" "state" "I") := ⟨hk_t101 (List.mem_of_getElem? (i := 187) rfl), rfl⟩
theorem tw_382 : hk_gd (Cond.code yX5_turnOf cX5_turnOf 2 (some .int)) := ⟨hk_t104 (List.mem_of_getElem? (i := 234) rfl), rfl⟩
theorem tw_383 : hk_gd (Cond.selects RX5 yX5_turnOf yX5_turnOf) := ⟨hk_t104 (List.mem_of_getElem? (i := 233) rfl), rfl⟩
theorem tw_384 : hk_gd (Cond.instanceMethod yX5_turnOf) := ⟨hk_t104 (List.mem_of_getElem? (i := 232) rfl), rfl⟩
theorem tw_385 : hk_gd (Cond.methodLink RX5 53 yX5_turnOf) := ⟨hk_t104 (List.mem_of_getElem? (i := 231) rfl), rfl⟩
theorem tw_386 : hk_gd (Cond.code yX2_plain cX2_plain 7 (some .long)) := ⟨hk_t105 (List.mem_of_getElem? (i := 76) rfl), rfl⟩
theorem tw_387 : hk_gd (Cond.selects RX2 yX2_plain yX2_plain) := ⟨hk_t105 (List.mem_of_getElem? (i := 75) rfl), rfl⟩
theorem tw_388 : hk_gd (Cond.instanceMethod yX2_plain) := ⟨hk_t105 (List.mem_of_getElem? (i := 74) rfl), rfl⟩
theorem tw_389 : hk_gd (Cond.methodLink RX5 76 yX2_plain) := ⟨hk_t105 (List.mem_of_getElem? (i := 73) rfl), rfl⟩
theorem tw_390 : hk_gd (Cond.code yX2_turned cX2_turned 8 (some .int)) := ⟨hk_t105 (List.mem_of_getElem? (i := 72) rfl), rfl⟩
theorem tw_391 : hk_gd (Cond.selects RX2 yX2_turned yX2_turned) := ⟨hk_t105 (List.mem_of_getElem? (i := 71) rfl), rfl⟩
theorem tw_392 : hk_gd (Cond.instanceMethod yX2_turned) := ⟨hk_t105 (List.mem_of_getElem? (i := 70) rfl), rfl⟩
theorem tw_393 : hk_gd (Cond.methodLink RX5 73 yX2_turned) := ⟨hk_t105 (List.mem_of_getElem? (i := 69) rfl), rfl⟩
theorem tw_394 : hk_gd (Cond.constantLong RX5 71 2) := ⟨hk_t105 (List.mem_of_getElem? (i := 68) rfl), rfl⟩
theorem tw_395 : hk_gd (Cond.code yX2_tree cX2_tree 6 (some .int)) := ⟨hk_t105 (List.mem_of_getElem? (i := 53) rfl), rfl⟩
theorem tw_396 : hk_gd (Cond.selects RX2 yX2_tree yX2_tree) := ⟨hk_t105 (List.mem_of_getElem? (i := 52) rfl), rfl⟩
theorem tw_397 : hk_gd (Cond.instanceMethod yX2_tree) := ⟨hk_t105 (List.mem_of_getElem? (i := 51) rfl), rfl⟩
theorem tw_398 : hk_gd (Cond.methodLink RX5 60 yX2_tree) := ⟨hk_t105 (List.mem_of_getElem? (i := 50) rfl), rfl⟩
theorem tw_399 : hk_gd (Cond.code yX5_slotOf cX5_slotOf 3 (some .int)) := ⟨hk_t105 (List.mem_of_getElem? (i := 62) rfl), rfl⟩
theorem tw_400 : hk_gd (Cond.instanceMethod yX6_readProperties) := ⟨hk_t106 (List.mem_of_getElem? (i := 19) rfl), rfl⟩
theorem tw_401 : hk_gd (Cond.methodLink RX6 94 yX6_readProperties) := ⟨hk_t106 (List.mem_of_getElem? (i := 18) rfl), rfl⟩
theorem tw_402 : hk_gd (Cond.code yX4_addBlock cX4_addBlock 7 none) := ⟨hk_t105 (List.mem_of_getElem? (i := 129) rfl), rfl⟩
theorem tw_403 : hk_gd (Cond.selects RX4 yX4_addBlock yX4_addBlock) := ⟨hk_t105 (List.mem_of_getElem? (i := 128) rfl), rfl⟩
theorem tw_404 : hk_gd (Cond.instanceMethod yX4_addBlock) := ⟨hk_t105 (List.mem_of_getElem? (i := 127) rfl), rfl⟩
theorem tw_405 : hk_gd (Cond.methodLink RX6 227 yX4_addBlock) := ⟨hk_t106 (List.mem_of_getElem? (i := 113) rfl), rfl⟩
theorem tw_406 : hk_gd (Cond.fieldLink RX6 191 "LzmaChains$Opener" "chunks" "I") := ⟨hk_t102 (List.mem_of_getElem? (i := 173) rfl), rfl⟩
theorem tw_407 : hk_gd (Cond.fieldLink RX6 185 "LzmaChains$Opener" "blockStart" "I") := ⟨hk_t102 (List.mem_of_getElem? (i := 170) rfl), rfl⟩
theorem tw_408 : hk_gd (Cond.fieldLink RX6 212 "LzmaChains$Opener" "packed" "I") := ⟨hk_t102 (List.mem_of_getElem? (i := 174) rfl), rfl⟩
theorem tw_409 : hk_gd (Cond.methodLink RX6 124 yX8_next) := ⟨hk_t106 (List.mem_of_getElem? (i := 22) rfl), rfl⟩
theorem tw_410 : hk_gd (Cond.fieldLink RX6 224 "LzmaChains$Reader" "limit" "I") := ⟨hk_t101 (List.mem_of_getElem? (i := 126) rfl), rfl⟩
theorem tw_411 : hk_gd (Cond.fieldLink RX6 218 "LzmaChains$Opener" "chunkEnd" "I") := ⟨hk_t102 (List.mem_of_getElem? (i := 172) rfl), rfl⟩
theorem tw_412 : hk_gd (Cond.fieldLink RX6 116 "LzmaChains$Coder" "code" "J") := ⟨hk_t101 (List.mem_of_getElem? (i := 154) rfl), rfl⟩
theorem tw_413 : hk_gd (Cond.fieldLink RX6 112 "LzmaChains$Model" "coder" "LLzmaChains$Coder;") := ⟨hk_t101 (List.mem_of_getElem? (i := 182) rfl), rfl⟩
theorem tw_414 : hk_gd (Cond.fieldLink RX6 81 "LzmaChains$Head" "size" "I") := ⟨hk_t102 (List.mem_of_getElem? (i := 129) rfl), rfl⟩
theorem tw_415 : hk_gd (Cond.fieldLink RX6 78 "LzmaChains$Head" "place" "I") := ⟨hk_t102 (List.mem_of_getElem? (i := 127) rfl), rfl⟩
theorem tw_416 : hk_gd (Cond.fieldLink RX6 36 "LzmaChains$Opener" "head" "LLzmaChains$Head;") := ⟨hk_t102 (List.mem_of_getElem? (i := 164) rfl), rfl⟩
theorem tw_417 : hk_gd (Cond.fieldLink RX6 75 "LzmaChains$Opener" "base" "I") := ⟨hk_t102 (List.mem_of_getElem? (i := 168) rfl), rfl⟩
theorem tw_418 : hk_gd (Cond.code yX5_reset cX5_reset 2 none) := ⟨hk_t103 (List.mem_of_getElem? (i := 69) rfl), rfl⟩
theorem tw_419 : hk_gd (Cond.selects RX5 yX5_reset yX5_reset) := ⟨hk_t103 (List.mem_of_getElem? (i := 68) rfl), rfl⟩
theorem tw_420 : hk_gd (Cond.instanceMethod yX5_reset) := ⟨hk_t103 (List.mem_of_getElem? (i := 67) rfl), rfl⟩
theorem tw_421 : hk_gd (Cond.methodLink RX6 68 yX5_reset) := ⟨hk_t106 (List.mem_of_getElem? (i := 13) rfl), rfl⟩
theorem tw_422 : hk_gd (Cond.code yX5_use cX5_use 4 none) := ⟨hk_t103 (List.mem_of_getElem? (i := 65) rfl), rfl⟩
theorem tw_423 : hk_gd (Cond.selects RX5 yX5_use yX5_use) := ⟨hk_t103 (List.mem_of_getElem? (i := 64) rfl), rfl⟩
theorem tw_424 : hk_gd (Cond.instanceMethod yX5_use) := ⟨hk_t103 (List.mem_of_getElem? (i := 63) rfl), rfl⟩
theorem tw_425 : hk_gd (Cond.methodLink RX6 62 yX5_use) := ⟨hk_t106 (List.mem_of_getElem? (i := 12) rfl), rfl⟩
theorem tw_426 : hk_gd (Cond.fieldLink RX6 19 "LzmaChains$Opener" "model" "LLzmaChains$Model;") := ⟨hk_t102 (List.mem_of_getElem? (i := 161) rfl), rfl⟩
theorem tw_427 : hk_gd (Cond.methodLink RX6 57 yX4_clear) := ⟨hk_t106 (List.mem_of_getElem? (i := 11) rfl), rfl⟩
theorem tw_428 : hk_gd (Cond.fieldLink RX6 27 "LzmaChains$Opener" "ledger" "LLzmaChains$Ledger;") := ⟨hk_t102 (List.mem_of_getElem? (i := 163) rfl), rfl⟩
theorem tw_429 : hk_gd (Cond.fieldLink RX6 15 "LzmaChains$Opener" "output" "LLzmaChains$Row;") := ⟨hk_t102 (List.mem_of_getElem? (i := 160) rfl), rfl⟩
theorem tw_430 : hk_gd (Cond.code yX8_begin cX8_begin 1 none) := ⟨hk_t106 (List.mem_of_getElem? (i := 10) rfl), rfl⟩
theorem tw_431 : hk_gd (Cond.selects RX8 yX8_begin yX8_begin) := ⟨hk_t106 (List.mem_of_getElem? (i := 9) rfl), rfl⟩
theorem tw_432 : hk_gd (Cond.instanceMethod yX8_begin) := ⟨hk_t106 (List.mem_of_getElem? (i := 8) rfl), rfl⟩
theorem tw_433 : hk_gd (Cond.methodLink RX6 48 yX8_begin) := ⟨hk_t106 (List.mem_of_getElem? (i := 7) rfl), rfl⟩
theorem tw_434 : hk_gd (Cond.fieldLink RX6 71 "LzmaChains$Opener" "memory" "J") := ⟨hk_t102 (List.mem_of_getElem? (i := 166) rfl), rfl⟩
theorem tw_435 : hk_gd (Cond.fieldLink RX6 82 "LzmaChains$Opener" "dictionary" "J") := ⟨hk_t102 (List.mem_of_getElem? (i := 167) rfl), rfl⟩
theorem tw_436 : hk_gd (Cond.methodLink RX6 85 yX8_fail) := ⟨hk_t106 (List.mem_of_getElem? (i := 23) rfl), rfl⟩
theorem tw_437 : hk_gd (Cond.fieldLink RX6 53 "LzmaChains$Row" "size" "I") := ⟨hk_t101 (List.mem_of_getElem? (i := 101) rfl), rfl⟩
theorem tw_438 : hk_gd (Cond.fieldLink RX6 91 "LzmaChains$Reader" "row" "LLzmaChains$Row;") := ⟨hk_t101 (List.mem_of_getElem? (i := 119) rfl), rfl⟩
theorem tw_439 : hk_gd (Cond.fieldLink RX6 88 "LzmaChains$Reader" "at" "I") := ⟨hk_t101 (List.mem_of_getElem? (i := 122) rfl), rfl⟩
theorem tw_440 : hk_gd (Cond.methodLink RX6 149 yX5_codeFar) := ⟨hk_t106 (List.mem_of_getElem? (i := 67) rfl), rfl⟩
theorem tw_441 : hk_gd (Cond.code yX5_codeLength cX5_codeLength 6 (some .int)) := ⟨hk_t105 (List.mem_of_getElem? (i := 49) rfl), rfl⟩
theorem tw_442 : hk_gd (Cond.selects RX5 yX5_codeLength yX5_codeLength) := ⟨hk_t105 (List.mem_of_getElem? (i := 48) rfl), rfl⟩
theorem tw_443 : hk_gd (Cond.instanceMethod yX5_codeLength) := ⟨hk_t105 (List.mem_of_getElem? (i := 47) rfl), rfl⟩
theorem tw_444 : hk_gd (Cond.methodLink RX6 145 yX5_codeLength) := ⟨hk_t106 (List.mem_of_getElem? (i := 66) rfl), rfl⟩
theorem tw_445 : hk_gd (Cond.methodLink RX6 142 yX5_back) := ⟨hk_t106 (List.mem_of_getElem? (i := 61) rfl), rfl⟩
theorem tw_446 : hk_gd (Cond.code yX6_readLiteral cX6_readLiteral 5 none) := ⟨hk_t106 (List.mem_of_getElem? (i := 59) rfl), rfl⟩
theorem tw_447 : hk_gd (Cond.selects RX6 yX6_readLiteral yX6_readLiteral) := ⟨hk_t106 (List.mem_of_getElem? (i := 58) rfl), rfl⟩
theorem tw_448 : hk_gd (Cond.instanceMethod yX6_readLiteral) := ⟨hk_t106 (List.mem_of_getElem? (i := 57) rfl), rfl⟩
theorem tw_449 : hk_gd (Cond.methodLink RX6 139 yX6_readLiteral) := ⟨hk_t106 (List.mem_of_getElem? (i := 56) rfl), rfl⟩
theorem tw_450 : hk_gd (Cond.code yX5_codeKind cX5_codeKind 4 (some .int)) := ⟨hk_t104 (List.mem_of_getElem? (i := 230) rfl), rfl⟩
theorem tw_451 : hk_gd (Cond.selects RX5 yX5_codeKind yX5_codeKind) := ⟨hk_t104 (List.mem_of_getElem? (i := 229) rfl), rfl⟩
theorem tw_452 : hk_gd (Cond.instanceMethod yX5_codeKind) := ⟨hk_t104 (List.mem_of_getElem? (i := 228) rfl), rfl⟩
theorem tw_453 : hk_gd (Cond.methodLink RX6 135 yX5_codeKind) := ⟨hk_t106 (List.mem_of_getElem? (i := 55) rfl), rfl⟩
theorem tw_454 : hk_gd (Cond.code yX6_readChoice cX6_readChoice 8 (some .boolean)) := ⟨hk_t106 (List.mem_of_getElem? (i := 54) rfl), rfl⟩
theorem tw_455 : hk_gd (Cond.selects RX6 yX6_readChoice yX6_readChoice) := ⟨hk_t106 (List.mem_of_getElem? (i := 53) rfl), rfl⟩
theorem tw_456 : hk_gd (Cond.instanceMethod yX6_readChoice) := ⟨hk_t106 (List.mem_of_getElem? (i := 52) rfl), rfl⟩
theorem tw_457 : hk_gd (Cond.methodLink RX6 131 yX6_readChoice) := ⟨hk_t106 (List.mem_of_getElem? (i := 51) rfl), rfl⟩
theorem tw_458 : hk_gd (Cond.code yX2_beginOpening cX2_beginOpening 1 none) := ⟨hk_t106 (List.mem_of_getElem? (i := 45) rfl), rfl⟩
theorem tw_459 : hk_gd (Cond.selects RX2 yX2_beginOpening yX2_beginOpening) := ⟨hk_t106 (List.mem_of_getElem? (i := 44) rfl), rfl⟩
theorem tw_460 : hk_gd (Cond.instanceMethod yX2_beginOpening) := ⟨hk_t106 (List.mem_of_getElem? (i := 43) rfl), rfl⟩
theorem tw_461 : hk_gd (Cond.methodLink RX6 128 yX2_beginOpening) := ⟨hk_t106 (List.mem_of_getElem? (i := 42) rfl), rfl⟩
theorem tw_462 : hk_gd (Cond.code yX6_readLateMark cX6_readLateMark 5 none) := ⟨hk_t106 (List.mem_of_getElem? (i := 80) rfl), rfl⟩
theorem tw_463 : hk_gd (Cond.selects RX6 yX6_readLateMark yX6_readLateMark) := ⟨hk_t106 (List.mem_of_getElem? (i := 79) rfl), rfl⟩
theorem tw_464 : hk_gd (Cond.instanceMethod yX6_readLateMark) := ⟨hk_t106 (List.mem_of_getElem? (i := 78) rfl), rfl⟩
theorem tw_465 : hk_gd (Cond.methodLink RX6 121 yX6_readLateMark) := ⟨hk_t106 (List.mem_of_getElem? (i := 77) rfl), rfl⟩
theorem tw_466 : hk_gd (Cond.code yX6_readBits cX6_readBits 4 none) := ⟨hk_t106 (List.mem_of_getElem? (i := 41) rfl), rfl⟩
theorem tw_467 : hk_gd (Cond.selects RX6 yX6_readBits yX6_readBits) := ⟨hk_t106 (List.mem_of_getElem? (i := 40) rfl), rfl⟩
theorem tw_468 : hk_gd (Cond.instanceMethod yX6_readBits) := ⟨hk_t106 (List.mem_of_getElem? (i := 39) rfl), rfl⟩
theorem tw_469 : hk_gd (Cond.methodLink RX6 109 yX6_readBits) := ⟨hk_t106 (List.mem_of_getElem? (i := 38) rfl), rfl⟩
theorem tw_470 : hk_gd (Cond.constantLong RX6 107 3000) := ⟨hk_t106 (List.mem_of_getElem? (i := 37) rfl), rfl⟩
theorem tw_471 : hk_gd (Cond.constantLong RX6 105 (-1)) := ⟨hk_t106 (List.mem_of_getElem? (i := 36) rfl), rfl⟩
theorem tw_472 : hk_gd (Cond.code yX6_askMemory cX6_askMemory 3 none) := ⟨hk_t106 (List.mem_of_getElem? (i := 35) rfl), rfl⟩
theorem tw_473 : hk_gd (Cond.selects RX6 yX6_askMemory yX6_askMemory) := ⟨hk_t106 (List.mem_of_getElem? (i := 34) rfl), rfl⟩
theorem tw_474 : hk_gd (Cond.instanceMethod yX6_askMemory) := ⟨hk_t106 (List.mem_of_getElem? (i := 33) rfl), rfl⟩
theorem tw_475 : hk_gd (Cond.methodLink RX6 101 yX6_askMemory) := ⟨hk_t106 (List.mem_of_getElem? (i := 32) rfl), rfl⟩
theorem tw_476 : hk_gd (Cond.methodLink RX6 97 yX8_low) := ⟨hk_t106 (List.mem_of_getElem? (i := 27) rfl), rfl⟩
theorem tw_477 : hk_gd (Cond.code yX6_readProperties cX6_readProperties 4 none) := ⟨hk_t106 (List.mem_of_getElem? (i := 21) rfl), rfl⟩
theorem tw_478 : hk_gd (Cond.initialized RX6) := ⟨hk_t101 (List.mem_of_getElem? (i := 11) rfl), rfl⟩
theorem tw_479 : hk_gd (Cond.selects RX6 yX6_readProperties yX6_readProperties) := ⟨hk_t106 (List.mem_of_getElem? (i := 20) rfl), rfl⟩
theorem tw_480 : hk_gd (Cond.instanceMethod yX6_endChunk) := ⟨hk_t106 (List.mem_of_getElem? (i := 106) rfl), rfl⟩
theorem tw_481 : hk_gd (Cond.methodLink RX6 209 yX6_endChunk) := ⟨hk_t106 (List.mem_of_getElem? (i := 105) rfl), rfl⟩
theorem tw_482 : hk_gd (Cond.code yX6_readChunkHead cX6_readChunkHead 5 (some .int)) := ⟨hk_t106 (List.mem_of_getElem? (i := 103) rfl), rfl⟩
theorem tw_483 : hk_gd (Cond.selects RX6 yX6_readChunkHead yX6_readChunkHead) := ⟨hk_t106 (List.mem_of_getElem? (i := 102) rfl), rfl⟩
theorem tw_484 : hk_gd (Cond.instanceMethod yX6_readChunkHead) := ⟨hk_t106 (List.mem_of_getElem? (i := 101) rfl), rfl⟩
theorem tw_485 : hk_gd (Cond.methodLink RX6 206 yX6_readChunkHead) := ⟨hk_t106 (List.mem_of_getElem? (i := 100) rfl), rfl⟩
theorem tw_486 : hk_gd (Cond.methodLink RX6 201 Lib.Math.max.name) := ⟨hk_t106 (List.mem_of_getElem? (i := 99) rfl), rfl⟩
theorem tw_487 : hk_gd (Cond.code yX6_readPlain cX6_readPlain 5 none) := ⟨hk_t106 (List.mem_of_getElem? (i := 97) rfl), rfl⟩
theorem tw_488 : hk_gd (Cond.selects RX6 yX6_readPlain yX6_readPlain) := ⟨hk_t106 (List.mem_of_getElem? (i := 96) rfl), rfl⟩
theorem tw_489 : hk_gd (Cond.instanceMethod yX6_readPlain) := ⟨hk_t106 (List.mem_of_getElem? (i := 95) rfl), rfl⟩
theorem tw_490 : hk_gd (Cond.methodLink RX6 198 yX6_readPlain) := ⟨hk_t106 (List.mem_of_getElem? (i := 94) rfl), rfl⟩
theorem tw_491 : hk_gd (Cond.code yX6_judgeControl cX6_judgeControl 5 none) := ⟨hk_t106 (List.mem_of_getElem? (i := 93) rfl), rfl⟩
theorem tw_492 : hk_gd (Cond.selects RX6 yX6_judgeControl yX6_judgeControl) := ⟨hk_t106 (List.mem_of_getElem? (i := 92) rfl), rfl⟩
theorem tw_493 : hk_gd (Cond.instanceMethod yX6_judgeControl) := ⟨hk_t106 (List.mem_of_getElem? (i := 91) rfl), rfl⟩
theorem tw_494 : hk_gd (Cond.methodLink RX6 194 yX6_judgeControl) := ⟨hk_t106 (List.mem_of_getElem? (i := 90) rfl), rfl⟩
theorem tw_495 : hk_gd (Cond.fieldLink RX6 188 "LzmaChains$Opener" "chunkPlace" "I") := ⟨hk_t102 (List.mem_of_getElem? (i := 171) rfl), rfl⟩
theorem tw_496 : hk_gd (Cond.methodLink RX6 221 Lib.Math.min.name) := ⟨hk_t106 (List.mem_of_getElem? (i := 104) rfl), rfl⟩
theorem tw_497 : hk_gd (Cond.methodLink RX6 215 yX8_high) := ⟨hk_t106 (List.mem_of_getElem? (i := 98) rfl), rfl⟩
theorem tw_498 : hk_gd (Cond.methodLink RX6 175 yX9_put) := ⟨hk_t106 (List.mem_of_getElem? (i := 65) rfl), rfl⟩
theorem tw_499 : hk_gd (Cond.methodLink RX6 171 yX9_get) := ⟨hk_t106 (List.mem_of_getElem? (i := 60) rfl), rfl⟩
theorem tw_500 : hk_gd (Cond.code yX4_addStep cX4_addStep 6 none) := ⟨hk_t105 (List.mem_of_getElem? (i := 92) rfl), rfl⟩
theorem tw_501 : hk_gd (Cond.selects RX4 yX4_addStep yX4_addStep) := ⟨hk_t105 (List.mem_of_getElem? (i := 91) rfl), rfl⟩
theorem tw_502 : hk_gd (Cond.instanceMethod yX4_addStep) := ⟨hk_t105 (List.mem_of_getElem? (i := 90) rfl), rfl⟩
theorem tw_503 : hk_gd (Cond.methodLink RX6 167 yX4_addStep) := ⟨hk_t106 (List.mem_of_getElem? (i := 63) rfl), rfl⟩
theorem tw_504 : hk_gd (Cond.code yX6_judgeCopy cX6_judgeCopy 5 none) := ⟨hk_t106 (List.mem_of_getElem? (i := 76) rfl), rfl⟩
theorem tw_505 : hk_gd (Cond.selects RX6 yX6_judgeCopy yX6_judgeCopy) := ⟨hk_t106 (List.mem_of_getElem? (i := 75) rfl), rfl⟩
theorem tw_506 : hk_gd (Cond.instanceMethod yX6_judgeCopy) := ⟨hk_t106 (List.mem_of_getElem? (i := 74) rfl), rfl⟩
theorem tw_507 : hk_gd (Cond.methodLink RX6 163 yX6_judgeCopy) := ⟨hk_t106 (List.mem_of_getElem? (i := 73) rfl), rfl⟩
theorem tw_508 : hk_gd (Cond.code yX6_takeMark cX6_takeMark 2 none) := ⟨hk_t106 (List.mem_of_getElem? (i := 72) rfl), rfl⟩
theorem tw_509 : hk_gd (Cond.selects RX6 yX6_takeMark yX6_takeMark) := ⟨hk_t106 (List.mem_of_getElem? (i := 71) rfl), rfl⟩
theorem tw_510 : hk_gd (Cond.instanceMethod yX6_takeMark) := ⟨hk_t106 (List.mem_of_getElem? (i := 70) rfl), rfl⟩
theorem tw_511 : hk_gd (Cond.methodLink RX6 159 yX6_takeMark) := ⟨hk_t106 (List.mem_of_getElem? (i := 69) rfl), rfl⟩
theorem tw_512 : hk_gd (Cond.constantLong RX6 157 4294967296) := ⟨hk_t106 (List.mem_of_getElem? (i := 68) rfl), rfl⟩
theorem tw_513 : hk_gd (Cond.code yX5_follow cX5_follow 4 none) := ⟨hk_t105 (List.mem_of_getElem? (i := 84) rfl), rfl⟩
theorem tw_514 : hk_gd (Cond.selects RX5 yX5_follow yX5_follow) := ⟨hk_t105 (List.mem_of_getElem? (i := 83) rfl), rfl⟩
theorem tw_515 : hk_gd (Cond.instanceMethod yX5_follow) := ⟨hk_t105 (List.mem_of_getElem? (i := 82) rfl), rfl⟩
theorem tw_516 : hk_gd (Cond.methodLink RX6 153 yX5_follow) := ⟨hk_t106 (List.mem_of_getElem? (i := 64) rfl), rfl⟩
theorem tw_517 : hk_gd (Cond.code yX5_codeFar cX5_codeFar 13 (some .long)) := ⟨hk_t105 (List.mem_of_getElem? (i := 58) rfl), rfl⟩
theorem tw_518 : hk_gd (Cond.selects RX5 yX5_codeFar yX5_codeFar) := ⟨hk_t105 (List.mem_of_getElem? (i := 57) rfl), rfl⟩
theorem tw_519 : hk_gd (Cond.instanceMethod yX5_codeFar) := ⟨hk_t105 (List.mem_of_getElem? (i := 56) rfl), rfl⟩
theorem tw_520 : hk_gd (Cond.instanceMethod yX3_undo) := ⟨hk_t106 (List.mem_of_getElem? (i := 175) rfl), rfl⟩
theorem tw_521 : hk_gd (Cond.methodLink RX6 262 yX3_undo) := ⟨hk_t106 (List.mem_of_getElem? (i := 174) rfl), rfl⟩
theorem tw_522 : hk_gd (Cond.fieldLink RX6 259 "LzmaChains$Head" "toldBytes" "J") := ⟨hk_t102 (List.mem_of_getElem? (i := 134) rfl), rfl⟩
theorem tw_523 : hk_gd (Cond.fieldLink RX6 256 "LzmaChains$Head" "toldPacked" "J") := ⟨hk_t102 (List.mem_of_getElem? (i := 132) rfl), rfl⟩
theorem tw_524 : hk_gd (Cond.methodLink RX6 237 yX0_isKind) := ⟨hk_t106 (List.mem_of_getElem? (i := 122) rfl), rfl⟩
theorem tw_525 : hk_gd (Cond.code yX5_codeLiteral cX5_codeLiteral 13 (some .int)) := ⟨hk_t105 (List.mem_of_getElem? (i := 45) rfl), rfl⟩
theorem tw_526 : hk_gd (Cond.selects RX5 yX5_codeLiteral yX5_codeLiteral) := ⟨hk_t105 (List.mem_of_getElem? (i := 44) rfl), rfl⟩
theorem tw_527 : hk_gd (Cond.instanceMethod yX5_codeLiteral) := ⟨hk_t105 (List.mem_of_getElem? (i := 43) rfl), rfl⟩
theorem tw_528 : hk_gd (Cond.methodLink RX6 178 yX5_codeLiteral) := ⟨hk_t106 (List.mem_of_getElem? (i := 62) rfl), rfl⟩
theorem tw_529 : hk_gd (Cond.code yX5_codeMatch cX5_codeMatch 2 (some .boolean)) := ⟨hk_t106 (List.mem_of_getElem? (i := 84) rfl), rfl⟩
theorem tw_530 : hk_gd (Cond.selects RX5 yX5_codeMatch yX5_codeMatch) := ⟨hk_t106 (List.mem_of_getElem? (i := 83) rfl), rfl⟩
theorem tw_531 : hk_gd (Cond.instanceMethod yX5_codeMatch) := ⟨hk_t106 (List.mem_of_getElem? (i := 82) rfl), rfl⟩
theorem tw_532 : hk_gd (Cond.methodLink RX6 182 yX5_codeMatch) := ⟨hk_t106 (List.mem_of_getElem? (i := 81) rfl), rfl⟩
theorem tw_533 : hk_gd (Cond.code yX4_putIndex cX4_putIndex 5 none) := ⟨hk_t105 (List.mem_of_getElem? (i := 221) rfl), rfl⟩
theorem tw_534 : hk_gd (Cond.selects RX4 yX4_putIndex yX4_putIndex) := ⟨hk_t105 (List.mem_of_getElem? (i := 220) rfl), rfl⟩
theorem tw_535 : hk_gd (Cond.instanceMethod yX4_putIndex) := ⟨hk_t105 (List.mem_of_getElem? (i := 219) rfl), rfl⟩
theorem tw_536 : hk_gd (Cond.methodLink RX6 276 yX4_putIndex) := ⟨hk_t106 (List.mem_of_getElem? (i := 187) rfl), rfl⟩
theorem tw_537 : hk_gd (Cond.methodLink RX6 270 yX0_bytesOf) := ⟨hk_t106 (List.mem_of_getElem? (i := 181) rfl), rfl⟩
theorem tw_538 : hk_gd (Cond.code yX3_readRest cX3_readRest 2 none) := ⟨hk_t106 (List.mem_of_getElem? (i := 167) rfl), rfl⟩
theorem tw_539 : hk_gd (Cond.selects RX3 yX3_readRest yX3_readRest) := ⟨hk_t106 (List.mem_of_getElem? (i := 166) rfl), rfl⟩
theorem tw_540 : hk_gd (Cond.instanceMethod yX3_readRest) := ⟨hk_t106 (List.mem_of_getElem? (i := 165) rfl), rfl⟩
theorem tw_541 : hk_gd (Cond.methodLink RX6 253 yX3_readRest) := ⟨hk_t106 (List.mem_of_getElem? (i := 164) rfl), rfl⟩
theorem tw_542 : hk_gd (Cond.fieldLink RX6 252 "LzmaChains$Head" "dictionary" "J") := ⟨hk_t102 (List.mem_of_getElem? (i := 136) rfl), rfl⟩
theorem tw_543 : hk_gd (Cond.code yX3_readFilters cX3_readFilters 2 none) := ⟨hk_t106 (List.mem_of_getElem? (i := 150) rfl), rfl⟩
theorem tw_544 : hk_gd (Cond.selects RX3 yX3_readFilters yX3_readFilters) := ⟨hk_t106 (List.mem_of_getElem? (i := 149) rfl), rfl⟩
theorem tw_545 : hk_gd (Cond.instanceMethod yX3_readFilters) := ⟨hk_t106 (List.mem_of_getElem? (i := 148) rfl), rfl⟩
theorem tw_546 : hk_gd (Cond.methodLink RX6 249 yX3_readFilters) := ⟨hk_t106 (List.mem_of_getElem? (i := 147) rfl), rfl⟩
theorem tw_547 : hk_gd (Cond.code yX3_readSizes cX3_readSizes 2 none) := ⟨hk_t106 (List.mem_of_getElem? (i := 135) rfl), rfl⟩
theorem tw_548 : hk_gd (Cond.selects RX3 yX3_readSizes yX3_readSizes) := ⟨hk_t106 (List.mem_of_getElem? (i := 134) rfl), rfl⟩
theorem tw_549 : hk_gd (Cond.instanceMethod yX3_readSizes) := ⟨hk_t106 (List.mem_of_getElem? (i := 133) rfl), rfl⟩
theorem tw_550 : hk_gd (Cond.methodLink RX6 246 yX3_readSizes) := ⟨hk_t106 (List.mem_of_getElem? (i := 132) rfl), rfl⟩
theorem tw_551 : hk_gd (Cond.code yX6_expect cX6_expect 3 none) := ⟨hk_t106 (List.mem_of_getElem? (i := 121) rfl), rfl⟩
theorem tw_552 : hk_gd (Cond.selects RX6 yX6_expect yX6_expect) := ⟨hk_t106 (List.mem_of_getElem? (i := 120) rfl), rfl⟩
theorem tw_553 : hk_gd (Cond.instanceMethod yX6_expect) := ⟨hk_t106 (List.mem_of_getElem? (i := 119) rfl), rfl⟩
theorem tw_554 : hk_gd (Cond.methodLink RX6 231 yX6_expect) := ⟨hk_t106 (List.mem_of_getElem? (i := 118) rfl), rfl⟩
theorem tw_555 : hk_gd (Cond.fieldLink RX6 234 "LzmaChains$Opener" "checkKind" "I") := ⟨hk_t102 (List.mem_of_getElem? (i := 169) rfl), rfl⟩
theorem tw_556 : hk_gd (Cond.fieldLink RX6 45 "LzmaChains$Opener" "expected" "LLzmaChains$Row;") := ⟨hk_t102 (List.mem_of_getElem? (i := 165) rfl), rfl⟩
theorem tw_557 : hk_gd (Cond.methodLink RX6 242 yX0_crc32) := ⟨hk_t106 (List.mem_of_getElem? (i := 123) rfl), rfl⟩
theorem tw_558 : hk_gd (Cond.code yX6_endChunk cX6_endChunk 1 none) := ⟨hk_t106 (List.mem_of_getElem? (i := 108) rfl), rfl⟩
theorem tw_559 : hk_gd (Cond.selects RX6 yX6_endChunk yX6_endChunk) := ⟨hk_t106 (List.mem_of_getElem? (i := 107) rfl), rfl⟩
theorem tw_560 : hk_gd (Cond.methodLink RX7 84 yX9_put) := ⟨hk_t104 (List.mem_of_getElem? (i := 156) rfl), rfl⟩
theorem tw_561 : hk_gd (Cond.fieldLink RX7 77 "LzmaChains$Settings" "mark" "I") := ⟨hk_t101 (List.mem_of_getElem? (i := 61) rfl), rfl⟩
theorem tw_562 : hk_gd (Cond.methodLink RX7 212 yX9_putHigh) := ⟨hk_t105 (List.mem_of_getElem? (i := 112) rfl), rfl⟩
theorem tw_563 : hk_gd (Cond.methodLink RX7 221 yX4_addBlock) := ⟨hk_t105 (List.mem_of_getElem? (i := 126) rfl), rfl⟩
theorem tw_564 : hk_gd (Cond.fieldLink RX7 178 "LzmaChains$Packer" "chunks" "I") := ⟨hk_t102 (List.mem_of_getElem? (i := 70) rfl), rfl⟩
theorem tw_565 : hk_gd (Cond.fieldLink RX7 15 "LzmaChains$Packer" "input" "LLzmaChains$Row;") := ⟨hk_t102 (List.mem_of_getElem? (i := 60) rfl), rfl⟩
theorem tw_566 : hk_gd (Cond.code yX10_propertyByte cX10_propertyByte 1 (some .int)) := ⟨hk_t104 (List.mem_of_getElem? (i := 155) rfl), rfl⟩
theorem tw_567 : hk_gd (Cond.selects RX10 yX10_propertyByte yX10_propertyByte) := ⟨hk_t104 (List.mem_of_getElem? (i := 154) rfl), rfl⟩
theorem tw_568 : hk_gd (Cond.instanceMethod yX10_propertyByte) := ⟨hk_t104 (List.mem_of_getElem? (i := 153) rfl), rfl⟩
theorem tw_569 : hk_gd (Cond.methodLink RX7 80 yX10_propertyByte) := ⟨hk_t104 (List.mem_of_getElem? (i := 152) rfl), rfl⟩
theorem tw_570 : hk_gd (Cond.code yX9_set cX9_set 3 none) := ⟨hk_t103 (List.mem_of_getElem? (i := 40) rfl), rfl⟩
theorem tw_571 : hk_gd (Cond.selects RX9 yX9_set yX9_set) := ⟨hk_t103 (List.mem_of_getElem? (i := 39) rfl), rfl⟩
theorem tw_572 : hk_gd (Cond.instanceMethod yX9_set) := ⟨hk_t103 (List.mem_of_getElem? (i := 38) rfl), rfl⟩
theorem tw_573 : hk_gd (Cond.methodLink RX7 218 yX9_set) := ⟨hk_t105 (List.mem_of_getElem? (i := 117) rfl), rfl⟩
theorem tw_574 : hk_gd (Cond.fieldLink RX7 206 "LzmaChains$Model" "state" "I") := ⟨hk_t101 (List.mem_of_getElem? (i := 189) rfl), rfl⟩
theorem tw_575 : hk_gd (Cond.fieldLink RX7 209 "LzmaChains$Packer" "stateBefore" "I") := ⟨hk_t102 (List.mem_of_getElem? (i := 75) rfl), rfl⟩
theorem tw_576 : hk_gd (Cond.fieldLink RX7 200 "LzmaChains$Ledger" "steps" "I") := ⟨hk_t101 (List.mem_of_getElem? (i := 231) rfl), rfl⟩
theorem tw_577 : hk_gd (Cond.fieldLink RX7 203 "LzmaChains$Packer" "stepsBefore" "I") := ⟨hk_t102 (List.mem_of_getElem? (i := 74) rfl), rfl⟩
theorem tw_578 : hk_gd (Cond.fieldLink RX7 197 "LzmaChains$Packer" "partPlace" "I") := ⟨hk_t102 (List.mem_of_getElem? (i := 72) rfl), rfl⟩
theorem tw_579 : hk_gd (Cond.fieldLink RX7 215 "LzmaChains$Packer" "bitsPlace" "I") := ⟨hk_t102 (List.mem_of_getElem? (i := 73) rfl), rfl⟩
theorem tw_580 : hk_gd (Cond.methodLink RX7 74 yX5_reset) := ⟨hk_t103 (List.mem_of_getElem? (i := 66) rfl), rfl⟩
theorem tw_581 : hk_gd (Cond.methodLink RX7 68 yX5_use) := ⟨hk_t103 (List.mem_of_getElem? (i := 62) rfl), rfl⟩
theorem tw_582 : hk_gd (Cond.fieldLink RX7 65 "LzmaChains$Settings" "pb" "I") := ⟨hk_t101 (List.mem_of_getElem? (i := 51) rfl), rfl⟩
theorem tw_583 : hk_gd (Cond.fieldLink RX7 62 "LzmaChains$Settings" "lp" "I") := ⟨hk_t101 (List.mem_of_getElem? (i := 49) rfl), rfl⟩
theorem tw_584 : hk_gd (Cond.fieldLink RX7 57 "LzmaChains$Settings" "lc" "I") := ⟨hk_t101 (List.mem_of_getElem? (i := 47) rfl), rfl⟩
theorem tw_585 : hk_gd (Cond.fieldLink RX7 9 "LzmaChains$Packer" "settings" "LLzmaChains$Settings;") := ⟨hk_t102 (List.mem_of_getElem? (i := 59) rfl), rfl⟩
theorem tw_586 : hk_gd (Cond.fieldLink RX7 22 "LzmaChains$Packer" "model" "LLzmaChains$Model;") := ⟨hk_t102 (List.mem_of_getElem? (i := 62) rfl), rfl⟩
theorem tw_587 : hk_gd (Cond.methodLink RX7 52 yX4_clear) := ⟨hk_t103 (List.mem_of_getElem? (i := 58) rfl), rfl⟩
theorem tw_588 : hk_gd (Cond.fieldLink RX7 30 "LzmaChains$Packer" "ledger" "LLzmaChains$Ledger;") := ⟨hk_t102 (List.mem_of_getElem? (i := 64) rfl), rfl⟩
theorem tw_589 : hk_gd (Cond.fieldLink RX7 47 "LzmaChains$Row" "size" "I") := ⟨hk_t101 (List.mem_of_getElem? (i := 99) rfl), rfl⟩
theorem tw_590 : hk_gd (Cond.fieldLink RX7 19 "LzmaChains$Packer" "output" "LLzmaChains$Row;") := ⟨hk_t102 (List.mem_of_getElem? (i := 61) rfl), rfl⟩
theorem tw_591 : hk_gd (Cond.fieldLink RX7 43 "LzmaChains$Packer" "level" "I") := ⟨hk_t102 (List.mem_of_getElem? (i := 66) rfl), rfl⟩
theorem tw_592 : hk_gd (Cond.code yX0_byteOf cX0_byteOf 5 (some .int)) := ⟨hk_t105 (List.mem_of_getElem? (i := 213) rfl), rfl⟩
theorem tw_593 : hk_gd (Cond.selects RX0 yX0_byteOf yX0_byteOf) := ⟨hk_t105 (List.mem_of_getElem? (i := 212) rfl), rfl⟩
theorem tw_594 : hk_gd (Cond.instanceMethod yX0_byteOf) := ⟨hk_t105 (List.mem_of_getElem? (i := 211) rfl), rfl⟩
theorem tw_595 : hk_gd (Cond.methodLink RX6 273 yX0_byteOf) := ⟨hk_t106 (List.mem_of_getElem? (i := 182) rfl), rfl⟩
theorem tw_596 : hk_gd (Cond.methodLink RX6 266 yX0_compute) := ⟨hk_t106 (List.mem_of_getElem? (i := 180) rfl), rfl⟩
theorem tw_597 : hk_gd (Cond.fieldLink RX6 23 "LzmaChains$Opener" "checks" "LLzmaChains$Checks;") := ⟨hk_t102 (List.mem_of_getElem? (i := 162) rfl), rfl⟩
theorem tw_598 : hk_gd (Cond.code yX3_undo cX3_undo 4 none) := ⟨hk_t106 (List.mem_of_getElem? (i := 177) rfl), rfl⟩
theorem tw_599 : hk_gd (Cond.selects RX3 yX3_undo yX3_undo) := ⟨hk_t106 (List.mem_of_getElem? (i := 176) rfl), rfl⟩
theorem tw_600 : hk_gd (Cond.fieldLink RX7 139 "LzmaChains$Chooser" "far" "I") := ⟨hk_t102 (List.mem_of_getElem? (i := 30) rfl), rfl⟩
theorem tw_601 : hk_gd (Cond.fieldLink RX7 136 "LzmaChains$Chooser" "kind" "I") := ⟨hk_t102 (List.mem_of_getElem? (i := 26) rfl), rfl⟩
theorem tw_602 : hk_gd (Cond.code yX2_flush cX2_flush 2 none) := ⟨hk_t105 (List.mem_of_getElem? (i := 102) rfl), rfl⟩
theorem tw_603 : hk_gd (Cond.selects RX2 yX2_flush yX2_flush) := ⟨hk_t105 (List.mem_of_getElem? (i := 101) rfl), rfl⟩
theorem tw_604 : hk_gd (Cond.instanceMethod yX2_flush) := ⟨hk_t105 (List.mem_of_getElem? (i := 100) rfl), rfl⟩
theorem tw_605 : hk_gd (Cond.methodLink RX7 133 yX2_flush) := ⟨hk_t105 (List.mem_of_getElem? (i := 99) rfl), rfl⟩
theorem tw_606 : hk_gd (Cond.code yX7_writeMark cX7_writeMark 2 none) := ⟨hk_t105 (List.mem_of_getElem? (i := 97) rfl), rfl⟩
theorem tw_607 : hk_gd (Cond.selects RX7 yX7_writeMark yX7_writeMark) := ⟨hk_t105 (List.mem_of_getElem? (i := 96) rfl), rfl⟩
theorem tw_608 : hk_gd (Cond.instanceMethod yX7_writeMark) := ⟨hk_t105 (List.mem_of_getElem? (i := 95) rfl), rfl⟩
theorem tw_609 : hk_gd (Cond.methodLink RX7 130 yX7_writeMark) := ⟨hk_t105 (List.mem_of_getElem? (i := 94) rfl), rfl⟩
theorem tw_610 : hk_gd (Cond.methodLink RX7 124 Lib.Math.max.name) := ⟨hk_t105 (List.mem_of_getElem? (i := 93) rfl), rfl⟩
theorem tw_611 : hk_gd (Cond.fieldLink RX7 121 "LzmaChains$Chooser" "length" "I") := ⟨hk_t102 (List.mem_of_getElem? (i := 28) rfl), rfl⟩
theorem tw_612 : hk_gd (Cond.code yX7_writeChoice cX7_writeChoice 8 none) := ⟨hk_t104 (List.mem_of_getElem? (i := 226) rfl), rfl⟩
theorem tw_613 : hk_gd (Cond.selects RX7 yX7_writeChoice yX7_writeChoice) := ⟨hk_t104 (List.mem_of_getElem? (i := 225) rfl), rfl⟩
theorem tw_614 : hk_gd (Cond.instanceMethod yX7_writeChoice) := ⟨hk_t104 (List.mem_of_getElem? (i := 224) rfl), rfl⟩
theorem tw_615 : hk_gd (Cond.methodLink RX7 118 yX7_writeChoice) := ⟨hk_t104 (List.mem_of_getElem? (i := 223) rfl), rfl⟩
theorem tw_616 : hk_gd (Cond.code yX1_choose cX1_choose 3 none) := ⟨hk_t104 (List.mem_of_getElem? (i := 194) rfl), rfl⟩
theorem tw_617 : hk_gd (Cond.selects RX1 yX1_choose yX1_choose) := ⟨hk_t104 (List.mem_of_getElem? (i := 193) rfl), rfl⟩
theorem tw_618 : hk_gd (Cond.instanceMethod yX1_choose) := ⟨hk_t104 (List.mem_of_getElem? (i := 192) rfl), rfl⟩
theorem tw_619 : hk_gd (Cond.methodLink RX7 114 yX1_choose) := ⟨hk_t104 (List.mem_of_getElem? (i := 191) rfl), rfl⟩
theorem tw_620 : hk_gd (Cond.code yX2_beginPacking cX2_beginPacking 1 none) := ⟨hk_t104 (List.mem_of_getElem? (i := 189) rfl), rfl⟩
theorem tw_621 : hk_gd (Cond.selects RX2 yX2_beginPacking yX2_beginPacking) := ⟨hk_t104 (List.mem_of_getElem? (i := 188) rfl), rfl⟩
theorem tw_622 : hk_gd (Cond.instanceMethod yX2_beginPacking) := ⟨hk_t104 (List.mem_of_getElem? (i := 187) rfl), rfl⟩
theorem tw_623 : hk_gd (Cond.methodLink RX7 109 yX2_beginPacking) := ⟨hk_t104 (List.mem_of_getElem? (i := 186) rfl), rfl⟩
theorem tw_624 : hk_gd (Cond.fieldLink RX7 105 "LzmaChains$Model" "coder" "LLzmaChains$Coder;") := ⟨hk_t101 (List.mem_of_getElem? (i := 181) rfl), rfl⟩
theorem tw_625 : hk_gd (Cond.code yX1_prepare cX1_prepare 6 none) := ⟨hk_t104 (List.mem_of_getElem? (i := 169) rfl), rfl⟩
theorem tw_626 : hk_gd (Cond.selects RX1 yX1_prepare yX1_prepare) := ⟨hk_t104 (List.mem_of_getElem? (i := 168) rfl), rfl⟩
theorem tw_627 : hk_gd (Cond.instanceMethod yX1_prepare) := ⟨hk_t104 (List.mem_of_getElem? (i := 167) rfl), rfl⟩
theorem tw_628 : hk_gd (Cond.methodLink RX7 101 yX1_prepare) := ⟨hk_t104 (List.mem_of_getElem? (i := 166) rfl), rfl⟩
theorem tw_629 : hk_gd (Cond.fieldLink RX7 39 "LzmaChains$Packer" "chooser" "LLzmaChains$Chooser;") := ⟨hk_t102 (List.mem_of_getElem? (i := 65) rfl), rfl⟩
theorem tw_630 : hk_gd (Cond.code yX7_writeBits cX7_writeBits 6 none) := ⟨hk_t104 (List.mem_of_getElem? (i := 165) rfl), rfl⟩
theorem tw_631 : hk_gd (Cond.selects RX7 yX7_writeBits yX7_writeBits) := ⟨hk_t104 (List.mem_of_getElem? (i := 164) rfl), rfl⟩
theorem tw_632 : hk_gd (Cond.instanceMethod yX7_writeBits) := ⟨hk_t104 (List.mem_of_getElem? (i := 163) rfl), rfl⟩
theorem tw_633 : hk_gd (Cond.methodLink RX7 97 yX7_writeBits) := ⟨hk_t104 (List.mem_of_getElem? (i := 162) rfl), rfl⟩
theorem tw_634 : hk_gd (Cond.constantLong RX7 95 (-1)) := ⟨hk_t104 (List.mem_of_getElem? (i := 161) rfl), rfl⟩
theorem tw_635 : hk_gd (Cond.code yX9_putLow cX9_putLow 5 none) := ⟨hk_t104 (List.mem_of_getElem? (i := 160) rfl), rfl⟩
theorem tw_636 : hk_gd (Cond.selects RX9 yX9_putLow yX9_putLow) := ⟨hk_t104 (List.mem_of_getElem? (i := 159) rfl), rfl⟩
theorem tw_637 : hk_gd (Cond.instanceMethod yX9_putLow) := ⟨hk_t104 (List.mem_of_getElem? (i := 158) rfl), rfl⟩
theorem tw_638 : hk_gd (Cond.methodLink RX7 91 yX9_putLow) := ⟨hk_t104 (List.mem_of_getElem? (i := 157) rfl), rfl⟩
theorem tw_639 : hk_gd (Cond.fieldLink RX7 88 "LzmaChains$Settings" "dictionary" "I") := ⟨hk_t101 (List.mem_of_getElem? (i := 53) rfl), rfl⟩
theorem tw_640 : hk_gd (Cond.instanceMethod yX7_writeFilter) := ⟨hk_t105 (List.mem_of_getElem? (i := 188) rfl), rfl⟩
theorem tw_641 : hk_gd (Cond.methodLink RX7 254 yX7_writeFilter) := ⟨hk_t105 (List.mem_of_getElem? (i := 187) rfl), rfl⟩
theorem tw_642 : hk_gd (Cond.methodLink RX7 252 yX9_delta) := ⟨hk_t105 (List.mem_of_getElem? (i := 182) rfl), rfl⟩
theorem tw_643 : hk_gd (Cond.fieldLink RX7 249 "LzmaChains$Packer" "headSize" "I") := ⟨hk_t102 (List.mem_of_getElem? (i := 68) rfl), rfl⟩
theorem tw_644 : hk_gd (Cond.fieldLink RX7 246 "LzmaChains$Settings" "branch" "I") := ⟨hk_t101 (List.mem_of_getElem? (i := 66) rfl), rfl⟩
theorem tw_645 : hk_gd (Cond.fieldLink RX7 243 "LzmaChains$Settings" "delta" "I") := ⟨hk_t101 (List.mem_of_getElem? (i := 64) rfl), rfl⟩
theorem tw_646 : hk_gd (Cond.fieldLink RX7 240 "LzmaChains$Packer" "headPlace" "I") := ⟨hk_t102 (List.mem_of_getElem? (i := 67) rfl), rfl⟩
theorem tw_647 : hk_gd (Cond.methodLink RX7 236 yX0_compute) := ⟨hk_t105 (List.mem_of_getElem? (i := 149) rfl), rfl⟩
theorem tw_648 : hk_gd (Cond.fieldLink RX7 26 "LzmaChains$Packer" "checks" "LLzmaChains$Checks;") := ⟨hk_t102 (List.mem_of_getElem? (i := 63) rfl), rfl⟩
theorem tw_649 : hk_gd (Cond.methodLink RX7 227 yX0_crc32) := ⟨hk_t105 (List.mem_of_getElem? (i := 138) rfl), rfl⟩
theorem tw_650 : hk_gd (Cond.code yX7_writeFlags cX7_writeFlags 1 none) := ⟨hk_t105 (List.mem_of_getElem? (i := 137) rfl), rfl⟩
theorem tw_651 : hk_gd (Cond.selects RX7 yX7_writeFlags yX7_writeFlags) := ⟨hk_t105 (List.mem_of_getElem? (i := 136) rfl), rfl⟩
theorem tw_652 : hk_gd (Cond.instanceMethod yX7_writeFlags) := ⟨hk_t105 (List.mem_of_getElem? (i := 135) rfl), rfl⟩
theorem tw_653 : hk_gd (Cond.methodLink RX7 224 yX7_writeFlags) := ⟨hk_t105 (List.mem_of_getElem? (i := 134) rfl), rfl⟩
theorem tw_654 : hk_gd (Cond.fieldLink RX7 272 "LzmaChains$Packer" "indexPlace" "I") := ⟨hk_t102 (List.mem_of_getElem? (i := 71) rfl), rfl⟩
theorem tw_655 : hk_gd (Cond.fieldLink RX7 233 "LzmaChains$Settings" "check" "I") := ⟨hk_t101 (List.mem_of_getElem? (i := 60) rfl), rfl⟩
theorem tw_656 : hk_gd (Cond.methodLink RX7 263 yX9_putNumber) := ⟨hk_t105 (List.mem_of_getElem? (i := 191) rfl), rfl⟩
theorem tw_657 : hk_gd (Cond.code yX7_writePlain cX7_writePlain 5 none) := ⟨hk_t105 (List.mem_of_getElem? (i := 121) rfl), rfl⟩
theorem tw_658 : hk_gd (Cond.selects RX7 yX7_writePlain yX7_writePlain) := ⟨hk_t105 (List.mem_of_getElem? (i := 120) rfl), rfl⟩
theorem tw_659 : hk_gd (Cond.instanceMethod yX7_writePlain) := ⟨hk_t105 (List.mem_of_getElem? (i := 119) rfl), rfl⟩
theorem tw_660 : hk_gd (Cond.methodLink RX7 194 yX7_writePlain) := ⟨hk_t105 (List.mem_of_getElem? (i := 118) rfl), rfl⟩
theorem tw_661 : hk_gd (Cond.code yX7_endPart cX7_endPart 4 (some .boolean)) := ⟨hk_t105 (List.mem_of_getElem? (i := 116) rfl), rfl⟩
theorem tw_662 : hk_gd (Cond.selects RX7 yX7_endPart yX7_endPart) := ⟨hk_t105 (List.mem_of_getElem? (i := 115) rfl), rfl⟩
theorem tw_663 : hk_gd (Cond.instanceMethod yX7_endPart) := ⟨hk_t105 (List.mem_of_getElem? (i := 114) rfl), rfl⟩
theorem tw_664 : hk_gd (Cond.methodLink RX7 190 yX7_endPart) := ⟨hk_t105 (List.mem_of_getElem? (i := 113) rfl), rfl⟩
theorem tw_665 : hk_gd (Cond.code yX7_startPart cX7_startPart 2 none) := ⟨hk_t105 (List.mem_of_getElem? (i := 111) rfl), rfl⟩
theorem tw_666 : hk_gd (Cond.selects RX7 yX7_startPart yX7_startPart) := ⟨hk_t105 (List.mem_of_getElem? (i := 110) rfl), rfl⟩
theorem tw_667 : hk_gd (Cond.instanceMethod yX7_startPart) := ⟨hk_t105 (List.mem_of_getElem? (i := 109) rfl), rfl⟩
theorem tw_668 : hk_gd (Cond.methodLink RX7 187 yX7_startPart) := ⟨hk_t105 (List.mem_of_getElem? (i := 108) rfl), rfl⟩
theorem tw_669 : hk_gd (Cond.methodLink RX7 184 Lib.Math.min.name) := ⟨hk_t105 (List.mem_of_getElem? (i := 107) rfl), rfl⟩
theorem tw_670 : hk_gd (Cond.fieldLink RX7 181 "LzmaChains$Settings" "chunk" "I") := ⟨hk_t101 (List.mem_of_getElem? (i := 56) rfl), rfl⟩
theorem tw_671 : hk_gd (Cond.fieldLink RX7 175 "LzmaChains$Packer" "chunkPlace" "I") := ⟨hk_t102 (List.mem_of_getElem? (i := 69) rfl), rfl⟩
theorem tw_672 : hk_gd (Cond.methodLink RX7 169 yX4_addStep) := ⟨hk_t105 (List.mem_of_getElem? (i := 89) rfl), rfl⟩
theorem tw_673 : hk_gd (Cond.methodLink RX7 165 yX5_follow) := ⟨hk_t105 (List.mem_of_getElem? (i := 81) rfl), rfl⟩
theorem tw_674 : hk_gd (Cond.methodLink RX7 161 yX5_codeFar) := ⟨hk_t105 (List.mem_of_getElem? (i := 55) rfl), rfl⟩
theorem tw_675 : hk_gd (Cond.methodLink RX7 157 yX5_codeLength) := ⟨hk_t105 (List.mem_of_getElem? (i := 46) rfl), rfl⟩
theorem tw_676 : hk_gd (Cond.methodLink RX7 153 yX5_codeLiteral) := ⟨hk_t105 (List.mem_of_getElem? (i := 42) rfl), rfl⟩
theorem tw_677 : hk_gd (Cond.methodLink RX7 149 yX5_back) := ⟨hk_t105 (List.mem_of_getElem? (i := 41) rfl), rfl⟩
theorem tw_678 : hk_gd (Cond.methodLink RX7 145 yX9_get) := ⟨hk_t105 (List.mem_of_getElem? (i := 40) rfl), rfl⟩
theorem tw_679 : hk_gd (Cond.methodLink RX7 142 yX5_codeKind) := ⟨hk_t104 (List.mem_of_getElem? (i := 227) rfl), rfl⟩
theorem tw_680 : hk_gd (Cond.methodLink RX9 21 yX9_put) := ⟨hk_t103 (List.mem_of_getElem? (i := 33) rfl), rfl⟩
theorem tw_681 : hk_gd (Cond.fieldLink RX9 13 "LzmaChains$Row" "size" "I") := ⟨hk_t101 (List.mem_of_getElem? (i := 98) rfl), rfl⟩
theorem tw_682 : hk_gd (Cond.fieldLink RX9 7 "LzmaChains$Row" "data" "[I") := ⟨hk_t101 (List.mem_of_getElem? (i := 94) rfl), rfl⟩
theorem tw_683 : hk_gd (Cond.methodLink RX9 17 yX9_set) := ⟨hk_t103 (List.mem_of_getElem? (i := 37) rfl), rfl⟩
theorem tw_684 : hk_gd (Cond.methodLink RX9 25 yX9_get) := ⟨hk_t105 (List.mem_of_getElem? (i := 186) rfl), rfl⟩
theorem tw_685 : hk_gd (Cond.fieldLink RX8 28 "LzmaChains$Row" "data" "[I") := ⟨hk_t101 (List.mem_of_getElem? (i := 96) rfl), rfl⟩
theorem tw_686 : hk_gd (Cond.methodLink RX8 35 yX8_next) := ⟨hk_t106 (List.mem_of_getElem? (i := 31) rfl), rfl⟩
theorem tw_687 : hk_gd (Cond.initialized "java/lang/IllegalStateException") := ⟨hk_t101 (List.mem_of_getElem? (i := 30) rfl), rfl⟩
theorem tw_688 : hk_gd (Cond.classLink RX8 32 "java/lang/IllegalStateException") := ⟨hk_t105 (List.mem_of_getElem? (i := 8) rfl), rfl⟩
theorem tw_689 : hk_gd (Cond.fieldLink RX8 25 "LzmaChains$Reader" "broken" "I") := ⟨hk_t101 (List.mem_of_getElem? (i := 127) rfl), rfl⟩
theorem tw_690 : hk_gd (Cond.fieldLink RX8 22 "LzmaChains$Reader" "limit" "I") := ⟨hk_t101 (List.mem_of_getElem? (i := 125) rfl), rfl⟩
theorem tw_691 : hk_gd (Cond.fieldLink RX8 17 "LzmaChains$Row" "size" "I") := ⟨hk_t101 (List.mem_of_getElem? (i := 100) rfl), rfl⟩
theorem tw_692 : hk_gd (Cond.fieldLink RX8 7 "LzmaChains$Reader" "row" "LLzmaChains$Row;") := ⟨hk_t101 (List.mem_of_getElem? (i := 118) rfl), rfl⟩
theorem tw_693 : hk_gd (Cond.fieldLink RX8 13 "LzmaChains$Reader" "at" "I") := ⟨hk_t101 (List.mem_of_getElem? (i := 121) rfl), rfl⟩
theorem tw_694 : hk_gd (Cond.methodLink RX7 269 yX0_byteOf) := ⟨hk_t105 (List.mem_of_getElem? (i := 210) rfl), rfl⟩
theorem tw_695 : hk_gd (Cond.constantLong RX7 173 4294967296) := ⟨hk_t105 (List.mem_of_getElem? (i := 98) rfl), rfl⟩
theorem tw_696 : hk_gd (Cond.methodLink RX7 275 yX4_putIndex) := ⟨hk_t105 (List.mem_of_getElem? (i := 218) rfl), rfl⟩
theorem tw_697 : hk_gd (Cond.methodLink RX7 266 yX0_bytesOf) := ⟨hk_t105 (List.mem_of_getElem? (i := 207) rfl), rfl⟩
theorem tw_698 : hk_gd (Cond.methodLink RX7 260 yX9_putZeros) := ⟨hk_t105 (List.mem_of_getElem? (i := 199) rfl), rfl⟩
theorem tw_699 : hk_gd (Cond.methodLink RX7 257 yX9_branch) := ⟨hk_t105 (List.mem_of_getElem? (i := 195) rfl), rfl⟩
theorem tw_700 : hk_gd (Cond.code yX7_writeFilter cX7_writeFilter 4 none) := ⟨hk_t105 (List.mem_of_getElem? (i := 190) rfl), rfl⟩
theorem tw_701 : hk_gd (Cond.selects RX7 yX7_writeFilter yX7_writeFilter) := ⟨hk_t105 (List.mem_of_getElem? (i := 189) rfl), rfl⟩
theorem tw_702 : hk_gd (Cond.code yX12_sameFrom cX12_sameFrom 5 (some .int)) := ⟨hk_t109 (List.mem_of_getElem? (i := 14) rfl), rfl⟩
theorem tw_703 : hk_gd (Cond.selects RX12 yX12_sameFrom yX12_sameFrom) := ⟨hk_tp (q := (yX12_sameFrom, _)) (hk_p2 (List.mem_of_getElem? (i := 12) rfl)), rfl⟩
theorem tw_704 : hk_gd (Cond.instanceMethod yX12_sameFrom) := ⟨hk_t109 (List.mem_of_getElem? (i := 13) rfl), rfl⟩
theorem tw_705 : hk_gd (Cond.methodLink RX12 312 yX12_sameFrom) := ⟨hk_t109 (List.mem_of_getElem? (i := 11) rfl), rfl⟩
theorem tw_706 : hk_gd (Cond.code yX12_backOf cX12_backOf 2 (some .int)) := ⟨hk_t109 (List.mem_of_getElem? (i := 29) rfl), rfl⟩
theorem tw_707 : hk_gd (Cond.selects RX12 yX12_backOf yX12_backOf) := ⟨hk_tp (q := (yX12_backOf, _)) (hk_p2 (List.mem_of_getElem? (i := 15) rfl)), rfl⟩
theorem tw_708 : hk_gd (Cond.instanceMethod yX12_backOf) := ⟨hk_t109 (List.mem_of_getElem? (i := 28) rfl), rfl⟩
theorem tw_709 : hk_gd (Cond.methodLink RX12 246 yX12_backOf) := ⟨hk_t109 (List.mem_of_getElem? (i := 26) rfl), rfl⟩
theorem tw_710 : hk_gd (Cond.fieldLink RX12 231 "LzmaChainsModel" "st" "I") := ⟨hk_t107 (List.mem_of_getElem? (i := 76) rfl), rfl⟩
theorem tw_711 : hk_gd (Cond.fieldLink RX12 59 "LzmaChainsModel" "stepFar" "[I") := ⟨hk_t107 (List.mem_of_getElem? (i := 64) rfl), rfl⟩
theorem tw_712 : hk_gd (Cond.fieldLink RX12 56 "LzmaChainsModel" "stepLength" "[I") := ⟨hk_t107 (List.mem_of_getElem? (i := 63) rfl), rfl⟩
theorem tw_713 : hk_gd (Cond.fieldLink RX12 53 "LzmaChainsModel" "stepAt" "[I") := ⟨hk_t107 (List.mem_of_getElem? (i := 62) rfl), rfl⟩
theorem tw_714 : hk_gd (Cond.fieldLink RX12 50 "LzmaChainsModel" "stepKind" "[I") := ⟨hk_t107 (List.mem_of_getElem? (i := 61) rfl), rfl⟩
theorem tw_715 : hk_gd (Cond.fieldLink RX12 222 "LzmaChainsModel" "steps" "I") := ⟨hk_t107 (List.mem_of_getElem? (i := 60) rfl), rfl⟩
theorem tw_716 : hk_gd (Cond.code yX12_mixSha cX12_mixSha 12 none) := ⟨hk_t108 (List.mem_of_getElem? (i := 151) rfl), rfl⟩
theorem tw_717 : hk_gd (Cond.selects RX12 yX12_mixSha yX12_mixSha) := ⟨hk_tp (q := (yX12_mixSha, _)) (hk_p1 (List.mem_of_getElem? (i := 10) rfl)), rfl⟩
theorem tw_718 : hk_gd (Cond.instanceMethod yX12_mixSha) := ⟨hk_t108 (List.mem_of_getElem? (i := 150) rfl), rfl⟩
theorem tw_719 : hk_gd (Cond.methodLink RX12 157 yX12_mixSha) := ⟨hk_t108 (List.mem_of_getElem? (i := 148) rfl), rfl⟩
theorem tw_720 : hk_gd (Cond.constantLong RX12 155 8) := ⟨hk_t108 (List.mem_of_getElem? (i := 147) rfl), rfl⟩
theorem tw_721 : hk_gd (Cond.fieldLink RX12 152 "LzmaChainsModel" "shaAll" "J") := ⟨hk_t107 (List.mem_of_getElem? (i := 55) rfl), rfl⟩
theorem tw_722 : hk_gd (Cond.fieldLink RX12 41 "LzmaChainsModel" "shaRow" "[I") := ⟨hk_t107 (List.mem_of_getElem? (i := 53) rfl), rfl⟩
theorem tw_723 : hk_gd (Cond.fieldLink RX12 149 "LzmaChainsModel" "shaFilled" "I") := ⟨hk_t107 (List.mem_of_getElem? (i := 54) rfl), rfl⟩
theorem tw_724 : hk_gd (Cond.code yX12_addSha cX12_addSha 3 none) := ⟨hk_t108 (List.mem_of_getElem? (i := 146) rfl), rfl⟩
theorem tw_725 : hk_gd (Cond.selects RX12 yX12_addSha yX12_addSha) := ⟨hk_tp (q := (yX12_addSha, _)) (hk_p1 (List.mem_of_getElem? (i := 9) rfl)), rfl⟩
theorem tw_726 : hk_gd (Cond.instanceMethod yX12_addSha) := ⟨hk_t108 (List.mem_of_getElem? (i := 145) rfl), rfl⟩
theorem tw_727 : hk_gd (Cond.methodLink RX12 167 yX12_addSha) := ⟨hk_t108 (List.mem_of_getElem? (i := 143) rfl), rfl⟩
theorem tw_728 : hk_gd (Cond.code yX12_add64 cX12_add64 3 none) := ⟨hk_t108 (List.mem_of_getElem? (i := 141) rfl), rfl⟩
theorem tw_729 : hk_gd (Cond.selects RX12 yX12_add64 yX12_add64) := ⟨hk_tp (q := (yX12_add64, _)) (hk_p1 (List.mem_of_getElem? (i := 8) rfl)), rfl⟩
theorem tw_730 : hk_gd (Cond.instanceMethod yX12_add64) := ⟨hk_t108 (List.mem_of_getElem? (i := 140) rfl), rfl⟩
theorem tw_731 : hk_gd (Cond.methodLink RX12 185 yX12_add64) := ⟨hk_t108 (List.mem_of_getElem? (i := 138) rfl), rfl⟩
theorem tw_732 : hk_gd (Cond.code yX12_add32 cX12_add32 2 none) := ⟨hk_t108 (List.mem_of_getElem? (i := 137) rfl), rfl⟩
theorem tw_733 : hk_gd (Cond.initialized RX12) := ⟨hk_t101 (List.mem_of_getElem? (i := 13) rfl), rfl⟩
theorem tw_734 : hk_gd (Cond.selects RX12 yX12_add32 yX12_add32) := ⟨hk_tp (q := (yX12_add32, _)) (hk_p1 (List.mem_of_getElem? (i := 7) rfl)), rfl⟩
theorem tw_735 : hk_gd (Cond.instanceMethod yX12_add32) := ⟨hk_t108 (List.mem_of_getElem? (i := 136) rfl), rfl⟩
theorem tw_736 : hk_gd (Cond.methodLink RX12 182 yX12_add32) := ⟨hk_t108 (List.mem_of_getElem? (i := 134) rfl), rfl⟩
theorem tw_737 : hk_gd (Cond.fieldLink RX12 171 "LzmaChainsModel" "checkNow" "I") := ⟨hk_t107 (List.mem_of_getElem? (i := 57) rfl), rfl⟩
theorem tw_738 : hk_gd (Cond.constantLong RX12 139 (-3932672073523589310)) := ⟨hk_t108 (List.mem_of_getElem? (i := 142) rfl), rfl⟩
theorem tw_739 : hk_gd (Cond.fieldLink RX12 135 "LzmaChainsModel" "sum64" "J") := ⟨hk_t107 (List.mem_of_getElem? (i := 51) rfl), rfl⟩
theorem tw_740 : hk_gd (Cond.fieldLink RX12 35 "LzmaChainsModel" "table32" "[I") := ⟨hk_t107 (List.mem_of_getElem? (i := 49) rfl), rfl⟩
theorem tw_741 : hk_gd (Cond.fieldLink RX12 132 "LzmaChainsModel" "sum32" "I") := ⟨hk_t107 (List.mem_of_getElem? (i := 50) rfl), rfl⟩
theorem tw_742 : hk_gd (Cond.instanceMethod yX12_readProperty) := ⟨hk_t109 (List.mem_of_getElem? (i := 158) rfl), rfl⟩
theorem tw_743 : hk_gd (Cond.methodLink RX12 542 yX12_readProperty) := ⟨hk_t109 (List.mem_of_getElem? (i := 156) rfl), rfl⟩
theorem tw_744 : hk_gd (Cond.constant RX12 148 1541459225) := ⟨hk_t108 (List.mem_of_getElem? (i := 129) rfl), rfl⟩
theorem tw_745 : hk_gd (Cond.constant RX12 147 528734635) := ⟨hk_t108 (List.mem_of_getElem? (i := 128) rfl), rfl⟩
theorem tw_746 : hk_gd (Cond.constant RX12 146 (-1694144372)) := ⟨hk_t108 (List.mem_of_getElem? (i := 127) rfl), rfl⟩
theorem tw_747 : hk_gd (Cond.constant RX12 145 1359893119) := ⟨hk_t108 (List.mem_of_getElem? (i := 126) rfl), rfl⟩
theorem tw_748 : hk_gd (Cond.constant RX12 144 (-1521486534)) := ⟨hk_t108 (List.mem_of_getElem? (i := 125) rfl), rfl⟩
theorem tw_749 : hk_gd (Cond.constant RX12 143 1013904242) := ⟨hk_t108 (List.mem_of_getElem? (i := 124) rfl), rfl⟩
theorem tw_750 : hk_gd (Cond.constant RX12 142 (-1150833019)) := ⟨hk_t108 (List.mem_of_getElem? (i := 123) rfl), rfl⟩
theorem tw_751 : hk_gd (Cond.constant RX12 141 1779033703) := ⟨hk_t108 (List.mem_of_getElem? (i := 122) rfl), rfl⟩
theorem tw_752 : hk_gd (Cond.fieldLink RX12 38 "LzmaChainsModel" "sha" "[I") := ⟨hk_t107 (List.mem_of_getElem? (i := 52) rfl), rfl⟩
theorem tw_753 : hk_gd (Cond.fieldLink RX12 485 "LzmaChainsModel" "code" "J") := ⟨hk_t107 (List.mem_of_getElem? (i := 112) rfl), rfl⟩
theorem tw_754 : hk_gd (Cond.code yX12_fail cX12_fail 2 none) := ⟨hk_t109 (List.mem_of_getElem? (i := 167) rfl), rfl⟩
theorem tw_755 : hk_gd (Cond.selects RX12 yX12_fail yX12_fail) := ⟨hk_tp (q := (yX12_fail, _)) (hk_p4 (List.mem_of_getElem? (i := 15) rfl)), rfl⟩
theorem tw_756 : hk_gd (Cond.instanceMethod yX12_fail) := ⟨hk_t109 (List.mem_of_getElem? (i := 166) rfl), rfl⟩
theorem tw_757 : hk_gd (Cond.methodLink RX12 479 yX12_fail) := ⟨hk_t109 (List.mem_of_getElem? (i := 164) rfl), rfl⟩
theorem tw_758 : hk_gd (Cond.fieldLink RX12 470 "LzmaChainsModel" "broken" "I") := ⟨hk_t107 (List.mem_of_getElem? (i := 111) rfl), rfl⟩
theorem tw_759 : hk_gd (Cond.code yX12_next cX12_next 1 (some .int)) := ⟨hk_t109 (List.mem_of_getElem? (i := 163) rfl), rfl⟩
theorem tw_760 : hk_gd (Cond.selects RX12 yX12_next yX12_next) := ⟨hk_tp (q := (yX12_next, _)) (hk_p4 (List.mem_of_getElem? (i := 14) rfl)), rfl⟩
theorem tw_761 : hk_gd (Cond.instanceMethod yX12_next) := ⟨hk_t109 (List.mem_of_getElem? (i := 162) rfl), rfl⟩
theorem tw_762 : hk_gd (Cond.methodLink RX12 482 yX12_next) := ⟨hk_t109 (List.mem_of_getElem? (i := 160) rfl), rfl⟩
theorem tw_763 : hk_gd (Cond.fieldLink RX12 275 "LzmaChainsModel" "waits" "I") := ⟨hk_t107 (List.mem_of_getElem? (i := 90) rfl), rfl⟩
theorem tw_764 : hk_gd (Cond.fieldLink RX12 272 "LzmaChainsModel" "held" "I") := ⟨hk_t107 (List.mem_of_getElem? (i := 89) rfl), rfl⟩
theorem tw_765 : hk_gd (Cond.fieldLink RX12 269 "LzmaChainsModel" "range" "J") := ⟨hk_t107 (List.mem_of_getElem? (i := 88) rfl), rfl⟩
theorem tw_766 : hk_gd (Cond.constantLong RX12 267 4294967295) := ⟨hk_t108 (List.mem_of_getElem? (i := 238) rfl), rfl⟩
theorem tw_767 : hk_gd (Cond.fieldLink RX12 264 "LzmaChainsModel" "low" "J") := ⟨hk_t107 (List.mem_of_getElem? (i := 87) rfl), rfl⟩
theorem tw_768 : hk_gd (Cond.fieldLink RX12 261 "LzmaChainsModel" "pkSize" "I") := ⟨hk_t107 (List.mem_of_getElem? (i := 86) rfl), rfl⟩
theorem tw_769 : hk_gd (Cond.code yX12_beginSha cX12_beginSha 1 none) := ⟨hk_t108 (List.mem_of_getElem? (i := 121) rfl), rfl⟩
theorem tw_770 : hk_gd (Cond.selects RX12 yX12_beginSha yX12_beginSha) := ⟨hk_tp (q := (yX12_beginSha, _)) (hk_p1 (List.mem_of_getElem? (i := 5) rfl)), rfl⟩
theorem tw_771 : hk_gd (Cond.instanceMethod yX12_beginSha) := ⟨hk_t108 (List.mem_of_getElem? (i := 120) rfl), rfl⟩
theorem tw_772 : hk_gd (Cond.methodLink RX12 179 yX12_beginSha) := ⟨hk_t108 (List.mem_of_getElem? (i := 118) rfl), rfl⟩
theorem tw_773 : hk_gd (Cond.constantLong RX12 177 (-1)) := ⟨hk_t108 (List.mem_of_getElem? (i := 117) rfl), rfl⟩
theorem tw_774 : hk_gd (Cond.code yX12_begin32 cX12_begin32 1 none) := ⟨hk_t108 (List.mem_of_getElem? (i := 116) rfl), rfl⟩
theorem tw_775 : hk_gd (Cond.selects RX12 yX12_begin32 yX12_begin32) := ⟨hk_tp (q := (yX12_begin32, _)) (hk_p1 (List.mem_of_getElem? (i := 4) rfl)), rfl⟩
theorem tw_776 : hk_gd (Cond.instanceMethod yX12_begin32) := ⟨hk_t108 (List.mem_of_getElem? (i := 115) rfl), rfl⟩
theorem tw_777 : hk_gd (Cond.methodLink RX12 174 yX12_begin32) := ⟨hk_t108 (List.mem_of_getElem? (i := 113) rfl), rfl⟩
theorem tw_778 : hk_gd (Cond.fieldLink RX12 243 "LzmaChainsModel" "back3" "I") := ⟨hk_t107 (List.mem_of_getElem? (i := 80) rfl), rfl⟩
theorem tw_779 : hk_gd (Cond.fieldLink RX12 240 "LzmaChainsModel" "back2" "I") := ⟨hk_t107 (List.mem_of_getElem? (i := 79) rfl), rfl⟩
theorem tw_780 : hk_gd (Cond.fieldLink RX12 237 "LzmaChainsModel" "back1" "I") := ⟨hk_t107 (List.mem_of_getElem? (i := 78) rfl), rfl⟩
theorem tw_781 : hk_gd (Cond.fieldLink RX12 234 "LzmaChainsModel" "back0" "I") := ⟨hk_t107 (List.mem_of_getElem? (i := 77) rfl), rfl⟩
theorem tw_782 : hk_gd (Cond.fieldLink RX12 129 "LzmaChainsModel" "outSize" "I") := ⟨hk_t107 (List.mem_of_getElem? (i := 48) rfl), rfl⟩
theorem tw_783 : hk_gd (Cond.code yX12_beginCheck cX12_beginCheck 2 none) := ⟨hk_t108 (List.mem_of_getElem? (i := 112) rfl), rfl⟩
theorem tw_784 : hk_gd (Cond.selects RX12 yX12_beginCheck yX12_beginCheck) := ⟨hk_tp (q := (yX12_beginCheck, _)) (hk_p1 (List.mem_of_getElem? (i := 3) rfl)), rfl⟩
theorem tw_785 : hk_gd (Cond.instanceMethod yX12_beginCheck) := ⟨hk_t108 (List.mem_of_getElem? (i := 111) rfl), rfl⟩
theorem tw_786 : hk_gd (Cond.methodLink RX12 199 yX12_beginCheck) := ⟨hk_t108 (List.mem_of_getElem? (i := 109) rfl), rfl⟩
theorem tw_787 : hk_gd (Cond.code yX12_checkSize cX12_checkSize 1 (some .int)) := ⟨hk_t108 (List.mem_of_getElem? (i := 108) rfl), rfl⟩
theorem tw_788 : hk_gd (Cond.static yX12_checkSize) := ⟨hk_t108 (List.mem_of_getElem? (i := 107) rfl), rfl⟩
theorem tw_789 : hk_gd (Cond.methodLink RX12 191 yX12_checkSize) := ⟨hk_t108 (List.mem_of_getElem? (i := 106) rfl), rfl⟩
theorem tw_790 : hk_gd (Cond.constant RX12 211 16777215) := ⟨hk_t108 (List.mem_of_getElem? (i := 177) rfl), rfl⟩
theorem tw_791 : hk_gd (Cond.fieldLink RX12 47 "LzmaChainsModel" "src" "[I") := ⟨hk_t107 (List.mem_of_getElem? (i := 58) rfl), rfl⟩
theorem tw_792 : hk_gd (Cond.fieldLink RX12 74 "LzmaChainsModel" "blockChunks" "[I") := ⟨hk_t107 (List.mem_of_getElem? (i := 71) rfl), rfl⟩
theorem tw_793 : hk_gd (Cond.fieldLink RX12 71 "LzmaChainsModel" "blockSize" "[I") := ⟨hk_t107 (List.mem_of_getElem? (i := 70) rfl), rfl⟩
theorem tw_794 : hk_gd (Cond.fieldLink RX12 68 "LzmaChainsModel" "blockPacked" "[I") := ⟨hk_t107 (List.mem_of_getElem? (i := 69) rfl), rfl⟩
theorem tw_795 : hk_gd (Cond.fieldLink RX12 65 "LzmaChainsModel" "blockHead" "[I") := ⟨hk_t107 (List.mem_of_getElem? (i := 68) rfl), rfl⟩
theorem tw_796 : hk_gd (Cond.fieldLink RX12 62 "LzmaChainsModel" "blockAt" "[I") := ⟨hk_t107 (List.mem_of_getElem? (i := 67) rfl), rfl⟩
theorem tw_797 : hk_gd (Cond.fieldLink RX12 228 "LzmaChainsModel" "blocks" "I") := ⟨hk_t107 (List.mem_of_getElem? (i := 66) rfl), rfl⟩
theorem tw_798 : hk_gd (Cond.fieldLink RX12 111 "LzmaChainsModel" "thrown" "I") := ⟨hk_t107 (List.mem_of_getElem? (i := 34) rfl), rfl⟩
theorem tw_799 : hk_gd (Cond.code yX12_choiceNow cX12_choiceNow 5 none) := ⟨hk_t109 (List.mem_of_getElem? (i := 180) rfl), rfl⟩
theorem tw_800 : hk_gd (Cond.selects RX12 yX12_choiceNow yX12_choiceNow) := ⟨hk_tp (q := (yX12_choiceNow, _)) (hk_p5 (List.mem_of_getElem? (i := 2) rfl)), rfl⟩
theorem tw_801 : hk_gd (Cond.instanceMethod yX12_choiceNow) := ⟨hk_t109 (List.mem_of_getElem? (i := 179) rfl), rfl⟩
theorem tw_802 : hk_gd (Cond.methodLink RX12 554 yX12_choiceNow) := ⟨hk_t109 (List.mem_of_getElem? (i := 177) rfl), rfl⟩
theorem tw_803 : hk_gd (Cond.fieldLink RX12 538 "LzmaChainsModel" "isMarked" "Z") := ⟨hk_t107 (List.mem_of_getElem? (i := 117) rfl), rfl⟩
theorem tw_804 : hk_gd (Cond.code yX12_beginOpening cX12_beginOpening 3 none) := ⟨hk_t109 (List.mem_of_getElem? (i := 176) rfl), rfl⟩
theorem tw_805 : hk_gd (Cond.selects RX12 yX12_beginOpening yX12_beginOpening) := ⟨hk_tp (q := (yX12_beginOpening, _)) (hk_p5 (List.mem_of_getElem? (i := 1) rfl)), rfl⟩
theorem tw_806 : hk_gd (Cond.instanceMethod yX12_beginOpening) := ⟨hk_t109 (List.mem_of_getElem? (i := 175) rfl), rfl⟩
theorem tw_807 : hk_gd (Cond.methodLink RX12 551 yX12_beginOpening) := ⟨hk_t109 (List.mem_of_getElem? (i := 173) rfl), rfl⟩
theorem tw_808 : hk_gd (Cond.fieldLink RX12 518 "LzmaChainsModel" "target" "I") := ⟨hk_t107 (List.mem_of_getElem? (i := 116) rfl), rfl⟩
theorem tw_809 : hk_gd (Cond.fieldLink RX12 473 "LzmaChainsModel" "at" "I") := ⟨hk_t107 (List.mem_of_getElem? (i := 109) rfl), rfl⟩
theorem tw_810 : hk_gd (Cond.fieldLink RX12 476 "LzmaChainsModel" "limit" "I") := ⟨hk_t107 (List.mem_of_getElem? (i := 110) rfl), rfl⟩
theorem tw_811 : hk_gd (Cond.fieldLink RX12 434 "LzmaChainsModel" "chunkCount" "I") := ⟨hk_t107 (List.mem_of_getElem? (i := 108) rfl), rfl⟩
theorem tw_812 : hk_gd (Cond.fieldLink RX12 557 "LzmaChainsModel" "need" "I") := ⟨hk_t107 (List.mem_of_getElem? (i := 118) rfl), rfl⟩
theorem tw_813 : hk_gd (Cond.code yX12_freshState cX12_freshState 2 none) := ⟨hk_t108 (List.mem_of_getElem? (i := 213) rfl), rfl⟩
theorem tw_814 : hk_gd (Cond.selects RX12 yX12_freshState yX12_freshState) := ⟨hk_tp (q := (yX12_freshState, _)) (hk_p2 (List.mem_of_getElem? (i := 2) rfl)), rfl⟩
theorem tw_815 : hk_gd (Cond.instanceMethod yX12_freshState) := ⟨hk_t108 (List.mem_of_getElem? (i := 212) rfl), rfl⟩
theorem tw_816 : hk_gd (Cond.methodLink RX12 407 yX12_freshState) := ⟨hk_t108 (List.mem_of_getElem? (i := 210) rfl), rfl⟩
theorem tw_817 : hk_gd (Cond.fieldLink RX12 249 "LzmaChainsModel" "pos" "I") := ⟨hk_t107 (List.mem_of_getElem? (i := 81) rfl), rfl⟩
theorem tw_818 : hk_gd (Cond.fieldLink RX12 508 "LzmaChainsModel" "dictionaryFrom" "I") := ⟨hk_t107 (List.mem_of_getElem? (i := 114) rfl), rfl⟩
theorem tw_819 : hk_gd (Cond.fieldLink RX12 208 "LzmaChainsModel" "srcSize" "I") := ⟨hk_t107 (List.mem_of_getElem? (i := 59) rfl), rfl⟩
theorem tw_820 : hk_gd (Cond.code yX12_readProperty cX12_readProperty 2 (some .boolean)) := ⟨hk_t109 (List.mem_of_getElem? (i := 159) rfl), rfl⟩
theorem tw_821 : hk_gd (Cond.selects RX12 yX12_readProperty yX12_readProperty) := ⟨hk_tp (q := (yX12_readProperty, _)) (hk_p4 (List.mem_of_getElem? (i := 13) rfl)), rfl⟩
theorem tw_822 : hk_gd (Cond.methodLink RX12 357 yX12_toFront) := ⟨hk_t109 (List.mem_of_getElem? (i := 78) rfl), rfl⟩
theorem tw_823 : hk_gd (Cond.code yX12_getLength cX12_getLength 3 (some .int)) := ⟨hk_t109 (List.mem_of_getElem? (i := 204) rfl), rfl⟩
theorem tw_824 : hk_gd (Cond.selects RX12 yX12_getLength yX12_getLength) := ⟨hk_tp (q := (yX12_getLength, _)) (hk_p5 (List.mem_of_getElem? (i := 8) rfl)), rfl⟩
theorem tw_825 : hk_gd (Cond.instanceMethod yX12_getLength) := ⟨hk_t109 (List.mem_of_getElem? (i := 203) rfl), rfl⟩
theorem tw_826 : hk_gd (Cond.methodLink RX12 531 yX12_getLength) := ⟨hk_t109 (List.mem_of_getElem? (i := 201) rfl), rfl⟩
theorem tw_827 : hk_gd (Cond.code yX12_copies cX12_copies 6 (some .boolean)) := ⟨hk_t109 (List.mem_of_getElem? (i := 225) rfl), rfl⟩
theorem tw_828 : hk_gd (Cond.selects RX12 yX12_copies yX12_copies) := ⟨hk_tp (q := (yX12_copies, _)) (hk_p5 (List.mem_of_getElem? (i := 13) rfl)), rfl⟩
theorem tw_829 : hk_gd (Cond.instanceMethod yX12_copies) := ⟨hk_t109 (List.mem_of_getElem? (i := 224) rfl), rfl⟩
theorem tw_830 : hk_gd (Cond.methodLink RX12 527 yX12_copies) := ⟨hk_t109 (List.mem_of_getElem? (i := 222) rfl), rfl⟩
theorem tw_831 : hk_gd (Cond.code yX12_matchNow cX12_matchNow 5 none) := ⟨hk_t109 (List.mem_of_getElem? (i := 200) rfl), rfl⟩
theorem tw_832 : hk_gd (Cond.selects RX12 yX12_matchNow yX12_matchNow) := ⟨hk_tp (q := (yX12_matchNow, _)) (hk_p5 (List.mem_of_getElem? (i := 7) rfl)), rfl⟩
theorem tw_833 : hk_gd (Cond.instanceMethod yX12_matchNow) := ⟨hk_t109 (List.mem_of_getElem? (i := 199) rfl), rfl⟩
theorem tw_834 : hk_gd (Cond.methodLink RX12 524 yX12_matchNow) := ⟨hk_t109 (List.mem_of_getElem? (i := 197) rfl), rfl⟩
theorem tw_835 : hk_gd (Cond.code yX12_literal cX12_literal 9 none) := ⟨hk_t109 (List.mem_of_getElem? (i := 192) rfl), rfl⟩
theorem tw_836 : hk_gd (Cond.selects RX12 yX12_literal yX12_literal) := ⟨hk_tp (q := (yX12_literal, _)) (hk_p5 (List.mem_of_getElem? (i := 5) rfl)), rfl⟩
theorem tw_837 : hk_gd (Cond.instanceMethod yX12_literal) := ⟨hk_t109 (List.mem_of_getElem? (i := 191) rfl), rfl⟩
theorem tw_838 : hk_gd (Cond.methodLink RX12 521 yX12_literal) := ⟨hk_t109 (List.mem_of_getElem? (i := 189) rfl), rfl⟩
theorem tw_839 : hk_gd (Cond.code yX12_getBit cX12_getBit 5 (some .int)) := ⟨hk_t109 (List.mem_of_getElem? (i := 184) rfl), rfl⟩
theorem tw_840 : hk_gd (Cond.selects RX12 yX12_getBit yX12_getBit) := ⟨hk_tp (q := (yX12_getBit, _)) (hk_p5 (List.mem_of_getElem? (i := 3) rfl)), rfl⟩
theorem tw_841 : hk_gd (Cond.instanceMethod yX12_getBit) := ⟨hk_t109 (List.mem_of_getElem? (i := 183) rfl), rfl⟩
theorem tw_842 : hk_gd (Cond.methodLink RX12 491 yX12_getBit) := ⟨hk_t109 (List.mem_of_getElem? (i := 181) rfl), rfl⟩
theorem tw_843 : hk_gd (Cond.code yX12_part cX12_part 1 (some .int)) := ⟨hk_t109 (List.mem_of_getElem? (i := 49) rfl), rfl⟩
theorem tw_844 : hk_gd (Cond.selects RX12 yX12_part yX12_part) := ⟨hk_tp (q := (yX12_part, _)) (hk_p3 (List.mem_of_getElem? (i := 4) rfl)), rfl⟩
theorem tw_845 : hk_gd (Cond.instanceMethod yX12_part) := ⟨hk_t109 (List.mem_of_getElem? (i := 48) rfl), rfl⟩
theorem tw_846 : hk_gd (Cond.methodLink RX12 296 yX12_part) := ⟨hk_t109 (List.mem_of_getElem? (i := 46) rfl), rfl⟩
theorem tw_847 : hk_gd (Cond.code yX12_end32 cX12_end32 1 (some .int)) := ⟨hk_t108 (List.mem_of_getElem? (i := 168) rfl), rfl⟩
theorem tw_848 : hk_gd (Cond.selects RX12 yX12_end32 yX12_end32) := ⟨hk_tp (q := (yX12_end32, _)) (hk_p1 (List.mem_of_getElem? (i := 13) rfl)), rfl⟩
theorem tw_849 : hk_gd (Cond.instanceMethod yX12_end32) := ⟨hk_t108 (List.mem_of_getElem? (i := 167) rfl), rfl⟩
theorem tw_850 : hk_gd (Cond.methodLink RX12 195 yX12_end32) := ⟨hk_t108 (List.mem_of_getElem? (i := 165) rfl), rfl⟩
theorem tw_851 : hk_gd (Cond.fieldLink RX12 98 "LzmaChainsModel" "row" "[I") := ⟨hk_t107 (List.mem_of_getElem? (i := 101) rfl), rfl⟩
theorem tw_852 : hk_gd (Cond.fieldLink RX12 44 "LzmaChainsModel" "checkByte" "[I") := ⟨hk_t107 (List.mem_of_getElem? (i := 56) rfl), rfl⟩
theorem tw_853 : hk_gd (Cond.code yX12_endCheck cX12_endCheck 2 none) := ⟨hk_t108 (List.mem_of_getElem? (i := 160) rfl), rfl⟩
theorem tw_854 : hk_gd (Cond.selects RX12 yX12_endCheck yX12_endCheck) := ⟨hk_tp (q := (yX12_endCheck, _)) (hk_p1 (List.mem_of_getElem? (i := 11) rfl)), rfl⟩
theorem tw_855 : hk_gd (Cond.instanceMethod yX12_endCheck) := ⟨hk_t108 (List.mem_of_getElem? (i := 159) rfl), rfl⟩
theorem tw_856 : hk_gd (Cond.methodLink RX12 205 yX12_endCheck) := ⟨hk_t108 (List.mem_of_getElem? (i := 157) rfl), rfl⟩
theorem tw_857 : hk_gd (Cond.code yX12_addCheck cX12_addCheck 2 none) := ⟨hk_t108 (List.mem_of_getElem? (i := 133) rfl), rfl⟩
theorem tw_858 : hk_gd (Cond.selects RX12 yX12_addCheck yX12_addCheck) := ⟨hk_tp (q := (yX12_addCheck, _)) (hk_p1 (List.mem_of_getElem? (i := 6) rfl)), rfl⟩
theorem tw_859 : hk_gd (Cond.instanceMethod yX12_addCheck) := ⟨hk_t108 (List.mem_of_getElem? (i := 132) rfl), rfl⟩
theorem tw_860 : hk_gd (Cond.methodLink RX12 202 yX12_addCheck) := ⟨hk_t108 (List.mem_of_getElem? (i := 130) rfl), rfl⟩
theorem tw_861 : hk_gd (Cond.fieldLink RX12 32 "LzmaChainsModel" "out" "[I") := ⟨hk_t107 (List.mem_of_getElem? (i := 47) rfl), rfl⟩
theorem tw_862 : hk_gd (Cond.methodLink RX12 286 yX12_shift) := ⟨hk_t109 (List.mem_of_getElem? (i := 59) rfl), rfl⟩
theorem tw_863 : hk_gd (Cond.code yX12_endSha cX12_endSha 4 none) := ⟨hk_t108 (List.mem_of_getElem? (i := 164) rfl), rfl⟩
theorem tw_864 : hk_gd (Cond.selects RX12 yX12_endSha yX12_endSha) := ⟨hk_tp (q := (yX12_endSha, _)) (hk_p1 (List.mem_of_getElem? (i := 12) rfl)), rfl⟩
theorem tw_865 : hk_gd (Cond.instanceMethod yX12_endSha) := ⟨hk_t108 (List.mem_of_getElem? (i := 163) rfl), rfl⟩
theorem tw_866 : hk_gd (Cond.methodLink RX12 188 yX12_endSha) := ⟨hk_t108 (List.mem_of_getElem? (i := 161) rfl), rfl⟩
theorem tw_867 : hk_gd (Cond.fieldLink RX12 126 "LzmaChainsModel" "inSize" "I") := ⟨hk_t107 (List.mem_of_getElem? (i := 46) rfl), rfl⟩
theorem tw_868 : hk_gd (Cond.code yX12_addStep cX12_addStep 5 none) := ⟨hk_t109 (List.mem_of_getElem? (i := 41) rfl), rfl⟩
theorem tw_869 : hk_gd (Cond.selects RX12 yX12_addStep yX12_addStep) := ⟨hk_tp (q := (yX12_addStep, _)) (hk_p3 (List.mem_of_getElem? (i := 2) rfl)), rfl⟩
theorem tw_870 : hk_gd (Cond.instanceMethod yX12_addStep) := ⟨hk_t109 (List.mem_of_getElem? (i := 40) rfl), rfl⟩
theorem tw_871 : hk_gd (Cond.methodLink RX12 375 yX12_addStep) := ⟨hk_t109 (List.mem_of_getElem? (i := 38) rfl), rfl⟩
theorem tw_872 : hk_gd (Cond.fieldLink RX12 505 "LzmaChainsModel" "outBase" "I") := ⟨hk_t107 (List.mem_of_getElem? (i := 115) rfl), rfl⟩
theorem tw_873 : hk_gd (Cond.code yX12_isFull cX12_isFull 2 (some .boolean)) := ⟨hk_t109 (List.mem_of_getElem? (i := 196) rfl), rfl⟩
theorem tw_874 : hk_gd (Cond.selects RX12 yX12_isFull yX12_isFull) := ⟨hk_tp (q := (yX12_isFull, _)) (hk_p5 (List.mem_of_getElem? (i := 6) rfl)), rfl⟩
theorem tw_875 : hk_gd (Cond.instanceMethod yX12_isFull) := ⟨hk_t109 (List.mem_of_getElem? (i := 195) rfl), rfl⟩
theorem tw_876 : hk_gd (Cond.methodLink RX12 511 yX12_isFull) := ⟨hk_t109 (List.mem_of_getElem? (i := 193) rfl), rfl⟩
theorem tw_877 : hk_gd (Cond.fieldLink RX12 515 "LzmaChainsModel" "dictionarySize" "J") := ⟨hk_t107 (List.mem_of_getElem? (i := 113) rfl), rfl⟩
theorem tw_878 : hk_gd (Cond.fieldLink RX12 372 "LzmaChainsModel" "stepBase" "I") := ⟨hk_t107 (List.mem_of_getElem? (i := 65) rfl), rfl⟩
theorem tw_879 : hk_gd (Cond.fieldLink RX12 95 "LzmaChainsModel" "farTo" "[I") := ⟨hk_t107 (List.mem_of_getElem? (i := 99) rfl), rfl⟩
theorem tw_880 : hk_gd (Cond.fieldLink RX12 92 "LzmaChainsModel" "stepTo" "[I") := ⟨hk_t107 (List.mem_of_getElem? (i := 98) rfl), rfl⟩
theorem tw_881 : hk_gd (Cond.fieldLink RX12 303 "LzmaChainsModel" "partEnd" "I") := ⟨hk_t107 (List.mem_of_getElem? (i := 91) rfl), rfl⟩
theorem tw_882 : hk_gd (Cond.code yX12_choose0 cX12_choose0 4 none) := ⟨hk_t109 (List.mem_of_getElem? (i := 21) rfl), rfl⟩
theorem tw_883 : hk_gd (Cond.selects RX12 yX12_choose0 yX12_choose0) := ⟨hk_tp (q := (yX12_choose0, _)) (hk_p2 (List.mem_of_getElem? (i := 13) rfl)), rfl⟩
theorem tw_884 : hk_gd (Cond.instanceMethod yX12_choose0) := ⟨hk_t109 (List.mem_of_getElem? (i := 20) rfl), rfl⟩
theorem tw_885 : hk_gd (Cond.methodLink RX12 330 yX12_choose0) := ⟨hk_t109 (List.mem_of_getElem? (i := 18) rfl), rfl⟩
theorem tw_886 : hk_gd (Cond.fieldLink RX12 309 "LzmaChainsModel" "longestFar" "I") := ⟨hk_t107 (List.mem_of_getElem? (i := 93) rfl), rfl⟩
theorem tw_887 : hk_gd (Cond.fieldLink RX12 327 "LzmaChainsModel" "choiceFar" "I") := ⟨hk_t107 (List.mem_of_getElem? (i := 96) rfl), rfl⟩
theorem tw_888 : hk_gd (Cond.fieldLink RX12 324 "LzmaChainsModel" "choiceLength" "I") := ⟨hk_t107 (List.mem_of_getElem? (i := 95) rfl), rfl⟩
theorem tw_889 : hk_gd (Cond.fieldLink RX12 321 "LzmaChainsModel" "choice" "I") := ⟨hk_t107 (List.mem_of_getElem? (i := 94) rfl), rfl⟩
theorem tw_890 : hk_gd (Cond.fieldLink RX12 306 "LzmaChainsModel" "longest" "I") := ⟨hk_t107 (List.mem_of_getElem? (i := 92) rfl), rfl⟩
theorem tw_891 : hk_gd (Cond.code yX12_again cX12_again 3 (some .int)) := ⟨hk_t109 (List.mem_of_getElem? (i := 25) rfl), rfl⟩
theorem tw_892 : hk_gd (Cond.selects RX12 yX12_again yX12_again) := ⟨hk_tp (q := (yX12_again, _)) (hk_p2 (List.mem_of_getElem? (i := 14) rfl)), rfl⟩
theorem tw_893 : hk_gd (Cond.instanceMethod yX12_again) := ⟨hk_t109 (List.mem_of_getElem? (i := 24) rfl), rfl⟩
theorem tw_894 : hk_gd (Cond.methodLink RX12 318 yX12_again) := ⟨hk_t109 (List.mem_of_getElem? (i := 22) rfl), rfl⟩
theorem tw_895 : hk_gd (Cond.code yX12_findLongest cX12_findLongest 5 none) := ⟨hk_t109 (List.mem_of_getElem? (i := 10) rfl), rfl⟩
theorem tw_896 : hk_gd (Cond.selects RX12 yX12_findLongest yX12_findLongest) := ⟨hk_tp (q := (yX12_findLongest, _)) (hk_p2 (List.mem_of_getElem? (i := 11) rfl)), rfl⟩
theorem tw_897 : hk_gd (Cond.instanceMethod yX12_findLongest) := ⟨hk_t109 (List.mem_of_getElem? (i := 9) rfl), rfl⟩
theorem tw_898 : hk_gd (Cond.methodLink RX12 315 yX12_findLongest) := ⟨hk_t109 (List.mem_of_getElem? (i := 7) rfl), rfl⟩
theorem tw_899 : hk_gd (Cond.code yX12_toFront cX12_toFront 3 none) := ⟨hk_t109 (List.mem_of_getElem? (i := 81) rfl), rfl⟩
theorem tw_900 : hk_gd (Cond.selects RX12 yX12_toFront yX12_toFront) := ⟨hk_tp (q := (yX12_toFront, _)) (hk_p3 (List.mem_of_getElem? (i := 11) rfl)), rfl⟩
theorem tw_901 : hk_gd (Cond.instanceMethod yX12_toFront) := ⟨hk_t109 (List.mem_of_getElem? (i := 80) rfl), rfl⟩
theorem tw_902 : hk_gd (Cond.fieldLink RX12 255 "LzmaChainsModel" "nowLp" "I") := ⟨hk_t107 (List.mem_of_getElem? (i := 83) rfl), rfl⟩
theorem tw_903 : hk_gd (Cond.code yX12_afterLiteral cX12_afterLiteral 1 none) := ⟨hk_t109 (List.mem_of_getElem? (i := 73) rfl), rfl⟩
theorem tw_904 : hk_gd (Cond.selects RX12 yX12_afterLiteral yX12_afterLiteral) := ⟨hk_tp (q := (yX12_afterLiteral, _)) (hk_p3 (List.mem_of_getElem? (i := 9) rfl)), rfl⟩
theorem tw_905 : hk_gd (Cond.instanceMethod yX12_afterLiteral) := ⟨hk_t109 (List.mem_of_getElem? (i := 72) rfl), rfl⟩
theorem tw_906 : hk_gd (Cond.methodLink RX12 339 yX12_afterLiteral) := ⟨hk_t109 (List.mem_of_getElem? (i := 70) rfl), rfl⟩
theorem tw_907 : hk_gd (Cond.code yX12_literalAt cX12_literalAt 2 (some .int)) := ⟨hk_t109 (List.mem_of_getElem? (i := 69) rfl), rfl⟩
theorem tw_908 : hk_gd (Cond.selects RX12 yX12_literalAt yX12_literalAt) := ⟨hk_tp (q := (yX12_literalAt, _)) (hk_p3 (List.mem_of_getElem? (i := 8) rfl)), rfl⟩
theorem tw_909 : hk_gd (Cond.instanceMethod yX12_literalAt) := ⟨hk_t109 (List.mem_of_getElem? (i := 68) rfl), rfl⟩
theorem tw_910 : hk_gd (Cond.methodLink RX12 336 yX12_literalAt) := ⟨hk_t109 (List.mem_of_getElem? (i := 66) rfl), rfl⟩
theorem tw_911 : hk_gd (Cond.fieldLink RX12 431 "LzmaChainsModel" "kept3" "I") := ⟨hk_t107 (List.mem_of_getElem? (i := 107) rfl), rfl⟩
theorem tw_912 : hk_gd (Cond.fieldLink RX12 428 "LzmaChainsModel" "kept2" "I") := ⟨hk_t107 (List.mem_of_getElem? (i := 106) rfl), rfl⟩
theorem tw_913 : hk_gd (Cond.fieldLink RX12 425 "LzmaChainsModel" "kept1" "I") := ⟨hk_t107 (List.mem_of_getElem? (i := 105) rfl), rfl⟩
theorem tw_914 : hk_gd (Cond.fieldLink RX12 422 "LzmaChainsModel" "kept0" "I") := ⟨hk_t107 (List.mem_of_getElem? (i := 104) rfl), rfl⟩
theorem tw_915 : hk_gd (Cond.fieldLink RX12 419 "LzmaChainsModel" "keptSt" "I") := ⟨hk_t107 (List.mem_of_getElem? (i := 103) rfl), rfl⟩
theorem tw_916 : hk_gd (Cond.fieldLink RX12 83 "LzmaChainsModel" "keptChance" "[I") := ⟨hk_t107 (List.mem_of_getElem? (i := 75) rfl), rfl⟩
theorem tw_917 : hk_gd (Cond.code yX12_getPlain cX12_getPlain 2 (some .int)) := ⟨hk_t109 (List.mem_of_getElem? (i := 221) rfl), rfl⟩
theorem tw_918 : hk_gd (Cond.selects RX12 yX12_getPlain yX12_getPlain) := ⟨hk_tp (q := (yX12_getPlain, _)) (hk_p5 (List.mem_of_getElem? (i := 12) rfl)), rfl⟩
theorem tw_919 : hk_gd (Cond.instanceMethod yX12_getPlain) := ⟨hk_t109 (List.mem_of_getElem? (i := 220) rfl), rfl⟩
theorem tw_920 : hk_gd (Cond.methodLink RX12 502 yX12_getPlain) := ⟨hk_t109 (List.mem_of_getElem? (i := 218) rfl), rfl⟩
theorem tw_921 : hk_gd (Cond.code yX12_getTurned cX12_getTurned 7 (some .int)) := ⟨hk_t109 (List.mem_of_getElem? (i := 217) rfl), rfl⟩
theorem tw_922 : hk_gd (Cond.selects RX12 yX12_getTurned yX12_getTurned) := ⟨hk_tp (q := (yX12_getTurned, _)) (hk_p5 (List.mem_of_getElem? (i := 11) rfl)), rfl⟩
theorem tw_923 : hk_gd (Cond.instanceMethod yX12_getTurned) := ⟨hk_t109 (List.mem_of_getElem? (i := 216) rfl), rfl⟩
theorem tw_924 : hk_gd (Cond.methodLink RX12 499 yX12_getTurned) := ⟨hk_t109 (List.mem_of_getElem? (i := 214) rfl), rfl⟩
theorem tw_925 : hk_gd (Cond.constantLong RX12 497 2) := ⟨hk_t109 (List.mem_of_getElem? (i := 213) rfl), rfl⟩
theorem tw_926 : hk_gd (Cond.code yX12_getTree cX12_getTree 5 (some .int)) := ⟨hk_t109 (List.mem_of_getElem? (i := 208) rfl), rfl⟩
theorem tw_927 : hk_gd (Cond.selects RX12 yX12_getTree yX12_getTree) := ⟨hk_tp (q := (yX12_getTree, _)) (hk_p5 (List.mem_of_getElem? (i := 9) rfl)), rfl⟩
theorem tw_928 : hk_gd (Cond.instanceMethod yX12_getTree) := ⟨hk_t109 (List.mem_of_getElem? (i := 207) rfl), rfl⟩
theorem tw_929 : hk_gd (Cond.methodLink RX12 494 yX12_getTree) := ⟨hk_t109 (List.mem_of_getElem? (i := 205) rfl), rfl⟩
theorem tw_930 : hk_gd (Cond.code yX12_readOn cX12_readOn 1 none) := ⟨hk_t109 (List.mem_of_getElem? (i := 188) rfl), rfl⟩
theorem tw_931 : hk_gd (Cond.selects RX12 yX12_readOn yX12_readOn) := ⟨hk_tp (q := (yX12_readOn, _)) (hk_p5 (List.mem_of_getElem? (i := 4) rfl)), rfl⟩
theorem tw_932 : hk_gd (Cond.instanceMethod yX12_readOn) := ⟨hk_t109 (List.mem_of_getElem? (i := 187) rfl), rfl⟩
theorem tw_933 : hk_gd (Cond.methodLink RX12 488 yX12_readOn) := ⟨hk_t109 (List.mem_of_getElem? (i := 185) rfl), rfl⟩
theorem tw_934 : hk_gd (Cond.fieldLink RX12 80 "LzmaChainsModel" "chance" "[I") := ⟨hk_t107 (List.mem_of_getElem? (i := 74) rfl), rfl⟩
theorem tw_935 : hk_gd (Cond.fieldLink RX12 16 "LzmaChainsModel" "dictionary" "I") := ⟨hk_t107 (List.mem_of_getElem? (i := 38) rfl), rfl⟩
theorem tw_936 : hk_gd (Cond.fieldLink RX12 123 "LzmaChainsModel" "branch" "I") := ⟨hk_t107 (List.mem_of_getElem? (i := 44) rfl), rfl⟩
theorem tw_937 : hk_gd (Cond.fieldLink RX12 120 "LzmaChainsModel" "delta" "I") := ⟨hk_t107 (List.mem_of_getElem? (i := 43) rfl), rfl⟩
theorem tw_938 : hk_gd (Cond.fieldLink RX12 28 "LzmaChainsModel" "in" "[I") := ⟨hk_t107 (List.mem_of_getElem? (i := 45) rfl), rfl⟩
theorem tw_939 : hk_gd (Cond.code yX12_shift cX12_shift 3 none) := ⟨hk_t109 (List.mem_of_getElem? (i := 62) rfl), rfl⟩
theorem tw_940 : hk_gd (Cond.selects RX12 yX12_shift yX12_shift) := ⟨hk_tp (q := (yX12_shift, _)) (hk_p3 (List.mem_of_getElem? (i := 7) rfl)), rfl⟩
theorem tw_941 : hk_gd (Cond.instanceMethod yX12_shift) := ⟨hk_t109 (List.mem_of_getElem? (i := 61) rfl), rfl⟩
theorem tw_942 : hk_gd (Cond.instanceMethod yX12_wantByte) := ⟨hk_t110 (List.mem_of_getElem? (i := 7) rfl), rfl⟩
theorem tw_943 : hk_gd (Cond.methodLink RX12 569 yX12_wantByte) := ⟨hk_t110 (List.mem_of_getElem? (i := 5) rfl), rfl⟩
theorem tw_944 : hk_gd (Cond.code yX12_openHead cX12_openHead 12 none) := ⟨hk_t110 (List.mem_of_getElem? (i := 36) rfl), rfl⟩
theorem tw_945 : hk_gd (Cond.selects RX12 yX12_openHead yX12_openHead) := ⟨hk_tp (q := (yX12_openHead, _)) (hk_p6 (List.mem_of_getElem? (i := 9) rfl)), rfl⟩
theorem tw_946 : hk_gd (Cond.instanceMethod yX12_openHead) := ⟨hk_t110 (List.mem_of_getElem? (i := 35) rfl), rfl⟩
theorem tw_947 : hk_gd (Cond.methodLink RX12 608 yX12_openHead) := ⟨hk_t110 (List.mem_of_getElem? (i := 33) rfl), rfl⟩
theorem tw_948 : hk_gd (Cond.fieldLink RX12 77 "LzmaChainsModel" "told" "I") := ⟨hk_t107 (List.mem_of_getElem? (i := 72) rfl), rfl⟩
theorem tw_949 : hk_gd (Cond.code yX12_openBox cX12_openBox 5 none) := ⟨hk_t110 (List.mem_of_getElem? (i := 1) rfl), rfl⟩
theorem tw_950 : hk_gd (Cond.selects RX12 yX12_openBox yX12_openBox) := ⟨hk_tp (q := (yX12_openBox, _)) (hk_p6 (List.mem_of_getElem? (i := 1) rfl)), rfl⟩
theorem tw_951 : hk_gd (Cond.instanceMethod yX12_openBox) := ⟨hk_t110 (List.mem_of_getElem? (i := 0) rfl), rfl⟩
theorem tw_952 : hk_gd (Cond.methodLink RX12 620 yX12_openBox) := ⟨hk_t109 (List.mem_of_getElem? (i := 238) rfl), rfl⟩
theorem tw_953 : hk_gd (Cond.code yX12_openChunks cX12_openChunks 4 none) := ⟨hk_t109 (List.mem_of_getElem? (i := 229) rfl), rfl⟩
theorem tw_954 : hk_gd (Cond.selects RX12 yX12_openChunks yX12_openChunks) := ⟨hk_tp (q := (yX12_openChunks, _)) (hk_p5 (List.mem_of_getElem? (i := 14) rfl)), rfl⟩
theorem tw_955 : hk_gd (Cond.instanceMethod yX12_openChunks) := ⟨hk_t109 (List.mem_of_getElem? (i := 228) rfl), rfl⟩
theorem tw_956 : hk_gd (Cond.methodLink RX12 611 yX12_openChunks) := ⟨hk_t109 (List.mem_of_getElem? (i := 226) rfl), rfl⟩
theorem tw_957 : hk_gd (Cond.code yX12_openPlain cX12_openPlain 4 none) := ⟨hk_t109 (List.mem_of_getElem? (i := 155) rfl), rfl⟩
theorem tw_958 : hk_gd (Cond.selects RX12 yX12_openPlain yX12_openPlain) := ⟨hk_tp (q := (yX12_openPlain, _)) (hk_p4 (List.mem_of_getElem? (i := 12) rfl)), rfl⟩
theorem tw_959 : hk_gd (Cond.instanceMethod yX12_openPlain) := ⟨hk_t109 (List.mem_of_getElem? (i := 154) rfl), rfl⟩
theorem tw_960 : hk_gd (Cond.methodLink RX12 617 yX12_openPlain) := ⟨hk_t109 (List.mem_of_getElem? (i := 152) rfl), rfl⟩
theorem tw_961 : hk_gd (Cond.fieldLink RX12 107 "LzmaChainsModel" "form" "I") := ⟨hk_t107 (List.mem_of_getElem? (i := 33) rfl), rfl⟩
theorem tw_962 : hk_gd (Cond.fieldLink RX12 225 "LzmaChainsModel" "rule" "I") := ⟨hk_t107 (List.mem_of_getElem? (i := 73) rfl), rfl⟩
theorem tw_963 : hk_gd (Cond.code yX12_clearTold cX12_clearTold 1 none) := ⟨hk_t108 (List.mem_of_getElem? (i := 209) rfl), rfl⟩
theorem tw_964 : hk_gd (Cond.selects RX12 yX12_clearTold yX12_clearTold) := ⟨hk_tp (q := (yX12_clearTold, _)) (hk_p2 (List.mem_of_getElem? (i := 1) rfl)), rfl⟩
theorem tw_965 : hk_gd (Cond.instanceMethod yX12_clearTold) := ⟨hk_t108 (List.mem_of_getElem? (i := 208) rfl), rfl⟩
theorem tw_966 : hk_gd (Cond.methodLink RX12 461 yX12_clearTold) := ⟨hk_t108 (List.mem_of_getElem? (i := 206) rfl), rfl⟩
theorem tw_967 : hk_gd (Cond.constantLong RX12 284 16777216) := ⟨hk_t109 (List.mem_of_getElem? (i := 58) rfl), rfl⟩
theorem tw_968 : hk_gd (Cond.fieldLink RX12 164 "LzmaChainsModel" "ROUND" "[I") := ⟨hk_t108 (List.mem_of_getElem? (i := 155) rfl), rfl⟩
theorem tw_969 : hk_gd (Cond.code yX12_turned cX12_turned 2 (some .int)) := ⟨hk_t108 (List.mem_of_getElem? (i := 154) rfl), rfl⟩
theorem tw_970 : hk_gd (Cond.static yX12_turned) := ⟨hk_t108 (List.mem_of_getElem? (i := 153) rfl), rfl⟩
theorem tw_971 : hk_gd (Cond.methodLink RX12 160 yX12_turned) := ⟨hk_t108 (List.mem_of_getElem? (i := 152) rfl), rfl⟩
theorem tw_972 : hk_gd (Cond.code yX12_newBack cX12_newBack 2 none) := ⟨hk_t109 (List.mem_of_getElem? (i := 110) rfl), rfl⟩
theorem tw_973 : hk_gd (Cond.selects RX12 yX12_newBack yX12_newBack) := ⟨hk_tp (q := (yX12_newBack, _)) (hk_p4 (List.mem_of_getElem? (i := 2) rfl)), rfl⟩
theorem tw_974 : hk_gd (Cond.instanceMethod yX12_newBack) := ⟨hk_t109 (List.mem_of_getElem? (i := 109) rfl), rfl⟩
theorem tw_975 : hk_gd (Cond.methodLink RX12 388 yX12_newBack) := ⟨hk_t109 (List.mem_of_getElem? (i := 107) rfl), rfl⟩
theorem tw_976 : hk_gd (Cond.constantLong RX12 280 4294967296) := ⟨hk_t109 (List.mem_of_getElem? (i := 64) rfl), rfl⟩
theorem tw_977 : hk_gd (Cond.code yX12_getFar cX12_getFar 8 (some .long)) := ⟨hk_t109 (List.mem_of_getElem? (i := 212) rfl), rfl⟩
theorem tw_978 : hk_gd (Cond.selects RX12 yX12_getFar yX12_getFar) := ⟨hk_tp (q := (yX12_getFar, _)) (hk_p5 (List.mem_of_getElem? (i := 10) rfl)), rfl⟩
theorem tw_979 : hk_gd (Cond.instanceMethod yX12_getFar) := ⟨hk_t109 (List.mem_of_getElem? (i := 211) rfl), rfl⟩
theorem tw_980 : hk_gd (Cond.methodLink RX12 534 yX12_getFar) := ⟨hk_t109 (List.mem_of_getElem? (i := 209) rfl), rfl⟩
theorem tw_981 : hk_gd (Cond.fieldLink RX12 258 "LzmaChainsModel" "nowLc" "I") := ⟨hk_t107 (List.mem_of_getElem? (i := 82) rfl), rfl⟩
theorem tw_982 : hk_gd (Cond.methodLink RX12 563 yX12_bitsChunk) := ⟨hk_t109 (List.mem_of_getElem? (i := 234) rfl), rfl⟩
theorem tw_983 : hk_gd (Cond.code yX12_plainChunk cX12_plainChunk 5 none) := ⟨hk_t109 (List.mem_of_getElem? (i := 233) rfl), rfl⟩
theorem tw_984 : hk_gd (Cond.selects RX12 yX12_plainChunk yX12_plainChunk) := ⟨hk_tp (q := (yX12_plainChunk, _)) (hk_p5 (List.mem_of_getElem? (i := 15) rfl)), rfl⟩
theorem tw_985 : hk_gd (Cond.instanceMethod yX12_plainChunk) := ⟨hk_t109 (List.mem_of_getElem? (i := 232) rfl), rfl⟩
theorem tw_986 : hk_gd (Cond.methodLink RX12 560 yX12_plainChunk) := ⟨hk_t109 (List.mem_of_getElem? (i := 230) rfl), rfl⟩
theorem tw_987 : hk_gd (Cond.code yX12_openBlock cX12_openBlock 10 none) := ⟨hk_t110 (List.mem_of_getElem? (i := 32) rfl), rfl⟩
theorem tw_988 : hk_gd (Cond.selects RX12 yX12_openBlock yX12_openBlock) := ⟨hk_tp (q := (yX12_openBlock, _)) (hk_p6 (List.mem_of_getElem? (i := 8) rfl)), rfl⟩
theorem tw_989 : hk_gd (Cond.instanceMethod yX12_openBlock) := ⟨hk_t110 (List.mem_of_getElem? (i := 31) rfl), rfl⟩
theorem tw_990 : hk_gd (Cond.methodLink RX12 584 yX12_openBlock) := ⟨hk_t110 (List.mem_of_getElem? (i := 29) rfl), rfl⟩
theorem tw_991 : hk_gd (Cond.code yX12_openIndex cX12_openIndex 9 none) := ⟨hk_t110 (List.mem_of_getElem? (i := 20) rfl), rfl⟩
theorem tw_992 : hk_gd (Cond.selects RX12 yX12_openIndex yX12_openIndex) := ⟨hk_tp (q := (yX12_openIndex, _)) (hk_p6 (List.mem_of_getElem? (i := 5) rfl)), rfl⟩
theorem tw_993 : hk_gd (Cond.instanceMethod yX12_openIndex) := ⟨hk_t110 (List.mem_of_getElem? (i := 19) rfl), rfl⟩
theorem tw_994 : hk_gd (Cond.methodLink RX12 581 yX12_openIndex) := ⟨hk_t110 (List.mem_of_getElem? (i := 17) rfl), rfl⟩
theorem tw_995 : hk_gd (Cond.code yX12_magic cX12_magic 1 (some .int)) := ⟨hk_t110 (List.mem_of_getElem? (i := 4) rfl), rfl⟩
theorem tw_996 : hk_gd (Cond.static yX12_magic) := ⟨hk_t110 (List.mem_of_getElem? (i := 3) rfl), rfl⟩
theorem tw_997 : hk_gd (Cond.methodLink RX12 566 yX12_magic) := ⟨hk_t110 (List.mem_of_getElem? (i := 2) rfl), rfl⟩
theorem tw_998 : hk_gd (Cond.fieldLink RX12 572 "LzmaChainsModel" "boxKind" "I") := ⟨hk_t107 (List.mem_of_getElem? (i := 119) rfl), rfl⟩
theorem tw_999 : hk_gd (Cond.code yX12_branchTurn cX12_branchTurn 6 none) := ⟨hk_t108 (List.mem_of_getElem? (i := 176) rfl), rfl⟩
theorem tw_1000 : hk_gd (Cond.selects RX12 yX12_branchTurn yX12_branchTurn) := ⟨hk_tp (q := (yX12_branchTurn, _)) (hk_p1 (List.mem_of_getElem? (i := 14) rfl)), rfl⟩
theorem tw_1001 : hk_gd (Cond.instanceMethod yX12_branchTurn) := ⟨hk_t108 (List.mem_of_getElem? (i := 175) rfl), rfl⟩
theorem tw_1002 : hk_gd (Cond.methodLink RX12 212 yX12_branchTurn) := ⟨hk_t108 (List.mem_of_getElem? (i := 173) rfl), rfl⟩
theorem tw_1003 : hk_gd (Cond.code yX12_deltaBack cX12_deltaBack 3 none) := ⟨hk_t108 (List.mem_of_getElem? (i := 181) rfl), rfl⟩
theorem tw_1004 : hk_gd (Cond.selects RX12 yX12_deltaBack yX12_deltaBack) := ⟨hk_tp (q := (yX12_deltaBack, _)) (hk_p1 (List.mem_of_getElem? (i := 15) rfl)), rfl⟩
theorem tw_1005 : hk_gd (Cond.instanceMethod yX12_deltaBack) := ⟨hk_t108 (List.mem_of_getElem? (i := 180) rfl), rfl⟩
theorem tw_1006 : hk_gd (Cond.methodLink RX12 216 yX12_deltaBack) := ⟨hk_t108 (List.mem_of_getElem? (i := 178) rfl), rfl⟩
theorem tw_1007 : hk_gd (Cond.fieldLink RX12 104 "LzmaChainsModel" "filterValue" "[I") := ⟨hk_t107 (List.mem_of_getElem? (i := 121) rfl), rfl⟩
theorem tw_1008 : hk_gd (Cond.fieldLink RX12 101 "LzmaChainsModel" "filterKind" "[I") := ⟨hk_t107 (List.mem_of_getElem? (i := 120) rfl), rfl⟩
theorem tw_1009 : hk_gd (Cond.fieldLink RX12 587 "LzmaChainsModel" "filters" "I") := ⟨hk_t107 (List.mem_of_getElem? (i := 122) rfl), rfl⟩
theorem tw_1010 : hk_gd (Cond.fieldLink RX12 596 "LzmaChainsModel" "toldWhole" "J") := ⟨hk_t107 (List.mem_of_getElem? (i := 124) rfl), rfl⟩
theorem tw_1011 : hk_gd (Cond.fieldLink RX12 593 "LzmaChainsModel" "toldPacked" "J") := ⟨hk_t107 (List.mem_of_getElem? (i := 123) rfl), rfl⟩
theorem tw_1012 : hk_gd (Cond.code yX12_wantSum cX12_wantSum 3 none) := ⟨hk_t110 (List.mem_of_getElem? (i := 16) rfl), rfl⟩
theorem tw_1013 : hk_gd (Cond.selects RX12 yX12_wantSum yX12_wantSum) := ⟨hk_tp (q := (yX12_wantSum, _)) (hk_p6 (List.mem_of_getElem? (i := 4) rfl)), rfl⟩
theorem tw_1014 : hk_gd (Cond.instanceMethod yX12_wantSum) := ⟨hk_t110 (List.mem_of_getElem? (i := 15) rfl), rfl⟩
theorem tw_1015 : hk_gd (Cond.methodLink RX12 578 yX12_wantSum) := ⟨hk_t110 (List.mem_of_getElem? (i := 13) rfl), rfl⟩
theorem tw_1016 : hk_gd (Cond.code yX12_sum cX12_sum 4 (some .int)) := ⟨hk_t110 (List.mem_of_getElem? (i := 12) rfl), rfl⟩
theorem tw_1017 : hk_gd (Cond.selects RX12 yX12_sum yX12_sum) := ⟨hk_tp (q := (yX12_sum, _)) (hk_p6 (List.mem_of_getElem? (i := 3) rfl)), rfl⟩
theorem tw_1018 : hk_gd (Cond.instanceMethod yX12_sum) := ⟨hk_t110 (List.mem_of_getElem? (i := 11) rfl), rfl⟩
theorem tw_1019 : hk_gd (Cond.methodLink RX12 575 yX12_sum) := ⟨hk_t110 (List.mem_of_getElem? (i := 9) rfl), rfl⟩
theorem tw_1020 : hk_gd (Cond.code yX12_wantByte cX12_wantByte 4 none) := ⟨hk_t110 (List.mem_of_getElem? (i := 8) rfl), rfl⟩
theorem tw_1021 : hk_gd (Cond.selects RX12 yX12_wantByte yX12_wantByte) := ⟨hk_tp (q := (yX12_wantByte, _)) (hk_p6 (List.mem_of_getElem? (i := 2) rfl)), rfl⟩
theorem tw_1022 : hk_gd (Cond.selects RX12 yX12_deltaAway yX12_deltaAway) := ⟨hk_tp (q := (yX12_deltaAway, _)) (hk_p2 (List.mem_of_getElem? (i := 0) rfl)), rfl⟩
theorem tw_1023 : hk_gd (Cond.instanceMethod yX12_deltaAway) := ⟨hk_t108 (List.mem_of_getElem? (i := 184) rfl), rfl⟩
theorem tw_1024 : hk_gd (Cond.methodLink RX12 219 yX12_deltaAway) := ⟨hk_t108 (List.mem_of_getElem? (i := 182) rfl), rfl⟩
theorem tw_1025 : hk_gd (Cond.code yX12_packBox cX12_packBox 6 none) := ⟨hk_t109 (List.mem_of_getElem? (i := 130) rfl), rfl⟩
theorem tw_1026 : hk_gd (Cond.selects RX12 yX12_packBox yX12_packBox) := ⟨hk_tp (q := (yX12_packBox, _)) (hk_p4 (List.mem_of_getElem? (i := 7) rfl)), rfl⟩
theorem tw_1027 : hk_gd (Cond.instanceMethod yX12_packBox) := ⟨hk_t109 (List.mem_of_getElem? (i := 129) rfl), rfl⟩
theorem tw_1028 : hk_gd (Cond.methodLink RX12 467 yX12_packBox) := ⟨hk_t109 (List.mem_of_getElem? (i := 127) rfl), rfl⟩
theorem tw_1029 : hk_gd (Cond.code yX12_packChunks cX12_packChunks 10 none) := ⟨hk_t109 (List.mem_of_getElem? (i := 118) rfl), rfl⟩
theorem tw_1030 : hk_gd (Cond.selects RX12 yX12_packChunks yX12_packChunks) := ⟨hk_tp (q := (yX12_packChunks, _)) (hk_p4 (List.mem_of_getElem? (i := 4) rfl)), rfl⟩
theorem tw_1031 : hk_gd (Cond.instanceMethod yX12_packChunks) := ⟨hk_t109 (List.mem_of_getElem? (i := 117) rfl), rfl⟩
theorem tw_1032 : hk_gd (Cond.methodLink RX12 448 yX12_packChunks) := ⟨hk_t109 (List.mem_of_getElem? (i := 115) rfl), rfl⟩
theorem tw_1033 : hk_gd (Cond.code yX12_packPlain cX12_packPlain 2 none) := ⟨hk_t108 (List.mem_of_getElem? (i := 217) rfl), rfl⟩
theorem tw_1034 : hk_gd (Cond.selects RX12 yX12_packPlain yX12_packPlain) := ⟨hk_tp (q := (yX12_packPlain, _)) (hk_p2 (List.mem_of_getElem? (i := 3) rfl)), rfl⟩
theorem tw_1035 : hk_gd (Cond.instanceMethod yX12_packPlain) := ⟨hk_t108 (List.mem_of_getElem? (i := 216) rfl), rfl⟩
theorem tw_1036 : hk_gd (Cond.methodLink RX12 464 yX12_packPlain) := ⟨hk_t108 (List.mem_of_getElem? (i := 214) rfl), rfl⟩
theorem tw_1037 : hk_gd (Cond.fieldLink RX12 391 "LzmaChainsModel" "rowSize" "I") := ⟨hk_t107 (List.mem_of_getElem? (i := 102) rfl), rfl⟩
theorem tw_1038 : hk_gd (Cond.fieldLink RX12 360 "LzmaChainsModel" "level" "I") := ⟨hk_t107 (List.mem_of_getElem? (i := 100) rfl), rfl⟩
theorem tw_1039 : hk_gd (Cond.constantLong RX12 549 3000) := ⟨hk_t109 (List.mem_of_getElem? (i := 172) rfl), rfl⟩
theorem tw_1040 : hk_gd (Cond.code yX12_nextWide cX12_nextWide 5 (some .long)) := ⟨hk_t109 (List.mem_of_getElem? (i := 171) rfl), rfl⟩
theorem tw_1041 : hk_gd (Cond.selects RX12 yX12_nextWide yX12_nextWide) := ⟨hk_tp (q := (yX12_nextWide, _)) (hk_p5 (List.mem_of_getElem? (i := 0) rfl)), rfl⟩
theorem tw_1042 : hk_gd (Cond.instanceMethod yX12_nextWide) := ⟨hk_t109 (List.mem_of_getElem? (i := 170) rfl), rfl⟩
theorem tw_1043 : hk_gd (Cond.methodLink RX12 546 yX12_nextWide) := ⟨hk_t109 (List.mem_of_getElem? (i := 168) rfl), rfl⟩
theorem tw_1044 : hk_gd (Cond.code yX12_wantV cX12_wantV 5 none) := ⟨hk_t110 (List.mem_of_getElem? (i := 24) rfl), rfl⟩
theorem tw_1045 : hk_gd (Cond.selects RX12 yX12_wantV yX12_wantV) := ⟨hk_tp (q := (yX12_wantV, _)) (hk_p6 (List.mem_of_getElem? (i := 6) rfl)), rfl⟩
theorem tw_1046 : hk_gd (Cond.instanceMethod yX12_wantV) := ⟨hk_t110 (List.mem_of_getElem? (i := 23) rfl), rfl⟩
theorem tw_1047 : hk_gd (Cond.methodLink RX12 614 yX12_wantV) := ⟨hk_t110 (List.mem_of_getElem? (i := 21) rfl), rfl⟩
theorem tw_1048 : hk_gd (Cond.code yX12_readDictionary cX12_readDictionary 3 none) := ⟨hk_t110 (List.mem_of_getElem? (i := 43) rfl), rfl⟩
theorem tw_1049 : hk_gd (Cond.selects RX12 yX12_readDictionary yX12_readDictionary) := ⟨hk_tp (q := (yX12_readDictionary, _)) (hk_p6 (List.mem_of_getElem? (i := 10) rfl)), rfl⟩
theorem tw_1050 : hk_gd (Cond.instanceMethod yX12_readDictionary) := ⟨hk_t110 (List.mem_of_getElem? (i := 42) rfl), rfl⟩
theorem tw_1051 : hk_gd (Cond.methodLink RX12 605 yX12_readDictionary) := ⟨hk_t110 (List.mem_of_getElem? (i := 40) rfl), rfl⟩
theorem tw_1052 : hk_gd (Cond.constantLong RX12 603 7) := ⟨hk_t110 (List.mem_of_getElem? (i := 39) rfl), rfl⟩
theorem tw_1053 : hk_gd (Cond.constantLong RX12 601 3) := ⟨hk_t110 (List.mem_of_getElem? (i := 38) rfl), rfl⟩
theorem tw_1054 : hk_gd (Cond.constantLong RX12 599 33) := ⟨hk_t110 (List.mem_of_getElem? (i := 37) rfl), rfl⟩
theorem tw_1055 : hk_gd (Cond.code yX12_readV cX12_readV 6 (some .long)) := ⟨hk_t110 (List.mem_of_getElem? (i := 28) rfl), rfl⟩
theorem tw_1056 : hk_gd (Cond.selects RX12 yX12_readV yX12_readV) := ⟨hk_tp (q := (yX12_readV, _)) (hk_p6 (List.mem_of_getElem? (i := 7) rfl)), rfl⟩
theorem tw_1057 : hk_gd (Cond.instanceMethod yX12_readV) := ⟨hk_t110 (List.mem_of_getElem? (i := 27) rfl), rfl⟩
theorem tw_1058 : hk_gd (Cond.methodLink RX12 590 yX12_readV) := ⟨hk_t110 (List.mem_of_getElem? (i := 25) rfl), rfl⟩
theorem tw_1059 : hk_gd (Cond.code yX12_bitsChunk cX12_bitsChunk 7 none) := ⟨hk_t109 (List.mem_of_getElem? (i := 237) rfl), rfl⟩
theorem tw_1060 : hk_gd (Cond.selects RX12 yX12_bitsChunk yX12_bitsChunk) := ⟨hk_tp (q := (yX12_bitsChunk, _)) (hk_p6 (List.mem_of_getElem? (i := 0) rfl)), rfl⟩
theorem tw_1061 : hk_gd (Cond.instanceMethod yX12_bitsChunk) := ⟨hk_t109 (List.mem_of_getElem? (i := 236) rfl), rfl⟩
theorem tw_1062 : hk_gd (Cond.code yX12_beginCoder cX12_beginCoder 1 none) := ⟨hk_t108 (List.mem_of_getElem? (i := 237) rfl), rfl⟩
theorem tw_1063 : hk_gd (Cond.selects RX12 yX12_beginCoder yX12_beginCoder) := ⟨hk_tp (q := (yX12_beginCoder, _)) (hk_p2 (List.mem_of_getElem? (i := 8) rfl)), rfl⟩
theorem tw_1064 : hk_gd (Cond.instanceMethod yX12_beginCoder) := ⟨hk_t108 (List.mem_of_getElem? (i := 236) rfl), rfl⟩
theorem tw_1065 : hk_gd (Cond.methodLink RX12 410 yX12_beginCoder) := ⟨hk_t108 (List.mem_of_getElem? (i := 234) rfl), rfl⟩
theorem tw_1066 : hk_gd (Cond.code yX12_keepState cX12_keepState 2 none) := ⟨hk_t109 (List.mem_of_getElem? (i := 122) rfl), rfl⟩
theorem tw_1067 : hk_gd (Cond.selects RX12 yX12_keepState yX12_keepState) := ⟨hk_tp (q := (yX12_keepState, _)) (hk_p4 (List.mem_of_getElem? (i := 5) rfl)), rfl⟩
theorem tw_1068 : hk_gd (Cond.instanceMethod yX12_keepState) := ⟨hk_t109 (List.mem_of_getElem? (i := 121) rfl), rfl⟩
theorem tw_1069 : hk_gd (Cond.methodLink RX12 437 yX12_keepState) := ⟨hk_t109 (List.mem_of_getElem? (i := 119) rfl), rfl⟩
theorem tw_1070 : hk_gd (Cond.fieldLink RX12 19 "LzmaChainsModel" "chunk" "I") := ⟨hk_t107 (List.mem_of_getElem? (i := 39) rfl), rfl⟩
theorem tw_1071 : hk_gd (Cond.code yX12_takeProperties cX12_takeProperties 1 none) := ⟨hk_t108 (List.mem_of_getElem? (i := 233) rfl), rfl⟩
theorem tw_1072 : hk_gd (Cond.selects RX12 yX12_takeProperties yX12_takeProperties) := ⟨hk_tp (q := (yX12_takeProperties, _)) (hk_p2 (List.mem_of_getElem? (i := 7) rfl)), rfl⟩
theorem tw_1073 : hk_gd (Cond.instanceMethod yX12_takeProperties) := ⟨hk_t108 (List.mem_of_getElem? (i := 232) rfl), rfl⟩
theorem tw_1074 : hk_gd (Cond.methodLink RX12 404 yX12_takeProperties) := ⟨hk_t108 (List.mem_of_getElem? (i := 230) rfl), rfl⟩
theorem tw_1075 : hk_gd (Cond.code yX12_putV cX12_putV 5 none) := ⟨hk_t109 (List.mem_of_getElem? (i := 146) rfl), rfl⟩
theorem tw_1076 : hk_gd (Cond.selects RX12 yX12_putV yX12_putV) := ⟨hk_tp (q := (yX12_putV, _)) (hk_p4 (List.mem_of_getElem? (i := 11) rfl)), rfl⟩
theorem tw_1077 : hk_gd (Cond.instanceMethod yX12_putV) := ⟨hk_t109 (List.mem_of_getElem? (i := 145) rfl), rfl⟩
theorem tw_1078 : hk_gd (Cond.methodLink RX12 457 yX12_putV) := ⟨hk_t109 (List.mem_of_getElem? (i := 143) rfl), rfl⟩
theorem tw_1079 : hk_gd (Cond.code yX12_packBlock cX12_packBlock 8 none) := ⟨hk_t109 (List.mem_of_getElem? (i := 142) rfl), rfl⟩
theorem tw_1080 : hk_gd (Cond.selects RX12 yX12_packBlock yX12_packBlock) := ⟨hk_tp (q := (yX12_packBlock, _)) (hk_p4 (List.mem_of_getElem? (i := 10) rfl)), rfl⟩
theorem tw_1081 : hk_gd (Cond.instanceMethod yX12_packBlock) := ⟨hk_t109 (List.mem_of_getElem? (i := 141) rfl), rfl⟩
theorem tw_1082 : hk_gd (Cond.methodLink RX12 454 yX12_packBlock) := ⟨hk_t109 (List.mem_of_getElem? (i := 139) rfl), rfl⟩
theorem tw_1083 : hk_gd (Cond.fieldLink RX12 22 "LzmaChainsModel" "blockBytes" "I") := ⟨hk_t107 (List.mem_of_getElem? (i := 40) rfl), rfl⟩
theorem tw_1084 : hk_gd (Cond.code yX12_putMagic cX12_putMagic 1 none) := ⟨hk_t109 (List.mem_of_getElem? (i := 134) rfl), rfl⟩
theorem tw_1085 : hk_gd (Cond.selects RX12 yX12_putMagic yX12_putMagic) := ⟨hk_tp (q := (yX12_putMagic, _)) (hk_p4 (List.mem_of_getElem? (i := 8) rfl)), rfl⟩
theorem tw_1086 : hk_gd (Cond.instanceMethod yX12_putMagic) := ⟨hk_t109 (List.mem_of_getElem? (i := 133) rfl), rfl⟩
theorem tw_1087 : hk_gd (Cond.methodLink RX12 451 yX12_putMagic) := ⟨hk_t109 (List.mem_of_getElem? (i := 131) rfl), rfl⟩
theorem tw_1088 : hk_gd (Cond.fieldLink RX12 25 "LzmaChainsModel" "checkKind" "I") := ⟨hk_t107 (List.mem_of_getElem? (i := 41) rfl), rfl⟩
theorem tw_1089 : hk_gd (Cond.code yX12_putWide cX12_putWide 5 none) := ⟨hk_t108 (List.mem_of_getElem? (i := 229) rfl), rfl⟩
theorem tw_1090 : hk_gd (Cond.selects RX12 yX12_putWide yX12_putWide) := ⟨hk_tp (q := (yX12_putWide, _)) (hk_p2 (List.mem_of_getElem? (i := 6) rfl)), rfl⟩
theorem tw_1091 : hk_gd (Cond.instanceMethod yX12_putWide) := ⟨hk_t108 (List.mem_of_getElem? (i := 228) rfl), rfl⟩
theorem tw_1092 : hk_gd (Cond.methodLink RX12 400 yX12_putWide) := ⟨hk_t108 (List.mem_of_getElem? (i := 226) rfl), rfl⟩
theorem tw_1093 : hk_gd (Cond.code yX12_check32 cX12_check32 4 (some .int)) := ⟨hk_t109 (List.mem_of_getElem? (i := 138) rfl), rfl⟩
theorem tw_1094 : hk_gd (Cond.selects RX12 yX12_check32 yX12_check32) := ⟨hk_tp (q := (yX12_check32, _)) (hk_p4 (List.mem_of_getElem? (i := 9) rfl)), rfl⟩
theorem tw_1095 : hk_gd (Cond.instanceMethod yX12_check32) := ⟨hk_t109 (List.mem_of_getElem? (i := 137) rfl), rfl⟩
theorem tw_1096 : hk_gd (Cond.methodLink RX12 445 yX12_check32) := ⟨hk_t109 (List.mem_of_getElem? (i := 135) rfl), rfl⟩
theorem tw_1097 : hk_gd (Cond.code yX12_put cX12_put 2 none) := ⟨hk_t108 (List.mem_of_getElem? (i := 225) rfl), rfl⟩
theorem tw_1098 : hk_gd (Cond.selects RX12 yX12_put yX12_put) := ⟨hk_tp (q := (yX12_put, _)) (hk_p2 (List.mem_of_getElem? (i := 5) rfl)), rfl⟩
theorem tw_1099 : hk_gd (Cond.instanceMethod yX12_put) := ⟨hk_t108 (List.mem_of_getElem? (i := 224) rfl), rfl⟩
theorem tw_1100 : hk_gd (Cond.methodLink RX12 394 yX12_put) := ⟨hk_t108 (List.mem_of_getElem? (i := 222) rfl), rfl⟩
theorem tw_1101 : hk_gd (Cond.code yX12_deltaAway cX12_deltaAway 3 none) := ⟨hk_t108 (List.mem_of_getElem? (i := 185) rfl), rfl⟩
theorem tw_1102 : hk_gd (Cond.methodLink RX12 344 yX12_putTurned) := ⟨hk_t109 (List.mem_of_getElem? (i := 99) rfl), rfl⟩
theorem tw_1103 : hk_gd (Cond.code yX12_putTree cX12_putTree 7 none) := ⟨hk_t109 (List.mem_of_getElem? (i := 89) rfl), rfl⟩
theorem tw_1104 : hk_gd (Cond.selects RX12 yX12_putTree yX12_putTree) := ⟨hk_tp (q := (yX12_putTree, _)) (hk_p3 (List.mem_of_getElem? (i := 13) rfl)), rfl⟩
theorem tw_1105 : hk_gd (Cond.instanceMethod yX12_putTree) := ⟨hk_t109 (List.mem_of_getElem? (i := 88) rfl), rfl⟩
theorem tw_1106 : hk_gd (Cond.methodLink RX12 299 yX12_putTree) := ⟨hk_t109 (List.mem_of_getElem? (i := 86) rfl), rfl⟩
theorem tw_1107 : hk_gd (Cond.constantLong RX12 342 4) := ⟨hk_t109 (List.mem_of_getElem? (i := 98) rfl), rfl⟩
theorem tw_1108 : hk_gd (Cond.code yX12_normal cX12_normal 1 none) := ⟨hk_t109 (List.mem_of_getElem? (i := 57) rfl), rfl⟩
theorem tw_1109 : hk_gd (Cond.selects RX12 yX12_normal yX12_normal) := ⟨hk_tp (q := (yX12_normal, _)) (hk_p3 (List.mem_of_getElem? (i := 6) rfl)), rfl⟩
theorem tw_1110 : hk_gd (Cond.instanceMethod yX12_normal) := ⟨hk_t109 (List.mem_of_getElem? (i := 56) rfl), rfl⟩
theorem tw_1111 : hk_gd (Cond.methodLink RX12 289 yX12_normal) := ⟨hk_t109 (List.mem_of_getElem? (i := 54) rfl), rfl⟩
theorem tw_1112 : hk_gd (Cond.fieldLink RX12 13 "LzmaChainsModel" "pb" "I") := ⟨hk_t107 (List.mem_of_getElem? (i := 37) rfl), rfl⟩
theorem tw_1113 : hk_gd (Cond.fieldLink RX12 7 "LzmaChainsModel" "lc" "I") := ⟨hk_t107 (List.mem_of_getElem? (i := 35) rfl), rfl⟩
theorem tw_1114 : hk_gd (Cond.fieldLink RX12 114 "LzmaChainsModel" "lp" "I") := ⟨hk_t107 (List.mem_of_getElem? (i := 36) rfl), rfl⟩
theorem tw_1115 : hk_gd (Cond.code yX12_bitsOf cX12_bitsOf 3 (some .int)) := ⟨hk_t109 (List.mem_of_getElem? (i := 17) rfl), rfl⟩
theorem tw_1116 : hk_gd (Cond.static yX12_bitsOf) := ⟨hk_t109 (List.mem_of_getElem? (i := 16) rfl), rfl⟩
theorem tw_1117 : hk_gd (Cond.methodLink RX12 333 yX12_bitsOf) := ⟨hk_t109 (List.mem_of_getElem? (i := 15) rfl), rfl⟩
theorem tw_1118 : hk_gd (Cond.fieldLink RX12 89 "LzmaChainsModel" "cost" "[I") := ⟨hk_t107 (List.mem_of_getElem? (i := 97) rfl), rfl⟩
theorem tw_1119 : hk_gd (Cond.fieldLink RX12 252 "LzmaChainsModel" "nowPb" "I") := ⟨hk_t107 (List.mem_of_getElem? (i := 84) rfl), rfl⟩
theorem tw_1120 : hk_gd (Cond.code yX12_putMatch cX12_putMatch 4 none) := ⟨hk_t109 (List.mem_of_getElem? (i := 93) rfl), rfl⟩
theorem tw_1121 : hk_gd (Cond.selects RX12 yX12_putMatch yX12_putMatch) := ⟨hk_tp (q := (yX12_putMatch, _)) (hk_p3 (List.mem_of_getElem? (i := 14) rfl)), rfl⟩
theorem tw_1122 : hk_gd (Cond.instanceMethod yX12_putMatch) := ⟨hk_t109 (List.mem_of_getElem? (i := 92) rfl), rfl⟩
theorem tw_1123 : hk_gd (Cond.methodLink RX12 385 yX12_putMatch) := ⟨hk_t109 (List.mem_of_getElem? (i := 90) rfl), rfl⟩
theorem tw_1124 : hk_gd (Cond.fieldLink RX12 117 "LzmaChainsModel" "mark" "I") := ⟨hk_t107 (List.mem_of_getElem? (i := 42) rfl), rfl⟩
theorem tw_1125 : hk_gd (Cond.code yX12_takeState cX12_takeState 2 none) := ⟨hk_t109 (List.mem_of_getElem? (i := 126) rfl), rfl⟩
theorem tw_1126 : hk_gd (Cond.selects RX12 yX12_takeState yX12_takeState) := ⟨hk_tp (q := (yX12_takeState, _)) (hk_p4 (List.mem_of_getElem? (i := 6) rfl)), rfl⟩
theorem tw_1127 : hk_gd (Cond.instanceMethod yX12_takeState) := ⟨hk_t109 (List.mem_of_getElem? (i := 125) rfl), rfl⟩
theorem tw_1128 : hk_gd (Cond.methodLink RX12 440 yX12_takeState) := ⟨hk_t109 (List.mem_of_getElem? (i := 123) rfl), rfl⟩
theorem tw_1129 : hk_gd (Cond.fieldLink RX12 86 "LzmaChainsModel" "pk" "[I") := ⟨hk_t107 (List.mem_of_getElem? (i := 85) rfl), rfl⟩
theorem tw_1130 : hk_gd (Cond.code yX12_propertyByte cX12_propertyByte 1 (some .int)) := ⟨hk_t108 (List.mem_of_getElem? (i := 221) rfl), rfl⟩
theorem tw_1131 : hk_gd (Cond.selects RX12 yX12_propertyByte yX12_propertyByte) := ⟨hk_tp (q := (yX12_propertyByte, _)) (hk_p2 (List.mem_of_getElem? (i := 4) rfl)), rfl⟩
theorem tw_1132 : hk_gd (Cond.instanceMethod yX12_propertyByte) := ⟨hk_t108 (List.mem_of_getElem? (i := 220) rfl), rfl⟩
theorem tw_1133 : hk_gd (Cond.methodLink RX12 397 yX12_propertyByte) := ⟨hk_t108 (List.mem_of_getElem? (i := 218) rfl), rfl⟩
theorem tw_1134 : hk_gd (Cond.code yX12_endCoder cX12_endCoder 2 none) := ⟨hk_t109 (List.mem_of_getElem? (i := 114) rfl), rfl⟩
theorem tw_1135 : hk_gd (Cond.selects RX12 yX12_endCoder yX12_endCoder) := ⟨hk_tp (q := (yX12_endCoder, _)) (hk_p4 (List.mem_of_getElem? (i := 3) rfl)), rfl⟩
theorem tw_1136 : hk_gd (Cond.instanceMethod yX12_endCoder) := ⟨hk_t109 (List.mem_of_getElem? (i := 113) rfl), rfl⟩
theorem tw_1137 : hk_gd (Cond.methodLink RX12 416 yX12_endCoder) := ⟨hk_t109 (List.mem_of_getElem? (i := 111) rfl), rfl⟩
theorem tw_1138 : hk_gd (Cond.code yX12_putPart cX12_putPart 5 none) := ⟨hk_t109 (List.mem_of_getElem? (i := 2) rfl), rfl⟩
theorem tw_1139 : hk_gd (Cond.selects RX12 yX12_putPart yX12_putPart) := ⟨hk_tp (q := (yX12_putPart, _)) (hk_p2 (List.mem_of_getElem? (i := 9) rfl)), rfl⟩
theorem tw_1140 : hk_gd (Cond.instanceMethod yX12_putPart) := ⟨hk_t109 (List.mem_of_getElem? (i := 1) rfl), rfl⟩
theorem tw_1141 : hk_gd (Cond.methodLink RX12 413 yX12_putPart) := ⟨hk_t108 (List.mem_of_getElem? (i := 239) rfl), rfl⟩
theorem tw_1142 : hk_gd (Cond.constantLong RX12 443 128) := ⟨hk_t109 (List.mem_of_getElem? (i := 147) rfl), rfl⟩
theorem tw_1143 : hk_gd (Cond.code yX12_putRep cX12_putRep 3 none) := ⟨hk_t109 (List.mem_of_getElem? (i := 77) rfl), rfl⟩
theorem tw_1144 : hk_gd (Cond.selects RX12 yX12_putRep yX12_putRep) := ⟨hk_tp (q := (yX12_putRep, _)) (hk_p3 (List.mem_of_getElem? (i := 10) rfl)), rfl⟩
theorem tw_1145 : hk_gd (Cond.instanceMethod yX12_putRep) := ⟨hk_t109 (List.mem_of_getElem? (i := 76) rfl), rfl⟩
theorem tw_1146 : hk_gd (Cond.methodLink RX12 382 yX12_putRep) := ⟨hk_t109 (List.mem_of_getElem? (i := 74) rfl), rfl⟩
theorem tw_1147 : hk_gd (Cond.code yX12_putLiteral cX12_putLiteral 10 none) := ⟨hk_t109 (List.mem_of_getElem? (i := 45) rfl), rfl⟩
theorem tw_1148 : hk_gd (Cond.selects RX12 yX12_putLiteral yX12_putLiteral) := ⟨hk_tp (q := (yX12_putLiteral, _)) (hk_p3 (List.mem_of_getElem? (i := 3) rfl)), rfl⟩
theorem tw_1149 : hk_gd (Cond.instanceMethod yX12_putLiteral) := ⟨hk_t109 (List.mem_of_getElem? (i := 44) rfl), rfl⟩
theorem tw_1150 : hk_gd (Cond.methodLink RX12 379 yX12_putLiteral) := ⟨hk_t109 (List.mem_of_getElem? (i := 42) rfl), rfl⟩
theorem tw_1151 : hk_gd (Cond.code yX12_choose2 cX12_choose2 3 none) := ⟨hk_t109 (List.mem_of_getElem? (i := 37) rfl), rfl⟩
theorem tw_1152 : hk_gd (Cond.selects RX12 yX12_choose2 yX12_choose2) := ⟨hk_tp (q := (yX12_choose2, _)) (hk_p3 (List.mem_of_getElem? (i := 1) rfl)), rfl⟩
theorem tw_1153 : hk_gd (Cond.instanceMethod yX12_choose2) := ⟨hk_t109 (List.mem_of_getElem? (i := 36) rfl), rfl⟩
theorem tw_1154 : hk_gd (Cond.methodLink RX12 369 yX12_choose2) := ⟨hk_t109 (List.mem_of_getElem? (i := 34) rfl), rfl⟩
theorem tw_1155 : hk_gd (Cond.code yX12_choose1 cX12_choose1 6 none) := ⟨hk_t109 (List.mem_of_getElem? (i := 33) rfl), rfl⟩
theorem tw_1156 : hk_gd (Cond.selects RX12 yX12_choose1 yX12_choose1) := ⟨hk_tp (q := (yX12_choose1, _)) (hk_p3 (List.mem_of_getElem? (i := 0) rfl)), rfl⟩
theorem tw_1157 : hk_gd (Cond.instanceMethod yX12_choose1) := ⟨hk_t109 (List.mem_of_getElem? (i := 32) rfl), rfl⟩
theorem tw_1158 : hk_gd (Cond.methodLink RX12 366 yX12_choose1) := ⟨hk_t109 (List.mem_of_getElem? (i := 30) rfl), rfl⟩
theorem tw_1159 : hk_gd (Cond.code yX12_plan cX12_plan 5 none) := ⟨hk_t109 (List.mem_of_getElem? (i := 6) rfl), rfl⟩
theorem tw_1160 : hk_gd (Cond.selects RX12 yX12_plan yX12_plan) := ⟨hk_tp (q := (yX12_plan, _)) (hk_p2 (List.mem_of_getElem? (i := 10) rfl)), rfl⟩
theorem tw_1161 : hk_gd (Cond.instanceMethod yX12_plan) := ⟨hk_t109 (List.mem_of_getElem? (i := 5) rfl), rfl⟩
theorem tw_1162 : hk_gd (Cond.methodLink RX12 363 yX12_plan) := ⟨hk_t109 (List.mem_of_getElem? (i := 3) rfl), rfl⟩
theorem tw_1163 : hk_gd (Cond.code yX12_putFar cX12_putFar 11 none) := ⟨hk_t109 (List.mem_of_getElem? (i := 97) rfl), rfl⟩
theorem tw_1164 : hk_gd (Cond.selects RX12 yX12_putFar yX12_putFar) := ⟨hk_tp (q := (yX12_putFar, _)) (hk_p3 (List.mem_of_getElem? (i := 15) rfl)), rfl⟩
theorem tw_1165 : hk_gd (Cond.instanceMethod yX12_putFar) := ⟨hk_t109 (List.mem_of_getElem? (i := 96) rfl), rfl⟩
theorem tw_1166 : hk_gd (Cond.methodLink RX12 353 yX12_putFar) := ⟨hk_t109 (List.mem_of_getElem? (i := 94) rfl), rfl⟩
theorem tw_1167 : hk_gd (Cond.code yX12_putLength cX12_putLength 4 none) := ⟨hk_t109 (List.mem_of_getElem? (i := 85) rfl), rfl⟩
theorem tw_1168 : hk_gd (Cond.selects RX12 yX12_putLength yX12_putLength) := ⟨hk_tp (q := (yX12_putLength, _)) (hk_p3 (List.mem_of_getElem? (i := 12) rfl)), rfl⟩
theorem tw_1169 : hk_gd (Cond.instanceMethod yX12_putLength) := ⟨hk_t109 (List.mem_of_getElem? (i := 84) rfl), rfl⟩
theorem tw_1170 : hk_gd (Cond.methodLink RX12 350 yX12_putLength) := ⟨hk_t109 (List.mem_of_getElem? (i := 82) rfl), rfl⟩
theorem tw_1171 : hk_gd (Cond.code yX12_putBit cX12_putBit 5 none) := ⟨hk_t109 (List.mem_of_getElem? (i := 53) rfl), rfl⟩
theorem tw_1172 : hk_gd (Cond.selects RX12 yX12_putBit yX12_putBit) := ⟨hk_tp (q := (yX12_putBit, _)) (hk_p3 (List.mem_of_getElem? (i := 5) rfl)), rfl⟩
theorem tw_1173 : hk_gd (Cond.instanceMethod yX12_putBit) := ⟨hk_t109 (List.mem_of_getElem? (i := 52) rfl), rfl⟩
theorem tw_1174 : hk_gd (Cond.methodLink RX12 292 yX12_putBit) := ⟨hk_t109 (List.mem_of_getElem? (i := 50) rfl), rfl⟩
theorem tw_1175 : hk_gd (Cond.code yX12_putPlain cX12_putPlain 2 none) := ⟨hk_t109 (List.mem_of_getElem? (i := 106) rfl), rfl⟩
theorem tw_1176 : hk_gd (Cond.selects RX12 yX12_putPlain yX12_putPlain) := ⟨hk_tp (q := (yX12_putPlain, _)) (hk_p4 (List.mem_of_getElem? (i := 1) rfl)), rfl⟩
theorem tw_1177 : hk_gd (Cond.instanceMethod yX12_putPlain) := ⟨hk_t109 (List.mem_of_getElem? (i := 105) rfl), rfl⟩
theorem tw_1178 : hk_gd (Cond.methodLink RX12 347 yX12_putPlain) := ⟨hk_t109 (List.mem_of_getElem? (i := 103) rfl), rfl⟩
theorem tw_1179 : hk_gd (Cond.code yX12_putTurned cX12_putTurned 7 none) := ⟨hk_t109 (List.mem_of_getElem? (i := 102) rfl), rfl⟩
theorem tw_1180 : hk_gd (Cond.selects RX12 yX12_putTurned yX12_putTurned) := ⟨hk_tp (q := (yX12_putTurned, _)) (hk_p4 (List.mem_of_getElem? (i := 0) rfl)), rfl⟩
theorem tw_1181 : hk_gd (Cond.instanceMethod yX12_putTurned) := ⟨hk_t109 (List.mem_of_getElem? (i := 101) rfl), rfl⟩
theorem tw_1182 : hk_gd (Cond.constantLong RX12 282 16777215) := ⟨hk_t109 (List.mem_of_getElem? (i := 65) rfl), rfl⟩
theorem tw_1183 : hk_gd (Cond.constantLong RX12 278 4278190080) := ⟨hk_t109 (List.mem_of_getElem? (i := 63) rfl), rfl⟩
theorem tw_1184 : hk_gd (Cond.classLink RX11 199 "java/lang/IllegalStateException") := ⟨hk_t106 (List.mem_of_getElem? (i := 2) rfl), rfl⟩
theorem tw_1185 : hk_gd (Cond.code yX11_finishOpening cX11_finishOpening 2 (some .int)) := ⟨hk_t106 (List.mem_of_getElem? (i := 199) rfl), rfl⟩
theorem tw_1186 : hk_gd (Cond.selects RX11 yX11_finishOpening yX11_finishOpening) := ⟨hk_tp (q := (yX11_finishOpening, _)) (hk_p1 (List.mem_of_getElem? (i := 2) rfl)), rfl⟩
theorem tw_1187 : hk_gd (Cond.instanceMethod yX11_finishOpening) := ⟨hk_t106 (List.mem_of_getElem? (i := 198) rfl), rfl⟩
theorem tw_1188 : hk_gd (Cond.methodLink RX11 201 yX11_finishOpening) := ⟨hk_t106 (List.mem_of_getElem? (i := 196) rfl), rfl⟩
theorem tw_1189 : hk_gd (Cond.code yX6_askEnd cX6_askEnd 1 none) := ⟨hk_t106 (List.mem_of_getElem? (i := 195) rfl), rfl⟩
theorem tw_1190 : hk_gd (Cond.selects RX6 yX6_askEnd yX6_askEnd) := ⟨hk_t106 (List.mem_of_getElem? (i := 194) rfl), rfl⟩
theorem tw_1191 : hk_gd (Cond.instanceMethod yX6_askEnd) := ⟨hk_t106 (List.mem_of_getElem? (i := 193) rfl), rfl⟩
theorem tw_1192 : hk_gd (Cond.methodLink RX11 196 yX6_askEnd) := ⟨hk_t106 (List.mem_of_getElem? (i := 192) rfl), rfl⟩
theorem tw_1193 : hk_gd (Cond.code yX6_readFoot cX6_readFoot 5 none) := ⟨hk_t106 (List.mem_of_getElem? (i := 191) rfl), rfl⟩
theorem tw_1194 : hk_gd (Cond.selects RX6 yX6_readFoot yX6_readFoot) := ⟨hk_t106 (List.mem_of_getElem? (i := 190) rfl), rfl⟩
theorem tw_1195 : hk_gd (Cond.instanceMethod yX6_readFoot) := ⟨hk_t106 (List.mem_of_getElem? (i := 189) rfl), rfl⟩
theorem tw_1196 : hk_gd (Cond.methodLink RX11 193 yX6_readFoot) := ⟨hk_t106 (List.mem_of_getElem? (i := 188) rfl), rfl⟩
theorem tw_1197 : hk_gd (Cond.code yX6_readIndex cX6_readIndex 2 none) := ⟨hk_t106 (List.mem_of_getElem? (i := 186) rfl), rfl⟩
theorem tw_1198 : hk_gd (Cond.selects RX6 yX6_readIndex yX6_readIndex) := ⟨hk_t106 (List.mem_of_getElem? (i := 185) rfl), rfl⟩
theorem tw_1199 : hk_gd (Cond.instanceMethod yX6_readIndex) := ⟨hk_t106 (List.mem_of_getElem? (i := 184) rfl), rfl⟩
theorem tw_1200 : hk_gd (Cond.methodLink RX11 190 yX6_readIndex) := ⟨hk_t106 (List.mem_of_getElem? (i := 183) rfl), rfl⟩
theorem tw_1201 : hk_gd (Cond.code yX6_readTail cX6_readTail 5 none) := ⟨hk_t106 (List.mem_of_getElem? (i := 173) rfl), rfl⟩
theorem tw_1202 : hk_gd (Cond.selects RX6 yX6_readTail yX6_readTail) := ⟨hk_t106 (List.mem_of_getElem? (i := 172) rfl), rfl⟩
theorem tw_1203 : hk_gd (Cond.instanceMethod yX6_readTail) := ⟨hk_t106 (List.mem_of_getElem? (i := 171) rfl), rfl⟩
theorem tw_1204 : hk_gd (Cond.methodLink RX11 187 yX6_readTail) := ⟨hk_t106 (List.mem_of_getElem? (i := 170) rfl), rfl⟩
theorem tw_1205 : hk_gd (Cond.code yX6_readHead cX6_readHead 1 none) := ⟨hk_t106 (List.mem_of_getElem? (i := 131) rfl), rfl⟩
theorem tw_1206 : hk_gd (Cond.selects RX6 yX6_readHead yX6_readHead) := ⟨hk_t106 (List.mem_of_getElem? (i := 130) rfl), rfl⟩
theorem tw_1207 : hk_gd (Cond.instanceMethod yX6_readHead) := ⟨hk_t106 (List.mem_of_getElem? (i := 129) rfl), rfl⟩
theorem tw_1208 : hk_gd (Cond.methodLink RX11 184 yX6_readHead) := ⟨hk_t106 (List.mem_of_getElem? (i := 128) rfl), rfl⟩
theorem tw_1209 : hk_gd (Cond.code yX6_findBlock cX6_findBlock 2 (some .boolean)) := ⟨hk_t106 (List.mem_of_getElem? (i := 127) rfl), rfl⟩
theorem tw_1210 : hk_gd (Cond.selects RX6 yX6_findBlock yX6_findBlock) := ⟨hk_t106 (List.mem_of_getElem? (i := 126) rfl), rfl⟩
theorem tw_1211 : hk_gd (Cond.instanceMethod yX6_findBlock) := ⟨hk_t106 (List.mem_of_getElem? (i := 125) rfl), rfl⟩
theorem tw_1212 : hk_gd (Cond.methodLink RX11 180 yX6_findBlock) := ⟨hk_t106 (List.mem_of_getElem? (i := 124) rfl), rfl⟩
theorem tw_1213 : hk_gd (Cond.code yX6_readStart cX6_readStart 1 none) := ⟨hk_t106 (List.mem_of_getElem? (i := 117) rfl), rfl⟩
theorem tw_1214 : hk_gd (Cond.selects RX6 yX6_readStart yX6_readStart) := ⟨hk_t106 (List.mem_of_getElem? (i := 116) rfl), rfl⟩
theorem tw_1215 : hk_gd (Cond.instanceMethod yX6_readStart) := ⟨hk_t106 (List.mem_of_getElem? (i := 115) rfl), rfl⟩
theorem tw_1216 : hk_gd (Cond.methodLink RX11 177 yX6_readStart) := ⟨hk_t106 (List.mem_of_getElem? (i := 114) rfl), rfl⟩
theorem tw_1217 : hk_gd (Cond.code yX6_noteBlock cX6_noteBlock 1 none) := ⟨hk_t106 (List.mem_of_getElem? (i := 112) rfl), rfl⟩
theorem tw_1218 : hk_gd (Cond.selects RX6 yX6_noteBlock yX6_noteBlock) := ⟨hk_t106 (List.mem_of_getElem? (i := 111) rfl), rfl⟩
theorem tw_1219 : hk_gd (Cond.instanceMethod yX6_noteBlock) := ⟨hk_t106 (List.mem_of_getElem? (i := 110) rfl), rfl⟩
theorem tw_1220 : hk_gd (Cond.methodLink RX11 174 yX6_noteBlock) := ⟨hk_t106 (List.mem_of_getElem? (i := 109) rfl), rfl⟩
theorem tw_1221 : hk_gd (Cond.code yX6_readChunks cX6_readChunks 4 none) := ⟨hk_t106 (List.mem_of_getElem? (i := 89) rfl), rfl⟩
theorem tw_1222 : hk_gd (Cond.selects RX6 yX6_readChunks yX6_readChunks) := ⟨hk_t106 (List.mem_of_getElem? (i := 88) rfl), rfl⟩
theorem tw_1223 : hk_gd (Cond.instanceMethod yX6_readChunks) := ⟨hk_t106 (List.mem_of_getElem? (i := 87) rfl), rfl⟩
theorem tw_1224 : hk_gd (Cond.methodLink RX11 171 yX6_readChunks) := ⟨hk_t106 (List.mem_of_getElem? (i := 86) rfl), rfl⟩
theorem tw_1225 : hk_gd (Cond.methodLink RX11 167 yX6_askMemory) := ⟨hk_t106 (List.mem_of_getElem? (i := 85) rfl), rfl⟩
theorem tw_1226 : hk_gd (Cond.fieldLink RX11 164 "LzmaChains$Settings" "dictionary" "I") := ⟨hk_t101 (List.mem_of_getElem? (i := 54) rfl), rfl⟩
theorem tw_1227 : hk_gd (Cond.code yX6_readAlone cX6_readAlone 3 none) := ⟨hk_t106 (List.mem_of_getElem? (i := 17) rfl), rfl⟩
theorem tw_1228 : hk_gd (Cond.selects RX6 yX6_readAlone yX6_readAlone) := ⟨hk_t106 (List.mem_of_getElem? (i := 16) rfl), rfl⟩
theorem tw_1229 : hk_gd (Cond.instanceMethod yX6_readAlone) := ⟨hk_t106 (List.mem_of_getElem? (i := 15) rfl), rfl⟩
theorem tw_1230 : hk_gd (Cond.methodLink RX11 161 yX6_readAlone) := ⟨hk_t106 (List.mem_of_getElem? (i := 14) rfl), rfl⟩
theorem tw_1231 : hk_gd (Cond.code yX6_begin cX6_begin 2 none) := ⟨hk_t106 (List.mem_of_getElem? (i := 6) rfl), rfl⟩
theorem tw_1232 : hk_gd (Cond.selects RX6 yX6_begin yX6_begin) := ⟨hk_t106 (List.mem_of_getElem? (i := 5) rfl), rfl⟩
theorem tw_1233 : hk_gd (Cond.instanceMethod yX6_begin) := ⟨hk_t106 (List.mem_of_getElem? (i := 4) rfl), rfl⟩
theorem tw_1234 : hk_gd (Cond.methodLink RX11 160 yX6_begin) := ⟨hk_t106 (List.mem_of_getElem? (i := 3) rfl), rfl⟩
theorem tw_1235 : hk_gd (Cond.classLink RL 13 "java/lang/ArrayIndexOutOfBoundsException") := ⟨hk_t107 (List.mem_of_getElem? (i := 13) rfl), rfl⟩
theorem tw_1236 : hk_gd (Cond.code yX11_out cX11_out 2 (some .int)) := ⟨hk_t107 (List.mem_of_getElem? (i := 17) rfl), rfl⟩
theorem tw_1237 : hk_gd (Cond.selects RX11 yX11_out yX11_out) := ⟨hk_t107 (List.mem_of_getElem? (i := 16) rfl), rfl⟩
theorem tw_1238 : hk_gd (Cond.instanceMethod yX11_out) := ⟨hk_t107 (List.mem_of_getElem? (i := 15) rfl), rfl⟩
theorem tw_1239 : hk_gd (Cond.methodLink RL 7 yX11_out) := ⟨hk_t107 (List.mem_of_getElem? (i := 14) rfl), rfl⟩
theorem tw_1240 : hk_gd (Cond.lays "LzmaChains" "LzmaChains" "lastState" "I") := ⟨hk_t102 (List.mem_of_getElem? (i := 239) rfl), rfl⟩
theorem tw_1241 : hk_gd (Cond.lays "LzmaChains" "LzmaChains" "broken" "I") := ⟨hk_t102 (List.mem_of_getElem? (i := 237) rfl), rfl⟩
theorem tw_1242 : hk_gd (Cond.laysFinal "LzmaChains" "LzmaChains" "opener" "LLzmaChains$Opener;") := ⟨hk_t102 (List.mem_of_getElem? (i := 235) rfl), rfl⟩
theorem tw_1243 : hk_gd (Cond.laysFinal "LzmaChains" "LzmaChains" "packer" "LLzmaChains$Packer;") := ⟨hk_t102 (List.mem_of_getElem? (i := 233) rfl), rfl⟩
theorem tw_1244 : hk_gd (Cond.laysFinal "LzmaChains" "LzmaChains" "ledger" "LLzmaChains$Ledger;") := ⟨hk_t102 (List.mem_of_getElem? (i := 231) rfl), rfl⟩
theorem tw_1245 : hk_gd (Cond.laysFinal "LzmaChains" "LzmaChains" "checks" "LLzmaChains$Checks;") := ⟨hk_t102 (List.mem_of_getElem? (i := 229) rfl), rfl⟩
theorem tw_1246 : hk_gd (Cond.laysFinal "LzmaChains" "LzmaChains" "model" "LLzmaChains$Model;") := ⟨hk_t102 (List.mem_of_getElem? (i := 227) rfl), rfl⟩
theorem tw_1247 : hk_gd (Cond.laysFinal "LzmaChains" "LzmaChains" "output" "LLzmaChains$Row;") := ⟨hk_t102 (List.mem_of_getElem? (i := 225) rfl), rfl⟩
theorem tw_1248 : hk_gd (Cond.laysFinal "LzmaChains" "LzmaChains" "input" "LLzmaChains$Row;") := ⟨hk_t102 (List.mem_of_getElem? (i := 223) rfl), rfl⟩
theorem tw_1249 : hk_gd (Cond.laysFinal "LzmaChains" "LzmaChains" "settings" "LLzmaChains$Settings;") := ⟨hk_t102 (List.mem_of_getElem? (i := 221) rfl), rfl⟩
theorem tw_1250 : hk_gd (Cond.laysFinal "LzmaChains" "LzmaChains" "form" "I") := ⟨hk_t102 (List.mem_of_getElem? (i := 219) rfl), rfl⟩
theorem tw_1251 : hk_gd (Cond.lays "LzmaChains$Settings" "LzmaChains$Settings" "branch" "I") := ⟨hk_t101 (List.mem_of_getElem? (i := 85) rfl), rfl⟩
theorem tw_1252 : hk_gd (Cond.lays "LzmaChains$Settings" "LzmaChains$Settings" "delta" "I") := ⟨hk_t101 (List.mem_of_getElem? (i := 83) rfl), rfl⟩
theorem tw_1253 : hk_gd (Cond.lays "LzmaChains$Settings" "LzmaChains$Settings" "mark" "I") := ⟨hk_t101 (List.mem_of_getElem? (i := 81) rfl), rfl⟩
theorem tw_1254 : hk_gd (Cond.lays "LzmaChains$Settings" "LzmaChains$Settings" "check" "I") := ⟨hk_t101 (List.mem_of_getElem? (i := 79) rfl), rfl⟩
theorem tw_1255 : hk_gd (Cond.lays "LzmaChains$Settings" "LzmaChains$Settings" "block" "I") := ⟨hk_t101 (List.mem_of_getElem? (i := 77) rfl), rfl⟩
theorem tw_1256 : hk_gd (Cond.lays "LzmaChains$Settings" "LzmaChains$Settings" "chunk" "I") := ⟨hk_t101 (List.mem_of_getElem? (i := 75) rfl), rfl⟩
theorem tw_1257 : hk_gd (Cond.lays "LzmaChains$Settings" "LzmaChains$Settings" "dictionary" "I") := ⟨hk_t101 (List.mem_of_getElem? (i := 73) rfl), rfl⟩
theorem tw_1258 : hk_gd (Cond.lays "LzmaChains$Settings" "LzmaChains$Settings" "pb" "I") := ⟨hk_t101 (List.mem_of_getElem? (i := 71) rfl), rfl⟩
theorem tw_1259 : hk_gd (Cond.lays "LzmaChains$Settings" "LzmaChains$Settings" "lp" "I") := ⟨hk_t101 (List.mem_of_getElem? (i := 69) rfl), rfl⟩
theorem tw_1260 : hk_gd (Cond.lays "LzmaChains$Settings" "LzmaChains$Settings" "lc" "I") := ⟨hk_t101 (List.mem_of_getElem? (i := 67) rfl), rfl⟩
theorem tw_1261 : hk_gd (Cond.lays "LzmaChains$Row" "LzmaChains$Row" "size" "I") := ⟨hk_t101 (List.mem_of_getElem? (i := 108) rfl), rfl⟩
theorem tw_1262 : hk_gd (Cond.laysFinal "LzmaChains$Row" "LzmaChains$Row" "data" "[I") := ⟨hk_t101 (List.mem_of_getElem? (i := 106) rfl), rfl⟩
theorem tw_1263 : hk_gd (Cond.lays "LzmaChains$Reader" "LzmaChains$Reader" "broken" "I") := ⟨hk_t101 (List.mem_of_getElem? (i := 135) rfl), rfl⟩
theorem tw_1264 : hk_gd (Cond.lays "LzmaChains$Reader" "LzmaChains$Reader" "limit" "I") := ⟨hk_t101 (List.mem_of_getElem? (i := 133) rfl), rfl⟩
theorem tw_1265 : hk_gd (Cond.lays "LzmaChains$Reader" "LzmaChains$Reader" "at" "I") := ⟨hk_t101 (List.mem_of_getElem? (i := 131) rfl), rfl⟩
theorem tw_1266 : hk_gd (Cond.laysFinal "LzmaChains$Reader" "LzmaChains$Reader" "row" "LLzmaChains$Row;") := ⟨hk_t101 (List.mem_of_getElem? (i := 129) rfl), rfl⟩
theorem tw_1267 : hk_gd (Cond.lays "LzmaChains$Packer" "LzmaChains$Packer" "stateBefore" "I") := ⟨hk_t102 (List.mem_of_getElem? (i := 108) rfl), rfl⟩
theorem tw_1268 : hk_gd (Cond.lays "LzmaChains$Packer" "LzmaChains$Packer" "stepsBefore" "I") := ⟨hk_t102 (List.mem_of_getElem? (i := 106) rfl), rfl⟩
theorem tw_1269 : hk_gd (Cond.lays "LzmaChains$Packer" "LzmaChains$Packer" "bitsPlace" "I") := ⟨hk_t102 (List.mem_of_getElem? (i := 104) rfl), rfl⟩
theorem tw_1270 : hk_gd (Cond.lays "LzmaChains$Packer" "LzmaChains$Packer" "partPlace" "I") := ⟨hk_t102 (List.mem_of_getElem? (i := 102) rfl), rfl⟩
theorem tw_1271 : hk_gd (Cond.lays "LzmaChains$Packer" "LzmaChains$Packer" "indexPlace" "I") := ⟨hk_t102 (List.mem_of_getElem? (i := 100) rfl), rfl⟩
theorem tw_1272 : hk_gd (Cond.lays "LzmaChains$Packer" "LzmaChains$Packer" "chunks" "I") := ⟨hk_t102 (List.mem_of_getElem? (i := 98) rfl), rfl⟩
theorem tw_1273 : hk_gd (Cond.lays "LzmaChains$Packer" "LzmaChains$Packer" "chunkPlace" "I") := ⟨hk_t102 (List.mem_of_getElem? (i := 96) rfl), rfl⟩
theorem tw_1274 : hk_gd (Cond.lays "LzmaChains$Packer" "LzmaChains$Packer" "headSize" "I") := ⟨hk_t102 (List.mem_of_getElem? (i := 94) rfl), rfl⟩
theorem tw_1275 : hk_gd (Cond.lays "LzmaChains$Packer" "LzmaChains$Packer" "headPlace" "I") := ⟨hk_t102 (List.mem_of_getElem? (i := 92) rfl), rfl⟩
theorem tw_1276 : hk_gd (Cond.lays "LzmaChains$Packer" "LzmaChains$Packer" "level" "I") := ⟨hk_t102 (List.mem_of_getElem? (i := 90) rfl), rfl⟩
theorem tw_1277 : hk_gd (Cond.laysFinal "LzmaChains$Packer" "LzmaChains$Packer" "chooser" "LLzmaChains$Chooser;") := ⟨hk_t102 (List.mem_of_getElem? (i := 88) rfl), rfl⟩
theorem tw_1278 : hk_gd (Cond.laysFinal "LzmaChains$Packer" "LzmaChains$Packer" "ledger" "LLzmaChains$Ledger;") := ⟨hk_t102 (List.mem_of_getElem? (i := 86) rfl), rfl⟩
theorem tw_1279 : hk_gd (Cond.laysFinal "LzmaChains$Packer" "LzmaChains$Packer" "checks" "LLzmaChains$Checks;") := ⟨hk_t102 (List.mem_of_getElem? (i := 84) rfl), rfl⟩
theorem tw_1280 : hk_gd (Cond.laysFinal "LzmaChains$Packer" "LzmaChains$Packer" "model" "LLzmaChains$Model;") := ⟨hk_t102 (List.mem_of_getElem? (i := 82) rfl), rfl⟩
theorem tw_1281 : hk_gd (Cond.laysFinal "LzmaChains$Packer" "LzmaChains$Packer" "output" "LLzmaChains$Row;") := ⟨hk_t102 (List.mem_of_getElem? (i := 80) rfl), rfl⟩
theorem tw_1282 : hk_gd (Cond.laysFinal "LzmaChains$Packer" "LzmaChains$Packer" "input" "LLzmaChains$Row;") := ⟨hk_t102 (List.mem_of_getElem? (i := 78) rfl), rfl⟩
theorem tw_1283 : hk_gd (Cond.laysFinal "LzmaChains$Packer" "LzmaChains$Packer" "settings" "LLzmaChains$Settings;") := ⟨hk_t102 (List.mem_of_getElem? (i := 76) rfl), rfl⟩
theorem tw_1284 : hk_gd (Cond.lays "LzmaChains$Opener" "LzmaChains$Opener" "packed" "I") := ⟨hk_t102 (List.mem_of_getElem? (i := 205) rfl), rfl⟩
theorem tw_1285 : hk_gd (Cond.lays "LzmaChains$Opener" "LzmaChains$Opener" "chunks" "I") := ⟨hk_t102 (List.mem_of_getElem? (i := 203) rfl), rfl⟩
theorem tw_1286 : hk_gd (Cond.lays "LzmaChains$Opener" "LzmaChains$Opener" "chunkEnd" "I") := ⟨hk_t102 (List.mem_of_getElem? (i := 201) rfl), rfl⟩
theorem tw_1287 : hk_gd (Cond.lays "LzmaChains$Opener" "LzmaChains$Opener" "chunkPlace" "I") := ⟨hk_t102 (List.mem_of_getElem? (i := 199) rfl), rfl⟩
theorem tw_1288 : hk_gd (Cond.lays "LzmaChains$Opener" "LzmaChains$Opener" "blockStart" "I") := ⟨hk_t102 (List.mem_of_getElem? (i := 197) rfl), rfl⟩
theorem tw_1289 : hk_gd (Cond.lays "LzmaChains$Opener" "LzmaChains$Opener" "checkKind" "I") := ⟨hk_t102 (List.mem_of_getElem? (i := 195) rfl), rfl⟩
theorem tw_1290 : hk_gd (Cond.lays "LzmaChains$Opener" "LzmaChains$Opener" "base" "I") := ⟨hk_t102 (List.mem_of_getElem? (i := 193) rfl), rfl⟩
theorem tw_1291 : hk_gd (Cond.lays "LzmaChains$Opener" "LzmaChains$Opener" "dictionary" "J") := ⟨hk_t102 (List.mem_of_getElem? (i := 191) rfl), rfl⟩
theorem tw_1292 : hk_gd (Cond.lays "LzmaChains$Opener" "LzmaChains$Opener" "memory" "J") := ⟨hk_t102 (List.mem_of_getElem? (i := 189) rfl), rfl⟩
theorem tw_1293 : hk_gd (Cond.laysFinal "LzmaChains$Opener" "LzmaChains$Opener" "expected" "LLzmaChains$Row;") := ⟨hk_t102 (List.mem_of_getElem? (i := 187) rfl), rfl⟩
theorem tw_1294 : hk_gd (Cond.laysFinal "LzmaChains$Opener" "LzmaChains$Opener" "head" "LLzmaChains$Head;") := ⟨hk_t102 (List.mem_of_getElem? (i := 185) rfl), rfl⟩
theorem tw_1295 : hk_gd (Cond.laysFinal "LzmaChains$Opener" "LzmaChains$Opener" "ledger" "LLzmaChains$Ledger;") := ⟨hk_t102 (List.mem_of_getElem? (i := 183) rfl), rfl⟩
theorem tw_1296 : hk_gd (Cond.laysFinal "LzmaChains$Opener" "LzmaChains$Opener" "checks" "LLzmaChains$Checks;") := ⟨hk_t102 (List.mem_of_getElem? (i := 181) rfl), rfl⟩
theorem tw_1297 : hk_gd (Cond.laysFinal "LzmaChains$Opener" "LzmaChains$Opener" "model" "LLzmaChains$Model;") := ⟨hk_t102 (List.mem_of_getElem? (i := 179) rfl), rfl⟩
theorem tw_1298 : hk_gd (Cond.laysFinal "LzmaChains$Opener" "LzmaChains$Opener" "output" "LLzmaChains$Row;") := ⟨hk_t102 (List.mem_of_getElem? (i := 177) rfl), rfl⟩
theorem tw_1299 : hk_gd (Cond.laysFinal "LzmaChains$Opener" "LzmaChains$Opener" "source" "LLzmaChains$Reader;") := ⟨hk_t102 (List.mem_of_getElem? (i := 175) rfl), rfl⟩
theorem tw_1300 : hk_gd (Cond.lays "LzmaChains$Model" "LzmaChains$Model" "state" "I") := ⟨hk_t101 (List.mem_of_getElem? (i := 201) rfl), rfl⟩
theorem tw_1301 : hk_gd (Cond.lays "LzmaChains$Model" "LzmaChains$Model" "pb" "I") := ⟨hk_t101 (List.mem_of_getElem? (i := 199) rfl), rfl⟩
theorem tw_1302 : hk_gd (Cond.lays "LzmaChains$Model" "LzmaChains$Model" "lp" "I") := ⟨hk_t101 (List.mem_of_getElem? (i := 197) rfl), rfl⟩
theorem tw_1303 : hk_gd (Cond.lays "LzmaChains$Model" "LzmaChains$Model" "lc" "I") := ⟨hk_t101 (List.mem_of_getElem? (i := 195) rfl), rfl⟩
theorem tw_1304 : hk_gd (Cond.laysFinal "LzmaChains$Model" "LzmaChains$Model" "backs" "[J") := ⟨hk_t101 (List.mem_of_getElem? (i := 193) rfl), rfl⟩
theorem tw_1305 : hk_gd (Cond.laysFinal "LzmaChains$Model" "LzmaChains$Model" "coder" "LLzmaChains$Coder;") := ⟨hk_t101 (List.mem_of_getElem? (i := 191) rfl), rfl⟩
theorem tw_1306 : hk_gd (Cond.lays "LzmaChains$Ledger" "LzmaChains$Ledger" "blocks" "I") := ⟨hk_t102 (List.mem_of_getElem? (i := 1) rfl), rfl⟩
theorem tw_1307 : hk_gd (Cond.lays "LzmaChains$Ledger" "LzmaChains$Ledger" "steps" "I") := ⟨hk_t101 (List.mem_of_getElem? (i := 239) rfl), rfl⟩
theorem tw_1308 : hk_gd (Cond.laysFinal "LzmaChains$Ledger" "LzmaChains$Ledger" "blockParts" "[I") := ⟨hk_t101 (List.mem_of_getElem? (i := 237) rfl), rfl⟩
theorem tw_1309 : hk_gd (Cond.laysFinal "LzmaChains$Ledger" "LzmaChains$Ledger" "stepParts" "[I") := ⟨hk_t101 (List.mem_of_getElem? (i := 235) rfl), rfl⟩
theorem tw_1310 : hk_gd (Cond.lays "LzmaChains$Head" "LzmaChains$Head" "dictionary" "J") := ⟨hk_t102 (List.mem_of_getElem? (i := 153) rfl), rfl⟩
theorem tw_1311 : hk_gd (Cond.lays "LzmaChains$Head" "LzmaChains$Head" "toldBytes" "J") := ⟨hk_t102 (List.mem_of_getElem? (i := 151) rfl), rfl⟩
theorem tw_1312 : hk_gd (Cond.lays "LzmaChains$Head" "LzmaChains$Head" "toldPacked" "J") := ⟨hk_t102 (List.mem_of_getElem? (i := 149) rfl), rfl⟩
theorem tw_1313 : hk_gd (Cond.lays "LzmaChains$Head" "LzmaChains$Head" "size" "I") := ⟨hk_t102 (List.mem_of_getElem? (i := 147) rfl), rfl⟩
theorem tw_1314 : hk_gd (Cond.lays "LzmaChains$Head" "LzmaChains$Head" "place" "I") := ⟨hk_t102 (List.mem_of_getElem? (i := 145) rfl), rfl⟩
theorem tw_1315 : hk_gd (Cond.lays "LzmaChains$Head" "LzmaChains$Head" "filters" "I") := ⟨hk_t102 (List.mem_of_getElem? (i := 143) rfl), rfl⟩
theorem tw_1316 : hk_gd (Cond.laysFinal "LzmaChains$Head" "LzmaChains$Head" "values" "[I") := ⟨hk_t102 (List.mem_of_getElem? (i := 141) rfl), rfl⟩
theorem tw_1317 : hk_gd (Cond.laysFinal "LzmaChains$Head" "LzmaChains$Head" "kinds" "[I") := ⟨hk_t102 (List.mem_of_getElem? (i := 139) rfl), rfl⟩
theorem tw_1318 : hk_gd (Cond.laysFinal "LzmaChains$Head" "LzmaChains$Head" "source" "LLzmaChains$Reader;") := ⟨hk_t102 (List.mem_of_getElem? (i := 137) rfl), rfl⟩
theorem tw_1319 : hk_gd (Cond.lays "LzmaChains$Coder" "LzmaChains$Coder" "waiting" "I") := ⟨hk_t101 (List.mem_of_getElem? (i := 173) rfl), rfl⟩
theorem tw_1320 : hk_gd (Cond.lays "LzmaChains$Coder" "LzmaChains$Coder" "held" "I") := ⟨hk_t101 (List.mem_of_getElem? (i := 171) rfl), rfl⟩
theorem tw_1321 : hk_gd (Cond.lays "LzmaChains$Coder" "LzmaChains$Coder" "code" "J") := ⟨hk_t101 (List.mem_of_getElem? (i := 169) rfl), rfl⟩
theorem tw_1322 : hk_gd (Cond.lays "LzmaChains$Coder" "LzmaChains$Coder" "range" "J") := ⟨hk_t101 (List.mem_of_getElem? (i := 167) rfl), rfl⟩
theorem tw_1323 : hk_gd (Cond.lays "LzmaChains$Coder" "LzmaChains$Coder" "low" "J") := ⟨hk_t101 (List.mem_of_getElem? (i := 165) rfl), rfl⟩
theorem tw_1324 : hk_gd (Cond.lays "LzmaChains$Coder" "LzmaChains$Coder" "opening" "Z") := ⟨hk_t101 (List.mem_of_getElem? (i := 163) rfl), rfl⟩
theorem tw_1325 : hk_gd (Cond.laysFinal "LzmaChains$Coder" "LzmaChains$Coder" "sink" "LLzmaChains$Row;") := ⟨hk_t101 (List.mem_of_getElem? (i := 161) rfl), rfl⟩
theorem tw_1326 : hk_gd (Cond.laysFinal "LzmaChains$Coder" "LzmaChains$Coder" "source" "LLzmaChains$Reader;") := ⟨hk_t101 (List.mem_of_getElem? (i := 159) rfl), rfl⟩
theorem tw_1327 : hk_gd (Cond.laysFinal "LzmaChains$Coder" "LzmaChains$Coder" "chances" "[I") := ⟨hk_t101 (List.mem_of_getElem? (i := 157) rfl), rfl⟩
theorem tw_1328 : hk_gd (Cond.lays "LzmaChains$Chooser" "LzmaChains$Chooser" "far" "I") := ⟨hk_t102 (List.mem_of_getElem? (i := 56) rfl), rfl⟩
theorem tw_1329 : hk_gd (Cond.lays "LzmaChains$Chooser" "LzmaChains$Chooser" "length" "I") := ⟨hk_t102 (List.mem_of_getElem? (i := 54) rfl), rfl⟩
theorem tw_1330 : hk_gd (Cond.lays "LzmaChains$Chooser" "LzmaChains$Chooser" "kind" "I") := ⟨hk_t102 (List.mem_of_getElem? (i := 52) rfl), rfl⟩
theorem tw_1331 : hk_gd (Cond.lays "LzmaChains$Chooser" "LzmaChains$Chooser" "to" "I") := ⟨hk_t102 (List.mem_of_getElem? (i := 50) rfl), rfl⟩
theorem tw_1332 : hk_gd (Cond.lays "LzmaChains$Chooser" "LzmaChains$Chooser" "from" "I") := ⟨hk_t102 (List.mem_of_getElem? (i := 48) rfl), rfl⟩
theorem tw_1333 : hk_gd (Cond.lays "LzmaChains$Chooser" "LzmaChains$Chooser" "base" "I") := ⟨hk_t102 (List.mem_of_getElem? (i := 46) rfl), rfl⟩
theorem tw_1334 : hk_gd (Cond.laysFinal "LzmaChains$Chooser" "LzmaChains$Chooser" "strides" "[I") := ⟨hk_t102 (List.mem_of_getElem? (i := 44) rfl), rfl⟩
theorem tw_1335 : hk_gd (Cond.laysFinal "LzmaChains$Chooser" "LzmaChains$Chooser" "costs" "[I") := ⟨hk_t102 (List.mem_of_getElem? (i := 42) rfl), rfl⟩
theorem tw_1336 : hk_gd (Cond.laysFinal "LzmaChains$Chooser" "LzmaChains$Chooser" "runs" "[I") := ⟨hk_t102 (List.mem_of_getElem? (i := 40) rfl), rfl⟩
theorem tw_1337 : hk_gd (Cond.laysFinal "LzmaChains$Chooser" "LzmaChains$Chooser" "nearest" "[I") := ⟨hk_t102 (List.mem_of_getElem? (i := 38) rfl), rfl⟩
theorem tw_1338 : hk_gd (Cond.laysFinal "LzmaChains$Chooser" "LzmaChains$Chooser" "longest" "[I") := ⟨hk_t102 (List.mem_of_getElem? (i := 36) rfl), rfl⟩
theorem tw_1339 : hk_gd (Cond.laysFinal "LzmaChains$Chooser" "LzmaChains$Chooser" "model" "LLzmaChains$Model;") := ⟨hk_t102 (List.mem_of_getElem? (i := 34) rfl), rfl⟩
theorem tw_1340 : hk_gd (Cond.laysFinal "LzmaChains$Chooser" "LzmaChains$Chooser" "row" "LLzmaChains$Row;") := ⟨hk_t102 (List.mem_of_getElem? (i := 32) rfl), rfl⟩
theorem tw_1341 : hk_gd (Cond.laysFinal "LzmaChains$Checks" "LzmaChains$Checks" "schedule" "[I") := ⟨hk_t101 (List.mem_of_getElem? (i := 219) rfl), rfl⟩
theorem tw_1342 : hk_gd (Cond.laysFinal "LzmaChains$Checks" "LzmaChains$Checks" "mixed" "[I") := ⟨hk_t101 (List.mem_of_getElem? (i := 217) rfl), rfl⟩
theorem tw_1343 : hk_gd (Cond.laysFinal "LzmaChains$Checks" "LzmaChains$Checks" "words" "[I") := ⟨hk_t101 (List.mem_of_getElem? (i := 215) rfl), rfl⟩
theorem tw_1344 : hk_gd (Cond.lays "LzmaChainsModel" "LzmaChainsModel" "toldWhole" "J") := ⟨hk_t108 (List.mem_of_getElem? (i := 67) rfl), rfl⟩
theorem tw_1345 : hk_gd (Cond.lays "LzmaChainsModel" "LzmaChainsModel" "toldPacked" "J") := ⟨hk_t108 (List.mem_of_getElem? (i := 65) rfl), rfl⟩
theorem tw_1346 : hk_gd (Cond.lays "LzmaChainsModel" "LzmaChainsModel" "filters" "I") := ⟨hk_t108 (List.mem_of_getElem? (i := 63) rfl), rfl⟩
theorem tw_1347 : hk_gd (Cond.laysFinal "LzmaChainsModel" "LzmaChainsModel" "filterValue" "[I") := ⟨hk_t108 (List.mem_of_getElem? (i := 61) rfl), rfl⟩
theorem tw_1348 : hk_gd (Cond.laysFinal "LzmaChainsModel" "LzmaChainsModel" "filterKind" "[I") := ⟨hk_t108 (List.mem_of_getElem? (i := 59) rfl), rfl⟩
theorem tw_1349 : hk_gd (Cond.lays "LzmaChainsModel" "LzmaChainsModel" "boxKind" "I") := ⟨hk_t108 (List.mem_of_getElem? (i := 57) rfl), rfl⟩
theorem tw_1350 : hk_gd (Cond.lays "LzmaChainsModel" "LzmaChainsModel" "need" "I") := ⟨hk_t108 (List.mem_of_getElem? (i := 55) rfl), rfl⟩
theorem tw_1351 : hk_gd (Cond.lays "LzmaChainsModel" "LzmaChainsModel" "isMarked" "Z") := ⟨hk_t108 (List.mem_of_getElem? (i := 53) rfl), rfl⟩
theorem tw_1352 : hk_gd (Cond.lays "LzmaChainsModel" "LzmaChainsModel" "target" "I") := ⟨hk_t108 (List.mem_of_getElem? (i := 51) rfl), rfl⟩
theorem tw_1353 : hk_gd (Cond.lays "LzmaChainsModel" "LzmaChainsModel" "outBase" "I") := ⟨hk_t108 (List.mem_of_getElem? (i := 49) rfl), rfl⟩
theorem tw_1354 : hk_gd (Cond.lays "LzmaChainsModel" "LzmaChainsModel" "dictionaryFrom" "I") := ⟨hk_t108 (List.mem_of_getElem? (i := 47) rfl), rfl⟩
theorem tw_1355 : hk_gd (Cond.lays "LzmaChainsModel" "LzmaChainsModel" "dictionarySize" "J") := ⟨hk_t108 (List.mem_of_getElem? (i := 45) rfl), rfl⟩
theorem tw_1356 : hk_gd (Cond.lays "LzmaChainsModel" "LzmaChainsModel" "code" "J") := ⟨hk_t108 (List.mem_of_getElem? (i := 43) rfl), rfl⟩
theorem tw_1357 : hk_gd (Cond.lays "LzmaChainsModel" "LzmaChainsModel" "broken" "I") := ⟨hk_t108 (List.mem_of_getElem? (i := 41) rfl), rfl⟩
theorem tw_1358 : hk_gd (Cond.lays "LzmaChainsModel" "LzmaChainsModel" "limit" "I") := ⟨hk_t108 (List.mem_of_getElem? (i := 39) rfl), rfl⟩
theorem tw_1359 : hk_gd (Cond.lays "LzmaChainsModel" "LzmaChainsModel" "at" "I") := ⟨hk_t108 (List.mem_of_getElem? (i := 37) rfl), rfl⟩
theorem tw_1360 : hk_gd (Cond.lays "LzmaChainsModel" "LzmaChainsModel" "chunkCount" "I") := ⟨hk_t108 (List.mem_of_getElem? (i := 35) rfl), rfl⟩
theorem tw_1361 : hk_gd (Cond.lays "LzmaChainsModel" "LzmaChainsModel" "kept3" "I") := ⟨hk_t108 (List.mem_of_getElem? (i := 33) rfl), rfl⟩
theorem tw_1362 : hk_gd (Cond.lays "LzmaChainsModel" "LzmaChainsModel" "kept2" "I") := ⟨hk_t108 (List.mem_of_getElem? (i := 31) rfl), rfl⟩
theorem tw_1363 : hk_gd (Cond.lays "LzmaChainsModel" "LzmaChainsModel" "kept1" "I") := ⟨hk_t108 (List.mem_of_getElem? (i := 29) rfl), rfl⟩
theorem tw_1364 : hk_gd (Cond.lays "LzmaChainsModel" "LzmaChainsModel" "kept0" "I") := ⟨hk_t108 (List.mem_of_getElem? (i := 27) rfl), rfl⟩
theorem tw_1365 : hk_gd (Cond.lays "LzmaChainsModel" "LzmaChainsModel" "keptSt" "I") := ⟨hk_t108 (List.mem_of_getElem? (i := 25) rfl), rfl⟩
theorem tw_1366 : hk_gd (Cond.lays "LzmaChainsModel" "LzmaChainsModel" "rowSize" "I") := ⟨hk_t108 (List.mem_of_getElem? (i := 23) rfl), rfl⟩
theorem tw_1367 : hk_gd (Cond.laysFinal "LzmaChainsModel" "LzmaChainsModel" "row" "[I") := ⟨hk_t108 (List.mem_of_getElem? (i := 21) rfl), rfl⟩
theorem tw_1368 : hk_gd (Cond.lays "LzmaChainsModel" "LzmaChainsModel" "level" "I") := ⟨hk_t108 (List.mem_of_getElem? (i := 19) rfl), rfl⟩
theorem tw_1369 : hk_gd (Cond.laysFinal "LzmaChainsModel" "LzmaChainsModel" "farTo" "[I") := ⟨hk_t108 (List.mem_of_getElem? (i := 17) rfl), rfl⟩
theorem tw_1370 : hk_gd (Cond.laysFinal "LzmaChainsModel" "LzmaChainsModel" "stepTo" "[I") := ⟨hk_t108 (List.mem_of_getElem? (i := 15) rfl), rfl⟩
theorem tw_1371 : hk_gd (Cond.laysFinal "LzmaChainsModel" "LzmaChainsModel" "cost" "[I") := ⟨hk_t108 (List.mem_of_getElem? (i := 13) rfl), rfl⟩
theorem tw_1372 : hk_gd (Cond.lays "LzmaChainsModel" "LzmaChainsModel" "choiceFar" "I") := ⟨hk_t108 (List.mem_of_getElem? (i := 11) rfl), rfl⟩
theorem tw_1373 : hk_gd (Cond.lays "LzmaChainsModel" "LzmaChainsModel" "choiceLength" "I") := ⟨hk_t108 (List.mem_of_getElem? (i := 9) rfl), rfl⟩
theorem tw_1374 : hk_gd (Cond.lays "LzmaChainsModel" "LzmaChainsModel" "choice" "I") := ⟨hk_t108 (List.mem_of_getElem? (i := 7) rfl), rfl⟩
theorem tw_1375 : hk_gd (Cond.lays "LzmaChainsModel" "LzmaChainsModel" "longestFar" "I") := ⟨hk_t108 (List.mem_of_getElem? (i := 5) rfl), rfl⟩
theorem tw_1376 : hk_gd (Cond.lays "LzmaChainsModel" "LzmaChainsModel" "longest" "I") := ⟨hk_t108 (List.mem_of_getElem? (i := 3) rfl), rfl⟩
theorem tw_1377 : hk_gd (Cond.lays "LzmaChainsModel" "LzmaChainsModel" "partEnd" "I") := ⟨hk_t108 (List.mem_of_getElem? (i := 1) rfl), rfl⟩
theorem tw_1378 : hk_gd (Cond.lays "LzmaChainsModel" "LzmaChainsModel" "waits" "I") := ⟨hk_t107 (List.mem_of_getElem? (i := 239) rfl), rfl⟩
theorem tw_1379 : hk_gd (Cond.lays "LzmaChainsModel" "LzmaChainsModel" "held" "I") := ⟨hk_t107 (List.mem_of_getElem? (i := 237) rfl), rfl⟩
theorem tw_1380 : hk_gd (Cond.lays "LzmaChainsModel" "LzmaChainsModel" "range" "J") := ⟨hk_t107 (List.mem_of_getElem? (i := 235) rfl), rfl⟩
theorem tw_1381 : hk_gd (Cond.lays "LzmaChainsModel" "LzmaChainsModel" "low" "J") := ⟨hk_t107 (List.mem_of_getElem? (i := 233) rfl), rfl⟩
theorem tw_1382 : hk_gd (Cond.lays "LzmaChainsModel" "LzmaChainsModel" "pkSize" "I") := ⟨hk_t107 (List.mem_of_getElem? (i := 231) rfl), rfl⟩
theorem tw_1383 : hk_gd (Cond.laysFinal "LzmaChainsModel" "LzmaChainsModel" "pk" "[I") := ⟨hk_t107 (List.mem_of_getElem? (i := 229) rfl), rfl⟩
theorem tw_1384 : hk_gd (Cond.lays "LzmaChainsModel" "LzmaChainsModel" "nowPb" "I") := ⟨hk_t107 (List.mem_of_getElem? (i := 227) rfl), rfl⟩
theorem tw_1385 : hk_gd (Cond.lays "LzmaChainsModel" "LzmaChainsModel" "nowLp" "I") := ⟨hk_t107 (List.mem_of_getElem? (i := 225) rfl), rfl⟩
theorem tw_1386 : hk_gd (Cond.lays "LzmaChainsModel" "LzmaChainsModel" "nowLc" "I") := ⟨hk_t107 (List.mem_of_getElem? (i := 223) rfl), rfl⟩
theorem tw_1387 : hk_gd (Cond.lays "LzmaChainsModel" "LzmaChainsModel" "pos" "I") := ⟨hk_t107 (List.mem_of_getElem? (i := 221) rfl), rfl⟩
theorem tw_1388 : hk_gd (Cond.lays "LzmaChainsModel" "LzmaChainsModel" "back3" "I") := ⟨hk_t107 (List.mem_of_getElem? (i := 219) rfl), rfl⟩
theorem tw_1389 : hk_gd (Cond.lays "LzmaChainsModel" "LzmaChainsModel" "back2" "I") := ⟨hk_t107 (List.mem_of_getElem? (i := 217) rfl), rfl⟩
theorem tw_1390 : hk_gd (Cond.lays "LzmaChainsModel" "LzmaChainsModel" "back1" "I") := ⟨hk_t107 (List.mem_of_getElem? (i := 215) rfl), rfl⟩
theorem tw_1391 : hk_gd (Cond.lays "LzmaChainsModel" "LzmaChainsModel" "back0" "I") := ⟨hk_t107 (List.mem_of_getElem? (i := 213) rfl), rfl⟩
theorem tw_1392 : hk_gd (Cond.lays "LzmaChainsModel" "LzmaChainsModel" "st" "I") := ⟨hk_t107 (List.mem_of_getElem? (i := 211) rfl), rfl⟩
theorem tw_1393 : hk_gd (Cond.laysFinal "LzmaChainsModel" "LzmaChainsModel" "keptChance" "[I") := ⟨hk_t107 (List.mem_of_getElem? (i := 209) rfl), rfl⟩
theorem tw_1394 : hk_gd (Cond.laysFinal "LzmaChainsModel" "LzmaChainsModel" "chance" "[I") := ⟨hk_t107 (List.mem_of_getElem? (i := 207) rfl), rfl⟩
theorem tw_1395 : hk_gd (Cond.lays "LzmaChainsModel" "LzmaChainsModel" "rule" "I") := ⟨hk_t107 (List.mem_of_getElem? (i := 205) rfl), rfl⟩
theorem tw_1396 : hk_gd (Cond.lays "LzmaChainsModel" "LzmaChainsModel" "told" "I") := ⟨hk_t107 (List.mem_of_getElem? (i := 203) rfl), rfl⟩
theorem tw_1397 : hk_gd (Cond.laysFinal "LzmaChainsModel" "LzmaChainsModel" "blockChunks" "[I") := ⟨hk_t107 (List.mem_of_getElem? (i := 201) rfl), rfl⟩
theorem tw_1398 : hk_gd (Cond.laysFinal "LzmaChainsModel" "LzmaChainsModel" "blockSize" "[I") := ⟨hk_t107 (List.mem_of_getElem? (i := 199) rfl), rfl⟩
theorem tw_1399 : hk_gd (Cond.laysFinal "LzmaChainsModel" "LzmaChainsModel" "blockPacked" "[I") := ⟨hk_t107 (List.mem_of_getElem? (i := 197) rfl), rfl⟩
theorem tw_1400 : hk_gd (Cond.laysFinal "LzmaChainsModel" "LzmaChainsModel" "blockHead" "[I") := ⟨hk_t107 (List.mem_of_getElem? (i := 195) rfl), rfl⟩
theorem tw_1401 : hk_gd (Cond.laysFinal "LzmaChainsModel" "LzmaChainsModel" "blockAt" "[I") := ⟨hk_t107 (List.mem_of_getElem? (i := 193) rfl), rfl⟩
theorem tw_1402 : hk_gd (Cond.lays "LzmaChainsModel" "LzmaChainsModel" "blocks" "I") := ⟨hk_t107 (List.mem_of_getElem? (i := 191) rfl), rfl⟩
theorem tw_1403 : hk_gd (Cond.lays "LzmaChainsModel" "LzmaChainsModel" "stepBase" "I") := ⟨hk_t107 (List.mem_of_getElem? (i := 189) rfl), rfl⟩
theorem tw_1404 : hk_gd (Cond.laysFinal "LzmaChainsModel" "LzmaChainsModel" "stepFar" "[I") := ⟨hk_t107 (List.mem_of_getElem? (i := 187) rfl), rfl⟩
theorem tw_1405 : hk_gd (Cond.laysFinal "LzmaChainsModel" "LzmaChainsModel" "stepLength" "[I") := ⟨hk_t107 (List.mem_of_getElem? (i := 185) rfl), rfl⟩
theorem tw_1406 : hk_gd (Cond.laysFinal "LzmaChainsModel" "LzmaChainsModel" "stepAt" "[I") := ⟨hk_t107 (List.mem_of_getElem? (i := 183) rfl), rfl⟩
theorem tw_1407 : hk_gd (Cond.laysFinal "LzmaChainsModel" "LzmaChainsModel" "stepKind" "[I") := ⟨hk_t107 (List.mem_of_getElem? (i := 181) rfl), rfl⟩
theorem tw_1408 : hk_gd (Cond.lays "LzmaChainsModel" "LzmaChainsModel" "steps" "I") := ⟨hk_t107 (List.mem_of_getElem? (i := 179) rfl), rfl⟩
theorem tw_1409 : hk_gd (Cond.lays "LzmaChainsModel" "LzmaChainsModel" "srcSize" "I") := ⟨hk_t107 (List.mem_of_getElem? (i := 177) rfl), rfl⟩
theorem tw_1410 : hk_gd (Cond.laysFinal "LzmaChainsModel" "LzmaChainsModel" "src" "[I") := ⟨hk_t107 (List.mem_of_getElem? (i := 175) rfl), rfl⟩
theorem tw_1411 : hk_gd (Cond.lays "LzmaChainsModel" "LzmaChainsModel" "checkNow" "I") := ⟨hk_t107 (List.mem_of_getElem? (i := 173) rfl), rfl⟩
theorem tw_1412 : hk_gd (Cond.laysFinal "LzmaChainsModel" "LzmaChainsModel" "checkByte" "[I") := ⟨hk_t107 (List.mem_of_getElem? (i := 171) rfl), rfl⟩
theorem tw_1413 : hk_gd (Cond.lays "LzmaChainsModel" "LzmaChainsModel" "shaAll" "J") := ⟨hk_t107 (List.mem_of_getElem? (i := 169) rfl), rfl⟩
theorem tw_1414 : hk_gd (Cond.lays "LzmaChainsModel" "LzmaChainsModel" "shaFilled" "I") := ⟨hk_t107 (List.mem_of_getElem? (i := 167) rfl), rfl⟩
theorem tw_1415 : hk_gd (Cond.laysFinal "LzmaChainsModel" "LzmaChainsModel" "shaRow" "[I") := ⟨hk_t107 (List.mem_of_getElem? (i := 165) rfl), rfl⟩
theorem tw_1416 : hk_gd (Cond.laysFinal "LzmaChainsModel" "LzmaChainsModel" "sha" "[I") := ⟨hk_t107 (List.mem_of_getElem? (i := 163) rfl), rfl⟩
theorem tw_1417 : hk_gd (Cond.lays "LzmaChainsModel" "LzmaChainsModel" "sum64" "J") := ⟨hk_t107 (List.mem_of_getElem? (i := 161) rfl), rfl⟩
theorem tw_1418 : hk_gd (Cond.lays "LzmaChainsModel" "LzmaChainsModel" "sum32" "I") := ⟨hk_t107 (List.mem_of_getElem? (i := 159) rfl), rfl⟩
theorem tw_1419 : hk_gd (Cond.laysFinal "LzmaChainsModel" "LzmaChainsModel" "table32" "[I") := ⟨hk_t107 (List.mem_of_getElem? (i := 157) rfl), rfl⟩
theorem tw_1420 : hk_gd (Cond.lays "LzmaChainsModel" "LzmaChainsModel" "outSize" "I") := ⟨hk_t107 (List.mem_of_getElem? (i := 155) rfl), rfl⟩
theorem tw_1421 : hk_gd (Cond.laysFinal "LzmaChainsModel" "LzmaChainsModel" "out" "[I") := ⟨hk_t107 (List.mem_of_getElem? (i := 153) rfl), rfl⟩
theorem tw_1422 : hk_gd (Cond.lays "LzmaChainsModel" "LzmaChainsModel" "inSize" "I") := ⟨hk_t107 (List.mem_of_getElem? (i := 151) rfl), rfl⟩
theorem tw_1423 : hk_gd (Cond.laysFinal "LzmaChainsModel" "LzmaChainsModel" "in" "[I") := ⟨hk_t107 (List.mem_of_getElem? (i := 149) rfl), rfl⟩
theorem tw_1424 : hk_gd (Cond.lays "LzmaChainsModel" "LzmaChainsModel" "branch" "I") := ⟨hk_t107 (List.mem_of_getElem? (i := 147) rfl), rfl⟩
theorem tw_1425 : hk_gd (Cond.lays "LzmaChainsModel" "LzmaChainsModel" "delta" "I") := ⟨hk_t107 (List.mem_of_getElem? (i := 145) rfl), rfl⟩
theorem tw_1426 : hk_gd (Cond.lays "LzmaChainsModel" "LzmaChainsModel" "mark" "I") := ⟨hk_t107 (List.mem_of_getElem? (i := 143) rfl), rfl⟩
theorem tw_1427 : hk_gd (Cond.lays "LzmaChainsModel" "LzmaChainsModel" "checkKind" "I") := ⟨hk_t107 (List.mem_of_getElem? (i := 141) rfl), rfl⟩
theorem tw_1428 : hk_gd (Cond.lays "LzmaChainsModel" "LzmaChainsModel" "blockBytes" "I") := ⟨hk_t107 (List.mem_of_getElem? (i := 139) rfl), rfl⟩
theorem tw_1429 : hk_gd (Cond.lays "LzmaChainsModel" "LzmaChainsModel" "chunk" "I") := ⟨hk_t107 (List.mem_of_getElem? (i := 137) rfl), rfl⟩
theorem tw_1430 : hk_gd (Cond.lays "LzmaChainsModel" "LzmaChainsModel" "dictionary" "I") := ⟨hk_t107 (List.mem_of_getElem? (i := 135) rfl), rfl⟩
theorem tw_1431 : hk_gd (Cond.lays "LzmaChainsModel" "LzmaChainsModel" "pb" "I") := ⟨hk_t107 (List.mem_of_getElem? (i := 133) rfl), rfl⟩
theorem tw_1432 : hk_gd (Cond.lays "LzmaChainsModel" "LzmaChainsModel" "lp" "I") := ⟨hk_t107 (List.mem_of_getElem? (i := 131) rfl), rfl⟩
theorem tw_1433 : hk_gd (Cond.lays "LzmaChainsModel" "LzmaChainsModel" "lc" "I") := ⟨hk_t107 (List.mem_of_getElem? (i := 129) rfl), rfl⟩
theorem tw_1434 : hk_gd (Cond.lays "LzmaChainsModel" "LzmaChainsModel" "thrown" "I") := ⟨hk_t107 (List.mem_of_getElem? (i := 127) rfl), rfl⟩
theorem tw_1435 : hk_gd (Cond.laysFinal "LzmaChainsModel" "LzmaChainsModel" "form" "I") := ⟨hk_t107 (List.mem_of_getElem? (i := 125) rfl), rfl⟩
theorem tw_1436 : hk_gd (Cond.selects RX11 yX11_property yX11_property) := ⟨hk_t103 (List.mem_of_getElem? (i := 4) rfl), rfl⟩
theorem tw_1437 : hk_gd (Cond.instanceMethod yX11_property) := ⟨hk_t103 (List.mem_of_getElem? (i := 3) rfl), rfl⟩
theorem tw_1438 : hk_gd (Cond.methodLink RL 27 yX11_property) := ⟨hk_t103 (List.mem_of_getElem? (i := 2) rfl), rfl⟩
theorem tw_1439 : hk_gd (Cond.code yX11_property cX11_property 4 (some .int)) := ⟨hk_t103 (List.mem_of_getElem? (i := 5) rfl), rfl⟩
theorem tw_1440 : hk_gd (Cond.selects RX12 yX12_property yX12_property) := ⟨hk_t108 (List.mem_of_getElem? (i := 72) rfl), rfl⟩
theorem tw_1441 : hk_gd (Cond.instanceMethod yX12_property) := ⟨hk_t108 (List.mem_of_getElem? (i := 71) rfl), rfl⟩
theorem tw_1442 : hk_gd (Cond.methodLink RL 31 yX12_property) := ⟨hk_t108 (List.mem_of_getElem? (i := 70) rfl), rfl⟩
theorem tw_1443 : hk_gd (Cond.code yX12_property cX12_property 4 (some .int)) := ⟨hk_t108 (List.mem_of_getElem? (i := 73) rfl), rfl⟩
theorem tw_1444 : hk_gd (Cond.selects RX11 yX11_filter yX11_filter) := ⟨hk_t103 (List.mem_of_getElem? (i := 19) rfl), rfl⟩
theorem tw_1445 : hk_gd (Cond.instanceMethod yX11_filter) := ⟨hk_t103 (List.mem_of_getElem? (i := 18) rfl), rfl⟩
theorem tw_1446 : hk_gd (Cond.methodLink RL 32 yX11_filter) := ⟨hk_t103 (List.mem_of_getElem? (i := 17) rfl), rfl⟩
theorem tw_1447 : hk_gd (Cond.code yX11_filter cX11_filter 3 (some .int)) := ⟨hk_t103 (List.mem_of_getElem? (i := 20) rfl), rfl⟩
theorem tw_1448 : hk_gd (Cond.selects RX12 yX12_filter yX12_filter) := ⟨hk_t108 (List.mem_of_getElem? (i := 76) rfl), rfl⟩
theorem tw_1449 : hk_gd (Cond.instanceMethod yX12_filter) := ⟨hk_t108 (List.mem_of_getElem? (i := 75) rfl), rfl⟩
theorem tw_1450 : hk_gd (Cond.methodLink RL 35 yX12_filter) := ⟨hk_t108 (List.mem_of_getElem? (i := 74) rfl), rfl⟩
theorem tw_1451 : hk_gd (Cond.code yX12_filter cX12_filter 3 (some .int)) := ⟨hk_t108 (List.mem_of_getElem? (i := 77) rfl), rfl⟩
theorem tw_1452 : hk_gd (Cond.selects RX11 yX11_feed yX11_feed) := ⟨hk_t103 (List.mem_of_getElem? (i := 27) rfl), rfl⟩
theorem tw_1453 : hk_gd (Cond.instanceMethod yX11_feed) := ⟨hk_t103 (List.mem_of_getElem? (i := 26) rfl), rfl⟩
theorem tw_1454 : hk_gd (Cond.methodLink RL 36 yX11_feed) := ⟨hk_t103 (List.mem_of_getElem? (i := 25) rfl), rfl⟩
theorem tw_1455 : hk_gd (Cond.code yX11_feed cX11_feed 6 (some .int)) := ⟨hk_t103 (List.mem_of_getElem? (i := 28) rfl), rfl⟩
theorem tw_1456 : hk_gd (Cond.selects RX12 yX12_feed yX12_feed) := ⟨hk_t108 (List.mem_of_getElem? (i := 80) rfl), rfl⟩
theorem tw_1457 : hk_gd (Cond.instanceMethod yX12_feed) := ⟨hk_t108 (List.mem_of_getElem? (i := 79) rfl), rfl⟩
theorem tw_1458 : hk_gd (Cond.methodLink RL 40 yX12_feed) := ⟨hk_t108 (List.mem_of_getElem? (i := 78) rfl), rfl⟩
theorem tw_1459 : hk_gd (Cond.code yX12_feed cX12_feed 8 (some .int)) := ⟨hk_t108 (List.mem_of_getElem? (i := 81) rfl), rfl⟩
theorem tw_1460 : hk_gd (Cond.selects RX11 yX11_end yX11_end) := ⟨hk_t103 (List.mem_of_getElem? (i := 43) rfl), rfl⟩
theorem tw_1461 : hk_gd (Cond.instanceMethod yX11_end) := ⟨hk_t103 (List.mem_of_getElem? (i := 42) rfl), rfl⟩
theorem tw_1462 : hk_gd (Cond.methodLink RL 41 yX11_end) := ⟨hk_t103 (List.mem_of_getElem? (i := 41) rfl), rfl⟩
theorem tw_1463 : hk_gd (Cond.code yX11_end cX11_end 2 (some .int)) := ⟨hk_t103 (List.mem_of_getElem? (i := 44) rfl), rfl⟩
theorem tw_1464 : hk_gd (Cond.selects RX12 yX12_end yX12_end) := ⟨hk_t108 (List.mem_of_getElem? (i := 84) rfl), rfl⟩
theorem tw_1465 : hk_gd (Cond.instanceMethod yX12_end) := ⟨hk_t108 (List.mem_of_getElem? (i := 83) rfl), rfl⟩
theorem tw_1466 : hk_gd (Cond.methodLink RL 44 yX12_end) := ⟨hk_t108 (List.mem_of_getElem? (i := 82) rfl), rfl⟩
theorem tw_1467 : hk_gd (Cond.code yX12_end cX12_end 2 (some .int)) := ⟨hk_t108 (List.mem_of_getElem? (i := 85) rfl), rfl⟩
theorem tw_1468 : hk_gd (Cond.selects RX11 yX11_octet yX11_octet) := ⟨hk_t103 (List.mem_of_getElem? (i := 47) rfl), rfl⟩
theorem tw_1469 : hk_gd (Cond.instanceMethod yX11_octet) := ⟨hk_t103 (List.mem_of_getElem? (i := 46) rfl), rfl⟩
theorem tw_1470 : hk_gd (Cond.methodLink RL 45 yX11_octet) := ⟨hk_t103 (List.mem_of_getElem? (i := 45) rfl), rfl⟩
theorem tw_1471 : hk_gd (Cond.code yX11_octet cX11_octet 2 (some .int)) := ⟨hk_t103 (List.mem_of_getElem? (i := 48) rfl), rfl⟩
theorem tw_1472 : hk_gd (Cond.selects RX12 yX12_octet yX12_octet) := ⟨hk_t108 (List.mem_of_getElem? (i := 88) rfl), rfl⟩
theorem tw_1473 : hk_gd (Cond.instanceMethod yX12_octet) := ⟨hk_t108 (List.mem_of_getElem? (i := 87) rfl), rfl⟩
theorem tw_1474 : hk_gd (Cond.methodLink RL 48 yX12_octet) := ⟨hk_t108 (List.mem_of_getElem? (i := 86) rfl), rfl⟩
theorem tw_1475 : hk_gd (Cond.code yX12_octet cX12_octet 2 (some .int)) := ⟨hk_t108 (List.mem_of_getElem? (i := 89) rfl), rfl⟩
theorem tw_1476 : hk_gd (Cond.selects RX11 yX11_pack yX11_pack) := ⟨hk_t103 (List.mem_of_getElem? (i := 52) rfl), rfl⟩
theorem tw_1477 : hk_gd (Cond.instanceMethod yX11_pack) := ⟨hk_t103 (List.mem_of_getElem? (i := 51) rfl), rfl⟩
theorem tw_1478 : hk_gd (Cond.methodLink RL 49 yX11_pack) := ⟨hk_t103 (List.mem_of_getElem? (i := 50) rfl), rfl⟩
theorem tw_1479 : hk_gd (Cond.code yX11_pack cX11_pack 5 (some .int)) := ⟨hk_t103 (List.mem_of_getElem? (i := 53) rfl), rfl⟩
theorem tw_1480 : hk_gd (Cond.selects RX12 yX12_pack yX12_pack) := ⟨hk_t108 (List.mem_of_getElem? (i := 204) rfl), rfl⟩
theorem tw_1481 : hk_gd (Cond.instanceMethod yX12_pack) := ⟨hk_t108 (List.mem_of_getElem? (i := 203) rfl), rfl⟩
theorem tw_1482 : hk_gd (Cond.methodLink RL 52 yX12_pack) := ⟨hk_t108 (List.mem_of_getElem? (i := 202) rfl), rfl⟩
theorem tw_1483 : hk_gd (Cond.code yX12_pack cX12_pack 3 (some .int)) := ⟨hk_t108 (List.mem_of_getElem? (i := 205) rfl), rfl⟩
theorem tw_1484 : hk_gd (Cond.selects RX11 yX11_open yX11_open) := ⟨hk_t106 (List.mem_of_getElem? (i := 0) rfl), rfl⟩
theorem tw_1485 : hk_gd (Cond.instanceMethod yX11_open) := ⟨hk_t105 (List.mem_of_getElem? (i := 239) rfl), rfl⟩
theorem tw_1486 : hk_gd (Cond.methodLink RL 53 yX11_open) := ⟨hk_t105 (List.mem_of_getElem? (i := 238) rfl), rfl⟩
theorem tw_1487 : hk_gd (Cond.codeWith yX11_open cX11_open 4 (some .int) [(10, 148, 151, 199)]) := ⟨hk_t106 (List.mem_of_getElem? (i := 1) rfl), rfl⟩
theorem tw_1488 : hk_gd (Cond.selects RX12 yX12_open yX12_open) := ⟨hk_t109 (List.mem_of_getElem? (i := 150) rfl), rfl⟩
theorem tw_1489 : hk_gd (Cond.instanceMethod yX12_open) := ⟨hk_t109 (List.mem_of_getElem? (i := 149) rfl), rfl⟩
theorem tw_1490 : hk_gd (Cond.methodLink RL 56 yX12_open) := ⟨hk_t109 (List.mem_of_getElem? (i := 148) rfl), rfl⟩
theorem tw_1491 : hk_gd (Cond.code yX12_open cX12_open 3 (some .int)) := ⟨hk_t109 (List.mem_of_getElem? (i := 151) rfl), rfl⟩
theorem tw_1492 : hk_gd (Cond.selects RX11 yX11_rule yX11_rule) := ⟨hk_t106 (List.mem_of_getElem? (i := 206) rfl), rfl⟩
theorem tw_1493 : hk_gd (Cond.instanceMethod yX11_rule) := ⟨hk_t106 (List.mem_of_getElem? (i := 205) rfl), rfl⟩
theorem tw_1494 : hk_gd (Cond.methodLink RL 57 yX11_rule) := ⟨hk_t106 (List.mem_of_getElem? (i := 204) rfl), rfl⟩
theorem tw_1495 : hk_gd (Cond.code yX11_rule cX11_rule 1 (some .int)) := ⟨hk_t106 (List.mem_of_getElem? (i := 207) rfl), rfl⟩
theorem tw_1496 : hk_gd (Cond.selects RX12 yX12_rule yX12_rule) := ⟨hk_t108 (List.mem_of_getElem? (i := 196) rfl), rfl⟩
theorem tw_1497 : hk_gd (Cond.instanceMethod yX12_rule) := ⟨hk_t108 (List.mem_of_getElem? (i := 195) rfl), rfl⟩
theorem tw_1498 : hk_gd (Cond.methodLink RL 61 yX12_rule) := ⟨hk_t108 (List.mem_of_getElem? (i := 194) rfl), rfl⟩
theorem tw_1499 : hk_gd (Cond.code yX12_rule cX12_rule 1 (some .int)) := ⟨hk_t108 (List.mem_of_getElem? (i := 197) rfl), rfl⟩
theorem tw_1500 : hk_gd (Cond.selects RX11 yX11_pass yX11_pass) := ⟨hk_t106 (List.mem_of_getElem? (i := 210) rfl), rfl⟩
theorem tw_1501 : hk_gd (Cond.instanceMethod yX11_pass) := ⟨hk_t106 (List.mem_of_getElem? (i := 209) rfl), rfl⟩
theorem tw_1502 : hk_gd (Cond.methodLink RL 62 yX11_pass) := ⟨hk_t106 (List.mem_of_getElem? (i := 208) rfl), rfl⟩
theorem tw_1503 : hk_gd (Cond.code yX11_pass cX11_pass 2 (some .int)) := ⟨hk_t106 (List.mem_of_getElem? (i := 211) rfl), rfl⟩
theorem tw_1504 : hk_gd (Cond.selects RX12 yX12_pass yX12_pass) := ⟨hk_t108 (List.mem_of_getElem? (i := 92) rfl), rfl⟩
theorem tw_1505 : hk_gd (Cond.instanceMethod yX12_pass) := ⟨hk_t108 (List.mem_of_getElem? (i := 91) rfl), rfl⟩
theorem tw_1506 : hk_gd (Cond.methodLink RL 65 yX12_pass) := ⟨hk_t108 (List.mem_of_getElem? (i := 90) rfl), rfl⟩
theorem tw_1507 : hk_gd (Cond.code yX12_pass cX12_pass 2 (some .int)) := ⟨hk_t108 (List.mem_of_getElem? (i := 93) rfl), rfl⟩
theorem tw_1508 : hk_gd (Cond.selects RX12 yX12_out yX12_out) := ⟨hk_t108 (List.mem_of_getElem? (i := 96) rfl), rfl⟩
theorem tw_1509 : hk_gd (Cond.instanceMethod yX12_out) := ⟨hk_t108 (List.mem_of_getElem? (i := 95) rfl), rfl⟩
theorem tw_1510 : hk_gd (Cond.methodLink RL 69 yX12_out) := ⟨hk_t108 (List.mem_of_getElem? (i := 94) rfl), rfl⟩
theorem tw_1511 : hk_gd (Cond.code yX12_out cX12_out 2 (some .int)) := ⟨hk_t108 (List.mem_of_getElem? (i := 97) rfl), rfl⟩
theorem tw_1512 : hk_gd (Cond.selects RX11 yX11_step yX11_step) := ⟨hk_t106 (List.mem_of_getElem? (i := 215) rfl), rfl⟩
theorem tw_1513 : hk_gd (Cond.instanceMethod yX11_step) := ⟨hk_t106 (List.mem_of_getElem? (i := 214) rfl), rfl⟩
theorem tw_1514 : hk_gd (Cond.methodLink RL 70 yX11_step) := ⟨hk_t106 (List.mem_of_getElem? (i := 213) rfl), rfl⟩
theorem tw_1515 : hk_gd (Cond.code yX11_step cX11_step 3 (some .int)) := ⟨hk_t106 (List.mem_of_getElem? (i := 216) rfl), rfl⟩
theorem tw_1516 : hk_gd (Cond.selects RX12 yX12_step yX12_step) := ⟨hk_t108 (List.mem_of_getElem? (i := 188) rfl), rfl⟩
theorem tw_1517 : hk_gd (Cond.instanceMethod yX12_step) := ⟨hk_t108 (List.mem_of_getElem? (i := 187) rfl), rfl⟩
theorem tw_1518 : hk_gd (Cond.methodLink RL 73 yX12_step) := ⟨hk_t108 (List.mem_of_getElem? (i := 186) rfl), rfl⟩
theorem tw_1519 : hk_gd (Cond.code yX12_step cX12_step 3 (some .int)) := ⟨hk_t108 (List.mem_of_getElem? (i := 189) rfl), rfl⟩
theorem tw_1520 : hk_gd (Cond.selects RX11 yX11_state yX11_state) := ⟨hk_t106 (List.mem_of_getElem? (i := 223) rfl), rfl⟩
theorem tw_1521 : hk_gd (Cond.instanceMethod yX11_state) := ⟨hk_t106 (List.mem_of_getElem? (i := 222) rfl), rfl⟩
theorem tw_1522 : hk_gd (Cond.methodLink RL 74 yX11_state) := ⟨hk_t106 (List.mem_of_getElem? (i := 221) rfl), rfl⟩
theorem tw_1523 : hk_gd (Cond.code yX11_state cX11_state 1 (some .int)) := ⟨hk_t106 (List.mem_of_getElem? (i := 224) rfl), rfl⟩
theorem tw_1524 : hk_gd (Cond.selects RX12 yX12_state yX12_state) := ⟨hk_t108 (List.mem_of_getElem? (i := 192) rfl), rfl⟩
theorem tw_1525 : hk_gd (Cond.instanceMethod yX12_state) := ⟨hk_t108 (List.mem_of_getElem? (i := 191) rfl), rfl⟩
theorem tw_1526 : hk_gd (Cond.methodLink RL 77 yX12_state) := ⟨hk_t108 (List.mem_of_getElem? (i := 190) rfl), rfl⟩
theorem tw_1527 : hk_gd (Cond.code yX12_state cX12_state 1 (some .int)) := ⟨hk_t108 (List.mem_of_getElem? (i := 193) rfl), rfl⟩
theorem tw_1528 : hk_gd (Cond.selects RX11 yX11_block yX11_block) := ⟨hk_t106 (List.mem_of_getElem? (i := 227) rfl), rfl⟩
theorem tw_1529 : hk_gd (Cond.instanceMethod yX11_block) := ⟨hk_t106 (List.mem_of_getElem? (i := 226) rfl), rfl⟩
theorem tw_1530 : hk_gd (Cond.methodLink RL 78 yX11_block) := ⟨hk_t106 (List.mem_of_getElem? (i := 225) rfl), rfl⟩
theorem tw_1531 : hk_gd (Cond.code yX11_block cX11_block 3 (some .int)) := ⟨hk_t106 (List.mem_of_getElem? (i := 228) rfl), rfl⟩
theorem tw_1532 : hk_gd (Cond.selects RX12 yX12_block yX12_block) := ⟨hk_t108 (List.mem_of_getElem? (i := 200) rfl), rfl⟩
theorem tw_1533 : hk_gd (Cond.instanceMethod yX12_block) := ⟨hk_t108 (List.mem_of_getElem? (i := 199) rfl), rfl⟩
theorem tw_1534 : hk_gd (Cond.methodLink RL 81 yX12_block) := ⟨hk_t108 (List.mem_of_getElem? (i := 198) rfl), rfl⟩
theorem tw_1535 : hk_gd (Cond.code yX12_block cX12_block 3 (some .int)) := ⟨hk_t108 (List.mem_of_getElem? (i := 201) rfl), rfl⟩
theorem tw_1536 : hk_gd (Cond.selects RX11 yX11_check yX11_check) := ⟨hk_t106 (List.mem_of_getElem? (i := 232) rfl), rfl⟩
theorem tw_1537 : hk_gd (Cond.instanceMethod yX11_check) := ⟨hk_t106 (List.mem_of_getElem? (i := 231) rfl), rfl⟩
theorem tw_1538 : hk_gd (Cond.methodLink RL 82 yX11_check) := ⟨hk_t106 (List.mem_of_getElem? (i := 230) rfl), rfl⟩
theorem tw_1539 : hk_gd (Cond.code yX11_check cX11_check 3 (some .int)) := ⟨hk_t106 (List.mem_of_getElem? (i := 233) rfl), rfl⟩
theorem tw_1540 : hk_gd (Cond.selects RX12 yX12_check yX12_check) := ⟨hk_t108 (List.mem_of_getElem? (i := 104) rfl), rfl⟩
theorem tw_1541 : hk_gd (Cond.instanceMethod yX12_check) := ⟨hk_t108 (List.mem_of_getElem? (i := 103) rfl), rfl⟩
theorem tw_1542 : hk_gd (Cond.methodLink RL 85 yX12_check) := ⟨hk_t108 (List.mem_of_getElem? (i := 102) rfl), rfl⟩
theorem tw_1543 : hk_gd (Cond.code yX12_check cX12_check 5 (some .int)) := ⟨hk_t108 (List.mem_of_getElem? (i := 105) rfl), rfl⟩
theorem tw_1544 : hk_gd (Cond.selects RX11 yX11_turn yX11_turn) := ⟨hk_t106 (List.mem_of_getElem? (i := 239) rfl), rfl⟩
theorem tw_1545 : hk_gd (Cond.instanceMethod yX11_turn) := ⟨hk_t106 (List.mem_of_getElem? (i := 238) rfl), rfl⟩
theorem tw_1546 : hk_gd (Cond.methodLink RL 86 yX11_turn) := ⟨hk_t106 (List.mem_of_getElem? (i := 237) rfl), rfl⟩
theorem tw_1547 : hk_gd (Cond.code yX11_turn cX11_turn 4 (some .int)) := ⟨hk_t107 (List.mem_of_getElem? (i := 0) rfl), rfl⟩
theorem tw_1548 : hk_gd (Cond.selects RX12 yX12_turn yX12_turn) := ⟨hk_t108 (List.mem_of_getElem? (i := 171) rfl), rfl⟩
theorem tw_1549 : hk_gd (Cond.instanceMethod yX12_turn) := ⟨hk_t108 (List.mem_of_getElem? (i := 170) rfl), rfl⟩
theorem tw_1550 : hk_gd (Cond.methodLink RL 90 yX12_turn) := ⟨hk_t108 (List.mem_of_getElem? (i := 169) rfl), rfl⟩
theorem tw_1551 : hk_gd (Cond.code yX12_turn cX12_turn 5 (some .int)) := ⟨hk_t108 (List.mem_of_getElem? (i := 172) rfl), rfl⟩
theorem tw_1552 : hk_gd (Cond.selects RX11 yX11_count yX11_count) := ⟨hk_t107 (List.mem_of_getElem? (i := 5) rfl), rfl⟩
theorem tw_1553 : hk_gd (Cond.instanceMethod yX11_count) := ⟨hk_t107 (List.mem_of_getElem? (i := 4) rfl), rfl⟩
theorem tw_1554 : hk_gd (Cond.methodLink RL 91 yX11_count) := ⟨hk_t107 (List.mem_of_getElem? (i := 3) rfl), rfl⟩
theorem tw_1555 : hk_gd (Cond.code yX11_count cX11_count 2 (some .int)) := ⟨hk_t107 (List.mem_of_getElem? (i := 6) rfl), rfl⟩
theorem tw_1556 : hk_gd (Cond.selects RX12 yX12_count yX12_count) := ⟨hk_t108 (List.mem_of_getElem? (i := 100) rfl), rfl⟩
theorem tw_1557 : hk_gd (Cond.instanceMethod yX12_count) := ⟨hk_t108 (List.mem_of_getElem? (i := 99) rfl), rfl⟩
theorem tw_1558 : hk_gd (Cond.methodLink RL 94 yX12_count) := ⟨hk_t108 (List.mem_of_getElem? (i := 98) rfl), rfl⟩
theorem tw_1559 : hk_gd (Cond.code yX12_count cX12_count 2 (some .int)) := ⟨hk_t108 (List.mem_of_getElem? (i := 101) rfl), rfl⟩
theorem tw_1560 : hk_gd (Cond.initialized RL) := ⟨hk_t101 (List.mem_of_getElem? (i := 0) rfl), rfl⟩
theorem tw_1561 : hk_gd (Cond.static yL_cell) := ⟨hk_t107 (List.mem_of_getElem? (i := 8) rfl), rfl⟩
theorem tw_1562 : hk_gd (Cond.methodLink RL 15 yL_cell) := ⟨hk_t107 (List.mem_of_getElem? (i := 7) rfl), rfl⟩
theorem tw_1563 : hk_gd (Cond.code yL_cell cL_cell 2 (some .int)) := ⟨hk_t107 (List.mem_of_getElem? (i := 9) rfl), rfl⟩
theorem tw_1564 : hk_gd (Cond.static yL_out) := ⟨hk_t107 (List.mem_of_getElem? (i := 11) rfl), rfl⟩
theorem tw_1565 : hk_gd (Cond.methodLink RL 66 yL_out) := ⟨hk_t107 (List.mem_of_getElem? (i := 10) rfl), rfl⟩
theorem tw_1566 : hk_gd (Cond.codeWith yL_out cL_out 4 (some .int) [(0, 9, 12, 13)]) := ⟨hk_t107 (List.mem_of_getElem? (i := 12) rfl), rfl⟩
theorem tw_1567 : hk_gd (Cond.code yX11_init cX11_init 3 none) := ⟨hk_t101 (List.mem_of_getElem? (i := 36) rfl), rfl⟩
theorem tw_1568 : hk_gd (Cond.instanceMethod yX6_init) := ⟨hk_t102 (List.mem_of_getElem? (i := 114) rfl), rfl⟩
theorem tw_1569 : hk_gd (Cond.methodLink RX11 76 yX6_init) := ⟨hk_t102 (List.mem_of_getElem? (i := 113) rfl), rfl⟩
theorem tw_1570 : hk_gd (Cond.methodLink RX6 42 yX9_init) := ⟨hk_t102 (List.mem_of_getElem? (i := 157) rfl), rfl⟩
theorem tw_1571 : hk_gd (Cond.classLink RX6 40 RX9) := ⟨hk_t102 (List.mem_of_getElem? (i := 156) rfl), rfl⟩
theorem tw_1572 : hk_gd (Cond.instanceMethod yX3_init) := ⟨hk_t102 (List.mem_of_getElem? (i := 120) rfl), rfl⟩
theorem tw_1573 : hk_gd (Cond.methodLink RX6 33 yX3_init) := ⟨hk_t102 (List.mem_of_getElem? (i := 119) rfl), rfl⟩
theorem tw_1574 : hk_gd (Cond.methodLink RX3 3 objectInit) := ⟨hk_t102 (List.mem_of_getElem? (i := 122) rfl), rfl⟩
theorem tw_1575 : hk_gd (Cond.code yX3_init cX3_init 2 none) := ⟨hk_t102 (List.mem_of_getElem? (i := 121) rfl), rfl⟩
theorem tw_1576 : hk_gd (Cond.instantiable RX3 9) := ⟨hk_t102 (List.mem_of_getElem? (i := 118) rfl), rfl⟩
theorem tw_1577 : hk_gd (Cond.classLink RX6 31 RX3) := ⟨hk_t102 (List.mem_of_getElem? (i := 117) rfl), rfl⟩
theorem tw_1578 : hk_gd (Cond.methodLink RX6 3 objectInit) := ⟨hk_t102 (List.mem_of_getElem? (i := 116) rfl), rfl⟩
theorem tw_1579 : hk_gd (Cond.code yX6_init cX6_init 6 none) := ⟨hk_t102 (List.mem_of_getElem? (i := 115) rfl), rfl⟩
theorem tw_1580 : hk_gd (Cond.instantiable RX6 16) := ⟨hk_t102 (List.mem_of_getElem? (i := 112) rfl), rfl⟩
theorem tw_1581 : hk_gd (Cond.classLink RX11 74 RX6) := ⟨hk_t102 (List.mem_of_getElem? (i := 111) rfl), rfl⟩
theorem tw_1582 : hk_gd (Cond.instanceMethod yX7_init) := ⟨hk_t102 (List.mem_of_getElem? (i := 7) rfl), rfl⟩
theorem tw_1583 : hk_gd (Cond.methodLink RX11 67 yX7_init) := ⟨hk_t102 (List.mem_of_getElem? (i := 6) rfl), rfl⟩
theorem tw_1584 : hk_gd (Cond.instanceMethod yX1_init) := ⟨hk_t102 (List.mem_of_getElem? (i := 13) rfl), rfl⟩
theorem tw_1585 : hk_gd (Cond.methodLink RX7 36 yX1_init) := ⟨hk_t102 (List.mem_of_getElem? (i := 12) rfl), rfl⟩
theorem tw_1586 : hk_gd (Cond.methodLink RX1 3 objectInit) := ⟨hk_t102 (List.mem_of_getElem? (i := 15) rfl), rfl⟩
theorem tw_1587 : hk_gd (Cond.code yX1_init cX1_init 3 none) := ⟨hk_t102 (List.mem_of_getElem? (i := 14) rfl), rfl⟩
theorem tw_1588 : hk_gd (Cond.instantiable RX1 13) := ⟨hk_t102 (List.mem_of_getElem? (i := 11) rfl), rfl⟩
theorem tw_1589 : hk_gd (Cond.classLink RX7 34 RX1) := ⟨hk_t102 (List.mem_of_getElem? (i := 10) rfl), rfl⟩
theorem tw_1590 : hk_gd (Cond.methodLink RX7 3 objectInit) := ⟨hk_t102 (List.mem_of_getElem? (i := 9) rfl), rfl⟩
theorem tw_1591 : hk_gd (Cond.code yX7_init cX7_init 7 none) := ⟨hk_t102 (List.mem_of_getElem? (i := 8) rfl), rfl⟩
theorem tw_1592 : hk_gd (Cond.instantiable RX7 17) := ⟨hk_t102 (List.mem_of_getElem? (i := 5) rfl), rfl⟩
theorem tw_1593 : hk_gd (Cond.classLink RX11 65 RX7) := ⟨hk_t102 (List.mem_of_getElem? (i := 4) rfl), rfl⟩
theorem tw_1594 : hk_gd (Cond.instanceMethod yX4_init) := ⟨hk_t101 (List.mem_of_getElem? (i := 225) rfl), rfl⟩
theorem tw_1595 : hk_gd (Cond.methodLink RX11 60 yX4_init) := ⟨hk_t101 (List.mem_of_getElem? (i := 224) rfl), rfl⟩
theorem tw_1596 : hk_gd (Cond.methodLink RX4 3 objectInit) := ⟨hk_t101 (List.mem_of_getElem? (i := 227) rfl), rfl⟩
theorem tw_1597 : hk_gd (Cond.code yX4_init cX4_init 1 none) := ⟨hk_t101 (List.mem_of_getElem? (i := 226) rfl), rfl⟩
theorem tw_1598 : hk_gd (Cond.instantiable RX4 4) := ⟨hk_t101 (List.mem_of_getElem? (i := 223) rfl), rfl⟩
theorem tw_1599 : hk_gd (Cond.classLink RX11 58 RX4) := ⟨hk_t101 (List.mem_of_getElem? (i := 222) rfl), rfl⟩
theorem tw_1600 : hk_gd (Cond.instanceMethod yX0_init) := ⟨hk_t101 (List.mem_of_getElem? (i := 208) rfl), rfl⟩
theorem tw_1601 : hk_gd (Cond.methodLink RX11 53 yX0_init) := ⟨hk_t101 (List.mem_of_getElem? (i := 207) rfl), rfl⟩
theorem tw_1602 : hk_gd (Cond.methodLink RX0 3 objectInit) := ⟨hk_t101 (List.mem_of_getElem? (i := 210) rfl), rfl⟩
theorem tw_1603 : hk_gd (Cond.code yX0_init cX0_init 1 none) := ⟨hk_t101 (List.mem_of_getElem? (i := 209) rfl), rfl⟩
theorem tw_1604 : hk_gd (Cond.instantiable RX0 3) := ⟨hk_t101 (List.mem_of_getElem? (i := 206) rfl), rfl⟩
theorem tw_1605 : hk_gd (Cond.classLink RX11 51 RX0) := ⟨hk_t101 (List.mem_of_getElem? (i := 205) rfl), rfl⟩
theorem tw_1606 : hk_gd (Cond.instanceMethod yX5_init) := ⟨hk_t101 (List.mem_of_getElem? (i := 177) rfl), rfl⟩
theorem tw_1607 : hk_gd (Cond.methodLink RX11 44 yX5_init) := ⟨hk_t101 (List.mem_of_getElem? (i := 176) rfl), rfl⟩
theorem tw_1608 : hk_gd (Cond.arrayClass .long) := ⟨hk_t101 (List.mem_of_getElem? (i := 204) rfl), rfl⟩
theorem tw_1609 : hk_gd (Cond.methodLink RX5 5 objectInit) := ⟨hk_t101 (List.mem_of_getElem? (i := 179) rfl), rfl⟩
theorem tw_1610 : hk_gd (Cond.code yX5_init cX5_init 2 none) := ⟨hk_t101 (List.mem_of_getElem? (i := 178) rfl), rfl⟩
theorem tw_1611 : hk_gd (Cond.instanceMethod yX2_init) := ⟨hk_t101 (List.mem_of_getElem? (i := 143) rfl), rfl⟩
theorem tw_1612 : hk_gd (Cond.methodLink RX11 41 yX2_init) := ⟨hk_t101 (List.mem_of_getElem? (i := 142) rfl), rfl⟩
theorem tw_1613 : hk_gd (Cond.methodLink RX2 1 objectInit) := ⟨hk_t101 (List.mem_of_getElem? (i := 145) rfl), rfl⟩
theorem tw_1614 : hk_gd (Cond.code yX2_init cX2_init 3 none) := ⟨hk_t101 (List.mem_of_getElem? (i := 144) rfl), rfl⟩
theorem tw_1615 : hk_gd (Cond.instantiable RX2 9) := ⟨hk_t101 (List.mem_of_getElem? (i := 141) rfl), rfl⟩
theorem tw_1616 : hk_gd (Cond.classLink RX11 39 RX2) := ⟨hk_t101 (List.mem_of_getElem? (i := 140) rfl), rfl⟩
theorem tw_1617 : hk_gd (Cond.instantiable RX5 6) := ⟨hk_t101 (List.mem_of_getElem? (i := 139) rfl), rfl⟩
theorem tw_1618 : hk_gd (Cond.classLink RX11 37 RX5) := ⟨hk_t101 (List.mem_of_getElem? (i := 138) rfl), rfl⟩
theorem tw_1619 : hk_gd (Cond.instanceMethod yX8_init) := ⟨hk_t101 (List.mem_of_getElem? (i := 115) rfl), rfl⟩
theorem tw_1620 : hk_gd (Cond.methodLink RX11 34 yX8_init) := ⟨hk_t101 (List.mem_of_getElem? (i := 114) rfl), rfl⟩
theorem tw_1621 : hk_gd (Cond.methodLink RX8 1 objectInit) := ⟨hk_t101 (List.mem_of_getElem? (i := 117) rfl), rfl⟩
theorem tw_1622 : hk_gd (Cond.code yX8_init cX8_init 2 none) := ⟨hk_t101 (List.mem_of_getElem? (i := 116) rfl), rfl⟩
theorem tw_1623 : hk_gd (Cond.instantiable RX8 4) := ⟨hk_t101 (List.mem_of_getElem? (i := 113) rfl), rfl⟩
theorem tw_1624 : hk_gd (Cond.classLink RX11 32 RX8) := ⟨hk_t101 (List.mem_of_getElem? (i := 112) rfl), rfl⟩
theorem tw_1625 : hk_gd (Cond.instanceMethod yX9_init) := ⟨hk_t101 (List.mem_of_getElem? (i := 91) rfl), rfl⟩
theorem tw_1626 : hk_gd (Cond.methodLink RX11 22 yX9_init) := ⟨hk_t101 (List.mem_of_getElem? (i := 90) rfl), rfl⟩
theorem tw_1627 : hk_gd (Cond.arrayClass .int) := ⟨hk_t101 (List.mem_of_getElem? (i := 111) rfl), rfl⟩
theorem tw_1628 : hk_gd (Cond.methodLink RX9 1 objectInit) := ⟨hk_t101 (List.mem_of_getElem? (i := 93) rfl), rfl⟩
theorem tw_1629 : hk_gd (Cond.code yX9_init cX9_init 2 none) := ⟨hk_t101 (List.mem_of_getElem? (i := 92) rfl), rfl⟩
theorem tw_1630 : hk_gd (Cond.instantiable RX9 2) := ⟨hk_t101 (List.mem_of_getElem? (i := 89) rfl), rfl⟩
theorem tw_1631 : hk_gd (Cond.classLink RX11 20 RX9) := ⟨hk_t101 (List.mem_of_getElem? (i := 88) rfl), rfl⟩
theorem tw_1632 : hk_gd (Cond.instanceMethod yX10_init) := ⟨hk_t101 (List.mem_of_getElem? (i := 43) rfl), rfl⟩
theorem tw_1633 : hk_gd (Cond.methodLink RX11 15 yX10_init) := ⟨hk_t101 (List.mem_of_getElem? (i := 42) rfl), rfl⟩
theorem tw_1634 : hk_gd (Cond.methodLink RX10 3 objectInit) := ⟨hk_t101 (List.mem_of_getElem? (i := 45) rfl), rfl⟩
theorem tw_1635 : hk_gd (Cond.code yX10_init cX10_init 1 none) := ⟨hk_t101 (List.mem_of_getElem? (i := 44) rfl), rfl⟩
theorem tw_1636 : hk_gd (Cond.instantiable RX10 10) := ⟨hk_t101 (List.mem_of_getElem? (i := 41) rfl), rfl⟩
theorem tw_1637 : hk_gd (Cond.classLink RX11 13 RX10) := ⟨hk_t101 (List.mem_of_getElem? (i := 40) rfl), rfl⟩
theorem tw_1638 : hk_gd (Cond.code objectInit ⟨#[0xb1]⟩ 1 none) := ⟨hk_t101 (List.mem_of_getElem? (i := 39) rfl), rfl⟩
theorem tw_1639 : hk_gd (Cond.instanceMethod objectInit) := ⟨hk_t101 (List.mem_of_getElem? (i := 38) rfl), rfl⟩
theorem tw_1640 : hk_gd (Cond.methodLink RX11 1 objectInit) := ⟨hk_t101 (List.mem_of_getElem? (i := 37) rfl), rfl⟩
theorem tw_1641 : hk_gd (Cond.code yX12_init cX12_init 5 none) := ⟨hk_t107 (List.mem_of_getElem? (i := 30) rfl), rfl⟩
theorem tw_1642 : hk_gd (Cond.constant RX12 110 (-306674912)) := ⟨hk_t107 (List.mem_of_getElem? (i := 32) rfl), rfl⟩
theorem tw_1643 : hk_gd (Cond.methodLink RX12 1 objectInit) := ⟨hk_t107 (List.mem_of_getElem? (i := 31) rfl), rfl⟩
theorem tw_1644 : hk_gd (Cond.lays "java/lang/String" "java/lang/String" "hashIsZero" "Z") := ⟨hk_t104 (List.mem_of_getElem? (i := 117) rfl), rfl⟩
theorem tw_1645 : hk_gd (Cond.lays "java/lang/String" "java/lang/String" "hash" "I") := ⟨hk_t104 (List.mem_of_getElem? (i := 115) rfl), rfl⟩
theorem tw_1646 : hk_gd (Cond.laysFinal "java/lang/String" "java/lang/String" "coder" "B") := ⟨hk_t104 (List.mem_of_getElem? (i := 113) rfl), rfl⟩
theorem tw_1647 : hk_gd (Cond.laysFinal "java/lang/String" "java/lang/String" "value" "[B") := ⟨hk_t104 (List.mem_of_getElem? (i := 111) rfl), rfl⟩
theorem tw_1648 : hk_gd (Cond.lays "java/lang/StringBuilder" "java/lang/AbstractStringBuilder" "count" "I") := ⟨hk_t103 (List.mem_of_getElem? (i := 152) rfl), rfl⟩
theorem tw_1649 : hk_gd (Cond.lays "java/lang/StringBuilder" "java/lang/AbstractStringBuilder" "maybeLatin1" "Z") := ⟨hk_t103 (List.mem_of_getElem? (i := 150) rfl), rfl⟩
theorem tw_1650 : hk_gd (Cond.lays "java/lang/StringBuilder" "java/lang/AbstractStringBuilder" "coder" "B") := ⟨hk_t103 (List.mem_of_getElem? (i := 148) rfl), rfl⟩
theorem tw_1651 : hk_gd (Cond.lays "java/lang/StringBuilder" "java/lang/AbstractStringBuilder" "value" "[B") := ⟨hk_t103 (List.mem_of_getElem? (i := 146) rfl), rfl⟩
theorem tw_1652 : hk_gd (Cond.lays "java/lang/ArrayIndexOutOfBoundsException" "java/lang/Throwable" "depth" "I") := ⟨hk_t104 (List.mem_of_getElem? (i := 141) rfl), rfl⟩
theorem tw_1653 : hk_gd (Cond.lays "java/lang/ArrayIndexOutOfBoundsException" "java/lang/Throwable" "backtrace" "Ljava/lang/Object;") := ⟨hk_t103 (List.mem_of_getElem? (i := 100) rfl), rfl⟩
theorem tw_1654 : hk_gd (Cond.lays "java/lang/ArrayIndexOutOfBoundsException" "java/lang/Throwable" "detailMessage" "Ljava/lang/String;") := ⟨hk_t103 (List.mem_of_getElem? (i := 98) rfl), rfl⟩
theorem tw_1655 : hk_gd (Cond.lays "java/lang/ArrayIndexOutOfBoundsException" "java/lang/Throwable" "suppressedExceptions" "Ljava/util/List;") := ⟨hk_t103 (List.mem_of_getElem? (i := 96) rfl), rfl⟩
theorem tw_1656 : hk_gd (Cond.lays "java/lang/ArrayIndexOutOfBoundsException" "java/lang/Throwable" "stackTrace" "[Ljava/lang/StackTraceElement;") := ⟨hk_t103 (List.mem_of_getElem? (i := 94) rfl), rfl⟩
theorem tw_1657 : hk_gd (Cond.lays "java/lang/ArrayIndexOutOfBoundsException" "java/lang/Throwable" "cause" "Ljava/lang/Throwable;") := ⟨hk_t103 (List.mem_of_getElem? (i := 92) rfl), rfl⟩
theorem tw_1658 : hk_gd (Cond.classLink RL 8 RX11) := ⟨hk_t101 (List.mem_of_getElem? (i := 32) rfl), rfl⟩
theorem tw_1659 : hk_gd (Cond.instantiable RX11 11) := ⟨hk_t101 (List.mem_of_getElem? (i := 33) rfl), rfl⟩
theorem tw_1660 : hk_gd (Cond.classLink RL 24 RX12) := ⟨hk_t107 (List.mem_of_getElem? (i := 26) rfl), rfl⟩
theorem tw_1661 : hk_gd (Cond.instantiable RX12 92) := ⟨hk_t107 (List.mem_of_getElem? (i := 27) rfl), rfl⟩
theorem tw_1662 : hk_gd (Cond.methodLink RL 21 yX11_init) := ⟨hk_t101 (List.mem_of_getElem? (i := 34) rfl), rfl⟩
theorem tw_1663 : hk_gd (Cond.instanceMethod yX11_init) := ⟨hk_t101 (List.mem_of_getElem? (i := 35) rfl), rfl⟩
theorem tw_1664 : hk_gd (Cond.methodLink RL 26 yX12_init) := ⟨hk_t107 (List.mem_of_getElem? (i := 28) rfl), rfl⟩
theorem tw_1665 : hk_gd (Cond.instanceMethod yX12_init) := ⟨hk_t107 (List.mem_of_getElem? (i := 29) rfl), rfl⟩
theorem tw_1666 : hk_gd (Cond.initialized "java/lang/Throwable") := ⟨hk_t101 (List.mem_of_getElem? (i := 16) rfl), rfl⟩
theorem tw_1667 : hk_gd (Cond.instantiable RJ0 4) := ⟨hk_t104 (List.mem_of_getElem? (i := 65) rfl), rfl⟩
theorem tw_1668 : hk_gd (Cond.instantiable RJ4 4) := ⟨hk_t103 (List.mem_of_getElem? (i := 125) rfl), rfl⟩
theorem tw_1669 : hk_gd (Cond.instantiable RJx00060 6) := ⟨hk_t103 (List.mem_of_getElem? (i := 80) rfl), rfl⟩
theorem tw_1670 : (Cond.laysStatic "java/lang/Throwable" "UNASSIGNED_STACK" "[Ljava/lang/StackTraceElement;") ∈ lw_tbl ∧ True := ⟨hk_t103 (List.mem_of_getElem? (i := 108) rfl), trivial⟩
theorem tw_1671 : (Cond.laysStatic "java/lang/Throwable" "SUPPRESSED_SENTINEL" "Ljava/util/List;") ∈ lw_tbl ∧ True := ⟨hk_t103 (List.mem_of_getElem? (i := 110) rfl), trivial⟩
theorem tw_1672 : (Cond.laysStatic "LzmaChains$Checks" "SHA_KEYS" "[I") ∈ lw_tbl ∧ True := ⟨hk_t105 (List.mem_of_getElem? (i := 177) rfl), trivial⟩
theorem tw_1673 : (Cond.laysStatic "LzmaChains$Checks" "SHA_START" "[I") ∈ lw_tbl ∧ True := ⟨hk_t105 (List.mem_of_getElem? (i := 164) rfl), trivial⟩
theorem tw_1674 : (Cond.laysStatic "LzmaChainsModel" "ROUND" "[I") ∈ lw_tbl ∧ True := ⟨hk_t108 (List.mem_of_getElem? (i := 156) rfl), trivial⟩
theorem gb_X11 : GoodIn lw_tbl wsX110 := (hk_g1 tw_1250 (hk_g1 tw_1249 (hk_g1 tw_1248 (hk_g1 tw_1247 (hk_g1 tw_1246 (hk_g1 tw_1245 (hk_g1 tw_1244 (hk_g1 tw_1243 (hk_g1 tw_1242 (hk_g1 tw_1241 (hk_g1 tw_1240 hk_g0)))))))))))
theorem gb_X10 : GoodIn lw_tbl wsX100 := (hk_g1 tw_1260 (hk_g1 tw_1259 (hk_g1 tw_1258 (hk_g1 tw_1257 (hk_g1 tw_1256 (hk_g1 tw_1255 (hk_g1 tw_1254 (hk_g1 tw_1253 (hk_g1 tw_1252 (hk_g1 tw_1251 hk_g0))))))))))
theorem gb_X9 : GoodIn lw_tbl wsX90 := (hk_g1 tw_1262 (hk_g1 tw_1261 hk_g0))
theorem gb_X8 : GoodIn lw_tbl wsX80 := (hk_g1 tw_1266 (hk_g1 tw_1265 (hk_g1 tw_1264 (hk_g1 tw_1263 hk_g0))))
theorem gb_X7 : GoodIn lw_tbl wsX70 := (hk_g1 tw_1283 (hk_g1 tw_1282 (hk_g1 tw_1281 (hk_g1 tw_1280 (hk_g1 tw_1279 (hk_g1 tw_1278 (hk_g1 tw_1277 (hk_g1 tw_1276 (hk_g1 tw_1275 (hk_g1 tw_1274 (hk_g1 tw_1273 (hk_g1 tw_1272 (hk_g1 tw_1271 (hk_g1 tw_1270 (hk_g1 tw_1269 (hk_g1 tw_1268 (hk_g1 tw_1267 hk_g0)))))))))))))))))
theorem gb_X6 : GoodIn lw_tbl wsX60 := (hk_g1 tw_1299 (hk_g1 tw_1298 (hk_g1 tw_1297 (hk_g1 tw_1296 (hk_g1 tw_1295 (hk_g1 tw_1294 (hk_g1 tw_1293 (hk_g1 tw_1292 (hk_g1 tw_1291 (hk_g1 tw_1290 (hk_g1 tw_1289 (hk_g1 tw_1288 (hk_g1 tw_1287 (hk_g1 tw_1286 (hk_g1 tw_1285 (hk_g1 tw_1284 hk_g0))))))))))))))))
theorem gb_X5 : GoodIn lw_tbl wsX50 := (hk_g1 tw_1305 (hk_g1 tw_1304 (hk_g1 tw_1303 (hk_g1 tw_1302 (hk_g1 tw_1301 (hk_g1 tw_1300 hk_g0))))))
theorem gb_X4 : GoodIn lw_tbl wsX40 := (hk_g1 tw_1309 (hk_g1 tw_1308 (hk_g1 tw_1307 (hk_g1 tw_1306 hk_g0))))
theorem gb_X3 : GoodIn lw_tbl wsX30 := (hk_g1 tw_1318 (hk_g1 tw_1317 (hk_g1 tw_1316 (hk_g1 tw_1315 (hk_g1 tw_1314 (hk_g1 tw_1313 (hk_g1 tw_1312 (hk_g1 tw_1311 (hk_g1 tw_1310 hk_g0)))))))))
theorem gb_X2 : GoodIn lw_tbl wsX20 := (hk_g1 tw_1327 (hk_g1 tw_1326 (hk_g1 tw_1325 (hk_g1 tw_1324 (hk_g1 tw_1323 (hk_g1 tw_1322 (hk_g1 tw_1321 (hk_g1 tw_1320 (hk_g1 tw_1319 hk_g0)))))))))
theorem gb_X1 : GoodIn lw_tbl wsX10 := (hk_g1 tw_1340 (hk_g1 tw_1339 (hk_g1 tw_1338 (hk_g1 tw_1337 (hk_g1 tw_1336 (hk_g1 tw_1335 (hk_g1 tw_1334 (hk_g1 tw_1333 (hk_g1 tw_1332 (hk_g1 tw_1331 (hk_g1 tw_1330 (hk_g1 tw_1329 (hk_g1 tw_1328 hk_g0)))))))))))))
theorem gb_X0 : GoodIn lw_tbl wsX00 := (hk_g1 tw_1343 (hk_g1 tw_1342 (hk_g1 tw_1341 hk_g0)))
theorem gb_X12 : GoodIn lw_tbl wsX120 := (hk_g1 tw_1435 (hk_g1 tw_1434 (hk_g1 tw_1433 (hk_g1 tw_1432 (hk_g1 tw_1431 (hk_g1 tw_1430 (hk_g1 tw_1429 (hk_g1 tw_1428 (hk_g1 tw_1427 (hk_g1 tw_1426 (hk_g1 tw_1425 (hk_g1 tw_1424 (hk_g1 tw_1423 (hk_g1 tw_1422 (hk_g1 tw_1421 (hk_g1 tw_1420 (hk_g1 tw_1419 (hk_g1 tw_1418 (hk_g1 tw_1417 (hk_g1 tw_1416 (hk_g1 tw_1415 (hk_g1 tw_1414 (hk_g1 tw_1413 (hk_g1 tw_1412 (hk_g1 tw_1411 (hk_g1 tw_1410 (hk_g1 tw_1409 (hk_g1 tw_1408 (hk_g1 tw_1407 (hk_g1 tw_1406 (hk_g1 tw_1405 (hk_g1 tw_1404 (hk_g1 tw_1403 (hk_g1 tw_1402 (hk_g1 tw_1401 (hk_g1 tw_1400 (hk_g1 tw_1399 (hk_g1 tw_1398 (hk_g1 tw_1397 (hk_g1 tw_1396 (hk_g1 tw_1395 (hk_g1 tw_1394 (hk_g1 tw_1393 (hk_g1 tw_1392 (hk_g1 tw_1391 (hk_g1 tw_1390 (hk_g1 tw_1389 (hk_g1 tw_1388 (hk_g1 tw_1387 (hk_g1 tw_1386 (hk_g1 tw_1385 (hk_g1 tw_1384 (hk_g1 tw_1383 (hk_g1 tw_1382 (hk_g1 tw_1381 (hk_g1 tw_1380 (hk_g1 tw_1379 (hk_g1 tw_1378 (hk_g1 tw_1377 (hk_g1 tw_1376 (hk_g1 tw_1375 (hk_g1 tw_1374 (hk_g1 tw_1373 (hk_g1 tw_1372 (hk_g1 tw_1371 (hk_g1 tw_1370 (hk_g1 tw_1369 (hk_g1 tw_1368 (hk_g1 tw_1367 (hk_g1 tw_1366 (hk_g1 tw_1365 (hk_g1 tw_1364 (hk_g1 tw_1363 (hk_g1 tw_1362 (hk_g1 tw_1361 (hk_g1 tw_1360 (hk_g1 tw_1359 (hk_g1 tw_1358 (hk_g1 tw_1357 (hk_g1 tw_1356 (hk_g1 tw_1355 (hk_g1 tw_1354 (hk_g1 tw_1353 (hk_g1 tw_1352 (hk_g1 tw_1351 (hk_g1 tw_1350 (hk_g1 tw_1349 (hk_g1 tw_1348 (hk_g1 tw_1347 (hk_g1 tw_1346 (hk_g1 tw_1345 (hk_g1 tw_1344 hk_g0))))))))))))))))))))))))))))))))))))))))))))))))))))))))))))))))))))))))))))))))))))))))))))
theorem gb_J0 : GoodIn lw_tbl wsJ00 := (hk_g1 tw_1647 (hk_g1 tw_1646 (hk_g1 tw_1645 (hk_g1 tw_1644 hk_g0))))
theorem gb_J4 : GoodIn lw_tbl wsJ40 := (hk_g1 tw_1651 (hk_g1 tw_1650 (hk_g1 tw_1649 (hk_g1 tw_1648 hk_g0))))
theorem gb_Jx00060 : GoodIn lw_tbl wsJx000600 := (hk_g1 tw_1657 (hk_g1 tw_1656 (hk_g1 tw_1655 (hk_g1 tw_1654 (hk_g1 tw_1653 (hk_g1 tw_1652 hk_g0))))))
theorem g_wwX_0 : GoodIn lw_tbl wwX_0 := (hk_g1 tw_39 (hk_g1 tw_38 (hk_g1 tw_37 (hk_g1 tw_36 (hk_g1 tw_35 (hk_g1 tw_34 (hk_g1 tw_33 (hk_g1 tw_32 (hk_g1 tw_31 (hk_g1 tw_30 (hk_g1 tw_29 (hk_g1 tw_28 (hk_g1 tw_27 (hk_g1 tw_26 (hk_g1 tw_25 (hk_g1 tw_24 (hk_g1 tw_23 (hk_g1 tw_22 (hk_g1 tw_21 (hk_g1 tw_20 (hk_g1 tw_19 (hk_g1 tw_18 (hk_g1 tw_17 (hk_g1 tw_16 (hk_g1 tw_15 (hk_g1 tw_14 (hk_g1 tw_13 (hk_g1 tw_12 (hk_g1 tw_11 (hk_g1 tw_10 (hk_g1 tw_9 (hk_g1 tw_8 (hk_g1 tw_7 (hk_g1 tw_6 (hk_g1 tw_5 (hk_g1 tw_4 (hk_g1 tw_3 (hk_g1 tw_2 (hk_g1 tw_1 (hk_g1 tw_0 hk_g0))))))))))))))))))))))))))))))))))))))))
theorem g_wwX_1 : GoodIn lw_tbl wwX_1 := (hk_g1 tw_79 (hk_g1 tw_78 (hk_g1 tw_77 (hk_g1 tw_76 (hk_g1 tw_75 (hk_g1 tw_74 (hk_g1 tw_73 (hk_g1 tw_72 (hk_g1 tw_71 (hk_g1 tw_70 (hk_g1 tw_69 (hk_g1 tw_68 (hk_g1 tw_67 (hk_g1 tw_66 (hk_g1 tw_65 (hk_g1 tw_64 (hk_g1 tw_63 (hk_g1 tw_62 (hk_g1 tw_61 (hk_g1 tw_60 (hk_g1 tw_59 (hk_g1 tw_58 (hk_g1 tw_57 (hk_g1 tw_56 (hk_g1 tw_55 (hk_g1 tw_54 (hk_g1 tw_53 (hk_g1 tw_52 (hk_g1 tw_51 (hk_g1 tw_50 (hk_g1 tw_49 (hk_g1 tw_48 (hk_g1 tw_47 (hk_g1 tw_46 (hk_g1 tw_45 (hk_g1 tw_44 (hk_g1 tw_43 (hk_g1 tw_42 (hk_g1 tw_41 (hk_g1 tw_40 hk_g0))))))))))))))))))))))))))))))))))))))))
theorem g_wwX_2 : GoodIn lw_tbl wwX_2 := (hk_g1 tw_119 (hk_g1 tw_118 (hk_g1 tw_117 (hk_g1 tw_116 (hk_g1 tw_115 (hk_g1 tw_114 (hk_g1 tw_113 (hk_g1 tw_112 (hk_g1 tw_111 (hk_g1 tw_110 (hk_g1 tw_109 (hk_g1 tw_108 (hk_g1 tw_107 (hk_g1 tw_106 (hk_g1 tw_105 (hk_g1 tw_104 (hk_g1 tw_103 (hk_g1 tw_102 (hk_g1 tw_101 (hk_g1 tw_100 (hk_g1 tw_99 (hk_g1 tw_98 (hk_g1 tw_97 (hk_g1 tw_96 (hk_g1 tw_95 (hk_g1 tw_94 (hk_g1 tw_93 (hk_g1 tw_92 (hk_g1 tw_91 (hk_g1 tw_90 (hk_g1 tw_89 (hk_g1 tw_88 (hk_g1 tw_87 (hk_g1 tw_86 (hk_g1 tw_85 (hk_g1 tw_84 (hk_g1 tw_83 (hk_g1 tw_82 (hk_g1 tw_81 (hk_g1 tw_80 hk_g0))))))))))))))))))))))))))))))))))))))))
theorem g_wwX_3 : GoodIn lw_tbl wwX_3 := (hk_g1 tw_159 (hk_g1 tw_158 (hk_g1 tw_157 (hk_g1 tw_156 (hk_g1 tw_155 (hk_g1 tw_154 (hk_g1 tw_153 (hk_g1 tw_152 (hk_g1 tw_151 (hk_g1 tw_150 (hk_g1 tw_149 (hk_g1 tw_148 (hk_g1 tw_147 (hk_g1 tw_146 (hk_g1 tw_145 (hk_g1 tw_144 (hk_g1 tw_143 (hk_g1 tw_142 (hk_g1 tw_141 (hk_g1 tw_140 (hk_g1 tw_139 (hk_g1 tw_138 (hk_g1 tw_137 (hk_g1 tw_136 (hk_g1 tw_135 (hk_g1 tw_134 (hk_g1 tw_133 (hk_g1 tw_132 (hk_g1 tw_131 (hk_g1 tw_130 (hk_g1 tw_129 (hk_g1 tw_128 (hk_g1 tw_127 (hk_g1 tw_126 (hk_g1 tw_125 (hk_g1 tw_124 (hk_g1 tw_123 (hk_g1 tw_122 (hk_g1 tw_121 (hk_g1 tw_120 hk_g0))))))))))))))))))))))))))))))))))))))))
theorem g_wwX_4 : GoodIn lw_tbl wwX_4 := (hk_g1 tw_199 (hk_g1 tw_198 (hk_g1 tw_197 (hk_g1 tw_196 (hk_g1 tw_195 (hk_g1 tw_194 (hk_g1 tw_193 (hk_g1 tw_192 (hk_g1 tw_191 (hk_g1 tw_190 (hk_g1 tw_189 (hk_g1 tw_188 (hk_g1 tw_187 (hk_g1 tw_186 (hk_g1 tw_185 (hk_g1 tw_184 (hk_g1 tw_183 (hk_g1 tw_182 (hk_g1 tw_181 (hk_g1 tw_180 (hk_g1 tw_179 (hk_g1 tw_178 (hk_g1 tw_177 (hk_g1 tw_176 (hk_g1 tw_175 (hk_g1 tw_174 (hk_g1 tw_173 (hk_g1 tw_172 (hk_g1 tw_171 (hk_g1 tw_170 (hk_g1 tw_169 (hk_g1 tw_168 (hk_g1 tw_167 (hk_g1 tw_166 (hk_g1 tw_165 (hk_g1 tw_164 (hk_g1 tw_163 (hk_g1 tw_162 (hk_g1 tw_161 (hk_g1 tw_160 hk_g0))))))))))))))))))))))))))))))))))))))))
theorem g_wwX_5 : GoodIn lw_tbl wwX_5 := (hk_g1 tw_239 (hk_g1 tw_238 (hk_g1 tw_237 (hk_g1 tw_236 (hk_g1 tw_235 (hk_g1 tw_234 (hk_g1 tw_233 (hk_g1 tw_232 (hk_g1 tw_231 (hk_g1 tw_230 (hk_g1 tw_229 (hk_g1 tw_228 (hk_g1 tw_227 (hk_g1 tw_226 (hk_g1 tw_225 (hk_g1 tw_224 (hk_g1 tw_223 (hk_g1 tw_222 (hk_g1 tw_221 (hk_g1 tw_220 (hk_g1 tw_219 (hk_g1 tw_218 (hk_g1 tw_217 (hk_g1 tw_216 (hk_g1 tw_215 (hk_g1 tw_214 (hk_g1 tw_213 (hk_g1 tw_212 (hk_g1 tw_211 (hk_g1 tw_210 (hk_g1 tw_209 (hk_g1 tw_208 (hk_g1 tw_207 (hk_g1 tw_206 (hk_g1 tw_205 (hk_g1 tw_204 (hk_g1 tw_203 (hk_g1 tw_202 (hk_g1 tw_201 (hk_g1 tw_200 hk_g0))))))))))))))))))))))))))))))))))))))))
theorem g_wwX_6 : GoodIn lw_tbl wwX_6 := (hk_g1 tw_279 (hk_g1 tw_278 (hk_g1 tw_277 (hk_g1 tw_276 (hk_g1 tw_275 (hk_g1 tw_274 (hk_g1 tw_273 (hk_g1 tw_272 (hk_g1 tw_271 (hk_g1 tw_270 (hk_g1 tw_269 (hk_g1 tw_268 (hk_g1 tw_267 (hk_g1 tw_266 (hk_g1 tw_265 (hk_g1 tw_264 (hk_g1 tw_263 (hk_g1 tw_262 (hk_g1 tw_261 (hk_g1 tw_260 (hk_g1 tw_259 (hk_g1 tw_258 (hk_g1 tw_257 (hk_g1 tw_256 (hk_g1 tw_255 (hk_g1 tw_254 (hk_g1 tw_253 (hk_g1 tw_252 (hk_g1 tw_251 (hk_g1 tw_250 (hk_g1 tw_249 (hk_g1 tw_248 (hk_g1 tw_247 (hk_g1 tw_246 (hk_g1 tw_245 (hk_g1 tw_244 (hk_g1 tw_243 (hk_g1 tw_242 (hk_g1 tw_241 (hk_g1 tw_240 hk_g0))))))))))))))))))))))))))))))))))))))))
theorem g_wwX_7 : GoodIn lw_tbl wwX_7 := (hk_g1 tw_319 (hk_g1 tw_318 (hk_g1 tw_317 (hk_g1 tw_316 (hk_g1 tw_315 (hk_g1 tw_314 (hk_g1 tw_313 (hk_g1 tw_312 (hk_g1 tw_311 (hk_g1 tw_310 (hk_g1 tw_309 (hk_g1 tw_308 (hk_g1 tw_307 (hk_g1 tw_306 (hk_g1 tw_305 (hk_g1 tw_304 (hk_g1 tw_303 (hk_g1 tw_302 (hk_g1 tw_301 (hk_g1 tw_300 (hk_g1 tw_299 (hk_g1 tw_298 (hk_g1 tw_297 (hk_g1 tw_296 (hk_g1 tw_295 (hk_g1 tw_294 (hk_g1 tw_293 (hk_g1 tw_292 (hk_g1 tw_291 (hk_g1 tw_290 (hk_g1 tw_289 (hk_g1 tw_288 (hk_g1 tw_287 (hk_g1 tw_286 (hk_g1 tw_285 (hk_g1 tw_284 (hk_g1 tw_283 (hk_g1 tw_282 (hk_g1 tw_281 (hk_g1 tw_280 hk_g0))))))))))))))))))))))))))))))))))))))))
theorem g_wwX_8 : GoodIn lw_tbl wwX_8 := (hk_g1 tw_359 (hk_g1 tw_358 (hk_g1 tw_357 (hk_g1 tw_356 (hk_g1 tw_355 (hk_g1 tw_354 (hk_g1 tw_353 (hk_g1 tw_352 (hk_g1 tw_351 (hk_g1 tw_350 (hk_g1 tw_349 (hk_g1 tw_348 (hk_g1 tw_347 (hk_g1 tw_346 (hk_g1 tw_345 (hk_g1 tw_344 (hk_g1 tw_343 (hk_g1 tw_342 (hk_g1 tw_341 (hk_g1 tw_340 (hk_g1 tw_339 (hk_g1 tw_338 (hk_g1 tw_337 (hk_g1 tw_336 (hk_g1 tw_335 (hk_g1 tw_334 (hk_g1 tw_333 (hk_g1 tw_332 (hk_g1 tw_331 (hk_g1 tw_330 (hk_g1 tw_329 (hk_g1 tw_328 (hk_g1 tw_327 (hk_g1 tw_326 (hk_g1 tw_325 (hk_g1 tw_324 (hk_g1 tw_323 (hk_g1 tw_322 (hk_g1 tw_321 (hk_g1 tw_320 hk_g0))))))))))))))))))))))))))))))))))))))))
theorem g_wwX_9 : GoodIn lw_tbl wwX_9 := (hk_g1 tw_399 (hk_g1 tw_398 (hk_g1 tw_397 (hk_g1 tw_396 (hk_g1 tw_395 (hk_g1 tw_394 (hk_g1 tw_393 (hk_g1 tw_392 (hk_g1 tw_391 (hk_g1 tw_390 (hk_g1 tw_389 (hk_g1 tw_388 (hk_g1 tw_387 (hk_g1 tw_386 (hk_g1 tw_385 (hk_g1 tw_384 (hk_g1 tw_383 (hk_g1 tw_382 (hk_g1 tw_381 (hk_g1 tw_380 (hk_g1 tw_379 (hk_g1 tw_378 (hk_g1 tw_377 (hk_g1 tw_376 (hk_g1 tw_375 (hk_g1 tw_374 (hk_g1 tw_373 (hk_g1 tw_372 (hk_g1 tw_371 (hk_g1 tw_370 (hk_g1 tw_369 (hk_g1 tw_368 (hk_g1 tw_367 (hk_g1 tw_366 (hk_g1 tw_365 (hk_g1 tw_364 (hk_g1 tw_363 (hk_g1 tw_362 (hk_g1 tw_361 (hk_g1 tw_360 hk_g0))))))))))))))))))))))))))))))))))))))))
theorem g_wwX_10 : GoodIn lw_tbl wwX_10 := (hk_g1 tw_439 (hk_g1 tw_438 (hk_g1 tw_437 (hk_g1 tw_436 (hk_g1 tw_435 (hk_g1 tw_434 (hk_g1 tw_433 (hk_g1 tw_432 (hk_g1 tw_431 (hk_g1 tw_430 (hk_g1 tw_429 (hk_g1 tw_428 (hk_g1 tw_427 (hk_g1 tw_426 (hk_g1 tw_425 (hk_g1 tw_424 (hk_g1 tw_423 (hk_g1 tw_422 (hk_g1 tw_421 (hk_g1 tw_420 (hk_g1 tw_419 (hk_g1 tw_418 (hk_g1 tw_417 (hk_g1 tw_416 (hk_g1 tw_415 (hk_g1 tw_414 (hk_g1 tw_413 (hk_g1 tw_412 (hk_g1 tw_411 (hk_g1 tw_410 (hk_g1 tw_409 (hk_g1 tw_408 (hk_g1 tw_407 (hk_g1 tw_406 (hk_g1 tw_405 (hk_g1 tw_404 (hk_g1 tw_403 (hk_g1 tw_402 (hk_g1 tw_401 (hk_g1 tw_400 hk_g0))))))))))))))))))))))))))))))))))))))))
theorem g_wwX_11 : GoodIn lw_tbl wwX_11 := (hk_g1 tw_479 (hk_g1 tw_478 (hk_g1 tw_477 (hk_g1 tw_476 (hk_g1 tw_475 (hk_g1 tw_474 (hk_g1 tw_473 (hk_g1 tw_472 (hk_g1 tw_471 (hk_g1 tw_470 (hk_g1 tw_469 (hk_g1 tw_468 (hk_g1 tw_467 (hk_g1 tw_466 (hk_g1 tw_465 (hk_g1 tw_464 (hk_g1 tw_463 (hk_g1 tw_462 (hk_g1 tw_461 (hk_g1 tw_460 (hk_g1 tw_459 (hk_g1 tw_458 (hk_g1 tw_457 (hk_g1 tw_456 (hk_g1 tw_455 (hk_g1 tw_454 (hk_g1 tw_453 (hk_g1 tw_452 (hk_g1 tw_451 (hk_g1 tw_450 (hk_g1 tw_449 (hk_g1 tw_448 (hk_g1 tw_447 (hk_g1 tw_446 (hk_g1 tw_445 (hk_g1 tw_444 (hk_g1 tw_443 (hk_g1 tw_442 (hk_g1 tw_441 (hk_g1 tw_440 hk_g0))))))))))))))))))))))))))))))))))))))))
theorem g_wwX_12 : GoodIn lw_tbl wwX_12 := (hk_g1 tw_519 (hk_g1 tw_518 (hk_g1 tw_517 (hk_g1 tw_516 (hk_g1 tw_515 (hk_g1 tw_514 (hk_g1 tw_513 (hk_g1 tw_512 (hk_g1 tw_511 (hk_g1 tw_510 (hk_g1 tw_509 (hk_g1 tw_508 (hk_g1 tw_507 (hk_g1 tw_506 (hk_g1 tw_505 (hk_g1 tw_504 (hk_g1 tw_503 (hk_g1 tw_502 (hk_g1 tw_501 (hk_g1 tw_500 (hk_g1 tw_499 (hk_g1 tw_498 (hk_g1 tw_497 (hk_g1 tw_496 (hk_g1 tw_495 (hk_g1 tw_494 (hk_g1 tw_493 (hk_g1 tw_492 (hk_g1 tw_491 (hk_g1 tw_490 (hk_g1 tw_489 (hk_g1 tw_488 (hk_g1 tw_487 (hk_g1 tw_486 (hk_g1 tw_485 (hk_g1 tw_484 (hk_g1 tw_483 (hk_g1 tw_482 (hk_g1 tw_481 (hk_g1 tw_480 hk_g0))))))))))))))))))))))))))))))))))))))))
theorem g_wwX_13 : GoodIn lw_tbl wwX_13 := (hk_g1 tw_559 (hk_g1 tw_558 (hk_g1 tw_557 (hk_g1 tw_556 (hk_g1 tw_555 (hk_g1 tw_554 (hk_g1 tw_553 (hk_g1 tw_552 (hk_g1 tw_551 (hk_g1 tw_550 (hk_g1 tw_549 (hk_g1 tw_548 (hk_g1 tw_547 (hk_g1 tw_546 (hk_g1 tw_545 (hk_g1 tw_544 (hk_g1 tw_543 (hk_g1 tw_542 (hk_g1 tw_541 (hk_g1 tw_540 (hk_g1 tw_539 (hk_g1 tw_538 (hk_g1 tw_537 (hk_g1 tw_536 (hk_g1 tw_535 (hk_g1 tw_534 (hk_g1 tw_533 (hk_g1 tw_532 (hk_g1 tw_531 (hk_g1 tw_530 (hk_g1 tw_529 (hk_g1 tw_528 (hk_g1 tw_527 (hk_g1 tw_526 (hk_g1 tw_525 (hk_g1 tw_524 (hk_g1 tw_523 (hk_g1 tw_522 (hk_g1 tw_521 (hk_g1 tw_520 hk_g0))))))))))))))))))))))))))))))))))))))))
theorem g_wwX_14 : GoodIn lw_tbl wwX_14 := (hk_g1 tw_599 (hk_g1 tw_598 (hk_g1 tw_597 (hk_g1 tw_596 (hk_g1 tw_595 (hk_g1 tw_594 (hk_g1 tw_593 (hk_g1 tw_592 (hk_g1 tw_591 (hk_g1 tw_590 (hk_g1 tw_589 (hk_g1 tw_588 (hk_g1 tw_587 (hk_g1 tw_586 (hk_g1 tw_585 (hk_g1 tw_584 (hk_g1 tw_583 (hk_g1 tw_582 (hk_g1 tw_581 (hk_g1 tw_580 (hk_g1 tw_579 (hk_g1 tw_578 (hk_g1 tw_577 (hk_g1 tw_576 (hk_g1 tw_575 (hk_g1 tw_574 (hk_g1 tw_573 (hk_g1 tw_572 (hk_g1 tw_571 (hk_g1 tw_570 (hk_g1 tw_569 (hk_g1 tw_568 (hk_g1 tw_567 (hk_g1 tw_566 (hk_g1 tw_565 (hk_g1 tw_564 (hk_g1 tw_563 (hk_g1 tw_562 (hk_g1 tw_561 (hk_g1 tw_560 hk_g0))))))))))))))))))))))))))))))))))))))))
theorem g_wwX_15 : GoodIn lw_tbl wwX_15 := (hk_g1 tw_639 (hk_g1 tw_638 (hk_g1 tw_637 (hk_g1 tw_636 (hk_g1 tw_635 (hk_g1 tw_634 (hk_g1 tw_633 (hk_g1 tw_632 (hk_g1 tw_631 (hk_g1 tw_630 (hk_g1 tw_629 (hk_g1 tw_628 (hk_g1 tw_627 (hk_g1 tw_626 (hk_g1 tw_625 (hk_g1 tw_624 (hk_g1 tw_623 (hk_g1 tw_622 (hk_g1 tw_621 (hk_g1 tw_620 (hk_g1 tw_619 (hk_g1 tw_618 (hk_g1 tw_617 (hk_g1 tw_616 (hk_g1 tw_615 (hk_g1 tw_614 (hk_g1 tw_613 (hk_g1 tw_612 (hk_g1 tw_611 (hk_g1 tw_610 (hk_g1 tw_609 (hk_g1 tw_608 (hk_g1 tw_607 (hk_g1 tw_606 (hk_g1 tw_605 (hk_g1 tw_604 (hk_g1 tw_603 (hk_g1 tw_602 (hk_g1 tw_601 (hk_g1 tw_600 hk_g0))))))))))))))))))))))))))))))))))))))))
theorem g_wwX_16 : GoodIn lw_tbl wwX_16 := (hk_g1 tw_679 (hk_g1 tw_678 (hk_g1 tw_677 (hk_g1 tw_676 (hk_g1 tw_675 (hk_g1 tw_674 (hk_g1 tw_673 (hk_g1 tw_672 (hk_g1 tw_671 (hk_g1 tw_670 (hk_g1 tw_669 (hk_g1 tw_668 (hk_g1 tw_667 (hk_g1 tw_666 (hk_g1 tw_665 (hk_g1 tw_664 (hk_g1 tw_663 (hk_g1 tw_662 (hk_g1 tw_661 (hk_g1 tw_660 (hk_g1 tw_659 (hk_g1 tw_658 (hk_g1 tw_657 (hk_g1 tw_656 (hk_g1 tw_655 (hk_g1 tw_654 (hk_g1 tw_653 (hk_g1 tw_652 (hk_g1 tw_651 (hk_g1 tw_650 (hk_g1 tw_649 (hk_g1 tw_648 (hk_g1 tw_647 (hk_g1 tw_646 (hk_g1 tw_645 (hk_g1 tw_644 (hk_g1 tw_643 (hk_g1 tw_642 (hk_g1 tw_641 (hk_g1 tw_640 hk_g0))))))))))))))))))))))))))))))))))))))))
theorem g_wwX_17 : GoodIn lw_tbl wwX_17 := (hk_g1 tw_701 (hk_g1 tw_700 (hk_g1 tw_699 (hk_g1 tw_698 (hk_g1 tw_697 (hk_g1 tw_696 (hk_g1 tw_695 (hk_g1 tw_694 (hk_g1 tw_693 (hk_g1 tw_692 (hk_g1 tw_691 (hk_g1 tw_690 (hk_g1 tw_689 (hk_g1 tw_688 (hk_g1 tw_687 (hk_g1 tw_686 (hk_g1 tw_685 (hk_g1 tw_684 (hk_g1 tw_683 (hk_g1 tw_682 (hk_g1 tw_681 (hk_g1 tw_680 hk_g0))))))))))))))))))))))
theorem g_wwM_0 : GoodIn lw_tbl wwM_0 := (hk_g1 tw_741 (hk_g1 tw_740 (hk_g1 tw_739 (hk_g1 tw_738 (hk_g1 tw_737 (hk_g1 tw_736 (hk_g1 tw_735 (hk_g1 tw_734 (hk_g1 tw_733 (hk_g1 tw_732 (hk_g1 tw_731 (hk_g1 tw_730 (hk_g1 tw_729 (hk_g1 tw_728 (hk_g1 tw_727 (hk_g1 tw_726 (hk_g1 tw_725 (hk_g1 tw_724 (hk_g1 tw_723 (hk_g1 tw_722 (hk_g1 tw_721 (hk_g1 tw_720 (hk_g1 tw_719 (hk_g1 tw_718 (hk_g1 tw_717 (hk_g1 tw_716 (hk_g1 tw_715 (hk_g1 tw_714 (hk_g1 tw_713 (hk_g1 tw_712 (hk_g1 tw_711 (hk_g1 tw_710 (hk_g1 tw_709 (hk_g1 tw_708 (hk_g1 tw_707 (hk_g1 tw_706 (hk_g1 tw_705 (hk_g1 tw_704 (hk_g1 tw_703 (hk_g1 tw_702 hk_g0))))))))))))))))))))))))))))))))))))))))
theorem g_wwM_1 : GoodIn lw_tbl wwM_1 := (hk_g1 tw_781 (hk_g1 tw_780 (hk_g1 tw_779 (hk_g1 tw_778 (hk_g1 tw_777 (hk_g1 tw_776 (hk_g1 tw_775 (hk_g1 tw_774 (hk_g1 tw_773 (hk_g1 tw_772 (hk_g1 tw_771 (hk_g1 tw_770 (hk_g1 tw_769 (hk_g1 tw_768 (hk_g1 tw_767 (hk_g1 tw_766 (hk_g1 tw_765 (hk_g1 tw_764 (hk_g1 tw_763 (hk_g1 tw_762 (hk_g1 tw_761 (hk_g1 tw_760 (hk_g1 tw_759 (hk_g1 tw_758 (hk_g1 tw_757 (hk_g1 tw_756 (hk_g1 tw_755 (hk_g1 tw_754 (hk_g1 tw_753 (hk_g1 tw_752 (hk_g1 tw_751 (hk_g1 tw_750 (hk_g1 tw_749 (hk_g1 tw_748 (hk_g1 tw_747 (hk_g1 tw_746 (hk_g1 tw_745 (hk_g1 tw_744 (hk_g1 tw_743 (hk_g1 tw_742 hk_g0))))))))))))))))))))))))))))))))))))))))
theorem g_wwM_2 : GoodIn lw_tbl wwM_2 := (hk_g1 tw_821 (hk_g1 tw_820 (hk_g1 tw_819 (hk_g1 tw_818 (hk_g1 tw_817 (hk_g1 tw_816 (hk_g1 tw_815 (hk_g1 tw_814 (hk_g1 tw_813 (hk_g1 tw_812 (hk_g1 tw_811 (hk_g1 tw_810 (hk_g1 tw_809 (hk_g1 tw_808 (hk_g1 tw_807 (hk_g1 tw_806 (hk_g1 tw_805 (hk_g1 tw_804 (hk_g1 tw_803 (hk_g1 tw_802 (hk_g1 tw_801 (hk_g1 tw_800 (hk_g1 tw_799 (hk_g1 tw_798 (hk_g1 tw_797 (hk_g1 tw_796 (hk_g1 tw_795 (hk_g1 tw_794 (hk_g1 tw_793 (hk_g1 tw_792 (hk_g1 tw_791 (hk_g1 tw_790 (hk_g1 tw_789 (hk_g1 tw_788 (hk_g1 tw_787 (hk_g1 tw_786 (hk_g1 tw_785 (hk_g1 tw_784 (hk_g1 tw_783 (hk_g1 tw_782 hk_g0))))))))))))))))))))))))))))))))))))))))
theorem g_wwM_3 : GoodIn lw_tbl wwM_3 := (hk_g1 tw_861 (hk_g1 tw_860 (hk_g1 tw_859 (hk_g1 tw_858 (hk_g1 tw_857 (hk_g1 tw_856 (hk_g1 tw_855 (hk_g1 tw_854 (hk_g1 tw_853 (hk_g1 tw_852 (hk_g1 tw_851 (hk_g1 tw_850 (hk_g1 tw_849 (hk_g1 tw_848 (hk_g1 tw_847 (hk_g1 tw_846 (hk_g1 tw_845 (hk_g1 tw_844 (hk_g1 tw_843 (hk_g1 tw_842 (hk_g1 tw_841 (hk_g1 tw_840 (hk_g1 tw_839 (hk_g1 tw_838 (hk_g1 tw_837 (hk_g1 tw_836 (hk_g1 tw_835 (hk_g1 tw_834 (hk_g1 tw_833 (hk_g1 tw_832 (hk_g1 tw_831 (hk_g1 tw_830 (hk_g1 tw_829 (hk_g1 tw_828 (hk_g1 tw_827 (hk_g1 tw_826 (hk_g1 tw_825 (hk_g1 tw_824 (hk_g1 tw_823 (hk_g1 tw_822 hk_g0))))))))))))))))))))))))))))))))))))))))
theorem g_wwM_4 : GoodIn lw_tbl wwM_4 := (hk_g1 tw_901 (hk_g1 tw_900 (hk_g1 tw_899 (hk_g1 tw_898 (hk_g1 tw_897 (hk_g1 tw_896 (hk_g1 tw_895 (hk_g1 tw_894 (hk_g1 tw_893 (hk_g1 tw_892 (hk_g1 tw_891 (hk_g1 tw_890 (hk_g1 tw_889 (hk_g1 tw_888 (hk_g1 tw_887 (hk_g1 tw_886 (hk_g1 tw_885 (hk_g1 tw_884 (hk_g1 tw_883 (hk_g1 tw_882 (hk_g1 tw_881 (hk_g1 tw_880 (hk_g1 tw_879 (hk_g1 tw_878 (hk_g1 tw_877 (hk_g1 tw_876 (hk_g1 tw_875 (hk_g1 tw_874 (hk_g1 tw_873 (hk_g1 tw_872 (hk_g1 tw_871 (hk_g1 tw_870 (hk_g1 tw_869 (hk_g1 tw_868 (hk_g1 tw_867 (hk_g1 tw_866 (hk_g1 tw_865 (hk_g1 tw_864 (hk_g1 tw_863 (hk_g1 tw_862 hk_g0))))))))))))))))))))))))))))))))))))))))
theorem g_wwM_5 : GoodIn lw_tbl wwM_5 := (hk_g1 tw_941 (hk_g1 tw_940 (hk_g1 tw_939 (hk_g1 tw_938 (hk_g1 tw_937 (hk_g1 tw_936 (hk_g1 tw_935 (hk_g1 tw_934 (hk_g1 tw_933 (hk_g1 tw_932 (hk_g1 tw_931 (hk_g1 tw_930 (hk_g1 tw_929 (hk_g1 tw_928 (hk_g1 tw_927 (hk_g1 tw_926 (hk_g1 tw_925 (hk_g1 tw_924 (hk_g1 tw_923 (hk_g1 tw_922 (hk_g1 tw_921 (hk_g1 tw_920 (hk_g1 tw_919 (hk_g1 tw_918 (hk_g1 tw_917 (hk_g1 tw_916 (hk_g1 tw_915 (hk_g1 tw_914 (hk_g1 tw_913 (hk_g1 tw_912 (hk_g1 tw_911 (hk_g1 tw_910 (hk_g1 tw_909 (hk_g1 tw_908 (hk_g1 tw_907 (hk_g1 tw_906 (hk_g1 tw_905 (hk_g1 tw_904 (hk_g1 tw_903 (hk_g1 tw_902 hk_g0))))))))))))))))))))))))))))))))))))))))
theorem g_wwM_6 : GoodIn lw_tbl wwM_6 := (hk_g1 tw_981 (hk_g1 tw_980 (hk_g1 tw_979 (hk_g1 tw_978 (hk_g1 tw_977 (hk_g1 tw_976 (hk_g1 tw_975 (hk_g1 tw_974 (hk_g1 tw_973 (hk_g1 tw_972 (hk_g1 tw_971 (hk_g1 tw_970 (hk_g1 tw_969 (hk_g1 tw_968 (hk_g1 tw_967 (hk_g1 tw_966 (hk_g1 tw_965 (hk_g1 tw_964 (hk_g1 tw_963 (hk_g1 tw_962 (hk_g1 tw_961 (hk_g1 tw_960 (hk_g1 tw_959 (hk_g1 tw_958 (hk_g1 tw_957 (hk_g1 tw_956 (hk_g1 tw_955 (hk_g1 tw_954 (hk_g1 tw_953 (hk_g1 tw_952 (hk_g1 tw_951 (hk_g1 tw_950 (hk_g1 tw_949 (hk_g1 tw_948 (hk_g1 tw_947 (hk_g1 tw_946 (hk_g1 tw_945 (hk_g1 tw_944 (hk_g1 tw_943 (hk_g1 tw_942 hk_g0))))))))))))))))))))))))))))))))))))))))
theorem g_wwM_7 : GoodIn lw_tbl wwM_7 := (hk_g1 tw_1021 (hk_g1 tw_1020 (hk_g1 tw_1019 (hk_g1 tw_1018 (hk_g1 tw_1017 (hk_g1 tw_1016 (hk_g1 tw_1015 (hk_g1 tw_1014 (hk_g1 tw_1013 (hk_g1 tw_1012 (hk_g1 tw_1011 (hk_g1 tw_1010 (hk_g1 tw_1009 (hk_g1 tw_1008 (hk_g1 tw_1007 (hk_g1 tw_1006 (hk_g1 tw_1005 (hk_g1 tw_1004 (hk_g1 tw_1003 (hk_g1 tw_1002 (hk_g1 tw_1001 (hk_g1 tw_1000 (hk_g1 tw_999 (hk_g1 tw_998 (hk_g1 tw_997 (hk_g1 tw_996 (hk_g1 tw_995 (hk_g1 tw_994 (hk_g1 tw_993 (hk_g1 tw_992 (hk_g1 tw_991 (hk_g1 tw_990 (hk_g1 tw_989 (hk_g1 tw_988 (hk_g1 tw_987 (hk_g1 tw_986 (hk_g1 tw_985 (hk_g1 tw_984 (hk_g1 tw_983 (hk_g1 tw_982 hk_g0))))))))))))))))))))))))))))))))))))))))
theorem g_wwM_8 : GoodIn lw_tbl wwM_8 := (hk_g1 tw_1061 (hk_g1 tw_1060 (hk_g1 tw_1059 (hk_g1 tw_1058 (hk_g1 tw_1057 (hk_g1 tw_1056 (hk_g1 tw_1055 (hk_g1 tw_1054 (hk_g1 tw_1053 (hk_g1 tw_1052 (hk_g1 tw_1051 (hk_g1 tw_1050 (hk_g1 tw_1049 (hk_g1 tw_1048 (hk_g1 tw_1047 (hk_g1 tw_1046 (hk_g1 tw_1045 (hk_g1 tw_1044 (hk_g1 tw_1043 (hk_g1 tw_1042 (hk_g1 tw_1041 (hk_g1 tw_1040 (hk_g1 tw_1039 (hk_g1 tw_1038 (hk_g1 tw_1037 (hk_g1 tw_1036 (hk_g1 tw_1035 (hk_g1 tw_1034 (hk_g1 tw_1033 (hk_g1 tw_1032 (hk_g1 tw_1031 (hk_g1 tw_1030 (hk_g1 tw_1029 (hk_g1 tw_1028 (hk_g1 tw_1027 (hk_g1 tw_1026 (hk_g1 tw_1025 (hk_g1 tw_1024 (hk_g1 tw_1023 (hk_g1 tw_1022 hk_g0))))))))))))))))))))))))))))))))))))))))
theorem g_wwM_9 : GoodIn lw_tbl wwM_9 := (hk_g1 tw_1101 (hk_g1 tw_1100 (hk_g1 tw_1099 (hk_g1 tw_1098 (hk_g1 tw_1097 (hk_g1 tw_1096 (hk_g1 tw_1095 (hk_g1 tw_1094 (hk_g1 tw_1093 (hk_g1 tw_1092 (hk_g1 tw_1091 (hk_g1 tw_1090 (hk_g1 tw_1089 (hk_g1 tw_1088 (hk_g1 tw_1087 (hk_g1 tw_1086 (hk_g1 tw_1085 (hk_g1 tw_1084 (hk_g1 tw_1083 (hk_g1 tw_1082 (hk_g1 tw_1081 (hk_g1 tw_1080 (hk_g1 tw_1079 (hk_g1 tw_1078 (hk_g1 tw_1077 (hk_g1 tw_1076 (hk_g1 tw_1075 (hk_g1 tw_1074 (hk_g1 tw_1073 (hk_g1 tw_1072 (hk_g1 tw_1071 (hk_g1 tw_1070 (hk_g1 tw_1069 (hk_g1 tw_1068 (hk_g1 tw_1067 (hk_g1 tw_1066 (hk_g1 tw_1065 (hk_g1 tw_1064 (hk_g1 tw_1063 (hk_g1 tw_1062 hk_g0))))))))))))))))))))))))))))))))))))))))
theorem g_wwM_10 : GoodIn lw_tbl wwM_10 := (hk_g1 tw_1141 (hk_g1 tw_1140 (hk_g1 tw_1139 (hk_g1 tw_1138 (hk_g1 tw_1137 (hk_g1 tw_1136 (hk_g1 tw_1135 (hk_g1 tw_1134 (hk_g1 tw_1133 (hk_g1 tw_1132 (hk_g1 tw_1131 (hk_g1 tw_1130 (hk_g1 tw_1129 (hk_g1 tw_1128 (hk_g1 tw_1127 (hk_g1 tw_1126 (hk_g1 tw_1125 (hk_g1 tw_1124 (hk_g1 tw_1123 (hk_g1 tw_1122 (hk_g1 tw_1121 (hk_g1 tw_1120 (hk_g1 tw_1119 (hk_g1 tw_1118 (hk_g1 tw_1117 (hk_g1 tw_1116 (hk_g1 tw_1115 (hk_g1 tw_1114 (hk_g1 tw_1113 (hk_g1 tw_1112 (hk_g1 tw_1111 (hk_g1 tw_1110 (hk_g1 tw_1109 (hk_g1 tw_1108 (hk_g1 tw_1107 (hk_g1 tw_1106 (hk_g1 tw_1105 (hk_g1 tw_1104 (hk_g1 tw_1103 (hk_g1 tw_1102 hk_g0))))))))))))))))))))))))))))))))))))))))
theorem g_wwM_11 : GoodIn lw_tbl wwM_11 := (hk_g1 tw_1181 (hk_g1 tw_1180 (hk_g1 tw_1179 (hk_g1 tw_1178 (hk_g1 tw_1177 (hk_g1 tw_1176 (hk_g1 tw_1175 (hk_g1 tw_1174 (hk_g1 tw_1173 (hk_g1 tw_1172 (hk_g1 tw_1171 (hk_g1 tw_1170 (hk_g1 tw_1169 (hk_g1 tw_1168 (hk_g1 tw_1167 (hk_g1 tw_1166 (hk_g1 tw_1165 (hk_g1 tw_1164 (hk_g1 tw_1163 (hk_g1 tw_1162 (hk_g1 tw_1161 (hk_g1 tw_1160 (hk_g1 tw_1159 (hk_g1 tw_1158 (hk_g1 tw_1157 (hk_g1 tw_1156 (hk_g1 tw_1155 (hk_g1 tw_1154 (hk_g1 tw_1153 (hk_g1 tw_1152 (hk_g1 tw_1151 (hk_g1 tw_1150 (hk_g1 tw_1149 (hk_g1 tw_1148 (hk_g1 tw_1147 (hk_g1 tw_1146 (hk_g1 tw_1145 (hk_g1 tw_1144 (hk_g1 tw_1143 (hk_g1 tw_1142 hk_g0))))))))))))))))))))))))))))))))))))))))
theorem g_wwM_12 : GoodIn lw_tbl wwM_12 := (hk_g1 tw_1183 (hk_g1 tw_1182 hk_g0))
theorem g_wwO_0 : GoodIn lw_tbl wwO_0 := (hk_g1 tw_1234 (hk_g1 tw_1233 (hk_g1 tw_1232 (hk_g1 tw_1231 (hk_g1 tw_1230 (hk_g1 tw_1229 (hk_g1 tw_1228 (hk_g1 tw_1227 (hk_g1 tw_1226 (hk_g1 tw_1225 (hk_g1 tw_1224 (hk_g1 tw_1223 (hk_g1 tw_1222 (hk_g1 tw_1221 (hk_g1 tw_1220 (hk_g1 tw_1219 (hk_g1 tw_1218 (hk_g1 tw_1217 (hk_g1 tw_1216 (hk_g1 tw_1215 (hk_g1 tw_1214 (hk_g1 tw_1213 (hk_g1 tw_1212 (hk_g1 tw_1211 (hk_g1 tw_1210 (hk_g1 tw_1209 (hk_g1 tw_1208 (hk_g1 tw_1207 (hk_g1 tw_1206 (hk_g1 tw_1205 (hk_g1 tw_1204 (hk_g1 tw_1203 (hk_g1 tw_1202 (hk_g1 tw_1201 (hk_g1 tw_1200 (hk_g1 tw_1199 (hk_g1 tw_1198 (hk_g1 tw_1197 (hk_g1 tw_1196 (hk_g1 tw_1195 (hk_g1 tw_1194 (hk_g1 tw_1193 (hk_g1 tw_1192 (hk_g1 tw_1191 (hk_g1 tw_1190 (hk_g1 tw_1189 (hk_g1 tw_1188 (hk_g1 tw_1187 (hk_g1 tw_1186 (hk_g1 tw_1185 (hk_g1 tw_1184 hk_g0)))))))))))))))))))))))))))))))))))))))))))))))))))
theorem g_wwQ_0 : GoodIn lw_tbl wwQ_0 := (hk_g1 tw_1239 (hk_g1 tw_1238 (hk_g1 tw_1237 (hk_g1 tw_192 (hk_g1 tw_1236 (hk_g1 tw_1235 hk_g0))))))
theorem g_wwX : GoodIn lw_tbl wwX := (goodIn_app g_wwX_0 (goodIn_app g_wwX_1 (goodIn_app g_wwX_2 (goodIn_app g_wwX_3 (goodIn_app g_wwX_4 (goodIn_app g_wwX_5 (goodIn_app g_wwX_6 (goodIn_app g_wwX_7 (goodIn_app g_wwX_8 (goodIn_app g_wwX_9 (goodIn_app g_wwX_10 (goodIn_app g_wwX_11 (goodIn_app g_wwX_12 (goodIn_app g_wwX_13 (goodIn_app g_wwX_14 (goodIn_app g_wwX_15 (goodIn_app g_wwX_16 (goodIn_app g_wwX_17 (goodIn_app gb_X0 (goodIn_app gb_X1 (goodIn_app gb_X2 (goodIn_app gb_X3 (goodIn_app gb_X4 (goodIn_app gb_X5 (goodIn_app gb_X6 (goodIn_app gb_X7 (goodIn_app gb_X8 (goodIn_app gb_X9 (goodIn_app gb_X10 (goodIn_app gb_X11 (goodIn_app xg_8l (goodIn_app xg_11l hk_g0))))))))))))))))))))))))))))))))
theorem g_wwM : GoodIn lw_tbl wwM := (goodIn_app g_wwM_0 (goodIn_app g_wwM_1 (goodIn_app g_wwM_2 (goodIn_app g_wwM_3 (goodIn_app g_wwM_4 (goodIn_app g_wwM_5 (goodIn_app g_wwM_6 (goodIn_app g_wwM_7 (goodIn_app g_wwM_8 (goodIn_app g_wwM_9 (goodIn_app g_wwM_10 (goodIn_app g_wwM_11 (goodIn_app g_wwM_12 (goodIn_app gb_X12 hk_g0))))))))))))))
theorem g_wwO : GoodIn lw_tbl wwO := goodIn_app g_wwO_0 g_wwX
theorem g_wwQ : GoodIn lw_tbl wwQ := goodIn_app g_wwQ_0 g_wwX
theorem gl_X11_property : GoodIn lw_tbl (wsV RL 27 RX11 yX11_property (Cond.code yX11_property cX11_property 4 (some .int) :: wwX)) := goodIn_app (hk_g1 tw_1438 (hk_g1 tw_1437 (hk_g1 tw_1436 (hk_g1 tw_192 hk_g0)))) (hk_g1 tw_1439 g_wwX)
theorem gl_X12_property : GoodIn lw_tbl (wsV RL 31 RX12 yX12_property (Cond.code yX12_property cX12_property 4 (some .int) :: wwM)) := goodIn_app (hk_g1 tw_1442 (hk_g1 tw_1441 (hk_g1 tw_1440 (hk_g1 tw_733 hk_g0)))) (hk_g1 tw_1443 g_wwM)
theorem gl_X11_filter : GoodIn lw_tbl (wsV RL 32 RX11 yX11_filter (Cond.code yX11_filter cX11_filter 3 (some .int) :: wwX)) := goodIn_app (hk_g1 tw_1446 (hk_g1 tw_1445 (hk_g1 tw_1444 (hk_g1 tw_192 hk_g0)))) (hk_g1 tw_1447 g_wwX)
theorem gl_X12_filter : GoodIn lw_tbl (wsV RL 35 RX12 yX12_filter (Cond.code yX12_filter cX12_filter 3 (some .int) :: wwM)) := goodIn_app (hk_g1 tw_1450 (hk_g1 tw_1449 (hk_g1 tw_1448 (hk_g1 tw_733 hk_g0)))) (hk_g1 tw_1451 g_wwM)
theorem gl_X11_feed : GoodIn lw_tbl (wsV RL 36 RX11 yX11_feed (Cond.code yX11_feed cX11_feed 6 (some .int) :: wwX)) := goodIn_app (hk_g1 tw_1454 (hk_g1 tw_1453 (hk_g1 tw_1452 (hk_g1 tw_192 hk_g0)))) (hk_g1 tw_1455 g_wwX)
theorem gl_X12_feed : GoodIn lw_tbl (wsV RL 40 RX12 yX12_feed (Cond.code yX12_feed cX12_feed 8 (some .int) :: wwM)) := goodIn_app (hk_g1 tw_1458 (hk_g1 tw_1457 (hk_g1 tw_1456 (hk_g1 tw_733 hk_g0)))) (hk_g1 tw_1459 g_wwM)
theorem gl_X11_end : GoodIn lw_tbl (wsV RL 41 RX11 yX11_end (Cond.code yX11_end cX11_end 2 (some .int) :: wwX)) := goodIn_app (hk_g1 tw_1462 (hk_g1 tw_1461 (hk_g1 tw_1460 (hk_g1 tw_192 hk_g0)))) (hk_g1 tw_1463 g_wwX)
theorem gl_X12_end : GoodIn lw_tbl (wsV RL 44 RX12 yX12_end (Cond.code yX12_end cX12_end 2 (some .int) :: wwM)) := goodIn_app (hk_g1 tw_1466 (hk_g1 tw_1465 (hk_g1 tw_1464 (hk_g1 tw_733 hk_g0)))) (hk_g1 tw_1467 g_wwM)
theorem gl_X11_octet : GoodIn lw_tbl (wsV RL 45 RX11 yX11_octet (Cond.code yX11_octet cX11_octet 2 (some .int) :: wwX)) := goodIn_app (hk_g1 tw_1470 (hk_g1 tw_1469 (hk_g1 tw_1468 (hk_g1 tw_192 hk_g0)))) (hk_g1 tw_1471 g_wwX)
theorem gl_X12_octet : GoodIn lw_tbl (wsV RL 48 RX12 yX12_octet (Cond.code yX12_octet cX12_octet 2 (some .int) :: wwM)) := goodIn_app (hk_g1 tw_1474 (hk_g1 tw_1473 (hk_g1 tw_1472 (hk_g1 tw_733 hk_g0)))) (hk_g1 tw_1475 g_wwM)
theorem gl_X11_pack : GoodIn lw_tbl (wsV RL 49 RX11 yX11_pack (Cond.code yX11_pack cX11_pack 5 (some .int) :: wwX)) := goodIn_app (hk_g1 tw_1478 (hk_g1 tw_1477 (hk_g1 tw_1476 (hk_g1 tw_192 hk_g0)))) (hk_g1 tw_1479 g_wwX)
theorem gl_X12_pack : GoodIn lw_tbl (wsV RL 52 RX12 yX12_pack (Cond.code yX12_pack cX12_pack 3 (some .int) :: wwM)) := goodIn_app (hk_g1 tw_1482 (hk_g1 tw_1481 (hk_g1 tw_1480 (hk_g1 tw_733 hk_g0)))) (hk_g1 tw_1483 g_wwM)
theorem gl_X11_open : GoodIn lw_tbl (wsV RL 53 RX11 yX11_open (Cond.codeWith yX11_open cX11_open 4 (some .int) [(10, 148, 151, 199)] :: wwO)) := goodIn_app (hk_g1 tw_1486 (hk_g1 tw_1485 (hk_g1 tw_1484 (hk_g1 tw_192 hk_g0)))) (hk_g1 tw_1487 g_wwO)
theorem gl_X12_open : GoodIn lw_tbl (wsV RL 56 RX12 yX12_open (Cond.code yX12_open cX12_open 3 (some .int) :: wwM)) := goodIn_app (hk_g1 tw_1490 (hk_g1 tw_1489 (hk_g1 tw_1488 (hk_g1 tw_733 hk_g0)))) (hk_g1 tw_1491 g_wwM)
theorem gl_X11_rule : GoodIn lw_tbl (wsV RL 57 RX11 yX11_rule (Cond.code yX11_rule cX11_rule 1 (some .int) :: wwX)) := goodIn_app (hk_g1 tw_1494 (hk_g1 tw_1493 (hk_g1 tw_1492 (hk_g1 tw_192 hk_g0)))) (hk_g1 tw_1495 g_wwX)
theorem gl_X12_rule : GoodIn lw_tbl (wsV RL 61 RX12 yX12_rule (Cond.code yX12_rule cX12_rule 1 (some .int) :: wwM)) := goodIn_app (hk_g1 tw_1498 (hk_g1 tw_1497 (hk_g1 tw_1496 (hk_g1 tw_733 hk_g0)))) (hk_g1 tw_1499 g_wwM)
theorem gl_X11_pass : GoodIn lw_tbl (wsV RL 62 RX11 yX11_pass (Cond.code yX11_pass cX11_pass 2 (some .int) :: wwX)) := goodIn_app (hk_g1 tw_1502 (hk_g1 tw_1501 (hk_g1 tw_1500 (hk_g1 tw_192 hk_g0)))) (hk_g1 tw_1503 g_wwX)
theorem gl_X12_pass : GoodIn lw_tbl (wsV RL 65 RX12 yX12_pass (Cond.code yX12_pass cX12_pass 2 (some .int) :: wwM)) := goodIn_app (hk_g1 tw_1506 (hk_g1 tw_1505 (hk_g1 tw_1504 (hk_g1 tw_733 hk_g0)))) (hk_g1 tw_1507 g_wwM)
theorem gl_X12_out : GoodIn lw_tbl (wsV RL 69 RX12 yX12_out (Cond.code yX12_out cX12_out 2 (some .int) :: wwM)) := goodIn_app (hk_g1 tw_1510 (hk_g1 tw_1509 (hk_g1 tw_1508 (hk_g1 tw_733 hk_g0)))) (hk_g1 tw_1511 g_wwM)
theorem gl_X11_step : GoodIn lw_tbl (wsV RL 70 RX11 yX11_step (Cond.code yX11_step cX11_step 3 (some .int) :: wwX)) := goodIn_app (hk_g1 tw_1514 (hk_g1 tw_1513 (hk_g1 tw_1512 (hk_g1 tw_192 hk_g0)))) (hk_g1 tw_1515 g_wwX)
theorem gl_X12_step : GoodIn lw_tbl (wsV RL 73 RX12 yX12_step (Cond.code yX12_step cX12_step 3 (some .int) :: wwM)) := goodIn_app (hk_g1 tw_1518 (hk_g1 tw_1517 (hk_g1 tw_1516 (hk_g1 tw_733 hk_g0)))) (hk_g1 tw_1519 g_wwM)
theorem gl_X11_state : GoodIn lw_tbl (wsV RL 74 RX11 yX11_state (Cond.code yX11_state cX11_state 1 (some .int) :: wwX)) := goodIn_app (hk_g1 tw_1522 (hk_g1 tw_1521 (hk_g1 tw_1520 (hk_g1 tw_192 hk_g0)))) (hk_g1 tw_1523 g_wwX)
theorem gl_X12_state : GoodIn lw_tbl (wsV RL 77 RX12 yX12_state (Cond.code yX12_state cX12_state 1 (some .int) :: wwM)) := goodIn_app (hk_g1 tw_1526 (hk_g1 tw_1525 (hk_g1 tw_1524 (hk_g1 tw_733 hk_g0)))) (hk_g1 tw_1527 g_wwM)
theorem gl_X11_block : GoodIn lw_tbl (wsV RL 78 RX11 yX11_block (Cond.code yX11_block cX11_block 3 (some .int) :: wwX)) := goodIn_app (hk_g1 tw_1530 (hk_g1 tw_1529 (hk_g1 tw_1528 (hk_g1 tw_192 hk_g0)))) (hk_g1 tw_1531 g_wwX)
theorem gl_X12_block : GoodIn lw_tbl (wsV RL 81 RX12 yX12_block (Cond.code yX12_block cX12_block 3 (some .int) :: wwM)) := goodIn_app (hk_g1 tw_1534 (hk_g1 tw_1533 (hk_g1 tw_1532 (hk_g1 tw_733 hk_g0)))) (hk_g1 tw_1535 g_wwM)
theorem gl_X11_check : GoodIn lw_tbl (wsV RL 82 RX11 yX11_check (Cond.code yX11_check cX11_check 3 (some .int) :: wwX)) := goodIn_app (hk_g1 tw_1538 (hk_g1 tw_1537 (hk_g1 tw_1536 (hk_g1 tw_192 hk_g0)))) (hk_g1 tw_1539 g_wwX)
theorem gl_X12_check : GoodIn lw_tbl (wsV RL 85 RX12 yX12_check (Cond.code yX12_check cX12_check 5 (some .int) :: wwM)) := goodIn_app (hk_g1 tw_1542 (hk_g1 tw_1541 (hk_g1 tw_1540 (hk_g1 tw_733 hk_g0)))) (hk_g1 tw_1543 g_wwM)
theorem gl_X11_turn : GoodIn lw_tbl (wsV RL 86 RX11 yX11_turn (Cond.code yX11_turn cX11_turn 4 (some .int) :: wwX)) := goodIn_app (hk_g1 tw_1546 (hk_g1 tw_1545 (hk_g1 tw_1544 (hk_g1 tw_192 hk_g0)))) (hk_g1 tw_1547 g_wwX)
theorem gl_X12_turn : GoodIn lw_tbl (wsV RL 90 RX12 yX12_turn (Cond.code yX12_turn cX12_turn 5 (some .int) :: wwM)) := goodIn_app (hk_g1 tw_1550 (hk_g1 tw_1549 (hk_g1 tw_1548 (hk_g1 tw_733 hk_g0)))) (hk_g1 tw_1551 g_wwM)
theorem gl_X11_count : GoodIn lw_tbl (wsV RL 91 RX11 yX11_count (Cond.code yX11_count cX11_count 2 (some .int) :: wwX)) := goodIn_app (hk_g1 tw_1554 (hk_g1 tw_1553 (hk_g1 tw_1552 (hk_g1 tw_192 hk_g0)))) (hk_g1 tw_1555 g_wwX)
theorem gl_X12_count : GoodIn lw_tbl (wsV RL 94 RX12 yX12_count (Cond.code yX12_count cX12_count 2 (some .int) :: wwM)) := goodIn_app (hk_g1 tw_1558 (hk_g1 tw_1557 (hk_g1 tw_1556 (hk_g1 tw_733 hk_g0)))) (hk_g1 tw_1559 g_wwM)
theorem gl_cell : GoodIn lw_tbl (va_wsS RL 15 yL_cell ww_cell) := goodIn_app (hk_g1 tw_1562 (hk_g1 tw_1561 (hk_g1 tw_1560 hk_g0))) (hk_g1 tw_1563 (goodIn_app hk_g0 hk_g0))
theorem gl_lout : GoodIn lw_tbl (va_wsS RL 66 yL_out (Cond.codeWith yL_out cL_out 4 (some .int) [(0, 9, 12, 13)] :: wwQ)) := goodIn_app (hk_g1 tw_1565 (hk_g1 tw_1564 (hk_g1 tw_1560 hk_g0))) (hk_g1 tw_1566 g_wwQ)
theorem gl_X11 : GoodIn lw_tbl ww_cc_X11 := (hk_g1 tw_1567 (hk_g1 tw_1640 (hk_g1 tw_1639 (hk_g1 tw_1638 (hk_g1 tw_101 (hk_g1 tw_1637 (hk_g1 tw_1636 (hk_g1 tw_107 (hk_g1 tw_1635 (hk_g1 tw_1634 (hk_g1 tw_66 (hk_g1 tw_67 (hk_g1 tw_68 (hk_g1 tw_65 (hk_g1 tw_62 (hk_g1 tw_61 (hk_g1 tw_57 (hk_g1 tw_1633 (hk_g1 tw_1632 (hk_g1 tw_111 (hk_g1 tw_1631 (hk_g1 tw_1630 (hk_g1 tw_15 (hk_g1 tw_1629 (hk_g1 tw_1628 (hk_g1 tw_1627 (hk_g1 tw_682 (hk_g1 tw_1626 (hk_g1 tw_1625 (hk_g1 tw_116 (hk_g1 tw_43 (hk_g1 tw_1624 (hk_g1 tw_1623 (hk_g1 tw_267 (hk_g1 tw_1622 (hk_g1 tw_1621 (hk_g1 tw_692 (hk_g1 tw_1620 (hk_g1 tw_1619 (hk_g1 tw_1618 (hk_g1 tw_1617 (hk_g1 tw_224 (hk_g1 tw_1616 (hk_g1 tw_1615 (hk_g1 tw_249 (hk_g1 tw_1614 (hk_g1 tw_1613 (hk_g1 tw_271 (hk_g1 tw_312 (hk_g1 tw_253 (hk_g1 tw_1612 (hk_g1 tw_1611 (hk_g1 tw_1610 (hk_g1 tw_1609 (hk_g1 tw_322 (hk_g1 tw_1608 (hk_g1 tw_325 (hk_g1 tw_1607 (hk_g1 tw_1606 (hk_g1 tw_95 (hk_g1 tw_1605 (hk_g1 tw_1604 (hk_g1 tw_27 (hk_g1 tw_1603 (hk_g1 tw_1602 (hk_g1 tw_30 (hk_g1 tw_6 (hk_g1 tw_10 (hk_g1 tw_1601 (hk_g1 tw_1600 (hk_g1 tw_44 (hk_g1 tw_1599 (hk_g1 tw_1598 (hk_g1 tw_50 (hk_g1 tw_1597 (hk_g1 tw_1596 (hk_g1 tw_337 (hk_g1 tw_339 (hk_g1 tw_1595 (hk_g1 tw_1594 (hk_g1 tw_55 (hk_g1 tw_1593 (hk_g1 tw_1592 (hk_g1 tw_157 (hk_g1 tw_1591 (hk_g1 tw_1590 (hk_g1 tw_585 (hk_g1 tw_565 (hk_g1 tw_590 (hk_g1 tw_586 (hk_g1 tw_648 (hk_g1 tw_588 (hk_g1 tw_1589 (hk_g1 tw_1588 (hk_g1 tw_164 (hk_g1 tw_1587 (hk_g1 tw_1586 (hk_g1 tw_213 (hk_g1 tw_229 (hk_g1 tw_216 (hk_g1 tw_218 (hk_g1 tw_211 (hk_g1 tw_276 (hk_g1 tw_230 (hk_g1 tw_1585 (hk_g1 tw_1584 (hk_g1 tw_629 (hk_g1 tw_1583 (hk_g1 tw_1582 (hk_g1 tw_81 (hk_g1 tw_1581 (hk_g1 tw_1580 (hk_g1 tw_478 (hk_g1 tw_1579 (hk_g1 tw_1578 (hk_g1 tw_360 (hk_g1 tw_429 (hk_g1 tw_426 (hk_g1 tw_597 (hk_g1 tw_428 (hk_g1 tw_1577 (hk_g1 tw_1576 (hk_g1 tw_292 (hk_g1 tw_1575 (hk_g1 tw_1574 (hk_g1 tw_304 (hk_g1 tw_287 (hk_g1 tw_286 (hk_g1 tw_1573 (hk_g1 tw_1572 (hk_g1 tw_416 (hk_g1 tw_1571 (hk_g1 tw_1570 (hk_g1 tw_556 (hk_g1 tw_1569 (hk_g1 tw_1568 (hk_g1 tw_105 (hk_g1 tw_102 (hk_g1 tw_93 (goodIn_app hk_g0 (goodIn_app gb_X11 (goodIn_app gb_X10 (goodIn_app gb_X9 (goodIn_app gb_X8 (goodIn_app gb_X5 (goodIn_app gb_X2 (goodIn_app gb_X0 (goodIn_app gb_X4 (goodIn_app gb_X7 (goodIn_app gb_X1 (goodIn_app gb_X6 (goodIn_app gb_X3 hk_g0))))))))))))))))))))))))))))))))))))))))))))))))))))))))))))))))))))))))))))))))))))))))))))))))))))))))))))))))))))))))))))))))))))))))))))))))))))))))
theorem gl_X12 : GoodIn lw_tbl ww_cc_X12 := (hk_g1 tw_1641 (hk_g1 tw_1643 (hk_g1 tw_1639 (hk_g1 tw_1638 (hk_g1 tw_1113 (hk_g1 tw_1112 (hk_g1 tw_935 (hk_g1 tw_1070 (hk_g1 tw_1083 (hk_g1 tw_1088 (hk_g1 tw_1627 (hk_g1 tw_938 (hk_g1 tw_861 (hk_g1 tw_740 (hk_g1 tw_752 (hk_g1 tw_722 (hk_g1 tw_852 (hk_g1 tw_791 (hk_g1 tw_714 (hk_g1 tw_713 (hk_g1 tw_712 (hk_g1 tw_711 (hk_g1 tw_796 (hk_g1 tw_795 (hk_g1 tw_794 (hk_g1 tw_793 (hk_g1 tw_792 (hk_g1 tw_948 (hk_g1 tw_934 (hk_g1 tw_916 (hk_g1 tw_1129 (hk_g1 tw_1118 (hk_g1 tw_880 (hk_g1 tw_879 (hk_g1 tw_851 (hk_g1 tw_1008 (hk_g1 tw_1007 (hk_g1 tw_961 (hk_g1 tw_1642 (goodIn_app hk_g0 (goodIn_app gb_X12 hk_g0)))))))))))))))))))))))))))))))))))))))))
